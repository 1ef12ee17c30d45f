section
/-! holds in the law's words -/
section BCA
variable {K : et_K} {G : eg_G} {d d2 th s0 s1 ya yb ec nc la ly out e ca ki kn am aw n m k c q a b : Nat} {O : Nat → Nat} {A : Nat → Nat → Nat} {v : evT} {V : Nat → evT} {X : Nat → Int32} {Y : Nat → Nat} {x y z : Int32} {ra rc fo r cc ca cb cm : Nat} {D : Nat → Prop} {φ : Nat → sp_E → Bool} {R0 : Nat → Nat} {g : Nat → sp_E → Bool} {T : Nat → Nat} {L : Nat → clT}
theorem fz_ho (hH : et_H et_TT K G) (k_th0 : K th = some 12) (h00 : et_pl (eg_at G th) 0 = some (.ref s0)) (k_s00 : K s0 = some 10) (k_s1 : K s1 = some 10) (h5 : et_pl (eg_at G s0) 5 = some (.int (Int32.ofNat ec))) (hec : ec ≤ 3) (t : ezK K ya yb O A) (hz : ez G th s0 s1 ya yb O A V) (ho : ∀ n, n < 6 → evo (V n)) (g2 : et_pl (eg_at G s0) 2 = some (.int (Int32.ofNat nc))) (hnc : nc ≤ 20) (hcc : ccP G s0 la ly nc X Y) (k_la : K la = some 17) (k_ly : K ly = some 27) (k_out : K out = some 31) (tR : rxK K D φ th s0 ra fo) (hx9 : rx D φ th s0 ra rc fo G) (hR : ∀ k, k < rc → D (R0 k) ∧ et_pl (eg_at G ra) k = some (.ref (R0 k))) (g9 : et_pl (eg_at G s0) 9 = some (.int (Int32.ofNat cc))) (hcc6 : cc ≤ 6) (g10 : et_pl (eg_at G s0) 10 = some (.ref cm)) (k_cm : K cm = some 39) (hQ : cqE K G cm cc ec rc T L) (hd : 36 ≤ d2) : et_go none d2 29 0 (eg_en (eg_mL 29) [.ref th, .int x, .ref out]) [] G 0 0 (fun u => (¬ xr x cc ∧ u.1 = .inl (some (.int (Int32.ofNat 1)))) ∨ ∃ k, (x = Int32.ofNat k ∧ k < cc) ∧ u.1 = .inl (some (.int (Int32.ofNat 0))) ∧ et_pl (eg_at u.2.1 out) 0 = some (.long (Int64.ofNat (if (clV (L k).2.2 (φ (R0 (L k).2.1)) (V (L k).1) X Y nc) = true then 1 else 0)))) := by
  obtain ⟨hrk, ⟨h0, h4⟩, ⟨r0, r1, hrc⟩, hq⟩ := hx9
  obtain ⟨tD, k_th, k_s0, k_ra, k_fo⟩ := tR
  by_cases hx : xr x cc
  · obtain ⟨k, rfl, hk⟩ := xr_nat hx (by omega)
    obtain ⟨⟨hC, k_cl, bb2, fl, ⟨c0, k_bb2, lo2, hi2, hdc⟩, ⟨c1, c2, c3⟩, hfl, hnu⟩, hcl2, hn, hr⟩ := hQ k hk
    obtain ⟨hDn, hRr⟩ := hR _ hr
    obtain ⟨bb, lo, hi, q0, hdn, hTb⟩ := hrk _ hDn
    obtain ⟨k_q, hcl⟩ := tD _ hDn
    exact (fh_ho hH k_th h0 k_s0 h5 hec hz.1.1 t.1.1 hn (hz.2.1 _ (by omega)).1 (t.ev (ho _ (by omega)) (by omega)) (hz.2.2.1 _ (by omega)) r0 hrc r1 k_ra hr hRr k_q q0 (cond_ty hH k_q q0) hdn hTb hcl h4 k_fo g2 hnc hcc k_la k_ly k_cl c0 k_bb2 hdc hcl2 c1 c2 c3 hfl hnu g9 hcc6 g10 k_cm hk hC k_out hd).mono (fun u hu => .inr ⟨k, ⟨rfl, hk⟩, hu.1, hu.2⟩)
  · exact (fh_hoN hH k_th h0 k_s0 g9 hcc6 g10 k_cm hx (by omega)).mono (fun u hu => .inl ⟨hx, hu.1⟩)
theorem gz_ho (hH : et_H et_TT K G) (k_am : K am = some 13) (k_aw : K aw = some 46) (m1 : et_pl (eg_at G am) 1 = some (.ref aw)) (w0 : et_pl (eg_at G aw) 0 = some (.int (Int32.ofNat rc))) (hrc : rc ≤ 4) (w4 : et_pl (eg_at G aw) 4 = some (.int (Int32.ofNat ec))) (hec : ec ≤ 3) (hm : zyM G aw ec V) (ho : ∀ n, n < 3 → evo (V n)) (hT : ∀ r, r < rc → txP G aw (126 + 841 * r) 0 (g r) ∧ fcl (g r)) (hky : kyA G am aw rc) (w3 : et_pl (eg_at G aw) 3 = some (.int (Int32.ofNat nc))) (hnc : nc ≤ 20) (hcr : crP G aw nc X Y) (w2 : et_pl (eg_at G aw) 2 = some (.int (Int32.ofNat cc))) (hcc6 : cc ≤ 6) (hX : cqX G aw cc L) (hB : ∀ k, k < cc → cl02 (L k).2.2 ∧ (L k).1 < ec ∧ (L k).2.1 < rc) (hd : 11 ≤ d2) : et_go none d2 291 0 (eg_en (eg_mL 291) [.ref am, .int x]) [] G 0 0 (fun u => (¬ xr x cc ∧ u.1 = .inl (some (.int (Int32.ofNat 0))) ∧ et_pl (eg_at u.2.1 am) 0 = some (.int (Int32.ofNat 1))) ∨ ∃ k, (x = Int32.ofNat k ∧ k < cc) ∧ u.1 = .inl (some (.int (Int32.ofNat (if (clV (L k).2.2 (g (L k).2.1) (V (L k).1) X Y nc) = true then 1 else 0)))) ∧ et_pl (eg_at u.2.1 am) 0 = some (.int (Int32.ofNat 0))) := by
  by_cases hx : xr x cc
  · obtain ⟨k, rfl, hk⟩ := xr_nat hx (by omega)
    obtain ⟨⟨p1, p2⟩, hT2⟩ := hX k hk
    obtain ⟨hcl2, hn, hr⟩ := hB k hk
    exact (fn_ho hH k_am k_aw m1 w0 hrc w4 hec hm ho hT hky w3 hnc hcr p1 p2 (by omega) hT2 hcl2 w2 hcc6 hk hn hr hd).mono (fun u hu => .inr ⟨k, ⟨rfl, hk⟩, hu.1, hu.2⟩)
  · exact (fn_hoN hH k_am k_aw m1 w0 hrc w4 hec hm ho hT hky w3 hnc hcr w2 hcc6 hx (by omega)).mono (fun u hu => .inl ⟨hx, hu.1, hu.2⟩)
end BCA
end
section
section BDA
variable {K : et_K} {G G0 : eg_G} {b : Nat → Nat} {d2 d am aw ai tm n p pl k dp m i r : Nat}
theorem fm_turnerG (hH : et_H et_TT K G) (k_am : K am = some 13) (m4 : et_pl (eg_at G am) 4 = some (.ref tm)) (k_tm : K tm = some 34) (m5 : et_pl (eg_at G am) 5 = some (.int (Int32.ofNat n))) (hn : n ≤ 400) (ht : ∀ i, i < n → et_pl (eg_at G tm) i = some (.int (sx (b i)))) (hb : ∀ i, i < n → b i < 256) (k_aw : K aw = some 46) (m1 : et_pl (eg_at G am) 1 = some (.ref aw)) (w1 : et_pl (eg_at G aw) 1 = some (.int (Int32.ofNat r))) (hr : r ≤ 4) (hd : 35 ≤ d2) : et_go none d2 206 0 (eg_en (eg_mL 206) [.ref am]) [] G 0 0 (xn_Z (fun c j => (c = am ∧ (j = 0 ∨ ((5 ≤ j ∧ j ≤ 10) ∨ (12 ≤ j ∧ j ≤ 13)))) ∨ ((c = aw ∧ (j = 1 ∨ ((r < 4 ∧ (126 + 841 * (4 + r) ≤ j ∧ j < 126 + 841 * (4 + r) + 841)) ∨ 11900 ≤ j))))) G (tuP am aw r (sp_turner (tz_ts 1 b n 0)))) := by
  obtain ⟨d, rfl⟩ : ∃ d, d2 = d + 35 := ⟨d2 - 35, by omega⟩
  rw [show eg_mL 206 = 1 from by decide +kernel]
  show et_go none (d + 35) 206 0 [some (.ref am)] [] G 0 0 (xn_Z _ _ _)
  have hne : ¬ aw = am := hi_ne k_aw k_am (by decide)
  have lt_am := (hH.2.2 _ _ k_am).1
  have lt_tm := (hH.2.2 _ _ k_tm).1
  have lt_aw := (hH.2.2 _ _ k_aw).1
  have hX : xf (fun c j => (c = am ∧ j = 0) ∨ (c = am ∧ (5 ≤ j ∧ j ≤ 10)) ∨ (c = am ∧ (12 ≤ j ∧ j ≤ 13)) ∨ (c = aw ∧ 11900 ≤ j)) G G := xf.rf
  refine hs_aload (i := 0) (p := 1) (by decide +kernel) rfl ?_
  refine ht_callv (T := et_TT) (t := 13) (mi := 181) (na := 0) (ci := 11) (lk := 1) (lm := 1) (L0 := eg_en (eg_mL 181) [.ref am]) (by decide +kernel) rfl hH k_am rfl rfl rfl rfl rfl (by rw [show eg_mL 181 = 1 from by decide +kernel]; first | done | rfl) ?_
  refine (fm_uses hH k_am hn m5).mono (fun u hu => xw_cb hu (fun G1 v1 hH x1 hP1 => ?_))
  have x1 : xf (fun c j => (c = am ∧ j = 0) ∨ (c = am ∧ (5 ≤ j ∧ j ≤ 7)) ∨ (c = am ∧ j = 12)) _ _ := x1
  have m4 := (x1.2 am 4 lt_am (fun h => Or.elim h (fun h => absurd h.2 (by decide)) (fun h => Or.elim h (fun h => absurd h.2 (by decide)) (fun h => absurd h.2 (by decide))))).trans m4
  have m1 := (x1.2 am 1 lt_am (fun h => Or.elim h (fun h => absurd h.2 (by decide)) (fun h => Or.elim h (fun h => absurd h.2 (by decide)) (fun h => absurd h.2 (by decide))))).trans m1
  have w1 := (x1.2 aw 1 lt_aw (fun h => Or.elim h (fun h => hne h.1) (fun h => Or.elim h (fun h => hne h.1) (fun h => hne h.1)))).trans w1
  have ht : ∀ i, i < n → et_pl (eg_at G1 tm) i = some (.int (sx (b i))) := fun i hi => (x1.2 tm i lt_tm (fun h => Or.elim h (fun h => (hi_ne k_tm k_am (by decide)) h.1) (fun h => Or.elim h (fun h => (hi_ne k_tm k_am (by decide)) h.1) (fun h => (hi_ne k_tm k_am (by decide)) h.1)))).trans (ht i hi)
  have lt_am := Nat.lt_of_lt_of_le lt_am x1.1
  have lt_tm := Nat.lt_of_lt_of_le lt_tm x1.1
  have lt_aw := Nat.lt_of_lt_of_le lt_aw x1.1
  have hX := hX.tr x1 (fun b j hb h => by first | omega | (dsimp only at h ⊢; omega) | (dsimp only at h; omega) | (dsimp only; omega))
  obtain ⟨rfl, q0, q5, q6, q7, q12⟩ := hP1
  show et_go none _ 206 4 _ [] _ _ _ _
  refine hs_aload (i := 0) (p := 5) (by decide +kernel) rfl ?_
  refine hs_aload (i := 0) (p := 6) (by decide +kernel) rfl ?_
  refine hs_k (x := Int32.ofNat 1) (p := 7) (by decide +kernel) ?_
  refine ht_callv (T := et_TT) (t := 13) (mi := 182) (na := 1) (ci := 11) (lk := 1) (lm := 3) (L0 := eg_en (eg_mL 182) [.ref am, .int (Int32.ofNat 1)]) (by decide +kernel) rfl hH k_am rfl rfl rfl rfl rfl (by rw [show eg_mL 182 = 3 from by decide +kernel]; first | done | rfl) ?_
  refine (fr_reads_tur (pl := 1) (k := 0) (p := 0) hH k_am m4 k_tm q7 hn ht hb q6 tal0 (by decide) k_aw m1 q12 rfl rfl (by omega)).mono (fun u hu => xw_cb hu (fun G7 v7 hH x7 hP7 => ?_))
  have x7 : xf (fun c j => (c = am ∧ j = 6) ∨ (c = am ∧ (8 ≤ j ∧ j ≤ 10)) ∨ (c = am ∧ (12 ≤ j ∧ j ≤ 13)) ∨ (c = aw ∧ 11900 ≤ j)) _ _ := x7
  have m4 := (x7.2 am 4 lt_am (fun h => Or.elim h (fun h => absurd h.2 (by decide)) (fun h => Or.elim h (fun h => absurd h.2 (by decide)) (fun h => Or.elim h (fun h => absurd h.2 (by decide)) (fun h => (hi_ne k_am k_aw (by decide)) h.1))))).trans m4
  have q5 := (x7.2 am 5 lt_am (fun h => Or.elim h (fun h => absurd h.2 (by decide)) (fun h => Or.elim h (fun h => absurd h.2 (by decide)) (fun h => Or.elim h (fun h => absurd h.2 (by decide)) (fun h => (hi_ne k_am k_aw (by decide)) h.1))))).trans q5
  have m1 := (x7.2 am 1 lt_am (fun h => Or.elim h (fun h => absurd h.2 (by decide)) (fun h => Or.elim h (fun h => absurd h.2 (by decide)) (fun h => Or.elim h (fun h => absurd h.2 (by decide)) (fun h => (hi_ne k_am k_aw (by decide)) h.1))))).trans m1
  have w1 := (x7.2 aw 1 lt_aw (fun h => Or.elim h (fun h => hne h.1) (fun h => Or.elim h (fun h => hne h.1) (fun h => Or.elim h (fun h => hne h.1) (fun h => by have h := h.2; omega))))).trans w1
  have q0 := (x7.2 am 0 lt_am (fun h => Or.elim h (fun h => absurd h.2 (by decide)) (fun h => Or.elim h (fun h => absurd h.2 (by decide)) (fun h => Or.elim h (fun h => absurd h.2 (by decide)) (fun h => (hi_ne k_am k_aw (by decide)) h.1))))).trans q0
  have q7 := (x7.2 am 7 lt_am (fun h => Or.elim h (fun h => absurd h.2 (by decide)) (fun h => Or.elim h (fun h => absurd h.2 (by decide)) (fun h => Or.elim h (fun h => absurd h.2 (by decide)) (fun h => (hi_ne k_am k_aw (by decide)) h.1))))).trans q7
  have ht : ∀ i, i < n → et_pl (eg_at G7 tm) i = some (.int (sx (b i))) := fun i hi => (x7.2 tm i lt_tm (fun h => Or.elim h (fun h => (hi_ne k_tm k_am (by decide)) h.1) (fun h => Or.elim h (fun h => (hi_ne k_tm k_am (by decide)) h.1) (fun h => Or.elim h (fun h => (hi_ne k_tm k_am (by decide)) h.1) (fun h => (hi_ne k_tm k_aw (by decide)) h.1))))).trans (ht i hi)
  have lt_am := Nat.lt_of_lt_of_le lt_am x7.1
  have lt_tm := Nat.lt_of_lt_of_le lt_tm x7.1
  have lt_aw := Nat.lt_of_lt_of_le lt_aw x7.1
  have hX := hX.tr x7 (fun b j hb h => by first | omega | (dsimp only at h ⊢; omega) | (dsimp only at h; omega) | (dsimp only; omega))
  rcases hP7 with ⟨sq, rfl⟩ | ⟨ls_, sq, rfl, g1, g2, g3⟩
  · have hP : PT aw 1 (sp_turner (tz_ts 1 b n 0)) G7 (some (.int (Int32.ofNat 0))) := .inl ⟨sq, rfl⟩
    show et_go none _ 206 10 _ [.int (Int32.ofNat 0), .ref am] _ _ _ _
    refine hs_if0 (c := .ne) (t := 17) (f := 13) (by decide +kernel) (show ¬ (¬ Int32.ofNat 0 = 0) by decide) ?_
    refine hs_k (x := Int32.ofNat 1) (p := 14) (by decide +kernel) ?_
    refine hs_goto (p := 18) (by decide +kernel) ?_
    refine hs_k (x := Int32.ofNat 1) (p := 19) (by decide +kernel) ?_
    refine ht_callv (T := et_TT) (t := 13) (mi := 204) (na := 2) (ci := 11) (lk := 1) (lm := 3) (L0 := eg_en (eg_mL 204) [.ref am, .int (Int32.ofNat 1), .int (Int32.ofNat 1)]) (by decide +kernel) rfl hH k_am rfl rfl rfl rfl rfl (by rw [show eg_mL 204 = 3 from by decide +kernel]; first | done | rfl) ?_
    refine (fm_t1 hH k_am).mono (fun u hu => xw_cb hu (fun G19 v19 hH x19 hP19 => ?_))
    have hP := hP.fr x19 lt_aw (fun j hs => hne hs.1)
    have m4 := (x19.2 am 4 lt_am (fun h => absurd h.2 (by decide))).trans m4
    have q5 := (x19.2 am 5 lt_am (fun h => absurd h.2 (by decide))).trans q5
    have m1 := (x19.2 am 1 lt_am (fun h => absurd h.2 (by decide))).trans m1
    have w1 := (x19.2 aw 1 lt_aw (fun h => hne h.1)).trans w1
    have q7 := (x19.2 am 7 lt_am (fun h => absurd h.2 (by decide))).trans q7
    have ht : ∀ i, i < n → et_pl (eg_at G19 tm) i = some (.int (sx (b i))) := fun i hi => (x19.2 tm i lt_tm (fun h => (hi_ne k_tm k_am (by decide)) h.1)).trans (ht i hi)
    have lt_am := Nat.lt_of_lt_of_le lt_am x19.1
    have lt_tm := Nat.lt_of_lt_of_le lt_tm x19.1
    have lt_aw := Nat.lt_of_lt_of_le lt_aw x19.1
    have hX := hX.tr x19 (fun b j hb h => by first | omega | (dsimp only at h ⊢; omega) | (dsimp only at h; omega) | (dsimp only; omega))
    obtain ⟨rfl, th19⟩ := hP19
    show et_go none _ 206 22 _ [.int (Int32.ofNat 1)] _ _ _ _
    refine hs_if1 (c := .ne) (t := 48) (f := 25) (by decide +kernel) (show ¬ Int32.ofNat 1 = 0 by decide) ?_
    refine hs_k (x := Int32.ofNat 0) (p := 49) (by decide +kernel) ?_
    refine hs_iret (by decide +kernel) ?_
    rcases hP with ⟨sq, -⟩ | ⟨_, _, hz, _⟩
    · exact ⟨_, _, rfl, hX.wk (fun c j _ h => by first | omega | (dsimp only at h ⊢; omega)), .inl ⟨sq, rfl, th19, w1⟩⟩
    · cases hz
  · have hP : PT aw 1 (sp_turner (tz_ts 1 b n 0)) G7 (some (.int (Int32.ofNat 1))) := .inr ⟨ls_, sq, rfl, g1, g2, g3⟩
    show et_go none _ 206 10 _ [.int (Int32.ofNat 1), .ref am] _ _ _ _
    refine hs_if1 (c := .ne) (t := 17) (f := 13) (by decide +kernel) (show ¬ Int32.ofNat 1 = 0 by decide) ?_
    refine hs_k (x := Int32.ofNat 0) (p := 18) (by decide +kernel) ?_
    refine hs_k (x := Int32.ofNat 1) (p := 19) (by decide +kernel) ?_
    refine ht_callv (T := et_TT) (t := 13) (mi := 204) (na := 2) (ci := 11) (lk := 1) (lm := 3) (L0 := eg_en (eg_mL 204) [.ref am, .int (Int32.ofNat 0), .int (Int32.ofNat 1)]) (by decide +kernel) rfl hH k_am rfl rfl rfl rfl rfl (by rw [show eg_mL 204 = 3 from by decide +kernel]; first | done | rfl) ?_
    refine (fm_t0 hH k_am).mono (fun u hu => xp_cb hu ?_)
    show et_go none _ 206 22 _ [.int (Int32.ofNat 0)] _ _ _ _
    refine hs_if0 (c := .ne) (t := 48) (f := 25) (by decide +kernel) (show ¬ (¬ Int32.ofNat 0 = 0) by decide) ?_
    refine hs_aload (i := 0) (p := 26) (by decide +kernel) rfl ?_
    refine hs_aload (i := 0) (p := 27) (by decide +kernel) rfl ?_
    refine hf_get (T := et_TT) (t := 13) (ci := 11) (f := 1) (p := 30) (by decide +kernel) rfl hH k_am m1 ?_
    refine hs_k (x := Int32.ofNat 1) (p := 31) (by decide +kernel) ?_
    refine hf_ald (ins := .iaload) (T := et_TT) (t := 46) (kd := 0) (N := 12741) (p := 32) (by decide +kernel) (fun _ _ _ _ _ _ _ _ _ _ => rfl) rfl rfl rfl hH k_aw (by decide) w1 ?_
    refine hs_k (x := Int32.ofNat 4) (p := 33) (by decide +kernel) ?_
    refine hs_br2n (c := .ne) (t := 40) (f := 36) (by decide +kernel) (by omega) (by omega) (fun (c33 : ¬ r = 4) => ?_) (fun (c33 : ¬ (¬ r = 4)) => ?_)
    · refine hs_k (x := Int32.ofNat 0) (p := 41) (by decide +kernel) ?_
      refine hs_k (x := Int32.ofNat 2) (p := 42) (by decide +kernel) ?_
      refine ht_callv (T := et_TT) (t := 13) (mi := 204) (na := 2) (ci := 11) (lk := 1) (lm := 3) (L0 := eg_en (eg_mL 204) [.ref am, .int (Int32.ofNat 0), .int (Int32.ofNat 2)]) (by decide +kernel) rfl hH k_am rfl rfl rfl rfl rfl (by rw [show eg_mL 204 = 3 from by decide +kernel]; first | done | rfl) ?_
      refine (fm_t0 hH k_am).mono (fun u hu => xp_cb hu ?_)
      show et_go none _ 206 45 _ [.int (Int32.ofNat 0)] _ _ _ _
      refine hs_if1 (c := .eq) (t := 50) (f := 48) (by decide +kernel) (show Int32.ofNat 0 = 0 by decide) ?_
      rcases hP with ⟨-, hz⟩ | ⟨ls_, sq, -, g1, g2, g3⟩
      · cases hz
      · obtain ⟨F, W, aw2, ta, tp, pt, bg, st, dp, ai2, TP, IK, hB, -, -, ⟨hi, i1, i2, i3, i4, -, -⟩, ⟨eF, eW, -, -, -, -, -⟩, e⟩ := hi_txt hH k_am
        have ew := m1
        rw [eF, hmF_pl (by decide), hB.2.2.1] at ew
        injection ew with ew
        injection ew with ew
        subst ew
        have hW0 := w1
        rw [eW, hmW_pl (by decide)] at hW0
        injection hW0 with hW0
        injection hW0 with hW0
        have hz : ∀ Z : eg_O → Prop, (∀ V : Nat → Int32, (∀ i, i < 841 → V (126 + 841 * (4 + r) + i) = W (11900 + i)) → (∀ i, (i < 126 + 841 * (4 + r) ∨ 126 + 841 * (4 + r) + 841 ≤ i) → V i = W i) → Z (.inl (some (.int (Int32.ofNat r))), hm_H G7 am aw2 F (upd V 1 (Int32.ofNat (r + 1))), 0, 0)) → et_go none (d + 35) 206 50 [some (.ref am)] [] G7 0 0 Z := fun Z h => by
          have h1 := tl_turner (d := d + 33) hB.1 hB.2.2.1 (by omega) hW0 h
          rw [← e] at h1
          exact h1
        refine hz _ (fun V v1 v2 => ?_)
        have hx1 := hm_xf0 (W1 := upd V 1 (Int32.ofNat (r + 1))) hB.1 e
        have hV : ∀ i, ¬ i = 1 → (i < 126 + 841 * (4 + r) ∨ 126 + 841 * (4 + r) + 841 ≤ i) → upd V 1 (Int32.ofNat (r + 1)) i = W i := fun i h1 h2 => (hs_un h1).trans (v2 i h2)
        have e1 : eg_at (hm_H G7 am aw2 F (upd V 1 (Int32.ofNat (r + 1)))) aw2 = hm_W (upd V 1 (Int32.ofNat (r + 1))) := hm_w hB.1
        refine ⟨_, _, rfl, (hX.wk (fun c j _ h => by first | omega | (dsimp only at h ⊢; omega))).tr hx1 (fun c j _ hs => ?_), .inr (.inr ⟨ls_, sq, by omega, rfl, (hx1.2 am 0 lt_am (fun h => hB.1.2.2 h.1)).trans q0, ?_, ?_⟩)⟩
        · obtain ⟨rfl, hs⟩ := hs
          refine .inr ⟨rfl, ?_⟩
          refine Decidable.by_contra (fun hc => hs (hV j (by omega) (by omega)))
        · rw [e1, hmW_pl (by decide)]
          exact congrArg (fun z => some (Value.int z)) hs_us
        · refine tuT.mv eW g1 g2 g3 (fun i v hi2 hv => ?_)
          rw [eW, hmW_pl (by omega)] at hv
          rw [e1, hmW_pl (by omega), ← hv]
          exact congrArg (fun z => some (Value.int z)) ((hs_un (by omega)).trans (v1 i hi2))
    · refine hs_k (x := Int32.ofNat 1) (p := 37) (by decide +kernel) ?_
      refine hs_goto (p := 41) (by decide +kernel) ?_
      refine hs_k (x := Int32.ofNat 2) (p := 42) (by decide +kernel) ?_
      refine ht_callv (T := et_TT) (t := 13) (mi := 204) (na := 2) (ci := 11) (lk := 1) (lm := 3) (L0 := eg_en (eg_mL 204) [.ref am, .int (Int32.ofNat 1), .int (Int32.ofNat 2)]) (by decide +kernel) rfl hH k_am rfl rfl rfl rfl rfl (by rw [show eg_mL 204 = 3 from by decide +kernel]; first | done | rfl) ?_
      refine (fm_t1 hH k_am).mono (fun u hu => xw_cb hu (fun G42 v42 hH x42 hP42 => ?_))
      have hP := hP.fr x42 lt_aw (fun j hs => hne hs.1)
      have m4 := (x42.2 am 4 lt_am (fun h => absurd h.2 (by decide))).trans m4
      have q5 := (x42.2 am 5 lt_am (fun h => absurd h.2 (by decide))).trans q5
      have m1 := (x42.2 am 1 lt_am (fun h => absurd h.2 (by decide))).trans m1
      have w1 := (x42.2 aw 1 lt_aw (fun h => hne h.1)).trans w1
      have q7 := (x42.2 am 7 lt_am (fun h => absurd h.2 (by decide))).trans q7
      have ht : ∀ i, i < n → et_pl (eg_at G42 tm) i = some (.int (sx (b i))) := fun i hi => (x42.2 tm i lt_tm (fun h => (hi_ne k_tm k_am (by decide)) h.1)).trans (ht i hi)
      have lt_am := Nat.lt_of_lt_of_le lt_am x42.1
      have lt_tm := Nat.lt_of_lt_of_le lt_tm x42.1
      have lt_aw := Nat.lt_of_lt_of_le lt_aw x42.1
      have hX := hX.tr x42 (fun b j hb h => by first | omega | (dsimp only at h ⊢; omega) | (dsimp only at h; omega) | (dsimp only; omega))
      obtain ⟨rfl, th42⟩ := hP42
      show et_go none _ 206 45 _ [.int (Int32.ofNat 1)] _ _ _ _
      refine hs_if0 (c := .eq) (t := 50) (f := 48) (by decide +kernel) (show ¬ (Int32.ofNat 1 = 0) by decide) ?_
      refine hs_k (x := Int32.ofNat 0) (p := 49) (by decide +kernel) ?_
      refine hs_iret (by decide +kernel) ?_
      rcases hP with ⟨-, hz⟩ | ⟨f_, sq, -⟩
      · cases hz
      · exact ⟨_, _, rfl, hX.wk (fun c j _ h => by first | omega | (dsimp only at h ⊢; omega)), .inr (.inl ⟨by omega, (by rw [sq]; intro h; cases h), rfl, th42, w1⟩)⟩
end BDA
theorem hi_el39 {K : et_K} {G : eg_G} {ra n q : Nat} (hH : et_H et_TT K G) (k_ra : K ra = some 39) (hn : n < 6) (hq : et_pl (eg_at G ra) n = some (.ref q)) : K q = some 2 := by
  obtain ⟨g1, -, g3, dd, hd, hcell, hcx⟩ := hH.2.2 ra 39 k_ra
  cases hd
  obtain ⟨x, e, ey, er, es⟩ := hcell
  rw [e] at hq
  have hq : (if n < x.1 then eg_rd _ x n else none) = some (.ref q) := hq
  obtain ⟨v, h1, h2⟩ := es _ (List.mem_singleton.mpr rfl) n (Nat.zero_le _) (show n ≤ 5 by omega) hn
  rw [if_pos (by rw [ey]; exact hn), h1] at hq
  cases hq
  rcases h2 with ⟨-, h2⟩ | ⟨-, q', e1, e2⟩
  · cases h2
  · cases e1
    exact e2
end
section
/-! count: what both sides count -/
/-- of the first so many -/
def hoN (p : Nat → Bool) : Nat → Nat
  | 0 => 0
  | k + 1 => hoN p k + (if p k = true then 1 else 0)
def yN (Y : Nat → Nat) : Nat → Nat
  | 0 => 0
  | k + 1 => yN Y k + (if Y k = 0 then 0 else 1)
def wN (V : Nat → evT) : Nat → Nat
  | 0 => 0
  | k + 1 => wN V k + (V k).1
def ctV (x : Int32) (rc nc y ec tc cc h w : Nat) : Int32 := if x = Int32.ofNat 0 then Int32.ofNat rc else if x = Int32.ofNat 1 then Int32.ofNat nc else if x = Int32.ofNat 2 then Int32.ofNat y else if x = Int32.ofNat 3 then Int32.ofNat ec else if x = Int32.ofNat 4 then Int32.ofNat tc else if x = Int32.ofNat 5 then Int32.ofNat cc else if x = Int32.ofNat 6 then Int32.ofNat h else if x = Int32.ofNat 7 then Int32.ofNat w else (-1)
section BEA
variable {p : Nat → Bool} {Y : Nat → Nat} {V : Nat → evT} {k rc nc y ec tc cc h w : Nat} {x : Int32}
theorem hoN_le : ∀ k, hoN p k ≤ k
  | 0 => Nat.le_refl 0
  | k + 1 => by
    have ih := hoN_le k
    show hoN p k + (if p k = true then 1 else 0) ≤ k + 1
    split <;> omega
theorem hoN_y (h : p k = true) : hoN p (k + 1) = hoN p k + 1 := by
  show hoN p k + (if p k = true then 1 else 0) = _
  rw [if_pos h]
theorem hoN_n (h : ¬ p k = true) : hoN p (k + 1) = hoN p k := by
  show hoN p k + (if p k = true then 1 else 0) = _
  rw [if_neg h]
  rfl
theorem yN_le : ∀ k, yN Y k ≤ k
  | 0 => Nat.le_refl 0
  | k + 1 => by
    have ih := yN_le k
    show yN Y k + (if Y k = 0 then 0 else 1) ≤ k + 1
    split <;> omega
theorem yN_y (h : ¬ Y k = 0) : yN Y (k + 1) = yN Y k + 1 := by
  show yN Y k + (if Y k = 0 then 0 else 1) = _
  rw [if_neg h]
theorem yN_n (h : Y k = 0) : yN Y (k + 1) = yN Y k := by
  show yN Y k + (if Y k = 0 then 0 else 1) = _
  rw [if_pos h]
  rfl
theorem ctV_d (hx : x.toInt < 0 ∨ 7 < x.toInt) : ctV x rc nc y ec tc cc h w = (-1) := by
  have e : ∀ q : Nat, q < 8 → ¬ x = Int32.ofNat q := fun q hq h9 => by
    rw [h9, hs_nint (by omega)] at hx
    omega
  unfold ctV
  rw [if_neg (e 0 (by decide)), if_neg (e 1 (by decide)), if_neg (e 2 (by decide)), if_neg (e 3 (by decide)), if_neg (e 4 (by decide)), if_neg (e 5 (by decide)), if_neg (e 6 (by decide)), if_neg (e 7 (by decide))]
theorem ctV_0 : ctV (Int32.ofNat 0) rc nc y ec tc cc h w = Int32.ofNat rc := by
  unfold ctV
  rw [if_pos rfl]
theorem ctV_1 : ctV (Int32.ofNat 1) rc nc y ec tc cc h w = Int32.ofNat nc := by
  unfold ctV
  rw [if_neg (show ¬ Int32.ofNat 1 = Int32.ofNat 0 by decide), if_pos rfl]
theorem ctV_2 : ctV (Int32.ofNat 2) rc nc y ec tc cc h w = Int32.ofNat y := by
  unfold ctV
  rw [if_neg (show ¬ Int32.ofNat 2 = Int32.ofNat 0 by decide), if_neg (show ¬ Int32.ofNat 2 = Int32.ofNat 1 by decide), if_pos rfl]
theorem ctV_3 : ctV (Int32.ofNat 3) rc nc y ec tc cc h w = Int32.ofNat ec := by
  unfold ctV
  rw [if_neg (show ¬ Int32.ofNat 3 = Int32.ofNat 0 by decide), if_neg (show ¬ Int32.ofNat 3 = Int32.ofNat 1 by decide), if_neg (show ¬ Int32.ofNat 3 = Int32.ofNat 2 by decide), if_pos rfl]
theorem ctV_4 : ctV (Int32.ofNat 4) rc nc y ec tc cc h w = Int32.ofNat tc := by
  unfold ctV
  rw [if_neg (show ¬ Int32.ofNat 4 = Int32.ofNat 0 by decide), if_neg (show ¬ Int32.ofNat 4 = Int32.ofNat 1 by decide), if_neg (show ¬ Int32.ofNat 4 = Int32.ofNat 2 by decide), if_neg (show ¬ Int32.ofNat 4 = Int32.ofNat 3 by decide), if_pos rfl]
theorem ctV_5 : ctV (Int32.ofNat 5) rc nc y ec tc cc h w = Int32.ofNat cc := by
  unfold ctV
  rw [if_neg (show ¬ Int32.ofNat 5 = Int32.ofNat 0 by decide), if_neg (show ¬ Int32.ofNat 5 = Int32.ofNat 1 by decide), if_neg (show ¬ Int32.ofNat 5 = Int32.ofNat 2 by decide), if_neg (show ¬ Int32.ofNat 5 = Int32.ofNat 3 by decide), if_neg (show ¬ Int32.ofNat 5 = Int32.ofNat 4 by decide), if_pos rfl]
theorem ctV_6 : ctV (Int32.ofNat 6) rc nc y ec tc cc h w = Int32.ofNat h := by
  unfold ctV
  rw [if_neg (show ¬ Int32.ofNat 6 = Int32.ofNat 0 by decide), if_neg (show ¬ Int32.ofNat 6 = Int32.ofNat 1 by decide), if_neg (show ¬ Int32.ofNat 6 = Int32.ofNat 2 by decide), if_neg (show ¬ Int32.ofNat 6 = Int32.ofNat 3 by decide), if_neg (show ¬ Int32.ofNat 6 = Int32.ofNat 4 by decide), if_neg (show ¬ Int32.ofNat 6 = Int32.ofNat 5 by decide), if_pos rfl]
theorem ctV_7 : ctV (Int32.ofNat 7) rc nc y ec tc cc h w = Int32.ofNat w := by
  unfold ctV
  rw [if_neg (show ¬ Int32.ofNat 7 = Int32.ofNat 0 by decide), if_neg (show ¬ Int32.ofNat 7 = Int32.ofNat 1 by decide), if_neg (show ¬ Int32.ofNat 7 = Int32.ofNat 2 by decide), if_neg (show ¬ Int32.ofNat 7 = Int32.ofNat 3 by decide), if_neg (show ¬ Int32.ofNat 7 = Int32.ofNat 4 by decide), if_neg (show ¬ Int32.ofNat 7 = Int32.ofNat 5 by decide), if_neg (show ¬ Int32.ofNat 7 = Int32.ofNat 6 by decide), if_pos rfl]
end BEA
section BEB
variable {K : et_K} {G : eg_G} {d d2 th s0 s1 ya yb ec nc la ly rc ra fo tc cc cm k m ck sk : Nat} {O : Nat → Nat} {A : Nat → Nat → Nat} {V : Nat → evT} {X : Nat → Int32} {Y : Nat → Nat} {x : Int32} {D : Nat → Prop} {φ : Nat → sp_E → Bool} {R0 : Nat → Nat} {T : Nat → Nat} {L : Nat → clT} {x3 : Option Value}
theorem fd_ycL (hH : et_H et_TT K G) (k_s0 : K s0 = some 10) (g2 : et_pl (eg_at G s0) 2 = some (.int (Int32.ofNat nc))) (hnc : nc ≤ 20) (hcc : ccP G s0 la ly nc X Y) (k_la : K la = some 17) (k_ly : K ly = some 27) (hm : m ≤ nc) : et_go none d2 105 4 [some (.ref s0), some (.int (Int32.ofNat (yN Y m))), some (.int (Int32.ofNat m))] [] G 0 0 (xp_Z G (some (.int (Int32.ofNat (yN Y nc))))) := by
  induction hq9 : nc - m using Nat.strongRecOn generalizing m with
  | _ q9 ih =>
    have ym : m < nc → Y m ≤ 1 := fun h9 => (hcc.2 m h9).2.2
    have yle := yN_le (Y := Y) m
    have lt_s0 := (hH.2.2 _ _ k_s0).1
    have lt_la := (hH.2.2 _ _ k_la).1
    have lt_ly := (hH.2.2 _ _ k_ly).1
    refine hs_iload (i := 2) (p := 5) (by decide +kernel) rfl ?_
    refine hs_aload (i := 0) (p := 6) (by decide +kernel) rfl ?_
    refine hf_get (T := et_TT) (t := 10) (ci := 8) (f := 2) (p := 9) (by decide +kernel) rfl hH k_s0 g2 ?_
    refine hs_br2n (c := .ge) (t := 30) (f := 12) (by decide +kernel) (by omega) (by omega) (fun (c9 : nc ≤ m) => ?_) (fun (c9 : ¬ (nc ≤ m)) => ?_)
    · refine hs_iload (i := 1) (p := 31) (by decide +kernel) rfl ?_
      refine hs_iret (by decide +kernel) ?_
      obtain rfl : m = nc := by omega
      rfl
    · refine hs_aload (i := 0) (p := 13) (by decide +kernel) rfl ?_
      refine hf_get (T := et_TT) (t := 10) (ci := 8) (f := 4) (p := 16) (by decide +kernel) rfl hH k_s0 hcc.1.2 ?_
      refine hs_iload (i := 2) (p := 17) (by decide +kernel) rfl ?_
      refine hf_ald (ins := .baload) (T := et_TT) (t := 27) (kd := 3) (N := 20) (p := 18) (by decide +kernel) (fun _ _ _ _ _ _ _ _ _ _ => rfl) rfl rfl rfl hH k_ly (by decide) (hcc.2 m (by omega)).2.1 ?_
      refine hs_br1 (c := .eq) (t := 24) (f := 21) (by decide +kernel) (fun (c18 : Int32.ofNat (Y m) = 0) => ?_) (fun (c18 : ¬ (Int32.ofNat (Y m) = 0)) => ?_)
      · have ym9 := ym (by omega)
        have c18 : Y m = 0 := (hs_neq (b := 0) (by omega) (by decide)).mp c18
        refine hs_iinc1 (i := 2) (p := 27) (by decide +kernel) rfl (Nat.le_of_ble_eq_true rfl) ?_
        refine hs_goto (p := 4) (by decide +kernel) ?_
        have h9 := @ih (nc - (m + 1)) (by omega) (m + 1) (by omega) rfl
        rw [yN_n c18] at h9
        exact h9
      · have c18 : ¬ Y m = 0 := fun h => c18 (by rw [h]; rfl)
        refine hs_iinc1 (i := 1) (p := 24) (by decide +kernel) rfl (Nat.le_of_ble_eq_true rfl) ?_
        refine hs_iinc1 (i := 2) (p := 27) (by decide +kernel) rfl (Nat.le_of_ble_eq_true rfl) ?_
        refine hs_goto (p := 4) (by decide +kernel) ?_
        have h9 := @ih (nc - (m + 1)) (by omega) (m + 1) (by omega) rfl
        rw [yN_y c18] at h9
        exact h9
theorem fd_yc (hH : et_H et_TT K G) (k_s0 : K s0 = some 10) (g2 : et_pl (eg_at G s0) 2 = some (.int (Int32.ofNat nc))) (hnc : nc ≤ 20) (hcc : ccP G s0 la ly nc X Y) (k_la : K la = some 17) (k_ly : K ly = some 27) : et_go none d2 105 0 (eg_en (eg_mL 105) [.ref s0]) [] G 0 0 (xp_Z G (some (.int (Int32.ofNat (yN Y nc))))) := by
  rw [show eg_mL 105 = 3 from by decide +kernel]
  show et_go none d2 105 0 [some (.ref s0), none, none] [] G 0 0 _
  refine hs_k (x := Int32.ofNat 0) (p := 1) (by decide +kernel) ?_
  refine hs_istore (i := 1) (p := 2) (by decide +kernel) (Nat.le_of_ble_eq_true rfl) ?_
  refine hs_k (x := Int32.ofNat 0) (p := 3) (by decide +kernel) ?_
  refine hs_istore (i := 2) (p := 4) (by decide +kernel) (Nat.le_of_ble_eq_true rfl) ?_
  exact fd_ycL (m := 0) hH k_s0 g2 hnc hcc k_la k_ly (Nat.zero_le _)
theorem fd_waL (hH : et_H et_TT K G) (k_s0 : K s0 = some 10) (h5 : et_pl (eg_at G s0) 5 = some (.int (Int32.ofNat ec))) (hec : ec ≤ 3) (h6 : et_pl (eg_at G s0) 6 = some (.ref ya)) (k_ya : K ya = some 40) (hE : ∀ n, n < ec → et_pl (eg_at G ya) n = some (.ref (O n)) ∧ K (O n) = some 3 ∧ et_pl (eg_at G (O n)) 0 = some (.int (Int32.ofNat (V n).1))) (hm : m ≤ ec) : et_go none d2 108 4 [some (.ref s0), some (.int (Int32.ofNat (wN V m))), some (.int (Int32.ofNat m))] [] G 0 0 (xp_Z G (some (.int (Int32.ofNat (wN V ec))))) := by
  induction hq9 : ec - m using Nat.strongRecOn generalizing m with
  | _ q9 ih =>
    have lt_s0 := (hH.2.2 _ _ k_s0).1
    have lt_ya := (hH.2.2 _ _ k_ya).1
    refine hs_iload (i := 2) (p := 5) (by decide +kernel) rfl ?_
    refine hs_aload (i := 0) (p := 6) (by decide +kernel) rfl ?_
    refine hf_get (T := et_TT) (t := 10) (ci := 8) (f := 5) (p := 9) (by decide +kernel) rfl hH k_s0 h5 ?_
    refine hs_br2n (c := .ge) (t := 30) (f := 12) (by decide +kernel) (by omega) (by omega) (fun (c9 : ec ≤ m) => ?_) (fun (c9 : ¬ (ec ≤ m)) => ?_)
    · refine hs_iload (i := 1) (p := 31) (by decide +kernel) rfl ?_
      refine hs_iret (by decide +kernel) ?_
      obtain rfl : m = ec := by omega
      rfl
    · refine hs_iload (i := 1) (p := 13) (by decide +kernel) rfl ?_
      refine hs_aload (i := 0) (p := 14) (by decide +kernel) rfl ?_
      refine hf_get (T := et_TT) (t := 10) (ci := 8) (f := 6) (p := 17) (by decide +kernel) rfl hH k_s0 h6 ?_
      refine hs_iload (i := 2) (p := 18) (by decide +kernel) rfl ?_
      refine hf_ald (ins := .aaload) (T := et_TT) (t := 40) (kd := 6) (N := 3) (p := 19) (by decide +kernel) (fun _ _ _ _ _ _ _ _ _ _ => rfl) rfl rfl rfl hH k_ya (by decide) (hE m (by omega)).1 ?_
      obtain ⟨e9, he9⟩ : ∃ e9, e9 = O m := ⟨_, rfl⟩
      rw [← he9]
      have k_e9 : K e9 = some 3 := by rw [he9]; exact (hE m (by omega)).2.1
      have q9e : et_pl (eg_at G e9) 0 = some (.int (Int32.ofNat (V m).1)) := by rw [he9]; exact (hE m (by omega)).2.2
      refine hf_get (T := et_TT) (t := 3) (ci := 1) (f := 0) (p := 22) (by decide +kernel) rfl hH k_e9 q9e ?_
      refine hs_iaddn (p := 23) (by decide +kernel) ?_
      refine hs_istore (i := 1) (p := 24) (by decide +kernel) (Nat.le_of_ble_eq_true rfl) ?_
      refine hs_iinc1 (i := 2) (p := 27) (by decide +kernel) rfl (Nat.le_of_ble_eq_true rfl) ?_
      refine hs_goto (p := 4) (by decide +kernel) ?_
      exact ih (ec - (m + 1)) (by omega) (by omega) rfl
theorem fd_wa (hH : et_H et_TT K G) (k_s0 : K s0 = some 10) (h5 : et_pl (eg_at G s0) 5 = some (.int (Int32.ofNat ec))) (hec : ec ≤ 3) (h6 : et_pl (eg_at G s0) 6 = some (.ref ya)) (k_ya : K ya = some 40) (hE : ∀ n, n < ec → et_pl (eg_at G ya) n = some (.ref (O n)) ∧ K (O n) = some 3 ∧ et_pl (eg_at G (O n)) 0 = some (.int (Int32.ofNat (V n).1))) : et_go none d2 108 0 (eg_en (eg_mL 108) [.ref s0]) [] G 0 0 (xp_Z G (some (.int (Int32.ofNat (wN V ec))))) := by
  rw [show eg_mL 108 = 3 from by decide +kernel]
  show et_go none d2 108 0 [some (.ref s0), none, none] [] G 0 0 _
  refine hs_k (x := Int32.ofNat 0) (p := 1) (by decide +kernel) ?_
  refine hs_istore (i := 1) (p := 2) (by decide +kernel) (Nat.le_of_ble_eq_true rfl) ?_
  refine hs_k (x := Int32.ofNat 0) (p := 3) (by decide +kernel) ?_
  refine hs_istore (i := 2) (p := 4) (by decide +kernel) (Nat.le_of_ble_eq_true rfl) ?_
  exact fd_waL (m := 0) hH k_s0 h5 hec h6 k_ya hE (Nat.zero_le _)
theorem fd_hcL (hH : et_H et_TT K G) (k_s1 : K s1 = some 10) (h5 : et_pl (eg_at G s0) 5 = some (.int (Int32.ofNat ec))) (hec : ec ≤ 3) (t : ezK K ya yb O A) (hz : ez G th s0 s1 ya yb O A V) (ho : ∀ n, n < 6 → evo (V n)) (g2 : et_pl (eg_at G s0) 2 = some (.int (Int32.ofNat nc))) (hnc : nc ≤ 20) (hcc : ccP G s0 la ly nc X Y) (k_la : K la = some 17) (k_ly : K ly = some 27) (tR : rxK K D φ th s0 ra fo) (hx9 : rx D φ th s0 ra rc fo G) (hR : ∀ k, k < rc → D (R0 k) ∧ et_pl (eg_at G ra) k = some (.ref (R0 k))) (g9 : et_pl (eg_at G s0) 9 = some (.int (Int32.ofNat cc))) (hcc6 : cc ≤ 6) (g10 : et_pl (eg_at G s0) 10 = some (.ref cm)) (k_cm : K cm = some 39) (hQ : cqE K G cm cc ec rc T L) (hk : k ≤ cc) : et_go none (d + 36) 126 98 [some (.ref th), some (.int x), some (.int (Int32.ofNat (hoN (fun k => clV (L k).2.2 (φ (R0 (L k).2.1)) (V (L k).1) X Y nc) k))), some (.int (Int32.ofNat k))] [] G ck sk (fun u => u.1 = .inl (some (.int (Int32.ofNat (hoN (fun k => clV (L k).2.2 (φ (R0 (L k).2.1)) (V (L k).1) X Y nc) cc))))) := by
  induction hq9 : cc - k using Nat.strongRecOn generalizing k K G ck sk with
  | _ q9 ih =>
    have hle := hoN_le (p := (fun k => clV (L k).2.2 (φ (R0 (L k).2.1)) (V (L k).1) X Y nc)) k
    obtain ⟨hrk, ⟨h0, h4⟩, ⟨r0, r1, hrc⟩, hq⟩ := id hx9
    obtain ⟨tD, k_th, k_s0, k_ra, k_fo⟩ := id tR
    have lt_th := (hH.2.2 _ _ k_th).1
    have lt_s0 := (hH.2.2 _ _ k_s0).1
    have lt_cm := (hH.2.2 _ _ k_cm).1
    refine hs_iload (i := 3) (p := 99) (by decide +kernel) rfl ?_
    refine hs_aload (i := 0) (p := 100) (by decide +kernel) rfl ?_
    refine hf_get (T := et_TT) (t := 12) (ci := 10) (f := 0) (p := 103) (by decide +kernel) rfl hH k_th h0 ?_
    refine hf_get (T := et_TT) (t := 10) (ci := 8) (f := 9) (p := 106) (by decide +kernel) rfl hH k_s0 g9 ?_
    refine hs_br2n (c := .ge) (t := 151) (f := 109) (by decide +kernel) (by omega) (by omega) (fun (c106 : cc ≤ k) => ?_) (fun (c106 : ¬ (cc ≤ k)) => ?_)
    · refine hs_iload (i := 2) (p := 152) (by decide +kernel) rfl ?_
      refine hs_iret (by decide +kernel) ?_
      obtain rfl : k = cc := by omega
      rfl
    · refine hs_iload (i := 2) (p := 110) (by decide +kernel) rfl ?_
      refine hs_aload (i := 0) (p := 111) (by decide +kernel) rfl ?_
      refine hf_get (T := et_TT) (t := 12) (ci := 10) (f := 0) (p := 114) (by decide +kernel) rfl hH k_th h0 ?_
      refine hf_get (T := et_TT) (t := 10) (ci := 8) (f := 10) (p := 117) (by decide +kernel) rfl hH k_s0 g10 ?_
      refine hs_iload (i := 3) (p := 118) (by decide +kernel) rfl ?_
      obtain ⟨⟨hC, k_cl, bb2, fl, ⟨c0, k_bb2, lo2, hi2, hdc⟩, ⟨c1, c2, c3⟩, hfl, hnu⟩, hcl2, hn, hr⟩ := hQ k (by omega)
      obtain ⟨cl, hcle⟩ : ∃ cl, cl = T k := ⟨_, rfl⟩
      rw [← hcle] at hC k_cl c0 c1 c2 c3
      refine hf_ald (ins := .aaload) (T := et_TT) (t := 39) (kd := 8) (N := 6) (p := 119) (by decide +kernel) (fun _ _ _ _ _ _ _ _ _ _ => rfl) rfl rfl rfl hH k_cm (by decide) hC ?_
      refine hs_ifnull1 (p := 122) (by decide +kernel) ?_
      refine hs_aload (i := 0) (p := 123) (by decide +kernel) rfl ?_
      refine hs_aload (i := 0) (p := 124) (by decide +kernel) rfl ?_
      refine hf_get (T := et_TT) (t := 12) (ci := 10) (f := 0) (p := 127) (by decide +kernel) rfl hH k_th h0 ?_
      refine hf_get (T := et_TT) (t := 10) (ci := 8) (f := 10) (p := 130) (by decide +kernel) rfl hH k_s0 g10 ?_
      refine hs_iload (i := 3) (p := 131) (by decide +kernel) rfl ?_
      refine hf_ald (ins := .aaload) (T := et_TT) (t := 39) (kd := 8) (N := 6) (p := 132) (by decide +kernel) (fun _ _ _ _ _ _ _ _ _ _ => rfl) rfl rfl rfl hH k_cm (by decide) hC ?_
      have hHo := hH
      obtain ⟨hDn, hRr⟩ := hR _ hr
      obtain ⟨bb, lo, hi, q0, hdn, hTb⟩ := hrk _ hDn
      obtain ⟨k_q, hcl⟩ := tD _ hDn
      refine ht_callv (T := et_TT) (t := 12) (mi := 127) (na := 1) (ci := 10) (lk := 4) (lm := 4) (L0 := eg_en (eg_mL 127) [.ref th, .ref cl]) (by decide +kernel) rfl hH k_th rfl rfl rfl rfl rfl (by rw [show eg_mL 127 = 4 from by decide +kernel]; first | done | rfl) ?_
      refine ((ek_c27 (K, [], G) [.ref th, .ref cl] _ hH (by show 34 ≤ _; omega) rfl (ht_ac (.inr ⟨by decide, _, rfl, k_th⟩) (ht_ac (.inr ⟨by decide, _, rfl, k_cl⟩) ht_an))).and ((fr_127 (w := (K, [], G)) tR hH hx9 k_cl (by omega)).and (fd_ct hH k_th h0 k_s0 h5 hec hz.1.1 t.1.1 hn (hz.2.1 _ (by omega)).1 (t.ev (ho _ (by omega)) (by omega)) (hz.2.2.1 _ (by omega)) r0 hrc r1 k_ra hr hRr k_q q0 (cond_ty hH k_q q0) hdn hTb hcl h4 k_fo g2 hnc hcc k_la k_ly k_cl c0 k_bb2 hdc hcl2 c1 c2 c3 hfl hnu (by omega)))).mono (fun u hu => ?_)
      obtain ⟨⟨es, hes, K1, hx1, hf1, hH1, hv1, -, -⟩, hrx, hz9⟩ := hu
      obtain ⟨u1, u2, u3, u4⟩ := u
      have hz9 : u1 = .inl (some (.int (Int32.ofNat (if (clV (L k).2.2 (φ (R0 (L k).2.1)) (V (L k).1) X Y nc) = true then 1 else 0)))) := hz9
      subst hz9
      have hrx : rx D φ th s0 ra rc fo u2 := hrx
      rcases List.mem_cons.mp hes with rfl | hes
      · have hv1 : (Sum.inl (some (Value.int (Int32.ofNat (if (clV (L k).2.2 (φ (R0 (L k).2.1)) (V (L k).1) X Y nc) = true then 1 else 0)))) : eg_R) = .inr 1 := hv1
        cases hv1
      · have hH := hH1
        have tR := tR.ex hx1
        have hx9 := hrx
        have hR : ∀ k, k < rc → D (R0 k) ∧ et_pl (eg_at u2 ra) k = some (.ref (R0 k)) := fun k hk => ⟨(hR k hk).1, (hf1.2 ra 37 k_ra k (by rfl)).trans (hR k hk).2⟩
        have h5 := (hf1.2 s0 10 k_s0 5 (by decide +kernel)).trans h5
        have hz := hz.fr t k_th k_s0 k_s1 hf1 (by decide +kernel)
        have t := t.ex hx1
        have g2 := (hf1.2 s0 10 k_s0 2 (by decide +kernel)).trans g2
        have hcc := hcc.fr k_s0 k_la k_ly hf1 (by decide +kernel)
        have g9 := (hf1.2 s0 10 k_s0 9 (by decide +kernel)).trans g9
        have g10 := (hf1.2 s0 10 k_s0 10 (by decide +kernel)).trans g10
        have hQ := hQ.fr k_cm hx1 hHo hf1 (by decide +kernel) (by decide +kernel)
        have k_s1 := hx1 _ _ k_s1
        have k_la := hx1 _ _ k_la
        have k_ly := hx1 _ _ k_ly
        have k_cm := hx1 _ _ k_cm
        by_cases hb : (clV (L k).2.2 (φ (R0 (L k).2.1)) (V (L k).1) X Y nc) = true
        · rw [show (if (clV (L k).2.2 (φ (R0 (L k).2.1)) (V (L k).1) X Y nc) = true then 1 else 0 : Nat) = 1 from if_pos hb]
          refine hs_cb ?_
          show et_go none _ 126 135 _ [.int (Int32.ofNat 1), .int (Int32.ofNat (hoN (fun k => clV (L k).2.2 (φ (R0 (L k).2.1)) (V (L k).1) X Y nc) k))] _ _ _ _
          refine hs_if0 (c := .eq) (t := 142) (f := 138) (by decide +kernel) (show ¬ (Int32.ofNat 1 = 0) by decide) ?_
          refine hs_k (x := Int32.ofNat 1) (p := 139) (by decide +kernel) ?_
          refine hs_goto (p := 143) (by decide +kernel) ?_
          refine hs_iaddn (p := 144) (by decide +kernel) ?_
          refine hs_istore (i := 2) (p := 145) (by decide +kernel) (Nat.le_of_ble_eq_true rfl) ?_
          refine hs_iinc1 (i := 3) (p := 148) (by decide +kernel) rfl (Nat.le_of_ble_eq_true rfl) ?_
          refine hs_goto (p := 98) (by decide +kernel) ?_
          rw [show Int32.ofNat (hoN (fun k => clV (L k).2.2 (φ (R0 (L k).2.1)) (V (L k).1) X Y nc) k + 1) = Int32.ofNat (hoN (fun k => clV (L k).2.2 (φ (R0 (L k).2.1)) (V (L k).1) X Y nc) (k + 1)) from (congrArg Int32.ofNat (hoN_y (p := (fun k => clV (L k).2.2 (φ (R0 (L k).2.1)) (V (L k).1) X Y nc)) hb)).symm]
          exact ih (cc - (k + 1)) (by omega) hH k_s1 h5  t hz g2 hcc k_la k_ly tR hx9 hR g9  g10 k_cm hQ (by omega) rfl
        · rw [show (if (clV (L k).2.2 (φ (R0 (L k).2.1)) (V (L k).1) X Y nc) = true then 1 else 0 : Nat) = 0 from if_neg hb]
          refine hs_cb ?_
          show et_go none _ 126 135 _ [.int (Int32.ofNat 0), .int (Int32.ofNat (hoN (fun k => clV (L k).2.2 (φ (R0 (L k).2.1)) (V (L k).1) X Y nc) k))] _ _ _ _
          refine hs_if1 (c := .eq) (t := 142) (f := 138) (by decide +kernel) (show Int32.ofNat 0 = 0 by decide) ?_
          refine hs_k (x := Int32.ofNat 0) (p := 143) (by decide +kernel) ?_
          refine hs_iaddn (p := 144) (by decide +kernel) ?_
          refine hs_istore (i := 2) (p := 145) (by decide +kernel) (Nat.le_of_ble_eq_true rfl) ?_
          refine hs_iinc1 (i := 3) (p := 148) (by decide +kernel) rfl (Nat.le_of_ble_eq_true rfl) ?_
          refine hs_goto (p := 98) (by decide +kernel) ?_
          rw [show Int32.ofNat (hoN (fun k => clV (L k).2.2 (φ (R0 (L k).2.1)) (V (L k).1) X Y nc) k + 0) = Int32.ofNat (hoN (fun k => clV (L k).2.2 (φ (R0 (L k).2.1)) (V (L k).1) X Y nc) (k + 1)) from (congrArg Int32.ofNat (hoN_n (p := (fun k => clV (L k).2.2 (φ (R0 (L k).2.1)) (V (L k).1) X Y nc)) hb)).symm]
          exact ih (cc - (k + 1)) (by omega) hH k_s1 h5  t hz g2 hcc k_la k_ly tR hx9 hR g9  g10 k_cm hQ (by omega) rfl
theorem fd_cn (hH : et_H et_TT K G) (k_s1 : K s1 = some 10) (h5 : et_pl (eg_at G s0) 5 = some (.int (Int32.ofNat ec))) (hec : ec ≤ 3) (t : ezK K ya yb O A) (hz : ez G th s0 s1 ya yb O A V) (ho : ∀ n, n < 6 → evo (V n)) (g2 : et_pl (eg_at G s0) 2 = some (.int (Int32.ofNat nc))) (hnc : nc ≤ 20) (hcc : ccP G s0 la ly nc X Y) (k_la : K la = some 17) (k_ly : K ly = some 27) (tR : rxK K D φ th s0 ra fo) (hx9 : rx D φ th s0 ra rc fo G) (hR : ∀ k, k < rc → D (R0 k) ∧ et_pl (eg_at G ra) k = some (.ref (R0 k))) (g9 : et_pl (eg_at G s0) 9 = some (.int (Int32.ofNat cc))) (hcc6 : cc ≤ 6) (g10 : et_pl (eg_at G s0) 10 = some (.ref cm)) (k_cm : K cm = some 39) (hQ : cqE K G cm cc ec rc T L) (g7 : et_pl (eg_at G s0) 7 = some (.int (Int32.ofNat tc))) (hd : 36 ≤ d2) : et_go none d2 126 0 (eg_en (eg_mL 126) [.ref th, .int x]) [] G 0 0 (fun u => u.1 = .inl (some (.int (ctV x rc nc (yN Y nc) ec tc cc (hoN (fun k => clV (L k).2.2 (φ (R0 (L k).2.1)) (V (L k).1) X Y nc) cc) (wN V ec))))) := by
  obtain ⟨d, rfl⟩ : ∃ d, d2 = d + 36 := ⟨d2 - 36, by omega⟩
  obtain ⟨hrk, ⟨h0, h4⟩, ⟨r0, r1, hrc⟩, hq⟩ := id hx9
  obtain ⟨tD, k_th, k_s0, k_ra, k_fo⟩ := id tR
  by_cases hx8 : 0 ≤ x.toInt ∧ x.toInt ≤ 7
  · obtain ⟨q, rfl, q2, q3⟩ := hs_toN (x := x) (by omega)
    rcases (show q = 0 ∨ q = 1 ∨ q = 2 ∨ q = 3 ∨ q = 4 ∨ q = 5 ∨ q = 6 ∨ q = 7 by omega) with rfl | rfl | rfl | rfl | rfl | rfl | rfl | rfl
    · rw [ctV_0]
      rw [show eg_mL 126 = 4 from by decide +kernel]
      show et_go none (d + 36) 126 0 [some (.ref th), some (.int (Int32.ofNat 0)), none, none] [] G 0 0 _
      have lt_th := (hH.2.2 _ _ k_th).1
      have lt_s0 := (hH.2.2 _ _ k_s0).1
      have lt_cm := (hH.2.2 _ _ k_cm).1
      refine hs_k (x := Int32.ofNat 0) (p := 1) (by decide +kernel) ?_
      refine hs_istore (i := 2) (p := 2) (by decide +kernel) (Nat.le_of_ble_eq_true rfl) ?_
      refine hs_iload (i := 1) (p := 3) (by decide +kernel) rfl ?_
      refine hs_st (ins := .tableswitch 158 0 7 #[45, 53, 61, 69, 77, 85, 93, 150]) (len := 45) (by decide +kernel) rfl (by rfl) (?_ : et_go none _ 126 48 _ _ _ _ _ _)
      refine hs_aload (i := 0) (p := 49) (by decide +kernel) rfl ?_
      refine hf_get (T := et_TT) (t := 12) (ci := 10) (f := 0) (p := 52) (by decide +kernel) rfl hH k_th h0 ?_
      refine hf_get (T := et_TT) (t := 10) (ci := 8) (f := 0) (p := 55) (by decide +kernel) rfl hH k_s0 r0 ?_
      refine hs_iret (by decide +kernel) ?_
      rfl
    · rw [ctV_1]
      rw [show eg_mL 126 = 4 from by decide +kernel]
      show et_go none (d + 36) 126 0 [some (.ref th), some (.int (Int32.ofNat 1)), none, none] [] G 0 0 _
      have lt_th := (hH.2.2 _ _ k_th).1
      have lt_s0 := (hH.2.2 _ _ k_s0).1
      have lt_cm := (hH.2.2 _ _ k_cm).1
      refine hs_k (x := Int32.ofNat 0) (p := 1) (by decide +kernel) ?_
      refine hs_istore (i := 2) (p := 2) (by decide +kernel) (Nat.le_of_ble_eq_true rfl) ?_
      refine hs_iload (i := 1) (p := 3) (by decide +kernel) rfl ?_
      refine hs_st (ins := .tableswitch 158 0 7 #[45, 53, 61, 69, 77, 85, 93, 150]) (len := 45) (by decide +kernel) rfl (by rfl) (?_ : et_go none _ 126 56 _ _ _ _ _ _)
      refine hs_aload (i := 0) (p := 57) (by decide +kernel) rfl ?_
      refine hf_get (T := et_TT) (t := 12) (ci := 10) (f := 0) (p := 60) (by decide +kernel) rfl hH k_th h0 ?_
      refine hf_get (T := et_TT) (t := 10) (ci := 8) (f := 2) (p := 63) (by decide +kernel) rfl hH k_s0 g2 ?_
      refine hs_iret (by decide +kernel) ?_
      rfl
    · rw [ctV_2]
      rw [show eg_mL 126 = 4 from by decide +kernel]
      show et_go none (d + 36) 126 0 [some (.ref th), some (.int (Int32.ofNat 2)), none, none] [] G 0 0 _
      have lt_th := (hH.2.2 _ _ k_th).1
      have lt_s0 := (hH.2.2 _ _ k_s0).1
      have lt_cm := (hH.2.2 _ _ k_cm).1
      refine hs_k (x := Int32.ofNat 0) (p := 1) (by decide +kernel) ?_
      refine hs_istore (i := 2) (p := 2) (by decide +kernel) (Nat.le_of_ble_eq_true rfl) ?_
      refine hs_iload (i := 1) (p := 3) (by decide +kernel) rfl ?_
      refine hs_st (ins := .tableswitch 158 0 7 #[45, 53, 61, 69, 77, 85, 93, 150]) (len := 45) (by decide +kernel) rfl (by rfl) (?_ : et_go none _ 126 64 _ _ _ _ _ _)
      refine hs_aload (i := 0) (p := 65) (by decide +kernel) rfl ?_
      refine hf_get (T := et_TT) (t := 12) (ci := 10) (f := 0) (p := 68) (by decide +kernel) rfl hH k_th h0 ?_
      refine ht_callv (T := et_TT) (t := 10) (mi := 105) (na := 0) (ci := 8) (lk := 4) (lm := 3) (L0 := eg_en (eg_mL 105) [.ref s0]) (by decide +kernel) rfl hH k_s0 rfl rfl rfl rfl rfl (by rw [show eg_mL 105 = 3 from by decide +kernel]; first | done | rfl) ?_
      refine (fd_yc hH k_s0 g2 hnc hcc k_la k_ly).mono (fun u hu => xp_cb hu ?_)
      show et_go none _ 126 71 _ [.int (Int32.ofNat (yN Y nc))] _ _ _ _
      refine hs_iret (by decide +kernel) ?_
      rfl
    · rw [ctV_3]
      rw [show eg_mL 126 = 4 from by decide +kernel]
      show et_go none (d + 36) 126 0 [some (.ref th), some (.int (Int32.ofNat 3)), none, none] [] G 0 0 _
      have lt_th := (hH.2.2 _ _ k_th).1
      have lt_s0 := (hH.2.2 _ _ k_s0).1
      have lt_cm := (hH.2.2 _ _ k_cm).1
      refine hs_k (x := Int32.ofNat 0) (p := 1) (by decide +kernel) ?_
      refine hs_istore (i := 2) (p := 2) (by decide +kernel) (Nat.le_of_ble_eq_true rfl) ?_
      refine hs_iload (i := 1) (p := 3) (by decide +kernel) rfl ?_
      refine hs_st (ins := .tableswitch 158 0 7 #[45, 53, 61, 69, 77, 85, 93, 150]) (len := 45) (by decide +kernel) rfl (by rfl) (?_ : et_go none _ 126 72 _ _ _ _ _ _)
      refine hs_aload (i := 0) (p := 73) (by decide +kernel) rfl ?_
      refine hf_get (T := et_TT) (t := 12) (ci := 10) (f := 0) (p := 76) (by decide +kernel) rfl hH k_th h0 ?_
      refine hf_get (T := et_TT) (t := 10) (ci := 8) (f := 5) (p := 79) (by decide +kernel) rfl hH k_s0 h5 ?_
      refine hs_iret (by decide +kernel) ?_
      rfl
    · rw [ctV_4]
      rw [show eg_mL 126 = 4 from by decide +kernel]
      show et_go none (d + 36) 126 0 [some (.ref th), some (.int (Int32.ofNat 4)), none, none] [] G 0 0 _
      have lt_th := (hH.2.2 _ _ k_th).1
      have lt_s0 := (hH.2.2 _ _ k_s0).1
      have lt_cm := (hH.2.2 _ _ k_cm).1
      refine hs_k (x := Int32.ofNat 0) (p := 1) (by decide +kernel) ?_
      refine hs_istore (i := 2) (p := 2) (by decide +kernel) (Nat.le_of_ble_eq_true rfl) ?_
      refine hs_iload (i := 1) (p := 3) (by decide +kernel) rfl ?_
      refine hs_st (ins := .tableswitch 158 0 7 #[45, 53, 61, 69, 77, 85, 93, 150]) (len := 45) (by decide +kernel) rfl (by rfl) (?_ : et_go none _ 126 80 _ _ _ _ _ _)
      refine hs_aload (i := 0) (p := 81) (by decide +kernel) rfl ?_
      refine hf_get (T := et_TT) (t := 12) (ci := 10) (f := 0) (p := 84) (by decide +kernel) rfl hH k_th h0 ?_
      refine hf_get (T := et_TT) (t := 10) (ci := 8) (f := 7) (p := 87) (by decide +kernel) rfl hH k_s0 g7 ?_
      refine hs_iret (by decide +kernel) ?_
      rfl
    · rw [ctV_5]
      rw [show eg_mL 126 = 4 from by decide +kernel]
      show et_go none (d + 36) 126 0 [some (.ref th), some (.int (Int32.ofNat 5)), none, none] [] G 0 0 _
      have lt_th := (hH.2.2 _ _ k_th).1
      have lt_s0 := (hH.2.2 _ _ k_s0).1
      have lt_cm := (hH.2.2 _ _ k_cm).1
      refine hs_k (x := Int32.ofNat 0) (p := 1) (by decide +kernel) ?_
      refine hs_istore (i := 2) (p := 2) (by decide +kernel) (Nat.le_of_ble_eq_true rfl) ?_
      refine hs_iload (i := 1) (p := 3) (by decide +kernel) rfl ?_
      refine hs_st (ins := .tableswitch 158 0 7 #[45, 53, 61, 69, 77, 85, 93, 150]) (len := 45) (by decide +kernel) rfl (by rfl) (?_ : et_go none _ 126 88 _ _ _ _ _ _)
      refine hs_aload (i := 0) (p := 89) (by decide +kernel) rfl ?_
      refine hf_get (T := et_TT) (t := 12) (ci := 10) (f := 0) (p := 92) (by decide +kernel) rfl hH k_th h0 ?_
      refine hf_get (T := et_TT) (t := 10) (ci := 8) (f := 9) (p := 95) (by decide +kernel) rfl hH k_s0 g9 ?_
      refine hs_iret (by decide +kernel) ?_
      rfl
    · rw [ctV_6]
      rw [show eg_mL 126 = 4 from by decide +kernel]
      show et_go none (d + 36) 126 0 [some (.ref th), some (.int (Int32.ofNat 6)), none, none] [] G 0 0 _
      have lt_th := (hH.2.2 _ _ k_th).1
      have lt_s0 := (hH.2.2 _ _ k_s0).1
      have lt_cm := (hH.2.2 _ _ k_cm).1
      refine hs_k (x := Int32.ofNat 0) (p := 1) (by decide +kernel) ?_
      refine hs_istore (i := 2) (p := 2) (by decide +kernel) (Nat.le_of_ble_eq_true rfl) ?_
      refine hs_iload (i := 1) (p := 3) (by decide +kernel) rfl ?_
      refine hs_st (ins := .tableswitch 158 0 7 #[45, 53, 61, 69, 77, 85, 93, 150]) (len := 45) (by decide +kernel) rfl (by rfl) (?_ : et_go none _ 126 96 _ _ _ _ _ _)
      refine hs_k (x := Int32.ofNat 0) (p := 97) (by decide +kernel) ?_
      refine hs_istore (i := 3) (p := 98) (by decide +kernel) (Nat.le_of_ble_eq_true rfl) ?_
      exact fd_hcL (x := Int32.ofNat 6) (k := 0) hH k_s1 h5 hec t hz ho g2 hnc hcc k_la k_ly tR hx9 hR g9 hcc6 g10 k_cm hQ (Nat.zero_le _)
    · rw [ctV_7]
      rw [show eg_mL 126 = 4 from by decide +kernel]
      show et_go none (d + 36) 126 0 [some (.ref th), some (.int (Int32.ofNat 7)), none, none] [] G 0 0 _
      have lt_th := (hH.2.2 _ _ k_th).1
      have lt_s0 := (hH.2.2 _ _ k_s0).1
      have lt_cm := (hH.2.2 _ _ k_cm).1
      refine hs_k (x := Int32.ofNat 0) (p := 1) (by decide +kernel) ?_
      refine hs_istore (i := 2) (p := 2) (by decide +kernel) (Nat.le_of_ble_eq_true rfl) ?_
      refine hs_iload (i := 1) (p := 3) (by decide +kernel) rfl ?_
      refine hs_st (ins := .tableswitch 158 0 7 #[45, 53, 61, 69, 77, 85, 93, 150]) (len := 45) (by decide +kernel) rfl (by rfl) (?_ : et_go none _ 126 153 _ _ _ _ _ _)
      refine hs_aload (i := 0) (p := 154) (by decide +kernel) rfl ?_
      refine hf_get (T := et_TT) (t := 12) (ci := 10) (f := 0) (p := 157) (by decide +kernel) rfl hH k_th h0 ?_
      refine ht_callv (T := et_TT) (t := 10) (mi := 108) (na := 0) (ci := 8) (lk := 4) (lm := 3) (L0 := eg_en (eg_mL 108) [.ref s0]) (by decide +kernel) rfl hH k_s0 rfl rfl rfl rfl rfl (by rw [show eg_mL 108 = 3 from by decide +kernel]; first | done | rfl) ?_
      refine (fd_wa (O := O) (V := V) hH k_s0 h5 hec hz.1.1 t.1.1 (fun n hn => ⟨(hz.2.1 n (by omega)).1, (t.2.1 n (by omega)).1, (hz.2.2.1 n (by omega)).1.1⟩)).mono (fun u hu => xp_cb hu ?_)
      show et_go none _ 126 160 _ [.int (Int32.ofNat (wN V ec))] _ _ _ _
      refine hs_iret (by decide +kernel) ?_
      rfl
  · have hx9b : x.toInt < 0 ∨ 7 < x.toInt := by omega
    rw [ctV_d hx9b]
    have hx9 := hx9b
    rw [show eg_mL 126 = 4 from by decide +kernel]
    show et_go none (d + 36) 126 0 [some (.ref th), some (.int x), none, none] [] G 0 0 _
    have lt_th := (hH.2.2 _ _ k_th).1
    have lt_s0 := (hH.2.2 _ _ k_s0).1
    refine hs_k (x := Int32.ofNat 0) (p := 1) (by decide +kernel) ?_
    refine hs_istore (i := 2) (p := 2) (by decide +kernel) (Nat.le_of_ble_eq_true rfl) ?_
    refine hs_iload (i := 1) (p := 3) (by decide +kernel) rfl ?_
    refine hs_tsd (dd := 158) (lo := 0) (hi := 7) (offs := #[45, 53, 61, 69, 77, 85, 93, 150]) (len := 45) (by decide +kernel) (by decide) hx9 (?_ : et_go none _ 126 161 _ _ _ _ _ _)
    refine hs_k (x := (-1)) (p := 162) (by decide +kernel) ?_
    refine hs_iret (by decide +kernel) ?_
    rfl
end BEB
end
