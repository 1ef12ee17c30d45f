section
/-! holds in the law's words -/
section BCA
variable {K : et_K} {G : eg_G} {d d2 th s0 s1 ya yb ec nc la ly out e ca ki kn am aw n m k c q a b : Nat} {O : Nat → Nat} {A : Nat → Nat → Nat} {v : evT} {V : Nat → evT} {X : Nat → Int32} {Y : Nat → Nat} {x y z : Int32} {ra rc fo r cc ca cb cm : Nat} {D : Nat → Prop} {φ : Nat → sp_E → Bool} {R0 : Nat → Nat} {g : Nat → sp_E → Bool} {T : Nat → Nat} {L : Nat → clT}
theorem fz_ho (hH : et_H et_TT K G) (k_th0 : K th = some 12) (h00 : et_pl (eg_at G th) 0 = some (.ref s0)) (k_s00 : K s0 = some 10) (k_s1 : K s1 = some 10) (h5 : et_pl (eg_at G s0) 5 = some (.int (Int32.ofNat ec))) (hec : ec ≤ 3) (t : ezK K ya yb O A) (hz : ez G th s0 s1 ya yb O A V) (ho : ∀ n, n < 6 → evo (V n)) (g2 : et_pl (eg_at G s0) 2 = some (.int (Int32.ofNat nc))) (hnc : nc ≤ 20) (hcc : ccP G s0 la ly nc X Y) (k_la : K la = some 17) (k_ly : K ly = some 27) (k_out : K out = some 31) (tR : rxK K D φ th s0 ra fo) (hx9 : rx D φ th s0 ra rc fo G) (hR : ∀ k, k < rc → D (R0 k) ∧ et_pl (eg_at G ra) k = some (.ref (R0 k))) (g9 : et_pl (eg_at G s0) 9 = some (.int (Int32.ofNat cc))) (hcc6 : cc ≤ 6) (g10 : et_pl (eg_at G s0) 10 = some (.ref cm)) (k_cm : K cm = some 39) (hQ : cqE K G cm cc ec rc T L) (hd : 36 ≤ d2) : et_go none d2 29 0 (eg_en (eg_mL 29) [.ref th, .int x, .ref out]) [] G 0 0 (fun u => (¬ xr x cc ∧ u.1 = .inl (some (.int (Int32.ofNat 1)))) ∨ ∃ k, (x = Int32.ofNat k ∧ k < cc) ∧ u.1 = .inl (some (.int (Int32.ofNat 0))) ∧ et_pl (eg_at u.2.1 out) 0 = some (.long (Int64.ofNat (if (clV (L k).2.2 (φ (R0 (L k).2.1)) (V (L k).1) X Y nc) = true then 1 else 0)))) := by
  obtain ⟨hrk, ⟨h0, h4⟩, ⟨r0, r1, hrc⟩, hq⟩ := hx9
  obtain ⟨tD, k_th, k_s0, k_ra, k_fo⟩ := tR
  by_cases hx : xr x cc
  · obtain ⟨k, rfl, hk⟩ := xr_nat hx (by omega)
    obtain ⟨⟨hC, k_cl, bb2, fl, ⟨c0, k_bb2, lo2, hi2, hdc⟩, ⟨c1, c2, c3⟩, hfl, hnu⟩, hcl2, hn, hr⟩ := hQ k hk
    obtain ⟨hDn, hRr⟩ := hR _ hr
    obtain ⟨bb, lo, hi, q0, hdn, hTb⟩ := hrk _ hDn
    obtain ⟨k_q, hcl⟩ := tD _ hDn
    exact (fh_ho hH k_th h0 k_s0 h5 hec hz.1.1 t.1.1 hn (hz.2.1 _ (by omega)).1 (t.ev (ho _ (by omega)) (by omega)) (hz.2.2.1 _ (by omega)) r0 hrc r1 k_ra hr hRr k_q q0 (cond_ty hH k_q q0) hdn hTb hcl h4 k_fo g2 hnc hcc k_la k_ly k_cl c0 k_bb2 hdc hcl2 c1 c2 c3 hfl hnu g9 hcc6 g10 k_cm hk hC k_out hd).mono (fun u hu => .inr ⟨k, ⟨rfl, hk⟩, hu.1, hu.2⟩)
  · exact (fh_hoN hH k_th h0 k_s0 g9 hcc6 g10 k_cm hx (by omega)).mono (fun u hu => .inl ⟨hx, hu.1⟩)
theorem gz_ho (hH : et_H et_TT K G) (k_am : K am = some 13) (k_aw : K aw = some 46) (m1 : et_pl (eg_at G am) 1 = some (.ref aw)) (w0 : et_pl (eg_at G aw) 0 = some (.int (Int32.ofNat rc))) (hrc : rc ≤ 4) (w4 : et_pl (eg_at G aw) 4 = some (.int (Int32.ofNat ec))) (hec : ec ≤ 3) (hm : zyM G aw ec V) (ho : ∀ n, n < 3 → evo (V n)) (hT : ∀ r, r < rc → txP G aw (126 + 841 * r) 0 (g r) ∧ fcl (g r)) (hky : kyA G am aw rc) (w3 : et_pl (eg_at G aw) 3 = some (.int (Int32.ofNat nc))) (hnc : nc ≤ 20) (hcr : crP G aw nc X Y) (w2 : et_pl (eg_at G aw) 2 = some (.int (Int32.ofNat cc))) (hcc6 : cc ≤ 6) (hX : cqX G aw cc L) (hB : ∀ k, k < cc → cl02 (L k).2.2 ∧ (L k).1 < ec ∧ (L k).2.1 < rc) (hd : 11 ≤ d2) : et_go none d2 291 0 (eg_en (eg_mL 291) [.ref am, .int x]) [] G 0 0 (fun u => (¬ xr x cc ∧ u.1 = .inl (some (.int (Int32.ofNat 0))) ∧ et_pl (eg_at u.2.1 am) 0 = some (.int (Int32.ofNat 1))) ∨ ∃ k, (x = Int32.ofNat k ∧ k < cc) ∧ u.1 = .inl (some (.int (Int32.ofNat (if (clV (L k).2.2 (g (L k).2.1) (V (L k).1) X Y nc) = true then 1 else 0)))) ∧ et_pl (eg_at u.2.1 am) 0 = some (.int (Int32.ofNat 0))) := by
  by_cases hx : xr x cc
  · obtain ⟨k, rfl, hk⟩ := xr_nat hx (by omega)
    obtain ⟨⟨p1, p2⟩, hT2⟩ := hX k hk
    obtain ⟨hcl2, hn, hr⟩ := hB k hk
    exact (fn_ho hH k_am k_aw m1 w0 hrc w4 hec hm ho hT hky w3 hnc hcr p1 p2 (by omega) hT2 hcl2 w2 hcc6 hk hn hr hd).mono (fun u hu => .inr ⟨k, ⟨rfl, hk⟩, hu.1, hu.2⟩)
  · exact (fn_hoN hH k_am k_aw m1 w0 hrc w4 hec hm ho hT hky w3 hnc hcr w2 hcc6 hx (by omega)).mono (fun u hu => .inl ⟨hx, hu.1, hu.2⟩)
end BCA
end
section
section BDA
variable {K : et_K} {G G0 : eg_G} {b : Nat → Nat} {d2 d am aw ai tm n p pl k dp m i r : Nat}
theorem fm_turnerG (hH : et_H et_TT K G) (k_am : K am = some 13) (m4 : et_pl (eg_at G am) 4 = some (.ref tm)) (k_tm : K tm = some 34) (m5 : et_pl (eg_at G am) 5 = some (.int (Int32.ofNat n))) (hn : n ≤ 400) (ht : ∀ i, i < n → et_pl (eg_at G tm) i = some (.int (sx (b i)))) (hb : ∀ i, i < n → b i < 256) (k_aw : K aw = some 46) (m1 : et_pl (eg_at G am) 1 = some (.ref aw)) (w1 : et_pl (eg_at G aw) 1 = some (.int (Int32.ofNat r))) (hr : r ≤ 4) (hd : 35 ≤ d2) : et_go none d2 206 0 (eg_en (eg_mL 206) [.ref am]) [] G 0 0 (xn_Z (fun c j => (c = am ∧ (j = 0 ∨ ((5 ≤ j ∧ j ≤ 10) ∨ (12 ≤ j ∧ j ≤ 13)))) ∨ ((c = aw ∧ (j = 1 ∨ ((r < 4 ∧ (126 + 841 * (4 + r) ≤ j ∧ j < 126 + 841 * (4 + r) + 841)) ∨ 11900 ≤ j))))) G (tuP am aw r (sp_turner (tz_ts 1 b n 0)))) := by
  obtain ⟨d, rfl⟩ : ∃ d, d2 = d + 35 := ⟨d2 - 35, by omega⟩
  rw [show eg_mL 206 = 1 from by decide +kernel]
  show et_go none (d + 35) 206 0 [some (.ref am)] [] G 0 0 (xn_Z _ _ _)
  have hne : ¬ aw = am := hi_ne k_aw k_am (by decide)
  have lt_am := (hH.2.2 _ _ k_am).1
  have lt_tm := (hH.2.2 _ _ k_tm).1
  have lt_aw := (hH.2.2 _ _ k_aw).1
  have hX : xf (fun c j => (c = am ∧ j = 0) ∨ (c = am ∧ (5 ≤ j ∧ j ≤ 10)) ∨ (c = am ∧ (12 ≤ j ∧ j ≤ 13)) ∨ (c = aw ∧ 11900 ≤ j)) G G := xf.rf
  refine hs_aload (i := 0) (p := 1) (by decide +kernel) rfl ?_
  refine ht_callv (T := et_TT) (t := 13) (mi := 181) (na := 0) (ci := 11) (lk := 1) (lm := 1) (L0 := eg_en (eg_mL 181) [.ref am]) (by decide +kernel) rfl hH k_am rfl rfl rfl rfl rfl (by rw [show eg_mL 181 = 1 from by decide +kernel]; first | done | rfl) ?_
  refine (fm_uses hH k_am hn m5).mono (fun u hu => xw_cb hu (fun G1 v1 hH x1 hP1 => ?_))
  have x1 : xf (fun c j => (c = am ∧ j = 0) ∨ (c = am ∧ (5 ≤ j ∧ j ≤ 7)) ∨ (c = am ∧ j = 12)) _ _ := x1
  have m4 := (x1.2 am 4 lt_am (fun h => Or.elim h (fun h => absurd h.2 (by decide)) (fun h => Or.elim h (fun h => absurd h.2 (by decide)) (fun h => absurd h.2 (by decide))))).trans m4
  have m1 := (x1.2 am 1 lt_am (fun h => Or.elim h (fun h => absurd h.2 (by decide)) (fun h => Or.elim h (fun h => absurd h.2 (by decide)) (fun h => absurd h.2 (by decide))))).trans m1
  have w1 := (x1.2 aw 1 lt_aw (fun h => Or.elim h (fun h => hne h.1) (fun h => Or.elim h (fun h => hne h.1) (fun h => hne h.1)))).trans w1
  have ht : ∀ i, i < n → et_pl (eg_at G1 tm) i = some (.int (sx (b i))) := fun i hi => (x1.2 tm i lt_tm (fun h => Or.elim h (fun h => (hi_ne k_tm k_am (by decide)) h.1) (fun h => Or.elim h (fun h => (hi_ne k_tm k_am (by decide)) h.1) (fun h => (hi_ne k_tm k_am (by decide)) h.1)))).trans (ht i hi)
  have lt_am := Nat.lt_of_lt_of_le lt_am x1.1
  have lt_tm := Nat.lt_of_lt_of_le lt_tm x1.1
  have lt_aw := Nat.lt_of_lt_of_le lt_aw x1.1
  have hX := hX.tr x1 (fun b j hb h => by first | omega | (dsimp only at h ⊢; omega) | (dsimp only at h; omega) | (dsimp only; omega))
  obtain ⟨rfl, q0, q5, q6, q7, q12⟩ := hP1
  show et_go none _ 206 4 _ [] _ _ _ _
  refine hs_aload (i := 0) (p := 5) (by decide +kernel) rfl ?_
  refine hs_aload (i := 0) (p := 6) (by decide +kernel) rfl ?_
  refine hs_k (x := Int32.ofNat 1) (p := 7) (by decide +kernel) ?_
  refine ht_callv (T := et_TT) (t := 13) (mi := 182) (na := 1) (ci := 11) (lk := 1) (lm := 3) (L0 := eg_en (eg_mL 182) [.ref am, .int (Int32.ofNat 1)]) (by decide +kernel) rfl hH k_am rfl rfl rfl rfl rfl (by rw [show eg_mL 182 = 3 from by decide +kernel]; first | done | rfl) ?_
  refine (fr_reads_tur (pl := 1) (k := 0) (p := 0) hH k_am m4 k_tm q7 hn ht hb q6 tal0 (by decide) k_aw m1 q12 rfl rfl (by omega)).mono (fun u hu => xw_cb hu (fun G7 v7 hH x7 hP7 => ?_))
  have x7 : xf (fun c j => (c = am ∧ j = 6) ∨ (c = am ∧ (8 ≤ j ∧ j ≤ 10)) ∨ (c = am ∧ (12 ≤ j ∧ j ≤ 13)) ∨ (c = aw ∧ 11900 ≤ j)) _ _ := x7
  have m4 := (x7.2 am 4 lt_am (fun h => Or.elim h (fun h => absurd h.2 (by decide)) (fun h => Or.elim h (fun h => absurd h.2 (by decide)) (fun h => Or.elim h (fun h => absurd h.2 (by decide)) (fun h => (hi_ne k_am k_aw (by decide)) h.1))))).trans m4
  have q5 := (x7.2 am 5 lt_am (fun h => Or.elim h (fun h => absurd h.2 (by decide)) (fun h => Or.elim h (fun h => absurd h.2 (by decide)) (fun h => Or.elim h (fun h => absurd h.2 (by decide)) (fun h => (hi_ne k_am k_aw (by decide)) h.1))))).trans q5
  have m1 := (x7.2 am 1 lt_am (fun h => Or.elim h (fun h => absurd h.2 (by decide)) (fun h => Or.elim h (fun h => absurd h.2 (by decide)) (fun h => Or.elim h (fun h => absurd h.2 (by decide)) (fun h => (hi_ne k_am k_aw (by decide)) h.1))))).trans m1
  have w1 := (x7.2 aw 1 lt_aw (fun h => Or.elim h (fun h => hne h.1) (fun h => Or.elim h (fun h => hne h.1) (fun h => Or.elim h (fun h => hne h.1) (fun h => by have h := h.2; omega))))).trans w1
  have q0 := (x7.2 am 0 lt_am (fun h => Or.elim h (fun h => absurd h.2 (by decide)) (fun h => Or.elim h (fun h => absurd h.2 (by decide)) (fun h => Or.elim h (fun h => absurd h.2 (by decide)) (fun h => (hi_ne k_am k_aw (by decide)) h.1))))).trans q0
  have q7 := (x7.2 am 7 lt_am (fun h => Or.elim h (fun h => absurd h.2 (by decide)) (fun h => Or.elim h (fun h => absurd h.2 (by decide)) (fun h => Or.elim h (fun h => absurd h.2 (by decide)) (fun h => (hi_ne k_am k_aw (by decide)) h.1))))).trans q7
  have ht : ∀ i, i < n → et_pl (eg_at G7 tm) i = some (.int (sx (b i))) := fun i hi => (x7.2 tm i lt_tm (fun h => Or.elim h (fun h => (hi_ne k_tm k_am (by decide)) h.1) (fun h => Or.elim h (fun h => (hi_ne k_tm k_am (by decide)) h.1) (fun h => Or.elim h (fun h => (hi_ne k_tm k_am (by decide)) h.1) (fun h => (hi_ne k_tm k_aw (by decide)) h.1))))).trans (ht i hi)
  have lt_am := Nat.lt_of_lt_of_le lt_am x7.1
  have lt_tm := Nat.lt_of_lt_of_le lt_tm x7.1
  have lt_aw := Nat.lt_of_lt_of_le lt_aw x7.1
  have hX := hX.tr x7 (fun b j hb h => by first | omega | (dsimp only at h ⊢; omega) | (dsimp only at h; omega) | (dsimp only; omega))
  rcases hP7 with ⟨sq, rfl⟩ | ⟨ls_, sq, rfl, g1, g2, g3⟩
  · have hP : PT aw 1 (sp_turner (tz_ts 1 b n 0)) G7 (some (.int (Int32.ofNat 0))) := .inl ⟨sq, rfl⟩
    show et_go none _ 206 10 _ [.int (Int32.ofNat 0), .ref am] _ _ _ _
    refine hs_if0 (c := .ne) (t := 17) (f := 13) (by decide +kernel) (show ¬ (¬ Int32.ofNat 0 = 0) by decide) ?_
    refine hs_k (x := Int32.ofNat 1) (p := 14) (by decide +kernel) ?_
    refine hs_goto (p := 18) (by decide +kernel) ?_
    refine hs_k (x := Int32.ofNat 1) (p := 19) (by decide +kernel) ?_
    refine ht_callv (T := et_TT) (t := 13) (mi := 204) (na := 2) (ci := 11) (lk := 1) (lm := 3) (L0 := eg_en (eg_mL 204) [.ref am, .int (Int32.ofNat 1), .int (Int32.ofNat 1)]) (by decide +kernel) rfl hH k_am rfl rfl rfl rfl rfl (by rw [show eg_mL 204 = 3 from by decide +kernel]; first | done | rfl) ?_
    refine (fm_t1 hH k_am).mono (fun u hu => xw_cb hu (fun G19 v19 hH x19 hP19 => ?_))
    have hP := hP.fr x19 lt_aw (fun j hs => hne hs.1)
    have m4 := (x19.2 am 4 lt_am (fun h => absurd h.2 (by decide))).trans m4
    have q5 := (x19.2 am 5 lt_am (fun h => absurd h.2 (by decide))).trans q5
    have m1 := (x19.2 am 1 lt_am (fun h => absurd h.2 (by decide))).trans m1
    have w1 := (x19.2 aw 1 lt_aw (fun h => hne h.1)).trans w1
    have q7 := (x19.2 am 7 lt_am (fun h => absurd h.2 (by decide))).trans q7
    have ht : ∀ i, i < n → et_pl (eg_at G19 tm) i = some (.int (sx (b i))) := fun i hi => (x19.2 tm i lt_tm (fun h => (hi_ne k_tm k_am (by decide)) h.1)).trans (ht i hi)
    have lt_am := Nat.lt_of_lt_of_le lt_am x19.1
    have lt_tm := Nat.lt_of_lt_of_le lt_tm x19.1
    have lt_aw := Nat.lt_of_lt_of_le lt_aw x19.1
    have hX := hX.tr x19 (fun b j hb h => by first | omega | (dsimp only at h ⊢; omega) | (dsimp only at h; omega) | (dsimp only; omega))
    obtain ⟨rfl, th19⟩ := hP19
    show et_go none _ 206 22 _ [.int (Int32.ofNat 1)] _ _ _ _
    refine hs_if1 (c := .ne) (t := 48) (f := 25) (by decide +kernel) (show ¬ Int32.ofNat 1 = 0 by decide) ?_
    refine hs_k (x := Int32.ofNat 0) (p := 49) (by decide +kernel) ?_
    refine hs_iret (by decide +kernel) ?_
    rcases hP with ⟨sq, -⟩ | ⟨_, _, hz, _⟩
    · exact ⟨_, _, rfl, hX.wk (fun c j _ h => by first | omega | (dsimp only at h ⊢; omega)), .inl ⟨sq, rfl, th19, w1⟩⟩
    · cases hz
  · have hP : PT aw 1 (sp_turner (tz_ts 1 b n 0)) G7 (some (.int (Int32.ofNat 1))) := .inr ⟨ls_, sq, rfl, g1, g2, g3⟩
    show et_go none _ 206 10 _ [.int (Int32.ofNat 1), .ref am] _ _ _ _
    refine hs_if1 (c := .ne) (t := 17) (f := 13) (by decide +kernel) (show ¬ Int32.ofNat 1 = 0 by decide) ?_
    refine hs_k (x := Int32.ofNat 0) (p := 18) (by decide +kernel) ?_
    refine hs_k (x := Int32.ofNat 1) (p := 19) (by decide +kernel) ?_
    refine ht_callv (T := et_TT) (t := 13) (mi := 204) (na := 2) (ci := 11) (lk := 1) (lm := 3) (L0 := eg_en (eg_mL 204) [.ref am, .int (Int32.ofNat 0), .int (Int32.ofNat 1)]) (by decide +kernel) rfl hH k_am rfl rfl rfl rfl rfl (by rw [show eg_mL 204 = 3 from by decide +kernel]; first | done | rfl) ?_
    refine (fm_t0 hH k_am).mono (fun u hu => xp_cb hu ?_)
    show et_go none _ 206 22 _ [.int (Int32.ofNat 0)] _ _ _ _
    refine hs_if0 (c := .ne) (t := 48) (f := 25) (by decide +kernel) (show ¬ (¬ Int32.ofNat 0 = 0) by decide) ?_
    refine hs_aload (i := 0) (p := 26) (by decide +kernel) rfl ?_
    refine hs_aload (i := 0) (p := 27) (by decide +kernel) rfl ?_
    refine hf_get (T := et_TT) (t := 13) (ci := 11) (f := 1) (p := 30) (by decide +kernel) rfl hH k_am m1 ?_
    refine hs_k (x := Int32.ofNat 1) (p := 31) (by decide +kernel) ?_
    refine hf_ald (ins := .iaload) (T := et_TT) (t := 46) (kd := 0) (N := 12741) (p := 32) (by decide +kernel) (fun _ _ _ _ _ _ _ _ _ _ => rfl) rfl rfl rfl hH k_aw (by decide) w1 ?_
    refine hs_k (x := Int32.ofNat 4) (p := 33) (by decide +kernel) ?_
    refine hs_br2n (c := .ne) (t := 40) (f := 36) (by decide +kernel) (by omega) (by omega) (fun (c33 : ¬ r = 4) => ?_) (fun (c33 : ¬ (¬ r = 4)) => ?_)
    · refine hs_k (x := Int32.ofNat 0) (p := 41) (by decide +kernel) ?_
      refine hs_k (x := Int32.ofNat 2) (p := 42) (by decide +kernel) ?_
      refine ht_callv (T := et_TT) (t := 13) (mi := 204) (na := 2) (ci := 11) (lk := 1) (lm := 3) (L0 := eg_en (eg_mL 204) [.ref am, .int (Int32.ofNat 0), .int (Int32.ofNat 2)]) (by decide +kernel) rfl hH k_am rfl rfl rfl rfl rfl (by rw [show eg_mL 204 = 3 from by decide +kernel]; first | done | rfl) ?_
      refine (fm_t0 hH k_am).mono (fun u hu => xp_cb hu ?_)
      show et_go none _ 206 45 _ [.int (Int32.ofNat 0)] _ _ _ _
      refine hs_if1 (c := .eq) (t := 50) (f := 48) (by decide +kernel) (show Int32.ofNat 0 = 0 by decide) ?_
      rcases hP with ⟨-, hz⟩ | ⟨ls_, sq, -, g1, g2, g3⟩
      · cases hz
      · obtain ⟨F, W, aw2, ta, tp, pt, bg, st, dp, ai2, TP, IK, hB, -, -, ⟨hi, i1, i2, i3, i4, -, -⟩, ⟨eF, eW, -, -, -, -, -⟩, e⟩ := hi_txt hH k_am
        have ew := m1
        rw [eF, hmF_pl (by decide), hB.2.2.1] at ew
        injection ew with ew
        injection ew with ew
        subst ew
        have hW0 := w1
        rw [eW, hmW_pl (by decide)] at hW0
        injection hW0 with hW0
        injection hW0 with hW0
        have hz : ∀ Z : eg_O → Prop, (∀ V : Nat → Int32, (∀ i, i < 841 → V (126 + 841 * (4 + r) + i) = W (11900 + i)) → (∀ i, (i < 126 + 841 * (4 + r) ∨ 126 + 841 * (4 + r) + 841 ≤ i) → V i = W i) → Z (.inl (some (.int (Int32.ofNat r))), hm_H G7 am aw2 F (upd V 1 (Int32.ofNat (r + 1))), 0, 0)) → et_go none (d + 35) 206 50 [some (.ref am)] [] G7 0 0 Z := fun Z h => by
          have h1 := tl_turner (d := d + 33) hB.1 hB.2.2.1 (by omega) hW0 h
          rw [← e] at h1
          exact h1
        refine hz _ (fun V v1 v2 => ?_)
        have hx1 := hm_xf0 (W1 := upd V 1 (Int32.ofNat (r + 1))) hB.1 e
        have hV : ∀ i, ¬ i = 1 → (i < 126 + 841 * (4 + r) ∨ 126 + 841 * (4 + r) + 841 ≤ i) → upd V 1 (Int32.ofNat (r + 1)) i = W i := fun i h1 h2 => (hs_un h1).trans (v2 i h2)
        have e1 : eg_at (hm_H G7 am aw2 F (upd V 1 (Int32.ofNat (r + 1)))) aw2 = hm_W (upd V 1 (Int32.ofNat (r + 1))) := hm_w hB.1
        refine ⟨_, _, rfl, (hX.wk (fun c j _ h => by first | omega | (dsimp only at h ⊢; omega))).tr hx1 (fun c j _ hs => ?_), .inr (.inr ⟨ls_, sq, by omega, rfl, (hx1.2 am 0 lt_am (fun h => hB.1.2.2 h.1)).trans q0, ?_, ?_⟩)⟩
        · obtain ⟨rfl, hs⟩ := hs
          refine .inr ⟨rfl, ?_⟩
          refine Decidable.by_contra (fun hc => hs (hV j (by omega) (by omega)))
        · rw [e1, hmW_pl (by decide)]
          exact congrArg (fun z => some (Value.int z)) hs_us
        · refine tuT.mv eW g1 g2 g3 (fun i v hi2 hv => ?_)
          rw [eW, hmW_pl (by omega)] at hv
          rw [e1, hmW_pl (by omega), ← hv]
          exact congrArg (fun z => some (Value.int z)) ((hs_un (by omega)).trans (v1 i hi2))
    · refine hs_k (x := Int32.ofNat 1) (p := 37) (by decide +kernel) ?_
      refine hs_goto (p := 41) (by decide +kernel) ?_
      refine hs_k (x := Int32.ofNat 2) (p := 42) (by decide +kernel) ?_
      refine ht_callv (T := et_TT) (t := 13) (mi := 204) (na := 2) (ci := 11) (lk := 1) (lm := 3) (L0 := eg_en (eg_mL 204) [.ref am, .int (Int32.ofNat 1), .int (Int32.ofNat 2)]) (by decide +kernel) rfl hH k_am rfl rfl rfl rfl rfl (by rw [show eg_mL 204 = 3 from by decide +kernel]; first | done | rfl) ?_
      refine (fm_t1 hH k_am).mono (fun u hu => xw_cb hu (fun G42 v42 hH x42 hP42 => ?_))
      have hP := hP.fr x42 lt_aw (fun j hs => hne hs.1)
      have m4 := (x42.2 am 4 lt_am (fun h => absurd h.2 (by decide))).trans m4
      have q5 := (x42.2 am 5 lt_am (fun h => absurd h.2 (by decide))).trans q5
      have m1 := (x42.2 am 1 lt_am (fun h => absurd h.2 (by decide))).trans m1
      have w1 := (x42.2 aw 1 lt_aw (fun h => hne h.1)).trans w1
      have q7 := (x42.2 am 7 lt_am (fun h => absurd h.2 (by decide))).trans q7
      have ht : ∀ i, i < n → et_pl (eg_at G42 tm) i = some (.int (sx (b i))) := fun i hi => (x42.2 tm i lt_tm (fun h => (hi_ne k_tm k_am (by decide)) h.1)).trans (ht i hi)
      have lt_am := Nat.lt_of_lt_of_le lt_am x42.1
      have lt_tm := Nat.lt_of_lt_of_le lt_tm x42.1
      have lt_aw := Nat.lt_of_lt_of_le lt_aw x42.1
      have hX := hX.tr x42 (fun b j hb h => by first | omega | (dsimp only at h ⊢; omega) | (dsimp only at h; omega) | (dsimp only; omega))
      obtain ⟨rfl, th42⟩ := hP42
      show et_go none _ 206 45 _ [.int (Int32.ofNat 1)] _ _ _ _
      refine hs_if0 (c := .eq) (t := 50) (f := 48) (by decide +kernel) (show ¬ (Int32.ofNat 1 = 0) by decide) ?_
      refine hs_k (x := Int32.ofNat 0) (p := 49) (by decide +kernel) ?_
      refine hs_iret (by decide +kernel) ?_
      rcases hP with ⟨-, hz⟩ | ⟨f_, sq, -⟩
      · cases hz
      · exact ⟨_, _, rfl, hX.wk (fun c j _ h => by first | omega | (dsimp only at h ⊢; omega)), .inr (.inl ⟨by omega, (by rw [sq]; intro h; cases h), rfl, th42, w1⟩)⟩
end BDA
theorem hi_el39 {K : et_K} {G : eg_G} {ra n q : Nat} (hH : et_H et_TT K G) (k_ra : K ra = some 39) (hn : n < 6) (hq : et_pl (eg_at G ra) n = some (.ref q)) : K q = some 2 := by
  obtain ⟨g1, -, g3, dd, hd, hcell, hcx⟩ := hH.2.2 ra 39 k_ra
  cases hd
  obtain ⟨x, e, ey, er, es⟩ := hcell
  rw [e] at hq
  have hq : (if n < x.1 then eg_rd _ x n else none) = some (.ref q) := hq
  obtain ⟨v, h1, h2⟩ := es _ (List.mem_singleton.mpr rfl) n (Nat.zero_le _) (show n ≤ 5 by omega) hn
  rw [if_pos (by rw [ey]; exact hn), h1] at hq
  cases hq
  rcases h2 with ⟨-, h2⟩ | ⟨-, q', e1, e2⟩
  · cases h2
  · cases e1
    exact e2
end
