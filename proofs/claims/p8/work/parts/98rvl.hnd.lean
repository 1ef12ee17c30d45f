/-! FUNCTIONAL: right: both sides -/
theorem hs_cbvE {T : List et_D} {M : et_M} {d k pc ck sk c s : Nat} {L : eg_Ls} {r : List Value} {Z : eg_O → Prop} {w : et_Wd} {q : et_P} {u : eg_O} {v : Value} (hu : hi_Z T w M [(.inl (some q), c, s)] u ∧ u.1 = .inl (some v)) (h : ∀ (K' : et_K) (G' : eg_G) (c' s' : Nat), et_ex w.1 K' → et_fr M w.1 w.2.2 G' → et_H T K' G' → c' ≤ c → s' ≤ s → et_go none d k (pc + 3) L (v :: r) G' (ck + c') (sk + s') Z) : hs_cont d k pc L r ck sk Z u := by
  obtain ⟨⟨e, he, K', h1, h2, h3, h4, h5, h6⟩, hP⟩ := hu
  obtain rfl := List.mem_singleton.mp he
  obtain ⟨u1, u2, u3, u4⟩ := u
  have hP : u1 = .inl (some v) := hP
  subst hP
  exact hs_cb (h K' u2 u3 u4 h1 h2 h3 h5 h6)
section TPA
variable {K : et_K} {G : eg_G} {D : Nat → Prop} {φ : Nat → sp_E → Bool} {R0 : Nat → Nat} {d d2 th s0 ra rc fo out am aw : Nat} {x ru : Int32} {g : Nat → sp_E → Bool}
theorem fc_right (t : rxK K D φ th s0 ra fo) (hH : et_H et_TT K G) (hz : rx D φ th s0 ra rc fo G) (hR : ∀ k, k < rc → D (R0 k) ∧ et_pl (eg_at G ra) k = some (.ref (R0 k))) (hd : 20 ≤ d2) : et_go none d2 134 0 (eg_en (eg_mL 134) [.ref th, .int ru, .int x]) [] G 0 0 (fun u => ((¬ xr ru rc ∧ u.1 = .inr 1) ∨ (xr ru rc ∧ ¬ (0 ≤ x.toInt ∧ x.toInt < 65536) ∧ u.1 = .inr 0) ∨ ∃ n, ru = Int32.ofNat n ∧ n < rc ∧ (0 ≤ x.toInt ∧ x.toInt < 65536) ∧ u.1 = .inl (some (.int (Int32.ofNat (if φ (R0 n) (feE (fun _ => x)) = true then 1 else 0)))))) := by
  obtain ⟨d, rfl⟩ : ∃ d, d2 = d + 20 := ⟨d2 - 20, by omega⟩
  rw [show eg_mL 134 = 4 from by decide +kernel]
  show et_go none (d + 20) 134 0 [some (.ref th), some (.int ru), some (.int x), none] [] G 0 0 _
  refine hs_aload (i := 0) (p := 1) (by decide +kernel) rfl ?_
  refine hs_iload (i := 1) (p := 2) (by decide +kernel) rfl ?_
  refine ht_callv (T := et_TT) (t := 12) (mi := 129) (na := 1) (ci := 10) (lk := 4) (lm := 2) (L0 := eg_en (eg_mL 129) [.ref th, .int ru]) (by decide +kernel) rfl hH t.2.1 rfl rfl rfl rfl rfl (by rw [show eg_mL 129 = 2 from by decide +kernel]; first | done | rfl) ?_
  refine (fc_needRule (ru := ru) hH t.2.1 hz.2.1.1 t.2.2.1 hz.2.2.1.1 hz.2.2.1.2.2 hz.2.2.1.2.1 t.2.2.2.1 (fun i hi => ⟨R0 i, (hR i hi).2⟩)).mono (fun u hu => ?_)
  obtain ⟨G1, v, c, s, rfl, -, -, rfl, h⟩ := hu
  rcases h with ⟨hn, rfl⟩ | ⟨n, q, rfl, hn, rfl, kq, hq⟩
  · refine hf_cx (by decide +kernel) ?_
    exact .inl ⟨hn, rfl⟩
  have hxr : xr (Int32.ofNat n) rc := by
    unfold xr
    have h4 := hz.2.2.1.2.2
    rw [hs_nint (by omega)]
    omega
  refine hs_cb ?_
  show et_go none _ 134 5 _ [.ref q] _ _ _ _
  refine hs_astore (i := 3) (p := 6) (by decide +kernel) (Nat.le_of_ble_eq_true rfl) ?_
  refine hs_iload (i := 2) (p := 7) (by decide +kernel) rfl ?_
  refine hs_calls (mi := 135) (na := 1) (lk := 4) (lm := 1) (L0 := eg_en (eg_mL 135) [.int x]) (by decide +kernel) rfl rfl rfl rfl rfl rfl (by rw [show eg_mL 135 = 1 from by decide +kernel]; first | done | rfl) ?_
  refine (fc_needLit (K := K) (x := x) hH).mono (fun u hu => ?_)
  obtain ⟨G1, v, c, s, rfl, -, -, h⟩ := hu
  rcases h with ⟨hl, rfl, rfl⟩ | ⟨hl, rfl, rfl⟩
  · refine hf_cx (by decide +kernel) ?_
    exact .inr (.inl ⟨hxr, hl, rfl⟩)
  refine hs_cb ?_
  show et_go none _ 134 10 _ [] _ _ _ _
  refine hs_aload (i := 3) (p := 11) (by decide +kernel) rfl ?_
  refine hs_iload (i := 2) (p := 12) (by decide +kernel) rfl ?_
  refine hs_aload (i := 0) (p := 13) (by decide +kernel) rfl ?_
  refine hf_get (T := et_TT) (t := 12) (ci := 10) (f := 4) (p := 16) (by decide +kernel) rfl hH t.2.1 hz.2.1.2 ?_
  obtain ⟨m, hm, rfl⟩ : ∃ m, m < 65536 ∧ x = Int32.ofNat m := ⟨x.toInt.toNat, by omega, hi_of (by omega) (by omega)⟩
  refine ht_callv (T := et_TT) (t := 8) (mi := 87) (na := 2) (ci := 6) (lk := 4) (lm := 3) (L0 := eg_en (eg_mL 87) [.ref q, .int (Int32.ofNat m), .ref fo]) (by decide +kernel) rfl hH kq rfl rfl rfl rfl rfl (by rw [show eg_mL 87 = 3 from by decide +kernel]; first | done | rfl) ?_
  obtain ⟨hD, hq2⟩ := hR n hn
  rw [hq] at hq2
  obtain rfl : q = R0 n := Value.ref.inj (Option.some.inj hq2)
  obtain ⟨bb, lo, hi, h1, h2, h3⟩ := hz.1 _ hD
  obtain ⟨F, hF⟩ := foR_of hH t.2.2.2.2
  refine (fx_tells hH kq h1 (cond_ty hH kq h1) h2 h3 hF hm (by omega)).mono (fun u hu => ?_)
  obtain ⟨G1, v, rfl, -, -, rfl⟩ := hu
  refine hs_cb ?_
  show et_go none _ 134 19 _ [.int (Int32.ofNat (if φ (R0 n) (feE (fup F (Int32.ofNat m))) = true then 1 else 0))] _ _ _ _
  refine hs_zret (by decide +kernel) (by split; exact .inr rfl; exact .inl rfl) ?_
  exact .inr (.inr ⟨n, rfl, hn, hl, by rw [(t.1 _ hD).2 (fun _ => Int32.ofNat m) (fup F (Int32.ofNat m)) rfl]⟩)
theorem fh_right (t : rxK K D φ th s0 ra fo) (hH : et_H et_TT K G) (hz : rx D φ th s0 ra rc fo G) (hR : ∀ k, k < rc → D (R0 k) ∧ et_pl (eg_at G ra) k = some (.ref (R0 k))) (k_out : K out = some 31) (hd : 34 ≤ d2) : et_go none d2 3 0 (eg_en (eg_mL 3) [.ref th, .int ru, .int x, .ref out]) [] G 0 0 (fun u => ((¬ xr ru rc ∧ u.1 = .inl (some (.int (Int32.ofNat 1)))) ∨ (xr ru rc ∧ ¬ (0 ≤ x.toInt ∧ x.toInt < 65536) ∧ u.1 = .inl (some (.int (Int32.ofNat 2)))) ∨ ∃ n, ru = Int32.ofNat n ∧ n < rc ∧ (0 ≤ x.toInt ∧ x.toInt < 65536) ∧ u.1 = .inl (some (.int (Int32.ofNat 0))) ∧ et_pl (eg_at u.2.1 out) 0 = some (.long (Int64.ofNat (if φ (R0 n) (feE (fun _ => x)) = true then 1 else 0))))) := by
  obtain ⟨d, rfl⟩ : ∃ d, d2 = d + 34 := ⟨d2 - 34, by omega⟩
  rw [show eg_mL 3 = 5 from by decide +kernel]
  show et_go none (d + 34) 3 0 [some (.ref th), some (.int ru), some (.int x), some (.ref out), none] [] G 0 0 _
  refine hs_aload (i := 3) (p := 1) (by decide +kernel) rfl ?_
  refine hs_k (x := Int32.ofNat 0) (p := 2) (by decide +kernel) ?_
  refine hs_aload (i := 0) (p := 3) (by decide +kernel) rfl ?_
  refine hs_iload (i := 1) (p := 4) (by decide +kernel) rfl ?_
  refine hs_iload (i := 2) (p := 5) (by decide +kernel) rfl ?_
  refine ht_callv (T := et_TT) (t := 12) (mi := 134) (na := 2) (ci := 10) (lk := 5) (lm := 4) (L0 := eg_en (eg_mL 134) [.ref th, .int ru, .int x]) (by decide +kernel) rfl hH t.2.1 rfl rfl rfl rfl rfl (by rw [show eg_mL 134 = 4 from by decide +kernel]; first | done | rfl) ?_
  refine ((ek_p134_ok (K, [], G) [.ref th, .int ru, .int x] _ hH (by show 33 ≤ _; omega) rfl (ht_ac (.inr ⟨by decide, _, rfl, t.2.1⟩) (ht_ac hi_any (ht_ac hi_any ht_an)))).and (fc_right t hH hz hR (by omega))).mono (fun u hu => ?_)
  obtain ⟨⟨es, hes, K1, hx1, hf1, hH1, hv1, -, -⟩, hq⟩ := hu
  obtain ⟨u1, u2, u3, u4⟩ := u
  rcases hq with ⟨a, b⟩ | ⟨a, b, e⟩ | ⟨n, hn1, hn, hl, e⟩
  · have b : u1 = .inr 1 := b
    subst b
    refine hs_ch (h := 20) (i := 4) (n := 2) (hh := (eg_mh 3).getD []) (by decide +kernel) ⟨(by decide +kernel), (by decide +kernel)⟩ (Nat.le_of_ble_eq_true rfl) ?_
    show et_go none _ 3 22 [some (.ref th), some (.int ru), some (.int x), some (.ref out), none] [] _ _ _ _
    refine hs_k (x := Int32.ofNat 1) (p := 23) (by decide +kernel) ?_
    refine hs_iret (by decide +kernel) ?_
    exact .inl ⟨a, rfl⟩
  · have e : u1 = .inr 0 := e
    subst e
    refine hs_ch (h := 24) (i := 4) (n := 2) (hh := (eg_mh 3).getD []) (by decide +kernel) ⟨(by decide +kernel), (by decide +kernel)⟩ (Nat.le_of_ble_eq_true rfl) ?_
    show et_go none _ 3 26 [some (.ref th), some (.int ru), some (.int x), some (.ref out), none] [] _ _ _ _
    refine hs_k (x := Int32.ofNat 2) (p := 27) (by decide +kernel) ?_
    refine hs_iret (by decide +kernel) ?_
    exact .inr (.inl ⟨a, b, rfl⟩)
  · have e : u1 = .inl (some (.int (Int32.ofNat (if φ (R0 n) (feE (fun _ => x)) = true then 1 else 0)))) := e
    subst e
    refine hs_cb ?_
    show et_go none _ 3 8 _ [.int (Int32.ofNat (if φ (R0 n) (feE (fun _ => x)) = true then 1 else 0)), .int (Int32.ofNat 0), .ref out] _ _ _ _
    by_cases hb : φ (R0 n) (feE (fun _ => x)) = true
    · rw [if_pos hb]
      refine hs_if0 (c := .eq) (t := 15) (f := 11) (by decide +kernel) (show ¬ Int32.ofNat 1 = 0 by decide) ?_
      refine hs_st (ins := .lconst 1) (len := 1) (p := 12) (by decide +kernel) rfl rfl ?_
      refine hs_goto (p := 16) (by decide +kernel) ?_
      refine hf_lst (T := et_TT) (t := 31) (N := 1) (n := 0) (p := 17) (by decide +kernel) rfl (by decide) hH1 (hx1 _ _ k_out) (by decide) (by decide) (fun G9 hH9 x9 e9 => ?_)
      refine hs_goto (p := 28) (by decide +kernel) ?_
      refine hs_k (x := Int32.ofNat 0) (p := 29) (by decide +kernel) ?_
      refine hs_iret (by decide +kernel) ?_
      exact .inr (.inr ⟨n, hn1, hn, hl, rfl, by rw [if_pos hb]; exact e9⟩)
    · rw [if_neg hb]
      refine hs_if1 (c := .eq) (t := 15) (f := 11) (by decide +kernel) (show Int32.ofNat 0 = 0 by decide) ?_
      refine hs_st (ins := .lconst 0) (len := 1) (p := 16) (by decide +kernel) rfl rfl ?_
      refine hf_lst (T := et_TT) (t := 31) (N := 1) (n := 0) (p := 17) (by decide +kernel) rfl (by decide) hH1 (hx1 _ _ k_out) (by decide) (by decide) (fun G9 hH9 x9 e9 => ?_)
      refine hs_goto (p := 28) (by decide +kernel) ?_
      refine hs_k (x := Int32.ofNat 0) (p := 29) (by decide +kernel) ?_
      refine hs_iret (by decide +kernel) ?_
      exact .inr (.inr ⟨n, hn1, hn, hl, rfl, by rw [if_neg hb]; exact e9⟩)
theorem fm_right (hH : et_H et_TT K G) (k_am : K am = some 13) (k_aw : K aw = some 46) (m1 : et_pl (eg_at G am) 1 = some (.ref aw)) (w0 : et_pl (eg_at G aw) 0 = some (.int (Int32.ofNat rc))) (hrc : rc ≤ 4) (hT : ∀ k, k < rc → txP G aw (126 + 841 * k) 0 (g k)) (hd : 5 ≤ d2) : et_go none d2 211 0 (eg_en (eg_mL 211) [.ref am, .int ru, .int x]) [] G 0 0 (fun u => ((¬ xr ru rc ∧ u.1 = .inl (some (.int (Int32.ofNat 0))) ∧ et_pl (eg_at u.2.1 am) 0 = some (.int (Int32.ofNat 1))) ∨ (xr ru rc ∧ ¬ (0 ≤ x.toInt ∧ x.toInt < 65536) ∧ u.1 = .inl (some (.int (Int32.ofNat 0))) ∧ et_pl (eg_at u.2.1 am) 0 = some (.int (Int32.ofNat 2))) ∨ ∃ n, ru = Int32.ofNat n ∧ n < rc ∧ (0 ≤ x.toInt ∧ x.toInt < 65536) ∧ u.1 = .inl (some (.int (Int32.ofNat (if g n (feE (fun _ => x)) = true then 1 else 0)))) ∧ et_pl (eg_at u.2.1 am) 0 = some (.int (Int32.ofNat 0)))) := by
  obtain ⟨d, rfl⟩ : ∃ d, d2 = d + 5 := ⟨d2 - 5, by omega⟩
  have lt_aw0 := (hH.2.2 _ _ k_aw).1
  rw [show eg_mL 211 = 3 from by decide +kernel]
  show et_go none (d + 5) 211 0 [some (.ref am), some (.int ru), some (.int x)] [] G 0 0 _
  have lt_am := (hH.2.2 _ _ k_am).1
  have lt_aw := (hH.2.2 _ _ k_aw).1
  refine hs_aload (i := 0) (p := 1) (by decide +kernel) rfl ?_
  refine hs_k (x := Int32.ofNat 0) (p := 2) (by decide +kernel) ?_
  refine hf_put (T := et_TT) (t := 13) (ci := 11) (f := 0) (p := 5) (ty := .int) (by decide +kernel) rfl rfl rfl rfl rfl hH k_am hi_any (fun G2 hH x2 e2 => ?_)
  have hT := fun (k : Nat) (hk : k < rc) => (hT k hk).xs lt_aw x2 (fun j h => hi_ne k_aw k_am (by decide) h.1)
  have m1 := (x2.2 am 1 lt_am (fun h => absurd h.2 (by decide))).trans m1
  have w0 := (x2.2 aw 0 lt_aw (fun h => (hi_ne k_aw k_am (by decide)) h.1)).trans w0
  have lt_am := Nat.lt_of_lt_of_le lt_am x2.1
  have lt_aw := Nat.lt_of_lt_of_le lt_aw x2.1
  refine hs_aload (i := 0) (p := 6) (by decide +kernel) rfl ?_
  refine hs_aload (i := 0) (p := 7) (by decide +kernel) rfl ?_
  refine hs_iload (i := 1) (p := 8) (by decide +kernel) rfl ?_
  refine ht_callv (T := et_TT) (t := 13) (mi := 210) (na := 1) (ci := 11) (lk := 3) (lm := 2) (L0 := eg_en (eg_mL 210) [.ref am, .int ru]) (by decide +kernel) rfl hH k_am rfl rfl rfl rfl rfl (by rw [show eg_mL 210 = 2 from by decide +kernel]; first | done | rfl) ?_
  refine (fm_nR (x := ru) hH k_am k_aw m1 w0 hrc (by omega)).mono (fun u hu => xp_cb hu ?_)
  by_cases xu : 0 ≤ ru.toInt ∧ ru.toInt < (rc : Int)
  · rw [if_pos xu]
    show et_go none _ 211 11 _ [.int (Int32.ofNat 0), .ref am] _ _ _ _
    refine hs_k (x := Int32.ofNat 1) (p := 12) (by decide +kernel) ?_
    refine ht_callv (T := et_TT) (t := 13) (mi := 204) (na := 2) (ci := 11) (lk := 3) (lm := 3) (L0 := eg_en (eg_mL 204) [.ref am, .int (Int32.ofNat 0), .int (Int32.ofNat 1)]) (by decide +kernel) rfl hH k_am rfl rfl rfl rfl rfl (by rw [show eg_mL 204 = 3 from by decide +kernel]; first | done | rfl) ?_
    refine (fm_t0 hH k_am).mono (fun u hu => xp_cb hu ?_)
    show et_go none _ 211 15 _ [.int (Int32.ofNat 0)] _ _ _ _
    refine hs_if0 (c := .ne) (t := 43) (f := 18) (by decide +kernel) (show ¬ (¬ Int32.ofNat 0 = 0) by decide) ?_
    refine hs_aload (i := 0) (p := 19) (by decide +kernel) rfl ?_
    refine hs_iload (i := 2) (p := 20) (by decide +kernel) rfl ?_
    refine hs_calls (mi := 212) (na := 1) (lk := 3) (lm := 1) (L0 := eg_en (eg_mL 212) [.int x]) (by decide +kernel) rfl rfl rfl rfl rfl rfl (by rw [show eg_mL 212 = 1 from by decide +kernel]; first | done | rfl) ?_
    refine (fm_noLit (x := x)).mono (fun u hu => xp_cb hu ?_)
    by_cases xl : 0 ≤ x.toInt ∧ x.toInt < 65536
    · rw [if_pos xl]
      show et_go none _ 211 23 _ [.int (Int32.ofNat 0), .ref am] _ _ _ _
      refine hs_k (x := Int32.ofNat 2) (p := 24) (by decide +kernel) ?_
      refine ht_callv (T := et_TT) (t := 13) (mi := 204) (na := 2) (ci := 11) (lk := 3) (lm := 3) (L0 := eg_en (eg_mL 204) [.ref am, .int (Int32.ofNat 0), .int (Int32.ofNat 2)]) (by decide +kernel) rfl hH k_am rfl rfl rfl rfl rfl (by rw [show eg_mL 204 = 3 from by decide +kernel]; first | done | rfl) ?_
      refine (fm_t0 hH k_am).mono (fun u hu => xp_cb hu ?_)
      show et_go none _ 211 27 _ [.int (Int32.ofNat 0)] _ _ _ _
      refine hs_if0 (c := .ne) (t := 43) (f := 30) (by decide +kernel) (show ¬ (¬ Int32.ofNat 0 = 0) by decide) ?_
      refine hs_aload (i := 0) (p := 31) (by decide +kernel) rfl ?_
      refine hs_iload (i := 1) (p := 32) (by decide +kernel) rfl ?_
      refine hs_iload (i := 2) (p := 33) (by decide +kernel) rfl ?_
      obtain ⟨n, hn, rfl⟩ : ∃ n, n < rc ∧ ru = Int32.ofNat n := ⟨ru.toInt.toNat, by omega, hi_of (by omega) (by omega)⟩
      refine ht_callv (T := et_TT) (t := 13) (mi := 213) (na := 2) (ci := 11) (lk := 3) (lm := 4) (L0 := eg_en (eg_mL 213) [.ref am, .int (Int32.ofNat n), .int x]) (by decide +kernel) rfl hH k_am rfl rfl rfl rfl rfl (by rw [show eg_mL 213 = 4 from by decide +kernel]; first | done | rfl) ?_
      refine ((er_c1 (K, [], _) [.ref am, .int (Int32.ofNat n), .int x] _ hH (by show 4 ≤ _; omega) rfl (ht_ac (.inr ⟨by decide, _, rfl, k_am⟩) (ht_ac (hi_nv (by omega) (by omega)) (ht_ac (hi_iv (by omega) (by omega)) ht_an)))).and (fm_ruled (F := fun _ => x) hH k_am k_aw m1 rfl (by omega) (hT n hn) (by omega))).mono (fun u hu => hs_cbvE hu (fun K33 G33 c33 s33 x33 f33 hH cl33 sl33 => ?_))
      obtain rfl : c33 = 0 := Nat.le_zero.mp cl33
      obtain rfl : s33 = 0 := Nat.le_zero.mp sl33
      have m1 := (f33.2 am 13 k_am 1 rfl).trans m1
      have w0 := (f33.2 aw 46 k_aw 0 rfl).trans w0
      have e2 := (f33.2 am 13 k_am 0 rfl).trans e2
      have k_am := x33 _ _ k_am
      have lt_am := (hH.2.2 _ _ k_am).1
      have k_aw := x33 _ _ k_aw
      have lt_aw := (hH.2.2 _ _ k_aw).1
      show et_go none _ 211 36 _ [.int (Int32.ofNat (if g n (feE (fun _ => x)) = true then 1 else 0))] _ _ _ _
      refine hs_br1 (c := .eq) (t := 43) (f := 39) (by decide +kernel) (fun (c36 : Int32.ofNat (if g n (feE (fun _ => x)) = true then 1 else 0) = 0) => ?_) (fun (c36 : ¬ (Int32.ofNat (if g n (feE (fun _ => x)) = true then 1 else 0) = 0)) => ?_)
      · refine hs_k (x := Int32.ofNat 0) (p := 44) (by decide +kernel) ?_
        refine hs_zret (by decide +kernel) (.inl rfl) ?_
        have hb : ¬ g n (feE (fun _ => x)) = true := fun h => by
          rw [if_pos h] at c36
          exact absurd c36 (by decide)
        exact .inr (.inr ⟨n, rfl, hn, xl, by rw [if_neg hb], e2⟩)
      · refine hs_k (x := Int32.ofNat 1) (p := 40) (by decide +kernel) ?_
        refine hs_goto (p := 44) (by decide +kernel) ?_
        refine hs_zret (by decide +kernel) (.inr rfl) ?_
        have hb : g n (feE (fun _ => x)) = true := by
          by_cases h : g n (feE (fun _ => x)) = true
          · exact h
          · exact absurd (by rw [if_neg h]; rfl) c36
        exact .inr (.inr ⟨n, rfl, hn, xl, by rw [if_pos hb], e2⟩)
    · rw [if_neg xl]
      show et_go none _ 211 23 _ [.int (Int32.ofNat 1), .ref am] _ _ _ _
      refine hs_k (x := Int32.ofNat 2) (p := 24) (by decide +kernel) ?_
      refine ht_callv (T := et_TT) (t := 13) (mi := 204) (na := 2) (ci := 11) (lk := 3) (lm := 3) (L0 := eg_en (eg_mL 204) [.ref am, .int (Int32.ofNat 1), .int (Int32.ofNat 2)]) (by decide +kernel) rfl hH k_am rfl rfl rfl rfl rfl (by rw [show eg_mL 204 = 3 from by decide +kernel]; first | done | rfl) ?_
      refine (fm_t1 hH k_am).mono (fun u hu => xw_cb hu (fun G24 v24 hH x24 hP24 => ?_))
      have hT := fun (k : Nat) (hk : k < rc) => (hT k hk).xs lt_aw x24 (fun j h => hi_ne k_aw k_am (by decide) h.1)
      have m1 := (x24.2 am 1 lt_am (fun h => absurd h.2 (by decide))).trans m1
      have w0 := (x24.2 aw 0 lt_aw (fun h => (hi_ne k_aw k_am (by decide)) h.1)).trans w0
      have lt_am := Nat.lt_of_lt_of_le lt_am x24.1
      have lt_aw := Nat.lt_of_lt_of_le lt_aw x24.1
      obtain ⟨rfl, th24⟩ := hP24
      show et_go none _ 211 27 _ [.int (Int32.ofNat 1)] _ _ _ _
      refine hs_if1 (c := .ne) (t := 43) (f := 30) (by decide +kernel) (show ¬ Int32.ofNat 1 = 0 by decide) ?_
      refine hs_k (x := Int32.ofNat 0) (p := 44) (by decide +kernel) ?_
      refine hs_zret (by decide +kernel) (.inl rfl) ?_
      exact .inr (.inl ⟨xu, xl, rfl, th24⟩)
  · rw [if_neg xu]
    show et_go none _ 211 11 _ [.int (Int32.ofNat 1), .ref am] _ _ _ _
    refine hs_k (x := Int32.ofNat 1) (p := 12) (by decide +kernel) ?_
    refine ht_callv (T := et_TT) (t := 13) (mi := 204) (na := 2) (ci := 11) (lk := 3) (lm := 3) (L0 := eg_en (eg_mL 204) [.ref am, .int (Int32.ofNat 1), .int (Int32.ofNat 1)]) (by decide +kernel) rfl hH k_am rfl rfl rfl rfl rfl (by rw [show eg_mL 204 = 3 from by decide +kernel]; first | done | rfl) ?_
    refine (fm_t1 hH k_am).mono (fun u hu => xw_cb hu (fun G12 v12 hH x12 hP12 => ?_))
    have hT := fun (k : Nat) (hk : k < rc) => (hT k hk).xs lt_aw x12 (fun j h => hi_ne k_aw k_am (by decide) h.1)
    have m1 := (x12.2 am 1 lt_am (fun h => absurd h.2 (by decide))).trans m1
    have w0 := (x12.2 aw 0 lt_aw (fun h => (hi_ne k_aw k_am (by decide)) h.1)).trans w0
    have lt_am := Nat.lt_of_lt_of_le lt_am x12.1
    have lt_aw := Nat.lt_of_lt_of_le lt_aw x12.1
    obtain ⟨rfl, th12⟩ := hP12
    show et_go none _ 211 15 _ [.int (Int32.ofNat 1)] _ _ _ _
    refine hs_if1 (c := .ne) (t := 43) (f := 18) (by decide +kernel) (show ¬ Int32.ofNat 1 = 0 by decide) ?_
    refine hs_k (x := Int32.ofNat 0) (p := 44) (by decide +kernel) ?_
    refine hs_zret (by decide +kernel) (.inl rfl) ?_
    exact .inl ⟨(fun h => xu h), rfl, th12⟩
end TPA
