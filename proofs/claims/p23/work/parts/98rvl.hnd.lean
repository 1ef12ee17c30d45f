section
/-! FUNCTIONAL: right: both sides -/
theorem hs_cbvE {T : List et_D} {M : et_M} {d k pc ck sk c s : Nat} {L : eg_Ls} {r : List Value} {Z : eg_O → Prop} {w : et_Wd} {q : et_P} {u : eg_O} {v : Value} (hu : hi_Z T w M [(.inl (some q), c, s)] u ∧ u.1 = .inl (some v)) (h : ∀ (K' : et_K) (G' : eg_G) (c' s' : Nat), et_ex w.1 K' → et_fr M w.1 w.2.2 G' → et_H T K' G' → c' ≤ c → s' ≤ s → et_go none d k (pc + 3) L (v :: r) G' (ck + c') (sk + s') Z) : hs_cont d k pc L r ck sk Z u := by
  obtain ⟨⟨e, he, K', h1, h2, h3, h4, h5, h6⟩, hP⟩ := hu
  obtain rfl := List.mem_singleton.mp he
  obtain ⟨u1, u2, u3, u4⟩ := u
  have hP : u1 = .inl (some v) := hP
  subst hP
  exact hs_cb (h K' u2 u3 u4 h1 h2 h3 h5 h6)
section TPA
variable {K : et_K} {G : eg_G} {D : Nat → Prop} {φ : Nat → sp_E → Bool} {R0 : Nat → Nat} {d d2 th s0 ra rc fo out am aw : Nat} {x ru : Int32} {g : Nat → sp_E → Bool}
theorem fc_right (t : rxK K D φ th s0 ra fo) (hH : et_H et_TT K G) (hz : rx D φ th s0 ra rc fo G) (hR : ∀ k, k < rc → D (R0 k) ∧ et_pl (eg_at G ra) k = some (.ref (R0 k))) (hd : 20 ≤ d2) : et_go none d2 134 0 (eg_en (eg_mL 134) [.ref th, .int ru, .int x]) [] G 0 0 (fun u => ((¬ xr ru rc ∧ u.1 = .inr 1) ∨ (xr ru rc ∧ ¬ (0 ≤ x.toInt ∧ x.toInt < 65536) ∧ u.1 = .inr 0) ∨ ∃ n, ru = Int32.ofNat n ∧ n < rc ∧ (0 ≤ x.toInt ∧ x.toInt < 65536) ∧ u.1 = .inl (some (.int (Int32.ofNat (if φ (R0 n) (feE (fun _ => x)) = true then 1 else 0)))))) := by
  obtain ⟨d, rfl⟩ : ∃ d, d2 = d + 20 := ⟨d2 - 20, by omega⟩
  rw [show eg_mL 134 = 4 from by decide +kernel]
  show et_go none (d + 20) 134 0 [some (.ref th), some (.int ru), some (.int x), none] [] G 0 0 _
  refine hs_aload (i := 0) (p := 1) (by decide +kernel) rfl ?_
  refine hs_iload (i := 1) (p := 2) (by decide +kernel) rfl ?_
  refine ht_callv (T := et_TT) (t := 12) (mi := 129) (na := 1) (ci := 10) (lk := 4) (lm := 2) (L0 := eg_en (eg_mL 129) [.ref th, .int ru]) (by decide +kernel) rfl hH t.2.1 rfl rfl rfl rfl rfl (by rw [show eg_mL 129 = 2 from by decide +kernel]; first | done | rfl) ?_
  refine (fc_needRule (ru := ru) hH t.2.1 hz.2.1.1 t.2.2.1 hz.2.2.1.1 hz.2.2.1.2.2 hz.2.2.1.2.1 t.2.2.2.1 (fun i hi => ⟨R0 i, (hR i hi).2⟩)).mono (fun u hu => ?_)
  obtain ⟨G1, v, c, s, rfl, -, -, rfl, h⟩ := hu
  rcases h with ⟨hn, rfl⟩ | ⟨n, q, rfl, hn, rfl, kq, hq⟩
  · refine hf_cx (by decide +kernel) ?_
    exact .inl ⟨hn, rfl⟩
  have hxr : xr (Int32.ofNat n) rc := by
    unfold xr
    have h4 := hz.2.2.1.2.2
    rw [hs_nint (by omega)]
    omega
  refine hs_cb ?_
  show et_go none _ 134 5 _ [.ref q] _ _ _ _
  refine hs_astore (i := 3) (p := 6) (by decide +kernel) (Nat.le_of_ble_eq_true rfl) ?_
  refine hs_iload (i := 2) (p := 7) (by decide +kernel) rfl ?_
  refine hs_calls (mi := 135) (na := 1) (lk := 4) (lm := 1) (L0 := eg_en (eg_mL 135) [.int x]) (by decide +kernel) rfl rfl rfl rfl rfl rfl (by rw [show eg_mL 135 = 1 from by decide +kernel]; first | done | rfl) ?_
  refine (fc_needLit (K := K) (x := x) hH).mono (fun u hu => ?_)
  obtain ⟨G1, v, c, s, rfl, -, -, h⟩ := hu
  rcases h with ⟨hl, rfl, rfl⟩ | ⟨hl, rfl, rfl⟩
  · refine hf_cx (by decide +kernel) ?_
    exact .inr (.inl ⟨hxr, hl, rfl⟩)
  refine hs_cb ?_
  show et_go none _ 134 10 _ [] _ _ _ _
  refine hs_aload (i := 3) (p := 11) (by decide +kernel) rfl ?_
  refine hs_iload (i := 2) (p := 12) (by decide +kernel) rfl ?_
  refine hs_aload (i := 0) (p := 13) (by decide +kernel) rfl ?_
  refine hf_get (T := et_TT) (t := 12) (ci := 10) (f := 4) (p := 16) (by decide +kernel) rfl hH t.2.1 hz.2.1.2 ?_
  obtain ⟨m, hm, rfl⟩ : ∃ m, m < 65536 ∧ x = Int32.ofNat m := ⟨x.toInt.toNat, by omega, hi_of (by omega) (by omega)⟩
  refine ht_callv (T := et_TT) (t := 8) (mi := 87) (na := 2) (ci := 6) (lk := 4) (lm := 3) (L0 := eg_en (eg_mL 87) [.ref q, .int (Int32.ofNat m), .ref fo]) (by decide +kernel) rfl hH kq rfl rfl rfl rfl rfl (by rw [show eg_mL 87 = 3 from by decide +kernel]; first | done | rfl) ?_
  obtain ⟨hD, hq2⟩ := hR n hn
  rw [hq] at hq2
  obtain rfl : q = R0 n := Value.ref.inj (Option.some.inj hq2)
  obtain ⟨bb, lo, hi, h1, h2, h3⟩ := hz.1 _ hD
  obtain ⟨F, hF⟩ := foR_of hH t.2.2.2.2
  refine (fx_tells hH kq h1 (cond_ty hH kq h1) h2 h3 hF hm (by omega)).mono (fun u hu => ?_)
  obtain ⟨G1, v, rfl, -, -, rfl⟩ := hu
  refine hs_cb ?_
  show et_go none _ 134 19 _ [.int (Int32.ofNat (if φ (R0 n) (feE (fup F (Int32.ofNat m))) = true then 1 else 0))] _ _ _ _
  refine hs_zret (by decide +kernel) (by split; exact .inr rfl; exact .inl rfl) ?_
  exact .inr (.inr ⟨n, rfl, hn, hl, by rw [(t.1 _ hD).2 (fun _ => Int32.ofNat m) (fup F (Int32.ofNat m)) rfl]⟩)
theorem fh_right (t : rxK K D φ th s0 ra fo) (hH : et_H et_TT K G) (hz : rx D φ th s0 ra rc fo G) (hR : ∀ k, k < rc → D (R0 k) ∧ et_pl (eg_at G ra) k = some (.ref (R0 k))) (k_out : K out = some 31) (hd : 34 ≤ d2) : et_go none d2 3 0 (eg_en (eg_mL 3) [.ref th, .int ru, .int x, .ref out]) [] G 0 0 (fun u => ((¬ xr ru rc ∧ u.1 = .inl (some (.int (Int32.ofNat 1)))) ∨ (xr ru rc ∧ ¬ (0 ≤ x.toInt ∧ x.toInt < 65536) ∧ u.1 = .inl (some (.int (Int32.ofNat 2)))) ∨ ∃ n, ru = Int32.ofNat n ∧ n < rc ∧ (0 ≤ x.toInt ∧ x.toInt < 65536) ∧ u.1 = .inl (some (.int (Int32.ofNat 0))) ∧ et_pl (eg_at u.2.1 out) 0 = some (.long (Int64.ofNat (if φ (R0 n) (feE (fun _ => x)) = true then 1 else 0))))) := by
  obtain ⟨d, rfl⟩ : ∃ d, d2 = d + 34 := ⟨d2 - 34, by omega⟩
  rw [show eg_mL 3 = 5 from by decide +kernel]
  show et_go none (d + 34) 3 0 [some (.ref th), some (.int ru), some (.int x), some (.ref out), none] [] G 0 0 _
  refine hs_aload (i := 3) (p := 1) (by decide +kernel) rfl ?_
  refine hs_k (x := Int32.ofNat 0) (p := 2) (by decide +kernel) ?_
  refine hs_aload (i := 0) (p := 3) (by decide +kernel) rfl ?_
  refine hs_iload (i := 1) (p := 4) (by decide +kernel) rfl ?_
  refine hs_iload (i := 2) (p := 5) (by decide +kernel) rfl ?_
  refine ht_callv (T := et_TT) (t := 12) (mi := 134) (na := 2) (ci := 10) (lk := 5) (lm := 4) (L0 := eg_en (eg_mL 134) [.ref th, .int ru, .int x]) (by decide +kernel) rfl hH t.2.1 rfl rfl rfl rfl rfl (by rw [show eg_mL 134 = 4 from by decide +kernel]; first | done | rfl) ?_
  refine ((ek_p134_ok (K, [], G) [.ref th, .int ru, .int x] _ hH (by show 33 ≤ _; omega) rfl (ht_ac (.inr ⟨by decide, _, rfl, t.2.1⟩) (ht_ac hi_any (ht_ac hi_any ht_an)))).and (fc_right t hH hz hR (by omega))).mono (fun u hu => ?_)
  obtain ⟨⟨es, hes, K1, hx1, hf1, hH1, hv1, -, -⟩, hq⟩ := hu
  obtain ⟨u1, u2, u3, u4⟩ := u
  rcases hq with ⟨a, b⟩ | ⟨a, b, e⟩ | ⟨n, hn1, hn, hl, e⟩
  · have b : u1 = .inr 1 := b
    subst b
    refine hs_ch (h := 20) (i := 4) (n := 2) (hh := (eg_mh 3).getD []) (by decide +kernel) ⟨(by decide +kernel), (by decide +kernel)⟩ (Nat.le_of_ble_eq_true rfl) ?_
    show et_go none _ 3 22 [some (.ref th), some (.int ru), some (.int x), some (.ref out), none] [] _ _ _ _
    refine hs_k (x := Int32.ofNat 1) (p := 23) (by decide +kernel) ?_
    refine hs_iret (by decide +kernel) ?_
    exact .inl ⟨a, rfl⟩
  · have e : u1 = .inr 0 := e
    subst e
    refine hs_ch (h := 24) (i := 4) (n := 2) (hh := (eg_mh 3).getD []) (by decide +kernel) ⟨(by decide +kernel), (by decide +kernel)⟩ (Nat.le_of_ble_eq_true rfl) ?_
    show et_go none _ 3 26 [some (.ref th), some (.int ru), some (.int x), some (.ref out), none] [] _ _ _ _
    refine hs_k (x := Int32.ofNat 2) (p := 27) (by decide +kernel) ?_
    refine hs_iret (by decide +kernel) ?_
    exact .inr (.inl ⟨a, b, rfl⟩)
  · have e : u1 = .inl (some (.int (Int32.ofNat (if φ (R0 n) (feE (fun _ => x)) = true then 1 else 0)))) := e
    subst e
    refine hs_cb ?_
    show et_go none _ 3 8 _ [.int (Int32.ofNat (if φ (R0 n) (feE (fun _ => x)) = true then 1 else 0)), .int (Int32.ofNat 0), .ref out] _ _ _ _
    by_cases hb : φ (R0 n) (feE (fun _ => x)) = true
    · rw [if_pos hb]
      refine hs_if0 (c := .eq) (t := 15) (f := 11) (by decide +kernel) (show ¬ Int32.ofNat 1 = 0 by decide) ?_
      refine hs_st (ins := .lconst 1) (len := 1) (p := 12) (by decide +kernel) rfl rfl ?_
      refine hs_goto (p := 16) (by decide +kernel) ?_
      refine hf_lst (T := et_TT) (t := 31) (N := 1) (n := 0) (p := 17) (by decide +kernel) rfl (by decide) hH1 (hx1 _ _ k_out) (by decide) (by decide) (fun G9 hH9 x9 e9 => ?_)
      refine hs_goto (p := 28) (by decide +kernel) ?_
      refine hs_k (x := Int32.ofNat 0) (p := 29) (by decide +kernel) ?_
      refine hs_iret (by decide +kernel) ?_
      exact .inr (.inr ⟨n, hn1, hn, hl, rfl, by rw [if_pos hb]; exact e9⟩)
    · rw [if_neg hb]
      refine hs_if1 (c := .eq) (t := 15) (f := 11) (by decide +kernel) (show Int32.ofNat 0 = 0 by decide) ?_
      refine hs_st (ins := .lconst 0) (len := 1) (p := 16) (by decide +kernel) rfl rfl ?_
      refine hf_lst (T := et_TT) (t := 31) (N := 1) (n := 0) (p := 17) (by decide +kernel) rfl (by decide) hH1 (hx1 _ _ k_out) (by decide) (by decide) (fun G9 hH9 x9 e9 => ?_)
      refine hs_goto (p := 28) (by decide +kernel) ?_
      refine hs_k (x := Int32.ofNat 0) (p := 29) (by decide +kernel) ?_
      refine hs_iret (by decide +kernel) ?_
      exact .inr (.inr ⟨n, hn1, hn, hl, rfl, by rw [if_neg hb]; exact e9⟩)
theorem fm_right (hH : et_H et_TT K G) (k_am : K am = some 13) (k_aw : K aw = some 46) (m1 : et_pl (eg_at G am) 1 = some (.ref aw)) (w0 : et_pl (eg_at G aw) 0 = some (.int (Int32.ofNat rc))) (hrc : rc ≤ 4) (hT : ∀ k, k < rc → txP G aw (126 + 841 * k) 0 (g k)) (hd : 5 ≤ d2) : et_go none d2 211 0 (eg_en (eg_mL 211) [.ref am, .int ru, .int x]) [] G 0 0 (fun u => ((¬ xr ru rc ∧ u.1 = .inl (some (.int (Int32.ofNat 0))) ∧ et_pl (eg_at u.2.1 am) 0 = some (.int (Int32.ofNat 1))) ∨ (xr ru rc ∧ ¬ (0 ≤ x.toInt ∧ x.toInt < 65536) ∧ u.1 = .inl (some (.int (Int32.ofNat 0))) ∧ et_pl (eg_at u.2.1 am) 0 = some (.int (Int32.ofNat 2))) ∨ ∃ n, ru = Int32.ofNat n ∧ n < rc ∧ (0 ≤ x.toInt ∧ x.toInt < 65536) ∧ u.1 = .inl (some (.int (Int32.ofNat (if g n (feE (fun _ => x)) = true then 1 else 0)))) ∧ et_pl (eg_at u.2.1 am) 0 = some (.int (Int32.ofNat 0)))) := by
  obtain ⟨d, rfl⟩ : ∃ d, d2 = d + 5 := ⟨d2 - 5, by omega⟩
  have lt_aw0 := (hH.2.2 _ _ k_aw).1
  rw [show eg_mL 211 = 3 from by decide +kernel]
  show et_go none (d + 5) 211 0 [some (.ref am), some (.int ru), some (.int x)] [] G 0 0 _
  have lt_am := (hH.2.2 _ _ k_am).1
  have lt_aw := (hH.2.2 _ _ k_aw).1
  refine hs_aload (i := 0) (p := 1) (by decide +kernel) rfl ?_
  refine hs_k (x := Int32.ofNat 0) (p := 2) (by decide +kernel) ?_
  refine hf_put (T := et_TT) (t := 13) (ci := 11) (f := 0) (p := 5) (ty := .int) (by decide +kernel) rfl rfl rfl rfl rfl hH k_am hi_any (fun G2 hH x2 e2 => ?_)
  have hT := fun (k : Nat) (hk : k < rc) => (hT k hk).xs lt_aw x2 (fun j h => hi_ne k_aw k_am (by decide) h.1)
  have m1 := (x2.2 am 1 lt_am (fun h => absurd h.2 (by decide))).trans m1
  have w0 := (x2.2 aw 0 lt_aw (fun h => (hi_ne k_aw k_am (by decide)) h.1)).trans w0
  have lt_am := Nat.lt_of_lt_of_le lt_am x2.1
  have lt_aw := Nat.lt_of_lt_of_le lt_aw x2.1
  refine hs_aload (i := 0) (p := 6) (by decide +kernel) rfl ?_
  refine hs_aload (i := 0) (p := 7) (by decide +kernel) rfl ?_
  refine hs_iload (i := 1) (p := 8) (by decide +kernel) rfl ?_
  refine ht_callv (T := et_TT) (t := 13) (mi := 210) (na := 1) (ci := 11) (lk := 3) (lm := 2) (L0 := eg_en (eg_mL 210) [.ref am, .int ru]) (by decide +kernel) rfl hH k_am rfl rfl rfl rfl rfl (by rw [show eg_mL 210 = 2 from by decide +kernel]; first | done | rfl) ?_
  refine (fm_nR (x := ru) hH k_am k_aw m1 w0 hrc (by omega)).mono (fun u hu => xp_cb hu ?_)
  by_cases xu : 0 ≤ ru.toInt ∧ ru.toInt < (rc : Int)
  · rw [if_pos xu]
    show et_go none _ 211 11 _ [.int (Int32.ofNat 0), .ref am] _ _ _ _
    refine hs_k (x := Int32.ofNat 1) (p := 12) (by decide +kernel) ?_
    refine ht_callv (T := et_TT) (t := 13) (mi := 204) (na := 2) (ci := 11) (lk := 3) (lm := 3) (L0 := eg_en (eg_mL 204) [.ref am, .int (Int32.ofNat 0), .int (Int32.ofNat 1)]) (by decide +kernel) rfl hH k_am rfl rfl rfl rfl rfl (by rw [show eg_mL 204 = 3 from by decide +kernel]; first | done | rfl) ?_
    refine (fm_t0 hH k_am).mono (fun u hu => xp_cb hu ?_)
    show et_go none _ 211 15 _ [.int (Int32.ofNat 0)] _ _ _ _
    refine hs_if0 (c := .ne) (t := 43) (f := 18) (by decide +kernel) (show ¬ (¬ Int32.ofNat 0 = 0) by decide) ?_
    refine hs_aload (i := 0) (p := 19) (by decide +kernel) rfl ?_
    refine hs_iload (i := 2) (p := 20) (by decide +kernel) rfl ?_
    refine hs_calls (mi := 212) (na := 1) (lk := 3) (lm := 1) (L0 := eg_en (eg_mL 212) [.int x]) (by decide +kernel) rfl rfl rfl rfl rfl rfl (by rw [show eg_mL 212 = 1 from by decide +kernel]; first | done | rfl) ?_
    refine (fm_noLit (x := x)).mono (fun u hu => xp_cb hu ?_)
    by_cases xl : 0 ≤ x.toInt ∧ x.toInt < 65536
    · rw [if_pos xl]
      show et_go none _ 211 23 _ [.int (Int32.ofNat 0), .ref am] _ _ _ _
      refine hs_k (x := Int32.ofNat 2) (p := 24) (by decide +kernel) ?_
      refine ht_callv (T := et_TT) (t := 13) (mi := 204) (na := 2) (ci := 11) (lk := 3) (lm := 3) (L0 := eg_en (eg_mL 204) [.ref am, .int (Int32.ofNat 0), .int (Int32.ofNat 2)]) (by decide +kernel) rfl hH k_am rfl rfl rfl rfl rfl (by rw [show eg_mL 204 = 3 from by decide +kernel]; first | done | rfl) ?_
      refine (fm_t0 hH k_am).mono (fun u hu => xp_cb hu ?_)
      show et_go none _ 211 27 _ [.int (Int32.ofNat 0)] _ _ _ _
      refine hs_if0 (c := .ne) (t := 43) (f := 30) (by decide +kernel) (show ¬ (¬ Int32.ofNat 0 = 0) by decide) ?_
      refine hs_aload (i := 0) (p := 31) (by decide +kernel) rfl ?_
      refine hs_iload (i := 1) (p := 32) (by decide +kernel) rfl ?_
      refine hs_iload (i := 2) (p := 33) (by decide +kernel) rfl ?_
      obtain ⟨n, hn, rfl⟩ : ∃ n, n < rc ∧ ru = Int32.ofNat n := ⟨ru.toInt.toNat, by omega, hi_of (by omega) (by omega)⟩
      refine ht_callv (T := et_TT) (t := 13) (mi := 213) (na := 2) (ci := 11) (lk := 3) (lm := 4) (L0 := eg_en (eg_mL 213) [.ref am, .int (Int32.ofNat n), .int x]) (by decide +kernel) rfl hH k_am rfl rfl rfl rfl rfl (by rw [show eg_mL 213 = 4 from by decide +kernel]; first | done | rfl) ?_
      refine ((er_c1 (K, [], _) [.ref am, .int (Int32.ofNat n), .int x] _ hH (by show 4 ≤ _; omega) rfl (ht_ac (.inr ⟨by decide, _, rfl, k_am⟩) (ht_ac (hi_nv (by omega) (by omega)) (ht_ac (hi_iv (by omega) (by omega)) ht_an)))).and (fm_ruled (F := fun _ => x) hH k_am k_aw m1 rfl (by omega) (hT n hn) (by omega))).mono (fun u hu => hs_cbvE hu (fun K33 G33 c33 s33 x33 f33 hH cl33 sl33 => ?_))
      obtain rfl : c33 = 0 := Nat.le_zero.mp cl33
      obtain rfl : s33 = 0 := Nat.le_zero.mp sl33
      have m1 := (f33.2 am 13 k_am 1 rfl).trans m1
      have w0 := (f33.2 aw 46 k_aw 0 rfl).trans w0
      have e2 := (f33.2 am 13 k_am 0 rfl).trans e2
      have k_am := x33 _ _ k_am
      have lt_am := (hH.2.2 _ _ k_am).1
      have k_aw := x33 _ _ k_aw
      have lt_aw := (hH.2.2 _ _ k_aw).1
      show et_go none _ 211 36 _ [.int (Int32.ofNat (if g n (feE (fun _ => x)) = true then 1 else 0))] _ _ _ _
      refine hs_br1 (c := .eq) (t := 43) (f := 39) (by decide +kernel) (fun (c36 : Int32.ofNat (if g n (feE (fun _ => x)) = true then 1 else 0) = 0) => ?_) (fun (c36 : ¬ (Int32.ofNat (if g n (feE (fun _ => x)) = true then 1 else 0) = 0)) => ?_)
      · refine hs_k (x := Int32.ofNat 0) (p := 44) (by decide +kernel) ?_
        refine hs_zret (by decide +kernel) (.inl rfl) ?_
        have hb : ¬ g n (feE (fun _ => x)) = true := fun h => by
          rw [if_pos h] at c36
          exact absurd c36 (by decide)
        exact .inr (.inr ⟨n, rfl, hn, xl, by rw [if_neg hb], e2⟩)
      · refine hs_k (x := Int32.ofNat 1) (p := 40) (by decide +kernel) ?_
        refine hs_goto (p := 44) (by decide +kernel) ?_
        refine hs_zret (by decide +kernel) (.inr rfl) ?_
        have hb : g n (feE (fun _ => x)) = true := by
          by_cases h : g n (feE (fun _ => x)) = true
          · exact h
          · exact absurd (by rw [if_neg h]; rfl) c36
        exact .inr (.inr ⟨n, rfl, hn, xl, by rw [if_pos hb], e2⟩)
    · rw [if_neg xl]
      show et_go none _ 211 23 _ [.int (Int32.ofNat 1), .ref am] _ _ _ _
      refine hs_k (x := Int32.ofNat 2) (p := 24) (by decide +kernel) ?_
      refine ht_callv (T := et_TT) (t := 13) (mi := 204) (na := 2) (ci := 11) (lk := 3) (lm := 3) (L0 := eg_en (eg_mL 204) [.ref am, .int (Int32.ofNat 1), .int (Int32.ofNat 2)]) (by decide +kernel) rfl hH k_am rfl rfl rfl rfl rfl (by rw [show eg_mL 204 = 3 from by decide +kernel]; first | done | rfl) ?_
      refine (fm_t1 hH k_am).mono (fun u hu => xw_cb hu (fun G24 v24 hH x24 hP24 => ?_))
      have hT := fun (k : Nat) (hk : k < rc) => (hT k hk).xs lt_aw x24 (fun j h => hi_ne k_aw k_am (by decide) h.1)
      have m1 := (x24.2 am 1 lt_am (fun h => absurd h.2 (by decide))).trans m1
      have w0 := (x24.2 aw 0 lt_aw (fun h => (hi_ne k_aw k_am (by decide)) h.1)).trans w0
      have lt_am := Nat.lt_of_lt_of_le lt_am x24.1
      have lt_aw := Nat.lt_of_lt_of_le lt_aw x24.1
      obtain ⟨rfl, th24⟩ := hP24
      show et_go none _ 211 27 _ [.int (Int32.ofNat 1)] _ _ _ _
      refine hs_if1 (c := .ne) (t := 43) (f := 30) (by decide +kernel) (show ¬ Int32.ofNat 1 = 0 by decide) ?_
      refine hs_k (x := Int32.ofNat 0) (p := 44) (by decide +kernel) ?_
      refine hs_zret (by decide +kernel) (.inl rfl) ?_
      exact .inr (.inl ⟨xu, xl, rfl, th24⟩)
  · rw [if_neg xu]
    show et_go none _ 211 11 _ [.int (Int32.ofNat 1), .ref am] _ _ _ _
    refine hs_k (x := Int32.ofNat 1) (p := 12) (by decide +kernel) ?_
    refine ht_callv (T := et_TT) (t := 13) (mi := 204) (na := 2) (ci := 11) (lk := 3) (lm := 3) (L0 := eg_en (eg_mL 204) [.ref am, .int (Int32.ofNat 1), .int (Int32.ofNat 1)]) (by decide +kernel) rfl hH k_am rfl rfl rfl rfl rfl (by rw [show eg_mL 204 = 3 from by decide +kernel]; first | done | rfl) ?_
    refine (fm_t1 hH k_am).mono (fun u hu => xw_cb hu (fun G12 v12 hH x12 hP12 => ?_))
    have hT := fun (k : Nat) (hk : k < rc) => (hT k hk).xs lt_aw x12 (fun j h => hi_ne k_aw k_am (by decide) h.1)
    have m1 := (x12.2 am 1 lt_am (fun h => absurd h.2 (by decide))).trans m1
    have w0 := (x12.2 aw 0 lt_aw (fun h => (hi_ne k_aw k_am (by decide)) h.1)).trans w0
    have lt_am := Nat.lt_of_lt_of_le lt_am x12.1
    have lt_aw := Nat.lt_of_lt_of_le lt_aw x12.1
    obtain ⟨rfl, th12⟩ := hP12
    show et_go none _ 211 15 _ [.int (Int32.ofNat 1)] _ _ _ _
    refine hs_if1 (c := .ne) (t := 43) (f := 18) (by decide +kernel) (show ¬ Int32.ofNat 1 = 0 by decide) ?_
    refine hs_k (x := Int32.ofNat 0) (p := 44) (by decide +kernel) ?_
    refine hs_zret (by decide +kernel) (.inl rfl) ?_
    exact .inl ⟨(fun h => xu h), rfl, th12⟩
end TPA
end
section
/-! FUNCTIONAL: takeFrom, image, back: the cards -/
theorem ht_zle {T : List et_D} {K : et_K} {d k pc ck sk a t n N m p : Nat} {L : eg_Ls} {r : List Value} {G : eg_G} {Z : eg_O → Prop} (hc : hs_o k pc = some (.baload, p)) (hT : T[t]? = some (.inr (3, N, [(0, m, .inl (0, 1))]))) (hH : et_H T K G) (ha : K a = some t) (hn : n < N) (hm : n ≤ m) (hN : N < 2147483648) (h : ∀ c : Nat, c ≤ 1 → et_pl (eg_at G a) n = some (.int (Int32.ofNat c)) → et_go none d k p L (.int (Int32.ofNat c) :: r) G ck sk Z) : et_go none d k pc L (.int (Int32.ofNat n) :: .ref a :: r) G ck sk Z := by
  refine ht_zld hc hT hH ha hn hN (fun x ex => ?_)
  have ex0 := ex
  obtain ⟨f, e, h1, -⟩ := hi_arr hH ha hT (by omega) (.inr (.inr (.inl rfl)))
  rw [e] at ex
  have ex : (if n < N then some (Value.int (f n)) else none) = some (.int x) := ex
  rw [if_pos hn] at ex
  have h2 := h1 _ List.mem_cons_self n (Nat.zero_le _) hm hn
  obtain ⟨c, h3, h4⟩ := hi_natW h2
  cases ex
  rw [h4] at ex0 ⊢
  exact h c (by omega) ex0
section TRA
variable {d2 d a s da sa db sb th s0 s1 h : Nat} {g g2 : Nat → Option Value}
theorem pm_z5 {i : Nat} {K : et_K} {G : eg_G} (hH : et_H et_TT K G) (k_a : K a = some 10) (k_s : K s = some 10) (k_da : K da = some 17) (k_sa : K sa = some 17) (k_db : K db = some 27) (k_sb : K sb = some 27) (hda : et_pl (eg_at G a) 3 = some (.ref da)) (hdb : et_pl (eg_at G a) 4 = some (.ref db)) (hsa : et_pl (eg_at G s) 3 = some (.ref sa)) (hsb : et_pl (eg_at G s) 4 = some (.ref sb)) (hne : ¬ sa = da) (hne2 : ¬ sb = db) (hq : cpk da sa 20 20 g G) (hr : cpk db sb 20 20 g2 G) (hi : i ≤ 6) : et_go none (d + 2) 104 158 [some (.ref a), some (.ref s), some (.int (Int32.ofNat i))] [] G 0 0 (fun u => cpk da sa 20 20 g u.2.1 ∧ cpk db sb 20 20 g2 u.2.1) := by
  induction hm : 6 - i using Nat.strongRecOn generalizing i K G with
  | _ z ih =>
    refine hs_iload (i := 2) (p := 159) (by decide +kernel) rfl ?_
    refine hs_k (x := Int32.ofNat 6) (p := 161) (by decide +kernel) ?_
    refine hs_br2n (c := .ge) (t := 182) (f := 164) (by decide +kernel) (by omega) (by omega) (fun (c161 : 6 ≤ i) => ?_) (fun (c161 : ¬ (6 ≤ i)) => ?_)
    · refine hs_vret (by decide +kernel) ?_
      exact ⟨hq, hr⟩
    · refine hs_aload (i := 0) (p := 165) (by decide +kernel) rfl ?_
      refine ht_getr (T := et_TT) (t := 10) (ci := 8) (f := 10) (p := 168) (by decide +kernel) rfl rfl hH k_a (fun a165 k_a165 e165 => ?_)
      refine hs_iload (i := 2) (p := 169) (by decide +kernel) rfl ?_
      refine hs_aload (i := 1) (p := 170) (by decide +kernel) rfl ?_
      refine ht_getr (T := et_TT) (t := 10) (ci := 8) (f := 10) (p := 173) (by decide +kernel) rfl rfl hH k_s (fun a170 k_a170 e170 => ?_)
      refine hs_iload (i := 2) (p := 174) (by decide +kernel) rfl ?_
      refine ht_aald (T := et_TT) (t := 39) (N := 6) (kd := 8) (m := 5) (p := 175) (by decide +kernel) rfl rfl hH k_a170 (by omega) (by omega) (by decide) (fun v174 h174 e174 => ?_)
      refine ht_aasa (t := 39) (u := 2) (N := 6) (kd := 8) (cj := 0) (p := 176) (by decide +kernel) ⟨rfl, rfl⟩ (by decide +kernel) hH k_a165 (by omega) h174 (fun G175 hH f175 e175 he => ?_)
      have hda := ((hb_wk f175 (by omega)).2 a 10 k_a 3 rfl).trans hda
      have hdb := ((hb_wk f175 (by omega)).2 a 10 k_a 4 rfl).trans hdb
      have hsa := ((hb_wk f175 (by omega)).2 s 10 k_s 3 rfl).trans hsa
      have hsb := ((hb_wk f175 (by omega)).2 s 10 k_s 4 rfl).trans hsb
      have hq := hq.fr k_da k_sa (hb_wk f175 (by omega)) rfl
      have hr := hr.fr k_db k_sb (hb_wk f175 (by omega)) rfl
      refine hs_iinc1 (i := 2) (p := 179) (by decide +kernel) rfl (Nat.le_of_ble_eq_true rfl) ?_
      refine hs_goto (p := 158) (by decide +kernel) ?_
      show et_go none (d + 2) 104 158 [some (.ref a), some (.ref s), some (.int (Int32.ofNat (i + 1)))] [] _ 0 0 _
      exact ih (6 - (i + 1)) (by omega) (i := (i + 1)) hH k_a k_s k_da k_sa k_db k_sb hda hdb hsa hsb hq hr (by omega) rfl
theorem pm_z4 {i : Nat} {K : et_K} {G : eg_G} (hH : et_H et_TT K G) (k_a : K a = some 10) (k_s : K s = some 10) (k_da : K da = some 17) (k_sa : K sa = some 17) (k_db : K db = some 27) (k_sb : K sb = some 27) (hda : et_pl (eg_at G a) 3 = some (.ref da)) (hdb : et_pl (eg_at G a) 4 = some (.ref db)) (hsa : et_pl (eg_at G s) 3 = some (.ref sa)) (hsb : et_pl (eg_at G s) 4 = some (.ref sb)) (hne : ¬ sa = da) (hne2 : ¬ sb = db) (hq : cpk da sa 20 20 g G) (hr : cpk db sb 20 20 g2 G) (hi : i ≤ 4) : et_go none (d + 2) 104 125 [some (.ref a), some (.ref s), some (.int (Int32.ofNat i))] [] G 0 0 (fun u => cpk da sa 20 20 g u.2.1 ∧ cpk db sb 20 20 g2 u.2.1) := by
  induction hm : 4 - i using Nat.strongRecOn generalizing i K G with
  | _ z ih =>
    refine hs_iload (i := 2) (p := 126) (by decide +kernel) rfl ?_
    refine hs_k (x := Int32.ofNat 4) (p := 127) (by decide +kernel) ?_
    refine hs_br2n (c := .ge) (t := 148) (f := 130) (by decide +kernel) (by omega) (by omega) (fun (c127 : 4 ≤ i) => ?_) (fun (c127 : ¬ (4 ≤ i)) => ?_)
    · refine hs_aload (i := 0) (p := 149) (by decide +kernel) rfl ?_
      refine hs_aload (i := 1) (p := 150) (by decide +kernel) rfl ?_
      refine ht_getn (T := et_TT) (t := 10) (ci := 8) (f := 9) (p := 153) (by decide +kernel) rfl rfl hH k_s (fun c150 h150 e150 => ?_)
      refine ht_puta (T := et_TT) (t := 10) (ci := 8) (f := 9) (p := 156) (ty := .int) (by decide +kernel) rfl rfl rfl rfl (by decide +kernel) hH k_a (hi_nv (by omega) (by omega)) (fun G153 hH f153 e153 he => ?_)
      have hda := (f153.2 a 10 k_a 3 rfl).trans hda
      have hdb := (f153.2 a 10 k_a 4 rfl).trans hdb
      have hsa := (f153.2 s 10 k_s 3 rfl).trans hsa
      have hsb := (f153.2 s 10 k_s 4 rfl).trans hsb
      have hq := hq.fr k_da k_sa f153 rfl
      have hr := hr.fr k_db k_sb f153 rfl
      refine hs_k (x := Int32.ofNat 0) (p := 157) (by decide +kernel) ?_
      refine hs_istore (i := 2) (p := 158) (by decide +kernel) (Nat.le_of_ble_eq_true rfl) ?_
      show et_go none (d + 2) 104 158 [some (.ref a), some (.ref s), some (.int (Int32.ofNat 0))] [] _ 0 0 _
      exact pm_z5 (i := 0) hH k_a k_s k_da k_sa k_db k_sb hda hdb hsa hsb hne hne2 hq hr (by omega)
    · refine hs_aload (i := 0) (p := 131) (by decide +kernel) rfl ?_
      refine ht_getr (T := et_TT) (t := 10) (ci := 8) (f := 8) (p := 134) (by decide +kernel) rfl rfl hH k_a (fun a131 k_a131 e131 => ?_)
      refine hs_iload (i := 2) (p := 135) (by decide +kernel) rfl ?_
      refine hs_aload (i := 1) (p := 136) (by decide +kernel) rfl ?_
      refine ht_getr (T := et_TT) (t := 10) (ci := 8) (f := 8) (p := 139) (by decide +kernel) rfl rfl hH k_s (fun a136 k_a136 e136 => ?_)
      refine hs_iload (i := 2) (p := 140) (by decide +kernel) rfl ?_
      refine ht_aald (T := et_TT) (t := 38) (N := 4) (kd := 7) (m := 3) (p := 141) (by decide +kernel) rfl rfl hH k_a136 (by omega) (by omega) (by decide) (fun v140 h140 e140 => ?_)
      refine ht_aasa (t := 38) (u := 11) (N := 4) (kd := 7) (cj := 9) (p := 142) (by decide +kernel) ⟨rfl, rfl⟩ (by decide +kernel) hH k_a131 (by omega) h140 (fun G141 hH f141 e141 he => ?_)
      have hda := ((hb_wk f141 (by omega)).2 a 10 k_a 3 rfl).trans hda
      have hdb := ((hb_wk f141 (by omega)).2 a 10 k_a 4 rfl).trans hdb
      have hsa := ((hb_wk f141 (by omega)).2 s 10 k_s 3 rfl).trans hsa
      have hsb := ((hb_wk f141 (by omega)).2 s 10 k_s 4 rfl).trans hsb
      have hq := hq.fr k_da k_sa (hb_wk f141 (by omega)) rfl
      have hr := hr.fr k_db k_sb (hb_wk f141 (by omega)) rfl
      refine hs_iinc1 (i := 2) (p := 145) (by decide +kernel) rfl (Nat.le_of_ble_eq_true rfl) ?_
      refine hs_goto (p := 125) (by decide +kernel) ?_
      show et_go none (d + 2) 104 125 [some (.ref a), some (.ref s), some (.int (Int32.ofNat (i + 1)))] [] _ 0 0 _
      exact ih (4 - (i + 1)) (by omega) (i := (i + 1)) hH k_a k_s k_da k_sa k_db k_sb hda hdb hsa hsb hq hr (by omega) rfl
theorem pm_z3 {i : Nat} {K : et_K} {G : eg_G} (hH : et_H et_TT K G) (k_a : K a = some 10) (k_s : K s = some 10) (k_da : K da = some 17) (k_sa : K sa = some 17) (k_db : K db = some 27) (k_sb : K sb = some 27) (hda : et_pl (eg_at G a) 3 = some (.ref da)) (hdb : et_pl (eg_at G a) 4 = some (.ref db)) (hsa : et_pl (eg_at G s) 3 = some (.ref sa)) (hsb : et_pl (eg_at G s) 4 = some (.ref sb)) (hne : ¬ sa = da) (hne2 : ¬ sb = db) (hq : cpk da sa 20 20 g G) (hr : cpk db sb 20 20 g2 G) (hi : i ≤ 3) : et_go none (d + 2) 104 89 [some (.ref a), some (.ref s), some (.int (Int32.ofNat i))] [] G 0 0 (fun u => cpk da sa 20 20 g u.2.1 ∧ cpk db sb 20 20 g2 u.2.1) := by
  induction hm : 3 - i using Nat.strongRecOn generalizing i K G with
  | _ z ih =>
    refine hs_iload (i := 2) (p := 90) (by decide +kernel) rfl ?_
    refine hs_k (x := Int32.ofNat 3) (p := 91) (by decide +kernel) ?_
    refine hs_br2n (c := .ge) (t := 115) (f := 94) (by decide +kernel) (by omega) (by omega) (fun (c91 : 3 ≤ i) => ?_) (fun (c91 : ¬ (3 ≤ i)) => ?_)
    · refine hs_aload (i := 0) (p := 116) (by decide +kernel) rfl ?_
      refine hs_aload (i := 1) (p := 117) (by decide +kernel) rfl ?_
      refine ht_getn (T := et_TT) (t := 10) (ci := 8) (f := 7) (p := 120) (by decide +kernel) rfl rfl hH k_s (fun c117 h117 e117 => ?_)
      refine ht_puta (T := et_TT) (t := 10) (ci := 8) (f := 7) (p := 123) (ty := .int) (by decide +kernel) rfl rfl rfl rfl (by decide +kernel) hH k_a (hi_nv (by omega) (by omega)) (fun G120 hH f120 e120 he => ?_)
      have hda := (f120.2 a 10 k_a 3 rfl).trans hda
      have hdb := (f120.2 a 10 k_a 4 rfl).trans hdb
      have hsa := (f120.2 s 10 k_s 3 rfl).trans hsa
      have hsb := (f120.2 s 10 k_s 4 rfl).trans hsb
      have hq := hq.fr k_da k_sa f120 rfl
      have hr := hr.fr k_db k_sb f120 rfl
      refine hs_k (x := Int32.ofNat 0) (p := 124) (by decide +kernel) ?_
      refine hs_istore (i := 2) (p := 125) (by decide +kernel) (Nat.le_of_ble_eq_true rfl) ?_
      show et_go none (d + 2) 104 125 [some (.ref a), some (.ref s), some (.int (Int32.ofNat 0))] [] _ 0 0 _
      exact pm_z4 (i := 0) hH k_a k_s k_da k_sa k_db k_sb hda hdb hsa hsb hne hne2 hq hr (by omega)
    · refine hs_aload (i := 0) (p := 95) (by decide +kernel) rfl ?_
      refine ht_getr (T := et_TT) (t := 10) (ci := 8) (f := 6) (p := 98) (by decide +kernel) rfl rfl hH k_a (fun a95 k_a95 e95 => ?_)
      refine hs_iload (i := 2) (p := 99) (by decide +kernel) rfl ?_
      refine ht_aald (T := et_TT) (t := 40) (N := 3) (kd := 6) (m := 2) (p := 100) (by decide +kernel) rfl rfl hH k_a95 (by omega) (by omega) (by decide) (fun v99 h99 e99 => ?_)
      obtain ⟨b99, rfl, k_b99⟩ := hi_ref h99
      refine hs_aload (i := 1) (p := 101) (by decide +kernel) rfl ?_
      refine ht_getr (T := et_TT) (t := 10) (ci := 8) (f := 6) (p := 104) (by decide +kernel) rfl rfl hH k_s (fun a101 k_a101 e101 => ?_)
      refine hs_iload (i := 2) (p := 105) (by decide +kernel) rfl ?_
      refine ht_aald (T := et_TT) (t := 40) (N := 3) (kd := 6) (m := 2) (p := 106) (by decide +kernel) rfl rfl hH k_a101 (by omega) (by omega) (by decide) (fun v105 h105 e105 => ?_)
      obtain ⟨b105, rfl, k_b105⟩ := hi_ref h105
      refine ht_callv (T := et_TT) (t := 3) (mi := 35) (na := 1) (ci := 1) (lk := 3) (lm := 3) (L0 := eg_en (eg_mL 35) [.ref b99, .ref b105]) (by decide +kernel) rfl hH k_b99 rfl rfl rfl rfl rfl (by rw [show eg_mL 35 = 3 from by decide +kernel]; first | done | rfl) ?_
      refine (ek_c5 (K, [], G) [.ref b99, .ref b105] _ hH (by show 1 ≤ _; omega) rfl (ht_ac (.inr ⟨by decide, _, rfl, k_b99⟩) (ht_ac (.inr ⟨by decide, _, rfl, k_b105⟩) ht_an))).mono (fun u hu => hs_cbn hu (fun K106 G106 c106 s106 x106 f106 hH cl106 sl106 => ?_))
      obtain rfl : c106 = 0 := Nat.le_zero.mp cl106
      obtain rfl : s106 = 0 := Nat.le_zero.mp sl106
      have hda := (f106.2 a 10 k_a 3 rfl).trans hda
      have hdb := (f106.2 a 10 k_a 4 rfl).trans hdb
      have hsa := (f106.2 s 10 k_s 3 rfl).trans hsa
      have hsb := (f106.2 s 10 k_s 4 rfl).trans hsb
      have hq := hq.fr k_da k_sa f106 rfl
      have hr := hr.fr k_db k_sb f106 rfl
      have k_a := x106 _ _ k_a
      have k_s := x106 _ _ k_s
      have k_da := x106 _ _ k_da
      have k_sa := x106 _ _ k_sa
      have k_db := x106 _ _ k_db
      have k_sb := x106 _ _ k_sb
      have k_a95 := x106 _ _ k_a95
      have k_b99 := x106 _ _ k_b99
      have k_a101 := x106 _ _ k_a101
      have k_b105 := x106 _ _ k_b105
      show et_go none _ 104 109 _ [] _ 0 0 _
      refine hs_iinc1 (i := 2) (p := 112) (by decide +kernel) rfl (Nat.le_of_ble_eq_true rfl) ?_
      refine hs_goto (p := 89) (by decide +kernel) ?_
      show et_go none (d + 2) 104 89 [some (.ref a), some (.ref s), some (.int (Int32.ofNat (i + 1)))] [] _ 0 0 _
      exact ih (3 - (i + 1)) (by omega) (i := (i + 1)) hH k_a k_s k_da k_sa k_db k_sb hda hdb hsa hsb hq hr (by omega) rfl
theorem pm_z2 {i : Nat} {K : et_K} {G : eg_G} (hH : et_H et_TT K G) (k_a : K a = some 10) (k_s : K s = some 10) (k_da : K da = some 17) (k_sa : K sa = some 17) (k_db : K db = some 27) (k_sb : K sb = some 27) (hda : et_pl (eg_at G a) 3 = some (.ref da)) (hdb : et_pl (eg_at G a) 4 = some (.ref db)) (hsa : et_pl (eg_at G s) 3 = some (.ref sa)) (hsb : et_pl (eg_at G s) 4 = some (.ref sb)) (hne : ¬ sa = da) (hne2 : ¬ sb = db) (hq : cpk da sa i 20 g G) (hr : cpk db sb i 20 g2 G) (hi : i ≤ 20) : et_go none (d + 2) 104 43 [some (.ref a), some (.ref s), some (.int (Int32.ofNat i))] [] G 0 0 (fun u => cpk da sa 20 20 g u.2.1 ∧ cpk db sb 20 20 g2 u.2.1) := by
  induction hm : 20 - i using Nat.strongRecOn generalizing i K G with
  | _ z ih =>
    refine hs_iload (i := 2) (p := 44) (by decide +kernel) rfl ?_
    refine hs_k (x := Int32.ofNat 20) (p := 46) (by decide +kernel) ?_
    refine hs_br2n (c := .ge) (t := 79) (f := 49) (by decide +kernel) (by omega) (by omega) (fun (c46 : 20 ≤ i) => ?_) (fun (c46 : ¬ (20 ≤ i)) => ?_)
    · refine hs_aload (i := 0) (p := 80) (by decide +kernel) rfl ?_
      refine hs_aload (i := 1) (p := 81) (by decide +kernel) rfl ?_
      refine ht_getn (T := et_TT) (t := 10) (ci := 8) (f := 5) (p := 84) (by decide +kernel) rfl rfl hH k_s (fun c81 h81 e81 => ?_)
      refine ht_puta (T := et_TT) (t := 10) (ci := 8) (f := 5) (p := 87) (ty := .int) (by decide +kernel) rfl rfl rfl rfl (by decide +kernel) hH k_a (hi_nv (by omega) (by omega)) (fun G84 hH f84 e84 he => ?_)
      have hda := (f84.2 a 10 k_a 3 rfl).trans hda
      have hdb := (f84.2 a 10 k_a 4 rfl).trans hdb
      have hsa := (f84.2 s 10 k_s 3 rfl).trans hsa
      have hsb := (f84.2 s 10 k_s 4 rfl).trans hsb
      have hq := hq.fr k_da k_sa f84 rfl
      have hr := hr.fr k_db k_sb f84 rfl
      refine hs_k (x := Int32.ofNat 0) (p := 88) (by decide +kernel) ?_
      refine hs_istore (i := 2) (p := 89) (by decide +kernel) (Nat.le_of_ble_eq_true rfl) ?_
      show et_go none (d + 2) 104 89 [some (.ref a), some (.ref s), some (.int (Int32.ofNat 0))] [] _ 0 0 _
      obtain rfl : i = 20 := by omega
      exact pm_z3 (i := 0) hH k_a k_s k_da k_sa k_db k_sb hda hdb hsa hsb hne hne2 hq hr (by omega)
    · refine hs_aload (i := 0) (p := 50) (by decide +kernel) rfl ?_
      refine ht_getr (T := et_TT) (t := 10) (ci := 8) (f := 3) (p := 53) (by decide +kernel) rfl rfl hH k_a (fun a50 k_a50 e50 => ?_)
      obtain rfl : da = a50 := Value.ref.inj (Option.some.inj (hda.symm.trans e50))
      refine hs_iload (i := 2) (p := 54) (by decide +kernel) rfl ?_
      refine hs_aload (i := 1) (p := 55) (by decide +kernel) rfl ?_
      refine ht_getr (T := et_TT) (t := 10) (ci := 8) (f := 3) (p := 58) (by decide +kernel) rfl rfl hH k_s (fun a55 k_a55 e55 => ?_)
      obtain rfl : sa = a55 := Value.ref.inj (Option.some.inj (hsa.symm.trans e55))
      refine hs_iload (i := 2) (p := 59) (by decide +kernel) rfl ?_
      refine ht_ild (T := et_TT) (t := 17) (N := 20) (p := 60) (by decide +kernel) rfl hH k_sa (by omega) (by decide) (fun x59 s59 e59 => ?_)
      have hHo := hH
      refine hf_ist (T := et_TT) (t := 17) (N := 20) (p := 61) (by decide +kernel) rfl rfl (by decide) hH k_da (by omega) (by decide) (fun s hs => absurd hs List.not_mem_nil) (fun G60 hH x60 e60 => ?_)
      have f60 := x60.tfr hHo (M := [(17, 0, 100000)]) (fun b t j hb h => by obtain ⟨eb, ej⟩ := h; rw [eb, k_da] at hb; cases hb; simp [et_mm]; omega)
      have hq := hq.st (fun j => x60.2 sa j (hHo.2.2 _ _ k_sa).1 (fun h => hne h.1)) (fun j hj => x60.2 da j (hHo.2.2 _ _ k_da).1 (fun h => hj h.2)) (by omega) (e60.trans e59.symm)
      have hda := (f60.2 a 10 k_a 3 rfl).trans hda
      have hdb := (f60.2 a 10 k_a 4 rfl).trans hdb
      have hsa := (f60.2 s 10 k_s 3 rfl).trans hsa
      have hsb := (f60.2 s 10 k_s 4 rfl).trans hsb
      have hr := hr.fr k_db k_sb f60 rfl
      refine hs_aload (i := 0) (p := 62) (by decide +kernel) rfl ?_
      refine ht_getr (T := et_TT) (t := 10) (ci := 8) (f := 4) (p := 65) (by decide +kernel) rfl rfl hH k_a (fun a62 k_a62 e62 => ?_)
      obtain rfl : db = a62 := Value.ref.inj (Option.some.inj (hdb.symm.trans e62))
      refine hs_iload (i := 2) (p := 66) (by decide +kernel) rfl ?_
      refine hs_aload (i := 1) (p := 67) (by decide +kernel) rfl ?_
      refine ht_getr (T := et_TT) (t := 10) (ci := 8) (f := 4) (p := 70) (by decide +kernel) rfl rfl hH k_s (fun a67 k_a67 e67 => ?_)
      obtain rfl : sb = a67 := Value.ref.inj (Option.some.inj (hsb.symm.trans e67))
      refine hs_iload (i := 2) (p := 71) (by decide +kernel) rfl ?_
      refine ht_zle (t := 27) (N := 20) (m := 19) (p := 72) (by decide +kernel) rfl hH k_sb (by omega) (by omega) (by decide) (fun c71 h71 e71 => ?_)
      have hHo := hH
      refine hf_zst (T := et_TT) (t := 27) (N := 20) (p := 73) (by decide +kernel) rfl rfl (vp_n01 (by omega)) hH k_db (by omega) (by decide) (fun s hs _ _ => by rw [List.mem_singleton] at hs; subst hs; exact hi_nv (by omega) (by omega)) (fun G72 hH x72 e72 => ?_)
      have f72 := x72.tfr hHo (M := [(27, 0, 100000)]) (fun b t j hb h => by obtain ⟨eb, ej⟩ := h; rw [eb, k_db] at hb; cases hb; simp [et_mm]; omega)
      have hr := hr.st (fun j => x72.2 sb j (hHo.2.2 _ _ k_sb).1 (fun h => hne2 h.1)) (fun j hj => x72.2 db j (hHo.2.2 _ _ k_db).1 (fun h => hj h.2)) (by omega) (e72.trans e71.symm)
      have hda := (f72.2 a 10 k_a 3 rfl).trans hda
      have hdb := (f72.2 a 10 k_a 4 rfl).trans hdb
      have hsa := (f72.2 s 10 k_s 3 rfl).trans hsa
      have hsb := (f72.2 s 10 k_s 4 rfl).trans hsb
      have hq := hq.fr k_da k_sa f72 rfl
      refine hs_iinc1 (i := 2) (p := 76) (by decide +kernel) rfl (Nat.le_of_ble_eq_true rfl) ?_
      refine hs_goto (p := 43) (by decide +kernel) ?_
      show et_go none (d + 2) 104 43 [some (.ref a), some (.ref s), some (.int (Int32.ofNat (i + 1)))] [] _ 0 0 _
      exact ih (20 - (i + 1)) (by omega) (i := (i + 1)) hH k_a k_s k_da k_sa k_db k_sb hda hdb hsa hsb hq hr (by omega) rfl
theorem pm_z1 {i : Nat} {K : et_K} {G : eg_G} (hH : et_H et_TT K G) (k_a : K a = some 10) (k_s : K s = some 10) (k_da : K da = some 17) (k_sa : K sa = some 17) (k_db : K db = some 27) (k_sb : K sb = some 27) (hda : et_pl (eg_at G a) 3 = some (.ref da)) (hdb : et_pl (eg_at G a) 4 = some (.ref db)) (hsa : et_pl (eg_at G s) 3 = some (.ref sa)) (hsb : et_pl (eg_at G s) 4 = some (.ref sb)) (hne : ¬ sa = da) (hne2 : ¬ sb = db) (hq : cpk da sa 0 20 g G) (hr : cpk db sb 0 20 g2 G) (hi : i ≤ 4) : et_go none (d + 2) 104 10 [some (.ref a), some (.ref s), some (.int (Int32.ofNat i))] [] G 0 0 (fun u => cpk da sa 20 20 g u.2.1 ∧ cpk db sb 20 20 g2 u.2.1) := by
  induction hm : 4 - i using Nat.strongRecOn generalizing i K G with
  | _ z ih =>
    refine hs_iload (i := 2) (p := 11) (by decide +kernel) rfl ?_
    refine hs_k (x := Int32.ofNat 4) (p := 12) (by decide +kernel) ?_
    refine hs_br2n (c := .ge) (t := 33) (f := 15) (by decide +kernel) (by omega) (by omega) (fun (c12 : 4 ≤ i) => ?_) (fun (c12 : ¬ (4 ≤ i)) => ?_)
    · refine hs_aload (i := 0) (p := 34) (by decide +kernel) rfl ?_
      refine hs_aload (i := 1) (p := 35) (by decide +kernel) rfl ?_
      refine ht_getn (T := et_TT) (t := 10) (ci := 8) (f := 2) (p := 38) (by decide +kernel) rfl rfl hH k_s (fun c35 h35 e35 => ?_)
      refine ht_puta (T := et_TT) (t := 10) (ci := 8) (f := 2) (p := 41) (ty := .int) (by decide +kernel) rfl rfl rfl rfl (by decide +kernel) hH k_a (hi_nv (by omega) (by omega)) (fun G38 hH f38 e38 he => ?_)
      have hda := (f38.2 a 10 k_a 3 rfl).trans hda
      have hdb := (f38.2 a 10 k_a 4 rfl).trans hdb
      have hsa := (f38.2 s 10 k_s 3 rfl).trans hsa
      have hsb := (f38.2 s 10 k_s 4 rfl).trans hsb
      have hq := hq.fr k_da k_sa f38 rfl
      have hr := hr.fr k_db k_sb f38 rfl
      refine hs_k (x := Int32.ofNat 0) (p := 42) (by decide +kernel) ?_
      refine hs_istore (i := 2) (p := 43) (by decide +kernel) (Nat.le_of_ble_eq_true rfl) ?_
      show et_go none (d + 2) 104 43 [some (.ref a), some (.ref s), some (.int (Int32.ofNat 0))] [] _ 0 0 _
      exact pm_z2 (i := 0) hH k_a k_s k_da k_sa k_db k_sb hda hdb hsa hsb hne hne2 hq hr (by omega)
    · refine hs_aload (i := 0) (p := 16) (by decide +kernel) rfl ?_
      refine ht_getr (T := et_TT) (t := 10) (ci := 8) (f := 1) (p := 19) (by decide +kernel) rfl rfl hH k_a (fun a16 k_a16 e16 => ?_)
      refine hs_iload (i := 2) (p := 20) (by decide +kernel) rfl ?_
      refine hs_aload (i := 1) (p := 21) (by decide +kernel) rfl ?_
      refine ht_getr (T := et_TT) (t := 10) (ci := 8) (f := 1) (p := 24) (by decide +kernel) rfl rfl hH k_s (fun a21 k_a21 e21 => ?_)
      refine hs_iload (i := 2) (p := 25) (by decide +kernel) rfl ?_
      refine ht_aald (T := et_TT) (t := 37) (N := 4) (kd := 5) (m := 3) (p := 26) (by decide +kernel) rfl rfl hH k_a21 (by omega) (by omega) (by decide) (fun v25 h25 e25 => ?_)
      refine ht_aasa (t := 37) (u := 8) (N := 4) (kd := 5) (cj := 6) (p := 27) (by decide +kernel) ⟨rfl, rfl⟩ (by decide +kernel) hH k_a16 (by omega) h25 (fun G26 hH f26 e26 he => ?_)
      have hda := ((hb_wk f26 (by omega)).2 a 10 k_a 3 rfl).trans hda
      have hdb := ((hb_wk f26 (by omega)).2 a 10 k_a 4 rfl).trans hdb
      have hsa := ((hb_wk f26 (by omega)).2 s 10 k_s 3 rfl).trans hsa
      have hsb := ((hb_wk f26 (by omega)).2 s 10 k_s 4 rfl).trans hsb
      have hq := hq.fr k_da k_sa (hb_wk f26 (by omega)) rfl
      have hr := hr.fr k_db k_sb (hb_wk f26 (by omega)) rfl
      refine hs_iinc1 (i := 2) (p := 30) (by decide +kernel) rfl (Nat.le_of_ble_eq_true rfl) ?_
      refine hs_goto (p := 10) (by decide +kernel) ?_
      show et_go none (d + 2) 104 10 [some (.ref a), some (.ref s), some (.int (Int32.ofNat (i + 1)))] [] _ 0 0 _
      exact ih (4 - (i + 1)) (by omega) (i := (i + 1)) hH k_a k_s k_da k_sa k_db k_sb hda hdb hsa hsb hq hr (by omega) rfl
theorem ft_takeC {K : et_K} {G : eg_G} (hH : et_H et_TT K G) (k_a : K a = some 10) (k_s : K s = some 10) (k_da : K da = some 17) (k_sa : K sa = some 17) (k_db : K db = some 27) (k_sb : K sb = some 27) (hda : et_pl (eg_at G a) 3 = some (.ref da)) (hdb : et_pl (eg_at G a) 4 = some (.ref db)) (hsa : et_pl (eg_at G s) 3 = some (.ref sa)) (hsb : et_pl (eg_at G s) 4 = some (.ref sb)) (hne : ¬ sa = da) (hne2 : ¬ sb = db) (hq : cpk da sa 0 20 g G) (hr : cpk db sb 0 20 g2 G) (hd : 2 ≤ d2) : et_go none d2 104 0 (eg_en (eg_mL 104) [.ref a, .ref s]) [] G 0 0 (fun u => cpk da sa 20 20 g u.2.1 ∧ cpk db sb 20 20 g2 u.2.1) := by
  obtain ⟨d, rfl⟩ : ∃ d, d2 = d + 2 := ⟨d2 - 2, by omega⟩
  rw [show eg_mL 104 = 3 from by decide +kernel]
  show et_go none (d + 2) 104 0 [some (.ref a), some (.ref s), none] [] G 0 0 _
  refine hs_aload (i := 0) (p := 1) (by decide +kernel) rfl ?_
  refine hs_aload (i := 1) (p := 2) (by decide +kernel) rfl ?_
  refine ht_getn (T := et_TT) (t := 10) (ci := 8) (f := 0) (p := 5) (by decide +kernel) rfl rfl hH k_s (fun c2 h2 e2 => ?_)
  refine ht_puta (T := et_TT) (t := 10) (ci := 8) (f := 0) (p := 8) (ty := .int) (by decide +kernel) rfl rfl rfl rfl (by decide +kernel) hH k_a (hi_nv (by omega) (by omega)) (fun G5 hH f5 e5 he => ?_)
  have hda := (f5.2 a 10 k_a 3 rfl).trans hda
  have hdb := (f5.2 a 10 k_a 4 rfl).trans hdb
  have hsa := (f5.2 s 10 k_s 3 rfl).trans hsa
  have hsb := (f5.2 s 10 k_s 4 rfl).trans hsb
  have hq := hq.fr k_da k_sa f5 rfl
  have hr := hr.fr k_db k_sb f5 rfl
  refine hs_k (x := Int32.ofNat 0) (p := 9) (by decide +kernel) ?_
  refine hs_istore (i := 2) (p := 10) (by decide +kernel) (Nat.le_of_ble_eq_true rfl) ?_
  show et_go none (d + 2) 104 10 [some (.ref a), some (.ref s), some (.int (Int32.ofNat 0))] [] _ 0 0 _
  exact pm_z1 (i := 0) hH k_a k_s k_da k_sa k_db k_sb hda hdb hsa hsb hne hne2 hq hr (by omega)
variable {la0 ya0 la1 ya1 ra0 ca0 rc0 ec0 cc0 ra1 ca1 rc1 ec1 cc1 : Nat}
theorem fc_imageC {K : et_K} {G : eg_G} (hH : et_H et_TT K G) (hC : ci_O K G th s0 s1 ra0 ca0 rc0 ec0 cc0 ra1 ca1 rc1 ec1 cc1) (m03 : et_pl (eg_at G s0) 3 = some (.ref la0)) (m04 : et_pl (eg_at G s0) 4 = some (.ref ya0)) (m13 : et_pl (eg_at G s1) 3 = some (.ref la1)) (m14 : et_pl (eg_at G s1) 4 = some (.ref ya1)) (k_la0 : K la0 = some 17) (k_ya0 : K ya0 = some 27) (k_la1 : K la1 = some 17) (k_ya1 : K ya1 = some 27) (hl : ¬ la0 = la1) (hy : ¬ ya0 = ya1) (hd : 3 ≤ d2) : et_go none d2 124 0 (eg_en (eg_mL 124) [.ref th]) [] G 0 0 (fun u => ∀ j, j < 20 → (et_pl (eg_at u.2.1 la0) j = et_pl (eg_at G la0) j ∧ et_pl (eg_at u.2.1 ya0) j = et_pl (eg_at G ya0) j) ∧ (et_pl (eg_at u.2.1 la1) j = et_pl (eg_at G la0) j ∧ et_pl (eg_at u.2.1 ya1) j = et_pl (eg_at G ya0) j)) := by
  obtain ⟨d, rfl⟩ : ∃ d, d2 = d + 3 := ⟨d2 - 3, by omega⟩
  have k_th := hC.1
  have k_s0 := hC.2.2.2.1.1.1
  have k_s1 := hC.2.2.2.2.1.1
  have h0 := hC.2.1.1
  have h1 := hC.2.1.2
  have hv : ∀ j, j < 20 → (et_pl (eg_at G la0) j = et_pl (eg_at G la0) j ∧ et_pl (eg_at G ya0) j = et_pl (eg_at G ya0) j) ∧ (et_pl (eg_at G la1) j = et_pl (eg_at G la1) j ∧ et_pl (eg_at G ya1) j = et_pl (eg_at G ya1) j) := fun _ _ => ⟨⟨rfl, rfl⟩, rfl, rfl⟩
  rw [show eg_mL 124 = 1 from by decide +kernel]
  show et_go none (d + 3) 124 0 [some (.ref th)] [] G 0 0 _
  have lt_th := (hH.2.2 _ _ k_th).1
  have lt_s0 := (hH.2.2 _ _ k_s0).1
  have lt_s1 := (hH.2.2 _ _ k_s1).1
  have lt_la0 := (hH.2.2 _ _ k_la0).1
  have lt_ya0 := (hH.2.2 _ _ k_ya0).1
  have lt_la1 := (hH.2.2 _ _ k_la1).1
  have lt_ya1 := (hH.2.2 _ _ k_ya1).1
  refine hs_aload (i := 0) (p := 1) (by decide +kernel) rfl ?_
  refine hf_get (T := et_TT) (t := 12) (ci := 10) (f := 1) (p := 4) (by decide +kernel) rfl hH k_th h1 ?_
  refine hs_aload (i := 0) (p := 5) (by decide +kernel) rfl ?_
  refine hf_get (T := et_TT) (t := 12) (ci := 10) (f := 0) (p := 8) (by decide +kernel) rfl hH k_th h0 ?_
  have hH1 := hH
  refine ht_callv (T := et_TT) (t := 10) (mi := 104) (na := 1) (ci := 8) (lk := 1) (lm := 3) (L0 := eg_en (eg_mL 104) [.ref s1, .ref s0]) (by decide +kernel) rfl hH k_s1 rfl rfl rfl rfl rfl (by rw [show eg_mL 104 = 3 from by decide +kernel]; first | done | rfl) ?_
  refine ((hc_takeI (a := s1) (s := s0) hH hC.2.2.2.1 hC.2.2.2.2 hC.2.2.1 (by omega)).and (ft_takeC (a := s1) (s := s0) (da := la1) (sa := la0) (db := ya1) (sb := ya0) (g := (fun j => et_pl (eg_at G la0) j)) (g2 := (fun j => et_pl (eg_at G ya0) j)) hH k_s1 k_s0 k_la1 k_la0 k_ya1 k_ya0 m13 m14 m03 m04 hl hy (fun n hn => ⟨fun h => absurd h (Nat.not_lt_zero n), (hv n hn).1.1⟩) (fun n hn => ⟨fun h => absurd h (Nat.not_lt_zero n), (hv n hn).1.2⟩) (by omega))).mono (fun u hu => tn_cb (P := fun g9 => cpk la1 la0 20 20 (fun j => et_pl (eg_at G la0) j) g9 ∧ cpk ya1 ya0 20 20 (fun j => et_pl (eg_at G ya0) j) g9) hu (fun K8 G8 x8 f8 hH hP => ?_))
  have hv : ∀ j, j < 20 → (et_pl (eg_at G8 la0) j = et_pl (eg_at G la0) j ∧ et_pl (eg_at G8 ya0) j = et_pl (eg_at G ya0) j) ∧ (et_pl (eg_at G8 la1) j = et_pl (eg_at G la0) j ∧ et_pl (eg_at G8 ya1) j = et_pl (eg_at G ya0) j) := fun j hj => ⟨⟨(hP.1 j hj).2, (hP.2 j hj).2⟩, ⟨(hP.1 j hj).1 hj, (hP.2 j hj).1 hj⟩⟩
  have k_th := x8 _ _ k_th
  have lt_th := (hH.2.2 _ _ k_th).1
  have k_s0 := x8 _ _ k_s0
  have lt_s0 := (hH.2.2 _ _ k_s0).1
  have k_s1 := x8 _ _ k_s1
  have lt_s1 := (hH.2.2 _ _ k_s1).1
  have k_la0 := x8 _ _ k_la0
  have lt_la0 := (hH.2.2 _ _ k_la0).1
  have k_ya0 := x8 _ _ k_ya0
  have lt_ya0 := (hH.2.2 _ _ k_ya0).1
  have k_la1 := x8 _ _ k_la1
  have lt_la1 := (hH.2.2 _ _ k_la1).1
  have k_ya1 := x8 _ _ k_ya1
  have lt_ya1 := (hH.2.2 _ _ k_ya1).1
  show et_go none _ 124 11 _ [] _ _ _ _
  refine hs_aload (i := 0) (p := 12) (by decide +kernel) rfl ?_
  refine hs_k (x := Int32.ofNat 1) (p := 13) (by decide +kernel) ?_
  have hHo := hH
  refine hf_put (T := et_TT) (t := 12) (ci := 10) (f := 2) (p := 16) (ty := .boolean) (by decide +kernel) rfl rfl rfl (by decide +kernel) rfl hH k_th (hi_nv (by omega) (by omega)) (fun G13 hH x13 e13 => ?_)
  have lt_th := Nat.lt_of_lt_of_le lt_th x13.1
  have lt_s0 := Nat.lt_of_lt_of_le lt_s0 x13.1
  have lt_s1 := Nat.lt_of_lt_of_le lt_s1 x13.1
  have lt_la0 := Nat.lt_of_lt_of_le lt_la0 x13.1
  have lt_ya0 := Nat.lt_of_lt_of_le lt_ya0 x13.1
  have lt_la1 := Nat.lt_of_lt_of_le lt_la1 x13.1
  have lt_ya1 := Nat.lt_of_lt_of_le lt_ya1 x13.1
  have hv := fun (j : Nat) (hj : j < 20) => And.intro (And.intro ((x13.2 la0 j (hHo.2.2 _ _ k_la0).1 (fun h => hi_ne k_la0 k_th (by decide) h.1)).trans (hv j hj).1.1) ((x13.2 ya0 j (hHo.2.2 _ _ k_ya0).1 (fun h => hi_ne k_ya0 k_th (by decide) h.1)).trans (hv j hj).1.2)) (And.intro ((x13.2 la1 j (hHo.2.2 _ _ k_la1).1 (fun h => hi_ne k_la1 k_th (by decide) h.1)).trans (hv j hj).2.1) ((x13.2 ya1 j (hHo.2.2 _ _ k_ya1).1 (fun h => hi_ne k_ya1 k_th (by decide) h.1)).trans (hv j hj).2.2))
  refine hs_vret (by decide +kernel) ?_
  exact hv
theorem fc_backC {K : et_K} {G : eg_G} (hH : et_H et_TT K G) (hC : ci_O K G th s0 s1 ra0 ca0 rc0 ec0 cc0 ra1 ca1 rc1 ec1 cc1) (m03 : et_pl (eg_at G s0) 3 = some (.ref la0)) (m04 : et_pl (eg_at G s0) 4 = some (.ref ya0)) (m13 : et_pl (eg_at G s1) 3 = some (.ref la1)) (m14 : et_pl (eg_at G s1) 4 = some (.ref ya1)) (k_la0 : K la0 = some 17) (k_ya0 : K ya0 = some 27) (k_la1 : K la1 = some 17) (k_ya1 : K ya1 = some 27) (hl : ¬ la0 = la1) (hy : ¬ ya0 = ya1) (hh : ph_at G th h) (hh1 : h ≤ 1) (hd : 3 ≤ d2) : et_go none d2 125 0 (eg_en (eg_mL 125) [.ref th]) [] G 0 0 (fun u => ∀ j, j < 20 → (et_pl (eg_at u.2.1 la0) j = (if h = 0 then et_pl (eg_at G la0) j else et_pl (eg_at G la1) j) ∧ et_pl (eg_at u.2.1 ya0) j = (if h = 0 then et_pl (eg_at G ya0) j else et_pl (eg_at G ya1) j)) ∧ (et_pl (eg_at u.2.1 la1) j = et_pl (eg_at G la1) j ∧ et_pl (eg_at u.2.1 ya1) j = et_pl (eg_at G ya1) j)) := by
  obtain ⟨d, rfl⟩ : ∃ d, d2 = d + 3 := ⟨d2 - 3, by omega⟩
  have k_th := hC.1
  have k_s0 := hC.2.2.2.1.1.1
  have k_s1 := hC.2.2.2.2.1.1
  have h0 := hC.2.1.1
  have h1 := hC.2.1.2
  have hh : et_pl (eg_at G th) 2 = some (.int (Int32.ofNat h)) := hh
  have hv : ∀ j, j < 20 → (et_pl (eg_at G la0) j = et_pl (eg_at G la0) j ∧ et_pl (eg_at G ya0) j = et_pl (eg_at G ya0) j) ∧ (et_pl (eg_at G la1) j = et_pl (eg_at G la1) j ∧ et_pl (eg_at G ya1) j = et_pl (eg_at G ya1) j) := fun _ _ => ⟨⟨rfl, rfl⟩, rfl, rfl⟩
  rw [show eg_mL 125 = 1 from by decide +kernel]
  show et_go none (d + 3) 125 0 [some (.ref th)] [] G 0 0 _
  have lt_th := (hH.2.2 _ _ k_th).1
  have lt_s0 := (hH.2.2 _ _ k_s0).1
  have lt_s1 := (hH.2.2 _ _ k_s1).1
  have lt_la0 := (hH.2.2 _ _ k_la0).1
  have lt_ya0 := (hH.2.2 _ _ k_ya0).1
  have lt_la1 := (hH.2.2 _ _ k_la1).1
  have lt_ya1 := (hH.2.2 _ _ k_ya1).1
  refine hs_aload (i := 0) (p := 1) (by decide +kernel) rfl ?_
  refine hf_get (T := et_TT) (t := 12) (ci := 10) (f := 2) (p := 4) (by decide +kernel) rfl hH k_th hh ?_
  refine hs_br1 (c := .ne) (t := 9) (f := 7) (by decide +kernel) (fun (c4 : ¬ Int32.ofNat h = 0) => ?_) (fun (c4 : ¬ (¬ Int32.ofNat h = 0)) => ?_)
  · refine hs_aload (i := 0) (p := 10) (by decide +kernel) rfl ?_
    have hHo := hH
    refine ht_callv (T := et_TT) (t := 12) (mi := 120) (na := 0) (ci := 10) (lk := 1) (lm := 1) (L0 := eg_en (eg_mL 120) [.ref th]) (by decide +kernel) rfl hH k_th rfl rfl rfl rfl rfl (by rw [show eg_mL 120 = 1 from by decide +kernel]; first | done | rfl) ?_
    refine (fc_forget hH k_th).mono (fun u hu => xw_cb hu (fun G10 v10 hH x10 hP10 => ?_))
    obtain rfl := hP10
    have hC := ci_O.fr hC et_ex.rf (x10.tfr hHo (M := [(12, 6, 7)]) (fun a t i ha h => by obtain ⟨ea, h⟩ := h; rw [ea, k_th] at ha; cases ha; simp [et_mm]; omega)) (by decide +kernel)
    have h0 := (x10.2 th 0 lt_th (fun h => absurd h.2 (by decide))).trans h0
    have h1 := (x10.2 th 1 lt_th (fun h => absurd h.2 (by decide))).trans h1
    have m03 := (x10.2 s0 3 lt_s0 (fun h => (hi_ne k_s0 k_th (by decide)) h.1)).trans m03
    have m04 := (x10.2 s0 4 lt_s0 (fun h => (hi_ne k_s0 k_th (by decide)) h.1)).trans m04
    have m13 := (x10.2 s1 3 lt_s1 (fun h => (hi_ne k_s1 k_th (by decide)) h.1)).trans m13
    have m14 := (x10.2 s1 4 lt_s1 (fun h => (hi_ne k_s1 k_th (by decide)) h.1)).trans m14
    have hh := (x10.2 th 2 lt_th (fun h => absurd h.2 (by decide))).trans hh
    have lt_th := Nat.lt_of_lt_of_le lt_th x10.1
    have lt_s0 := Nat.lt_of_lt_of_le lt_s0 x10.1
    have lt_s1 := Nat.lt_of_lt_of_le lt_s1 x10.1
    have lt_la0 := Nat.lt_of_lt_of_le lt_la0 x10.1
    have lt_ya0 := Nat.lt_of_lt_of_le lt_ya0 x10.1
    have lt_la1 := Nat.lt_of_lt_of_le lt_la1 x10.1
    have lt_ya1 := Nat.lt_of_lt_of_le lt_ya1 x10.1
    have hv := fun (j : Nat) (hj : j < 20) => And.intro (And.intro ((x10.2 la0 j (hHo.2.2 _ _ k_la0).1 (fun h => hi_ne k_la0 k_th (by decide) h.1)).trans (hv j hj).1.1) ((x10.2 ya0 j (hHo.2.2 _ _ k_ya0).1 (fun h => hi_ne k_ya0 k_th (by decide) h.1)).trans (hv j hj).1.2)) (And.intro ((x10.2 la1 j (hHo.2.2 _ _ k_la1).1 (fun h => hi_ne k_la1 k_th (by decide) h.1)).trans (hv j hj).2.1) ((x10.2 ya1 j (hHo.2.2 _ _ k_ya1).1 (fun h => hi_ne k_ya1 k_th (by decide) h.1)).trans (hv j hj).2.2))
    show et_go none _ 125 13 _ [] _ _ _ _
    refine hs_aload (i := 0) (p := 14) (by decide +kernel) rfl ?_
    refine hf_get (T := et_TT) (t := 12) (ci := 10) (f := 0) (p := 17) (by decide +kernel) rfl hH k_th h0 ?_
    refine hs_aload (i := 0) (p := 18) (by decide +kernel) rfl ?_
    refine hf_get (T := et_TT) (t := 12) (ci := 10) (f := 1) (p := 21) (by decide +kernel) rfl hH k_th h1 ?_
    have hH1 := hH
    refine ht_callv (T := et_TT) (t := 10) (mi := 104) (na := 1) (ci := 8) (lk := 1) (lm := 3) (L0 := eg_en (eg_mL 104) [.ref s0, .ref s1]) (by decide +kernel) rfl hH k_s0 rfl rfl rfl rfl rfl (by rw [show eg_mL 104 = 3 from by decide +kernel]; first | done | rfl) ?_
    refine ((hc_takeI (a := s0) (s := s1) hH hC.2.2.2.2 hC.2.2.2.1 ⟨fun e => hC.2.2.1.1 e.symm, fun e => hC.2.2.1.2.1 e.symm, fun e => hC.2.2.1.2.2 e.symm⟩ (by omega)).and (ft_takeC (a := s0) (s := s1) (da := la0) (sa := la1) (db := ya0) (sb := ya1) (g := (fun j => et_pl (eg_at G la1) j)) (g2 := (fun j => et_pl (eg_at G ya1) j)) hH k_s0 k_s1 k_la0 k_la1 k_ya0 k_ya1 m03 m04 m13 m14 (fun e => hl e.symm) (fun e => hy e.symm) (fun n hn => ⟨fun h => absurd h (Nat.not_lt_zero n), (hv n hn).2.1⟩) (fun n hn => ⟨fun h => absurd h (Nat.not_lt_zero n), (hv n hn).2.2⟩) (by omega))).mono (fun u hu => tn_cb (P := fun g9 => cpk la0 la1 20 20 (fun j => et_pl (eg_at G la1) j) g9 ∧ cpk ya0 ya1 20 20 (fun j => et_pl (eg_at G ya1) j) g9) hu (fun K21 G21 x21 f21 hH hP => ?_))
    have hv : ∀ j, j < 20 → (et_pl (eg_at G21 la0) j = et_pl (eg_at G la1) j ∧ et_pl (eg_at G21 ya0) j = et_pl (eg_at G ya1) j) ∧ (et_pl (eg_at G21 la1) j = et_pl (eg_at G la1) j ∧ et_pl (eg_at G21 ya1) j = et_pl (eg_at G ya1) j) := fun j hj => ⟨⟨(hP.1 j hj).1 hj, (hP.2 j hj).1 hj⟩, ⟨(hP.1 j hj).2, (hP.2 j hj).2⟩⟩
    have k_th := x21 _ _ k_th
    have lt_th := (hH.2.2 _ _ k_th).1
    have k_s0 := x21 _ _ k_s0
    have lt_s0 := (hH.2.2 _ _ k_s0).1
    have k_s1 := x21 _ _ k_s1
    have lt_s1 := (hH.2.2 _ _ k_s1).1
    have k_la0 := x21 _ _ k_la0
    have lt_la0 := (hH.2.2 _ _ k_la0).1
    have k_ya0 := x21 _ _ k_ya0
    have lt_ya0 := (hH.2.2 _ _ k_ya0).1
    have k_la1 := x21 _ _ k_la1
    have lt_la1 := (hH.2.2 _ _ k_la1).1
    have k_ya1 := x21 _ _ k_ya1
    have lt_ya1 := (hH.2.2 _ _ k_ya1).1
    show et_go none _ 125 24 _ [] _ _ _ _
    refine hs_k (x := Int32.ofNat 1) (p := 25) (by decide +kernel) ?_
    refine hs_zret (by decide +kernel) (.inr rfl) ?_
    exact fun j hj => ⟨⟨(hv j hj).1.1.trans (if_neg (by have := hi_b1 hh1 c4; omega)).symm, (hv j hj).1.2.trans (if_neg (by have := hi_b1 hh1 c4; omega)).symm⟩, (hv j hj).2⟩
  · refine hs_k (x := Int32.ofNat 0) (p := 8) (by decide +kernel) ?_
    refine hs_zret (by decide +kernel) (.inl rfl) ?_
    exact fun j hj => ⟨⟨(hv j hj).1.1.trans (if_pos (hi_b0 hh1 c4)).symm, (hv j hj).1.2.trans (if_pos (hi_b0 hh1 c4)).symm⟩, (hv j hj).2⟩
end TRA
end
section
/-! FUNCTIONAL: along, cloud -/
/-- with how many of the first cards a CELL goes along -/
def alN (X : Nat → Int32) (Y : Nat → Nat) (v : Nat) : Nat → Nat
  | 0 => 0
  | k + 1 => alN X Y v k + (if liI (X k) v = decide (Y k = 1) then 1 else 0)
theorem alN_le {X : Nat → Int32} {Y : Nat → Nat} {v : Nat} : ∀ k, alN X Y v k ≤ k
  | 0 => Nat.le_refl _
  | k + 1 => by
    have h := alN_le (X := X) (Y := Y) (v := v) k
    show alN X Y v k + (if liI (X k) v = decide (Y k = 1) then 1 else 0) ≤ k + 1
    split <;> omega
theorem alN_y {X : Nat → Int32} {Y : Nat → Nat} {v k : Nat} (h : liI (X k) v = decide (Y k = 1)) : alN X Y v (k + 1) = alN X Y v k + 1 := by
  show alN X Y v k + (if liI (X k) v = decide (Y k = 1) then 1 else 0) = _
  rw [if_pos h]
theorem alN_n {X : Nat → Int32} {Y : Nat → Nat} {v k : Nat} (h : ¬ liI (X k) v = decide (Y k = 1)) : alN X Y v (k + 1) = alN X Y v k := by
  show alN X Y v k + (if liI (X k) v = decide (Y k = 1) then 1 else 0) = _
  rw [if_neg h]
  rfl
/-- the best of the first CELLS -/
def clB (f : Nat → Nat) : Nat → Nat
  | 0 => 0
  | t + 1 => if f (clB f t) < f t then t else clB f t
theorem clB_lt {f : Nat → Nat} : ∀ t, 1 ≤ t → clB f t < t
  | 0, h => absurd h (by decide)
  | t + 1, _ => by
    show (if f (clB f t) < f t then t else clB f t) < t + 1
    split
    · omega
    · by_cases h : 1 ≤ t
      · have := clB_lt (f := f) t h
        omega
      · obtain rfl : t = 0 := by omega
        exact Nat.lt_succ_self 0
section TSA
variable {K : et_K} {G : eg_G} {d d2 st la ya am aw n v : Nat} {X : Nat → Int32} {Y : Nat → Nat}
theorem fc_gaL {k : Nat} (hH : et_H et_TT K G) (k_st : K st = some 10) (k_la : K la = some 17) (k_ya : K ya = some 27) (h2 : et_pl (eg_at G st) 2 = some (.int (Int32.ofNat n))) (h3 : et_pl (eg_at G st) 3 = some (.ref la)) (h4 : et_pl (eg_at G st) 4 = some (.ref ya)) (hn : n ≤ 20) (hc : ∀ k, k < n → et_pl (eg_at G la) k = some (.int (X k)) ∧ et_pl (eg_at G ya) k = some (.int (Int32.ofNat (Y k))) ∧ Y k ≤ 1) (hk : k ≤ n) : et_go none (d + 1) 102 4 [some (.ref st), some (.int (Int32.ofNat v)), some (.int (Int32.ofNat (alN X Y v k))), some (.int (Int32.ofNat k))] [] G 0 0 (xp_Z G (some (.int (Int32.ofNat (alN X Y v n))))) := by
  induction hm : n - k using Nat.strongRecOn generalizing k with
  | _ z ih =>
    have hal := alN_le (X := X) (Y := Y) (v := v) k
    have lt_st := (hH.2.2 _ _ k_st).1
    have lt_la := (hH.2.2 _ _ k_la).1
    have lt_ya := (hH.2.2 _ _ k_ya).1
    refine hs_iload (i := 3) (p := 5) (by decide +kernel) rfl ?_
    refine hs_aload (i := 0) (p := 6) (by decide +kernel) rfl ?_
    refine hf_get (T := et_TT) (t := 10) (ci := 8) (f := 2) (p := 9) (by decide +kernel) rfl hH k_st h2 ?_
    refine hs_br2n (c := .ge) (t := 40) (f := 12) (by decide +kernel) (by omega) (by omega) (fun (c9 : n ≤ k) => ?_) (fun (c9 : ¬ (n ≤ k)) => ?_)
    · refine hs_iload (i := 2) (p := 41) (by decide +kernel) rfl ?_
      refine hs_iret (by decide +kernel) ?_
      obtain rfl : k = n := by omega
      rfl
    · refine hs_aload (i := 0) (p := 13) (by decide +kernel) rfl ?_
      refine hf_get (T := et_TT) (t := 10) (ci := 8) (f := 3) (p := 16) (by decide +kernel) rfl hH k_st h3 ?_
      refine hs_iload (i := 3) (p := 17) (by decide +kernel) rfl ?_
      refine hf_ald (ins := .iaload) (T := et_TT) (t := 17) (kd := 0) (N := 20) (p := 18) (by decide +kernel) (fun _ _ _ _ _ _ _ _ _ _ => rfl) rfl rfl rfl hH k_la (by decide) (hc k (by omega)).1 ?_
      refine hs_iload (i := 1) (p := 19) (by decide +kernel) rfl ?_
      refine hs_calls (mi := 122) (na := 2) (lk := 4) (lm := 2) (L0 := eg_en (eg_mL 122) [.int (X k), .int (Int32.ofNat v)]) (by decide +kernel) rfl rfl rfl rfl rfl rfl (by rw [show eg_mL 122 = 2 from by decide +kernel]; first | done | rfl) ?_
      refine (fx_lit).mono (fun u hu => xp_cb hu ?_)
      by_cases ql : liI (X k) v = true
      · rw [if_pos ql]
        show et_go none _ 102 22 _ [.int (Int32.ofNat 1)] _ _ _ _
        refine hs_aload (i := 0) (p := 23) (by decide +kernel) rfl ?_
        refine hf_get (T := et_TT) (t := 10) (ci := 8) (f := 4) (p := 26) (by decide +kernel) rfl hH k_st h4 ?_
        refine hs_iload (i := 3) (p := 27) (by decide +kernel) rfl ?_
        refine hf_ald (ins := .baload) (T := et_TT) (t := 27) (kd := 3) (N := 20) (p := 28) (by decide +kernel) (fun _ _ _ _ _ _ _ _ _ _ => rfl) rfl rfl rfl hH k_ya (by decide) (hc k (by omega)).2.1 ?_
        have hY := (hc k (by omega)).2.2
        refine hs_br2n (c := .ne) (t := 34) (f := 31) (by decide +kernel) (by omega) (by omega) (fun (c28 : ¬ 1 = (Y k)) => ?_) (fun (c28 : ¬ (¬ 1 = (Y k))) => ?_)
        · refine hs_iinc1 (i := 3) (p := 37) (by decide +kernel) rfl (Nat.le_of_ble_eq_true rfl) ?_
          refine hs_goto (p := 4) (by decide +kernel) ?_
          show et_go none (d + 1) 102 4 [some (.ref st), some (.int (Int32.ofNat v)), some (.int (Int32.ofNat (alN X Y v k))), some (.int (Int32.ofNat (k + 1)))] [] _ _ _ _
          rw [← alN_n (X := X) (Y := Y) (v := v) (k := k) (by rw [ql, decide_eq_false (show ¬ Y k = 1 by omega)]; decide)]
          show et_go none (d + 1) 102 4 [some (.ref st), some (.int (Int32.ofNat v)), some (.int (Int32.ofNat (alN X Y v (k + 1)))), some (.int (Int32.ofNat (k + 1)))] [] _ _ _ _
          exact ih (n - (k + 1)) (by omega) (by omega) rfl
        · refine hs_iinc1 (i := 2) (p := 34) (by decide +kernel) rfl (Nat.le_of_ble_eq_true rfl) ?_
          refine hs_iinc1 (i := 3) (p := 37) (by decide +kernel) rfl (Nat.le_of_ble_eq_true rfl) ?_
          refine hs_goto (p := 4) (by decide +kernel) ?_
          show et_go none (d + 1) 102 4 [some (.ref st), some (.int (Int32.ofNat v)), some (.int (Int32.ofNat ((alN X Y v k) + 1))), some (.int (Int32.ofNat (k + 1)))] [] _ _ _ _
          rw [← alN_y (X := X) (Y := Y) (v := v) (k := k) (by rw [ql]; exact (decide_eq_true (by omega)).symm)]
          show et_go none (d + 1) 102 4 [some (.ref st), some (.int (Int32.ofNat v)), some (.int (Int32.ofNat (alN X Y v (k + 1)))), some (.int (Int32.ofNat (k + 1)))] [] _ _ _ _
          exact ih (n - (k + 1)) (by omega) (by omega) rfl
      · rw [if_neg ql]
        show et_go none _ 102 22 _ [.int (Int32.ofNat 0)] _ _ _ _
        refine hs_aload (i := 0) (p := 23) (by decide +kernel) rfl ?_
        refine hf_get (T := et_TT) (t := 10) (ci := 8) (f := 4) (p := 26) (by decide +kernel) rfl hH k_st h4 ?_
        refine hs_iload (i := 3) (p := 27) (by decide +kernel) rfl ?_
        refine hf_ald (ins := .baload) (T := et_TT) (t := 27) (kd := 3) (N := 20) (p := 28) (by decide +kernel) (fun _ _ _ _ _ _ _ _ _ _ => rfl) rfl rfl rfl hH k_ya (by decide) (hc k (by omega)).2.1 ?_
        have hY := (hc k (by omega)).2.2
        refine hs_br2n (c := .ne) (t := 34) (f := 31) (by decide +kernel) (by omega) (by omega) (fun (c28 : ¬ 0 = (Y k)) => ?_) (fun (c28 : ¬ (¬ 0 = (Y k))) => ?_)
        · refine hs_iinc1 (i := 3) (p := 37) (by decide +kernel) rfl (Nat.le_of_ble_eq_true rfl) ?_
          refine hs_goto (p := 4) (by decide +kernel) ?_
          show et_go none (d + 1) 102 4 [some (.ref st), some (.int (Int32.ofNat v)), some (.int (Int32.ofNat (alN X Y v k))), some (.int (Int32.ofNat (k + 1)))] [] _ _ _ _
          rw [← alN_n (X := X) (Y := Y) (v := v) (k := k) (by rw [Bool.eq_false_iff.mpr ql, decide_eq_true (show Y k = 1 by omega)]; decide)]
          show et_go none (d + 1) 102 4 [some (.ref st), some (.int (Int32.ofNat v)), some (.int (Int32.ofNat (alN X Y v (k + 1)))), some (.int (Int32.ofNat (k + 1)))] [] _ _ _ _
          exact ih (n - (k + 1)) (by omega) (by omega) rfl
        · refine hs_iinc1 (i := 2) (p := 34) (by decide +kernel) rfl (Nat.le_of_ble_eq_true rfl) ?_
          refine hs_iinc1 (i := 3) (p := 37) (by decide +kernel) rfl (Nat.le_of_ble_eq_true rfl) ?_
          refine hs_goto (p := 4) (by decide +kernel) ?_
          show et_go none (d + 1) 102 4 [some (.ref st), some (.int (Int32.ofNat v)), some (.int (Int32.ofNat ((alN X Y v k) + 1))), some (.int (Int32.ofNat (k + 1)))] [] _ _ _ _
          rw [← alN_y (X := X) (Y := Y) (v := v) (k := k) (by rw [Bool.eq_false_iff.mpr ql]; exact (decide_eq_false (by omega)).symm)]
          show et_go none (d + 1) 102 4 [some (.ref st), some (.int (Int32.ofNat v)), some (.int (Int32.ofNat (alN X Y v (k + 1)))), some (.int (Int32.ofNat (k + 1)))] [] _ _ _ _
          exact ih (n - (k + 1)) (by omega) (by omega) rfl
theorem fc_ga (hH : et_H et_TT K G) (k_st : K st = some 10) (k_la : K la = some 17) (k_ya : K ya = some 27) (h2 : et_pl (eg_at G st) 2 = some (.int (Int32.ofNat n))) (h3 : et_pl (eg_at G st) 3 = some (.ref la)) (h4 : et_pl (eg_at G st) 4 = some (.ref ya)) (hn : n ≤ 20) (hc : ∀ k, k < n → et_pl (eg_at G la) k = some (.int (X k)) ∧ et_pl (eg_at G ya) k = some (.int (Int32.ofNat (Y k))) ∧ Y k ≤ 1) (hd : 1 ≤ d2) : et_go none d2 102 0 (eg_en (eg_mL 102) [.ref st, .int (Int32.ofNat v)]) [] G 0 0 (xp_Z G (some (.int (Int32.ofNat (alN X Y v n))))) := by
  obtain ⟨d, rfl⟩ : ∃ d, d2 = d + 1 := ⟨d2 - 1, by omega⟩
  rw [show eg_mL 102 = 4 from by decide +kernel]
  show et_go none (d + 1) 102 0 [some (.ref st), some (.int (Int32.ofNat v)), none, none] [] G 0 0 _
  refine hs_k (x := Int32.ofNat 0) (p := 1) (by decide +kernel) ?_
  refine hs_istore (i := 2) (p := 2) (by decide +kernel) (Nat.le_of_ble_eq_true rfl) ?_
  refine hs_k (x := Int32.ofNat 0) (p := 3) (by decide +kernel) ?_
  refine hs_istore (i := 3) (p := 4) (by decide +kernel) (Nat.le_of_ble_eq_true rfl) ?_
  exact fc_gaL (k := 0) hH k_st k_la k_ya h2 h3 h4 hn hc (Nat.zero_le _)
theorem fm_litOf {k : Nat} {x : Int32} (hH : et_H et_TT K G) (k_am : K am = some 13) (k_aw : K aw = some 46) (m1 : et_pl (eg_at G am) 1 = some (.ref aw)) (hk : k < 20) (hx : et_pl (eg_at G aw) (5 + 2 * k) = some (.int x)) : et_go none d2 234 0 (eg_en (eg_mL 234) [.ref am, .int (Int32.ofNat k)]) [] G 0 0 (xp_Z G (some (.int x))) := by
  rw [show eg_mL 234 = 2 from by decide +kernel]
  show et_go none d2 234 0 [some (.ref am), some (.int (Int32.ofNat k))] [] G 0 0 _
  have lt_am := (hH.2.2 _ _ k_am).1
  have lt_aw := (hH.2.2 _ _ k_aw).1
  refine hs_aload (i := 0) (p := 1) (by decide +kernel) rfl ?_
  refine hf_get (T := et_TT) (t := 13) (ci := 11) (f := 1) (p := 4) (by decide +kernel) rfl hH k_am m1 ?_
  refine hs_k (x := Int32.ofNat 5) (p := 5) (by decide +kernel) ?_
  refine hs_k (x := Int32.ofNat 2) (p := 6) (by decide +kernel) ?_
  refine hs_iload (i := 1) (p := 7) (by decide +kernel) rfl ?_
  refine hs_imuln (p := 8) (by decide +kernel) ?_
  refine hs_iaddn (p := 9) (by decide +kernel) ?_
  refine hf_ald (ins := .iaload) (T := et_TT) (t := 46) (kd := 0) (N := 12741) (p := 10) (by decide +kernel) (fun _ _ _ _ _ _ _ _ _ _ => rfl) rfl rfl rfl hH k_aw (by decide) (pl_eq hx (by omega)) ?_
  refine hs_iret (by decide +kernel) ?_
  rfl
theorem fm_isYes {k y : Nat} (hH : et_H et_TT K G) (k_am : K am = some 13) (k_aw : K aw = some 46) (m1 : et_pl (eg_at G am) 1 = some (.ref aw)) (hk : k < 20) (hy : y ≤ 1) (hx : et_pl (eg_at G aw) (6 + 2 * k) = some (.int (Int32.ofNat y))) : et_go none d2 240 0 (eg_en (eg_mL 240) [.ref am, .int (Int32.ofNat k)]) [] G 0 0 (xp_Z G (some (.int (Int32.ofNat y)))) := by
  rw [show eg_mL 240 = 2 from by decide +kernel]
  show et_go none d2 240 0 [some (.ref am), some (.int (Int32.ofNat k))] [] G 0 0 _
  have lt_am := (hH.2.2 _ _ k_am).1
  have lt_aw := (hH.2.2 _ _ k_aw).1
  refine hs_aload (i := 0) (p := 1) (by decide +kernel) rfl ?_
  refine hf_get (T := et_TT) (t := 13) (ci := 11) (f := 1) (p := 4) (by decide +kernel) rfl hH k_am m1 ?_
  refine hs_k (x := Int32.ofNat 5) (p := 5) (by decide +kernel) ?_
  refine hs_k (x := Int32.ofNat 2) (p := 6) (by decide +kernel) ?_
  refine hs_iload (i := 1) (p := 7) (by decide +kernel) rfl ?_
  refine hs_imuln (p := 8) (by decide +kernel) ?_
  refine hs_iaddn (p := 9) (by decide +kernel) ?_
  refine hs_k (x := Int32.ofNat 1) (p := 10) (by decide +kernel) ?_
  refine hs_iaddn (p := 11) (by decide +kernel) ?_
  refine hf_ald (ins := .iaload) (T := et_TT) (t := 46) (kd := 0) (N := 12741) (p := 12) (by decide +kernel) (fun _ _ _ _ _ _ _ _ _ _ => rfl) rfl rfl rfl hH k_aw (by decide) (pl_eq hx (by omega)) ?_
  refine hs_k (x := Int32.ofNat 1) (p := 13) (by decide +kernel) ?_
  refine hs_br2n (c := .ne) (t := 20) (f := 16) (by decide +kernel) (by omega) (by omega) (fun (c13 : ¬ y = 1) => ?_) (fun (c13 : ¬ (¬ y = 1)) => ?_)
  · refine hs_k (x := Int32.ofNat 0) (p := 21) (by decide +kernel) ?_
    refine hs_zret (by decide +kernel) (.inl rfl) ?_
    obtain rfl : y = 0 := by omega
    rfl
  · refine hs_k (x := Int32.ofNat 1) (p := 17) (by decide +kernel) ?_
    refine hs_goto (p := 21) (by decide +kernel) ?_
    refine hs_zret (by decide +kernel) (.inr rfl) ?_
    obtain rfl : y = 1 := by omega
    rfl
theorem fm_gaL {k : Nat} (hH : et_H et_TT K G) (k_am : K am = some 13) (k_aw : K aw = some 46) (m1 : et_pl (eg_at G am) 1 = some (.ref aw)) (w3 : et_pl (eg_at G aw) 3 = some (.int (Int32.ofNat n))) (hn : n ≤ 20) (hc : ∀ k, k < n → et_pl (eg_at G aw) (5 + 2 * k) = some (.int (X k)) ∧ et_pl (eg_at G aw) (6 + 2 * k) = some (.int (Int32.ofNat (Y k))) ∧ Y k ≤ 1) (hk : k ≤ n) : et_go none (d + 1) 277 4 [some (.ref am), some (.int (Int32.ofNat v)), some (.int (Int32.ofNat (alN X Y v k))), some (.int (Int32.ofNat k))] [] G 0 0 (xp_Z G (some (.int (Int32.ofNat (alN X Y v n))))) := by
  induction hm : n - k using Nat.strongRecOn generalizing k with
  | _ z ih =>
    have hal := alN_le (X := X) (Y := Y) (v := v) k
    have lt_am := (hH.2.2 _ _ k_am).1
    have lt_aw := (hH.2.2 _ _ k_aw).1
    refine hs_iload (i := 3) (p := 5) (by decide +kernel) rfl ?_
    refine hs_aload (i := 0) (p := 6) (by decide +kernel) rfl ?_
    refine ht_callv (T := et_TT) (t := 13) (mi := 218) (na := 0) (ci := 11) (lk := 4) (lm := 1) (L0 := eg_en (eg_mL 218) [.ref am]) (by decide +kernel) rfl hH k_am rfl rfl rfl rfl rfl (by rw [show eg_mL 218 = 1 from by decide +kernel]; first | done | rfl) ?_
    refine (fm_cards hH k_am k_aw m1 w3).mono (fun u hu => xp_cb hu ?_)
    show et_go none _ 277 9 _ [.int (Int32.ofNat n), .int (Int32.ofNat k)] _ _ _ _
    refine hs_br2n (c := .ge) (t := 52) (f := 12) (by decide +kernel) (by omega) (by omega) (fun (c9 : n ≤ k) => ?_) (fun (c9 : ¬ (n ≤ k)) => ?_)
    · refine hs_iload (i := 2) (p := 53) (by decide +kernel) rfl ?_
      refine hs_iret (by decide +kernel) ?_
      obtain rfl : k = n := by omega
      rfl
    · have hY := (hc k (by omega)).2.2
      refine hs_iload (i := 2) (p := 13) (by decide +kernel) rfl ?_
      refine hs_aload (i := 0) (p := 14) (by decide +kernel) rfl ?_
      refine hs_iload (i := 3) (p := 15) (by decide +kernel) rfl ?_
      refine ht_callv (T := et_TT) (t := 13) (mi := 234) (na := 1) (ci := 11) (lk := 4) (lm := 2) (L0 := eg_en (eg_mL 234) [.ref am, .int (Int32.ofNat k)]) (by decide +kernel) rfl hH k_am rfl rfl rfl rfl rfl (by rw [show eg_mL 234 = 2 from by decide +kernel]; first | done | rfl) ?_
      refine (fm_litOf hH k_am k_aw m1 (by omega) (hc k (by omega)).1).mono (fun u hu => xp_cb hu ?_)
      show et_go none _ 277 18 _ [.int (X k), .int (Int32.ofNat (alN X Y v k))] _ _ _ _
      refine hs_iload (i := 1) (p := 19) (by decide +kernel) rfl ?_
      refine hs_st (ins := .ishr) (len := 1) (p := 20) (by decide +kernel) rfl rfl ?_
      refine hs_k (x := Int32.ofNat 1) (p := 21) (by decide +kernel) ?_
      refine hs_st (ins := .iand) (len := 1) (p := 22) (by decide +kernel) rfl rfl ?_
      refine hs_k (x := Int32.ofNat 1) (p := 23) (by decide +kernel) ?_
      refine hs_br2 (c := .ne) (t := 30) (f := 26) (by decide +kernel) (fun (c23 : ¬ (((X k) >>> ((Int32.ofNat v) &&& 31)) &&& (Int32.ofNat 1)) = Int32.ofNat 1) => ?_) (fun (c23 : ¬ (¬ (((X k) >>> ((Int32.ofNat v) &&& 31)) &&& (Int32.ofNat 1)) = Int32.ofNat 1)) => ?_)
      · refine hs_k (x := Int32.ofNat 0) (p := 31) (by decide +kernel) ?_
        refine hs_aload (i := 0) (p := 32) (by decide +kernel) rfl ?_
        refine hs_iload (i := 3) (p := 33) (by decide +kernel) rfl ?_
        refine ht_callv (T := et_TT) (t := 13) (mi := 240) (na := 1) (ci := 11) (lk := 4) (lm := 2) (L0 := eg_en (eg_mL 240) [.ref am, .int (Int32.ofNat k)]) (by decide +kernel) rfl hH k_am rfl rfl rfl rfl rfl (by rw [show eg_mL 240 = 2 from by decide +kernel]; first | done | rfl) ?_
        refine (fm_isYes hH k_am k_aw m1 (by omega) (hc k (by omega)).2.2 (hc k (by omega)).2.1).mono (fun u hu => xp_cb hu ?_)
        show et_go none _ 277 36 _ [.int (Int32.ofNat (Y k)), .int (Int32.ofNat 0), .int (Int32.ofNat (alN X Y v k))] _ _ _ _
        refine hs_br2n (c := .ne) (t := 43) (f := 39) (by decide +kernel) (by omega) (by omega) (fun (c36 : ¬ 0 = (Y k)) => ?_) (fun (c36 : ¬ (¬ 0 = (Y k))) => ?_)
        · refine hs_k (x := Int32.ofNat 0) (p := 44) (by decide +kernel) ?_
          refine hs_iaddn (p := 45) (by decide +kernel) ?_
          refine hs_istore (i := 2) (p := 46) (by decide +kernel) (Nat.le_of_ble_eq_true rfl) ?_
          refine hs_iinc1 (i := 3) (p := 49) (by decide +kernel) rfl (Nat.le_of_ble_eq_true rfl) ?_
          refine hs_goto (p := 4) (by decide +kernel) ?_
          have ql : liI (X k) v = false := by unfold liI; rcases one_bit (t := (X k >>> (Int32.ofNat v &&& 31))) with h | h; exact decide_eq_false (fun h2 => h2 h); exact absurd h c23
          show et_go none (d + 1) 277 4 [some (.ref am), some (.int (Int32.ofNat v)), some (.int (Int32.ofNat (alN X Y v k + 0))), some (.int (Int32.ofNat (k + 1)))] [] _ _ _ _
          rw [show alN X Y v k + 0 = alN X Y v (k + 1) from (alN_n (X := X) (Y := Y) (v := v) (k := k) (by rw [ql, decide_eq_true (show Y k = 1 by omega)]; decide)).symm]
          exact ih (n - (k + 1)) (by omega) (by omega) rfl
        · refine hs_k (x := Int32.ofNat 1) (p := 40) (by decide +kernel) ?_
          refine hs_goto (p := 44) (by decide +kernel) ?_
          refine hs_iaddn (p := 45) (by decide +kernel) ?_
          refine hs_istore (i := 2) (p := 46) (by decide +kernel) (Nat.le_of_ble_eq_true rfl) ?_
          refine hs_iinc1 (i := 3) (p := 49) (by decide +kernel) rfl (Nat.le_of_ble_eq_true rfl) ?_
          refine hs_goto (p := 4) (by decide +kernel) ?_
          have ql : liI (X k) v = false := by unfold liI; rcases one_bit (t := (X k >>> (Int32.ofNat v &&& 31))) with h | h; exact decide_eq_false (fun h2 => h2 h); exact absurd h c23
          show et_go none (d + 1) 277 4 [some (.ref am), some (.int (Int32.ofNat v)), some (.int (Int32.ofNat (alN X Y v k + 1))), some (.int (Int32.ofNat (k + 1)))] [] _ _ _ _
          rw [show alN X Y v k + 1 = alN X Y v (k + 1) from (alN_y (X := X) (Y := Y) (v := v) (k := k) (by rw [ql]; exact (decide_eq_false (by omega)).symm)).symm]
          exact ih (n - (k + 1)) (by omega) (by omega) rfl
      · refine hs_k (x := Int32.ofNat 1) (p := 27) (by decide +kernel) ?_
        refine hs_goto (p := 31) (by decide +kernel) ?_
        refine hs_aload (i := 0) (p := 32) (by decide +kernel) rfl ?_
        refine hs_iload (i := 3) (p := 33) (by decide +kernel) rfl ?_
        refine ht_callv (T := et_TT) (t := 13) (mi := 240) (na := 1) (ci := 11) (lk := 4) (lm := 2) (L0 := eg_en (eg_mL 240) [.ref am, .int (Int32.ofNat k)]) (by decide +kernel) rfl hH k_am rfl rfl rfl rfl rfl (by rw [show eg_mL 240 = 2 from by decide +kernel]; first | done | rfl) ?_
        refine (fm_isYes hH k_am k_aw m1 (by omega) (hc k (by omega)).2.2 (hc k (by omega)).2.1).mono (fun u hu => xp_cb hu ?_)
        show et_go none _ 277 36 _ [.int (Int32.ofNat (Y k)), .int (Int32.ofNat 1), .int (Int32.ofNat (alN X Y v k))] _ _ _ _
        refine hs_br2n (c := .ne) (t := 43) (f := 39) (by decide +kernel) (by omega) (by omega) (fun (c36 : ¬ 1 = (Y k)) => ?_) (fun (c36 : ¬ (¬ 1 = (Y k))) => ?_)
        · refine hs_k (x := Int32.ofNat 0) (p := 44) (by decide +kernel) ?_
          refine hs_iaddn (p := 45) (by decide +kernel) ?_
          refine hs_istore (i := 2) (p := 46) (by decide +kernel) (Nat.le_of_ble_eq_true rfl) ?_
          refine hs_iinc1 (i := 3) (p := 49) (by decide +kernel) rfl (Nat.le_of_ble_eq_true rfl) ?_
          refine hs_goto (p := 4) (by decide +kernel) ?_
          have ql : liI (X k) v = true := by unfold liI; exact decide_eq_true (fun h => by rw [Decidable.of_not_not c23] at h; exact absurd h (by decide))
          show et_go none (d + 1) 277 4 [some (.ref am), some (.int (Int32.ofNat v)), some (.int (Int32.ofNat (alN X Y v k + 0))), some (.int (Int32.ofNat (k + 1)))] [] _ _ _ _
          rw [show alN X Y v k + 0 = alN X Y v (k + 1) from (alN_n (X := X) (Y := Y) (v := v) (k := k) (by rw [ql, decide_eq_false (show ¬ Y k = 1 by omega)]; decide)).symm]
          exact ih (n - (k + 1)) (by omega) (by omega) rfl
        · refine hs_k (x := Int32.ofNat 1) (p := 40) (by decide +kernel) ?_
          refine hs_goto (p := 44) (by decide +kernel) ?_
          refine hs_iaddn (p := 45) (by decide +kernel) ?_
          refine hs_istore (i := 2) (p := 46) (by decide +kernel) (Nat.le_of_ble_eq_true rfl) ?_
          refine hs_iinc1 (i := 3) (p := 49) (by decide +kernel) rfl (Nat.le_of_ble_eq_true rfl) ?_
          refine hs_goto (p := 4) (by decide +kernel) ?_
          have ql : liI (X k) v = true := by unfold liI; exact decide_eq_true (fun h => by rw [Decidable.of_not_not c23] at h; exact absurd h (by decide))
          show et_go none (d + 1) 277 4 [some (.ref am), some (.int (Int32.ofNat v)), some (.int (Int32.ofNat (alN X Y v k + 1))), some (.int (Int32.ofNat (k + 1)))] [] _ _ _ _
          rw [show alN X Y v k + 1 = alN X Y v (k + 1) from (alN_y (X := X) (Y := Y) (v := v) (k := k) (by rw [ql]; exact (decide_eq_true (by omega)).symm)).symm]
          exact ih (n - (k + 1)) (by omega) (by omega) rfl
theorem fm_ga (hH : et_H et_TT K G) (k_am : K am = some 13) (k_aw : K aw = some 46) (m1 : et_pl (eg_at G am) 1 = some (.ref aw)) (w3 : et_pl (eg_at G aw) 3 = some (.int (Int32.ofNat n))) (hn : n ≤ 20) (hc : ∀ k, k < n → et_pl (eg_at G aw) (5 + 2 * k) = some (.int (X k)) ∧ et_pl (eg_at G aw) (6 + 2 * k) = some (.int (Int32.ofNat (Y k))) ∧ Y k ≤ 1) (hd : 1 ≤ d2) : et_go none d2 277 0 (eg_en (eg_mL 277) [.ref am, .int (Int32.ofNat v)]) [] G 0 0 (xp_Z G (some (.int (Int32.ofNat (alN X Y v n))))) := by
  obtain ⟨d, rfl⟩ : ∃ d, d2 = d + 1 := ⟨d2 - 1, by omega⟩
  rw [show eg_mL 277 = 4 from by decide +kernel]
  show et_go none (d + 1) 277 0 [some (.ref am), some (.int (Int32.ofNat v)), none, none] [] G 0 0 _
  refine hs_k (x := Int32.ofNat 0) (p := 1) (by decide +kernel) ?_
  refine hs_istore (i := 2) (p := 2) (by decide +kernel) (Nat.le_of_ble_eq_true rfl) ?_
  refine hs_k (x := Int32.ofNat 0) (p := 3) (by decide +kernel) ?_
  refine hs_istore (i := 3) (p := 4) (by decide +kernel) (Nat.le_of_ble_eq_true rfl) ?_
  exact fm_gaL (k := 0) hH k_am k_aw m1 w3 hn hc (Nat.zero_le _)
end TSA
end
