section
/-! FUNCTIONAL: the class's wire -/
theorem xi_eq0 {x : Int32} : x = 0 ↔ x.toInt = 0 := by
  rw [show (x.toInt = 0) = (x.toInt = (0 : Int32).toInt) from rfl, Int32.toInt_inj]
section UCA
variable {K : et_K} {G : eg_G} {d d2 th s0 s1 sp ya yb ea b e n m out : Nat} {x y z : Int32} {E F : Nat → Nat} {c i : Nat → Nat}
theorem fc_needEyeY (hH : et_H et_TT K G) (k_th : K th = some 12) (h0 : et_pl (eg_at G th) 0 = some (.ref s0)) (k_s0 : K s0 = some 10) (h5 : et_pl (eg_at G s0) 5 = some (.int (Int32.ofNat e))) (he : e ≤ 3) (h6 : et_pl (eg_at G s0) 6 = some (.ref ea)) (k_ea : K ea = some 40) (hn : n < e) (hE : et_pl (eg_at G ea) n = some (.ref b)) : et_go none d2 128 0 (eg_en (eg_mL 128) [.ref th, .int (Int32.ofNat n)]) [] G 0 0 (xe_Z (fun _ _ => False) K G (fun G' r => G' = G ∧ r = .inl (some (.ref b)))) := by
  refine (fc_needEye hH k_th h0 k_s0 h5 he h6 k_ea).mono (fun u hu => ?_)
  obtain ⟨G', v, c, s, e1, h1, h2, h3, h4⟩ := hu
  refine ⟨G', v, c, s, e1, h1, h2, h3, ?_⟩
  rcases h4 with ⟨h4, -⟩ | ⟨n', b', h4, h7, h8, -, h9⟩
  · exact absurd (xr_n (by omega) hn) h4
  · have e2 : n = n' := (hs_neq (by omega) (by omega)).mp h4
    subst e2
    rw [hE] at h9
    cases h9
    exact h8
theorem fc_needEyeN (hH : et_H et_TT K G) (k_th : K th = some 12) (h0 : et_pl (eg_at G th) 0 = some (.ref s0)) (k_s0 : K s0 = some 10) (h5 : et_pl (eg_at G s0) 5 = some (.int (Int32.ofNat e))) (he : e ≤ 3) (h6 : et_pl (eg_at G s0) 6 = some (.ref ea)) (k_ea : K ea = some 40) (hx : ¬ xr x e) : et_go none d2 128 0 (eg_en (eg_mL 128) [.ref th, .int x]) [] G 0 0 (xe_Z (fun _ _ => False) K G (fun G' r => G' = G ∧ r = .inr 1)) := by
  refine (fc_needEye hH k_th h0 k_s0 h5 he h6 k_ea).mono (fun u hu => ?_)
  obtain ⟨G', v, c, s, e1, h1, h2, h3, h4⟩ := hu
  refine ⟨G', v, c, s, e1, h1, h2, h3, ?_⟩
  rcases h4 with ⟨-, h4⟩ | ⟨n', b', h4, h7, -⟩
  · exact h4
  · exact absurd (by rw [h4]; exact xr_n (by omega) h7) hx
theorem fc_join (hH : et_H et_TT K G) (k_b : K b = some 3) (hb : et_pl (eg_at G b) 0 = some (.int (Int32.ofNat m))) (hm : m < 6) : et_go none d2 38 0 (eg_en (eg_mL 38) [.ref b, .int y, .int z]) [] G 0 0 (xw_Z (fun a j => (a = b ∧ j = 0) ∨ K a = some 15) K G (fun G' r => r = none ∧ et_pl (eg_at G' b) 0 = some (.int (Int32.ofNat (m + 1))))) := by
  rw [show eg_mL 38 = 3 from by decide +kernel]
  show et_go none d2 38 0 [some (.ref b), some (.int y), some (.int z)] [] G 0 0 (xw_Z _ _ _ _)
  have lt_b := (hH.2.2 _ _ k_b).1
  have hX : xf (fun a j => (a = b ∧ j = 0) ∨ K a = some 15) G G := xf.rf
  refine hs_aload (i := 0) (p := 1) (by decide +kernel) rfl ?_
  refine hf_get (T := et_TT) (t := 3) (ci := 1) (f := 0) (p := 4) (by decide +kernel) rfl hH k_b hb ?_
  refine hs_k (x := Int32.ofNat 6) (p := 6) (by decide +kernel) ?_
  refine hs_br2n (c := .ge) (t := 39) (f := 9) (by decide +kernel) (by omega) (by omega) (fun (c6 : 6 ≤ m) => ?_) (fun (c6 : ¬ (6 ≤ m)) => ?_)
  · exact absurd c6 (by omega)
  · refine hs_aload (i := 0) (p := 10) (by decide +kernel) rfl ?_
    refine ht_getr (T := et_TT) (t := 3) (ci := 1) (f := 1) (p := 13) (by decide +kernel) rfl rfl hH k_b (fun a10 k_a10 e10 => ?_)
    have lt_a10 := (hH.2.2 _ _ k_a10).1
    refine hs_aload (i := 0) (p := 14) (by decide +kernel) rfl ?_
    refine hf_get (T := et_TT) (t := 3) (ci := 1) (f := 0) (p := 17) (by decide +kernel) rfl hH k_b hb ?_
    refine hs_iload (i := 1) (p := 18) (by decide +kernel) rfl ?_
    refine hf_ist (T := et_TT) (t := 15) (N := 6) (p := 19) (by decide +kernel) rfl rfl (by decide) hH k_a10 (by omega) (by decide) (fun s hs => absurd hs List.not_mem_nil) (fun G18 hH x18 e18 => ?_)
    have hb := (x18.2 b 0 lt_b (fun h => (hi_ne k_b k_a10 (by decide)) h.1)).trans hb
    have e10 := (x18.2 b 1 lt_b (fun h => (hi_ne k_b k_a10 (by decide)) h.1)).trans e10
    have lt_b := Nat.lt_of_lt_of_le lt_b x18.1
    have lt_a10 := Nat.lt_of_lt_of_le lt_a10 x18.1
    have hX := hX.tr x18 (fun q j hq h => .inr (by rw [h.1]; exact k_a10))
    refine hs_aload (i := 0) (p := 20) (by decide +kernel) rfl ?_
    refine ht_getr (T := et_TT) (t := 3) (ci := 1) (f := 2) (p := 23) (by decide +kernel) rfl rfl hH k_b (fun a20 k_a20 e20 => ?_)
    have lt_a20 := (hH.2.2 _ _ k_a20).1
    refine hs_aload (i := 0) (p := 24) (by decide +kernel) rfl ?_
    refine hf_get (T := et_TT) (t := 3) (ci := 1) (f := 0) (p := 27) (by decide +kernel) rfl hH k_b hb ?_
    refine hs_iload (i := 2) (p := 28) (by decide +kernel) rfl ?_
    refine hf_ist (T := et_TT) (t := 15) (N := 6) (p := 29) (by decide +kernel) rfl rfl (by decide) hH k_a20 (by omega) (by decide) (fun s hs => absurd hs List.not_mem_nil) (fun G28 hH x28 e28 => ?_)
    have hb := (x28.2 b 0 lt_b (fun h => (hi_ne k_b k_a20 (by decide)) h.1)).trans hb
    have e10 := (x28.2 b 1 lt_b (fun h => (hi_ne k_b k_a20 (by decide)) h.1)).trans e10
    have e20 := (x28.2 b 2 lt_b (fun h => (hi_ne k_b k_a20 (by decide)) h.1)).trans e20
    have lt_b := Nat.lt_of_lt_of_le lt_b x28.1
    have lt_a10 := Nat.lt_of_lt_of_le lt_a10 x28.1
    have lt_a20 := Nat.lt_of_lt_of_le lt_a20 x28.1
    have hX := hX.tr x28 (fun q j hq h => .inr (by rw [h.1]; exact k_a20))
    refine hs_aload (i := 0) (p := 30) (by decide +kernel) rfl ?_
    refine hs_dup1 (p := 31) (by decide +kernel) ?_
    refine hf_get (T := et_TT) (t := 3) (ci := 1) (f := 0) (p := 34) (by decide +kernel) rfl hH k_b hb ?_
    refine hs_k (x := Int32.ofNat 1) (p := 35) (by decide +kernel) ?_
    refine hs_iaddn (p := 36) (by decide +kernel) ?_
    refine hf_put (T := et_TT) (t := 3) (ci := 1) (f := 0) (p := 39) (ty := .int) (by decide +kernel) rfl rfl rfl rfl rfl hH k_b (hi_nv (by omega) (by omega)) (fun G36 hH x36 e36 => ?_)
    have e10 := (x36.2 b 1 lt_b (fun h => absurd h.2 (by decide))).trans e10
    have e20 := (x36.2 b 2 lt_b (fun h => absurd h.2 (by decide))).trans e20
    have lt_b := Nat.lt_of_lt_of_le lt_b x36.1
    have lt_a10 := Nat.lt_of_lt_of_le lt_a10 x36.1
    have lt_a20 := Nat.lt_of_lt_of_le lt_a20 x36.1
    have hX := hX.tr x36 (fun q j hq h => .inl h)
    refine hs_vret (by decide +kernel) ?_
    exact ⟨_, _, rfl, hH, hX, rfl, e36⟩
theorem fc_wire (hH : et_H et_TT K G) (k_th : K th = some 12) (h0 : et_pl (eg_at G th) 0 = some (.ref s0)) (k_s0 : K s0 = some 10) (h5 : et_pl (eg_at G s0) 5 = some (.int (Int32.ofNat e))) (he : e ≤ 3) (h6 : et_pl (eg_at G s0) 6 = some (.ref ea)) (k_ea : K ea = some 40) (hn : n < e) (hE : et_pl (eg_at G ea) n = some (.ref b)) (k_b : K b = some 3) (hb : et_pl (eg_at G b) 0 = some (.int (Int32.ofNat m))) (hm : m ≤ 6) (hd : 1 ≤ d2) : et_go none d2 140 0 (eg_en (eg_mL 140) [.ref th, .int (Int32.ofNat n), .int y, .int z]) [] G 0 0 (xe_Z (fun a j => (a = th ∧ (6 ≤ j ∧ j ≤ 7)) ∨ ((a = b ∧ j = 0) ∨ K a = some 15)) K G (fun G' r => (¬ (0 < y.toInt ∧ y.toInt < 65536 ∧ 0 ≤ z.toInt ∧ z.toInt ≤ 2) ∧ r = .inr 0 ∧ et_pl (eg_at G' b) 0 = some (.int (Int32.ofNat m))) ∨ ((0 < y.toInt ∧ y.toInt < 65536 ∧ 0 ≤ z.toInt ∧ z.toInt ≤ 2) ∧ m = 6 ∧ r = .inr 2 ∧ et_pl (eg_at G' b) 0 = some (.int (Int32.ofNat m))) ∨ ((0 < y.toInt ∧ y.toInt < 65536 ∧ 0 ≤ z.toInt ∧ z.toInt ≤ 2) ∧ m < 6 ∧ r = .inl (some (.int (Int32.ofNat m))) ∧ et_pl (eg_at G' b) 0 = some (.int (Int32.ofNat (m + 1)))))) := by
  obtain ⟨d, rfl⟩ : ∃ d, d2 = d + 1 := ⟨d2 - 1, by omega⟩
  have h2 : (Int32.ofNat 2).toInt = 2 := rfl
  rw [show eg_mL 140 = 5 from by decide +kernel]
  show et_go none (d + 1) 140 0 [some (.ref th), some (.int (Int32.ofNat n)), some (.int y), some (.int z), none] [] G 0 0 (xe_Z _ _ _ _)
  have lt_th := (hH.2.2 _ _ k_th).1
  have lt_s0 := (hH.2.2 _ _ k_s0).1
  have lt_ea := (hH.2.2 _ _ k_ea).1
  have lt_b := (hH.2.2 _ _ k_b).1
  have hX : xf (fun a j => (a = th ∧ (6 ≤ j ∧ j ≤ 7)) ∨ ((a = b ∧ j = 0) ∨ K a = some 15)) G G := xf.rf
  refine hs_aload (i := 0) (p := 1) (by decide +kernel) rfl ?_
  refine hs_iload (i := 1) (p := 2) (by decide +kernel) rfl ?_
  refine ht_callv (T := et_TT) (t := 12) (mi := 128) (na := 1) (ci := 10) (lk := 5) (lm := 2) (L0 := eg_en (eg_mL 128) [.ref th, .int (Int32.ofNat n)]) (by decide +kernel) rfl hH k_th rfl rfl rfl rfl rfl (by rw [show eg_mL 128 = 2 from by decide +kernel]; first | done | rfl) ?_
  refine (fc_needEyeY hH k_th h0 k_s0 h5 he h6 k_ea hn hE).mono (fun u hu => ?_)
  obtain ⟨G2, v2, c2, s2, rfl, hH, x2, hP2⟩ := hu
  obtain ⟨rfl, rfl⟩ := hP2
  refine hs_cb ?_
  show et_go none _ 140 5 _ [.ref b] _ _ _ _
  refine hs_astore (i := 4) (p := 7) (by decide +kernel) (Nat.le_of_ble_eq_true rfl) ?_
  refine hs_iload (i := 2) (p := 8) (by decide +kernel) rfl ?_
  refine hs_calls (mi := 135) (na := 1) (lk := 5) (lm := 1) (L0 := eg_en (eg_mL 135) [.int y]) (by decide +kernel) rfl rfl rfl rfl rfl rfl (by rw [show eg_mL 135 = 1 from by decide +kernel]; first | done | rfl) ?_
  refine (fc_needLit hH).mono (fun u hu => ?_)
  obtain ⟨G8, v8, c8, s8, rfl, hH, x8, hP8⟩ := hu
  rcases hP8 with ⟨xl, rfl, rfl⟩ | ⟨xl, rfl, rfl⟩
  · refine hf_cx (by decide +kernel) ?_
    exact ⟨_, _, _, _, rfl, hH, hX, .inl ⟨by omega, rfl, hb⟩⟩
  · refine hs_cb ?_
    show et_go none _ 140 11 _ [] _ _ _ _
    refine hs_iload (i := 2) (p := 12) (by decide +kernel) rfl ?_
    refine hs_br1 (c := .eq) (t := 24) (f := 15) (by decide +kernel) (fun (c12 : y = 0) => ?_) (fun (c12 : ¬ (y = 0)) => ?_)
    · refine hs_thr (x := 0) (lk := 5) (by decide +kernel) rfl rfl ?_
      try simp only [xi_eq0, xi_lt0, xi_ge0, xi_gt0, xi_le0, xi_ltn (k := 1) (by decide), xi_len (k := 1) (by decide), xi_nle (k := 1) (by decide), xi_nlt (k := 1) (by decide), xi_ltn (k := 2) (by decide), xi_len (k := 2) (by decide), xi_nle (k := 2) (by decide), xi_nlt (k := 2) (by decide), xi_ltn (k := 3) (by decide), xi_len (k := 3) (by decide), xi_nle (k := 3) (by decide), xi_nlt (k := 3) (by decide), xi_ltn (k := 6) (by decide), xi_len (k := 6) (by decide), xi_nle (k := 6) (by decide), xi_nlt (k := 6) (by decide), xi_ltn (k := 7) (by decide), xi_len (k := 7) (by decide), xi_nle (k := 7) (by decide), xi_nlt (k := 7) (by decide), xi_ltn (k := 15) (by decide), xi_len (k := 15) (by decide), xi_nle (k := 15) (by decide), xi_nlt (k := 15) (by decide), xi_ltn (k := 16) (by decide), xi_len (k := 16) (by decide), xi_nle (k := 16) (by decide), xi_nlt (k := 16) (by decide), xi_ltn (k := 20) (by decide), xi_len (k := 20) (by decide), xi_nle (k := 20) (by decide), xi_nlt (k := 20) (by decide), xi_ltn (k := 50) (by decide), xi_len (k := 50) (by decide), xi_nle (k := 50) (by decide), xi_nlt (k := 50) (by decide), xi_ltn (k := 60) (by decide), xi_len (k := 60) (by decide), xi_nle (k := 60) (by decide), xi_nlt (k := 60) (by decide), xi_ltn (k := 127) (by decide), xi_len (k := 127) (by decide), xi_nle (k := 127) (by decide), xi_nlt (k := 127) (by decide), xi_ltn (k := 128) (by decide), xi_len (k := 128) (by decide), xi_nle (k := 128) (by decide), xi_nlt (k := 128) (by decide), xi_ltn (k := 200) (by decide), xi_len (k := 200) (by decide), xi_nle (k := 200) (by decide), xi_nlt (k := 200) (by decide), xi_ltn (k := 2000) (by decide), xi_len (k := 2000) (by decide), xi_nle (k := 2000) (by decide), xi_nlt (k := 2000) (by decide), xi_ltn (k := 65535) (by decide), xi_len (k := 65535) (by decide), xi_nle (k := 65535) (by decide), xi_nlt (k := 65535) (by decide), xi_ltn (k := 65536) (by decide), xi_len (k := 65536) (by decide), xi_nle (k := 65536) (by decide), xi_nlt (k := 65536) (by decide)] at c12
      exact ⟨_, _, _, _, rfl, hH, hX, .inl ⟨by omega, rfl, hb⟩⟩
    · refine hs_iload (i := 3) (p := 16) (by decide +kernel) rfl ?_
      refine hs_br1 (c := .lt) (t := 24) (f := 19) (by decide +kernel) (fun (c16 : z < 0) => ?_) (fun (c16 : ¬ (z < 0)) => ?_)
      · refine hs_thr (x := 0) (lk := 5) (by decide +kernel) rfl rfl ?_
        try simp only [xi_eq0, xi_lt0, xi_ge0, xi_gt0, xi_le0, xi_ltn (k := 1) (by decide), xi_len (k := 1) (by decide), xi_nle (k := 1) (by decide), xi_nlt (k := 1) (by decide), xi_ltn (k := 2) (by decide), xi_len (k := 2) (by decide), xi_nle (k := 2) (by decide), xi_nlt (k := 2) (by decide), xi_ltn (k := 3) (by decide), xi_len (k := 3) (by decide), xi_nle (k := 3) (by decide), xi_nlt (k := 3) (by decide), xi_ltn (k := 6) (by decide), xi_len (k := 6) (by decide), xi_nle (k := 6) (by decide), xi_nlt (k := 6) (by decide), xi_ltn (k := 7) (by decide), xi_len (k := 7) (by decide), xi_nle (k := 7) (by decide), xi_nlt (k := 7) (by decide), xi_ltn (k := 15) (by decide), xi_len (k := 15) (by decide), xi_nle (k := 15) (by decide), xi_nlt (k := 15) (by decide), xi_ltn (k := 16) (by decide), xi_len (k := 16) (by decide), xi_nle (k := 16) (by decide), xi_nlt (k := 16) (by decide), xi_ltn (k := 20) (by decide), xi_len (k := 20) (by decide), xi_nle (k := 20) (by decide), xi_nlt (k := 20) (by decide), xi_ltn (k := 50) (by decide), xi_len (k := 50) (by decide), xi_nle (k := 50) (by decide), xi_nlt (k := 50) (by decide), xi_ltn (k := 60) (by decide), xi_len (k := 60) (by decide), xi_nle (k := 60) (by decide), xi_nlt (k := 60) (by decide), xi_ltn (k := 127) (by decide), xi_len (k := 127) (by decide), xi_nle (k := 127) (by decide), xi_nlt (k := 127) (by decide), xi_ltn (k := 128) (by decide), xi_len (k := 128) (by decide), xi_nle (k := 128) (by decide), xi_nlt (k := 128) (by decide), xi_ltn (k := 200) (by decide), xi_len (k := 200) (by decide), xi_nle (k := 200) (by decide), xi_nlt (k := 200) (by decide), xi_ltn (k := 2000) (by decide), xi_len (k := 2000) (by decide), xi_nle (k := 2000) (by decide), xi_nlt (k := 2000) (by decide), xi_ltn (k := 65535) (by decide), xi_len (k := 65535) (by decide), xi_nle (k := 65535) (by decide), xi_nlt (k := 65535) (by decide), xi_ltn (k := 65536) (by decide), xi_len (k := 65536) (by decide), xi_nle (k := 65536) (by decide), xi_nlt (k := 65536) (by decide)] at c12 c16
        exact ⟨_, _, _, _, rfl, hH, hX, .inl ⟨by omega, rfl, hb⟩⟩
      · refine hs_iload (i := 3) (p := 20) (by decide +kernel) rfl ?_
        refine hs_k (x := Int32.ofNat 2) (p := 21) (by decide +kernel) ?_
        refine hs_br2 (c := .le) (t := 32) (f := 24) (by decide +kernel) (fun (c21 : z ≤ Int32.ofNat 2) => ?_) (fun (c21 : ¬ (z ≤ Int32.ofNat 2)) => ?_)
        · refine hs_aload (i := 4) (p := 34) (by decide +kernel) rfl ?_
          refine hf_get (T := et_TT) (t := 3) (ci := 1) (f := 0) (p := 37) (by decide +kernel) rfl hH k_b hb ?_
          refine hs_k (x := Int32.ofNat 6) (p := 39) (by decide +kernel) ?_
          refine hs_br2n (c := .lt) (t := 50) (f := 42) (by decide +kernel) (by omega) (by omega) (fun (c39 : m < 6) => ?_) (fun (c39 : ¬ (m < 6)) => ?_)
          · refine hs_aload (i := 0) (p := 51) (by decide +kernel) rfl ?_
            refine ht_callv (T := et_TT) (t := 12) (mi := 120) (na := 0) (ci := 10) (lk := 5) (lm := 1) (L0 := eg_en (eg_mL 120) [.ref th]) (by decide +kernel) rfl hH k_th rfl rfl rfl rfl rfl (by rw [show eg_mL 120 = 1 from by decide +kernel]; first | done | rfl) ?_
            refine (fc_forget hH k_th).mono (fun u hu => xw_cb hu (fun G51 v51 hH x51 hP51 => ?_))
            have h0 := (x51.2 th 0 lt_th (fun h => absurd h.2 (by decide))).trans h0
            have h5 := (x51.2 s0 5 lt_s0 (fun h => (hi_ne k_s0 k_th (by decide)) h.1)).trans h5
            have h6 := (x51.2 s0 6 lt_s0 (fun h => (hi_ne k_s0 k_th (by decide)) h.1)).trans h6
            have hb := (x51.2 b 0 lt_b (fun h => (hi_ne k_b k_th (by decide)) h.1)).trans hb
            have lt_th := Nat.lt_of_lt_of_le lt_th x51.1
            have lt_s0 := Nat.lt_of_lt_of_le lt_s0 x51.1
            have lt_ea := Nat.lt_of_lt_of_le lt_ea x51.1
            have lt_b := Nat.lt_of_lt_of_le lt_b x51.1
            have hX := hX.tr x51 (fun q j hq h => .inl h)
            obtain rfl := hP51
            show et_go none _ 140 54 _ [] _ _ _ _
            refine hs_aload (i := 4) (p := 56) (by decide +kernel) rfl ?_
            refine hs_iload (i := 2) (p := 57) (by decide +kernel) rfl ?_
            refine hs_iload (i := 3) (p := 58) (by decide +kernel) rfl ?_
            refine ht_callv (T := et_TT) (t := 3) (mi := 38) (na := 2) (ci := 1) (lk := 5) (lm := 3) (L0 := eg_en (eg_mL 38) [.ref b, .int y, .int z]) (by decide +kernel) rfl hH k_b rfl rfl rfl rfl rfl (by rw [show eg_mL 38 = 3 from by decide +kernel]; first | done | rfl) ?_
            refine (fc_join hH k_b hb (by omega)).mono (fun u hu => xw_cb hu (fun G58 v58 hH x58 hP58 => ?_))
            have lt_th := Nat.lt_of_lt_of_le lt_th x58.1
            have lt_s0 := Nat.lt_of_lt_of_le lt_s0 x58.1
            have lt_ea := Nat.lt_of_lt_of_le lt_ea x58.1
            have lt_b := Nat.lt_of_lt_of_le lt_b x58.1
            have hX := hX.tr x58 (fun q j hq h => .inr h)
            obtain ⟨rfl, p1⟩ := hP58
            show et_go none _ 140 61 _ [] _ _ _ _
            refine hs_aload (i := 4) (p := 63) (by decide +kernel) rfl ?_
            refine hf_get (T := et_TT) (t := 3) (ci := 1) (f := 0) (p := 66) (by decide +kernel) rfl hH k_b p1 ?_
            refine hs_k (x := Int32.ofNat 1) (p := 67) (by decide +kernel) ?_
            refine hs_isubn (p := 68) (by decide +kernel) (by omega) ?_
            refine hs_iret (by decide +kernel) ?_
            try simp only [xi_eq0, xi_lt0, xi_ge0, xi_gt0, xi_le0, xi_ltn (k := 1) (by decide), xi_len (k := 1) (by decide), xi_nle (k := 1) (by decide), xi_nlt (k := 1) (by decide), xi_ltn (k := 2) (by decide), xi_len (k := 2) (by decide), xi_nle (k := 2) (by decide), xi_nlt (k := 2) (by decide), xi_ltn (k := 3) (by decide), xi_len (k := 3) (by decide), xi_nle (k := 3) (by decide), xi_nlt (k := 3) (by decide), xi_ltn (k := 6) (by decide), xi_len (k := 6) (by decide), xi_nle (k := 6) (by decide), xi_nlt (k := 6) (by decide), xi_ltn (k := 7) (by decide), xi_len (k := 7) (by decide), xi_nle (k := 7) (by decide), xi_nlt (k := 7) (by decide), xi_ltn (k := 15) (by decide), xi_len (k := 15) (by decide), xi_nle (k := 15) (by decide), xi_nlt (k := 15) (by decide), xi_ltn (k := 16) (by decide), xi_len (k := 16) (by decide), xi_nle (k := 16) (by decide), xi_nlt (k := 16) (by decide), xi_ltn (k := 20) (by decide), xi_len (k := 20) (by decide), xi_nle (k := 20) (by decide), xi_nlt (k := 20) (by decide), xi_ltn (k := 50) (by decide), xi_len (k := 50) (by decide), xi_nle (k := 50) (by decide), xi_nlt (k := 50) (by decide), xi_ltn (k := 60) (by decide), xi_len (k := 60) (by decide), xi_nle (k := 60) (by decide), xi_nlt (k := 60) (by decide), xi_ltn (k := 127) (by decide), xi_len (k := 127) (by decide), xi_nle (k := 127) (by decide), xi_nlt (k := 127) (by decide), xi_ltn (k := 128) (by decide), xi_len (k := 128) (by decide), xi_nle (k := 128) (by decide), xi_nlt (k := 128) (by decide), xi_ltn (k := 200) (by decide), xi_len (k := 200) (by decide), xi_nle (k := 200) (by decide), xi_nlt (k := 200) (by decide), xi_ltn (k := 2000) (by decide), xi_len (k := 2000) (by decide), xi_nle (k := 2000) (by decide), xi_nlt (k := 2000) (by decide), xi_ltn (k := 65535) (by decide), xi_len (k := 65535) (by decide), xi_nle (k := 65535) (by decide), xi_nlt (k := 65535) (by decide), xi_ltn (k := 65536) (by decide), xi_len (k := 65536) (by decide), xi_nle (k := 65536) (by decide), xi_nlt (k := 65536) (by decide)] at c12 c16 c21 c39
            rw [Nat.add_sub_cancel]
            exact ⟨_, _, _, _, rfl, hH, hX, .inr (.inr ⟨by omega, by omega, rfl, p1⟩)⟩
          · refine hs_thr (x := 2) (lk := 5) (by decide +kernel) rfl rfl ?_
            try simp only [xi_eq0, xi_lt0, xi_ge0, xi_gt0, xi_le0, xi_ltn (k := 1) (by decide), xi_len (k := 1) (by decide), xi_nle (k := 1) (by decide), xi_nlt (k := 1) (by decide), xi_ltn (k := 2) (by decide), xi_len (k := 2) (by decide), xi_nle (k := 2) (by decide), xi_nlt (k := 2) (by decide), xi_ltn (k := 3) (by decide), xi_len (k := 3) (by decide), xi_nle (k := 3) (by decide), xi_nlt (k := 3) (by decide), xi_ltn (k := 6) (by decide), xi_len (k := 6) (by decide), xi_nle (k := 6) (by decide), xi_nlt (k := 6) (by decide), xi_ltn (k := 7) (by decide), xi_len (k := 7) (by decide), xi_nle (k := 7) (by decide), xi_nlt (k := 7) (by decide), xi_ltn (k := 15) (by decide), xi_len (k := 15) (by decide), xi_nle (k := 15) (by decide), xi_nlt (k := 15) (by decide), xi_ltn (k := 16) (by decide), xi_len (k := 16) (by decide), xi_nle (k := 16) (by decide), xi_nlt (k := 16) (by decide), xi_ltn (k := 20) (by decide), xi_len (k := 20) (by decide), xi_nle (k := 20) (by decide), xi_nlt (k := 20) (by decide), xi_ltn (k := 50) (by decide), xi_len (k := 50) (by decide), xi_nle (k := 50) (by decide), xi_nlt (k := 50) (by decide), xi_ltn (k := 60) (by decide), xi_len (k := 60) (by decide), xi_nle (k := 60) (by decide), xi_nlt (k := 60) (by decide), xi_ltn (k := 127) (by decide), xi_len (k := 127) (by decide), xi_nle (k := 127) (by decide), xi_nlt (k := 127) (by decide), xi_ltn (k := 128) (by decide), xi_len (k := 128) (by decide), xi_nle (k := 128) (by decide), xi_nlt (k := 128) (by decide), xi_ltn (k := 200) (by decide), xi_len (k := 200) (by decide), xi_nle (k := 200) (by decide), xi_nlt (k := 200) (by decide), xi_ltn (k := 2000) (by decide), xi_len (k := 2000) (by decide), xi_nle (k := 2000) (by decide), xi_nlt (k := 2000) (by decide), xi_ltn (k := 65535) (by decide), xi_len (k := 65535) (by decide), xi_nle (k := 65535) (by decide), xi_nlt (k := 65535) (by decide), xi_ltn (k := 65536) (by decide), xi_len (k := 65536) (by decide), xi_nle (k := 65536) (by decide), xi_nlt (k := 65536) (by decide)] at c12 c16 c21 c39
            exact ⟨_, _, _, _, rfl, hH, hX, .inr (.inl ⟨by omega, by omega, rfl, hb⟩)⟩
        · refine hs_thr (x := 0) (lk := 5) (by decide +kernel) rfl rfl ?_
          try simp only [xi_eq0, xi_lt0, xi_ge0, xi_gt0, xi_le0, xi_ltn (k := 1) (by decide), xi_len (k := 1) (by decide), xi_nle (k := 1) (by decide), xi_nlt (k := 1) (by decide), xi_ltn (k := 2) (by decide), xi_len (k := 2) (by decide), xi_nle (k := 2) (by decide), xi_nlt (k := 2) (by decide), xi_ltn (k := 3) (by decide), xi_len (k := 3) (by decide), xi_nle (k := 3) (by decide), xi_nlt (k := 3) (by decide), xi_ltn (k := 6) (by decide), xi_len (k := 6) (by decide), xi_nle (k := 6) (by decide), xi_nlt (k := 6) (by decide), xi_ltn (k := 7) (by decide), xi_len (k := 7) (by decide), xi_nle (k := 7) (by decide), xi_nlt (k := 7) (by decide), xi_ltn (k := 15) (by decide), xi_len (k := 15) (by decide), xi_nle (k := 15) (by decide), xi_nlt (k := 15) (by decide), xi_ltn (k := 16) (by decide), xi_len (k := 16) (by decide), xi_nle (k := 16) (by decide), xi_nlt (k := 16) (by decide), xi_ltn (k := 20) (by decide), xi_len (k := 20) (by decide), xi_nle (k := 20) (by decide), xi_nlt (k := 20) (by decide), xi_ltn (k := 50) (by decide), xi_len (k := 50) (by decide), xi_nle (k := 50) (by decide), xi_nlt (k := 50) (by decide), xi_ltn (k := 60) (by decide), xi_len (k := 60) (by decide), xi_nle (k := 60) (by decide), xi_nlt (k := 60) (by decide), xi_ltn (k := 127) (by decide), xi_len (k := 127) (by decide), xi_nle (k := 127) (by decide), xi_nlt (k := 127) (by decide), xi_ltn (k := 128) (by decide), xi_len (k := 128) (by decide), xi_nle (k := 128) (by decide), xi_nlt (k := 128) (by decide), xi_ltn (k := 200) (by decide), xi_len (k := 200) (by decide), xi_nle (k := 200) (by decide), xi_nlt (k := 200) (by decide), xi_ltn (k := 2000) (by decide), xi_len (k := 2000) (by decide), xi_nle (k := 2000) (by decide), xi_nlt (k := 2000) (by decide), xi_ltn (k := 65535) (by decide), xi_len (k := 65535) (by decide), xi_nle (k := 65535) (by decide), xi_nlt (k := 65535) (by decide), xi_ltn (k := 65536) (by decide), xi_len (k := 65536) (by decide), xi_nle (k := 65536) (by decide), xi_nlt (k := 65536) (by decide)] at c12 c16 c21
          exact ⟨_, _, _, _, rfl, hH, hX, .inl ⟨by omega, rfl, hb⟩⟩
theorem fc_wireN (hH : et_H et_TT K G) (k_th : K th = some 12) (h0 : et_pl (eg_at G th) 0 = some (.ref s0)) (k_s0 : K s0 = some 10) (h5 : et_pl (eg_at G s0) 5 = some (.int (Int32.ofNat e))) (he : e ≤ 3) (h6 : et_pl (eg_at G s0) 6 = some (.ref ea)) (k_ea : K ea = some 40) (hx : ¬ xr x e) (hd : 1 ≤ d2) : et_go none d2 140 0 (eg_en (eg_mL 140) [.ref th, .int x, .int y, .int z]) [] G 0 0 (xe_Z (fun _ _ => False) K G (fun _ r => r = .inr 1)) := by
  obtain ⟨d, rfl⟩ : ∃ d, d2 = d + 1 := ⟨d2 - 1, by omega⟩
  rw [show eg_mL 140 = 5 from by decide +kernel]
  show et_go none (d + 1) 140 0 [some (.ref th), some (.int x), some (.int y), some (.int z), none] [] G 0 0 (xe_Z _ _ _ _)
  have lt_th := (hH.2.2 _ _ k_th).1
  have lt_s0 := (hH.2.2 _ _ k_s0).1
  have lt_ea := (hH.2.2 _ _ k_ea).1
  have hX : xf (fun _ _ => False) G G := xf.rf
  refine hs_aload (i := 0) (p := 1) (by decide +kernel) rfl ?_
  refine hs_iload (i := 1) (p := 2) (by decide +kernel) rfl ?_
  refine ht_callv (T := et_TT) (t := 12) (mi := 128) (na := 1) (ci := 10) (lk := 5) (lm := 2) (L0 := eg_en (eg_mL 128) [.ref th, .int x]) (by decide +kernel) rfl hH k_th rfl rfl rfl rfl rfl (by rw [show eg_mL 128 = 2 from by decide +kernel]; first | done | rfl) ?_
  refine (fc_needEyeN hH k_th h0 k_s0 h5 he h6 k_ea hx).mono (fun u hu => ?_)
  obtain ⟨G2, v2, c2, s2, rfl, hH, x2, hP2⟩ := hu
  obtain ⟨rfl, rfl⟩ := hP2
  refine hf_cx (by decide +kernel) ?_
  exact ⟨_, _, _, _, rfl, hH, hX, rfl⟩
theorem fh_wire (hH : et_H et_TT K G) (k_th : K th = some 12) (h0 : et_pl (eg_at G th) 0 = some (.ref s0)) (k_s0 : K s0 = some 10) (h5 : et_pl (eg_at G s0) 5 = some (.int (Int32.ofNat e))) (he : e ≤ 3) (h6 : et_pl (eg_at G s0) 6 = some (.ref ea)) (k_ea : K ea = some 40) (hn : n < e) (hE : et_pl (eg_at G ea) n = some (.ref b)) (k_b : K b = some 3) (hb : et_pl (eg_at G b) 0 = some (.int (Int32.ofNat m))) (hm : m ≤ 6) (k_out : K out = some 31) (hd : 2 ≤ d2) : et_go none d2 7 0 (eg_en (eg_mL 7) [.ref th, .int (Int32.ofNat n), .int y, .int z, .ref out]) [] G 0 0 (xe_Z (fun a j => ((a = th ∧ (6 ≤ j ∧ j ≤ 7)) ∨ ((a = b ∧ j = 0) ∨ K a = some 15)) ∨ (a = out ∧ j = 0)) K G (fun G' r => (¬ (0 < y.toInt ∧ y.toInt < 65536 ∧ 0 ≤ z.toInt ∧ z.toInt ≤ 2) ∧ r = .inl (some (.int (Int32.ofNat 2))) ∧ et_pl (eg_at G' b) 0 = some (.int (Int32.ofNat m))) ∨ ((0 < y.toInt ∧ y.toInt < 65536 ∧ 0 ≤ z.toInt ∧ z.toInt ≤ 2) ∧ m = 6 ∧ r = .inl (some (.int (Int32.ofNat 3))) ∧ et_pl (eg_at G' b) 0 = some (.int (Int32.ofNat m))) ∨ ((0 < y.toInt ∧ y.toInt < 65536 ∧ 0 ≤ z.toInt ∧ z.toInt ≤ 2) ∧ m < 6 ∧ r = .inl (some (.int (Int32.ofNat 0))) ∧ et_pl (eg_at G' out) 0 = some (.long (Int32.ofNat m).toInt64) ∧ et_pl (eg_at G' b) 0 = some (.int (Int32.ofNat (m + 1)))))) := by
  obtain ⟨d, rfl⟩ : ∃ d, d2 = d + 2 := ⟨d2 - 2, by omega⟩
  rw [show eg_mL 7 = 6 from by decide +kernel]
  show et_go none (d + 2) 7 0 [some (.ref th), some (.int (Int32.ofNat n)), some (.int y), some (.int z), some (.ref out), none] [] G 0 0 (xe_Z _ _ _ _)
  have lt_th := (hH.2.2 _ _ k_th).1
  have lt_s0 := (hH.2.2 _ _ k_s0).1
  have lt_ea := (hH.2.2 _ _ k_ea).1
  have lt_b := (hH.2.2 _ _ k_b).1
  have lt_out := (hH.2.2 _ _ k_out).1
  have hX : xf (fun a j => ((a = th ∧ (6 ≤ j ∧ j ≤ 7)) ∨ ((a = b ∧ j = 0) ∨ K a = some 15)) ∨ (a = out ∧ j = 0)) G G := xf.rf
  refine hs_aload (i := 4) (p := 2) (by decide +kernel) rfl ?_
  refine hs_k (x := Int32.ofNat 0) (p := 3) (by decide +kernel) ?_
  refine hs_aload (i := 0) (p := 4) (by decide +kernel) rfl ?_
  refine hs_iload (i := 1) (p := 5) (by decide +kernel) rfl ?_
  refine hs_iload (i := 2) (p := 6) (by decide +kernel) rfl ?_
  refine hs_iload (i := 3) (p := 7) (by decide +kernel) rfl ?_
  refine ht_callv (T := et_TT) (t := 12) (mi := 140) (na := 3) (ci := 10) (lk := 6) (lm := 5) (L0 := eg_en (eg_mL 140) [.ref th, .int (Int32.ofNat n), .int y, .int z]) (by decide +kernel) rfl hH k_th rfl rfl rfl rfl rfl (by rw [show eg_mL 140 = 5 from by decide +kernel]; first | done | rfl) ?_
  refine (fc_wire hH k_th h0 k_s0 h5 he h6 k_ea hn hE k_b hb hm (by omega)).mono (fun u hu => ?_)
  obtain ⟨G7, v7, c7, s7, rfl, hH, x7, hP7⟩ := hu
  have lt_th := Nat.lt_of_lt_of_le lt_th x7.1
  have lt_s0 := Nat.lt_of_lt_of_le lt_s0 x7.1
  have lt_ea := Nat.lt_of_lt_of_le lt_ea x7.1
  have lt_b := Nat.lt_of_lt_of_le lt_b x7.1
  have lt_out := Nat.lt_of_lt_of_le lt_out x7.1
  have hX := hX.tr x7 (fun q j hq h => .inl h)
  rcases hP7 with ⟨xl, rfl, p2⟩ | ⟨xl, m6, rfl, p2⟩ | ⟨xl, m6, rfl, p2⟩
  · refine hs_ch (h := 19) (i := 5) (n := 2) (hh := (eg_mh 7).getD []) (by decide +kernel) ⟨by decide +kernel, by decide +kernel⟩ (Nat.le_of_ble_eq_true rfl) ?_
    show et_go none _ 7 21 [some (.ref th), some (.int (Int32.ofNat n)), some (.int y), some (.int z), some (.ref out), none] [] _ _ _ _
    refine hs_k (x := Int32.ofNat 2) (p := 22) (by decide +kernel) ?_
    refine hs_iret (by decide +kernel) ?_
    exact ⟨_, _, _, _, rfl, hH, hX, .inl ⟨xl, rfl, p2⟩⟩
  · refine hs_ch (h := 23) (i := 5) (n := 2) (hh := (eg_mh 7).getD []) (by decide +kernel) ⟨by decide +kernel, by decide +kernel⟩ (Nat.le_of_ble_eq_true rfl) ?_
    show et_go none _ 7 25 [some (.ref th), some (.int (Int32.ofNat n)), some (.int y), some (.int z), some (.ref out), none] [] _ _ _ _
    refine hs_k (x := Int32.ofNat 3) (p := 26) (by decide +kernel) ?_
    refine hs_iret (by decide +kernel) ?_
    exact ⟨_, _, _, _, rfl, hH, hX, .inr (.inl ⟨xl, m6, rfl, p2⟩)⟩
  · refine hs_cb ?_
    show et_go none _ 7 10 _ [.int (Int32.ofNat m), .int (Int32.ofNat 0), .ref out] _ _ _ _
    refine hs_i2l (p := 11) (by decide +kernel) ?_
    refine hf_lst (T := et_TT) (t := 31) (N := 1) (p := 12) (by decide +kernel) rfl rfl hH k_out (by omega) (by decide) (fun G11 hH x11 e11 => ?_)
    have p2 := (x11.2 b 0 lt_b (fun h => (hi_ne k_b k_out (by decide)) h.1)).trans p2
    have lt_th := Nat.lt_of_lt_of_le lt_th x11.1
    have lt_s0 := Nat.lt_of_lt_of_le lt_s0 x11.1
    have lt_ea := Nat.lt_of_lt_of_le lt_ea x11.1
    have lt_b := Nat.lt_of_lt_of_le lt_b x11.1
    have lt_out := Nat.lt_of_lt_of_le lt_out x11.1
    have hX := hX.tr x11 (fun q j hq h => .inr h)
    refine hs_goto (p := 27) (by decide +kernel) ?_
    refine hs_k (x := Int32.ofNat 0) (p := 28) (by decide +kernel) ?_
    refine hs_iret (by decide +kernel) ?_
    exact ⟨_, _, _, _, rfl, hH, hX, .inr (.inr ⟨xl, m6, rfl, e11, p2⟩)⟩
theorem fh_wireN (hH : et_H et_TT K G) (k_th : K th = some 12) (h0 : et_pl (eg_at G th) 0 = some (.ref s0)) (k_s0 : K s0 = some 10) (h5 : et_pl (eg_at G s0) 5 = some (.int (Int32.ofNat e))) (he : e ≤ 3) (h6 : et_pl (eg_at G s0) 6 = some (.ref ea)) (k_ea : K ea = some 40) (hx : ¬ xr x e) (k_out : K out = some 31) (hd : 2 ≤ d2) : et_go none d2 7 0 (eg_en (eg_mL 7) [.ref th, .int x, .int y, .int z, .ref out]) [] G 0 0 (xe_Z (fun _ _ => False) K G (fun _ r => r = .inl (some (.int (Int32.ofNat 1))))) := by
  obtain ⟨d, rfl⟩ : ∃ d, d2 = d + 2 := ⟨d2 - 2, by omega⟩
  rw [show eg_mL 7 = 6 from by decide +kernel]
  show et_go none (d + 2) 7 0 [some (.ref th), some (.int x), some (.int y), some (.int z), some (.ref out), none] [] G 0 0 (xe_Z _ _ _ _)
  have lt_th := (hH.2.2 _ _ k_th).1
  have lt_s0 := (hH.2.2 _ _ k_s0).1
  have lt_ea := (hH.2.2 _ _ k_ea).1
  have lt_out := (hH.2.2 _ _ k_out).1
  have hX : xf (fun _ _ => False) G G := xf.rf
  refine hs_aload (i := 4) (p := 2) (by decide +kernel) rfl ?_
  refine hs_k (x := Int32.ofNat 0) (p := 3) (by decide +kernel) ?_
  refine hs_aload (i := 0) (p := 4) (by decide +kernel) rfl ?_
  refine hs_iload (i := 1) (p := 5) (by decide +kernel) rfl ?_
  refine hs_iload (i := 2) (p := 6) (by decide +kernel) rfl ?_
  refine hs_iload (i := 3) (p := 7) (by decide +kernel) rfl ?_
  refine ht_callv (T := et_TT) (t := 12) (mi := 140) (na := 3) (ci := 10) (lk := 6) (lm := 5) (L0 := eg_en (eg_mL 140) [.ref th, .int x, .int y, .int z]) (by decide +kernel) rfl hH k_th rfl rfl rfl rfl rfl (by rw [show eg_mL 140 = 5 from by decide +kernel]; first | done | rfl) ?_
  refine (fc_wireN hH k_th h0 k_s0 h5 he h6 k_ea hx (by omega)).mono (fun u hu => ?_)
  obtain ⟨G7, v7, c7, s7, rfl, hH, x7, hP7⟩ := hu
  obtain rfl := hP7
  have hX := hX.tr x7 (fun q j hq h => h)
  refine hs_ch (h := 15) (i := 5) (n := 2) (hh := (eg_mh 7).getD []) (by decide +kernel) ⟨by decide +kernel, by decide +kernel⟩ (Nat.le_of_ble_eq_true rfl) ?_
  show et_go none _ 7 17 [some (.ref th), some (.int x), some (.int y), some (.int z), some (.ref out), none] [] _ _ _ _
  refine hs_k (x := Int32.ofNat 1) (p := 18) (by decide +kernel) ?_
  refine hs_iret (by decide +kernel) ?_
  exact ⟨_, _, _, _, rfl, hH, hX, rfl⟩
theorem fh_wireE (hH : et_H et_TT K G) (k_th : K th = some 12) (k_out : K out = some 31) (h0 : et_pl (eg_at G th) 0 = some (.ref s0)) (k_s0 : K s0 = some 10) (h5 : et_pl (eg_at G s0) 5 = some (.int (Int32.ofNat e))) (he : e ≤ 3) (ht : eyt K sp ya yb E F) (hp : eyp G th s0 s1 sp ya yb E F) (hv : ev G E F c i) (hc : ∀ k, c k ≤ 400) (hd : 2 ≤ d2) : et_go none d2 7 0 (eg_en (eg_mL 7) [.ref th, .int x, .int y, .int z, .ref out]) [] G 0 0 (fun u => (¬ xr x e ∧ u.1 = .inl (some (.int (Int32.ofNat 1))) ∧ ev u.2.1 E F c i) ∨ ∃ n, x = Int32.ofNat n ∧ n < e ∧ c (45 + 23 * n) ≤ 6 ∧ ((¬ (0 < y.toInt ∧ y.toInt < 65536 ∧ 0 ≤ z.toInt ∧ z.toInt ≤ 2) ∧ u.1 = .inl (some (.int (Int32.ofNat 2))) ∧ ev u.2.1 E F c i) ∨ ((0 < y.toInt ∧ y.toInt < 65536 ∧ 0 ≤ z.toInt ∧ z.toInt ≤ 2) ∧ c (45 + 23 * n) = 6 ∧ u.1 = .inl (some (.int (Int32.ofNat 3))) ∧ ev u.2.1 E F c i) ∨ ((0 < y.toInt ∧ y.toInt < 65536 ∧ 0 ≤ z.toInt ∧ z.toInt ≤ 2) ∧ c (45 + 23 * n) < 6 ∧ u.1 = .inl (some (.int (Int32.ofNat 0))) ∧ et_pl (eg_at u.2.1 out) 0 = some (.long (Int32.ofNat (c (45 + 23 * n))).toInt64) ∧ ev u.2.1 E F (rc_up c (45 + 23 * n) (c (45 + 23 * n) + 1)) i))) := by
  by_cases hx : xr x e
  · obtain ⟨n, rfl, hn⟩ : ∃ n : Nat, x = Int32.ofNat n ∧ n < e := by
      obtain ⟨n, e1, e2⟩ := xi_nn (x := x) (by rw [xi_lt0]; have := hx.1; omega)
      refine ⟨n, e1, ?_⟩
      have := hx.2
      rw [e1, hs_nint e2] at this
      omega
    have hn3 : n < 3 := by omega
    have k_b := (ht.2.1 n hn3).1
    have hm : c (45 + 23 * n) ≤ 6 := Int.ofNat_le.mp (hf_bd (t := 3) hH k_b rfl rfl (hv n hn3).1 (hc _))
    refine (fh_wire (b := E n) (m := c (45 + 23 * n)) (y := y) (z := z) hH k_th h0 k_s0 h5 he hp.1.1 ht.1.1 hn (hp.2 n hn3).1 k_b (hv n hn3).1 hm k_out hd).mono (fun u hu => ?_)
    obtain ⟨G', v, c1, s1, rfl, hH2, hxf, hP⟩ := hu
    have hS : ∀ a, (((a = th ∧ (6 ≤ 0 ∧ 0 ≤ 7)) ∨ ((a = E n ∧ 0 = 0) ∨ K a = some 15)) ∨ (a = out ∧ 0 = 0)) → ¬ a = E n → ¬ K a = some 3 := fun a h hne => by
      rcases h with (h | h | h) | h
      · exact absurd h.2.1 (by decide)
      · exact absurd h.1 hne
      · rw [h]; decide
      · rw [h.1, k_out]; decide
    have key : ∀ v, et_pl (eg_at G' (E n)) 0 = some (.int (Int32.ofNat v)) → ev G' E F (rc_up c (45 + 23 * n) v) i := fun v hv2 => hv.up ht hH hxf hn3 hS hv2
    refine .inr ⟨n, rfl, hn, hm, ?_⟩
    have co : ev G' E F (rc_up c (45 + 23 * n) (c (45 + 23 * n))) i → ev G' E F c i := fun h => h.co (fun k hk => by
      unfold rc_up
      split
      · rename_i e1; rw [e1]
      · rfl) (fun _ _ => rfl)
    rcases hP with ⟨h1, h2, h3⟩ | ⟨h1, h2, h3, h4⟩ | ⟨h1, h2, h3, h4, h7⟩
    · exact .inl ⟨h1, h2, co (key _ h3)⟩
    · exact .inr (.inl ⟨h1, h2, h3, co (key _ h4)⟩)
    · exact .inr (.inr ⟨h1, h2, h3, h4, key _ h7⟩)
  · refine (fh_wireN (y := y) (z := z) hH k_th h0 k_s0 h5 he hp.1.1 ht.1.1 hx k_out hd).mono (fun u hu => ?_)
    obtain ⟨G', v, c1, s1, rfl, hH2, hxf, hP⟩ := hu
    exact .inl ⟨hx, hP, hv.xs ht hH hxf (fun _ h => h.elim)⟩
end UCA
end
section
/-! FUNCTIONAL: takeFrom, image, back: the numbers of WIRES -/
/-- of the first k EYES the numbers are copied -/
def etk (E F : Nat → Nat) (g : Nat → Option Value) (k : Nat) (G : eg_G) : Prop := ∀ n, n < 3 → (n < k → et_pl (eg_at G (E n)) 0 = g n) ∧ et_pl (eg_at G (F n)) 0 = g n
theorem etk.fr {K : et_K} {G G' : eg_G} {M : et_M} {E F : Nat → Nat} {g : Nat → Option Value} {k : Nat} (h : etk E F g k G) (kE : ∀ n, n < 3 → K (E n) = some 3) (kF : ∀ n, n < 3 → K (F n) = some 3) (hf : et_fr M K G G') (hm : et_mm M 3 0 = false) : etk E F g k G' := fun n hn => ⟨fun hk => (hf.2 _ 3 (kE n hn) 0 hm).trans ((h n hn).1 hk), (hf.2 _ 3 (kF n hn) 0 hm).trans (h n hn).2⟩
theorem etk.st {K : et_K} {G G' : eg_G} {E F : Nat → Nat} {g : Nat → Option Value} {k : Nat} (h : etk E F g k G) (kE : ∀ n, n < 3 → K (E n) = some 3) (kF : ∀ n, n < 3 → K (F n) = some 3) (hin : ∀ n m, n < 3 → m < 3 → E n = E m → n = m) (hdj : ∀ n m, n < 3 → m < 3 → ¬ E n = F m) (hk : k < 3) (h1 : et_pl (eg_at G' (E k)) 0 = et_pl (eg_at G (F k)) 0) (hh : hole K (E k) G G') : etk E F g (k + 1) G' := fun n hn => by
  refine ⟨fun hn2 => ?_, (hh _ (kF n hn) (fun e => hdj k n hk hn e.symm)).trans (h n hn).2⟩
  by_cases e : n = k
  · subst e
    exact h1.trans (h n hn).2
  · exact (hh _ (kE n hn) (fun e2 => e (hin n k hn hk e2))).trans ((h n hn).1 (by omega))
section UDA
variable {d2 d a s ya yb th s0 s1 sp h : Nat} {E F : Nat → Nat} {g : Nat → Option Value} {c i : Nat → Nat}
theorem pm_u5 {i : Nat} {K : et_K} {G : eg_G} (hH : et_H et_TT K G) (k_a : K a = some 10) (k_s : K s = some 10) (k_ya : K ya = some 40) (k_yb : K yb = some 40) (kE : ∀ n, n < 3 → K (E n) = some 3) (kF : ∀ n, n < 3 → K (F n) = some 3) (hya : et_pl (eg_at G a) 6 = some (.ref ya)) (hyb : et_pl (eg_at G s) 6 = some (.ref yb)) (hE : ∀ n, n < 3 → et_pl (eg_at G ya) n = some (.ref (E n))) (hF : ∀ n, n < 3 → et_pl (eg_at G yb) n = some (.ref (F n))) (hin : ∀ n m, n < 3 → m < 3 → E n = E m → n = m) (hdj : ∀ n m, n < 3 → m < 3 → ¬ E n = F m) (hq : etk E F g 3 G) (hi : i ≤ 6) : et_go none (d + 2) 104 158 [some (.ref a), some (.ref s), some (.int (Int32.ofNat i))] [] G 0 0 (fun u => etk E F g 3 u.2.1) := by
  induction hm : 6 - i using Nat.strongRecOn generalizing i K G with
  | _ z ih =>
    refine hs_iload (i := 2) (p := 159) (by decide +kernel) rfl ?_
    refine hs_k (x := Int32.ofNat 6) (p := 161) (by decide +kernel) ?_
    refine hs_br2n (c := .ge) (t := 182) (f := 164) (by decide +kernel) (by omega) (by omega) (fun (c161 : 6 ≤ i) => ?_) (fun (c161 : ¬ (6 ≤ i)) => ?_)
    · refine hs_vret (by decide +kernel) ?_
      exact hq
    · refine hs_aload (i := 0) (p := 165) (by decide +kernel) rfl ?_
      refine ht_getr (T := et_TT) (t := 10) (ci := 8) (f := 10) (p := 168) (by decide +kernel) rfl rfl hH k_a (fun a165 k_a165 e165 => ?_)
      refine hs_iload (i := 2) (p := 169) (by decide +kernel) rfl ?_
      refine hs_aload (i := 1) (p := 170) (by decide +kernel) rfl ?_
      refine ht_getr (T := et_TT) (t := 10) (ci := 8) (f := 10) (p := 173) (by decide +kernel) rfl rfl hH k_s (fun a170 k_a170 e170 => ?_)
      refine hs_iload (i := 2) (p := 174) (by decide +kernel) rfl ?_
      refine ht_aald (T := et_TT) (t := 39) (N := 6) (kd := 8) (m := 5) (p := 175) (by decide +kernel) rfl rfl hH k_a170 (by omega) (by omega) (by decide) (fun v174 h174 e174 => ?_)
      refine ht_aasa (t := 39) (u := 2) (N := 6) (kd := 8) (cj := 0) (p := 176) (by decide +kernel) ⟨rfl, rfl⟩ (by decide +kernel) hH k_a165 (by omega) h174 (fun G175 hH f175 e175 he => ?_)
      have hya := ((hb_wk f175 (by omega)).2 a 10 k_a 6 rfl).trans hya
      have hyb := ((hb_wk f175 (by omega)).2 s 10 k_s 6 rfl).trans hyb
      have hE := fun (n : Nat) (hn : n < 3) => ((hb_wk f175 (by omega)).2 ya 40 k_ya n (no_mm rfl)).trans (hE n hn)
      have hF := fun (n : Nat) (hn : n < 3) => ((hb_wk f175 (by omega)).2 yb 40 k_yb n (no_mm rfl)).trans (hF n hn)
      have hq := hq.fr kE kF (hb_wk f175 (by omega)) rfl
      refine hs_iinc1 (i := 2) (p := 179) (by decide +kernel) rfl (Nat.le_of_ble_eq_true rfl) ?_
      refine hs_goto (p := 158) (by decide +kernel) ?_
      show et_go none (d + 2) 104 158 [some (.ref a), some (.ref s), some (.int (Int32.ofNat (i + 1)))] [] _ 0 0 _
      exact ih (6 - (i + 1)) (by omega) (i := (i + 1)) hH k_a k_s k_ya k_yb kE kF hya hyb hE hF hq (by omega) rfl
theorem pm_u4 {i : Nat} {K : et_K} {G : eg_G} (hH : et_H et_TT K G) (k_a : K a = some 10) (k_s : K s = some 10) (k_ya : K ya = some 40) (k_yb : K yb = some 40) (kE : ∀ n, n < 3 → K (E n) = some 3) (kF : ∀ n, n < 3 → K (F n) = some 3) (hya : et_pl (eg_at G a) 6 = some (.ref ya)) (hyb : et_pl (eg_at G s) 6 = some (.ref yb)) (hE : ∀ n, n < 3 → et_pl (eg_at G ya) n = some (.ref (E n))) (hF : ∀ n, n < 3 → et_pl (eg_at G yb) n = some (.ref (F n))) (hin : ∀ n m, n < 3 → m < 3 → E n = E m → n = m) (hdj : ∀ n m, n < 3 → m < 3 → ¬ E n = F m) (hq : etk E F g 3 G) (hi : i ≤ 4) : et_go none (d + 2) 104 125 [some (.ref a), some (.ref s), some (.int (Int32.ofNat i))] [] G 0 0 (fun u => etk E F g 3 u.2.1) := by
  induction hm : 4 - i using Nat.strongRecOn generalizing i K G with
  | _ z ih =>
    refine hs_iload (i := 2) (p := 126) (by decide +kernel) rfl ?_
    refine hs_k (x := Int32.ofNat 4) (p := 127) (by decide +kernel) ?_
    refine hs_br2n (c := .ge) (t := 148) (f := 130) (by decide +kernel) (by omega) (by omega) (fun (c127 : 4 ≤ i) => ?_) (fun (c127 : ¬ (4 ≤ i)) => ?_)
    · refine hs_aload (i := 0) (p := 149) (by decide +kernel) rfl ?_
      refine hs_aload (i := 1) (p := 150) (by decide +kernel) rfl ?_
      refine ht_getn (T := et_TT) (t := 10) (ci := 8) (f := 9) (p := 153) (by decide +kernel) rfl rfl hH k_s (fun c150 h150 e150 => ?_)
      refine ht_puta (T := et_TT) (t := 10) (ci := 8) (f := 9) (p := 156) (ty := .int) (by decide +kernel) rfl rfl rfl rfl (by decide +kernel) hH k_a (hi_nv (by omega) (by omega)) (fun G153 hH f153 e153 he => ?_)
      have hya := (f153.2 a 10 k_a 6 rfl).trans hya
      have hyb := (f153.2 s 10 k_s 6 rfl).trans hyb
      have hE := fun (n : Nat) (hn : n < 3) => (f153.2 ya 40 k_ya n (no_mm rfl)).trans (hE n hn)
      have hF := fun (n : Nat) (hn : n < 3) => (f153.2 yb 40 k_yb n (no_mm rfl)).trans (hF n hn)
      have hq := hq.fr kE kF f153 rfl
      refine hs_k (x := Int32.ofNat 0) (p := 157) (by decide +kernel) ?_
      refine hs_istore (i := 2) (p := 158) (by decide +kernel) (Nat.le_of_ble_eq_true rfl) ?_
      show et_go none (d + 2) 104 158 [some (.ref a), some (.ref s), some (.int (Int32.ofNat 0))] [] _ 0 0 _
      exact pm_u5 (i := 0) hH k_a k_s k_ya k_yb kE kF hya hyb hE hF hin hdj hq (by omega)
    · refine hs_aload (i := 0) (p := 131) (by decide +kernel) rfl ?_
      refine ht_getr (T := et_TT) (t := 10) (ci := 8) (f := 8) (p := 134) (by decide +kernel) rfl rfl hH k_a (fun a131 k_a131 e131 => ?_)
      refine hs_iload (i := 2) (p := 135) (by decide +kernel) rfl ?_
      refine hs_aload (i := 1) (p := 136) (by decide +kernel) rfl ?_
      refine ht_getr (T := et_TT) (t := 10) (ci := 8) (f := 8) (p := 139) (by decide +kernel) rfl rfl hH k_s (fun a136 k_a136 e136 => ?_)
      refine hs_iload (i := 2) (p := 140) (by decide +kernel) rfl ?_
      refine ht_aald (T := et_TT) (t := 38) (N := 4) (kd := 7) (m := 3) (p := 141) (by decide +kernel) rfl rfl hH k_a136 (by omega) (by omega) (by decide) (fun v140 h140 e140 => ?_)
      refine ht_aasa (t := 38) (u := 11) (N := 4) (kd := 7) (cj := 9) (p := 142) (by decide +kernel) ⟨rfl, rfl⟩ (by decide +kernel) hH k_a131 (by omega) h140 (fun G141 hH f141 e141 he => ?_)
      have hya := ((hb_wk f141 (by omega)).2 a 10 k_a 6 rfl).trans hya
      have hyb := ((hb_wk f141 (by omega)).2 s 10 k_s 6 rfl).trans hyb
      have hE := fun (n : Nat) (hn : n < 3) => ((hb_wk f141 (by omega)).2 ya 40 k_ya n (no_mm rfl)).trans (hE n hn)
      have hF := fun (n : Nat) (hn : n < 3) => ((hb_wk f141 (by omega)).2 yb 40 k_yb n (no_mm rfl)).trans (hF n hn)
      have hq := hq.fr kE kF (hb_wk f141 (by omega)) rfl
      refine hs_iinc1 (i := 2) (p := 145) (by decide +kernel) rfl (Nat.le_of_ble_eq_true rfl) ?_
      refine hs_goto (p := 125) (by decide +kernel) ?_
      show et_go none (d + 2) 104 125 [some (.ref a), some (.ref s), some (.int (Int32.ofNat (i + 1)))] [] _ 0 0 _
      exact ih (4 - (i + 1)) (by omega) (i := (i + 1)) hH k_a k_s k_ya k_yb kE kF hya hyb hE hF hq (by omega) rfl
theorem pm_u3 {i : Nat} {K : et_K} {G : eg_G} (hH : et_H et_TT K G) (k_a : K a = some 10) (k_s : K s = some 10) (k_ya : K ya = some 40) (k_yb : K yb = some 40) (kE : ∀ n, n < 3 → K (E n) = some 3) (kF : ∀ n, n < 3 → K (F n) = some 3) (hya : et_pl (eg_at G a) 6 = some (.ref ya)) (hyb : et_pl (eg_at G s) 6 = some (.ref yb)) (hE : ∀ n, n < 3 → et_pl (eg_at G ya) n = some (.ref (E n))) (hF : ∀ n, n < 3 → et_pl (eg_at G yb) n = some (.ref (F n))) (hin : ∀ n m, n < 3 → m < 3 → E n = E m → n = m) (hdj : ∀ n m, n < 3 → m < 3 → ¬ E n = F m) (hq : etk E F g i G) (hi : i ≤ 3) : et_go none (d + 2) 104 89 [some (.ref a), some (.ref s), some (.int (Int32.ofNat i))] [] G 0 0 (fun u => etk E F g 3 u.2.1) := by
  induction hm : 3 - i using Nat.strongRecOn generalizing i K G with
  | _ z ih =>
    refine hs_iload (i := 2) (p := 90) (by decide +kernel) rfl ?_
    refine hs_k (x := Int32.ofNat 3) (p := 91) (by decide +kernel) ?_
    refine hs_br2n (c := .ge) (t := 115) (f := 94) (by decide +kernel) (by omega) (by omega) (fun (c91 : 3 ≤ i) => ?_) (fun (c91 : ¬ (3 ≤ i)) => ?_)
    · refine hs_aload (i := 0) (p := 116) (by decide +kernel) rfl ?_
      refine hs_aload (i := 1) (p := 117) (by decide +kernel) rfl ?_
      refine ht_getn (T := et_TT) (t := 10) (ci := 8) (f := 7) (p := 120) (by decide +kernel) rfl rfl hH k_s (fun c117 h117 e117 => ?_)
      refine ht_puta (T := et_TT) (t := 10) (ci := 8) (f := 7) (p := 123) (ty := .int) (by decide +kernel) rfl rfl rfl rfl (by decide +kernel) hH k_a (hi_nv (by omega) (by omega)) (fun G120 hH f120 e120 he => ?_)
      have hya := (f120.2 a 10 k_a 6 rfl).trans hya
      have hyb := (f120.2 s 10 k_s 6 rfl).trans hyb
      have hE := fun (n : Nat) (hn : n < 3) => (f120.2 ya 40 k_ya n (no_mm rfl)).trans (hE n hn)
      have hF := fun (n : Nat) (hn : n < 3) => (f120.2 yb 40 k_yb n (no_mm rfl)).trans (hF n hn)
      have hq := hq.fr kE kF f120 rfl
      refine hs_k (x := Int32.ofNat 0) (p := 124) (by decide +kernel) ?_
      refine hs_istore (i := 2) (p := 125) (by decide +kernel) (Nat.le_of_ble_eq_true rfl) ?_
      show et_go none (d + 2) 104 125 [some (.ref a), some (.ref s), some (.int (Int32.ofNat 0))] [] _ 0 0 _
      obtain rfl : i = 3 := by omega
      exact pm_u4 (i := 0) hH k_a k_s k_ya k_yb kE kF hya hyb hE hF hin hdj hq (by omega)
    · refine hs_aload (i := 0) (p := 95) (by decide +kernel) rfl ?_
      refine ht_getr (T := et_TT) (t := 10) (ci := 8) (f := 6) (p := 98) (by decide +kernel) rfl rfl hH k_a (fun a95 k_a95 e95 => ?_)
      obtain rfl : ya = a95 := Value.ref.inj (Option.some.inj (hya.symm.trans e95))
      refine hs_iload (i := 2) (p := 99) (by decide +kernel) rfl ?_
      refine ht_aald (T := et_TT) (t := 40) (N := 3) (kd := 6) (m := 2) (p := 100) (by decide +kernel) rfl rfl hH k_ya (by omega) (by omega) (by decide) (fun v99 h99 e99 => ?_)
      obtain rfl : v99 = .ref (E i) := Option.some.inj (e99.symm.trans (hE _ (by omega)))
      refine hs_aload (i := 1) (p := 101) (by decide +kernel) rfl ?_
      refine ht_getr (T := et_TT) (t := 10) (ci := 8) (f := 6) (p := 104) (by decide +kernel) rfl rfl hH k_s (fun a101 k_a101 e101 => ?_)
      obtain rfl : yb = a101 := Value.ref.inj (Option.some.inj (hyb.symm.trans e101))
      refine hs_iload (i := 2) (p := 105) (by decide +kernel) rfl ?_
      refine ht_aald (T := et_TT) (t := 40) (N := 3) (kd := 6) (m := 2) (p := 106) (by decide +kernel) rfl rfl hH k_yb (by omega) (by omega) (by decide) (fun v105 h105 e105 => ?_)
      obtain rfl : v105 = .ref (F i) := Option.some.inj (e105.symm.trans (hF _ (by omega)))
      have k_ei := kE i (by omega)
      have k_fi := kF i (by omega)
      refine ht_callv (T := et_TT) (t := 3) (mi := 35) (na := 1) (ci := 1) (lk := 3) (lm := 3) (L0 := eg_en (eg_mL 35) [.ref (E i), .ref (F i)]) (by decide +kernel) rfl hH k_ei rfl rfl rfl rfl rfl (by rw [show eg_mL 35 = 3 from by decide +kernel]; first | done | rfl) ?_
      refine ((ek_c5 (K, [], G) [.ref (E i), .ref (F i)] _ hH (by show 1 ≤ _; omega) rfl (ht_ac (.inr ⟨by decide, _, rfl, k_ei⟩) (ht_ac (.inr ⟨by decide, _, rfl, k_fi⟩) ht_an))).and (ft_35 hH k_ei k_fi (by omega))).mono (fun u hu => hs_cbnP (P := fun g => et_pl (eg_at g (E i)) 0 = et_pl (eg_at G (F i)) 0 ∧ hole K (E i) G g) hu (fun K106 G106 c106 s106 x106 f106 hH cl106 sl106 hh106 => ?_))
      obtain rfl : c106 = 0 := Nat.le_zero.mp cl106
      obtain rfl : s106 = 0 := Nat.le_zero.mp sl106
      have hq := hq.st kE kF hin hdj (by omega) hh106.1 hh106.2
      have hya := (f106.2 a 10 k_a 6 rfl).trans hya
      have hyb := (f106.2 s 10 k_s 6 rfl).trans hyb
      have hE := fun (n : Nat) (hn : n < 3) => (f106.2 ya 40 k_ya n (no_mm rfl)).trans (hE n hn)
      have hF := fun (n : Nat) (hn : n < 3) => (f106.2 yb 40 k_yb n (no_mm rfl)).trans (hF n hn)
      have k_a := x106 _ _ k_a
      have k_s := x106 _ _ k_s
      have k_ya := x106 _ _ k_ya
      have k_yb := x106 _ _ k_yb
      have kE := fun (n : Nat) (hn : n < 3) => x106 _ _ (kE n hn)
      have kF := fun (n : Nat) (hn : n < 3) => x106 _ _ (kF n hn)
      show et_go none _ 104 109 _ [] _ 0 0 _
      refine hs_iinc1 (i := 2) (p := 112) (by decide +kernel) rfl (Nat.le_of_ble_eq_true rfl) ?_
      refine hs_goto (p := 89) (by decide +kernel) ?_
      show et_go none (d + 2) 104 89 [some (.ref a), some (.ref s), some (.int (Int32.ofNat (i + 1)))] [] _ 0 0 _
      exact ih (3 - (i + 1)) (by omega) (i := (i + 1)) hH k_a k_s k_ya k_yb kE kF hya hyb hE hF hq (by omega) rfl
theorem pm_u2 {i : Nat} {K : et_K} {G : eg_G} (hH : et_H et_TT K G) (k_a : K a = some 10) (k_s : K s = some 10) (k_ya : K ya = some 40) (k_yb : K yb = some 40) (kE : ∀ n, n < 3 → K (E n) = some 3) (kF : ∀ n, n < 3 → K (F n) = some 3) (hya : et_pl (eg_at G a) 6 = some (.ref ya)) (hyb : et_pl (eg_at G s) 6 = some (.ref yb)) (hE : ∀ n, n < 3 → et_pl (eg_at G ya) n = some (.ref (E n))) (hF : ∀ n, n < 3 → et_pl (eg_at G yb) n = some (.ref (F n))) (hin : ∀ n m, n < 3 → m < 3 → E n = E m → n = m) (hdj : ∀ n m, n < 3 → m < 3 → ¬ E n = F m) (hq : etk E F g 0 G) (hi : i ≤ 20) : et_go none (d + 2) 104 43 [some (.ref a), some (.ref s), some (.int (Int32.ofNat i))] [] G 0 0 (fun u => etk E F g 3 u.2.1) := by
  induction hm : 20 - i using Nat.strongRecOn generalizing i K G with
  | _ z ih =>
    refine hs_iload (i := 2) (p := 44) (by decide +kernel) rfl ?_
    refine hs_k (x := Int32.ofNat 20) (p := 46) (by decide +kernel) ?_
    refine hs_br2n (c := .ge) (t := 79) (f := 49) (by decide +kernel) (by omega) (by omega) (fun (c46 : 20 ≤ i) => ?_) (fun (c46 : ¬ (20 ≤ i)) => ?_)
    · refine hs_aload (i := 0) (p := 80) (by decide +kernel) rfl ?_
      refine hs_aload (i := 1) (p := 81) (by decide +kernel) rfl ?_
      refine ht_getn (T := et_TT) (t := 10) (ci := 8) (f := 5) (p := 84) (by decide +kernel) rfl rfl hH k_s (fun c81 h81 e81 => ?_)
      refine ht_puta (T := et_TT) (t := 10) (ci := 8) (f := 5) (p := 87) (ty := .int) (by decide +kernel) rfl rfl rfl rfl (by decide +kernel) hH k_a (hi_nv (by omega) (by omega)) (fun G84 hH f84 e84 he => ?_)
      have hya := (f84.2 a 10 k_a 6 rfl).trans hya
      have hyb := (f84.2 s 10 k_s 6 rfl).trans hyb
      have hE := fun (n : Nat) (hn : n < 3) => (f84.2 ya 40 k_ya n (no_mm rfl)).trans (hE n hn)
      have hF := fun (n : Nat) (hn : n < 3) => (f84.2 yb 40 k_yb n (no_mm rfl)).trans (hF n hn)
      have hq := hq.fr kE kF f84 rfl
      refine hs_k (x := Int32.ofNat 0) (p := 88) (by decide +kernel) ?_
      refine hs_istore (i := 2) (p := 89) (by decide +kernel) (Nat.le_of_ble_eq_true rfl) ?_
      show et_go none (d + 2) 104 89 [some (.ref a), some (.ref s), some (.int (Int32.ofNat 0))] [] _ 0 0 _
      exact pm_u3 (i := 0) hH k_a k_s k_ya k_yb kE kF hya hyb hE hF hin hdj hq (by omega)
    · refine hs_aload (i := 0) (p := 50) (by decide +kernel) rfl ?_
      refine ht_getr (T := et_TT) (t := 10) (ci := 8) (f := 3) (p := 53) (by decide +kernel) rfl rfl hH k_a (fun a50 k_a50 e50 => ?_)
      refine hs_iload (i := 2) (p := 54) (by decide +kernel) rfl ?_
      refine hs_aload (i := 1) (p := 55) (by decide +kernel) rfl ?_
      refine ht_getr (T := et_TT) (t := 10) (ci := 8) (f := 3) (p := 58) (by decide +kernel) rfl rfl hH k_s (fun a55 k_a55 e55 => ?_)
      refine hs_iload (i := 2) (p := 59) (by decide +kernel) rfl ?_
      refine ht_ild (T := et_TT) (t := 17) (N := 20) (p := 60) (by decide +kernel) rfl hH k_a55 (by omega) (by decide) (fun x59 s59 e59 => ?_)
      refine ht_ist (M := [(17, 0, 100000)]) (T := et_TT) (t := 17) (N := 20) (p := 61) (by decide +kernel) rfl rfl (by decide) hH k_a50 (by omega) (by decide) (fun s hs => absurd hs List.not_mem_nil) (hb_mm (by omega)) (fun G60 hH f60 => ?_)
      have hya := (f60.2 a 10 k_a 6 rfl).trans hya
      have hyb := (f60.2 s 10 k_s 6 rfl).trans hyb
      have hE := fun (n : Nat) (hn : n < 3) => (f60.2 ya 40 k_ya n (no_mm rfl)).trans (hE n hn)
      have hF := fun (n : Nat) (hn : n < 3) => (f60.2 yb 40 k_yb n (no_mm rfl)).trans (hF n hn)
      have hq := hq.fr kE kF f60 rfl
      refine hs_aload (i := 0) (p := 62) (by decide +kernel) rfl ?_
      refine ht_getr (T := et_TT) (t := 10) (ci := 8) (f := 4) (p := 65) (by decide +kernel) rfl rfl hH k_a (fun a62 k_a62 e62 => ?_)
      refine hs_iload (i := 2) (p := 66) (by decide +kernel) rfl ?_
      refine hs_aload (i := 1) (p := 67) (by decide +kernel) rfl ?_
      refine ht_getr (T := et_TT) (t := 10) (ci := 8) (f := 4) (p := 70) (by decide +kernel) rfl rfl hH k_s (fun a67 k_a67 e67 => ?_)
      refine hs_iload (i := 2) (p := 71) (by decide +kernel) rfl ?_
      refine ht_zln (t := 27) (N := 20) (m := 19) (p := 72) (by decide +kernel) rfl hH k_a67 (by omega) (by omega) (by decide) (fun c71 h71 => ?_)
      refine ht_zst (M := [(27, 0, 100000)]) (t := 27) (N := 20) (p := 73) (by decide +kernel) rfl rfl hH k_a62 (by omega) (by decide) (by omega) (hb_mm (by omega)) (fun G72 hH f72 => ?_)
      have hya := (f72.2 a 10 k_a 6 rfl).trans hya
      have hyb := (f72.2 s 10 k_s 6 rfl).trans hyb
      have hE := fun (n : Nat) (hn : n < 3) => (f72.2 ya 40 k_ya n (no_mm rfl)).trans (hE n hn)
      have hF := fun (n : Nat) (hn : n < 3) => (f72.2 yb 40 k_yb n (no_mm rfl)).trans (hF n hn)
      have hq := hq.fr kE kF f72 rfl
      refine hs_iinc1 (i := 2) (p := 76) (by decide +kernel) rfl (Nat.le_of_ble_eq_true rfl) ?_
      refine hs_goto (p := 43) (by decide +kernel) ?_
      show et_go none (d + 2) 104 43 [some (.ref a), some (.ref s), some (.int (Int32.ofNat (i + 1)))] [] _ 0 0 _
      exact ih (20 - (i + 1)) (by omega) (i := (i + 1)) hH k_a k_s k_ya k_yb kE kF hya hyb hE hF hq (by omega) rfl
theorem pm_u1 {i : Nat} {K : et_K} {G : eg_G} (hH : et_H et_TT K G) (k_a : K a = some 10) (k_s : K s = some 10) (k_ya : K ya = some 40) (k_yb : K yb = some 40) (kE : ∀ n, n < 3 → K (E n) = some 3) (kF : ∀ n, n < 3 → K (F n) = some 3) (hya : et_pl (eg_at G a) 6 = some (.ref ya)) (hyb : et_pl (eg_at G s) 6 = some (.ref yb)) (hE : ∀ n, n < 3 → et_pl (eg_at G ya) n = some (.ref (E n))) (hF : ∀ n, n < 3 → et_pl (eg_at G yb) n = some (.ref (F n))) (hin : ∀ n m, n < 3 → m < 3 → E n = E m → n = m) (hdj : ∀ n m, n < 3 → m < 3 → ¬ E n = F m) (hq : etk E F g 0 G) (hi : i ≤ 4) : et_go none (d + 2) 104 10 [some (.ref a), some (.ref s), some (.int (Int32.ofNat i))] [] G 0 0 (fun u => etk E F g 3 u.2.1) := by
  induction hm : 4 - i using Nat.strongRecOn generalizing i K G with
  | _ z ih =>
    refine hs_iload (i := 2) (p := 11) (by decide +kernel) rfl ?_
    refine hs_k (x := Int32.ofNat 4) (p := 12) (by decide +kernel) ?_
    refine hs_br2n (c := .ge) (t := 33) (f := 15) (by decide +kernel) (by omega) (by omega) (fun (c12 : 4 ≤ i) => ?_) (fun (c12 : ¬ (4 ≤ i)) => ?_)
    · refine hs_aload (i := 0) (p := 34) (by decide +kernel) rfl ?_
      refine hs_aload (i := 1) (p := 35) (by decide +kernel) rfl ?_
      refine ht_getn (T := et_TT) (t := 10) (ci := 8) (f := 2) (p := 38) (by decide +kernel) rfl rfl hH k_s (fun c35 h35 e35 => ?_)
      refine ht_puta (T := et_TT) (t := 10) (ci := 8) (f := 2) (p := 41) (ty := .int) (by decide +kernel) rfl rfl rfl rfl (by decide +kernel) hH k_a (hi_nv (by omega) (by omega)) (fun G38 hH f38 e38 he => ?_)
      have hya := (f38.2 a 10 k_a 6 rfl).trans hya
      have hyb := (f38.2 s 10 k_s 6 rfl).trans hyb
      have hE := fun (n : Nat) (hn : n < 3) => (f38.2 ya 40 k_ya n (no_mm rfl)).trans (hE n hn)
      have hF := fun (n : Nat) (hn : n < 3) => (f38.2 yb 40 k_yb n (no_mm rfl)).trans (hF n hn)
      have hq := hq.fr kE kF f38 rfl
      refine hs_k (x := Int32.ofNat 0) (p := 42) (by decide +kernel) ?_
      refine hs_istore (i := 2) (p := 43) (by decide +kernel) (Nat.le_of_ble_eq_true rfl) ?_
      show et_go none (d + 2) 104 43 [some (.ref a), some (.ref s), some (.int (Int32.ofNat 0))] [] _ 0 0 _
      exact pm_u2 (i := 0) hH k_a k_s k_ya k_yb kE kF hya hyb hE hF hin hdj hq (by omega)
    · refine hs_aload (i := 0) (p := 16) (by decide +kernel) rfl ?_
      refine ht_getr (T := et_TT) (t := 10) (ci := 8) (f := 1) (p := 19) (by decide +kernel) rfl rfl hH k_a (fun a16 k_a16 e16 => ?_)
      refine hs_iload (i := 2) (p := 20) (by decide +kernel) rfl ?_
      refine hs_aload (i := 1) (p := 21) (by decide +kernel) rfl ?_
      refine ht_getr (T := et_TT) (t := 10) (ci := 8) (f := 1) (p := 24) (by decide +kernel) rfl rfl hH k_s (fun a21 k_a21 e21 => ?_)
      refine hs_iload (i := 2) (p := 25) (by decide +kernel) rfl ?_
      refine ht_aald (T := et_TT) (t := 37) (N := 4) (kd := 5) (m := 3) (p := 26) (by decide +kernel) rfl rfl hH k_a21 (by omega) (by omega) (by decide) (fun v25 h25 e25 => ?_)
      refine ht_aasa (t := 37) (u := 8) (N := 4) (kd := 5) (cj := 6) (p := 27) (by decide +kernel) ⟨rfl, rfl⟩ (by decide +kernel) hH k_a16 (by omega) h25 (fun G26 hH f26 e26 he => ?_)
      have hya := ((hb_wk f26 (by omega)).2 a 10 k_a 6 rfl).trans hya
      have hyb := ((hb_wk f26 (by omega)).2 s 10 k_s 6 rfl).trans hyb
      have hE := fun (n : Nat) (hn : n < 3) => ((hb_wk f26 (by omega)).2 ya 40 k_ya n (no_mm rfl)).trans (hE n hn)
      have hF := fun (n : Nat) (hn : n < 3) => ((hb_wk f26 (by omega)).2 yb 40 k_yb n (no_mm rfl)).trans (hF n hn)
      have hq := hq.fr kE kF (hb_wk f26 (by omega)) rfl
      refine hs_iinc1 (i := 2) (p := 30) (by decide +kernel) rfl (Nat.le_of_ble_eq_true rfl) ?_
      refine hs_goto (p := 10) (by decide +kernel) ?_
      show et_go none (d + 2) 104 10 [some (.ref a), some (.ref s), some (.int (Int32.ofNat (i + 1)))] [] _ 0 0 _
      exact ih (4 - (i + 1)) (by omega) (i := (i + 1)) hH k_a k_s k_ya k_yb kE kF hya hyb hE hF hq (by omega) rfl
theorem ft_take {K : et_K} {G : eg_G} (hH : et_H et_TT K G) (k_a : K a = some 10) (k_s : K s = some 10) (k_ya : K ya = some 40) (k_yb : K yb = some 40) (kE : ∀ n, n < 3 → K (E n) = some 3) (kF : ∀ n, n < 3 → K (F n) = some 3) (hya : et_pl (eg_at G a) 6 = some (.ref ya)) (hyb : et_pl (eg_at G s) 6 = some (.ref yb)) (hE : ∀ n, n < 3 → et_pl (eg_at G ya) n = some (.ref (E n))) (hF : ∀ n, n < 3 → et_pl (eg_at G yb) n = some (.ref (F n))) (hin : ∀ n m, n < 3 → m < 3 → E n = E m → n = m) (hdj : ∀ n m, n < 3 → m < 3 → ¬ E n = F m) (hq : etk E F g 0 G) (hd : 2 ≤ d2) : et_go none d2 104 0 (eg_en (eg_mL 104) [.ref a, .ref s]) [] G 0 0 (fun u => etk E F g 3 u.2.1) := by
  obtain ⟨d, rfl⟩ : ∃ d, d2 = d + 2 := ⟨d2 - 2, by omega⟩
  rw [show eg_mL 104 = 3 from by decide +kernel]
  show et_go none (d + 2) 104 0 [some (.ref a), some (.ref s), none] [] G 0 0 _
  refine hs_aload (i := 0) (p := 1) (by decide +kernel) rfl ?_
  refine hs_aload (i := 1) (p := 2) (by decide +kernel) rfl ?_
  refine ht_getn (T := et_TT) (t := 10) (ci := 8) (f := 0) (p := 5) (by decide +kernel) rfl rfl hH k_s (fun c2 h2 e2 => ?_)
  refine ht_puta (T := et_TT) (t := 10) (ci := 8) (f := 0) (p := 8) (ty := .int) (by decide +kernel) rfl rfl rfl rfl (by decide +kernel) hH k_a (hi_nv (by omega) (by omega)) (fun G5 hH f5 e5 he => ?_)
  have hya := (f5.2 a 10 k_a 6 rfl).trans hya
  have hyb := (f5.2 s 10 k_s 6 rfl).trans hyb
  have hE := fun (n : Nat) (hn : n < 3) => (f5.2 ya 40 k_ya n (no_mm rfl)).trans (hE n hn)
  have hF := fun (n : Nat) (hn : n < 3) => (f5.2 yb 40 k_yb n (no_mm rfl)).trans (hF n hn)
  have hq := hq.fr kE kF f5 rfl
  refine hs_k (x := Int32.ofNat 0) (p := 9) (by decide +kernel) ?_
  refine hs_istore (i := 2) (p := 10) (by decide +kernel) (Nat.le_of_ble_eq_true rfl) ?_
  show et_go none (d + 2) 104 10 [some (.ref a), some (.ref s), some (.int (Int32.ofNat 0))] [] _ 0 0 _
  exact pm_u1 (i := 0) hH k_a k_s k_ya k_yb kE kF hya hyb hE hF hin hdj hq (by omega)
variable {ra0 ca0 rc0 ec0 cc0 ra1 ca1 rc1 ec1 cc1 : Nat}
theorem fc_imageE {K : et_K} {G : eg_G} (hH : et_H et_TT K G) (hC : ci_O K G th s0 s1 ra0 ca0 rc0 ec0 cc0 ra1 ca1 rc1 ec1 cc1) (ht : eyt K sp ya yb E F) (hp : eyp G th s0 s1 sp ya yb E F) (hv : ev G E F c i) (hd : 3 ≤ d2) : et_go none d2 124 0 (eg_en (eg_mL 124) [.ref th]) [] G 0 0 (fun u => ev u.2.1 E F c c) := by
  obtain ⟨d, rfl⟩ : ∃ d, d2 = d + 3 := ⟨d2 - 3, by omega⟩
  have k_th := hC.1
  have k_s0 := hC.2.2.2.1.1.1
  have k_s1 := hC.2.2.2.2.1.1
  have h0 := hC.2.1.1
  have h1 := hC.2.1.2
  have p0 := hp.1.1
  have p1 := hp.1.2.1
  have hy := fun (n : Nat) (hn : n < 3) => (hp.2 n hn).1
  have hz := fun (n : Nat) (hn : n < 3) => (hp.2 n hn).2
  have hH0 := hH
  rw [show eg_mL 124 = 1 from by decide +kernel]
  show et_go none (d + 3) 124 0 [some (.ref th)] [] G 0 0 _
  have lt_th := (hH.2.2 _ _ k_th).1
  have lt_s0 := (hH.2.2 _ _ k_s0).1
  have lt_s1 := (hH.2.2 _ _ k_s1).1
  refine hs_aload (i := 0) (p := 1) (by decide +kernel) rfl ?_
  refine hf_get (T := et_TT) (t := 12) (ci := 10) (f := 1) (p := 4) (by decide +kernel) rfl hH k_th h1 ?_
  refine hs_aload (i := 0) (p := 5) (by decide +kernel) rfl ?_
  refine hf_get (T := et_TT) (t := 12) (ci := 10) (f := 0) (p := 8) (by decide +kernel) rfl hH k_th h0 ?_
  have hH1 := hH
  refine ht_callv (T := et_TT) (t := 10) (mi := 104) (na := 1) (ci := 8) (lk := 1) (lm := 3) (L0 := eg_en (eg_mL 104) [.ref s1, .ref s0]) (by decide +kernel) rfl hH k_s1 rfl rfl rfl rfl rfl (by rw [show eg_mL 104 = 3 from by decide +kernel]; first | done | rfl) ?_
  refine ((hc_takeI (a := s1) (s := s0) hH hC.2.2.2.1 hC.2.2.2.2 hC.2.2.1 (by omega)).and (ft_take (a := s1) (s := s0) (E := F) (F := E) (g := (fun n => some (.int (Int32.ofNat (c (45 + 23 * n)))))) hH k_s1 k_s0 ht.1.2.1 ht.1.1 (fun n hn => (ht.2.1 n hn).2) (fun n hn => (ht.2.1 n hn).1) p1 p0 hz hy (fun n m hn hm => (ht.2.2 n m hn hm).2.1) (fun n m hn hm e => (ht.2.2 m n hm hn).2.2.1 e.symm) (fun n hn => ⟨fun h => absurd h (Nat.not_lt_zero n), (hv n hn).1⟩) (by omega))).mono (fun u hu => tn_cb (P := fun g9 => etk F E (fun n => some (.int (Int32.ofNat (c (45 + 23 * n))))) 3 g9) hu (fun K8 G8 x8 f8 hH hP => ?_))
  have hv : ev G8 E F c c := fun n hn => ⟨(hP n hn).2, (hP n hn).1 hn⟩
  have ht := ht.ex x8
  have k_th := x8 _ _ k_th
  have lt_th := (hH.2.2 _ _ k_th).1
  have k_s0 := x8 _ _ k_s0
  have lt_s0 := (hH.2.2 _ _ k_s0).1
  have k_s1 := x8 _ _ k_s1
  have lt_s1 := (hH.2.2 _ _ k_s1).1
  show et_go none _ 124 11 _ [] _ _ _ _
  refine hs_aload (i := 0) (p := 12) (by decide +kernel) rfl ?_
  refine hs_k (x := Int32.ofNat 1) (p := 13) (by decide +kernel) ?_
  have hH9 := hH
  refine hf_put (T := et_TT) (t := 12) (ci := 10) (f := 2) (p := 16) (ty := .boolean) (by decide +kernel) rfl rfl rfl (by decide +kernel) rfl hH k_th (hi_nv (by omega) (by omega)) (fun G13 hH x13 e13 => ?_)
  have lt_th := Nat.lt_of_lt_of_le lt_th x13.1
  have lt_s0 := Nat.lt_of_lt_of_le lt_s0 x13.1
  have lt_s1 := Nat.lt_of_lt_of_le lt_s1 x13.1
  have hv := hv.xs ht hH9 x13 (fun b h => by rw [h.1, k_th]; decide)
  refine hs_vret (by decide +kernel) ?_
  exact hv
theorem fc_backE {K : et_K} {G : eg_G} (hH : et_H et_TT K G) (hC : ci_O K G th s0 s1 ra0 ca0 rc0 ec0 cc0 ra1 ca1 rc1 ec1 cc1) (ht : eyt K sp ya yb E F) (hp : eyp G th s0 s1 sp ya yb E F) (hv : ev G E F c i) (hh : ph_at G th h) (hh1 : h ≤ 1) (hd : 3 ≤ d2) : et_go none d2 125 0 (eg_en (eg_mL 125) [.ref th]) [] G 0 0 (fun u => ev u.2.1 E F (fun k => if h = 0 then c k else i k) i) := by
  obtain ⟨d, rfl⟩ : ∃ d, d2 = d + 3 := ⟨d2 - 3, by omega⟩
  have k_th := hC.1
  have k_s0 := hC.2.2.2.1.1.1
  have k_s1 := hC.2.2.2.2.1.1
  have h0 := hC.2.1.1
  have h1 := hC.2.1.2
  have p0 := hp.1.1
  have p1 := hp.1.2.1
  have hy := fun (n : Nat) (hn : n < 3) => (hp.2 n hn).1
  have hz := fun (n : Nat) (hn : n < 3) => (hp.2 n hn).2
  have hH0 := hH
  have hh : et_pl (eg_at G th) 2 = some (.int (Int32.ofNat h)) := hh
  rw [show eg_mL 125 = 1 from by decide +kernel]
  show et_go none (d + 3) 125 0 [some (.ref th)] [] G 0 0 _
  have lt_th := (hH.2.2 _ _ k_th).1
  have lt_s0 := (hH.2.2 _ _ k_s0).1
  have lt_s1 := (hH.2.2 _ _ k_s1).1
  refine hs_aload (i := 0) (p := 1) (by decide +kernel) rfl ?_
  refine hf_get (T := et_TT) (t := 12) (ci := 10) (f := 2) (p := 4) (by decide +kernel) rfl hH k_th hh ?_
  refine hs_br1 (c := .ne) (t := 9) (f := 7) (by decide +kernel) (fun (c4 : ¬ Int32.ofNat h = 0) => ?_) (fun (c4 : ¬ (¬ Int32.ofNat h = 0)) => ?_)
  · refine hs_aload (i := 0) (p := 10) (by decide +kernel) rfl ?_
    refine ht_callv (T := et_TT) (t := 12) (mi := 120) (na := 0) (ci := 10) (lk := 1) (lm := 1) (L0 := eg_en (eg_mL 120) [.ref th]) (by decide +kernel) rfl hH k_th rfl rfl rfl rfl rfl (by rw [show eg_mL 120 = 1 from by decide +kernel]; first | done | rfl) ?_
    refine (fc_forget hH k_th).mono (fun u hu => xw_cb hu (fun G10 v10 hH x10 hP10 => ?_))
    obtain rfl := hP10
    have hC := ci_O.fr hC et_ex.rf (x10.tfr hH0 (M := [(12, 6, 7)]) (fun a t i ha h => by obtain ⟨ea, h⟩ := h; rw [ea, k_th] at ha; cases ha; simp [et_mm]; omega)) (by decide +kernel)
    have h0 := (x10.2 th 0 lt_th (fun h => absurd h.2 (by decide))).trans h0
    have h1 := (x10.2 th 1 lt_th (fun h => absurd h.2 (by decide))).trans h1
    have p0 := (x10.2 s0 6 lt_s0 (fun h => (hi_ne k_s0 k_th (by decide)) h.1)).trans p0
    have p1 := (x10.2 s1 6 lt_s1 (fun h => (hi_ne k_s1 k_th (by decide)) h.1)).trans p1
    have hh := (x10.2 th 2 lt_th (fun h => absurd h.2 (by decide))).trans hh
    have lt_th := Nat.lt_of_lt_of_le lt_th x10.1
    have lt_s0 := Nat.lt_of_lt_of_le lt_s0 x10.1
    have lt_s1 := Nat.lt_of_lt_of_le lt_s1 x10.1
    have hy := fun (n : Nat) (hn : n < 3) => (x10.2 ya n (hH0.2.2 _ _ ht.1.1).1 (fun h => hi_ne ht.1.1 k_th (by decide) h.1)).trans (hy n hn)
    have hz := fun (n : Nat) (hn : n < 3) => (x10.2 yb n (hH0.2.2 _ _ ht.1.2.1).1 (fun h => hi_ne ht.1.2.1 k_th (by decide) h.1)).trans (hz n hn)
    have hv := hv.xs ht hH0 x10 (fun b h => by rw [h.1, k_th]; decide)
    show et_go none _ 125 13 _ [] _ _ _ _
    refine hs_aload (i := 0) (p := 14) (by decide +kernel) rfl ?_
    refine hf_get (T := et_TT) (t := 12) (ci := 10) (f := 0) (p := 17) (by decide +kernel) rfl hH k_th h0 ?_
    refine hs_aload (i := 0) (p := 18) (by decide +kernel) rfl ?_
    refine hf_get (T := et_TT) (t := 12) (ci := 10) (f := 1) (p := 21) (by decide +kernel) rfl hH k_th h1 ?_
    have hH1 := hH
    refine ht_callv (T := et_TT) (t := 10) (mi := 104) (na := 1) (ci := 8) (lk := 1) (lm := 3) (L0 := eg_en (eg_mL 104) [.ref s0, .ref s1]) (by decide +kernel) rfl hH k_s0 rfl rfl rfl rfl rfl (by rw [show eg_mL 104 = 3 from by decide +kernel]; first | done | rfl) ?_
    refine ((hc_takeI (a := s0) (s := s1) hH hC.2.2.2.2 hC.2.2.2.1 ⟨fun e => hC.2.2.1.1 e.symm, fun e => hC.2.2.1.2.1 e.symm, fun e => hC.2.2.1.2.2 e.symm⟩ (by omega)).and (ft_take (a := s0) (s := s1) (E := E) (F := F) (g := (fun n => some (.int (Int32.ofNat (i (45 + 23 * n)))))) hH k_s0 k_s1 ht.1.1 ht.1.2.1 (fun n hn => (ht.2.1 n hn).1) (fun n hn => (ht.2.1 n hn).2) p0 p1 hy hz (fun n m hn hm => (ht.2.2 n m hn hm).1) (fun n m hn hm => (ht.2.2 n m hn hm).2.2.1) (fun n hn => ⟨fun h => absurd h (Nat.not_lt_zero n), (hv n hn).2⟩) (by omega))).mono (fun u hu => tn_cb (P := fun g9 => etk E F (fun n => some (.int (Int32.ofNat (i (45 + 23 * n))))) 3 g9) hu (fun K21 G21 x21 f21 hH hP => ?_))
    have hv : ev G21 E F i i := fun n hn => ⟨(hP n hn).1 hn, (hP n hn).2⟩
    have ht := ht.ex x21
    have k_th := x21 _ _ k_th
    have lt_th := (hH.2.2 _ _ k_th).1
    have k_s0 := x21 _ _ k_s0
    have lt_s0 := (hH.2.2 _ _ k_s0).1
    have k_s1 := x21 _ _ k_s1
    have lt_s1 := (hH.2.2 _ _ k_s1).1
    show et_go none _ 125 24 _ [] _ _ _ _
    refine hs_k (x := Int32.ofNat 1) (p := 25) (by decide +kernel) ?_
    refine hs_zret (by decide +kernel) (.inr rfl) ?_
    exact hv.co (fun n _ => if_neg (by have := hi_b1 hh1 c4; omega)) (fun _ _ => rfl)
  · refine hs_k (x := Int32.ofNat 0) (p := 8) (by decide +kernel) ?_
    refine hs_zret (by decide +kernel) (.inl rfl) ?_
    exact hv.co (fun n _ => if_pos (hi_b0 hh1 c4)) (fun _ _ => rfl)
end UDA
end
