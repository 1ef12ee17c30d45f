/-! FUNCTIONAL: needEye, stuck; in, noEye, stuck -/
theorem xi_lt0 {x : Int32} : x < 0 ↔ x.toInt < 0 := by
  rw [Int32.lt_iff_toInt_lt]
  exact Iff.rfl
theorem xi_ge0 {x : Int32} : 0 ≤ x ↔ 0 ≤ x.toInt := by
  rw [Int32.le_iff_toInt_le]
  exact Iff.rfl
theorem xi_gt0 {x : Int32} : 0 < x ↔ 0 < x.toInt := by
  rw [Int32.lt_iff_toInt_lt]
  exact Iff.rfl
theorem xi_le0 {x : Int32} : x ≤ 0 ↔ x.toInt ≤ 0 := by
  rw [Int32.le_iff_toInt_le]
  exact Iff.rfl
theorem xi_ltn {x : Int32} {k : Nat} (hk : k < 2147483648) : x < Int32.ofNat k ↔ x.toInt < k := by
  rw [Int32.lt_iff_toInt_lt, hs_nint hk]
theorem xi_len {x : Int32} {k : Nat} (hk : k < 2147483648) : x ≤ Int32.ofNat k ↔ x.toInt ≤ k := by
  rw [Int32.le_iff_toInt_le, hs_nint hk]
theorem xi_nle {x : Int32} {k : Nat} (hk : k < 2147483648) : Int32.ofNat k ≤ x ↔ (k : Int) ≤ x.toInt := by
  rw [Int32.le_iff_toInt_le, hs_nint hk]
theorem xi_nlt {x : Int32} {k : Nat} (hk : k < 2147483648) : Int32.ofNat k < x ↔ (k : Int) < x.toInt := by
  rw [Int32.lt_iff_toInt_lt, hs_nint hk]
theorem xi_nn {x : Int32} (h : ¬ x < 0) : ∃ n : Nat, x = Int32.ofNat n ∧ n < 2147483648 := by
  rw [xi_lt0] at h
  obtain ⟨c, hc, e⟩ := hi_natW (K := fun _ => none) (hi := 2147483647) (hi_iv (x := x) (by omega) (by have := Int32.toInt_lt x; omega))
  exact ⟨c, e, by omega⟩
/-- a number of one of n things -/
def xr (x : Int32) (n : Nat) : Prop := 0 ≤ x.toInt ∧ x.toInt < n
theorem xr_n {n e : Nat} (hn : n < 2147483648) (h : n < e) : xr (Int32.ofNat n) e := by
  unfold xr
  rw [hs_nint hn]
  omega
theorem hf_ref {T : List et_D} {K : et_K} {G : eg_G} {a t ci f u : Nat} {ps : List et_P} (hH : et_H T K G) (ha : K a = some t) (hT : T[t]? = some (.inl (ci, ps))) (hp : ps[f]? = some (.inr (.inr (0, u)))) (hu : ¬ u = 9 ∨ True) : ∃ b, et_pl (eg_at G a) f = some (.ref b) ∧ K b = some u := by
  obtain ⟨-, -, -, dd, hd, hcc, -⟩ := hH.2.2 a t ha
  rw [hT] at hd
  cases hd
  obtain ⟨fs, e1, el, ef⟩ := hcc
  obtain ⟨v, h1, h2⟩ := ef f _ hp
  obtain ⟨b, rfl, hb⟩ := hi_ref (h2.resolve_left (fun h => nomatch (show false = true from h)))
  exact ⟨b, by rw [e1]; exact h1, hb⟩
section FJA
variable {K : et_K} {G : eg_G} {d2 d th am aw out s0 ea e : Nat} {x y z c : Int32}
theorem fc_needEye (hH : et_H et_TT K G) (k_th : K th = some 12) (h0 : et_pl (eg_at G th) 0 = some (.ref s0)) (k_s0 : K s0 = some 10) (h5 : et_pl (eg_at G s0) 5 = some (.int (Int32.ofNat e))) (he : e ≤ 3) (h6 : et_pl (eg_at G s0) 6 = some (.ref ea)) (k_ea : K ea = some 40) : et_go none d2 128 0 (eg_en (eg_mL 128) [.ref th, .int x]) [] G 0 0 (xe_Z (fun _ _ => False) K G (fun G' r => G' = G ∧ ((¬ xr x e ∧ r = .inr 1) ∨ ∃ n b : Nat, x = Int32.ofNat n ∧ n < e ∧ r = .inl (some (.ref b)) ∧ K b = some 3 ∧ et_pl (eg_at G ea) n = some (.ref b)))) := by
  rw [show eg_mL 128 = 2 from by decide +kernel]
  show et_go none d2 128 0 [some (.ref th), some (.int x)] [] G 0 0 _
  have lt_th := (hH.2.2 _ _ k_th).1
  have lt_s0 := (hH.2.2 _ _ k_s0).1
  have lt_ea := (hH.2.2 _ _ k_ea).1
  have hX : xf (fun _ _ => False) G G := xf.rf
  refine hs_iload (i := 1) (p := 1) (by decide +kernel) rfl ?_
  refine hs_br1 (c := .lt) (t := 15) (f := 4) (by decide +kernel) (fun (c1 : x < 0) => ?_) (fun (c1 : ¬ (x < 0)) => ?_)
  · refine hs_thr (x := 1) (lk := 2) (by decide +kernel) rfl rfl ?_
    try simp only [xi_ltn (k := e) (by omega), xi_lt0, xi_ge0, xi_gt0, xi_le0, xi_ltn (k := 1) (by decide), xi_len (k := 1) (by decide), xi_nle (k := 1) (by decide), xi_nlt (k := 1) (by decide), xi_ltn (k := 2) (by decide), xi_len (k := 2) (by decide), xi_nle (k := 2) (by decide), xi_nlt (k := 2) (by decide), xi_ltn (k := 3) (by decide), xi_len (k := 3) (by decide), xi_nle (k := 3) (by decide), xi_nlt (k := 3) (by decide), xi_ltn (k := 6) (by decide), xi_len (k := 6) (by decide), xi_nle (k := 6) (by decide), xi_nlt (k := 6) (by decide), xi_ltn (k := 7) (by decide), xi_len (k := 7) (by decide), xi_nle (k := 7) (by decide), xi_nlt (k := 7) (by decide), xi_ltn (k := 15) (by decide), xi_len (k := 15) (by decide), xi_nle (k := 15) (by decide), xi_nlt (k := 15) (by decide), xi_ltn (k := 16) (by decide), xi_len (k := 16) (by decide), xi_nle (k := 16) (by decide), xi_nlt (k := 16) (by decide), xi_ltn (k := 20) (by decide), xi_len (k := 20) (by decide), xi_nle (k := 20) (by decide), xi_nlt (k := 20) (by decide), xi_ltn (k := 50) (by decide), xi_len (k := 50) (by decide), xi_nle (k := 50) (by decide), xi_nlt (k := 50) (by decide), xi_ltn (k := 60) (by decide), xi_len (k := 60) (by decide), xi_nle (k := 60) (by decide), xi_nlt (k := 60) (by decide), xi_ltn (k := 127) (by decide), xi_len (k := 127) (by decide), xi_nle (k := 127) (by decide), xi_nlt (k := 127) (by decide), xi_ltn (k := 128) (by decide), xi_len (k := 128) (by decide), xi_nle (k := 128) (by decide), xi_nlt (k := 128) (by decide), xi_ltn (k := 200) (by decide), xi_len (k := 200) (by decide), xi_nle (k := 200) (by decide), xi_nlt (k := 200) (by decide), xi_ltn (k := 2000) (by decide), xi_len (k := 2000) (by decide), xi_nle (k := 2000) (by decide), xi_nlt (k := 2000) (by decide), xi_ltn (k := 65535) (by decide), xi_len (k := 65535) (by decide), xi_nle (k := 65535) (by decide), xi_nlt (k := 65535) (by decide), xi_ltn (k := 65536) (by decide), xi_len (k := 65536) (by decide), xi_nle (k := 65536) (by decide), xi_nlt (k := 65536) (by decide)] at c1
    exact ⟨_, _, _, _, rfl, hH, hX, rfl, .inl ⟨(by unfold xr; omega), rfl⟩⟩
  · refine hs_iload (i := 1) (p := 5) (by decide +kernel) rfl ?_
    refine hs_aload (i := 0) (p := 6) (by decide +kernel) rfl ?_
    refine hf_get (T := et_TT) (t := 12) (ci := 10) (f := 0) (p := 9) (by decide +kernel) rfl hH k_th h0 ?_
    refine hf_get (T := et_TT) (t := 10) (ci := 8) (f := 5) (p := 12) (by decide +kernel) rfl hH k_s0 h5 ?_
    refine hs_br2 (c := .lt) (t := 23) (f := 15) (by decide +kernel) (fun (c12 : x < Int32.ofNat e) => ?_) (fun (c12 : ¬ (x < Int32.ofNat e)) => ?_)
    · obtain ⟨n, rfl, hn⟩ := xi_nn c1
      have hne := (hs_nlt (by omega) (by omega)).mp c12
      refine hs_aload (i := 0) (p := 24) (by decide +kernel) rfl ?_
      refine hf_get (T := et_TT) (t := 12) (ci := 10) (f := 0) (p := 27) (by decide +kernel) rfl hH k_th h0 ?_
      refine hf_get (T := et_TT) (t := 10) (ci := 8) (f := 6) (p := 30) (by decide +kernel) rfl hH k_s0 h6 ?_
      refine hs_iload (i := 1) (p := 31) (by decide +kernel) rfl ?_
      refine ht_aald (T := et_TT) (t := 40) (N := 3) (kd := 6) (m := 2) (p := 32) (by decide +kernel) rfl rfl hH k_ea (by omega) (by omega) (by decide) (fun v31 h31 e31 => ?_)
      obtain ⟨b31, rfl, k_b31⟩ := hi_ref h31
      have lt_b31 := (hH.2.2 _ _ k_b31).1
      refine hs_aret (cn := "KnobEye$Eye") (by decide +kernel) ?_
      exact ⟨_, _, _, _, rfl, hH, hX, rfl, .inr ⟨n, _, rfl, hne, rfl, k_b31, e31⟩⟩
    · refine hs_thr (x := 1) (lk := 2) (by decide +kernel) rfl rfl ?_
      try simp only [xi_ltn (k := e) (by omega), xi_lt0, xi_ge0, xi_gt0, xi_le0, xi_ltn (k := 1) (by decide), xi_len (k := 1) (by decide), xi_nle (k := 1) (by decide), xi_nlt (k := 1) (by decide), xi_ltn (k := 2) (by decide), xi_len (k := 2) (by decide), xi_nle (k := 2) (by decide), xi_nlt (k := 2) (by decide), xi_ltn (k := 3) (by decide), xi_len (k := 3) (by decide), xi_nle (k := 3) (by decide), xi_nlt (k := 3) (by decide), xi_ltn (k := 6) (by decide), xi_len (k := 6) (by decide), xi_nle (k := 6) (by decide), xi_nlt (k := 6) (by decide), xi_ltn (k := 7) (by decide), xi_len (k := 7) (by decide), xi_nle (k := 7) (by decide), xi_nlt (k := 7) (by decide), xi_ltn (k := 15) (by decide), xi_len (k := 15) (by decide), xi_nle (k := 15) (by decide), xi_nlt (k := 15) (by decide), xi_ltn (k := 16) (by decide), xi_len (k := 16) (by decide), xi_nle (k := 16) (by decide), xi_nlt (k := 16) (by decide), xi_ltn (k := 20) (by decide), xi_len (k := 20) (by decide), xi_nle (k := 20) (by decide), xi_nlt (k := 20) (by decide), xi_ltn (k := 50) (by decide), xi_len (k := 50) (by decide), xi_nle (k := 50) (by decide), xi_nlt (k := 50) (by decide), xi_ltn (k := 60) (by decide), xi_len (k := 60) (by decide), xi_nle (k := 60) (by decide), xi_nlt (k := 60) (by decide), xi_ltn (k := 127) (by decide), xi_len (k := 127) (by decide), xi_nle (k := 127) (by decide), xi_nlt (k := 127) (by decide), xi_ltn (k := 128) (by decide), xi_len (k := 128) (by decide), xi_nle (k := 128) (by decide), xi_nlt (k := 128) (by decide), xi_ltn (k := 200) (by decide), xi_len (k := 200) (by decide), xi_nle (k := 200) (by decide), xi_nlt (k := 200) (by decide), xi_ltn (k := 2000) (by decide), xi_len (k := 2000) (by decide), xi_nle (k := 2000) (by decide), xi_nlt (k := 2000) (by decide), xi_ltn (k := 65535) (by decide), xi_len (k := 65535) (by decide), xi_nle (k := 65535) (by decide), xi_nlt (k := 65535) (by decide), xi_ltn (k := 65536) (by decide), xi_len (k := 65536) (by decide), xi_nle (k := 65536) (by decide), xi_nlt (k := 65536) (by decide)] at c1 c12
      exact ⟨_, _, _, _, rfl, hH, hX, rfl, .inl ⟨(by unfold xr; omega), rfl⟩⟩
theorem fc_stuck (hH : et_H et_TT K G) (k_th : K th = some 12) (h0 : et_pl (eg_at G th) 0 = some (.ref s0)) (k_s0 : K s0 = some 10) (h5 : et_pl (eg_at G s0) 5 = some (.int (Int32.ofNat e))) (he : e ≤ 3) (h6 : et_pl (eg_at G s0) 6 = some (.ref ea)) (k_ea : K ea = some 40) (hd : 1 ≤ d2) : et_go none d2 143 0 (eg_en (eg_mL 143) [.ref th, .int x, .int y, .int z]) [] G 0 0 (xe_Z (fun b j => K b = some 3 ∧ 6 ≤ j) K G (fun G' r => (¬ xr x e ∧ r = .inr 1) ∨ (xr x e ∧ ¬ (0 ≤ y.toInt ∧ y.toInt ≤ 127 ∧ 0 ≤ z.toInt ∧ z.toInt ≤ 50) ∧ r = .inr 0) ∨ (xr x e ∧ ¬ ¬ (0 ≤ y.toInt ∧ y.toInt ≤ 127 ∧ 0 ≤ z.toInt ∧ z.toInt ≤ 50) ∧ r = .inl none))) := by
  obtain ⟨d, rfl⟩ : ∃ d, d2 = d + 1 := ⟨d2 - 1, by omega⟩
  rw [show eg_mL 143 = 5 from by decide +kernel]
  show et_go none (d + 1) 143 0 [some (.ref th), some (.int x), some (.int y), some (.int z), none] [] G 0 0 _
  have lt_th := (hH.2.2 _ _ k_th).1
  have lt_s0 := (hH.2.2 _ _ k_s0).1
  have lt_ea := (hH.2.2 _ _ k_ea).1
  have hX : xf (fun b j => K b = some 3 ∧ 6 ≤ j) G G := xf.rf
  refine hs_aload (i := 0) (p := 1) (by decide +kernel) rfl ?_
  refine hs_iload (i := 1) (p := 2) (by decide +kernel) rfl ?_
  refine ht_callv (T := et_TT) (t := 12) (mi := 128) (na := 1) (ci := 10) (lk := 5) (lm := 2) (L0 := eg_en (eg_mL 128) [.ref th, .int x]) (by decide +kernel) rfl hH k_th rfl rfl rfl rfl rfl (by rw [show eg_mL 128 = 2 from by decide +kernel]; first | done | rfl) ?_
  refine (fc_needEye hH k_th h0 k_s0 h5 he h6 k_ea).mono (fun u hu => ?_)
  obtain ⟨G2, v2, c2, s2, rfl, -, -, rfl, ⟨hr, rfl⟩ | ⟨n, b, rfl, hn, rfl, k_b, e6⟩⟩ := hu
  · exact hf_cx (by decide +kernel) ⟨_, _, _, _, rfl, hH, hX, .inl ⟨hr, rfl⟩⟩
  · have lt_b := (hH.2.2 _ _ k_b).1
    have hxr : xr (Int32.ofNat n) e := xr_n (by omega) hn
    refine hs_cb ?_
    show et_go none _ 143 5 _ [.ref b] _ _ _ _
    refine hs_astore (i := 4) (p := 7) (by decide +kernel) (Nat.le_of_ble_eq_true rfl) ?_
    refine hs_iload (i := 2) (p := 8) (by decide +kernel) rfl ?_
    refine hs_br1 (c := .lt) (t := 28) (f := 11) (by decide +kernel) (fun (c8 : y < 0) => ?_) (fun (c8 : ¬ (y < 0)) => ?_)
    · refine hs_thr (x := 0) (lk := 5) (by decide +kernel) rfl rfl ?_
      try simp only [xi_lt0, xi_ge0, xi_gt0, xi_le0, xi_ltn (k := 1) (by decide), xi_len (k := 1) (by decide), xi_nle (k := 1) (by decide), xi_nlt (k := 1) (by decide), xi_ltn (k := 2) (by decide), xi_len (k := 2) (by decide), xi_nle (k := 2) (by decide), xi_nlt (k := 2) (by decide), xi_ltn (k := 3) (by decide), xi_len (k := 3) (by decide), xi_nle (k := 3) (by decide), xi_nlt (k := 3) (by decide), xi_ltn (k := 6) (by decide), xi_len (k := 6) (by decide), xi_nle (k := 6) (by decide), xi_nlt (k := 6) (by decide), xi_ltn (k := 7) (by decide), xi_len (k := 7) (by decide), xi_nle (k := 7) (by decide), xi_nlt (k := 7) (by decide), xi_ltn (k := 15) (by decide), xi_len (k := 15) (by decide), xi_nle (k := 15) (by decide), xi_nlt (k := 15) (by decide), xi_ltn (k := 16) (by decide), xi_len (k := 16) (by decide), xi_nle (k := 16) (by decide), xi_nlt (k := 16) (by decide), xi_ltn (k := 20) (by decide), xi_len (k := 20) (by decide), xi_nle (k := 20) (by decide), xi_nlt (k := 20) (by decide), xi_ltn (k := 50) (by decide), xi_len (k := 50) (by decide), xi_nle (k := 50) (by decide), xi_nlt (k := 50) (by decide), xi_ltn (k := 60) (by decide), xi_len (k := 60) (by decide), xi_nle (k := 60) (by decide), xi_nlt (k := 60) (by decide), xi_ltn (k := 127) (by decide), xi_len (k := 127) (by decide), xi_nle (k := 127) (by decide), xi_nlt (k := 127) (by decide), xi_ltn (k := 128) (by decide), xi_len (k := 128) (by decide), xi_nle (k := 128) (by decide), xi_nlt (k := 128) (by decide), xi_ltn (k := 200) (by decide), xi_len (k := 200) (by decide), xi_nle (k := 200) (by decide), xi_nlt (k := 200) (by decide), xi_ltn (k := 2000) (by decide), xi_len (k := 2000) (by decide), xi_nle (k := 2000) (by decide), xi_nlt (k := 2000) (by decide), xi_ltn (k := 65535) (by decide), xi_len (k := 65535) (by decide), xi_nle (k := 65535) (by decide), xi_nlt (k := 65535) (by decide), xi_ltn (k := 65536) (by decide), xi_len (k := 65536) (by decide), xi_nle (k := 65536) (by decide), xi_nlt (k := 65536) (by decide)] at c8
      exact ⟨_, _, _, _, rfl, hH, hX, .inr (.inl ⟨hxr, by omega, rfl⟩)⟩
    · refine hs_iload (i := 2) (p := 12) (by decide +kernel) rfl ?_
      refine hs_k (x := Int32.ofNat 128) (p := 15) (by decide +kernel) ?_
      refine hs_br2 (c := .ge) (t := 28) (f := 18) (by decide +kernel) (fun (c15 : Int32.ofNat 128 ≤ y) => ?_) (fun (c15 : ¬ (Int32.ofNat 128 ≤ y)) => ?_)
      · refine hs_thr (x := 0) (lk := 5) (by decide +kernel) rfl rfl ?_
        try simp only [xi_lt0, xi_ge0, xi_gt0, xi_le0, xi_ltn (k := 1) (by decide), xi_len (k := 1) (by decide), xi_nle (k := 1) (by decide), xi_nlt (k := 1) (by decide), xi_ltn (k := 2) (by decide), xi_len (k := 2) (by decide), xi_nle (k := 2) (by decide), xi_nlt (k := 2) (by decide), xi_ltn (k := 3) (by decide), xi_len (k := 3) (by decide), xi_nle (k := 3) (by decide), xi_nlt (k := 3) (by decide), xi_ltn (k := 6) (by decide), xi_len (k := 6) (by decide), xi_nle (k := 6) (by decide), xi_nlt (k := 6) (by decide), xi_ltn (k := 7) (by decide), xi_len (k := 7) (by decide), xi_nle (k := 7) (by decide), xi_nlt (k := 7) (by decide), xi_ltn (k := 15) (by decide), xi_len (k := 15) (by decide), xi_nle (k := 15) (by decide), xi_nlt (k := 15) (by decide), xi_ltn (k := 16) (by decide), xi_len (k := 16) (by decide), xi_nle (k := 16) (by decide), xi_nlt (k := 16) (by decide), xi_ltn (k := 20) (by decide), xi_len (k := 20) (by decide), xi_nle (k := 20) (by decide), xi_nlt (k := 20) (by decide), xi_ltn (k := 50) (by decide), xi_len (k := 50) (by decide), xi_nle (k := 50) (by decide), xi_nlt (k := 50) (by decide), xi_ltn (k := 60) (by decide), xi_len (k := 60) (by decide), xi_nle (k := 60) (by decide), xi_nlt (k := 60) (by decide), xi_ltn (k := 127) (by decide), xi_len (k := 127) (by decide), xi_nle (k := 127) (by decide), xi_nlt (k := 127) (by decide), xi_ltn (k := 128) (by decide), xi_len (k := 128) (by decide), xi_nle (k := 128) (by decide), xi_nlt (k := 128) (by decide), xi_ltn (k := 200) (by decide), xi_len (k := 200) (by decide), xi_nle (k := 200) (by decide), xi_nlt (k := 200) (by decide), xi_ltn (k := 2000) (by decide), xi_len (k := 2000) (by decide), xi_nle (k := 2000) (by decide), xi_nlt (k := 2000) (by decide), xi_ltn (k := 65535) (by decide), xi_len (k := 65535) (by decide), xi_nle (k := 65535) (by decide), xi_nlt (k := 65535) (by decide), xi_ltn (k := 65536) (by decide), xi_len (k := 65536) (by decide), xi_nle (k := 65536) (by decide), xi_nlt (k := 65536) (by decide)] at c8 c15
        exact ⟨_, _, _, _, rfl, hH, hX, .inr (.inl ⟨hxr, by omega, rfl⟩)⟩
      · refine hs_iload (i := 3) (p := 19) (by decide +kernel) rfl ?_
        refine hs_br1 (c := .lt) (t := 28) (f := 22) (by decide +kernel) (fun (c19 : z < 0) => ?_) (fun (c19 : ¬ (z < 0)) => ?_)
        · refine hs_thr (x := 0) (lk := 5) (by decide +kernel) rfl rfl ?_
          try simp only [xi_lt0, xi_ge0, xi_gt0, xi_le0, xi_ltn (k := 1) (by decide), xi_len (k := 1) (by decide), xi_nle (k := 1) (by decide), xi_nlt (k := 1) (by decide), xi_ltn (k := 2) (by decide), xi_len (k := 2) (by decide), xi_nle (k := 2) (by decide), xi_nlt (k := 2) (by decide), xi_ltn (k := 3) (by decide), xi_len (k := 3) (by decide), xi_nle (k := 3) (by decide), xi_nlt (k := 3) (by decide), xi_ltn (k := 6) (by decide), xi_len (k := 6) (by decide), xi_nle (k := 6) (by decide), xi_nlt (k := 6) (by decide), xi_ltn (k := 7) (by decide), xi_len (k := 7) (by decide), xi_nle (k := 7) (by decide), xi_nlt (k := 7) (by decide), xi_ltn (k := 15) (by decide), xi_len (k := 15) (by decide), xi_nle (k := 15) (by decide), xi_nlt (k := 15) (by decide), xi_ltn (k := 16) (by decide), xi_len (k := 16) (by decide), xi_nle (k := 16) (by decide), xi_nlt (k := 16) (by decide), xi_ltn (k := 20) (by decide), xi_len (k := 20) (by decide), xi_nle (k := 20) (by decide), xi_nlt (k := 20) (by decide), xi_ltn (k := 50) (by decide), xi_len (k := 50) (by decide), xi_nle (k := 50) (by decide), xi_nlt (k := 50) (by decide), xi_ltn (k := 60) (by decide), xi_len (k := 60) (by decide), xi_nle (k := 60) (by decide), xi_nlt (k := 60) (by decide), xi_ltn (k := 127) (by decide), xi_len (k := 127) (by decide), xi_nle (k := 127) (by decide), xi_nlt (k := 127) (by decide), xi_ltn (k := 128) (by decide), xi_len (k := 128) (by decide), xi_nle (k := 128) (by decide), xi_nlt (k := 128) (by decide), xi_ltn (k := 200) (by decide), xi_len (k := 200) (by decide), xi_nle (k := 200) (by decide), xi_nlt (k := 200) (by decide), xi_ltn (k := 2000) (by decide), xi_len (k := 2000) (by decide), xi_nle (k := 2000) (by decide), xi_nlt (k := 2000) (by decide), xi_ltn (k := 65535) (by decide), xi_len (k := 65535) (by decide), xi_nle (k := 65535) (by decide), xi_nlt (k := 65535) (by decide), xi_ltn (k := 65536) (by decide), xi_len (k := 65536) (by decide), xi_nle (k := 65536) (by decide), xi_nlt (k := 65536) (by decide)] at c8 c15 c19
          exact ⟨_, _, _, _, rfl, hH, hX, .inr (.inl ⟨hxr, by omega, rfl⟩)⟩
        · refine hs_iload (i := 3) (p := 23) (by decide +kernel) rfl ?_
          refine hs_k (x := Int32.ofNat 50) (p := 25) (by decide +kernel) ?_
          refine hs_br2 (c := .le) (t := 36) (f := 28) (by decide +kernel) (fun (c25 : z ≤ Int32.ofNat 50) => ?_) (fun (c25 : ¬ (z ≤ Int32.ofNat 50)) => ?_)
          · refine hs_aload (i := 4) (p := 38) (by decide +kernel) rfl ?_
            refine hs_iload (i := 2) (p := 39) (by decide +kernel) rfl ?_
            refine hf_put (T := et_TT) (t := 3) (ci := 1) (f := 6) (p := 42) (ty := .int) (by decide +kernel) rfl rfl rfl rfl rfl hH k_b hi_any (fun G39 hH x39 e39 => ?_)
            have h0 := (x39.2 th 0 lt_th (fun h => (hi_ne k_th k_b (by decide)) h.1)).trans h0
            have h5 := (x39.2 s0 5 lt_s0 (fun h => (hi_ne k_s0 k_b (by decide)) h.1)).trans h5
            have h6 := (x39.2 s0 6 lt_s0 (fun h => (hi_ne k_s0 k_b (by decide)) h.1)).trans h6
            have lt_th := Nat.lt_of_lt_of_le lt_th x39.1
            have lt_s0 := Nat.lt_of_lt_of_le lt_s0 x39.1
            have lt_ea := Nat.lt_of_lt_of_le lt_ea x39.1
            have lt_b := Nat.lt_of_lt_of_le lt_b x39.1
            have hX := hX.tr x39 (fun b j hb h => by obtain ⟨ea, ej⟩ := h; rw [ea]; exact ⟨k_b, by omega⟩)
            refine hs_aload (i := 4) (p := 44) (by decide +kernel) rfl ?_
            refine hs_iload (i := 3) (p := 45) (by decide +kernel) rfl ?_
            refine hf_put (T := et_TT) (t := 3) (ci := 1) (f := 7) (p := 48) (ty := .int) (by decide +kernel) rfl rfl rfl rfl rfl hH k_b hi_any (fun G45 hH x45 e45 => ?_)
            have h0 := (x45.2 th 0 lt_th (fun h => (hi_ne k_th k_b (by decide)) h.1)).trans h0
            have h5 := (x45.2 s0 5 lt_s0 (fun h => (hi_ne k_s0 k_b (by decide)) h.1)).trans h5
            have h6 := (x45.2 s0 6 lt_s0 (fun h => (hi_ne k_s0 k_b (by decide)) h.1)).trans h6
            have e39 := (x45.2 b 6 lt_b (fun h => absurd h.2 (by decide))).trans e39
            have lt_th := Nat.lt_of_lt_of_le lt_th x45.1
            have lt_s0 := Nat.lt_of_lt_of_le lt_s0 x45.1
            have lt_ea := Nat.lt_of_lt_of_le lt_ea x45.1
            have lt_b := Nat.lt_of_lt_of_le lt_b x45.1
            have hX := hX.tr x45 (fun b j hb h => by obtain ⟨ea, ej⟩ := h; rw [ea]; exact ⟨k_b, by omega⟩)
            refine hs_vret (by decide +kernel) ?_
            try simp only [xi_lt0, xi_ge0, xi_gt0, xi_le0, xi_ltn (k := 1) (by decide), xi_len (k := 1) (by decide), xi_nle (k := 1) (by decide), xi_nlt (k := 1) (by decide), xi_ltn (k := 2) (by decide), xi_len (k := 2) (by decide), xi_nle (k := 2) (by decide), xi_nlt (k := 2) (by decide), xi_ltn (k := 3) (by decide), xi_len (k := 3) (by decide), xi_nle (k := 3) (by decide), xi_nlt (k := 3) (by decide), xi_ltn (k := 6) (by decide), xi_len (k := 6) (by decide), xi_nle (k := 6) (by decide), xi_nlt (k := 6) (by decide), xi_ltn (k := 7) (by decide), xi_len (k := 7) (by decide), xi_nle (k := 7) (by decide), xi_nlt (k := 7) (by decide), xi_ltn (k := 15) (by decide), xi_len (k := 15) (by decide), xi_nle (k := 15) (by decide), xi_nlt (k := 15) (by decide), xi_ltn (k := 16) (by decide), xi_len (k := 16) (by decide), xi_nle (k := 16) (by decide), xi_nlt (k := 16) (by decide), xi_ltn (k := 20) (by decide), xi_len (k := 20) (by decide), xi_nle (k := 20) (by decide), xi_nlt (k := 20) (by decide), xi_ltn (k := 50) (by decide), xi_len (k := 50) (by decide), xi_nle (k := 50) (by decide), xi_nlt (k := 50) (by decide), xi_ltn (k := 60) (by decide), xi_len (k := 60) (by decide), xi_nle (k := 60) (by decide), xi_nlt (k := 60) (by decide), xi_ltn (k := 127) (by decide), xi_len (k := 127) (by decide), xi_nle (k := 127) (by decide), xi_nlt (k := 127) (by decide), xi_ltn (k := 128) (by decide), xi_len (k := 128) (by decide), xi_nle (k := 128) (by decide), xi_nlt (k := 128) (by decide), xi_ltn (k := 200) (by decide), xi_len (k := 200) (by decide), xi_nle (k := 200) (by decide), xi_nlt (k := 200) (by decide), xi_ltn (k := 2000) (by decide), xi_len (k := 2000) (by decide), xi_nle (k := 2000) (by decide), xi_nlt (k := 2000) (by decide), xi_ltn (k := 65535) (by decide), xi_len (k := 65535) (by decide), xi_nle (k := 65535) (by decide), xi_nlt (k := 65535) (by decide), xi_ltn (k := 65536) (by decide), xi_len (k := 65536) (by decide), xi_nle (k := 65536) (by decide), xi_nlt (k := 65536) (by decide)] at c8 c15 c19 c25
            exact ⟨_, _, _, _, rfl, hH, hX, .inr (.inr ⟨hxr, by omega, rfl⟩)⟩
          · refine hs_thr (x := 0) (lk := 5) (by decide +kernel) rfl rfl ?_
            try simp only [xi_lt0, xi_ge0, xi_gt0, xi_le0, xi_ltn (k := 1) (by decide), xi_len (k := 1) (by decide), xi_nle (k := 1) (by decide), xi_nlt (k := 1) (by decide), xi_ltn (k := 2) (by decide), xi_len (k := 2) (by decide), xi_nle (k := 2) (by decide), xi_nlt (k := 2) (by decide), xi_ltn (k := 3) (by decide), xi_len (k := 3) (by decide), xi_nle (k := 3) (by decide), xi_nlt (k := 3) (by decide), xi_ltn (k := 6) (by decide), xi_len (k := 6) (by decide), xi_nle (k := 6) (by decide), xi_nlt (k := 6) (by decide), xi_ltn (k := 7) (by decide), xi_len (k := 7) (by decide), xi_nle (k := 7) (by decide), xi_nlt (k := 7) (by decide), xi_ltn (k := 15) (by decide), xi_len (k := 15) (by decide), xi_nle (k := 15) (by decide), xi_nlt (k := 15) (by decide), xi_ltn (k := 16) (by decide), xi_len (k := 16) (by decide), xi_nle (k := 16) (by decide), xi_nlt (k := 16) (by decide), xi_ltn (k := 20) (by decide), xi_len (k := 20) (by decide), xi_nle (k := 20) (by decide), xi_nlt (k := 20) (by decide), xi_ltn (k := 50) (by decide), xi_len (k := 50) (by decide), xi_nle (k := 50) (by decide), xi_nlt (k := 50) (by decide), xi_ltn (k := 60) (by decide), xi_len (k := 60) (by decide), xi_nle (k := 60) (by decide), xi_nlt (k := 60) (by decide), xi_ltn (k := 127) (by decide), xi_len (k := 127) (by decide), xi_nle (k := 127) (by decide), xi_nlt (k := 127) (by decide), xi_ltn (k := 128) (by decide), xi_len (k := 128) (by decide), xi_nle (k := 128) (by decide), xi_nlt (k := 128) (by decide), xi_ltn (k := 200) (by decide), xi_len (k := 200) (by decide), xi_nle (k := 200) (by decide), xi_nlt (k := 200) (by decide), xi_ltn (k := 2000) (by decide), xi_len (k := 2000) (by decide), xi_nle (k := 2000) (by decide), xi_nlt (k := 2000) (by decide), xi_ltn (k := 65535) (by decide), xi_len (k := 65535) (by decide), xi_nle (k := 65535) (by decide), xi_nlt (k := 65535) (by decide), xi_ltn (k := 65536) (by decide), xi_len (k := 65536) (by decide), xi_nle (k := 65536) (by decide), xi_nlt (k := 65536) (by decide)] at c8 c15 c19 c25
            exact ⟨_, _, _, _, rfl, hH, hX, .inr (.inl ⟨hxr, by omega, rfl⟩)⟩
theorem fh_stuck (hH : et_H et_TT K G) (k_th : K th = some 12) (h0 : et_pl (eg_at G th) 0 = some (.ref s0)) (k_s0 : K s0 = some 10) (h5 : et_pl (eg_at G s0) 5 = some (.int (Int32.ofNat e))) (he : e ≤ 3) (h6 : et_pl (eg_at G s0) 6 = some (.ref ea)) (k_ea : K ea = some 40) (hd : 2 ≤ d2) : et_go none d2 9 0 (eg_en (eg_mL 9) [.ref th, .int x, .int y, .int z]) [] G 0 0 (xe_Z (fun b j => K b = some 3 ∧ 6 ≤ j) K G (fun _ r => (¬ xr x e ∧ r = .inl (some (.int (Int32.ofNat 1)))) ∨ (xr x e ∧ ¬ (0 ≤ y.toInt ∧ y.toInt ≤ 127 ∧ 0 ≤ z.toInt ∧ z.toInt ≤ 50) ∧ r = .inl (some (.int (Int32.ofNat 2)))) ∨ (xr x e ∧ ¬ ¬ (0 ≤ y.toInt ∧ y.toInt ≤ 127 ∧ 0 ≤ z.toInt ∧ z.toInt ≤ 50) ∧ r = .inl (some (.int (Int32.ofNat 0)))))) := by
  obtain ⟨d, rfl⟩ : ∃ d, d2 = d + 1 := ⟨d2 - 1, by omega⟩
  rw [show eg_mL 9 = 5 from by decide +kernel]
  show et_go none (d + 1) 9 0 [some (.ref th), some (.int x), some (.int y), some (.int z), none] [] G 0 0 _
  have lt_th := (hH.2.2 _ _ k_th).1
  refine hs_aload (i := 0) (p := 1) (by decide +kernel) rfl ?_
  refine hs_iload (i := 1) (p := 2) (by decide +kernel) rfl ?_
  refine hs_iload (i := 2) (p := 3) (by decide +kernel) rfl ?_
  refine hs_iload (i := 3) (p := 4) (by decide +kernel) rfl ?_
  refine ht_callv (T := et_TT) (t := 12) (mi := 143) (na := 3) (ci := 10) (lk := 5) (lm := 5) (L0 := eg_en (eg_mL 143) [.ref th, .int x, .int y, .int z]) (by decide +kernel) rfl hH k_th rfl rfl rfl rfl rfl (by rw [show eg_mL 143 = 5 from by decide +kernel]; first | done | rfl) ?_
  refine (fc_stuck hH k_th h0 k_s0 h5 he h6 k_ea (by omega)).mono (fun u hu => ?_)
  obtain ⟨G4, v4, c4, s4, rfl, hH, x4, hP4⟩ := hu
  rcases hP4 with ⟨hr, rfl⟩ | ⟨hr, hb, rfl⟩ | ⟨hr, hb, rfl⟩
  · refine hs_ch (h := 10) (i := 4) (n := 2) (hh := (eg_mh 9).getD []) (by decide +kernel) ⟨by decide +kernel, by decide +kernel⟩ (Nat.le_of_ble_eq_true rfl) ?_
    show et_go none _ 9 12 [some (.ref th), some (.int x), some (.int y), some (.int z), none] [] _ _ _ _
    refine hs_k (x := Int32.ofNat 1) (p := 13) (by decide +kernel) ?_
    refine hs_iret (by decide +kernel) ?_
    exact ⟨_, _, _, _, rfl, hH, x4, .inl ⟨hr, rfl⟩⟩
  · refine hs_ch (h := 14) (i := 4) (n := 2) (hh := (eg_mh 9).getD []) (by decide +kernel) ⟨by decide +kernel, by decide +kernel⟩ (Nat.le_of_ble_eq_true rfl) ?_
    show et_go none _ 9 16 [some (.ref th), some (.int x), some (.int y), some (.int z), none] [] _ _ _ _
    refine hs_k (x := Int32.ofNat 2) (p := 17) (by decide +kernel) ?_
    refine hs_iret (by decide +kernel) ?_
    exact ⟨_, _, _, _, rfl, hH, x4, .inr (.inl ⟨hr, hb, rfl⟩)⟩
  · refine hs_cb ?_
    show et_go none _ 9 7 _ [] _ _ _ _
    refine hs_goto (p := 18) (by decide +kernel) ?_
    refine hs_k (x := Int32.ofNat 0) (p := 19) (by decide +kernel) ?_
    refine hs_iret (by decide +kernel) ?_
    exact ⟨_, _, _, _, rfl, hH, x4, .inr (.inr ⟨hr, hb, rfl⟩)⟩
theorem fm_in : et_go none d2 209 0 (eg_en (eg_mL 209) [.int x, .int y, .int z]) [] G 0 0 (xp_Z G (some (.int (Int32.ofNat (if y.toInt ≤ x.toInt ∧ x.toInt ≤ z.toInt then 1 else 0))))) := by
  rw [show eg_mL 209 = 3 from by decide +kernel]
  show et_go none d2 209 0 [some (.int x), some (.int y), some (.int z)] [] G 0 0 _
  refine hs_iload (i := 0) (p := 1) (by decide +kernel) rfl ?_
  refine hs_iload (i := 1) (p := 2) (by decide +kernel) rfl ?_
  refine hs_br2 (c := .lt) (t := 14) (f := 5) (by decide +kernel) (fun (c2 : x < y) => ?_) (fun (c2 : ¬ (x < y)) => ?_)
  · refine hs_k (x := Int32.ofNat 0) (p := 15) (by decide +kernel) ?_
    refine hs_zret (by decide +kernel) (.inl rfl) ?_
    simp only [Int32.lt_iff_toInt_lt] at c2
    rw [if_neg (by omega)]
    rfl
  · refine hs_iload (i := 0) (p := 6) (by decide +kernel) rfl ?_
    refine hs_iload (i := 2) (p := 7) (by decide +kernel) rfl ?_
    refine hs_br2 (c := .gt) (t := 14) (f := 10) (by decide +kernel) (fun (c7 : z < x) => ?_) (fun (c7 : ¬ (z < x)) => ?_)
    · refine hs_k (x := Int32.ofNat 0) (p := 15) (by decide +kernel) ?_
      refine hs_zret (by decide +kernel) (.inl rfl) ?_
      simp only [Int32.lt_iff_toInt_lt] at c2 c7
      rw [if_neg (by omega)]
      rfl
    · refine hs_k (x := Int32.ofNat 1) (p := 11) (by decide +kernel) ?_
      refine hs_goto (p := 15) (by decide +kernel) ?_
      refine hs_zret (by decide +kernel) (.inr rfl) ?_
      simp only [Int32.lt_iff_toInt_lt] at c2 c7
      rw [if_pos (by omega)]
      rfl
theorem fm_noEye (hH : et_H et_TT K G) (k_am : K am = some 13) (k_aw : K aw = some 46) (h1 : et_pl (eg_at G am) 1 = some (.ref aw)) (h4 : et_pl (eg_at G aw) 4 = some (.int (Int32.ofNat e))) (he : e ≤ 3) (hd : 1 ≤ d2) : et_go none d2 208 0 (eg_en (eg_mL 208) [.ref am, .int x]) [] G 0 0 (fun u => (xr x e ∧ u = (.inl (some (.int (Int32.ofNat 0))), G, 0, 0)) ∨ (¬ xr x e ∧ u = (.inl (some (.int (Int32.ofNat 1))), G, 0, 0))) := by
  obtain ⟨d, rfl⟩ : ∃ d, d2 = d + 1 := ⟨d2 - 1, by omega⟩
  have hq : (Int32.ofNat e - Int32.ofNat 1).toInt = (e : Int) - 1 := by
    have h : ∀ k ∈ List.range 4, (Int32.ofNat k - Int32.ofNat 1).toInt = (k : Int) - 1 := by decide +kernel
    exact h e (List.mem_range.mpr (by omega))
  rw [show eg_mL 208 = 2 from by decide +kernel]
  show et_go none (d + 1) 208 0 [some (.ref am), some (.int x)] [] G 0 0 _
  have lt_am := (hH.2.2 _ _ k_am).1
  have lt_aw := (hH.2.2 _ _ k_aw).1
  refine hs_iload (i := 1) (p := 1) (by decide +kernel) rfl ?_
  refine hs_k (x := Int32.ofNat 0) (p := 2) (by decide +kernel) ?_
  refine hs_aload (i := 0) (p := 3) (by decide +kernel) rfl ?_
  refine hf_get (T := et_TT) (t := 13) (ci := 11) (f := 1) (p := 6) (by decide +kernel) rfl hH k_am h1 ?_
  refine hs_k (x := Int32.ofNat 4) (p := 7) (by decide +kernel) ?_
  refine hf_ald (ins := .iaload) (T := et_TT) (t := 46) (kd := 0) (N := 12741) (p := 8) (by decide +kernel) (fun _ _ _ _ _ _ _ _ _ _ => rfl) rfl rfl rfl hH k_aw (by decide) h4 ?_
  refine hs_k (x := Int32.ofNat 1) (p := 9) (by decide +kernel) ?_
  refine hs_isub (p := 10) (by decide +kernel) ?_
  refine hs_calls (mi := 209) (na := 3) (lk := 2) (lm := 3) (L0 := eg_en (eg_mL 209) [.int x, .int (Int32.ofNat 0), .int (Int32.ofNat e - Int32.ofNat 1)]) (by decide +kernel) rfl rfl rfl rfl rfl rfl (by rw [show eg_mL 209 = 3 from by decide +kernel]; first | done | rfl) ?_
  refine fm_in.mono (fun u hu => xp_cb hu ?_)
  rw [hq]
  by_cases hxr : xr x e
  · rw [if_pos (show (Int32.ofNat 0).toInt ≤ x.toInt ∧ x.toInt ≤ (e : Int) - 1 from by rw [hs_nint (by decide)]; unfold xr at hxr; omega)]
    show et_go none _ 208 13 _ [.int (Int32.ofNat 1)] _ _ _ _
    refine hs_if1 (c := .ne) (t := 20) (f := 16) (by decide +kernel) (show ¬ Int32.ofNat 1 = 0 by decide) ?_
    refine hs_k (x := Int32.ofNat 0) (p := 21) (by decide +kernel) ?_
    refine hs_zret (by decide +kernel) (.inl rfl) ?_
    exact .inl ⟨hxr, rfl⟩
  · rw [if_neg (show ¬ ((Int32.ofNat 0).toInt ≤ x.toInt ∧ x.toInt ≤ (e : Int) - 1) from by rw [hs_nint (by decide)]; unfold xr at hxr; omega)]
    show et_go none _ 208 13 _ [.int (Int32.ofNat 0)] _ _ _ _
    refine hs_if0 (c := .ne) (t := 20) (f := 16) (by decide +kernel) (show ¬ (¬ Int32.ofNat 0 = 0) by decide) ?_
    refine hs_k (x := Int32.ofNat 1) (p := 17) (by decide +kernel) ?_
    refine hs_goto (p := 21) (by decide +kernel) ?_
    refine hs_zret (by decide +kernel) (.inr rfl) ?_
    exact .inr ⟨hxr, rfl⟩
theorem xi_ix {n e k : Nat} (hn : n < e) (he : e ≤ 3) (hk : k < 23) : 45 ≤ 45 + 23 * n + k ∧ 45 + 23 * n + k ≤ 113 := by omega
theorem hf_any {K : et_K} {n k : Nat} {x : Int32} (hn : n < 3) (hk : 20 ≤ k) (hk2 : k < 23) : ∀ s ∈ et_w46, s.1 ≤ 45 + 23 * n + k → 45 + 23 * n + k ≤ s.2.1 → et_v K s.2.2 (.int x) := by
  intro s hs h1 h2
  have h : et_w46.all (fun s => decide (s.2.1 < 65) || (decide (67 < s.1) && decide (s.2.1 < 88)) || (decide (90 < s.1) && decide (s.2.1 < 111)) || decide (113 < s.1)) = true := by decide +kernel
  have h3 := List.all_eq_true.mp h s hs
  simp only [Bool.or_eq_true, Bool.and_eq_true, decide_eq_true_eq] at h3
  omega
theorem fm_stuck (hH : et_H et_TT K G) (k_am : K am = some 13) (k_aw : K aw = some 46) (h1 : et_pl (eg_at G am) 1 = some (.ref aw)) (h4 : et_pl (eg_at G aw) 4 = some (.int (Int32.ofNat e))) (he : e ≤ 3) (hd : 2 ≤ d2) : et_go none d2 229 0 (eg_en (eg_mL 229) [.ref am, .int x, .int y, .int z]) [] G 0 0 (xw_Z (fun b j => (b = am ∧ j = 0) ∨ (b = aw ∧ 45 ≤ j ∧ j ≤ 113)) K G (fun G' _ => (¬ xr x e ∧ et_pl (eg_at G' am) 0 = some (.int (Int32.ofNat 1))) ∨ (xr x e ∧ ¬ (0 ≤ y.toInt ∧ y.toInt ≤ 127 ∧ 0 ≤ z.toInt ∧ z.toInt ≤ 50) ∧ et_pl (eg_at G' am) 0 = some (.int (Int32.ofNat 2))) ∨ (xr x e ∧ ¬ ¬ (0 ≤ y.toInt ∧ y.toInt ≤ 127 ∧ 0 ≤ z.toInt ∧ z.toInt ≤ 50) ∧ et_pl (eg_at G' am) 0 = some (.int (Int32.ofNat 0))))) := by
  obtain ⟨d, rfl⟩ : ∃ d, d2 = d + 2 := ⟨d2 - 2, by omega⟩
  rw [show eg_mL 229 = 4 from by decide +kernel]
  show et_go none (d + 2) 229 0 [some (.ref am), some (.int x), some (.int y), some (.int z)] [] G 0 0 _
  have lt_am := (hH.2.2 _ _ k_am).1
  have lt_aw := (hH.2.2 _ _ k_aw).1
  have hX : xf (fun b j => (b = am ∧ j = 0) ∨ (b = aw ∧ 45 ≤ j ∧ j ≤ 113)) G G := xf.rf
  refine hs_aload (i := 0) (p := 1) (by decide +kernel) rfl ?_
  refine hs_k (x := Int32.ofNat 0) (p := 2) (by decide +kernel) ?_
  refine hf_put (T := et_TT) (t := 13) (ci := 11) (f := 0) (p := 5) (ty := .int) (by decide +kernel) rfl rfl rfl rfl rfl hH k_am hi_any (fun G2 hH x2 e2 => ?_)
  have h1 := (x2.2 am 1 lt_am (fun h => absurd h.2 (by decide))).trans h1
  have h4 := (x2.2 aw 4 lt_aw (fun h => (hi_ne k_aw k_am (by decide)) h.1)).trans h4
  have lt_am := Nat.lt_of_lt_of_le lt_am x2.1
  have lt_aw := Nat.lt_of_lt_of_le lt_aw x2.1
  have hX := hX.tr x2 (fun b j hb h => by first | omega | (dsimp only at h ⊢; omega) | (dsimp only at h; omega) | (dsimp only; omega))
  refine hs_aload (i := 0) (p := 6) (by decide +kernel) rfl ?_
  refine hs_aload (i := 0) (p := 7) (by decide +kernel) rfl ?_
  refine hs_iload (i := 1) (p := 8) (by decide +kernel) rfl ?_
  refine ht_callv (T := et_TT) (t := 13) (mi := 208) (na := 1) (ci := 11) (lk := 4) (lm := 2) (L0 := eg_en (eg_mL 208) [.ref am, .int x]) (by decide +kernel) rfl hH k_am rfl rfl rfl rfl rfl (by rw [show eg_mL 208 = 2 from by decide +kernel]; first | done | rfl) ?_
  refine (fm_noEye hH k_am k_aw h1 h4 he (by omega)).mono (fun u hu => ?_)
  rcases hu with ⟨hxr, rfl⟩ | ⟨hxr, rfl⟩
  · obtain ⟨n, rfl, hn⟩ := xi_nn (x := x) (by rw [xi_lt0]; unfold xr at hxr; omega)
    have hne : n < e := by unfold xr at hxr; rw [hs_nint hn] at hxr; omega
    refine hs_cb ?_
    show et_go none _ 229 11 _ [.int (Int32.ofNat 0), .ref am] _ _ _ _
    refine hs_k (x := Int32.ofNat 1) (p := 12) (by decide +kernel) ?_
    refine ht_callv (T := et_TT) (t := 13) (mi := 204) (na := 2) (ci := 11) (lk := 4) (lm := 3) (L0 := eg_en (eg_mL 204) [.ref am, .int (Int32.ofNat 0), .int (Int32.ofNat 1)]) (by decide +kernel) rfl hH k_am rfl rfl rfl rfl rfl (by rw [show eg_mL 204 = 3 from by decide +kernel]; first | done | rfl) ?_
    refine (fm_thr (x := Int32.ofNat 0) hH k_am (.inl rfl)).mono (fun u hu => xw_cb hu (fun G12 v12 hH x12 hP12 => ?_))
    obtain ⟨rfl, ⟨-, rfl⟩ | ⟨hz, -⟩⟩ := hP12
    rotate_left
    · exact absurd rfl hz
    show et_go none _ 229 15 _ [.int (Int32.ofNat 0)] _ _ _ _
    refine hs_if0 (c := .ne) (t := 51) (f := 18) (by decide +kernel) (show ¬ (¬ Int32.ofNat 0 = 0) by decide) ?_
    refine hs_aload (i := 0) (p := 19) (by decide +kernel) rfl ?_
    refine hs_iload (i := 2) (p := 20) (by decide +kernel) rfl ?_
    refine hs_k (x := Int32.ofNat 0) (p := 21) (by decide +kernel) ?_
    refine hs_k (x := Int32.ofNat 127) (p := 23) (by decide +kernel) ?_
    refine hs_calls (mi := 209) (na := 3) (lk := 4) (lm := 3) (L0 := eg_en (eg_mL 209) [.int y, .int (Int32.ofNat 0), .int (Int32.ofNat 127)]) (by decide +kernel) rfl rfl rfl rfl rfl rfl (by rw [show eg_mL 209 = 3 from by decide +kernel]; first | done | rfl) ?_
    refine fm_in.mono (fun u hu => xp_cb hu ?_)
    by_cases hr23 : (Int32.ofNat 0).toInt ≤ y.toInt ∧ y.toInt ≤ (Int32.ofNat 127).toInt
    · rw [if_pos hr23]
      rw [hs_nint (show 0 < 2147483648 by decide), hs_nint (show 127 < 2147483648 by decide)] at hr23
      show et_go none _ 229 26 _ [.int (Int32.ofNat 1), .ref am] _ _ _ _
      refine hs_if0 (c := .eq) (t := 39) (f := 29) (by decide +kernel) (show ¬ (Int32.ofNat 1 = 0) by decide) ?_
      refine hs_iload (i := 3) (p := 30) (by decide +kernel) rfl ?_
      refine hs_k (x := Int32.ofNat 0) (p := 31) (by decide +kernel) ?_
      refine hs_k (x := Int32.ofNat 50) (p := 33) (by decide +kernel) ?_
      refine hs_calls (mi := 209) (na := 3) (lk := 4) (lm := 3) (L0 := eg_en (eg_mL 209) [.int z, .int (Int32.ofNat 0), .int (Int32.ofNat 50)]) (by decide +kernel) rfl rfl rfl rfl rfl rfl (by rw [show eg_mL 209 = 3 from by decide +kernel]; first | done | rfl) ?_
      refine fm_in.mono (fun u hu => xp_cb hu ?_)
      by_cases hr33 : (Int32.ofNat 0).toInt ≤ z.toInt ∧ z.toInt ≤ (Int32.ofNat 50).toInt
      · rw [if_pos hr33]
        rw [hs_nint (show 0 < 2147483648 by decide), hs_nint (show 50 < 2147483648 by decide)] at hr33
        show et_go none _ 229 36 _ [.int (Int32.ofNat 1), .ref am] _ _ _ _
        refine hs_if1 (c := .ne) (t := 43) (f := 39) (by decide +kernel) (show ¬ Int32.ofNat 1 = 0 by decide) ?_
        refine hs_k (x := Int32.ofNat 0) (p := 44) (by decide +kernel) ?_
        refine hs_k (x := Int32.ofNat 2) (p := 45) (by decide +kernel) ?_
        refine ht_callv (T := et_TT) (t := 13) (mi := 204) (na := 2) (ci := 11) (lk := 4) (lm := 3) (L0 := eg_en (eg_mL 204) [.ref am, .int (Int32.ofNat 0), .int (Int32.ofNat 2)]) (by decide +kernel) rfl hH k_am rfl rfl rfl rfl rfl (by rw [show eg_mL 204 = 3 from by decide +kernel]; first | done | rfl) ?_
        refine (fm_thr (x := Int32.ofNat 0) hH k_am (.inl rfl)).mono (fun u hu => xw_cb hu (fun G45 v45 hH x45 hP45 => ?_))
        obtain ⟨rfl, ⟨-, rfl⟩ | ⟨hz, -⟩⟩ := hP45
        rotate_left
        · exact absurd rfl hz
        show et_go none _ 229 48 _ [.int (Int32.ofNat 0)] _ _ _ _
        refine hs_if1 (c := .eq) (t := 52) (f := 51) (by decide +kernel) (show Int32.ofNat 0 = 0 by decide) ?_
        refine hs_aload (i := 0) (p := 53) (by decide +kernel) rfl ?_
        refine hf_get (T := et_TT) (t := 13) (ci := 11) (f := 1) (p := 56) (by decide +kernel) rfl hH k_am h1 ?_
        refine hs_k (x := Int32.ofNat 45) (p := 58) (by decide +kernel) ?_
        refine hs_k (x := Int32.ofNat 23) (p := 60) (by decide +kernel) ?_
        refine hs_iload (i := 1) (p := 61) (by decide +kernel) rfl ?_
        refine hs_imuln (p := 62) (by decide +kernel) ?_
        refine hs_iaddn (p := 63) (by decide +kernel) ?_
        refine hs_k (x := Int32.ofNat 20) (p := 65) (by decide +kernel) ?_
        refine hs_iaddn (p := 66) (by decide +kernel) ?_
        refine hs_iload (i := 2) (p := 67) (by decide +kernel) rfl ?_
        refine hf_wst (p := 68) (by decide +kernel) hH k_aw (by omega) (hf_any (by omega) (by omega) (by omega)) (fun G67 hH x67 e67 => ?_)
        have h1 := (x67.2 am 1 lt_am (fun h => (hi_ne k_am k_aw (by decide)) h.1)).trans h1
        have h4 := (x67.2 aw 4 lt_aw (fun h => by have h := h.2; omega)).trans h4
        have e2 := (x67.2 am 0 lt_am (fun h => (hi_ne k_am k_aw (by decide)) h.1)).trans e2
        have lt_am := Nat.lt_of_lt_of_le lt_am x67.1
        have lt_aw := Nat.lt_of_lt_of_le lt_aw x67.1
        have hX := hX.tr x67 (fun b j hb h => by first | omega | (dsimp only at h ⊢; omega) | (dsimp only at h; omega) | (dsimp only; omega))
        refine hs_aload (i := 0) (p := 69) (by decide +kernel) rfl ?_
        refine hf_get (T := et_TT) (t := 13) (ci := 11) (f := 1) (p := 72) (by decide +kernel) rfl hH k_am h1 ?_
        refine hs_k (x := Int32.ofNat 45) (p := 74) (by decide +kernel) ?_
        refine hs_k (x := Int32.ofNat 23) (p := 76) (by decide +kernel) ?_
        refine hs_iload (i := 1) (p := 77) (by decide +kernel) rfl ?_
        refine hs_imuln (p := 78) (by decide +kernel) ?_
        refine hs_iaddn (p := 79) (by decide +kernel) ?_
        refine hs_k (x := Int32.ofNat 21) (p := 81) (by decide +kernel) ?_
        refine hs_iaddn (p := 82) (by decide +kernel) ?_
        refine hs_iload (i := 3) (p := 83) (by decide +kernel) rfl ?_
        refine hf_wst (p := 84) (by decide +kernel) hH k_aw (by omega) (hf_any (by omega) (by omega) (by omega)) (fun G83 hH x83 e83 => ?_)
        have h1 := (x83.2 am 1 lt_am (fun h => (hi_ne k_am k_aw (by decide)) h.1)).trans h1
        have h4 := (x83.2 aw 4 lt_aw (fun h => by have h := h.2; omega)).trans h4
        have e2 := (x83.2 am 0 lt_am (fun h => (hi_ne k_am k_aw (by decide)) h.1)).trans e2
        have lt_am := Nat.lt_of_lt_of_le lt_am x83.1
        have lt_aw := Nat.lt_of_lt_of_le lt_aw x83.1
        have hX := hX.tr x83 (fun b j hb h => by first | omega | (dsimp only at h ⊢; omega) | (dsimp only at h; omega) | (dsimp only; omega))
        refine hs_vret (by decide +kernel) ?_
        exact ⟨_, _, rfl, hH, hX, .inr (.inr ⟨hxr, by omega, e2⟩)⟩
      · rw [if_neg hr33]
        rw [hs_nint (show 0 < 2147483648 by decide), hs_nint (show 50 < 2147483648 by decide)] at hr33
        show et_go none _ 229 36 _ [.int (Int32.ofNat 0), .ref am] _ _ _ _
        refine hs_if0 (c := .ne) (t := 43) (f := 39) (by decide +kernel) (show ¬ (¬ Int32.ofNat 0 = 0) by decide) ?_
        refine hs_k (x := Int32.ofNat 1) (p := 40) (by decide +kernel) ?_
        refine hs_goto (p := 44) (by decide +kernel) ?_
        refine hs_k (x := Int32.ofNat 2) (p := 45) (by decide +kernel) ?_
        refine ht_callv (T := et_TT) (t := 13) (mi := 204) (na := 2) (ci := 11) (lk := 4) (lm := 3) (L0 := eg_en (eg_mL 204) [.ref am, .int (Int32.ofNat 1), .int (Int32.ofNat 2)]) (by decide +kernel) rfl hH k_am rfl rfl rfl rfl rfl (by rw [show eg_mL 204 = 3 from by decide +kernel]; first | done | rfl) ?_
        refine (fm_thr (x := Int32.ofNat 1) hH k_am (.inr rfl)).mono (fun u hu => xw_cb hu (fun G45 v45 hH x45 hP45 => ?_))
        have h1 := (x45.2 am 1 lt_am (fun h => absurd h.2 (by decide))).trans h1
        have h4 := (x45.2 aw 4 lt_aw (fun h => (hi_ne k_aw k_am (by decide)) h.1)).trans h4
        have lt_am := Nat.lt_of_lt_of_le lt_am x45.1
        have lt_aw := Nat.lt_of_lt_of_le lt_aw x45.1
        have hX := hX.tr x45 (fun b j hb h => by first | omega | (dsimp only at h ⊢; omega) | (dsimp only at h; omega) | (dsimp only; omega))
        obtain ⟨rfl, ⟨hz, -⟩ | ⟨-, e45⟩⟩ := hP45
        · exact absurd hz (by decide)
        show et_go none _ 229 48 _ [.int (Int32.ofNat 1)] _ _ _ _
        refine hs_if0 (c := .eq) (t := 52) (f := 51) (by decide +kernel) (show ¬ (Int32.ofNat 1 = 0) by decide) ?_
        refine hs_vret (by decide +kernel) ?_
        exact ⟨_, _, rfl, hH, hX, .inr (.inl ⟨hxr, by omega, e45⟩)⟩
    · rw [if_neg hr23]
      rw [hs_nint (show 0 < 2147483648 by decide), hs_nint (show 127 < 2147483648 by decide)] at hr23
      show et_go none _ 229 26 _ [.int (Int32.ofNat 0), .ref am] _ _ _ _
      refine hs_if1 (c := .eq) (t := 39) (f := 29) (by decide +kernel) (show Int32.ofNat 0 = 0 by decide) ?_
      refine hs_k (x := Int32.ofNat 1) (p := 40) (by decide +kernel) ?_
      refine hs_goto (p := 44) (by decide +kernel) ?_
      refine hs_k (x := Int32.ofNat 2) (p := 45) (by decide +kernel) ?_
      refine ht_callv (T := et_TT) (t := 13) (mi := 204) (na := 2) (ci := 11) (lk := 4) (lm := 3) (L0 := eg_en (eg_mL 204) [.ref am, .int (Int32.ofNat 1), .int (Int32.ofNat 2)]) (by decide +kernel) rfl hH k_am rfl rfl rfl rfl rfl (by rw [show eg_mL 204 = 3 from by decide +kernel]; first | done | rfl) ?_
      refine (fm_thr (x := Int32.ofNat 1) hH k_am (.inr rfl)).mono (fun u hu => xw_cb hu (fun G45 v45 hH x45 hP45 => ?_))
      have h1 := (x45.2 am 1 lt_am (fun h => absurd h.2 (by decide))).trans h1
      have h4 := (x45.2 aw 4 lt_aw (fun h => (hi_ne k_aw k_am (by decide)) h.1)).trans h4
      have lt_am := Nat.lt_of_lt_of_le lt_am x45.1
      have lt_aw := Nat.lt_of_lt_of_le lt_aw x45.1
      have hX := hX.tr x45 (fun b j hb h => by first | omega | (dsimp only at h ⊢; omega) | (dsimp only at h; omega) | (dsimp only; omega))
      obtain ⟨rfl, ⟨hz, -⟩ | ⟨-, e45⟩⟩ := hP45
      · exact absurd hz (by decide)
      show et_go none _ 229 48 _ [.int (Int32.ofNat 1)] _ _ _ _
      refine hs_if0 (c := .eq) (t := 52) (f := 51) (by decide +kernel) (show ¬ (Int32.ofNat 1 = 0) by decide) ?_
      refine hs_vret (by decide +kernel) ?_
      exact ⟨_, _, rfl, hH, hX, .inr (.inl ⟨hxr, by omega, e45⟩)⟩
  · refine hs_cb ?_
    show et_go none _ 229 11 _ [.int (Int32.ofNat 1), .ref am] _ _ _ _
    refine hs_k (x := Int32.ofNat 1) (p := 12) (by decide +kernel) ?_
    refine ht_callv (T := et_TT) (t := 13) (mi := 204) (na := 2) (ci := 11) (lk := 4) (lm := 3) (L0 := eg_en (eg_mL 204) [.ref am, .int (Int32.ofNat 1), .int (Int32.ofNat 1)]) (by decide +kernel) rfl hH k_am rfl rfl rfl rfl rfl (by rw [show eg_mL 204 = 3 from by decide +kernel]; first | done | rfl) ?_
    refine (fm_thr (x := Int32.ofNat 1) hH k_am (.inr rfl)).mono (fun u hu => xw_cb hu (fun G12 v12 hH x12 hP12 => ?_))
    have h1 := (x12.2 am 1 lt_am (fun h => absurd h.2 (by decide))).trans h1
    have h4 := (x12.2 aw 4 lt_aw (fun h => (hi_ne k_aw k_am (by decide)) h.1)).trans h4
    have lt_am := Nat.lt_of_lt_of_le lt_am x12.1
    have lt_aw := Nat.lt_of_lt_of_le lt_aw x12.1
    have hX := hX.tr x12 (fun b j hb h => by first | omega | (dsimp only at h ⊢; omega) | (dsimp only at h; omega) | (dsimp only; omega))
    obtain ⟨rfl, ⟨hz, -⟩ | ⟨-, e12⟩⟩ := hP12
    · exact absurd hz (by decide)
    show et_go none _ 229 15 _ [.int (Int32.ofNat 1)] _ _ _ _
    refine hs_if1 (c := .ne) (t := 51) (f := 18) (by decide +kernel) (show ¬ Int32.ofNat 1 = 0 by decide) ?_
    refine hs_vret (by decide +kernel) ?_
    exact ⟨_, _, rfl, hH, hX, .inl ⟨hxr, e12⟩⟩
end FJA
