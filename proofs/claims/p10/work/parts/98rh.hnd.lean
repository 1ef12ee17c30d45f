/-! FUNCTIONAL: end, both sides -/
section FHA
variable {K : et_K} {G G0 : eg_G} {d2 d th rd ta am c : Nat} {x : Int32}
theorem xi_nat {x : Int32} (h : 0 ≤ x) : x = Int32.ofNat x.toInt.toNat := by
  refine Int32.toInt_inj.mp ?_
  have h1 : (0 : Int32).toInt ≤ x.toInt := Int32.le_iff_toInt_le.mp h
  have h0 : (0 : Int32).toInt = 0 := rfl
  have h2 := x.toInt_lt
  rw [hs_nint (by omega)]
  omega
theorem fc_cut (hH : et_H et_TT K G) (k_rd : K rd = some 7) (r1 : et_pl (eg_at G rd) 1 = some (.int (Int32.ofNat c))) (hc : c ≤ 400) : et_go none d2 65 0 (eg_en (eg_mL 65) [.ref rd, .int x]) [] G 0 0 (xw_Z (fun b j => (b = rd ∧ j = 1)) K G (fun G' r => ((0 ≤ x.toInt ∧ x.toInt ≤ (c : Int)) ∧ r = some (.int (Int32.ofNat 1)) ∧ et_pl (eg_at G' rd) 1 = some (.int x)) ∨ (¬ (0 ≤ x.toInt ∧ x.toInt ≤ (c : Int)) ∧ r = some (.int (Int32.ofNat 0)) ∧ et_pl (eg_at G' rd) 1 = some (.int (Int32.ofNat c))))) := by
  have hcn : (Int32.ofNat c).toInt = (c : Int) := hs_nint (by omega)
  have hz : (0 : Int32).toInt = 0 := rfl
  rw [show eg_mL 65 = 2 from by decide +kernel]
  show et_go none d2 65 0 [some (.ref rd), some (.int x)] [] G 0 0 _
  have lt_rd := (hH.2.2 _ _ k_rd).1
  have hX : xf (fun b j => (b = rd ∧ j = 1)) G G := xf.rf
  refine hs_iload (i := 1) (p := 1) (by decide +kernel) rfl ?_
  refine hs_br1 (c := .lt) (t := 12) (f := 4) (by decide +kernel) (fun (c1 : x < 0) => ?_) (fun (c1 : ¬ (x < 0)) => ?_)
  · refine hs_k (x := Int32.ofNat 0) (p := 13) (by decide +kernel) ?_
    refine hs_zret (by decide +kernel) (.inl rfl) ?_
    simp only [Int32.lt_iff_toInt_lt, Int32.le_iff_toInt_le, hcn, hz] at c1
    exact ⟨_, _, rfl, hH, hX, .inr ⟨by omega, rfl, r1⟩⟩
  · refine hs_iload (i := 1) (p := 5) (by decide +kernel) rfl ?_
    refine hs_aload (i := 0) (p := 6) (by decide +kernel) rfl ?_
    refine hf_get (T := et_TT) (t := 7) (ci := 5) (f := 1) (p := 9) (by decide +kernel) rfl hH k_rd r1 ?_
    refine hs_br2 (c := .le) (t := 14) (f := 12) (by decide +kernel) (fun (c9 : x ≤ Int32.ofNat c) => ?_) (fun (c9 : ¬ (x ≤ Int32.ofNat c)) => ?_)
    · refine hs_aload (i := 0) (p := 15) (by decide +kernel) rfl ?_
      refine hs_iload (i := 1) (p := 16) (by decide +kernel) rfl ?_
      refine hf_put (T := et_TT) (t := 7) (ci := 5) (f := 1) (p := 19) (ty := .int) (by decide +kernel) rfl rfl rfl rfl rfl hH k_rd (by have h4 := c1; have h9 := c9; simp only [Int32.lt_iff_toInt_lt, Int32.le_iff_toInt_le, hcn, hz] at h4 h9; rw [xi_nat (x := x) (by rw [Int32.le_iff_toInt_le, hz]; omega)]; exact hi_nv (by omega) (by omega)) (fun G16 hH x16 e16 => ?_)
      have lt_rd := Nat.lt_of_lt_of_le lt_rd x16.1
      have hX := hX.tr x16 (fun b j hb h => by first | omega | (dsimp only at h ⊢; omega) | (dsimp only at h; omega) | (dsimp only; omega))
      refine hs_k (x := Int32.ofNat 1) (p := 20) (by decide +kernel) ?_
      refine hs_zret (by decide +kernel) (.inr rfl) ?_
      simp only [Int32.lt_iff_toInt_lt, Int32.le_iff_toInt_le, hcn, hz] at c1 c9
      exact ⟨_, _, rfl, hH, hX, .inl ⟨⟨by omega, by omega⟩, rfl, e16⟩⟩
    · refine hs_k (x := Int32.ofNat 0) (p := 13) (by decide +kernel) ?_
      refine hs_zret (by decide +kernel) (.inl rfl) ?_
      simp only [Int32.lt_iff_toInt_lt, Int32.le_iff_toInt_le, hcn, hz] at c1 c9
      exact ⟨_, _, rfl, hH, hX, .inr ⟨by omega, rfl, r1⟩⟩
theorem fc_endx (hH : et_H et_TT K G) (k_rd : K rd = some 7) (r1 : et_pl (eg_at G rd) 1 = some (.int (Int32.ofNat c))) (hc : c ≤ 400) (k_th : K th = some 12) (h3 : et_pl (eg_at G th) 3 = some (.ref rd)) (hd : 1 ≤ d2) : et_go none d2 117 0 (eg_en (eg_mL 117) [.ref th, .int x]) [] G 0 0 (xw_Z (fun b j => (b = rd ∧ j = 1)) K G (fun G' r => ((0 ≤ x.toInt ∧ x.toInt ≤ (c : Int)) ∧ r = some (.int (Int32.ofNat 1)) ∧ et_pl (eg_at G' rd) 1 = some (.int x)) ∨ (¬ (0 ≤ x.toInt ∧ x.toInt ≤ (c : Int)) ∧ r = some (.int (Int32.ofNat 0)) ∧ et_pl (eg_at G' rd) 1 = some (.int (Int32.ofNat c))))) := by
  obtain ⟨d, rfl⟩ : ∃ d, d2 = d + 1 := ⟨d2 - 1, by omega⟩
  rw [show eg_mL 117 = 2 from by decide +kernel]
  show et_go none (d + 1) 117 0 [some (.ref th), some (.int x)] [] G 0 0 (xw_Z _ _ _ _)
  have lt_th := (hH.2.2 _ _ k_th).1
  have lt_rd := (hH.2.2 _ _ k_rd).1
  have hX : xf (fun b j => (b = rd ∧ j = 1)) G G := xf.rf
  refine hs_aload (i := 0) (p := 1) (by decide +kernel) rfl ?_
  refine hf_get (T := et_TT) (t := 12) (ci := 10) (f := 3) (p := 4) (by decide +kernel) rfl hH k_th h3 ?_
  refine hs_iload (i := 1) (p := 5) (by decide +kernel) rfl ?_
  refine ht_callv (T := et_TT) (t := 7) (mi := 65) (na := 1) (ci := 5) (lk := 2) (lm := 2) (L0 := eg_en (eg_mL 65) [.ref rd, .int x]) (by decide +kernel) rfl hH k_rd rfl rfl rfl rfl rfl (by rw [show eg_mL 65 = 2 from by decide +kernel]; first | done | rfl) ?_
  refine (fc_cut hH k_rd r1 hc).mono (fun u hu => xw_cb hu (fun G5 v5 hH x5 hP5 => ?_))
  have h3 := (x5.2 th 3 lt_th (fun h => (hi_ne k_th k_rd (by decide)) h.1)).trans h3
  have lt_th := Nat.lt_of_lt_of_le lt_th x5.1
  have lt_rd := Nat.lt_of_lt_of_le lt_rd x5.1
  have hX := hX.tr x5 (fun b j hb h => by first | omega | (dsimp only at h ⊢; omega) | (dsimp only at h; omega) | (dsimp only; omega))
  rcases hP5 with ⟨hx, rfl, q1⟩ | ⟨hx, rfl, q1⟩
  · show et_go none _ 117 8 _ [.int (Int32.ofNat 1)] _ _ _ _
    refine hs_zret (by decide +kernel) (.inr rfl) ?_
    exact ⟨_, _, rfl, hH, hX, .inl ⟨hx, rfl, q1⟩⟩
  · show et_go none _ 117 8 _ [.int (Int32.ofNat 0)] _ _ _ _
    refine hs_zret (by decide +kernel) (.inl rfl) ?_
    exact ⟨_, _, rfl, hH, hX, .inr ⟨hx, rfl, q1⟩⟩
theorem fm_end (hH : et_H et_TT K G) (k_am : K am = some 13) (m5 : et_pl (eg_at G am) 5 = some (.int (Int32.ofNat c))) (hc : c ≤ 400) : et_go none d2 178 0 (eg_en (eg_mL 178) [.ref am, .int x]) [] G 0 0 (xw_Z (fun b j => (b = am ∧ j = 0) ∨ (b = am ∧ j = 5)) K G (fun G' r => ((0 ≤ x.toInt ∧ x.toInt ≤ (c : Int)) ∧ r = some (.int (Int32.ofNat 1)) ∧ et_pl (eg_at G' am) 5 = some (.int x)) ∨ (¬ (0 ≤ x.toInt ∧ x.toInt ≤ (c : Int)) ∧ r = some (.int (Int32.ofNat 0)) ∧ et_pl (eg_at G' am) 5 = some (.int (Int32.ofNat c))))) := by
  have hcn : (Int32.ofNat c).toInt = (c : Int) := hs_nint (by omega)
  have hz : (0 : Int32).toInt = 0 := rfl
  rw [show eg_mL 178 = 2 from by decide +kernel]
  show et_go none d2 178 0 [some (.ref am), some (.int x)] [] G 0 0 (xw_Z _ _ _ _)
  have lt_am := (hH.2.2 _ _ k_am).1
  have hX : xf (fun b j => (b = am ∧ j = 0) ∨ (b = am ∧ j = 5)) G G := xf.rf
  refine hs_aload (i := 0) (p := 1) (by decide +kernel) rfl ?_
  refine hs_k (x := Int32.ofNat 0) (p := 2) (by decide +kernel) ?_
  refine hf_put (T := et_TT) (t := 13) (ci := 11) (f := 0) (p := 5) (ty := .int) (by decide +kernel) rfl rfl rfl rfl rfl hH k_am hi_any (fun G2 hH x2 e2 => ?_)
  have m5 := (x2.2 am 5 lt_am (fun h => absurd h.2 (by decide))).trans m5
  have lt_am := Nat.lt_of_lt_of_le lt_am x2.1
  have hX := hX.tr x2 (fun b j hb h => by first | omega | (dsimp only at h ⊢; omega) | (dsimp only at h; omega) | (dsimp only; omega))
  refine hs_iload (i := 1) (p := 6) (by decide +kernel) rfl ?_
  refine hs_br1 (c := .lt) (t := 17) (f := 9) (by decide +kernel) (fun (c6 : x < 0) => ?_) (fun (c6 : ¬ (x < 0)) => ?_)
  · refine hs_k (x := Int32.ofNat 0) (p := 18) (by decide +kernel) ?_
    refine hs_zret (by decide +kernel) (.inl rfl) ?_
    simp only [Int32.lt_iff_toInt_lt, Int32.le_iff_toInt_le, hcn, hz] at c6
    exact ⟨_, _, rfl, hH, hX, .inr ⟨by omega, rfl, m5⟩⟩
  · refine hs_iload (i := 1) (p := 10) (by decide +kernel) rfl ?_
    refine hs_aload (i := 0) (p := 11) (by decide +kernel) rfl ?_
    refine hf_get (T := et_TT) (t := 13) (ci := 11) (f := 5) (p := 14) (by decide +kernel) rfl hH k_am m5 ?_
    refine hs_br2 (c := .le) (t := 19) (f := 17) (by decide +kernel) (fun (c14 : x ≤ Int32.ofNat c) => ?_) (fun (c14 : ¬ (x ≤ Int32.ofNat c)) => ?_)
    · refine hs_aload (i := 0) (p := 20) (by decide +kernel) rfl ?_
      refine hs_iload (i := 1) (p := 21) (by decide +kernel) rfl ?_
      refine hf_put (T := et_TT) (t := 13) (ci := 11) (f := 5) (p := 24) (ty := .int) (by decide +kernel) rfl rfl rfl rfl rfl hH k_am (by have h6 := c6; have h14 := c14; simp only [Int32.lt_iff_toInt_lt, Int32.le_iff_toInt_le, hcn, hz] at h6 h14; rw [xi_nat (x := x) (by rw [Int32.le_iff_toInt_le, hz]; omega)]; exact hi_nv (by omega) (by omega)) (fun G21 hH x21 e21 => ?_)
      have e2 := (x21.2 am 0 lt_am (fun h => absurd h.2 (by decide))).trans e2
      have lt_am := Nat.lt_of_lt_of_le lt_am x21.1
      have hX := hX.tr x21 (fun b j hb h => by first | omega | (dsimp only at h ⊢; omega) | (dsimp only at h; omega) | (dsimp only; omega))
      refine hs_k (x := Int32.ofNat 1) (p := 25) (by decide +kernel) ?_
      refine hs_zret (by decide +kernel) (.inr rfl) ?_
      simp only [Int32.lt_iff_toInt_lt, Int32.le_iff_toInt_le, hcn, hz] at c6 c14
      exact ⟨_, _, rfl, hH, hX, .inl ⟨⟨by omega, by omega⟩, rfl, e21⟩⟩
    · refine hs_k (x := Int32.ofNat 0) (p := 18) (by decide +kernel) ?_
      refine hs_zret (by decide +kernel) (.inl rfl) ?_
      simp only [Int32.lt_iff_toInt_lt, Int32.le_iff_toInt_le, hcn, hz] at c6 c14
      exact ⟨_, _, rfl, hH, hX, .inr ⟨by omega, rfl, m5⟩⟩
end FHA
