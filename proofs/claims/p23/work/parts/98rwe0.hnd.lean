/-! PHASE D: covered, goesBy -/
/-- all CELLS but one -/
def cvZ (k : Nat) : Int32 := ((Int32.ofNat 1 <<< (Int32.ofNat k &&& 31)) ^^^ (-1))
def syE (v : evT) (x : Int32) : Bool := decide (v.2.2.2.2.1 < suN v.2.1 v.2.2.1 v.2.2.2.1 x v.1)
/-- of how many of the first CARDS it SAYS otherwise without a CELL -/
def coE (v : evT) (X : Nat → Int32) (k : Nat) : Nat → Nat
  | 0 => 0
  | c + 1 => coE v X k c + (if syE v (X c) = syE v (X c &&& cvZ k) then 0 else 1)
theorem coE_le (v : evT) (X : Nat → Int32) (k : Nat) : ∀ c, coE v X k c ≤ c
  | 0 => Nat.le_refl 0
  | c + 1 => by
    have h := coE_le v X k c
    show coE v X k c + (if syE v (X c) = syE v (X c &&& cvZ k) then 0 else 1) ≤ c + 1
    split <;> omega
theorem coE_y {v : evT} {X : Nat → Int32} {k c : Nat} {b : Bool} (h1 : syE v (X c) = b) (h2 : syE v (X c &&& cvZ k) = b) : coE v X k (c + 1) = coE v X k c := by
  show coE v X k c + (if syE v (X c) = syE v (X c &&& cvZ k) then 0 else 1) = _
  rw [if_pos (h1.trans h2.symm)]
  rfl
theorem coE_n {v : evT} {X : Nat → Int32} {k c : Nat} {b : Bool} (h1 : syE v (X c) = b) (h2 : syE v (X c &&& cvZ k) = !b) : coE v X k (c + 1) = coE v X k c + 1 := by
  show coE v X k c + (if syE v (X c) = syE v (X c &&& cvZ k) then 0 else 1) = _
  rw [if_neg (fun h => by
    rw [h1, h2] at h
    cases b <;> cases h)]
/-- the most, and the CELL that it goes BY, of the first CELLS -/
def gbM (v : evT) (X : Nat → Int32) (nc : Nat) : Nat → Nat
  | 0 => 0
  | k + 1 => if gbM v X nc k < coE v X k nc then coE v X k nc else gbM v X nc k
def gbB (v : evT) (X : Nat → Int32) (nc : Nat) : Nat → Int32
  | 0 => -1
  | k + 1 => if gbM v X nc k < coE v X k nc then Int32.ofNat k else gbB v X nc k
theorem gbM_le (v : evT) (X : Nat → Int32) (nc : Nat) : ∀ k, gbM v X nc k ≤ nc
  | 0 => Nat.zero_le _
  | k + 1 => by
    have h := gbM_le v X nc k
    have h2 := coE_le v X k nc
    show (if gbM v X nc k < coE v X k nc then coE v X k nc else gbM v X nc k) ≤ nc
    split <;> assumption
theorem gb_y {v : evT} {X : Nat → Int32} {nc k : Nat} (h : gbM v X nc k < coE v X k nc) : gbM v X nc (k + 1) = coE v X k nc ∧ gbB v X nc (k + 1) = Int32.ofNat k := ⟨if_pos h, if_pos h⟩
theorem gb_n {v : evT} {X : Nat → Int32} {nc k : Nat} (h : ¬ gbM v X nc k < coE v X k nc) : gbM v X nc (k + 1) = gbM v X nc k ∧ gbB v X nc (k + 1) = gbB v X nc k := ⟨if_neg h, if_neg h⟩
section YFA
variable {K : et_K} {G : eg_G} {d d2 th s0 s1 ya yb ec nc la ly out e ca ki kn am aw n m k c q a b : Nat} {O : Nat → Nat} {A : Nat → Nat → Nat} {v : evT} {V : Nat → evT} {X : Nat → Int32} {Y : Nat → Nat} {x y z : Int32}
theorem fc_coL (hH : et_H et_TT K G) (k_s0 : K s0 = some 10) (k_e : K e = some 3) (t9 : evK K e ca ki kn v.1 v.2.2.1) (hv : evc G e ca ki kn v) (g2 : et_pl (eg_at G s0) 2 = some (.int (Int32.ofNat nc))) (hnc : nc ≤ 20) (hcc : ccP G s0 la ly nc X Y) (k_la : K la = some 17) (k_ly : K ly = some 27) (hc : c ≤ nc) : et_go none (d + 4) 109 5 [some (.ref s0), some (.ref e), some (.int (Int32.ofNat k)), some (.int (Int32.ofNat (coE v X k c))), some (.int (Int32.ofNat c))] [] G 0 0 (xp_Z G (some (.int (Int32.ofNat (coE v X k nc))))) := by
  induction hq9 : nc - c using Nat.strongRecOn generalizing c with
  | _ q9 ih =>
    have hle := coE_le v X k c
    have lt_s0 := (hH.2.2 _ _ k_s0).1
    have lt_e := (hH.2.2 _ _ k_e).1
    have lt_la := (hH.2.2 _ _ k_la).1
    have lt_ly := (hH.2.2 _ _ k_ly).1
    refine hs_iload (i := 4) (p := 7) (by decide +kernel) rfl ?_
    refine hs_aload (i := 0) (p := 8) (by decide +kernel) rfl ?_
    refine hf_get (T := et_TT) (t := 10) (ci := 8) (f := 2) (p := 11) (by decide +kernel) rfl hH k_s0 g2 ?_
    refine hs_br2n (c := .ge) (t := 54) (f := 14) (by decide +kernel) (by omega) (by omega) (fun (c11 : nc ≤ c) => ?_) (fun (c11 : ¬ (nc ≤ c)) => ?_)
    · refine hs_iload (i := 3) (p := 55) (by decide +kernel) rfl ?_
      refine hs_iret (by decide +kernel) ?_
      obtain rfl : c = nc := by omega
      rfl
    · refine hs_aload (i := 1) (p := 15) (by decide +kernel) rfl ?_
      refine hs_aload (i := 0) (p := 16) (by decide +kernel) rfl ?_
      refine hf_get (T := et_TT) (t := 10) (ci := 8) (f := 3) (p := 19) (by decide +kernel) rfl hH k_s0 hcc.1.1 ?_
      refine hs_iload (i := 4) (p := 21) (by decide +kernel) rfl ?_
      refine hf_ald (ins := .iaload) (T := et_TT) (t := 17) (kd := 0) (N := 20) (p := 22) (by decide +kernel) (fun _ _ _ _ _ _ _ _ _ _ => rfl) rfl rfl rfl hH k_la (by decide) (hcc.2 c (by omega)).1 ?_
      refine ht_callv (T := et_TT) (t := 3) (mi := 32) (na := 1) (ci := 1) (lk := 5) (lm := 2) (L0 := eg_en (eg_mL 32) [.ref e, .int (X c)]) (by decide +kernel) rfl hH k_e rfl rfl rfl rfl rfl (by rw [show eg_mL 32 = 2 from by decide +kernel]; first | done | rfl) ?_
      refine (fd_says hH t9 hv (by omega)).mono (fun u hu => xp_cb hu ?_)
      by_cases q1 : v.2.2.2.2.1 < suN v.2.1 v.2.2.1 v.2.2.2.1 (X c) v.1
      · rw [if_pos q1]
        show et_go none _ 109 25 _ [.int (Int32.ofNat 1)] _ _ _ _
        refine hs_aload (i := 1) (p := 26) (by decide +kernel) rfl ?_
        refine hs_aload (i := 0) (p := 27) (by decide +kernel) rfl ?_
        refine hf_get (T := et_TT) (t := 10) (ci := 8) (f := 3) (p := 30) (by decide +kernel) rfl hH k_s0 hcc.1.1 ?_
        refine hs_iload (i := 4) (p := 32) (by decide +kernel) rfl ?_
        refine hf_ald (ins := .iaload) (T := et_TT) (t := 17) (kd := 0) (N := 20) (p := 33) (by decide +kernel) (fun _ _ _ _ _ _ _ _ _ _ => rfl) rfl rfl rfl hH k_la (by decide) (hcc.2 c (by omega)).1 ?_
        refine hs_k (x := Int32.ofNat 1) (p := 34) (by decide +kernel) ?_
        refine hs_iload (i := 2) (p := 35) (by decide +kernel) rfl ?_
        refine hs_st (ins := .ishl) (len := 1) (p := 36) (by decide +kernel) rfl rfl ?_
        refine hs_k (x := (-1)) (p := 37) (by decide +kernel) ?_
        refine hs_st (ins := .ixor) (len := 1) (p := 38) (by decide +kernel) rfl rfl ?_
        refine hs_st (ins := .iand) (len := 1) (p := 39) (by decide +kernel) rfl rfl ?_
        refine ht_callv (T := et_TT) (t := 3) (mi := 32) (na := 1) (ci := 1) (lk := 5) (lm := 2) (L0 := eg_en (eg_mL 32) [.ref e, .int ((X c) &&& (((Int32.ofNat 1) <<< ((Int32.ofNat k) &&& 31)) ^^^ (-1)))]) (by decide +kernel) rfl hH k_e rfl rfl rfl rfl rfl (by rw [show eg_mL 32 = 2 from by decide +kernel]; first | done | rfl) ?_
        refine (fd_says hH t9 hv (by omega)).mono (fun u hu => xp_cb hu ?_)
        by_cases q2 : v.2.2.2.2.1 < suN v.2.1 v.2.2.1 v.2.2.2.1 ((X c) &&& (((Int32.ofNat 1) <<< ((Int32.ofNat k) &&& 31)) ^^^ (-1))) v.1
        · rw [if_pos q2]
          show et_go none _ 109 42 _ [.int (Int32.ofNat 1), .int (Int32.ofNat 1)] _ _ _ _
          refine hs_br2n (c := .eq) (t := 48) (f := 45) (by decide +kernel) (by omega) (by omega) (fun _ => ?_) (fun h => absurd (show 1 = 1 by decide) h)
          refine hs_iinc1 (i := 4) (p := 51) (by decide +kernel) rfl (Nat.le_of_ble_eq_true rfl) ?_
          refine hs_goto (p := 5) (by decide +kernel) ?_
          have e9 := coE_y (v := v) (X := X) (k := k) (c := c) (b := true) (decide_eq_true q1) (decide_eq_true q2)
          have h9 := @ih (nc - (c + 1)) (by omega) (c + 1) (by omega) rfl
          rw [e9] at h9
          exact h9
        · rw [if_neg q2]
          show et_go none _ 109 42 _ [.int (Int32.ofNat 0), .int (Int32.ofNat 1)] _ _ _ _
          refine hs_br2n (c := .eq) (t := 48) (f := 45) (by decide +kernel) (by omega) (by omega) (fun h => absurd h (show ¬ (1 = 0) by decide)) (fun _ => ?_)
          refine hs_iinc1 (i := 3) (p := 48) (by decide +kernel) rfl (Nat.le_of_ble_eq_true rfl) ?_
          refine hs_iinc1 (i := 4) (p := 51) (by decide +kernel) rfl (Nat.le_of_ble_eq_true rfl) ?_
          refine hs_goto (p := 5) (by decide +kernel) ?_
          have e9 := coE_n (v := v) (X := X) (k := k) (c := c) (b := true) (decide_eq_true q1) (decide_eq_false q2)
          have h9 := @ih (nc - (c + 1)) (by omega) (c + 1) (by omega) rfl
          rw [e9] at h9
          exact h9
      · rw [if_neg q1]
        show et_go none _ 109 25 _ [.int (Int32.ofNat 0)] _ _ _ _
        refine hs_aload (i := 1) (p := 26) (by decide +kernel) rfl ?_
        refine hs_aload (i := 0) (p := 27) (by decide +kernel) rfl ?_
        refine hf_get (T := et_TT) (t := 10) (ci := 8) (f := 3) (p := 30) (by decide +kernel) rfl hH k_s0 hcc.1.1 ?_
        refine hs_iload (i := 4) (p := 32) (by decide +kernel) rfl ?_
        refine hf_ald (ins := .iaload) (T := et_TT) (t := 17) (kd := 0) (N := 20) (p := 33) (by decide +kernel) (fun _ _ _ _ _ _ _ _ _ _ => rfl) rfl rfl rfl hH k_la (by decide) (hcc.2 c (by omega)).1 ?_
        refine hs_k (x := Int32.ofNat 1) (p := 34) (by decide +kernel) ?_
        refine hs_iload (i := 2) (p := 35) (by decide +kernel) rfl ?_
        refine hs_st (ins := .ishl) (len := 1) (p := 36) (by decide +kernel) rfl rfl ?_
        refine hs_k (x := (-1)) (p := 37) (by decide +kernel) ?_
        refine hs_st (ins := .ixor) (len := 1) (p := 38) (by decide +kernel) rfl rfl ?_
        refine hs_st (ins := .iand) (len := 1) (p := 39) (by decide +kernel) rfl rfl ?_
        refine ht_callv (T := et_TT) (t := 3) (mi := 32) (na := 1) (ci := 1) (lk := 5) (lm := 2) (L0 := eg_en (eg_mL 32) [.ref e, .int ((X c) &&& (((Int32.ofNat 1) <<< ((Int32.ofNat k) &&& 31)) ^^^ (-1)))]) (by decide +kernel) rfl hH k_e rfl rfl rfl rfl rfl (by rw [show eg_mL 32 = 2 from by decide +kernel]; first | done | rfl) ?_
        refine (fd_says hH t9 hv (by omega)).mono (fun u hu => xp_cb hu ?_)
        by_cases q2 : v.2.2.2.2.1 < suN v.2.1 v.2.2.1 v.2.2.2.1 ((X c) &&& (((Int32.ofNat 1) <<< ((Int32.ofNat k) &&& 31)) ^^^ (-1))) v.1
        · rw [if_pos q2]
          show et_go none _ 109 42 _ [.int (Int32.ofNat 1), .int (Int32.ofNat 0)] _ _ _ _
          refine hs_br2n (c := .eq) (t := 48) (f := 45) (by decide +kernel) (by omega) (by omega) (fun h => absurd h (show ¬ (0 = 1) by decide)) (fun _ => ?_)
          refine hs_iinc1 (i := 3) (p := 48) (by decide +kernel) rfl (Nat.le_of_ble_eq_true rfl) ?_
          refine hs_iinc1 (i := 4) (p := 51) (by decide +kernel) rfl (Nat.le_of_ble_eq_true rfl) ?_
          refine hs_goto (p := 5) (by decide +kernel) ?_
          have e9 := coE_n (v := v) (X := X) (k := k) (c := c) (b := false) (decide_eq_false q1) (decide_eq_true q2)
          have h9 := @ih (nc - (c + 1)) (by omega) (c + 1) (by omega) rfl
          rw [e9] at h9
          exact h9
        · rw [if_neg q2]
          show et_go none _ 109 42 _ [.int (Int32.ofNat 0), .int (Int32.ofNat 0)] _ _ _ _
          refine hs_br2n (c := .eq) (t := 48) (f := 45) (by decide +kernel) (by omega) (by omega) (fun _ => ?_) (fun h => absurd (show 0 = 0 by decide) h)
          refine hs_iinc1 (i := 4) (p := 51) (by decide +kernel) rfl (Nat.le_of_ble_eq_true rfl) ?_
          refine hs_goto (p := 5) (by decide +kernel) ?_
          have e9 := coE_y (v := v) (X := X) (k := k) (c := c) (b := false) (decide_eq_false q1) (decide_eq_false q2)
          have h9 := @ih (nc - (c + 1)) (by omega) (c + 1) (by omega) rfl
          rw [e9] at h9
          exact h9
theorem fc_co (hH : et_H et_TT K G) (k_s0 : K s0 = some 10) (k_e : K e = some 3) (t9 : evK K e ca ki kn v.1 v.2.2.1) (hv : evc G e ca ki kn v) (g2 : et_pl (eg_at G s0) 2 = some (.int (Int32.ofNat nc))) (hnc : nc ≤ 20) (hcc : ccP G s0 la ly nc X Y) (k_la : K la = some 17) (k_ly : K ly = some 27) (hd : 4 ≤ d2) : et_go none d2 109 0 (eg_en (eg_mL 109) [.ref s0, .ref e, .int (Int32.ofNat k)]) [] G 0 0 (xp_Z G (some (.int (Int32.ofNat (coE v X k nc))))) := by
  obtain ⟨d, rfl⟩ : ∃ d, d2 = d + 4 := ⟨d2 - 4, by omega⟩
  rw [show eg_mL 109 = 5 from by decide +kernel]
  show et_go none (d + 4) 109 0 [some (.ref s0), some (.ref e), some (.int (Int32.ofNat k)), none, none] [] G 0 0 _
  have lt_s0 := (hH.2.2 _ _ k_s0).1
  have lt_e := (hH.2.2 _ _ k_e).1
  have lt_la := (hH.2.2 _ _ k_la).1
  have lt_ly := (hH.2.2 _ _ k_ly).1
  refine hs_k (x := Int32.ofNat 0) (p := 1) (by decide +kernel) ?_
  refine hs_istore (i := 3) (p := 2) (by decide +kernel) (Nat.le_of_ble_eq_true rfl) ?_
  refine hs_k (x := Int32.ofNat 0) (p := 3) (by decide +kernel) ?_
  refine hs_istore (i := 4) (p := 5) (by decide +kernel) (Nat.le_of_ble_eq_true rfl) ?_
  exact fc_coL (c := 0) hH k_s0 k_e t9 hv g2 hnc hcc k_la k_ly (Nat.zero_le _)
theorem fd_needC (hk : k < 16) : et_go none d2 161 0 (eg_en (eg_mL 161) [.int (Int32.ofNat k)]) [] G 0 0 (xp_Z G none) := by
  rw [show eg_mL 161 = 1 from by decide +kernel]
  show et_go none d2 161 0 [some (.int (Int32.ofNat k))] [] G 0 0 _
  refine hs_iload (i := 0) (p := 1) (by decide +kernel) rfl ?_
  refine hs_if0 (c := .lt) (t := 10) (f := 4) (by decide +kernel) (rs_nn (by omega)) ?_
  refine hs_iload (i := 0) (p := 5) (by decide +kernel) rfl ?_
  refine hs_k (x := Int32.ofNat 16) (p := 7) (by decide +kernel) ?_
  refine hs_br2n (c := .lt) (t := 18) (f := 10) (by decide +kernel) (by omega) (by omega) (fun (c7 : k < 16) => ?_) (fun (c7 : ¬ (k < 16)) => ?_)
  · refine hs_vret (by decide +kernel) ?_
    rfl
  · exact absurd hk c7
theorem fd_needCn (hy : ¬ (0 ≤ y.toInt ∧ y.toInt < 16)) : et_go none d2 161 0 (eg_en (eg_mL 161) [.int y]) [] G 0 0 (ix_Z 1 G) := by
  rw [show eg_mL 161 = 1 from by decide +kernel]
  show et_go none d2 161 0 [some (.int y)] [] G 0 0 _
  refine hs_iload (i := 0) (p := 1) (by decide +kernel) rfl ?_
  refine hs_br1 (c := .lt) (t := 10) (f := 4) (by decide +kernel) (fun (c1 : y < 0) => ?_) (fun (c1 : ¬ (y < 0)) => ?_)
  · refine hs_thr (x := 1) (lk := 1) (by decide +kernel) rfl rfl ?_
    exact ⟨_, _, rfl⟩
  · refine hs_iload (i := 0) (p := 5) (by decide +kernel) rfl ?_
    refine hs_k (x := Int32.ofNat 16) (p := 7) (by decide +kernel) ?_
    refine hs_br2 (c := .lt) (t := 18) (f := 10) (by decide +kernel) (fun (c7 : y < Int32.ofNat 16) => ?_) (fun (c7 : ¬ (y < Int32.ofNat 16)) => ?_)
    · exact absurd ⟨by rw [xi_lt0] at c1; omega, by rw [xi_ltn (k := 16) (by decide)] at c7; omega⟩ hy
    · refine hs_thr (x := 1) (lk := 1) (by decide +kernel) rfl rfl ?_
      exact ⟨_, _, rfl⟩
theorem fd_cov (hH : et_H et_TT K G) (k_th : K th = some 12) (h0 : et_pl (eg_at G th) 0 = some (.ref s0)) (k_s0 : K s0 = some 10) (h5 : et_pl (eg_at G s0) 5 = some (.int (Int32.ofNat ec))) (hec : ec ≤ 3) (h6 : et_pl (eg_at G s0) 6 = some (.ref ya)) (k_ya : K ya = some 40) (hn : n < ec) (hE : et_pl (eg_at G ya) n = some (.ref e)) (t9 : evK K e ca ki kn v.1 v.2.2.1) (hv : evc G e ca ki kn v) (g2 : et_pl (eg_at G s0) 2 = some (.int (Int32.ofNat nc))) (hnc : nc ≤ 20) (hcc : ccP G s0 la ly nc X Y) (k_la : K la = some 17) (k_ly : K ly = some 27) (hk : k < 16) (hd : 5 ≤ d2) : et_go none d2 160 0 (eg_en (eg_mL 160) [.ref th, .int (Int32.ofNat n), .int (Int32.ofNat k)]) [] G 0 0 (xp_Z G (some (.int (Int32.ofNat (coE v X k nc))))) := by
  obtain ⟨d, rfl⟩ : ∃ d, d2 = d + 5 := ⟨d2 - 5, by omega⟩
  have k_e := t9.1.1
  rw [show eg_mL 160 = 4 from by decide +kernel]
  show et_go none (d + 5) 160 0 [some (.ref th), some (.int (Int32.ofNat n)), some (.int (Int32.ofNat k)), none] [] G 0 0 _
  have lt_th := (hH.2.2 _ _ k_th).1
  have lt_s0 := (hH.2.2 _ _ k_s0).1
  have lt_ya := (hH.2.2 _ _ k_ya).1
  have lt_e := (hH.2.2 _ _ k_e).1
  have lt_la := (hH.2.2 _ _ k_la).1
  have lt_ly := (hH.2.2 _ _ k_ly).1
  refine hs_aload (i := 0) (p := 1) (by decide +kernel) rfl ?_
  refine hs_iload (i := 1) (p := 2) (by decide +kernel) rfl ?_
  refine ht_callv (T := et_TT) (t := 12) (mi := 128) (na := 1) (ci := 10) (lk := 4) (lm := 2) (L0 := eg_en (eg_mL 128) [.ref th, .int (Int32.ofNat n)]) (by decide +kernel) rfl hH k_th rfl rfl rfl rfl rfl (by rw [show eg_mL 128 = 2 from by decide +kernel]; first | done | rfl) ?_
  refine (fd_needE hH k_th h0 k_s0 h5 hec h6 k_ya hn hE).mono (fun u hu => xp_cb hu ?_)
  show et_go none _ 160 5 _ [.ref e] _ _ _ _
  refine hs_astore (i := 3) (p := 6) (by decide +kernel) (Nat.le_of_ble_eq_true rfl) ?_
  refine hs_iload (i := 2) (p := 7) (by decide +kernel) rfl ?_
  refine hs_calls (mi := 161) (na := 1) (lk := 4) (lm := 1) (L0 := eg_en (eg_mL 161) [.int (Int32.ofNat k)]) (by decide +kernel) rfl rfl rfl rfl rfl rfl (by rw [show eg_mL 161 = 1 from by decide +kernel]; first | done | rfl) ?_
  refine (fd_needC hk).mono (fun u hu => xp_cb hu ?_)
  show et_go none _ 160 10 _ [] _ _ _ _
  refine hs_aload (i := 0) (p := 11) (by decide +kernel) rfl ?_
  refine hf_get (T := et_TT) (t := 12) (ci := 10) (f := 0) (p := 14) (by decide +kernel) rfl hH k_th h0 ?_
  refine hs_aload (i := 3) (p := 15) (by decide +kernel) rfl ?_
  refine hs_iload (i := 2) (p := 16) (by decide +kernel) rfl ?_
  refine ht_callv (T := et_TT) (t := 10) (mi := 109) (na := 2) (ci := 8) (lk := 4) (lm := 5) (L0 := eg_en (eg_mL 109) [.ref s0, .ref e, .int (Int32.ofNat k)]) (by decide +kernel) rfl hH k_s0 rfl rfl rfl rfl rfl (by rw [show eg_mL 109 = 5 from by decide +kernel]; first | done | rfl) ?_
  refine (fc_co hH k_s0 k_e t9 hv g2 hnc hcc k_la k_ly (by omega)).mono (fun u hu => xp_cb hu ?_)
  show et_go none _ 160 19 _ [.int (Int32.ofNat (coE v X k nc))] _ _ _ _
  refine hs_iret (by decide +kernel) ?_
  rfl
theorem fd_covR (hH : et_H et_TT K G) (k_th : K th = some 12) (h0 : et_pl (eg_at G th) 0 = some (.ref s0)) (k_s0 : K s0 = some 10) (h5 : et_pl (eg_at G s0) 5 = some (.int (Int32.ofNat ec))) (hec : ec ≤ 3) (h6 : et_pl (eg_at G s0) 6 = some (.ref ya)) (k_ya : K ya = some 40) (hn : n < ec) (hE : et_pl (eg_at G ya) n = some (.ref e)) (hy : ¬ (0 ≤ y.toInt ∧ y.toInt < 16)) (hd : 5 ≤ d2) : et_go none d2 160 0 (eg_en (eg_mL 160) [.ref th, .int (Int32.ofNat n), .int y]) [] G 0 0 (ix_Z 1 G) := by
  obtain ⟨d, rfl⟩ : ∃ d, d2 = d + 5 := ⟨d2 - 5, by omega⟩
  rw [show eg_mL 160 = 4 from by decide +kernel]
  show et_go none (d + 5) 160 0 [some (.ref th), some (.int (Int32.ofNat n)), some (.int y), none] [] G 0 0 _
  have lt_th := (hH.2.2 _ _ k_th).1
  have lt_s0 := (hH.2.2 _ _ k_s0).1
  have lt_ya := (hH.2.2 _ _ k_ya).1
  refine hs_aload (i := 0) (p := 1) (by decide +kernel) rfl ?_
  refine hs_iload (i := 1) (p := 2) (by decide +kernel) rfl ?_
  refine ht_callv (T := et_TT) (t := 12) (mi := 128) (na := 1) (ci := 10) (lk := 4) (lm := 2) (L0 := eg_en (eg_mL 128) [.ref th, .int (Int32.ofNat n)]) (by decide +kernel) rfl hH k_th rfl rfl rfl rfl rfl (by rw [show eg_mL 128 = 2 from by decide +kernel]; first | done | rfl) ?_
  refine (fd_needE hH k_th h0 k_s0 h5 hec h6 k_ya hn hE).mono (fun u hu => xp_cb hu ?_)
  show et_go none _ 160 5 _ [.ref e] _ _ _ _
  refine hs_astore (i := 3) (p := 6) (by decide +kernel) (Nat.le_of_ble_eq_true rfl) ?_
  refine hs_iload (i := 2) (p := 7) (by decide +kernel) rfl ?_
  refine hs_calls (mi := 161) (na := 1) (lk := 4) (lm := 1) (L0 := eg_en (eg_mL 161) [.int y]) (by decide +kernel) rfl rfl rfl rfl rfl rfl (by rw [show eg_mL 161 = 1 from by decide +kernel]; first | done | rfl) ?_
  refine (fd_needCn hy).mono (fun u hu => ?_)
  obtain ⟨c7, s7, rfl⟩ := hu
  refine hf_cx (by decide +kernel) ?_
  exact ⟨_, _, rfl⟩
theorem fd_covE (hH : et_H et_TT K G) (k_th : K th = some 12) (h0 : et_pl (eg_at G th) 0 = some (.ref s0)) (k_s0 : K s0 = some 10) (h5 : et_pl (eg_at G s0) 5 = some (.int (Int32.ofNat ec))) (hec : ec ≤ 3) (h6 : et_pl (eg_at G s0) 6 = some (.ref ya)) (k_ya : K ya = some 40) (hx : ¬ xr x ec) (hd : 5 ≤ d2) : et_go none d2 160 0 (eg_en (eg_mL 160) [.ref th, .int x, .int y]) [] G 0 0 (ix_Z 1 G) := by
  obtain ⟨d, rfl⟩ : ∃ d, d2 = d + 5 := ⟨d2 - 5, by omega⟩
  rw [show eg_mL 160 = 4 from by decide +kernel]
  show et_go none (d + 5) 160 0 [some (.ref th), some (.int x), some (.int y), none] [] G 0 0 _
  have lt_th := (hH.2.2 _ _ k_th).1
  have lt_s0 := (hH.2.2 _ _ k_s0).1
  have lt_ya := (hH.2.2 _ _ k_ya).1
  refine hs_aload (i := 0) (p := 1) (by decide +kernel) rfl ?_
  refine hs_iload (i := 1) (p := 2) (by decide +kernel) rfl ?_
  refine ht_callv (T := et_TT) (t := 12) (mi := 128) (na := 1) (ci := 10) (lk := 4) (lm := 2) (L0 := eg_en (eg_mL 128) [.ref th, .int x]) (by decide +kernel) rfl hH k_th rfl rfl rfl rfl rfl (by rw [show eg_mL 128 = 2 from by decide +kernel]; first | done | rfl) ?_
  refine (fd_needEn hH k_th h0 k_s0 h5 hec h6 k_ya hx).mono (fun u hu => ?_)
  obtain ⟨c2, s2, rfl⟩ := hu
  refine hf_cx (by decide +kernel) ?_
  exact ⟨_, _, rfl⟩
theorem fh_cov (hH : et_H et_TT K G) (k_th : K th = some 12) (h0 : et_pl (eg_at G th) 0 = some (.ref s0)) (k_s0 : K s0 = some 10) (h5 : et_pl (eg_at G s0) 5 = some (.int (Int32.ofNat ec))) (hec : ec ≤ 3) (h6 : et_pl (eg_at G s0) 6 = some (.ref ya)) (k_ya : K ya = some 40) (hn : n < ec) (hE : et_pl (eg_at G ya) n = some (.ref e)) (t9 : evK K e ca ki kn v.1 v.2.2.1) (hv : evc G e ca ki kn v) (g2 : et_pl (eg_at G s0) 2 = some (.int (Int32.ofNat nc))) (hnc : nc ≤ 20) (hcc : ccP G s0 la ly nc X Y) (k_la : K la = some 17) (k_ly : K ly = some 27) (hk : k < 16) (k_out : K out = some 31) (hd : 6 ≤ d2) : et_go none d2 20 0 (eg_en (eg_mL 20) [.ref th, .int (Int32.ofNat n), .int (Int32.ofNat k), .ref out]) [] G 0 0 (fun u => u.1 = .inl (some (.int (Int32.ofNat 0))) ∧ et_pl (eg_at u.2.1 out) 0 = some (.long (Int32.ofNat (coE v X k nc)).toInt64)) := by
  obtain ⟨d, rfl⟩ : ∃ d, d2 = d + 6 := ⟨d2 - 6, by omega⟩
  rw [show eg_mL 20 = 5 from by decide +kernel]
  show et_go none (d + 6) 20 0 [some (.ref th), some (.int (Int32.ofNat n)), some (.int (Int32.ofNat k)), some (.ref out), none] [] G 0 0 _
  have lt_th := (hH.2.2 _ _ k_th).1
  have lt_out := (hH.2.2 _ _ k_out).1
  refine hs_aload (i := 3) (p := 1) (by decide +kernel) rfl ?_
  refine hs_k (x := Int32.ofNat 0) (p := 2) (by decide +kernel) ?_
  refine hs_aload (i := 0) (p := 3) (by decide +kernel) rfl ?_
  refine hs_iload (i := 1) (p := 4) (by decide +kernel) rfl ?_
  refine hs_iload (i := 2) (p := 5) (by decide +kernel) rfl ?_
  refine ht_callv (T := et_TT) (t := 12) (mi := 160) (na := 2) (ci := 10) (lk := 5) (lm := 4) (L0 := eg_en (eg_mL 160) [.ref th, .int (Int32.ofNat n), .int (Int32.ofNat k)]) (by decide +kernel) rfl hH k_th rfl rfl rfl rfl rfl (by rw [show eg_mL 160 = 4 from by decide +kernel]; first | done | rfl) ?_
  refine (fd_cov hH k_th h0 k_s0 h5 hec h6 k_ya hn hE t9 hv g2 hnc hcc k_la k_ly hk (by omega)).mono (fun u hu => xp_cb hu ?_)
  show et_go none _ 20 8 _ [.int (Int32.ofNat (coE v X k nc)), .int (Int32.ofNat 0), .ref out] _ _ _ _
  refine hs_i2l (p := 9) (by decide +kernel) ?_
  have hHo := hH
  refine hf_lst (T := et_TT) (t := 31) (N := 1) (p := 10) (by decide +kernel) rfl rfl hH k_out (by omega) (by decide) (fun G9 hH x9 e9 => ?_)
  refine hs_goto (p := 17) (by decide +kernel) ?_
  refine hs_k (x := Int32.ofNat 0) (p := 18) (by decide +kernel) ?_
  refine hs_iret (by decide +kernel) ?_
  exact ⟨rfl, e9⟩
theorem fh_covR (hH : et_H et_TT K G) (k_th : K th = some 12) (h0 : et_pl (eg_at G th) 0 = some (.ref s0)) (k_s0 : K s0 = some 10) (h5 : et_pl (eg_at G s0) 5 = some (.int (Int32.ofNat ec))) (hec : ec ≤ 3) (h6 : et_pl (eg_at G s0) 6 = some (.ref ya)) (k_ya : K ya = some 40) (hn : n < ec) (hE : et_pl (eg_at G ya) n = some (.ref e)) (hy : ¬ (0 ≤ y.toInt ∧ y.toInt < 16)) (hd : 6 ≤ d2) : et_go none d2 20 0 (eg_en (eg_mL 20) [.ref th, .int (Int32.ofNat n), .int y, .ref out]) [] G 0 0 (fun u => u.1 = .inl (some (.int (Int32.ofNat 1))) ∧ u.2.1 = G) := by
  obtain ⟨d, rfl⟩ : ∃ d, d2 = d + 6 := ⟨d2 - 6, by omega⟩
  rw [show eg_mL 20 = 5 from by decide +kernel]
  show et_go none (d + 6) 20 0 [some (.ref th), some (.int (Int32.ofNat n)), some (.int y), some (.ref out), none] [] G 0 0 _
  have lt_th := (hH.2.2 _ _ k_th).1
  refine hs_aload (i := 3) (p := 1) (by decide +kernel) rfl ?_
  refine hs_k (x := Int32.ofNat 0) (p := 2) (by decide +kernel) ?_
  refine hs_aload (i := 0) (p := 3) (by decide +kernel) rfl ?_
  refine hs_iload (i := 1) (p := 4) (by decide +kernel) rfl ?_
  refine hs_iload (i := 2) (p := 5) (by decide +kernel) rfl ?_
  refine ht_callv (T := et_TT) (t := 12) (mi := 160) (na := 2) (ci := 10) (lk := 5) (lm := 4) (L0 := eg_en (eg_mL 160) [.ref th, .int (Int32.ofNat n), .int y]) (by decide +kernel) rfl hH k_th rfl rfl rfl rfl rfl (by rw [show eg_mL 160 = 4 from by decide +kernel]; first | done | rfl) ?_
  refine (fd_covR hH k_th h0 k_s0 h5 hec h6 k_ya hn hE hy (by omega)).mono (fun u hu => ?_)
  obtain ⟨c5, s5, rfl⟩ := hu
  refine hs_ch (h := 13) (i := 4) (n := 2) (hh := (eg_mh 20).getD []) (by decide +kernel) ⟨by decide +kernel, by decide +kernel⟩ (Nat.le_of_ble_eq_true rfl) ?_
  show et_go none _ 20 15 [some (.ref th), some (.int (Int32.ofNat n)), some (.int y), some (.ref out), none] [] _ _ _ _
  refine hs_k (x := Int32.ofNat 1) (p := 16) (by decide +kernel) ?_
  refine hs_iret (by decide +kernel) ?_
  exact ⟨rfl, rfl⟩
theorem fh_covE (hH : et_H et_TT K G) (k_th : K th = some 12) (h0 : et_pl (eg_at G th) 0 = some (.ref s0)) (k_s0 : K s0 = some 10) (h5 : et_pl (eg_at G s0) 5 = some (.int (Int32.ofNat ec))) (hec : ec ≤ 3) (h6 : et_pl (eg_at G s0) 6 = some (.ref ya)) (k_ya : K ya = some 40) (hx : ¬ xr x ec) (hd : 6 ≤ d2) : et_go none d2 20 0 (eg_en (eg_mL 20) [.ref th, .int x, .int y, .ref out]) [] G 0 0 (fun u => u.1 = .inl (some (.int (Int32.ofNat 1))) ∧ u.2.1 = G) := by
  obtain ⟨d, rfl⟩ : ∃ d, d2 = d + 6 := ⟨d2 - 6, by omega⟩
  rw [show eg_mL 20 = 5 from by decide +kernel]
  show et_go none (d + 6) 20 0 [some (.ref th), some (.int x), some (.int y), some (.ref out), none] [] G 0 0 _
  have lt_th := (hH.2.2 _ _ k_th).1
  refine hs_aload (i := 3) (p := 1) (by decide +kernel) rfl ?_
  refine hs_k (x := Int32.ofNat 0) (p := 2) (by decide +kernel) ?_
  refine hs_aload (i := 0) (p := 3) (by decide +kernel) rfl ?_
  refine hs_iload (i := 1) (p := 4) (by decide +kernel) rfl ?_
  refine hs_iload (i := 2) (p := 5) (by decide +kernel) rfl ?_
  refine ht_callv (T := et_TT) (t := 12) (mi := 160) (na := 2) (ci := 10) (lk := 5) (lm := 4) (L0 := eg_en (eg_mL 160) [.ref th, .int x, .int y]) (by decide +kernel) rfl hH k_th rfl rfl rfl rfl rfl (by rw [show eg_mL 160 = 4 from by decide +kernel]; first | done | rfl) ?_
  refine (fd_covE hH k_th h0 k_s0 h5 hec h6 k_ya hx (by omega)).mono (fun u hu => ?_)
  obtain ⟨c5, s5, rfl⟩ := hu
  refine hs_ch (h := 13) (i := 4) (n := 2) (hh := (eg_mh 20).getD []) (by decide +kernel) ⟨by decide +kernel, by decide +kernel⟩ (Nat.le_of_ble_eq_true rfl) ?_
  show et_go none _ 20 15 [some (.ref th), some (.int x), some (.int y), some (.ref out), none] [] _ _ _ _
  refine hs_k (x := Int32.ofNat 1) (p := 16) (by decide +kernel) ?_
  refine hs_iret (by decide +kernel) ?_
  exact ⟨rfl, rfl⟩
theorem fz_cov (hH : et_H et_TT K G) (k_th : K th = some 12) (h0 : et_pl (eg_at G th) 0 = some (.ref s0)) (k_s0 : K s0 = some 10) (k_s1 : K s1 = some 10) (h5 : et_pl (eg_at G s0) 5 = some (.int (Int32.ofNat ec))) (hec : ec ≤ 3) (t : ezK K ya yb O A) (hz : ez G th s0 s1 ya yb O A V) (ho : ∀ n, n < 6 → evo (V n)) (g2 : et_pl (eg_at G s0) 2 = some (.int (Int32.ofNat nc))) (hnc : nc ≤ 20) (hcc : ccP G s0 la ly nc X Y) (k_la : K la = some 17) (k_ly : K ly = some 27) (k_out : K out = some 31) (hd : 6 ≤ d2) : et_go none d2 20 0 (eg_en (eg_mL 20) [.ref th, .int x, .int y, .ref out]) [] G 0 0 (fun u => (¬ (xr x ec ∧ (0 ≤ y.toInt ∧ y.toInt < 16)) ∧ u.1 = .inl (some (.int (Int32.ofNat 1)))) ∨ ∃ n k, (x = Int32.ofNat n ∧ y = Int32.ofNat k) ∧ (n < ec ∧ k < 16) ∧ u.1 = .inl (some (.int (Int32.ofNat 0))) ∧ et_pl (eg_at u.2.1 out) 0 = some (.long (Int32.ofNat (coE (V n) X k nc)).toInt64)) := by
  by_cases hx : xr x ec
  · obtain ⟨n, rfl, hn⟩ := xr_nat hx (by omega)
    by_cases hs3 : (0 ≤ y.toInt ∧ y.toInt < 16)
    · obtain ⟨k, rfl, q2, q3⟩ := hs_toN (x := y) (by omega)
      exact (fh_cov hH k_th h0 k_s0 h5 hec hz.1.1 t.1.1 hn (hz.2.1 n (by omega)).1 (t.ev (ho n (by omega)) (by omega)) (hz.2.2.1 n (by omega)) g2 hnc hcc k_la k_ly (by omega) k_out hd).mono (fun u hu => .inr ⟨n, k, ⟨rfl, rfl⟩, ⟨hn, by omega⟩, hu.1, hu.2⟩)
    · exact (fh_covR hH k_th h0 k_s0 h5 hec hz.1.1 t.1.1 hn (hz.2.1 n (by omega)).1 hs3 hd).mono (fun u hu => .inl ⟨fun h => hs3 h.2, hu.1⟩)
  · exact (fh_covE hH k_th h0 k_s0 h5 hec hz.1.1 t.1.1 hx hd).mono (fun u hu => .inl ⟨fun h => hx h.1, hu.1⟩)
theorem fd_gbL {x6 : Option Value} (hH : et_H et_TT K G) (k_th : K th = some 12) (h0 : et_pl (eg_at G th) 0 = some (.ref s0)) (k_s0 : K s0 = some 10) (h5 : et_pl (eg_at G s0) 5 = some (.int (Int32.ofNat ec))) (hec : ec ≤ 3) (h6 : et_pl (eg_at G s0) 6 = some (.ref ya)) (k_ya : K ya = some 40) (hn : n < ec) (hE : et_pl (eg_at G ya) n = some (.ref e)) (t9 : evK K e ca ki kn v.1 v.2.2.1) (hv : evc G e ca ki kn v) (g2 : et_pl (eg_at G s0) 2 = some (.int (Int32.ofNat nc))) (hnc : nc ≤ 20) (hcc : ccP G s0 la ly nc X Y) (k_la : K la = some 17) (k_ly : K ly = some 27) (hk : k ≤ 16) : et_go none (d + 5) 162 14 [some (.ref th), some (.int (Int32.ofNat n)), some (.ref e), some (.int (gbB v X nc k)), some (.int (Int32.ofNat (gbM v X nc k))), some (.int (Int32.ofNat k)), x6] [] G 0 0 (xp_Z G (some (.int (gbB v X nc 16)))) := by
  have k_e := t9.1.1
  induction hq9 : 16 - k using Nat.strongRecOn generalizing k x6 with
  | _ q9 ih =>
    have hle := coE_le v X k nc
    have hlm := gbM_le v X nc k
    have lt_th := (hH.2.2 _ _ k_th).1
    have lt_s0 := (hH.2.2 _ _ k_s0).1
    have lt_ya := (hH.2.2 _ _ k_ya).1
    have lt_e := (hH.2.2 _ _ k_e).1
    have lt_la := (hH.2.2 _ _ k_la).1
    have lt_ly := (hH.2.2 _ _ k_ly).1
    refine hs_iload (i := 5) (p := 16) (by decide +kernel) rfl ?_
    refine hs_k (x := Int32.ofNat 16) (p := 18) (by decide +kernel) ?_
    refine hs_br2n (c := .ge) (t := 53) (f := 21) (by decide +kernel) (by omega) (by omega) (fun (c18 : 16 ≤ k) => ?_) (fun (c18 : ¬ (16 ≤ k)) => ?_)
    · refine hs_iload (i := 3) (p := 54) (by decide +kernel) rfl ?_
      refine hs_iret (by decide +kernel) ?_
      obtain rfl : k = 16 := by omega
      rfl
    · refine hs_aload (i := 0) (p := 22) (by decide +kernel) rfl ?_
      refine hf_get (T := et_TT) (t := 12) (ci := 10) (f := 0) (p := 25) (by decide +kernel) rfl hH k_th h0 ?_
      refine hs_aload (i := 2) (p := 26) (by decide +kernel) rfl ?_
      refine hs_iload (i := 5) (p := 28) (by decide +kernel) rfl ?_
      refine ht_callv (T := et_TT) (t := 10) (mi := 109) (na := 2) (ci := 8) (lk := 7) (lm := 5) (L0 := eg_en (eg_mL 109) [.ref s0, .ref e, .int (Int32.ofNat k)]) (by decide +kernel) rfl hH k_s0 rfl rfl rfl rfl rfl (by rw [show eg_mL 109 = 5 from by decide +kernel]; first | done | rfl) ?_
      refine (fc_co hH k_s0 k_e t9 hv g2 hnc hcc k_la k_ly (by omega)).mono (fun u hu => xp_cb hu ?_)
      show et_go none _ 162 31 _ [.int (Int32.ofNat (coE v X k nc))] _ _ _ _
      refine hs_istore (i := 6) (p := 33) (by decide +kernel) (Nat.le_of_ble_eq_true rfl) ?_
      refine hs_iload (i := 6) (p := 35) (by decide +kernel) rfl ?_
      refine hs_iload (i := 4) (p := 37) (by decide +kernel) rfl ?_
      refine hs_br2n (c := .le) (t := 47) (f := 40) (by decide +kernel) (by omega) (by omega) (fun (c37 : (coE v X k nc) ≤ (gbM v X nc k)) => ?_) (fun (c37 : ¬ ((coE v X k nc) ≤ (gbM v X nc k))) => ?_)
      · refine hs_iinc1 (i := 5) (p := 50) (by decide +kernel) rfl (Nat.le_of_ble_eq_true rfl) ?_
        refine hs_goto (p := 14) (by decide +kernel) ?_
        have e9 := gb_n (v := v) (X := X) (nc := nc) (k := k) (by omega)
        have h9 := fun x6 => @ih (16 - (k + 1)) (by omega) (k + 1) x6 (by omega) rfl
        rw [e9.1, e9.2] at h9
        exact h9 _
      · refine hs_iload (i := 6) (p := 42) (by decide +kernel) rfl ?_
        refine hs_istore (i := 4) (p := 44) (by decide +kernel) (Nat.le_of_ble_eq_true rfl) ?_
        refine hs_iload (i := 5) (p := 46) (by decide +kernel) rfl ?_
        refine hs_istore (i := 3) (p := 47) (by decide +kernel) (Nat.le_of_ble_eq_true rfl) ?_
        refine hs_iinc1 (i := 5) (p := 50) (by decide +kernel) rfl (Nat.le_of_ble_eq_true rfl) ?_
        refine hs_goto (p := 14) (by decide +kernel) ?_
        have e9 := gb_y (v := v) (X := X) (nc := nc) (k := k) (by omega)
        have h9 := fun x6 => @ih (16 - (k + 1)) (by omega) (k + 1) x6 (by omega) rfl
        rw [e9.1, e9.2] at h9
        exact h9 _
theorem fd_gb (hH : et_H et_TT K G) (k_th : K th = some 12) (h0 : et_pl (eg_at G th) 0 = some (.ref s0)) (k_s0 : K s0 = some 10) (h5 : et_pl (eg_at G s0) 5 = some (.int (Int32.ofNat ec))) (hec : ec ≤ 3) (h6 : et_pl (eg_at G s0) 6 = some (.ref ya)) (k_ya : K ya = some 40) (hn : n < ec) (hE : et_pl (eg_at G ya) n = some (.ref e)) (t9 : evK K e ca ki kn v.1 v.2.2.1) (hv : evc G e ca ki kn v) (g2 : et_pl (eg_at G s0) 2 = some (.int (Int32.ofNat nc))) (hnc : nc ≤ 20) (hcc : ccP G s0 la ly nc X Y) (k_la : K la = some 17) (k_ly : K ly = some 27) (hd : 5 ≤ d2) : et_go none d2 162 0 (eg_en (eg_mL 162) [.ref th, .int (Int32.ofNat n)]) [] G 0 0 (xp_Z G (some (.int (gbB v X nc 16)))) := by
  obtain ⟨d, rfl⟩ : ∃ d, d2 = d + 5 := ⟨d2 - 5, by omega⟩
  have k_e := t9.1.1
  rw [show eg_mL 162 = 7 from by decide +kernel]
  show et_go none (d + 5) 162 0 [some (.ref th), some (.int (Int32.ofNat n)), none, none, none, none, none] [] G 0 0 _
  have lt_th := (hH.2.2 _ _ k_th).1
  have lt_s0 := (hH.2.2 _ _ k_s0).1
  have lt_ya := (hH.2.2 _ _ k_ya).1
  have lt_e := (hH.2.2 _ _ k_e).1
  have lt_la := (hH.2.2 _ _ k_la).1
  have lt_ly := (hH.2.2 _ _ k_ly).1
  refine hs_aload (i := 0) (p := 1) (by decide +kernel) rfl ?_
  refine hs_iload (i := 1) (p := 2) (by decide +kernel) rfl ?_
  refine ht_callv (T := et_TT) (t := 12) (mi := 128) (na := 1) (ci := 10) (lk := 7) (lm := 2) (L0 := eg_en (eg_mL 128) [.ref th, .int (Int32.ofNat n)]) (by decide +kernel) rfl hH k_th rfl rfl rfl rfl rfl (by rw [show eg_mL 128 = 2 from by decide +kernel]; first | done | rfl) ?_
  refine (fd_needE hH k_th h0 k_s0 h5 hec h6 k_ya hn hE).mono (fun u hu => xp_cb hu ?_)
  show et_go none _ 162 5 _ [.ref e] _ _ _ _
  refine hs_astore (i := 2) (p := 6) (by decide +kernel) (Nat.le_of_ble_eq_true rfl) ?_
  refine hs_k (x := (-1)) (p := 7) (by decide +kernel) ?_
  refine hs_istore (i := 3) (p := 8) (by decide +kernel) (Nat.le_of_ble_eq_true rfl) ?_
  refine hs_k (x := Int32.ofNat 0) (p := 9) (by decide +kernel) ?_
  refine hs_istore (i := 4) (p := 11) (by decide +kernel) (Nat.le_of_ble_eq_true rfl) ?_
  refine hs_k (x := Int32.ofNat 0) (p := 12) (by decide +kernel) ?_
  refine hs_istore (i := 5) (p := 14) (by decide +kernel) (Nat.le_of_ble_eq_true rfl) ?_
  exact fd_gbL (k := 0) hH k_th h0 k_s0 h5 hec h6 k_ya hn hE t9 hv g2 hnc hcc k_la k_ly (Nat.zero_le _)
theorem fd_gbE (hH : et_H et_TT K G) (k_th : K th = some 12) (h0 : et_pl (eg_at G th) 0 = some (.ref s0)) (k_s0 : K s0 = some 10) (h5 : et_pl (eg_at G s0) 5 = some (.int (Int32.ofNat ec))) (hec : ec ≤ 3) (h6 : et_pl (eg_at G s0) 6 = some (.ref ya)) (k_ya : K ya = some 40) (hx : ¬ xr x ec) (hd : 5 ≤ d2) : et_go none d2 162 0 (eg_en (eg_mL 162) [.ref th, .int x]) [] G 0 0 (ix_Z 1 G) := by
  obtain ⟨d, rfl⟩ : ∃ d, d2 = d + 5 := ⟨d2 - 5, by omega⟩
  rw [show eg_mL 162 = 7 from by decide +kernel]
  show et_go none (d + 5) 162 0 [some (.ref th), some (.int x), none, none, none, none, none] [] G 0 0 _
  have lt_th := (hH.2.2 _ _ k_th).1
  have lt_s0 := (hH.2.2 _ _ k_s0).1
  have lt_ya := (hH.2.2 _ _ k_ya).1
  refine hs_aload (i := 0) (p := 1) (by decide +kernel) rfl ?_
  refine hs_iload (i := 1) (p := 2) (by decide +kernel) rfl ?_
  refine ht_callv (T := et_TT) (t := 12) (mi := 128) (na := 1) (ci := 10) (lk := 7) (lm := 2) (L0 := eg_en (eg_mL 128) [.ref th, .int x]) (by decide +kernel) rfl hH k_th rfl rfl rfl rfl rfl (by rw [show eg_mL 128 = 2 from by decide +kernel]; first | done | rfl) ?_
  refine (fd_needEn hH k_th h0 k_s0 h5 hec h6 k_ya hx).mono (fun u hu => ?_)
  obtain ⟨c2, s2, rfl⟩ := hu
  refine hf_cx (by decide +kernel) ?_
  exact ⟨_, _, rfl⟩
theorem fh_gb (hH : et_H et_TT K G) (k_th : K th = some 12) (h0 : et_pl (eg_at G th) 0 = some (.ref s0)) (k_s0 : K s0 = some 10) (h5 : et_pl (eg_at G s0) 5 = some (.int (Int32.ofNat ec))) (hec : ec ≤ 3) (h6 : et_pl (eg_at G s0) 6 = some (.ref ya)) (k_ya : K ya = some 40) (hn : n < ec) (hE : et_pl (eg_at G ya) n = some (.ref e)) (t9 : evK K e ca ki kn v.1 v.2.2.1) (hv : evc G e ca ki kn v) (g2 : et_pl (eg_at G s0) 2 = some (.int (Int32.ofNat nc))) (hnc : nc ≤ 20) (hcc : ccP G s0 la ly nc X Y) (k_la : K la = some 17) (k_ly : K ly = some 27) (k_out : K out = some 31) (hd : 6 ≤ d2) : et_go none d2 21 0 (eg_en (eg_mL 21) [.ref th, .int (Int32.ofNat n), .ref out]) [] G 0 0 (fun u => u.1 = .inl (some (.int (Int32.ofNat 0))) ∧ et_pl (eg_at u.2.1 out) 0 = some (.long (gbB v X nc 16).toInt64)) := by
  obtain ⟨d, rfl⟩ : ∃ d, d2 = d + 6 := ⟨d2 - 6, by omega⟩
  rw [show eg_mL 21 = 4 from by decide +kernel]
  show et_go none (d + 6) 21 0 [some (.ref th), some (.int (Int32.ofNat n)), some (.ref out), none] [] G 0 0 _
  have lt_th := (hH.2.2 _ _ k_th).1
  have lt_out := (hH.2.2 _ _ k_out).1
  refine hs_aload (i := 2) (p := 1) (by decide +kernel) rfl ?_
  refine hs_k (x := Int32.ofNat 0) (p := 2) (by decide +kernel) ?_
  refine hs_aload (i := 0) (p := 3) (by decide +kernel) rfl ?_
  refine hs_iload (i := 1) (p := 4) (by decide +kernel) rfl ?_
  refine ht_callv (T := et_TT) (t := 12) (mi := 162) (na := 1) (ci := 10) (lk := 4) (lm := 7) (L0 := eg_en (eg_mL 162) [.ref th, .int (Int32.ofNat n)]) (by decide +kernel) rfl hH k_th rfl rfl rfl rfl rfl (by rw [show eg_mL 162 = 7 from by decide +kernel]; first | done | rfl) ?_
  refine (fd_gb hH k_th h0 k_s0 h5 hec h6 k_ya hn hE t9 hv g2 hnc hcc k_la k_ly (by omega)).mono (fun u hu => xp_cb hu ?_)
  show et_go none _ 21 7 _ [.int (gbB v X nc 16), .int (Int32.ofNat 0), .ref out] _ _ _ _
  refine hs_i2l (p := 8) (by decide +kernel) ?_
  have hHo := hH
  refine hf_lst (T := et_TT) (t := 31) (N := 1) (p := 9) (by decide +kernel) rfl rfl hH k_out (by omega) (by decide) (fun G8 hH x8 e8 => ?_)
  refine hs_goto (p := 15) (by decide +kernel) ?_
  refine hs_k (x := Int32.ofNat 0) (p := 16) (by decide +kernel) ?_
  refine hs_iret (by decide +kernel) ?_
  exact ⟨rfl, e8⟩
theorem fh_gbE (hH : et_H et_TT K G) (k_th : K th = some 12) (h0 : et_pl (eg_at G th) 0 = some (.ref s0)) (k_s0 : K s0 = some 10) (h5 : et_pl (eg_at G s0) 5 = some (.int (Int32.ofNat ec))) (hec : ec ≤ 3) (h6 : et_pl (eg_at G s0) 6 = some (.ref ya)) (k_ya : K ya = some 40) (hx : ¬ xr x ec) (hd : 6 ≤ d2) : et_go none d2 21 0 (eg_en (eg_mL 21) [.ref th, .int x, .ref out]) [] G 0 0 (fun u => u.1 = .inl (some (.int (Int32.ofNat 1))) ∧ u.2.1 = G) := by
  obtain ⟨d, rfl⟩ : ∃ d, d2 = d + 6 := ⟨d2 - 6, by omega⟩
  rw [show eg_mL 21 = 4 from by decide +kernel]
  show et_go none (d + 6) 21 0 [some (.ref th), some (.int x), some (.ref out), none] [] G 0 0 _
  have lt_th := (hH.2.2 _ _ k_th).1
  refine hs_aload (i := 2) (p := 1) (by decide +kernel) rfl ?_
  refine hs_k (x := Int32.ofNat 0) (p := 2) (by decide +kernel) ?_
  refine hs_aload (i := 0) (p := 3) (by decide +kernel) rfl ?_
  refine hs_iload (i := 1) (p := 4) (by decide +kernel) rfl ?_
  refine ht_callv (T := et_TT) (t := 12) (mi := 162) (na := 1) (ci := 10) (lk := 4) (lm := 7) (L0 := eg_en (eg_mL 162) [.ref th, .int x]) (by decide +kernel) rfl hH k_th rfl rfl rfl rfl rfl (by rw [show eg_mL 162 = 7 from by decide +kernel]; first | done | rfl) ?_
  refine (fd_gbE hH k_th h0 k_s0 h5 hec h6 k_ya hx (by omega)).mono (fun u hu => ?_)
  obtain ⟨c4, s4, rfl⟩ := hu
  refine hs_ch (h := 12) (i := 3) (n := 1) (hh := (eg_mh 21).getD []) (by decide +kernel) ⟨by decide +kernel, by decide +kernel⟩ (Nat.le_of_ble_eq_true rfl) ?_
  show et_go none _ 21 13 [some (.ref th), some (.int x), some (.ref out), none] [] _ _ _ _
  refine hs_k (x := Int32.ofNat 1) (p := 14) (by decide +kernel) ?_
  refine hs_iret (by decide +kernel) ?_
  exact ⟨rfl, rfl⟩
theorem fz_gb (hH : et_H et_TT K G) (k_th : K th = some 12) (h0 : et_pl (eg_at G th) 0 = some (.ref s0)) (k_s0 : K s0 = some 10) (k_s1 : K s1 = some 10) (h5 : et_pl (eg_at G s0) 5 = some (.int (Int32.ofNat ec))) (hec : ec ≤ 3) (t : ezK K ya yb O A) (hz : ez G th s0 s1 ya yb O A V) (ho : ∀ n, n < 6 → evo (V n)) (g2 : et_pl (eg_at G s0) 2 = some (.int (Int32.ofNat nc))) (hnc : nc ≤ 20) (hcc : ccP G s0 la ly nc X Y) (k_la : K la = some 17) (k_ly : K ly = some 27) (k_out : K out = some 31) (hd : 6 ≤ d2) : et_go none d2 21 0 (eg_en (eg_mL 21) [.ref th, .int x, .ref out]) [] G 0 0 (fun u => (¬ xr x ec ∧ u.1 = .inl (some (.int (Int32.ofNat 1)))) ∨ ∃ n, (x = Int32.ofNat n ∧ n < ec) ∧ u.1 = .inl (some (.int (Int32.ofNat 0))) ∧ et_pl (eg_at u.2.1 out) 0 = some (.long (gbB (V n) X nc 16).toInt64)) := by
  by_cases hx : xr x ec
  · obtain ⟨n, rfl, hn⟩ := xr_nat hx (by omega)
    exact (fh_gb hH k_th h0 k_s0 h5 hec hz.1.1 t.1.1 hn (hz.2.1 n (by omega)).1 (t.ev (ho n (by omega)) (by omega)) (hz.2.2.1 n (by omega)) g2 hnc hcc k_la k_ly k_out hd).mono (fun u hu => .inr ⟨n, ⟨rfl, hn⟩, hu.1, hu.2⟩)
  · exact (fh_gbE hH k_th h0 k_s0 h5 hec hz.1.1 t.1.1 hx hd).mono (fun u hu => .inl ⟨hx, hu.1⟩)
theorem fn_coL (hH : et_H et_TT K G) (k_am : K am = some 13) (k_aw : K aw = some 46) (m1 : et_pl (eg_at G am) 1 = some (.ref aw)) (hn : n < 3) (ho : evo v) (hv : evm G aw n v) (w3 : et_pl (eg_at G aw) 3 = some (.int (Int32.ofNat nc))) (hnc : nc ≤ 20) (hcr : crP G aw nc X Y) (hc : c ≤ nc) : et_go none (d + 7) 274 5 [some (.ref am), some (.int (Int32.ofNat n)), some (.int (Int32.ofNat k)), some (.int (Int32.ofNat (coE v X k c))), some (.int (Int32.ofNat c))] [] G 0 0 (xp_Z G (some (.int (Int32.ofNat (coE v X k nc))))) := by
  induction hq9 : nc - c using Nat.strongRecOn generalizing c with
  | _ q9 ih =>
    have hle := coE_le v X k c
    have lt_am := (hH.2.2 _ _ k_am).1
    have lt_aw := (hH.2.2 _ _ k_aw).1
    refine hs_iload (i := 4) (p := 7) (by decide +kernel) rfl ?_
    refine hs_aload (i := 0) (p := 8) (by decide +kernel) rfl ?_
    refine ht_callv (T := et_TT) (t := 13) (mi := 218) (na := 0) (ci := 11) (lk := 5) (lm := 1) (L0 := eg_en (eg_mL 218) [.ref am]) (by decide +kernel) rfl hH k_am rfl rfl rfl rfl rfl (by rw [show eg_mL 218 = 1 from by decide +kernel]; first | done | rfl) ?_
    refine (fm_cards hH k_am k_aw m1 w3).mono (fun u hu => xp_cb hu ?_)
    show et_go none _ 274 11 _ [.int (Int32.ofNat nc), .int (Int32.ofNat c)] _ _ _ _
    refine hs_br2n (c := .ge) (t := 59) (f := 14) (by decide +kernel) (by omega) (by omega) (fun (c11 : nc ≤ c) => ?_) (fun (c11 : ¬ (nc ≤ c)) => ?_)
    · refine hs_iload (i := 3) (p := 60) (by decide +kernel) rfl ?_
      refine hs_iret (by decide +kernel) ?_
      obtain rfl : c = nc := by omega
      rfl
    · refine hs_iload (i := 3) (p := 15) (by decide +kernel) rfl ?_
      refine hs_aload (i := 0) (p := 16) (by decide +kernel) rfl ?_
      refine hs_iload (i := 1) (p := 17) (by decide +kernel) rfl ?_
      refine hs_aload (i := 0) (p := 18) (by decide +kernel) rfl ?_
      refine hs_iload (i := 4) (p := 20) (by decide +kernel) rfl ?_
      refine ht_callv (T := et_TT) (t := 13) (mi := 234) (na := 1) (ci := 11) (lk := 5) (lm := 2) (L0 := eg_en (eg_mL 234) [.ref am, .int (Int32.ofNat c)]) (by decide +kernel) rfl hH k_am rfl rfl rfl rfl rfl (by rw [show eg_mL 234 = 2 from by decide +kernel]; first | done | rfl) ?_
      refine (fm_litOf hH k_am k_aw m1 (by omega) (hcr c (by omega)).1).mono (fun u hu => xp_cb hu ?_)
      show et_go none _ 274 23 _ [.int (X c), .int (Int32.ofNat n), .ref am, .int (Int32.ofNat (coE v X k c))] _ _ _ _
      refine ht_callv (T := et_TT) (t := 13) (mi := 235) (na := 2) (ci := 11) (lk := 5) (lm := 3) (L0 := eg_en (eg_mL 235) [.ref am, .int (Int32.ofNat n), .int (X c)]) (by decide +kernel) rfl hH k_am rfl rfl rfl rfl rfl (by rw [show eg_mL 235 = 3 from by decide +kernel]; first | done | rfl) ?_
      refine (fn_says hH k_am k_aw m1 hn ho.1.1 ho.1.2 hv (by omega)).mono (fun u hu => xp_cb hu ?_)
      by_cases q1 : v.2.2.2.2.1 < suN v.2.1 v.2.2.1 v.2.2.2.1 (X c) v.1
      · rw [if_pos q1]
        show et_go none _ 274 26 _ [.int (Int32.ofNat 1), .int (Int32.ofNat (coE v X k c))] _ _ _ _
        refine hs_aload (i := 0) (p := 27) (by decide +kernel) rfl ?_
        refine hs_iload (i := 1) (p := 28) (by decide +kernel) rfl ?_
        refine hs_aload (i := 0) (p := 29) (by decide +kernel) rfl ?_
        refine hs_iload (i := 4) (p := 31) (by decide +kernel) rfl ?_
        refine ht_callv (T := et_TT) (t := 13) (mi := 234) (na := 1) (ci := 11) (lk := 5) (lm := 2) (L0 := eg_en (eg_mL 234) [.ref am, .int (Int32.ofNat c)]) (by decide +kernel) rfl hH k_am rfl rfl rfl rfl rfl (by rw [show eg_mL 234 = 2 from by decide +kernel]; first | done | rfl) ?_
        refine (fm_litOf hH k_am k_aw m1 (by omega) (hcr c (by omega)).1).mono (fun u hu => xp_cb hu ?_)
        show et_go none _ 274 34 _ [.int (X c), .int (Int32.ofNat n), .ref am, .int (Int32.ofNat 1), .int (Int32.ofNat (coE v X k c))] _ _ _ _
        refine hs_k (x := Int32.ofNat 1) (p := 35) (by decide +kernel) ?_
        refine hs_iload (i := 2) (p := 36) (by decide +kernel) rfl ?_
        refine hs_st (ins := .ishl) (len := 1) (p := 37) (by decide +kernel) rfl rfl ?_
        refine hs_k (x := (-1)) (p := 38) (by decide +kernel) ?_
        refine hs_st (ins := .ixor) (len := 1) (p := 39) (by decide +kernel) rfl rfl ?_
        refine hs_st (ins := .iand) (len := 1) (p := 40) (by decide +kernel) rfl rfl ?_
        refine ht_callv (T := et_TT) (t := 13) (mi := 235) (na := 2) (ci := 11) (lk := 5) (lm := 3) (L0 := eg_en (eg_mL 235) [.ref am, .int (Int32.ofNat n), .int ((X c) &&& (((Int32.ofNat 1) <<< ((Int32.ofNat k) &&& 31)) ^^^ (-1)))]) (by decide +kernel) rfl hH k_am rfl rfl rfl rfl rfl (by rw [show eg_mL 235 = 3 from by decide +kernel]; first | done | rfl) ?_
        refine (fn_says hH k_am k_aw m1 hn ho.1.1 ho.1.2 hv (by omega)).mono (fun u hu => xp_cb hu ?_)
        by_cases q2 : v.2.2.2.2.1 < suN v.2.1 v.2.2.1 v.2.2.2.1 ((X c) &&& (((Int32.ofNat 1) <<< ((Int32.ofNat k) &&& 31)) ^^^ (-1))) v.1
        · rw [if_pos q2]
          show et_go none _ 274 43 _ [.int (Int32.ofNat 1), .int (Int32.ofNat 1), .int (Int32.ofNat (coE v X k c))] _ _ _ _
          refine hs_br2n (c := .eq) (t := 50) (f := 46) (by decide +kernel) (by omega) (by omega) (fun _ => ?_) (fun h => absurd (show 1 = 1 by decide) h)
          refine hs_k (x := Int32.ofNat 0) (p := 51) (by decide +kernel) ?_
          refine hs_iaddn (p := 52) (by decide +kernel) ?_
          refine hs_istore (i := 3) (p := 53) (by decide +kernel) (Nat.le_of_ble_eq_true rfl) ?_
          refine hs_iinc1 (i := 4) (p := 56) (by decide +kernel) rfl (Nat.le_of_ble_eq_true rfl) ?_
          refine hs_goto (p := 5) (by decide +kernel) ?_
          have e9 := coE_y (v := v) (X := X) (k := k) (c := c) (b := true) (decide_eq_true q1) (decide_eq_true q2)
          have h9 := @ih (nc - (c + 1)) (by omega) (c + 1) (by omega) rfl
          rw [e9] at h9
          exact h9
        · rw [if_neg q2]
          show et_go none _ 274 43 _ [.int (Int32.ofNat 0), .int (Int32.ofNat 1), .int (Int32.ofNat (coE v X k c))] _ _ _ _
          refine hs_br2n (c := .eq) (t := 50) (f := 46) (by decide +kernel) (by omega) (by omega) (fun h => absurd h (show ¬ (1 = 0) by decide)) (fun _ => ?_)
          refine hs_k (x := Int32.ofNat 1) (p := 47) (by decide +kernel) ?_
          refine hs_goto (p := 51) (by decide +kernel) ?_
          refine hs_iaddn (p := 52) (by decide +kernel) ?_
          refine hs_istore (i := 3) (p := 53) (by decide +kernel) (Nat.le_of_ble_eq_true rfl) ?_
          refine hs_iinc1 (i := 4) (p := 56) (by decide +kernel) rfl (Nat.le_of_ble_eq_true rfl) ?_
          refine hs_goto (p := 5) (by decide +kernel) ?_
          have e9 := coE_n (v := v) (X := X) (k := k) (c := c) (b := true) (decide_eq_true q1) (decide_eq_false q2)
          have h9 := @ih (nc - (c + 1)) (by omega) (c + 1) (by omega) rfl
          rw [e9] at h9
          exact h9
      · rw [if_neg q1]
        show et_go none _ 274 26 _ [.int (Int32.ofNat 0), .int (Int32.ofNat (coE v X k c))] _ _ _ _
        refine hs_aload (i := 0) (p := 27) (by decide +kernel) rfl ?_
        refine hs_iload (i := 1) (p := 28) (by decide +kernel) rfl ?_
        refine hs_aload (i := 0) (p := 29) (by decide +kernel) rfl ?_
        refine hs_iload (i := 4) (p := 31) (by decide +kernel) rfl ?_
        refine ht_callv (T := et_TT) (t := 13) (mi := 234) (na := 1) (ci := 11) (lk := 5) (lm := 2) (L0 := eg_en (eg_mL 234) [.ref am, .int (Int32.ofNat c)]) (by decide +kernel) rfl hH k_am rfl rfl rfl rfl rfl (by rw [show eg_mL 234 = 2 from by decide +kernel]; first | done | rfl) ?_
        refine (fm_litOf hH k_am k_aw m1 (by omega) (hcr c (by omega)).1).mono (fun u hu => xp_cb hu ?_)
        show et_go none _ 274 34 _ [.int (X c), .int (Int32.ofNat n), .ref am, .int (Int32.ofNat 0), .int (Int32.ofNat (coE v X k c))] _ _ _ _
        refine hs_k (x := Int32.ofNat 1) (p := 35) (by decide +kernel) ?_
        refine hs_iload (i := 2) (p := 36) (by decide +kernel) rfl ?_
        refine hs_st (ins := .ishl) (len := 1) (p := 37) (by decide +kernel) rfl rfl ?_
        refine hs_k (x := (-1)) (p := 38) (by decide +kernel) ?_
        refine hs_st (ins := .ixor) (len := 1) (p := 39) (by decide +kernel) rfl rfl ?_
        refine hs_st (ins := .iand) (len := 1) (p := 40) (by decide +kernel) rfl rfl ?_
        refine ht_callv (T := et_TT) (t := 13) (mi := 235) (na := 2) (ci := 11) (lk := 5) (lm := 3) (L0 := eg_en (eg_mL 235) [.ref am, .int (Int32.ofNat n), .int ((X c) &&& (((Int32.ofNat 1) <<< ((Int32.ofNat k) &&& 31)) ^^^ (-1)))]) (by decide +kernel) rfl hH k_am rfl rfl rfl rfl rfl (by rw [show eg_mL 235 = 3 from by decide +kernel]; first | done | rfl) ?_
        refine (fn_says hH k_am k_aw m1 hn ho.1.1 ho.1.2 hv (by omega)).mono (fun u hu => xp_cb hu ?_)
        by_cases q2 : v.2.2.2.2.1 < suN v.2.1 v.2.2.1 v.2.2.2.1 ((X c) &&& (((Int32.ofNat 1) <<< ((Int32.ofNat k) &&& 31)) ^^^ (-1))) v.1
        · rw [if_pos q2]
          show et_go none _ 274 43 _ [.int (Int32.ofNat 1), .int (Int32.ofNat 0), .int (Int32.ofNat (coE v X k c))] _ _ _ _
          refine hs_br2n (c := .eq) (t := 50) (f := 46) (by decide +kernel) (by omega) (by omega) (fun h => absurd h (show ¬ (0 = 1) by decide)) (fun _ => ?_)
          refine hs_k (x := Int32.ofNat 1) (p := 47) (by decide +kernel) ?_
          refine hs_goto (p := 51) (by decide +kernel) ?_
          refine hs_iaddn (p := 52) (by decide +kernel) ?_
          refine hs_istore (i := 3) (p := 53) (by decide +kernel) (Nat.le_of_ble_eq_true rfl) ?_
          refine hs_iinc1 (i := 4) (p := 56) (by decide +kernel) rfl (Nat.le_of_ble_eq_true rfl) ?_
          refine hs_goto (p := 5) (by decide +kernel) ?_
          have e9 := coE_n (v := v) (X := X) (k := k) (c := c) (b := false) (decide_eq_false q1) (decide_eq_true q2)
          have h9 := @ih (nc - (c + 1)) (by omega) (c + 1) (by omega) rfl
          rw [e9] at h9
          exact h9
        · rw [if_neg q2]
          show et_go none _ 274 43 _ [.int (Int32.ofNat 0), .int (Int32.ofNat 0), .int (Int32.ofNat (coE v X k c))] _ _ _ _
          refine hs_br2n (c := .eq) (t := 50) (f := 46) (by decide +kernel) (by omega) (by omega) (fun _ => ?_) (fun h => absurd (show 0 = 0 by decide) h)
          refine hs_k (x := Int32.ofNat 0) (p := 51) (by decide +kernel) ?_
          refine hs_iaddn (p := 52) (by decide +kernel) ?_
          refine hs_istore (i := 3) (p := 53) (by decide +kernel) (Nat.le_of_ble_eq_true rfl) ?_
          refine hs_iinc1 (i := 4) (p := 56) (by decide +kernel) rfl (Nat.le_of_ble_eq_true rfl) ?_
          refine hs_goto (p := 5) (by decide +kernel) ?_
          have e9 := coE_y (v := v) (X := X) (k := k) (c := c) (b := false) (decide_eq_false q1) (decide_eq_false q2)
          have h9 := @ih (nc - (c + 1)) (by omega) (c + 1) (by omega) rfl
          rw [e9] at h9
          exact h9
theorem fn_co (hH : et_H et_TT K G) (k_am : K am = some 13) (k_aw : K aw = some 46) (m1 : et_pl (eg_at G am) 1 = some (.ref aw)) (hn : n < 3) (ho : evo v) (hv : evm G aw n v) (w3 : et_pl (eg_at G aw) 3 = some (.int (Int32.ofNat nc))) (hnc : nc ≤ 20) (hcr : crP G aw nc X Y) (hd : 7 ≤ d2) : et_go none d2 274 0 (eg_en (eg_mL 274) [.ref am, .int (Int32.ofNat n), .int (Int32.ofNat k)]) [] G 0 0 (xp_Z G (some (.int (Int32.ofNat (coE v X k nc))))) := by
  obtain ⟨d, rfl⟩ : ∃ d, d2 = d + 7 := ⟨d2 - 7, by omega⟩
  rw [show eg_mL 274 = 5 from by decide +kernel]
  show et_go none (d + 7) 274 0 [some (.ref am), some (.int (Int32.ofNat n)), some (.int (Int32.ofNat k)), none, none] [] G 0 0 _
  have lt_am := (hH.2.2 _ _ k_am).1
  have lt_aw := (hH.2.2 _ _ k_aw).1
  refine hs_k (x := Int32.ofNat 0) (p := 1) (by decide +kernel) ?_
  refine hs_istore (i := 3) (p := 2) (by decide +kernel) (Nat.le_of_ble_eq_true rfl) ?_
  refine hs_k (x := Int32.ofNat 0) (p := 3) (by decide +kernel) ?_
  refine hs_istore (i := 4) (p := 5) (by decide +kernel) (Nat.le_of_ble_eq_true rfl) ?_
  exact fn_coL (c := 0) hH k_am k_aw m1 hn ho hv w3 hnc hcr (Nat.zero_le _)
theorem fn_cov (hH : et_H et_TT K G) (k_am : K am = some 13) (k_aw : K aw = some 46) (m1 : et_pl (eg_at G am) 1 = some (.ref aw)) (w4 : et_pl (eg_at G aw) 4 = some (.int (Int32.ofNat ec))) (hec : ec ≤ 3) (hm : zyM G aw ec V) (ho : ∀ n, n < 3 → evo (V n)) (w3 : et_pl (eg_at G aw) 3 = some (.int (Int32.ofNat nc))) (hnc : nc ≤ 20) (hcr : crP G aw nc X Y) (hn : n < ec) (hk : k < 16) (hd : 8 ≤ d2) : et_go none d2 272 0 (eg_en (eg_mL 272) [.ref am, .int (Int32.ofNat n), .int (Int32.ofNat k)]) [] G 0 0 (fun u => u.1 = .inl (some (.int (Int32.ofNat (coE (V n) X k nc)))) ∧ et_pl (eg_at u.2.1 am) 0 = some (.int (Int32.ofNat 0))) := by
  obtain ⟨d, rfl⟩ : ∃ d, d2 = d + 8 := ⟨d2 - 8, by omega⟩
  have ok : (Int32.ofNat k).toInt = k := hs_nint (by omega)
  rw [show eg_mL 272 = 3 from by decide +kernel]
  show et_go none (d + 8) 272 0 [some (.ref am), some (.int (Int32.ofNat n)), some (.int (Int32.ofNat k))] [] G 0 0 _
  have lt_am := (hH.2.2 _ _ k_am).1
  have lt_aw := (hH.2.2 _ _ k_aw).1
  refine hs_aload (i := 0) (p := 1) (by decide +kernel) rfl ?_
  refine hs_k (x := Int32.ofNat 0) (p := 2) (by decide +kernel) ?_
  refine hf_put (T := et_TT) (t := 13) (ci := 11) (f := 0) (p := 5) (ty := .int) (by decide +kernel) rfl rfl rfl rfl rfl hH k_am hi_any (fun G2 hH x2 e2 => ?_)
  have hm := hm.mv ho (fun j _ _ => x2.2 aw j lt_aw (fun h => hi_ne k_aw k_am (by decide) h.1))
  have hcr : crP G2 aw nc X Y := fun k hk => ⟨(x2.2 aw _ lt_aw (fun h => hi_ne k_aw k_am (by decide) h.1)).trans (hcr k hk).1, (x2.2 aw _ lt_aw (fun h => hi_ne k_aw k_am (by decide) h.1)).trans (hcr k hk).2.1, (hcr k hk).2.2⟩
  have w3 := (x2.2 aw 3 lt_aw (fun h => hi_ne k_aw k_am (by decide) h.1)).trans w3
  have m1 := (x2.2 am 1 lt_am (fun h => absurd h.2 (by decide))).trans m1
  have w4 := (x2.2 aw 4 lt_aw (fun h => (hi_ne k_aw k_am (by decide)) h.1)).trans w4
  have lt_am := Nat.lt_of_lt_of_le lt_am x2.1
  have lt_aw := Nat.lt_of_lt_of_le lt_aw x2.1
  refine hs_aload (i := 0) (p := 6) (by decide +kernel) rfl ?_
  refine hs_aload (i := 0) (p := 7) (by decide +kernel) rfl ?_
  refine hs_iload (i := 1) (p := 8) (by decide +kernel) rfl ?_
  refine ht_callv (T := et_TT) (t := 13) (mi := 208) (na := 1) (ci := 11) (lk := 3) (lm := 2) (L0 := eg_en (eg_mL 208) [.ref am, .int (Int32.ofNat n)]) (by decide +kernel) rfl hH k_am rfl rfl rfl rfl rfl (by rw [show eg_mL 208 = 2 from by decide +kernel]; first | done | rfl) ?_
  refine (fm_nEy hH k_am k_aw m1 w4 hec hn (by omega)).mono (fun u hu => xp_cb hu ?_)
  show et_go none _ 272 11 _ [.int (Int32.ofNat 0), .ref am] _ _ _ _
  refine hs_if0 (c := .ne) (t := 21) (f := 14) (by decide +kernel) (show ¬ (¬ Int32.ofNat 0 = 0) by decide) ?_
  refine hs_iload (i := 2) (p := 15) (by decide +kernel) rfl ?_
  refine hs_calls (mi := 273) (na := 1) (lk := 3) (lm := 1) (L0 := eg_en (eg_mL 273) [.int (Int32.ofNat k)]) (by decide +kernel) rfl rfl rfl rfl rfl rfl (by rw [show eg_mL 273 = 1 from by decide +kernel]; first | done | rfl) ?_
  refine (fm_noCell (x := Int32.ofNat k)).mono (fun u hu => xp_cb hu ?_)
  by_cases xw : 0 ≤ (Int32.ofNat k).toInt ∧ (Int32.ofNat k).toInt < 16
  · rw [if_pos xw]
    show et_go none _ 272 18 _ [.int (Int32.ofNat 0), .ref am] _ _ _ _
    refine hs_if1 (c := .eq) (t := 25) (f := 21) (by decide +kernel) (show Int32.ofNat 0 = 0 by decide) ?_
    refine hs_k (x := Int32.ofNat 0) (p := 26) (by decide +kernel) ?_
    refine hs_k (x := Int32.ofNat 1) (p := 27) (by decide +kernel) ?_
    refine ht_callv (T := et_TT) (t := 13) (mi := 204) (na := 2) (ci := 11) (lk := 3) (lm := 3) (L0 := eg_en (eg_mL 204) [.ref am, .int (Int32.ofNat 0), .int (Int32.ofNat 1)]) (by decide +kernel) rfl hH k_am rfl rfl rfl rfl rfl (by rw [show eg_mL 204 = 3 from by decide +kernel]; first | done | rfl) ?_
    refine (fm_t0 hH k_am).mono (fun u hu => xp_cb hu ?_)
    show et_go none _ 272 30 _ [.int (Int32.ofNat 0)] _ _ _ _
    refine hs_if1 (c := .eq) (t := 37) (f := 33) (by decide +kernel) (show Int32.ofNat 0 = 0 by decide) ?_
    refine hs_aload (i := 0) (p := 38) (by decide +kernel) rfl ?_
    refine hs_iload (i := 1) (p := 39) (by decide +kernel) rfl ?_
    refine hs_iload (i := 2) (p := 40) (by decide +kernel) rfl ?_
    refine ht_callv (T := et_TT) (t := 13) (mi := 274) (na := 2) (ci := 11) (lk := 3) (lm := 5) (L0 := eg_en (eg_mL 274) [.ref am, .int (Int32.ofNat n), .int (Int32.ofNat k)]) (by decide +kernel) rfl hH k_am rfl rfl rfl rfl rfl (by rw [show eg_mL 274 = 5 from by decide +kernel]; first | done | rfl) ?_
    refine (fn_co hH k_am k_aw m1 (by omega) (ho n (by omega)) ((hm n (by omega)).1 hn) w3 hnc hcr (by omega)).mono (fun u hu => xp_cb hu ?_)
    show et_go none _ 272 43 _ [.int (Int32.ofNat (coE (V n) X k nc))] _ _ _ _
    refine hs_iret (by decide +kernel) ?_
    exact ⟨rfl, e2⟩
  · exact absurd ⟨by omega, by omega⟩ xw
theorem fn_covR (hH : et_H et_TT K G) (k_am : K am = some 13) (k_aw : K aw = some 46) (m1 : et_pl (eg_at G am) 1 = some (.ref aw)) (w4 : et_pl (eg_at G aw) 4 = some (.int (Int32.ofNat ec))) (hec : ec ≤ 3) (hm : zyM G aw ec V) (ho : ∀ n, n < 3 → evo (V n)) (hn : n < ec) (hy : ¬ (0 ≤ y.toInt ∧ y.toInt < 16)) (hd : 3 ≤ d2) : et_go none d2 272 0 (eg_en (eg_mL 272) [.ref am, .int (Int32.ofNat n), .int y]) [] G 0 0 (fun u => u.1 = .inl (some (.int (Int32.ofNat 0))) ∧ et_pl (eg_at u.2.1 am) 0 = some (.int (Int32.ofNat 1))) := by
  obtain ⟨d, rfl⟩ : ∃ d, d2 = d + 3 := ⟨d2 - 3, by omega⟩
  rw [show eg_mL 272 = 3 from by decide +kernel]
  show et_go none (d + 3) 272 0 [some (.ref am), some (.int (Int32.ofNat n)), some (.int y)] [] G 0 0 _
  have lt_am := (hH.2.2 _ _ k_am).1
  have lt_aw := (hH.2.2 _ _ k_aw).1
  refine hs_aload (i := 0) (p := 1) (by decide +kernel) rfl ?_
  refine hs_k (x := Int32.ofNat 0) (p := 2) (by decide +kernel) ?_
  refine hf_put (T := et_TT) (t := 13) (ci := 11) (f := 0) (p := 5) (ty := .int) (by decide +kernel) rfl rfl rfl rfl rfl hH k_am hi_any (fun G2 hH x2 e2 => ?_)
  have hm := hm.mv ho (fun j _ _ => x2.2 aw j lt_aw (fun h => hi_ne k_aw k_am (by decide) h.1))
  have m1 := (x2.2 am 1 lt_am (fun h => absurd h.2 (by decide))).trans m1
  have w4 := (x2.2 aw 4 lt_aw (fun h => (hi_ne k_aw k_am (by decide)) h.1)).trans w4
  have lt_am := Nat.lt_of_lt_of_le lt_am x2.1
  have lt_aw := Nat.lt_of_lt_of_le lt_aw x2.1
  refine hs_aload (i := 0) (p := 6) (by decide +kernel) rfl ?_
  refine hs_aload (i := 0) (p := 7) (by decide +kernel) rfl ?_
  refine hs_iload (i := 1) (p := 8) (by decide +kernel) rfl ?_
  refine ht_callv (T := et_TT) (t := 13) (mi := 208) (na := 1) (ci := 11) (lk := 3) (lm := 2) (L0 := eg_en (eg_mL 208) [.ref am, .int (Int32.ofNat n)]) (by decide +kernel) rfl hH k_am rfl rfl rfl rfl rfl (by rw [show eg_mL 208 = 2 from by decide +kernel]; first | done | rfl) ?_
  refine (fm_nEy hH k_am k_aw m1 w4 hec hn (by omega)).mono (fun u hu => xp_cb hu ?_)
  show et_go none _ 272 11 _ [.int (Int32.ofNat 0), .ref am] _ _ _ _
  refine hs_if0 (c := .ne) (t := 21) (f := 14) (by decide +kernel) (show ¬ (¬ Int32.ofNat 0 = 0) by decide) ?_
  refine hs_iload (i := 2) (p := 15) (by decide +kernel) rfl ?_
  refine hs_calls (mi := 273) (na := 1) (lk := 3) (lm := 1) (L0 := eg_en (eg_mL 273) [.int y]) (by decide +kernel) rfl rfl rfl rfl rfl rfl (by rw [show eg_mL 273 = 1 from by decide +kernel]; first | done | rfl) ?_
  refine (fm_noCell (x := y)).mono (fun u hu => xp_cb hu ?_)
  by_cases xw : 0 ≤ (y).toInt ∧ (y).toInt < 16
  · exact absurd xw hy
  · rw [if_neg xw]
    show et_go none _ 272 18 _ [.int (Int32.ofNat 1), .ref am] _ _ _ _
    refine hs_if0 (c := .eq) (t := 25) (f := 21) (by decide +kernel) (show ¬ (Int32.ofNat 1 = 0) by decide) ?_
    refine hs_k (x := Int32.ofNat 1) (p := 22) (by decide +kernel) ?_
    refine hs_goto (p := 26) (by decide +kernel) ?_
    refine hs_k (x := Int32.ofNat 1) (p := 27) (by decide +kernel) ?_
    refine ht_callv (T := et_TT) (t := 13) (mi := 204) (na := 2) (ci := 11) (lk := 3) (lm := 3) (L0 := eg_en (eg_mL 204) [.ref am, .int (Int32.ofNat 1), .int (Int32.ofNat 1)]) (by decide +kernel) rfl hH k_am rfl rfl rfl rfl rfl (by rw [show eg_mL 204 = 3 from by decide +kernel]; first | done | rfl) ?_
    refine (fm_t1 hH k_am).mono (fun u hu => xw_cb hu (fun G27 v27 hH x27 hP27 => ?_))
    have hm := hm.mv ho (fun j _ _ => x27.2 aw j lt_aw (fun h => hi_ne k_aw k_am (by decide) h.1))
    have m1 := (x27.2 am 1 lt_am (fun h => absurd h.2 (by decide))).trans m1
    have w4 := (x27.2 aw 4 lt_aw (fun h => (hi_ne k_aw k_am (by decide)) h.1)).trans w4
    have lt_am := Nat.lt_of_lt_of_le lt_am x27.1
    have lt_aw := Nat.lt_of_lt_of_le lt_aw x27.1
    obtain ⟨rfl, th27⟩ := hP27
    show et_go none _ 272 30 _ [.int (Int32.ofNat 1)] _ _ _ _
    refine hs_if0 (c := .eq) (t := 37) (f := 33) (by decide +kernel) (show ¬ (Int32.ofNat 1 = 0) by decide) ?_
    refine hs_k (x := Int32.ofNat 0) (p := 34) (by decide +kernel) ?_
    refine hs_goto (p := 43) (by decide +kernel) ?_
    refine hs_iret (by decide +kernel) ?_
    exact ⟨rfl, th27⟩
theorem fn_covE (hH : et_H et_TT K G) (k_am : K am = some 13) (k_aw : K aw = some 46) (m1 : et_pl (eg_at G am) 1 = some (.ref aw)) (w4 : et_pl (eg_at G aw) 4 = some (.int (Int32.ofNat ec))) (hec : ec ≤ 3) (hm : zyM G aw ec V) (ho : ∀ n, n < 3 → evo (V n)) (hx : ¬ xr x ec) (hd : 3 ≤ d2) : et_go none d2 272 0 (eg_en (eg_mL 272) [.ref am, .int x, .int y]) [] G 0 0 (fun u => u.1 = .inl (some (.int (Int32.ofNat 0))) ∧ et_pl (eg_at u.2.1 am) 0 = some (.int (Int32.ofNat 1))) := by
  obtain ⟨d, rfl⟩ : ∃ d, d2 = d + 3 := ⟨d2 - 3, by omega⟩
  rw [show eg_mL 272 = 3 from by decide +kernel]
  show et_go none (d + 3) 272 0 [some (.ref am), some (.int x), some (.int y)] [] G 0 0 _
  have lt_am := (hH.2.2 _ _ k_am).1
  have lt_aw := (hH.2.2 _ _ k_aw).1
  refine hs_aload (i := 0) (p := 1) (by decide +kernel) rfl ?_
  refine hs_k (x := Int32.ofNat 0) (p := 2) (by decide +kernel) ?_
  refine hf_put (T := et_TT) (t := 13) (ci := 11) (f := 0) (p := 5) (ty := .int) (by decide +kernel) rfl rfl rfl rfl rfl hH k_am hi_any (fun G2 hH x2 e2 => ?_)
  have hm := hm.mv ho (fun j _ _ => x2.2 aw j lt_aw (fun h => hi_ne k_aw k_am (by decide) h.1))
  have m1 := (x2.2 am 1 lt_am (fun h => absurd h.2 (by decide))).trans m1
  have w4 := (x2.2 aw 4 lt_aw (fun h => (hi_ne k_aw k_am (by decide)) h.1)).trans w4
  have lt_am := Nat.lt_of_lt_of_le lt_am x2.1
  have lt_aw := Nat.lt_of_lt_of_le lt_aw x2.1
  refine hs_aload (i := 0) (p := 6) (by decide +kernel) rfl ?_
  refine hs_aload (i := 0) (p := 7) (by decide +kernel) rfl ?_
  refine hs_iload (i := 1) (p := 8) (by decide +kernel) rfl ?_
  refine ht_callv (T := et_TT) (t := 13) (mi := 208) (na := 1) (ci := 11) (lk := 3) (lm := 2) (L0 := eg_en (eg_mL 208) [.ref am, .int x]) (by decide +kernel) rfl hH k_am rfl rfl rfl rfl rfl (by rw [show eg_mL 208 = 2 from by decide +kernel]; first | done | rfl) ?_
  refine (fm_nEn hH k_am k_aw m1 w4 hec hx (by omega)).mono (fun u hu => xp_cb hu ?_)
  show et_go none _ 272 11 _ [.int (Int32.ofNat 1), .ref am] _ _ _ _
  refine hs_if1 (c := .ne) (t := 21) (f := 14) (by decide +kernel) (show ¬ Int32.ofNat 1 = 0 by decide) ?_
  refine hs_k (x := Int32.ofNat 1) (p := 22) (by decide +kernel) ?_
  refine hs_goto (p := 26) (by decide +kernel) ?_
  refine hs_k (x := Int32.ofNat 1) (p := 27) (by decide +kernel) ?_
  refine ht_callv (T := et_TT) (t := 13) (mi := 204) (na := 2) (ci := 11) (lk := 3) (lm := 3) (L0 := eg_en (eg_mL 204) [.ref am, .int (Int32.ofNat 1), .int (Int32.ofNat 1)]) (by decide +kernel) rfl hH k_am rfl rfl rfl rfl rfl (by rw [show eg_mL 204 = 3 from by decide +kernel]; first | done | rfl) ?_
  refine (fm_t1 hH k_am).mono (fun u hu => xw_cb hu (fun G27 v27 hH x27 hP27 => ?_))
  have hm := hm.mv ho (fun j _ _ => x27.2 aw j lt_aw (fun h => hi_ne k_aw k_am (by decide) h.1))
  have m1 := (x27.2 am 1 lt_am (fun h => absurd h.2 (by decide))).trans m1
  have w4 := (x27.2 aw 4 lt_aw (fun h => (hi_ne k_aw k_am (by decide)) h.1)).trans w4
  have lt_am := Nat.lt_of_lt_of_le lt_am x27.1
  have lt_aw := Nat.lt_of_lt_of_le lt_aw x27.1
  obtain ⟨rfl, th27⟩ := hP27
  show et_go none _ 272 30 _ [.int (Int32.ofNat 1)] _ _ _ _
  refine hs_if0 (c := .eq) (t := 37) (f := 33) (by decide +kernel) (show ¬ (Int32.ofNat 1 = 0) by decide) ?_
  refine hs_k (x := Int32.ofNat 0) (p := 34) (by decide +kernel) ?_
  refine hs_goto (p := 43) (by decide +kernel) ?_
  refine hs_iret (by decide +kernel) ?_
  exact ⟨rfl, th27⟩
theorem gz_cov (hH : et_H et_TT K G) (k_am : K am = some 13) (k_aw : K aw = some 46) (m1 : et_pl (eg_at G am) 1 = some (.ref aw)) (w4 : et_pl (eg_at G aw) 4 = some (.int (Int32.ofNat ec))) (hec : ec ≤ 3) (hm : zyM G aw ec V) (ho : ∀ n, n < 3 → evo (V n)) (w3 : et_pl (eg_at G aw) 3 = some (.int (Int32.ofNat nc))) (hnc : nc ≤ 20) (hcr : crP G aw nc X Y) (hd : 8 ≤ d2) : et_go none d2 272 0 (eg_en (eg_mL 272) [.ref am, .int x, .int y]) [] G 0 0 (fun u => (¬ (xr x ec ∧ (0 ≤ y.toInt ∧ y.toInt < 16)) ∧ u.1 = .inl (some (.int (Int32.ofNat 0))) ∧ et_pl (eg_at u.2.1 am) 0 = some (.int (Int32.ofNat 1))) ∨ ∃ n k, (x = Int32.ofNat n ∧ y = Int32.ofNat k) ∧ (n < ec ∧ k < 16) ∧ u.1 = .inl (some (.int (Int32.ofNat (coE (V n) X k nc)))) ∧ et_pl (eg_at u.2.1 am) 0 = some (.int (Int32.ofNat 0))) := by
  by_cases hx : xr x ec
  · obtain ⟨n, rfl, hn⟩ := xr_nat hx (by omega)
    by_cases hs3 : (0 ≤ y.toInt ∧ y.toInt < 16)
    · obtain ⟨k, rfl, q2, q3⟩ := hs_toN (x := y) (by omega)
      exact (fn_cov hH k_am k_aw m1 w4 hec hm ho w3 hnc hcr hn (by omega) hd).mono (fun u hu => .inr ⟨n, k, ⟨rfl, rfl⟩, ⟨hn, by omega⟩, hu.1, hu.2⟩)
    · exact (fn_covR hH k_am k_aw m1 w4 hec hm ho hn hs3 (by omega)).mono (fun u hu => .inl ⟨fun h => hs3 h.2, hu.1, hu.2⟩)
  · exact (fn_covE hH k_am k_aw m1 w4 hec hm ho hx (by omega)).mono (fun u hu => .inl ⟨fun h => hx h.1, hu.1, hu.2⟩)
theorem fn_gbL {x5 : Option Value} (hH : et_H et_TT K G) (k_am : K am = some 13) (k_aw : K aw = some 46) (m1 : et_pl (eg_at G am) 1 = some (.ref aw)) (w4 : et_pl (eg_at G aw) 4 = some (.int (Int32.ofNat ec))) (hec : ec ≤ 3) (hm : zyM G aw ec V) (ho : ∀ n, n < 3 → evo (V n)) (w3 : et_pl (eg_at G aw) 3 = some (.int (Int32.ofNat nc))) (hnc : nc ≤ 20) (hcr : crP G aw nc X Y) (m0 : et_pl (eg_at G am) 0 = some (.int (Int32.ofNat 0))) (hn : n < ec) (hk : k ≤ 16) : et_go none (d + 8) 275 27 [some (.ref am), some (.int (Int32.ofNat n)), some (.int (Int32.ofNat (gbM (V n) X nc k))), some (.int (gbB (V n) X nc k)), some (.int (Int32.ofNat k)), x5] [] G 0 0 (fun u => u.1 = .inl (some (.int (gbB (V n) X nc 16))) ∧ et_pl (eg_at u.2.1 am) 0 = some (.int (Int32.ofNat 0))) := by
  induction hq9 : 16 - k using Nat.strongRecOn generalizing k x5 with
  | _ q9 ih =>
    have hle := coE_le (V n) X k nc
    have hlm := gbM_le (V n) X nc k
    have lt_am := (hH.2.2 _ _ k_am).1
    have lt_aw := (hH.2.2 _ _ k_aw).1
    refine hs_iload (i := 4) (p := 29) (by decide +kernel) rfl ?_
    refine hs_k (x := Int32.ofNat 16) (p := 31) (by decide +kernel) ?_
    refine hs_br2n (c := .ge) (t := 64) (f := 34) (by decide +kernel) (by omega) (by omega) (fun (c31 : 16 ≤ k) => ?_) (fun (c31 : ¬ (16 ≤ k)) => ?_)
    · refine hs_iload (i := 3) (p := 65) (by decide +kernel) rfl ?_
      refine hs_iret (by decide +kernel) ?_
      obtain rfl : k = 16 := by omega
      exact ⟨rfl, m0⟩
    · refine hs_aload (i := 0) (p := 35) (by decide +kernel) rfl ?_
      refine hs_iload (i := 1) (p := 36) (by decide +kernel) rfl ?_
      refine hs_iload (i := 4) (p := 38) (by decide +kernel) rfl ?_
      refine ht_callv (T := et_TT) (t := 13) (mi := 274) (na := 2) (ci := 11) (lk := 6) (lm := 5) (L0 := eg_en (eg_mL 274) [.ref am, .int (Int32.ofNat n), .int (Int32.ofNat k)]) (by decide +kernel) rfl hH k_am rfl rfl rfl rfl rfl (by rw [show eg_mL 274 = 5 from by decide +kernel]; first | done | rfl) ?_
      refine (fn_co hH k_am k_aw m1 (by omega) (ho n (by omega)) ((hm n (by omega)).1 hn) w3 hnc hcr (by omega)).mono (fun u hu => xp_cb hu ?_)
      show et_go none _ 275 41 _ [.int (Int32.ofNat (coE (V n) X k nc))] _ _ _ _
      refine hs_istore (i := 5) (p := 43) (by decide +kernel) (Nat.le_of_ble_eq_true rfl) ?_
      refine hs_iload (i := 5) (p := 45) (by decide +kernel) rfl ?_
      refine hs_iload (i := 2) (p := 46) (by decide +kernel) rfl ?_
      refine hs_br2n (c := .gt) (t := 52) (f := 49) (by decide +kernel) (by omega) (by omega) (fun (c46 : (gbM (V n) X nc k) < (coE (V n) X k nc)) => ?_) (fun (c46 : ¬ ((gbM (V n) X nc k) < (coE (V n) X k nc))) => ?_)
      · refine hs_iload (i := 5) (p := 54) (by decide +kernel) rfl ?_
        refine hs_istore (i := 2) (p := 55) (by decide +kernel) (Nat.le_of_ble_eq_true rfl) ?_
        refine hs_iload (i := 4) (p := 57) (by decide +kernel) rfl ?_
        refine hs_istore (i := 3) (p := 58) (by decide +kernel) (Nat.le_of_ble_eq_true rfl) ?_
        refine hs_iinc1 (i := 4) (p := 61) (by decide +kernel) rfl (Nat.le_of_ble_eq_true rfl) ?_
        refine hs_goto (p := 27) (by decide +kernel) ?_
        have e9 := gb_y (v := V n) (X := X) (nc := nc) (k := k) (by omega)
        have h9 := fun x5 => @ih (16 - (k + 1)) (by omega) (k + 1) x5 (by omega) rfl
        rw [e9.1, e9.2] at h9
        exact h9 _
      · refine hs_goto (p := 58) (by decide +kernel) ?_
        refine hs_iinc1 (i := 4) (p := 61) (by decide +kernel) rfl (Nat.le_of_ble_eq_true rfl) ?_
        refine hs_goto (p := 27) (by decide +kernel) ?_
        have e9 := gb_n (v := V n) (X := X) (nc := nc) (k := k) (by omega)
        have h9 := fun x5 => @ih (16 - (k + 1)) (by omega) (k + 1) x5 (by omega) rfl
        rw [e9.1, e9.2] at h9
        exact h9 _
theorem fn_gb (hH : et_H et_TT K G) (k_am : K am = some 13) (k_aw : K aw = some 46) (m1 : et_pl (eg_at G am) 1 = some (.ref aw)) (w4 : et_pl (eg_at G aw) 4 = some (.int (Int32.ofNat ec))) (hec : ec ≤ 3) (hm : zyM G aw ec V) (ho : ∀ n, n < 3 → evo (V n)) (w3 : et_pl (eg_at G aw) 3 = some (.int (Int32.ofNat nc))) (hnc : nc ≤ 20) (hcr : crP G aw nc X Y) (hn : n < ec) (hd : 8 ≤ d2) : et_go none d2 275 0 (eg_en (eg_mL 275) [.ref am, .int (Int32.ofNat n)]) [] G 0 0 (fun u => u.1 = .inl (some (.int (gbB (V n) X nc 16))) ∧ et_pl (eg_at u.2.1 am) 0 = some (.int (Int32.ofNat 0))) := by
  obtain ⟨d, rfl⟩ : ∃ d, d2 = d + 8 := ⟨d2 - 8, by omega⟩
  rw [show eg_mL 275 = 6 from by decide +kernel]
  show et_go none (d + 8) 275 0 [some (.ref am), some (.int (Int32.ofNat n)), none, none, none, none] [] G 0 0 _
  have lt_am := (hH.2.2 _ _ k_am).1
  have lt_aw := (hH.2.2 _ _ k_aw).1
  refine hs_aload (i := 0) (p := 1) (by decide +kernel) rfl ?_
  refine hs_k (x := Int32.ofNat 0) (p := 2) (by decide +kernel) ?_
  refine hf_put (T := et_TT) (t := 13) (ci := 11) (f := 0) (p := 5) (ty := .int) (by decide +kernel) rfl rfl rfl rfl rfl hH k_am hi_any (fun G2 hH x2 e2 => ?_)
  have hm := hm.mv ho (fun j _ _ => x2.2 aw j lt_aw (fun h => hi_ne k_aw k_am (by decide) h.1))
  have hcr : crP G2 aw nc X Y := fun k hk => ⟨(x2.2 aw _ lt_aw (fun h => hi_ne k_aw k_am (by decide) h.1)).trans (hcr k hk).1, (x2.2 aw _ lt_aw (fun h => hi_ne k_aw k_am (by decide) h.1)).trans (hcr k hk).2.1, (hcr k hk).2.2⟩
  have w3 := (x2.2 aw 3 lt_aw (fun h => hi_ne k_aw k_am (by decide) h.1)).trans w3
  have m1 := (x2.2 am 1 lt_am (fun h => absurd h.2 (by decide))).trans m1
  have w4 := (x2.2 aw 4 lt_aw (fun h => (hi_ne k_aw k_am (by decide)) h.1)).trans w4
  have lt_am := Nat.lt_of_lt_of_le lt_am x2.1
  have lt_aw := Nat.lt_of_lt_of_le lt_aw x2.1
  refine hs_aload (i := 0) (p := 6) (by decide +kernel) rfl ?_
  refine hs_aload (i := 0) (p := 7) (by decide +kernel) rfl ?_
  refine hs_iload (i := 1) (p := 8) (by decide +kernel) rfl ?_
  refine ht_callv (T := et_TT) (t := 13) (mi := 208) (na := 1) (ci := 11) (lk := 6) (lm := 2) (L0 := eg_en (eg_mL 208) [.ref am, .int (Int32.ofNat n)]) (by decide +kernel) rfl hH k_am rfl rfl rfl rfl rfl (by rw [show eg_mL 208 = 2 from by decide +kernel]; first | done | rfl) ?_
  refine (fm_nEy hH k_am k_aw m1 w4 hec hn (by omega)).mono (fun u hu => xp_cb hu ?_)
  show et_go none _ 275 11 _ [.int (Int32.ofNat 0), .ref am] _ _ _ _
  refine hs_k (x := Int32.ofNat 1) (p := 12) (by decide +kernel) ?_
  refine ht_callv (T := et_TT) (t := 13) (mi := 204) (na := 2) (ci := 11) (lk := 6) (lm := 3) (L0 := eg_en (eg_mL 204) [.ref am, .int (Int32.ofNat 0), .int (Int32.ofNat 1)]) (by decide +kernel) rfl hH k_am rfl rfl rfl rfl rfl (by rw [show eg_mL 204 = 3 from by decide +kernel]; first | done | rfl) ?_
  refine (fm_t0 hH k_am).mono (fun u hu => xp_cb hu ?_)
  show et_go none _ 275 15 _ [.int (Int32.ofNat 0)] _ _ _ _
  refine hs_if1 (c := .eq) (t := 20) (f := 18) (by decide +kernel) (show Int32.ofNat 0 = 0 by decide) ?_
  refine hs_k (x := Int32.ofNat 0) (p := 21) (by decide +kernel) ?_
  refine hs_istore (i := 2) (p := 22) (by decide +kernel) (Nat.le_of_ble_eq_true rfl) ?_
  refine hs_k (x := (-1)) (p := 23) (by decide +kernel) ?_
  refine hs_istore (i := 3) (p := 24) (by decide +kernel) (Nat.le_of_ble_eq_true rfl) ?_
  refine hs_k (x := Int32.ofNat 0) (p := 25) (by decide +kernel) ?_
  refine hs_istore (i := 4) (p := 27) (by decide +kernel) (Nat.le_of_ble_eq_true rfl) ?_
  exact fn_gbL (k := 0) hH k_am k_aw m1 w4 hec hm ho w3 hnc hcr e2 hn (Nat.zero_le _)
theorem fn_gbE (hH : et_H et_TT K G) (k_am : K am = some 13) (k_aw : K aw = some 46) (m1 : et_pl (eg_at G am) 1 = some (.ref aw)) (w4 : et_pl (eg_at G aw) 4 = some (.int (Int32.ofNat ec))) (hec : ec ≤ 3) (hm : zyM G aw ec V) (ho : ∀ n, n < 3 → evo (V n)) (hx : ¬ xr x ec) (hd : 2 ≤ d2) : et_go none d2 275 0 (eg_en (eg_mL 275) [.ref am, .int x]) [] G 0 0 (fun u => u.1 = .inl (some (.int (Int32.ofNat 0))) ∧ et_pl (eg_at u.2.1 am) 0 = some (.int (Int32.ofNat 1))) := by
  obtain ⟨d, rfl⟩ : ∃ d, d2 = d + 2 := ⟨d2 - 2, by omega⟩
  rw [show eg_mL 275 = 6 from by decide +kernel]
  show et_go none (d + 2) 275 0 [some (.ref am), some (.int x), none, none, none, none] [] G 0 0 _
  have lt_am := (hH.2.2 _ _ k_am).1
  have lt_aw := (hH.2.2 _ _ k_aw).1
  refine hs_aload (i := 0) (p := 1) (by decide +kernel) rfl ?_
  refine hs_k (x := Int32.ofNat 0) (p := 2) (by decide +kernel) ?_
  refine hf_put (T := et_TT) (t := 13) (ci := 11) (f := 0) (p := 5) (ty := .int) (by decide +kernel) rfl rfl rfl rfl rfl hH k_am hi_any (fun G2 hH x2 e2 => ?_)
  have hm := hm.mv ho (fun j _ _ => x2.2 aw j lt_aw (fun h => hi_ne k_aw k_am (by decide) h.1))
  have m1 := (x2.2 am 1 lt_am (fun h => absurd h.2 (by decide))).trans m1
  have w4 := (x2.2 aw 4 lt_aw (fun h => (hi_ne k_aw k_am (by decide)) h.1)).trans w4
  have lt_am := Nat.lt_of_lt_of_le lt_am x2.1
  have lt_aw := Nat.lt_of_lt_of_le lt_aw x2.1
  refine hs_aload (i := 0) (p := 6) (by decide +kernel) rfl ?_
  refine hs_aload (i := 0) (p := 7) (by decide +kernel) rfl ?_
  refine hs_iload (i := 1) (p := 8) (by decide +kernel) rfl ?_
  refine ht_callv (T := et_TT) (t := 13) (mi := 208) (na := 1) (ci := 11) (lk := 6) (lm := 2) (L0 := eg_en (eg_mL 208) [.ref am, .int x]) (by decide +kernel) rfl hH k_am rfl rfl rfl rfl rfl (by rw [show eg_mL 208 = 2 from by decide +kernel]; first | done | rfl) ?_
  refine (fm_nEn hH k_am k_aw m1 w4 hec hx (by omega)).mono (fun u hu => xp_cb hu ?_)
  show et_go none _ 275 11 _ [.int (Int32.ofNat 1), .ref am] _ _ _ _
  refine hs_k (x := Int32.ofNat 1) (p := 12) (by decide +kernel) ?_
  refine ht_callv (T := et_TT) (t := 13) (mi := 204) (na := 2) (ci := 11) (lk := 6) (lm := 3) (L0 := eg_en (eg_mL 204) [.ref am, .int (Int32.ofNat 1), .int (Int32.ofNat 1)]) (by decide +kernel) rfl hH k_am rfl rfl rfl rfl rfl (by rw [show eg_mL 204 = 3 from by decide +kernel]; first | done | rfl) ?_
  refine (fm_t1 hH k_am).mono (fun u hu => xw_cb hu (fun G12 v12 hH x12 hP12 => ?_))
  have hm := hm.mv ho (fun j _ _ => x12.2 aw j lt_aw (fun h => hi_ne k_aw k_am (by decide) h.1))
  have m1 := (x12.2 am 1 lt_am (fun h => absurd h.2 (by decide))).trans m1
  have w4 := (x12.2 aw 4 lt_aw (fun h => (hi_ne k_aw k_am (by decide)) h.1)).trans w4
  have lt_am := Nat.lt_of_lt_of_le lt_am x12.1
  have lt_aw := Nat.lt_of_lt_of_le lt_aw x12.1
  obtain ⟨rfl, th12⟩ := hP12
  show et_go none _ 275 15 _ [.int (Int32.ofNat 1)] _ _ _ _
  refine hs_if0 (c := .eq) (t := 20) (f := 18) (by decide +kernel) (show ¬ (Int32.ofNat 1 = 0) by decide) ?_
  refine hs_k (x := Int32.ofNat 0) (p := 19) (by decide +kernel) ?_
  refine hs_iret (by decide +kernel) ?_
  exact ⟨rfl, th12⟩
theorem gz_gb (hH : et_H et_TT K G) (k_am : K am = some 13) (k_aw : K aw = some 46) (m1 : et_pl (eg_at G am) 1 = some (.ref aw)) (w4 : et_pl (eg_at G aw) 4 = some (.int (Int32.ofNat ec))) (hec : ec ≤ 3) (hm : zyM G aw ec V) (ho : ∀ n, n < 3 → evo (V n)) (w3 : et_pl (eg_at G aw) 3 = some (.int (Int32.ofNat nc))) (hnc : nc ≤ 20) (hcr : crP G aw nc X Y) (hd : 8 ≤ d2) : et_go none d2 275 0 (eg_en (eg_mL 275) [.ref am, .int x]) [] G 0 0 (fun u => (¬ xr x ec ∧ u.1 = .inl (some (.int (Int32.ofNat 0))) ∧ et_pl (eg_at u.2.1 am) 0 = some (.int (Int32.ofNat 1))) ∨ ∃ n, (x = Int32.ofNat n ∧ n < ec) ∧ u.1 = .inl (some (.int (gbB (V n) X nc 16))) ∧ et_pl (eg_at u.2.1 am) 0 = some (.int (Int32.ofNat 0))) := by
  by_cases hx : xr x ec
  · obtain ⟨n, rfl, hn⟩ := xr_nat hx (by omega)
    exact (fn_gb hH k_am k_aw m1 w4 hec hm ho w3 hnc hcr hn hd).mono (fun u hu => .inr ⟨n, ⟨rfl, hn⟩, hu.1, hu.2⟩)
  · exact (fn_gbE hH k_am k_aw m1 w4 hec hm ho hx (by omega)).mono (fun u hu => .inl ⟨hx, hu.1, hu.2⟩)
end YFA
