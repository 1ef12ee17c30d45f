/-! PHASE D: bear -/
/-- what it SEES without WIRES -/
def suL (v : evT) (lo x : Int32) : Nat → Int32
  | 0 => Int32.ofNat 0
  | m + 1 => if stB lo m = true then suL v lo x m else suL v lo x m + (v.2.2.2.1 m) * (vaI (v.2.1 m) (v.2.2.1 m) x)
/-- whether it is wrong on one of the first CARDS then -/
def brB (v : evT) (X : Nat → Int32) (Y : Nat → Nat) (lo : Int32) : Nat → Bool
  | 0 => false
  | c + 1 => brB v X Y lo c || decide (¬ (if v.2.2.2.2.1 < suL v lo (X c) v.1 then 1 else 0) = Y c)
theorem brB_y {v : evT} {X : Nat → Int32} {Y : Nat → Nat} {lo : Int32} {c : Nat} (h : ¬ (if v.2.2.2.2.1 < suL v lo (X c) v.1 then 1 else 0) = Y c) : brB v X Y lo (c + 1) = true := by
  show (brB v X Y lo c || decide _) = true
  rw [decide_eq_true h, Bool.or_true]
theorem brB_n {v : evT} {X : Nat → Int32} {Y : Nat → Nat} {lo : Int32} {c : Nat} (h : (if v.2.2.2.2.1 < suL v lo (X c) v.1 then 1 else 0) = Y c) : brB v X Y lo (c + 1) = brB v X Y lo c := by
  show (brB v X Y lo c || decide _) = _
  rw [decide_eq_false (fun h2 => h2 h), Bool.or_false]
theorem brB_m {v : evT} {X : Nat → Int32} {Y : Nat → Nat} {lo : Int32} {c : Nat} (h : brB v X Y lo c = true) : ∀ d, brB v X Y lo (c + d) = true
  | 0 => h
  | d + 1 => by
    show (brB v X Y lo (c + d) || _) = true
    rw [brB_m h d]
    rfl
def mnI (a b : Int32) : Int32 := if b < a then b else a
theorem mnI_i {a b : Int32} : mnI (mnI a b) b = mnI a b := by
  by_cases h : b < a
  · rw [show mnI a b = b from if_pos h]
    exact if_neg Int32.lt_irrefl
  · rw [show mnI a b = a from if_neg h]
    exact if_neg h
/-- the fewest WIRES that may not be lost, of the first sets of WIRES -/
def beI (v : evT) (X : Nat → Int32) (Y : Nat → Nat) (nc : Nat) : Nat → Int32
  | 0 => Int32.ofNat (v.1 + 1)
  | k + 1 => if brB v X Y (Int32.ofNat k) nc = true then mnI (beI v X Y nc k) (rp_bc (Int32.ofNat k)) else beI v X Y nc k
def beV (v : evT) (X : Nat → Int32) (Y : Nat → Nat) (nc : Nat) : Int32 := beI v X Y nc (2 ^ v.1) - Int32.ofNat 1
theorem be_a {v : evT} {X : Nat → Int32} {Y : Nat → Nat} {nc k : Nat} (h : beI v X Y nc k ≤ rp_bc (Int32.ofNat k)) : beI v X Y nc (k + 1) = beI v X Y nc k := by
  show (if _ then mnI _ _ else _) = _
  split
  · exact if_neg (Int32.not_lt.mpr h)
  · rfl
theorem be_b {v : evT} {X : Nat → Int32} {Y : Nat → Nat} {nc k : Nat} (h : ¬ beI v X Y nc k ≤ rp_bc (Int32.ofNat k)) (q : brB v X Y (Int32.ofNat k) nc = true) : beI v X Y nc (k + 1) = rp_bc (Int32.ofNat k) := by
  show (if brB v X Y (Int32.ofNat k) nc = true then mnI _ _ else _) = _
  rw [if_pos q]
  exact if_pos (Int32.not_le.mp h)
theorem be_c {v : evT} {X : Nat → Int32} {Y : Nat → Nat} {nc k : Nat} (q : ¬ brB v X Y (Int32.ofNat k) nc = true) : beI v X Y nc (k + 1) = beI v X Y nc k := if_neg q
theorem be_pow : ∀ w ∈ List.range 7, (Int32.ofNat 1 <<< (Int32.ofNat w &&& 31)) = Int32.ofNat (2 ^ w) ∧ 2 ^ w ≤ 64 := by decide +kernel
section YGA
variable {K : et_K} {G : eg_G} {d d2 th s0 s1 ya yb ec nc la ly out e ca ki kn am aw n m k c q a b : Nat} {O : Nat → Nat} {A : Nat → Nat → Nat} {v : evT} {V : Nat → evT} {X : Nat → Int32} {Y : Nat → Nat} {x y z : Int32} {lo : Int32} {Z : eg_O → Prop}
theorem fc_swL (hH : et_H et_TT K G) (t9 : evK K e ca ki kn v.1 v.2.2.1) (hv : evc G e ca ki kn v) (hm : m ≤ v.1) : et_go none (d + 2) 49 5 [some (.ref e), some (.int lo), some (.int x), some (.int (suL v lo x m)), some (.int (Int32.ofNat m))] [] G 0 0 (xp_Z G (some (.int (Int32.ofNat (if v.2.2.2.2.1 < suL v lo x v.1 then 1 else 0))))) := by
  have t90 := t9
  have hv0 := hv
  obtain ⟨⟨k_e, k_ca, k_ki, k_kn⟩, hw6, hkd⟩ := t9
  obtain ⟨⟨p0, p1, p2, p3⟩, hN, hCK, p4, p5, p6, p7⟩ := hv
  induction hq9 : v.1 - m using Nat.strongRecOn generalizing m with
  | _ q9 ih =>
    have lt_e := (hH.2.2 _ _ k_e).1
    have lt_ca := (hH.2.2 _ _ k_ca).1
    have lt_ki := (hH.2.2 _ _ k_ki).1
    have lt_kn := (hH.2.2 _ _ k_kn).1
    refine hs_iload (i := 4) (p := 7) (by decide +kernel) rfl ?_
    refine hs_aload (i := 0) (p := 8) (by decide +kernel) rfl ?_
    refine hf_get (T := et_TT) (t := 3) (ci := 1) (f := 0) (p := 11) (by decide +kernel) rfl hH k_e p0 ?_
    refine hs_br2n (c := .ge) (t := 47) (f := 14) (by decide +kernel) (by omega) (by omega) (fun (c11 : v.1 ≤ m) => ?_) (fun (c11 : ¬ (v.1 ≤ m)) => ?_)
    · refine hs_iload (i := 3) (p := 48) (by decide +kernel) rfl ?_
      refine hs_aload (i := 0) (p := 49) (by decide +kernel) rfl ?_
      refine hf_get (T := et_TT) (t := 3) (ci := 1) (f := 4) (p := 52) (by decide +kernel) rfl hH k_e p4 ?_
      refine hs_br2 (c := .le) (t := 59) (f := 55) (by decide +kernel) (fun (c52 : (suL v lo x m) ≤ v.2.2.2.2.1) => ?_) (fun (c52 : ¬ ((suL v lo x m) ≤ v.2.2.2.2.1)) => ?_)
      · refine hs_k (x := Int32.ofNat 0) (p := 60) (by decide +kernel) ?_
        refine hs_zret (by decide +kernel) (.inl rfl) ?_
        obtain rfl : m = v.1 := by omega
        rw [if_neg (Int32.not_lt.mpr c52)]
        rfl
      · refine hs_k (x := Int32.ofNat 1) (p := 56) (by decide +kernel) ?_
        refine hs_goto (p := 60) (by decide +kernel) ?_
        refine hs_zret (by decide +kernel) (.inr rfl) ?_
        obtain rfl : m = v.1 := by omega
        rw [if_pos (Int32.not_le.mp c52)]
        rfl
    · refine hs_iload (i := 1) (p := 15) (by decide +kernel) rfl ?_
      refine hs_iload (i := 4) (p := 17) (by decide +kernel) rfl ?_
      refine hs_st (ins := .ishr) (len := 1) (p := 18) (by decide +kernel) rfl rfl ?_
      refine hs_k (x := Int32.ofNat 1) (p := 19) (by decide +kernel) ?_
      refine hs_st (ins := .iand) (len := 1) (p := 20) (by decide +kernel) rfl rfl ?_
      refine hs_br1 (c := .ne) (t := 41) (f := 23) (by decide +kernel) (fun (c20 : ¬ ((lo >>> ((Int32.ofNat m) &&& 31)) &&& (Int32.ofNat 1)) = 0) => ?_) (fun (c20 : ¬ (¬ ((lo >>> ((Int32.ofNat m) &&& 31)) &&& (Int32.ofNat 1)) = 0)) => ?_)
      · refine hs_iinc1 (i := 4) (p := 44) (by decide +kernel) rfl (Nat.le_of_ble_eq_true rfl) ?_
        refine hs_goto (p := 5) (by decide +kernel) ?_
        have e9 : suL v lo x (m + 1) = suL v lo x m := if_pos (decide_eq_true c20)
        have h9 := @ih (v.1 - (m + 1)) (by omega) (m + 1) (by omega) rfl
        show et_go none (d + 2) 49 5 [some (.ref e), some (.int lo), some (.int x), some (.int (suL v lo x m)), some (.int (Int32.ofNat (m + 1)))] [] _ _ _ _
        rw [← e9]
        exact h9
      · refine hs_iload (i := 3) (p := 24) (by decide +kernel) rfl ?_
        refine hs_aload (i := 0) (p := 25) (by decide +kernel) rfl ?_
        refine hf_get (T := et_TT) (t := 3) (ci := 1) (f := 3) (p := 28) (by decide +kernel) rfl hH k_e p3 ?_
        refine hs_iload (i := 4) (p := 30) (by decide +kernel) rfl ?_
        refine hf_ald (ins := .iaload) (T := et_TT) (t := 15) (kd := 0) (N := 6) (p := 31) (by decide +kernel) (fun _ _ _ _ _ _ _ _ _ _ => rfl) rfl rfl rfl hH k_kn (by decide) (hN m (by omega)) ?_
        refine hs_aload (i := 0) (p := 32) (by decide +kernel) rfl ?_
        refine hs_iload (i := 4) (p := 34) (by decide +kernel) rfl ?_
        refine hs_iload (i := 2) (p := 35) (by decide +kernel) rfl ?_
        refine ht_callv (T := et_TT) (t := 3) (mi := 34) (na := 2) (ci := 1) (lk := 5) (lm := 4) (L0 := eg_en (eg_mL 34) [.ref e, .int (Int32.ofNat m), .int x]) (by decide +kernel) rfl hH k_e rfl rfl rfl rfl rfl (by rw [show eg_mL 34 = 4 from by decide +kernel]; first | done | rfl) ?_
        refine (fd_val (x := x) hH k_e k_ca k_ki p0 p1 p2 hw6 (by omega) (hCK m (by omega)).1 (hCK m (by omega)).2 (hkd m (by omega)) (by omega)).mono (fun u hu => xp_cb hu ?_)
        show et_go none _ 49 38 _ [.int (vaI (v.2.1 m) (v.2.2.1 m) x), .int (v.2.2.2.1 m), .int (suL v lo x m)] _ _ _ _
        refine hs_imul (p := 39) (by decide +kernel) ?_
        refine hs_iadd (p := 40) (by decide +kernel) ?_
        refine hs_istore (i := 3) (p := 41) (by decide +kernel) (Nat.le_of_ble_eq_true rfl) ?_
        refine hs_iinc1 (i := 4) (p := 44) (by decide +kernel) rfl (Nat.le_of_ble_eq_true rfl) ?_
        refine hs_goto (p := 5) (by decide +kernel) ?_
        have e9 : suL v lo x (m + 1) = suL v lo x m + (v.2.2.2.1 m) * (vaI (v.2.1 m) (v.2.2.1 m) x) := if_neg (fun h9 => c20 (of_decide_eq_true h9))
        have h9 := @ih (v.1 - (m + 1)) (by omega) (m + 1) (by omega) rfl
        show et_go none (d + 2) 49 5 [some (.ref e), some (.int lo), some (.int x), some (.int (suL v lo x m + (v.2.2.2.1 m) * (vaI (v.2.1 m) (v.2.2.1 m) x))), some (.int (Int32.ofNat (m + 1)))] [] _ _ _ _
        rw [← e9]
        exact h9
theorem fc_sw (hH : et_H et_TT K G) (t9 : evK K e ca ki kn v.1 v.2.2.1) (hv : evc G e ca ki kn v) (hd : 2 ≤ d2) : et_go none d2 49 0 (eg_en (eg_mL 49) [.ref e, .int lo, .int x]) [] G 0 0 (xp_Z G (some (.int (Int32.ofNat (if v.2.2.2.2.1 < suL v lo x v.1 then 1 else 0))))) := by
  obtain ⟨d, rfl⟩ : ∃ d, d2 = d + 2 := ⟨d2 - 2, by omega⟩
  rw [show eg_mL 49 = 5 from by decide +kernel]
  show et_go none (d + 2) 49 0 [some (.ref e), some (.int lo), some (.int x), none, none] [] G 0 0 _
  refine hs_k (x := Int32.ofNat 0) (p := 1) (by decide +kernel) ?_
  refine hs_istore (i := 3) (p := 2) (by decide +kernel) (Nat.le_of_ble_eq_true rfl) ?_
  refine hs_k (x := Int32.ofNat 0) (p := 3) (by decide +kernel) ?_
  refine hs_istore (i := 4) (p := 5) (by decide +kernel) (Nat.le_of_ble_eq_true rfl) ?_
  exact fc_swL (m := 0) hH t9 hv (Nat.zero_le _)
theorem fc_rwL (hH : et_H et_TT K G) (k_s0 : K s0 = some 10) (k_e : K e = some 3) (t9 : evK K e ca ki kn v.1 v.2.2.1) (hv : evc G e ca ki kn v) (g2 : et_pl (eg_at G s0) 2 = some (.int (Int32.ofNat nc))) (hnc : nc ≤ 20) (hcc : ccP G s0 la ly nc X Y) (k_la : K la = some 17) (k_ly : K ly = some 27) (hc : c ≤ nc) (hb : brB v X Y lo c = false) : et_go none (d + 3) 110 2 [some (.ref s0), some (.ref e), some (.int lo), some (.int (Int32.ofNat c))] [] G 0 0 (xp_Z G (some (.int (Int32.ofNat (if brB v X Y lo nc = true then 0 else 1))))) := by
  induction hq9 : nc - c using Nat.strongRecOn generalizing c with
  | _ q9 ih =>
    have hY1 : c < nc → Y c ≤ 1 := fun h9 => (hcc.2 c h9).2.2
    have lt_s0 := (hH.2.2 _ _ k_s0).1
    have lt_e := (hH.2.2 _ _ k_e).1
    have lt_la := (hH.2.2 _ _ k_la).1
    have lt_ly := (hH.2.2 _ _ k_ly).1
    refine hs_iload (i := 3) (p := 3) (by decide +kernel) rfl ?_
    refine hs_aload (i := 0) (p := 4) (by decide +kernel) rfl ?_
    refine hf_get (T := et_TT) (t := 10) (ci := 8) (f := 2) (p := 7) (by decide +kernel) rfl hH k_s0 g2 ?_
    refine hs_br2n (c := .ge) (t := 38) (f := 10) (by decide +kernel) (by omega) (by omega) (fun (c7 : nc ≤ c) => ?_) (fun (c7 : ¬ (nc ≤ c)) => ?_)
    · refine hs_k (x := Int32.ofNat 1) (p := 39) (by decide +kernel) ?_
      refine hs_zret (by decide +kernel) (.inr rfl) ?_
      obtain rfl : c = nc := by omega
      rw [if_neg (by rw [hb]; decide)]
      rfl
    · refine hs_aload (i := 1) (p := 11) (by decide +kernel) rfl ?_
      refine hs_iload (i := 2) (p := 12) (by decide +kernel) rfl ?_
      refine hs_aload (i := 0) (p := 13) (by decide +kernel) rfl ?_
      refine hf_get (T := et_TT) (t := 10) (ci := 8) (f := 3) (p := 16) (by decide +kernel) rfl hH k_s0 hcc.1.1 ?_
      refine hs_iload (i := 3) (p := 17) (by decide +kernel) rfl ?_
      refine hf_ald (ins := .iaload) (T := et_TT) (t := 17) (kd := 0) (N := 20) (p := 18) (by decide +kernel) (fun _ _ _ _ _ _ _ _ _ _ => rfl) rfl rfl rfl hH k_la (by decide) (hcc.2 c (by omega)).1 ?_
      refine ht_callv (T := et_TT) (t := 3) (mi := 49) (na := 2) (ci := 1) (lk := 4) (lm := 5) (L0 := eg_en (eg_mL 49) [.ref e, .int lo, .int (X c)]) (by decide +kernel) rfl hH k_e rfl rfl rfl rfl rfl (by rw [show eg_mL 49 = 5 from by decide +kernel]; first | done | rfl) ?_
      refine (fc_sw (x := X c) (lo := lo) hH t9 hv (by omega)).mono (fun u hu => xp_cb hu ?_)
      by_cases qs : v.2.2.2.2.1 < suL v lo (X c) v.1
      · rw [if_pos qs]
        show et_go none _ 110 21 _ [.int (Int32.ofNat 1)] _ _ _ _
        refine hs_aload (i := 0) (p := 22) (by decide +kernel) rfl ?_
        refine hf_get (T := et_TT) (t := 10) (ci := 8) (f := 4) (p := 25) (by decide +kernel) rfl hH k_s0 hcc.1.2 ?_
        refine hs_iload (i := 3) (p := 26) (by decide +kernel) rfl ?_
        refine hf_ald (ins := .baload) (T := et_TT) (t := 27) (kd := 3) (N := 20) (p := 27) (by decide +kernel) (fun _ _ _ _ _ _ _ _ _ _ => rfl) rfl rfl rfl hH k_ly (by decide) (hcc.2 c (by omega)).2.1 ?_
        refine hs_br2n (c := .eq) (t := 32) (f := 30) (by decide +kernel) (by omega) (by omega) (fun (c27 : 1 = (Y c)) => ?_) (fun (c27 : ¬ (1 = (Y c))) => ?_)
        · refine hs_iinc1 (i := 3) (p := 35) (by decide +kernel) rfl (Nat.le_of_ble_eq_true rfl) ?_
          refine hs_goto (p := 2) (by decide +kernel) ?_
          have e9 := (brB_n (v := v) (X := X) (Y := Y) (lo := lo) (c := c) (by rw [if_pos qs]; exact c27)).trans hb
          exact @ih (nc - (c + 1)) (by omega) (c + 1) (by omega) e9 rfl
        · refine hs_k (x := Int32.ofNat 0) (p := 31) (by decide +kernel) ?_
          refine hs_zret (by decide +kernel) (.inl rfl) ?_
          have e9 := brB_m (brB_y (v := v) (X := X) (Y := Y) (lo := lo) (c := c) (by rw [if_pos qs]; exact c27)) (nc - (c + 1))
          rw [show c + 1 + (nc - (c + 1)) = nc by omega] at e9
          rw [if_pos e9]
          rfl
      · rw [if_neg qs]
        show et_go none _ 110 21 _ [.int (Int32.ofNat 0)] _ _ _ _
        refine hs_aload (i := 0) (p := 22) (by decide +kernel) rfl ?_
        refine hf_get (T := et_TT) (t := 10) (ci := 8) (f := 4) (p := 25) (by decide +kernel) rfl hH k_s0 hcc.1.2 ?_
        refine hs_iload (i := 3) (p := 26) (by decide +kernel) rfl ?_
        refine hf_ald (ins := .baload) (T := et_TT) (t := 27) (kd := 3) (N := 20) (p := 27) (by decide +kernel) (fun _ _ _ _ _ _ _ _ _ _ => rfl) rfl rfl rfl hH k_ly (by decide) (hcc.2 c (by omega)).2.1 ?_
        refine hs_br2n (c := .eq) (t := 32) (f := 30) (by decide +kernel) (by omega) (by omega) (fun (c27 : 0 = (Y c)) => ?_) (fun (c27 : ¬ (0 = (Y c))) => ?_)
        · refine hs_iinc1 (i := 3) (p := 35) (by decide +kernel) rfl (Nat.le_of_ble_eq_true rfl) ?_
          refine hs_goto (p := 2) (by decide +kernel) ?_
          have e9 := (brB_n (v := v) (X := X) (Y := Y) (lo := lo) (c := c) (by rw [if_neg qs]; exact c27)).trans hb
          exact @ih (nc - (c + 1)) (by omega) (c + 1) (by omega) e9 rfl
        · refine hs_k (x := Int32.ofNat 0) (p := 31) (by decide +kernel) ?_
          refine hs_zret (by decide +kernel) (.inl rfl) ?_
          have e9 := brB_m (brB_y (v := v) (X := X) (Y := Y) (lo := lo) (c := c) (by rw [if_neg qs]; exact c27)) (nc - (c + 1))
          rw [show c + 1 + (nc - (c + 1)) = nc by omega] at e9
          rw [if_pos e9]
          rfl
theorem fc_rw (hH : et_H et_TT K G) (k_s0 : K s0 = some 10) (k_e : K e = some 3) (t9 : evK K e ca ki kn v.1 v.2.2.1) (hv : evc G e ca ki kn v) (g2 : et_pl (eg_at G s0) 2 = some (.int (Int32.ofNat nc))) (hnc : nc ≤ 20) (hcc : ccP G s0 la ly nc X Y) (k_la : K la = some 17) (k_ly : K ly = some 27) (hd : 3 ≤ d2) : et_go none d2 110 0 (eg_en (eg_mL 110) [.ref s0, .ref e, .int lo]) [] G 0 0 (xp_Z G (some (.int (Int32.ofNat (if brB v X Y lo nc = true then 0 else 1))))) := by
  obtain ⟨d, rfl⟩ : ∃ d, d2 = d + 3 := ⟨d2 - 3, by omega⟩
  rw [show eg_mL 110 = 4 from by decide +kernel]
  show et_go none (d + 3) 110 0 [some (.ref s0), some (.ref e), some (.int lo), none] [] G 0 0 _
  have lt_s0 := (hH.2.2 _ _ k_s0).1
  have lt_e := (hH.2.2 _ _ k_e).1
  have lt_la := (hH.2.2 _ _ k_la).1
  have lt_ly := (hH.2.2 _ _ k_ly).1
  refine hs_k (x := Int32.ofNat 0) (p := 1) (by decide +kernel) ?_
  refine hs_istore (i := 3) (p := 2) (by decide +kernel) (Nat.le_of_ble_eq_true rfl) ?_
  exact fc_rwL (c := 0) hH k_s0 k_e t9 hv g2 hnc hcc k_la k_ly (Nat.zero_le _) rfl
theorem fd_beL {x5 : Option Value} (hH : et_H et_TT K G) (k_th : K th = some 12) (h0 : et_pl (eg_at G th) 0 = some (.ref s0)) (k_s0 : K s0 = some 10) (h5 : et_pl (eg_at G s0) 5 = some (.int (Int32.ofNat ec))) (hec : ec ≤ 3) (h6 : et_pl (eg_at G s0) 6 = some (.ref ya)) (k_ya : K ya = some 40) (hn : n < ec) (hE : et_pl (eg_at G ya) n = some (.ref e)) (t9 : evK K e ca ki kn v.1 v.2.2.1) (hv : evc G e ca ki kn v) (g2 : et_pl (eg_at G s0) 2 = some (.int (Int32.ofNat nc))) (hnc : nc ≤ 20) (hcc : ccP G s0 la ly nc X Y) (k_la : K la = some 17) (k_ly : K ly = some 27) (hk : k ≤ 2 ^ v.1) : et_go none (d + 4) 165 16 [some (.ref th), some (.int (Int32.ofNat n)), some (.ref e), some (.int (beI v X Y nc k)), some (.int (Int32.ofNat k)), x5] [] G 0 0 (xp_Z G (some (.int (beV v X Y nc)))) := by
  have t90 := t9
  have hv0 := hv
  obtain ⟨⟨k_e, k_ca, k_ki, k_kn⟩, hw6, hkd⟩ := t9
  obtain ⟨⟨p0, p1, p2, p3⟩, hN, hCK, p4, p5, p6, p7⟩ := hv
  have h64 := (be_pow v.1 (List.mem_range.mpr (by omega))).2
  induction hq9 : 2 ^ v.1 - k using Nat.strongRecOn generalizing k x5 with
  | _ q9 ih =>
    have lt_th := (hH.2.2 _ _ k_th).1
    have lt_s0 := (hH.2.2 _ _ k_s0).1
    have lt_ya := (hH.2.2 _ _ k_ya).1
    have lt_e := (hH.2.2 _ _ k_e).1
    have lt_ca := (hH.2.2 _ _ k_ca).1
    have lt_ki := (hH.2.2 _ _ k_ki).1
    have lt_kn := (hH.2.2 _ _ k_kn).1
    have lt_la := (hH.2.2 _ _ k_la).1
    have lt_ly := (hH.2.2 _ _ k_ly).1
    refine hs_iload (i := 4) (p := 18) (by decide +kernel) rfl ?_
    refine hs_k (x := Int32.ofNat 1) (p := 19) (by decide +kernel) ?_
    refine hs_aload (i := 2) (p := 20) (by decide +kernel) rfl ?_
    refine hf_get (T := et_TT) (t := 3) (ci := 1) (f := 0) (p := 23) (by decide +kernel) rfl hH k_e p0 ?_
    refine hs_st (ins := .ishl) (len := 1) (p := 24) (by decide +kernel) rfl rfl ?_
    show et_go none _ 165 24 _ (.int (Int32.ofNat 1 <<< (Int32.ofNat v.1 &&& 31)) :: _) _ _ _ _
    rw [(be_pow v.1 (List.mem_range.mpr (by omega))).1]
    refine hs_br2n (c := .ge) (t := 62) (f := 27) (by decide +kernel) (by omega) (by omega) (fun (c24 : (2 ^ v.1) ≤ k) => ?_) (fun (c24 : ¬ ((2 ^ v.1) ≤ k)) => ?_)
    · refine hs_iload (i := 3) (p := 63) (by decide +kernel) rfl ?_
      refine hs_k (x := Int32.ofNat 1) (p := 64) (by decide +kernel) ?_
      refine hs_isub (p := 65) (by decide +kernel) ?_
      refine hs_iret (by decide +kernel) ?_
      obtain rfl : k = 2 ^ v.1 := by omega
      rfl
    · refine hs_iload (i := 4) (p := 29) (by decide +kernel) rfl ?_
      refine hs_calls (mi := 305) (na := 1) (lk := 6) (lm := 1) (L0 := eg_en (eg_mL 305) [.int (Int32.ofNat k)]) (by decide +kernel) rfl rfl rfl rfl rfl rfl (by rw [show eg_mL 305 = 1 from by decide +kernel]; first | done | rfl) ?_
      refine (fx_bc (x := Int32.ofNat k)).mono (fun u hu => xp_cb hu ?_)
      show et_go none _ 165 32 _ [.int (rp_bc (Int32.ofNat k))] _ _ _ _
      refine hs_istore (i := 5) (p := 34) (by decide +kernel) (Nat.le_of_ble_eq_true rfl) ?_
      refine hs_iload (i := 5) (p := 36) (by decide +kernel) rfl ?_
      refine hs_iload (i := 3) (p := 37) (by decide +kernel) rfl ?_
      refine hs_br2 (c := .ge) (t := 56) (f := 40) (by decide +kernel) (fun (c37 : (beI v X Y nc k) ≤ (rp_bc (Int32.ofNat k))) => ?_) (fun (c37 : ¬ ((beI v X Y nc k) ≤ (rp_bc (Int32.ofNat k)))) => ?_)
      · refine hs_iinc1 (i := 4) (p := 59) (by decide +kernel) rfl (Nat.le_of_ble_eq_true rfl) ?_
        refine hs_goto (p := 16) (by decide +kernel) ?_
        have e9 : (beI v X Y nc (k + 1)) = (beI v X Y nc k) := be_a c37
        have h9 := fun x5 => @ih (2 ^ v.1 - (k + 1)) (by omega) (k + 1) x5 (by omega) rfl
        rw [e9] at h9
        exact h9 _
      · refine hs_aload (i := 0) (p := 41) (by decide +kernel) rfl ?_
        refine hf_get (T := et_TT) (t := 12) (ci := 10) (f := 0) (p := 44) (by decide +kernel) rfl hH k_th h0 ?_
        refine hs_aload (i := 2) (p := 45) (by decide +kernel) rfl ?_
        refine hs_iload (i := 4) (p := 47) (by decide +kernel) rfl ?_
        refine ht_callv (T := et_TT) (t := 10) (mi := 110) (na := 2) (ci := 8) (lk := 6) (lm := 4) (L0 := eg_en (eg_mL 110) [.ref s0, .ref e, .int (Int32.ofNat k)]) (by decide +kernel) rfl hH k_s0 rfl rfl rfl rfl rfl (by rw [show eg_mL 110 = 4 from by decide +kernel]; first | done | rfl) ?_
        refine (fc_rw (lo := Int32.ofNat k) hH k_s0 k_e t90 hv0 g2 hnc hcc k_la k_ly (by omega)).mono (fun u hu => xp_cb hu ?_)
        by_cases qb : brB v X Y (Int32.ofNat k) nc = true
        · rw [if_pos qb]
          show et_go none _ 165 50 _ [.int (Int32.ofNat 0)] _ _ _ _
          refine hs_if0 (c := .ne) (t := 56) (f := 53) (by decide +kernel) (show ¬ (¬ Int32.ofNat 0 = 0) by decide) ?_
          refine hs_iload (i := 5) (p := 55) (by decide +kernel) rfl ?_
          refine hs_istore (i := 3) (p := 56) (by decide +kernel) (Nat.le_of_ble_eq_true rfl) ?_
          refine hs_iinc1 (i := 4) (p := 59) (by decide +kernel) rfl (Nat.le_of_ble_eq_true rfl) ?_
          refine hs_goto (p := 16) (by decide +kernel) ?_
          have e9 : (beI v X Y nc (k + 1)) = (rp_bc (Int32.ofNat k)) := be_b c37 qb
          have h9 := fun x5 => @ih (2 ^ v.1 - (k + 1)) (by omega) (k + 1) x5 (by omega) rfl
          rw [e9] at h9
          exact h9 _
        · rw [if_neg qb]
          show et_go none _ 165 50 _ [.int (Int32.ofNat 1)] _ _ _ _
          refine hs_if1 (c := .ne) (t := 56) (f := 53) (by decide +kernel) (show ¬ Int32.ofNat 1 = 0 by decide) ?_
          refine hs_iinc1 (i := 4) (p := 59) (by decide +kernel) rfl (Nat.le_of_ble_eq_true rfl) ?_
          refine hs_goto (p := 16) (by decide +kernel) ?_
          have e9 : (beI v X Y nc (k + 1)) = (beI v X Y nc k) := be_c qb
          have h9 := fun x5 => @ih (2 ^ v.1 - (k + 1)) (by omega) (k + 1) x5 (by omega) rfl
          rw [e9] at h9
          exact h9 _
theorem fd_be (hH : et_H et_TT K G) (k_th : K th = some 12) (h0 : et_pl (eg_at G th) 0 = some (.ref s0)) (k_s0 : K s0 = some 10) (h5 : et_pl (eg_at G s0) 5 = some (.int (Int32.ofNat ec))) (hec : ec ≤ 3) (h6 : et_pl (eg_at G s0) 6 = some (.ref ya)) (k_ya : K ya = some 40) (hn : n < ec) (hE : et_pl (eg_at G ya) n = some (.ref e)) (t9 : evK K e ca ki kn v.1 v.2.2.1) (hv : evc G e ca ki kn v) (g2 : et_pl (eg_at G s0) 2 = some (.int (Int32.ofNat nc))) (hnc : nc ≤ 20) (hcc : ccP G s0 la ly nc X Y) (k_la : K la = some 17) (k_ly : K ly = some 27) (hd : 4 ≤ d2) : et_go none d2 165 0 (eg_en (eg_mL 165) [.ref th, .int (Int32.ofNat n)]) [] G 0 0 (xp_Z G (some (.int (beV v X Y nc)))) := by
  obtain ⟨d, rfl⟩ : ∃ d, d2 = d + 4 := ⟨d2 - 4, by omega⟩
  have t90 := t9
  have hv0 := hv
  obtain ⟨⟨k_e, k_ca, k_ki, k_kn⟩, hw6, hkd⟩ := t9
  obtain ⟨⟨p0, p1, p2, p3⟩, hN, hCK, p4, p5, p6, p7⟩ := hv
  rw [show eg_mL 165 = 6 from by decide +kernel]
  show et_go none (d + 4) 165 0 [some (.ref th), some (.int (Int32.ofNat n)), none, none, none, none] [] G 0 0 _
  have lt_th := (hH.2.2 _ _ k_th).1
  have lt_s0 := (hH.2.2 _ _ k_s0).1
  have lt_ya := (hH.2.2 _ _ k_ya).1
  have lt_e := (hH.2.2 _ _ k_e).1
  have lt_ca := (hH.2.2 _ _ k_ca).1
  have lt_ki := (hH.2.2 _ _ k_ki).1
  have lt_kn := (hH.2.2 _ _ k_kn).1
  have lt_la := (hH.2.2 _ _ k_la).1
  have lt_ly := (hH.2.2 _ _ k_ly).1
  refine hs_aload (i := 0) (p := 1) (by decide +kernel) rfl ?_
  refine hs_iload (i := 1) (p := 2) (by decide +kernel) rfl ?_
  refine ht_callv (T := et_TT) (t := 12) (mi := 128) (na := 1) (ci := 10) (lk := 6) (lm := 2) (L0 := eg_en (eg_mL 128) [.ref th, .int (Int32.ofNat n)]) (by decide +kernel) rfl hH k_th rfl rfl rfl rfl rfl (by rw [show eg_mL 128 = 2 from by decide +kernel]; first | done | rfl) ?_
  refine (fd_needE hH k_th h0 k_s0 h5 hec h6 k_ya hn hE).mono (fun u hu => xp_cb hu ?_)
  show et_go none _ 165 5 _ [.ref e] _ _ _ _
  refine hs_astore (i := 2) (p := 6) (by decide +kernel) (Nat.le_of_ble_eq_true rfl) ?_
  refine hs_aload (i := 2) (p := 7) (by decide +kernel) rfl ?_
  refine hf_get (T := et_TT) (t := 3) (ci := 1) (f := 0) (p := 10) (by decide +kernel) rfl hH k_e p0 ?_
  refine hs_k (x := Int32.ofNat 1) (p := 11) (by decide +kernel) ?_
  refine hs_iaddn (p := 12) (by decide +kernel) ?_
  refine hs_istore (i := 3) (p := 13) (by decide +kernel) (Nat.le_of_ble_eq_true rfl) ?_
  refine hs_k (x := Int32.ofNat 0) (p := 14) (by decide +kernel) ?_
  refine hs_istore (i := 4) (p := 16) (by decide +kernel) (Nat.le_of_ble_eq_true rfl) ?_
  exact fd_beL (k := 0) hH k_th h0 k_s0 h5 hec h6 k_ya hn hE t90 hv0 g2 hnc hcc k_la k_ly (Nat.zero_le _)
theorem fd_beE (hH : et_H et_TT K G) (k_th : K th = some 12) (h0 : et_pl (eg_at G th) 0 = some (.ref s0)) (k_s0 : K s0 = some 10) (h5 : et_pl (eg_at G s0) 5 = some (.int (Int32.ofNat ec))) (hec : ec ≤ 3) (h6 : et_pl (eg_at G s0) 6 = some (.ref ya)) (k_ya : K ya = some 40) (hx : ¬ xr x ec) (hd : 4 ≤ d2) : et_go none d2 165 0 (eg_en (eg_mL 165) [.ref th, .int x]) [] G 0 0 (ix_Z 1 G) := by
  obtain ⟨d, rfl⟩ : ∃ d, d2 = d + 4 := ⟨d2 - 4, by omega⟩
  rw [show eg_mL 165 = 6 from by decide +kernel]
  show et_go none (d + 4) 165 0 [some (.ref th), some (.int x), none, none, none, none] [] G 0 0 _
  have lt_th := (hH.2.2 _ _ k_th).1
  have lt_s0 := (hH.2.2 _ _ k_s0).1
  have lt_ya := (hH.2.2 _ _ k_ya).1
  refine hs_aload (i := 0) (p := 1) (by decide +kernel) rfl ?_
  refine hs_iload (i := 1) (p := 2) (by decide +kernel) rfl ?_
  refine ht_callv (T := et_TT) (t := 12) (mi := 128) (na := 1) (ci := 10) (lk := 6) (lm := 2) (L0 := eg_en (eg_mL 128) [.ref th, .int x]) (by decide +kernel) rfl hH k_th rfl rfl rfl rfl rfl (by rw [show eg_mL 128 = 2 from by decide +kernel]; first | done | rfl) ?_
  refine (fd_needEn hH k_th h0 k_s0 h5 hec h6 k_ya hx).mono (fun u hu => ?_)
  obtain ⟨c2, s2, rfl⟩ := hu
  refine hf_cx (by decide +kernel) ?_
  exact ⟨_, _, rfl⟩
theorem fh_be (hH : et_H et_TT K G) (k_th : K th = some 12) (h0 : et_pl (eg_at G th) 0 = some (.ref s0)) (k_s0 : K s0 = some 10) (h5 : et_pl (eg_at G s0) 5 = some (.int (Int32.ofNat ec))) (hec : ec ≤ 3) (h6 : et_pl (eg_at G s0) 6 = some (.ref ya)) (k_ya : K ya = some 40) (hn : n < ec) (hE : et_pl (eg_at G ya) n = some (.ref e)) (t9 : evK K e ca ki kn v.1 v.2.2.1) (hv : evc G e ca ki kn v) (g2 : et_pl (eg_at G s0) 2 = some (.int (Int32.ofNat nc))) (hnc : nc ≤ 20) (hcc : ccP G s0 la ly nc X Y) (k_la : K la = some 17) (k_ly : K ly = some 27) (k_out : K out = some 31) (hd : 5 ≤ d2) : et_go none d2 24 0 (eg_en (eg_mL 24) [.ref th, .int (Int32.ofNat n), .ref out]) [] G 0 0 (fun u => u.1 = .inl (some (.int (Int32.ofNat 0))) ∧ et_pl (eg_at u.2.1 out) 0 = some (.long (beV v X Y nc).toInt64)) := by
  obtain ⟨d, rfl⟩ : ∃ d, d2 = d + 5 := ⟨d2 - 5, by omega⟩
  rw [show eg_mL 24 = 4 from by decide +kernel]
  show et_go none (d + 5) 24 0 [some (.ref th), some (.int (Int32.ofNat n)), some (.ref out), none] [] G 0 0 _
  have lt_th := (hH.2.2 _ _ k_th).1
  have lt_out := (hH.2.2 _ _ k_out).1
  refine hs_aload (i := 2) (p := 1) (by decide +kernel) rfl ?_
  refine hs_k (x := Int32.ofNat 0) (p := 2) (by decide +kernel) ?_
  refine hs_aload (i := 0) (p := 3) (by decide +kernel) rfl ?_
  refine hs_iload (i := 1) (p := 4) (by decide +kernel) rfl ?_
  refine ht_callv (T := et_TT) (t := 12) (mi := 165) (na := 1) (ci := 10) (lk := 4) (lm := 6) (L0 := eg_en (eg_mL 165) [.ref th, .int (Int32.ofNat n)]) (by decide +kernel) rfl hH k_th rfl rfl rfl rfl rfl (by rw [show eg_mL 165 = 6 from by decide +kernel]; first | done | rfl) ?_
  refine (fd_be hH k_th h0 k_s0 h5 hec h6 k_ya hn hE t9 hv g2 hnc hcc k_la k_ly (by omega)).mono (fun u hu => xp_cb hu ?_)
  show et_go none _ 24 7 _ [.int (beV v X Y nc), .int (Int32.ofNat 0), .ref out] _ _ _ _
  refine hs_i2l (p := 8) (by decide +kernel) ?_
  have hHo := hH
  refine hf_lst (T := et_TT) (t := 31) (N := 1) (p := 9) (by decide +kernel) rfl rfl hH k_out (by omega) (by decide) (fun G8 hH x8 e8 => ?_)
  refine hs_goto (p := 15) (by decide +kernel) ?_
  refine hs_k (x := Int32.ofNat 0) (p := 16) (by decide +kernel) ?_
  refine hs_iret (by decide +kernel) ?_
  exact ⟨rfl, e8⟩
theorem fh_beE (hH : et_H et_TT K G) (k_th : K th = some 12) (h0 : et_pl (eg_at G th) 0 = some (.ref s0)) (k_s0 : K s0 = some 10) (h5 : et_pl (eg_at G s0) 5 = some (.int (Int32.ofNat ec))) (hec : ec ≤ 3) (h6 : et_pl (eg_at G s0) 6 = some (.ref ya)) (k_ya : K ya = some 40) (hx : ¬ xr x ec) (hd : 5 ≤ d2) : et_go none d2 24 0 (eg_en (eg_mL 24) [.ref th, .int x, .ref out]) [] G 0 0 (fun u => u.1 = .inl (some (.int (Int32.ofNat 1))) ∧ u.2.1 = G) := by
  obtain ⟨d, rfl⟩ : ∃ d, d2 = d + 5 := ⟨d2 - 5, by omega⟩
  rw [show eg_mL 24 = 4 from by decide +kernel]
  show et_go none (d + 5) 24 0 [some (.ref th), some (.int x), some (.ref out), none] [] G 0 0 _
  have lt_th := (hH.2.2 _ _ k_th).1
  refine hs_aload (i := 2) (p := 1) (by decide +kernel) rfl ?_
  refine hs_k (x := Int32.ofNat 0) (p := 2) (by decide +kernel) ?_
  refine hs_aload (i := 0) (p := 3) (by decide +kernel) rfl ?_
  refine hs_iload (i := 1) (p := 4) (by decide +kernel) rfl ?_
  refine ht_callv (T := et_TT) (t := 12) (mi := 165) (na := 1) (ci := 10) (lk := 4) (lm := 6) (L0 := eg_en (eg_mL 165) [.ref th, .int x]) (by decide +kernel) rfl hH k_th rfl rfl rfl rfl rfl (by rw [show eg_mL 165 = 6 from by decide +kernel]; first | done | rfl) ?_
  refine (fd_beE hH k_th h0 k_s0 h5 hec h6 k_ya hx (by omega)).mono (fun u hu => ?_)
  obtain ⟨c4, s4, rfl⟩ := hu
  refine hs_ch (h := 12) (i := 3) (n := 1) (hh := (eg_mh 24).getD []) (by decide +kernel) ⟨by decide +kernel, by decide +kernel⟩ (Nat.le_of_ble_eq_true rfl) ?_
  show et_go none _ 24 13 [some (.ref th), some (.int x), some (.ref out), none] [] _ _ _ _
  refine hs_k (x := Int32.ofNat 1) (p := 14) (by decide +kernel) ?_
  refine hs_iret (by decide +kernel) ?_
  exact ⟨rfl, rfl⟩
theorem fz_be (hH : et_H et_TT K G) (k_th : K th = some 12) (h0 : et_pl (eg_at G th) 0 = some (.ref s0)) (k_s0 : K s0 = some 10) (k_s1 : K s1 = some 10) (h5 : et_pl (eg_at G s0) 5 = some (.int (Int32.ofNat ec))) (hec : ec ≤ 3) (t : ezK K ya yb O A) (hz : ez G th s0 s1 ya yb O A V) (ho : ∀ n, n < 6 → evo (V n)) (g2 : et_pl (eg_at G s0) 2 = some (.int (Int32.ofNat nc))) (hnc : nc ≤ 20) (hcc : ccP G s0 la ly nc X Y) (k_la : K la = some 17) (k_ly : K ly = some 27) (k_out : K out = some 31) (hd : 5 ≤ d2) : et_go none d2 24 0 (eg_en (eg_mL 24) [.ref th, .int x, .ref out]) [] G 0 0 (fun u => (¬ xr x ec ∧ u.1 = .inl (some (.int (Int32.ofNat 1)))) ∨ ∃ n, (x = Int32.ofNat n ∧ n < ec) ∧ u.1 = .inl (some (.int (Int32.ofNat 0))) ∧ et_pl (eg_at u.2.1 out) 0 = some (.long (beV (V n) X Y nc).toInt64)) := by
  by_cases hx : xr x ec
  · obtain ⟨n, rfl, hn⟩ := xr_nat hx (by omega)
    exact (fh_be hH k_th h0 k_s0 h5 hec hz.1.1 t.1.1 hn (hz.2.1 n (by omega)).1 (t.ev (ho n (by omega)) (by omega)) (hz.2.2.1 n (by omega)) g2 hnc hcc k_la k_ly k_out hd).mono (fun u hu => .inr ⟨n, ⟨rfl, hn⟩, hu.1, hu.2⟩)
  · exact (fh_beE hH k_th h0 k_s0 h5 hec hz.1.1 t.1.1 hx hd).mono (fun u hu => .inl ⟨hx, hu.1⟩)
theorem fn_swL (hH : et_H et_TT K G) (k_am : K am = some 13) (k_aw : K aw = some 46) (m1 : et_pl (eg_at G am) 1 = some (.ref aw)) (hn : n < 3) (ho : evo v) (hv : evm G aw n v) (hm : m ≤ v.1) : et_go none (d + 4) 237 6 [some (.ref am), some (.int (Int32.ofNat n)), some (.int x), some (.int lo), some (.int (suL v lo x m)), some (.int (Int32.ofNat m))] [] G 0 0 (xp_Z G (some (.int (suL v lo x v.1)))) := by
  have hw6 := ho.1.1
  induction hq9 : v.1 - m using Nat.strongRecOn generalizing m with
  | _ q9 ih =>
    have lt_am := (hH.2.2 _ _ k_am).1
    have lt_aw := (hH.2.2 _ _ k_aw).1
    refine hs_iload (i := 5) (p := 8) (by decide +kernel) rfl ?_
    refine hs_aload (i := 0) (p := 9) (by decide +kernel) rfl ?_
    refine hs_iload (i := 1) (p := 10) (by decide +kernel) rfl ?_
    refine ht_callv (T := et_TT) (t := 13) (mi := 224) (na := 1) (ci := 11) (lk := 6) (lm := 2) (L0 := eg_en (eg_mL 224) [.ref am, .int (Int32.ofNat n)]) (by decide +kernel) rfl hH k_am rfl rfl rfl rfl rfl (by rw [show eg_mL 224 = 2 from by decide +kernel]; first | done | rfl) ?_
    refine (fn_wires hH k_am k_aw m1 hn hv.1 (by omega)).mono (fun u hu => xp_cb hu ?_)
    show et_go none _ 237 13 _ [.int (Int32.ofNat v.1), .int (Int32.ofNat m)] _ _ _ _
    refine hs_br2n (c := .ge) (t := 57) (f := 16) (by decide +kernel) (by omega) (by omega) (fun (c13 : v.1 ≤ m) => ?_) (fun (c13 : ¬ (v.1 ≤ m)) => ?_)
    · refine hs_iload (i := 4) (p := 59) (by decide +kernel) rfl ?_
      refine hs_iret (by decide +kernel) ?_
      obtain rfl : m = v.1 := by omega
      rfl
    · refine hs_iload (i := 4) (p := 18) (by decide +kernel) rfl ?_
      refine hs_iload (i := 3) (p := 19) (by decide +kernel) rfl ?_
      refine hs_iload (i := 5) (p := 21) (by decide +kernel) rfl ?_
      refine hs_st (ins := .ishr) (len := 1) (p := 22) (by decide +kernel) rfl rfl ?_
      refine hs_k (x := Int32.ofNat 1) (p := 23) (by decide +kernel) ?_
      refine hs_st (ins := .iand) (len := 1) (p := 24) (by decide +kernel) rfl rfl ?_
      refine hs_k (x := Int32.ofNat 1) (p := 25) (by decide +kernel) ?_
      refine hs_br2 (c := .ne) (t := 32) (f := 28) (by decide +kernel) (fun (c25 : ¬ ((lo >>> ((Int32.ofNat m) &&& 31)) &&& (Int32.ofNat 1)) = Int32.ofNat 1) => ?_) (fun (c25 : ¬ (¬ ((lo >>> ((Int32.ofNat m) &&& 31)) &&& (Int32.ofNat 1)) = Int32.ofNat 1)) => ?_)
      · refine hs_aload (i := 0) (p := 33) (by decide +kernel) rfl ?_
        refine hs_iload (i := 1) (p := 34) (by decide +kernel) rfl ?_
        refine hs_iload (i := 5) (p := 36) (by decide +kernel) rfl ?_
        refine ht_callv (T := et_TT) (t := 13) (mi := 231) (na := 2) (ci := 11) (lk := 6) (lm := 3) (L0 := eg_en (eg_mL 231) [.ref am, .int (Int32.ofNat n), .int (Int32.ofNat m)]) (by decide +kernel) rfl hH k_am rfl rfl rfl rfl rfl (by rw [show eg_mL 231 = 3 from by decide +kernel]; first | done | rfl) ?_
        refine (fn_knob hH k_am k_aw m1 hn ho.1.1 ho.1.2 hv (by omega) (by omega)).mono (fun u hu => xp_cb hu ?_)
        show et_go none _ 237 39 _ [.int (v.2.2.2.1 m), .int (suL v lo x m)] _ _ _ _
        refine hs_aload (i := 0) (p := 40) (by decide +kernel) rfl ?_
        refine hs_iload (i := 1) (p := 41) (by decide +kernel) rfl ?_
        refine hs_iload (i := 5) (p := 43) (by decide +kernel) rfl ?_
        refine hs_iload (i := 2) (p := 44) (by decide +kernel) rfl ?_
        refine ht_callv (T := et_TT) (t := 13) (mi := 238) (na := 3) (ci := 11) (lk := 6) (lm := 4) (L0 := eg_en (eg_mL 238) [.ref am, .int (Int32.ofNat n), .int (Int32.ofNat m), .int x]) (by decide +kernel) rfl hH k_am rfl rfl rfl rfl rfl (by rw [show eg_mL 238 = 4 from by decide +kernel]; first | done | rfl) ?_
        refine (fn_val (x := x) hH k_am k_aw m1 hn ho.1.1 ho.1.2 hv (by omega) (by omega)).mono (fun u hu => xp_cb hu ?_)
        show et_go none _ 237 47 _ [.int (vaI (v.2.1 m) (v.2.2.1 m) x), .int (v.2.2.2.1 m), .int (suL v lo x m)] _ _ _ _
        refine hs_imul (p := 48) (by decide +kernel) ?_
        refine hs_iadd (p := 49) (by decide +kernel) ?_
        refine hs_istore (i := 4) (p := 51) (by decide +kernel) (Nat.le_of_ble_eq_true rfl) ?_
        refine hs_iinc1 (i := 5) (p := 54) (by decide +kernel) rfl (Nat.le_of_ble_eq_true rfl) ?_
        refine hs_goto (p := 6) (by decide +kernel) ?_
        have e9 : suL v lo x (m + 1) = (suL v lo x m + (v.2.2.2.1 m) * (vaI (v.2.1 m) (v.2.2.1 m) x)) := if_neg (fun h9 => by rcases one_bit (t := lo >>> (Int32.ofNat m &&& 31)) with h2 | h2; exact (of_decide_eq_true h9 : ¬ ((lo >>> (Int32.ofNat m &&& 31)) &&& Int32.ofNat 1) = 0) h2; exact c25 h2)
        show et_go none (d + 4) 237 6 [some (.ref am), some (.int (Int32.ofNat n)), some (.int x), some (.int lo), some (.int (suL v lo x m + (v.2.2.2.1 m) * (vaI (v.2.1 m) (v.2.2.1 m) x))), some (.int (Int32.ofNat (m + 1)))] [] _ _ _ _
        rw [← e9]
        exact @ih (v.1 - (m + 1)) (by omega) (m + 1) (by omega) rfl
      · refine hs_k (x := Int32.ofNat 0) (p := 29) (by decide +kernel) ?_
        refine hs_goto (p := 48) (by decide +kernel) ?_
        refine hs_iadd (p := 49) (by decide +kernel) ?_
        refine hs_istore (i := 4) (p := 51) (by decide +kernel) (Nat.le_of_ble_eq_true rfl) ?_
        refine hs_iinc1 (i := 5) (p := 54) (by decide +kernel) rfl (Nat.le_of_ble_eq_true rfl) ?_
        refine hs_goto (p := 6) (by decide +kernel) ?_
        have e8 : stB lo m = true := decide_eq_true (fun h9 => by rw [Decidable.of_not_not c25] at h9; exact absurd h9 (by decide))
        have e9 : suL v lo x (m + 1) = (suL v lo x m + Int32.ofNat 0) := (show suL v lo x (m + 1) = suL v lo x m from if_pos e8).trans (Int32.add_zero _).symm
        show et_go none (d + 4) 237 6 [some (.ref am), some (.int (Int32.ofNat n)), some (.int x), some (.int lo), some (.int (suL v lo x m + Int32.ofNat 0)), some (.int (Int32.ofNat (m + 1)))] [] _ _ _ _
        rw [← e9]
        exact @ih (v.1 - (m + 1)) (by omega) (m + 1) (by omega) rfl
theorem fn_sw (hH : et_H et_TT K G) (k_am : K am = some 13) (k_aw : K aw = some 46) (m1 : et_pl (eg_at G am) 1 = some (.ref aw)) (hn : n < 3) (ho : evo v) (hv : evm G aw n v) (hd : 4 ≤ d2) : et_go none d2 237 0 (eg_en (eg_mL 237) [.ref am, .int (Int32.ofNat n), .int x, .int lo]) [] G 0 0 (xp_Z G (some (.int (suL v lo x v.1)))) := by
  obtain ⟨d, rfl⟩ : ∃ d, d2 = d + 4 := ⟨d2 - 4, by omega⟩
  rw [show eg_mL 237 = 6 from by decide +kernel]
  show et_go none (d + 4) 237 0 [some (.ref am), some (.int (Int32.ofNat n)), some (.int x), some (.int lo), none, none] [] G 0 0 _
  have lt_am := (hH.2.2 _ _ k_am).1
  have lt_aw := (hH.2.2 _ _ k_aw).1
  refine hs_k (x := Int32.ofNat 0) (p := 1) (by decide +kernel) ?_
  refine hs_istore (i := 4) (p := 3) (by decide +kernel) (Nat.le_of_ble_eq_true rfl) ?_
  refine hs_k (x := Int32.ofNat 0) (p := 4) (by decide +kernel) ?_
  refine hs_istore (i := 5) (p := 6) (by decide +kernel) (Nat.le_of_ble_eq_true rfl) ?_
  exact fn_swL (m := 0) hH k_am k_aw m1 hn ho hv (Nat.zero_le _)
theorem fn_bfL (hH : et_H et_TT K G) (k_am : K am = some 13) (k_aw : K aw = some 46) (m1 : et_pl (eg_at G am) 1 = some (.ref aw)) (hn : n < 3) (ho : evo v) (hv : evm G aw n v) (w3 : et_pl (eg_at G aw) 3 = some (.int (Int32.ofNat nc))) (hnc : nc ≤ 20) (hcr : crP G aw nc X Y) (hc : c ≤ nc) (h : et_go none (d + 5) 280 104 [some (.ref am), some (.int (Int32.ofNat n)), some (.int (if brB v X Y (Int32.ofNat k) nc = true then mnI z (rp_bc (Int32.ofNat k)) else z)), some (.int (Int32.ofNat k)), some (.int (Int32.ofNat nc))] [] G 0 0 Z) : et_go none (d + 5) 280 44 [some (.ref am), some (.int (Int32.ofNat n)), some (.int (if brB v X Y (Int32.ofNat k) c = true then mnI z (rp_bc (Int32.ofNat k)) else z)), some (.int (Int32.ofNat k)), some (.int (Int32.ofNat c))] [] G 0 0 Z := by
  induction hq9 : nc - c using Nat.strongRecOn generalizing c with
  | _ q9 ih =>
    have hY1 : c < nc → Y c ≤ 1 := fun h9 => (hcr c h9).2.2
    have lt_am := (hH.2.2 _ _ k_am).1
    have lt_aw := (hH.2.2 _ _ k_aw).1
    refine hs_iload (i := 4) (p := 46) (by decide +kernel) rfl ?_
    refine hs_aload (i := 0) (p := 47) (by decide +kernel) rfl ?_
    refine ht_callv (T := et_TT) (t := 13) (mi := 218) (na := 0) (ci := 11) (lk := 5) (lm := 1) (L0 := eg_en (eg_mL 218) [.ref am]) (by decide +kernel) rfl hH k_am rfl rfl rfl rfl rfl (by rw [show eg_mL 218 = 1 from by decide +kernel]; first | done | rfl) ?_
    refine (fm_cards hH k_am k_aw m1 w3).mono (fun u hu => xp_cb hu ?_)
    show et_go none _ 280 50 _ [.int (Int32.ofNat nc), .int (Int32.ofNat c)] _ _ _ _
    refine hs_br2n (c := .ge) (t := 104) (f := 53) (by decide +kernel) (by omega) (by omega) (fun (c50 : nc ≤ c) => ?_) (fun (c50 : ¬ (nc ≤ c)) => ?_)
    · obtain rfl : c = nc := by omega
      exact h
    · refine hs_aload (i := 0) (p := 54) (by decide +kernel) rfl ?_
      refine hs_iload (i := 1) (p := 55) (by decide +kernel) rfl ?_
      refine hs_aload (i := 0) (p := 56) (by decide +kernel) rfl ?_
      refine hs_iload (i := 4) (p := 58) (by decide +kernel) rfl ?_
      refine ht_callv (T := et_TT) (t := 13) (mi := 234) (na := 1) (ci := 11) (lk := 5) (lm := 2) (L0 := eg_en (eg_mL 234) [.ref am, .int (Int32.ofNat c)]) (by decide +kernel) rfl hH k_am rfl rfl rfl rfl rfl (by rw [show eg_mL 234 = 2 from by decide +kernel]; first | done | rfl) ?_
      refine (fm_litOf hH k_am k_aw m1 (by omega) (hcr c (by omega)).1).mono (fun u hu => xp_cb hu ?_)
      show et_go none _ 280 61 _ [.int (X c), .int (Int32.ofNat n), .ref am] _ _ _ _
      refine hs_iload (i := 3) (p := 62) (by decide +kernel) rfl ?_
      refine ht_callv (T := et_TT) (t := 13) (mi := 237) (na := 3) (ci := 11) (lk := 5) (lm := 6) (L0 := eg_en (eg_mL 237) [.ref am, .int (Int32.ofNat n), .int (X c), .int (Int32.ofNat k)]) (by decide +kernel) rfl hH k_am rfl rfl rfl rfl rfl (by rw [show eg_mL 237 = 6 from by decide +kernel]; first | done | rfl) ?_
      refine (fn_sw (x := X c) (lo := Int32.ofNat k) hH k_am k_aw m1 hn ho hv (by omega)).mono (fun u hu => xp_cb hu ?_)
      show et_go none _ 280 65 _ [.int (suL v (Int32.ofNat k) (X c) v.1)] _ _ _ _
      refine hs_aload (i := 0) (p := 66) (by decide +kernel) rfl ?_
      refine hs_iload (i := 1) (p := 67) (by decide +kernel) rfl ?_
      refine hs_k (x := Int32.ofNat 19) (p := 69) (by decide +kernel) ?_
      refine ht_callv (T := et_TT) (t := 13) (mi := 225) (na := 2) (ci := 11) (lk := 5) (lm := 3) (L0 := eg_en (eg_mL 225) [.ref am, .int (Int32.ofNat n), .int (Int32.ofNat 19)]) (by decide +kernel) rfl hH k_am rfl rfl rfl rfl rfl (by rw [show eg_mL 225 = 3 from by decide +kernel]; first | done | rfl) ?_
      refine (fn_of hH k_am k_aw m1 (by omega) hv.2.2.1).mono (fun u hu => xp_cb hu ?_)
      show et_go none _ 280 72 _ [.int v.2.2.2.2.1, .int (suL v (Int32.ofNat k) (X c) v.1)] _ _ _ _
      refine hs_br2 (c := .le) (t := 79) (f := 75) (by decide +kernel) (fun (c72 : (suL v (Int32.ofNat k) (X c) v.1) ≤ v.2.2.2.2.1) => ?_) (fun (c72 : ¬ ((suL v (Int32.ofNat k) (X c) v.1) ≤ v.2.2.2.2.1)) => ?_)
      · refine hs_k (x := Int32.ofNat 0) (p := 80) (by decide +kernel) ?_
        refine hs_aload (i := 0) (p := 81) (by decide +kernel) rfl ?_
        refine hs_iload (i := 4) (p := 83) (by decide +kernel) rfl ?_
        refine ht_callv (T := et_TT) (t := 13) (mi := 240) (na := 1) (ci := 11) (lk := 5) (lm := 2) (L0 := eg_en (eg_mL 240) [.ref am, .int (Int32.ofNat c)]) (by decide +kernel) rfl hH k_am rfl rfl rfl rfl rfl (by rw [show eg_mL 240 = 2 from by decide +kernel]; first | done | rfl) ?_
        refine (fm_isYes hH k_am k_aw m1 (by omega) (hcr c (by omega)).2.2 (hcr c (by omega)).2.1).mono (fun u hu => xp_cb hu ?_)
        show et_go none _ 280 86 _ [.int (Int32.ofNat (Y c)), .int (Int32.ofNat 0)] _ _ _ _
        refine hs_br2n (c := .eq) (t := 98) (f := 89) (by decide +kernel) (by omega) (by omega) (fun (c86 : 0 = (Y c)) => ?_) (fun (c86 : ¬ (0 = (Y c))) => ?_)
        · refine hs_iinc1 (i := 4) (p := 101) (by decide +kernel) rfl (Nat.le_of_ble_eq_true rfl) ?_
          refine hs_goto (p := 44) (by decide +kernel) ?_
          have e8 := brB_n (v := v) (X := X) (Y := Y) (lo := Int32.ofNat k) (c := c) (by rw [if_neg (Int32.not_lt.mpr c72)]; exact c86)
          have h9 := @ih (nc - (c + 1)) (by omega) (c + 1) (by omega) rfl
          rw [e8] at h9
          exact h9
        · refine hs_iload (i := 2) (p := 90) (by decide +kernel) rfl ?_
          refine hs_iload (i := 3) (p := 91) (by decide +kernel) rfl ?_
          refine hs_calls (mi := 214) (na := 1) (lk := 5) (lm := 1) (L0 := eg_en (eg_mL 214) [.int (Int32.ofNat k)]) (by decide +kernel) rfl rfl rfl rfl rfl rfl (by rw [show eg_mL 214 = 1 from by decide +kernel]; first | done | rfl) ?_
          refine (fm_bits (x := Int32.ofNat k) (by omega)).mono (fun u hu => xp_cb hu ?_)
          show et_go none _ 280 94 _ [.int (rp_bc (Int32.ofNat k)), .int (if brB v X Y (Int32.ofNat k) c = true then mnI z (rp_bc (Int32.ofNat k)) else z)] _ _ _ _
          refine hs_math (mi := 311) (lk := 5) (p := 97) (by decide +kernel) rfl rfl rfl rfl ?_
          refine hs_istore (i := 2) (p := 98) (by decide +kernel) (Nat.le_of_ble_eq_true rfl) ?_
          refine hs_iinc1 (i := 4) (p := 101) (by decide +kernel) rfl (Nat.le_of_ble_eq_true rfl) ?_
          refine hs_goto (p := 44) (by decide +kernel) ?_
          have e8 := brB_y (v := v) (X := X) (Y := Y) (lo := Int32.ofNat k) (c := c) (by rw [if_neg (Int32.not_lt.mpr c72)]; exact c86)
          have e9 : (if (rp_bc (Int32.ofNat k)) < (if brB v X Y (Int32.ofNat k) c = true then mnI z (rp_bc (Int32.ofNat k)) else z) then (rp_bc (Int32.ofNat k)) else (if brB v X Y (Int32.ofNat k) c = true then mnI z (rp_bc (Int32.ofNat k)) else z)) = (if brB v X Y (Int32.ofNat k) (c + 1) = true then mnI z (rp_bc (Int32.ofNat k)) else z) := by
            rw [if_pos e8]
            by_cases hb : brB v X Y (Int32.ofNat k) c = true
            · rw [if_pos hb]
              exact mnI_i
            · rw [if_neg hb]
              rfl
          show et_go none (d + 5) 280 44 [some (.ref am), some (.int (Int32.ofNat n)), some (.int (if (rp_bc (Int32.ofNat k)) < (if brB v X Y (Int32.ofNat k) c = true then mnI z (rp_bc (Int32.ofNat k)) else z) then (rp_bc (Int32.ofNat k)) else (if brB v X Y (Int32.ofNat k) c = true then mnI z (rp_bc (Int32.ofNat k)) else z))), some (.int (Int32.ofNat k)), some (.int (Int32.ofNat (c + 1)))] [] _ _ _ _
          rw [e9]
          exact @ih (nc - (c + 1)) (by omega) (c + 1) (by omega) rfl
      · refine hs_k (x := Int32.ofNat 1) (p := 76) (by decide +kernel) ?_
        refine hs_goto (p := 80) (by decide +kernel) ?_
        refine hs_aload (i := 0) (p := 81) (by decide +kernel) rfl ?_
        refine hs_iload (i := 4) (p := 83) (by decide +kernel) rfl ?_
        refine ht_callv (T := et_TT) (t := 13) (mi := 240) (na := 1) (ci := 11) (lk := 5) (lm := 2) (L0 := eg_en (eg_mL 240) [.ref am, .int (Int32.ofNat c)]) (by decide +kernel) rfl hH k_am rfl rfl rfl rfl rfl (by rw [show eg_mL 240 = 2 from by decide +kernel]; first | done | rfl) ?_
        refine (fm_isYes hH k_am k_aw m1 (by omega) (hcr c (by omega)).2.2 (hcr c (by omega)).2.1).mono (fun u hu => xp_cb hu ?_)
        show et_go none _ 280 86 _ [.int (Int32.ofNat (Y c)), .int (Int32.ofNat 1)] _ _ _ _
        refine hs_br2n (c := .eq) (t := 98) (f := 89) (by decide +kernel) (by omega) (by omega) (fun (c86 : 1 = (Y c)) => ?_) (fun (c86 : ¬ (1 = (Y c))) => ?_)
        · refine hs_iinc1 (i := 4) (p := 101) (by decide +kernel) rfl (Nat.le_of_ble_eq_true rfl) ?_
          refine hs_goto (p := 44) (by decide +kernel) ?_
          have e8 := brB_n (v := v) (X := X) (Y := Y) (lo := Int32.ofNat k) (c := c) (by rw [if_pos (Int32.not_le.mp c72)]; exact c86)
          have h9 := @ih (nc - (c + 1)) (by omega) (c + 1) (by omega) rfl
          rw [e8] at h9
          exact h9
        · refine hs_iload (i := 2) (p := 90) (by decide +kernel) rfl ?_
          refine hs_iload (i := 3) (p := 91) (by decide +kernel) rfl ?_
          refine hs_calls (mi := 214) (na := 1) (lk := 5) (lm := 1) (L0 := eg_en (eg_mL 214) [.int (Int32.ofNat k)]) (by decide +kernel) rfl rfl rfl rfl rfl rfl (by rw [show eg_mL 214 = 1 from by decide +kernel]; first | done | rfl) ?_
          refine (fm_bits (x := Int32.ofNat k) (by omega)).mono (fun u hu => xp_cb hu ?_)
          show et_go none _ 280 94 _ [.int (rp_bc (Int32.ofNat k)), .int (if brB v X Y (Int32.ofNat k) c = true then mnI z (rp_bc (Int32.ofNat k)) else z)] _ _ _ _
          refine hs_math (mi := 311) (lk := 5) (p := 97) (by decide +kernel) rfl rfl rfl rfl ?_
          refine hs_istore (i := 2) (p := 98) (by decide +kernel) (Nat.le_of_ble_eq_true rfl) ?_
          refine hs_iinc1 (i := 4) (p := 101) (by decide +kernel) rfl (Nat.le_of_ble_eq_true rfl) ?_
          refine hs_goto (p := 44) (by decide +kernel) ?_
          have e8 := brB_y (v := v) (X := X) (Y := Y) (lo := Int32.ofNat k) (c := c) (by rw [if_pos (Int32.not_le.mp c72)]; exact c86)
          have e9 : (if (rp_bc (Int32.ofNat k)) < (if brB v X Y (Int32.ofNat k) c = true then mnI z (rp_bc (Int32.ofNat k)) else z) then (rp_bc (Int32.ofNat k)) else (if brB v X Y (Int32.ofNat k) c = true then mnI z (rp_bc (Int32.ofNat k)) else z)) = (if brB v X Y (Int32.ofNat k) (c + 1) = true then mnI z (rp_bc (Int32.ofNat k)) else z) := by
            rw [if_pos e8]
            by_cases hb : brB v X Y (Int32.ofNat k) c = true
            · rw [if_pos hb]
              exact mnI_i
            · rw [if_neg hb]
              rfl
          show et_go none (d + 5) 280 44 [some (.ref am), some (.int (Int32.ofNat n)), some (.int (if (rp_bc (Int32.ofNat k)) < (if brB v X Y (Int32.ofNat k) c = true then mnI z (rp_bc (Int32.ofNat k)) else z) then (rp_bc (Int32.ofNat k)) else (if brB v X Y (Int32.ofNat k) c = true then mnI z (rp_bc (Int32.ofNat k)) else z))), some (.int (Int32.ofNat k)), some (.int (Int32.ofNat (c + 1)))] [] _ _ _ _
          rw [e9]
          exact @ih (nc - (c + 1)) (by omega) (c + 1) (by omega) rfl
theorem fn_beL {x4 : Option Value} (hH : et_H et_TT K G) (k_am : K am = some 13) (k_aw : K aw = some 46) (m1 : et_pl (eg_at G am) 1 = some (.ref aw)) (hn : n < 3) (ho : evo v) (hv : evm G aw n v) (w3 : et_pl (eg_at G aw) 3 = some (.int (Int32.ofNat nc))) (hnc : nc ≤ 20) (hcr : crP G aw nc X Y) (m0 : et_pl (eg_at G am) 0 = some (.int (Int32.ofNat 0))) (hk : k ≤ 2 ^ v.1) : et_go none (d + 5) 280 30 [some (.ref am), some (.int (Int32.ofNat n)), some (.int (beI v X Y nc k)), some (.int (Int32.ofNat k)), x4] [] G 0 0 (fun u => u.1 = .inl (some (.int (beV v X Y nc))) ∧ et_pl (eg_at u.2.1 am) 0 = some (.int (Int32.ofNat 0))) := by
  have hw6 := ho.1.1
  have h64 := (be_pow v.1 (List.mem_range.mpr (by omega))).2
  induction hq9 : 2 ^ v.1 - k using Nat.strongRecOn generalizing k x4 with
  | _ q9 ih =>
    have lt_am := (hH.2.2 _ _ k_am).1
    have lt_aw := (hH.2.2 _ _ k_aw).1
    refine hs_iload (i := 3) (p := 31) (by decide +kernel) rfl ?_
    refine hs_k (x := Int32.ofNat 1) (p := 32) (by decide +kernel) ?_
    refine hs_aload (i := 0) (p := 33) (by decide +kernel) rfl ?_
    refine hs_iload (i := 1) (p := 34) (by decide +kernel) rfl ?_
    refine ht_callv (T := et_TT) (t := 13) (mi := 224) (na := 1) (ci := 11) (lk := 5) (lm := 2) (L0 := eg_en (eg_mL 224) [.ref am, .int (Int32.ofNat n)]) (by decide +kernel) rfl hH k_am rfl rfl rfl rfl rfl (by rw [show eg_mL 224 = 2 from by decide +kernel]; first | done | rfl) ?_
    refine (fn_wires hH k_am k_aw m1 hn hv.1 (by omega)).mono (fun u hu => xp_cb hu ?_)
    show et_go none _ 280 37 _ [.int (Int32.ofNat v.1), .int (Int32.ofNat 1), .int (Int32.ofNat k)] _ _ _ _
    refine hs_st (ins := .ishl) (len := 1) (p := 38) (by decide +kernel) rfl rfl ?_
    show et_go none _ 280 38 _ (.int (Int32.ofNat 1 <<< (Int32.ofNat v.1 &&& 31)) :: _) _ _ _ _
    rw [(be_pow v.1 (List.mem_range.mpr (by omega))).1]
    refine hs_br2n (c := .ge) (t := 110) (f := 41) (by decide +kernel) (by omega) (by omega) (fun (c38 : (2 ^ v.1) ≤ k) => ?_) (fun (c38 : ¬ ((2 ^ v.1) ≤ k)) => ?_)
    · refine hs_iload (i := 2) (p := 111) (by decide +kernel) rfl ?_
      refine hs_k (x := Int32.ofNat 1) (p := 112) (by decide +kernel) ?_
      refine hs_isub (p := 113) (by decide +kernel) ?_
      refine hs_iret (by decide +kernel) ?_
      obtain rfl : k = 2 ^ v.1 := by omega
      exact ⟨rfl, m0⟩
    · refine hs_k (x := Int32.ofNat 0) (p := 42) (by decide +kernel) ?_
      refine hs_istore (i := 4) (p := 44) (by decide +kernel) (Nat.le_of_ble_eq_true rfl) ?_
      refine fn_bfL (z := (beI v X Y nc k)) (c := 0) hH k_am k_aw m1 hn ho hv w3 hnc hcr (Nat.zero_le _) ?_
      refine hs_iinc1 (i := 3) (p := 107) (by decide +kernel) rfl (Nat.le_of_ble_eq_true rfl) ?_
      refine hs_goto (p := 30) (by decide +kernel) ?_
      exact @ih (2 ^ v.1 - (k + 1)) (by omega) (k + 1) _ (by omega) rfl
theorem fn_be (hH : et_H et_TT K G) (k_am : K am = some 13) (k_aw : K aw = some 46) (m1 : et_pl (eg_at G am) 1 = some (.ref aw)) (w4 : et_pl (eg_at G aw) 4 = some (.int (Int32.ofNat ec))) (hec : ec ≤ 3) (hm : zyM G aw ec V) (ho : ∀ n, n < 3 → evo (V n)) (w3 : et_pl (eg_at G aw) 3 = some (.int (Int32.ofNat nc))) (hnc : nc ≤ 20) (hcr : crP G aw nc X Y) (hn : n < ec) (hd : 5 ≤ d2) : et_go none d2 280 0 (eg_en (eg_mL 280) [.ref am, .int (Int32.ofNat n)]) [] G 0 0 (fun u => u.1 = .inl (some (.int (beV (V n) X Y nc))) ∧ et_pl (eg_at u.2.1 am) 0 = some (.int (Int32.ofNat 0))) := by
  obtain ⟨d, rfl⟩ : ∃ d, d2 = d + 5 := ⟨d2 - 5, by omega⟩
  rw [show eg_mL 280 = 5 from by decide +kernel]
  show et_go none (d + 5) 280 0 [some (.ref am), some (.int (Int32.ofNat n)), none, none, none] [] G 0 0 _
  have lt_am := (hH.2.2 _ _ k_am).1
  have lt_aw := (hH.2.2 _ _ k_aw).1
  refine hs_aload (i := 0) (p := 1) (by decide +kernel) rfl ?_
  refine hs_k (x := Int32.ofNat 0) (p := 2) (by decide +kernel) ?_
  refine hf_put (T := et_TT) (t := 13) (ci := 11) (f := 0) (p := 5) (ty := .int) (by decide +kernel) rfl rfl rfl rfl rfl hH k_am hi_any (fun G2 hH x2 e2 => ?_)
  have hm := hm.mv ho (fun j _ _ => x2.2 aw j lt_aw (fun h => hi_ne k_aw k_am (by decide) h.1))
  have hcr : crP G2 aw nc X Y := fun k hk => ⟨(x2.2 aw _ lt_aw (fun h => hi_ne k_aw k_am (by decide) h.1)).trans (hcr k hk).1, (x2.2 aw _ lt_aw (fun h => hi_ne k_aw k_am (by decide) h.1)).trans (hcr k hk).2.1, (hcr k hk).2.2⟩
  have w3 := (x2.2 aw 3 lt_aw (fun h => hi_ne k_aw k_am (by decide) h.1)).trans w3
  have m1 := (x2.2 am 1 lt_am (fun h => absurd h.2 (by decide))).trans m1
  have w4 := (x2.2 aw 4 lt_aw (fun h => (hi_ne k_aw k_am (by decide)) h.1)).trans w4
  have lt_am := Nat.lt_of_lt_of_le lt_am x2.1
  have lt_aw := Nat.lt_of_lt_of_le lt_aw x2.1
  refine hs_aload (i := 0) (p := 6) (by decide +kernel) rfl ?_
  refine hs_aload (i := 0) (p := 7) (by decide +kernel) rfl ?_
  refine hs_iload (i := 1) (p := 8) (by decide +kernel) rfl ?_
  refine ht_callv (T := et_TT) (t := 13) (mi := 208) (na := 1) (ci := 11) (lk := 5) (lm := 2) (L0 := eg_en (eg_mL 208) [.ref am, .int (Int32.ofNat n)]) (by decide +kernel) rfl hH k_am rfl rfl rfl rfl rfl (by rw [show eg_mL 208 = 2 from by decide +kernel]; first | done | rfl) ?_
  refine (fm_nEy hH k_am k_aw m1 w4 hec hn (by omega)).mono (fun u hu => xp_cb hu ?_)
  show et_go none _ 280 11 _ [.int (Int32.ofNat 0), .ref am] _ _ _ _
  refine hs_k (x := Int32.ofNat 1) (p := 12) (by decide +kernel) ?_
  refine ht_callv (T := et_TT) (t := 13) (mi := 204) (na := 2) (ci := 11) (lk := 5) (lm := 3) (L0 := eg_en (eg_mL 204) [.ref am, .int (Int32.ofNat 0), .int (Int32.ofNat 1)]) (by decide +kernel) rfl hH k_am rfl rfl rfl rfl rfl (by rw [show eg_mL 204 = 3 from by decide +kernel]; first | done | rfl) ?_
  refine (fm_t0 hH k_am).mono (fun u hu => xp_cb hu ?_)
  show et_go none _ 280 15 _ [.int (Int32.ofNat 0)] _ _ _ _
  refine hs_if1 (c := .eq) (t := 20) (f := 18) (by decide +kernel) (show Int32.ofNat 0 = 0 by decide) ?_
  refine hs_aload (i := 0) (p := 21) (by decide +kernel) rfl ?_
  refine hs_iload (i := 1) (p := 22) (by decide +kernel) rfl ?_
  refine ht_callv (T := et_TT) (t := 13) (mi := 224) (na := 1) (ci := 11) (lk := 5) (lm := 2) (L0 := eg_en (eg_mL 224) [.ref am, .int (Int32.ofNat n)]) (by decide +kernel) rfl hH k_am rfl rfl rfl rfl rfl (by rw [show eg_mL 224 = 2 from by decide +kernel]; first | done | rfl) ?_
  refine (fn_wires hH k_am k_aw m1 (by omega) ((hm n (by omega)).1 hn).1 (by omega)).mono (fun u hu => xp_cb hu ?_)
  show et_go none _ 280 25 _ [.int (Int32.ofNat ((V n).1))] _ _ _ _
  refine hs_k (x := Int32.ofNat 1) (p := 26) (by decide +kernel) ?_
  refine hs_iaddn (p := 27) (by decide +kernel) ?_
  refine hs_istore (i := 2) (p := 28) (by decide +kernel) (Nat.le_of_ble_eq_true rfl) ?_
  refine hs_k (x := Int32.ofNat 0) (p := 29) (by decide +kernel) ?_
  refine hs_istore (i := 3) (p := 30) (by decide +kernel) (Nat.le_of_ble_eq_true rfl) ?_
  exact fn_beL (k := 0) hH k_am k_aw m1 (by omega) (ho n (by omega)) ((hm n (by omega)).1 hn) w3 hnc hcr e2 (Nat.zero_le _)
theorem fn_beE (hH : et_H et_TT K G) (k_am : K am = some 13) (k_aw : K aw = some 46) (m1 : et_pl (eg_at G am) 1 = some (.ref aw)) (w4 : et_pl (eg_at G aw) 4 = some (.int (Int32.ofNat ec))) (hec : ec ≤ 3) (hm : zyM G aw ec V) (ho : ∀ n, n < 3 → evo (V n)) (hx : ¬ xr x ec) (hd : 2 ≤ d2) : et_go none d2 280 0 (eg_en (eg_mL 280) [.ref am, .int x]) [] G 0 0 (fun u => u.1 = .inl (some (.int (Int32.ofNat 0))) ∧ et_pl (eg_at u.2.1 am) 0 = some (.int (Int32.ofNat 1))) := by
  obtain ⟨d, rfl⟩ : ∃ d, d2 = d + 2 := ⟨d2 - 2, by omega⟩
  rw [show eg_mL 280 = 5 from by decide +kernel]
  show et_go none (d + 2) 280 0 [some (.ref am), some (.int x), none, none, none] [] G 0 0 _
  have lt_am := (hH.2.2 _ _ k_am).1
  have lt_aw := (hH.2.2 _ _ k_aw).1
  refine hs_aload (i := 0) (p := 1) (by decide +kernel) rfl ?_
  refine hs_k (x := Int32.ofNat 0) (p := 2) (by decide +kernel) ?_
  refine hf_put (T := et_TT) (t := 13) (ci := 11) (f := 0) (p := 5) (ty := .int) (by decide +kernel) rfl rfl rfl rfl rfl hH k_am hi_any (fun G2 hH x2 e2 => ?_)
  have hm := hm.mv ho (fun j _ _ => x2.2 aw j lt_aw (fun h => hi_ne k_aw k_am (by decide) h.1))
  have m1 := (x2.2 am 1 lt_am (fun h => absurd h.2 (by decide))).trans m1
  have w4 := (x2.2 aw 4 lt_aw (fun h => (hi_ne k_aw k_am (by decide)) h.1)).trans w4
  have lt_am := Nat.lt_of_lt_of_le lt_am x2.1
  have lt_aw := Nat.lt_of_lt_of_le lt_aw x2.1
  refine hs_aload (i := 0) (p := 6) (by decide +kernel) rfl ?_
  refine hs_aload (i := 0) (p := 7) (by decide +kernel) rfl ?_
  refine hs_iload (i := 1) (p := 8) (by decide +kernel) rfl ?_
  refine ht_callv (T := et_TT) (t := 13) (mi := 208) (na := 1) (ci := 11) (lk := 5) (lm := 2) (L0 := eg_en (eg_mL 208) [.ref am, .int x]) (by decide +kernel) rfl hH k_am rfl rfl rfl rfl rfl (by rw [show eg_mL 208 = 2 from by decide +kernel]; first | done | rfl) ?_
  refine (fm_nEn hH k_am k_aw m1 w4 hec hx (by omega)).mono (fun u hu => xp_cb hu ?_)
  show et_go none _ 280 11 _ [.int (Int32.ofNat 1), .ref am] _ _ _ _
  refine hs_k (x := Int32.ofNat 1) (p := 12) (by decide +kernel) ?_
  refine ht_callv (T := et_TT) (t := 13) (mi := 204) (na := 2) (ci := 11) (lk := 5) (lm := 3) (L0 := eg_en (eg_mL 204) [.ref am, .int (Int32.ofNat 1), .int (Int32.ofNat 1)]) (by decide +kernel) rfl hH k_am rfl rfl rfl rfl rfl (by rw [show eg_mL 204 = 3 from by decide +kernel]; first | done | rfl) ?_
  refine (fm_t1 hH k_am).mono (fun u hu => xw_cb hu (fun G12 v12 hH x12 hP12 => ?_))
  have hm := hm.mv ho (fun j _ _ => x12.2 aw j lt_aw (fun h => hi_ne k_aw k_am (by decide) h.1))
  have m1 := (x12.2 am 1 lt_am (fun h => absurd h.2 (by decide))).trans m1
  have w4 := (x12.2 aw 4 lt_aw (fun h => (hi_ne k_aw k_am (by decide)) h.1)).trans w4
  have lt_am := Nat.lt_of_lt_of_le lt_am x12.1
  have lt_aw := Nat.lt_of_lt_of_le lt_aw x12.1
  obtain ⟨rfl, th12⟩ := hP12
  show et_go none _ 280 15 _ [.int (Int32.ofNat 1)] _ _ _ _
  refine hs_if0 (c := .eq) (t := 20) (f := 18) (by decide +kernel) (show ¬ (Int32.ofNat 1 = 0) by decide) ?_
  refine hs_k (x := Int32.ofNat 0) (p := 19) (by decide +kernel) ?_
  refine hs_iret (by decide +kernel) ?_
  exact ⟨rfl, th12⟩
theorem gz_be (hH : et_H et_TT K G) (k_am : K am = some 13) (k_aw : K aw = some 46) (m1 : et_pl (eg_at G am) 1 = some (.ref aw)) (w4 : et_pl (eg_at G aw) 4 = some (.int (Int32.ofNat ec))) (hec : ec ≤ 3) (hm : zyM G aw ec V) (ho : ∀ n, n < 3 → evo (V n)) (w3 : et_pl (eg_at G aw) 3 = some (.int (Int32.ofNat nc))) (hnc : nc ≤ 20) (hcr : crP G aw nc X Y) (hd : 5 ≤ d2) : et_go none d2 280 0 (eg_en (eg_mL 280) [.ref am, .int x]) [] G 0 0 (fun u => (¬ xr x ec ∧ u.1 = .inl (some (.int (Int32.ofNat 0))) ∧ et_pl (eg_at u.2.1 am) 0 = some (.int (Int32.ofNat 1))) ∨ ∃ n, (x = Int32.ofNat n ∧ n < ec) ∧ u.1 = .inl (some (.int (beV (V n) X Y nc))) ∧ et_pl (eg_at u.2.1 am) 0 = some (.int (Int32.ofNat 0))) := by
  by_cases hx : xr x ec
  · obtain ⟨n, rfl, hn⟩ := xr_nat hx (by omega)
    exact (fn_be hH k_am k_aw m1 w4 hec hm ho w3 hnc hcr hn hd).mono (fun u hu => .inr ⟨n, ⟨rfl, hn⟩, hu.1, hu.2⟩)
  · exact (fn_beE hH k_am k_aw m1 w4 hec hm ho hx (by omega)).mono (fun u hu => .inl ⟨hx, hu.1, hu.2⟩)
end YGA
