/-! PHASE D: swapped -/
/-- two WIRES' CELLS and kinds changed -/
def vsw (v : evT) (m k : Nat) : evT := (v.1, swp v.2.1 m k, kun (kun v.2.2.1 m (v.2.2.1 k)) k (v.2.2.1 m), v.2.2.2.1, v.2.2.2.2.1, v.2.2.2.2.2)
/-- on how many of the first CARDS they SAY otherwise -/
def dfE (v v2 : evT) (X : Nat → Int32) : Nat → Nat
  | 0 => 0
  | c + 1 => dfE v v2 X c + (if syE v (X c) = syE v2 (X c) then 0 else 1)
theorem dfE_le (v v2 : evT) (X : Nat → Int32) : ∀ c, dfE v v2 X c ≤ c
  | 0 => Nat.le_refl 0
  | c + 1 => by
    have h := dfE_le v v2 X c
    show dfE v v2 X c + (if syE v (X c) = syE v2 (X c) then 0 else 1) ≤ c + 1
    split <;> omega
theorem dfE_y {v v2 : evT} {X : Nat → Int32} {c : Nat} {b : Bool} (h1 : syE v (X c) = b) (h2 : syE v2 (X c) = b) : dfE v v2 X (c + 1) = dfE v v2 X c := by
  show dfE v v2 X c + (if syE v (X c) = syE v2 (X c) then 0 else 1) = _
  rw [if_pos (h1.trans h2.symm)]
  rfl
theorem dfE_n {v v2 : evT} {X : Nat → Int32} {c : Nat} {b : Bool} (h1 : syE v (X c) = b) (h2 : syE v2 (X c) = !b) : dfE v v2 X (c + 1) = dfE v v2 X c + 1 := by
  show dfE v v2 X c + (if syE v (X c) = syE v2 (X c) then 0 else 1) = _
  rw [if_neg (fun h => by
    rw [h1, h2] at h
    cases b <;> cases h)]
/-- the sum then -/
def swD (N f : Nat → Int32) (m k i : Nat) : Int32 := (if k < i then N k * (f m - f k) else 0) + (if m < i ∧ ¬ m = k then N m * (f k - f m) else 0)
theorem sw_a (a b c d e : Int32) : a + (b + c) + d * e = a + d * e + (b + c) := by grind
theorem sw_b (s n a b c : Int32) : s + (0 + c) + n * a = s + n * b + (n * (a - b) + c) := by grind
theorem sw_c (s n a b c : Int32) : s + (c + 0) + n * a = s + n * b + (c + n * (a - b)) := by grind
theorem sw_d (s p q a b : Int32) : s + (q * (a - b) + p * (b - a)) = s + (p - q) * (b - a) := by grind
theorem sw_e (s p a : Int32) : s + (p * (a - a) + 0) = s + (p - p) * (a - a) := by grind
theorem sw_S {C : Nat → Int32} {D : Nat → Nat} {N : Nat → Int32} {x : Int32} {m k : Nat} : ∀ i, suN (swp C m k) (kun (kun D m (D k)) k (D m)) N x i = suN C D N x i + swD N (fun j => vaI (C j) (D j) x) m k i
  | 0 => by
    show Int32.ofNat 0 = Int32.ofNat 0 + ((if k < 0 then _ else 0) + (if m < 0 ∧ ¬ m = k then _ else 0))
    rw [if_neg (Nat.not_lt_zero k), if_neg (fun h => Nat.not_lt_zero m h.1)]
    rfl
  | i + 1 => by
    have ih := sw_S (C := C) (D := D) (N := N) (x := x) (m := m) (k := k) i
    show suN (swp C m k) (kun (kun D m (D k)) k (D m)) N x i + N i * vaI (swp C m k i) (kun (kun D m (D k)) k (D m) i) x = suN C D N x i + N i * vaI (C i) (D i) x + swD N (fun j => vaI (C j) (D j) x) m k (i + 1)
    rw [ih]
    unfold swD
    dsimp only
    by_cases ek : i = k
    · subst ek
      have e1 : swp C m i i = C m := if_pos rfl
      have e2 : kun (kun D m (D i)) i (D m) i = D m := if_pos rfl
      rw [e1, e2, if_neg (Nat.lt_irrefl i), if_pos (Nat.lt_succ_self i)]
      by_cases hm : m < i ∧ ¬ m = i
      · rw [if_pos hm, if_pos ⟨Nat.lt_succ_of_lt hm.1, hm.2⟩]
        exact sw_b _ _ _ _ _
      · rw [if_neg hm, if_neg (fun h => hm ⟨by have := h.1; have := h.2; omega, h.2⟩)]
        exact sw_b _ _ _ _ _
    · by_cases em : i = m
      · subst em
        have e1 : swp C i k i = C k := (if_neg ek).trans (if_pos rfl)
        have e2 : kun (kun D i (D k)) k (D i) i = D k := (if_neg ek).trans (if_pos rfl)
        rw [e1, e2, if_neg (show ¬ (i < i ∧ ¬ i = k) from fun h => Nat.lt_irrefl i h.1), if_pos (show i < i + 1 ∧ ¬ i = k from ⟨Nat.lt_succ_self i, ek⟩)]
        by_cases hk : k < i
        · rw [if_pos hk, if_pos (Nat.lt_succ_of_lt hk)]
          exact sw_c _ _ _ _ _
        · rw [if_neg hk, if_neg (fun h => hk (by omega))]
          exact sw_c _ _ _ _ _
      · have e1 : swp C m k i = C i := (if_neg ek).trans (if_neg em)
        have e2 : kun (kun D m (D k)) k (D m) i = D i := (if_neg ek).trans (if_neg em)
        have q1 : k < i + 1 ↔ k < i := by omega
        have q2 : (m < i + 1 ∧ ¬ m = k) ↔ (m < i ∧ ¬ m = k) := by omega
        rw [e1, e2]
        by_cases hk : k < i
        · rw [if_pos hk, if_pos (q1.mpr hk)]
          by_cases hm : m < i ∧ ¬ m = k
          · rw [if_pos hm, if_pos (q2.mpr hm)]
            exact sw_a _ _ _ _ _
          · rw [if_neg hm, if_neg (fun h => hm (q2.mp h))]
            exact sw_a _ _ _ _ _
        · rw [if_neg hk, if_neg (fun h => hk (q1.mp h))]
          by_cases hm : m < i ∧ ¬ m = k
          · rw [if_pos hm, if_pos (q2.mpr hm)]
            exact sw_a _ _ _ _ _
          · rw [if_neg hm, if_neg (fun h => hm (q2.mp h))]
            exact sw_a _ _ _ _ _
theorem sw_ok {v : evT} {m k : Nat} {x : Int32} (hm : m < v.1) (hk : k < v.1) : (suN v.2.1 v.2.2.1 v.2.2.2.1 x v.1 + (v.2.2.2.1 m - v.2.2.2.1 k) * (vaI (v.2.1 k) (v.2.2.1 k) x - vaI (v.2.1 m) (v.2.2.1 m) x)) = suN (vsw v m k).2.1 (vsw v m k).2.2.1 (vsw v m k).2.2.2.1 x (vsw v m k).1 := by
  refine Eq.trans ?_ (sw_S (C := v.2.1) (D := v.2.2.1) (N := v.2.2.2.1) (x := x) (m := m) (k := k) v.1).symm
  unfold swD
  dsimp only
  rw [if_pos hk]
  by_cases e : m = k
  · subst e
    rw [if_neg (fun h => h.2 rfl)]
    exact (sw_e _ _ _).symm
  · rw [if_pos ⟨hm, e⟩]
    exact (sw_d _ _ _ _ _).symm
theorem sw_y {v : evT} {m k : Nat} {x : Int32} (hm : m < v.1) (hk : k < v.1) (h : ¬ (suN v.2.1 v.2.2.1 v.2.2.2.1 x v.1 + (v.2.2.2.1 m - v.2.2.2.1 k) * (vaI (v.2.1 k) (v.2.2.1 k) x - vaI (v.2.1 m) (v.2.2.1 m) x)) ≤ v.2.2.2.2.1) : syE (vsw v m k) x = true := decide_eq_true (by
  rw [sw_ok hm hk] at h
  exact Int32.not_le.mp h)
theorem sw_n {v : evT} {m k : Nat} {x : Int32} (hm : m < v.1) (hk : k < v.1) (h : (suN v.2.1 v.2.2.1 v.2.2.2.1 x v.1 + (v.2.2.2.1 m - v.2.2.2.1 k) * (vaI (v.2.1 k) (v.2.2.1 k) x - vaI (v.2.1 m) (v.2.2.1 m) x)) ≤ v.2.2.2.2.1) : syE (vsw v m k) x = false := decide_eq_false (by
  rw [sw_ok hm hk] at h
  exact Int32.not_lt.mpr h)
theorem vsw_o {v : evT} {m k : Nat} (hm : m < v.1) (hk : k < v.1) (h : ∀ i, i < v.1 → v.2.2.1 i ≤ 2) : ∀ i, i < v.1 → (vsw v m k).2.2.1 i ≤ 2 := fun i hi => by
  show kun (kun v.2.2.1 m (v.2.2.1 k)) k (v.2.2.1 m) i ≤ 2
  unfold kun
  split
  · exact h m hm
  · split
    · exact h k hk
    · exact h i hi
section YHA
variable {K : et_K} {G : eg_G} {d d2 th s0 s1 ya yb ec nc la ly out e ca ki kn am aw n m k c q a b : Nat} {O : Nat → Nat} {A : Nat → Nat → Nat} {v : evT} {V : Nat → evT} {X : Nat → Int32} {Y : Nat → Nat} {x y z : Int32} {sp pa pi pn : Nat} {v2 : evT} {Z : eg_O → Prop}
theorem fd_swpL (hH : et_H et_TT K G) (k_th : K th = some 12) (k_s0 : K s0 = some 10) (h0 : et_pl (eg_at G th) 0 = some (.ref s0)) (h8 : et_pl (eg_at G th) 8 = some (.ref sp)) (t9 : evK K e ca ki kn v.1 v.2.2.1) (hv : evc G e ca ki kn v) (t2 : evK K sp pa pi pn v2.1 v2.2.2.1) (hv2 : evc G sp pa pi pn v2) (g2 : et_pl (eg_at G s0) 2 = some (.int (Int32.ofNat nc))) (hnc : nc ≤ 20) (g3 : et_pl (eg_at G s0) 3 = some (.ref la)) (k_la : K la = some 17) (hXc : ∀ c, c < nc → et_pl (eg_at G la) c = some (.int (X c))) (hc : c ≤ nc) : et_go none (d + 4) 166 43 [some (.ref th), some (.int (Int32.ofNat n)), some (.int (Int32.ofNat m)), some (.int (Int32.ofNat k)), some (.ref e), some (.int (Int32.ofNat (dfE v v2 X c))), some (.int (Int32.ofNat c))] [] G 0 0 (fun u => u.1 = .inl (some (.int (Int32.ofNat (dfE v v2 X nc))))) := by
  have k_e := t9.1.1
  have k_sp := t2.1.1
  induction hq9 : nc - c using Nat.strongRecOn generalizing c with
  | _ q9 ih =>
    have hle := dfE_le v v2 X c
    have lt_th := (hH.2.2 _ _ k_th).1
    have lt_s0 := (hH.2.2 _ _ k_s0).1
    have lt_e := (hH.2.2 _ _ k_e).1
    have lt_sp := (hH.2.2 _ _ k_sp).1
    have lt_la := (hH.2.2 _ _ k_la).1
    refine hs_iload (i := 6) (p := 45) (by decide +kernel) rfl ?_
    refine hs_aload (i := 0) (p := 46) (by decide +kernel) rfl ?_
    refine hf_get (T := et_TT) (t := 12) (ci := 10) (f := 0) (p := 49) (by decide +kernel) rfl hH k_th h0 ?_
    refine hf_get (T := et_TT) (t := 10) (ci := 8) (f := 2) (p := 52) (by decide +kernel) rfl hH k_s0 g2 ?_
    refine hs_br2n (c := .ge) (t := 99) (f := 55) (by decide +kernel) (by omega) (by omega) (fun (c52 : nc ≤ c) => ?_) (fun (c52 : ¬ (nc ≤ c)) => ?_)
    · refine hs_iload (i := 5) (p := 101) (by decide +kernel) rfl ?_
      refine hs_iret (by decide +kernel) ?_
      obtain rfl : c = nc := by omega
      rfl
    · refine hs_aload (i := 4) (p := 57) (by decide +kernel) rfl ?_
      refine hs_aload (i := 0) (p := 58) (by decide +kernel) rfl ?_
      refine hf_get (T := et_TT) (t := 12) (ci := 10) (f := 0) (p := 61) (by decide +kernel) rfl hH k_th h0 ?_
      refine hf_get (T := et_TT) (t := 10) (ci := 8) (f := 3) (p := 64) (by decide +kernel) rfl hH k_s0 g3 ?_
      refine hs_iload (i := 6) (p := 66) (by decide +kernel) rfl ?_
      refine hf_ald (ins := .iaload) (T := et_TT) (t := 17) (kd := 0) (N := 20) (p := 67) (by decide +kernel) (fun _ _ _ _ _ _ _ _ _ _ => rfl) rfl rfl rfl hH k_la (by decide) (hXc c (by omega)) ?_
      refine ht_callv (T := et_TT) (t := 3) (mi := 32) (na := 1) (ci := 1) (lk := 7) (lm := 2) (L0 := eg_en (eg_mL 32) [.ref e, .int (X c)]) (by decide +kernel) rfl hH k_e rfl rfl rfl rfl rfl (by rw [show eg_mL 32 = 2 from by decide +kernel]; first | done | rfl) ?_
      refine (fd_says hH t9 hv (by omega)).mono (fun u hu => xp_cb hu ?_)
      by_cases q1 : v.2.2.2.2.1 < suN v.2.1 v.2.2.1 v.2.2.2.1 (X c) v.1
      · rw [if_pos q1]
        show et_go none _ 166 70 _ [.int (Int32.ofNat 1)] _ _ _ _
        refine hs_aload (i := 0) (p := 71) (by decide +kernel) rfl ?_
        refine hf_get (T := et_TT) (t := 12) (ci := 10) (f := 8) (p := 74) (by decide +kernel) rfl hH k_th h8 ?_
        refine hs_aload (i := 0) (p := 75) (by decide +kernel) rfl ?_
        refine hf_get (T := et_TT) (t := 12) (ci := 10) (f := 0) (p := 78) (by decide +kernel) rfl hH k_th h0 ?_
        refine hf_get (T := et_TT) (t := 10) (ci := 8) (f := 3) (p := 81) (by decide +kernel) rfl hH k_s0 g3 ?_
        refine hs_iload (i := 6) (p := 83) (by decide +kernel) rfl ?_
        refine hf_ald (ins := .iaload) (T := et_TT) (t := 17) (kd := 0) (N := 20) (p := 84) (by decide +kernel) (fun _ _ _ _ _ _ _ _ _ _ => rfl) rfl rfl rfl hH k_la (by decide) (hXc c (by omega)) ?_
        refine ht_callv (T := et_TT) (t := 3) (mi := 32) (na := 1) (ci := 1) (lk := 7) (lm := 2) (L0 := eg_en (eg_mL 32) [.ref sp, .int (X c)]) (by decide +kernel) rfl hH k_sp rfl rfl rfl rfl rfl (by rw [show eg_mL 32 = 2 from by decide +kernel]; first | done | rfl) ?_
        refine (fd_says hH t2 hv2 (by omega)).mono (fun u hu => xp_cb hu ?_)
        by_cases q2 : v2.2.2.2.2.1 < suN v2.2.1 v2.2.2.1 v2.2.2.2.1 (X c) v2.1
        · rw [if_pos q2]
          show et_go none _ 166 87 _ [.int (Int32.ofNat 1), .int (Int32.ofNat 1)] _ _ _ _
          refine hs_br2n (c := .eq) (t := 93) (f := 90) (by decide +kernel) (by omega) (by omega) (fun _ => ?_) (fun h => absurd (show 1 = 1 by decide) h)
          refine hs_iinc1 (i := 6) (p := 96) (by decide +kernel) rfl (Nat.le_of_ble_eq_true rfl) ?_
          refine hs_goto (p := 43) (by decide +kernel) ?_
          have e9 := dfE_y (v := v) (v2 := v2) (X := X) (c := c) (b := true) (decide_eq_true q1) (decide_eq_true q2)
          have h9 := @ih (nc - (c + 1)) (by omega) (c + 1) (by omega) rfl
          rw [e9] at h9
          exact h9
        · rw [if_neg q2]
          show et_go none _ 166 87 _ [.int (Int32.ofNat 0), .int (Int32.ofNat 1)] _ _ _ _
          refine hs_br2n (c := .eq) (t := 93) (f := 90) (by decide +kernel) (by omega) (by omega) (fun h => absurd h (show ¬ (1 = 0) by decide)) (fun _ => ?_)
          refine hs_iinc1 (i := 5) (p := 93) (by decide +kernel) rfl (Nat.le_of_ble_eq_true rfl) ?_
          refine hs_iinc1 (i := 6) (p := 96) (by decide +kernel) rfl (Nat.le_of_ble_eq_true rfl) ?_
          refine hs_goto (p := 43) (by decide +kernel) ?_
          have e9 := dfE_n (v := v) (v2 := v2) (X := X) (c := c) (b := true) (decide_eq_true q1) (decide_eq_false q2)
          have h9 := @ih (nc - (c + 1)) (by omega) (c + 1) (by omega) rfl
          rw [e9] at h9
          exact h9
      · rw [if_neg q1]
        show et_go none _ 166 70 _ [.int (Int32.ofNat 0)] _ _ _ _
        refine hs_aload (i := 0) (p := 71) (by decide +kernel) rfl ?_
        refine hf_get (T := et_TT) (t := 12) (ci := 10) (f := 8) (p := 74) (by decide +kernel) rfl hH k_th h8 ?_
        refine hs_aload (i := 0) (p := 75) (by decide +kernel) rfl ?_
        refine hf_get (T := et_TT) (t := 12) (ci := 10) (f := 0) (p := 78) (by decide +kernel) rfl hH k_th h0 ?_
        refine hf_get (T := et_TT) (t := 10) (ci := 8) (f := 3) (p := 81) (by decide +kernel) rfl hH k_s0 g3 ?_
        refine hs_iload (i := 6) (p := 83) (by decide +kernel) rfl ?_
        refine hf_ald (ins := .iaload) (T := et_TT) (t := 17) (kd := 0) (N := 20) (p := 84) (by decide +kernel) (fun _ _ _ _ _ _ _ _ _ _ => rfl) rfl rfl rfl hH k_la (by decide) (hXc c (by omega)) ?_
        refine ht_callv (T := et_TT) (t := 3) (mi := 32) (na := 1) (ci := 1) (lk := 7) (lm := 2) (L0 := eg_en (eg_mL 32) [.ref sp, .int (X c)]) (by decide +kernel) rfl hH k_sp rfl rfl rfl rfl rfl (by rw [show eg_mL 32 = 2 from by decide +kernel]; first | done | rfl) ?_
        refine (fd_says hH t2 hv2 (by omega)).mono (fun u hu => xp_cb hu ?_)
        by_cases q2 : v2.2.2.2.2.1 < suN v2.2.1 v2.2.2.1 v2.2.2.2.1 (X c) v2.1
        · rw [if_pos q2]
          show et_go none _ 166 87 _ [.int (Int32.ofNat 1), .int (Int32.ofNat 0)] _ _ _ _
          refine hs_br2n (c := .eq) (t := 93) (f := 90) (by decide +kernel) (by omega) (by omega) (fun h => absurd h (show ¬ (0 = 1) by decide)) (fun _ => ?_)
          refine hs_iinc1 (i := 5) (p := 93) (by decide +kernel) rfl (Nat.le_of_ble_eq_true rfl) ?_
          refine hs_iinc1 (i := 6) (p := 96) (by decide +kernel) rfl (Nat.le_of_ble_eq_true rfl) ?_
          refine hs_goto (p := 43) (by decide +kernel) ?_
          have e9 := dfE_n (v := v) (v2 := v2) (X := X) (c := c) (b := false) (decide_eq_false q1) (decide_eq_true q2)
          have h9 := @ih (nc - (c + 1)) (by omega) (c + 1) (by omega) rfl
          rw [e9] at h9
          exact h9
        · rw [if_neg q2]
          show et_go none _ 166 87 _ [.int (Int32.ofNat 0), .int (Int32.ofNat 0)] _ _ _ _
          refine hs_br2n (c := .eq) (t := 93) (f := 90) (by decide +kernel) (by omega) (by omega) (fun _ => ?_) (fun h => absurd (show 0 = 0 by decide) h)
          refine hs_iinc1 (i := 6) (p := 96) (by decide +kernel) rfl (Nat.le_of_ble_eq_true rfl) ?_
          refine hs_goto (p := 43) (by decide +kernel) ?_
          have e9 := dfE_y (v := v) (v2 := v2) (X := X) (c := c) (b := false) (decide_eq_false q1) (decide_eq_false q2)
          have h9 := @ih (nc - (c + 1)) (by omega) (c + 1) (by omega) rfl
          rw [e9] at h9
          exact h9
theorem fd_swp (hH : et_H et_TT K G) (k_th : K th = some 12) (h0 : et_pl (eg_at G th) 0 = some (.ref s0)) (k_s0 : K s0 = some 10) (h5 : et_pl (eg_at G s0) 5 = some (.int (Int32.ofNat ec))) (hec : ec ≤ 3) (h6 : et_pl (eg_at G s0) 6 = some (.ref ya)) (k_ya : K ya = some 40) (hn : n < ec) (hE : et_pl (eg_at G ya) n = some (.ref e)) (t9 : evK K e ca ki kn v.1 v.2.2.1) (hv : evc G e ca ki kn v) (g2 : et_pl (eg_at G s0) 2 = some (.int (Int32.ofNat nc))) (hnc : nc ≤ 20) (hcc : ccP G s0 la ly nc X Y) (k_la : K la = some 17) (k_ly : K ly = some 27) (k_sp : K sp = some 3) (k_pa : K pa = some 15) (k_pi : K pi = some 15) (k_pn : K pn = some 15) (hse : ¬ sp = e) (hp : ¬ pa = pi ∧ ¬ pa = pn ∧ ¬ pi = pn) (hq : ∀ p c, p ∈ [pa, pi, pn] → c ∈ [ca, ki, kn] → ¬ p = c) (h8 : et_pl (eg_at G th) 8 = some (.ref sp)) (a1 : et_pl (eg_at G sp) 1 = some (.ref pa)) (a2 : et_pl (eg_at G sp) 2 = some (.ref pi)) (a3 : et_pl (eg_at G sp) 3 = some (.ref pn)) (hm : m < v.1) (hk : k < v.1) (hd : 4 ≤ d2) : et_go none d2 166 0 (eg_en (eg_mL 166) [.ref th, .int (Int32.ofNat n), .int (Int32.ofNat m), .int (Int32.ofNat k)]) [] G 0 0 (fun u => u.1 = .inl (some (.int (Int32.ofNat (dfE v (vsw v m k) X nc))))) := by
  obtain ⟨d, rfl⟩ : ∃ d, d2 = d + 4 := ⟨d2 - 4, by omega⟩
  have k_e := t9.1.1
  have k_ca := t9.1.2.1
  have k_ki := t9.1.2.2.1
  have k_kn := t9.1.2.2.2
  have hw6 := t9.2.1
  have z2 : evK K sp pa pi pn v.1 v.2.2.1 := ⟨⟨k_sp, k_pa, k_pi, k_pn⟩, t9.2⟩
  have t2 : evK K sp pa pi pn (vsw v m k).1 (vsw v m k).2.2.1 := ⟨⟨k_sp, k_pa, k_pi, k_pn⟩, hw6, vsw_o hm hk t9.2.2⟩
  have hXc : ∀ c, c < nc → et_pl (eg_at G la) c = some (.int (X c)) := fun c hc => (hcc.2 c hc).1
  rw [show eg_mL 166 = 7 from by decide +kernel]
  show et_go none (d + 4) 166 0 [some (.ref th), some (.int (Int32.ofNat n)), some (.int (Int32.ofNat m)), some (.int (Int32.ofNat k)), none, none, none] [] G 0 0 _
  have g3 := hcc.1.1
  have lt_th := (hH.2.2 _ _ k_th).1
  have lt_s0 := (hH.2.2 _ _ k_s0).1
  have lt_ya := (hH.2.2 _ _ k_ya).1
  have lt_e := (hH.2.2 _ _ k_e).1
  have lt_ca := (hH.2.2 _ _ k_ca).1
  have lt_ki := (hH.2.2 _ _ k_ki).1
  have lt_kn := (hH.2.2 _ _ k_kn).1
  have lt_sp := (hH.2.2 _ _ k_sp).1
  have lt_pa := (hH.2.2 _ _ k_pa).1
  have lt_pi := (hH.2.2 _ _ k_pi).1
  have lt_pn := (hH.2.2 _ _ k_pn).1
  have lt_la := (hH.2.2 _ _ k_la).1
  refine hs_aload (i := 0) (p := 1) (by decide +kernel) rfl ?_
  refine hs_iload (i := 1) (p := 2) (by decide +kernel) rfl ?_
  refine ht_callv (T := et_TT) (t := 12) (mi := 128) (na := 1) (ci := 10) (lk := 7) (lm := 2) (L0 := eg_en (eg_mL 128) [.ref th, .int (Int32.ofNat n)]) (by decide +kernel) rfl hH k_th rfl rfl rfl rfl rfl (by rw [show eg_mL 128 = 2 from by decide +kernel]; first | done | rfl) ?_
  refine (fd_needE hH k_th h0 k_s0 h5 hec h6 k_ya hn hE).mono (fun u hu => xp_cb hu ?_)
  show et_go none _ 166 5 _ [.ref e] _ _ _ _
  refine hs_astore (i := 4) (p := 7) (by decide +kernel) (Nat.le_of_ble_eq_true rfl) ?_
  refine hs_aload (i := 4) (p := 9) (by decide +kernel) rfl ?_
  refine hs_iload (i := 2) (p := 10) (by decide +kernel) rfl ?_
  refine hs_calls (mi := 142) (na := 2) (lk := 7) (lm := 2) (L0 := eg_en (eg_mL 142) [.ref e, .int (Int32.ofNat m)]) (by decide +kernel) rfl rfl rfl rfl rfl rfl (by rw [show eg_mL 142 = 2 from by decide +kernel]; first | done | rfl) ?_
  refine (fd_needW hH k_e hv.1.1 hw6 hm).mono (fun u hu => xp_cb hu ?_)
  show et_go none _ 166 13 _ [] _ _ _ _
  refine hs_aload (i := 4) (p := 15) (by decide +kernel) rfl ?_
  refine hs_iload (i := 3) (p := 16) (by decide +kernel) rfl ?_
  refine hs_calls (mi := 142) (na := 2) (lk := 7) (lm := 2) (L0 := eg_en (eg_mL 142) [.ref e, .int (Int32.ofNat k)]) (by decide +kernel) rfl rfl rfl rfl rfl rfl (by rw [show eg_mL 142 = 2 from by decide +kernel]; first | done | rfl) ?_
  refine (fd_needW hH k_e hv.1.1 hw6 hk).mono (fun u hu => xp_cb hu ?_)
  show et_go none _ 166 19 _ [] _ _ _ _
  refine hs_aload (i := 0) (p := 20) (by decide +kernel) rfl ?_
  refine hf_get (T := et_TT) (t := 12) (ci := 10) (f := 8) (p := 23) (by decide +kernel) rfl hH k_th h8 ?_
  refine hs_aload (i := 4) (p := 25) (by decide +kernel) rfl ?_
  refine ht_callv (T := et_TT) (t := 3) (mi := 35) (na := 1) (ci := 1) (lk := 7) (lm := 3) (L0 := eg_en (eg_mL 35) [.ref sp, .ref e]) (by decide +kernel) rfl hH k_sp rfl rfl rfl rfl rfl (by rw [show eg_mL 35 = 3 from by decide +kernel]; first | done | rfl) ?_
  refine fd_takeV (v := v) hH t9 hv k_sp k_pa k_pi k_pn hse hp hq a1 a2 a3 (fun G25 hH x25 z5 => ?_)
  have hXc : ∀ c, c < nc → et_pl (eg_at G25 la) c = some (.int (X c)) := fun c hc => (x25.2 la c lt_la (fun h => by rcases h with ⟨h, -⟩ | ⟨h, -⟩ | ⟨h, -⟩ | ⟨h, -⟩; exact hi_ne k_la k_sp (by decide) h; exact hi_ne k_la k_pa (by decide) h; exact hi_ne k_la k_pi (by decide) h; exact hi_ne k_la k_pn (by decide) h)).trans (hXc c hc)
  have hv := evc.mv hv (fun j => x25.2 e j lt_e (fun h => by rcases h with ⟨h, -⟩ | ⟨h, -⟩ | ⟨h, -⟩ | ⟨h, -⟩; exact hse h.symm; exact hi_ne k_e k_pa (by decide) h; exact hi_ne k_e k_pi (by decide) h; exact hi_ne k_e k_pn (by decide) h)) (fun j => x25.2 ca j lt_ca (fun h => by rcases h with ⟨h, -⟩ | ⟨h, -⟩ | ⟨h, -⟩ | ⟨h, -⟩; exact hi_ne k_ca k_sp (by decide) h; exact hq pa ca (by simp) (by simp) h.symm; exact hq pi ca (by simp) (by simp) h.symm; exact hq pn ca (by simp) (by simp) h.symm)) (fun j => x25.2 ki j lt_ki (fun h => by rcases h with ⟨h, -⟩ | ⟨h, -⟩ | ⟨h, -⟩ | ⟨h, -⟩; exact hi_ne k_ki k_sp (by decide) h; exact hq pa ki (by simp) (by simp) h.symm; exact hq pi ki (by simp) (by simp) h.symm; exact hq pn ki (by simp) (by simp) h.symm)) (fun j => x25.2 kn j lt_kn (fun h => by rcases h with ⟨h, -⟩ | ⟨h, -⟩ | ⟨h, -⟩ | ⟨h, -⟩; exact hi_ne k_kn k_sp (by decide) h; exact hq pa kn (by simp) (by simp) h.symm; exact hq pi kn (by simp) (by simp) h.symm; exact hq pn kn (by simp) (by simp) h.symm))
  have h0 := (x25.2 th 0 lt_th (fun h => Or.elim h (fun h => (hi_ne k_th k_sp (by decide)) h.1) (fun h => Or.elim h (fun h => (hi_ne k_th k_pa (by decide)) h.1) (fun h => Or.elim h (fun h => (hi_ne k_th k_pi (by decide)) h.1) (fun h => (hi_ne k_th k_pn (by decide)) h.1))))).trans h0
  have h5 := (x25.2 s0 5 lt_s0 (fun h => Or.elim h (fun h => (hi_ne k_s0 k_sp (by decide)) h.1) (fun h => Or.elim h (fun h => (hi_ne k_s0 k_pa (by decide)) h.1) (fun h => Or.elim h (fun h => (hi_ne k_s0 k_pi (by decide)) h.1) (fun h => (hi_ne k_s0 k_pn (by decide)) h.1))))).trans h5
  have h6 := (x25.2 s0 6 lt_s0 (fun h => Or.elim h (fun h => (hi_ne k_s0 k_sp (by decide)) h.1) (fun h => Or.elim h (fun h => (hi_ne k_s0 k_pa (by decide)) h.1) (fun h => Or.elim h (fun h => (hi_ne k_s0 k_pi (by decide)) h.1) (fun h => (hi_ne k_s0 k_pn (by decide)) h.1))))).trans h6
  have hE := (x25.2 ya n lt_ya (fun h => Or.elim h (fun h => (hi_ne k_ya k_sp (by decide)) h.1) (fun h => Or.elim h (fun h => (hi_ne k_ya k_pa (by decide)) h.1) (fun h => Or.elim h (fun h => (hi_ne k_ya k_pi (by decide)) h.1) (fun h => (hi_ne k_ya k_pn (by decide)) h.1))))).trans hE
  have g2 := (x25.2 s0 2 lt_s0 (fun h => Or.elim h (fun h => (hi_ne k_s0 k_sp (by decide)) h.1) (fun h => Or.elim h (fun h => (hi_ne k_s0 k_pa (by decide)) h.1) (fun h => Or.elim h (fun h => (hi_ne k_s0 k_pi (by decide)) h.1) (fun h => (hi_ne k_s0 k_pn (by decide)) h.1))))).trans g2
  have g3 := (x25.2 s0 3 lt_s0 (fun h => Or.elim h (fun h => (hi_ne k_s0 k_sp (by decide)) h.1) (fun h => Or.elim h (fun h => (hi_ne k_s0 k_pa (by decide)) h.1) (fun h => Or.elim h (fun h => (hi_ne k_s0 k_pi (by decide)) h.1) (fun h => (hi_ne k_s0 k_pn (by decide)) h.1))))).trans g3
  have h8 := (x25.2 th 8 lt_th (fun h => Or.elim h (fun h => (hi_ne k_th k_sp (by decide)) h.1) (fun h => Or.elim h (fun h => (hi_ne k_th k_pa (by decide)) h.1) (fun h => Or.elim h (fun h => (hi_ne k_th k_pi (by decide)) h.1) (fun h => (hi_ne k_th k_pn (by decide)) h.1))))).trans h8
  have lt_th := Nat.lt_of_lt_of_le lt_th x25.1
  have lt_s0 := Nat.lt_of_lt_of_le lt_s0 x25.1
  have lt_ya := Nat.lt_of_lt_of_le lt_ya x25.1
  have lt_e := Nat.lt_of_lt_of_le lt_e x25.1
  have lt_ca := Nat.lt_of_lt_of_le lt_ca x25.1
  have lt_ki := Nat.lt_of_lt_of_le lt_ki x25.1
  have lt_kn := Nat.lt_of_lt_of_le lt_kn x25.1
  have lt_sp := Nat.lt_of_lt_of_le lt_sp x25.1
  have lt_pa := Nat.lt_of_lt_of_le lt_pa x25.1
  have lt_pi := Nat.lt_of_lt_of_le lt_pi x25.1
  have lt_pn := Nat.lt_of_lt_of_le lt_pn x25.1
  have lt_la := Nat.lt_of_lt_of_le lt_la x25.1
  refine hs_cb ?_
  show et_go none _ 166 28 _ [] _ _ _ _
  refine hs_aload (i := 0) (p := 29) (by decide +kernel) rfl ?_
  refine hf_get (T := et_TT) (t := 12) (ci := 10) (f := 8) (p := 32) (by decide +kernel) rfl hH k_th h8 ?_
  refine hs_iload (i := 2) (p := 33) (by decide +kernel) rfl ?_
  refine hs_iload (i := 3) (p := 34) (by decide +kernel) rfl ?_
  refine ht_callv (T := et_TT) (t := 3) (mi := 50) (na := 2) (ci := 1) (lk := 7) (lm := 5) (L0 := eg_en (eg_mL 50) [.ref sp, .int (Int32.ofNat m), .int (Int32.ofNat k)]) (by decide +kernel) rfl hH k_sp rfl rfl rfl rfl rfl (by rw [show eg_mL 50 = 5 from by decide +kernel]; first | done | rfl) ?_
  refine fd_swap hH z2 ⟨fun q => hp.2.1 q.symm, fun q => hp.2.2 q.symm⟩ hp.1 z5 hm hk (fun G34 hH x34 z6 => ?_)
  have hXc : ∀ c, c < nc → et_pl (eg_at G34 la) c = some (.int (X c)) := fun c hc => (x34.2 la c lt_la (fun h => by rcases h with ⟨h, -⟩ | ⟨h, -⟩; exact hi_ne k_la k_pa (by decide) h; exact hi_ne k_la k_pi (by decide) h)).trans (hXc c hc)
  have hv := evc.mv hv (fun j => x34.2 e j lt_e (fun h => by rcases h with ⟨h, -⟩ | ⟨h, -⟩; exact hi_ne k_e k_pa (by decide) h; exact hi_ne k_e k_pi (by decide) h)) (fun j => x34.2 ca j lt_ca (fun h => by rcases h with ⟨h, -⟩ | ⟨h, -⟩; exact hq pa ca (by simp) (by simp) h.symm; exact hq pi ca (by simp) (by simp) h.symm)) (fun j => x34.2 ki j lt_ki (fun h => by rcases h with ⟨h, -⟩ | ⟨h, -⟩; exact hq pa ki (by simp) (by simp) h.symm; exact hq pi ki (by simp) (by simp) h.symm)) (fun j => x34.2 kn j lt_kn (fun h => by rcases h with ⟨h, -⟩ | ⟨h, -⟩; exact hq pa kn (by simp) (by simp) h.symm; exact hq pi kn (by simp) (by simp) h.symm))
  have h0 := (x34.2 th 0 lt_th (fun h => Or.elim h (fun h => (hi_ne k_th k_pa (by decide)) h.1) (fun h => (hi_ne k_th k_pi (by decide)) h.1))).trans h0
  have h5 := (x34.2 s0 5 lt_s0 (fun h => Or.elim h (fun h => (hi_ne k_s0 k_pa (by decide)) h.1) (fun h => (hi_ne k_s0 k_pi (by decide)) h.1))).trans h5
  have h6 := (x34.2 s0 6 lt_s0 (fun h => Or.elim h (fun h => (hi_ne k_s0 k_pa (by decide)) h.1) (fun h => (hi_ne k_s0 k_pi (by decide)) h.1))).trans h6
  have hE := (x34.2 ya n lt_ya (fun h => Or.elim h (fun h => (hi_ne k_ya k_pa (by decide)) h.1) (fun h => (hi_ne k_ya k_pi (by decide)) h.1))).trans hE
  have g2 := (x34.2 s0 2 lt_s0 (fun h => Or.elim h (fun h => (hi_ne k_s0 k_pa (by decide)) h.1) (fun h => (hi_ne k_s0 k_pi (by decide)) h.1))).trans g2
  have g3 := (x34.2 s0 3 lt_s0 (fun h => Or.elim h (fun h => (hi_ne k_s0 k_pa (by decide)) h.1) (fun h => (hi_ne k_s0 k_pi (by decide)) h.1))).trans g3
  have h8 := (x34.2 th 8 lt_th (fun h => Or.elim h (fun h => (hi_ne k_th k_pa (by decide)) h.1) (fun h => (hi_ne k_th k_pi (by decide)) h.1))).trans h8
  have lt_th := Nat.lt_of_lt_of_le lt_th x34.1
  have lt_s0 := Nat.lt_of_lt_of_le lt_s0 x34.1
  have lt_ya := Nat.lt_of_lt_of_le lt_ya x34.1
  have lt_e := Nat.lt_of_lt_of_le lt_e x34.1
  have lt_ca := Nat.lt_of_lt_of_le lt_ca x34.1
  have lt_ki := Nat.lt_of_lt_of_le lt_ki x34.1
  have lt_kn := Nat.lt_of_lt_of_le lt_kn x34.1
  have lt_sp := Nat.lt_of_lt_of_le lt_sp x34.1
  have lt_pa := Nat.lt_of_lt_of_le lt_pa x34.1
  have lt_pi := Nat.lt_of_lt_of_le lt_pi x34.1
  have lt_pn := Nat.lt_of_lt_of_le lt_pn x34.1
  have lt_la := Nat.lt_of_lt_of_le lt_la x34.1
  refine hs_cb ?_
  show et_go none _ 166 37 _ [] _ _ _ _
  refine hs_k (x := Int32.ofNat 0) (p := 38) (by decide +kernel) ?_
  refine hs_istore (i := 5) (p := 40) (by decide +kernel) (Nat.le_of_ble_eq_true rfl) ?_
  refine hs_k (x := Int32.ofNat 0) (p := 41) (by decide +kernel) ?_
  refine hs_istore (i := 6) (p := 43) (by decide +kernel) (Nat.le_of_ble_eq_true rfl) ?_
  exact fd_swpL (c := 0) (v2 := (vsw v m k)) hH k_th k_s0 h0 h8 t9 hv t2 z6 g2 hnc g3 k_la hXc (Nat.zero_le _)
theorem fd_swpB (hH : et_H et_TT K G) (k_th : K th = some 12) (h0 : et_pl (eg_at G th) 0 = some (.ref s0)) (k_s0 : K s0 = some 10) (h5 : et_pl (eg_at G s0) 5 = some (.int (Int32.ofNat ec))) (hec : ec ≤ 3) (h6 : et_pl (eg_at G s0) 6 = some (.ref ya)) (k_ya : K ya = some 40) (hn : n < ec) (hE : et_pl (eg_at G ya) n = some (.ref e)) (t9 : evK K e ca ki kn v.1 v.2.2.1) (hv : evc G e ca ki kn v) (hm : m < v.1) (hz : ¬ xr z v.1) (hd : 4 ≤ d2) : et_go none d2 166 0 (eg_en (eg_mL 166) [.ref th, .int (Int32.ofNat n), .int (Int32.ofNat m), .int z]) [] G 0 0 (ix_Z 1 G) := by
  obtain ⟨d, rfl⟩ : ∃ d, d2 = d + 4 := ⟨d2 - 4, by omega⟩
  have k_e := t9.1.1
  have hw6 := t9.2.1
  rw [show eg_mL 166 = 7 from by decide +kernel]
  show et_go none (d + 4) 166 0 [some (.ref th), some (.int (Int32.ofNat n)), some (.int (Int32.ofNat m)), some (.int z), none, none, none] [] G 0 0 _
  have lt_th := (hH.2.2 _ _ k_th).1
  have lt_s0 := (hH.2.2 _ _ k_s0).1
  have lt_ya := (hH.2.2 _ _ k_ya).1
  have lt_e := (hH.2.2 _ _ k_e).1
  refine hs_aload (i := 0) (p := 1) (by decide +kernel) rfl ?_
  refine hs_iload (i := 1) (p := 2) (by decide +kernel) rfl ?_
  refine ht_callv (T := et_TT) (t := 12) (mi := 128) (na := 1) (ci := 10) (lk := 7) (lm := 2) (L0 := eg_en (eg_mL 128) [.ref th, .int (Int32.ofNat n)]) (by decide +kernel) rfl hH k_th rfl rfl rfl rfl rfl (by rw [show eg_mL 128 = 2 from by decide +kernel]; first | done | rfl) ?_
  refine (fd_needE hH k_th h0 k_s0 h5 hec h6 k_ya hn hE).mono (fun u hu => xp_cb hu ?_)
  show et_go none _ 166 5 _ [.ref e] _ _ _ _
  refine hs_astore (i := 4) (p := 7) (by decide +kernel) (Nat.le_of_ble_eq_true rfl) ?_
  refine hs_aload (i := 4) (p := 9) (by decide +kernel) rfl ?_
  refine hs_iload (i := 2) (p := 10) (by decide +kernel) rfl ?_
  refine hs_calls (mi := 142) (na := 2) (lk := 7) (lm := 2) (L0 := eg_en (eg_mL 142) [.ref e, .int (Int32.ofNat m)]) (by decide +kernel) rfl rfl rfl rfl rfl rfl (by rw [show eg_mL 142 = 2 from by decide +kernel]; first | done | rfl) ?_
  refine (fd_needW hH k_e hv.1.1 hw6 hm).mono (fun u hu => xp_cb hu ?_)
  show et_go none _ 166 13 _ [] _ _ _ _
  refine hs_aload (i := 4) (p := 15) (by decide +kernel) rfl ?_
  refine hs_iload (i := 3) (p := 16) (by decide +kernel) rfl ?_
  refine hs_calls (mi := 142) (na := 2) (lk := 7) (lm := 2) (L0 := eg_en (eg_mL 142) [.ref e, .int z]) (by decide +kernel) rfl rfl rfl rfl rfl rfl (by rw [show eg_mL 142 = 2 from by decide +kernel]; first | done | rfl) ?_
  refine (fd_needWn hH k_e hv.1.1 hw6 hz).mono (fun u hu => ?_)
  obtain ⟨c16, s16, rfl⟩ := hu
  refine hf_cx (by decide +kernel) ?_
  exact ⟨_, _, rfl⟩
theorem fh_swpB (hH : et_H et_TT K G) (k_th : K th = some 12) (h0 : et_pl (eg_at G th) 0 = some (.ref s0)) (k_s0 : K s0 = some 10) (h5 : et_pl (eg_at G s0) 5 = some (.int (Int32.ofNat ec))) (hec : ec ≤ 3) (h6 : et_pl (eg_at G s0) 6 = some (.ref ya)) (k_ya : K ya = some 40) (hn : n < ec) (hE : et_pl (eg_at G ya) n = some (.ref e)) (t9 : evK K e ca ki kn v.1 v.2.2.1) (hv : evc G e ca ki kn v) (hm : m < v.1) (hz : ¬ xr z v.1) (hd : 5 ≤ d2) : et_go none d2 25 0 (eg_en (eg_mL 25) [.ref th, .int (Int32.ofNat n), .int (Int32.ofNat m), .int z, .ref out]) [] G 0 0 (fun u => u.1 = .inl (some (.int (Int32.ofNat 1))) ∧ u.2.1 = G) := by
  obtain ⟨d, rfl⟩ : ∃ d, d2 = d + 5 := ⟨d2 - 5, by omega⟩
  rw [show eg_mL 25 = 6 from by decide +kernel]
  show et_go none (d + 5) 25 0 [some (.ref th), some (.int (Int32.ofNat n)), some (.int (Int32.ofNat m)), some (.int z), some (.ref out), none] [] G 0 0 _
  have lt_th := (hH.2.2 _ _ k_th).1
  refine hs_aload (i := 4) (p := 2) (by decide +kernel) rfl ?_
  refine hs_k (x := Int32.ofNat 0) (p := 3) (by decide +kernel) ?_
  refine hs_aload (i := 0) (p := 4) (by decide +kernel) rfl ?_
  refine hs_iload (i := 1) (p := 5) (by decide +kernel) rfl ?_
  refine hs_iload (i := 2) (p := 6) (by decide +kernel) rfl ?_
  refine hs_iload (i := 3) (p := 7) (by decide +kernel) rfl ?_
  refine ht_callv (T := et_TT) (t := 12) (mi := 166) (na := 3) (ci := 10) (lk := 6) (lm := 7) (L0 := eg_en (eg_mL 166) [.ref th, .int (Int32.ofNat n), .int (Int32.ofNat m), .int z]) (by decide +kernel) rfl hH k_th rfl rfl rfl rfl rfl (by rw [show eg_mL 166 = 7 from by decide +kernel]; first | done | rfl) ?_
  refine (fd_swpB hH k_th h0 k_s0 h5 hec h6 k_ya hn hE t9 hv hm hz (by omega)).mono (fun u hu => ?_)
  obtain ⟨c7, s7, rfl⟩ := hu
  refine hs_ch (h := 15) (i := 5) (n := 2) (hh := (eg_mh 25).getD []) (by decide +kernel) ⟨by decide +kernel, by decide +kernel⟩ (Nat.le_of_ble_eq_true rfl) ?_
  show et_go none _ 25 17 [some (.ref th), some (.int (Int32.ofNat n)), some (.int (Int32.ofNat m)), some (.int z), some (.ref out), none] [] _ _ _ _
  refine hs_k (x := Int32.ofNat 1) (p := 18) (by decide +kernel) ?_
  refine hs_iret (by decide +kernel) ?_
  exact ⟨rfl, rfl⟩
theorem fd_swpC (hH : et_H et_TT K G) (k_th : K th = some 12) (h0 : et_pl (eg_at G th) 0 = some (.ref s0)) (k_s0 : K s0 = some 10) (h5 : et_pl (eg_at G s0) 5 = some (.int (Int32.ofNat ec))) (hec : ec ≤ 3) (h6 : et_pl (eg_at G s0) 6 = some (.ref ya)) (k_ya : K ya = some 40) (hn : n < ec) (hE : et_pl (eg_at G ya) n = some (.ref e)) (t9 : evK K e ca ki kn v.1 v.2.2.1) (hv : evc G e ca ki kn v) (hy : ¬ xr y v.1) (hd : 4 ≤ d2) : et_go none d2 166 0 (eg_en (eg_mL 166) [.ref th, .int (Int32.ofNat n), .int y, .int z]) [] G 0 0 (ix_Z 1 G) := by
  obtain ⟨d, rfl⟩ : ∃ d, d2 = d + 4 := ⟨d2 - 4, by omega⟩
  have k_e := t9.1.1
  have hw6 := t9.2.1
  rw [show eg_mL 166 = 7 from by decide +kernel]
  show et_go none (d + 4) 166 0 [some (.ref th), some (.int (Int32.ofNat n)), some (.int y), some (.int z), none, none, none] [] G 0 0 _
  have lt_th := (hH.2.2 _ _ k_th).1
  have lt_s0 := (hH.2.2 _ _ k_s0).1
  have lt_ya := (hH.2.2 _ _ k_ya).1
  have lt_e := (hH.2.2 _ _ k_e).1
  refine hs_aload (i := 0) (p := 1) (by decide +kernel) rfl ?_
  refine hs_iload (i := 1) (p := 2) (by decide +kernel) rfl ?_
  refine ht_callv (T := et_TT) (t := 12) (mi := 128) (na := 1) (ci := 10) (lk := 7) (lm := 2) (L0 := eg_en (eg_mL 128) [.ref th, .int (Int32.ofNat n)]) (by decide +kernel) rfl hH k_th rfl rfl rfl rfl rfl (by rw [show eg_mL 128 = 2 from by decide +kernel]; first | done | rfl) ?_
  refine (fd_needE hH k_th h0 k_s0 h5 hec h6 k_ya hn hE).mono (fun u hu => xp_cb hu ?_)
  show et_go none _ 166 5 _ [.ref e] _ _ _ _
  refine hs_astore (i := 4) (p := 7) (by decide +kernel) (Nat.le_of_ble_eq_true rfl) ?_
  refine hs_aload (i := 4) (p := 9) (by decide +kernel) rfl ?_
  refine hs_iload (i := 2) (p := 10) (by decide +kernel) rfl ?_
  refine hs_calls (mi := 142) (na := 2) (lk := 7) (lm := 2) (L0 := eg_en (eg_mL 142) [.ref e, .int y]) (by decide +kernel) rfl rfl rfl rfl rfl rfl (by rw [show eg_mL 142 = 2 from by decide +kernel]; first | done | rfl) ?_
  refine (fd_needWn hH k_e hv.1.1 hw6 hy).mono (fun u hu => ?_)
  obtain ⟨c10, s10, rfl⟩ := hu
  refine hf_cx (by decide +kernel) ?_
  exact ⟨_, _, rfl⟩
theorem fh_swpC (hH : et_H et_TT K G) (k_th : K th = some 12) (h0 : et_pl (eg_at G th) 0 = some (.ref s0)) (k_s0 : K s0 = some 10) (h5 : et_pl (eg_at G s0) 5 = some (.int (Int32.ofNat ec))) (hec : ec ≤ 3) (h6 : et_pl (eg_at G s0) 6 = some (.ref ya)) (k_ya : K ya = some 40) (hn : n < ec) (hE : et_pl (eg_at G ya) n = some (.ref e)) (t9 : evK K e ca ki kn v.1 v.2.2.1) (hv : evc G e ca ki kn v) (hy : ¬ xr y v.1) (hd : 5 ≤ d2) : et_go none d2 25 0 (eg_en (eg_mL 25) [.ref th, .int (Int32.ofNat n), .int y, .int z, .ref out]) [] G 0 0 (fun u => u.1 = .inl (some (.int (Int32.ofNat 1))) ∧ u.2.1 = G) := by
  obtain ⟨d, rfl⟩ : ∃ d, d2 = d + 5 := ⟨d2 - 5, by omega⟩
  rw [show eg_mL 25 = 6 from by decide +kernel]
  show et_go none (d + 5) 25 0 [some (.ref th), some (.int (Int32.ofNat n)), some (.int y), some (.int z), some (.ref out), none] [] G 0 0 _
  have lt_th := (hH.2.2 _ _ k_th).1
  refine hs_aload (i := 4) (p := 2) (by decide +kernel) rfl ?_
  refine hs_k (x := Int32.ofNat 0) (p := 3) (by decide +kernel) ?_
  refine hs_aload (i := 0) (p := 4) (by decide +kernel) rfl ?_
  refine hs_iload (i := 1) (p := 5) (by decide +kernel) rfl ?_
  refine hs_iload (i := 2) (p := 6) (by decide +kernel) rfl ?_
  refine hs_iload (i := 3) (p := 7) (by decide +kernel) rfl ?_
  refine ht_callv (T := et_TT) (t := 12) (mi := 166) (na := 3) (ci := 10) (lk := 6) (lm := 7) (L0 := eg_en (eg_mL 166) [.ref th, .int (Int32.ofNat n), .int y, .int z]) (by decide +kernel) rfl hH k_th rfl rfl rfl rfl rfl (by rw [show eg_mL 166 = 7 from by decide +kernel]; first | done | rfl) ?_
  refine (fd_swpC hH k_th h0 k_s0 h5 hec h6 k_ya hn hE t9 hv hy (by omega)).mono (fun u hu => ?_)
  obtain ⟨c7, s7, rfl⟩ := hu
  refine hs_ch (h := 15) (i := 5) (n := 2) (hh := (eg_mh 25).getD []) (by decide +kernel) ⟨by decide +kernel, by decide +kernel⟩ (Nat.le_of_ble_eq_true rfl) ?_
  show et_go none _ 25 17 [some (.ref th), some (.int (Int32.ofNat n)), some (.int y), some (.int z), some (.ref out), none] [] _ _ _ _
  refine hs_k (x := Int32.ofNat 1) (p := 18) (by decide +kernel) ?_
  refine hs_iret (by decide +kernel) ?_
  exact ⟨rfl, rfl⟩
theorem fd_swpE (hH : et_H et_TT K G) (k_th : K th = some 12) (h0 : et_pl (eg_at G th) 0 = some (.ref s0)) (k_s0 : K s0 = some 10) (h5 : et_pl (eg_at G s0) 5 = some (.int (Int32.ofNat ec))) (hec : ec ≤ 3) (h6 : et_pl (eg_at G s0) 6 = some (.ref ya)) (k_ya : K ya = some 40) (hx : ¬ xr x ec) (hd : 4 ≤ d2) : et_go none d2 166 0 (eg_en (eg_mL 166) [.ref th, .int x, .int y, .int z]) [] G 0 0 (ix_Z 1 G) := by
  obtain ⟨d, rfl⟩ : ∃ d, d2 = d + 4 := ⟨d2 - 4, by omega⟩
  rw [show eg_mL 166 = 7 from by decide +kernel]
  show et_go none (d + 4) 166 0 [some (.ref th), some (.int x), some (.int y), some (.int z), none, none, none] [] G 0 0 _
  have lt_th := (hH.2.2 _ _ k_th).1
  have lt_s0 := (hH.2.2 _ _ k_s0).1
  have lt_ya := (hH.2.2 _ _ k_ya).1
  refine hs_aload (i := 0) (p := 1) (by decide +kernel) rfl ?_
  refine hs_iload (i := 1) (p := 2) (by decide +kernel) rfl ?_
  refine ht_callv (T := et_TT) (t := 12) (mi := 128) (na := 1) (ci := 10) (lk := 7) (lm := 2) (L0 := eg_en (eg_mL 128) [.ref th, .int x]) (by decide +kernel) rfl hH k_th rfl rfl rfl rfl rfl (by rw [show eg_mL 128 = 2 from by decide +kernel]; first | done | rfl) ?_
  refine (fd_needEn hH k_th h0 k_s0 h5 hec h6 k_ya hx).mono (fun u hu => ?_)
  obtain ⟨c2, s2, rfl⟩ := hu
  refine hf_cx (by decide +kernel) ?_
  exact ⟨_, _, rfl⟩
theorem fh_swpE (hH : et_H et_TT K G) (k_th : K th = some 12) (h0 : et_pl (eg_at G th) 0 = some (.ref s0)) (k_s0 : K s0 = some 10) (h5 : et_pl (eg_at G s0) 5 = some (.int (Int32.ofNat ec))) (hec : ec ≤ 3) (h6 : et_pl (eg_at G s0) 6 = some (.ref ya)) (k_ya : K ya = some 40) (hx : ¬ xr x ec) (hd : 5 ≤ d2) : et_go none d2 25 0 (eg_en (eg_mL 25) [.ref th, .int x, .int y, .int z, .ref out]) [] G 0 0 (fun u => u.1 = .inl (some (.int (Int32.ofNat 1))) ∧ u.2.1 = G) := by
  obtain ⟨d, rfl⟩ : ∃ d, d2 = d + 5 := ⟨d2 - 5, by omega⟩
  rw [show eg_mL 25 = 6 from by decide +kernel]
  show et_go none (d + 5) 25 0 [some (.ref th), some (.int x), some (.int y), some (.int z), some (.ref out), none] [] G 0 0 _
  have lt_th := (hH.2.2 _ _ k_th).1
  refine hs_aload (i := 4) (p := 2) (by decide +kernel) rfl ?_
  refine hs_k (x := Int32.ofNat 0) (p := 3) (by decide +kernel) ?_
  refine hs_aload (i := 0) (p := 4) (by decide +kernel) rfl ?_
  refine hs_iload (i := 1) (p := 5) (by decide +kernel) rfl ?_
  refine hs_iload (i := 2) (p := 6) (by decide +kernel) rfl ?_
  refine hs_iload (i := 3) (p := 7) (by decide +kernel) rfl ?_
  refine ht_callv (T := et_TT) (t := 12) (mi := 166) (na := 3) (ci := 10) (lk := 6) (lm := 7) (L0 := eg_en (eg_mL 166) [.ref th, .int x, .int y, .int z]) (by decide +kernel) rfl hH k_th rfl rfl rfl rfl rfl (by rw [show eg_mL 166 = 7 from by decide +kernel]; first | done | rfl) ?_
  refine (fd_swpE hH k_th h0 k_s0 h5 hec h6 k_ya hx (by omega)).mono (fun u hu => ?_)
  obtain ⟨c7, s7, rfl⟩ := hu
  refine hs_ch (h := 15) (i := 5) (n := 2) (hh := (eg_mh 25).getD []) (by decide +kernel) ⟨by decide +kernel, by decide +kernel⟩ (Nat.le_of_ble_eq_true rfl) ?_
  show et_go none _ 25 17 [some (.ref th), some (.int x), some (.int y), some (.int z), some (.ref out), none] [] _ _ _ _
  refine hs_k (x := Int32.ofNat 1) (p := 18) (by decide +kernel) ?_
  refine hs_iret (by decide +kernel) ?_
  exact ⟨rfl, rfl⟩
theorem fh_swp (hH : et_H et_TT K G) (k_th : K th = some 12) (h0 : et_pl (eg_at G th) 0 = some (.ref s0)) (k_s0 : K s0 = some 10) (h5 : et_pl (eg_at G s0) 5 = some (.int (Int32.ofNat ec))) (hec : ec ≤ 3) (h6 : et_pl (eg_at G s0) 6 = some (.ref ya)) (k_ya : K ya = some 40) (hn : n < ec) (hE : et_pl (eg_at G ya) n = some (.ref e)) (t9 : evK K e ca ki kn v.1 v.2.2.1) (hv : evc G e ca ki kn v) (g2 : et_pl (eg_at G s0) 2 = some (.int (Int32.ofNat nc))) (hnc : nc ≤ 20) (hcc : ccP G s0 la ly nc X Y) (k_la : K la = some 17) (k_ly : K ly = some 27) (k_sp : K sp = some 3) (k_pa : K pa = some 15) (k_pi : K pi = some 15) (k_pn : K pn = some 15) (hse : ¬ sp = e) (hp : ¬ pa = pi ∧ ¬ pa = pn ∧ ¬ pi = pn) (hq : ∀ p c, p ∈ [pa, pi, pn] → c ∈ [ca, ki, kn] → ¬ p = c) (h8 : et_pl (eg_at G th) 8 = some (.ref sp)) (a1 : et_pl (eg_at G sp) 1 = some (.ref pa)) (a2 : et_pl (eg_at G sp) 2 = some (.ref pi)) (a3 : et_pl (eg_at G sp) 3 = some (.ref pn)) (k_out : K out = some 31) (hm : m < v.1) (hk : k < v.1) (hd : 6 ≤ d2) : et_go none d2 25 0 (eg_en (eg_mL 25) [.ref th, .int (Int32.ofNat n), .int (Int32.ofNat m), .int (Int32.ofNat k), .ref out]) [] G 0 0 (fun u => u.1 = .inl (some (.int (Int32.ofNat 0))) ∧ et_pl (eg_at u.2.1 out) 0 = some (.long (Int32.ofNat (dfE v (vsw v m k) X nc)).toInt64)) := by
  obtain ⟨d, rfl⟩ : ∃ d, d2 = d + 6 := ⟨d2 - 6, by omega⟩
  rw [show eg_mL 25 = 6 from by decide +kernel]
  show et_go none (d + 6) 25 0 [some (.ref th), some (.int (Int32.ofNat n)), some (.int (Int32.ofNat m)), some (.int (Int32.ofNat k)), some (.ref out), none] [] G 0 0 _
  refine hs_aload (i := 4) (p := 2) (by decide +kernel) rfl ?_
  refine hs_k (x := Int32.ofNat 0) (p := 3) (by decide +kernel) ?_
  refine hs_aload (i := 0) (p := 4) (by decide +kernel) rfl ?_
  refine hs_iload (i := 1) (p := 5) (by decide +kernel) rfl ?_
  refine hs_iload (i := 2) (p := 6) (by decide +kernel) rfl ?_
  refine hs_iload (i := 3) (p := 7) (by decide +kernel) rfl ?_
  refine ht_callv (T := et_TT) (t := 12) (mi := 166) (na := 3) (ci := 10) (lk := 6) (lm := 7) (L0 := eg_en (eg_mL 166) [.ref th, .int (Int32.ofNat n), .int (Int32.ofNat m), .int (Int32.ofNat k)]) (by decide +kernel) rfl hH k_th rfl rfl rfl rfl rfl (by rw [show eg_mL 166 = 7 from by decide +kernel]; first | done | rfl) ?_
  refine ((ek_p166_ok (K, [], G) [.ref th, .int (Int32.ofNat n), .int (Int32.ofNat m), .int (Int32.ofNat k)] _ hH (by show 5 ≤ _; omega) rfl (ht_ac (.inr ⟨by decide, _, rfl, k_th⟩) (ht_ac hi_any (ht_ac hi_any (ht_ac hi_any ht_an))))).and (fd_swp hH k_th h0 k_s0 h5 hec h6 k_ya hn hE t9 hv g2 hnc hcc k_la k_ly k_sp k_pa k_pi k_pn hse hp hq h8 a1 a2 a3 hm hk (by omega))).mono (fun u hu => ?_)
  obtain ⟨⟨es, hes, K1, hx1, hf1, hH1, hv1, -, -⟩, hz⟩ := hu
  obtain ⟨u1, u2, u3, u4⟩ := u
  have hz : u1 = .inl (some (.int (Int32.ofNat (dfE v (vsw v m k) X nc)))) := hz
  subst hz
  rcases List.mem_cons.mp hes with rfl | hes
  · have hH := hH1
    have k_out := hx1 _ _ k_out
    refine hs_cb ?_
    show et_go none _ 25 10 _ [.int (Int32.ofNat (dfE v (vsw v m k) X nc)), .int (Int32.ofNat 0), .ref out] _ _ _ _
    refine hs_i2l (p := 11) (by decide +kernel) ?_
    refine hf_lst (T := et_TT) (t := 31) (N := 1) (p := 12) (by decide +kernel) rfl rfl hH k_out (by omega) (by decide) (fun G11 hH x11 e11 => ?_)
    refine hs_goto (p := 19) (by decide +kernel) ?_
    refine hs_k (x := Int32.ofNat 0) (p := 20) (by decide +kernel) ?_
    refine hs_iret (by decide +kernel) ?_
    exact ⟨rfl, e11⟩
  · obtain rfl := List.mem_singleton.mp hes
    have hv1 : (Sum.inl (some (Value.int (Int32.ofNat (dfE v (vsw v m k) X nc)))) : eg_R) = .inr 1 := hv1
    cases hv1
theorem fz_swp (hH : et_H et_TT K G) (k_th : K th = some 12) (h0 : et_pl (eg_at G th) 0 = some (.ref s0)) (k_s0 : K s0 = some 10) (k_s1 : K s1 = some 10) (h5 : et_pl (eg_at G s0) 5 = some (.int (Int32.ofNat ec))) (hec : ec ≤ 3) (t : ezK K ya yb O A) (hz : ez G th s0 s1 ya yb O A V) (ho : ∀ n, n < 6 → evo (V n)) (g2 : et_pl (eg_at G s0) 2 = some (.int (Int32.ofNat nc))) (hnc : nc ≤ 20) (hcc : ccP G s0 la ly nc X Y) (k_la : K la = some 17) (k_ly : K ly = some 27) (k_out : K out = some 31) (hd : 6 ≤ d2) : et_go none d2 25 0 (eg_en (eg_mL 25) [.ref th, .int x, .int y, .int z, .ref out]) [] G 0 0 (fun u => (¬ xr x ec ∧ u.1 = .inl (some (.int (Int32.ofNat 1)))) ∨ ∃ n, (x = Int32.ofNat n ∧ n < ec) ∧ ((¬ (xr y (V n).1 ∧ xr z (V n).1) ∧ u.1 = .inl (some (.int (Int32.ofNat 1)))) ∨ ∃ m k, (y = Int32.ofNat m ∧ z = Int32.ofNat k) ∧ (m < (V n).1 ∧ k < (V n).1) ∧ u.1 = .inl (some (.int (Int32.ofNat 0))) ∧ et_pl (eg_at u.2.1 out) 0 = some (.long (Int32.ofNat (dfE (V n) (vsw (V n) m k) X nc)).toInt64))) := by
  by_cases hx : xr x ec
  · obtain ⟨n, rfl, hn⟩ := xr_nat hx (by omega)
    have hw6 := (ho n (by omega)).1.1
    by_cases hy : xr y (V n).1
    · obtain ⟨m, rfl, hm1⟩ := xr_nat hy (by omega)
      by_cases hz9 : xr z (V n).1
      · obtain ⟨k, rfl, hk1⟩ := xr_nat hz9 (by omega)
        exact (fh_swp hH k_th h0 k_s0 h5 hec hz.1.1 t.1.1 hn (hz.2.1 n (by omega)).1 (t.ev (ho n (by omega)) (by omega)) (hz.2.2.1 n (by omega)) g2 hnc hcc k_la k_ly (t.2.1 6 (by decide)).1 ((t.2.1 6 (by decide)).2 0 (by decide)) ((t.2.1 6 (by decide)).2 1 (by decide)) ((t.2.1 6 (by decide)).2 2 (by decide)) (t.on (n := n) (by omega)) t.p6 (t.pq (n := n) (by omega)) hz.1.2.2 hz.2.2.2.1 hz.2.2.2.2.1 hz.2.2.2.2.2 k_out hm1 hk1 hd).mono (fun u hu => .inr ⟨n, ⟨rfl, hn⟩, .inr ⟨m, k, ⟨rfl, rfl⟩, ⟨hm1, hk1⟩, hu.1, hu.2⟩⟩)
      · exact (fh_swpB hH k_th h0 k_s0 h5 hec hz.1.1 t.1.1 hn (hz.2.1 n (by omega)).1 (t.ev (ho n (by omega)) (by omega)) (hz.2.2.1 n (by omega)) hm1 hz9 (by omega)).mono (fun u hu => .inr ⟨n, ⟨rfl, hn⟩, .inl ⟨fun h => hz9 h.2, hu.1⟩⟩)
    · exact (fh_swpC hH k_th h0 k_s0 h5 hec hz.1.1 t.1.1 hn (hz.2.1 n (by omega)).1 (t.ev (ho n (by omega)) (by omega)) (hz.2.2.1 n (by omega)) hy (by omega)).mono (fun u hu => .inr ⟨n, ⟨rfl, hn⟩, .inl ⟨fun h => hy h.1, hu.1⟩⟩)
  · exact (fh_swpE hH k_th h0 k_s0 h5 hec hz.1.1 t.1.1 hx (by omega)).mono (fun u hu => .inl ⟨hx, hu.1⟩)
end YHA
section YHB
variable {K : et_K} {G : eg_G} {d d2 th s0 s1 ya yb ec nc la ly out e ca ki kn am aw n m k c q a b : Nat} {O : Nat → Nat} {A : Nat → Nat → Nat} {v : evT} {V : Nat → evT} {X : Nat → Int32} {Y : Nat → Nat} {x y z : Int32} {v2 : evT} {Z : eg_O → Prop}
theorem fm_nWE (hH : et_H et_TT K G) (k_am : K am = some 13) (k_aw : K aw = some 46) (m1 : et_pl (eg_at G am) 1 = some (.ref aw)) (w4 : et_pl (eg_at G aw) 4 = some (.int (Int32.ofNat ec))) (hec : ec ≤ 3) (hm : zyM G aw ec V) (ho : ∀ n, n < 3 → evo (V n)) (hx : ¬ xr x ec) (hd : 2 ≤ d2) : et_go none d2 228 0 (eg_en (eg_mL 228) [.ref am, .int x, .int y]) [] G 0 0 (xp_Z G (some (.int (Int32.ofNat 1)))) := by
  obtain ⟨d, rfl⟩ : ∃ d, d2 = d + 2 := ⟨d2 - 2, by omega⟩
  rw [show eg_mL 228 = 3 from by decide +kernel]
  show et_go none (d + 2) 228 0 [some (.ref am), some (.int x), some (.int y)] [] G 0 0 _
  have lt_am := (hH.2.2 _ _ k_am).1
  have lt_aw := (hH.2.2 _ _ k_aw).1
  refine hs_aload (i := 0) (p := 1) (by decide +kernel) rfl ?_
  refine hs_iload (i := 1) (p := 2) (by decide +kernel) rfl ?_
  refine ht_callv (T := et_TT) (t := 13) (mi := 208) (na := 1) (ci := 11) (lk := 3) (lm := 2) (L0 := eg_en (eg_mL 208) [.ref am, .int x]) (by decide +kernel) rfl hH k_am rfl rfl rfl rfl rfl (by rw [show eg_mL 208 = 2 from by decide +kernel]; first | done | rfl) ?_
  refine (fm_nEn hH k_am k_aw m1 w4 hec hx (by omega)).mono (fun u hu => xp_cb hu ?_)
  show et_go none _ 228 5 _ [.int (Int32.ofNat 1)] _ _ _ _
  refine hs_if1 (c := .ne) (t := 23) (f := 8) (by decide +kernel) (show ¬ Int32.ofNat 1 = 0 by decide) ?_
  refine hs_k (x := Int32.ofNat 1) (p := 24) (by decide +kernel) ?_
  refine hs_goto (p := 28) (by decide +kernel) ?_
  refine hs_zret (by decide +kernel) (.inr rfl) ?_
  rfl
theorem fn_swpL {x6 x7 : Option Value} (hH : et_H et_TT K G) (k_am : K am = some 13) (k_aw : K aw = some 46) (m1 : et_pl (eg_at G am) 1 = some (.ref aw)) (hn : n < 3) (ho : evo v) (hv : evm G aw n v) (w3 : et_pl (eg_at G aw) 3 = some (.int (Int32.ofNat nc))) (hnc : nc ≤ 20) (hcr : crP G aw nc X Y) (hm : m < v.1) (hk : k < v.1) (m0 : et_pl (eg_at G am) 0 = some (.int (Int32.ofNat 0))) (hc : c ≤ nc) : et_go none (d + 7) 281 44 [some (.ref am), some (.int (Int32.ofNat n)), some (.int (Int32.ofNat m)), some (.int (Int32.ofNat k)), some (.int (Int32.ofNat (dfE v (vsw v m k) X c))), some (.int (Int32.ofNat c)), x6, x7] [] G 0 0 (fun u => u.1 = .inl (some (.int (Int32.ofNat (dfE v (vsw v m k) X nc)))) ∧ et_pl (eg_at u.2.1 am) 0 = some (.int (Int32.ofNat 0))) := by
  have hw6 := ho.1.1
  induction hq9 : nc - c using Nat.strongRecOn generalizing c x6 x7 with
  | _ q9 ih =>
    have hle := dfE_le v (vsw v m k) X c
    have lt_am := (hH.2.2 _ _ k_am).1
    have lt_aw := (hH.2.2 _ _ k_aw).1
    refine hs_iload (i := 5) (p := 46) (by decide +kernel) rfl ?_
    refine hs_aload (i := 0) (p := 47) (by decide +kernel) rfl ?_
    refine ht_callv (T := et_TT) (t := 13) (mi := 218) (na := 0) (ci := 11) (lk := 8) (lm := 1) (L0 := eg_en (eg_mL 218) [.ref am]) (by decide +kernel) rfl hH k_am rfl rfl rfl rfl rfl (by rw [show eg_mL 218 = 1 from by decide +kernel]; first | done | rfl) ?_
    refine (fm_cards hH k_am k_aw m1 w3).mono (fun u hu => xp_cb hu ?_)
    show et_go none _ 281 50 _ [.int (Int32.ofNat nc), .int (Int32.ofNat c)] _ _ _ _
    refine hs_br2n (c := .ge) (t := 145) (f := 53) (by decide +kernel) (by omega) (by omega) (fun (c50 : nc ≤ c) => ?_) (fun (c50 : ¬ (nc ≤ c)) => ?_)
    · refine hs_iload (i := 4) (p := 147) (by decide +kernel) rfl ?_
      refine hs_iret (by decide +kernel) ?_
      obtain rfl : c = nc := by omega
      exact ⟨rfl, m0⟩
    · refine hs_aload (i := 0) (p := 54) (by decide +kernel) rfl ?_
      refine hs_iload (i := 5) (p := 56) (by decide +kernel) rfl ?_
      refine ht_callv (T := et_TT) (t := 13) (mi := 234) (na := 1) (ci := 11) (lk := 8) (lm := 2) (L0 := eg_en (eg_mL 234) [.ref am, .int (Int32.ofNat c)]) (by decide +kernel) rfl hH k_am rfl rfl rfl rfl rfl (by rw [show eg_mL 234 = 2 from by decide +kernel]; first | done | rfl) ?_
      refine (fm_litOf hH k_am k_aw m1 (by omega) (hcr c (by omega)).1).mono (fun u hu => xp_cb hu ?_)
      show et_go none _ 281 59 _ [.int (X c)] _ _ _ _
      refine hs_istore (i := 6) (p := 61) (by decide +kernel) (Nat.le_of_ble_eq_true rfl) ?_
      refine hs_aload (i := 0) (p := 62) (by decide +kernel) rfl ?_
      refine hs_iload (i := 1) (p := 63) (by decide +kernel) rfl ?_
      refine hs_iload (i := 6) (p := 65) (by decide +kernel) rfl ?_
      refine ht_callv (T := et_TT) (t := 13) (mi := 236) (na := 2) (ci := 11) (lk := 8) (lm := 3) (L0 := eg_en (eg_mL 236) [.ref am, .int (Int32.ofNat n), .int (X c)]) (by decide +kernel) rfl hH k_am rfl rfl rfl rfl rfl (by rw [show eg_mL 236 = 3 from by decide +kernel]; first | done | rfl) ?_
      refine (fn_seen (x := X c) hH k_am k_aw m1 hn ho.1.1 ho.1.2 hv (by omega)).mono (fun u hu => xp_cb hu ?_)
      show et_go none _ 281 68 _ [.int (suN v.2.1 v.2.2.1 v.2.2.2.1 (X c) v.1)] _ _ _ _
      refine hs_aload (i := 0) (p := 69) (by decide +kernel) rfl ?_
      refine hs_iload (i := 1) (p := 70) (by decide +kernel) rfl ?_
      refine hs_iload (i := 2) (p := 71) (by decide +kernel) rfl ?_
      refine ht_callv (T := et_TT) (t := 13) (mi := 231) (na := 2) (ci := 11) (lk := 8) (lm := 3) (L0 := eg_en (eg_mL 231) [.ref am, .int (Int32.ofNat n), .int (Int32.ofNat m)]) (by decide +kernel) rfl hH k_am rfl rfl rfl rfl rfl (by rw [show eg_mL 231 = 3 from by decide +kernel]; first | done | rfl) ?_
      refine (fn_knob hH k_am k_aw m1 hn ho.1.1 ho.1.2 hv hm (by omega)).mono (fun u hu => xp_cb hu ?_)
      show et_go none _ 281 74 _ [.int (v.2.2.2.1 m), .int (suN v.2.1 v.2.2.1 v.2.2.2.1 (X c) v.1)] _ _ _ _
      refine hs_aload (i := 0) (p := 75) (by decide +kernel) rfl ?_
      refine hs_iload (i := 1) (p := 76) (by decide +kernel) rfl ?_
      refine hs_iload (i := 3) (p := 77) (by decide +kernel) rfl ?_
      refine ht_callv (T := et_TT) (t := 13) (mi := 231) (na := 2) (ci := 11) (lk := 8) (lm := 3) (L0 := eg_en (eg_mL 231) [.ref am, .int (Int32.ofNat n), .int (Int32.ofNat k)]) (by decide +kernel) rfl hH k_am rfl rfl rfl rfl rfl (by rw [show eg_mL 231 = 3 from by decide +kernel]; first | done | rfl) ?_
      refine (fn_knob hH k_am k_aw m1 hn ho.1.1 ho.1.2 hv hk (by omega)).mono (fun u hu => xp_cb hu ?_)
      show et_go none _ 281 80 _ [.int (v.2.2.2.1 k), .int (v.2.2.2.1 m), .int (suN v.2.1 v.2.2.1 v.2.2.2.1 (X c) v.1)] _ _ _ _
      refine hs_isub (p := 81) (by decide +kernel) ?_
      refine hs_aload (i := 0) (p := 82) (by decide +kernel) rfl ?_
      refine hs_iload (i := 1) (p := 83) (by decide +kernel) rfl ?_
      refine hs_iload (i := 3) (p := 84) (by decide +kernel) rfl ?_
      refine hs_iload (i := 6) (p := 86) (by decide +kernel) rfl ?_
      refine ht_callv (T := et_TT) (t := 13) (mi := 238) (na := 3) (ci := 11) (lk := 8) (lm := 4) (L0 := eg_en (eg_mL 238) [.ref am, .int (Int32.ofNat n), .int (Int32.ofNat k), .int (X c)]) (by decide +kernel) rfl hH k_am rfl rfl rfl rfl rfl (by rw [show eg_mL 238 = 4 from by decide +kernel]; first | done | rfl) ?_
      refine (fn_val (x := X c) hH k_am k_aw m1 hn ho.1.1 ho.1.2 hv hk (by omega)).mono (fun u hu => xp_cb hu ?_)
      show et_go none _ 281 89 _ [.int (vaI (v.2.1 k) (v.2.2.1 k) (X c)), .int ((v.2.2.2.1 m) - (v.2.2.2.1 k)), .int (suN v.2.1 v.2.2.1 v.2.2.2.1 (X c) v.1)] _ _ _ _
      refine hs_aload (i := 0) (p := 90) (by decide +kernel) rfl ?_
      refine hs_iload (i := 1) (p := 91) (by decide +kernel) rfl ?_
      refine hs_iload (i := 2) (p := 92) (by decide +kernel) rfl ?_
      refine hs_iload (i := 6) (p := 94) (by decide +kernel) rfl ?_
      refine ht_callv (T := et_TT) (t := 13) (mi := 238) (na := 3) (ci := 11) (lk := 8) (lm := 4) (L0 := eg_en (eg_mL 238) [.ref am, .int (Int32.ofNat n), .int (Int32.ofNat m), .int (X c)]) (by decide +kernel) rfl hH k_am rfl rfl rfl rfl rfl (by rw [show eg_mL 238 = 4 from by decide +kernel]; first | done | rfl) ?_
      refine (fn_val (x := X c) hH k_am k_aw m1 hn ho.1.1 ho.1.2 hv hm (by omega)).mono (fun u hu => xp_cb hu ?_)
      show et_go none _ 281 97 _ [.int (vaI (v.2.1 m) (v.2.2.1 m) (X c)), .int (vaI (v.2.1 k) (v.2.2.1 k) (X c)), .int ((v.2.2.2.1 m) - (v.2.2.2.1 k)), .int (suN v.2.1 v.2.2.1 v.2.2.2.1 (X c) v.1)] _ _ _ _
      refine hs_isub (p := 98) (by decide +kernel) ?_
      refine hs_imul (p := 99) (by decide +kernel) ?_
      refine hs_iadd (p := 100) (by decide +kernel) ?_
      refine hs_istore (i := 7) (p := 102) (by decide +kernel) (Nat.le_of_ble_eq_true rfl) ?_
      refine hs_iload (i := 4) (p := 104) (by decide +kernel) rfl ?_
      refine hs_iload (i := 7) (p := 106) (by decide +kernel) rfl ?_
      refine hs_aload (i := 0) (p := 107) (by decide +kernel) rfl ?_
      refine hs_iload (i := 1) (p := 108) (by decide +kernel) rfl ?_
      refine hs_k (x := Int32.ofNat 19) (p := 110) (by decide +kernel) ?_
      refine ht_callv (T := et_TT) (t := 13) (mi := 225) (na := 2) (ci := 11) (lk := 8) (lm := 3) (L0 := eg_en (eg_mL 225) [.ref am, .int (Int32.ofNat n), .int (Int32.ofNat 19)]) (by decide +kernel) rfl hH k_am rfl rfl rfl rfl rfl (by rw [show eg_mL 225 = 3 from by decide +kernel]; first | done | rfl) ?_
      refine (fn_of hH k_am k_aw m1 (by omega) hv.2.2.1).mono (fun u hu => xp_cb hu ?_)
      show et_go none _ 281 113 _ [.int v.2.2.2.2.1, .int ((suN v.2.1 v.2.2.1 v.2.2.2.1 (X c) v.1) + (((v.2.2.2.1 m) - (v.2.2.2.1 k)) * ((vaI (v.2.1 k) (v.2.2.1 k) (X c)) - (vaI (v.2.1 m) (v.2.2.1 m) (X c))))), .int (Int32.ofNat (dfE v (vsw v m k) X c))] _ _ _ _
      refine hs_br2 (c := .le) (t := 120) (f := 116) (by decide +kernel) (fun (c113 : ((suN v.2.1 v.2.2.1 v.2.2.2.1 (X c) v.1) + (((v.2.2.2.1 m) - (v.2.2.2.1 k)) * ((vaI (v.2.1 k) (v.2.2.1 k) (X c)) - (vaI (v.2.1 m) (v.2.2.1 m) (X c))))) ≤ v.2.2.2.2.1) => ?_) (fun (c113 : ¬ (((suN v.2.1 v.2.2.1 v.2.2.2.1 (X c) v.1) + (((v.2.2.2.1 m) - (v.2.2.2.1 k)) * ((vaI (v.2.1 k) (v.2.2.1 k) (X c)) - (vaI (v.2.1 m) (v.2.2.1 m) (X c))))) ≤ v.2.2.2.2.1)) => ?_)
      · refine hs_k (x := Int32.ofNat 0) (p := 121) (by decide +kernel) ?_
        refine hs_aload (i := 0) (p := 122) (by decide +kernel) rfl ?_
        refine hs_iload (i := 1) (p := 123) (by decide +kernel) rfl ?_
        refine hs_iload (i := 6) (p := 125) (by decide +kernel) rfl ?_
        refine ht_callv (T := et_TT) (t := 13) (mi := 235) (na := 2) (ci := 11) (lk := 8) (lm := 3) (L0 := eg_en (eg_mL 235) [.ref am, .int (Int32.ofNat n), .int (X c)]) (by decide +kernel) rfl hH k_am rfl rfl rfl rfl rfl (by rw [show eg_mL 235 = 3 from by decide +kernel]; first | done | rfl) ?_
        refine (fn_says hH k_am k_aw m1 hn ho.1.1 ho.1.2 hv (by omega)).mono (fun u hu => xp_cb hu ?_)
        by_cases q1 : v.2.2.2.2.1 < suN v.2.1 v.2.2.1 v.2.2.2.1 (X c) v.1
        · rw [if_pos q1]
          show et_go none _ 281 128 _ [.int (Int32.ofNat 1), .int (Int32.ofNat 0), .int (Int32.ofNat (dfE v (vsw v m k) X c))] _ _ _ _
          refine hs_br2n (c := .eq) (t := 135) (f := 131) (by decide +kernel) (by omega) (by omega) (fun h => absurd h (show ¬ (0 = 1) by decide)) (fun _ => ?_)
          refine hs_k (x := Int32.ofNat 1) (p := 132) (by decide +kernel) ?_
          refine hs_goto (p := 136) (by decide +kernel) ?_
          refine hs_iaddn (p := 137) (by decide +kernel) ?_
          refine hs_istore (i := 4) (p := 139) (by decide +kernel) (Nat.le_of_ble_eq_true rfl) ?_
          refine hs_iinc1 (i := 5) (p := 142) (by decide +kernel) rfl (Nat.le_of_ble_eq_true rfl) ?_
          refine hs_goto (p := 44) (by decide +kernel) ?_
          have e9 := dfE_n (v := v) (v2 := (vsw v m k)) (X := X) (c := c) (b := true) (decide_eq_true q1) (sw_n hm hk c113)
          have h9 := fun x6 x7 => @ih (nc - (c + 1)) (by omega) (c + 1) x6 x7 (by omega) rfl
          rw [e9] at h9
          exact h9 _ _
        · rw [if_neg q1]
          show et_go none _ 281 128 _ [.int (Int32.ofNat 0), .int (Int32.ofNat 0), .int (Int32.ofNat (dfE v (vsw v m k) X c))] _ _ _ _
          refine hs_br2n (c := .eq) (t := 135) (f := 131) (by decide +kernel) (by omega) (by omega) (fun _ => ?_) (fun h => absurd (show 0 = 0 by decide) h)
          refine hs_k (x := Int32.ofNat 0) (p := 136) (by decide +kernel) ?_
          refine hs_iaddn (p := 137) (by decide +kernel) ?_
          refine hs_istore (i := 4) (p := 139) (by decide +kernel) (Nat.le_of_ble_eq_true rfl) ?_
          refine hs_iinc1 (i := 5) (p := 142) (by decide +kernel) rfl (Nat.le_of_ble_eq_true rfl) ?_
          refine hs_goto (p := 44) (by decide +kernel) ?_
          have e9 := dfE_y (v := v) (v2 := (vsw v m k)) (X := X) (c := c) (b := false) (decide_eq_false q1) (sw_n hm hk c113)
          have h9 := fun x6 x7 => @ih (nc - (c + 1)) (by omega) (c + 1) x6 x7 (by omega) rfl
          rw [e9] at h9
          exact h9 _ _
      · refine hs_k (x := Int32.ofNat 1) (p := 117) (by decide +kernel) ?_
        refine hs_goto (p := 121) (by decide +kernel) ?_
        refine hs_aload (i := 0) (p := 122) (by decide +kernel) rfl ?_
        refine hs_iload (i := 1) (p := 123) (by decide +kernel) rfl ?_
        refine hs_iload (i := 6) (p := 125) (by decide +kernel) rfl ?_
        refine ht_callv (T := et_TT) (t := 13) (mi := 235) (na := 2) (ci := 11) (lk := 8) (lm := 3) (L0 := eg_en (eg_mL 235) [.ref am, .int (Int32.ofNat n), .int (X c)]) (by decide +kernel) rfl hH k_am rfl rfl rfl rfl rfl (by rw [show eg_mL 235 = 3 from by decide +kernel]; first | done | rfl) ?_
        refine (fn_says hH k_am k_aw m1 hn ho.1.1 ho.1.2 hv (by omega)).mono (fun u hu => xp_cb hu ?_)
        by_cases q1 : v.2.2.2.2.1 < suN v.2.1 v.2.2.1 v.2.2.2.1 (X c) v.1
        · rw [if_pos q1]
          show et_go none _ 281 128 _ [.int (Int32.ofNat 1), .int (Int32.ofNat 1), .int (Int32.ofNat (dfE v (vsw v m k) X c))] _ _ _ _
          refine hs_br2n (c := .eq) (t := 135) (f := 131) (by decide +kernel) (by omega) (by omega) (fun _ => ?_) (fun h => absurd (show 1 = 1 by decide) h)
          refine hs_k (x := Int32.ofNat 0) (p := 136) (by decide +kernel) ?_
          refine hs_iaddn (p := 137) (by decide +kernel) ?_
          refine hs_istore (i := 4) (p := 139) (by decide +kernel) (Nat.le_of_ble_eq_true rfl) ?_
          refine hs_iinc1 (i := 5) (p := 142) (by decide +kernel) rfl (Nat.le_of_ble_eq_true rfl) ?_
          refine hs_goto (p := 44) (by decide +kernel) ?_
          have e9 := dfE_y (v := v) (v2 := (vsw v m k)) (X := X) (c := c) (b := true) (decide_eq_true q1) (sw_y hm hk c113)
          have h9 := fun x6 x7 => @ih (nc - (c + 1)) (by omega) (c + 1) x6 x7 (by omega) rfl
          rw [e9] at h9
          exact h9 _ _
        · rw [if_neg q1]
          show et_go none _ 281 128 _ [.int (Int32.ofNat 0), .int (Int32.ofNat 1), .int (Int32.ofNat (dfE v (vsw v m k) X c))] _ _ _ _
          refine hs_br2n (c := .eq) (t := 135) (f := 131) (by decide +kernel) (by omega) (by omega) (fun h => absurd h (show ¬ (1 = 0) by decide)) (fun _ => ?_)
          refine hs_k (x := Int32.ofNat 1) (p := 132) (by decide +kernel) ?_
          refine hs_goto (p := 136) (by decide +kernel) ?_
          refine hs_iaddn (p := 137) (by decide +kernel) ?_
          refine hs_istore (i := 4) (p := 139) (by decide +kernel) (Nat.le_of_ble_eq_true rfl) ?_
          refine hs_iinc1 (i := 5) (p := 142) (by decide +kernel) rfl (Nat.le_of_ble_eq_true rfl) ?_
          refine hs_goto (p := 44) (by decide +kernel) ?_
          have e9 := dfE_n (v := v) (v2 := (vsw v m k)) (X := X) (c := c) (b := false) (decide_eq_false q1) (sw_y hm hk c113)
          have h9 := fun x6 x7 => @ih (nc - (c + 1)) (by omega) (c + 1) x6 x7 (by omega) rfl
          rw [e9] at h9
          exact h9 _ _
theorem fn_swp (hH : et_H et_TT K G) (k_am : K am = some 13) (k_aw : K aw = some 46) (m1 : et_pl (eg_at G am) 1 = some (.ref aw)) (w4 : et_pl (eg_at G aw) 4 = some (.int (Int32.ofNat ec))) (hec : ec ≤ 3) (hm9 : zyM G aw ec V) (ho : ∀ n, n < 3 → evo (V n)) (w3 : et_pl (eg_at G aw) 3 = some (.int (Int32.ofNat nc))) (hnc : nc ≤ 20) (hcr : crP G aw nc X Y) (hn : n < ec) (hm : m < (V n).1) (hk : k < (V n).1) (hd : 7 ≤ d2) : et_go none d2 281 0 (eg_en (eg_mL 281) [.ref am, .int (Int32.ofNat n), .int (Int32.ofNat m), .int (Int32.ofNat k)]) [] G 0 0 (fun u => u.1 = .inl (some (.int (Int32.ofNat (dfE (V n) (vsw (V n) m k) X nc)))) ∧ et_pl (eg_at u.2.1 am) 0 = some (.int (Int32.ofNat 0))) := by
  obtain ⟨d, rfl⟩ : ∃ d, d2 = d + 7 := ⟨d2 - 7, by omega⟩
  have hw6 := (ho n (by omega)).1.1
  have om : (Int32.ofNat m).toInt = m := hs_nint (by omega)
  have ok : (Int32.ofNat k).toInt = k := hs_nint (by omega)
  rw [show eg_mL 281 = 8 from by decide +kernel]
  show et_go none (d + 7) 281 0 [some (.ref am), some (.int (Int32.ofNat n)), some (.int (Int32.ofNat m)), some (.int (Int32.ofNat k)), none, none, none, none] [] G 0 0 _
  have lt_am := (hH.2.2 _ _ k_am).1
  have lt_aw := (hH.2.2 _ _ k_aw).1
  refine hs_aload (i := 0) (p := 1) (by decide +kernel) rfl ?_
  refine hs_k (x := Int32.ofNat 0) (p := 2) (by decide +kernel) ?_
  refine hf_put (T := et_TT) (t := 13) (ci := 11) (f := 0) (p := 5) (ty := .int) (by decide +kernel) rfl rfl rfl rfl rfl hH k_am hi_any (fun G2 hH x2 e2 => ?_)
  have hm9 := hm9.mv ho (fun j _ _ => x2.2 aw j lt_aw (fun h => hi_ne k_aw k_am (by decide) h.1))
  have hcr : crP G2 aw nc X Y := fun k hk => ⟨(x2.2 aw _ lt_aw (fun h => hi_ne k_aw k_am (by decide) h.1)).trans (hcr k hk).1, (x2.2 aw _ lt_aw (fun h => hi_ne k_aw k_am (by decide) h.1)).trans (hcr k hk).2.1, (hcr k hk).2.2⟩
  have w3 := (x2.2 aw 3 lt_aw (fun h => hi_ne k_aw k_am (by decide) h.1)).trans w3
  have m1 := (x2.2 am 1 lt_am (fun h => absurd h.2 (by decide))).trans m1
  have w4 := (x2.2 aw 4 lt_aw (fun h => (hi_ne k_aw k_am (by decide)) h.1)).trans w4
  have lt_am := Nat.lt_of_lt_of_le lt_am x2.1
  have lt_aw := Nat.lt_of_lt_of_le lt_aw x2.1
  refine hs_aload (i := 0) (p := 6) (by decide +kernel) rfl ?_
  refine hs_aload (i := 0) (p := 7) (by decide +kernel) rfl ?_
  refine hs_iload (i := 1) (p := 8) (by decide +kernel) rfl ?_
  refine hs_iload (i := 2) (p := 9) (by decide +kernel) rfl ?_
  refine ht_callv (T := et_TT) (t := 13) (mi := 228) (na := 2) (ci := 11) (lk := 8) (lm := 3) (L0 := eg_en (eg_mL 228) [.ref am, .int (Int32.ofNat n), .int (Int32.ofNat m)]) (by decide +kernel) rfl hH k_am rfl rfl rfl rfl rfl (by rw [show eg_mL 228 = 3 from by decide +kernel]; first | done | rfl) ?_
  refine (fm_nW (x := Int32.ofNat m) hH k_am k_aw m1 w4 hec hn (by omega) ((hm9 n (by omega)).1 hn).1 (by omega)).mono (fun u hu => xp_cb hu ?_)
  by_cases xa : 0 ≤ (Int32.ofNat m).toInt ∧ (Int32.ofNat m).toInt < ((V n).1 : Int)
  · rw [if_pos xa]
    show et_go none _ 281 12 _ [.int (Int32.ofNat 0), .ref am] _ _ _ _
    refine hs_if0 (c := .ne) (t := 24) (f := 15) (by decide +kernel) (show ¬ (¬ Int32.ofNat 0 = 0) by decide) ?_
    refine hs_aload (i := 0) (p := 16) (by decide +kernel) rfl ?_
    refine hs_iload (i := 1) (p := 17) (by decide +kernel) rfl ?_
    refine hs_iload (i := 3) (p := 18) (by decide +kernel) rfl ?_
    refine ht_callv (T := et_TT) (t := 13) (mi := 228) (na := 2) (ci := 11) (lk := 8) (lm := 3) (L0 := eg_en (eg_mL 228) [.ref am, .int (Int32.ofNat n), .int (Int32.ofNat k)]) (by decide +kernel) rfl hH k_am rfl rfl rfl rfl rfl (by rw [show eg_mL 228 = 3 from by decide +kernel]; first | done | rfl) ?_
    refine (fm_nW (x := Int32.ofNat k) hH k_am k_aw m1 w4 hec hn (by omega) ((hm9 n (by omega)).1 hn).1 (by omega)).mono (fun u hu => xp_cb hu ?_)
    by_cases xb : 0 ≤ (Int32.ofNat k).toInt ∧ (Int32.ofNat k).toInt < ((V n).1 : Int)
    · rw [if_pos xb]
      show et_go none _ 281 21 _ [.int (Int32.ofNat 0), .ref am] _ _ _ _
      refine hs_if1 (c := .eq) (t := 28) (f := 24) (by decide +kernel) (show Int32.ofNat 0 = 0 by decide) ?_
      refine hs_k (x := Int32.ofNat 0) (p := 29) (by decide +kernel) ?_
      refine hs_k (x := Int32.ofNat 1) (p := 30) (by decide +kernel) ?_
      refine ht_callv (T := et_TT) (t := 13) (mi := 204) (na := 2) (ci := 11) (lk := 8) (lm := 3) (L0 := eg_en (eg_mL 204) [.ref am, .int (Int32.ofNat 0), .int (Int32.ofNat 1)]) (by decide +kernel) rfl hH k_am rfl rfl rfl rfl rfl (by rw [show eg_mL 204 = 3 from by decide +kernel]; first | done | rfl) ?_
      refine (fm_t0 hH k_am).mono (fun u hu => xp_cb hu ?_)
      show et_go none _ 281 33 _ [.int (Int32.ofNat 0)] _ _ _ _
      refine hs_if1 (c := .eq) (t := 38) (f := 36) (by decide +kernel) (show Int32.ofNat 0 = 0 by decide) ?_
      refine hs_k (x := Int32.ofNat 0) (p := 39) (by decide +kernel) ?_
      refine hs_istore (i := 4) (p := 41) (by decide +kernel) (Nat.le_of_ble_eq_true rfl) ?_
      refine hs_k (x := Int32.ofNat 0) (p := 42) (by decide +kernel) ?_
      refine hs_istore (i := 5) (p := 44) (by decide +kernel) (Nat.le_of_ble_eq_true rfl) ?_
      exact fn_swpL (c := 0) hH k_am k_aw m1 (by omega) (ho n (by omega)) ((hm9 n (by omega)).1 hn) w3 hnc hcr hm hk e2 (Nat.zero_le _)
    · exact absurd ⟨by omega, by omega⟩ xb
  · exact absurd ⟨by omega, by omega⟩ xa
theorem fn_swpB (hH : et_H et_TT K G) (k_am : K am = some 13) (k_aw : K aw = some 46) (m1 : et_pl (eg_at G am) 1 = some (.ref aw)) (w4 : et_pl (eg_at G aw) 4 = some (.int (Int32.ofNat ec))) (hec : ec ≤ 3) (hm9 : zyM G aw ec V) (ho : ∀ n, n < 3 → evo (V n)) (hn : n < ec) (hm : m < (V n).1) (hz : ¬ xr z (V n).1) (hd : 3 ≤ d2) : et_go none d2 281 0 (eg_en (eg_mL 281) [.ref am, .int (Int32.ofNat n), .int (Int32.ofNat m), .int z]) [] G 0 0 (fun u => u.1 = .inl (some (.int (Int32.ofNat 0))) ∧ et_pl (eg_at u.2.1 am) 0 = some (.int (Int32.ofNat 1))) := by
  obtain ⟨d, rfl⟩ : ∃ d, d2 = d + 3 := ⟨d2 - 3, by omega⟩
  have hw6 := (ho n (by omega)).1.1
  have om : (Int32.ofNat m).toInt = m := hs_nint (by omega)
  rw [show eg_mL 281 = 8 from by decide +kernel]
  show et_go none (d + 3) 281 0 [some (.ref am), some (.int (Int32.ofNat n)), some (.int (Int32.ofNat m)), some (.int z), none, none, none, none] [] G 0 0 _
  have lt_am := (hH.2.2 _ _ k_am).1
  have lt_aw := (hH.2.2 _ _ k_aw).1
  refine hs_aload (i := 0) (p := 1) (by decide +kernel) rfl ?_
  refine hs_k (x := Int32.ofNat 0) (p := 2) (by decide +kernel) ?_
  refine hf_put (T := et_TT) (t := 13) (ci := 11) (f := 0) (p := 5) (ty := .int) (by decide +kernel) rfl rfl rfl rfl rfl hH k_am hi_any (fun G2 hH x2 e2 => ?_)
  have hm9 := hm9.mv ho (fun j _ _ => x2.2 aw j lt_aw (fun h => hi_ne k_aw k_am (by decide) h.1))
  have m1 := (x2.2 am 1 lt_am (fun h => absurd h.2 (by decide))).trans m1
  have w4 := (x2.2 aw 4 lt_aw (fun h => (hi_ne k_aw k_am (by decide)) h.1)).trans w4
  have lt_am := Nat.lt_of_lt_of_le lt_am x2.1
  have lt_aw := Nat.lt_of_lt_of_le lt_aw x2.1
  refine hs_aload (i := 0) (p := 6) (by decide +kernel) rfl ?_
  refine hs_aload (i := 0) (p := 7) (by decide +kernel) rfl ?_
  refine hs_iload (i := 1) (p := 8) (by decide +kernel) rfl ?_
  refine hs_iload (i := 2) (p := 9) (by decide +kernel) rfl ?_
  refine ht_callv (T := et_TT) (t := 13) (mi := 228) (na := 2) (ci := 11) (lk := 8) (lm := 3) (L0 := eg_en (eg_mL 228) [.ref am, .int (Int32.ofNat n), .int (Int32.ofNat m)]) (by decide +kernel) rfl hH k_am rfl rfl rfl rfl rfl (by rw [show eg_mL 228 = 3 from by decide +kernel]; first | done | rfl) ?_
  refine (fm_nW (x := Int32.ofNat m) hH k_am k_aw m1 w4 hec hn (by omega) ((hm9 n (by omega)).1 hn).1 (by omega)).mono (fun u hu => xp_cb hu ?_)
  by_cases xa : 0 ≤ (Int32.ofNat m).toInt ∧ (Int32.ofNat m).toInt < ((V n).1 : Int)
  · rw [if_pos xa]
    show et_go none _ 281 12 _ [.int (Int32.ofNat 0), .ref am] _ _ _ _
    refine hs_if0 (c := .ne) (t := 24) (f := 15) (by decide +kernel) (show ¬ (¬ Int32.ofNat 0 = 0) by decide) ?_
    refine hs_aload (i := 0) (p := 16) (by decide +kernel) rfl ?_
    refine hs_iload (i := 1) (p := 17) (by decide +kernel) rfl ?_
    refine hs_iload (i := 3) (p := 18) (by decide +kernel) rfl ?_
    refine ht_callv (T := et_TT) (t := 13) (mi := 228) (na := 2) (ci := 11) (lk := 8) (lm := 3) (L0 := eg_en (eg_mL 228) [.ref am, .int (Int32.ofNat n), .int z]) (by decide +kernel) rfl hH k_am rfl rfl rfl rfl rfl (by rw [show eg_mL 228 = 3 from by decide +kernel]; first | done | rfl) ?_
    refine (fm_nW (x := z) hH k_am k_aw m1 w4 hec hn (by omega) ((hm9 n (by omega)).1 hn).1 (by omega)).mono (fun u hu => xp_cb hu ?_)
    by_cases xb : 0 ≤ (z).toInt ∧ (z).toInt < ((V n).1 : Int)
    · exact absurd xb hz
    · rw [if_neg xb]
      show et_go none _ 281 21 _ [.int (Int32.ofNat 1), .ref am] _ _ _ _
      refine hs_if0 (c := .eq) (t := 28) (f := 24) (by decide +kernel) (show ¬ (Int32.ofNat 1 = 0) by decide) ?_
      refine hs_k (x := Int32.ofNat 1) (p := 25) (by decide +kernel) ?_
      refine hs_goto (p := 29) (by decide +kernel) ?_
      refine hs_k (x := Int32.ofNat 1) (p := 30) (by decide +kernel) ?_
      refine ht_callv (T := et_TT) (t := 13) (mi := 204) (na := 2) (ci := 11) (lk := 8) (lm := 3) (L0 := eg_en (eg_mL 204) [.ref am, .int (Int32.ofNat 1), .int (Int32.ofNat 1)]) (by decide +kernel) rfl hH k_am rfl rfl rfl rfl rfl (by rw [show eg_mL 204 = 3 from by decide +kernel]; first | done | rfl) ?_
      refine (fm_t1 hH k_am).mono (fun u hu => xw_cb hu (fun G30 v30 hH x30 hP30 => ?_))
      have hm9 := hm9.mv ho (fun j _ _ => x30.2 aw j lt_aw (fun h => hi_ne k_aw k_am (by decide) h.1))
      have m1 := (x30.2 am 1 lt_am (fun h => absurd h.2 (by decide))).trans m1
      have w4 := (x30.2 aw 4 lt_aw (fun h => (hi_ne k_aw k_am (by decide)) h.1)).trans w4
      have lt_am := Nat.lt_of_lt_of_le lt_am x30.1
      have lt_aw := Nat.lt_of_lt_of_le lt_aw x30.1
      obtain ⟨rfl, th30⟩ := hP30
      show et_go none _ 281 33 _ [.int (Int32.ofNat 1)] _ _ _ _
      refine hs_if0 (c := .eq) (t := 38) (f := 36) (by decide +kernel) (show ¬ (Int32.ofNat 1 = 0) by decide) ?_
      refine hs_k (x := Int32.ofNat 0) (p := 37) (by decide +kernel) ?_
      refine hs_iret (by decide +kernel) ?_
      exact ⟨rfl, th30⟩
  · exact absurd ⟨by omega, by omega⟩ xa
theorem fn_swpC (hH : et_H et_TT K G) (k_am : K am = some 13) (k_aw : K aw = some 46) (m1 : et_pl (eg_at G am) 1 = some (.ref aw)) (w4 : et_pl (eg_at G aw) 4 = some (.int (Int32.ofNat ec))) (hec : ec ≤ 3) (hm9 : zyM G aw ec V) (ho : ∀ n, n < 3 → evo (V n)) (hn : n < ec) (hy : ¬ xr y (V n).1) (hd : 3 ≤ d2) : et_go none d2 281 0 (eg_en (eg_mL 281) [.ref am, .int (Int32.ofNat n), .int y, .int z]) [] G 0 0 (fun u => u.1 = .inl (some (.int (Int32.ofNat 0))) ∧ et_pl (eg_at u.2.1 am) 0 = some (.int (Int32.ofNat 1))) := by
  obtain ⟨d, rfl⟩ : ∃ d, d2 = d + 3 := ⟨d2 - 3, by omega⟩
  have hw6 := (ho n (by omega)).1.1
  rw [show eg_mL 281 = 8 from by decide +kernel]
  show et_go none (d + 3) 281 0 [some (.ref am), some (.int (Int32.ofNat n)), some (.int y), some (.int z), none, none, none, none] [] G 0 0 _
  have lt_am := (hH.2.2 _ _ k_am).1
  have lt_aw := (hH.2.2 _ _ k_aw).1
  refine hs_aload (i := 0) (p := 1) (by decide +kernel) rfl ?_
  refine hs_k (x := Int32.ofNat 0) (p := 2) (by decide +kernel) ?_
  refine hf_put (T := et_TT) (t := 13) (ci := 11) (f := 0) (p := 5) (ty := .int) (by decide +kernel) rfl rfl rfl rfl rfl hH k_am hi_any (fun G2 hH x2 e2 => ?_)
  have hm9 := hm9.mv ho (fun j _ _ => x2.2 aw j lt_aw (fun h => hi_ne k_aw k_am (by decide) h.1))
  have m1 := (x2.2 am 1 lt_am (fun h => absurd h.2 (by decide))).trans m1
  have w4 := (x2.2 aw 4 lt_aw (fun h => (hi_ne k_aw k_am (by decide)) h.1)).trans w4
  have lt_am := Nat.lt_of_lt_of_le lt_am x2.1
  have lt_aw := Nat.lt_of_lt_of_le lt_aw x2.1
  refine hs_aload (i := 0) (p := 6) (by decide +kernel) rfl ?_
  refine hs_aload (i := 0) (p := 7) (by decide +kernel) rfl ?_
  refine hs_iload (i := 1) (p := 8) (by decide +kernel) rfl ?_
  refine hs_iload (i := 2) (p := 9) (by decide +kernel) rfl ?_
  refine ht_callv (T := et_TT) (t := 13) (mi := 228) (na := 2) (ci := 11) (lk := 8) (lm := 3) (L0 := eg_en (eg_mL 228) [.ref am, .int (Int32.ofNat n), .int y]) (by decide +kernel) rfl hH k_am rfl rfl rfl rfl rfl (by rw [show eg_mL 228 = 3 from by decide +kernel]; first | done | rfl) ?_
  refine (fm_nW (x := y) hH k_am k_aw m1 w4 hec hn (by omega) ((hm9 n (by omega)).1 hn).1 (by omega)).mono (fun u hu => xp_cb hu ?_)
  by_cases xa : 0 ≤ (y).toInt ∧ (y).toInt < ((V n).1 : Int)
  · exact absurd xa hy
  · rw [if_neg xa]
    show et_go none _ 281 12 _ [.int (Int32.ofNat 1), .ref am] _ _ _ _
    refine hs_if1 (c := .ne) (t := 24) (f := 15) (by decide +kernel) (show ¬ Int32.ofNat 1 = 0 by decide) ?_
    refine hs_k (x := Int32.ofNat 1) (p := 25) (by decide +kernel) ?_
    refine hs_goto (p := 29) (by decide +kernel) ?_
    refine hs_k (x := Int32.ofNat 1) (p := 30) (by decide +kernel) ?_
    refine ht_callv (T := et_TT) (t := 13) (mi := 204) (na := 2) (ci := 11) (lk := 8) (lm := 3) (L0 := eg_en (eg_mL 204) [.ref am, .int (Int32.ofNat 1), .int (Int32.ofNat 1)]) (by decide +kernel) rfl hH k_am rfl rfl rfl rfl rfl (by rw [show eg_mL 204 = 3 from by decide +kernel]; first | done | rfl) ?_
    refine (fm_t1 hH k_am).mono (fun u hu => xw_cb hu (fun G30 v30 hH x30 hP30 => ?_))
    have hm9 := hm9.mv ho (fun j _ _ => x30.2 aw j lt_aw (fun h => hi_ne k_aw k_am (by decide) h.1))
    have m1 := (x30.2 am 1 lt_am (fun h => absurd h.2 (by decide))).trans m1
    have w4 := (x30.2 aw 4 lt_aw (fun h => (hi_ne k_aw k_am (by decide)) h.1)).trans w4
    have lt_am := Nat.lt_of_lt_of_le lt_am x30.1
    have lt_aw := Nat.lt_of_lt_of_le lt_aw x30.1
    obtain ⟨rfl, th30⟩ := hP30
    show et_go none _ 281 33 _ [.int (Int32.ofNat 1)] _ _ _ _
    refine hs_if0 (c := .eq) (t := 38) (f := 36) (by decide +kernel) (show ¬ (Int32.ofNat 1 = 0) by decide) ?_
    refine hs_k (x := Int32.ofNat 0) (p := 37) (by decide +kernel) ?_
    refine hs_iret (by decide +kernel) ?_
    exact ⟨rfl, th30⟩
theorem fn_swpE (hH : et_H et_TT K G) (k_am : K am = some 13) (k_aw : K aw = some 46) (m1 : et_pl (eg_at G am) 1 = some (.ref aw)) (w4 : et_pl (eg_at G aw) 4 = some (.int (Int32.ofNat ec))) (hec : ec ≤ 3) (hm9 : zyM G aw ec V) (ho : ∀ n, n < 3 → evo (V n)) (hx : ¬ xr x ec) (hd : 3 ≤ d2) : et_go none d2 281 0 (eg_en (eg_mL 281) [.ref am, .int x, .int y, .int z]) [] G 0 0 (fun u => u.1 = .inl (some (.int (Int32.ofNat 0))) ∧ et_pl (eg_at u.2.1 am) 0 = some (.int (Int32.ofNat 1))) := by
  obtain ⟨d, rfl⟩ : ∃ d, d2 = d + 3 := ⟨d2 - 3, by omega⟩
  rw [show eg_mL 281 = 8 from by decide +kernel]
  show et_go none (d + 3) 281 0 [some (.ref am), some (.int x), some (.int y), some (.int z), none, none, none, none] [] G 0 0 _
  have lt_am := (hH.2.2 _ _ k_am).1
  have lt_aw := (hH.2.2 _ _ k_aw).1
  refine hs_aload (i := 0) (p := 1) (by decide +kernel) rfl ?_
  refine hs_k (x := Int32.ofNat 0) (p := 2) (by decide +kernel) ?_
  refine hf_put (T := et_TT) (t := 13) (ci := 11) (f := 0) (p := 5) (ty := .int) (by decide +kernel) rfl rfl rfl rfl rfl hH k_am hi_any (fun G2 hH x2 e2 => ?_)
  have hm9 := hm9.mv ho (fun j _ _ => x2.2 aw j lt_aw (fun h => hi_ne k_aw k_am (by decide) h.1))
  have m1 := (x2.2 am 1 lt_am (fun h => absurd h.2 (by decide))).trans m1
  have w4 := (x2.2 aw 4 lt_aw (fun h => (hi_ne k_aw k_am (by decide)) h.1)).trans w4
  have lt_am := Nat.lt_of_lt_of_le lt_am x2.1
  have lt_aw := Nat.lt_of_lt_of_le lt_aw x2.1
  refine hs_aload (i := 0) (p := 6) (by decide +kernel) rfl ?_
  refine hs_aload (i := 0) (p := 7) (by decide +kernel) rfl ?_
  refine hs_iload (i := 1) (p := 8) (by decide +kernel) rfl ?_
  refine hs_iload (i := 2) (p := 9) (by decide +kernel) rfl ?_
  refine ht_callv (T := et_TT) (t := 13) (mi := 228) (na := 2) (ci := 11) (lk := 8) (lm := 3) (L0 := eg_en (eg_mL 228) [.ref am, .int x, .int y]) (by decide +kernel) rfl hH k_am rfl rfl rfl rfl rfl (by rw [show eg_mL 228 = 3 from by decide +kernel]; first | done | rfl) ?_
  refine (fm_nWE hH k_am k_aw m1 w4 hec hm9 ho hx (by omega)).mono (fun u hu => xp_cb hu ?_)
  show et_go none _ 281 12 _ [.int (Int32.ofNat 1), .ref am] _ _ _ _
  refine hs_if1 (c := .ne) (t := 24) (f := 15) (by decide +kernel) (show ¬ Int32.ofNat 1 = 0 by decide) ?_
  refine hs_k (x := Int32.ofNat 1) (p := 25) (by decide +kernel) ?_
  refine hs_goto (p := 29) (by decide +kernel) ?_
  refine hs_k (x := Int32.ofNat 1) (p := 30) (by decide +kernel) ?_
  refine ht_callv (T := et_TT) (t := 13) (mi := 204) (na := 2) (ci := 11) (lk := 8) (lm := 3) (L0 := eg_en (eg_mL 204) [.ref am, .int (Int32.ofNat 1), .int (Int32.ofNat 1)]) (by decide +kernel) rfl hH k_am rfl rfl rfl rfl rfl (by rw [show eg_mL 204 = 3 from by decide +kernel]; first | done | rfl) ?_
  refine (fm_t1 hH k_am).mono (fun u hu => xw_cb hu (fun G30 v30 hH x30 hP30 => ?_))
  have hm9 := hm9.mv ho (fun j _ _ => x30.2 aw j lt_aw (fun h => hi_ne k_aw k_am (by decide) h.1))
  have m1 := (x30.2 am 1 lt_am (fun h => absurd h.2 (by decide))).trans m1
  have w4 := (x30.2 aw 4 lt_aw (fun h => (hi_ne k_aw k_am (by decide)) h.1)).trans w4
  have lt_am := Nat.lt_of_lt_of_le lt_am x30.1
  have lt_aw := Nat.lt_of_lt_of_le lt_aw x30.1
  obtain ⟨rfl, th30⟩ := hP30
  show et_go none _ 281 33 _ [.int (Int32.ofNat 1)] _ _ _ _
  refine hs_if0 (c := .eq) (t := 38) (f := 36) (by decide +kernel) (show ¬ (Int32.ofNat 1 = 0) by decide) ?_
  refine hs_k (x := Int32.ofNat 0) (p := 37) (by decide +kernel) ?_
  refine hs_iret (by decide +kernel) ?_
  exact ⟨rfl, th30⟩
theorem gz_swp (hH : et_H et_TT K G) (k_am : K am = some 13) (k_aw : K aw = some 46) (m1 : et_pl (eg_at G am) 1 = some (.ref aw)) (w4 : et_pl (eg_at G aw) 4 = some (.int (Int32.ofNat ec))) (hec : ec ≤ 3) (hm : zyM G aw ec V) (ho : ∀ n, n < 3 → evo (V n)) (w3 : et_pl (eg_at G aw) 3 = some (.int (Int32.ofNat nc))) (hnc : nc ≤ 20) (hcr : crP G aw nc X Y) (hd : 7 ≤ d2) : et_go none d2 281 0 (eg_en (eg_mL 281) [.ref am, .int x, .int y, .int z]) [] G 0 0 (fun u => (¬ xr x ec ∧ u.1 = .inl (some (.int (Int32.ofNat 0))) ∧ et_pl (eg_at u.2.1 am) 0 = some (.int (Int32.ofNat 1))) ∨ ∃ n, (x = Int32.ofNat n ∧ n < ec) ∧ ((¬ (xr y (V n).1 ∧ xr z (V n).1) ∧ u.1 = .inl (some (.int (Int32.ofNat 0))) ∧ et_pl (eg_at u.2.1 am) 0 = some (.int (Int32.ofNat 1))) ∨ ∃ m k, (y = Int32.ofNat m ∧ z = Int32.ofNat k) ∧ (m < (V n).1 ∧ k < (V n).1) ∧ u.1 = .inl (some (.int (Int32.ofNat (dfE (V n) (vsw (V n) m k) X nc)))) ∧ et_pl (eg_at u.2.1 am) 0 = some (.int (Int32.ofNat 0)))) := by
  by_cases hx : xr x ec
  · obtain ⟨n, rfl, hn⟩ := xr_nat hx (by omega)
    have hw6 := (ho n (by omega)).1.1
    by_cases hy : xr y (V n).1
    · obtain ⟨m, rfl, hm1⟩ := xr_nat hy (by omega)
      by_cases hz : xr z (V n).1
      · obtain ⟨k, rfl, hk1⟩ := xr_nat hz (by omega)
        exact (fn_swp hH k_am k_aw m1 w4 hec hm ho w3 hnc hcr hn hm1 hk1 hd).mono (fun u hu => .inr ⟨n, ⟨rfl, hn⟩, .inr ⟨m, k, ⟨rfl, rfl⟩, ⟨hm1, hk1⟩, hu.1, hu.2⟩⟩)
      · exact (fn_swpB hH k_am k_aw m1 w4 hec hm ho hn hm1 hz (by omega)).mono (fun u hu => .inr ⟨n, ⟨rfl, hn⟩, .inl ⟨fun h => hz h.2, hu.1, hu.2⟩⟩)
    · exact (fn_swpC hH k_am k_aw m1 w4 hec hm ho hn hy (by omega)).mono (fun u hu => .inr ⟨n, ⟨rfl, hn⟩, .inl ⟨fun h => hy h.1, hu.1, hu.2⟩⟩)
  · exact (fn_swpE hH k_am k_aw m1 w4 hec hm ho hx (by omega)).mono (fun u hu => .inl ⟨hx, hu.1, hu.2⟩)
end YHB
