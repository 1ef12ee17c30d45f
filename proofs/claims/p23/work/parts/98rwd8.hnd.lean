/-! PHASE D: near -/
def nrX (x : Int32) (k : Nat) : Bool := decide (¬ (x >>> (Int32.ofNat k &&& 31)) &&& Int32.ofNat 4369 = 0)
def nrY (x : Int32) (k : Nat) : Bool := decide (¬ (x >>> (Int32.ofNat (4 * k) &&& 31)) &&& Int32.ofNat 15 = 0)
/-- a set of columns, or rows, as bits -/
def nrm (f : Nat → Bool) : Nat → Nat
  | 0 => 0
  | k + 1 => nrm f k + (if f k = true then 2 ^ k else 0)
/-- from the first to the last one -/
def spN (m : Nat) : Nat := [0, 1, 1, 2, 1, 3, 2, 3, 1, 4, 3, 4, 2, 4, 3, 4].getD m 0
def spR (m : Nat) : Int32 := if m = 0 then (-32) else Int32.ofNat (spN m)
def lzN (m : Nat) : Nat := [32, 31, 30, 30, 29, 29, 29, 29, 28, 28, 28, 28, 28, 28, 28, 28].getD m 0
def tzN (m : Nat) : Nat := [32, 0, 1, 0, 2, 0, 1, 0, 3, 0, 1, 0, 2, 0, 1, 0].getD m 0
def mxN (a b : Nat) : Nat := if a < b then b else a
/-- NEAR of the first WIRES -/
def neN (C : Nat → Int32) : Nat → Nat
  | 0 => 0
  | m + 1 => mxN (neN C m) (mxN (spN (nrm (nrX (C m)) 4)) (spN (nrm (nrY (C m)) 4)))
/-- some of the first m CELLS p, p + q .. is lit -/
def anL (x : Int32) (p q : Nat) : Nat → Bool
  | 0 => false
  | m + 1 => anL x p q m || liI x (p + m * q)
theorem anL_y {x : Int32} {p q m : Nat} (h : liI x (p + m * q) = true) : (Int32.ofNat (if anL x p q m = true then 1 else 0) ||| Int32.ofNat 1) = Int32.ofNat (if anL x p q (m + 1) = true then 1 else 0) := by
  have e : anL x p q (m + 1) = true := by
    show (anL x p q m || liI x (p + m * q)) = true
    rw [h, Bool.or_true]
  rw [if_pos e]
  cases anL x p q m <;> decide
theorem anL_n {x : Int32} {p q m : Nat} (h : ¬ liI x (p + m * q) = true) : (Int32.ofNat (if anL x p q m = true then 1 else 0) ||| Int32.ofNat 0) = Int32.ofNat (if anL x p q (m + 1) = true then 1 else 0) := by
  have e : anL x p q (m + 1) = anL x p q m := by
    show (anL x p q m || liI x (p + m * q)) = _
    rw [Bool.eq_false_iff.mpr h, Bool.or_false]
  rw [e]
  cases anL x p q m <;> decide
theorem nrm_lt (f : Nat → Bool) : ∀ k, nrm f k < 2 ^ k
  | 0 => Nat.lt_succ_self 0
  | k + 1 => by
    have h := nrm_lt f k
    show nrm f k + (if f k = true then 2 ^ k else 0) < 2 ^ (k + 1)
    rw [Nat.pow_succ]
    split <;> omega
theorem nrm_16 {f : Nat → Bool} : nrm f 4 < 16 := nrm_lt f 4
theorem nrm_all : ∀ k ∈ List.range 4, ∀ m ∈ List.range (2 ^ k), (Int32.ofNat m ||| (Int32.ofNat 1 <<< (Int32.ofNat k &&& 31))) = Int32.ofNat (m + 2 ^ k) ∧ (Int32.ofNat m ||| Int32.ofNat 0) = Int32.ofNat m := by decide +kernel
theorem nrm_y {f : Nat → Bool} {k : Nat} (hk : k < 4) (h : f k = true) : (Int32.ofNat (nrm f k) ||| (Int32.ofNat 1 <<< (Int32.ofNat k &&& 31))) = Int32.ofNat (nrm f (k + 1)) := by
  have e : nrm f (k + 1) = nrm f k + 2 ^ k := by
    show nrm f k + (if f k = true then 2 ^ k else 0) = _
    rw [if_pos h]
  rw [e]
  exact (nrm_all k (List.mem_range.mpr hk) _ (List.mem_range.mpr (nrm_lt f k))).1
theorem nrm_n {f : Nat → Bool} {k : Nat} (hk : k < 4) (h : f k = false) : (Int32.ofNat (nrm f k) ||| Int32.ofNat 0) = Int32.ofNat (nrm f (k + 1)) := by
  have e : nrm f (k + 1) = nrm f k := by
    show nrm f k + (if f k = true then 2 ^ k else 0) = _
    rw [if_neg (fun h2 => by rw [h] at h2; cases h2)]
    rfl
  rw [e]
  exact (nrm_all k (List.mem_range.mpr hk) _ (List.mem_range.mpr (nrm_lt f k))).2
def nb4 (a b c e : Bool) : Nat := ((((if a = true then 1 else 0) + (if b = true then 2 else 0)) + (if c = true then 4 else 0)) + (if e = true then 8 else 0))
theorem nrm4 {f : Nat → Bool} {a b c e : Bool} (h0 : f 0 = a) (h1 : f 1 = b) (h2 : f 2 = c) (h3 : f 3 = e) : nrm f 4 = nb4 a b c e := by
  subst h0 h1 h2 h3
  show (((0 + (if f 0 = true then 2 ^ 0 else 0)) + (if f 1 = true then 2 ^ 1 else 0)) + (if f 2 = true then 2 ^ 2 else 0)) + (if f 3 = true then 2 ^ 3 else 0) = _
  rw [Nat.zero_add]
  rfl
theorem nr_p {z y : Int32} (h : ¬ z &&& y ≤ 0) : ¬ z &&& y = 0 := fun e => h (by rw [e]; decide)
theorem nr_z {z y : Int32} (hy : 0 ≤ y.toInt) (h : z &&& y ≤ 0) : z &&& y = 0 := by
  have h1 := (et_and1 z y hy).1
  rw [Int32.le_iff_toInt_le] at h
  have e0 : (0 : Int32).toInt = 0 := rfl
  exact Int32.toInt_inj.mp (by omega)
theorem spR_all : ∀ m ∈ List.range 16, (Int32.ofNat 32 - Int32.ofNat (lzN m) - Int32.ofNat (tzN m)) = spR m := by decide +kernel
theorem mx_r : ∀ s ∈ List.range 5, ∀ a ∈ List.range 16, ∀ b ∈ List.range 16, (if Int32.ofNat s < (if spR a < spR b then spR b else spR a) then (if spR a < spR b then spR b else spR a) else Int32.ofNat s) = Int32.ofNat (mxN s (mxN (spN a) (spN b))) := by decide +kernel
theorem mx_c : ∀ s ∈ List.range 5, ∀ a ∈ List.range 16, ∀ b ∈ List.range 16, (if Int32.ofNat s < (if Int32.ofNat (spN a) < Int32.ofNat (spN b) then Int32.ofNat (spN b) else Int32.ofNat (spN a)) then (if Int32.ofNat (spN a) < Int32.ofNat (spN b) then Int32.ofNat (spN b) else Int32.ofNat (spN a)) else Int32.ofNat s) = Int32.ofNat (mxN s (mxN (spN a) (spN b))) := by decide +kernel
theorem mxN_le {a b k : Nat} (h1 : a ≤ k) (h2 : b ≤ k) : mxN a b ≤ k := by
  unfold mxN
  split <;> assumption
theorem spN_le : ∀ m ∈ List.range 16, spN m ≤ 4 := by decide +kernel
theorem neN_le (C : Nat → Int32) : ∀ m, neN C m ≤ 4
  | 0 => Nat.zero_le _
  | m + 1 => mxN_le (neN_le C m) (mxN_le (spN_le _ (List.mem_range.mpr nrm_16)) (spN_le _ (List.mem_range.mpr nrm_16)))
/-- bits -/
theorem sh_all : ∀ v ∈ List.range 32, ((Int32.ofNat v &&& 31).toBitVec.smod 32).toNat = v := by decide +kernel
theorem nr_bits {b : BitVec 32} {M : BitVec 32} {l : List Nat} (hM : ∀ i ∈ List.range 32, M.getLsbD i = decide (i ∈ l)) : b &&& M = 0#32 ↔ ∀ i ∈ l, i < 32 → b.getLsbD i = false := by
  constructor
  · intro h i hi h32
    have h1 : (b &&& M).getLsbD i = false := by
      rw [h]
      exact BitVec.getLsbD_zero
    rw [BitVec.getLsbD_and, hM i (List.mem_range.mpr h32), decide_eq_true hi, Bool.and_true] at h1
    exact h1
  · intro h
    apply BitVec.eq_of_getLsbD_eq
    intro i hi
    rw [BitVec.getLsbD_and, hM i (List.mem_range.mpr hi), BitVec.getLsbD_zero]
    by_cases hl : i ∈ l
    · rw [h i hl hi, Bool.false_and]
    · rw [decide_eq_false hl, Bool.and_false]
theorem nr_sh {x : Int32} {v i : Nat} (hv : v < 32) (hi : v + i < 32) : ((x >>> (Int32.ofNat v &&& 31)).toBitVec).getLsbD i = x.toBitVec.getLsbD (v + i) := by
  show (x.toBitVec.sshiftRight ((Int32.ofNat v &&& 31).toBitVec.smod 32).toNat).getLsbD i = _
  rw [sh_all v (List.mem_range.mpr hv), BitVec.getLsbD_sshiftRight, if_pos hi, decide_eq_false (by omega)]
  rfl
theorem nr_and {x : Int32} {v M : Nat} {l : List Nat} (hM : ∀ i ∈ List.range 32, (Int32.ofNat M).toBitVec.getLsbD i = decide (i ∈ l)) (hv : v < 32) (hl : ∀ i ∈ l, v + i < 32) : (x >>> (Int32.ofNat v &&& 31)) &&& Int32.ofNat M = 0 ↔ ∀ i ∈ l, x.toBitVec.getLsbD (v + i) = false := by
  rw [← Int32.toBitVec_inj]
  show ((x >>> (Int32.ofNat v &&& 31)).toBitVec &&& (Int32.ofNat M).toBitVec) = 0#32 ↔ _
  rw [nr_bits hM]
  constructor
  · intro h i hi
    have h9 := hl i hi
    rw [← nr_sh hv h9]
    exact h i hi (by omega)
  · intro h i hi _
    rw [nr_sh hv (hl i hi)]
    exact h i hi
theorem liI_b {x : Int32} {v : Nat} (hv : v < 32) : liI x v = x.toBitVec.getLsbD v := by
  have h := nr_and (x := x) (v := v) (M := 1) (l := [0]) (by decide +kernel) hv (fun i hi => by rw [List.mem_singleton.mp hi]; exact hv)
  unfold liI
  cases hb : x.toBitVec.getLsbD v with
  | true => exact decide_eq_true (fun e => by
      have h2 := h.mp e 0 (List.mem_singleton.mpr rfl)
      rw [Nat.add_zero, hb] at h2
      cases h2)
  | false => exact decide_eq_false (fun e => e (h.mpr (fun i hi => by rw [List.mem_singleton.mp hi, Nat.add_zero]; exact hb)))
theorem or4 {a b c e : Bool} : (((((false || a) || b) || c) || e) = true) ↔ ¬ (a = false ∧ b = false ∧ c = false ∧ e = false) := by cases a <;> cases b <;> cases c <;> cases e <;> decide
theorem anL_4 {x : Int32} {p q : Nat} {B : Bool} (h : B = true ↔ ¬ (liI x (p + 0 * q) = false ∧ liI x (p + 1 * q) = false ∧ liI x (p + 2 * q) = false ∧ liI x (p + 3 * q) = false)) : anL x p q 4 = B := by
  have e : anL x p q 4 = ((((false || liI x (p + 0 * q)) || liI x (p + 1 * q)) || liI x (p + 2 * q)) || liI x (p + 3 * q)) := rfl
  rw [e]
  cases B with
  | true => exact or4.mpr (h.mp rfl)
  | false => exact Bool.eq_false_iff.mpr (fun h2 => by
      have h3 := h.mpr (or4.mp h2)
      cases h3)
theorem nrX_an {x : Int32} : ∀ n, n < 4 → anL x (n * 1) 4 4 = nrX x n := fun n hn => by
  have h := nr_and (x := x) (v := n) (M := 4369) (l := [0, 4, 8, 12]) (by decide +kernel) (by omega) (fun i hi => by
    rcases List.mem_cons.mp hi with rfl | hi
    · omega
    rcases List.mem_cons.mp hi with rfl | hi
    · omega
    rcases List.mem_cons.mp hi with rfl | hi
    · omega
    rw [List.mem_singleton.mp hi]
    omega)
  have e0 : liI x (n * 1 + 0 * 4) = x.toBitVec.getLsbD (n + 0) := by
    rw [show n * 1 + 0 * 4 = n + 0 by omega]
    exact liI_b (by omega)
  have e1 : liI x (n * 1 + 1 * 4) = x.toBitVec.getLsbD (n + 4) := by
    rw [show n * 1 + 1 * 4 = n + 4 by omega]
    exact liI_b (by omega)
  have e2 : liI x (n * 1 + 2 * 4) = x.toBitVec.getLsbD (n + 8) := by
    rw [show n * 1 + 2 * 4 = n + 8 by omega]
    exact liI_b (by omega)
  have e3 : liI x (n * 1 + 3 * 4) = x.toBitVec.getLsbD (n + 12) := by
    rw [show n * 1 + 3 * 4 = n + 12 by omega]
    exact liI_b (by omega)
  refine anL_4 ?_
  rw [e0, e1, e2, e3]
  unfold nrX
  rw [decide_eq_true_iff, h]
  constructor
  · exact fun h1 h2 => h1 (fun i hi => by
      rcases List.mem_cons.mp hi with rfl | hi
      · exact h2.1
      rcases List.mem_cons.mp hi with rfl | hi
      · exact h2.2.1
      rcases List.mem_cons.mp hi with rfl | hi
      · exact h2.2.2.1
      rw [List.mem_singleton.mp hi]
      exact h2.2.2.2)
  · exact fun h1 h2 => h1 ⟨h2 0 (by decide), h2 4 (by decide), h2 8 (by decide), h2 12 (by decide)⟩
theorem nrY_an {x : Int32} : ∀ n, n < 4 → anL x (n * 4) 1 4 = nrY x n := fun n hn => by
  have h := nr_and (x := x) (v := 4 * n) (M := 15) (l := [0, 1, 2, 3]) (by decide +kernel) (by omega) (fun i hi => by
    rcases List.mem_cons.mp hi with rfl | hi
    · omega
    rcases List.mem_cons.mp hi with rfl | hi
    · omega
    rcases List.mem_cons.mp hi with rfl | hi
    · omega
    rw [List.mem_singleton.mp hi]
    omega)
  have e0 : liI x (n * 4 + 0 * 1) = x.toBitVec.getLsbD (4 * n + 0) := by
    rw [show n * 4 + 0 * 1 = 4 * n + 0 by omega]
    exact liI_b (by omega)
  have e1 : liI x (n * 4 + 1 * 1) = x.toBitVec.getLsbD (4 * n + 1) := by
    rw [show n * 4 + 1 * 1 = 4 * n + 1 by omega]
    exact liI_b (by omega)
  have e2 : liI x (n * 4 + 2 * 1) = x.toBitVec.getLsbD (4 * n + 2) := by
    rw [show n * 4 + 2 * 1 = 4 * n + 2 by omega]
    exact liI_b (by omega)
  have e3 : liI x (n * 4 + 3 * 1) = x.toBitVec.getLsbD (4 * n + 3) := by
    rw [show n * 4 + 3 * 1 = 4 * n + 3 by omega]
    exact liI_b (by omega)
  refine anL_4 ?_
  rw [e0, e1, e2, e3]
  unfold nrY
  rw [decide_eq_true_iff, h]
  constructor
  · exact fun h1 h2 => h1 (fun i hi => by
      rcases List.mem_cons.mp hi with rfl | hi
      · exact h2.1
      rcases List.mem_cons.mp hi with rfl | hi
      · exact h2.2.1
      rcases List.mem_cons.mp hi with rfl | hi
      · exact h2.2.2.1
      rw [List.mem_singleton.mp hi]
      exact h2.2.2.2)
  · exact fun h1 h2 => h1 ⟨h2 0 (by decide), h2 1 (by decide), h2 2 (by decide), h2 3 (by decide)⟩
section YDA
variable {K : et_K} {G : eg_G} {d d2 e ca ki kn am aw n m k al ac : Nat} {v : evT} {x : Int32} {f : Nat → Bool} {Z : eg_O → Prop}
theorem fc_inL {x3 x4 : Option Value} (hm : m ≤ 4) (h : et_go none (d + 1) 42 50 [some (.int x), some (.int (Int32.ofNat al)), some (.int (Int32.ofNat ac)), x3, x4, some (.int (Int32.ofNat n)), some (.int (Int32.ofNat (if anL x (n * al) ac 4 = true then 1 else 0))), some (.int (Int32.ofNat 4))] [] G 0 0 Z) : et_go none (d + 1) 42 20 [some (.int x), some (.int (Int32.ofNat al)), some (.int (Int32.ofNat ac)), x3, x4, some (.int (Int32.ofNat n)), some (.int (Int32.ofNat (if anL x (n * al) ac m = true then 1 else 0))), some (.int (Int32.ofNat m))] [] G 0 0 Z := by
  induction hq9 : 4 - m using Nat.strongRecOn generalizing m with
  | _ q9 ih =>
    refine hs_iload (i := 7) (p := 22) (by decide +kernel) rfl ?_
    refine hs_k (x := Int32.ofNat 4) (p := 23) (by decide +kernel) ?_
    refine hs_br2n (c := .ge) (t := 50) (f := 26) (by decide +kernel) (by omega) (by omega) (fun (c23 : 4 ≤ m) => ?_) (fun (c23 : ¬ (4 ≤ m)) => ?_)
    · obtain rfl : m = 4 := by omega
      exact h
    · refine hs_iload (i := 6) (p := 28) (by decide +kernel) rfl ?_
      refine hs_iload (i := 0) (p := 29) (by decide +kernel) rfl ?_
      refine hs_iload (i := 5) (p := 31) (by decide +kernel) rfl ?_
      refine hs_iload (i := 1) (p := 32) (by decide +kernel) rfl ?_
      refine hs_imuln (p := 33) (by decide +kernel) ?_
      refine hs_iload (i := 7) (p := 35) (by decide +kernel) rfl ?_
      refine hs_iload (i := 2) (p := 36) (by decide +kernel) rfl ?_
      refine hs_imuln (p := 37) (by decide +kernel) ?_
      refine hs_iaddn (p := 38) (by decide +kernel) ?_
      refine hs_calls (mi := 122) (na := 2) (lk := 8) (lm := 2) (L0 := eg_en (eg_mL 122) [.int x, .int (Int32.ofNat ((n * al) + (m * ac)))]) (by decide +kernel) rfl rfl rfl rfl rfl rfl (by rw [show eg_mL 122 = 2 from by decide +kernel]; first | done | rfl) ?_
      refine (fx_lit).mono (fun u hu => xp_cb hu ?_)
      by_cases ql : liI x (n * al + m * ac) = true
      · rw [if_pos ql]
        show et_go none _ 42 41 _ [.int (Int32.ofNat 1), .int (Int32.ofNat (if anL x (n * al) ac m = true then 1 else 0))] _ _ _ _
        refine hs_st (ins := .ior) (len := 1) (p := 42) (by decide +kernel) rfl rfl ?_
        refine hs_istore (i := 6) (p := 44) (by decide +kernel) (Nat.le_of_ble_eq_true rfl) ?_
        refine hs_iinc1 (i := 7) (p := 47) (by decide +kernel) rfl (Nat.le_of_ble_eq_true rfl) ?_
        refine hs_goto (p := 20) (by decide +kernel) ?_
        show et_go none (d + 1) 42 20 [some (.int x), some (.int (Int32.ofNat al)), some (.int (Int32.ofNat ac)), x3, x4, some (.int (Int32.ofNat n)), some (.int (Int32.ofNat (if anL x (n * al) ac m = true then 1 else 0) ||| Int32.ofNat 1)), some (.int (Int32.ofNat (m + 1)))] [] _ _ _ _
        rw [anL_y ql]
        exact @ih (4 - (m + 1)) (by omega) (m + 1) (by omega) rfl
      · rw [if_neg ql]
        show et_go none _ 42 41 _ [.int (Int32.ofNat 0), .int (Int32.ofNat (if anL x (n * al) ac m = true then 1 else 0))] _ _ _ _
        refine hs_st (ins := .ior) (len := 1) (p := 42) (by decide +kernel) rfl rfl ?_
        refine hs_istore (i := 6) (p := 44) (by decide +kernel) (Nat.le_of_ble_eq_true rfl) ?_
        refine hs_iinc1 (i := 7) (p := 47) (by decide +kernel) rfl (Nat.le_of_ble_eq_true rfl) ?_
        refine hs_goto (p := 20) (by decide +kernel) ?_
        show et_go none (d + 1) 42 20 [some (.int x), some (.int (Int32.ofNat al)), some (.int (Int32.ofNat ac)), x3, x4, some (.int (Int32.ofNat n)), some (.int (Int32.ofNat (if anL x (n * al) ac m = true then 1 else 0) ||| Int32.ofNat 0)), some (.int (Int32.ofNat (m + 1)))] [] _ _ _ _
        rw [anL_n ql]
        exact @ih (4 - (m + 1)) (by omega) (m + 1) (by omega) rfl
theorem fc_reach (hf : ∀ n, n < 4 → anL x (n * al) ac 4 = f n) (hd : 1 ≤ d2) : et_go none d2 42 0 (eg_en (eg_mL 42) [.int x, .int (Int32.ofNat al), .int (Int32.ofNat ac)]) [] G 0 0 (xp_Z G (some (.int (Int32.ofNat (spN (nrm f 4)))))) := by
  obtain ⟨d, rfl⟩ : ∃ d, d2 = d + 1 := ⟨d2 - 1, by omega⟩
  rw [show eg_mL 42 = 8 from by decide +kernel]
  show et_go none (d + 1) 42 0 [some (.int x), some (.int (Int32.ofNat al)), some (.int (Int32.ofNat ac)), none, none, none, none, none] [] G 0 0 _
  refine hs_k (x := (-1)) (p := 1) (by decide +kernel) ?_
  refine hs_istore (i := 3) (p := 2) (by decide +kernel) (Nat.le_of_ble_eq_true rfl) ?_
  refine hs_k (x := (-1)) (p := 3) (by decide +kernel) ?_
  refine hs_istore (i := 4) (p := 5) (by decide +kernel) (Nat.le_of_ble_eq_true rfl) ?_
  refine hs_k (x := Int32.ofNat 0) (p := 6) (by decide +kernel) ?_
  refine hs_istore (i := 5) (p := 8) (by decide +kernel) (Nat.le_of_ble_eq_true rfl) ?_
  show et_go none (d + 1) 42 8 [some (.int x), some (.int (Int32.ofNat al)), some (.int (Int32.ofNat ac)), some (.int (-1)), some (.int (-1)), some (.int (Int32.ofNat 0)), none, none] [] _ _ _ _
  refine hs_iload (i := 5) (p := 10) (by decide +kernel) rfl ?_
  refine hs_k (x := Int32.ofNat 4) (p := 11) (by decide +kernel) ?_
  refine hs_br2n (c := .ge) (t := 77) (f := 14) (by decide +kernel) (by omega) (by omega) (fun h => absurd h (show ¬ (4 ≤ 0) by decide)) (fun _ => ?_)
  refine hs_k (x := Int32.ofNat 0) (p := 15) (by decide +kernel) ?_
  refine hs_istore (i := 6) (p := 17) (by decide +kernel) (Nat.le_of_ble_eq_true rfl) ?_
  refine hs_k (x := Int32.ofNat 0) (p := 18) (by decide +kernel) ?_
  refine hs_istore (i := 7) (p := 20) (by decide +kernel) (Nat.le_of_ble_eq_true rfl) ?_
  refine fc_inL (n := 0) (m := 0) (Nat.zero_le _) ?_
  rw [hf 0 (by decide)]
  cases hb0 : f 0 with
  | true =>
    show et_go none (d + 1) 42 50 [some (.int x), some (.int (Int32.ofNat al)), some (.int (Int32.ofNat ac)), some (.int (-1)), some (.int (-1)), some (.int (Int32.ofNat 0)), some (.int (Int32.ofNat 1)), some (.int (Int32.ofNat 4))] [] _ _ _ _
    refine hs_iload (i := 6) (p := 52) (by decide +kernel) rfl ?_
    refine hs_if0 (c := .eq) (t := 71) (f := 55) (by decide +kernel) (show ¬ (Int32.ofNat 1 = 0) by decide) ?_
    refine hs_iload (i := 3) (p := 56) (by decide +kernel) rfl ?_
    refine hs_k (x := (-1)) (p := 57) (by decide +kernel) ?_
    refine hs_br2 (c := .ne) (t := 65) (f := 60) (by decide +kernel) (fun hz => absurd rfl hz) (fun _ => ?_)
    refine hs_iload (i := 5) (p := 62) (by decide +kernel) rfl ?_
    refine hs_goto (p := 66) (by decide +kernel) ?_
    refine hs_istore (i := 3) (p := 67) (by decide +kernel) (Nat.le_of_ble_eq_true rfl) ?_
    refine hs_iload (i := 5) (p := 69) (by decide +kernel) rfl ?_
    refine hs_istore (i := 4) (p := 71) (by decide +kernel) (Nat.le_of_ble_eq_true rfl) ?_
    refine hs_iinc1 (i := 5) (p := 74) (by decide +kernel) rfl (Nat.le_of_ble_eq_true rfl) ?_
    refine hs_goto (p := 8) (by decide +kernel) ?_
    show et_go none (d + 1) 42 8 [some (.int x), some (.int (Int32.ofNat al)), some (.int (Int32.ofNat ac)), some (.int (Int32.ofNat 0)), some (.int (Int32.ofNat 0)), some (.int (Int32.ofNat 1)), some (.int (Int32.ofNat 1)), some (.int (Int32.ofNat 4))] [] _ _ _ _
    refine hs_iload (i := 5) (p := 10) (by decide +kernel) rfl ?_
    refine hs_k (x := Int32.ofNat 4) (p := 11) (by decide +kernel) ?_
    refine hs_br2n (c := .ge) (t := 77) (f := 14) (by decide +kernel) (by omega) (by omega) (fun h => absurd h (show ¬ (4 ≤ 1) by decide)) (fun _ => ?_)
    refine hs_k (x := Int32.ofNat 0) (p := 15) (by decide +kernel) ?_
    refine hs_istore (i := 6) (p := 17) (by decide +kernel) (Nat.le_of_ble_eq_true rfl) ?_
    refine hs_k (x := Int32.ofNat 0) (p := 18) (by decide +kernel) ?_
    refine hs_istore (i := 7) (p := 20) (by decide +kernel) (Nat.le_of_ble_eq_true rfl) ?_
    refine fc_inL (n := 1) (m := 0) (Nat.zero_le _) ?_
    rw [hf 1 (by decide)]
    cases hb1 : f 1 with
    | true =>
      show et_go none (d + 1) 42 50 [some (.int x), some (.int (Int32.ofNat al)), some (.int (Int32.ofNat ac)), some (.int (Int32.ofNat 0)), some (.int (Int32.ofNat 0)), some (.int (Int32.ofNat 1)), some (.int (Int32.ofNat 1)), some (.int (Int32.ofNat 4))] [] _ _ _ _
      refine hs_iload (i := 6) (p := 52) (by decide +kernel) rfl ?_
      refine hs_if0 (c := .eq) (t := 71) (f := 55) (by decide +kernel) (show ¬ (Int32.ofNat 1 = 0) by decide) ?_
      refine hs_iload (i := 3) (p := 56) (by decide +kernel) rfl ?_
      refine hs_k (x := (-1)) (p := 57) (by decide +kernel) ?_
      refine hs_br2 (c := .ne) (t := 65) (f := 60) (by decide +kernel) (fun _ => ?_) (fun hz => absurd (show ¬ ((Int32.ofNat 0 : Int32) = (-1)) from xi_nm1 (by omega)) hz)
      refine hs_iload (i := 3) (p := 66) (by decide +kernel) rfl ?_
      refine hs_istore (i := 3) (p := 67) (by decide +kernel) (Nat.le_of_ble_eq_true rfl) ?_
      refine hs_iload (i := 5) (p := 69) (by decide +kernel) rfl ?_
      refine hs_istore (i := 4) (p := 71) (by decide +kernel) (Nat.le_of_ble_eq_true rfl) ?_
      refine hs_iinc1 (i := 5) (p := 74) (by decide +kernel) rfl (Nat.le_of_ble_eq_true rfl) ?_
      refine hs_goto (p := 8) (by decide +kernel) ?_
      show et_go none (d + 1) 42 8 [some (.int x), some (.int (Int32.ofNat al)), some (.int (Int32.ofNat ac)), some (.int (Int32.ofNat 0)), some (.int (Int32.ofNat 1)), some (.int (Int32.ofNat 2)), some (.int (Int32.ofNat 1)), some (.int (Int32.ofNat 4))] [] _ _ _ _
      refine hs_iload (i := 5) (p := 10) (by decide +kernel) rfl ?_
      refine hs_k (x := Int32.ofNat 4) (p := 11) (by decide +kernel) ?_
      refine hs_br2n (c := .ge) (t := 77) (f := 14) (by decide +kernel) (by omega) (by omega) (fun h => absurd h (show ¬ (4 ≤ 2) by decide)) (fun _ => ?_)
      refine hs_k (x := Int32.ofNat 0) (p := 15) (by decide +kernel) ?_
      refine hs_istore (i := 6) (p := 17) (by decide +kernel) (Nat.le_of_ble_eq_true rfl) ?_
      refine hs_k (x := Int32.ofNat 0) (p := 18) (by decide +kernel) ?_
      refine hs_istore (i := 7) (p := 20) (by decide +kernel) (Nat.le_of_ble_eq_true rfl) ?_
      refine fc_inL (n := 2) (m := 0) (Nat.zero_le _) ?_
      rw [hf 2 (by decide)]
      cases hb2 : f 2 with
      | true =>
        show et_go none (d + 1) 42 50 [some (.int x), some (.int (Int32.ofNat al)), some (.int (Int32.ofNat ac)), some (.int (Int32.ofNat 0)), some (.int (Int32.ofNat 1)), some (.int (Int32.ofNat 2)), some (.int (Int32.ofNat 1)), some (.int (Int32.ofNat 4))] [] _ _ _ _
        refine hs_iload (i := 6) (p := 52) (by decide +kernel) rfl ?_
        refine hs_if0 (c := .eq) (t := 71) (f := 55) (by decide +kernel) (show ¬ (Int32.ofNat 1 = 0) by decide) ?_
        refine hs_iload (i := 3) (p := 56) (by decide +kernel) rfl ?_
        refine hs_k (x := (-1)) (p := 57) (by decide +kernel) ?_
        refine hs_br2 (c := .ne) (t := 65) (f := 60) (by decide +kernel) (fun _ => ?_) (fun hz => absurd (show ¬ ((Int32.ofNat 0 : Int32) = (-1)) from xi_nm1 (by omega)) hz)
        refine hs_iload (i := 3) (p := 66) (by decide +kernel) rfl ?_
        refine hs_istore (i := 3) (p := 67) (by decide +kernel) (Nat.le_of_ble_eq_true rfl) ?_
        refine hs_iload (i := 5) (p := 69) (by decide +kernel) rfl ?_
        refine hs_istore (i := 4) (p := 71) (by decide +kernel) (Nat.le_of_ble_eq_true rfl) ?_
        refine hs_iinc1 (i := 5) (p := 74) (by decide +kernel) rfl (Nat.le_of_ble_eq_true rfl) ?_
        refine hs_goto (p := 8) (by decide +kernel) ?_
        show et_go none (d + 1) 42 8 [some (.int x), some (.int (Int32.ofNat al)), some (.int (Int32.ofNat ac)), some (.int (Int32.ofNat 0)), some (.int (Int32.ofNat 2)), some (.int (Int32.ofNat 3)), some (.int (Int32.ofNat 1)), some (.int (Int32.ofNat 4))] [] _ _ _ _
        refine hs_iload (i := 5) (p := 10) (by decide +kernel) rfl ?_
        refine hs_k (x := Int32.ofNat 4) (p := 11) (by decide +kernel) ?_
        refine hs_br2n (c := .ge) (t := 77) (f := 14) (by decide +kernel) (by omega) (by omega) (fun h => absurd h (show ¬ (4 ≤ 3) by decide)) (fun _ => ?_)
        refine hs_k (x := Int32.ofNat 0) (p := 15) (by decide +kernel) ?_
        refine hs_istore (i := 6) (p := 17) (by decide +kernel) (Nat.le_of_ble_eq_true rfl) ?_
        refine hs_k (x := Int32.ofNat 0) (p := 18) (by decide +kernel) ?_
        refine hs_istore (i := 7) (p := 20) (by decide +kernel) (Nat.le_of_ble_eq_true rfl) ?_
        refine fc_inL (n := 3) (m := 0) (Nat.zero_le _) ?_
        rw [hf 3 (by decide)]
        cases hb3 : f 3 with
        | true =>
          show et_go none (d + 1) 42 50 [some (.int x), some (.int (Int32.ofNat al)), some (.int (Int32.ofNat ac)), some (.int (Int32.ofNat 0)), some (.int (Int32.ofNat 2)), some (.int (Int32.ofNat 3)), some (.int (Int32.ofNat 1)), some (.int (Int32.ofNat 4))] [] _ _ _ _
          refine hs_iload (i := 6) (p := 52) (by decide +kernel) rfl ?_
          refine hs_if0 (c := .eq) (t := 71) (f := 55) (by decide +kernel) (show ¬ (Int32.ofNat 1 = 0) by decide) ?_
          refine hs_iload (i := 3) (p := 56) (by decide +kernel) rfl ?_
          refine hs_k (x := (-1)) (p := 57) (by decide +kernel) ?_
          refine hs_br2 (c := .ne) (t := 65) (f := 60) (by decide +kernel) (fun _ => ?_) (fun hz => absurd (show ¬ ((Int32.ofNat 0 : Int32) = (-1)) from xi_nm1 (by omega)) hz)
          refine hs_iload (i := 3) (p := 66) (by decide +kernel) rfl ?_
          refine hs_istore (i := 3) (p := 67) (by decide +kernel) (Nat.le_of_ble_eq_true rfl) ?_
          refine hs_iload (i := 5) (p := 69) (by decide +kernel) rfl ?_
          refine hs_istore (i := 4) (p := 71) (by decide +kernel) (Nat.le_of_ble_eq_true rfl) ?_
          refine hs_iinc1 (i := 5) (p := 74) (by decide +kernel) rfl (Nat.le_of_ble_eq_true rfl) ?_
          refine hs_goto (p := 8) (by decide +kernel) ?_
          show et_go none (d + 1) 42 8 [some (.int x), some (.int (Int32.ofNat al)), some (.int (Int32.ofNat ac)), some (.int (Int32.ofNat 0)), some (.int (Int32.ofNat 3)), some (.int (Int32.ofNat 4)), some (.int (Int32.ofNat 1)), some (.int (Int32.ofNat 4))] [] _ _ _ _
          refine hs_iload (i := 5) (p := 10) (by decide +kernel) rfl ?_
          refine hs_k (x := Int32.ofNat 4) (p := 11) (by decide +kernel) ?_
          refine hs_br2n (c := .ge) (t := 77) (f := 14) (by decide +kernel) (by omega) (by omega) (fun _ => ?_) (fun h => absurd (show 4 ≤ 4 by decide) h)
          refine hs_iload (i := 3) (p := 78) (by decide +kernel) rfl ?_
          refine hs_k (x := (-1)) (p := 79) (by decide +kernel) ?_
          refine hs_br2 (c := .ne) (t := 86) (f := 82) (by decide +kernel) (fun _ => ?_) (fun hz => absurd (show ¬ ((Int32.ofNat 0 : Int32) = (-1)) from xi_nm1 (by omega)) hz)
          refine hs_iload (i := 4) (p := 88) (by decide +kernel) rfl ?_
          refine hs_iload (i := 3) (p := 89) (by decide +kernel) rfl ?_
          refine hs_isubn (p := 90) (by decide +kernel) (by omega) ?_
          refine hs_k (x := Int32.ofNat 1) (p := 91) (by decide +kernel) ?_
          refine hs_iaddn (p := 92) (by decide +kernel) ?_
          refine hs_iret (by decide +kernel) ?_
          rw [show nrm f 4 = 15 from (nrm4 hb0 hb1 hb2 hb3).trans (by decide)]
          rfl
        | false =>
          show et_go none (d + 1) 42 50 [some (.int x), some (.int (Int32.ofNat al)), some (.int (Int32.ofNat ac)), some (.int (Int32.ofNat 0)), some (.int (Int32.ofNat 2)), some (.int (Int32.ofNat 3)), some (.int (Int32.ofNat 0)), some (.int (Int32.ofNat 4))] [] _ _ _ _
          refine hs_iload (i := 6) (p := 52) (by decide +kernel) rfl ?_
          refine hs_if1 (c := .eq) (t := 71) (f := 55) (by decide +kernel) (show Int32.ofNat 0 = 0 by decide) ?_
          refine hs_iinc1 (i := 5) (p := 74) (by decide +kernel) rfl (Nat.le_of_ble_eq_true rfl) ?_
          refine hs_goto (p := 8) (by decide +kernel) ?_
          show et_go none (d + 1) 42 8 [some (.int x), some (.int (Int32.ofNat al)), some (.int (Int32.ofNat ac)), some (.int (Int32.ofNat 0)), some (.int (Int32.ofNat 2)), some (.int (Int32.ofNat 4)), some (.int (Int32.ofNat 0)), some (.int (Int32.ofNat 4))] [] _ _ _ _
          refine hs_iload (i := 5) (p := 10) (by decide +kernel) rfl ?_
          refine hs_k (x := Int32.ofNat 4) (p := 11) (by decide +kernel) ?_
          refine hs_br2n (c := .ge) (t := 77) (f := 14) (by decide +kernel) (by omega) (by omega) (fun _ => ?_) (fun h => absurd (show 4 ≤ 4 by decide) h)
          refine hs_iload (i := 3) (p := 78) (by decide +kernel) rfl ?_
          refine hs_k (x := (-1)) (p := 79) (by decide +kernel) ?_
          refine hs_br2 (c := .ne) (t := 86) (f := 82) (by decide +kernel) (fun _ => ?_) (fun hz => absurd (show ¬ ((Int32.ofNat 0 : Int32) = (-1)) from xi_nm1 (by omega)) hz)
          refine hs_iload (i := 4) (p := 88) (by decide +kernel) rfl ?_
          refine hs_iload (i := 3) (p := 89) (by decide +kernel) rfl ?_
          refine hs_isubn (p := 90) (by decide +kernel) (by omega) ?_
          refine hs_k (x := Int32.ofNat 1) (p := 91) (by decide +kernel) ?_
          refine hs_iaddn (p := 92) (by decide +kernel) ?_
          refine hs_iret (by decide +kernel) ?_
          rw [show nrm f 4 = 7 from (nrm4 hb0 hb1 hb2 hb3).trans (by decide)]
          rfl
      | false =>
        show et_go none (d + 1) 42 50 [some (.int x), some (.int (Int32.ofNat al)), some (.int (Int32.ofNat ac)), some (.int (Int32.ofNat 0)), some (.int (Int32.ofNat 1)), some (.int (Int32.ofNat 2)), some (.int (Int32.ofNat 0)), some (.int (Int32.ofNat 4))] [] _ _ _ _
        refine hs_iload (i := 6) (p := 52) (by decide +kernel) rfl ?_
        refine hs_if1 (c := .eq) (t := 71) (f := 55) (by decide +kernel) (show Int32.ofNat 0 = 0 by decide) ?_
        refine hs_iinc1 (i := 5) (p := 74) (by decide +kernel) rfl (Nat.le_of_ble_eq_true rfl) ?_
        refine hs_goto (p := 8) (by decide +kernel) ?_
        show et_go none (d + 1) 42 8 [some (.int x), some (.int (Int32.ofNat al)), some (.int (Int32.ofNat ac)), some (.int (Int32.ofNat 0)), some (.int (Int32.ofNat 1)), some (.int (Int32.ofNat 3)), some (.int (Int32.ofNat 0)), some (.int (Int32.ofNat 4))] [] _ _ _ _
        refine hs_iload (i := 5) (p := 10) (by decide +kernel) rfl ?_
        refine hs_k (x := Int32.ofNat 4) (p := 11) (by decide +kernel) ?_
        refine hs_br2n (c := .ge) (t := 77) (f := 14) (by decide +kernel) (by omega) (by omega) (fun h => absurd h (show ¬ (4 ≤ 3) by decide)) (fun _ => ?_)
        refine hs_k (x := Int32.ofNat 0) (p := 15) (by decide +kernel) ?_
        refine hs_istore (i := 6) (p := 17) (by decide +kernel) (Nat.le_of_ble_eq_true rfl) ?_
        refine hs_k (x := Int32.ofNat 0) (p := 18) (by decide +kernel) ?_
        refine hs_istore (i := 7) (p := 20) (by decide +kernel) (Nat.le_of_ble_eq_true rfl) ?_
        refine fc_inL (n := 3) (m := 0) (Nat.zero_le _) ?_
        rw [hf 3 (by decide)]
        cases hb3 : f 3 with
        | true =>
          show et_go none (d + 1) 42 50 [some (.int x), some (.int (Int32.ofNat al)), some (.int (Int32.ofNat ac)), some (.int (Int32.ofNat 0)), some (.int (Int32.ofNat 1)), some (.int (Int32.ofNat 3)), some (.int (Int32.ofNat 1)), some (.int (Int32.ofNat 4))] [] _ _ _ _
          refine hs_iload (i := 6) (p := 52) (by decide +kernel) rfl ?_
          refine hs_if0 (c := .eq) (t := 71) (f := 55) (by decide +kernel) (show ¬ (Int32.ofNat 1 = 0) by decide) ?_
          refine hs_iload (i := 3) (p := 56) (by decide +kernel) rfl ?_
          refine hs_k (x := (-1)) (p := 57) (by decide +kernel) ?_
          refine hs_br2 (c := .ne) (t := 65) (f := 60) (by decide +kernel) (fun _ => ?_) (fun hz => absurd (show ¬ ((Int32.ofNat 0 : Int32) = (-1)) from xi_nm1 (by omega)) hz)
          refine hs_iload (i := 3) (p := 66) (by decide +kernel) rfl ?_
          refine hs_istore (i := 3) (p := 67) (by decide +kernel) (Nat.le_of_ble_eq_true rfl) ?_
          refine hs_iload (i := 5) (p := 69) (by decide +kernel) rfl ?_
          refine hs_istore (i := 4) (p := 71) (by decide +kernel) (Nat.le_of_ble_eq_true rfl) ?_
          refine hs_iinc1 (i := 5) (p := 74) (by decide +kernel) rfl (Nat.le_of_ble_eq_true rfl) ?_
          refine hs_goto (p := 8) (by decide +kernel) ?_
          show et_go none (d + 1) 42 8 [some (.int x), some (.int (Int32.ofNat al)), some (.int (Int32.ofNat ac)), some (.int (Int32.ofNat 0)), some (.int (Int32.ofNat 3)), some (.int (Int32.ofNat 4)), some (.int (Int32.ofNat 1)), some (.int (Int32.ofNat 4))] [] _ _ _ _
          refine hs_iload (i := 5) (p := 10) (by decide +kernel) rfl ?_
          refine hs_k (x := Int32.ofNat 4) (p := 11) (by decide +kernel) ?_
          refine hs_br2n (c := .ge) (t := 77) (f := 14) (by decide +kernel) (by omega) (by omega) (fun _ => ?_) (fun h => absurd (show 4 ≤ 4 by decide) h)
          refine hs_iload (i := 3) (p := 78) (by decide +kernel) rfl ?_
          refine hs_k (x := (-1)) (p := 79) (by decide +kernel) ?_
          refine hs_br2 (c := .ne) (t := 86) (f := 82) (by decide +kernel) (fun _ => ?_) (fun hz => absurd (show ¬ ((Int32.ofNat 0 : Int32) = (-1)) from xi_nm1 (by omega)) hz)
          refine hs_iload (i := 4) (p := 88) (by decide +kernel) rfl ?_
          refine hs_iload (i := 3) (p := 89) (by decide +kernel) rfl ?_
          refine hs_isubn (p := 90) (by decide +kernel) (by omega) ?_
          refine hs_k (x := Int32.ofNat 1) (p := 91) (by decide +kernel) ?_
          refine hs_iaddn (p := 92) (by decide +kernel) ?_
          refine hs_iret (by decide +kernel) ?_
          rw [show nrm f 4 = 11 from (nrm4 hb0 hb1 hb2 hb3).trans (by decide)]
          rfl
        | false =>
          show et_go none (d + 1) 42 50 [some (.int x), some (.int (Int32.ofNat al)), some (.int (Int32.ofNat ac)), some (.int (Int32.ofNat 0)), some (.int (Int32.ofNat 1)), some (.int (Int32.ofNat 3)), some (.int (Int32.ofNat 0)), some (.int (Int32.ofNat 4))] [] _ _ _ _
          refine hs_iload (i := 6) (p := 52) (by decide +kernel) rfl ?_
          refine hs_if1 (c := .eq) (t := 71) (f := 55) (by decide +kernel) (show Int32.ofNat 0 = 0 by decide) ?_
          refine hs_iinc1 (i := 5) (p := 74) (by decide +kernel) rfl (Nat.le_of_ble_eq_true rfl) ?_
          refine hs_goto (p := 8) (by decide +kernel) ?_
          show et_go none (d + 1) 42 8 [some (.int x), some (.int (Int32.ofNat al)), some (.int (Int32.ofNat ac)), some (.int (Int32.ofNat 0)), some (.int (Int32.ofNat 1)), some (.int (Int32.ofNat 4)), some (.int (Int32.ofNat 0)), some (.int (Int32.ofNat 4))] [] _ _ _ _
          refine hs_iload (i := 5) (p := 10) (by decide +kernel) rfl ?_
          refine hs_k (x := Int32.ofNat 4) (p := 11) (by decide +kernel) ?_
          refine hs_br2n (c := .ge) (t := 77) (f := 14) (by decide +kernel) (by omega) (by omega) (fun _ => ?_) (fun h => absurd (show 4 ≤ 4 by decide) h)
          refine hs_iload (i := 3) (p := 78) (by decide +kernel) rfl ?_
          refine hs_k (x := (-1)) (p := 79) (by decide +kernel) ?_
          refine hs_br2 (c := .ne) (t := 86) (f := 82) (by decide +kernel) (fun _ => ?_) (fun hz => absurd (show ¬ ((Int32.ofNat 0 : Int32) = (-1)) from xi_nm1 (by omega)) hz)
          refine hs_iload (i := 4) (p := 88) (by decide +kernel) rfl ?_
          refine hs_iload (i := 3) (p := 89) (by decide +kernel) rfl ?_
          refine hs_isubn (p := 90) (by decide +kernel) (by omega) ?_
          refine hs_k (x := Int32.ofNat 1) (p := 91) (by decide +kernel) ?_
          refine hs_iaddn (p := 92) (by decide +kernel) ?_
          refine hs_iret (by decide +kernel) ?_
          rw [show nrm f 4 = 3 from (nrm4 hb0 hb1 hb2 hb3).trans (by decide)]
          rfl
    | false =>
      show et_go none (d + 1) 42 50 [some (.int x), some (.int (Int32.ofNat al)), some (.int (Int32.ofNat ac)), some (.int (Int32.ofNat 0)), some (.int (Int32.ofNat 0)), some (.int (Int32.ofNat 1)), some (.int (Int32.ofNat 0)), some (.int (Int32.ofNat 4))] [] _ _ _ _
      refine hs_iload (i := 6) (p := 52) (by decide +kernel) rfl ?_
      refine hs_if1 (c := .eq) (t := 71) (f := 55) (by decide +kernel) (show Int32.ofNat 0 = 0 by decide) ?_
      refine hs_iinc1 (i := 5) (p := 74) (by decide +kernel) rfl (Nat.le_of_ble_eq_true rfl) ?_
      refine hs_goto (p := 8) (by decide +kernel) ?_
      show et_go none (d + 1) 42 8 [some (.int x), some (.int (Int32.ofNat al)), some (.int (Int32.ofNat ac)), some (.int (Int32.ofNat 0)), some (.int (Int32.ofNat 0)), some (.int (Int32.ofNat 2)), some (.int (Int32.ofNat 0)), some (.int (Int32.ofNat 4))] [] _ _ _ _
      refine hs_iload (i := 5) (p := 10) (by decide +kernel) rfl ?_
      refine hs_k (x := Int32.ofNat 4) (p := 11) (by decide +kernel) ?_
      refine hs_br2n (c := .ge) (t := 77) (f := 14) (by decide +kernel) (by omega) (by omega) (fun h => absurd h (show ¬ (4 ≤ 2) by decide)) (fun _ => ?_)
      refine hs_k (x := Int32.ofNat 0) (p := 15) (by decide +kernel) ?_
      refine hs_istore (i := 6) (p := 17) (by decide +kernel) (Nat.le_of_ble_eq_true rfl) ?_
      refine hs_k (x := Int32.ofNat 0) (p := 18) (by decide +kernel) ?_
      refine hs_istore (i := 7) (p := 20) (by decide +kernel) (Nat.le_of_ble_eq_true rfl) ?_
      refine fc_inL (n := 2) (m := 0) (Nat.zero_le _) ?_
      rw [hf 2 (by decide)]
      cases hb2 : f 2 with
      | true =>
        show et_go none (d + 1) 42 50 [some (.int x), some (.int (Int32.ofNat al)), some (.int (Int32.ofNat ac)), some (.int (Int32.ofNat 0)), some (.int (Int32.ofNat 0)), some (.int (Int32.ofNat 2)), some (.int (Int32.ofNat 1)), some (.int (Int32.ofNat 4))] [] _ _ _ _
        refine hs_iload (i := 6) (p := 52) (by decide +kernel) rfl ?_
        refine hs_if0 (c := .eq) (t := 71) (f := 55) (by decide +kernel) (show ¬ (Int32.ofNat 1 = 0) by decide) ?_
        refine hs_iload (i := 3) (p := 56) (by decide +kernel) rfl ?_
        refine hs_k (x := (-1)) (p := 57) (by decide +kernel) ?_
        refine hs_br2 (c := .ne) (t := 65) (f := 60) (by decide +kernel) (fun _ => ?_) (fun hz => absurd (show ¬ ((Int32.ofNat 0 : Int32) = (-1)) from xi_nm1 (by omega)) hz)
        refine hs_iload (i := 3) (p := 66) (by decide +kernel) rfl ?_
        refine hs_istore (i := 3) (p := 67) (by decide +kernel) (Nat.le_of_ble_eq_true rfl) ?_
        refine hs_iload (i := 5) (p := 69) (by decide +kernel) rfl ?_
        refine hs_istore (i := 4) (p := 71) (by decide +kernel) (Nat.le_of_ble_eq_true rfl) ?_
        refine hs_iinc1 (i := 5) (p := 74) (by decide +kernel) rfl (Nat.le_of_ble_eq_true rfl) ?_
        refine hs_goto (p := 8) (by decide +kernel) ?_
        show et_go none (d + 1) 42 8 [some (.int x), some (.int (Int32.ofNat al)), some (.int (Int32.ofNat ac)), some (.int (Int32.ofNat 0)), some (.int (Int32.ofNat 2)), some (.int (Int32.ofNat 3)), some (.int (Int32.ofNat 1)), some (.int (Int32.ofNat 4))] [] _ _ _ _
        refine hs_iload (i := 5) (p := 10) (by decide +kernel) rfl ?_
        refine hs_k (x := Int32.ofNat 4) (p := 11) (by decide +kernel) ?_
        refine hs_br2n (c := .ge) (t := 77) (f := 14) (by decide +kernel) (by omega) (by omega) (fun h => absurd h (show ¬ (4 ≤ 3) by decide)) (fun _ => ?_)
        refine hs_k (x := Int32.ofNat 0) (p := 15) (by decide +kernel) ?_
        refine hs_istore (i := 6) (p := 17) (by decide +kernel) (Nat.le_of_ble_eq_true rfl) ?_
        refine hs_k (x := Int32.ofNat 0) (p := 18) (by decide +kernel) ?_
        refine hs_istore (i := 7) (p := 20) (by decide +kernel) (Nat.le_of_ble_eq_true rfl) ?_
        refine fc_inL (n := 3) (m := 0) (Nat.zero_le _) ?_
        rw [hf 3 (by decide)]
        cases hb3 : f 3 with
        | true =>
          show et_go none (d + 1) 42 50 [some (.int x), some (.int (Int32.ofNat al)), some (.int (Int32.ofNat ac)), some (.int (Int32.ofNat 0)), some (.int (Int32.ofNat 2)), some (.int (Int32.ofNat 3)), some (.int (Int32.ofNat 1)), some (.int (Int32.ofNat 4))] [] _ _ _ _
          refine hs_iload (i := 6) (p := 52) (by decide +kernel) rfl ?_
          refine hs_if0 (c := .eq) (t := 71) (f := 55) (by decide +kernel) (show ¬ (Int32.ofNat 1 = 0) by decide) ?_
          refine hs_iload (i := 3) (p := 56) (by decide +kernel) rfl ?_
          refine hs_k (x := (-1)) (p := 57) (by decide +kernel) ?_
          refine hs_br2 (c := .ne) (t := 65) (f := 60) (by decide +kernel) (fun _ => ?_) (fun hz => absurd (show ¬ ((Int32.ofNat 0 : Int32) = (-1)) from xi_nm1 (by omega)) hz)
          refine hs_iload (i := 3) (p := 66) (by decide +kernel) rfl ?_
          refine hs_istore (i := 3) (p := 67) (by decide +kernel) (Nat.le_of_ble_eq_true rfl) ?_
          refine hs_iload (i := 5) (p := 69) (by decide +kernel) rfl ?_
          refine hs_istore (i := 4) (p := 71) (by decide +kernel) (Nat.le_of_ble_eq_true rfl) ?_
          refine hs_iinc1 (i := 5) (p := 74) (by decide +kernel) rfl (Nat.le_of_ble_eq_true rfl) ?_
          refine hs_goto (p := 8) (by decide +kernel) ?_
          show et_go none (d + 1) 42 8 [some (.int x), some (.int (Int32.ofNat al)), some (.int (Int32.ofNat ac)), some (.int (Int32.ofNat 0)), some (.int (Int32.ofNat 3)), some (.int (Int32.ofNat 4)), some (.int (Int32.ofNat 1)), some (.int (Int32.ofNat 4))] [] _ _ _ _
          refine hs_iload (i := 5) (p := 10) (by decide +kernel) rfl ?_
          refine hs_k (x := Int32.ofNat 4) (p := 11) (by decide +kernel) ?_
          refine hs_br2n (c := .ge) (t := 77) (f := 14) (by decide +kernel) (by omega) (by omega) (fun _ => ?_) (fun h => absurd (show 4 ≤ 4 by decide) h)
          refine hs_iload (i := 3) (p := 78) (by decide +kernel) rfl ?_
          refine hs_k (x := (-1)) (p := 79) (by decide +kernel) ?_
          refine hs_br2 (c := .ne) (t := 86) (f := 82) (by decide +kernel) (fun _ => ?_) (fun hz => absurd (show ¬ ((Int32.ofNat 0 : Int32) = (-1)) from xi_nm1 (by omega)) hz)
          refine hs_iload (i := 4) (p := 88) (by decide +kernel) rfl ?_
          refine hs_iload (i := 3) (p := 89) (by decide +kernel) rfl ?_
          refine hs_isubn (p := 90) (by decide +kernel) (by omega) ?_
          refine hs_k (x := Int32.ofNat 1) (p := 91) (by decide +kernel) ?_
          refine hs_iaddn (p := 92) (by decide +kernel) ?_
          refine hs_iret (by decide +kernel) ?_
          rw [show nrm f 4 = 13 from (nrm4 hb0 hb1 hb2 hb3).trans (by decide)]
          rfl
        | false =>
          show et_go none (d + 1) 42 50 [some (.int x), some (.int (Int32.ofNat al)), some (.int (Int32.ofNat ac)), some (.int (Int32.ofNat 0)), some (.int (Int32.ofNat 2)), some (.int (Int32.ofNat 3)), some (.int (Int32.ofNat 0)), some (.int (Int32.ofNat 4))] [] _ _ _ _
          refine hs_iload (i := 6) (p := 52) (by decide +kernel) rfl ?_
          refine hs_if1 (c := .eq) (t := 71) (f := 55) (by decide +kernel) (show Int32.ofNat 0 = 0 by decide) ?_
          refine hs_iinc1 (i := 5) (p := 74) (by decide +kernel) rfl (Nat.le_of_ble_eq_true rfl) ?_
          refine hs_goto (p := 8) (by decide +kernel) ?_
          show et_go none (d + 1) 42 8 [some (.int x), some (.int (Int32.ofNat al)), some (.int (Int32.ofNat ac)), some (.int (Int32.ofNat 0)), some (.int (Int32.ofNat 2)), some (.int (Int32.ofNat 4)), some (.int (Int32.ofNat 0)), some (.int (Int32.ofNat 4))] [] _ _ _ _
          refine hs_iload (i := 5) (p := 10) (by decide +kernel) rfl ?_
          refine hs_k (x := Int32.ofNat 4) (p := 11) (by decide +kernel) ?_
          refine hs_br2n (c := .ge) (t := 77) (f := 14) (by decide +kernel) (by omega) (by omega) (fun _ => ?_) (fun h => absurd (show 4 ≤ 4 by decide) h)
          refine hs_iload (i := 3) (p := 78) (by decide +kernel) rfl ?_
          refine hs_k (x := (-1)) (p := 79) (by decide +kernel) ?_
          refine hs_br2 (c := .ne) (t := 86) (f := 82) (by decide +kernel) (fun _ => ?_) (fun hz => absurd (show ¬ ((Int32.ofNat 0 : Int32) = (-1)) from xi_nm1 (by omega)) hz)
          refine hs_iload (i := 4) (p := 88) (by decide +kernel) rfl ?_
          refine hs_iload (i := 3) (p := 89) (by decide +kernel) rfl ?_
          refine hs_isubn (p := 90) (by decide +kernel) (by omega) ?_
          refine hs_k (x := Int32.ofNat 1) (p := 91) (by decide +kernel) ?_
          refine hs_iaddn (p := 92) (by decide +kernel) ?_
          refine hs_iret (by decide +kernel) ?_
          rw [show nrm f 4 = 5 from (nrm4 hb0 hb1 hb2 hb3).trans (by decide)]
          rfl
      | false =>
        show et_go none (d + 1) 42 50 [some (.int x), some (.int (Int32.ofNat al)), some (.int (Int32.ofNat ac)), some (.int (Int32.ofNat 0)), some (.int (Int32.ofNat 0)), some (.int (Int32.ofNat 2)), some (.int (Int32.ofNat 0)), some (.int (Int32.ofNat 4))] [] _ _ _ _
        refine hs_iload (i := 6) (p := 52) (by decide +kernel) rfl ?_
        refine hs_if1 (c := .eq) (t := 71) (f := 55) (by decide +kernel) (show Int32.ofNat 0 = 0 by decide) ?_
        refine hs_iinc1 (i := 5) (p := 74) (by decide +kernel) rfl (Nat.le_of_ble_eq_true rfl) ?_
        refine hs_goto (p := 8) (by decide +kernel) ?_
        show et_go none (d + 1) 42 8 [some (.int x), some (.int (Int32.ofNat al)), some (.int (Int32.ofNat ac)), some (.int (Int32.ofNat 0)), some (.int (Int32.ofNat 0)), some (.int (Int32.ofNat 3)), some (.int (Int32.ofNat 0)), some (.int (Int32.ofNat 4))] [] _ _ _ _
        refine hs_iload (i := 5) (p := 10) (by decide +kernel) rfl ?_
        refine hs_k (x := Int32.ofNat 4) (p := 11) (by decide +kernel) ?_
        refine hs_br2n (c := .ge) (t := 77) (f := 14) (by decide +kernel) (by omega) (by omega) (fun h => absurd h (show ¬ (4 ≤ 3) by decide)) (fun _ => ?_)
        refine hs_k (x := Int32.ofNat 0) (p := 15) (by decide +kernel) ?_
        refine hs_istore (i := 6) (p := 17) (by decide +kernel) (Nat.le_of_ble_eq_true rfl) ?_
        refine hs_k (x := Int32.ofNat 0) (p := 18) (by decide +kernel) ?_
        refine hs_istore (i := 7) (p := 20) (by decide +kernel) (Nat.le_of_ble_eq_true rfl) ?_
        refine fc_inL (n := 3) (m := 0) (Nat.zero_le _) ?_
        rw [hf 3 (by decide)]
        cases hb3 : f 3 with
        | true =>
          show et_go none (d + 1) 42 50 [some (.int x), some (.int (Int32.ofNat al)), some (.int (Int32.ofNat ac)), some (.int (Int32.ofNat 0)), some (.int (Int32.ofNat 0)), some (.int (Int32.ofNat 3)), some (.int (Int32.ofNat 1)), some (.int (Int32.ofNat 4))] [] _ _ _ _
          refine hs_iload (i := 6) (p := 52) (by decide +kernel) rfl ?_
          refine hs_if0 (c := .eq) (t := 71) (f := 55) (by decide +kernel) (show ¬ (Int32.ofNat 1 = 0) by decide) ?_
          refine hs_iload (i := 3) (p := 56) (by decide +kernel) rfl ?_
          refine hs_k (x := (-1)) (p := 57) (by decide +kernel) ?_
          refine hs_br2 (c := .ne) (t := 65) (f := 60) (by decide +kernel) (fun _ => ?_) (fun hz => absurd (show ¬ ((Int32.ofNat 0 : Int32) = (-1)) from xi_nm1 (by omega)) hz)
          refine hs_iload (i := 3) (p := 66) (by decide +kernel) rfl ?_
          refine hs_istore (i := 3) (p := 67) (by decide +kernel) (Nat.le_of_ble_eq_true rfl) ?_
          refine hs_iload (i := 5) (p := 69) (by decide +kernel) rfl ?_
          refine hs_istore (i := 4) (p := 71) (by decide +kernel) (Nat.le_of_ble_eq_true rfl) ?_
          refine hs_iinc1 (i := 5) (p := 74) (by decide +kernel) rfl (Nat.le_of_ble_eq_true rfl) ?_
          refine hs_goto (p := 8) (by decide +kernel) ?_
          show et_go none (d + 1) 42 8 [some (.int x), some (.int (Int32.ofNat al)), some (.int (Int32.ofNat ac)), some (.int (Int32.ofNat 0)), some (.int (Int32.ofNat 3)), some (.int (Int32.ofNat 4)), some (.int (Int32.ofNat 1)), some (.int (Int32.ofNat 4))] [] _ _ _ _
          refine hs_iload (i := 5) (p := 10) (by decide +kernel) rfl ?_
          refine hs_k (x := Int32.ofNat 4) (p := 11) (by decide +kernel) ?_
          refine hs_br2n (c := .ge) (t := 77) (f := 14) (by decide +kernel) (by omega) (by omega) (fun _ => ?_) (fun h => absurd (show 4 ≤ 4 by decide) h)
          refine hs_iload (i := 3) (p := 78) (by decide +kernel) rfl ?_
          refine hs_k (x := (-1)) (p := 79) (by decide +kernel) ?_
          refine hs_br2 (c := .ne) (t := 86) (f := 82) (by decide +kernel) (fun _ => ?_) (fun hz => absurd (show ¬ ((Int32.ofNat 0 : Int32) = (-1)) from xi_nm1 (by omega)) hz)
          refine hs_iload (i := 4) (p := 88) (by decide +kernel) rfl ?_
          refine hs_iload (i := 3) (p := 89) (by decide +kernel) rfl ?_
          refine hs_isubn (p := 90) (by decide +kernel) (by omega) ?_
          refine hs_k (x := Int32.ofNat 1) (p := 91) (by decide +kernel) ?_
          refine hs_iaddn (p := 92) (by decide +kernel) ?_
          refine hs_iret (by decide +kernel) ?_
          rw [show nrm f 4 = 9 from (nrm4 hb0 hb1 hb2 hb3).trans (by decide)]
          rfl
        | false =>
          show et_go none (d + 1) 42 50 [some (.int x), some (.int (Int32.ofNat al)), some (.int (Int32.ofNat ac)), some (.int (Int32.ofNat 0)), some (.int (Int32.ofNat 0)), some (.int (Int32.ofNat 3)), some (.int (Int32.ofNat 0)), some (.int (Int32.ofNat 4))] [] _ _ _ _
          refine hs_iload (i := 6) (p := 52) (by decide +kernel) rfl ?_
          refine hs_if1 (c := .eq) (t := 71) (f := 55) (by decide +kernel) (show Int32.ofNat 0 = 0 by decide) ?_
          refine hs_iinc1 (i := 5) (p := 74) (by decide +kernel) rfl (Nat.le_of_ble_eq_true rfl) ?_
          refine hs_goto (p := 8) (by decide +kernel) ?_
          show et_go none (d + 1) 42 8 [some (.int x), some (.int (Int32.ofNat al)), some (.int (Int32.ofNat ac)), some (.int (Int32.ofNat 0)), some (.int (Int32.ofNat 0)), some (.int (Int32.ofNat 4)), some (.int (Int32.ofNat 0)), some (.int (Int32.ofNat 4))] [] _ _ _ _
          refine hs_iload (i := 5) (p := 10) (by decide +kernel) rfl ?_
          refine hs_k (x := Int32.ofNat 4) (p := 11) (by decide +kernel) ?_
          refine hs_br2n (c := .ge) (t := 77) (f := 14) (by decide +kernel) (by omega) (by omega) (fun _ => ?_) (fun h => absurd (show 4 ≤ 4 by decide) h)
          refine hs_iload (i := 3) (p := 78) (by decide +kernel) rfl ?_
          refine hs_k (x := (-1)) (p := 79) (by decide +kernel) ?_
          refine hs_br2 (c := .ne) (t := 86) (f := 82) (by decide +kernel) (fun _ => ?_) (fun hz => absurd (show ¬ ((Int32.ofNat 0 : Int32) = (-1)) from xi_nm1 (by omega)) hz)
          refine hs_iload (i := 4) (p := 88) (by decide +kernel) rfl ?_
          refine hs_iload (i := 3) (p := 89) (by decide +kernel) rfl ?_
          refine hs_isubn (p := 90) (by decide +kernel) (by omega) ?_
          refine hs_k (x := Int32.ofNat 1) (p := 91) (by decide +kernel) ?_
          refine hs_iaddn (p := 92) (by decide +kernel) ?_
          refine hs_iret (by decide +kernel) ?_
          rw [show nrm f 4 = 1 from (nrm4 hb0 hb1 hb2 hb3).trans (by decide)]
          rfl
  | false =>
    show et_go none (d + 1) 42 50 [some (.int x), some (.int (Int32.ofNat al)), some (.int (Int32.ofNat ac)), some (.int (-1)), some (.int (-1)), some (.int (Int32.ofNat 0)), some (.int (Int32.ofNat 0)), some (.int (Int32.ofNat 4))] [] _ _ _ _
    refine hs_iload (i := 6) (p := 52) (by decide +kernel) rfl ?_
    refine hs_if1 (c := .eq) (t := 71) (f := 55) (by decide +kernel) (show Int32.ofNat 0 = 0 by decide) ?_
    refine hs_iinc1 (i := 5) (p := 74) (by decide +kernel) rfl (Nat.le_of_ble_eq_true rfl) ?_
    refine hs_goto (p := 8) (by decide +kernel) ?_
    show et_go none (d + 1) 42 8 [some (.int x), some (.int (Int32.ofNat al)), some (.int (Int32.ofNat ac)), some (.int (-1)), some (.int (-1)), some (.int (Int32.ofNat 1)), some (.int (Int32.ofNat 0)), some (.int (Int32.ofNat 4))] [] _ _ _ _
    refine hs_iload (i := 5) (p := 10) (by decide +kernel) rfl ?_
    refine hs_k (x := Int32.ofNat 4) (p := 11) (by decide +kernel) ?_
    refine hs_br2n (c := .ge) (t := 77) (f := 14) (by decide +kernel) (by omega) (by omega) (fun h => absurd h (show ¬ (4 ≤ 1) by decide)) (fun _ => ?_)
    refine hs_k (x := Int32.ofNat 0) (p := 15) (by decide +kernel) ?_
    refine hs_istore (i := 6) (p := 17) (by decide +kernel) (Nat.le_of_ble_eq_true rfl) ?_
    refine hs_k (x := Int32.ofNat 0) (p := 18) (by decide +kernel) ?_
    refine hs_istore (i := 7) (p := 20) (by decide +kernel) (Nat.le_of_ble_eq_true rfl) ?_
    refine fc_inL (n := 1) (m := 0) (Nat.zero_le _) ?_
    rw [hf 1 (by decide)]
    cases hb1 : f 1 with
    | true =>
      show et_go none (d + 1) 42 50 [some (.int x), some (.int (Int32.ofNat al)), some (.int (Int32.ofNat ac)), some (.int (-1)), some (.int (-1)), some (.int (Int32.ofNat 1)), some (.int (Int32.ofNat 1)), some (.int (Int32.ofNat 4))] [] _ _ _ _
      refine hs_iload (i := 6) (p := 52) (by decide +kernel) rfl ?_
      refine hs_if0 (c := .eq) (t := 71) (f := 55) (by decide +kernel) (show ¬ (Int32.ofNat 1 = 0) by decide) ?_
      refine hs_iload (i := 3) (p := 56) (by decide +kernel) rfl ?_
      refine hs_k (x := (-1)) (p := 57) (by decide +kernel) ?_
      refine hs_br2 (c := .ne) (t := 65) (f := 60) (by decide +kernel) (fun hz => absurd rfl hz) (fun _ => ?_)
      refine hs_iload (i := 5) (p := 62) (by decide +kernel) rfl ?_
      refine hs_goto (p := 66) (by decide +kernel) ?_
      refine hs_istore (i := 3) (p := 67) (by decide +kernel) (Nat.le_of_ble_eq_true rfl) ?_
      refine hs_iload (i := 5) (p := 69) (by decide +kernel) rfl ?_
      refine hs_istore (i := 4) (p := 71) (by decide +kernel) (Nat.le_of_ble_eq_true rfl) ?_
      refine hs_iinc1 (i := 5) (p := 74) (by decide +kernel) rfl (Nat.le_of_ble_eq_true rfl) ?_
      refine hs_goto (p := 8) (by decide +kernel) ?_
      show et_go none (d + 1) 42 8 [some (.int x), some (.int (Int32.ofNat al)), some (.int (Int32.ofNat ac)), some (.int (Int32.ofNat 1)), some (.int (Int32.ofNat 1)), some (.int (Int32.ofNat 2)), some (.int (Int32.ofNat 1)), some (.int (Int32.ofNat 4))] [] _ _ _ _
      refine hs_iload (i := 5) (p := 10) (by decide +kernel) rfl ?_
      refine hs_k (x := Int32.ofNat 4) (p := 11) (by decide +kernel) ?_
      refine hs_br2n (c := .ge) (t := 77) (f := 14) (by decide +kernel) (by omega) (by omega) (fun h => absurd h (show ¬ (4 ≤ 2) by decide)) (fun _ => ?_)
      refine hs_k (x := Int32.ofNat 0) (p := 15) (by decide +kernel) ?_
      refine hs_istore (i := 6) (p := 17) (by decide +kernel) (Nat.le_of_ble_eq_true rfl) ?_
      refine hs_k (x := Int32.ofNat 0) (p := 18) (by decide +kernel) ?_
      refine hs_istore (i := 7) (p := 20) (by decide +kernel) (Nat.le_of_ble_eq_true rfl) ?_
      refine fc_inL (n := 2) (m := 0) (Nat.zero_le _) ?_
      rw [hf 2 (by decide)]
      cases hb2 : f 2 with
      | true =>
        show et_go none (d + 1) 42 50 [some (.int x), some (.int (Int32.ofNat al)), some (.int (Int32.ofNat ac)), some (.int (Int32.ofNat 1)), some (.int (Int32.ofNat 1)), some (.int (Int32.ofNat 2)), some (.int (Int32.ofNat 1)), some (.int (Int32.ofNat 4))] [] _ _ _ _
        refine hs_iload (i := 6) (p := 52) (by decide +kernel) rfl ?_
        refine hs_if0 (c := .eq) (t := 71) (f := 55) (by decide +kernel) (show ¬ (Int32.ofNat 1 = 0) by decide) ?_
        refine hs_iload (i := 3) (p := 56) (by decide +kernel) rfl ?_
        refine hs_k (x := (-1)) (p := 57) (by decide +kernel) ?_
        refine hs_br2 (c := .ne) (t := 65) (f := 60) (by decide +kernel) (fun _ => ?_) (fun hz => absurd (show ¬ ((Int32.ofNat 1 : Int32) = (-1)) from xi_nm1 (by omega)) hz)
        refine hs_iload (i := 3) (p := 66) (by decide +kernel) rfl ?_
        refine hs_istore (i := 3) (p := 67) (by decide +kernel) (Nat.le_of_ble_eq_true rfl) ?_
        refine hs_iload (i := 5) (p := 69) (by decide +kernel) rfl ?_
        refine hs_istore (i := 4) (p := 71) (by decide +kernel) (Nat.le_of_ble_eq_true rfl) ?_
        refine hs_iinc1 (i := 5) (p := 74) (by decide +kernel) rfl (Nat.le_of_ble_eq_true rfl) ?_
        refine hs_goto (p := 8) (by decide +kernel) ?_
        show et_go none (d + 1) 42 8 [some (.int x), some (.int (Int32.ofNat al)), some (.int (Int32.ofNat ac)), some (.int (Int32.ofNat 1)), some (.int (Int32.ofNat 2)), some (.int (Int32.ofNat 3)), some (.int (Int32.ofNat 1)), some (.int (Int32.ofNat 4))] [] _ _ _ _
        refine hs_iload (i := 5) (p := 10) (by decide +kernel) rfl ?_
        refine hs_k (x := Int32.ofNat 4) (p := 11) (by decide +kernel) ?_
        refine hs_br2n (c := .ge) (t := 77) (f := 14) (by decide +kernel) (by omega) (by omega) (fun h => absurd h (show ¬ (4 ≤ 3) by decide)) (fun _ => ?_)
        refine hs_k (x := Int32.ofNat 0) (p := 15) (by decide +kernel) ?_
        refine hs_istore (i := 6) (p := 17) (by decide +kernel) (Nat.le_of_ble_eq_true rfl) ?_
        refine hs_k (x := Int32.ofNat 0) (p := 18) (by decide +kernel) ?_
        refine hs_istore (i := 7) (p := 20) (by decide +kernel) (Nat.le_of_ble_eq_true rfl) ?_
        refine fc_inL (n := 3) (m := 0) (Nat.zero_le _) ?_
        rw [hf 3 (by decide)]
        cases hb3 : f 3 with
        | true =>
          show et_go none (d + 1) 42 50 [some (.int x), some (.int (Int32.ofNat al)), some (.int (Int32.ofNat ac)), some (.int (Int32.ofNat 1)), some (.int (Int32.ofNat 2)), some (.int (Int32.ofNat 3)), some (.int (Int32.ofNat 1)), some (.int (Int32.ofNat 4))] [] _ _ _ _
          refine hs_iload (i := 6) (p := 52) (by decide +kernel) rfl ?_
          refine hs_if0 (c := .eq) (t := 71) (f := 55) (by decide +kernel) (show ¬ (Int32.ofNat 1 = 0) by decide) ?_
          refine hs_iload (i := 3) (p := 56) (by decide +kernel) rfl ?_
          refine hs_k (x := (-1)) (p := 57) (by decide +kernel) ?_
          refine hs_br2 (c := .ne) (t := 65) (f := 60) (by decide +kernel) (fun _ => ?_) (fun hz => absurd (show ¬ ((Int32.ofNat 1 : Int32) = (-1)) from xi_nm1 (by omega)) hz)
          refine hs_iload (i := 3) (p := 66) (by decide +kernel) rfl ?_
          refine hs_istore (i := 3) (p := 67) (by decide +kernel) (Nat.le_of_ble_eq_true rfl) ?_
          refine hs_iload (i := 5) (p := 69) (by decide +kernel) rfl ?_
          refine hs_istore (i := 4) (p := 71) (by decide +kernel) (Nat.le_of_ble_eq_true rfl) ?_
          refine hs_iinc1 (i := 5) (p := 74) (by decide +kernel) rfl (Nat.le_of_ble_eq_true rfl) ?_
          refine hs_goto (p := 8) (by decide +kernel) ?_
          show et_go none (d + 1) 42 8 [some (.int x), some (.int (Int32.ofNat al)), some (.int (Int32.ofNat ac)), some (.int (Int32.ofNat 1)), some (.int (Int32.ofNat 3)), some (.int (Int32.ofNat 4)), some (.int (Int32.ofNat 1)), some (.int (Int32.ofNat 4))] [] _ _ _ _
          refine hs_iload (i := 5) (p := 10) (by decide +kernel) rfl ?_
          refine hs_k (x := Int32.ofNat 4) (p := 11) (by decide +kernel) ?_
          refine hs_br2n (c := .ge) (t := 77) (f := 14) (by decide +kernel) (by omega) (by omega) (fun _ => ?_) (fun h => absurd (show 4 ≤ 4 by decide) h)
          refine hs_iload (i := 3) (p := 78) (by decide +kernel) rfl ?_
          refine hs_k (x := (-1)) (p := 79) (by decide +kernel) ?_
          refine hs_br2 (c := .ne) (t := 86) (f := 82) (by decide +kernel) (fun _ => ?_) (fun hz => absurd (show ¬ ((Int32.ofNat 1 : Int32) = (-1)) from xi_nm1 (by omega)) hz)
          refine hs_iload (i := 4) (p := 88) (by decide +kernel) rfl ?_
          refine hs_iload (i := 3) (p := 89) (by decide +kernel) rfl ?_
          refine hs_isubn (p := 90) (by decide +kernel) (by omega) ?_
          refine hs_k (x := Int32.ofNat 1) (p := 91) (by decide +kernel) ?_
          refine hs_iaddn (p := 92) (by decide +kernel) ?_
          refine hs_iret (by decide +kernel) ?_
          rw [show nrm f 4 = 14 from (nrm4 hb0 hb1 hb2 hb3).trans (by decide)]
          rfl
        | false =>
          show et_go none (d + 1) 42 50 [some (.int x), some (.int (Int32.ofNat al)), some (.int (Int32.ofNat ac)), some (.int (Int32.ofNat 1)), some (.int (Int32.ofNat 2)), some (.int (Int32.ofNat 3)), some (.int (Int32.ofNat 0)), some (.int (Int32.ofNat 4))] [] _ _ _ _
          refine hs_iload (i := 6) (p := 52) (by decide +kernel) rfl ?_
          refine hs_if1 (c := .eq) (t := 71) (f := 55) (by decide +kernel) (show Int32.ofNat 0 = 0 by decide) ?_
          refine hs_iinc1 (i := 5) (p := 74) (by decide +kernel) rfl (Nat.le_of_ble_eq_true rfl) ?_
          refine hs_goto (p := 8) (by decide +kernel) ?_
          show et_go none (d + 1) 42 8 [some (.int x), some (.int (Int32.ofNat al)), some (.int (Int32.ofNat ac)), some (.int (Int32.ofNat 1)), some (.int (Int32.ofNat 2)), some (.int (Int32.ofNat 4)), some (.int (Int32.ofNat 0)), some (.int (Int32.ofNat 4))] [] _ _ _ _
          refine hs_iload (i := 5) (p := 10) (by decide +kernel) rfl ?_
          refine hs_k (x := Int32.ofNat 4) (p := 11) (by decide +kernel) ?_
          refine hs_br2n (c := .ge) (t := 77) (f := 14) (by decide +kernel) (by omega) (by omega) (fun _ => ?_) (fun h => absurd (show 4 ≤ 4 by decide) h)
          refine hs_iload (i := 3) (p := 78) (by decide +kernel) rfl ?_
          refine hs_k (x := (-1)) (p := 79) (by decide +kernel) ?_
          refine hs_br2 (c := .ne) (t := 86) (f := 82) (by decide +kernel) (fun _ => ?_) (fun hz => absurd (show ¬ ((Int32.ofNat 1 : Int32) = (-1)) from xi_nm1 (by omega)) hz)
          refine hs_iload (i := 4) (p := 88) (by decide +kernel) rfl ?_
          refine hs_iload (i := 3) (p := 89) (by decide +kernel) rfl ?_
          refine hs_isubn (p := 90) (by decide +kernel) (by omega) ?_
          refine hs_k (x := Int32.ofNat 1) (p := 91) (by decide +kernel) ?_
          refine hs_iaddn (p := 92) (by decide +kernel) ?_
          refine hs_iret (by decide +kernel) ?_
          rw [show nrm f 4 = 6 from (nrm4 hb0 hb1 hb2 hb3).trans (by decide)]
          rfl
      | false =>
        show et_go none (d + 1) 42 50 [some (.int x), some (.int (Int32.ofNat al)), some (.int (Int32.ofNat ac)), some (.int (Int32.ofNat 1)), some (.int (Int32.ofNat 1)), some (.int (Int32.ofNat 2)), some (.int (Int32.ofNat 0)), some (.int (Int32.ofNat 4))] [] _ _ _ _
        refine hs_iload (i := 6) (p := 52) (by decide +kernel) rfl ?_
        refine hs_if1 (c := .eq) (t := 71) (f := 55) (by decide +kernel) (show Int32.ofNat 0 = 0 by decide) ?_
        refine hs_iinc1 (i := 5) (p := 74) (by decide +kernel) rfl (Nat.le_of_ble_eq_true rfl) ?_
        refine hs_goto (p := 8) (by decide +kernel) ?_
        show et_go none (d + 1) 42 8 [some (.int x), some (.int (Int32.ofNat al)), some (.int (Int32.ofNat ac)), some (.int (Int32.ofNat 1)), some (.int (Int32.ofNat 1)), some (.int (Int32.ofNat 3)), some (.int (Int32.ofNat 0)), some (.int (Int32.ofNat 4))] [] _ _ _ _
        refine hs_iload (i := 5) (p := 10) (by decide +kernel) rfl ?_
        refine hs_k (x := Int32.ofNat 4) (p := 11) (by decide +kernel) ?_
        refine hs_br2n (c := .ge) (t := 77) (f := 14) (by decide +kernel) (by omega) (by omega) (fun h => absurd h (show ¬ (4 ≤ 3) by decide)) (fun _ => ?_)
        refine hs_k (x := Int32.ofNat 0) (p := 15) (by decide +kernel) ?_
        refine hs_istore (i := 6) (p := 17) (by decide +kernel) (Nat.le_of_ble_eq_true rfl) ?_
        refine hs_k (x := Int32.ofNat 0) (p := 18) (by decide +kernel) ?_
        refine hs_istore (i := 7) (p := 20) (by decide +kernel) (Nat.le_of_ble_eq_true rfl) ?_
        refine fc_inL (n := 3) (m := 0) (Nat.zero_le _) ?_
        rw [hf 3 (by decide)]
        cases hb3 : f 3 with
        | true =>
          show et_go none (d + 1) 42 50 [some (.int x), some (.int (Int32.ofNat al)), some (.int (Int32.ofNat ac)), some (.int (Int32.ofNat 1)), some (.int (Int32.ofNat 1)), some (.int (Int32.ofNat 3)), some (.int (Int32.ofNat 1)), some (.int (Int32.ofNat 4))] [] _ _ _ _
          refine hs_iload (i := 6) (p := 52) (by decide +kernel) rfl ?_
          refine hs_if0 (c := .eq) (t := 71) (f := 55) (by decide +kernel) (show ¬ (Int32.ofNat 1 = 0) by decide) ?_
          refine hs_iload (i := 3) (p := 56) (by decide +kernel) rfl ?_
          refine hs_k (x := (-1)) (p := 57) (by decide +kernel) ?_
          refine hs_br2 (c := .ne) (t := 65) (f := 60) (by decide +kernel) (fun _ => ?_) (fun hz => absurd (show ¬ ((Int32.ofNat 1 : Int32) = (-1)) from xi_nm1 (by omega)) hz)
          refine hs_iload (i := 3) (p := 66) (by decide +kernel) rfl ?_
          refine hs_istore (i := 3) (p := 67) (by decide +kernel) (Nat.le_of_ble_eq_true rfl) ?_
          refine hs_iload (i := 5) (p := 69) (by decide +kernel) rfl ?_
          refine hs_istore (i := 4) (p := 71) (by decide +kernel) (Nat.le_of_ble_eq_true rfl) ?_
          refine hs_iinc1 (i := 5) (p := 74) (by decide +kernel) rfl (Nat.le_of_ble_eq_true rfl) ?_
          refine hs_goto (p := 8) (by decide +kernel) ?_
          show et_go none (d + 1) 42 8 [some (.int x), some (.int (Int32.ofNat al)), some (.int (Int32.ofNat ac)), some (.int (Int32.ofNat 1)), some (.int (Int32.ofNat 3)), some (.int (Int32.ofNat 4)), some (.int (Int32.ofNat 1)), some (.int (Int32.ofNat 4))] [] _ _ _ _
          refine hs_iload (i := 5) (p := 10) (by decide +kernel) rfl ?_
          refine hs_k (x := Int32.ofNat 4) (p := 11) (by decide +kernel) ?_
          refine hs_br2n (c := .ge) (t := 77) (f := 14) (by decide +kernel) (by omega) (by omega) (fun _ => ?_) (fun h => absurd (show 4 ≤ 4 by decide) h)
          refine hs_iload (i := 3) (p := 78) (by decide +kernel) rfl ?_
          refine hs_k (x := (-1)) (p := 79) (by decide +kernel) ?_
          refine hs_br2 (c := .ne) (t := 86) (f := 82) (by decide +kernel) (fun _ => ?_) (fun hz => absurd (show ¬ ((Int32.ofNat 1 : Int32) = (-1)) from xi_nm1 (by omega)) hz)
          refine hs_iload (i := 4) (p := 88) (by decide +kernel) rfl ?_
          refine hs_iload (i := 3) (p := 89) (by decide +kernel) rfl ?_
          refine hs_isubn (p := 90) (by decide +kernel) (by omega) ?_
          refine hs_k (x := Int32.ofNat 1) (p := 91) (by decide +kernel) ?_
          refine hs_iaddn (p := 92) (by decide +kernel) ?_
          refine hs_iret (by decide +kernel) ?_
          rw [show nrm f 4 = 10 from (nrm4 hb0 hb1 hb2 hb3).trans (by decide)]
          rfl
        | false =>
          show et_go none (d + 1) 42 50 [some (.int x), some (.int (Int32.ofNat al)), some (.int (Int32.ofNat ac)), some (.int (Int32.ofNat 1)), some (.int (Int32.ofNat 1)), some (.int (Int32.ofNat 3)), some (.int (Int32.ofNat 0)), some (.int (Int32.ofNat 4))] [] _ _ _ _
          refine hs_iload (i := 6) (p := 52) (by decide +kernel) rfl ?_
          refine hs_if1 (c := .eq) (t := 71) (f := 55) (by decide +kernel) (show Int32.ofNat 0 = 0 by decide) ?_
          refine hs_iinc1 (i := 5) (p := 74) (by decide +kernel) rfl (Nat.le_of_ble_eq_true rfl) ?_
          refine hs_goto (p := 8) (by decide +kernel) ?_
          show et_go none (d + 1) 42 8 [some (.int x), some (.int (Int32.ofNat al)), some (.int (Int32.ofNat ac)), some (.int (Int32.ofNat 1)), some (.int (Int32.ofNat 1)), some (.int (Int32.ofNat 4)), some (.int (Int32.ofNat 0)), some (.int (Int32.ofNat 4))] [] _ _ _ _
          refine hs_iload (i := 5) (p := 10) (by decide +kernel) rfl ?_
          refine hs_k (x := Int32.ofNat 4) (p := 11) (by decide +kernel) ?_
          refine hs_br2n (c := .ge) (t := 77) (f := 14) (by decide +kernel) (by omega) (by omega) (fun _ => ?_) (fun h => absurd (show 4 ≤ 4 by decide) h)
          refine hs_iload (i := 3) (p := 78) (by decide +kernel) rfl ?_
          refine hs_k (x := (-1)) (p := 79) (by decide +kernel) ?_
          refine hs_br2 (c := .ne) (t := 86) (f := 82) (by decide +kernel) (fun _ => ?_) (fun hz => absurd (show ¬ ((Int32.ofNat 1 : Int32) = (-1)) from xi_nm1 (by omega)) hz)
          refine hs_iload (i := 4) (p := 88) (by decide +kernel) rfl ?_
          refine hs_iload (i := 3) (p := 89) (by decide +kernel) rfl ?_
          refine hs_isubn (p := 90) (by decide +kernel) (by omega) ?_
          refine hs_k (x := Int32.ofNat 1) (p := 91) (by decide +kernel) ?_
          refine hs_iaddn (p := 92) (by decide +kernel) ?_
          refine hs_iret (by decide +kernel) ?_
          rw [show nrm f 4 = 2 from (nrm4 hb0 hb1 hb2 hb3).trans (by decide)]
          rfl
    | false =>
      show et_go none (d + 1) 42 50 [some (.int x), some (.int (Int32.ofNat al)), some (.int (Int32.ofNat ac)), some (.int (-1)), some (.int (-1)), some (.int (Int32.ofNat 1)), some (.int (Int32.ofNat 0)), some (.int (Int32.ofNat 4))] [] _ _ _ _
      refine hs_iload (i := 6) (p := 52) (by decide +kernel) rfl ?_
      refine hs_if1 (c := .eq) (t := 71) (f := 55) (by decide +kernel) (show Int32.ofNat 0 = 0 by decide) ?_
      refine hs_iinc1 (i := 5) (p := 74) (by decide +kernel) rfl (Nat.le_of_ble_eq_true rfl) ?_
      refine hs_goto (p := 8) (by decide +kernel) ?_
      show et_go none (d + 1) 42 8 [some (.int x), some (.int (Int32.ofNat al)), some (.int (Int32.ofNat ac)), some (.int (-1)), some (.int (-1)), some (.int (Int32.ofNat 2)), some (.int (Int32.ofNat 0)), some (.int (Int32.ofNat 4))] [] _ _ _ _
      refine hs_iload (i := 5) (p := 10) (by decide +kernel) rfl ?_
      refine hs_k (x := Int32.ofNat 4) (p := 11) (by decide +kernel) ?_
      refine hs_br2n (c := .ge) (t := 77) (f := 14) (by decide +kernel) (by omega) (by omega) (fun h => absurd h (show ¬ (4 ≤ 2) by decide)) (fun _ => ?_)
      refine hs_k (x := Int32.ofNat 0) (p := 15) (by decide +kernel) ?_
      refine hs_istore (i := 6) (p := 17) (by decide +kernel) (Nat.le_of_ble_eq_true rfl) ?_
      refine hs_k (x := Int32.ofNat 0) (p := 18) (by decide +kernel) ?_
      refine hs_istore (i := 7) (p := 20) (by decide +kernel) (Nat.le_of_ble_eq_true rfl) ?_
      refine fc_inL (n := 2) (m := 0) (Nat.zero_le _) ?_
      rw [hf 2 (by decide)]
      cases hb2 : f 2 with
      | true =>
        show et_go none (d + 1) 42 50 [some (.int x), some (.int (Int32.ofNat al)), some (.int (Int32.ofNat ac)), some (.int (-1)), some (.int (-1)), some (.int (Int32.ofNat 2)), some (.int (Int32.ofNat 1)), some (.int (Int32.ofNat 4))] [] _ _ _ _
        refine hs_iload (i := 6) (p := 52) (by decide +kernel) rfl ?_
        refine hs_if0 (c := .eq) (t := 71) (f := 55) (by decide +kernel) (show ¬ (Int32.ofNat 1 = 0) by decide) ?_
        refine hs_iload (i := 3) (p := 56) (by decide +kernel) rfl ?_
        refine hs_k (x := (-1)) (p := 57) (by decide +kernel) ?_
        refine hs_br2 (c := .ne) (t := 65) (f := 60) (by decide +kernel) (fun hz => absurd rfl hz) (fun _ => ?_)
        refine hs_iload (i := 5) (p := 62) (by decide +kernel) rfl ?_
        refine hs_goto (p := 66) (by decide +kernel) ?_
        refine hs_istore (i := 3) (p := 67) (by decide +kernel) (Nat.le_of_ble_eq_true rfl) ?_
        refine hs_iload (i := 5) (p := 69) (by decide +kernel) rfl ?_
        refine hs_istore (i := 4) (p := 71) (by decide +kernel) (Nat.le_of_ble_eq_true rfl) ?_
        refine hs_iinc1 (i := 5) (p := 74) (by decide +kernel) rfl (Nat.le_of_ble_eq_true rfl) ?_
        refine hs_goto (p := 8) (by decide +kernel) ?_
        show et_go none (d + 1) 42 8 [some (.int x), some (.int (Int32.ofNat al)), some (.int (Int32.ofNat ac)), some (.int (Int32.ofNat 2)), some (.int (Int32.ofNat 2)), some (.int (Int32.ofNat 3)), some (.int (Int32.ofNat 1)), some (.int (Int32.ofNat 4))] [] _ _ _ _
        refine hs_iload (i := 5) (p := 10) (by decide +kernel) rfl ?_
        refine hs_k (x := Int32.ofNat 4) (p := 11) (by decide +kernel) ?_
        refine hs_br2n (c := .ge) (t := 77) (f := 14) (by decide +kernel) (by omega) (by omega) (fun h => absurd h (show ¬ (4 ≤ 3) by decide)) (fun _ => ?_)
        refine hs_k (x := Int32.ofNat 0) (p := 15) (by decide +kernel) ?_
        refine hs_istore (i := 6) (p := 17) (by decide +kernel) (Nat.le_of_ble_eq_true rfl) ?_
        refine hs_k (x := Int32.ofNat 0) (p := 18) (by decide +kernel) ?_
        refine hs_istore (i := 7) (p := 20) (by decide +kernel) (Nat.le_of_ble_eq_true rfl) ?_
        refine fc_inL (n := 3) (m := 0) (Nat.zero_le _) ?_
        rw [hf 3 (by decide)]
        cases hb3 : f 3 with
        | true =>
          show et_go none (d + 1) 42 50 [some (.int x), some (.int (Int32.ofNat al)), some (.int (Int32.ofNat ac)), some (.int (Int32.ofNat 2)), some (.int (Int32.ofNat 2)), some (.int (Int32.ofNat 3)), some (.int (Int32.ofNat 1)), some (.int (Int32.ofNat 4))] [] _ _ _ _
          refine hs_iload (i := 6) (p := 52) (by decide +kernel) rfl ?_
          refine hs_if0 (c := .eq) (t := 71) (f := 55) (by decide +kernel) (show ¬ (Int32.ofNat 1 = 0) by decide) ?_
          refine hs_iload (i := 3) (p := 56) (by decide +kernel) rfl ?_
          refine hs_k (x := (-1)) (p := 57) (by decide +kernel) ?_
          refine hs_br2 (c := .ne) (t := 65) (f := 60) (by decide +kernel) (fun _ => ?_) (fun hz => absurd (show ¬ ((Int32.ofNat 2 : Int32) = (-1)) from xi_nm1 (by omega)) hz)
          refine hs_iload (i := 3) (p := 66) (by decide +kernel) rfl ?_
          refine hs_istore (i := 3) (p := 67) (by decide +kernel) (Nat.le_of_ble_eq_true rfl) ?_
          refine hs_iload (i := 5) (p := 69) (by decide +kernel) rfl ?_
          refine hs_istore (i := 4) (p := 71) (by decide +kernel) (Nat.le_of_ble_eq_true rfl) ?_
          refine hs_iinc1 (i := 5) (p := 74) (by decide +kernel) rfl (Nat.le_of_ble_eq_true rfl) ?_
          refine hs_goto (p := 8) (by decide +kernel) ?_
          show et_go none (d + 1) 42 8 [some (.int x), some (.int (Int32.ofNat al)), some (.int (Int32.ofNat ac)), some (.int (Int32.ofNat 2)), some (.int (Int32.ofNat 3)), some (.int (Int32.ofNat 4)), some (.int (Int32.ofNat 1)), some (.int (Int32.ofNat 4))] [] _ _ _ _
          refine hs_iload (i := 5) (p := 10) (by decide +kernel) rfl ?_
          refine hs_k (x := Int32.ofNat 4) (p := 11) (by decide +kernel) ?_
          refine hs_br2n (c := .ge) (t := 77) (f := 14) (by decide +kernel) (by omega) (by omega) (fun _ => ?_) (fun h => absurd (show 4 ≤ 4 by decide) h)
          refine hs_iload (i := 3) (p := 78) (by decide +kernel) rfl ?_
          refine hs_k (x := (-1)) (p := 79) (by decide +kernel) ?_
          refine hs_br2 (c := .ne) (t := 86) (f := 82) (by decide +kernel) (fun _ => ?_) (fun hz => absurd (show ¬ ((Int32.ofNat 2 : Int32) = (-1)) from xi_nm1 (by omega)) hz)
          refine hs_iload (i := 4) (p := 88) (by decide +kernel) rfl ?_
          refine hs_iload (i := 3) (p := 89) (by decide +kernel) rfl ?_
          refine hs_isubn (p := 90) (by decide +kernel) (by omega) ?_
          refine hs_k (x := Int32.ofNat 1) (p := 91) (by decide +kernel) ?_
          refine hs_iaddn (p := 92) (by decide +kernel) ?_
          refine hs_iret (by decide +kernel) ?_
          rw [show nrm f 4 = 12 from (nrm4 hb0 hb1 hb2 hb3).trans (by decide)]
          rfl
        | false =>
          show et_go none (d + 1) 42 50 [some (.int x), some (.int (Int32.ofNat al)), some (.int (Int32.ofNat ac)), some (.int (Int32.ofNat 2)), some (.int (Int32.ofNat 2)), some (.int (Int32.ofNat 3)), some (.int (Int32.ofNat 0)), some (.int (Int32.ofNat 4))] [] _ _ _ _
          refine hs_iload (i := 6) (p := 52) (by decide +kernel) rfl ?_
          refine hs_if1 (c := .eq) (t := 71) (f := 55) (by decide +kernel) (show Int32.ofNat 0 = 0 by decide) ?_
          refine hs_iinc1 (i := 5) (p := 74) (by decide +kernel) rfl (Nat.le_of_ble_eq_true rfl) ?_
          refine hs_goto (p := 8) (by decide +kernel) ?_
          show et_go none (d + 1) 42 8 [some (.int x), some (.int (Int32.ofNat al)), some (.int (Int32.ofNat ac)), some (.int (Int32.ofNat 2)), some (.int (Int32.ofNat 2)), some (.int (Int32.ofNat 4)), some (.int (Int32.ofNat 0)), some (.int (Int32.ofNat 4))] [] _ _ _ _
          refine hs_iload (i := 5) (p := 10) (by decide +kernel) rfl ?_
          refine hs_k (x := Int32.ofNat 4) (p := 11) (by decide +kernel) ?_
          refine hs_br2n (c := .ge) (t := 77) (f := 14) (by decide +kernel) (by omega) (by omega) (fun _ => ?_) (fun h => absurd (show 4 ≤ 4 by decide) h)
          refine hs_iload (i := 3) (p := 78) (by decide +kernel) rfl ?_
          refine hs_k (x := (-1)) (p := 79) (by decide +kernel) ?_
          refine hs_br2 (c := .ne) (t := 86) (f := 82) (by decide +kernel) (fun _ => ?_) (fun hz => absurd (show ¬ ((Int32.ofNat 2 : Int32) = (-1)) from xi_nm1 (by omega)) hz)
          refine hs_iload (i := 4) (p := 88) (by decide +kernel) rfl ?_
          refine hs_iload (i := 3) (p := 89) (by decide +kernel) rfl ?_
          refine hs_isubn (p := 90) (by decide +kernel) (by omega) ?_
          refine hs_k (x := Int32.ofNat 1) (p := 91) (by decide +kernel) ?_
          refine hs_iaddn (p := 92) (by decide +kernel) ?_
          refine hs_iret (by decide +kernel) ?_
          rw [show nrm f 4 = 4 from (nrm4 hb0 hb1 hb2 hb3).trans (by decide)]
          rfl
      | false =>
        show et_go none (d + 1) 42 50 [some (.int x), some (.int (Int32.ofNat al)), some (.int (Int32.ofNat ac)), some (.int (-1)), some (.int (-1)), some (.int (Int32.ofNat 2)), some (.int (Int32.ofNat 0)), some (.int (Int32.ofNat 4))] [] _ _ _ _
        refine hs_iload (i := 6) (p := 52) (by decide +kernel) rfl ?_
        refine hs_if1 (c := .eq) (t := 71) (f := 55) (by decide +kernel) (show Int32.ofNat 0 = 0 by decide) ?_
        refine hs_iinc1 (i := 5) (p := 74) (by decide +kernel) rfl (Nat.le_of_ble_eq_true rfl) ?_
        refine hs_goto (p := 8) (by decide +kernel) ?_
        show et_go none (d + 1) 42 8 [some (.int x), some (.int (Int32.ofNat al)), some (.int (Int32.ofNat ac)), some (.int (-1)), some (.int (-1)), some (.int (Int32.ofNat 3)), some (.int (Int32.ofNat 0)), some (.int (Int32.ofNat 4))] [] _ _ _ _
        refine hs_iload (i := 5) (p := 10) (by decide +kernel) rfl ?_
        refine hs_k (x := Int32.ofNat 4) (p := 11) (by decide +kernel) ?_
        refine hs_br2n (c := .ge) (t := 77) (f := 14) (by decide +kernel) (by omega) (by omega) (fun h => absurd h (show ¬ (4 ≤ 3) by decide)) (fun _ => ?_)
        refine hs_k (x := Int32.ofNat 0) (p := 15) (by decide +kernel) ?_
        refine hs_istore (i := 6) (p := 17) (by decide +kernel) (Nat.le_of_ble_eq_true rfl) ?_
        refine hs_k (x := Int32.ofNat 0) (p := 18) (by decide +kernel) ?_
        refine hs_istore (i := 7) (p := 20) (by decide +kernel) (Nat.le_of_ble_eq_true rfl) ?_
        refine fc_inL (n := 3) (m := 0) (Nat.zero_le _) ?_
        rw [hf 3 (by decide)]
        cases hb3 : f 3 with
        | true =>
          show et_go none (d + 1) 42 50 [some (.int x), some (.int (Int32.ofNat al)), some (.int (Int32.ofNat ac)), some (.int (-1)), some (.int (-1)), some (.int (Int32.ofNat 3)), some (.int (Int32.ofNat 1)), some (.int (Int32.ofNat 4))] [] _ _ _ _
          refine hs_iload (i := 6) (p := 52) (by decide +kernel) rfl ?_
          refine hs_if0 (c := .eq) (t := 71) (f := 55) (by decide +kernel) (show ¬ (Int32.ofNat 1 = 0) by decide) ?_
          refine hs_iload (i := 3) (p := 56) (by decide +kernel) rfl ?_
          refine hs_k (x := (-1)) (p := 57) (by decide +kernel) ?_
          refine hs_br2 (c := .ne) (t := 65) (f := 60) (by decide +kernel) (fun hz => absurd rfl hz) (fun _ => ?_)
          refine hs_iload (i := 5) (p := 62) (by decide +kernel) rfl ?_
          refine hs_goto (p := 66) (by decide +kernel) ?_
          refine hs_istore (i := 3) (p := 67) (by decide +kernel) (Nat.le_of_ble_eq_true rfl) ?_
          refine hs_iload (i := 5) (p := 69) (by decide +kernel) rfl ?_
          refine hs_istore (i := 4) (p := 71) (by decide +kernel) (Nat.le_of_ble_eq_true rfl) ?_
          refine hs_iinc1 (i := 5) (p := 74) (by decide +kernel) rfl (Nat.le_of_ble_eq_true rfl) ?_
          refine hs_goto (p := 8) (by decide +kernel) ?_
          show et_go none (d + 1) 42 8 [some (.int x), some (.int (Int32.ofNat al)), some (.int (Int32.ofNat ac)), some (.int (Int32.ofNat 3)), some (.int (Int32.ofNat 3)), some (.int (Int32.ofNat 4)), some (.int (Int32.ofNat 1)), some (.int (Int32.ofNat 4))] [] _ _ _ _
          refine hs_iload (i := 5) (p := 10) (by decide +kernel) rfl ?_
          refine hs_k (x := Int32.ofNat 4) (p := 11) (by decide +kernel) ?_
          refine hs_br2n (c := .ge) (t := 77) (f := 14) (by decide +kernel) (by omega) (by omega) (fun _ => ?_) (fun h => absurd (show 4 ≤ 4 by decide) h)
          refine hs_iload (i := 3) (p := 78) (by decide +kernel) rfl ?_
          refine hs_k (x := (-1)) (p := 79) (by decide +kernel) ?_
          refine hs_br2 (c := .ne) (t := 86) (f := 82) (by decide +kernel) (fun _ => ?_) (fun hz => absurd (show ¬ ((Int32.ofNat 3 : Int32) = (-1)) from xi_nm1 (by omega)) hz)
          refine hs_iload (i := 4) (p := 88) (by decide +kernel) rfl ?_
          refine hs_iload (i := 3) (p := 89) (by decide +kernel) rfl ?_
          refine hs_isubn (p := 90) (by decide +kernel) (by omega) ?_
          refine hs_k (x := Int32.ofNat 1) (p := 91) (by decide +kernel) ?_
          refine hs_iaddn (p := 92) (by decide +kernel) ?_
          refine hs_iret (by decide +kernel) ?_
          rw [show nrm f 4 = 8 from (nrm4 hb0 hb1 hb2 hb3).trans (by decide)]
          rfl
        | false =>
          show et_go none (d + 1) 42 50 [some (.int x), some (.int (Int32.ofNat al)), some (.int (Int32.ofNat ac)), some (.int (-1)), some (.int (-1)), some (.int (Int32.ofNat 3)), some (.int (Int32.ofNat 0)), some (.int (Int32.ofNat 4))] [] _ _ _ _
          refine hs_iload (i := 6) (p := 52) (by decide +kernel) rfl ?_
          refine hs_if1 (c := .eq) (t := 71) (f := 55) (by decide +kernel) (show Int32.ofNat 0 = 0 by decide) ?_
          refine hs_iinc1 (i := 5) (p := 74) (by decide +kernel) rfl (Nat.le_of_ble_eq_true rfl) ?_
          refine hs_goto (p := 8) (by decide +kernel) ?_
          show et_go none (d + 1) 42 8 [some (.int x), some (.int (Int32.ofNat al)), some (.int (Int32.ofNat ac)), some (.int (-1)), some (.int (-1)), some (.int (Int32.ofNat 4)), some (.int (Int32.ofNat 0)), some (.int (Int32.ofNat 4))] [] _ _ _ _
          refine hs_iload (i := 5) (p := 10) (by decide +kernel) rfl ?_
          refine hs_k (x := Int32.ofNat 4) (p := 11) (by decide +kernel) ?_
          refine hs_br2n (c := .ge) (t := 77) (f := 14) (by decide +kernel) (by omega) (by omega) (fun _ => ?_) (fun h => absurd (show 4 ≤ 4 by decide) h)
          refine hs_iload (i := 3) (p := 78) (by decide +kernel) rfl ?_
          refine hs_k (x := (-1)) (p := 79) (by decide +kernel) ?_
          refine hs_br2 (c := .ne) (t := 86) (f := 82) (by decide +kernel) (fun hz => absurd rfl hz) (fun _ => ?_)
          refine hs_k (x := Int32.ofNat 0) (p := 83) (by decide +kernel) ?_
          refine hs_goto (p := 92) (by decide +kernel) ?_
          refine hs_iret (by decide +kernel) ?_
          rw [show nrm f 4 = 0 from (nrm4 hb0 hb1 hb2 hb3).trans (by decide)]
          rfl
theorem fc_neL (hH : et_H et_TT K G) (t9 : evK K e ca ki kn v.1 v.2.2.1) (hv : evc G e ca ki kn v) (hm : m ≤ v.1) : et_go none (d + 2) 41 4 [some (.ref e), some (.int (Int32.ofNat (neN v.2.1 m))), some (.int (Int32.ofNat m))] [] G 0 0 (xp_Z G (some (.int (Int32.ofNat (neN v.2.1 v.1))))) := by
  obtain ⟨⟨k_e, k_ca, k_ki, k_kn⟩, hw6, hkd⟩ := t9
  obtain ⟨⟨p0, p1, p2, p3⟩, hN, hCK, -⟩ := hv
  induction hq9 : v.1 - m using Nat.strongRecOn generalizing m with
  | _ q9 ih =>
    have hle := neN_le v.2.1 m
    have lt_e := (hH.2.2 _ _ k_e).1
    have lt_ca := (hH.2.2 _ _ k_ca).1
    refine hs_iload (i := 2) (p := 5) (by decide +kernel) rfl ?_
    refine hs_aload (i := 0) (p := 6) (by decide +kernel) rfl ?_
    refine hf_get (T := et_TT) (t := 3) (ci := 1) (f := 0) (p := 9) (by decide +kernel) rfl hH k_e p0 ?_
    refine hs_br2n (c := .ge) (t := 48) (f := 12) (by decide +kernel) (by omega) (by omega) (fun (c9 : v.1 ≤ m) => ?_) (fun (c9 : ¬ (v.1 ≤ m)) => ?_)
    · refine hs_iload (i := 1) (p := 49) (by decide +kernel) rfl ?_
      refine hs_iret (by decide +kernel) ?_
      obtain rfl : m = v.1 := by omega
      rfl
    · refine hs_iload (i := 1) (p := 13) (by decide +kernel) rfl ?_
      refine hs_aload (i := 0) (p := 14) (by decide +kernel) rfl ?_
      refine hf_get (T := et_TT) (t := 3) (ci := 1) (f := 1) (p := 17) (by decide +kernel) rfl hH k_e p1 ?_
      refine hs_iload (i := 2) (p := 18) (by decide +kernel) rfl ?_
      refine hf_ald (ins := .iaload) (T := et_TT) (t := 15) (kd := 0) (N := 6) (p := 19) (by decide +kernel) (fun _ _ _ _ _ _ _ _ _ _ => rfl) rfl rfl rfl hH k_ca (by decide) (hCK m (by omega)).1 ?_
      refine hs_k (x := Int32.ofNat 1) (p := 20) (by decide +kernel) ?_
      refine hs_k (x := Int32.ofNat 4) (p := 21) (by decide +kernel) ?_
      refine hs_calls (mi := 42) (na := 3) (lk := 3) (lm := 8) (L0 := eg_en (eg_mL 42) [.int (v.2.1 m), .int (Int32.ofNat 1), .int (Int32.ofNat 4)]) (by decide +kernel) rfl rfl rfl rfl rfl rfl (by rw [show eg_mL 42 = 8 from by decide +kernel]; first | done | rfl) ?_
      refine (fc_reach (f := nrX (v.2.1 m)) (nrX_an) (by omega)).mono (fun u hu => xp_cb hu ?_)
      show et_go none _ 41 24 _ [.int (Int32.ofNat (spN (nrm (nrX (v.2.1 m)) 4))), .int (Int32.ofNat (neN v.2.1 m))] _ _ _ _
      refine hs_aload (i := 0) (p := 25) (by decide +kernel) rfl ?_
      refine hf_get (T := et_TT) (t := 3) (ci := 1) (f := 1) (p := 28) (by decide +kernel) rfl hH k_e p1 ?_
      refine hs_iload (i := 2) (p := 29) (by decide +kernel) rfl ?_
      refine hf_ald (ins := .iaload) (T := et_TT) (t := 15) (kd := 0) (N := 6) (p := 30) (by decide +kernel) (fun _ _ _ _ _ _ _ _ _ _ => rfl) rfl rfl rfl hH k_ca (by decide) (hCK m (by omega)).1 ?_
      refine hs_k (x := Int32.ofNat 4) (p := 31) (by decide +kernel) ?_
      refine hs_k (x := Int32.ofNat 1) (p := 32) (by decide +kernel) ?_
      refine hs_calls (mi := 42) (na := 3) (lk := 3) (lm := 8) (L0 := eg_en (eg_mL 42) [.int (v.2.1 m), .int (Int32.ofNat 4), .int (Int32.ofNat 1)]) (by decide +kernel) rfl rfl rfl rfl rfl rfl (by rw [show eg_mL 42 = 8 from by decide +kernel]; first | done | rfl) ?_
      refine (fc_reach (f := nrY (v.2.1 m)) (nrY_an) (by omega)).mono (fun u hu => xp_cb hu ?_)
      show et_go none _ 41 35 _ [.int (Int32.ofNat (spN (nrm (nrY (v.2.1 m)) 4))), .int (Int32.ofNat (spN (nrm (nrX (v.2.1 m)) 4))), .int (Int32.ofNat (neN v.2.1 m))] _ _ _ _
      refine hs_math (mi := 310) (lk := 3) (p := 38) (by decide +kernel) rfl rfl rfl rfl ?_
      refine hs_math (mi := 310) (lk := 3) (p := 41) (by decide +kernel) rfl rfl rfl rfl ?_
      refine hs_istore (i := 1) (p := 42) (by decide +kernel) (Nat.le_of_ble_eq_true rfl) ?_
      refine hs_iinc1 (i := 2) (p := 45) (by decide +kernel) rfl (Nat.le_of_ble_eq_true rfl) ?_
      refine hs_goto (p := 4) (by decide +kernel) ?_
      show et_go none (d + 2) 41 4 [some (.ref e), some (.int (if Int32.ofNat (neN v.2.1 m) < (if Int32.ofNat (spN (nrm (nrX (v.2.1 m)) 4)) < Int32.ofNat (spN (nrm (nrY (v.2.1 m)) 4)) then Int32.ofNat (spN (nrm (nrY (v.2.1 m)) 4)) else Int32.ofNat (spN (nrm (nrX (v.2.1 m)) 4))) then (if Int32.ofNat (spN (nrm (nrX (v.2.1 m)) 4)) < Int32.ofNat (spN (nrm (nrY (v.2.1 m)) 4)) then Int32.ofNat (spN (nrm (nrY (v.2.1 m)) 4)) else Int32.ofNat (spN (nrm (nrX (v.2.1 m)) 4))) else Int32.ofNat (neN v.2.1 m))), some (.int (Int32.ofNat (m + 1)))] [] _ _ _ _
      rw [mx_c _ (List.mem_range.mpr (by omega)) _ (List.mem_range.mpr nrm_16) _ (List.mem_range.mpr nrm_16)]
      exact @ih (v.1 - (m + 1)) (by omega) (m + 1) (by omega) rfl
theorem fc_near (hH : et_H et_TT K G) (t9 : evK K e ca ki kn v.1 v.2.2.1) (hv : evc G e ca ki kn v) (hd : 2 ≤ d2) : et_go none d2 41 0 (eg_en (eg_mL 41) [.ref e]) [] G 0 0 (xp_Z G (some (.int (Int32.ofNat (neN v.2.1 v.1))))) := by
  obtain ⟨d, rfl⟩ : ∃ d, d2 = d + 2 := ⟨d2 - 2, by omega⟩
  rw [show eg_mL 41 = 3 from by decide +kernel]
  show et_go none (d + 2) 41 0 [some (.ref e), none, none] [] G 0 0 _
  refine hs_k (x := Int32.ofNat 0) (p := 1) (by decide +kernel) ?_
  refine hs_istore (i := 1) (p := 2) (by decide +kernel) (Nat.le_of_ble_eq_true rfl) ?_
  refine hs_k (x := Int32.ofNat 0) (p := 3) (by decide +kernel) ?_
  refine hs_istore (i := 2) (p := 4) (by decide +kernel) (Nat.le_of_ble_eq_true rfl) ?_
  exact fc_neL (m := 0) hH t9 hv (Nat.zero_le _)
theorem fx_lz0 : et_go none d2 306 0 (eg_en (eg_mL 306) [.int (Int32.ofNat 0)]) [] G 0 0 (xp_Z G (some (.int (Int32.ofNat 32)))) := by
  rw [show eg_mL 306 = 2 from by decide +kernel]
  show et_go none d2 306 0 [some (.int (Int32.ofNat 0)), none] [] G 0 0 _
  refine hs_iload (i := 0) (p := 1) (by decide +kernel) rfl ?_
  refine hs_if0 (c := .gt) (t := 15) (f := 4) (by decide +kernel) (show ¬ (0 < Int32.ofNat 0) by decide) ?_
  refine hs_iload (i := 0) (p := 5) (by decide +kernel) rfl ?_
  refine hs_if0 (c := .ne) (t := 13) (f := 8) (by decide +kernel) (show ¬ (¬ Int32.ofNat 0 = 0) by decide) ?_
  refine hs_k (x := Int32.ofNat 32) (p := 10) (by decide +kernel) ?_
  refine hs_goto (p := 14) (by decide +kernel) ?_
  refine hs_iret (by decide +kernel) ?_
  rfl
theorem fx_lz1 : et_go none d2 306 0 (eg_en (eg_mL 306) [.int (Int32.ofNat 1)]) [] G 0 0 (xp_Z G (some (.int (Int32.ofNat 31)))) := by
  rw [show eg_mL 306 = 2 from by decide +kernel]
  show et_go none d2 306 0 [some (.int (Int32.ofNat 1)), none] [] G 0 0 _
  refine hs_iload (i := 0) (p := 1) (by decide +kernel) rfl ?_
  refine hs_if1 (c := .gt) (t := 15) (f := 4) (by decide +kernel) (show 0 < Int32.ofNat 1 by decide) ?_
  refine hs_k (x := Int32.ofNat 31) (p := 17) (by decide +kernel) ?_
  refine hs_istore (i := 1) (p := 18) (by decide +kernel) (Nat.le_of_ble_eq_true rfl) ?_
  refine hs_iload (i := 0) (p := 19) (by decide +kernel) rfl ?_
  refine hs_kld (v := Value.int (Int32.ofNat 65536)) (p := 22) (by decide +kernel) ?_
  refine hs_br2n (c := .lt) (t := 33) (f := 25) (by decide +kernel) (by omega) (by omega) (fun _ => ?_) (fun h => absurd (show 1 < 65536 by decide) h)
  refine hs_iload (i := 0) (p := 34) (by decide +kernel) rfl ?_
  refine hs_k (x := Int32.ofNat 256) (p := 37) (by decide +kernel) ?_
  refine hs_br2n (c := .lt) (t := 48) (f := 40) (by decide +kernel) (by omega) (by omega) (fun _ => ?_) (fun h => absurd (show 1 < 256 by decide) h)
  refine hs_iload (i := 0) (p := 49) (by decide +kernel) rfl ?_
  refine hs_k (x := Int32.ofNat 16) (p := 51) (by decide +kernel) ?_
  refine hs_br2n (c := .lt) (t := 61) (f := 54) (by decide +kernel) (by omega) (by omega) (fun _ => ?_) (fun h => absurd (show 1 < 16 by decide) h)
  refine hs_iload (i := 0) (p := 62) (by decide +kernel) rfl ?_
  refine hs_k (x := Int32.ofNat 4) (p := 63) (by decide +kernel) ?_
  refine hs_br2n (c := .lt) (t := 73) (f := 66) (by decide +kernel) (by omega) (by omega) (fun _ => ?_) (fun h => absurd (show 1 < 4 by decide) h)
  refine hs_iload (i := 1) (p := 74) (by decide +kernel) rfl ?_
  refine hs_iload (i := 0) (p := 75) (by decide +kernel) rfl ?_
  refine hs_k (x := Int32.ofNat 1) (p := 76) (by decide +kernel) ?_
  refine hs_st (ins := .iushr) (len := 1) (p := 77) (by decide +kernel) rfl rfl ?_
  refine hs_isub (p := 78) (by decide +kernel) ?_
  refine hs_iret (by decide +kernel) ?_
  exact congrArg (fun q => ((Sum.inl (some (Value.int q)) : eg_R), G, 0, 0)) (show (Int32.ofNat 31 - ((Int32.ofNat 1).toUInt32 >>> ((Int32.ofNat 1).toUInt32 &&& Int32.toUInt32 31)).toInt32) = Int32.ofNat 31 by decide +kernel)
theorem fx_lz2 : et_go none d2 306 0 (eg_en (eg_mL 306) [.int (Int32.ofNat 2)]) [] G 0 0 (xp_Z G (some (.int (Int32.ofNat 30)))) := by
  rw [show eg_mL 306 = 2 from by decide +kernel]
  show et_go none d2 306 0 [some (.int (Int32.ofNat 2)), none] [] G 0 0 _
  refine hs_iload (i := 0) (p := 1) (by decide +kernel) rfl ?_
  refine hs_if1 (c := .gt) (t := 15) (f := 4) (by decide +kernel) (show 0 < Int32.ofNat 2 by decide) ?_
  refine hs_k (x := Int32.ofNat 31) (p := 17) (by decide +kernel) ?_
  refine hs_istore (i := 1) (p := 18) (by decide +kernel) (Nat.le_of_ble_eq_true rfl) ?_
  refine hs_iload (i := 0) (p := 19) (by decide +kernel) rfl ?_
  refine hs_kld (v := Value.int (Int32.ofNat 65536)) (p := 22) (by decide +kernel) ?_
  refine hs_br2n (c := .lt) (t := 33) (f := 25) (by decide +kernel) (by omega) (by omega) (fun _ => ?_) (fun h => absurd (show 2 < 65536 by decide) h)
  refine hs_iload (i := 0) (p := 34) (by decide +kernel) rfl ?_
  refine hs_k (x := Int32.ofNat 256) (p := 37) (by decide +kernel) ?_
  refine hs_br2n (c := .lt) (t := 48) (f := 40) (by decide +kernel) (by omega) (by omega) (fun _ => ?_) (fun h => absurd (show 2 < 256 by decide) h)
  refine hs_iload (i := 0) (p := 49) (by decide +kernel) rfl ?_
  refine hs_k (x := Int32.ofNat 16) (p := 51) (by decide +kernel) ?_
  refine hs_br2n (c := .lt) (t := 61) (f := 54) (by decide +kernel) (by omega) (by omega) (fun _ => ?_) (fun h => absurd (show 2 < 16 by decide) h)
  refine hs_iload (i := 0) (p := 62) (by decide +kernel) rfl ?_
  refine hs_k (x := Int32.ofNat 4) (p := 63) (by decide +kernel) ?_
  refine hs_br2n (c := .lt) (t := 73) (f := 66) (by decide +kernel) (by omega) (by omega) (fun _ => ?_) (fun h => absurd (show 2 < 4 by decide) h)
  refine hs_iload (i := 1) (p := 74) (by decide +kernel) rfl ?_
  refine hs_iload (i := 0) (p := 75) (by decide +kernel) rfl ?_
  refine hs_k (x := Int32.ofNat 1) (p := 76) (by decide +kernel) ?_
  refine hs_st (ins := .iushr) (len := 1) (p := 77) (by decide +kernel) rfl rfl ?_
  refine hs_isub (p := 78) (by decide +kernel) ?_
  refine hs_iret (by decide +kernel) ?_
  exact congrArg (fun q => ((Sum.inl (some (Value.int q)) : eg_R), G, 0, 0)) (show (Int32.ofNat 31 - ((Int32.ofNat 2).toUInt32 >>> ((Int32.ofNat 1).toUInt32 &&& Int32.toUInt32 31)).toInt32) = Int32.ofNat 30 by decide +kernel)
theorem fx_lz3 : et_go none d2 306 0 (eg_en (eg_mL 306) [.int (Int32.ofNat 3)]) [] G 0 0 (xp_Z G (some (.int (Int32.ofNat 30)))) := by
  rw [show eg_mL 306 = 2 from by decide +kernel]
  show et_go none d2 306 0 [some (.int (Int32.ofNat 3)), none] [] G 0 0 _
  refine hs_iload (i := 0) (p := 1) (by decide +kernel) rfl ?_
  refine hs_if1 (c := .gt) (t := 15) (f := 4) (by decide +kernel) (show 0 < Int32.ofNat 3 by decide) ?_
  refine hs_k (x := Int32.ofNat 31) (p := 17) (by decide +kernel) ?_
  refine hs_istore (i := 1) (p := 18) (by decide +kernel) (Nat.le_of_ble_eq_true rfl) ?_
  refine hs_iload (i := 0) (p := 19) (by decide +kernel) rfl ?_
  refine hs_kld (v := Value.int (Int32.ofNat 65536)) (p := 22) (by decide +kernel) ?_
  refine hs_br2n (c := .lt) (t := 33) (f := 25) (by decide +kernel) (by omega) (by omega) (fun _ => ?_) (fun h => absurd (show 3 < 65536 by decide) h)
  refine hs_iload (i := 0) (p := 34) (by decide +kernel) rfl ?_
  refine hs_k (x := Int32.ofNat 256) (p := 37) (by decide +kernel) ?_
  refine hs_br2n (c := .lt) (t := 48) (f := 40) (by decide +kernel) (by omega) (by omega) (fun _ => ?_) (fun h => absurd (show 3 < 256 by decide) h)
  refine hs_iload (i := 0) (p := 49) (by decide +kernel) rfl ?_
  refine hs_k (x := Int32.ofNat 16) (p := 51) (by decide +kernel) ?_
  refine hs_br2n (c := .lt) (t := 61) (f := 54) (by decide +kernel) (by omega) (by omega) (fun _ => ?_) (fun h => absurd (show 3 < 16 by decide) h)
  refine hs_iload (i := 0) (p := 62) (by decide +kernel) rfl ?_
  refine hs_k (x := Int32.ofNat 4) (p := 63) (by decide +kernel) ?_
  refine hs_br2n (c := .lt) (t := 73) (f := 66) (by decide +kernel) (by omega) (by omega) (fun _ => ?_) (fun h => absurd (show 3 < 4 by decide) h)
  refine hs_iload (i := 1) (p := 74) (by decide +kernel) rfl ?_
  refine hs_iload (i := 0) (p := 75) (by decide +kernel) rfl ?_
  refine hs_k (x := Int32.ofNat 1) (p := 76) (by decide +kernel) ?_
  refine hs_st (ins := .iushr) (len := 1) (p := 77) (by decide +kernel) rfl rfl ?_
  refine hs_isub (p := 78) (by decide +kernel) ?_
  refine hs_iret (by decide +kernel) ?_
  exact congrArg (fun q => ((Sum.inl (some (Value.int q)) : eg_R), G, 0, 0)) (show (Int32.ofNat 31 - ((Int32.ofNat 3).toUInt32 >>> ((Int32.ofNat 1).toUInt32 &&& Int32.toUInt32 31)).toInt32) = Int32.ofNat 30 by decide +kernel)
theorem fx_lz4 : et_go none d2 306 0 (eg_en (eg_mL 306) [.int (Int32.ofNat 4)]) [] G 0 0 (xp_Z G (some (.int (Int32.ofNat 29)))) := by
  rw [show eg_mL 306 = 2 from by decide +kernel]
  show et_go none d2 306 0 [some (.int (Int32.ofNat 4)), none] [] G 0 0 _
  refine hs_iload (i := 0) (p := 1) (by decide +kernel) rfl ?_
  refine hs_if1 (c := .gt) (t := 15) (f := 4) (by decide +kernel) (show 0 < Int32.ofNat 4 by decide) ?_
  refine hs_k (x := Int32.ofNat 31) (p := 17) (by decide +kernel) ?_
  refine hs_istore (i := 1) (p := 18) (by decide +kernel) (Nat.le_of_ble_eq_true rfl) ?_
  refine hs_iload (i := 0) (p := 19) (by decide +kernel) rfl ?_
  refine hs_kld (v := Value.int (Int32.ofNat 65536)) (p := 22) (by decide +kernel) ?_
  refine hs_br2n (c := .lt) (t := 33) (f := 25) (by decide +kernel) (by omega) (by omega) (fun _ => ?_) (fun h => absurd (show 4 < 65536 by decide) h)
  refine hs_iload (i := 0) (p := 34) (by decide +kernel) rfl ?_
  refine hs_k (x := Int32.ofNat 256) (p := 37) (by decide +kernel) ?_
  refine hs_br2n (c := .lt) (t := 48) (f := 40) (by decide +kernel) (by omega) (by omega) (fun _ => ?_) (fun h => absurd (show 4 < 256 by decide) h)
  refine hs_iload (i := 0) (p := 49) (by decide +kernel) rfl ?_
  refine hs_k (x := Int32.ofNat 16) (p := 51) (by decide +kernel) ?_
  refine hs_br2n (c := .lt) (t := 61) (f := 54) (by decide +kernel) (by omega) (by omega) (fun _ => ?_) (fun h => absurd (show 4 < 16 by decide) h)
  refine hs_iload (i := 0) (p := 62) (by decide +kernel) rfl ?_
  refine hs_k (x := Int32.ofNat 4) (p := 63) (by decide +kernel) ?_
  refine hs_br2n (c := .lt) (t := 73) (f := 66) (by decide +kernel) (by omega) (by omega) (fun h => absurd h (show ¬ (4 < 4) by decide)) (fun _ => ?_)
  refine hs_iinc (i := 1) (n := (-2)) (p := 69) (by decide +kernel) rfl (Nat.le_of_ble_eq_true rfl) ?_
  refine hs_iload (i := 0) (p := 70) (by decide +kernel) rfl ?_
  refine hs_k (x := Int32.ofNat 2) (p := 71) (by decide +kernel) ?_
  refine hs_st (ins := .iushr) (len := 1) (p := 72) (by decide +kernel) rfl rfl ?_
  refine hs_istore (i := 0) (p := 73) (by decide +kernel) (Nat.le_of_ble_eq_true rfl) ?_
  refine hs_iload (i := 1) (p := 74) (by decide +kernel) rfl ?_
  refine hs_iload (i := 0) (p := 75) (by decide +kernel) rfl ?_
  refine hs_k (x := Int32.ofNat 1) (p := 76) (by decide +kernel) ?_
  refine hs_st (ins := .iushr) (len := 1) (p := 77) (by decide +kernel) rfl rfl ?_
  refine hs_isub (p := 78) (by decide +kernel) ?_
  refine hs_iret (by decide +kernel) ?_
  exact congrArg (fun q => ((Sum.inl (some (Value.int q)) : eg_R), G, 0, 0)) (show ((Int32.ofNat 31 + Int32.ofInt (-2)) - ((((Int32.ofNat 4).toUInt32 >>> ((Int32.ofNat 2).toUInt32 &&& Int32.toUInt32 31)).toInt32).toUInt32 >>> ((Int32.ofNat 1).toUInt32 &&& Int32.toUInt32 31)).toInt32) = Int32.ofNat 29 by decide +kernel)
theorem fx_lz5 : et_go none d2 306 0 (eg_en (eg_mL 306) [.int (Int32.ofNat 5)]) [] G 0 0 (xp_Z G (some (.int (Int32.ofNat 29)))) := by
  rw [show eg_mL 306 = 2 from by decide +kernel]
  show et_go none d2 306 0 [some (.int (Int32.ofNat 5)), none] [] G 0 0 _
  refine hs_iload (i := 0) (p := 1) (by decide +kernel) rfl ?_
  refine hs_if1 (c := .gt) (t := 15) (f := 4) (by decide +kernel) (show 0 < Int32.ofNat 5 by decide) ?_
  refine hs_k (x := Int32.ofNat 31) (p := 17) (by decide +kernel) ?_
  refine hs_istore (i := 1) (p := 18) (by decide +kernel) (Nat.le_of_ble_eq_true rfl) ?_
  refine hs_iload (i := 0) (p := 19) (by decide +kernel) rfl ?_
  refine hs_kld (v := Value.int (Int32.ofNat 65536)) (p := 22) (by decide +kernel) ?_
  refine hs_br2n (c := .lt) (t := 33) (f := 25) (by decide +kernel) (by omega) (by omega) (fun _ => ?_) (fun h => absurd (show 5 < 65536 by decide) h)
  refine hs_iload (i := 0) (p := 34) (by decide +kernel) rfl ?_
  refine hs_k (x := Int32.ofNat 256) (p := 37) (by decide +kernel) ?_
  refine hs_br2n (c := .lt) (t := 48) (f := 40) (by decide +kernel) (by omega) (by omega) (fun _ => ?_) (fun h => absurd (show 5 < 256 by decide) h)
  refine hs_iload (i := 0) (p := 49) (by decide +kernel) rfl ?_
  refine hs_k (x := Int32.ofNat 16) (p := 51) (by decide +kernel) ?_
  refine hs_br2n (c := .lt) (t := 61) (f := 54) (by decide +kernel) (by omega) (by omega) (fun _ => ?_) (fun h => absurd (show 5 < 16 by decide) h)
  refine hs_iload (i := 0) (p := 62) (by decide +kernel) rfl ?_
  refine hs_k (x := Int32.ofNat 4) (p := 63) (by decide +kernel) ?_
  refine hs_br2n (c := .lt) (t := 73) (f := 66) (by decide +kernel) (by omega) (by omega) (fun h => absurd h (show ¬ (5 < 4) by decide)) (fun _ => ?_)
  refine hs_iinc (i := 1) (n := (-2)) (p := 69) (by decide +kernel) rfl (Nat.le_of_ble_eq_true rfl) ?_
  refine hs_iload (i := 0) (p := 70) (by decide +kernel) rfl ?_
  refine hs_k (x := Int32.ofNat 2) (p := 71) (by decide +kernel) ?_
  refine hs_st (ins := .iushr) (len := 1) (p := 72) (by decide +kernel) rfl rfl ?_
  refine hs_istore (i := 0) (p := 73) (by decide +kernel) (Nat.le_of_ble_eq_true rfl) ?_
  refine hs_iload (i := 1) (p := 74) (by decide +kernel) rfl ?_
  refine hs_iload (i := 0) (p := 75) (by decide +kernel) rfl ?_
  refine hs_k (x := Int32.ofNat 1) (p := 76) (by decide +kernel) ?_
  refine hs_st (ins := .iushr) (len := 1) (p := 77) (by decide +kernel) rfl rfl ?_
  refine hs_isub (p := 78) (by decide +kernel) ?_
  refine hs_iret (by decide +kernel) ?_
  exact congrArg (fun q => ((Sum.inl (some (Value.int q)) : eg_R), G, 0, 0)) (show ((Int32.ofNat 31 + Int32.ofInt (-2)) - ((((Int32.ofNat 5).toUInt32 >>> ((Int32.ofNat 2).toUInt32 &&& Int32.toUInt32 31)).toInt32).toUInt32 >>> ((Int32.ofNat 1).toUInt32 &&& Int32.toUInt32 31)).toInt32) = Int32.ofNat 29 by decide +kernel)
theorem fx_lz6 : et_go none d2 306 0 (eg_en (eg_mL 306) [.int (Int32.ofNat 6)]) [] G 0 0 (xp_Z G (some (.int (Int32.ofNat 29)))) := by
  rw [show eg_mL 306 = 2 from by decide +kernel]
  show et_go none d2 306 0 [some (.int (Int32.ofNat 6)), none] [] G 0 0 _
  refine hs_iload (i := 0) (p := 1) (by decide +kernel) rfl ?_
  refine hs_if1 (c := .gt) (t := 15) (f := 4) (by decide +kernel) (show 0 < Int32.ofNat 6 by decide) ?_
  refine hs_k (x := Int32.ofNat 31) (p := 17) (by decide +kernel) ?_
  refine hs_istore (i := 1) (p := 18) (by decide +kernel) (Nat.le_of_ble_eq_true rfl) ?_
  refine hs_iload (i := 0) (p := 19) (by decide +kernel) rfl ?_
  refine hs_kld (v := Value.int (Int32.ofNat 65536)) (p := 22) (by decide +kernel) ?_
  refine hs_br2n (c := .lt) (t := 33) (f := 25) (by decide +kernel) (by omega) (by omega) (fun _ => ?_) (fun h => absurd (show 6 < 65536 by decide) h)
  refine hs_iload (i := 0) (p := 34) (by decide +kernel) rfl ?_
  refine hs_k (x := Int32.ofNat 256) (p := 37) (by decide +kernel) ?_
  refine hs_br2n (c := .lt) (t := 48) (f := 40) (by decide +kernel) (by omega) (by omega) (fun _ => ?_) (fun h => absurd (show 6 < 256 by decide) h)
  refine hs_iload (i := 0) (p := 49) (by decide +kernel) rfl ?_
  refine hs_k (x := Int32.ofNat 16) (p := 51) (by decide +kernel) ?_
  refine hs_br2n (c := .lt) (t := 61) (f := 54) (by decide +kernel) (by omega) (by omega) (fun _ => ?_) (fun h => absurd (show 6 < 16 by decide) h)
  refine hs_iload (i := 0) (p := 62) (by decide +kernel) rfl ?_
  refine hs_k (x := Int32.ofNat 4) (p := 63) (by decide +kernel) ?_
  refine hs_br2n (c := .lt) (t := 73) (f := 66) (by decide +kernel) (by omega) (by omega) (fun h => absurd h (show ¬ (6 < 4) by decide)) (fun _ => ?_)
  refine hs_iinc (i := 1) (n := (-2)) (p := 69) (by decide +kernel) rfl (Nat.le_of_ble_eq_true rfl) ?_
  refine hs_iload (i := 0) (p := 70) (by decide +kernel) rfl ?_
  refine hs_k (x := Int32.ofNat 2) (p := 71) (by decide +kernel) ?_
  refine hs_st (ins := .iushr) (len := 1) (p := 72) (by decide +kernel) rfl rfl ?_
  refine hs_istore (i := 0) (p := 73) (by decide +kernel) (Nat.le_of_ble_eq_true rfl) ?_
  refine hs_iload (i := 1) (p := 74) (by decide +kernel) rfl ?_
  refine hs_iload (i := 0) (p := 75) (by decide +kernel) rfl ?_
  refine hs_k (x := Int32.ofNat 1) (p := 76) (by decide +kernel) ?_
  refine hs_st (ins := .iushr) (len := 1) (p := 77) (by decide +kernel) rfl rfl ?_
  refine hs_isub (p := 78) (by decide +kernel) ?_
  refine hs_iret (by decide +kernel) ?_
  exact congrArg (fun q => ((Sum.inl (some (Value.int q)) : eg_R), G, 0, 0)) (show ((Int32.ofNat 31 + Int32.ofInt (-2)) - ((((Int32.ofNat 6).toUInt32 >>> ((Int32.ofNat 2).toUInt32 &&& Int32.toUInt32 31)).toInt32).toUInt32 >>> ((Int32.ofNat 1).toUInt32 &&& Int32.toUInt32 31)).toInt32) = Int32.ofNat 29 by decide +kernel)
theorem fx_lz7 : et_go none d2 306 0 (eg_en (eg_mL 306) [.int (Int32.ofNat 7)]) [] G 0 0 (xp_Z G (some (.int (Int32.ofNat 29)))) := by
  rw [show eg_mL 306 = 2 from by decide +kernel]
  show et_go none d2 306 0 [some (.int (Int32.ofNat 7)), none] [] G 0 0 _
  refine hs_iload (i := 0) (p := 1) (by decide +kernel) rfl ?_
  refine hs_if1 (c := .gt) (t := 15) (f := 4) (by decide +kernel) (show 0 < Int32.ofNat 7 by decide) ?_
  refine hs_k (x := Int32.ofNat 31) (p := 17) (by decide +kernel) ?_
  refine hs_istore (i := 1) (p := 18) (by decide +kernel) (Nat.le_of_ble_eq_true rfl) ?_
  refine hs_iload (i := 0) (p := 19) (by decide +kernel) rfl ?_
  refine hs_kld (v := Value.int (Int32.ofNat 65536)) (p := 22) (by decide +kernel) ?_
  refine hs_br2n (c := .lt) (t := 33) (f := 25) (by decide +kernel) (by omega) (by omega) (fun _ => ?_) (fun h => absurd (show 7 < 65536 by decide) h)
  refine hs_iload (i := 0) (p := 34) (by decide +kernel) rfl ?_
  refine hs_k (x := Int32.ofNat 256) (p := 37) (by decide +kernel) ?_
  refine hs_br2n (c := .lt) (t := 48) (f := 40) (by decide +kernel) (by omega) (by omega) (fun _ => ?_) (fun h => absurd (show 7 < 256 by decide) h)
  refine hs_iload (i := 0) (p := 49) (by decide +kernel) rfl ?_
  refine hs_k (x := Int32.ofNat 16) (p := 51) (by decide +kernel) ?_
  refine hs_br2n (c := .lt) (t := 61) (f := 54) (by decide +kernel) (by omega) (by omega) (fun _ => ?_) (fun h => absurd (show 7 < 16 by decide) h)
  refine hs_iload (i := 0) (p := 62) (by decide +kernel) rfl ?_
  refine hs_k (x := Int32.ofNat 4) (p := 63) (by decide +kernel) ?_
  refine hs_br2n (c := .lt) (t := 73) (f := 66) (by decide +kernel) (by omega) (by omega) (fun h => absurd h (show ¬ (7 < 4) by decide)) (fun _ => ?_)
  refine hs_iinc (i := 1) (n := (-2)) (p := 69) (by decide +kernel) rfl (Nat.le_of_ble_eq_true rfl) ?_
  refine hs_iload (i := 0) (p := 70) (by decide +kernel) rfl ?_
  refine hs_k (x := Int32.ofNat 2) (p := 71) (by decide +kernel) ?_
  refine hs_st (ins := .iushr) (len := 1) (p := 72) (by decide +kernel) rfl rfl ?_
  refine hs_istore (i := 0) (p := 73) (by decide +kernel) (Nat.le_of_ble_eq_true rfl) ?_
  refine hs_iload (i := 1) (p := 74) (by decide +kernel) rfl ?_
  refine hs_iload (i := 0) (p := 75) (by decide +kernel) rfl ?_
  refine hs_k (x := Int32.ofNat 1) (p := 76) (by decide +kernel) ?_
  refine hs_st (ins := .iushr) (len := 1) (p := 77) (by decide +kernel) rfl rfl ?_
  refine hs_isub (p := 78) (by decide +kernel) ?_
  refine hs_iret (by decide +kernel) ?_
  exact congrArg (fun q => ((Sum.inl (some (Value.int q)) : eg_R), G, 0, 0)) (show ((Int32.ofNat 31 + Int32.ofInt (-2)) - ((((Int32.ofNat 7).toUInt32 >>> ((Int32.ofNat 2).toUInt32 &&& Int32.toUInt32 31)).toInt32).toUInt32 >>> ((Int32.ofNat 1).toUInt32 &&& Int32.toUInt32 31)).toInt32) = Int32.ofNat 29 by decide +kernel)
theorem fx_lz8 : et_go none d2 306 0 (eg_en (eg_mL 306) [.int (Int32.ofNat 8)]) [] G 0 0 (xp_Z G (some (.int (Int32.ofNat 28)))) := by
  rw [show eg_mL 306 = 2 from by decide +kernel]
  show et_go none d2 306 0 [some (.int (Int32.ofNat 8)), none] [] G 0 0 _
  refine hs_iload (i := 0) (p := 1) (by decide +kernel) rfl ?_
  refine hs_if1 (c := .gt) (t := 15) (f := 4) (by decide +kernel) (show 0 < Int32.ofNat 8 by decide) ?_
  refine hs_k (x := Int32.ofNat 31) (p := 17) (by decide +kernel) ?_
  refine hs_istore (i := 1) (p := 18) (by decide +kernel) (Nat.le_of_ble_eq_true rfl) ?_
  refine hs_iload (i := 0) (p := 19) (by decide +kernel) rfl ?_
  refine hs_kld (v := Value.int (Int32.ofNat 65536)) (p := 22) (by decide +kernel) ?_
  refine hs_br2n (c := .lt) (t := 33) (f := 25) (by decide +kernel) (by omega) (by omega) (fun _ => ?_) (fun h => absurd (show 8 < 65536 by decide) h)
  refine hs_iload (i := 0) (p := 34) (by decide +kernel) rfl ?_
  refine hs_k (x := Int32.ofNat 256) (p := 37) (by decide +kernel) ?_
  refine hs_br2n (c := .lt) (t := 48) (f := 40) (by decide +kernel) (by omega) (by omega) (fun _ => ?_) (fun h => absurd (show 8 < 256 by decide) h)
  refine hs_iload (i := 0) (p := 49) (by decide +kernel) rfl ?_
  refine hs_k (x := Int32.ofNat 16) (p := 51) (by decide +kernel) ?_
  refine hs_br2n (c := .lt) (t := 61) (f := 54) (by decide +kernel) (by omega) (by omega) (fun _ => ?_) (fun h => absurd (show 8 < 16 by decide) h)
  refine hs_iload (i := 0) (p := 62) (by decide +kernel) rfl ?_
  refine hs_k (x := Int32.ofNat 4) (p := 63) (by decide +kernel) ?_
  refine hs_br2n (c := .lt) (t := 73) (f := 66) (by decide +kernel) (by omega) (by omega) (fun h => absurd h (show ¬ (8 < 4) by decide)) (fun _ => ?_)
  refine hs_iinc (i := 1) (n := (-2)) (p := 69) (by decide +kernel) rfl (Nat.le_of_ble_eq_true rfl) ?_
  refine hs_iload (i := 0) (p := 70) (by decide +kernel) rfl ?_
  refine hs_k (x := Int32.ofNat 2) (p := 71) (by decide +kernel) ?_
  refine hs_st (ins := .iushr) (len := 1) (p := 72) (by decide +kernel) rfl rfl ?_
  refine hs_istore (i := 0) (p := 73) (by decide +kernel) (Nat.le_of_ble_eq_true rfl) ?_
  refine hs_iload (i := 1) (p := 74) (by decide +kernel) rfl ?_
  refine hs_iload (i := 0) (p := 75) (by decide +kernel) rfl ?_
  refine hs_k (x := Int32.ofNat 1) (p := 76) (by decide +kernel) ?_
  refine hs_st (ins := .iushr) (len := 1) (p := 77) (by decide +kernel) rfl rfl ?_
  refine hs_isub (p := 78) (by decide +kernel) ?_
  refine hs_iret (by decide +kernel) ?_
  exact congrArg (fun q => ((Sum.inl (some (Value.int q)) : eg_R), G, 0, 0)) (show ((Int32.ofNat 31 + Int32.ofInt (-2)) - ((((Int32.ofNat 8).toUInt32 >>> ((Int32.ofNat 2).toUInt32 &&& Int32.toUInt32 31)).toInt32).toUInt32 >>> ((Int32.ofNat 1).toUInt32 &&& Int32.toUInt32 31)).toInt32) = Int32.ofNat 28 by decide +kernel)
theorem fx_lz9 : et_go none d2 306 0 (eg_en (eg_mL 306) [.int (Int32.ofNat 9)]) [] G 0 0 (xp_Z G (some (.int (Int32.ofNat 28)))) := by
  rw [show eg_mL 306 = 2 from by decide +kernel]
  show et_go none d2 306 0 [some (.int (Int32.ofNat 9)), none] [] G 0 0 _
  refine hs_iload (i := 0) (p := 1) (by decide +kernel) rfl ?_
  refine hs_if1 (c := .gt) (t := 15) (f := 4) (by decide +kernel) (show 0 < Int32.ofNat 9 by decide) ?_
  refine hs_k (x := Int32.ofNat 31) (p := 17) (by decide +kernel) ?_
  refine hs_istore (i := 1) (p := 18) (by decide +kernel) (Nat.le_of_ble_eq_true rfl) ?_
  refine hs_iload (i := 0) (p := 19) (by decide +kernel) rfl ?_
  refine hs_kld (v := Value.int (Int32.ofNat 65536)) (p := 22) (by decide +kernel) ?_
  refine hs_br2n (c := .lt) (t := 33) (f := 25) (by decide +kernel) (by omega) (by omega) (fun _ => ?_) (fun h => absurd (show 9 < 65536 by decide) h)
  refine hs_iload (i := 0) (p := 34) (by decide +kernel) rfl ?_
  refine hs_k (x := Int32.ofNat 256) (p := 37) (by decide +kernel) ?_
  refine hs_br2n (c := .lt) (t := 48) (f := 40) (by decide +kernel) (by omega) (by omega) (fun _ => ?_) (fun h => absurd (show 9 < 256 by decide) h)
  refine hs_iload (i := 0) (p := 49) (by decide +kernel) rfl ?_
  refine hs_k (x := Int32.ofNat 16) (p := 51) (by decide +kernel) ?_
  refine hs_br2n (c := .lt) (t := 61) (f := 54) (by decide +kernel) (by omega) (by omega) (fun _ => ?_) (fun h => absurd (show 9 < 16 by decide) h)
  refine hs_iload (i := 0) (p := 62) (by decide +kernel) rfl ?_
  refine hs_k (x := Int32.ofNat 4) (p := 63) (by decide +kernel) ?_
  refine hs_br2n (c := .lt) (t := 73) (f := 66) (by decide +kernel) (by omega) (by omega) (fun h => absurd h (show ¬ (9 < 4) by decide)) (fun _ => ?_)
  refine hs_iinc (i := 1) (n := (-2)) (p := 69) (by decide +kernel) rfl (Nat.le_of_ble_eq_true rfl) ?_
  refine hs_iload (i := 0) (p := 70) (by decide +kernel) rfl ?_
  refine hs_k (x := Int32.ofNat 2) (p := 71) (by decide +kernel) ?_
  refine hs_st (ins := .iushr) (len := 1) (p := 72) (by decide +kernel) rfl rfl ?_
  refine hs_istore (i := 0) (p := 73) (by decide +kernel) (Nat.le_of_ble_eq_true rfl) ?_
  refine hs_iload (i := 1) (p := 74) (by decide +kernel) rfl ?_
  refine hs_iload (i := 0) (p := 75) (by decide +kernel) rfl ?_
  refine hs_k (x := Int32.ofNat 1) (p := 76) (by decide +kernel) ?_
  refine hs_st (ins := .iushr) (len := 1) (p := 77) (by decide +kernel) rfl rfl ?_
  refine hs_isub (p := 78) (by decide +kernel) ?_
  refine hs_iret (by decide +kernel) ?_
  exact congrArg (fun q => ((Sum.inl (some (Value.int q)) : eg_R), G, 0, 0)) (show ((Int32.ofNat 31 + Int32.ofInt (-2)) - ((((Int32.ofNat 9).toUInt32 >>> ((Int32.ofNat 2).toUInt32 &&& Int32.toUInt32 31)).toInt32).toUInt32 >>> ((Int32.ofNat 1).toUInt32 &&& Int32.toUInt32 31)).toInt32) = Int32.ofNat 28 by decide +kernel)
theorem fx_lz10 : et_go none d2 306 0 (eg_en (eg_mL 306) [.int (Int32.ofNat 10)]) [] G 0 0 (xp_Z G (some (.int (Int32.ofNat 28)))) := by
  rw [show eg_mL 306 = 2 from by decide +kernel]
  show et_go none d2 306 0 [some (.int (Int32.ofNat 10)), none] [] G 0 0 _
  refine hs_iload (i := 0) (p := 1) (by decide +kernel) rfl ?_
  refine hs_if1 (c := .gt) (t := 15) (f := 4) (by decide +kernel) (show 0 < Int32.ofNat 10 by decide) ?_
  refine hs_k (x := Int32.ofNat 31) (p := 17) (by decide +kernel) ?_
  refine hs_istore (i := 1) (p := 18) (by decide +kernel) (Nat.le_of_ble_eq_true rfl) ?_
  refine hs_iload (i := 0) (p := 19) (by decide +kernel) rfl ?_
  refine hs_kld (v := Value.int (Int32.ofNat 65536)) (p := 22) (by decide +kernel) ?_
  refine hs_br2n (c := .lt) (t := 33) (f := 25) (by decide +kernel) (by omega) (by omega) (fun _ => ?_) (fun h => absurd (show 10 < 65536 by decide) h)
  refine hs_iload (i := 0) (p := 34) (by decide +kernel) rfl ?_
  refine hs_k (x := Int32.ofNat 256) (p := 37) (by decide +kernel) ?_
  refine hs_br2n (c := .lt) (t := 48) (f := 40) (by decide +kernel) (by omega) (by omega) (fun _ => ?_) (fun h => absurd (show 10 < 256 by decide) h)
  refine hs_iload (i := 0) (p := 49) (by decide +kernel) rfl ?_
  refine hs_k (x := Int32.ofNat 16) (p := 51) (by decide +kernel) ?_
  refine hs_br2n (c := .lt) (t := 61) (f := 54) (by decide +kernel) (by omega) (by omega) (fun _ => ?_) (fun h => absurd (show 10 < 16 by decide) h)
  refine hs_iload (i := 0) (p := 62) (by decide +kernel) rfl ?_
  refine hs_k (x := Int32.ofNat 4) (p := 63) (by decide +kernel) ?_
  refine hs_br2n (c := .lt) (t := 73) (f := 66) (by decide +kernel) (by omega) (by omega) (fun h => absurd h (show ¬ (10 < 4) by decide)) (fun _ => ?_)
  refine hs_iinc (i := 1) (n := (-2)) (p := 69) (by decide +kernel) rfl (Nat.le_of_ble_eq_true rfl) ?_
  refine hs_iload (i := 0) (p := 70) (by decide +kernel) rfl ?_
  refine hs_k (x := Int32.ofNat 2) (p := 71) (by decide +kernel) ?_
  refine hs_st (ins := .iushr) (len := 1) (p := 72) (by decide +kernel) rfl rfl ?_
  refine hs_istore (i := 0) (p := 73) (by decide +kernel) (Nat.le_of_ble_eq_true rfl) ?_
  refine hs_iload (i := 1) (p := 74) (by decide +kernel) rfl ?_
  refine hs_iload (i := 0) (p := 75) (by decide +kernel) rfl ?_
  refine hs_k (x := Int32.ofNat 1) (p := 76) (by decide +kernel) ?_
  refine hs_st (ins := .iushr) (len := 1) (p := 77) (by decide +kernel) rfl rfl ?_
  refine hs_isub (p := 78) (by decide +kernel) ?_
  refine hs_iret (by decide +kernel) ?_
  exact congrArg (fun q => ((Sum.inl (some (Value.int q)) : eg_R), G, 0, 0)) (show ((Int32.ofNat 31 + Int32.ofInt (-2)) - ((((Int32.ofNat 10).toUInt32 >>> ((Int32.ofNat 2).toUInt32 &&& Int32.toUInt32 31)).toInt32).toUInt32 >>> ((Int32.ofNat 1).toUInt32 &&& Int32.toUInt32 31)).toInt32) = Int32.ofNat 28 by decide +kernel)
theorem fx_lz11 : et_go none d2 306 0 (eg_en (eg_mL 306) [.int (Int32.ofNat 11)]) [] G 0 0 (xp_Z G (some (.int (Int32.ofNat 28)))) := by
  rw [show eg_mL 306 = 2 from by decide +kernel]
  show et_go none d2 306 0 [some (.int (Int32.ofNat 11)), none] [] G 0 0 _
  refine hs_iload (i := 0) (p := 1) (by decide +kernel) rfl ?_
  refine hs_if1 (c := .gt) (t := 15) (f := 4) (by decide +kernel) (show 0 < Int32.ofNat 11 by decide) ?_
  refine hs_k (x := Int32.ofNat 31) (p := 17) (by decide +kernel) ?_
  refine hs_istore (i := 1) (p := 18) (by decide +kernel) (Nat.le_of_ble_eq_true rfl) ?_
  refine hs_iload (i := 0) (p := 19) (by decide +kernel) rfl ?_
  refine hs_kld (v := Value.int (Int32.ofNat 65536)) (p := 22) (by decide +kernel) ?_
  refine hs_br2n (c := .lt) (t := 33) (f := 25) (by decide +kernel) (by omega) (by omega) (fun _ => ?_) (fun h => absurd (show 11 < 65536 by decide) h)
  refine hs_iload (i := 0) (p := 34) (by decide +kernel) rfl ?_
  refine hs_k (x := Int32.ofNat 256) (p := 37) (by decide +kernel) ?_
  refine hs_br2n (c := .lt) (t := 48) (f := 40) (by decide +kernel) (by omega) (by omega) (fun _ => ?_) (fun h => absurd (show 11 < 256 by decide) h)
  refine hs_iload (i := 0) (p := 49) (by decide +kernel) rfl ?_
  refine hs_k (x := Int32.ofNat 16) (p := 51) (by decide +kernel) ?_
  refine hs_br2n (c := .lt) (t := 61) (f := 54) (by decide +kernel) (by omega) (by omega) (fun _ => ?_) (fun h => absurd (show 11 < 16 by decide) h)
  refine hs_iload (i := 0) (p := 62) (by decide +kernel) rfl ?_
  refine hs_k (x := Int32.ofNat 4) (p := 63) (by decide +kernel) ?_
  refine hs_br2n (c := .lt) (t := 73) (f := 66) (by decide +kernel) (by omega) (by omega) (fun h => absurd h (show ¬ (11 < 4) by decide)) (fun _ => ?_)
  refine hs_iinc (i := 1) (n := (-2)) (p := 69) (by decide +kernel) rfl (Nat.le_of_ble_eq_true rfl) ?_
  refine hs_iload (i := 0) (p := 70) (by decide +kernel) rfl ?_
  refine hs_k (x := Int32.ofNat 2) (p := 71) (by decide +kernel) ?_
  refine hs_st (ins := .iushr) (len := 1) (p := 72) (by decide +kernel) rfl rfl ?_
  refine hs_istore (i := 0) (p := 73) (by decide +kernel) (Nat.le_of_ble_eq_true rfl) ?_
  refine hs_iload (i := 1) (p := 74) (by decide +kernel) rfl ?_
  refine hs_iload (i := 0) (p := 75) (by decide +kernel) rfl ?_
  refine hs_k (x := Int32.ofNat 1) (p := 76) (by decide +kernel) ?_
  refine hs_st (ins := .iushr) (len := 1) (p := 77) (by decide +kernel) rfl rfl ?_
  refine hs_isub (p := 78) (by decide +kernel) ?_
  refine hs_iret (by decide +kernel) ?_
  exact congrArg (fun q => ((Sum.inl (some (Value.int q)) : eg_R), G, 0, 0)) (show ((Int32.ofNat 31 + Int32.ofInt (-2)) - ((((Int32.ofNat 11).toUInt32 >>> ((Int32.ofNat 2).toUInt32 &&& Int32.toUInt32 31)).toInt32).toUInt32 >>> ((Int32.ofNat 1).toUInt32 &&& Int32.toUInt32 31)).toInt32) = Int32.ofNat 28 by decide +kernel)
theorem fx_lz12 : et_go none d2 306 0 (eg_en (eg_mL 306) [.int (Int32.ofNat 12)]) [] G 0 0 (xp_Z G (some (.int (Int32.ofNat 28)))) := by
  rw [show eg_mL 306 = 2 from by decide +kernel]
  show et_go none d2 306 0 [some (.int (Int32.ofNat 12)), none] [] G 0 0 _
  refine hs_iload (i := 0) (p := 1) (by decide +kernel) rfl ?_
  refine hs_if1 (c := .gt) (t := 15) (f := 4) (by decide +kernel) (show 0 < Int32.ofNat 12 by decide) ?_
  refine hs_k (x := Int32.ofNat 31) (p := 17) (by decide +kernel) ?_
  refine hs_istore (i := 1) (p := 18) (by decide +kernel) (Nat.le_of_ble_eq_true rfl) ?_
  refine hs_iload (i := 0) (p := 19) (by decide +kernel) rfl ?_
  refine hs_kld (v := Value.int (Int32.ofNat 65536)) (p := 22) (by decide +kernel) ?_
  refine hs_br2n (c := .lt) (t := 33) (f := 25) (by decide +kernel) (by omega) (by omega) (fun _ => ?_) (fun h => absurd (show 12 < 65536 by decide) h)
  refine hs_iload (i := 0) (p := 34) (by decide +kernel) rfl ?_
  refine hs_k (x := Int32.ofNat 256) (p := 37) (by decide +kernel) ?_
  refine hs_br2n (c := .lt) (t := 48) (f := 40) (by decide +kernel) (by omega) (by omega) (fun _ => ?_) (fun h => absurd (show 12 < 256 by decide) h)
  refine hs_iload (i := 0) (p := 49) (by decide +kernel) rfl ?_
  refine hs_k (x := Int32.ofNat 16) (p := 51) (by decide +kernel) ?_
  refine hs_br2n (c := .lt) (t := 61) (f := 54) (by decide +kernel) (by omega) (by omega) (fun _ => ?_) (fun h => absurd (show 12 < 16 by decide) h)
  refine hs_iload (i := 0) (p := 62) (by decide +kernel) rfl ?_
  refine hs_k (x := Int32.ofNat 4) (p := 63) (by decide +kernel) ?_
  refine hs_br2n (c := .lt) (t := 73) (f := 66) (by decide +kernel) (by omega) (by omega) (fun h => absurd h (show ¬ (12 < 4) by decide)) (fun _ => ?_)
  refine hs_iinc (i := 1) (n := (-2)) (p := 69) (by decide +kernel) rfl (Nat.le_of_ble_eq_true rfl) ?_
  refine hs_iload (i := 0) (p := 70) (by decide +kernel) rfl ?_
  refine hs_k (x := Int32.ofNat 2) (p := 71) (by decide +kernel) ?_
  refine hs_st (ins := .iushr) (len := 1) (p := 72) (by decide +kernel) rfl rfl ?_
  refine hs_istore (i := 0) (p := 73) (by decide +kernel) (Nat.le_of_ble_eq_true rfl) ?_
  refine hs_iload (i := 1) (p := 74) (by decide +kernel) rfl ?_
  refine hs_iload (i := 0) (p := 75) (by decide +kernel) rfl ?_
  refine hs_k (x := Int32.ofNat 1) (p := 76) (by decide +kernel) ?_
  refine hs_st (ins := .iushr) (len := 1) (p := 77) (by decide +kernel) rfl rfl ?_
  refine hs_isub (p := 78) (by decide +kernel) ?_
  refine hs_iret (by decide +kernel) ?_
  exact congrArg (fun q => ((Sum.inl (some (Value.int q)) : eg_R), G, 0, 0)) (show ((Int32.ofNat 31 + Int32.ofInt (-2)) - ((((Int32.ofNat 12).toUInt32 >>> ((Int32.ofNat 2).toUInt32 &&& Int32.toUInt32 31)).toInt32).toUInt32 >>> ((Int32.ofNat 1).toUInt32 &&& Int32.toUInt32 31)).toInt32) = Int32.ofNat 28 by decide +kernel)
theorem fx_lz13 : et_go none d2 306 0 (eg_en (eg_mL 306) [.int (Int32.ofNat 13)]) [] G 0 0 (xp_Z G (some (.int (Int32.ofNat 28)))) := by
  rw [show eg_mL 306 = 2 from by decide +kernel]
  show et_go none d2 306 0 [some (.int (Int32.ofNat 13)), none] [] G 0 0 _
  refine hs_iload (i := 0) (p := 1) (by decide +kernel) rfl ?_
  refine hs_if1 (c := .gt) (t := 15) (f := 4) (by decide +kernel) (show 0 < Int32.ofNat 13 by decide) ?_
  refine hs_k (x := Int32.ofNat 31) (p := 17) (by decide +kernel) ?_
  refine hs_istore (i := 1) (p := 18) (by decide +kernel) (Nat.le_of_ble_eq_true rfl) ?_
  refine hs_iload (i := 0) (p := 19) (by decide +kernel) rfl ?_
  refine hs_kld (v := Value.int (Int32.ofNat 65536)) (p := 22) (by decide +kernel) ?_
  refine hs_br2n (c := .lt) (t := 33) (f := 25) (by decide +kernel) (by omega) (by omega) (fun _ => ?_) (fun h => absurd (show 13 < 65536 by decide) h)
  refine hs_iload (i := 0) (p := 34) (by decide +kernel) rfl ?_
  refine hs_k (x := Int32.ofNat 256) (p := 37) (by decide +kernel) ?_
  refine hs_br2n (c := .lt) (t := 48) (f := 40) (by decide +kernel) (by omega) (by omega) (fun _ => ?_) (fun h => absurd (show 13 < 256 by decide) h)
  refine hs_iload (i := 0) (p := 49) (by decide +kernel) rfl ?_
  refine hs_k (x := Int32.ofNat 16) (p := 51) (by decide +kernel) ?_
  refine hs_br2n (c := .lt) (t := 61) (f := 54) (by decide +kernel) (by omega) (by omega) (fun _ => ?_) (fun h => absurd (show 13 < 16 by decide) h)
  refine hs_iload (i := 0) (p := 62) (by decide +kernel) rfl ?_
  refine hs_k (x := Int32.ofNat 4) (p := 63) (by decide +kernel) ?_
  refine hs_br2n (c := .lt) (t := 73) (f := 66) (by decide +kernel) (by omega) (by omega) (fun h => absurd h (show ¬ (13 < 4) by decide)) (fun _ => ?_)
  refine hs_iinc (i := 1) (n := (-2)) (p := 69) (by decide +kernel) rfl (Nat.le_of_ble_eq_true rfl) ?_
  refine hs_iload (i := 0) (p := 70) (by decide +kernel) rfl ?_
  refine hs_k (x := Int32.ofNat 2) (p := 71) (by decide +kernel) ?_
  refine hs_st (ins := .iushr) (len := 1) (p := 72) (by decide +kernel) rfl rfl ?_
  refine hs_istore (i := 0) (p := 73) (by decide +kernel) (Nat.le_of_ble_eq_true rfl) ?_
  refine hs_iload (i := 1) (p := 74) (by decide +kernel) rfl ?_
  refine hs_iload (i := 0) (p := 75) (by decide +kernel) rfl ?_
  refine hs_k (x := Int32.ofNat 1) (p := 76) (by decide +kernel) ?_
  refine hs_st (ins := .iushr) (len := 1) (p := 77) (by decide +kernel) rfl rfl ?_
  refine hs_isub (p := 78) (by decide +kernel) ?_
  refine hs_iret (by decide +kernel) ?_
  exact congrArg (fun q => ((Sum.inl (some (Value.int q)) : eg_R), G, 0, 0)) (show ((Int32.ofNat 31 + Int32.ofInt (-2)) - ((((Int32.ofNat 13).toUInt32 >>> ((Int32.ofNat 2).toUInt32 &&& Int32.toUInt32 31)).toInt32).toUInt32 >>> ((Int32.ofNat 1).toUInt32 &&& Int32.toUInt32 31)).toInt32) = Int32.ofNat 28 by decide +kernel)
theorem fx_lz14 : et_go none d2 306 0 (eg_en (eg_mL 306) [.int (Int32.ofNat 14)]) [] G 0 0 (xp_Z G (some (.int (Int32.ofNat 28)))) := by
  rw [show eg_mL 306 = 2 from by decide +kernel]
  show et_go none d2 306 0 [some (.int (Int32.ofNat 14)), none] [] G 0 0 _
  refine hs_iload (i := 0) (p := 1) (by decide +kernel) rfl ?_
  refine hs_if1 (c := .gt) (t := 15) (f := 4) (by decide +kernel) (show 0 < Int32.ofNat 14 by decide) ?_
  refine hs_k (x := Int32.ofNat 31) (p := 17) (by decide +kernel) ?_
  refine hs_istore (i := 1) (p := 18) (by decide +kernel) (Nat.le_of_ble_eq_true rfl) ?_
  refine hs_iload (i := 0) (p := 19) (by decide +kernel) rfl ?_
  refine hs_kld (v := Value.int (Int32.ofNat 65536)) (p := 22) (by decide +kernel) ?_
  refine hs_br2n (c := .lt) (t := 33) (f := 25) (by decide +kernel) (by omega) (by omega) (fun _ => ?_) (fun h => absurd (show 14 < 65536 by decide) h)
  refine hs_iload (i := 0) (p := 34) (by decide +kernel) rfl ?_
  refine hs_k (x := Int32.ofNat 256) (p := 37) (by decide +kernel) ?_
  refine hs_br2n (c := .lt) (t := 48) (f := 40) (by decide +kernel) (by omega) (by omega) (fun _ => ?_) (fun h => absurd (show 14 < 256 by decide) h)
  refine hs_iload (i := 0) (p := 49) (by decide +kernel) rfl ?_
  refine hs_k (x := Int32.ofNat 16) (p := 51) (by decide +kernel) ?_
  refine hs_br2n (c := .lt) (t := 61) (f := 54) (by decide +kernel) (by omega) (by omega) (fun _ => ?_) (fun h => absurd (show 14 < 16 by decide) h)
  refine hs_iload (i := 0) (p := 62) (by decide +kernel) rfl ?_
  refine hs_k (x := Int32.ofNat 4) (p := 63) (by decide +kernel) ?_
  refine hs_br2n (c := .lt) (t := 73) (f := 66) (by decide +kernel) (by omega) (by omega) (fun h => absurd h (show ¬ (14 < 4) by decide)) (fun _ => ?_)
  refine hs_iinc (i := 1) (n := (-2)) (p := 69) (by decide +kernel) rfl (Nat.le_of_ble_eq_true rfl) ?_
  refine hs_iload (i := 0) (p := 70) (by decide +kernel) rfl ?_
  refine hs_k (x := Int32.ofNat 2) (p := 71) (by decide +kernel) ?_
  refine hs_st (ins := .iushr) (len := 1) (p := 72) (by decide +kernel) rfl rfl ?_
  refine hs_istore (i := 0) (p := 73) (by decide +kernel) (Nat.le_of_ble_eq_true rfl) ?_
  refine hs_iload (i := 1) (p := 74) (by decide +kernel) rfl ?_
  refine hs_iload (i := 0) (p := 75) (by decide +kernel) rfl ?_
  refine hs_k (x := Int32.ofNat 1) (p := 76) (by decide +kernel) ?_
  refine hs_st (ins := .iushr) (len := 1) (p := 77) (by decide +kernel) rfl rfl ?_
  refine hs_isub (p := 78) (by decide +kernel) ?_
  refine hs_iret (by decide +kernel) ?_
  exact congrArg (fun q => ((Sum.inl (some (Value.int q)) : eg_R), G, 0, 0)) (show ((Int32.ofNat 31 + Int32.ofInt (-2)) - ((((Int32.ofNat 14).toUInt32 >>> ((Int32.ofNat 2).toUInt32 &&& Int32.toUInt32 31)).toInt32).toUInt32 >>> ((Int32.ofNat 1).toUInt32 &&& Int32.toUInt32 31)).toInt32) = Int32.ofNat 28 by decide +kernel)
theorem fx_lz15 : et_go none d2 306 0 (eg_en (eg_mL 306) [.int (Int32.ofNat 15)]) [] G 0 0 (xp_Z G (some (.int (Int32.ofNat 28)))) := by
  rw [show eg_mL 306 = 2 from by decide +kernel]
  show et_go none d2 306 0 [some (.int (Int32.ofNat 15)), none] [] G 0 0 _
  refine hs_iload (i := 0) (p := 1) (by decide +kernel) rfl ?_
  refine hs_if1 (c := .gt) (t := 15) (f := 4) (by decide +kernel) (show 0 < Int32.ofNat 15 by decide) ?_
  refine hs_k (x := Int32.ofNat 31) (p := 17) (by decide +kernel) ?_
  refine hs_istore (i := 1) (p := 18) (by decide +kernel) (Nat.le_of_ble_eq_true rfl) ?_
  refine hs_iload (i := 0) (p := 19) (by decide +kernel) rfl ?_
  refine hs_kld (v := Value.int (Int32.ofNat 65536)) (p := 22) (by decide +kernel) ?_
  refine hs_br2n (c := .lt) (t := 33) (f := 25) (by decide +kernel) (by omega) (by omega) (fun _ => ?_) (fun h => absurd (show 15 < 65536 by decide) h)
  refine hs_iload (i := 0) (p := 34) (by decide +kernel) rfl ?_
  refine hs_k (x := Int32.ofNat 256) (p := 37) (by decide +kernel) ?_
  refine hs_br2n (c := .lt) (t := 48) (f := 40) (by decide +kernel) (by omega) (by omega) (fun _ => ?_) (fun h => absurd (show 15 < 256 by decide) h)
  refine hs_iload (i := 0) (p := 49) (by decide +kernel) rfl ?_
  refine hs_k (x := Int32.ofNat 16) (p := 51) (by decide +kernel) ?_
  refine hs_br2n (c := .lt) (t := 61) (f := 54) (by decide +kernel) (by omega) (by omega) (fun _ => ?_) (fun h => absurd (show 15 < 16 by decide) h)
  refine hs_iload (i := 0) (p := 62) (by decide +kernel) rfl ?_
  refine hs_k (x := Int32.ofNat 4) (p := 63) (by decide +kernel) ?_
  refine hs_br2n (c := .lt) (t := 73) (f := 66) (by decide +kernel) (by omega) (by omega) (fun h => absurd h (show ¬ (15 < 4) by decide)) (fun _ => ?_)
  refine hs_iinc (i := 1) (n := (-2)) (p := 69) (by decide +kernel) rfl (Nat.le_of_ble_eq_true rfl) ?_
  refine hs_iload (i := 0) (p := 70) (by decide +kernel) rfl ?_
  refine hs_k (x := Int32.ofNat 2) (p := 71) (by decide +kernel) ?_
  refine hs_st (ins := .iushr) (len := 1) (p := 72) (by decide +kernel) rfl rfl ?_
  refine hs_istore (i := 0) (p := 73) (by decide +kernel) (Nat.le_of_ble_eq_true rfl) ?_
  refine hs_iload (i := 1) (p := 74) (by decide +kernel) rfl ?_
  refine hs_iload (i := 0) (p := 75) (by decide +kernel) rfl ?_
  refine hs_k (x := Int32.ofNat 1) (p := 76) (by decide +kernel) ?_
  refine hs_st (ins := .iushr) (len := 1) (p := 77) (by decide +kernel) rfl rfl ?_
  refine hs_isub (p := 78) (by decide +kernel) ?_
  refine hs_iret (by decide +kernel) ?_
  exact congrArg (fun q => ((Sum.inl (some (Value.int q)) : eg_R), G, 0, 0)) (show ((Int32.ofNat 31 + Int32.ofInt (-2)) - ((((Int32.ofNat 15).toUInt32 >>> ((Int32.ofNat 2).toUInt32 &&& Int32.toUInt32 31)).toInt32).toUInt32 >>> ((Int32.ofNat 1).toUInt32 &&& Int32.toUInt32 31)).toInt32) = Int32.ofNat 28 by decide +kernel)
theorem fx_lz (hm : m < 16) : et_go none d2 306 0 (eg_en (eg_mL 306) [.int (Int32.ofNat m)]) [] G 0 0 (xp_Z G (some (.int (Int32.ofNat (lzN m))))) := by
  rcases (show m = 0 ∨ m = 1 ∨ m = 2 ∨ m = 3 ∨ m = 4 ∨ m = 5 ∨ m = 6 ∨ m = 7 ∨ m = 8 ∨ m = 9 ∨ m = 10 ∨ m = 11 ∨ m = 12 ∨ m = 13 ∨ m = 14 ∨ m = 15 by omega) with rfl | rfl | rfl | rfl | rfl | rfl | rfl | rfl | rfl | rfl | rfl | rfl | rfl | rfl | rfl | rfl
  · exact fx_lz0
  · exact fx_lz1
  · exact fx_lz2
  · exact fx_lz3
  · exact fx_lz4
  · exact fx_lz5
  · exact fx_lz6
  · exact fx_lz7
  · exact fx_lz8
  · exact fx_lz9
  · exact fx_lz10
  · exact fx_lz11
  · exact fx_lz12
  · exact fx_lz13
  · exact fx_lz14
  · exact fx_lz15
theorem fx_tz0 : et_go none d2 307 0 (eg_en (eg_mL 307) [.int (Int32.ofNat 0)]) [] G 0 0 (xp_Z G (some (.int (Int32.ofNat 32)))) := by
  rw [show eg_mL 307 = 2 from by decide +kernel]
  show et_go none d2 307 0 [some (.int (Int32.ofNat 0)), none] [] G 0 0 _
  refine hs_iload (i := 0) (p := 1) (by decide +kernel) rfl ?_
  refine hs_k (x := (-1)) (p := 2) (by decide +kernel) ?_
  refine hs_st (ins := .ixor) (len := 1) (p := 3) (by decide +kernel) rfl rfl ?_
  refine hs_iload (i := 0) (p := 4) (by decide +kernel) rfl ?_
  refine hs_k (x := Int32.ofNat 1) (p := 5) (by decide +kernel) ?_
  refine hs_isub (p := 6) (by decide +kernel) ?_
  refine hs_st (ins := .iand) (len := 1) (p := 7) (by decide +kernel) rfl rfl ?_
  refine hs_istore (i := 0) (p := 8) (by decide +kernel) (Nat.le_of_ble_eq_true rfl) ?_
  show et_go none d2 307 8 [some (.int (((Int32.ofNat 0) ^^^ (-1)) &&& (Int32.ofNat 0 - Int32.ofNat 1))), none] [] _ _ _ _
  rw [show (((Int32.ofNat 0) ^^^ (-1)) &&& (Int32.ofNat 0 - Int32.ofNat 1)) = (-1) from by decide +kernel]
  refine hs_iload (i := 0) (p := 9) (by decide +kernel) rfl ?_
  refine hs_if0 (c := .gt) (t := 17) (f := 12) (by decide +kernel) (show ¬ (0 < (-1 : Int32)) by decide) ?_
  refine hs_iload (i := 0) (p := 13) (by decide +kernel) rfl ?_
  refine hs_k (x := Int32.ofNat 32) (p := 15) (by decide +kernel) ?_
  refine hs_st (ins := .iand) (len := 1) (p := 16) (by decide +kernel) rfl rfl ?_
  refine hs_iret (by decide +kernel) ?_
  exact congrArg (fun q => ((Sum.inl (some (Value.int q)) : eg_R), G, 0, 0)) (show ((-1) &&& (Int32.ofNat 32)) = Int32.ofNat 32 by decide +kernel)
theorem fx_tz1 : et_go none d2 307 0 (eg_en (eg_mL 307) [.int (Int32.ofNat 1)]) [] G 0 0 (xp_Z G (some (.int (Int32.ofNat 0)))) := by
  rw [show eg_mL 307 = 2 from by decide +kernel]
  show et_go none d2 307 0 [some (.int (Int32.ofNat 1)), none] [] G 0 0 _
  refine hs_iload (i := 0) (p := 1) (by decide +kernel) rfl ?_
  refine hs_k (x := (-1)) (p := 2) (by decide +kernel) ?_
  refine hs_st (ins := .ixor) (len := 1) (p := 3) (by decide +kernel) rfl rfl ?_
  refine hs_iload (i := 0) (p := 4) (by decide +kernel) rfl ?_
  refine hs_k (x := Int32.ofNat 1) (p := 5) (by decide +kernel) ?_
  refine hs_isub (p := 6) (by decide +kernel) ?_
  refine hs_st (ins := .iand) (len := 1) (p := 7) (by decide +kernel) rfl rfl ?_
  refine hs_istore (i := 0) (p := 8) (by decide +kernel) (Nat.le_of_ble_eq_true rfl) ?_
  show et_go none d2 307 8 [some (.int (((Int32.ofNat 1) ^^^ (-1)) &&& (Int32.ofNat 1 - Int32.ofNat 1))), none] [] _ _ _ _
  rw [show (((Int32.ofNat 1) ^^^ (-1)) &&& (Int32.ofNat 1 - Int32.ofNat 1)) = Int32.ofNat 0 from by decide +kernel]
  refine hs_iload (i := 0) (p := 9) (by decide +kernel) rfl ?_
  refine hs_if0 (c := .gt) (t := 17) (f := 12) (by decide +kernel) (show ¬ (0 < Int32.ofNat 0) by decide) ?_
  refine hs_iload (i := 0) (p := 13) (by decide +kernel) rfl ?_
  refine hs_k (x := Int32.ofNat 32) (p := 15) (by decide +kernel) ?_
  refine hs_st (ins := .iand) (len := 1) (p := 16) (by decide +kernel) rfl rfl ?_
  refine hs_iret (by decide +kernel) ?_
  exact congrArg (fun q => ((Sum.inl (some (Value.int q)) : eg_R), G, 0, 0)) (show ((Int32.ofNat 0) &&& (Int32.ofNat 32)) = Int32.ofNat 0 by decide +kernel)
theorem fx_tz2 : et_go none d2 307 0 (eg_en (eg_mL 307) [.int (Int32.ofNat 2)]) [] G 0 0 (xp_Z G (some (.int (Int32.ofNat 1)))) := by
  rw [show eg_mL 307 = 2 from by decide +kernel]
  show et_go none d2 307 0 [some (.int (Int32.ofNat 2)), none] [] G 0 0 _
  refine hs_iload (i := 0) (p := 1) (by decide +kernel) rfl ?_
  refine hs_k (x := (-1)) (p := 2) (by decide +kernel) ?_
  refine hs_st (ins := .ixor) (len := 1) (p := 3) (by decide +kernel) rfl rfl ?_
  refine hs_iload (i := 0) (p := 4) (by decide +kernel) rfl ?_
  refine hs_k (x := Int32.ofNat 1) (p := 5) (by decide +kernel) ?_
  refine hs_isub (p := 6) (by decide +kernel) ?_
  refine hs_st (ins := .iand) (len := 1) (p := 7) (by decide +kernel) rfl rfl ?_
  refine hs_istore (i := 0) (p := 8) (by decide +kernel) (Nat.le_of_ble_eq_true rfl) ?_
  show et_go none d2 307 8 [some (.int (((Int32.ofNat 2) ^^^ (-1)) &&& (Int32.ofNat 2 - Int32.ofNat 1))), none] [] _ _ _ _
  rw [show (((Int32.ofNat 2) ^^^ (-1)) &&& (Int32.ofNat 2 - Int32.ofNat 1)) = Int32.ofNat 1 from by decide +kernel]
  refine hs_iload (i := 0) (p := 9) (by decide +kernel) rfl ?_
  refine hs_if1 (c := .gt) (t := 17) (f := 12) (by decide +kernel) (show 0 < Int32.ofNat 1 by decide) ?_
  refine hs_k (x := Int32.ofNat 1) (p := 18) (by decide +kernel) ?_
  refine hs_istore (i := 1) (p := 19) (by decide +kernel) (Nat.le_of_ble_eq_true rfl) ?_
  refine hs_iload (i := 0) (p := 20) (by decide +kernel) rfl ?_
  refine hs_kld (v := Value.int (Int32.ofNat 65536)) (p := 23) (by decide +kernel) ?_
  refine hs_br2n (c := .le) (t := 34) (f := 26) (by decide +kernel) (by omega) (by omega) (fun _ => ?_) (fun h => absurd (show 1 ≤ 65536 by decide) h)
  refine hs_iload (i := 0) (p := 35) (by decide +kernel) rfl ?_
  refine hs_k (x := Int32.ofNat 256) (p := 38) (by decide +kernel) ?_
  refine hs_br2n (c := .le) (t := 49) (f := 41) (by decide +kernel) (by omega) (by omega) (fun _ => ?_) (fun h => absurd (show 1 ≤ 256 by decide) h)
  refine hs_iload (i := 0) (p := 50) (by decide +kernel) rfl ?_
  refine hs_k (x := Int32.ofNat 16) (p := 52) (by decide +kernel) ?_
  refine hs_br2n (c := .le) (t := 62) (f := 55) (by decide +kernel) (by omega) (by omega) (fun _ => ?_) (fun h => absurd (show 1 ≤ 16 by decide) h)
  refine hs_iload (i := 0) (p := 63) (by decide +kernel) rfl ?_
  refine hs_k (x := Int32.ofNat 4) (p := 64) (by decide +kernel) ?_
  refine hs_br2n (c := .le) (t := 74) (f := 67) (by decide +kernel) (by omega) (by omega) (fun _ => ?_) (fun h => absurd (show 1 ≤ 4 by decide) h)
  refine hs_iload (i := 1) (p := 75) (by decide +kernel) rfl ?_
  refine hs_iload (i := 0) (p := 76) (by decide +kernel) rfl ?_
  refine hs_k (x := Int32.ofNat 1) (p := 77) (by decide +kernel) ?_
  refine hs_st (ins := .iushr) (len := 1) (p := 78) (by decide +kernel) rfl rfl ?_
  refine hs_iadd (p := 79) (by decide +kernel) ?_
  refine hs_iret (by decide +kernel) ?_
  exact congrArg (fun q => ((Sum.inl (some (Value.int q)) : eg_R), G, 0, 0)) (show (Int32.ofNat 1 + ((Int32.ofNat 1).toUInt32 >>> ((Int32.ofNat 1).toUInt32 &&& Int32.toUInt32 31)).toInt32) = Int32.ofNat 1 by decide +kernel)
theorem fx_tz3 : et_go none d2 307 0 (eg_en (eg_mL 307) [.int (Int32.ofNat 3)]) [] G 0 0 (xp_Z G (some (.int (Int32.ofNat 0)))) := by
  rw [show eg_mL 307 = 2 from by decide +kernel]
  show et_go none d2 307 0 [some (.int (Int32.ofNat 3)), none] [] G 0 0 _
  refine hs_iload (i := 0) (p := 1) (by decide +kernel) rfl ?_
  refine hs_k (x := (-1)) (p := 2) (by decide +kernel) ?_
  refine hs_st (ins := .ixor) (len := 1) (p := 3) (by decide +kernel) rfl rfl ?_
  refine hs_iload (i := 0) (p := 4) (by decide +kernel) rfl ?_
  refine hs_k (x := Int32.ofNat 1) (p := 5) (by decide +kernel) ?_
  refine hs_isub (p := 6) (by decide +kernel) ?_
  refine hs_st (ins := .iand) (len := 1) (p := 7) (by decide +kernel) rfl rfl ?_
  refine hs_istore (i := 0) (p := 8) (by decide +kernel) (Nat.le_of_ble_eq_true rfl) ?_
  show et_go none d2 307 8 [some (.int (((Int32.ofNat 3) ^^^ (-1)) &&& (Int32.ofNat 3 - Int32.ofNat 1))), none] [] _ _ _ _
  rw [show (((Int32.ofNat 3) ^^^ (-1)) &&& (Int32.ofNat 3 - Int32.ofNat 1)) = Int32.ofNat 0 from by decide +kernel]
  refine hs_iload (i := 0) (p := 9) (by decide +kernel) rfl ?_
  refine hs_if0 (c := .gt) (t := 17) (f := 12) (by decide +kernel) (show ¬ (0 < Int32.ofNat 0) by decide) ?_
  refine hs_iload (i := 0) (p := 13) (by decide +kernel) rfl ?_
  refine hs_k (x := Int32.ofNat 32) (p := 15) (by decide +kernel) ?_
  refine hs_st (ins := .iand) (len := 1) (p := 16) (by decide +kernel) rfl rfl ?_
  refine hs_iret (by decide +kernel) ?_
  exact congrArg (fun q => ((Sum.inl (some (Value.int q)) : eg_R), G, 0, 0)) (show ((Int32.ofNat 0) &&& (Int32.ofNat 32)) = Int32.ofNat 0 by decide +kernel)
theorem fx_tz4 : et_go none d2 307 0 (eg_en (eg_mL 307) [.int (Int32.ofNat 4)]) [] G 0 0 (xp_Z G (some (.int (Int32.ofNat 2)))) := by
  rw [show eg_mL 307 = 2 from by decide +kernel]
  show et_go none d2 307 0 [some (.int (Int32.ofNat 4)), none] [] G 0 0 _
  refine hs_iload (i := 0) (p := 1) (by decide +kernel) rfl ?_
  refine hs_k (x := (-1)) (p := 2) (by decide +kernel) ?_
  refine hs_st (ins := .ixor) (len := 1) (p := 3) (by decide +kernel) rfl rfl ?_
  refine hs_iload (i := 0) (p := 4) (by decide +kernel) rfl ?_
  refine hs_k (x := Int32.ofNat 1) (p := 5) (by decide +kernel) ?_
  refine hs_isub (p := 6) (by decide +kernel) ?_
  refine hs_st (ins := .iand) (len := 1) (p := 7) (by decide +kernel) rfl rfl ?_
  refine hs_istore (i := 0) (p := 8) (by decide +kernel) (Nat.le_of_ble_eq_true rfl) ?_
  show et_go none d2 307 8 [some (.int (((Int32.ofNat 4) ^^^ (-1)) &&& (Int32.ofNat 4 - Int32.ofNat 1))), none] [] _ _ _ _
  rw [show (((Int32.ofNat 4) ^^^ (-1)) &&& (Int32.ofNat 4 - Int32.ofNat 1)) = Int32.ofNat 3 from by decide +kernel]
  refine hs_iload (i := 0) (p := 9) (by decide +kernel) rfl ?_
  refine hs_if1 (c := .gt) (t := 17) (f := 12) (by decide +kernel) (show 0 < Int32.ofNat 3 by decide) ?_
  refine hs_k (x := Int32.ofNat 1) (p := 18) (by decide +kernel) ?_
  refine hs_istore (i := 1) (p := 19) (by decide +kernel) (Nat.le_of_ble_eq_true rfl) ?_
  refine hs_iload (i := 0) (p := 20) (by decide +kernel) rfl ?_
  refine hs_kld (v := Value.int (Int32.ofNat 65536)) (p := 23) (by decide +kernel) ?_
  refine hs_br2n (c := .le) (t := 34) (f := 26) (by decide +kernel) (by omega) (by omega) (fun _ => ?_) (fun h => absurd (show 3 ≤ 65536 by decide) h)
  refine hs_iload (i := 0) (p := 35) (by decide +kernel) rfl ?_
  refine hs_k (x := Int32.ofNat 256) (p := 38) (by decide +kernel) ?_
  refine hs_br2n (c := .le) (t := 49) (f := 41) (by decide +kernel) (by omega) (by omega) (fun _ => ?_) (fun h => absurd (show 3 ≤ 256 by decide) h)
  refine hs_iload (i := 0) (p := 50) (by decide +kernel) rfl ?_
  refine hs_k (x := Int32.ofNat 16) (p := 52) (by decide +kernel) ?_
  refine hs_br2n (c := .le) (t := 62) (f := 55) (by decide +kernel) (by omega) (by omega) (fun _ => ?_) (fun h => absurd (show 3 ≤ 16 by decide) h)
  refine hs_iload (i := 0) (p := 63) (by decide +kernel) rfl ?_
  refine hs_k (x := Int32.ofNat 4) (p := 64) (by decide +kernel) ?_
  refine hs_br2n (c := .le) (t := 74) (f := 67) (by decide +kernel) (by omega) (by omega) (fun _ => ?_) (fun h => absurd (show 3 ≤ 4 by decide) h)
  refine hs_iload (i := 1) (p := 75) (by decide +kernel) rfl ?_
  refine hs_iload (i := 0) (p := 76) (by decide +kernel) rfl ?_
  refine hs_k (x := Int32.ofNat 1) (p := 77) (by decide +kernel) ?_
  refine hs_st (ins := .iushr) (len := 1) (p := 78) (by decide +kernel) rfl rfl ?_
  refine hs_iadd (p := 79) (by decide +kernel) ?_
  refine hs_iret (by decide +kernel) ?_
  exact congrArg (fun q => ((Sum.inl (some (Value.int q)) : eg_R), G, 0, 0)) (show (Int32.ofNat 1 + ((Int32.ofNat 3).toUInt32 >>> ((Int32.ofNat 1).toUInt32 &&& Int32.toUInt32 31)).toInt32) = Int32.ofNat 2 by decide +kernel)
theorem fx_tz5 : et_go none d2 307 0 (eg_en (eg_mL 307) [.int (Int32.ofNat 5)]) [] G 0 0 (xp_Z G (some (.int (Int32.ofNat 0)))) := by
  rw [show eg_mL 307 = 2 from by decide +kernel]
  show et_go none d2 307 0 [some (.int (Int32.ofNat 5)), none] [] G 0 0 _
  refine hs_iload (i := 0) (p := 1) (by decide +kernel) rfl ?_
  refine hs_k (x := (-1)) (p := 2) (by decide +kernel) ?_
  refine hs_st (ins := .ixor) (len := 1) (p := 3) (by decide +kernel) rfl rfl ?_
  refine hs_iload (i := 0) (p := 4) (by decide +kernel) rfl ?_
  refine hs_k (x := Int32.ofNat 1) (p := 5) (by decide +kernel) ?_
  refine hs_isub (p := 6) (by decide +kernel) ?_
  refine hs_st (ins := .iand) (len := 1) (p := 7) (by decide +kernel) rfl rfl ?_
  refine hs_istore (i := 0) (p := 8) (by decide +kernel) (Nat.le_of_ble_eq_true rfl) ?_
  show et_go none d2 307 8 [some (.int (((Int32.ofNat 5) ^^^ (-1)) &&& (Int32.ofNat 5 - Int32.ofNat 1))), none] [] _ _ _ _
  rw [show (((Int32.ofNat 5) ^^^ (-1)) &&& (Int32.ofNat 5 - Int32.ofNat 1)) = Int32.ofNat 0 from by decide +kernel]
  refine hs_iload (i := 0) (p := 9) (by decide +kernel) rfl ?_
  refine hs_if0 (c := .gt) (t := 17) (f := 12) (by decide +kernel) (show ¬ (0 < Int32.ofNat 0) by decide) ?_
  refine hs_iload (i := 0) (p := 13) (by decide +kernel) rfl ?_
  refine hs_k (x := Int32.ofNat 32) (p := 15) (by decide +kernel) ?_
  refine hs_st (ins := .iand) (len := 1) (p := 16) (by decide +kernel) rfl rfl ?_
  refine hs_iret (by decide +kernel) ?_
  exact congrArg (fun q => ((Sum.inl (some (Value.int q)) : eg_R), G, 0, 0)) (show ((Int32.ofNat 0) &&& (Int32.ofNat 32)) = Int32.ofNat 0 by decide +kernel)
theorem fx_tz6 : et_go none d2 307 0 (eg_en (eg_mL 307) [.int (Int32.ofNat 6)]) [] G 0 0 (xp_Z G (some (.int (Int32.ofNat 1)))) := by
  rw [show eg_mL 307 = 2 from by decide +kernel]
  show et_go none d2 307 0 [some (.int (Int32.ofNat 6)), none] [] G 0 0 _
  refine hs_iload (i := 0) (p := 1) (by decide +kernel) rfl ?_
  refine hs_k (x := (-1)) (p := 2) (by decide +kernel) ?_
  refine hs_st (ins := .ixor) (len := 1) (p := 3) (by decide +kernel) rfl rfl ?_
  refine hs_iload (i := 0) (p := 4) (by decide +kernel) rfl ?_
  refine hs_k (x := Int32.ofNat 1) (p := 5) (by decide +kernel) ?_
  refine hs_isub (p := 6) (by decide +kernel) ?_
  refine hs_st (ins := .iand) (len := 1) (p := 7) (by decide +kernel) rfl rfl ?_
  refine hs_istore (i := 0) (p := 8) (by decide +kernel) (Nat.le_of_ble_eq_true rfl) ?_
  show et_go none d2 307 8 [some (.int (((Int32.ofNat 6) ^^^ (-1)) &&& (Int32.ofNat 6 - Int32.ofNat 1))), none] [] _ _ _ _
  rw [show (((Int32.ofNat 6) ^^^ (-1)) &&& (Int32.ofNat 6 - Int32.ofNat 1)) = Int32.ofNat 1 from by decide +kernel]
  refine hs_iload (i := 0) (p := 9) (by decide +kernel) rfl ?_
  refine hs_if1 (c := .gt) (t := 17) (f := 12) (by decide +kernel) (show 0 < Int32.ofNat 1 by decide) ?_
  refine hs_k (x := Int32.ofNat 1) (p := 18) (by decide +kernel) ?_
  refine hs_istore (i := 1) (p := 19) (by decide +kernel) (Nat.le_of_ble_eq_true rfl) ?_
  refine hs_iload (i := 0) (p := 20) (by decide +kernel) rfl ?_
  refine hs_kld (v := Value.int (Int32.ofNat 65536)) (p := 23) (by decide +kernel) ?_
  refine hs_br2n (c := .le) (t := 34) (f := 26) (by decide +kernel) (by omega) (by omega) (fun _ => ?_) (fun h => absurd (show 1 ≤ 65536 by decide) h)
  refine hs_iload (i := 0) (p := 35) (by decide +kernel) rfl ?_
  refine hs_k (x := Int32.ofNat 256) (p := 38) (by decide +kernel) ?_
  refine hs_br2n (c := .le) (t := 49) (f := 41) (by decide +kernel) (by omega) (by omega) (fun _ => ?_) (fun h => absurd (show 1 ≤ 256 by decide) h)
  refine hs_iload (i := 0) (p := 50) (by decide +kernel) rfl ?_
  refine hs_k (x := Int32.ofNat 16) (p := 52) (by decide +kernel) ?_
  refine hs_br2n (c := .le) (t := 62) (f := 55) (by decide +kernel) (by omega) (by omega) (fun _ => ?_) (fun h => absurd (show 1 ≤ 16 by decide) h)
  refine hs_iload (i := 0) (p := 63) (by decide +kernel) rfl ?_
  refine hs_k (x := Int32.ofNat 4) (p := 64) (by decide +kernel) ?_
  refine hs_br2n (c := .le) (t := 74) (f := 67) (by decide +kernel) (by omega) (by omega) (fun _ => ?_) (fun h => absurd (show 1 ≤ 4 by decide) h)
  refine hs_iload (i := 1) (p := 75) (by decide +kernel) rfl ?_
  refine hs_iload (i := 0) (p := 76) (by decide +kernel) rfl ?_
  refine hs_k (x := Int32.ofNat 1) (p := 77) (by decide +kernel) ?_
  refine hs_st (ins := .iushr) (len := 1) (p := 78) (by decide +kernel) rfl rfl ?_
  refine hs_iadd (p := 79) (by decide +kernel) ?_
  refine hs_iret (by decide +kernel) ?_
  exact congrArg (fun q => ((Sum.inl (some (Value.int q)) : eg_R), G, 0, 0)) (show (Int32.ofNat 1 + ((Int32.ofNat 1).toUInt32 >>> ((Int32.ofNat 1).toUInt32 &&& Int32.toUInt32 31)).toInt32) = Int32.ofNat 1 by decide +kernel)
theorem fx_tz7 : et_go none d2 307 0 (eg_en (eg_mL 307) [.int (Int32.ofNat 7)]) [] G 0 0 (xp_Z G (some (.int (Int32.ofNat 0)))) := by
  rw [show eg_mL 307 = 2 from by decide +kernel]
  show et_go none d2 307 0 [some (.int (Int32.ofNat 7)), none] [] G 0 0 _
  refine hs_iload (i := 0) (p := 1) (by decide +kernel) rfl ?_
  refine hs_k (x := (-1)) (p := 2) (by decide +kernel) ?_
  refine hs_st (ins := .ixor) (len := 1) (p := 3) (by decide +kernel) rfl rfl ?_
  refine hs_iload (i := 0) (p := 4) (by decide +kernel) rfl ?_
  refine hs_k (x := Int32.ofNat 1) (p := 5) (by decide +kernel) ?_
  refine hs_isub (p := 6) (by decide +kernel) ?_
  refine hs_st (ins := .iand) (len := 1) (p := 7) (by decide +kernel) rfl rfl ?_
  refine hs_istore (i := 0) (p := 8) (by decide +kernel) (Nat.le_of_ble_eq_true rfl) ?_
  show et_go none d2 307 8 [some (.int (((Int32.ofNat 7) ^^^ (-1)) &&& (Int32.ofNat 7 - Int32.ofNat 1))), none] [] _ _ _ _
  rw [show (((Int32.ofNat 7) ^^^ (-1)) &&& (Int32.ofNat 7 - Int32.ofNat 1)) = Int32.ofNat 0 from by decide +kernel]
  refine hs_iload (i := 0) (p := 9) (by decide +kernel) rfl ?_
  refine hs_if0 (c := .gt) (t := 17) (f := 12) (by decide +kernel) (show ¬ (0 < Int32.ofNat 0) by decide) ?_
  refine hs_iload (i := 0) (p := 13) (by decide +kernel) rfl ?_
  refine hs_k (x := Int32.ofNat 32) (p := 15) (by decide +kernel) ?_
  refine hs_st (ins := .iand) (len := 1) (p := 16) (by decide +kernel) rfl rfl ?_
  refine hs_iret (by decide +kernel) ?_
  exact congrArg (fun q => ((Sum.inl (some (Value.int q)) : eg_R), G, 0, 0)) (show ((Int32.ofNat 0) &&& (Int32.ofNat 32)) = Int32.ofNat 0 by decide +kernel)
theorem fx_tz8 : et_go none d2 307 0 (eg_en (eg_mL 307) [.int (Int32.ofNat 8)]) [] G 0 0 (xp_Z G (some (.int (Int32.ofNat 3)))) := by
  rw [show eg_mL 307 = 2 from by decide +kernel]
  show et_go none d2 307 0 [some (.int (Int32.ofNat 8)), none] [] G 0 0 _
  refine hs_iload (i := 0) (p := 1) (by decide +kernel) rfl ?_
  refine hs_k (x := (-1)) (p := 2) (by decide +kernel) ?_
  refine hs_st (ins := .ixor) (len := 1) (p := 3) (by decide +kernel) rfl rfl ?_
  refine hs_iload (i := 0) (p := 4) (by decide +kernel) rfl ?_
  refine hs_k (x := Int32.ofNat 1) (p := 5) (by decide +kernel) ?_
  refine hs_isub (p := 6) (by decide +kernel) ?_
  refine hs_st (ins := .iand) (len := 1) (p := 7) (by decide +kernel) rfl rfl ?_
  refine hs_istore (i := 0) (p := 8) (by decide +kernel) (Nat.le_of_ble_eq_true rfl) ?_
  show et_go none d2 307 8 [some (.int (((Int32.ofNat 8) ^^^ (-1)) &&& (Int32.ofNat 8 - Int32.ofNat 1))), none] [] _ _ _ _
  rw [show (((Int32.ofNat 8) ^^^ (-1)) &&& (Int32.ofNat 8 - Int32.ofNat 1)) = Int32.ofNat 7 from by decide +kernel]
  refine hs_iload (i := 0) (p := 9) (by decide +kernel) rfl ?_
  refine hs_if1 (c := .gt) (t := 17) (f := 12) (by decide +kernel) (show 0 < Int32.ofNat 7 by decide) ?_
  refine hs_k (x := Int32.ofNat 1) (p := 18) (by decide +kernel) ?_
  refine hs_istore (i := 1) (p := 19) (by decide +kernel) (Nat.le_of_ble_eq_true rfl) ?_
  refine hs_iload (i := 0) (p := 20) (by decide +kernel) rfl ?_
  refine hs_kld (v := Value.int (Int32.ofNat 65536)) (p := 23) (by decide +kernel) ?_
  refine hs_br2n (c := .le) (t := 34) (f := 26) (by decide +kernel) (by omega) (by omega) (fun _ => ?_) (fun h => absurd (show 7 ≤ 65536 by decide) h)
  refine hs_iload (i := 0) (p := 35) (by decide +kernel) rfl ?_
  refine hs_k (x := Int32.ofNat 256) (p := 38) (by decide +kernel) ?_
  refine hs_br2n (c := .le) (t := 49) (f := 41) (by decide +kernel) (by omega) (by omega) (fun _ => ?_) (fun h => absurd (show 7 ≤ 256 by decide) h)
  refine hs_iload (i := 0) (p := 50) (by decide +kernel) rfl ?_
  refine hs_k (x := Int32.ofNat 16) (p := 52) (by decide +kernel) ?_
  refine hs_br2n (c := .le) (t := 62) (f := 55) (by decide +kernel) (by omega) (by omega) (fun _ => ?_) (fun h => absurd (show 7 ≤ 16 by decide) h)
  refine hs_iload (i := 0) (p := 63) (by decide +kernel) rfl ?_
  refine hs_k (x := Int32.ofNat 4) (p := 64) (by decide +kernel) ?_
  refine hs_br2n (c := .le) (t := 74) (f := 67) (by decide +kernel) (by omega) (by omega) (fun h => absurd h (show ¬ (7 ≤ 4) by decide)) (fun _ => ?_)
  refine hs_iinc (i := 1) (n := 2) (p := 70) (by decide +kernel) rfl (Nat.le_of_ble_eq_true rfl) ?_
  refine hs_iload (i := 0) (p := 71) (by decide +kernel) rfl ?_
  refine hs_k (x := Int32.ofNat 2) (p := 72) (by decide +kernel) ?_
  refine hs_st (ins := .iushr) (len := 1) (p := 73) (by decide +kernel) rfl rfl ?_
  refine hs_istore (i := 0) (p := 74) (by decide +kernel) (Nat.le_of_ble_eq_true rfl) ?_
  refine hs_iload (i := 1) (p := 75) (by decide +kernel) rfl ?_
  refine hs_iload (i := 0) (p := 76) (by decide +kernel) rfl ?_
  refine hs_k (x := Int32.ofNat 1) (p := 77) (by decide +kernel) ?_
  refine hs_st (ins := .iushr) (len := 1) (p := 78) (by decide +kernel) rfl rfl ?_
  refine hs_iadd (p := 79) (by decide +kernel) ?_
  refine hs_iret (by decide +kernel) ?_
  exact congrArg (fun q => ((Sum.inl (some (Value.int q)) : eg_R), G, 0, 0)) (show ((Int32.ofNat 1 + Int32.ofInt (2)) + ((((Int32.ofNat 7).toUInt32 >>> ((Int32.ofNat 2).toUInt32 &&& Int32.toUInt32 31)).toInt32).toUInt32 >>> ((Int32.ofNat 1).toUInt32 &&& Int32.toUInt32 31)).toInt32) = Int32.ofNat 3 by decide +kernel)
theorem fx_tz9 : et_go none d2 307 0 (eg_en (eg_mL 307) [.int (Int32.ofNat 9)]) [] G 0 0 (xp_Z G (some (.int (Int32.ofNat 0)))) := by
  rw [show eg_mL 307 = 2 from by decide +kernel]
  show et_go none d2 307 0 [some (.int (Int32.ofNat 9)), none] [] G 0 0 _
  refine hs_iload (i := 0) (p := 1) (by decide +kernel) rfl ?_
  refine hs_k (x := (-1)) (p := 2) (by decide +kernel) ?_
  refine hs_st (ins := .ixor) (len := 1) (p := 3) (by decide +kernel) rfl rfl ?_
  refine hs_iload (i := 0) (p := 4) (by decide +kernel) rfl ?_
  refine hs_k (x := Int32.ofNat 1) (p := 5) (by decide +kernel) ?_
  refine hs_isub (p := 6) (by decide +kernel) ?_
  refine hs_st (ins := .iand) (len := 1) (p := 7) (by decide +kernel) rfl rfl ?_
  refine hs_istore (i := 0) (p := 8) (by decide +kernel) (Nat.le_of_ble_eq_true rfl) ?_
  show et_go none d2 307 8 [some (.int (((Int32.ofNat 9) ^^^ (-1)) &&& (Int32.ofNat 9 - Int32.ofNat 1))), none] [] _ _ _ _
  rw [show (((Int32.ofNat 9) ^^^ (-1)) &&& (Int32.ofNat 9 - Int32.ofNat 1)) = Int32.ofNat 0 from by decide +kernel]
  refine hs_iload (i := 0) (p := 9) (by decide +kernel) rfl ?_
  refine hs_if0 (c := .gt) (t := 17) (f := 12) (by decide +kernel) (show ¬ (0 < Int32.ofNat 0) by decide) ?_
  refine hs_iload (i := 0) (p := 13) (by decide +kernel) rfl ?_
  refine hs_k (x := Int32.ofNat 32) (p := 15) (by decide +kernel) ?_
  refine hs_st (ins := .iand) (len := 1) (p := 16) (by decide +kernel) rfl rfl ?_
  refine hs_iret (by decide +kernel) ?_
  exact congrArg (fun q => ((Sum.inl (some (Value.int q)) : eg_R), G, 0, 0)) (show ((Int32.ofNat 0) &&& (Int32.ofNat 32)) = Int32.ofNat 0 by decide +kernel)
theorem fx_tz10 : et_go none d2 307 0 (eg_en (eg_mL 307) [.int (Int32.ofNat 10)]) [] G 0 0 (xp_Z G (some (.int (Int32.ofNat 1)))) := by
  rw [show eg_mL 307 = 2 from by decide +kernel]
  show et_go none d2 307 0 [some (.int (Int32.ofNat 10)), none] [] G 0 0 _
  refine hs_iload (i := 0) (p := 1) (by decide +kernel) rfl ?_
  refine hs_k (x := (-1)) (p := 2) (by decide +kernel) ?_
  refine hs_st (ins := .ixor) (len := 1) (p := 3) (by decide +kernel) rfl rfl ?_
  refine hs_iload (i := 0) (p := 4) (by decide +kernel) rfl ?_
  refine hs_k (x := Int32.ofNat 1) (p := 5) (by decide +kernel) ?_
  refine hs_isub (p := 6) (by decide +kernel) ?_
  refine hs_st (ins := .iand) (len := 1) (p := 7) (by decide +kernel) rfl rfl ?_
  refine hs_istore (i := 0) (p := 8) (by decide +kernel) (Nat.le_of_ble_eq_true rfl) ?_
  show et_go none d2 307 8 [some (.int (((Int32.ofNat 10) ^^^ (-1)) &&& (Int32.ofNat 10 - Int32.ofNat 1))), none] [] _ _ _ _
  rw [show (((Int32.ofNat 10) ^^^ (-1)) &&& (Int32.ofNat 10 - Int32.ofNat 1)) = Int32.ofNat 1 from by decide +kernel]
  refine hs_iload (i := 0) (p := 9) (by decide +kernel) rfl ?_
  refine hs_if1 (c := .gt) (t := 17) (f := 12) (by decide +kernel) (show 0 < Int32.ofNat 1 by decide) ?_
  refine hs_k (x := Int32.ofNat 1) (p := 18) (by decide +kernel) ?_
  refine hs_istore (i := 1) (p := 19) (by decide +kernel) (Nat.le_of_ble_eq_true rfl) ?_
  refine hs_iload (i := 0) (p := 20) (by decide +kernel) rfl ?_
  refine hs_kld (v := Value.int (Int32.ofNat 65536)) (p := 23) (by decide +kernel) ?_
  refine hs_br2n (c := .le) (t := 34) (f := 26) (by decide +kernel) (by omega) (by omega) (fun _ => ?_) (fun h => absurd (show 1 ≤ 65536 by decide) h)
  refine hs_iload (i := 0) (p := 35) (by decide +kernel) rfl ?_
  refine hs_k (x := Int32.ofNat 256) (p := 38) (by decide +kernel) ?_
  refine hs_br2n (c := .le) (t := 49) (f := 41) (by decide +kernel) (by omega) (by omega) (fun _ => ?_) (fun h => absurd (show 1 ≤ 256 by decide) h)
  refine hs_iload (i := 0) (p := 50) (by decide +kernel) rfl ?_
  refine hs_k (x := Int32.ofNat 16) (p := 52) (by decide +kernel) ?_
  refine hs_br2n (c := .le) (t := 62) (f := 55) (by decide +kernel) (by omega) (by omega) (fun _ => ?_) (fun h => absurd (show 1 ≤ 16 by decide) h)
  refine hs_iload (i := 0) (p := 63) (by decide +kernel) rfl ?_
  refine hs_k (x := Int32.ofNat 4) (p := 64) (by decide +kernel) ?_
  refine hs_br2n (c := .le) (t := 74) (f := 67) (by decide +kernel) (by omega) (by omega) (fun _ => ?_) (fun h => absurd (show 1 ≤ 4 by decide) h)
  refine hs_iload (i := 1) (p := 75) (by decide +kernel) rfl ?_
  refine hs_iload (i := 0) (p := 76) (by decide +kernel) rfl ?_
  refine hs_k (x := Int32.ofNat 1) (p := 77) (by decide +kernel) ?_
  refine hs_st (ins := .iushr) (len := 1) (p := 78) (by decide +kernel) rfl rfl ?_
  refine hs_iadd (p := 79) (by decide +kernel) ?_
  refine hs_iret (by decide +kernel) ?_
  exact congrArg (fun q => ((Sum.inl (some (Value.int q)) : eg_R), G, 0, 0)) (show (Int32.ofNat 1 + ((Int32.ofNat 1).toUInt32 >>> ((Int32.ofNat 1).toUInt32 &&& Int32.toUInt32 31)).toInt32) = Int32.ofNat 1 by decide +kernel)
theorem fx_tz11 : et_go none d2 307 0 (eg_en (eg_mL 307) [.int (Int32.ofNat 11)]) [] G 0 0 (xp_Z G (some (.int (Int32.ofNat 0)))) := by
  rw [show eg_mL 307 = 2 from by decide +kernel]
  show et_go none d2 307 0 [some (.int (Int32.ofNat 11)), none] [] G 0 0 _
  refine hs_iload (i := 0) (p := 1) (by decide +kernel) rfl ?_
  refine hs_k (x := (-1)) (p := 2) (by decide +kernel) ?_
  refine hs_st (ins := .ixor) (len := 1) (p := 3) (by decide +kernel) rfl rfl ?_
  refine hs_iload (i := 0) (p := 4) (by decide +kernel) rfl ?_
  refine hs_k (x := Int32.ofNat 1) (p := 5) (by decide +kernel) ?_
  refine hs_isub (p := 6) (by decide +kernel) ?_
  refine hs_st (ins := .iand) (len := 1) (p := 7) (by decide +kernel) rfl rfl ?_
  refine hs_istore (i := 0) (p := 8) (by decide +kernel) (Nat.le_of_ble_eq_true rfl) ?_
  show et_go none d2 307 8 [some (.int (((Int32.ofNat 11) ^^^ (-1)) &&& (Int32.ofNat 11 - Int32.ofNat 1))), none] [] _ _ _ _
  rw [show (((Int32.ofNat 11) ^^^ (-1)) &&& (Int32.ofNat 11 - Int32.ofNat 1)) = Int32.ofNat 0 from by decide +kernel]
  refine hs_iload (i := 0) (p := 9) (by decide +kernel) rfl ?_
  refine hs_if0 (c := .gt) (t := 17) (f := 12) (by decide +kernel) (show ¬ (0 < Int32.ofNat 0) by decide) ?_
  refine hs_iload (i := 0) (p := 13) (by decide +kernel) rfl ?_
  refine hs_k (x := Int32.ofNat 32) (p := 15) (by decide +kernel) ?_
  refine hs_st (ins := .iand) (len := 1) (p := 16) (by decide +kernel) rfl rfl ?_
  refine hs_iret (by decide +kernel) ?_
  exact congrArg (fun q => ((Sum.inl (some (Value.int q)) : eg_R), G, 0, 0)) (show ((Int32.ofNat 0) &&& (Int32.ofNat 32)) = Int32.ofNat 0 by decide +kernel)
theorem fx_tz12 : et_go none d2 307 0 (eg_en (eg_mL 307) [.int (Int32.ofNat 12)]) [] G 0 0 (xp_Z G (some (.int (Int32.ofNat 2)))) := by
  rw [show eg_mL 307 = 2 from by decide +kernel]
  show et_go none d2 307 0 [some (.int (Int32.ofNat 12)), none] [] G 0 0 _
  refine hs_iload (i := 0) (p := 1) (by decide +kernel) rfl ?_
  refine hs_k (x := (-1)) (p := 2) (by decide +kernel) ?_
  refine hs_st (ins := .ixor) (len := 1) (p := 3) (by decide +kernel) rfl rfl ?_
  refine hs_iload (i := 0) (p := 4) (by decide +kernel) rfl ?_
  refine hs_k (x := Int32.ofNat 1) (p := 5) (by decide +kernel) ?_
  refine hs_isub (p := 6) (by decide +kernel) ?_
  refine hs_st (ins := .iand) (len := 1) (p := 7) (by decide +kernel) rfl rfl ?_
  refine hs_istore (i := 0) (p := 8) (by decide +kernel) (Nat.le_of_ble_eq_true rfl) ?_
  show et_go none d2 307 8 [some (.int (((Int32.ofNat 12) ^^^ (-1)) &&& (Int32.ofNat 12 - Int32.ofNat 1))), none] [] _ _ _ _
  rw [show (((Int32.ofNat 12) ^^^ (-1)) &&& (Int32.ofNat 12 - Int32.ofNat 1)) = Int32.ofNat 3 from by decide +kernel]
  refine hs_iload (i := 0) (p := 9) (by decide +kernel) rfl ?_
  refine hs_if1 (c := .gt) (t := 17) (f := 12) (by decide +kernel) (show 0 < Int32.ofNat 3 by decide) ?_
  refine hs_k (x := Int32.ofNat 1) (p := 18) (by decide +kernel) ?_
  refine hs_istore (i := 1) (p := 19) (by decide +kernel) (Nat.le_of_ble_eq_true rfl) ?_
  refine hs_iload (i := 0) (p := 20) (by decide +kernel) rfl ?_
  refine hs_kld (v := Value.int (Int32.ofNat 65536)) (p := 23) (by decide +kernel) ?_
  refine hs_br2n (c := .le) (t := 34) (f := 26) (by decide +kernel) (by omega) (by omega) (fun _ => ?_) (fun h => absurd (show 3 ≤ 65536 by decide) h)
  refine hs_iload (i := 0) (p := 35) (by decide +kernel) rfl ?_
  refine hs_k (x := Int32.ofNat 256) (p := 38) (by decide +kernel) ?_
  refine hs_br2n (c := .le) (t := 49) (f := 41) (by decide +kernel) (by omega) (by omega) (fun _ => ?_) (fun h => absurd (show 3 ≤ 256 by decide) h)
  refine hs_iload (i := 0) (p := 50) (by decide +kernel) rfl ?_
  refine hs_k (x := Int32.ofNat 16) (p := 52) (by decide +kernel) ?_
  refine hs_br2n (c := .le) (t := 62) (f := 55) (by decide +kernel) (by omega) (by omega) (fun _ => ?_) (fun h => absurd (show 3 ≤ 16 by decide) h)
  refine hs_iload (i := 0) (p := 63) (by decide +kernel) rfl ?_
  refine hs_k (x := Int32.ofNat 4) (p := 64) (by decide +kernel) ?_
  refine hs_br2n (c := .le) (t := 74) (f := 67) (by decide +kernel) (by omega) (by omega) (fun _ => ?_) (fun h => absurd (show 3 ≤ 4 by decide) h)
  refine hs_iload (i := 1) (p := 75) (by decide +kernel) rfl ?_
  refine hs_iload (i := 0) (p := 76) (by decide +kernel) rfl ?_
  refine hs_k (x := Int32.ofNat 1) (p := 77) (by decide +kernel) ?_
  refine hs_st (ins := .iushr) (len := 1) (p := 78) (by decide +kernel) rfl rfl ?_
  refine hs_iadd (p := 79) (by decide +kernel) ?_
  refine hs_iret (by decide +kernel) ?_
  exact congrArg (fun q => ((Sum.inl (some (Value.int q)) : eg_R), G, 0, 0)) (show (Int32.ofNat 1 + ((Int32.ofNat 3).toUInt32 >>> ((Int32.ofNat 1).toUInt32 &&& Int32.toUInt32 31)).toInt32) = Int32.ofNat 2 by decide +kernel)
theorem fx_tz13 : et_go none d2 307 0 (eg_en (eg_mL 307) [.int (Int32.ofNat 13)]) [] G 0 0 (xp_Z G (some (.int (Int32.ofNat 0)))) := by
  rw [show eg_mL 307 = 2 from by decide +kernel]
  show et_go none d2 307 0 [some (.int (Int32.ofNat 13)), none] [] G 0 0 _
  refine hs_iload (i := 0) (p := 1) (by decide +kernel) rfl ?_
  refine hs_k (x := (-1)) (p := 2) (by decide +kernel) ?_
  refine hs_st (ins := .ixor) (len := 1) (p := 3) (by decide +kernel) rfl rfl ?_
  refine hs_iload (i := 0) (p := 4) (by decide +kernel) rfl ?_
  refine hs_k (x := Int32.ofNat 1) (p := 5) (by decide +kernel) ?_
  refine hs_isub (p := 6) (by decide +kernel) ?_
  refine hs_st (ins := .iand) (len := 1) (p := 7) (by decide +kernel) rfl rfl ?_
  refine hs_istore (i := 0) (p := 8) (by decide +kernel) (Nat.le_of_ble_eq_true rfl) ?_
  show et_go none d2 307 8 [some (.int (((Int32.ofNat 13) ^^^ (-1)) &&& (Int32.ofNat 13 - Int32.ofNat 1))), none] [] _ _ _ _
  rw [show (((Int32.ofNat 13) ^^^ (-1)) &&& (Int32.ofNat 13 - Int32.ofNat 1)) = Int32.ofNat 0 from by decide +kernel]
  refine hs_iload (i := 0) (p := 9) (by decide +kernel) rfl ?_
  refine hs_if0 (c := .gt) (t := 17) (f := 12) (by decide +kernel) (show ¬ (0 < Int32.ofNat 0) by decide) ?_
  refine hs_iload (i := 0) (p := 13) (by decide +kernel) rfl ?_
  refine hs_k (x := Int32.ofNat 32) (p := 15) (by decide +kernel) ?_
  refine hs_st (ins := .iand) (len := 1) (p := 16) (by decide +kernel) rfl rfl ?_
  refine hs_iret (by decide +kernel) ?_
  exact congrArg (fun q => ((Sum.inl (some (Value.int q)) : eg_R), G, 0, 0)) (show ((Int32.ofNat 0) &&& (Int32.ofNat 32)) = Int32.ofNat 0 by decide +kernel)
theorem fx_tz14 : et_go none d2 307 0 (eg_en (eg_mL 307) [.int (Int32.ofNat 14)]) [] G 0 0 (xp_Z G (some (.int (Int32.ofNat 1)))) := by
  rw [show eg_mL 307 = 2 from by decide +kernel]
  show et_go none d2 307 0 [some (.int (Int32.ofNat 14)), none] [] G 0 0 _
  refine hs_iload (i := 0) (p := 1) (by decide +kernel) rfl ?_
  refine hs_k (x := (-1)) (p := 2) (by decide +kernel) ?_
  refine hs_st (ins := .ixor) (len := 1) (p := 3) (by decide +kernel) rfl rfl ?_
  refine hs_iload (i := 0) (p := 4) (by decide +kernel) rfl ?_
  refine hs_k (x := Int32.ofNat 1) (p := 5) (by decide +kernel) ?_
  refine hs_isub (p := 6) (by decide +kernel) ?_
  refine hs_st (ins := .iand) (len := 1) (p := 7) (by decide +kernel) rfl rfl ?_
  refine hs_istore (i := 0) (p := 8) (by decide +kernel) (Nat.le_of_ble_eq_true rfl) ?_
  show et_go none d2 307 8 [some (.int (((Int32.ofNat 14) ^^^ (-1)) &&& (Int32.ofNat 14 - Int32.ofNat 1))), none] [] _ _ _ _
  rw [show (((Int32.ofNat 14) ^^^ (-1)) &&& (Int32.ofNat 14 - Int32.ofNat 1)) = Int32.ofNat 1 from by decide +kernel]
  refine hs_iload (i := 0) (p := 9) (by decide +kernel) rfl ?_
  refine hs_if1 (c := .gt) (t := 17) (f := 12) (by decide +kernel) (show 0 < Int32.ofNat 1 by decide) ?_
  refine hs_k (x := Int32.ofNat 1) (p := 18) (by decide +kernel) ?_
  refine hs_istore (i := 1) (p := 19) (by decide +kernel) (Nat.le_of_ble_eq_true rfl) ?_
  refine hs_iload (i := 0) (p := 20) (by decide +kernel) rfl ?_
  refine hs_kld (v := Value.int (Int32.ofNat 65536)) (p := 23) (by decide +kernel) ?_
  refine hs_br2n (c := .le) (t := 34) (f := 26) (by decide +kernel) (by omega) (by omega) (fun _ => ?_) (fun h => absurd (show 1 ≤ 65536 by decide) h)
  refine hs_iload (i := 0) (p := 35) (by decide +kernel) rfl ?_
  refine hs_k (x := Int32.ofNat 256) (p := 38) (by decide +kernel) ?_
  refine hs_br2n (c := .le) (t := 49) (f := 41) (by decide +kernel) (by omega) (by omega) (fun _ => ?_) (fun h => absurd (show 1 ≤ 256 by decide) h)
  refine hs_iload (i := 0) (p := 50) (by decide +kernel) rfl ?_
  refine hs_k (x := Int32.ofNat 16) (p := 52) (by decide +kernel) ?_
  refine hs_br2n (c := .le) (t := 62) (f := 55) (by decide +kernel) (by omega) (by omega) (fun _ => ?_) (fun h => absurd (show 1 ≤ 16 by decide) h)
  refine hs_iload (i := 0) (p := 63) (by decide +kernel) rfl ?_
  refine hs_k (x := Int32.ofNat 4) (p := 64) (by decide +kernel) ?_
  refine hs_br2n (c := .le) (t := 74) (f := 67) (by decide +kernel) (by omega) (by omega) (fun _ => ?_) (fun h => absurd (show 1 ≤ 4 by decide) h)
  refine hs_iload (i := 1) (p := 75) (by decide +kernel) rfl ?_
  refine hs_iload (i := 0) (p := 76) (by decide +kernel) rfl ?_
  refine hs_k (x := Int32.ofNat 1) (p := 77) (by decide +kernel) ?_
  refine hs_st (ins := .iushr) (len := 1) (p := 78) (by decide +kernel) rfl rfl ?_
  refine hs_iadd (p := 79) (by decide +kernel) ?_
  refine hs_iret (by decide +kernel) ?_
  exact congrArg (fun q => ((Sum.inl (some (Value.int q)) : eg_R), G, 0, 0)) (show (Int32.ofNat 1 + ((Int32.ofNat 1).toUInt32 >>> ((Int32.ofNat 1).toUInt32 &&& Int32.toUInt32 31)).toInt32) = Int32.ofNat 1 by decide +kernel)
theorem fx_tz15 : et_go none d2 307 0 (eg_en (eg_mL 307) [.int (Int32.ofNat 15)]) [] G 0 0 (xp_Z G (some (.int (Int32.ofNat 0)))) := by
  rw [show eg_mL 307 = 2 from by decide +kernel]
  show et_go none d2 307 0 [some (.int (Int32.ofNat 15)), none] [] G 0 0 _
  refine hs_iload (i := 0) (p := 1) (by decide +kernel) rfl ?_
  refine hs_k (x := (-1)) (p := 2) (by decide +kernel) ?_
  refine hs_st (ins := .ixor) (len := 1) (p := 3) (by decide +kernel) rfl rfl ?_
  refine hs_iload (i := 0) (p := 4) (by decide +kernel) rfl ?_
  refine hs_k (x := Int32.ofNat 1) (p := 5) (by decide +kernel) ?_
  refine hs_isub (p := 6) (by decide +kernel) ?_
  refine hs_st (ins := .iand) (len := 1) (p := 7) (by decide +kernel) rfl rfl ?_
  refine hs_istore (i := 0) (p := 8) (by decide +kernel) (Nat.le_of_ble_eq_true rfl) ?_
  show et_go none d2 307 8 [some (.int (((Int32.ofNat 15) ^^^ (-1)) &&& (Int32.ofNat 15 - Int32.ofNat 1))), none] [] _ _ _ _
  rw [show (((Int32.ofNat 15) ^^^ (-1)) &&& (Int32.ofNat 15 - Int32.ofNat 1)) = Int32.ofNat 0 from by decide +kernel]
  refine hs_iload (i := 0) (p := 9) (by decide +kernel) rfl ?_
  refine hs_if0 (c := .gt) (t := 17) (f := 12) (by decide +kernel) (show ¬ (0 < Int32.ofNat 0) by decide) ?_
  refine hs_iload (i := 0) (p := 13) (by decide +kernel) rfl ?_
  refine hs_k (x := Int32.ofNat 32) (p := 15) (by decide +kernel) ?_
  refine hs_st (ins := .iand) (len := 1) (p := 16) (by decide +kernel) rfl rfl ?_
  refine hs_iret (by decide +kernel) ?_
  exact congrArg (fun q => ((Sum.inl (some (Value.int q)) : eg_R), G, 0, 0)) (show ((Int32.ofNat 0) &&& (Int32.ofNat 32)) = Int32.ofNat 0 by decide +kernel)
theorem fx_tz (hm : m < 16) : et_go none d2 307 0 (eg_en (eg_mL 307) [.int (Int32.ofNat m)]) [] G 0 0 (xp_Z G (some (.int (Int32.ofNat (tzN m))))) := by
  rcases (show m = 0 ∨ m = 1 ∨ m = 2 ∨ m = 3 ∨ m = 4 ∨ m = 5 ∨ m = 6 ∨ m = 7 ∨ m = 8 ∨ m = 9 ∨ m = 10 ∨ m = 11 ∨ m = 12 ∨ m = 13 ∨ m = 14 ∨ m = 15 by omega) with rfl | rfl | rfl | rfl | rfl | rfl | rfl | rfl | rfl | rfl | rfl | rfl | rfl | rfl | rfl | rfl
  · exact fx_tz0
  · exact fx_tz1
  · exact fx_tz2
  · exact fx_tz3
  · exact fx_tz4
  · exact fx_tz5
  · exact fx_tz6
  · exact fx_tz7
  · exact fx_tz8
  · exact fx_tz9
  · exact fx_tz10
  · exact fx_tz11
  · exact fx_tz12
  · exact fx_tz13
  · exact fx_tz14
  · exact fx_tz15
theorem fn_span (hm : m < 16) (hd : 1 ≤ d2) : et_go none d2 242 0 (eg_en (eg_mL 242) [.int (Int32.ofNat m)]) [] G 0 0 (xp_Z G (some (.int (spR m)))) := by
  obtain ⟨d, rfl⟩ : ∃ d, d2 = d + 1 := ⟨d2 - 1, by omega⟩
  rw [show eg_mL 242 = 1 from by decide +kernel]
  show et_go none (d + 1) 242 0 [some (.int (Int32.ofNat m))] [] G 0 0 _
  refine hs_k (x := Int32.ofNat 32) (p := 2) (by decide +kernel) ?_
  refine hs_iload (i := 0) (p := 3) (by decide +kernel) rfl ?_
  refine hs_calls (mi := 306) (na := 1) (lk := 1) (lm := 2) (L0 := eg_en (eg_mL 306) [.int (Int32.ofNat m)]) (by decide +kernel) rfl rfl rfl rfl rfl rfl (by rw [show eg_mL 306 = 2 from by decide +kernel]; first | done | rfl) ?_
  refine (fx_lz hm).mono (fun u hu => xp_cb hu ?_)
  show et_go none _ 242 6 _ [.int (Int32.ofNat (lzN m)), .int (Int32.ofNat 32)] _ _ _ _
  refine hs_isub (p := 7) (by decide +kernel) ?_
  refine hs_iload (i := 0) (p := 8) (by decide +kernel) rfl ?_
  refine hs_calls (mi := 307) (na := 1) (lk := 1) (lm := 2) (L0 := eg_en (eg_mL 307) [.int (Int32.ofNat m)]) (by decide +kernel) rfl rfl rfl rfl rfl rfl (by rw [show eg_mL 307 = 2 from by decide +kernel]; first | done | rfl) ?_
  refine (fx_tz hm).mono (fun u hu => xp_cb hu ?_)
  show et_go none _ 242 11 _ [.int (Int32.ofNat (tzN m)), .int (Int32.ofNat 32 - Int32.ofNat (lzN m))] _ _ _ _
  refine hs_isub (p := 12) (by decide +kernel) ?_
  refine hs_iret (by decide +kernel) ?_
  exact congrArg (fun q => ((Sum.inl (some (Value.int q)) : eg_R), G, 0, 0)) (spR_all m (List.mem_range.mpr hm))
theorem fn_nbL {x2 x3 : Option Value} (hk : k ≤ 4) (h : et_go none d 241 98 [some (.ref am), some (.int (Int32.ofNat n)), x2, x3, some (.int x), some (.int (Int32.ofNat (nrm (nrX x) 4))), some (.int (Int32.ofNat (nrm (nrY x) 4))), some (.int (Int32.ofNat 4))] [] G 0 0 Z) : et_go none d 241 35 [some (.ref am), some (.int (Int32.ofNat n)), x2, x3, some (.int x), some (.int (Int32.ofNat (nrm (nrX x) k))), some (.int (Int32.ofNat (nrm (nrY x) k))), some (.int (Int32.ofNat k))] [] G 0 0 Z := by
  induction hq9 : 4 - k using Nat.strongRecOn generalizing k with
  | _ q9 ih =>
    refine hs_iload (i := 7) (p := 37) (by decide +kernel) rfl ?_
    refine hs_k (x := Int32.ofNat 4) (p := 38) (by decide +kernel) ?_
    refine hs_br2n (c := .ge) (t := 98) (f := 41) (by decide +kernel) (by omega) (by omega) (fun (c38 : 4 ≤ k) => ?_) (fun (c38 : ¬ (4 ≤ k)) => ?_)
    · obtain rfl : k = 4 := by omega
      exact h
    · refine hs_iload (i := 5) (p := 43) (by decide +kernel) rfl ?_
      refine hs_iload (i := 4) (p := 45) (by decide +kernel) rfl ?_
      refine hs_iload (i := 7) (p := 47) (by decide +kernel) rfl ?_
      refine hs_st (ins := .ishr) (len := 1) (p := 48) (by decide +kernel) rfl rfl ?_
      refine hs_k (x := Int32.ofNat 4369) (p := 51) (by decide +kernel) ?_
      refine hs_st (ins := .iand) (len := 1) (p := 52) (by decide +kernel) rfl rfl ?_
      refine hs_br1 (c := .le) (t := 62) (f := 55) (by decide +kernel) (fun (c52 : ((x >>> ((Int32.ofNat k) &&& 31)) &&& (Int32.ofNat 4369)) ≤ 0) => ?_) (fun (c52 : ¬ (((x >>> ((Int32.ofNat k) &&& 31)) &&& (Int32.ofNat 4369)) ≤ 0)) => ?_)
      · refine hs_k (x := Int32.ofNat 0) (p := 63) (by decide +kernel) ?_
        refine hs_st (ins := .ior) (len := 1) (p := 64) (by decide +kernel) rfl rfl ?_
        refine hs_istore (i := 5) (p := 66) (by decide +kernel) (Nat.le_of_ble_eq_true rfl) ?_
        refine hs_iload (i := 6) (p := 68) (by decide +kernel) rfl ?_
        refine hs_iload (i := 4) (p := 70) (by decide +kernel) rfl ?_
        refine hs_k (x := Int32.ofNat 4) (p := 71) (by decide +kernel) ?_
        refine hs_iload (i := 7) (p := 73) (by decide +kernel) rfl ?_
        refine hs_imuln (p := 74) (by decide +kernel) ?_
        refine hs_st (ins := .ishr) (len := 1) (p := 75) (by decide +kernel) rfl rfl ?_
        refine hs_k (x := Int32.ofNat 15) (p := 77) (by decide +kernel) ?_
        refine hs_st (ins := .iand) (len := 1) (p := 78) (by decide +kernel) rfl rfl ?_
        refine hs_br1 (c := .le) (t := 88) (f := 81) (by decide +kernel) (fun (c78 : ((x >>> ((Int32.ofNat (4 * k)) &&& 31)) &&& (Int32.ofNat 15)) ≤ 0) => ?_) (fun (c78 : ¬ (((x >>> ((Int32.ofNat (4 * k)) &&& 31)) &&& (Int32.ofNat 15)) ≤ 0)) => ?_)
        · refine hs_k (x := Int32.ofNat 0) (p := 89) (by decide +kernel) ?_
          refine hs_st (ins := .ior) (len := 1) (p := 90) (by decide +kernel) rfl rfl ?_
          refine hs_istore (i := 6) (p := 92) (by decide +kernel) (Nat.le_of_ble_eq_true rfl) ?_
          refine hs_iinc1 (i := 7) (p := 95) (by decide +kernel) rfl (Nat.le_of_ble_eq_true rfl) ?_
          refine hs_goto (p := 35) (by decide +kernel) ?_
          have eX := nrm_n (by omega) (show nrX x k = false from decide_eq_false (fun h9 => h9 (nr_z (by decide) c52)))
          have eY := nrm_n (by omega) (show nrY x k = false from decide_eq_false (fun h9 => h9 (nr_z (by decide) c78)))
          show et_go none d 241 35 [some (.ref am), some (.int (Int32.ofNat n)), x2, x3, some (.int x), some (.int (Int32.ofNat (nrm (nrX x) k) ||| Int32.ofNat 0)), some (.int (Int32.ofNat (nrm (nrY x) k) ||| Int32.ofNat 0)), some (.int (Int32.ofNat (k + 1)))] [] _ _ _ _
          rw [eX, eY]
          exact @ih (4 - (k + 1)) (by omega) (k + 1) (by omega) rfl
        · refine hs_k (x := Int32.ofNat 1) (p := 82) (by decide +kernel) ?_
          refine hs_iload (i := 7) (p := 84) (by decide +kernel) rfl ?_
          refine hs_st (ins := .ishl) (len := 1) (p := 85) (by decide +kernel) rfl rfl ?_
          refine hs_goto (p := 89) (by decide +kernel) ?_
          refine hs_st (ins := .ior) (len := 1) (p := 90) (by decide +kernel) rfl rfl ?_
          refine hs_istore (i := 6) (p := 92) (by decide +kernel) (Nat.le_of_ble_eq_true rfl) ?_
          refine hs_iinc1 (i := 7) (p := 95) (by decide +kernel) rfl (Nat.le_of_ble_eq_true rfl) ?_
          refine hs_goto (p := 35) (by decide +kernel) ?_
          have eX := nrm_n (by omega) (show nrX x k = false from decide_eq_false (fun h9 => h9 (nr_z (by decide) c52)))
          have eY := nrm_y (by omega) (show nrY x k = true from decide_eq_true (nr_p c78))
          show et_go none d 241 35 [some (.ref am), some (.int (Int32.ofNat n)), x2, x3, some (.int x), some (.int (Int32.ofNat (nrm (nrX x) k) ||| Int32.ofNat 0)), some (.int (Int32.ofNat (nrm (nrY x) k) ||| (Int32.ofNat 1 <<< (Int32.ofNat k &&& 31)))), some (.int (Int32.ofNat (k + 1)))] [] _ _ _ _
          rw [eX, eY]
          exact @ih (4 - (k + 1)) (by omega) (k + 1) (by omega) rfl
      · refine hs_k (x := Int32.ofNat 1) (p := 56) (by decide +kernel) ?_
        refine hs_iload (i := 7) (p := 58) (by decide +kernel) rfl ?_
        refine hs_st (ins := .ishl) (len := 1) (p := 59) (by decide +kernel) rfl rfl ?_
        refine hs_goto (p := 63) (by decide +kernel) ?_
        refine hs_st (ins := .ior) (len := 1) (p := 64) (by decide +kernel) rfl rfl ?_
        refine hs_istore (i := 5) (p := 66) (by decide +kernel) (Nat.le_of_ble_eq_true rfl) ?_
        refine hs_iload (i := 6) (p := 68) (by decide +kernel) rfl ?_
        refine hs_iload (i := 4) (p := 70) (by decide +kernel) rfl ?_
        refine hs_k (x := Int32.ofNat 4) (p := 71) (by decide +kernel) ?_
        refine hs_iload (i := 7) (p := 73) (by decide +kernel) rfl ?_
        refine hs_imuln (p := 74) (by decide +kernel) ?_
        refine hs_st (ins := .ishr) (len := 1) (p := 75) (by decide +kernel) rfl rfl ?_
        refine hs_k (x := Int32.ofNat 15) (p := 77) (by decide +kernel) ?_
        refine hs_st (ins := .iand) (len := 1) (p := 78) (by decide +kernel) rfl rfl ?_
        refine hs_br1 (c := .le) (t := 88) (f := 81) (by decide +kernel) (fun (c78 : ((x >>> ((Int32.ofNat (4 * k)) &&& 31)) &&& (Int32.ofNat 15)) ≤ 0) => ?_) (fun (c78 : ¬ (((x >>> ((Int32.ofNat (4 * k)) &&& 31)) &&& (Int32.ofNat 15)) ≤ 0)) => ?_)
        · refine hs_k (x := Int32.ofNat 0) (p := 89) (by decide +kernel) ?_
          refine hs_st (ins := .ior) (len := 1) (p := 90) (by decide +kernel) rfl rfl ?_
          refine hs_istore (i := 6) (p := 92) (by decide +kernel) (Nat.le_of_ble_eq_true rfl) ?_
          refine hs_iinc1 (i := 7) (p := 95) (by decide +kernel) rfl (Nat.le_of_ble_eq_true rfl) ?_
          refine hs_goto (p := 35) (by decide +kernel) ?_
          have eX := nrm_y (by omega) (show nrX x k = true from decide_eq_true (nr_p c52))
          have eY := nrm_n (by omega) (show nrY x k = false from decide_eq_false (fun h9 => h9 (nr_z (by decide) c78)))
          show et_go none d 241 35 [some (.ref am), some (.int (Int32.ofNat n)), x2, x3, some (.int x), some (.int (Int32.ofNat (nrm (nrX x) k) ||| (Int32.ofNat 1 <<< (Int32.ofNat k &&& 31)))), some (.int (Int32.ofNat (nrm (nrY x) k) ||| Int32.ofNat 0)), some (.int (Int32.ofNat (k + 1)))] [] _ _ _ _
          rw [eX, eY]
          exact @ih (4 - (k + 1)) (by omega) (k + 1) (by omega) rfl
        · refine hs_k (x := Int32.ofNat 1) (p := 82) (by decide +kernel) ?_
          refine hs_iload (i := 7) (p := 84) (by decide +kernel) rfl ?_
          refine hs_st (ins := .ishl) (len := 1) (p := 85) (by decide +kernel) rfl rfl ?_
          refine hs_goto (p := 89) (by decide +kernel) ?_
          refine hs_st (ins := .ior) (len := 1) (p := 90) (by decide +kernel) rfl rfl ?_
          refine hs_istore (i := 6) (p := 92) (by decide +kernel) (Nat.le_of_ble_eq_true rfl) ?_
          refine hs_iinc1 (i := 7) (p := 95) (by decide +kernel) rfl (Nat.le_of_ble_eq_true rfl) ?_
          refine hs_goto (p := 35) (by decide +kernel) ?_
          have eX := nrm_y (by omega) (show nrX x k = true from decide_eq_true (nr_p c52))
          have eY := nrm_y (by omega) (show nrY x k = true from decide_eq_true (nr_p c78))
          show et_go none d 241 35 [some (.ref am), some (.int (Int32.ofNat n)), x2, x3, some (.int x), some (.int (Int32.ofNat (nrm (nrX x) k) ||| (Int32.ofNat 1 <<< (Int32.ofNat k &&& 31)))), some (.int (Int32.ofNat (nrm (nrY x) k) ||| (Int32.ofNat 1 <<< (Int32.ofNat k &&& 31)))), some (.int (Int32.ofNat (k + 1)))] [] _ _ _ _
          rw [eX, eY]
          exact @ih (4 - (k + 1)) (by omega) (k + 1) (by omega) rfl
theorem fn_neL {x4 x5 x6 x7 : Option Value} (hH : et_H et_TT K G) (k_am : K am = some 13) (k_aw : K aw = some 46) (m1 : et_pl (eg_at G am) 1 = some (.ref aw)) (hn : n < 3) (ho : evo v) (hv : evm G aw n v) (hm : m ≤ v.1) : et_go none (d + 2) 241 4 [some (.ref am), some (.int (Int32.ofNat n)), some (.int (Int32.ofNat (neN v.2.1 m))), some (.int (Int32.ofNat m)), x4, x5, x6, x7] [] G 0 0 (xp_Z G (some (.int (Int32.ofNat (neN v.2.1 v.1))))) := by
  induction hq9 : v.1 - m using Nat.strongRecOn generalizing m x4 x5 x6 x7 with
  | _ q9 ih =>
    have hle := neN_le v.2.1 m
    have hw6 := ho.1.1
    have lt_am := (hH.2.2 _ _ k_am).1
    have lt_aw := (hH.2.2 _ _ k_aw).1
    refine hs_iload (i := 3) (p := 5) (by decide +kernel) rfl ?_
    refine hs_aload (i := 0) (p := 6) (by decide +kernel) rfl ?_
    refine hs_iload (i := 1) (p := 7) (by decide +kernel) rfl ?_
    refine ht_callv (T := et_TT) (t := 13) (mi := 224) (na := 1) (ci := 11) (lk := 8) (lm := 2) (L0 := eg_en (eg_mL 224) [.ref am, .int (Int32.ofNat n)]) (by decide +kernel) rfl hH k_am rfl rfl rfl rfl rfl (by rw [show eg_mL 224 = 2 from by decide +kernel]; first | done | rfl) ?_
    refine (fn_wires hH k_am k_aw m1 hn hv.1 (by omega)).mono (fun u hu => xp_cb hu ?_)
    show et_go none _ 241 10 _ [.int (Int32.ofNat v.1), .int (Int32.ofNat m)] _ _ _ _
    refine hs_br2n (c := .ge) (t := 122) (f := 13) (by decide +kernel) (by omega) (by omega) (fun (c10 : v.1 ≤ m) => ?_) (fun (c10 : ¬ (v.1 ≤ m)) => ?_)
    · refine hs_iload (i := 2) (p := 123) (by decide +kernel) rfl ?_
      refine hs_iret (by decide +kernel) ?_
      obtain rfl : m = v.1 := by omega
      rfl
    · refine hs_aload (i := 0) (p := 14) (by decide +kernel) rfl ?_
      refine hf_get (T := et_TT) (t := 13) (ci := 11) (f := 1) (p := 17) (by decide +kernel) rfl hH k_am m1 ?_
      refine hs_iload (i := 1) (p := 18) (by decide +kernel) rfl ?_
      refine hs_iload (i := 3) (p := 19) (by decide +kernel) rfl ?_
      refine hs_k (x := Int32.ofNat 0) (p := 20) (by decide +kernel) ?_
      refine hs_calls (mi := 226) (na := 3) (lk := 8) (lm := 3) (L0 := eg_en (eg_mL 226) [.int (Int32.ofNat n), .int (Int32.ofNat m), .int (Int32.ofNat 0)]) (by decide +kernel) rfl rfl rfl rfl rfl rfl (by rw [show eg_mL 226 = 3 from by decide +kernel]; first | done | rfl) ?_
      refine (fn_wireAt).mono (fun u hu => xp_cb hu ?_)
      show et_go none _ 241 23 _ [.int (Int32.ofNat (45 + 23 * n + (1 + 3 * m + 0))), .ref aw] _ _ _ _
      refine hf_ald (ins := .iaload) (T := et_TT) (t := 46) (kd := 0) (N := 12741) (p := 24) (by decide +kernel) (fun _ _ _ _ _ _ _ _ _ _ => rfl) rfl rfl rfl hH k_aw (by decide) (hv.2.1 m (by omega)).1 ?_
      refine hs_istore (i := 4) (p := 26) (by decide +kernel) (Nat.le_of_ble_eq_true rfl) ?_
      refine hs_k (x := Int32.ofNat 0) (p := 27) (by decide +kernel) ?_
      refine hs_istore (i := 5) (p := 29) (by decide +kernel) (Nat.le_of_ble_eq_true rfl) ?_
      refine hs_k (x := Int32.ofNat 0) (p := 30) (by decide +kernel) ?_
      refine hs_istore (i := 6) (p := 32) (by decide +kernel) (Nat.le_of_ble_eq_true rfl) ?_
      refine hs_k (x := Int32.ofNat 0) (p := 33) (by decide +kernel) ?_
      refine hs_istore (i := 7) (p := 35) (by decide +kernel) (Nat.le_of_ble_eq_true rfl) ?_
      refine fn_nbL (x := v.2.1 m) (k := 0) (Nat.zero_le _) ?_
      refine hs_iload (i := 2) (p := 99) (by decide +kernel) rfl ?_
      refine hs_iload (i := 5) (p := 101) (by decide +kernel) rfl ?_
      refine hs_calls (mi := 242) (na := 1) (lk := 8) (lm := 1) (L0 := eg_en (eg_mL 242) [.int (Int32.ofNat (nrm (nrX (v.2.1 m)) 4))]) (by decide +kernel) rfl rfl rfl rfl rfl rfl (by rw [show eg_mL 242 = 1 from by decide +kernel]; first | done | rfl) ?_
      refine (fn_span nrm_16 (by omega)).mono (fun u hu => xp_cb hu ?_)
      show et_go none _ 241 104 _ [.int (spR (nrm (nrX (v.2.1 m)) 4)), .int (Int32.ofNat (neN v.2.1 m))] _ _ _ _
      refine hs_iload (i := 6) (p := 106) (by decide +kernel) rfl ?_
      refine hs_calls (mi := 242) (na := 1) (lk := 8) (lm := 1) (L0 := eg_en (eg_mL 242) [.int (Int32.ofNat (nrm (nrY (v.2.1 m)) 4))]) (by decide +kernel) rfl rfl rfl rfl rfl rfl (by rw [show eg_mL 242 = 1 from by decide +kernel]; first | done | rfl) ?_
      refine (fn_span nrm_16 (by omega)).mono (fun u hu => xp_cb hu ?_)
      show et_go none _ 241 109 _ [.int (spR (nrm (nrY (v.2.1 m)) 4)), .int (spR (nrm (nrX (v.2.1 m)) 4)), .int (Int32.ofNat (neN v.2.1 m))] _ _ _ _
      refine hs_math (mi := 310) (lk := 8) (p := 112) (by decide +kernel) rfl rfl rfl rfl ?_
      refine hs_math (mi := 310) (lk := 8) (p := 115) (by decide +kernel) rfl rfl rfl rfl ?_
      refine hs_istore (i := 2) (p := 116) (by decide +kernel) (Nat.le_of_ble_eq_true rfl) ?_
      refine hs_iinc1 (i := 3) (p := 119) (by decide +kernel) rfl (Nat.le_of_ble_eq_true rfl) ?_
      refine hs_goto (p := 4) (by decide +kernel) ?_
      show et_go none (d + 2) 241 4 [some (.ref am), some (.int (Int32.ofNat n)), some (.int (if Int32.ofNat (neN v.2.1 m) < (if spR (nrm (nrX (v.2.1 m)) 4) < spR (nrm (nrY (v.2.1 m)) 4) then spR (nrm (nrY (v.2.1 m)) 4) else spR (nrm (nrX (v.2.1 m)) 4)) then (if spR (nrm (nrX (v.2.1 m)) 4) < spR (nrm (nrY (v.2.1 m)) 4) then spR (nrm (nrY (v.2.1 m)) 4) else spR (nrm (nrX (v.2.1 m)) 4)) else Int32.ofNat (neN v.2.1 m))), some (.int (Int32.ofNat (m + 1))), some (.int (v.2.1 m)), some (.int (Int32.ofNat (nrm (nrX (v.2.1 m)) 4))), some (.int (Int32.ofNat (nrm (nrY (v.2.1 m)) 4))), some (.int (Int32.ofNat 4))] [] _ _ _ _
      rw [mx_r _ (List.mem_range.mpr (by omega)) _ (List.mem_range.mpr nrm_16) _ (List.mem_range.mpr nrm_16)]
      exact @ih (v.1 - (m + 1)) (by omega) (m + 1) _ _ _ _ (by omega) rfl
theorem fn_near (hH : et_H et_TT K G) (k_am : K am = some 13) (k_aw : K aw = some 46) (m1 : et_pl (eg_at G am) 1 = some (.ref aw)) (hn : n < 3) (ho : evo v) (hv : evm G aw n v) (hd : 2 ≤ d2) : et_go none d2 241 0 (eg_en (eg_mL 241) [.ref am, .int (Int32.ofNat n)]) [] G 0 0 (xp_Z G (some (.int (Int32.ofNat (neN v.2.1 v.1))))) := by
  obtain ⟨d, rfl⟩ : ∃ d, d2 = d + 2 := ⟨d2 - 2, by omega⟩
  rw [show eg_mL 241 = 8 from by decide +kernel]
  show et_go none (d + 2) 241 0 [some (.ref am), some (.int (Int32.ofNat n)), none, none, none, none, none, none] [] G 0 0 _
  refine hs_k (x := Int32.ofNat 0) (p := 1) (by decide +kernel) ?_
  refine hs_istore (i := 2) (p := 2) (by decide +kernel) (Nat.le_of_ble_eq_true rfl) ?_
  refine hs_k (x := Int32.ofNat 0) (p := 3) (by decide +kernel) ?_
  refine hs_istore (i := 3) (p := 4) (by decide +kernel) (Nat.le_of_ble_eq_true rfl) ?_
  exact fn_neL (m := 0) hH k_am k_aw m1 hn ho hv (Nat.zero_le _)
end YDA
