/-! ENDS -/
def et_mn : Int := -2147483648
def et_mx : Int := 2147483647
def et_w (lo hi : Int) : Int × Int := if et_mn ≤ lo ∧ hi ≤ et_mx then (lo, hi) else (et_mn, et_mx)
def et_mi4 (a b c d : Int) : Int := min (min a b) (min c d)
def et_ma4 (a b c d : Int) : Int := max (max a b) (max c d)
/-- the ends of what an operation on two ints answers -/
def et_bi (ins : Instr) (a b c d : Int) : Int × Int := match ins with
  | .iadd => et_w (a + c) (b + d)
  | .isub => et_w (a - d) (b - c)
  | .imul => et_w (et_mi4 (a * c) (a * d) (b * c) (b * d)) (et_ma4 (a * c) (a * d) (b * c) (b * d))
  | .iand => if 0 ≤ c then (0, d) else if 0 ≤ a then (0, b) else (et_mn, et_mx)
  | .ior => if 0 ≤ a ∧ b ≤ 1 ∧ 0 ≤ c ∧ d ≤ 1 then (0, 1) else (et_mn, et_mx)
  | .ishr => if c = d ∧ 0 ≤ c ∧ c ≤ 31 ∧ 0 ≤ a then (0, b / 2 ^ c.toNat) else if 0 ≤ a then (0, b) else (et_mn, et_mx)
  | .iushr => if c = d ∧ 1 ≤ c ∧ c ≤ 31 then (0, ((2147483647 / 2 ^ (c - 1).toNat : Nat) : Int)) else (et_mn, et_mx)
  | .idiv => if 0 ≤ a ∧ 1 ≤ c then (0, b / c) else (et_mn, et_mx)
  | .irem => if 0 ≤ a ∧ 1 ≤ c then (0, min b (d - 1)) else (et_mn, et_mx)
  | _ => (et_mn, et_mx)
def et_bf (ins : Instr) : Option (Int32 → Int32 → Int32) := match ins with
  | .iadd => some (fun x y => x + y)
  | .isub => some (fun x y => x - y)
  | .imul => some (fun x y => x * y)
  | .iand => some (fun x y => x &&& y)
  | .ior => some (fun x y => x ||| y)
  | .ixor => some (fun x y => x ^^^ y)
  | .ishl => some (fun x y => x <<< (y &&& 31))
  | .ishr => some (fun x y => x >>> (y &&& 31))
  | .iushr => some (fun x y => (x.toUInt32 >>> (y.toUInt32 &&& Int32.toUInt32 31)).toInt32)
  | .idiv => some (fun x y => x / y)
  | .irem => some (fun x y => x - x / y * y)
  | _ => none
theorem et_any (x : Int32) : et_mn ≤ x.toInt ∧ x.toInt ≤ et_mx := ⟨x.le_toInt, Int.le_of_lt_add_one x.toInt_lt⟩
theorem et_w_ok {lo hi z : Int} {x : Int32} (h1 : lo ≤ z) (h2 : z ≤ hi) (e : et_mn ≤ z → z ≤ et_mx → x.toInt = z) : (et_w lo hi).1 ≤ x.toInt ∧ x.toInt ≤ (et_w lo hi).2 := by
  unfold et_w
  split
  · rename_i h
    rw [e (Int.le_trans h.1 h1) (Int.le_trans h2 h.2)]
    exact ⟨h1, h2⟩
  · exact et_any x
theorem et_bm {z : Int} (h1 : et_mn ≤ z) (h2 : z ≤ et_mx) : z.bmod (2 ^ 32) = z := by
  unfold et_mn at h1
  unfold et_mx at h2
  rw [Int.bmod_eq_of_le]
  · omega
  · omega
theorem et_add (x y : Int32) (h1 : et_mn ≤ x.toInt + y.toInt) (h2 : x.toInt + y.toInt ≤ et_mx) : (x + y).toInt = x.toInt + y.toInt := by
  rw [Int32.toInt_add]
  exact et_bm h1 h2
theorem et_sub (x y : Int32) (h1 : et_mn ≤ x.toInt - y.toInt) (h2 : x.toInt - y.toInt ≤ et_mx) : (x - y).toInt = x.toInt - y.toInt := by
  rw [Int32.toInt_sub]
  exact et_bm h1 h2
theorem et_mul (x y : Int32) (h1 : et_mn ≤ x.toInt * y.toInt) (h2 : x.toInt * y.toInt ≤ et_mx) : (x * y).toInt = x.toInt * y.toInt := by
  rw [Int32.toInt_mul]
  exact et_bm h1 h2
theorem et_mulb {a b c d x y : Int} (h1 : a ≤ x) (h2 : x ≤ b) (h3 : c ≤ y) (h4 : y ≤ d) : et_mi4 (a * c) (a * d) (b * c) (b * d) ≤ x * y ∧ x * y ≤ et_ma4 (a * c) (a * d) (b * c) (b * d) := by
  have lo : ∀ z : Int, (a * z ≤ x * z ∧ x * z ≤ b * z) ∨ (b * z ≤ x * z ∧ x * z ≤ a * z) := fun z => by
    rcases Int.le_total 0 z with h | h
    · exact .inl ⟨Int.mul_le_mul_of_nonneg_right h1 h, Int.mul_le_mul_of_nonneg_right h2 h⟩
    · exact .inr ⟨Int.mul_le_mul_of_nonpos_right h2 h, Int.mul_le_mul_of_nonpos_right h1 h⟩
  have hi : ∀ z : Int, (z * c ≤ z * y ∧ z * y ≤ z * d) ∨ (z * d ≤ z * y ∧ z * y ≤ z * c) := fun z => by
    rcases Int.le_total 0 z with h | h
    · exact .inl ⟨Int.mul_le_mul_of_nonneg_left h3 h, Int.mul_le_mul_of_nonneg_left h4 h⟩
    · exact .inr ⟨Int.mul_le_mul_of_nonpos_left h h4, Int.mul_le_mul_of_nonpos_left h h3⟩
  have h5 := lo y
  have h6 := hi a
  have h7 := hi b
  unfold et_mi4 et_ma4
  generalize a * c = p at *
  generalize a * d = q at *
  generalize b * c = r at *
  generalize b * d = s at *
  generalize x * y = t at *
  generalize a * y = u at *
  generalize b * y = v at *
  omega
theorem et_or1 (x y : Int32) (h1 : 0 ≤ x.toInt) (h2 : x.toInt ≤ 1) (h3 : 0 ≤ y.toInt) (h4 : y.toInt ≤ 1) : 0 ≤ (x ||| y).toInt ∧ (x ||| y).toInt ≤ 1 := by
  have hx : x = 0 ∨ x = 1 := (show x.toInt = 0 ∨ x.toInt = 1 by omega).imp (fun h => Int32.toInt_inj.mp h) (fun h => Int32.toInt_inj.mp h)
  have hy : y = 0 ∨ y = 1 := (show y.toInt = 0 ∨ y.toInt = 1 by omega).imp (fun h => Int32.toInt_inj.mp h) (fun h => Int32.toInt_inj.mp h)
  rcases hx with rfl | rfl <;> rcases hy with rfl | rfl <;> decide
theorem et_and1 (x y : Int32) (h : 0 ≤ y.toInt) : 0 ≤ (x &&& y).toInt ∧ (x &&& y).toInt ≤ y.toInt := by
  have hy : y.toBitVec.msb = false := by
    have h1 : y.toInt = y.toBitVec.toInt := rfl
    rw [h1] at h
    exact BitVec.msb_eq_false_iff_two_mul_lt.mpr (by
      have := BitVec.toInt_eq_toNat_cond y.toBitVec
      have h3 := y.toBitVec.isLt
      split at this <;> omega)
  have e : (x &&& y).toInt = ((x.toBitVec &&& y.toBitVec).toNat : Int) := by
    show (x.toBitVec &&& y.toBitVec).toInt = _
    rw [BitVec.toInt_eq_toNat_of_msb]
    rw [BitVec.msb_and, hy, Bool.and_false]
  have e2 : y.toInt = (y.toBitVec.toNat : Int) := BitVec.toInt_eq_toNat_of_msb hy
  rw [e, e2, BitVec.toNat_and]
  have := Nat.and_le_right (n := x.toBitVec.toNat) (m := y.toBitVec.toNat)
  omega
theorem et_and2 (x y : Int32) (h : 0 ≤ x.toInt) : 0 ≤ (x &&& y).toInt ∧ (x &&& y).toInt ≤ x.toInt := by
  rw [Int32.and_comm]
  exact et_and1 y x h
theorem et_shr (x y : Int32) (h : 0 ≤ x.toInt) : 0 ≤ (x >>> y).toInt ∧ (x >>> y).toInt ≤ x.toInt := by
  have e : (x >>> y).toInt = x.toInt >>> (y.toBitVec.smod 32).toNat := by
    show (x.toBitVec.sshiftRight (y.toBitVec.smod 32).toNat).toInt = _
    rw [BitVec.toInt_sshiftRight]
    rfl
  rw [e, Int.shiftRight_eq_div_pow]
  exact ⟨Int.ediv_nonneg h (by exact_mod_cast Nat.zero_le _), Int.ediv_le_self _ h⟩
theorem et_div (x y : Int32) (h : 0 ≤ x.toInt) (hy : 1 ≤ y.toInt) : (x / y).toInt = x.toInt / y.toInt := by
  rw [Int32.toInt_div, Int.tdiv_eq_ediv_of_nonneg h]
  have h1 : x.toInt / y.toInt ≤ x.toInt := Int.ediv_le_self _ h
  have h2 : 0 ≤ x.toInt / y.toInt := Int.ediv_nonneg h (by omega)
  have h3 := (et_any x).2
  exact et_bm (by unfold et_mn; omega) (by omega)
theorem et_div1 (x y : Int32) (h : 0 ≤ x.toInt) (hy : 1 ≤ y.toInt) : 0 ≤ (x / y).toInt ∧ (x / y).toInt ≤ x.toInt := by
  rw [et_div x y h hy]
  exact ⟨Int.ediv_nonneg h (by omega), Int.ediv_le_self _ h⟩
theorem et_div2 (x y : Int32) {b c : Int} (h : 0 ≤ x.toInt) (hb : x.toInt ≤ b) (hc : 1 ≤ c) (hy : c ≤ y.toInt) : 0 ≤ (x / y).toInt ∧ (x / y).toInt ≤ b / c := by
  rw [et_div x y h (by omega)]
  have h0 : 0 ≤ x.toInt / y.toInt := Int.ediv_nonneg h (by omega)
  refine ⟨h0, Int.le_ediv_of_mul_le (by omega) ?_⟩
  have h1 : x.toInt / y.toInt * c ≤ x.toInt / y.toInt * y.toInt := Int.mul_le_mul_of_nonneg_left hy h0
  have h2 : x.toInt / y.toInt * y.toInt ≤ x.toInt := Int.ediv_mul_le _ (by omega)
  omega
theorem et_rem (x y : Int32) (h : 0 ≤ x.toInt) (hy : 1 ≤ y.toInt) : 0 ≤ (x - x / y * y).toInt ∧ (x - x / y * y).toInt ≤ x.toInt ∧ (x - x / y * y).toInt ≤ y.toInt - 1 := by
  have h0 := et_div x y h hy
  have h3 := (et_any x).2
  have h4 := Int.mul_ediv_add_emod x.toInt y.toInt
  have h5 := Int.emod_nonneg x.toInt (show y.toInt ≠ 0 by omega)
  have h6 := Int.emod_lt_of_pos x.toInt (show 0 < y.toInt by omega)
  have h7 : (x / y).toInt * y.toInt = x.toInt - x.toInt % y.toInt := by
    rw [h0, Int.mul_comm]
    omega
  have hq : 0 ≤ y.toInt * (x.toInt / y.toInt) := Int.mul_nonneg (by omega) (Int.ediv_nonneg h (by omega))
  have h8 : x.toInt % y.toInt ≤ x.toInt := by omega
  have h9 : (x / y * y).toInt = x.toInt - x.toInt % y.toInt := by
    rw [et_mul _ _ (by rw [h7]; unfold et_mn; omega) (by rw [h7]; omega), h7]
  have ha : (x - x / y * y).toInt = x.toInt % y.toInt := by
    rw [et_sub _ _ (by rw [h9]; unfold et_mn; omega) (by rw [h9]; omega), h9]
    omega
  rw [ha]
  exact ⟨h5, h8, by omega⟩
theorem et_ushr (x : Int32) (k : Nat) (h1 : 1 ≤ k) (h2 : k ≤ 31) (y : Int32) (hy : y.toInt = k) : 0 ≤ ((x.toUInt32 >>> (y.toUInt32 &&& Int32.toUInt32 31)).toInt32).toInt ∧ ((x.toUInt32 >>> (y.toUInt32 &&& Int32.toUInt32 31)).toInt32).toInt ≤ ((2147483647 / 2 ^ (k - 1) : Nat) : Int) := by
  have e : y = Int32.ofNat k := Int32.toInt_inj.mp (by rw [hy, Int32.toInt_ofNat_of_lt (by omega)])
  have e2 : (y.toUInt32 &&& Int32.toUInt32 31) = UInt32.ofNat k := by
    rw [e]
    have hk : ∀ k, k < 32 → ((Int32.ofNat k).toUInt32 &&& Int32.toUInt32 31) = UInt32.ofNat k := by decide
    exact hk k (by omega)
  rw [e2]
  have e3 : (x.toUInt32 >>> UInt32.ofNat k).toNat = x.toUInt32.toNat / 2 ^ k := by
    rw [UInt32.toNat_shiftRight, UInt32.toNat_ofNat_of_lt' (by unfold UInt32.size; omega), Nat.mod_eq_of_lt (by omega), Nat.shiftRight_eq_div_pow]
  have e4 : x.toUInt32.toNat / 2 ^ k ≤ 2147483647 / 2 ^ (k - 1) := by
    have h3 : x.toUInt32.toNat ≤ 4294967295 := Nat.le_of_lt_succ x.toUInt32.toNat_lt
    have h4 : 2 ^ k = 2 * 2 ^ (k - 1) := by
      obtain ⟨j, rfl⟩ : ∃ j, k = j + 1 := ⟨k - 1, by omega⟩
      rw [Nat.add_sub_cancel, Nat.pow_succ, Nat.mul_comm]
    rw [h4, ← Nat.div_div_eq_div_mul]
    exact Nat.div_le_div_right (by omega)
  have e5 : 2147483647 / 2 ^ (k - 1) ≤ 2147483647 := Nat.div_le_self _ _
  have e6 : ((x.toUInt32 >>> UInt32.ofNat k).toInt32).toInt = (((x.toUInt32 >>> UInt32.ofNat k).toNat : Nat) : Int) := by
    show ((x.toUInt32 >>> UInt32.ofNat k).toBitVec).toInt = _
    have h9 : (x.toUInt32 >>> UInt32.ofNat k).toBitVec.toNat = (x.toUInt32 >>> UInt32.ofNat k).toNat := rfl
    rw [BitVec.toInt_eq_toNat_cond, if_pos (by rw [h9, e3]; omega), h9]
  rw [e6, e3]
  constructor
  · omega
  · exact Int.ofNat_le.mpr e4
theorem et_shk (x : Int32) (k : Nat) (hk : k < 32) (y : Int32) (hy : y.toInt = k) (h : 0 ≤ x.toInt) {b : Int} (hb : x.toInt ≤ b) : 0 ≤ (x >>> (y &&& 31)).toInt ∧ (x >>> (y &&& 31)).toInt ≤ b / 2 ^ k := by
  have e : y = Int32.ofNat k := Int32.toInt_inj.mp (by rw [hy, Int32.toInt_ofNat_of_lt (by omega)])
  have e2 : (y &&& 31).toBitVec.smod 32 = BitVec.ofNat 32 k := by
    rw [e]
    have h9 : ∀ k, k < 32 → (Int32.ofNat k &&& 31).toBitVec.smod 32 = BitVec.ofNat 32 k := by decide
    exact h9 k hk
  have e3 : (x >>> (y &&& 31)).toInt = x.toInt >>> k := by
    show (x.toBitVec.sshiftRight ((y &&& 31).toBitVec.smod 32).toNat).toInt = _
    rw [BitVec.toInt_sshiftRight, e2, BitVec.toNat_ofNat, Nat.mod_eq_of_lt (by omega)]
    rfl
  rw [e3, Int.shiftRight_eq_div_pow]
  have hp : (0 : Int) < 2 ^ k := Int.pow_pos (by decide)
  exact ⟨Int.ediv_nonneg h (Int.le_of_lt (by exact_mod_cast hp)), by exact_mod_cast Int.ediv_le_ediv hp hb⟩
