/-! FUNCTIONAL: the TAPE's bytes -/
/-- a byte of an int -/
def by4 (v : Int32) (s : Nat) : Nat := (v.toUInt32.toNat / 2 ^ s) % 256
theorem by4_lt {v : Int32} {s : Nat} : by4 v s < 256 := Nat.mod_lt _ (by decide)
theorem by_u {v : Int32} {s : Nat} (hs : s ∈ [0, 8, 16, 24]) : ((v.toUInt32 >>> ((Int32.ofNat s).toUInt32 &&& Int32.toUInt32 31)).toInt32 &&& Int32.ofNat 255).toUInt32.toNat = by4 v s := by
  have h : ((Int32.ofNat s).toUInt32 &&& Int32.toUInt32 31).toNat = s := by
    have h1 : ∀ s ∈ [0, 8, 16, 24], ((Int32.ofNat s).toUInt32 &&& Int32.toUInt32 31).toNat = s := by decide +kernel
    exact h1 s hs
  have h2 : s % 32 = s := by
    have h1 : ∀ s ∈ [0, 8, 16, 24], s % 32 = s := by decide
    exact h1 s hs
  rw [Int32.toUInt32_and, UInt32.toNat_and]
  show ((v.toUInt32 >>> ((Int32.ofNat s).toUInt32 &&& Int32.toUInt32 31)).toNat &&& 255) = _
  rw [UInt32.toNat_shiftRight, h, h2, Nat.shiftRight_eq_div_pow, show (255 : Nat) = 2 ^ 8 - 1 from rfl, Nat.and_two_pow_sub_one_eq_mod]
  rfl
theorem by_c {v : Int32} {s : Nat} (hs : s ∈ [0, 8, 16, 24]) : vp_nar .char (((v.toUInt32 >>> ((Int32.ofNat s).toUInt32 &&& Int32.toUInt32 31)).toInt32 &&& Int32.ofNat 255).toUInt32 % 65536).toInt32 = Int32.ofNat (by4 v s) := by
  have h := by_u (v := v) hs
  generalize ((v.toUInt32 >>> ((Int32.ofNat s).toUInt32 &&& Int32.toUInt32 31)).toInt32 &&& Int32.ofNat 255).toUInt32 = x at h
  have hl := by4_lt (v := v) (s := s)
  have hx : x = UInt32.ofNat (by4 v s) := UInt32.toNat_inj.mp (by rw [h, UInt32.toNat_ofNat_of_lt' (by show _ < 4294967296; omega)])
  rw [hx]
  have h0 : ∀ k ∈ List.range 256, vp_nar .char (UInt32.ofNat k % 65536).toInt32 = Int32.ofNat k := by decide +kernel
  exact h0 _ (List.mem_range.mpr hl)
theorem by_i {v : Int32} : v.toInt = (v.toUInt32.toNat : Int) ∨ v.toInt = (v.toUInt32.toNat : Int) - 4294967296 := by
  have h := BitVec.toInt_eq_toNat_cond v.toBitVec
  have h1 : v.toInt = v.toBitVec.toInt := rfl
  rw [h1, h]
  split
  · exact .inl rfl
  · exact .inr rfl
theorem by_s {v : Int32} {s : Nat} (hs : s ∈ [0, 8, 16, 24]) : (v >>> (Int32.ofNat s &&& 31)).toInt = v.toInt / (2 ^ s : Nat) := by
  have h : ∀ s ∈ [0, 8, 16, 24], ((Int32.ofNat s &&& 31).toBitVec.smod 32).toNat = s := by decide +kernel
  have h1 : (v >>> (Int32.ofNat s &&& 31)).toInt = (v.toBitVec.sshiftRight ((Int32.ofNat s &&& 31).toBitVec.smod 32).toNat).toInt := rfl
  rw [h1, h s hs, BitVec.toInt_sshiftRight, Int.shiftRight_eq_div_pow]
  rfl
theorem by_b {v : Int32} {s : Nat} (hs : s ∈ [0, 8, 16, 24]) : vp_nar .byte (v >>> (Int32.ofNat s &&& 31)).toInt8.toInt32 = sx (by4 v s) := by
  have h0 : vp_nar .byte (v >>> (Int32.ofNat s &&& 31)).toInt8.toInt32 = (v >>> (Int32.ofNat s &&& 31)).toInt8.toInt32.toInt8.toInt32 := rfl
  rw [h0]
  refine Int32.toInt_inj.mp ?_
  rw [sx_t by4_lt, Int8.toInt_toInt32, Int32.toInt_toInt8, Int8.toInt_toInt32, Int32.toInt_toInt8, by_s hs, Int.bmod_def, Int.bmod_def]
  unfold by4
  have hi := by_i (v := v)
  simp only [List.mem_cons, List.not_mem_nil, or_false] at hs
  rcases hs with rfl | rfl | rfl | rfl
  all_goals (simp only [Nat.reducePow]; omega)
