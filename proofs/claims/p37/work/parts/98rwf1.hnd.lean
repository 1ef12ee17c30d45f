section
/-! odds in the law's words -/
section YQA
variable {K : et_K} {G : eg_G} {d d2 th s0 s1 ya yb ec nc la ly out e ca ki kn am aw n m k c q a b : Nat} {O : Nat → Nat} {A : Nat → Nat → Nat} {v : evT} {V : Nat → evT} {X : Nat → Int32} {Y : Nat → Nat} {x y z : Int32} {ra rc fo r : Nat} {D : Nat → Prop} {φ : Nat → sp_E → Bool} {R0 : Nat → Nat} {g : Nat → sp_E → Bool}
theorem fz_od (hH : et_H et_TT K G) (k_th0 : K th = some 12) (h00 : et_pl (eg_at G th) 0 = some (.ref s0)) (k_s00 : K s0 = some 10) (k_s1 : K s1 = some 10) (h5 : et_pl (eg_at G s0) 5 = some (.int (Int32.ofNat ec))) (hec : ec ≤ 3) (t : ezK K ya yb O A) (hz : ez G th s0 s1 ya yb O A V) (ho : ∀ n, n < 6 → evo (V n)) (k_out : K out = some 31) (tR : rxK K D φ th s0 ra fo) (hx9 : rx D φ th s0 ra rc fo G) (hR : ∀ k, k < rc → D (R0 k) ∧ et_pl (eg_at G ra) k = some (.ref (R0 k))) (hd : 35 ≤ d2) : et_go none d2 19 0 (eg_en (eg_mL 19) [.ref th, .int x, .int y, .int z, .ref out]) [] G 0 0 (fun u => (¬ (xr x ec ∧ xr y rc) ∧ u.1 = .inl (some (.int (Int32.ofNat 1)))) ∨ ((xr x ec ∧ xr y rc) ∧ ¬ (-1 ≤ z.toInt ∧ z.toInt ≤ 16) ∧ u.1 = .inl (some (.int (Int32.ofNat 2)))) ∨ ∃ n r, (x = Int32.ofNat n ∧ y = Int32.ofNat r) ∧ (n < ec ∧ r < rc) ∧ (-1 ≤ z.toInt ∧ z.toInt ≤ 16) ∧ u.1 = .inl (some (.int (Int32.ofNat 0))) ∧ et_pl (eg_at u.2.1 out) 0 = some (.long (Int32.ofNat (odN (φ (R0 r)) (V n) z 65536)).toInt64)) := by
  obtain ⟨hrk, ⟨h0, h4⟩, ⟨r0, r1, hrc⟩, hq⟩ := hx9
  obtain ⟨tD, k_th, k_s0, k_ra, k_fo⟩ := tR
  have hRn : ∀ n, n < rc → ∃ q, et_pl (eg_at G ra) n = some (.ref q) := fun n hn => (hq n hn).elim (fun q hq2 => ⟨q, hq2.2⟩)
  by_cases hx : xr x ec
  · obtain ⟨n, rfl, hn⟩ := xr_nat hx (by omega)
    have hE := (hz.2.1 n (by omega)).1
    by_cases hy : xr y rc
    · obtain ⟨r, rfl, hr⟩ := xr_nat hy (by omega)
      obtain ⟨hDn, hRr⟩ := hR r hr
      obtain ⟨bb, lo, hi, q0, hdn, hTb⟩ := hrk _ hDn
      obtain ⟨k_q, hcl⟩ := tD _ hDn
      by_cases hl : (-1 ≤ z.toInt ∧ z.toInt ≤ 16)
      · exact (fh_od hH k_th h0 k_s0 h5 hec hz.1.1 t.1.1 hn hE (t.ev (ho n (by omega)) (by omega)) (hz.2.2.1 n (by omega)) r0 hrc r1 k_ra hr hRr k_q q0 (cond_ty hH k_q q0) hdn hTb hcl h4 k_fo k_out hl hd).mono (fun u hu => .inr (.inr ⟨n, r, ⟨rfl, rfl⟩, ⟨hn, hr⟩, hl, hu.1, hu.2⟩))
      · exact (fh_odZ hH k_th h0 k_s0 h5 hec hz.1.1 t.1.1 hn hE r0 hrc r1 k_ra hr hRr hl (by omega)).mono (fun u hu => .inr (.inl ⟨⟨hx, hy⟩, hl, hu.1⟩))
    · exact (fh_odR hH k_th h0 k_s0 h5 hec hz.1.1 t.1.1 hn hE r0 hrc r1 k_ra hRn hy (by omega)).mono (fun u hu => .inl ⟨fun h => hy h.2, hu.1⟩)
  · exact (fh_odE hH k_th h0 k_s0 h5 hec hz.1.1 t.1.1 hx (by omega)).mono (fun u hu => .inl ⟨fun h => hx h.1, hu.1⟩)
theorem gz_od (hH : et_H et_TT K G) (k_am : K am = some 13) (k_aw : K aw = some 46) (m1 : et_pl (eg_at G am) 1 = some (.ref aw)) (w0 : et_pl (eg_at G aw) 0 = some (.int (Int32.ofNat rc))) (hrc : rc ≤ 4) (w4 : et_pl (eg_at G aw) 4 = some (.int (Int32.ofNat ec))) (hec : ec ≤ 3) (hm : zyM G aw ec V) (ho : ∀ n, n < 3 → evo (V n)) (hT : ∀ r, r < rc → txP G aw (126 + 841 * r) 0 (g r) ∧ fcl (g r)) (hky : kyA G am aw rc) (hd : 8 ≤ d2) : et_go none d2 270 0 (eg_en (eg_mL 270) [.ref am, .int x, .int y, .int z]) [] G 0 0 (fun u => (¬ (xr x ec ∧ xr y rc) ∧ u.1 = .inl (some (.int (Int32.ofNat 0))) ∧ et_pl (eg_at u.2.1 am) 0 = some (.int (Int32.ofNat 1)) ∧ kyA u.2.1 am aw rc) ∨ ((xr x ec ∧ xr y rc) ∧ ¬ (-1 ≤ z.toInt ∧ z.toInt ≤ 16) ∧ u.1 = .inl (some (.int (Int32.ofNat 0))) ∧ et_pl (eg_at u.2.1 am) 0 = some (.int (Int32.ofNat 2)) ∧ kyA u.2.1 am aw rc) ∨ ∃ n r, (x = Int32.ofNat n ∧ y = Int32.ofNat r) ∧ (n < ec ∧ r < rc) ∧ (-1 ≤ z.toInt ∧ z.toInt ≤ 16) ∧ u.1 = .inl (some (.int (Int32.ofNat (odN (g r) (V n) z 65536)))) ∧ et_pl (eg_at u.2.1 am) 0 = some (.int (Int32.ofNat 0)) ∧ kyA u.2.1 am aw rc) := by
  by_cases hx : xr x ec
  · obtain ⟨n, rfl, hn⟩ := xr_nat hx (by omega)
    by_cases hy : xr y rc
    · obtain ⟨r, rfl, hr⟩ := xr_nat hy (by omega)
      by_cases hl : (-1 ≤ z.toInt ∧ z.toInt ≤ 16)
      · exact (fn_od hH k_am k_aw m1 w0 hrc w4 hec hm ho hT hky hn hr hl (by omega)).mono (fun u hu => .inr (.inr ⟨n, r, ⟨rfl, rfl⟩, ⟨hn, hr⟩, hl, hu.1, hu.2.1, hu.2.2.1⟩))
      · exact (fn_odZ hH k_am k_aw m1 w0 hrc w4 hec hm ho hT hky hn hr hl (by omega)).mono (fun u hu => .inr (.inl ⟨⟨hx, hy⟩, hl, hu.1, hu.2.1, hu.2.2.1⟩))
    · exact (fn_odR hH k_am k_aw m1 w0 hrc w4 hec hm ho hT hky hn hy (by omega)).mono (fun u hu => .inl ⟨fun h => hy h.2, hu.1, hu.2.1, hu.2.2.1⟩)
  · exact (fn_odE hH k_am k_aw m1 w0 hrc w4 hec hm ho hT hky hx (by omega)).mono (fun u hu => .inl ⟨fun h => hx h.1, hu.1, hu.2.1, hu.2.2.1⟩)
end YQA
end
section
/-! blind: codes as numbers -/
theorem i9_n {x : Int32} {n : Nat} (h : x.toUInt32.toNat = n) : x = Int32.ofNat n := by
  have hn : n < 4294967296 := by
    rw [← h]
    exact x.toUInt32.toNat_lt
  have hu : x.toUInt32 = UInt32.ofNat n := UInt32.toNat_inj.mp (by rw [h, UInt32.toNat_ofNat_of_lt' (by show _ < 4294967296; omega)])
  exact congrArg UInt32.toInt32 hu
theorem u9_n {a : Nat} (ha : a < 4294967296) : (Int32.ofNat a).toUInt32.toNat = a := UInt32.toNat_ofNat_of_lt' ha
def sr9 (x : Int32) (k : Nat) : Int32 := (x.toUInt32 >>> ((Int32.ofNat k).toUInt32 &&& Int32.toUInt32 31)).toInt32
theorem sr9_k : ∀ k ∈ List.range 32, ((Int32.ofNat k).toUInt32 &&& Int32.toUInt32 31).toNat % 32 = k := by decide +kernel
theorem sr9_u {x : Int32} {k : Nat} (hk : k < 32) : (sr9 x k).toUInt32.toNat = x.toUInt32.toNat / 2 ^ k := by
  show (x.toUInt32 >>> ((Int32.ofNat k).toUInt32 &&& Int32.toUInt32 31)).toNat = _
  rw [UInt32.toNat_shiftRight, sr9_k k (List.mem_range.mpr hk), Nat.shiftRight_eq_div_pow]
theorem sr9_n {a k : Nat} (ha : a < 4294967296) (hk : k < 32) : sr9 (Int32.ofNat a) k = Int32.ofNat (a / 2 ^ k) := i9_n (by rw [sr9_u hk, u9_n ha])
theorem an9_n {x : Int32} {a b : Nat} (hx : x.toUInt32.toNat = a) (hb : b < 4294967296) : x &&& Int32.ofNat b = Int32.ofNat (a &&& b) := i9_n (by rw [Int32.toUInt32_and, UInt32.toNat_and, hx, u9_n hb])
theorem an9_lo {a M n : Nat} (h : a < 2 ^ n) : a &&& M ≤ M % 2 ^ n := by
  have h1 : a &&& M < 2 ^ n := Nat.lt_of_le_of_lt Nat.and_le_left h
  have h2 : (a &&& M) % 2 ^ n = a &&& M := Nat.mod_eq_of_lt h1
  rw [Nat.and_mod_two_pow] at h2
  rw [← h2]
  exact Nat.and_le_right
def rb1 (x : Int32) : Int32 := x - (sr9 x 1 &&& Int32.ofNat 1431655765)
def rb2 (x : Int32) : Int32 := (x &&& Int32.ofNat 858993459) + (sr9 x 2 &&& Int32.ofNat 858993459)
def rb3 (x : Int32) : Int32 := (x + sr9 x 4) &&& Int32.ofNat 252645135
def rb4 (x : Int32) : Int32 := x + sr9 x 8
def rb5 (x : Int32) : Int32 := (x + sr9 x 16) &&& Int32.ofNat 63
theorem rb_bc {x : Int32} : rp_bc x = rb5 (rb4 (rb3 (rb2 (rb1 x)))) := rfl
theorem rb1_n {m : Nat} (hm : m < 65536) : ∃ q, q < 65536 ∧ rb1 (Int32.ofNat m) = Int32.ofNat q := by
  refine ⟨m - (m / 2 &&& 1431655765), by omega, ?_⟩
  unfold rb1
  rw [show sr9 (Int32.ofNat m) 1 = Int32.ofNat (m / 2) from sr9_n (by omega) (by decide), an9_n (u9_n (show m / 2 < 4294967296 by omega)) (by decide)]
  exact hs_nsub (Nat.le_trans Nat.and_le_left (by omega))
theorem rb2_n {m : Nat} (hm : m < 65536) : ∃ q, q ≤ 26214 ∧ rb2 (Int32.ofNat m) = Int32.ofNat q := by
  have b1 : m &&& 858993459 ≤ 13107 := an9_lo (n := 16) hm
  have b2 : m / 4 &&& 858993459 ≤ 13107 := an9_lo (n := 16) (show m / 4 < 65536 by omega)
  refine ⟨(m &&& 858993459) + (m / 4 &&& 858993459), by omega, ?_⟩
  unfold rb2
  rw [show sr9 (Int32.ofNat m) 2 = Int32.ofNat (m / 4) from sr9_n (by omega) (by decide), an9_n (u9_n (show m < 4294967296 by omega)) (by decide), an9_n (u9_n (show m / 4 < 4294967296 by omega)) (by decide)]
  exact (Int32.ofNat_add _ _).symm
theorem rb3_n {m : Nat} (hm : m ≤ 26214) : ∃ q, q % 256 ≤ 15 ∧ q / 256 ≤ 15 ∧ rb3 (Int32.ofNat m) = Int32.ofNat q := by
  have ht : m + m / 16 < 65536 := by omega
  have b1 : (m + m / 16) &&& 252645135 ≤ 3855 := an9_lo (n := 16) ht
  have b2 : ((m + m / 16) &&& 252645135) % 256 ≤ 15 := by
    have h : ((m + m / 16) &&& 252645135) % 2 ^ 8 = ((m + m / 16) % 2 ^ 8) &&& (252645135 % 2 ^ 8) := Nat.and_mod_two_pow
    have h2 : ((m + m / 16) % 2 ^ 8) &&& (252645135 % 2 ^ 8) ≤ 252645135 % 2 ^ 8 := Nat.and_le_right
    have h3 : 252645135 % 2 ^ 8 = 15 := by decide
    rw [← h, h3] at h2
    exact h2
  refine ⟨(m + m / 16) &&& 252645135, b2, by omega, ?_⟩
  unfold rb3
  rw [show sr9 (Int32.ofNat m) 4 = Int32.ofNat (m / 16) from sr9_n (by omega) (by decide), ← Int32.ofNat_add, an9_n (u9_n (show m + m / 16 < 4294967296 by omega)) (by decide)]
theorem bc_31 {m : Nat} (hm : m < 65536) : ∃ q, q < 32 ∧ rp_bc (Int32.ofNat m) = Int32.ofNat q := by
  obtain ⟨m1, h1, e1⟩ := rb1_n hm
  obtain ⟨m2, h2, e2⟩ := rb2_n h1
  obtain ⟨m3, h3, h4, e3⟩ := rb3_n h2
  rw [rb_bc, e1, e2, e3]
  unfold rb5 rb4
  rw [show sr9 (Int32.ofNat m3) 8 = Int32.ofNat (m3 / 256) from sr9_n (by omega) (by decide), ← Int32.ofNat_add, show sr9 (Int32.ofNat (m3 + m3 / 256)) 16 = Int32.ofNat ((m3 + m3 / 256) / 65536) from sr9_n (by omega) (by decide), ← Int32.ofNat_add, an9_n (u9_n (show m3 + m3 / 256 + (m3 + m3 / 256) / 65536 < 4294967296 by omega)) (by decide)]
  have h : m3 + m3 / 256 + (m3 + m3 / 256) / 65536 &&& 63 = (m3 + m3 / 256 + (m3 + m3 / 256) / 65536) % 64 := Nat.and_two_pow_sub_one_eq_mod _ 6
  have e9 : m3 + m3 / 256 + (m3 + m3 / 256) / 65536 = 64 * (4 * (m3 / 256)) + (m3 % 256 + m3 / 256) := by omega
  rw [h, e9, Nat.mul_add_mod, Nat.mod_eq_of_lt (show m3 % 256 + m3 / 256 < 64 by omega)]
  exact ⟨_, show m3 % 256 + m3 / 256 < 32 by omega, rfl⟩
theorem va_31 {c : Int32} {kd m : Nat} (hm : m < 65536) : (vaI c kd (Int32.ofNat m)).toUInt32.toNat < 32 := by
  have e : Int32.ofNat m &&& c = Int32.ofNat (m &&& c.toUInt32.toNat) := i9_n (by rw [Int32.toUInt32_and, UInt32.toNat_and, u9_n (by omega)])
  have hl : m &&& c.toUInt32.toNat ≤ m := Nat.and_le_left
  obtain ⟨q, hq, e2⟩ := bc_31 (m := m &&& c.toUInt32.toNat) (by omega)
  unfold vaI
  rw [e, e2]
  split
  · rw [u9_n (by omega)]
    exact hq
  · split
    · split
      · decide
      · decide
    · rw [an9_n (u9_n (show q < 4294967296 by omega)) (by decide), u9_n (Nat.lt_of_le_of_lt Nat.and_le_left (show q < 4294967296 by omega))]
      exact Nat.lt_of_le_of_lt Nat.and_le_left hq
theorem va_un {c : Int32} {kd : Nat} {x : Int32} : vaI c kd x = Int32.ofNat (vaI c kd x).toUInt32.toNat := i9_n rfl
/-- the VALUES of all WIRES together -/
def cdI (C : Nat → Int32) (Kd : Nat → Nat) (x : Int32) : Nat → Int32
  | 0 => Int32.ofNat 0
  | m + 1 => (cdI C Kd x m <<< (Int32.ofNat 5 &&& 31)) ||| vaI (C m) (Kd m) x
def cdN (C : Nat → Int32) (Kd : Nat → Nat) (x : Nat) : Nat → Nat
  | 0 => 0
  | m + 1 => cdN C Kd x m * 32 + (vaI (C m) (Kd m) (Int32.ofNat x)).toUInt32.toNat
theorem sl9_5 {q : Nat} (hq : q < 67108864) : (Int32.ofNat q <<< (Int32.ofNat 5 &&& 31)).toUInt32.toNat = q * 32 := by
  have hb : (Int32.ofNat q).toBitVec.toNat = q := u9_n (by omega)
  show ((Int32.ofNat q).toBitVec <<< ((Int32.ofNat 5 &&& 31).toBitVec.smod 32).toNat).toNat = _
  rw [show ((Int32.ofNat 5 &&& 31).toBitVec.smod 32).toNat = 5 from by decide +kernel, BitVec.toNat_shiftLeft, hb, Nat.shiftLeft_eq]
  omega
theorem cd_or {q r : Nat} (hq : q < 67108864) (hr : r < 32) : (Int32.ofNat q <<< (Int32.ofNat 5 &&& 31)) ||| Int32.ofNat r = Int32.ofNat (q * 32 + r) := i9_n (by
  have h : q <<< 5 + r = q <<< 5 ||| r := Nat.shiftLeft_add_eq_or_of_lt (show r < 2 ^ 5 from hr) q
  rw [Nat.shiftLeft_eq] at h
  rw [Int32.toUInt32_or, UInt32.toNat_or, sl9_5 hq, u9_n (by omega)]
  exact h.symm)
theorem cd_n {C : Nat → Int32} {Kd : Nat → Nat} {x : Nat} (hx : x < 65536) : ∀ W, W ≤ 6 → cdI C Kd (Int32.ofNat x) W = Int32.ofNat (cdN C Kd x W) ∧ cdN C Kd x W < 32 ^ W
  | 0, _ => ⟨rfl, Nat.zero_lt_one⟩
  | m + 1, h => by
    obtain ⟨e, hl⟩ := cd_n (C := C) (Kd := Kd) hx m (by omega)
    have hv := va_31 (c := C m) (kd := Kd m) hx
    have h5 : 32 ^ m ≤ 32 ^ 5 := Nat.pow_le_pow_right (by decide) (by omega)
    have h6 : (32 : Nat) ^ 5 = 33554432 := by decide
    refine ⟨?_, ?_⟩
    · show (cdI C Kd (Int32.ofNat x) m <<< (Int32.ofNat 5 &&& 31)) ||| vaI (C m) (Kd m) (Int32.ofNat x) = Int32.ofNat (cdN C Kd x m * 32 + (vaI (C m) (Kd m) (Int32.ofNat x)).toUInt32.toNat)
      rw [e]
      exact (congrArg (fun t => (Int32.ofNat (cdN C Kd x m) <<< (Int32.ofNat 5 &&& 31)) ||| t) va_un).trans (cd_or (by omega) hv)
    · show cdN C Kd x m * 32 + (vaI (C m) (Kd m) (Int32.ofNat x)).toUInt32.toNat < 32 ^ (m + 1)
      rw [Nat.pow_succ]
      omega
theorem cd_30 {C : Nat → Int32} {Kd : Nat → Nat} {x W : Nat} (hx : x < 65536) (hW : W ≤ 6) : cdN C Kd x W < 1073741824 := by
  have h := (cd_n (C := C) (Kd := Kd) hx W hW).2
  have h2 : 32 ^ W ≤ 32 ^ 6 := Nat.pow_le_pow_right (by decide) hW
  have h3 : (32 : Nat) ^ 6 = 1073741824 := by decide
  omega
theorem cd_eq {C : Nat → Int32} {Kd : Nat → Nat} {x y W : Nat} (hx : x < 65536) (hy : y < 65536) (hW : W ≤ 6) : cdI C Kd (Int32.ofNat x) W = cdI C Kd (Int32.ofNat y) W ↔ cdN C Kd x W = cdN C Kd y W := by
  rw [(cd_n hx W hW).1, (cd_n hy W hW).1]
  have h1 := cd_30 (C := C) (Kd := Kd) hx hW
  have h2 := cd_30 (C := C) (Kd := Kd) hy hW
  exact hs_neq (by omega) (by omega)
/-- half of a code -/
def hfN (s c : Nat) : Nat := c / 2 ^ s % 32768
theorem hf9_n {q s : Nat} (hq : q < 1073741824) (hs : s = 0 ∨ s = 15) : (Int32.ofNat q >>> (Int32.ofNat s &&& 31)) &&& Int32.ofNat 32767 = Int32.ofNat (hfN s q) := by
  have e : (Int32.ofNat q >>> (Int32.ofNat s &&& 31)) = Int32.ofNat (q / 2 ^ s) := by
    refine Int32.toInt_inj.mp ?_
    have hk : ((Int32.ofNat s &&& 31).toBitVec.smod 32).toNat = s := by
      rcases hs with rfl | rfl <;> decide +kernel
    have e1 : (Int32.ofNat q >>> (Int32.ofNat s &&& 31)).toInt = (Int32.ofNat q).toInt >>> s := by
      show ((Int32.ofNat q).toBitVec.sshiftRight ((Int32.ofNat s &&& 31).toBitVec.smod 32).toNat).toInt = _
      rw [BitVec.toInt_sshiftRight, hk]
      rfl
    have hd : q / 2 ^ s ≤ q := Nat.div_le_self _ _
    rw [e1, hs_nint (by omega), hs_nint (by omega), Int.shiftRight_eq_div_pow]
    rcases hs with rfl | rfl
    · show (q : Int) / 1 = ((q / 1 : Nat) : Int)
      omega
    · show (q : Int) / 32768 = ((q / 32768 : Nat) : Int)
      omega
  have hd : q / 2 ^ s ≤ q := Nat.div_le_self _ _
  rw [e, an9_n (u9_n (show q / 2 ^ s < 4294967296 by omega)) (by decide)]
  have h : q / 2 ^ s &&& 32767 = q / 2 ^ s % 32768 := Nat.and_two_pow_sub_one_eq_mod _ 15
  rw [h]
  rfl
theorem hfN_lt {s c : Nat} : hfN s c < 32768 := Nat.mod_lt _ (by decide)
/-- a code by its halves -/
theorem hf_le {a b : Nat} (ha : a < 1073741824) (hb : b < 1073741824) (h : hfN 15 a < hfN 15 b ∨ (hfN 15 a = hfN 15 b ∧ hfN 0 a ≤ hfN 0 b)) : a ≤ b := by
  unfold hfN at h
  rw [show (2 : Nat) ^ 15 = 32768 from by decide, show (2 : Nat) ^ 0 = 1 from rfl] at h
  omega
theorem hf_eq {a b : Nat} (ha : a < 1073741824) (hb : b < 1073741824) (h1 : hfN 15 a = hfN 15 b) (h0 : hfN 0 a = hfN 0 b) : a = b := by
  unfold hfN at h1 h0
  rw [show (2 : Nat) ^ 15 = 32768 from by decide] at h1
  rw [show (2 : Nat) ^ 0 = 1 from rfl] at h0
  omega
/-! blind: pigeons -/
theorem pg_s : ∀ (n : Nat) (f : Nat → Nat), (∀ i, i < n → f i < n) → (∀ i j, i < n → j < n → f i = f j → i = j) → ∀ p, p < n → ∃ i, i < n ∧ f i = p
  | 0, _, _, _, p, hp => absurd hp (Nat.not_lt_zero p)
  | n + 1, f, hf, hi, p, hp => by
    have hn := hf n (by omega)
    have hg : ∀ i, i < n → (fun i => if f i = n then f n else f i) i < n := fun i h => by
      have h1 := hf i (by omega)
      show (if f i = n then f n else f i) < n
      by_cases e : f i = n
      · rw [if_pos e]
        have h3 : ¬ f n = n := fun e2 => by
          have := hi i n (by omega) (by omega) (e.trans e2.symm)
          omega
        omega
      · rw [if_neg e]
        omega
    have hj : ∀ i j, i < n → j < n → (fun i => if f i = n then f n else f i) i = (fun i => if f i = n then f n else f i) j → i = j := fun i j h1 h2 e => by
      have e : (if f i = n then f n else f i) = (if f j = n then f n else f j) := e
      by_cases e1 : f i = n
      · by_cases e2 : f j = n
        · exact hi i j (by omega) (by omega) (e1.trans e2.symm)
        · rw [if_pos e1, if_neg e2] at e
          have := hi n j (by omega) (by omega) e
          omega
      · by_cases e2 : f j = n
        · rw [if_neg e1, if_pos e2] at e
          have := hi i n (by omega) (by omega) e
          omega
        · rw [if_neg e1, if_neg e2] at e
          exact hi i j (by omega) (by omega) e
    have ih := pg_s n (fun i => if f i = n then f n else f i) hg hj
    by_cases ep : p = f n
    · exact ⟨n, by omega, ep.symm⟩
    · by_cases en : p = n
      · obtain ⟨i, h1, h2⟩ := ih (f n) (by omega)
        have h2 : (if f i = n then f n else f i) = f n := h2
        by_cases e1 : f i = n
        · exact ⟨i, by omega, e1.trans en.symm⟩
        · rw [if_neg e1] at h2
          have := hi i n (by omega) (by omega) h2
          omega
      · obtain ⟨i, h1, h2⟩ := ih p (by omega)
        have h2 : (if f i = n then f n else f i) = p := h2
        by_cases e1 : f i = n
        · rw [if_pos e1] at h2
          exact absurd h2.symm ep
        · rw [if_neg e1] at h2
          exact ⟨i, by omega, h2⟩
theorem pg_n {n : Nat} {f : Nat → Nat} (hf : ∀ i, i < n + 1 → f i < n) (hi : ∀ i j, i < n + 1 → j < n + 1 → f i = f j → i = j) : False := by
  obtain ⟨i, h1, h2⟩ := pg_s (n + 1) f (fun i h => by have := hf i h; omega) hi n (Nat.lt_succ_self n)
  have := hf i h1
  omega
/-! blind: sorting by counting -/
def ctK (κ : Nat → Nat) (h : Nat) : Nat → Nat
  | 0 => 0
  | n + 1 => ctK κ h n + (if κ n = h then 1 else 0)
def ctB (κ : Nat → Nat) (N : Nat) : Nat → Nat
  | 0 => 0
  | h + 1 => ctB κ N h + ctK κ h N
def psN (κ : Nat → Nat) (N k : Nat) : Nat := ctB κ N (κ k) + ctK κ (κ k) k
section ANA
variable {κ : Nat → Nat} {N h k l : Nat}
theorem ctK_mo : ∀ d n, ctK κ h n ≤ ctK κ h (n + d)
  | 0, _ => Nat.le_refl _
  | d + 1, n => Nat.le_trans (ctK_mo d n) (Nat.le_add_right _ _)
theorem ctK_le {n m : Nat} (hm : n ≤ m) : ctK κ h n ≤ ctK κ h m := by
  have e := ctK_mo (κ := κ) (h := h) (m - n) n
  rw [show n + (m - n) = m by omega] at e
  exact e
theorem ctK_lt (hk : κ k = h) (hl : k < l) : ctK κ h k < ctK κ h l := by
  have e : ctK κ h (k + 1) = ctK κ h k + 1 := by
    show ctK κ h k + (if κ k = h then 1 else 0) = _
    rw [if_pos hk]
  have e2 := ctK_le (κ := κ) (h := h) (show k + 1 ≤ l from hl)
  omega
theorem ctK_b : ∀ n, ctK κ h n ≤ n
  | 0 => Nat.le_refl 0
  | n + 1 => by
    have ih := ctK_b n
    show ctK κ h n + (if κ n = h then 1 else 0) ≤ n + 1
    split <;> omega
theorem ctB_mo : ∀ d a, ctB κ N a ≤ ctB κ N (a + d)
  | 0, _ => Nat.le_refl _
  | d + 1, a => Nat.le_trans (ctB_mo d a) (Nat.le_add_right _ _)
theorem ctB_le {a b : Nat} (hb : a ≤ b) : ctB κ N a ≤ ctB κ N b := by
  have e := ctB_mo (κ := κ) (N := N) (b - a) a
  rw [show a + (b - a) = b by omega] at e
  exact e
theorem ctB_lt {a b : Nat} (hb : a < b) : ctB κ N a + ctK κ a N ≤ ctB κ N b := ctB_le (κ := κ) (N := N) (show a + 1 ≤ b from hb)
theorem ctB_s : ∀ h, ctB κ (N + 1) h = ctB κ N h + (if κ N < h then 1 else 0)
  | 0 => by
    show 0 = 0 + (if κ N < 0 then 1 else 0)
    rw [if_neg (Nat.not_lt_zero _)]
  | h + 1 => by
    have ih := ctB_s h
    show ctB κ (N + 1) h + (ctK κ h N + (if κ N = h then 1 else 0)) = ctB κ N h + ctK κ h N + (if κ N < h + 1 then 1 else 0)
    rw [ih]
    by_cases h1 : κ N < h
    · rw [if_pos h1, if_neg (show ¬ κ N = h by omega), if_pos (show κ N < h + 1 by omega)]
      omega
    · by_cases h2 : κ N = h
      · rw [if_neg h1, if_pos h2, if_pos (show κ N < h + 1 by omega)]
        omega
      · rw [if_neg h1, if_neg h2, if_neg (show ¬ κ N < h + 1 by omega)]
        omega
theorem ctB_n : ∀ N, (∀ k, k < N → κ k < h) → ctB κ N h = N
  | 0, _ => by
    have z : ∀ h, ctB κ 0 h = 0 := fun h => by
      induction h with
      | zero => rfl
      | succ h ih =>
        show ctB κ 0 h + 0 = 0
        rw [ih]
    exact z h
  | N + 1, hk => by
    rw [ctB_s, ctB_n N (fun k h => hk k (by omega)), if_pos (hk N (Nat.lt_succ_self N))]
theorem ps_lt (hk : k < N) (hκ : ∀ k, k < N → κ k < h) : psN κ N k < N := by
  have h1 := ctK_lt (κ := κ) (h := κ k) rfl hk
  have h2 := ctB_lt (κ := κ) (N := N) (hκ k hk)
  have h3 := ctB_n (κ := κ) N hκ
  unfold psN
  omega
theorem ps_or (hk : k < N) (hl : l < N) (hx : κ k < κ l ∨ (κ k = κ l ∧ k < l)) : psN κ N k < psN κ N l := by
  unfold psN
  rcases hx with hx | ⟨e, hx⟩
  · have h1 := ctK_lt (κ := κ) (h := κ k) rfl hk
    have h2 := ctB_lt (κ := κ) (N := N) hx
    omega
  · rw [← e]
    have h1 := ctK_lt (κ := κ) (h := κ k) rfl hx
    omega
theorem ps_ro (hk : k < N) (hl : l < N) (h : psN κ N k < psN κ N l) : κ k < κ l ∨ (κ k = κ l ∧ k < l) := by
  by_cases h1 : κ k < κ l
  · exact .inl h1
  · by_cases h2 : κ l < κ k
    · have := ps_or hl hk (.inl h2)
      omega
    · have e : κ k = κ l := by omega
      by_cases h3 : k < l
      · exact .inr ⟨e, h3⟩
      · by_cases h4 : k = l
        · rw [h4] at h
          exact absurd h (Nat.lt_irrefl _)
        · have := ps_or hl hk (.inr ⟨e.symm, by omega⟩)
          omega
theorem ps_in (hk : k < N) (hl : l < N) (h : psN κ N k = psN κ N l) : k = l := by
  by_cases h1 : κ k < κ l ∨ (κ k = κ l ∧ k < l)
  · have := ps_or hk hl h1
    omega
  · by_cases h2 : κ l < κ k ∨ (κ l = κ k ∧ l < k)
    · have := ps_or hl hk h2
      omega
    · omega
end ANA
/-- an order of all cards -/
def soP (R : Nat → Nat → Prop) (T : Nat → Nat) : Prop := (∀ p, p < 65536 → T p < 65536) ∧ (∀ x, x < 65536 → ∃ p, p < 65536 ∧ T p = x) ∧ ∀ p q, p < q → q < 65536 → R (T p) (T q)
def lxR (ky : Nat → Nat) (R : Nat → Nat → Prop) (x y : Nat) : Prop := ky x < ky y ∨ (ky x = ky y ∧ R x y)
theorem so_id : soP (fun x y => x < y) (fun k => k) := ⟨fun _ h => h, fun x hx => ⟨x, hx, rfl⟩, fun _ _ h _ => h⟩
theorem so_st {ky Fr To : Nat → Nat} {R : Nat → Nat → Prop} (hky : ∀ x, ky x < 32768) (hF : soP R Fr) (hT : ∀ k, k < 65536 → To (psN (fun k => ky (Fr k)) 65536 k) = Fr k) : soP (lxR ky R) To := by
  have hκ : ∀ k, k < 65536 → (fun k => ky (Fr k)) k < 32768 := fun k _ => hky _
  have hin := pg_s 65536 (psN (fun k => ky (Fr k)) 65536) (fun k hk => ps_lt hk hκ) (fun k l hk hl e => ps_in hk hl e)
  refine ⟨fun p hp => ?_, fun x hx => ?_, fun p q h hq => ?_⟩
  · obtain ⟨k, hk, rfl⟩ := hin p hp
    rw [hT k hk]
    exact hF.1 k hk
  · obtain ⟨k, hk, rfl⟩ := hF.2.1 x hx
    exact ⟨_, ps_lt hk hκ, hT k hk⟩
  · obtain ⟨k, hk, rfl⟩ := hin p (by omega)
    obtain ⟨l, hl, rfl⟩ := hin q hq
    rw [hT k hk, hT l hl]
    rcases ps_ro hk hl h with h1 | ⟨h1, h2⟩
    · exact .inl h1
    · exact .inr ⟨h1, hF.2.2 k l h2 hl⟩
/-! blind: what both sides tell -/
/-- the first card that is alike -/
def fsN (cd : Nat → Nat) (x : Nat) : Nat → Nat
  | 0 => x
  | m + 1 => if fsN cd x m < m then fsN cd x m else if cd m = cd x then m else x
def isF (cd : Nat → Nat) (a x : Nat) : Prop := cd a = cd x ∧ a ≤ x ∧ ∀ y, cd y = cd x → a ≤ y
def misP (cd : Nat → Nat) (ru : Nat → Bool) (x a : Nat) : Prop := isF cd a x ∧ ¬ ru a = ru x
section ANB
variable {cd : Nat → Nat} {ru : Nat → Bool} {x a b : Nat}
theorem isF.u (h : isF cd a x) (k : isF cd b x) : a = b := by
  have h1 := h.2.2 b k.1
  have h2 := k.2.2 a h.1
  omega
theorem fsN_i : ∀ m, m ≤ x → (fsN cd x m < m ∧ cd (fsN cd x m) = cd x ∧ ∀ y, y < m → cd y = cd x → fsN cd x m ≤ y) ∨ (fsN cd x m = x ∧ ∀ y, y < m → ¬ cd y = cd x)
  | 0, _ => .inr ⟨rfl, fun y h => absurd h (Nat.not_lt_zero y)⟩
  | m + 1, hm => by
    have ih := fsN_i m (by omega)
    have e : fsN cd x (m + 1) = if fsN cd x m < m then fsN cd x m else if cd m = cd x then m else x := rfl
    rw [e]
    rcases ih with ⟨h1, h2, h3⟩ | ⟨h1, h2⟩
    · rw [if_pos h1]
      refine .inl ⟨by omega, h2, fun y hy hc => ?_⟩
      by_cases ey : y = m
      · omega
      · exact h3 y (by omega) hc
    · rw [h1, if_neg (show ¬ x < m by omega)]
      by_cases hc : cd m = cd x
      · rw [if_pos hc]
        refine .inl ⟨by omega, hc, fun y hy hc2 => ?_⟩
        by_cases ey : y = m
        · omega
        · exact absurd hc2 (h2 y (by omega))
      · rw [if_neg hc]
        refine .inr ⟨rfl, fun y hy hc2 => ?_⟩
        by_cases ey : y = m
        · rw [ey] at hc2
          exact hc hc2
        · exact h2 y (by omega) hc2
theorem fsN_f : isF cd (fsN cd x x) x := by
  rcases fsN_i (cd := cd) (x := x) x (Nat.le_refl x) with ⟨h1, h2, h3⟩ | ⟨h1, h2⟩
  · refine ⟨h2, by omega, fun y hc => ?_⟩
    by_cases hy : y < x
    · exact h3 y hy hc
    · omega
  · rw [h1]
    refine ⟨rfl, Nat.le_refl x, fun y hc => ?_⟩
    by_cases hy : y < x
    · exact absurd hc (h2 y hy)
    · omega
end ANB
/-- the least that is first of some that are not right alike; 65536 where there is none -/
def blF (cd : Nat → Nat) (ru : Nat → Bool) : Nat → Nat
  | 0 => 65536
  | n + 1 => if fsN cd n n < blF cd ru n ∧ ¬ ru (fsN cd n n) = ru n then fsN cd n n else blF cd ru n
def blI (cd : Nat → Nat) (ru : Nat → Bool) : Int32 := if blF cd ru 65536 = 65536 then (-1) else Int32.ofNat (blF cd ru 65536)
/-- L is that of all cards of which P -/
def blP (cd : Nat → Nat) (ru : Nat → Bool) (P : Nat → Prop) (L : Nat) : Prop := (L = 65536 ∧ ∀ j, P j → ∀ a, ¬ misP cd ru j a) ∨ (L < 65536 ∧ (∃ j, P j ∧ misP cd ru j L) ∧ ∀ j, P j → ∀ a, misP cd ru j a → L ≤ a)
section ANC
variable {cd : Nat → Nat} {ru : Nat → Bool} {P Q : Nat → Prop} {L M x a b n : Nat}
theorem blP.u (h : blP cd ru P L) (k : blP cd ru P M) : L = M := by
  rcases h with ⟨h1, h2⟩ | ⟨h1, ⟨j, hj, hm⟩, h3⟩
  · rcases k with ⟨k1, -⟩ | ⟨-, ⟨j, hj, hm⟩, -⟩
    · omega
    · exact absurd hm (h2 j hj _)
  · rcases k with ⟨-, k2⟩ | ⟨k1, ⟨i, hi, hn⟩, k3⟩
    · exact absurd hm (k2 j hj _)
    · have a1 := h3 i hi _ hn
      have a2 := k3 j hj _ hm
      omega
theorem blP.co (h : blP cd ru P L) (e : ∀ j, P j ↔ Q j) : blP cd ru Q L := by
  have e : P = Q := funext (fun j => propext (e j))
  rw [← e]
  exact h
/-- one card more -/
theorem blP.s (h : blP cd ru P L) (hf : isF cd a x) (ha : a < 65536) : blP cd ru (fun j => P j ∨ j = x) (if a < L ∧ ¬ ru a = ru x then a else L) := by
  by_cases hc : a < L ∧ ¬ ru a = ru x
  · rw [if_pos hc]
    refine .inr ⟨ha, ⟨x, .inr rfl, hf, hc.2⟩, fun j hj b hb => ?_⟩
    rcases hj with hj | rfl
    · rcases h with ⟨-, h2⟩ | ⟨-, -, h3⟩
      · exact absurd hb (h2 j hj b)
      · have := h3 j hj b hb
        omega
    · exact Nat.le_of_eq (hf.u hb.1)
  · rw [if_neg hc]
    rcases h with ⟨h1, h2⟩ | ⟨h1, ⟨i, hi, hm⟩, h3⟩
    · refine .inl ⟨h1, fun j hj b hb => ?_⟩
      rcases hj with hj | rfl
      · exact h2 j hj b hb
      · have e := hf.u hb.1
        exact hc ⟨by omega, by rw [e]; exact hb.2⟩
    · refine .inr ⟨h1, ⟨i, .inl hi, hm⟩, fun j hj b hb => ?_⟩
      rcases hj with hj | rfl
      · exact h3 j hj b hb
      · have e := hf.u hb.1
        have h5 : ¬ ru a = ru j := by rw [e]; exact hb.2
        by_cases h6 : a < L
        · exact absurd ⟨h6, h5⟩ hc
        · omega
theorem blP_0 (h : ∀ j, ¬ P j) : blP cd ru P 65536 := .inl ⟨rfl, fun j hj => absurd hj (h j)⟩
theorem blF_p : ∀ n, n ≤ 65536 → blP cd ru (fun j => j < n) (blF cd ru n)
  | 0, _ => blP_0 (fun j h => Nat.not_lt_zero j h)
  | n + 1, hn => by
    have ih := blF_p n (by omega)
    have hf := fsN_f (cd := cd) (x := n)
    have h2 := ih.s hf (by have := hf.2.1; omega)
    refine blP.co h2 (fun j => ?_)
    show (j < n ∨ j = n) ↔ j < n + 1
    omega
theorem blF_le : ∀ n, blF cd ru n ≤ 65536
  | 0 => Nat.le_refl _
  | n + 1 => by
    have ih := blF_le n
    show (if fsN cd n n < blF cd ru n ∧ ¬ ru (fsN cd n n) = ru n then fsN cd n n else blF cd ru n) ≤ 65536
    split <;> omega
/-- once it is 0 it stays so -/
theorem blF_0 (h : blF cd ru n = 0) : ∀ d, blF cd ru (n + d) = 0
  | 0 => h
  | d + 1 => by
    have ih := blF_0 h d
    show (if fsN cd (n + d) (n + d) < blF cd ru (n + d) ∧ ¬ ru (fsN cd (n + d) (n + d)) = ru (n + d) then fsN cd (n + d) (n + d) else blF cd ru (n + d)) = 0
    rw [ih, if_neg (fun q => Nat.not_lt_zero _ q.1)]
end ANC
end
section
/-! blind: of cards of like VALUES the first, as the class finds it -/
def hhN (c : Nat) : Nat := (Int32.ofNat c * (-1640531535)).toUInt32.toNat / 65536
theorem sr16_e {x : Int32} : sr9 x 16 = Int32.ofNat (x.toUInt32.toNat / 65536) := i9_n (sr9_u (by decide))
theorem hhN_e {c : Nat} : sr9 (Int32.ofNat c * (-1640531535)) 16 = Int32.ofNat (hhN c) := sr16_e
theorem hhN_lt {c : Nat} : hhN c < 65536 := by
  have h := (Int32.ofNat c * (-1640531535)).toUInt32.toNat_lt
  have h : (Int32.ofNat c * (-1640531535)).toUInt32.toNat < 4294967296 := h
  unfold hhN
  omega
theorem sl16_e {p : Nat} (hp : p < 32768) : Int32.ofNat p <<< (Int32.ofNat 16 &&& 31) = Int32.ofNat (p * 65536) := i9_n (by
  have hb : (Int32.ofNat p).toBitVec.toNat = p := u9_n (by omega)
  show ((Int32.ofNat p).toBitVec <<< ((Int32.ofNat 16 &&& 31).toBitVec.smod 32).toNat).toNat = _
  rw [show ((Int32.ofNat 16 &&& 31).toBitVec.smod 32).toNat = 16 from by decide +kernel, BitVec.toNat_shiftLeft, hb, Nat.shiftLeft_eq]
  omega)
theorem or16_e {p n : Nat} (hp : p < 32768) (hn : n < 65536) : Int32.ofNat (p * 65536) ||| Int32.ofNat n = Int32.ofNat (p * 65536 + n) := i9_n (by
  have h : p <<< 16 + n = p <<< 16 ||| n := Nat.shiftLeft_add_eq_or_of_lt (show n < 2 ^ 16 from hn) p
  rw [Nat.shiftLeft_eq] at h
  rw [Int32.toUInt32_or, UInt32.toNat_or, u9_n (by omega), u9_n (by omega)]
  exact h.symm)
theorem an16_e {q : Nat} (hq : q < 4294967296) : Int32.ofNat q &&& Int32.ofNat 65535 = Int32.ofNat (q % 65536) := by
  have h : q &&& 65535 = q % 65536 := Nat.and_two_pow_sub_one_eq_mod q 16
  rw [an9_n (u9_n hq) (by decide), h]
/-- a slot that this pass has written -/
def ocP (p : Nat) (FS : Nat → Int32) (s : Nat) : Prop := (FS s).toUInt32.toNat / 65536 = p
def lkT (cd : Nat → Nat) (p n : Nat) (FS KS : Nat → Int32) : Prop := (∀ s, s < 65536 → (FS s).toUInt32.toNat / 65536 ≤ p) ∧ (∀ s, s < 65536 → ocP p FS s → ∃ j, j < n ∧ FS s = Int32.ofNat (p * 65536 + j) ∧ KS s = Int32.ofNat (cd j) ∧ isF cd j j ∧ ∃ t, t < 65536 ∧ s = (hhN (cd j) + t) % 65536 ∧ ∀ r, r < t → ocP p FS ((hhN (cd j) + r) % 65536)) ∧ (∀ j, j < n → ∃ s, s < 65536 ∧ ocP p FS s ∧ KS s = Int32.ofNat (cd j)) ∧ ∀ s r, s < 65536 → r < 65536 → ocP p FS s → ocP p FS r → FS s = FS r → s = r
section AOA
variable {cd : Nat → Nat} {p n s t : Nat} {FS KS : Nat → Int32}
theorem oc_v {j : Nat} (hp : p < 32768) (hj : j < 65536) : (Int32.ofNat (p * 65536 + j)).toUInt32.toNat / 65536 = p := by
  rw [u9_n (by omega)]
  omega
theorem pj_i {j i : Nat} (hp : p < 32768) (hj : j < 65536) (hi : i < 65536) (h : Int32.ofNat (p * 65536 + j) = Int32.ofNat (p * 65536 + i)) : j = i := by
  have h2 := (hs_neq (by omega) (by omega)).mp h
  omega
theorem cd_u {j i : Nat} (hcd : ∀ x, x < 65536 → cd x < 1073741824) (hj : j < 65536) (hi : i < 65536) (h : Int32.ofNat (cd j) = Int32.ofNat (cd i)) : cd j = cd i := by
  have h1 := hcd j hj
  have h2 := hcd i hi
  exact (hs_neq (by omega) (by omega)).mp h
/-- a new pass -/
theorem lkT.new (h : ∀ s, s < 65536 → (FS s).toUInt32.toNat / 65536 ≤ p) : lkT cd (p + 1) 0 FS KS := ⟨fun s hs => Nat.le_succ_of_le (h s hs), fun s hs ho => by
  have h1 := h s hs
  have ho : (FS s).toUInt32.toNat / 65536 = p + 1 := ho
  omega, fun j hj => absurd hj (Nat.not_lt_zero j), fun s r hs _ ho => by
  have h1 := h s hs
  have ho : (FS s).toUInt32.toNat / 65536 = p + 1 := ho
  omega⟩
/-- what has been seen on the way -/
def wyP (cd : Nat → Nat) (p n : Nat) (FS KS : Nat → Int32) (t : Nat) : Prop := ∀ r, r < t → ocP p FS ((hhN (cd n) + r) % 65536) ∧ ¬ KS ((hhN (cd n) + r) % 65536) = Int32.ofNat (cd n)
theorem wyP.st (h : wyP cd p n FS KS t) (h1 : ocP p FS ((hhN (cd n) + t) % 65536)) (h2 : ¬ KS ((hhN (cd n) + t) % 65536) = Int32.ofNat (cd n)) : wyP cd p n FS KS (t + 1) := fun r hr => by
  by_cases e : r = t
  · rw [e]
    exact ⟨h1, h2⟩
  · exact h r (by omega)
/-- a free slot: the card has no like -/
theorem lkT.fr (h : lkT cd p n FS KS) (hw : wyP cd p n FS KS t) (hf : ¬ ocP p FS ((hhN (cd n) + t) % 65536)) (hcd : ∀ x, x < 65536 → cd x < 1073741824) (hn : n < 65536) : isF cd n n := ⟨rfl, Nat.le_refl n, fun y hy => by
  by_cases hyn : n ≤ y
  · exact hyn
  · obtain ⟨s, hs, ho, hk⟩ := h.2.2.1 y (by omega)
    obtain ⟨j, hj, h1, h2, h3, u, hu, h4, h5⟩ := h.2.1 s hs ho
    have hji : cd j = cd n := (cd_u hcd (by omega) (by omega) (h2.symm.trans hk)).trans hy
    rw [hji] at h2 h4 h5
    by_cases hut : u < t
    · have h9 := (hw u hut).2
      rw [← h4] at h9
      exact absurd h2 h9
    · by_cases hu2 : u = t
      · rw [hu2] at h4
        rw [h4] at ho
        exact absurd ho hf
      · exact absurd (h5 t (by omega)) hf⟩
/-- the way is never so long -/
theorem lkT.no (h : lkT cd p n FS KS) (hw : wyP cd p n FS KS 65536) (hp : p < 32768) (hn : n < 65536) : False := by
  have ha : ∀ s, s < 65536 → ocP p FS s := fun s hs => by
    have hh := hhN_lt (c := cd n)
    have h9 := (hw ((s + 65536 - hhN (cd n)) % 65536) (Nat.mod_lt _ (by decide))).1
    rw [show (hhN (cd n) + (s + 65536 - hhN (cd n)) % 65536) % 65536 = s by omega] at h9
    exact h9
  have hf : ∀ s, ∃ j, s < 65536 → j < n ∧ FS s = Int32.ofNat (p * 65536 + j) := fun s => by
    by_cases hs : s < 65536
    · obtain ⟨j, h1, h2, -⟩ := h.2.1 s hs (ha s hs)
      exact ⟨j, fun _ => ⟨h1, h2⟩⟩
    · exact ⟨0, fun h9 => absurd h9 hs⟩
  have hc := Classical.axiomOfChoice hf
  obtain ⟨f, hf⟩ := hc
  refine pg_n (n := 65535) (f := f) (fun s hs => ?_) (fun s r hs hr e => ?_)
  · have := (hf s hs).1
    omega
  · have h1 := (hf s hs).2
    have h2 := (hf r hr).2
    rw [e] at h1
    exact h.2.2.2 s r hs hr (ha s hs) (ha r hr) (h1.trans h2.symm)
/-- a slot is written -/
def upF (FS : Nat → Int32) (S : Nat) (V : Int32) (q : Nat) : Int32 := if q = S then V else FS q
theorem upF_s {S : Nat} {V : Int32} : upF FS S V S = V := if_pos rfl
theorem upF_n {S q : Nat} {V : Int32} (h : ¬ q = S) : upF FS S V q = FS q := if_neg h
theorem oc_up {S q : Nat} {V : Int32} (hf : ¬ ocP p FS S) (ho : ocP p FS q) : ocP p (upF FS S V) q := by
  have e : ¬ q = S := fun e => hf (by rw [← e]; exact ho)
  unfold ocP
  rw [upF_n e]
  exact ho
theorem oc_dn {S q : Nat} {V : Int32} (ho : ocP p (upF FS S V) q) (e : ¬ q = S) : ocP p FS q := by
  unfold ocP at ho
  rw [upF_n e] at ho
  exact ho
theorem lkT.up {S : Nat} {V U : Int32} (h : lkT cd p n FS KS) (hw : wyP cd p n FS KS t) (hS : S = (hhN (cd n) + t) % 65536) (hS2 : S < 65536) (hf : ¬ ocP p FS S) (hi : isF cd n n) (hV : V = Int32.ofNat (p * 65536 + n)) (hv : V.toUInt32.toNat / 65536 = p) (hU : U = Int32.ofNat (cd n)) (hne : ∀ j, j < n → ¬ V = Int32.ofNat (p * 65536 + j)) (ht : t < 65536) : lkT cd p (n + 1) (upF FS S V) (upF KS S U) := by
  have h1 : ∀ s, s < 65536 → (upF FS S V s).toUInt32.toNat / 65536 ≤ p := fun s hs => by
    by_cases e : s = S
    · rw [e, upF_s, hv]
      exact Nat.le_refl p
    · rw [upF_n e]
      exact h.1 s hs
  have h2 : ∀ s, s < 65536 → ocP p (upF FS S V) s → ∃ j, j < n + 1 ∧ upF FS S V s = Int32.ofNat (p * 65536 + j) ∧ upF KS S U s = Int32.ofNat (cd j) ∧ isF cd j j ∧ ∃ t, t < 65536 ∧ s = (hhN (cd j) + t) % 65536 ∧ ∀ r, r < t → ocP p (upF FS S V) ((hhN (cd j) + r) % 65536) := fun s hs ho => by
    by_cases e : s = S
    · rw [e, upF_s, upF_s]
      exact ⟨n, Nat.lt_succ_self n, hV, hU, hi, t, ht, hS, fun r hr => oc_up hf (hw r hr).1⟩
    · obtain ⟨j, g1, g2, g3, g4, u, g5, g6, g7⟩ := h.2.1 s hs (oc_dn ho e)
      rw [upF_n e, upF_n e]
      exact ⟨j, Nat.lt_succ_of_lt g1, g2, g3, g4, u, g5, g6, fun r hr => oc_up hf (g7 r hr)⟩
  have h3 : ∀ j, j < n + 1 → ∃ s, s < 65536 ∧ ocP p (upF FS S V) s ∧ upF KS S U s = Int32.ofNat (cd j) := fun j hj => by
    by_cases ej : j = n
    · refine ⟨S, hS2, ?_, ?_⟩
      · unfold ocP
        rw [upF_s]
        exact hv
      · rw [upF_s, ej]
        exact hU
    · obtain ⟨s, g1, g2, g3⟩ := h.2.2.1 j (by omega)
      have e : ¬ s = S := fun e => hf (by rw [← e]; exact g2)
      exact ⟨s, g1, oc_up hf g2, by rw [upF_n e]; exact g3⟩
  have h4 : ∀ s r, s < 65536 → r < 65536 → ocP p (upF FS S V) s → ocP p (upF FS S V) r → upF FS S V s = upF FS S V r → s = r := fun s r hs hr ho ho2 e => by
    by_cases e1 : s = S
    · by_cases e2 : r = S
      · exact e1.trans e2.symm
      · obtain ⟨j, g1, g2, -⟩ := h.2.1 r hr (oc_dn ho2 e2)
        rw [e1, upF_s, upF_n e2, g2] at e
        exact absurd e (hne j g1)
    · by_cases e2 : r = S
      · obtain ⟨j, g1, g2, -⟩ := h.2.1 s hs (oc_dn ho e1)
        rw [e2, upF_s, upF_n e1, g2] at e
        exact absurd e.symm (hne j g1)
      · rw [upF_n e1, upF_n e2] at e
        exact h.2.2.2 s r hs hr (oc_dn ho e1) (oc_dn ho2 e2) e
  exact ⟨h1, h2, h3, h4⟩
theorem pj_n (hp : p < 32768) (hn : n < 65536) : ∀ j, j < n → ¬ Int32.ofNat (p * 65536 + n) = Int32.ofNat (p * 65536 + j) := fun j hj h => by
  have := pj_i hp hn (show j < 65536 by omega) h
  omega
/-- the card has a like -/
theorem lkT.hit (h : lkT cd p n FS KS) (hs : s < 65536) (ho : ocP p FS s) (hk : KS s = Int32.ofNat (cd n)) (hcd : ∀ x, x < 65536 → cd x < 1073741824) (hn : n < 65536) : lkT cd p (n + 1) FS KS ∧ FS s = Int32.ofNat (p * 65536 + fsN cd n n) := by
  obtain ⟨j, h1, h2, h3, h4, h5⟩ := h.2.1 s hs ho
  have hj : cd j = cd n := cd_u hcd (by omega) hn (h3.symm.trans hk)
  have hf : isF cd j n := ⟨hj, by omega, fun y hy => h4.2.2 y (hy.trans hj.symm)⟩
  refine ⟨⟨h.1, fun s hs ho => ?_, fun j hj => ?_, h.2.2.2⟩, ?_⟩
  · obtain ⟨j, h1, h2⟩ := h.2.1 s hs ho
    exact ⟨j, Nat.lt_succ_of_lt h1, h2⟩
  · by_cases ej : j = n
    · exact ⟨s, hs, ho, by rw [ej]; exact hk⟩
    · exact h.2.2.1 j (by omega)
  · rw [← hf.u fsN_f]
    exact h2
theorem fs_self (h : isF cd n n) : fsN cd n n = n := (fsN_f (cd := cd) (x := n)).u h
theorem fs_le : fsN cd n n ≤ n := (fsN_f (cd := cd) (x := n)).2.1
theorem fs_v (hp : p < 32768) (hn : n < 65536) : Int32.ofNat (p * 65536 + fsN cd n n) &&& Int32.ofNat 65535 = Int32.ofNat (fsN cd n n) := by
  have h := fs_le (cd := cd) (n := n)
  rw [an16_e (by omega), show (p * 65536 + fsN cd n n) % 65536 = fsN cd n n by omega]
theorem wy_0 : wyP cd p n FS KS 0 := fun r hr => absurd hr (Nat.not_lt_zero r)
theorem sl_nx : ((hhN (cd n) + t) % 65536 + 1) % 65536 = (hhN (cd n) + (t + 1)) % 65536 := by omega
end AOA
end
section
/-! blind: two SHOWN CARDS of like VALUES that are not right alike -/
/-- with one card l: of those from nc - d on -/
def bpJ (nc : Nat) (P : Nat → Nat → Bool) (l : Nat) : Nat → Option Nat
  | 0 => none
  | d + 1 => if P l (nc - (d + 1)) = true then some (20 * l + (nc - (d + 1))) else bpJ nc P l d
def bpO (nc : Nat) (P : Nat → Nat → Bool) : Nat → Option Nat
  | 0 => none
  | d + 1 => match bpJ nc P (nc - (d + 1)) d with
    | none => bpO nc P d
    | some q => some q
def bpP (v : evT) (X : Nat → Int32) (Y : Nat → Nat) (l m : Nat) : Bool := !(decide (Y l = Y m)) && decide (cdI v.2.1 v.2.2.1 (X l) v.1 = cdI v.2.1 v.2.2.1 (X m) v.1)
def bpI : Option Nat → Int32
  | none => (-1)
  | some q => Int32.ofNat q
def bpV (v : evT) (X : Nat → Int32) (Y : Nat → Nat) (nc : Nat) : Int32 := bpI (bpO nc (bpP v X Y) nc)
section APA
variable {v : evT} {X : Nat → Int32} {Y : Nat → Nat} {nc l m : Nat} {P : Nat → Nat → Bool}
theorem bpJ_y (hm : m < nc) (h : P l m = true) : bpJ nc P l (nc - m) = some (20 * l + m) := by
  have e : nc - m = nc - (m + 1) + 1 := by omega
  have e2 : nc - (nc - (m + 1) + 1) = m := by omega
  rw [e]
  show (if P l (nc - (nc - (m + 1) + 1)) = true then some (20 * l + (nc - (nc - (m + 1) + 1))) else bpJ nc P l (nc - (m + 1))) = _
  rw [e2, if_pos h]
theorem bpJ_n (hm : m < nc) (h : ¬ P l m = true) : bpJ nc P l (nc - m) = bpJ nc P l (nc - (m + 1)) := by
  have e : nc - m = nc - (m + 1) + 1 := by omega
  have e2 : nc - (nc - (m + 1) + 1) = m := by omega
  rw [e]
  show (if P l (nc - (nc - (m + 1) + 1)) = true then some (20 * l + (nc - (nc - (m + 1) + 1))) else bpJ nc P l (nc - (m + 1))) = _
  rw [e2, if_neg h]
theorem bpJ_z : bpJ nc P l (nc - nc) = none := by
  rw [Nat.sub_self]
  rfl
theorem bpO_y {q : Nat} (hl : l < nc) (h : bpJ nc P l (nc - (l + 1)) = some q) : bpO nc P (nc - l) = some q := by
  have e : nc - l = nc - (l + 1) + 1 := by omega
  have e2 : nc - (nc - (l + 1) + 1) = l := by omega
  rw [e]
  show (match bpJ nc P (nc - (nc - (l + 1) + 1)) (nc - (l + 1)) with
    | none => bpO nc P (nc - (l + 1))
    | some q => some q) = _
  rw [e2, h]
theorem bpO_n (hl : l < nc) (h : bpJ nc P l (nc - (l + 1)) = none) : bpO nc P (nc - l) = bpO nc P (nc - (l + 1)) := by
  have e : nc - l = nc - (l + 1) + 1 := by omega
  have e2 : nc - (nc - (l + 1) + 1) = l := by omega
  rw [e]
  show (match bpJ nc P (nc - (nc - (l + 1) + 1)) (nc - (l + 1)) with
    | none => bpO nc P (nc - (l + 1))
    | some q => some q) = _
  rw [e2, h]
theorem bpO_z : bpO nc P (nc - nc) = none := by
  rw [Nat.sub_self]
  rfl
theorem bpP_y (h1 : ¬ Y l = Y m) (h2 : cdI v.2.1 v.2.2.1 (X l) v.1 = cdI v.2.1 v.2.2.1 (X m) v.1) : bpP v X Y l m = true := by
  unfold bpP
  rw [decide_eq_false h1, decide_eq_true h2]
  rfl
theorem bpP_1 (h1 : Y l = Y m) : ¬ bpP v X Y l m = true := by
  unfold bpP
  rw [decide_eq_true h1]
  exact fun h => absurd (show false = true from h) (by decide)
theorem bpP_2 (h2 : ¬ cdI v.2.1 v.2.2.1 (X l) v.1 = cdI v.2.1 v.2.2.1 (X m) v.1) : ¬ bpP v X Y l m = true := by
  unfold bpP
  rw [decide_eq_false h2, Bool.and_false]
  decide
theorem bpO_s (hl : l < nc) {q : Nat} (h : bpJ nc P l (nc - (l + 1)) = some q) : bpI (bpO nc P (nc - l)) = Int32.ofNat q := by
  rw [bpO_y hl h]
  rfl
end APA
section APB
variable {K : et_K} {G : eg_G} {Z : eg_O → Prop} {d d2 s0 e ca ki kn la ly nc am aw n l m c x9 s : Nat} {v : evT} {X : Nat → Int32} {Y : Nat → Nat} {x : Int32} {x3 x4 : Option Value}
theorem fd_cdL (hH : et_H et_TT K G) (t9 : evK K e ca ki kn v.1 v.2.2.1) (hv : evc G e ca ki kn v) (hm : m ≤ v.1) : et_go none (d + 2) 37 4 [some (.ref e), some (.int x), some (.int (cdI v.2.1 v.2.2.1 x m)), some (.int (Int32.ofNat m))] [] G 0 0 (xp_Z G (some (.int (cdI v.2.1 v.2.2.1 x v.1)))) := by
  have hv0 := hv
  have t90 := t9
  obtain ⟨⟨k_e, k_ca, k_ki, k_kn⟩, hw6, hkd⟩ := t9
  obtain ⟨⟨p0, p1, p2, p3⟩, hN, hCK, p4, p5, p6, p7⟩ := hv
  induction hq9 : v.1 - m using Nat.strongRecOn generalizing m with
  | _ q9 ih =>
    have lt_e := (hH.2.2 _ _ k_e).1
    have lt_ca := (hH.2.2 _ _ k_ca).1
    have lt_ki := (hH.2.2 _ _ k_ki).1
    refine hs_iload (i := 3) (p := 5) (by decide +kernel) rfl ?_
    refine hs_aload (i := 0) (p := 6) (by decide +kernel) rfl ?_
    refine hf_get (T := et_TT) (t := 3) (ci := 1) (f := 0) (p := 9) (by decide +kernel) rfl hH k_e p0 ?_
    refine hs_br2n (c := .ge) (t := 29) (f := 12) (by decide +kernel) (by omega) (by omega) (fun (c9 : v.1 ≤ m) => ?_) (fun (c9 : ¬ (v.1 ≤ m)) => ?_)
    · refine hs_iload (i := 2) (p := 30) (by decide +kernel) rfl ?_
      refine hs_iret (by decide +kernel) ?_
      obtain rfl : m = v.1 := by omega
      rfl
    · refine hs_iload (i := 2) (p := 13) (by decide +kernel) rfl ?_
      refine hs_k (x := Int32.ofNat 5) (p := 14) (by decide +kernel) ?_
      refine hs_st (ins := .ishl) (len := 1) (p := 15) (by decide +kernel) rfl rfl ?_
      refine hs_aload (i := 0) (p := 16) (by decide +kernel) rfl ?_
      refine hs_iload (i := 3) (p := 17) (by decide +kernel) rfl ?_
      refine hs_iload (i := 1) (p := 18) (by decide +kernel) rfl ?_
      refine ht_callv (T := et_TT) (t := 3) (mi := 34) (na := 2) (ci := 1) (lk := 4) (lm := 4) (L0 := eg_en (eg_mL 34) [.ref e, .int (Int32.ofNat m), .int x]) (by decide +kernel) rfl hH k_e rfl rfl rfl rfl rfl (by rw [show eg_mL 34 = 4 from by decide +kernel]; first | done | rfl) ?_
      refine (fd_val hH k_e k_ca k_ki p0 p1 p2 hw6 (by omega) (hCK m (by omega)).1 (hCK m (by omega)).2 (hkd m (by omega)) (by omega)).mono (fun u hu => xp_cb hu ?_)
      show et_go none _ 37 21 _ [.int (vaI (v.2.1 m) (v.2.2.1 m) x), .int ((cdI v.2.1 v.2.2.1 x m) <<< ((Int32.ofNat 5) &&& 31))] _ _ _ _
      refine hs_st (ins := .ior) (len := 1) (p := 22) (by decide +kernel) rfl rfl ?_
      refine hs_istore (i := 2) (p := 23) (by decide +kernel) (Nat.le_of_ble_eq_true rfl) ?_
      refine hs_iinc1 (i := 3) (p := 26) (by decide +kernel) rfl (Nat.le_of_ble_eq_true rfl) ?_
      refine hs_goto (p := 4) (by decide +kernel) ?_
      exact ih (v.1 - (m + 1)) (by omega) (by omega) rfl
theorem fd_cd (hH : et_H et_TT K G) (t9 : evK K e ca ki kn v.1 v.2.2.1) (hv : evc G e ca ki kn v) (hd : 2 ≤ d2) : et_go none d2 37 0 (eg_en (eg_mL 37) [.ref e, .int x]) [] G 0 0 (xp_Z G (some (.int (cdI v.2.1 v.2.2.1 x v.1)))) := by
  obtain ⟨d, rfl⟩ : ∃ d, d2 = d + 2 := ⟨d2 - 2, by omega⟩
  rw [show eg_mL 37 = 4 from by decide +kernel]
  show et_go none (d + 2) 37 0 [some (.ref e), some (.int x), none, none] [] G 0 0 _
  refine hs_k (x := Int32.ofNat 0) (p := 1) (by decide +kernel) ?_
  refine hs_istore (i := 2) (p := 2) (by decide +kernel) (Nat.le_of_ble_eq_true rfl) ?_
  refine hs_k (x := Int32.ofNat 0) (p := 3) (by decide +kernel) ?_
  refine hs_istore (i := 3) (p := 4) (by decide +kernel) (Nat.le_of_ble_eq_true rfl) ?_
  exact fd_cdL (m := 0) hH t9 hv (Nat.zero_le _)
theorem fd_bpJ (hH : et_H et_TT K G) (t9 : evK K e ca ki kn v.1 v.2.2.1) (hv : evc G e ca ki kn v) (k_s0 : K s0 = some 10) (k_la : K la = some 17) (k_ly : K ly = some 27) (g2 : et_pl (eg_at G s0) 2 = some (.int (Int32.ofNat nc))) (hcc : ccP G s0 la ly nc X Y) (hnc : nc ≤ 20) (hl : l < nc) (hm : m ≤ nc) (h0 : bpJ nc (bpP v X Y) l (nc - m) = none → et_go none (d + 3) 107 80 [some (.ref s0), some (.ref e), some (.int (Int32.ofNat l)), some (.int (cdI v.2.1 v.2.2.1 (X l) v.1)), some (.int (Int32.ofNat nc))] [] G 0 0 Z) (h1 : ∀ q, bpJ nc (bpP v X Y) l (nc - m) = some q → Z (.inl (some (.int (Int32.ofNat q))), G, 0, 0)) : et_go none (d + 3) 107 26 [some (.ref s0), some (.ref e), some (.int (Int32.ofNat l)), some (.int (cdI v.2.1 v.2.2.1 (X l) v.1)), some (.int (Int32.ofNat m))] [] G 0 0 Z := by
  have k_e := t9.1.1
  induction hq9 : nc - m using Nat.strongRecOn generalizing m with
  | _ q9 ih =>
    have yl := (hcc.2 l hl).2.2
    have ym : m < nc → Y m ≤ 1 := fun h9 => (hcc.2 m h9).2.2
    have lt_s0 := (hH.2.2 _ _ k_s0).1
    have lt_la := (hH.2.2 _ _ k_la).1
    have lt_ly := (hH.2.2 _ _ k_ly).1
    have lt_e := (hH.2.2 _ _ k_e).1
    refine hs_iload (i := 4) (p := 28) (by decide +kernel) rfl ?_
    refine hs_aload (i := 0) (p := 29) (by decide +kernel) rfl ?_
    refine hf_get (T := et_TT) (t := 10) (ci := 8) (f := 2) (p := 32) (by decide +kernel) rfl hH k_s0 g2 ?_
    refine hs_br2n (c := .ge) (t := 80) (f := 35) (by decide +kernel) (by omega) (by omega) (fun (c32 : nc ≤ m) => ?_) (fun (c32 : ¬ (nc ≤ m)) => ?_)
    · obtain rfl : m = nc := by omega
      exact h0 bpJ_z
    · have ym9 := ym (by omega)
      refine hs_aload (i := 0) (p := 36) (by decide +kernel) rfl ?_
      refine hf_get (T := et_TT) (t := 10) (ci := 8) (f := 4) (p := 39) (by decide +kernel) rfl hH k_s0 hcc.1.2 ?_
      refine hs_iload (i := 2) (p := 40) (by decide +kernel) rfl ?_
      refine hf_ald (ins := .baload) (T := et_TT) (t := 27) (kd := 3) (N := 20) (p := 41) (by decide +kernel) (fun _ _ _ _ _ _ _ _ _ _ => rfl) rfl rfl rfl hH k_ly (by decide) (hcc.2 l (by omega)).2.1 ?_
      refine hs_aload (i := 0) (p := 42) (by decide +kernel) rfl ?_
      refine hf_get (T := et_TT) (t := 10) (ci := 8) (f := 4) (p := 45) (by decide +kernel) rfl hH k_s0 hcc.1.2 ?_
      refine hs_iload (i := 4) (p := 47) (by decide +kernel) rfl ?_
      refine hf_ald (ins := .baload) (T := et_TT) (t := 27) (kd := 3) (N := 20) (p := 48) (by decide +kernel) (fun _ _ _ _ _ _ _ _ _ _ => rfl) rfl rfl rfl hH k_ly (by decide) (hcc.2 m (by omega)).2.1 ?_
      refine hs_br2n (c := .eq) (t := 74) (f := 51) (by decide +kernel) (by omega) (by omega) (fun (c48 : (Y l) = (Y m)) => ?_) (fun (c48 : ¬ ((Y l) = (Y m))) => ?_)
      · refine hs_iinc1 (i := 4) (p := 77) (by decide +kernel) rfl (Nat.le_of_ble_eq_true rfl) ?_
        refine hs_goto (p := 26) (by decide +kernel) ?_
        have e9 := bpJ_n (nc := nc) (P := (bpP v X Y)) (l := l) (m := m) (by omega) (bpP_1 c48)
        rw [e9] at h0 h1
        exact ih (nc - (m + 1)) (by omega) (by omega) h0 h1 rfl
      · refine hs_aload (i := 1) (p := 52) (by decide +kernel) rfl ?_
        refine hs_aload (i := 0) (p := 53) (by decide +kernel) rfl ?_
        refine hf_get (T := et_TT) (t := 10) (ci := 8) (f := 3) (p := 56) (by decide +kernel) rfl hH k_s0 hcc.1.1 ?_
        refine hs_iload (i := 4) (p := 58) (by decide +kernel) rfl ?_
        refine hf_ald (ins := .iaload) (T := et_TT) (t := 17) (kd := 0) (N := 20) (p := 59) (by decide +kernel) (fun _ _ _ _ _ _ _ _ _ _ => rfl) rfl rfl rfl hH k_la (by decide) (hcc.2 m (by omega)).1 ?_
        refine ht_callv (T := et_TT) (t := 3) (mi := 37) (na := 1) (ci := 1) (lk := 5) (lm := 4) (L0 := eg_en (eg_mL 37) [.ref e, .int (X m)]) (by decide +kernel) rfl hH k_e rfl rfl rfl rfl rfl (by rw [show eg_mL 37 = 4 from by decide +kernel]; first | done | rfl) ?_
        refine (fd_cd (x := (X m)) hH t9 hv (by omega)).mono (fun u hu => xp_cb hu ?_)
        show et_go none _ 107 62 _ [.int (cdI v.2.1 v.2.2.1 (X m) v.1)] _ _ _ _
        refine hs_iload (i := 3) (p := 63) (by decide +kernel) rfl ?_
        refine hs_br2 (c := .ne) (t := 74) (f := 66) (by decide +kernel) (fun (c63 : ¬ (cdI v.2.1 v.2.2.1 (X m) v.1) = (cdI v.2.1 v.2.2.1 (X l) v.1)) => ?_) (fun (c63 : ¬ (¬ (cdI v.2.1 v.2.2.1 (X m) v.1) = (cdI v.2.1 v.2.2.1 (X l) v.1))) => ?_)
        · refine hs_iinc1 (i := 4) (p := 77) (by decide +kernel) rfl (Nat.le_of_ble_eq_true rfl) ?_
          refine hs_goto (p := 26) (by decide +kernel) ?_
          have e9 := bpJ_n (nc := nc) (P := (bpP v X Y)) (l := l) (m := m) (by omega) (bpP_2 (fun h9 => c63 h9.symm))
          rw [e9] at h0 h1
          exact ih (nc - (m + 1)) (by omega) (by omega) h0 h1 rfl
        · refine hs_k (x := Int32.ofNat 20) (p := 68) (by decide +kernel) ?_
          refine hs_iload (i := 2) (p := 69) (by decide +kernel) rfl ?_
          refine hs_imuln (p := 70) (by decide +kernel) ?_
          refine hs_iload (i := 4) (p := 72) (by decide +kernel) rfl ?_
          refine hs_iaddn (p := 73) (by decide +kernel) ?_
          refine hs_iret (by decide +kernel) ?_
          have e9 := bpJ_y (nc := nc) (P := (bpP v X Y)) (l := l) (m := m) (by omega) (bpP_y c48 (Decidable.of_not_not c63).symm)
          exact h1 _ e9
theorem fd_bpO (hH : et_H et_TT K G) (t9 : evK K e ca ki kn v.1 v.2.2.1) (hv : evc G e ca ki kn v) (k_s0 : K s0 = some 10) (k_la : K la = some 17) (k_ly : K ly = some 27) (g2 : et_pl (eg_at G s0) 2 = some (.int (Int32.ofNat nc))) (hcc : ccP G s0 la ly nc X Y) (hnc : nc ≤ 20) (hl : l ≤ nc) : et_go none (d + 3) 107 2 [some (.ref s0), some (.ref e), some (.int (Int32.ofNat l)), x3, x4] [] G 0 0 (xp_Z G (some (.int (bpI (bpO nc (bpP v X Y) (nc - l)))))) := by
  have k_e := t9.1.1
  induction hq9 : nc - l using Nat.strongRecOn generalizing l x3 x4 with
  | _ q9 ih =>
    rw [← hq9]
    have lt_s0 := (hH.2.2 _ _ k_s0).1
    have lt_la := (hH.2.2 _ _ k_la).1
    have lt_ly := (hH.2.2 _ _ k_ly).1
    have lt_e := (hH.2.2 _ _ k_e).1
    refine hs_iload (i := 2) (p := 3) (by decide +kernel) rfl ?_
    refine hs_aload (i := 0) (p := 4) (by decide +kernel) rfl ?_
    refine hf_get (T := et_TT) (t := 10) (ci := 8) (f := 2) (p := 7) (by decide +kernel) rfl hH k_s0 g2 ?_
    refine hs_br2n (c := .ge) (t := 86) (f := 10) (by decide +kernel) (by omega) (by omega) (fun (c7 : nc ≤ l) => ?_) (fun (c7 : ¬ (nc ≤ l)) => ?_)
    · refine hs_k (x := (-1)) (p := 87) (by decide +kernel) ?_
      refine hs_iret (by decide +kernel) ?_
      obtain rfl : l = nc := by omega
      show xp_Z G (some (.int (bpI (bpO l (bpP v X Y) (l - l))))) _
      rw [bpO_z]
      rfl
    · refine hs_aload (i := 1) (p := 11) (by decide +kernel) rfl ?_
      refine hs_aload (i := 0) (p := 12) (by decide +kernel) rfl ?_
      refine hf_get (T := et_TT) (t := 10) (ci := 8) (f := 3) (p := 15) (by decide +kernel) rfl hH k_s0 hcc.1.1 ?_
      refine hs_iload (i := 2) (p := 16) (by decide +kernel) rfl ?_
      refine hf_ald (ins := .iaload) (T := et_TT) (t := 17) (kd := 0) (N := 20) (p := 17) (by decide +kernel) (fun _ _ _ _ _ _ _ _ _ _ => rfl) rfl rfl rfl hH k_la (by decide) (hcc.2 l (by omega)).1 ?_
      refine ht_callv (T := et_TT) (t := 3) (mi := 37) (na := 1) (ci := 1) (lk := 5) (lm := 4) (L0 := eg_en (eg_mL 37) [.ref e, .int (X l)]) (by decide +kernel) rfl hH k_e rfl rfl rfl rfl rfl (by rw [show eg_mL 37 = 4 from by decide +kernel]; first | done | rfl) ?_
      refine (fd_cd (x := (X l)) hH t9 hv (by omega)).mono (fun u hu => xp_cb hu ?_)
      show et_go none _ 107 20 _ [.int (cdI v.2.1 v.2.2.1 (X l) v.1)] _ _ _ _
      refine hs_istore (i := 3) (p := 21) (by decide +kernel) (Nat.le_of_ble_eq_true rfl) ?_
      refine hs_iload (i := 2) (p := 22) (by decide +kernel) rfl ?_
      refine hs_k (x := Int32.ofNat 1) (p := 23) (by decide +kernel) ?_
      refine hs_iaddn (p := 24) (by decide +kernel) ?_
      refine hs_istore (i := 4) (p := 26) (by decide +kernel) (Nat.le_of_ble_eq_true rfl) ?_
      refine fd_bpJ (l := l) (m := l + 1) hH t9 hv k_s0 k_la k_ly g2 hcc hnc (by omega) (by omega) (fun h9 => ?_) (fun q9 h9 => ?_)
      · refine hs_iinc1 (i := 2) (p := 83) (by decide +kernel) rfl (Nat.le_of_ble_eq_true rfl) ?_
        refine hs_goto (p := 2) (by decide +kernel) ?_
        rw [bpO_n (by omega) h9]
        exact ih (nc - (l + 1)) (by omega) (by omega) rfl
      · show xp_Z G (some (.int (bpI (bpO nc (bpP v X Y) (nc - l))))) _
        rw [bpO_s (by omega) h9]
        rfl
theorem fd_bp (hH : et_H et_TT K G) (t9 : evK K e ca ki kn v.1 v.2.2.1) (hv : evc G e ca ki kn v) (k_s0 : K s0 = some 10) (k_la : K la = some 17) (k_ly : K ly = some 27) (g2 : et_pl (eg_at G s0) 2 = some (.int (Int32.ofNat nc))) (hcc : ccP G s0 la ly nc X Y) (hnc : nc ≤ 20) (hd : 3 ≤ d2) : et_go none d2 107 0 (eg_en (eg_mL 107) [.ref s0, .ref e]) [] G 0 0 (xp_Z G (some (.int (bpV v X Y nc)))) := by
  obtain ⟨d, rfl⟩ : ∃ d, d2 = d + 3 := ⟨d2 - 3, by omega⟩
  rw [show eg_mL 107 = 5 from by decide +kernel]
  show et_go none (d + 3) 107 0 [some (.ref s0), some (.ref e), none, none, none] [] G 0 0 _
  refine hs_k (x := Int32.ofNat 0) (p := 1) (by decide +kernel) ?_
  refine hs_istore (i := 2) (p := 2) (by decide +kernel) (Nat.le_of_ble_eq_true rfl) ?_
  exact fd_bpO (l := 0) hH t9 hv k_s0 k_la k_ly g2 hcc hnc (Nat.zero_le _)
theorem fn_cdL (hH : et_H et_TT K G) (k_am : K am = some 13) (k_aw : K aw = some 46) (m1 : et_pl (eg_at G am) 1 = some (.ref aw)) (hn : n < 3) (ho : evo v) (hv : evm G aw n v) (hm : m ≤ v.1) : et_go none (d + 4) 264 5 [some (.ref am), some (.int (Int32.ofNat n)), some (.int x), some (.int (cdI v.2.1 v.2.2.1 x m)), some (.int (Int32.ofNat m))] [] G 0 0 (xp_Z G (some (.int (cdI v.2.1 v.2.2.1 x v.1)))) := by
  have hw6 := ho.1.1
  induction hq9 : v.1 - m using Nat.strongRecOn generalizing m with
  | _ q9 ih =>
    have lt_am := (hH.2.2 _ _ k_am).1
    have lt_aw := (hH.2.2 _ _ k_aw).1
    refine hs_iload (i := 4) (p := 7) (by decide +kernel) rfl ?_
    refine hs_aload (i := 0) (p := 8) (by decide +kernel) rfl ?_
    refine hs_iload (i := 1) (p := 9) (by decide +kernel) rfl ?_
    refine ht_callv (T := et_TT) (t := 13) (mi := 224) (na := 1) (ci := 11) (lk := 5) (lm := 2) (L0 := eg_en (eg_mL 224) [.ref am, .int (Int32.ofNat n)]) (by decide +kernel) rfl hH k_am rfl rfl rfl rfl rfl (by rw [show eg_mL 224 = 2 from by decide +kernel]; first | done | rfl) ?_
    refine (fn_wires hH k_am k_aw m1 hn hv.1 (by omega)).mono (fun u hu => xp_cb hu ?_)
    show et_go none _ 264 12 _ [.int (Int32.ofNat v.1), .int (Int32.ofNat m)] _ _ _ _
    refine hs_br2n (c := .ge) (t := 34) (f := 15) (by decide +kernel) (by omega) (by omega) (fun (c12 : v.1 ≤ m) => ?_) (fun (c12 : ¬ (v.1 ≤ m)) => ?_)
    · refine hs_iload (i := 3) (p := 35) (by decide +kernel) rfl ?_
      refine hs_iret (by decide +kernel) ?_
      obtain rfl : m = v.1 := by omega
      rfl
    · refine hs_iload (i := 3) (p := 16) (by decide +kernel) rfl ?_
      refine hs_k (x := Int32.ofNat 5) (p := 17) (by decide +kernel) ?_
      refine hs_st (ins := .ishl) (len := 1) (p := 18) (by decide +kernel) rfl rfl ?_
      refine hs_aload (i := 0) (p := 19) (by decide +kernel) rfl ?_
      refine hs_iload (i := 1) (p := 20) (by decide +kernel) rfl ?_
      refine hs_iload (i := 4) (p := 22) (by decide +kernel) rfl ?_
      refine hs_iload (i := 2) (p := 23) (by decide +kernel) rfl ?_
      refine ht_callv (T := et_TT) (t := 13) (mi := 238) (na := 3) (ci := 11) (lk := 5) (lm := 4) (L0 := eg_en (eg_mL 238) [.ref am, .int (Int32.ofNat n), .int (Int32.ofNat m), .int x]) (by decide +kernel) rfl hH k_am rfl rfl rfl rfl rfl (by rw [show eg_mL 238 = 4 from by decide +kernel]; first | done | rfl) ?_
      refine (fn_val hH k_am k_aw m1 hn ho.1.1 ho.1.2 hv (by omega) (by omega)).mono (fun u hu => xp_cb hu ?_)
      show et_go none _ 264 26 _ [.int (vaI (v.2.1 m) (v.2.2.1 m) x), .int ((cdI v.2.1 v.2.2.1 x m) <<< ((Int32.ofNat 5) &&& 31))] _ _ _ _
      refine hs_st (ins := .ior) (len := 1) (p := 27) (by decide +kernel) rfl rfl ?_
      refine hs_istore (i := 3) (p := 28) (by decide +kernel) (Nat.le_of_ble_eq_true rfl) ?_
      refine hs_iinc1 (i := 4) (p := 31) (by decide +kernel) rfl (Nat.le_of_ble_eq_true rfl) ?_
      refine hs_goto (p := 5) (by decide +kernel) ?_
      exact ih (v.1 - (m + 1)) (by omega) (by omega) rfl
theorem fn_cd (hH : et_H et_TT K G) (k_am : K am = some 13) (k_aw : K aw = some 46) (m1 : et_pl (eg_at G am) 1 = some (.ref aw)) (hn : n < 3) (ho : evo v) (hv : evm G aw n v) (hd : 4 ≤ d2) : et_go none d2 264 0 (eg_en (eg_mL 264) [.ref am, .int (Int32.ofNat n), .int x]) [] G 0 0 (xp_Z G (some (.int (cdI v.2.1 v.2.2.1 x v.1)))) := by
  obtain ⟨d, rfl⟩ : ∃ d, d2 = d + 4 := ⟨d2 - 4, by omega⟩
  rw [show eg_mL 264 = 5 from by decide +kernel]
  show et_go none (d + 4) 264 0 [some (.ref am), some (.int (Int32.ofNat n)), some (.int x), none, none] [] G 0 0 _
  refine hs_k (x := Int32.ofNat 0) (p := 1) (by decide +kernel) ?_
  refine hs_istore (i := 3) (p := 2) (by decide +kernel) (Nat.le_of_ble_eq_true rfl) ?_
  refine hs_k (x := Int32.ofNat 0) (p := 3) (by decide +kernel) ?_
  refine hs_istore (i := 4) (p := 5) (by decide +kernel) (Nat.le_of_ble_eq_true rfl) ?_
  exact fn_cdL (m := 0) hH k_am k_aw m1 hn ho hv (Nat.zero_le _)
theorem fn_half (hH : et_H et_TT K G) (k_am : K am = some 13) (k_aw : K aw = some 46) (m1 : et_pl (eg_at G am) 1 = some (.ref aw)) (hn : n < 3) (ho : evo v) (hv : evm G aw n v) (hx9 : x9 < 65536) (hs : s = 0 ∨ s = 15) (hd : 5 ≤ d2) : et_go none d2 268 0 (eg_en (eg_mL 268) [.ref am, .int (Int32.ofNat n), .int (Int32.ofNat x9), .int (Int32.ofNat s)]) [] G 0 0 (xp_Z G (some (.int (Int32.ofNat (hfN s (cdN v.2.1 v.2.2.1 x9 v.1)))))) := by
  obtain ⟨d, rfl⟩ : ∃ d, d2 = d + 5 := ⟨d2 - 5, by omega⟩
  rw [show eg_mL 268 = 4 from by decide +kernel]
  show et_go none (d + 5) 268 0 [some (.ref am), some (.int (Int32.ofNat n)), some (.int (Int32.ofNat x9)), some (.int (Int32.ofNat s))] [] G 0 0 _
  have lt_am := (hH.2.2 _ _ k_am).1
  have lt_aw := (hH.2.2 _ _ k_aw).1
  refine hs_aload (i := 0) (p := 1) (by decide +kernel) rfl ?_
  refine hs_iload (i := 1) (p := 2) (by decide +kernel) rfl ?_
  refine hs_iload (i := 2) (p := 3) (by decide +kernel) rfl ?_
  refine ht_callv (T := et_TT) (t := 13) (mi := 264) (na := 2) (ci := 11) (lk := 4) (lm := 5) (L0 := eg_en (eg_mL 264) [.ref am, .int (Int32.ofNat n), .int (Int32.ofNat x9)]) (by decide +kernel) rfl hH k_am rfl rfl rfl rfl rfl (by rw [show eg_mL 264 = 5 from by decide +kernel]; first | done | rfl) ?_
  refine (fn_cd (x := Int32.ofNat x9) hH k_am k_aw m1 hn ho hv (by omega)).mono (fun u hu => xp_cb hu ?_)
  show et_go none _ 268 6 _ [.int (cdI v.2.1 v.2.2.1 (Int32.ofNat x9) v.1)] _ _ _ _
  refine hs_iload (i := 3) (p := 7) (by decide +kernel) rfl ?_
  refine hs_st (ins := .ishr) (len := 1) (p := 8) (by decide +kernel) rfl rfl ?_
  refine hs_k (x := Int32.ofNat 32767) (p := 11) (by decide +kernel) ?_
  refine hs_st (ins := .iand) (len := 1) (p := 12) (by decide +kernel) rfl rfl ?_
  refine hs_iret (by decide +kernel) ?_
  show xp_Z G (some (.int (Int32.ofNat (hfN s (cdN v.2.1 v.2.2.1 x9 v.1))))) (.inl (some (.int (((cdI v.2.1 v.2.2.1 (Int32.ofNat x9) v.1) >>> (Int32.ofNat s &&& 31)) &&& Int32.ofNat 32767))), G, 0, 0)
  rw [(cd_n hx9 v.1 ho.1.1).1, hf9_n (cd_30 hx9 ho.1.1) hs]
  rfl
theorem fn_bpJ (hH : et_H et_TT K G) (k_am : K am = some 13) (k_aw : K aw = some 46) (m1 : et_pl (eg_at G am) 1 = some (.ref aw)) (hn : n < 3) (ho : evo v) (hv : evm G aw n v) (w3 : et_pl (eg_at G aw) 3 = some (.int (Int32.ofNat nc))) (hnc : nc ≤ 20) (hcr : crP G aw nc X Y) (hl : l < nc) (hm : m ≤ nc) (h0 : bpJ nc (bpP v X Y) l (nc - m) = none → et_go none (d + 5) 263 71 [some (.ref am), some (.int (Int32.ofNat n)), some (.int (Int32.ofNat l)), some (.int (Int32.ofNat nc))] [] G 0 0 Z) (h1 : ∀ q, bpJ nc (bpP v X Y) l (nc - m) = some q → Z (.inl (some (.int (Int32.ofNat q))), G, 0, 0)) : et_go none (d + 5) 263 14 [some (.ref am), some (.int (Int32.ofNat n)), some (.int (Int32.ofNat l)), some (.int (Int32.ofNat m))] [] G 0 0 Z := by
  induction hq9 : nc - m using Nat.strongRecOn generalizing m with
  | _ q9 ih =>
    have yl := (hcr l hl).2.2
    have ym : m < nc → Y m ≤ 1 := fun h9 => (hcr m h9).2.2
    have lt_am := (hH.2.2 _ _ k_am).1
    have lt_aw := (hH.2.2 _ _ k_aw).1
    refine hs_iload (i := 3) (p := 15) (by decide +kernel) rfl ?_
    refine hs_aload (i := 0) (p := 16) (by decide +kernel) rfl ?_
    refine ht_callv (T := et_TT) (t := 13) (mi := 218) (na := 0) (ci := 11) (lk := 4) (lm := 1) (L0 := eg_en (eg_mL 218) [.ref am]) (by decide +kernel) rfl hH k_am rfl rfl rfl rfl rfl (by rw [show eg_mL 218 = 1 from by decide +kernel]; first | done | rfl) ?_
    refine (fm_cards hH k_am k_aw m1 w3).mono (fun u hu => xp_cb hu ?_)
    show et_go none _ 263 19 _ [.int (Int32.ofNat nc), .int (Int32.ofNat m)] _ _ _ _
    refine hs_br2n (c := .ge) (t := 71) (f := 22) (by decide +kernel) (by omega) (by omega) (fun (c19 : nc ≤ m) => ?_) (fun (c19 : ¬ (nc ≤ m)) => ?_)
    · obtain rfl : m = nc := by omega
      exact h0 bpJ_z
    · have ym9 := ym (by omega)
      refine hs_aload (i := 0) (p := 23) (by decide +kernel) rfl ?_
      refine hs_iload (i := 2) (p := 24) (by decide +kernel) rfl ?_
      refine ht_callv (T := et_TT) (t := 13) (mi := 240) (na := 1) (ci := 11) (lk := 4) (lm := 2) (L0 := eg_en (eg_mL 240) [.ref am, .int (Int32.ofNat l)]) (by decide +kernel) rfl hH k_am rfl rfl rfl rfl rfl (by rw [show eg_mL 240 = 2 from by decide +kernel]; first | done | rfl) ?_
      refine (fm_isYes hH k_am k_aw m1 (by omega) (hcr l (by omega)).2.2 (hcr l (by omega)).2.1).mono (fun u hu => xp_cb hu ?_)
      show et_go none _ 263 27 _ [.int (Int32.ofNat (Y l))] _ _ _ _
      refine hs_aload (i := 0) (p := 28) (by decide +kernel) rfl ?_
      refine hs_iload (i := 3) (p := 29) (by decide +kernel) rfl ?_
      refine ht_callv (T := et_TT) (t := 13) (mi := 240) (na := 1) (ci := 11) (lk := 4) (lm := 2) (L0 := eg_en (eg_mL 240) [.ref am, .int (Int32.ofNat m)]) (by decide +kernel) rfl hH k_am rfl rfl rfl rfl rfl (by rw [show eg_mL 240 = 2 from by decide +kernel]; first | done | rfl) ?_
      refine (fm_isYes hH k_am k_aw m1 (by omega) (hcr m (by omega)).2.2 (hcr m (by omega)).2.1).mono (fun u hu => xp_cb hu ?_)
      show et_go none _ 263 32 _ [.int (Int32.ofNat (Y m)), .int (Int32.ofNat (Y l))] _ _ _ _
      refine hs_br2n (c := .eq) (t := 65) (f := 35) (by decide +kernel) (by omega) (by omega) (fun (c32 : (Y l) = (Y m)) => ?_) (fun (c32 : ¬ ((Y l) = (Y m))) => ?_)
      · refine hs_iinc1 (i := 3) (p := 68) (by decide +kernel) rfl (Nat.le_of_ble_eq_true rfl) ?_
        refine hs_goto (p := 14) (by decide +kernel) ?_
        have e9 := bpJ_n (nc := nc) (P := (bpP v X Y)) (l := l) (m := m) (by omega) (bpP_1 c32)
        rw [e9] at h0 h1
        exact ih (nc - (m + 1)) (by omega) (by omega) h0 h1 rfl
      · refine hs_aload (i := 0) (p := 36) (by decide +kernel) rfl ?_
        refine hs_iload (i := 1) (p := 37) (by decide +kernel) rfl ?_
        refine hs_aload (i := 0) (p := 38) (by decide +kernel) rfl ?_
        refine hs_iload (i := 2) (p := 39) (by decide +kernel) rfl ?_
        refine ht_callv (T := et_TT) (t := 13) (mi := 234) (na := 1) (ci := 11) (lk := 4) (lm := 2) (L0 := eg_en (eg_mL 234) [.ref am, .int (Int32.ofNat l)]) (by decide +kernel) rfl hH k_am rfl rfl rfl rfl rfl (by rw [show eg_mL 234 = 2 from by decide +kernel]; first | done | rfl) ?_
        refine (fm_litOf hH k_am k_aw m1 (by omega) (hcr l (by omega)).1).mono (fun u hu => xp_cb hu ?_)
        show et_go none _ 263 42 _ [.int (X l), .int (Int32.ofNat n), .ref am] _ _ _ _
        refine ht_callv (T := et_TT) (t := 13) (mi := 264) (na := 2) (ci := 11) (lk := 4) (lm := 5) (L0 := eg_en (eg_mL 264) [.ref am, .int (Int32.ofNat n), .int (X l)]) (by decide +kernel) rfl hH k_am rfl rfl rfl rfl rfl (by rw [show eg_mL 264 = 5 from by decide +kernel]; first | done | rfl) ?_
        refine (fn_cd (x := (X l)) hH k_am k_aw m1 hn ho hv (by omega)).mono (fun u hu => xp_cb hu ?_)
        show et_go none _ 263 45 _ [.int (cdI v.2.1 v.2.2.1 (X l) v.1)] _ _ _ _
        refine hs_aload (i := 0) (p := 46) (by decide +kernel) rfl ?_
        refine hs_iload (i := 1) (p := 47) (by decide +kernel) rfl ?_
        refine hs_aload (i := 0) (p := 48) (by decide +kernel) rfl ?_
        refine hs_iload (i := 3) (p := 49) (by decide +kernel) rfl ?_
        refine ht_callv (T := et_TT) (t := 13) (mi := 234) (na := 1) (ci := 11) (lk := 4) (lm := 2) (L0 := eg_en (eg_mL 234) [.ref am, .int (Int32.ofNat m)]) (by decide +kernel) rfl hH k_am rfl rfl rfl rfl rfl (by rw [show eg_mL 234 = 2 from by decide +kernel]; first | done | rfl) ?_
        refine (fm_litOf hH k_am k_aw m1 (by omega) (hcr m (by omega)).1).mono (fun u hu => xp_cb hu ?_)
        show et_go none _ 263 52 _ [.int (X m), .int (Int32.ofNat n), .ref am, .int (cdI v.2.1 v.2.2.1 (X l) v.1)] _ _ _ _
        refine ht_callv (T := et_TT) (t := 13) (mi := 264) (na := 2) (ci := 11) (lk := 4) (lm := 5) (L0 := eg_en (eg_mL 264) [.ref am, .int (Int32.ofNat n), .int (X m)]) (by decide +kernel) rfl hH k_am rfl rfl rfl rfl rfl (by rw [show eg_mL 264 = 5 from by decide +kernel]; first | done | rfl) ?_
        refine (fn_cd (x := (X m)) hH k_am k_aw m1 hn ho hv (by omega)).mono (fun u hu => xp_cb hu ?_)
        show et_go none _ 263 55 _ [.int (cdI v.2.1 v.2.2.1 (X m) v.1), .int (cdI v.2.1 v.2.2.1 (X l) v.1)] _ _ _ _
        refine hs_br2 (c := .ne) (t := 65) (f := 58) (by decide +kernel) (fun (c55 : ¬ (cdI v.2.1 v.2.2.1 (X l) v.1) = (cdI v.2.1 v.2.2.1 (X m) v.1)) => ?_) (fun (c55 : ¬ (¬ (cdI v.2.1 v.2.2.1 (X l) v.1) = (cdI v.2.1 v.2.2.1 (X m) v.1))) => ?_)
        · refine hs_iinc1 (i := 3) (p := 68) (by decide +kernel) rfl (Nat.le_of_ble_eq_true rfl) ?_
          refine hs_goto (p := 14) (by decide +kernel) ?_
          have e9 := bpJ_n (nc := nc) (P := (bpP v X Y)) (l := l) (m := m) (by omega) (bpP_2 c55)
          rw [e9] at h0 h1
          exact ih (nc - (m + 1)) (by omega) (by omega) h0 h1 rfl
        · refine hs_k (x := Int32.ofNat 20) (p := 60) (by decide +kernel) ?_
          refine hs_iload (i := 2) (p := 61) (by decide +kernel) rfl ?_
          refine hs_imuln (p := 62) (by decide +kernel) ?_
          refine hs_iload (i := 3) (p := 63) (by decide +kernel) rfl ?_
          refine hs_iaddn (p := 64) (by decide +kernel) ?_
          refine hs_iret (by decide +kernel) ?_
          have e9 := bpJ_y (nc := nc) (P := (bpP v X Y)) (l := l) (m := m) (by omega) (bpP_y c32 (Decidable.of_not_not c55))
          exact h1 _ e9
theorem fn_bpO (hH : et_H et_TT K G) (k_am : K am = some 13) (k_aw : K aw = some 46) (m1 : et_pl (eg_at G am) 1 = some (.ref aw)) (hn : n < 3) (ho : evo v) (hv : evm G aw n v) (w3 : et_pl (eg_at G aw) 3 = some (.int (Int32.ofNat nc))) (hnc : nc ≤ 20) (hcr : crP G aw nc X Y) (hl : l ≤ nc) : et_go none (d + 5) 263 2 [some (.ref am), some (.int (Int32.ofNat n)), some (.int (Int32.ofNat l)), x3] [] G 0 0 (xp_Z G (some (.int (bpI (bpO nc (bpP v X Y) (nc - l)))))) := by
  induction hq9 : nc - l using Nat.strongRecOn generalizing l x3 with
  | _ q9 ih =>
    rw [← hq9]
    have lt_am := (hH.2.2 _ _ k_am).1
    have lt_aw := (hH.2.2 _ _ k_aw).1
    refine hs_iload (i := 2) (p := 3) (by decide +kernel) rfl ?_
    refine hs_aload (i := 0) (p := 4) (by decide +kernel) rfl ?_
    refine ht_callv (T := et_TT) (t := 13) (mi := 218) (na := 0) (ci := 11) (lk := 4) (lm := 1) (L0 := eg_en (eg_mL 218) [.ref am]) (by decide +kernel) rfl hH k_am rfl rfl rfl rfl rfl (by rw [show eg_mL 218 = 1 from by decide +kernel]; first | done | rfl) ?_
    refine (fm_cards hH k_am k_aw m1 w3).mono (fun u hu => xp_cb hu ?_)
    show et_go none _ 263 7 _ [.int (Int32.ofNat nc), .int (Int32.ofNat l)] _ _ _ _
    refine hs_br2n (c := .ge) (t := 77) (f := 10) (by decide +kernel) (by omega) (by omega) (fun (c7 : nc ≤ l) => ?_) (fun (c7 : ¬ (nc ≤ l)) => ?_)
    · refine hs_k (x := (-1)) (p := 78) (by decide +kernel) ?_
      refine hs_iret (by decide +kernel) ?_
      obtain rfl : l = nc := by omega
      show xp_Z G (some (.int (bpI (bpO l (bpP v X Y) (l - l))))) _
      rw [bpO_z]
      rfl
    · refine hs_iload (i := 2) (p := 11) (by decide +kernel) rfl ?_
      refine hs_k (x := Int32.ofNat 1) (p := 12) (by decide +kernel) ?_
      refine hs_iaddn (p := 13) (by decide +kernel) ?_
      refine hs_istore (i := 3) (p := 14) (by decide +kernel) (Nat.le_of_ble_eq_true rfl) ?_
      refine fn_bpJ (l := l) (m := l + 1) hH k_am k_aw m1 hn ho hv w3 hnc hcr (by omega) (by omega) (fun h9 => ?_) (fun q9 h9 => ?_)
      · refine hs_iinc1 (i := 2) (p := 74) (by decide +kernel) rfl (Nat.le_of_ble_eq_true rfl) ?_
        refine hs_goto (p := 2) (by decide +kernel) ?_
        rw [bpO_n (by omega) h9]
        exact ih (nc - (l + 1)) (by omega) (by omega) rfl
      · show xp_Z G (some (.int (bpI (bpO nc (bpP v X Y) (nc - l))))) _
        rw [bpO_s (by omega) h9]
        rfl
theorem fn_bp (hH : et_H et_TT K G) (k_am : K am = some 13) (k_aw : K aw = some 46) (m1 : et_pl (eg_at G am) 1 = some (.ref aw)) (hn : n < 3) (ho : evo v) (hv : evm G aw n v) (w3 : et_pl (eg_at G aw) 3 = some (.int (Int32.ofNat nc))) (hnc : nc ≤ 20) (hcr : crP G aw nc X Y) (hd : 5 ≤ d2) : et_go none d2 263 0 (eg_en (eg_mL 263) [.ref am, .int (Int32.ofNat n)]) [] G 0 0 (xp_Z G (some (.int (bpV v X Y nc)))) := by
  obtain ⟨d, rfl⟩ : ∃ d, d2 = d + 5 := ⟨d2 - 5, by omega⟩
  rw [show eg_mL 263 = 4 from by decide +kernel]
  show et_go none (d + 5) 263 0 [some (.ref am), some (.int (Int32.ofNat n)), none, none] [] G 0 0 _
  refine hs_k (x := Int32.ofNat 0) (p := 1) (by decide +kernel) ?_
  refine hs_istore (i := 2) (p := 2) (by decide +kernel) (Nat.le_of_ble_eq_true rfl) ?_
  exact fn_bpO (l := 0) hH k_am k_aw m1 hn ho hv w3 hnc hcr (Nat.zero_le _)
end APB
end
