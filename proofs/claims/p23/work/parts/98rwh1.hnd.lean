/-! searches: bound -/
def mnL (a b : Int64) : Int64 := if b < a then b else a
def mxL (a b : Int64) : Int64 := if b < a then a else b
def lwL (S : Nat → Int32) (Y : Nat → Nat) : Nat → Int64
  | 0 => 1073741824
  | n + 1 => if Y n = 1 then mnL (lwL S Y n) (S n).toInt64 else lwL S Y n
def hiL (S : Nat → Int32) (Y : Nat → Nat) : Nat → Int64
  | 0 => -1073741824
  | n + 1 => if Y n = 1 then hiL S Y n else mxL (hiL S Y n) (S n).toInt64
/-- a CARD's VALUES squared, the class's way; the reference's with 1 more -/
def sqN (C : Nat → Int32) (Kd : Nat → Nat) (x : Int32) : Nat → Int32
  | 0 => Int32.ofNat 0
  | m + 1 => sqN C Kd x m + vaI (C m) (Kd m) x * vaI (C m) (Kd m) x
def rqL (V : Nat → Int32) : Nat → Int64
  | 0 => Int64.ofNat 1
  | u + 1 => rqL V u + (V u).toInt64 * (V u).toInt64
def moL (Q : Nat → Int32) : Nat → Int64
  | 0 => Int64.ofNat 0
  | n + 1 => mxL (moL Q n) (Q n + Int32.ofNat 1).toInt64
def moM (R : Nat → Int64) : Nat → Int64
  | 0 => Int64.ofNat 0
  | n + 1 => mxL (moM R n) (R n)
def k2L (T : Nat → Int32) : Nat → Int64
  | 0 => Int64.ofNat 0
  | u + 1 => k2L T u + (T u * T u).toInt64
def k2M (T : Nat → Int32) : Nat → Int64
  | 0 => Int64.ofNat 0
  | u + 1 => k2M T u + (T u).toInt64 * (T u).toInt64
def boX (lw hi mo k2 : Int64) : Int32 := (mo * (4 * k2 + (lw + hi) * (lw + hi)) / ((lw - hi) * (lw - hi))).toInt32
def boE (lw hi mo k2 : Int64) : Int32 := if 0 < lg_cmp (lw - hi) (Int64.ofNat 0) then boX lw hi mo k2 else (-1)
def ycN (Y : Nat → Nat) : Nat → Nat
  | 0 => 0
  | n + 1 => ycN Y n + (if Y n = 1 then 1 else 0)
/-- with KNOBS T -/
def boT (v : evT) (T X : Nat → Int32) (Y : Nat → Nat) (nc : Nat) : Int32 := boE (lwL (seS v T X) Y nc) (hiL (seS v T X) Y nc) (moL (fun c => sqN v.2.1 v.2.2.1 (X c) v.1) nc) (k2L T v.1)
def boV (v : evT) (X : Nat → Int32) (Y : Nat → Nat) (nc k : Nat) (o : Option (Nat × Nat)) : Int32 := if ycN Y nc = 0 ∨ ycN Y nc = nc then (-1) else match o with
  | none => (-1)
  | some q => boT v (kvT k v.1 q.2) X Y nc
theorem i64_e {a b : Int64} (h : a.toInt = b.toInt) : a = b := Int64.toInt_inj.mp h
theorem i64_add {a b : Int64} (h1 : -4611686018427387904 ≤ a.toInt + b.toInt) (h2 : a.toInt + b.toInt ≤ 4611686018427387904) : (a + b).toInt = a.toInt + b.toInt := by
  rw [Int64.toInt_add]
  exact Int.bmod_eq_of_le (by omega) (by omega)
theorem i64_sub {a b : Int64} (h1 : -4611686018427387904 ≤ a.toInt - b.toInt) (h2 : a.toInt - b.toInt ≤ 4611686018427387904) : (a - b).toInt = a.toInt - b.toInt := by
  rw [Int64.toInt_sub]
  exact Int.bmod_eq_of_le (by omega) (by omega)
theorem i64_mul {a b : Int64} (h1 : -4611686018427387904 ≤ a.toInt * b.toInt) (h2 : a.toInt * b.toInt ≤ 4611686018427387904) : (a * b).toInt = a.toInt * b.toInt := by
  rw [Int64.toInt_mul]
  exact Int.bmod_eq_of_le (by omega) (by omega)
theorem mu_63 {a b : Int} (ha : -63 ≤ a ∧ a ≤ 63) (hb : -63 ≤ b ∧ b ≤ 63) : -3969 ≤ a * b ∧ a * b ≤ 3969 := by
  have h : (a * b).natAbs ≤ 63 * 63 := by
    rw [Int.natAbs_mul]
    exact Nat.mul_le_mul (by omega) (by omega)
  omega
theorem mul64 {a b : Int32} (ha : -63 ≤ a.toInt ∧ a.toInt ≤ 63) (hb : -63 ≤ b.toInt ∧ b.toInt ≤ 63) : (a * b).toInt64 = a.toInt64 * b.toInt64 := by
  have h := mu_63 ha hb
  have e : (a * b).toInt = a.toInt * b.toInt := et_mul _ _ (by unfold et_mn; omega) (by unfold et_mx; omega)
  refine i64_e ?_
  rw [bd_i, e, i64_mul (by rw [bd_i, bd_i]; omega) (by rw [bd_i, bd_i]; omega), bd_i, bd_i]
theorem k2_same {T : Nat → Int32} : ∀ u, (∀ m, m < u → -63 ≤ (T m).toInt ∧ (T m).toInt ≤ 63) → k2L T u = k2M T u
  | 0, _ => rfl
  | u + 1, h => by
    show k2L T u + (T u * T u).toInt64 = k2M T u + (T u).toInt64 * (T u).toInt64
    rw [k2_same u (fun m hm => h m (by omega)), mul64 (h u (by omega)) (h u (by omega))]
theorem sq_b {C : Nat → Int32} {Kd : Nat → Nat} {x : Int32} : ∀ m, m ≤ 6 → 0 ≤ (sqN C Kd x m).toInt ∧ (sqN C Kd x m).toInt ≤ 3969 * m ∧ (rqL (fun u => vaI (C u) (Kd u) x) m).toInt = (sqN C Kd x m).toInt + 1
  | 0, _ => ⟨by show (0 : Int) ≤ 0; decide, by show (0 : Int) ≤ 3969 * ((0 : Nat) : Int); decide, rfl⟩
  | m + 1, h => by
    obtain ⟨h1, h2, h3⟩ := sq_b (C := C) (Kd := Kd) (x := x) m (by omega)
    have hv : -63 ≤ (vaI (C m) (Kd m) x).toInt ∧ (vaI (C m) (Kd m) x).toInt ≤ 63 := ⟨Int.le_trans (by decide) vaI_i.1, vaI_i.2⟩
    have hp := mu_63 hv hv
    have hq : 0 ≤ (vaI (C m) (Kd m) x).toInt * (vaI (C m) (Kd m) x).toInt := by
      rcases Int.le_total 0 (vaI (C m) (Kd m) x).toInt with h9 | h9
      · exact Int.mul_nonneg h9 h9
      · exact Int.mul_nonneg_of_nonpos_of_nonpos h9 h9
    have e1 : (vaI (C m) (Kd m) x * vaI (C m) (Kd m) x).toInt = (vaI (C m) (Kd m) x).toInt * (vaI (C m) (Kd m) x).toInt := et_mul _ _ (by unfold et_mn; omega) (by unfold et_mx; omega)
    have e2 : (sqN C Kd x (m + 1)).toInt = (sqN C Kd x m).toInt + (vaI (C m) (Kd m) x).toInt * (vaI (C m) (Kd m) x).toInt := by
      show (sqN C Kd x m + vaI (C m) (Kd m) x * vaI (C m) (Kd m) x).toInt = _
      rw [et_add _ _ (by rw [e1]; unfold et_mn; omega) (by rw [e1]; unfold et_mx; omega), e1]
    have e3 : ((vaI (C m) (Kd m) x).toInt64 * (vaI (C m) (Kd m) x).toInt64).toInt = (vaI (C m) (Kd m) x).toInt * (vaI (C m) (Kd m) x).toInt := by
      rw [i64_mul (by rw [bd_i]; omega) (by rw [bd_i]; omega), bd_i]
    refine ⟨by omega, by omega, ?_⟩
    show (rqL (fun u => vaI (C u) (Kd u) x) m + (vaI (C m) (Kd m) x).toInt64 * (vaI (C m) (Kd m) x).toInt64).toInt = _
    rw [i64_add (by rw [h3, e3]; omega) (by rw [h3, e3]; omega), h3, e3, e2]
    omega
theorem rq_same {C : Nat → Int32} {Kd : Nat → Nat} {x : Int32} {m : Nat} (h : m ≤ 6) : (sqN C Kd x m + Int32.ofNat 1).toInt64 = rqL (fun u => vaI (C u) (Kd u) x) m := by
  obtain ⟨h1, h2, h3⟩ := sq_b (C := C) (Kd := Kd) (x := x) m h
  have o1 : (Int32.ofNat 1).toInt = 1 := rfl
  refine i64_e ?_
  rw [bd_i, h3, et_add _ _ (by rw [o1]; unfold et_mn; omega) (by rw [o1]; unfold et_mx; omega), o1]
theorem mo_same {Q : Nat → Int32} {R : Nat → Int64} : ∀ n, (∀ c, c < n → (Q c + Int32.ofNat 1).toInt64 = R c) → moL Q n = moM R n
  | 0, _ => rfl
  | n + 1, h => by
    show mxL (moL Q n) (Q n + Int32.ofNat 1).toInt64 = mxL (moM R n) (R n)
    rw [mo_same n (fun c hc => h c (by omega)), h n (by omega)]
section ABA
variable {S : Nat → Int32} {Y : Nat → Nat} {n : Nat}
theorem mnL_t {a b : Int64} : (mnL a b).toInt = min a.toInt b.toInt := by
  unfold mnL
  by_cases h : b < a
  · rw [if_pos h]
    have h2 := Int64.lt_iff_toInt_lt.mp h
    omega
  · rw [if_neg h]
    have h2 : ¬ b.toInt < a.toInt := fun h3 => h (Int64.lt_iff_toInt_lt.mpr h3)
    omega
theorem mxL_t {a b : Int64} : (mxL a b).toInt = max a.toInt b.toInt := by
  unfold mxL
  by_cases h : b < a
  · rw [if_pos h]
    have h2 := Int64.lt_iff_toInt_lt.mp h
    omega
  · rw [if_neg h]
    have h2 : ¬ b.toInt < a.toInt := fun h3 => h (Int64.lt_iff_toInt_lt.mpr h3)
    omega
theorem lw_s (hS : ∀ c, c < n → -1134 ≤ (S c).toInt ∧ (S c).toInt ≤ 1134) : ∀ m, m ≤ n → (ycN Y m = 0 ∧ (lwL S Y m).toInt = 1073741824 ∧ lyI S Y m = Int32.ofNat 1000000) ∨ (0 < ycN Y m ∧ lwL S Y m = (lyI S Y m).toInt64 ∧ -1134 ≤ (lyI S Y m).toInt ∧ (lyI S Y m).toInt ≤ 1134)
  | 0, _ => .inl ⟨rfl, rfl, rfl⟩
  | m + 1, h => by
    have ih := lw_s hS m (by omega)
    have hs := hS m (by omega)
    have e1 : lwL S Y (m + 1) = if Y m = 1 then mnL (lwL S Y m) (S m).toInt64 else lwL S Y m := rfl
    have e2 : lyI S Y (m + 1) = if Y m = 1 then mnI (lyI S Y m) (S m) else lyI S Y m := rfl
    have e3 : ycN Y (m + 1) = ycN Y m + (if Y m = 1 then 1 else 0) := rfl
    have n2 : (Int32.ofNat 1000000).toInt = 1000000 := rfl
    rw [e1, e2, e3]
    by_cases hy : Y m = 1
    · rw [if_pos hy, if_pos hy, if_pos hy]
      have b1 := bd_i (S m)
      rcases ih with ⟨h0, h1, h2⟩ | ⟨h0, h1, h2, h3⟩
      · have e4 : mnI (lyI S Y m) (S m) = S m := i32_t (by rw [mnI_t, h2, n2]; omega)
        have e5 : mnL (lwL S Y m) (S m).toInt64 = (S m).toInt64 := i64_e (by rw [mnL_t, h1, b1]; omega)
        rw [e4, e5]
        exact .inr ⟨by omega, rfl, hs⟩
      · have b2 := bd_i (lyI S Y m)
        have b3 := bd_i (mnI (lyI S Y m) (S m))
        refine .inr ⟨by omega, i64_e (by rw [mnL_t, h1, b1, b2, b3, mnI_t]), ?_⟩
        rw [mnI_t]
        omega
    · rw [if_neg hy, if_neg hy, if_neg hy]
      exact ih
theorem yc_le : ∀ m, ycN Y m ≤ m
  | 0 => Nat.le_refl 0
  | m + 1 => by
    have h := yc_le m
    show ycN Y m + (if Y m = 1 then 1 else 0) ≤ m + 1
    split <;> omega
theorem hi_s (hS : ∀ c, c < n → -1134 ≤ (S c).toInt ∧ (S c).toInt ≤ 1134) : ∀ m, m ≤ n → (ycN Y m = m ∧ (hiL S Y m).toInt = -1073741824 ∧ gnI S Y m = (-1000000)) ∨ (ycN Y m < m ∧ hiL S Y m = (gnI S Y m).toInt64 ∧ -1134 ≤ (gnI S Y m).toInt ∧ (gnI S Y m).toInt ≤ 1134)
  | 0, _ => .inl ⟨rfl, rfl, rfl⟩
  | m + 1, h => by
    have ih := hi_s hS m (by omega)
    have hs := hS m (by omega)
    have hl := yc_le (Y := Y) m
    have e1 : hiL S Y (m + 1) = if Y m = 1 then hiL S Y m else mxL (hiL S Y m) (S m).toInt64 := rfl
    have e2 : gnI S Y (m + 1) = if Y m = 1 then gnI S Y m else mxI (gnI S Y m) (S m) := rfl
    have e3 : ycN Y (m + 1) = ycN Y m + (if Y m = 1 then 1 else 0) := rfl
    have n2 : (-1000000 : Int32).toInt = -1000000 := rfl
    rw [e1, e2, e3]
    by_cases hy : Y m = 1
    · rw [if_pos hy, if_pos hy, if_pos hy]
      rcases ih with ⟨h0, h1, h2⟩ | ⟨h0, h1, h2, h3⟩
      · exact .inl ⟨by omega, h1, h2⟩
      · exact .inr ⟨by omega, h1, h2, h3⟩
    · rw [if_neg hy, if_neg hy, if_neg hy]
      have b1 := bd_i (S m)
      rcases ih with ⟨h0, h1, h2⟩ | ⟨h0, h1, h2, h3⟩
      · have e4 : mxI (gnI S Y m) (S m) = S m := i32_t (by rw [mxI_t, h2, n2]; omega)
        have e5 : mxL (hiL S Y m) (S m).toInt64 = (S m).toInt64 := i64_e (by rw [mxL_t, h1, b1]; omega)
        rw [e4, e5]
        exact .inr ⟨by omega, rfl, hs⟩
      · have b2 := bd_i (gnI S Y m)
        have b3 := bd_i (mxI (gnI S Y m) (S m))
        refine .inr ⟨by omega, i64_e (by rw [mxL_t, h1, b1, b2, b3, mxI_t]), ?_⟩
        rw [mxI_t]
        omega
end ABA
/-- bounds of what the class compares -/
theorem lw_bd {S : Nat → Int32} {Y : Nat → Nat} : ∀ n, bd_lo (lwL S Y n)
  | 0 => ⟨by show -2147483648 ≤ (1073741824 : Int64).toInt; decide, by show (1073741824 : Int64).toInt ≤ 1073741824; decide⟩
  | n + 1 => by
    show bd_lo (if Y n = 1 then mnL (lwL S Y n) (S n).toInt64 else lwL S Y n)
    split
    · exact bd_min (lw_bd n)
    · exact lw_bd n
theorem hi_bd {S : Nat → Int32} {Y : Nat → Nat} : ∀ n, bd_hi (hiL S Y n)
  | 0 => ⟨by show -1073741824 ≤ (-1073741824 : Int64).toInt; decide, by show (-1073741824 : Int64).toInt ≤ 2147483647; decide⟩
  | n + 1 => by
    show bd_hi (if Y n = 1 then hiL S Y n else mxL (hiL S Y n) (S n).toInt64)
    split
    · exact hi_bd n
    · exact bd_max (hi_bd n)
section ABB
variable {K : et_K} {G : eg_G} {d d2 th s0 ya ec se tA tR tS td be sy e ca ki kn la ly nc n k out m c b u : Nat} {v : evT} {X : Nat → Int32} {Y : Nat → Nat} {x y z x6 x7 : Int32} {V : Nat → evT} {s1 yb : Nat} {O : Nat → Nat} {A : Nat → Nat → Nat} {x3 : Option Value} {T : Nat → Int32} {x9 x10 x11 x12 x13 x4 : Option Value}
theorem fd_ycL (hH : et_H et_TT K G) (k_s0 : K s0 = some 10) (g2 : et_pl (eg_at G s0) 2 = some (.int (Int32.ofNat nc))) (hnc : nc ≤ 20) (hcc : ccP G s0 la ly nc X Y) (k_la : K la = some 17) (k_ly : K ly = some 27) (hc : c ≤ nc) : et_go none d2 105 4 [some (.ref s0), some (.int (Int32.ofNat (ycN Y c))), some (.int (Int32.ofNat c))] [] G 0 0 (xp_Z G (some (.int (Int32.ofNat (ycN Y nc))))) := by
  induction hq9 : nc - c using Nat.strongRecOn generalizing c with
  | _ q9 ih =>
    have hy1 : c < nc → Y c ≤ 1 := fun h9 => (hcc.2 c h9).2.2
    have hyc := yc_le (Y := Y) c
    refine hs_iload (i := 2) (p := 5) (by decide +kernel) rfl ?_
    refine hs_aload (i := 0) (p := 6) (by decide +kernel) rfl ?_
    refine hf_get (T := et_TT) (t := 10) (ci := 8) (f := 2) (p := 9) (by decide +kernel) rfl hH k_s0 g2 ?_
    refine hs_br2n (c := .ge) (t := 30) (f := 12) (by decide +kernel) (by omega) (by omega) (fun (c9 : nc ≤ c) => ?_) (fun (c9 : ¬ (nc ≤ c)) => ?_)
    · refine hs_iload (i := 1) (p := 31) (by decide +kernel) rfl ?_
      refine hs_iret (by decide +kernel) ?_
      obtain rfl : c = nc := by omega
      rfl
    · refine hs_aload (i := 0) (p := 13) (by decide +kernel) rfl ?_
      refine hf_get (T := et_TT) (t := 10) (ci := 8) (f := 4) (p := 16) (by decide +kernel) rfl hH k_s0 hcc.1.2 ?_
      refine hs_iload (i := 2) (p := 17) (by decide +kernel) rfl ?_
      refine hf_ald (ins := .baload) (T := et_TT) (t := 27) (kd := 3) (N := 20) (p := 18) (by decide +kernel) (fun _ _ _ _ _ _ _ _ _ _ => rfl) rfl rfl rfl hH k_ly (by decide) (hcc.2 c (by omega)).2.1 ?_
      refine hs_br1 (c := .eq) (t := 24) (f := 21) (by decide +kernel) (fun (c18 : Int32.ofNat (Y c) = 0) => ?_) (fun (c18 : ¬ (Int32.ofNat (Y c) = 0)) => ?_)
      · refine hs_iinc1 (i := 2) (p := 27) (by decide +kernel) rfl (Nat.le_of_ble_eq_true rfl) ?_
        refine hs_goto (p := 4) (by decide +kernel) ?_
        have hy9 : ¬ Y c = 1 := fun h9 => by rw [h9] at c18; exact absurd c18 (by decide)
        have e9 : ycN Y (c + 1) = ycN Y c := by
          show ycN Y c + (if Y c = 1 then 1 else 0) = _
          rw [if_neg hy9]
          rfl
        have hr := ih (nc - (c + 1)) (by omega) (c := c + 1) (by omega) rfl
        rw [e9] at hr
        exact hr
      · refine hs_iinc1 (i := 1) (p := 24) (by decide +kernel) rfl (Nat.le_of_ble_eq_true rfl) ?_
        refine hs_iinc1 (i := 2) (p := 27) (by decide +kernel) rfl (Nat.le_of_ble_eq_true rfl) ?_
        refine hs_goto (p := 4) (by decide +kernel) ?_
        have hy9 : Y c = 1 := by
          have h9 := hy1 (by omega)
          by_cases e9 : Y c = 0
          · rw [e9] at c18; exact absurd rfl c18
          · omega
        have e9 : ycN Y (c + 1) = ycN Y c + 1 := by
          show ycN Y c + (if Y c = 1 then 1 else 0) = _
          rw [if_pos hy9]
        have hr := ih (nc - (c + 1)) (by omega) (c := c + 1) (by omega) rfl
        rw [e9] at hr
        exact hr
theorem fd_yc (hH : et_H et_TT K G) (k_s0 : K s0 = some 10) (g2 : et_pl (eg_at G s0) 2 = some (.int (Int32.ofNat nc))) (hnc : nc ≤ 20) (hcc : ccP G s0 la ly nc X Y) (k_la : K la = some 17) (k_ly : K ly = some 27) : et_go none d2 105 0 (eg_en (eg_mL 105) [.ref s0]) [] G 0 0 (xp_Z G (some (.int (Int32.ofNat (ycN Y nc))))) := by
  rw [show eg_mL 105 = 3 from by decide +kernel]
  show et_go none d2 105 0 [some (.ref s0), none, none] [] G 0 0 _
  refine hs_k (x := Int32.ofNat 0) (p := 1) (by decide +kernel) ?_
  refine hs_istore (i := 1) (p := 2) (by decide +kernel) (Nat.le_of_ble_eq_true rfl) ?_
  refine hs_k (x := Int32.ofNat 0) (p := 3) (by decide +kernel) ?_
  refine hs_istore (i := 2) (p := 4) (by decide +kernel) (Nat.le_of_ble_eq_true rfl) ?_
  exact fd_ycL (c := 0) hH k_s0 g2 hnc hcc k_la k_ly (Nat.zero_le _)
theorem fd_vsqL (hH : et_H et_TT K G) (t9 : evK K e ca ki kn v.1 v.2.2.1) (hv : evc G e ca ki kn v) (hm : m ≤ v.1) : et_go none (d + 2) 48 4 [some (.ref e), some (.int x), some (.int (sqN v.2.1 v.2.2.1 x m)), some (.int (Int32.ofNat m)), x4] [] G 0 0 (xp_Z G (some (.int (sqN v.2.1 v.2.2.1 x v.1)))) := by
  obtain ⟨⟨k_e, k_ca, k_ki, k_kn⟩, hw, hkd⟩ := t9
  obtain ⟨⟨h0, h1, h2, h3⟩, hN, hC, -⟩ := hv
  induction hz : v.1 - m using Nat.strongRecOn generalizing m x4 with
  | _ z ih =>
    have lt_e := (hH.2.2 _ _ k_e).1
    have lt_ca := (hH.2.2 _ _ k_ca).1
    have lt_ki := (hH.2.2 _ _ k_ki).1
    refine hs_iload (i := 3) (p := 5) (by decide +kernel) rfl ?_
    refine hs_aload (i := 0) (p := 6) (by decide +kernel) rfl ?_
    refine hf_get (T := et_TT) (t := 3) (ci := 1) (f := 0) (p := 9) (by decide +kernel) rfl hH k_e h0 ?_
    refine hs_br2n (c := .ge) (t := 34) (f := 12) (by decide +kernel) (by omega) (by omega) (fun (c9 : v.1 ≤ m) => ?_) (fun (c9 : ¬ (v.1 ≤ m)) => ?_)
    · refine hs_iload (i := 2) (p := 35) (by decide +kernel) rfl ?_
      refine hs_iret (by decide +kernel) ?_
      obtain rfl : m = v.1 := by omega
      rfl
    · refine hs_aload (i := 0) (p := 13) (by decide +kernel) rfl ?_
      refine hs_iload (i := 3) (p := 14) (by decide +kernel) rfl ?_
      refine hs_iload (i := 1) (p := 15) (by decide +kernel) rfl ?_
      refine ht_callv (T := et_TT) (t := 3) (mi := 34) (na := 2) (ci := 1) (lk := 5) (lm := 4) (L0 := eg_en (eg_mL 34) [.ref e, .int (Int32.ofNat m), .int x]) (by decide +kernel) rfl hH k_e rfl rfl rfl rfl rfl (by rw [show eg_mL 34 = 4 from by decide +kernel]; first | done | rfl) ?_
      refine (fd_val hH k_e k_ca k_ki h0 h1 h2 hw (by omega) (hC m (by omega)).1 (hC m (by omega)).2 (hkd m (by omega)) (by omega)).mono (fun u hu => xp_cb hu ?_)
      show et_go none _ 48 18 _ [.int (vaI (v.2.1 m) (v.2.2.1 m) x)] _ _ _ _
      refine hs_istore (i := 4) (p := 20) (by decide +kernel) (Nat.le_of_ble_eq_true rfl) ?_
      refine hs_iload (i := 2) (p := 21) (by decide +kernel) rfl ?_
      refine hs_iload (i := 4) (p := 23) (by decide +kernel) rfl ?_
      refine hs_iload (i := 4) (p := 25) (by decide +kernel) rfl ?_
      refine hs_imul (p := 26) (by decide +kernel) ?_
      refine hs_iadd (p := 27) (by decide +kernel) ?_
      refine hs_istore (i := 2) (p := 28) (by decide +kernel) (Nat.le_of_ble_eq_true rfl) ?_
      refine hs_iinc1 (i := 3) (p := 31) (by decide +kernel) rfl (Nat.le_of_ble_eq_true rfl) ?_
      refine hs_goto (p := 4) (by decide +kernel) ?_
      show et_go none (d + 2) 48 4 [some (.ref e), some (.int x), some (.int (sqN v.2.1 v.2.2.1 x (m + 1))), some (.int (Int32.ofNat (m + 1))), some (.int (vaI (v.2.1 m) (v.2.2.1 m) x))] [] _ _ _ _
      exact ih (v.1 - (m + 1)) (by omega) (by omega) rfl
theorem fd_vsq (hH : et_H et_TT K G) (t9 : evK K e ca ki kn v.1 v.2.2.1) (hv : evc G e ca ki kn v) (hd : 2 ≤ d2) : et_go none d2 48 0 (eg_en (eg_mL 48) [.ref e, .int x]) [] G 0 0 (xp_Z G (some (.int (sqN v.2.1 v.2.2.1 x v.1)))) := by
  obtain ⟨d, rfl⟩ : ∃ d, d2 = d + 2 := ⟨d2 - 2, by omega⟩
  rw [show eg_mL 48 = 5 from by decide +kernel]
  show et_go none (d + 2) 48 0 [some (.ref e), some (.int x), none, none, none] [] G 0 0 _
  refine hs_k (x := Int32.ofNat 0) (p := 1) (by decide +kernel) ?_
  refine hs_istore (i := 2) (p := 2) (by decide +kernel) (Nat.le_of_ble_eq_true rfl) ?_
  refine hs_k (x := Int32.ofNat 0) (p := 3) (by decide +kernel) ?_
  refine hs_istore (i := 3) (p := 4) (by decide +kernel) (Nat.le_of_ble_eq_true rfl) ?_
  exact fd_vsqL (m := 0) hH t9 hv (Nat.zero_le _)
theorem fd_boL2 (hH : et_H et_TT K G) (t9 : evK K e ca ki kn v.1 v.2.2.1) (kb : baK K th s0 la ly) (t : seT K se tA tR tS td be sy) (hba : baI G th se tA tR tS td be sy e ca ki kn s0 la ly nc v X Y) (hnc : nc ≤ 20) (rB : ∀ u, u < v.1 → et_pl (eg_at G be) u = some (.int (T u))) (hu : u ≤ v.1) : et_go none (d + 3) 156 120 [some (.ref th), some (.ref e), some (.long (lwL (seS v T X) Y nc)), none, some (.long (hiL (seS v T X) Y nc)), none, some (.long (moL (fun c => sqN v.2.1 v.2.2.1 (X c) v.1) nc)), none, some (.long (k2L T u)), none, some (.int (Int32.ofNat u)), x11, x12, x13] [] G 0 0 (xp_Z G (some (.int (boT v T X Y nc)))) := by
  induction hq9 : v.1 - u using Nat.strongRecOn generalizing u with
  | _ q9 ih =>
    have k_se := t.1.1
    have k_tA := t.1.2.1
    have k_tR := t.1.2.2.1
    have k_tS := t.1.2.2.2.1
    have k_td := t.1.2.2.2.2.1
    have k_be := t.1.2.2.2.2.2.1
    have k_sy := t.1.2.2.2.2.2.2
    have k_th := kb.1
    have k_s0 := kb.2.1
    have k_la := kb.2.2.1
    have k_ly := kb.2.2.2
    have h0 := hba.1.1
    have q5e := hba.1.2
    have hsR := hba.2.1
    have hv := hba.2.2.1
    have g2 := hba.2.2.2.1
    have hcc := hba.2.2.2.2
    have k_e := t9.1.1
    have hv0 := hv.1.1
    have hw6 := t9.2.1
    refine hs_iload (i := 10) (p := 122) (by decide +kernel) rfl ?_
    refine hs_aload (i := 1) (p := 123) (by decide +kernel) rfl ?_
    refine hf_get (T := et_TT) (t := 3) (ci := 1) (f := 0) (p := 126) (by decide +kernel) rfl hH k_e hv0 ?_
    refine hs_br2n (c := .ge) (t := 162) (f := 129) (by decide +kernel) (by omega) (by omega) (fun (c126 : v.1 ≤ u) => ?_) (fun (c126 : ¬ (v.1 ≤ u)) => ?_)
    · refine hs_lload (i := 2) (p := 163) (by decide +kernel) rfl ?_
      refine hs_lload (i := 4) (p := 165) (by decide +kernel) rfl ?_
      refine hs_lsub (p := 166) (by decide +kernel) ?_
      refine hs_lstore (i := 10) (p := 168) (by decide +kernel) (Nat.le_of_ble_eq_true rfl) ?_
      refine hs_lload (i := 2) (p := 169) (by decide +kernel) rfl ?_
      refine hs_lload (i := 4) (p := 171) (by decide +kernel) rfl ?_
      refine hs_ladd (p := 172) (by decide +kernel) ?_
      refine hs_lstore (i := 12) (p := 174) (by decide +kernel) (Nat.le_of_ble_eq_true rfl) ?_
      refine hs_lload (i := 10) (p := 176) (by decide +kernel) rfl ?_
      refine hs_lcon (x := Int64.ofNat 0) (p := 177) (by decide +kernel) ?_
      refine hs_lcmp (p := 178) (by decide +kernel) ?_
      refine hs_br1 (c := .gt) (t := 183) (f := 181) (by decide +kernel) (fun (c178 : 0 < (lg_cmp ((lwL (seS v T X) Y nc) - (hiL (seS v T X) Y nc)) (Int64.ofNat 0))) => ?_) (fun (c178 : ¬ (0 < (lg_cmp ((lwL (seS v T X) Y nc) - (hiL (seS v T X) Y nc)) (Int64.ofNat 0)))) => ?_)
      · have hdiv := bd_d (lw_bd (S := (seS v T X)) (Y := Y) nc) (hi_bd (S := (seS v T X)) (Y := Y) nc) c178
        refine hs_lload (i := 6) (p := 185) (by decide +kernel) rfl ?_
        refine hs_lcon (x := 4) (p := 188) (by decide +kernel) ?_
        refine hs_lload (i := 8) (p := 190) (by decide +kernel) rfl ?_
        refine hs_lmul (p := 191) (by decide +kernel) ?_
        refine hs_lload (i := 12) (p := 193) (by decide +kernel) rfl ?_
        refine hs_lload (i := 12) (p := 195) (by decide +kernel) rfl ?_
        refine hs_lmul (p := 196) (by decide +kernel) ?_
        refine hs_ladd (p := 197) (by decide +kernel) ?_
        refine hs_lmul (p := 198) (by decide +kernel) ?_
        refine hs_lload (i := 10) (p := 200) (by decide +kernel) rfl ?_
        refine hs_lload (i := 10) (p := 202) (by decide +kernel) rfl ?_
        refine hs_lmul (p := 203) (by decide +kernel) ?_
        refine hs_ldiv (p := 204) (by decide +kernel) hdiv ?_
        refine hs_l2i (p := 205) (by decide +kernel) ?_
        refine hs_iret (by decide +kernel) ?_
        obtain rfl : u = v.1 := by omega
        show xp_Z G (some (.int (boT v T X Y nc))) _
        rw [show (boT v T X Y nc) = boX (lwL (seS v T X) Y nc) (hiL (seS v T X) Y nc) (moL (fun c => sqN v.2.1 v.2.2.1 (X c) v.1) nc) (k2L T v.1) from if_pos c178]
        rfl
      · refine hs_k (x := (-1)) (p := 182) (by decide +kernel) ?_
        refine hs_iret (by decide +kernel) ?_
        obtain rfl : u = v.1 := by omega
        show xp_Z G (some (.int (boT v T X Y nc))) _
        rw [show (boT v T X Y nc) = (-1) from if_neg c178]
        rfl
    · refine hs_lload (i := 8) (p := 131) (by decide +kernel) rfl ?_
      refine hs_aload (i := 0) (p := 132) (by decide +kernel) rfl ?_
      refine hf_get (T := et_TT) (t := 12) (ci := 10) (f := 5) (p := 135) (by decide +kernel) rfl hH k_th q5e ?_
      refine hf_get (T := et_TT) (t := 9) (ci := 7) (f := 14) (p := 138) (by decide +kernel) rfl hH k_se hsR.1.2.2.2.2.1 ?_
      refine hs_iload (i := 10) (p := 140) (by decide +kernel) rfl ?_
      refine hf_ald (ins := .iaload) (T := et_TT) (t := 51) (kd := 0) (N := 6) (p := 141) (by decide +kernel) (fun _ _ _ _ _ _ _ _ _ _ => rfl) rfl rfl rfl hH k_be (by decide) (rB u (by omega)) ?_
      refine hs_aload (i := 0) (p := 142) (by decide +kernel) rfl ?_
      refine hf_get (T := et_TT) (t := 12) (ci := 10) (f := 5) (p := 145) (by decide +kernel) rfl hH k_th q5e ?_
      refine hf_get (T := et_TT) (t := 9) (ci := 7) (f := 14) (p := 148) (by decide +kernel) rfl hH k_se hsR.1.2.2.2.2.1 ?_
      refine hs_iload (i := 10) (p := 150) (by decide +kernel) rfl ?_
      refine hf_ald (ins := .iaload) (T := et_TT) (t := 51) (kd := 0) (N := 6) (p := 151) (by decide +kernel) (fun _ _ _ _ _ _ _ _ _ _ => rfl) rfl rfl rfl hH k_be (by decide) (rB u (by omega)) ?_
      refine hs_imul (p := 152) (by decide +kernel) ?_
      refine hs_i2l (p := 153) (by decide +kernel) ?_
      refine hs_ladd (p := 154) (by decide +kernel) ?_
      refine hs_lstore (i := 8) (p := 156) (by decide +kernel) (Nat.le_of_ble_eq_true rfl) ?_
      refine hs_iinc1 (i := 10) (p := 159) (by decide +kernel) rfl (Nat.le_of_ble_eq_true rfl) ?_
      refine hs_goto (p := 120) (by decide +kernel) ?_
      exact ih (v.1 - (u + 1)) (by omega) (u := u + 1) (by omega) rfl
theorem fd_boL1 (hH : et_H et_TT K G) (t9 : evK K e ca ki kn v.1 v.2.2.1) (kb : baK K th s0 la ly) (t : seT K se tA tR tS td be sy) (hba : baI G th se tA tR tS td be sy e ca ki kn s0 la ly nc v X Y) (hnc : nc ≤ 20) (rB : ∀ u, u < v.1 → et_pl (eg_at G be) u = some (.int (T u))) (hc : c ≤ nc) : et_go none (d + 3) 156 15 [some (.ref th), some (.ref e), some (.long (lwL (seS v T X) Y c)), none, some (.long (hiL (seS v T X) Y c)), none, some (.long (moL (fun c => sqN v.2.1 v.2.2.1 (X c) v.1) c)), none, some (.int (Int32.ofNat c)), x9, x10, x11, x12, x13] [] G 0 0 (xp_Z G (some (.int (boT v T X Y nc)))) := by
  induction hq9 : nc - c using Nat.strongRecOn generalizing c x9 with
  | _ q9 ih =>
    have k_se := t.1.1
    have k_tA := t.1.2.1
    have k_tR := t.1.2.2.1
    have k_tS := t.1.2.2.2.1
    have k_td := t.1.2.2.2.2.1
    have k_be := t.1.2.2.2.2.2.1
    have k_sy := t.1.2.2.2.2.2.2
    have k_th := kb.1
    have k_s0 := kb.2.1
    have k_la := kb.2.2.1
    have k_ly := kb.2.2.2
    have h0 := hba.1.1
    have q5e := hba.1.2
    have hsR := hba.2.1
    have hv := hba.2.2.1
    have g2 := hba.2.2.2.1
    have hcc := hba.2.2.2.2
    have k_e := t9.1.1
    have hv0 := hv.1.1
    have hw6 := t9.2.1
    have hy1 : c < nc → Y c ≤ 1 := fun h9 => (hcc.2 c h9).2.2
    refine hs_iload (i := 8) (p := 17) (by decide +kernel) rfl ?_
    refine hs_aload (i := 0) (p := 18) (by decide +kernel) rfl ?_
    refine hf_get (T := et_TT) (t := 12) (ci := 10) (f := 0) (p := 21) (by decide +kernel) rfl hH k_th h0 ?_
    refine hf_get (T := et_TT) (t := 10) (ci := 8) (f := 2) (p := 24) (by decide +kernel) rfl hH k_s0 g2 ?_
    refine hs_br2n (c := .ge) (t := 114) (f := 27) (by decide +kernel) (by omega) (by omega) (fun (c24 : nc ≤ c) => ?_) (fun (c24 : ¬ (nc ≤ c)) => ?_)
    · refine hs_lcon (x := Int64.ofNat 0) (p := 115) (by decide +kernel) ?_
      refine hs_lstore (i := 8) (p := 117) (by decide +kernel) (Nat.le_of_ble_eq_true rfl) ?_
      refine hs_k (x := Int32.ofNat 0) (p := 118) (by decide +kernel) ?_
      refine hs_istore (i := 10) (p := 120) (by decide +kernel) (Nat.le_of_ble_eq_true rfl) ?_
      obtain rfl : c = nc := by omega
      exact fd_boL2 (u := 0) hH t9 kb t hba hnc rB (Nat.zero_le _)
    · refine hs_aload (i := 1) (p := 28) (by decide +kernel) rfl ?_
      refine hs_aload (i := 0) (p := 29) (by decide +kernel) rfl ?_
      refine hf_get (T := et_TT) (t := 12) (ci := 10) (f := 5) (p := 32) (by decide +kernel) rfl hH k_th q5e ?_
      refine hf_get (T := et_TT) (t := 9) (ci := 7) (f := 14) (p := 35) (by decide +kernel) rfl hH k_se hsR.1.2.2.2.2.1 ?_
      refine hs_aload (i := 0) (p := 36) (by decide +kernel) rfl ?_
      refine hf_get (T := et_TT) (t := 12) (ci := 10) (f := 0) (p := 39) (by decide +kernel) rfl hH k_th h0 ?_
      refine hf_get (T := et_TT) (t := 10) (ci := 8) (f := 3) (p := 42) (by decide +kernel) rfl hH k_s0 hcc.1.1 ?_
      refine hs_iload (i := 8) (p := 44) (by decide +kernel) rfl ?_
      refine hf_ald (ins := .iaload) (T := et_TT) (t := 17) (kd := 0) (N := 20) (p := 45) (by decide +kernel) (fun _ _ _ _ _ _ _ _ _ _ => rfl) rfl rfl rfl hH k_la (by decide) (hcc.2 c (by omega)).1 ?_
      refine ht_callv (T := et_TT) (t := 3) (mi := 33) (na := 2) (ci := 1) (lk := 14) (lm := 5) (L0 := eg_en (eg_mL 33) [.ref e, .ref be, .int (X c)]) (by decide +kernel) rfl hH k_e rfl rfl rfl rfl rfl (by rw [show eg_mL 33 = 5 from by decide +kernel]; first | done | rfl) ?_
      refine (fd_sumB (T := T) (x := X c) hH t9 hv k_be rB (by omega)).mono (fun u hu => xp_cb hu ?_)
      show et_go none _ 156 48 _ [.int (seS v T X c)] _ _ _ _
      refine hs_istore (i := 9) (p := 50) (by decide +kernel) (Nat.le_of_ble_eq_true rfl) ?_
      refine hs_aload (i := 0) (p := 51) (by decide +kernel) rfl ?_
      refine hf_get (T := et_TT) (t := 12) (ci := 10) (f := 0) (p := 54) (by decide +kernel) rfl hH k_th h0 ?_
      refine hf_get (T := et_TT) (t := 10) (ci := 8) (f := 4) (p := 57) (by decide +kernel) rfl hH k_s0 hcc.1.2 ?_
      refine hs_iload (i := 8) (p := 59) (by decide +kernel) rfl ?_
      refine hf_ald (ins := .baload) (T := et_TT) (t := 27) (kd := 3) (N := 20) (p := 60) (by decide +kernel) (fun _ _ _ _ _ _ _ _ _ _ => rfl) rfl rfl rfl hH k_ly (by decide) (hcc.2 c (by omega)).2.1 ?_
      refine hs_br1 (c := .eq) (t := 74) (f := 63) (by decide +kernel) (fun (c60 : Int32.ofNat (Y c) = 0) => ?_) (fun (c60 : ¬ (Int32.ofNat (Y c) = 0)) => ?_)
      · refine hs_lload (i := 4) (p := 76) (by decide +kernel) rfl ?_
        refine hs_iload (i := 9) (p := 78) (by decide +kernel) rfl ?_
        refine hs_i2l (p := 79) (by decide +kernel) ?_
        refine hs_math (mi := 313) (lk := 14) (p := 82) (by decide +kernel) rfl rfl rfl rfl ?_
        rw [show (if ((seS v T X c)).toInt64 < (hiL (seS v T X) Y c) then (hiL (seS v T X) Y c) else ((seS v T X c)).toInt64) = (mxL (hiL (seS v T X) Y c) (((seS v T X c)).toInt64)) from rfl]
        refine hs_lstore (i := 4) (p := 84) (by decide +kernel) (Nat.le_of_ble_eq_true rfl) ?_
        refine hs_lload (i := 6) (p := 86) (by decide +kernel) rfl ?_
        refine hs_aload (i := 1) (p := 87) (by decide +kernel) rfl ?_
        refine hs_aload (i := 0) (p := 88) (by decide +kernel) rfl ?_
        refine hf_get (T := et_TT) (t := 12) (ci := 10) (f := 0) (p := 91) (by decide +kernel) rfl hH k_th h0 ?_
        refine hf_get (T := et_TT) (t := 10) (ci := 8) (f := 3) (p := 94) (by decide +kernel) rfl hH k_s0 hcc.1.1 ?_
        refine hs_iload (i := 8) (p := 96) (by decide +kernel) rfl ?_
        refine hf_ald (ins := .iaload) (T := et_TT) (t := 17) (kd := 0) (N := 20) (p := 97) (by decide +kernel) (fun _ _ _ _ _ _ _ _ _ _ => rfl) rfl rfl rfl hH k_la (by decide) (hcc.2 c (by omega)).1 ?_
        refine ht_callv (T := et_TT) (t := 3) (mi := 48) (na := 1) (ci := 1) (lk := 14) (lm := 5) (L0 := eg_en (eg_mL 48) [.ref e, .int (X c)]) (by decide +kernel) rfl hH k_e rfl rfl rfl rfl rfl (by rw [show eg_mL 48 = 5 from by decide +kernel]; first | done | rfl) ?_
        refine (fd_vsq (x := X c) hH t9 hv (by omega)).mono (fun u hu => xp_cb hu ?_)
        show et_go none _ 156 100 _ [.int (sqN v.2.1 v.2.2.1 (X c) v.1), .long (moL (fun c => sqN v.2.1 v.2.2.1 (X c) v.1) c)] _ _ _ _
        refine hs_k (x := Int32.ofNat 1) (p := 101) (by decide +kernel) ?_
        refine hs_iadd (p := 102) (by decide +kernel) ?_
        refine hs_i2l (p := 103) (by decide +kernel) ?_
        refine hs_math (mi := 313) (lk := 14) (p := 106) (by decide +kernel) rfl rfl rfl rfl ?_
        rw [show (if (((sqN v.2.1 v.2.2.1 (X c) v.1) + Int32.ofNat 1)).toInt64 < (moL (fun c => sqN v.2.1 v.2.2.1 (X c) v.1) c) then (moL (fun c => sqN v.2.1 v.2.2.1 (X c) v.1) c) else (((sqN v.2.1 v.2.2.1 (X c) v.1) + Int32.ofNat 1)).toInt64) = (mxL (moL (fun c => sqN v.2.1 v.2.2.1 (X c) v.1) c) ((((sqN v.2.1 v.2.2.1 (X c) v.1) + Int32.ofNat 1)).toInt64)) from rfl]
        refine hs_lstore (i := 6) (p := 108) (by decide +kernel) (Nat.le_of_ble_eq_true rfl) ?_
        refine hs_iinc1 (i := 8) (p := 111) (by decide +kernel) rfl (Nat.le_of_ble_eq_true rfl) ?_
        refine hs_goto (p := 15) (by decide +kernel) ?_
        have hy9 : ¬ Y c = 1 := fun h9 => by rw [h9] at c60; exact absurd c60 (by decide)
        have e9 : (lwL (seS v T X) Y (c + 1)) = (lwL (seS v T X) Y c) := if_neg hy9
        have e8 : (hiL (seS v T X) Y (c + 1)) = mxL (hiL (seS v T X) Y c) (seS v T X c).toInt64 := if_neg hy9
        have hr := ih (nc - (c + 1)) (by omega) (c := c + 1) (x9 := some (.int (seS v T X c))) (by omega) rfl
        rw [e9, e8] at hr
        exact hr
      · refine hs_lload (i := 2) (p := 64) (by decide +kernel) rfl ?_
        refine hs_iload (i := 9) (p := 66) (by decide +kernel) rfl ?_
        refine hs_i2l (p := 67) (by decide +kernel) ?_
        refine hs_math (mi := 312) (lk := 14) (p := 70) (by decide +kernel) rfl rfl rfl rfl ?_
        rw [show (if ((seS v T X c)).toInt64 < (lwL (seS v T X) Y c) then ((seS v T X c)).toInt64 else (lwL (seS v T X) Y c)) = (mnL (lwL (seS v T X) Y c) (((seS v T X c)).toInt64)) from rfl]
        refine hs_lstore (i := 2) (p := 71) (by decide +kernel) (Nat.le_of_ble_eq_true rfl) ?_
        refine hs_goto (p := 84) (by decide +kernel) ?_
        refine hs_lload (i := 6) (p := 86) (by decide +kernel) rfl ?_
        refine hs_aload (i := 1) (p := 87) (by decide +kernel) rfl ?_
        refine hs_aload (i := 0) (p := 88) (by decide +kernel) rfl ?_
        refine hf_get (T := et_TT) (t := 12) (ci := 10) (f := 0) (p := 91) (by decide +kernel) rfl hH k_th h0 ?_
        refine hf_get (T := et_TT) (t := 10) (ci := 8) (f := 3) (p := 94) (by decide +kernel) rfl hH k_s0 hcc.1.1 ?_
        refine hs_iload (i := 8) (p := 96) (by decide +kernel) rfl ?_
        refine hf_ald (ins := .iaload) (T := et_TT) (t := 17) (kd := 0) (N := 20) (p := 97) (by decide +kernel) (fun _ _ _ _ _ _ _ _ _ _ => rfl) rfl rfl rfl hH k_la (by decide) (hcc.2 c (by omega)).1 ?_
        refine ht_callv (T := et_TT) (t := 3) (mi := 48) (na := 1) (ci := 1) (lk := 14) (lm := 5) (L0 := eg_en (eg_mL 48) [.ref e, .int (X c)]) (by decide +kernel) rfl hH k_e rfl rfl rfl rfl rfl (by rw [show eg_mL 48 = 5 from by decide +kernel]; first | done | rfl) ?_
        refine (fd_vsq (x := X c) hH t9 hv (by omega)).mono (fun u hu => xp_cb hu ?_)
        show et_go none _ 156 100 _ [.int (sqN v.2.1 v.2.2.1 (X c) v.1), .long (moL (fun c => sqN v.2.1 v.2.2.1 (X c) v.1) c)] _ _ _ _
        refine hs_k (x := Int32.ofNat 1) (p := 101) (by decide +kernel) ?_
        refine hs_iadd (p := 102) (by decide +kernel) ?_
        refine hs_i2l (p := 103) (by decide +kernel) ?_
        refine hs_math (mi := 313) (lk := 14) (p := 106) (by decide +kernel) rfl rfl rfl rfl ?_
        rw [show (if (((sqN v.2.1 v.2.2.1 (X c) v.1) + Int32.ofNat 1)).toInt64 < (moL (fun c => sqN v.2.1 v.2.2.1 (X c) v.1) c) then (moL (fun c => sqN v.2.1 v.2.2.1 (X c) v.1) c) else (((sqN v.2.1 v.2.2.1 (X c) v.1) + Int32.ofNat 1)).toInt64) = (mxL (moL (fun c => sqN v.2.1 v.2.2.1 (X c) v.1) c) ((((sqN v.2.1 v.2.2.1 (X c) v.1) + Int32.ofNat 1)).toInt64)) from rfl]
        refine hs_lstore (i := 6) (p := 108) (by decide +kernel) (Nat.le_of_ble_eq_true rfl) ?_
        refine hs_iinc1 (i := 8) (p := 111) (by decide +kernel) rfl (Nat.le_of_ble_eq_true rfl) ?_
        refine hs_goto (p := 15) (by decide +kernel) ?_
        have hy9 : Y c = 1 := by
          have h9 := hy1 (by omega)
          by_cases e9 : Y c = 0
          · rw [e9] at c60; exact absurd rfl c60
          · omega
        have e9 : (lwL (seS v T X) Y (c + 1)) = mnL (lwL (seS v T X) Y c) (seS v T X c).toInt64 := if_pos hy9
        have e8 : (hiL (seS v T X) Y (c + 1)) = (hiL (seS v T X) Y c) := if_pos hy9
        have hr := ih (nc - (c + 1)) (by omega) (c := c + 1) (x9 := some (.int (seS v T X c))) (by omega) rfl
        rw [e9, e8] at hr
        exact hr
theorem fd_bo (hH : et_H et_TT K G) (t9 : evK K e ca ki kn v.1 v.2.2.1) (kb : baK K th s0 la ly) (t : seT K se tA tR tS td be sy) (hba : baI G th se tA tR tS td be sy e ca ki kn s0 la ly nc v X Y) (hnc : nc ≤ 20) (rB : ∀ u, u < v.1 → et_pl (eg_at G be) u = some (.int (T u))) (hd : 3 ≤ d2) : et_go none d2 156 0 (eg_en (eg_mL 156) [.ref th, .ref e]) [] G 0 0 (xp_Z G (some (.int (boT v T X Y nc)))) := by
  obtain ⟨d, rfl⟩ : ∃ d, d2 = d + 3 := ⟨d2 - 3, by omega⟩
  rw [show eg_mL 156 = 14 from by decide +kernel]
  show et_go none (d + 3) 156 0 [some (.ref th), some (.ref e), none, none, none, none, none, none, none, none, none, none, none, none] [] G 0 0 _
  refine hs_lcon (x := 1073741824) (p := 3) (by decide +kernel) ?_
  refine hs_lstore (i := 2) (p := 4) (by decide +kernel) (Nat.le_of_ble_eq_true rfl) ?_
  refine hs_lcon (x := (-1073741824)) (p := 7) (by decide +kernel) ?_
  refine hs_lstore (i := 4) (p := 9) (by decide +kernel) (Nat.le_of_ble_eq_true rfl) ?_
  refine hs_lcon (x := Int64.ofNat 0) (p := 10) (by decide +kernel) ?_
  refine hs_lstore (i := 6) (p := 12) (by decide +kernel) (Nat.le_of_ble_eq_true rfl) ?_
  refine hs_k (x := Int32.ofNat 0) (p := 13) (by decide +kernel) ?_
  refine hs_istore (i := 8) (p := 15) (by decide +kernel) (Nat.le_of_ble_eq_true rfl) ?_
  exact fd_boL1 (c := 0) hH t9 kb t hba hnc rB (Nat.zero_le _)
theorem fd_bound (hH : et_H et_TT K G) (k_th : K th = some 12) (h0 : et_pl (eg_at G th) 0 = some (.ref s0)) (k_s0 : K s0 = some 10) (h5 : et_pl (eg_at G s0) 5 = some (.int (Int32.ofNat ec))) (hec : ec ≤ 3) (h6 : et_pl (eg_at G s0) 6 = some (.ref ya)) (k_ya : K ya = some 40) (hn : n < ec) (hE : et_pl (eg_at G ya) n = some (.ref e)) (t9 : evK K e ca ki kn v.1 v.2.2.1) (hv : evc G e ca ki kn v) (g2 : et_pl (eg_at G s0) 2 = some (.int (Int32.ofNat nc))) (hnc : nc ≤ 20) (hcc : ccP G s0 la ly nc X Y) (k_la : K la = some 17) (k_ly : K ly = some 27) (t : seT K se tA tR tS td be sy) (hsR : seR G se tA tR tS td be sy) (q5e : et_pl (eg_at G th) 5 = some (.ref se)) (q6 : et_pl (eg_at G th) 6 = some (.int x6)) (q7 : et_pl (eg_at G th) 7 = some (.int x7)) (hhit : x6 = Int32.ofNat n → x7 = Int32.ofNat k → lsQ G se be v.1 k (foA v.1 v.2.1 v.2.2.1 X Y nc k)) (hk1 : 1 ≤ k) (hk : k ≤ 3) (hd : 15 ≤ d2) : et_go none d2 155 0 (eg_en (eg_mL 155) [.ref th, .int (Int32.ofNat n), .int (Int32.ofNat k)]) [] G 0 0 (xw_Z (fun b j => ((b = se ∧ ((4 ≤ j ∧ j ≤ 9) ∨ (13 ≤ j ∧ j ≤ 16 ∧ ¬ j = 14))) ∨ K b = some 45 ∨ b = td ∨ b = be ∨ b = sy) ∨ (b = th ∧ 6 ≤ j ∧ j ≤ 7)) K G (fun g v9 => v9 = some (.int (boV v X Y nc k (foA v.1 v.2.1 v.2.2.1 X Y nc k))) ∧ (fyQ K g th n v.1 k (foA v.1 v.2.1 v.2.2.1 X Y nc k) ∨ g = G))) := by
  obtain ⟨d, rfl⟩ : ∃ d, d2 = d + 15 := ⟨d2 - 15, by omega⟩
  rw [show eg_mL 155 = 5 from by decide +kernel]
  show et_go none (d + 15) 155 0 [some (.ref th), some (.int (Int32.ofNat n)), some (.int (Int32.ofNat k)), none, none] [] G 0 0 _
  have k_se := t.1.1
  have k_tA := t.1.2.1
  have k_tR := t.1.2.2.1
  have k_tS := t.1.2.2.2.1
  have k_td := t.1.2.2.2.2.1
  have k_be := t.1.2.2.2.2.2.1
  have k_sy := t.1.2.2.2.2.2.2
  have k_e := t9.1.1
  have hw6 := t9.2.1
  have hyc := yc_le (Y := Y) nc
  have kb : baK K th s0 la ly := ⟨k_th, k_s0, k_la, k_ly⟩
  have lt_th := (hH.2.2 _ _ k_th).1
  have lt_s0 := (hH.2.2 _ _ k_s0).1
  have lt_ya := (hH.2.2 _ _ k_ya).1
  refine hs_aload (i := 0) (p := 1) (by decide +kernel) rfl ?_
  refine hs_iload (i := 1) (p := 2) (by decide +kernel) rfl ?_
  refine ht_callv (T := et_TT) (t := 12) (mi := 128) (na := 1) (ci := 10) (lk := 5) (lm := 2) (L0 := eg_en (eg_mL 128) [.ref th, .int (Int32.ofNat n)]) (by decide +kernel) rfl hH k_th rfl rfl rfl rfl rfl (by rw [show eg_mL 128 = 2 from by decide +kernel]; first | done | rfl) ?_
  refine (fd_needE hH k_th h0 k_s0 h5 hec h6 k_ya hn hE).mono (fun u hu => xp_cb hu ?_)
  show et_go none _ 155 5 _ [.ref e] _ _ _ _
  refine hs_astore (i := 3) (p := 6) (by decide +kernel) (Nat.le_of_ble_eq_true rfl) ?_
  refine hs_iload (i := 2) (p := 7) (by decide +kernel) rfl ?_
  refine hs_k (x := Int32.ofNat 3) (p := 8) (by decide +kernel) ?_
  refine hs_calls (mi := 150) (na := 2) (lk := 5) (lm := 2) (L0 := eg_en (eg_mL 150) [.int (Int32.ofNat k), .int (Int32.ofNat 3)]) (by decide +kernel) rfl rfl rfl rfl rfl rfl (by rw [show eg_mL 150 = 2 from by decide +kernel]; first | done | rfl) ?_
  refine (fd_nk hk1 hk (by decide)).mono (fun u hu => xp_cb hu ?_)
  show et_go none _ 155 11 _ [] _ _ _ _
  refine hs_aload (i := 0) (p := 12) (by decide +kernel) rfl ?_
  refine hf_get (T := et_TT) (t := 12) (ci := 10) (f := 0) (p := 15) (by decide +kernel) rfl hH k_th h0 ?_
  refine ht_callv (T := et_TT) (t := 10) (mi := 105) (na := 0) (ci := 8) (lk := 5) (lm := 3) (L0 := eg_en (eg_mL 105) [.ref s0]) (by decide +kernel) rfl hH k_s0 rfl rfl rfl rfl rfl (by rw [show eg_mL 105 = 3 from by decide +kernel]; first | done | rfl) ?_
  refine (fd_yc hH k_s0 g2 hnc hcc k_la k_ly).mono (fun u hu => xp_cb hu ?_)
  show et_go none _ 155 18 _ [.int (Int32.ofNat (ycN Y nc))] _ _ _ _
  refine hs_istore (i := 4) (p := 20) (by decide +kernel) (Nat.le_of_ble_eq_true rfl) ?_
  refine hs_iload (i := 4) (p := 22) (by decide +kernel) rfl ?_
  refine hs_br1 (c := .eq) (t := 37) (f := 25) (by decide +kernel) (fun (c22 : Int32.ofNat (ycN Y nc) = 0) => ?_) (fun (c22 : ¬ (Int32.ofNat (ycN Y nc) = 0)) => ?_)
  · refine hs_k (x := (-1)) (p := 38) (by decide +kernel) ?_
    refine hs_iret (by decide +kernel) ?_
    exact ⟨_, _, rfl, hH, xf.rf, congrArg (fun z => some (Value.int z)) (show (-1 : Int32) = (boV v X Y nc k (foA v.1 v.2.1 v.2.2.1 X Y nc k)) from (if_pos (.inl (by have h9 := congrArg Int32.toInt c22; rw [hs_nint (by omega)] at h9; have h8 : (0 : Int32).toInt = 0 := rfl; omega))).symm), .inr rfl⟩
  · refine hs_iload (i := 4) (p := 27) (by decide +kernel) rfl ?_
    refine hs_aload (i := 0) (p := 28) (by decide +kernel) rfl ?_
    refine hf_get (T := et_TT) (t := 12) (ci := 10) (f := 0) (p := 31) (by decide +kernel) rfl hH k_th h0 ?_
    refine hf_get (T := et_TT) (t := 10) (ci := 8) (f := 2) (p := 34) (by decide +kernel) rfl hH k_s0 g2 ?_
    refine hs_br2n (c := .ne) (t := 39) (f := 37) (by decide +kernel) (by omega) (by omega) (fun (c34 : ¬ (ycN Y nc) = nc) => ?_) (fun (c34 : ¬ (¬ (ycN Y nc) = nc)) => ?_)
    · refine hs_aload (i := 0) (p := 40) (by decide +kernel) rfl ?_
      refine hs_iload (i := 1) (p := 41) (by decide +kernel) rfl ?_
      refine hs_iload (i := 2) (p := 42) (by decide +kernel) rfl ?_
      refine ht_callv (T := et_TT) (t := 12) (mi := 151) (na := 2) (ci := 10) (lk := 5) (lm := 3) (L0 := eg_en (eg_mL 151) [.ref th, .int (Int32.ofNat n), .int (Int32.ofNat k)]) (by decide +kernel) rfl hH k_th rfl rfl rfl rfl rfl (by rw [show eg_mL 151 = 3 from by decide +kernel]; first | done | rfl) ?_
      have hHo := hH
      refine (fd_fdL hH k_th h0 k_s0 h5 hec h6 k_ya hn hE t9 hv g2 hnc hcc k_la k_ly t hsR q5e q6 q7 hhit hk (by omega)).mono (fun u9 hu9 => xw_cb hu9 (fun G2 v2 hH2 x2 hP2 => ?_))
      obtain ⟨rfl, hN⟩ := hP2
      have hP9 := hN.1
      have hba : baI G th se tA tR tS td be sy e ca ki kn s0 la ly nc v X Y := ⟨⟨h0, q5e⟩, hsR, hv, g2, hcc⟩
      have hba := hba.xs t t9 ⟨k_th, k_s0, k_la, k_ly⟩ hHo x2 (fun b j u kb q => by
        rcases q with q | ⟨q1, q2⟩
        · exact sl_t t b j u kb q
        · rw [q1, k_th] at kb; cases kb; exact .inr (.inr (.inr (.inr ⟨rfl, by omega⟩))))
      have hH := hH2
      have hsn := hN.1.s13
      have h0 := hba.1.1
      have q5e := hba.1.2
      have hsR := hba.2.1
      have hv := hba.2.2.1
      have g2 := hba.2.2.2.1
      have hcc := hba.2.2.2.2
      have hN : fyQ K G2 th n v.1 k (foA v.1 v.2.1 v.2.2.1 X Y nc k) := ⟨se, be, ⟨k_se, k_be⟩, ⟨q5e, hsR.1.2.2.2.2.1⟩, hN⟩
      show et_go none _ 155 45 _ [] _ _ _ _
      have hq : lsQ G2 se be v.1 k (foA v.1 v.2.1 v.2.2.1 X Y nc k) := hP9
      rcases hoq : (foA v.1 v.2.1 v.2.2.1 X Y nc k) with _ | q
      · rw [hoq] at hq
        obtain ⟨r13, r15⟩ := hq
        show et_go none _ 155 45 _ [] _ _ _ _
        refine hs_aload (i := 0) (p := 46) (by decide +kernel) rfl ?_
        refine hf_get (T := et_TT) (t := 12) (ci := 10) (f := 5) (p := 49) (by decide +kernel) rfl hH k_th q5e ?_
        refine hf_get (T := et_TT) (t := 9) (ci := 7) (f := 13) (p := 52) (by decide +kernel) rfl hH k_se r13 ?_
        refine hs_if0 (c := .ne) (t := 57) (f := 55) (by decide +kernel) (show ¬ (¬ Int32.ofNat 0 = 0) by decide) ?_
        refine hs_k (x := (-1)) (p := 56) (by decide +kernel) ?_
        refine hs_iret (by decide +kernel) ?_
        have hny : ¬ (ycN Y nc = 0 ∨ ycN Y nc = nc) := by
          rintro (h9 | h9)
          · exact c22 (by rw [h9]; rfl)
          · exact c34 h9
        refine ⟨_, _, rfl, hH, x2, ?_, .inl (by rw [← hoq]; exact hN)⟩
        rw [show boV v X Y nc k none = (-1) from if_neg hny]
      · rw [hoq] at hq
        obtain ⟨r13, r15, rB⟩ := hq
        show et_go none _ 155 45 _ [] _ _ _ _
        refine hs_aload (i := 0) (p := 46) (by decide +kernel) rfl ?_
        refine hf_get (T := et_TT) (t := 12) (ci := 10) (f := 5) (p := 49) (by decide +kernel) rfl hH k_th q5e ?_
        refine hf_get (T := et_TT) (t := 9) (ci := 7) (f := 13) (p := 52) (by decide +kernel) rfl hH k_se r13 ?_
        refine hs_if1 (c := .ne) (t := 57) (f := 55) (by decide +kernel) (show ¬ Int32.ofNat 1 = 0 by decide) ?_
        refine hs_aload (i := 0) (p := 58) (by decide +kernel) rfl ?_
        refine hs_aload (i := 3) (p := 59) (by decide +kernel) rfl ?_
        refine ht_callv (T := et_TT) (t := 12) (mi := 156) (na := 1) (ci := 10) (lk := 5) (lm := 14) (L0 := eg_en (eg_mL 156) [.ref th, .ref e]) (by decide +kernel) rfl hH k_th rfl rfl rfl rfl rfl (by rw [show eg_mL 156 = 14 from by decide +kernel]; first | done | rfl) ?_
        refine (fd_bo (T := kvT k v.1 q.2) hH t9 kb t hba hnc rB (by omega)).mono (fun u hu => xp_cb hu ?_)
        show et_go none _ 155 62 _ [.int (boT v (kvT k v.1 q.2) X Y nc)] _ _ _ _
        refine hs_iret (by decide +kernel) ?_
        have hny : ¬ (ycN Y nc = 0 ∨ ycN Y nc = nc) := by
          rintro (h9 | h9)
          · exact c22 (by rw [h9]; rfl)
          · exact c34 h9
        refine ⟨_, _, rfl, hH, x2, ?_, .inl (by rw [← hoq]; exact hN)⟩
        rw [show boV v X Y nc k (some q) = boT v (kvT k v.1 q.2) X Y nc from if_neg hny]
    · refine hs_k (x := (-1)) (p := 38) (by decide +kernel) ?_
      refine hs_iret (by decide +kernel) ?_
      exact ⟨_, _, rfl, hH, xf.rf, congrArg (fun z => some (Value.int z)) (show (-1 : Int32) = (boV v X Y nc k (foA v.1 v.2.1 v.2.2.1 X Y nc k)) from (if_pos (.inr (Decidable.of_not_not c34))).symm), .inr rfl⟩
theorem fd_boundR (hH : et_H et_TT K G) (k_th : K th = some 12) (h0 : et_pl (eg_at G th) 0 = some (.ref s0)) (k_s0 : K s0 = some 10) (h5 : et_pl (eg_at G s0) 5 = some (.int (Int32.ofNat ec))) (hec : ec ≤ 3) (h6 : et_pl (eg_at G s0) 6 = some (.ref ya)) (k_ya : K ya = some 40) (hn : n < ec) (hE : et_pl (eg_at G ya) n = some (.ref e)) (hy : ¬ (1 ≤ y.toInt ∧ y.toInt ≤ 3)) (hd : 5 ≤ d2) : et_go none d2 155 0 (eg_en (eg_mL 155) [.ref th, .int (Int32.ofNat n), .int y]) [] G 0 0 (ix_Z 0 G) := by
  obtain ⟨d, rfl⟩ : ∃ d, d2 = d + 5 := ⟨d2 - 5, by omega⟩
  rw [show eg_mL 155 = 5 from by decide +kernel]
  show et_go none (d + 5) 155 0 [some (.ref th), some (.int (Int32.ofNat n)), some (.int y), none, none] [] G 0 0 _
  have lt_th := (hH.2.2 _ _ k_th).1
  have lt_s0 := (hH.2.2 _ _ k_s0).1
  have lt_ya := (hH.2.2 _ _ k_ya).1
  refine hs_aload (i := 0) (p := 1) (by decide +kernel) rfl ?_
  refine hs_iload (i := 1) (p := 2) (by decide +kernel) rfl ?_
  refine ht_callv (T := et_TT) (t := 12) (mi := 128) (na := 1) (ci := 10) (lk := 5) (lm := 2) (L0 := eg_en (eg_mL 128) [.ref th, .int (Int32.ofNat n)]) (by decide +kernel) rfl hH k_th rfl rfl rfl rfl rfl (by rw [show eg_mL 128 = 2 from by decide +kernel]; first | done | rfl) ?_
  refine (fd_needE hH k_th h0 k_s0 h5 hec h6 k_ya hn hE).mono (fun u hu => xp_cb hu ?_)
  show et_go none _ 155 5 _ [.ref e] _ _ _ _
  refine hs_astore (i := 3) (p := 6) (by decide +kernel) (Nat.le_of_ble_eq_true rfl) ?_
  refine hs_iload (i := 2) (p := 7) (by decide +kernel) rfl ?_
  refine hs_k (x := Int32.ofNat 3) (p := 8) (by decide +kernel) ?_
  refine hs_calls (mi := 150) (na := 2) (lk := 5) (lm := 2) (L0 := eg_en (eg_mL 150) [.int y, .int (Int32.ofNat 3)]) (by decide +kernel) rfl rfl rfl rfl rfl rfl (by rw [show eg_mL 150 = 2 from by decide +kernel]; first | done | rfl) ?_
  refine (fd_nkn (q := 3) (by decide) hy).mono (fun u hu => ?_)
  obtain ⟨c8, s8, rfl⟩ := hu
  refine hf_cx (by decide +kernel) ?_
  exact ⟨_, _, rfl⟩
theorem fd_boundE (hH : et_H et_TT K G) (k_th : K th = some 12) (h0 : et_pl (eg_at G th) 0 = some (.ref s0)) (k_s0 : K s0 = some 10) (h5 : et_pl (eg_at G s0) 5 = some (.int (Int32.ofNat ec))) (hec : ec ≤ 3) (h6 : et_pl (eg_at G s0) 6 = some (.ref ya)) (k_ya : K ya = some 40) (hx : ¬ xr x ec) (hd : 5 ≤ d2) : et_go none d2 155 0 (eg_en (eg_mL 155) [.ref th, .int x, .int y]) [] G 0 0 (ix_Z 1 G) := by
  obtain ⟨d, rfl⟩ : ∃ d, d2 = d + 5 := ⟨d2 - 5, by omega⟩
  rw [show eg_mL 155 = 5 from by decide +kernel]
  show et_go none (d + 5) 155 0 [some (.ref th), some (.int x), some (.int y), none, none] [] G 0 0 _
  have lt_th := (hH.2.2 _ _ k_th).1
  have lt_s0 := (hH.2.2 _ _ k_s0).1
  have lt_ya := (hH.2.2 _ _ k_ya).1
  refine hs_aload (i := 0) (p := 1) (by decide +kernel) rfl ?_
  refine hs_iload (i := 1) (p := 2) (by decide +kernel) rfl ?_
  refine ht_callv (T := et_TT) (t := 12) (mi := 128) (na := 1) (ci := 10) (lk := 5) (lm := 2) (L0 := eg_en (eg_mL 128) [.ref th, .int x]) (by decide +kernel) rfl hH k_th rfl rfl rfl rfl rfl (by rw [show eg_mL 128 = 2 from by decide +kernel]; first | done | rfl) ?_
  refine (fd_needEn hH k_th h0 k_s0 h5 hec h6 k_ya hx).mono (fun u hu => ?_)
  obtain ⟨c2, s2, rfl⟩ := hu
  refine hf_cx (by decide +kernel) ?_
  exact ⟨_, _, rfl⟩
theorem fh_bound (hH : et_H et_TT K G) (k_th : K th = some 12) (h0 : et_pl (eg_at G th) 0 = some (.ref s0)) (k_s0 : K s0 = some 10) (h5 : et_pl (eg_at G s0) 5 = some (.int (Int32.ofNat ec))) (hec : ec ≤ 3) (h6 : et_pl (eg_at G s0) 6 = some (.ref ya)) (k_ya : K ya = some 40) (hn : n < ec) (hE : et_pl (eg_at G ya) n = some (.ref e)) (t9 : evK K e ca ki kn v.1 v.2.2.1) (hv : evc G e ca ki kn v) (g2 : et_pl (eg_at G s0) 2 = some (.int (Int32.ofNat nc))) (hnc : nc ≤ 20) (hcc : ccP G s0 la ly nc X Y) (k_la : K la = some 17) (k_ly : K ly = some 27) (t : seT K se tA tR tS td be sy) (hsR : seR G se tA tR tS td be sy) (q5e : et_pl (eg_at G th) 5 = some (.ref se)) (q6 : et_pl (eg_at G th) 6 = some (.int x6)) (q7 : et_pl (eg_at G th) 7 = some (.int x7)) (hhit : x6 = Int32.ofNat n → x7 = Int32.ofNat k → lsQ G se be v.1 k (foA v.1 v.2.1 v.2.2.1 X Y nc k)) (hk1 : 1 ≤ k) (hk : k ≤ 3) (k_out : K out = some 31) (hd : 16 ≤ d2) : et_go none d2 17 0 (eg_en (eg_mL 17) [.ref th, .int (Int32.ofNat n), .int (Int32.ofNat k), .ref out]) [] G 0 0 (fun u => u.1 = .inl (some (.int (Int32.ofNat 0))) ∧ et_pl (eg_at u.2.1 out) 0 = some (.long (boV v X Y nc k (foA v.1 v.2.1 v.2.2.1 X Y nc k)).toInt64) ∧ (fyQ K u.2.1 th n v.1 k (foA v.1 v.2.1 v.2.2.1 X Y nc k) ∨ xf (fun b _ => b = out) G u.2.1)) := by
  obtain ⟨d, rfl⟩ : ∃ d, d2 = d + 16 := ⟨d2 - 16, by omega⟩
  rw [show eg_mL 17 = 5 from by decide +kernel]
  show et_go none (d + 16) 17 0 [some (.ref th), some (.int (Int32.ofNat n)), some (.int (Int32.ofNat k)), some (.ref out), none] [] G 0 0 _
  have lt_th := (hH.2.2 _ _ k_th).1
  have lt_out := (hH.2.2 _ _ k_out).1
  refine hs_aload (i := 3) (p := 1) (by decide +kernel) rfl ?_
  refine hs_k (x := Int32.ofNat 0) (p := 2) (by decide +kernel) ?_
  refine hs_aload (i := 0) (p := 3) (by decide +kernel) rfl ?_
  refine hs_iload (i := 1) (p := 4) (by decide +kernel) rfl ?_
  refine hs_iload (i := 2) (p := 5) (by decide +kernel) rfl ?_
  refine ht_callv (T := et_TT) (t := 12) (mi := 155) (na := 2) (ci := 10) (lk := 5) (lm := 5) (L0 := eg_en (eg_mL 155) [.ref th, .int (Int32.ofNat n), .int (Int32.ofNat k)]) (by decide +kernel) rfl hH k_th rfl rfl rfl rfl rfl (by rw [show eg_mL 155 = 5 from by decide +kernel]; first | done | rfl) ?_
  refine (fd_bound hH k_th h0 k_s0 h5 hec h6 k_ya hn hE t9 hv g2 hnc hcc k_la k_ly t hsR q5e q6 q7 hhit hk1 hk (by omega)).mono (fun u hu => xw_cb hu (fun G5 v5 hH x5 hP5 => ?_))
  obtain ⟨rfl, hN⟩ := hP5
  have lt_out := Nat.lt_of_lt_of_le lt_out x5.1
  show et_go none _ 17 8 _ [.int (boV v X Y nc k (foA v.1 v.2.1 v.2.2.1 X Y nc k)), .int (Int32.ofNat 0), .ref out] _ _ _ _
  refine hs_i2l (p := 9) (by decide +kernel) ?_
  have hHo := hH
  have hHo := hH
  refine hf_lst (T := et_TT) (t := 31) (N := 1) (p := 10) (by decide +kernel) rfl rfl hH k_out (by omega) (by decide) (fun G9 hH x9 e9 => ?_)
  have hN : (fyQ K G9 th n v.1 k (foA v.1 v.2.1 v.2.2.1 X Y nc k) ∨ xf (fun b _ => b = out) G G9) := hN.elim (fun h => .inl (h.xs k_th hHo x9 (fun b j h => by rw [h.1, k_out]; exact ⟨by decide, by decide, by decide⟩))) (fun h => .inr (by rw [h] at x9; exact x9.wk (fun b j _ h9 => h9.1)))
  refine hs_goto (p := 21) (by decide +kernel) ?_
  refine hs_k (x := Int32.ofNat 0) (p := 22) (by decide +kernel) ?_
  refine hs_iret (by decide +kernel) ?_
  exact ⟨rfl, e9, hN⟩
theorem fh_boundR (hH : et_H et_TT K G) (k_th : K th = some 12) (h0 : et_pl (eg_at G th) 0 = some (.ref s0)) (k_s0 : K s0 = some 10) (h5 : et_pl (eg_at G s0) 5 = some (.int (Int32.ofNat ec))) (hec : ec ≤ 3) (h6 : et_pl (eg_at G s0) 6 = some (.ref ya)) (k_ya : K ya = some 40) (hn : n < ec) (hE : et_pl (eg_at G ya) n = some (.ref e)) (hy : ¬ (1 ≤ y.toInt ∧ y.toInt ≤ 3)) (hd : 6 ≤ d2) : et_go none d2 17 0 (eg_en (eg_mL 17) [.ref th, .int (Int32.ofNat n), .int y, .ref out]) [] G 0 0 (fun u => u.1 = .inl (some (.int (Int32.ofNat 2))) ∧ u.2.1 = G) := by
  obtain ⟨d, rfl⟩ : ∃ d, d2 = d + 6 := ⟨d2 - 6, by omega⟩
  rw [show eg_mL 17 = 5 from by decide +kernel]
  show et_go none (d + 6) 17 0 [some (.ref th), some (.int (Int32.ofNat n)), some (.int y), some (.ref out), none] [] G 0 0 _
  have lt_th := (hH.2.2 _ _ k_th).1
  refine hs_aload (i := 3) (p := 1) (by decide +kernel) rfl ?_
  refine hs_k (x := Int32.ofNat 0) (p := 2) (by decide +kernel) ?_
  refine hs_aload (i := 0) (p := 3) (by decide +kernel) rfl ?_
  refine hs_iload (i := 1) (p := 4) (by decide +kernel) rfl ?_
  refine hs_iload (i := 2) (p := 5) (by decide +kernel) rfl ?_
  refine ht_callv (T := et_TT) (t := 12) (mi := 155) (na := 2) (ci := 10) (lk := 5) (lm := 5) (L0 := eg_en (eg_mL 155) [.ref th, .int (Int32.ofNat n), .int y]) (by decide +kernel) rfl hH k_th rfl rfl rfl rfl rfl (by rw [show eg_mL 155 = 5 from by decide +kernel]; first | done | rfl) ?_
  refine (fd_boundR hH k_th h0 k_s0 h5 hec h6 k_ya hn hE hy (by omega)).mono (fun u hu => ?_)
  obtain ⟨c5, s5, rfl⟩ := hu
  refine hs_ch (h := 17) (i := 4) (n := 2) (hh := (eg_mh 17).getD []) (by decide +kernel) ⟨by decide +kernel, by decide +kernel⟩ (Nat.le_of_ble_eq_true rfl) ?_
  show et_go none _ 17 19 [some (.ref th), some (.int (Int32.ofNat n)), some (.int y), some (.ref out), none] [] _ _ _ _
  refine hs_k (x := Int32.ofNat 2) (p := 20) (by decide +kernel) ?_
  refine hs_iret (by decide +kernel) ?_
  exact ⟨rfl, rfl⟩
theorem fh_boundE (hH : et_H et_TT K G) (k_th : K th = some 12) (h0 : et_pl (eg_at G th) 0 = some (.ref s0)) (k_s0 : K s0 = some 10) (h5 : et_pl (eg_at G s0) 5 = some (.int (Int32.ofNat ec))) (hec : ec ≤ 3) (h6 : et_pl (eg_at G s0) 6 = some (.ref ya)) (k_ya : K ya = some 40) (hx : ¬ xr x ec) (hd : 6 ≤ d2) : et_go none d2 17 0 (eg_en (eg_mL 17) [.ref th, .int x, .int y, .ref out]) [] G 0 0 (fun u => u.1 = .inl (some (.int (Int32.ofNat 1))) ∧ u.2.1 = G) := by
  obtain ⟨d, rfl⟩ : ∃ d, d2 = d + 6 := ⟨d2 - 6, by omega⟩
  rw [show eg_mL 17 = 5 from by decide +kernel]
  show et_go none (d + 6) 17 0 [some (.ref th), some (.int x), some (.int y), some (.ref out), none] [] G 0 0 _
  have lt_th := (hH.2.2 _ _ k_th).1
  refine hs_aload (i := 3) (p := 1) (by decide +kernel) rfl ?_
  refine hs_k (x := Int32.ofNat 0) (p := 2) (by decide +kernel) ?_
  refine hs_aload (i := 0) (p := 3) (by decide +kernel) rfl ?_
  refine hs_iload (i := 1) (p := 4) (by decide +kernel) rfl ?_
  refine hs_iload (i := 2) (p := 5) (by decide +kernel) rfl ?_
  refine ht_callv (T := et_TT) (t := 12) (mi := 155) (na := 2) (ci := 10) (lk := 5) (lm := 5) (L0 := eg_en (eg_mL 155) [.ref th, .int x, .int y]) (by decide +kernel) rfl hH k_th rfl rfl rfl rfl rfl (by rw [show eg_mL 155 = 5 from by decide +kernel]; first | done | rfl) ?_
  refine (fd_boundE hH k_th h0 k_s0 h5 hec h6 k_ya hx (by omega)).mono (fun u hu => ?_)
  obtain ⟨c5, s5, rfl⟩ := hu
  refine hs_ch (h := 13) (i := 4) (n := 2) (hh := (eg_mh 17).getD []) (by decide +kernel) ⟨by decide +kernel, by decide +kernel⟩ (Nat.le_of_ble_eq_true rfl) ?_
  show et_go none _ 17 15 [some (.ref th), some (.int x), some (.int y), some (.ref out), none] [] _ _ _ _
  refine hs_k (x := Int32.ofNat 1) (p := 16) (by decide +kernel) ?_
  refine hs_iret (by decide +kernel) ?_
  exact ⟨rfl, rfl⟩
theorem fz_bound (hH : et_H et_TT K G) (k_th : K th = some 12) (h0 : et_pl (eg_at G th) 0 = some (.ref s0)) (k_s0 : K s0 = some 10) (k_s1 : K s1 = some 10) (h5 : et_pl (eg_at G s0) 5 = some (.int (Int32.ofNat ec))) (hec : ec ≤ 3) (t : ezK K ya yb O A) (hz : ez G th s0 s1 ya yb O A V) (ho : ∀ n, n < 6 → evo (V n)) (g2 : et_pl (eg_at G s0) 2 = some (.int (Int32.ofNat nc))) (hnc : nc ≤ 20) (hcc : ccP G s0 la ly nc X Y) (k_la : K la = some 17) (k_ly : K ly = some 27) (k_out : K out = some 31) (hsy : syB K G th) (hfy : fyR K G th s0 nc) (hd : 34 ≤ d2) : et_go none d2 17 0 (eg_en (eg_mL 17) [.ref th, .int x, .int y, .ref out]) [] G 0 0 (fun u => (¬ xr x ec ∧ u.1 = .inl (some (.int (Int32.ofNat 1))) ∧ xf (fun b _ => b = out) G u.2.1) ∨ ∃ n, (x = Int32.ofNat n ∧ n < ec) ∧ ((¬ (1 ≤ y.toInt ∧ y.toInt ≤ 3) ∧ u.1 = .inl (some (.int (Int32.ofNat 2))) ∧ xf (fun b _ => b = out) G u.2.1) ∨ ∃ k, (y = Int32.ofNat k ∧ 1 ≤ k ∧ k ≤ 3) ∧ u.1 = .inl (some (.int (Int32.ofNat 0))) ∧ et_pl (eg_at u.2.1 out) 0 = some (.long (boV (V n) X Y nc k (foA (V n).1 (V n).2.1 (V n).2.2.1 X Y nc k)).toInt64) ∧ (fyQ K u.2.1 th n (V n).1 k (foA (V n).1 (V n).2.1 (V n).2.2.1 X Y nc k) ∨ xf (fun b _ => b = out) G u.2.1))) := by
  obtain ⟨se, q5e, tA, tR, tS, td, be, sy, t8, hsR⟩ := hsy
  obtain ⟨x6, q6, l6, m6⟩ := hf_iv (t := 12) (f := 6) hH k_th rfl rfl
  obtain ⟨x7, q7, l7, m7⟩ := hf_iv (t := 12) (f := 7) hH k_th rfl rfl
  by_cases hx : xr x ec
  · obtain ⟨n, rfl, hn⟩ := xr_nat hx (by omega)
    by_cases hs3 : (1 ≤ y.toInt ∧ y.toInt ≤ 3)
    · obtain ⟨k, rfl, q2, q3⟩ := hs_toN (x := y) (by omega)
      exact (fh_bound hH k_th h0 k_s0 h5 hec hz.1.1 t.1.1 hn (hz.2.1 n (by omega)).1 (t.ev (ho n (by omega)) (by omega)) (hz.2.2.1 n (by omega)) g2 hnc hcc k_la k_ly t8 hsR q5e q6 q7 (hfy.hitx (by omega) (by omega) q6 q7 q5e hsR.1.2.2.2.2.1 hz ho hcc) (by omega) (by omega) k_out (by omega)).mono (fun u hu => .inr ⟨n, ⟨rfl, hn⟩, .inr ⟨k, ⟨rfl, by omega, by omega⟩, hu.1, hu.2.1, hu.2.2⟩⟩)
    · exact (fh_boundR hH k_th h0 k_s0 h5 hec hz.1.1 t.1.1 hn (hz.2.1 n (by omega)).1 hs3 (by omega)).mono (fun u hu => .inr ⟨n, ⟨rfl, hn⟩, .inl ⟨hs3, hu.1, (by rw [hu.2]; exact xf.rf)⟩⟩)
  · exact (fh_boundE hH k_th h0 k_s0 h5 hec hz.1.1 t.1.1 hx (by omega)).mono (fun u hu => .inl ⟨hx, hu.1, (by rw [hu.2]; exact xf.rf)⟩)
end ABB
