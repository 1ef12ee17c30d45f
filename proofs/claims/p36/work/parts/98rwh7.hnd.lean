section
/-! read: the answer -/
def eyV (v : evT) (X : Nat → Int32) (Y : Nat → Nat) (nc k : Nat) : Int32 := smI (fun m => reT v X Y nc (kvT k v.1 m)) ((2 * k + 1) ^ v.1)
def syV (v : evT) (X : Nat → Int32) (Y : Nat → Nat) (nc k c : Nat) : Int32 := smI (fun m => rsT v X Y nc (asC c) (kvT k v.1 m)) ((2 * k + 1) ^ v.1)
/-- of the more frequent answers, the card by card least so far: as the class goes on, as the reference -/
def nbF (f : Nat → Int32) : Nat → Nat × Int32
  | 0 => (0, Int32.ofNat 1073741824)
  | c + 1 => if f c < (nbF f c).2 then (c, f c) else nbF f c
def bsF (f : Nat → Int32) : Nat → Nat
  | 0 => 0
  | m + 1 => if f (m + 1) < f (bsF f m) then m + 1 else bsF f m
def mfF (g : Nat → Int32) (e : Int32) (c : Nat) : Int32 := mxI (g c) (e - g c)
def nxV (b : Nat) : Int32 := if b < 16 then Int32.ofNat (16 + b) else Int32.ofNat (32 + b - 16)
def rdV (v : evT) (X : Nat → Int32) (Y : Nat → Nat) (nc k b : Nat) : Int32 := if b = 0 then eyV v X Y nc k else if eyV v X Y nc k = 0 then (-1) else nxV (bsF (mfF (syV v X Y nc k) (eyV v X Y nc k)) 30)
section AKA
variable {f : Nat → Int32} {m c : Nat}
theorem nb_le : ∀ c, (nbF f c).1 ≤ c
  | 0 => Nat.le_refl 0
  | c + 1 => by
    have ih := nb_le c
    show (if f c < (nbF f c).2 then (c, f c) else nbF f c).1 ≤ c + 1
    by_cases h : f c < (nbF f c).2
    · rw [if_pos h]
      exact Nat.le_succ c
    · rw [if_neg h]
      omega
theorem bs_le : ∀ m, bsF f m ≤ m
  | 0 => Nat.le_refl 0
  | m + 1 => by
    have ih := bs_le m
    show (if f (m + 1) < f (bsF f m) then m + 1 else bsF f m) ≤ m + 1
    by_cases h : f (m + 1) < f (bsF f m)
    · rw [if_pos h]
      exact Nat.le_refl _
    · rw [if_neg h]
      omega
theorem nb_bs (h0 : f 0 < Int32.ofNat 1073741824) : ∀ m, nbF f (m + 1) = (bsF f m, f (bsF f m))
  | 0 => by
    show (if f 0 < (nbF f 0).2 then (0, f 0) else nbF f 0) = (0, f 0)
    exact if_pos h0
  | m + 1 => by
    have ih := nb_bs h0 m
    show (if f (m + 1) < (nbF f (m + 1)).2 then (m + 1, f (m + 1)) else nbF f (m + 1)) = (bsF f (m + 1), f (bsF f (m + 1)))
    rw [ih]
    by_cases h : f (m + 1) < f (bsF f m)
    · rw [show bsF f (m + 1) = m + 1 from if_pos h]
      exact if_pos h
    · rw [show bsF f (m + 1) = bsF f m from if_neg h]
      exact if_neg h
theorem smI_b {a : Int} (ha : 0 ≤ a ∧ a ≤ 1000) : ∀ n, n ≤ 117649 → (∀ m, m < n → 0 ≤ (f m).toInt ∧ (f m).toInt ≤ a) → 0 ≤ (smI f n).toInt ∧ (smI f n).toInt ≤ a * n
  | 0, _, _ => by
    show 0 ≤ (0 : Int) ∧ (0 : Int) ≤ a * ((0 : Nat) : Int)
    omega
  | n + 1, hn, h => by
    have ih := smI_b ha n (by omega) (fun m hm => h m (by omega))
    have h1 := h n (by omega)
    have h2 : a * (n : Int) ≤ 1000 * (n : Int) := Int.mul_le_mul_of_nonneg_right ha.2 (by omega)
    have e : a * ((n + 1 : Nat) : Int) = a * (n : Int) + a := by
      rw [show ((n + 1 : Nat) : Int) = (n : Int) + 1 from rfl, Int.mul_add, Int.mul_one]
    show 0 ≤ (smI f n + f n).toInt ∧ (smI f n + f n).toInt ≤ a * ((n + 1 : Nat) : Int)
    rw [et_add _ _ (by unfold et_mn; omega) (by unfold et_mx; omega), e]
    omega
end AKA
section AKB
variable {v : evT} {X : Nat → Int32} {Y : Nat → Nat} {nc k m c : Nat} {x : Int32}
theorem su_b (hk : k ≤ 3) (hW : v.1 ≤ 6) : -1134 ≤ (suN v.2.1 v.2.2.1 (kvT k v.1 m) x v.1).toInt ∧ (suN v.2.1 v.2.2.1 (kvT k v.1 m) x v.1).toInt ≤ 1134 := by
  rw [su_i hk hW]
  have h := paS_b (W := v.1) (n := m) (a := fun u => (vaI (v.2.1 u) (v.2.2.1 u) x).toInt) hk (fun u _ => ⟨Int.le_trans (by decide) vaI_i.1, vaI_i.2⟩) v.1 (Nat.le_refl v.1)
  omega
theorem reT_b (hk : k ≤ 3) (hW : v.1 ≤ 6) : 0 ≤ (reT v X Y nc (kvT k v.1 m)).toInt ∧ (reT v X Y nc (kvT k v.1 m)).toInt ≤ 19 := by
  have h1 := rh_le (S := seS v (kvT k v.1 m) X) (Y := Y) (nc := nc) (fun c _ => ss_b hk hW) nc (Nat.le_refl nc)
  have l1 := rl_ge (S := seS v (kvT k v.1 m) X) (Y := Y) (nc := nc) (fun c _ => ss_b hk hW) nc (Nat.le_refl nc)
  have o1 : (Int32.ofNat 1).toInt = 1 := rfl
  unfold reT
  by_cases q : rhI (seS v (kvT k v.1 m) X) Y nc < rlI (seS v (kvT k v.1 m) X) Y nc
  · rw [reN_z q]
    decide
  · rw [reN_n q]
    rw [Int32.lt_iff_toInt_lt] at q
    have e1 := et_sub (rhI (seS v (kvT k v.1 m) X) Y nc) (rlI (seS v (kvT k v.1 m) X) Y nc) (by unfold et_mn; omega) (by unfold et_mx; omega)
    rw [et_add _ _ (by rw [e1, o1]; unfold et_mn; omega) (by rw [e1, o1]; unfold et_mx; omega), e1, o1]
    omega
theorem rsT_b (hk : k ≤ 3) (hW : v.1 ≤ 6) : 0 ≤ (rsT v X Y nc x (kvT k v.1 m)).toInt ∧ (rsT v X Y nc x (kvT k v.1 m)).toInt ≤ 19 := by
  have h1 := rh_le (S := seS v (kvT k v.1 m) X) (Y := Y) (nc := nc) (fun c _ => ss_b hk hW) nc (Nat.le_refl nc)
  have l1 := rl_ge (S := seS v (kvT k v.1 m) X) (Y := Y) (nc := nc) (fun c _ => ss_b hk hW) nc (Nat.le_refl nc)
  have hs := su_b (v := v) (k := k) (m := m) (x := x) hk hW
  have o1 : (Int32.ofNat 1).toInt = 1 := rfl
  have o0 : (Int32.ofNat 0).toInt = 0 := rfl
  unfold rsT
  by_cases q : rhI (seS v (kvT k v.1 m) X) Y nc < rlI (seS v (kvT k v.1 m) X) Y nc
  · rw [rsN_z q]
    decide
  · rw [rsN_n q]
    rw [Int32.lt_iff_toInt_lt] at q
    have e0 := et_sub (suN v.2.1 v.2.2.1 (kvT k v.1 m) x v.1) (Int32.ofNat 1) (by rw [o1]; unfold et_mn; omega) (by rw [o1]; unfold et_mx; omega)
    have e9 := mnI_t (a := rhI (seS v (kvT k v.1 m) X) Y nc) (b := suN v.2.1 v.2.2.1 (kvT k v.1 m) x v.1 - Int32.ofNat 1)
    rw [e0, o1] at e9
    have e1 := et_sub (mnI (rhI (seS v (kvT k v.1 m) X) Y nc) (suN v.2.1 v.2.2.1 (kvT k v.1 m) x v.1 - Int32.ofNat 1)) (rlI (seS v (kvT k v.1 m) X) Y nc) (by unfold et_mn; omega) (by unfold et_mx; omega)
    rw [mxI_t, et_add _ _ (by rw [e1, o1]; unfold et_mn; omega) (by rw [e1, o1]; unfold et_mx; omega), e1, o1, o0]
    omega
/-- it is far below what the class begins with -/
theorem mf_0 (hk : k ≤ 3) (hW : v.1 ≤ 6) : mfF (syV v X Y nc k) (eyV v X Y nc k) c < Int32.ofNat 1073741824 := by
  have hB := kv_all hk hW
  have a1 := smI_b (f := fun m => reT v X Y nc (kvT k v.1 m)) (a := 19) (by decide) ((2 * k + 1) ^ v.1) hB (fun m _ => reT_b hk hW)
  have a2 := smI_b (f := fun m => rsT v X Y nc (asC c) (kvT k v.1 m)) (a := 19) (by decide) ((2 * k + 1) ^ v.1) hB (fun m _ => rsT_b hk hW)
  have a1 : 0 ≤ (eyV v X Y nc k).toInt ∧ (eyV v X Y nc k).toInt ≤ 19 * (((2 * k + 1) ^ v.1 : Nat) : Int) := a1
  have a2 : 0 ≤ (syV v X Y nc k c).toInt ∧ (syV v X Y nc k c).toInt ≤ 19 * (((2 * k + 1) ^ v.1 : Nat) : Int) := a2
  generalize (2 * k + 1) ^ v.1 = B9 at hB a1 a2
  have n9 : (Int32.ofNat 1073741824).toInt = 1073741824 := rfl
  unfold mfF
  rw [Int32.lt_iff_toInt_lt, mxI_t, et_sub _ _ (by unfold et_mn; omega) (by unfold et_mx; omega), n9]
  omega
theorem rdV_1 (h : eyV v X Y nc k = 0) : rdV v X Y nc k 1 = (-1) := by
  unfold rdV
  rw [if_neg (by decide), if_pos h]
theorem rdV_2 (h : ¬ eyV v X Y nc k = 0) : rdV v X Y nc k 1 = nxV (bsF (mfF (syV v X Y nc k) (eyV v X Y nc k)) 30) := by
  unfold rdV
  rw [if_neg (by decide), if_neg h]
theorem rdJ.rd {se sy as_ P ny nn : Nat} {G : eg_G} (h : rdJ v X Y nc k as_ P ny nn se sy ((2 * k + 1) ^ v.1) G) : et_pl (eg_at G se) 16 = some (.int (eyV v X Y nc k)) ∧ ∀ c, c < as_ → et_pl (eg_at G sy) c = some (.int (syV v X Y nc k c)) := h.2
theorem slr_t {K : et_K} {se tA tR tS td be sy : Nat} (t : seT K se tA tR tS td be sy) : ∀ b j u, K b = some u → ((b = se ∧ ((4 ≤ j ∧ j ≤ 13) ∨ j = 15 ∨ j = 16)) ∨ K b = some 45 ∨ b = td ∨ b = be ∨ b = sy) → u = 45 ∨ u = 51 ∨ u = 19 ∨ (u = 9 ∧ ¬ (j ≤ 3 ∨ j = 14 ∨ j = 17)) ∨ (u = 12 ∧ ¬ (j = 0 ∨ j = 5)) := fun b j u kb q => by
  obtain ⟨⟨k1, k2, k3, k4, k5, k6, k7⟩, -⟩ := t
  rcases q with ⟨q1, q2⟩ | q1 | q1 | q1 | q1
  · rw [q1, k1] at kb
    cases kb
    exact .inr (.inr (.inr (.inl ⟨rfl, by omega⟩)))
  · rw [q1] at kb
    cases kb
    exact .inl rfl
  · rw [q1, k5] at kb
    cases kb
    exact .inr (.inl rfl)
  · rw [q1, k6] at kb
    cases kb
    exact .inr (.inl rfl)
  · rw [q1, k7] at kb
    cases kb
    exact .inr (.inr (.inl rfl))
end AKB
section AKC
variable {K : et_K} {G : eg_G} {d d2 th s0 ya ec se tA tR tS td be sy e ca ki kn la ly nc n k out m c : Nat} {v : evT} {X : Nat → Int32} {Y : Nat → Nat} {x y z x6 x7 : Int32} {V : Nat → evT} {s1 yb : Nat} {O : Nat → Nat} {A : Nat → Nat → Nat} {x3 x4 : Option Value} {b q : Nat} {g : Nat → Int32} {e0 : Int32}
theorem fd_nxL (hH : et_H et_TT K G) (k_th : K th = some 12) (k_se : K se = some 9) (k_sy : K sy = some 19) (q5 : et_pl (eg_at G th) 5 = some (.ref se)) (q16 : et_pl (eg_at G se) 16 = some (.int e0)) (q17 : et_pl (eg_at G se) 17 = some (.ref sy)) (hg : ∀ c, c < 31 → et_pl (eg_at G sy) c = some (.int (g c))) (h0 : (mfF g e0) 0 < Int32.ofNat 1073741824) (hc : c ≤ 31) : et_go none d2 172 8 [some (.ref th), some (.int (Int32.ofNat ((nbF (mfF g e0) c).1))), some (.int ((nbF (mfF g e0) c).2)), some (.int (Int32.ofNat c)), x4] [] G 0 0 (xp_Z G (some (.int (nxV (bsF (mfF g e0) 30))))) := by
  induction hq9 : 31 - c using Nat.strongRecOn generalizing c x4 with
  | _ q9 ih =>
    have hb := nb_le (f := (mfF g e0)) c
    have lt_th := (hH.2.2 _ _ k_th).1
    have lt_se := (hH.2.2 _ _ k_se).1
    have lt_sy := (hH.2.2 _ _ k_sy).1
    refine hs_iload (i := 3) (p := 9) (by decide +kernel) rfl ?_
    refine hs_k (x := Int32.ofNat 31) (p := 11) (by decide +kernel) ?_
    refine hs_br2n (c := .ge) (t := 62) (f := 14) (by decide +kernel) (by omega) (by omega) (fun (c11 : 31 ≤ c) => ?_) (fun (c11 : ¬ (31 ≤ c)) => ?_)
    · refine hs_iload (i := 1) (p := 63) (by decide +kernel) rfl ?_
      refine hs_k (x := Int32.ofNat 16) (p := 65) (by decide +kernel) ?_
      refine hs_br2n (c := .ge) (t := 75) (f := 68) (by decide +kernel) (by omega) (by omega) (fun (c65 : 16 ≤ (nbF (mfF g e0) c).1) => ?_) (fun (c65 : ¬ (16 ≤ (nbF (mfF g e0) c).1)) => ?_)
      · refine hs_k (x := Int32.ofNat 32) (p := 77) (by decide +kernel) ?_
        refine hs_iload (i := 1) (p := 78) (by decide +kernel) rfl ?_
        refine hs_iaddn (p := 79) (by decide +kernel) ?_
        refine hs_k (x := Int32.ofNat 16) (p := 81) (by decide +kernel) ?_
        refine hs_isubn (p := 82) (by decide +kernel) (by omega) ?_
        refine hs_iret (by decide +kernel) ?_
        obtain rfl : c = 31 := by omega
        have e9 : nbF (mfF g e0) 31 = (bsF (mfF g e0) 30, (mfF g e0) (bsF (mfF g e0) 30)) := nb_bs h0 30
        rw [e9] at c65
        show xp_Z G (some (.int (nxV (bsF (mfF g e0) 30)))) (.inl (some (.int (Int32.ofNat ((32 + (nbF (mfF g e0) 31).1) - 16)))), G, 0, 0)
        rw [e9]
        have c65 : 16 ≤ bsF (mfF g e0) 30 := c65
        rw [show nxV (bsF (mfF g e0) 30) = Int32.ofNat (32 + bsF (mfF g e0) 30 - 16) from if_neg (by omega)]
        rfl
      · refine hs_k (x := Int32.ofNat 16) (p := 70) (by decide +kernel) ?_
        refine hs_iload (i := 1) (p := 71) (by decide +kernel) rfl ?_
        refine hs_iaddn (p := 72) (by decide +kernel) ?_
        refine hs_goto (p := 82) (by decide +kernel) ?_
        refine hs_iret (by decide +kernel) ?_
        obtain rfl : c = 31 := by omega
        have e9 : nbF (mfF g e0) 31 = (bsF (mfF g e0) 30, (mfF g e0) (bsF (mfF g e0) 30)) := nb_bs h0 30
        rw [e9] at c65
        show xp_Z G (some (.int (nxV (bsF (mfF g e0) 30)))) (.inl (some (.int (Int32.ofNat (16 + (nbF (mfF g e0) 31).1)))), G, 0, 0)
        rw [e9]
        have c65 : ¬ 16 ≤ bsF (mfF g e0) 30 := c65
        rw [show nxV (bsF (mfF g e0) 30) = Int32.ofNat (16 + bsF (mfF g e0) 30) from if_pos (by omega)]
        rfl
    · refine hs_aload (i := 0) (p := 15) (by decide +kernel) rfl ?_
      refine hf_get (T := et_TT) (t := 12) (ci := 10) (f := 5) (p := 18) (by decide +kernel) rfl hH k_th q5 ?_
      refine hf_get (T := et_TT) (t := 9) (ci := 7) (f := 17) (p := 21) (by decide +kernel) rfl hH k_se q17 ?_
      refine hs_iload (i := 3) (p := 22) (by decide +kernel) rfl ?_
      refine hf_ald (ins := .iaload) (T := et_TT) (t := 19) (kd := 0) (N := 31) (p := 23) (by decide +kernel) (fun _ _ _ _ _ _ _ _ _ _ => rfl) rfl rfl rfl hH k_sy (by decide) (hg c (by omega)) ?_
      refine hs_aload (i := 0) (p := 24) (by decide +kernel) rfl ?_
      refine hf_get (T := et_TT) (t := 12) (ci := 10) (f := 5) (p := 27) (by decide +kernel) rfl hH k_th q5 ?_
      refine hf_get (T := et_TT) (t := 9) (ci := 7) (f := 16) (p := 30) (by decide +kernel) rfl hH k_se q16 ?_
      refine hs_aload (i := 0) (p := 31) (by decide +kernel) rfl ?_
      refine hf_get (T := et_TT) (t := 12) (ci := 10) (f := 5) (p := 34) (by decide +kernel) rfl hH k_th q5 ?_
      refine hf_get (T := et_TT) (t := 9) (ci := 7) (f := 17) (p := 37) (by decide +kernel) rfl hH k_se q17 ?_
      refine hs_iload (i := 3) (p := 38) (by decide +kernel) rfl ?_
      refine hf_ald (ins := .iaload) (T := et_TT) (t := 19) (kd := 0) (N := 31) (p := 39) (by decide +kernel) (fun _ _ _ _ _ _ _ _ _ _ => rfl) rfl rfl rfl hH k_sy (by decide) (hg c (by omega)) ?_
      refine hs_isub (p := 40) (by decide +kernel) ?_
      refine hs_math (mi := 310) (lk := 5) (p := 43) (by decide +kernel) rfl rfl rfl rfl ?_
      rw [show (if (g c) < (e0 - (g c)) then (e0 - (g c)) else (g c)) = mfF g e0 c from rfl]
      refine hs_istore (i := 4) (p := 45) (by decide +kernel) (Nat.le_of_ble_eq_true rfl) ?_
      refine hs_iload (i := 4) (p := 47) (by decide +kernel) rfl ?_
      refine hs_iload (i := 2) (p := 48) (by decide +kernel) rfl ?_
      refine hs_br2 (c := .ge) (t := 56) (f := 51) (by decide +kernel) (fun (c48 : (nbF (mfF g e0) c).2 ≤ (mfF g e0 c)) => ?_) (fun (c48 : ¬ ((nbF (mfF g e0) c).2 ≤ (mfF g e0 c))) => ?_)
      · refine hs_iinc1 (i := 3) (p := 59) (by decide +kernel) rfl (Nat.le_of_ble_eq_true rfl) ?_
        refine hs_goto (p := 8) (by decide +kernel) ?_
        have e9 : nbF (mfF g e0) (c + 1) = nbF (mfF g e0) c := if_neg (Int32.not_lt.mpr c48)
        have hr := ih (31 - (c + 1)) (by omega) (c := c + 1) (x4 := some (.int (mfF g e0 c))) (by omega) rfl
        rw [e9] at hr
        exact hr
      · refine hs_iload (i := 4) (p := 53) (by decide +kernel) rfl ?_
        refine hs_istore (i := 2) (p := 54) (by decide +kernel) (Nat.le_of_ble_eq_true rfl) ?_
        refine hs_iload (i := 3) (p := 55) (by decide +kernel) rfl ?_
        refine hs_istore (i := 1) (p := 56) (by decide +kernel) (Nat.le_of_ble_eq_true rfl) ?_
        refine hs_iinc1 (i := 3) (p := 59) (by decide +kernel) rfl (Nat.le_of_ble_eq_true rfl) ?_
        refine hs_goto (p := 8) (by decide +kernel) ?_
        have e9 : nbF (mfF g e0) (c + 1) = (c, mfF g e0 c) := if_pos (Int32.not_le.mp c48)
        have hr := ih (31 - (c + 1)) (by omega) (c := c + 1) (x4 := some (.int (mfF g e0 c))) (by omega) rfl
        rw [e9] at hr
        exact hr
theorem fd_nx (hH : et_H et_TT K G) (k_th : K th = some 12) (k_se : K se = some 9) (k_sy : K sy = some 19) (q5 : et_pl (eg_at G th) 5 = some (.ref se)) (q16 : et_pl (eg_at G se) 16 = some (.int e0)) (q17 : et_pl (eg_at G se) 17 = some (.ref sy)) (hg : ∀ c, c < 31 → et_pl (eg_at G sy) c = some (.int (g c))) (h0 : (mfF g e0) 0 < Int32.ofNat 1073741824) : et_go none d2 172 0 (eg_en (eg_mL 172) [.ref th]) [] G 0 0 (xp_Z G (some (.int (nxV (bsF (mfF g e0) 30))))) := by
  rw [show eg_mL 172 = 5 from by decide +kernel]
  show et_go none d2 172 0 [some (.ref th), none, none, none, none] [] G 0 0 _
  refine hs_k (x := Int32.ofNat 0) (p := 1) (by decide +kernel) ?_
  refine hs_istore (i := 1) (p := 2) (by decide +kernel) (Nat.le_of_ble_eq_true rfl) ?_
  refine hs_kld (v := Value.int (Int32.ofNat 1073741824)) (p := 5) (by decide +kernel) ?_
  refine hs_istore (i := 2) (p := 6) (by decide +kernel) (Nat.le_of_ble_eq_true rfl) ?_
  refine hs_k (x := Int32.ofNat 0) (p := 7) (by decide +kernel) ?_
  refine hs_istore (i := 3) (p := 8) (by decide +kernel) (Nat.le_of_ble_eq_true rfl) ?_
  exact fd_nxL (c := 0) hH k_th k_se k_sy q5 q16 q17 hg h0 (Nat.zero_le 31)
theorem fd_read0 (hH : et_H et_TT K G) (k_th : K th = some 12) (h0 : et_pl (eg_at G th) 0 = some (.ref s0)) (k_s0 : K s0 = some 10) (h5 : et_pl (eg_at G s0) 5 = some (.int (Int32.ofNat ec))) (hec : ec ≤ 3) (h6 : et_pl (eg_at G s0) 6 = some (.ref ya)) (k_ya : K ya = some 40) (hn : n < ec) (hE : et_pl (eg_at G ya) n = some (.ref e)) (t9 : evK K e ca ki kn v.1 v.2.2.1) (hv : evc G e ca ki kn v) (g2 : et_pl (eg_at G s0) 2 = some (.int (Int32.ofNat nc))) (hnc : nc ≤ 20) (hcc : ccP G s0 la ly nc X Y) (k_la : K la = some 17) (k_ly : K ly = some 27) (t : seT K se tA tR tS td be sy) (hsR : seR G se tA tR tS td be sy) (q5e : et_pl (eg_at G th) 5 = some (.ref se)) (hnz : ∀ u, u < v.1 → ¬ v.2.1 u = 0) (hk1 : 1 ≤ k) (hk : k ≤ 2) (hd : 14 ≤ d2) : et_go none d2 171 0 (eg_en (eg_mL 171) [.ref th, .int (Int32.ofNat n), .int (Int32.ofNat k), .int (Int32.ofNat 0)]) [] G 0 0 (fun u => u.1 = .inl (some (.int (rdV v X Y nc k 0)))) := by
  obtain ⟨d, rfl⟩ : ∃ d, d2 = d + 14 := ⟨d2 - 14, by omega⟩
  rw [show eg_mL 171 = 5 from by decide +kernel]
  show et_go none (d + 14) 171 0 [some (.ref th), some (.int (Int32.ofNat n)), some (.int (Int32.ofNat k)), some (.int (Int32.ofNat 0)), none] [] G 0 0 _
  have k_se := t.1.1
  have k_tA := t.1.2.1
  have k_tR := t.1.2.2.1
  have k_tS := t.1.2.2.2.1
  have k_td := t.1.2.2.2.2.1
  have k_be := t.1.2.2.2.2.2.1
  have k_sy := t.1.2.2.2.2.2.2
  have k_e := t9.1.1
  have hw6 := t9.2.1
  have kb : baK K th s0 la ly := ⟨k_th, k_s0, k_la, k_ly⟩
  have lt_th := (hH.2.2 _ _ k_th).1
  have lt_s0 := (hH.2.2 _ _ k_s0).1
  have lt_ya := (hH.2.2 _ _ k_ya).1
  refine hs_aload (i := 0) (p := 1) (by decide +kernel) rfl ?_
  refine hs_iload (i := 1) (p := 2) (by decide +kernel) rfl ?_
  refine ht_callv (T := et_TT) (t := 12) (mi := 128) (na := 1) (ci := 10) (lk := 5) (lm := 2) (L0 := eg_en (eg_mL 128) [.ref th, .int (Int32.ofNat n)]) (by decide +kernel) rfl hH k_th rfl rfl rfl rfl rfl (by rw [show eg_mL 128 = 2 from by decide +kernel]; first | done | rfl) ?_
  refine (fd_needE hH k_th h0 k_s0 h5 hec h6 k_ya hn hE).mono (fun u hu => xp_cb hu ?_)
  show et_go none _ 171 5 _ [.ref e] _ _ _ _
  refine hs_astore (i := 4) (p := 7) (by decide +kernel) (Nat.le_of_ble_eq_true rfl) ?_
  refine hs_iload (i := 2) (p := 8) (by decide +kernel) rfl ?_
  refine hs_k (x := Int32.ofNat 2) (p := 9) (by decide +kernel) ?_
  refine hs_calls (mi := 150) (na := 2) (lk := 5) (lm := 2) (L0 := eg_en (eg_mL 150) [.int (Int32.ofNat k), .int (Int32.ofNat 2)]) (by decide +kernel) rfl rfl rfl rfl rfl rfl (by rw [show eg_mL 150 = 2 from by decide +kernel]; first | done | rfl) ?_
  refine (fd_nk hk1 hk (by decide)).mono (fun u hu => xp_cb hu ?_)
  show et_go none _ 171 12 _ [] _ _ _ _
  refine hs_aload (i := 0) (p := 13) (by decide +kernel) rfl ?_
  have hba : baI G th se tA tR tS td be sy e ca ki kn s0 la ly nc v X Y := ⟨⟨h0, q5e⟩, hsR, hv, g2, hcc⟩
  refine ht_callv (T := et_TT) (t := 12) (mi := 120) (na := 0) (ci := 10) (lk := 5) (lm := 1) (L0 := eg_en (eg_mL 120) [.ref th]) (by decide +kernel) rfl hH k_th rfl rfl rfl rfl rfl (by rw [show eg_mL 120 = 1 from by decide +kernel]; first | done | rfl) ?_
  refine (fd_fgt hH k_th).mono (fun u9 hu9 => xw_cb hu9 (fun G2 v2 hH2 x2 hP2 => ?_))
  obtain ⟨rfl, -, -⟩ := hP2
  have hba := hba.xs t t9 kb hH x2 (fun b j u kb q => by rw [q.1, k_th] at kb; cases kb; exact .inr (.inr (.inr (.inr ⟨rfl, by have h := q.2; omega⟩))))
  have hH := hH2
  have h0 := hba.1.1
  have q5e := hba.1.2
  have hsR := hba.2.1
  have hv := hba.2.2.1
  have g2 := hba.2.2.2.1
  have hcc := hba.2.2.2.2
  show et_go none _ 171 16 _ [] _ _ _ _
  refine hs_aload (i := 0) (p := 17) (by decide +kernel) rfl ?_
  refine hf_get (T := et_TT) (t := 12) (ci := 10) (f := 5) (p := 20) (by decide +kernel) rfl hH k_th q5e ?_
  refine hs_aload (i := 4) (p := 22) (by decide +kernel) rfl ?_
  refine hs_aload (i := 0) (p := 23) (by decide +kernel) rfl ?_
  refine hf_get (T := et_TT) (t := 12) (ci := 10) (f := 0) (p := 26) (by decide +kernel) rfl hH k_th h0 ?_
  refine hs_iload (i := 2) (p := 27) (by decide +kernel) rfl ?_
  refine hs_iload (i := 3) (p := 28) (by decide +kernel) rfl ?_
  refine hs_if1 (c := .eq) (t := 36) (f := 31) (by decide +kernel) (show Int32.ofNat 0 = 0 by decide) ?_
  refine hs_k (x := Int32.ofNat 0) (p := 37) (by decide +kernel) ?_
  refine ht_callv (T := et_TT) (t := 9) (mi := 99) (na := 4) (ci := 7) (lk := 5) (lm := 6) (L0 := eg_en (eg_mL 99) [.ref se, .ref e, .ref s0, .int (Int32.ofNat k), .int (Int32.ofNat 0)]) (by decide +kernel) rfl hH k_se rfl rfl rfl rfl rfl (by rw [show eg_mL 99 = 6 from by decide +kernel]; first | done | rfl) ?_
  refine (fd_each (as_ := 0) hH t t9 k_s0 k_la k_ly hsR hv g2 hcc hnc (by omega) (by decide) hnz (by omega)).mono (fun u9 hu9 => xw_cb hu9 (fun G3 v3 hH3 x3 hP3 => ?_))
  obtain ⟨rfl, hJ⟩ := hP3
  obtain ⟨r16, rsy⟩ := hJ.rd
  have hba := hba.xs t t9 kb hH x3 (fun b j u kb q => slr_t t b j u kb q)
  have hH := hH3
  have h0 := hba.1.1
  have q5e := hba.1.2
  have hsR := hba.2.1
  have hv := hba.2.2.1
  have g2 := hba.2.2.2.1
  have hcc := hba.2.2.2.2
  show et_go none _ 171 40 _ [] _ _ _ _
  refine hs_iload (i := 3) (p := 41) (by decide +kernel) rfl ?_
  refine hs_if0 (c := .ne) (t := 52) (f := 44) (by decide +kernel) (show ¬ (¬ Int32.ofNat 0 = 0) by decide) ?_
  refine hs_aload (i := 0) (p := 45) (by decide +kernel) rfl ?_
  refine hf_get (T := et_TT) (t := 12) (ci := 10) (f := 5) (p := 48) (by decide +kernel) rfl hH k_th q5e ?_
  refine hf_get (T := et_TT) (t := 9) (ci := 7) (f := 16) (p := 51) (by decide +kernel) rfl hH k_se r16 ?_
  refine hs_iret (by decide +kernel) ?_
  rfl
theorem fd_read1 (hH : et_H et_TT K G) (k_th : K th = some 12) (h0 : et_pl (eg_at G th) 0 = some (.ref s0)) (k_s0 : K s0 = some 10) (h5 : et_pl (eg_at G s0) 5 = some (.int (Int32.ofNat ec))) (hec : ec ≤ 3) (h6 : et_pl (eg_at G s0) 6 = some (.ref ya)) (k_ya : K ya = some 40) (hn : n < ec) (hE : et_pl (eg_at G ya) n = some (.ref e)) (t9 : evK K e ca ki kn v.1 v.2.2.1) (hv : evc G e ca ki kn v) (g2 : et_pl (eg_at G s0) 2 = some (.int (Int32.ofNat nc))) (hnc : nc ≤ 20) (hcc : ccP G s0 la ly nc X Y) (k_la : K la = some 17) (k_ly : K ly = some 27) (t : seT K se tA tR tS td be sy) (hsR : seR G se tA tR tS td be sy) (q5e : et_pl (eg_at G th) 5 = some (.ref se)) (hnz : ∀ u, u < v.1 → ¬ v.2.1 u = 0) (hk1 : 1 ≤ k) (hk : k ≤ 2) (hd : 14 ≤ d2) : et_go none d2 171 0 (eg_en (eg_mL 171) [.ref th, .int (Int32.ofNat n), .int (Int32.ofNat k), .int (Int32.ofNat 1)]) [] G 0 0 (fun u => u.1 = .inl (some (.int (rdV v X Y nc k 1)))) := by
  obtain ⟨d, rfl⟩ : ∃ d, d2 = d + 14 := ⟨d2 - 14, by omega⟩
  rw [show eg_mL 171 = 5 from by decide +kernel]
  show et_go none (d + 14) 171 0 [some (.ref th), some (.int (Int32.ofNat n)), some (.int (Int32.ofNat k)), some (.int (Int32.ofNat 1)), none] [] G 0 0 _
  have k_se := t.1.1
  have k_tA := t.1.2.1
  have k_tR := t.1.2.2.1
  have k_tS := t.1.2.2.2.1
  have k_td := t.1.2.2.2.2.1
  have k_be := t.1.2.2.2.2.2.1
  have k_sy := t.1.2.2.2.2.2.2
  have k_e := t9.1.1
  have hw6 := t9.2.1
  have kb : baK K th s0 la ly := ⟨k_th, k_s0, k_la, k_ly⟩
  have lt_th := (hH.2.2 _ _ k_th).1
  have lt_s0 := (hH.2.2 _ _ k_s0).1
  have lt_ya := (hH.2.2 _ _ k_ya).1
  refine hs_aload (i := 0) (p := 1) (by decide +kernel) rfl ?_
  refine hs_iload (i := 1) (p := 2) (by decide +kernel) rfl ?_
  refine ht_callv (T := et_TT) (t := 12) (mi := 128) (na := 1) (ci := 10) (lk := 5) (lm := 2) (L0 := eg_en (eg_mL 128) [.ref th, .int (Int32.ofNat n)]) (by decide +kernel) rfl hH k_th rfl rfl rfl rfl rfl (by rw [show eg_mL 128 = 2 from by decide +kernel]; first | done | rfl) ?_
  refine (fd_needE hH k_th h0 k_s0 h5 hec h6 k_ya hn hE).mono (fun u hu => xp_cb hu ?_)
  show et_go none _ 171 5 _ [.ref e] _ _ _ _
  refine hs_astore (i := 4) (p := 7) (by decide +kernel) (Nat.le_of_ble_eq_true rfl) ?_
  refine hs_iload (i := 2) (p := 8) (by decide +kernel) rfl ?_
  refine hs_k (x := Int32.ofNat 2) (p := 9) (by decide +kernel) ?_
  refine hs_calls (mi := 150) (na := 2) (lk := 5) (lm := 2) (L0 := eg_en (eg_mL 150) [.int (Int32.ofNat k), .int (Int32.ofNat 2)]) (by decide +kernel) rfl rfl rfl rfl rfl rfl (by rw [show eg_mL 150 = 2 from by decide +kernel]; first | done | rfl) ?_
  refine (fd_nk hk1 hk (by decide)).mono (fun u hu => xp_cb hu ?_)
  show et_go none _ 171 12 _ [] _ _ _ _
  refine hs_aload (i := 0) (p := 13) (by decide +kernel) rfl ?_
  have hba : baI G th se tA tR tS td be sy e ca ki kn s0 la ly nc v X Y := ⟨⟨h0, q5e⟩, hsR, hv, g2, hcc⟩
  refine ht_callv (T := et_TT) (t := 12) (mi := 120) (na := 0) (ci := 10) (lk := 5) (lm := 1) (L0 := eg_en (eg_mL 120) [.ref th]) (by decide +kernel) rfl hH k_th rfl rfl rfl rfl rfl (by rw [show eg_mL 120 = 1 from by decide +kernel]; first | done | rfl) ?_
  refine (fd_fgt hH k_th).mono (fun u9 hu9 => xw_cb hu9 (fun G2 v2 hH2 x2 hP2 => ?_))
  obtain ⟨rfl, -, -⟩ := hP2
  have hba := hba.xs t t9 kb hH x2 (fun b j u kb q => by rw [q.1, k_th] at kb; cases kb; exact .inr (.inr (.inr (.inr ⟨rfl, by have h := q.2; omega⟩))))
  have hH := hH2
  have h0 := hba.1.1
  have q5e := hba.1.2
  have hsR := hba.2.1
  have hv := hba.2.2.1
  have g2 := hba.2.2.2.1
  have hcc := hba.2.2.2.2
  show et_go none _ 171 16 _ [] _ _ _ _
  refine hs_aload (i := 0) (p := 17) (by decide +kernel) rfl ?_
  refine hf_get (T := et_TT) (t := 12) (ci := 10) (f := 5) (p := 20) (by decide +kernel) rfl hH k_th q5e ?_
  refine hs_aload (i := 4) (p := 22) (by decide +kernel) rfl ?_
  refine hs_aload (i := 0) (p := 23) (by decide +kernel) rfl ?_
  refine hf_get (T := et_TT) (t := 12) (ci := 10) (f := 0) (p := 26) (by decide +kernel) rfl hH k_th h0 ?_
  refine hs_iload (i := 2) (p := 27) (by decide +kernel) rfl ?_
  refine hs_iload (i := 3) (p := 28) (by decide +kernel) rfl ?_
  refine hs_if0 (c := .eq) (t := 36) (f := 31) (by decide +kernel) (show ¬ (Int32.ofNat 1 = 0) by decide) ?_
  refine hs_k (x := Int32.ofNat 31) (p := 33) (by decide +kernel) ?_
  refine hs_goto (p := 37) (by decide +kernel) ?_
  refine ht_callv (T := et_TT) (t := 9) (mi := 99) (na := 4) (ci := 7) (lk := 5) (lm := 6) (L0 := eg_en (eg_mL 99) [.ref se, .ref e, .ref s0, .int (Int32.ofNat k), .int (Int32.ofNat 31)]) (by decide +kernel) rfl hH k_se rfl rfl rfl rfl rfl (by rw [show eg_mL 99 = 6 from by decide +kernel]; first | done | rfl) ?_
  refine (fd_each (as_ := 31) hH t t9 k_s0 k_la k_ly hsR hv g2 hcc hnc (by omega) (by decide) hnz (by omega)).mono (fun u9 hu9 => xw_cb hu9 (fun G3 v3 hH3 x3 hP3 => ?_))
  obtain ⟨rfl, hJ⟩ := hP3
  obtain ⟨r16, rsy⟩ := hJ.rd
  have hba := hba.xs t t9 kb hH x3 (fun b j u kb q => slr_t t b j u kb q)
  have hH := hH3
  have h0 := hba.1.1
  have q5e := hba.1.2
  have hsR := hba.2.1
  have hv := hba.2.2.1
  have g2 := hba.2.2.2.1
  have hcc := hba.2.2.2.2
  show et_go none _ 171 40 _ [] _ _ _ _
  refine hs_iload (i := 3) (p := 41) (by decide +kernel) rfl ?_
  refine hs_if1 (c := .ne) (t := 52) (f := 44) (by decide +kernel) (show ¬ Int32.ofNat 1 = 0 by decide) ?_
  refine hs_aload (i := 0) (p := 53) (by decide +kernel) rfl ?_
  refine hf_get (T := et_TT) (t := 12) (ci := 10) (f := 5) (p := 56) (by decide +kernel) rfl hH k_th q5e ?_
  refine hf_get (T := et_TT) (t := 9) (ci := 7) (f := 16) (p := 59) (by decide +kernel) rfl hH k_se r16 ?_
  refine hs_br1 (c := .ne) (t := 66) (f := 62) (by decide +kernel) (fun (c59 : ¬ (eyV v X Y nc k) = 0) => ?_) (fun (c59 : ¬ (¬ (eyV v X Y nc k) = 0)) => ?_)
  · refine hs_aload (i := 0) (p := 67) (by decide +kernel) rfl ?_
    refine ht_callv (T := et_TT) (t := 12) (mi := 172) (na := 0) (ci := 10) (lk := 5) (lm := 5) (L0 := eg_en (eg_mL 172) [.ref th]) (by decide +kernel) rfl hH k_th rfl rfl rfl rfl rfl (by rw [show eg_mL 172 = 5 from by decide +kernel]; first | done | rfl) ?_
    refine (fd_nx (g := syV v X Y nc k) hH k_th k_se k_sy q5e r16 hsR.1.2.2.2.2.2 rsy (mf_0 (by omega) hw6)).mono (fun u hu => xp_cb hu ?_)
    show et_go none _ 171 70 _ [.int (nxV (bsF (mfF (syV v X Y nc k) (eyV v X Y nc k)) 30))] _ _ _ _
    refine hs_iret (by decide +kernel) ?_
    show (Sum.inl (some (Value.int (nxV (bsF (mfF (syV v X Y nc k) (eyV v X Y nc k)) 30)))) : eg_R) = .inl (some (.int (rdV v X Y nc k 1)))
    rw [rdV_2 c59]
  · refine hs_k (x := (-1)) (p := 63) (by decide +kernel) ?_
    refine hs_goto (p := 70) (by decide +kernel) ?_
    refine hs_iret (by decide +kernel) ?_
    show (Sum.inl (some (Value.int (-1))) : eg_R) = .inl (some (.int (rdV v X Y nc k 1)))
    rw [rdV_1 (Decidable.of_not_not c59)]
theorem fd_read (hH : et_H et_TT K G) (k_th : K th = some 12) (h0 : et_pl (eg_at G th) 0 = some (.ref s0)) (k_s0 : K s0 = some 10) (h5 : et_pl (eg_at G s0) 5 = some (.int (Int32.ofNat ec))) (hec : ec ≤ 3) (h6 : et_pl (eg_at G s0) 6 = some (.ref ya)) (k_ya : K ya = some 40) (hn : n < ec) (hE : et_pl (eg_at G ya) n = some (.ref e)) (t9 : evK K e ca ki kn v.1 v.2.2.1) (hv : evc G e ca ki kn v) (g2 : et_pl (eg_at G s0) 2 = some (.int (Int32.ofNat nc))) (hnc : nc ≤ 20) (hcc : ccP G s0 la ly nc X Y) (k_la : K la = some 17) (k_ly : K ly = some 27) (t : seT K se tA tR tS td be sy) (hsR : seR G se tA tR tS td be sy) (q5e : et_pl (eg_at G th) 5 = some (.ref se)) (hnz : ∀ u, u < v.1 → ¬ v.2.1 u = 0) (hk1 : 1 ≤ k) (hk : k ≤ 2) (hb : b ≤ 1) (hd : 14 ≤ d2) : et_go none d2 171 0 (eg_en (eg_mL 171) [.ref th, .int (Int32.ofNat n), .int (Int32.ofNat k), .int (Int32.ofNat b)]) [] G 0 0 (fun u => u.1 = .inl (some (.int (rdV v X Y nc k b)))) := by
  rcases (show b = 0 ∨ b = 1 by omega) with rfl | rfl
  · exact fd_read0 hH k_th h0 k_s0 h5 hec h6 k_ya hn hE t9 hv g2 hnc hcc k_la k_ly t hsR q5e hnz hk1 hk hd
  · exact fd_read1 hH k_th h0 k_s0 h5 hec h6 k_ya hn hE t9 hv g2 hnc hcc k_la k_ly t hsR q5e hnz hk1 hk hd
theorem fh_read (hH : et_H et_TT K G) (k_th : K th = some 12) (h0 : et_pl (eg_at G th) 0 = some (.ref s0)) (k_s0 : K s0 = some 10) (h5 : et_pl (eg_at G s0) 5 = some (.int (Int32.ofNat ec))) (hec : ec ≤ 3) (h6 : et_pl (eg_at G s0) 6 = some (.ref ya)) (k_ya : K ya = some 40) (hn : n < ec) (hE : et_pl (eg_at G ya) n = some (.ref e)) (t9 : evK K e ca ki kn v.1 v.2.2.1) (hv : evc G e ca ki kn v) (g2 : et_pl (eg_at G s0) 2 = some (.int (Int32.ofNat nc))) (hnc : nc ≤ 20) (hcc : ccP G s0 la ly nc X Y) (k_la : K la = some 17) (k_ly : K ly = some 27) (t : seT K se tA tR tS td be sy) (hsR : seR G se tA tR tS td be sy) (q5e : et_pl (eg_at G th) 5 = some (.ref se)) (hnz : ∀ u, u < v.1 → ¬ v.2.1 u = 0) (k_out : K out = some 31) (hk1 : 1 ≤ k) (hk : k ≤ 2) (hb : b ≤ 1) (hd : 22 ≤ d2) : et_go none d2 28 0 (eg_en (eg_mL 28) [.ref th, .int (Int32.ofNat n), .int (Int32.ofNat k), .int (Int32.ofNat b), .ref out]) [] G 0 0 (fun u => u.1 = .inl (some (.int (Int32.ofNat 0))) ∧ et_pl (eg_at u.2.1 out) 0 = some (.long (rdV v X Y nc k b).toInt64)) := by
  obtain ⟨d, rfl⟩ : ∃ d, d2 = d + 22 := ⟨d2 - 22, by omega⟩
  rw [show eg_mL 28 = 6 from by decide +kernel]
  show et_go none (d + 22) 28 0 [some (.ref th), some (.int (Int32.ofNat n)), some (.int (Int32.ofNat k)), some (.int (Int32.ofNat b)), some (.ref out), none] [] G 0 0 _
  refine hs_aload (i := 4) (p := 2) (by decide +kernel) rfl ?_
  refine hs_k (x := Int32.ofNat 0) (p := 3) (by decide +kernel) ?_
  refine hs_aload (i := 0) (p := 4) (by decide +kernel) rfl ?_
  refine hs_iload (i := 1) (p := 5) (by decide +kernel) rfl ?_
  refine hs_iload (i := 2) (p := 6) (by decide +kernel) rfl ?_
  refine hs_iload (i := 3) (p := 7) (by decide +kernel) rfl ?_
  refine ht_callv (T := et_TT) (t := 12) (mi := 171) (na := 3) (ci := 10) (lk := 6) (lm := 5) (L0 := eg_en (eg_mL 171) [.ref th, .int (Int32.ofNat n), .int (Int32.ofNat k), .int (Int32.ofNat b)]) (by decide +kernel) rfl hH k_th rfl rfl rfl rfl rfl (by rw [show eg_mL 171 = 5 from by decide +kernel]; first | done | rfl) ?_
  refine ((es_s171 (K, [], G) [.ref th, .int (Int32.ofNat n), .int (Int32.ofNat k), .int (Int32.ofNat b)] _ hH (by show 21 ≤ _; omega) rfl (ht_ac (.inr ⟨by decide, _, rfl, k_th⟩) (ht_ac hi_any (ht_ac hi_any (ht_ac (hi_nv (by omega) (by omega)) ht_an))))).and (fd_read hH k_th h0 k_s0 h5 hec h6 k_ya hn hE t9 hv g2 hnc hcc k_la k_ly t hsR q5e hnz hk1 hk hb (by omega))).mono (fun u hu => ?_)
  obtain ⟨⟨es, hes, K1, hx1, hf1, hH1, hv1, -, -⟩, hz⟩ := hu
  obtain ⟨u1, u2, u3, u4⟩ := u
  have hz : u1 = .inl (some (.int (rdV v X Y nc k b))) := hz
  subst hz
  rcases List.mem_cons.mp hes with rfl | hes
  · have hH := hH1
    have k_out := hx1 _ _ k_out
    refine hs_cb ?_
    show et_go none _ 28 10 _ [.int (rdV v X Y nc k b), .int (Int32.ofNat 0), .ref out] _ _ _ _
    refine hs_i2l (p := 11) (by decide +kernel) ?_
    refine hf_lst (T := et_TT) (t := 31) (N := 1) (p := 12) (by decide +kernel) rfl rfl hH k_out (by omega) (by decide) (fun G11 hH x11 e11 => ?_)
    refine hs_goto (p := 23) (by decide +kernel) ?_
    refine hs_k (x := Int32.ofNat 0) (p := 24) (by decide +kernel) ?_
    refine hs_iret (by decide +kernel) ?_
    exact ⟨rfl, e11⟩
  · rcases List.mem_cons.mp hes with rfl | hes
    · have hv1 : (Sum.inl (some (Value.int (rdV v X Y nc k b))) : eg_R) = .inr 0 := hv1
      cases hv1
    obtain rfl := List.mem_singleton.mp hes
    have hv1 : (Sum.inl (some (Value.int (rdV v X Y nc k b))) : eg_R) = .inr 1 := hv1
    cases hv1
theorem fz_read (hH : et_H et_TT K G) (k_th : K th = some 12) (h0 : et_pl (eg_at G th) 0 = some (.ref s0)) (k_s0 : K s0 = some 10) (k_s1 : K s1 = some 10) (h5 : et_pl (eg_at G s0) 5 = some (.int (Int32.ofNat ec))) (hec : ec ≤ 3) (t : ezK K ya yb O A) (hz : ez G th s0 s1 ya yb O A V) (ho : ∀ n, n < 6 → evo (V n)) (g2 : et_pl (eg_at G s0) 2 = some (.int (Int32.ofNat nc))) (hnc : nc ≤ 20) (hcc : ccP G s0 la ly nc X Y) (k_la : K la = some 17) (k_ly : K ly = some 27) (k_out : K out = some 31) (hsy : syB K G th) (hnv : nzV V) (hb : b ≤ 1) (hd : 34 ≤ d2) : et_go none d2 28 0 (eg_en (eg_mL 28) [.ref th, .int x, .int y, .int (Int32.ofNat b), .ref out]) [] G 0 0 (fun u => (¬ xr x ec ∧ u.1 = .inl (some (.int (Int32.ofNat 1))) ∧ u.2.1 = G) ∨ ∃ n, (x = Int32.ofNat n ∧ n < ec) ∧ ((¬ (1 ≤ y.toInt ∧ y.toInt ≤ 2) ∧ u.1 = .inl (some (.int (Int32.ofNat 2))) ∧ u.2.1 = G) ∨ ∃ k, (y = Int32.ofNat k ∧ 1 ≤ k ∧ k ≤ 2) ∧ u.1 = .inl (some (.int (Int32.ofNat 0))) ∧ et_pl (eg_at u.2.1 out) 0 = some (.long (rdV (V n) X Y nc k b).toInt64))) := by
  obtain ⟨se, q5e, tA, tR, tS, td, be, sy, t8, hsR⟩ := hsy
  by_cases hx : xr x ec
  · obtain ⟨n, rfl, hn⟩ := xr_nat hx (by omega)
    by_cases hs3 : (1 ≤ y.toInt ∧ y.toInt ≤ 2)
    · obtain ⟨k, rfl, q2, q3⟩ := hs_toN (x := y) (by omega)
      exact (fh_read hH k_th h0 k_s0 h5 hec hz.1.1 t.1.1 hn (hz.2.1 n (by omega)).1 (t.ev (ho n (by omega)) (by omega)) (hz.2.2.1 n (by omega)) g2 hnc hcc k_la k_ly t8 hsR q5e (hnv n (by omega)) k_out (by omega) (by omega) hb (by omega)).mono (fun u hu => .inr ⟨n, ⟨rfl, hn⟩, .inr ⟨k, ⟨rfl, by omega, by omega⟩, hu.1, hu.2⟩⟩)
    · exact (fh_readR hH k_th h0 k_s0 h5 hec hz.1.1 t.1.1 hn (hz.2.1 n (by omega)).1 hs3 (by omega)).mono (fun u hu => .inr ⟨n, ⟨rfl, hn⟩, .inl ⟨hs3, hu.1, hu.2⟩⟩)
  · exact (fh_readE hH k_th h0 k_s0 h5 hec hz.1.1 t.1.1 hx (by omega)).mono (fun u hu => .inl ⟨hx, hu.1, hu.2⟩)
end AKC
end
section
/-! read: the reference -/
def rvI (G : eg_G) (am aw va tr be yo n nc : Nat) (v : evT) (X : Nat → Int32) (Y : Nat → Nat) : Prop := tsI G am aw va tr be n nc v.1 (fun p u => vaI (v.2.1 u) (v.2.2.1 u) (X p)) X Y ∧ evm G aw n v ∧ et_pl (eg_at G am) 35 = some (.ref yo)
def rvK (K : et_K) (am aw va tr be yo : Nat) : Prop := tsK K am aw va tr be ∧ K yo = some 19
theorem rvI.mv {K : et_K} {G G' : eg_G} {S : Nat → Nat → Prop} {am aw va tr be yo n nc : Nat} {v : evT} {X : Nat → Int32} {Y : Nat → Nat} (h : rvI G am aw va tr be yo n nc v X Y) (hH : et_H et_TT K G) (hK : rvK K am aw va tr be yo) (hW : v.1 ≤ 6) (x : xf S G G') (hs : ∀ b j, S b j → (b = am ∧ 23 ≤ j ∧ j ≤ 29) ∨ b = tr ∨ b = yo) : rvI G' am aw va tr be yo n nc v X Y := by
  obtain ⟨⟨k_am, k_aw, k_va, k_tr, k_be⟩, k_yo⟩ := hK
  have lt : ∀ a t, K a = some t → a < G.2 := fun a t ha => (hH.2.2 a t ha).1
  have f0 : ∀ a t, K a = some t → ¬ t = 13 → ¬ t = 49 → ¬ t = 19 → ∀ j, et_pl (eg_at G' a) j = et_pl (eg_at G a) j := fun a t ha n1 n2 n3 j => x.2 a j (lt _ _ ha) (fun q => by
    rcases hs _ _ q with ⟨q, -⟩ | q | q
    · rw [q, k_am] at ha
      exact n1 (Option.some.inj ha).symm
    · rw [q, k_tr] at ha
      exact n2 (Option.some.inj ha).symm
    · rw [q, k_yo] at ha
      exact n3 (Option.some.inj ha).symm)
  have f1 : ∀ j, ¬ (23 ≤ j ∧ j ≤ 29) → et_pl (eg_at G' am) j = et_pl (eg_at G am) j := fun j hj => x.2 am j (lt _ _ k_am) (fun q => by
    rcases hs _ _ q with ⟨-, q⟩ | q | q
    · exact hj q
    · exact hi_ne k_am k_tr (by decide) q
    · exact hi_ne k_am k_yo (by decide) q)
  have f2 := f0 aw _ k_aw (by decide) (by decide) (by decide)
  have f3 := f0 va _ k_va (by decide) (by decide) (by decide)
  obtain ⟨⟨⟨a1, a2, a3, a4⟩, b, c, e, f⟩, g, i⟩ := h
  exact ⟨⟨⟨(f1 1 (by decide)).trans a1, (f1 20 (by decide)).trans a2, (f1 21 (by decide)).trans a3, (f1 22 (by decide)).trans a4⟩, (f2 _).trans b, (f2 _).trans c, fun k hk => ⟨(f2 _).trans (e k hk).1, (f2 _).trans (e k hk).2.1, (e k hk).2.2⟩, fun p u hp hu => (f3 _).trans (f p u hp hu)⟩, evM.mv g (fun j _ => f2 _) hW, (f1 35 (by decide)).trans i⟩
theorem kvL_s {k m : Nat} (u : Nat) : m / (2 * k + 1) ^ u / (2 * k + 1) = m / (2 * k + 1) ^ (u + 1) := by rw [Nat.div_div_eq_div_mul, Nat.pow_succ]
theorem kvL_0 {k m : Nat} : m / (2 * k + 1) ^ 0 = m := by rw [Nat.pow_zero, Nat.div_one]
theorem se_tr {v : evT} {T X : Nat → Int32} {c : Nat} : trN T (fun u => vaI (v.2.1 u) (v.2.2.1 u) (X c)) v.1 = seS v T X c := trN_su v.1
theorem bs_s1 {f : Nat → Int32} {m : Nat} (h : f (m + 1) < f (bsF f m)) : bsF f (m + 1) = m + 1 := if_pos h
theorem bs_s2 {f : Nat → Int32} {m : Nat} (h : ¬ f (m + 1) < f (bsF f m)) : bsF f (m + 1) = bsF f m := if_neg h
theorem dg_d {a b : Nat} (ha : a < 2147483648) (hb : b < 2147483648) : Int32.ofNat a / Int32.ofNat b = Int32.ofNat (a / b) := by
  have h : a / b ≤ a := Nat.div_le_self a b
  apply Int32.toInt_inj.mp
  rw [Int32.toInt_div, hs_nint ha, hs_nint hb, hs_nint (by omega), ← Int.ofNat_tdiv]
  generalize a / b = q at h
  exact et_bm (by unfold et_mn; omega) (by unfold et_mx; omega)
theorem dg_r {a b : Nat} (ha : a < 2147483648) (hb : b < 2147483648) : Int32.ofNat a - Int32.ofNat a / Int32.ofNat b * Int32.ofNat b = Int32.ofNat (a % b) := by
  have h1 := Nat.div_mul_le_self a b
  have h2 := Nat.div_add_mod a b
  rw [Nat.mul_comm] at h2
  rw [dg_d ha hb, hs_nmul, hs_nsub h1, show a - a / b * b = a % b by omega]
section ALA
variable {K : et_K} {G G0 : eg_G} {Z : eg_O → Prop} {am aw va tr be yo d d2 n nc c q m : Nat} {v : evT} {T : Nat → Int32} {X : Nat → Int32} {Y : Nat → Nat} {g : Nat → Int32} {e0 lo hi : Int32} {x4 x5 x6 x7 : Option Value}
theorem fn_ask (hc : c < 31) : et_go none d2 290 0 (eg_en (eg_mL 290) [.int (Int32.ofNat c)]) [] G 0 0 (xp_Z G (some (.int (asC c)))) := by
  rw [show eg_mL 290 = 1 from by decide +kernel]
  show et_go none d2 290 0 [some (.int (Int32.ofNat c))] [] G 0 0 _
  refine hs_iload (i := 0) (p := 1) (by decide +kernel) rfl ?_
  refine hs_k (x := Int32.ofNat 16) (p := 3) (by decide +kernel) ?_
  refine hs_br2n (c := .ge) (t := 12) (f := 6) (by decide +kernel) (by omega) (by omega) (fun (c3 : 16 ≤ c) => ?_) (fun (c3 : ¬ (16 ≤ c)) => ?_)
  · refine hs_k (x := Int32.ofNat 3) (p := 13) (by decide +kernel) ?_
    refine hs_iload (i := 0) (p := 14) (by decide +kernel) rfl ?_
    refine hs_k (x := Int32.ofNat 16) (p := 16) (by decide +kernel) ?_
    refine hs_isubn (p := 17) (by decide +kernel) (by omega) ?_
    refine hs_st (ins := .ishl) (len := 1) (p := 18) (by decide +kernel) rfl rfl ?_
    show et_go none _ 290 18 _ [.int (Int32.ofNat 3 <<< (Int32.ofNat (c - 16) &&& 31))] _ _ _ _
    rw [← asC_2 (by omega)]
    refine hs_iret (by decide +kernel) ?_
    rfl
  · refine hs_k (x := Int32.ofNat 1) (p := 7) (by decide +kernel) ?_
    refine hs_iload (i := 0) (p := 8) (by decide +kernel) rfl ?_
    refine hs_st (ins := .ishl) (len := 1) (p := 9) (by decide +kernel) rfl rfl ?_
    show et_go none _ 290 9 _ [.int (Int32.ofNat 1 <<< (Int32.ofNat c &&& 31))] _ _ _ _
    rw [← asC_1 (by omega)]
    refine hs_goto (p := 18) (by decide +kernel) ?_
    refine hs_iret (by decide +kernel) ?_
    rfl
theorem fn_trS (hH : et_H et_TT K G) (hK : rvK K am aw va tr be yo) (hn : n < 3) (ho : evo v) (hnc : nc ≤ 20) (hrv : rvI G am aw va tr be yo n nc v X Y) (hT : ∀ u, u < v.1 → et_pl (eg_at G tr) u = some (.int (T u))) (hc : c < nc) (hd : 2 ≤ d2) : et_go none d2 258 0 (eg_en (eg_mL 258) [.ref am, .int (Int32.ofNat n), .int (Int32.ofNat c)]) [] G 0 0 (xp_Z G (some (.int (seS v T X c)))) := by
  have k_am := hK.1.1
  have k_aw := hK.1.2.1
  have k_va := hK.1.2.2.1
  have k_tr := hK.1.2.2.2.1
  have k_be := hK.1.2.2.2.2
  have k_yo := hK.2
  have hw6 := ho.1.1
  have m1 := hrv.1.1.1
  have m20 := hrv.1.1.2.1
  have m21 := hrv.1.1.2.2.1
  have hz := hrv.1.2.1
  have w3 := hrv.1.2.2.1
  have hcr := hrv.1.2.2.2.1
  have hV := hrv.1.2.2.2.2
  have hev := hrv.2.1
  have m35 := hrv.2.2
  have h9 := fn_tr (d2 := d2) (T := T) (V := fun u => vaI (v.2.1 u) (v.2.2.1 u) (X c)) (c := c) hH k_am k_aw m1 hn hz hw6 m20 k_va m21 k_tr hT (by omega) (fun u hu => hV c u hc hu) hd
  rw [se_tr] at h9
  exact h9
theorem fn_rtA (hH : et_H et_TT K G) (hK : rvK K am aw va tr be yo) (hn : n < 3) (ho : evo v) (hnc : nc ≤ 20) (hrv : rvI G am aw va tr be yo n nc v X Y) (hT : ∀ u, u < v.1 → et_pl (eg_at G tr) u = some (.int (T u))) (hc : c ≤ nc) (h : ∀ x5 : Option Value, et_go none (d + 4) 289 61 [some (.ref am), some (.int (Int32.ofNat n)), some (.int (rlI (seS v T X) Y nc)), some (.int (rhI (seS v T X) Y nc)), some (.int (Int32.ofNat nc)), x5, x6] [] G 0 0 Z) : et_go none (d + 4) 289 9 [some (.ref am), some (.int (Int32.ofNat n)), some (.int (rlI (seS v T X) Y c)), some (.int (rhI (seS v T X) Y c)), some (.int (Int32.ofNat c)), x5, x6] [] G 0 0 Z := by
  induction hq9 : nc - c using Nat.strongRecOn generalizing c x5 with
  | _ q9 ih =>
    have k_am := hK.1.1
    have k_aw := hK.1.2.1
    have k_va := hK.1.2.2.1
    have k_tr := hK.1.2.2.2.1
    have k_be := hK.1.2.2.2.2
    have k_yo := hK.2
    have hw6 := ho.1.1
    have m1 := hrv.1.1.1
    have m20 := hrv.1.1.2.1
    have m21 := hrv.1.1.2.2.1
    have hz := hrv.1.2.1
    have w3 := hrv.1.2.2.1
    have hcr := hrv.1.2.2.2.1
    have hV := hrv.1.2.2.2.2
    have hev := hrv.2.1
    have m35 := hrv.2.2
    have hY1 : c < nc → Y c ≤ 1 := fun h9 => (hcr c h9).2.2
    have lt_am := (hH.2.2 _ _ k_am).1
    have lt_aw := (hH.2.2 _ _ k_aw).1
    have lt_va := (hH.2.2 _ _ k_va).1
    have lt_tr := (hH.2.2 _ _ k_tr).1
    have lt_yo := (hH.2.2 _ _ k_yo).1
    refine hs_iload (i := 4) (p := 11) (by decide +kernel) rfl ?_
    refine hs_aload (i := 0) (p := 12) (by decide +kernel) rfl ?_
    refine ht_callv (T := et_TT) (t := 13) (mi := 218) (na := 0) (ci := 11) (lk := 7) (lm := 1) (L0 := eg_en (eg_mL 218) [.ref am]) (by decide +kernel) rfl hH k_am rfl rfl rfl rfl rfl (by rw [show eg_mL 218 = 1 from by decide +kernel]; first | done | rfl) ?_
    refine (fm_cards hH k_am k_aw m1 w3).mono (fun u hu => xp_cb hu ?_)
    show et_go none _ 289 15 _ [.int (Int32.ofNat nc), .int (Int32.ofNat c)] _ _ _ _
    refine hs_br2n (c := .ge) (t := 61) (f := 18) (by decide +kernel) (by omega) (by omega) (fun (c15 : nc ≤ c) => ?_) (fun (c15 : ¬ (nc ≤ c)) => ?_)
    · obtain rfl : c = nc := by omega
      exact h _
    · refine hs_aload (i := 0) (p := 19) (by decide +kernel) rfl ?_
      refine hs_iload (i := 1) (p := 20) (by decide +kernel) rfl ?_
      refine hs_iload (i := 4) (p := 22) (by decide +kernel) rfl ?_
      refine ht_callv (T := et_TT) (t := 13) (mi := 258) (na := 2) (ci := 11) (lk := 7) (lm := 5) (L0 := eg_en (eg_mL 258) [.ref am, .int (Int32.ofNat n), .int (Int32.ofNat c)]) (by decide +kernel) rfl hH k_am rfl rfl rfl rfl rfl (by rw [show eg_mL 258 = 5 from by decide +kernel]; first | done | rfl) ?_
      refine (fn_trS hH hK hn ho hnc hrv hT (by omega) (by omega)).mono (fun u hu => xp_cb hu ?_)
      show et_go none _ 289 25 _ [.int (seS v T X c)] _ _ _ _
      refine hs_istore (i := 5) (p := 27) (by decide +kernel) (Nat.le_of_ble_eq_true rfl) ?_
      refine hs_aload (i := 0) (p := 28) (by decide +kernel) rfl ?_
      refine hs_iload (i := 4) (p := 30) (by decide +kernel) rfl ?_
      refine ht_callv (T := et_TT) (t := 13) (mi := 240) (na := 1) (ci := 11) (lk := 7) (lm := 2) (L0 := eg_en (eg_mL 240) [.ref am, .int (Int32.ofNat c)]) (by decide +kernel) rfl hH k_am rfl rfl rfl rfl rfl (by rw [show eg_mL 240 = 2 from by decide +kernel]; first | done | rfl) ?_
      refine (fm_isYes hH k_am k_aw m1 (by omega) (hcr c (by omega)).2.2 (hcr c (by omega)).2.1).mono (fun u hu => xp_cb hu ?_)
      show et_go none _ 289 33 _ [.int (Int32.ofNat (Y c))] _ _ _ _
      refine hs_br1 (c := .eq) (t := 48) (f := 36) (by decide +kernel) (fun (c33 : Int32.ofNat (Y c) = 0) => ?_) (fun (c33 : ¬ (Int32.ofNat (Y c) = 0)) => ?_)
      · refine hs_iload (i := 2) (p := 49) (by decide +kernel) rfl ?_
        refine hs_iload (i := 5) (p := 51) (by decide +kernel) rfl ?_
        refine hs_math (mi := 310) (lk := 7) (p := 54) (by decide +kernel) rfl rfl rfl rfl ?_
        rw [show (if (rlI (seS v T X) Y c) < (seS v T X c) then (seS v T X c) else (rlI (seS v T X) Y c)) = (mxI (rlI (seS v T X) Y c) (seS v T X c)) from rfl]
        refine hs_istore (i := 2) (p := 55) (by decide +kernel) (Nat.le_of_ble_eq_true rfl) ?_
        refine hs_iinc1 (i := 4) (p := 58) (by decide +kernel) rfl (Nat.le_of_ble_eq_true rfl) ?_
        refine hs_goto (p := 9) (by decide +kernel) ?_
        have y9 : ¬ Y c = 1 := fun e => by
          rw [e] at c33
          exact absurd c33 (by decide)
        have e2 : rlI (seS v T X) Y (c + 1) = (mxI (rlI (seS v T X) Y c) (seS v T X c)) := (if_neg y9)
        have e3 : rhI (seS v T X) Y (c + 1) = (rhI (seS v T X) Y c) := (if_neg y9)
        have h9 := fun x5 => ih (nc - (c + 1)) (by omega) (c := c + 1) (x5 := x5) (by omega) rfl
        rw [e2, e3] at h9
        exact h9 _
      · refine hs_iload (i := 3) (p := 37) (by decide +kernel) rfl ?_
        refine hs_iload (i := 5) (p := 39) (by decide +kernel) rfl ?_
        refine hs_k (x := Int32.ofNat 1) (p := 40) (by decide +kernel) ?_
        refine hs_isub (p := 41) (by decide +kernel) ?_
        refine hs_math (mi := 311) (lk := 7) (p := 44) (by decide +kernel) rfl rfl rfl rfl ?_
        rw [show (if ((seS v T X c) - Int32.ofNat 1) < (rhI (seS v T X) Y c) then ((seS v T X c) - Int32.ofNat 1) else (rhI (seS v T X) Y c)) = (mnI (rhI (seS v T X) Y c) ((seS v T X c) - Int32.ofNat 1)) from rfl]
        refine hs_istore (i := 3) (p := 45) (by decide +kernel) (Nat.le_of_ble_eq_true rfl) ?_
        refine hs_goto (p := 55) (by decide +kernel) ?_
        refine hs_iinc1 (i := 4) (p := 58) (by decide +kernel) rfl (Nat.le_of_ble_eq_true rfl) ?_
        refine hs_goto (p := 9) (by decide +kernel) ?_
        have y9 : Y c = 1 := by
          have h1 := hY1 (by omega)
          by_cases e : Y c = 0
          · rw [e] at c33
            exact absurd (show Int32.ofNat 0 = 0 by decide) c33
          · omega
        have e2 : rlI (seS v T X) Y (c + 1) = (rlI (seS v T X) Y c) := (if_pos y9)
        have e3 : rhI (seS v T X) Y (c + 1) = (mnI (rhI (seS v T X) Y c) ((seS v T X c) - Int32.ofNat 1)) := (if_pos y9)
        have h9 := fun x5 => ih (nc - (c + 1)) (by omega) (c := c + 1) (x5 := x5) (by omega) rfl
        rw [e2, e3] at h9
        exact h9 _
theorem fn_rtC (hH : et_H et_TT K G) (hK : rvK K am aw va tr be yo) (hn : n < 3) (ho : evo v) (hnc : nc ≤ 20) (hrv : rvI G am aw va tr be yo n nc v X Y) (hT : ∀ u, u < v.1 → et_pl (eg_at G tr) u = some (.int (T u))) (hq : q < 31) (hm : m ≤ v.1) (h : et_go none (d + 4) 289 138 [some (.ref am), some (.int (Int32.ofNat n)), some (.int lo), some (.int hi), some (.int (Int32.ofNat q)), some (.int (suN v.2.1 v.2.2.1 T (asC q) v.1)), some (.int (Int32.ofNat v.1))] [] G 0 0 Z) : et_go none (d + 4) 289 97 [some (.ref am), some (.int (Int32.ofNat n)), some (.int lo), some (.int hi), some (.int (Int32.ofNat q)), some (.int (suN v.2.1 v.2.2.1 T (asC q) m)), some (.int (Int32.ofNat m))] [] G 0 0 Z := by
  induction hq9 : v.1 - m using Nat.strongRecOn generalizing m with
  | _ q9 ih =>
    have k_am := hK.1.1
    have k_aw := hK.1.2.1
    have k_va := hK.1.2.2.1
    have k_tr := hK.1.2.2.2.1
    have k_be := hK.1.2.2.2.2
    have k_yo := hK.2
    have hw6 := ho.1.1
    have m1 := hrv.1.1.1
    have m20 := hrv.1.1.2.1
    have m21 := hrv.1.1.2.2.1
    have hz := hrv.1.2.1
    have w3 := hrv.1.2.2.1
    have hcr := hrv.1.2.2.2.1
    have hV := hrv.1.2.2.2.2
    have hev := hrv.2.1
    have m35 := hrv.2.2
    have lt_am := (hH.2.2 _ _ k_am).1
    have lt_aw := (hH.2.2 _ _ k_aw).1
    have lt_va := (hH.2.2 _ _ k_va).1
    have lt_tr := (hH.2.2 _ _ k_tr).1
    have lt_yo := (hH.2.2 _ _ k_yo).1
    refine hs_iload (i := 6) (p := 99) (by decide +kernel) rfl ?_
    refine hs_aload (i := 0) (p := 100) (by decide +kernel) rfl ?_
    refine hs_iload (i := 1) (p := 101) (by decide +kernel) rfl ?_
    refine ht_callv (T := et_TT) (t := 13) (mi := 224) (na := 1) (ci := 11) (lk := 7) (lm := 2) (L0 := eg_en (eg_mL 224) [.ref am, .int (Int32.ofNat n)]) (by decide +kernel) rfl hH k_am rfl rfl rfl rfl rfl (by rw [show eg_mL 224 = 2 from by decide +kernel]; first | done | rfl) ?_
    refine (fn_wires hH k_am k_aw m1 hn hz (by omega)).mono (fun u hu => xp_cb hu ?_)
    show et_go none _ 289 104 _ [.int (Int32.ofNat v.1), .int (Int32.ofNat m)] _ _ _ _
    refine hs_br2n (c := .ge) (t := 138) (f := 107) (by decide +kernel) (by omega) (by omega) (fun (c104 : v.1 ≤ m) => ?_) (fun (c104 : ¬ (v.1 ≤ m)) => ?_)
    · obtain rfl : m = v.1 := by omega
      exact h
    · refine hs_iload (i := 5) (p := 109) (by decide +kernel) rfl ?_
      refine hs_aload (i := 0) (p := 110) (by decide +kernel) rfl ?_
      refine hf_get (T := et_TT) (t := 13) (ci := 11) (f := 21) (p := 113) (by decide +kernel) rfl hH k_am m21 ?_
      refine hs_iload (i := 6) (p := 115) (by decide +kernel) rfl ?_
      refine hf_ald (ins := .iaload) (T := et_TT) (t := 49) (kd := 0) (N := 6) (p := 116) (by decide +kernel) (fun _ _ _ _ _ _ _ _ _ _ => rfl) rfl rfl rfl hH k_tr (by decide) (hT m (by omega)) ?_
      refine hs_aload (i := 0) (p := 117) (by decide +kernel) rfl ?_
      refine hs_iload (i := 1) (p := 118) (by decide +kernel) rfl ?_
      refine hs_iload (i := 6) (p := 120) (by decide +kernel) rfl ?_
      refine hs_iload (i := 4) (p := 122) (by decide +kernel) rfl ?_
      refine hs_calls (mi := 290) (na := 1) (lk := 7) (lm := 1) (L0 := eg_en (eg_mL 290) [.int (Int32.ofNat q)]) (by decide +kernel) rfl rfl rfl rfl rfl rfl (by rw [show eg_mL 290 = 1 from by decide +kernel]; first | done | rfl) ?_
      refine (fn_ask (by omega)).mono (fun u hu => xp_cb hu ?_)
      show et_go none _ 289 125 _ [.int (asC q), .int (Int32.ofNat m), .int (Int32.ofNat n), .ref am, .int (T m), .int (suN v.2.1 v.2.2.1 T (asC q) m)] _ _ _ _
      refine ht_callv (T := et_TT) (t := 13) (mi := 238) (na := 3) (ci := 11) (lk := 7) (lm := 4) (L0 := eg_en (eg_mL 238) [.ref am, .int (Int32.ofNat n), .int (Int32.ofNat m), .int (asC q)]) (by decide +kernel) rfl hH k_am rfl rfl rfl rfl rfl (by rw [show eg_mL 238 = 4 from by decide +kernel]; first | done | rfl) ?_
      refine (fn_val hH k_am k_aw m1 hn ho.1.1 ho.1.2 hev (by omega) (by omega)).mono (fun u hu => xp_cb hu ?_)
      show et_go none _ 289 128 _ [.int (vaI (v.2.1 m) (v.2.2.1 m) (asC q)), .int (T m), .int (suN v.2.1 v.2.2.1 T (asC q) m)] _ _ _ _
      refine hs_imul (p := 129) (by decide +kernel) ?_
      refine hs_iadd (p := 130) (by decide +kernel) ?_
      refine hs_istore (i := 5) (p := 132) (by decide +kernel) (Nat.le_of_ble_eq_true rfl) ?_
      refine hs_iinc1 (i := 6) (p := 135) (by decide +kernel) rfl (Nat.le_of_ble_eq_true rfl) ?_
      refine hs_goto (p := 97) (by decide +kernel) ?_
      exact ih (v.1 - (m + 1)) (by omega) (by omega) rfl
theorem fn_rtB (hH0 : et_H et_TT K G0) (hH : et_H et_TT K G) (hK : rvK K am aw va tr be yo) (hn : n < 3) (ho : evo v) (hnc : nc ≤ 20) (hrv : rvI G am aw va tr be yo n nc v X Y) (hT : ∀ u, u < v.1 → et_pl (eg_at G tr) u = some (.int (T u))) (hX : xf (fun b _ => b = yo) G0 G) (hD : (∀ j, j < q → et_pl (eg_at G yo) j = some (.int (g j + mxI (Int32.ofNat 0) (mnI hi ((suN v.2.1 v.2.2.1 T (asC j) v.1) - Int32.ofNat 1) - lo + Int32.ofNat 1))))) (hO : (∀ j, q ≤ j → j < 31 → et_pl (eg_at G yo) j = some (.int (g j)))) (hq : q ≤ 31) : et_go none (d + 4) 289 84 [some (.ref am), some (.int (Int32.ofNat n)), some (.int lo), some (.int hi), some (.int (Int32.ofNat q)), x5, x6] [] G 0 0 (xw_Z (fun b _ => b = yo) K G0 (fun g9 v9 => v9 = none ∧ (∀ j, j < 31 → et_pl (eg_at g9 yo) j = some (.int (g j + mxI (Int32.ofNat 0) (mnI hi ((suN v.2.1 v.2.2.1 T (asC j) v.1) - Int32.ofNat 1) - lo + Int32.ofNat 1)))))) := by
  induction hq9 : 31 - q using Nat.strongRecOn generalizing q G x5 x6 with
  | _ q9 ih =>
    have k_am := hK.1.1
    have k_aw := hK.1.2.1
    have k_va := hK.1.2.2.1
    have k_tr := hK.1.2.2.2.1
    have k_be := hK.1.2.2.2.2
    have k_yo := hK.2
    have hw6 := ho.1.1
    have m1 := hrv.1.1.1
    have m20 := hrv.1.1.2.1
    have m21 := hrv.1.1.2.2.1
    have hz := hrv.1.2.1
    have w3 := hrv.1.2.2.1
    have hcr := hrv.1.2.2.2.1
    have hV := hrv.1.2.2.2.2
    have hev := hrv.2.1
    have m35 := hrv.2.2
    have lt_am := (hH.2.2 _ _ k_am).1
    have lt_aw := (hH.2.2 _ _ k_aw).1
    have lt_va := (hH.2.2 _ _ k_va).1
    have lt_tr := (hH.2.2 _ _ k_tr).1
    have lt_yo := (hH.2.2 _ _ k_yo).1
    refine hs_iload (i := 4) (p := 86) (by decide +kernel) rfl ?_
    refine hs_k (x := Int32.ofNat 31) (p := 88) (by decide +kernel) ?_
    refine hs_br2n (c := .ge) (t := 170) (f := 91) (by decide +kernel) (by omega) (by omega) (fun (c88 : 31 ≤ q) => ?_) (fun (c88 : ¬ (31 ≤ q)) => ?_)
    · refine hs_vret (by decide +kernel) ?_
      obtain rfl : q = 31 := by omega
      exact ⟨_, _, rfl, hH, hX, rfl, hD⟩
    · refine hs_k (x := Int32.ofNat 0) (p := 92) (by decide +kernel) ?_
      refine hs_istore (i := 5) (p := 94) (by decide +kernel) (Nat.le_of_ble_eq_true rfl) ?_
      refine hs_k (x := Int32.ofNat 0) (p := 95) (by decide +kernel) ?_
      refine hs_istore (i := 6) (p := 97) (by decide +kernel) (Nat.le_of_ble_eq_true rfl) ?_
      refine fn_rtC (d := d) (m := 0) hH hK hn ho hnc hrv hT (by omega) (Nat.zero_le _) ?_
      refine hs_aload (i := 0) (p := 139) (by decide +kernel) rfl ?_
      refine hf_get (T := et_TT) (t := 13) (ci := 11) (f := 35) (p := 142) (by decide +kernel) rfl hH k_am m35 ?_
      refine hs_iload (i := 4) (p := 144) (by decide +kernel) rfl ?_
      refine hs_dup2 (p := 145) (by decide +kernel) ?_
      refine hf_ald (ins := .iaload) (T := et_TT) (t := 19) (kd := 0) (N := 31) (p := 146) (by decide +kernel) (fun _ _ _ _ _ _ _ _ _ _ => rfl) rfl rfl rfl hH k_yo (by decide) (hO q (Nat.le_refl q) (by omega)) ?_
      refine hs_k (x := Int32.ofNat 0) (p := 147) (by decide +kernel) ?_
      refine hs_iload (i := 3) (p := 148) (by decide +kernel) rfl ?_
      refine hs_iload (i := 5) (p := 150) (by decide +kernel) rfl ?_
      refine hs_k (x := Int32.ofNat 1) (p := 151) (by decide +kernel) ?_
      refine hs_isub (p := 152) (by decide +kernel) ?_
      refine hs_math (mi := 311) (lk := 7) (p := 155) (by decide +kernel) rfl rfl rfl rfl ?_
      rw [show (if ((suN v.2.1 v.2.2.1 T (asC q) v.1) - Int32.ofNat 1) < hi then ((suN v.2.1 v.2.2.1 T (asC q) v.1) - Int32.ofNat 1) else hi) = (mnI hi ((suN v.2.1 v.2.2.1 T (asC q) v.1) - Int32.ofNat 1)) from rfl]
      refine hs_iload (i := 2) (p := 156) (by decide +kernel) rfl ?_
      refine hs_isub (p := 157) (by decide +kernel) ?_
      refine hs_k (x := Int32.ofNat 1) (p := 158) (by decide +kernel) ?_
      refine hs_iadd (p := 159) (by decide +kernel) ?_
      refine hs_math (mi := 310) (lk := 7) (p := 162) (by decide +kernel) rfl rfl rfl rfl ?_
      rw [show (if Int32.ofNat 0 < (((mnI hi ((suN v.2.1 v.2.2.1 T (asC q) v.1) - Int32.ofNat 1)) - lo) + Int32.ofNat 1) then (((mnI hi ((suN v.2.1 v.2.2.1 T (asC q) v.1) - Int32.ofNat 1)) - lo) + Int32.ofNat 1) else Int32.ofNat 0) = (mxI (Int32.ofNat 0) (((mnI hi ((suN v.2.1 v.2.2.1 T (asC q) v.1) - Int32.ofNat 1)) - lo) + Int32.ofNat 1)) from rfl]
      refine hs_iadd (p := 163) (by decide +kernel) ?_
      have hHo := hH
      refine hf_ist (T := et_TT) (t := 19) (N := 31) (p := 164) (by decide +kernel) rfl rfl (by decide) hH k_yo (by omega) (by decide) (fun s hs => absurd hs List.not_mem_nil) (fun G163 hH x163 e163 => ?_)
      have hrv := hrv.mv hHo hK ho.1.1 x163 (fun b j h => .inr (.inr h.1))
      have hT : ∀ u, u < v.1 → et_pl (eg_at G163 tr) u = some (.int (T u)) := fun u hu => (x163.2 tr u lt_tr (fun h => hi_ne k_tr k_yo (by decide) h.1)).trans (hT u hu)
      have hD2 : (∀ j, j < (q + 1) → et_pl (eg_at G163 yo) j = some (.int (g j + mxI (Int32.ofNat 0) (mnI hi ((suN v.2.1 v.2.2.1 T (asC j) v.1) - Int32.ofNat 1) - lo + Int32.ofNat 1)))) := fun j hj => by
        by_cases ej : j = q
        · rw [ej]; exact e163
        · exact (x163.2 yo j lt_yo (fun h => by have h := h.2; omega)).trans (hD j (by omega))
      have hO2 : (∀ j, (q + 1) ≤ j → j < 31 → et_pl (eg_at G163 yo) j = some (.int (g j))) := fun j h1 h2 => (x163.2 yo j lt_yo (fun h => by have h := h.2; omega)).trans (hO j (by omega) h2)
      have hX := hX.tr x163 (fun b j _ h => h.1)
      refine hs_iinc1 (i := 4) (p := 167) (by decide +kernel) rfl (Nat.le_of_ble_eq_true rfl) ?_
      refine hs_goto (p := 84) (by decide +kernel) ?_
      exact ih (31 - (q + 1)) (by omega) hH hrv hT hX hD2 hO2 (by omega) rfl
theorem fn_rdt (hH : et_H et_TT K G) (hK : rvK K am aw va tr be yo) (hn : n < 3) (ho : evo v) (hnc : nc ≤ 20) (hrv : rvI G am aw va tr be yo n nc v X Y) (hT : ∀ u, u < v.1 → et_pl (eg_at G tr) u = some (.int (T u))) (m28 : et_pl (eg_at G am) 28 = some (.int e0)) (hg : ∀ j, j < 31 → et_pl (eg_at G yo) j = some (.int (g j))) (hd : 4 ≤ d2) : et_go none d2 289 0 (eg_en (eg_mL 289) [.ref am, .int (Int32.ofNat n)]) [] G 0 0 (xw_Z (fun b j => (b = am ∧ j = 28) ∨ b = yo) K G (fun g9 v9 => v9 = none ∧ et_pl (eg_at g9 am) 28 = some (.int (e0 + reT v X Y nc T)) ∧ ∀ j, j < 31 → et_pl (eg_at g9 yo) j = some (.int (g j + rsT v X Y nc (asC j) T)))) := by
  obtain ⟨d, rfl⟩ : ∃ d, d2 = d + 4 := ⟨d2 - 4, by omega⟩
  rw [show eg_mL 289 = 7 from by decide +kernel]
  show et_go none (d + 4) 289 0 [some (.ref am), some (.int (Int32.ofNat n)), none, none, none, none, none] [] G 0 0 _
  have k_am := hK.1.1
  have k_aw := hK.1.2.1
  have k_va := hK.1.2.2.1
  have k_tr := hK.1.2.2.2.1
  have k_be := hK.1.2.2.2.2
  have k_yo := hK.2
  have hw6 := ho.1.1
  have m1 := hrv.1.1.1
  have m20 := hrv.1.1.2.1
  have m21 := hrv.1.1.2.2.1
  have hz := hrv.1.2.1
  have w3 := hrv.1.2.2.1
  have hcr := hrv.1.2.2.2.1
  have hV := hrv.1.2.2.2.2
  have hev := hrv.2.1
  have m35 := hrv.2.2
  have lt_am := (hH.2.2 _ _ k_am).1
  have lt_aw := (hH.2.2 _ _ k_aw).1
  have lt_va := (hH.2.2 _ _ k_va).1
  have lt_tr := (hH.2.2 _ _ k_tr).1
  have lt_yo := (hH.2.2 _ _ k_yo).1
  refine hs_k (x := (-9)) (p := 2) (by decide +kernel) ?_
  refine hs_istore (i := 2) (p := 3) (by decide +kernel) (Nat.le_of_ble_eq_true rfl) ?_
  refine hs_k (x := Int32.ofNat 9) (p := 5) (by decide +kernel) ?_
  refine hs_istore (i := 3) (p := 6) (by decide +kernel) (Nat.le_of_ble_eq_true rfl) ?_
  refine hs_k (x := Int32.ofNat 0) (p := 7) (by decide +kernel) ?_
  refine hs_istore (i := 4) (p := 9) (by decide +kernel) (Nat.le_of_ble_eq_true rfl) ?_
  refine fn_rtA (d := d) (c := 0) hH hK hn ho hnc hrv hT (Nat.zero_le nc) (fun x5 => ?_)
  refine hs_iload (i := 3) (p := 62) (by decide +kernel) rfl ?_
  refine hs_iload (i := 2) (p := 63) (by decide +kernel) rfl ?_
  refine hs_br2 (c := .ge) (t := 67) (f := 66) (by decide +kernel) (fun (c63 : (rlI (seS v T X) Y nc) ≤ (rhI (seS v T X) Y nc)) => ?_) (fun (c63 : ¬ ((rlI (seS v T X) Y nc) ≤ (rhI (seS v T X) Y nc))) => ?_)
  · refine hs_aload (i := 0) (p := 68) (by decide +kernel) rfl ?_
    refine hs_dup1 (p := 69) (by decide +kernel) ?_
    refine hf_get (T := et_TT) (t := 13) (ci := 11) (f := 28) (p := 72) (by decide +kernel) rfl hH k_am m28 ?_
    refine hs_iload (i := 3) (p := 73) (by decide +kernel) rfl ?_
    refine hs_iload (i := 2) (p := 74) (by decide +kernel) rfl ?_
    refine hs_isub (p := 75) (by decide +kernel) ?_
    refine hs_k (x := Int32.ofNat 1) (p := 76) (by decide +kernel) ?_
    refine hs_iadd (p := 77) (by decide +kernel) ?_
    refine hs_iadd (p := 78) (by decide +kernel) ?_
    have hHo := hH
    refine hf_put (T := et_TT) (t := 13) (ci := 11) (f := 28) (p := 81) (ty := .int) (by decide +kernel) rfl rfl rfl rfl rfl hH k_am hi_any (fun G78 hH x78 e78 => ?_)
    have hrv := hrv.mv hHo hK ho.1.1 x78 (fun b j h => .inl ⟨h.1, by have h := h.2; omega⟩)
    have hT : ∀ u, u < v.1 → et_pl (eg_at G78 tr) u = some (.int (T u)) := fun u hu => (x78.2 tr u lt_tr (fun h => hi_ne k_tr k_am (by decide) h.1)).trans (hT u hu)
    have hg : (∀ j, 0 ≤ j → j < 31 → et_pl (eg_at G78 yo) j = some (.int (g j))) := fun j _ hj => (x78.2 yo j lt_yo (fun h => hi_ne k_yo k_am (by decide) h.1)).trans (hg j hj)
    refine hs_k (x := Int32.ofNat 0) (p := 82) (by decide +kernel) ?_
    refine hs_istore (i := 4) (p := 84) (by decide +kernel) (Nat.le_of_ble_eq_true rfl) ?_
    refine (fn_rtB (d := d) (q := 0) (hi := (rhI (seS v T X) Y nc)) (lo := (rlI (seS v T X) Y nc)) hH hH hK hn ho hnc hrv hT xf.rf (fun j hj => absurd hj (Nat.not_lt_zero j)) hg (Nat.zero_le 31)).mono (fun u9 hu9 => ?_)
    obtain ⟨G9, v9, rfl, hH9, x9, rfl, hD⟩ := hu9
    have hnl : ¬ (rhI (seS v T X) Y nc) < (rlI (seS v T X) Y nc) := fun h9 => by rw [Int32.lt_iff_toInt_lt] at h9; rw [Int32.le_iff_toInt_le] at c63; omega
    refine ⟨_, _, rfl, hH9, (x78.wk (fun b j _ h => .inl h)).tr x9 (fun b j _ h => .inr h), rfl, ?_, fun j hj => ?_⟩
    · rw [show reT v X Y nc T = (rhI (seS v T X) Y nc) - (rlI (seS v T X) Y nc) + Int32.ofNat 1 from reN_n hnl]
      exact (x9.2 am 28 (Nat.lt_of_lt_of_le lt_am x78.1) (fun h => hi_ne k_am k_yo (by decide) h)).trans e78
    · rw [show rsT v X Y nc (asC j) T = mxI (Int32.ofNat 0) (mnI (rhI (seS v T X) Y nc) ((suN v.2.1 v.2.2.1 T (asC j) v.1) - Int32.ofNat 1) - (rlI (seS v T X) Y nc) + Int32.ofNat 1) from rsN_n hnl]
      exact hD j hj
  · refine hs_vret (by decide +kernel) ?_
    have hlt : (rhI (seS v T X) Y nc) < (rlI (seS v T X) Y nc) := by rw [Int32.le_iff_toInt_le] at c63; rw [Int32.lt_iff_toInt_lt]; omega
    refine ⟨_, _, rfl, hH, xf.rf, rfl, ?_, fun j hj => ?_⟩
    · rw [show reT v X Y nc T = Int32.ofNat 0 from reN_z hlt, i32_zr]
      exact m28
    · rw [show rsT v X Y nc (asC j) T = Int32.ofNat 0 from rsN_z hlt, i32_zr]
      exact hg j hj
end ALA
end
