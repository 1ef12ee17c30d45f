section
/-! PHASE D: soonest: what both sides tell -/
/-- right on the first CARDS -/
def roB (v : evT) (X : Nat → Int32) (Y : Nat → Nat) : Nat → Bool
  | 0 => true
  | c + 1 => roB v X Y c && (syE v (X c) == yB (Y c))
theorem roB_f {v : evT} {X : Nat → Int32} {Y : Nat → Nat} {c : Nat} (h : ¬ syE v (X c) = yB (Y c)) : ∀ n, c < n → roB v X Y n = false
  | 0, hc => absurd hc (Nat.not_lt_zero _)
  | n + 1, hc => by
    show (roB v X Y n && (syE v (X n) == yB (Y n))) = false
    by_cases e : c = n
    · subst e
      rw [beq_false_of_ne h, Bool.and_false]
    · rw [roB_f h n (by omega), Bool.false_and]
theorem roB_s {v : evT} {X : Nat → Int32} {Y : Nat → Nat} {c : Nat} (h0 : roB v X Y c = true) (h : syE v (X c) = yB (Y c)) : roB v X Y (c + 1) = true := by
  show (roB v X Y c && (syE v (X c) == yB (Y c))) = true
  rw [h0, h, beq_self_eq_true]
  rfl
/-- what an EYE is while CARDS are shown to it by an order -/
def soS (v : evT) (X : Nat → Int32) (Y : Nat → Nat) (ls : List sp_L) (σ : Nat → Nat) (n : Nat) : Nat → (Nat → Int32) × Int32 × Int32
  | 0 => vN v
  | k + 1 => nxN v.2.1 v.2.2.1 (X (σ (k % n))) v.1 v.2.2.2.2.2.2.1 v.2.2.2.2.2.2.2 ls (yB (Y (σ (k % n)))) (soS v X Y ls σ n k)
/-- the first from k on, within so many more -/
def soL (r : Nat → Bool) : Nat → Nat → Nat
  | 0, k => if r k = true then k else 51
  | f + 1, k => if r k = true then k else soL r f (k + 1)
theorem soL_y {r : Nat → Bool} {k : Nat} (h : r k = true) : ∀ f, soL r f k = k
  | 0 => if_pos h
  | _ + 1 => if_pos h
theorem soL_0 {r : Nat → Bool} {k : Nat} (h : ¬ r k = true) : soL r 0 k = 51 := if_neg h
theorem soL_s {r : Nat → Bool} {f k : Nat} (h : ¬ r k = true) : soL r (f + 1) k = soL r f (k + 1) := if_neg h
theorem soL_ge {r : Nat → Bool} : ∀ f k, k + f ≤ 51 → k ≤ soL r f k
  | 0, k, h => by
    show k ≤ (if r k = true then k else 51)
    split <;> omega
  | f + 1, k, h => by
    have h2 := soL_ge (r := r) f (k + 1) (by omega)
    show k ≤ (if r k = true then k else soL r f (k + 1))
    split <;> omega
theorem soL_le {r : Nat → Bool} : ∀ f k, k + f ≤ 51 → soL r f k ≤ 51
  | 0, k, h => by
    show (if r k = true then k else 51) ≤ 51
    split <;> omega
  | f + 1, k, h => by
    have h2 := soL_le (r := r) f (k + 1) (by omega)
    show (if r k = true then k else soL r f (k + 1)) ≤ 51
    split <;> omega
def soR (v : evT) (X : Nat → Int32) (Y : Nat → Nat) (ls : List sp_L) (n : Nat) (σ : Nat → Nat) (k : Nat) : Bool := roB (vNs v (soS v X Y ls σ n k)) X Y n
/-- how soon by an order (51: not at all) -/
def soG (v : evT) (X : Nat → Int32) (Y : Nat → Nat) (ls : List sp_L) (n : Nat) (σ : Nat → Nat) : Nat := soL (soR v X Y ls n σ) (10 * n) 0
theorem soG_le {v : evT} {X : Nat → Int32} {Y : Nat → Nat} {ls : List sp_L} {n : Nat} {σ : Nat → Nat} (hn : n ≤ 5) : soG v X Y ls n σ ≤ 51 := soL_le _ _ (by omega)
theorem soG_co {v : evT} {X : Nat → Int32} {Y : Nat → Nat} {ls : List sp_L} {n : Nat} {σ τ : Nat → Nat} (h : ∀ p, p < n → σ p = τ p) : soG v X Y ls n σ = soG v X Y ls n τ := by
  by_cases h0 : n = 0
  · subst h0
    exact (soL_y (r := soR v X Y ls 0 σ) (k := 0) rfl _).trans (soL_y (r := soR v X Y ls 0 τ) (k := 0) rfl _).symm
  · have e : ∀ k, soS v X Y ls σ n k = soS v X Y ls τ n k := fun k => by
      induction k with
      | zero => rfl
      | succ k ih =>
        show nxN v.2.1 v.2.2.1 (X (σ (k % n))) v.1 v.2.2.2.2.2.2.1 v.2.2.2.2.2.2.2 ls (yB (Y (σ (k % n)))) (soS v X Y ls σ n k) = nxN v.2.1 v.2.2.1 (X (τ (k % n))) v.1 v.2.2.2.2.2.2.1 v.2.2.2.2.2.2.2 ls (yB (Y (τ (k % n)))) (soS v X Y ls τ n k)
        rw [ih, h _ (Nat.mod_lt _ (by omega))]
    have e2 : soR v X Y ls n σ = soR v X Y ls n τ := funext (fun k => by
      unfold soR
      rw [e k])
    unfold soG
    rw [e2]
/-- the class's orders: the digits of a row -/
def ocN (n row p : Nat) : Nat := row / n ^ p % n
def usN (n row : Nat) : Nat → Nat
  | 0 => 0
  | p + 1 => usN n row p ||| 2 ^ ocN n row p
def clF (g : (Nat → Nat) → Nat) (n : Nat) : Nat → Nat
  | 0 => 51
  | row + 1 => if usN n row n = 2 ^ n - 1 then min (clF g n row) (g (ocN n row)) else clF g n row
/-- the reference's: of the CARDS that are left -/
def pkN (l : Nat) : Nat → Nat → Nat → Nat
  | 0, _, c => c
  | f + 1, w, c => if bt l c = 0 ∨ 0 < w then pkN l f (w - bt l c) (c + 1) else c
def lfN (n code : Nat) : Nat → Nat × Nat
  | 0 => (code, 2 ^ n - 1)
  | k + 1 => match lfN n code k with
    | (r, l) => (r / (n - k), l - 2 ^ pkN l 5 (r % (n - k)) 0)
def orN (n code k : Nat) : Nat := pkN (lfN n code k).2 5 ((lfN n code k).1 % (n - k)) 0
def rfF (g : (Nat → Nat) → Nat) (n : Nat) : Nat → Nat
  | 0 => 51
  | code + 1 => min (rfF g n code) (g (orN n code))
def fcN : Nat → Nat
  | 0 => 1
  | k + 1 => fcN k * (k + 1)
def rwN (n code : Nat) : Nat → Nat
  | 0 => 0
  | p + 1 => rwN n code p + orN n code p * n ^ p
theorem so_row : (List.range 6).all (fun n => (List.range (n ^ n)).all (fun row => !(decide (usN n row n = 2 ^ n - 1)) || (List.range (fcN n)).any (fun code => (List.range n).all (fun p => decide (ocN n row p = orN n code p))))) = true := by decide +kernel
theorem so_code : (List.range 6).all (fun n => (List.range (fcN n)).all (fun code => decide (rwN n code n < n ^ n) && (decide (usN n (rwN n code n) n = 2 ^ n - 1) && (List.range n).all (fun p => decide (ocN n (rwN n code n) p = orN n code p))))) = true := by decide +kernel
theorem so_lft : (List.range 6).all (fun n => (List.range (fcN n)).all (fun code => (List.range n).all (fun k => decide ((lfN n code k).2 < 32) && (decide ((lfN n code k).1 % (n - k) < sp (lfN n code k).2 0) && (decide (orN n code k < n) && decide (bt (lfN n code k).2 (orN n code k) = 1)))))) = true := by decide +kernel
section YRS
variable {g : (Nat → Nat) → Nat} {n b : Nat}
theorem clF_le : ∀ N, clF g n N ≤ 51
  | 0 => Nat.le_refl _
  | N + 1 => by
    have h := clF_le N
    show (if usN n N n = 2 ^ n - 1 then min (clF g n N) (g (ocN n N)) else clF g n N) ≤ 51
    split <;> omega
theorem rfF_le : ∀ N, rfF g n N ≤ 51
  | 0 => Nat.le_refl _
  | N + 1 => by
    have h := rfF_le N
    show min (rfF g n N) (g (orN n N)) ≤ 51
    omega
theorem clF_lt {row : Nat} (hv : usN n row n = 2 ^ n - 1) : ∀ N, row < N → clF g n N ≤ g (ocN n row)
  | 0, h => absurd h (Nat.not_lt_zero _)
  | N + 1, h => by
    show (if usN n N n = 2 ^ n - 1 then min (clF g n N) (g (ocN n N)) else clF g n N) ≤ _
    by_cases e : row = N
    · subst e
      rw [if_pos hv]
      omega
    · have h2 := clF_lt hv N (by omega)
      split <;> omega
theorem rfF_lt {code : Nat} : ∀ N, code < N → rfF g n N ≤ g (orN n code)
  | 0, h => absurd h (Nat.not_lt_zero _)
  | N + 1, h => by
    show min (rfF g n N) (g (orN n N)) ≤ _
    by_cases e : code = N
    · subst e
      omega
    · have h2 := rfF_lt (code := code) N (by omega)
      omega
theorem clF_ge (hb : b ≤ 51) : ∀ N, (∀ row, row < N → usN n row n = 2 ^ n - 1 → b ≤ g (ocN n row)) → b ≤ clF g n N
  | 0, _ => hb
  | N + 1, h => by
    have h2 := clF_ge hb N (fun row hr hv => h row (by omega) hv)
    show b ≤ (if usN n N n = 2 ^ n - 1 then min (clF g n N) (g (ocN n N)) else clF g n N)
    by_cases e : usN n N n = 2 ^ n - 1
    · rw [if_pos e]
      have h3 := h N (by omega) e
      omega
    · rw [if_neg e]
      exact h2
theorem rfF_ge (hb : b ≤ 51) : ∀ N, (∀ code, code < N → b ≤ g (orN n code)) → b ≤ rfF g n N
  | 0, _ => hb
  | N + 1, h => by
    have h2 := rfF_ge hb N (fun code hr => h code (by omega))
    have h3 := h N (by omega)
    show b ≤ min (rfF g n N) (g (orN n N))
    omega
/-- both come to the same -/
theorem so_eq (hn : n ≤ 5) (hg : ∀ σ τ : Nat → Nat, (∀ p, p < n → σ p = τ p) → g σ = g τ) : clF g n (n ^ n) = rfF g n (fcN n) := by
  have hm : n ∈ List.range 6 := List.mem_range.mpr (by omega)
  refine Nat.le_antisymm (rfF_ge (clF_le _) _ (fun code hc => ?_)) (clF_ge (rfF_le _) _ (fun row hr hv => ?_))
  · have h := List.all_eq_true.mp (List.all_eq_true.mp so_code n hm) code (List.mem_range.mpr hc)
    rw [Bool.and_eq_true, Bool.and_eq_true] at h
    obtain ⟨h1, h2, h3⟩ := h
    rw [← hg (ocN n (rwN n code n)) (orN n code) (fun p hp => of_decide_eq_true (List.all_eq_true.mp h3 p (List.mem_range.mpr hp)))]
    exact clF_lt (of_decide_eq_true h2) _ (of_decide_eq_true h1)
  · have h := List.all_eq_true.mp (List.all_eq_true.mp so_row n hm) row (List.mem_range.mpr hr)
    rw [decide_eq_true hv, Bool.not_true, Bool.false_or] at h
    obtain ⟨code, hc, h3⟩ := List.any_eq_true.mp h
    rw [hg (ocN n row) (orN n code) (fun p hp => of_decide_eq_true (List.all_eq_true.mp h3 p (List.mem_range.mpr hp)))]
    exact rfF_lt _ (List.mem_range.mp hc)
end YRS
def snI (F : Nat) : Int32 := if 50 < F then -1 else Int32.ofNat F
theorem so_dr : (List.range 3125).all (fun a => (List.range 5).all (fun n => decide (Int32.ofNat a / Int32.ofNat (n + 1) = Int32.ofNat (a / (n + 1))) && decide (Int32.ofNat a - Int32.ofNat a / Int32.ofNat (n + 1) * Int32.ofNat (n + 1) = Int32.ofNat (a % (n + 1))))) = true := by decide +kernel
theorem so_b {a n : Nat} (ha : a < 3125) (h1 : 1 ≤ n) (h5 : n ≤ 5) : Int32.ofNat a / Int32.ofNat n = Int32.ofNat (a / n) ∧ Int32.ofNat a - Int32.ofNat a / Int32.ofNat n * Int32.ofNat n = Int32.ofNat (a % n) := by
  obtain ⟨m, rfl⟩ : ∃ m, n = m + 1 := ⟨n - 1, by omega⟩
  have h := List.all_eq_true.mp (List.all_eq_true.mp so_dr a (List.mem_range.mpr ha)) m (List.mem_range.mpr (by omega))
  rw [Bool.and_eq_true] at h
  exact ⟨of_decide_eq_true h.1, of_decide_eq_true h.2⟩
theorem so_d {a n : Nat} (ha : a < 3125) (h1 : 1 ≤ n) (h5 : n ≤ 5) : Int32.ofNat a / Int32.ofNat n = Int32.ofNat (a / n) := (so_b ha h1 h5).1
theorem so_r {a n : Nat} (ha : a < 3125) (h1 : 1 ≤ n) (h5 : n ≤ 5) : Int32.ofNat a - Int32.ofNat a / Int32.ofNat n * Int32.ofNat n = Int32.ofNat (a % n) := (so_b ha h1 h5).2
theorem so_nn : ∀ n ∈ List.range 6, n ^ n ≤ 3125 ∧ fcN n ≤ 120 := by decide +kernel
theorem so_or : ∀ u ∈ List.range 32, ∀ q ∈ List.range 5, Int32.ofNat u ||| (Int32.ofNat 1 <<< (Int32.ofNat q &&& 31)) = Int32.ofNat (u ||| 2 ^ q) := by decide +kernel
theorem usN_lt {n row : Nat} (h5 : n ≤ 5) (h1 : 1 ≤ n) : ∀ p, usN n row p < 2 ^ 5
  | 0 => by
    show (0 : Nat) < 2 ^ 5
    decide
  | p + 1 => Nat.or_lt_two_pow (usN_lt h5 h1 p) (Nat.pow_lt_pow_right (by decide) (Nat.lt_of_lt_of_le (Nat.mod_lt _ h1) h5))
theorem mn_I {a b : Nat} (ha : a < 2147483648) (hb : b < 2147483648) : (if Int32.ofNat a < Int32.ofNat b then Int32.ofNat a else Int32.ofNat b) = Int32.ofNat (min b a) := by
  by_cases h : a < b
  · rw [if_pos (Int32.lt_iff_toInt_lt.mpr (by rw [hs_nint ha, hs_nint hb]; omega)), show min b a = a by omega]
  · rw [if_neg (fun h2 => h (by have h3 := Int32.lt_iff_toInt_lt.mp h2; rw [hs_nint ha, hs_nint hb] at h3; omega)), show min b a = b by omega]
section YRA
variable {K : et_K} {G : eg_G} {d d2 th s0 s1 ya yb ec nc la ly out e ca ki kn am aw n m k c q a b : Nat} {O : Nat → Nat} {A : Nat → Nat → Nat} {v : evT} {V : Nat → evT} {X : Nat → Int32} {Y : Nat → Nat} {x y z : Int32} {sp pa pi pn fo tn od row p tm F z9 : Nat} {ls : List sp_L} {σ : Nat → Nat} {N : Nat → Int32} {l s : Int32} {G0 : eg_G}
theorem fd_rofL (hH : et_H et_TT K G) (k_s0 : K s0 = some 10) (k_e : K e = some 3) (t9 : evK K e ca ki kn v.1 v.2.2.1) (hv : evc G e ca ki kn v) (g2 : et_pl (eg_at G s0) 2 = some (.int (Int32.ofNat nc))) (hnc : nc ≤ 20) (g3 : et_pl (eg_at G s0) 3 = some (.ref la)) (g4 : et_pl (eg_at G s0) 4 = some (.ref ly)) (k_la : K la = some 17) (k_ly : K ly = some 27) (hXc : ∀ c, c < nc → et_pl (eg_at G la) c = some (.int (X c))) (hYc : ∀ c, c < nc → et_pl (eg_at G ly) c = some (.int (Int32.ofNat (Y c)))) (hY1 : ∀ c, c < nc → Y c ≤ 1) (hn : n ≤ nc) (hb : roB v X Y c = true) (hc : c ≤ n) : et_go none (d + 4) 111 2 [some (.ref s0), some (.ref e), some (.int (Int32.ofNat n)), some (.int (Int32.ofNat c))] [] G 0 0 (xp_Z G (some (.int (Int32.ofNat (if roB v X Y n = true then 1 else 0))))) := by
  induction hq9 : n - c using Nat.strongRecOn generalizing c with
  | _ q9 ih =>
    have hY9 : c < n → Y c ≤ 1 := fun h9 => hY1 c (by omega)
    have lt_s0 := (hH.2.2 _ _ k_s0).1
    have lt_e := (hH.2.2 _ _ k_e).1
    have lt_la := (hH.2.2 _ _ k_la).1
    have lt_ly := (hH.2.2 _ _ k_ly).1
    refine hs_iload (i := 3) (p := 3) (by decide +kernel) rfl ?_
    refine hs_iload (i := 2) (p := 4) (by decide +kernel) rfl ?_
    refine hs_br2n (c := .ge) (t := 42) (f := 7) (by decide +kernel) (by omega) (by omega) (fun (c4 : n ≤ c) => ?_) (fun (c4 : ¬ (n ≤ c)) => ?_)
    · refine hs_k (x := Int32.ofNat 1) (p := 43) (by decide +kernel) ?_
      refine hs_zret (by decide +kernel) (.inr rfl) ?_
      obtain rfl : c = n := by omega
      rw [if_pos hb]
      rfl
    · refine hs_iload (i := 3) (p := 8) (by decide +kernel) rfl ?_
      refine hs_aload (i := 0) (p := 9) (by decide +kernel) rfl ?_
      refine hf_get (T := et_TT) (t := 10) (ci := 8) (f := 2) (p := 12) (by decide +kernel) rfl hH k_s0 g2 ?_
      refine hs_br2n (c := .ge) (t := 42) (f := 15) (by decide +kernel) (by omega) (by omega) (fun (c12 : nc ≤ c) => ?_) (fun (c12 : ¬ (nc ≤ c)) => ?_)
      · refine hs_k (x := Int32.ofNat 1) (p := 43) (by decide +kernel) ?_
        refine hs_zret (by decide +kernel) (.inr rfl) ?_
        obtain rfl : c = n := by omega
        rw [if_pos hb]
        rfl
      · refine hs_aload (i := 1) (p := 16) (by decide +kernel) rfl ?_
        refine hs_aload (i := 0) (p := 17) (by decide +kernel) rfl ?_
        refine hf_get (T := et_TT) (t := 10) (ci := 8) (f := 3) (p := 20) (by decide +kernel) rfl hH k_s0 g3 ?_
        refine hs_iload (i := 3) (p := 21) (by decide +kernel) rfl ?_
        refine hf_ald (ins := .iaload) (T := et_TT) (t := 17) (kd := 0) (N := 20) (p := 22) (by decide +kernel) (fun _ _ _ _ _ _ _ _ _ _ => rfl) rfl rfl rfl hH k_la (by decide) (hXc c (by omega)) ?_
        refine ht_callv (T := et_TT) (t := 3) (mi := 32) (na := 1) (ci := 1) (lk := 4) (lm := 2) (L0 := eg_en (eg_mL 32) [.ref e, .int (X c)]) (by decide +kernel) rfl hH k_e rfl rfl rfl rfl rfl (by rw [show eg_mL 32 = 2 from by decide +kernel]; first | done | rfl) ?_
        refine (fd_says hH t9 hv (by omega)).mono (fun u hu => xp_cb hu ?_)
        by_cases q1 : v.2.2.2.2.1 < suN v.2.1 v.2.2.1 v.2.2.2.1 (X c) v.1
        · rw [if_pos q1]
          show et_go none _ 111 25 _ [.int (Int32.ofNat 1)] _ _ _ _
          refine hs_aload (i := 0) (p := 26) (by decide +kernel) rfl ?_
          refine hf_get (T := et_TT) (t := 10) (ci := 8) (f := 4) (p := 29) (by decide +kernel) rfl hH k_s0 g4 ?_
          refine hs_iload (i := 3) (p := 30) (by decide +kernel) rfl ?_
          refine hf_ald (ins := .baload) (T := et_TT) (t := 27) (kd := 3) (N := 20) (p := 31) (by decide +kernel) (fun _ _ _ _ _ _ _ _ _ _ => rfl) rfl rfl rfl hH k_ly (by decide) (hYc c (by omega)) ?_
          refine hs_br2n (c := .eq) (t := 36) (f := 34) (by decide +kernel) (by omega) (by omega) (fun (c31 : 1 = (Y c)) => ?_) (fun (c31 : ¬ (1 = (Y c))) => ?_)
          · refine hs_iinc1 (i := 3) (p := 39) (by decide +kernel) rfl (Nat.le_of_ble_eq_true rfl) ?_
            refine hs_goto (p := 2) (by decide +kernel) ?_
            have e1 : syE v (X c) = true := decide_eq_true q1
            have e2 : syE v (X c) = yB (Y c) := by rw [e1]; exact (decide_eq_true (by omega)).symm
            exact @ih (n - (c + 1)) (by omega) (c + 1) (roB_s hb e2) (by omega) rfl
          · refine hs_k (x := Int32.ofNat 0) (p := 35) (by decide +kernel) ?_
            refine hs_zret (by decide +kernel) (.inl rfl) ?_
            have e1 : syE v (X c) = true := decide_eq_true q1
            have e2 : ¬ syE v (X c) = yB (Y c) := by rw [e1, show yB (Y c) = false from decide_eq_false (by omega)]; decide
            rw [roB_f e2 n (by omega)]
            rfl
        · rw [if_neg q1]
          show et_go none _ 111 25 _ [.int (Int32.ofNat 0)] _ _ _ _
          refine hs_aload (i := 0) (p := 26) (by decide +kernel) rfl ?_
          refine hf_get (T := et_TT) (t := 10) (ci := 8) (f := 4) (p := 29) (by decide +kernel) rfl hH k_s0 g4 ?_
          refine hs_iload (i := 3) (p := 30) (by decide +kernel) rfl ?_
          refine hf_ald (ins := .baload) (T := et_TT) (t := 27) (kd := 3) (N := 20) (p := 31) (by decide +kernel) (fun _ _ _ _ _ _ _ _ _ _ => rfl) rfl rfl rfl hH k_ly (by decide) (hYc c (by omega)) ?_
          refine hs_br2n (c := .eq) (t := 36) (f := 34) (by decide +kernel) (by omega) (by omega) (fun (c31 : 0 = (Y c)) => ?_) (fun (c31 : ¬ (0 = (Y c))) => ?_)
          · refine hs_iinc1 (i := 3) (p := 39) (by decide +kernel) rfl (Nat.le_of_ble_eq_true rfl) ?_
            refine hs_goto (p := 2) (by decide +kernel) ?_
            have e1 : syE v (X c) = false := decide_eq_false q1
            have e2 : syE v (X c) = yB (Y c) := by rw [e1]; exact (decide_eq_false (by omega)).symm
            exact @ih (n - (c + 1)) (by omega) (c + 1) (roB_s hb e2) (by omega) rfl
          · refine hs_k (x := Int32.ofNat 0) (p := 35) (by decide +kernel) ?_
            refine hs_zret (by decide +kernel) (.inl rfl) ?_
            have e1 : syE v (X c) = false := decide_eq_false q1
            have e2 : ¬ syE v (X c) = yB (Y c) := by rw [e1, show yB (Y c) = true from decide_eq_true (by omega)]; decide
            rw [roB_f e2 n (by omega)]
            rfl
theorem fd_rof (hH : et_H et_TT K G) (k_s0 : K s0 = some 10) (k_e : K e = some 3) (t9 : evK K e ca ki kn v.1 v.2.2.1) (hv : evc G e ca ki kn v) (g2 : et_pl (eg_at G s0) 2 = some (.int (Int32.ofNat nc))) (hnc : nc ≤ 20) (g3 : et_pl (eg_at G s0) 3 = some (.ref la)) (g4 : et_pl (eg_at G s0) 4 = some (.ref ly)) (k_la : K la = some 17) (k_ly : K ly = some 27) (hXc : ∀ c, c < nc → et_pl (eg_at G la) c = some (.int (X c))) (hYc : ∀ c, c < nc → et_pl (eg_at G ly) c = some (.int (Int32.ofNat (Y c)))) (hY1 : ∀ c, c < nc → Y c ≤ 1) (hn : n ≤ nc) (hd : 4 ≤ d2) : et_go none d2 111 0 (eg_en (eg_mL 111) [.ref s0, .ref e, .int (Int32.ofNat n)]) [] G 0 0 (xp_Z G (some (.int (Int32.ofNat (if roB v X Y n = true then 1 else 0))))) := by
  obtain ⟨d, rfl⟩ : ∃ d, d2 = d + 4 := ⟨d2 - 4, by omega⟩
  rw [show eg_mL 111 = 4 from by decide +kernel]
  show et_go none (d + 4) 111 0 [some (.ref s0), some (.ref e), some (.int (Int32.ofNat n)), none] [] G 0 0 _
  have lt_s0 := (hH.2.2 _ _ k_s0).1
  have lt_e := (hH.2.2 _ _ k_e).1
  have lt_la := (hH.2.2 _ _ k_la).1
  have lt_ly := (hH.2.2 _ _ k_ly).1
  refine hs_k (x := Int32.ofNat 0) (p := 1) (by decide +kernel) ?_
  refine hs_istore (i := 3) (p := 2) (by decide +kernel) (Nat.le_of_ble_eq_true rfl) ?_
  exact fd_rofL (c := 0) hH k_s0 k_e t9 hv g2 hnc g3 g4 k_la k_ly hXc hYc hY1 hn rfl (Nat.zero_le _)
theorem fd_soOL (hH : et_H et_TT K G) (k_th : K th = some 12) (h9 : et_pl (eg_at G th) 9 = some (.ref od)) (k_od : K od = some 32) (hn5 : n ≤ 5) (hrow : row < 3125) (hod : ∀ q, q < p → et_pl (eg_at G od) q = some (.int (Int32.ofNat (ocN n row q)))) (hX : xf (fun b j => b = od ∧ (0 ≤ j ∧ j ≤ 4)) G0 G) (hp : p ≤ n) : et_go none (d + 1) 168 8 [some (.ref th), some (.int (Int32.ofNat row)), some (.int (Int32.ofNat n)), some (.int (Int32.ofNat (row / n ^ p))), some (.int (Int32.ofNat (usN n row p))), some (.int (Int32.ofNat p))] [] G 0 0 (xw_Z (fun b j => b = od ∧ (0 ≤ j ∧ j ≤ 4)) K G0 (fun g r => r = some (.int (Int32.ofNat (if usN n row n = 2 ^ n - 1 then 1 else 0))) ∧ ∀ q, q < n → et_pl (eg_at g od) q = some (.int (Int32.ofNat (ocN n row q))))) := by
  induction hq9 : n - p using Nat.strongRecOn generalizing p G with
  | _ q9 ih =>
    have hle : row / n ^ p ≤ row := Nat.div_le_self _ _
    have hml : p < n → row / n ^ p % n < n := fun h9 => Nat.mod_lt _ (by omega)
    have hus : p < n → usN n row p < 32 := fun h9 => usN_lt hn5 (by omega) p
    have hus2 : 1 ≤ n → usN n row n < 32 := fun h9 => usN_lt hn5 h9 n
    have lt_th := (hH.2.2 _ _ k_th).1
    have lt_od := (hH.2.2 _ _ k_od).1
    refine hs_iload (i := 5) (p := 10) (by decide +kernel) rfl ?_
    refine hs_iload (i := 2) (p := 11) (by decide +kernel) rfl ?_
    refine hs_br2n (c := .ge) (t := 54) (f := 14) (by decide +kernel) (by omega) (by omega) (fun (c11 : n ≤ p) => ?_) (fun (c11 : ¬ (n ≤ p)) => ?_)
    · refine hs_iload (i := 4) (p := 56) (by decide +kernel) rfl ?_
      refine hs_k (x := Int32.ofNat 1) (p := 57) (by decide +kernel) ?_
      refine hs_iload (i := 2) (p := 58) (by decide +kernel) rfl ?_
      refine hs_st (ins := .ishl) (len := 1) (p := 59) (by decide +kernel) rfl rfl ?_
      refine hs_k (x := Int32.ofNat 1) (p := 60) (by decide +kernel) ?_
      refine hs_isub (p := 61) (by decide +kernel) ?_
      refine hs_br2 (c := .ne) (t := 68) (f := 64) (by decide +kernel) (fun (c61 : ¬ Int32.ofNat (usN n row p) = (((Int32.ofNat 1) <<< ((Int32.ofNat n) &&& 31)) - Int32.ofNat 1)) => ?_) (fun (c61 : ¬ (¬ Int32.ofNat (usN n row p) = (((Int32.ofNat 1) <<< ((Int32.ofNat n) &&& 31)) - Int32.ofNat 1))) => ?_)
      · refine hs_k (x := Int32.ofNat 0) (p := 69) (by decide +kernel) ?_
        refine hs_zret (by decide +kernel) (.inl rfl) ?_
        obtain rfl : p = n := by omega
        have h9 := sp_full p (List.mem_range.mpr (by omega))
        rw [h9.1] at c61
        have hlt : usN p row p < 32 := by
          by_cases h0 : p = 0
          · rw [h0]; exact (by decide : (0 : Nat) < 32)
          · exact hus2 (by omega)
        have h8 := h9.2.2
        have e7 : ¬ usN p row p = 2 ^ p - 1 := fun h => c61 (by rw [h])
        exact ⟨_, _, rfl, hH, hX, by rw [if_neg e7], hod⟩
      · refine hs_k (x := Int32.ofNat 1) (p := 65) (by decide +kernel) ?_
        refine hs_goto (p := 69) (by decide +kernel) ?_
        refine hs_zret (by decide +kernel) (.inr rfl) ?_
        obtain rfl : p = n := by omega
        have h9 := sp_full p (List.mem_range.mpr (by omega))
        rw [h9.1] at c61
        have hlt : usN p row p < 32 := by
          by_cases h0 : p = 0
          · rw [h0]; exact (by decide : (0 : Nat) < 32)
          · exact hus2 (by omega)
        have h8 := h9.2.2
        have e7 : usN p row p = 2 ^ p - 1 := (hs_neq (by omega) (by omega)).mp (Decidable.of_not_not c61)
        exact ⟨_, _, rfl, hH, hX, by rw [if_pos e7], hod⟩
    · refine hs_iload (i := 5) (p := 16) (by decide +kernel) rfl ?_
      refine hs_k (x := Int32.ofNat 5) (p := 17) (by decide +kernel) ?_
      refine hs_br2n (c := .ge) (t := 54) (f := 20) (by decide +kernel) (by omega) (by omega) (fun (c17 : 5 ≤ p) => ?_) (fun (c17 : ¬ (5 ≤ p)) => ?_)
      · refine hs_iload (i := 4) (p := 56) (by decide +kernel) rfl ?_
        refine hs_k (x := Int32.ofNat 1) (p := 57) (by decide +kernel) ?_
        refine hs_iload (i := 2) (p := 58) (by decide +kernel) rfl ?_
        refine hs_st (ins := .ishl) (len := 1) (p := 59) (by decide +kernel) rfl rfl ?_
        refine hs_k (x := Int32.ofNat 1) (p := 60) (by decide +kernel) ?_
        refine hs_isub (p := 61) (by decide +kernel) ?_
        refine hs_br2 (c := .ne) (t := 68) (f := 64) (by decide +kernel) (fun (c61 : ¬ Int32.ofNat (usN n row p) = (((Int32.ofNat 1) <<< ((Int32.ofNat n) &&& 31)) - Int32.ofNat 1)) => ?_) (fun (c61 : ¬ (¬ Int32.ofNat (usN n row p) = (((Int32.ofNat 1) <<< ((Int32.ofNat n) &&& 31)) - Int32.ofNat 1))) => ?_)
        · refine hs_k (x := Int32.ofNat 0) (p := 69) (by decide +kernel) ?_
          refine hs_zret (by decide +kernel) (.inl rfl) ?_
          obtain rfl : p = n := by omega
          have h9 := sp_full p (List.mem_range.mpr (by omega))
          rw [h9.1] at c61
          have hlt : usN p row p < 32 := by
            by_cases h0 : p = 0
            · rw [h0]; exact (by decide : (0 : Nat) < 32)
            · exact hus2 (by omega)
          have h8 := h9.2.2
          have e7 : ¬ usN p row p = 2 ^ p - 1 := fun h => c61 (by rw [h])
          exact ⟨_, _, rfl, hH, hX, by rw [if_neg e7], hod⟩
        · refine hs_k (x := Int32.ofNat 1) (p := 65) (by decide +kernel) ?_
          refine hs_goto (p := 69) (by decide +kernel) ?_
          refine hs_zret (by decide +kernel) (.inr rfl) ?_
          obtain rfl : p = n := by omega
          have h9 := sp_full p (List.mem_range.mpr (by omega))
          rw [h9.1] at c61
          have hlt : usN p row p < 32 := by
            by_cases h0 : p = 0
            · rw [h0]; exact (by decide : (0 : Nat) < 32)
            · exact hus2 (by omega)
          have h8 := h9.2.2
          have e7 : usN p row p = 2 ^ p - 1 := (hs_neq (by omega) (by omega)).mp (Decidable.of_not_not c61)
          exact ⟨_, _, rfl, hH, hX, by rw [if_pos e7], hod⟩
      · refine hs_aload (i := 0) (p := 21) (by decide +kernel) rfl ?_
        refine hf_get (T := et_TT) (t := 12) (ci := 10) (f := 9) (p := 24) (by decide +kernel) rfl hH k_th h9 ?_
        refine hs_iload (i := 5) (p := 26) (by decide +kernel) rfl ?_
        refine hs_iload (i := 3) (p := 27) (by decide +kernel) rfl ?_
        refine hs_iload (i := 2) (p := 28) (by decide +kernel) rfl ?_
        refine hs_irem (p := 29) (by decide +kernel) (hs_nz (by omega) (by omega)) ?_
        rw [so_r (by omega) (by omega) (by omega)]
        have hHo := hH
        refine hf_ist (T := et_TT) (t := 32) (N := 5) (p := 30) (by decide +kernel) rfl rfl (by decide) hH k_od (by omega) (by decide) (fun s hs => absurd hs List.not_mem_nil) (fun G29 hH x29 e29 => ?_)
        have hod2 : ∀ q, q < p → et_pl (eg_at G29 od) q = some (.int (Int32.ofNat (ocN n row q))) := fun q hq => (x29.2 od q lt_od (fun h => by have h := h.2; omega)).trans (hod q hq)
        have h9 := (x29.2 th 9 lt_th (fun h => (hi_ne k_th k_od (by decide)) h.1)).trans h9
        have lt_th := Nat.lt_of_lt_of_le lt_th x29.1
        have lt_od := Nat.lt_of_lt_of_le lt_od x29.1
        have hX := hX.tr x29 (fun b j hb h => by first | omega | (dsimp only at h ⊢; omega) | (dsimp only at h; omega) | (dsimp only; omega))
        refine hs_iload (i := 4) (p := 32) (by decide +kernel) rfl ?_
        refine hs_k (x := Int32.ofNat 1) (p := 33) (by decide +kernel) ?_
        refine hs_aload (i := 0) (p := 34) (by decide +kernel) rfl ?_
        refine hf_get (T := et_TT) (t := 12) (ci := 10) (f := 9) (p := 37) (by decide +kernel) rfl hH k_th h9 ?_
        refine hs_iload (i := 5) (p := 39) (by decide +kernel) rfl ?_
        refine hf_ald (ins := .iaload) (T := et_TT) (t := 32) (kd := 0) (N := 5) (p := 40) (by decide +kernel) (fun _ _ _ _ _ _ _ _ _ _ => rfl) rfl rfl rfl hH k_od (by decide) e29 ?_
        refine hs_st (ins := .ishl) (len := 1) (p := 41) (by decide +kernel) rfl rfl ?_
        refine hs_st (ins := .ior) (len := 1) (p := 42) (by decide +kernel) rfl rfl ?_
        refine hs_istore (i := 4) (p := 44) (by decide +kernel) (Nat.le_of_ble_eq_true rfl) ?_
        refine hs_iload (i := 3) (p := 45) (by decide +kernel) rfl ?_
        refine hs_iload (i := 2) (p := 46) (by decide +kernel) rfl ?_
        refine hs_idiv (p := 47) (by decide +kernel) (hs_nz (by omega) (by omega)) ?_
        rw [so_d (by omega) (by omega) (by omega)]
        refine hs_istore (i := 3) (p := 48) (by decide +kernel) (Nat.le_of_ble_eq_true rfl) ?_
        refine hs_iinc1 (i := 5) (p := 51) (by decide +kernel) rfl (Nat.le_of_ble_eq_true rfl) ?_
        refine hs_goto (p := 8) (by decide +kernel) ?_
        have hus9 := hus (by omega)
        have e9 : (Int32.ofNat (usN n row p) ||| (Int32.ofNat 1 <<< (Int32.ofNat (row / n ^ p % n) &&& 31))) = Int32.ofNat (usN n row (p + 1)) := so_or _ (List.mem_range.mpr hus9) _ (List.mem_range.mpr (Nat.lt_of_lt_of_le (hml (by omega)) hn5))
        have e8 : row / n ^ p / n = row / n ^ (p + 1) := by rw [Nat.div_div_eq_div_mul, Nat.pow_succ]
        have hod3 : ∀ q, q < p + 1 → et_pl (eg_at G29 od) q = some (.int (Int32.ofNat (ocN n row q))) := fun q hq => by
          by_cases eq : q = p
          · rw [eq]; exact e29
          · exact hod2 q (by omega)
        show et_go none _ 168 8 [some (.ref th), some (.int (Int32.ofNat row)), some (.int (Int32.ofNat n)), some (.int (Int32.ofNat (row / n ^ p / n))), some (.int (Int32.ofNat (usN n row p) ||| (Int32.ofNat 1 <<< (Int32.ofNat (row / n ^ p % n) &&& 31)))), some (.int (Int32.ofNat (p + 1)))] [] _ _ _ _
        rw [e9, e8]
        exact ih (n - (p + 1)) (by omega) hH h9 hod3 hX (by omega) rfl
theorem fd_soO (hH : et_H et_TT K G) (k_th : K th = some 12) (h9 : et_pl (eg_at G th) 9 = some (.ref od)) (k_od : K od = some 32) (hn5 : n ≤ 5) (hrow : row < 3125) (hd : 1 ≤ d2) : et_go none d2 168 0 (eg_en (eg_mL 168) [.ref th, .int (Int32.ofNat row), .int (Int32.ofNat n)]) [] G 0 0 (xw_Z (fun b j => b = od ∧ (0 ≤ j ∧ j ≤ 4)) K G (fun g r => r = some (.int (Int32.ofNat (if usN n row n = 2 ^ n - 1 then 1 else 0))) ∧ ∀ q, q < n → et_pl (eg_at g od) q = some (.int (Int32.ofNat (ocN n row q))))) := by
  obtain ⟨d, rfl⟩ : ∃ d, d2 = d + 1 := ⟨d2 - 1, by omega⟩
  have e0 : row / n ^ 0 = row := by rw [Nat.pow_zero, Nat.div_one]
  rw [show eg_mL 168 = 6 from by decide +kernel]
  show et_go none (d + 1) 168 0 [some (.ref th), some (.int (Int32.ofNat row)), some (.int (Int32.ofNat n)), none, none, none] [] G 0 0 _
  have lt_th := (hH.2.2 _ _ k_th).1
  have lt_od := (hH.2.2 _ _ k_od).1
  refine hs_iload (i := 1) (p := 1) (by decide +kernel) rfl ?_
  refine hs_istore (i := 3) (p := 2) (by decide +kernel) (Nat.le_of_ble_eq_true rfl) ?_
  refine hs_k (x := Int32.ofNat 0) (p := 3) (by decide +kernel) ?_
  refine hs_istore (i := 4) (p := 5) (by decide +kernel) (Nat.le_of_ble_eq_true rfl) ?_
  refine hs_k (x := Int32.ofNat 0) (p := 6) (by decide +kernel) ?_
  refine hs_istore (i := 5) (p := 8) (by decide +kernel) (Nat.le_of_ble_eq_true rfl) ?_
  have h := fd_soOL (G0 := G) (d := d) (p := 0) (row := row) hH k_th h9 k_od hn5 hrow (fun q hq => absurd hq (Nat.not_lt_zero q)) xf.rf (Nat.zero_le _)
  rw [e0] at h
  exact h
end YRA
end
section
/-! searches: what both sides tell -/
/-- digit w (of W) of a number to the base B: the first is the highest -/
def kvD (B W n w : Nat) : Nat := n / B ^ (W - 1 - w) % B
/-- the KNOBS of a number -/
def kvT (k W n : Nat) : Nat → Int32 := fun w => Int32.ofNat (kvD (2 * k + 1) W n w) - Int32.ofNat k
/-- a KNOB without sign, by its digit -/
def kvA (k d : Nat) : Nat := if d ≤ k then k - d else d - k
/-- those of the first WIRES together -/
def kvS (k W n : Nat) : Nat → Nat
  | 0 => 0
  | w + 1 => kvS k W n w + kvA k (kvD (2 * k + 1) W n w)
/-- every yes CARD of the first m is above every no CARD -/
def vaP (S : Nat → Int32) (Y : Nat → Nat) (m : Nat) : Bool := (List.range m).all (fun h => (List.range m).all (fun l => !(decide (Y h = 1)) || (decide (Y l = 1) || decide (S l < S h))))
theorem vaP_i {S : Nat → Int32} {Y : Nat → Nat} {m : Nat} : vaP S Y m = true ↔ ∀ h l, h < m → l < m → Y h = 1 → ¬ Y l = 1 → S l < S h := by
  unfold vaP
  constructor
  · intro q h l hh hl y1 y2
    have q2 := List.all_eq_true.mp (List.all_eq_true.mp q h (List.mem_range.mpr hh)) l (List.mem_range.mpr hl)
    rw [decide_eq_true y1, decide_eq_false y2, Bool.not_true, Bool.false_or, Bool.false_or] at q2
    exact of_decide_eq_true q2
  · intro q
    refine List.all_eq_true.mpr (fun h hh => List.all_eq_true.mpr (fun l hl => ?_))
    by_cases y1 : Y h = 1
    · by_cases y2 : Y l = 1
      · rw [decide_eq_true y2, Bool.true_or, Bool.or_true]
      · rw [decide_eq_true (q h l (List.mem_range.mp hh) (List.mem_range.mp hl) y1 y2), Bool.or_true, Bool.or_true]
    · rw [decide_eq_false y1]
      rfl
/-- the least of those that are good, of several the first -/
def foF (ok : Nat → Bool) (sm : Nat → Nat) : Nat → Option (Nat × Nat)
  | 0 => none
  | n + 1 => match foF ok sm n with
    | none => if ok n = true then some (sm n, n) else none
    | some q => if ok n = true ∧ sm n < q.1 then some (sm n, n) else some q
/-- what is not below (BEYOND: b) -/
def foL (b : Nat) : Option (Nat × Nat) → Nat
  | none => b
  | some q => q.1
section ZAA
variable {ok : Nat → Bool} {sm : Nat → Nat} {a b n : Nat}
theorem foF_y (h : ok n = true) (hs : sm n < foL b (foF ok sm n)) : foF ok sm (n + 1) = some (sm n, n) := by
  show (match foF ok sm n with
    | none => if ok n = true then some (sm n, n) else none
    | some q => if ok n = true ∧ sm n < q.1 then some (sm n, n) else some q) = _
  cases e : foF ok sm n with
  | none => exact if_pos h
  | some q =>
    rw [e] at hs
    exact if_pos ⟨h, hs⟩
theorem foF_n (h : ok n = true → foL b (foF ok sm n) ≤ sm n) (hb : sm n < b) : foF ok sm (n + 1) = foF ok sm n := by
  show (match foF ok sm n with
    | none => if ok n = true then some (sm n, n) else none
    | some q => if ok n = true ∧ sm n < q.1 then some (sm n, n) else some q) = _
  cases e : foF ok sm n with
  | none =>
    rw [e] at h
    exact if_neg (fun h2 => by
      have h3 : b ≤ sm n := h h2
      omega)
  | some q =>
    rw [e] at h
    exact if_neg (fun h2 => by
      have h3 : q.1 ≤ sm n := h h2.1
      have h4 := h2.2
      omega)
/-- where nothing good and less stands nothing changes -/
theorem foF_s (hb : ∀ n, sm n < b) : ∀ d, (∀ n, a ≤ n → n < a + d → ok n = true → foL b (foF ok sm a) ≤ sm n) → foF ok sm (a + d) = foF ok sm a
  | 0, _ => rfl
  | d + 1, h => by
    have e := foF_s hb d (fun n h1 h2 h3 => h n h1 (by omega) h3)
    have e2 : foF ok sm (a + d + 1) = foF ok sm (a + d) := foF_n (fun h2 => by
      rw [e]
      exact h (a + d) (by omega) (by omega) h2) (hb _)
    exact e2.trans e
theorem foF_any : ∀ n, (foF ok sm n = none ↔ ∀ i, i < n → ¬ ok i = true)
  | 0 => ⟨fun _ i h => absurd h (Nat.not_lt_zero i), fun _ => rfl⟩
  | n + 1 => by
    have ih := foF_any n
    show ((match foF ok sm n with
      | none => if ok n = true then some (sm n, n) else none
      | some q => if ok n = true ∧ sm n < q.1 then some (sm n, n) else some q) = none ↔ _)
    cases e : foF ok sm n with
    | none =>
      have h := ih.mp e
      show (if ok n = true then some (sm n, n) else none) = none ↔ _
      by_cases ho : ok n = true
      · rw [if_pos ho]
        exact ⟨fun q => (by cases q), fun q => absurd ho (q n (Nat.lt_succ_self n))⟩
      · rw [if_neg ho]
        exact ⟨fun _ i hi => by
          by_cases ei : i = n
          · rw [ei]
            exact ho
          · exact h i (by omega), fun _ => rfl⟩
    | some q =>
      show (if ok n = true ∧ sm n < q.1 then some (sm n, n) else some q) = none ↔ _
      refine ⟨fun h => ?_, fun h => ?_⟩
      · split at h <;> cases h
      · have h2 := ih.mpr (fun i hi => h i (by omega))
        rw [e] at h2
        cases h2
end ZAA
/-- the digits of what stands under a prefix -/
theorem kv_n {B r q n : Nat} (h1 : q * B ^ r ≤ n) (h2 : n < (q + 1) * B ^ r) : n / B ^ r = q := Nat.div_eq_of_lt_le h1 h2
theorem kvD_at {B W w r p d n : Nat} (hW : W = w + 1 + r) (hd : d < B) (h1 : (p * B + d) * B ^ r ≤ n) (h2 : n < (p * B + d + 1) * B ^ r) : kvD B W n w = d := by
  unfold kvD
  rw [show W - 1 - w = r by omega, kv_n h1 h2, Nat.add_comm, Nat.add_mul_mod_self_right, Nat.mod_eq_of_lt hd]
theorem kvD_up {B W w r p n u : Nat} (hW : W = w + r) (hu : u < w) (h1 : p * B ^ r ≤ n) (h2 : n < (p + 1) * B ^ r) : kvD B W n u = p / B ^ (w - 1 - u) % B := by
  unfold kvD
  rw [show W - 1 - u = r + (w - 1 - u) by omega, Nat.pow_add, ← Nat.div_div_eq_div_mul, kv_n h1 h2]
end
section
/-! searches: what a prefix of KNOBS says of all that stand under it -/
theorem kvS_up {k W w r p n : Nat} (hW : W = w + r) (h1 : p * (2 * k + 1) ^ r ≤ n) (h2 : n < (p + 1) * (2 * k + 1) ^ r) : ∀ u, u ≤ w → kvS k W n u = kvS k w p u
  | 0, _ => rfl
  | u + 1, h => by
    have e := kvS_up hW h1 h2 u (by omega)
    show kvS k W n u + kvA k (kvD (2 * k + 1) W n u) = kvS k w p u + kvA k (kvD (2 * k + 1) w p u)
    rw [e, kvD_up hW (by omega) h1 h2]
    rfl
theorem kvS_mono {k W n : Nat} : ∀ d u, kvS k W n u ≤ kvS k W n (u + d)
  | 0, _ => Nat.le_refl _
  | d + 1, u => Nat.le_trans (kvS_mono d u) (Nat.le_add_right _ _)
theorem kvD_lt {B W n w : Nat} (hB : 0 < B) : kvD B W n w < B := Nat.mod_lt _ hB
theorem kvA_le {k d : Nat} (h : d < 2 * k + 1) : kvA k d ≤ k := by
  unfold kvA
  split <;> omega
theorem kvS_le {k W n : Nat} : ∀ w, kvS k W n w ≤ k * w
  | 0 => Nat.le_refl 0
  | w + 1 => by
    have h := kvS_le (k := k) (W := W) (n := n) w
    have h2 := kvA_le (k := k) (kvD_lt (B := 2 * k + 1) (W := W) (n := n) (w := w) (by omega))
    show kvS k W n w + kvA k (kvD (2 * k + 1) W n w) ≤ k * (w + 1)
    rw [Nat.mul_succ]
    omega
/-- a column summed over the first u WIRES -/
def paS (k W n : Nat) (a : Nat → Int) : Nat → Int
  | 0 => 0
  | u + 1 => paS k W n a u + ((kvD (2 * k + 1) W n u : Nat) - (k : Int)) * a u
/-- the most that d WIRES from u on can add -/
def reS (k : Nat) (a : Nat → Int) : Nat → Nat → Int
  | 0, _ => 0
  | d + 1, u => reS k a d (u + 1) + (k : Int) * ((a u).natAbs : Int)
theorem mu_le {x a : Int} {k : Nat} (h1 : -(k : Int) ≤ x) (h2 : x ≤ k) : x * a ≤ (k : Int) * (a.natAbs : Int) := by
  have h : x * a ≤ ((x * a).natAbs : Int) := Int.le_natAbs
  rw [Int.natAbs_mul] at h
  have h3 : x.natAbs ≤ k := by omega
  have h4 : x.natAbs * a.natAbs ≤ k * a.natAbs := Nat.mul_le_mul_right _ h3
  have h5 : ((x.natAbs * a.natAbs : Nat) : Int) ≤ ((k * a.natAbs : Nat) : Int) := Int.ofNat_le.mpr h4
  rw [Int.natCast_mul k] at h5
  exact Int.le_trans h h5
theorem paS_up {k W w r p n : Nat} {a : Nat → Int} (hW : W = w + r) (h1 : p * (2 * k + 1) ^ r ≤ n) (h2 : n < (p + 1) * (2 * k + 1) ^ r) : ∀ u, u ≤ w → paS k W n a u = paS k w p a u
  | 0, _ => rfl
  | u + 1, h => by
    have e := paS_up (a := a) hW h1 h2 u (by omega)
    show paS k W n a u + ((kvD (2 * k + 1) W n u : Nat) - (k : Int)) * a u = paS k w p a u + ((kvD (2 * k + 1) w p u : Nat) - (k : Int)) * a u
    rw [e, kvD_up hW (by omega) h1 h2]
    rfl
theorem paS_le {k W n : Nat} {a : Nat → Int} : ∀ d u, paS k W n a (u + d) ≤ paS k W n a u + reS k a d u
  | 0, u => by
    show paS k W n a u ≤ paS k W n a u + 0
    omega
  | d + 1, u => by
    have h := paS_le (k := k) (W := W) (n := n) (a := a) d (u + 1)
    have h0 := kvD_lt (B := 2 * k + 1) (W := W) (n := n) (w := u) (by omega)
    have h2 := mu_le (x := ((kvD (2 * k + 1) W n u : Nat) : Int) - (k : Int)) (a := a u) (k := k) (by omega) (by omega)
    rw [show u + (d + 1) = u + 1 + d by omega]
    have h3 : paS k W n a (u + 1) = paS k W n a u + (((kvD (2 * k + 1) W n u : Nat) : Int) - (k : Int)) * a u := rfl
    show paS k W n a (u + 1 + d) ≤ paS k W n a u + (reS k a d (u + 1) + (k : Int) * ((a u).natAbs : Int))
    omega
/-- every one of the first P columns comes to more than 0 -/
def okP (k W : Nat) (A : Nat → Nat → Int) (P n : Nat) : Bool := (List.range P).all (fun c => decide (0 < paS k W n (A c) W))
theorem okP_i {k W P n : Nat} {A : Nat → Nat → Int} : okP k W A P n = true ↔ ∀ c, c < P → 0 < paS k W n (A c) W := by
  unfold okP
  exact ⟨fun h c hc => of_decide_eq_true (List.all_eq_true.mp h c (List.mem_range.mpr hc)), fun h => List.all_eq_true.mpr (fun c hc => decide_eq_true (h c (List.mem_range.mp hc)))⟩
/-- FOUND of all before n -/
def foN (k W : Nat) (A : Nat → Nat → Int) (P n : Nat) : Option (Nat × Nat) := foF (okP k W A P) (fun n => kvS k W n W) n
section ZBA
variable {k W w r p d P b : Nat} {A : Nat → Nat → Int}
theorem fo_rng : (p * (2 * k + 1) + d) * (2 * k + 1) ^ r + (2 * k + 1) ^ r = (p * (2 * k + 1) + (d + 1)) * (2 * k + 1) ^ r := by
  generalize 2 * k + 1 = B
  rw [← Nat.add_assoc, Nat.add_mul (p * B + d) 1, Nat.one_mul]
/-- a branch that is too dear changes nothing -/
theorem fo_dear (hW : W = w + r) (hb : ∀ n, kvS k W n W < b) (h : foL b (foN k W A P (p * (2 * k + 1) ^ r)) ≤ kvS k w p w) : foN k W A P ((p + 1) * (2 * k + 1) ^ r) = foN k W A P (p * (2 * k + 1) ^ r) := by
  rw [Nat.add_mul, Nat.one_mul]
  refine foF_s (b := b) hb _ (fun n h1 h2 _ => ?_)
  have e := kvS_up (k := k) hW h1 (by rw [Nat.add_mul, Nat.one_mul]; exact h2) w (Nat.le_refl w)
  have e2 := kvS_mono (k := k) (W := W) (n := n) r w
  rw [← hW, e] at e2
  exact Nat.le_trans h e2
/-- nor does one where a column can't come to more than 0 -/
theorem fo_low (hW : W = w + r) (hb : ∀ n, kvS k W n W < b) {c : Nat} (hc : c < P) (h : paS k w p (A c) w + reS k (A c) r w ≤ 0) : foN k W A P ((p + 1) * (2 * k + 1) ^ r) = foN k W A P (p * (2 * k + 1) ^ r) := by
  rw [Nat.add_mul, Nat.one_mul]
  refine foF_s (b := b) hb _ (fun n h1 h2 ho => ?_)
  have h3 := okP_i.mp ho c hc
  have e := paS_up (k := k) (a := A c) hW h1 (by rw [Nat.add_mul, Nat.one_mul]; exact h2) w (Nat.le_refl w)
  have e2 := paS_le (k := k) (W := W) (n := n) (a := A c) r w
  rw [← hW, e] at e2
  omega
/-- one digit more -/
theorem kvS_d {k w p d : Nat} (hd : d < 2 * k + 1) : kvS k (w + 1) (p * (2 * k + 1) + d) (w + 1) = kvS k w p w + kvA k d := by
  have e := kvS_up (k := k) (W := w + 1) (w := w) (r := 1) (p := p) (n := p * (2 * k + 1) + d) rfl (by rw [Nat.pow_one]; omega) (by rw [Nat.pow_one, Nat.add_mul]; omega) w (Nat.le_refl w)
  have e2 := kvD_at (B := 2 * k + 1) (W := w + 1) (w := w) (r := 0) (p := p) (d := d) (n := p * (2 * k + 1) + d) rfl hd (by rw [Nat.pow_zero]; omega) (by rw [Nat.pow_zero]; omega)
  show kvS k (w + 1) (p * (2 * k + 1) + d) w + kvA k (kvD (2 * k + 1) (w + 1) (p * (2 * k + 1) + d) w) = _
  rw [e, e2]
theorem paS_d {k w p d : Nat} {a : Nat → Int} (hd : d < 2 * k + 1) : paS k (w + 1) (p * (2 * k + 1) + d) a (w + 1) = paS k w p a w + ((d : Int) - (k : Int)) * a w := by
  have e := paS_up (k := k) (a := a) (W := w + 1) (w := w) (r := 1) (p := p) (n := p * (2 * k + 1) + d) rfl (by rw [Nat.pow_one]; omega) (by rw [Nat.pow_one, Nat.add_mul]; omega) w (Nat.le_refl w)
  have e2 := kvD_at (B := 2 * k + 1) (W := w + 1) (w := w) (r := 0) (p := p) (d := d) (n := p * (2 * k + 1) + d) rfl hd (by rw [Nat.pow_zero]; omega) (by rw [Nat.pow_zero]; omega)
  show paS k (w + 1) (p * (2 * k + 1) + d) a w + ((kvD (2 * k + 1) (w + 1) (p * (2 * k + 1) + d) w : Nat) - (k : Int)) * a w = _
  rw [e, e2]
/-- the leaf -/
theorem fo_leaf (hok : ∀ c, c < P → 0 < paS k W p (A c) W) (h : kvS k W p W < foL b (foN k W A P p)) : foN k W A P (p + 1) = some (kvS k W p W, p) := foF_y (okP_i.mpr hok) h
end ZBA
end
section
/-! searches: the columns are the pairs of a yes CARD and a no CARD -/
/-- of a CARD h with those before m -/
def plL (Y : Nat → Nat) (h : Nat) : Nat → List (Nat × Nat)
  | 0 => []
  | l + 1 => plL Y h l ++ (if Y h = 1 ∧ ¬ Y l = 1 then [(h, l)] else [])
def prL (Y : Nat → Nat) (m : Nat) : Nat → List (Nat × Nat)
  | 0 => []
  | h + 1 => prL Y m h ++ plL Y h m
theorem plL_m {Y : Nat → Nat} {h : Nat} {q : Nat × Nat} : ∀ m, q ∈ plL Y h m ↔ (q.1 = h ∧ q.2 < m ∧ Y h = 1 ∧ ¬ Y q.2 = 1)
  | 0 => ⟨fun h => absurd h (List.not_mem_nil), fun h => absurd h.2.1 (Nat.not_lt_zero _)⟩
  | l + 1 => by
    have ih := plL_m (Y := Y) (h := h) (q := q) l
    show q ∈ plL Y h l ++ (if Y h = 1 ∧ ¬ Y l = 1 then [(h, l)] else []) ↔ _
    rw [List.mem_append, ih]
    by_cases e : Y h = 1 ∧ ¬ Y l = 1
    · rw [if_pos e, List.mem_singleton]
      constructor
      · rintro (q1 | q1)
        · exact ⟨q1.1, by omega, q1.2.2⟩
        · subst q1
          exact ⟨rfl, Nat.lt_succ_self l, e⟩
      · intro q1
        by_cases q2 : q.2 = l
        · exact .inr (Prod.ext q1.1 q2)
        · exact .inl ⟨q1.1, by omega, q1.2.2⟩
    · rw [if_neg e]
      constructor
      · rintro (q1 | q1)
        · exact ⟨q1.1, by omega, q1.2.2⟩
        · exact absurd q1 List.not_mem_nil
      · intro q1
        by_cases q2 : q.2 = l
        · rw [q2] at q1
          exact absurd q1.2.2 e
        · exact .inl ⟨q1.1, by omega, q1.2.2⟩
theorem prL_m {Y : Nat → Nat} {m : Nat} {q : Nat × Nat} : ∀ n, q ∈ prL Y m n ↔ (q.1 < n ∧ q.2 < m ∧ Y q.1 = 1 ∧ ¬ Y q.2 = 1)
  | 0 => ⟨fun h => absurd h (List.not_mem_nil), fun h => absurd h.1 (Nat.not_lt_zero _)⟩
  | h + 1 => by
    have ih := prL_m (Y := Y) (m := m) (q := q) h
    show q ∈ prL Y m h ++ plL Y h m ↔ _
    rw [List.mem_append, ih, plL_m]
    constructor
    · rintro (q1 | q1)
      · exact ⟨by omega, q1.2⟩
      · exact ⟨by omega, q1.2.1, by rw [q1.1]; exact q1.2.2.1, q1.2.2.2⟩
    · intro q1
      by_cases q2 : q.1 = h
      · exact .inr ⟨q2, q1.2.1, by rw [← q2]; exact q1.2.2.1, q1.2.2.2⟩
      · exact .inl ⟨by omega, q1.2⟩
/-- how many say so of the first m -/
def ctY (g : Nat → Bool) : Nat → Nat
  | 0 => 0
  | m + 1 => ctY g m + (if g m = true then 1 else 0)
theorem plL_n {Y : Nat → Nat} {h : Nat} : ∀ m, (plL Y h m).length = if Y h = 1 then ctY (fun l => !decide (Y l = 1)) m else 0
  | 0 => by
    show 0 = _
    split <;> rfl
  | l + 1 => by
    have ih := plL_n (Y := Y) (h := h) l
    show (plL Y h l ++ (if Y h = 1 ∧ ¬ Y l = 1 then [(h, l)] else [])).length = if Y h = 1 then ctY (fun l => !decide (Y l = 1)) l + (if (!decide (Y l = 1)) = true then 1 else 0) else 0
    rw [List.length_append, ih]
    by_cases e : Y h = 1
    · rw [if_pos e, if_pos e]
      by_cases e2 : Y l = 1
      · rw [if_neg (fun h => h.2 e2), decide_eq_true e2]
        rfl
      · rw [if_pos ⟨e, e2⟩, decide_eq_false e2]
        rfl
    · rw [if_neg e, if_neg e, if_neg (fun h => e h.1)]
      rfl
theorem prL_n {Y : Nat → Nat} {m : Nat} : ∀ n, (prL Y m n).length = ctY (fun h => decide (Y h = 1)) n * ctY (fun l => !decide (Y l = 1)) m
  | 0 => (Nat.zero_mul _).symm
  | h + 1 => by
    have ih := prL_n (Y := Y) (m := m) h
    show (prL Y m h ++ plL Y h m).length = (ctY (fun h => decide (Y h = 1)) h + (if decide (Y h = 1) = true then 1 else 0)) * _
    rw [List.length_append, ih, plL_n, Nat.add_mul]
    by_cases e : Y h = 1
    · rw [if_pos e, decide_eq_true e, if_pos rfl, Nat.one_mul]
    · rw [if_neg e, decide_eq_false e, if_neg (by decide), Nat.zero_mul]
theorem ctY_c {g : Nat → Bool} : ∀ m, ctY g m + ctY (fun l => !g l) m = m
  | 0 => rfl
  | m + 1 => by
    have ih := ctY_c (g := g) m
    show ctY g m + (if g m = true then 1 else 0) + (ctY (fun l => !g l) m + (if (!g m) = true then 1 else 0)) = m + 1
    cases e : g m
    · rw [if_neg (by decide), if_pos (show (!false) = true from rfl)]
      omega
    · rw [if_pos rfl, if_neg (show ¬ (!true) = true by decide)]
      omega
theorem ct_mul : ∀ a ∈ List.range 21, ∀ b ∈ List.range 21, a + b ≤ 20 → a * b ≤ 100 := by decide +kernel
theorem prL_le {Y : Nat → Nat} {m : Nat} (hm : m ≤ 20) : (prL Y m m).length ≤ 100 := by
  have h := ctY_c (g := fun h => decide (Y h = 1)) m
  rw [prL_n]
  exact ct_mul _ (List.mem_range.mpr (by omega)) _ (List.mem_range.mpr (by omega)) (by omega)
/-- the columns of pairs -/
def coA (V : Nat → Nat → Int) (L : List (Nat × Nat)) (c w : Nat) : Int := V w (L.getD c (0, 0)).1 - V w (L.getD c (0, 0)).2
theorem paS_sub {k W n : Nat} {a b : Nat → Int} : ∀ u, paS k W n (fun w => a w - b w) u = paS k W n a u - paS k W n b u
  | 0 => rfl
  | u + 1 => by
    have ih := paS_sub (k := k) (W := W) (n := n) (a := a) (b := b) u
    show paS k W n (fun w => a w - b w) u + ((kvD (2 * k + 1) W n u : Nat) - (k : Int)) * (a u - b u) = (paS k W n a u + ((kvD (2 * k + 1) W n u : Nat) - (k : Int)) * a u) - (paS k W n b u + ((kvD (2 * k + 1) W n u : Nat) - (k : Int)) * b u)
    rw [ih, Int.mul_sub]
    omega
/-- all pairs above 0: every yes CARD is above every no CARD -/
theorem okP_pr {k W m n : Nat} {Y : Nat → Nat} {V : Nat → Nat → Int} : okP k W (coA V (prL Y m m)) (prL Y m m).length n = true ↔ ∀ h l, h < m → l < m → Y h = 1 → ¬ Y l = 1 → paS k W n (fun w => V w l) W < paS k W n (fun w => V w h) W := by
  rw [okP_i]
  constructor
  · intro q h l hh hl y1 y2
    obtain ⟨c, hc, e⟩ := List.mem_iff_getElem.mp ((prL_m (Y := Y) (m := m) (q := (h, l)) m).mpr ⟨hh, hl, y1, y2⟩)
    have h9 := q c hc
    have e2 : coA V (prL Y m m) c = fun w => V w h - V w l := by
      unfold coA
      rw [← List.getElem_eq_getD (h := hc), e]
    rw [e2, paS_sub] at h9
    omega
  · intro q c hc
    have h1 := (prL_m (Y := Y) (m := m) (q := (prL Y m m)[c]) m).mp (List.getElem_mem hc)
    have h2 := q _ _ h1.1 h1.2.1 h1.2.2.1 h1.2.2.2
    have e2 : coA V (prL Y m m) c = fun w => V w (prL Y m m)[c].1 - V w (prL Y m m)[c].2 := by
      unfold coA
      rw [← List.getElem_eq_getD (h := hc)]
    rw [e2, paS_sub]
    omega
end
section
/-! searches: the reference's step from a number to the next, and its least and greatest -/
section ZDA
variable {B n r s q : Nat}
theorem od_0 (hB : 0 < B) (h : (n + 1) % B ^ r = 0) (hs : s < r) : (n + 1) / B ^ s % B = 0 := by
  obtain ⟨c, hc⟩ := Nat.dvd_of_mod_eq_zero h
  obtain ⟨t, ht⟩ : ∃ t, r = s + (1 + t) := ⟨r - s - 1, by omega⟩
  rw [hc, ht, Nat.pow_add, Nat.mul_assoc, Nat.mul_div_cancel_left _ (Nat.pow_pos hB), Nat.pow_add, Nat.pow_one, Nat.mul_assoc, Nat.mul_mod_right]
theorem od_q (hB : 0 < B) (h : (n + 1) % B ^ r = 0) : (n + 1) / B ^ r = n / B ^ r + 1 := by
  obtain ⟨c, hc⟩ := Nat.dvd_of_mod_eq_zero h
  have hp : 0 < B ^ r := Nat.pow_pos hB
  cases c with
  | zero =>
    rw [Nat.mul_zero] at hc
    omega
  | succ c =>
    rw [hc, Nat.mul_div_cancel_left _ hp]
    rw [Nat.mul_comm, Nat.add_mul, Nat.one_mul] at hc
    rw [kv_n (B := B) (r := r) (q := c) (n := n) (by omega) (by rw [Nat.add_mul, Nat.one_mul]; omega)]
theorem od_s (hB : 0 < B) (h : q % B < B - 1) : (q + 1) % B = q % B + 1 ∧ (q + 1) / B = q / B := by
  have e := Nat.div_add_mod q B
  have e2 : q + 1 = q % B + 1 + B * (q / B) := by omega
  constructor
  · rw [e2, Nat.add_mul_mod_self_left, Nat.mod_eq_of_lt (a := q % B + 1) (by omega)]
  · have e3 : q / B * B = B * (q / B) := Nat.mul_comm _ _
    exact Nat.div_eq_of_lt_le (by rw [e3]; omega) (by rw [Nat.add_mul, Nat.one_mul, e3]; omega)
theorem od_c (hB : 0 < B) (h : (n + 1) % B ^ r = 0) (h9 : n / B ^ r % B = B - 1) : (n + 1) % B ^ (r + 1) = 0 := by
  have e := Nat.div_add_mod (n + 1) (B ^ r)
  rw [h, od_q hB h] at e
  have e2 := Nat.div_add_mod (n / B ^ r) B
  have e3 : n / B ^ r + 1 = B * (n / B ^ r / B + 1) := by
    rw [Nat.mul_add, Nat.mul_one]
    omega
  rw [← e, e3, Nat.add_zero, ← Nat.mul_assoc, ← Nat.pow_succ, Nat.mul_mod_right]
/-- the digits behind are 0 .. -/
theorem kv_s0 {W w u : Nat} (hB : 0 < B) (h : (n + 1) % B ^ (W - w) = 0) (hu : w ≤ u) (hW : u < W) : kvD B W (n + 1) u = 0 := od_0 hB h (by omega)
/-- .. the digit ahead of them is one more .. -/
theorem kv_s1 {W w : Nat} (hB : 0 < B) (h : (n + 1) % B ^ (W - (w + 1)) = 0) (h9 : kvD B W n w < B - 1) : kvD B W (n + 1) w = kvD B W n w + 1 := by
  unfold kvD at h9 ⊢
  rw [show W - 1 - w = W - (w + 1) by omega] at h9 ⊢
  rw [od_q hB h]
  exact (od_s hB h9).1
/-- .. and those ahead of it are the same -/
theorem kv_s2 {W w u : Nat} (hB : 0 < B) (h : (n + 1) % B ^ (W - (w + 1)) = 0) (h9 : kvD B W n w < B - 1) (hu : u < w) (hw : w < W) : kvD B W (n + 1) u = kvD B W n u := by
  unfold kvD at h9 ⊢
  rw [show W - 1 - w = W - (w + 1) by omega] at h9
  obtain ⟨t, ht⟩ : ∃ t, W - 1 - u = W - (w + 1) + (1 + t) := ⟨w - u - 1, by omega⟩
  rw [ht, Nat.pow_add, Nat.pow_add, Nat.pow_one, ← Nat.div_div_eq_div_mul, ← Nat.div_div_eq_div_mul, ← Nat.div_div_eq_div_mul, ← Nat.div_div_eq_div_mul, od_q hB h, (od_s hB h9).2]
theorem kv_c {W w : Nat} (hB : 0 < B) (hw : w < W) (h : (n + 1) % B ^ (W - (w + 1)) = 0) (h9 : kvD B W n w = B - 1) : (n + 1) % B ^ (W - w) = 0 := by
  unfold kvD at h9
  rw [show W - 1 - w = W - (w + 1) by omega] at h9
  rw [show W - w = W - (w + 1) + 1 by omega]
  exact od_c hB h h9
/-- the first number: all digits 0 -/
theorem kv_z {W w : Nat} : kvD B W 0 w = 0 := by
  unfold kvD
  rw [Nat.zero_div, Nat.zero_mod]
end ZDA
/-- the least of yes CARDS, the greatest of no CARDS (FAR where there are none) -/
def lyF (S : Nat → Int) (Y : Nat → Nat) : Nat → Int
  | 0 => 1000000
  | n + 1 => if Y n = 1 then min (lyF S Y n) (S n) else lyF S Y n
def gnF (S : Nat → Int) (Y : Nat → Nat) : Nat → Int
  | 0 => -1000000
  | n + 1 => if Y n = 1 then gnF S Y n else max (gnF S Y n) (S n)
section ZDB
variable {S : Nat → Int} {Y : Nat → Nat} {a b : Int}
theorem lyF_lt : ∀ m, a < lyF S Y m ↔ a < 1000000 ∧ ∀ h, h < m → Y h = 1 → a < S h
  | 0 => ⟨fun h => ⟨h, fun _ h => absurd h (Nat.not_lt_zero _)⟩, fun h => h.1⟩
  | m + 1 => by
    have ih := lyF_lt m
    show a < (if Y m = 1 then min (lyF S Y m) (S m) else lyF S Y m) ↔ _
    by_cases e : Y m = 1
    · rw [if_pos e]
      constructor
      · intro h
        have h1 := ih.mp (by omega)
        refine ⟨h1.1, fun i hi y => ?_⟩
        by_cases ei : i = m
        · rw [ei]
          omega
        · exact h1.2 i (by omega) y
      · intro h
        have h1 := ih.mpr ⟨h.1, fun i hi y => h.2 i (by omega) y⟩
        have h2 := h.2 m (Nat.lt_succ_self m) e
        omega
    · rw [if_neg e, ih]
      exact ⟨fun h => ⟨h.1, fun i hi y => h.2 i (by
        rcases Nat.lt_or_eq_of_le (Nat.le_of_lt_succ hi) with h3 | h3
        · exact h3
        · rw [h3] at y
          exact absurd y e) y⟩, fun h => ⟨h.1, fun i hi y => h.2 i (by omega) y⟩⟩
theorem gnF_lt : ∀ m, gnF S Y m < b ↔ -1000000 < b ∧ ∀ l, l < m → ¬ Y l = 1 → S l < b
  | 0 => ⟨fun h => ⟨h, fun _ h => absurd h (Nat.not_lt_zero _)⟩, fun h => h.1⟩
  | m + 1 => by
    have ih := gnF_lt m
    show (if Y m = 1 then gnF S Y m else max (gnF S Y m) (S m)) < b ↔ _
    by_cases e : Y m = 1
    · rw [if_pos e, ih]
      exact ⟨fun h => ⟨h.1, fun i hi y => h.2 i (by
        rcases Nat.lt_or_eq_of_le (Nat.le_of_lt_succ hi) with h3 | h3
        · exact h3
        · rw [h3] at y
          exact absurd e y) y⟩, fun h => ⟨h.1, fun i hi y => h.2 i (by omega) y⟩⟩
    · rw [if_neg e]
      constructor
      · intro h
        have h1 := ih.mp (by omega)
        refine ⟨h1.1, fun i hi y => ?_⟩
        by_cases ei : i = m
        · rw [ei]
          omega
        · exact h1.2 i (by omega) y
      · intro h
        have h1 := ih.mpr ⟨h.1, fun i hi y => h.2 i (by omega) y⟩
        have h2 := h.2 m (Nat.lt_succ_self m) e
        omega
/-- the first m CARDS can be told apart -/
theorem ga_i {m : Nat} (hS : ∀ c, c < m → -1000000 < S c ∧ S c < 1000000) : gnF S Y m < lyF S Y m ↔ ∀ h l, h < m → l < m → Y h = 1 → ¬ Y l = 1 → S l < S h := by
  rw [lyF_lt]
  constructor
  · intro q h l hh hl y1 y2
    exact ((gnF_lt m).mp (q.2 h hh y1)).2 l hl y2
  · intro q
    exact ⟨(gnF_lt m).mpr ⟨by omega, fun l hl _ => (hS l hl).2⟩, fun h hh y1 => (gnF_lt m).mpr ⟨(hS h hh).1, fun l hl y2 => q h l hh hl y1 y2⟩⟩
end ZDB
end
section
/-- the KNOBS tried times the VALUES, summed -/
def trN (T V : Nat → Int32) : Nat → Int32
  | 0 => Int32.ofNat 0
  | w + 1 => trN T V w + T w * V w
section ZEA
variable {K : et_K} {G : eg_G} {am aw va tr d d2 n c W w : Nat} {T V : Nat → Int32}
theorem fn_trL (hH : et_H et_TT K G) (k_am : K am = some 13) (k_aw : K aw = some 46) (m1 : et_pl (eg_at G am) 1 = some (.ref aw)) (hn : n < 3) (hz : et_pl (eg_at G aw) (45 + 23 * n) = some (.int (Int32.ofNat W))) (hW : W ≤ 6) (m20 : et_pl (eg_at G am) 20 = some (.ref va)) (k_va : K va = some 20) (m21 : et_pl (eg_at G am) 21 = some (.ref tr)) (k_tr : K tr = some 49) (hT : ∀ u, u < W → et_pl (eg_at G tr) u = some (.int (T u))) (hc : c < 20) (hV : ∀ u, u < W → et_pl (eg_at G va) (6 * c + u) = some (.int (V u))) (hw : w ≤ W) : et_go none (d + 2) 258 5 [some (.ref am), some (.int (Int32.ofNat n)), some (.int (Int32.ofNat c)), some (.int (trN T V w)), some (.int (Int32.ofNat w))] [] G 0 0 (xp_Z G (some (.int (trN T V W)))) := by
  induction hq9 : W - w using Nat.strongRecOn generalizing w with
  | _ q9 ih =>
    have lt_am := (hH.2.2 _ _ k_am).1
    have lt_aw := (hH.2.2 _ _ k_aw).1
    have lt_va := (hH.2.2 _ _ k_va).1
    have lt_tr := (hH.2.2 _ _ k_tr).1
    refine hs_iload (i := 4) (p := 7) (by decide +kernel) rfl ?_
    refine hs_aload (i := 0) (p := 8) (by decide +kernel) rfl ?_
    refine hs_iload (i := 1) (p := 9) (by decide +kernel) rfl ?_
    refine ht_callv (T := et_TT) (t := 13) (mi := 224) (na := 1) (ci := 11) (lk := 5) (lm := 2) (L0 := eg_en (eg_mL 224) [.ref am, .int (Int32.ofNat n)]) (by decide +kernel) rfl hH k_am rfl rfl rfl rfl rfl (by rw [show eg_mL 224 = 2 from by decide +kernel]; first | done | rfl) ?_
    refine (fn_wires hH k_am k_aw m1 hn hz (by omega)).mono (fun u hu => xp_cb hu ?_)
    show et_go none _ 258 12 _ [.int (Int32.ofNat W), .int (Int32.ofNat w)] _ _ _ _
    refine hs_br2n (c := .ge) (t := 44) (f := 15) (by decide +kernel) (by omega) (by omega) (fun (c12 : W ≤ w) => ?_) (fun (c12 : ¬ (W ≤ w)) => ?_)
    · refine hs_iload (i := 3) (p := 45) (by decide +kernel) rfl ?_
      refine hs_iret (by decide +kernel) ?_
      obtain rfl : w = W := by omega
      rfl
    · refine hs_iload (i := 3) (p := 16) (by decide +kernel) rfl ?_
      refine hs_aload (i := 0) (p := 17) (by decide +kernel) rfl ?_
      refine hf_get (T := et_TT) (t := 13) (ci := 11) (f := 21) (p := 20) (by decide +kernel) rfl hH k_am m21 ?_
      refine hs_iload (i := 4) (p := 22) (by decide +kernel) rfl ?_
      refine hf_ald (ins := .iaload) (T := et_TT) (t := 49) (kd := 0) (N := 6) (p := 23) (by decide +kernel) (fun _ _ _ _ _ _ _ _ _ _ => rfl) rfl rfl rfl hH k_tr (by decide) (hT w (by omega)) ?_
      refine hs_aload (i := 0) (p := 24) (by decide +kernel) rfl ?_
      refine hf_get (T := et_TT) (t := 13) (ci := 11) (f := 20) (p := 27) (by decide +kernel) rfl hH k_am m20 ?_
      refine hs_k (x := Int32.ofNat 6) (p := 29) (by decide +kernel) ?_
      refine hs_iload (i := 2) (p := 30) (by decide +kernel) rfl ?_
      refine hs_imuln (p := 31) (by decide +kernel) ?_
      refine hs_iload (i := 4) (p := 33) (by decide +kernel) rfl ?_
      refine hs_iaddn (p := 34) (by decide +kernel) ?_
      refine hf_ald (ins := .iaload) (T := et_TT) (t := 20) (kd := 0) (N := 120) (p := 35) (by decide +kernel) (fun _ _ _ _ _ _ _ _ _ _ => rfl) rfl rfl rfl hH k_va (by decide) (hV w (by omega)) ?_
      refine hs_imul (p := 36) (by decide +kernel) ?_
      refine hs_iadd (p := 37) (by decide +kernel) ?_
      refine hs_istore (i := 3) (p := 38) (by decide +kernel) (Nat.le_of_ble_eq_true rfl) ?_
      refine hs_iinc1 (i := 4) (p := 41) (by decide +kernel) rfl (Nat.le_of_ble_eq_true rfl) ?_
      refine hs_goto (p := 5) (by decide +kernel) ?_
      exact ih (W - (w + 1)) (by omega) (w := w + 1) (by omega) rfl
theorem fn_tr (hH : et_H et_TT K G) (k_am : K am = some 13) (k_aw : K aw = some 46) (m1 : et_pl (eg_at G am) 1 = some (.ref aw)) (hn : n < 3) (hz : et_pl (eg_at G aw) (45 + 23 * n) = some (.int (Int32.ofNat W))) (hW : W ≤ 6) (m20 : et_pl (eg_at G am) 20 = some (.ref va)) (k_va : K va = some 20) (m21 : et_pl (eg_at G am) 21 = some (.ref tr)) (k_tr : K tr = some 49) (hT : ∀ u, u < W → et_pl (eg_at G tr) u = some (.int (T u))) (hc : c < 20) (hV : ∀ u, u < W → et_pl (eg_at G va) (6 * c + u) = some (.int (V u))) (hd : 2 ≤ d2) : et_go none d2 258 0 (eg_en (eg_mL 258) [.ref am, .int (Int32.ofNat n), .int (Int32.ofNat c)]) [] G 0 0 (xp_Z G (some (.int (trN T V W)))) := by
  obtain ⟨d, rfl⟩ : ∃ d, d2 = d + 2 := ⟨d2 - 2, by omega⟩
  rw [show eg_mL 258 = 5 from by decide +kernel]
  show et_go none (d + 2) 258 0 [some (.ref am), some (.int (Int32.ofNat n)), some (.int (Int32.ofNat c)), none, none] [] G 0 0 _
  have lt_am := (hH.2.2 _ _ k_am).1
  have lt_aw := (hH.2.2 _ _ k_aw).1
  have lt_va := (hH.2.2 _ _ k_va).1
  have lt_tr := (hH.2.2 _ _ k_tr).1
  refine hs_k (x := Int32.ofNat 0) (p := 1) (by decide +kernel) ?_
  refine hs_istore (i := 3) (p := 2) (by decide +kernel) (Nat.le_of_ble_eq_true rfl) ?_
  refine hs_k (x := Int32.ofNat 0) (p := 3) (by decide +kernel) ?_
  refine hs_istore (i := 4) (p := 5) (by decide +kernel) (Nat.le_of_ble_eq_true rfl) ?_
  exact fn_trL (w := 0) hH k_am k_aw m1 hn hz hW m20 k_va m21 k_tr hT hc hV (Nat.zero_le _)
end ZEA
end
section
section ZFA
variable {K : et_K} {G G0 : eg_G} {Z : eg_O → Prop} {am aw va d d2 n nc c w : Nat} {v : evT} {X : Nat → Int32} {Y : Nat → Nat}
theorem fn_layW (hH0 : et_H et_TT K G0) (k_am : K am = some 13) (k_aw : K aw = some 46) (k_va : K va = some 20) (n1 : et_pl (eg_at G0 am) 1 = some (.ref aw)) (n20 : et_pl (eg_at G0 am) 20 = some (.ref va)) (hn : n < 3) (ho : evo v) (hv0 : evm G0 aw n v) (hnc : nc ≤ 20) (n3 : et_pl (eg_at G0 aw) 3 = some (.int (Int32.ofNat nc))) (hcr0 : crP G0 aw nc X Y) (hH : et_H et_TT K G) (hX : xf (fun b _ => b = va) G0 G) (hcc : c < nc) (hF : ∀ p u, p < c → u < v.1 → et_pl (eg_at G va) (6 * p + u) = some (.int (vaI (v.2.1 u) (v.2.2.1 u) (X p)))) (hG : ∀ u, u < w → et_pl (eg_at G va) (6 * c + u) = some (.int (vaI (v.2.1 u) (v.2.2.1 u) (X c)))) (hw : w ≤ v.1) (h : ∀ G', et_H et_TT K G' → xf (fun b _ => b = va) G0 G' → (∀ p u, p < (c + 1) → u < v.1 → et_pl (eg_at G' va) (6 * p + u) = some (.int (vaI (v.2.1 u) (v.2.2.1 u) (X p)))) → et_go none (d + 4) 256 49 [some (.ref am), some (.int (Int32.ofNat n)), some (.int (Int32.ofNat c)), some (.int (Int32.ofNat v.1))] [] G' 0 0 Z) : et_go none (d + 4) 256 12 [some (.ref am), some (.int (Int32.ofNat n)), some (.int (Int32.ofNat c)), some (.int (Int32.ofNat w))] [] G 0 0 Z := by
  induction hq9 : v.1 - w using Nat.strongRecOn generalizing w G with
  | _ q9 ih =>
    have lt_am0 := (hH0.2.2 _ _ k_am).1
    have lt_aw0 := (hH0.2.2 _ _ k_aw).1
    have hw6 := ho.1.1
    have m1 := (hX.2 am 1 lt_am0 (fun h => hi_ne k_am k_va (by decide) h)).trans n1
    have m20 := (hX.2 am 20 lt_am0 (fun h => hi_ne k_am k_va (by decide) h)).trans n20
    have haw : ∀ i, et_pl (eg_at G aw) i = et_pl (eg_at G0 aw) i := fun i => hX.2 aw i lt_aw0 (fun h => hi_ne k_aw k_va (by decide) h)
    have w3 := (haw 3).trans n3
    have hv : evm G aw n v := evM.mv hv0 (fun i _ => haw _) ho.1.1
    have hcr : crP G aw nc X Y := fun c hc => ⟨(haw _).trans (hcr0 c hc).1, (haw _).trans (hcr0 c hc).2.1, (hcr0 c hc).2.2⟩
    have lt_am := (hH.2.2 _ _ k_am).1
    have lt_aw := (hH.2.2 _ _ k_aw).1
    have lt_va := (hH.2.2 _ _ k_va).1
    refine hs_iload (i := 3) (p := 13) (by decide +kernel) rfl ?_
    refine hs_aload (i := 0) (p := 14) (by decide +kernel) rfl ?_
    refine hs_iload (i := 1) (p := 15) (by decide +kernel) rfl ?_
    refine ht_callv (T := et_TT) (t := 13) (mi := 224) (na := 1) (ci := 11) (lk := 4) (lm := 2) (L0 := eg_en (eg_mL 224) [.ref am, .int (Int32.ofNat n)]) (by decide +kernel) rfl hH k_am rfl rfl rfl rfl rfl (by rw [show eg_mL 224 = 2 from by decide +kernel]; first | done | rfl) ?_
    refine (fn_wires hH k_am k_aw m1 hn hv.1 (by omega)).mono (fun u hu => xp_cb hu ?_)
    show et_go none _ 256 18 _ [.int (Int32.ofNat v.1), .int (Int32.ofNat w)] _ _ _ _
    refine hs_br2n (c := .ge) (t := 49) (f := 21) (by decide +kernel) (by omega) (by omega) (fun (c18 : v.1 ≤ w) => ?_) (fun (c18 : ¬ (v.1 ≤ w)) => ?_)
    · obtain rfl : w = v.1 := by omega
      exact h _ hH hX (fun p u hp hu => by
        by_cases ep : p = c
        · rw [ep]; exact hG u hu
        · exact hF p u (by omega) hu)
    · refine hs_aload (i := 0) (p := 22) (by decide +kernel) rfl ?_
      refine hf_get (T := et_TT) (t := 13) (ci := 11) (f := 20) (p := 25) (by decide +kernel) rfl hH k_am m20 ?_
      refine hs_k (x := Int32.ofNat 6) (p := 27) (by decide +kernel) ?_
      refine hs_iload (i := 2) (p := 28) (by decide +kernel) rfl ?_
      refine hs_imuln (p := 29) (by decide +kernel) ?_
      refine hs_iload (i := 3) (p := 30) (by decide +kernel) rfl ?_
      refine hs_iaddn (p := 31) (by decide +kernel) ?_
      refine hs_aload (i := 0) (p := 32) (by decide +kernel) rfl ?_
      refine hs_iload (i := 1) (p := 33) (by decide +kernel) rfl ?_
      refine hs_iload (i := 3) (p := 34) (by decide +kernel) rfl ?_
      refine hs_aload (i := 0) (p := 35) (by decide +kernel) rfl ?_
      refine hs_iload (i := 2) (p := 36) (by decide +kernel) rfl ?_
      refine ht_callv (T := et_TT) (t := 13) (mi := 234) (na := 1) (ci := 11) (lk := 4) (lm := 2) (L0 := eg_en (eg_mL 234) [.ref am, .int (Int32.ofNat c)]) (by decide +kernel) rfl hH k_am rfl rfl rfl rfl rfl (by rw [show eg_mL 234 = 2 from by decide +kernel]; first | done | rfl) ?_
      refine (fm_litOf hH k_am k_aw m1 (by omega) (hcr c hcc).1).mono (fun u hu => xp_cb hu ?_)
      show et_go none _ 256 39 _ [.int (X c), .int (Int32.ofNat w), .int (Int32.ofNat n), .ref am, .int (Int32.ofNat ((6 * c) + w)), .ref va] _ _ _ _
      refine ht_callv (T := et_TT) (t := 13) (mi := 238) (na := 3) (ci := 11) (lk := 4) (lm := 4) (L0 := eg_en (eg_mL 238) [.ref am, .int (Int32.ofNat n), .int (Int32.ofNat w), .int (X c)]) (by decide +kernel) rfl hH k_am rfl rfl rfl rfl rfl (by rw [show eg_mL 238 = 4 from by decide +kernel]; first | done | rfl) ?_
      refine (fn_val hH k_am k_aw m1 hn ho.1.1 ho.1.2 hv (by omega) (by omega)).mono (fun u hu => xp_cb hu ?_)
      show et_go none _ 256 42 _ [.int (vaI (v.2.1 w) (v.2.2.1 w) (X c)), .int (Int32.ofNat ((6 * c) + w)), .ref va] _ _ _ _
      have hHo := hH
      refine hf_ist (T := et_TT) (t := 20) (N := 120) (p := 43) (by decide +kernel) rfl rfl (by decide) hH k_va (by omega) (by decide) (fun s hs => absurd hs List.not_mem_nil) (fun G42 hH x42 e42 => ?_)
      have hF2 : ∀ p u, p < c → u < v.1 → et_pl (eg_at G42 va) (6 * p + u) = some (.int (vaI (v.2.1 u) (v.2.2.1 u) (X p))) := fun p u hp hu => (x42.2 va _ lt_va (fun h => by have h := h.2; omega)).trans (hF p u hp hu)
      have hG2 : ∀ u, u < w → et_pl (eg_at G42 va) (6 * c + u) = some (.int (vaI (v.2.1 u) (v.2.2.1 u) (X c))) := fun u hu => (x42.2 va _ lt_va (fun h => by have h := h.2; omega)).trans (hG u hu)
      have hX := hX.tr x42 (fun b i _ h => h.1)
      refine hs_iinc1 (i := 3) (p := 46) (by decide +kernel) rfl (Nat.le_of_ble_eq_true rfl) ?_
      refine hs_goto (p := 12) (by decide +kernel) ?_
      have hG3 : ∀ u, u < w + 1 → et_pl (eg_at G42 va) (6 * c + u) = some (.int (vaI (v.2.1 u) (v.2.2.1 u) (X c))) := fun u hu => by
        by_cases eu : u = w
        · rw [eu]; exact e42
        · exact hG2 u (by omega)
      exact ih (v.1 - (w + 1)) (by omega) hH hX hF2 hG3 (by omega) rfl
theorem fn_layL {x3 : Option Value} (hH0 : et_H et_TT K G0) (k_am : K am = some 13) (k_aw : K aw = some 46) (k_va : K va = some 20) (n1 : et_pl (eg_at G0 am) 1 = some (.ref aw)) (n20 : et_pl (eg_at G0 am) 20 = some (.ref va)) (hn : n < 3) (ho : evo v) (hv0 : evm G0 aw n v) (hnc : nc ≤ 20) (n3 : et_pl (eg_at G0 aw) 3 = some (.int (Int32.ofNat nc))) (hcr0 : crP G0 aw nc X Y) (hH : et_H et_TT K G) (hX : xf (fun b _ => b = va) G0 G) (hF : ∀ p u, p < c → u < v.1 → et_pl (eg_at G va) (6 * p + u) = some (.int (vaI (v.2.1 u) (v.2.2.1 u) (X p)))) (hc : c ≤ nc) : et_go none (d + 4) 256 2 [some (.ref am), some (.int (Int32.ofNat n)), some (.int (Int32.ofNat c)), x3] [] G 0 0 (xw_Z (fun b _ => b = va) K G0 (fun g v9 => v9 = none ∧ ∀ p u, p < nc → u < v.1 → et_pl (eg_at g va) (6 * p + u) = some (.int (vaI (v.2.1 u) (v.2.2.1 u) (X p))))) := by
  induction hq9 : nc - c using Nat.strongRecOn generalizing c G x3 with
  | _ q9 ih =>
    have lt_am0 := (hH0.2.2 _ _ k_am).1
    have lt_aw0 := (hH0.2.2 _ _ k_aw).1
    have hw6 := ho.1.1
    have m1 := (hX.2 am 1 lt_am0 (fun h => hi_ne k_am k_va (by decide) h)).trans n1
    have m20 := (hX.2 am 20 lt_am0 (fun h => hi_ne k_am k_va (by decide) h)).trans n20
    have haw : ∀ i, et_pl (eg_at G aw) i = et_pl (eg_at G0 aw) i := fun i => hX.2 aw i lt_aw0 (fun h => hi_ne k_aw k_va (by decide) h)
    have w3 := (haw 3).trans n3
    have hv : evm G aw n v := evM.mv hv0 (fun i _ => haw _) ho.1.1
    have hcr : crP G aw nc X Y := fun c hc => ⟨(haw _).trans (hcr0 c hc).1, (haw _).trans (hcr0 c hc).2.1, (hcr0 c hc).2.2⟩
    have lt_am := (hH.2.2 _ _ k_am).1
    have lt_aw := (hH.2.2 _ _ k_aw).1
    have lt_va := (hH.2.2 _ _ k_va).1
    refine hs_iload (i := 2) (p := 3) (by decide +kernel) rfl ?_
    refine hs_aload (i := 0) (p := 4) (by decide +kernel) rfl ?_
    refine ht_callv (T := et_TT) (t := 13) (mi := 218) (na := 0) (ci := 11) (lk := 4) (lm := 1) (L0 := eg_en (eg_mL 218) [.ref am]) (by decide +kernel) rfl hH k_am rfl rfl rfl rfl rfl (by rw [show eg_mL 218 = 1 from by decide +kernel]; first | done | rfl) ?_
    refine (fm_cards hH k_am k_aw m1 w3).mono (fun u hu => xp_cb hu ?_)
    show et_go none _ 256 7 _ [.int (Int32.ofNat nc), .int (Int32.ofNat c)] _ _ _ _
    refine hs_br2n (c := .ge) (t := 55) (f := 10) (by decide +kernel) (by omega) (by omega) (fun (c7 : nc ≤ c) => ?_) (fun (c7 : ¬ (nc ≤ c)) => ?_)
    · refine hs_vret (by decide +kernel) ?_
      obtain rfl : c = nc := by omega
      exact ⟨_, _, rfl, hH, hX, rfl, hF⟩
    · refine hs_k (x := Int32.ofNat 0) (p := 11) (by decide +kernel) ?_
      refine hs_istore (i := 3) (p := 12) (by decide +kernel) (Nat.le_of_ble_eq_true rfl) ?_
      refine fn_layW (w := 0) hH0 k_am k_aw k_va n1 n20 hn ho hv0 hnc n3 hcr0 hH hX (by omega) hF (fun u hu => absurd hu (Nat.not_lt_zero u)) (Nat.zero_le _) (fun G2 hH hX hF => ?_)
      refine hs_iinc1 (i := 2) (p := 52) (by decide +kernel) rfl (Nat.le_of_ble_eq_true rfl) ?_
      refine hs_goto (p := 2) (by decide +kernel) ?_
      exact ih (nc - (c + 1)) (by omega) hH hX hF (by omega) rfl
theorem fn_lay (hH : et_H et_TT K G) (k_am : K am = some 13) (k_aw : K aw = some 46) (k_va : K va = some 20) (n1 : et_pl (eg_at G am) 1 = some (.ref aw)) (n20 : et_pl (eg_at G am) 20 = some (.ref va)) (hn : n < 3) (ho : evo v) (hv : evm G aw n v) (hnc : nc ≤ 20) (n3 : et_pl (eg_at G aw) 3 = some (.int (Int32.ofNat nc))) (hcr : crP G aw nc X Y) (hd : 4 ≤ d2) : et_go none d2 256 0 (eg_en (eg_mL 256) [.ref am, .int (Int32.ofNat n)]) [] G 0 0 (xw_Z (fun b _ => b = va) K G (fun g v9 => v9 = none ∧ ∀ p u, p < nc → u < v.1 → et_pl (eg_at g va) (6 * p + u) = some (.int (vaI (v.2.1 u) (v.2.2.1 u) (X p))))) := by
  obtain ⟨d, rfl⟩ : ∃ d, d2 = d + 4 := ⟨d2 - 4, by omega⟩
  rw [show eg_mL 256 = 4 from by decide +kernel]
  show et_go none (d + 4) 256 0 [some (.ref am), some (.int (Int32.ofNat n)), none, none] [] G 0 0 _
  have lt_am := (hH.2.2 _ _ k_am).1
  have lt_aw := (hH.2.2 _ _ k_aw).1
  have lt_va := (hH.2.2 _ _ k_va).1
  refine hs_k (x := Int32.ofNat 0) (p := 1) (by decide +kernel) ?_
  refine hs_istore (i := 2) (p := 2) (by decide +kernel) (Nat.le_of_ble_eq_true rfl) ?_
  exact fn_layL (c := 0) hH k_am k_aw k_va n1 n20 hn ho hv hnc n3 hcr hH xf.rf (fun p _ hp => absurd hp (Nat.not_lt_zero p)) (Nat.zero_le _)
end ZFA
end
section
def mxI (a b : Int32) : Int32 := if a < b then b else a
/-- the least of yes CARDS, the greatest of no CARDS, the least of all: as the reference counts -/
def lyI (S : Nat → Int32) (Y : Nat → Nat) : Nat → Int32
  | 0 => Int32.ofNat 1000000
  | n + 1 => if Y n = 1 then mnI (lyI S Y n) (S n) else lyI S Y n
def gnI (S : Nat → Int32) (Y : Nat → Nat) : Nat → Int32
  | 0 => -1000000
  | n + 1 => if Y n = 1 then gnI S Y n else mxI (gnI S Y n) (S n)
def loI (S : Nat → Int32) : Nat → Int32
  | 0 => Int32.ofNat 1000000
  | n + 1 => mnI (loI S n) (S n)
section ZGA
variable {K : et_K} {G : eg_G} {Z : eg_O → Prop} {am aw va tr d d2 n nc c W : Nat} {T : Nat → Int32} {VV : Nat → Nat → Int32} {X S : Nat → Int32} {Y : Nat → Nat}
theorem fn_laL {x6 x7 : Option Value} (hH : et_H et_TT K G) (k_am : K am = some 13) (k_aw : K aw = some 46) (m1 : et_pl (eg_at G am) 1 = some (.ref aw)) (hn : n < 3) (hz : et_pl (eg_at G aw) (45 + 23 * n) = some (.int (Int32.ofNat W))) (hW : W ≤ 6) (m20 : et_pl (eg_at G am) 20 = some (.ref va)) (k_va : K va = some 20) (m21 : et_pl (eg_at G am) 21 = some (.ref tr)) (k_tr : K tr = some 49) (hT : ∀ u, u < W → et_pl (eg_at G tr) u = some (.int (T u))) (hnc : nc ≤ 20) (w3 : et_pl (eg_at G aw) 3 = some (.int (Int32.ofNat nc))) (hcr : crP G aw nc X Y) (hV : ∀ p u, p < nc → u < W → et_pl (eg_at G va) (6 * p + u) = some (.int (VV p u))) (hS : S = (fun c => trN T (VV c) W)) (hc : c ≤ nc) (hgo : ∀ m, m ≤ c → gnI S Y m < lyI S Y m) (h : ∀ n9 q9 (x6 : Option Value), n9 ≤ nc → q9 ≤ nc → (n9 = nc → q9 = nc) → (∀ m, m ≤ n9 → gnI S Y m < lyI S Y m) → (n9 < nc → ¬ gnI S Y (n9 + 1) < lyI S Y (n9 + 1)) → et_go none (d + 3) 257 83 [some (.ref am), some (.int (Int32.ofNat n)), some (.int (lyI S Y q9)), some (.int (gnI S Y q9)), some (.int (Int32.ofNat n9)), some (.int (loI S q9)), x6, x7] [] G 0 0 Z) : et_go none (d + 3) 257 16 [some (.ref am), some (.int (Int32.ofNat n)), some (.int (lyI S Y c)), some (.int (gnI S Y c)), some (.int (Int32.ofNat c)), some (.int (loI S c)), x6, x7] [] G 0 0 Z := by
  induction hq9 : nc - c using Nat.strongRecOn generalizing c x6 with
  | _ q9 ih =>
    have hY1 : c < nc → Y c ≤ 1 := fun h9 => (hcr c h9).2.2
    have lt_am := (hH.2.2 _ _ k_am).1
    have lt_aw := (hH.2.2 _ _ k_aw).1
    have lt_va := (hH.2.2 _ _ k_va).1
    have lt_tr := (hH.2.2 _ _ k_tr).1
    refine hs_iload (i := 4) (p := 18) (by decide +kernel) rfl ?_
    refine hs_aload (i := 0) (p := 19) (by decide +kernel) rfl ?_
    refine ht_callv (T := et_TT) (t := 13) (mi := 218) (na := 0) (ci := 11) (lk := 8) (lm := 1) (L0 := eg_en (eg_mL 218) [.ref am]) (by decide +kernel) rfl hH k_am rfl rfl rfl rfl rfl (by rw [show eg_mL 218 = 1 from by decide +kernel]; first | done | rfl) ?_
    refine (fm_cards hH k_am k_aw m1 w3).mono (fun u hu => xp_cb hu ?_)
    show et_go none _ 257 22 _ [.int (Int32.ofNat nc), .int (Int32.ofNat c)] _ _ _ _
    refine hs_br2n (c := .ge) (t := 83) (f := 25) (by decide +kernel) (by omega) (by omega) (fun (c22 : nc ≤ c) => ?_) (fun (c22 : ¬ (nc ≤ c)) => ?_)
    · obtain rfl : c = nc := by omega
      exact h _ _ _ (Nat.le_refl _) (Nat.le_refl _) (fun _ => rfl) hgo (fun h9 => absurd h9 (Nat.lt_irrefl _))
    · refine hs_aload (i := 0) (p := 26) (by decide +kernel) rfl ?_
      refine hs_iload (i := 1) (p := 27) (by decide +kernel) rfl ?_
      refine hs_iload (i := 4) (p := 29) (by decide +kernel) rfl ?_
      refine ht_callv (T := et_TT) (t := 13) (mi := 258) (na := 2) (ci := 11) (lk := 8) (lm := 5) (L0 := eg_en (eg_mL 258) [.ref am, .int (Int32.ofNat n), .int (Int32.ofNat c)]) (by decide +kernel) rfl hH k_am rfl rfl rfl rfl rfl (by rw [show eg_mL 258 = 5 from by decide +kernel]; first | done | rfl) ?_
      refine (fn_tr (V := VV c) hH k_am k_aw m1 hn hz hW m20 k_va m21 k_tr hT (by omega) (fun u hu => hV c u (by omega) hu) (by omega)).mono (fun u hu => xp_cb hu ?_)
      show et_go none _ 257 32 _ [.int (trN T (VV c) W)] _ _ _ _
      refine hs_istore (i := 6) (p := 34) (by decide +kernel) (Nat.le_of_ble_eq_true rfl) ?_
      refine hs_iload (i := 5) (p := 36) (by decide +kernel) rfl ?_
      refine hs_iload (i := 6) (p := 38) (by decide +kernel) rfl ?_
      refine hs_math (mi := 311) (lk := 8) (p := 41) (by decide +kernel) rfl rfl rfl rfl ?_
      refine hs_istore (i := 5) (p := 43) (by decide +kernel) (Nat.le_of_ble_eq_true rfl) ?_
      refine hs_aload (i := 0) (p := 44) (by decide +kernel) rfl ?_
      refine hs_iload (i := 4) (p := 46) (by decide +kernel) rfl ?_
      refine ht_callv (T := et_TT) (t := 13) (mi := 240) (na := 1) (ci := 11) (lk := 8) (lm := 2) (L0 := eg_en (eg_mL 240) [.ref am, .int (Int32.ofNat c)]) (by decide +kernel) rfl hH k_am rfl rfl rfl rfl rfl (by rw [show eg_mL 240 = 2 from by decide +kernel]; first | done | rfl) ?_
      refine (fm_isYes hH k_am k_aw m1 (by omega) (hcr c (by omega)).2.2 (hcr c (by omega)).2.1).mono (fun u hu => xp_cb hu ?_)
      show et_go none _ 257 49 _ [.int (Int32.ofNat (Y c))] _ _ _ _
      refine hs_br1 (c := .eq) (t := 62) (f := 52) (by decide +kernel) (fun (c49 : Int32.ofNat (Y c) = 0) => ?_) (fun (c49 : ¬ (Int32.ofNat (Y c) = 0)) => ?_)
      · refine hs_iload (i := 3) (p := 63) (by decide +kernel) rfl ?_
        refine hs_iload (i := 6) (p := 65) (by decide +kernel) rfl ?_
        refine hs_math (mi := 310) (lk := 8) (p := 68) (by decide +kernel) rfl rfl rfl rfl ?_
        refine hs_istore (i := 3) (p := 69) (by decide +kernel) (Nat.le_of_ble_eq_true rfl) ?_
        refine hs_iload (i := 2) (p := 70) (by decide +kernel) rfl ?_
        refine hs_iload (i := 3) (p := 71) (by decide +kernel) rfl ?_
        refine hs_br2 (c := .gt) (t := 77) (f := 74) (by decide +kernel) (fun (c71 : (if (gnI S Y c) < (trN T (VV c) W) then (trN T (VV c) W) else (gnI S Y c)) < (lyI S Y c)) => ?_) (fun (c71 : ¬ ((if (gnI S Y c) < (trN T (VV c) W) then (trN T (VV c) W) else (gnI S Y c)) < (lyI S Y c))) => ?_)
        · refine hs_iinc1 (i := 4) (p := 80) (by decide +kernel) rfl (Nat.le_of_ble_eq_true rfl) ?_
          refine hs_goto (p := 16) (by decide +kernel) ?_
          have y9 : ¬ Y c = 1 := fun e => by
            rw [e] at c49
            exact absurd c49 (by decide)
          have e2 : lyI S Y (c + 1) = (lyI S Y c) := (if_neg y9)
          have e3 : gnI S Y (c + 1) = (if (gnI S Y c) < (trN T (VV c) W) then (trN T (VV c) W) else (gnI S Y c)) := (if_neg y9).trans (by rw [hS]; rfl)
          have e5 : loI S (c + 1) = (if (trN T (VV c) W) < (loI S c) then (trN T (VV c) W) else (loI S c)) := by
            show mnI (loI S c) (S c) = _
            rw [hS]
            rfl
          have h9 := fun x6 => ih (nc - (c + 1)) (by omega) (c := c + 1) (x6 := x6) (by omega) (fun m hm => by
            by_cases em : m = c + 1
            · rw [em, e2, e3]; exact c71
            · exact hgo m (by omega)) rfl
          rw [e2, e3, e5] at h9
          exact h9 _
        · refine hs_goto (p := 83) (by decide +kernel) ?_
          have y9 : ¬ Y c = 1 := fun e => by
            rw [e] at c49
            exact absurd c49 (by decide)
          have e2 : lyI S Y (c + 1) = (lyI S Y c) := (if_neg y9)
          have e3 : gnI S Y (c + 1) = (if (gnI S Y c) < (trN T (VV c) W) then (trN T (VV c) W) else (gnI S Y c)) := (if_neg y9).trans (by rw [hS]; rfl)
          have e5 : loI S (c + 1) = (if (trN T (VV c) W) < (loI S c) then (trN T (VV c) W) else (loI S c)) := by
            show mnI (loI S c) (S c) = _
            rw [hS]
            rfl
          have h9 := fun x6 => h c (c + 1) x6 (by omega) (by omega) (fun e9 => absurd e9 (by omega)) hgo (fun _ => by rw [e2, e3]; exact c71)
          rw [e2, e3, e5] at h9
          exact h9 _
      · refine hs_iload (i := 2) (p := 53) (by decide +kernel) rfl ?_
        refine hs_iload (i := 6) (p := 55) (by decide +kernel) rfl ?_
        refine hs_math (mi := 311) (lk := 8) (p := 58) (by decide +kernel) rfl rfl rfl rfl ?_
        refine hs_istore (i := 2) (p := 59) (by decide +kernel) (Nat.le_of_ble_eq_true rfl) ?_
        refine hs_goto (p := 69) (by decide +kernel) ?_
        refine hs_iload (i := 2) (p := 70) (by decide +kernel) rfl ?_
        refine hs_iload (i := 3) (p := 71) (by decide +kernel) rfl ?_
        refine hs_br2 (c := .gt) (t := 77) (f := 74) (by decide +kernel) (fun (c71 : (gnI S Y c) < (if (trN T (VV c) W) < (lyI S Y c) then (trN T (VV c) W) else (lyI S Y c))) => ?_) (fun (c71 : ¬ ((gnI S Y c) < (if (trN T (VV c) W) < (lyI S Y c) then (trN T (VV c) W) else (lyI S Y c)))) => ?_)
        · refine hs_iinc1 (i := 4) (p := 80) (by decide +kernel) rfl (Nat.le_of_ble_eq_true rfl) ?_
          refine hs_goto (p := 16) (by decide +kernel) ?_
          have y9 : Y c = 1 := by
            have h1 := hY1 (by omega)
            by_cases e : Y c = 0
            · rw [e] at c49
              exact absurd (show Int32.ofNat 0 = 0 by decide) c49
            · omega
          have e2 : lyI S Y (c + 1) = (if (trN T (VV c) W) < (lyI S Y c) then (trN T (VV c) W) else (lyI S Y c)) := (if_pos y9).trans (by rw [hS]; rfl)
          have e3 : gnI S Y (c + 1) = (gnI S Y c) := (if_pos y9)
          have e5 : loI S (c + 1) = (if (trN T (VV c) W) < (loI S c) then (trN T (VV c) W) else (loI S c)) := by
            show mnI (loI S c) (S c) = _
            rw [hS]
            rfl
          have h9 := fun x6 => ih (nc - (c + 1)) (by omega) (c := c + 1) (x6 := x6) (by omega) (fun m hm => by
            by_cases em : m = c + 1
            · rw [em, e2, e3]; exact c71
            · exact hgo m (by omega)) rfl
          rw [e2, e3, e5] at h9
          exact h9 _
        · refine hs_goto (p := 83) (by decide +kernel) ?_
          have y9 : Y c = 1 := by
            have h1 := hY1 (by omega)
            by_cases e : Y c = 0
            · rw [e] at c49
              exact absurd (show Int32.ofNat 0 = 0 by decide) c49
            · omega
          have e2 : lyI S Y (c + 1) = (if (trN T (VV c) W) < (lyI S Y c) then (trN T (VV c) W) else (lyI S Y c)) := (if_pos y9).trans (by rw [hS]; rfl)
          have e3 : gnI S Y (c + 1) = (gnI S Y c) := (if_pos y9)
          have e5 : loI S (c + 1) = (if (trN T (VV c) W) < (loI S c) then (trN T (VV c) W) else (loI S c)) := by
            show mnI (loI S c) (S c) = _
            rw [hS]
            rfl
          have h9 := fun x6 => h c (c + 1) x6 (by omega) (by omega) (fun e9 => absurd e9 (by omega)) hgo (fun _ => by rw [e2, e3]; exact c71)
          rw [e2, e3, e5] at h9
          exact h9 _
end ZGA
end
section

/-- the KNOBS without signs, summed -/
def abN (T : Nat → Int32) : Nat → Int32
  | 0 => Int32.ofNat 0
  | w + 1 => abN T w + abI (T w)
section ZHA
variable {K : et_K} {G : eg_G} {Z : eg_O → Prop} {am aw tr d d2 n c W w : Nat} {T : Nat → Int32} {l9 g9 o9 : Int32}
theorem fn_abL (hH : et_H et_TT K G) (k_am : K am = some 13) (k_aw : K aw = some 46) (m1 : et_pl (eg_at G am) 1 = some (.ref aw)) (hn : n < 3) (hz : et_pl (eg_at G aw) (45 + 23 * n) = some (.int (Int32.ofNat W))) (hW : W ≤ 6) (m21 : et_pl (eg_at G am) 21 = some (.ref tr)) (k_tr : K tr = some 49) (hT : ∀ u, u < W → et_pl (eg_at G tr) u = some (.int (T u))) (hw : w ≤ W) (h : et_go none (d + 2) 257 143 [some (.ref am), some (.int (Int32.ofNat n)), some (.int l9), some (.int g9), some (.int (Int32.ofNat c)), some (.int o9), some (.int (abN T W)), some (.int (Int32.ofNat W))] [] G 0 0 Z) : et_go none (d + 2) 257 112 [some (.ref am), some (.int (Int32.ofNat n)), some (.int l9), some (.int g9), some (.int (Int32.ofNat c)), some (.int o9), some (.int (abN T w)), some (.int (Int32.ofNat w))] [] G 0 0 Z := by
  induction hq9 : W - w using Nat.strongRecOn generalizing w with
  | _ q9 ih =>
    have lt_am := (hH.2.2 _ _ k_am).1
    have lt_aw := (hH.2.2 _ _ k_aw).1
    have lt_tr := (hH.2.2 _ _ k_tr).1
    refine hs_iload (i := 7) (p := 114) (by decide +kernel) rfl ?_
    refine hs_aload (i := 0) (p := 115) (by decide +kernel) rfl ?_
    refine hs_iload (i := 1) (p := 116) (by decide +kernel) rfl ?_
    refine ht_callv (T := et_TT) (t := 13) (mi := 224) (na := 1) (ci := 11) (lk := 8) (lm := 2) (L0 := eg_en (eg_mL 224) [.ref am, .int (Int32.ofNat n)]) (by decide +kernel) rfl hH k_am rfl rfl rfl rfl rfl (by rw [show eg_mL 224 = 2 from by decide +kernel]; first | done | rfl) ?_
    refine (fn_wires hH k_am k_aw m1 hn hz (by omega)).mono (fun u hu => xp_cb hu ?_)
    show et_go none _ 257 119 _ [.int (Int32.ofNat W), .int (Int32.ofNat w)] _ _ _ _
    refine hs_br2n (c := .ge) (t := 143) (f := 122) (by decide +kernel) (by omega) (by omega) (fun (c119 : W ≤ w) => ?_) (fun (c119 : ¬ (W ≤ w)) => ?_)
    · obtain rfl : w = W := by omega
      exact h
    · refine hs_iload (i := 6) (p := 124) (by decide +kernel) rfl ?_
      refine hs_aload (i := 0) (p := 125) (by decide +kernel) rfl ?_
      refine hf_get (T := et_TT) (t := 13) (ci := 11) (f := 21) (p := 128) (by decide +kernel) rfl hH k_am m21 ?_
      refine hs_iload (i := 7) (p := 130) (by decide +kernel) rfl ?_
      refine hf_ald (ins := .iaload) (T := et_TT) (t := 49) (kd := 0) (N := 6) (p := 131) (by decide +kernel) (fun _ _ _ _ _ _ _ _ _ _ => rfl) rfl rfl rfl hH k_tr (by decide) (hT w (by omega)) ?_
      refine hs_math (mi := 309) (lk := 8) (p := 134) (by decide +kernel) rfl rfl rfl rfl ?_
      refine hs_iadd (p := 135) (by decide +kernel) ?_
      refine hs_istore (i := 6) (p := 137) (by decide +kernel) (Nat.le_of_ble_eq_true rfl) ?_
      refine hs_iinc1 (i := 7) (p := 140) (by decide +kernel) rfl (Nat.le_of_ble_eq_true rfl) ?_
      refine hs_goto (p := 112) (by decide +kernel) ?_
      exact ih (W - (w + 1)) (by omega) (w := w + 1) (by omega) rfl
end ZHA
end
