section
/-! odds in the law's words -/
section YQA
variable {K : et_K} {G : eg_G} {d d2 th s0 s1 ya yb ec nc la ly out e ca ki kn am aw n m k c q a b : Nat} {O : Nat → Nat} {A : Nat → Nat → Nat} {v : evT} {V : Nat → evT} {X : Nat → Int32} {Y : Nat → Nat} {x y z : Int32} {ra rc fo r : Nat} {D : Nat → Prop} {φ : Nat → sp_E → Bool} {R0 : Nat → Nat} {g : Nat → sp_E → Bool}
theorem fz_od (hH : et_H et_TT K G) (k_th0 : K th = some 12) (h00 : et_pl (eg_at G th) 0 = some (.ref s0)) (k_s00 : K s0 = some 10) (k_s1 : K s1 = some 10) (h5 : et_pl (eg_at G s0) 5 = some (.int (Int32.ofNat ec))) (hec : ec ≤ 3) (t : ezK K ya yb O A) (hz : ez G th s0 s1 ya yb O A V) (ho : ∀ n, n < 6 → evo (V n)) (k_out : K out = some 31) (tR : rxK K D φ th s0 ra fo) (hx9 : rx D φ th s0 ra rc fo G) (hR : ∀ k, k < rc → D (R0 k) ∧ et_pl (eg_at G ra) k = some (.ref (R0 k))) (hd : 35 ≤ d2) : et_go none d2 19 0 (eg_en (eg_mL 19) [.ref th, .int x, .int y, .int z, .ref out]) [] G 0 0 (fun u => (¬ (xr x ec ∧ xr y rc) ∧ u.1 = .inl (some (.int (Int32.ofNat 1)))) ∨ ((xr x ec ∧ xr y rc) ∧ ¬ (-1 ≤ z.toInt ∧ z.toInt ≤ 16) ∧ u.1 = .inl (some (.int (Int32.ofNat 2)))) ∨ ∃ n r, (x = Int32.ofNat n ∧ y = Int32.ofNat r) ∧ (n < ec ∧ r < rc) ∧ (-1 ≤ z.toInt ∧ z.toInt ≤ 16) ∧ u.1 = .inl (some (.int (Int32.ofNat 0))) ∧ et_pl (eg_at u.2.1 out) 0 = some (.long (Int32.ofNat (odN (φ (R0 r)) (V n) z 65536)).toInt64)) := by
  obtain ⟨hrk, ⟨h0, h4⟩, ⟨r0, r1, hrc⟩, hq⟩ := hx9
  obtain ⟨tD, k_th, k_s0, k_ra, k_fo⟩ := tR
  have hRn : ∀ n, n < rc → ∃ q, et_pl (eg_at G ra) n = some (.ref q) := fun n hn => (hq n hn).elim (fun q hq2 => ⟨q, hq2.2⟩)
  by_cases hx : xr x ec
  · obtain ⟨n, rfl, hn⟩ := xr_nat hx (by omega)
    have hE := (hz.2.1 n (by omega)).1
    by_cases hy : xr y rc
    · obtain ⟨r, rfl, hr⟩ := xr_nat hy (by omega)
      obtain ⟨hDn, hRr⟩ := hR r hr
      obtain ⟨bb, lo, hi, q0, hdn, hTb⟩ := hrk _ hDn
      obtain ⟨k_q, hcl⟩ := tD _ hDn
      by_cases hl : (-1 ≤ z.toInt ∧ z.toInt ≤ 16)
      · exact (fh_od hH k_th h0 k_s0 h5 hec hz.1.1 t.1.1 hn hE (t.ev (ho n (by omega)) (by omega)) (hz.2.2.1 n (by omega)) r0 hrc r1 k_ra hr hRr k_q q0 (cond_ty hH k_q q0) hdn hTb hcl h4 k_fo k_out hl hd).mono (fun u hu => .inr (.inr ⟨n, r, ⟨rfl, rfl⟩, ⟨hn, hr⟩, hl, hu.1, hu.2⟩))
      · exact (fh_odZ hH k_th h0 k_s0 h5 hec hz.1.1 t.1.1 hn hE r0 hrc r1 k_ra hr hRr hl (by omega)).mono (fun u hu => .inr (.inl ⟨⟨hx, hy⟩, hl, hu.1⟩))
    · exact (fh_odR hH k_th h0 k_s0 h5 hec hz.1.1 t.1.1 hn hE r0 hrc r1 k_ra hRn hy (by omega)).mono (fun u hu => .inl ⟨fun h => hy h.2, hu.1⟩)
  · exact (fh_odE hH k_th h0 k_s0 h5 hec hz.1.1 t.1.1 hx (by omega)).mono (fun u hu => .inl ⟨fun h => hx h.1, hu.1⟩)
theorem gz_od (hH : et_H et_TT K G) (k_am : K am = some 13) (k_aw : K aw = some 46) (m1 : et_pl (eg_at G am) 1 = some (.ref aw)) (w0 : et_pl (eg_at G aw) 0 = some (.int (Int32.ofNat rc))) (hrc : rc ≤ 4) (w4 : et_pl (eg_at G aw) 4 = some (.int (Int32.ofNat ec))) (hec : ec ≤ 3) (hm : zyM G aw ec V) (ho : ∀ n, n < 3 → evo (V n)) (hT : ∀ r, r < rc → txP G aw (126 + 841 * r) 0 (g r) ∧ fcl (g r)) (hky : kyA G am aw rc) (hd : 8 ≤ d2) : et_go none d2 270 0 (eg_en (eg_mL 270) [.ref am, .int x, .int y, .int z]) [] G 0 0 (fun u => (¬ (xr x ec ∧ xr y rc) ∧ u.1 = .inl (some (.int (Int32.ofNat 0))) ∧ et_pl (eg_at u.2.1 am) 0 = some (.int (Int32.ofNat 1)) ∧ kyA u.2.1 am aw rc) ∨ ((xr x ec ∧ xr y rc) ∧ ¬ (-1 ≤ z.toInt ∧ z.toInt ≤ 16) ∧ u.1 = .inl (some (.int (Int32.ofNat 0))) ∧ et_pl (eg_at u.2.1 am) 0 = some (.int (Int32.ofNat 2)) ∧ kyA u.2.1 am aw rc) ∨ ∃ n r, (x = Int32.ofNat n ∧ y = Int32.ofNat r) ∧ (n < ec ∧ r < rc) ∧ (-1 ≤ z.toInt ∧ z.toInt ≤ 16) ∧ u.1 = .inl (some (.int (Int32.ofNat (odN (g r) (V n) z 65536)))) ∧ et_pl (eg_at u.2.1 am) 0 = some (.int (Int32.ofNat 0)) ∧ kyA u.2.1 am aw rc) := by
  by_cases hx : xr x ec
  · obtain ⟨n, rfl, hn⟩ := xr_nat hx (by omega)
    by_cases hy : xr y rc
    · obtain ⟨r, rfl, hr⟩ := xr_nat hy (by omega)
      by_cases hl : (-1 ≤ z.toInt ∧ z.toInt ≤ 16)
      · exact (fn_od hH k_am k_aw m1 w0 hrc w4 hec hm ho hT hky hn hr hl (by omega)).mono (fun u hu => .inr (.inr ⟨n, r, ⟨rfl, rfl⟩, ⟨hn, hr⟩, hl, hu.1, hu.2.1, hu.2.2.1⟩))
      · exact (fn_odZ hH k_am k_aw m1 w0 hrc w4 hec hm ho hT hky hn hr hl (by omega)).mono (fun u hu => .inr (.inl ⟨⟨hx, hy⟩, hl, hu.1, hu.2.1, hu.2.2.1⟩))
    · exact (fn_odR hH k_am k_aw m1 w0 hrc w4 hec hm ho hT hky hn hy (by omega)).mono (fun u hu => .inl ⟨fun h => hy h.2, hu.1, hu.2.1, hu.2.2.1⟩)
  · exact (fn_odE hH k_am k_aw m1 w0 hrc w4 hec hm ho hT hky hx (by omega)).mono (fun u hu => .inl ⟨fun h => hx h.1, hu.1, hu.2.1, hu.2.2.1⟩)
end YQA
end
section
/-! PHASE D: soonest: what both sides tell -/
/-- right on the first CARDS -/
def roB (v : evT) (X : Nat → Int32) (Y : Nat → Nat) : Nat → Bool
  | 0 => true
  | c + 1 => roB v X Y c && (syE v (X c) == yB (Y c))
theorem roB_f {v : evT} {X : Nat → Int32} {Y : Nat → Nat} {c : Nat} (h : ¬ syE v (X c) = yB (Y c)) : ∀ n, c < n → roB v X Y n = false
  | 0, hc => absurd hc (Nat.not_lt_zero _)
  | n + 1, hc => by
    show (roB v X Y n && (syE v (X n) == yB (Y n))) = false
    by_cases e : c = n
    · subst e
      rw [beq_false_of_ne h, Bool.and_false]
    · rw [roB_f h n (by omega), Bool.false_and]
theorem roB_s {v : evT} {X : Nat → Int32} {Y : Nat → Nat} {c : Nat} (h0 : roB v X Y c = true) (h : syE v (X c) = yB (Y c)) : roB v X Y (c + 1) = true := by
  show (roB v X Y c && (syE v (X c) == yB (Y c))) = true
  rw [h0, h, beq_self_eq_true]
  rfl
/-- what an EYE is while CARDS are shown to it by an order -/
def soS (v : evT) (X : Nat → Int32) (Y : Nat → Nat) (ls : List sp_L) (σ : Nat → Nat) (n : Nat) : Nat → (Nat → Int32) × Int32 × Int32
  | 0 => vN v
  | k + 1 => nxN v.2.1 v.2.2.1 (X (σ (k % n))) v.1 v.2.2.2.2.2.2.1 v.2.2.2.2.2.2.2 ls (yB (Y (σ (k % n)))) (soS v X Y ls σ n k)
/-- the first from k on, within so many more -/
def soL (r : Nat → Bool) : Nat → Nat → Nat
  | 0, k => if r k = true then k else 51
  | f + 1, k => if r k = true then k else soL r f (k + 1)
theorem soL_y {r : Nat → Bool} {k : Nat} (h : r k = true) : ∀ f, soL r f k = k
  | 0 => if_pos h
  | _ + 1 => if_pos h
theorem soL_0 {r : Nat → Bool} {k : Nat} (h : ¬ r k = true) : soL r 0 k = 51 := if_neg h
theorem soL_s {r : Nat → Bool} {f k : Nat} (h : ¬ r k = true) : soL r (f + 1) k = soL r f (k + 1) := if_neg h
theorem soL_ge {r : Nat → Bool} : ∀ f k, k + f ≤ 51 → k ≤ soL r f k
  | 0, k, h => by
    show k ≤ (if r k = true then k else 51)
    split <;> omega
  | f + 1, k, h => by
    have h2 := soL_ge (r := r) f (k + 1) (by omega)
    show k ≤ (if r k = true then k else soL r f (k + 1))
    split <;> omega
theorem soL_le {r : Nat → Bool} : ∀ f k, k + f ≤ 51 → soL r f k ≤ 51
  | 0, k, h => by
    show (if r k = true then k else 51) ≤ 51
    split <;> omega
  | f + 1, k, h => by
    have h2 := soL_le (r := r) f (k + 1) (by omega)
    show (if r k = true then k else soL r f (k + 1)) ≤ 51
    split <;> omega
def soR (v : evT) (X : Nat → Int32) (Y : Nat → Nat) (ls : List sp_L) (n : Nat) (σ : Nat → Nat) (k : Nat) : Bool := roB (vNs v (soS v X Y ls σ n k)) X Y n
/-- how soon by an order (51: not at all) -/
def soG (v : evT) (X : Nat → Int32) (Y : Nat → Nat) (ls : List sp_L) (n : Nat) (σ : Nat → Nat) : Nat := soL (soR v X Y ls n σ) (10 * n) 0
theorem soG_le {v : evT} {X : Nat → Int32} {Y : Nat → Nat} {ls : List sp_L} {n : Nat} {σ : Nat → Nat} (hn : n ≤ 5) : soG v X Y ls n σ ≤ 51 := soL_le _ _ (by omega)
theorem soG_co {v : evT} {X : Nat → Int32} {Y : Nat → Nat} {ls : List sp_L} {n : Nat} {σ τ : Nat → Nat} (h : ∀ p, p < n → σ p = τ p) : soG v X Y ls n σ = soG v X Y ls n τ := by
  by_cases h0 : n = 0
  · subst h0
    exact (soL_y (r := soR v X Y ls 0 σ) (k := 0) rfl _).trans (soL_y (r := soR v X Y ls 0 τ) (k := 0) rfl _).symm
  · have e : ∀ k, soS v X Y ls σ n k = soS v X Y ls τ n k := fun k => by
      induction k with
      | zero => rfl
      | succ k ih =>
        show nxN v.2.1 v.2.2.1 (X (σ (k % n))) v.1 v.2.2.2.2.2.2.1 v.2.2.2.2.2.2.2 ls (yB (Y (σ (k % n)))) (soS v X Y ls σ n k) = nxN v.2.1 v.2.2.1 (X (τ (k % n))) v.1 v.2.2.2.2.2.2.1 v.2.2.2.2.2.2.2 ls (yB (Y (τ (k % n)))) (soS v X Y ls τ n k)
        rw [ih, h _ (Nat.mod_lt _ (by omega))]
    have e2 : soR v X Y ls n σ = soR v X Y ls n τ := funext (fun k => by
      unfold soR
      rw [e k])
    unfold soG
    rw [e2]
/-- the class's orders: the digits of a row -/
def ocN (n row p : Nat) : Nat := row / n ^ p % n
def usN (n row : Nat) : Nat → Nat
  | 0 => 0
  | p + 1 => usN n row p ||| 2 ^ ocN n row p
def clF (g : (Nat → Nat) → Nat) (n : Nat) : Nat → Nat
  | 0 => 51
  | row + 1 => if usN n row n = 2 ^ n - 1 then min (clF g n row) (g (ocN n row)) else clF g n row
/-- the reference's: of the CARDS that are left -/
def pkN (l : Nat) : Nat → Nat → Nat → Nat
  | 0, _, c => c
  | f + 1, w, c => if bt l c = 0 ∨ 0 < w then pkN l f (w - bt l c) (c + 1) else c
def lfN (n code : Nat) : Nat → Nat × Nat
  | 0 => (code, 2 ^ n - 1)
  | k + 1 => match lfN n code k with
    | (r, l) => (r / (n - k), l - 2 ^ pkN l 5 (r % (n - k)) 0)
def orN (n code k : Nat) : Nat := pkN (lfN n code k).2 5 ((lfN n code k).1 % (n - k)) 0
def rfF (g : (Nat → Nat) → Nat) (n : Nat) : Nat → Nat
  | 0 => 51
  | code + 1 => min (rfF g n code) (g (orN n code))
def fcN : Nat → Nat
  | 0 => 1
  | k + 1 => fcN k * (k + 1)
def rwN (n code : Nat) : Nat → Nat
  | 0 => 0
  | p + 1 => rwN n code p + orN n code p * n ^ p
theorem so_row : (List.range 6).all (fun n => (List.range (n ^ n)).all (fun row => !(decide (usN n row n = 2 ^ n - 1)) || (List.range (fcN n)).any (fun code => (List.range n).all (fun p => decide (ocN n row p = orN n code p))))) = true := by decide +kernel
theorem so_code : (List.range 6).all (fun n => (List.range (fcN n)).all (fun code => decide (rwN n code n < n ^ n) && (decide (usN n (rwN n code n) n = 2 ^ n - 1) && (List.range n).all (fun p => decide (ocN n (rwN n code n) p = orN n code p))))) = true := by decide +kernel
theorem so_lft : (List.range 6).all (fun n => (List.range (fcN n)).all (fun code => (List.range n).all (fun k => decide ((lfN n code k).2 < 32) && (decide ((lfN n code k).1 % (n - k) < sp (lfN n code k).2 0) && (decide (orN n code k < n) && decide (bt (lfN n code k).2 (orN n code k) = 1)))))) = true := by decide +kernel
section YRS
variable {g : (Nat → Nat) → Nat} {n b : Nat}
theorem clF_le : ∀ N, clF g n N ≤ 51
  | 0 => Nat.le_refl _
  | N + 1 => by
    have h := clF_le N
    show (if usN n N n = 2 ^ n - 1 then min (clF g n N) (g (ocN n N)) else clF g n N) ≤ 51
    split <;> omega
theorem rfF_le : ∀ N, rfF g n N ≤ 51
  | 0 => Nat.le_refl _
  | N + 1 => by
    have h := rfF_le N
    show min (rfF g n N) (g (orN n N)) ≤ 51
    omega
theorem clF_lt {row : Nat} (hv : usN n row n = 2 ^ n - 1) : ∀ N, row < N → clF g n N ≤ g (ocN n row)
  | 0, h => absurd h (Nat.not_lt_zero _)
  | N + 1, h => by
    show (if usN n N n = 2 ^ n - 1 then min (clF g n N) (g (ocN n N)) else clF g n N) ≤ _
    by_cases e : row = N
    · subst e
      rw [if_pos hv]
      omega
    · have h2 := clF_lt hv N (by omega)
      split <;> omega
theorem rfF_lt {code : Nat} : ∀ N, code < N → rfF g n N ≤ g (orN n code)
  | 0, h => absurd h (Nat.not_lt_zero _)
  | N + 1, h => by
    show min (rfF g n N) (g (orN n N)) ≤ _
    by_cases e : code = N
    · subst e
      omega
    · have h2 := rfF_lt (code := code) N (by omega)
      omega
theorem clF_ge (hb : b ≤ 51) : ∀ N, (∀ row, row < N → usN n row n = 2 ^ n - 1 → b ≤ g (ocN n row)) → b ≤ clF g n N
  | 0, _ => hb
  | N + 1, h => by
    have h2 := clF_ge hb N (fun row hr hv => h row (by omega) hv)
    show b ≤ (if usN n N n = 2 ^ n - 1 then min (clF g n N) (g (ocN n N)) else clF g n N)
    by_cases e : usN n N n = 2 ^ n - 1
    · rw [if_pos e]
      have h3 := h N (by omega) e
      omega
    · rw [if_neg e]
      exact h2
theorem rfF_ge (hb : b ≤ 51) : ∀ N, (∀ code, code < N → b ≤ g (orN n code)) → b ≤ rfF g n N
  | 0, _ => hb
  | N + 1, h => by
    have h2 := rfF_ge hb N (fun code hr => h code (by omega))
    have h3 := h N (by omega)
    show b ≤ min (rfF g n N) (g (orN n N))
    omega
/-- both come to the same -/
theorem so_eq (hn : n ≤ 5) (hg : ∀ σ τ : Nat → Nat, (∀ p, p < n → σ p = τ p) → g σ = g τ) : clF g n (n ^ n) = rfF g n (fcN n) := by
  have hm : n ∈ List.range 6 := List.mem_range.mpr (by omega)
  refine Nat.le_antisymm (rfF_ge (clF_le _) _ (fun code hc => ?_)) (clF_ge (rfF_le _) _ (fun row hr hv => ?_))
  · have h := List.all_eq_true.mp (List.all_eq_true.mp so_code n hm) code (List.mem_range.mpr hc)
    rw [Bool.and_eq_true, Bool.and_eq_true] at h
    obtain ⟨h1, h2, h3⟩ := h
    rw [← hg (ocN n (rwN n code n)) (orN n code) (fun p hp => of_decide_eq_true (List.all_eq_true.mp h3 p (List.mem_range.mpr hp)))]
    exact clF_lt (of_decide_eq_true h2) _ (of_decide_eq_true h1)
  · have h := List.all_eq_true.mp (List.all_eq_true.mp so_row n hm) row (List.mem_range.mpr hr)
    rw [decide_eq_true hv, Bool.not_true, Bool.false_or] at h
    obtain ⟨code, hc, h3⟩ := List.any_eq_true.mp h
    rw [hg (ocN n row) (orN n code) (fun p hp => of_decide_eq_true (List.all_eq_true.mp h3 p (List.mem_range.mpr hp)))]
    exact rfF_lt _ (List.mem_range.mp hc)
end YRS
def snI (F : Nat) : Int32 := if 50 < F then -1 else Int32.ofNat F
theorem so_dr : (List.range 3125).all (fun a => (List.range 5).all (fun n => decide (Int32.ofNat a / Int32.ofNat (n + 1) = Int32.ofNat (a / (n + 1))) && decide (Int32.ofNat a - Int32.ofNat a / Int32.ofNat (n + 1) * Int32.ofNat (n + 1) = Int32.ofNat (a % (n + 1))))) = true := by decide +kernel
theorem so_b {a n : Nat} (ha : a < 3125) (h1 : 1 ≤ n) (h5 : n ≤ 5) : Int32.ofNat a / Int32.ofNat n = Int32.ofNat (a / n) ∧ Int32.ofNat a - Int32.ofNat a / Int32.ofNat n * Int32.ofNat n = Int32.ofNat (a % n) := by
  obtain ⟨m, rfl⟩ : ∃ m, n = m + 1 := ⟨n - 1, by omega⟩
  have h := List.all_eq_true.mp (List.all_eq_true.mp so_dr a (List.mem_range.mpr ha)) m (List.mem_range.mpr (by omega))
  rw [Bool.and_eq_true] at h
  exact ⟨of_decide_eq_true h.1, of_decide_eq_true h.2⟩
theorem so_d {a n : Nat} (ha : a < 3125) (h1 : 1 ≤ n) (h5 : n ≤ 5) : Int32.ofNat a / Int32.ofNat n = Int32.ofNat (a / n) := (so_b ha h1 h5).1
theorem so_r {a n : Nat} (ha : a < 3125) (h1 : 1 ≤ n) (h5 : n ≤ 5) : Int32.ofNat a - Int32.ofNat a / Int32.ofNat n * Int32.ofNat n = Int32.ofNat (a % n) := (so_b ha h1 h5).2
theorem so_nn : ∀ n ∈ List.range 6, n ^ n ≤ 3125 ∧ fcN n ≤ 120 := by decide +kernel
theorem so_or : ∀ u ∈ List.range 32, ∀ q ∈ List.range 5, Int32.ofNat u ||| (Int32.ofNat 1 <<< (Int32.ofNat q &&& 31)) = Int32.ofNat (u ||| 2 ^ q) := by decide +kernel
theorem usN_lt {n row : Nat} (h5 : n ≤ 5) (h1 : 1 ≤ n) : ∀ p, usN n row p < 2 ^ 5
  | 0 => by
    show (0 : Nat) < 2 ^ 5
    decide
  | p + 1 => Nat.or_lt_two_pow (usN_lt h5 h1 p) (Nat.pow_lt_pow_right (by decide) (Nat.lt_of_lt_of_le (Nat.mod_lt _ h1) h5))
theorem mn_I {a b : Nat} (ha : a < 2147483648) (hb : b < 2147483648) : (if Int32.ofNat a < Int32.ofNat b then Int32.ofNat a else Int32.ofNat b) = Int32.ofNat (min b a) := by
  by_cases h : a < b
  · rw [if_pos (Int32.lt_iff_toInt_lt.mpr (by rw [hs_nint ha, hs_nint hb]; omega)), show min b a = a by omega]
  · rw [if_neg (fun h2 => h (by have h3 := Int32.lt_iff_toInt_lt.mp h2; rw [hs_nint ha, hs_nint hb] at h3; omega)), show min b a = b by omega]
section YRA
variable {K : et_K} {G : eg_G} {d d2 th s0 s1 ya yb ec nc la ly out e ca ki kn am aw n m k c q a b : Nat} {O : Nat → Nat} {A : Nat → Nat → Nat} {v : evT} {V : Nat → evT} {X : Nat → Int32} {Y : Nat → Nat} {x y z : Int32} {sp pa pi pn fo tn od row p tm F z9 : Nat} {ls : List sp_L} {σ : Nat → Nat} {N : Nat → Int32} {l s : Int32} {G0 : eg_G}
theorem fd_rofL (hH : et_H et_TT K G) (k_s0 : K s0 = some 10) (k_e : K e = some 3) (t9 : evK K e ca ki kn v.1 v.2.2.1) (hv : evc G e ca ki kn v) (g2 : et_pl (eg_at G s0) 2 = some (.int (Int32.ofNat nc))) (hnc : nc ≤ 20) (g3 : et_pl (eg_at G s0) 3 = some (.ref la)) (g4 : et_pl (eg_at G s0) 4 = some (.ref ly)) (k_la : K la = some 17) (k_ly : K ly = some 27) (hXc : ∀ c, c < nc → et_pl (eg_at G la) c = some (.int (X c))) (hYc : ∀ c, c < nc → et_pl (eg_at G ly) c = some (.int (Int32.ofNat (Y c)))) (hY1 : ∀ c, c < nc → Y c ≤ 1) (hn : n ≤ nc) (hb : roB v X Y c = true) (hc : c ≤ n) : et_go none (d + 4) 111 2 [some (.ref s0), some (.ref e), some (.int (Int32.ofNat n)), some (.int (Int32.ofNat c))] [] G 0 0 (xp_Z G (some (.int (Int32.ofNat (if roB v X Y n = true then 1 else 0))))) := by
  induction hq9 : n - c using Nat.strongRecOn generalizing c with
  | _ q9 ih =>
    have hY9 : c < n → Y c ≤ 1 := fun h9 => hY1 c (by omega)
    have lt_s0 := (hH.2.2 _ _ k_s0).1
    have lt_e := (hH.2.2 _ _ k_e).1
    have lt_la := (hH.2.2 _ _ k_la).1
    have lt_ly := (hH.2.2 _ _ k_ly).1
    refine hs_iload (i := 3) (p := 3) (by decide +kernel) rfl ?_
    refine hs_iload (i := 2) (p := 4) (by decide +kernel) rfl ?_
    refine hs_br2n (c := .ge) (t := 42) (f := 7) (by decide +kernel) (by omega) (by omega) (fun (c4 : n ≤ c) => ?_) (fun (c4 : ¬ (n ≤ c)) => ?_)
    · refine hs_k (x := Int32.ofNat 1) (p := 43) (by decide +kernel) ?_
      refine hs_zret (by decide +kernel) (.inr rfl) ?_
      obtain rfl : c = n := by omega
      rw [if_pos hb]
      rfl
    · refine hs_iload (i := 3) (p := 8) (by decide +kernel) rfl ?_
      refine hs_aload (i := 0) (p := 9) (by decide +kernel) rfl ?_
      refine hf_get (T := et_TT) (t := 10) (ci := 8) (f := 2) (p := 12) (by decide +kernel) rfl hH k_s0 g2 ?_
      refine hs_br2n (c := .ge) (t := 42) (f := 15) (by decide +kernel) (by omega) (by omega) (fun (c12 : nc ≤ c) => ?_) (fun (c12 : ¬ (nc ≤ c)) => ?_)
      · refine hs_k (x := Int32.ofNat 1) (p := 43) (by decide +kernel) ?_
        refine hs_zret (by decide +kernel) (.inr rfl) ?_
        obtain rfl : c = n := by omega
        rw [if_pos hb]
        rfl
      · refine hs_aload (i := 1) (p := 16) (by decide +kernel) rfl ?_
        refine hs_aload (i := 0) (p := 17) (by decide +kernel) rfl ?_
        refine hf_get (T := et_TT) (t := 10) (ci := 8) (f := 3) (p := 20) (by decide +kernel) rfl hH k_s0 g3 ?_
        refine hs_iload (i := 3) (p := 21) (by decide +kernel) rfl ?_
        refine hf_ald (ins := .iaload) (T := et_TT) (t := 17) (kd := 0) (N := 20) (p := 22) (by decide +kernel) (fun _ _ _ _ _ _ _ _ _ _ => rfl) rfl rfl rfl hH k_la (by decide) (hXc c (by omega)) ?_
        refine ht_callv (T := et_TT) (t := 3) (mi := 32) (na := 1) (ci := 1) (lk := 4) (lm := 2) (L0 := eg_en (eg_mL 32) [.ref e, .int (X c)]) (by decide +kernel) rfl hH k_e rfl rfl rfl rfl rfl (by rw [show eg_mL 32 = 2 from by decide +kernel]; first | done | rfl) ?_
        refine (fd_says hH t9 hv (by omega)).mono (fun u hu => xp_cb hu ?_)
        by_cases q1 : v.2.2.2.2.1 < suN v.2.1 v.2.2.1 v.2.2.2.1 (X c) v.1
        · rw [if_pos q1]
          show et_go none _ 111 25 _ [.int (Int32.ofNat 1)] _ _ _ _
          refine hs_aload (i := 0) (p := 26) (by decide +kernel) rfl ?_
          refine hf_get (T := et_TT) (t := 10) (ci := 8) (f := 4) (p := 29) (by decide +kernel) rfl hH k_s0 g4 ?_
          refine hs_iload (i := 3) (p := 30) (by decide +kernel) rfl ?_
          refine hf_ald (ins := .baload) (T := et_TT) (t := 27) (kd := 3) (N := 20) (p := 31) (by decide +kernel) (fun _ _ _ _ _ _ _ _ _ _ => rfl) rfl rfl rfl hH k_ly (by decide) (hYc c (by omega)) ?_
          refine hs_br2n (c := .eq) (t := 36) (f := 34) (by decide +kernel) (by omega) (by omega) (fun (c31 : 1 = (Y c)) => ?_) (fun (c31 : ¬ (1 = (Y c))) => ?_)
          · refine hs_iinc1 (i := 3) (p := 39) (by decide +kernel) rfl (Nat.le_of_ble_eq_true rfl) ?_
            refine hs_goto (p := 2) (by decide +kernel) ?_
            have e1 : syE v (X c) = true := decide_eq_true q1
            have e2 : syE v (X c) = yB (Y c) := by rw [e1]; exact (decide_eq_true (by omega)).symm
            exact @ih (n - (c + 1)) (by omega) (c + 1) (roB_s hb e2) (by omega) rfl
          · refine hs_k (x := Int32.ofNat 0) (p := 35) (by decide +kernel) ?_
            refine hs_zret (by decide +kernel) (.inl rfl) ?_
            have e1 : syE v (X c) = true := decide_eq_true q1
            have e2 : ¬ syE v (X c) = yB (Y c) := by rw [e1, show yB (Y c) = false from decide_eq_false (by omega)]; decide
            rw [roB_f e2 n (by omega)]
            rfl
        · rw [if_neg q1]
          show et_go none _ 111 25 _ [.int (Int32.ofNat 0)] _ _ _ _
          refine hs_aload (i := 0) (p := 26) (by decide +kernel) rfl ?_
          refine hf_get (T := et_TT) (t := 10) (ci := 8) (f := 4) (p := 29) (by decide +kernel) rfl hH k_s0 g4 ?_
          refine hs_iload (i := 3) (p := 30) (by decide +kernel) rfl ?_
          refine hf_ald (ins := .baload) (T := et_TT) (t := 27) (kd := 3) (N := 20) (p := 31) (by decide +kernel) (fun _ _ _ _ _ _ _ _ _ _ => rfl) rfl rfl rfl hH k_ly (by decide) (hYc c (by omega)) ?_
          refine hs_br2n (c := .eq) (t := 36) (f := 34) (by decide +kernel) (by omega) (by omega) (fun (c31 : 0 = (Y c)) => ?_) (fun (c31 : ¬ (0 = (Y c))) => ?_)
          · refine hs_iinc1 (i := 3) (p := 39) (by decide +kernel) rfl (Nat.le_of_ble_eq_true rfl) ?_
            refine hs_goto (p := 2) (by decide +kernel) ?_
            have e1 : syE v (X c) = false := decide_eq_false q1
            have e2 : syE v (X c) = yB (Y c) := by rw [e1]; exact (decide_eq_false (by omega)).symm
            exact @ih (n - (c + 1)) (by omega) (c + 1) (roB_s hb e2) (by omega) rfl
          · refine hs_k (x := Int32.ofNat 0) (p := 35) (by decide +kernel) ?_
            refine hs_zret (by decide +kernel) (.inl rfl) ?_
            have e1 : syE v (X c) = false := decide_eq_false q1
            have e2 : ¬ syE v (X c) = yB (Y c) := by rw [e1, show yB (Y c) = true from decide_eq_true (by omega)]; decide
            rw [roB_f e2 n (by omega)]
            rfl
theorem fd_rof (hH : et_H et_TT K G) (k_s0 : K s0 = some 10) (k_e : K e = some 3) (t9 : evK K e ca ki kn v.1 v.2.2.1) (hv : evc G e ca ki kn v) (g2 : et_pl (eg_at G s0) 2 = some (.int (Int32.ofNat nc))) (hnc : nc ≤ 20) (g3 : et_pl (eg_at G s0) 3 = some (.ref la)) (g4 : et_pl (eg_at G s0) 4 = some (.ref ly)) (k_la : K la = some 17) (k_ly : K ly = some 27) (hXc : ∀ c, c < nc → et_pl (eg_at G la) c = some (.int (X c))) (hYc : ∀ c, c < nc → et_pl (eg_at G ly) c = some (.int (Int32.ofNat (Y c)))) (hY1 : ∀ c, c < nc → Y c ≤ 1) (hn : n ≤ nc) (hd : 4 ≤ d2) : et_go none d2 111 0 (eg_en (eg_mL 111) [.ref s0, .ref e, .int (Int32.ofNat n)]) [] G 0 0 (xp_Z G (some (.int (Int32.ofNat (if roB v X Y n = true then 1 else 0))))) := by
  obtain ⟨d, rfl⟩ : ∃ d, d2 = d + 4 := ⟨d2 - 4, by omega⟩
  rw [show eg_mL 111 = 4 from by decide +kernel]
  show et_go none (d + 4) 111 0 [some (.ref s0), some (.ref e), some (.int (Int32.ofNat n)), none] [] G 0 0 _
  have lt_s0 := (hH.2.2 _ _ k_s0).1
  have lt_e := (hH.2.2 _ _ k_e).1
  have lt_la := (hH.2.2 _ _ k_la).1
  have lt_ly := (hH.2.2 _ _ k_ly).1
  refine hs_k (x := Int32.ofNat 0) (p := 1) (by decide +kernel) ?_
  refine hs_istore (i := 3) (p := 2) (by decide +kernel) (Nat.le_of_ble_eq_true rfl) ?_
  exact fd_rofL (c := 0) hH k_s0 k_e t9 hv g2 hnc g3 g4 k_la k_ly hXc hYc hY1 hn rfl (Nat.zero_le _)
theorem fd_soOL (hH : et_H et_TT K G) (k_th : K th = some 12) (h9 : et_pl (eg_at G th) 9 = some (.ref od)) (k_od : K od = some 32) (hn5 : n ≤ 5) (hrow : row < 3125) (hod : ∀ q, q < p → et_pl (eg_at G od) q = some (.int (Int32.ofNat (ocN n row q)))) (hX : xf (fun b j => b = od ∧ (0 ≤ j ∧ j ≤ 4)) G0 G) (hp : p ≤ n) : et_go none (d + 1) 168 8 [some (.ref th), some (.int (Int32.ofNat row)), some (.int (Int32.ofNat n)), some (.int (Int32.ofNat (row / n ^ p))), some (.int (Int32.ofNat (usN n row p))), some (.int (Int32.ofNat p))] [] G 0 0 (xw_Z (fun b j => b = od ∧ (0 ≤ j ∧ j ≤ 4)) K G0 (fun g r => r = some (.int (Int32.ofNat (if usN n row n = 2 ^ n - 1 then 1 else 0))) ∧ ∀ q, q < n → et_pl (eg_at g od) q = some (.int (Int32.ofNat (ocN n row q))))) := by
  induction hq9 : n - p using Nat.strongRecOn generalizing p G with
  | _ q9 ih =>
    have hle : row / n ^ p ≤ row := Nat.div_le_self _ _
    have hml : p < n → row / n ^ p % n < n := fun h9 => Nat.mod_lt _ (by omega)
    have hus : p < n → usN n row p < 32 := fun h9 => usN_lt hn5 (by omega) p
    have hus2 : 1 ≤ n → usN n row n < 32 := fun h9 => usN_lt hn5 h9 n
    have lt_th := (hH.2.2 _ _ k_th).1
    have lt_od := (hH.2.2 _ _ k_od).1
    refine hs_iload (i := 5) (p := 10) (by decide +kernel) rfl ?_
    refine hs_iload (i := 2) (p := 11) (by decide +kernel) rfl ?_
    refine hs_br2n (c := .ge) (t := 54) (f := 14) (by decide +kernel) (by omega) (by omega) (fun (c11 : n ≤ p) => ?_) (fun (c11 : ¬ (n ≤ p)) => ?_)
    · refine hs_iload (i := 4) (p := 56) (by decide +kernel) rfl ?_
      refine hs_k (x := Int32.ofNat 1) (p := 57) (by decide +kernel) ?_
      refine hs_iload (i := 2) (p := 58) (by decide +kernel) rfl ?_
      refine hs_st (ins := .ishl) (len := 1) (p := 59) (by decide +kernel) rfl rfl ?_
      refine hs_k (x := Int32.ofNat 1) (p := 60) (by decide +kernel) ?_
      refine hs_isub (p := 61) (by decide +kernel) ?_
      refine hs_br2 (c := .ne) (t := 68) (f := 64) (by decide +kernel) (fun (c61 : ¬ Int32.ofNat (usN n row p) = (((Int32.ofNat 1) <<< ((Int32.ofNat n) &&& 31)) - Int32.ofNat 1)) => ?_) (fun (c61 : ¬ (¬ Int32.ofNat (usN n row p) = (((Int32.ofNat 1) <<< ((Int32.ofNat n) &&& 31)) - Int32.ofNat 1))) => ?_)
      · refine hs_k (x := Int32.ofNat 0) (p := 69) (by decide +kernel) ?_
        refine hs_zret (by decide +kernel) (.inl rfl) ?_
        obtain rfl : p = n := by omega
        have h9 := sp_full p (List.mem_range.mpr (by omega))
        rw [h9.1] at c61
        have hlt : usN p row p < 32 := by
          by_cases h0 : p = 0
          · rw [h0]; exact (by decide : (0 : Nat) < 32)
          · exact hus2 (by omega)
        have h8 := h9.2.2
        have e7 : ¬ usN p row p = 2 ^ p - 1 := fun h => c61 (by rw [h])
        exact ⟨_, _, rfl, hH, hX, by rw [if_neg e7], hod⟩
      · refine hs_k (x := Int32.ofNat 1) (p := 65) (by decide +kernel) ?_
        refine hs_goto (p := 69) (by decide +kernel) ?_
        refine hs_zret (by decide +kernel) (.inr rfl) ?_
        obtain rfl : p = n := by omega
        have h9 := sp_full p (List.mem_range.mpr (by omega))
        rw [h9.1] at c61
        have hlt : usN p row p < 32 := by
          by_cases h0 : p = 0
          · rw [h0]; exact (by decide : (0 : Nat) < 32)
          · exact hus2 (by omega)
        have h8 := h9.2.2
        have e7 : usN p row p = 2 ^ p - 1 := (hs_neq (by omega) (by omega)).mp (Decidable.of_not_not c61)
        exact ⟨_, _, rfl, hH, hX, by rw [if_pos e7], hod⟩
    · refine hs_iload (i := 5) (p := 16) (by decide +kernel) rfl ?_
      refine hs_k (x := Int32.ofNat 5) (p := 17) (by decide +kernel) ?_
      refine hs_br2n (c := .ge) (t := 54) (f := 20) (by decide +kernel) (by omega) (by omega) (fun (c17 : 5 ≤ p) => ?_) (fun (c17 : ¬ (5 ≤ p)) => ?_)
      · refine hs_iload (i := 4) (p := 56) (by decide +kernel) rfl ?_
        refine hs_k (x := Int32.ofNat 1) (p := 57) (by decide +kernel) ?_
        refine hs_iload (i := 2) (p := 58) (by decide +kernel) rfl ?_
        refine hs_st (ins := .ishl) (len := 1) (p := 59) (by decide +kernel) rfl rfl ?_
        refine hs_k (x := Int32.ofNat 1) (p := 60) (by decide +kernel) ?_
        refine hs_isub (p := 61) (by decide +kernel) ?_
        refine hs_br2 (c := .ne) (t := 68) (f := 64) (by decide +kernel) (fun (c61 : ¬ Int32.ofNat (usN n row p) = (((Int32.ofNat 1) <<< ((Int32.ofNat n) &&& 31)) - Int32.ofNat 1)) => ?_) (fun (c61 : ¬ (¬ Int32.ofNat (usN n row p) = (((Int32.ofNat 1) <<< ((Int32.ofNat n) &&& 31)) - Int32.ofNat 1))) => ?_)
        · refine hs_k (x := Int32.ofNat 0) (p := 69) (by decide +kernel) ?_
          refine hs_zret (by decide +kernel) (.inl rfl) ?_
          obtain rfl : p = n := by omega
          have h9 := sp_full p (List.mem_range.mpr (by omega))
          rw [h9.1] at c61
          have hlt : usN p row p < 32 := by
            by_cases h0 : p = 0
            · rw [h0]; exact (by decide : (0 : Nat) < 32)
            · exact hus2 (by omega)
          have h8 := h9.2.2
          have e7 : ¬ usN p row p = 2 ^ p - 1 := fun h => c61 (by rw [h])
          exact ⟨_, _, rfl, hH, hX, by rw [if_neg e7], hod⟩
        · refine hs_k (x := Int32.ofNat 1) (p := 65) (by decide +kernel) ?_
          refine hs_goto (p := 69) (by decide +kernel) ?_
          refine hs_zret (by decide +kernel) (.inr rfl) ?_
          obtain rfl : p = n := by omega
          have h9 := sp_full p (List.mem_range.mpr (by omega))
          rw [h9.1] at c61
          have hlt : usN p row p < 32 := by
            by_cases h0 : p = 0
            · rw [h0]; exact (by decide : (0 : Nat) < 32)
            · exact hus2 (by omega)
          have h8 := h9.2.2
          have e7 : usN p row p = 2 ^ p - 1 := (hs_neq (by omega) (by omega)).mp (Decidable.of_not_not c61)
          exact ⟨_, _, rfl, hH, hX, by rw [if_pos e7], hod⟩
      · refine hs_aload (i := 0) (p := 21) (by decide +kernel) rfl ?_
        refine hf_get (T := et_TT) (t := 12) (ci := 10) (f := 9) (p := 24) (by decide +kernel) rfl hH k_th h9 ?_
        refine hs_iload (i := 5) (p := 26) (by decide +kernel) rfl ?_
        refine hs_iload (i := 3) (p := 27) (by decide +kernel) rfl ?_
        refine hs_iload (i := 2) (p := 28) (by decide +kernel) rfl ?_
        refine hs_irem (p := 29) (by decide +kernel) (hs_nz (by omega) (by omega)) ?_
        rw [so_r (by omega) (by omega) (by omega)]
        have hHo := hH
        refine hf_ist (T := et_TT) (t := 32) (N := 5) (p := 30) (by decide +kernel) rfl rfl (by decide) hH k_od (by omega) (by decide) (fun s hs => absurd hs List.not_mem_nil) (fun G29 hH x29 e29 => ?_)
        have hod2 : ∀ q, q < p → et_pl (eg_at G29 od) q = some (.int (Int32.ofNat (ocN n row q))) := fun q hq => (x29.2 od q lt_od (fun h => by have h := h.2; omega)).trans (hod q hq)
        have h9 := (x29.2 th 9 lt_th (fun h => (hi_ne k_th k_od (by decide)) h.1)).trans h9
        have lt_th := Nat.lt_of_lt_of_le lt_th x29.1
        have lt_od := Nat.lt_of_lt_of_le lt_od x29.1
        have hX := hX.tr x29 (fun b j hb h => by first | omega | (dsimp only at h ⊢; omega) | (dsimp only at h; omega) | (dsimp only; omega))
        refine hs_iload (i := 4) (p := 32) (by decide +kernel) rfl ?_
        refine hs_k (x := Int32.ofNat 1) (p := 33) (by decide +kernel) ?_
        refine hs_aload (i := 0) (p := 34) (by decide +kernel) rfl ?_
        refine hf_get (T := et_TT) (t := 12) (ci := 10) (f := 9) (p := 37) (by decide +kernel) rfl hH k_th h9 ?_
        refine hs_iload (i := 5) (p := 39) (by decide +kernel) rfl ?_
        refine hf_ald (ins := .iaload) (T := et_TT) (t := 32) (kd := 0) (N := 5) (p := 40) (by decide +kernel) (fun _ _ _ _ _ _ _ _ _ _ => rfl) rfl rfl rfl hH k_od (by decide) e29 ?_
        refine hs_st (ins := .ishl) (len := 1) (p := 41) (by decide +kernel) rfl rfl ?_
        refine hs_st (ins := .ior) (len := 1) (p := 42) (by decide +kernel) rfl rfl ?_
        refine hs_istore (i := 4) (p := 44) (by decide +kernel) (Nat.le_of_ble_eq_true rfl) ?_
        refine hs_iload (i := 3) (p := 45) (by decide +kernel) rfl ?_
        refine hs_iload (i := 2) (p := 46) (by decide +kernel) rfl ?_
        refine hs_idiv (p := 47) (by decide +kernel) (hs_nz (by omega) (by omega)) ?_
        rw [so_d (by omega) (by omega) (by omega)]
        refine hs_istore (i := 3) (p := 48) (by decide +kernel) (Nat.le_of_ble_eq_true rfl) ?_
        refine hs_iinc1 (i := 5) (p := 51) (by decide +kernel) rfl (Nat.le_of_ble_eq_true rfl) ?_
        refine hs_goto (p := 8) (by decide +kernel) ?_
        have hus9 := hus (by omega)
        have e9 : (Int32.ofNat (usN n row p) ||| (Int32.ofNat 1 <<< (Int32.ofNat (row / n ^ p % n) &&& 31))) = Int32.ofNat (usN n row (p + 1)) := so_or _ (List.mem_range.mpr hus9) _ (List.mem_range.mpr (Nat.lt_of_lt_of_le (hml (by omega)) hn5))
        have e8 : row / n ^ p / n = row / n ^ (p + 1) := by rw [Nat.div_div_eq_div_mul, Nat.pow_succ]
        have hod3 : ∀ q, q < p + 1 → et_pl (eg_at G29 od) q = some (.int (Int32.ofNat (ocN n row q))) := fun q hq => by
          by_cases eq : q = p
          · rw [eq]; exact e29
          · exact hod2 q (by omega)
        show et_go none _ 168 8 [some (.ref th), some (.int (Int32.ofNat row)), some (.int (Int32.ofNat n)), some (.int (Int32.ofNat (row / n ^ p / n))), some (.int (Int32.ofNat (usN n row p) ||| (Int32.ofNat 1 <<< (Int32.ofNat (row / n ^ p % n) &&& 31)))), some (.int (Int32.ofNat (p + 1)))] [] _ _ _ _
        rw [e9, e8]
        exact ih (n - (p + 1)) (by omega) hH h9 hod3 hX (by omega) rfl
theorem fd_soO (hH : et_H et_TT K G) (k_th : K th = some 12) (h9 : et_pl (eg_at G th) 9 = some (.ref od)) (k_od : K od = some 32) (hn5 : n ≤ 5) (hrow : row < 3125) (hd : 1 ≤ d2) : et_go none d2 168 0 (eg_en (eg_mL 168) [.ref th, .int (Int32.ofNat row), .int (Int32.ofNat n)]) [] G 0 0 (xw_Z (fun b j => b = od ∧ (0 ≤ j ∧ j ≤ 4)) K G (fun g r => r = some (.int (Int32.ofNat (if usN n row n = 2 ^ n - 1 then 1 else 0))) ∧ ∀ q, q < n → et_pl (eg_at g od) q = some (.int (Int32.ofNat (ocN n row q))))) := by
  obtain ⟨d, rfl⟩ : ∃ d, d2 = d + 1 := ⟨d2 - 1, by omega⟩
  have e0 : row / n ^ 0 = row := by rw [Nat.pow_zero, Nat.div_one]
  rw [show eg_mL 168 = 6 from by decide +kernel]
  show et_go none (d + 1) 168 0 [some (.ref th), some (.int (Int32.ofNat row)), some (.int (Int32.ofNat n)), none, none, none] [] G 0 0 _
  have lt_th := (hH.2.2 _ _ k_th).1
  have lt_od := (hH.2.2 _ _ k_od).1
  refine hs_iload (i := 1) (p := 1) (by decide +kernel) rfl ?_
  refine hs_istore (i := 3) (p := 2) (by decide +kernel) (Nat.le_of_ble_eq_true rfl) ?_
  refine hs_k (x := Int32.ofNat 0) (p := 3) (by decide +kernel) ?_
  refine hs_istore (i := 4) (p := 5) (by decide +kernel) (Nat.le_of_ble_eq_true rfl) ?_
  refine hs_k (x := Int32.ofNat 0) (p := 6) (by decide +kernel) ?_
  refine hs_istore (i := 5) (p := 8) (by decide +kernel) (Nat.le_of_ble_eq_true rfl) ?_
  have h := fd_soOL (G0 := G) (d := d) (p := 0) (row := row) hH k_th h9 k_od hn5 hrow (fun q hq => absurd hq (Nat.not_lt_zero q)) xf.rf (Nat.zero_le _)
  rw [e0] at h
  exact h
end YRA
end
