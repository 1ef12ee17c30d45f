section
/-! searches: what has been found stays found -/
theorem paS_co {k W n : Nat} {a a' : Nat → Int} : ∀ u, (∀ m, m < u → a m = a' m) → paS k W n a u = paS k W n a' u
  | 0, _ => rfl
  | u + 1, h => by
    show paS k W n a u + ((kvD (2 * k + 1) W n u : Nat) - (k : Int)) * a u = paS k W n a' u + ((kvD (2 * k + 1) W n u : Nat) - (k : Int)) * a' u
    rw [paS_co u (fun m hm => h m (by omega)), h u (by omega)]
theorem plL_co {Y Y' : Nat → Nat} {h : Nat} (hh : Y h = Y' h) : ∀ l, (∀ m, m < l → Y m = Y' m) → plL Y h l = plL Y' h l
  | 0, _ => rfl
  | l + 1, q => by
    show plL Y h l ++ (if Y h = 1 ∧ ¬ Y l = 1 then [(h, l)] else []) = plL Y' h l ++ (if Y' h = 1 ∧ ¬ Y' l = 1 then [(h, l)] else [])
    rw [plL_co hh l (fun m hm => q m (by omega)), hh, q l (by omega)]
theorem prL_co {Y Y' : Nat → Nat} {m : Nat} : ∀ n, n ≤ m → (∀ c, c < m → Y c = Y' c) → prL Y m n = prL Y' m n
  | 0, _, _ => rfl
  | h + 1, hn, q => by
    show prL Y m h ++ plL Y h m = prL Y' m h ++ plL Y' h m
    rw [prL_co h (by omega) q, plL_co (q h (by omega)) m q]
theorem pxL_co {X X' : Nat → Int32} {nc : Nat} (hX : ∀ c, c < nc → X c = X' c) : ∀ L : List (Nat × Nat), (∀ q, q ∈ L → q.1 < nc ∧ q.2 < nc) → pxL X L = pxL X' L
  | [], _ => rfl
  | q :: r, h => by
    show (X q.1, X q.2) :: pxL X r = (X' q.1, X' q.2) :: pxL X' r
    rw [hX q.1 (h q (List.mem_cons_self ..)).1, hX q.2 (h q (List.mem_cons_self ..)).2, pxL_co hX r (fun p hp => h p (List.mem_cons_of_mem _ hp))]
/-- FOUND of an EYE of W WIRES by the first nc CARDS -/
def foA (W : Nat) (C : Nat → Int32) (Kd : Nat → Nat) (X : Nat → Int32) (Y : Nat → Nat) (nc k : Nat) : Option (Nat × Nat) := foT false k W (fun c w => (coV C Kd (pxL X (prL Y nc nc)) c w).toInt) (pxL X (prL Y nc nc)).length ((2 * k + 1) ^ W)
theorem foA_co {W : Nat} {C C' : Nat → Int32} {Kd Kd' : Nat → Nat} {X X' : Nat → Int32} {Y Y' : Nat → Nat} {nc k : Nat} (h1 : ∀ w, w < W → C w = C' w ∧ Kd w = Kd' w) (h2 : ∀ c, c < nc → X c = X' c ∧ Y c = Y' c) : foA W C Kd X Y nc k = foA W C' Kd' X' Y' nc k := by
  have e1 : prL Y nc nc = prL Y' nc nc := prL_co nc (Nat.le_refl nc) (fun c hc => (h2 c hc).2)
  have e2 : pxL X (prL Y nc nc) = pxL X' (prL Y' nc nc) := by
    rw [← e1]
    exact pxL_co (fun c hc => (h2 c hc).1) _ (fun q hq => by
      have h := (prL_m nc).mp hq
      exact ⟨h.1, h.2.1⟩)
  unfold foA
  rw [e2]
  refine foF_co (fun i => b_iff ?_) (fun i => rfl) _
  rw [okP_i, okP_i]
  have e3 : ∀ c, paS k W i (fun w => (coV C Kd (pxL X' (prL Y' nc nc)) c w).toInt) W = paS k W i (fun w => (coV C' Kd' (pxL X' (prL Y' nc nc)) c w).toInt) W := fun c => paS_co W (fun m hm => by
    unfold coV
    rw [(h1 m hm).1, (h1 m hm).2])
  constructor
  · intro q c hc
    rw [← e3 c]
    exact q c hc
  · intro q c hc
    have h9 := q c hc
    rw [← e3 c] at h9
    exact h9
/-- none; or what stands in the Search object is FOUND of EYE n by k -/
def fyK (K : et_K) (se be ya la ly e ca ki : Nat) : Prop := (K se = some 9 ∧ K be = some 51) ∧ (K ya = some 40 ∧ K la = some 17 ∧ K ly = some 27) ∧ K e = some 3 ∧ K ca = some 15 ∧ K ki = some 15
/-- the EYE's WIRES -/
def fyE (G : eg_G) (s0 ya n e ca ki W : Nat) (C : Nat → Int32) (Kd : Nat → Nat) : Prop := (et_pl (eg_at G s0) 6 = some (.ref ya) ∧ et_pl (eg_at G ya) n = some (.ref e)) ∧ (et_pl (eg_at G e) 0 = some (.int (Int32.ofNat W)) ∧ et_pl (eg_at G e) 1 = some (.ref ca) ∧ et_pl (eg_at G e) 2 = some (.ref ki)) ∧ (∀ u, u < W → et_pl (eg_at G ca) u = some (.int (C u)) ∧ et_pl (eg_at G ki) u = some (.int (Int32.ofNat (Kd u)))) ∧ W ≤ 6 ∧ ∀ u, u < W → Kd u ≤ 2
def fyR (K : et_K) (G : eg_G) (th s0 nc : Nat) : Prop := et_pl (eg_at G th) 6 = some (.int (-1)) ∨ ∃ (se be ya la ly e ca ki W n k : Nat) (C : Nat → Int32) (Kd : Nat → Nat) (X : Nat → Int32) (Y : Nat → Nat), fyK K se be ya la ly e ca ki ∧ (et_pl (eg_at G th) 5 = some (.ref se) ∧ et_pl (eg_at G se) 14 = some (.ref be)) ∧ fyE G s0 ya n e ca ki W C Kd ∧ ccP G s0 la ly nc X Y ∧ ((n < 3 ∧ 1 ≤ k ∧ k ≤ 3) ∧ et_pl (eg_at G th) 6 = some (.int (Int32.ofNat n)) ∧ et_pl (eg_at G th) 7 = some (.int (Int32.ofNat k))) ∧ lsQ G se be W k (foA W C Kd X Y nc k)
/-- what leaves it alone but for the EYES' WIRES -/
def fz_k (M : et_M) : Bool := ((!et_mm M 9 13 && (!et_mm M 9 14 && !et_mm M 9 15)) && no_t M 51) && ((!et_mm M 10 3 && (!et_mm M 10 4 && !et_mm M 10 6)) && (no_t M 17 && (no_t M 27 && no_t M 40)))
def fi_k (M : et_M) : Bool := ((!et_mm M 9 13 && (!et_mm M 9 14 && !et_mm M 9 15)) && no_t M 51) && ((!et_mm M 10 3 && (!et_mm M 10 4 && !et_mm M 10 6)) && no_t M 40)
def fh_k (M : et_M) : Bool := !et_mm M 12 5 && (!et_mm M 12 6 && !et_mm M 12 7)
def fe_k (M : et_M) : Bool := (!et_mm M 3 0 && (!et_mm M 3 1 && !et_mm M 3 2)) && no_t M 15
def fy_k (M : et_M) : Bool := fz_k M && (fh_k M && fe_k M)
/-- by types: what may be touched -/
def fyS (nc t j : Nat) : Prop := (¬ t = 3 ∧ ¬ t = 9 ∧ ¬ t = 15 ∧ ¬ t = 40 ∧ ¬ t = 51) ∧ (t = 10 → j = 2) ∧ (t = 12 → j = 6 ∨ j = 7) ∧ (t = 17 → nc ≤ j) ∧ (t = 27 → nc ≤ j)
section ZVA
variable {K K' : et_K} {G G' : eg_G} {M : et_M} {S : Nat → Nat → Prop} {th s0 s1 nc n k se be ya yb la ly e ca ki kn W : Nat} {C : Nat → Int32} {Kd : Nat → Nat} {X X' : Nat → Int32} {Y Y' : Nat → Nat} {O : Nat → Nat} {A : Nat → Nat → Nat} {V V' : Nat → evT} {v : evT} {o : Option (Nat × Nat)}
theorem fyK.ex (h : fyK K se be ya la ly e ca ki) (hx : et_ex K K') : fyK K' se be ya la ly e ca ki := ⟨⟨hx _ _ h.1.1, hx _ _ h.1.2⟩, ⟨hx _ _ h.2.1.1, hx _ _ h.2.1.2.1, hx _ _ h.2.1.2.2⟩, hx _ _ h.2.2.1, hx _ _ h.2.2.2.1, hx _ _ h.2.2.2.2⟩
/-- the pieces alone -/
theorem fyR.mv (h : fyR K G th s0 nc) (hx : et_ex K K') (h6 : ∀ j, j = 5 ∨ j = 6 ∨ j = 7 → et_pl (eg_at G' th) j = et_pl (eg_at G th) j) (h9 : ∀ b, K b = some 9 → ∀ j, j = 13 ∨ j = 14 ∨ j = 15 → et_pl (eg_at G' b) j = et_pl (eg_at G b) j) (h51 : ∀ b j, K b = some 51 → et_pl (eg_at G' b) j = et_pl (eg_at G b) j) (h10 : ∀ j, j = 3 ∨ j = 4 ∨ j = 6 → et_pl (eg_at G' s0) j = et_pl (eg_at G s0) j) (h17 : ∀ la ly, K la = some 17 → K ly = some 27 → et_pl (eg_at G s0) 3 = some (.ref la) → et_pl (eg_at G s0) 4 = some (.ref ly) → ∀ j, j < nc → et_pl (eg_at G' la) j = et_pl (eg_at G la) j ∧ et_pl (eg_at G' ly) j = et_pl (eg_at G ly) j) (h40 : ∀ b j, K b = some 40 → et_pl (eg_at G' b) j = et_pl (eg_at G b) j) (hE : ∀ ya n e ca ki W C Kd, n < 3 → K ya = some 40 → K e = some 3 → K ca = some 15 → K ki = some 15 → fyE G s0 ya n e ca ki W C Kd → (et_pl (eg_at G' e) 0 = et_pl (eg_at G e) 0 ∧ et_pl (eg_at G' e) 1 = et_pl (eg_at G e) 1 ∧ et_pl (eg_at G' e) 2 = et_pl (eg_at G e) 2) ∧ ∀ u, u < W → et_pl (eg_at G' ca) u = et_pl (eg_at G ca) u ∧ et_pl (eg_at G' ki) u = et_pl (eg_at G ki) u) : fyR K' G' th s0 nc := by
  rcases h with h | ⟨se, be, ya, la, ly, e, ca, ki, W, n, k, C, Kd, X, Y, hK, ⟨a1, a2⟩, hF, hc, ⟨b1, b2, b3⟩, hq⟩
  · exact .inl ((h6 6 (.inr (.inl rfl))).trans h)
  · have hE := hE ya n e ca ki W C Kd b1.1 hK.2.1.1 hK.2.2.1 hK.2.2.2.1 hK.2.2.2.2 hF
    obtain ⟨⟨c1, c2⟩, ⟨d1, d2, d3⟩, d4, d5⟩ := hF
    refine .inr ⟨se, be, ya, la, ly, e, ca, ki, W, n, k, C, Kd, X, Y, hK.ex hx, ⟨(h6 5 (.inl rfl)).trans a1, (h9 se hK.1.1 14 (.inr (.inl rfl))).trans a2⟩, ⟨⟨(h10 6 (.inr (.inr rfl))).trans c1, (h40 ya n hK.2.1.1).trans c2⟩, ⟨hE.1.1.trans d1, hE.1.2.1.trans d2, hE.1.2.2.trans d3⟩, fun u hu => ⟨(hE.2 u hu).1.trans (d4 u hu).1, (hE.2 u hu).2.trans (d4 u hu).2⟩, d5⟩, ⟨⟨(h10 3 (.inl rfl)).trans hc.1.1, (h10 4 (.inr (.inl rfl))).trans hc.1.2⟩, fun c hcc => ⟨(h17 la ly hK.2.1.2.1 hK.2.1.2.2 hc.1.1 hc.1.2 c hcc).1.trans (hc.2 c hcc).1, (h17 la ly hK.2.1.2.1 hK.2.1.2.2 hc.1.1 hc.1.2 c hcc).2.trans (hc.2 c hcc).2.1, (hc.2 c hcc).2.2⟩⟩, ⟨b1, (h6 6 (.inr (.inl rfl))).trans b2, (h6 7 (.inr (.inr rfl))).trans b3⟩, lsQ.fr (fun j hj => h9 se hK.1.1 j (by omega)) (fun u _ => h51 be u hK.1.2) hq⟩
theorem fyR.fr (h : fyR K G th s0 nc) (k_th : K th = some 12) (k_s0 : K s0 = some 10) (hx : et_ex K K') (hf : et_fr M K G G') (hk : fy_k M = true) : fyR K' G' th s0 nc := by
  unfold fy_k fz_k fh_k fe_k at hk
  simp only [Bool.and_eq_true, Bool.not_eq_true'] at hk
  obtain ⟨⟨⟨⟨m1, m2, m3⟩, m4⟩, ⟨m5, m6, m7⟩, m8, m9, m10⟩, ⟨m11, m12, m13⟩, ⟨m14, m15, m16⟩, m17⟩ := hk
  refine h.mv hx (fun j hj => ?_) (fun b hb j hj => ?_) (fun b j hb => hf.2 b 51 hb j (no_mm m4)) (fun j hj => ?_) (fun la ly h1 h2 _ _ j _ => ⟨hf.2 la 17 h1 j (no_mm m8), hf.2 ly 27 h2 j (no_mm m9)⟩) (fun b j hb => hf.2 b 40 hb j (no_mm m10)) (fun ya n e ca ki W C Kd _ _ k1 k2 k3 _ => ⟨⟨hf.2 e 3 k1 0 m14, hf.2 e 3 k1 1 m15, hf.2 e 3 k1 2 m16⟩, fun u _ => ⟨hf.2 ca 15 k2 u (no_mm m17), hf.2 ki 15 k3 u (no_mm m17)⟩⟩)
  · rcases hj with rfl | rfl | rfl
    · exact hf.2 th 12 k_th 5 m11
    · exact hf.2 th 12 k_th 6 m12
    · exact hf.2 th 12 k_th 7 m13
  · rcases hj with rfl | rfl | rfl
    · exact hf.2 b 9 hb 13 m1
    · exact hf.2 b 9 hb 14 m2
    · exact hf.2 b 9 hb 15 m3
  · rcases hj with rfl | rfl | rfl
    · exact hf.2 s0 10 k_s0 3 m5
    · exact hf.2 s0 10 k_s0 4 m6
    · exact hf.2 s0 10 k_s0 6 m7
theorem fyR.xs (h : fyR K G th s0 nc) (k_th : K th = some 12) (k_s0 : K s0 = some 10) (hH : et_H et_TT K G) (hx : et_ex K K') (x : xf S G G') (hS : ∀ b j t, K b = some t → S b j → fyS nc t j) (h67 : ∀ j, j = 6 ∨ j = 7 → et_pl (eg_at G' th) j = et_pl (eg_at G th) j) : fyR K' G' th s0 nc := by
  have g : ∀ b t j, K b = some t → ¬ fyS nc t j → et_pl (eg_at G' b) j = et_pl (eg_at G b) j := fun b t j hb hn => x.2 b j (hH.2.2 _ _ hb).1 (fun q => hn (hS _ _ _ hb q))
  refine h.mv hx (fun j hj => ?_) (fun b hb j _ => g b 9 j hb (fun q => q.1.2.1 rfl)) (fun b j hb => g b 51 j hb (fun q => q.1.2.2.2.2 rfl)) (fun j hj => g s0 10 j k_s0 (fun q => by have := q.2.1 rfl; omega)) (fun la ly h1 h2 _ _ j hj => ⟨g la 17 j h1 (fun q => by have := q.2.2.2.1 rfl; omega), g ly 27 j h2 (fun q => by have := q.2.2.2.2 rfl; omega)⟩) (fun b j hb => g b 40 j hb (fun q => q.1.2.2.2.1 rfl)) (fun ya n e ca ki W C Kd _ _ k1 k2 k3 _ => ⟨⟨g e 3 0 k1 (fun q => q.1.1 rfl), g e 3 1 k1 (fun q => q.1.1 rfl), g e 3 2 k1 (fun q => q.1.1 rfl)⟩, fun u _ => ⟨g ca 15 u k2 (fun q => q.1.2.2.1 rfl), g ki 15 u k3 (fun q => q.1.2.2.1 rfl)⟩⟩)
  · rcases hj with rfl | hj
    · exact g th 12 5 k_th (fun q => by have := q.2.2.1 rfl; omega)
    · exact h67 j hj
theorem fyR.ex (h : fyR K G th s0 nc) (hx : et_ex K K') : fyR K' G th s0 nc := h.mv hx (fun _ _ => rfl) (fun _ _ _ _ => rfl) (fun _ _ _ => rfl) (fun _ _ => rfl) (fun _ _ _ _ _ _ _ _ => ⟨rfl, rfl⟩) (fun _ _ _ => rfl) (fun _ _ _ _ _ _ _ _ _ _ _ _ _ _ => ⟨⟨rfl, rfl, rfl⟩, fun _ _ => ⟨rfl, rfl⟩⟩)
/-- two EYES of the same WIRES -/
def coreE (v w : evT) : Prop := v.1 = w.1 ∧ ∀ u, u < v.1 → v.2.1 u = w.2.1 u ∧ v.2.2.1 u = w.2.2.1 u
theorem coreE.rf : coreE v v := ⟨rfl, fun _ _ => ⟨rfl, rfl⟩⟩
theorem coreE.up (h : coreE (V n) v) : ∀ m, coreE (V m) (vup V n v m) := fun m => by
  unfold vup
  by_cases e : m = n
  · rw [if_pos e, e]
    exact h
  · rw [if_neg e]
    exact coreE.rf
/-- the EYES stand as before, in their WIRES -/
theorem fyE.uz {A' : Nat → Nat → Nat} (hF : fyE G s0 ya n e ca ki W C Kd) (hn : n < 3) (hz : ez G th s0 s1 yb k O A V) (ho : ∀ n, n < 6 → evo (V n)) : ya = yb ∧ e = O n ∧ ca = A n 0 ∧ ki = A n 1 ∧ W = (V n).1 ∧ ∀ u, u < W → C u = (V n).2.1 u ∧ Kd u = (V n).2.2.1 u := by
  obtain ⟨⟨c1, c2⟩, ⟨d1, d2, d3⟩, d4, d5, d6⟩ := hF
  obtain ⟨⟨z1, -, -⟩, z2, z3, -⟩ := hz
  obtain rfl : ya = yb := Value.ref.inj (Option.some.inj (c1.symm.trans z1))
  obtain rfl : e = O n := Value.ref.inj (Option.some.inj (c2.symm.trans (z2 n hn).1))
  have hv := z3 n (by omega)
  have hw := ho n (by omega)
  have e1 : W = (V n).1 := xi_inj (by omega) (by have := hw.1.1; omega) (d1.symm.trans hv.1.1)
  obtain rfl : ca = A n 0 := Value.ref.inj (Option.some.inj (d2.symm.trans hv.1.2.1))
  obtain rfl : ki = A n 1 := Value.ref.inj (Option.some.inj (d3.symm.trans hv.1.2.2.1))
  refine ⟨rfl, rfl, rfl, rfl, e1, fun u hu => ⟨Value.int.inj (Option.some.inj ((d4 u hu).1.symm.trans (hv.2.2.1 u (by omega)).1)), ?_⟩⟩
  have h1 := d6 u hu
  have h2 := hw.1.2 u (by omega)
  exact xi_inj (by omega) (by omega) ((d4 u hu).2.symm.trans (hv.2.2.1 u (by omega)).2)
theorem fyR.um (h : fyR K G th s0 nc) (hx : et_ex K K') (k_s0 : K s0 = some 10) (hz : ez G th s0 s1 ya yb O A V) (ho : ∀ n, n < 6 → evo (V n)) (hz' : ez G' th s0 s1 ya yb O A V') (hV : ∀ n, n < 3 → coreE (V n) (V' n)) (hf : et_fr M K G G') (hk : fi_k M = true) (h6 : ∀ j, j = 5 ∨ j = 6 ∨ j = 7 → et_pl (eg_at G' th) j = et_pl (eg_at G th) j) (h17 : ∀ la ly, K la = some 17 → K ly = some 27 → et_pl (eg_at G s0) 3 = some (.ref la) → et_pl (eg_at G s0) 4 = some (.ref ly) → ∀ j, j < nc → et_pl (eg_at G' la) j = et_pl (eg_at G la) j ∧ et_pl (eg_at G' ly) j = et_pl (eg_at G ly) j) : fyR K' G' th s0 nc := by
  unfold fi_k at hk
  simp only [Bool.and_eq_true, Bool.not_eq_true'] at hk
  obtain ⟨⟨⟨m1, m2, m3⟩, m4⟩, ⟨m5, m6, m7⟩, m10⟩ := hk
  refine h.mv hx h6 (fun b hb j hj => ?_) (fun b j hb => hf.2 b 51 hb j (no_mm m4)) (fun j hj => ?_) h17 (fun b j hb => hf.2 b 40 hb j (no_mm m10)) (fun ya2 n e ca ki W C Kd hn _ _ _ _ hF => ?_)
  · rcases hj with rfl | rfl | rfl
    · exact hf.2 b 9 hb 13 m1
    · exact hf.2 b 9 hb 14 m2
    · exact hf.2 b 9 hb 15 m3
  · rcases hj with rfl | rfl | rfl
    · exact hf.2 s0 10 k_s0 3 m5
    · exact hf.2 s0 10 k_s0 4 m6
    · exact hf.2 s0 10 k_s0 6 m7
  · obtain ⟨-, rfl, rfl, rfl, rfl, -⟩ := hF.uz (A' := A) hn hz ho
    have a := hz.2.2.1 n (by omega)
    have b := hz'.2.2.1 n (by omega)
    obtain ⟨e1, e2⟩ := hV n hn
    refine ⟨⟨b.1.1.trans (by rw [← e1]; exact a.1.1.symm), b.1.2.1.trans a.1.2.1.symm, b.1.2.2.1.trans a.1.2.2.1.symm⟩, fun u hu => ⟨(b.2.2.1 u (by omega)).1.trans (by rw [← (e2 u hu).1]; exact (a.2.2.1 u hu).1.symm), (b.2.2.1 u (by omega)).2.trans (by rw [← (e2 u hu).2]; exact (a.2.2.1 u hu).2.symm)⟩⟩
theorem fyR.uz (h : fyR K G th s0 nc) (hx : et_ex K K') (k_s0 : K s0 = some 10) (hz : ez G th s0 s1 ya yb O A V) (ho : ∀ n, n < 6 → evo (V n)) (hz' : ez G' th s0 s1 ya yb O A V') (hV : ∀ n, n < 3 → coreE (V n) (V' n)) (hf : et_fr M K G G') (hk : fz_k M = true) (h6 : ∀ j, j = 5 ∨ j = 6 ∨ j = 7 → et_pl (eg_at G' th) j = et_pl (eg_at G th) j) : fyR K' G' th s0 nc := by
  unfold fz_k at hk
  simp only [Bool.and_eq_true, Bool.not_eq_true'] at hk
  obtain ⟨⟨⟨m1, m2, m3⟩, m4⟩, ⟨m5, m6, m7⟩, m8, m9, m10⟩ := hk
  exact h.um hx k_s0 hz ho hz' hV hf (by unfold fi_k; simp only [Bool.and_eq_true, Bool.not_eq_true']; exact ⟨⟨⟨m1, m2, m3⟩, m4⟩, ⟨m5, m6, m7⟩, m10⟩) h6 (fun la ly h1 h2 _ _ j _ => ⟨hf.2 la 17 h1 j (no_mm m8), hf.2 ly 27 h2 j (no_mm m9)⟩)
/-- the image is kept -/
theorem fyR.im (h : fyR K G th s0 nc) (hx : et_ex K K') (k_s0 : K s0 = some 10) (hz : ez G th s0 s1 ya yb O A V) (ho : ∀ n, n < 6 → evo (V n)) (hz' : ez G' th s0 s1 ya yb O A (fun k => if k < 3 then V k else V (k - 3))) (hf : et_fr M K G G') (hk : fi_k M = true) (h6 : ∀ j, j = 5 ∨ j = 6 ∨ j = 7 → et_pl (eg_at G' th) j = et_pl (eg_at G th) j) (hc : ccP G s0 la ly nc X Y) (hnc : nc ≤ 20) (hC : ∀ j, j < 20 → et_pl (eg_at G' la) j = et_pl (eg_at G la) j ∧ et_pl (eg_at G' ly) j = et_pl (eg_at G ly) j) : fyR K' G' th s0 nc := h.um hx k_s0 hz ho hz' (fun n hn => by
    show coreE (V n) (if n < 3 then V n else V (n - 3))
    rw [if_pos hn]
    exact coreE.rf) hf hk h6 (fun la2 ly2 _ _ h3 h4 j hj => by
    obtain rfl : la = la2 := Value.ref.inj (Option.some.inj (hc.1.1.symm.trans h3))
    obtain rfl : ly = ly2 := Value.ref.inj (Option.some.inj (hc.1.2.symm.trans h4))
    exact hC j (by omega))
/-- it is there: the Search object says it -/
theorem fyR.hit (h : fyR K G th s0 nc) (hn : n < 3) (hk : k ≤ 3) (q6 : et_pl (eg_at G th) 6 = some (.int (Int32.ofNat n))) (q7 : et_pl (eg_at G th) 7 = some (.int (Int32.ofNat k))) (q5 : et_pl (eg_at G th) 5 = some (.ref se)) (q14 : et_pl (eg_at G se) 14 = some (.ref be)) (hz : ez G th s0 s1 ya yb O A V) (ho : ∀ n, n < 6 → evo (V n)) (hcc : ccP G s0 la ly nc X Y) : lsQ G se be (V n).1 k (foA (V n).1 (V n).2.1 (V n).2.2.1 X Y nc k) := by
  rcases h with h | ⟨se2, be2, ya2, la2, ly2, e2, ca2, ki2, W2, n2, k2, C2, Kd2, X2, Y2, hK, ⟨a1, a2⟩, hF, hc, ⟨b1, b2, b3⟩, hq⟩
  · have h9 : Int32.ofNat n = -1 := Value.int.inj (Option.some.inj (q6.symm.trans h))
    have h8 := congrArg Int32.toInt h9
    rw [hs_nint (by omega)] at h8
    have h7 : (-1 : Int32).toInt = -1 := rfl
    omega
  · obtain rfl : n = n2 := xi_inj (by omega) (by omega) (q6.symm.trans b2)
    obtain rfl : k = k2 := xi_inj (by omega) (by omega) (q7.symm.trans b3)
    obtain rfl : se = se2 := Value.ref.inj (Option.some.inj (q5.symm.trans a1))
    obtain rfl : be = be2 := Value.ref.inj (Option.some.inj (q14.symm.trans a2))
    obtain ⟨-, -, -, -, rfl, hCK⟩ := hF.uz (A' := A) hn hz ho
    obtain rfl : la = la2 := Value.ref.inj (Option.some.inj (hcc.1.1.symm.trans hc.1.1))
    obtain rfl : ly = ly2 := Value.ref.inj (Option.some.inj (hcc.1.2.symm.trans hc.1.2))
    rw [← foA_co (C := C2) (Kd := Kd2) (X := X2) (Y := Y2) (C' := (V n).2.1) (Kd' := (V n).2.2.1) (X' := X) (Y' := Y) hCK (fun c hcn => ⟨Value.int.inj (Option.some.inj ((hc.2 c hcn).1.symm.trans (hcc.2 c hcn).1)), xi_inj (by have := (hc.2 c hcn).2.2; omega) (by have := (hcc.2 c hcn).2.2; omega) ((hc.2 c hcn).2.1.symm.trans (hcc.2 c hcn).2.1)⟩)]
    exact hq
end ZVA
end
section
/-! searches: the class finds once, and remembers -/
theorem lsQ.s13 {G : eg_G} {se be W k : Nat} : ∀ {o : Option (Nat × Nat)}, lsQ G se be W k o → et_pl (eg_at G se) 13 = some (.int (Int32.ofNat (if o.isSome = true then 1 else 0)))
  | none, h => h.1
  | some _, h => h.1
/-- it stands there, for EYE n by k -/
def fyN (G : eg_G) (th se be n W k : Nat) (o : Option (Nat × Nat)) : Prop := lsQ G se be W k o ∧ et_pl (eg_at G th) 6 = some (.int (Int32.ofNat n)) ∧ et_pl (eg_at G th) 7 = some (.int (Int32.ofNat k))
def fyQ (K : et_K) (G : eg_G) (th n W k : Nat) (o : Option (Nat × Nat)) : Prop := ∃ se be, (K se = some 9 ∧ K be = some 51) ∧ (et_pl (eg_at G th) 5 = some (.ref se) ∧ et_pl (eg_at G se) 14 = some (.ref be)) ∧ fyN G th se be n W k o
section ZWA
variable {K K' : et_K} {G G' : eg_G} {S : Nat → Nat → Prop} {th se be n W k s0 s1 ya yb la ly nc : Nat} {o : Option (Nat × Nat)} {O : Nat → Nat} {A : Nat → Nat → Nat} {V : Nat → evT} {X : Nat → Int32} {Y : Nat → Nat}
theorem fyN.xs (h : fyN G th se be n W k o) (k_th : K th = some 12) (k_se : K se = some 9) (k_be : K be = some 51) (hH : et_H et_TT K G) (x : xf S G G') (hs : ∀ b j, S b j → ¬ K b = some 9 ∧ ¬ K b = some 51 ∧ ¬ K b = some 12) : fyN G' th se be n W k o := ⟨lsQ.fr (fun j _ => x.2 se j (hH.2.2 _ _ k_se).1 (fun q => (hs _ _ q).1 k_se)) (fun u _ => x.2 be u (hH.2.2 _ _ k_be).1 (fun q => (hs _ _ q).2.1 k_be)) h.1, (x.2 th 6 (hH.2.2 _ _ k_th).1 (fun q => (hs _ _ q).2.2 k_th)).trans h.2.1, (x.2 th 7 (hH.2.2 _ _ k_th).1 (fun q => (hs _ _ q).2.2 k_th)).trans h.2.2⟩
theorem fyQ.xs (h : fyQ K G th n W k o) (k_th : K th = some 12) (hH : et_H et_TT K G) (x : xf S G G') (hs : ∀ b j, S b j → ¬ K b = some 9 ∧ ¬ K b = some 51 ∧ ¬ K b = some 12) : fyQ K G' th n W k o := by
  obtain ⟨se, be, ⟨k1, k2⟩, ⟨q1, q2⟩, h1⟩ := h
  exact ⟨se, be, ⟨k1, k2⟩, ⟨(x.2 th 5 (hH.2.2 _ _ k_th).1 (fun q => (hs _ _ q).2.2 k_th)).trans q1, (x.2 se 14 (hH.2.2 _ _ k1).1 (fun q => (hs _ _ q).1 k1)).trans q2⟩, h1.xs k_th k1 k2 hH x hs⟩
theorem fyQ.ex (h : fyQ K G th n W k o) (hx : et_ex K K') : fyQ K' G th n W k o := by
  obtain ⟨se, be, ⟨k1, k2⟩, h1⟩ := h
  exact ⟨se, be, ⟨hx _ _ k1, hx _ _ k2⟩, h1⟩
theorem fyQ.new (h : fyQ K G th n (V n).1 k (foA (V n).1 (V n).2.1 (V n).2.2.1 X Y nc k)) (t : ezK K ya yb O A) (hz : ez G th s0 s1 ya yb O A V) (ho : ∀ n, n < 6 → evo (V n)) (hcc : ccP G s0 la ly nc X Y) (k_la : K la = some 17) (k_ly : K ly = some 27) (hn : n < 3) (hk1 : 1 ≤ k) (hk : k ≤ 3) : fyR K G th s0 nc := by
  obtain ⟨se, be, ⟨k1, k2⟩, ⟨q5, q14⟩, hq, q6, q7⟩ := h
  have hv := hz.2.2.1 n (by omega)
  have ho := ho n (by omega)
  have hE := t.2.1 n (by omega)
  exact .inr ⟨se, be, ya, la, ly, O n, A n 0, A n 1, (V n).1, n, k, (V n).2.1, (V n).2.2.1, X, Y, ⟨⟨k1, k2⟩, ⟨t.1.1, k_la, k_ly⟩, hE.1, hE.2 0 (by decide), hE.2 1 (by decide)⟩, ⟨q5, q14⟩, ⟨⟨hz.1.1, (hz.2.1 n hn).1⟩, ⟨hv.1.1, hv.1.2.1, hv.1.2.2.1⟩, hv.2.2.1, ho.1⟩, hcc, ⟨⟨hn, hk1, hk⟩, q6, q7⟩, hq⟩
/-- what stands in the fields, whatever it is -/
theorem fyR.hitx {x6 x7 : Int32} (h : fyR K G th s0 nc) (hn : n < 3) (hk : k ≤ 3) (q6 : et_pl (eg_at G th) 6 = some (.int x6)) (q7 : et_pl (eg_at G th) 7 = some (.int x7)) (q5 : et_pl (eg_at G th) 5 = some (.ref se)) (q14 : et_pl (eg_at G se) 14 = some (.ref be)) (hz : ez G th s0 s1 ya yb O A V) (ho : ∀ n, n < 6 → evo (V n)) (hcc : ccP G s0 la ly nc X Y) : x6 = Int32.ofNat n → x7 = Int32.ofNat k → lsQ G se be (V n).1 k (foA (V n).1 (V n).2.1 (V n).2.2.1 X Y nc k) := by
  rintro rfl rfl
  exact h.hit hn hk q6 q7 q5 q14 hz ho hcc
end ZWA
section ZWB
variable {K : et_K} {G : eg_G} {d d2 th s0 ya ec se tA tR tS td be sy e ca ki kn la ly nc n k out m c : Nat} {v : evT} {X : Nat → Int32} {Y : Nat → Nat} {x y z x6 x7 : Int32} {V : Nat → evT} {s1 yb : Nat} {O : Nat → Nat} {A : Nat → Nat → Nat} {x3 : Option Value}
theorem fd_fdL (hH : et_H et_TT K G) (k_th : K th = some 12) (h0 : et_pl (eg_at G th) 0 = some (.ref s0)) (k_s0 : K s0 = some 10) (h5 : et_pl (eg_at G s0) 5 = some (.int (Int32.ofNat ec))) (hec : ec ≤ 3) (h6 : et_pl (eg_at G s0) 6 = some (.ref ya)) (k_ya : K ya = some 40) (hn : n < ec) (hE : et_pl (eg_at G ya) n = some (.ref e)) (t9 : evK K e ca ki kn v.1 v.2.2.1) (hv : evc G e ca ki kn v) (g2 : et_pl (eg_at G s0) 2 = some (.int (Int32.ofNat nc))) (hnc : nc ≤ 20) (hcc : ccP G s0 la ly nc X Y) (k_la : K la = some 17) (k_ly : K ly = some 27) (t : seT K se tA tR tS td be sy) (hsR : seR G se tA tR tS td be sy) (q5e : et_pl (eg_at G th) 5 = some (.ref se)) (q6 : et_pl (eg_at G th) 6 = some (.int x6)) (q7 : et_pl (eg_at G th) 7 = some (.int x7)) (hhit : x6 = Int32.ofNat n → x7 = Int32.ofNat k → lsQ G se be v.1 k (foA v.1 v.2.1 v.2.2.1 X Y nc k)) (hk : k ≤ 3) (hd : 14 ≤ d2) : et_go none d2 151 0 (eg_en (eg_mL 151) [.ref th, .int (Int32.ofNat n), .int (Int32.ofNat k)]) [] G 0 0 (xw_Z (fun b j => ((b = se ∧ ((4 ≤ j ∧ j ≤ 9) ∨ (13 ≤ j ∧ j ≤ 16 ∧ ¬ j = 14))) ∨ K b = some 45 ∨ b = td ∨ b = be ∨ b = sy) ∨ (b = th ∧ 6 ≤ j ∧ j ≤ 7)) K G (fun g v9 => v9 = none ∧ fyN g th se be n v.1 k (foA v.1 v.2.1 v.2.2.1 X Y nc k))) := by
  obtain ⟨d, rfl⟩ : ∃ d, d2 = d + 14 := ⟨d2 - 14, by omega⟩
  rw [show eg_mL 151 = 3 from by decide +kernel]
  show et_go none (d + 14) 151 0 [some (.ref th), some (.int (Int32.ofNat n)), some (.int (Int32.ofNat k))] [] G 0 0 _
  have k_se := t.1.1
  have k_tA := t.1.2.1
  have k_tR := t.1.2.2.1
  have k_tS := t.1.2.2.2.1
  have k_td := t.1.2.2.2.2.1
  have k_be := t.1.2.2.2.2.2.1
  have k_sy := t.1.2.2.2.2.2.2
  have k_e := t9.1.1
  have lt_th := (hH.2.2 _ _ k_th).1
  have lt_s0 := (hH.2.2 _ _ k_s0).1
  have lt_ya := (hH.2.2 _ _ k_ya).1
  refine hs_aload (i := 0) (p := 1) (by decide +kernel) rfl ?_
  refine hf_get (T := et_TT) (t := 12) (ci := 10) (f := 6) (p := 4) (by decide +kernel) rfl hH k_th q6 ?_
  refine hs_iload (i := 1) (p := 5) (by decide +kernel) rfl ?_
  refine hs_br2 (c := .ne) (t := 16) (f := 8) (by decide +kernel) (fun (c5 : ¬ x6 = Int32.ofNat n) => ?_) (fun (c5 : ¬ (¬ x6 = Int32.ofNat n)) => ?_)
  · refine hs_aload (i := 0) (p := 17) (by decide +kernel) rfl ?_
    refine hf_get (T := et_TT) (t := 12) (ci := 10) (f := 5) (p := 20) (by decide +kernel) rfl hH k_th q5e ?_
    refine hs_aload (i := 0) (p := 21) (by decide +kernel) rfl ?_
    refine hs_iload (i := 1) (p := 22) (by decide +kernel) rfl ?_
    refine ht_callv (T := et_TT) (t := 12) (mi := 128) (na := 1) (ci := 10) (lk := 3) (lm := 2) (L0 := eg_en (eg_mL 128) [.ref th, .int (Int32.ofNat n)]) (by decide +kernel) rfl hH k_th rfl rfl rfl rfl rfl (by rw [show eg_mL 128 = 2 from by decide +kernel]; first | done | rfl) ?_
    refine (fd_needE hH k_th h0 k_s0 h5 hec h6 k_ya hn hE).mono (fun u hu => xp_cb hu ?_)
    show et_go none _ 151 25 _ [.ref e, .ref se] _ _ _ _
    refine hs_aload (i := 0) (p := 26) (by decide +kernel) rfl ?_
    refine hf_get (T := et_TT) (t := 12) (ci := 10) (f := 0) (p := 29) (by decide +kernel) rfl hH k_th h0 ?_
    refine hs_iload (i := 2) (p := 30) (by decide +kernel) rfl ?_
    refine ht_callv (T := et_TT) (t := 9) (mi := 90) (na := 3) (ci := 7) (lk := 3) (lm := 4) (L0 := eg_en (eg_mL 90) [.ref se, .ref e, .ref s0, .int (Int32.ofNat k)]) (by decide +kernel) rfl hH k_se rfl rfl rfl rfl rfl (by rw [show eg_mL 90 = 4 from by decide +kernel]; first | done | rfl) ?_
    refine (fd_leastOf hH t t9 k_s0 k_la k_ly hsR hv g2 hcc hnc hk (by omega)).mono (fun u9 hu9 => xw_cb hu9 (fun G2 v2 hH2 x2 hP2 => ?_))
    obtain ⟨rfl, hJ⟩ := hP2
    have hq : lsQ G2 se be v.1 k (foA v.1 v.2.1 v.2.2.1 X Y nc k) := hJ.2
    have hX : xf (fun b j => ((b = se ∧ ((4 ≤ j ∧ j ≤ 9) ∨ (13 ≤ j ∧ j ≤ 16 ∧ ¬ j = 14))) ∨ K b = some 45 ∨ b = td ∨ b = be ∨ b = sy) ∨ (b = th ∧ 6 ≤ j ∧ j ≤ 7)) G G2 := x2.wk (fun b j _ h => .inl h)
    have lt_th := Nat.lt_of_lt_of_le (hH.2.2 _ _ k_th).1 x2.1
    have lt_se := Nat.lt_of_lt_of_le (hH.2.2 _ _ k_se).1 x2.1
    have lt_be := Nat.lt_of_lt_of_le (hH.2.2 _ _ k_be).1 x2.1
    have hH := hH2
    show et_go none _ 151 33 _ [] _ _ _ _
    refine hs_aload (i := 0) (p := 34) (by decide +kernel) rfl ?_
    refine hs_iload (i := 1) (p := 35) (by decide +kernel) rfl ?_
    have hHo := hH
    refine hf_put (T := et_TT) (t := 12) (ci := 10) (f := 6) (p := 38) (ty := .int) (by decide +kernel) rfl rfl rfl rfl rfl hH k_th hi_any (fun G35 hH x35 e35 => ?_)
    have hq := lsQ.fr (G' := G35) (fun j _ => x35.2 se j lt_se (fun h => hi_ne k_se k_th (by decide) h.1)) (fun u _ => x35.2 be u lt_be (fun h => hi_ne k_be k_th (by decide) h.1)) hq
    have hX := hX.tr x35 (fun b j _ h => .inr ⟨h.1, by have h := h.2; omega⟩)
    have lt_th := Nat.lt_of_lt_of_le lt_th x35.1
    have lt_se := Nat.lt_of_lt_of_le lt_se x35.1
    have lt_be := Nat.lt_of_lt_of_le lt_be x35.1
    refine hs_aload (i := 0) (p := 39) (by decide +kernel) rfl ?_
    refine hs_iload (i := 2) (p := 40) (by decide +kernel) rfl ?_
    have hHo := hH
    refine hf_put (T := et_TT) (t := 12) (ci := 10) (f := 7) (p := 43) (ty := .int) (by decide +kernel) rfl rfl rfl rfl rfl hH k_th hi_any (fun G40 hH x40 e40 => ?_)
    have hq := lsQ.fr (G' := G40) (fun j _ => x40.2 se j lt_se (fun h => hi_ne k_se k_th (by decide) h.1)) (fun u _ => x40.2 be u lt_be (fun h => hi_ne k_be k_th (by decide) h.1)) hq
    have hX := hX.tr x40 (fun b j _ h => .inr ⟨h.1, by have h := h.2; omega⟩)
    have e35 := (x40.2 th 6 lt_th (fun h => absurd h.2 (by decide))).trans e35
    have lt_th := Nat.lt_of_lt_of_le lt_th x40.1
    have lt_se := Nat.lt_of_lt_of_le lt_se x40.1
    have lt_be := Nat.lt_of_lt_of_le lt_be x40.1
    refine hs_vret (by decide +kernel) ?_
    exact ⟨_, _, rfl, hH, hX, rfl, hq, e35, e40⟩
  · refine hs_aload (i := 0) (p := 9) (by decide +kernel) rfl ?_
    refine hf_get (T := et_TT) (t := 12) (ci := 10) (f := 7) (p := 12) (by decide +kernel) rfl hH k_th q7 ?_
    refine hs_iload (i := 2) (p := 13) (by decide +kernel) rfl ?_
    refine hs_br2 (c := .eq) (t := 43) (f := 16) (by decide +kernel) (fun (c13 : x7 = Int32.ofNat k) => ?_) (fun (c13 : ¬ (x7 = Int32.ofNat k)) => ?_)
    · refine hs_vret (by decide +kernel) ?_
      have c5 := Decidable.of_not_not c5
      exact ⟨_, _, rfl, hH, xf.rf, rfl, hhit c5 c13, by rw [← c5]; exact q6, by rw [← c13]; exact q7⟩
    · refine hs_aload (i := 0) (p := 17) (by decide +kernel) rfl ?_
      refine hf_get (T := et_TT) (t := 12) (ci := 10) (f := 5) (p := 20) (by decide +kernel) rfl hH k_th q5e ?_
      refine hs_aload (i := 0) (p := 21) (by decide +kernel) rfl ?_
      refine hs_iload (i := 1) (p := 22) (by decide +kernel) rfl ?_
      refine ht_callv (T := et_TT) (t := 12) (mi := 128) (na := 1) (ci := 10) (lk := 3) (lm := 2) (L0 := eg_en (eg_mL 128) [.ref th, .int (Int32.ofNat n)]) (by decide +kernel) rfl hH k_th rfl rfl rfl rfl rfl (by rw [show eg_mL 128 = 2 from by decide +kernel]; first | done | rfl) ?_
      refine (fd_needE hH k_th h0 k_s0 h5 hec h6 k_ya hn hE).mono (fun u hu => xp_cb hu ?_)
      show et_go none _ 151 25 _ [.ref e, .ref se] _ _ _ _
      refine hs_aload (i := 0) (p := 26) (by decide +kernel) rfl ?_
      refine hf_get (T := et_TT) (t := 12) (ci := 10) (f := 0) (p := 29) (by decide +kernel) rfl hH k_th h0 ?_
      refine hs_iload (i := 2) (p := 30) (by decide +kernel) rfl ?_
      refine ht_callv (T := et_TT) (t := 9) (mi := 90) (na := 3) (ci := 7) (lk := 3) (lm := 4) (L0 := eg_en (eg_mL 90) [.ref se, .ref e, .ref s0, .int (Int32.ofNat k)]) (by decide +kernel) rfl hH k_se rfl rfl rfl rfl rfl (by rw [show eg_mL 90 = 4 from by decide +kernel]; first | done | rfl) ?_
      refine (fd_leastOf hH t t9 k_s0 k_la k_ly hsR hv g2 hcc hnc hk (by omega)).mono (fun u9 hu9 => xw_cb hu9 (fun G2 v2 hH2 x2 hP2 => ?_))
      obtain ⟨rfl, hJ⟩ := hP2
      have hq : lsQ G2 se be v.1 k (foA v.1 v.2.1 v.2.2.1 X Y nc k) := hJ.2
      have hX : xf (fun b j => ((b = se ∧ ((4 ≤ j ∧ j ≤ 9) ∨ (13 ≤ j ∧ j ≤ 16 ∧ ¬ j = 14))) ∨ K b = some 45 ∨ b = td ∨ b = be ∨ b = sy) ∨ (b = th ∧ 6 ≤ j ∧ j ≤ 7)) G G2 := x2.wk (fun b j _ h => .inl h)
      have lt_th := Nat.lt_of_lt_of_le (hH.2.2 _ _ k_th).1 x2.1
      have lt_se := Nat.lt_of_lt_of_le (hH.2.2 _ _ k_se).1 x2.1
      have lt_be := Nat.lt_of_lt_of_le (hH.2.2 _ _ k_be).1 x2.1
      have hH := hH2
      show et_go none _ 151 33 _ [] _ _ _ _
      refine hs_aload (i := 0) (p := 34) (by decide +kernel) rfl ?_
      refine hs_iload (i := 1) (p := 35) (by decide +kernel) rfl ?_
      have hHo := hH
      refine hf_put (T := et_TT) (t := 12) (ci := 10) (f := 6) (p := 38) (ty := .int) (by decide +kernel) rfl rfl rfl rfl rfl hH k_th hi_any (fun G35 hH x35 e35 => ?_)
      have hq := lsQ.fr (G' := G35) (fun j _ => x35.2 se j lt_se (fun h => hi_ne k_se k_th (by decide) h.1)) (fun u _ => x35.2 be u lt_be (fun h => hi_ne k_be k_th (by decide) h.1)) hq
      have hX := hX.tr x35 (fun b j _ h => .inr ⟨h.1, by have h := h.2; omega⟩)
      have lt_th := Nat.lt_of_lt_of_le lt_th x35.1
      have lt_se := Nat.lt_of_lt_of_le lt_se x35.1
      have lt_be := Nat.lt_of_lt_of_le lt_be x35.1
      refine hs_aload (i := 0) (p := 39) (by decide +kernel) rfl ?_
      refine hs_iload (i := 2) (p := 40) (by decide +kernel) rfl ?_
      have hHo := hH
      refine hf_put (T := et_TT) (t := 12) (ci := 10) (f := 7) (p := 43) (ty := .int) (by decide +kernel) rfl rfl rfl rfl rfl hH k_th hi_any (fun G40 hH x40 e40 => ?_)
      have hq := lsQ.fr (G' := G40) (fun j _ => x40.2 se j lt_se (fun h => hi_ne k_se k_th (by decide) h.1)) (fun u _ => x40.2 be u lt_be (fun h => hi_ne k_be k_th (by decide) h.1)) hq
      have hX := hX.tr x40 (fun b j _ h => .inr ⟨h.1, by have h := h.2; omega⟩)
      have e35 := (x40.2 th 6 lt_th (fun h => absurd h.2 (by decide))).trans e35
      have lt_th := Nat.lt_of_lt_of_le lt_th x40.1
      have lt_se := Nat.lt_of_lt_of_le lt_se x40.1
      have lt_be := Nat.lt_of_lt_of_le lt_be x40.1
      refine hs_vret (by decide +kernel) ?_
      exact ⟨_, _, rfl, hH, hX, rfl, hq, e35, e40⟩
theorem fd_can (hH : et_H et_TT K G) (k_th : K th = some 12) (h0 : et_pl (eg_at G th) 0 = some (.ref s0)) (k_s0 : K s0 = some 10) (h5 : et_pl (eg_at G s0) 5 = some (.int (Int32.ofNat ec))) (hec : ec ≤ 3) (h6 : et_pl (eg_at G s0) 6 = some (.ref ya)) (k_ya : K ya = some 40) (hn : n < ec) (hE : et_pl (eg_at G ya) n = some (.ref e)) (t9 : evK K e ca ki kn v.1 v.2.2.1) (hv : evc G e ca ki kn v) (g2 : et_pl (eg_at G s0) 2 = some (.int (Int32.ofNat nc))) (hnc : nc ≤ 20) (hcc : ccP G s0 la ly nc X Y) (k_la : K la = some 17) (k_ly : K ly = some 27) (t : seT K se tA tR tS td be sy) (hsR : seR G se tA tR tS td be sy) (q5e : et_pl (eg_at G th) 5 = some (.ref se)) (q6 : et_pl (eg_at G th) 6 = some (.int x6)) (q7 : et_pl (eg_at G th) 7 = some (.int x7)) (hhit : x6 = Int32.ofNat n → x7 = Int32.ofNat k → lsQ G se be v.1 k (foA v.1 v.2.1 v.2.2.1 X Y nc k)) (hk1 : 1 ≤ k) (hk : k ≤ 3) (hd : 15 ≤ d2) : et_go none d2 149 0 (eg_en (eg_mL 149) [.ref th, .int (Int32.ofNat n), .int (Int32.ofNat k)]) [] G 0 0 (xw_Z (fun b j => ((b = se ∧ ((4 ≤ j ∧ j ≤ 9) ∨ (13 ≤ j ∧ j ≤ 16 ∧ ¬ j = 14))) ∨ K b = some 45 ∨ b = td ∨ b = be ∨ b = sy) ∨ (b = th ∧ 6 ≤ j ∧ j ≤ 7)) K G (fun g v9 => v9 = some (.int (Int32.ofNat (if (foA v.1 v.2.1 v.2.2.1 X Y nc k).isSome = true then 1 else 0))) ∧ fyQ K g th n v.1 k (foA v.1 v.2.1 v.2.2.1 X Y nc k))) := by
  obtain ⟨d, rfl⟩ : ∃ d, d2 = d + 15 := ⟨d2 - 15, by omega⟩
  rw [show eg_mL 149 = 3 from by decide +kernel]
  show et_go none (d + 15) 149 0 [some (.ref th), some (.int (Int32.ofNat n)), some (.int (Int32.ofNat k))] [] G 0 0 _
  have k_se := t.1.1
  have k_tA := t.1.2.1
  have k_tR := t.1.2.2.1
  have k_tS := t.1.2.2.2.1
  have k_td := t.1.2.2.2.2.1
  have k_be := t.1.2.2.2.2.2.1
  have k_sy := t.1.2.2.2.2.2.2
  have k_e := t9.1.1
  have lt_th := (hH.2.2 _ _ k_th).1
  have lt_s0 := (hH.2.2 _ _ k_s0).1
  have lt_ya := (hH.2.2 _ _ k_ya).1
  refine hs_aload (i := 0) (p := 1) (by decide +kernel) rfl ?_
  refine hs_iload (i := 1) (p := 2) (by decide +kernel) rfl ?_
  refine ht_callv (T := et_TT) (t := 12) (mi := 128) (na := 1) (ci := 10) (lk := 3) (lm := 2) (L0 := eg_en (eg_mL 128) [.ref th, .int (Int32.ofNat n)]) (by decide +kernel) rfl hH k_th rfl rfl rfl rfl rfl (by rw [show eg_mL 128 = 2 from by decide +kernel]; first | done | rfl) ?_
  refine (fd_needE hH k_th h0 k_s0 h5 hec h6 k_ya hn hE).mono (fun u hu => xp_cb hu ?_)
  show et_go none _ 149 5 _ [.ref e] _ _ _ _
  refine hs_popr (p := 6) (by decide +kernel) ?_
  refine hs_iload (i := 2) (p := 7) (by decide +kernel) rfl ?_
  refine hs_k (x := Int32.ofNat 3) (p := 8) (by decide +kernel) ?_
  refine hs_calls (mi := 150) (na := 2) (lk := 3) (lm := 2) (L0 := eg_en (eg_mL 150) [.int (Int32.ofNat k), .int (Int32.ofNat 3)]) (by decide +kernel) rfl rfl rfl rfl rfl rfl (by rw [show eg_mL 150 = 2 from by decide +kernel]; first | done | rfl) ?_
  refine (fd_nk hk1 hk (by decide)).mono (fun u hu => xp_cb hu ?_)
  show et_go none _ 149 11 _ [] _ _ _ _
  refine hs_aload (i := 0) (p := 12) (by decide +kernel) rfl ?_
  refine hs_iload (i := 1) (p := 13) (by decide +kernel) rfl ?_
  refine hs_iload (i := 2) (p := 14) (by decide +kernel) rfl ?_
  refine ht_callv (T := et_TT) (t := 12) (mi := 151) (na := 2) (ci := 10) (lk := 3) (lm := 3) (L0 := eg_en (eg_mL 151) [.ref th, .int (Int32.ofNat n), .int (Int32.ofNat k)]) (by decide +kernel) rfl hH k_th rfl rfl rfl rfl rfl (by rw [show eg_mL 151 = 3 from by decide +kernel]; first | done | rfl) ?_
  have hHo := hH
  refine (fd_fdL hH k_th h0 k_s0 h5 hec h6 k_ya hn hE t9 hv g2 hnc hcc k_la k_ly t hsR q5e q6 q7 hhit hk (by omega)).mono (fun u9 hu9 => xw_cb hu9 (fun G2 v2 hH2 x2 hP2 => ?_))
  obtain ⟨rfl, hN⟩ := hP2
  have hP9 := hN.1
  have hba : baI G th se tA tR tS td be sy e ca ki kn s0 la ly nc v X Y := ⟨⟨h0, q5e⟩, hsR, hv, g2, hcc⟩
  have hba := hba.xs t t9 ⟨k_th, k_s0, k_la, k_ly⟩ hHo x2 (fun b j u kb q => by
    rcases q with q | ⟨q1, q2⟩
    · exact sl_t t b j u kb q
    · rw [q1, k_th] at kb; cases kb; exact .inr (.inr (.inr (.inr ⟨rfl, by omega⟩))))
  have hH := hH2
  have hsn := hN.1.s13
  have h0 := hba.1.1
  have q5e := hba.1.2
  have hsR := hba.2.1
  have hv := hba.2.2.1
  have g2 := hba.2.2.2.1
  have hcc := hba.2.2.2.2
  have hN : fyQ K G2 th n v.1 k (foA v.1 v.2.1 v.2.2.1 X Y nc k) := ⟨se, be, ⟨k_se, k_be⟩, ⟨q5e, hsR.1.2.2.2.2.1⟩, hN⟩
  show et_go none _ 149 17 _ [] _ _ _ _
  refine hs_aload (i := 0) (p := 18) (by decide +kernel) rfl ?_
  refine hf_get (T := et_TT) (t := 12) (ci := 10) (f := 5) (p := 21) (by decide +kernel) rfl hH k_th q5e ?_
  refine hf_get (T := et_TT) (t := 9) (ci := 7) (f := 13) (p := 24) (by decide +kernel) rfl hH k_se hsn ?_
  refine hs_zret (by decide +kernel) (by split; exact .inr rfl; exact .inl rfl) ?_
  exact ⟨_, _, rfl, hH, x2, rfl, hN⟩
theorem fd_canR (hH : et_H et_TT K G) (k_th : K th = some 12) (h0 : et_pl (eg_at G th) 0 = some (.ref s0)) (k_s0 : K s0 = some 10) (h5 : et_pl (eg_at G s0) 5 = some (.int (Int32.ofNat ec))) (hec : ec ≤ 3) (h6 : et_pl (eg_at G s0) 6 = some (.ref ya)) (k_ya : K ya = some 40) (hn : n < ec) (hE : et_pl (eg_at G ya) n = some (.ref e)) (hy : ¬ (1 ≤ y.toInt ∧ y.toInt ≤ 3)) (hd : 5 ≤ d2) : et_go none d2 149 0 (eg_en (eg_mL 149) [.ref th, .int (Int32.ofNat n), .int y]) [] G 0 0 (ix_Z 0 G) := by
  obtain ⟨d, rfl⟩ : ∃ d, d2 = d + 5 := ⟨d2 - 5, by omega⟩
  rw [show eg_mL 149 = 3 from by decide +kernel]
  show et_go none (d + 5) 149 0 [some (.ref th), some (.int (Int32.ofNat n)), some (.int y)] [] G 0 0 _
  have lt_th := (hH.2.2 _ _ k_th).1
  have lt_s0 := (hH.2.2 _ _ k_s0).1
  have lt_ya := (hH.2.2 _ _ k_ya).1
  refine hs_aload (i := 0) (p := 1) (by decide +kernel) rfl ?_
  refine hs_iload (i := 1) (p := 2) (by decide +kernel) rfl ?_
  refine ht_callv (T := et_TT) (t := 12) (mi := 128) (na := 1) (ci := 10) (lk := 3) (lm := 2) (L0 := eg_en (eg_mL 128) [.ref th, .int (Int32.ofNat n)]) (by decide +kernel) rfl hH k_th rfl rfl rfl rfl rfl (by rw [show eg_mL 128 = 2 from by decide +kernel]; first | done | rfl) ?_
  refine (fd_needE hH k_th h0 k_s0 h5 hec h6 k_ya hn hE).mono (fun u hu => xp_cb hu ?_)
  show et_go none _ 149 5 _ [.ref e] _ _ _ _
  refine hs_popr (p := 6) (by decide +kernel) ?_
  refine hs_iload (i := 2) (p := 7) (by decide +kernel) rfl ?_
  refine hs_k (x := Int32.ofNat 3) (p := 8) (by decide +kernel) ?_
  refine hs_calls (mi := 150) (na := 2) (lk := 3) (lm := 2) (L0 := eg_en (eg_mL 150) [.int y, .int (Int32.ofNat 3)]) (by decide +kernel) rfl rfl rfl rfl rfl rfl (by rw [show eg_mL 150 = 2 from by decide +kernel]; first | done | rfl) ?_
  refine (fd_nkn (q := 3) (by decide) hy).mono (fun u hu => ?_)
  obtain ⟨c8, s8, rfl⟩ := hu
  refine hf_cx (by decide +kernel) ?_
  exact ⟨_, _, rfl⟩
theorem fd_canE (hH : et_H et_TT K G) (k_th : K th = some 12) (h0 : et_pl (eg_at G th) 0 = some (.ref s0)) (k_s0 : K s0 = some 10) (h5 : et_pl (eg_at G s0) 5 = some (.int (Int32.ofNat ec))) (hec : ec ≤ 3) (h6 : et_pl (eg_at G s0) 6 = some (.ref ya)) (k_ya : K ya = some 40) (hx : ¬ xr x ec) (hd : 5 ≤ d2) : et_go none d2 149 0 (eg_en (eg_mL 149) [.ref th, .int x, .int y]) [] G 0 0 (ix_Z 1 G) := by
  obtain ⟨d, rfl⟩ : ∃ d, d2 = d + 5 := ⟨d2 - 5, by omega⟩
  rw [show eg_mL 149 = 3 from by decide +kernel]
  show et_go none (d + 5) 149 0 [some (.ref th), some (.int x), some (.int y)] [] G 0 0 _
  have lt_th := (hH.2.2 _ _ k_th).1
  have lt_s0 := (hH.2.2 _ _ k_s0).1
  have lt_ya := (hH.2.2 _ _ k_ya).1
  refine hs_aload (i := 0) (p := 1) (by decide +kernel) rfl ?_
  refine hs_iload (i := 1) (p := 2) (by decide +kernel) rfl ?_
  refine ht_callv (T := et_TT) (t := 12) (mi := 128) (na := 1) (ci := 10) (lk := 3) (lm := 2) (L0 := eg_en (eg_mL 128) [.ref th, .int x]) (by decide +kernel) rfl hH k_th rfl rfl rfl rfl rfl (by rw [show eg_mL 128 = 2 from by decide +kernel]; first | done | rfl) ?_
  refine (fd_needEn hH k_th h0 k_s0 h5 hec h6 k_ya hx).mono (fun u hu => ?_)
  obtain ⟨c2, s2, rfl⟩ := hu
  refine hf_cx (by decide +kernel) ?_
  exact ⟨_, _, rfl⟩
theorem fh_can (hH : et_H et_TT K G) (k_th : K th = some 12) (h0 : et_pl (eg_at G th) 0 = some (.ref s0)) (k_s0 : K s0 = some 10) (h5 : et_pl (eg_at G s0) 5 = some (.int (Int32.ofNat ec))) (hec : ec ≤ 3) (h6 : et_pl (eg_at G s0) 6 = some (.ref ya)) (k_ya : K ya = some 40) (hn : n < ec) (hE : et_pl (eg_at G ya) n = some (.ref e)) (t9 : evK K e ca ki kn v.1 v.2.2.1) (hv : evc G e ca ki kn v) (g2 : et_pl (eg_at G s0) 2 = some (.int (Int32.ofNat nc))) (hnc : nc ≤ 20) (hcc : ccP G s0 la ly nc X Y) (k_la : K la = some 17) (k_ly : K ly = some 27) (t : seT K se tA tR tS td be sy) (hsR : seR G se tA tR tS td be sy) (q5e : et_pl (eg_at G th) 5 = some (.ref se)) (q6 : et_pl (eg_at G th) 6 = some (.int x6)) (q7 : et_pl (eg_at G th) 7 = some (.int x7)) (hhit : x6 = Int32.ofNat n → x7 = Int32.ofNat k → lsQ G se be v.1 k (foA v.1 v.2.1 v.2.2.1 X Y nc k)) (hk1 : 1 ≤ k) (hk : k ≤ 3) (k_out : K out = some 31) (hd : 16 ≤ d2) : et_go none d2 14 0 (eg_en (eg_mL 14) [.ref th, .int (Int32.ofNat n), .int (Int32.ofNat k), .ref out]) [] G 0 0 (fun u => u.1 = .inl (some (.int (Int32.ofNat 0))) ∧ et_pl (eg_at u.2.1 out) 0 = some (.long (Int64.ofNat (if (foA v.1 v.2.1 v.2.2.1 X Y nc k).isSome = true then 1 else 0))) ∧ fyQ K u.2.1 th n v.1 k (foA v.1 v.2.1 v.2.2.1 X Y nc k)) := by
  obtain ⟨d, rfl⟩ : ∃ d, d2 = d + 16 := ⟨d2 - 16, by omega⟩
  rw [show eg_mL 14 = 5 from by decide +kernel]
  show et_go none (d + 16) 14 0 [some (.ref th), some (.int (Int32.ofNat n)), some (.int (Int32.ofNat k)), some (.ref out), none] [] G 0 0 _
  have lt_th := (hH.2.2 _ _ k_th).1
  have lt_out := (hH.2.2 _ _ k_out).1
  refine hs_aload (i := 3) (p := 1) (by decide +kernel) rfl ?_
  refine hs_k (x := Int32.ofNat 0) (p := 2) (by decide +kernel) ?_
  refine hs_aload (i := 0) (p := 3) (by decide +kernel) rfl ?_
  refine hs_iload (i := 1) (p := 4) (by decide +kernel) rfl ?_
  refine hs_iload (i := 2) (p := 5) (by decide +kernel) rfl ?_
  refine ht_callv (T := et_TT) (t := 12) (mi := 149) (na := 2) (ci := 10) (lk := 5) (lm := 3) (L0 := eg_en (eg_mL 149) [.ref th, .int (Int32.ofNat n), .int (Int32.ofNat k)]) (by decide +kernel) rfl hH k_th rfl rfl rfl rfl rfl (by rw [show eg_mL 149 = 3 from by decide +kernel]; first | done | rfl) ?_
  refine (fd_can hH k_th h0 k_s0 h5 hec h6 k_ya hn hE t9 hv g2 hnc hcc k_la k_ly t hsR q5e q6 q7 hhit hk1 hk (by omega)).mono (fun u hu => xw_cb hu (fun G5 v5 hH x5 hP5 => ?_))
  obtain ⟨rfl, hN⟩ := hP5
  have lt_out := Nat.lt_of_lt_of_le lt_out x5.1
  show et_go none _ 14 8 _ [.int (Int32.ofNat (if (foA v.1 v.2.1 v.2.2.1 X Y nc k).isSome = true then 1 else 0)), .int (Int32.ofNat 0), .ref out] _ _ _ _
  refine hs_br1 (c := .eq) (t := 15) (f := 11) (by decide +kernel) (fun (c8 : Int32.ofNat (if (foA v.1 v.2.1 v.2.2.1 X Y nc k).isSome = true then 1 else 0) = 0) => ?_) (fun (c8 : ¬ (Int32.ofNat (if (foA v.1 v.2.1 v.2.2.1 X Y nc k).isSome = true then 1 else 0) = 0)) => ?_)
  · refine hs_st (ins := .lconst 0) (len := 1) (p := 16) (by decide +kernel) rfl rfl ?_
    have hHo := hH
    have hHo := hH
    refine hf_lst (T := et_TT) (t := 31) (N := 1) (p := 17) (by decide +kernel) rfl rfl hH k_out (by omega) (by decide) (fun G16 hH x16 e16 => ?_)
    have hN := hN.xs k_th hHo x16 (fun b j h => by rw [h.1, k_out]; exact ⟨by decide, by decide, by decide⟩)
    refine hs_goto (p := 28) (by decide +kernel) ?_
    refine hs_k (x := Int32.ofNat 0) (p := 29) (by decide +kernel) ?_
    refine hs_iret (by decide +kernel) ?_
    have hs9 : ¬ ((foA v.1 v.2.1 v.2.2.1 X Y nc k).isSome = true) := fun h => by rw [if_pos h] at c8; exact absurd c8 (by decide)
    exact ⟨rfl, by rw [if_neg hs9]; exact e16, hN⟩
  · refine hs_st (ins := .lconst 1) (len := 1) (p := 12) (by decide +kernel) rfl rfl ?_
    refine hs_goto (p := 16) (by decide +kernel) ?_
    have hHo := hH
    have hHo := hH
    refine hf_lst (T := et_TT) (t := 31) (N := 1) (p := 17) (by decide +kernel) rfl rfl hH k_out (by omega) (by decide) (fun G16 hH x16 e16 => ?_)
    have hN := hN.xs k_th hHo x16 (fun b j h => by rw [h.1, k_out]; exact ⟨by decide, by decide, by decide⟩)
    refine hs_goto (p := 28) (by decide +kernel) ?_
    refine hs_k (x := Int32.ofNat 0) (p := 29) (by decide +kernel) ?_
    refine hs_iret (by decide +kernel) ?_
    have hs9 : (foA v.1 v.2.1 v.2.2.1 X Y nc k).isSome = true := by
      by_cases h : (foA v.1 v.2.1 v.2.2.1 X Y nc k).isSome = true
      · exact h
      · rw [if_neg h] at c8; exact absurd rfl c8
    exact ⟨rfl, by rw [if_pos hs9]; exact e16, hN⟩
theorem fh_canR (hH : et_H et_TT K G) (k_th : K th = some 12) (h0 : et_pl (eg_at G th) 0 = some (.ref s0)) (k_s0 : K s0 = some 10) (h5 : et_pl (eg_at G s0) 5 = some (.int (Int32.ofNat ec))) (hec : ec ≤ 3) (h6 : et_pl (eg_at G s0) 6 = some (.ref ya)) (k_ya : K ya = some 40) (hn : n < ec) (hE : et_pl (eg_at G ya) n = some (.ref e)) (hy : ¬ (1 ≤ y.toInt ∧ y.toInt ≤ 3)) (hd : 6 ≤ d2) : et_go none d2 14 0 (eg_en (eg_mL 14) [.ref th, .int (Int32.ofNat n), .int y, .ref out]) [] G 0 0 (fun u => u.1 = .inl (some (.int (Int32.ofNat 2))) ∧ u.2.1 = G) := by
  obtain ⟨d, rfl⟩ : ∃ d, d2 = d + 6 := ⟨d2 - 6, by omega⟩
  rw [show eg_mL 14 = 5 from by decide +kernel]
  show et_go none (d + 6) 14 0 [some (.ref th), some (.int (Int32.ofNat n)), some (.int y), some (.ref out), none] [] G 0 0 _
  have lt_th := (hH.2.2 _ _ k_th).1
  refine hs_aload (i := 3) (p := 1) (by decide +kernel) rfl ?_
  refine hs_k (x := Int32.ofNat 0) (p := 2) (by decide +kernel) ?_
  refine hs_aload (i := 0) (p := 3) (by decide +kernel) rfl ?_
  refine hs_iload (i := 1) (p := 4) (by decide +kernel) rfl ?_
  refine hs_iload (i := 2) (p := 5) (by decide +kernel) rfl ?_
  refine ht_callv (T := et_TT) (t := 12) (mi := 149) (na := 2) (ci := 10) (lk := 5) (lm := 3) (L0 := eg_en (eg_mL 149) [.ref th, .int (Int32.ofNat n), .int y]) (by decide +kernel) rfl hH k_th rfl rfl rfl rfl rfl (by rw [show eg_mL 149 = 3 from by decide +kernel]; first | done | rfl) ?_
  refine (fd_canR hH k_th h0 k_s0 h5 hec h6 k_ya hn hE hy (by omega)).mono (fun u hu => ?_)
  obtain ⟨c5, s5, rfl⟩ := hu
  refine hs_ch (h := 24) (i := 4) (n := 2) (hh := (eg_mh 14).getD []) (by decide +kernel) ⟨by decide +kernel, by decide +kernel⟩ (Nat.le_of_ble_eq_true rfl) ?_
  show et_go none _ 14 26 [some (.ref th), some (.int (Int32.ofNat n)), some (.int y), some (.ref out), none] [] _ _ _ _
  refine hs_k (x := Int32.ofNat 2) (p := 27) (by decide +kernel) ?_
  refine hs_iret (by decide +kernel) ?_
  exact ⟨rfl, rfl⟩
theorem fh_canE (hH : et_H et_TT K G) (k_th : K th = some 12) (h0 : et_pl (eg_at G th) 0 = some (.ref s0)) (k_s0 : K s0 = some 10) (h5 : et_pl (eg_at G s0) 5 = some (.int (Int32.ofNat ec))) (hec : ec ≤ 3) (h6 : et_pl (eg_at G s0) 6 = some (.ref ya)) (k_ya : K ya = some 40) (hx : ¬ xr x ec) (hd : 6 ≤ d2) : et_go none d2 14 0 (eg_en (eg_mL 14) [.ref th, .int x, .int y, .ref out]) [] G 0 0 (fun u => u.1 = .inl (some (.int (Int32.ofNat 1))) ∧ u.2.1 = G) := by
  obtain ⟨d, rfl⟩ : ∃ d, d2 = d + 6 := ⟨d2 - 6, by omega⟩
  rw [show eg_mL 14 = 5 from by decide +kernel]
  show et_go none (d + 6) 14 0 [some (.ref th), some (.int x), some (.int y), some (.ref out), none] [] G 0 0 _
  have lt_th := (hH.2.2 _ _ k_th).1
  refine hs_aload (i := 3) (p := 1) (by decide +kernel) rfl ?_
  refine hs_k (x := Int32.ofNat 0) (p := 2) (by decide +kernel) ?_
  refine hs_aload (i := 0) (p := 3) (by decide +kernel) rfl ?_
  refine hs_iload (i := 1) (p := 4) (by decide +kernel) rfl ?_
  refine hs_iload (i := 2) (p := 5) (by decide +kernel) rfl ?_
  refine ht_callv (T := et_TT) (t := 12) (mi := 149) (na := 2) (ci := 10) (lk := 5) (lm := 3) (L0 := eg_en (eg_mL 149) [.ref th, .int x, .int y]) (by decide +kernel) rfl hH k_th rfl rfl rfl rfl rfl (by rw [show eg_mL 149 = 3 from by decide +kernel]; first | done | rfl) ?_
  refine (fd_canE hH k_th h0 k_s0 h5 hec h6 k_ya hx (by omega)).mono (fun u hu => ?_)
  obtain ⟨c5, s5, rfl⟩ := hu
  refine hs_ch (h := 20) (i := 4) (n := 2) (hh := (eg_mh 14).getD []) (by decide +kernel) ⟨by decide +kernel, by decide +kernel⟩ (Nat.le_of_ble_eq_true rfl) ?_
  show et_go none _ 14 22 [some (.ref th), some (.int x), some (.int y), some (.ref out), none] [] _ _ _ _
  refine hs_k (x := Int32.ofNat 1) (p := 23) (by decide +kernel) ?_
  refine hs_iret (by decide +kernel) ?_
  exact ⟨rfl, rfl⟩
theorem fz_can (hH : et_H et_TT K G) (k_th : K th = some 12) (h0 : et_pl (eg_at G th) 0 = some (.ref s0)) (k_s0 : K s0 = some 10) (k_s1 : K s1 = some 10) (h5 : et_pl (eg_at G s0) 5 = some (.int (Int32.ofNat ec))) (hec : ec ≤ 3) (t : ezK K ya yb O A) (hz : ez G th s0 s1 ya yb O A V) (ho : ∀ n, n < 6 → evo (V n)) (g2 : et_pl (eg_at G s0) 2 = some (.int (Int32.ofNat nc))) (hnc : nc ≤ 20) (hcc : ccP G s0 la ly nc X Y) (k_la : K la = some 17) (k_ly : K ly = some 27) (k_out : K out = some 31) (hsy : syB K G th) (hfy : fyR K G th s0 nc) (hd : 34 ≤ d2) : et_go none d2 14 0 (eg_en (eg_mL 14) [.ref th, .int x, .int y, .ref out]) [] G 0 0 (fun u => (¬ xr x ec ∧ u.1 = .inl (some (.int (Int32.ofNat 1))) ∧ u.2.1 = G) ∨ ∃ n, (x = Int32.ofNat n ∧ n < ec) ∧ ((¬ (1 ≤ y.toInt ∧ y.toInt ≤ 3) ∧ u.1 = .inl (some (.int (Int32.ofNat 2))) ∧ u.2.1 = G) ∨ ∃ k, (y = Int32.ofNat k ∧ 1 ≤ k ∧ k ≤ 3) ∧ u.1 = .inl (some (.int (Int32.ofNat 0))) ∧ et_pl (eg_at u.2.1 out) 0 = some (.long (Int64.ofNat (if (foA (V n).1 (V n).2.1 (V n).2.2.1 X Y nc k).isSome = true then 1 else 0))) ∧ fyQ K u.2.1 th n (V n).1 k (foA (V n).1 (V n).2.1 (V n).2.2.1 X Y nc k))) := by
  obtain ⟨se, q5e, tA, tR, tS, td, be, sy, t8, hsR⟩ := hsy
  obtain ⟨x6, q6, l6, m6⟩ := hf_iv (t := 12) (f := 6) hH k_th rfl rfl
  obtain ⟨x7, q7, l7, m7⟩ := hf_iv (t := 12) (f := 7) hH k_th rfl rfl
  by_cases hx : xr x ec
  · obtain ⟨n, rfl, hn⟩ := xr_nat hx (by omega)
    by_cases hs3 : (1 ≤ y.toInt ∧ y.toInt ≤ 3)
    · obtain ⟨k, rfl, q2, q3⟩ := hs_toN (x := y) (by omega)
      exact (fh_can hH k_th h0 k_s0 h5 hec hz.1.1 t.1.1 hn (hz.2.1 n (by omega)).1 (t.ev (ho n (by omega)) (by omega)) (hz.2.2.1 n (by omega)) g2 hnc hcc k_la k_ly t8 hsR q5e q6 q7 (hfy.hitx (by omega) (by omega) q6 q7 q5e hsR.1.2.2.2.2.1 hz ho hcc) (by omega) (by omega) k_out (by omega)).mono (fun u hu => .inr ⟨n, ⟨rfl, hn⟩, .inr ⟨k, ⟨rfl, by omega, by omega⟩, hu.1, hu.2.1, hu.2.2⟩⟩)
    · exact (fh_canR hH k_th h0 k_s0 h5 hec hz.1.1 t.1.1 hn (hz.2.1 n (by omega)).1 hs3 (by omega)).mono (fun u hu => .inr ⟨n, ⟨rfl, hn⟩, .inl ⟨hs3, hu.1, hu.2⟩⟩)
  · exact (fh_canE hH k_th h0 k_s0 h5 hec hz.1.1 t.1.1 hx (by omega)).mono (fun u hu => .inl ⟨hx, hu.1, hu.2⟩)
end ZWB
end
