section
/-! PHASE D: both sides' TURNERS and EYES, as the law keeps them -/
/-- TURNERS: the class's objects, and what their LINES say -/
def tyE (K : et_K) (G : eg_G) (ta c : Nat) (T : Nat → Nat) (L : Nat → List sp_L) : Prop := ∀ k, k < c → (et_pl (eg_at G ta) k = some (.ref (T k)) ∧ tuC K G (T k) (L k)) ∧ ∀ l ∈ L k, lcl1 l
def tyX (G : eg_G) (a c : Nat) (L : Nat → List sp_L) : Prop := ∀ k, k < c → tuT G a (126 + 841 * (4 + k)) 1 (L k)
def tyK (K : et_K) (s0 s1 t0 t1 aw ai : Nat) : Prop := (K s0 = some 10 ∧ K s1 = some 10 ∧ K t0 = some 38 ∧ K t1 = some 38) ∧ (K aw = some 46 ∧ K ai = some 47) ∧ ¬ t0 = t1 ∧ ¬ s0 = s1
def ty (K : et_K) (G : eg_G) (s0 s1 aw ai c i : Nat) : Prop := ∃ (t0 t1 : Nat) (T0 T1 : Nat → Nat) (L0 L1 : Nat → List sp_L), tyK K s0 s1 t0 t1 aw ai ∧ (et_pl (eg_at G s0) 8 = some (.ref t0) ∧ et_pl (eg_at G s1) 8 = some (.ref t1)) ∧ (c ≤ 4 ∧ i ≤ 4) ∧ (tyE K G t0 c T0 L0 ∧ tyX G aw c L0) ∧ tyE K G t1 i T1 L1 ∧ tyX G ai i L1
/-- the class has a new TURNER, the reference not yet -/
def tyA (K : et_K) (G : eg_G) (s0 s1 aw ai c i : Nat) (ls : List sp_L) : Prop := ∃ (t0 t1 : Nat) (T0 T1 : Nat → Nat) (L0 L1 : Nat → List sp_L), tyK K s0 s1 t0 t1 aw ai ∧ (et_pl (eg_at G s0) 8 = some (.ref t0) ∧ et_pl (eg_at G s1) 8 = some (.ref t1)) ∧ (c + 1 ≤ 4 ∧ i ≤ 4) ∧ (tyE K G t0 (c + 1) T0 L0 ∧ tyX G aw c L0) ∧ (tyE K G t1 i T1 L1 ∧ tyX G ai i L1) ∧ L0 c = ls
/-- what a call may touch while c TURNERS stay -/
def tyS (G : eg_G) (s0 c b j t : Nat) : Prop := (¬ t = 6 ∧ ¬ t = 11 ∧ ¬ t = 16 ∧ ¬ t = 26 ∧ ¬ t = 42) ∧ (t = 10 → ¬ j = 8) ∧ (t = 38 → et_pl (eg_at G s0) 8 = some (.ref b) ∧ c ≤ j) ∧ (t = 46 → j < 3490 ∨ 3490 + 841 * c ≤ j) ∧ (t = 47 → j < 3490 ∨ 6854 ≤ j)
def ty_k (M : et_M) : Bool := tu_k M && (no_t M 38 && (!et_mm M 10 8 && (rg_k M 46 3490 6853 && rg_k M 47 3490 6853)))
def tz_k (M : et_M) : Bool := tu_k M && (!et_mm M 10 8 && (rg_k M 46 3490 6853 && rg_k M 47 3490 6853))
def tw_k (M : et_M) : Bool := tu_k M && (no_t M 38 && !et_mm M 10 8)
section VUA
variable {K K' : et_K} {G G' : eg_G} {M : et_M} {S : Nat → Nat → Prop} {s0 s1 aw ai t0 t1 ta a a' c i h t n e ei th tn : Nat} {T : Nat → Nat} {L : Nat → List sp_L} {ls : List sp_L}
theorem tyS.r (t : Nat) {b j : Nat} (h1 : ¬ t = 6 ∧ ¬ t = 11 ∧ ¬ t = 16 ∧ ¬ t = 26 ∧ ¬ t = 42) (h2 : ¬ t = 10 ∧ ¬ t = 38 ∧ ¬ t = 46 ∧ ¬ t = 47) : tyS G s0 c b j t := ⟨h1, fun h => absurd h h2.1, fun h => absurd h h2.2.1, fun h => absurd h h2.2.2.1, fun h => absurd h h2.2.2.2⟩
theorem tyK.ex (h : tyK K s0 s1 t0 t1 aw ai) (hx : et_ex K K') : tyK K' s0 s1 t0 t1 aw ai := ⟨⟨hx _ _ h.1.1, hx _ _ h.1.2.1, hx _ _ h.1.2.2.1, hx _ _ h.1.2.2.2⟩, ⟨hx _ _ h.2.1.1, hx _ _ h.2.1.2⟩, h.2.2⟩
theorem tyE.fr (h : tyE K G ta c T L) (kt : K ta = some 38) (hx : et_ex K K') (hH : et_H et_TT K G) (hf : et_fr M K G G') (h1 : tu_k M = true) (h2 : no_t M 38 = true) : tyE K' G' ta c T L := fun k hk => ⟨⟨(hf.2 ta 38 kt k (no_mm h2)).trans (h k hk).1.1, (h k hk).1.2.fr hx hH hf h1⟩, (h k hk).2⟩
theorem tyE.mv (h : tyE K G ta c T L) (hx : et_ex K K') (hH : et_H et_TT K G) (hf : et_fr M K G G') (h1 : tu_k M = true) (hg : ∀ k, k < c → et_pl (eg_at G' a) k = et_pl (eg_at G ta) k) : tyE K' G' a c T L := fun k hk => ⟨⟨(hg k hk).trans (h k hk).1.1, (h k hk).1.2.fr hx hH hf h1⟩, (h k hk).2⟩
theorem tyX.fr (h : tyX G a c L) (ka : K a = some t) (hc : c ≤ 4) (hf : et_fr M K G G') (hM : rg_k M t 3490 6853 = true) : tyX G' a c L := fun k hk => (h k hk).mp (fun j hj => hf.2 a t ka _ (rg_mm hM (by omega) (by omega)))
theorem tyX.mv (h : tyX G a c L) (hc : c ≤ 4) (hg : ∀ k, k < 11900 → et_pl (eg_at G' a') k = et_pl (eg_at G a) k) : tyX G' a' c L := fun k hk => (h k hk).mp (fun j hj => hg _ (by omega))
theorem ty.fr (h : ty K G s0 s1 aw ai c i) (hx : et_ex K K') (hH : et_H et_TT K G) (hf : et_fr M K G G') (hk : ty_k M = true) : ty K' G' s0 s1 aw ai c i := by
  unfold ty_k at hk
  rw [Bool.and_eq_true, Bool.and_eq_true, Bool.and_eq_true, Bool.and_eq_true] at hk
  obtain ⟨q1, q2, q3, q4, q5⟩ := hk
  obtain ⟨t0, t1, T0, T1, L0, L1, hK, ⟨p0, p1⟩, ⟨c4, i4⟩, ⟨e0, w0⟩, e1, w1⟩ := h
  exact ⟨t0, t1, T0, T1, L0, L1, hK.ex hx, ⟨(hf.2 s0 10 hK.1.1 8 (by simpa using q3)).trans p0, (hf.2 s1 10 hK.1.2.1 8 (by simpa using q3)).trans p1⟩, ⟨c4, i4⟩, ⟨e0.fr hK.1.2.2.1 hx hH hf q1 q2, w0.fr hK.2.1.1 c4 hf q4⟩, e1.fr hK.1.2.2.2 hx hH hf q1 q2, w1.fr hK.2.1.2 i4 hf q5⟩
theorem tyE.xs (h : tyE K G ta c T L) (hx : et_ex K K') (hH : et_H et_TT K G) (x : xf S G G') (hS : ∀ b j t, K b = some t → S b j → tyS G s0 n b j t) (hg : ∀ k, k < c → et_pl (eg_at G' ta) k = et_pl (eg_at G ta) k) : tyE K' G' ta c T L := fun k hk => ⟨⟨(hg k hk).trans (h k hk).1.1, (h k hk).1.2.xs hx hH x (fun b j t kb hs => (hS b j t kb hs).1)⟩, (h k hk).2⟩
theorem tyX.xs (h : tyX G a c L) (hg : ∀ j, 3490 ≤ j → j < 3490 + 841 * c → et_pl (eg_at G' a) j = et_pl (eg_at G a) j) : tyX G' a c L := fun k hk => (h k hk).mp (fun j hj => hg _ (by omega) (by omega))
theorem ty.xs (h : ty K G s0 s1 aw ai c i) (hH : et_H et_TT K G) (hx : et_ex K K') (x : xf S G G') (hS : ∀ b j t, K b = some t → S b j → tyS G s0 c b j t) : ty K' G' s0 s1 aw ai c i := by
  obtain ⟨t0, t1, T0, T1, L0, L1, hK, ⟨p0, p1⟩, ⟨c4, i4⟩, ⟨e0, w0⟩, e1, w1⟩ := h
  have lt : ∀ a t, K a = some t → a < G.2 := fun a t ha => (hH.2.2 a t ha).1
  obtain ⟨⟨k0, k1, k2, k3⟩, ⟨k4, k5⟩, n1, n2⟩ := hK
  refine ⟨t0, t1, T0, T1, L0, L1, tyK.ex ⟨⟨k0, k1, k2, k3⟩, ⟨k4, k5⟩, n1, n2⟩ hx, ⟨(x.2 s0 8 (lt _ _ k0) (fun hs => (hS _ _ _ k0 hs).2.1 rfl rfl)).trans p0, (x.2 s1 8 (lt _ _ k1) (fun hs => (hS _ _ _ k1 hs).2.1 rfl rfl)).trans p1⟩, ⟨c4, i4⟩, ⟨e0.xs hx hH x hS (fun k hk => x.2 t0 k (lt _ _ k2) (fun hs => ?_)), w0.xs (fun j j1 j2 => x.2 aw j (lt _ _ k4) (fun hs => ?_))⟩, e1.xs hx hH x hS (fun k hk => x.2 t1 k (lt _ _ k3) (fun hs => ?_)), w1.xs (fun j j1 j2 => x.2 ai j (lt _ _ k5) (fun hs => ?_))⟩
  · have := ((hS _ _ _ k2 hs).2.2.1 rfl).2
    omega
  · have := (hS _ _ _ k4 hs).2.2.2.1 rfl
    omega
  · exact n1 (Value.ref.inj (Option.some.inj (p0.symm.trans ((hS _ _ _ k3 hs).2.2.1 rfl).1)))
  · have := (hS _ _ _ k5 hs).2.2.2.2 rfl
    omega
theorem ty.tu1 {t9 : Nat} (h : ty K G s0 s1 aw ai c i) (hH : et_H et_TT K G) (hx : et_ex K K') (x : xf S G G') (hS : ∀ b j t, K b = some t → S b j → tyS G s0 c b j t) (hc : c < 4) (h9 : et_pl (eg_at G s0) 8 = some (.ref t9)) (q1 : et_pl (eg_at G' t9) c = some (.ref tn)) (ht : tuC K' G' tn ls) (hl : ∀ l ∈ ls, lcl1 l) : tyA K' G' s0 s1 aw ai c i ls := by
  obtain ⟨t0, t1, T0, T1, L0, L1, hK, ⟨p0, p1⟩, ⟨c4, i4⟩, ⟨e0, w0⟩, e1, w1⟩ := ty.xs h hH hx x hS
  obtain ⟨u0, u1, -, -, -, -, hK2, ⟨r0, -⟩, -⟩ := h
  have e9 : et_pl (eg_at G' s0) 8 = some (.ref t9) := (x.2 s0 8 (hH.2.2 _ _ hK2.1.1).1 (fun hs => (hS _ _ _ hK2.1.1 hs).2.1 rfl rfl)).trans h9
  obtain rfl : t9 = t0 := Value.ref.inj (Option.some.inj (e9.symm.trans p0))
  refine ⟨t9, t1, fun k => if k = c then tn else T0 k, T1, fun k => if k = c then ls else L0 k, L1, hK, ⟨p0, p1⟩, ⟨by omega, i4⟩, ⟨fun k hk => ?_, fun k hk => ?_⟩, ⟨e1, w1⟩, if_pos rfl⟩
  · dsimp only
    by_cases e : k = c
    · rw [if_pos e, if_pos e, e]
      exact ⟨⟨q1, ht⟩, hl⟩
    · rw [if_neg e, if_neg e]
      exact e0 k (by omega)
  · dsimp only
    rw [if_neg (show ¬ k = c by omega)]
    exact w0 k hk
theorem tyA.tu2 (h : tyA K G s0 s1 aw ai c i ls) (hH : et_H et_TT K G) (hx : et_ex K K') (x : xf S G G') (hS : ∀ b j t, K b = some t → S b j → tyS G s0 c b j t) (hS3 : ∀ b j, S b j → ¬ K b = some 38) (tx : tuT G' aw (126 + 841 * (4 + c)) 1 ls) : ty K' G' s0 s1 aw ai (c + 1) i := by
  obtain ⟨t0, t1, T0, T1, L0, L1, hK, ⟨p0, p1⟩, ⟨c4, i4⟩, ⟨e0, w0⟩, ⟨e1, w1⟩, e9⟩ := h
  have lt : ∀ a t, K a = some t → a < G.2 := fun a t ha => (hH.2.2 a t ha).1
  obtain ⟨⟨k0, k1, k2, k3⟩, ⟨k4, k5⟩, n1, n2⟩ := hK
  refine ⟨t0, t1, T0, T1, L0, L1, tyK.ex ⟨⟨k0, k1, k2, k3⟩, ⟨k4, k5⟩, n1, n2⟩ hx, ⟨(x.2 s0 8 (lt _ _ k0) (fun hs => (hS _ _ _ k0 hs).2.1 rfl rfl)).trans p0, (x.2 s1 8 (lt _ _ k1) (fun hs => (hS _ _ _ k1 hs).2.1 rfl rfl)).trans p1⟩, ⟨c4, i4⟩, ⟨e0.xs hx hH x hS (fun k hk => x.2 t0 k (lt _ _ k2) (fun hs => hS3 _ _ hs k2)), fun k hk => ?_⟩, e1.xs hx hH x hS (fun k hk => x.2 t1 k (lt _ _ k3) (fun hs => hS3 _ _ hs k3)), w1.xs (fun j j1 j2 => x.2 ai j (lt _ _ k5) (fun hs => ?_))⟩
  · by_cases e : k = c
    · rw [e, e9]
      exact tx
    · exact tyX.xs w0 (fun j j1 j2 => x.2 aw j (lt _ _ k4) (fun hs => by have := (hS _ _ _ k4 hs).2.2.2.1 rfl; omega)) k (by omega)
  · have := (hS _ _ _ k5 hs).2.2.2.2 rfl
    omega
/-- the class has kept the image, the reference not yet -/
def tyI (K : et_K) (G : eg_G) (s0 s1 aw ai c : Nat) : Prop := ∃ (t0 t1 : Nat) (T : Nat → Nat) (L : Nat → List sp_L), tyK K s0 s1 t0 t1 aw ai ∧ (et_pl (eg_at G s0) 8 = some (.ref t0) ∧ et_pl (eg_at G s1) 8 = some (.ref t1)) ∧ c ≤ 4 ∧ (tyE K G t0 c T L ∧ tyE K G t1 c T L) ∧ tyX G aw c L
theorem ty.im1 (h : ty K G s0 s1 aw ai c i) (hH : et_H et_TT K G) (hx : et_ex K K') (hf : et_fr M K G G') (hk : tz_k M = true) (hR : ∀ t0 t1, et_pl (eg_at G s0) 8 = some (.ref t0) → et_pl (eg_at G s1) 8 = some (.ref t1) → K t0 = some 38 → K t1 = some 38 → ¬ t0 = t1 → ∀ j, j < 4 → et_pl (eg_at G' t0) j = et_pl (eg_at G t0) j ∧ et_pl (eg_at G' t1) j = et_pl (eg_at G t0) j) : tyI K' G' s0 s1 aw ai c := by
  unfold tz_k at hk
  rw [Bool.and_eq_true, Bool.and_eq_true, Bool.and_eq_true] at hk
  obtain ⟨q1, q3, q4, q5⟩ := hk
  obtain ⟨t0, t1, T0, T1, L0, L1, hK, ⟨p0, p1⟩, ⟨c4, i4⟩, ⟨e0, w0⟩, e1, w1⟩ := h
  have hR := hR t0 t1 p0 p1 hK.1.2.2.1 hK.1.2.2.2 hK.2.2.1
  exact ⟨t0, t1, T0, L0, hK.ex hx, ⟨(hf.2 s0 10 hK.1.1 8 (by simpa using q3)).trans p0, (hf.2 s1 10 hK.1.2.1 8 (by simpa using q3)).trans p1⟩, c4, ⟨e0.mv hx hH hf q1 (fun k hk => (hR k (by omega)).1), e0.mv hx hH hf q1 (fun k hk => (hR k (by omega)).2)⟩, w0.fr hK.2.1.1 c4 hf q4⟩
theorem tyI.im2 (h : tyI K G s0 s1 aw ai c) (hH : et_H et_TT K G) (hx : et_ex K K') (hf : et_fr M K G G') (hk : tw_k M = true) (hQ : ∀ k, k < 11900 → et_pl (eg_at G' aw) k = et_pl (eg_at G aw) k ∧ et_pl (eg_at G' ai) k = et_pl (eg_at G aw) k) : ty K' G' s0 s1 aw ai c c := by
  unfold tw_k at hk
  rw [Bool.and_eq_true, Bool.and_eq_true] at hk
  obtain ⟨q1, q2, q3⟩ := hk
  obtain ⟨t0, t1, T, L, hK, ⟨p0, p1⟩, c4, ⟨e0, e1⟩, w0⟩ := h
  exact ⟨t0, t1, T, T, L, L, hK.ex hx, ⟨(hf.2 s0 10 hK.1.1 8 (by simpa using q3)).trans p0, (hf.2 s1 10 hK.1.2.1 8 (by simpa using q3)).trans p1⟩, ⟨c4, c4⟩, ⟨e0.fr hK.1.2.2.1 hx hH hf q1 q2, w0.mv c4 (fun k hk => (hQ k hk).1)⟩, e1.fr hK.1.2.2.2 hx hH hf q1 q2, w0.mv c4 (fun k hk => (hQ k hk).2)⟩
/-- the class has gone back, the reference not yet -/
def tyB (K : et_K) (G : eg_G) (s0 s1 aw ai c i h : Nat) : Prop := ∃ (t0 t1 : Nat) (T0 T1 : Nat → Nat) (L0 L1 : Nat → List sp_L), tyK K s0 s1 t0 t1 aw ai ∧ (et_pl (eg_at G s0) 8 = some (.ref t0) ∧ et_pl (eg_at G s1) 8 = some (.ref t1)) ∧ ((if h = 0 then c else i) ≤ 4 ∧ i ≤ 4) ∧ (tyE K G t0 (if h = 0 then c else i) T0 L0 ∧ tyX G (if h = 0 then aw else ai) (if h = 0 then c else i) L0) ∧ tyE K G t1 i T1 L1 ∧ tyX G ai i L1
theorem ty.bk1 (hy : ty K G s0 s1 aw ai c i) (hH : et_H et_TT K G) (hx : et_ex K K') (hf : et_fr M K G G') (hk : tz_k M = true) (hR : ∀ t0 t1, et_pl (eg_at G s0) 8 = some (.ref t0) → et_pl (eg_at G s1) 8 = some (.ref t1) → K t0 = some 38 → K t1 = some 38 → ¬ t0 = t1 → ∀ j, j < 4 → et_pl (eg_at G' t0) j = (if h = 0 then et_pl (eg_at G t0) j else et_pl (eg_at G t1) j) ∧ et_pl (eg_at G' t1) j = et_pl (eg_at G t1) j) : tyB K' G' s0 s1 aw ai c i h := by
  unfold tz_k at hk
  rw [Bool.and_eq_true, Bool.and_eq_true, Bool.and_eq_true] at hk
  obtain ⟨q1, q3, q4, q5⟩ := hk
  obtain ⟨t0, t1, T0, T1, L0, L1, hK, ⟨p0, p1⟩, ⟨c4, i4⟩, ⟨e0, w0⟩, e1, w1⟩ := hy
  have hR := hR t0 t1 p0 p1 hK.1.2.2.1 hK.1.2.2.2 hK.2.2.1
  have a0 := (hf.2 s0 10 hK.1.1 8 (by simpa using q3)).trans p0
  have a1 := (hf.2 s1 10 hK.1.2.1 8 (by simpa using q3)).trans p1
  have b1 := e1.mv hx hH hf q1 (fun k hk => (hR k (by omega)).2)
  have b2 := w1.fr hK.2.1.2 i4 hf q5
  by_cases h0 : h = 0
  · subst h0
    exact ⟨t0, t1, T0, T1, L0, L1, hK.ex hx, ⟨a0, a1⟩, ⟨c4, i4⟩, ⟨e0.mv hx hH hf q1 (fun k hk => (hR k (by omega)).1), w0.fr hK.2.1.1 c4 hf q4⟩, b1, b2⟩
  · have e9 : (if h = 0 then c else i) = i := if_neg h0
    have e8 : (if h = 0 then aw else ai) = ai := if_neg h0
    refine ⟨t0, t1, T1, T1, L1, L1, hK.ex hx, ⟨a0, a1⟩, ⟨by rw [e9]; exact i4, i4⟩, ⟨by rw [e9]; exact e1.mv hx hH hf q1 (fun k hk => ((hR k (by omega)).1.trans (if_neg h0))), by rw [e9, e8]; exact b2⟩, b1, b2⟩
theorem tyB.bk2 (hy : tyB K G s0 s1 aw ai c i h) (hH : et_H et_TT K G) (hx : et_ex K K') (hf : et_fr M K G G') (hk : tw_k M = true) (hQ : ∀ k, k < 11900 → et_pl (eg_at G' aw) k = (if h = 0 then et_pl (eg_at G aw) k else et_pl (eg_at G ai) k) ∧ et_pl (eg_at G' ai) k = et_pl (eg_at G ai) k) : ty K' G' s0 s1 aw ai (if h = 0 then c else i) i := by
  unfold tw_k at hk
  rw [Bool.and_eq_true, Bool.and_eq_true] at hk
  obtain ⟨q1, q2, q3⟩ := hk
  obtain ⟨t0, t1, T0, T1, L0, L1, hK, ⟨p0, p1⟩, ⟨c4, i4⟩, ⟨e0, w0⟩, e1, w1⟩ := hy
  refine ⟨t0, t1, T0, T1, L0, L1, hK.ex hx, ⟨(hf.2 s0 10 hK.1.1 8 (by simpa using q3)).trans p0, (hf.2 s1 10 hK.1.2.1 8 (by simpa using q3)).trans p1⟩, ⟨c4, i4⟩, ⟨e0.fr hK.1.2.2.1 hx hH hf q1 q2, w0.mv c4 (fun k hk => (hQ k hk).1.trans ?_)⟩, e1.fr hK.1.2.2.2 hx hH hf q1 q2, w1.mv i4 (fun k hk => (hQ k hk).2)⟩
  by_cases h0 : h = 0
  · rw [if_pos h0, if_pos h0]
  · rw [if_neg h0, if_neg h0]
theorem ty.init (hK : tyK K s0 s1 t0 t1 aw ai) (p0 : et_pl (eg_at G s0) 8 = some (.ref t0)) (p1 : et_pl (eg_at G s1) 8 = some (.ref t1)) : ty K G s0 s1 aw ai 0 0 := ⟨t0, t1, fun _ => 0, fun _ => 0, fun _ => [], fun _ => [], hK, ⟨p0, p1⟩, ⟨by decide, by decide⟩, ⟨fun k hk => absurd hk (Nat.not_lt_zero k), fun k hk => absurd hk (Nat.not_lt_zero k)⟩, fun k hk => absurd hk (Nat.not_lt_zero k), fun k hk => absurd hk (Nat.not_lt_zero k)⟩
/-- EYES of one of the reference's two states -/
def zyM (G : eg_G) (a e : Nat) (V : Nat → evT) : Prop := ∀ n, n < 3 → (n < e → evm G a n (V n)) ∧ (e ≤ n → evz (V n))
theorem evm.mv {v : evT} {n' : Nat} (h : evm G a n v) (ho : evo v) (g : ∀ j, j < 23 → et_pl (eg_at G' a') (45 + 23 * n' + j) = et_pl (eg_at G a) (45 + 23 * n + j)) : evm G' a' n' v := evM.mv h g ho.1.1
theorem zyM.mv {V : Nat → evT} (h : zyM G a e V) (ho : ∀ n, n < 3 → evo (V n)) (g : ∀ j, 45 ≤ j → j ≤ 113 → et_pl (eg_at G' a') j = et_pl (eg_at G a) j) : zyM G' a' e V := fun n hn => ⟨fun he => ((h n hn).1 he).mv (ho n hn) (fun j hj => g _ (by omega) (by omega)), (h n hn).2⟩
theorem zyM.fr {V : Nat → evT} (h : zyM G a e V) (ho : ∀ n, n < 3 → evo (V n)) (ka : K a = some t) (hf : et_fr M K G G') (hM : rg_k M t 45 113 = true) : zyM G' a e V := h.mv ho (fun j j1 j2 => hf.2 a t ka j (rg_mm hM j1 j2))
theorem zyM.co {V V' : Nat → evT} (h : zyM G a e V) (hV : ∀ n, n < 3 → V n = V' n) : zyM G a e V' := fun n hn => by
  rw [← hV n hn]
  exact h n hn
theorem zyM.up {V : Nat → evT} {v : evT} (h : zyM G a e V) (ho : ∀ n, n < 3 → evo (V n)) (hn : n < e) (hw : ∀ j, (j < 45 + 23 * n ∨ 68 + 23 * n ≤ j) → et_pl (eg_at G' a) j = et_pl (eg_at G a) j) (hv : evm G' a n v) : zyM G' a e (vup V n v) := fun k hk => by
  unfold vup
  by_cases ek : k = n
  · rw [if_pos ek, ek]
    exact ⟨fun _ => hv, fun h => by omega⟩
  · rw [if_neg ek]
    exact ⟨fun he => ((h k hk).1 he).mv (ho k hk) (fun j hj => hw _ (by omega)), (h k hk).2⟩
/-- both sides' EYES -/
def zy (K : et_K) (G : eg_G) (th s0 s1 aw ai e ei : Nat) : Prop := ∃ (ya yb : Nat) (O : Nat → Nat) (A : Nat → Nat → Nat) (V : Nat → evT), (ezK K ya yb O A ∧ K aw = some 46 ∧ K ai = some 47) ∧ ez G th s0 s1 ya yb O A V ∧ (∀ n, n < 6 → evo (V n)) ∧ zyM G aw e V ∧ zyM G ai ei (fun n => V (3 + n))
def zy_k (M : et_M) : Bool := ez_k M && (rg_k M 46 45 113 && rg_k M 47 45 113)
theorem zy.fr (h : zy K G th s0 s1 aw ai e ei) (k_th : K th = some 12) (k_s0 : K s0 = some 10) (k_s1 : K s1 = some 10) (hx : et_ex K K') (hf : et_fr M K G G') (hk : zy_k M = true) : zy K' G' th s0 s1 aw ai e ei := by
  unfold zy_k at hk
  rw [Bool.and_eq_true, Bool.and_eq_true] at hk
  obtain ⟨q1, q2, q3⟩ := hk
  obtain ⟨ya, yb, O, A, V, ⟨h1, h2, h3⟩, h4, h5, h6, h7⟩ := h
  exact ⟨ya, yb, O, A, V, ⟨h1.ex hx, hx _ _ h2, hx _ _ h3⟩, h4.fr h1 k_th k_s0 k_s1 hf q1, h5, h6.fr (fun n hn => h5 n (by omega)) h2 hf q2, h7.fr (fun n hn => h5 (3 + n) (by omega)) h3 hf q3⟩
end VUA
end
section
/-! PHASE D: takeFrom, image, back: the TURNERS -/
section VWA
variable {d2 d a s da sa th s0 s1 h : Nat} {g : Nat → Option Value}
theorem pm_x5 {i : Nat} {K : et_K} {G : eg_G} (hH : et_H et_TT K G) (k_a : K a = some 10) (k_s : K s = some 10) (k_da : K da = some 38) (k_sa : K sa = some 38) (hda : et_pl (eg_at G a) 8 = some (.ref da)) (hsa : et_pl (eg_at G s) 8 = some (.ref sa)) (hne : ¬ sa = da) (hq : cpk da sa 4 4 g G) (hi : i ≤ 6) : et_go none (d + 2) 104 158 [some (.ref a), some (.ref s), some (.int (Int32.ofNat i))] [] G 0 0 (fun u => cpk da sa 4 4 g u.2.1) := by
  induction hm : 6 - i using Nat.strongRecOn generalizing i K G with
  | _ z ih =>
    refine hs_iload (i := 2) (p := 159) (by decide +kernel) rfl ?_
    refine hs_k (x := Int32.ofNat 6) (p := 161) (by decide +kernel) ?_
    refine hs_br2n (c := .ge) (t := 182) (f := 164) (by decide +kernel) (by omega) (by omega) (fun (c161 : 6 ≤ i) => ?_) (fun (c161 : ¬ (6 ≤ i)) => ?_)
    · refine hs_vret (by decide +kernel) ?_
      exact hq
    · refine hs_aload (i := 0) (p := 165) (by decide +kernel) rfl ?_
      refine ht_getr (T := et_TT) (t := 10) (ci := 8) (f := 10) (p := 168) (by decide +kernel) rfl rfl hH k_a (fun a165 k_a165 e165 => ?_)
      refine hs_iload (i := 2) (p := 169) (by decide +kernel) rfl ?_
      refine hs_aload (i := 1) (p := 170) (by decide +kernel) rfl ?_
      refine ht_getr (T := et_TT) (t := 10) (ci := 8) (f := 10) (p := 173) (by decide +kernel) rfl rfl hH k_s (fun a170 k_a170 e170 => ?_)
      refine hs_iload (i := 2) (p := 174) (by decide +kernel) rfl ?_
      refine ht_aald (T := et_TT) (t := 39) (N := 6) (kd := 8) (m := 5) (p := 175) (by decide +kernel) rfl rfl hH k_a170 (by omega) (by omega) (by decide) (fun v174 h174 e174 => ?_)
      refine ht_aasa (t := 39) (u := 2) (N := 6) (kd := 8) (cj := 0) (p := 176) (by decide +kernel) ⟨rfl, rfl⟩ (by decide +kernel) hH k_a165 (by omega) h174 (fun G175 hH f175 e175 he => ?_)
      have hda := ((hb_wk f175 (by omega)).2 a 10 k_a 8 rfl).trans hda
      have hsa := ((hb_wk f175 (by omega)).2 s 10 k_s 8 rfl).trans hsa
      have hq := hq.fr k_da k_sa (hb_wk f175 (by omega)) rfl
      refine hs_iinc1 (i := 2) (p := 179) (by decide +kernel) rfl (Nat.le_of_ble_eq_true rfl) ?_
      refine hs_goto (p := 158) (by decide +kernel) ?_
      show et_go none (d + 2) 104 158 [some (.ref a), some (.ref s), some (.int (Int32.ofNat (i + 1)))] [] _ 0 0 _
      exact ih (6 - (i + 1)) (by omega) (i := (i + 1)) hH k_a k_s k_da k_sa hda hsa hq (by omega) rfl
theorem pm_x4 {i : Nat} {K : et_K} {G : eg_G} (hH : et_H et_TT K G) (k_a : K a = some 10) (k_s : K s = some 10) (k_da : K da = some 38) (k_sa : K sa = some 38) (hda : et_pl (eg_at G a) 8 = some (.ref da)) (hsa : et_pl (eg_at G s) 8 = some (.ref sa)) (hne : ¬ sa = da) (hq : cpk da sa i 4 g G) (hi : i ≤ 4) : et_go none (d + 2) 104 125 [some (.ref a), some (.ref s), some (.int (Int32.ofNat i))] [] G 0 0 (fun u => cpk da sa 4 4 g u.2.1) := by
  induction hm : 4 - i using Nat.strongRecOn generalizing i K G with
  | _ z ih =>
    refine hs_iload (i := 2) (p := 126) (by decide +kernel) rfl ?_
    refine hs_k (x := Int32.ofNat 4) (p := 127) (by decide +kernel) ?_
    refine hs_br2n (c := .ge) (t := 148) (f := 130) (by decide +kernel) (by omega) (by omega) (fun (c127 : 4 ≤ i) => ?_) (fun (c127 : ¬ (4 ≤ i)) => ?_)
    · refine hs_aload (i := 0) (p := 149) (by decide +kernel) rfl ?_
      refine hs_aload (i := 1) (p := 150) (by decide +kernel) rfl ?_
      refine ht_getn (T := et_TT) (t := 10) (ci := 8) (f := 9) (p := 153) (by decide +kernel) rfl rfl hH k_s (fun c150 h150 e150 => ?_)
      refine ht_puta (T := et_TT) (t := 10) (ci := 8) (f := 9) (p := 156) (ty := .int) (by decide +kernel) rfl rfl rfl rfl (by decide +kernel) hH k_a (hi_nv (by omega) (by omega)) (fun G153 hH f153 e153 he => ?_)
      have hda := (f153.2 a 10 k_a 8 rfl).trans hda
      have hsa := (f153.2 s 10 k_s 8 rfl).trans hsa
      have hq := hq.fr k_da k_sa f153 rfl
      refine hs_k (x := Int32.ofNat 0) (p := 157) (by decide +kernel) ?_
      refine hs_istore (i := 2) (p := 158) (by decide +kernel) (Nat.le_of_ble_eq_true rfl) ?_
      show et_go none (d + 2) 104 158 [some (.ref a), some (.ref s), some (.int (Int32.ofNat 0))] [] _ 0 0 _
      obtain rfl : i = 4 := by omega
      exact pm_x5 (i := 0) hH k_a k_s k_da k_sa hda hsa hne hq (by omega)
    · refine hs_aload (i := 0) (p := 131) (by decide +kernel) rfl ?_
      refine ht_getr (T := et_TT) (t := 10) (ci := 8) (f := 8) (p := 134) (by decide +kernel) rfl rfl hH k_a (fun a131 k_a131 e131 => ?_)
      obtain rfl : da = a131 := Value.ref.inj (Option.some.inj (hda.symm.trans e131))
      refine hs_iload (i := 2) (p := 135) (by decide +kernel) rfl ?_
      refine hs_aload (i := 1) (p := 136) (by decide +kernel) rfl ?_
      refine ht_getr (T := et_TT) (t := 10) (ci := 8) (f := 8) (p := 139) (by decide +kernel) rfl rfl hH k_s (fun a136 k_a136 e136 => ?_)
      obtain rfl : sa = a136 := Value.ref.inj (Option.some.inj (hsa.symm.trans e136))
      refine hs_iload (i := 2) (p := 140) (by decide +kernel) rfl ?_
      refine ht_aald (T := et_TT) (t := 38) (N := 4) (kd := 7) (m := 3) (p := 141) (by decide +kernel) rfl rfl hH k_sa (by omega) (by omega) (by decide) (fun v140 h140 e140 => ?_)
      refine ht_aasa (t := 38) (u := 11) (N := 4) (kd := 7) (cj := 9) (p := 142) (by decide +kernel) ⟨rfl, rfl⟩ (by decide +kernel) hH k_da (by omega) h140 (fun G141 hH f141 e141 he => ?_)
      have hq := hq.st (fun j => by rw [he sa hne]) (fun j hj => f141.2 da 38 k_da j (hb_n1 (fun h => hj h.2))) (by omega) (e141.trans e140.symm)
      have hda := ((hb_wk f141 (by omega)).2 a 10 k_a 8 rfl).trans hda
      have hsa := ((hb_wk f141 (by omega)).2 s 10 k_s 8 rfl).trans hsa
      refine hs_iinc1 (i := 2) (p := 145) (by decide +kernel) rfl (Nat.le_of_ble_eq_true rfl) ?_
      refine hs_goto (p := 125) (by decide +kernel) ?_
      show et_go none (d + 2) 104 125 [some (.ref a), some (.ref s), some (.int (Int32.ofNat (i + 1)))] [] _ 0 0 _
      exact ih (4 - (i + 1)) (by omega) (i := (i + 1)) hH k_a k_s k_da k_sa hda hsa hq (by omega) rfl
theorem pm_x3 {i : Nat} {K : et_K} {G : eg_G} (hH : et_H et_TT K G) (k_a : K a = some 10) (k_s : K s = some 10) (k_da : K da = some 38) (k_sa : K sa = some 38) (hda : et_pl (eg_at G a) 8 = some (.ref da)) (hsa : et_pl (eg_at G s) 8 = some (.ref sa)) (hne : ¬ sa = da) (hq : cpk da sa 0 4 g G) (hi : i ≤ 3) : et_go none (d + 2) 104 89 [some (.ref a), some (.ref s), some (.int (Int32.ofNat i))] [] G 0 0 (fun u => cpk da sa 4 4 g u.2.1) := by
  induction hm : 3 - i using Nat.strongRecOn generalizing i K G with
  | _ z ih =>
    refine hs_iload (i := 2) (p := 90) (by decide +kernel) rfl ?_
    refine hs_k (x := Int32.ofNat 3) (p := 91) (by decide +kernel) ?_
    refine hs_br2n (c := .ge) (t := 115) (f := 94) (by decide +kernel) (by omega) (by omega) (fun (c91 : 3 ≤ i) => ?_) (fun (c91 : ¬ (3 ≤ i)) => ?_)
    · refine hs_aload (i := 0) (p := 116) (by decide +kernel) rfl ?_
      refine hs_aload (i := 1) (p := 117) (by decide +kernel) rfl ?_
      refine ht_getn (T := et_TT) (t := 10) (ci := 8) (f := 7) (p := 120) (by decide +kernel) rfl rfl hH k_s (fun c117 h117 e117 => ?_)
      refine ht_puta (T := et_TT) (t := 10) (ci := 8) (f := 7) (p := 123) (ty := .int) (by decide +kernel) rfl rfl rfl rfl (by decide +kernel) hH k_a (hi_nv (by omega) (by omega)) (fun G120 hH f120 e120 he => ?_)
      have hda := (f120.2 a 10 k_a 8 rfl).trans hda
      have hsa := (f120.2 s 10 k_s 8 rfl).trans hsa
      have hq := hq.fr k_da k_sa f120 rfl
      refine hs_k (x := Int32.ofNat 0) (p := 124) (by decide +kernel) ?_
      refine hs_istore (i := 2) (p := 125) (by decide +kernel) (Nat.le_of_ble_eq_true rfl) ?_
      show et_go none (d + 2) 104 125 [some (.ref a), some (.ref s), some (.int (Int32.ofNat 0))] [] _ 0 0 _
      exact pm_x4 (i := 0) hH k_a k_s k_da k_sa hda hsa hne hq (by omega)
    · refine hs_aload (i := 0) (p := 95) (by decide +kernel) rfl ?_
      refine ht_getr (T := et_TT) (t := 10) (ci := 8) (f := 6) (p := 98) (by decide +kernel) rfl rfl hH k_a (fun a95 k_a95 e95 => ?_)
      refine hs_iload (i := 2) (p := 99) (by decide +kernel) rfl ?_
      refine ht_aald (T := et_TT) (t := 40) (N := 3) (kd := 6) (m := 2) (p := 100) (by decide +kernel) rfl rfl hH k_a95 (by omega) (by omega) (by decide) (fun v99 h99 e99 => ?_)
      obtain ⟨b99, rfl, k_b99⟩ := hi_ref h99
      refine hs_aload (i := 1) (p := 101) (by decide +kernel) rfl ?_
      refine ht_getr (T := et_TT) (t := 10) (ci := 8) (f := 6) (p := 104) (by decide +kernel) rfl rfl hH k_s (fun a101 k_a101 e101 => ?_)
      refine hs_iload (i := 2) (p := 105) (by decide +kernel) rfl ?_
      refine ht_aald (T := et_TT) (t := 40) (N := 3) (kd := 6) (m := 2) (p := 106) (by decide +kernel) rfl rfl hH k_a101 (by omega) (by omega) (by decide) (fun v105 h105 e105 => ?_)
      obtain ⟨b105, rfl, k_b105⟩ := hi_ref h105
      refine ht_callv (T := et_TT) (t := 3) (mi := 35) (na := 1) (ci := 1) (lk := 3) (lm := 3) (L0 := eg_en (eg_mL 35) [.ref b99, .ref b105]) (by decide +kernel) rfl hH k_b99 rfl rfl rfl rfl rfl (by rw [show eg_mL 35 = 3 from by decide +kernel]; first | done | rfl) ?_
      refine (ek_c5 (K, [], G) [.ref b99, .ref b105] _ hH (by show 1 ≤ _; omega) rfl (ht_ac (.inr ⟨by decide, _, rfl, k_b99⟩) (ht_ac (.inr ⟨by decide, _, rfl, k_b105⟩) ht_an))).mono (fun u hu => hs_cbn hu (fun K106 G106 c106 s106 x106 f106 hH cl106 sl106 => ?_))
      obtain rfl : c106 = 0 := Nat.le_zero.mp cl106
      obtain rfl : s106 = 0 := Nat.le_zero.mp sl106
      have hda := (f106.2 a 10 k_a 8 rfl).trans hda
      have hsa := (f106.2 s 10 k_s 8 rfl).trans hsa
      have hq := hq.fr k_da k_sa f106 rfl
      have k_a := x106 _ _ k_a
      have k_s := x106 _ _ k_s
      have k_da := x106 _ _ k_da
      have k_sa := x106 _ _ k_sa
      have k_a95 := x106 _ _ k_a95
      have k_b99 := x106 _ _ k_b99
      have k_a101 := x106 _ _ k_a101
      have k_b105 := x106 _ _ k_b105
      show et_go none _ 104 109 _ [] _ 0 0 _
      refine hs_iinc1 (i := 2) (p := 112) (by decide +kernel) rfl (Nat.le_of_ble_eq_true rfl) ?_
      refine hs_goto (p := 89) (by decide +kernel) ?_
      show et_go none (d + 2) 104 89 [some (.ref a), some (.ref s), some (.int (Int32.ofNat (i + 1)))] [] _ 0 0 _
      exact ih (3 - (i + 1)) (by omega) (i := (i + 1)) hH k_a k_s k_da k_sa hda hsa hq (by omega) rfl
theorem pm_x2 {i : Nat} {K : et_K} {G : eg_G} (hH : et_H et_TT K G) (k_a : K a = some 10) (k_s : K s = some 10) (k_da : K da = some 38) (k_sa : K sa = some 38) (hda : et_pl (eg_at G a) 8 = some (.ref da)) (hsa : et_pl (eg_at G s) 8 = some (.ref sa)) (hne : ¬ sa = da) (hq : cpk da sa 0 4 g G) (hi : i ≤ 20) : et_go none (d + 2) 104 43 [some (.ref a), some (.ref s), some (.int (Int32.ofNat i))] [] G 0 0 (fun u => cpk da sa 4 4 g u.2.1) := by
  induction hm : 20 - i using Nat.strongRecOn generalizing i K G with
  | _ z ih =>
    refine hs_iload (i := 2) (p := 44) (by decide +kernel) rfl ?_
    refine hs_k (x := Int32.ofNat 20) (p := 46) (by decide +kernel) ?_
    refine hs_br2n (c := .ge) (t := 79) (f := 49) (by decide +kernel) (by omega) (by omega) (fun (c46 : 20 ≤ i) => ?_) (fun (c46 : ¬ (20 ≤ i)) => ?_)
    · refine hs_aload (i := 0) (p := 80) (by decide +kernel) rfl ?_
      refine hs_aload (i := 1) (p := 81) (by decide +kernel) rfl ?_
      refine ht_getn (T := et_TT) (t := 10) (ci := 8) (f := 5) (p := 84) (by decide +kernel) rfl rfl hH k_s (fun c81 h81 e81 => ?_)
      refine ht_puta (T := et_TT) (t := 10) (ci := 8) (f := 5) (p := 87) (ty := .int) (by decide +kernel) rfl rfl rfl rfl (by decide +kernel) hH k_a (hi_nv (by omega) (by omega)) (fun G84 hH f84 e84 he => ?_)
      have hda := (f84.2 a 10 k_a 8 rfl).trans hda
      have hsa := (f84.2 s 10 k_s 8 rfl).trans hsa
      have hq := hq.fr k_da k_sa f84 rfl
      refine hs_k (x := Int32.ofNat 0) (p := 88) (by decide +kernel) ?_
      refine hs_istore (i := 2) (p := 89) (by decide +kernel) (Nat.le_of_ble_eq_true rfl) ?_
      show et_go none (d + 2) 104 89 [some (.ref a), some (.ref s), some (.int (Int32.ofNat 0))] [] _ 0 0 _
      exact pm_x3 (i := 0) hH k_a k_s k_da k_sa hda hsa hne hq (by omega)
    · refine hs_aload (i := 0) (p := 50) (by decide +kernel) rfl ?_
      refine ht_getr (T := et_TT) (t := 10) (ci := 8) (f := 3) (p := 53) (by decide +kernel) rfl rfl hH k_a (fun a50 k_a50 e50 => ?_)
      refine hs_iload (i := 2) (p := 54) (by decide +kernel) rfl ?_
      refine hs_aload (i := 1) (p := 55) (by decide +kernel) rfl ?_
      refine ht_getr (T := et_TT) (t := 10) (ci := 8) (f := 3) (p := 58) (by decide +kernel) rfl rfl hH k_s (fun a55 k_a55 e55 => ?_)
      refine hs_iload (i := 2) (p := 59) (by decide +kernel) rfl ?_
      refine ht_ild (T := et_TT) (t := 17) (N := 20) (p := 60) (by decide +kernel) rfl hH k_a55 (by omega) (by decide) (fun x59 s59 e59 => ?_)
      refine ht_ist (M := [(17, 0, 100000)]) (T := et_TT) (t := 17) (N := 20) (p := 61) (by decide +kernel) rfl rfl (by decide) hH k_a50 (by omega) (by decide) (fun s hs => absurd hs List.not_mem_nil) (hb_mm (by omega)) (fun G60 hH f60 => ?_)
      have hda := (f60.2 a 10 k_a 8 rfl).trans hda
      have hsa := (f60.2 s 10 k_s 8 rfl).trans hsa
      have hq := hq.fr k_da k_sa f60 rfl
      refine hs_aload (i := 0) (p := 62) (by decide +kernel) rfl ?_
      refine ht_getr (T := et_TT) (t := 10) (ci := 8) (f := 4) (p := 65) (by decide +kernel) rfl rfl hH k_a (fun a62 k_a62 e62 => ?_)
      refine hs_iload (i := 2) (p := 66) (by decide +kernel) rfl ?_
      refine hs_aload (i := 1) (p := 67) (by decide +kernel) rfl ?_
      refine ht_getr (T := et_TT) (t := 10) (ci := 8) (f := 4) (p := 70) (by decide +kernel) rfl rfl hH k_s (fun a67 k_a67 e67 => ?_)
      refine hs_iload (i := 2) (p := 71) (by decide +kernel) rfl ?_
      refine ht_zln (t := 27) (N := 20) (m := 19) (p := 72) (by decide +kernel) rfl hH k_a67 (by omega) (by omega) (by decide) (fun c71 h71 => ?_)
      refine ht_zst (M := [(27, 0, 100000)]) (t := 27) (N := 20) (p := 73) (by decide +kernel) rfl rfl hH k_a62 (by omega) (by decide) (by omega) (hb_mm (by omega)) (fun G72 hH f72 => ?_)
      have hda := (f72.2 a 10 k_a 8 rfl).trans hda
      have hsa := (f72.2 s 10 k_s 8 rfl).trans hsa
      have hq := hq.fr k_da k_sa f72 rfl
      refine hs_iinc1 (i := 2) (p := 76) (by decide +kernel) rfl (Nat.le_of_ble_eq_true rfl) ?_
      refine hs_goto (p := 43) (by decide +kernel) ?_
      show et_go none (d + 2) 104 43 [some (.ref a), some (.ref s), some (.int (Int32.ofNat (i + 1)))] [] _ 0 0 _
      exact ih (20 - (i + 1)) (by omega) (i := (i + 1)) hH k_a k_s k_da k_sa hda hsa hq (by omega) rfl
theorem pm_x1 {i : Nat} {K : et_K} {G : eg_G} (hH : et_H et_TT K G) (k_a : K a = some 10) (k_s : K s = some 10) (k_da : K da = some 38) (k_sa : K sa = some 38) (hda : et_pl (eg_at G a) 8 = some (.ref da)) (hsa : et_pl (eg_at G s) 8 = some (.ref sa)) (hne : ¬ sa = da) (hq : cpk da sa 0 4 g G) (hi : i ≤ 4) : et_go none (d + 2) 104 10 [some (.ref a), some (.ref s), some (.int (Int32.ofNat i))] [] G 0 0 (fun u => cpk da sa 4 4 g u.2.1) := by
  induction hm : 4 - i using Nat.strongRecOn generalizing i K G with
  | _ z ih =>
    refine hs_iload (i := 2) (p := 11) (by decide +kernel) rfl ?_
    refine hs_k (x := Int32.ofNat 4) (p := 12) (by decide +kernel) ?_
    refine hs_br2n (c := .ge) (t := 33) (f := 15) (by decide +kernel) (by omega) (by omega) (fun (c12 : 4 ≤ i) => ?_) (fun (c12 : ¬ (4 ≤ i)) => ?_)
    · refine hs_aload (i := 0) (p := 34) (by decide +kernel) rfl ?_
      refine hs_aload (i := 1) (p := 35) (by decide +kernel) rfl ?_
      refine ht_getn (T := et_TT) (t := 10) (ci := 8) (f := 2) (p := 38) (by decide +kernel) rfl rfl hH k_s (fun c35 h35 e35 => ?_)
      refine ht_puta (T := et_TT) (t := 10) (ci := 8) (f := 2) (p := 41) (ty := .int) (by decide +kernel) rfl rfl rfl rfl (by decide +kernel) hH k_a (hi_nv (by omega) (by omega)) (fun G38 hH f38 e38 he => ?_)
      have hda := (f38.2 a 10 k_a 8 rfl).trans hda
      have hsa := (f38.2 s 10 k_s 8 rfl).trans hsa
      have hq := hq.fr k_da k_sa f38 rfl
      refine hs_k (x := Int32.ofNat 0) (p := 42) (by decide +kernel) ?_
      refine hs_istore (i := 2) (p := 43) (by decide +kernel) (Nat.le_of_ble_eq_true rfl) ?_
      show et_go none (d + 2) 104 43 [some (.ref a), some (.ref s), some (.int (Int32.ofNat 0))] [] _ 0 0 _
      exact pm_x2 (i := 0) hH k_a k_s k_da k_sa hda hsa hne hq (by omega)
    · refine hs_aload (i := 0) (p := 16) (by decide +kernel) rfl ?_
      refine ht_getr (T := et_TT) (t := 10) (ci := 8) (f := 1) (p := 19) (by decide +kernel) rfl rfl hH k_a (fun a16 k_a16 e16 => ?_)
      refine hs_iload (i := 2) (p := 20) (by decide +kernel) rfl ?_
      refine hs_aload (i := 1) (p := 21) (by decide +kernel) rfl ?_
      refine ht_getr (T := et_TT) (t := 10) (ci := 8) (f := 1) (p := 24) (by decide +kernel) rfl rfl hH k_s (fun a21 k_a21 e21 => ?_)
      refine hs_iload (i := 2) (p := 25) (by decide +kernel) rfl ?_
      refine ht_aald (T := et_TT) (t := 37) (N := 4) (kd := 5) (m := 3) (p := 26) (by decide +kernel) rfl rfl hH k_a21 (by omega) (by omega) (by decide) (fun v25 h25 e25 => ?_)
      refine ht_aasa (t := 37) (u := 8) (N := 4) (kd := 5) (cj := 6) (p := 27) (by decide +kernel) ⟨rfl, rfl⟩ (by decide +kernel) hH k_a16 (by omega) h25 (fun G26 hH f26 e26 he => ?_)
      have hda := ((hb_wk f26 (by omega)).2 a 10 k_a 8 rfl).trans hda
      have hsa := ((hb_wk f26 (by omega)).2 s 10 k_s 8 rfl).trans hsa
      have hq := hq.fr k_da k_sa (hb_wk f26 (by omega)) rfl
      refine hs_iinc1 (i := 2) (p := 30) (by decide +kernel) rfl (Nat.le_of_ble_eq_true rfl) ?_
      refine hs_goto (p := 10) (by decide +kernel) ?_
      show et_go none (d + 2) 104 10 [some (.ref a), some (.ref s), some (.int (Int32.ofNat (i + 1)))] [] _ 0 0 _
      exact ih (4 - (i + 1)) (by omega) (i := (i + 1)) hH k_a k_s k_da k_sa hda hsa hq (by omega) rfl
theorem ft_takeT {K : et_K} {G : eg_G} (hH : et_H et_TT K G) (k_a : K a = some 10) (k_s : K s = some 10) (k_da : K da = some 38) (k_sa : K sa = some 38) (hda : et_pl (eg_at G a) 8 = some (.ref da)) (hsa : et_pl (eg_at G s) 8 = some (.ref sa)) (hne : ¬ sa = da) (hq : cpk da sa 0 4 g G) (hd : 2 ≤ d2) : et_go none d2 104 0 (eg_en (eg_mL 104) [.ref a, .ref s]) [] G 0 0 (fun u => cpk da sa 4 4 g u.2.1) := by
  obtain ⟨d, rfl⟩ : ∃ d, d2 = d + 2 := ⟨d2 - 2, by omega⟩
  rw [show eg_mL 104 = 3 from by decide +kernel]
  show et_go none (d + 2) 104 0 [some (.ref a), some (.ref s), none] [] G 0 0 _
  refine hs_aload (i := 0) (p := 1) (by decide +kernel) rfl ?_
  refine hs_aload (i := 1) (p := 2) (by decide +kernel) rfl ?_
  refine ht_getn (T := et_TT) (t := 10) (ci := 8) (f := 0) (p := 5) (by decide +kernel) rfl rfl hH k_s (fun c2 h2 e2 => ?_)
  refine ht_puta (T := et_TT) (t := 10) (ci := 8) (f := 0) (p := 8) (ty := .int) (by decide +kernel) rfl rfl rfl rfl (by decide +kernel) hH k_a (hi_nv (by omega) (by omega)) (fun G5 hH f5 e5 he => ?_)
  have hda := (f5.2 a 10 k_a 8 rfl).trans hda
  have hsa := (f5.2 s 10 k_s 8 rfl).trans hsa
  have hq := hq.fr k_da k_sa f5 rfl
  refine hs_k (x := Int32.ofNat 0) (p := 9) (by decide +kernel) ?_
  refine hs_istore (i := 2) (p := 10) (by decide +kernel) (Nat.le_of_ble_eq_true rfl) ?_
  show et_go none (d + 2) 104 10 [some (.ref a), some (.ref s), some (.int (Int32.ofNat 0))] [] _ 0 0 _
  exact pm_x1 (i := 0) hH k_a k_s k_da k_sa hda hsa hne hq (by omega)
variable {t0 t1 ra0 ca0 rc0 ec0 cc0 ra1 ca1 rc1 ec1 cc1 : Nat}
theorem fc_imageT {K : et_K} {G : eg_G} (hH : et_H et_TT K G) (hC : ci_O K G th s0 s1 ra0 ca0 rc0 ec0 cc0 ra1 ca1 rc1 ec1 cc1) (m08 : et_pl (eg_at G s0) 8 = some (.ref t0)) (m18 : et_pl (eg_at G s1) 8 = some (.ref t1)) (k_t0 : K t0 = some 38) (k_t1 : K t1 = some 38) (hl : ¬ t0 = t1) (hd : 3 ≤ d2) : et_go none d2 124 0 (eg_en (eg_mL 124) [.ref th]) [] G 0 0 (fun u => ∀ j, j < 4 → et_pl (eg_at u.2.1 t0) j = et_pl (eg_at G t0) j ∧ et_pl (eg_at u.2.1 t1) j = et_pl (eg_at G t0) j) := by
  obtain ⟨d, rfl⟩ : ∃ d, d2 = d + 3 := ⟨d2 - 3, by omega⟩
  have k_th := hC.1
  have k_s0 := hC.2.2.2.1.1.1
  have k_s1 := hC.2.2.2.2.1.1
  have h0 := hC.2.1.1
  have h1 := hC.2.1.2
  have hv : ∀ j, j < 4 → et_pl (eg_at G t0) j = et_pl (eg_at G t0) j ∧ et_pl (eg_at G t1) j = et_pl (eg_at G t1) j := fun _ _ => ⟨rfl, rfl⟩
  rw [show eg_mL 124 = 1 from by decide +kernel]
  show et_go none (d + 3) 124 0 [some (.ref th)] [] G 0 0 _
  have lt_th := (hH.2.2 _ _ k_th).1
  have lt_s0 := (hH.2.2 _ _ k_s0).1
  have lt_s1 := (hH.2.2 _ _ k_s1).1
  have lt_t0 := (hH.2.2 _ _ k_t0).1
  have lt_t1 := (hH.2.2 _ _ k_t1).1
  refine hs_aload (i := 0) (p := 1) (by decide +kernel) rfl ?_
  refine hf_get (T := et_TT) (t := 12) (ci := 10) (f := 1) (p := 4) (by decide +kernel) rfl hH k_th h1 ?_
  refine hs_aload (i := 0) (p := 5) (by decide +kernel) rfl ?_
  refine hf_get (T := et_TT) (t := 12) (ci := 10) (f := 0) (p := 8) (by decide +kernel) rfl hH k_th h0 ?_
  have hH1 := hH
  refine ht_callv (T := et_TT) (t := 10) (mi := 104) (na := 1) (ci := 8) (lk := 1) (lm := 3) (L0 := eg_en (eg_mL 104) [.ref s1, .ref s0]) (by decide +kernel) rfl hH k_s1 rfl rfl rfl rfl rfl (by rw [show eg_mL 104 = 3 from by decide +kernel]; first | done | rfl) ?_
  refine ((hc_takeI (a := s1) (s := s0) hH hC.2.2.2.1 hC.2.2.2.2 hC.2.2.1 (by omega)).and (ft_takeT (a := s1) (s := s0) (da := t1) (sa := t0) (g := (fun j => et_pl (eg_at G t0) j)) hH k_s1 k_s0 k_t1 k_t0 m18 m08 hl (fun n hn => ⟨fun h => absurd h (Nat.not_lt_zero n), (hv n hn).1⟩) (by omega))).mono (fun u hu => tn_cb (P := fun g9 => cpk t1 t0 4 4 (fun j => et_pl (eg_at G t0) j) g9) hu (fun K8 G8 x8 f8 hH hP => ?_))
  have hv : ∀ j, j < 4 → et_pl (eg_at G8 t0) j = et_pl (eg_at G t0) j ∧ et_pl (eg_at G8 t1) j = et_pl (eg_at G t0) j := fun j hj => ⟨(hP j hj).2, (hP j hj).1 hj⟩
  have k_th := x8 _ _ k_th
  have lt_th := (hH.2.2 _ _ k_th).1
  have k_s0 := x8 _ _ k_s0
  have lt_s0 := (hH.2.2 _ _ k_s0).1
  have k_s1 := x8 _ _ k_s1
  have lt_s1 := (hH.2.2 _ _ k_s1).1
  have k_t0 := x8 _ _ k_t0
  have lt_t0 := (hH.2.2 _ _ k_t0).1
  have k_t1 := x8 _ _ k_t1
  have lt_t1 := (hH.2.2 _ _ k_t1).1
  show et_go none _ 124 11 _ [] _ _ _ _
  refine hs_aload (i := 0) (p := 12) (by decide +kernel) rfl ?_
  refine hs_k (x := Int32.ofNat 1) (p := 13) (by decide +kernel) ?_
  have hHo := hH
  refine hf_put (T := et_TT) (t := 12) (ci := 10) (f := 2) (p := 16) (ty := .boolean) (by decide +kernel) rfl rfl rfl (by decide +kernel) rfl hH k_th (hi_nv (by omega) (by omega)) (fun G13 hH x13 e13 => ?_)
  have lt_th := Nat.lt_of_lt_of_le lt_th x13.1
  have lt_s0 := Nat.lt_of_lt_of_le lt_s0 x13.1
  have lt_s1 := Nat.lt_of_lt_of_le lt_s1 x13.1
  have lt_t0 := Nat.lt_of_lt_of_le lt_t0 x13.1
  have lt_t1 := Nat.lt_of_lt_of_le lt_t1 x13.1
  have hv := fun (j : Nat) (hj : j < 4) => And.intro ((x13.2 t0 j (hHo.2.2 _ _ k_t0).1 (fun h => hi_ne k_t0 k_th (by decide) h.1)).trans (hv j hj).1) ((x13.2 t1 j (hHo.2.2 _ _ k_t1).1 (fun h => hi_ne k_t1 k_th (by decide) h.1)).trans (hv j hj).2)
  refine hs_vret (by decide +kernel) ?_
  exact hv
theorem fc_backT {K : et_K} {G : eg_G} (hH : et_H et_TT K G) (hC : ci_O K G th s0 s1 ra0 ca0 rc0 ec0 cc0 ra1 ca1 rc1 ec1 cc1) (m08 : et_pl (eg_at G s0) 8 = some (.ref t0)) (m18 : et_pl (eg_at G s1) 8 = some (.ref t1)) (k_t0 : K t0 = some 38) (k_t1 : K t1 = some 38) (hl : ¬ t0 = t1) (hh : ph_at G th h) (hh1 : h ≤ 1) (hd : 3 ≤ d2) : et_go none d2 125 0 (eg_en (eg_mL 125) [.ref th]) [] G 0 0 (fun u => ∀ j, j < 4 → et_pl (eg_at u.2.1 t0) j = (if h = 0 then et_pl (eg_at G t0) j else et_pl (eg_at G t1) j) ∧ et_pl (eg_at u.2.1 t1) j = et_pl (eg_at G t1) j) := by
  obtain ⟨d, rfl⟩ : ∃ d, d2 = d + 3 := ⟨d2 - 3, by omega⟩
  have k_th := hC.1
  have k_s0 := hC.2.2.2.1.1.1
  have k_s1 := hC.2.2.2.2.1.1
  have h0 := hC.2.1.1
  have h1 := hC.2.1.2
  have hh : et_pl (eg_at G th) 2 = some (.int (Int32.ofNat h)) := hh
  have hv : ∀ j, j < 4 → et_pl (eg_at G t0) j = et_pl (eg_at G t0) j ∧ et_pl (eg_at G t1) j = et_pl (eg_at G t1) j := fun _ _ => ⟨rfl, rfl⟩
  rw [show eg_mL 125 = 1 from by decide +kernel]
  show et_go none (d + 3) 125 0 [some (.ref th)] [] G 0 0 _
  have lt_th := (hH.2.2 _ _ k_th).1
  have lt_s0 := (hH.2.2 _ _ k_s0).1
  have lt_s1 := (hH.2.2 _ _ k_s1).1
  have lt_t0 := (hH.2.2 _ _ k_t0).1
  have lt_t1 := (hH.2.2 _ _ k_t1).1
  refine hs_aload (i := 0) (p := 1) (by decide +kernel) rfl ?_
  refine hf_get (T := et_TT) (t := 12) (ci := 10) (f := 2) (p := 4) (by decide +kernel) rfl hH k_th hh ?_
  refine hs_br1 (c := .ne) (t := 9) (f := 7) (by decide +kernel) (fun (c4 : ¬ Int32.ofNat h = 0) => ?_) (fun (c4 : ¬ (¬ Int32.ofNat h = 0)) => ?_)
  · refine hs_aload (i := 0) (p := 10) (by decide +kernel) rfl ?_
    have hHo := hH
    refine ht_callv (T := et_TT) (t := 12) (mi := 120) (na := 0) (ci := 10) (lk := 1) (lm := 1) (L0 := eg_en (eg_mL 120) [.ref th]) (by decide +kernel) rfl hH k_th rfl rfl rfl rfl rfl (by rw [show eg_mL 120 = 1 from by decide +kernel]; first | done | rfl) ?_
    refine (fc_forget hH k_th).mono (fun u hu => xw_cb hu (fun G10 v10 hH x10 hP10 => ?_))
    obtain rfl := hP10
    have hC := ci_O.fr hC et_ex.rf (x10.tfr hHo (M := [(12, 6, 7)]) (fun a t i ha h => by obtain ⟨ea, h⟩ := h; rw [ea, k_th] at ha; cases ha; simp [et_mm]; omega)) (by decide +kernel)
    have h0 := (x10.2 th 0 lt_th (fun h => absurd h.2 (by decide))).trans h0
    have h1 := (x10.2 th 1 lt_th (fun h => absurd h.2 (by decide))).trans h1
    have m08 := (x10.2 s0 8 lt_s0 (fun h => (hi_ne k_s0 k_th (by decide)) h.1)).trans m08
    have m18 := (x10.2 s1 8 lt_s1 (fun h => (hi_ne k_s1 k_th (by decide)) h.1)).trans m18
    have hh := (x10.2 th 2 lt_th (fun h => absurd h.2 (by decide))).trans hh
    have lt_th := Nat.lt_of_lt_of_le lt_th x10.1
    have lt_s0 := Nat.lt_of_lt_of_le lt_s0 x10.1
    have lt_s1 := Nat.lt_of_lt_of_le lt_s1 x10.1
    have lt_t0 := Nat.lt_of_lt_of_le lt_t0 x10.1
    have lt_t1 := Nat.lt_of_lt_of_le lt_t1 x10.1
    have hv := fun (j : Nat) (hj : j < 4) => And.intro ((x10.2 t0 j (hHo.2.2 _ _ k_t0).1 (fun h => hi_ne k_t0 k_th (by decide) h.1)).trans (hv j hj).1) ((x10.2 t1 j (hHo.2.2 _ _ k_t1).1 (fun h => hi_ne k_t1 k_th (by decide) h.1)).trans (hv j hj).2)
    show et_go none _ 125 13 _ [] _ _ _ _
    refine hs_aload (i := 0) (p := 14) (by decide +kernel) rfl ?_
    refine hf_get (T := et_TT) (t := 12) (ci := 10) (f := 0) (p := 17) (by decide +kernel) rfl hH k_th h0 ?_
    refine hs_aload (i := 0) (p := 18) (by decide +kernel) rfl ?_
    refine hf_get (T := et_TT) (t := 12) (ci := 10) (f := 1) (p := 21) (by decide +kernel) rfl hH k_th h1 ?_
    have hH1 := hH
    refine ht_callv (T := et_TT) (t := 10) (mi := 104) (na := 1) (ci := 8) (lk := 1) (lm := 3) (L0 := eg_en (eg_mL 104) [.ref s0, .ref s1]) (by decide +kernel) rfl hH k_s0 rfl rfl rfl rfl rfl (by rw [show eg_mL 104 = 3 from by decide +kernel]; first | done | rfl) ?_
    refine ((hc_takeI (a := s0) (s := s1) hH hC.2.2.2.2 hC.2.2.2.1 ⟨fun e => hC.2.2.1.1 e.symm, fun e => hC.2.2.1.2.1 e.symm, fun e => hC.2.2.1.2.2 e.symm⟩ (by omega)).and (ft_takeT (a := s0) (s := s1) (da := t0) (sa := t1) (g := (fun j => et_pl (eg_at G t1) j)) hH k_s0 k_s1 k_t0 k_t1 m08 m18 (fun e => hl e.symm) (fun n hn => ⟨fun h => absurd h (Nat.not_lt_zero n), (hv n hn).2⟩) (by omega))).mono (fun u hu => tn_cb (P := fun g9 => cpk t0 t1 4 4 (fun j => et_pl (eg_at G t1) j) g9) hu (fun K21 G21 x21 f21 hH hP => ?_))
    have hv : ∀ j, j < 4 → et_pl (eg_at G21 t0) j = et_pl (eg_at G t1) j ∧ et_pl (eg_at G21 t1) j = et_pl (eg_at G t1) j := fun j hj => ⟨(hP j hj).1 hj, (hP j hj).2⟩
    have k_th := x21 _ _ k_th
    have lt_th := (hH.2.2 _ _ k_th).1
    have k_s0 := x21 _ _ k_s0
    have lt_s0 := (hH.2.2 _ _ k_s0).1
    have k_s1 := x21 _ _ k_s1
    have lt_s1 := (hH.2.2 _ _ k_s1).1
    have k_t0 := x21 _ _ k_t0
    have lt_t0 := (hH.2.2 _ _ k_t0).1
    have k_t1 := x21 _ _ k_t1
    have lt_t1 := (hH.2.2 _ _ k_t1).1
    show et_go none _ 125 24 _ [] _ _ _ _
    refine hs_k (x := Int32.ofNat 1) (p := 25) (by decide +kernel) ?_
    refine hs_zret (by decide +kernel) (.inr rfl) ?_
    exact fun j hj => ⟨(hv j hj).1.trans (if_neg (by have := hi_b1 hh1 c4; omega)).symm, (hv j hj).2⟩
  · refine hs_k (x := Int32.ofNat 0) (p := 8) (by decide +kernel) ?_
    refine hs_zret (by decide +kernel) (.inl rfl) ?_
    exact fun j hj => ⟨(hv j hj).1.trans (if_pos (hi_b0 hh1 c4)).symm, (hv j hj).2⟩
end VWA
end
