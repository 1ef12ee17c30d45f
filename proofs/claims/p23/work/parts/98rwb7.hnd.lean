section
/-! PHASE D: the EYES of the class's two states, as a whole -/
/-- an EYE: WIRES; each one's CELLS, kind, KNOB; LINE, shown, STUCK, FALLS -/
abbrev evT : Type := Nat × (Nat → Int32) × (Nat → Nat) × (Nat → Int32) × Int32 × Int32 × Int32 × Int32
def evc (G : eg_G) (e ca ki kn : Nat) (v : evT) : Prop := evC G e ca ki kn v.1 v.2.1 v.2.2.1 v.2.2.2.1 v.2.2.2.2.1 v.2.2.2.2.2.1 v.2.2.2.2.2.2.1 v.2.2.2.2.2.2.2
def evm (G : eg_G) (aw n : Nat) (v : evT) : Prop := evM G aw n v.1 v.2.1 v.2.2.1 v.2.2.2.1 v.2.2.2.2.1 v.2.2.2.2.2.1 v.2.2.2.2.2.2.1 v.2.2.2.2.2.2.2
/-- KNOBS behind the WIRES are 0 -/
def evo (v : evT) : Prop := (v.1 ≤ 6 ∧ ∀ m, m < v.1 → v.2.2.1 m ≤ 2) ∧ ∀ m, v.1 ≤ m → m < 6 → v.2.2.2.1 m = Int32.ofNat 0
/-- one that is not there yet -/
def evz (v : evT) : Prop := v.1 = 0 ∧ (∀ m, m < 6 → v.2.2.2.1 m = Int32.ofNat 0) ∧ v.2.2.2.2.1 = Int32.ofNat 0 ∧ v.2.2.2.2.2.1 = Int32.ofNat 0 ∧ v.2.2.2.2.2.2.1 = Int32.ofNat 0 ∧ v.2.2.2.2.2.2.2 = Int32.ofNat 0
theorem evz.o {v : evT} (h : evz v) : evo v := ⟨⟨by rw [h.1]; decide, fun m hm => by rw [h.1] at hm; exact absurd hm (Nat.not_lt_zero m)⟩, fun m _ hm => h.2.1 m hm⟩
/-- the objects: EYES 0 to 2 of the present state, 3 to 5 of the kept one, 6 the spare one; each one's three arrays -/
def ezK (K : et_K) (ya yb : Nat) (O : Nat → Nat) (A : Nat → Nat → Nat) : Prop := (K ya = some 40 ∧ K yb = some 40) ∧ (∀ n, n < 7 → K (O n) = some 3 ∧ ∀ j, j < 3 → K (A n j) = some 15) ∧ (∀ n m, n < 7 → m < 7 → O n = O m → n = m) ∧ ∀ n i m j, n < 7 → i < 3 → m < 7 → j < 3 → A n i = A m j → n = m ∧ i = j
def ez (G : eg_G) (th s0 s1 ya yb : Nat) (O : Nat → Nat) (A : Nat → Nat → Nat) (V : Nat → evT) : Prop := (et_pl (eg_at G s0) 6 = some (.ref ya) ∧ et_pl (eg_at G s1) 6 = some (.ref yb) ∧ et_pl (eg_at G th) 8 = some (.ref (O 6))) ∧ (∀ n, n < 3 → et_pl (eg_at G ya) n = some (.ref (O n)) ∧ et_pl (eg_at G yb) n = some (.ref (O (3 + n)))) ∧ (∀ n, n < 6 → evc G (O n) (A n 0) (A n 1) (A n 2) (V n)) ∧ (et_pl (eg_at G (O 6)) 1 = some (.ref (A 6 0)) ∧ et_pl (eg_at G (O 6)) 2 = some (.ref (A 6 1)) ∧ et_pl (eg_at G (O 6)) 3 = some (.ref (A 6 2)))
def vup (V : Nat → evT) (n : Nat) (v : evT) : Nat → evT := fun k => if k = n then v else V k
/-- what may be touched besides the EYES -/
def ezq (t j : Nat) : Prop := ¬ t = 3 ∧ ¬ t = 15 ∧ ¬ t = 40 ∧ (t = 10 → ¬ j = 6) ∧ (t = 12 → ¬ j = 8)
section VHA
variable {S : Nat → Nat → Prop} {M : et_M} {K K' : et_K} {G G' : eg_G} {th s0 s1 ya yb n : Nat} {O : Nat → Nat} {A : Nat → Nat → Nat} {V : Nat → evT} {v v' : evT}
theorem ezK.ex (h : ezK K ya yb O A) (hx : et_ex K K') : ezK K' ya yb O A := ⟨⟨hx _ _ h.1.1, hx _ _ h.1.2⟩, fun n hn => ⟨hx _ _ (h.2.1 n hn).1, fun j hj => hx _ _ ((h.2.1 n hn).2 j hj)⟩, h.2.2⟩
theorem ezK.ev (h : ezK K ya yb O A) (ho : evo v) (hn : n < 7) : evK K (O n) (A n 0) (A n 1) (A n 2) v.1 v.2.2.1 := ⟨⟨(h.2.1 n hn).1, (h.2.1 n hn).2 0 (by decide), (h.2.1 n hn).2 1 (by decide), (h.2.1 n hn).2 2 (by decide)⟩, ho.1⟩
theorem ezK.d9 (h : ezK K ya yb O A) (hn : n < 7) : ¬ A n 2 = A n 0 ∧ ¬ A n 2 = A n 1 := ⟨fun e => absurd (h.2.2.2 n 2 n 0 hn (by decide) hn (by decide) e).2 (by decide), fun e => absurd (h.2.2.2 n 2 n 1 hn (by decide) hn (by decide) e).2 (by decide)⟩
theorem evc.mv {e ca ki kn : Nat} (h : evc G e ca ki kn v) (ge : ∀ j, et_pl (eg_at G' e) j = et_pl (eg_at G e) j) (gc : ∀ j, et_pl (eg_at G' ca) j = et_pl (eg_at G ca) j) (gi : ∀ j, et_pl (eg_at G' ki) j = et_pl (eg_at G ki) j) (gn : ∀ j, et_pl (eg_at G' kn) j = et_pl (eg_at G kn) j) : evc G' e ca ki kn v := evC.at h (fun j _ => ge j) (fun m hm => (gn m).trans (h.2.1 m hm)) gc gi ((ge 4).trans h.2.2.2.1) ((ge 5).trans h.2.2.2.2.1) ((ge 6).trans h.2.2.2.2.2.1) ((ge 7).trans h.2.2.2.2.2.2)
/-- EYE n alone becomes another -/
theorem ez.up (h : ez G th s0 s1 ya yb O A V) (t : ezK K ya yb O A) (k_th : K th = some 12) (k_s0 : K s0 = some 10) (k_s1 : K s1 = some 10) (hH : et_H et_TT K G) (x : xf S G G') (hn : n < 7) (hS : ∀ b j, S b j → b = O n ∨ (∃ i, i < 3 ∧ b = A n i) ∨ ∀ t, K b = some t → ezq t j) (hv : n < 6 → evc G' (O n) (A n 0) (A n 1) (A n 2) v) (hsp : n = 6 → et_pl (eg_at G' (O 6)) 1 = some (.ref (A 6 0)) ∧ et_pl (eg_at G' (O 6)) 2 = some (.ref (A 6 1)) ∧ et_pl (eg_at G' (O 6)) 3 = some (.ref (A 6 2))) : ez G' th s0 s1 ya yb O A (vup V n v) := by
  have lt : ∀ a t, K a = some t → a < G.2 := fun a t ha => (hH.2.2 a t ha).1
  have g : ∀ a u j, K a = some u → ¬ a = O n → (∀ i, i < 3 → ¬ a = A n i) → ¬ ezq u j → et_pl (eg_at G' a) j = et_pl (eg_at G a) j := fun a u j ha n1 n2 n3 => x.2 a j (lt a u ha) (fun hs => by
    rcases hS _ _ hs with q | ⟨i, hi, q⟩ | q
    · exact n1 q
    · exact n2 i hi q
    · exact n3 (q u ha))
  have nO : ∀ a u, K a = some u → ¬ u = 3 → ¬ a = O n := fun a u ha hu e => by
    rw [e, (t.2.1 n hn).1] at ha
    cases ha
    exact hu rfl
  have nA : ∀ a u, K a = some u → ¬ u = 15 → ∀ i, i < 3 → ¬ a = A n i := fun a u ha hu i hi e => by
    rw [e, (t.2.1 n hn).2 i hi] at ha
    cases ha
    exact hu rfl
  have g0 : ∀ a u j, K a = some u → ¬ u = 3 → ¬ u = 15 → ¬ ezq u j → et_pl (eg_at G' a) j = et_pl (eg_at G a) j := fun a u j ha n1 n2 n3 => g a u j ha (nO a u ha n1) (nA a u ha n2) n3
  have gO : ∀ m j, m < 7 → ¬ m = n → et_pl (eg_at G' (O m)) j = et_pl (eg_at G (O m)) j := fun m j hm hne => g _ 3 j (t.2.1 m hm).1 (fun e => hne (t.2.2.1 m n hm hn e)) (nA _ 3 (t.2.1 m hm).1 (by decide)) (fun q => q.1 rfl)
  have gA : ∀ m i j, m < 7 → i < 3 → ¬ m = n → et_pl (eg_at G' (A m i)) j = et_pl (eg_at G (A m i)) j := fun m i j hm hi hne => g _ 15 j ((t.2.1 m hm).2 i hi) (nO _ 15 ((t.2.1 m hm).2 i hi) (by decide)) (fun i' hi' e => hne (t.2.2.2 m i n i' hm hi hn hi' e).1) (fun q => q.2.1 rfl)
  obtain ⟨⟨h1, h2, h3⟩, h4, h5, h6⟩ := h
  refine ⟨⟨(g0 s0 10 6 k_s0 (by decide) (by decide) (fun q => q.2.2.2.1 rfl rfl)).trans h1, (g0 s1 10 6 k_s1 (by decide) (by decide) (fun q => q.2.2.2.1 rfl rfl)).trans h2, (g0 th 12 8 k_th (by decide) (by decide) (fun q => q.2.2.2.2 rfl rfl)).trans h3⟩, fun m hm => ⟨(g0 ya 40 m t.1.1 (by decide) (by decide) (fun q => q.2.2.1 rfl)).trans (h4 m hm).1, (g0 yb 40 m t.1.2 (by decide) (by decide) (fun q => q.2.2.1 rfl)).trans (h4 m hm).2⟩, fun m hm => ?_, ?_⟩
  · unfold vup
    by_cases e : m = n
    · rw [if_pos e, e]
      exact hv (by omega)
    · rw [if_neg e]
      exact (h5 m hm).mv (fun j => gO m j (by omega) e) (fun j => gA m 0 j (by omega) (by decide) e) (fun j => gA m 1 j (by omega) (by decide) e) (fun j => gA m 2 j (by omega) (by decide) e)
  · by_cases e : n = 6
    · exact hsp e
    · exact ⟨(gO 6 1 (by decide) (fun q => e q.symm)).trans h6.1, (gO 6 2 (by decide) (fun q => e q.symm)).trans h6.2.1, (gO 6 3 (by decide) (fun q => e q.symm)).trans h6.2.2⟩
theorem ez.co {V' : Nat → evT} (h : ez G th s0 s1 ya yb O A V) (hV : ∀ n, n < 6 → V n = V' n) : ez G th s0 s1 ya yb O A V' := ⟨h.1, h.2.1, fun n hn => by rw [← hV n hn]; exact h.2.2.1 n hn, h.2.2.2⟩
/-- no EYE is touched -/
theorem ez.xs (h : ez G th s0 s1 ya yb O A V) (t : ezK K ya yb O A) (k_th : K th = some 12) (k_s0 : K s0 = some 10) (k_s1 : K s1 = some 10) (hH : et_H et_TT K G) (x : xf S G G') (hS : ∀ b j t, K b = some t → S b j → ezq t j) : ez G' th s0 s1 ya yb O A V := by
  have lt : ∀ a t, K a = some t → a < G.2 := fun a t ha => (hH.2.2 a t ha).1
  have g : ∀ a u j, K a = some u → ¬ ezq u j → et_pl (eg_at G' a) j = et_pl (eg_at G a) j := fun a u j ha n3 => x.2 a j (lt a u ha) (fun hs => n3 (hS a j u ha hs))
  obtain ⟨⟨h1, h2, h3⟩, h4, h5, h6⟩ := h
  have gO : ∀ m j, m < 7 → et_pl (eg_at G' (O m)) j = et_pl (eg_at G (O m)) j := fun m j hm => g _ 3 j (t.2.1 m hm).1 (fun q => q.1 rfl)
  have gA : ∀ m i j, m < 7 → i < 3 → et_pl (eg_at G' (A m i)) j = et_pl (eg_at G (A m i)) j := fun m i j hm hi => g _ 15 j ((t.2.1 m hm).2 i hi) (fun q => q.2.1 rfl)
  exact ⟨⟨(g s0 10 6 k_s0 (fun q => q.2.2.2.1 rfl rfl)).trans h1, (g s1 10 6 k_s1 (fun q => q.2.2.2.1 rfl rfl)).trans h2, (g th 12 8 k_th (fun q => q.2.2.2.2 rfl rfl)).trans h3⟩, fun m hm => ⟨(g ya 40 m t.1.1 (fun q => q.2.2.1 rfl)).trans (h4 m hm).1, (g yb 40 m t.1.2 (fun q => q.2.2.1 rfl)).trans (h4 m hm).2⟩, fun m hm => (h5 m hm).mv (fun j => gO m j (by omega)) (fun j => gA m 0 j (by omega) (by decide)) (fun j => gA m 1 j (by omega) (by decide)) (fun j => gA m 2 j (by omega) (by decide)), (gO 6 1 (by decide)).trans h6.1, (gO 6 2 (by decide)).trans h6.2.1, (gO 6 3 (by decide)).trans h6.2.2⟩
def ez_k (M : et_M) : Bool := no_t M 3 && (no_t M 15 && (no_t M 40 && (!et_mm M 10 6 && !et_mm M 12 8)))
theorem ez.fr (h : ez G th s0 s1 ya yb O A V) (t : ezK K ya yb O A) (k_th : K th = some 12) (k_s0 : K s0 = some 10) (k_s1 : K s1 = some 10) (hf : et_fr M K G G') (hk : ez_k M = true) : ez G' th s0 s1 ya yb O A V := by
  unfold ez_k at hk
  rw [Bool.and_eq_true, Bool.and_eq_true, Bool.and_eq_true, Bool.and_eq_true] at hk
  obtain ⟨k1, k2, k3, k4, k5⟩ := hk
  obtain ⟨⟨h1, h2, h3⟩, h4, h5, h6⟩ := h
  have gO : ∀ m j, m < 7 → et_pl (eg_at G' (O m)) j = et_pl (eg_at G (O m)) j := fun m j hm => hf.2 _ 3 (t.2.1 m hm).1 j (no_mm k1)
  have gA : ∀ m i j, m < 7 → i < 3 → et_pl (eg_at G' (A m i)) j = et_pl (eg_at G (A m i)) j := fun m i j hm hi => hf.2 _ 15 ((t.2.1 m hm).2 i hi) j (no_mm k2)
  exact ⟨⟨(hf.2 s0 10 k_s0 6 (by simpa using k4)).trans h1, (hf.2 s1 10 k_s1 6 (by simpa using k4)).trans h2, (hf.2 th 12 k_th 8 (by simpa using k5)).trans h3⟩, fun m hm => ⟨(hf.2 ya 40 t.1.1 m (no_mm k3)).trans (h4 m hm).1, (hf.2 yb 40 t.1.2 m (no_mm k3)).trans (h4 m hm).2⟩, fun m hm => (h5 m hm).mv (fun j => gO m j (by omega)) (fun j => gA m 0 j (by omega) (by decide)) (fun j => gA m 1 j (by omega) (by decide)) (fun j => gA m 2 j (by omega) (by decide)), (gO 6 1 (by decide)).trans h6.1, (gO 6 2 (by decide)).trans h6.2.1, (gO 6 3 (by decide)).trans h6.2.2⟩
end VHA
end
section
/-! PHASE D: the class's calls on an EYE -/
theorem xr_nat {x : Int32} {e : Nat} (h : xr x e) (he : e ≤ 400) : ∃ n : Nat, x = Int32.ofNat n ∧ n < e := by
  obtain ⟨n, e1, e2⟩ := xi_nn (x := x) (by rw [xi_lt0]; have := h.1; omega)
  refine ⟨n, e1, ?_⟩
  have := h.2
  rw [e1, hs_nint e2] at this
  omega
/-- refused, nothing changed -/
def ix_Z (x : Nat) (G : eg_G) (u : eg_O) : Prop := ∃ c s : Nat, u = (.inr x, G, c, s)
section VIA
variable {K : et_K} {G : eg_G} {d d2 th s0 ya ta la ly e ca ki kn w m fo tn n c k ec tc nc out : Nat} {C N : Nat → Int32} {Kd : Nat → Nat} {l s t f x y z : Int32} {ye : Bool} {ls : List sp_L} {Z : eg_O → Prop}
theorem fd_needE (hH : et_H et_TT K G) (k_th : K th = some 12) (h0 : et_pl (eg_at G th) 0 = some (.ref s0)) (k_s0 : K s0 = some 10) (h5 : et_pl (eg_at G s0) 5 = some (.int (Int32.ofNat ec))) (hec : ec ≤ 3) (h6 : et_pl (eg_at G s0) 6 = some (.ref ya)) (k_ya : K ya = some 40) (hn : n < ec) (hE : et_pl (eg_at G ya) n = some (.ref e)) : et_go none d2 128 0 (eg_en (eg_mL 128) [.ref th, .int (Int32.ofNat n)]) [] G 0 0 (xp_Z G (some (.ref e))) := by
  rw [show eg_mL 128 = 2 from by decide +kernel]
  show et_go none d2 128 0 [some (.ref th), some (.int (Int32.ofNat n))] [] G 0 0 _
  have lt_th := (hH.2.2 _ _ k_th).1
  have lt_s0 := (hH.2.2 _ _ k_s0).1
  have lt_ya := (hH.2.2 _ _ k_ya).1
  refine hs_iload (i := 1) (p := 1) (by decide +kernel) rfl ?_
  refine hs_if0 (c := .lt) (t := 15) (f := 4) (by decide +kernel) (rs_nn (by omega)) ?_
  refine hs_iload (i := 1) (p := 5) (by decide +kernel) rfl ?_
  refine hs_aload (i := 0) (p := 6) (by decide +kernel) rfl ?_
  refine hf_get (T := et_TT) (t := 12) (ci := 10) (f := 0) (p := 9) (by decide +kernel) rfl hH k_th h0 ?_
  refine hf_get (T := et_TT) (t := 10) (ci := 8) (f := 5) (p := 12) (by decide +kernel) rfl hH k_s0 h5 ?_
  refine hs_br2n (c := .lt) (t := 23) (f := 15) (by decide +kernel) (by omega) (by omega) (fun (c12 : n < ec) => ?_) (fun (c12 : ¬ (n < ec)) => ?_)
  · refine hs_aload (i := 0) (p := 24) (by decide +kernel) rfl ?_
    refine hf_get (T := et_TT) (t := 12) (ci := 10) (f := 0) (p := 27) (by decide +kernel) rfl hH k_th h0 ?_
    refine hf_get (T := et_TT) (t := 10) (ci := 8) (f := 6) (p := 30) (by decide +kernel) rfl hH k_s0 h6 ?_
    refine hs_iload (i := 1) (p := 31) (by decide +kernel) rfl ?_
    refine hf_ald (ins := .aaload) (T := et_TT) (t := 40) (kd := 6) (N := 3) (p := 32) (by decide +kernel) (fun _ _ _ _ _ _ _ _ _ _ => rfl) rfl rfl rfl hH k_ya (by decide) hE ?_
    refine hs_aret (cn := "KnobEye$Eye") (by decide +kernel) ?_
    rfl
  · exact absurd hn c12
theorem fd_needEn (hH : et_H et_TT K G) (k_th : K th = some 12) (h0 : et_pl (eg_at G th) 0 = some (.ref s0)) (k_s0 : K s0 = some 10) (h5 : et_pl (eg_at G s0) 5 = some (.int (Int32.ofNat ec))) (hec : ec ≤ 3) (h6 : et_pl (eg_at G s0) 6 = some (.ref ya)) (k_ya : K ya = some 40) (hx : ¬ xr x ec) : et_go none d2 128 0 (eg_en (eg_mL 128) [.ref th, .int x]) [] G 0 0 (ix_Z 1 G) := by
  rw [show eg_mL 128 = 2 from by decide +kernel]
  show et_go none d2 128 0 [some (.ref th), some (.int x)] [] G 0 0 _
  have lt_th := (hH.2.2 _ _ k_th).1
  have lt_s0 := (hH.2.2 _ _ k_s0).1
  have lt_ya := (hH.2.2 _ _ k_ya).1
  refine hs_iload (i := 1) (p := 1) (by decide +kernel) rfl ?_
  refine hs_br1 (c := .lt) (t := 15) (f := 4) (by decide +kernel) (fun (c1 : x < 0) => ?_) (fun (c1 : ¬ (x < 0)) => ?_)
  · refine hs_thr (x := 1) (lk := 2) (by decide +kernel) rfl rfl ?_
    exact ⟨_, _, rfl⟩
  · refine hs_iload (i := 1) (p := 5) (by decide +kernel) rfl ?_
    refine hs_aload (i := 0) (p := 6) (by decide +kernel) rfl ?_
    refine hf_get (T := et_TT) (t := 12) (ci := 10) (f := 0) (p := 9) (by decide +kernel) rfl hH k_th h0 ?_
    refine hf_get (T := et_TT) (t := 10) (ci := 8) (f := 5) (p := 12) (by decide +kernel) rfl hH k_s0 h5 ?_
    refine hs_br2 (c := .lt) (t := 23) (f := 15) (by decide +kernel) (fun (c12 : x < Int32.ofNat ec) => ?_) (fun (c12 : ¬ (x < Int32.ofNat ec)) => ?_)
    · exact absurd (by unfold xr; rw [xi_lt0] at c1; rw [xi_ltn (k := ec) (by omega)] at c12; omega) hx
    · refine hs_thr (x := 1) (lk := 2) (by decide +kernel) rfl rfl ?_
      exact ⟨_, _, rfl⟩
theorem fd_needT (hH : et_H et_TT K G) (k_th : K th = some 12) (h0 : et_pl (eg_at G th) 0 = some (.ref s0)) (k_s0 : K s0 = some 10) (g7 : et_pl (eg_at G s0) 7 = some (.int (Int32.ofNat tc))) (htc : tc ≤ 4) (g8 : et_pl (eg_at G s0) 8 = some (.ref ta)) (k_ta : K ta = some 38) (hk : k < tc) (hT : et_pl (eg_at G ta) k = some (.ref tn)) : et_go none d2 147 0 (eg_en (eg_mL 147) [.ref th, .int (Int32.ofNat k)]) [] G 0 0 (xp_Z G (some (.ref tn))) := by
  rw [show eg_mL 147 = 2 from by decide +kernel]
  show et_go none d2 147 0 [some (.ref th), some (.int (Int32.ofNat k))] [] G 0 0 _
  have lt_th := (hH.2.2 _ _ k_th).1
  have lt_s0 := (hH.2.2 _ _ k_s0).1
  have lt_ta := (hH.2.2 _ _ k_ta).1
  refine hs_iload (i := 1) (p := 1) (by decide +kernel) rfl ?_
  refine hs_if0 (c := .lt) (t := 27) (f := 4) (by decide +kernel) (rs_nn (by omega)) ?_
  refine hs_iload (i := 1) (p := 5) (by decide +kernel) rfl ?_
  refine hs_aload (i := 0) (p := 6) (by decide +kernel) rfl ?_
  refine hf_get (T := et_TT) (t := 12) (ci := 10) (f := 0) (p := 9) (by decide +kernel) rfl hH k_th h0 ?_
  refine hf_get (T := et_TT) (t := 10) (ci := 8) (f := 7) (p := 12) (by decide +kernel) rfl hH k_s0 g7 ?_
  refine hs_br2n (c := .ge) (t := 27) (f := 15) (by decide +kernel) (by omega) (by omega) (fun (c12 : tc ≤ k) => ?_) (fun (c12 : ¬ (tc ≤ k)) => ?_)
  · exact absurd hk (Nat.not_lt.mpr c12)
  · refine hs_aload (i := 0) (p := 16) (by decide +kernel) rfl ?_
    refine hf_get (T := et_TT) (t := 12) (ci := 10) (f := 0) (p := 19) (by decide +kernel) rfl hH k_th h0 ?_
    refine hf_get (T := et_TT) (t := 10) (ci := 8) (f := 8) (p := 22) (by decide +kernel) rfl hH k_s0 g8 ?_
    refine hs_iload (i := 1) (p := 23) (by decide +kernel) rfl ?_
    refine hf_ald (ins := .aaload) (T := et_TT) (t := 38) (kd := 7) (N := 4) (p := 24) (by decide +kernel) (fun _ _ _ _ _ _ _ _ _ _ => rfl) rfl rfl rfl hH k_ta (by decide) hT ?_
    refine hs_ifnonnull1 (p := 35) (by decide +kernel) ?_
    refine hs_aload (i := 0) (p := 36) (by decide +kernel) rfl ?_
    refine hf_get (T := et_TT) (t := 12) (ci := 10) (f := 0) (p := 39) (by decide +kernel) rfl hH k_th h0 ?_
    refine hf_get (T := et_TT) (t := 10) (ci := 8) (f := 8) (p := 42) (by decide +kernel) rfl hH k_s0 g8 ?_
    refine hs_iload (i := 1) (p := 43) (by decide +kernel) rfl ?_
    refine hf_ald (ins := .aaload) (T := et_TT) (t := 38) (kd := 7) (N := 4) (p := 44) (by decide +kernel) (fun _ _ _ _ _ _ _ _ _ _ => rfl) rfl rfl rfl hH k_ta (by decide) hT ?_
    refine hs_aret (cn := "KnobEye$Turner") (by decide +kernel) ?_
    rfl
theorem fd_needTn (hH : et_H et_TT K G) (k_th : K th = some 12) (h0 : et_pl (eg_at G th) 0 = some (.ref s0)) (k_s0 : K s0 = some 10) (g7 : et_pl (eg_at G s0) 7 = some (.int (Int32.ofNat tc))) (htc : tc ≤ 4) (g8 : et_pl (eg_at G s0) 8 = some (.ref ta)) (k_ta : K ta = some 38) (hx : ¬ xr x tc) : et_go none d2 147 0 (eg_en (eg_mL 147) [.ref th, .int x]) [] G 0 0 (ix_Z 1 G) := by
  rw [show eg_mL 147 = 2 from by decide +kernel]
  show et_go none d2 147 0 [some (.ref th), some (.int x)] [] G 0 0 _
  have lt_th := (hH.2.2 _ _ k_th).1
  have lt_s0 := (hH.2.2 _ _ k_s0).1
  have lt_ta := (hH.2.2 _ _ k_ta).1
  refine hs_iload (i := 1) (p := 1) (by decide +kernel) rfl ?_
  refine hs_br1 (c := .lt) (t := 27) (f := 4) (by decide +kernel) (fun (c1 : x < 0) => ?_) (fun (c1 : ¬ (x < 0)) => ?_)
  · refine hs_thr (x := 1) (lk := 2) (by decide +kernel) rfl rfl ?_
    exact ⟨_, _, rfl⟩
  · refine hs_iload (i := 1) (p := 5) (by decide +kernel) rfl ?_
    refine hs_aload (i := 0) (p := 6) (by decide +kernel) rfl ?_
    refine hf_get (T := et_TT) (t := 12) (ci := 10) (f := 0) (p := 9) (by decide +kernel) rfl hH k_th h0 ?_
    refine hf_get (T := et_TT) (t := 10) (ci := 8) (f := 7) (p := 12) (by decide +kernel) rfl hH k_s0 g7 ?_
    refine hs_br2 (c := .ge) (t := 27) (f := 15) (by decide +kernel) (fun (c12 : Int32.ofNat tc ≤ x) => ?_) (fun (c12 : ¬ (Int32.ofNat tc ≤ x)) => ?_)
    · refine hs_thr (x := 1) (lk := 2) (by decide +kernel) rfl rfl ?_
      exact ⟨_, _, rfl⟩
    · exact absurd (by unfold xr; rw [xi_lt0] at c1; rw [xi_nle (k := tc) (by omega)] at c12; omega) hx
theorem fc_show (hH : et_H et_TT K G) (k_th : K th = some 12) (h0 : et_pl (eg_at G th) 0 = some (.ref s0)) (k_s0 : K s0 = some 10) (h5 : et_pl (eg_at G s0) 5 = some (.int (Int32.ofNat ec))) (hec : ec ≤ 3) (h6 : et_pl (eg_at G s0) 6 = some (.ref ya)) (k_ya : K ya = some 40) (hn : n < ec) (hE : et_pl (eg_at G ya) n = some (.ref e)) (t9 : evK K e ca ki kn w Kd) (hd9 : ¬ kn = ca ∧ ¬ kn = ki) (hv : evC G e ca ki kn w C Kd N l s t f) (g7 : et_pl (eg_at G s0) 7 = some (.int (Int32.ofNat tc))) (htc : tc ≤ 4) (g8 : et_pl (eg_at G s0) 8 = some (.ref ta)) (k_ta : K ta = some 38) (hk : k < tc) (hT : et_pl (eg_at G ta) k = some (.ref tn)) (g2 : et_pl (eg_at G s0) 2 = some (.int (Int32.ofNat nc))) (hnc : nc ≤ 20) (g3 : et_pl (eg_at G s0) 3 = some (.ref la)) (k_la : K la = some 17) (g4 : et_pl (eg_at G s0) 4 = some (.ref ly)) (k_ly : K ly = some 27) (hc : c < nc) (hx : et_pl (eg_at G la) c = some (.int x)) (hy : et_pl (eg_at G ly) c = some (.int (Int32.ofNat (if ye = true then 1 else 0)))) (h4 : et_pl (eg_at G th) 4 = some (.ref fo)) (k_fo : K fo = some 4) (ht : tuC K G tn ls) (hcl : ∀ l ∈ ls, lcl1 l) (hd : 21 ≤ d2) (h : ∀ G', et_H et_TT K G' → xf (fun b j => (b = e ∧ (4 ≤ j ∧ j ≤ 5)) ∨ (b = kn ∧ (0 ≤ j ∧ j ≤ 5)) ∨ (b = fo ∧ (1 ≤ j ∧ j ≤ 6))) G G' → evC G' e ca ki kn w C Kd (nxN C Kd x w t f ls ye (N, l, s)).1 (nxN C Kd x w t f ls ye (N, l, s)).2.1 (nxN C Kd x w t f ls ye (N, l, s)).2.2 t f → Z (.inl (some (.int (Int32.ofNat (if shW C Kd x w ye (N, l, s) = true then 1 else 0)))), G', 0, 0)) : et_go none d2 146 0 (eg_en (eg_mL 146) [.ref th, .int (Int32.ofNat n), .int (Int32.ofNat c), .int (Int32.ofNat k)]) [] G 0 0 Z := by
  obtain ⟨d, rfl⟩ : ∃ d, d2 = d + 21 := ⟨d2 - 21, by omega⟩
  have k_e := t9.1.1
  have k_ca := t9.1.2.1
  have k_ki := t9.1.2.2.1
  have k_kn := t9.1.2.2.2
  have hw6 := t9.2.1
  have k_tn := ht.kt
  rw [show eg_mL 146 = 6 from by decide +kernel]
  show et_go none (d + 21) 146 0 [some (.ref th), some (.int (Int32.ofNat n)), some (.int (Int32.ofNat c)), some (.int (Int32.ofNat k)), none, none] [] G 0 0 _
  have lt_th := (hH.2.2 _ _ k_th).1
  have lt_s0 := (hH.2.2 _ _ k_s0).1
  have lt_ya := (hH.2.2 _ _ k_ya).1
  have lt_e := (hH.2.2 _ _ k_e).1
  have lt_ca := (hH.2.2 _ _ k_ca).1
  have lt_ki := (hH.2.2 _ _ k_ki).1
  have lt_kn := (hH.2.2 _ _ k_kn).1
  have lt_ta := (hH.2.2 _ _ k_ta).1
  have lt_la := (hH.2.2 _ _ k_la).1
  have lt_ly := (hH.2.2 _ _ k_ly).1
  have lt_fo := (hH.2.2 _ _ k_fo).1
  have lt_tn := (hH.2.2 _ _ k_tn).1
  have hX : xf (fun b j => (b = e ∧ (4 ≤ j ∧ j ≤ 5)) ∨ (b = kn ∧ (0 ≤ j ∧ j ≤ 5)) ∨ (b = fo ∧ (1 ≤ j ∧ j ≤ 6))) G G := xf.rf
  refine hs_aload (i := 0) (p := 1) (by decide +kernel) rfl ?_
  refine hs_iload (i := 1) (p := 2) (by decide +kernel) rfl ?_
  refine ht_callv (T := et_TT) (t := 12) (mi := 128) (na := 1) (ci := 10) (lk := 6) (lm := 2) (L0 := eg_en (eg_mL 128) [.ref th, .int (Int32.ofNat n)]) (by decide +kernel) rfl hH k_th rfl rfl rfl rfl rfl (by rw [show eg_mL 128 = 2 from by decide +kernel]; first | done | rfl) ?_
  refine (fd_needE hH k_th h0 k_s0 h5 hec h6 k_ya hn hE).mono (fun u hu => xp_cb hu ?_)
  show et_go none _ 146 5 _ [.ref e] _ _ _ _
  refine hs_astore (i := 4) (p := 7) (by decide +kernel) (Nat.le_of_ble_eq_true rfl) ?_
  refine hs_iload (i := 2) (p := 8) (by decide +kernel) rfl ?_
  refine hs_if0 (c := .lt) (t := 22) (f := 11) (by decide +kernel) (rs_nn (by omega)) ?_
  refine hs_iload (i := 2) (p := 12) (by decide +kernel) rfl ?_
  refine hs_aload (i := 0) (p := 13) (by decide +kernel) rfl ?_
  refine hf_get (T := et_TT) (t := 12) (ci := 10) (f := 0) (p := 16) (by decide +kernel) rfl hH k_th h0 ?_
  refine hf_get (T := et_TT) (t := 10) (ci := 8) (f := 2) (p := 19) (by decide +kernel) rfl hH k_s0 g2 ?_
  refine hs_br2n (c := .lt) (t := 30) (f := 22) (by decide +kernel) (by omega) (by omega) (fun (c19 : c < nc) => ?_) (fun (c19 : ¬ (c < nc)) => ?_)
  · refine hs_aload (i := 0) (p := 31) (by decide +kernel) rfl ?_
    refine hs_iload (i := 3) (p := 32) (by decide +kernel) rfl ?_
    refine ht_callv (T := et_TT) (t := 12) (mi := 147) (na := 1) (ci := 10) (lk := 6) (lm := 2) (L0 := eg_en (eg_mL 147) [.ref th, .int (Int32.ofNat k)]) (by decide +kernel) rfl hH k_th rfl rfl rfl rfl rfl (by rw [show eg_mL 147 = 2 from by decide +kernel]; first | done | rfl) ?_
    refine (fd_needT hH k_th h0 k_s0 g7 htc g8 k_ta hk hT).mono (fun u hu => xp_cb hu ?_)
    show et_go none _ 146 35 _ [.ref tn] _ _ _ _
    refine hs_astore (i := 5) (p := 37) (by decide +kernel) (Nat.le_of_ble_eq_true rfl) ?_
    refine hs_aload (i := 4) (p := 39) (by decide +kernel) rfl ?_
    refine hs_aload (i := 0) (p := 40) (by decide +kernel) rfl ?_
    refine hf_get (T := et_TT) (t := 12) (ci := 10) (f := 0) (p := 43) (by decide +kernel) rfl hH k_th h0 ?_
    refine hf_get (T := et_TT) (t := 10) (ci := 8) (f := 3) (p := 46) (by decide +kernel) rfl hH k_s0 g3 ?_
    refine hs_iload (i := 2) (p := 47) (by decide +kernel) rfl ?_
    refine hf_ald (ins := .iaload) (T := et_TT) (t := 17) (kd := 0) (N := 20) (p := 48) (by decide +kernel) (fun _ _ _ _ _ _ _ _ _ _ => rfl) rfl rfl rfl hH k_la (by decide) hx ?_
    refine hs_aload (i := 0) (p := 49) (by decide +kernel) rfl ?_
    refine hf_get (T := et_TT) (t := 12) (ci := 10) (f := 0) (p := 52) (by decide +kernel) rfl hH k_th h0 ?_
    refine hf_get (T := et_TT) (t := 10) (ci := 8) (f := 4) (p := 55) (by decide +kernel) rfl hH k_s0 g4 ?_
    refine hs_iload (i := 2) (p := 56) (by decide +kernel) rfl ?_
    refine hf_ald (ins := .baload) (T := et_TT) (t := 27) (kd := 3) (N := 20) (p := 57) (by decide +kernel) (fun _ _ _ _ _ _ _ _ _ _ => rfl) rfl rfl rfl hH k_ly (by decide) hy ?_
    refine hs_aload (i := 5) (p := 59) (by decide +kernel) rfl ?_
    refine hs_aload (i := 0) (p := 60) (by decide +kernel) rfl ?_
    refine hf_get (T := et_TT) (t := 12) (ci := 10) (f := 4) (p := 63) (by decide +kernel) rfl hH k_th h4 ?_
    refine ht_callv (T := et_TT) (t := 3) (mi := 44) (na := 4) (ci := 1) (lk := 6) (lm := 10) (L0 := eg_en (eg_mL 44) [.ref e, .int x, .int (Int32.ofNat (if ye = true then 1 else 0)), .ref tn, .ref fo]) (by decide +kernel) rfl hH k_e rfl rfl rfl rfl rfl (by rw [show eg_mL 44 = 10 from by decide +kernel]; first | done | rfl) ?_
    refine fd_turn (C := C) (N := N) (ls := ls) (ye := ye) hH t9 hd9 hv ht hcl k_fo (by omega) (fun G63 hH x63 hv => ?_)
    have h0 := (x63.2 th 0 lt_th (fun h => Or.elim h (fun h => (hi_ne k_th k_e (by decide)) h.1) (fun h => Or.elim h (fun h => (hi_ne k_th k_kn (by decide)) h.1) (fun h => (hi_ne k_th k_fo (by decide)) h.1)))).trans h0
    have h5 := (x63.2 s0 5 lt_s0 (fun h => Or.elim h (fun h => (hi_ne k_s0 k_e (by decide)) h.1) (fun h => Or.elim h (fun h => (hi_ne k_s0 k_kn (by decide)) h.1) (fun h => (hi_ne k_s0 k_fo (by decide)) h.1)))).trans h5
    have h6 := (x63.2 s0 6 lt_s0 (fun h => Or.elim h (fun h => (hi_ne k_s0 k_e (by decide)) h.1) (fun h => Or.elim h (fun h => (hi_ne k_s0 k_kn (by decide)) h.1) (fun h => (hi_ne k_s0 k_fo (by decide)) h.1)))).trans h6
    have hE := (x63.2 ya n lt_ya (fun h => Or.elim h (fun h => (hi_ne k_ya k_e (by decide)) h.1) (fun h => Or.elim h (fun h => (hi_ne k_ya k_kn (by decide)) h.1) (fun h => (hi_ne k_ya k_fo (by decide)) h.1)))).trans hE
    have g7 := (x63.2 s0 7 lt_s0 (fun h => Or.elim h (fun h => (hi_ne k_s0 k_e (by decide)) h.1) (fun h => Or.elim h (fun h => (hi_ne k_s0 k_kn (by decide)) h.1) (fun h => (hi_ne k_s0 k_fo (by decide)) h.1)))).trans g7
    have g8 := (x63.2 s0 8 lt_s0 (fun h => Or.elim h (fun h => (hi_ne k_s0 k_e (by decide)) h.1) (fun h => Or.elim h (fun h => (hi_ne k_s0 k_kn (by decide)) h.1) (fun h => (hi_ne k_s0 k_fo (by decide)) h.1)))).trans g8
    have hT := (x63.2 ta k lt_ta (fun h => Or.elim h (fun h => (hi_ne k_ta k_e (by decide)) h.1) (fun h => Or.elim h (fun h => (hi_ne k_ta k_kn (by decide)) h.1) (fun h => (hi_ne k_ta k_fo (by decide)) h.1)))).trans hT
    have g2 := (x63.2 s0 2 lt_s0 (fun h => Or.elim h (fun h => (hi_ne k_s0 k_e (by decide)) h.1) (fun h => Or.elim h (fun h => (hi_ne k_s0 k_kn (by decide)) h.1) (fun h => (hi_ne k_s0 k_fo (by decide)) h.1)))).trans g2
    have g3 := (x63.2 s0 3 lt_s0 (fun h => Or.elim h (fun h => (hi_ne k_s0 k_e (by decide)) h.1) (fun h => Or.elim h (fun h => (hi_ne k_s0 k_kn (by decide)) h.1) (fun h => (hi_ne k_s0 k_fo (by decide)) h.1)))).trans g3
    have g4 := (x63.2 s0 4 lt_s0 (fun h => Or.elim h (fun h => (hi_ne k_s0 k_e (by decide)) h.1) (fun h => Or.elim h (fun h => (hi_ne k_s0 k_kn (by decide)) h.1) (fun h => (hi_ne k_s0 k_fo (by decide)) h.1)))).trans g4
    have hx := (x63.2 la c lt_la (fun h => Or.elim h (fun h => (hi_ne k_la k_e (by decide)) h.1) (fun h => Or.elim h (fun h => (hi_ne k_la k_kn (by decide)) h.1) (fun h => (hi_ne k_la k_fo (by decide)) h.1)))).trans hx
    have hy := (x63.2 ly c lt_ly (fun h => Or.elim h (fun h => (hi_ne k_ly k_e (by decide)) h.1) (fun h => Or.elim h (fun h => (hi_ne k_ly k_kn (by decide)) h.1) (fun h => (hi_ne k_ly k_fo (by decide)) h.1)))).trans hy
    have h4 := (x63.2 th 4 lt_th (fun h => Or.elim h (fun h => (hi_ne k_th k_e (by decide)) h.1) (fun h => Or.elim h (fun h => (hi_ne k_th k_kn (by decide)) h.1) (fun h => (hi_ne k_th k_fo (by decide)) h.1)))).trans h4
    have lt_th := Nat.lt_of_lt_of_le lt_th x63.1
    have lt_s0 := Nat.lt_of_lt_of_le lt_s0 x63.1
    have lt_ya := Nat.lt_of_lt_of_le lt_ya x63.1
    have lt_e := Nat.lt_of_lt_of_le lt_e x63.1
    have lt_ca := Nat.lt_of_lt_of_le lt_ca x63.1
    have lt_ki := Nat.lt_of_lt_of_le lt_ki x63.1
    have lt_kn := Nat.lt_of_lt_of_le lt_kn x63.1
    have lt_ta := Nat.lt_of_lt_of_le lt_ta x63.1
    have lt_la := Nat.lt_of_lt_of_le lt_la x63.1
    have lt_ly := Nat.lt_of_lt_of_le lt_ly x63.1
    have lt_fo := Nat.lt_of_lt_of_le lt_fo x63.1
    have lt_tn := Nat.lt_of_lt_of_le lt_tn x63.1
    have hX := hX.tr x63 (fun b j hb h => by first | omega | (dsimp only at h ⊢; omega) | (dsimp only at h; omega))
    refine hs_cb ?_
    show et_go none _ 146 66 _ [.int (Int32.ofNat (if shW C Kd x w ye (N, l, s) = true then 1 else 0))] _ _ _ _
    refine hs_zret (by decide +kernel) (by first | (split; exact .inr rfl; exact .inl rfl) | (split; exact .inl rfl; exact .inr rfl)) ?_
    exact h _ hH hX hv
  · exact absurd hc c19
theorem fc_showN (hH : et_H et_TT K G) (k_th : K th = some 12) (h0 : et_pl (eg_at G th) 0 = some (.ref s0)) (k_s0 : K s0 = some 10) (h5 : et_pl (eg_at G s0) 5 = some (.int (Int32.ofNat ec))) (hec : ec ≤ 3) (h6 : et_pl (eg_at G s0) 6 = some (.ref ya)) (k_ya : K ya = some 40) (hO : ∀ n, n < ec → ∃ e, et_pl (eg_at G ya) n = some (.ref e)) (g7 : et_pl (eg_at G s0) 7 = some (.int (Int32.ofNat tc))) (htc : tc ≤ 4) (g8 : et_pl (eg_at G s0) 8 = some (.ref ta)) (k_ta : K ta = some 38) (hTu : ∀ k, k < tc → ∃ q, et_pl (eg_at G ta) k = some (.ref q)) (g2 : et_pl (eg_at G s0) 2 = some (.int (Int32.ofNat nc))) (hnc : nc ≤ 20) (hne : ¬ (xr x ec ∧ xr y nc ∧ xr z tc)) (hd : 1 ≤ d2) : et_go none d2 146 0 (eg_en (eg_mL 146) [.ref th, .int x, .int y, .int z]) [] G 0 0 (ix_Z 1 G) := by
  obtain ⟨d, rfl⟩ : ∃ d, d2 = d + 1 := ⟨d2 - 1, by omega⟩
  rw [show eg_mL 146 = 6 from by decide +kernel]
  show et_go none (d + 1) 146 0 [some (.ref th), some (.int x), some (.int y), some (.int z), none, none] [] G 0 0 _
  by_cases hx : xr x ec
  · obtain ⟨n, rfl, hn⟩ := xr_nat hx (by omega)
    obtain ⟨e, hE⟩ := hO n hn
    by_cases hy : xr y nc
    · obtain ⟨c, rfl, hc⟩ := xr_nat hy (by omega)
      have hz : ¬ xr z tc := fun hz => hne ⟨hx, hy, hz⟩
      have lt_th := (hH.2.2 _ _ k_th).1
      have lt_s0 := (hH.2.2 _ _ k_s0).1
      have lt_ya := (hH.2.2 _ _ k_ya).1
      have lt_ta := (hH.2.2 _ _ k_ta).1
      refine hs_aload (i := 0) (p := 1) (by decide +kernel) rfl ?_
      refine hs_iload (i := 1) (p := 2) (by decide +kernel) rfl ?_
      refine ht_callv (T := et_TT) (t := 12) (mi := 128) (na := 1) (ci := 10) (lk := 6) (lm := 2) (L0 := eg_en (eg_mL 128) [.ref th, .int (Int32.ofNat n)]) (by decide +kernel) rfl hH k_th rfl rfl rfl rfl rfl (by rw [show eg_mL 128 = 2 from by decide +kernel]; first | done | rfl) ?_
      refine (fd_needE hH k_th h0 k_s0 h5 hec h6 k_ya hn hE).mono (fun u hu => xp_cb hu ?_)
      show et_go none _ 146 5 _ [.ref e] _ _ _ _
      refine hs_astore (i := 4) (p := 7) (by decide +kernel) (Nat.le_of_ble_eq_true rfl) ?_
      refine hs_iload (i := 2) (p := 8) (by decide +kernel) rfl ?_
      refine hs_if0 (c := .lt) (t := 22) (f := 11) (by decide +kernel) (rs_nn (by omega)) ?_
      refine hs_iload (i := 2) (p := 12) (by decide +kernel) rfl ?_
      refine hs_aload (i := 0) (p := 13) (by decide +kernel) rfl ?_
      refine hf_get (T := et_TT) (t := 12) (ci := 10) (f := 0) (p := 16) (by decide +kernel) rfl hH k_th h0 ?_
      refine hf_get (T := et_TT) (t := 10) (ci := 8) (f := 2) (p := 19) (by decide +kernel) rfl hH k_s0 g2 ?_
      refine hs_br2n (c := .lt) (t := 30) (f := 22) (by decide +kernel) (by omega) (by omega) (fun (c19 : c < nc) => ?_) (fun (c19 : ¬ (c < nc)) => ?_)
      · refine hs_aload (i := 0) (p := 31) (by decide +kernel) rfl ?_
        refine hs_iload (i := 3) (p := 32) (by decide +kernel) rfl ?_
        refine ht_callv (T := et_TT) (t := 12) (mi := 147) (na := 1) (ci := 10) (lk := 6) (lm := 2) (L0 := eg_en (eg_mL 147) [.ref th, .int z]) (by decide +kernel) rfl hH k_th rfl rfl rfl rfl rfl (by rw [show eg_mL 147 = 2 from by decide +kernel]; first | done | rfl) ?_
        refine (fd_needTn hH k_th h0 k_s0 g7 htc g8 k_ta hz).mono (fun u hu => ?_)
        obtain ⟨c32, s32, rfl⟩ := hu
        refine hf_cx (by decide +kernel) ?_
        exact ⟨_, _, rfl⟩
      · exact absurd hc c19
    · have lt_th := (hH.2.2 _ _ k_th).1
      have lt_s0 := (hH.2.2 _ _ k_s0).1
      have lt_ya := (hH.2.2 _ _ k_ya).1
      have lt_ta := (hH.2.2 _ _ k_ta).1
      refine hs_aload (i := 0) (p := 1) (by decide +kernel) rfl ?_
      refine hs_iload (i := 1) (p := 2) (by decide +kernel) rfl ?_
      refine ht_callv (T := et_TT) (t := 12) (mi := 128) (na := 1) (ci := 10) (lk := 6) (lm := 2) (L0 := eg_en (eg_mL 128) [.ref th, .int (Int32.ofNat n)]) (by decide +kernel) rfl hH k_th rfl rfl rfl rfl rfl (by rw [show eg_mL 128 = 2 from by decide +kernel]; first | done | rfl) ?_
      refine (fd_needE hH k_th h0 k_s0 h5 hec h6 k_ya hn hE).mono (fun u hu => xp_cb hu ?_)
      show et_go none _ 146 5 _ [.ref e] _ _ _ _
      refine hs_astore (i := 4) (p := 7) (by decide +kernel) (Nat.le_of_ble_eq_true rfl) ?_
      refine hs_iload (i := 2) (p := 8) (by decide +kernel) rfl ?_
      refine hs_br1 (c := .lt) (t := 22) (f := 11) (by decide +kernel) (fun (c8 : y < 0) => ?_) (fun (c8 : ¬ (y < 0)) => ?_)
      · refine hs_thr (x := 1) (lk := 6) (by decide +kernel) rfl rfl ?_
        exact ⟨_, _, rfl⟩
      · refine hs_iload (i := 2) (p := 12) (by decide +kernel) rfl ?_
        refine hs_aload (i := 0) (p := 13) (by decide +kernel) rfl ?_
        refine hf_get (T := et_TT) (t := 12) (ci := 10) (f := 0) (p := 16) (by decide +kernel) rfl hH k_th h0 ?_
        refine hf_get (T := et_TT) (t := 10) (ci := 8) (f := 2) (p := 19) (by decide +kernel) rfl hH k_s0 g2 ?_
        refine hs_br2 (c := .lt) (t := 30) (f := 22) (by decide +kernel) (fun (c19 : y < Int32.ofNat nc) => ?_) (fun (c19 : ¬ (y < Int32.ofNat nc)) => ?_)
        · exact absurd (by unfold xr; rw [xi_lt0] at c8; rw [xi_ltn (k := nc) (by omega)] at c19; omega) hy
        · refine hs_thr (x := 1) (lk := 6) (by decide +kernel) rfl rfl ?_
          exact ⟨_, _, rfl⟩
  · have lt_th := (hH.2.2 _ _ k_th).1
    have lt_s0 := (hH.2.2 _ _ k_s0).1
    have lt_ya := (hH.2.2 _ _ k_ya).1
    have lt_ta := (hH.2.2 _ _ k_ta).1
    refine hs_aload (i := 0) (p := 1) (by decide +kernel) rfl ?_
    refine hs_iload (i := 1) (p := 2) (by decide +kernel) rfl ?_
    refine ht_callv (T := et_TT) (t := 12) (mi := 128) (na := 1) (ci := 10) (lk := 6) (lm := 2) (L0 := eg_en (eg_mL 128) [.ref th, .int x]) (by decide +kernel) rfl hH k_th rfl rfl rfl rfl rfl (by rw [show eg_mL 128 = 2 from by decide +kernel]; first | done | rfl) ?_
    refine (fd_needEn hH k_th h0 k_s0 h5 hec h6 k_ya hx).mono (fun u hu => ?_)
    obtain ⟨c2, s2, rfl⟩ := hu
    refine hf_cx (by decide +kernel) ?_
    exact ⟨_, _, rfl⟩
theorem fh_show (hH : et_H et_TT K G) (k_th : K th = some 12) (h0 : et_pl (eg_at G th) 0 = some (.ref s0)) (k_s0 : K s0 = some 10) (h5 : et_pl (eg_at G s0) 5 = some (.int (Int32.ofNat ec))) (hec : ec ≤ 3) (h6 : et_pl (eg_at G s0) 6 = some (.ref ya)) (k_ya : K ya = some 40) (hn : n < ec) (hE : et_pl (eg_at G ya) n = some (.ref e)) (t9 : evK K e ca ki kn w Kd) (hd9 : ¬ kn = ca ∧ ¬ kn = ki) (hv : evC G e ca ki kn w C Kd N l s t f) (g7 : et_pl (eg_at G s0) 7 = some (.int (Int32.ofNat tc))) (htc : tc ≤ 4) (g8 : et_pl (eg_at G s0) 8 = some (.ref ta)) (k_ta : K ta = some 38) (hk : k < tc) (hT : et_pl (eg_at G ta) k = some (.ref tn)) (g2 : et_pl (eg_at G s0) 2 = some (.int (Int32.ofNat nc))) (hnc : nc ≤ 20) (g3 : et_pl (eg_at G s0) 3 = some (.ref la)) (k_la : K la = some 17) (g4 : et_pl (eg_at G s0) 4 = some (.ref ly)) (k_ly : K ly = some 27) (hc : c < nc) (hx : et_pl (eg_at G la) c = some (.int x)) (hy : et_pl (eg_at G ly) c = some (.int (Int32.ofNat (if ye = true then 1 else 0)))) (h4 : et_pl (eg_at G th) 4 = some (.ref fo)) (k_fo : K fo = some 4) (ht : tuC K G tn ls) (hcl : ∀ l ∈ ls, lcl1 l) (k_out : K out = some 31) (hd : 22 ≤ d2) (h : ∀ G', et_H et_TT K G' → xf (fun b j => (b = e ∧ (4 ≤ j ∧ j ≤ 5)) ∨ (b = kn ∧ (0 ≤ j ∧ j ≤ 5)) ∨ (b = fo ∧ (1 ≤ j ∧ j ≤ 6)) ∨ (b = out ∧ j = 0)) G G' → evC G' e ca ki kn w C Kd (nxN C Kd x w t f ls ye (N, l, s)).1 (nxN C Kd x w t f ls ye (N, l, s)).2.1 (nxN C Kd x w t f ls ye (N, l, s)).2.2 t f → et_pl (eg_at G' out) 0 = some (.long (Int64.ofNat (if shW C Kd x w ye (N, l, s) = true then 1 else 0))) → Z (.inl (some (.int (Int32.ofNat 0))), G', 0, 0)) : et_go none d2 12 0 (eg_en (eg_mL 12) [.ref th, .int (Int32.ofNat n), .int (Int32.ofNat c), .int (Int32.ofNat k), .ref out]) [] G 0 0 Z := by
  obtain ⟨d, rfl⟩ : ∃ d, d2 = d + 22 := ⟨d2 - 22, by omega⟩
  have k_e := t9.1.1
  have k_ca := t9.1.2.1
  have k_ki := t9.1.2.2.1
  have k_kn := t9.1.2.2.2
  have hw6 := t9.2.1
  have k_tn := ht.kt
  have hHo := hH
  rw [show eg_mL 12 = 6 from by decide +kernel]
  show et_go none (d + 22) 12 0 [some (.ref th), some (.int (Int32.ofNat n)), some (.int (Int32.ofNat c)), some (.int (Int32.ofNat k)), some (.ref out), none] [] G 0 0 _
  have lt_th := (hH.2.2 _ _ k_th).1
  have lt_s0 := (hH.2.2 _ _ k_s0).1
  have lt_ya := (hH.2.2 _ _ k_ya).1
  have lt_e := (hH.2.2 _ _ k_e).1
  have lt_ca := (hH.2.2 _ _ k_ca).1
  have lt_ki := (hH.2.2 _ _ k_ki).1
  have lt_kn := (hH.2.2 _ _ k_kn).1
  have lt_ta := (hH.2.2 _ _ k_ta).1
  have lt_la := (hH.2.2 _ _ k_la).1
  have lt_ly := (hH.2.2 _ _ k_ly).1
  have lt_fo := (hH.2.2 _ _ k_fo).1
  have lt_tn := (hH.2.2 _ _ k_tn).1
  have lt_out := (hH.2.2 _ _ k_out).1
  have hX : xf (fun b j => (b = e ∧ (4 ≤ j ∧ j ≤ 5)) ∨ (b = kn ∧ (0 ≤ j ∧ j ≤ 5)) ∨ (b = fo ∧ (1 ≤ j ∧ j ≤ 6)) ∨ (b = out ∧ j = 0)) G G := xf.rf
  refine hs_aload (i := 4) (p := 2) (by decide +kernel) rfl ?_
  refine hs_k (x := Int32.ofNat 0) (p := 3) (by decide +kernel) ?_
  refine hs_aload (i := 0) (p := 4) (by decide +kernel) rfl ?_
  refine hs_iload (i := 1) (p := 5) (by decide +kernel) rfl ?_
  refine hs_iload (i := 2) (p := 6) (by decide +kernel) rfl ?_
  refine hs_iload (i := 3) (p := 7) (by decide +kernel) rfl ?_
  refine ht_callv (T := et_TT) (t := 12) (mi := 146) (na := 3) (ci := 10) (lk := 6) (lm := 6) (L0 := eg_en (eg_mL 146) [.ref th, .int (Int32.ofNat n), .int (Int32.ofNat c), .int (Int32.ofNat k)]) (by decide +kernel) rfl hH k_th rfl rfl rfl rfl rfl (by rw [show eg_mL 146 = 6 from by decide +kernel]; first | done | rfl) ?_
  refine fc_show hH k_th h0 k_s0 h5 hec h6 k_ya hn hE t9 hd9 hv g7 htc g8 k_ta hk hT g2 hnc g3 k_la g4 k_ly hc hx hy h4 k_fo ht hcl (by omega) (fun G7 hH x7 hv => ?_)
  have lt_th := Nat.lt_of_lt_of_le lt_th x7.1
  have lt_s0 := Nat.lt_of_lt_of_le lt_s0 x7.1
  have lt_ya := Nat.lt_of_lt_of_le lt_ya x7.1
  have lt_e := Nat.lt_of_lt_of_le lt_e x7.1
  have lt_ca := Nat.lt_of_lt_of_le lt_ca x7.1
  have lt_ki := Nat.lt_of_lt_of_le lt_ki x7.1
  have lt_kn := Nat.lt_of_lt_of_le lt_kn x7.1
  have lt_ta := Nat.lt_of_lt_of_le lt_ta x7.1
  have lt_la := Nat.lt_of_lt_of_le lt_la x7.1
  have lt_ly := Nat.lt_of_lt_of_le lt_ly x7.1
  have lt_fo := Nat.lt_of_lt_of_le lt_fo x7.1
  have lt_tn := Nat.lt_of_lt_of_le lt_tn x7.1
  have lt_out := Nat.lt_of_lt_of_le lt_out x7.1
  have hX := hX.tr x7 (fun b j hb h => by first | omega | (dsimp only at h ⊢; omega) | (dsimp only at h; omega))
  refine hs_cb ?_
  by_cases hs9 : shW C Kd x w ye (N, l, s) = true
  · rw [if_pos hs9]
    show et_go none _ 12 10 _ [.int (Int32.ofNat 1), .int (Int32.ofNat 0), .ref out] _ _ _ _
    refine hs_if0 (c := .eq) (t := 17) (f := 13) (by decide +kernel) (show ¬ (Int32.ofNat 1 = 0) by decide) ?_
    refine hs_st (ins := .lconst 1) (len := 1) (p := 14) (by decide +kernel) rfl rfl ?_
    refine hs_goto (p := 18) (by decide +kernel) ?_
    have hHo := hH
    refine hf_lst (T := et_TT) (t := 31) (N := 1) (p := 19) (by decide +kernel) rfl rfl hH k_out (by omega) (by decide) (fun G18 hH x18 e18 => ?_)
    have hv := hv.xs t9 hHo x18 (fun b j h => by rw [h.1, k_out]; exact ⟨by decide, by decide⟩)
    have lt_th := Nat.lt_of_lt_of_le lt_th x18.1
    have lt_s0 := Nat.lt_of_lt_of_le lt_s0 x18.1
    have lt_ya := Nat.lt_of_lt_of_le lt_ya x18.1
    have lt_e := Nat.lt_of_lt_of_le lt_e x18.1
    have lt_ca := Nat.lt_of_lt_of_le lt_ca x18.1
    have lt_ki := Nat.lt_of_lt_of_le lt_ki x18.1
    have lt_kn := Nat.lt_of_lt_of_le lt_kn x18.1
    have lt_ta := Nat.lt_of_lt_of_le lt_ta x18.1
    have lt_la := Nat.lt_of_lt_of_le lt_la x18.1
    have lt_ly := Nat.lt_of_lt_of_le lt_ly x18.1
    have lt_fo := Nat.lt_of_lt_of_le lt_fo x18.1
    have lt_tn := Nat.lt_of_lt_of_le lt_tn x18.1
    have lt_out := Nat.lt_of_lt_of_le lt_out x18.1
    have hX := hX.tr x18 (fun b j hb h => by first | omega | (dsimp only at h ⊢; omega) | (dsimp only at h; omega) | (dsimp only; omega))
    refine hs_goto (p := 26) (by decide +kernel) ?_
    refine hs_k (x := Int32.ofNat 0) (p := 27) (by decide +kernel) ?_
    refine hs_iret (by decide +kernel) ?_
    exact h _ hH hX hv (by rw [if_pos hs9]; exact e18)
  · rw [if_neg hs9]
    show et_go none _ 12 10 _ [.int (Int32.ofNat 0), .int (Int32.ofNat 0), .ref out] _ _ _ _
    refine hs_if1 (c := .eq) (t := 17) (f := 13) (by decide +kernel) (show Int32.ofNat 0 = 0 by decide) ?_
    refine hs_st (ins := .lconst 0) (len := 1) (p := 18) (by decide +kernel) rfl rfl ?_
    have hHo := hH
    refine hf_lst (T := et_TT) (t := 31) (N := 1) (p := 19) (by decide +kernel) rfl rfl hH k_out (by omega) (by decide) (fun G18 hH x18 e18 => ?_)
    have hv := hv.xs t9 hHo x18 (fun b j h => by rw [h.1, k_out]; exact ⟨by decide, by decide⟩)
    have lt_th := Nat.lt_of_lt_of_le lt_th x18.1
    have lt_s0 := Nat.lt_of_lt_of_le lt_s0 x18.1
    have lt_ya := Nat.lt_of_lt_of_le lt_ya x18.1
    have lt_e := Nat.lt_of_lt_of_le lt_e x18.1
    have lt_ca := Nat.lt_of_lt_of_le lt_ca x18.1
    have lt_ki := Nat.lt_of_lt_of_le lt_ki x18.1
    have lt_kn := Nat.lt_of_lt_of_le lt_kn x18.1
    have lt_ta := Nat.lt_of_lt_of_le lt_ta x18.1
    have lt_la := Nat.lt_of_lt_of_le lt_la x18.1
    have lt_ly := Nat.lt_of_lt_of_le lt_ly x18.1
    have lt_fo := Nat.lt_of_lt_of_le lt_fo x18.1
    have lt_tn := Nat.lt_of_lt_of_le lt_tn x18.1
    have lt_out := Nat.lt_of_lt_of_le lt_out x18.1
    have hX := hX.tr x18 (fun b j hb h => by first | omega | (dsimp only at h ⊢; omega) | (dsimp only at h; omega) | (dsimp only; omega))
    refine hs_goto (p := 26) (by decide +kernel) ?_
    refine hs_k (x := Int32.ofNat 0) (p := 27) (by decide +kernel) ?_
    refine hs_iret (by decide +kernel) ?_
    exact h _ hH hX hv (by rw [if_neg hs9]; exact e18)
theorem fh_showN (hH : et_H et_TT K G) (k_th : K th = some 12) (h0 : et_pl (eg_at G th) 0 = some (.ref s0)) (k_s0 : K s0 = some 10) (h5 : et_pl (eg_at G s0) 5 = some (.int (Int32.ofNat ec))) (hec : ec ≤ 3) (h6 : et_pl (eg_at G s0) 6 = some (.ref ya)) (k_ya : K ya = some 40) (hO : ∀ n, n < ec → ∃ e, et_pl (eg_at G ya) n = some (.ref e)) (g7 : et_pl (eg_at G s0) 7 = some (.int (Int32.ofNat tc))) (htc : tc ≤ 4) (g8 : et_pl (eg_at G s0) 8 = some (.ref ta)) (k_ta : K ta = some 38) (hTu : ∀ k, k < tc → ∃ q, et_pl (eg_at G ta) k = some (.ref q)) (g2 : et_pl (eg_at G s0) 2 = some (.int (Int32.ofNat nc))) (hnc : nc ≤ 20) (hne : ¬ (xr x ec ∧ xr y nc ∧ xr z tc)) (hd : 2 ≤ d2) : et_go none d2 12 0 (eg_en (eg_mL 12) [.ref th, .int x, .int y, .int z, .ref out]) [] G 0 0 (fun u => u.1 = .inl (some (.int (Int32.ofNat 1))) ∧ u.2.1 = G) := by
  obtain ⟨d, rfl⟩ : ∃ d, d2 = d + 2 := ⟨d2 - 2, by omega⟩
  rw [show eg_mL 12 = 6 from by decide +kernel]
  show et_go none (d + 2) 12 0 [some (.ref th), some (.int x), some (.int y), some (.int z), some (.ref out), none] [] G 0 0 _
  have lt_th := (hH.2.2 _ _ k_th).1
  refine hs_aload (i := 4) (p := 2) (by decide +kernel) rfl ?_
  refine hs_k (x := Int32.ofNat 0) (p := 3) (by decide +kernel) ?_
  refine hs_aload (i := 0) (p := 4) (by decide +kernel) rfl ?_
  refine hs_iload (i := 1) (p := 5) (by decide +kernel) rfl ?_
  refine hs_iload (i := 2) (p := 6) (by decide +kernel) rfl ?_
  refine hs_iload (i := 3) (p := 7) (by decide +kernel) rfl ?_
  refine ht_callv (T := et_TT) (t := 12) (mi := 146) (na := 3) (ci := 10) (lk := 6) (lm := 6) (L0 := eg_en (eg_mL 146) [.ref th, .int x, .int y, .int z]) (by decide +kernel) rfl hH k_th rfl rfl rfl rfl rfl (by rw [show eg_mL 146 = 6 from by decide +kernel]; first | done | rfl) ?_
  refine (fc_showN hH k_th h0 k_s0 h5 hec h6 k_ya hO g7 htc g8 k_ta hTu g2 hnc hne (by omega)).mono (fun u hu => ?_)
  obtain ⟨c7, s7, rfl⟩ := hu
  refine hs_ch (h := 22) (i := 5) (n := 2) (hh := (eg_mh 12).getD []) (by decide +kernel) ⟨by decide +kernel, by decide +kernel⟩ (Nat.le_of_ble_eq_true rfl) ?_
  show et_go none _ 12 24 [some (.ref th), some (.int x), some (.int y), some (.int z), some (.ref out), none] [] _ _ _ _
  refine hs_k (x := Int32.ofNat 1) (p := 25) (by decide +kernel) ?_
  refine hs_iret (by decide +kernel) ?_
  exact ⟨rfl, rfl⟩
end VIA
end
section
/-! PHASE D: the class's turned -/
section VJD
variable (C : Nat → Int32) (Kd : Nat → Nat) (X : Nat → Int32) (B : Nat → Bool) (w : Nat) (t f : Int32) (ls : List sp_L)
/-- behind the first cards of a ROUND -/
def rdS : Nat → ((Nat → Int32) × Int32 × Int32) → ((Nat → Int32) × Int32 × Int32)
  | 0, v => v
  | c + 1, v => nxN C Kd (X c) w t f ls (B c) (rdS c v)
def rdW : Nat → ((Nat → Int32) × Int32 × Int32) → Bool
  | 0, _ => false
  | c + 1, v => rdW c v || shW C Kd (X c) w (B c) (rdS C Kd X B w t f ls c v)
/-- TURNED: m ROUNDS at most, of which this is number r -/
def tdG (nc : Nat) : Nat → Nat → ((Nat → Int32) × Int32 × Int32) → ((Nat → Int32) × Int32 × Int32) × Int32
  | 0, _, v => (v, -1)
  | m + 1, r, v => if rdW C Kd X B w t f ls nc v = true then tdG nc m (r + 1) (rdS C Kd X B w t f ls nc v) else (rdS C Kd X B w t f ls nc v, Int32.ofNat r)
theorem tdG_y {nc m r : Nat} {v : (Nat → Int32) × Int32 × Int32} (h : rdW C Kd X B w t f ls nc v = true) : tdG C Kd X B w t f ls nc (m + 1) r v = tdG C Kd X B w t f ls nc m (r + 1) (rdS C Kd X B w t f ls nc v) := if_pos h
theorem tdG_n {nc m r : Nat} {v : (Nat → Int32) × Int32 × Int32} (h : ¬ rdW C Kd X B w t f ls nc v = true) : tdG C Kd X B w t f ls nc (m + 1) r v = (rdS C Kd X B w t f ls nc v, Int32.ofNat r) := if_neg h
end VJD
theorem or01 (a b : Bool) : (Int32.ofNat (if a = true then 1 else 0) ||| Int32.ofNat (if b = true then 1 else 0)) = Int32.ofNat (if (a || b) = true then 1 else 0) := by
  cases a <;> cases b <;> decide
section VJA
variable {K : et_K} {G : eg_G} {d d2 th s0 ya ta la ly e ca ki kn w m fo tn n c k r ec tc nc out z : Nat} {C : Nat → Int32} {X : Nat → Int32} {B : Nat → Bool} {Kd : Nat → Nat} {t f x y zz : Int32} {ls : List sp_L} {Z : eg_O → Prop} {v : (Nat → Int32) × Int32 × Int32} {x1 x2 x7 x8 : Option Value}
theorem fc_rdL (hH : et_H et_TT K G) (k_th : K th = some 12) (h0 : et_pl (eg_at G th) 0 = some (.ref s0)) (k_s0 : K s0 = some 10) (t9 : evK K e ca ki kn w Kd) (hd9 : ¬ kn = ca ∧ ¬ kn = ki) (hv : evC G e ca ki kn w C Kd (rdS C Kd X B w t f ls c v).1 (rdS C Kd X B w t f ls c v).2.1 (rdS C Kd X B w t f ls c v).2.2 t f) (g2 : et_pl (eg_at G s0) 2 = some (.int (Int32.ofNat nc))) (hnc : nc ≤ 20) (g3 : et_pl (eg_at G s0) 3 = some (.ref la)) (k_la : K la = some 17) (g4 : et_pl (eg_at G s0) 4 = some (.ref ly)) (k_ly : K ly = some 27) (hla : ∀ c, c < nc → et_pl (eg_at G la) c = some (.int (X c))) (hly : ∀ c, c < nc → et_pl (eg_at G ly) c = some (.int (Int32.ofNat (if B c = true then 1 else 0)))) (h4 : et_pl (eg_at G th) 4 = some (.ref fo)) (k_fo : K fo = some 4) (ht : tuC K G tn ls) (hcl : ∀ l ∈ ls, lcl1 l) (hc : c ≤ nc) (h : ∀ G', et_H et_TT K G' → xf (fun b j => (b = e ∧ (4 ≤ j ∧ j ≤ 5)) ∨ (b = kn ∧ (0 ≤ j ∧ j ≤ 5)) ∨ (b = fo ∧ (1 ≤ j ∧ j ≤ 6))) G G' → evC G' e ca ki kn w C Kd (rdS C Kd X B w t f ls nc v).1 (rdS C Kd X B w t f ls nc v).2.1 (rdS C Kd X B w t f ls nc v).2.2 t f → et_go none (d + 21) 148 102 [some (.ref th), x1, x2, some (.int (Int32.ofNat z)), some (.ref e), some (.ref tn), some (.int (Int32.ofNat r)), some (.int (Int32.ofNat (if (rdW C Kd X B w t f ls nc v) = true then 1 else 0))), some (.int (Int32.ofNat nc))] [] G' 0 0 Z) : et_go none (d + 21) 148 48 [some (.ref th), x1, x2, some (.int (Int32.ofNat z)), some (.ref e), some (.ref tn), some (.int (Int32.ofNat r)), some (.int (Int32.ofNat (if (rdW C Kd X B w t f ls c v) = true then 1 else 0))), some (.int (Int32.ofNat c))] [] G 0 0 Z := by
  induction hz : nc - c using Nat.strongRecOn generalizing c G with
  | _ q ih =>
    have k_e := t9.1.1
    have k_ca := t9.1.2.1
    have k_ki := t9.1.2.2.1
    have k_kn := t9.1.2.2.2
    have hw6 := t9.2.1
    have k_tn := ht.kt
    have lt_th := (hH.2.2 _ _ k_th).1
    have lt_s0 := (hH.2.2 _ _ k_s0).1
    have lt_la := (hH.2.2 _ _ k_la).1
    have lt_ly := (hH.2.2 _ _ k_ly).1
    have lt_fo := (hH.2.2 _ _ k_fo).1
    have lt_tn := (hH.2.2 _ _ k_tn).1
    have lt_e := (hH.2.2 _ _ k_e).1
    have lt_ca := (hH.2.2 _ _ k_ca).1
    have lt_ki := (hH.2.2 _ _ k_ki).1
    have lt_kn := (hH.2.2 _ _ k_kn).1
    have hX : xf (fun b j => (b = e ∧ (4 ≤ j ∧ j ≤ 5)) ∨ (b = kn ∧ (0 ≤ j ∧ j ≤ 5)) ∨ (b = fo ∧ (1 ≤ j ∧ j ≤ 6))) G G := xf.rf
    refine hs_iload (i := 8) (p := 50) (by decide +kernel) rfl ?_
    refine hs_aload (i := 0) (p := 51) (by decide +kernel) rfl ?_
    refine hf_get (T := et_TT) (t := 12) (ci := 10) (f := 0) (p := 54) (by decide +kernel) rfl hH k_th h0 ?_
    refine hf_get (T := et_TT) (t := 10) (ci := 8) (f := 2) (p := 57) (by decide +kernel) rfl hH k_s0 g2 ?_
    refine hs_br2n (c := .ge) (t := 102) (f := 60) (by decide +kernel) (by omega) (by omega) (fun (c57 : nc ≤ c) => ?_) (fun (c57 : ¬ (nc ≤ c)) => ?_)
    · obtain rfl : nc = c := by omega
      show et_go none (d + 21) 148 102 [some (.ref th), x1, x2, some (.int (Int32.ofNat z)), some (.ref e), some (.ref tn), some (.int (Int32.ofNat r)), some (.int (Int32.ofNat (if (rdW C Kd X B w t f ls nc v) = true then 1 else 0))), some (.int (Int32.ofNat nc))] [] _ _ _ _
      exact h _ hH hX hv
    · refine hs_iload (i := 7) (p := 62) (by decide +kernel) rfl ?_
      refine hs_aload (i := 4) (p := 64) (by decide +kernel) rfl ?_
      refine hs_aload (i := 0) (p := 65) (by decide +kernel) rfl ?_
      refine hf_get (T := et_TT) (t := 12) (ci := 10) (f := 0) (p := 68) (by decide +kernel) rfl hH k_th h0 ?_
      refine hf_get (T := et_TT) (t := 10) (ci := 8) (f := 3) (p := 71) (by decide +kernel) rfl hH k_s0 g3 ?_
      refine hs_iload (i := 8) (p := 73) (by decide +kernel) rfl ?_
      refine hf_ald (ins := .iaload) (T := et_TT) (t := 17) (kd := 0) (N := 20) (p := 74) (by decide +kernel) (fun _ _ _ _ _ _ _ _ _ _ => rfl) rfl rfl rfl hH k_la (by decide) (hla c (by omega)) ?_
      refine hs_aload (i := 0) (p := 75) (by decide +kernel) rfl ?_
      refine hf_get (T := et_TT) (t := 12) (ci := 10) (f := 0) (p := 78) (by decide +kernel) rfl hH k_th h0 ?_
      refine hf_get (T := et_TT) (t := 10) (ci := 8) (f := 4) (p := 81) (by decide +kernel) rfl hH k_s0 g4 ?_
      refine hs_iload (i := 8) (p := 83) (by decide +kernel) rfl ?_
      refine hf_ald (ins := .baload) (T := et_TT) (t := 27) (kd := 3) (N := 20) (p := 84) (by decide +kernel) (fun _ _ _ _ _ _ _ _ _ _ => rfl) rfl rfl rfl hH k_ly (by decide) (hly c (by omega)) ?_
      refine hs_aload (i := 5) (p := 86) (by decide +kernel) rfl ?_
      refine hs_aload (i := 0) (p := 87) (by decide +kernel) rfl ?_
      refine hf_get (T := et_TT) (t := 12) (ci := 10) (f := 4) (p := 90) (by decide +kernel) rfl hH k_th h4 ?_
      have hHo := hH
      refine ht_callv (T := et_TT) (t := 3) (mi := 44) (na := 4) (ci := 1) (lk := 9) (lm := 10) (L0 := eg_en (eg_mL 44) [.ref e, .int (X c), .int (Int32.ofNat (if B c = true then 1 else 0)), .ref tn, .ref fo]) (by decide +kernel) rfl hH k_e rfl rfl rfl rfl rfl (by rw [show eg_mL 44 = 10 from by decide +kernel]; first | done | rfl) ?_
      refine fd_turn (C := C) (N := (rdS C Kd X B w t f ls c v).1) (ls := ls) (ye := B c) hH t9 hd9 hv ht hcl k_fo (by omega) (fun G90 hH x90 hv => ?_)
      have ht := ht.xs et_ex.rf hHo x90 (fun b j t h h2 => by rcases h2 with h2 | h2 | h2 <;> rw [h2.1] at h <;> first | (rw [k_e] at h; cases h; exact ⟨by decide, by decide, by decide, by decide, by decide⟩) | (rw [k_kn] at h; cases h; exact ⟨by decide, by decide, by decide, by decide, by decide⟩) | (rw [k_fo] at h; cases h; exact ⟨by decide, by decide, by decide, by decide, by decide⟩))
      have hla : ∀ c, c < nc → et_pl (eg_at G90 la) c = some (.int (X c)) := fun (c : Nat) (hc : c < nc) => (x90.2 la c lt_la (fun h => Or.elim h (fun h => (hi_ne k_la k_e (by decide)) h.1) (fun h => Or.elim h (fun h => (hi_ne k_la k_kn (by decide)) h.1) (fun h => (hi_ne k_la k_fo (by decide)) h.1)))).trans (hla c hc)
      have hly : ∀ c, c < nc → et_pl (eg_at G90 ly) c = some (.int (Int32.ofNat (if B c = true then 1 else 0))) := fun (c : Nat) (hc : c < nc) => (x90.2 ly c lt_ly (fun h => Or.elim h (fun h => (hi_ne k_ly k_e (by decide)) h.1) (fun h => Or.elim h (fun h => (hi_ne k_ly k_kn (by decide)) h.1) (fun h => (hi_ne k_ly k_fo (by decide)) h.1)))).trans (hly c hc)
      have h0 := (x90.2 th 0 lt_th (fun h => Or.elim h (fun h => (hi_ne k_th k_e (by decide)) h.1) (fun h => Or.elim h (fun h => (hi_ne k_th k_kn (by decide)) h.1) (fun h => (hi_ne k_th k_fo (by decide)) h.1)))).trans h0
      have g2 := (x90.2 s0 2 lt_s0 (fun h => Or.elim h (fun h => (hi_ne k_s0 k_e (by decide)) h.1) (fun h => Or.elim h (fun h => (hi_ne k_s0 k_kn (by decide)) h.1) (fun h => (hi_ne k_s0 k_fo (by decide)) h.1)))).trans g2
      have g3 := (x90.2 s0 3 lt_s0 (fun h => Or.elim h (fun h => (hi_ne k_s0 k_e (by decide)) h.1) (fun h => Or.elim h (fun h => (hi_ne k_s0 k_kn (by decide)) h.1) (fun h => (hi_ne k_s0 k_fo (by decide)) h.1)))).trans g3
      have g4 := (x90.2 s0 4 lt_s0 (fun h => Or.elim h (fun h => (hi_ne k_s0 k_e (by decide)) h.1) (fun h => Or.elim h (fun h => (hi_ne k_s0 k_kn (by decide)) h.1) (fun h => (hi_ne k_s0 k_fo (by decide)) h.1)))).trans g4
      have h4 := (x90.2 th 4 lt_th (fun h => Or.elim h (fun h => (hi_ne k_th k_e (by decide)) h.1) (fun h => Or.elim h (fun h => (hi_ne k_th k_kn (by decide)) h.1) (fun h => (hi_ne k_th k_fo (by decide)) h.1)))).trans h4
      have lt_th := Nat.lt_of_lt_of_le lt_th x90.1
      have lt_s0 := Nat.lt_of_lt_of_le lt_s0 x90.1
      have lt_la := Nat.lt_of_lt_of_le lt_la x90.1
      have lt_ly := Nat.lt_of_lt_of_le lt_ly x90.1
      have lt_fo := Nat.lt_of_lt_of_le lt_fo x90.1
      have lt_tn := Nat.lt_of_lt_of_le lt_tn x90.1
      have lt_e := Nat.lt_of_lt_of_le lt_e x90.1
      have lt_ca := Nat.lt_of_lt_of_le lt_ca x90.1
      have lt_ki := Nat.lt_of_lt_of_le lt_ki x90.1
      have lt_kn := Nat.lt_of_lt_of_le lt_kn x90.1
      have hX := hX.tr x90 (fun b j hb h => by first | omega | (dsimp only at h ⊢; omega) | (dsimp only at h; omega))
      refine hs_cb ?_
      show et_go none _ 148 93 _ [.int (Int32.ofNat (if shW C Kd (X c) w (B c) ((rdS C Kd X B w t f ls c v).1, (rdS C Kd X B w t f ls c v).2.1, (rdS C Kd X B w t f ls c v).2.2) = true then 1 else 0)), .int (Int32.ofNat (if (rdW C Kd X B w t f ls c v) = true then 1 else 0))] _ _ _ _
      refine hs_st (ins := .ior) (len := 1) (p := 94) (by decide +kernel) rfl rfl ?_
      show et_go none _ 148 94 _ [.int (Int32.ofNat (if (rdW C Kd X B w t f ls c v) = true then 1 else 0) ||| Int32.ofNat (if shW C Kd (X c) w (B c) ((rdS C Kd X B w t f ls c v).1, (rdS C Kd X B w t f ls c v).2.1, (rdS C Kd X B w t f ls c v).2.2) = true then 1 else 0))] _ _ _ _
      rw [or01]
      refine hs_istore (i := 7) (p := 96) (by decide +kernel) (Nat.le_of_ble_eq_true rfl) ?_
      refine hs_iinc1 (i := 8) (p := 99) (by decide +kernel) rfl (Nat.le_of_ble_eq_true rfl) ?_
      refine hs_goto (p := 48) (by decide +kernel) ?_
      show et_go none (d + 21) 148 48 [some (.ref th), x1, x2, some (.int (Int32.ofNat z)), some (.ref e), some (.ref tn), some (.int (Int32.ofNat r)), some (.int (Int32.ofNat (if (rdW C Kd X B w t f ls (c + 1) v) = true then 1 else 0))), some (.int (Int32.ofNat (c + 1)))] [] _ _ _ _
      exact ih (nc - (c + 1)) (by omega) hH h0 hv g2 g3 g4 hla hly h4 ht (by omega) (fun G9 h1 h2 h3 => h G9 h1 (hX.tr h2 (fun _ _ _ hs => hs)) h3) rfl
theorem fc_tdL (hH : et_H et_TT K G) (k_th : K th = some 12) (h0 : et_pl (eg_at G th) 0 = some (.ref s0)) (k_s0 : K s0 = some 10) (t9 : evK K e ca ki kn w Kd) (hd9 : ¬ kn = ca ∧ ¬ kn = ki) (hv : evC G e ca ki kn w C Kd v.1 v.2.1 v.2.2 t f) (g2 : et_pl (eg_at G s0) 2 = some (.int (Int32.ofNat nc))) (hnc : nc ≤ 20) (g3 : et_pl (eg_at G s0) 3 = some (.ref la)) (k_la : K la = some 17) (g4 : et_pl (eg_at G s0) 4 = some (.ref ly)) (k_ly : K ly = some 27) (hla : ∀ c, c < nc → et_pl (eg_at G la) c = some (.int (X c))) (hly : ∀ c, c < nc → et_pl (eg_at G ly) c = some (.int (Int32.ofNat (if B c = true then 1 else 0)))) (h4 : et_pl (eg_at G th) 4 = some (.ref fo)) (k_fo : K fo = some 4) (ht : tuC K G tn ls) (hcl : ∀ l ∈ ls, lcl1 l) (hm : m + r = z + 1) (hr : 1 ≤ r) (hz6 : z ≤ 60) (h : ∀ G', et_H et_TT K G' → xf (fun b j => (b = e ∧ (4 ≤ j ∧ j ≤ 5)) ∨ (b = kn ∧ (0 ≤ j ∧ j ≤ 5)) ∨ (b = fo ∧ (1 ≤ j ∧ j ≤ 6))) G G' → evC G' e ca ki kn w C Kd (tdG C Kd X B w t f ls nc m r v).1.1 (tdG C Kd X B w t f ls nc m r v).1.2.1 (tdG C Kd X B w t f ls nc m r v).1.2.2 t f → Z (.inl (some (.int (tdG C Kd X B w t f ls nc m r v).2)), G', 0, 0)) : et_go none (d + 21) 148 36 [some (.ref th), x1, x2, some (.int (Int32.ofNat z)), some (.ref e), some (.ref tn), some (.int (Int32.ofNat r)), x7, x8] [] G 0 0 Z := by
  induction m generalizing r v G x7 x8 with
  | zero =>
    refine hs_iload (i := 6) (p := 38) (by decide +kernel) rfl ?_
    refine hs_iload (i := 3) (p := 39) (by decide +kernel) rfl ?_
    refine hs_br2n (c := .gt) (t := 116) (f := 42) (by decide +kernel) (by omega) (by omega) (fun (c39 : z < r) => ?_) (fun (c39 : ¬ (z < r)) => ?_)
    · refine hs_k (x := (-1)) (p := 117) (by decide +kernel) ?_
      refine hs_iret (by decide +kernel) ?_
      exact h _ hH xf.rf hv
    · exact absurd (show z < r by omega) c39
  | succ m ih =>
    have hH9 := hH
    refine hs_iload (i := 6) (p := 38) (by decide +kernel) rfl ?_
    refine hs_iload (i := 3) (p := 39) (by decide +kernel) rfl ?_
    refine hs_br2n (c := .gt) (t := 116) (f := 42) (by decide +kernel) (by omega) (by omega) (fun (c39 : z < r) => ?_) (fun (c39 : ¬ (z < r)) => ?_)
    · exact absurd c39 (by omega)
    · refine hs_k (x := Int32.ofNat 0) (p := 43) (by decide +kernel) ?_
      refine hs_istore (i := 7) (p := 45) (by decide +kernel) (Nat.le_of_ble_eq_true rfl) ?_
      refine hs_k (x := Int32.ofNat 0) (p := 46) (by decide +kernel) ?_
      refine hs_istore (i := 8) (p := 48) (by decide +kernel) (Nat.le_of_ble_eq_true rfl) ?_
      show et_go none (d + 21) 148 48 [some (.ref th), x1, x2, some (.int (Int32.ofNat z)), some (.ref e), some (.ref tn), some (.int (Int32.ofNat r)), some (.int (Int32.ofNat (if (rdW C Kd X B w t f ls 0 v) = true then 1 else 0))), some (.int (Int32.ofNat 0))] [] _ _ _ _
      refine fc_rdL (c := 0) hH k_th h0 k_s0 t9 hd9 hv g2 hnc g3 k_la g4 k_ly hla hly h4 k_fo ht hcl (Nat.zero_le _) (fun G9 hH x9 hv => ?_)
      have hHo := hH9
      have k_e := t9.1.1
      have k_ca := t9.1.2.1
      have k_ki := t9.1.2.2.1
      have k_kn := t9.1.2.2.2
      have hw6 := t9.2.1
      have lt_th := (hHo.2.2 _ _ k_th).1
      have lt_s0 := (hHo.2.2 _ _ k_s0).1
      have lt_la := (hHo.2.2 _ _ k_la).1
      have lt_ly := (hHo.2.2 _ _ k_ly).1
      have lt_fo := (hHo.2.2 _ _ k_fo).1
      have h0 := (x9.2 th 0 lt_th (fun h => Or.elim h (fun h => (hi_ne k_th k_e (by decide)) h.1) (fun h => Or.elim h (fun h => (hi_ne k_th k_kn (by decide)) h.1) (fun h => (hi_ne k_th k_fo (by decide)) h.1)))).trans h0
      have g2 := (x9.2 s0 2 lt_s0 (fun h => Or.elim h (fun h => (hi_ne k_s0 k_e (by decide)) h.1) (fun h => Or.elim h (fun h => (hi_ne k_s0 k_kn (by decide)) h.1) (fun h => (hi_ne k_s0 k_fo (by decide)) h.1)))).trans g2
      have g3 := (x9.2 s0 3 lt_s0 (fun h => Or.elim h (fun h => (hi_ne k_s0 k_e (by decide)) h.1) (fun h => Or.elim h (fun h => (hi_ne k_s0 k_kn (by decide)) h.1) (fun h => (hi_ne k_s0 k_fo (by decide)) h.1)))).trans g3
      have g4 := (x9.2 s0 4 lt_s0 (fun h => Or.elim h (fun h => (hi_ne k_s0 k_e (by decide)) h.1) (fun h => Or.elim h (fun h => (hi_ne k_s0 k_kn (by decide)) h.1) (fun h => (hi_ne k_s0 k_fo (by decide)) h.1)))).trans g4
      have h4 := (x9.2 th 4 lt_th (fun h => Or.elim h (fun h => (hi_ne k_th k_e (by decide)) h.1) (fun h => Or.elim h (fun h => (hi_ne k_th k_kn (by decide)) h.1) (fun h => (hi_ne k_th k_fo (by decide)) h.1)))).trans h4
      have hla : ∀ c, c < nc → et_pl (eg_at G9 la) c = some (.int (X c)) := fun (c : Nat) (hc : c < nc) => (x9.2 la c lt_la (fun h => Or.elim h (fun h => (hi_ne k_la k_e (by decide)) h.1) (fun h => Or.elim h (fun h => (hi_ne k_la k_kn (by decide)) h.1) (fun h => (hi_ne k_la k_fo (by decide)) h.1)))).trans (hla c hc)
      have hly : ∀ c, c < nc → et_pl (eg_at G9 ly) c = some (.int (Int32.ofNat (if B c = true then 1 else 0))) := fun (c : Nat) (hc : c < nc) => (x9.2 ly c lt_ly (fun h => Or.elim h (fun h => (hi_ne k_ly k_e (by decide)) h.1) (fun h => Or.elim h (fun h => (hi_ne k_ly k_kn (by decide)) h.1) (fun h => (hi_ne k_ly k_fo (by decide)) h.1)))).trans (hly c hc)
      have ht := ht.xs et_ex.rf hHo x9 (fun b j t h h2 => by rcases h2 with h2 | h2 | h2 <;> rw [h2.1] at h <;> first | (rw [k_e] at h; cases h; exact ⟨by decide, by decide, by decide, by decide, by decide⟩) | (rw [k_kn] at h; cases h; exact ⟨by decide, by decide, by decide, by decide, by decide⟩) | (rw [k_fo] at h; cases h; exact ⟨by decide, by decide, by decide, by decide, by decide⟩))
      by_cases hw : (rdW C Kd X B w t f ls nc v) = true
      · rw [if_pos hw]
        show et_go none (d + 21) 148 102 [some (.ref th), x1, x2, some (.int (Int32.ofNat z)), some (.ref e), some (.ref tn), some (.int (Int32.ofNat r)), some (.int (Int32.ofNat 1)), some (.int (Int32.ofNat nc))] [] _ _ _ _
        refine hs_iload (i := 7) (p := 104) (by decide +kernel) rfl ?_
        refine hs_if1 (c := .ne) (t := 110) (f := 107) (by decide +kernel) (show ¬ Int32.ofNat 1 = 0 by decide) ?_
        refine hs_iinc1 (i := 6) (p := 113) (by decide +kernel) rfl (Nat.le_of_ble_eq_true rfl) ?_
        refine hs_goto (p := 36) (by decide +kernel) ?_
        show et_go none (d + 21) 148 36 [some (.ref th), x1, x2, some (.int (Int32.ofNat z)), some (.ref e), some (.ref tn), some (.int (Int32.ofNat (r + 1))), some (.int (Int32.ofNat 1)), some (.int (Int32.ofNat nc))] [] _ _ _ _
        rw [tdG_y _ _ _ _ _ _ _ _ hw] at h
        exact ih (v := (rdS C Kd X B w t f ls nc v)) (r := r + 1) hH h0 hv g2 g3 g4 hla hly h4 ht (by omega) (by omega) (fun G8 h1 h2 h3 => h G8 h1 (x9.tr h2 (fun _ _ _ hs => hs)) h3)
      · rw [if_neg hw]
        show et_go none (d + 21) 148 102 [some (.ref th), x1, x2, some (.int (Int32.ofNat z)), some (.ref e), some (.ref tn), some (.int (Int32.ofNat r)), some (.int (Int32.ofNat 0)), some (.int (Int32.ofNat nc))] [] _ _ _ _
        refine hs_iload (i := 7) (p := 104) (by decide +kernel) rfl ?_
        refine hs_if0 (c := .ne) (t := 110) (f := 107) (by decide +kernel) (show ¬ (¬ Int32.ofNat 0 = 0) by decide) ?_
        refine hs_iload (i := 6) (p := 109) (by decide +kernel) rfl ?_
        refine hs_iret (by decide +kernel) ?_
        rw [tdG_n _ _ _ _ _ _ _ _ hw] at h
        exact h _ hH x9 hv
theorem fc_turned (hH : et_H et_TT K G) (k_th : K th = some 12) (h0 : et_pl (eg_at G th) 0 = some (.ref s0)) (k_s0 : K s0 = some 10) (h5 : et_pl (eg_at G s0) 5 = some (.int (Int32.ofNat ec))) (hec : ec ≤ 3) (h6 : et_pl (eg_at G s0) 6 = some (.ref ya)) (k_ya : K ya = some 40) (hn : n < ec) (hE : et_pl (eg_at G ya) n = some (.ref e)) (t9 : evK K e ca ki kn w Kd) (hd9 : ¬ kn = ca ∧ ¬ kn = ki) (hv : evC G e ca ki kn w C Kd v.1 v.2.1 v.2.2 t f) (g7 : et_pl (eg_at G s0) 7 = some (.int (Int32.ofNat tc))) (htc : tc ≤ 4) (g8 : et_pl (eg_at G s0) 8 = some (.ref ta)) (k_ta : K ta = some 38) (hk : k < tc) (hT : et_pl (eg_at G ta) k = some (.ref tn)) (g2 : et_pl (eg_at G s0) 2 = some (.int (Int32.ofNat nc))) (hnc : nc ≤ 20) (g3 : et_pl (eg_at G s0) 3 = some (.ref la)) (k_la : K la = some 17) (g4 : et_pl (eg_at G s0) 4 = some (.ref ly)) (k_ly : K ly = some 27) (hla : ∀ c, c < nc → et_pl (eg_at G la) c = some (.int (X c))) (hly : ∀ c, c < nc → et_pl (eg_at G ly) c = some (.int (Int32.ofNat (if B c = true then 1 else 0)))) (h4 : et_pl (eg_at G th) 4 = some (.ref fo)) (k_fo : K fo = some 4) (ht : tuC K G tn ls) (hcl : ∀ l ∈ ls, lcl1 l) (hz : 1 ≤ z ∧ z ≤ 60) (hd : 21 ≤ d2) (h : ∀ G', et_H et_TT K G' → xf (fun b j => (b = e ∧ (4 ≤ j ∧ j ≤ 5)) ∨ (b = kn ∧ (0 ≤ j ∧ j ≤ 5)) ∨ (b = fo ∧ (1 ≤ j ∧ j ≤ 6))) G G' → evC G' e ca ki kn w C Kd (tdG C Kd X B w t f ls nc z 1 v).1.1 (tdG C Kd X B w t f ls nc z 1 v).1.2.1 (tdG C Kd X B w t f ls nc z 1 v).1.2.2 t f → Z (.inl (some (.int (tdG C Kd X B w t f ls nc z 1 v).2)), G', 0, 0)) : et_go none d2 148 0 (eg_en (eg_mL 148) [.ref th, .int (Int32.ofNat n), .int (Int32.ofNat k), .int (Int32.ofNat z)]) [] G 0 0 Z := by
  obtain ⟨d, rfl⟩ : ∃ d, d2 = d + 21 := ⟨d2 - 21, by omega⟩
  have k_e := t9.1.1
  have k_ca := t9.1.2.1
  have k_ki := t9.1.2.2.1
  have k_kn := t9.1.2.2.2
  have hw6 := t9.2.1
  have k_tn := ht.kt
  rw [show eg_mL 148 = 9 from by decide +kernel]
  show et_go none (d + 21) 148 0 [some (.ref th), some (.int (Int32.ofNat n)), some (.int (Int32.ofNat k)), some (.int (Int32.ofNat z)), none, none, none, none, none] [] G 0 0 _
  have lt_th := (hH.2.2 _ _ k_th).1
  have lt_s0 := (hH.2.2 _ _ k_s0).1
  have lt_ya := (hH.2.2 _ _ k_ya).1
  have lt_ta := (hH.2.2 _ _ k_ta).1
  refine hs_aload (i := 0) (p := 1) (by decide +kernel) rfl ?_
  refine hs_iload (i := 1) (p := 2) (by decide +kernel) rfl ?_
  refine ht_callv (T := et_TT) (t := 12) (mi := 128) (na := 1) (ci := 10) (lk := 9) (lm := 2) (L0 := eg_en (eg_mL 128) [.ref th, .int (Int32.ofNat n)]) (by decide +kernel) rfl hH k_th rfl rfl rfl rfl rfl (by rw [show eg_mL 128 = 2 from by decide +kernel]; first | done | rfl) ?_
  refine (fd_needE hH k_th h0 k_s0 h5 hec h6 k_ya hn hE).mono (fun u hu => xp_cb hu ?_)
  show et_go none _ 148 5 _ [.ref e] _ _ _ _
  refine hs_astore (i := 4) (p := 7) (by decide +kernel) (Nat.le_of_ble_eq_true rfl) ?_
  refine hs_aload (i := 0) (p := 8) (by decide +kernel) rfl ?_
  refine hs_iload (i := 2) (p := 9) (by decide +kernel) rfl ?_
  refine ht_callv (T := et_TT) (t := 12) (mi := 147) (na := 1) (ci := 10) (lk := 9) (lm := 2) (L0 := eg_en (eg_mL 147) [.ref th, .int (Int32.ofNat k)]) (by decide +kernel) rfl hH k_th rfl rfl rfl rfl rfl (by rw [show eg_mL 147 = 2 from by decide +kernel]; first | done | rfl) ?_
  refine (fd_needT hH k_th h0 k_s0 g7 htc g8 k_ta hk hT).mono (fun u hu => xp_cb hu ?_)
  show et_go none _ 148 12 _ [.ref tn] _ _ _ _
  refine hs_astore (i := 5) (p := 14) (by decide +kernel) (Nat.le_of_ble_eq_true rfl) ?_
  refine hs_iload (i := 3) (p := 15) (by decide +kernel) rfl ?_
  refine hs_k (x := Int32.ofNat 1) (p := 16) (by decide +kernel) ?_
  refine hs_br2n (c := .lt) (t := 25) (f := 19) (by decide +kernel) (by omega) (by omega) (fun (c16 : z < 1) => ?_) (fun (c16 : ¬ (z < 1)) => ?_)
  · exact absurd c16 (by omega)
  · refine hs_iload (i := 3) (p := 20) (by decide +kernel) rfl ?_
    refine hs_k (x := Int32.ofNat 60) (p := 22) (by decide +kernel) ?_
    refine hs_br2n (c := .le) (t := 33) (f := 25) (by decide +kernel) (by omega) (by omega) (fun (c22 : z ≤ 60) => ?_) (fun (c22 : ¬ (z ≤ 60)) => ?_)
    · refine hs_k (x := Int32.ofNat 1) (p := 34) (by decide +kernel) ?_
      refine hs_istore (i := 6) (p := 36) (by decide +kernel) (Nat.le_of_ble_eq_true rfl) ?_
      show et_go none (d + 21) 148 36 [some (.ref th), some (.int (Int32.ofNat n)), some (.int (Int32.ofNat k)), some (.int (Int32.ofNat z)), some (.ref e), some (.ref tn), some (.int (Int32.ofNat 1)), none, none] [] _ _ _ _
      exact fc_tdL (m := z) hH k_th h0 k_s0 t9 hd9 hv g2 hnc g3 k_la g4 k_ly hla hly h4 k_fo ht hcl rfl (by decide) hz.2 h
    · exact absurd hz.2 c22
theorem fc_turnedN (hH : et_H et_TT K G) (k_th : K th = some 12) (h0 : et_pl (eg_at G th) 0 = some (.ref s0)) (k_s0 : K s0 = some 10) (h5 : et_pl (eg_at G s0) 5 = some (.int (Int32.ofNat ec))) (hec : ec ≤ 3) (h6 : et_pl (eg_at G s0) 6 = some (.ref ya)) (k_ya : K ya = some 40) (hO : ∀ n, n < ec → ∃ e, et_pl (eg_at G ya) n = some (.ref e)) (g7 : et_pl (eg_at G s0) 7 = some (.int (Int32.ofNat tc))) (htc : tc ≤ 4) (g8 : et_pl (eg_at G s0) 8 = some (.ref ta)) (k_ta : K ta = some 38) (hTu : ∀ k, k < tc → ∃ q, et_pl (eg_at G ta) k = some (.ref q)) (hne : ¬ (xr x ec ∧ xr y tc)) (hd : 1 ≤ d2) : et_go none d2 148 0 (eg_en (eg_mL 148) [.ref th, .int x, .int y, .int zz]) [] G 0 0 (ix_Z 1 G) := by
  obtain ⟨d, rfl⟩ : ∃ d, d2 = d + 1 := ⟨d2 - 1, by omega⟩
  rw [show eg_mL 148 = 9 from by decide +kernel]
  show et_go none (d + 1) 148 0 [some (.ref th), some (.int x), some (.int y), some (.int zz), none, none, none, none, none] [] G 0 0 _
  by_cases hx : xr x ec
  · obtain ⟨n, rfl, hn⟩ := xr_nat hx (by omega)
    obtain ⟨e, hE⟩ := hO n hn
    have hz : ¬ xr y tc := fun hz => hne ⟨hx, hz⟩
    have lt_th := (hH.2.2 _ _ k_th).1
    have lt_s0 := (hH.2.2 _ _ k_s0).1
    have lt_ya := (hH.2.2 _ _ k_ya).1
    have lt_ta := (hH.2.2 _ _ k_ta).1
    refine hs_aload (i := 0) (p := 1) (by decide +kernel) rfl ?_
    refine hs_iload (i := 1) (p := 2) (by decide +kernel) rfl ?_
    refine ht_callv (T := et_TT) (t := 12) (mi := 128) (na := 1) (ci := 10) (lk := 9) (lm := 2) (L0 := eg_en (eg_mL 128) [.ref th, .int (Int32.ofNat n)]) (by decide +kernel) rfl hH k_th rfl rfl rfl rfl rfl (by rw [show eg_mL 128 = 2 from by decide +kernel]; first | done | rfl) ?_
    refine (fd_needE hH k_th h0 k_s0 h5 hec h6 k_ya hn hE).mono (fun u hu => xp_cb hu ?_)
    show et_go none _ 148 5 _ [.ref e] _ _ _ _
    refine hs_astore (i := 4) (p := 7) (by decide +kernel) (Nat.le_of_ble_eq_true rfl) ?_
    refine hs_aload (i := 0) (p := 8) (by decide +kernel) rfl ?_
    refine hs_iload (i := 2) (p := 9) (by decide +kernel) rfl ?_
    refine ht_callv (T := et_TT) (t := 12) (mi := 147) (na := 1) (ci := 10) (lk := 9) (lm := 2) (L0 := eg_en (eg_mL 147) [.ref th, .int y]) (by decide +kernel) rfl hH k_th rfl rfl rfl rfl rfl (by rw [show eg_mL 147 = 2 from by decide +kernel]; first | done | rfl) ?_
    refine (fd_needTn hH k_th h0 k_s0 g7 htc g8 k_ta hz).mono (fun u hu => ?_)
    obtain ⟨c9, s9, rfl⟩ := hu
    refine hf_cx (by decide +kernel) ?_
    exact ⟨_, _, rfl⟩
  · have lt_th := (hH.2.2 _ _ k_th).1
    have lt_s0 := (hH.2.2 _ _ k_s0).1
    have lt_ya := (hH.2.2 _ _ k_ya).1
    have lt_ta := (hH.2.2 _ _ k_ta).1
    refine hs_aload (i := 0) (p := 1) (by decide +kernel) rfl ?_
    refine hs_iload (i := 1) (p := 2) (by decide +kernel) rfl ?_
    refine ht_callv (T := et_TT) (t := 12) (mi := 128) (na := 1) (ci := 10) (lk := 9) (lm := 2) (L0 := eg_en (eg_mL 128) [.ref th, .int x]) (by decide +kernel) rfl hH k_th rfl rfl rfl rfl rfl (by rw [show eg_mL 128 = 2 from by decide +kernel]; first | done | rfl) ?_
    refine (fd_needEn hH k_th h0 k_s0 h5 hec h6 k_ya hx).mono (fun u hu => ?_)
    obtain ⟨c2, s2, rfl⟩ := hu
    refine hf_cx (by decide +kernel) ?_
    exact ⟨_, _, rfl⟩
theorem fc_turnedR (hH : et_H et_TT K G) (k_th : K th = some 12) (h0 : et_pl (eg_at G th) 0 = some (.ref s0)) (k_s0 : K s0 = some 10) (h5 : et_pl (eg_at G s0) 5 = some (.int (Int32.ofNat ec))) (hec : ec ≤ 3) (h6 : et_pl (eg_at G s0) 6 = some (.ref ya)) (k_ya : K ya = some 40) (hO : ∀ n, n < ec → ∃ e, et_pl (eg_at G ya) n = some (.ref e)) (g7 : et_pl (eg_at G s0) 7 = some (.int (Int32.ofNat tc))) (htc : tc ≤ 4) (g8 : et_pl (eg_at G s0) 8 = some (.ref ta)) (k_ta : K ta = some 38) (hTu : ∀ k, k < tc → ∃ q, et_pl (eg_at G ta) k = some (.ref q)) (hx : xr x ec) (hy : xr y tc) (hz : ¬ (1 ≤ zz.toInt ∧ zz.toInt ≤ 60)) (hd : 1 ≤ d2) : et_go none d2 148 0 (eg_en (eg_mL 148) [.ref th, .int x, .int y, .int zz]) [] G 0 0 (ix_Z 0 G) := by
  obtain ⟨d, rfl⟩ : ∃ d, d2 = d + 1 := ⟨d2 - 1, by omega⟩
  obtain ⟨n, rfl, hn⟩ := xr_nat hx (by omega)
  obtain ⟨e, hE⟩ := hO n hn
  obtain ⟨k, rfl, hk⟩ := xr_nat hy (by omega)
  obtain ⟨tn, hT⟩ := hTu k hk
  rw [show eg_mL 148 = 9 from by decide +kernel]
  show et_go none (d + 1) 148 0 [some (.ref th), some (.int (Int32.ofNat n)), some (.int (Int32.ofNat k)), some (.int zz), none, none, none, none, none] [] G 0 0 _
  have lt_th := (hH.2.2 _ _ k_th).1
  have lt_s0 := (hH.2.2 _ _ k_s0).1
  have lt_ya := (hH.2.2 _ _ k_ya).1
  have lt_ta := (hH.2.2 _ _ k_ta).1
  refine hs_aload (i := 0) (p := 1) (by decide +kernel) rfl ?_
  refine hs_iload (i := 1) (p := 2) (by decide +kernel) rfl ?_
  refine ht_callv (T := et_TT) (t := 12) (mi := 128) (na := 1) (ci := 10) (lk := 9) (lm := 2) (L0 := eg_en (eg_mL 128) [.ref th, .int (Int32.ofNat n)]) (by decide +kernel) rfl hH k_th rfl rfl rfl rfl rfl (by rw [show eg_mL 128 = 2 from by decide +kernel]; first | done | rfl) ?_
  refine (fd_needE hH k_th h0 k_s0 h5 hec h6 k_ya hn hE).mono (fun u hu => xp_cb hu ?_)
  show et_go none _ 148 5 _ [.ref e] _ _ _ _
  refine hs_astore (i := 4) (p := 7) (by decide +kernel) (Nat.le_of_ble_eq_true rfl) ?_
  refine hs_aload (i := 0) (p := 8) (by decide +kernel) rfl ?_
  refine hs_iload (i := 2) (p := 9) (by decide +kernel) rfl ?_
  refine ht_callv (T := et_TT) (t := 12) (mi := 147) (na := 1) (ci := 10) (lk := 9) (lm := 2) (L0 := eg_en (eg_mL 147) [.ref th, .int (Int32.ofNat k)]) (by decide +kernel) rfl hH k_th rfl rfl rfl rfl rfl (by rw [show eg_mL 147 = 2 from by decide +kernel]; first | done | rfl) ?_
  refine (fd_needT hH k_th h0 k_s0 g7 htc g8 k_ta hk hT).mono (fun u hu => xp_cb hu ?_)
  show et_go none _ 148 12 _ [.ref tn] _ _ _ _
  refine hs_astore (i := 5) (p := 14) (by decide +kernel) (Nat.le_of_ble_eq_true rfl) ?_
  refine hs_iload (i := 3) (p := 15) (by decide +kernel) rfl ?_
  refine hs_k (x := Int32.ofNat 1) (p := 16) (by decide +kernel) ?_
  refine hs_br2 (c := .lt) (t := 25) (f := 19) (by decide +kernel) (fun (c16 : zz < Int32.ofNat 1) => ?_) (fun (c16 : ¬ (zz < Int32.ofNat 1)) => ?_)
  · refine hs_thr (x := 0) (lk := 9) (by decide +kernel) rfl rfl ?_
    exact ⟨_, _, rfl⟩
  · refine hs_iload (i := 3) (p := 20) (by decide +kernel) rfl ?_
    refine hs_k (x := Int32.ofNat 60) (p := 22) (by decide +kernel) ?_
    refine hs_br2 (c := .le) (t := 33) (f := 25) (by decide +kernel) (fun (c22 : zz ≤ Int32.ofNat 60) => ?_) (fun (c22 : ¬ (zz ≤ Int32.ofNat 60)) => ?_)
    · exact absurd (show 1 ≤ zz.toInt ∧ zz.toInt ≤ 60 by rw [xi_ltn (k := 1) (by decide)] at c16; rw [xi_len (k := 60) (by decide)] at c22; omega) hz
    · refine hs_thr (x := 0) (lk := 9) (by decide +kernel) rfl rfl ?_
      exact ⟨_, _, rfl⟩
theorem fh_turned (hH : et_H et_TT K G) (k_th : K th = some 12) (h0 : et_pl (eg_at G th) 0 = some (.ref s0)) (k_s0 : K s0 = some 10) (h5 : et_pl (eg_at G s0) 5 = some (.int (Int32.ofNat ec))) (hec : ec ≤ 3) (h6 : et_pl (eg_at G s0) 6 = some (.ref ya)) (k_ya : K ya = some 40) (hn : n < ec) (hE : et_pl (eg_at G ya) n = some (.ref e)) (t9 : evK K e ca ki kn w Kd) (hd9 : ¬ kn = ca ∧ ¬ kn = ki) (hv : evC G e ca ki kn w C Kd v.1 v.2.1 v.2.2 t f) (g7 : et_pl (eg_at G s0) 7 = some (.int (Int32.ofNat tc))) (htc : tc ≤ 4) (g8 : et_pl (eg_at G s0) 8 = some (.ref ta)) (k_ta : K ta = some 38) (hk : k < tc) (hT : et_pl (eg_at G ta) k = some (.ref tn)) (g2 : et_pl (eg_at G s0) 2 = some (.int (Int32.ofNat nc))) (hnc : nc ≤ 20) (g3 : et_pl (eg_at G s0) 3 = some (.ref la)) (k_la : K la = some 17) (g4 : et_pl (eg_at G s0) 4 = some (.ref ly)) (k_ly : K ly = some 27) (hla : ∀ c, c < nc → et_pl (eg_at G la) c = some (.int (X c))) (hly : ∀ c, c < nc → et_pl (eg_at G ly) c = some (.int (Int32.ofNat (if B c = true then 1 else 0)))) (h4 : et_pl (eg_at G th) 4 = some (.ref fo)) (k_fo : K fo = some 4) (ht : tuC K G tn ls) (hcl : ∀ l ∈ ls, lcl1 l) (k_out : K out = some 31) (hz : 1 ≤ z ∧ z ≤ 60) (hd : 22 ≤ d2) (h : ∀ G', et_H et_TT K G' → xf (fun b j => (b = e ∧ (4 ≤ j ∧ j ≤ 5)) ∨ (b = kn ∧ (0 ≤ j ∧ j ≤ 5)) ∨ (b = fo ∧ (1 ≤ j ∧ j ≤ 6)) ∨ (b = out ∧ j = 0)) G G' → evC G' e ca ki kn w C Kd (tdG C Kd X B w t f ls nc z 1 v).1.1 (tdG C Kd X B w t f ls nc z 1 v).1.2.1 (tdG C Kd X B w t f ls nc z 1 v).1.2.2 t f → et_pl (eg_at G' out) 0 = some (.long (tdG C Kd X B w t f ls nc z 1 v).2.toInt64) → Z (.inl (some (.int (Int32.ofNat 0))), G', 0, 0)) : et_go none d2 13 0 (eg_en (eg_mL 13) [.ref th, .int (Int32.ofNat n), .int (Int32.ofNat k), .int (Int32.ofNat z), .ref out]) [] G 0 0 Z := by
  obtain ⟨d, rfl⟩ : ∃ d, d2 = d + 22 := ⟨d2 - 22, by omega⟩
  have k_e := t9.1.1
  have k_ca := t9.1.2.1
  have k_ki := t9.1.2.2.1
  have k_kn := t9.1.2.2.2
  have hw6 := t9.2.1
  have k_tn := ht.kt
  have hHo := hH
  rw [show eg_mL 13 = 6 from by decide +kernel]
  show et_go none (d + 22) 13 0 [some (.ref th), some (.int (Int32.ofNat n)), some (.int (Int32.ofNat k)), some (.int (Int32.ofNat z)), some (.ref out), none] [] G 0 0 _
  have lt_th := (hH.2.2 _ _ k_th).1
  have lt_s0 := (hH.2.2 _ _ k_s0).1
  have lt_la := (hH.2.2 _ _ k_la).1
  have lt_ly := (hH.2.2 _ _ k_ly).1
  have lt_fo := (hH.2.2 _ _ k_fo).1
  have lt_tn := (hH.2.2 _ _ k_tn).1
  have lt_e := (hH.2.2 _ _ k_e).1
  have lt_ca := (hH.2.2 _ _ k_ca).1
  have lt_ki := (hH.2.2 _ _ k_ki).1
  have lt_kn := (hH.2.2 _ _ k_kn).1
  have lt_ya := (hH.2.2 _ _ k_ya).1
  have lt_ta := (hH.2.2 _ _ k_ta).1
  have lt_out := (hH.2.2 _ _ k_out).1
  have hX : xf (fun b j => (b = e ∧ (4 ≤ j ∧ j ≤ 5)) ∨ (b = kn ∧ (0 ≤ j ∧ j ≤ 5)) ∨ (b = fo ∧ (1 ≤ j ∧ j ≤ 6)) ∨ (b = out ∧ j = 0)) G G := xf.rf
  refine hs_aload (i := 4) (p := 2) (by decide +kernel) rfl ?_
  refine hs_k (x := Int32.ofNat 0) (p := 3) (by decide +kernel) ?_
  refine hs_aload (i := 0) (p := 4) (by decide +kernel) rfl ?_
  refine hs_iload (i := 1) (p := 5) (by decide +kernel) rfl ?_
  refine hs_iload (i := 2) (p := 6) (by decide +kernel) rfl ?_
  refine hs_iload (i := 3) (p := 7) (by decide +kernel) rfl ?_
  refine ht_callv (T := et_TT) (t := 12) (mi := 148) (na := 3) (ci := 10) (lk := 6) (lm := 9) (L0 := eg_en (eg_mL 148) [.ref th, .int (Int32.ofNat n), .int (Int32.ofNat k), .int (Int32.ofNat z)]) (by decide +kernel) rfl hH k_th rfl rfl rfl rfl rfl (by rw [show eg_mL 148 = 9 from by decide +kernel]; first | done | rfl) ?_
  refine fc_turned hH k_th h0 k_s0 h5 hec h6 k_ya hn hE t9 hd9 hv g7 htc g8 k_ta hk hT g2 hnc g3 k_la g4 k_ly hla hly h4 k_fo ht hcl hz (by omega) (fun G7 hH x7 hv => ?_)
  have lt_th := Nat.lt_of_lt_of_le lt_th x7.1
  have lt_s0 := Nat.lt_of_lt_of_le lt_s0 x7.1
  have lt_la := Nat.lt_of_lt_of_le lt_la x7.1
  have lt_ly := Nat.lt_of_lt_of_le lt_ly x7.1
  have lt_fo := Nat.lt_of_lt_of_le lt_fo x7.1
  have lt_tn := Nat.lt_of_lt_of_le lt_tn x7.1
  have lt_e := Nat.lt_of_lt_of_le lt_e x7.1
  have lt_ca := Nat.lt_of_lt_of_le lt_ca x7.1
  have lt_ki := Nat.lt_of_lt_of_le lt_ki x7.1
  have lt_kn := Nat.lt_of_lt_of_le lt_kn x7.1
  have lt_ya := Nat.lt_of_lt_of_le lt_ya x7.1
  have lt_ta := Nat.lt_of_lt_of_le lt_ta x7.1
  have lt_out := Nat.lt_of_lt_of_le lt_out x7.1
  have hX := hX.tr x7 (fun b j hb h => by first | omega | (dsimp only at h ⊢; omega) | (dsimp only at h; omega))
  refine hs_cb ?_
  show et_go none _ 13 10 _ [.int ((tdG C Kd X B w t f ls nc z 1 v).2), .int (Int32.ofNat 0), .ref out] _ _ _ _
  refine hs_i2l (p := 11) (by decide +kernel) ?_
  have hHo := hH
  refine hf_lst (T := et_TT) (t := 31) (N := 1) (p := 12) (by decide +kernel) rfl rfl hH k_out (by omega) (by decide) (fun G11 hH x11 e11 => ?_)
  have hv := hv.xs t9 hHo x11 (fun b j h => by rw [h.1, k_out]; exact ⟨by decide, by decide⟩)
  have lt_th := Nat.lt_of_lt_of_le lt_th x11.1
  have lt_s0 := Nat.lt_of_lt_of_le lt_s0 x11.1
  have lt_la := Nat.lt_of_lt_of_le lt_la x11.1
  have lt_ly := Nat.lt_of_lt_of_le lt_ly x11.1
  have lt_fo := Nat.lt_of_lt_of_le lt_fo x11.1
  have lt_tn := Nat.lt_of_lt_of_le lt_tn x11.1
  have lt_e := Nat.lt_of_lt_of_le lt_e x11.1
  have lt_ca := Nat.lt_of_lt_of_le lt_ca x11.1
  have lt_ki := Nat.lt_of_lt_of_le lt_ki x11.1
  have lt_kn := Nat.lt_of_lt_of_le lt_kn x11.1
  have lt_ya := Nat.lt_of_lt_of_le lt_ya x11.1
  have lt_ta := Nat.lt_of_lt_of_le lt_ta x11.1
  have lt_out := Nat.lt_of_lt_of_le lt_out x11.1
  have hX := hX.tr x11 (fun b j hb h => by first | omega | (dsimp only at h ⊢; omega) | (dsimp only at h; omega) | (dsimp only; omega))
  refine hs_goto (p := 23) (by decide +kernel) ?_
  refine hs_k (x := Int32.ofNat 0) (p := 24) (by decide +kernel) ?_
  refine hs_iret (by decide +kernel) ?_
  exact h _ hH hX hv e11
theorem fh_turnedN (hH : et_H et_TT K G) (k_th : K th = some 12) (h0 : et_pl (eg_at G th) 0 = some (.ref s0)) (k_s0 : K s0 = some 10) (h5 : et_pl (eg_at G s0) 5 = some (.int (Int32.ofNat ec))) (hec : ec ≤ 3) (h6 : et_pl (eg_at G s0) 6 = some (.ref ya)) (k_ya : K ya = some 40) (hO : ∀ n, n < ec → ∃ e, et_pl (eg_at G ya) n = some (.ref e)) (g7 : et_pl (eg_at G s0) 7 = some (.int (Int32.ofNat tc))) (htc : tc ≤ 4) (g8 : et_pl (eg_at G s0) 8 = some (.ref ta)) (k_ta : K ta = some 38) (hTu : ∀ k, k < tc → ∃ q, et_pl (eg_at G ta) k = some (.ref q)) (hne : ¬ (xr x ec ∧ xr y tc)) (hd : 2 ≤ d2) : et_go none d2 13 0 (eg_en (eg_mL 13) [.ref th, .int x, .int y, .int zz, .ref out]) [] G 0 0 (fun u => u.1 = .inl (some (.int (Int32.ofNat 1))) ∧ u.2.1 = G) := by
  obtain ⟨d, rfl⟩ : ∃ d, d2 = d + 2 := ⟨d2 - 2, by omega⟩
  rw [show eg_mL 13 = 6 from by decide +kernel]
  show et_go none (d + 2) 13 0 [some (.ref th), some (.int x), some (.int y), some (.int zz), some (.ref out), none] [] G 0 0 _
  have lt_th := (hH.2.2 _ _ k_th).1
  refine hs_aload (i := 4) (p := 2) (by decide +kernel) rfl ?_
  refine hs_k (x := Int32.ofNat 0) (p := 3) (by decide +kernel) ?_
  refine hs_aload (i := 0) (p := 4) (by decide +kernel) rfl ?_
  refine hs_iload (i := 1) (p := 5) (by decide +kernel) rfl ?_
  refine hs_iload (i := 2) (p := 6) (by decide +kernel) rfl ?_
  refine hs_iload (i := 3) (p := 7) (by decide +kernel) rfl ?_
  refine ht_callv (T := et_TT) (t := 12) (mi := 148) (na := 3) (ci := 10) (lk := 6) (lm := 9) (L0 := eg_en (eg_mL 148) [.ref th, .int x, .int y, .int zz]) (by decide +kernel) rfl hH k_th rfl rfl rfl rfl rfl (by rw [show eg_mL 148 = 9 from by decide +kernel]; first | done | rfl) ?_
  refine (fc_turnedN hH k_th h0 k_s0 h5 hec h6 k_ya hO g7 htc g8 k_ta hTu hne (by omega)).mono (fun u hu => ?_)
  obtain ⟨c7, s7, rfl⟩ := hu
  refine hs_ch (h := 15) (i := 5) (n := 2) (hh := (eg_mh 13).getD []) (by decide +kernel) ⟨by decide +kernel, by decide +kernel⟩ (Nat.le_of_ble_eq_true rfl) ?_
  show et_go none _ 13 17 [some (.ref th), some (.int x), some (.int y), some (.int zz), some (.ref out), none] [] _ _ _ _
  refine hs_k (x := Int32.ofNat 1) (p := 18) (by decide +kernel) ?_
  refine hs_iret (by decide +kernel) ?_
  exact ⟨rfl, rfl⟩
theorem fh_turnedR (hH : et_H et_TT K G) (k_th : K th = some 12) (h0 : et_pl (eg_at G th) 0 = some (.ref s0)) (k_s0 : K s0 = some 10) (h5 : et_pl (eg_at G s0) 5 = some (.int (Int32.ofNat ec))) (hec : ec ≤ 3) (h6 : et_pl (eg_at G s0) 6 = some (.ref ya)) (k_ya : K ya = some 40) (hO : ∀ n, n < ec → ∃ e, et_pl (eg_at G ya) n = some (.ref e)) (g7 : et_pl (eg_at G s0) 7 = some (.int (Int32.ofNat tc))) (htc : tc ≤ 4) (g8 : et_pl (eg_at G s0) 8 = some (.ref ta)) (k_ta : K ta = some 38) (hTu : ∀ k, k < tc → ∃ q, et_pl (eg_at G ta) k = some (.ref q)) (hx : xr x ec) (hy : xr y tc) (hz : ¬ (1 ≤ zz.toInt ∧ zz.toInt ≤ 60)) (hd : 2 ≤ d2) : et_go none d2 13 0 (eg_en (eg_mL 13) [.ref th, .int x, .int y, .int zz, .ref out]) [] G 0 0 (fun u => u.1 = .inl (some (.int (Int32.ofNat 2))) ∧ u.2.1 = G) := by
  obtain ⟨d, rfl⟩ : ∃ d, d2 = d + 2 := ⟨d2 - 2, by omega⟩
  rw [show eg_mL 13 = 6 from by decide +kernel]
  show et_go none (d + 2) 13 0 [some (.ref th), some (.int x), some (.int y), some (.int zz), some (.ref out), none] [] G 0 0 _
  have lt_th := (hH.2.2 _ _ k_th).1
  refine hs_aload (i := 4) (p := 2) (by decide +kernel) rfl ?_
  refine hs_k (x := Int32.ofNat 0) (p := 3) (by decide +kernel) ?_
  refine hs_aload (i := 0) (p := 4) (by decide +kernel) rfl ?_
  refine hs_iload (i := 1) (p := 5) (by decide +kernel) rfl ?_
  refine hs_iload (i := 2) (p := 6) (by decide +kernel) rfl ?_
  refine hs_iload (i := 3) (p := 7) (by decide +kernel) rfl ?_
  refine ht_callv (T := et_TT) (t := 12) (mi := 148) (na := 3) (ci := 10) (lk := 6) (lm := 9) (L0 := eg_en (eg_mL 148) [.ref th, .int x, .int y, .int zz]) (by decide +kernel) rfl hH k_th rfl rfl rfl rfl rfl (by rw [show eg_mL 148 = 9 from by decide +kernel]; first | done | rfl) ?_
  refine (fc_turnedR hH k_th h0 k_s0 h5 hec h6 k_ya hO g7 htc g8 k_ta hTu hx hy hz (by omega)).mono (fun u hu => ?_)
  obtain ⟨c7, s7, rfl⟩ := hu
  refine hs_ch (h := 19) (i := 5) (n := 2) (hh := (eg_mh 13).getD []) (by decide +kernel) ⟨by decide +kernel, by decide +kernel⟩ (Nat.le_of_ble_eq_true rfl) ?_
  show et_go none _ 13 21 [some (.ref th), some (.int x), some (.int y), some (.int zz), some (.ref out), none] [] _ _ _ _
  refine hs_k (x := Int32.ofNat 2) (p := 22) (by decide +kernel) ?_
  refine hs_iret (by decide +kernel) ?_
  exact ⟨rfl, rfl⟩
end VJA
end
