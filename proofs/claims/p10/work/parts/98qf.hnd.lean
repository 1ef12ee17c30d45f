/-! FUNCTIONAL RUNS: exact frames (which places of which objects may change), steps that know what is there -/
theorem et_go.and {sc : eg_Sc} {d k pc ck sk : Nat} {L : eg_Ls} {st : List Value} {G : eg_G} {Z Z' : eg_O → Prop} (h : et_go sc d k pc L st G ck sk Z) (h' : et_go sc d k pc L st G ck sk Z') : et_go sc d k pc L st G ck sk (fun u => Z u ∧ Z' u) := by
  obtain ⟨o, ⟨g, hg⟩, hz⟩ := h
  obtain ⟨o', ⟨g', hg'⟩, hz'⟩ := h'
  have e := (hg (max g g') (Nat.le_max_left _ _)).symm.trans (hg' (max g g') (Nat.le_max_right _ _))
  cases e
  exact ⟨o, ⟨g, hg⟩, hz, hz'⟩
def xf (S : Nat → Nat → Prop) (G G' : eg_G) : Prop := G.2 ≤ G'.2 ∧ ∀ a i, a < G.2 → ¬ S a i → et_pl (eg_at G' a) i = et_pl (eg_at G a) i
theorem xf.rf {S : Nat → Nat → Prop} {G : eg_G} : xf S G G := ⟨Nat.le_refl _, fun _ _ _ _ => rfl⟩
theorem xf.tr {S S1 : Nat → Nat → Prop} {G G1 G2 : eg_G} (h : xf S G G1) (h1 : xf S1 G1 G2) (hs : ∀ a i, a < G.2 → S1 a i → S a i) : xf S G G2 := ⟨Nat.le_trans h.1 h1.1, fun a i ha hi => (h1.2 a i (Nat.lt_of_lt_of_le ha h.1) (fun h2 => hi (hs a i ha h2))).trans (h.2 a i ha hi)⟩
theorem xf.wk {S S1 : Nat → Nat → Prop} {G G1 : eg_G} (h : xf S1 G G1) (hs : ∀ a i, a < G.2 → S1 a i → S a i) : xf S G G1 := ⟨h.1, fun a i ha hi => h.2 a i ha (fun h2 => hi (hs a i ha h2))⟩
theorem xf.tfr {S : Nat → Nat → Prop} {T : List et_D} {K : et_K} {G G' : eg_G} {M : et_M} (h : xf S G G') (hH : et_H T K G) (hs : ∀ a t i, K a = some t → S a i → et_mm M t i = true) : et_fr M K G G' := ⟨h.1, fun a t ha i hi => h.2 a i (hH.2.2 a t ha).1 (fun h2 => by
  rw [hs a t i ha h2] at hi
  cases hi)⟩
/-- what a call leaves that changes these places alone, and makes nothing -/
def xw_Z (S : Nat → Nat → Prop) (K : et_K) (G : eg_G) (P : eg_G → Option Value → Prop) (u : eg_O) : Prop := ∃ (G' : eg_G) (v : Option Value), u = (.inl v, G', 0, 0) ∧ et_H et_TT K G' ∧ xf S G G' ∧ P G' v
/-- the same, it may throw too -/
def xe_Z (S : Nat → Nat → Prop) (K : et_K) (G : eg_G) (P : eg_G → eg_R → Prop) (u : eg_O) : Prop := ∃ (G' : eg_G) (v : eg_R) (c s : Nat), u = (v, G', c, s) ∧ et_H et_TT K G' ∧ xf S G G' ∧ P G' v
/-- a call that changes nothing -/
def xp_Z (G : eg_G) (v : Option Value) (u : eg_O) : Prop := u = (.inl v, G, 0, 0)
section FXA
variable {T : List et_D} {K : et_K} {d k pc ck sk : Nat} {L : eg_Ls} {st r : List Value} {G : eg_G} {Z : eg_O → Prop} {a t ci f p : Nat} {ps : List et_P}
theorem xw_cb {S : Nat → Nat → Prop} {P : eg_G → Option Value → Prop} {u : eg_O} (hu : xw_Z S K G P u) (h : ∀ (G' : eg_G) (v : Option Value), et_H et_TT K G' → xf S G G' → P G' v → et_go none d k (pc + 3) L (v.toList ++ r) G' ck sk Z) : hs_cont d k pc L r ck sk Z u := by
  obtain ⟨G', v, rfl, h1, h2, h3⟩ := hu
  exact hs_cb (h G' v h1 h2 h3)
theorem xp_cb {v : Option Value} {u : eg_O} (hu : xp_Z G v u) (h : et_go none d k (pc + 3) L (v.toList ++ r) G ck sk Z) : hs_cont d k pc L r ck sk Z u := by
  have hu : u = (.inl v, G, 0, 0) := hu
  subst hu
  exact hs_cb h
theorem hf_get {v : Value} (hc : hs_fi k pc = some (ci, f, p)) (hT : T[t]? = some (.inl (ci, ps))) (hH : et_H T K G) (ha : K a = some t) (hv : et_pl (eg_at G a) f = some v) (h : et_go none d k p L (v :: r) G ck sk Z) : et_go none d k pc L (.ref a :: r) G ck sk Z := by
  obtain ⟨g1, -, -, dd, hd, hcc, -⟩ := hH.2.2 a t ha
  rw [hT] at hd
  cases hd
  obtain ⟨fs, e, el, ef⟩ := hcc
  exact hs_get hc e g1 (by rw [e] at hv; exact hv) h
theorem hf_put {q : et_P} {ty : FieldType} {v : Value} (hc : hs_pi k pc = some (ci, f, ty, p)) (hT : T[t]? = some (.inl (ci, ps))) (hp : ps[f]? = some q) (ht : Nat.ble 2 t = true) (hf : eg_fit ty v = true) (hx : et_px (.inl (ci, ps)) f = false) (hH : et_H T K G) (ha : K a = some t) (hv : et_v K q v) (h : ∀ G', et_H T K G' → xf (fun b j => b = a ∧ j = f) G G' → et_pl (eg_at G' a) f = some v → et_go none d k p L r G' ck sk Z) : et_go none d k pc L (v :: .ref a :: r) G ck sk Z := by
  have ht := Nat.le_of_ble_eq_true ht
  obtain ⟨g1, -, g3, dd, hd, hcc, hcx⟩ := hH.2.2 a t ha
  rw [hT] at hd
  cases hd
  obtain ⟨fs, e, el, ef⟩ := hcc
  have hlt : f < fs.length := by rw [el]; exact (List.getElem?_eq_some_iff.mp hp).1
  have hpl : ∀ i, ¬ i = f → et_pl (.inr (ci, fs.set f v)) i = et_pl (eg_at G a) i := fun i hi => by
    rw [e]
    show (fs.set f v)[i]? = fs[i]?
    rw [List.getElem?_set_ne (fun h => hi h.symm)]
  refine hs_put hc e ⟨g3 ht, g1⟩ hlt hf (h _ (et_H_u hH ha ht hT ⟨_, rfl, by rw [List.length_set]; exact el, fun j p2 hj => ?_⟩ (et_cx_u (K := K) hcx ⟨fs, e, el, ef⟩ (fun i hi => hpl i (fun h => by
    rw [h, hx] at hi
    cases hi)))) ⟨Nat.le_refl _, fun b i hb hi => ?_⟩ ?_)
  · by_cases e2 : f = j
    · subst e2
      rw [hp] at hj
      cases hj
      exact ⟨v, List.getElem?_set_self hlt, .inr hv⟩
    · rw [List.getElem?_set_ne e2]
      exact ef j p2 hj
  · by_cases e3 : b = a
    · subst e3
      rw [et_at_us (g3 ht)]
      exact hpl i (fun h => hi ⟨rfl, h⟩)
    · rw [et_at_u e3]
  · rw [et_at_us (g3 ht)]
    exact List.getElem?_set_self hlt
theorem hf_cell {kd N : Nat} {ss : List (Nat × Nat × et_P)} (hT : T[t]? = some (.inr (kd, N, ss))) (hH : et_H T K G) (ha : K a = some t) : ∃ x : vp_A, eg_at G a = .inl (kd, x) ∧ x.1 = N ∧ (∀ i, i < N → ∃ v, eg_rd kd x i = some v) := by
  obtain ⟨g1, -, -, dd, hd, hcc, -⟩ := hH.2.2 a t ha
  rw [hT] at hd
  cases hd
  obtain ⟨x, e, el, er, -⟩ := hcc
  exact ⟨x, e, el, er⟩
/-- an element that is known -/
theorem hf_ald {ins : Instr} {kd N n : Nat} {v : Value} {ss : List (Nat × Nat × et_P)} (hc : hs_o k pc = some (ins, p)) (hs : ∀ o ini mc ms pc L st G ck sk, eg_st o ini mc ms pc 1 ins L st G ck sk = eg_ar ins pc L st G ck sk) (hp : hs_pl ins = true) (hT : T[t]? = some (.inr (kd, N, ss))) (hk : eg_ak ins kd = true) (hH : et_H T K G) (ha : K a = some t) (hN : N < 2147483648) (hv : et_pl (eg_at G a) n = some v) (h : et_go none d k p L (v :: r) G ck sk Z) : et_go none d k pc L (.int (Int32.ofNat n) :: .ref a :: r) G ck sk Z := by
  obtain ⟨e, rfl⟩ := hs_oc hc
  obtain ⟨x, ec, el, -⟩ := hf_cell hT hH ha
  rw [ec] at hv
  have hv : (if n < x.1 then eg_rd kd x n else none) = some v := hv
  have hn : n < x.1 := by
    by_cases hn : n < x.1
    · exact hn
    · rw [if_neg hn] at hv
      cases hv
  rw [if_pos hn] at hv
  refine hs_st e hp ?_ h
  rw [hs]
  unfold eg_ar
  dsimp only
  rw [ec]
  dsimp only
  rw [if_pos ⟨(hH.2.2 a t ha).1, hk, by rw [hs_nint (by omega)]; omega, by rw [hs_nint (by omega)]; omega⟩, hs_nnat (by omega), hv]
theorem hf_pl {kd N : Nat} {f : Nat → Int32} {n : Nat} (hk : kd = 0 ∨ kd = 1 ∨ kd = 3 ∨ kd = 4) : et_pl (.inl (kd, (N, .inl f))) n = if n < N then some (.int (f n)) else none := by
  show (if n < N then eg_rd kd (N, .inl f) n else none) = _
  rcases hk with rfl | rfl | rfl | rfl <;> rfl
theorem hf_plu {kd N : Nat} {f : Nat → Int32} {n i : Nat} {z : Int32} (hk : kd = 0 ∨ kd = 1 ∨ kd = 3 ∨ kd = 4) (h : ¬ i = n) : et_pl (.inl (kd, (N, .inl (upd f n z)))) i = et_pl (.inl (kd, (N, .inl f))) i := by
  rw [hf_pl hk, hf_pl hk, hs_un h]
theorem hf_ar {kd N n : Nat} {f : Nat → Int32} {z : Int32} {ss : List (Nat × Nat × et_P)} (hk : kd = 0 ∨ kd = 1 ∨ kd = 3 ∨ kd = 4) (hT : T[t]? = some (.inr (kd, N, ss))) (ht : 2 ≤ t) (hpx : kd = 0 → ¬ (N = 12741 ∨ N = 11900)) (hH : et_H T K G) (ha : K a = some t) (hn : n < N) (hs : ∀ s ∈ ss, s.1 ≤ n → n ≤ s.2.1 → et_v K s.2.2 (.int z)) (e : eg_at G a = .inl (kd, (N, .inl f))) : et_H T K (eg_u G a (.inl (kd, (N, .inl (upd f n z))))) ∧ xf (fun b j => b = a ∧ j = n) G (eg_u G a (.inl (kd, (N, .inl (upd f n z))))) ∧ et_pl (eg_at (eg_u G a (.inl (kd, (N, .inl (upd f n z))))) a) n = some (.int z) := by
  have g := hi_at hH ha ht
  obtain ⟨f', e', h1, -⟩ := hi_arr hH ha hT (by omega) hk
  rw [e] at e'
  cases e'
  refine ⟨hi_uarr hH ha ht hT hk (fun s hs' i i1 i2 i3 => ?_) (fun h0 hN => absurd hN (hpx h0)), ⟨Nat.le_refl _, fun b i hb hi => ?_⟩, ?_⟩
  · by_cases ei : i = n
    · subst ei
      rw [hs_us]
      exact hs s hs' i1 i2
    · rw [hs_un ei]
      exact h1 s hs' i i1 i2 i3
  · by_cases e3 : b = a
    · subst e3
      rw [et_at_us g.1, e]
      exact hf_plu hk (fun h => hi ⟨rfl, h⟩)
    · rw [et_at_u e3]
  · rw [et_at_us g.1, hf_pl hk, if_pos hn, hs_us]
/-- a write into an array of ints, chars, booleans -/
theorem hf_ist {N n : Nat} {x : Int32} {ss : List (Nat × Nat × et_P)} (hc : hs_o k pc = some (.iastore, p)) (hT : T[t]? = some (.inr (0, N, ss))) (ht : Nat.ble 2 t = true) (hpx : ¬ (N = 12741 ∨ N = 11900)) (hH : et_H T K G) (ha : K a = some t) (hn : n < N) (hN : N < 2147483648) (hs : ∀ s ∈ ss, s.1 ≤ n → n ≤ s.2.1 → et_v K s.2.2 (.int x)) (h : ∀ G', et_H T K G' → xf (fun b j => b = a ∧ j = n) G G' → et_pl (eg_at G' a) n = some (.int x) → et_go none d k p L r G' ck sk Z) : et_go none d k pc L (.int x :: .int (Int32.ofNat n) :: .ref a :: r) G ck sk Z := by
  have ht := Nat.le_of_ble_eq_true ht
  obtain ⟨f, e, -, -⟩ := hi_arr hH ha hT (by omega) (.inl rfl)
  obtain ⟨h1, h2, h3⟩ := hf_ar (z := x) (.inl rfl) hT ht (fun _ => hpx) hH ha hn hs e
  exact hs_iast hc e (hi_at hH ha ht) hN hn (h _ h1 h2 h3)
theorem hf_aw {ins : Instr} {kd N n : Nat} {v : Value} {x y : vp_A} (hc : hs_o k pc = some (ins, p)) (hs : ∀ o ini mc ms pc L st G ck sk, eg_st o ini mc ms pc 1 ins L st G ck sk = eg_aw ins pc L st G ck sk) (hp : hs_pl ins = true) (hk : eg_ak ins kd = true) (ha : eg_NC ≤ a ∧ a < G.2) (e : eg_at G a = .inl (kd, x)) (el : x.1 = N) (hn : n < N) (hN : N < 2147483648) (hw : eg_wr G kd x n v = some y) (h : et_go none d k p L r (eg_u G a (.inl (kd, y))) ck sk Z) : et_go none d k pc L (v :: .int (Int32.ofNat n) :: .ref a :: r) G ck sk Z := by
  obtain ⟨e1, rfl⟩ := hs_oc hc
  refine hs_st e1 hp ?_ h
  rw [hs]
  unfold eg_aw
  dsimp only
  rw [e]
  dsimp only
  rw [if_pos ⟨ha.1, ha.2, hk, by rw [hs_nint (by omega)]; omega, by rw [hs_nint (by omega)]; omega⟩, hs_nnat (by omega), hw]
theorem hf_zst {N n : Nat} {x z : Int32} {ss : List (Nat × Nat × et_P)} (hc : hs_o k pc = some (.bastore, p)) (hT : T[t]? = some (.inr (3, N, ss))) (ht : Nat.ble 2 t = true) (hz : vp_nar .boolean x = z) (hH : et_H T K G) (ha : K a = some t) (hn : n < N) (hN : N < 2147483648) (hs : ∀ s ∈ ss, s.1 ≤ n → n ≤ s.2.1 → et_v K s.2.2 (.int z)) (h : ∀ G', et_H T K G' → xf (fun b j => b = a ∧ j = n) G G' → et_pl (eg_at G' a) n = some (.int z) → et_go none d k p L r G' ck sk Z) : et_go none d k pc L (.int x :: .int (Int32.ofNat n) :: .ref a :: r) G ck sk Z := by
  have ht := Nat.le_of_ble_eq_true ht
  obtain ⟨f, e, -, -⟩ := hi_arr hH ha hT (by omega) (.inr (.inr (.inl rfl)))
  obtain ⟨h1, h2, h3⟩ := hf_ar (z := z) (.inr (.inr (.inl rfl))) hT ht (fun h => absurd h (by decide)) hH ha hn hs e
  refine hf_aw hc (fun _ _ _ _ _ _ _ _ _ _ => rfl) rfl rfl (hi_at hH ha ht) e rfl hn hN (y := (N, .inl (upd f n z))) ?_ (h _ h1 h2 h3)
  subst hz
  rfl
theorem hf_bst {N n : Nat} {x z : Int32} {ss : List (Nat × Nat × et_P)} (hc : hs_o k pc = some (.bastore, p)) (hT : T[t]? = some (.inr (1, N, ss))) (ht : Nat.ble 2 t = true) (hz : vp_nar .byte x = z) (hH : et_H T K G) (ha : K a = some t) (hn : n < N) (hN : N < 2147483648) (hs : ∀ s ∈ ss, s.1 ≤ n → n ≤ s.2.1 → et_v K s.2.2 (.int z)) (h : ∀ G', et_H T K G' → xf (fun b j => b = a ∧ j = n) G G' → et_pl (eg_at G' a) n = some (.int z) → et_go none d k p L r G' ck sk Z) : et_go none d k pc L (.int x :: .int (Int32.ofNat n) :: .ref a :: r) G ck sk Z := by
  have ht := Nat.le_of_ble_eq_true ht
  obtain ⟨f, e, -, -⟩ := hi_arr hH ha hT (by omega) (.inr (.inl rfl))
  obtain ⟨h1, h2, h3⟩ := hf_ar (z := z) (.inr (.inl rfl)) hT ht (fun h => absurd h (by decide)) hH ha hn hs e
  refine hf_aw hc (fun _ _ _ _ _ _ _ _ _ _ => rfl) rfl rfl (hi_at hH ha ht) e rfl hn hN (y := (N, .inl (upd f n z))) ?_ (h _ h1 h2 h3)
  subst hz
  rfl
theorem hf_cst {N n : Nat} {x z : Int32} {ss : List (Nat × Nat × et_P)} (hc : hs_o k pc = some (.castore, p)) (hT : T[t]? = some (.inr (4, N, ss))) (ht : Nat.ble 2 t = true) (hz : vp_nar .char x = z) (hH : et_H T K G) (ha : K a = some t) (hn : n < N) (hN : N < 2147483648) (hs : ∀ s ∈ ss, s.1 ≤ n → n ≤ s.2.1 → et_v K s.2.2 (.int z)) (h : ∀ G', et_H T K G' → xf (fun b j => b = a ∧ j = n) G G' → et_pl (eg_at G' a) n = some (.int z) → et_go none d k p L r G' ck sk Z) : et_go none d k pc L (.int x :: .int (Int32.ofNat n) :: .ref a :: r) G ck sk Z := by
  have ht := Nat.le_of_ble_eq_true ht
  obtain ⟨f, e, -, -⟩ := hi_arr hH ha hT (by omega) (.inr (.inr (.inr rfl)))
  obtain ⟨h1, h2, h3⟩ := hf_ar (z := z) (.inr (.inr (.inr rfl))) hT ht (fun h => absurd h (by decide)) hH ha hn hs e
  refine hf_aw hc (fun _ _ _ _ _ _ _ _ _ _ => rfl) rfl rfl (hi_at hH ha ht) e rfl hn hN (y := (N, .inl (upd f n z))) ?_ (h _ h1 h2 h3)
  subst hz
  rfl
theorem hf_lst {N n : Nat} {x : Int64} (hc : hs_o k pc = some (.lastore, p)) (hT : T[t]? = some (.inr (2, N, []))) (ht : Nat.ble 2 t = true) (hH : et_H T K G) (ha : K a = some t) (hn : n < N) (hN : N < 2147483648) (h : ∀ G', et_H T K G' → xf (fun b j => b = a ∧ j = n) G G' → et_pl (eg_at G' a) n = some (.long x) → et_go none d k p L r G' ck sk Z) : et_go none d k pc L (.long x :: .int (Int32.ofNat n) :: .ref a :: r) G ck sk Z := by
  have ht := Nat.le_of_ble_eq_true ht
  obtain ⟨f, e⟩ := hi_arrL hH ha hT (by omega)
  have g := hi_at hH ha ht
  refine hs_last hc e g hN hn (h _ (hi_uarrL hH ha ht hT) ⟨Nat.le_refl _, fun b i hb hi => ?_⟩ ?_)
  · by_cases e3 : b = a
    · subst e3
      rw [et_at_us g.1, e]
      have ei : ¬ i = n := fun h => hi ⟨rfl, h⟩
      show (if i < N then some (Value.long (vp_updL f n x i)) else none) = (if i < N then some (Value.long (f i)) else none)
      unfold vp_updL
      rw [if_neg ei]
    · rw [et_at_u e3]
  · rw [et_at_us g.1]
    show (if n < N then some (Value.long (vp_updL f n x n)) else none) = _
    unfold vp_updL
    rw [if_pos hn, if_pos rfl]
theorem hf_cx {x c s : Nat} {G' : eg_G} (hm : eg_mh k = none) (h : Z (.inr x, G', ck + c, sk + s)) : hs_cont d k pc L r ck sk Z (.inr x, G', c, s) := by
  refine ⟨_, ⟨0, fun q _ => ?_⟩, h⟩
  unfold eg_bk
  rw [hm]
/-- which two references are the same is told -/
theorem hf_acm {c : ClassFile.ACond} {tt ff : Nat} {v u : Value} (hc : hs_ax k pc = some (c, tt, ff)) (hv : eg_ca v = true) (hu : eg_ca u = true) (h1 : (match c with | .eq => v = u | .ne => ¬ v = u) → et_go none d k tt L r G ck sk Z) (h2 : ¬ (match c with | .eq => v = u | .ne => ¬ v = u) → et_go none d k ff L r G ck sk Z) : et_go none d k pc L (u :: v :: r) G ck sk Z := by
  unfold hs_ax at hc
  split at hc
  · rename_i c' off _ e
    split at hc
    · rename_i h0
      cases hc
      have h3 : 0 ≤ (pc : Int) + off ∧ eg_ca v = true ∧ eg_ca u = true := ⟨h0, hv, hu⟩
      cases c with
      | eq =>
        by_cases hh : v = u
        · refine hs_st e rfl ?_ (h1 hh)
          show (if 0 ≤ (pc : Int) + off ∧ eg_ca v = true ∧ eg_ca u = true then some ((if v = u then eg_tg pc off else pc + 3), L, r, G, ck, sk) else none) = _
          rw [if_pos h3, if_pos hh]
        · refine hs_st e rfl ?_ (h2 hh)
          show (if 0 ≤ (pc : Int) + off ∧ eg_ca v = true ∧ eg_ca u = true then some ((if v = u then eg_tg pc off else pc + 3), L, r, G, ck, sk) else none) = _
          rw [if_pos h3, if_neg hh]
      | ne =>
        by_cases hh : v = u
        · refine hs_st e rfl ?_ (h2 (fun h => h hh))
          show (if 0 ≤ (pc : Int) + off ∧ eg_ca v = true ∧ eg_ca u = true then some ((if ¬ v = u then eg_tg pc off else pc + 3), L, r, G, ck, sk) else none) = _
          rw [if_pos h3, if_neg (fun h => h hh)]
        · refine hs_st e rfl ?_ (h1 hh)
          show (if 0 ≤ (pc : Int) + off ∧ eg_ca v = true ∧ eg_ca u = true then some ((if ¬ v = u then eg_tg pc off else pc + 3), L, r, G, ck, sk) else none) = _
          rw [if_pos h3, if_pos hh]
    · cases hc
  · cases hc
end FXA
theorem xi_inj {x y : Nat} (hx : x < 2147483648) (hy : y < 2147483648) (h : some (Value.int (Int32.ofNat x)) = some (Value.int (Int32.ofNat y))) : x = y := (hs_neq hx hy).mp (Value.int.inj (Option.some.inj h))
