/-! the heap's steps -/
theorem eg_lk {β : Type} {i : Nat} {b : β} : ∀ {l : List (Nat × β)}, l.lookup i = some b → (i, b) ∈ l
  | [], h => by simp at h
  | (j, c) :: t, h => by
    rw [List.lookup_cons] at h
    by_cases hij : i = j
    · subst hij
      simp at h
      subst h
      exact List.mem_cons_self
    · have : (i == j) = false := by simpa using hij
      rw [this] at h
      exact List.mem_cons_of_mem _ (eg_lk h)
theorem eg_gd {α : Type} {T : List (List α)} {o n : Nat} {e : α} (h : e ∈ T.getD o []) (hl : T.length = n) : o ∈ List.range n := by
  rw [List.mem_range, ← hl]
  rcases Nat.lt_or_ge o T.length with q | q
  · exact q
  · rw [List.getD_eq_getElem?_getD, List.getElem?_eq_none q] at h
    cases h
theorem eg_w1 {o : Nat} {e : Nat × Nat × Nat × Option String} (h : e ∈ eg_fT.getD o []) : eg_fw o e ∈ eg_W :=
  List.mem_append_left _ (List.mem_flatMap.mpr ⟨o, eg_gd h rfl, List.mem_map.mpr ⟨e, h, rfl⟩⟩)
theorem eg_w2 {o : Nat} {e : Nat × Nat × Option String} (h : e ∈ eg_sT.getD o []) : ∀ w ∈ eg_sw1 o e, w ∈ eg_W := fun w hw =>
  List.mem_append_right _ (List.mem_append_left _ (List.mem_flatMap.mpr ⟨o, eg_gd h rfl, List.mem_flatMap.mpr ⟨e, h, hw⟩⟩))
theorem eg_w3 {o : Nat} {e : Nat × Value} (h : e ∈ eg_kT.getD o []) : ∀ w ∈ eg_kw o e, w ∈ eg_W := fun w hw =>
  List.mem_append_right _ (List.mem_append_right _ (List.mem_append_left _ (List.mem_flatMap.mpr ⟨o, eg_gd h rfl, List.mem_flatMap.mpr ⟨e, h, hw⟩⟩)))
theorem eg_w4 {o : Nat} {e : Nat × Nat} (h : e ∈ eg_cT.getD o []) : eg_cw o e ∈ eg_W :=
  List.mem_append_right _ (List.mem_append_right _ (List.mem_append_right _ (List.mem_append_left _ (List.mem_flatMap.mpr ⟨o, eg_gd h rfl, List.mem_map.mpr ⟨e, h, rfl⟩⟩))))
theorem eg_w5 {o : Nat} {e : Nat × Nat × Nat × Option String} (h : e ∈ eg_mT.getD o []) : ∀ w ∈ eg_mw o e, w ∈ eg_W := fun w hw =>
  List.mem_append_right _ (List.mem_append_right _ (List.mem_append_right _ (List.mem_append_right _ (List.mem_append_left _ (List.mem_flatMap.mpr ⟨o, eg_gd h rfl, List.mem_flatMap.mpr ⟨e, h, hw⟩⟩)))))
theorem eg_w6 {l : List (eg_MI × List (Nat × Instr × Nat))} {q : eg_MI × List (Nat × Instr × Nat)} (hl : l ∈ eg_MM) (h : q ∈ l) : eg_yw q ∈ eg_W :=
  List.mem_append_right _ (List.mem_append_right _ (List.mem_append_right _ (List.mem_append_right _ (List.mem_append_right _ (List.mem_append_left _ (List.mem_flatMap.mpr ⟨l, hl, List.mem_map.mpr ⟨q, h, rfl⟩⟩))))))
theorem eg_w7 {q : vw_C} (h : q ∈ eg_cl) : ∀ w ∈ u_ws q.1 q.2.1 q.2.2, w ∈ eg_W := fun w hw =>
  List.mem_append_right _ (List.mem_append_right _ (List.mem_append_right _ (List.mem_append_right _ (List.mem_append_right _ (List.mem_append_right _ (List.mem_append_left _ (List.mem_flatMap.mpr ⟨q, h, hw⟩)))))))
theorem eg_w8 {q : vw_C} (h : q ∈ eg_cl) : Cond.instantiable q.1 q.2.2 ∈ eg_W ∧ Cond.initialized q.1 ∈ eg_W := by
  have h1 : ∀ w ∈ ([.instantiable q.1 q.2.2, .initialized q.1] : List Cond), w ∈ eg_W := fun w hw =>
    List.mem_append_right _ (List.mem_append_right _ (List.mem_append_right _ (List.mem_append_right _ (List.mem_append_right _ (List.mem_append_right _ (List.mem_append_right _ (List.mem_append_left _ (List.mem_flatMap.mpr ⟨q, h, hw⟩))))))))
  exact ⟨h1 _ (by simp), h1 _ (by simp)⟩
theorem eg_w9 {w : Cond} (h : w ∈ eg_W9) : w ∈ eg_W :=
  List.mem_append_right _ (List.mem_append_right _ (List.mem_append_right _ (List.mem_append_right _ (List.mem_append_right _ (List.mem_append_right _ (List.mem_append_right _ (List.mem_append_right _ h)))))))
-- the classes' tables
theorem eg_fT_ok : eg_fT.all (fun l => l.all (fun e => decide (e.2.1 < 14) && (decide (12 ≤ e.2.1) || decide (e.2.2.1 < (eg_cl.getD e.2.1 ("", eg_T0, 0)).2.2)))) = true := by decide +kernel
theorem eg_ty_ok : (List.range 12).all (fun ci => (List.range (eg_cl.getD ci ("", eg_T0, 0)).2.2).all (fun k => decide (parseFieldDescriptor ((eg_cl.getD ci ("", eg_T0, 0)).2.1 k).2.2.1 = some (eg_yl.getD ci (fun _ => .int) k)))) = true := by decide +kernel
theorem eg_nm_ok : (List.range 12).all (fun ci => (List.range (eg_cl.getD ci ("", eg_T0, 0)).2.2).all (fun a => (List.range (eg_cl.getD ci ("", eg_T0, 0)).2.2).all (fun b => decide (a = b) || decide (((eg_cl.getD ci ("", eg_T0, 0)).2.1 a).2.1 ≠ ((eg_cl.getD ci ("", eg_T0, 0)).2.1 b).2.1)))) = true := by decide +kernel
theorem eg_cl_get {ci : Nat} {r : vw_C} (h : eg_cl[ci]? = some r) : eg_cl.getD ci ("", eg_T0, 0) = r ∧ ci < 12 := by
  refine ⟨by rw [List.getD_eq_getElem?_getD, h]; rfl, ?_⟩
  have := (List.getElem?_eq_some_iff.mp h).1
  exact this
theorem eg_cl_ty {ci : Nat} {r : vw_C} (h : eg_cl[ci]? = some r) : ∀ k, k < r.2.2 → parseFieldDescriptor (r.2.1 k).2.2.1 = some (eg_yl.getD ci (fun _ => .int) k) := by
  obtain ⟨h1, h2⟩ := eg_cl_get h
  intro k hk
  have h3 := List.all_eq_true.mp eg_ty_ok ci (List.mem_range.mpr h2)
  rw [h1] at h3
  exact of_decide_eq_true (List.all_eq_true.mp h3 k (List.mem_range.mpr hk))
theorem eg_cl_nm {ci : Nat} {r : vw_C} (h : eg_cl[ci]? = some r) : ∀ a, a < r.2.2 → ∀ b, b < r.2.2 → a ≠ b → (r.2.1 a).2.1 ≠ (r.2.1 b).2.1 := by
  obtain ⟨h1, h2⟩ := eg_cl_get h
  intro a ha b hb hab
  have h3 := List.all_eq_true.mp eg_nm_ok ci (List.mem_range.mpr h2)
  rw [h1] at h3
  have h4 := List.all_eq_true.mp (List.all_eq_true.mp h3 a (List.mem_range.mpr ha)) b (List.mem_range.mpr hb)
  rcases (Bool.or_eq_true _ _ ▸ h4 : _ ∨ _) with h5 | h5
  · exact absurd (of_decide_eq_true h5) hab
  · exact of_decide_eq_true h5
theorem eg_fd_cl {ci : Nat} {r : vw_C} (h : eg_cl[ci]? = some r) (k : Nat) : eg_fd ci k = r.2.1 k := by
  obtain ⟨h1, h2⟩ := eg_cl_get h
  match ci, h2 with
  | 0, _ => cases h; rfl
  | 1, _ => cases h; rfl
  | 2, _ => cases h; rfl
  | 3, _ => cases h; rfl
  | 4, _ => cases h; rfl
  | 5, _ => cases h; rfl
  | 6, _ => cases h; rfl
  | 7, _ => cases h; rfl
  | 8, _ => cases h; rfl
  | 9, _ => cases h; rfl
  | 10, _ => cases h; rfl
  | 11, _ => cases h; rfl
  | n + 12, h2 => exact absurd h2 (by omega)
theorem eg_fT_k {o : Nat} {e : Nat × Nat × Nat × Option String} (h : e ∈ eg_fT.getD o []) {r : vw_C} (hr : eg_cl[e.2.1]? = some r) : e.2.2.1 < r.2.2 := by
  obtain ⟨h1, h2⟩ := eg_cl_get hr
  have h0 : eg_fT.getD o [] ∈ eg_fT := by
    have := List.mem_range.mp (eg_gd h rfl)
    rw [List.getD_eq_getElem?_getD, List.getElem?_eq_getElem this]
    exact List.getElem_mem this
  have h3 := List.all_eq_true.mp (List.all_eq_true.mp eg_fT_ok _ h0) e h
  simp only [Bool.and_eq_true, Bool.or_eq_true, decide_eq_true_eq] at h3
  rcases h3.2 with h4 | h4
  · omega
  · rw [h1] at h4; exact h4
-- worlds
theorem eg_ws_at {ad : Nat → Nat} {dA : Nat → ClassId} {G : eg_G} {a : Nat} (h : eg_NC ≤ a) (h2 : a < G.2) : (eg_ws ad dA G)[a - eg_NC]? = some (ad a, eg_e ad dA (G.1 a)) := by
  unfold eg_ws
  rw [List.getElem?_map, List.getElem?_range (by omega)]
  simp only [Option.map_some]
  rw [show eg_NC + (a - eg_NC) = a by omega]
theorem eg_at_hi {G : eg_G} {a : Nat} (h : eg_NC ≤ a) : eg_at G a = G.1 a := if_neg (by omega)
theorem eg_at_lo {G : eg_G} {a : Nat} (h : a < eg_NC) : eg_at G a = eg_con a := if_pos h
theorem eg_ws_set {ad : Nat → Nat} {dA : Nat → ClassId} {G : eg_G} {a : Nat} (c : eg_C) (h : eg_NC ≤ a) : (eg_ws ad dA G).set (a - eg_NC) (ad a, eg_e ad dA c) = eg_ws ad dA (eg_u G a c) := by
  apply List.ext_getElem?
  intro k
  unfold eg_ws eg_u
  rw [List.getElem?_set]
  simp only [List.length_map, List.length_range]
  by_cases hk : a - eg_NC = k
  · subst hk
    by_cases hl : a - eg_NC < G.2 - eg_NC
    · rw [if_pos rfl, if_pos hl, List.getElem?_map, List.getElem?_range hl]
      simp only [Option.map_some]
      rw [show eg_NC + (a - eg_NC) = a by omega, if_pos rfl]
    · rw [if_pos rfl, if_neg hl, List.getElem?_map, List.getElem?_eq_none (by simp; omega)]
      rfl
  · rw [if_neg hk, List.getElem?_map, List.getElem?_map]
    by_cases hl : k < G.2 - eg_NC
    · rw [List.getElem?_range hl]
      simp only [Option.map_some]
      rw [if_neg (by omega)]
    · rw [List.getElem?_eq_none (by simp; omega)]
      rfl
theorem eg_okv.up {n n' : Nat} {v : Value} (h : eg_okv n v) (hn : n ≤ n') : eg_okv n' v := fun i q => Nat.lt_of_lt_of_le (h i q) hn
theorem eg_okc.up {n n' : Nat} {c : eg_C} (h : eg_okc n c) (hn : n ≤ n') : eg_okc n' c := by
  cases c with
  | inl x => exact fun f hf j r hj => Nat.lt_of_lt_of_le (h f hf j r hj) hn
  | inr x => exact fun v hv => (h v hv).up hn
/-- another naming of the numbers that agrees below n -/
def eg_ag (n : Nat) (ad ad' : Nat → Nat) : Prop := ∀ i, i < n → ad' i = ad i
theorem eg_ag_v {n : Nat} {ad ad' : Nat → Nat} {v : Value} (ha : eg_ag n ad ad') (h : eg_okv n v) : eg_v ad' v = eg_v ad v := by
  cases v with
  | ref i => exact congrArg Value.ref (ha i (h i rfl))
  | _ => rfl
theorem eg_ag_e {n : Nat} {ad ad' : Nat → Nat} {dA : Nat → ClassId} {c : eg_C} (ha : eg_ag n ad ad') (h : eg_okc n c) : eg_e ad' dA c = eg_e ad dA c := by
  cases c with
  | inl tx =>
    obtain ⟨t, n0, y⟩ := tx
    show Sum.inl (dA t, eg_r ad' (n0, y)) = Sum.inl (dA t, eg_r ad (n0, y))
    congr 2
    rcases y with f | f | f | f | f
    · rfl
    · rfl
    · rfl
    · rfl
    · have hf : (fun j => (f j).map ad') = fun j => (f j).map ad := by
        funext j
        cases hf : f j with
        | none => rfl
        | some r => exact congrArg some (ha r (h f rfl j r hf))
      show (n0, Sum.inr (Sum.inr (Sum.inr (Sum.inr (fun j => (f j).map ad'))))) = (n0, Sum.inr (Sum.inr (Sum.inr (Sum.inr (fun j => (f j).map ad)))))
      rw [hf]
  | inr q =>
    show Sum.inr (q.1, q.2.map (eg_v ad')) = Sum.inr (q.1, q.2.map (eg_v ad))
    congr 2
    exact List.map_congr_left (fun v hv => eg_ag_v ha (h v hv))
theorem eg_ag_ws {ad ad' : Nat → Nat} {dA : Nat → ClassId} {G : eg_G} (ha : eg_ag G.2 ad ad') (h : eg_ok G) : eg_ws ad' dA G = eg_ws ad dA G := by
  unfold eg_ws
  apply List.map_congr_left
  intro k hk
  rw [List.mem_range] at hk
  rw [ha (eg_NC + k) (by omega), eg_ag_e ha (h.2 (eg_NC + k) (by omega) (by omega))]
theorem eg_ag_lq {n : Nat} {ad ad' : Nat → Nat} (ha : eg_ag n ad ad') : ∀ (L : eg_Ls) (i : Nat), (∀ v, some v ∈ L → eg_okv n v) → eg_lq ad' i L = eg_lq ad i L
  | [], _, _ => rfl
  | none :: t, i, h => eg_ag_lq ha t (i + 1) (fun v hv => h v (List.mem_cons_of_mem _ hv))
  | some v :: t, i, h => by
    show (i, eg_v ad' v) :: eg_lq ad' (i + 1) t = (i, eg_v ad v) :: eg_lq ad (i + 1) t
    rw [eg_ag_v ha (h v List.mem_cons_self), eg_ag_lq ha t (i + 1) (fun v hv => h v (List.mem_cons_of_mem _ hv))]
theorem eg_LR.up {n n' : Nat} {ad ad' : Nat → Nat} {ls : Array Slot} {L : eg_Ls} (h : eg_LR ad n ls L) (ha : eg_ag n ad ad') (hn : n ≤ n') : eg_LR ad' n' ls L :=
  ⟨by rw [eg_ag_lq ha L 0 h.2]; exact h.1, fun v hv => (h.2 v hv).up hn⟩
theorem eg_ag_st {n : Nat} {ad ad' : Nat → Nat} {st : List Value} (ha : eg_ag n ad ad') (h : ∀ v ∈ st, eg_okv n v) : st.map (eg_v ad') = st.map (eg_v ad) := List.map_congr_left (fun v hv => eg_ag_v ha (h v hv))
theorem eg_push {ad : Nat → Nat} {dA : Nat → ClassId} {G : eg_G} {q : Nat} {c : eg_C} (h : eg_ok G) (hc : eg_okc G.2 c) : eg_ws ad dA G ++ [(q, eg_e ad dA c)] = eg_ws (fun i => if i = G.2 then q else ad i) dA (eg_p G c) := by
  have ha : eg_ag G.2 ad (fun i => if i = G.2 then q else ad i) := fun i hi => if_neg (by omega)
  have h1 := h.1
  apply List.ext_getElem?
  intro k
  rw [List.getElem?_append]
  have hlen : (eg_ws ad dA G).length = G.2 - eg_NC := by simp [eg_ws]
  rw [hlen]
  by_cases hk : k < G.2 - eg_NC
  · rw [if_pos hk]
    have e1 := eg_ws_at (ad := ad) (dA := dA) (G := G) (a := eg_NC + k) (by omega) (by omega)
    have e2 := eg_ws_at (ad := fun i => if i = G.2 then q else ad i) (dA := dA) (G := eg_p G c) (a := eg_NC + k) (by omega) (by show _ < G.2 + 1; omega)
    rw [show eg_NC + k - eg_NC = k by omega] at e1 e2
    rw [e1, e2]
    have e3 : (eg_p G c).1 (eg_NC + k) = G.1 (eg_NC + k) := if_neg (by omega)
    have e4 : (if eg_NC + k = G.2 then q else ad (eg_NC + k)) = ad (eg_NC + k) := if_neg (by omega)
    rw [e3, eg_ag_e ha (h.2 _ (by omega) (by omega))]
    exact congrArg (fun z => some (z, eg_e ad dA (G.1 (eg_NC + k)))) e4.symm
  · rw [if_neg hk]
    by_cases hk2 : k = G.2 - eg_NC
    · have e2 := eg_ws_at (ad := fun i => if i = G.2 then q else ad i) (dA := dA) (G := eg_p G c) (a := G.2) h1 (Nat.lt_succ_self G.2)
      rw [← hk2] at e2
      have e3 : (eg_p G c).1 G.2 = c := if_pos rfl
      have e4 : (if G.2 = G.2 then q else ad G.2) = q := if_pos rfl
      rw [e2, hk2, Nat.sub_self, e3, eg_ag_e ha hc]
      exact congrArg (fun z => some (z, eg_e ad dA c)) e4.symm
    · rw [List.getElem?_eq_none (by simp; omega), List.getElem?_eq_none (by simp [eg_ws, eg_p]; omega)]
theorem eg_ok_u {G : eg_G} {a : Nat} {c : eg_C} (h : eg_ok G) (hc : eg_okc G.2 c) : eg_ok (eg_u G a c) := by
  refine ⟨h.1, fun i h1 h2 => ?_⟩
  show eg_okc G.2 (if i = a then c else G.1 i)
  split
  · exact hc
  · exact h.2 i h1 h2
theorem eg_ok_p {G : eg_G} {c : eg_C} (h : eg_ok G) (hc : eg_okc G.2 c) : eg_ok (eg_p G c) := by
  refine ⟨Nat.le_succ_of_le h.1, fun i h1 h2 => ?_⟩
  show eg_okc (G.2 + 1) (if i = G.2 then c else G.1 i)
  split
  · exact hc.up (Nat.le_succ _)
  · exact (h.2 i h1 (by have : i < G.2 + 1 := h2; omega)).up (Nat.le_succ _)
theorem eg_tys_at {dA : Nat → ClassId} {t : Nat} (h : t < 12) : (eg_tys dA)[t]? = some (dA t, eg_tt t) := by
  unfold eg_tys
  rw [List.getElem?_map, List.getElem?_range h]
  rfl
theorem eg_vin {i : Int32} {n : Nat} (h : 0 ≤ i.toInt ∧ i.toInt < n) : vp_in i n := vp_in_iff.mpr h
