/-! FUNCTIONAL: readTag, readSum, readComparison -/
theorem dr_s {L : List sp_T} {x : Nat} {t : sp_T} (h : L[x]? = some t) : L.drop x = t :: L.drop (x + 1) := by
  obtain ⟨h1, h2⟩ := List.getElem?_eq_some_iff.mp h
  rw [List.drop_eq_getElem_cons h1, h2]
theorem dr_n {L : List sp_T} {x : Nat} (h : L[x]? = none) : L.drop x = [] := List.drop_eq_nil_iff.mpr (List.getElem?_eq_none_iff.mp h)
theorem wat_s {L : List sp_T} {x w : Nat} {n : Option Nat} (h : L[x]? = some (w, n)) : wat L x = w := by
  unfold wat
  rw [h]
theorem wat_x {L : List sp_T} {x : Nat} (h : L[x]? = none) : wat L x = 34 := by
  unfold wat
  rw [h]
theorem wat_i {L : List sp_T} {x : Nat} (h : ¬ wat L x = 34) : x < L.length := by
  obtain ⟨n, -, h1⟩ := wat_t rfl h
  exact h1
/-- what stands at x is found out -/
theorem wat_c (L : List sp_T) (x : Nat) : (L[x]? = none ∧ wat L x = 34 ∧ L.drop x = []) ∨ ∃ n, L[x]? = some (wat L x, n) ∧ L.drop x = (wat L x, n) :: L.drop (x + 1) := by
  cases h : L[x]? with
  | none => exact .inl ⟨rfl, wat_x h, dr_n h⟩
  | some t =>
    refine .inr ⟨t.2, ?_, ?_⟩
    · rw [wat_s (n := t.2) h]
    · rw [wat_s (n := t.2) h]
      exact dr_s h
theorem sp_tag_c {L : List sp_T} {x v : Nat} (h : L[x]? = some (33, some v)) (hv : v ≤ 15) : sp_tag 2 (L.drop x) = some (fun e => e.2.2 v, L.drop (x + 1)) := by
  rw [dr_s h]
  show (if 33 = 33 ∧ v ≤ 15 then _ else _) = _
  exact if_pos ⟨rfl, hv⟩
theorem sp_tag_n {L : List sp_T} {x : Nat} (h : ∀ v, L[x]? = some (33, some v) → ¬ v ≤ 15) : sp_tag 2 (L.drop x) = none := by
  rcases wat_c L x with ⟨-, -, e⟩ | ⟨n, h1, e⟩
  · rw [e]
    rfl
  · rw [e]
    cases n with
    | none => rfl
    | some v =>
      show (if wat L x = 33 ∧ v ≤ 15 then _ else _) = _
      refine if_neg (fun hh => h v ?_ hh.2)
      rw [h1, hh.1]
theorem sp_tag_o {w : Nat} {r : List sp_T} (h : ¬ w = 2) : sp_tag w r = some (fun e => e.2.1 w, r) := if_neg h
def sp_lp {α : Type} (sub : sp_P α) (sep : Nat) (op : α → α → α) (n : Nat) (a : α) (ts : List sp_T) : Option (α × List sp_T) := match sub ts with
  | some (b, r) => sp_loop sub sep op n (op a b) r
  | none => none
theorem sp_loop_y {α : Type} {sub : sp_P α} {sep : Nat} {op : α → α → α} {n : Nat} {a : α} {L : List sp_T} {y : Nat} (h : wat L y = sep) (hs : ¬ sep = 34) : sp_loop sub sep op (n + 1) a (L.drop y) = sp_lp sub sep op n a (L.drop (y + 1)) := by
  obtain ⟨m, h1, -⟩ := wat_t h hs
  rw [dr_s h1]
  show (if sep = sep then _ else _) = _
  exact if_pos rfl
theorem sp_loop_n {α : Type} {sub : sp_P α} {sep : Nat} {op : α → α → α} {n : Nat} {a : α} {L : List sp_T} {y : Nat} (h : ¬ wat L y = sep) : sp_loop sub sep op n a (L.drop y) = some (a, L.drop y) := by
  cases n with
  | zero => rfl
  | succ n =>
    rcases wat_c L y with ⟨-, -, e⟩ | ⟨m, -, e⟩
    · rw [e]
      rfl
    · rw [e]
      show (if wat L y = sep then _ else _) = _
      exact if_neg h
theorem sp_fact_y {L : List sp_T} {y : Nat} (h : sp_fw (wat L y) = true) : sp_fact (L.drop y) = some (fun e => e.1 (wat L y), L.drop (y + 1)) := by
  rcases wat_c L y with ⟨-, e, -⟩ | ⟨m, -, e⟩
  · rw [e] at h
    exact absurd h (by decide)
  · rw [e]
    exact if_pos h
theorem sp_fact_n {L : List sp_T} {y : Nat} (h : ¬ sp_fw (wat L y) = true) : sp_fact (L.drop y) = none := by
  rcases wat_c L y with ⟨-, -, e⟩ | ⟨m, -, e⟩
  · rw [e]
    rfl
  · rw [e]
    exact if_neg h
theorem sp_part_v {L : List sp_T} {y v : Nat} (h : L[y]? = some (33, some v)) : sp_part (L.drop y) = sp_times v (L.drop (y + 1)) := by
  rw [dr_s h]
  rfl
theorem sp_times_n {L : List sp_T} {y v : Nat} (h : ¬ wat L y = 28) : sp_times v (L.drop y) = some (fun _ => Int64.ofNat v, L.drop y) := by
  rcases wat_c L y with ⟨-, -, e⟩ | ⟨m, -, e⟩
  · rw [e]
    rfl
  · rw [e]
    exact if_neg h
theorem sp_times_y {L : List sp_T} {y v : Nat} (h : wat L y = 28) : sp_times v (L.drop y) = (match sp_fact (L.drop (y + 1)) with
    | some (f, r3) => some (fun e => Int64.ofNat v * f e, r3)
    | none => none) := by
  obtain ⟨m, h1, -⟩ := wat_t h (by decide)
  rw [dr_s h1]
  unfold sp_times
  dsimp only
  rw [if_pos rfl]
  rfl
theorem sp_part_1 {L : List sp_T} {y v : Nat} (h : L[y]? = some (33, some v)) (h2 : ¬ wat L (y + 1) = 28) : sp_part (L.drop y) = some (fun _ => Int64.ofNat v, L.drop (y + 1)) := (sp_part_v h).trans (sp_times_n h2)
theorem sp_part_2 {L : List sp_T} {y v : Nat} (h : L[y]? = some (33, some v)) (h2 : wat L (y + 1) = 28) (h3 : sp_fw (wat L (y + 2)) = true) : sp_part (L.drop y) = some (fun e => Int64.ofNat v * e.1 (wat L (y + 2)), L.drop (y + 3)) := by
  rw [sp_part_v h, sp_times_y h2, sp_fact_y h3]
theorem sp_part_2n {L : List sp_T} {y v : Nat} (h : L[y]? = some (33, some v)) (h2 : wat L (y + 1) = 28) (h3 : ¬ sp_fw (wat L (y + 2)) = true) : sp_part (L.drop y) = none := by
  rw [sp_part_v h, sp_times_y h2, sp_fact_n h3]
theorem sp_part_0 {L : List sp_T} {y : Nat} (h : L[y]? = some (33, none)) : sp_part (L.drop y) = none := by
  rw [dr_s h]
  rfl
theorem sp_part_f {L : List sp_T} {y : Nat} (h : ¬ wat L y = 33) : sp_part (L.drop y) = sp_fact (L.drop y) := by
  rcases wat_c L y with ⟨-, -, e⟩ | ⟨m, -, e⟩
  · rw [e]
    rfl
  · rw [e]
    exact if_neg h
theorem sp_part_3 {L : List sp_T} {y : Nat} (h : ¬ wat L y = 33) (h3 : sp_fw (wat L y) = true) : sp_part (L.drop y) = some (fun e => e.1 (wat L y), L.drop (y + 1)) := (sp_part_f h).trans (sp_fact_y h3)
theorem sp_part_3n {L : List sp_T} {y : Nat} (h : ¬ wat L y = 33) (h3 : ¬ sp_fw (wat L y) = true) : sp_part (L.drop y) = none := (sp_part_f h).trans (sp_fact_n h3)
/-- a sum that is being read: its first, its last -/
def sI (G : eg_G) (lo hi a b : Nat) (f : sp_E → Int64) : Prop := ∃ (qs : List (Nat × (sp_E → Int64))) (g : sp_E → Int64), ch G (.ref a) ((qs ++ [(b, g)]).map (·.1)) ∧ (∀ p ∈ qs ++ [(b, g)], lo ≤ p.1 ∧ p.1 < hi ∧ pt G p.1 p.2) ∧ (∀ q ∈ qs, q.1 < b) ∧ f = fun e => (qs ++ [(b, g)]).foldl (fun s p => s + p.2 e) 0
theorem sI.sm {G : eg_G} {lo hi a b : Nat} {f : sp_E → Int64} (h : sI G lo hi a b f) : sm G lo hi (.ref a) f := by
  obtain ⟨qs, g, h1, h2, -, h4⟩ := h
  exact ⟨_, h1, h2, h4⟩
theorem sI.fr {G G' : eg_G} {lo hi a b : Nat} {f : sp_E → Int64} (h : sI G lo hi a b f) (ha : agf G G' lo hi) : sI G' lo hi a b f := by
  obtain ⟨qs, g, h1, h2, h3, h4⟩ := h
  refine ⟨qs, g, h1.fr (fun c hc => ?_), fun p hp => ⟨(h2 p hp).1, (h2 p hp).2.1, (h2 p hp).2.2.fr (ha _ (h2 p hp).1 (h2 p hp).2.1 4) (ha _ (h2 p hp).1 (h2 p hp).2.1 5)⟩, h3, h4⟩
  obtain ⟨p, hp, rfl⟩ := List.mem_map.mp hc
  exact ha _ (h2 p hp).1 (h2 p hp).2.1 1
theorem sI.bd {G : eg_G} {lo hi a b : Nat} {f : sp_E → Int64} (h : sI G lo hi a b f) : lo ≤ b ∧ b < hi ∧ lo ≤ a ∧ a < hi := by
  obtain ⟨qs, g, h1, h2, -, -⟩ := h
  have hb := h2 (b, g) (List.mem_append_right _ List.mem_cons_self)
  refine ⟨hb.1, hb.2.1, ?_⟩
  cases qs with
  | nil =>
    have e : Value.ref a = .ref b := h1.1
    cases e
    exact ⟨hb.1, hb.2.1⟩
  | cons q qs =>
    have e : Value.ref a = .ref q.1 := h1.1
    cases e
    have hq := h2 q List.mem_cons_self
    exact ⟨hq.1, hq.2.1⟩
theorem sI.one {G : eg_G} {lo hi o : Nat} {g : sp_E → Int64} (h1 : kpl G o 1 .null) (ho : lo ≤ o ∧ o < hi) (hp : pt G o g) : sI G lo hi o o g := by
  refine ⟨[], g, ⟨rfl, .null, h1, rfl⟩, fun p hp2 => ?_, (fun q hq => by cases hq), ?_⟩
  · obtain rfl := List.mem_singleton.mp hp2
    exact ⟨ho.1, ho.2, hp⟩
  · funext e
    show g e = 0 + g e
    exact (Int64.zero_add _).symm
theorem ch_snoc {G G' : eg_G} {b o : Nat} : ∀ {cs : List Nat} {v : Value}, ch G v (cs ++ [b]) → (∀ c ∈ cs, et_pl (eg_at G' c) 1 = et_pl (eg_at G c) 1) → kpl G' b 1 (.ref o) → kpl G' o 1 .null → ch G' v ((cs ++ [b]) ++ [o])
  | [], v, ⟨e, _⟩, _, h1, h2 => ⟨e, .ref o, h1, rfl, .null, h2, rfl⟩
  | c :: cs, v, ⟨e, v', h3, h4⟩, hs, h1, h2 => ⟨e, v', (hs c List.mem_cons_self).trans h3, ch_snoc h4 (fun c' hc => hs c' (List.mem_cons_of_mem _ hc)) h1 h2⟩
theorem sI.snoc {G G' : eg_G} {lo hi hi' a b o : Nat} {f g : sp_E → Int64} (h : sI G lo hi a b f) (ha : ∀ c, lo ≤ c → c < hi → ∀ i, ¬ (c = b ∧ i = 1) → et_pl (eg_at G' c) i = et_pl (eg_at G c) i) (h1 : kpl G' b 1 (.ref o)) (h2 : kpl G' o 1 .null) (ho : hi ≤ o ∧ o < hi') (hp : pt G' o g) : sI G' lo hi' a o (fun e => f e + g e) := by
  have hbd := h.bd
  obtain ⟨qs, g0, h3, h4, h5, h6⟩ := h
  refine ⟨qs ++ [(b, g0)], g, ?_, fun p hp2 => ?_, fun q hq => ?_, ?_⟩
  · rw [List.map_append]
    have h3' : ch G (.ref a) (qs.map (·.1) ++ [b]) := by
      rw [List.map_append] at h3
      exact h3
    have h7 := ch_snoc (o := o) h3' (fun c hc => ?_) h1 h2
    · rw [List.map_append]
      exact h7
    · obtain ⟨q, hq, rfl⟩ := List.mem_map.mp hc
      have h8 := h4 q (List.mem_append_left _ hq)
      have h9 := h5 q hq
      exact ha q.1 h8.1 h8.2.1 1 (by omega)
  · rcases List.mem_append.mp hp2 with hp2 | hp2
    · have h8 := h4 p hp2
      exact ⟨h8.1, by omega, h8.2.2.fr (ha _ h8.1 h8.2.1 4 (by omega)) (ha _ h8.1 h8.2.1 5 (by omega))⟩
    · obtain rfl := List.mem_singleton.mp hp2
      exact ⟨by show lo ≤ o; omega, ho.2, hp⟩
  · have h8 := h4 q hq
    omega
  · funext e
    rw [h6, List.foldl_append]
    rfl
/-- the parser's places as a list of places -/
theorem rx_in {rd : Nat} {G G' : eg_G} (h : xf (rxS rd) G G') : xf (fun b j => (b = rd ∧ (2 ≤ j ∧ j ≤ 3)) ∨ (b = rd ∧ j = 8)) G G' := h.wk (fun a i _ hs => by
  have h1 := hs.1
  have h2 := hs.2
  omega)
theorem rx_out {rd : Nat} {G G' : eg_G} (h : xf (fun b j => (b = rd ∧ (2 ≤ j ∧ j ≤ 3)) ∨ (b = rd ∧ j = 8)) G G') : xf (rxS rd) G G' := h.wk (fun a i _ hs => by
  unfold rxS
  omega)
theorem sp_lp_y {α : Type} {sub : sp_P α} {sep : Nat} {op : α → α → α} {n : Nat} {a g : α} {L : List sp_T} {y y2 : Nat} (h : sub (L.drop y) = some (g, L.drop y2)) (hw : wat L y2 = sep) (hs : ¬ sep = 34) : sp_lp sub sep op (n + 1) a (L.drop y) = sp_lp sub sep op n (op a g) (L.drop (y2 + 1)) := by
  have e : sp_lp sub sep op (n + 1) a (L.drop y) = sp_loop sub sep op (n + 1) (op a g) (L.drop y2) := by
    unfold sp_lp
    rw [h]
  rw [e]
  exact sp_loop_y hw hs
theorem sp_lp_n {α : Type} {sub : sp_P α} {sep : Nat} {op : α → α → α} {n : Nat} {a g : α} {L : List sp_T} {y y2 : Nat} (h : sub (L.drop y) = some (g, L.drop y2)) (hw : ¬ wat L y2 = sep) : sp_lp sub sep op n a (L.drop y) = some (op a g, L.drop y2) := by
  unfold sp_lp
  rw [h]
  exact sp_loop_n hw
theorem sp_lp_0 {α : Type} {sub : sp_P α} {sep : Nat} {op : α → α → α} {n : Nat} {a : α} {L : List sp_T} {y : Nat} (h : sub (L.drop y) = none) : sp_lp sub sep op n a (L.drop y) = none := by
  unfold sp_lp
  rw [h]
theorem sp_many_y {α : Type} {sub : sp_P α} {sep : Nat} {op : α → α → α} {g : α} {L : List sp_T} {y y2 : Nat} (h : sub (L.drop y) = some (g, L.drop y2)) (hw : wat L y2 = sep) (hs : ¬ sep = 34) : sp_many sub sep op (L.drop y) = sp_lp sub sep op 499 g (L.drop (y2 + 1)) := by
  have e : sp_many sub sep op (L.drop y) = sp_loop sub sep op (499 + 1) g (L.drop y2) := by
    unfold sp_many
    rw [h]
  rw [e]
  exact sp_loop_y hw hs
theorem sp_many_n {α : Type} {sub : sp_P α} {sep : Nat} {op : α → α → α} {g : α} {L : List sp_T} {y y2 : Nat} (h : sub (L.drop y) = some (g, L.drop y2)) (hw : ¬ wat L y2 = sep) : sp_many sub sep op (L.drop y) = some (g, L.drop y2) := by
  unfold sp_many
  rw [h]
  exact sp_loop_n hw
theorem sp_many_0 {α : Type} {sub : sp_P α} {sep : Nat} {op : α → α → α} {L : List sp_T} {y : Nat} (h : sub (L.drop y) = none) : sp_many sub sep op (L.drop y) = none := by
  unfold sp_many
  rw [h]

section FPA
variable {K K0 : et_K} {G G0 : eg_G} {L : List sp_T} {d2 d rd x : Nat}
theorem fx_tag (hH : et_H et_TT K G) (k_rd : K rd = some 7) (htk : tk K G rd L) (htl : tl L) (r8 : et_pl (eg_at G rd) 8 = some (.int (Int32.ofNat x))) (hx : x ≤ L.length) (r2 : et_pl (eg_at G rd) 2 = some (.int (-1))) {wd : Nat} {nn : Option Nat} (hw : L[x]? = some (wd, nn)) (htw : sp_tw wd = true) (hd : 2 ≤ d2) : et_go none d2 82 0 (eg_en (eg_mL 82) [.ref rd]) [] G 0 0 (fz rd L x K G (fB 1 G.2) (sp_tag wd (L.drop (x + 1)))) := by
  obtain ⟨d, rfl⟩ : ∃ d, d2 = d + 2 := ⟨d2 - 2, by omega⟩
  have hwt := wat_s hw
  have hxl := (List.getElem?_eq_some_iff.mp hw).1
  rw [show eg_mL 82 = 2 from by decide +kernel]
  show et_go none (d + 2) 82 0 [some (.ref rd), none] [] G 0 0 _
  have lt_rd := (hH.2.2 _ _ k_rd).1
  have hX : xf (fun b j => (b = rd ∧ (2 ≤ j ∧ j ≤ 3)) ∨ (b = rd ∧ j = 8)) G G := xf.rf
  have hx0 : et_ex K K := et_ex.rf
  have hl4 : L.length ≤ 400 := by obtain ⟨_, _, _, _, _, h, _⟩ := htk; exact h
  have hHo := hH
  refine hf_newN (p := 3) (by decide +kernel) (by omega) (by omega) hH (fun KK0 GG0 hxx0 x0 hH k_G_2 mm0 hf0 => ?_)
  have r8 := (x0.2 rd 8 lt_rd (fun h => h)).trans r8
  have r2 := (x0.2 rd 2 lt_rd (fun h => h)).trans r2
  have lt_rd := Nat.lt_of_lt_of_le lt_rd x0.1
  have hX := hX.tr x0 (fun b j hb h => h.elim)
  have m0 := x0.1
  have htk := htk.xf hHo k_rd hxx0 x0 (fun a j hs => absurd hs id)
  have k_rd := hxx0 _ _ k_rd
  have hx0 := hx0.tr hxx0
  have lt_G_2 : G.2 < GG0.2 := by omega
  obtain ⟨n1_0, n2_0, n3_0, n4_0, n5_0⟩ := hf0
  refine hs_dup1 (p := 4) (by decide +kernel) ?_
  refine hs_k (x := Int32.ofNat 3) (p := 5) (by decide +kernel) ?_
  have hHo := hH
  refine hs_callp (mi := 61) (na := 1) (lk := 2) (lm := 2) (L0 := eg_en (eg_mL 61) [.ref G.2, .int (Int32.ofNat 3)]) (by decide +kernel) rfl rfl rfl rfl rfl (by rw [show eg_mL 61 = 2 from by decide +kernel]; first | done | rfl) ?_
  refine (fc_nod hH k_G_2).mono (fun u hu => xw_cb hu (fun G5 v5 hH x5 hP5 => ?_))
  have r8 := (x5.2 rd 8 lt_rd (fun h => (hi_ne k_rd k_G_2 (by decide)) h.1)).trans r8
  have r2 := (x5.2 rd 2 lt_rd (fun h => (hi_ne k_rd k_G_2 (by decide)) h.1)).trans r2
  have n1_0 := (x5.2 G.2 1 lt_G_2 (fun h => absurd h.2 (by decide))).trans n1_0
  have n2_0 := (x5.2 G.2 2 lt_G_2 (fun h => absurd h.2 (by decide))).trans n2_0
  have n3_0 := (x5.2 G.2 3 lt_G_2 (fun h => absurd h.2 (by decide))).trans n3_0
  have n4_0 := (x5.2 G.2 4 lt_G_2 (fun h => absurd h.2 (by decide))).trans n4_0
  have n5_0 := (x5.2 G.2 5 lt_G_2 (fun h => absurd h.2 (by decide))).trans n5_0
  have lt_rd := Nat.lt_of_lt_of_le lt_rd x5.1
  have lt_G_2 := Nat.lt_of_lt_of_le lt_G_2 x5.1
  have hX := hX.tr x5 (fun b j hb h => by first | omega | (dsimp only at h ⊢; omega) | (dsimp only at h; omega) | (dsimp only; omega))
  have m5 := x5.1
  have htk := htk.xf hHo k_rd et_ex.rf x5 (fun a j hs => .inr (.inl (by have e := hs.1; rw [e]; exact k_G_2)))
  obtain ⟨rfl, e5⟩ := hP5
  show et_go none _ 82 8 _ [.ref G.2] _ _ _ _
  refine hs_astore (i := 1) (p := 9) (by decide +kernel) (Nat.le_of_ble_eq_true rfl) ?_
  refine hs_aload (i := 1) (p := 10) (by decide +kernel) rfl ?_
  refine hs_aload (i := 0) (p := 11) (by decide +kernel) rfl ?_
  refine hs_k (x := Int32.ofNat 1) (p := 12) (by decide +kernel) ?_
  refine ht_callv (T := et_TT) (t := 7) (mi := 79) (na := 1) (ci := 5) (lk := 2) (lm := 2) (L0 := eg_en (eg_mL 79) [.ref rd, .int (Int32.ofNat 1)]) (by decide +kernel) rfl hH k_rd rfl rfl rfl rfl rfl (by rw [show eg_mL 79 = 2 from by decide +kernel]; first | done | rfl) ?_
  refine (fc_wh1 hH k_rd htk htl r8 (by omega)).mono (fun u hu => xp_cb hu ?_)
  by_cases w12 : sp_tw (wat L x) = true
  · rw [if_pos w12]
    obtain ⟨wn12, hwn, -⟩ := wat_t (L := L) (x := x) rfl (fun h => by rw [h] at w12; exact absurd w12 (by decide))
    have il12 : x < L.length := wat_i (fun h => by rw [h] at w12; exact absurd w12 (by decide))
    show et_go none _ 82 15 _ [.ref (wat L x), .ref G.2] _ _ _ _
    have hHo := hH
    refine hf_put (T := et_TT) (t := 6) (ci := 4) (f := 4) (p := 18) (ty := (.object "KnobEye$Word")) (by decide +kernel) rfl rfl rfl rfl rfl hH k_G_2 (.inr ⟨by decide, _, rfl, hH.2.1 _ (wat_lt htl)⟩) (fun G15 hH x15 e15 => ?_)
    have r8 := (x15.2 rd 8 lt_rd (fun h => (hi_ne k_rd k_G_2 (by decide)) h.1)).trans r8
    have r2 := (x15.2 rd 2 lt_rd (fun h => (hi_ne k_rd k_G_2 (by decide)) h.1)).trans r2
    have n1_0 := (x15.2 G.2 1 lt_G_2 (fun h => absurd h.2 (by decide))).trans n1_0
    have n2_0 := (x15.2 G.2 2 lt_G_2 (fun h => absurd h.2 (by decide))).trans n2_0
    have n3_0 := (x15.2 G.2 3 lt_G_2 (fun h => absurd h.2 (by decide))).trans n3_0
    have n5_0 := (x15.2 G.2 5 lt_G_2 (fun h => absurd h.2 (by decide))).trans n5_0
    have e5 := (x15.2 G.2 0 lt_G_2 (fun h => absurd h.2 (by decide))).trans e5
    have lt_rd := Nat.lt_of_lt_of_le lt_rd x15.1
    have lt_G_2 := Nat.lt_of_lt_of_le lt_G_2 x15.1
    have hX := hX.tr x15 (fun b j hb h => by first | omega | (dsimp only at h ⊢; omega) | (dsimp only at h; omega) | (dsimp only; omega))
    have m15 := x15.1
    have htk := htk.xf hHo k_rd et_ex.rf x15 (fun a j hs => .inr (.inl (by have e := hs.1; rw [e]; exact k_G_2)))
    refine hs_aload (i := 0) (p := 19) (by decide +kernel) rfl ?_
    refine hs_dup1 (p := 20) (by decide +kernel) ?_
    refine hf_get (T := et_TT) (t := 7) (ci := 5) (f := 8) (p := 23) (by decide +kernel) rfl hH k_rd r8 ?_
    refine hs_k (x := Int32.ofNat 1) (p := 24) (by decide +kernel) ?_
    refine hs_iaddn (p := 25) (by decide +kernel) ?_
    have hHo := hH
    refine hf_put (T := et_TT) (t := 7) (ci := 5) (f := 8) (p := 28) (ty := .int) (by decide +kernel) rfl rfl rfl rfl rfl hH k_rd (hi_nv (by omega) (by omega)) (fun G25 hH x25 e25 => ?_)
    have r2 := (x25.2 rd 2 lt_rd (fun h => absurd h.2 (by decide))).trans r2
    have n1_0 := (x25.2 G.2 1 lt_G_2 (fun h => (hi_ne k_G_2 k_rd (by decide)) h.1)).trans n1_0
    have n2_0 := (x25.2 G.2 2 lt_G_2 (fun h => (hi_ne k_G_2 k_rd (by decide)) h.1)).trans n2_0
    have n3_0 := (x25.2 G.2 3 lt_G_2 (fun h => (hi_ne k_G_2 k_rd (by decide)) h.1)).trans n3_0
    have e15 := (x25.2 G.2 4 lt_G_2 (fun h => (hi_ne k_G_2 k_rd (by decide)) h.1)).trans e15
    have n5_0 := (x25.2 G.2 5 lt_G_2 (fun h => (hi_ne k_G_2 k_rd (by decide)) h.1)).trans n5_0
    have e5 := (x25.2 G.2 0 lt_G_2 (fun h => (hi_ne k_G_2 k_rd (by decide)) h.1)).trans e5
    have lt_rd := Nat.lt_of_lt_of_le lt_rd x25.1
    have lt_G_2 := Nat.lt_of_lt_of_le lt_G_2 x25.1
    have hX := hX.tr x25 (fun b j hb h => by first | omega | (dsimp only at h ⊢; omega) | (dsimp only at h; omega) | (dsimp only; omega))
    have m25 := x25.1
    have htk := htk.xf hHo k_rd et_ex.rf x25 (fun a j hs => .inl (by first | omega | (dsimp only at hs; omega)))
    have e25 : et_pl (eg_at G25 rd) 8 = some (.int (Int32.ofNat (x + 1))) := e25
    refine hs_aload (i := 1) (p := 29) (by decide +kernel) rfl ?_
    refine hf_get (T := et_TT) (t := 6) (ci := 4) (f := 4) (p := 32) (by decide +kernel) rfl hH k_G_2 e15 ?_
    refine hs_gst (v := Value.ref 2) (p := 35) (by decide +kernel) ?_
    refine hf_acm (c := .ne) (tt := 48) (ff := 38) (by decide +kernel) (hi_ca hH (hH.2.1 _ (wat_lt htl)) (.inl rfl)) (by decide +kernel) (fun (q35 : ¬ Value.ref (wat L x) = .ref 2) => ?_) (fun (q35 : ¬ ¬ Value.ref (wat L x) = .ref 2) => ?_)
    · have q35 : ¬ (wat L x) = 2 := fun h => q35 (by rw [h])
      refine hs_aload (i := 0) (p := 49) (by decide +kernel) rfl ?_
      refine hf_get (T := et_TT) (t := 7) (ci := 5) (f := 2) (p := 52) (by decide +kernel) rfl hH k_rd r2 ?_
      refine hs_k (x := (-1)) (p := 53) (by decide +kernel) ?_
      refine hs_br2 (c := .ne) (t := 60) (f := 56) (by decide +kernel) (fun hz => absurd rfl hz) (fun _ => ?_)
      refine hs_aload (i := 1) (p := 57) (by decide +kernel) rfl ?_
      refine hs_goto (p := 61) (by decide +kernel) ?_
      refine hs_aret (cn := "KnobEye$Node") (by decide +kernel) ?_
      have hw2 : ¬ wd = 2 := fun h => q35 (hwt.trans h)
      refine ⟨_, _, _, _, _, rfl, hx0, hH, rx_out hX, ?_⟩
      rw [sp_tag_o hw2]
      exact ⟨x + 1, _, rfl, (by omega), (by omega), e25, r2, rfl, k_G_2, ⟨⟨⟨Nat.le_refl _, lt_G_2⟩, .inl ⟨wat L x, 0, w12, by decide, e5, e15, n5_0, by rw [hwt]; exact funext (fun e => (if_neg hw2).symm)⟩⟩, n1_0⟩⟩
    · have q35 : (wat L x) = 2 := Value.ref.inj (Decidable.of_not_not q35)
      refine hs_aload (i := 1) (p := 39) (by decide +kernel) rfl ?_
      refine hs_aload (i := 0) (p := 40) (by decide +kernel) rfl ?_
      refine hs_k (x := Int32.ofNat 15) (p := 42) (by decide +kernel) ?_
      have hHo := hH
      refine ht_callv (T := et_TT) (t := 7) (mi := 83) (na := 1) (ci := 5) (lk := 2) (lm := 3) (L0 := eg_en (eg_mL 83) [.ref rd, .int (Int32.ofNat 15)]) (by decide +kernel) rfl hH k_rd rfl rfl rfl rfl rfl (by rw [show eg_mL 83 = 3 from by decide +kernel]; first | done | rfl) ?_
      refine (fc_tn hH k_rd htk htl e25 (by omega) r2 (by decide) (by omega)).mono (fun u hu => xw_cb hu (fun G42 v42 hH x42 hP42 => ?_))
      have n1_0 := (x42.2 G.2 1 lt_G_2 (fun h => Or.elim h (fun h => (hi_ne k_G_2 k_rd (by decide)) h.1) (fun h => (hi_ne k_G_2 k_rd (by decide)) h.1))).trans n1_0
      have n2_0 := (x42.2 G.2 2 lt_G_2 (fun h => Or.elim h (fun h => (hi_ne k_G_2 k_rd (by decide)) h.1) (fun h => (hi_ne k_G_2 k_rd (by decide)) h.1))).trans n2_0
      have n3_0 := (x42.2 G.2 3 lt_G_2 (fun h => Or.elim h (fun h => (hi_ne k_G_2 k_rd (by decide)) h.1) (fun h => (hi_ne k_G_2 k_rd (by decide)) h.1))).trans n3_0
      have e15 := (x42.2 G.2 4 lt_G_2 (fun h => Or.elim h (fun h => (hi_ne k_G_2 k_rd (by decide)) h.1) (fun h => (hi_ne k_G_2 k_rd (by decide)) h.1))).trans e15
      have n5_0 := (x42.2 G.2 5 lt_G_2 (fun h => Or.elim h (fun h => (hi_ne k_G_2 k_rd (by decide)) h.1) (fun h => (hi_ne k_G_2 k_rd (by decide)) h.1))).trans n5_0
      have e5 := (x42.2 G.2 0 lt_G_2 (fun h => Or.elim h (fun h => (hi_ne k_G_2 k_rd (by decide)) h.1) (fun h => (hi_ne k_G_2 k_rd (by decide)) h.1))).trans e5
      have lt_rd := Nat.lt_of_lt_of_le lt_rd x42.1
      have lt_G_2 := Nat.lt_of_lt_of_le lt_G_2 x42.1
      have hX := hX.tr x42 (fun b j hb h => by first | omega | (dsimp only at h ⊢; omega) | (dsimp only at h; omega) | (dsimp only; omega))
      have m42 := x42.1
      have htk := htk.xf hHo k_rd et_ex.rf x42 (fun a j hs => .inl (by first | omega | (dsimp only at hs; omega)))
      rcases hP42 with ⟨v42, tv42, tm42, rfl, t842, t242⟩ | ⟨tv42, rfl, t842, q42, hq42, t242⟩
      · have tl42 := (List.getElem?_eq_some_iff.mp tv42).1
        show et_go none _ 82 45 _ [.int (Int32.ofNat v42), .ref G.2] _ _ _ _
        have hHo := hH
        refine hf_put (T := et_TT) (t := 6) (ci := 4) (f := 5) (p := 48) (ty := .int) (by decide +kernel) rfl rfl rfl rfl rfl hH k_G_2 hi_any (fun G45 hH x45 e45 => ?_)
        have t842 := (x45.2 rd 8 lt_rd (fun h => (hi_ne k_rd k_G_2 (by decide)) h.1)).trans t842
        have t242 := (x45.2 rd 2 lt_rd (fun h => (hi_ne k_rd k_G_2 (by decide)) h.1)).trans t242
        have n1_0 := (x45.2 G.2 1 lt_G_2 (fun h => absurd h.2 (by decide))).trans n1_0
        have n2_0 := (x45.2 G.2 2 lt_G_2 (fun h => absurd h.2 (by decide))).trans n2_0
        have n3_0 := (x45.2 G.2 3 lt_G_2 (fun h => absurd h.2 (by decide))).trans n3_0
        have e15 := (x45.2 G.2 4 lt_G_2 (fun h => absurd h.2 (by decide))).trans e15
        have e5 := (x45.2 G.2 0 lt_G_2 (fun h => absurd h.2 (by decide))).trans e5
        have lt_rd := Nat.lt_of_lt_of_le lt_rd x45.1
        have lt_G_2 := Nat.lt_of_lt_of_le lt_G_2 x45.1
        have hX := hX.tr x45 (fun b j hb h => by first | omega | (dsimp only at h ⊢; omega) | (dsimp only at h; omega) | (dsimp only; omega))
        have m45 := x45.1
        have htk := htk.xf hHo k_rd et_ex.rf x45 (fun a j hs => .inr (.inl (by have e := hs.1; rw [e]; exact k_G_2)))
        refine hs_aload (i := 0) (p := 49) (by decide +kernel) rfl ?_
        refine hf_get (T := et_TT) (t := 7) (ci := 5) (f := 2) (p := 52) (by decide +kernel) rfl hH k_rd t242 ?_
        refine hs_k (x := (-1)) (p := 53) (by decide +kernel) ?_
        refine hs_br2 (c := .ne) (t := 60) (f := 56) (by decide +kernel) (fun hz => absurd rfl hz) (fun _ => ?_)
        refine hs_aload (i := 1) (p := 57) (by decide +kernel) rfl ?_
        refine hs_goto (p := 61) (by decide +kernel) ?_
        refine hs_aret (cn := "KnobEye$Node") (by decide +kernel) ?_
        obtain rfl : wd = 2 := hwt.symm.trans q35
        refine ⟨_, _, _, _, _, rfl, hx0, hH, rx_out hX, ?_⟩
        rw [sp_tag_c tv42 tm42]
        exact ⟨x + 2, _, rfl, (by omega), (by omega), t842, t242, rfl, k_G_2, ⟨⟨⟨Nat.le_refl _, lt_G_2⟩, .inl ⟨wat L x, _, w12, tm42, e5, e15, e45, by rw [q35]; rfl⟩⟩, n1_0⟩⟩
      · show et_go none _ 82 45 _ [.int (-1), .ref G.2] _ _ _ _
        have hHo := hH
        refine hf_put (T := et_TT) (t := 6) (ci := 4) (f := 5) (p := 48) (ty := .int) (by decide +kernel) rfl rfl rfl rfl rfl hH k_G_2 (hi_iv (by decide) (by decide)) (fun G45 hH x45 e45 => ?_)
        have t842 := (x45.2 rd 8 lt_rd (fun h => (hi_ne k_rd k_G_2 (by decide)) h.1)).trans t842
        have t242 := (x45.2 rd 2 lt_rd (fun h => (hi_ne k_rd k_G_2 (by decide)) h.1)).trans t242
        have n1_0 := (x45.2 G.2 1 lt_G_2 (fun h => absurd h.2 (by decide))).trans n1_0
        have n2_0 := (x45.2 G.2 2 lt_G_2 (fun h => absurd h.2 (by decide))).trans n2_0
        have n3_0 := (x45.2 G.2 3 lt_G_2 (fun h => absurd h.2 (by decide))).trans n3_0
        have e15 := (x45.2 G.2 4 lt_G_2 (fun h => absurd h.2 (by decide))).trans e15
        have e5 := (x45.2 G.2 0 lt_G_2 (fun h => absurd h.2 (by decide))).trans e5
        have lt_rd := Nat.lt_of_lt_of_le lt_rd x45.1
        have lt_G_2 := Nat.lt_of_lt_of_le lt_G_2 x45.1
        have hX := hX.tr x45 (fun b j hb h => by first | omega | (dsimp only at h ⊢; omega) | (dsimp only at h; omega) | (dsimp only; omega))
        have m45 := x45.1
        have htk := htk.xf hHo k_rd et_ex.rf x45 (fun a j hs => .inr (.inl (by have e := hs.1; rw [e]; exact k_G_2)))
        refine hs_aload (i := 0) (p := 49) (by decide +kernel) rfl ?_
        refine hf_get (T := et_TT) (t := 7) (ci := 5) (f := 2) (p := 52) (by decide +kernel) rfl hH k_rd t242 ?_
        refine hs_k (x := (-1)) (p := 53) (by decide +kernel) ?_
        refine hs_br2 (c := .ne) (t := 60) (f := 56) (by decide +kernel) (fun _ => ?_) (fun hz => absurd (show ¬ ((Int32.ofNat q42 : Int32) = (-1)) from xi_nm1 (by omega)) hz)
        refine hs_nul (p := 61) (by decide +kernel) ?_
        refine hs_aretN (cn := "KnobEye$Node") (by decide +kernel) ?_
        obtain rfl : wd = 2 := hwt.symm.trans q35
        refine ⟨_, _, _, _, _, rfl, hx0, hH, rx_out hX, ?_⟩
        rw [sp_tag_n tv42]
        exact ⟨rfl, _, (by omega), t242⟩
  · exact absurd (by rw [hwt]; exact htw) w12
theorem fn_sum {i a b ck sk y n hi : Nat} {f : sp_E → Int64} {x4 x5 : Option Value} (hH : et_H et_TT K G) (hx0 : et_ex K0 K) (hX : xf (fun b j => (b = rd ∧ (2 ≤ j ∧ j ≤ 3)) ∨ (b = rd ∧ j = 8)) G0 G) (k_rd : K rd = some 7) (htk : tk K G rd L) (htl : tl L) (r8 : et_pl (eg_at G rd) 8 = some (.int (Int32.ofNat y))) (hy : y ≤ L.length) (r2 : et_pl (eg_at G rd) 2 = some (.int (-1))) (lr0 : rd < G0.2) (hxy : x ≤ y) (k_a : K a = some 6) (k_b : K b = some 6) (hI : sI G G0.2 hi a b f) (hh : hi ≤ G.2) (nb : kpl G b 1 .null) (hn : L.length - y < n) (hck : ck ≤ 807 * i) (hsk : sk ≤ 6 * ck) (hiy : 2 * i ≤ y) : et_go none (d + 2) 81 6 [some (.ref rd), some (.ref a), some (.ref b), some (.int (Int32.ofNat i)), x4, x5] [] G ck sk (fz rd L x K0 G0 (fS G0.2) (sp_lp sp_part 27 (fun f g e => f e + g e) n f (L.drop y))) := by
  induction hm : L.length - y using Nat.strongRecOn generalizing i b ck sk y n hi f x4 x5 K G with
  | _ z ih =>
    obtain ⟨ta, ba, na, ⟨k_ta, k_ba, k_na⟩, ⟨r4, r5, r6, r7⟩, hl4, -⟩ := id htk
    have hbd := hI.bd
    have mX := hX.1
    have lt_rd := (hH.2.2 _ _ k_rd).1
    have lt_na := (hH.2.2 _ _ k_na).1
    have lt_a := (hH.2.2 _ _ k_a).1
    have lt_b := (hH.2.2 _ _ k_b).1
    refine hs_iload (i := 3) (p := 7) (by decide +kernel) rfl ?_
    refine hs_k (x := Int32.ofNat 400) (p := 10) (by decide +kernel) ?_
    refine hs_br2n (c := .ge) (t := 243) (f := 13) (by decide +kernel) (by omega) (by omega) (fun (c10 : 400 ≤ i) => ?_) (fun (c10 : ¬ (400 ≤ i)) => ?_)
    · exact absurd c10 (by omega)
    · have hHo := hH
      refine hf_newN (p := 16) (by decide +kernel) (by omega) (by omega) hH (fun KK13 GG13 hxx13 x13 hH k_G_2 mm13 hf13 => ?_)
      have r8 := (x13.2 rd 8 lt_rd (fun h => h)).trans r8
      have r2 := (x13.2 rd 2 lt_rd (fun h => h)).trans r2
      have r6 := (x13.2 rd 6 lt_rd (fun h => h)).trans r6
      have r7 := (x13.2 rd 7 lt_rd (fun h => h)).trans r7
      have nb := (x13.2 b 1 lt_b (fun h => h)).trans nb
      have lt_rd := Nat.lt_of_lt_of_le lt_rd x13.1
      have lt_na := Nat.lt_of_lt_of_le lt_na x13.1
      have lt_a := Nat.lt_of_lt_of_le lt_a x13.1
      have lt_b := Nat.lt_of_lt_of_le lt_b x13.1
      have hX := hX.tr x13 (fun b j hb h => h.elim)
      have m13 := x13.1
      have htk := htk.xf hHo k_rd hxx13 x13 (fun a j hs => absurd hs id)
      have hI := hI.fr (x13.agf (lo := G0.2) (hi := hi) (by omega) (fun a j h1 h2 hs => by exact hs))
      have k_rd := hxx13 _ _ k_rd
      have k_na := hxx13 _ _ k_na
      have k_a := hxx13 _ _ k_a
      have k_b := hxx13 _ _ k_b
      have hx0 := hx0.tr hxx13
      have lt_G_2 : G.2 < GG13.2 := by omega
      obtain ⟨n1_13, n2_13, n3_13, n4_13, n5_13⟩ := hf13
      refine hs_dup1 (p := 17) (by decide +kernel) ?_
      refine hs_k (x := Int32.ofNat 6) (p := 19) (by decide +kernel) ?_
      have hHo := hH
      refine hs_callp (mi := 61) (na := 1) (lk := 6) (lm := 2) (L0 := eg_en (eg_mL 61) [.ref G.2, .int (Int32.ofNat 6)]) (by decide +kernel) rfl rfl rfl rfl rfl (by rw [show eg_mL 61 = 2 from by decide +kernel]; first | done | rfl) ?_
      refine (fc_nod hH k_G_2).mono (fun u hu => xw_cb hu (fun G19 v19 hH x19 hP19 => ?_))
      have r8 := (x19.2 rd 8 lt_rd (fun h => (hi_ne k_rd k_G_2 (by decide)) h.1)).trans r8
      have r2 := (x19.2 rd 2 lt_rd (fun h => (hi_ne k_rd k_G_2 (by decide)) h.1)).trans r2
      have r6 := (x19.2 rd 6 lt_rd (fun h => (hi_ne k_rd k_G_2 (by decide)) h.1)).trans r6
      have r7 := (x19.2 rd 7 lt_rd (fun h => (hi_ne k_rd k_G_2 (by decide)) h.1)).trans r7
      have nb := (x19.2 b 1 lt_b (fun h => (show ¬ b = G.2 by omega) h.1)).trans nb
      have n1_13 := (x19.2 G.2 1 lt_G_2 (fun h => absurd h.2 (by decide))).trans n1_13
      have n2_13 := (x19.2 G.2 2 lt_G_2 (fun h => absurd h.2 (by decide))).trans n2_13
      have n3_13 := (x19.2 G.2 3 lt_G_2 (fun h => absurd h.2 (by decide))).trans n3_13
      have n4_13 := (x19.2 G.2 4 lt_G_2 (fun h => absurd h.2 (by decide))).trans n4_13
      have n5_13 := (x19.2 G.2 5 lt_G_2 (fun h => absurd h.2 (by decide))).trans n5_13
      have lt_rd := Nat.lt_of_lt_of_le lt_rd x19.1
      have lt_na := Nat.lt_of_lt_of_le lt_na x19.1
      have lt_a := Nat.lt_of_lt_of_le lt_a x19.1
      have lt_b := Nat.lt_of_lt_of_le lt_b x19.1
      have lt_G_2 := Nat.lt_of_lt_of_le lt_G_2 x19.1
      have hX := hX.tr x19 (fun b j hb h => by first | omega | (dsimp only at h ⊢; omega) | (dsimp only at h; omega) | (dsimp only; omega))
      have m19 := x19.1
      have htk := htk.xf hHo k_rd et_ex.rf x19 (fun a j hs => .inr (.inl (by have e := hs.1; rw [e]; exact k_G_2)))
      have hI := hI.fr (x19.agf (lo := G0.2) (hi := hi) (by omega) (fun a j h1 h2 hs => by first | omega | (dsimp only at hs; omega)))
      obtain ⟨rfl, e19⟩ := hP19
      show et_go none _ 81 22 _ [.ref G.2] _ _ _ _
      refine hs_astore (i := 4) (p := 24) (by decide +kernel) (Nat.le_of_ble_eq_true rfl) ?_
      refine hs_aload (i := 4) (p := 26) (by decide +kernel) rfl ?_
      refine hs_k (x := Int32.ofNat 1) (p := 27) (by decide +kernel) ?_
      have hHo := hH
      refine hf_put (T := et_TT) (t := 6) (ci := 4) (f := 5) (p := 30) (ty := .int) (by decide +kernel) rfl rfl rfl rfl rfl hH k_G_2 hi_any (fun G27 hH x27 e27 => ?_)
      have r8 := (x27.2 rd 8 lt_rd (fun h => (hi_ne k_rd k_G_2 (by decide)) h.1)).trans r8
      have r2 := (x27.2 rd 2 lt_rd (fun h => (hi_ne k_rd k_G_2 (by decide)) h.1)).trans r2
      have r6 := (x27.2 rd 6 lt_rd (fun h => (hi_ne k_rd k_G_2 (by decide)) h.1)).trans r6
      have r7 := (x27.2 rd 7 lt_rd (fun h => (hi_ne k_rd k_G_2 (by decide)) h.1)).trans r7
      have nb := (x27.2 b 1 lt_b (fun h => (show ¬ b = G.2 by omega) h.1)).trans nb
      have n1_13 := (x27.2 G.2 1 lt_G_2 (fun h => absurd h.2 (by decide))).trans n1_13
      have n2_13 := (x27.2 G.2 2 lt_G_2 (fun h => absurd h.2 (by decide))).trans n2_13
      have n3_13 := (x27.2 G.2 3 lt_G_2 (fun h => absurd h.2 (by decide))).trans n3_13
      have n4_13 := (x27.2 G.2 4 lt_G_2 (fun h => absurd h.2 (by decide))).trans n4_13
      have e19 := (x27.2 G.2 0 lt_G_2 (fun h => absurd h.2 (by decide))).trans e19
      have lt_rd := Nat.lt_of_lt_of_le lt_rd x27.1
      have lt_na := Nat.lt_of_lt_of_le lt_na x27.1
      have lt_a := Nat.lt_of_lt_of_le lt_a x27.1
      have lt_b := Nat.lt_of_lt_of_le lt_b x27.1
      have lt_G_2 := Nat.lt_of_lt_of_le lt_G_2 x27.1
      have hX := hX.tr x27 (fun b j hb h => by first | omega | (dsimp only at h ⊢; omega) | (dsimp only at h; omega) | (dsimp only; omega))
      have m27 := x27.1
      have htk := htk.xf hHo k_rd et_ex.rf x27 (fun a j hs => .inr (.inl (by have e := hs.1; rw [e]; exact k_G_2)))
      have hI := hI.fr (x27.agf (lo := G0.2) (hi := hi) (by omega) (fun a j h1 h2 hs => by first | omega | (dsimp only at hs; omega)))
      refine hs_aload (i := 0) (p := 31) (by decide +kernel) rfl ?_
      refine hs_gst (v := Value.ref 33) (p := 34) (by decide +kernel) ?_
      refine ht_callv (T := et_TT) (t := 7) (mi := 78) (na := 1) (ci := 5) (lk := 6) (lm := 2) (L0 := eg_en (eg_mL 78) [.ref rd, .ref 33]) (by decide +kernel) rfl hH k_rd rfl rfl rfl rfl rfl (by rw [show eg_mL 78 = 2 from by decide +kernel]; first | done | rfl) ?_
      refine (fc_is hH k_rd htk htl r8 (by omega) (wd := 33) (by decide)).mono (fun u hu => xp_cb hu ?_)
      by_cases i34 : wat L y = 33
      · rw [if_pos i34]
        have il34 : y < L.length := wat_i (by rw [i34]; decide)
        show et_go none _ 81 37 _ [.int (Int32.ofNat 1)] _ _ _ _
        refine hs_if1 (c := .ne) (t := 44) (f := 40) (by decide +kernel) (show ¬ Int32.ofNat 1 = 0 by decide) ?_
        refine hs_k (x := Int32.ofNat 0) (p := 45) (by decide +kernel) ?_
        refine hs_istore (i := 5) (p := 47) (by decide +kernel) (Nat.le_of_ble_eq_true rfl) ?_
        refine hs_iload (i := 5) (p := 49) (by decide +kernel) rfl ?_
        refine hs_if0 (c := .ne) (t := 132) (f := 52) (by decide +kernel) (show ¬ (¬ Int32.ofNat 0 = 0) by decide) ?_
        refine hs_aload (i := 4) (p := 54) (by decide +kernel) rfl ?_
        refine hs_aload (i := 0) (p := 55) (by decide +kernel) rfl ?_
        refine hf_get (T := et_TT) (t := 7) (ci := 5) (f := 8) (p := 58) (by decide +kernel) rfl hH k_rd r8 ?_
        refine hs_aload (i := 0) (p := 59) (by decide +kernel) rfl ?_
        refine hf_get (T := et_TT) (t := 7) (ci := 5) (f := 7) (p := 62) (by decide +kernel) rfl hH k_rd r7 ?_
        refine hs_br2n (c := .ge) (t := 77) (f := 65) (by decide +kernel) (by omega) (by omega) (fun (c62 : (L.length + 1) ≤ y) => ?_) (fun (c62 : ¬ ((L.length + 1) ≤ y)) => ?_)
        · exact absurd c62 (by omega)
        · refine hs_aload (i := 0) (p := 66) (by decide +kernel) rfl ?_
          refine hf_get (T := et_TT) (t := 7) (ci := 5) (f := 6) (p := 69) (by decide +kernel) rfl hH k_rd r6 ?_
          refine hs_aload (i := 0) (p := 70) (by decide +kernel) rfl ?_
          refine hf_get (T := et_TT) (t := 7) (ci := 5) (f := 8) (p := 73) (by decide +kernel) rfl hH k_rd r8 ?_
          obtain ⟨nn, hnn, hxl⟩ := wat_t i34 (by decide)
          have htn := htk.n hnn r6
          cases nn with
          | none =>
            have htn : et_pl (eg_at G27 na) y = some (.int (-1)) := htn
            refine hf_ald (ins := .iaload) (T := et_TT) (t := 21) (kd := 0) (N := 401) (p := 74) (by decide +kernel) (fun _ _ _ _ _ _ _ _ _ _ => rfl) rfl rfl rfl hH k_na (by decide) htn ?_
            refine hs_goto (p := 78) (by decide +kernel) ?_
            have hHo := hH
            refine hf_put (T := et_TT) (t := 6) (ci := 4) (f := 5) (p := 81) (ty := .int) (by decide +kernel) rfl rfl rfl rfl rfl hH k_G_2 (hi_iv (by decide) (by decide)) (fun G78 hH x78 e78 => ?_)
            have r8 := (x78.2 rd 8 lt_rd (fun h => (hi_ne k_rd k_G_2 (by decide)) h.1)).trans r8
            have r2 := (x78.2 rd 2 lt_rd (fun h => (hi_ne k_rd k_G_2 (by decide)) h.1)).trans r2
            have r6 := (x78.2 rd 6 lt_rd (fun h => (hi_ne k_rd k_G_2 (by decide)) h.1)).trans r6
            have r7 := (x78.2 rd 7 lt_rd (fun h => (hi_ne k_rd k_G_2 (by decide)) h.1)).trans r7
            have nb := (x78.2 b 1 lt_b (fun h => (show ¬ b = G.2 by omega) h.1)).trans nb
            have n1_13 := (x78.2 G.2 1 lt_G_2 (fun h => absurd h.2 (by decide))).trans n1_13
            have n2_13 := (x78.2 G.2 2 lt_G_2 (fun h => absurd h.2 (by decide))).trans n2_13
            have n3_13 := (x78.2 G.2 3 lt_G_2 (fun h => absurd h.2 (by decide))).trans n3_13
            have n4_13 := (x78.2 G.2 4 lt_G_2 (fun h => absurd h.2 (by decide))).trans n4_13
            have e19 := (x78.2 G.2 0 lt_G_2 (fun h => absurd h.2 (by decide))).trans e19
            have lt_rd := Nat.lt_of_lt_of_le lt_rd x78.1
            have lt_na := Nat.lt_of_lt_of_le lt_na x78.1
            have lt_a := Nat.lt_of_lt_of_le lt_a x78.1
            have lt_b := Nat.lt_of_lt_of_le lt_b x78.1
            have lt_G_2 := Nat.lt_of_lt_of_le lt_G_2 x78.1
            have hX := hX.tr x78 (fun b j hb h => by first | omega | (dsimp only at h ⊢; omega) | (dsimp only at h; omega) | (dsimp only; omega))
            have m78 := x78.1
            have htk := htk.xf hHo k_rd et_ex.rf x78 (fun a j hs => .inr (.inl (by have e := hs.1; rw [e]; exact k_G_2)))
            have hI := hI.fr (x78.agf (lo := G0.2) (hi := hi) (by omega) (fun a j h1 h2 hs => by first | omega | (dsimp only at hs; omega)))
            refine hs_aload (i := 4) (p := 83) (by decide +kernel) rfl ?_
            refine hf_get (T := et_TT) (t := 6) (ci := 4) (f := 5) (p := 86) (by decide +kernel) rfl hH k_G_2 e78 ?_
            refine hs_if0 (c := .ge) (t := 94) (f := 89) (by decide +kernel) (show ¬ (0 ≤ (-1 : Int32)) by decide) ?_
            refine hs_aload (i := 0) (p := 90) (by decide +kernel) rfl ?_
            have hHo := hH
            refine ht_callv (T := et_TT) (t := 7) (mi := 76) (na := 0) (ci := 5) (lk := 6) (lm := 1) (L0 := eg_en (eg_mL 76) [.ref rd]) (by decide +kernel) rfl hH k_rd rfl rfl rfl rfl rfl (by rw [show eg_mL 76 = 1 from by decide +kernel]; first | done | rfl) ?_
            refine (fc_fail hH k_rd htk htl r8 (by omega) r2).mono (fun u hu => xw_cb hu (fun G90 v90 hH x90 hP90 => ?_))
            have r8 := (x90.2 rd 8 lt_rd (fun h => absurd h.2 (by decide))).trans r8
            have r6 := (x90.2 rd 6 lt_rd (fun h => absurd h.2 (by decide))).trans r6
            have r7 := (x90.2 rd 7 lt_rd (fun h => absurd h.2 (by decide))).trans r7
            have nb := (x90.2 b 1 lt_b (fun h => (hi_ne k_b k_rd (by decide)) h.1)).trans nb
            have n1_13 := (x90.2 G.2 1 lt_G_2 (fun h => (hi_ne k_G_2 k_rd (by decide)) h.1)).trans n1_13
            have n2_13 := (x90.2 G.2 2 lt_G_2 (fun h => (hi_ne k_G_2 k_rd (by decide)) h.1)).trans n2_13
            have n3_13 := (x90.2 G.2 3 lt_G_2 (fun h => (hi_ne k_G_2 k_rd (by decide)) h.1)).trans n3_13
            have n4_13 := (x90.2 G.2 4 lt_G_2 (fun h => (hi_ne k_G_2 k_rd (by decide)) h.1)).trans n4_13
            have e78 := (x90.2 G.2 5 lt_G_2 (fun h => (hi_ne k_G_2 k_rd (by decide)) h.1)).trans e78
            have e19 := (x90.2 G.2 0 lt_G_2 (fun h => (hi_ne k_G_2 k_rd (by decide)) h.1)).trans e19
            have lt_rd := Nat.lt_of_lt_of_le lt_rd x90.1
            have lt_na := Nat.lt_of_lt_of_le lt_na x90.1
            have lt_a := Nat.lt_of_lt_of_le lt_a x90.1
            have lt_b := Nat.lt_of_lt_of_le lt_b x90.1
            have lt_G_2 := Nat.lt_of_lt_of_le lt_G_2 x90.1
            have hX := hX.tr x90 (fun b j hb h => by first | omega | (dsimp only at h ⊢; omega) | (dsimp only at h; omega) | (dsimp only; omega))
            have m90 := x90.1
            have htk := htk.xf hHo k_rd et_ex.rf x90 (fun a j hs => .inl (by first | omega | (dsimp only at hs; omega)))
            have hI := hI.fr (x90.agf (lo := G0.2) (hi := hi) (by omega) (fun a j h1 h2 hs => by first | omega | (dsimp only at hs; omega)))
            obtain ⟨rfl, q90, hq90, e90⟩ := hP90
            show et_go none _ 81 93 _ [.null] _ _ _ _
            refine hs_aretN (cn := "KnobEye$Node") (by decide +kernel) ?_
            refine ⟨_, _, _, _, _, rfl, hx0, hH, rx_out hX, ?_⟩
            rw [show sp_lp sp_part 27 (fun f g e => f e + g e) n f (L.drop y) = none from sp_lp_0 (sp_part_0 hnn)]
            exact ⟨rfl, _, (by omega), e90⟩
          | some vv =>
            have htn : et_pl (eg_at G27 na) y = some (.int (Int32.ofNat vv)) := htn
            have hvv := (htl _ (List.mem_of_getElem? hnn)).2 vv rfl
            refine hf_ald (ins := .iaload) (T := et_TT) (t := 21) (kd := 0) (N := 401) (p := 74) (by decide +kernel) (fun _ _ _ _ _ _ _ _ _ _ => rfl) rfl rfl rfl hH k_na (by decide) htn ?_
            refine hs_goto (p := 78) (by decide +kernel) ?_
            have hHo := hH
            refine hf_put (T := et_TT) (t := 6) (ci := 4) (f := 5) (p := 81) (ty := .int) (by decide +kernel) rfl rfl rfl rfl rfl hH k_G_2 hi_any (fun G78 hH x78 e78 => ?_)
            have r8 := (x78.2 rd 8 lt_rd (fun h => (hi_ne k_rd k_G_2 (by decide)) h.1)).trans r8
            have r2 := (x78.2 rd 2 lt_rd (fun h => (hi_ne k_rd k_G_2 (by decide)) h.1)).trans r2
            have r6 := (x78.2 rd 6 lt_rd (fun h => (hi_ne k_rd k_G_2 (by decide)) h.1)).trans r6
            have r7 := (x78.2 rd 7 lt_rd (fun h => (hi_ne k_rd k_G_2 (by decide)) h.1)).trans r7
            have nb := (x78.2 b 1 lt_b (fun h => (show ¬ b = G.2 by omega) h.1)).trans nb
            have n1_13 := (x78.2 G.2 1 lt_G_2 (fun h => absurd h.2 (by decide))).trans n1_13
            have n2_13 := (x78.2 G.2 2 lt_G_2 (fun h => absurd h.2 (by decide))).trans n2_13
            have n3_13 := (x78.2 G.2 3 lt_G_2 (fun h => absurd h.2 (by decide))).trans n3_13
            have n4_13 := (x78.2 G.2 4 lt_G_2 (fun h => absurd h.2 (by decide))).trans n4_13
            have e19 := (x78.2 G.2 0 lt_G_2 (fun h => absurd h.2 (by decide))).trans e19
            have lt_rd := Nat.lt_of_lt_of_le lt_rd x78.1
            have lt_na := Nat.lt_of_lt_of_le lt_na x78.1
            have lt_a := Nat.lt_of_lt_of_le lt_a x78.1
            have lt_b := Nat.lt_of_lt_of_le lt_b x78.1
            have lt_G_2 := Nat.lt_of_lt_of_le lt_G_2 x78.1
            have hX := hX.tr x78 (fun b j hb h => by first | omega | (dsimp only at h ⊢; omega) | (dsimp only at h; omega) | (dsimp only; omega))
            have m78 := x78.1
            have htk := htk.xf hHo k_rd et_ex.rf x78 (fun a j hs => .inr (.inl (by have e := hs.1; rw [e]; exact k_G_2)))
            have hI := hI.fr (x78.agf (lo := G0.2) (hi := hi) (by omega) (fun a j h1 h2 hs => by first | omega | (dsimp only at hs; omega)))
            refine hs_aload (i := 4) (p := 83) (by decide +kernel) rfl ?_
            refine hf_get (T := et_TT) (t := 6) (ci := 4) (f := 5) (p := 86) (by decide +kernel) rfl hH k_G_2 e78 ?_
            refine hs_if1 (c := .ge) (t := 94) (f := 89) (by decide +kernel) (rs_ng (by omega)) ?_
            refine hs_aload (i := 0) (p := 95) (by decide +kernel) rfl ?_
            refine hs_dup1 (p := 96) (by decide +kernel) ?_
            refine hf_get (T := et_TT) (t := 7) (ci := 5) (f := 8) (p := 99) (by decide +kernel) rfl hH k_rd r8 ?_
            refine hs_k (x := Int32.ofNat 1) (p := 100) (by decide +kernel) ?_
            refine hs_iaddn (p := 101) (by decide +kernel) ?_
            have hHo := hH
            refine hf_put (T := et_TT) (t := 7) (ci := 5) (f := 8) (p := 104) (ty := .int) (by decide +kernel) rfl rfl rfl rfl rfl hH k_rd (hi_nv (by omega) (by omega)) (fun G101 hH x101 e101 => ?_)
            have r2 := (x101.2 rd 2 lt_rd (fun h => absurd h.2 (by decide))).trans r2
            have r6 := (x101.2 rd 6 lt_rd (fun h => absurd h.2 (by decide))).trans r6
            have r7 := (x101.2 rd 7 lt_rd (fun h => absurd h.2 (by decide))).trans r7
            have nb := (x101.2 b 1 lt_b (fun h => (hi_ne k_b k_rd (by decide)) h.1)).trans nb
            have n1_13 := (x101.2 G.2 1 lt_G_2 (fun h => (hi_ne k_G_2 k_rd (by decide)) h.1)).trans n1_13
            have n2_13 := (x101.2 G.2 2 lt_G_2 (fun h => (hi_ne k_G_2 k_rd (by decide)) h.1)).trans n2_13
            have n3_13 := (x101.2 G.2 3 lt_G_2 (fun h => (hi_ne k_G_2 k_rd (by decide)) h.1)).trans n3_13
            have n4_13 := (x101.2 G.2 4 lt_G_2 (fun h => (hi_ne k_G_2 k_rd (by decide)) h.1)).trans n4_13
            have e78 := (x101.2 G.2 5 lt_G_2 (fun h => (hi_ne k_G_2 k_rd (by decide)) h.1)).trans e78
            have e19 := (x101.2 G.2 0 lt_G_2 (fun h => (hi_ne k_G_2 k_rd (by decide)) h.1)).trans e19
            have lt_rd := Nat.lt_of_lt_of_le lt_rd x101.1
            have lt_na := Nat.lt_of_lt_of_le lt_na x101.1
            have lt_a := Nat.lt_of_lt_of_le lt_a x101.1
            have lt_b := Nat.lt_of_lt_of_le lt_b x101.1
            have lt_G_2 := Nat.lt_of_lt_of_le lt_G_2 x101.1
            have hX := hX.tr x101 (fun b j hb h => by first | omega | (dsimp only at h ⊢; omega) | (dsimp only at h; omega) | (dsimp only; omega))
            have m101 := x101.1
            have htk := htk.xf hHo k_rd et_ex.rf x101 (fun a j hs => .inl (by first | omega | (dsimp only at hs; omega)))
            have hI := hI.fr (x101.agf (lo := G0.2) (hi := hi) (by omega) (fun a j h1 h2 hs => by first | omega | (dsimp only at hs; omega)))
            have e101 : et_pl (eg_at G101 rd) 8 = some (.int (Int32.ofNat (y + 1))) := e101
            refine hs_aload (i := 0) (p := 105) (by decide +kernel) rfl ?_
            refine hs_gst (v := Value.ref 28) (p := 108) (by decide +kernel) ?_
            refine ht_callv (T := et_TT) (t := 7) (mi := 78) (na := 1) (ci := 5) (lk := 6) (lm := 2) (L0 := eg_en (eg_mL 78) [.ref rd, .ref 28]) (by decide +kernel) rfl hH k_rd rfl rfl rfl rfl rfl (by rw [show eg_mL 78 = 2 from by decide +kernel]; first | done | rfl) ?_
            refine (fc_is hH k_rd htk htl e101 (by omega) (wd := 28) (by decide)).mono (fun u hu => xp_cb hu ?_)
            by_cases i108 : wat L (y + 1) = 28
            · rw [if_pos i108]
              have il108 : (y + 1) < L.length := wat_i (by rw [i108]; decide)
              show et_go none _ 81 111 _ [.int (Int32.ofNat 1)] _ _ _ _
              refine hs_istore (i := 5) (p := 113) (by decide +kernel) (Nat.le_of_ble_eq_true rfl) ?_
              refine hs_aload (i := 0) (p := 114) (by decide +kernel) rfl ?_
              refine hs_dup1 (p := 115) (by decide +kernel) ?_
              refine hf_get (T := et_TT) (t := 7) (ci := 5) (f := 8) (p := 118) (by decide +kernel) rfl hH k_rd e101 ?_
              refine hs_iload (i := 5) (p := 120) (by decide +kernel) rfl ?_
              refine hs_if0 (c := .eq) (t := 127) (f := 123) (by decide +kernel) (show ¬ (Int32.ofNat 1 = 0) by decide) ?_
              refine hs_k (x := Int32.ofNat 1) (p := 124) (by decide +kernel) ?_
              refine hs_goto (p := 128) (by decide +kernel) ?_
              refine hs_iaddn (p := 129) (by decide +kernel) ?_
              have hHo := hH
              refine hf_put (T := et_TT) (t := 7) (ci := 5) (f := 8) (p := 132) (ty := .int) (by decide +kernel) rfl rfl rfl rfl rfl hH k_rd (hi_nv (by omega) (by omega)) (fun G129 hH x129 e129 => ?_)
              have r2 := (x129.2 rd 2 lt_rd (fun h => absurd h.2 (by decide))).trans r2
              have r6 := (x129.2 rd 6 lt_rd (fun h => absurd h.2 (by decide))).trans r6
              have r7 := (x129.2 rd 7 lt_rd (fun h => absurd h.2 (by decide))).trans r7
              have nb := (x129.2 b 1 lt_b (fun h => (hi_ne k_b k_rd (by decide)) h.1)).trans nb
              have n1_13 := (x129.2 G.2 1 lt_G_2 (fun h => (hi_ne k_G_2 k_rd (by decide)) h.1)).trans n1_13
              have n2_13 := (x129.2 G.2 2 lt_G_2 (fun h => (hi_ne k_G_2 k_rd (by decide)) h.1)).trans n2_13
              have n3_13 := (x129.2 G.2 3 lt_G_2 (fun h => (hi_ne k_G_2 k_rd (by decide)) h.1)).trans n3_13
              have n4_13 := (x129.2 G.2 4 lt_G_2 (fun h => (hi_ne k_G_2 k_rd (by decide)) h.1)).trans n4_13
              have e78 := (x129.2 G.2 5 lt_G_2 (fun h => (hi_ne k_G_2 k_rd (by decide)) h.1)).trans e78
              have e19 := (x129.2 G.2 0 lt_G_2 (fun h => (hi_ne k_G_2 k_rd (by decide)) h.1)).trans e19
              have lt_rd := Nat.lt_of_lt_of_le lt_rd x129.1
              have lt_na := Nat.lt_of_lt_of_le lt_na x129.1
              have lt_a := Nat.lt_of_lt_of_le lt_a x129.1
              have lt_b := Nat.lt_of_lt_of_le lt_b x129.1
              have lt_G_2 := Nat.lt_of_lt_of_le lt_G_2 x129.1
              have hX := hX.tr x129 (fun b j hb h => by first | omega | (dsimp only at h ⊢; omega) | (dsimp only at h; omega) | (dsimp only; omega))
              have m129 := x129.1
              have htk := htk.xf hHo k_rd et_ex.rf x129 (fun a j hs => .inl (by first | omega | (dsimp only at hs; omega)))
              have hI := hI.fr (x129.agf (lo := G0.2) (hi := hi) (by omega) (fun a j h1 h2 hs => by first | omega | (dsimp only at hs; omega)))
              have e129 : et_pl (eg_at G129 rd) 8 = some (.int (Int32.ofNat (y + 2))) := e129
              refine hs_iload (i := 5) (p := 134) (by decide +kernel) rfl ?_
              refine hs_if0 (c := .eq) (t := 195) (f := 137) (by decide +kernel) (show ¬ (Int32.ofNat 1 = 0) by decide) ?_
              refine hs_aload (i := 4) (p := 139) (by decide +kernel) rfl ?_
              refine hs_aload (i := 0) (p := 140) (by decide +kernel) rfl ?_
              refine hs_k (x := Int32.ofNat 2) (p := 141) (by decide +kernel) ?_
              refine ht_callv (T := et_TT) (t := 7) (mi := 79) (na := 1) (ci := 5) (lk := 6) (lm := 2) (L0 := eg_en (eg_mL 79) [.ref rd, .int (Int32.ofNat 2)]) (by decide +kernel) rfl hH k_rd rfl rfl rfl rfl rfl (by rw [show eg_mL 79 = 2 from by decide +kernel]; first | done | rfl) ?_
              refine (fc_wh2 hH k_rd htk htl e129 (by omega)).mono (fun u hu => xp_cb hu ?_)
              by_cases w141 : sp_fw (wat L (y + 2)) = true
              · rw [if_pos w141]
                obtain ⟨wn141, hwn, -⟩ := wat_t (L := L) (x := (y + 2)) rfl (fun h => by rw [h] at w141; exact absurd w141 (by decide))
                have il141 : (y + 2) < L.length := wat_i (fun h => by rw [h] at w141; exact absurd w141 (by decide))
                show et_go none _ 81 144 _ [.ref (wat L (y + 2)), .ref G.2] _ _ _ _
                have hHo := hH
                refine hf_put (T := et_TT) (t := 6) (ci := 4) (f := 4) (p := 147) (ty := (.object "KnobEye$Word")) (by decide +kernel) rfl rfl rfl rfl rfl hH k_G_2 (.inr ⟨by decide, _, rfl, hH.2.1 _ (wat_lt htl)⟩) (fun G144 hH x144 e144 => ?_)
                have e129 := (x144.2 rd 8 lt_rd (fun h => (hi_ne k_rd k_G_2 (by decide)) h.1)).trans e129
                have r2 := (x144.2 rd 2 lt_rd (fun h => (hi_ne k_rd k_G_2 (by decide)) h.1)).trans r2
                have r6 := (x144.2 rd 6 lt_rd (fun h => (hi_ne k_rd k_G_2 (by decide)) h.1)).trans r6
                have r7 := (x144.2 rd 7 lt_rd (fun h => (hi_ne k_rd k_G_2 (by decide)) h.1)).trans r7
                have nb := (x144.2 b 1 lt_b (fun h => (show ¬ b = G.2 by omega) h.1)).trans nb
                have n1_13 := (x144.2 G.2 1 lt_G_2 (fun h => absurd h.2 (by decide))).trans n1_13
                have n2_13 := (x144.2 G.2 2 lt_G_2 (fun h => absurd h.2 (by decide))).trans n2_13
                have n3_13 := (x144.2 G.2 3 lt_G_2 (fun h => absurd h.2 (by decide))).trans n3_13
                have e78 := (x144.2 G.2 5 lt_G_2 (fun h => absurd h.2 (by decide))).trans e78
                have e19 := (x144.2 G.2 0 lt_G_2 (fun h => absurd h.2 (by decide))).trans e19
                have lt_rd := Nat.lt_of_lt_of_le lt_rd x144.1
                have lt_na := Nat.lt_of_lt_of_le lt_na x144.1
                have lt_a := Nat.lt_of_lt_of_le lt_a x144.1
                have lt_b := Nat.lt_of_lt_of_le lt_b x144.1
                have lt_G_2 := Nat.lt_of_lt_of_le lt_G_2 x144.1
                have hX := hX.tr x144 (fun b j hb h => by first | omega | (dsimp only at h ⊢; omega) | (dsimp only at h; omega) | (dsimp only; omega))
                have m144 := x144.1
                have htk := htk.xf hHo k_rd et_ex.rf x144 (fun a j hs => .inr (.inl (by have e := hs.1; rw [e]; exact k_G_2)))
                have hI := hI.fr (x144.agf (lo := G0.2) (hi := hi) (by omega) (fun a j h1 h2 hs => by first | omega | (dsimp only at hs; omega)))
                refine hs_aload (i := 4) (p := 149) (by decide +kernel) rfl ?_
                refine hf_get (T := et_TT) (t := 6) (ci := 4) (f := 4) (p := 152) (by decide +kernel) rfl hH k_G_2 e144 ?_
                refine hs_ifnonnull1 (p := 160) (by decide +kernel) ?_
                refine hs_aload (i := 0) (p := 161) (by decide +kernel) rfl ?_
                refine hs_dup1 (p := 162) (by decide +kernel) ?_
                refine ht_getn (T := et_TT) (t := 7) (ci := 5) (f := 3) (p := 165) (by decide +kernel) rfl rfl hH k_rd (fun c162 h162 e162 => ?_)
                refine hs_aload (i := 4) (p := 167) (by decide +kernel) rfl ?_
                refine hf_get (T := et_TT) (t := 6) (ci := 4) (f := 4) (p := 170) (by decide +kernel) rfl hH k_G_2 e144 ?_
                refine hs_gst (v := Value.ref 17) (p := 173) (by decide +kernel) ?_
                refine hf_acm (c := .ne) (tt := 180) (ff := 176) (by decide +kernel) (hi_ca hH (hH.2.1 _ (wat_lt htl)) (.inl rfl)) (by decide +kernel) (fun (q173 : ¬ Value.ref (wat L (y + 2)) = .ref 17) => ?_) (fun (q173 : ¬ ¬ Value.ref (wat L (y + 2)) = .ref 17) => ?_)
                · have q173 : ¬ (wat L (y + 2)) = 17 := fun h => q173 (by rw [h])
                  refine hs_k (x := Int32.ofNat 0) (p := 181) (by decide +kernel) ?_
                  refine hs_ior (p := 182) (by decide +kernel) ?_
                  obtain ⟨m181, hm181, hq181⟩ := hi_or (a := c162) (b := 0) (by omega) (by omega)
                  rw [hq181]
                  have hHo := hH
                  refine hf_put (T := et_TT) (t := 7) (ci := 5) (f := 3) (p := 185) (ty := .boolean) (by decide +kernel) rfl rfl rfl (hi_fz (by omega)) rfl hH k_rd (hi_nv (by omega) (by omega)) (fun G182 hH x182 e182 => ?_)
                  have e129 := (x182.2 rd 8 lt_rd (fun h => absurd h.2 (by decide))).trans e129
                  have r2 := (x182.2 rd 2 lt_rd (fun h => absurd h.2 (by decide))).trans r2
                  have r6 := (x182.2 rd 6 lt_rd (fun h => absurd h.2 (by decide))).trans r6
                  have r7 := (x182.2 rd 7 lt_rd (fun h => absurd h.2 (by decide))).trans r7
                  have nb := (x182.2 b 1 lt_b (fun h => (hi_ne k_b k_rd (by decide)) h.1)).trans nb
                  have n1_13 := (x182.2 G.2 1 lt_G_2 (fun h => (hi_ne k_G_2 k_rd (by decide)) h.1)).trans n1_13
                  have n2_13 := (x182.2 G.2 2 lt_G_2 (fun h => (hi_ne k_G_2 k_rd (by decide)) h.1)).trans n2_13
                  have n3_13 := (x182.2 G.2 3 lt_G_2 (fun h => (hi_ne k_G_2 k_rd (by decide)) h.1)).trans n3_13
                  have e144 := (x182.2 G.2 4 lt_G_2 (fun h => (hi_ne k_G_2 k_rd (by decide)) h.1)).trans e144
                  have e78 := (x182.2 G.2 5 lt_G_2 (fun h => (hi_ne k_G_2 k_rd (by decide)) h.1)).trans e78
                  have e19 := (x182.2 G.2 0 lt_G_2 (fun h => (hi_ne k_G_2 k_rd (by decide)) h.1)).trans e19
                  have lt_rd := Nat.lt_of_lt_of_le lt_rd x182.1
                  have lt_na := Nat.lt_of_lt_of_le lt_na x182.1
                  have lt_a := Nat.lt_of_lt_of_le lt_a x182.1
                  have lt_b := Nat.lt_of_lt_of_le lt_b x182.1
                  have lt_G_2 := Nat.lt_of_lt_of_le lt_G_2 x182.1
                  have hX := hX.tr x182 (fun b j hb h => by first | omega | (dsimp only at h ⊢; omega) | (dsimp only at h; omega) | (dsimp only; omega))
                  have m182 := x182.1
                  have htk := htk.xf hHo k_rd et_ex.rf x182 (fun a j hs => .inl (by first | omega | (dsimp only at hs; omega)))
                  have hI := hI.fr (x182.agf (lo := G0.2) (hi := hi) (by omega) (fun a j h1 h2 hs => by first | omega | (dsimp only at hs; omega)))
                  refine hs_aload (i := 0) (p := 186) (by decide +kernel) rfl ?_
                  refine hs_dup1 (p := 187) (by decide +kernel) ?_
                  refine hf_get (T := et_TT) (t := 7) (ci := 5) (f := 8) (p := 190) (by decide +kernel) rfl hH k_rd e129 ?_
                  refine hs_k (x := Int32.ofNat 1) (p := 191) (by decide +kernel) ?_
                  refine hs_iaddn (p := 192) (by decide +kernel) ?_
                  have hHo := hH
                  refine hf_put (T := et_TT) (t := 7) (ci := 5) (f := 8) (p := 195) (ty := .int) (by decide +kernel) rfl rfl rfl rfl rfl hH k_rd (hi_nv (by omega) (by omega)) (fun G192 hH x192 e192 => ?_)
                  have r2 := (x192.2 rd 2 lt_rd (fun h => absurd h.2 (by decide))).trans r2
                  have r6 := (x192.2 rd 6 lt_rd (fun h => absurd h.2 (by decide))).trans r6
                  have r7 := (x192.2 rd 7 lt_rd (fun h => absurd h.2 (by decide))).trans r7
                  have nb := (x192.2 b 1 lt_b (fun h => (hi_ne k_b k_rd (by decide)) h.1)).trans nb
                  have n1_13 := (x192.2 G.2 1 lt_G_2 (fun h => (hi_ne k_G_2 k_rd (by decide)) h.1)).trans n1_13
                  have n2_13 := (x192.2 G.2 2 lt_G_2 (fun h => (hi_ne k_G_2 k_rd (by decide)) h.1)).trans n2_13
                  have n3_13 := (x192.2 G.2 3 lt_G_2 (fun h => (hi_ne k_G_2 k_rd (by decide)) h.1)).trans n3_13
                  have e144 := (x192.2 G.2 4 lt_G_2 (fun h => (hi_ne k_G_2 k_rd (by decide)) h.1)).trans e144
                  have e78 := (x192.2 G.2 5 lt_G_2 (fun h => (hi_ne k_G_2 k_rd (by decide)) h.1)).trans e78
                  have e19 := (x192.2 G.2 0 lt_G_2 (fun h => (hi_ne k_G_2 k_rd (by decide)) h.1)).trans e19
                  have e182 := (x192.2 rd 3 lt_rd (fun h => absurd h.2 (by decide))).trans e182
                  have lt_rd := Nat.lt_of_lt_of_le lt_rd x192.1
                  have lt_na := Nat.lt_of_lt_of_le lt_na x192.1
                  have lt_a := Nat.lt_of_lt_of_le lt_a x192.1
                  have lt_b := Nat.lt_of_lt_of_le lt_b x192.1
                  have lt_G_2 := Nat.lt_of_lt_of_le lt_G_2 x192.1
                  have hX := hX.tr x192 (fun b j hb h => by first | omega | (dsimp only at h ⊢; omega) | (dsimp only at h; omega) | (dsimp only; omega))
                  have m192 := x192.1
                  have htk := htk.xf hHo k_rd et_ex.rf x192 (fun a j hs => .inl (by first | omega | (dsimp only at hs; omega)))
                  have hI := hI.fr (x192.agf (lo := G0.2) (hi := hi) (by omega) (fun a j h1 h2 hs => by first | omega | (dsimp only at hs; omega)))
                  have e192 : et_pl (eg_at G192 rd) 8 = some (.int (Int32.ofNat (y + 3))) := e192
                  refine hs_aload (i := 2) (p := 196) (by decide +kernel) rfl ?_
                  refine hs_ifnonnull1 (p := 205) (by decide +kernel) ?_
                  refine hs_aload (i := 2) (p := 206) (by decide +kernel) rfl ?_
                  refine hs_aload (i := 4) (p := 208) (by decide +kernel) rfl ?_
                  have hHo := hH
                  refine hf_next (ty := .object "KnobEye$Node") (p := 211) (by decide +kernel) rfl hH k_b k_G_2 (by omega) (fun G208 hH x208 e208 _ => ?_)
                  have e192 := (x208.2 rd 8 lt_rd (fun h => (hi_ne k_rd k_b (by decide)) h.1)).trans e192
                  have r2 := (x208.2 rd 2 lt_rd (fun h => (hi_ne k_rd k_b (by decide)) h.1)).trans r2
                  have r6 := (x208.2 rd 6 lt_rd (fun h => (hi_ne k_rd k_b (by decide)) h.1)).trans r6
                  have r7 := (x208.2 rd 7 lt_rd (fun h => (hi_ne k_rd k_b (by decide)) h.1)).trans r7
                  have n1_13 := (x208.2 G.2 1 lt_G_2 (fun h => (show ¬ G.2 = b by omega) h.1)).trans n1_13
                  have n2_13 := (x208.2 G.2 2 lt_G_2 (fun h => (show ¬ G.2 = b by omega) h.1)).trans n2_13
                  have n3_13 := (x208.2 G.2 3 lt_G_2 (fun h => (show ¬ G.2 = b by omega) h.1)).trans n3_13
                  have e144 := (x208.2 G.2 4 lt_G_2 (fun h => (show ¬ G.2 = b by omega) h.1)).trans e144
                  have e78 := (x208.2 G.2 5 lt_G_2 (fun h => (show ¬ G.2 = b by omega) h.1)).trans e78
                  have e19 := (x208.2 G.2 0 lt_G_2 (fun h => (show ¬ G.2 = b by omega) h.1)).trans e19
                  have e182 := (x208.2 rd 3 lt_rd (fun h => (hi_ne k_rd k_b (by decide)) h.1)).trans e182
                  have lt_rd := Nat.lt_of_lt_of_le lt_rd x208.1
                  have lt_na := Nat.lt_of_lt_of_le lt_na x208.1
                  have lt_a := Nat.lt_of_lt_of_le lt_a x208.1
                  have lt_b := Nat.lt_of_lt_of_le lt_b x208.1
                  have lt_G_2 := Nat.lt_of_lt_of_le lt_G_2 x208.1
                  have hX := hX.tr x208 (fun b j hb h => by first | omega | (dsimp only at h ⊢; omega) | (dsimp only at h; omega) | (dsimp only; omega))
                  have m208 := x208.1
                  have htk := htk.xf hHo k_rd et_ex.rf x208 (fun a j hs => .inr (.inl (by have e := hs.1; rw [e]; exact k_b)))
                  refine hs_aload (i := 4) (p := 213) (by decide +kernel) rfl ?_
                  refine hs_astore (i := 2) (p := 214) (by decide +kernel) (Nat.le_of_ble_eq_true rfl) ?_
                  have hI := hI.snoc (hi' := G208.2) (fun c c1 c2 i ci => x208.2 c i (by omega) ci) e208 n1_13 ⟨by omega, lt_G_2⟩ (⟨vv, hvv, e78, .inr ⟨_, w141, e144, rfl⟩⟩)
                  refine hs_aload (i := 0) (p := 215) (by decide +kernel) rfl ?_
                  refine hs_gst (v := Value.ref 27) (p := 218) (by decide +kernel) ?_
                  refine ht_callv (T := et_TT) (t := 7) (mi := 78) (na := 1) (ci := 5) (lk := 6) (lm := 2) (L0 := eg_en (eg_mL 78) [.ref rd, .ref 27]) (by decide +kernel) rfl hH k_rd rfl rfl rfl rfl rfl (by rw [show eg_mL 78 = 2 from by decide +kernel]; first | done | rfl) ?_
                  refine (fc_is hH k_rd htk htl e192 (by omega) (wd := 27) (by decide)).mono (fun u hu => xp_cb hu ?_)
                  by_cases i218 : wat L (y + 3) = 27
                  · rw [if_pos i218]
                    have il218 : (y + 3) < L.length := wat_i (by rw [i218]; decide)
                    show et_go none _ 81 221 _ [.int (Int32.ofNat 1)] _ _ _ _
                    refine hs_if1 (c := .ne) (t := 227) (f := 224) (by decide +kernel) (show ¬ Int32.ofNat 1 = 0 by decide) ?_
                    refine hs_aload (i := 0) (p := 228) (by decide +kernel) rfl ?_
                    refine hs_dup1 (p := 229) (by decide +kernel) ?_
                    refine hf_get (T := et_TT) (t := 7) (ci := 5) (f := 8) (p := 232) (by decide +kernel) rfl hH k_rd e192 ?_
                    refine hs_k (x := Int32.ofNat 1) (p := 233) (by decide +kernel) ?_
                    refine hs_iaddn (p := 234) (by decide +kernel) ?_
                    have hHo := hH
                    refine hf_put (T := et_TT) (t := 7) (ci := 5) (f := 8) (p := 237) (ty := .int) (by decide +kernel) rfl rfl rfl rfl rfl hH k_rd (hi_nv (by omega) (by omega)) (fun G234 hH x234 e234 => ?_)
                    have r2 := (x234.2 rd 2 lt_rd (fun h => absurd h.2 (by decide))).trans r2
                    have r6 := (x234.2 rd 6 lt_rd (fun h => absurd h.2 (by decide))).trans r6
                    have r7 := (x234.2 rd 7 lt_rd (fun h => absurd h.2 (by decide))).trans r7
                    have e208 := (x234.2 b 1 lt_b (fun h => (hi_ne k_b k_rd (by decide)) h.1)).trans e208
                    have n1_13 := (x234.2 G.2 1 lt_G_2 (fun h => (hi_ne k_G_2 k_rd (by decide)) h.1)).trans n1_13
                    have n2_13 := (x234.2 G.2 2 lt_G_2 (fun h => (hi_ne k_G_2 k_rd (by decide)) h.1)).trans n2_13
                    have n3_13 := (x234.2 G.2 3 lt_G_2 (fun h => (hi_ne k_G_2 k_rd (by decide)) h.1)).trans n3_13
                    have e144 := (x234.2 G.2 4 lt_G_2 (fun h => (hi_ne k_G_2 k_rd (by decide)) h.1)).trans e144
                    have e78 := (x234.2 G.2 5 lt_G_2 (fun h => (hi_ne k_G_2 k_rd (by decide)) h.1)).trans e78
                    have e19 := (x234.2 G.2 0 lt_G_2 (fun h => (hi_ne k_G_2 k_rd (by decide)) h.1)).trans e19
                    have e182 := (x234.2 rd 3 lt_rd (fun h => absurd h.2 (by decide))).trans e182
                    have lt_rd := Nat.lt_of_lt_of_le lt_rd x234.1
                    have lt_na := Nat.lt_of_lt_of_le lt_na x234.1
                    have lt_a := Nat.lt_of_lt_of_le lt_a x234.1
                    have lt_b := Nat.lt_of_lt_of_le lt_b x234.1
                    have lt_G_2 := Nat.lt_of_lt_of_le lt_G_2 x234.1
                    have hX := hX.tr x234 (fun b j hb h => by first | omega | (dsimp only at h ⊢; omega) | (dsimp only at h; omega) | (dsimp only; omega))
                    have m234 := x234.1
                    have htk := htk.xf hHo k_rd et_ex.rf x234 (fun a j hs => .inl (by first | omega | (dsimp only at hs; omega)))
                    have hI := hI.fr (x234.agf (lo := G0.2) (hi := G208.2) (by omega) (fun a j h1 h2 hs => by first | omega | (dsimp only at hs; omega)))
                    have e234 : et_pl (eg_at G234 rd) 8 = some (.int (Int32.ofNat (y + 4))) := e234
                    refine hs_iinc1 (i := 3) (p := 240) (by decide +kernel) rfl (Nat.le_of_ble_eq_true rfl) ?_
                    refine hs_goto (p := 6) (by decide +kernel) ?_
                    obtain ⟨n', rfl⟩ : ∃ n', n = n' + 1 := ⟨n - 1, by omega⟩
                    rw [show sp_lp sp_part 27 (fun f g e => f e + g e) (n' + 1) f (L.drop y) = sp_lp sp_part 27 (fun f g e => f e + g e) n' _ (L.drop (y + 4)) from sp_lp_y (sp_part_2 hnn i108 w141) i218 (by decide)]
                    show et_go none _ 81 6 [some (.ref rd), some (.ref a), some (.ref G.2), some (.int (Int32.ofNat (i + 1))), some (.ref G.2), some (.int (Int32.ofNat 1))] [] _ _ _ _
                    exact ih (L.length - (y + 4)) (by omega) hH hx0 hX k_rd htk e234 (by omega) r2 (by omega) k_a k_G_2 hI (by omega) n1_13 (by omega) (by omega) (by omega) (by omega) rfl
                  · rw [if_neg i218]
                    show et_go none _ 81 221 _ [.int (Int32.ofNat 0)] _ _ _ _
                    refine hs_if0 (c := .ne) (t := 227) (f := 224) (by decide +kernel) (show ¬ (¬ Int32.ofNat 0 = 0) by decide) ?_
                    refine hs_goto (p := 243) (by decide +kernel) ?_
                    refine hs_aload (i := 1) (p := 244) (by decide +kernel) rfl ?_
                    refine hs_aret (cn := "KnobEye$Node") (by decide +kernel) ?_
                    have lo_a := hI.bd
                    refine ⟨_, _, _, _, _, rfl, hx0, hH, rx_out hX, ?_⟩
                    rw [show sp_lp sp_part 27 (fun f g e => f e + g e) n f (L.drop y) = some (_, L.drop (y + 3)) from sp_lp_n (sp_part_2 hnn i108 w141) i218]
                    exact ⟨(y + 3), _, rfl, (by omega), (by omega), e192, r2, rfl, k_a, ⟨hI.sm.wk (Nat.le_refl _) (by omega), lo_a.2.2.1⟩⟩
                · have q173 : (wat L (y + 2)) = 17 := Value.ref.inj (Decidable.of_not_not q173)
                  refine hs_k (x := Int32.ofNat 1) (p := 177) (by decide +kernel) ?_
                  refine hs_goto (p := 181) (by decide +kernel) ?_
                  refine hs_ior (p := 182) (by decide +kernel) ?_
                  obtain ⟨m181, hm181, hq181⟩ := hi_or (a := c162) (b := 1) (by omega) (by omega)
                  rw [hq181]
                  have hHo := hH
                  refine hf_put (T := et_TT) (t := 7) (ci := 5) (f := 3) (p := 185) (ty := .boolean) (by decide +kernel) rfl rfl rfl (hi_fz (by omega)) rfl hH k_rd (hi_nv (by omega) (by omega)) (fun G182 hH x182 e182 => ?_)
                  have e129 := (x182.2 rd 8 lt_rd (fun h => absurd h.2 (by decide))).trans e129
                  have r2 := (x182.2 rd 2 lt_rd (fun h => absurd h.2 (by decide))).trans r2
                  have r6 := (x182.2 rd 6 lt_rd (fun h => absurd h.2 (by decide))).trans r6
                  have r7 := (x182.2 rd 7 lt_rd (fun h => absurd h.2 (by decide))).trans r7
                  have nb := (x182.2 b 1 lt_b (fun h => (hi_ne k_b k_rd (by decide)) h.1)).trans nb
                  have n1_13 := (x182.2 G.2 1 lt_G_2 (fun h => (hi_ne k_G_2 k_rd (by decide)) h.1)).trans n1_13
                  have n2_13 := (x182.2 G.2 2 lt_G_2 (fun h => (hi_ne k_G_2 k_rd (by decide)) h.1)).trans n2_13
                  have n3_13 := (x182.2 G.2 3 lt_G_2 (fun h => (hi_ne k_G_2 k_rd (by decide)) h.1)).trans n3_13
                  have e144 := (x182.2 G.2 4 lt_G_2 (fun h => (hi_ne k_G_2 k_rd (by decide)) h.1)).trans e144
                  have e78 := (x182.2 G.2 5 lt_G_2 (fun h => (hi_ne k_G_2 k_rd (by decide)) h.1)).trans e78
                  have e19 := (x182.2 G.2 0 lt_G_2 (fun h => (hi_ne k_G_2 k_rd (by decide)) h.1)).trans e19
                  have lt_rd := Nat.lt_of_lt_of_le lt_rd x182.1
                  have lt_na := Nat.lt_of_lt_of_le lt_na x182.1
                  have lt_a := Nat.lt_of_lt_of_le lt_a x182.1
                  have lt_b := Nat.lt_of_lt_of_le lt_b x182.1
                  have lt_G_2 := Nat.lt_of_lt_of_le lt_G_2 x182.1
                  have hX := hX.tr x182 (fun b j hb h => by first | omega | (dsimp only at h ⊢; omega) | (dsimp only at h; omega) | (dsimp only; omega))
                  have m182 := x182.1
                  have htk := htk.xf hHo k_rd et_ex.rf x182 (fun a j hs => .inl (by first | omega | (dsimp only at hs; omega)))
                  have hI := hI.fr (x182.agf (lo := G0.2) (hi := hi) (by omega) (fun a j h1 h2 hs => by first | omega | (dsimp only at hs; omega)))
                  refine hs_aload (i := 0) (p := 186) (by decide +kernel) rfl ?_
                  refine hs_dup1 (p := 187) (by decide +kernel) ?_
                  refine hf_get (T := et_TT) (t := 7) (ci := 5) (f := 8) (p := 190) (by decide +kernel) rfl hH k_rd e129 ?_
                  refine hs_k (x := Int32.ofNat 1) (p := 191) (by decide +kernel) ?_
                  refine hs_iaddn (p := 192) (by decide +kernel) ?_
                  have hHo := hH
                  refine hf_put (T := et_TT) (t := 7) (ci := 5) (f := 8) (p := 195) (ty := .int) (by decide +kernel) rfl rfl rfl rfl rfl hH k_rd (hi_nv (by omega) (by omega)) (fun G192 hH x192 e192 => ?_)
                  have r2 := (x192.2 rd 2 lt_rd (fun h => absurd h.2 (by decide))).trans r2
                  have r6 := (x192.2 rd 6 lt_rd (fun h => absurd h.2 (by decide))).trans r6
                  have r7 := (x192.2 rd 7 lt_rd (fun h => absurd h.2 (by decide))).trans r7
                  have nb := (x192.2 b 1 lt_b (fun h => (hi_ne k_b k_rd (by decide)) h.1)).trans nb
                  have n1_13 := (x192.2 G.2 1 lt_G_2 (fun h => (hi_ne k_G_2 k_rd (by decide)) h.1)).trans n1_13
                  have n2_13 := (x192.2 G.2 2 lt_G_2 (fun h => (hi_ne k_G_2 k_rd (by decide)) h.1)).trans n2_13
                  have n3_13 := (x192.2 G.2 3 lt_G_2 (fun h => (hi_ne k_G_2 k_rd (by decide)) h.1)).trans n3_13
                  have e144 := (x192.2 G.2 4 lt_G_2 (fun h => (hi_ne k_G_2 k_rd (by decide)) h.1)).trans e144
                  have e78 := (x192.2 G.2 5 lt_G_2 (fun h => (hi_ne k_G_2 k_rd (by decide)) h.1)).trans e78
                  have e19 := (x192.2 G.2 0 lt_G_2 (fun h => (hi_ne k_G_2 k_rd (by decide)) h.1)).trans e19
                  have e182 := (x192.2 rd 3 lt_rd (fun h => absurd h.2 (by decide))).trans e182
                  have lt_rd := Nat.lt_of_lt_of_le lt_rd x192.1
                  have lt_na := Nat.lt_of_lt_of_le lt_na x192.1
                  have lt_a := Nat.lt_of_lt_of_le lt_a x192.1
                  have lt_b := Nat.lt_of_lt_of_le lt_b x192.1
                  have lt_G_2 := Nat.lt_of_lt_of_le lt_G_2 x192.1
                  have hX := hX.tr x192 (fun b j hb h => by first | omega | (dsimp only at h ⊢; omega) | (dsimp only at h; omega) | (dsimp only; omega))
                  have m192 := x192.1
                  have htk := htk.xf hHo k_rd et_ex.rf x192 (fun a j hs => .inl (by first | omega | (dsimp only at hs; omega)))
                  have hI := hI.fr (x192.agf (lo := G0.2) (hi := hi) (by omega) (fun a j h1 h2 hs => by first | omega | (dsimp only at hs; omega)))
                  have e192 : et_pl (eg_at G192 rd) 8 = some (.int (Int32.ofNat (y + 3))) := e192
                  refine hs_aload (i := 2) (p := 196) (by decide +kernel) rfl ?_
                  refine hs_ifnonnull1 (p := 205) (by decide +kernel) ?_
                  refine hs_aload (i := 2) (p := 206) (by decide +kernel) rfl ?_
                  refine hs_aload (i := 4) (p := 208) (by decide +kernel) rfl ?_
                  have hHo := hH
                  refine hf_next (ty := .object "KnobEye$Node") (p := 211) (by decide +kernel) rfl hH k_b k_G_2 (by omega) (fun G208 hH x208 e208 _ => ?_)
                  have e192 := (x208.2 rd 8 lt_rd (fun h => (hi_ne k_rd k_b (by decide)) h.1)).trans e192
                  have r2 := (x208.2 rd 2 lt_rd (fun h => (hi_ne k_rd k_b (by decide)) h.1)).trans r2
                  have r6 := (x208.2 rd 6 lt_rd (fun h => (hi_ne k_rd k_b (by decide)) h.1)).trans r6
                  have r7 := (x208.2 rd 7 lt_rd (fun h => (hi_ne k_rd k_b (by decide)) h.1)).trans r7
                  have n1_13 := (x208.2 G.2 1 lt_G_2 (fun h => (show ¬ G.2 = b by omega) h.1)).trans n1_13
                  have n2_13 := (x208.2 G.2 2 lt_G_2 (fun h => (show ¬ G.2 = b by omega) h.1)).trans n2_13
                  have n3_13 := (x208.2 G.2 3 lt_G_2 (fun h => (show ¬ G.2 = b by omega) h.1)).trans n3_13
                  have e144 := (x208.2 G.2 4 lt_G_2 (fun h => (show ¬ G.2 = b by omega) h.1)).trans e144
                  have e78 := (x208.2 G.2 5 lt_G_2 (fun h => (show ¬ G.2 = b by omega) h.1)).trans e78
                  have e19 := (x208.2 G.2 0 lt_G_2 (fun h => (show ¬ G.2 = b by omega) h.1)).trans e19
                  have e182 := (x208.2 rd 3 lt_rd (fun h => (hi_ne k_rd k_b (by decide)) h.1)).trans e182
                  have lt_rd := Nat.lt_of_lt_of_le lt_rd x208.1
                  have lt_na := Nat.lt_of_lt_of_le lt_na x208.1
                  have lt_a := Nat.lt_of_lt_of_le lt_a x208.1
                  have lt_b := Nat.lt_of_lt_of_le lt_b x208.1
                  have lt_G_2 := Nat.lt_of_lt_of_le lt_G_2 x208.1
                  have hX := hX.tr x208 (fun b j hb h => by first | omega | (dsimp only at h ⊢; omega) | (dsimp only at h; omega) | (dsimp only; omega))
                  have m208 := x208.1
                  have htk := htk.xf hHo k_rd et_ex.rf x208 (fun a j hs => .inr (.inl (by have e := hs.1; rw [e]; exact k_b)))
                  refine hs_aload (i := 4) (p := 213) (by decide +kernel) rfl ?_
                  refine hs_astore (i := 2) (p := 214) (by decide +kernel) (Nat.le_of_ble_eq_true rfl) ?_
                  have hI := hI.snoc (hi' := G208.2) (fun c c1 c2 i ci => x208.2 c i (by omega) ci) e208 n1_13 ⟨by omega, lt_G_2⟩ (⟨vv, hvv, e78, .inr ⟨_, w141, e144, rfl⟩⟩)
                  refine hs_aload (i := 0) (p := 215) (by decide +kernel) rfl ?_
                  refine hs_gst (v := Value.ref 27) (p := 218) (by decide +kernel) ?_
                  refine ht_callv (T := et_TT) (t := 7) (mi := 78) (na := 1) (ci := 5) (lk := 6) (lm := 2) (L0 := eg_en (eg_mL 78) [.ref rd, .ref 27]) (by decide +kernel) rfl hH k_rd rfl rfl rfl rfl rfl (by rw [show eg_mL 78 = 2 from by decide +kernel]; first | done | rfl) ?_
                  refine (fc_is hH k_rd htk htl e192 (by omega) (wd := 27) (by decide)).mono (fun u hu => xp_cb hu ?_)
                  by_cases i218 : wat L (y + 3) = 27
                  · rw [if_pos i218]
                    have il218 : (y + 3) < L.length := wat_i (by rw [i218]; decide)
                    show et_go none _ 81 221 _ [.int (Int32.ofNat 1)] _ _ _ _
                    refine hs_if1 (c := .ne) (t := 227) (f := 224) (by decide +kernel) (show ¬ Int32.ofNat 1 = 0 by decide) ?_
                    refine hs_aload (i := 0) (p := 228) (by decide +kernel) rfl ?_
                    refine hs_dup1 (p := 229) (by decide +kernel) ?_
                    refine hf_get (T := et_TT) (t := 7) (ci := 5) (f := 8) (p := 232) (by decide +kernel) rfl hH k_rd e192 ?_
                    refine hs_k (x := Int32.ofNat 1) (p := 233) (by decide +kernel) ?_
                    refine hs_iaddn (p := 234) (by decide +kernel) ?_
                    have hHo := hH
                    refine hf_put (T := et_TT) (t := 7) (ci := 5) (f := 8) (p := 237) (ty := .int) (by decide +kernel) rfl rfl rfl rfl rfl hH k_rd (hi_nv (by omega) (by omega)) (fun G234 hH x234 e234 => ?_)
                    have r2 := (x234.2 rd 2 lt_rd (fun h => absurd h.2 (by decide))).trans r2
                    have r6 := (x234.2 rd 6 lt_rd (fun h => absurd h.2 (by decide))).trans r6
                    have r7 := (x234.2 rd 7 lt_rd (fun h => absurd h.2 (by decide))).trans r7
                    have e208 := (x234.2 b 1 lt_b (fun h => (hi_ne k_b k_rd (by decide)) h.1)).trans e208
                    have n1_13 := (x234.2 G.2 1 lt_G_2 (fun h => (hi_ne k_G_2 k_rd (by decide)) h.1)).trans n1_13
                    have n2_13 := (x234.2 G.2 2 lt_G_2 (fun h => (hi_ne k_G_2 k_rd (by decide)) h.1)).trans n2_13
                    have n3_13 := (x234.2 G.2 3 lt_G_2 (fun h => (hi_ne k_G_2 k_rd (by decide)) h.1)).trans n3_13
                    have e144 := (x234.2 G.2 4 lt_G_2 (fun h => (hi_ne k_G_2 k_rd (by decide)) h.1)).trans e144
                    have e78 := (x234.2 G.2 5 lt_G_2 (fun h => (hi_ne k_G_2 k_rd (by decide)) h.1)).trans e78
                    have e19 := (x234.2 G.2 0 lt_G_2 (fun h => (hi_ne k_G_2 k_rd (by decide)) h.1)).trans e19
                    have e182 := (x234.2 rd 3 lt_rd (fun h => absurd h.2 (by decide))).trans e182
                    have lt_rd := Nat.lt_of_lt_of_le lt_rd x234.1
                    have lt_na := Nat.lt_of_lt_of_le lt_na x234.1
                    have lt_a := Nat.lt_of_lt_of_le lt_a x234.1
                    have lt_b := Nat.lt_of_lt_of_le lt_b x234.1
                    have lt_G_2 := Nat.lt_of_lt_of_le lt_G_2 x234.1
                    have hX := hX.tr x234 (fun b j hb h => by first | omega | (dsimp only at h ⊢; omega) | (dsimp only at h; omega) | (dsimp only; omega))
                    have m234 := x234.1
                    have htk := htk.xf hHo k_rd et_ex.rf x234 (fun a j hs => .inl (by first | omega | (dsimp only at hs; omega)))
                    have hI := hI.fr (x234.agf (lo := G0.2) (hi := G208.2) (by omega) (fun a j h1 h2 hs => by first | omega | (dsimp only at hs; omega)))
                    have e234 : et_pl (eg_at G234 rd) 8 = some (.int (Int32.ofNat (y + 4))) := e234
                    refine hs_iinc1 (i := 3) (p := 240) (by decide +kernel) rfl (Nat.le_of_ble_eq_true rfl) ?_
                    refine hs_goto (p := 6) (by decide +kernel) ?_
                    obtain ⟨n', rfl⟩ : ∃ n', n = n' + 1 := ⟨n - 1, by omega⟩
                    rw [show sp_lp sp_part 27 (fun f g e => f e + g e) (n' + 1) f (L.drop y) = sp_lp sp_part 27 (fun f g e => f e + g e) n' _ (L.drop (y + 4)) from sp_lp_y (sp_part_2 hnn i108 w141) i218 (by decide)]
                    show et_go none _ 81 6 [some (.ref rd), some (.ref a), some (.ref G.2), some (.int (Int32.ofNat (i + 1))), some (.ref G.2), some (.int (Int32.ofNat 1))] [] _ _ _ _
                    exact ih (L.length - (y + 4)) (by omega) hH hx0 hX k_rd htk e234 (by omega) r2 (by omega) k_a k_G_2 hI (by omega) n1_13 (by omega) (by omega) (by omega) (by omega) rfl
                  · rw [if_neg i218]
                    show et_go none _ 81 221 _ [.int (Int32.ofNat 0)] _ _ _ _
                    refine hs_if0 (c := .ne) (t := 227) (f := 224) (by decide +kernel) (show ¬ (¬ Int32.ofNat 0 = 0) by decide) ?_
                    refine hs_goto (p := 243) (by decide +kernel) ?_
                    refine hs_aload (i := 1) (p := 244) (by decide +kernel) rfl ?_
                    refine hs_aret (cn := "KnobEye$Node") (by decide +kernel) ?_
                    have lo_a := hI.bd
                    refine ⟨_, _, _, _, _, rfl, hx0, hH, rx_out hX, ?_⟩
                    rw [show sp_lp sp_part 27 (fun f g e => f e + g e) n f (L.drop y) = some (_, L.drop (y + 3)) from sp_lp_n (sp_part_2 hnn i108 w141) i218]
                    exact ⟨(y + 3), _, rfl, (by omega), (by omega), e192, r2, rfl, k_a, ⟨hI.sm.wk (Nat.le_refl _) (by omega), lo_a.2.2.1⟩⟩
              · rw [if_neg w141]
                show et_go none _ 81 144 _ [.null, .ref G.2] _ _ _ _
                have hHo := hH
                refine hf_put (T := et_TT) (t := 6) (ci := 4) (f := 4) (p := 147) (ty := (.object "KnobEye$Word")) (by decide +kernel) rfl rfl rfl rfl rfl hH k_G_2 (.inl ⟨by decide, rfl⟩) (fun G144 hH x144 e144 => ?_)
                have e129 := (x144.2 rd 8 lt_rd (fun h => (hi_ne k_rd k_G_2 (by decide)) h.1)).trans e129
                have r2 := (x144.2 rd 2 lt_rd (fun h => (hi_ne k_rd k_G_2 (by decide)) h.1)).trans r2
                have r6 := (x144.2 rd 6 lt_rd (fun h => (hi_ne k_rd k_G_2 (by decide)) h.1)).trans r6
                have r7 := (x144.2 rd 7 lt_rd (fun h => (hi_ne k_rd k_G_2 (by decide)) h.1)).trans r7
                have nb := (x144.2 b 1 lt_b (fun h => (show ¬ b = G.2 by omega) h.1)).trans nb
                have n1_13 := (x144.2 G.2 1 lt_G_2 (fun h => absurd h.2 (by decide))).trans n1_13
                have n2_13 := (x144.2 G.2 2 lt_G_2 (fun h => absurd h.2 (by decide))).trans n2_13
                have n3_13 := (x144.2 G.2 3 lt_G_2 (fun h => absurd h.2 (by decide))).trans n3_13
                have e78 := (x144.2 G.2 5 lt_G_2 (fun h => absurd h.2 (by decide))).trans e78
                have e19 := (x144.2 G.2 0 lt_G_2 (fun h => absurd h.2 (by decide))).trans e19
                have lt_rd := Nat.lt_of_lt_of_le lt_rd x144.1
                have lt_na := Nat.lt_of_lt_of_le lt_na x144.1
                have lt_a := Nat.lt_of_lt_of_le lt_a x144.1
                have lt_b := Nat.lt_of_lt_of_le lt_b x144.1
                have lt_G_2 := Nat.lt_of_lt_of_le lt_G_2 x144.1
                have hX := hX.tr x144 (fun b j hb h => by first | omega | (dsimp only at h ⊢; omega) | (dsimp only at h; omega) | (dsimp only; omega))
                have m144 := x144.1
                have htk := htk.xf hHo k_rd et_ex.rf x144 (fun a j hs => .inr (.inl (by have e := hs.1; rw [e]; exact k_G_2)))
                have hI := hI.fr (x144.agf (lo := G0.2) (hi := hi) (by omega) (fun a j h1 h2 hs => by first | omega | (dsimp only at hs; omega)))
                refine hs_aload (i := 4) (p := 149) (by decide +kernel) rfl ?_
                refine hf_get (T := et_TT) (t := 6) (ci := 4) (f := 4) (p := 152) (by decide +kernel) rfl hH k_G_2 e144 ?_
                refine hs_ifnonnull0 (p := 155) (by decide +kernel) ?_
                refine hs_aload (i := 0) (p := 156) (by decide +kernel) rfl ?_
                have hHo := hH
                refine ht_callv (T := et_TT) (t := 7) (mi := 76) (na := 0) (ci := 5) (lk := 6) (lm := 1) (L0 := eg_en (eg_mL 76) [.ref rd]) (by decide +kernel) rfl hH k_rd rfl rfl rfl rfl rfl (by rw [show eg_mL 76 = 1 from by decide +kernel]; first | done | rfl) ?_
                refine (fc_fail hH k_rd htk htl e129 (by omega) r2).mono (fun u hu => xw_cb hu (fun G156 v156 hH x156 hP156 => ?_))
                have e129 := (x156.2 rd 8 lt_rd (fun h => absurd h.2 (by decide))).trans e129
                have r6 := (x156.2 rd 6 lt_rd (fun h => absurd h.2 (by decide))).trans r6
                have r7 := (x156.2 rd 7 lt_rd (fun h => absurd h.2 (by decide))).trans r7
                have nb := (x156.2 b 1 lt_b (fun h => (hi_ne k_b k_rd (by decide)) h.1)).trans nb
                have n1_13 := (x156.2 G.2 1 lt_G_2 (fun h => (hi_ne k_G_2 k_rd (by decide)) h.1)).trans n1_13
                have n2_13 := (x156.2 G.2 2 lt_G_2 (fun h => (hi_ne k_G_2 k_rd (by decide)) h.1)).trans n2_13
                have n3_13 := (x156.2 G.2 3 lt_G_2 (fun h => (hi_ne k_G_2 k_rd (by decide)) h.1)).trans n3_13
                have e144 := (x156.2 G.2 4 lt_G_2 (fun h => (hi_ne k_G_2 k_rd (by decide)) h.1)).trans e144
                have e78 := (x156.2 G.2 5 lt_G_2 (fun h => (hi_ne k_G_2 k_rd (by decide)) h.1)).trans e78
                have e19 := (x156.2 G.2 0 lt_G_2 (fun h => (hi_ne k_G_2 k_rd (by decide)) h.1)).trans e19
                have lt_rd := Nat.lt_of_lt_of_le lt_rd x156.1
                have lt_na := Nat.lt_of_lt_of_le lt_na x156.1
                have lt_a := Nat.lt_of_lt_of_le lt_a x156.1
                have lt_b := Nat.lt_of_lt_of_le lt_b x156.1
                have lt_G_2 := Nat.lt_of_lt_of_le lt_G_2 x156.1
                have hX := hX.tr x156 (fun b j hb h => by first | omega | (dsimp only at h ⊢; omega) | (dsimp only at h; omega) | (dsimp only; omega))
                have m156 := x156.1
                have htk := htk.xf hHo k_rd et_ex.rf x156 (fun a j hs => .inl (by first | omega | (dsimp only at hs; omega)))
                have hI := hI.fr (x156.agf (lo := G0.2) (hi := hi) (by omega) (fun a j h1 h2 hs => by first | omega | (dsimp only at hs; omega)))
                obtain ⟨rfl, q156, hq156, e156⟩ := hP156
                show et_go none _ 81 159 _ [.null] _ _ _ _
                refine hs_aretN (cn := "KnobEye$Node") (by decide +kernel) ?_
                refine ⟨_, _, _, _, _, rfl, hx0, hH, rx_out hX, ?_⟩
                rw [show sp_lp sp_part 27 (fun f g e => f e + g e) n f (L.drop y) = none from sp_lp_0 (sp_part_2n hnn i108 w141)]
                exact ⟨rfl, _, (by omega), e156⟩
            · rw [if_neg i108]
              show et_go none _ 81 111 _ [.int (Int32.ofNat 0)] _ _ _ _
              refine hs_istore (i := 5) (p := 113) (by decide +kernel) (Nat.le_of_ble_eq_true rfl) ?_
              refine hs_aload (i := 0) (p := 114) (by decide +kernel) rfl ?_
              refine hs_dup1 (p := 115) (by decide +kernel) ?_
              refine hf_get (T := et_TT) (t := 7) (ci := 5) (f := 8) (p := 118) (by decide +kernel) rfl hH k_rd e101 ?_
              refine hs_iload (i := 5) (p := 120) (by decide +kernel) rfl ?_
              refine hs_if1 (c := .eq) (t := 127) (f := 123) (by decide +kernel) (show Int32.ofNat 0 = 0 by decide) ?_
              refine hs_k (x := Int32.ofNat 0) (p := 128) (by decide +kernel) ?_
              refine hs_iaddn (p := 129) (by decide +kernel) ?_
              have hHo := hH
              refine hf_put (T := et_TT) (t := 7) (ci := 5) (f := 8) (p := 132) (ty := .int) (by decide +kernel) rfl rfl rfl rfl rfl hH k_rd (hi_nv (by omega) (by omega)) (fun G129 hH x129 e129 => ?_)
              have r2 := (x129.2 rd 2 lt_rd (fun h => absurd h.2 (by decide))).trans r2
              have r6 := (x129.2 rd 6 lt_rd (fun h => absurd h.2 (by decide))).trans r6
              have r7 := (x129.2 rd 7 lt_rd (fun h => absurd h.2 (by decide))).trans r7
              have nb := (x129.2 b 1 lt_b (fun h => (hi_ne k_b k_rd (by decide)) h.1)).trans nb
              have n1_13 := (x129.2 G.2 1 lt_G_2 (fun h => (hi_ne k_G_2 k_rd (by decide)) h.1)).trans n1_13
              have n2_13 := (x129.2 G.2 2 lt_G_2 (fun h => (hi_ne k_G_2 k_rd (by decide)) h.1)).trans n2_13
              have n3_13 := (x129.2 G.2 3 lt_G_2 (fun h => (hi_ne k_G_2 k_rd (by decide)) h.1)).trans n3_13
              have n4_13 := (x129.2 G.2 4 lt_G_2 (fun h => (hi_ne k_G_2 k_rd (by decide)) h.1)).trans n4_13
              have e78 := (x129.2 G.2 5 lt_G_2 (fun h => (hi_ne k_G_2 k_rd (by decide)) h.1)).trans e78
              have e19 := (x129.2 G.2 0 lt_G_2 (fun h => (hi_ne k_G_2 k_rd (by decide)) h.1)).trans e19
              have lt_rd := Nat.lt_of_lt_of_le lt_rd x129.1
              have lt_na := Nat.lt_of_lt_of_le lt_na x129.1
              have lt_a := Nat.lt_of_lt_of_le lt_a x129.1
              have lt_b := Nat.lt_of_lt_of_le lt_b x129.1
              have lt_G_2 := Nat.lt_of_lt_of_le lt_G_2 x129.1
              have hX := hX.tr x129 (fun b j hb h => by first | omega | (dsimp only at h ⊢; omega) | (dsimp only at h; omega) | (dsimp only; omega))
              have m129 := x129.1
              have htk := htk.xf hHo k_rd et_ex.rf x129 (fun a j hs => .inl (by first | omega | (dsimp only at hs; omega)))
              have hI := hI.fr (x129.agf (lo := G0.2) (hi := hi) (by omega) (fun a j h1 h2 hs => by first | omega | (dsimp only at hs; omega)))
              have e129 : et_pl (eg_at G129 rd) 8 = some (.int (Int32.ofNat (y + 1))) := e129
              refine hs_iload (i := 5) (p := 134) (by decide +kernel) rfl ?_
              refine hs_if1 (c := .eq) (t := 195) (f := 137) (by decide +kernel) (show Int32.ofNat 0 = 0 by decide) ?_
              refine hs_aload (i := 2) (p := 196) (by decide +kernel) rfl ?_
              refine hs_ifnonnull1 (p := 205) (by decide +kernel) ?_
              refine hs_aload (i := 2) (p := 206) (by decide +kernel) rfl ?_
              refine hs_aload (i := 4) (p := 208) (by decide +kernel) rfl ?_
              have hHo := hH
              refine hf_next (ty := .object "KnobEye$Node") (p := 211) (by decide +kernel) rfl hH k_b k_G_2 (by omega) (fun G208 hH x208 e208 _ => ?_)
              have e129 := (x208.2 rd 8 lt_rd (fun h => (hi_ne k_rd k_b (by decide)) h.1)).trans e129
              have r2 := (x208.2 rd 2 lt_rd (fun h => (hi_ne k_rd k_b (by decide)) h.1)).trans r2
              have r6 := (x208.2 rd 6 lt_rd (fun h => (hi_ne k_rd k_b (by decide)) h.1)).trans r6
              have r7 := (x208.2 rd 7 lt_rd (fun h => (hi_ne k_rd k_b (by decide)) h.1)).trans r7
              have n1_13 := (x208.2 G.2 1 lt_G_2 (fun h => (show ¬ G.2 = b by omega) h.1)).trans n1_13
              have n2_13 := (x208.2 G.2 2 lt_G_2 (fun h => (show ¬ G.2 = b by omega) h.1)).trans n2_13
              have n3_13 := (x208.2 G.2 3 lt_G_2 (fun h => (show ¬ G.2 = b by omega) h.1)).trans n3_13
              have n4_13 := (x208.2 G.2 4 lt_G_2 (fun h => (show ¬ G.2 = b by omega) h.1)).trans n4_13
              have e78 := (x208.2 G.2 5 lt_G_2 (fun h => (show ¬ G.2 = b by omega) h.1)).trans e78
              have e19 := (x208.2 G.2 0 lt_G_2 (fun h => (show ¬ G.2 = b by omega) h.1)).trans e19
              have lt_rd := Nat.lt_of_lt_of_le lt_rd x208.1
              have lt_na := Nat.lt_of_lt_of_le lt_na x208.1
              have lt_a := Nat.lt_of_lt_of_le lt_a x208.1
              have lt_b := Nat.lt_of_lt_of_le lt_b x208.1
              have lt_G_2 := Nat.lt_of_lt_of_le lt_G_2 x208.1
              have hX := hX.tr x208 (fun b j hb h => by first | omega | (dsimp only at h ⊢; omega) | (dsimp only at h; omega) | (dsimp only; omega))
              have m208 := x208.1
              have htk := htk.xf hHo k_rd et_ex.rf x208 (fun a j hs => .inr (.inl (by have e := hs.1; rw [e]; exact k_b)))
              refine hs_aload (i := 4) (p := 213) (by decide +kernel) rfl ?_
              refine hs_astore (i := 2) (p := 214) (by decide +kernel) (Nat.le_of_ble_eq_true rfl) ?_
              have hI := hI.snoc (hi' := G208.2) (fun c c1 c2 i ci => x208.2 c i (by omega) ci) e208 n1_13 ⟨by omega, lt_G_2⟩ (⟨vv, hvv, e78, .inl ⟨n4_13, rfl⟩⟩)
              refine hs_aload (i := 0) (p := 215) (by decide +kernel) rfl ?_
              refine hs_gst (v := Value.ref 27) (p := 218) (by decide +kernel) ?_
              refine ht_callv (T := et_TT) (t := 7) (mi := 78) (na := 1) (ci := 5) (lk := 6) (lm := 2) (L0 := eg_en (eg_mL 78) [.ref rd, .ref 27]) (by decide +kernel) rfl hH k_rd rfl rfl rfl rfl rfl (by rw [show eg_mL 78 = 2 from by decide +kernel]; first | done | rfl) ?_
              refine (fc_is hH k_rd htk htl e129 (by omega) (wd := 27) (by decide)).mono (fun u hu => xp_cb hu ?_)
              by_cases i218 : wat L (y + 1) = 27
              · rw [if_pos i218]
                have il218 : (y + 1) < L.length := wat_i (by rw [i218]; decide)
                show et_go none _ 81 221 _ [.int (Int32.ofNat 1)] _ _ _ _
                refine hs_if1 (c := .ne) (t := 227) (f := 224) (by decide +kernel) (show ¬ Int32.ofNat 1 = 0 by decide) ?_
                refine hs_aload (i := 0) (p := 228) (by decide +kernel) rfl ?_
                refine hs_dup1 (p := 229) (by decide +kernel) ?_
                refine hf_get (T := et_TT) (t := 7) (ci := 5) (f := 8) (p := 232) (by decide +kernel) rfl hH k_rd e129 ?_
                refine hs_k (x := Int32.ofNat 1) (p := 233) (by decide +kernel) ?_
                refine hs_iaddn (p := 234) (by decide +kernel) ?_
                have hHo := hH
                refine hf_put (T := et_TT) (t := 7) (ci := 5) (f := 8) (p := 237) (ty := .int) (by decide +kernel) rfl rfl rfl rfl rfl hH k_rd (hi_nv (by omega) (by omega)) (fun G234 hH x234 e234 => ?_)
                have r2 := (x234.2 rd 2 lt_rd (fun h => absurd h.2 (by decide))).trans r2
                have r6 := (x234.2 rd 6 lt_rd (fun h => absurd h.2 (by decide))).trans r6
                have r7 := (x234.2 rd 7 lt_rd (fun h => absurd h.2 (by decide))).trans r7
                have e208 := (x234.2 b 1 lt_b (fun h => (hi_ne k_b k_rd (by decide)) h.1)).trans e208
                have n1_13 := (x234.2 G.2 1 lt_G_2 (fun h => (hi_ne k_G_2 k_rd (by decide)) h.1)).trans n1_13
                have n2_13 := (x234.2 G.2 2 lt_G_2 (fun h => (hi_ne k_G_2 k_rd (by decide)) h.1)).trans n2_13
                have n3_13 := (x234.2 G.2 3 lt_G_2 (fun h => (hi_ne k_G_2 k_rd (by decide)) h.1)).trans n3_13
                have n4_13 := (x234.2 G.2 4 lt_G_2 (fun h => (hi_ne k_G_2 k_rd (by decide)) h.1)).trans n4_13
                have e78 := (x234.2 G.2 5 lt_G_2 (fun h => (hi_ne k_G_2 k_rd (by decide)) h.1)).trans e78
                have e19 := (x234.2 G.2 0 lt_G_2 (fun h => (hi_ne k_G_2 k_rd (by decide)) h.1)).trans e19
                have lt_rd := Nat.lt_of_lt_of_le lt_rd x234.1
                have lt_na := Nat.lt_of_lt_of_le lt_na x234.1
                have lt_a := Nat.lt_of_lt_of_le lt_a x234.1
                have lt_b := Nat.lt_of_lt_of_le lt_b x234.1
                have lt_G_2 := Nat.lt_of_lt_of_le lt_G_2 x234.1
                have hX := hX.tr x234 (fun b j hb h => by first | omega | (dsimp only at h ⊢; omega) | (dsimp only at h; omega) | (dsimp only; omega))
                have m234 := x234.1
                have htk := htk.xf hHo k_rd et_ex.rf x234 (fun a j hs => .inl (by first | omega | (dsimp only at hs; omega)))
                have hI := hI.fr (x234.agf (lo := G0.2) (hi := G208.2) (by omega) (fun a j h1 h2 hs => by first | omega | (dsimp only at hs; omega)))
                have e234 : et_pl (eg_at G234 rd) 8 = some (.int (Int32.ofNat (y + 2))) := e234
                refine hs_iinc1 (i := 3) (p := 240) (by decide +kernel) rfl (Nat.le_of_ble_eq_true rfl) ?_
                refine hs_goto (p := 6) (by decide +kernel) ?_
                obtain ⟨n', rfl⟩ : ∃ n', n = n' + 1 := ⟨n - 1, by omega⟩
                rw [show sp_lp sp_part 27 (fun f g e => f e + g e) (n' + 1) f (L.drop y) = sp_lp sp_part 27 (fun f g e => f e + g e) n' _ (L.drop (y + 2)) from sp_lp_y (sp_part_1 hnn i108) i218 (by decide)]
                show et_go none _ 81 6 [some (.ref rd), some (.ref a), some (.ref G.2), some (.int (Int32.ofNat (i + 1))), some (.ref G.2), some (.int (Int32.ofNat 0))] [] _ _ _ _
                exact ih (L.length - (y + 2)) (by omega) hH hx0 hX k_rd htk e234 (by omega) r2 (by omega) k_a k_G_2 hI (by omega) n1_13 (by omega) (by omega) (by omega) (by omega) rfl
              · rw [if_neg i218]
                show et_go none _ 81 221 _ [.int (Int32.ofNat 0)] _ _ _ _
                refine hs_if0 (c := .ne) (t := 227) (f := 224) (by decide +kernel) (show ¬ (¬ Int32.ofNat 0 = 0) by decide) ?_
                refine hs_goto (p := 243) (by decide +kernel) ?_
                refine hs_aload (i := 1) (p := 244) (by decide +kernel) rfl ?_
                refine hs_aret (cn := "KnobEye$Node") (by decide +kernel) ?_
                have lo_a := hI.bd
                refine ⟨_, _, _, _, _, rfl, hx0, hH, rx_out hX, ?_⟩
                rw [show sp_lp sp_part 27 (fun f g e => f e + g e) n f (L.drop y) = some (_, L.drop (y + 1)) from sp_lp_n (sp_part_1 hnn i108) i218]
                exact ⟨(y + 1), _, rfl, (by omega), (by omega), e129, r2, rfl, k_a, ⟨hI.sm.wk (Nat.le_refl _) (by omega), lo_a.2.2.1⟩⟩
      · rw [if_neg i34]
        show et_go none _ 81 37 _ [.int (Int32.ofNat 0)] _ _ _ _
        refine hs_if0 (c := .ne) (t := 44) (f := 40) (by decide +kernel) (show ¬ (¬ Int32.ofNat 0 = 0) by decide) ?_
        refine hs_k (x := Int32.ofNat 1) (p := 41) (by decide +kernel) ?_
        refine hs_goto (p := 45) (by decide +kernel) ?_
        refine hs_istore (i := 5) (p := 47) (by decide +kernel) (Nat.le_of_ble_eq_true rfl) ?_
        refine hs_iload (i := 5) (p := 49) (by decide +kernel) rfl ?_
        refine hs_if1 (c := .ne) (t := 132) (f := 52) (by decide +kernel) (show ¬ Int32.ofNat 1 = 0 by decide) ?_
        refine hs_iload (i := 5) (p := 134) (by decide +kernel) rfl ?_
        refine hs_if0 (c := .eq) (t := 195) (f := 137) (by decide +kernel) (show ¬ (Int32.ofNat 1 = 0) by decide) ?_
        refine hs_aload (i := 4) (p := 139) (by decide +kernel) rfl ?_
        refine hs_aload (i := 0) (p := 140) (by decide +kernel) rfl ?_
        refine hs_k (x := Int32.ofNat 2) (p := 141) (by decide +kernel) ?_
        refine ht_callv (T := et_TT) (t := 7) (mi := 79) (na := 1) (ci := 5) (lk := 6) (lm := 2) (L0 := eg_en (eg_mL 79) [.ref rd, .int (Int32.ofNat 2)]) (by decide +kernel) rfl hH k_rd rfl rfl rfl rfl rfl (by rw [show eg_mL 79 = 2 from by decide +kernel]; first | done | rfl) ?_
        refine (fc_wh2 hH k_rd htk htl r8 (by omega)).mono (fun u hu => xp_cb hu ?_)
        by_cases w141 : sp_fw (wat L y) = true
        · rw [if_pos w141]
          obtain ⟨wn141, hwn, -⟩ := wat_t (L := L) (x := y) rfl (fun h => by rw [h] at w141; exact absurd w141 (by decide))
          have il141 : y < L.length := wat_i (fun h => by rw [h] at w141; exact absurd w141 (by decide))
          show et_go none _ 81 144 _ [.ref (wat L y), .ref G.2] _ _ _ _
          have hHo := hH
          refine hf_put (T := et_TT) (t := 6) (ci := 4) (f := 4) (p := 147) (ty := (.object "KnobEye$Word")) (by decide +kernel) rfl rfl rfl rfl rfl hH k_G_2 (.inr ⟨by decide, _, rfl, hH.2.1 _ (wat_lt htl)⟩) (fun G144 hH x144 e144 => ?_)
          have r8 := (x144.2 rd 8 lt_rd (fun h => (hi_ne k_rd k_G_2 (by decide)) h.1)).trans r8
          have r2 := (x144.2 rd 2 lt_rd (fun h => (hi_ne k_rd k_G_2 (by decide)) h.1)).trans r2
          have r6 := (x144.2 rd 6 lt_rd (fun h => (hi_ne k_rd k_G_2 (by decide)) h.1)).trans r6
          have r7 := (x144.2 rd 7 lt_rd (fun h => (hi_ne k_rd k_G_2 (by decide)) h.1)).trans r7
          have nb := (x144.2 b 1 lt_b (fun h => (show ¬ b = G.2 by omega) h.1)).trans nb
          have n1_13 := (x144.2 G.2 1 lt_G_2 (fun h => absurd h.2 (by decide))).trans n1_13
          have n2_13 := (x144.2 G.2 2 lt_G_2 (fun h => absurd h.2 (by decide))).trans n2_13
          have n3_13 := (x144.2 G.2 3 lt_G_2 (fun h => absurd h.2 (by decide))).trans n3_13
          have e27 := (x144.2 G.2 5 lt_G_2 (fun h => absurd h.2 (by decide))).trans e27
          have e19 := (x144.2 G.2 0 lt_G_2 (fun h => absurd h.2 (by decide))).trans e19
          have lt_rd := Nat.lt_of_lt_of_le lt_rd x144.1
          have lt_na := Nat.lt_of_lt_of_le lt_na x144.1
          have lt_a := Nat.lt_of_lt_of_le lt_a x144.1
          have lt_b := Nat.lt_of_lt_of_le lt_b x144.1
          have lt_G_2 := Nat.lt_of_lt_of_le lt_G_2 x144.1
          have hX := hX.tr x144 (fun b j hb h => by first | omega | (dsimp only at h ⊢; omega) | (dsimp only at h; omega) | (dsimp only; omega))
          have m144 := x144.1
          have htk := htk.xf hHo k_rd et_ex.rf x144 (fun a j hs => .inr (.inl (by have e := hs.1; rw [e]; exact k_G_2)))
          have hI := hI.fr (x144.agf (lo := G0.2) (hi := hi) (by omega) (fun a j h1 h2 hs => by first | omega | (dsimp only at hs; omega)))
          refine hs_aload (i := 4) (p := 149) (by decide +kernel) rfl ?_
          refine hf_get (T := et_TT) (t := 6) (ci := 4) (f := 4) (p := 152) (by decide +kernel) rfl hH k_G_2 e144 ?_
          refine hs_ifnonnull1 (p := 160) (by decide +kernel) ?_
          refine hs_aload (i := 0) (p := 161) (by decide +kernel) rfl ?_
          refine hs_dup1 (p := 162) (by decide +kernel) ?_
          refine ht_getn (T := et_TT) (t := 7) (ci := 5) (f := 3) (p := 165) (by decide +kernel) rfl rfl hH k_rd (fun c162 h162 e162 => ?_)
          refine hs_aload (i := 4) (p := 167) (by decide +kernel) rfl ?_
          refine hf_get (T := et_TT) (t := 6) (ci := 4) (f := 4) (p := 170) (by decide +kernel) rfl hH k_G_2 e144 ?_
          refine hs_gst (v := Value.ref 17) (p := 173) (by decide +kernel) ?_
          refine hf_acm (c := .ne) (tt := 180) (ff := 176) (by decide +kernel) (hi_ca hH (hH.2.1 _ (wat_lt htl)) (.inl rfl)) (by decide +kernel) (fun (q173 : ¬ Value.ref (wat L y) = .ref 17) => ?_) (fun (q173 : ¬ ¬ Value.ref (wat L y) = .ref 17) => ?_)
          · have q173 : ¬ (wat L y) = 17 := fun h => q173 (by rw [h])
            refine hs_k (x := Int32.ofNat 0) (p := 181) (by decide +kernel) ?_
            refine hs_ior (p := 182) (by decide +kernel) ?_
            obtain ⟨m181, hm181, hq181⟩ := hi_or (a := c162) (b := 0) (by omega) (by omega)
            rw [hq181]
            have hHo := hH
            refine hf_put (T := et_TT) (t := 7) (ci := 5) (f := 3) (p := 185) (ty := .boolean) (by decide +kernel) rfl rfl rfl (hi_fz (by omega)) rfl hH k_rd (hi_nv (by omega) (by omega)) (fun G182 hH x182 e182 => ?_)
            have r8 := (x182.2 rd 8 lt_rd (fun h => absurd h.2 (by decide))).trans r8
            have r2 := (x182.2 rd 2 lt_rd (fun h => absurd h.2 (by decide))).trans r2
            have r6 := (x182.2 rd 6 lt_rd (fun h => absurd h.2 (by decide))).trans r6
            have r7 := (x182.2 rd 7 lt_rd (fun h => absurd h.2 (by decide))).trans r7
            have nb := (x182.2 b 1 lt_b (fun h => (hi_ne k_b k_rd (by decide)) h.1)).trans nb
            have n1_13 := (x182.2 G.2 1 lt_G_2 (fun h => (hi_ne k_G_2 k_rd (by decide)) h.1)).trans n1_13
            have n2_13 := (x182.2 G.2 2 lt_G_2 (fun h => (hi_ne k_G_2 k_rd (by decide)) h.1)).trans n2_13
            have n3_13 := (x182.2 G.2 3 lt_G_2 (fun h => (hi_ne k_G_2 k_rd (by decide)) h.1)).trans n3_13
            have e144 := (x182.2 G.2 4 lt_G_2 (fun h => (hi_ne k_G_2 k_rd (by decide)) h.1)).trans e144
            have e27 := (x182.2 G.2 5 lt_G_2 (fun h => (hi_ne k_G_2 k_rd (by decide)) h.1)).trans e27
            have e19 := (x182.2 G.2 0 lt_G_2 (fun h => (hi_ne k_G_2 k_rd (by decide)) h.1)).trans e19
            have lt_rd := Nat.lt_of_lt_of_le lt_rd x182.1
            have lt_na := Nat.lt_of_lt_of_le lt_na x182.1
            have lt_a := Nat.lt_of_lt_of_le lt_a x182.1
            have lt_b := Nat.lt_of_lt_of_le lt_b x182.1
            have lt_G_2 := Nat.lt_of_lt_of_le lt_G_2 x182.1
            have hX := hX.tr x182 (fun b j hb h => by first | omega | (dsimp only at h ⊢; omega) | (dsimp only at h; omega) | (dsimp only; omega))
            have m182 := x182.1
            have htk := htk.xf hHo k_rd et_ex.rf x182 (fun a j hs => .inl (by first | omega | (dsimp only at hs; omega)))
            have hI := hI.fr (x182.agf (lo := G0.2) (hi := hi) (by omega) (fun a j h1 h2 hs => by first | omega | (dsimp only at hs; omega)))
            refine hs_aload (i := 0) (p := 186) (by decide +kernel) rfl ?_
            refine hs_dup1 (p := 187) (by decide +kernel) ?_
            refine hf_get (T := et_TT) (t := 7) (ci := 5) (f := 8) (p := 190) (by decide +kernel) rfl hH k_rd r8 ?_
            refine hs_k (x := Int32.ofNat 1) (p := 191) (by decide +kernel) ?_
            refine hs_iaddn (p := 192) (by decide +kernel) ?_
            have hHo := hH
            refine hf_put (T := et_TT) (t := 7) (ci := 5) (f := 8) (p := 195) (ty := .int) (by decide +kernel) rfl rfl rfl rfl rfl hH k_rd (hi_nv (by omega) (by omega)) (fun G192 hH x192 e192 => ?_)
            have r2 := (x192.2 rd 2 lt_rd (fun h => absurd h.2 (by decide))).trans r2
            have r6 := (x192.2 rd 6 lt_rd (fun h => absurd h.2 (by decide))).trans r6
            have r7 := (x192.2 rd 7 lt_rd (fun h => absurd h.2 (by decide))).trans r7
            have nb := (x192.2 b 1 lt_b (fun h => (hi_ne k_b k_rd (by decide)) h.1)).trans nb
            have n1_13 := (x192.2 G.2 1 lt_G_2 (fun h => (hi_ne k_G_2 k_rd (by decide)) h.1)).trans n1_13
            have n2_13 := (x192.2 G.2 2 lt_G_2 (fun h => (hi_ne k_G_2 k_rd (by decide)) h.1)).trans n2_13
            have n3_13 := (x192.2 G.2 3 lt_G_2 (fun h => (hi_ne k_G_2 k_rd (by decide)) h.1)).trans n3_13
            have e144 := (x192.2 G.2 4 lt_G_2 (fun h => (hi_ne k_G_2 k_rd (by decide)) h.1)).trans e144
            have e27 := (x192.2 G.2 5 lt_G_2 (fun h => (hi_ne k_G_2 k_rd (by decide)) h.1)).trans e27
            have e19 := (x192.2 G.2 0 lt_G_2 (fun h => (hi_ne k_G_2 k_rd (by decide)) h.1)).trans e19
            have e182 := (x192.2 rd 3 lt_rd (fun h => absurd h.2 (by decide))).trans e182
            have lt_rd := Nat.lt_of_lt_of_le lt_rd x192.1
            have lt_na := Nat.lt_of_lt_of_le lt_na x192.1
            have lt_a := Nat.lt_of_lt_of_le lt_a x192.1
            have lt_b := Nat.lt_of_lt_of_le lt_b x192.1
            have lt_G_2 := Nat.lt_of_lt_of_le lt_G_2 x192.1
            have hX := hX.tr x192 (fun b j hb h => by first | omega | (dsimp only at h ⊢; omega) | (dsimp only at h; omega) | (dsimp only; omega))
            have m192 := x192.1
            have htk := htk.xf hHo k_rd et_ex.rf x192 (fun a j hs => .inl (by first | omega | (dsimp only at hs; omega)))
            have hI := hI.fr (x192.agf (lo := G0.2) (hi := hi) (by omega) (fun a j h1 h2 hs => by first | omega | (dsimp only at hs; omega)))
            have e192 : et_pl (eg_at G192 rd) 8 = some (.int (Int32.ofNat (y + 1))) := e192
            refine hs_aload (i := 2) (p := 196) (by decide +kernel) rfl ?_
            refine hs_ifnonnull1 (p := 205) (by decide +kernel) ?_
            refine hs_aload (i := 2) (p := 206) (by decide +kernel) rfl ?_
            refine hs_aload (i := 4) (p := 208) (by decide +kernel) rfl ?_
            have hHo := hH
            refine hf_next (ty := .object "KnobEye$Node") (p := 211) (by decide +kernel) rfl hH k_b k_G_2 (by omega) (fun G208 hH x208 e208 _ => ?_)
            have e192 := (x208.2 rd 8 lt_rd (fun h => (hi_ne k_rd k_b (by decide)) h.1)).trans e192
            have r2 := (x208.2 rd 2 lt_rd (fun h => (hi_ne k_rd k_b (by decide)) h.1)).trans r2
            have r6 := (x208.2 rd 6 lt_rd (fun h => (hi_ne k_rd k_b (by decide)) h.1)).trans r6
            have r7 := (x208.2 rd 7 lt_rd (fun h => (hi_ne k_rd k_b (by decide)) h.1)).trans r7
            have n1_13 := (x208.2 G.2 1 lt_G_2 (fun h => (show ¬ G.2 = b by omega) h.1)).trans n1_13
            have n2_13 := (x208.2 G.2 2 lt_G_2 (fun h => (show ¬ G.2 = b by omega) h.1)).trans n2_13
            have n3_13 := (x208.2 G.2 3 lt_G_2 (fun h => (show ¬ G.2 = b by omega) h.1)).trans n3_13
            have e144 := (x208.2 G.2 4 lt_G_2 (fun h => (show ¬ G.2 = b by omega) h.1)).trans e144
            have e27 := (x208.2 G.2 5 lt_G_2 (fun h => (show ¬ G.2 = b by omega) h.1)).trans e27
            have e19 := (x208.2 G.2 0 lt_G_2 (fun h => (show ¬ G.2 = b by omega) h.1)).trans e19
            have e182 := (x208.2 rd 3 lt_rd (fun h => (hi_ne k_rd k_b (by decide)) h.1)).trans e182
            have lt_rd := Nat.lt_of_lt_of_le lt_rd x208.1
            have lt_na := Nat.lt_of_lt_of_le lt_na x208.1
            have lt_a := Nat.lt_of_lt_of_le lt_a x208.1
            have lt_b := Nat.lt_of_lt_of_le lt_b x208.1
            have lt_G_2 := Nat.lt_of_lt_of_le lt_G_2 x208.1
            have hX := hX.tr x208 (fun b j hb h => by first | omega | (dsimp only at h ⊢; omega) | (dsimp only at h; omega) | (dsimp only; omega))
            have m208 := x208.1
            have htk := htk.xf hHo k_rd et_ex.rf x208 (fun a j hs => .inr (.inl (by have e := hs.1; rw [e]; exact k_b)))
            refine hs_aload (i := 4) (p := 213) (by decide +kernel) rfl ?_
            refine hs_astore (i := 2) (p := 214) (by decide +kernel) (Nat.le_of_ble_eq_true rfl) ?_
            have hI := hI.snoc (hi' := G208.2) (fun c c1 c2 i ci => x208.2 c i (by omega) ci) e208 n1_13 ⟨by omega, lt_G_2⟩ (show pt G208 G.2 (fun e => e.1 (wat L y)) from ⟨1, by decide, e27, .inr ⟨_, w141, e144, funext (fun e => (Int64.one_mul _).symm)⟩⟩)
            refine hs_aload (i := 0) (p := 215) (by decide +kernel) rfl ?_
            refine hs_gst (v := Value.ref 27) (p := 218) (by decide +kernel) ?_
            refine ht_callv (T := et_TT) (t := 7) (mi := 78) (na := 1) (ci := 5) (lk := 6) (lm := 2) (L0 := eg_en (eg_mL 78) [.ref rd, .ref 27]) (by decide +kernel) rfl hH k_rd rfl rfl rfl rfl rfl (by rw [show eg_mL 78 = 2 from by decide +kernel]; first | done | rfl) ?_
            refine (fc_is hH k_rd htk htl e192 (by omega) (wd := 27) (by decide)).mono (fun u hu => xp_cb hu ?_)
            by_cases i218 : wat L (y + 1) = 27
            · rw [if_pos i218]
              have il218 : (y + 1) < L.length := wat_i (by rw [i218]; decide)
              show et_go none _ 81 221 _ [.int (Int32.ofNat 1)] _ _ _ _
              refine hs_if1 (c := .ne) (t := 227) (f := 224) (by decide +kernel) (show ¬ Int32.ofNat 1 = 0 by decide) ?_
              refine hs_aload (i := 0) (p := 228) (by decide +kernel) rfl ?_
              refine hs_dup1 (p := 229) (by decide +kernel) ?_
              refine hf_get (T := et_TT) (t := 7) (ci := 5) (f := 8) (p := 232) (by decide +kernel) rfl hH k_rd e192 ?_
              refine hs_k (x := Int32.ofNat 1) (p := 233) (by decide +kernel) ?_
              refine hs_iaddn (p := 234) (by decide +kernel) ?_
              have hHo := hH
              refine hf_put (T := et_TT) (t := 7) (ci := 5) (f := 8) (p := 237) (ty := .int) (by decide +kernel) rfl rfl rfl rfl rfl hH k_rd (hi_nv (by omega) (by omega)) (fun G234 hH x234 e234 => ?_)
              have r2 := (x234.2 rd 2 lt_rd (fun h => absurd h.2 (by decide))).trans r2
              have r6 := (x234.2 rd 6 lt_rd (fun h => absurd h.2 (by decide))).trans r6
              have r7 := (x234.2 rd 7 lt_rd (fun h => absurd h.2 (by decide))).trans r7
              have e208 := (x234.2 b 1 lt_b (fun h => (hi_ne k_b k_rd (by decide)) h.1)).trans e208
              have n1_13 := (x234.2 G.2 1 lt_G_2 (fun h => (hi_ne k_G_2 k_rd (by decide)) h.1)).trans n1_13
              have n2_13 := (x234.2 G.2 2 lt_G_2 (fun h => (hi_ne k_G_2 k_rd (by decide)) h.1)).trans n2_13
              have n3_13 := (x234.2 G.2 3 lt_G_2 (fun h => (hi_ne k_G_2 k_rd (by decide)) h.1)).trans n3_13
              have e144 := (x234.2 G.2 4 lt_G_2 (fun h => (hi_ne k_G_2 k_rd (by decide)) h.1)).trans e144
              have e27 := (x234.2 G.2 5 lt_G_2 (fun h => (hi_ne k_G_2 k_rd (by decide)) h.1)).trans e27
              have e19 := (x234.2 G.2 0 lt_G_2 (fun h => (hi_ne k_G_2 k_rd (by decide)) h.1)).trans e19
              have e182 := (x234.2 rd 3 lt_rd (fun h => absurd h.2 (by decide))).trans e182
              have lt_rd := Nat.lt_of_lt_of_le lt_rd x234.1
              have lt_na := Nat.lt_of_lt_of_le lt_na x234.1
              have lt_a := Nat.lt_of_lt_of_le lt_a x234.1
              have lt_b := Nat.lt_of_lt_of_le lt_b x234.1
              have lt_G_2 := Nat.lt_of_lt_of_le lt_G_2 x234.1
              have hX := hX.tr x234 (fun b j hb h => by first | omega | (dsimp only at h ⊢; omega) | (dsimp only at h; omega) | (dsimp only; omega))
              have m234 := x234.1
              have htk := htk.xf hHo k_rd et_ex.rf x234 (fun a j hs => .inl (by first | omega | (dsimp only at hs; omega)))
              have hI := hI.fr (x234.agf (lo := G0.2) (hi := G208.2) (by omega) (fun a j h1 h2 hs => by first | omega | (dsimp only at hs; omega)))
              have e234 : et_pl (eg_at G234 rd) 8 = some (.int (Int32.ofNat (y + 2))) := e234
              refine hs_iinc1 (i := 3) (p := 240) (by decide +kernel) rfl (Nat.le_of_ble_eq_true rfl) ?_
              refine hs_goto (p := 6) (by decide +kernel) ?_
              obtain ⟨n', rfl⟩ : ∃ n', n = n' + 1 := ⟨n - 1, by omega⟩
              rw [show sp_lp sp_part 27 (fun f g e => f e + g e) (n' + 1) f (L.drop y) = sp_lp sp_part 27 (fun f g e => f e + g e) n' _ (L.drop (y + 2)) from sp_lp_y (sp_part_3 i34 w141) i218 (by decide)]
              show et_go none _ 81 6 [some (.ref rd), some (.ref a), some (.ref G.2), some (.int (Int32.ofNat (i + 1))), some (.ref G.2), some (.int (Int32.ofNat 1))] [] _ _ _ _
              exact ih (L.length - (y + 2)) (by omega) hH hx0 hX k_rd htk e234 (by omega) r2 (by omega) k_a k_G_2 hI (by omega) n1_13 (by omega) (by omega) (by omega) (by omega) rfl
            · rw [if_neg i218]
              show et_go none _ 81 221 _ [.int (Int32.ofNat 0)] _ _ _ _
              refine hs_if0 (c := .ne) (t := 227) (f := 224) (by decide +kernel) (show ¬ (¬ Int32.ofNat 0 = 0) by decide) ?_
              refine hs_goto (p := 243) (by decide +kernel) ?_
              refine hs_aload (i := 1) (p := 244) (by decide +kernel) rfl ?_
              refine hs_aret (cn := "KnobEye$Node") (by decide +kernel) ?_
              have lo_a := hI.bd
              refine ⟨_, _, _, _, _, rfl, hx0, hH, rx_out hX, ?_⟩
              rw [show sp_lp sp_part 27 (fun f g e => f e + g e) n f (L.drop y) = some (_, L.drop (y + 1)) from sp_lp_n (sp_part_3 i34 w141) i218]
              exact ⟨(y + 1), _, rfl, (by omega), (by omega), e192, r2, rfl, k_a, ⟨hI.sm.wk (Nat.le_refl _) (by omega), lo_a.2.2.1⟩⟩
          · have q173 : (wat L y) = 17 := Value.ref.inj (Decidable.of_not_not q173)
            refine hs_k (x := Int32.ofNat 1) (p := 177) (by decide +kernel) ?_
            refine hs_goto (p := 181) (by decide +kernel) ?_
            refine hs_ior (p := 182) (by decide +kernel) ?_
            obtain ⟨m181, hm181, hq181⟩ := hi_or (a := c162) (b := 1) (by omega) (by omega)
            rw [hq181]
            have hHo := hH
            refine hf_put (T := et_TT) (t := 7) (ci := 5) (f := 3) (p := 185) (ty := .boolean) (by decide +kernel) rfl rfl rfl (hi_fz (by omega)) rfl hH k_rd (hi_nv (by omega) (by omega)) (fun G182 hH x182 e182 => ?_)
            have r8 := (x182.2 rd 8 lt_rd (fun h => absurd h.2 (by decide))).trans r8
            have r2 := (x182.2 rd 2 lt_rd (fun h => absurd h.2 (by decide))).trans r2
            have r6 := (x182.2 rd 6 lt_rd (fun h => absurd h.2 (by decide))).trans r6
            have r7 := (x182.2 rd 7 lt_rd (fun h => absurd h.2 (by decide))).trans r7
            have nb := (x182.2 b 1 lt_b (fun h => (hi_ne k_b k_rd (by decide)) h.1)).trans nb
            have n1_13 := (x182.2 G.2 1 lt_G_2 (fun h => (hi_ne k_G_2 k_rd (by decide)) h.1)).trans n1_13
            have n2_13 := (x182.2 G.2 2 lt_G_2 (fun h => (hi_ne k_G_2 k_rd (by decide)) h.1)).trans n2_13
            have n3_13 := (x182.2 G.2 3 lt_G_2 (fun h => (hi_ne k_G_2 k_rd (by decide)) h.1)).trans n3_13
            have e144 := (x182.2 G.2 4 lt_G_2 (fun h => (hi_ne k_G_2 k_rd (by decide)) h.1)).trans e144
            have e27 := (x182.2 G.2 5 lt_G_2 (fun h => (hi_ne k_G_2 k_rd (by decide)) h.1)).trans e27
            have e19 := (x182.2 G.2 0 lt_G_2 (fun h => (hi_ne k_G_2 k_rd (by decide)) h.1)).trans e19
            have lt_rd := Nat.lt_of_lt_of_le lt_rd x182.1
            have lt_na := Nat.lt_of_lt_of_le lt_na x182.1
            have lt_a := Nat.lt_of_lt_of_le lt_a x182.1
            have lt_b := Nat.lt_of_lt_of_le lt_b x182.1
            have lt_G_2 := Nat.lt_of_lt_of_le lt_G_2 x182.1
            have hX := hX.tr x182 (fun b j hb h => by first | omega | (dsimp only at h ⊢; omega) | (dsimp only at h; omega) | (dsimp only; omega))
            have m182 := x182.1
            have htk := htk.xf hHo k_rd et_ex.rf x182 (fun a j hs => .inl (by first | omega | (dsimp only at hs; omega)))
            have hI := hI.fr (x182.agf (lo := G0.2) (hi := hi) (by omega) (fun a j h1 h2 hs => by first | omega | (dsimp only at hs; omega)))
            refine hs_aload (i := 0) (p := 186) (by decide +kernel) rfl ?_
            refine hs_dup1 (p := 187) (by decide +kernel) ?_
            refine hf_get (T := et_TT) (t := 7) (ci := 5) (f := 8) (p := 190) (by decide +kernel) rfl hH k_rd r8 ?_
            refine hs_k (x := Int32.ofNat 1) (p := 191) (by decide +kernel) ?_
            refine hs_iaddn (p := 192) (by decide +kernel) ?_
            have hHo := hH
            refine hf_put (T := et_TT) (t := 7) (ci := 5) (f := 8) (p := 195) (ty := .int) (by decide +kernel) rfl rfl rfl rfl rfl hH k_rd (hi_nv (by omega) (by omega)) (fun G192 hH x192 e192 => ?_)
            have r2 := (x192.2 rd 2 lt_rd (fun h => absurd h.2 (by decide))).trans r2
            have r6 := (x192.2 rd 6 lt_rd (fun h => absurd h.2 (by decide))).trans r6
            have r7 := (x192.2 rd 7 lt_rd (fun h => absurd h.2 (by decide))).trans r7
            have nb := (x192.2 b 1 lt_b (fun h => (hi_ne k_b k_rd (by decide)) h.1)).trans nb
            have n1_13 := (x192.2 G.2 1 lt_G_2 (fun h => (hi_ne k_G_2 k_rd (by decide)) h.1)).trans n1_13
            have n2_13 := (x192.2 G.2 2 lt_G_2 (fun h => (hi_ne k_G_2 k_rd (by decide)) h.1)).trans n2_13
            have n3_13 := (x192.2 G.2 3 lt_G_2 (fun h => (hi_ne k_G_2 k_rd (by decide)) h.1)).trans n3_13
            have e144 := (x192.2 G.2 4 lt_G_2 (fun h => (hi_ne k_G_2 k_rd (by decide)) h.1)).trans e144
            have e27 := (x192.2 G.2 5 lt_G_2 (fun h => (hi_ne k_G_2 k_rd (by decide)) h.1)).trans e27
            have e19 := (x192.2 G.2 0 lt_G_2 (fun h => (hi_ne k_G_2 k_rd (by decide)) h.1)).trans e19
            have e182 := (x192.2 rd 3 lt_rd (fun h => absurd h.2 (by decide))).trans e182
            have lt_rd := Nat.lt_of_lt_of_le lt_rd x192.1
            have lt_na := Nat.lt_of_lt_of_le lt_na x192.1
            have lt_a := Nat.lt_of_lt_of_le lt_a x192.1
            have lt_b := Nat.lt_of_lt_of_le lt_b x192.1
            have lt_G_2 := Nat.lt_of_lt_of_le lt_G_2 x192.1
            have hX := hX.tr x192 (fun b j hb h => by first | omega | (dsimp only at h ⊢; omega) | (dsimp only at h; omega) | (dsimp only; omega))
            have m192 := x192.1
            have htk := htk.xf hHo k_rd et_ex.rf x192 (fun a j hs => .inl (by first | omega | (dsimp only at hs; omega)))
            have hI := hI.fr (x192.agf (lo := G0.2) (hi := hi) (by omega) (fun a j h1 h2 hs => by first | omega | (dsimp only at hs; omega)))
            have e192 : et_pl (eg_at G192 rd) 8 = some (.int (Int32.ofNat (y + 1))) := e192
            refine hs_aload (i := 2) (p := 196) (by decide +kernel) rfl ?_
            refine hs_ifnonnull1 (p := 205) (by decide +kernel) ?_
            refine hs_aload (i := 2) (p := 206) (by decide +kernel) rfl ?_
            refine hs_aload (i := 4) (p := 208) (by decide +kernel) rfl ?_
            have hHo := hH
            refine hf_next (ty := .object "KnobEye$Node") (p := 211) (by decide +kernel) rfl hH k_b k_G_2 (by omega) (fun G208 hH x208 e208 _ => ?_)
            have e192 := (x208.2 rd 8 lt_rd (fun h => (hi_ne k_rd k_b (by decide)) h.1)).trans e192
            have r2 := (x208.2 rd 2 lt_rd (fun h => (hi_ne k_rd k_b (by decide)) h.1)).trans r2
            have r6 := (x208.2 rd 6 lt_rd (fun h => (hi_ne k_rd k_b (by decide)) h.1)).trans r6
            have r7 := (x208.2 rd 7 lt_rd (fun h => (hi_ne k_rd k_b (by decide)) h.1)).trans r7
            have n1_13 := (x208.2 G.2 1 lt_G_2 (fun h => (show ¬ G.2 = b by omega) h.1)).trans n1_13
            have n2_13 := (x208.2 G.2 2 lt_G_2 (fun h => (show ¬ G.2 = b by omega) h.1)).trans n2_13
            have n3_13 := (x208.2 G.2 3 lt_G_2 (fun h => (show ¬ G.2 = b by omega) h.1)).trans n3_13
            have e144 := (x208.2 G.2 4 lt_G_2 (fun h => (show ¬ G.2 = b by omega) h.1)).trans e144
            have e27 := (x208.2 G.2 5 lt_G_2 (fun h => (show ¬ G.2 = b by omega) h.1)).trans e27
            have e19 := (x208.2 G.2 0 lt_G_2 (fun h => (show ¬ G.2 = b by omega) h.1)).trans e19
            have e182 := (x208.2 rd 3 lt_rd (fun h => (hi_ne k_rd k_b (by decide)) h.1)).trans e182
            have lt_rd := Nat.lt_of_lt_of_le lt_rd x208.1
            have lt_na := Nat.lt_of_lt_of_le lt_na x208.1
            have lt_a := Nat.lt_of_lt_of_le lt_a x208.1
            have lt_b := Nat.lt_of_lt_of_le lt_b x208.1
            have lt_G_2 := Nat.lt_of_lt_of_le lt_G_2 x208.1
            have hX := hX.tr x208 (fun b j hb h => by first | omega | (dsimp only at h ⊢; omega) | (dsimp only at h; omega) | (dsimp only; omega))
            have m208 := x208.1
            have htk := htk.xf hHo k_rd et_ex.rf x208 (fun a j hs => .inr (.inl (by have e := hs.1; rw [e]; exact k_b)))
            refine hs_aload (i := 4) (p := 213) (by decide +kernel) rfl ?_
            refine hs_astore (i := 2) (p := 214) (by decide +kernel) (Nat.le_of_ble_eq_true rfl) ?_
            have hI := hI.snoc (hi' := G208.2) (fun c c1 c2 i ci => x208.2 c i (by omega) ci) e208 n1_13 ⟨by omega, lt_G_2⟩ (show pt G208 G.2 (fun e => e.1 (wat L y)) from ⟨1, by decide, e27, .inr ⟨_, w141, e144, funext (fun e => (Int64.one_mul _).symm)⟩⟩)
            refine hs_aload (i := 0) (p := 215) (by decide +kernel) rfl ?_
            refine hs_gst (v := Value.ref 27) (p := 218) (by decide +kernel) ?_
            refine ht_callv (T := et_TT) (t := 7) (mi := 78) (na := 1) (ci := 5) (lk := 6) (lm := 2) (L0 := eg_en (eg_mL 78) [.ref rd, .ref 27]) (by decide +kernel) rfl hH k_rd rfl rfl rfl rfl rfl (by rw [show eg_mL 78 = 2 from by decide +kernel]; first | done | rfl) ?_
            refine (fc_is hH k_rd htk htl e192 (by omega) (wd := 27) (by decide)).mono (fun u hu => xp_cb hu ?_)
            by_cases i218 : wat L (y + 1) = 27
            · rw [if_pos i218]
              have il218 : (y + 1) < L.length := wat_i (by rw [i218]; decide)
              show et_go none _ 81 221 _ [.int (Int32.ofNat 1)] _ _ _ _
              refine hs_if1 (c := .ne) (t := 227) (f := 224) (by decide +kernel) (show ¬ Int32.ofNat 1 = 0 by decide) ?_
              refine hs_aload (i := 0) (p := 228) (by decide +kernel) rfl ?_
              refine hs_dup1 (p := 229) (by decide +kernel) ?_
              refine hf_get (T := et_TT) (t := 7) (ci := 5) (f := 8) (p := 232) (by decide +kernel) rfl hH k_rd e192 ?_
              refine hs_k (x := Int32.ofNat 1) (p := 233) (by decide +kernel) ?_
              refine hs_iaddn (p := 234) (by decide +kernel) ?_
              have hHo := hH
              refine hf_put (T := et_TT) (t := 7) (ci := 5) (f := 8) (p := 237) (ty := .int) (by decide +kernel) rfl rfl rfl rfl rfl hH k_rd (hi_nv (by omega) (by omega)) (fun G234 hH x234 e234 => ?_)
              have r2 := (x234.2 rd 2 lt_rd (fun h => absurd h.2 (by decide))).trans r2
              have r6 := (x234.2 rd 6 lt_rd (fun h => absurd h.2 (by decide))).trans r6
              have r7 := (x234.2 rd 7 lt_rd (fun h => absurd h.2 (by decide))).trans r7
              have e208 := (x234.2 b 1 lt_b (fun h => (hi_ne k_b k_rd (by decide)) h.1)).trans e208
              have n1_13 := (x234.2 G.2 1 lt_G_2 (fun h => (hi_ne k_G_2 k_rd (by decide)) h.1)).trans n1_13
              have n2_13 := (x234.2 G.2 2 lt_G_2 (fun h => (hi_ne k_G_2 k_rd (by decide)) h.1)).trans n2_13
              have n3_13 := (x234.2 G.2 3 lt_G_2 (fun h => (hi_ne k_G_2 k_rd (by decide)) h.1)).trans n3_13
              have e144 := (x234.2 G.2 4 lt_G_2 (fun h => (hi_ne k_G_2 k_rd (by decide)) h.1)).trans e144
              have e27 := (x234.2 G.2 5 lt_G_2 (fun h => (hi_ne k_G_2 k_rd (by decide)) h.1)).trans e27
              have e19 := (x234.2 G.2 0 lt_G_2 (fun h => (hi_ne k_G_2 k_rd (by decide)) h.1)).trans e19
              have e182 := (x234.2 rd 3 lt_rd (fun h => absurd h.2 (by decide))).trans e182
              have lt_rd := Nat.lt_of_lt_of_le lt_rd x234.1
              have lt_na := Nat.lt_of_lt_of_le lt_na x234.1
              have lt_a := Nat.lt_of_lt_of_le lt_a x234.1
              have lt_b := Nat.lt_of_lt_of_le lt_b x234.1
              have lt_G_2 := Nat.lt_of_lt_of_le lt_G_2 x234.1
              have hX := hX.tr x234 (fun b j hb h => by first | omega | (dsimp only at h ⊢; omega) | (dsimp only at h; omega) | (dsimp only; omega))
              have m234 := x234.1
              have htk := htk.xf hHo k_rd et_ex.rf x234 (fun a j hs => .inl (by first | omega | (dsimp only at hs; omega)))
              have hI := hI.fr (x234.agf (lo := G0.2) (hi := G208.2) (by omega) (fun a j h1 h2 hs => by first | omega | (dsimp only at hs; omega)))
              have e234 : et_pl (eg_at G234 rd) 8 = some (.int (Int32.ofNat (y + 2))) := e234
              refine hs_iinc1 (i := 3) (p := 240) (by decide +kernel) rfl (Nat.le_of_ble_eq_true rfl) ?_
              refine hs_goto (p := 6) (by decide +kernel) ?_
              obtain ⟨n', rfl⟩ : ∃ n', n = n' + 1 := ⟨n - 1, by omega⟩
              rw [show sp_lp sp_part 27 (fun f g e => f e + g e) (n' + 1) f (L.drop y) = sp_lp sp_part 27 (fun f g e => f e + g e) n' _ (L.drop (y + 2)) from sp_lp_y (sp_part_3 i34 w141) i218 (by decide)]
              show et_go none _ 81 6 [some (.ref rd), some (.ref a), some (.ref G.2), some (.int (Int32.ofNat (i + 1))), some (.ref G.2), some (.int (Int32.ofNat 1))] [] _ _ _ _
              exact ih (L.length - (y + 2)) (by omega) hH hx0 hX k_rd htk e234 (by omega) r2 (by omega) k_a k_G_2 hI (by omega) n1_13 (by omega) (by omega) (by omega) (by omega) rfl
            · rw [if_neg i218]
              show et_go none _ 81 221 _ [.int (Int32.ofNat 0)] _ _ _ _
              refine hs_if0 (c := .ne) (t := 227) (f := 224) (by decide +kernel) (show ¬ (¬ Int32.ofNat 0 = 0) by decide) ?_
              refine hs_goto (p := 243) (by decide +kernel) ?_
              refine hs_aload (i := 1) (p := 244) (by decide +kernel) rfl ?_
              refine hs_aret (cn := "KnobEye$Node") (by decide +kernel) ?_
              have lo_a := hI.bd
              refine ⟨_, _, _, _, _, rfl, hx0, hH, rx_out hX, ?_⟩
              rw [show sp_lp sp_part 27 (fun f g e => f e + g e) n f (L.drop y) = some (_, L.drop (y + 1)) from sp_lp_n (sp_part_3 i34 w141) i218]
              exact ⟨(y + 1), _, rfl, (by omega), (by omega), e192, r2, rfl, k_a, ⟨hI.sm.wk (Nat.le_refl _) (by omega), lo_a.2.2.1⟩⟩
        · rw [if_neg w141]
          show et_go none _ 81 144 _ [.null, .ref G.2] _ _ _ _
          have hHo := hH
          refine hf_put (T := et_TT) (t := 6) (ci := 4) (f := 4) (p := 147) (ty := (.object "KnobEye$Word")) (by decide +kernel) rfl rfl rfl rfl rfl hH k_G_2 (.inl ⟨by decide, rfl⟩) (fun G144 hH x144 e144 => ?_)
          have r8 := (x144.2 rd 8 lt_rd (fun h => (hi_ne k_rd k_G_2 (by decide)) h.1)).trans r8
          have r2 := (x144.2 rd 2 lt_rd (fun h => (hi_ne k_rd k_G_2 (by decide)) h.1)).trans r2
          have r6 := (x144.2 rd 6 lt_rd (fun h => (hi_ne k_rd k_G_2 (by decide)) h.1)).trans r6
          have r7 := (x144.2 rd 7 lt_rd (fun h => (hi_ne k_rd k_G_2 (by decide)) h.1)).trans r7
          have nb := (x144.2 b 1 lt_b (fun h => (show ¬ b = G.2 by omega) h.1)).trans nb
          have n1_13 := (x144.2 G.2 1 lt_G_2 (fun h => absurd h.2 (by decide))).trans n1_13
          have n2_13 := (x144.2 G.2 2 lt_G_2 (fun h => absurd h.2 (by decide))).trans n2_13
          have n3_13 := (x144.2 G.2 3 lt_G_2 (fun h => absurd h.2 (by decide))).trans n3_13
          have e27 := (x144.2 G.2 5 lt_G_2 (fun h => absurd h.2 (by decide))).trans e27
          have e19 := (x144.2 G.2 0 lt_G_2 (fun h => absurd h.2 (by decide))).trans e19
          have lt_rd := Nat.lt_of_lt_of_le lt_rd x144.1
          have lt_na := Nat.lt_of_lt_of_le lt_na x144.1
          have lt_a := Nat.lt_of_lt_of_le lt_a x144.1
          have lt_b := Nat.lt_of_lt_of_le lt_b x144.1
          have lt_G_2 := Nat.lt_of_lt_of_le lt_G_2 x144.1
          have hX := hX.tr x144 (fun b j hb h => by first | omega | (dsimp only at h ⊢; omega) | (dsimp only at h; omega) | (dsimp only; omega))
          have m144 := x144.1
          have htk := htk.xf hHo k_rd et_ex.rf x144 (fun a j hs => .inr (.inl (by have e := hs.1; rw [e]; exact k_G_2)))
          have hI := hI.fr (x144.agf (lo := G0.2) (hi := hi) (by omega) (fun a j h1 h2 hs => by first | omega | (dsimp only at hs; omega)))
          refine hs_aload (i := 4) (p := 149) (by decide +kernel) rfl ?_
          refine hf_get (T := et_TT) (t := 6) (ci := 4) (f := 4) (p := 152) (by decide +kernel) rfl hH k_G_2 e144 ?_
          refine hs_ifnonnull0 (p := 155) (by decide +kernel) ?_
          refine hs_aload (i := 0) (p := 156) (by decide +kernel) rfl ?_
          have hHo := hH
          refine ht_callv (T := et_TT) (t := 7) (mi := 76) (na := 0) (ci := 5) (lk := 6) (lm := 1) (L0 := eg_en (eg_mL 76) [.ref rd]) (by decide +kernel) rfl hH k_rd rfl rfl rfl rfl rfl (by rw [show eg_mL 76 = 1 from by decide +kernel]; first | done | rfl) ?_
          refine (fc_fail hH k_rd htk htl r8 (by omega) r2).mono (fun u hu => xw_cb hu (fun G156 v156 hH x156 hP156 => ?_))
          have r8 := (x156.2 rd 8 lt_rd (fun h => absurd h.2 (by decide))).trans r8
          have r6 := (x156.2 rd 6 lt_rd (fun h => absurd h.2 (by decide))).trans r6
          have r7 := (x156.2 rd 7 lt_rd (fun h => absurd h.2 (by decide))).trans r7
          have nb := (x156.2 b 1 lt_b (fun h => (hi_ne k_b k_rd (by decide)) h.1)).trans nb
          have n1_13 := (x156.2 G.2 1 lt_G_2 (fun h => (hi_ne k_G_2 k_rd (by decide)) h.1)).trans n1_13
          have n2_13 := (x156.2 G.2 2 lt_G_2 (fun h => (hi_ne k_G_2 k_rd (by decide)) h.1)).trans n2_13
          have n3_13 := (x156.2 G.2 3 lt_G_2 (fun h => (hi_ne k_G_2 k_rd (by decide)) h.1)).trans n3_13
          have e144 := (x156.2 G.2 4 lt_G_2 (fun h => (hi_ne k_G_2 k_rd (by decide)) h.1)).trans e144
          have e27 := (x156.2 G.2 5 lt_G_2 (fun h => (hi_ne k_G_2 k_rd (by decide)) h.1)).trans e27
          have e19 := (x156.2 G.2 0 lt_G_2 (fun h => (hi_ne k_G_2 k_rd (by decide)) h.1)).trans e19
          have lt_rd := Nat.lt_of_lt_of_le lt_rd x156.1
          have lt_na := Nat.lt_of_lt_of_le lt_na x156.1
          have lt_a := Nat.lt_of_lt_of_le lt_a x156.1
          have lt_b := Nat.lt_of_lt_of_le lt_b x156.1
          have lt_G_2 := Nat.lt_of_lt_of_le lt_G_2 x156.1
          have hX := hX.tr x156 (fun b j hb h => by first | omega | (dsimp only at h ⊢; omega) | (dsimp only at h; omega) | (dsimp only; omega))
          have m156 := x156.1
          have htk := htk.xf hHo k_rd et_ex.rf x156 (fun a j hs => .inl (by first | omega | (dsimp only at hs; omega)))
          have hI := hI.fr (x156.agf (lo := G0.2) (hi := hi) (by omega) (fun a j h1 h2 hs => by first | omega | (dsimp only at hs; omega)))
          obtain ⟨rfl, q156, hq156, e156⟩ := hP156
          show et_go none _ 81 159 _ [.null] _ _ _ _
          refine hs_aretN (cn := "KnobEye$Node") (by decide +kernel) ?_
          refine ⟨_, _, _, _, _, rfl, hx0, hH, rx_out hX, ?_⟩
          rw [show sp_lp sp_part 27 (fun f g e => f e + g e) n f (L.drop y) = none from sp_lp_0 (sp_part_3n i34 w141)]
          exact ⟨rfl, _, (by omega), e156⟩
theorem fx_sum (hH : et_H et_TT K G) (k_rd : K rd = some 7) (htk : tk K G rd L) (htl : tl L) (r8 : et_pl (eg_at G rd) 8 = some (.int (Int32.ofNat x))) (hx : x ≤ L.length) (r2 : et_pl (eg_at G rd) 2 = some (.int (-1))) (hd : 2 ≤ d2) : et_go none d2 81 0 (eg_en (eg_mL 81) [.ref rd]) [] G 0 0 (fz rd L x K G (fS G.2) (sp_sum (L.drop x))) := by
  obtain ⟨d, rfl⟩ : ∃ d, d2 = d + 2 := ⟨d2 - 2, by omega⟩
  obtain ⟨ta, ba, na, ⟨k_ta, k_ba, k_na⟩, ⟨r4, r5, r6, r7⟩, hl4', -⟩ := id htk
  rw [show eg_mL 81 = 6 from by decide +kernel]
  show et_go none (d + 2) 81 0 [some (.ref rd), none, none, none, none, none] [] G 0 0 _
  have lt_rd := (hH.2.2 _ _ k_rd).1
  have lt_na := (hH.2.2 _ _ k_na).1
  have hX : xf (fun b j => (b = rd ∧ (2 ≤ j ∧ j ≤ 3)) ∨ (b = rd ∧ j = 8)) G G := xf.rf
  have hx0 : et_ex K K := et_ex.rf
  have hl4 : L.length ≤ 400 := by obtain ⟨_, _, _, _, _, h, _⟩ := htk; exact h
  have lr0 := (hH.2.2 _ _ k_rd).1
  refine hs_nul (p := 1) (by decide +kernel) ?_
  refine hs_astore0 (i := 1) (p := 2) (by decide +kernel) (Nat.le_of_ble_eq_true rfl) ?_
  refine hs_nul (p := 3) (by decide +kernel) ?_
  refine hs_astore0 (i := 2) (p := 4) (by decide +kernel) (Nat.le_of_ble_eq_true rfl) ?_
  refine hs_k (x := Int32.ofNat 0) (p := 5) (by decide +kernel) ?_
  refine hs_istore (i := 3) (p := 6) (by decide +kernel) (Nat.le_of_ble_eq_true rfl) ?_
  refine hs_iload (i := 3) (p := 7) (by decide +kernel) rfl ?_
  refine hs_k (x := Int32.ofNat 400) (p := 10) (by decide +kernel) ?_
  refine hs_br2n (c := .ge) (t := 243) (f := 13) (by decide +kernel) (by omega) (by omega) (fun h => absurd h (show ¬ (400 ≤ 0) by decide)) (fun _ => ?_)
  have hHo := hH
  refine hf_newN (p := 16) (by decide +kernel) (by omega) (by omega) hH (fun KK13 GG13 hxx13 x13 hH k_G_2 mm13 hf13 => ?_)
  have r8 := (x13.2 rd 8 lt_rd (fun h => h)).trans r8
  have r2 := (x13.2 rd 2 lt_rd (fun h => h)).trans r2
  have r6 := (x13.2 rd 6 lt_rd (fun h => h)).trans r6
  have r7 := (x13.2 rd 7 lt_rd (fun h => h)).trans r7
  have lt_rd := Nat.lt_of_lt_of_le lt_rd x13.1
  have lt_na := Nat.lt_of_lt_of_le lt_na x13.1
  have hX := hX.tr x13 (fun b j hb h => h.elim)
  have m13 := x13.1
  have htk := htk.xf hHo k_rd hxx13 x13 (fun a j hs => absurd hs id)
  have k_rd := hxx13 _ _ k_rd
  have k_na := hxx13 _ _ k_na
  have hx0 := hx0.tr hxx13
  have lt_G_2 : G.2 < GG13.2 := by omega
  obtain ⟨n1_13, n2_13, n3_13, n4_13, n5_13⟩ := hf13
  refine hs_dup1 (p := 17) (by decide +kernel) ?_
  refine hs_k (x := Int32.ofNat 6) (p := 19) (by decide +kernel) ?_
  have hHo := hH
  refine hs_callp (mi := 61) (na := 1) (lk := 6) (lm := 2) (L0 := eg_en (eg_mL 61) [.ref G.2, .int (Int32.ofNat 6)]) (by decide +kernel) rfl rfl rfl rfl rfl (by rw [show eg_mL 61 = 2 from by decide +kernel]; first | done | rfl) ?_
  refine (fc_nod hH k_G_2).mono (fun u hu => xw_cb hu (fun G19 v19 hH x19 hP19 => ?_))
  have r8 := (x19.2 rd 8 lt_rd (fun h => (hi_ne k_rd k_G_2 (by decide)) h.1)).trans r8
  have r2 := (x19.2 rd 2 lt_rd (fun h => (hi_ne k_rd k_G_2 (by decide)) h.1)).trans r2
  have r6 := (x19.2 rd 6 lt_rd (fun h => (hi_ne k_rd k_G_2 (by decide)) h.1)).trans r6
  have r7 := (x19.2 rd 7 lt_rd (fun h => (hi_ne k_rd k_G_2 (by decide)) h.1)).trans r7
  have n1_13 := (x19.2 G.2 1 lt_G_2 (fun h => absurd h.2 (by decide))).trans n1_13
  have n2_13 := (x19.2 G.2 2 lt_G_2 (fun h => absurd h.2 (by decide))).trans n2_13
  have n3_13 := (x19.2 G.2 3 lt_G_2 (fun h => absurd h.2 (by decide))).trans n3_13
  have n4_13 := (x19.2 G.2 4 lt_G_2 (fun h => absurd h.2 (by decide))).trans n4_13
  have n5_13 := (x19.2 G.2 5 lt_G_2 (fun h => absurd h.2 (by decide))).trans n5_13
  have lt_rd := Nat.lt_of_lt_of_le lt_rd x19.1
  have lt_na := Nat.lt_of_lt_of_le lt_na x19.1
  have lt_G_2 := Nat.lt_of_lt_of_le lt_G_2 x19.1
  have hX := hX.tr x19 (fun b j hb h => by first | omega | (dsimp only at h ⊢; omega) | (dsimp only at h; omega) | (dsimp only; omega))
  have m19 := x19.1
  have htk := htk.xf hHo k_rd et_ex.rf x19 (fun a j hs => .inr (.inl (by have e := hs.1; rw [e]; exact k_G_2)))
  obtain ⟨rfl, e19⟩ := hP19
  show et_go none _ 81 22 _ [.ref G.2] _ _ _ _
  refine hs_astore (i := 4) (p := 24) (by decide +kernel) (Nat.le_of_ble_eq_true rfl) ?_
  refine hs_aload (i := 4) (p := 26) (by decide +kernel) rfl ?_
  refine hs_k (x := Int32.ofNat 1) (p := 27) (by decide +kernel) ?_
  have hHo := hH
  refine hf_put (T := et_TT) (t := 6) (ci := 4) (f := 5) (p := 30) (ty := .int) (by decide +kernel) rfl rfl rfl rfl rfl hH k_G_2 hi_any (fun G27 hH x27 e27 => ?_)
  have r8 := (x27.2 rd 8 lt_rd (fun h => (hi_ne k_rd k_G_2 (by decide)) h.1)).trans r8
  have r2 := (x27.2 rd 2 lt_rd (fun h => (hi_ne k_rd k_G_2 (by decide)) h.1)).trans r2
  have r6 := (x27.2 rd 6 lt_rd (fun h => (hi_ne k_rd k_G_2 (by decide)) h.1)).trans r6
  have r7 := (x27.2 rd 7 lt_rd (fun h => (hi_ne k_rd k_G_2 (by decide)) h.1)).trans r7
  have n1_13 := (x27.2 G.2 1 lt_G_2 (fun h => absurd h.2 (by decide))).trans n1_13
  have n2_13 := (x27.2 G.2 2 lt_G_2 (fun h => absurd h.2 (by decide))).trans n2_13
  have n3_13 := (x27.2 G.2 3 lt_G_2 (fun h => absurd h.2 (by decide))).trans n3_13
  have n4_13 := (x27.2 G.2 4 lt_G_2 (fun h => absurd h.2 (by decide))).trans n4_13
  have e19 := (x27.2 G.2 0 lt_G_2 (fun h => absurd h.2 (by decide))).trans e19
  have lt_rd := Nat.lt_of_lt_of_le lt_rd x27.1
  have lt_na := Nat.lt_of_lt_of_le lt_na x27.1
  have lt_G_2 := Nat.lt_of_lt_of_le lt_G_2 x27.1
  have hX := hX.tr x27 (fun b j hb h => by first | omega | (dsimp only at h ⊢; omega) | (dsimp only at h; omega) | (dsimp only; omega))
  have m27 := x27.1
  have htk := htk.xf hHo k_rd et_ex.rf x27 (fun a j hs => .inr (.inl (by have e := hs.1; rw [e]; exact k_G_2)))
  refine hs_aload (i := 0) (p := 31) (by decide +kernel) rfl ?_
  refine hs_gst (v := Value.ref 33) (p := 34) (by decide +kernel) ?_
  refine ht_callv (T := et_TT) (t := 7) (mi := 78) (na := 1) (ci := 5) (lk := 6) (lm := 2) (L0 := eg_en (eg_mL 78) [.ref rd, .ref 33]) (by decide +kernel) rfl hH k_rd rfl rfl rfl rfl rfl (by rw [show eg_mL 78 = 2 from by decide +kernel]; first | done | rfl) ?_
  refine (fc_is hH k_rd htk htl r8 (by omega) (wd := 33) (by decide)).mono (fun u hu => xp_cb hu ?_)
  by_cases i34 : wat L x = 33
  · rw [if_pos i34]
    have il34 : x < L.length := wat_i (by rw [i34]; decide)
    show et_go none _ 81 37 _ [.int (Int32.ofNat 1)] _ _ _ _
    refine hs_if1 (c := .ne) (t := 44) (f := 40) (by decide +kernel) (show ¬ Int32.ofNat 1 = 0 by decide) ?_
    refine hs_k (x := Int32.ofNat 0) (p := 45) (by decide +kernel) ?_
    refine hs_istore (i := 5) (p := 47) (by decide +kernel) (Nat.le_of_ble_eq_true rfl) ?_
    refine hs_iload (i := 5) (p := 49) (by decide +kernel) rfl ?_
    refine hs_if0 (c := .ne) (t := 132) (f := 52) (by decide +kernel) (show ¬ (¬ Int32.ofNat 0 = 0) by decide) ?_
    refine hs_aload (i := 4) (p := 54) (by decide +kernel) rfl ?_
    refine hs_aload (i := 0) (p := 55) (by decide +kernel) rfl ?_
    refine hf_get (T := et_TT) (t := 7) (ci := 5) (f := 8) (p := 58) (by decide +kernel) rfl hH k_rd r8 ?_
    refine hs_aload (i := 0) (p := 59) (by decide +kernel) rfl ?_
    refine hf_get (T := et_TT) (t := 7) (ci := 5) (f := 7) (p := 62) (by decide +kernel) rfl hH k_rd r7 ?_
    refine hs_br2n (c := .ge) (t := 77) (f := 65) (by decide +kernel) (by omega) (by omega) (fun (c62 : (L.length + 1) ≤ x) => ?_) (fun (c62 : ¬ ((L.length + 1) ≤ x)) => ?_)
    · exact absurd c62 (by omega)
    · refine hs_aload (i := 0) (p := 66) (by decide +kernel) rfl ?_
      refine hf_get (T := et_TT) (t := 7) (ci := 5) (f := 6) (p := 69) (by decide +kernel) rfl hH k_rd r6 ?_
      refine hs_aload (i := 0) (p := 70) (by decide +kernel) rfl ?_
      refine hf_get (T := et_TT) (t := 7) (ci := 5) (f := 8) (p := 73) (by decide +kernel) rfl hH k_rd r8 ?_
      obtain ⟨nn, hnn, hxl⟩ := wat_t i34 (by decide)
      have htn := htk.n hnn r6
      cases nn with
      | none =>
        have htn : et_pl (eg_at G27 na) x = some (.int (-1)) := htn
        refine hf_ald (ins := .iaload) (T := et_TT) (t := 21) (kd := 0) (N := 401) (p := 74) (by decide +kernel) (fun _ _ _ _ _ _ _ _ _ _ => rfl) rfl rfl rfl hH k_na (by decide) htn ?_
        refine hs_goto (p := 78) (by decide +kernel) ?_
        have hHo := hH
        refine hf_put (T := et_TT) (t := 6) (ci := 4) (f := 5) (p := 81) (ty := .int) (by decide +kernel) rfl rfl rfl rfl rfl hH k_G_2 (hi_iv (by decide) (by decide)) (fun G78 hH x78 e78 => ?_)
        have r8 := (x78.2 rd 8 lt_rd (fun h => (hi_ne k_rd k_G_2 (by decide)) h.1)).trans r8
        have r2 := (x78.2 rd 2 lt_rd (fun h => (hi_ne k_rd k_G_2 (by decide)) h.1)).trans r2
        have r6 := (x78.2 rd 6 lt_rd (fun h => (hi_ne k_rd k_G_2 (by decide)) h.1)).trans r6
        have r7 := (x78.2 rd 7 lt_rd (fun h => (hi_ne k_rd k_G_2 (by decide)) h.1)).trans r7
        have n1_13 := (x78.2 G.2 1 lt_G_2 (fun h => absurd h.2 (by decide))).trans n1_13
        have n2_13 := (x78.2 G.2 2 lt_G_2 (fun h => absurd h.2 (by decide))).trans n2_13
        have n3_13 := (x78.2 G.2 3 lt_G_2 (fun h => absurd h.2 (by decide))).trans n3_13
        have n4_13 := (x78.2 G.2 4 lt_G_2 (fun h => absurd h.2 (by decide))).trans n4_13
        have e19 := (x78.2 G.2 0 lt_G_2 (fun h => absurd h.2 (by decide))).trans e19
        have lt_rd := Nat.lt_of_lt_of_le lt_rd x78.1
        have lt_na := Nat.lt_of_lt_of_le lt_na x78.1
        have lt_G_2 := Nat.lt_of_lt_of_le lt_G_2 x78.1
        have hX := hX.tr x78 (fun b j hb h => by first | omega | (dsimp only at h ⊢; omega) | (dsimp only at h; omega) | (dsimp only; omega))
        have m78 := x78.1
        have htk := htk.xf hHo k_rd et_ex.rf x78 (fun a j hs => .inr (.inl (by have e := hs.1; rw [e]; exact k_G_2)))
        refine hs_aload (i := 4) (p := 83) (by decide +kernel) rfl ?_
        refine hf_get (T := et_TT) (t := 6) (ci := 4) (f := 5) (p := 86) (by decide +kernel) rfl hH k_G_2 e78 ?_
        refine hs_if0 (c := .ge) (t := 94) (f := 89) (by decide +kernel) (show ¬ (0 ≤ (-1 : Int32)) by decide) ?_
        refine hs_aload (i := 0) (p := 90) (by decide +kernel) rfl ?_
        have hHo := hH
        refine ht_callv (T := et_TT) (t := 7) (mi := 76) (na := 0) (ci := 5) (lk := 6) (lm := 1) (L0 := eg_en (eg_mL 76) [.ref rd]) (by decide +kernel) rfl hH k_rd rfl rfl rfl rfl rfl (by rw [show eg_mL 76 = 1 from by decide +kernel]; first | done | rfl) ?_
        refine (fc_fail hH k_rd htk htl r8 (by omega) r2).mono (fun u hu => xw_cb hu (fun G90 v90 hH x90 hP90 => ?_))
        have r8 := (x90.2 rd 8 lt_rd (fun h => absurd h.2 (by decide))).trans r8
        have r6 := (x90.2 rd 6 lt_rd (fun h => absurd h.2 (by decide))).trans r6
        have r7 := (x90.2 rd 7 lt_rd (fun h => absurd h.2 (by decide))).trans r7
        have n1_13 := (x90.2 G.2 1 lt_G_2 (fun h => (hi_ne k_G_2 k_rd (by decide)) h.1)).trans n1_13
        have n2_13 := (x90.2 G.2 2 lt_G_2 (fun h => (hi_ne k_G_2 k_rd (by decide)) h.1)).trans n2_13
        have n3_13 := (x90.2 G.2 3 lt_G_2 (fun h => (hi_ne k_G_2 k_rd (by decide)) h.1)).trans n3_13
        have n4_13 := (x90.2 G.2 4 lt_G_2 (fun h => (hi_ne k_G_2 k_rd (by decide)) h.1)).trans n4_13
        have e78 := (x90.2 G.2 5 lt_G_2 (fun h => (hi_ne k_G_2 k_rd (by decide)) h.1)).trans e78
        have e19 := (x90.2 G.2 0 lt_G_2 (fun h => (hi_ne k_G_2 k_rd (by decide)) h.1)).trans e19
        have lt_rd := Nat.lt_of_lt_of_le lt_rd x90.1
        have lt_na := Nat.lt_of_lt_of_le lt_na x90.1
        have lt_G_2 := Nat.lt_of_lt_of_le lt_G_2 x90.1
        have hX := hX.tr x90 (fun b j hb h => by first | omega | (dsimp only at h ⊢; omega) | (dsimp only at h; omega) | (dsimp only; omega))
        have m90 := x90.1
        have htk := htk.xf hHo k_rd et_ex.rf x90 (fun a j hs => .inl (by first | omega | (dsimp only at hs; omega)))
        obtain ⟨rfl, q90, hq90, e90⟩ := hP90
        show et_go none _ 81 93 _ [.null] _ _ _ _
        refine hs_aretN (cn := "KnobEye$Node") (by decide +kernel) ?_
        refine ⟨_, _, _, _, _, rfl, hx0, hH, rx_out hX, ?_⟩
        rw [show sp_sum (L.drop x) = none from sp_many_0 (sp_part_0 hnn)]
        exact ⟨rfl, _, (by omega), e90⟩
      | some vv =>
        have htn : et_pl (eg_at G27 na) x = some (.int (Int32.ofNat vv)) := htn
        have hvv := (htl _ (List.mem_of_getElem? hnn)).2 vv rfl
        refine hf_ald (ins := .iaload) (T := et_TT) (t := 21) (kd := 0) (N := 401) (p := 74) (by decide +kernel) (fun _ _ _ _ _ _ _ _ _ _ => rfl) rfl rfl rfl hH k_na (by decide) htn ?_
        refine hs_goto (p := 78) (by decide +kernel) ?_
        have hHo := hH
        refine hf_put (T := et_TT) (t := 6) (ci := 4) (f := 5) (p := 81) (ty := .int) (by decide +kernel) rfl rfl rfl rfl rfl hH k_G_2 hi_any (fun G78 hH x78 e78 => ?_)
        have r8 := (x78.2 rd 8 lt_rd (fun h => (hi_ne k_rd k_G_2 (by decide)) h.1)).trans r8
        have r2 := (x78.2 rd 2 lt_rd (fun h => (hi_ne k_rd k_G_2 (by decide)) h.1)).trans r2
        have r6 := (x78.2 rd 6 lt_rd (fun h => (hi_ne k_rd k_G_2 (by decide)) h.1)).trans r6
        have r7 := (x78.2 rd 7 lt_rd (fun h => (hi_ne k_rd k_G_2 (by decide)) h.1)).trans r7
        have n1_13 := (x78.2 G.2 1 lt_G_2 (fun h => absurd h.2 (by decide))).trans n1_13
        have n2_13 := (x78.2 G.2 2 lt_G_2 (fun h => absurd h.2 (by decide))).trans n2_13
        have n3_13 := (x78.2 G.2 3 lt_G_2 (fun h => absurd h.2 (by decide))).trans n3_13
        have n4_13 := (x78.2 G.2 4 lt_G_2 (fun h => absurd h.2 (by decide))).trans n4_13
        have e19 := (x78.2 G.2 0 lt_G_2 (fun h => absurd h.2 (by decide))).trans e19
        have lt_rd := Nat.lt_of_lt_of_le lt_rd x78.1
        have lt_na := Nat.lt_of_lt_of_le lt_na x78.1
        have lt_G_2 := Nat.lt_of_lt_of_le lt_G_2 x78.1
        have hX := hX.tr x78 (fun b j hb h => by first | omega | (dsimp only at h ⊢; omega) | (dsimp only at h; omega) | (dsimp only; omega))
        have m78 := x78.1
        have htk := htk.xf hHo k_rd et_ex.rf x78 (fun a j hs => .inr (.inl (by have e := hs.1; rw [e]; exact k_G_2)))
        refine hs_aload (i := 4) (p := 83) (by decide +kernel) rfl ?_
        refine hf_get (T := et_TT) (t := 6) (ci := 4) (f := 5) (p := 86) (by decide +kernel) rfl hH k_G_2 e78 ?_
        refine hs_if1 (c := .ge) (t := 94) (f := 89) (by decide +kernel) (rs_ng (by omega)) ?_
        refine hs_aload (i := 0) (p := 95) (by decide +kernel) rfl ?_
        refine hs_dup1 (p := 96) (by decide +kernel) ?_
        refine hf_get (T := et_TT) (t := 7) (ci := 5) (f := 8) (p := 99) (by decide +kernel) rfl hH k_rd r8 ?_
        refine hs_k (x := Int32.ofNat 1) (p := 100) (by decide +kernel) ?_
        refine hs_iaddn (p := 101) (by decide +kernel) ?_
        have hHo := hH
        refine hf_put (T := et_TT) (t := 7) (ci := 5) (f := 8) (p := 104) (ty := .int) (by decide +kernel) rfl rfl rfl rfl rfl hH k_rd (hi_nv (by omega) (by omega)) (fun G101 hH x101 e101 => ?_)
        have r2 := (x101.2 rd 2 lt_rd (fun h => absurd h.2 (by decide))).trans r2
        have r6 := (x101.2 rd 6 lt_rd (fun h => absurd h.2 (by decide))).trans r6
        have r7 := (x101.2 rd 7 lt_rd (fun h => absurd h.2 (by decide))).trans r7
        have n1_13 := (x101.2 G.2 1 lt_G_2 (fun h => (hi_ne k_G_2 k_rd (by decide)) h.1)).trans n1_13
        have n2_13 := (x101.2 G.2 2 lt_G_2 (fun h => (hi_ne k_G_2 k_rd (by decide)) h.1)).trans n2_13
        have n3_13 := (x101.2 G.2 3 lt_G_2 (fun h => (hi_ne k_G_2 k_rd (by decide)) h.1)).trans n3_13
        have n4_13 := (x101.2 G.2 4 lt_G_2 (fun h => (hi_ne k_G_2 k_rd (by decide)) h.1)).trans n4_13
        have e78 := (x101.2 G.2 5 lt_G_2 (fun h => (hi_ne k_G_2 k_rd (by decide)) h.1)).trans e78
        have e19 := (x101.2 G.2 0 lt_G_2 (fun h => (hi_ne k_G_2 k_rd (by decide)) h.1)).trans e19
        have lt_rd := Nat.lt_of_lt_of_le lt_rd x101.1
        have lt_na := Nat.lt_of_lt_of_le lt_na x101.1
        have lt_G_2 := Nat.lt_of_lt_of_le lt_G_2 x101.1
        have hX := hX.tr x101 (fun b j hb h => by first | omega | (dsimp only at h ⊢; omega) | (dsimp only at h; omega) | (dsimp only; omega))
        have m101 := x101.1
        have htk := htk.xf hHo k_rd et_ex.rf x101 (fun a j hs => .inl (by first | omega | (dsimp only at hs; omega)))
        have e101 : et_pl (eg_at G101 rd) 8 = some (.int (Int32.ofNat (x + 1))) := e101
        refine hs_aload (i := 0) (p := 105) (by decide +kernel) rfl ?_
        refine hs_gst (v := Value.ref 28) (p := 108) (by decide +kernel) ?_
        refine ht_callv (T := et_TT) (t := 7) (mi := 78) (na := 1) (ci := 5) (lk := 6) (lm := 2) (L0 := eg_en (eg_mL 78) [.ref rd, .ref 28]) (by decide +kernel) rfl hH k_rd rfl rfl rfl rfl rfl (by rw [show eg_mL 78 = 2 from by decide +kernel]; first | done | rfl) ?_
        refine (fc_is hH k_rd htk htl e101 (by omega) (wd := 28) (by decide)).mono (fun u hu => xp_cb hu ?_)
        by_cases i108 : wat L (x + 1) = 28
        · rw [if_pos i108]
          have il108 : (x + 1) < L.length := wat_i (by rw [i108]; decide)
          show et_go none _ 81 111 _ [.int (Int32.ofNat 1)] _ _ _ _
          refine hs_istore (i := 5) (p := 113) (by decide +kernel) (Nat.le_of_ble_eq_true rfl) ?_
          refine hs_aload (i := 0) (p := 114) (by decide +kernel) rfl ?_
          refine hs_dup1 (p := 115) (by decide +kernel) ?_
          refine hf_get (T := et_TT) (t := 7) (ci := 5) (f := 8) (p := 118) (by decide +kernel) rfl hH k_rd e101 ?_
          refine hs_iload (i := 5) (p := 120) (by decide +kernel) rfl ?_
          refine hs_if0 (c := .eq) (t := 127) (f := 123) (by decide +kernel) (show ¬ (Int32.ofNat 1 = 0) by decide) ?_
          refine hs_k (x := Int32.ofNat 1) (p := 124) (by decide +kernel) ?_
          refine hs_goto (p := 128) (by decide +kernel) ?_
          refine hs_iaddn (p := 129) (by decide +kernel) ?_
          have hHo := hH
          refine hf_put (T := et_TT) (t := 7) (ci := 5) (f := 8) (p := 132) (ty := .int) (by decide +kernel) rfl rfl rfl rfl rfl hH k_rd (hi_nv (by omega) (by omega)) (fun G129 hH x129 e129 => ?_)
          have r2 := (x129.2 rd 2 lt_rd (fun h => absurd h.2 (by decide))).trans r2
          have r6 := (x129.2 rd 6 lt_rd (fun h => absurd h.2 (by decide))).trans r6
          have r7 := (x129.2 rd 7 lt_rd (fun h => absurd h.2 (by decide))).trans r7
          have n1_13 := (x129.2 G.2 1 lt_G_2 (fun h => (hi_ne k_G_2 k_rd (by decide)) h.1)).trans n1_13
          have n2_13 := (x129.2 G.2 2 lt_G_2 (fun h => (hi_ne k_G_2 k_rd (by decide)) h.1)).trans n2_13
          have n3_13 := (x129.2 G.2 3 lt_G_2 (fun h => (hi_ne k_G_2 k_rd (by decide)) h.1)).trans n3_13
          have n4_13 := (x129.2 G.2 4 lt_G_2 (fun h => (hi_ne k_G_2 k_rd (by decide)) h.1)).trans n4_13
          have e78 := (x129.2 G.2 5 lt_G_2 (fun h => (hi_ne k_G_2 k_rd (by decide)) h.1)).trans e78
          have e19 := (x129.2 G.2 0 lt_G_2 (fun h => (hi_ne k_G_2 k_rd (by decide)) h.1)).trans e19
          have lt_rd := Nat.lt_of_lt_of_le lt_rd x129.1
          have lt_na := Nat.lt_of_lt_of_le lt_na x129.1
          have lt_G_2 := Nat.lt_of_lt_of_le lt_G_2 x129.1
          have hX := hX.tr x129 (fun b j hb h => by first | omega | (dsimp only at h ⊢; omega) | (dsimp only at h; omega) | (dsimp only; omega))
          have m129 := x129.1
          have htk := htk.xf hHo k_rd et_ex.rf x129 (fun a j hs => .inl (by first | omega | (dsimp only at hs; omega)))
          have e129 : et_pl (eg_at G129 rd) 8 = some (.int (Int32.ofNat (x + 2))) := e129
          refine hs_iload (i := 5) (p := 134) (by decide +kernel) rfl ?_
          refine hs_if0 (c := .eq) (t := 195) (f := 137) (by decide +kernel) (show ¬ (Int32.ofNat 1 = 0) by decide) ?_
          refine hs_aload (i := 4) (p := 139) (by decide +kernel) rfl ?_
          refine hs_aload (i := 0) (p := 140) (by decide +kernel) rfl ?_
          refine hs_k (x := Int32.ofNat 2) (p := 141) (by decide +kernel) ?_
          refine ht_callv (T := et_TT) (t := 7) (mi := 79) (na := 1) (ci := 5) (lk := 6) (lm := 2) (L0 := eg_en (eg_mL 79) [.ref rd, .int (Int32.ofNat 2)]) (by decide +kernel) rfl hH k_rd rfl rfl rfl rfl rfl (by rw [show eg_mL 79 = 2 from by decide +kernel]; first | done | rfl) ?_
          refine (fc_wh2 hH k_rd htk htl e129 (by omega)).mono (fun u hu => xp_cb hu ?_)
          by_cases w141 : sp_fw (wat L (x + 2)) = true
          · rw [if_pos w141]
            obtain ⟨wn141, hwn, -⟩ := wat_t (L := L) (x := (x + 2)) rfl (fun h => by rw [h] at w141; exact absurd w141 (by decide))
            have il141 : (x + 2) < L.length := wat_i (fun h => by rw [h] at w141; exact absurd w141 (by decide))
            show et_go none _ 81 144 _ [.ref (wat L (x + 2)), .ref G.2] _ _ _ _
            have hHo := hH
            refine hf_put (T := et_TT) (t := 6) (ci := 4) (f := 4) (p := 147) (ty := (.object "KnobEye$Word")) (by decide +kernel) rfl rfl rfl rfl rfl hH k_G_2 (.inr ⟨by decide, _, rfl, hH.2.1 _ (wat_lt htl)⟩) (fun G144 hH x144 e144 => ?_)
            have e129 := (x144.2 rd 8 lt_rd (fun h => (hi_ne k_rd k_G_2 (by decide)) h.1)).trans e129
            have r2 := (x144.2 rd 2 lt_rd (fun h => (hi_ne k_rd k_G_2 (by decide)) h.1)).trans r2
            have r6 := (x144.2 rd 6 lt_rd (fun h => (hi_ne k_rd k_G_2 (by decide)) h.1)).trans r6
            have r7 := (x144.2 rd 7 lt_rd (fun h => (hi_ne k_rd k_G_2 (by decide)) h.1)).trans r7
            have n1_13 := (x144.2 G.2 1 lt_G_2 (fun h => absurd h.2 (by decide))).trans n1_13
            have n2_13 := (x144.2 G.2 2 lt_G_2 (fun h => absurd h.2 (by decide))).trans n2_13
            have n3_13 := (x144.2 G.2 3 lt_G_2 (fun h => absurd h.2 (by decide))).trans n3_13
            have e78 := (x144.2 G.2 5 lt_G_2 (fun h => absurd h.2 (by decide))).trans e78
            have e19 := (x144.2 G.2 0 lt_G_2 (fun h => absurd h.2 (by decide))).trans e19
            have lt_rd := Nat.lt_of_lt_of_le lt_rd x144.1
            have lt_na := Nat.lt_of_lt_of_le lt_na x144.1
            have lt_G_2 := Nat.lt_of_lt_of_le lt_G_2 x144.1
            have hX := hX.tr x144 (fun b j hb h => by first | omega | (dsimp only at h ⊢; omega) | (dsimp only at h; omega) | (dsimp only; omega))
            have m144 := x144.1
            have htk := htk.xf hHo k_rd et_ex.rf x144 (fun a j hs => .inr (.inl (by have e := hs.1; rw [e]; exact k_G_2)))
            refine hs_aload (i := 4) (p := 149) (by decide +kernel) rfl ?_
            refine hf_get (T := et_TT) (t := 6) (ci := 4) (f := 4) (p := 152) (by decide +kernel) rfl hH k_G_2 e144 ?_
            refine hs_ifnonnull1 (p := 160) (by decide +kernel) ?_
            refine hs_aload (i := 0) (p := 161) (by decide +kernel) rfl ?_
            refine hs_dup1 (p := 162) (by decide +kernel) ?_
            refine ht_getn (T := et_TT) (t := 7) (ci := 5) (f := 3) (p := 165) (by decide +kernel) rfl rfl hH k_rd (fun c162 h162 e162 => ?_)
            refine hs_aload (i := 4) (p := 167) (by decide +kernel) rfl ?_
            refine hf_get (T := et_TT) (t := 6) (ci := 4) (f := 4) (p := 170) (by decide +kernel) rfl hH k_G_2 e144 ?_
            refine hs_gst (v := Value.ref 17) (p := 173) (by decide +kernel) ?_
            refine hf_acm (c := .ne) (tt := 180) (ff := 176) (by decide +kernel) (hi_ca hH (hH.2.1 _ (wat_lt htl)) (.inl rfl)) (by decide +kernel) (fun (q173 : ¬ Value.ref (wat L (x + 2)) = .ref 17) => ?_) (fun (q173 : ¬ ¬ Value.ref (wat L (x + 2)) = .ref 17) => ?_)
            · have q173 : ¬ (wat L (x + 2)) = 17 := fun h => q173 (by rw [h])
              refine hs_k (x := Int32.ofNat 0) (p := 181) (by decide +kernel) ?_
              refine hs_ior (p := 182) (by decide +kernel) ?_
              obtain ⟨m181, hm181, hq181⟩ := hi_or (a := c162) (b := 0) (by omega) (by omega)
              rw [hq181]
              have hHo := hH
              refine hf_put (T := et_TT) (t := 7) (ci := 5) (f := 3) (p := 185) (ty := .boolean) (by decide +kernel) rfl rfl rfl (hi_fz (by omega)) rfl hH k_rd (hi_nv (by omega) (by omega)) (fun G182 hH x182 e182 => ?_)
              have e129 := (x182.2 rd 8 lt_rd (fun h => absurd h.2 (by decide))).trans e129
              have r2 := (x182.2 rd 2 lt_rd (fun h => absurd h.2 (by decide))).trans r2
              have r6 := (x182.2 rd 6 lt_rd (fun h => absurd h.2 (by decide))).trans r6
              have r7 := (x182.2 rd 7 lt_rd (fun h => absurd h.2 (by decide))).trans r7
              have n1_13 := (x182.2 G.2 1 lt_G_2 (fun h => (hi_ne k_G_2 k_rd (by decide)) h.1)).trans n1_13
              have n2_13 := (x182.2 G.2 2 lt_G_2 (fun h => (hi_ne k_G_2 k_rd (by decide)) h.1)).trans n2_13
              have n3_13 := (x182.2 G.2 3 lt_G_2 (fun h => (hi_ne k_G_2 k_rd (by decide)) h.1)).trans n3_13
              have e144 := (x182.2 G.2 4 lt_G_2 (fun h => (hi_ne k_G_2 k_rd (by decide)) h.1)).trans e144
              have e78 := (x182.2 G.2 5 lt_G_2 (fun h => (hi_ne k_G_2 k_rd (by decide)) h.1)).trans e78
              have e19 := (x182.2 G.2 0 lt_G_2 (fun h => (hi_ne k_G_2 k_rd (by decide)) h.1)).trans e19
              have lt_rd := Nat.lt_of_lt_of_le lt_rd x182.1
              have lt_na := Nat.lt_of_lt_of_le lt_na x182.1
              have lt_G_2 := Nat.lt_of_lt_of_le lt_G_2 x182.1
              have hX := hX.tr x182 (fun b j hb h => by first | omega | (dsimp only at h ⊢; omega) | (dsimp only at h; omega) | (dsimp only; omega))
              have m182 := x182.1
              have htk := htk.xf hHo k_rd et_ex.rf x182 (fun a j hs => .inl (by first | omega | (dsimp only at hs; omega)))
              refine hs_aload (i := 0) (p := 186) (by decide +kernel) rfl ?_
              refine hs_dup1 (p := 187) (by decide +kernel) ?_
              refine hf_get (T := et_TT) (t := 7) (ci := 5) (f := 8) (p := 190) (by decide +kernel) rfl hH k_rd e129 ?_
              refine hs_k (x := Int32.ofNat 1) (p := 191) (by decide +kernel) ?_
              refine hs_iaddn (p := 192) (by decide +kernel) ?_
              have hHo := hH
              refine hf_put (T := et_TT) (t := 7) (ci := 5) (f := 8) (p := 195) (ty := .int) (by decide +kernel) rfl rfl rfl rfl rfl hH k_rd (hi_nv (by omega) (by omega)) (fun G192 hH x192 e192 => ?_)
              have r2 := (x192.2 rd 2 lt_rd (fun h => absurd h.2 (by decide))).trans r2
              have r6 := (x192.2 rd 6 lt_rd (fun h => absurd h.2 (by decide))).trans r6
              have r7 := (x192.2 rd 7 lt_rd (fun h => absurd h.2 (by decide))).trans r7
              have n1_13 := (x192.2 G.2 1 lt_G_2 (fun h => (hi_ne k_G_2 k_rd (by decide)) h.1)).trans n1_13
              have n2_13 := (x192.2 G.2 2 lt_G_2 (fun h => (hi_ne k_G_2 k_rd (by decide)) h.1)).trans n2_13
              have n3_13 := (x192.2 G.2 3 lt_G_2 (fun h => (hi_ne k_G_2 k_rd (by decide)) h.1)).trans n3_13
              have e144 := (x192.2 G.2 4 lt_G_2 (fun h => (hi_ne k_G_2 k_rd (by decide)) h.1)).trans e144
              have e78 := (x192.2 G.2 5 lt_G_2 (fun h => (hi_ne k_G_2 k_rd (by decide)) h.1)).trans e78
              have e19 := (x192.2 G.2 0 lt_G_2 (fun h => (hi_ne k_G_2 k_rd (by decide)) h.1)).trans e19
              have e182 := (x192.2 rd 3 lt_rd (fun h => absurd h.2 (by decide))).trans e182
              have lt_rd := Nat.lt_of_lt_of_le lt_rd x192.1
              have lt_na := Nat.lt_of_lt_of_le lt_na x192.1
              have lt_G_2 := Nat.lt_of_lt_of_le lt_G_2 x192.1
              have hX := hX.tr x192 (fun b j hb h => by first | omega | (dsimp only at h ⊢; omega) | (dsimp only at h; omega) | (dsimp only; omega))
              have m192 := x192.1
              have htk := htk.xf hHo k_rd et_ex.rf x192 (fun a j hs => .inl (by first | omega | (dsimp only at hs; omega)))
              have e192 : et_pl (eg_at G192 rd) 8 = some (.int (Int32.ofNat (x + 3))) := e192
              refine hs_aload0 (i := 2) (p := 196) (by decide +kernel) rfl ?_
              refine hs_ifnonnull0 (p := 199) (by decide +kernel) ?_
              refine hs_aload (i := 4) (p := 201) (by decide +kernel) rfl ?_
              refine hs_astore (i := 1) (p := 202) (by decide +kernel) (Nat.le_of_ble_eq_true rfl) ?_
              refine hs_goto (p := 211) (by decide +kernel) ?_
              refine hs_aload (i := 4) (p := 213) (by decide +kernel) rfl ?_
              refine hs_astore (i := 2) (p := 214) (by decide +kernel) (Nat.le_of_ble_eq_true rfl) ?_
              have hI := sI.one (lo := G.2) (hi := G192.2) n1_13 ⟨by omega, lt_G_2⟩ (⟨vv, hvv, e78, .inr ⟨_, w141, e144, rfl⟩⟩)
              refine hs_aload (i := 0) (p := 215) (by decide +kernel) rfl ?_
              refine hs_gst (v := Value.ref 27) (p := 218) (by decide +kernel) ?_
              refine ht_callv (T := et_TT) (t := 7) (mi := 78) (na := 1) (ci := 5) (lk := 6) (lm := 2) (L0 := eg_en (eg_mL 78) [.ref rd, .ref 27]) (by decide +kernel) rfl hH k_rd rfl rfl rfl rfl rfl (by rw [show eg_mL 78 = 2 from by decide +kernel]; first | done | rfl) ?_
              refine (fc_is hH k_rd htk htl e192 (by omega) (wd := 27) (by decide)).mono (fun u hu => xp_cb hu ?_)
              by_cases i218 : wat L (x + 3) = 27
              · rw [if_pos i218]
                have il218 : (x + 3) < L.length := wat_i (by rw [i218]; decide)
                show et_go none _ 81 221 _ [.int (Int32.ofNat 1)] _ _ _ _
                refine hs_if1 (c := .ne) (t := 227) (f := 224) (by decide +kernel) (show ¬ Int32.ofNat 1 = 0 by decide) ?_
                refine hs_aload (i := 0) (p := 228) (by decide +kernel) rfl ?_
                refine hs_dup1 (p := 229) (by decide +kernel) ?_
                refine hf_get (T := et_TT) (t := 7) (ci := 5) (f := 8) (p := 232) (by decide +kernel) rfl hH k_rd e192 ?_
                refine hs_k (x := Int32.ofNat 1) (p := 233) (by decide +kernel) ?_
                refine hs_iaddn (p := 234) (by decide +kernel) ?_
                have hHo := hH
                refine hf_put (T := et_TT) (t := 7) (ci := 5) (f := 8) (p := 237) (ty := .int) (by decide +kernel) rfl rfl rfl rfl rfl hH k_rd (hi_nv (by omega) (by omega)) (fun G234 hH x234 e234 => ?_)
                have r2 := (x234.2 rd 2 lt_rd (fun h => absurd h.2 (by decide))).trans r2
                have r6 := (x234.2 rd 6 lt_rd (fun h => absurd h.2 (by decide))).trans r6
                have r7 := (x234.2 rd 7 lt_rd (fun h => absurd h.2 (by decide))).trans r7
                have n1_13 := (x234.2 G.2 1 lt_G_2 (fun h => (hi_ne k_G_2 k_rd (by decide)) h.1)).trans n1_13
                have n2_13 := (x234.2 G.2 2 lt_G_2 (fun h => (hi_ne k_G_2 k_rd (by decide)) h.1)).trans n2_13
                have n3_13 := (x234.2 G.2 3 lt_G_2 (fun h => (hi_ne k_G_2 k_rd (by decide)) h.1)).trans n3_13
                have e144 := (x234.2 G.2 4 lt_G_2 (fun h => (hi_ne k_G_2 k_rd (by decide)) h.1)).trans e144
                have e78 := (x234.2 G.2 5 lt_G_2 (fun h => (hi_ne k_G_2 k_rd (by decide)) h.1)).trans e78
                have e19 := (x234.2 G.2 0 lt_G_2 (fun h => (hi_ne k_G_2 k_rd (by decide)) h.1)).trans e19
                have e182 := (x234.2 rd 3 lt_rd (fun h => absurd h.2 (by decide))).trans e182
                have lt_rd := Nat.lt_of_lt_of_le lt_rd x234.1
                have lt_na := Nat.lt_of_lt_of_le lt_na x234.1
                have lt_G_2 := Nat.lt_of_lt_of_le lt_G_2 x234.1
                have hX := hX.tr x234 (fun b j hb h => by first | omega | (dsimp only at h ⊢; omega) | (dsimp only at h; omega) | (dsimp only; omega))
                have m234 := x234.1
                have htk := htk.xf hHo k_rd et_ex.rf x234 (fun a j hs => .inl (by first | omega | (dsimp only at hs; omega)))
                have hI := hI.fr (x234.agf (lo := G.2) (hi := G192.2) (by omega) (fun a j h1 h2 hs => by first | omega | (dsimp only at hs; omega)))
                have e234 : et_pl (eg_at G234 rd) 8 = some (.int (Int32.ofNat (x + 4))) := e234
                refine hs_iinc1 (i := 3) (p := 240) (by decide +kernel) rfl (Nat.le_of_ble_eq_true rfl) ?_
                refine hs_goto (p := 6) (by decide +kernel) ?_
                rw [show sp_sum (L.drop x) = sp_lp sp_part 27 (fun f g e => f e + g e) 499 _ (L.drop (x + 4)) from sp_many_y (sp_part_2 hnn i108 w141) i218 (by decide)]
                show et_go none _ 81 6 [some (.ref rd), some (.ref G.2), some (.ref G.2), some (.int (Int32.ofNat (0 + 1))), some (.ref G.2), some (.int (Int32.ofNat 1))] [] _ _ _ _
                exact fn_sum (K0 := K) (G0 := G) (i := 0 + 1) hH hx0 hX k_rd htk htl e234 (by omega) r2 lr0 (by omega) k_G_2 k_G_2 hI (by omega) n1_13 (by omega) (by omega) (by omega) (by omega)
              · rw [if_neg i218]
                show et_go none _ 81 221 _ [.int (Int32.ofNat 0)] _ _ _ _
                refine hs_if0 (c := .ne) (t := 227) (f := 224) (by decide +kernel) (show ¬ (¬ Int32.ofNat 0 = 0) by decide) ?_
                refine hs_goto (p := 243) (by decide +kernel) ?_
                refine hs_aload (i := 1) (p := 244) (by decide +kernel) rfl ?_
                refine hs_aret (cn := "KnobEye$Node") (by decide +kernel) ?_
                have lo_a := hI.bd
                refine ⟨_, _, _, _, _, rfl, hx0, hH, rx_out hX, ?_⟩
                rw [show sp_sum (L.drop x) = some (_, L.drop (x + 3)) from sp_many_n (sp_part_2 hnn i108 w141) i218]
                exact ⟨(x + 3), _, rfl, (by omega), (by omega), e192, r2, rfl, k_G_2, ⟨hI.sm.wk (Nat.le_refl _) (by omega), lo_a.2.2.1⟩⟩
            · have q173 : (wat L (x + 2)) = 17 := Value.ref.inj (Decidable.of_not_not q173)
              refine hs_k (x := Int32.ofNat 1) (p := 177) (by decide +kernel) ?_
              refine hs_goto (p := 181) (by decide +kernel) ?_
              refine hs_ior (p := 182) (by decide +kernel) ?_
              obtain ⟨m181, hm181, hq181⟩ := hi_or (a := c162) (b := 1) (by omega) (by omega)
              rw [hq181]
              have hHo := hH
              refine hf_put (T := et_TT) (t := 7) (ci := 5) (f := 3) (p := 185) (ty := .boolean) (by decide +kernel) rfl rfl rfl (hi_fz (by omega)) rfl hH k_rd (hi_nv (by omega) (by omega)) (fun G182 hH x182 e182 => ?_)
              have e129 := (x182.2 rd 8 lt_rd (fun h => absurd h.2 (by decide))).trans e129
              have r2 := (x182.2 rd 2 lt_rd (fun h => absurd h.2 (by decide))).trans r2
              have r6 := (x182.2 rd 6 lt_rd (fun h => absurd h.2 (by decide))).trans r6
              have r7 := (x182.2 rd 7 lt_rd (fun h => absurd h.2 (by decide))).trans r7
              have n1_13 := (x182.2 G.2 1 lt_G_2 (fun h => (hi_ne k_G_2 k_rd (by decide)) h.1)).trans n1_13
              have n2_13 := (x182.2 G.2 2 lt_G_2 (fun h => (hi_ne k_G_2 k_rd (by decide)) h.1)).trans n2_13
              have n3_13 := (x182.2 G.2 3 lt_G_2 (fun h => (hi_ne k_G_2 k_rd (by decide)) h.1)).trans n3_13
              have e144 := (x182.2 G.2 4 lt_G_2 (fun h => (hi_ne k_G_2 k_rd (by decide)) h.1)).trans e144
              have e78 := (x182.2 G.2 5 lt_G_2 (fun h => (hi_ne k_G_2 k_rd (by decide)) h.1)).trans e78
              have e19 := (x182.2 G.2 0 lt_G_2 (fun h => (hi_ne k_G_2 k_rd (by decide)) h.1)).trans e19
              have lt_rd := Nat.lt_of_lt_of_le lt_rd x182.1
              have lt_na := Nat.lt_of_lt_of_le lt_na x182.1
              have lt_G_2 := Nat.lt_of_lt_of_le lt_G_2 x182.1
              have hX := hX.tr x182 (fun b j hb h => by first | omega | (dsimp only at h ⊢; omega) | (dsimp only at h; omega) | (dsimp only; omega))
              have m182 := x182.1
              have htk := htk.xf hHo k_rd et_ex.rf x182 (fun a j hs => .inl (by first | omega | (dsimp only at hs; omega)))
              refine hs_aload (i := 0) (p := 186) (by decide +kernel) rfl ?_
              refine hs_dup1 (p := 187) (by decide +kernel) ?_
              refine hf_get (T := et_TT) (t := 7) (ci := 5) (f := 8) (p := 190) (by decide +kernel) rfl hH k_rd e129 ?_
              refine hs_k (x := Int32.ofNat 1) (p := 191) (by decide +kernel) ?_
              refine hs_iaddn (p := 192) (by decide +kernel) ?_
              have hHo := hH
              refine hf_put (T := et_TT) (t := 7) (ci := 5) (f := 8) (p := 195) (ty := .int) (by decide +kernel) rfl rfl rfl rfl rfl hH k_rd (hi_nv (by omega) (by omega)) (fun G192 hH x192 e192 => ?_)
              have r2 := (x192.2 rd 2 lt_rd (fun h => absurd h.2 (by decide))).trans r2
              have r6 := (x192.2 rd 6 lt_rd (fun h => absurd h.2 (by decide))).trans r6
              have r7 := (x192.2 rd 7 lt_rd (fun h => absurd h.2 (by decide))).trans r7
              have n1_13 := (x192.2 G.2 1 lt_G_2 (fun h => (hi_ne k_G_2 k_rd (by decide)) h.1)).trans n1_13
              have n2_13 := (x192.2 G.2 2 lt_G_2 (fun h => (hi_ne k_G_2 k_rd (by decide)) h.1)).trans n2_13
              have n3_13 := (x192.2 G.2 3 lt_G_2 (fun h => (hi_ne k_G_2 k_rd (by decide)) h.1)).trans n3_13
              have e144 := (x192.2 G.2 4 lt_G_2 (fun h => (hi_ne k_G_2 k_rd (by decide)) h.1)).trans e144
              have e78 := (x192.2 G.2 5 lt_G_2 (fun h => (hi_ne k_G_2 k_rd (by decide)) h.1)).trans e78
              have e19 := (x192.2 G.2 0 lt_G_2 (fun h => (hi_ne k_G_2 k_rd (by decide)) h.1)).trans e19
              have e182 := (x192.2 rd 3 lt_rd (fun h => absurd h.2 (by decide))).trans e182
              have lt_rd := Nat.lt_of_lt_of_le lt_rd x192.1
              have lt_na := Nat.lt_of_lt_of_le lt_na x192.1
              have lt_G_2 := Nat.lt_of_lt_of_le lt_G_2 x192.1
              have hX := hX.tr x192 (fun b j hb h => by first | omega | (dsimp only at h ⊢; omega) | (dsimp only at h; omega) | (dsimp only; omega))
              have m192 := x192.1
              have htk := htk.xf hHo k_rd et_ex.rf x192 (fun a j hs => .inl (by first | omega | (dsimp only at hs; omega)))
              have e192 : et_pl (eg_at G192 rd) 8 = some (.int (Int32.ofNat (x + 3))) := e192
              refine hs_aload0 (i := 2) (p := 196) (by decide +kernel) rfl ?_
              refine hs_ifnonnull0 (p := 199) (by decide +kernel) ?_
              refine hs_aload (i := 4) (p := 201) (by decide +kernel) rfl ?_
              refine hs_astore (i := 1) (p := 202) (by decide +kernel) (Nat.le_of_ble_eq_true rfl) ?_
              refine hs_goto (p := 211) (by decide +kernel) ?_
              refine hs_aload (i := 4) (p := 213) (by decide +kernel) rfl ?_
              refine hs_astore (i := 2) (p := 214) (by decide +kernel) (Nat.le_of_ble_eq_true rfl) ?_
              have hI := sI.one (lo := G.2) (hi := G192.2) n1_13 ⟨by omega, lt_G_2⟩ (⟨vv, hvv, e78, .inr ⟨_, w141, e144, rfl⟩⟩)
              refine hs_aload (i := 0) (p := 215) (by decide +kernel) rfl ?_
              refine hs_gst (v := Value.ref 27) (p := 218) (by decide +kernel) ?_
              refine ht_callv (T := et_TT) (t := 7) (mi := 78) (na := 1) (ci := 5) (lk := 6) (lm := 2) (L0 := eg_en (eg_mL 78) [.ref rd, .ref 27]) (by decide +kernel) rfl hH k_rd rfl rfl rfl rfl rfl (by rw [show eg_mL 78 = 2 from by decide +kernel]; first | done | rfl) ?_
              refine (fc_is hH k_rd htk htl e192 (by omega) (wd := 27) (by decide)).mono (fun u hu => xp_cb hu ?_)
              by_cases i218 : wat L (x + 3) = 27
              · rw [if_pos i218]
                have il218 : (x + 3) < L.length := wat_i (by rw [i218]; decide)
                show et_go none _ 81 221 _ [.int (Int32.ofNat 1)] _ _ _ _
                refine hs_if1 (c := .ne) (t := 227) (f := 224) (by decide +kernel) (show ¬ Int32.ofNat 1 = 0 by decide) ?_
                refine hs_aload (i := 0) (p := 228) (by decide +kernel) rfl ?_
                refine hs_dup1 (p := 229) (by decide +kernel) ?_
                refine hf_get (T := et_TT) (t := 7) (ci := 5) (f := 8) (p := 232) (by decide +kernel) rfl hH k_rd e192 ?_
                refine hs_k (x := Int32.ofNat 1) (p := 233) (by decide +kernel) ?_
                refine hs_iaddn (p := 234) (by decide +kernel) ?_
                have hHo := hH
                refine hf_put (T := et_TT) (t := 7) (ci := 5) (f := 8) (p := 237) (ty := .int) (by decide +kernel) rfl rfl rfl rfl rfl hH k_rd (hi_nv (by omega) (by omega)) (fun G234 hH x234 e234 => ?_)
                have r2 := (x234.2 rd 2 lt_rd (fun h => absurd h.2 (by decide))).trans r2
                have r6 := (x234.2 rd 6 lt_rd (fun h => absurd h.2 (by decide))).trans r6
                have r7 := (x234.2 rd 7 lt_rd (fun h => absurd h.2 (by decide))).trans r7
                have n1_13 := (x234.2 G.2 1 lt_G_2 (fun h => (hi_ne k_G_2 k_rd (by decide)) h.1)).trans n1_13
                have n2_13 := (x234.2 G.2 2 lt_G_2 (fun h => (hi_ne k_G_2 k_rd (by decide)) h.1)).trans n2_13
                have n3_13 := (x234.2 G.2 3 lt_G_2 (fun h => (hi_ne k_G_2 k_rd (by decide)) h.1)).trans n3_13
                have e144 := (x234.2 G.2 4 lt_G_2 (fun h => (hi_ne k_G_2 k_rd (by decide)) h.1)).trans e144
                have e78 := (x234.2 G.2 5 lt_G_2 (fun h => (hi_ne k_G_2 k_rd (by decide)) h.1)).trans e78
                have e19 := (x234.2 G.2 0 lt_G_2 (fun h => (hi_ne k_G_2 k_rd (by decide)) h.1)).trans e19
                have e182 := (x234.2 rd 3 lt_rd (fun h => absurd h.2 (by decide))).trans e182
                have lt_rd := Nat.lt_of_lt_of_le lt_rd x234.1
                have lt_na := Nat.lt_of_lt_of_le lt_na x234.1
                have lt_G_2 := Nat.lt_of_lt_of_le lt_G_2 x234.1
                have hX := hX.tr x234 (fun b j hb h => by first | omega | (dsimp only at h ⊢; omega) | (dsimp only at h; omega) | (dsimp only; omega))
                have m234 := x234.1
                have htk := htk.xf hHo k_rd et_ex.rf x234 (fun a j hs => .inl (by first | omega | (dsimp only at hs; omega)))
                have hI := hI.fr (x234.agf (lo := G.2) (hi := G192.2) (by omega) (fun a j h1 h2 hs => by first | omega | (dsimp only at hs; omega)))
                have e234 : et_pl (eg_at G234 rd) 8 = some (.int (Int32.ofNat (x + 4))) := e234
                refine hs_iinc1 (i := 3) (p := 240) (by decide +kernel) rfl (Nat.le_of_ble_eq_true rfl) ?_
                refine hs_goto (p := 6) (by decide +kernel) ?_
                rw [show sp_sum (L.drop x) = sp_lp sp_part 27 (fun f g e => f e + g e) 499 _ (L.drop (x + 4)) from sp_many_y (sp_part_2 hnn i108 w141) i218 (by decide)]
                show et_go none _ 81 6 [some (.ref rd), some (.ref G.2), some (.ref G.2), some (.int (Int32.ofNat (0 + 1))), some (.ref G.2), some (.int (Int32.ofNat 1))] [] _ _ _ _
                exact fn_sum (K0 := K) (G0 := G) (i := 0 + 1) hH hx0 hX k_rd htk htl e234 (by omega) r2 lr0 (by omega) k_G_2 k_G_2 hI (by omega) n1_13 (by omega) (by omega) (by omega) (by omega)
              · rw [if_neg i218]
                show et_go none _ 81 221 _ [.int (Int32.ofNat 0)] _ _ _ _
                refine hs_if0 (c := .ne) (t := 227) (f := 224) (by decide +kernel) (show ¬ (¬ Int32.ofNat 0 = 0) by decide) ?_
                refine hs_goto (p := 243) (by decide +kernel) ?_
                refine hs_aload (i := 1) (p := 244) (by decide +kernel) rfl ?_
                refine hs_aret (cn := "KnobEye$Node") (by decide +kernel) ?_
                have lo_a := hI.bd
                refine ⟨_, _, _, _, _, rfl, hx0, hH, rx_out hX, ?_⟩
                rw [show sp_sum (L.drop x) = some (_, L.drop (x + 3)) from sp_many_n (sp_part_2 hnn i108 w141) i218]
                exact ⟨(x + 3), _, rfl, (by omega), (by omega), e192, r2, rfl, k_G_2, ⟨hI.sm.wk (Nat.le_refl _) (by omega), lo_a.2.2.1⟩⟩
          · rw [if_neg w141]
            show et_go none _ 81 144 _ [.null, .ref G.2] _ _ _ _
            have hHo := hH
            refine hf_put (T := et_TT) (t := 6) (ci := 4) (f := 4) (p := 147) (ty := (.object "KnobEye$Word")) (by decide +kernel) rfl rfl rfl rfl rfl hH k_G_2 (.inl ⟨by decide, rfl⟩) (fun G144 hH x144 e144 => ?_)
            have e129 := (x144.2 rd 8 lt_rd (fun h => (hi_ne k_rd k_G_2 (by decide)) h.1)).trans e129
            have r2 := (x144.2 rd 2 lt_rd (fun h => (hi_ne k_rd k_G_2 (by decide)) h.1)).trans r2
            have r6 := (x144.2 rd 6 lt_rd (fun h => (hi_ne k_rd k_G_2 (by decide)) h.1)).trans r6
            have r7 := (x144.2 rd 7 lt_rd (fun h => (hi_ne k_rd k_G_2 (by decide)) h.1)).trans r7
            have n1_13 := (x144.2 G.2 1 lt_G_2 (fun h => absurd h.2 (by decide))).trans n1_13
            have n2_13 := (x144.2 G.2 2 lt_G_2 (fun h => absurd h.2 (by decide))).trans n2_13
            have n3_13 := (x144.2 G.2 3 lt_G_2 (fun h => absurd h.2 (by decide))).trans n3_13
            have e78 := (x144.2 G.2 5 lt_G_2 (fun h => absurd h.2 (by decide))).trans e78
            have e19 := (x144.2 G.2 0 lt_G_2 (fun h => absurd h.2 (by decide))).trans e19
            have lt_rd := Nat.lt_of_lt_of_le lt_rd x144.1
            have lt_na := Nat.lt_of_lt_of_le lt_na x144.1
            have lt_G_2 := Nat.lt_of_lt_of_le lt_G_2 x144.1
            have hX := hX.tr x144 (fun b j hb h => by first | omega | (dsimp only at h ⊢; omega) | (dsimp only at h; omega) | (dsimp only; omega))
            have m144 := x144.1
            have htk := htk.xf hHo k_rd et_ex.rf x144 (fun a j hs => .inr (.inl (by have e := hs.1; rw [e]; exact k_G_2)))
            refine hs_aload (i := 4) (p := 149) (by decide +kernel) rfl ?_
            refine hf_get (T := et_TT) (t := 6) (ci := 4) (f := 4) (p := 152) (by decide +kernel) rfl hH k_G_2 e144 ?_
            refine hs_ifnonnull0 (p := 155) (by decide +kernel) ?_
            refine hs_aload (i := 0) (p := 156) (by decide +kernel) rfl ?_
            have hHo := hH
            refine ht_callv (T := et_TT) (t := 7) (mi := 76) (na := 0) (ci := 5) (lk := 6) (lm := 1) (L0 := eg_en (eg_mL 76) [.ref rd]) (by decide +kernel) rfl hH k_rd rfl rfl rfl rfl rfl (by rw [show eg_mL 76 = 1 from by decide +kernel]; first | done | rfl) ?_
            refine (fc_fail hH k_rd htk htl e129 (by omega) r2).mono (fun u hu => xw_cb hu (fun G156 v156 hH x156 hP156 => ?_))
            have e129 := (x156.2 rd 8 lt_rd (fun h => absurd h.2 (by decide))).trans e129
            have r6 := (x156.2 rd 6 lt_rd (fun h => absurd h.2 (by decide))).trans r6
            have r7 := (x156.2 rd 7 lt_rd (fun h => absurd h.2 (by decide))).trans r7
            have n1_13 := (x156.2 G.2 1 lt_G_2 (fun h => (hi_ne k_G_2 k_rd (by decide)) h.1)).trans n1_13
            have n2_13 := (x156.2 G.2 2 lt_G_2 (fun h => (hi_ne k_G_2 k_rd (by decide)) h.1)).trans n2_13
            have n3_13 := (x156.2 G.2 3 lt_G_2 (fun h => (hi_ne k_G_2 k_rd (by decide)) h.1)).trans n3_13
            have e144 := (x156.2 G.2 4 lt_G_2 (fun h => (hi_ne k_G_2 k_rd (by decide)) h.1)).trans e144
            have e78 := (x156.2 G.2 5 lt_G_2 (fun h => (hi_ne k_G_2 k_rd (by decide)) h.1)).trans e78
            have e19 := (x156.2 G.2 0 lt_G_2 (fun h => (hi_ne k_G_2 k_rd (by decide)) h.1)).trans e19
            have lt_rd := Nat.lt_of_lt_of_le lt_rd x156.1
            have lt_na := Nat.lt_of_lt_of_le lt_na x156.1
            have lt_G_2 := Nat.lt_of_lt_of_le lt_G_2 x156.1
            have hX := hX.tr x156 (fun b j hb h => by first | omega | (dsimp only at h ⊢; omega) | (dsimp only at h; omega) | (dsimp only; omega))
            have m156 := x156.1
            have htk := htk.xf hHo k_rd et_ex.rf x156 (fun a j hs => .inl (by first | omega | (dsimp only at hs; omega)))
            obtain ⟨rfl, q156, hq156, e156⟩ := hP156
            show et_go none _ 81 159 _ [.null] _ _ _ _
            refine hs_aretN (cn := "KnobEye$Node") (by decide +kernel) ?_
            refine ⟨_, _, _, _, _, rfl, hx0, hH, rx_out hX, ?_⟩
            rw [show sp_sum (L.drop x) = none from sp_many_0 (sp_part_2n hnn i108 w141)]
            exact ⟨rfl, _, (by omega), e156⟩
        · rw [if_neg i108]
          show et_go none _ 81 111 _ [.int (Int32.ofNat 0)] _ _ _ _
          refine hs_istore (i := 5) (p := 113) (by decide +kernel) (Nat.le_of_ble_eq_true rfl) ?_
          refine hs_aload (i := 0) (p := 114) (by decide +kernel) rfl ?_
          refine hs_dup1 (p := 115) (by decide +kernel) ?_
          refine hf_get (T := et_TT) (t := 7) (ci := 5) (f := 8) (p := 118) (by decide +kernel) rfl hH k_rd e101 ?_
          refine hs_iload (i := 5) (p := 120) (by decide +kernel) rfl ?_
          refine hs_if1 (c := .eq) (t := 127) (f := 123) (by decide +kernel) (show Int32.ofNat 0 = 0 by decide) ?_
          refine hs_k (x := Int32.ofNat 0) (p := 128) (by decide +kernel) ?_
          refine hs_iaddn (p := 129) (by decide +kernel) ?_
          have hHo := hH
          refine hf_put (T := et_TT) (t := 7) (ci := 5) (f := 8) (p := 132) (ty := .int) (by decide +kernel) rfl rfl rfl rfl rfl hH k_rd (hi_nv (by omega) (by omega)) (fun G129 hH x129 e129 => ?_)
          have r2 := (x129.2 rd 2 lt_rd (fun h => absurd h.2 (by decide))).trans r2
          have r6 := (x129.2 rd 6 lt_rd (fun h => absurd h.2 (by decide))).trans r6
          have r7 := (x129.2 rd 7 lt_rd (fun h => absurd h.2 (by decide))).trans r7
          have n1_13 := (x129.2 G.2 1 lt_G_2 (fun h => (hi_ne k_G_2 k_rd (by decide)) h.1)).trans n1_13
          have n2_13 := (x129.2 G.2 2 lt_G_2 (fun h => (hi_ne k_G_2 k_rd (by decide)) h.1)).trans n2_13
          have n3_13 := (x129.2 G.2 3 lt_G_2 (fun h => (hi_ne k_G_2 k_rd (by decide)) h.1)).trans n3_13
          have n4_13 := (x129.2 G.2 4 lt_G_2 (fun h => (hi_ne k_G_2 k_rd (by decide)) h.1)).trans n4_13
          have e78 := (x129.2 G.2 5 lt_G_2 (fun h => (hi_ne k_G_2 k_rd (by decide)) h.1)).trans e78
          have e19 := (x129.2 G.2 0 lt_G_2 (fun h => (hi_ne k_G_2 k_rd (by decide)) h.1)).trans e19
          have lt_rd := Nat.lt_of_lt_of_le lt_rd x129.1
          have lt_na := Nat.lt_of_lt_of_le lt_na x129.1
          have lt_G_2 := Nat.lt_of_lt_of_le lt_G_2 x129.1
          have hX := hX.tr x129 (fun b j hb h => by first | omega | (dsimp only at h ⊢; omega) | (dsimp only at h; omega) | (dsimp only; omega))
          have m129 := x129.1
          have htk := htk.xf hHo k_rd et_ex.rf x129 (fun a j hs => .inl (by first | omega | (dsimp only at hs; omega)))
          have e129 : et_pl (eg_at G129 rd) 8 = some (.int (Int32.ofNat (x + 1))) := e129
          refine hs_iload (i := 5) (p := 134) (by decide +kernel) rfl ?_
          refine hs_if1 (c := .eq) (t := 195) (f := 137) (by decide +kernel) (show Int32.ofNat 0 = 0 by decide) ?_
          refine hs_aload0 (i := 2) (p := 196) (by decide +kernel) rfl ?_
          refine hs_ifnonnull0 (p := 199) (by decide +kernel) ?_
          refine hs_aload (i := 4) (p := 201) (by decide +kernel) rfl ?_
          refine hs_astore (i := 1) (p := 202) (by decide +kernel) (Nat.le_of_ble_eq_true rfl) ?_
          refine hs_goto (p := 211) (by decide +kernel) ?_
          refine hs_aload (i := 4) (p := 213) (by decide +kernel) rfl ?_
          refine hs_astore (i := 2) (p := 214) (by decide +kernel) (Nat.le_of_ble_eq_true rfl) ?_
          have hI := sI.one (lo := G.2) (hi := G129.2) n1_13 ⟨by omega, lt_G_2⟩ (⟨vv, hvv, e78, .inl ⟨n4_13, rfl⟩⟩)
          refine hs_aload (i := 0) (p := 215) (by decide +kernel) rfl ?_
          refine hs_gst (v := Value.ref 27) (p := 218) (by decide +kernel) ?_
          refine ht_callv (T := et_TT) (t := 7) (mi := 78) (na := 1) (ci := 5) (lk := 6) (lm := 2) (L0 := eg_en (eg_mL 78) [.ref rd, .ref 27]) (by decide +kernel) rfl hH k_rd rfl rfl rfl rfl rfl (by rw [show eg_mL 78 = 2 from by decide +kernel]; first | done | rfl) ?_
          refine (fc_is hH k_rd htk htl e129 (by omega) (wd := 27) (by decide)).mono (fun u hu => xp_cb hu ?_)
          by_cases i218 : wat L (x + 1) = 27
          · rw [if_pos i218]
            have il218 : (x + 1) < L.length := wat_i (by rw [i218]; decide)
            show et_go none _ 81 221 _ [.int (Int32.ofNat 1)] _ _ _ _
            refine hs_if1 (c := .ne) (t := 227) (f := 224) (by decide +kernel) (show ¬ Int32.ofNat 1 = 0 by decide) ?_
            refine hs_aload (i := 0) (p := 228) (by decide +kernel) rfl ?_
            refine hs_dup1 (p := 229) (by decide +kernel) ?_
            refine hf_get (T := et_TT) (t := 7) (ci := 5) (f := 8) (p := 232) (by decide +kernel) rfl hH k_rd e129 ?_
            refine hs_k (x := Int32.ofNat 1) (p := 233) (by decide +kernel) ?_
            refine hs_iaddn (p := 234) (by decide +kernel) ?_
            have hHo := hH
            refine hf_put (T := et_TT) (t := 7) (ci := 5) (f := 8) (p := 237) (ty := .int) (by decide +kernel) rfl rfl rfl rfl rfl hH k_rd (hi_nv (by omega) (by omega)) (fun G234 hH x234 e234 => ?_)
            have r2 := (x234.2 rd 2 lt_rd (fun h => absurd h.2 (by decide))).trans r2
            have r6 := (x234.2 rd 6 lt_rd (fun h => absurd h.2 (by decide))).trans r6
            have r7 := (x234.2 rd 7 lt_rd (fun h => absurd h.2 (by decide))).trans r7
            have n1_13 := (x234.2 G.2 1 lt_G_2 (fun h => (hi_ne k_G_2 k_rd (by decide)) h.1)).trans n1_13
            have n2_13 := (x234.2 G.2 2 lt_G_2 (fun h => (hi_ne k_G_2 k_rd (by decide)) h.1)).trans n2_13
            have n3_13 := (x234.2 G.2 3 lt_G_2 (fun h => (hi_ne k_G_2 k_rd (by decide)) h.1)).trans n3_13
            have n4_13 := (x234.2 G.2 4 lt_G_2 (fun h => (hi_ne k_G_2 k_rd (by decide)) h.1)).trans n4_13
            have e78 := (x234.2 G.2 5 lt_G_2 (fun h => (hi_ne k_G_2 k_rd (by decide)) h.1)).trans e78
            have e19 := (x234.2 G.2 0 lt_G_2 (fun h => (hi_ne k_G_2 k_rd (by decide)) h.1)).trans e19
            have lt_rd := Nat.lt_of_lt_of_le lt_rd x234.1
            have lt_na := Nat.lt_of_lt_of_le lt_na x234.1
            have lt_G_2 := Nat.lt_of_lt_of_le lt_G_2 x234.1
            have hX := hX.tr x234 (fun b j hb h => by first | omega | (dsimp only at h ⊢; omega) | (dsimp only at h; omega) | (dsimp only; omega))
            have m234 := x234.1
            have htk := htk.xf hHo k_rd et_ex.rf x234 (fun a j hs => .inl (by first | omega | (dsimp only at hs; omega)))
            have hI := hI.fr (x234.agf (lo := G.2) (hi := G129.2) (by omega) (fun a j h1 h2 hs => by first | omega | (dsimp only at hs; omega)))
            have e234 : et_pl (eg_at G234 rd) 8 = some (.int (Int32.ofNat (x + 2))) := e234
            refine hs_iinc1 (i := 3) (p := 240) (by decide +kernel) rfl (Nat.le_of_ble_eq_true rfl) ?_
            refine hs_goto (p := 6) (by decide +kernel) ?_
            rw [show sp_sum (L.drop x) = sp_lp sp_part 27 (fun f g e => f e + g e) 499 _ (L.drop (x + 2)) from sp_many_y (sp_part_1 hnn i108) i218 (by decide)]
            show et_go none _ 81 6 [some (.ref rd), some (.ref G.2), some (.ref G.2), some (.int (Int32.ofNat (0 + 1))), some (.ref G.2), some (.int (Int32.ofNat 0))] [] _ _ _ _
            exact fn_sum (K0 := K) (G0 := G) (i := 0 + 1) hH hx0 hX k_rd htk htl e234 (by omega) r2 lr0 (by omega) k_G_2 k_G_2 hI (by omega) n1_13 (by omega) (by omega) (by omega) (by omega)
          · rw [if_neg i218]
            show et_go none _ 81 221 _ [.int (Int32.ofNat 0)] _ _ _ _
            refine hs_if0 (c := .ne) (t := 227) (f := 224) (by decide +kernel) (show ¬ (¬ Int32.ofNat 0 = 0) by decide) ?_
            refine hs_goto (p := 243) (by decide +kernel) ?_
            refine hs_aload (i := 1) (p := 244) (by decide +kernel) rfl ?_
            refine hs_aret (cn := "KnobEye$Node") (by decide +kernel) ?_
            have lo_a := hI.bd
            refine ⟨_, _, _, _, _, rfl, hx0, hH, rx_out hX, ?_⟩
            rw [show sp_sum (L.drop x) = some (_, L.drop (x + 1)) from sp_many_n (sp_part_1 hnn i108) i218]
            exact ⟨(x + 1), _, rfl, (by omega), (by omega), e129, r2, rfl, k_G_2, ⟨hI.sm.wk (Nat.le_refl _) (by omega), lo_a.2.2.1⟩⟩
  · rw [if_neg i34]
    show et_go none _ 81 37 _ [.int (Int32.ofNat 0)] _ _ _ _
    refine hs_if0 (c := .ne) (t := 44) (f := 40) (by decide +kernel) (show ¬ (¬ Int32.ofNat 0 = 0) by decide) ?_
    refine hs_k (x := Int32.ofNat 1) (p := 41) (by decide +kernel) ?_
    refine hs_goto (p := 45) (by decide +kernel) ?_
    refine hs_istore (i := 5) (p := 47) (by decide +kernel) (Nat.le_of_ble_eq_true rfl) ?_
    refine hs_iload (i := 5) (p := 49) (by decide +kernel) rfl ?_
    refine hs_if1 (c := .ne) (t := 132) (f := 52) (by decide +kernel) (show ¬ Int32.ofNat 1 = 0 by decide) ?_
    refine hs_iload (i := 5) (p := 134) (by decide +kernel) rfl ?_
    refine hs_if0 (c := .eq) (t := 195) (f := 137) (by decide +kernel) (show ¬ (Int32.ofNat 1 = 0) by decide) ?_
    refine hs_aload (i := 4) (p := 139) (by decide +kernel) rfl ?_
    refine hs_aload (i := 0) (p := 140) (by decide +kernel) rfl ?_
    refine hs_k (x := Int32.ofNat 2) (p := 141) (by decide +kernel) ?_
    refine ht_callv (T := et_TT) (t := 7) (mi := 79) (na := 1) (ci := 5) (lk := 6) (lm := 2) (L0 := eg_en (eg_mL 79) [.ref rd, .int (Int32.ofNat 2)]) (by decide +kernel) rfl hH k_rd rfl rfl rfl rfl rfl (by rw [show eg_mL 79 = 2 from by decide +kernel]; first | done | rfl) ?_
    refine (fc_wh2 hH k_rd htk htl r8 (by omega)).mono (fun u hu => xp_cb hu ?_)
    by_cases w141 : sp_fw (wat L x) = true
    · rw [if_pos w141]
      obtain ⟨wn141, hwn, -⟩ := wat_t (L := L) (x := x) rfl (fun h => by rw [h] at w141; exact absurd w141 (by decide))
      have il141 : x < L.length := wat_i (fun h => by rw [h] at w141; exact absurd w141 (by decide))
      show et_go none _ 81 144 _ [.ref (wat L x), .ref G.2] _ _ _ _
      have hHo := hH
      refine hf_put (T := et_TT) (t := 6) (ci := 4) (f := 4) (p := 147) (ty := (.object "KnobEye$Word")) (by decide +kernel) rfl rfl rfl rfl rfl hH k_G_2 (.inr ⟨by decide, _, rfl, hH.2.1 _ (wat_lt htl)⟩) (fun G144 hH x144 e144 => ?_)
      have r8 := (x144.2 rd 8 lt_rd (fun h => (hi_ne k_rd k_G_2 (by decide)) h.1)).trans r8
      have r2 := (x144.2 rd 2 lt_rd (fun h => (hi_ne k_rd k_G_2 (by decide)) h.1)).trans r2
      have r6 := (x144.2 rd 6 lt_rd (fun h => (hi_ne k_rd k_G_2 (by decide)) h.1)).trans r6
      have r7 := (x144.2 rd 7 lt_rd (fun h => (hi_ne k_rd k_G_2 (by decide)) h.1)).trans r7
      have n1_13 := (x144.2 G.2 1 lt_G_2 (fun h => absurd h.2 (by decide))).trans n1_13
      have n2_13 := (x144.2 G.2 2 lt_G_2 (fun h => absurd h.2 (by decide))).trans n2_13
      have n3_13 := (x144.2 G.2 3 lt_G_2 (fun h => absurd h.2 (by decide))).trans n3_13
      have e27 := (x144.2 G.2 5 lt_G_2 (fun h => absurd h.2 (by decide))).trans e27
      have e19 := (x144.2 G.2 0 lt_G_2 (fun h => absurd h.2 (by decide))).trans e19
      have lt_rd := Nat.lt_of_lt_of_le lt_rd x144.1
      have lt_na := Nat.lt_of_lt_of_le lt_na x144.1
      have lt_G_2 := Nat.lt_of_lt_of_le lt_G_2 x144.1
      have hX := hX.tr x144 (fun b j hb h => by first | omega | (dsimp only at h ⊢; omega) | (dsimp only at h; omega) | (dsimp only; omega))
      have m144 := x144.1
      have htk := htk.xf hHo k_rd et_ex.rf x144 (fun a j hs => .inr (.inl (by have e := hs.1; rw [e]; exact k_G_2)))
      refine hs_aload (i := 4) (p := 149) (by decide +kernel) rfl ?_
      refine hf_get (T := et_TT) (t := 6) (ci := 4) (f := 4) (p := 152) (by decide +kernel) rfl hH k_G_2 e144 ?_
      refine hs_ifnonnull1 (p := 160) (by decide +kernel) ?_
      refine hs_aload (i := 0) (p := 161) (by decide +kernel) rfl ?_
      refine hs_dup1 (p := 162) (by decide +kernel) ?_
      refine ht_getn (T := et_TT) (t := 7) (ci := 5) (f := 3) (p := 165) (by decide +kernel) rfl rfl hH k_rd (fun c162 h162 e162 => ?_)
      refine hs_aload (i := 4) (p := 167) (by decide +kernel) rfl ?_
      refine hf_get (T := et_TT) (t := 6) (ci := 4) (f := 4) (p := 170) (by decide +kernel) rfl hH k_G_2 e144 ?_
      refine hs_gst (v := Value.ref 17) (p := 173) (by decide +kernel) ?_
      refine hf_acm (c := .ne) (tt := 180) (ff := 176) (by decide +kernel) (hi_ca hH (hH.2.1 _ (wat_lt htl)) (.inl rfl)) (by decide +kernel) (fun (q173 : ¬ Value.ref (wat L x) = .ref 17) => ?_) (fun (q173 : ¬ ¬ Value.ref (wat L x) = .ref 17) => ?_)
      · have q173 : ¬ (wat L x) = 17 := fun h => q173 (by rw [h])
        refine hs_k (x := Int32.ofNat 0) (p := 181) (by decide +kernel) ?_
        refine hs_ior (p := 182) (by decide +kernel) ?_
        obtain ⟨m181, hm181, hq181⟩ := hi_or (a := c162) (b := 0) (by omega) (by omega)
        rw [hq181]
        have hHo := hH
        refine hf_put (T := et_TT) (t := 7) (ci := 5) (f := 3) (p := 185) (ty := .boolean) (by decide +kernel) rfl rfl rfl (hi_fz (by omega)) rfl hH k_rd (hi_nv (by omega) (by omega)) (fun G182 hH x182 e182 => ?_)
        have r8 := (x182.2 rd 8 lt_rd (fun h => absurd h.2 (by decide))).trans r8
        have r2 := (x182.2 rd 2 lt_rd (fun h => absurd h.2 (by decide))).trans r2
        have r6 := (x182.2 rd 6 lt_rd (fun h => absurd h.2 (by decide))).trans r6
        have r7 := (x182.2 rd 7 lt_rd (fun h => absurd h.2 (by decide))).trans r7
        have n1_13 := (x182.2 G.2 1 lt_G_2 (fun h => (hi_ne k_G_2 k_rd (by decide)) h.1)).trans n1_13
        have n2_13 := (x182.2 G.2 2 lt_G_2 (fun h => (hi_ne k_G_2 k_rd (by decide)) h.1)).trans n2_13
        have n3_13 := (x182.2 G.2 3 lt_G_2 (fun h => (hi_ne k_G_2 k_rd (by decide)) h.1)).trans n3_13
        have e144 := (x182.2 G.2 4 lt_G_2 (fun h => (hi_ne k_G_2 k_rd (by decide)) h.1)).trans e144
        have e27 := (x182.2 G.2 5 lt_G_2 (fun h => (hi_ne k_G_2 k_rd (by decide)) h.1)).trans e27
        have e19 := (x182.2 G.2 0 lt_G_2 (fun h => (hi_ne k_G_2 k_rd (by decide)) h.1)).trans e19
        have lt_rd := Nat.lt_of_lt_of_le lt_rd x182.1
        have lt_na := Nat.lt_of_lt_of_le lt_na x182.1
        have lt_G_2 := Nat.lt_of_lt_of_le lt_G_2 x182.1
        have hX := hX.tr x182 (fun b j hb h => by first | omega | (dsimp only at h ⊢; omega) | (dsimp only at h; omega) | (dsimp only; omega))
        have m182 := x182.1
        have htk := htk.xf hHo k_rd et_ex.rf x182 (fun a j hs => .inl (by first | omega | (dsimp only at hs; omega)))
        refine hs_aload (i := 0) (p := 186) (by decide +kernel) rfl ?_
        refine hs_dup1 (p := 187) (by decide +kernel) ?_
        refine hf_get (T := et_TT) (t := 7) (ci := 5) (f := 8) (p := 190) (by decide +kernel) rfl hH k_rd r8 ?_
        refine hs_k (x := Int32.ofNat 1) (p := 191) (by decide +kernel) ?_
        refine hs_iaddn (p := 192) (by decide +kernel) ?_
        have hHo := hH
        refine hf_put (T := et_TT) (t := 7) (ci := 5) (f := 8) (p := 195) (ty := .int) (by decide +kernel) rfl rfl rfl rfl rfl hH k_rd (hi_nv (by omega) (by omega)) (fun G192 hH x192 e192 => ?_)
        have r2 := (x192.2 rd 2 lt_rd (fun h => absurd h.2 (by decide))).trans r2
        have r6 := (x192.2 rd 6 lt_rd (fun h => absurd h.2 (by decide))).trans r6
        have r7 := (x192.2 rd 7 lt_rd (fun h => absurd h.2 (by decide))).trans r7
        have n1_13 := (x192.2 G.2 1 lt_G_2 (fun h => (hi_ne k_G_2 k_rd (by decide)) h.1)).trans n1_13
        have n2_13 := (x192.2 G.2 2 lt_G_2 (fun h => (hi_ne k_G_2 k_rd (by decide)) h.1)).trans n2_13
        have n3_13 := (x192.2 G.2 3 lt_G_2 (fun h => (hi_ne k_G_2 k_rd (by decide)) h.1)).trans n3_13
        have e144 := (x192.2 G.2 4 lt_G_2 (fun h => (hi_ne k_G_2 k_rd (by decide)) h.1)).trans e144
        have e27 := (x192.2 G.2 5 lt_G_2 (fun h => (hi_ne k_G_2 k_rd (by decide)) h.1)).trans e27
        have e19 := (x192.2 G.2 0 lt_G_2 (fun h => (hi_ne k_G_2 k_rd (by decide)) h.1)).trans e19
        have e182 := (x192.2 rd 3 lt_rd (fun h => absurd h.2 (by decide))).trans e182
        have lt_rd := Nat.lt_of_lt_of_le lt_rd x192.1
        have lt_na := Nat.lt_of_lt_of_le lt_na x192.1
        have lt_G_2 := Nat.lt_of_lt_of_le lt_G_2 x192.1
        have hX := hX.tr x192 (fun b j hb h => by first | omega | (dsimp only at h ⊢; omega) | (dsimp only at h; omega) | (dsimp only; omega))
        have m192 := x192.1
        have htk := htk.xf hHo k_rd et_ex.rf x192 (fun a j hs => .inl (by first | omega | (dsimp only at hs; omega)))
        have e192 : et_pl (eg_at G192 rd) 8 = some (.int (Int32.ofNat (x + 1))) := e192
        refine hs_aload0 (i := 2) (p := 196) (by decide +kernel) rfl ?_
        refine hs_ifnonnull0 (p := 199) (by decide +kernel) ?_
        refine hs_aload (i := 4) (p := 201) (by decide +kernel) rfl ?_
        refine hs_astore (i := 1) (p := 202) (by decide +kernel) (Nat.le_of_ble_eq_true rfl) ?_
        refine hs_goto (p := 211) (by decide +kernel) ?_
        refine hs_aload (i := 4) (p := 213) (by decide +kernel) rfl ?_
        refine hs_astore (i := 2) (p := 214) (by decide +kernel) (Nat.le_of_ble_eq_true rfl) ?_
        have hI := sI.one (lo := G.2) (hi := G192.2) n1_13 ⟨by omega, lt_G_2⟩ (show pt G192 G.2 (fun e => e.1 (wat L x)) from ⟨1, by decide, e27, .inr ⟨_, w141, e144, funext (fun e => (Int64.one_mul _).symm)⟩⟩)
        refine hs_aload (i := 0) (p := 215) (by decide +kernel) rfl ?_
        refine hs_gst (v := Value.ref 27) (p := 218) (by decide +kernel) ?_
        refine ht_callv (T := et_TT) (t := 7) (mi := 78) (na := 1) (ci := 5) (lk := 6) (lm := 2) (L0 := eg_en (eg_mL 78) [.ref rd, .ref 27]) (by decide +kernel) rfl hH k_rd rfl rfl rfl rfl rfl (by rw [show eg_mL 78 = 2 from by decide +kernel]; first | done | rfl) ?_
        refine (fc_is hH k_rd htk htl e192 (by omega) (wd := 27) (by decide)).mono (fun u hu => xp_cb hu ?_)
        by_cases i218 : wat L (x + 1) = 27
        · rw [if_pos i218]
          have il218 : (x + 1) < L.length := wat_i (by rw [i218]; decide)
          show et_go none _ 81 221 _ [.int (Int32.ofNat 1)] _ _ _ _
          refine hs_if1 (c := .ne) (t := 227) (f := 224) (by decide +kernel) (show ¬ Int32.ofNat 1 = 0 by decide) ?_
          refine hs_aload (i := 0) (p := 228) (by decide +kernel) rfl ?_
          refine hs_dup1 (p := 229) (by decide +kernel) ?_
          refine hf_get (T := et_TT) (t := 7) (ci := 5) (f := 8) (p := 232) (by decide +kernel) rfl hH k_rd e192 ?_
          refine hs_k (x := Int32.ofNat 1) (p := 233) (by decide +kernel) ?_
          refine hs_iaddn (p := 234) (by decide +kernel) ?_
          have hHo := hH
          refine hf_put (T := et_TT) (t := 7) (ci := 5) (f := 8) (p := 237) (ty := .int) (by decide +kernel) rfl rfl rfl rfl rfl hH k_rd (hi_nv (by omega) (by omega)) (fun G234 hH x234 e234 => ?_)
          have r2 := (x234.2 rd 2 lt_rd (fun h => absurd h.2 (by decide))).trans r2
          have r6 := (x234.2 rd 6 lt_rd (fun h => absurd h.2 (by decide))).trans r6
          have r7 := (x234.2 rd 7 lt_rd (fun h => absurd h.2 (by decide))).trans r7
          have n1_13 := (x234.2 G.2 1 lt_G_2 (fun h => (hi_ne k_G_2 k_rd (by decide)) h.1)).trans n1_13
          have n2_13 := (x234.2 G.2 2 lt_G_2 (fun h => (hi_ne k_G_2 k_rd (by decide)) h.1)).trans n2_13
          have n3_13 := (x234.2 G.2 3 lt_G_2 (fun h => (hi_ne k_G_2 k_rd (by decide)) h.1)).trans n3_13
          have e144 := (x234.2 G.2 4 lt_G_2 (fun h => (hi_ne k_G_2 k_rd (by decide)) h.1)).trans e144
          have e27 := (x234.2 G.2 5 lt_G_2 (fun h => (hi_ne k_G_2 k_rd (by decide)) h.1)).trans e27
          have e19 := (x234.2 G.2 0 lt_G_2 (fun h => (hi_ne k_G_2 k_rd (by decide)) h.1)).trans e19
          have e182 := (x234.2 rd 3 lt_rd (fun h => absurd h.2 (by decide))).trans e182
          have lt_rd := Nat.lt_of_lt_of_le lt_rd x234.1
          have lt_na := Nat.lt_of_lt_of_le lt_na x234.1
          have lt_G_2 := Nat.lt_of_lt_of_le lt_G_2 x234.1
          have hX := hX.tr x234 (fun b j hb h => by first | omega | (dsimp only at h ⊢; omega) | (dsimp only at h; omega) | (dsimp only; omega))
          have m234 := x234.1
          have htk := htk.xf hHo k_rd et_ex.rf x234 (fun a j hs => .inl (by first | omega | (dsimp only at hs; omega)))
          have hI := hI.fr (x234.agf (lo := G.2) (hi := G192.2) (by omega) (fun a j h1 h2 hs => by first | omega | (dsimp only at hs; omega)))
          have e234 : et_pl (eg_at G234 rd) 8 = some (.int (Int32.ofNat (x + 2))) := e234
          refine hs_iinc1 (i := 3) (p := 240) (by decide +kernel) rfl (Nat.le_of_ble_eq_true rfl) ?_
          refine hs_goto (p := 6) (by decide +kernel) ?_
          rw [show sp_sum (L.drop x) = sp_lp sp_part 27 (fun f g e => f e + g e) 499 _ (L.drop (x + 2)) from sp_many_y (sp_part_3 i34 w141) i218 (by decide)]
          show et_go none _ 81 6 [some (.ref rd), some (.ref G.2), some (.ref G.2), some (.int (Int32.ofNat (0 + 1))), some (.ref G.2), some (.int (Int32.ofNat 1))] [] _ _ _ _
          exact fn_sum (K0 := K) (G0 := G) (i := 0 + 1) hH hx0 hX k_rd htk htl e234 (by omega) r2 lr0 (by omega) k_G_2 k_G_2 hI (by omega) n1_13 (by omega) (by omega) (by omega) (by omega)
        · rw [if_neg i218]
          show et_go none _ 81 221 _ [.int (Int32.ofNat 0)] _ _ _ _
          refine hs_if0 (c := .ne) (t := 227) (f := 224) (by decide +kernel) (show ¬ (¬ Int32.ofNat 0 = 0) by decide) ?_
          refine hs_goto (p := 243) (by decide +kernel) ?_
          refine hs_aload (i := 1) (p := 244) (by decide +kernel) rfl ?_
          refine hs_aret (cn := "KnobEye$Node") (by decide +kernel) ?_
          have lo_a := hI.bd
          refine ⟨_, _, _, _, _, rfl, hx0, hH, rx_out hX, ?_⟩
          rw [show sp_sum (L.drop x) = some (_, L.drop (x + 1)) from sp_many_n (sp_part_3 i34 w141) i218]
          exact ⟨(x + 1), _, rfl, (by omega), (by omega), e192, r2, rfl, k_G_2, ⟨hI.sm.wk (Nat.le_refl _) (by omega), lo_a.2.2.1⟩⟩
      · have q173 : (wat L x) = 17 := Value.ref.inj (Decidable.of_not_not q173)
        refine hs_k (x := Int32.ofNat 1) (p := 177) (by decide +kernel) ?_
        refine hs_goto (p := 181) (by decide +kernel) ?_
        refine hs_ior (p := 182) (by decide +kernel) ?_
        obtain ⟨m181, hm181, hq181⟩ := hi_or (a := c162) (b := 1) (by omega) (by omega)
        rw [hq181]
        have hHo := hH
        refine hf_put (T := et_TT) (t := 7) (ci := 5) (f := 3) (p := 185) (ty := .boolean) (by decide +kernel) rfl rfl rfl (hi_fz (by omega)) rfl hH k_rd (hi_nv (by omega) (by omega)) (fun G182 hH x182 e182 => ?_)
        have r8 := (x182.2 rd 8 lt_rd (fun h => absurd h.2 (by decide))).trans r8
        have r2 := (x182.2 rd 2 lt_rd (fun h => absurd h.2 (by decide))).trans r2
        have r6 := (x182.2 rd 6 lt_rd (fun h => absurd h.2 (by decide))).trans r6
        have r7 := (x182.2 rd 7 lt_rd (fun h => absurd h.2 (by decide))).trans r7
        have n1_13 := (x182.2 G.2 1 lt_G_2 (fun h => (hi_ne k_G_2 k_rd (by decide)) h.1)).trans n1_13
        have n2_13 := (x182.2 G.2 2 lt_G_2 (fun h => (hi_ne k_G_2 k_rd (by decide)) h.1)).trans n2_13
        have n3_13 := (x182.2 G.2 3 lt_G_2 (fun h => (hi_ne k_G_2 k_rd (by decide)) h.1)).trans n3_13
        have e144 := (x182.2 G.2 4 lt_G_2 (fun h => (hi_ne k_G_2 k_rd (by decide)) h.1)).trans e144
        have e27 := (x182.2 G.2 5 lt_G_2 (fun h => (hi_ne k_G_2 k_rd (by decide)) h.1)).trans e27
        have e19 := (x182.2 G.2 0 lt_G_2 (fun h => (hi_ne k_G_2 k_rd (by decide)) h.1)).trans e19
        have lt_rd := Nat.lt_of_lt_of_le lt_rd x182.1
        have lt_na := Nat.lt_of_lt_of_le lt_na x182.1
        have lt_G_2 := Nat.lt_of_lt_of_le lt_G_2 x182.1
        have hX := hX.tr x182 (fun b j hb h => by first | omega | (dsimp only at h ⊢; omega) | (dsimp only at h; omega) | (dsimp only; omega))
        have m182 := x182.1
        have htk := htk.xf hHo k_rd et_ex.rf x182 (fun a j hs => .inl (by first | omega | (dsimp only at hs; omega)))
        refine hs_aload (i := 0) (p := 186) (by decide +kernel) rfl ?_
        refine hs_dup1 (p := 187) (by decide +kernel) ?_
        refine hf_get (T := et_TT) (t := 7) (ci := 5) (f := 8) (p := 190) (by decide +kernel) rfl hH k_rd r8 ?_
        refine hs_k (x := Int32.ofNat 1) (p := 191) (by decide +kernel) ?_
        refine hs_iaddn (p := 192) (by decide +kernel) ?_
        have hHo := hH
        refine hf_put (T := et_TT) (t := 7) (ci := 5) (f := 8) (p := 195) (ty := .int) (by decide +kernel) rfl rfl rfl rfl rfl hH k_rd (hi_nv (by omega) (by omega)) (fun G192 hH x192 e192 => ?_)
        have r2 := (x192.2 rd 2 lt_rd (fun h => absurd h.2 (by decide))).trans r2
        have r6 := (x192.2 rd 6 lt_rd (fun h => absurd h.2 (by decide))).trans r6
        have r7 := (x192.2 rd 7 lt_rd (fun h => absurd h.2 (by decide))).trans r7
        have n1_13 := (x192.2 G.2 1 lt_G_2 (fun h => (hi_ne k_G_2 k_rd (by decide)) h.1)).trans n1_13
        have n2_13 := (x192.2 G.2 2 lt_G_2 (fun h => (hi_ne k_G_2 k_rd (by decide)) h.1)).trans n2_13
        have n3_13 := (x192.2 G.2 3 lt_G_2 (fun h => (hi_ne k_G_2 k_rd (by decide)) h.1)).trans n3_13
        have e144 := (x192.2 G.2 4 lt_G_2 (fun h => (hi_ne k_G_2 k_rd (by decide)) h.1)).trans e144
        have e27 := (x192.2 G.2 5 lt_G_2 (fun h => (hi_ne k_G_2 k_rd (by decide)) h.1)).trans e27
        have e19 := (x192.2 G.2 0 lt_G_2 (fun h => (hi_ne k_G_2 k_rd (by decide)) h.1)).trans e19
        have e182 := (x192.2 rd 3 lt_rd (fun h => absurd h.2 (by decide))).trans e182
        have lt_rd := Nat.lt_of_lt_of_le lt_rd x192.1
        have lt_na := Nat.lt_of_lt_of_le lt_na x192.1
        have lt_G_2 := Nat.lt_of_lt_of_le lt_G_2 x192.1
        have hX := hX.tr x192 (fun b j hb h => by first | omega | (dsimp only at h ⊢; omega) | (dsimp only at h; omega) | (dsimp only; omega))
        have m192 := x192.1
        have htk := htk.xf hHo k_rd et_ex.rf x192 (fun a j hs => .inl (by first | omega | (dsimp only at hs; omega)))
        have e192 : et_pl (eg_at G192 rd) 8 = some (.int (Int32.ofNat (x + 1))) := e192
        refine hs_aload0 (i := 2) (p := 196) (by decide +kernel) rfl ?_
        refine hs_ifnonnull0 (p := 199) (by decide +kernel) ?_
        refine hs_aload (i := 4) (p := 201) (by decide +kernel) rfl ?_
        refine hs_astore (i := 1) (p := 202) (by decide +kernel) (Nat.le_of_ble_eq_true rfl) ?_
        refine hs_goto (p := 211) (by decide +kernel) ?_
        refine hs_aload (i := 4) (p := 213) (by decide +kernel) rfl ?_
        refine hs_astore (i := 2) (p := 214) (by decide +kernel) (Nat.le_of_ble_eq_true rfl) ?_
        have hI := sI.one (lo := G.2) (hi := G192.2) n1_13 ⟨by omega, lt_G_2⟩ (show pt G192 G.2 (fun e => e.1 (wat L x)) from ⟨1, by decide, e27, .inr ⟨_, w141, e144, funext (fun e => (Int64.one_mul _).symm)⟩⟩)
        refine hs_aload (i := 0) (p := 215) (by decide +kernel) rfl ?_
        refine hs_gst (v := Value.ref 27) (p := 218) (by decide +kernel) ?_
        refine ht_callv (T := et_TT) (t := 7) (mi := 78) (na := 1) (ci := 5) (lk := 6) (lm := 2) (L0 := eg_en (eg_mL 78) [.ref rd, .ref 27]) (by decide +kernel) rfl hH k_rd rfl rfl rfl rfl rfl (by rw [show eg_mL 78 = 2 from by decide +kernel]; first | done | rfl) ?_
        refine (fc_is hH k_rd htk htl e192 (by omega) (wd := 27) (by decide)).mono (fun u hu => xp_cb hu ?_)
        by_cases i218 : wat L (x + 1) = 27
        · rw [if_pos i218]
          have il218 : (x + 1) < L.length := wat_i (by rw [i218]; decide)
          show et_go none _ 81 221 _ [.int (Int32.ofNat 1)] _ _ _ _
          refine hs_if1 (c := .ne) (t := 227) (f := 224) (by decide +kernel) (show ¬ Int32.ofNat 1 = 0 by decide) ?_
          refine hs_aload (i := 0) (p := 228) (by decide +kernel) rfl ?_
          refine hs_dup1 (p := 229) (by decide +kernel) ?_
          refine hf_get (T := et_TT) (t := 7) (ci := 5) (f := 8) (p := 232) (by decide +kernel) rfl hH k_rd e192 ?_
          refine hs_k (x := Int32.ofNat 1) (p := 233) (by decide +kernel) ?_
          refine hs_iaddn (p := 234) (by decide +kernel) ?_
          have hHo := hH
          refine hf_put (T := et_TT) (t := 7) (ci := 5) (f := 8) (p := 237) (ty := .int) (by decide +kernel) rfl rfl rfl rfl rfl hH k_rd (hi_nv (by omega) (by omega)) (fun G234 hH x234 e234 => ?_)
          have r2 := (x234.2 rd 2 lt_rd (fun h => absurd h.2 (by decide))).trans r2
          have r6 := (x234.2 rd 6 lt_rd (fun h => absurd h.2 (by decide))).trans r6
          have r7 := (x234.2 rd 7 lt_rd (fun h => absurd h.2 (by decide))).trans r7
          have n1_13 := (x234.2 G.2 1 lt_G_2 (fun h => (hi_ne k_G_2 k_rd (by decide)) h.1)).trans n1_13
          have n2_13 := (x234.2 G.2 2 lt_G_2 (fun h => (hi_ne k_G_2 k_rd (by decide)) h.1)).trans n2_13
          have n3_13 := (x234.2 G.2 3 lt_G_2 (fun h => (hi_ne k_G_2 k_rd (by decide)) h.1)).trans n3_13
          have e144 := (x234.2 G.2 4 lt_G_2 (fun h => (hi_ne k_G_2 k_rd (by decide)) h.1)).trans e144
          have e27 := (x234.2 G.2 5 lt_G_2 (fun h => (hi_ne k_G_2 k_rd (by decide)) h.1)).trans e27
          have e19 := (x234.2 G.2 0 lt_G_2 (fun h => (hi_ne k_G_2 k_rd (by decide)) h.1)).trans e19
          have e182 := (x234.2 rd 3 lt_rd (fun h => absurd h.2 (by decide))).trans e182
          have lt_rd := Nat.lt_of_lt_of_le lt_rd x234.1
          have lt_na := Nat.lt_of_lt_of_le lt_na x234.1
          have lt_G_2 := Nat.lt_of_lt_of_le lt_G_2 x234.1
          have hX := hX.tr x234 (fun b j hb h => by first | omega | (dsimp only at h ⊢; omega) | (dsimp only at h; omega) | (dsimp only; omega))
          have m234 := x234.1
          have htk := htk.xf hHo k_rd et_ex.rf x234 (fun a j hs => .inl (by first | omega | (dsimp only at hs; omega)))
          have hI := hI.fr (x234.agf (lo := G.2) (hi := G192.2) (by omega) (fun a j h1 h2 hs => by first | omega | (dsimp only at hs; omega)))
          have e234 : et_pl (eg_at G234 rd) 8 = some (.int (Int32.ofNat (x + 2))) := e234
          refine hs_iinc1 (i := 3) (p := 240) (by decide +kernel) rfl (Nat.le_of_ble_eq_true rfl) ?_
          refine hs_goto (p := 6) (by decide +kernel) ?_
          rw [show sp_sum (L.drop x) = sp_lp sp_part 27 (fun f g e => f e + g e) 499 _ (L.drop (x + 2)) from sp_many_y (sp_part_3 i34 w141) i218 (by decide)]
          show et_go none _ 81 6 [some (.ref rd), some (.ref G.2), some (.ref G.2), some (.int (Int32.ofNat (0 + 1))), some (.ref G.2), some (.int (Int32.ofNat 1))] [] _ _ _ _
          exact fn_sum (K0 := K) (G0 := G) (i := 0 + 1) hH hx0 hX k_rd htk htl e234 (by omega) r2 lr0 (by omega) k_G_2 k_G_2 hI (by omega) n1_13 (by omega) (by omega) (by omega) (by omega)
        · rw [if_neg i218]
          show et_go none _ 81 221 _ [.int (Int32.ofNat 0)] _ _ _ _
          refine hs_if0 (c := .ne) (t := 227) (f := 224) (by decide +kernel) (show ¬ (¬ Int32.ofNat 0 = 0) by decide) ?_
          refine hs_goto (p := 243) (by decide +kernel) ?_
          refine hs_aload (i := 1) (p := 244) (by decide +kernel) rfl ?_
          refine hs_aret (cn := "KnobEye$Node") (by decide +kernel) ?_
          have lo_a := hI.bd
          refine ⟨_, _, _, _, _, rfl, hx0, hH, rx_out hX, ?_⟩
          rw [show sp_sum (L.drop x) = some (_, L.drop (x + 1)) from sp_many_n (sp_part_3 i34 w141) i218]
          exact ⟨(x + 1), _, rfl, (by omega), (by omega), e192, r2, rfl, k_G_2, ⟨hI.sm.wk (Nat.le_refl _) (by omega), lo_a.2.2.1⟩⟩
    · rw [if_neg w141]
      show et_go none _ 81 144 _ [.null, .ref G.2] _ _ _ _
      have hHo := hH
      refine hf_put (T := et_TT) (t := 6) (ci := 4) (f := 4) (p := 147) (ty := (.object "KnobEye$Word")) (by decide +kernel) rfl rfl rfl rfl rfl hH k_G_2 (.inl ⟨by decide, rfl⟩) (fun G144 hH x144 e144 => ?_)
      have r8 := (x144.2 rd 8 lt_rd (fun h => (hi_ne k_rd k_G_2 (by decide)) h.1)).trans r8
      have r2 := (x144.2 rd 2 lt_rd (fun h => (hi_ne k_rd k_G_2 (by decide)) h.1)).trans r2
      have r6 := (x144.2 rd 6 lt_rd (fun h => (hi_ne k_rd k_G_2 (by decide)) h.1)).trans r6
      have r7 := (x144.2 rd 7 lt_rd (fun h => (hi_ne k_rd k_G_2 (by decide)) h.1)).trans r7
      have n1_13 := (x144.2 G.2 1 lt_G_2 (fun h => absurd h.2 (by decide))).trans n1_13
      have n2_13 := (x144.2 G.2 2 lt_G_2 (fun h => absurd h.2 (by decide))).trans n2_13
      have n3_13 := (x144.2 G.2 3 lt_G_2 (fun h => absurd h.2 (by decide))).trans n3_13
      have e27 := (x144.2 G.2 5 lt_G_2 (fun h => absurd h.2 (by decide))).trans e27
      have e19 := (x144.2 G.2 0 lt_G_2 (fun h => absurd h.2 (by decide))).trans e19
      have lt_rd := Nat.lt_of_lt_of_le lt_rd x144.1
      have lt_na := Nat.lt_of_lt_of_le lt_na x144.1
      have lt_G_2 := Nat.lt_of_lt_of_le lt_G_2 x144.1
      have hX := hX.tr x144 (fun b j hb h => by first | omega | (dsimp only at h ⊢; omega) | (dsimp only at h; omega) | (dsimp only; omega))
      have m144 := x144.1
      have htk := htk.xf hHo k_rd et_ex.rf x144 (fun a j hs => .inr (.inl (by have e := hs.1; rw [e]; exact k_G_2)))
      refine hs_aload (i := 4) (p := 149) (by decide +kernel) rfl ?_
      refine hf_get (T := et_TT) (t := 6) (ci := 4) (f := 4) (p := 152) (by decide +kernel) rfl hH k_G_2 e144 ?_
      refine hs_ifnonnull0 (p := 155) (by decide +kernel) ?_
      refine hs_aload (i := 0) (p := 156) (by decide +kernel) rfl ?_
      have hHo := hH
      refine ht_callv (T := et_TT) (t := 7) (mi := 76) (na := 0) (ci := 5) (lk := 6) (lm := 1) (L0 := eg_en (eg_mL 76) [.ref rd]) (by decide +kernel) rfl hH k_rd rfl rfl rfl rfl rfl (by rw [show eg_mL 76 = 1 from by decide +kernel]; first | done | rfl) ?_
      refine (fc_fail hH k_rd htk htl r8 (by omega) r2).mono (fun u hu => xw_cb hu (fun G156 v156 hH x156 hP156 => ?_))
      have r8 := (x156.2 rd 8 lt_rd (fun h => absurd h.2 (by decide))).trans r8
      have r6 := (x156.2 rd 6 lt_rd (fun h => absurd h.2 (by decide))).trans r6
      have r7 := (x156.2 rd 7 lt_rd (fun h => absurd h.2 (by decide))).trans r7
      have n1_13 := (x156.2 G.2 1 lt_G_2 (fun h => (hi_ne k_G_2 k_rd (by decide)) h.1)).trans n1_13
      have n2_13 := (x156.2 G.2 2 lt_G_2 (fun h => (hi_ne k_G_2 k_rd (by decide)) h.1)).trans n2_13
      have n3_13 := (x156.2 G.2 3 lt_G_2 (fun h => (hi_ne k_G_2 k_rd (by decide)) h.1)).trans n3_13
      have e144 := (x156.2 G.2 4 lt_G_2 (fun h => (hi_ne k_G_2 k_rd (by decide)) h.1)).trans e144
      have e27 := (x156.2 G.2 5 lt_G_2 (fun h => (hi_ne k_G_2 k_rd (by decide)) h.1)).trans e27
      have e19 := (x156.2 G.2 0 lt_G_2 (fun h => (hi_ne k_G_2 k_rd (by decide)) h.1)).trans e19
      have lt_rd := Nat.lt_of_lt_of_le lt_rd x156.1
      have lt_na := Nat.lt_of_lt_of_le lt_na x156.1
      have lt_G_2 := Nat.lt_of_lt_of_le lt_G_2 x156.1
      have hX := hX.tr x156 (fun b j hb h => by first | omega | (dsimp only at h ⊢; omega) | (dsimp only at h; omega) | (dsimp only; omega))
      have m156 := x156.1
      have htk := htk.xf hHo k_rd et_ex.rf x156 (fun a j hs => .inl (by first | omega | (dsimp only at hs; omega)))
      obtain ⟨rfl, q156, hq156, e156⟩ := hP156
      show et_go none _ 81 159 _ [.null] _ _ _ _
      refine hs_aretN (cn := "KnobEye$Node") (by decide +kernel) ?_
      refine ⟨_, _, _, _, _, rfl, hx0, hH, rx_out hX, ?_⟩
      rw [show sp_sum (L.drop x) = none from sp_many_0 (sp_part_3n i34 w141)]
      exact ⟨rfl, _, (by omega), e156⟩
end FPA
