/-! RUNS WHOSE START KNOWS PLACES (ghosts), and whose ends say answers, places, arguments' ends -/
theorem et_go.and {sc : eg_Sc} {d k pc ck sk : Nat} {L : eg_Ls} {st : List Value} {G : eg_G} {Z Z' : eg_O → Prop} (h : et_go sc d k pc L st G ck sk Z) (h' : et_go sc d k pc L st G ck sk Z') : et_go sc d k pc L st G ck sk (fun u => Z u ∧ Z' u) := by
  obtain ⟨o, ⟨g, hg⟩, hz⟩ := h
  obtain ⟨o', ⟨g', hg'⟩, hz'⟩ := h'
  have e := (hg (max g g') (Nat.le_max_left _ _)).symm.trans (hg' (max g g') (Nat.le_max_right _ _))
  cases e
  exact ⟨o, ⟨g, hg⟩, hz, hz'⟩
/-- known places: address, type, place, what is there -/
def kq (K : et_K) (G : eg_G) (l : List (Nat × Nat × Nat × Value)) : Prop := ∀ e ∈ l, K e.1 = some e.2.1 ∧ et_pl (eg_at G e.1) e.2.2.1 = some e.2.2.2
def kq_k (M : et_M) (l : List (Nat × Nat)) : Bool := l.all (fun q => !et_mm M q.1 q.2)
theorem kq.fr {K K' : et_K} {M : et_M} {G G' : eg_G} {l : List (Nat × Nat × Nat × Value)} {ts : List (Nat × Nat)} (h : kq K G l) (hx : et_ex K K') (hf : et_fr M K G G') (hc : kq_k M ts = true) (ht : l.map (fun e => (e.2.1, e.2.2.1)) = ts) : kq K' G' l := fun e he => by
  obtain ⟨h1, h2⟩ := h e he
  refine ⟨hx _ _ h1, (hf.2 e.1 e.2.1 h1 e.2.2.1 ?_).trans h2⟩
  have h3 := List.all_eq_true.mp hc (e.2.1, e.2.2.1) (by rw [← ht]; exact List.mem_map.mpr ⟨e, he, rfl⟩)
  simpa using h3
theorem kq.hd {K : et_K} {G : eg_G} {a t i : Nat} {v : Value} {l : List (Nat × Nat × Nat × Value)} (h : kq K G ((a, t, i, v) :: l)) : K a = some t ∧ et_pl (eg_at G a) i = some v := h _ List.mem_cons_self
theorem kq.tl {K : et_K} {G : eg_G} {q : Nat × Nat × Nat × Value} {l : List (Nat × Nat × Nat × Value)} (h : kq K G (q :: l)) : kq K G l := fun e he => h e (List.mem_cons_of_mem _ he)
theorem kq.nil {K : et_K} {G : eg_G} : kq K G [] := fun _ h => absurd h List.not_mem_nil
theorem kq.cons {K : et_K} {G : eg_G} {a t i : Nat} {v : Value} {l : List (Nat × Nat × Nat × Value)} (h1 : K a = some t) (h2 : et_pl (eg_at G a) i = some v) (h : kq K G l) : kq K G ((a, t, i, v) :: l) := List.forall_mem_cons.mpr ⟨⟨h1, h2⟩, h⟩
/-- an end: what is answered, places (token, place, value), arguments' ends, counters; tokens are the start's alone -/
abbrev gh_E : Type := (Option Value ⊕ Nat) × List (Nat × Nat × Value) × List (Nat × Int × Int) × Nat × Nat
def gh_a (n : Nat) (v : et_R) : Bool := match v with
  | .inl (some v) => et_tb n v
  | _ => true
def gh_m (n : Nat) (o : et_O) (e : gh_E) : Bool := (decide (o.2.2.1 = e.1) && gh_a n e.1) && (e.2.1.all (fun q => decide (et_cl o.2.1 q.1 q.2.1 = some q.2.2) && et_tb n q.2.2) && (e.2.2.1.all (fun b => decide (b.1 < 4294967296) && (match et_ib o.1 (.float (UInt32.ofNat b.1)) with
  | some (lo, hi) => decide (b.2.1 ≤ lo) && decide (hi ≤ b.2.2)
  | none => false)) && (decide (o.2.2.2.1 ≤ e.2.2.2.1) && decide (o.2.2.2.2 ≤ e.2.2.2.2))))
def gh_P (R : List Value) (u : eg_O) (e : gh_E) : Prop := et_rs R e.1 u.1 ∧ (∀ q ∈ e.2.1, ∀ a, R[q.1]? = some (.ref a) → ∃ v, et_pl (eg_at u.2.1 a) q.2.1 = some v ∧ et_vr R q.2.2 v) ∧ (∀ b ∈ e.2.2.1, ∀ x : Int32, R[b.1]? = some (.int x) → b.2.1 ≤ x.toInt ∧ x.toInt ≤ b.2.2) ∧ u.2.2.1 ≤ e.2.2.2.1 ∧ u.2.2.2 ≤ e.2.2.2.2
def gh_Z (T : List et_D) (w : et_Wd) (M : et_M) (R : List Value) (es : List gh_E) (u : eg_O) : Prop := (∃ K' : et_K, et_ex w.1 K' ∧ et_fr M w.1 w.2.2 u.2.1 ∧ et_H T K' u.2.1) ∧ ∃ e ∈ es, gh_P R u e
theorem gh_co {R : List Value} {G : eg_G} {C : et_C} {k i a : Nat} {v w : Value} (h1 : R[k]? = some (.ref a)) (h2 : a < G.2) (h3 : et_pl (eg_at G a) i = some w) (h4 : et_vr R v w) (h : et_co R G C) : et_co R G ((k, i, v) :: C) := List.forall_mem_cons.mpr ⟨⟨a, w, h1, h2, h3, h4⟩, h⟩
theorem gh_cn {R : List Value} {G : eg_G} : et_co R G [] := fun _ h => absurd h List.not_mem_nil
/-- a start's token means what it meant -/
theorem gh_vr {R R1 : List Value} {v w : Value} (h : et_tb R.length v = true) (hv : et_vr (R ++ R1) v w) : et_vr R v w := by
  have h2 := et_tk_take (Rf := []) (n := R.length) h (by rw [List.length_append]; omega) hv
  rw [List.take_left', List.append_nil] at h2
  · exact h2
  · rfl
theorem gh_rs {R R1 : List Value} {v : et_R} {u : eg_R} (h : gh_a R.length v = true) (hv : et_rs (R ++ R1) v u) : et_rs R v u := by
  rcases v with (_ | v) | x
  · exact hv
  · obtain ⟨w, e, hw⟩ := hv
    exact ⟨w, e, gh_vr h hw⟩
  · exact hv
def gh_chk (T : List et_D) (Ks : List et_Co) (an : Nat → Nat → Option et_A) (mi d : Nat) (ps gs : List et_P) (C : et_C) (M : et_M) (es : List gh_E) : Bool := decide (ps.length + gs.length < 100) && (match et_rn T M Ks an 100000 [] none ((ps ++ gs).map (fun p => (p, none))) C d mi 0 (eg_en (eg_mL mi) (et_ar 0 ps)) [] 0 0 with
  | none => false
  | some os => os.all (fun o => es.any (gh_m (ps.length + gs.length) o)))
theorem gh_ok {T : List et_D} {Ks : List et_Co} {an : Nat → Nat → Option et_A} {mi d d2 : Nat} {ps gs : List et_P} {C : et_C} {M : et_M} {es : List gh_E} {w : et_Wd} {as bs : List Value} (hK : ∀ q ∈ Ks, et_cv T q) (h : gh_chk T Ks an mi d ps gs C M es = true)
    (hH : et_H T w.1 w.2.2) (hd : d ≤ d2) (hl : as.length = ps.length) (hlb : bs.length = gs.length) (hv : ∀ (i : Nat) (p : et_P) (v : Value), (ps ++ gs)[i]? = some p → (as ++ bs)[i]? = some v → et_v w.1 p v) (hC : et_co (as ++ bs) w.2.2 C) : et_go none d2 mi 0 (eg_en (eg_mL mi) as) [] w.2.2 0 0 (gh_Z T w M (as ++ bs) es) := by
  unfold gh_chk at h
  rw [Bool.and_eq_true] at h
  obtain ⟨hl0, h⟩ := h
  have hl0 := of_decide_eq_true hl0
  have hn : ps.length + gs.length = (as ++ bs).length := by rw [List.length_append, hl, hlb]
  split at h
  · cases h
  · rename_i os hos
    have hv0 : ∀ (i : Nat) (p : et_P) (v : Value), ps[i]? = some p → as[i]? = some v → et_v w.1 p v := fun i p v h1 h2 => hv i p v (by rw [List.getElem?_append_left (List.getElem?_eq_some_iff.mp h1).1]; exact h1) (et_get_app h2 bs)
    refine et_rn_ok hK 100000 _ _ _ _ _ _ _ _ _ _ _ _ hos none (w.1, as ++ bs, w.2.2) (eg_en (eg_mL mi) as) [] 0 0 d2 _ ⟨hH, ⟨by rw [List.length_map, List.length_append, List.length_append, hl, hlb], fun k p dd hk => ?_⟩, hC, et_lr_en (eg_mL mi) (et_ar_sr (K := w.1) (n := 0) (by omega) hl hv0 (fun i v hi => by rw [Nat.zero_add]; exact et_get_app hi bs)), rfl⟩ (Nat.le_refl _) (Nat.le_refl _) hd rfl (fun _ hm => absurd hm List.not_mem_nil) (fun o ho w' u hle hen => ?_)
    · rw [List.getElem?_map] at hk
      cases hp : (ps ++ gs)[k]? with
      | none => rw [hp] at hk; cases hk
      | some p' =>
        rw [hp] at hk
        cases hk
        have hlt : k < (as ++ bs).length := by
          rw [← hn, ← List.length_append]
          exact (List.getElem?_eq_some_iff.mp hp).1
        exact ⟨(as ++ bs)[k], List.getElem?_eq_getElem hlt, hv k p _ hp (List.getElem?_eq_getElem hlt), fun _ _ h => (nomatch h)⟩
    · obtain ⟨e, he, hm⟩ := List.any_eq_true.mp (List.all_eq_true.mp h o ho)
      obtain ⟨b1, b2, b3, b4, b5, b6, b7⟩ := hen
      obtain ⟨a1, ⟨R1, aR⟩, a3⟩ := hle
      unfold gh_m at hm
      rw [hn] at hm
      simp only [Bool.and_eq_true] at hm
      obtain ⟨⟨m1, m2⟩, m3, m4, m5, m6⟩ := hm
      have m1 := of_decide_eq_true m1
      have m5 := of_decide_eq_true m5
      have m6 := of_decide_eq_true m6
      have b3 : et_eo w'.1 w'.2.1 o.1 := b3
      have aR : w'.2.1 = (as ++ bs) ++ R1 := aR
      refine ⟨⟨w'.1, a1, by rw [b1]; exact a3, by rw [b1]; exact b2⟩, e, he, ?_, fun q hq a ha => ?_, fun b hb x hx => ?_, Nat.le_trans b6 m5, Nat.le_trans b7 m6⟩
      · rw [m1, aR] at b5
        exact gh_rs m2 b5
      · have h3 := List.all_eq_true.mp m3 q hq
        rw [Bool.and_eq_true] at h3
        obtain ⟨a', v, c1, -, c3, c4⟩ := b4 _ (et_cl_in (of_decide_eq_true h3.1))
        rw [aR, et_get_app ha R1] at c1
        cases c1
        rw [aR] at c4
        rw [b1]
        exact ⟨v, c3, gh_vr h3.2 c4⟩
      · have h4 := List.all_eq_true.mp m4 b hb
        rw [Bool.and_eq_true] at h4
        obtain ⟨h4a, h4⟩ := h4
        have h4a := of_decide_eq_true h4a
        have hx' : w'.2.1[b.1]? = some (.int x) := by
          rw [aR]
          exact et_get_app hx R1
        split at h4
        · rename_i lo hi hb2
          obtain ⟨y, ey, y1, y2⟩ := et_ib_ok (w := .int x) hb2 b3 ⟨x, rfl, by rw [et_tkl h4a]; exact hx'⟩
          cases ey
          rw [Bool.and_eq_true] at h4
          have h5 := of_decide_eq_true h4.1
          have h6 := of_decide_eq_true h4.2
          exact ⟨by omega, by omega⟩
        · cases h4
