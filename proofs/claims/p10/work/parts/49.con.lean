/-! CONTRACTS, checked by a run -/
def et_ar : Nat → List et_P → List Value
  | _, [] => []
  | n, p :: t => et_tk p n :: et_ar (n + 1) t
def et_fe (o : et_O) (e : (Option et_P ⊕ Nat) × Nat × Nat) : Bool := (match o.2.2.1, e.1 with
  | .inl none, .inl none => true
  | .inl (some v), .inl (some p) => et_ft o.1 p v
  | .inr x, .inr y => decide (x = y)
  | _, _ => false) && (decide (o.2.2.2.1 ≤ e.2.1) && decide (o.2.2.2.2 ≤ e.2.2))
def et_cok (T : List et_D) (Ks : List et_Co) (an : Nat → Nat → Option et_A) (q : et_Co) : Bool := match q with
  | (mi, ps, M, es, d) => decide (ps.length < 100) && (match et_rn T M Ks an 100000 [] none (ps.map (fun p => (p, none))) [] d mi 0 (eg_en (eg_mL mi) (et_ar 0 ps)) [] 0 0 with
    | none => false
    | some os => os.all (fun o => es.any (et_fe o)))
section ETS
variable {T : List et_D} {Ks : List et_Co} {an : Nat → Nat → Option et_A} {K : et_K}
theorem et_ar_sr {R : List Value} : ∀ {ps : List et_P} {n : Nat} {as : List Value}, n + ps.length < 4294967296 → as.length = ps.length → (∀ (i : Nat) (p : et_P) (v : Value), ps[i]? = some p → as[i]? = some v → et_v K p v) → (∀ (i : Nat) (v : Value), as[i]? = some v → R[n + i]? = some v) → et_sr R (et_ar n ps) as
  | [], _, as, _, hl, _, _ => List.length_eq_zero_iff.mp hl
  | p :: t, n, [], _, hl, _, _ => by cases hl
  | p :: t, n, a :: s, hn, hl, hv, hr => by
    have hn1 : n < 4294967296 := by omega
    refine ⟨a, s, rfl, ?_, et_ar_sr (n := n + 1) (by rw [List.length_cons] at hn; omega) (Nat.succ.inj hl) (fun i p v hi hj => hv (i + 1) p v hi hj) (fun i v hi => by
      rw [show n + 1 + i = n + (i + 1) by omega]
      exact hr (i + 1) v hi)⟩
    have h0 : R[n]? = some a := hr 0 a rfl
    have h1 := hv 0 p a rfl rfl
    obtain ⟨lo, hi⟩ | ⟨lo, hi⟩ | ⟨nl, u⟩ := p
    · obtain ⟨x, rfl, -⟩ := h1
      exact ⟨x, rfl, by rw [et_tkl hn1]; exact h0⟩
    · obtain ⟨x, rfl, -⟩ := h1
      exact ⟨x, rfl, by rw [et_tkL hn1]; exact h0⟩
    · rcases h1 with ⟨-, rfl⟩ | ⟨-, a, rfl, -⟩
      · exact ⟨.inl rfl, h0⟩
      · exact ⟨.inr ⟨a, rfl⟩, h0⟩
theorem et_cok_ok (hK : ∀ q ∈ Ks, et_cv T q) {q : et_Co} (h : et_cok T Ks an q = true) : et_cv T q := by
  obtain ⟨mi, ps, M, es, d⟩ := q
  unfold et_cok at h
  dsimp only at h
  rw [Bool.and_eq_true] at h
  obtain ⟨hl0, h⟩ := h
  have hl0 := of_decide_eq_true hl0
  split at h
  · cases h
  · rename_i os hos
    intro w as d2 hH hd hl hv
    refine et_rn_ok hK 100000 _ _ _ _ _ _ _ _ _ _ _ _ hos none (w.1, as, w.2.2) (eg_en (eg_mL mi) as) [] 0 0 d2 _ ⟨hH, ⟨by rw [List.length_map]; exact hl, fun k p dd hk => ?_⟩, fun e he => (nomatch he), et_lr_en (eg_mL mi) (et_ar_sr (K := w.1) (n := 0) (by omega) hl hv (fun i v hi => by rw [Nat.zero_add]; exact hi)), rfl⟩ (Nat.le_refl _) (Nat.le_refl _) hd rfl (fun _ hm => absurd hm List.not_mem_nil) (fun o ho w' u hle hen => ?_)
    · rw [List.getElem?_map] at hk
      cases hp : ps[k]? with
      | none => rw [hp] at hk; cases hk
      | some p' =>
        rw [hp] at hk
        cases hk
        have hlt : k < as.length := by rw [hl]; exact (List.getElem?_eq_some_iff.mp hp).1
        exact ⟨as[k], List.getElem?_eq_getElem hlt, hv k p _ hp (List.getElem?_eq_getElem hlt), fun _ _ h => (nomatch h)⟩
    · obtain ⟨e, he, hfe⟩ := List.any_eq_true.mp (List.all_eq_true.mp h o ho)
      obtain ⟨b1, b2, b3, b4, b5, b6, b7⟩ := hen
      obtain ⟨a1, -, a3⟩ := hle
      unfold et_fe at hfe
      rw [Bool.and_eq_true, Bool.and_eq_true] at hfe
      obtain ⟨c1, c2, c3⟩ := hfe
      have c2 := of_decide_eq_true c2
      have c3 := of_decide_eq_true c3
      refine ⟨e, he, w'.1, a1, by rw [b1]; exact a3, by rw [b1]; exact b2, ?_, by omega, by omega⟩
      obtain ⟨oE, oC, ov, oc, osk⟩ := o
      obtain ⟨er, ec, es'⟩ := e
      dsimp only at c1 b3 b5 ⊢
      split at c1
      · exact b5
      · obtain ⟨x, x1, x2⟩ := b5
        exact ⟨x, x1, et_ft_ok c1 b3 b2.2.1 x2⟩
      · rw [← of_decide_eq_true c1]
        exact b5
      · cases c1
end ETS
