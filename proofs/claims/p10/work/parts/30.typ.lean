/-! THE TYPED HEAP. A spec: an int with ends | a long with ends | a reference (0: not null, 1: null too, 2: null), to a type.
A type: a class and its fields' specs | an array: kind, length, specs for ranges of its places. Types 0 and 1: words, texts (constants). -/
abbrev et_P : Type := (Int × Int) ⊕ ((Int × Int) ⊕ (Nat × Nat))
abbrev et_D : Type := (Nat × List et_P) ⊕ (Nat × Nat × List (Nat × Nat × et_P))
abbrev et_K : Type := Nat → Option Nat
def et_v (K : et_K) (p : et_P) (v : Value) : Prop := match p with
  | .inl (lo, hi) => ∃ x, v = .int x ∧ lo ≤ x.toInt ∧ x.toInt ≤ hi
  | .inr (.inl (lo, hi)) => ∃ x, v = .long x ∧ lo ≤ x.toInt ∧ x.toInt ≤ hi
  | .inr (.inr (nl, t)) => (0 < nl ∧ v = .null) ∨ (nl < 2 ∧ ∃ a, v = .ref a ∧ K a = some t)
def et_pl (c : eg_C) (i : Nat) : Option Value := match c with
  | .inr (_, fs) => fs[i]?
  | .inl (t, x) => if i < x.1 then eg_rd t x i else none
/-- a field that nobody reads -/
def et_sk (p : et_P) : Bool := match p with
  | .inr (.inr (nl, _)) => decide (nl = 9)
  | _ => false
def et_c (K : et_K) (d : et_D) (c : eg_C) : Prop := match d with
  | .inl (ci, ps) => ∃ fs, c = .inr (ci, fs) ∧ fs.length = ps.length ∧ ∀ (k : Nat) (p : et_P), ps[k]? = some p → ∃ v, fs[k]? = some v ∧ (et_sk p = true ∨ et_v K p v)
  | .inr (t, n, ss) => ∃ x : vp_A, c = .inl (t, x) ∧ x.1 = n ∧ (∀ i, i < n → ∃ v, eg_rd t x i = some v) ∧ ∀ s ∈ ss, ∀ i, s.1 ≤ i → i ≤ s.2.1 → i < n → ∃ v, eg_rd t x i = some v ∧ et_v K s.2.2 v
/-- what is promised of a cell beside its type: a piece of a condition points behind itself; found KNOBS are apart; the reference's texts are good -/
def et_cx (d : et_D) (a : Nat) (c : eg_C) : Prop := match d with
  | .inl (ci, _) => (ci = 4 → ∀ b, et_pl c 1 = some (.ref b) → a < b) ∧ (ci = 11 → ∀ s x y : Int32, et_pl c 29 = some (.int s) → et_pl c 25 = some (.int x) → et_pl c 26 = some (.int y) → ¬ s = 0 → ¬ x = y)
  | .inr (t, n, _) => t = 0 → (n = 12741 ∨ n = 11900) → ∀ (m : Nat) (W : Nat → Int32), c = .inl (0, (m, .inl W)) → gq_G W
/-- places that such a promise speaks of -/
def et_px (d : et_D) (i : Nat) : Bool := match d with
  | .inl (ci, _) => (decide (ci = 4) && decide (i = 1)) || (decide (ci = 11) && (decide (i = 25) || (decide (i = 26) || decide (i = 29))))
  | .inr (t, n, _) => (decide (t = 0) && decide (n = 12741 ∨ n = 11900)) && (decide (126 ≤ i) && decide (i < 11900))
def et_H (T : List et_D) (K : et_K) (G : eg_G) : Prop := eg_NC ≤ G.2 ∧ (∀ a, a < 36 → K a = some 0) ∧ ∀ a t, K a = some t → a < G.2 ∧ (t = 0 → a < 36) ∧ (2 ≤ t → eg_NC ≤ a) ∧ ∃ d, T[t]? = some d ∧ et_c K d (eg_at G a) ∧ et_cx d a (eg_at G a)
/-- which places may be written: type, from, to -/
abbrev et_M : Type := List (Nat × Nat × Nat)
def et_mm (M : et_M) (t i : Nat) : Bool := M.any (fun q => (q.1 == t) && (decide (q.2.1 ≤ i) && decide (i ≤ q.2.2)))
def et_fr (M : et_M) (K : et_K) (G G' : eg_G) : Prop := G.2 ≤ G'.2 ∧ ∀ a t, K a = some t → ∀ i, et_mm M t i = false → et_pl (eg_at G' a) i = et_pl (eg_at G a) i
def et_ex (K K' : et_K) : Prop := ∀ a t, K a = some t → K' a = some t
/-! tokens: `.float k`, `.double k`, `.retAddr k` stand for the k-th of a list -/
def et_vr (R : List Value) (v w : Value) : Prop := match v with
  | .float k => ∃ x, w = .int x ∧ R[k.toNat]? = some (.int x)
  | .double k => ∃ x, w = .long x ∧ R[k.toNat]? = some (.long x)
  | .retAddr k => (w = .null ∨ ∃ a, w = .ref a) ∧ R[k]? = some w
  | u => w = u
def et_sr (R : List Value) : List Value → List Value → Prop
  | [], c => c = []
  | a :: t, c => ∃ x r, c = x :: r ∧ et_vr R a x ∧ et_sr R t r
def et_or (R : List Value) (a b : Option Value) : Prop := match a with
  | none => True
  | some v => ∃ w, b = some w ∧ et_vr R v w
def et_lr (R : List Value) : eg_Ls → eg_Ls → Prop
  | [], c => c = []
  | a :: t, c => ∃ x r, c = x :: r ∧ et_or R a x ∧ et_lr R t r
abbrev et_N : Type := et_P × Option (Nat × Int)
def et_eo (K : et_K) (R : List Value) (E : List et_N) : Prop := R.length = E.length ∧ ∀ (k : Nat) (p : et_P) (d : Option (Nat × Int)), E[k]? = some (p, d) → ∃ v, R[k]? = some v ∧ et_v K p v ∧ ∀ j c, d = some (j, c) → ∃ x y, v = .int x ∧ R[j]? = some (.int y) ∧ x.toInt = y.toInt + c
/-- the cache: token, place, value -/
abbrev et_C : Type := List (Nat × Nat × Value)
def et_co (R : List Value) (G : eg_G) (C : et_C) : Prop := ∀ e ∈ C, ∃ a w, R[e.1]? = some (.ref a) ∧ a < G.2 ∧ et_pl (eg_at G a) e.2.1 = some w ∧ et_vr R e.2.2 w
section ETA
variable {R : List Value} {K : et_K}
theorem et_get_mono {k : Nat} {w x : Value} (h : R[k]? = some w) : (R ++ [x])[k]? = some w := by
  rw [List.getElem?_append_left (List.getElem?_eq_some_iff.mp h).1]
  exact h
theorem et_vr_mono {v w x : Value} (h : et_vr R v w) : et_vr (R ++ [x]) v w := by
  cases v
  case float k =>
    obtain ⟨y, h1, h2⟩ := h
    exact ⟨y, h1, et_get_mono h2⟩
  case double k =>
    obtain ⟨y, h1, h2⟩ := h
    exact ⟨y, h1, et_get_mono h2⟩
  case retAddr k => exact ⟨h.1, et_get_mono h.2⟩
  all_goals exact h
theorem et_sr_mono {x : Value} : ∀ {a c : List Value}, et_sr R a c → et_sr (R ++ [x]) a c
  | [], _, h => h
  | _ :: _, _, ⟨y, r, e, hv, h⟩ => ⟨y, r, e, et_vr_mono hv, et_sr_mono h⟩
theorem et_or_mono {x : Value} {a b : Option Value} (h : et_or R a b) : et_or (R ++ [x]) a b := by
  cases a with
  | none => exact trivial
  | some v =>
    obtain ⟨w, e, hw⟩ := h
    exact ⟨w, e, et_vr_mono hw⟩
theorem et_lr_mono {x : Value} : ∀ {a c : eg_Ls}, et_lr R a c → et_lr (R ++ [x]) a c
  | [], _, h => h
  | _ :: _, _, ⟨y, r, e, hv, h⟩ => ⟨y, r, e, et_or_mono hv, et_lr_mono h⟩
theorem et_co_mono {x : Value} {G : eg_G} {C : et_C} (h : et_co R G C) : et_co (R ++ [x]) G C := fun e he => by
  obtain ⟨a, w, h1, h0, h2, h3⟩ := h e he
  exact ⟨a, w, by rw [List.getElem?_append_left (List.getElem?_eq_some_iff.mp h1).1]; exact h1, h0, h2, et_vr_mono h3⟩
theorem et_v_ex {K' : et_K} (hx : et_ex K K') {p : et_P} {v : Value} (h : et_v K p v) : et_v K' p v := by
  obtain ⟨lo, hi⟩ | ⟨lo, hi⟩ | ⟨nl, t⟩ := p
  · exact h
  · exact h
  · rcases h with h | ⟨h1, a, h2, h3⟩
    · exact .inl h
    · exact .inr ⟨h1, a, h2, hx _ _ h3⟩
theorem et_eo_mono {E : List et_N} {x : Value} {p : et_P} (h : et_eo K R E) (hx : et_v K p x) : et_eo K (R ++ [x]) (E ++ [(p, none)]) := by
  refine ⟨by rw [List.length_append, List.length_append, h.1]; rfl, fun k q d hk => ?_⟩
  rw [List.getElem?_append] at hk
  split at hk
  · rename_i hlt
    obtain ⟨v, h1, h2, h3⟩ := h.2 k q d hk
    refine ⟨v, by rw [List.getElem?_append_left (by rw [h.1]; exact hlt)]; exact h1, h2, fun j c e => ?_⟩
    obtain ⟨a, b, g1, g2, g3⟩ := h3 j c e
    exact ⟨a, b, g1, by rw [List.getElem?_append_left (List.getElem?_eq_some_iff.mp g2).1]; exact g2, g3⟩
  · rename_i hge
    have e : k = E.length := by
      have h1 := (List.getElem?_eq_some_iff.mp hk).1
      simp at h1
      omega
    subst e
    rw [Nat.sub_self] at hk
    cases hk
    refine ⟨x, ?_, hx, fun _ _ h => (nomatch h)⟩
    rw [← h.1, List.getElem?_append_right (Nat.le_refl _), Nat.sub_self]
    rfl
theorem et_eo_monod {E : List et_N} {x y : Int32} {lo hi c : Int} {j : Nat} (h : et_eo K R E) (h1 : lo ≤ x.toInt) (h2 : x.toInt ≤ hi) (hj : R[j]? = some (.int y)) (hc : x.toInt = y.toInt + c) : et_eo K (R ++ [.int x]) (E ++ [(.inl (lo, hi), some (j, c))]) := by
  refine ⟨by rw [List.length_append, List.length_append, h.1]; rfl, fun k q d hk => ?_⟩
  rw [List.getElem?_append] at hk
  split at hk
  · rename_i hlt
    obtain ⟨v, h1, h2, h3⟩ := h.2 k q d hk
    refine ⟨v, by rw [List.getElem?_append_left (by rw [h.1]; exact hlt)]; exact h1, h2, fun j c e => ?_⟩
    obtain ⟨a, b, g1, g2, g3⟩ := h3 j c e
    exact ⟨a, b, g1, by rw [List.getElem?_append_left (List.getElem?_eq_some_iff.mp g2).1]; exact g2, g3⟩
  · rename_i hge
    have e : k = E.length := by
      have h1 := (List.getElem?_eq_some_iff.mp hk).1
      simp at h1
      omega
    subst e
    rw [Nat.sub_self] at hk
    cases hk
    refine ⟨.int x, ?_, ⟨x, rfl, h1, h2⟩, fun j' c' e => ?_⟩
    · rw [← h.1, List.getElem?_append_right (Nat.le_refl _), Nat.sub_self]
      rfl
    · cases e
      exact ⟨x, y, rfl, by rw [List.getElem?_append_left (List.getElem?_eq_some_iff.mp hj).1]; exact hj, hc⟩
end ETA
