/-! THE REFERENCE's TEXTS, compiled: what a step does to how many values there are -/
def gq1 (x : Int32) (dp : Nat) : Option Nat :=
  if x.toInt ≤ 13 then (if 0 ≤ x.toInt ∧ (x.toInt ≤ 4 ∨ 10 ≤ x.toInt) then some (dp + 1) else none)
  else if x = Int32.ofNat 18 then (if 1 ≤ dp then some dp else none) else (if 2 ≤ dp then some (dp - 1) else none)
def gq (B : Nat) (W : Nat → Int32) : Nat → Nat → Nat → Option Nat
  | _, 0, dp => some dp
  | i, n + 1, dp => (gq1 (W (B + 2 * i)) dp).bind (gq B W (i + 1) n)
theorem gq_s {B : Nat} {W : Nat → Int32} {i n dp : Nat} : gq B W i (n + 1) dp = (gq1 (W (B + 2 * i)) dp).bind (gq B W (i + 1) n) := rfl
theorem gq_same {B B' : Nat} {W W' : Nat → Int32} : ∀ (n i : Nat), (∀ j, i ≤ j → j < i + n → W' (B' + 2 * j) = W (B + 2 * j)) → ∀ dp, gq B' W' i n dp = gq B W i n dp := by
  intro n
  induction n with
  | zero => exact fun _ _ _ => rfl
  | succ n ih =>
    intro i h dp
    have h1 := ih (i + 1) (fun j h1 h2 => h j (Nat.le_of_succ_le h1) (by omega))
    rw [gq_s, gq_s, h i (Nat.le_refl _) (by omega), funext h1]
def gq_L (W : Nat → Int32) (X n s : Nat) : Prop := ∃ a b : Nat, W (X + 1 + 4 * n + 2) = Int32.ofNat a ∧ W (X + 1 + 4 * n + 3) = Int32.ofNat b ∧ b ≤ s ∧ (a = b ∨ (a ≤ b ∧ ∀ dp, gq (X + 41) W a (b - a) dp = some (dp + 1)))
def gq_T (W : Nat → Int32) (X t : Nat) : Prop := ∃ l, W X = Int32.ofNat l ∧ l ≤ 10 ∧ ∀ n, (n < l ∨ (n = 0 ∧ ¬ (4 ≤ t ∧ t < 8))) → gq_L W X n 400
def gq_G (W : Nat → Int32) : Prop := ∀ t, t < 14 → gq_T W (126 + 841 * t) t
/-- a text elsewhere -/
theorem gq_L.mv {W V : Nat → Int32} {X Y n s : Nat} (h : gq_L W X n s) (hn : n < 10) (hs : s ≤ 400) (hv : ∀ i, i < 841 → V (Y + i) = W (X + i)) : gq_L V Y n s := by
  obtain ⟨a, b, h1, h2, h3, h4⟩ := h
  refine ⟨a, b, ?_, ?_, h3, ?_⟩
  · have := hv (1 + 4 * n + 2) (by omega)
    rw [show Y + (1 + 4 * n + 2) = Y + 1 + 4 * n + 2 by omega, show X + (1 + 4 * n + 2) = X + 1 + 4 * n + 2 by omega, h1] at this
    exact this
  · have := hv (1 + 4 * n + 3) (by omega)
    rw [show Y + (1 + 4 * n + 3) = Y + 1 + 4 * n + 3 by omega, show X + (1 + 4 * n + 3) = X + 1 + 4 * n + 3 by omega, h2] at this
    exact this
  · rcases h4 with h4 | ⟨h4, h5⟩
    · exact .inl h4
    · refine .inr ⟨h4, fun dp => ?_⟩
      rw [gq_same (B := X + 41) (B' := Y + 41) (W := W) (b - a) a (fun j h1 h2 => by
        have := hv (41 + 2 * j) (by omega)
        rw [show Y + (41 + 2 * j) = Y + 41 + 2 * j by omega, show X + (41 + 2 * j) = X + 41 + 2 * j by omega] at this
        exact this)]
      exact h5 dp
theorem gq_T.same {W V : Nat → Int32} {X t : Nat} (h : gq_T W X t) (hv : ∀ i, X ≤ i → i < X + 841 → V i = W i) : gq_T V X t := by
  obtain ⟨l, h1, h2, h3⟩ := h
  exact ⟨l, (hv _ (Nat.le_refl _) (by omega)).trans h1, h2, fun n hn => (h3 n hn).mv (by omega) (Nat.le_refl _) (fun i hi => hv _ (by omega) (by omega))⟩
theorem gq_G.lo {W V : Nat → Int32} (h : gq_G W) (hX : ∀ i, 126 ≤ i → i < 11900 → V i = W i) : gq_G V := fun t ht => (h t ht).same (fun i h1 h2 => hX i (by omega) (by omega))
