/-! THE TYPED INTERPRETER: what the definitions mean -/
section ETD
variable {R : List Value} {K : et_K} {E : List et_N}
theorem et_eo_get {k : Nat} {p : et_P} {d : Option (Nat × Int)} (h : et_eo K R E) (hk : E[k]? = some (p, d)) {w : Value} (hw : R[k]? = some w) : et_v K p w := by
  obtain ⟨v, h1, h2, -⟩ := h.2 k p d hk
  rw [hw] at h1
  cases h1
  exact h2
theorem et_ib_ok {v w : Value} {a b : Int} (h : et_ib E v = some (a, b)) (hE : et_eo K R E) (hv : et_vr R v w) : ∃ x, w = .int x ∧ a ≤ x.toInt ∧ x.toInt ≤ b := by
  cases v
  case int x =>
    cases h
    exact ⟨x, hv, Int.le_refl _, Int.le_refl _⟩
  case float k =>
    unfold et_ib at h
    dsimp only at h
    split at h
    · rename_i p d hk
      cases h
      obtain ⟨x, rfl, hx⟩ := hv
      obtain ⟨y, e, h1, h2⟩ := et_eo_get hE hk hx
      cases e
      exact ⟨x, rfl, h1, h2⟩
    · cases h
  all_goals cases h
theorem et_lb_ok {v w : Value} {a b : Int} (h : et_lb E v = some (a, b)) (hE : et_eo K R E) (hv : et_vr R v w) : ∃ x, w = .long x ∧ a ≤ x.toInt ∧ x.toInt ≤ b := by
  cases v
  case long x =>
    cases h
    exact ⟨x, hv, Int.le_refl _, Int.le_refl _⟩
  case double k =>
    unfold et_lb at h
    dsimp only at h
    split at h
    · rename_i p d hk
      cases h
      obtain ⟨x, rfl, hx⟩ := hv
      obtain ⟨y, e, h1, h2⟩ := et_eo_get hE hk hx
      cases e
      exact ⟨x, rfl, h1, h2⟩
    · cases h
  all_goals cases h
theorem et_rb_ok {v w : Value} {nl t : Nat} (h : et_rb E v = some (nl, t)) (hE : et_eo K R E) (hv : et_vr R v w) : et_v K (.inr (.inr (nl, t))) w := by
  cases v
  case retAddr k =>
    unfold et_rb at h
    dsimp only at h
    split at h
    · rename_i p d hk
      cases h
      exact et_eo_get hE hk hv.2
    · cases h
  all_goals cases h
theorem et_cn_ok {v w : Value} (hE : et_eo K R E) (hv : et_vr R v w) : et_vr R (et_cn E v) w := by
  cases v
  case float k =>
    unfold et_cn
    dsimp only
    split
    · rename_i lo hi d hk
      split
      · rename_i hc
        obtain ⟨x, rfl, hx⟩ := hv
        obtain ⟨y, e, h1, h2⟩ := et_eo_get hE hk hx
        cases e
        show Value.int x = .int (Int32.ofInt lo)
        have e1 : x = Int32.ofInt lo := by
          apply Int32.toInt_inj.mp
          have e2 : x.toInt = lo := by omega
          rw [← e2, Int32.ofInt_toInt]
        rw [e1]
      · exact hv
    · exact hv
  all_goals exact hv
theorem et_ft_ok {p : et_P} {v w : Value} (h : et_ft E p v = true) (hE : et_eo K R E) (hW : ∀ a, a < 36 → K a = some 0) (hv : et_vr R v w) : et_v K p w := by
  unfold et_ft at h
  split at h
  · rename_i lo hi
    split at h
    · rename_i a b hb
      rw [Bool.and_eq_true] at h
      obtain ⟨x, rfl, h1, h2⟩ := et_ib_ok hb hE hv
      have h3 := of_decide_eq_true h.1
      have h4 := of_decide_eq_true h.2
      exact ⟨x, rfl, by omega, by omega⟩
    · cases h
  · rename_i lo hi
    split at h
    · rename_i a b hb
      rw [Bool.and_eq_true] at h
      obtain ⟨x, rfl, h1, h2⟩ := et_lb_ok hb hE hv
      have h3 := of_decide_eq_true h.1
      have h4 := of_decide_eq_true h.2
      exact ⟨x, rfl, by omega, by omega⟩
    · cases h
  · rename_i nl t
    split at h
    · have e : w = .null := hv
      exact .inl ⟨of_decide_eq_true h, e⟩
    · rename_i a
      have e : w = .ref a := hv
      rw [Bool.and_eq_true, Bool.and_eq_true] at h
      have h1 := of_decide_eq_true h.2.2
      subst h1
      exact .inr ⟨of_decide_eq_true h.1, a, e, hW a (of_decide_eq_true h.2.1)⟩
    · split at h
      · rename_i nm u hb
        have h0 := et_rb_ok hb hE hv
        split at h
        · rename_i hn
          subst hn
          rw [Bool.and_eq_true] at h
          have h1 := of_decide_eq_true h.2
          subst h1
          rcases h0 with ⟨h2, -⟩ | ⟨-, h3⟩
          · exact absurd h2 (by omega)
          · exact .inr ⟨of_decide_eq_true h.1, h3⟩
        · split at h
          · rename_i hn
            subst hn
            rw [Bool.and_eq_true] at h
            have h1 := of_decide_eq_true h.2
            have h2 := of_decide_eq_true h.1
            subst h1
            subst h2
            exact h0
          · rw [Bool.and_eq_true] at h
            have h1 := of_decide_eq_true h.1
            subst h1
            rcases h0 with ⟨-, h3⟩ | ⟨h2, -⟩
            · exact .inl ⟨of_decide_eq_true h.2, h3⟩
            · exact absurd h2 (by omega)
      · cases h
theorem et_eo_set {k : Nat} {p q : et_P} {d : Option (Nat × Int)} {w : Value} (hE : et_eo K R E) (hk : E[k]? = some (p, d)) (hw : R[k]? = some w) (hq : et_v K q w) : et_eo K R (E.set k (q, d)) := by
  refine ⟨by rw [List.length_set]; exact hE.1, fun j p2 d2 hj => ?_⟩
  rw [List.getElem?_set] at hj
  split at hj
  · rename_i e
    subst e
    split at hj
    · cases hj
      obtain ⟨v, h1, -, h3⟩ := hE.2 k p d hk
      rw [hw] at h1
      cases h1
      exact ⟨w, hw, hq, h3⟩
    · cases hj
  · exact hE.2 j p2 d2 hj
theorem et_nu_ok {d : Option (Nat × Int)} {lo hi : Int} (hE : et_eo K R E) (h : ∀ j c, d = some (j, c) → ∃ y : Int32, R[j]? = some (.int y) ∧ lo ≤ y.toInt + c ∧ y.toInt + c ≤ hi) : et_eo K R (et_nu E d lo hi) := by
  unfold et_nu
  split
  · rename_i j c
    obtain ⟨y, y1, y2, y3⟩ := h j c rfl
    split
    · rename_i a b d2 hj
      obtain ⟨z, e, h3, h4⟩ := et_eo_get hE hj y1
      cases e
      exact et_eo_set hE hj y1 ⟨y, rfl, by omega, by omega⟩
    · exact hE
  · exact hE
theorem et_nw_ok {v : Value} {x : Int32} {lo hi : Int} (hE : et_eo K R E) (hv : et_vr R v (.int x)) (h1 : lo ≤ x.toInt) (h2 : x.toInt ≤ hi) : ∃ F, et_nw E v lo hi = some F ∧ et_eo K R F := by
  cases v
  case int y =>
    have e : Value.int x = .int y := hv
    cases e
    exact ⟨E, if_pos ⟨h1, h2⟩, hE⟩
  case float k =>
    obtain ⟨y, e, hy⟩ := hv
    cases e
    unfold et_nw
    dsimp only
    split
    · rename_i a b d hk
      obtain ⟨z, e, h3, h4⟩ := et_eo_get hE hk hy
      cases e
      have c1 : max a lo ≤ x.toInt := by omega
      have c2 : x.toInt ≤ min b hi := by omega
      rw [if_pos (Int.le_trans c1 c2)]
      refine ⟨_, rfl, et_nu_ok (et_eo_set hE hk hy ⟨x, rfl, c1, c2⟩) (fun j c e => ?_)⟩
      obtain ⟨v, v1, -, v3⟩ := hE.2 _ _ _ hk
      rw [hy] at v1
      cases v1
      obtain ⟨x', y, e1, e2, e3⟩ := v3 j c e
      cases e1
      exact ⟨y, e2, by omega, by omega⟩
    · exact ⟨E, rfl, hE⟩
  all_goals exact ⟨E, rfl, hE⟩
theorem et_nw2_ok {u v : Value} {x y : Int32} {a b c d : Int} (hE : et_eo K R E) (hu : et_vr R u (.int x)) (hv : et_vr R v (.int y)) (h1 : a ≤ x.toInt) (h2 : x.toInt ≤ b) (h3 : c ≤ y.toInt) (h4 : y.toInt ≤ d) : ∃ F, et_nw2 E u a b v c d = some F ∧ et_eo K R F := by
  obtain ⟨F, e, hF⟩ := et_nw_ok hE hu h1 h2
  unfold et_nw2
  rw [e]
  exact et_nw_ok hF hv h3 h4
theorem et_as_ok {c : Jvm.ClassFile.Cond} {u v : Value} {x y : Int32} (hE : et_eo K R E) (hu : et_vr R u (.int x)) (hv : et_vr R v (.int y)) (h : et_hb c x y) : ∃ F, et_as E c u v = some F ∧ et_eo K R F := by
  unfold et_as
  split
  · rename_i a b s t ha hs
    obtain ⟨x', e, a1, a2⟩ := et_ib_ok ha hE hu
    cases e
    obtain ⟨y', e, s1, s2⟩ := et_ib_ok hs hE hv
    cases e
    have x1 := et_any x
    have y1 := et_any y
    cases c
    · have h : x = y := h
      subst h
      exact et_nw2_ok hE hu hv s1 s2 a1 a2
    · have h0 : ¬ x = y := h
      have h : ¬ x.toInt = y.toInt := fun e => h0 (Int32.toInt_inj.mp e)
      dsimp only
      split
      · split
        · split
          · exact absurd (show x.toInt = y.toInt by omega) h
          · exact ⟨E, rfl, hE⟩
        · split
          · exact et_nw_ok hE hu (by omega) x1.2
          · split
            · exact et_nw_ok hE hu x1.1 (by omega)
            · exact ⟨E, rfl, hE⟩
      · split
        · split
          · exact et_nw_ok hE hv (by omega) y1.2
          · split
            · exact et_nw_ok hE hv y1.1 (by omega)
            · exact ⟨E, rfl, hE⟩
        · exact ⟨E, rfl, hE⟩
    · have h := Int32.lt_iff_toInt_lt.mp h
      exact et_nw2_ok hE hu hv x1.1 (by omega) (by omega) y1.2
    · have h := Int32.le_iff_toInt_le.mp h
      exact et_nw2_ok hE hu hv (by omega) x1.2 y1.1 (by omega)
    · have h := Int32.lt_iff_toInt_lt.mp h
      exact et_nw2_ok hE hu hv (by omega) x1.2 y1.1 (by omega)
    · have h := Int32.le_iff_toInt_le.mp h
      exact et_nw2_ok hE hu hv x1.1 (by omega) (by omega) y1.2
  · exact ⟨E, rfl, hE⟩
theorem et_hb_ng {c : Jvm.ClassFile.Cond} {x y : Int32} (h : ¬ et_hb c x y) : et_hb (et_ng c) x y := by
  cases c
  · exact h
  · exact Classical.not_not.mp h
  · have h : ¬ x < y := h
    show y ≤ x
    rw [Int32.lt_iff_toInt_lt] at h
    rw [Int32.le_iff_toInt_le]
    omega
  · have h : ¬ y ≤ x := h
    show x < y
    rw [Int32.le_iff_toInt_le] at h
    rw [Int32.lt_iff_toInt_lt]
    omega
  · have h : ¬ y < x := h
    show x ≤ y
    rw [Int32.lt_iff_toInt_lt] at h
    rw [Int32.le_iff_toInt_le]
    omega
  · have h : ¬ x ≤ y := h
    show y < x
    rw [Int32.le_iff_toInt_le] at h
    rw [Int32.lt_iff_toInt_lt]
    omega
end ETD
