/-! SMALL WORLDS: some objects with types of their own, so that no two of them are taken for one another; others of kept types -/
def mw_K (K : et_K) (A ns kp : List Nat) : et_K := fun a => if a < 36 then some 0 else match (A.zip ns).lookup a with
  | some t => some t
  | none => match K a with
    | some t => if kp.contains t = true then some t else none
    | none => none
def mw_v (kp : List Nat) (p : et_P) : Bool := match p with
  | .inr (.inr (_, u)) => decide (u = 0) || kp.contains u
  | _ => true
/-- objects: their old types, their new ones; pointers: object, place, object -/
def mw_p (os : List (Nat × Nat)) (pt : List (Nat × Nat × Nat)) (j k : Nat) (p : et_P) : Bool := match p with
  | .inr (.inr (nl, u)) => decide (nl = 0) && pt.any (fun q => decide (q.1 = j) && (decide (q.2.1 = k) && (match os[q.2.2]? with
    | some (_, n) => decide (n = u)
    | none => false)))
  | _ => false
def mw_d (kp : List Nat) (os : List (Nat × Nat)) (pt : List (Nat × Nat × Nat)) (j : Nat) (d d2 : et_D) : Bool := match d, d2 with
  | .inl (ci, ps), .inl (cj, ps2) => decide (cj = ci) && (decide (ps2.length = ps.length) && (List.range ps.length).all (fun k => match ps[k]?, ps2[k]? with
    | some p, some p2 => et_sk p2 || ((decide (p2 = p) && mw_v kp p) || mw_p os pt j k p2)
    | _, _ => false))
  | .inr (kd, n, ss), .inr (ke, m, ss2) => decide (ke = kd) && (decide (m = n) && ss2.all (fun s => (mw_v kp s.2.2 && ss.any (fun s0 => decide (s0.1 ≤ s.1) && (decide (s.2.1 ≤ s0.2.1) && decide (s0.2.2 = s.2.2)))) || (decide (s.1 = s.2.1) && (decide (5 ≤ kd) && mw_p os pt j s.1 s.2.2))))
  | _, _ => false
def mw_c (T T2 : List et_D) (kp : List Nat) (os : List (Nat × Nat)) (pt : List (Nat × Nat × Nat)) : Bool :=
  ((match T[0]?, T2[0]? with
    | some d, some d2 => mw_d [] [] [] 0 d d2
    | _, _ => false) && kp.all (fun t => decide (2 ≤ t) && (match T[t]?, T2[t]? with
    | some d, some d2 => mw_d kp [] [] 0 d d2
    | _, _ => false))) && ((List.range os.length).all (fun j => match os[j]? with
    | some (o, n) => decide (2 ≤ o) && (decide (2 ≤ n) && (!kp.contains o && (match T[o]?, T2[n]? with
      | some d, some d2 => mw_d kp os pt j d d2
      | _, _ => false)))
    | none => false) && pt.all (fun q => decide (q.1 < os.length) && decide (q.2.2 < os.length)))
theorem mw_l1 : ∀ {A ns : List Nat} {j a n : Nat}, A.Nodup → A[j]? = some a → ns[j]? = some n → (A.zip ns).lookup a = some n
  | [], _, _, _, _, _, h, _ => by cases h
  | _ :: _, [], _, _, _, _, _, h => by cases h
  | x :: A, y :: ns, 0, a, n, _, h1, h2 => by
    cases h1
    cases h2
    show ((x, y) :: A.zip ns).lookup x = some y
    rw [List.lookup_cons, beq_self_eq_true]
  | x :: A, y :: ns, j + 1, a, n, hn, h1, h2 => by
    have h1 : A[j]? = some a := h1
    have h2 : ns[j]? = some n := h2
    have hx : ¬ a = x := fun e => by
      subst e
      exact (List.nodup_cons.mp hn).1 (List.mem_of_getElem? h1)
    show ((x, y) :: A.zip ns).lookup a = some n
    rw [List.lookup_cons, show (a == x) = false from beq_eq_false_iff_ne.mpr hx]
    exact mw_l1 (List.nodup_cons.mp hn).2 h1 h2
theorem mw_l2 : ∀ {A ns : List Nat} {a n : Nat}, (A.zip ns).lookup a = some n → ∃ j : Nat, A[j]? = some a ∧ ns[j]? = some n
  | [], _, _, _, h => by cases h
  | _ :: _, [], _, _, h => by cases h
  | x :: A, y :: ns, a, n, h => by
    have h : ((x, y) :: A.zip ns).lookup a = some n := h
    rw [List.lookup_cons] at h
    cases e : a == x with
    | true =>
      rw [e] at h
      cases h
      exact ⟨0, by rw [eq_of_beq e]; rfl, rfl⟩
    | false =>
      rw [e] at h
      obtain ⟨j, h1, h2⟩ := mw_l2 (A := A) (ns := ns) h
      exact ⟨j + 1, h1, h2⟩
section MWA
variable {T T2 : List et_D} {K K2 : et_K} {G : eg_G} {kp : List Nat} {os : List (Nat × Nat)} {pt : List (Nat × Nat × Nat)} {j a : Nat} {d d2 : et_D}
theorem mw_kv (hkp : ∀ b u, K b = some u → (u = 0 ∨ kp.contains u = true) → K2 b = some u) {p : et_P} {v : Value} (h : mw_v kp p = true) (hv : et_v K p v) : et_v K2 p v := by
  obtain ⟨lo, hi⟩ | ⟨lo, hi⟩ | ⟨nl, u⟩ := p
  · exact hv
  · exact hv
  · rcases hv with h1 | ⟨h1, b, h2, h3⟩
    · exact .inl h1
    · refine .inr ⟨h1, b, h2, hkp _ _ h3 ?_⟩
      unfold mw_v at h
      dsimp only at h
      rw [Bool.or_eq_true] at h
      exact h.imp of_decide_eq_true (fun h => h)
theorem mw_pp (hpt : ∀ q ∈ pt, q.1 = j → ∀ o n, os[q.2.2]? = some (o, n) → ∃ b, et_pl (eg_at G a) q.2.1 = some (.ref b) ∧ K2 b = some n) {k : Nat} {p : et_P} (h : mw_p os pt j k p = true) : ∃ b, et_pl (eg_at G a) k = some (.ref b) ∧ et_v K2 p (.ref b) := by
  unfold mw_p at h
  split at h
  · rename_i nl u
    rw [Bool.and_eq_true] at h
    obtain ⟨h0, h⟩ := h
    obtain ⟨q, hq, h⟩ := List.any_eq_true.mp h
    rw [Bool.and_eq_true, Bool.and_eq_true] at h
    obtain ⟨h1, h2, h3⟩ := h
    split at h3
    · rename_i o n e
      obtain ⟨b, b1, b2⟩ := hpt q hq (of_decide_eq_true h1) o n e
      rw [of_decide_eq_true h2] at b1
      rw [of_decide_eq_true h3] at b2
      exact ⟨b, b1, .inr ⟨by rw [of_decide_eq_true h0]; decide, b, rfl, b2⟩⟩
    · cases h3
  · cases h
theorem mw_o (hkp : ∀ b u, K b = some u → (u = 0 ∨ kp.contains u = true) → K2 b = some u) (hpt : ∀ q ∈ pt, q.1 = j → ∀ o n, os[q.2.2]? = some (o, n) → ∃ b, et_pl (eg_at G a) q.2.1 = some (.ref b) ∧ K2 b = some n) (h : mw_d kp os pt j d d2 = true) (hc : et_c K d (eg_at G a)) (hx : et_cx d a (eg_at G a)) : et_c K2 d2 (eg_at G a) ∧ et_cx d2 a (eg_at G a) := by
  unfold mw_d at h
  split at h
  · rename_i ci ps cj ps2
    rw [Bool.and_eq_true, Bool.and_eq_true] at h
    obtain ⟨h1, h2, h3⟩ := h
    have h1 := of_decide_eq_true h1
    have h2 := of_decide_eq_true h2
    subst h1
    obtain ⟨fs, e, el, ef⟩ := hc
    refine ⟨⟨fs, e, by rw [el, h2], fun k p2 hk => ?_⟩, hx⟩
    have hlt : k < ps.length := by
      rw [← h2]
      exact (List.getElem?_eq_some_iff.mp hk).1
    have h4 := List.all_eq_true.mp h3 k (List.mem_range.mpr hlt)
    rw [List.getElem?_eq_getElem hlt, hk] at h4
    dsimp only at h4
    obtain ⟨v, v1, v2⟩ := ef k _ (List.getElem?_eq_getElem hlt)
    rw [Bool.or_eq_true, Bool.or_eq_true, Bool.and_eq_true] at h4
    rcases h4 with h4 | h4 | h4
    · exact ⟨v, v1, .inl h4⟩
    · have e2 := of_decide_eq_true h4.1
      refine ⟨v, v1, ?_⟩
      rw [e2]
      rcases v2 with v2 | v2
      · exact .inl v2
      · exact .inr (mw_kv hkp h4.2 v2)
    · obtain ⟨b, b1, b2⟩ := mw_pp hpt h4
      refine ⟨.ref b, ?_, .inr b2⟩
      rw [e] at b1
      exact b1
  · rename_i kd n ss ke m ss2
    rw [Bool.and_eq_true, Bool.and_eq_true] at h
    obtain ⟨h1, h2, h3⟩ := h
    have h1 := of_decide_eq_true h1
    have h2 := of_decide_eq_true h2
    subst h1
    subst h2
    obtain ⟨x, e, el, er, es⟩ := hc
    refine ⟨⟨x, e, el, er, fun s hs i i1 i2 i3 => ?_⟩, hx⟩
    have h4 := List.all_eq_true.mp h3 s hs
    rw [Bool.or_eq_true, Bool.and_eq_true, Bool.and_eq_true, Bool.and_eq_true] at h4
    rcases h4 with ⟨h5, h6⟩ | ⟨h5, h5b, h6⟩
    · obtain ⟨s0, hs0, h7⟩ := List.any_eq_true.mp h6
      rw [Bool.and_eq_true, Bool.and_eq_true] at h7
      have a1 := of_decide_eq_true h7.1
      have a2 := of_decide_eq_true h7.2.1
      have a3 := of_decide_eq_true h7.2.2
      obtain ⟨v, v1, v2⟩ := es s0 hs0 i (by omega) (by omega) i3
      rw [a3] at v2
      exact ⟨v, v1, mw_kv hkp h5 v2⟩
    · have h5 := of_decide_eq_true h5
      obtain rfl : i = s.1 := by omega
      obtain ⟨b, b1, b2⟩ := mw_pp hpt h6
      rw [e] at b1
      have b1 : (if s.1 < x.1 then eg_rd ke x s.1 else none) = some (Value.ref b) := b1
      rw [if_pos (by rw [el]; exact i3)] at b1
      exact ⟨.ref b, b1, b2⟩
  · cases h
end MWA
theorem mw_H {T T2 : List et_D} {K : et_K} {G : eg_G} {A kp : List Nat} {os : List (Nat × Nat)} {pt : List (Nat × Nat × Nat)} (hH : et_H T K G) (hc : mw_c T T2 kp os pt = true) (hl : A.length = os.length) (hn : A.Nodup) (hk : ∀ (j a o n : Nat), A[j]? = some a → os[j]? = some (o, n) → K a = some o) (hp : ∀ q ∈ pt, ∀ a b, A[q.1]? = some a → A[q.2.2]? = some b → et_pl (eg_at G a) q.2.1 = some (.ref b)) : et_H T2 (mw_K K A (os.map (·.2)) kp) G ∧ ∀ (j a n : Nat), A[j]? = some a → (os.map (·.2))[j]? = some n → mw_K K A (os.map (·.2)) kp a = some n := by
  unfold mw_c at hc
  rw [Bool.and_eq_true, Bool.and_eq_true, Bool.and_eq_true] at hc
  obtain ⟨⟨c1, c2⟩, c3, c4⟩ := hc
  have hos : ∀ (j o n : Nat), os[j]? = some (o, n) → 2 ≤ o ∧ 2 ≤ n ∧ kp.contains o = false ∧ ∃ d d2, T[o]? = some d ∧ T2[n]? = some d2 ∧ mw_d kp os pt j d d2 = true := fun j o n h => by
    have h1 := List.all_eq_true.mp c3 j (List.mem_range.mpr (List.getElem?_eq_some_iff.mp h).1)
    rw [h] at h1
    dsimp only at h1
    rw [Bool.and_eq_true, Bool.and_eq_true, Bool.and_eq_true] at h1
    obtain ⟨h2, h3, h4, h5⟩ := h1
    refine ⟨of_decide_eq_true h2, of_decide_eq_true h3, by simpa using h4, ?_⟩
    split at h5
    · rename_i d d2 e1 e2
      exact ⟨d, d2, e1, e2, h5⟩
    · cases h5
  have hA : ∀ (j a : Nat), A[j]? = some a → ∃ o n, os[j]? = some (o, n) ∧ K a = some o := fun j a h => by
    have hlt : j < os.length := by
      rw [← hl]
      exact (List.getElem?_eq_some_iff.mp h).1
    exact ⟨os[j].1, os[j].2, List.getElem?_eq_getElem hlt, hk j a _ _ h (List.getElem?_eq_getElem hlt)⟩
  have hbig : ∀ (j a : Nat), A[j]? = some a → eg_NC ≤ a ∧ a < G.2 := fun j a h => by
    obtain ⟨o, n, h1, h2⟩ := hA j a h
    exact ⟨(hH.2.2 a o h2).2.2.1 (hos j o n h1).1, (hH.2.2 a o h2).1⟩
  have hNC : (36 : Nat) ≤ eg_NC := by decide
  have hnew : ∀ (j a n : Nat), A[j]? = some a → (os.map (·.2))[j]? = some n → mw_K K A (os.map (·.2)) kp a = some n := fun j a n h1 h2 => by
    unfold mw_K
    rw [if_neg (by have := (hbig j a h1).1; omega), mw_l1 hn h1 h2]
  have hkp : ∀ b u, K b = some u → (u = 0 ∨ kp.contains u = true) → mw_K K A (os.map (·.2)) kp b = some u := fun b u h1 h2 => by
    obtain ⟨g1, g2, g3, -⟩ := hH.2.2 b u h1
    unfold mw_K
    by_cases hb : b < 36
    · rw [if_pos hb]
      have := hH.2.1 b hb
      rw [h1] at this
      exact this.symm
    · rw [if_neg hb]
      have h2 : kp.contains u = true := h2.resolve_left (fun e => hb (g2 e))
      have hlk : (A.zip (os.map (·.2))).lookup b = none := by
        cases e : (A.zip (os.map (·.2))).lookup b with
        | none => rfl
        | some n =>
          exfalso
          obtain ⟨j, e1, e2⟩ := mw_l2 e
          obtain ⟨o, n', e3, e4⟩ := hA j b e1
          rw [h1] at e4
          cases e4
          have := (hos j u n' e3).2.2.1
          rw [this] at h2
          cases h2
      rw [hlk, h1]
      dsimp only
      rw [if_pos h2]
  refine ⟨⟨hH.1, fun a ha => if_pos ha, fun a t h => ?_⟩, hnew⟩
  unfold mw_K at h
  by_cases ha : a < 36
  · rw [if_pos ha] at h
    cases h
    have h0 := hH.2.1 a ha
    obtain ⟨g1, -, -, d, hd, hcc, hcx⟩ := hH.2.2 a 0 h0
    refine ⟨g1, fun _ => ha, fun h => absurd h (by decide), ?_⟩
    rw [hd] at c1
    dsimp only at c1
    split at c1
    · rename_i d1 d2 e1 e2
      cases e1
      refine ⟨d2, e2, mw_o (kp := []) (os := []) (pt := []) (K2 := mw_K K A (os.map (·.2)) kp) (fun b u h1 h2 => hkp b u h1 (h2.imp (fun h => h) (fun h => by cases h))) (fun q hq => absurd hq List.not_mem_nil) c1 hcc hcx⟩
    · cases c1
  · rw [if_neg ha] at h
    split at h
    · rename_i n e
      cases h
      obtain ⟨j, e1, e2⟩ := mw_l2 e
      obtain ⟨o, n', e3, e4⟩ := hA j a e1
      rw [List.getElem?_map, e3] at e2
      cases e2
      obtain ⟨g1, g2, g3, d, d2, g4, g5, g6⟩ := hos j o n' e3
      obtain ⟨b1, -, b3, dd, hd, hcc, hcx⟩ := hH.2.2 a o e4
      rw [g4] at hd
      cases hd
      refine ⟨b1, fun e => by omega, fun _ => b3 g1, d2, g5, mw_o (K2 := mw_K K A (os.map (·.2)) kp) hkp (fun q hq hj o' n' ho' => ?_) g6 hcc hcx⟩
      have hq4 := List.all_eq_true.mp c4 q hq
      rw [Bool.and_eq_true] at hq4
      have q2 := of_decide_eq_true hq4.2
      have hbA : A[q.2.2]? = some A[q.2.2] := List.getElem?_eq_getElem (by rw [hl]; exact q2)
      exact ⟨_, hp q hq a _ (by rw [hj]; exact e1) hbA, hnew q.2.2 _ n' hbA (by rw [List.getElem?_map, ho']; rfl)⟩
    · rename_i e
      cases hKa : K a with
      | none => rw [hKa] at h; cases h
      | some u =>
        rw [hKa] at h
        dsimp only at h
        split at h
        · rename_i hu
          cases h
          obtain ⟨g1, g2, g3, d, hd, hcc, hcx⟩ := hH.2.2 a u hKa
          have h9 := List.all_eq_true.mp c2 u (List.contains_iff_mem.mp hu)
          rw [Bool.and_eq_true, hd] at h9
          obtain ⟨h8, h9⟩ := h9
          dsimp only at h9
          split at h9
          · rename_i d1 d2 e1 e2
            cases e1
            exact ⟨g1, g2, g3, d2, e2, mw_o (os := []) (pt := []) (K2 := mw_K K A (os.map (·.2)) kp) hkp (fun q hq => absurd hq List.not_mem_nil) h9 hcc hcx⟩
          · cases h9
        · cases h
/-- a run in a small world -/
theorem gm_ok {T T2 : List et_D} {K : et_K} {G : eg_G} {A kp : List Nat} {os : List (Nat × Nat)} {pt : List (Nat × Nat × Nat)} {an : Nat → Nat → Option et_A} {mi d d2 : Nat} {ps gs : List et_P} {C : et_C} {M : et_M} {es : List gh_E} {as bs : List Value} (hH : et_H T K G) (hc : mw_c T T2 kp os pt = true) (hl : A.length = os.length) (hn : A.Nodup) (hk : ∀ (j a o n : Nat), A[j]? = some a → os[j]? = some (o, n) → K a = some o) (hp : ∀ q ∈ pt, ∀ a b, A[q.1]? = some a → A[q.2.2]? = some b → et_pl (eg_at G a) q.2.1 = some (.ref b)) (h : gh_chk T2 [] an mi d ps gs C M es = true) (hd : d ≤ d2) (hla : as.length = ps.length) (hlb : bs.length = gs.length) (hv : (∀ (j a n : Nat), A[j]? = some a → (os.map (·.2))[j]? = some n → mw_K K A (os.map (·.2)) kp a = some n) → ∀ (i : Nat) (p : et_P) (v : Value), (ps ++ gs)[i]? = some p → (as ++ bs)[i]? = some v → et_v (mw_K K A (os.map (·.2)) kp) p v) (hC : et_co (as ++ bs) G C) : et_go none d2 mi 0 (eg_en (eg_mL mi) as) [] G 0 0 (fun u => (∀ (j a n i : Nat), A[j]? = some a → (os.map (·.2))[j]? = some n → et_mm M n i = false → et_pl (eg_at u.2.1 a) i = et_pl (eg_at G a) i) ∧ ∃ e ∈ es, gh_P (as ++ bs) u e) := by
  obtain ⟨h2, hnew⟩ := mw_H hH hc hl hn hk hp
  refine (gh_ok (w := (mw_K K A (os.map (·.2)) kp, [], G)) (fun q hq => absurd hq List.not_mem_nil) h h2 hd hla hlb (hv hnew) hC).mono (fun u hu => ?_)
  obtain ⟨⟨K', x1, f1, -⟩, he⟩ := hu
  exact ⟨fun j a n i h1 h2 h3 => f1.2 a n (hnew j a n h1 h2) i h3, he⟩
