/-! FUNCTIONAL: readComparison, readGroup, readAtom, takeCondition -/
theorem sp_cmp_0 {L : List sp_T} {x : Nat} (h : sp_sum (L.drop x) = none) : sp_cmp (L.drop x) = none := by
  unfold sp_cmp
  rw [h]
theorem sp_cmp_1 {L : List sp_T} {x y : Nat} {a : sp_E → Int64} (h : sp_sum (L.drop x) = some (a, L.drop y)) (h1 : ¬ wat L y = 25) (h2 : ¬ wat L y = 26) : sp_cmp (L.drop x) = none := by
  unfold sp_cmp
  rw [h]
  rcases wat_c L y with ⟨-, -, e⟩ | ⟨m, -, e⟩
  · rw [e]
  · rw [e]
    dsimp only
    exact if_neg (fun hh => hh.elim h1 h2)
theorem sp_cmp_2 {L : List sp_T} {x y w : Nat} {a : sp_E → Int64} (h : sp_sum (L.drop x) = some (a, L.drop y)) (h1 : wat L y = w) (hw : w = 25 ∨ w = 26) : sp_cmp (L.drop x) = (match sp_sum (L.drop (y + 1)) with
    | some (b, r3) => some (fun e => if w = 25 then decide (a e < b e) else decide (b e < a e), r3)
    | none => none) := by
  obtain ⟨m, hm, -⟩ := wat_t h1 (by omega)
  unfold sp_cmp
  rw [h, dr_s hm]
  dsimp only
  rw [if_pos hw]
  rfl
theorem sp_cmp_n {L : List sp_T} {x y w : Nat} {a : sp_E → Int64} (h : sp_sum (L.drop x) = some (a, L.drop y)) (h1 : wat L y = w) (hw : w = 25 ∨ w = 26) (h2 : sp_sum (L.drop (y + 1)) = none) : sp_cmp (L.drop x) = none := by
  rw [sp_cmp_2 h h1 hw, h2]
theorem sp_cmp_y {L : List sp_T} {x y w : Nat} {a b : sp_E → Int64} {r : List sp_T} (h : sp_sum (L.drop x) = some (a, L.drop y)) (h1 : wat L y = w) (hw : w = 25 ∨ w = 26) (h2 : sp_sum (L.drop (y + 1)) = some (b, r)) : sp_cmp (L.drop x) = some (fun e => if w = 25 then decide (a e < b e) else decide (b e < a e), r) := by
  rw [sp_cmp_2 h h1 hw, h2]
-- atoms
section SPAT
variable {L : List sp_T} {x m : Nat} {A C : sp_P (sp_E → Bool)}
theorem sp_at_e (h : L[x]? = none) : sp_at m A C (L.drop x) = none := by
  rw [dr_n h]
  rfl
theorem sp_at_not (h : wat L x = 22) : sp_at m A C (L.drop x) = if m = 0 then none else (match A (L.drop (x + 1)) with
    | some (f, r2) => some (fun e => !f e, r2)
    | none => none) := by
  obtain ⟨n, hn, -⟩ := wat_t h (by decide)
  rw [dr_s hn]
  rfl
theorem sp_at_op (h : wat L x = 23) : sp_at m A C (L.drop x) = if m = 0 then none else (match C (L.drop (x + 1)) with
    | some (f, (w2, _) :: r2) => if w2 = 24 then some (f, r2) else none
    | _ => none) := by
  obtain ⟨n, hn, -⟩ := wat_t h (by decide)
  rw [dr_s hn]
  rfl
theorem sp_at_0 (h : wat L x = 22 ∨ wat L x = 23) : sp_at 0 A C (L.drop x) = none := by
  rcases h with h | h
  · rw [sp_at_not h, if_pos rfl]
  · rw [sp_at_op h, if_pos rfl]
theorem sp_at_nn (h : wat L x = 22) (hA : A (L.drop (x + 1)) = none) : sp_at (m + 1) A C (L.drop x) = none := by
  rw [sp_at_not h, hA]
  rfl
theorem sp_at_ny {f : sp_E → Bool} {r : List sp_T} (h : wat L x = 22) (hA : A (L.drop (x + 1)) = some (f, r)) : sp_at (m + 1) A C (L.drop x) = some (fun e => !f e, r) := by
  rw [sp_at_not h, hA]
  rfl
theorem sp_at_on (h : wat L x = 23) (hC : C (L.drop (x + 1)) = none) : sp_at (m + 1) A C (L.drop x) = none := by
  rw [sp_at_op h, hC]
  rfl
theorem sp_at_oc {f : sp_E → Bool} {y : Nat} (h : wat L x = 23) (hC : C (L.drop (x + 1)) = some (f, L.drop y)) (hw : ¬ wat L y = 24) : sp_at (m + 1) A C (L.drop x) = none := by
  rw [sp_at_op h, hC]
  rcases wat_c L y with ⟨-, -, e⟩ | ⟨n, -, e⟩
  · rw [e]
    rfl
  · rw [e]
    show (if wat L y = 24 then some (f, L.drop (y + 1)) else none) = _
    exact if_neg hw
theorem sp_at_oy {f : sp_E → Bool} {y : Nat} (h : wat L x = 23) (hC : C (L.drop (x + 1)) = some (f, L.drop y)) (hw : wat L y = 24) : sp_at (m + 1) A C (L.drop x) = some (f, L.drop (y + 1)) := by
  rw [sp_at_op h, hC]
  obtain ⟨n, hn, -⟩ := wat_t hw (by decide)
  rw [dr_s hn]
  rfl
theorem sp_at_t {n : Option Nat} (h1 : ¬ wat L x = 22) (h2 : ¬ wat L x = 23) (h3 : sp_tw (wat L x) = true) : sp_at m A C (L.drop x) = sp_tag (wat L x) (L.drop (x + 1)) := by
  obtain ⟨n, hn, -⟩ := wat_t (L := L) (x := x) rfl (fun h => by rw [h] at h3; exact absurd h3 (by decide))
  rw [dr_s hn]
  show (if wat L x = 22 then _ else _) = _
  rw [if_neg h1, if_neg h2, if_pos h3]
theorem sp_at_c (h1 : ¬ wat L x = 22) (h2 : ¬ wat L x = 23) (h3 : ¬ sp_tw (wat L x) = true) : sp_at m A C (L.drop x) = sp_cmp (L.drop x) := by
  rcases wat_c L x with ⟨hn, -, e⟩ | ⟨n, -, e⟩
  · rw [e]
    rfl
  · rw [e]
    show (if wat L x = 22 then _ else _) = _
    rw [if_neg h1, if_neg h2, if_neg h3]
end SPAT
/-- sp_A is sp_at of something -/
theorem sp_A_at (m : Nat) : ∃ A C : sp_P (sp_E → Bool), sp_A m = sp_at m A C ∧ ∀ k, m = k + 1 → A = sp_A k ∧ C = sp_C k := by
  cases m with
  | zero => exact ⟨_, _, rfl, fun k h => absurd h (by omega)⟩
  | succ m => exact ⟨_, _, rfl, fun k h => by cases h; exact ⟨rfl, rfl⟩⟩
/-- a group that is being read: the group, its first, its last, what they say -/
def gI (G : eg_G) (n g hi a b : Nat) (fs : List (sp_E → Bool)) : Prop := ∃ (qs : List (Nat × ((Nat × Nat) × (sp_E → Bool)))) (q : (Nat × Nat) × (sp_E → Bool)), ch G (.ref a) ((qs ++ [(b, q)]).map (·.1)) ∧ (∀ c ∈ qs ++ [(b, q)], g < c.2.1.1 ∧ c.2.1.2 ≤ hi ∧ dn G n c.2.1.1 c.2.1.2 c.1 c.2.2) ∧ ((qs ++ [(b, q)]).map (·.2.1)).Pairwise (fun x y => x.2 ≤ y.1) ∧ fs = (qs ++ [(b, q)]).map (·.2.2)
theorem gI.fr {G G' : eg_G} {n g hi a b : Nat} {fs : List (sp_E → Bool)} (h : gI G n g hi a b fs) (ha : agf G G' (g + 1) hi) : gI G' n g hi a b fs := by
  obtain ⟨qs, q, h1, h2, h3, h4⟩ := h
  refine ⟨qs, q, h1.fr (fun c hc => ?_), fun c hc => ⟨(h2 c hc).1, (h2 c hc).2.1, (h2 c hc).2.2.fr (fun a' a1 a2 i _ => ha a' (by have := (h2 c hc).1; omega) (by have := (h2 c hc).2.1; omega) i)⟩, h3, h4⟩
  obtain ⟨p, hp, rfl⟩ := List.mem_map.mp hc
  have h5 := h2 p hp
  have h6 := h5.2.2.in
  exact ha p.1 (by omega) (by omega) 1
theorem gI.bd {G : eg_G} {n g hi a b : Nat} {fs : List (sp_E → Bool)} (h : gI G n g hi a b fs) : g < b ∧ b < hi ∧ g < a ∧ a < hi := by
  obtain ⟨qs, q, h1, h2, -, -⟩ := h
  have hb := h2 (b, q) (List.mem_append_right _ List.mem_cons_self)
  have hb2 : q.1.1 ≤ b ∧ b < q.1.2 := hb.2.2.in
  have hb3 : g < q.1.1 := hb.1
  have hb4 : q.1.2 ≤ hi := hb.2.1
  refine ⟨by omega, by omega, ?_⟩
  cases qs with
  | nil =>
    have e : Value.ref a = .ref b := h1.1
    cases e
    exact ⟨by omega, by omega⟩
  | cons p qs =>
    have e : Value.ref a = .ref p.1 := h1.1
    cases e
    have hq := h2 p List.mem_cons_self
    have hq2 := hq.2.2.in
    exact ⟨by omega, by omega⟩
theorem gI.one {G : eg_G} {n g lo hi hi' c : Nat} {f : sp_E → Bool} (h1 : kpl G c 1 .null) (hg : g < lo) (hh : hi' ≤ hi) (hd : dn G n lo hi' c f) : gI G n g hi c c [f] := by
  refine ⟨[], ((lo, hi'), f), ⟨rfl, .null, h1, rfl⟩, fun p hp => ?_, List.pairwise_singleton _ _, rfl⟩
  obtain rfl := List.mem_singleton.mp hp
  exact ⟨hg, hh, hd⟩
theorem gI.snoc {G G' : eg_G} {n g hi lo2 hi2 hi' a b c : Nat} {fs : List (sp_E → Bool)} {f : sp_E → Bool} (h : gI G n g hi a b fs) (ha : ∀ c, g < c → c < hi → ∀ i, ¬ (c = b ∧ i = 1) → et_pl (eg_at G' c) i = et_pl (eg_at G c) i) (h1 : kpl G' b 1 (.ref c)) (h2 : kpl G' c 1 .null) (hl : hi ≤ lo2) (hg : g < lo2) (hh : hi2 ≤ hi') (hhi : hi ≤ hi') (hd : dn G' n lo2 hi2 c f) : gI G' n g hi' a c (fs ++ [f]) := by
  obtain ⟨qs, q, h3, h4, h5, h6⟩ := h
  have hb := h4 (b, q) (List.mem_append_right _ List.mem_cons_self)
  have hb2 : q.1.1 ≤ b ∧ b < q.1.2 := hb.2.2.in
  have hlt : ∀ p ∈ qs, p.2.1.2 ≤ q.1.1 := fun p hp => by
    rw [List.map_append] at h5
    exact (List.pairwise_append.mp h5).2.2 p.2.1 (List.mem_map.mpr ⟨p, hp, rfl⟩) q.1 (List.mem_cons_self ..)
  refine ⟨qs ++ [(b, q)], ((lo2, hi2), f), ?_, fun p hp => ?_, ?_, ?_⟩
  · have h3' : ch G (.ref a) (qs.map (·.1) ++ [b]) := by
      rw [List.map_append] at h3
      exact h3
    have h7 := ch_snoc (o := c) h3' (fun c' hc => ?_) h1 h2
    · rw [List.map_append, List.map_append]
      exact h7
    · obtain ⟨p, hp, rfl⟩ := List.mem_map.mp hc
      have h8 := h4 p (List.mem_append_left _ hp)
      have h9 := h8.2.2.in
      have h10 := hlt p hp
      exact ha p.1 (by omega) (by omega) 1 (by omega)
  · rcases List.mem_append.mp hp with hp | hp
    · have h8 := h4 p hp
      refine ⟨h8.1, by omega, h8.2.2.fr (fun a' a1 a2 i hi' => ha a' (by omega) (by omega) i (fun hb' => ?_))⟩
      rcases List.mem_append.mp hp with hp | hp
      · have := hlt p hp
        omega
      · obtain rfl := List.mem_singleton.mp hp
        exact hi' hb'
    · obtain rfl := List.mem_singleton.mp hp
      exact ⟨hg, hh, hd⟩
  · rw [List.map_append]
    refine List.pairwise_append.mpr ⟨h5, List.pairwise_singleton _ _, fun x hx y hy => ?_⟩
    obtain rfl := List.mem_singleton.mp hy
    obtain ⟨p, hp, rfl⟩ := List.mem_map.mp hx
    have h8 := h4 p hp
    show p.2.1.2 ≤ lo2
    omega
  · rw [h6, List.map_append (l₁ := qs ++ [(b, q)])]
    rfl
def gF (k : Nat) (fs : List (sp_E → Bool)) (e : sp_E) : Bool := if k = 0 then fs.any (fun f => f e) else fs.all (fun f => f e)
theorem gF_one {k : Nat} {f : sp_E → Bool} : gF k [f] = f := by
  funext e
  unfold gF
  split
  · show (f e || false) = _
    rw [Bool.or_false]
  · show (f e && true) = _
    rw [Bool.and_true]
theorem gF_0 {fs : List (sp_E → Bool)} {f : sp_E → Bool} : gF 0 (fs ++ [f]) = fun e => gF 0 fs e || f e := by
  funext e
  unfold gF
  rw [if_pos rfl, if_pos rfl, List.any_append]
  show (_ || (f e || false)) = _
  rw [Bool.or_false]
theorem gF_1 {fs : List (sp_E → Bool)} {f : sp_E → Bool} : gF 1 (fs ++ [f]) = fun e => gF 1 fs e && f e := by
  funext e
  unfold gF
  rw [if_neg (by decide), if_neg (by decide), List.all_append]
  show (_ && (f e && true)) = _
  rw [Bool.and_true]
/-- one alone -/
theorem gI.alone {G : eg_G} {n g hi a k : Nat} {fs : List (sp_E → Bool)} (h : gI G n g hi a a fs) : ∃ lo' hi', g < lo' ∧ hi' ≤ hi ∧ dn G n lo' hi' a (gF k fs) := by
  obtain ⟨qs, q, h1, h2, h3, h4⟩ := h
  cases qs with
  | nil =>
    have hb := h2 (a, q) List.mem_cons_self
    refine ⟨q.1.1, q.1.2, hb.1, hb.2.1, ?_⟩
    rw [h4]
    show dn G n q.1.1 q.1.2 a (gF k [q.2])
    rw [gF_one]
    exact hb.2.2
  | cons p qs =>
    exfalso
    have e : Value.ref a = .ref p.1 := h1.1
    have e : a = p.1 := Value.ref.inj e
    have hp := (h2 p List.mem_cons_self).2.2.in
    have hb : q.1.1 ≤ a ∧ a < q.1.2 := (h2 (a, q) (List.mem_append_right _ List.mem_cons_self)).2.2.in
    have h5 := (List.pairwise_cons.mp (show List.Pairwise (fun x y : Nat × Nat => x.2 ≤ y.1) (p.2.1 :: (qs ++ [(a, q)]).map (·.2.1)) from h3)).1 q.1 (by rw [List.map_append]; exact List.mem_append_right _ List.mem_cons_self)
    omega
/-- the group itself -/
theorem gI.dn {G : eg_G} {n g lo hi a b k : Nat} {fs : List (sp_E → Bool)} (h : gI G n g hi a b fs) (hk : k ≤ 1) (h0 : kpl G g 0 (.int (Int32.ofNat k))) (h2 : kpl G g 2 (.ref a)) (hl : lo ≤ g) : dn G (n + 1) lo hi g (gF k fs) := by
  have hbd := h.bd
  obtain ⟨qs, q, h3, h4, h5, h6⟩ := h
  refine ⟨⟨hl, by omega⟩, .inr (.inr ⟨k, qs ++ [(b, q)], .ref a, by omega, h0, h2, h3, h4, h5, fun hk2 => absurd hk2 (by omega), ?_⟩)⟩
  funext e
  rw [h6]
  unfold gF
  split
  · rw [List.any_map]
    rfl
  · rw [if_pos (by omega), List.all_map]
    rfl
theorem dn_not {G : eg_G} {n g lo lo' hi hi' c : Nat} {f : sp_E → Bool} (h : dn G n lo' hi' c f) (hg : lo ≤ g ∧ g < lo') (hh : hi' ≤ hi) (h0 : kpl G g 0 (.int (Int32.ofNat 2))) (h2 : kpl G g 2 (.ref c)) (nc : kpl G c 1 .null) : dn G (n + 1) lo hi g (fun e => !f e) := by
  have hc := h.in
  refine ⟨⟨hg.1, by omega⟩, .inr (.inr ⟨2, [(c, ((lo', hi'), f))], .ref c, by decide, h0, h2, ⟨rfl, .null, nc, rfl⟩, fun p hp => ?_, List.pairwise_singleton _ _, fun _ => rfl, ?_⟩)⟩
  · obtain rfl := List.mem_singleton.mp hp
    exact ⟨hg.2, hh, h⟩
  · funext e
    show (!f e) = !(f e && true)
    rw [Bool.and_true]
def fA (m : Nat) : Prop := ∀ (K : et_K) (G : eg_G) (d2 rd x dep : Nat) (L : List sp_T), et_H et_TT K G → K rd = some 7 → tk K G rd L → tl L → et_pl (eg_at G rd) 8 = some (.int (Int32.ofNat x)) → x ≤ L.length → et_pl (eg_at G rd) 2 = some (.int (-1)) → dep + m = 6 → 4 + 3 * m ≤ d2 → et_go none d2 77 0 (eg_en (eg_mL 77) [.ref rd, .int (Int32.ofNat dep)]) [] G 0 0 (fz rd L x K G (fB (1 + 2 * m) G.2) (sp_A m (L.drop x)))
def fG (kn t m : Nat) (sp : sp_P (sp_E → Bool)) : Prop := ∀ (K : et_K) (G : eg_G) (d2 rd x dep : Nat) (L : List sp_T), et_H et_TT K G → K rd = some 7 → tk K G rd L → tl L → et_pl (eg_at G rd) 8 = some (.int (Int32.ofNat x)) → x ≤ L.length → et_pl (eg_at G rd) 2 = some (.int (-1)) → dep + m = 6 → 4 + t + 3 * m ≤ d2 → et_go none d2 75 0 (eg_en (eg_mL 75) [.ref rd, .int (Int32.ofNat kn), .int (Int32.ofNat dep)]) [] G 0 0 (fz rd L x K G (fB (1 + t + 2 * m) G.2) (sp (L.drop x)))

section FQA
variable {K K0 : et_K} {G G0 : eg_G} {L : List sp_T} {d2 d rd x dep m : Nat}
theorem fx_cmp (hH : et_H et_TT K G) (k_rd : K rd = some 7) (htk : tk K G rd L) (htl : tl L) (r8 : et_pl (eg_at G rd) 8 = some (.int (Int32.ofNat x))) (hx : x ≤ L.length) (r2 : et_pl (eg_at G rd) 2 = some (.int (-1))) (hd : 3 ≤ d2) : et_go none d2 80 0 (eg_en (eg_mL 80) [.ref rd]) [] G 0 0 (fz rd L x K G (fB 1 G.2) (sp_cmp (L.drop x))) := by
  obtain ⟨d, rfl⟩ : ∃ d, d2 = d + 3 := ⟨d2 - 3, by omega⟩
  rw [show eg_mL 80 = 4 from by decide +kernel]
  show et_go none (d + 3) 80 0 [some (.ref rd), none, none, none] [] G 0 0 _
  have lt_rd := (hH.2.2 _ _ k_rd).1
  have hX : xf (fun b j => (b = rd ∧ (2 ≤ j ∧ j ≤ 3)) ∨ (b = rd ∧ j = 8)) G G := xf.rf
  have hx0 : et_ex K K := et_ex.rf
  have hl4 : L.length ≤ 400 := by obtain ⟨_, _, _, _, _, h, _⟩ := htk; exact h
  have lr0 := (hH.2.2 _ _ k_rd).1
  refine hs_aload (i := 0) (p := 1) (by decide +kernel) rfl ?_
  have hHo := hH
  refine ht_callv (T := et_TT) (t := 7) (mi := 81) (na := 0) (ci := 5) (lk := 4) (lm := 6) (L0 := eg_en (eg_mL 81) [.ref rd]) (by decide +kernel) rfl hH k_rd rfl rfl rfl rfl rfl (by rw [show eg_mL 81 = 6 from by decide +kernel]; first | done | rfl) ?_
  refine ((pp_sum hH k_rd r8 (by omega) (by omega)).and (fx_sum hH k_rd htk htl r8 (by omega) r2 (by omega))).mono (fun u hu => fz_cb (t := 0) (by decide) hu (fun K1 G1 v1 c1 s1 hxx1 hH x1 hc1 hs1 hm1 => ?_))
  have x1 := rx_in x1
  have lt_rd := Nat.lt_of_lt_of_le lt_rd x1.1
  have hX := hX.tr x1 (fun b j hb h => by first | omega | (dsimp only at h ⊢; omega) | (dsimp only at h; omega) | (dsimp only; omega))
  have m1 := x1.1
  have htk := htk.xf hHo k_rd hxx1 x1 (fun a j hs => .inl (by first | omega | (dsimp only at hs; omega)))
  have k_rd := hxx1 _ _ k_rd
  have hx0 := hx0.tr hxx1
  rcases sp1 : sp_sum (L.drop x) with _ | ⟨f1, r1⟩
  · rw [sp1] at hm1
    obtain ⟨rfl, q1, hq1, r2⟩ := hm1
    show et_go none _ 80 4 _ [.null] _ _ _ _
    refine hs_astore0 (i := 1) (p := 5) (by decide +kernel) (Nat.le_of_ble_eq_true rfl) ?_
    refine hs_aload0 (i := 1) (p := 6) (by decide +kernel) rfl ?_
    refine hs_ifnonnull0 (p := 9) (by decide +kernel) ?_
    refine hs_nul (p := 10) (by decide +kernel) ?_
    refine hs_aretN (cn := "KnobEye$Node") (by decide +kernel) ?_
    refine ⟨_, _, _, _, _, rfl, hx0, hH, rx_out hX, ?_⟩
    rw [sp_cmp_0 sp1]
    exact ⟨rfl, _, (by omega), r2⟩
  · rw [sp1] at hm1
    obtain ⟨y1, b1, rfl, hy1, hz1, r8, r2, rfl, k_b1, R1⟩ := hm1
    have lt_b1 := (hH.2.2 _ _ k_b1).1
    obtain ⟨R1, lo1⟩ := R1
    show et_go none _ 80 4 _ [.ref b1] _ _ _ _
    refine hs_astore (i := 1) (p := 5) (by decide +kernel) (Nat.le_of_ble_eq_true rfl) ?_
    refine hs_aload (i := 1) (p := 6) (by decide +kernel) rfl ?_
    refine hs_ifnonnull1 (p := 11) (by decide +kernel) ?_
    refine hs_aload (i := 0) (p := 12) (by decide +kernel) rfl ?_
    refine hs_gst (v := Value.ref 25) (p := 15) (by decide +kernel) ?_
    refine ht_callv (T := et_TT) (t := 7) (mi := 78) (na := 1) (ci := 5) (lk := 4) (lm := 2) (L0 := eg_en (eg_mL 78) [.ref rd, .ref 25]) (by decide +kernel) rfl hH k_rd rfl rfl rfl rfl rfl (by rw [show eg_mL 78 = 2 from by decide +kernel]; first | done | rfl) ?_
    refine (fc_is hH k_rd htk htl r8 (by omega) (wd := 25) (by decide)).mono (fun u hu => xp_cb hu ?_)
    by_cases i15 : wat L y1 = 25
    · rw [if_pos i15]
      have il15 : y1 < L.length := wat_i (by rw [i15]; decide)
      show et_go none _ 80 18 _ [.int (Int32.ofNat 1)] _ _ _ _
      refine hs_istore (i := 2) (p := 19) (by decide +kernel) (Nat.le_of_ble_eq_true rfl) ?_
      refine hs_iload (i := 2) (p := 20) (by decide +kernel) rfl ?_
      refine hs_if1 (c := .ne) (t := 38) (f := 23) (by decide +kernel) (show ¬ Int32.ofNat 1 = 0 by decide) ?_
      refine hs_aload (i := 0) (p := 39) (by decide +kernel) rfl ?_
      refine hs_dup1 (p := 40) (by decide +kernel) ?_
      refine hf_get (T := et_TT) (t := 7) (ci := 5) (f := 8) (p := 43) (by decide +kernel) rfl hH k_rd r8 ?_
      refine hs_k (x := Int32.ofNat 1) (p := 44) (by decide +kernel) ?_
      refine hs_iaddn (p := 45) (by decide +kernel) ?_
      have hHo := hH
      refine hf_put (T := et_TT) (t := 7) (ci := 5) (f := 8) (p := 48) (ty := .int) (by decide +kernel) rfl rfl rfl rfl rfl hH k_rd (hi_nv (by omega) (by omega)) (fun G45 hH x45 e45 => ?_)
      have r2 := (x45.2 rd 2 lt_rd (fun h => absurd h.2 (by decide))).trans r2
      have lt_rd := Nat.lt_of_lt_of_le lt_rd x45.1
      have lt_b1 := Nat.lt_of_lt_of_le lt_b1 x45.1
      have hX := hX.tr x45 (fun b j hb h => by first | omega | (dsimp only at h ⊢; omega) | (dsimp only at h; omega) | (dsimp only; omega))
      have m45 := x45.1
      have htk := htk.xf hHo k_rd et_ex.rf x45 (fun a j hs => .inl (by first | omega | (dsimp only at hs; omega)))
      have R1 := R1.fr (x45.agf (lo := G.2) (hi := G1.2) (by omega) (fun a j h1 h2 hs => by first | omega | (dsimp only at hs; omega)))
      have e45 : et_pl (eg_at G45 rd) 8 = some (.int (Int32.ofNat (y1 + 1))) := e45
      have hHo := hH
      refine hf_newN (p := 51) (by decide +kernel) (by omega) (by omega) hH (fun KK48 GG48 hxx48 x48 hH k_G45_2 mm48 hf48 => ?_)
      have r2 := (x48.2 rd 2 lt_rd (fun h => h)).trans r2
      have e45 := (x48.2 rd 8 lt_rd (fun h => h)).trans e45
      have lt_rd := Nat.lt_of_lt_of_le lt_rd x48.1
      have lt_b1 := Nat.lt_of_lt_of_le lt_b1 x48.1
      have hX := hX.tr x48 (fun b j hb h => h.elim)
      have m48 := x48.1
      have htk := htk.xf hHo k_rd hxx48 x48 (fun a j hs => absurd hs id)
      have R1 := R1.fr (x48.agf (lo := G.2) (hi := G1.2) (by omega) (fun a j h1 h2 hs => by exact hs))
      have k_rd := hxx48 _ _ k_rd
      have k_b1 := hxx48 _ _ k_b1
      have hx0 := hx0.tr hxx48
      have lt_G45_2 : G45.2 < GG48.2 := by omega
      obtain ⟨n1_48, n2_48, n3_48, n4_48, n5_48⟩ := hf48
      refine hs_dup1 (p := 52) (by decide +kernel) ?_
      refine hs_iload (i := 2) (p := 53) (by decide +kernel) rfl ?_
      refine hs_if0 (c := .eq) (t := 60) (f := 56) (by decide +kernel) (show ¬ (Int32.ofNat 1 = 0) by decide) ?_
      refine hs_k (x := Int32.ofNat 4) (p := 57) (by decide +kernel) ?_
      refine hs_goto (p := 61) (by decide +kernel) ?_
      have hHo := hH
      refine hs_callp (mi := 61) (na := 1) (lk := 4) (lm := 2) (L0 := eg_en (eg_mL 61) [.ref G45.2, .int (Int32.ofNat 4)]) (by decide +kernel) rfl rfl rfl rfl rfl (by rw [show eg_mL 61 = 2 from by decide +kernel]; first | done | rfl) ?_
      refine (fc_nod hH k_G45_2).mono (fun u hu => xw_cb hu (fun G61 v61 hH x61 hP61 => ?_))
      have r2 := (x61.2 rd 2 lt_rd (fun h => (hi_ne k_rd k_G45_2 (by decide)) h.1)).trans r2
      have e45 := (x61.2 rd 8 lt_rd (fun h => (hi_ne k_rd k_G45_2 (by decide)) h.1)).trans e45
      have n1_48 := (x61.2 G45.2 1 lt_G45_2 (fun h => absurd h.2 (by decide))).trans n1_48
      have n2_48 := (x61.2 G45.2 2 lt_G45_2 (fun h => absurd h.2 (by decide))).trans n2_48
      have n3_48 := (x61.2 G45.2 3 lt_G45_2 (fun h => absurd h.2 (by decide))).trans n3_48
      have n4_48 := (x61.2 G45.2 4 lt_G45_2 (fun h => absurd h.2 (by decide))).trans n4_48
      have n5_48 := (x61.2 G45.2 5 lt_G45_2 (fun h => absurd h.2 (by decide))).trans n5_48
      have lt_rd := Nat.lt_of_lt_of_le lt_rd x61.1
      have lt_b1 := Nat.lt_of_lt_of_le lt_b1 x61.1
      have lt_G45_2 := Nat.lt_of_lt_of_le lt_G45_2 x61.1
      have hX := hX.tr x61 (fun b j hb h => by first | omega | (dsimp only at h ⊢; omega) | (dsimp only at h; omega) | (dsimp only; omega))
      have m61 := x61.1
      have htk := htk.xf hHo k_rd et_ex.rf x61 (fun a j hs => .inr (.inl (by have e := hs.1; rw [e]; exact k_G45_2)))
      have R1 := R1.fr (x61.agf (lo := G.2) (hi := G1.2) (by omega) (fun a j h1 h2 hs => by first | omega | (dsimp only at hs; omega)))
      obtain ⟨rfl, e61⟩ := hP61
      show et_go none _ 80 64 _ [.ref G45.2] _ _ _ _
      refine hs_astore (i := 3) (p := 65) (by decide +kernel) (Nat.le_of_ble_eq_true rfl) ?_
      refine hs_aload (i := 3) (p := 66) (by decide +kernel) rfl ?_
      refine hs_aload (i := 1) (p := 67) (by decide +kernel) rfl ?_
      have hHo := hH
      refine hf_put (T := et_TT) (t := 6) (ci := 4) (f := 2) (p := 70) (ty := (.object "KnobEye$Node")) (by decide +kernel) rfl rfl rfl rfl rfl hH k_G45_2 (.inr ⟨by decide, _, rfl, k_b1⟩) (fun G67 hH x67 e67 => ?_)
      have r2 := (x67.2 rd 2 lt_rd (fun h => (hi_ne k_rd k_G45_2 (by decide)) h.1)).trans r2
      have e45 := (x67.2 rd 8 lt_rd (fun h => (hi_ne k_rd k_G45_2 (by decide)) h.1)).trans e45
      have n1_48 := (x67.2 G45.2 1 lt_G45_2 (fun h => absurd h.2 (by decide))).trans n1_48
      have n3_48 := (x67.2 G45.2 3 lt_G45_2 (fun h => absurd h.2 (by decide))).trans n3_48
      have n4_48 := (x67.2 G45.2 4 lt_G45_2 (fun h => absurd h.2 (by decide))).trans n4_48
      have n5_48 := (x67.2 G45.2 5 lt_G45_2 (fun h => absurd h.2 (by decide))).trans n5_48
      have e61 := (x67.2 G45.2 0 lt_G45_2 (fun h => absurd h.2 (by decide))).trans e61
      have lt_rd := Nat.lt_of_lt_of_le lt_rd x67.1
      have lt_b1 := Nat.lt_of_lt_of_le lt_b1 x67.1
      have lt_G45_2 := Nat.lt_of_lt_of_le lt_G45_2 x67.1
      have hX := hX.tr x67 (fun b j hb h => by first | omega | (dsimp only at h ⊢; omega) | (dsimp only at h; omega) | (dsimp only; omega))
      have m67 := x67.1
      have htk := htk.xf hHo k_rd et_ex.rf x67 (fun a j hs => .inr (.inl (by have e := hs.1; rw [e]; exact k_G45_2)))
      have R1 := R1.fr (x67.agf (lo := G.2) (hi := G1.2) (by omega) (fun a j h1 h2 hs => by first | omega | (dsimp only at hs; omega)))
      refine hs_aload (i := 3) (p := 71) (by decide +kernel) rfl ?_
      refine hs_aload (i := 0) (p := 72) (by decide +kernel) rfl ?_
      have hHo := hH
      refine ht_callv (T := et_TT) (t := 7) (mi := 81) (na := 0) (ci := 5) (lk := 4) (lm := 6) (L0 := eg_en (eg_mL 81) [.ref rd]) (by decide +kernel) rfl hH k_rd rfl rfl rfl rfl rfl (by rw [show eg_mL 81 = 6 from by decide +kernel]; first | done | rfl) ?_
      refine ((pp_sum hH k_rd e45 (by omega) (by omega)).and (fx_sum hH k_rd htk htl e45 (by omega) r2 (by omega))).mono (fun u hu => fz_cb (t := 0) (by decide) hu (fun K72 G72 v72 c72 s72 hxx72 hH x72 hc72 hs72 hm72 => ?_))
      have x72 := rx_in x72
      have n1_48 := (x72.2 G45.2 1 lt_G45_2 (fun h => Or.elim h (fun h => (hi_ne k_G45_2 k_rd (by decide)) h.1) (fun h => (hi_ne k_G45_2 k_rd (by decide)) h.1))).trans n1_48
      have e67 := (x72.2 G45.2 2 lt_G45_2 (fun h => Or.elim h (fun h => (hi_ne k_G45_2 k_rd (by decide)) h.1) (fun h => (hi_ne k_G45_2 k_rd (by decide)) h.1))).trans e67
      have n3_48 := (x72.2 G45.2 3 lt_G45_2 (fun h => Or.elim h (fun h => (hi_ne k_G45_2 k_rd (by decide)) h.1) (fun h => (hi_ne k_G45_2 k_rd (by decide)) h.1))).trans n3_48
      have n4_48 := (x72.2 G45.2 4 lt_G45_2 (fun h => Or.elim h (fun h => (hi_ne k_G45_2 k_rd (by decide)) h.1) (fun h => (hi_ne k_G45_2 k_rd (by decide)) h.1))).trans n4_48
      have n5_48 := (x72.2 G45.2 5 lt_G45_2 (fun h => Or.elim h (fun h => (hi_ne k_G45_2 k_rd (by decide)) h.1) (fun h => (hi_ne k_G45_2 k_rd (by decide)) h.1))).trans n5_48
      have e61 := (x72.2 G45.2 0 lt_G45_2 (fun h => Or.elim h (fun h => (hi_ne k_G45_2 k_rd (by decide)) h.1) (fun h => (hi_ne k_G45_2 k_rd (by decide)) h.1))).trans e61
      have lt_rd := Nat.lt_of_lt_of_le lt_rd x72.1
      have lt_b1 := Nat.lt_of_lt_of_le lt_b1 x72.1
      have lt_G45_2 := Nat.lt_of_lt_of_le lt_G45_2 x72.1
      have hX := hX.tr x72 (fun b j hb h => by first | omega | (dsimp only at h ⊢; omega) | (dsimp only at h; omega) | (dsimp only; omega))
      have m72 := x72.1
      have htk := htk.xf hHo k_rd hxx72 x72 (fun a j hs => .inl (by first | omega | (dsimp only at hs; omega)))
      have R1 := R1.fr (x72.agf (lo := G.2) (hi := G1.2) (by omega) (fun a j h1 h2 hs => by first | omega | (dsimp only at hs; omega)))
      have k_rd := hxx72 _ _ k_rd
      have k_b1 := hxx72 _ _ k_b1
      have k_G45_2 := hxx72 _ _ k_G45_2
      have hx0 := hx0.tr hxx72
      rcases sp72 : sp_sum (L.drop (y1 + 1)) with _ | ⟨f72, r72⟩
      · rw [sp72] at hm72
        obtain ⟨rfl, q72, hq72, r2⟩ := hm72
        show et_go none _ 80 75 _ [.null, .ref G45.2] _ _ _ _
        have hHo := hH
        refine hf_put (T := et_TT) (t := 6) (ci := 4) (f := 3) (p := 78) (ty := (.object "KnobEye$Node")) (by decide +kernel) rfl rfl rfl rfl rfl hH k_G45_2 (.inl ⟨by decide, rfl⟩) (fun G75 hH x75 e75 => ?_)
        have n1_48 := (x75.2 G45.2 1 lt_G45_2 (fun h => absurd h.2 (by decide))).trans n1_48
        have e67 := (x75.2 G45.2 2 lt_G45_2 (fun h => absurd h.2 (by decide))).trans e67
        have n4_48 := (x75.2 G45.2 4 lt_G45_2 (fun h => absurd h.2 (by decide))).trans n4_48
        have n5_48 := (x75.2 G45.2 5 lt_G45_2 (fun h => absurd h.2 (by decide))).trans n5_48
        have e61 := (x75.2 G45.2 0 lt_G45_2 (fun h => absurd h.2 (by decide))).trans e61
        have r2 := (x75.2 rd 2 lt_rd (fun h => (hi_ne k_rd k_G45_2 (by decide)) h.1)).trans r2
        have lt_rd := Nat.lt_of_lt_of_le lt_rd x75.1
        have lt_b1 := Nat.lt_of_lt_of_le lt_b1 x75.1
        have lt_G45_2 := Nat.lt_of_lt_of_le lt_G45_2 x75.1
        have hX := hX.tr x75 (fun b j hb h => by first | omega | (dsimp only at h ⊢; omega) | (dsimp only at h; omega) | (dsimp only; omega))
        have m75 := x75.1
        have htk := htk.xf hHo k_rd et_ex.rf x75 (fun a j hs => .inr (.inl (by have e := hs.1; rw [e]; exact k_G45_2)))
        have R1 := R1.fr (x75.agf (lo := G.2) (hi := G1.2) (by omega) (fun a j h1 h2 hs => by first | omega | (dsimp only at hs; omega)))
        refine hs_aload (i := 3) (p := 79) (by decide +kernel) rfl ?_
        refine hf_get (T := et_TT) (t := 6) (ci := 4) (f := 3) (p := 82) (by decide +kernel) rfl hH k_G45_2 e75 ?_
        refine hs_ifnonnull0 (p := 85) (by decide +kernel) ?_
        refine hs_nul (p := 86) (by decide +kernel) ?_
        refine hs_goto (p := 90) (by decide +kernel) ?_
        refine hs_aretN (cn := "KnobEye$Node") (by decide +kernel) ?_
        refine ⟨_, _, _, _, _, rfl, hx0, hH, rx_out hX, ?_⟩
        rw [sp_cmp_n sp1 i15 (.inl rfl) sp72]
        exact ⟨rfl, _, (by omega), r2⟩
      · rw [sp72] at hm72
        obtain ⟨y72, b72, rfl, hy72, hz72, r8, r2, rfl, k_b72, R72⟩ := hm72
        have lt_b72 := (hH.2.2 _ _ k_b72).1
        obtain ⟨R72, lo72⟩ := R72
        show et_go none _ 80 75 _ [.ref b72, .ref G45.2] _ _ _ _
        have hHo := hH
        refine hf_put (T := et_TT) (t := 6) (ci := 4) (f := 3) (p := 78) (ty := (.object "KnobEye$Node")) (by decide +kernel) rfl rfl rfl rfl rfl hH k_G45_2 (.inr ⟨by decide, _, rfl, k_b72⟩) (fun G75 hH x75 e75 => ?_)
        have n1_48 := (x75.2 G45.2 1 lt_G45_2 (fun h => absurd h.2 (by decide))).trans n1_48
        have e67 := (x75.2 G45.2 2 lt_G45_2 (fun h => absurd h.2 (by decide))).trans e67
        have n4_48 := (x75.2 G45.2 4 lt_G45_2 (fun h => absurd h.2 (by decide))).trans n4_48
        have n5_48 := (x75.2 G45.2 5 lt_G45_2 (fun h => absurd h.2 (by decide))).trans n5_48
        have e61 := (x75.2 G45.2 0 lt_G45_2 (fun h => absurd h.2 (by decide))).trans e61
        have r2 := (x75.2 rd 2 lt_rd (fun h => (hi_ne k_rd k_G45_2 (by decide)) h.1)).trans r2
        have r8 := (x75.2 rd 8 lt_rd (fun h => (hi_ne k_rd k_G45_2 (by decide)) h.1)).trans r8
        have lt_rd := Nat.lt_of_lt_of_le lt_rd x75.1
        have lt_b1 := Nat.lt_of_lt_of_le lt_b1 x75.1
        have lt_G45_2 := Nat.lt_of_lt_of_le lt_G45_2 x75.1
        have lt_b72 := Nat.lt_of_lt_of_le lt_b72 x75.1
        have hX := hX.tr x75 (fun b j hb h => by first | omega | (dsimp only at h ⊢; omega) | (dsimp only at h; omega) | (dsimp only; omega))
        have m75 := x75.1
        have htk := htk.xf hHo k_rd et_ex.rf x75 (fun a j hs => .inr (.inl (by have e := hs.1; rw [e]; exact k_G45_2)))
        have R1 := R1.fr (x75.agf (lo := G.2) (hi := G1.2) (by omega) (fun a j h1 h2 hs => by first | omega | (dsimp only at hs; omega)))
        have R72 := R72.fr (x75.agf (lo := G67.2) (hi := G72.2) (by omega) (fun a j h1 h2 hs => by first | omega | (dsimp only at hs; omega)))
        refine hs_aload (i := 3) (p := 79) (by decide +kernel) rfl ?_
        refine hf_get (T := et_TT) (t := 6) (ci := 4) (f := 3) (p := 82) (by decide +kernel) rfl hH k_G45_2 e75 ?_
        refine hs_ifnonnull1 (p := 89) (by decide +kernel) ?_
        refine hs_aload (i := 3) (p := 90) (by decide +kernel) rfl ?_
        refine hs_aret (cn := "KnobEye$Node") (by decide +kernel) ?_
        refine ⟨_, _, _, _, _, rfl, hx0, hH, rx_out hX, ?_⟩
        rw [sp_cmp_y sp1 i15 (.inl rfl) sp72]
        exact ⟨y72, _, rfl, (by omega), (by omega), r8, r2, rfl, k_G45_2, ⟨⟨⟨by omega, lt_G45_2⟩, .inr (.inl ⟨4, _, _, _, _, .inl rfl, e61, e67, e75, R1.wk (Nat.le_refl _) (by omega), R72.wk (by omega) (by omega), rfl⟩)⟩, n1_48⟩⟩
    · rw [if_neg i15]
      show et_go none _ 80 18 _ [.int (Int32.ofNat 0)] _ _ _ _
      refine hs_istore (i := 2) (p := 19) (by decide +kernel) (Nat.le_of_ble_eq_true rfl) ?_
      refine hs_iload (i := 2) (p := 20) (by decide +kernel) rfl ?_
      refine hs_if0 (c := .ne) (t := 38) (f := 23) (by decide +kernel) (show ¬ (¬ Int32.ofNat 0 = 0) by decide) ?_
      refine hs_aload (i := 0) (p := 24) (by decide +kernel) rfl ?_
      refine hs_gst (v := Value.ref 26) (p := 27) (by decide +kernel) ?_
      refine ht_callv (T := et_TT) (t := 7) (mi := 78) (na := 1) (ci := 5) (lk := 4) (lm := 2) (L0 := eg_en (eg_mL 78) [.ref rd, .ref 26]) (by decide +kernel) rfl hH k_rd rfl rfl rfl rfl rfl (by rw [show eg_mL 78 = 2 from by decide +kernel]; first | done | rfl) ?_
      refine (fc_is hH k_rd htk htl r8 (by omega) (wd := 26) (by decide)).mono (fun u hu => xp_cb hu ?_)
      by_cases i27 : wat L y1 = 26
      · rw [if_pos i27]
        have il27 : y1 < L.length := wat_i (by rw [i27]; decide)
        show et_go none _ 80 30 _ [.int (Int32.ofNat 1)] _ _ _ _
        refine hs_if1 (c := .ne) (t := 38) (f := 33) (by decide +kernel) (show ¬ Int32.ofNat 1 = 0 by decide) ?_
        refine hs_aload (i := 0) (p := 39) (by decide +kernel) rfl ?_
        refine hs_dup1 (p := 40) (by decide +kernel) ?_
        refine hf_get (T := et_TT) (t := 7) (ci := 5) (f := 8) (p := 43) (by decide +kernel) rfl hH k_rd r8 ?_
        refine hs_k (x := Int32.ofNat 1) (p := 44) (by decide +kernel) ?_
        refine hs_iaddn (p := 45) (by decide +kernel) ?_
        have hHo := hH
        refine hf_put (T := et_TT) (t := 7) (ci := 5) (f := 8) (p := 48) (ty := .int) (by decide +kernel) rfl rfl rfl rfl rfl hH k_rd (hi_nv (by omega) (by omega)) (fun G45 hH x45 e45 => ?_)
        have r2 := (x45.2 rd 2 lt_rd (fun h => absurd h.2 (by decide))).trans r2
        have lt_rd := Nat.lt_of_lt_of_le lt_rd x45.1
        have lt_b1 := Nat.lt_of_lt_of_le lt_b1 x45.1
        have hX := hX.tr x45 (fun b j hb h => by first | omega | (dsimp only at h ⊢; omega) | (dsimp only at h; omega) | (dsimp only; omega))
        have m45 := x45.1
        have htk := htk.xf hHo k_rd et_ex.rf x45 (fun a j hs => .inl (by first | omega | (dsimp only at hs; omega)))
        have R1 := R1.fr (x45.agf (lo := G.2) (hi := G1.2) (by omega) (fun a j h1 h2 hs => by first | omega | (dsimp only at hs; omega)))
        have e45 : et_pl (eg_at G45 rd) 8 = some (.int (Int32.ofNat (y1 + 1))) := e45
        have hHo := hH
        refine hf_newN (p := 51) (by decide +kernel) (by omega) (by omega) hH (fun KK48 GG48 hxx48 x48 hH k_G45_2 mm48 hf48 => ?_)
        have r2 := (x48.2 rd 2 lt_rd (fun h => h)).trans r2
        have e45 := (x48.2 rd 8 lt_rd (fun h => h)).trans e45
        have lt_rd := Nat.lt_of_lt_of_le lt_rd x48.1
        have lt_b1 := Nat.lt_of_lt_of_le lt_b1 x48.1
        have hX := hX.tr x48 (fun b j hb h => h.elim)
        have m48 := x48.1
        have htk := htk.xf hHo k_rd hxx48 x48 (fun a j hs => absurd hs id)
        have R1 := R1.fr (x48.agf (lo := G.2) (hi := G1.2) (by omega) (fun a j h1 h2 hs => by exact hs))
        have k_rd := hxx48 _ _ k_rd
        have k_b1 := hxx48 _ _ k_b1
        have hx0 := hx0.tr hxx48
        have lt_G45_2 : G45.2 < GG48.2 := by omega
        obtain ⟨n1_48, n2_48, n3_48, n4_48, n5_48⟩ := hf48
        refine hs_dup1 (p := 52) (by decide +kernel) ?_
        refine hs_iload (i := 2) (p := 53) (by decide +kernel) rfl ?_
        refine hs_if1 (c := .eq) (t := 60) (f := 56) (by decide +kernel) (show Int32.ofNat 0 = 0 by decide) ?_
        refine hs_k (x := Int32.ofNat 5) (p := 61) (by decide +kernel) ?_
        have hHo := hH
        refine hs_callp (mi := 61) (na := 1) (lk := 4) (lm := 2) (L0 := eg_en (eg_mL 61) [.ref G45.2, .int (Int32.ofNat 5)]) (by decide +kernel) rfl rfl rfl rfl rfl (by rw [show eg_mL 61 = 2 from by decide +kernel]; first | done | rfl) ?_
        refine (fc_nod hH k_G45_2).mono (fun u hu => xw_cb hu (fun G61 v61 hH x61 hP61 => ?_))
        have r2 := (x61.2 rd 2 lt_rd (fun h => (hi_ne k_rd k_G45_2 (by decide)) h.1)).trans r2
        have e45 := (x61.2 rd 8 lt_rd (fun h => (hi_ne k_rd k_G45_2 (by decide)) h.1)).trans e45
        have n1_48 := (x61.2 G45.2 1 lt_G45_2 (fun h => absurd h.2 (by decide))).trans n1_48
        have n2_48 := (x61.2 G45.2 2 lt_G45_2 (fun h => absurd h.2 (by decide))).trans n2_48
        have n3_48 := (x61.2 G45.2 3 lt_G45_2 (fun h => absurd h.2 (by decide))).trans n3_48
        have n4_48 := (x61.2 G45.2 4 lt_G45_2 (fun h => absurd h.2 (by decide))).trans n4_48
        have n5_48 := (x61.2 G45.2 5 lt_G45_2 (fun h => absurd h.2 (by decide))).trans n5_48
        have lt_rd := Nat.lt_of_lt_of_le lt_rd x61.1
        have lt_b1 := Nat.lt_of_lt_of_le lt_b1 x61.1
        have lt_G45_2 := Nat.lt_of_lt_of_le lt_G45_2 x61.1
        have hX := hX.tr x61 (fun b j hb h => by first | omega | (dsimp only at h ⊢; omega) | (dsimp only at h; omega) | (dsimp only; omega))
        have m61 := x61.1
        have htk := htk.xf hHo k_rd et_ex.rf x61 (fun a j hs => .inr (.inl (by have e := hs.1; rw [e]; exact k_G45_2)))
        have R1 := R1.fr (x61.agf (lo := G.2) (hi := G1.2) (by omega) (fun a j h1 h2 hs => by first | omega | (dsimp only at hs; omega)))
        obtain ⟨rfl, e61⟩ := hP61
        show et_go none _ 80 64 _ [.ref G45.2] _ _ _ _
        refine hs_astore (i := 3) (p := 65) (by decide +kernel) (Nat.le_of_ble_eq_true rfl) ?_
        refine hs_aload (i := 3) (p := 66) (by decide +kernel) rfl ?_
        refine hs_aload (i := 1) (p := 67) (by decide +kernel) rfl ?_
        have hHo := hH
        refine hf_put (T := et_TT) (t := 6) (ci := 4) (f := 2) (p := 70) (ty := (.object "KnobEye$Node")) (by decide +kernel) rfl rfl rfl rfl rfl hH k_G45_2 (.inr ⟨by decide, _, rfl, k_b1⟩) (fun G67 hH x67 e67 => ?_)
        have r2 := (x67.2 rd 2 lt_rd (fun h => (hi_ne k_rd k_G45_2 (by decide)) h.1)).trans r2
        have e45 := (x67.2 rd 8 lt_rd (fun h => (hi_ne k_rd k_G45_2 (by decide)) h.1)).trans e45
        have n1_48 := (x67.2 G45.2 1 lt_G45_2 (fun h => absurd h.2 (by decide))).trans n1_48
        have n3_48 := (x67.2 G45.2 3 lt_G45_2 (fun h => absurd h.2 (by decide))).trans n3_48
        have n4_48 := (x67.2 G45.2 4 lt_G45_2 (fun h => absurd h.2 (by decide))).trans n4_48
        have n5_48 := (x67.2 G45.2 5 lt_G45_2 (fun h => absurd h.2 (by decide))).trans n5_48
        have e61 := (x67.2 G45.2 0 lt_G45_2 (fun h => absurd h.2 (by decide))).trans e61
        have lt_rd := Nat.lt_of_lt_of_le lt_rd x67.1
        have lt_b1 := Nat.lt_of_lt_of_le lt_b1 x67.1
        have lt_G45_2 := Nat.lt_of_lt_of_le lt_G45_2 x67.1
        have hX := hX.tr x67 (fun b j hb h => by first | omega | (dsimp only at h ⊢; omega) | (dsimp only at h; omega) | (dsimp only; omega))
        have m67 := x67.1
        have htk := htk.xf hHo k_rd et_ex.rf x67 (fun a j hs => .inr (.inl (by have e := hs.1; rw [e]; exact k_G45_2)))
        have R1 := R1.fr (x67.agf (lo := G.2) (hi := G1.2) (by omega) (fun a j h1 h2 hs => by first | omega | (dsimp only at hs; omega)))
        refine hs_aload (i := 3) (p := 71) (by decide +kernel) rfl ?_
        refine hs_aload (i := 0) (p := 72) (by decide +kernel) rfl ?_
        have hHo := hH
        refine ht_callv (T := et_TT) (t := 7) (mi := 81) (na := 0) (ci := 5) (lk := 4) (lm := 6) (L0 := eg_en (eg_mL 81) [.ref rd]) (by decide +kernel) rfl hH k_rd rfl rfl rfl rfl rfl (by rw [show eg_mL 81 = 6 from by decide +kernel]; first | done | rfl) ?_
        refine ((pp_sum hH k_rd e45 (by omega) (by omega)).and (fx_sum hH k_rd htk htl e45 (by omega) r2 (by omega))).mono (fun u hu => fz_cb (t := 0) (by decide) hu (fun K72 G72 v72 c72 s72 hxx72 hH x72 hc72 hs72 hm72 => ?_))
        have x72 := rx_in x72
        have n1_48 := (x72.2 G45.2 1 lt_G45_2 (fun h => Or.elim h (fun h => (hi_ne k_G45_2 k_rd (by decide)) h.1) (fun h => (hi_ne k_G45_2 k_rd (by decide)) h.1))).trans n1_48
        have e67 := (x72.2 G45.2 2 lt_G45_2 (fun h => Or.elim h (fun h => (hi_ne k_G45_2 k_rd (by decide)) h.1) (fun h => (hi_ne k_G45_2 k_rd (by decide)) h.1))).trans e67
        have n3_48 := (x72.2 G45.2 3 lt_G45_2 (fun h => Or.elim h (fun h => (hi_ne k_G45_2 k_rd (by decide)) h.1) (fun h => (hi_ne k_G45_2 k_rd (by decide)) h.1))).trans n3_48
        have n4_48 := (x72.2 G45.2 4 lt_G45_2 (fun h => Or.elim h (fun h => (hi_ne k_G45_2 k_rd (by decide)) h.1) (fun h => (hi_ne k_G45_2 k_rd (by decide)) h.1))).trans n4_48
        have n5_48 := (x72.2 G45.2 5 lt_G45_2 (fun h => Or.elim h (fun h => (hi_ne k_G45_2 k_rd (by decide)) h.1) (fun h => (hi_ne k_G45_2 k_rd (by decide)) h.1))).trans n5_48
        have e61 := (x72.2 G45.2 0 lt_G45_2 (fun h => Or.elim h (fun h => (hi_ne k_G45_2 k_rd (by decide)) h.1) (fun h => (hi_ne k_G45_2 k_rd (by decide)) h.1))).trans e61
        have lt_rd := Nat.lt_of_lt_of_le lt_rd x72.1
        have lt_b1 := Nat.lt_of_lt_of_le lt_b1 x72.1
        have lt_G45_2 := Nat.lt_of_lt_of_le lt_G45_2 x72.1
        have hX := hX.tr x72 (fun b j hb h => by first | omega | (dsimp only at h ⊢; omega) | (dsimp only at h; omega) | (dsimp only; omega))
        have m72 := x72.1
        have htk := htk.xf hHo k_rd hxx72 x72 (fun a j hs => .inl (by first | omega | (dsimp only at hs; omega)))
        have R1 := R1.fr (x72.agf (lo := G.2) (hi := G1.2) (by omega) (fun a j h1 h2 hs => by first | omega | (dsimp only at hs; omega)))
        have k_rd := hxx72 _ _ k_rd
        have k_b1 := hxx72 _ _ k_b1
        have k_G45_2 := hxx72 _ _ k_G45_2
        have hx0 := hx0.tr hxx72
        rcases sp72 : sp_sum (L.drop (y1 + 1)) with _ | ⟨f72, r72⟩
        · rw [sp72] at hm72
          obtain ⟨rfl, q72, hq72, r2⟩ := hm72
          show et_go none _ 80 75 _ [.null, .ref G45.2] _ _ _ _
          have hHo := hH
          refine hf_put (T := et_TT) (t := 6) (ci := 4) (f := 3) (p := 78) (ty := (.object "KnobEye$Node")) (by decide +kernel) rfl rfl rfl rfl rfl hH k_G45_2 (.inl ⟨by decide, rfl⟩) (fun G75 hH x75 e75 => ?_)
          have n1_48 := (x75.2 G45.2 1 lt_G45_2 (fun h => absurd h.2 (by decide))).trans n1_48
          have e67 := (x75.2 G45.2 2 lt_G45_2 (fun h => absurd h.2 (by decide))).trans e67
          have n4_48 := (x75.2 G45.2 4 lt_G45_2 (fun h => absurd h.2 (by decide))).trans n4_48
          have n5_48 := (x75.2 G45.2 5 lt_G45_2 (fun h => absurd h.2 (by decide))).trans n5_48
          have e61 := (x75.2 G45.2 0 lt_G45_2 (fun h => absurd h.2 (by decide))).trans e61
          have r2 := (x75.2 rd 2 lt_rd (fun h => (hi_ne k_rd k_G45_2 (by decide)) h.1)).trans r2
          have lt_rd := Nat.lt_of_lt_of_le lt_rd x75.1
          have lt_b1 := Nat.lt_of_lt_of_le lt_b1 x75.1
          have lt_G45_2 := Nat.lt_of_lt_of_le lt_G45_2 x75.1
          have hX := hX.tr x75 (fun b j hb h => by first | omega | (dsimp only at h ⊢; omega) | (dsimp only at h; omega) | (dsimp only; omega))
          have m75 := x75.1
          have htk := htk.xf hHo k_rd et_ex.rf x75 (fun a j hs => .inr (.inl (by have e := hs.1; rw [e]; exact k_G45_2)))
          have R1 := R1.fr (x75.agf (lo := G.2) (hi := G1.2) (by omega) (fun a j h1 h2 hs => by first | omega | (dsimp only at hs; omega)))
          refine hs_aload (i := 3) (p := 79) (by decide +kernel) rfl ?_
          refine hf_get (T := et_TT) (t := 6) (ci := 4) (f := 3) (p := 82) (by decide +kernel) rfl hH k_G45_2 e75 ?_
          refine hs_ifnonnull0 (p := 85) (by decide +kernel) ?_
          refine hs_nul (p := 86) (by decide +kernel) ?_
          refine hs_goto (p := 90) (by decide +kernel) ?_
          refine hs_aretN (cn := "KnobEye$Node") (by decide +kernel) ?_
          refine ⟨_, _, _, _, _, rfl, hx0, hH, rx_out hX, ?_⟩
          rw [sp_cmp_n sp1 i27 (.inr rfl) sp72]
          exact ⟨rfl, _, (by omega), r2⟩
        · rw [sp72] at hm72
          obtain ⟨y72, b72, rfl, hy72, hz72, r8, r2, rfl, k_b72, R72⟩ := hm72
          have lt_b72 := (hH.2.2 _ _ k_b72).1
          obtain ⟨R72, lo72⟩ := R72
          show et_go none _ 80 75 _ [.ref b72, .ref G45.2] _ _ _ _
          have hHo := hH
          refine hf_put (T := et_TT) (t := 6) (ci := 4) (f := 3) (p := 78) (ty := (.object "KnobEye$Node")) (by decide +kernel) rfl rfl rfl rfl rfl hH k_G45_2 (.inr ⟨by decide, _, rfl, k_b72⟩) (fun G75 hH x75 e75 => ?_)
          have n1_48 := (x75.2 G45.2 1 lt_G45_2 (fun h => absurd h.2 (by decide))).trans n1_48
          have e67 := (x75.2 G45.2 2 lt_G45_2 (fun h => absurd h.2 (by decide))).trans e67
          have n4_48 := (x75.2 G45.2 4 lt_G45_2 (fun h => absurd h.2 (by decide))).trans n4_48
          have n5_48 := (x75.2 G45.2 5 lt_G45_2 (fun h => absurd h.2 (by decide))).trans n5_48
          have e61 := (x75.2 G45.2 0 lt_G45_2 (fun h => absurd h.2 (by decide))).trans e61
          have r2 := (x75.2 rd 2 lt_rd (fun h => (hi_ne k_rd k_G45_2 (by decide)) h.1)).trans r2
          have r8 := (x75.2 rd 8 lt_rd (fun h => (hi_ne k_rd k_G45_2 (by decide)) h.1)).trans r8
          have lt_rd := Nat.lt_of_lt_of_le lt_rd x75.1
          have lt_b1 := Nat.lt_of_lt_of_le lt_b1 x75.1
          have lt_G45_2 := Nat.lt_of_lt_of_le lt_G45_2 x75.1
          have lt_b72 := Nat.lt_of_lt_of_le lt_b72 x75.1
          have hX := hX.tr x75 (fun b j hb h => by first | omega | (dsimp only at h ⊢; omega) | (dsimp only at h; omega) | (dsimp only; omega))
          have m75 := x75.1
          have htk := htk.xf hHo k_rd et_ex.rf x75 (fun a j hs => .inr (.inl (by have e := hs.1; rw [e]; exact k_G45_2)))
          have R1 := R1.fr (x75.agf (lo := G.2) (hi := G1.2) (by omega) (fun a j h1 h2 hs => by first | omega | (dsimp only at hs; omega)))
          have R72 := R72.fr (x75.agf (lo := G67.2) (hi := G72.2) (by omega) (fun a j h1 h2 hs => by first | omega | (dsimp only at hs; omega)))
          refine hs_aload (i := 3) (p := 79) (by decide +kernel) rfl ?_
          refine hf_get (T := et_TT) (t := 6) (ci := 4) (f := 3) (p := 82) (by decide +kernel) rfl hH k_G45_2 e75 ?_
          refine hs_ifnonnull1 (p := 89) (by decide +kernel) ?_
          refine hs_aload (i := 3) (p := 90) (by decide +kernel) rfl ?_
          refine hs_aret (cn := "KnobEye$Node") (by decide +kernel) ?_
          refine ⟨_, _, _, _, _, rfl, hx0, hH, rx_out hX, ?_⟩
          rw [sp_cmp_y sp1 i27 (.inr rfl) sp72]
          exact ⟨y72, _, rfl, (by omega), (by omega), r8, r2, rfl, k_G45_2, ⟨⟨⟨by omega, lt_G45_2⟩, .inr (.inl ⟨5, _, _, _, _, .inr rfl, e61, e67, e75, R1.wk (Nat.le_refl _) (by omega), R72.wk (by omega) (by omega), rfl⟩)⟩, n1_48⟩⟩
      · rw [if_neg i27]
        show et_go none _ 80 30 _ [.int (Int32.ofNat 0)] _ _ _ _
        refine hs_if0 (c := .ne) (t := 38) (f := 33) (by decide +kernel) (show ¬ (¬ Int32.ofNat 0 = 0) by decide) ?_
        refine hs_aload (i := 0) (p := 34) (by decide +kernel) rfl ?_
        have hHo := hH
        refine ht_callv (T := et_TT) (t := 7) (mi := 76) (na := 0) (ci := 5) (lk := 4) (lm := 1) (L0 := eg_en (eg_mL 76) [.ref rd]) (by decide +kernel) rfl hH k_rd rfl rfl rfl rfl rfl (by rw [show eg_mL 76 = 1 from by decide +kernel]; first | done | rfl) ?_
        refine (fc_fail hH k_rd htk htl r8 (by omega) r2).mono (fun u hu => xw_cb hu (fun G34 v34 hH x34 hP34 => ?_))
        have r8 := (x34.2 rd 8 lt_rd (fun h => absurd h.2 (by decide))).trans r8
        have lt_rd := Nat.lt_of_lt_of_le lt_rd x34.1
        have lt_b1 := Nat.lt_of_lt_of_le lt_b1 x34.1
        have hX := hX.tr x34 (fun b j hb h => by first | omega | (dsimp only at h ⊢; omega) | (dsimp only at h; omega) | (dsimp only; omega))
        have m34 := x34.1
        have htk := htk.xf hHo k_rd et_ex.rf x34 (fun a j hs => .inl (by first | omega | (dsimp only at hs; omega)))
        have R1 := R1.fr (x34.agf (lo := G.2) (hi := G1.2) (by omega) (fun a j h1 h2 hs => by first | omega | (dsimp only at hs; omega)))
        obtain ⟨rfl, q34, hq34, e34⟩ := hP34
        show et_go none _ 80 37 _ [.null] _ _ _ _
        refine hs_aretN (cn := "KnobEye$Node") (by decide +kernel) ?_
        refine ⟨_, _, _, _, _, rfl, hx0, hH, rx_out hX, ?_⟩
        rw [sp_cmp_1 sp1 i15 i27]
        exact ⟨rfl, _, (by omega), e34⟩
theorem hi_first {a g : Nat} (hH : et_H et_TT K G) (k_g : K g = some 6) (g2 : kpl G g 2 (.ref a)) : K a = some 6 := by
  obtain ⟨-, -, -, dd, hd, hcc, -⟩ := hH.2.2 g 6 k_g
  cases hd
  obtain ⟨fs, e, el, ef⟩ := hcc
  obtain ⟨v, h1, h2⟩ := ef 2 _ rfl
  have g2 : et_pl (eg_at G g) 2 = some (.ref a) := g2
  rw [e] at g2
  have g2 : fs[2]? = some (.ref a) := g2
  rw [h1] at g2
  cases g2
  rcases h2 with h2 | ⟨-, h2⟩ | ⟨-, b, h2, h3⟩
  · exact absurd h2 (by decide)
  · cases h2
  · cases h2
    exact h3
theorem fn_g1 {g a b i ck sk y n hi : Nat} {fs : List (sp_E → Bool)} {x7 : Option Value} (hsub : fA m) (hH : et_H et_TT K G) (hx0 : et_ex K0 K) (hX : xf (fun b j => (b = rd ∧ (2 ≤ j ∧ j ≤ 3)) ∨ (b = rd ∧ j = 8)) G0 G) (k_rd : K rd = some 7) (htk : tk K G rd L) (htl : tl L) (r8 : et_pl (eg_at G rd) 8 = some (.int (Int32.ofNat y))) (hy : y ≤ L.length) (r2 : et_pl (eg_at G rd) 2 = some (.int (-1))) (lr0 : rd < G0.2) (hxy : x ≤ y) (k_g : K g = some 6) (g0 : kpl G g 0 (.int (Int32.ofNat 1))) (g1 : kpl G g 1 .null) (g2 : kpl G g 2 (.ref a)) (k_b : K b = some 6) (hI : gI G (1 + 2 * m) g hi a b fs) (hg : G0.2 ≤ g) (hh : hi ≤ G.2) (nb : kpl G b 1 .null) (hn : L.length - y < n) (hck : ck ≤ 807 * (i + 1)) (hsk : sk ≤ 6 * ck) (hiy : 2 * i ≤ y) (hdm : dep + m = 6) (hd : 3 * m ≤ d) : et_go none (d + 5) 75 37 [some (.ref rd), some (.int (Int32.ofNat 1)), some (.int (Int32.ofNat dep)), some (.int (Int32.ofNat 0)), some (.ref g), some (.ref b), some (.int (Int32.ofNat i)), x7] [] G ck sk (fz rd L x K0 G0 (fB (1 + 1 + 2 * m) G0.2) (sp_lp (sp_A m) 20 (fun f g e => f e && g e) n (gF 1 fs) (L.drop y))) := by
  induction hm : L.length - y using Nat.strongRecOn generalizing i b ck sk y n hi fs x7 K G with
  | _ z ih =>
    have hl4 : L.length ≤ 400 := by obtain ⟨_, _, _, _, _, h, _⟩ := htk; exact h
    have hbd := hI.bd
    have mX := hX.1
    have lt_rd := (hH.2.2 _ _ k_rd).1
    have lt_g := (hH.2.2 _ _ k_g).1
    have lt_b := (hH.2.2 _ _ k_b).1
    have k_a : K a = some 6 := hi_first hH k_g g2
    have lt_a := (hH.2.2 _ _ k_a).1
    refine hs_iload (i := 6) (p := 39) (by decide +kernel) rfl ?_
    refine hs_k (x := Int32.ofNat 400) (p := 42) (by decide +kernel) ?_
    refine hs_br2n (c := .ge) (t := 137) (f := 45) (by decide +kernel) (by omega) (by omega) (fun (c42 : 400 ≤ i) => ?_) (fun (c42 : ¬ (400 ≤ i)) => ?_)
    · exact absurd c42 (by omega)
    · refine hs_iload (i := 3) (p := 46) (by decide +kernel) rfl ?_
      refine hs_if1 (c := .eq) (t := 58) (f := 49) (by decide +kernel) (show Int32.ofNat 0 = 0 by decide) ?_
      refine hs_aload (i := 0) (p := 59) (by decide +kernel) rfl ?_
      refine hs_iload (i := 2) (p := 60) (by decide +kernel) rfl ?_
      have hHo := hH
      refine ht_callv (T := et_TT) (t := 7) (mi := 77) (na := 1) (ci := 5) (lk := 8) (lm := 4) (L0 := eg_en (eg_mL 77) [.ref rd, .int (Int32.ofNat dep)]) (by decide +kernel) rfl hH k_rd rfl rfl rfl rfl rfl (by rw [show eg_mL 77 = 4 from by decide +kernel]; first | done | rfl) ?_
      refine ((((pp_ag m).1) _ _ _ _ _ _ hH k_rd r8 (by omega) (by omega) (by omega)).and (hsub _ _ _ _ _ _ _ hH k_rd htk htl r8 (by omega) r2 (by omega) (by omega))).mono (fun u hu => fz_cb (t := 0) (by decide) hu (fun K60 G60 v60 c60 s60 hxx60 hH x60 hc60 hs60 hm60 => ?_))
      have x60 := rx_in x60
      have nb := (x60.2 b 1 lt_b (fun h => Or.elim h (fun h => (hi_ne k_b k_rd (by decide)) h.1) (fun h => (hi_ne k_b k_rd (by decide)) h.1))).trans nb
      have g0 := (x60.2 g 0 lt_g (fun h => Or.elim h (fun h => (hi_ne k_g k_rd (by decide)) h.1) (fun h => (hi_ne k_g k_rd (by decide)) h.1))).trans g0
      have g1 := (x60.2 g 1 lt_g (fun h => Or.elim h (fun h => (hi_ne k_g k_rd (by decide)) h.1) (fun h => (hi_ne k_g k_rd (by decide)) h.1))).trans g1
      have g2 := (x60.2 g 2 lt_g (fun h => Or.elim h (fun h => (hi_ne k_g k_rd (by decide)) h.1) (fun h => (hi_ne k_g k_rd (by decide)) h.1))).trans g2
      have lt_rd := Nat.lt_of_lt_of_le lt_rd x60.1
      have lt_g := Nat.lt_of_lt_of_le lt_g x60.1
      have lt_b := Nat.lt_of_lt_of_le lt_b x60.1
      have lt_a := Nat.lt_of_lt_of_le lt_a x60.1
      have hX := hX.tr x60 (fun b j hb h => by first | omega | (dsimp only at h ⊢; omega) | (dsimp only at h; omega) | (dsimp only; omega))
      have m60 := x60.1
      have htk := htk.xf hHo k_rd hxx60 x60 (fun a j hs => .inl (by first | omega | (dsimp only at hs; omega)))
      have hI := hI.fr (x60.agf (lo := (g + 1)) (hi := hi) (by omega) (fun a j h1 h2 hs => by first | omega | (dsimp only at hs; omega)))
      have k_rd := hxx60 _ _ k_rd
      have k_g := hxx60 _ _ k_g
      have k_b := hxx60 _ _ k_b
      have k_a := hxx60 _ _ k_a
      have hx0 := hx0.tr hxx60
      rcases sp60 : sp_A m (L.drop y) with _ | ⟨f60, r60⟩
      · rw [sp60] at hm60
        obtain ⟨rfl, q60, hq60, r2⟩ := hm60
        show et_go none _ 75 63 _ [.null] _ _ _ _
        refine hs_astore0 (i := 7) (p := 65) (by decide +kernel) (Nat.le_of_ble_eq_true rfl) ?_
        refine hs_aload0 (i := 7) (p := 67) (by decide +kernel) rfl ?_
        refine hs_ifnonnull0 (p := 70) (by decide +kernel) ?_
        refine hs_nul (p := 71) (by decide +kernel) ?_
        refine hs_aretN (cn := "KnobEye$Node") (by decide +kernel) ?_
        refine ⟨_, _, _, _, _, rfl, hx0, hH, rx_out hX, ?_⟩
        rw [show sp_lp (sp_A m) 20 (fun f g e => f e && g e) n (gF 1 fs) (L.drop y) = none from sp_lp_0 sp60]
        exact ⟨rfl, _, (by omega), r2⟩
      · rw [sp60] at hm60
        obtain ⟨y60, b60, rfl, hy60, hz60, r8, r2, rfl, k_b60, R60⟩ := hm60
        have lt_b60 := (hH.2.2 _ _ k_b60).1
        obtain ⟨R60, nb60⟩ := R60
        have Rb60 := R60.in
        show et_go none _ 75 63 _ [.ref b60] _ _ _ _
        refine hs_astore (i := 7) (p := 65) (by decide +kernel) (Nat.le_of_ble_eq_true rfl) ?_
        refine hs_aload (i := 7) (p := 67) (by decide +kernel) rfl ?_
        refine hs_ifnonnull1 (p := 72) (by decide +kernel) ?_
        refine hs_aload (i := 5) (p := 74) (by decide +kernel) rfl ?_
        refine hs_ifnonnull1 (p := 87) (by decide +kernel) ?_
        refine hs_aload (i := 5) (p := 89) (by decide +kernel) rfl ?_
        refine hs_aload (i := 7) (p := 91) (by decide +kernel) rfl ?_
        have hHo := hH
        refine hf_next (ty := .object "KnobEye$Node") (p := 94) (by decide +kernel) rfl hH k_b k_b60 (by omega) (fun G91 hH x91 e91 _ => ?_)
        have g0 := (x91.2 g 0 lt_g (fun h => (show ¬ g = b by omega) h.1)).trans g0
        have g1 := (x91.2 g 1 lt_g (fun h => (show ¬ g = b by omega) h.1)).trans g1
        have g2 := (x91.2 g 2 lt_g (fun h => (show ¬ g = b by omega) h.1)).trans g2
        have nb60 := (x91.2 b60 1 lt_b60 (fun h => (show ¬ b60 = b by omega) h.1)).trans nb60
        have r2 := (x91.2 rd 2 lt_rd (fun h => (hi_ne k_rd k_b (by decide)) h.1)).trans r2
        have r8 := (x91.2 rd 8 lt_rd (fun h => (hi_ne k_rd k_b (by decide)) h.1)).trans r8
        have lt_rd := Nat.lt_of_lt_of_le lt_rd x91.1
        have lt_g := Nat.lt_of_lt_of_le lt_g x91.1
        have lt_b := Nat.lt_of_lt_of_le lt_b x91.1
        have lt_a := Nat.lt_of_lt_of_le lt_a x91.1
        have lt_b60 := Nat.lt_of_lt_of_le lt_b60 x91.1
        have hX := hX.tr x91 (fun b j hb h => by first | omega | (dsimp only at h ⊢; omega) | (dsimp only at h; omega) | (dsimp only; omega))
        have m91 := x91.1
        have htk := htk.xf hHo k_rd et_ex.rf x91 (fun a j hs => .inr (.inl (by have e := hs.1; rw [e]; exact k_b)))
        have R60 := R60.fr (x91.agf (lo := G.2) (hi := G60.2) (by omega) (fun a j h1 h2 hs => by first | omega | (dsimp only at hs; omega))).ag
        refine hs_aload (i := 7) (p := 96) (by decide +kernel) rfl ?_
        refine hs_astore (i := 5) (p := 98) (by decide +kernel) (Nat.le_of_ble_eq_true rfl) ?_
        have hI := hI.snoc (fun c c1 c2 i ci => x91.2 c i (by omega) ci) e91 nb60 (by omega) (by omega) (Nat.le_refl _) (by omega) R60
        refine hs_aload (i := 0) (p := 99) (by decide +kernel) rfl ?_
        refine hs_iload (i := 3) (p := 100) (by decide +kernel) rfl ?_
        refine hs_if1 (c := .eq) (t := 109) (f := 103) (by decide +kernel) (show Int32.ofNat 0 = 0 by decide) ?_
        refine hs_gst (v := Value.ref 20) (p := 112) (by decide +kernel) ?_
        refine ht_callv (T := et_TT) (t := 7) (mi := 78) (na := 1) (ci := 5) (lk := 8) (lm := 2) (L0 := eg_en (eg_mL 78) [.ref rd, .ref 20]) (by decide +kernel) rfl hH k_rd rfl rfl rfl rfl rfl (by rw [show eg_mL 78 = 2 from by decide +kernel]; first | done | rfl) ?_
        refine (fc_is hH k_rd htk htl r8 (by omega) (wd := 20) (by decide)).mono (fun u hu => xp_cb hu ?_)
        by_cases i112 : wat L y60 = 20
        · rw [if_pos i112]
          have il112 : y60 < L.length := wat_i (by rw [i112]; decide)
          show et_go none _ 75 115 _ [.int (Int32.ofNat 1)] _ _ _ _
          refine hs_if1 (c := .ne) (t := 121) (f := 118) (by decide +kernel) (show ¬ Int32.ofNat 1 = 0 by decide) ?_
          refine hs_aload (i := 0) (p := 122) (by decide +kernel) rfl ?_
          refine hs_dup1 (p := 123) (by decide +kernel) ?_
          refine hf_get (T := et_TT) (t := 7) (ci := 5) (f := 8) (p := 126) (by decide +kernel) rfl hH k_rd r8 ?_
          refine hs_k (x := Int32.ofNat 1) (p := 127) (by decide +kernel) ?_
          refine hs_iaddn (p := 128) (by decide +kernel) ?_
          have hHo := hH
          refine hf_put (T := et_TT) (t := 7) (ci := 5) (f := 8) (p := 131) (ty := .int) (by decide +kernel) rfl rfl rfl rfl rfl hH k_rd (hi_nv (by omega) (by omega)) (fun G128 hH x128 e128 => ?_)
          have e91 := (x128.2 b 1 lt_b (fun h => (hi_ne k_b k_rd (by decide)) h.1)).trans e91
          have g0 := (x128.2 g 0 lt_g (fun h => (hi_ne k_g k_rd (by decide)) h.1)).trans g0
          have g1 := (x128.2 g 1 lt_g (fun h => (hi_ne k_g k_rd (by decide)) h.1)).trans g1
          have g2 := (x128.2 g 2 lt_g (fun h => (hi_ne k_g k_rd (by decide)) h.1)).trans g2
          have nb60 := (x128.2 b60 1 lt_b60 (fun h => (hi_ne k_b60 k_rd (by decide)) h.1)).trans nb60
          have r2 := (x128.2 rd 2 lt_rd (fun h => absurd h.2 (by decide))).trans r2
          have lt_rd := Nat.lt_of_lt_of_le lt_rd x128.1
          have lt_g := Nat.lt_of_lt_of_le lt_g x128.1
          have lt_b := Nat.lt_of_lt_of_le lt_b x128.1
          have lt_a := Nat.lt_of_lt_of_le lt_a x128.1
          have lt_b60 := Nat.lt_of_lt_of_le lt_b60 x128.1
          have hX := hX.tr x128 (fun b j hb h => by first | omega | (dsimp only at h ⊢; omega) | (dsimp only at h; omega) | (dsimp only; omega))
          have m128 := x128.1
          have htk := htk.xf hHo k_rd et_ex.rf x128 (fun a j hs => .inl (by first | omega | (dsimp only at hs; omega)))
          have hI := hI.fr (x128.agf (lo := (g + 1)) (hi := G60.2) (by omega) (fun a j h1 h2 hs => by first | omega | (dsimp only at hs; omega)))
          have e128 : et_pl (eg_at G128 rd) 8 = some (.int (Int32.ofNat (y60 + 1))) := e128
          refine hs_iinc1 (i := 6) (p := 134) (by decide +kernel) rfl (Nat.le_of_ble_eq_true rfl) ?_
          refine hs_goto (p := 37) (by decide +kernel) ?_
          obtain ⟨n', rfl⟩ : ∃ n', n = n' + 1 := ⟨n - 1, by omega⟩
          rw [show sp_lp (sp_A m) 20 (fun f g e => f e && g e) (n' + 1) (gF 1 fs) (L.drop y) = sp_lp (sp_A m) 20 (fun f g e => f e && g e) n' (gF 1 (fs ++ [f60])) (L.drop (y60 + 1)) from (sp_lp_y sp60 i112 (by decide)).trans (by rw [gF_1])]
          show et_go none _ 75 37 [some (.ref rd), some (.int (Int32.ofNat 1)), some (.int (Int32.ofNat dep)), some (.int (Int32.ofNat 0)), some (.ref g), some (.ref b60), some (.int (Int32.ofNat (i + 1))), some (.ref b60)] [] _ _ _ _
          exact ih (L.length - (y60 + 1)) (by omega) hH hx0 hX k_rd htk e128 (by omega) r2 (by omega) k_g g0 g1 g2 k_b60 hI (by omega) nb60 (by omega) (by omega) (by omega) (by omega) rfl
        · rw [if_neg i112]
          show et_go none _ 75 115 _ [.int (Int32.ofNat 0)] _ _ _ _
          refine hs_if0 (c := .ne) (t := 121) (f := 118) (by decide +kernel) (show ¬ (¬ Int32.ofNat 0 = 0) by decide) ?_
          refine hs_goto (p := 137) (by decide +kernel) ?_
          refine hs_aload (i := 4) (p := 139) (by decide +kernel) rfl ?_
          refine hf_get (T := et_TT) (t := 6) (ci := 4) (f := 2) (p := 142) (by decide +kernel) rfl hH k_g g2 ?_
          refine hs_aload (i := 5) (p := 144) (by decide +kernel) rfl ?_
          refine hf_acm (c := .ne) (tt := 152) (ff := 147) (by decide +kernel) (hi_ca hH k_a (.inr (by decide))) (hi_ca hH k_b60 (.inr (by decide))) (fun (q144 : ¬ Value.ref a = .ref b60) => ?_) (fun (q144 : ¬ ¬ Value.ref a = .ref b60) => ?_)
          · refine hs_aload (i := 4) (p := 154) (by decide +kernel) rfl ?_
            refine hs_aret (cn := "KnobEye$Node") (by decide +kernel) ?_
            refine ⟨_, _, _, _, _, rfl, hx0, hH, rx_out hX, ?_⟩
            rw [show sp_lp (sp_A m) 20 (fun f g e => f e && g e) n (gF 1 fs) (L.drop y) = some (gF 1 (fs ++ [f60]), L.drop y60) from (sp_lp_n sp60 i112).trans (by rw [gF_1])]
            exact ⟨y60, _, rfl, (by omega), (by omega), r8, r2, rfl, k_g, ⟨((hI.dn (by decide) g0 g2 (by omega)).wk (Nat.le_refl _) (by omega)).up (by omega), g1⟩⟩
          · obtain rfl : a = b60 := Value.ref.inj (Decidable.of_not_not q144)
            refine hs_aload (i := 5) (p := 149) (by decide +kernel) rfl ?_
            refine hs_goto (p := 154) (by decide +kernel) ?_
            refine hs_aret (cn := "KnobEye$Node") (by decide +kernel) ?_
            obtain ⟨al1, al2, ah1, ah2, ad⟩ := hI.alone (k := 1)
            refine ⟨_, _, _, _, _, rfl, hx0, hH, rx_out hX, ?_⟩
            rw [show sp_lp (sp_A m) 20 (fun f g e => f e && g e) n (gF 1 fs) (L.drop y) = some (gF 1 (fs ++ [f60]), L.drop y60) from (sp_lp_n sp60 i112).trans (by rw [gF_1])]
            exact ⟨y60, _, rfl, (by omega), (by omega), r8, r2, rfl, k_a, ⟨(ad.wk (by omega) (by omega)).up (by omega), nb60⟩⟩
theorem fx_g1 (hsub : fA m) : fG 1 1 m (spx_all (sp_A m)) := by
  intro K G d2 rd x dep L hH k_rd htk htl r8 hx r2 hdm hd
  obtain ⟨d, rfl⟩ : ∃ d, d2 = d + 5 := ⟨d2 - 5, by omega⟩
  rw [show eg_mL 75 = 8 from by decide +kernel]
  show et_go none (d + 5) 75 0 [some (.ref rd), some (.int (Int32.ofNat 1)), some (.int (Int32.ofNat dep)), none, none, none, none, none] [] G 0 0 _
  have lt_rd := (hH.2.2 _ _ k_rd).1
  have hX : xf (fun b j => (b = rd ∧ (2 ≤ j ∧ j ≤ 3)) ∨ (b = rd ∧ j = 8)) G G := xf.rf
  have hx0 : et_ex K K := et_ex.rf
  have hl4 : L.length ≤ 400 := by obtain ⟨_, _, _, _, _, h, _⟩ := htk; exact h
  have lr0 := (hH.2.2 _ _ k_rd).1
  refine hs_iload (i := 2) (p := 1) (by decide +kernel) rfl ?_
  refine hs_k (x := Int32.ofNat 6) (p := 3) (by decide +kernel) ?_
  refine hs_br2n (c := .le) (t := 11) (f := 6) (by decide +kernel) (by omega) (by omega) (fun (c3 : dep ≤ 6) => ?_) (fun (c3 : ¬ (dep ≤ 6)) => ?_)
  · refine hs_iload (i := 1) (p := 12) (by decide +kernel) rfl ?_
    refine hs_if1 (c := .ne) (t := 19) (f := 15) (by decide +kernel) (show ¬ Int32.ofNat 1 = 0 by decide) ?_
    refine hs_k (x := Int32.ofNat 0) (p := 20) (by decide +kernel) ?_
    refine hs_istore (i := 3) (p := 21) (by decide +kernel) (Nat.le_of_ble_eq_true rfl) ?_
    have hHo := hH
    refine hf_newN (p := 24) (by decide +kernel) (by omega) (by omega) hH (fun KK21 GG21 hxx21 x21 hH k_G_2 mm21 hf21 => ?_)
    have r8 := (x21.2 rd 8 lt_rd (fun h => h)).trans r8
    have r2 := (x21.2 rd 2 lt_rd (fun h => h)).trans r2
    have lt_rd := Nat.lt_of_lt_of_le lt_rd x21.1
    have hX := hX.tr x21 (fun b j hb h => h.elim)
    have m21 := x21.1
    have htk := htk.xf hHo k_rd hxx21 x21 (fun a j hs => absurd hs id)
    have k_rd := hxx21 _ _ k_rd
    have hx0 := hx0.tr hxx21
    have lt_G_2 : G.2 < GG21.2 := by omega
    obtain ⟨n1_21, n2_21, n3_21, n4_21, n5_21⟩ := hf21
    refine hs_dup1 (p := 25) (by decide +kernel) ?_
    refine hs_iload (i := 1) (p := 26) (by decide +kernel) rfl ?_
    have hHo := hH
    refine hs_callp (mi := 61) (na := 1) (lk := 8) (lm := 2) (L0 := eg_en (eg_mL 61) [.ref G.2, .int (Int32.ofNat 1)]) (by decide +kernel) rfl rfl rfl rfl rfl (by rw [show eg_mL 61 = 2 from by decide +kernel]; first | done | rfl) ?_
    refine (fc_nod hH k_G_2).mono (fun u hu => xw_cb hu (fun G26 v26 hH x26 hP26 => ?_))
    have r8 := (x26.2 rd 8 lt_rd (fun h => (hi_ne k_rd k_G_2 (by decide)) h.1)).trans r8
    have r2 := (x26.2 rd 2 lt_rd (fun h => (hi_ne k_rd k_G_2 (by decide)) h.1)).trans r2
    have n1_21 := (x26.2 G.2 1 lt_G_2 (fun h => absurd h.2 (by decide))).trans n1_21
    have n2_21 := (x26.2 G.2 2 lt_G_2 (fun h => absurd h.2 (by decide))).trans n2_21
    have n3_21 := (x26.2 G.2 3 lt_G_2 (fun h => absurd h.2 (by decide))).trans n3_21
    have n4_21 := (x26.2 G.2 4 lt_G_2 (fun h => absurd h.2 (by decide))).trans n4_21
    have n5_21 := (x26.2 G.2 5 lt_G_2 (fun h => absurd h.2 (by decide))).trans n5_21
    have lt_rd := Nat.lt_of_lt_of_le lt_rd x26.1
    have lt_G_2 := Nat.lt_of_lt_of_le lt_G_2 x26.1
    have hX := hX.tr x26 (fun b j hb h => by first | omega | (dsimp only at h ⊢; omega) | (dsimp only at h; omega) | (dsimp only; omega))
    have m26 := x26.1
    have htk := htk.xf hHo k_rd et_ex.rf x26 (fun a j hs => .inr (.inl (by have e := hs.1; rw [e]; exact k_G_2)))
    obtain ⟨rfl, e26⟩ := hP26
    show et_go none _ 75 29 _ [.ref G.2] _ _ _ _
    refine hs_astore (i := 4) (p := 31) (by decide +kernel) (Nat.le_of_ble_eq_true rfl) ?_
    refine hs_nul (p := 32) (by decide +kernel) ?_
    refine hs_astore0 (i := 5) (p := 34) (by decide +kernel) (Nat.le_of_ble_eq_true rfl) ?_
    refine hs_k (x := Int32.ofNat 0) (p := 35) (by decide +kernel) ?_
    refine hs_istore (i := 6) (p := 37) (by decide +kernel) (Nat.le_of_ble_eq_true rfl) ?_
    refine hs_iload (i := 6) (p := 39) (by decide +kernel) rfl ?_
    refine hs_k (x := Int32.ofNat 400) (p := 42) (by decide +kernel) ?_
    refine hs_br2n (c := .ge) (t := 137) (f := 45) (by decide +kernel) (by omega) (by omega) (fun h => absurd h (show ¬ (400 ≤ 0) by decide)) (fun _ => ?_)
    refine hs_iload (i := 3) (p := 46) (by decide +kernel) rfl ?_
    refine hs_if1 (c := .eq) (t := 58) (f := 49) (by decide +kernel) (show Int32.ofNat 0 = 0 by decide) ?_
    refine hs_aload (i := 0) (p := 59) (by decide +kernel) rfl ?_
    refine hs_iload (i := 2) (p := 60) (by decide +kernel) rfl ?_
    have hHo := hH
    refine ht_callv (T := et_TT) (t := 7) (mi := 77) (na := 1) (ci := 5) (lk := 8) (lm := 4) (L0 := eg_en (eg_mL 77) [.ref rd, .int (Int32.ofNat dep)]) (by decide +kernel) rfl hH k_rd rfl rfl rfl rfl rfl (by rw [show eg_mL 77 = 4 from by decide +kernel]; first | done | rfl) ?_
    refine ((((pp_ag m).1) _ _ _ _ _ _ hH k_rd r8 (by omega) (by omega) (by omega)).and (hsub _ _ _ _ _ _ _ hH k_rd htk htl r8 (by omega) r2 (by omega) (by omega))).mono (fun u hu => fz_cb (t := 0) (by decide) hu (fun K60 G60 v60 c60 s60 hxx60 hH x60 hc60 hs60 hm60 => ?_))
    have x60 := rx_in x60
    have n1_21 := (x60.2 G.2 1 lt_G_2 (fun h => Or.elim h (fun h => (hi_ne k_G_2 k_rd (by decide)) h.1) (fun h => (hi_ne k_G_2 k_rd (by decide)) h.1))).trans n1_21
    have n2_21 := (x60.2 G.2 2 lt_G_2 (fun h => Or.elim h (fun h => (hi_ne k_G_2 k_rd (by decide)) h.1) (fun h => (hi_ne k_G_2 k_rd (by decide)) h.1))).trans n2_21
    have n3_21 := (x60.2 G.2 3 lt_G_2 (fun h => Or.elim h (fun h => (hi_ne k_G_2 k_rd (by decide)) h.1) (fun h => (hi_ne k_G_2 k_rd (by decide)) h.1))).trans n3_21
    have n4_21 := (x60.2 G.2 4 lt_G_2 (fun h => Or.elim h (fun h => (hi_ne k_G_2 k_rd (by decide)) h.1) (fun h => (hi_ne k_G_2 k_rd (by decide)) h.1))).trans n4_21
    have n5_21 := (x60.2 G.2 5 lt_G_2 (fun h => Or.elim h (fun h => (hi_ne k_G_2 k_rd (by decide)) h.1) (fun h => (hi_ne k_G_2 k_rd (by decide)) h.1))).trans n5_21
    have e26 := (x60.2 G.2 0 lt_G_2 (fun h => Or.elim h (fun h => (hi_ne k_G_2 k_rd (by decide)) h.1) (fun h => (hi_ne k_G_2 k_rd (by decide)) h.1))).trans e26
    have lt_rd := Nat.lt_of_lt_of_le lt_rd x60.1
    have lt_G_2 := Nat.lt_of_lt_of_le lt_G_2 x60.1
    have hX := hX.tr x60 (fun b j hb h => by first | omega | (dsimp only at h ⊢; omega) | (dsimp only at h; omega) | (dsimp only; omega))
    have m60 := x60.1
    have htk := htk.xf hHo k_rd hxx60 x60 (fun a j hs => .inl (by first | omega | (dsimp only at hs; omega)))
    have k_rd := hxx60 _ _ k_rd
    have k_G_2 := hxx60 _ _ k_G_2
    have hx0 := hx0.tr hxx60
    rcases sp60 : sp_A m (L.drop x) with _ | ⟨f60, r60⟩
    · rw [sp60] at hm60
      obtain ⟨rfl, q60, hq60, r2⟩ := hm60
      show et_go none _ 75 63 _ [.null] _ _ _ _
      refine hs_astore0 (i := 7) (p := 65) (by decide +kernel) (Nat.le_of_ble_eq_true rfl) ?_
      refine hs_aload0 (i := 7) (p := 67) (by decide +kernel) rfl ?_
      refine hs_ifnonnull0 (p := 70) (by decide +kernel) ?_
      refine hs_nul (p := 71) (by decide +kernel) ?_
      refine hs_aretN (cn := "KnobEye$Node") (by decide +kernel) ?_
      refine ⟨_, _, _, _, _, rfl, hx0, hH, rx_out hX, ?_⟩
      rw [show spx_all (sp_A m) (L.drop x) = none from sp_many_0 sp60]
      exact ⟨rfl, _, (by omega), r2⟩
    · rw [sp60] at hm60
      obtain ⟨y60, b60, rfl, hy60, hz60, r8, r2, rfl, k_b60, R60⟩ := hm60
      have lt_b60 := (hH.2.2 _ _ k_b60).1
      obtain ⟨R60, nb60⟩ := R60
      have Rb60 := R60.in
      show et_go none _ 75 63 _ [.ref b60] _ _ _ _
      refine hs_astore (i := 7) (p := 65) (by decide +kernel) (Nat.le_of_ble_eq_true rfl) ?_
      refine hs_aload (i := 7) (p := 67) (by decide +kernel) rfl ?_
      refine hs_ifnonnull1 (p := 72) (by decide +kernel) ?_
      refine hs_aload0 (i := 5) (p := 74) (by decide +kernel) rfl ?_
      refine hs_ifnonnull0 (p := 77) (by decide +kernel) ?_
      refine hs_aload (i := 4) (p := 79) (by decide +kernel) rfl ?_
      refine hs_aload (i := 7) (p := 81) (by decide +kernel) rfl ?_
      have hHo := hH
      refine hf_put (T := et_TT) (t := 6) (ci := 4) (f := 2) (p := 84) (ty := (.object "KnobEye$Node")) (by decide +kernel) rfl rfl rfl rfl rfl hH k_G_2 (.inr ⟨by decide, _, rfl, k_b60⟩) (fun G81 hH x81 e81 => ?_)
      have n1_21 := (x81.2 G.2 1 lt_G_2 (fun h => absurd h.2 (by decide))).trans n1_21
      have n3_21 := (x81.2 G.2 3 lt_G_2 (fun h => absurd h.2 (by decide))).trans n3_21
      have n4_21 := (x81.2 G.2 4 lt_G_2 (fun h => absurd h.2 (by decide))).trans n4_21
      have n5_21 := (x81.2 G.2 5 lt_G_2 (fun h => absurd h.2 (by decide))).trans n5_21
      have e26 := (x81.2 G.2 0 lt_G_2 (fun h => absurd h.2 (by decide))).trans e26
      have nb60 := (x81.2 b60 1 lt_b60 (fun h => (show ¬ b60 = G.2 by omega) h.1)).trans nb60
      have r2 := (x81.2 rd 2 lt_rd (fun h => (hi_ne k_rd k_G_2 (by decide)) h.1)).trans r2
      have r8 := (x81.2 rd 8 lt_rd (fun h => (hi_ne k_rd k_G_2 (by decide)) h.1)).trans r8
      have lt_rd := Nat.lt_of_lt_of_le lt_rd x81.1
      have lt_G_2 := Nat.lt_of_lt_of_le lt_G_2 x81.1
      have lt_b60 := Nat.lt_of_lt_of_le lt_b60 x81.1
      have hX := hX.tr x81 (fun b j hb h => by first | omega | (dsimp only at h ⊢; omega) | (dsimp only at h; omega) | (dsimp only; omega))
      have m81 := x81.1
      have htk := htk.xf hHo k_rd et_ex.rf x81 (fun a j hs => .inr (.inl (by have e := hs.1; rw [e]; exact k_G_2)))
      have R60 := R60.fr (x81.agf (lo := G26.2) (hi := G60.2) (by omega) (fun a j h1 h2 hs => by first | omega | (dsimp only at hs; omega))).ag
      refine hs_goto (p := 94) (by decide +kernel) ?_
      refine hs_aload (i := 7) (p := 96) (by decide +kernel) rfl ?_
      refine hs_astore (i := 5) (p := 98) (by decide +kernel) (Nat.le_of_ble_eq_true rfl) ?_
      have hI := gI.one (g := G.2) nb60 (by omega) (Nat.le_refl _) R60
      refine hs_aload (i := 0) (p := 99) (by decide +kernel) rfl ?_
      refine hs_iload (i := 3) (p := 100) (by decide +kernel) rfl ?_
      refine hs_if1 (c := .eq) (t := 109) (f := 103) (by decide +kernel) (show Int32.ofNat 0 = 0 by decide) ?_
      refine hs_gst (v := Value.ref 20) (p := 112) (by decide +kernel) ?_
      refine ht_callv (T := et_TT) (t := 7) (mi := 78) (na := 1) (ci := 5) (lk := 8) (lm := 2) (L0 := eg_en (eg_mL 78) [.ref rd, .ref 20]) (by decide +kernel) rfl hH k_rd rfl rfl rfl rfl rfl (by rw [show eg_mL 78 = 2 from by decide +kernel]; first | done | rfl) ?_
      refine (fc_is hH k_rd htk htl r8 (by omega) (wd := 20) (by decide)).mono (fun u hu => xp_cb hu ?_)
      by_cases i112 : wat L y60 = 20
      · rw [if_pos i112]
        have il112 : y60 < L.length := wat_i (by rw [i112]; decide)
        show et_go none _ 75 115 _ [.int (Int32.ofNat 1)] _ _ _ _
        refine hs_if1 (c := .ne) (t := 121) (f := 118) (by decide +kernel) (show ¬ Int32.ofNat 1 = 0 by decide) ?_
        refine hs_aload (i := 0) (p := 122) (by decide +kernel) rfl ?_
        refine hs_dup1 (p := 123) (by decide +kernel) ?_
        refine hf_get (T := et_TT) (t := 7) (ci := 5) (f := 8) (p := 126) (by decide +kernel) rfl hH k_rd r8 ?_
        refine hs_k (x := Int32.ofNat 1) (p := 127) (by decide +kernel) ?_
        refine hs_iaddn (p := 128) (by decide +kernel) ?_
        have hHo := hH
        refine hf_put (T := et_TT) (t := 7) (ci := 5) (f := 8) (p := 131) (ty := .int) (by decide +kernel) rfl rfl rfl rfl rfl hH k_rd (hi_nv (by omega) (by omega)) (fun G128 hH x128 e128 => ?_)
        have n1_21 := (x128.2 G.2 1 lt_G_2 (fun h => (hi_ne k_G_2 k_rd (by decide)) h.1)).trans n1_21
        have e81 := (x128.2 G.2 2 lt_G_2 (fun h => (hi_ne k_G_2 k_rd (by decide)) h.1)).trans e81
        have n3_21 := (x128.2 G.2 3 lt_G_2 (fun h => (hi_ne k_G_2 k_rd (by decide)) h.1)).trans n3_21
        have n4_21 := (x128.2 G.2 4 lt_G_2 (fun h => (hi_ne k_G_2 k_rd (by decide)) h.1)).trans n4_21
        have n5_21 := (x128.2 G.2 5 lt_G_2 (fun h => (hi_ne k_G_2 k_rd (by decide)) h.1)).trans n5_21
        have e26 := (x128.2 G.2 0 lt_G_2 (fun h => (hi_ne k_G_2 k_rd (by decide)) h.1)).trans e26
        have nb60 := (x128.2 b60 1 lt_b60 (fun h => (hi_ne k_b60 k_rd (by decide)) h.1)).trans nb60
        have r2 := (x128.2 rd 2 lt_rd (fun h => absurd h.2 (by decide))).trans r2
        have lt_rd := Nat.lt_of_lt_of_le lt_rd x128.1
        have lt_G_2 := Nat.lt_of_lt_of_le lt_G_2 x128.1
        have lt_b60 := Nat.lt_of_lt_of_le lt_b60 x128.1
        have hX := hX.tr x128 (fun b j hb h => by first | omega | (dsimp only at h ⊢; omega) | (dsimp only at h; omega) | (dsimp only; omega))
        have m128 := x128.1
        have htk := htk.xf hHo k_rd et_ex.rf x128 (fun a j hs => .inl (by first | omega | (dsimp only at hs; omega)))
        have hI := hI.fr (x128.agf (lo := (G.2 + 1)) (hi := G60.2) (by omega) (fun a j h1 h2 hs => by first | omega | (dsimp only at hs; omega)))
        have e128 : et_pl (eg_at G128 rd) 8 = some (.int (Int32.ofNat (y60 + 1))) := e128
        refine hs_iinc1 (i := 6) (p := 134) (by decide +kernel) rfl (Nat.le_of_ble_eq_true rfl) ?_
        refine hs_goto (p := 37) (by decide +kernel) ?_
        rw [show spx_all (sp_A m) (L.drop x) = sp_lp (sp_A m) 20 (fun f g e => f e && g e) 499 (gF 1 [f60]) (L.drop (y60 + 1)) from (sp_many_y sp60 i112 (by decide)).trans (by rw [gF_one])]
        show et_go none _ 75 37 [some (.ref rd), some (.int (Int32.ofNat 1)), some (.int (Int32.ofNat dep)), some (.int (Int32.ofNat 0)), some (.ref G.2), some (.ref b60), some (.int (Int32.ofNat (0 + 1))), some (.ref b60)] [] _ _ _ _
        exact fn_g1 (m := m) (K0 := K) (G0 := G) (i := 0 + 1) hsub hH hx0 hX k_rd htk htl e128 (by omega) r2 lr0 (by omega) k_G_2 e26 n1_21 e81 k_b60 hI (by omega) (by omega) nb60 (by omega) (by omega) (by omega) (by omega) hdm (by omega)
      · rw [if_neg i112]
        show et_go none _ 75 115 _ [.int (Int32.ofNat 0)] _ _ _ _
        refine hs_if0 (c := .ne) (t := 121) (f := 118) (by decide +kernel) (show ¬ (¬ Int32.ofNat 0 = 0) by decide) ?_
        refine hs_goto (p := 137) (by decide +kernel) ?_
        refine hs_aload (i := 4) (p := 139) (by decide +kernel) rfl ?_
        refine hf_get (T := et_TT) (t := 6) (ci := 4) (f := 2) (p := 142) (by decide +kernel) rfl hH k_G_2 e81 ?_
        refine hs_aload (i := 5) (p := 144) (by decide +kernel) rfl ?_
        refine hf_acm (c := .ne) (tt := 152) (ff := 147) (by decide +kernel) (hi_ca hH k_b60 (.inr (by decide))) (hi_ca hH k_b60 (.inr (by decide))) (fun (q144 : ¬ Value.ref b60 = .ref b60) => ?_) (fun (q144 : ¬ ¬ Value.ref b60 = .ref b60) => ?_)
        · exact absurd rfl q144
        · refine hs_aload (i := 5) (p := 149) (by decide +kernel) rfl ?_
          refine hs_goto (p := 154) (by decide +kernel) ?_
          refine hs_aret (cn := "KnobEye$Node") (by decide +kernel) ?_
          obtain ⟨al1, al2, ah1, ah2, ad⟩ := hI.alone (k := 1)
          refine ⟨_, _, _, _, _, rfl, hx0, hH, rx_out hX, ?_⟩
          rw [show spx_all (sp_A m) (L.drop x) = some (gF 1 [f60], L.drop y60) from (sp_many_n sp60 i112).trans (by rw [gF_one])]
          exact ⟨y60, _, rfl, (by omega), (by omega), r8, r2, rfl, k_b60, ⟨(ad.wk (by omega) (by omega)).up (by omega), nb60⟩⟩
  · exact absurd (show dep ≤ 6 by omega) c3
theorem fn_g0 {g a b i ck sk y n hi : Nat} {fs : List (sp_E → Bool)} {x7 : Option Value} (hsub : fG 1 1 m (spx_all (sp_A m))) (hH : et_H et_TT K G) (hx0 : et_ex K0 K) (hX : xf (fun b j => (b = rd ∧ (2 ≤ j ∧ j ≤ 3)) ∨ (b = rd ∧ j = 8)) G0 G) (k_rd : K rd = some 7) (htk : tk K G rd L) (htl : tl L) (r8 : et_pl (eg_at G rd) 8 = some (.int (Int32.ofNat y))) (hy : y ≤ L.length) (r2 : et_pl (eg_at G rd) 2 = some (.int (-1))) (lr0 : rd < G0.2) (hxy : x ≤ y) (k_g : K g = some 6) (g0 : kpl G g 0 (.int (Int32.ofNat 0))) (g1 : kpl G g 1 .null) (g2 : kpl G g 2 (.ref a)) (k_b : K b = some 6) (hI : gI G (1 + 1 + 2 * m) g hi a b fs) (hg : G0.2 ≤ g) (hh : hi ≤ G.2) (nb : kpl G b 1 .null) (hn : L.length - y < n) (hck : ck ≤ 807 * (i + 1)) (hsk : sk ≤ 6 * ck) (hiy : 2 * i ≤ y) (hdm : dep + m = 6) (hd : 3 * m ≤ d) : et_go none (d + 6) 75 37 [some (.ref rd), some (.int (Int32.ofNat 0)), some (.int (Int32.ofNat dep)), some (.int (Int32.ofNat 1)), some (.ref g), some (.ref b), some (.int (Int32.ofNat i)), x7] [] G ck sk (fz rd L x K0 G0 (fB (1 + 2 + 2 * m) G0.2) (sp_lp (spx_all (sp_A m)) 21 (fun f g e => f e || g e) n (gF 0 fs) (L.drop y))) := by
  induction hm : L.length - y using Nat.strongRecOn generalizing i b ck sk y n hi fs x7 K G with
  | _ z ih =>
    have hl4 : L.length ≤ 400 := by obtain ⟨_, _, _, _, _, h, _⟩ := htk; exact h
    have hbd := hI.bd
    have mX := hX.1
    have lt_rd := (hH.2.2 _ _ k_rd).1
    have lt_g := (hH.2.2 _ _ k_g).1
    have lt_b := (hH.2.2 _ _ k_b).1
    have k_a : K a = some 6 := hi_first hH k_g g2
    have lt_a := (hH.2.2 _ _ k_a).1
    refine hs_iload (i := 6) (p := 39) (by decide +kernel) rfl ?_
    refine hs_k (x := Int32.ofNat 400) (p := 42) (by decide +kernel) ?_
    refine hs_br2n (c := .ge) (t := 137) (f := 45) (by decide +kernel) (by omega) (by omega) (fun (c42 : 400 ≤ i) => ?_) (fun (c42 : ¬ (400 ≤ i)) => ?_)
    · exact absurd c42 (by omega)
    · refine hs_iload (i := 3) (p := 46) (by decide +kernel) rfl ?_
      refine hs_if0 (c := .eq) (t := 58) (f := 49) (by decide +kernel) (show ¬ (Int32.ofNat 1 = 0) by decide) ?_
      refine hs_aload (i := 0) (p := 50) (by decide +kernel) rfl ?_
      refine hs_k (x := Int32.ofNat 1) (p := 51) (by decide +kernel) ?_
      refine hs_iload (i := 2) (p := 52) (by decide +kernel) rfl ?_
      have hHo := hH
      refine ht_callv (T := et_TT) (t := 7) (mi := 75) (na := 2) (ci := 5) (lk := 8) (lm := 8) (L0 := eg_en (eg_mL 75) [.ref rd, .int (Int32.ofNat 1), .int (Int32.ofNat dep)]) (by decide +kernel) rfl hH k_rd rfl rfl rfl rfl rfl (by rw [show eg_mL 75 = 8 from by decide +kernel]; first | done | rfl) ?_
      refine (((pp_g1 (pp_ag m).1) _ _ _ _ _ _ hH k_rd r8 (by omega) (by omega) (by omega)).and (hsub _ _ _ _ _ _ _ hH k_rd htk htl r8 (by omega) r2 (by omega) (by omega))).mono (fun u hu => fz_cb (t := 1) (by decide) hu (fun K52 G52 v52 c52 s52 hxx52 hH x52 hc52 hs52 hm52 => ?_))
      have x52 := rx_in x52
      have nb := (x52.2 b 1 lt_b (fun h => Or.elim h (fun h => (hi_ne k_b k_rd (by decide)) h.1) (fun h => (hi_ne k_b k_rd (by decide)) h.1))).trans nb
      have g0 := (x52.2 g 0 lt_g (fun h => Or.elim h (fun h => (hi_ne k_g k_rd (by decide)) h.1) (fun h => (hi_ne k_g k_rd (by decide)) h.1))).trans g0
      have g1 := (x52.2 g 1 lt_g (fun h => Or.elim h (fun h => (hi_ne k_g k_rd (by decide)) h.1) (fun h => (hi_ne k_g k_rd (by decide)) h.1))).trans g1
      have g2 := (x52.2 g 2 lt_g (fun h => Or.elim h (fun h => (hi_ne k_g k_rd (by decide)) h.1) (fun h => (hi_ne k_g k_rd (by decide)) h.1))).trans g2
      have lt_rd := Nat.lt_of_lt_of_le lt_rd x52.1
      have lt_g := Nat.lt_of_lt_of_le lt_g x52.1
      have lt_b := Nat.lt_of_lt_of_le lt_b x52.1
      have lt_a := Nat.lt_of_lt_of_le lt_a x52.1
      have hX := hX.tr x52 (fun b j hb h => by first | omega | (dsimp only at h ⊢; omega) | (dsimp only at h; omega) | (dsimp only; omega))
      have m52 := x52.1
      have htk := htk.xf hHo k_rd hxx52 x52 (fun a j hs => .inl (by first | omega | (dsimp only at hs; omega)))
      have hI := hI.fr (x52.agf (lo := (g + 1)) (hi := hi) (by omega) (fun a j h1 h2 hs => by first | omega | (dsimp only at hs; omega)))
      have k_rd := hxx52 _ _ k_rd
      have k_g := hxx52 _ _ k_g
      have k_b := hxx52 _ _ k_b
      have k_a := hxx52 _ _ k_a
      have hx0 := hx0.tr hxx52
      rcases sp52 : spx_all (sp_A m) (L.drop y) with _ | ⟨f52, r52⟩
      · rw [sp52] at hm52
        obtain ⟨rfl, q52, hq52, r2⟩ := hm52
        show et_go none _ 75 55 _ [.null] _ _ _ _
        refine hs_goto (p := 63) (by decide +kernel) ?_
        refine hs_astore0 (i := 7) (p := 65) (by decide +kernel) (Nat.le_of_ble_eq_true rfl) ?_
        refine hs_aload0 (i := 7) (p := 67) (by decide +kernel) rfl ?_
        refine hs_ifnonnull0 (p := 70) (by decide +kernel) ?_
        refine hs_nul (p := 71) (by decide +kernel) ?_
        refine hs_aretN (cn := "KnobEye$Node") (by decide +kernel) ?_
        refine ⟨_, _, _, _, _, rfl, hx0, hH, rx_out hX, ?_⟩
        rw [show sp_lp (spx_all (sp_A m)) 21 (fun f g e => f e || g e) n (gF 0 fs) (L.drop y) = none from sp_lp_0 sp52]
        exact ⟨rfl, _, (by omega), r2⟩
      · rw [sp52] at hm52
        obtain ⟨y52, b52, rfl, hy52, hz52, r8, r2, rfl, k_b52, R52⟩ := hm52
        have lt_b52 := (hH.2.2 _ _ k_b52).1
        obtain ⟨R52, nb52⟩ := R52
        have Rb52 := R52.in
        show et_go none _ 75 55 _ [.ref b52] _ _ _ _
        refine hs_goto (p := 63) (by decide +kernel) ?_
        refine hs_astore (i := 7) (p := 65) (by decide +kernel) (Nat.le_of_ble_eq_true rfl) ?_
        refine hs_aload (i := 7) (p := 67) (by decide +kernel) rfl ?_
        refine hs_ifnonnull1 (p := 72) (by decide +kernel) ?_
        refine hs_aload (i := 5) (p := 74) (by decide +kernel) rfl ?_
        refine hs_ifnonnull1 (p := 87) (by decide +kernel) ?_
        refine hs_aload (i := 5) (p := 89) (by decide +kernel) rfl ?_
        refine hs_aload (i := 7) (p := 91) (by decide +kernel) rfl ?_
        have hHo := hH
        refine hf_next (ty := .object "KnobEye$Node") (p := 94) (by decide +kernel) rfl hH k_b k_b52 (by omega) (fun G91 hH x91 e91 _ => ?_)
        have g0 := (x91.2 g 0 lt_g (fun h => (show ¬ g = b by omega) h.1)).trans g0
        have g1 := (x91.2 g 1 lt_g (fun h => (show ¬ g = b by omega) h.1)).trans g1
        have g2 := (x91.2 g 2 lt_g (fun h => (show ¬ g = b by omega) h.1)).trans g2
        have nb52 := (x91.2 b52 1 lt_b52 (fun h => (show ¬ b52 = b by omega) h.1)).trans nb52
        have r2 := (x91.2 rd 2 lt_rd (fun h => (hi_ne k_rd k_b (by decide)) h.1)).trans r2
        have r8 := (x91.2 rd 8 lt_rd (fun h => (hi_ne k_rd k_b (by decide)) h.1)).trans r8
        have lt_rd := Nat.lt_of_lt_of_le lt_rd x91.1
        have lt_g := Nat.lt_of_lt_of_le lt_g x91.1
        have lt_b := Nat.lt_of_lt_of_le lt_b x91.1
        have lt_a := Nat.lt_of_lt_of_le lt_a x91.1
        have lt_b52 := Nat.lt_of_lt_of_le lt_b52 x91.1
        have hX := hX.tr x91 (fun b j hb h => by first | omega | (dsimp only at h ⊢; omega) | (dsimp only at h; omega) | (dsimp only; omega))
        have m91 := x91.1
        have htk := htk.xf hHo k_rd et_ex.rf x91 (fun a j hs => .inr (.inl (by have e := hs.1; rw [e]; exact k_b)))
        have R52 := R52.fr (x91.agf (lo := G.2) (hi := G52.2) (by omega) (fun a j h1 h2 hs => by first | omega | (dsimp only at hs; omega))).ag
        refine hs_aload (i := 7) (p := 96) (by decide +kernel) rfl ?_
        refine hs_astore (i := 5) (p := 98) (by decide +kernel) (Nat.le_of_ble_eq_true rfl) ?_
        have hI := hI.snoc (fun c c1 c2 i ci => x91.2 c i (by omega) ci) e91 nb52 (by omega) (by omega) (Nat.le_refl _) (by omega) R52
        refine hs_aload (i := 0) (p := 99) (by decide +kernel) rfl ?_
        refine hs_iload (i := 3) (p := 100) (by decide +kernel) rfl ?_
        refine hs_if0 (c := .eq) (t := 109) (f := 103) (by decide +kernel) (show ¬ (Int32.ofNat 1 = 0) by decide) ?_
        refine hs_gst (v := Value.ref 21) (p := 106) (by decide +kernel) ?_
        refine hs_goto (p := 112) (by decide +kernel) ?_
        refine ht_callv (T := et_TT) (t := 7) (mi := 78) (na := 1) (ci := 5) (lk := 8) (lm := 2) (L0 := eg_en (eg_mL 78) [.ref rd, .ref 21]) (by decide +kernel) rfl hH k_rd rfl rfl rfl rfl rfl (by rw [show eg_mL 78 = 2 from by decide +kernel]; first | done | rfl) ?_
        refine (fc_is hH k_rd htk htl r8 (by omega) (wd := 21) (by decide)).mono (fun u hu => xp_cb hu ?_)
        by_cases i112 : wat L y52 = 21
        · rw [if_pos i112]
          have il112 : y52 < L.length := wat_i (by rw [i112]; decide)
          show et_go none _ 75 115 _ [.int (Int32.ofNat 1)] _ _ _ _
          refine hs_if1 (c := .ne) (t := 121) (f := 118) (by decide +kernel) (show ¬ Int32.ofNat 1 = 0 by decide) ?_
          refine hs_aload (i := 0) (p := 122) (by decide +kernel) rfl ?_
          refine hs_dup1 (p := 123) (by decide +kernel) ?_
          refine hf_get (T := et_TT) (t := 7) (ci := 5) (f := 8) (p := 126) (by decide +kernel) rfl hH k_rd r8 ?_
          refine hs_k (x := Int32.ofNat 1) (p := 127) (by decide +kernel) ?_
          refine hs_iaddn (p := 128) (by decide +kernel) ?_
          have hHo := hH
          refine hf_put (T := et_TT) (t := 7) (ci := 5) (f := 8) (p := 131) (ty := .int) (by decide +kernel) rfl rfl rfl rfl rfl hH k_rd (hi_nv (by omega) (by omega)) (fun G128 hH x128 e128 => ?_)
          have e91 := (x128.2 b 1 lt_b (fun h => (hi_ne k_b k_rd (by decide)) h.1)).trans e91
          have g0 := (x128.2 g 0 lt_g (fun h => (hi_ne k_g k_rd (by decide)) h.1)).trans g0
          have g1 := (x128.2 g 1 lt_g (fun h => (hi_ne k_g k_rd (by decide)) h.1)).trans g1
          have g2 := (x128.2 g 2 lt_g (fun h => (hi_ne k_g k_rd (by decide)) h.1)).trans g2
          have nb52 := (x128.2 b52 1 lt_b52 (fun h => (hi_ne k_b52 k_rd (by decide)) h.1)).trans nb52
          have r2 := (x128.2 rd 2 lt_rd (fun h => absurd h.2 (by decide))).trans r2
          have lt_rd := Nat.lt_of_lt_of_le lt_rd x128.1
          have lt_g := Nat.lt_of_lt_of_le lt_g x128.1
          have lt_b := Nat.lt_of_lt_of_le lt_b x128.1
          have lt_a := Nat.lt_of_lt_of_le lt_a x128.1
          have lt_b52 := Nat.lt_of_lt_of_le lt_b52 x128.1
          have hX := hX.tr x128 (fun b j hb h => by first | omega | (dsimp only at h ⊢; omega) | (dsimp only at h; omega) | (dsimp only; omega))
          have m128 := x128.1
          have htk := htk.xf hHo k_rd et_ex.rf x128 (fun a j hs => .inl (by first | omega | (dsimp only at hs; omega)))
          have hI := hI.fr (x128.agf (lo := (g + 1)) (hi := G52.2) (by omega) (fun a j h1 h2 hs => by first | omega | (dsimp only at hs; omega)))
          have e128 : et_pl (eg_at G128 rd) 8 = some (.int (Int32.ofNat (y52 + 1))) := e128
          refine hs_iinc1 (i := 6) (p := 134) (by decide +kernel) rfl (Nat.le_of_ble_eq_true rfl) ?_
          refine hs_goto (p := 37) (by decide +kernel) ?_
          obtain ⟨n', rfl⟩ : ∃ n', n = n' + 1 := ⟨n - 1, by omega⟩
          rw [show sp_lp (spx_all (sp_A m)) 21 (fun f g e => f e || g e) (n' + 1) (gF 0 fs) (L.drop y) = sp_lp (spx_all (sp_A m)) 21 (fun f g e => f e || g e) n' (gF 0 (fs ++ [f52])) (L.drop (y52 + 1)) from (sp_lp_y sp52 i112 (by decide)).trans (by rw [gF_0])]
          show et_go none _ 75 37 [some (.ref rd), some (.int (Int32.ofNat 0)), some (.int (Int32.ofNat dep)), some (.int (Int32.ofNat 1)), some (.ref g), some (.ref b52), some (.int (Int32.ofNat (i + 1))), some (.ref b52)] [] _ _ _ _
          exact ih (L.length - (y52 + 1)) (by omega) hH hx0 hX k_rd htk e128 (by omega) r2 (by omega) k_g g0 g1 g2 k_b52 hI (by omega) nb52 (by omega) (by omega) (by omega) (by omega) rfl
        · rw [if_neg i112]
          show et_go none _ 75 115 _ [.int (Int32.ofNat 0)] _ _ _ _
          refine hs_if0 (c := .ne) (t := 121) (f := 118) (by decide +kernel) (show ¬ (¬ Int32.ofNat 0 = 0) by decide) ?_
          refine hs_goto (p := 137) (by decide +kernel) ?_
          refine hs_aload (i := 4) (p := 139) (by decide +kernel) rfl ?_
          refine hf_get (T := et_TT) (t := 6) (ci := 4) (f := 2) (p := 142) (by decide +kernel) rfl hH k_g g2 ?_
          refine hs_aload (i := 5) (p := 144) (by decide +kernel) rfl ?_
          refine hf_acm (c := .ne) (tt := 152) (ff := 147) (by decide +kernel) (hi_ca hH k_a (.inr (by decide))) (hi_ca hH k_b52 (.inr (by decide))) (fun (q144 : ¬ Value.ref a = .ref b52) => ?_) (fun (q144 : ¬ ¬ Value.ref a = .ref b52) => ?_)
          · refine hs_aload (i := 4) (p := 154) (by decide +kernel) rfl ?_
            refine hs_aret (cn := "KnobEye$Node") (by decide +kernel) ?_
            refine ⟨_, _, _, _, _, rfl, hx0, hH, rx_out hX, ?_⟩
            rw [show sp_lp (spx_all (sp_A m)) 21 (fun f g e => f e || g e) n (gF 0 fs) (L.drop y) = some (gF 0 (fs ++ [f52]), L.drop y52) from (sp_lp_n sp52 i112).trans (by rw [gF_0])]
            exact ⟨y52, _, rfl, (by omega), (by omega), r8, r2, rfl, k_g, ⟨((hI.dn (by decide) g0 g2 (by omega)).wk (Nat.le_refl _) (by omega)).up (by omega), g1⟩⟩
          · obtain rfl : a = b52 := Value.ref.inj (Decidable.of_not_not q144)
            refine hs_aload (i := 5) (p := 149) (by decide +kernel) rfl ?_
            refine hs_goto (p := 154) (by decide +kernel) ?_
            refine hs_aret (cn := "KnobEye$Node") (by decide +kernel) ?_
            obtain ⟨al1, al2, ah1, ah2, ad⟩ := hI.alone (k := 0)
            refine ⟨_, _, _, _, _, rfl, hx0, hH, rx_out hX, ?_⟩
            rw [show sp_lp (spx_all (sp_A m)) 21 (fun f g e => f e || g e) n (gF 0 fs) (L.drop y) = some (gF 0 (fs ++ [f52]), L.drop y52) from (sp_lp_n sp52 i112).trans (by rw [gF_0])]
            exact ⟨y52, _, rfl, (by omega), (by omega), r8, r2, rfl, k_a, ⟨(ad.wk (by omega) (by omega)).up (by omega), nb52⟩⟩
theorem fx_g0 (hsub : fG 1 1 m (spx_all (sp_A m))) : fG 0 2 m (spx_any (sp_A m)) := by
  intro K G d2 rd x dep L hH k_rd htk htl r8 hx r2 hdm hd
  obtain ⟨d, rfl⟩ : ∃ d, d2 = d + 6 := ⟨d2 - 6, by omega⟩
  rw [show eg_mL 75 = 8 from by decide +kernel]
  show et_go none (d + 6) 75 0 [some (.ref rd), some (.int (Int32.ofNat 0)), some (.int (Int32.ofNat dep)), none, none, none, none, none] [] G 0 0 _
  have lt_rd := (hH.2.2 _ _ k_rd).1
  have hX : xf (fun b j => (b = rd ∧ (2 ≤ j ∧ j ≤ 3)) ∨ (b = rd ∧ j = 8)) G G := xf.rf
  have hx0 : et_ex K K := et_ex.rf
  have hl4 : L.length ≤ 400 := by obtain ⟨_, _, _, _, _, h, _⟩ := htk; exact h
  have lr0 := (hH.2.2 _ _ k_rd).1
  refine hs_iload (i := 2) (p := 1) (by decide +kernel) rfl ?_
  refine hs_k (x := Int32.ofNat 6) (p := 3) (by decide +kernel) ?_
  refine hs_br2n (c := .le) (t := 11) (f := 6) (by decide +kernel) (by omega) (by omega) (fun (c3 : dep ≤ 6) => ?_) (fun (c3 : ¬ (dep ≤ 6)) => ?_)
  · refine hs_iload (i := 1) (p := 12) (by decide +kernel) rfl ?_
    refine hs_if0 (c := .ne) (t := 19) (f := 15) (by decide +kernel) (show ¬ (¬ Int32.ofNat 0 = 0) by decide) ?_
    refine hs_k (x := Int32.ofNat 1) (p := 16) (by decide +kernel) ?_
    refine hs_goto (p := 20) (by decide +kernel) ?_
    refine hs_istore (i := 3) (p := 21) (by decide +kernel) (Nat.le_of_ble_eq_true rfl) ?_
    have hHo := hH
    refine hf_newN (p := 24) (by decide +kernel) (by omega) (by omega) hH (fun KK21 GG21 hxx21 x21 hH k_G_2 mm21 hf21 => ?_)
    have r8 := (x21.2 rd 8 lt_rd (fun h => h)).trans r8
    have r2 := (x21.2 rd 2 lt_rd (fun h => h)).trans r2
    have lt_rd := Nat.lt_of_lt_of_le lt_rd x21.1
    have hX := hX.tr x21 (fun b j hb h => h.elim)
    have m21 := x21.1
    have htk := htk.xf hHo k_rd hxx21 x21 (fun a j hs => absurd hs id)
    have k_rd := hxx21 _ _ k_rd
    have hx0 := hx0.tr hxx21
    have lt_G_2 : G.2 < GG21.2 := by omega
    obtain ⟨n1_21, n2_21, n3_21, n4_21, n5_21⟩ := hf21
    refine hs_dup1 (p := 25) (by decide +kernel) ?_
    refine hs_iload (i := 1) (p := 26) (by decide +kernel) rfl ?_
    have hHo := hH
    refine hs_callp (mi := 61) (na := 1) (lk := 8) (lm := 2) (L0 := eg_en (eg_mL 61) [.ref G.2, .int (Int32.ofNat 0)]) (by decide +kernel) rfl rfl rfl rfl rfl (by rw [show eg_mL 61 = 2 from by decide +kernel]; first | done | rfl) ?_
    refine (fc_nod hH k_G_2).mono (fun u hu => xw_cb hu (fun G26 v26 hH x26 hP26 => ?_))
    have r8 := (x26.2 rd 8 lt_rd (fun h => (hi_ne k_rd k_G_2 (by decide)) h.1)).trans r8
    have r2 := (x26.2 rd 2 lt_rd (fun h => (hi_ne k_rd k_G_2 (by decide)) h.1)).trans r2
    have n1_21 := (x26.2 G.2 1 lt_G_2 (fun h => absurd h.2 (by decide))).trans n1_21
    have n2_21 := (x26.2 G.2 2 lt_G_2 (fun h => absurd h.2 (by decide))).trans n2_21
    have n3_21 := (x26.2 G.2 3 lt_G_2 (fun h => absurd h.2 (by decide))).trans n3_21
    have n4_21 := (x26.2 G.2 4 lt_G_2 (fun h => absurd h.2 (by decide))).trans n4_21
    have n5_21 := (x26.2 G.2 5 lt_G_2 (fun h => absurd h.2 (by decide))).trans n5_21
    have lt_rd := Nat.lt_of_lt_of_le lt_rd x26.1
    have lt_G_2 := Nat.lt_of_lt_of_le lt_G_2 x26.1
    have hX := hX.tr x26 (fun b j hb h => by first | omega | (dsimp only at h ⊢; omega) | (dsimp only at h; omega) | (dsimp only; omega))
    have m26 := x26.1
    have htk := htk.xf hHo k_rd et_ex.rf x26 (fun a j hs => .inr (.inl (by have e := hs.1; rw [e]; exact k_G_2)))
    obtain ⟨rfl, e26⟩ := hP26
    show et_go none _ 75 29 _ [.ref G.2] _ _ _ _
    refine hs_astore (i := 4) (p := 31) (by decide +kernel) (Nat.le_of_ble_eq_true rfl) ?_
    refine hs_nul (p := 32) (by decide +kernel) ?_
    refine hs_astore0 (i := 5) (p := 34) (by decide +kernel) (Nat.le_of_ble_eq_true rfl) ?_
    refine hs_k (x := Int32.ofNat 0) (p := 35) (by decide +kernel) ?_
    refine hs_istore (i := 6) (p := 37) (by decide +kernel) (Nat.le_of_ble_eq_true rfl) ?_
    refine hs_iload (i := 6) (p := 39) (by decide +kernel) rfl ?_
    refine hs_k (x := Int32.ofNat 400) (p := 42) (by decide +kernel) ?_
    refine hs_br2n (c := .ge) (t := 137) (f := 45) (by decide +kernel) (by omega) (by omega) (fun h => absurd h (show ¬ (400 ≤ 0) by decide)) (fun _ => ?_)
    refine hs_iload (i := 3) (p := 46) (by decide +kernel) rfl ?_
    refine hs_if0 (c := .eq) (t := 58) (f := 49) (by decide +kernel) (show ¬ (Int32.ofNat 1 = 0) by decide) ?_
    refine hs_aload (i := 0) (p := 50) (by decide +kernel) rfl ?_
    refine hs_k (x := Int32.ofNat 1) (p := 51) (by decide +kernel) ?_
    refine hs_iload (i := 2) (p := 52) (by decide +kernel) rfl ?_
    have hHo := hH
    refine ht_callv (T := et_TT) (t := 7) (mi := 75) (na := 2) (ci := 5) (lk := 8) (lm := 8) (L0 := eg_en (eg_mL 75) [.ref rd, .int (Int32.ofNat 1), .int (Int32.ofNat dep)]) (by decide +kernel) rfl hH k_rd rfl rfl rfl rfl rfl (by rw [show eg_mL 75 = 8 from by decide +kernel]; first | done | rfl) ?_
    refine (((pp_g1 (pp_ag m).1) _ _ _ _ _ _ hH k_rd r8 (by omega) (by omega) (by omega)).and (hsub _ _ _ _ _ _ _ hH k_rd htk htl r8 (by omega) r2 (by omega) (by omega))).mono (fun u hu => fz_cb (t := 1) (by decide) hu (fun K52 G52 v52 c52 s52 hxx52 hH x52 hc52 hs52 hm52 => ?_))
    have x52 := rx_in x52
    have n1_21 := (x52.2 G.2 1 lt_G_2 (fun h => Or.elim h (fun h => (hi_ne k_G_2 k_rd (by decide)) h.1) (fun h => (hi_ne k_G_2 k_rd (by decide)) h.1))).trans n1_21
    have n2_21 := (x52.2 G.2 2 lt_G_2 (fun h => Or.elim h (fun h => (hi_ne k_G_2 k_rd (by decide)) h.1) (fun h => (hi_ne k_G_2 k_rd (by decide)) h.1))).trans n2_21
    have n3_21 := (x52.2 G.2 3 lt_G_2 (fun h => Or.elim h (fun h => (hi_ne k_G_2 k_rd (by decide)) h.1) (fun h => (hi_ne k_G_2 k_rd (by decide)) h.1))).trans n3_21
    have n4_21 := (x52.2 G.2 4 lt_G_2 (fun h => Or.elim h (fun h => (hi_ne k_G_2 k_rd (by decide)) h.1) (fun h => (hi_ne k_G_2 k_rd (by decide)) h.1))).trans n4_21
    have n5_21 := (x52.2 G.2 5 lt_G_2 (fun h => Or.elim h (fun h => (hi_ne k_G_2 k_rd (by decide)) h.1) (fun h => (hi_ne k_G_2 k_rd (by decide)) h.1))).trans n5_21
    have e26 := (x52.2 G.2 0 lt_G_2 (fun h => Or.elim h (fun h => (hi_ne k_G_2 k_rd (by decide)) h.1) (fun h => (hi_ne k_G_2 k_rd (by decide)) h.1))).trans e26
    have lt_rd := Nat.lt_of_lt_of_le lt_rd x52.1
    have lt_G_2 := Nat.lt_of_lt_of_le lt_G_2 x52.1
    have hX := hX.tr x52 (fun b j hb h => by first | omega | (dsimp only at h ⊢; omega) | (dsimp only at h; omega) | (dsimp only; omega))
    have m52 := x52.1
    have htk := htk.xf hHo k_rd hxx52 x52 (fun a j hs => .inl (by first | omega | (dsimp only at hs; omega)))
    have k_rd := hxx52 _ _ k_rd
    have k_G_2 := hxx52 _ _ k_G_2
    have hx0 := hx0.tr hxx52
    rcases sp52 : spx_all (sp_A m) (L.drop x) with _ | ⟨f52, r52⟩
    · rw [sp52] at hm52
      obtain ⟨rfl, q52, hq52, r2⟩ := hm52
      show et_go none _ 75 55 _ [.null] _ _ _ _
      refine hs_goto (p := 63) (by decide +kernel) ?_
      refine hs_astore0 (i := 7) (p := 65) (by decide +kernel) (Nat.le_of_ble_eq_true rfl) ?_
      refine hs_aload0 (i := 7) (p := 67) (by decide +kernel) rfl ?_
      refine hs_ifnonnull0 (p := 70) (by decide +kernel) ?_
      refine hs_nul (p := 71) (by decide +kernel) ?_
      refine hs_aretN (cn := "KnobEye$Node") (by decide +kernel) ?_
      refine ⟨_, _, _, _, _, rfl, hx0, hH, rx_out hX, ?_⟩
      rw [show spx_any (sp_A m) (L.drop x) = none from sp_many_0 sp52]
      exact ⟨rfl, _, (by omega), r2⟩
    · rw [sp52] at hm52
      obtain ⟨y52, b52, rfl, hy52, hz52, r8, r2, rfl, k_b52, R52⟩ := hm52
      have lt_b52 := (hH.2.2 _ _ k_b52).1
      obtain ⟨R52, nb52⟩ := R52
      have Rb52 := R52.in
      show et_go none _ 75 55 _ [.ref b52] _ _ _ _
      refine hs_goto (p := 63) (by decide +kernel) ?_
      refine hs_astore (i := 7) (p := 65) (by decide +kernel) (Nat.le_of_ble_eq_true rfl) ?_
      refine hs_aload (i := 7) (p := 67) (by decide +kernel) rfl ?_
      refine hs_ifnonnull1 (p := 72) (by decide +kernel) ?_
      refine hs_aload0 (i := 5) (p := 74) (by decide +kernel) rfl ?_
      refine hs_ifnonnull0 (p := 77) (by decide +kernel) ?_
      refine hs_aload (i := 4) (p := 79) (by decide +kernel) rfl ?_
      refine hs_aload (i := 7) (p := 81) (by decide +kernel) rfl ?_
      have hHo := hH
      refine hf_put (T := et_TT) (t := 6) (ci := 4) (f := 2) (p := 84) (ty := (.object "KnobEye$Node")) (by decide +kernel) rfl rfl rfl rfl rfl hH k_G_2 (.inr ⟨by decide, _, rfl, k_b52⟩) (fun G81 hH x81 e81 => ?_)
      have n1_21 := (x81.2 G.2 1 lt_G_2 (fun h => absurd h.2 (by decide))).trans n1_21
      have n3_21 := (x81.2 G.2 3 lt_G_2 (fun h => absurd h.2 (by decide))).trans n3_21
      have n4_21 := (x81.2 G.2 4 lt_G_2 (fun h => absurd h.2 (by decide))).trans n4_21
      have n5_21 := (x81.2 G.2 5 lt_G_2 (fun h => absurd h.2 (by decide))).trans n5_21
      have e26 := (x81.2 G.2 0 lt_G_2 (fun h => absurd h.2 (by decide))).trans e26
      have nb52 := (x81.2 b52 1 lt_b52 (fun h => (show ¬ b52 = G.2 by omega) h.1)).trans nb52
      have r2 := (x81.2 rd 2 lt_rd (fun h => (hi_ne k_rd k_G_2 (by decide)) h.1)).trans r2
      have r8 := (x81.2 rd 8 lt_rd (fun h => (hi_ne k_rd k_G_2 (by decide)) h.1)).trans r8
      have lt_rd := Nat.lt_of_lt_of_le lt_rd x81.1
      have lt_G_2 := Nat.lt_of_lt_of_le lt_G_2 x81.1
      have lt_b52 := Nat.lt_of_lt_of_le lt_b52 x81.1
      have hX := hX.tr x81 (fun b j hb h => by first | omega | (dsimp only at h ⊢; omega) | (dsimp only at h; omega) | (dsimp only; omega))
      have m81 := x81.1
      have htk := htk.xf hHo k_rd et_ex.rf x81 (fun a j hs => .inr (.inl (by have e := hs.1; rw [e]; exact k_G_2)))
      have R52 := R52.fr (x81.agf (lo := G26.2) (hi := G52.2) (by omega) (fun a j h1 h2 hs => by first | omega | (dsimp only at hs; omega))).ag
      refine hs_goto (p := 94) (by decide +kernel) ?_
      refine hs_aload (i := 7) (p := 96) (by decide +kernel) rfl ?_
      refine hs_astore (i := 5) (p := 98) (by decide +kernel) (Nat.le_of_ble_eq_true rfl) ?_
      have hI := gI.one (g := G.2) nb52 (by omega) (Nat.le_refl _) R52
      refine hs_aload (i := 0) (p := 99) (by decide +kernel) rfl ?_
      refine hs_iload (i := 3) (p := 100) (by decide +kernel) rfl ?_
      refine hs_if0 (c := .eq) (t := 109) (f := 103) (by decide +kernel) (show ¬ (Int32.ofNat 1 = 0) by decide) ?_
      refine hs_gst (v := Value.ref 21) (p := 106) (by decide +kernel) ?_
      refine hs_goto (p := 112) (by decide +kernel) ?_
      refine ht_callv (T := et_TT) (t := 7) (mi := 78) (na := 1) (ci := 5) (lk := 8) (lm := 2) (L0 := eg_en (eg_mL 78) [.ref rd, .ref 21]) (by decide +kernel) rfl hH k_rd rfl rfl rfl rfl rfl (by rw [show eg_mL 78 = 2 from by decide +kernel]; first | done | rfl) ?_
      refine (fc_is hH k_rd htk htl r8 (by omega) (wd := 21) (by decide)).mono (fun u hu => xp_cb hu ?_)
      by_cases i112 : wat L y52 = 21
      · rw [if_pos i112]
        have il112 : y52 < L.length := wat_i (by rw [i112]; decide)
        show et_go none _ 75 115 _ [.int (Int32.ofNat 1)] _ _ _ _
        refine hs_if1 (c := .ne) (t := 121) (f := 118) (by decide +kernel) (show ¬ Int32.ofNat 1 = 0 by decide) ?_
        refine hs_aload (i := 0) (p := 122) (by decide +kernel) rfl ?_
        refine hs_dup1 (p := 123) (by decide +kernel) ?_
        refine hf_get (T := et_TT) (t := 7) (ci := 5) (f := 8) (p := 126) (by decide +kernel) rfl hH k_rd r8 ?_
        refine hs_k (x := Int32.ofNat 1) (p := 127) (by decide +kernel) ?_
        refine hs_iaddn (p := 128) (by decide +kernel) ?_
        have hHo := hH
        refine hf_put (T := et_TT) (t := 7) (ci := 5) (f := 8) (p := 131) (ty := .int) (by decide +kernel) rfl rfl rfl rfl rfl hH k_rd (hi_nv (by omega) (by omega)) (fun G128 hH x128 e128 => ?_)
        have n1_21 := (x128.2 G.2 1 lt_G_2 (fun h => (hi_ne k_G_2 k_rd (by decide)) h.1)).trans n1_21
        have e81 := (x128.2 G.2 2 lt_G_2 (fun h => (hi_ne k_G_2 k_rd (by decide)) h.1)).trans e81
        have n3_21 := (x128.2 G.2 3 lt_G_2 (fun h => (hi_ne k_G_2 k_rd (by decide)) h.1)).trans n3_21
        have n4_21 := (x128.2 G.2 4 lt_G_2 (fun h => (hi_ne k_G_2 k_rd (by decide)) h.1)).trans n4_21
        have n5_21 := (x128.2 G.2 5 lt_G_2 (fun h => (hi_ne k_G_2 k_rd (by decide)) h.1)).trans n5_21
        have e26 := (x128.2 G.2 0 lt_G_2 (fun h => (hi_ne k_G_2 k_rd (by decide)) h.1)).trans e26
        have nb52 := (x128.2 b52 1 lt_b52 (fun h => (hi_ne k_b52 k_rd (by decide)) h.1)).trans nb52
        have r2 := (x128.2 rd 2 lt_rd (fun h => absurd h.2 (by decide))).trans r2
        have lt_rd := Nat.lt_of_lt_of_le lt_rd x128.1
        have lt_G_2 := Nat.lt_of_lt_of_le lt_G_2 x128.1
        have lt_b52 := Nat.lt_of_lt_of_le lt_b52 x128.1
        have hX := hX.tr x128 (fun b j hb h => by first | omega | (dsimp only at h ⊢; omega) | (dsimp only at h; omega) | (dsimp only; omega))
        have m128 := x128.1
        have htk := htk.xf hHo k_rd et_ex.rf x128 (fun a j hs => .inl (by first | omega | (dsimp only at hs; omega)))
        have hI := hI.fr (x128.agf (lo := (G.2 + 1)) (hi := G52.2) (by omega) (fun a j h1 h2 hs => by first | omega | (dsimp only at hs; omega)))
        have e128 : et_pl (eg_at G128 rd) 8 = some (.int (Int32.ofNat (y52 + 1))) := e128
        refine hs_iinc1 (i := 6) (p := 134) (by decide +kernel) rfl (Nat.le_of_ble_eq_true rfl) ?_
        refine hs_goto (p := 37) (by decide +kernel) ?_
        rw [show spx_any (sp_A m) (L.drop x) = sp_lp (spx_all (sp_A m)) 21 (fun f g e => f e || g e) 499 (gF 0 [f52]) (L.drop (y52 + 1)) from (sp_many_y sp52 i112 (by decide)).trans (by rw [gF_one])]
        show et_go none _ 75 37 [some (.ref rd), some (.int (Int32.ofNat 0)), some (.int (Int32.ofNat dep)), some (.int (Int32.ofNat 1)), some (.ref G.2), some (.ref b52), some (.int (Int32.ofNat (0 + 1))), some (.ref b52)] [] _ _ _ _
        exact fn_g0 (m := m) (K0 := K) (G0 := G) (i := 0 + 1) hsub hH hx0 hX k_rd htk htl e128 (by omega) r2 lr0 (by omega) k_G_2 e26 n1_21 e81 k_b52 hI (by omega) (by omega) nb52 (by omega) (by omega) (by omega) (by omega) hdm (by omega)
      · rw [if_neg i112]
        show et_go none _ 75 115 _ [.int (Int32.ofNat 0)] _ _ _ _
        refine hs_if0 (c := .ne) (t := 121) (f := 118) (by decide +kernel) (show ¬ (¬ Int32.ofNat 0 = 0) by decide) ?_
        refine hs_goto (p := 137) (by decide +kernel) ?_
        refine hs_aload (i := 4) (p := 139) (by decide +kernel) rfl ?_
        refine hf_get (T := et_TT) (t := 6) (ci := 4) (f := 2) (p := 142) (by decide +kernel) rfl hH k_G_2 e81 ?_
        refine hs_aload (i := 5) (p := 144) (by decide +kernel) rfl ?_
        refine hf_acm (c := .ne) (tt := 152) (ff := 147) (by decide +kernel) (hi_ca hH k_b52 (.inr (by decide))) (hi_ca hH k_b52 (.inr (by decide))) (fun (q144 : ¬ Value.ref b52 = .ref b52) => ?_) (fun (q144 : ¬ ¬ Value.ref b52 = .ref b52) => ?_)
        · exact absurd rfl q144
        · refine hs_aload (i := 5) (p := 149) (by decide +kernel) rfl ?_
          refine hs_goto (p := 154) (by decide +kernel) ?_
          refine hs_aret (cn := "KnobEye$Node") (by decide +kernel) ?_
          obtain ⟨al1, al2, ah1, ah2, ad⟩ := hI.alone (k := 0)
          refine ⟨_, _, _, _, _, rfl, hx0, hH, rx_out hX, ?_⟩
          rw [show spx_any (sp_A m) (L.drop x) = some (gF 0 [f52], L.drop y52) from (sp_many_n sp52 i112).trans (by rw [gF_one])]
          exact ⟨y52, _, rfl, (by omega), (by omega), r8, r2, rfl, k_b52, ⟨(ad.wk (by omega) (by omega)).up (by omega), nb52⟩⟩
  · exact absurd (show dep ≤ 6 by omega) c3
theorem fc_failw {q : Nat} (hH : et_H et_TT K G) (k_rd : K rd = some 7) (hq : q ≤ 400) (r2 : et_pl (eg_at G rd) 2 = some (.int (Int32.ofNat q))) : et_go none d2 76 0 (eg_en (eg_mL 76) [.ref rd]) [] G 0 0 (xw_Z (fun b j => (b = rd ∧ j = 2)) K G (fun G' v => v = some .null ∧ ∃ q, q ≤ 400 ∧ et_pl (eg_at G' rd) 2 = some (.int (Int32.ofNat q)))) := by
  rw [show eg_mL 76 = 1 from by decide +kernel]
  show et_go none d2 76 0 [some (.ref rd)] [] G 0 0 _
  refine hs_aload (i := 0) (p := 1) (by decide +kernel) rfl ?_
  refine hf_get (T := et_TT) (t := 7) (ci := 5) (f := 2) (p := 4) (by decide +kernel) rfl hH k_rd r2 ?_
  refine hs_k (x := (-1)) (p := 5) (by decide +kernel) ?_
  refine hs_br2 (c := .ne) (t := 32) (f := 8) (by decide +kernel) (fun _ => ?_) (fun hz => absurd (show ¬ ((Int32.ofNat q : Int32) = (-1)) from xi_nm1 (by omega)) hz)
  refine hs_nul (p := 33) (by decide +kernel) ?_
  refine hs_aretN (cn := "KnobEye$Node") (by decide +kernel) ?_
  exact ⟨_, _, rfl, hH, xf.rf, rfl, _, hq, r2⟩
theorem fx_a (ih : ∀ m1, m = m1 + 1 → fA m1 ∧ fG 0 2 m1 (sp_C m1)) : fA m := by
  intro K G d2 rd x dep L hH k_rd htk htl r8 hx r2 hdm hd
  obtain ⟨d, rfl⟩ : ∃ d, d2 = d + 4 := ⟨d2 - 4, by omega⟩
  obtain ⟨AA, CC, hAC⟩ := sp_A_at m
  rw [show eg_mL 77 = 4 from by decide +kernel]
  show et_go none (d + 4) 77 0 [some (.ref rd), some (.int (Int32.ofNat dep)), none, none] [] G 0 0 _
  have lt_rd := (hH.2.2 _ _ k_rd).1
  have hX : xf (fun b j => (b = rd ∧ (2 ≤ j ∧ j ≤ 3)) ∨ (b = rd ∧ j = 8)) G G := xf.rf
  have hx0 : et_ex K K := et_ex.rf
  have hl4 : L.length ≤ 400 := by obtain ⟨_, _, _, _, _, h, _⟩ := htk; exact h
  have lr0 := (hH.2.2 _ _ k_rd).1
  refine hs_aload (i := 0) (p := 1) (by decide +kernel) rfl ?_
  refine hs_gst (v := Value.ref 22) (p := 4) (by decide +kernel) ?_
  refine ht_callv (T := et_TT) (t := 7) (mi := 78) (na := 1) (ci := 5) (lk := 4) (lm := 2) (L0 := eg_en (eg_mL 78) [.ref rd, .ref 22]) (by decide +kernel) rfl hH k_rd rfl rfl rfl rfl rfl (by rw [show eg_mL 78 = 2 from by decide +kernel]; first | done | rfl) ?_
  refine (fc_is hH k_rd htk htl r8 (by omega) (wd := 22) (by decide)).mono (fun u hu => xp_cb hu ?_)
  by_cases i4 : wat L x = 22
  · rw [if_pos i4]
    have il4 : x < L.length := wat_i (by rw [i4]; decide)
    show et_go none _ 77 7 _ [.int (Int32.ofNat 1)] _ _ _ _
    refine hs_istore (i := 2) (p := 8) (by decide +kernel) (Nat.le_of_ble_eq_true rfl) ?_
    refine hs_iload (i := 2) (p := 9) (by decide +kernel) rfl ?_
    refine hs_if1 (c := .ne) (t := 42) (f := 12) (by decide +kernel) (show ¬ Int32.ofNat 1 = 0 by decide) ?_
    refine hs_iload (i := 1) (p := 43) (by decide +kernel) rfl ?_
    refine hs_k (x := Int32.ofNat 6) (p := 45) (by decide +kernel) ?_
    refine hs_br2n (c := .lt) (t := 53) (f := 48) (by decide +kernel) (by omega) (by omega) (fun (c45 : dep < 6) => ?_) (fun (c45 : ¬ (dep < 6)) => ?_)
    · obtain ⟨m1, rfl⟩ : ∃ m1, m = m1 + 1 := ⟨m - 1, by omega⟩
      obtain ⟨hA, hG⟩ := ih m1 rfl
      refine hs_aload (i := 0) (p := 54) (by decide +kernel) rfl ?_
      refine hs_dup1 (p := 55) (by decide +kernel) ?_
      refine hf_get (T := et_TT) (t := 7) (ci := 5) (f := 8) (p := 58) (by decide +kernel) rfl hH k_rd r8 ?_
      refine hs_k (x := Int32.ofNat 1) (p := 59) (by decide +kernel) ?_
      refine hs_iaddn (p := 60) (by decide +kernel) ?_
      have hHo := hH
      refine hf_put (T := et_TT) (t := 7) (ci := 5) (f := 8) (p := 63) (ty := .int) (by decide +kernel) rfl rfl rfl rfl rfl hH k_rd (hi_nv (by omega) (by omega)) (fun G60 hH x60 e60 => ?_)
      have r2 := (x60.2 rd 2 lt_rd (fun h => absurd h.2 (by decide))).trans r2
      have lt_rd := Nat.lt_of_lt_of_le lt_rd x60.1
      have hX := hX.tr x60 (fun b j hb h => by first | omega | (dsimp only at h ⊢; omega) | (dsimp only at h; omega) | (dsimp only; omega))
      have m60 := x60.1
      have htk := htk.xf hHo k_rd et_ex.rf x60 (fun a j hs => .inl (by first | omega | (dsimp only at hs; omega)))
      have e60 : et_pl (eg_at G60 rd) 8 = some (.int (Int32.ofNat (x + 1))) := e60
      refine hs_iload (i := 2) (p := 64) (by decide +kernel) rfl ?_
      refine hs_if1 (c := .ne) (t := 107) (f := 67) (by decide +kernel) (show ¬ Int32.ofNat 1 = 0 by decide) ?_
      have hHo := hH
      refine hf_newN (p := 110) (by decide +kernel) (by omega) (by omega) hH (fun KK107 GG107 hxx107 x107 hH k_G60_2 mm107 hf107 => ?_)
      have e60 := (x107.2 rd 8 lt_rd (fun h => h)).trans e60
      have r2 := (x107.2 rd 2 lt_rd (fun h => h)).trans r2
      have lt_rd := Nat.lt_of_lt_of_le lt_rd x107.1
      have hX := hX.tr x107 (fun b j hb h => h.elim)
      have m107 := x107.1
      have htk := htk.xf hHo k_rd hxx107 x107 (fun a j hs => absurd hs id)
      have k_rd := hxx107 _ _ k_rd
      have hx0 := hx0.tr hxx107
      have lt_G60_2 : G60.2 < GG107.2 := by omega
      obtain ⟨n1_107, n2_107, n3_107, n4_107, n5_107⟩ := hf107
      refine hs_dup1 (p := 111) (by decide +kernel) ?_
      refine hs_k (x := Int32.ofNat 2) (p := 112) (by decide +kernel) ?_
      have hHo := hH
      refine hs_callp (mi := 61) (na := 1) (lk := 4) (lm := 2) (L0 := eg_en (eg_mL 61) [.ref G60.2, .int (Int32.ofNat 2)]) (by decide +kernel) rfl rfl rfl rfl rfl (by rw [show eg_mL 61 = 2 from by decide +kernel]; first | done | rfl) ?_
      refine (fc_nod hH k_G60_2).mono (fun u hu => xw_cb hu (fun G112 v112 hH x112 hP112 => ?_))
      have e60 := (x112.2 rd 8 lt_rd (fun h => (hi_ne k_rd k_G60_2 (by decide)) h.1)).trans e60
      have r2 := (x112.2 rd 2 lt_rd (fun h => (hi_ne k_rd k_G60_2 (by decide)) h.1)).trans r2
      have n1_107 := (x112.2 G60.2 1 lt_G60_2 (fun h => absurd h.2 (by decide))).trans n1_107
      have n2_107 := (x112.2 G60.2 2 lt_G60_2 (fun h => absurd h.2 (by decide))).trans n2_107
      have n3_107 := (x112.2 G60.2 3 lt_G60_2 (fun h => absurd h.2 (by decide))).trans n3_107
      have n4_107 := (x112.2 G60.2 4 lt_G60_2 (fun h => absurd h.2 (by decide))).trans n4_107
      have n5_107 := (x112.2 G60.2 5 lt_G60_2 (fun h => absurd h.2 (by decide))).trans n5_107
      have lt_rd := Nat.lt_of_lt_of_le lt_rd x112.1
      have lt_G60_2 := Nat.lt_of_lt_of_le lt_G60_2 x112.1
      have hX := hX.tr x112 (fun b j hb h => by first | omega | (dsimp only at h ⊢; omega) | (dsimp only at h; omega) | (dsimp only; omega))
      have m112 := x112.1
      have htk := htk.xf hHo k_rd et_ex.rf x112 (fun a j hs => .inr (.inl (by have e := hs.1; rw [e]; exact k_G60_2)))
      obtain ⟨rfl, e112⟩ := hP112
      show et_go none _ 77 115 _ [.ref G60.2] _ _ _ _
      refine hs_astore (i := 3) (p := 116) (by decide +kernel) (Nat.le_of_ble_eq_true rfl) ?_
      refine hs_aload (i := 3) (p := 117) (by decide +kernel) rfl ?_
      refine hs_aload (i := 0) (p := 118) (by decide +kernel) rfl ?_
      refine hs_iload (i := 1) (p := 119) (by decide +kernel) rfl ?_
      refine hs_k (x := Int32.ofNat 1) (p := 120) (by decide +kernel) ?_
      refine hs_iaddn (p := 121) (by decide +kernel) ?_
      have hHo := hH
      refine ht_callv (T := et_TT) (t := 7) (mi := 77) (na := 1) (ci := 5) (lk := 4) (lm := 4) (L0 := eg_en (eg_mL 77) [.ref rd, .int (Int32.ofNat (dep + 1))]) (by decide +kernel) rfl hH k_rd rfl rfl rfl rfl rfl (by rw [show eg_mL 77 = 4 from by decide +kernel]; first | done | rfl) ?_
      refine (((pp_ag m1).1 _ _ _ _ _ _ hH k_rd e60 (by omega) (by omega) (by omega)).and (hA _ _ _ _ _ _ _ hH k_rd htk htl e60 (by omega) r2 (by omega) (by omega))).mono (fun u hu => fz_cb (t := 0) (by decide) hu (fun K121 G121 v121 c121 s121 hxx121 hH x121 hc121 hs121 hm121 => ?_))
      have x121 := rx_in x121
      have n1_107 := (x121.2 G60.2 1 lt_G60_2 (fun h => Or.elim h (fun h => (hi_ne k_G60_2 k_rd (by decide)) h.1) (fun h => (hi_ne k_G60_2 k_rd (by decide)) h.1))).trans n1_107
      have n2_107 := (x121.2 G60.2 2 lt_G60_2 (fun h => Or.elim h (fun h => (hi_ne k_G60_2 k_rd (by decide)) h.1) (fun h => (hi_ne k_G60_2 k_rd (by decide)) h.1))).trans n2_107
      have n3_107 := (x121.2 G60.2 3 lt_G60_2 (fun h => Or.elim h (fun h => (hi_ne k_G60_2 k_rd (by decide)) h.1) (fun h => (hi_ne k_G60_2 k_rd (by decide)) h.1))).trans n3_107
      have n4_107 := (x121.2 G60.2 4 lt_G60_2 (fun h => Or.elim h (fun h => (hi_ne k_G60_2 k_rd (by decide)) h.1) (fun h => (hi_ne k_G60_2 k_rd (by decide)) h.1))).trans n4_107
      have n5_107 := (x121.2 G60.2 5 lt_G60_2 (fun h => Or.elim h (fun h => (hi_ne k_G60_2 k_rd (by decide)) h.1) (fun h => (hi_ne k_G60_2 k_rd (by decide)) h.1))).trans n5_107
      have e112 := (x121.2 G60.2 0 lt_G60_2 (fun h => Or.elim h (fun h => (hi_ne k_G60_2 k_rd (by decide)) h.1) (fun h => (hi_ne k_G60_2 k_rd (by decide)) h.1))).trans e112
      have lt_rd := Nat.lt_of_lt_of_le lt_rd x121.1
      have lt_G60_2 := Nat.lt_of_lt_of_le lt_G60_2 x121.1
      have hX := hX.tr x121 (fun b j hb h => by first | omega | (dsimp only at h ⊢; omega) | (dsimp only at h; omega) | (dsimp only; omega))
      have m121 := x121.1
      have htk := htk.xf hHo k_rd hxx121 x121 (fun a j hs => .inl (by first | omega | (dsimp only at hs; omega)))
      have k_rd := hxx121 _ _ k_rd
      have k_G60_2 := hxx121 _ _ k_G60_2
      have hx0 := hx0.tr hxx121
      rcases sp121 : sp_A m1 (L.drop (x + 1)) with _ | ⟨f121, r121⟩
      · rw [sp121] at hm121
        obtain ⟨rfl, q121, hq121, r2⟩ := hm121
        show et_go none _ 77 124 _ [.null, .ref G60.2] _ _ _ _
        have hHo := hH
        refine hf_put (T := et_TT) (t := 6) (ci := 4) (f := 2) (p := 127) (ty := (.object "KnobEye$Node")) (by decide +kernel) rfl rfl rfl rfl rfl hH k_G60_2 (.inl ⟨by decide, rfl⟩) (fun G124 hH x124 e124 => ?_)
        have n1_107 := (x124.2 G60.2 1 lt_G60_2 (fun h => absurd h.2 (by decide))).trans n1_107
        have n3_107 := (x124.2 G60.2 3 lt_G60_2 (fun h => absurd h.2 (by decide))).trans n3_107
        have n4_107 := (x124.2 G60.2 4 lt_G60_2 (fun h => absurd h.2 (by decide))).trans n4_107
        have n5_107 := (x124.2 G60.2 5 lt_G60_2 (fun h => absurd h.2 (by decide))).trans n5_107
        have e112 := (x124.2 G60.2 0 lt_G60_2 (fun h => absurd h.2 (by decide))).trans e112
        have r2 := (x124.2 rd 2 lt_rd (fun h => (hi_ne k_rd k_G60_2 (by decide)) h.1)).trans r2
        have lt_rd := Nat.lt_of_lt_of_le lt_rd x124.1
        have lt_G60_2 := Nat.lt_of_lt_of_le lt_G60_2 x124.1
        have hX := hX.tr x124 (fun b j hb h => by first | omega | (dsimp only at h ⊢; omega) | (dsimp only at h; omega) | (dsimp only; omega))
        have m124 := x124.1
        have htk := htk.xf hHo k_rd et_ex.rf x124 (fun a j hs => .inr (.inl (by have e := hs.1; rw [e]; exact k_G60_2)))
        refine hs_aload (i := 3) (p := 128) (by decide +kernel) rfl ?_
        refine hf_get (T := et_TT) (t := 6) (ci := 4) (f := 2) (p := 131) (by decide +kernel) rfl hH k_G60_2 e124 ?_
        refine hs_ifnonnull0 (p := 134) (by decide +kernel) ?_
        refine hs_nul (p := 135) (by decide +kernel) ?_
        refine hs_goto (p := 139) (by decide +kernel) ?_
        refine hs_aretN (cn := "KnobEye$Node") (by decide +kernel) ?_
        refine ⟨_, _, _, _, _, rfl, hx0, hH, rx_out hX, ?_⟩
        rw [show sp_A (m1 + 1) (L.drop x) = none from (congrFun hAC.1 _).trans (sp_at_nn i4 ((congrFun (hAC.2 m1 rfl).1 _).trans sp121))]
        exact ⟨rfl, _, (by omega), r2⟩
      · rw [sp121] at hm121
        obtain ⟨y121, b121, rfl, hy121, hz121, r8, r2, rfl, k_b121, R121⟩ := hm121
        have lt_b121 := (hH.2.2 _ _ k_b121).1
        obtain ⟨R121, nb121⟩ := R121
        have Rb121 := R121.in
        show et_go none _ 77 124 _ [.ref b121, .ref G60.2] _ _ _ _
        have hHo := hH
        refine hf_put (T := et_TT) (t := 6) (ci := 4) (f := 2) (p := 127) (ty := (.object "KnobEye$Node")) (by decide +kernel) rfl rfl rfl rfl rfl hH k_G60_2 (.inr ⟨by decide, _, rfl, k_b121⟩) (fun G124 hH x124 e124 => ?_)
        have n1_107 := (x124.2 G60.2 1 lt_G60_2 (fun h => absurd h.2 (by decide))).trans n1_107
        have n3_107 := (x124.2 G60.2 3 lt_G60_2 (fun h => absurd h.2 (by decide))).trans n3_107
        have n4_107 := (x124.2 G60.2 4 lt_G60_2 (fun h => absurd h.2 (by decide))).trans n4_107
        have n5_107 := (x124.2 G60.2 5 lt_G60_2 (fun h => absurd h.2 (by decide))).trans n5_107
        have e112 := (x124.2 G60.2 0 lt_G60_2 (fun h => absurd h.2 (by decide))).trans e112
        have nb121 := (x124.2 b121 1 lt_b121 (fun h => (show ¬ b121 = G60.2 by omega) h.1)).trans nb121
        have r2 := (x124.2 rd 2 lt_rd (fun h => (hi_ne k_rd k_G60_2 (by decide)) h.1)).trans r2
        have r8 := (x124.2 rd 8 lt_rd (fun h => (hi_ne k_rd k_G60_2 (by decide)) h.1)).trans r8
        have lt_rd := Nat.lt_of_lt_of_le lt_rd x124.1
        have lt_G60_2 := Nat.lt_of_lt_of_le lt_G60_2 x124.1
        have lt_b121 := Nat.lt_of_lt_of_le lt_b121 x124.1
        have hX := hX.tr x124 (fun b j hb h => by first | omega | (dsimp only at h ⊢; omega) | (dsimp only at h; omega) | (dsimp only; omega))
        have m124 := x124.1
        have htk := htk.xf hHo k_rd et_ex.rf x124 (fun a j hs => .inr (.inl (by have e := hs.1; rw [e]; exact k_G60_2)))
        have R121 := R121.fr (x124.agf (lo := G112.2) (hi := G121.2) (by omega) (fun a j h1 h2 hs => by first | omega | (dsimp only at hs; omega))).ag
        refine hs_aload (i := 3) (p := 128) (by decide +kernel) rfl ?_
        refine hf_get (T := et_TT) (t := 6) (ci := 4) (f := 2) (p := 131) (by decide +kernel) rfl hH k_G60_2 e124 ?_
        refine hs_ifnonnull1 (p := 138) (by decide +kernel) ?_
        refine hs_aload (i := 3) (p := 139) (by decide +kernel) rfl ?_
        refine hs_aret (cn := "KnobEye$Node") (by decide +kernel) ?_
        refine ⟨_, _, _, _, _, rfl, hx0, hH, rx_out hX, ?_⟩
        rw [show sp_A (m1 + 1) (L.drop x) = some (_, L.drop y121) from (congrFun hAC.1 _).trans (sp_at_ny i4 ((congrFun (hAC.2 m1 rfl).1 _).trans sp121))]
        exact ⟨y121, _, rfl, (by omega), (by omega), r8, r2, rfl, k_G60_2, ⟨(dn_not R121 (by omega) (by omega) e112 e124 nb121).up (by omega), n1_107⟩⟩
    · refine hs_aload (i := 0) (p := 49) (by decide +kernel) rfl ?_
      have hHo := hH
      refine ht_callv (T := et_TT) (t := 7) (mi := 76) (na := 0) (ci := 5) (lk := 4) (lm := 1) (L0 := eg_en (eg_mL 76) [.ref rd]) (by decide +kernel) rfl hH k_rd rfl rfl rfl rfl rfl (by rw [show eg_mL 76 = 1 from by decide +kernel]; first | done | rfl) ?_
      refine (fc_fail hH k_rd htk htl r8 (by omega) r2).mono (fun u hu => xw_cb hu (fun G49 v49 hH x49 hP49 => ?_))
      have r8 := (x49.2 rd 8 lt_rd (fun h => absurd h.2 (by decide))).trans r8
      have lt_rd := Nat.lt_of_lt_of_le lt_rd x49.1
      have hX := hX.tr x49 (fun b j hb h => by first | omega | (dsimp only at h ⊢; omega) | (dsimp only at h; omega) | (dsimp only; omega))
      have m49 := x49.1
      have htk := htk.xf hHo k_rd et_ex.rf x49 (fun a j hs => .inl (by first | omega | (dsimp only at hs; omega)))
      obtain ⟨rfl, q49, hq49, e49⟩ := hP49
      show et_go none _ 77 52 _ [.null] _ _ _ _
      refine hs_aretN (cn := "KnobEye$Node") (by decide +kernel) ?_
      refine ⟨_, _, _, _, _, rfl, hx0, hH, rx_out hX, ?_⟩
      rw [show sp_A m (L.drop x) = none from (congrFun hAC.1 _).trans (by rw [show m = 0 from by omega]; exact sp_at_0 (.inl i4))]
      exact ⟨rfl, _, (by omega), e49⟩
  · rw [if_neg i4]
    show et_go none _ 77 7 _ [.int (Int32.ofNat 0)] _ _ _ _
    refine hs_istore (i := 2) (p := 8) (by decide +kernel) (Nat.le_of_ble_eq_true rfl) ?_
    refine hs_iload (i := 2) (p := 9) (by decide +kernel) rfl ?_
    refine hs_if0 (c := .ne) (t := 42) (f := 12) (by decide +kernel) (show ¬ (¬ Int32.ofNat 0 = 0) by decide) ?_
    refine hs_aload (i := 0) (p := 13) (by decide +kernel) rfl ?_
    refine hs_gst (v := Value.ref 23) (p := 16) (by decide +kernel) ?_
    refine ht_callv (T := et_TT) (t := 7) (mi := 78) (na := 1) (ci := 5) (lk := 4) (lm := 2) (L0 := eg_en (eg_mL 78) [.ref rd, .ref 23]) (by decide +kernel) rfl hH k_rd rfl rfl rfl rfl rfl (by rw [show eg_mL 78 = 2 from by decide +kernel]; first | done | rfl) ?_
    refine (fc_is hH k_rd htk htl r8 (by omega) (wd := 23) (by decide)).mono (fun u hu => xp_cb hu ?_)
    by_cases i16 : wat L x = 23
    · rw [if_pos i16]
      have il16 : x < L.length := wat_i (by rw [i16]; decide)
      show et_go none _ 77 19 _ [.int (Int32.ofNat 1)] _ _ _ _
      refine hs_if1 (c := .ne) (t := 42) (f := 22) (by decide +kernel) (show ¬ Int32.ofNat 1 = 0 by decide) ?_
      refine hs_iload (i := 1) (p := 43) (by decide +kernel) rfl ?_
      refine hs_k (x := Int32.ofNat 6) (p := 45) (by decide +kernel) ?_
      refine hs_br2n (c := .lt) (t := 53) (f := 48) (by decide +kernel) (by omega) (by omega) (fun (c45 : dep < 6) => ?_) (fun (c45 : ¬ (dep < 6)) => ?_)
      · obtain ⟨m1, rfl⟩ : ∃ m1, m = m1 + 1 := ⟨m - 1, by omega⟩
        obtain ⟨hA, hG⟩ := ih m1 rfl
        refine hs_aload (i := 0) (p := 54) (by decide +kernel) rfl ?_
        refine hs_dup1 (p := 55) (by decide +kernel) ?_
        refine hf_get (T := et_TT) (t := 7) (ci := 5) (f := 8) (p := 58) (by decide +kernel) rfl hH k_rd r8 ?_
        refine hs_k (x := Int32.ofNat 1) (p := 59) (by decide +kernel) ?_
        refine hs_iaddn (p := 60) (by decide +kernel) ?_
        have hHo := hH
        refine hf_put (T := et_TT) (t := 7) (ci := 5) (f := 8) (p := 63) (ty := .int) (by decide +kernel) rfl rfl rfl rfl rfl hH k_rd (hi_nv (by omega) (by omega)) (fun G60 hH x60 e60 => ?_)
        have r2 := (x60.2 rd 2 lt_rd (fun h => absurd h.2 (by decide))).trans r2
        have lt_rd := Nat.lt_of_lt_of_le lt_rd x60.1
        have hX := hX.tr x60 (fun b j hb h => by first | omega | (dsimp only at h ⊢; omega) | (dsimp only at h; omega) | (dsimp only; omega))
        have m60 := x60.1
        have htk := htk.xf hHo k_rd et_ex.rf x60 (fun a j hs => .inl (by first | omega | (dsimp only at hs; omega)))
        have e60 : et_pl (eg_at G60 rd) 8 = some (.int (Int32.ofNat (x + 1))) := e60
        refine hs_iload (i := 2) (p := 64) (by decide +kernel) rfl ?_
        refine hs_if0 (c := .ne) (t := 107) (f := 67) (by decide +kernel) (show ¬ (¬ Int32.ofNat 0 = 0) by decide) ?_
        refine hs_aload (i := 0) (p := 68) (by decide +kernel) rfl ?_
        refine hs_k (x := Int32.ofNat 0) (p := 69) (by decide +kernel) ?_
        refine hs_iload (i := 1) (p := 70) (by decide +kernel) rfl ?_
        refine hs_k (x := Int32.ofNat 1) (p := 71) (by decide +kernel) ?_
        refine hs_iaddn (p := 72) (by decide +kernel) ?_
        have hHo := hH
        refine ht_callv (T := et_TT) (t := 7) (mi := 75) (na := 2) (ci := 5) (lk := 4) (lm := 8) (L0 := eg_en (eg_mL 75) [.ref rd, .int (Int32.ofNat 0), .int (Int32.ofNat (dep + 1))]) (by decide +kernel) rfl hH k_rd rfl rfl rfl rfl rfl (by rw [show eg_mL 75 = 8 from by decide +kernel]; first | done | rfl) ?_
        refine (((pp_ag m1).2 _ _ _ _ _ _ hH k_rd e60 (by omega) (by omega) (by omega)).and (hG _ _ _ _ _ _ _ hH k_rd htk htl e60 (by omega) r2 (by omega) (by omega))).mono (fun u hu => fz_cb (t := 2) (by decide) hu (fun K72 G72 v72 c72 s72 hxx72 hH x72 hc72 hs72 hm72 => ?_))
        have x72 := rx_in x72
        have lt_rd := Nat.lt_of_lt_of_le lt_rd x72.1
        have hX := hX.tr x72 (fun b j hb h => by first | omega | (dsimp only at h ⊢; omega) | (dsimp only at h; omega) | (dsimp only; omega))
        have m72 := x72.1
        have htk := htk.xf hHo k_rd hxx72 x72 (fun a j hs => .inl (by first | omega | (dsimp only at hs; omega)))
        have k_rd := hxx72 _ _ k_rd
        have hx0 := hx0.tr hxx72
        rcases sp72 : sp_C m1 (L.drop (x + 1)) with _ | ⟨f72, r72⟩
        · rw [sp72] at hm72
          obtain ⟨rfl, q72, hq72, r2⟩ := hm72
          show et_go none _ 77 75 _ [.null] _ _ _ _
          refine hs_astore0 (i := 3) (p := 76) (by decide +kernel) (Nat.le_of_ble_eq_true rfl) ?_
          refine hs_aload0 (i := 3) (p := 77) (by decide +kernel) rfl ?_
          refine hs_ifnull0 (p := 90) (by decide +kernel) ?_
          refine hs_aload (i := 0) (p := 91) (by decide +kernel) rfl ?_
          have hHo := hH
          refine ht_callv (T := et_TT) (t := 7) (mi := 76) (na := 0) (ci := 5) (lk := 4) (lm := 1) (L0 := eg_en (eg_mL 76) [.ref rd]) (by decide +kernel) rfl hH k_rd rfl rfl rfl rfl rfl (by rw [show eg_mL 76 = 1 from by decide +kernel]; first | done | rfl) ?_
          refine (fc_failw hH k_rd (by omega) r2).mono (fun u hu => xw_cb hu (fun G91 v91 hH x91 hP91 => ?_))
          have lt_rd := Nat.lt_of_lt_of_le lt_rd x91.1
          have hX := hX.tr x91 (fun b j hb h => by first | omega | (dsimp only at h ⊢; omega) | (dsimp only at h; omega) | (dsimp only; omega))
          have m91 := x91.1
          have htk := htk.xf hHo k_rd et_ex.rf x91 (fun a j hs => .inl (by first | omega | (dsimp only at hs; omega)))
          obtain ⟨rfl, q91, hq91, e91⟩ := hP91
          show et_go none _ 77 94 _ [.null] _ _ _ _
          refine hs_aretN (cn := "KnobEye$Node") (by decide +kernel) ?_
          refine ⟨_, _, _, _, _, rfl, hx0, hH, rx_out hX, ?_⟩
          rw [show sp_A (m1 + 1) (L.drop x) = none from (congrFun hAC.1 _).trans (sp_at_on i16 ((congrFun (hAC.2 m1 rfl).2 _).trans sp72))]
          exact ⟨rfl, _, (by omega), e91⟩
        · rw [sp72] at hm72
          obtain ⟨y72, b72, rfl, hy72, hz72, r8, r2, rfl, k_b72, R72⟩ := hm72
          have lt_b72 := (hH.2.2 _ _ k_b72).1
          obtain ⟨R72, nb72⟩ := R72
          have Rb72 := R72.in
          show et_go none _ 77 75 _ [.ref b72] _ _ _ _
          refine hs_astore (i := 3) (p := 76) (by decide +kernel) (Nat.le_of_ble_eq_true rfl) ?_
          refine hs_aload (i := 3) (p := 77) (by decide +kernel) rfl ?_
          refine hs_ifnull1 (p := 80) (by decide +kernel) ?_
          refine hs_aload (i := 0) (p := 81) (by decide +kernel) rfl ?_
          refine hs_gst (v := Value.ref 24) (p := 84) (by decide +kernel) ?_
          refine ht_callv (T := et_TT) (t := 7) (mi := 78) (na := 1) (ci := 5) (lk := 4) (lm := 2) (L0 := eg_en (eg_mL 78) [.ref rd, .ref 24]) (by decide +kernel) rfl hH k_rd rfl rfl rfl rfl rfl (by rw [show eg_mL 78 = 2 from by decide +kernel]; first | done | rfl) ?_
          refine (fc_is hH k_rd htk htl r8 (by omega) (wd := 24) (by decide)).mono (fun u hu => xp_cb hu ?_)
          by_cases i84 : wat L y72 = 24
          · rw [if_pos i84]
            have il84 : y72 < L.length := wat_i (by rw [i84]; decide)
            show et_go none _ 77 87 _ [.int (Int32.ofNat 1)] _ _ _ _
            refine hs_if1 (c := .ne) (t := 95) (f := 90) (by decide +kernel) (show ¬ Int32.ofNat 1 = 0 by decide) ?_
            refine hs_aload (i := 0) (p := 96) (by decide +kernel) rfl ?_
            refine hs_dup1 (p := 97) (by decide +kernel) ?_
            refine hf_get (T := et_TT) (t := 7) (ci := 5) (f := 8) (p := 100) (by decide +kernel) rfl hH k_rd r8 ?_
            refine hs_k (x := Int32.ofNat 1) (p := 101) (by decide +kernel) ?_
            refine hs_iaddn (p := 102) (by decide +kernel) ?_
            have hHo := hH
            refine hf_put (T := et_TT) (t := 7) (ci := 5) (f := 8) (p := 105) (ty := .int) (by decide +kernel) rfl rfl rfl rfl rfl hH k_rd (hi_nv (by omega) (by omega)) (fun G102 hH x102 e102 => ?_)
            have nb72 := (x102.2 b72 1 lt_b72 (fun h => (hi_ne k_b72 k_rd (by decide)) h.1)).trans nb72
            have r2 := (x102.2 rd 2 lt_rd (fun h => absurd h.2 (by decide))).trans r2
            have lt_rd := Nat.lt_of_lt_of_le lt_rd x102.1
            have lt_b72 := Nat.lt_of_lt_of_le lt_b72 x102.1
            have hX := hX.tr x102 (fun b j hb h => by first | omega | (dsimp only at h ⊢; omega) | (dsimp only at h; omega) | (dsimp only; omega))
            have m102 := x102.1
            have htk := htk.xf hHo k_rd et_ex.rf x102 (fun a j hs => .inl (by first | omega | (dsimp only at hs; omega)))
            have R72 := R72.fr (x102.agf (lo := G60.2) (hi := G72.2) (by omega) (fun a j h1 h2 hs => by first | omega | (dsimp only at hs; omega))).ag
            have e102 : et_pl (eg_at G102 rd) 8 = some (.int (Int32.ofNat (y72 + 1))) := e102
            refine hs_aload (i := 3) (p := 106) (by decide +kernel) rfl ?_
            refine hs_aret (cn := "KnobEye$Node") (by decide +kernel) ?_
            refine ⟨_, _, _, _, _, rfl, hx0, hH, rx_out hX, ?_⟩
            rw [show sp_A (m1 + 1) (L.drop x) = some (_, L.drop (y72 + 1)) from (congrFun hAC.1 _).trans (sp_at_oy i16 ((congrFun (hAC.2 m1 rfl).2 _).trans sp72) i84)]
            exact ⟨y72 + 1, _, rfl, (by omega), (by omega), e102, r2, rfl, k_b72, ⟨(R72.wk (by omega) (by omega)).up (by omega), nb72⟩⟩
          · rw [if_neg i84]
            show et_go none _ 77 87 _ [.int (Int32.ofNat 0)] _ _ _ _
            refine hs_if0 (c := .ne) (t := 95) (f := 90) (by decide +kernel) (show ¬ (¬ Int32.ofNat 0 = 0) by decide) ?_
            refine hs_aload (i := 0) (p := 91) (by decide +kernel) rfl ?_
            have hHo := hH
            refine ht_callv (T := et_TT) (t := 7) (mi := 76) (na := 0) (ci := 5) (lk := 4) (lm := 1) (L0 := eg_en (eg_mL 76) [.ref rd]) (by decide +kernel) rfl hH k_rd rfl rfl rfl rfl rfl (by rw [show eg_mL 76 = 1 from by decide +kernel]; first | done | rfl) ?_
            refine (fc_fail hH k_rd htk htl r8 (by omega) r2).mono (fun u hu => xw_cb hu (fun G91 v91 hH x91 hP91 => ?_))
            have nb72 := (x91.2 b72 1 lt_b72 (fun h => (hi_ne k_b72 k_rd (by decide)) h.1)).trans nb72
            have r8 := (x91.2 rd 8 lt_rd (fun h => absurd h.2 (by decide))).trans r8
            have lt_rd := Nat.lt_of_lt_of_le lt_rd x91.1
            have lt_b72 := Nat.lt_of_lt_of_le lt_b72 x91.1
            have hX := hX.tr x91 (fun b j hb h => by first | omega | (dsimp only at h ⊢; omega) | (dsimp only at h; omega) | (dsimp only; omega))
            have m91 := x91.1
            have htk := htk.xf hHo k_rd et_ex.rf x91 (fun a j hs => .inl (by first | omega | (dsimp only at hs; omega)))
            have R72 := R72.fr (x91.agf (lo := G60.2) (hi := G72.2) (by omega) (fun a j h1 h2 hs => by first | omega | (dsimp only at hs; omega))).ag
            obtain ⟨rfl, q91, hq91, e91⟩ := hP91
            show et_go none _ 77 94 _ [.null] _ _ _ _
            refine hs_aretN (cn := "KnobEye$Node") (by decide +kernel) ?_
            refine ⟨_, _, _, _, _, rfl, hx0, hH, rx_out hX, ?_⟩
            rw [show sp_A (m1 + 1) (L.drop x) = none from (congrFun hAC.1 _).trans (sp_at_oc i16 ((congrFun (hAC.2 m1 rfl).2 _).trans sp72) i84)]
            exact ⟨rfl, _, (by omega), e91⟩
      · refine hs_aload (i := 0) (p := 49) (by decide +kernel) rfl ?_
        have hHo := hH
        refine ht_callv (T := et_TT) (t := 7) (mi := 76) (na := 0) (ci := 5) (lk := 4) (lm := 1) (L0 := eg_en (eg_mL 76) [.ref rd]) (by decide +kernel) rfl hH k_rd rfl rfl rfl rfl rfl (by rw [show eg_mL 76 = 1 from by decide +kernel]; first | done | rfl) ?_
        refine (fc_fail hH k_rd htk htl r8 (by omega) r2).mono (fun u hu => xw_cb hu (fun G49 v49 hH x49 hP49 => ?_))
        have r8 := (x49.2 rd 8 lt_rd (fun h => absurd h.2 (by decide))).trans r8
        have lt_rd := Nat.lt_of_lt_of_le lt_rd x49.1
        have hX := hX.tr x49 (fun b j hb h => by first | omega | (dsimp only at h ⊢; omega) | (dsimp only at h; omega) | (dsimp only; omega))
        have m49 := x49.1
        have htk := htk.xf hHo k_rd et_ex.rf x49 (fun a j hs => .inl (by first | omega | (dsimp only at hs; omega)))
        obtain ⟨rfl, q49, hq49, e49⟩ := hP49
        show et_go none _ 77 52 _ [.null] _ _ _ _
        refine hs_aretN (cn := "KnobEye$Node") (by decide +kernel) ?_
        refine ⟨_, _, _, _, _, rfl, hx0, hH, rx_out hX, ?_⟩
        rw [show sp_A m (L.drop x) = none from (congrFun hAC.1 _).trans (by rw [show m = 0 from by omega]; exact sp_at_0 (.inr i16))]
        exact ⟨rfl, _, (by omega), e49⟩
    · rw [if_neg i16]
      show et_go none _ 77 19 _ [.int (Int32.ofNat 0)] _ _ _ _
      refine hs_if0 (c := .ne) (t := 42) (f := 22) (by decide +kernel) (show ¬ (¬ Int32.ofNat 0 = 0) by decide) ?_
      refine hs_aload (i := 0) (p := 23) (by decide +kernel) rfl ?_
      refine hs_k (x := Int32.ofNat 1) (p := 24) (by decide +kernel) ?_
      refine ht_callv (T := et_TT) (t := 7) (mi := 79) (na := 1) (ci := 5) (lk := 4) (lm := 2) (L0 := eg_en (eg_mL 79) [.ref rd, .int (Int32.ofNat 1)]) (by decide +kernel) rfl hH k_rd rfl rfl rfl rfl rfl (by rw [show eg_mL 79 = 2 from by decide +kernel]; first | done | rfl) ?_
      refine (fc_wh1 hH k_rd htk htl r8 (by omega)).mono (fun u hu => xp_cb hu ?_)
      by_cases w24 : sp_tw (wat L x) = true
      · rw [if_pos w24]
        obtain ⟨wn24, hwn, -⟩ := wat_t (L := L) (x := x) rfl (fun h => by rw [h] at w24; exact absurd w24 (by decide))
        have il24 : x < L.length := wat_i (fun h => by rw [h] at w24; exact absurd w24 (by decide))
        show et_go none _ 77 27 _ [.ref (wat L x)] _ _ _ _
        refine hs_ifnonnull1 (p := 37) (by decide +kernel) ?_
        refine hs_aload (i := 0) (p := 38) (by decide +kernel) rfl ?_
        have hHo := hH
        refine ht_callv (T := et_TT) (t := 7) (mi := 82) (na := 0) (ci := 5) (lk := 4) (lm := 2) (L0 := eg_en (eg_mL 82) [.ref rd]) (by decide +kernel) rfl hH k_rd rfl rfl rfl rfl rfl (by rw [show eg_mL 82 = 2 from by decide +kernel]; first | done | rfl) ?_
        refine ((pp_tag hH k_rd r8 (by omega) (by omega) (by omega)).and (fx_tag hH k_rd htk htl r8 (by omega) r2 (wd := wat L x) hwn w24 (by omega))).mono (fun u hu => fz_cb (t := 0) (by decide) hu (fun K38 G38 v38 c38 s38 hxx38 hH x38 hc38 hs38 hm38 => ?_))
        have x38 := rx_in x38
        have lt_rd := Nat.lt_of_lt_of_le lt_rd x38.1
        have hX := hX.tr x38 (fun b j hb h => by first | omega | (dsimp only at h ⊢; omega) | (dsimp only at h; omega) | (dsimp only; omega))
        have m38 := x38.1
        have htk := htk.xf hHo k_rd hxx38 x38 (fun a j hs => .inl (by first | omega | (dsimp only at hs; omega)))
        have k_rd := hxx38 _ _ k_rd
        have hx0 := hx0.tr hxx38
        rcases sp38 : sp_tag (wat L x) (L.drop (x + 1)) with _ | ⟨f38, r38⟩
        · rw [sp38] at hm38
          obtain ⟨rfl, q38, hq38, r2⟩ := hm38
          show et_go none _ 77 41 _ [.null] _ _ _ _
          refine hs_aretN (cn := "KnobEye$Node") (by decide +kernel) ?_
          refine ⟨_, _, _, _, _, rfl, hx0, hH, rx_out hX, ?_⟩
          rw [show sp_A m (L.drop x) = none from (congrFun hAC.1 _).trans ((sp_at_t (n := none) i4 i16 w24).trans sp38)]
          exact ⟨rfl, _, (by omega), r2⟩
        · rw [sp38] at hm38
          obtain ⟨y38, b38, rfl, hy38, hz38, r8, r2, rfl, k_b38, R38⟩ := hm38
          have lt_b38 := (hH.2.2 _ _ k_b38).1
          obtain ⟨R38, nb38⟩ := R38
          have Rb38 := R38.in
          show et_go none _ 77 41 _ [.ref b38] _ _ _ _
          refine hs_aret (cn := "KnobEye$Node") (by decide +kernel) ?_
          refine ⟨_, _, _, _, _, rfl, hx0, hH, rx_out hX, ?_⟩
          rw [show sp_A m (L.drop x) = some (_, L.drop y38) from (congrFun hAC.1 _).trans ((sp_at_t (n := none) i4 i16 w24).trans sp38)]
          exact ⟨y38, _, rfl, (by omega), (by omega), r8, r2, rfl, k_b38, ⟨(R38.wk (by omega) (by omega)).up (by omega), nb38⟩⟩
      · rw [if_neg w24]
        show et_go none _ 77 27 _ [.null] _ _ _ _
        refine hs_ifnonnull0 (p := 30) (by decide +kernel) ?_
        refine hs_aload (i := 0) (p := 31) (by decide +kernel) rfl ?_
        have hHo := hH
        refine ht_callv (T := et_TT) (t := 7) (mi := 80) (na := 0) (ci := 5) (lk := 4) (lm := 4) (L0 := eg_en (eg_mL 80) [.ref rd]) (by decide +kernel) rfl hH k_rd rfl rfl rfl rfl rfl (by rw [show eg_mL 80 = 4 from by decide +kernel]; first | done | rfl) ?_
        refine ((pp_cmp hH k_rd r8 (by omega) (by omega)).and (fx_cmp hH k_rd htk htl r8 (by omega) r2 (by omega))).mono (fun u hu => fz_cb (t := 0) (by decide) hu (fun K31 G31 v31 c31 s31 hxx31 hH x31 hc31 hs31 hm31 => ?_))
        have x31 := rx_in x31
        have lt_rd := Nat.lt_of_lt_of_le lt_rd x31.1
        have hX := hX.tr x31 (fun b j hb h => by first | omega | (dsimp only at h ⊢; omega) | (dsimp only at h; omega) | (dsimp only; omega))
        have m31 := x31.1
        have htk := htk.xf hHo k_rd hxx31 x31 (fun a j hs => .inl (by first | omega | (dsimp only at hs; omega)))
        have k_rd := hxx31 _ _ k_rd
        have hx0 := hx0.tr hxx31
        rcases sp31 : sp_cmp (L.drop x) with _ | ⟨f31, r31⟩
        · rw [sp31] at hm31
          obtain ⟨rfl, q31, hq31, r2⟩ := hm31
          show et_go none _ 77 34 _ [.null] _ _ _ _
          refine hs_goto (p := 41) (by decide +kernel) ?_
          refine hs_aretN (cn := "KnobEye$Node") (by decide +kernel) ?_
          refine ⟨_, _, _, _, _, rfl, hx0, hH, rx_out hX, ?_⟩
          rw [show sp_A m (L.drop x) = none from (congrFun hAC.1 _).trans ((sp_at_c i4 i16 w24).trans sp31)]
          exact ⟨rfl, _, (by omega), r2⟩
        · rw [sp31] at hm31
          obtain ⟨y31, b31, rfl, hy31, hz31, r8, r2, rfl, k_b31, R31⟩ := hm31
          have lt_b31 := (hH.2.2 _ _ k_b31).1
          obtain ⟨R31, nb31⟩ := R31
          have Rb31 := R31.in
          show et_go none _ 77 34 _ [.ref b31] _ _ _ _
          refine hs_goto (p := 41) (by decide +kernel) ?_
          refine hs_aret (cn := "KnobEye$Node") (by decide +kernel) ?_
          refine ⟨_, _, _, _, _, rfl, hx0, hH, rx_out hX, ?_⟩
          rw [show sp_A m (L.drop x) = some (_, L.drop y31) from (congrFun hAC.1 _).trans ((sp_at_c i4 i16 w24).trans sp31)]
          exact ⟨y31, _, rfl, (by omega), (by omega), r8, r2, rfl, k_b31, ⟨(R31.wk (by omega) (by omega)).up (by omega), nb31⟩⟩
theorem fx_ag : ∀ m, fA m ∧ fG 0 2 m (sp_C m)
  | 0 => have h : fA 0 := fx_a (fun m1 h => by omega)
    ⟨h, fx_g0 (fx_g1 h)⟩
  | m + 1 => have h : fA (m + 1) := fx_a (fun m1 h => by
      obtain rfl : m = m1 := by omega
      exact fx_ag m)
    ⟨h, fx_g0 (fx_g1 h)⟩
end FQA
