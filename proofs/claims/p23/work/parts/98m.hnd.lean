/-! BY HAND: the CLAIMS' invariant: every CLAIM's EYE and RULE are there -/
def ci_p (t i : Nat) : Bool := t == 2 || (t == 37 || (t == 39 || ((t == 12 && Nat.ble i 1) || (t == 10 && (i == 0 || (i == 1 || (i == 5 || (i == 9 || i == 10))))))))
/-- writes that leave it alone -/
def ci_k (M : et_M) : Bool := M.all (fun q => !(q.1 == 2) && (!(q.1 == 37) && (!(q.1 == 39) && ((!(q.1 == 12) || Nat.ble 2 q.2.1) && (!(q.1 == 10) || (q.2.1 == q.2.2 && (q.2.1 == 2 || q.2.1 == 7)))))))
theorem ci_mm {M : et_M} {t i : Nat} (h : ci_k M = true) (hp : ci_p t i = true) : et_mm M t i = false := by
  cases e : et_mm M t i with
  | false => rfl
  | true =>
    exfalso
    obtain ⟨q, hq, h2⟩ := List.any_eq_true.mp e
    have h3 := List.all_eq_true.mp h q hq
    obtain ⟨q1, q2, q3⟩ := q
    simp only [Bool.and_eq_true, Bool.or_eq_true, Bool.not_eq_true', beq_iff_eq, beq_eq_false_iff_ne, decide_eq_true_eq, ci_p, Nat.ble_eq] at h2 h3 hp
    obtain ⟨rfl, h4, h5⟩ := h2
    omega
def ci_S (K : et_K) (G : eg_G) (s ra ca rc ec cc : Nat) : Prop := (K s = some 10 ∧ K ra = some 37 ∧ K ca = some 39) ∧ (et_pl (eg_at G s) 1 = some (.ref ra) ∧ et_pl (eg_at G s) 10 = some (.ref ca)) ∧ (et_pl (eg_at G s) 0 = some (.int (Int32.ofNat rc)) ∧ et_pl (eg_at G s) 5 = some (.int (Int32.ofNat ec)) ∧ et_pl (eg_at G s) 9 = some (.int (Int32.ofNat cc))) ∧ (rc ≤ 4 ∧ ec ≤ 3 ∧ cc ≤ 6) ∧ (∀ n, n < rc → ∃ b, et_pl (eg_at G ra) n = some (.ref b)) ∧ (∀ n, n < cc → ∃ cl e r, et_pl (eg_at G ca) n = some (.ref cl) ∧ K cl = some 2 ∧ et_pl (eg_at G cl) 1 = some (.int (Int32.ofNat e)) ∧ et_pl (eg_at G cl) 2 = some (.int (Int32.ofNat r)) ∧ e < ec ∧ r < rc)
def ci_O (K : et_K) (G : eg_G) (th s0 s1 ra0 ca0 rc0 ec0 cc0 ra1 ca1 rc1 ec1 cc1 : Nat) : Prop := K th = some 12 ∧ (et_pl (eg_at G th) 0 = some (.ref s0) ∧ et_pl (eg_at G th) 1 = some (.ref s1)) ∧ (¬ s0 = s1 ∧ ¬ ra0 = ra1 ∧ ¬ ca0 = ca1) ∧ ci_S K G s0 ra0 ca0 rc0 ec0 cc0 ∧ ci_S K G s1 ra1 ca1 rc1 ec1 cc1
section CIA
variable {K K' : et_K} {G G' : eg_G} {M : et_M} {th s s0 s1 ra ca rc ec cc ra0 ca0 rc0 ec0 cc0 ra1 ca1 rc1 ec1 cc1 : Nat}
theorem ci_S.fg (h : ci_S K G s ra ca rc ec cc) (hx : et_ex K K') (hf : ∀ a t i, K a = some t → (a = s ∧ t = 10) ∨ (a = ra ∧ t = 37) ∨ (a = ca ∧ t = 39) ∨ t = 2 → ci_p t i = true → et_pl (eg_at G' a) i = et_pl (eg_at G a) i) : ci_S K' G' s ra ca rc ec cc := by
  obtain ⟨⟨k1, k2, k3⟩, ⟨a1, a2⟩, ⟨b1, b2, b3⟩, hb, hr, hc⟩ := h
  have hs : ∀ i, ci_p 10 i = true → et_pl (eg_at G' s) i = et_pl (eg_at G s) i := fun i hi => hf s 10 i k1 (.inl ⟨rfl, rfl⟩) hi
  refine ⟨⟨hx _ _ k1, hx _ _ k2, hx _ _ k3⟩, ⟨(hs 1 rfl).trans a1, (hs 10 rfl).trans a2⟩, ⟨(hs 0 rfl).trans b1, (hs 5 rfl).trans b2, (hs 9 rfl).trans b3⟩, hb, fun n hn => ?_, fun n hn => ?_⟩
  · obtain ⟨b, e⟩ := hr n hn
    exact ⟨b, (hf ra 37 n k2 (.inr (.inl ⟨rfl, rfl⟩)) rfl).trans e⟩
  · obtain ⟨cl, e, r, e1, e2, e3, e4, e5⟩ := hc n hn
    exact ⟨cl, e, r, (hf ca 39 n k3 (.inr (.inr (.inl ⟨rfl, rfl⟩))) rfl).trans e1, hx _ _ e2, (hf cl 2 1 e2 (.inr (.inr (.inr rfl))) rfl).trans e3, (hf cl 2 2 e2 (.inr (.inr (.inr rfl))) rfl).trans e4, e5⟩
theorem ci_S.fr (h : ci_S K G s ra ca rc ec cc) (hx : et_ex K K') (hf : et_fr M K G G') (hM : ci_k M = true) : ci_S K' G' s ra ca rc ec cc := h.fg hx (fun a t i ha _ hp => hf.2 a t ha i (ci_mm hM hp))
theorem ci_O.fr (h : ci_O K G th s0 s1 ra0 ca0 rc0 ec0 cc0 ra1 ca1 rc1 ec1 cc1) (hx : et_ex K K') (hf : et_fr M K G G') (hM : ci_k M = true) : ci_O K' G' th s0 s1 ra0 ca0 rc0 ec0 cc0 ra1 ca1 rc1 ec1 cc1 := by
  obtain ⟨k, ⟨a1, a2⟩, hn, h1, h2⟩ := h
  exact ⟨hx _ _ k, ⟨(hf.2 th 12 k 0 (ci_mm hM rfl)).trans a1, (hf.2 th 12 k 1 (ci_mm hM rfl)).trans a2⟩, hn, h1.fr hx hf hM, h2.fr hx hf hM⟩
/-- one object of the other state, or of the now, was written -/
theorem ci_S.o (h : ci_S K G s ra ca rc ec cc) {a : Nat} (ht : ¬ s = a ∧ ¬ ra = a ∧ ¬ ca = a ∧ ¬ K a = some 2) (he : ∀ b, ¬ b = a → eg_at G' b = eg_at G b) : ci_S K G' s ra ca rc ec cc := h.fg et_ex.rf (fun b t i hb hc _ => by
  rw [he b (fun e => by
    subst e
    rcases hc with ⟨h1, -⟩ | ⟨h1, -⟩ | ⟨h1, -⟩ | h1
    · exact ht.1 h1.symm
    · exact ht.2.1 h1.symm
    · exact ht.2.2.1 h1.symm
    · exact ht.2.2.2 (h1 ▸ hb))])
theorem hb_m1 {t n : Nat} : et_mm [(t, n, n)] t n = true := by
  unfold et_mm
  simp
theorem hb_wk {t n : Nat} (h : et_fr [(t, n, n)] K G G') (hn : n ≤ 100000) : et_fr [(t, 0, 100000)] K G G' := ⟨h.1, fun a u ha i hi => h.2 a u ha i (by
  cases e : et_mm [(t, n, n)] u i with
  | false => rfl
  | true =>
    unfold et_mm at e hi
    simp at e hi
    omega)⟩
theorem hb_n1 {t n u i : Nat} (h : ¬ (t = u ∧ i = n)) : et_mm [(t, n, n)] u i = false := by
  unfold et_mm
  simp
  omega
theorem hi_dif {T : List et_D} {a b t u : Nat} (hb : K b = some u) (ha : K a = some t) (h : ¬ u = t) : ¬ b = a := fun e => h (by
  subst e
  rw [ha] at hb
  cases hb
  rfl)
/-- the steps that write it: a field -/
theorem ht_puta {T : List et_D} {d k pc ck sk a t ci f p : Nat} {L : eg_Ls} {r : List Value} {Z : eg_O → Prop} {ps : List et_P} {q : et_P} {ty : FieldType} {v : Value} (hc : hs_pi k pc = some (ci, f, ty, p)) (hT : T[t]? = some (.inl (ci, ps))) (hp : ps[f]? = some q) (ht : Nat.ble 2 t = true) (hf : eg_fit ty v = true) (hx : et_px (.inl (ci, ps)) f = false) (hH : et_H T K G) (ha : K a = some t) (hv : et_v K q v) (h : ∀ G', et_H T K G' → et_fr [(t, f, f)] K G G' → et_pl (eg_at G' a) f = some v → (∀ b, ¬ b = a → eg_at G' b = eg_at G b) → et_go none d k p L r G' ck sk Z) : et_go none d k pc L (v :: .ref a :: r) G ck sk Z := by
  have ht := Nat.le_of_ble_eq_true ht
  obtain ⟨g1, -, g3, dd, hd, hcc, hcx⟩ := hH.2.2 a t ha
  rw [hT] at hd
  cases hd
  obtain ⟨fs, e, el, ef⟩ := hcc
  have hlt : f < fs.length := by rw [el]; exact (List.getElem?_eq_some_iff.mp hp).1
  have hpl : ∀ i, ¬ i = f → et_pl (.inr (ci, fs.set f v)) i = et_pl (eg_at G a) i := fun i hi => by
    rw [e]
    show (fs.set f v)[i]? = fs[i]?
    rw [List.getElem?_set_ne (fun h => hi h.symm)]
  refine hs_put hc e ⟨g3 ht, g1⟩ hlt hf (h _ (et_H_u hH ha ht hT ⟨_, rfl, by rw [List.length_set]; exact el, fun j p2 hj => ?_⟩ (et_cx_u (K := K) hcx ⟨fs, e, el, ef⟩ (fun i hi => hpl i (fun h => by
    rw [h, hx] at hi
    cases hi)))) (hi_frM hH ha ht (fun i hi => hpl i (fun h => by
    rw [h, hb_m1] at hi
    cases hi))) ?_ (fun b hb => et_at_u hb))
  · by_cases e2 : f = j
    · subst e2
      rw [hp] at hj
      cases hj
      exact ⟨v, List.getElem?_set_self hlt, .inr hv⟩
    · rw [List.getElem?_set_ne e2]
      exact ef j p2 hj
  · rw [et_at_us (g3 ht)]
    exact List.getElem?_set_self hlt
/-- the steps that write it: a place of an array of references, null too -/
theorem ht_aasa {d k pc ck sk a n N t u kd cj m p : Nat} {v : Value} {L : eg_Ls} {r : List Value} {Z : eg_O → Prop} {ps : List et_P} (hc : hs_o k pc = some (.aastore, p)) (hT : et_TT[t]? = some (.inr (kd, N, [(0, m, .inr (.inr (1, u)))])) ∧ et_TT[u]? = some (.inl (cj, ps))) (hk : (5 ≤ kd ∧ kd < 11) ∧ eg_el kd = cj ∧ 2 ≤ t ∧ 0 < N ∧ N ≤ 400) (hH : et_H et_TT K G) (ha : K a = some t) (hn : n < N) (hv : et_v K (.inr (.inr (1, u))) v) (h : ∀ G', et_H et_TT K G' → et_fr [(t, n, n)] K G G' → et_pl (eg_at G' a) n = some v → (∀ b, ¬ b = a → eg_at G' b = eg_at G b) → et_go none d k p L r G' ck sk Z) : et_go none d k pc L (v :: .int (Int32.ofNat n) :: .ref a :: r) G ck sk Z := by
  obtain ⟨g1, -, g3, dd, hd, hcell, hcx⟩ := hH.2.2 a t ha
  rw [hT.1] at hd
  cases hd
  obtain ⟨⟨N', y⟩, e, ey, er, es⟩ := hcell
  have ey : N' = N := ey
  subst ey
  obtain ⟨v0, hv0⟩ := er 0 hk.2.2.2.1
  have hk5 : ¬ (kd = 0 ∨ kd = 1 ∨ kd = 3 ∨ kd = 4) := by omega
  obtain ⟨f, rfl⟩ : ∃ f, y = .inr (.inr (.inr (.inr f))) := by
    unfold eg_rd at hv0
    rcases y with g | g | g | g | f
    · dsimp only at hv0
      rw [if_neg hk5] at hv0
      cases hv0
    · dsimp only at hv0
      rw [if_neg (by omega)] at hv0
      cases hv0
    · cases hv0
    · cases hv0
    · exact ⟨f, rfl⟩
  have h3 := hs_nint (a := n) (by omega)
  obtain ⟨e0, rfl⟩ := hs_oc hc
  have hak : eg_ak .aastore kd = true := by
    show (decide (5 ≤ kd) && decide (kd < 11)) = true
    rw [decide_eq_true hk.1.1, decide_eq_true hk.1.2]
    rfl
  -- the word that is written, and that it may be
  obtain ⟨w, hw, hwr⟩ : ∃ w : Option Nat, va_rf w = v ∧ eg_wr G kd (N', .inr (.inr (.inr (.inr f)))) n v = some (N', .inr (.inr (.inr (.inr (va_up f n w))))) := by
    rcases hv with ⟨-, rfl⟩ | ⟨-, b, rfl, hb⟩
    · refine ⟨none, rfl, ?_⟩
      unfold eg_wr
      dsimp only
      rw [if_pos hk.1]
    · obtain ⟨q1, -, -, dd, hd, hcb, -⟩ := hH.2.2 b u hb
      rw [hT.2] at hd
      cases hd
      obtain ⟨fs, eb, -, -⟩ := hcb
      refine ⟨some b, rfl, ?_⟩
      unfold eg_wr
      dsimp only
      rw [if_pos ⟨q1, hk.1.1, hk.1.2, by rw [eb, hk.2.1]; exact beq_self_eq_true cj⟩]
  have hrd : ∀ i, eg_rd kd (N', .inr (.inr (.inr (.inr (va_up f n w))))) i = if i = n then some v else eg_rd kd (N', .inr (.inr (.inr (.inr f)))) i := fun i => by
    unfold eg_rd
    dsimp only
    rw [if_pos hk.1.1, if_pos hk.1.1]
    unfold va_up
    by_cases ei : i = n
    · rw [if_pos ei, if_pos ei, hw]
    · rw [if_neg ei, if_neg ei]
  refine hs_st e0 rfl (?_ : _ = some (pc + 1, L, r, eg_u G a (.inl (kd, (N', .inr (.inr (.inr (.inr (va_up f n w))))))), ck, sk)) (h _ (et_H_u hH ha hk.2.2.1 hT.1 ⟨_, rfl, rfl, fun i hi => ?_, fun s hs i i1 i2 i3 => ?_⟩ (fun e1 => absurd e1 (by omega))) (hi_frM hH ha hk.2.2.1 (fun i hi => ?_)) ?_ (fun b hb => et_at_u hb))
  · show eg_aw .aastore pc L (v :: .int (Int32.ofNat n) :: .ref a :: r) G ck sk = _
    unfold eg_aw
    dsimp only
    rw [e]
    dsimp only
    rw [if_pos ⟨g3 hk.2.2.1, g1, hak, by omega, by omega⟩, hs_nnat (by omega), hwr]
  · rw [hrd]
    by_cases ei : i = n
    · exact ⟨_, if_pos ei⟩
    · rw [if_neg ei]
      exact er i hi
  · rw [hrd]
    by_cases ei : i = n
    · obtain rfl := List.mem_singleton.mp hs
      exact ⟨_, if_pos ei, hv⟩
    · rw [if_neg ei]
      exact es s hs i i1 i2 i3
  · rw [e]
    have ei : i ≠ n := fun h => by
      rw [h, hb_m1] at hi
      cases hi
    show (if i < N' then eg_rd kd _ i else none) = (if i < N' then eg_rd kd _ i else none)
    rw [hrd, if_neg ei]
  · rw [et_at_us (g3 hk.2.2.1)]
    show (if n < N' then eg_rd kd _ n else none) = _
    rw [if_pos hn, hrd, if_pos rfl]
/-- what the special steps do to it -/
theorem ci_S.ecw (h : ci_S K G s ra ca rc ec cc) (hf : et_fr [(10, 5, 5)] K G G') {n : Nat} (h5 : et_pl (eg_at G' s) 5 = some (.int (Int32.ofNat n))) (h1 : ec ≤ n) (h2 : n ≤ 3) : ci_S K G' s ra ca rc n cc := by
  obtain ⟨⟨k1, k2, k3⟩, ⟨a1, a2⟩, ⟨b1, b2, b3⟩, ⟨c1, c2, c3⟩, hr, hc⟩ := h
  have hs : ∀ i, ¬ i = 5 → et_pl (eg_at G' s) i = et_pl (eg_at G s) i := fun i hi => hf.2 s 10 k1 i (hb_n1 (by omega))
  refine ⟨⟨k1, k2, k3⟩, ⟨(hs 1 (by decide)).trans a1, (hs 10 (by decide)).trans a2⟩, ⟨(hs 0 (by decide)).trans b1, h5, (hs 9 (by decide)).trans b3⟩, ⟨c1, h2, c3⟩, fun n hn => ?_, fun n hn => ?_⟩
  · obtain ⟨b, e⟩ := hr n hn
    exact ⟨b, (hf.2 ra 37 k2 n rfl).trans e⟩
  · obtain ⟨cl, e, r, e1, e2, e3, e4, e5, e6⟩ := hc n hn
    exact ⟨cl, e, r, (hf.2 ca 39 k3 n rfl).trans e1, e2, (hf.2 cl 2 e2 1 rfl).trans e3, (hf.2 cl 2 e2 2 rfl).trans e4, by omega, e6⟩
theorem ci_S.rw (h : ci_S K G s ra ca rc ec cc) {n : Nat} (hf : et_fr [(37, n, n)] K G G') {a b : Nat} (hn : et_pl (eg_at G' a) n = some (.ref b)) (he : ∀ b, ¬ b = a → eg_at G' b = eg_at G b) : ci_S K G' s ra ca rc ec cc := by
  obtain ⟨⟨k1, k2, k3⟩, ⟨a1, a2⟩, ⟨b1, b2, b3⟩, hb, hr, hc⟩ := h
  have hs : ∀ i, et_pl (eg_at G' s) i = et_pl (eg_at G s) i := fun i => hf.2 s 10 k1 i rfl
  refine ⟨⟨k1, k2, k3⟩, ⟨(hs 1).trans a1, (hs 10).trans a2⟩, ⟨(hs 0).trans b1, (hs 5).trans b2, (hs 9).trans b3⟩, hb, fun m hm => ?_, fun m hm => ?_⟩
  · obtain ⟨b, e⟩ := hr m hm
    by_cases e2 : m = n
    · subst e2
      by_cases e3 : ra = a
      · subst e3
        exact ⟨_, hn⟩
      · exact ⟨b, by rw [he ra e3]; exact e⟩
    · exact ⟨b, (hf.2 ra 37 k2 m (hb_n1 (by omega))).trans e⟩
  · obtain ⟨cl, e, r, e1, e2, e3, e4, e5, e6⟩ := hc m hm
    exact ⟨cl, e, r, (hf.2 ca 39 k3 m rfl).trans e1, e2, (hf.2 cl 2 e2 1 rfl).trans e3, (hf.2 cl 2 e2 2 rfl).trans e4, by omega, e6⟩
theorem ci_S.rcw (h : ci_S K G s ra ca rc ec cc) (hf : et_fr [(10, 0, 0)] K G G') {b : Nat} (h0 : et_pl (eg_at G' s) 0 = some (.int (Int32.ofNat (rc + 1)))) (h1 : et_pl (eg_at G ra) rc = some (.ref b)) (h2 : rc + 1 ≤ 4) : ci_S K G' s ra ca (rc + 1) ec cc := by
  obtain ⟨⟨k1, k2, k3⟩, ⟨a1, a2⟩, ⟨b1, b2, b3⟩, ⟨c1, c2, c3⟩, hr, hc⟩ := h
  have hs : ∀ i, ¬ i = 0 → et_pl (eg_at G' s) i = et_pl (eg_at G s) i := fun i hi => hf.2 s 10 k1 i (hb_n1 (by omega))
  refine ⟨⟨k1, k2, k3⟩, ⟨(hs 1 (by decide)).trans a1, (hs 10 (by decide)).trans a2⟩, ⟨h0, (hs 5 (by decide)).trans b2, (hs 9 (by decide)).trans b3⟩, ⟨h2, c2, c3⟩, fun n hn => ?_, fun n hn => ?_⟩
  · by_cases e2 : n = rc
    · subst e2
      exact ⟨b, (hf.2 ra 37 k2 n rfl).trans h1⟩
    · obtain ⟨b, e⟩ := hr n (by omega)
      exact ⟨b, (hf.2 ra 37 k2 n rfl).trans e⟩
  · obtain ⟨cl, e, r, e1, e2, e3, e4, e5, e6⟩ := hc n hn
    exact ⟨cl, e, r, (hf.2 ca 39 k3 n rfl).trans e1, e2, (hf.2 cl 2 e2 1 rfl).trans e3, (hf.2 cl 2 e2 2 rfl).trans e4, e5, by omega⟩
/-- a claim is put behind the others -/
theorem ci_S.cw (h : ci_S K G s ra ca rc ec cc) (hf : et_fr [(39, cc, cc)] K G G') : ci_S K G' s ra ca rc ec cc := by
  obtain ⟨⟨k1, k2, k3⟩, ⟨a1, a2⟩, ⟨b1, b2, b3⟩, hb, hr, hc⟩ := h
  have hs : ∀ i, et_pl (eg_at G' s) i = et_pl (eg_at G s) i := fun i => hf.2 s 10 k1 i rfl
  refine ⟨⟨k1, k2, k3⟩, ⟨(hs 1).trans a1, (hs 10).trans a2⟩, ⟨(hs 0).trans b1, (hs 5).trans b2, (hs 9).trans b3⟩, hb, fun m hm => ?_, fun m hm => ?_⟩
  · obtain ⟨b, e⟩ := hr m hm
    exact ⟨b, (hf.2 ra 37 k2 m rfl).trans e⟩
  · obtain ⟨cl, e, r, e1, e2, e3, e4, e5, e6⟩ := hc m hm
    exact ⟨cl, e, r, (hf.2 ca 39 k3 m (hb_n1 (by omega))).trans e1, e2, (hf.2 cl 2 e2 1 rfl).trans e3, (hf.2 cl 2 e2 2 rfl).trans e4, by omega, e6⟩
theorem ci_S.ccw (h : ci_S K G s ra ca rc ec cc) (hf : et_fr [(10, 9, 9)] K G G') {cl e r : Nat} (h0 : et_pl (eg_at G' s) 9 = some (.int (Int32.ofNat (cc + 1)))) (h1 : et_pl (eg_at G ca) cc = some (.ref cl)) (k : K cl = some 2) (h3 : et_pl (eg_at G cl) 1 = some (.int (Int32.ofNat e))) (h4 : et_pl (eg_at G cl) 2 = some (.int (Int32.ofNat r))) (h5 : e < ec) (h6 : r < rc) (h2 : cc + 1 ≤ 6) : ci_S K G' s ra ca rc ec (cc + 1) := by
  obtain ⟨⟨k1, k2, k3⟩, ⟨a1, a2⟩, ⟨b1, b2, b3⟩, ⟨c1, c2, c3⟩, hr, hc⟩ := h
  have hs : ∀ i, ¬ i = 9 → et_pl (eg_at G' s) i = et_pl (eg_at G s) i := fun i hi => hf.2 s 10 k1 i (hb_n1 (by omega))
  refine ⟨⟨k1, k2, k3⟩, ⟨(hs 1 (by decide)).trans a1, (hs 10 (by decide)).trans a2⟩, ⟨(hs 0 (by decide)).trans b1, (hs 5 (by decide)).trans b2, h0⟩, ⟨c1, c2, h2⟩, fun n hn => ?_, fun n hn => ?_⟩
  · obtain ⟨b, e⟩ := hr n hn
    exact ⟨b, (hf.2 ra 37 k2 n rfl).trans e⟩
  · by_cases e2 : n = cc
    · subst e2
      exact ⟨cl, e, r, (hf.2 ca 39 k3 n rfl).trans h1, k, (hf.2 cl 2 k 1 rfl).trans h3, (hf.2 cl 2 k 2 rfl).trans h4, h5, h6⟩
    · obtain ⟨cl, e, r, e1, e2, e3, e4, e5, e6⟩ := hc n (by omega)
      exact ⟨cl, e, r, (hf.2 ca 39 k3 n rfl).trans e1, e2, (hf.2 cl 2 e2 1 rfl).trans e3, (hf.2 cl 2 e2 2 rfl).trans e4, e5, e6⟩
end CIA
section CIB
variable {K K' : et_K} {G G' : eg_G} {M : et_M} {th s0 s1 ra0 ca0 rc0 ec0 cc0 ra1 ca1 rc1 ec1 cc1 a b n : Nat}
theorem ci_dif2 {a t : Nat} (ha : K a = some t) (h : ¬ t = 2) : ¬ K a = some 2 := fun e => h (by
  rw [ha] at e
  cases e
  rfl)
theorem ci_O.ey (h : ci_O K G th s0 s1 ra0 ca0 rc0 ec0 cc0 ra1 ca1 rc1 ec1 cc1) (hf : et_fr [(10, 5, 5)] K G G') (h5 : et_pl (eg_at G' s0) 5 = some (.int (Int32.ofNat (ec0 + 1)))) (he : ∀ b, ¬ b = s0 → eg_at G' b = eg_at G b) (hl : ec0 + 1 ≤ 3) : ci_O K G' th s0 s1 ra0 ca0 rc0 (ec0 + 1) cc0 ra1 ca1 rc1 ec1 cc1 := by
  obtain ⟨k, ⟨a1, a2⟩, ⟨n1, n2, n3⟩, h1, h2⟩ := h
  exact ⟨k, ⟨(hf.2 th 12 k 0 rfl).trans a1, (hf.2 th 12 k 1 rfl).trans a2⟩, ⟨n1, n2, n3⟩, h1.ecw hf h5 (by omega) hl, h2.o ⟨fun e => n1 e.symm, hi_dif (T := et_TT) h2.1.2.1 h1.1.1 (by decide), hi_dif (T := et_TT) h2.1.2.2 h1.1.1 (by decide), ci_dif2 h1.1.1 (by decide)⟩ he⟩
theorem ci_O.ru (h : ci_O K G th s0 s1 ra0 ca0 rc0 ec0 cc0 ra1 ca1 rc1 ec1 cc1) (hf : et_fr [(37, n, n)] K G G') (hn : et_pl (eg_at G' a) n = some (.ref b)) (he : ∀ b, ¬ b = a → eg_at G' b = eg_at G b) : ci_O K G' th s0 s1 ra0 ca0 rc0 ec0 cc0 ra1 ca1 rc1 ec1 cc1 := by
  obtain ⟨k, ⟨a1, a2⟩, hn', h1, h2⟩ := h
  exact ⟨k, ⟨(hf.2 th 12 k 0 rfl).trans a1, (hf.2 th 12 k 1 rfl).trans a2⟩, hn', h1.rw hf hn he, h2.rw hf hn he⟩
theorem ci_O.rd (h : ci_O K G th s0 s1 ra0 ca0 rc0 ec0 cc0 ra1 ca1 rc1 ec1 cc1) (hf : et_fr [(10, 0, 0)] K G G') (h0 : et_pl (eg_at G' s0) 0 = some (.int (Int32.ofNat (rc0 + 1)))) (hb : et_pl (eg_at G ra0) rc0 = some (.ref b)) (he : ∀ b, ¬ b = s0 → eg_at G' b = eg_at G b) (hl : rc0 + 1 ≤ 4) : ci_O K G' th s0 s1 ra0 ca0 (rc0 + 1) ec0 cc0 ra1 ca1 rc1 ec1 cc1 := by
  obtain ⟨k, ⟨a1, a2⟩, ⟨n1, n2, n3⟩, h1, h2⟩ := h
  exact ⟨k, ⟨(hf.2 th 12 k 0 rfl).trans a1, (hf.2 th 12 k 1 rfl).trans a2⟩, ⟨n1, n2, n3⟩, h1.rcw hf h0 hb hl, h2.o ⟨fun e => n1 e.symm, hi_dif (T := et_TT) h2.1.2.1 h1.1.1 (by decide), hi_dif (T := et_TT) h2.1.2.2 h1.1.1 (by decide), ci_dif2 h1.1.1 (by decide)⟩ he⟩
theorem ci_O.cl (h : ci_O K G th s0 s1 ra0 ca0 rc0 ec0 cc0 ra1 ca1 rc1 ec1 cc1) (hf : et_fr [(39, cc0, cc0)] K G G') (he : ∀ b, ¬ b = ca0 → eg_at G' b = eg_at G b) : ci_O K G' th s0 s1 ra0 ca0 rc0 ec0 cc0 ra1 ca1 rc1 ec1 cc1 := by
  obtain ⟨k, ⟨a1, a2⟩, ⟨n1, n2, n3⟩, h1, h2⟩ := h
  exact ⟨k, ⟨(hf.2 th 12 k 0 rfl).trans a1, (hf.2 th 12 k 1 rfl).trans a2⟩, ⟨n1, n2, n3⟩, h1.cw hf, h2.o ⟨hi_dif (T := et_TT) h2.1.1 h1.1.2.2 (by decide), hi_dif (T := et_TT) h2.1.2.1 h1.1.2.2 (by decide), fun e => n3 e.symm, ci_dif2 h1.1.2.2 (by decide)⟩ he⟩
theorem ci_O.cn (h : ci_O K G th s0 s1 ra0 ca0 rc0 ec0 cc0 ra1 ca1 rc1 ec1 cc1) (hf : et_fr [(10, 9, 9)] K G G') (h0 : et_pl (eg_at G' s0) 9 = some (.int (Int32.ofNat (cc0 + 1)))) {cl e r : Nat} (hb : et_pl (eg_at G ca0) cc0 = some (.ref cl)) (kc : K cl = some 2) (h3 : et_pl (eg_at G cl) 1 = some (.int (Int32.ofNat e))) (h4 : et_pl (eg_at G cl) 2 = some (.int (Int32.ofNat r))) (h5 : e < ec0) (h6 : r < rc0) (he : ∀ b, ¬ b = s0 → eg_at G' b = eg_at G b) (hl : cc0 + 1 ≤ 6) : ci_O K G' th s0 s1 ra0 ca0 rc0 ec0 (cc0 + 1) ra1 ca1 rc1 ec1 cc1 := by
  obtain ⟨k, ⟨a1, a2⟩, ⟨n1, n2, n3⟩, h1, h2⟩ := h
  exact ⟨k, ⟨(hf.2 th 12 k 0 rfl).trans a1, (hf.2 th 12 k 1 rfl).trans a2⟩, ⟨n1, n2, n3⟩, h1.ccw hf h0 hb kc h3 h4 h5 h6 hl, h2.o ⟨fun e => n1 e.symm, hi_dif (T := et_TT) h2.1.2.1 h1.1.1 (by decide), hi_dif (T := et_TT) h2.1.2.2 h1.1.1 (by decide), ci_dif2 h1.1.1 (by decide)⟩ he⟩
def ci (K : et_K) (G : eg_G) (th : Nat) : Prop := ∃ s0 s1 ra0 ca0 rc0 ec0 cc0 ra1 ca1 rc1 ec1 cc1, ci_O K G th s0 s1 ra0 ca0 rc0 ec0 cc0 ra1 ca1 rc1 ec1 cc1
theorem ci_O.i (h : ci_O K G th s0 s1 ra0 ca0 rc0 ec0 cc0 ra1 ca1 rc1 ec1 cc1) : ci K G th := ⟨s0, s1, ra0, ca0, rc0, ec0, cc0, ra1, ca1, rc1, ec1, cc1, h⟩
theorem ci.fr (h : ci K G th) (hx : et_ex K K') (hf : et_fr M K G G') (hM : ci_k M = true) : ci K' G' th := by
  obtain ⟨s0, s1, ra0, ca0, rc0, ec0, cc0, ra1, ca1, rc1, ec1, cc1, h⟩ := h
  exact (h.fr hx hf hM).i
/-- how a call ends that keeps it: an int, or one of these throws -/
def pr_Z (M : et_M) (K : et_K) (G : eg_G) (th : Nat) (xs : List Nat) (C S : Nat) (P : eg_G → Prop) (u : eg_O) : Prop := ∃ K' : et_K, et_ex K K' ∧ et_fr M K G u.2.1 ∧ et_H et_TT K' u.2.1 ∧ ci K' u.2.1 th ∧ P u.2.1 ∧ ((∃ n : Int32, u.1 = .inl (some (.int n))) ∨ ∃ x ∈ xs, u.1 = .inr x) ∧ u.2.2.1 ≤ C ∧ u.2.2.2 ≤ S
/-- a new claim: what is in it -/
def pu_Zc (K : et_K) (G : eg_G) (a : Nat) (x y : Int32) (u : eg_O) : Prop := ∃ K' : et_K, et_ex K K' ∧ et_fr [] K G u.2.1 ∧ et_H et_TT K' u.2.1 ∧ K' a = some 2 ∧ et_pl (eg_at u.2.1 a) 1 = some (.int x) ∧ et_pl (eg_at u.2.1 a) 2 = some (.int y) ∧ u.1 = .inl none ∧ u.2.2.1 = 0 ∧ u.2.2.2 = 0
theorem pu_cbc {d k pc ck sk : Nat} {L : eg_Ls} {r : List Value} {Z : eg_O → Prop} {x y : Int32} {u : eg_O} (hu : pu_Zc K G a x y u) (h : ∀ (K' : et_K) (G' : eg_G), et_ex K K' → et_fr [] K G G' → et_H et_TT K' G' → K' a = some 2 → et_pl (eg_at G' a) 1 = some (.int x) → et_pl (eg_at G' a) 2 = some (.int y) → et_go none d k (pc + 3) L r G' ck sk Z) : hs_cont d k pc L r ck sk Z u := by
  obtain ⟨K', h1, h2, h3, h4, h7, h8, e, h5, h6⟩ := hu
  obtain ⟨u1, u2, u3, u4⟩ := u
  have e : u1 = .inl none := e
  have h5 : u3 = 0 := h5
  have h6 : u4 = 0 := h6
  subst e h5 h6
  exact hs_cb (h K' u2 h1 h2 h3 h4 h7 h8)
/-- needEye, needRule: an answer, and why; or a throw -/
def pn_Z (K : et_K) (G : eg_G) (Q : Prop) (A : et_K → Value → Prop) (u : eg_O) : Prop := ∃ K' : et_K, et_ex K K' ∧ et_fr [] K G u.2.1 ∧ et_H et_TT K' u.2.1 ∧ ((∃ v, u.1 = .inl (some v) ∧ A K' v ∧ Q ∧ u.2.2.1 = 0 ∧ u.2.2.2 = 0) ∨ (u.1 = .inr 1 ∧ ¬ Q ∧ u.2.2.1 = 1 ∧ u.2.2.2 = 6))
theorem pn_cb {d k pc ck sk : Nat} {L : eg_Ls} {r : List Value} {Z : eg_O → Prop} {Q : Prop} {A : et_K → Value → Prop} {u : eg_O} (hm : eg_mh k = none) (hu : pn_Z K G Q A u) (h : ∀ (K' : et_K) (G' : eg_G) (v : Value), et_ex K K' → et_fr [] K G G' → et_H et_TT K' G' → A K' v → Q → et_go none d k (pc + 3) L (v :: r) G' ck sk Z) (hx : ∀ (K' : et_K) (G' : eg_G), et_ex K K' → et_fr [] K G G' → et_H et_TT K' G' → ¬ Q → Z (.inr 1, G', ck + 1, sk + 6)) : hs_cont d k pc L r ck sk Z u := by
  obtain ⟨K', h1, h2, h3, h4⟩ := hu
  obtain ⟨u1, u2, u3, u4⟩ := u
  rcases h4 with ⟨v, e, h5, h6, e3, e4⟩ | ⟨e, h5, e3, e4⟩
  · have e : u1 = .inl (some v) := e
    have e3 : u3 = 0 := e3
    have e4 : u4 = 0 := e4
    subst e e3 e4
    exact hs_cb (h K' u2 v h1 h2 h3 h5 h6)
  · have e : u1 = .inr 1 := e
    have e3 : u3 = 1 := e3
    have e4 : u4 = 6 := e4
    subst e e3 e4
    refine ⟨_, ⟨0, fun q _ => ?_⟩, hx K' u2 h1 h2 h3 h5⟩
    unfold eg_bk
    dsimp only
    rw [hm]
end CIB
section CIC
variable {K : et_K} {G : eg_G} {a : Nat}
theorem pu_claimF {co d2 n : Nat} {x y : Int32} (h : pu K G a 0 [.null, .int 0, .int 0, .int 0]) (hc : K co = some 6) (hn : n ≤ 1) : et_go none d2 30 0 (eg_en (eg_mL 30) [.ref a, .ref co, .int x, .int y, .int (Int32.ofNat n)]) [] G 0 0 (pu_Zc K G a x y) := by
  rw [show eg_mL 30 = 5 from by decide +kernel]
  show et_go none d2 30 0 [some (.ref a), some (.ref co), some (.int x), some (.int y), some (.int (Int32.ofNat n))] [] G 0 0 _
  refine hs_aload (i := 0) (p := 1) (by decide +kernel) rfl ?_
  refine hs_skip (lk := 5) (p := 4) (by decide +kernel) rfl rfl ?_
  refine hs_aload (i := 0) (p := 5) (by decide +kernel) rfl ?_
  refine hs_aload (i := 1) (p := 6) (by decide +kernel) rfl ?_
  refine hs_putj (ci := 0) (f := 0) (ty := .object "KnobEye$Node") (p := 9) (by decide +kernel) h.2.2.2.2 ⟨h.2.2.1, h.2.2.2.1⟩ (Nat.le_of_ble_eq_true rfl) rfl ?_
  obtain ⟨h1, f1⟩ := pu_put (f := 0) (v := .ref co) h
  refine hs_aload (i := 0) (p := 10) (by decide +kernel) rfl ?_
  refine hs_iload (i := 2) (p := 11) (by decide +kernel) rfl ?_
  refine hs_putj (ci := 0) (f := 1) (ty := .int) (p := 14) (by decide +kernel) h1.2.2.2.2 ⟨h1.2.2.1, h1.2.2.2.1⟩ (Nat.le_of_ble_eq_true rfl) rfl ?_
  obtain ⟨h2, f2⟩ := pu_put (f := 1) (v := .int x) h1
  refine hs_aload (i := 0) (p := 15) (by decide +kernel) rfl ?_
  refine hs_iload (i := 3) (p := 16) (by decide +kernel) rfl ?_
  refine hs_putj (ci := 0) (f := 2) (ty := .int) (p := 19) (by decide +kernel) h2.2.2.2.2 ⟨h2.2.2.1, h2.2.2.2.1⟩ (Nat.le_of_ble_eq_true rfl) rfl ?_
  obtain ⟨h3, f3⟩ := pu_put (f := 2) (v := .int y) h2
  refine hs_aload (i := 0) (p := 20) (by decide +kernel) rfl ?_
  refine hs_iload (i := 4) (p := 22) (by decide +kernel) rfl ?_
  refine hs_putj (ci := 0) (f := 3) (ty := .boolean) (p := 25) (by decide +kernel) h3.2.2.2.2 ⟨h3.2.2.1, h3.2.2.2.1⟩ (Nat.le_of_ble_eq_true rfl) (hi_fz hn) ?_
  obtain ⟨h4, f4⟩ := pu_put (f := 3) (v := .int (Int32.ofNat n)) h3
  obtain ⟨x5, hH5, k5⟩ := pu_typ (t := 2) h4 (by decide) rfl ⟨_, rfl, rfl, fun k p hk => by
    match k, hk with
    | 0, hk => cases hk; exact ⟨_, rfl, .inr (.inr ⟨by decide, _, rfl, hc⟩)⟩
    | 1, hk => cases hk; exact ⟨_, rfl, .inr hi_any⟩
    | 2, hk => cases hk; exact ⟨_, rfl, .inr hi_any⟩
    | 3, hk => cases hk; exact ⟨_, rfl, .inr (hi_nv (by omega) (by omega))⟩
    | n + 4, hk => cases hk⟩ ⟨by decide, by decide⟩
  refine hs_vret (by decide +kernel) ?_
  exact ⟨_, x5, ((f1.tr et_ex.rf f2).tr et_ex.rf f3).tr et_ex.rf f4, hH5, k5, by rw [h4.2.2.2.2]; rfl, by rw [h4.2.2.2.2]; rfl, rfl, rfl, rfl⟩
end CIC

theorem hi_rng {x : Int32} {n : Nat} (h1 : ¬ x < 0) (h2 : x < Int32.ofNat n) (hn : n ≤ 100) : ∃ e, e < n ∧ x = Int32.ofNat e := by
  have h3 : ¬ x.toInt < 0 := fun h => h1 (Int32.lt_iff_toInt_lt.mpr h)
  have h4 := Int32.lt_iff_toInt_lt.mp h2
  rw [hs_nint (by omega)] at h4
  exact ⟨x.toInt.toNat, by omega, hi_of (by omega) (by omega)⟩
theorem hi_nr1 {x : Int32} {n : Nat} (h : x < 0) (hn : n ≤ 100) : ¬ ∃ e, e < n ∧ x = Int32.ofNat e := fun ⟨e, h1, h2⟩ => by
  have h3 := Int32.lt_iff_toInt_lt.mp h
  rw [h2, hs_nint (by omega)] at h3
  have : (0 : Int32).toInt = 0 := rfl
  omega
theorem hi_nr2 {x : Int32} {n : Nat} (h : ¬ x < Int32.ofNat n) (hn : n ≤ 100) : ¬ ∃ e, e < n ∧ x = Int32.ofNat e := fun ⟨e, h1, h2⟩ => h (Int32.lt_iff_toInt_lt.mpr (by
  rw [h2, hs_nint (by omega), hs_nint (by omega)]
  omega))
theorem hi_nr3 {x : Int32} {n : Nat} (h : Int32.ofNat n ≤ x) (hn : n ≤ 100) : ¬ ∃ e, e < n ∧ x = Int32.ofNat e := fun ⟨e, h1, h2⟩ => by
  have h3 := Int32.le_iff_toInt_le.mp h
  rw [h2, hs_nint (by omega), hs_nint (by omega)] at h3
  omega
theorem hi_rng3 {x : Int32} {n : Nat} (h1 : ¬ x < 0) (h2 : ¬ Int32.ofNat n ≤ x) (hn : n ≤ 100) : ∃ e, e < n ∧ x = Int32.ofNat e := hi_rng h1 (Int32.lt_iff_toInt_lt.mpr (by
  have h3 : ¬ (Int32.ofNat n).toInt ≤ x.toInt := fun h => h2 (Int32.le_iff_toInt_le.mpr h)
  omega)) hn
section PPJ
variable {w : et_Wd} {K : et_K} {G : eg_G} {d2 d th s0 s1 ra0 ca0 rc0 ec0 cc0 ra1 ca1 rc1 ec1 cc1 : Nat} {x pl n : Int32}
theorem hc_nE (hH : et_H et_TT K G) (hC : ci_O K G th s0 s1 ra0 ca0 rc0 ec0 cc0 ra1 ca1 rc1 ec1 cc1) : et_go none d2 128 0 (eg_en (eg_mL 128) [.ref th, .int x]) [] G 0 0 (pn_Z K G (∃ e, e < ec0 ∧ x = Int32.ofNat e) (fun K' v => ∃ b, v = .ref b ∧ K' b = some 3)) := by
  have hx0 : et_ex K K := et_ex.rf
  have hf : et_fr [] K G G := et_fr.rf
  have hs0 := hC.2.1.1
  have hrc := hC.2.2.2.1.2.2.1.1
  have hec := hC.2.2.2.1.2.2.1.2.1
  have hcc := hC.2.2.2.1.2.2.1.2.2
  have hra := hC.2.2.2.1.2.1.1
  have hca := hC.2.2.2.1.2.1.2
  have k_th := hC.1
  have k_s0 := hC.2.2.2.1.1.1
  have k_ra0 := hC.2.2.2.1.1.2.1
  have k_ca0 := hC.2.2.2.1.1.2.2
  obtain ⟨hr4, he3, hc6⟩ := hC.2.2.2.1.2.2.2.1
  rw [show eg_mL 128 = 2 from by decide +kernel]
  show et_go none d2 128 0 [some (.ref th), some (.int x)] [] G 0 0 _
  refine hs_iload (i := 1) (p := 1) (by decide +kernel) rfl ?_
  refine hs_br1 (c := .lt) (t := 15) (f := 4) (by decide +kernel) (fun (c1 : x < 0) => ?_) (fun (c1 : ¬ (x < 0)) => ?_)
  · refine hs_thr (x := 1) (lk := 2) (by decide +kernel) rfl rfl ?_
    exact ⟨_, hx0, hf, hH, .inr ⟨rfl, hi_nr1 c1 (by omega), rfl, rfl⟩⟩
  · refine hs_iload (i := 1) (p := 5) (by decide +kernel) rfl ?_
    refine hs_aload (i := 0) (p := 6) (by decide +kernel) rfl ?_
    refine ht_getr (T := et_TT) (t := 12) (ci := 10) (f := 0) (p := 9) (by decide +kernel) rfl rfl hH k_th (fun a6 k_a6 e6 => ?_)
    obtain rfl : s0 = a6 := Value.ref.inj (Option.some.inj (hs0.symm.trans e6))
    refine ht_getn (T := et_TT) (t := 10) (ci := 8) (f := 5) (p := 12) (by decide +kernel) rfl rfl hH k_s0 (fun c9 h9 e9 => ?_)
    obtain rfl : ec0 = c9 := hb_cc hec e9 (by omega) (by omega)
    refine hs_br2 (c := .lt) (t := 23) (f := 15) (by decide +kernel) (fun (c12 : x < Int32.ofNat ec0) => ?_) (fun (c12 : ¬ (x < Int32.ofNat ec0)) => ?_)
    · obtain ⟨e, he, rfl⟩ := hi_rng c1 c12 (by omega)
      refine hs_aload (i := 0) (p := 24) (by decide +kernel) rfl ?_
      refine ht_getr (T := et_TT) (t := 12) (ci := 10) (f := 0) (p := 27) (by decide +kernel) rfl rfl hH k_th (fun a24 k_a24 e24 => ?_)
      obtain rfl : s0 = a24 := Value.ref.inj (Option.some.inj (hs0.symm.trans e24))
      refine ht_getr (T := et_TT) (t := 10) (ci := 8) (f := 6) (p := 30) (by decide +kernel) rfl rfl hH k_s0 (fun a27 k_a27 e27 => ?_)
      refine hs_iload (i := 1) (p := 31) (by decide +kernel) rfl ?_
      refine ht_aald (T := et_TT) (t := 40) (N := 3) (kd := 6) (m := 2) (p := 32) (by decide +kernel) rfl rfl hH k_a27 (by omega) (by omega) (by decide) (fun v31 h31 e31 => ?_)
      obtain ⟨a31, rfl, k_a31⟩ := hi_ref h31
      refine hs_aret (cn := "KnobEye$Eye") (by decide +kernel) ?_
      exact ⟨_, hx0, hf, hH, .inl ⟨_, rfl, ⟨_, rfl, k_a31⟩, ⟨e, he, rfl⟩, rfl, rfl⟩⟩
    · refine hs_thr (x := 1) (lk := 2) (by decide +kernel) rfl rfl ?_
      exact ⟨_, hx0, hf, hH, .inr ⟨rfl, hi_nr2 c12 (by omega), rfl, rfl⟩⟩
theorem hc_nR (hH : et_H et_TT K G) (hC : ci_O K G th s0 s1 ra0 ca0 rc0 ec0 cc0 ra1 ca1 rc1 ec1 cc1) : et_go none d2 129 0 (eg_en (eg_mL 129) [.ref th, .int x]) [] G 0 0 (pn_Z K G (∃ e, e < rc0 ∧ x = Int32.ofNat e) (fun K' v => ∃ b, v = .ref b ∧ K' b = some 8)) := by
  have hx0 : et_ex K K := et_ex.rf
  have hf : et_fr [] K G G := et_fr.rf
  have hs0 := hC.2.1.1
  have hrc := hC.2.2.2.1.2.2.1.1
  have hec := hC.2.2.2.1.2.2.1.2.1
  have hcc := hC.2.2.2.1.2.2.1.2.2
  have hra := hC.2.2.2.1.2.1.1
  have hca := hC.2.2.2.1.2.1.2
  have k_th := hC.1
  have k_s0 := hC.2.2.2.1.1.1
  have k_ra0 := hC.2.2.2.1.1.2.1
  have k_ca0 := hC.2.2.2.1.1.2.2
  obtain ⟨hr4, he3, hc6⟩ := hC.2.2.2.1.2.2.2.1
  rw [show eg_mL 129 = 2 from by decide +kernel]
  show et_go none d2 129 0 [some (.ref th), some (.int x)] [] G 0 0 _
  refine hs_iload (i := 1) (p := 1) (by decide +kernel) rfl ?_
  refine hs_br1 (c := .lt) (t := 27) (f := 4) (by decide +kernel) (fun (c1 : x < 0) => ?_) (fun (c1 : ¬ (x < 0)) => ?_)
  · refine hs_thr (x := 1) (lk := 2) (by decide +kernel) rfl rfl ?_
    exact ⟨_, hx0, hf, hH, .inr ⟨rfl, hi_nr1 c1 (by omega), rfl, rfl⟩⟩
  · refine hs_iload (i := 1) (p := 5) (by decide +kernel) rfl ?_
    refine hs_aload (i := 0) (p := 6) (by decide +kernel) rfl ?_
    refine ht_getr (T := et_TT) (t := 12) (ci := 10) (f := 0) (p := 9) (by decide +kernel) rfl rfl hH k_th (fun a6 k_a6 e6 => ?_)
    obtain rfl : s0 = a6 := Value.ref.inj (Option.some.inj (hs0.symm.trans e6))
    refine ht_getn (T := et_TT) (t := 10) (ci := 8) (f := 0) (p := 12) (by decide +kernel) rfl rfl hH k_s0 (fun c9 h9 e9 => ?_)
    obtain rfl : rc0 = c9 := hb_cc hrc e9 (by omega) (by omega)
    refine hs_br2 (c := .ge) (t := 27) (f := 15) (by decide +kernel) (fun (c12 : Int32.ofNat rc0 ≤ x) => ?_) (fun (c12 : ¬ (Int32.ofNat rc0 ≤ x)) => ?_)
    · refine hs_thr (x := 1) (lk := 2) (by decide +kernel) rfl rfl ?_
      exact ⟨_, hx0, hf, hH, .inr ⟨rfl, hi_nr3 c12 (by omega), rfl, rfl⟩⟩
    · obtain ⟨e, he, rfl⟩ := hi_rng3 c1 c12 (by omega)
      refine hs_aload (i := 0) (p := 16) (by decide +kernel) rfl ?_
      refine ht_getr (T := et_TT) (t := 12) (ci := 10) (f := 0) (p := 19) (by decide +kernel) rfl rfl hH k_th (fun a16 k_a16 e16 => ?_)
      obtain rfl : s0 = a16 := Value.ref.inj (Option.some.inj (hs0.symm.trans e16))
      refine ht_getr (T := et_TT) (t := 10) (ci := 8) (f := 1) (p := 22) (by decide +kernel) rfl rfl hH k_s0 (fun a19 k_a19 e19 => ?_)
      obtain rfl : ra0 = a19 := Value.ref.inj (Option.some.inj (hra.symm.trans e19))
      refine hs_iload (i := 1) (p := 23) (by decide +kernel) rfl ?_
      refine ht_aald (T := et_TT) (t := 37) (N := 4) (kd := 5) (m := 3) (p := 24) (by decide +kernel) rfl rfl hH k_ra0 (by omega) (by omega) (by decide) (fun v23 h23 e23 => ?_)
      obtain ⟨a23, ea23⟩ := hC.2.2.2.1.2.2.2.2.1 _ he
      obtain rfl : v23 = .ref a23 := Option.some.inj (e23.symm.trans ea23)
      obtain ⟨b23, hb23, k_a23⟩ := (hi_q h23).resolve_left (fun h => nomatch h)
      obtain rfl : a23 = b23 := Value.ref.inj hb23
      refine hs_ifnonnull1 (p := 35) (by decide +kernel) ?_
      refine hs_aload (i := 0) (p := 36) (by decide +kernel) rfl ?_
      refine ht_getr (T := et_TT) (t := 12) (ci := 10) (f := 0) (p := 39) (by decide +kernel) rfl rfl hH k_th (fun a36 k_a36 e36 => ?_)
      obtain rfl : s0 = a36 := Value.ref.inj (Option.some.inj (hs0.symm.trans e36))
      refine ht_getr (T := et_TT) (t := 10) (ci := 8) (f := 1) (p := 42) (by decide +kernel) rfl rfl hH k_s0 (fun a39 k_a39 e39 => ?_)
      obtain rfl : ra0 = a39 := Value.ref.inj (Option.some.inj (hra.symm.trans e39))
      refine hs_iload (i := 1) (p := 43) (by decide +kernel) rfl ?_
      refine ht_aald (T := et_TT) (t := 37) (N := 4) (kd := 5) (m := 3) (p := 44) (by decide +kernel) rfl rfl hH k_ra0 (by omega) (by omega) (by decide) (fun v43 h43 e43 => ?_)
      obtain ⟨a43, ea43⟩ := hC.2.2.2.1.2.2.2.2.1 _ he
      obtain rfl : v43 = .ref a43 := Option.some.inj (e43.symm.trans ea43)
      obtain ⟨b43, hb43, k_a43⟩ := (hi_q h43).resolve_left (fun h => nomatch h)
      obtain rfl : a43 = b43 := Value.ref.inj hb43
      refine hs_aret (cn := "KnobEye$Rule") (by decide +kernel) ?_
      exact ⟨_, hx0, hf, hH, .inl ⟨_, rfl, ⟨_, rfl, k_a43⟩, ⟨e, he, rfl⟩, rfl, rfl⟩⟩
theorem hc_eyeI (hH : et_H et_TT K G) (hci : ci K G th) : et_go none d2 139 0 (eg_en (eg_mL 139) [.ref th]) [] G 0 0 (pr_Z [(10, 5, 5)] K G th [2] 1 6 (fun _ => True)) := by
  obtain ⟨s0, s1, ra0, ca0, rc0, ec0, cc0, ra1, ca1, rc1, ec1, cc1, hC⟩ := hci
  have hx0 : et_ex K K := et_ex.rf
  have hf : et_fr [(10, 5, 5)] K G G := et_fr.rf
  have hs0 := hC.2.1.1
  have hrc := hC.2.2.2.1.2.2.1.1
  have hec := hC.2.2.2.1.2.2.1.2.1
  have hcc := hC.2.2.2.1.2.2.1.2.2
  have hra := hC.2.2.2.1.2.1.1
  have hca := hC.2.2.2.1.2.1.2
  have k_th := hC.1
  have k_s0 := hC.2.2.2.1.1.1
  have k_ra0 := hC.2.2.2.1.1.2.1
  have k_ca0 := hC.2.2.2.1.1.2.2
  obtain ⟨hr4, he3, hc6⟩ := hC.2.2.2.1.2.2.2.1
  rw [show eg_mL 139 = 1 from by decide +kernel]
  show et_go none d2 139 0 [some (.ref th)] [] G 0 0 _
  refine hs_aload (i := 0) (p := 1) (by decide +kernel) rfl ?_
  refine ht_getr (T := et_TT) (t := 12) (ci := 10) (f := 0) (p := 4) (by decide +kernel) rfl rfl hH k_th (fun a1 k_a1 e1 => ?_)
  obtain rfl : s0 = a1 := Value.ref.inj (Option.some.inj (hs0.symm.trans e1))
  refine ht_getn (T := et_TT) (t := 10) (ci := 8) (f := 5) (p := 7) (by decide +kernel) rfl rfl hH k_s0 (fun c4 h4 e4 => ?_)
  obtain rfl : ec0 = c4 := hb_cc hec e4 (by omega) (by omega)
  refine hs_k (x := Int32.ofNat 3) (p := 8) (by decide +kernel) ?_
  refine hs_br2n (c := .lt) (t := 19) (f := 11) (by decide +kernel) (by omega) (by omega) (fun (c8 : ec0 < 3) => ?_) (fun (c8 : ¬ (ec0 < 3)) => ?_)
  · refine hs_aload (i := 0) (p := 20) (by decide +kernel) rfl ?_
    refine ht_getr (T := et_TT) (t := 12) (ci := 10) (f := 0) (p := 23) (by decide +kernel) rfl rfl hH k_th (fun a20 k_a20 e20 => ?_)
    obtain rfl : s0 = a20 := Value.ref.inj (Option.some.inj (hs0.symm.trans e20))
    refine hs_dup1 (p := 24) (by decide +kernel) ?_
    refine ht_getn (T := et_TT) (t := 10) (ci := 8) (f := 5) (p := 27) (by decide +kernel) rfl rfl hH k_s0 (fun c24 h24 e24 => ?_)
    obtain rfl : ec0 = c24 := hb_cc hec e24 (by omega) (by omega)
    refine hs_k (x := Int32.ofNat 1) (p := 28) (by decide +kernel) ?_
    refine hs_iaddn (p := 29) (by decide +kernel) ?_
    refine ht_puta (T := et_TT) (t := 10) (ci := 8) (f := 5) (p := 32) (ty := .int) (by decide +kernel) rfl rfl rfl rfl (by decide +kernel) hH k_s0 (hi_nv (by omega) (by omega)) (fun G29 hH f29 e29 he => ?_)
    have hC := hC.ey f29 e29 he (by omega)
    have hs0 := (f29.2 th 12 k_th 0 rfl).trans hs0
    have hrc := (f29.2 s0 10 k_s0 0 rfl).trans hrc
    have hcc := (f29.2 s0 10 k_s0 9 rfl).trans hcc
    have hra := (f29.2 s0 10 k_s0 1 rfl).trans hra
    have hca := (f29.2 s0 10 k_s0 10 rfl).trans hca
    have hf := hf.tr hx0 (f29.wk (by decide +kernel))
    refine hs_aload (i := 0) (p := 33) (by decide +kernel) rfl ?_
    refine ht_getr (T := et_TT) (t := 12) (ci := 10) (f := 0) (p := 36) (by decide +kernel) rfl rfl hH k_th (fun a33 k_a33 e33 => ?_)
    obtain rfl : s0 = a33 := Value.ref.inj (Option.some.inj (hs0.symm.trans e33))
    refine ht_getn (T := et_TT) (t := 10) (ci := 8) (f := 5) (p := 39) (by decide +kernel) rfl rfl hH k_s0 (fun c36 h36 e36 => ?_)
    refine hs_k (x := Int32.ofNat 1) (p := 40) (by decide +kernel) ?_
    refine hs_isub (p := 41) (by decide +kernel) ?_
    refine hs_iret (by decide +kernel) ?_
    exact ⟨_, hx0, hf, hH, hC.i, trivial, .inl ⟨_, rfl⟩, (by dsimp only; omega), (by dsimp only; omega)⟩
  · refine hs_thr (x := 2) (lk := 1) (by decide +kernel) rfl rfl ?_
    exact ⟨_, hx0, hf, hH, hC.i, trivial, .inr ⟨_, List.mem_cons_self, rfl⟩, (by dsimp only; omega), (by dsimp only; omega)⟩
theorem hc_ruleI (hH : et_H et_TT K G) (hci : ci K G th) (hd : 26 ≤ d2) : et_go none d2 131 0 (eg_en (eg_mL 131) [.ref th]) [] G 0 0 (pr_Z ru_M K G th [0, 2] 806 4836 (fun u => ∀ rd, et_pl (eg_at G th) 3 = some (.ref rd) → pl_at u rd 0)) := by
  obtain ⟨s0, s1, ra0, ca0, rc0, ec0, cc0, ra1, ca1, rc1, ec1, cc1, hC⟩ := hci
  obtain ⟨d, rfl⟩ : ∃ d, d2 = d + 26 := ⟨d2 - 26, by omega⟩
  have hx0 : et_ex K K := et_ex.rf
  have hf : et_fr ru_M K G G := et_fr.rf
  have hs0 := hC.2.1.1
  have hrc := hC.2.2.2.1.2.2.1.1
  have hec := hC.2.2.2.1.2.2.1.2.1
  have hcc := hC.2.2.2.1.2.2.1.2.2
  have hra := hC.2.2.2.1.2.1.1
  have hca := hC.2.2.2.1.2.1.2
  have k_th := hC.1
  have k_s0 := hC.2.2.2.1.1.1
  have k_ra0 := hC.2.2.2.1.1.2.1
  have k_ca0 := hC.2.2.2.1.1.2.2
  obtain ⟨hr4, he3, hc6⟩ := hC.2.2.2.1.2.2.2.1
  rw [show eg_mL 131 = 2 from by decide +kernel]
  show et_go none (d + 26) 131 0 [some (.ref th), none] [] G 0 0 _
  refine hs_aload (i := 0) (p := 1) (by decide +kernel) rfl ?_
  refine ht_getr (T := et_TT) (t := 12) (ci := 10) (f := 3) (p := 4) (by decide +kernel) rfl rfl hH k_th (fun a1 k_a1 e1 => ?_)
  refine hs_k (x := Int32.ofNat 0) (p := 5) (by decide +kernel) ?_
  have hfo := hf
  refine ht_callv (T := et_TT) (t := 7) (mi := 66) (na := 1) (ci := 5) (lk := 2) (lm := 3) (L0 := eg_en (eg_mL 66) [.ref a1, .int (Int32.ofNat 0)]) (by decide +kernel) rfl hH k_a1 rfl rfl rfl rfl rfl (by rw [show eg_mL 66 = 3 from by decide +kernel]; first | done | rfl) ?_
  refine (hc_tcL (w := (K, [], G)) hH k_a1 (by omega)).mono (fun u hu => hs_cbvp (P := fun G' => pl_at G' a1 0) hu (fun v5 K5 G5 c5 s5 x5 f5 hH hP hv5 cl5 sl5 => ?_))
  have hC := hC.fr x5 f5 (by decide +kernel)
  have hs0 := (f5.2 th 12 k_th 0 rfl).trans hs0
  have hrc := (f5.2 s0 10 k_s0 0 rfl).trans hrc
  have hec := (f5.2 s0 10 k_s0 5 rfl).trans hec
  have hcc := (f5.2 s0 10 k_s0 9 rfl).trans hcc
  have hra := (f5.2 s0 10 k_s0 1 rfl).trans hra
  have hca := (f5.2 s0 10 k_s0 10 rfl).trans hca
  have k_th := x5 _ _ k_th
  have k_s0 := x5 _ _ k_s0
  have k_ra0 := x5 _ _ k_ra0
  have k_ca0 := x5 _ _ k_ca0
  have k_a1 := x5 _ _ k_a1
  have hf := hf.tr hx0 (f5.wk (by decide +kernel))
  have hx0 := hx0.tr x5
  have hl := hP
  rcases hi_q hv5 with rfl | ⟨b5, rfl, k_b5⟩
  · show et_go none _ 131 8 _ [.null] _ (0 + c5) (0 + s5) _
    refine hs_astore0 (i := 1) (p := 9) (by decide +kernel) (Nat.le_of_ble_eq_true rfl) ?_
    refine hs_aload0 (i := 1) (p := 10) (by decide +kernel) rfl ?_
    refine hs_ifnonnull0 (p := 13) (by decide +kernel) ?_
    refine hs_thr (x := 0) (lk := 2) (by decide +kernel) rfl rfl ?_
    exact ⟨_, hx0, hf, hH, hC.i, fun rd e => by obtain rfl : a1 = rd := Value.ref.inj (Option.some.inj (e1.symm.trans e)); exact hl, .inr ⟨_, List.mem_cons_self, rfl⟩, (by dsimp only; omega), (by dsimp only; omega)⟩
  · show et_go none _ 131 8 _ [.ref b5] _ (0 + c5) (0 + s5) _
    refine hs_astore (i := 1) (p := 9) (by decide +kernel) (Nat.le_of_ble_eq_true rfl) ?_
    refine hs_aload (i := 1) (p := 10) (by decide +kernel) rfl ?_
    refine hs_ifnonnull1 (p := 21) (by decide +kernel) ?_
    refine hs_aload (i := 0) (p := 22) (by decide +kernel) rfl ?_
    refine ht_getr (T := et_TT) (t := 12) (ci := 10) (f := 0) (p := 25) (by decide +kernel) rfl rfl hH k_th (fun a22 k_a22 e22 => ?_)
    obtain rfl : s0 = a22 := Value.ref.inj (Option.some.inj (hs0.symm.trans e22))
    refine ht_getn (T := et_TT) (t := 10) (ci := 8) (f := 0) (p := 28) (by decide +kernel) rfl rfl hH k_s0 (fun c25 h25 e25 => ?_)
    obtain rfl : rc0 = c25 := hb_cc hrc e25 (by omega) (by omega)
    refine hs_k (x := Int32.ofNat 4) (p := 29) (by decide +kernel) ?_
    refine hs_br2n (c := .lt) (t := 40) (f := 32) (by decide +kernel) (by omega) (by omega) (fun (c29 : rc0 < 4) => ?_) (fun (c29 : ¬ (rc0 < 4)) => ?_)
    · refine hs_aload (i := 0) (p := 41) (by decide +kernel) rfl ?_
      refine ht_getr (T := et_TT) (t := 12) (ci := 10) (f := 0) (p := 44) (by decide +kernel) rfl rfl hH k_th (fun a41 k_a41 e41 => ?_)
      obtain rfl : s0 = a41 := Value.ref.inj (Option.some.inj (hs0.symm.trans e41))
      refine ht_getr (T := et_TT) (t := 10) (ci := 8) (f := 1) (p := 47) (by decide +kernel) rfl rfl hH k_s0 (fun a44 k_a44 e44 => ?_)
      obtain rfl : ra0 = a44 := Value.ref.inj (Option.some.inj (hra.symm.trans e44))
      refine hs_aload (i := 0) (p := 48) (by decide +kernel) rfl ?_
      refine ht_getr (T := et_TT) (t := 12) (ci := 10) (f := 0) (p := 51) (by decide +kernel) rfl rfl hH k_th (fun a48 k_a48 e48 => ?_)
      obtain rfl : s0 = a48 := Value.ref.inj (Option.some.inj (hs0.symm.trans e48))
      refine ht_getn (T := et_TT) (t := 10) (ci := 8) (f := 0) (p := 54) (by decide +kernel) rfl rfl hH k_s0 (fun c51 h51 e51 => ?_)
      obtain rfl : rc0 = c51 := hb_cc hrc e51 (by omega) (by omega)
      refine ht_newU (ci := 6) (n := 2) (fs := [.null, .null]) (p := 57) (by decide +kernel) (by omega) (by omega) (by decide +kernel) (by decide +kernel) hH (fun G54 o54 hu f54 => ?_)
      have hC := hC.fr et_ex.rf f54 (by decide +kernel)
      have hs0 := (f54.2 th 12 k_th 0 rfl).trans hs0
      have hrc := (f54.2 s0 10 k_s0 0 rfl).trans hrc
      have hec := (f54.2 s0 10 k_s0 5 rfl).trans hec
      have hcc := (f54.2 s0 10 k_s0 9 rfl).trans hcc
      have hra := (f54.2 s0 10 k_s0 1 rfl).trans hra
      have hca := (f54.2 s0 10 k_s0 10 rfl).trans hca
      have hl := (f54.2 a1 7 k_a1 1 rfl).trans hl
      have hH := hu.1
      have hf := hf.tr hx0 (f54.wk (by decide +kernel))
      refine hs_dup1 (p := 58) (by decide +kernel) ?_
      refine hs_aload (i := 1) (p := 59) (by decide +kernel) rfl ?_
      have lto_b5 := (hH.2.2 _ _ k_b5).1
      have hfo := hf
      refine hs_callp (mi := 88) (na := 1) (lk := 2) (lm := 2) (L0 := eg_en (eg_mL 88) [.ref o54, .ref b5]) (by decide +kernel) rfl rfl rfl rfl rfl (by rw [show eg_mL 88 = 2 from by decide +kernel]; first | done | rfl) ?_
      refine (pu_rule hu k_b5).mono (fun u hu => pu_cb hu (fun K59 G59 x59 f59 hH k_o54 => ?_))
      have hC := hC.fr x59 f59 (by decide +kernel)
      have hs0 := (f59.2 th 12 k_th 0 rfl).trans hs0
      have hrc := (f59.2 s0 10 k_s0 0 rfl).trans hrc
      have hec := (f59.2 s0 10 k_s0 5 rfl).trans hec
      have hcc := (f59.2 s0 10 k_s0 9 rfl).trans hcc
      have hra := (f59.2 s0 10 k_s0 1 rfl).trans hra
      have hca := (f59.2 s0 10 k_s0 10 rfl).trans hca
      have hl := (f59.2 a1 7 k_a1 1 rfl).trans hl
      have k_th := x59 _ _ k_th
      have k_s0 := x59 _ _ k_s0
      have k_ra0 := x59 _ _ k_ra0
      have k_ca0 := x59 _ _ k_ca0
      have k_a1 := x59 _ _ k_a1
      have k_b5 := x59 _ _ k_b5
      have hf := hf.tr hx0 (f59.wk (by decide +kernel))
      have hx0 := hx0.tr x59
      show et_go none _ 131 62 _ [.ref o54, .int (Int32.ofNat rc0), .ref ra0] _ ((0 + c5) + 1) ((0 + s5) + 2) _
      refine ht_aasa (t := 37) (u := 8) (N := 4) (kd := 5) (cj := 6) (p := 63) (by decide +kernel) ⟨rfl, rfl⟩ (by decide +kernel) hH k_ra0 (by omega) (.inr ⟨by decide, _, rfl, k_o54⟩) (fun G62 hH f62 e62 he => ?_)
      have hs0 := (f62.2 th 12 k_th 0 rfl).trans hs0
      have hrc := (f62.2 s0 10 k_s0 0 rfl).trans hrc
      have hec := (f62.2 s0 10 k_s0 5 rfl).trans hec
      have hcc := (f62.2 s0 10 k_s0 9 rfl).trans hcc
      have hra := (f62.2 s0 10 k_s0 1 rfl).trans hra
      have hca := (f62.2 s0 10 k_s0 10 rfl).trans hca
      have hl := (f62.2 a1 7 k_a1 1 rfl).trans hl
      have hf := hf.tr hx0 ((hb_wk f62 (by omega)).wk (by decide +kernel))
      have hC := hC.ru f62 e62 he
      have hb62 := e62
      refine hs_aload (i := 0) (p := 64) (by decide +kernel) rfl ?_
      refine ht_getr (T := et_TT) (t := 12) (ci := 10) (f := 0) (p := 67) (by decide +kernel) rfl rfl hH k_th (fun a64 k_a64 e64 => ?_)
      obtain rfl : s0 = a64 := Value.ref.inj (Option.some.inj (hs0.symm.trans e64))
      refine hs_dup1 (p := 68) (by decide +kernel) ?_
      refine ht_getn (T := et_TT) (t := 10) (ci := 8) (f := 0) (p := 71) (by decide +kernel) rfl rfl hH k_s0 (fun c68 h68 e68 => ?_)
      obtain rfl : rc0 = c68 := hb_cc hrc e68 (by omega) (by omega)
      refine hs_k (x := Int32.ofNat 1) (p := 72) (by decide +kernel) ?_
      refine hs_iaddn (p := 73) (by decide +kernel) ?_
      refine ht_puta (T := et_TT) (t := 10) (ci := 8) (f := 0) (p := 76) (ty := .int) (by decide +kernel) rfl rfl rfl rfl (by decide +kernel) hH k_s0 (hi_nv (by omega) (by omega)) (fun G73 hH f73 e73 he => ?_)
      have hC := hC.rd f73 e73 hb62 he (by omega)
      have hs0 := (f73.2 th 12 k_th 0 rfl).trans hs0
      have hec := (f73.2 s0 10 k_s0 5 rfl).trans hec
      have hcc := (f73.2 s0 10 k_s0 9 rfl).trans hcc
      have hra := (f73.2 s0 10 k_s0 1 rfl).trans hra
      have hca := (f73.2 s0 10 k_s0 10 rfl).trans hca
      have hl := (f73.2 a1 7 k_a1 1 rfl).trans hl
      have hf := hf.tr hx0 (f73.wk (by decide +kernel))
      refine hs_aload (i := 0) (p := 77) (by decide +kernel) rfl ?_
      refine ht_getr (T := et_TT) (t := 12) (ci := 10) (f := 0) (p := 80) (by decide +kernel) rfl rfl hH k_th (fun a77 k_a77 e77 => ?_)
      obtain rfl : s0 = a77 := Value.ref.inj (Option.some.inj (hs0.symm.trans e77))
      refine ht_getn (T := et_TT) (t := 10) (ci := 8) (f := 0) (p := 83) (by decide +kernel) rfl rfl hH k_s0 (fun c80 h80 e80 => ?_)
      refine hs_k (x := Int32.ofNat 1) (p := 84) (by decide +kernel) ?_
      refine hs_isub (p := 85) (by decide +kernel) ?_
      refine hs_iret (by decide +kernel) ?_
      exact ⟨_, hx0, hf, hH, hC.i, fun rd e => by obtain rfl : a1 = rd := Value.ref.inj (Option.some.inj (e1.symm.trans e)); exact hl, .inl ⟨_, rfl⟩, (by dsimp only; omega), (by dsimp only; omega)⟩
    · refine hs_thr (x := 2) (lk := 2) (by decide +kernel) rfl rfl ?_
      exact ⟨_, hx0, hf, hH, hC.i, fun rd e => by obtain rfl : a1 = rd := Value.ref.inj (Option.some.inj (e1.symm.trans e)); exact hl, .inr ⟨_, (List.mem_cons_of_mem _ List.mem_cons_self), rfl⟩, (by dsimp only; omega), (by dsimp only; omega)⟩
theorem hc_turnerI (hH : et_H et_TT K G) (hci : ci K G th) (hd : 28 ≤ d2) : et_go none d2 132 0 (eg_en (eg_mL 132) [.ref th]) [] G 0 0 (pr_Z tu_M K G th [0, 2] 841 5106 (fun u => ∀ rd, et_pl (eg_at G th) 3 = some (.ref rd) → pl_at u rd 0)) := by
  obtain ⟨s0, s1, ra0, ca0, rc0, ec0, cc0, ra1, ca1, rc1, ec1, cc1, hC⟩ := hci
  obtain ⟨d, rfl⟩ : ∃ d, d2 = d + 28 := ⟨d2 - 28, by omega⟩
  have hx0 : et_ex K K := et_ex.rf
  have hf : et_fr tu_M K G G := et_fr.rf
  have hs0 := hC.2.1.1
  have hrc := hC.2.2.2.1.2.2.1.1
  have hec := hC.2.2.2.1.2.2.1.2.1
  have hcc := hC.2.2.2.1.2.2.1.2.2
  have hra := hC.2.2.2.1.2.1.1
  have hca := hC.2.2.2.1.2.1.2
  have k_th := hC.1
  have k_s0 := hC.2.2.2.1.1.1
  have k_ra0 := hC.2.2.2.1.1.2.1
  have k_ca0 := hC.2.2.2.1.1.2.2
  obtain ⟨hr4, he3, hc6⟩ := hC.2.2.2.1.2.2.2.1
  rw [show eg_mL 132 = 2 from by decide +kernel]
  show et_go none (d + 28) 132 0 [some (.ref th), none] [] G 0 0 _
  refine hs_aload (i := 0) (p := 1) (by decide +kernel) rfl ?_
  refine ht_getr (T := et_TT) (t := 12) (ci := 10) (f := 3) (p := 4) (by decide +kernel) rfl rfl hH k_th (fun a1 k_a1 e1 => ?_)
  have hfo := hf
  refine ht_callv (T := et_TT) (t := 7) (mi := 84) (na := 0) (ci := 5) (lk := 2) (lm := 4) (L0 := eg_en (eg_mL 84) [.ref a1]) (by decide +kernel) rfl hH k_a1 rfl rfl rfl rfl rfl (by rw [show eg_mL 84 = 4 from by decide +kernel]; first | done | rfl) ?_
  refine (hc_ttL (w := (K, [], G)) hH k_a1 (by omega)).mono (fun u hu => hs_cbvp (P := fun G' => pl_at G' a1 0) hu (fun v4 K4 G4 c4 s4 x4 f4 hH hP hv4 cl4 sl4 => ?_))
  have hC := hC.fr x4 f4 (by decide +kernel)
  have hs0 := (f4.2 th 12 k_th 0 rfl).trans hs0
  have hrc := (f4.2 s0 10 k_s0 0 rfl).trans hrc
  have hec := (f4.2 s0 10 k_s0 5 rfl).trans hec
  have hcc := (f4.2 s0 10 k_s0 9 rfl).trans hcc
  have hra := (f4.2 s0 10 k_s0 1 rfl).trans hra
  have hca := (f4.2 s0 10 k_s0 10 rfl).trans hca
  have k_th := x4 _ _ k_th
  have k_s0 := x4 _ _ k_s0
  have k_ra0 := x4 _ _ k_ra0
  have k_ca0 := x4 _ _ k_ca0
  have k_a1 := x4 _ _ k_a1
  have hf := hf.tr hx0 (f4.wk (by decide +kernel))
  have hx0 := hx0.tr x4
  have hl := hP
  rcases hi_q hv4 with rfl | ⟨b4, rfl, k_b4⟩
  · show et_go none _ 132 7 _ [.null] _ (0 + c4) (0 + s4) _
    refine hs_astore0 (i := 1) (p := 8) (by decide +kernel) (Nat.le_of_ble_eq_true rfl) ?_
    refine hs_aload0 (i := 1) (p := 9) (by decide +kernel) rfl ?_
    refine hs_ifnonnull0 (p := 12) (by decide +kernel) ?_
    refine hs_thr (x := 0) (lk := 2) (by decide +kernel) rfl rfl ?_
    exact ⟨_, hx0, hf, hH, hC.i, fun rd e => by obtain rfl : a1 = rd := Value.ref.inj (Option.some.inj (e1.symm.trans e)); exact hl, .inr ⟨_, List.mem_cons_self, rfl⟩, (by dsimp only; omega), (by dsimp only; omega)⟩
  · show et_go none _ 132 7 _ [.ref b4] _ (0 + c4) (0 + s4) _
    refine hs_astore (i := 1) (p := 8) (by decide +kernel) (Nat.le_of_ble_eq_true rfl) ?_
    refine hs_aload (i := 1) (p := 9) (by decide +kernel) rfl ?_
    refine hs_ifnonnull1 (p := 20) (by decide +kernel) ?_
    refine hs_aload (i := 0) (p := 21) (by decide +kernel) rfl ?_
    refine ht_getr (T := et_TT) (t := 12) (ci := 10) (f := 0) (p := 24) (by decide +kernel) rfl rfl hH k_th (fun a21 k_a21 e21 => ?_)
    obtain rfl : s0 = a21 := Value.ref.inj (Option.some.inj (hs0.symm.trans e21))
    refine ht_getn (T := et_TT) (t := 10) (ci := 8) (f := 7) (p := 27) (by decide +kernel) rfl rfl hH k_s0 (fun c24 h24 e24 => ?_)
    have htc := e24
    refine hs_k (x := Int32.ofNat 4) (p := 28) (by decide +kernel) ?_
    refine hs_br2n (c := .lt) (t := 39) (f := 31) (by decide +kernel) (by omega) (by omega) (fun (c28 : c24 < 4) => ?_) (fun (c28 : ¬ (c24 < 4)) => ?_)
    · refine hs_aload (i := 0) (p := 40) (by decide +kernel) rfl ?_
      refine ht_getr (T := et_TT) (t := 12) (ci := 10) (f := 0) (p := 43) (by decide +kernel) rfl rfl hH k_th (fun a40 k_a40 e40 => ?_)
      obtain rfl : s0 = a40 := Value.ref.inj (Option.some.inj (hs0.symm.trans e40))
      refine ht_getr (T := et_TT) (t := 10) (ci := 8) (f := 8) (p := 46) (by decide +kernel) rfl rfl hH k_s0 (fun a43 k_a43 e43 => ?_)
      refine hs_aload (i := 0) (p := 47) (by decide +kernel) rfl ?_
      refine ht_getr (T := et_TT) (t := 12) (ci := 10) (f := 0) (p := 50) (by decide +kernel) rfl rfl hH k_th (fun a47 k_a47 e47 => ?_)
      obtain rfl : s0 = a47 := Value.ref.inj (Option.some.inj (hs0.symm.trans e47))
      refine ht_getn (T := et_TT) (t := 10) (ci := 8) (f := 7) (p := 53) (by decide +kernel) rfl rfl hH k_s0 (fun c50 h50 e50 => ?_)
      obtain rfl : c24 = c50 := hb_cc htc e50 (by omega) (by omega)
      refine hs_aload (i := 1) (p := 54) (by decide +kernel) rfl ?_
      refine ht_aasg (M := [(38, 0, 100000)]) (t := 38) (u := 11) (N := 4) (kd := 7) (cj := 9) (p := 55) (by decide +kernel) ⟨rfl, rfl⟩ (by decide +kernel) hH k_a43 (by omega) k_b4 (hb_mm (by omega)) (fun G54 hH f54 => ?_)
      have hC := hC.fr et_ex.rf f54 (by decide +kernel)
      have hs0 := (f54.2 th 12 k_th 0 rfl).trans hs0
      have hrc := (f54.2 s0 10 k_s0 0 rfl).trans hrc
      have hec := (f54.2 s0 10 k_s0 5 rfl).trans hec
      have hcc := (f54.2 s0 10 k_s0 9 rfl).trans hcc
      have hra := (f54.2 s0 10 k_s0 1 rfl).trans hra
      have hca := (f54.2 s0 10 k_s0 10 rfl).trans hca
      have hl := (f54.2 a1 7 k_a1 1 rfl).trans hl
      have htc := (f54.2 s0 10 k_s0 7 rfl).trans htc
      have hf := hf.tr hx0 (f54.wk (by decide +kernel))
      refine hs_aload (i := 0) (p := 56) (by decide +kernel) rfl ?_
      refine ht_getr (T := et_TT) (t := 12) (ci := 10) (f := 0) (p := 59) (by decide +kernel) rfl rfl hH k_th (fun a56 k_a56 e56 => ?_)
      obtain rfl : s0 = a56 := Value.ref.inj (Option.some.inj (hs0.symm.trans e56))
      refine hs_dup1 (p := 60) (by decide +kernel) ?_
      refine ht_getn (T := et_TT) (t := 10) (ci := 8) (f := 7) (p := 63) (by decide +kernel) rfl rfl hH k_s0 (fun c60 h60 e60 => ?_)
      obtain rfl : c24 = c60 := hb_cc htc e60 (by omega) (by omega)
      refine hs_k (x := Int32.ofNat 1) (p := 64) (by decide +kernel) ?_
      refine hs_iaddn (p := 65) (by decide +kernel) ?_
      refine ht_put (M := [(10, 7, 7)]) (T := et_TT) (t := 10) (ci := 8) (f := 7) (p := 68) (ty := .int) (by decide +kernel) rfl rfl rfl rfl rfl (by decide +kernel) hH k_s0 (hi_nv (by omega) (by omega)) (fun G65 hH f65 e65 => ?_)
      have hC := hC.fr et_ex.rf f65 (by decide +kernel)
      have hs0 := (f65.2 th 12 k_th 0 rfl).trans hs0
      have hrc := (f65.2 s0 10 k_s0 0 rfl).trans hrc
      have hec := (f65.2 s0 10 k_s0 5 rfl).trans hec
      have hcc := (f65.2 s0 10 k_s0 9 rfl).trans hcc
      have hra := (f65.2 s0 10 k_s0 1 rfl).trans hra
      have hca := (f65.2 s0 10 k_s0 10 rfl).trans hca
      have hl := (f65.2 a1 7 k_a1 1 rfl).trans hl
      have hf := hf.tr hx0 (f65.wk (by decide +kernel))
      refine hs_aload (i := 0) (p := 69) (by decide +kernel) rfl ?_
      refine ht_getr (T := et_TT) (t := 12) (ci := 10) (f := 0) (p := 72) (by decide +kernel) rfl rfl hH k_th (fun a69 k_a69 e69 => ?_)
      obtain rfl : s0 = a69 := Value.ref.inj (Option.some.inj (hs0.symm.trans e69))
      refine ht_getn (T := et_TT) (t := 10) (ci := 8) (f := 7) (p := 75) (by decide +kernel) rfl rfl hH k_s0 (fun c72 h72 e72 => ?_)
      refine hs_k (x := Int32.ofNat 1) (p := 76) (by decide +kernel) ?_
      refine hs_isub (p := 77) (by decide +kernel) ?_
      refine hs_iret (by decide +kernel) ?_
      exact ⟨_, hx0, hf, hH, hC.i, fun rd e => by obtain rfl : a1 = rd := Value.ref.inj (Option.some.inj (e1.symm.trans e)); exact hl, .inl ⟨_, rfl⟩, (by dsimp only; omega), (by dsimp only; omega)⟩
    · refine hs_thr (x := 2) (lk := 2) (by decide +kernel) rfl rfl ?_
      exact ⟨_, hx0, hf, hH, hC.i, fun rd e => by obtain rfl : a1 = rd := Value.ref.inj (Option.some.inj (e1.symm.trans e)); exact hl, .inr ⟨_, (List.mem_cons_of_mem _ List.mem_cons_self), rfl⟩, (by dsimp only; omega), (by dsimp only; omega)⟩
theorem hc_claimI (hH : et_H et_TT K G) (hci : ci K G th) (hd : 26 ≤ d2) : et_go none d2 133 0 (eg_en (eg_mL 133) [.ref th, .int pl, .int n]) [] G 0 0 (pr_Z cl_M K G th [0, 1, 2] 806 4836 (fun u => ∀ rd, et_pl (eg_at G th) 3 = some (.ref rd) → pl_at u rd 0)) := by
  obtain ⟨s0, s1, ra0, ca0, rc0, ec0, cc0, ra1, ca1, rc1, ec1, cc1, hC⟩ := hci
  obtain ⟨d, rfl⟩ : ∃ d, d2 = d + 26 := ⟨d2 - 26, by omega⟩
  have hx0 : et_ex K K := et_ex.rf
  have hf : et_fr cl_M K G G := et_fr.rf
  have hs0 := hC.2.1.1
  have hrc := hC.2.2.2.1.2.2.1.1
  have hec := hC.2.2.2.1.2.2.1.2.1
  have hcc := hC.2.2.2.1.2.2.1.2.2
  have hra := hC.2.2.2.1.2.1.1
  have hca := hC.2.2.2.1.2.1.2
  have k_th := hC.1
  have k_s0 := hC.2.2.2.1.1.1
  have k_ra0 := hC.2.2.2.1.1.2.1
  have k_ca0 := hC.2.2.2.1.1.2.2
  obtain ⟨hr4, he3, hc6⟩ := hC.2.2.2.1.2.2.2.1
  rw [show eg_mL 133 = 4 from by decide +kernel]
  show et_go none (d + 26) 133 0 [some (.ref th), some (.int pl), some (.int n), none] [] G 0 0 _
  refine hs_aload (i := 0) (p := 1) (by decide +kernel) rfl ?_
  refine ht_getr (T := et_TT) (t := 12) (ci := 10) (f := 3) (p := 4) (by decide +kernel) rfl rfl hH k_th (fun a1 k_a1 e1 => ?_)
  refine hs_k (x := Int32.ofNat 2) (p := 5) (by decide +kernel) ?_
  have hfo := hf
  refine ht_callv (T := et_TT) (t := 7) (mi := 66) (na := 1) (ci := 5) (lk := 4) (lm := 3) (L0 := eg_en (eg_mL 66) [.ref a1, .int (Int32.ofNat 2)]) (by decide +kernel) rfl hH k_a1 rfl rfl rfl rfl rfl (by rw [show eg_mL 66 = 3 from by decide +kernel]; first | done | rfl) ?_
  refine (hc_tcL (w := (K, [], G)) hH k_a1 (by omega)).mono (fun u hu => hs_cbvp (P := fun G' => pl_at G' a1 0) hu (fun v5 K5 G5 c5 s5 x5 f5 hH hP hv5 cl5 sl5 => ?_))
  have hC := hC.fr x5 f5 (by decide +kernel)
  have hs0 := (f5.2 th 12 k_th 0 rfl).trans hs0
  have hrc := (f5.2 s0 10 k_s0 0 rfl).trans hrc
  have hec := (f5.2 s0 10 k_s0 5 rfl).trans hec
  have hcc := (f5.2 s0 10 k_s0 9 rfl).trans hcc
  have hra := (f5.2 s0 10 k_s0 1 rfl).trans hra
  have hca := (f5.2 s0 10 k_s0 10 rfl).trans hca
  have k_th := x5 _ _ k_th
  have k_s0 := x5 _ _ k_s0
  have k_ra0 := x5 _ _ k_ra0
  have k_ca0 := x5 _ _ k_ca0
  have k_a1 := x5 _ _ k_a1
  have hf := hf.tr hx0 (f5.wk (by decide +kernel))
  have hx0 := hx0.tr x5
  have hl := hP
  rcases hi_q hv5 with rfl | ⟨b5, rfl, k_b5⟩
  · show et_go none _ 133 8 _ [.null] _ (0 + c5) (0 + s5) _
    refine hs_astore0 (i := 3) (p := 9) (by decide +kernel) (Nat.le_of_ble_eq_true rfl) ?_
    refine hs_aload (i := 0) (p := 10) (by decide +kernel) rfl ?_
    refine hs_iload (i := 1) (p := 11) (by decide +kernel) rfl ?_
    have hfo := hf
    refine ht_callv (T := et_TT) (t := 12) (mi := 128) (na := 1) (ci := 10) (lk := 4) (lm := 2) (L0 := eg_en (eg_mL 128) [.ref th, .int pl]) (by decide +kernel) rfl hH k_th rfl rfl rfl rfl rfl (by rw [show eg_mL 128 = 2 from by decide +kernel]; first | done | rfl) ?_
    refine (hc_nE hH hC).mono (fun u hu => pn_cb (by decide +kernel) hu (fun K11 G11 v11 x11 f11 hH hA hQ11 => ?_) (fun K11 G11 x11 f11 hH hQ => ⟨_, hx0.tr x11, hf.tr hx0 (f11.wk (by decide +kernel)), hH, (hC.fr x11 f11 (by decide +kernel)).i, fun rd e => by obtain rfl : a1 = rd := Value.ref.inj (Option.some.inj (e1.symm.trans e)); exact (f11.2 a1 7 k_a1 1 rfl).trans hl, .inr ⟨1, List.mem_cons_of_mem _ List.mem_cons_self, rfl⟩, (by dsimp only; omega), (by dsimp only; omega)⟩))
    have hC := hC.fr x11 f11 (by decide +kernel)
    have hs0 := (f11.2 th 12 k_th 0 rfl).trans hs0
    have hrc := (f11.2 s0 10 k_s0 0 rfl).trans hrc
    have hec := (f11.2 s0 10 k_s0 5 rfl).trans hec
    have hcc := (f11.2 s0 10 k_s0 9 rfl).trans hcc
    have hra := (f11.2 s0 10 k_s0 1 rfl).trans hra
    have hca := (f11.2 s0 10 k_s0 10 rfl).trans hca
    have hl := (f11.2 a1 7 k_a1 1 rfl).trans hl
    have k_th := x11 _ _ k_th
    have k_s0 := x11 _ _ k_s0
    have k_ra0 := x11 _ _ k_ra0
    have k_ca0 := x11 _ _ k_ca0
    have k_a1 := x11 _ _ k_a1
    have hf := hf.tr hx0 (f11.wk (by decide +kernel))
    have hx0 := hx0.tr x11
    obtain ⟨b11, rfl, k_b11⟩ := hA
    show et_go none _ 133 14 _ [.ref b11] _ (0 + c5) (0 + s5) _
    refine hs_popr (p := 15) (by decide +kernel) ?_
    refine hs_aload (i := 0) (p := 16) (by decide +kernel) rfl ?_
    refine hs_iload (i := 2) (p := 17) (by decide +kernel) rfl ?_
    have hfo := hf
    refine ht_callv (T := et_TT) (t := 12) (mi := 129) (na := 1) (ci := 10) (lk := 4) (lm := 2) (L0 := eg_en (eg_mL 129) [.ref th, .int n]) (by decide +kernel) rfl hH k_th rfl rfl rfl rfl rfl (by rw [show eg_mL 129 = 2 from by decide +kernel]; first | done | rfl) ?_
    refine (hc_nR hH hC).mono (fun u hu => pn_cb (by decide +kernel) hu (fun K17 G17 v17 x17 f17 hH hA hQ17 => ?_) (fun K17 G17 x17 f17 hH hQ => ⟨_, hx0.tr x17, hf.tr hx0 (f17.wk (by decide +kernel)), hH, (hC.fr x17 f17 (by decide +kernel)).i, fun rd e => by obtain rfl : a1 = rd := Value.ref.inj (Option.some.inj (e1.symm.trans e)); exact (f17.2 a1 7 k_a1 1 rfl).trans hl, .inr ⟨1, List.mem_cons_of_mem _ List.mem_cons_self, rfl⟩, (by dsimp only; omega), (by dsimp only; omega)⟩))
    have hC := hC.fr x17 f17 (by decide +kernel)
    have hs0 := (f17.2 th 12 k_th 0 rfl).trans hs0
    have hrc := (f17.2 s0 10 k_s0 0 rfl).trans hrc
    have hec := (f17.2 s0 10 k_s0 5 rfl).trans hec
    have hcc := (f17.2 s0 10 k_s0 9 rfl).trans hcc
    have hra := (f17.2 s0 10 k_s0 1 rfl).trans hra
    have hca := (f17.2 s0 10 k_s0 10 rfl).trans hca
    have hl := (f17.2 a1 7 k_a1 1 rfl).trans hl
    have k_th := x17 _ _ k_th
    have k_s0 := x17 _ _ k_s0
    have k_ra0 := x17 _ _ k_ra0
    have k_ca0 := x17 _ _ k_ca0
    have k_a1 := x17 _ _ k_a1
    have k_b11 := x17 _ _ k_b11
    have hf := hf.tr hx0 (f17.wk (by decide +kernel))
    have hx0 := hx0.tr x17
    obtain ⟨b17, rfl, k_b17⟩ := hA
    show et_go none _ 133 20 _ [.ref b17] _ (0 + c5) (0 + s5) _
    refine hs_popr (p := 21) (by decide +kernel) ?_
    obtain ⟨e, hE, rfl⟩ := hQ11
    obtain ⟨q, hR, rfl⟩ := hQ17
    refine hs_aload0 (i := 3) (p := 22) (by decide +kernel) rfl ?_
    refine hs_ifnonnull0 (p := 25) (by decide +kernel) ?_
    refine hs_thr (x := 0) (lk := 4) (by decide +kernel) rfl rfl ?_
    exact ⟨_, hx0, hf, hH, hC.i, fun rd e => by obtain rfl : a1 = rd := Value.ref.inj (Option.some.inj (e1.symm.trans e)); exact hl, .inr ⟨_, List.mem_cons_self, rfl⟩, (by dsimp only; omega), (by dsimp only; omega)⟩
  · show et_go none _ 133 8 _ [.ref b5] _ (0 + c5) (0 + s5) _
    refine hs_astore (i := 3) (p := 9) (by decide +kernel) (Nat.le_of_ble_eq_true rfl) ?_
    refine hs_aload (i := 0) (p := 10) (by decide +kernel) rfl ?_
    refine hs_iload (i := 1) (p := 11) (by decide +kernel) rfl ?_
    have lto_b5 := (hH.2.2 _ _ k_b5).1
    have hfo := hf
    refine ht_callv (T := et_TT) (t := 12) (mi := 128) (na := 1) (ci := 10) (lk := 4) (lm := 2) (L0 := eg_en (eg_mL 128) [.ref th, .int pl]) (by decide +kernel) rfl hH k_th rfl rfl rfl rfl rfl (by rw [show eg_mL 128 = 2 from by decide +kernel]; first | done | rfl) ?_
    refine (hc_nE hH hC).mono (fun u hu => pn_cb (by decide +kernel) hu (fun K11 G11 v11 x11 f11 hH hA hQ11 => ?_) (fun K11 G11 x11 f11 hH hQ => ⟨_, hx0.tr x11, hf.tr hx0 (f11.wk (by decide +kernel)), hH, (hC.fr x11 f11 (by decide +kernel)).i, fun rd e => by obtain rfl : a1 = rd := Value.ref.inj (Option.some.inj (e1.symm.trans e)); exact (f11.2 a1 7 k_a1 1 rfl).trans hl, .inr ⟨1, List.mem_cons_of_mem _ List.mem_cons_self, rfl⟩, (by dsimp only; omega), (by dsimp only; omega)⟩))
    have hC := hC.fr x11 f11 (by decide +kernel)
    have hs0 := (f11.2 th 12 k_th 0 rfl).trans hs0
    have hrc := (f11.2 s0 10 k_s0 0 rfl).trans hrc
    have hec := (f11.2 s0 10 k_s0 5 rfl).trans hec
    have hcc := (f11.2 s0 10 k_s0 9 rfl).trans hcc
    have hra := (f11.2 s0 10 k_s0 1 rfl).trans hra
    have hca := (f11.2 s0 10 k_s0 10 rfl).trans hca
    have hl := (f11.2 a1 7 k_a1 1 rfl).trans hl
    have k_th := x11 _ _ k_th
    have k_s0 := x11 _ _ k_s0
    have k_ra0 := x11 _ _ k_ra0
    have k_ca0 := x11 _ _ k_ca0
    have k_a1 := x11 _ _ k_a1
    have k_b5 := x11 _ _ k_b5
    have hf := hf.tr hx0 (f11.wk (by decide +kernel))
    have hx0 := hx0.tr x11
    obtain ⟨b11, rfl, k_b11⟩ := hA
    show et_go none _ 133 14 _ [.ref b11] _ (0 + c5) (0 + s5) _
    refine hs_popr (p := 15) (by decide +kernel) ?_
    refine hs_aload (i := 0) (p := 16) (by decide +kernel) rfl ?_
    refine hs_iload (i := 2) (p := 17) (by decide +kernel) rfl ?_
    have lto_b5 := (hH.2.2 _ _ k_b5).1
    have hfo := hf
    refine ht_callv (T := et_TT) (t := 12) (mi := 129) (na := 1) (ci := 10) (lk := 4) (lm := 2) (L0 := eg_en (eg_mL 129) [.ref th, .int n]) (by decide +kernel) rfl hH k_th rfl rfl rfl rfl rfl (by rw [show eg_mL 129 = 2 from by decide +kernel]; first | done | rfl) ?_
    refine (hc_nR hH hC).mono (fun u hu => pn_cb (by decide +kernel) hu (fun K17 G17 v17 x17 f17 hH hA hQ17 => ?_) (fun K17 G17 x17 f17 hH hQ => ⟨_, hx0.tr x17, hf.tr hx0 (f17.wk (by decide +kernel)), hH, (hC.fr x17 f17 (by decide +kernel)).i, fun rd e => by obtain rfl : a1 = rd := Value.ref.inj (Option.some.inj (e1.symm.trans e)); exact (f17.2 a1 7 k_a1 1 rfl).trans hl, .inr ⟨1, List.mem_cons_of_mem _ List.mem_cons_self, rfl⟩, (by dsimp only; omega), (by dsimp only; omega)⟩))
    have hC := hC.fr x17 f17 (by decide +kernel)
    have hs0 := (f17.2 th 12 k_th 0 rfl).trans hs0
    have hrc := (f17.2 s0 10 k_s0 0 rfl).trans hrc
    have hec := (f17.2 s0 10 k_s0 5 rfl).trans hec
    have hcc := (f17.2 s0 10 k_s0 9 rfl).trans hcc
    have hra := (f17.2 s0 10 k_s0 1 rfl).trans hra
    have hca := (f17.2 s0 10 k_s0 10 rfl).trans hca
    have hl := (f17.2 a1 7 k_a1 1 rfl).trans hl
    have k_th := x17 _ _ k_th
    have k_s0 := x17 _ _ k_s0
    have k_ra0 := x17 _ _ k_ra0
    have k_ca0 := x17 _ _ k_ca0
    have k_a1 := x17 _ _ k_a1
    have k_b5 := x17 _ _ k_b5
    have k_b11 := x17 _ _ k_b11
    have hf := hf.tr hx0 (f17.wk (by decide +kernel))
    have hx0 := hx0.tr x17
    obtain ⟨b17, rfl, k_b17⟩ := hA
    show et_go none _ 133 20 _ [.ref b17] _ (0 + c5) (0 + s5) _
    refine hs_popr (p := 21) (by decide +kernel) ?_
    obtain ⟨e, hE, rfl⟩ := hQ11
    obtain ⟨q, hR, rfl⟩ := hQ17
    refine hs_aload (i := 3) (p := 22) (by decide +kernel) rfl ?_
    refine hs_ifnonnull1 (p := 33) (by decide +kernel) ?_
    refine hs_aload (i := 0) (p := 34) (by decide +kernel) rfl ?_
    refine ht_getr (T := et_TT) (t := 12) (ci := 10) (f := 0) (p := 37) (by decide +kernel) rfl rfl hH k_th (fun a34 k_a34 e34 => ?_)
    obtain rfl : s0 = a34 := Value.ref.inj (Option.some.inj (hs0.symm.trans e34))
    refine ht_getn (T := et_TT) (t := 10) (ci := 8) (f := 9) (p := 40) (by decide +kernel) rfl rfl hH k_s0 (fun c37 h37 e37 => ?_)
    obtain rfl : cc0 = c37 := hb_cc hcc e37 (by omega) (by omega)
    refine hs_k (x := Int32.ofNat 6) (p := 42) (by decide +kernel) ?_
    refine hs_br2n (c := .lt) (t := 53) (f := 45) (by decide +kernel) (by omega) (by omega) (fun (c42 : cc0 < 6) => ?_) (fun (c42 : ¬ (cc0 < 6)) => ?_)
    · refine hs_aload (i := 0) (p := 54) (by decide +kernel) rfl ?_
      refine ht_getr (T := et_TT) (t := 12) (ci := 10) (f := 0) (p := 57) (by decide +kernel) rfl rfl hH k_th (fun a54 k_a54 e54 => ?_)
      obtain rfl : s0 = a54 := Value.ref.inj (Option.some.inj (hs0.symm.trans e54))
      refine ht_getr (T := et_TT) (t := 10) (ci := 8) (f := 10) (p := 60) (by decide +kernel) rfl rfl hH k_s0 (fun a57 k_a57 e57 => ?_)
      obtain rfl : ca0 = a57 := Value.ref.inj (Option.some.inj (hca.symm.trans e57))
      refine hs_aload (i := 0) (p := 61) (by decide +kernel) rfl ?_
      refine ht_getr (T := et_TT) (t := 12) (ci := 10) (f := 0) (p := 64) (by decide +kernel) rfl rfl hH k_th (fun a61 k_a61 e61 => ?_)
      obtain rfl : s0 = a61 := Value.ref.inj (Option.some.inj (hs0.symm.trans e61))
      refine ht_getn (T := et_TT) (t := 10) (ci := 8) (f := 9) (p := 67) (by decide +kernel) rfl rfl hH k_s0 (fun c64 h64 e64 => ?_)
      obtain rfl : cc0 = c64 := hb_cc hcc e64 (by omega) (by omega)
      refine ht_newU (ci := 0) (n := 4) (fs := [.null, .int 0, .int 0, .int 0]) (p := 70) (by decide +kernel) (by omega) (by omega) (by decide +kernel) (by decide +kernel) hH (fun G67 o67 hu f67 => ?_)
      have hC := hC.fr et_ex.rf f67 (by decide +kernel)
      have hs0 := (f67.2 th 12 k_th 0 rfl).trans hs0
      have hrc := (f67.2 s0 10 k_s0 0 rfl).trans hrc
      have hec := (f67.2 s0 10 k_s0 5 rfl).trans hec
      have hcc := (f67.2 s0 10 k_s0 9 rfl).trans hcc
      have hra := (f67.2 s0 10 k_s0 1 rfl).trans hra
      have hca := (f67.2 s0 10 k_s0 10 rfl).trans hca
      have hl := (f67.2 a1 7 k_a1 1 rfl).trans hl
      have hH := hu.1
      have hf := hf.tr hx0 (f67.wk (by decide +kernel))
      refine hs_dup1 (p := 71) (by decide +kernel) ?_
      refine hs_aload (i := 3) (p := 72) (by decide +kernel) rfl ?_
      refine hs_iload (i := 1) (p := 73) (by decide +kernel) rfl ?_
      refine hs_iload (i := 2) (p := 74) (by decide +kernel) rfl ?_
      refine hs_aload (i := 0) (p := 75) (by decide +kernel) rfl ?_
      refine ht_getr (T := et_TT) (t := 12) (ci := 10) (f := 3) (p := 78) (by decide +kernel) rfl rfl hH k_th (fun a75 k_a75 e75 => ?_)
      refine ht_getn (T := et_TT) (t := 7) (ci := 5) (f := 3) (p := 81) (by decide +kernel) rfl rfl hH k_a75 (fun c78 h78 e78 => ?_)
      have lto_b5 := (hH.2.2 _ _ k_b5).1
      have hfo := hf
      refine hs_callp (mi := 30) (na := 4) (lk := 4) (lm := 5) (L0 := eg_en (eg_mL 30) [.ref o67, .ref b5, .int (Int32.ofNat e), .int (Int32.ofNat q), .int (Int32.ofNat c78)]) (by decide +kernel) rfl rfl rfl rfl rfl (by rw [show eg_mL 30 = 5 from by decide +kernel]; first | done | rfl) ?_
      refine (pu_claimF hu k_b5 (by omega)).mono (fun u hu => pu_cbc hu (fun K81 G81 x81 f81 hH k_o67 e1_o67 e2_o67 => ?_))
      have hC := hC.fr x81 f81 (by decide +kernel)
      have hs0 := (f81.2 th 12 k_th 0 rfl).trans hs0
      have hrc := (f81.2 s0 10 k_s0 0 rfl).trans hrc
      have hec := (f81.2 s0 10 k_s0 5 rfl).trans hec
      have hcc := (f81.2 s0 10 k_s0 9 rfl).trans hcc
      have hra := (f81.2 s0 10 k_s0 1 rfl).trans hra
      have hca := (f81.2 s0 10 k_s0 10 rfl).trans hca
      have hl := (f81.2 a1 7 k_a1 1 rfl).trans hl
      have k_th := x81 _ _ k_th
      have k_s0 := x81 _ _ k_s0
      have k_ra0 := x81 _ _ k_ra0
      have k_ca0 := x81 _ _ k_ca0
      have k_a1 := x81 _ _ k_a1
      have k_b5 := x81 _ _ k_b5
      have k_b11 := x81 _ _ k_b11
      have k_b17 := x81 _ _ k_b17
      have k_a75 := x81 _ _ k_a75
      have hf := hf.tr hx0 (f81.wk (by decide +kernel))
      have hx0 := hx0.tr x81
      show et_go none _ 133 84 _ [.ref o67, .int (Int32.ofNat cc0), .ref ca0] _ ((0 + c5) + 1) ((0 + s5) + 4) _
      refine ht_aasa (t := 39) (u := 2) (N := 6) (kd := 8) (cj := 0) (p := 85) (by decide +kernel) ⟨rfl, rfl⟩ (by decide +kernel) hH k_ca0 (by omega) (.inr ⟨by decide, _, rfl, k_o67⟩) (fun G84 hH f84 e84 he => ?_)
      have hs0 := (f84.2 th 12 k_th 0 rfl).trans hs0
      have hrc := (f84.2 s0 10 k_s0 0 rfl).trans hrc
      have hec := (f84.2 s0 10 k_s0 5 rfl).trans hec
      have hcc := (f84.2 s0 10 k_s0 9 rfl).trans hcc
      have hra := (f84.2 s0 10 k_s0 1 rfl).trans hra
      have hca := (f84.2 s0 10 k_s0 10 rfl).trans hca
      have hl := (f84.2 a1 7 k_a1 1 rfl).trans hl
      have e1_o67 := (f84.2 o67 2 k_o67 1 rfl).trans e1_o67
      have e2_o67 := (f84.2 o67 2 k_o67 2 rfl).trans e2_o67
      have hf := hf.tr hx0 ((hb_wk f84 (by omega)).wk (by decide +kernel))
      have hC := hC.cl f84 he
      have hb84 := e84
      refine hs_aload (i := 0) (p := 86) (by decide +kernel) rfl ?_
      refine ht_getr (T := et_TT) (t := 12) (ci := 10) (f := 0) (p := 89) (by decide +kernel) rfl rfl hH k_th (fun a86 k_a86 e86 => ?_)
      obtain rfl : s0 = a86 := Value.ref.inj (Option.some.inj (hs0.symm.trans e86))
      refine hs_dup1 (p := 90) (by decide +kernel) ?_
      refine ht_getn (T := et_TT) (t := 10) (ci := 8) (f := 9) (p := 93) (by decide +kernel) rfl rfl hH k_s0 (fun c90 h90 e90 => ?_)
      obtain rfl : cc0 = c90 := hb_cc hcc e90 (by omega) (by omega)
      refine hs_k (x := Int32.ofNat 1) (p := 94) (by decide +kernel) ?_
      refine hs_iaddn (p := 95) (by decide +kernel) ?_
      refine ht_puta (T := et_TT) (t := 10) (ci := 8) (f := 9) (p := 98) (ty := .int) (by decide +kernel) rfl rfl rfl rfl (by decide +kernel) hH k_s0 (hi_nv (by omega) (by omega)) (fun G95 hH f95 e95 he => ?_)
      have hC := hC.cn f95 e95 hb84 k_o67 e1_o67 e2_o67 hE hR he (by omega)
      have hs0 := (f95.2 th 12 k_th 0 rfl).trans hs0
      have hrc := (f95.2 s0 10 k_s0 0 rfl).trans hrc
      have hec := (f95.2 s0 10 k_s0 5 rfl).trans hec
      have hra := (f95.2 s0 10 k_s0 1 rfl).trans hra
      have hca := (f95.2 s0 10 k_s0 10 rfl).trans hca
      have hl := (f95.2 a1 7 k_a1 1 rfl).trans hl
      have e1_o67 := (f95.2 o67 2 k_o67 1 rfl).trans e1_o67
      have e2_o67 := (f95.2 o67 2 k_o67 2 rfl).trans e2_o67
      have hf := hf.tr hx0 (f95.wk (by decide +kernel))
      refine hs_aload (i := 0) (p := 99) (by decide +kernel) rfl ?_
      refine ht_getr (T := et_TT) (t := 12) (ci := 10) (f := 0) (p := 102) (by decide +kernel) rfl rfl hH k_th (fun a99 k_a99 e99 => ?_)
      obtain rfl : s0 = a99 := Value.ref.inj (Option.some.inj (hs0.symm.trans e99))
      refine ht_getn (T := et_TT) (t := 10) (ci := 8) (f := 9) (p := 105) (by decide +kernel) rfl rfl hH k_s0 (fun c102 h102 e102 => ?_)
      refine hs_k (x := Int32.ofNat 1) (p := 106) (by decide +kernel) ?_
      refine hs_isub (p := 107) (by decide +kernel) ?_
      refine hs_iret (by decide +kernel) ?_
      exact ⟨_, hx0, hf, hH, hC.i, fun rd e => by obtain rfl : a1 = rd := Value.ref.inj (Option.some.inj (e1.symm.trans e)); exact hl, .inl ⟨_, rfl⟩, (by dsimp only; omega), (by dsimp only; omega)⟩
    · refine hs_thr (x := 2) (lk := 4) (by decide +kernel) rfl rfl ?_
      exact ⟨_, hx0, hf, hH, hC.i, fun rd e => by obtain rfl : a1 = rd := Value.ref.inj (Option.some.inj (e1.symm.trans e)); exact hl, .inr ⟨_, (List.mem_cons_of_mem _ (List.mem_cons_of_mem _ List.mem_cons_self)), rfl⟩, (by dsimp only; omega), (by dsimp only; omega)⟩
end PPJ
