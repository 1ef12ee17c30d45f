/-! ONE INSTRUCTION, AND ON: it is right -/
abbrev et_Wd : Type := et_K × List Value × eg_G
def et_go (sc : eg_Sc) (d k pc : Nat) (L : eg_Ls) (st : List Value) (G : eg_G) (ck sk : Nat) (Z : eg_O → Prop) : Prop := ∃ o, (∃ g, ∀ r, g ≤ r → eg_rn r sc d k pc L st G ck sk = some o) ∧ Z o
def et_le (M : et_M) (w w' : et_Wd) : Prop := et_ex w.1 w'.1 ∧ (∃ R1, w'.2.1 = w.2.1 ++ R1) ∧ et_fr M w.1 w.2.2 w'.2.2
def et_rs (R : List Value) (v : et_R) (u : eg_R) : Prop := match v with
  | .inl none => u = .inl none
  | .inl (some v) => ∃ w, u = .inl (some w) ∧ et_vr R v w
  | .inr x => u = .inr x
def et_end (T : List et_D) (w : et_Wd) (o : et_O) (u : eg_O) : Prop := u.2.1 = w.2.2 ∧ et_H T w.1 w.2.2 ∧ et_eo w.1 w.2.1 o.1 ∧ et_co w.2.1 w.2.2 o.2.1 ∧ et_rs w.2.1 o.2.2.1 u.1 ∧ u.2.2.1 ≤ o.2.2.2.1 ∧ u.2.2.2 ≤ o.2.2.2.2
def et_ms (m : Nat) (x0 x1 : Int32) : Prop := if m % 2 = 0 then x0.toInt < x1.toInt else x1.toInt < x0.toInt
def et_hd (T : List et_D) (M : et_M) (sc : eg_Sc) (d k : Nat) (h : et_L) (w : et_Wd) (Z : eg_O → Prop) : Prop := match h with
  | (pc, n0, hE, hC, hL, rs, m, hk, hs) => n0 + rs.length ≤ w.2.1.length ∧ ∀ (K' : et_K) (G' : eg_G) (Rf : List Value) (L2 : eg_Ls) (c s : Nat), et_ex w.1 K' → et_fr M w.1 w.2.2 G' → et_H T K' G' → Rf.length = rs.length → et_co (w.2.1.take n0 ++ Rf) G' hC → L2.length = hL.length → (∀ (i : Nat) (v : Value), hL[i]? = some (some v) → (∃ q ∈ rs, q.1 = i) ∨ ∃ x, L2[i]? = some (some x) ∧ et_vr (w.2.1.take n0 ++ Rf) v x) → (∀ (j i : Nat) (p : et_P), rs[j]? = some (i, p) → ∃ v, Rf[j]? = some v ∧ et_v K' p v ∧ L2[i]? = some (some v)) → c ≤ hk → s ≤ hs →
    (∃ x0 x1 : Int32, w.2.1[n0 + m / 2]? = some (.int x0) ∧ Rf[m / 2]? = some (.int x1) ∧ et_ms m x0 x1) → et_go sc d k pc L2 [] G' c s Z
def et_so (scr : Option Nat) (sc : eg_Sc) (R : List Value) : Prop := match scr with
  | none => sc = none
  | some j => ∃ (n : Nat) (f : Nat → Int32) (x : Int32), sc = some (n, f) ∧ R[j]? = some (.int x) ∧ 0 ≤ x.toInt ∧ x.toInt + 6 ≤ n
def et_Ok (T : List et_D) (M : et_M) (rec : et_Rec) : Prop := ∀ (hd : List et_L) (scr : Option Nat) (E : List et_N) (C : et_C) (d k pc : Nat) (L : eg_Ls) (st : List Value) (ck sk : Nat) (os : List et_O), rec hd scr E C d k pc L st ck sk = some os → ∀ (sc : eg_Sc) (w : et_Wd) (L2 : eg_Ls) (st2 : List Value) (c0 s0 d2 : Nat) (Z : eg_O → Prop), et_I T w.1 w.2.1 E C L st w.2.2 L2 st2 → c0 ≤ ck → s0 ≤ sk → d ≤ d2 → et_so scr sc w.2.1 → (∀ h ∈ hd, et_hd T M sc d2 k h w Z) → (∀ o ∈ os, ∀ (w' : et_Wd) (u : eg_O), et_le M w w' → et_end T w' o u → Z u) → et_go sc d2 k pc L2 st2 w.2.2 c0 s0 Z
/-- a contract holds -/
def et_cv (T : List et_D) (q : et_Co) : Prop := match q with
  | (mi, ps, M, es, d) => ∀ (w : et_Wd) (as : List Value) (d2 : Nat), et_H T w.1 w.2.2 → d ≤ d2 → as.length = ps.length → (∀ (i : Nat) (p : et_P) (v : Value), ps[i]? = some p → as[i]? = some v → et_v w.1 p v) → et_go none d2 mi 0 (eg_en (eg_mL mi) as) [] w.2.2 0 0 (fun u => ∃ e ∈ es, ∃ K' : et_K, et_ex w.1 K' ∧ et_fr M w.1 w.2.2 u.2.1 ∧ et_H T K' u.2.1 ∧ (match e.1 with
    | .inl (some p) => ∃ v, u.1 = .inl (some v) ∧ et_v K' p v
    | .inl none => u.1 = .inl none
    | .inr x => u.1 = .inr x) ∧ u.2.2.1 ≤ e.2.1 ∧ u.2.2.2 ≤ e.2.2)
section ETN
variable {T : List et_D} {M : et_M} {Ks : List et_Co} {K : et_K} {R : List Value} {E : List et_N} {C : et_C} {L L2 : eg_Ls} {st st2 : List Value} {G : eg_G} {w w1 w2 : et_Wd} {Z : eg_O → Prop} {sc : eg_Sc} {scr : Option Nat} {rec : et_Rec}
theorem et_fr.tr {K K' : et_K} {G G1 G2 : eg_G} (h : et_fr M K G G1) (hx : et_ex K K') (h' : et_fr M K' G1 G2) : et_fr M K G G2 := ⟨Nat.le_trans h.1 h'.1, fun a t ha i hi => (h'.2 a t (hx a t ha) i hi).trans (h.2 a t ha i hi)⟩
theorem et_ex.tr {K K' K2 : et_K} (h : et_ex K K') (h' : et_ex K' K2) : et_ex K K2 := fun a t ha => h' a t (h a t ha)
theorem et_le.rf : et_le M w w := ⟨et_ex.rf, ⟨[], (List.append_nil _).symm⟩, et_fr.rf⟩
theorem et_le.tr (h : et_le M w w1) (h' : et_le M w1 w2) : et_le M w w2 := by
  obtain ⟨a1, ⟨R1, a2⟩, a3⟩ := h
  obtain ⟨b1, ⟨R2, b2⟩, b3⟩ := h'
  exact ⟨a1.tr b1, ⟨R1 ++ R2, by rw [b2, a2, List.append_assoc]⟩, a3.tr a1 b3⟩
theorem et_vr_app {v x : Value} : ∀ {R : List Value}, et_vr R v x → ∀ R1 : List Value, et_vr (R ++ R1) v x
  | _, h, [] => by rw [List.append_nil]; exact h
  | R, h, y :: t => by
    have h2 := et_vr_app (et_vr_mono (x := y) h) t
    rw [List.append_assoc] at h2
    exact h2
theorem et_sr_app1 {a c : List Value} : ∀ {R : List Value}, et_sr R a c → ∀ R1 : List Value, et_sr (R ++ R1) a c
  | _, h, [] => by rw [List.append_nil]; exact h
  | R, h, y :: t => by
    have h2 := et_sr_app1 (et_sr_mono (x := y) h) t
    rw [List.append_assoc] at h2
    exact h2
theorem et_lr_app1 {a c : eg_Ls} : ∀ {R : List Value}, et_lr R a c → ∀ R1 : List Value, et_lr (R ++ R1) a c
  | _, h, [] => by rw [List.append_nil]; exact h
  | R, h, y :: t => by
    have h2 := et_lr_app1 (et_lr_mono (x := y) h) t
    rw [List.append_assoc] at h2
    exact h2
theorem et_get_app {k : Nat} {x : Value} (h : R[k]? = some x) (R1 : List Value) : (R ++ R1)[k]? = some x := by
  rw [List.getElem?_append_left (List.getElem?_eq_some_iff.mp h).1]
  exact h
theorem et_so_app (h : et_so scr sc R) (R1 : List Value) : et_so scr sc (R ++ R1) := by
  cases scr with
  | none => exact h
  | some j =>
    obtain ⟨n, f, x, h1, h2, h3⟩ := h
    exact ⟨n, f, x, h1, et_get_app h2 R1, h3⟩
theorem et_hd_le {d k : Nat} {h : et_L} (hh : et_hd T M sc d k h w Z) (hl : et_le M w w1) : et_hd T M sc d k h w1 Z := by
  obtain ⟨pc, n0, hE, hC, hL, rs, m, hk, hs⟩ := h
  obtain ⟨a1, ⟨R1, a2⟩, a3⟩ := hl
  obtain ⟨b1, b2⟩ := hh
  refine ⟨by rw [a2, List.length_append]; omega, fun K' G' Rf L2 c s g1 g2 g3 g4 g5 g6 g7 g7b g8 g9 g10 => ?_⟩
  have e : w1.2.1.take n0 = w.2.1.take n0 := by rw [a2, List.take_append_of_le_length (by omega)]
  rw [e] at g5 g7
  refine b2 K' G' Rf L2 c s (a1.tr g1) (a3.tr a1 g2) g3 g4 g5 g6 g7 g7b g8 g9 ?_
  obtain ⟨x0, x1, q1, q2, q3⟩ := g10
  have hlt : n0 + m / 2 < w.2.1.length := by
    have := (List.getElem?_eq_some_iff.mp q2).1
    omega
  refine ⟨x0, x1, ?_, q2, q3⟩
  rw [a2, List.getElem?_append_left hlt] at q1
  exact q1
theorem et_goS {d k pc pc' ck sk ck' sk' : Nat} {L' : eg_Ls} {st' : List Value} {G' : eg_G} (e : ∀ r, eg_one (eg_rn r) sc d k pc L st G ck sk = eg_rn r sc d k pc' L' st' G' ck' sk') (h : et_go sc d k pc' L' st' G' ck' sk' Z) : et_go sc d k pc L st G ck sk Z := by
  obtain ⟨o, ⟨g, hg⟩, hZ⟩ := h
  refine ⟨o, ⟨g + 1, fun r hr => ?_⟩, hZ⟩
  cases r with
  | zero => exact absurd hr (by omega)
  | succ r =>
    show eg_one (eg_rn r) sc d k pc L st G ck sk = _
    rw [e r]
    exact hg r (by omega)
theorem et_goR {d k pc ck sk : Nat} {u : eg_O} (e : ∀ r, eg_one (eg_rn r) sc d k pc L st G ck sk = some u) (h : Z u) : et_go sc d k pc L st G ck sk Z := by
  refine ⟨u, ⟨1, fun r hr => ?_⟩, h⟩
  cases r with
  | zero => exact absurd hr (by omega)
  | succ r => exact e r
/-- a call -/
theorem et_goC {d d' k pc mi ck sk : Nat} {as2 r2 : List Value} (e : ∀ r, eg_one (eg_rn r) sc d k pc L st G ck sk = eg_bk (eg_rn r) sc d k pc L r2 ck sk (eg_rn r none d' mi 0 (eg_en (eg_mL mi) as2) [] G 0 0)) (h : et_go none d' mi 0 (eg_en (eg_mL mi) as2) [] G 0 0 (fun u => ∃ o, (∃ g, ∀ r, g ≤ r → eg_bk (eg_rn r) sc d k pc L r2 ck sk (some u) = some o) ∧ Z o)) : et_go sc d k pc L st G ck sk Z := by
  obtain ⟨u, ⟨g, hg⟩, o, ⟨g2, hg2⟩, hZ⟩ := h
  refine ⟨o, ⟨g + g2 + 1, fun r hr => ?_⟩, hZ⟩
  cases r with
  | zero => exact absurd hr (by omega)
  | succ r =>
    show eg_one (eg_rn r) sc d k pc L st G ck sk = _
    rw [e r, hg r (by omega)]
    exact hg2 r (by omega)
theorem et_bd_mem {α β : Type} {f : α → Option (List β)} : ∀ {l : List α} {m : List β}, et_bd f l = some m → ∀ {a : α}, a ∈ l → ∃ r, f a = some r ∧ ∀ x ∈ r, x ∈ m
  | [], _, _, _, h => (nomatch h)
  | b :: t, m, hb, a, ha => by
    unfold et_bd at hb
    split at hb
    · cases hb
    · rename_i l hl
      split at hb
      · cases hb
      · rename_i m2 hm
        cases hb
        rcases List.mem_cons.mp ha with rfl | ha
        · exact ⟨l, hl, fun x hx => List.mem_append_left _ hx⟩
        · obtain ⟨r, h1, h2⟩ := et_bd_mem hm ha
          exact ⟨r, h1, fun x hx => List.mem_append_right _ (h2 x hx)⟩
theorem et_rr_ok {ins : Instr} {ret : Option FieldType} {v : Option Value} (h : et_rr E ins ret st = some v) (hE : et_eo K R E) (hs : et_sr R st st2) : ∃ u, eg_rr ins ret st2 = some u ∧ et_rs R (.inl v) (.inl u) := by
  unfold et_rr at h
  split at h
  · cases h
    have e : st2 = [] := hs
    rw [e]
    exact ⟨none, rfl, rfl⟩
  · obtain ⟨x, r2, rfl, hv, e⟩ := hs
    have e : r2 = [] := e
    subst e
    split at h
    · rename_i p hb
      cases h
      have hv2 := hv
      obtain ⟨y, rfl, -⟩ := et_ib_ok (a := p.1) (b := p.2) hb hE hv
      refine ⟨some (.int y), ?_, _, rfl, hv2⟩
      show (if eg_nr .int y = true then some (some (Value.int y)) else none) = _
      rw [if_pos (show eg_nr .int y = true from decide_eq_true rfl)]
    · cases h
  · obtain ⟨x, r2, rfl, hv, e⟩ := hs
    have e : r2 = [] := e
    subst e
    split at h
    · rename_i a b hb
      split at h
      · rename_i hc
        cases h
        have hv2 := hv
        obtain ⟨y, rfl, y1, y2⟩ := et_ib_ok hb hE hv
        refine ⟨some (.int y), ?_, _, rfl, hv2⟩
        show (if eg_nr .boolean y = true then some (some (Value.int y)) else none) = _
        have h3 : y.toInt = 0 ∨ y.toInt = 1 := by omega
        have h4 : y = 0 ∨ y = 1 := by
          rcases h3 with h3 | h3
          · exact .inl (Int32.toInt_inj.mp h3)
          · exact .inr (Int32.toInt_inj.mp h3)
        have h5 : eg_nr .boolean y = true := by
          rcases h4 with rfl | rfl <;> decide +kernel
        rw [if_pos h5]
      · cases h
    · cases h
  · obtain ⟨x, r2, rfl, hv, e⟩ := hs
    have e : r2 = [] := e
    subst e
    split at h
    · rename_i p hb
      cases h
      have hv2 := hv
      obtain ⟨y, rfl, -⟩ := et_lb_ok (a := p.1) (b := p.2) hb hE hv
      exact ⟨some (.long y), rfl, _, rfl, hv2⟩
    · cases h
  · obtain ⟨x, r2, rfl, hv, e⟩ := hs
    have e : r2 = [] := e
    subst e
    split at h
    · rename_i v hk
      cases h
      have hv2 := hv
      have hx : x = .null ∨ ∃ a, x = .ref a := by
        cases v <;> first | (cases hk; done) | exact .inl hv | exact .inr ⟨_, hv⟩ | exact hv.1
      rcases hx with rfl | ⟨a, rfl⟩
      · exact ⟨_, rfl, _, rfl, hv2⟩
      · exact ⟨_, rfl, _, rfl, hv2⟩
    · cases h
  · obtain ⟨x, r2, rfl, hv, e⟩ := hs
    have e : r2 = [] := e
    subst e
    split at h
    · rename_i v hk
      cases h
      have hv2 := hv
      have hx : x = .null ∨ ∃ a, x = .ref a := by
        cases v <;> first | (cases hk; done) | exact .inl hv | exact .inr ⟨_, hv⟩ | exact hv.1
      rcases hx with rfl | ⟨a, rfl⟩
      · exact ⟨_, rfl, _, rfl, hv2⟩
      · exact ⟨_, rfl, _, rfl, hv2⟩
    · cases h
  · cases h
theorem et_rr_no {ins : Instr} {ret : Option FieldType} {st : List Value} (h : ¬ et_rt ins = true) : eg_rr ins ret st = none := by
  cases ins <;> first | exact absurd rfl h | rfl
theorem et_ca_n {v : Value} (h : eg_ca v = true) : ¬ v = .ref 150 := fun e => by
  rw [e] at h
  exact absurd h (by decide)
theorem et_ns_ok {ins : Instr} {pc ck sk : Nat} (h : et_ns E scr ins st = true) (hso : et_so scr sc R) (hH : et_H T K G) (hE : et_eo K R E) (hs : et_sr R st st2) : eg_sc sc ins pc L2 st2 G ck sk = none := by
  cases scr with
  | none =>
    have e : sc = none := hso
    rw [e]
    rfl
  | some j =>
    obtain ⟨n, f, x, e, -⟩ := hso
    subst e
    unfold et_ns at h
    dsimp only at h
    split at h
    · split at h
      · rename_i u v r
        obtain ⟨u2, _, rfl, hu, v2, r2, rfl, hv, hr⟩ := hs
        have h9 := et_ca_n (et_cq_ok h hH hE hv)
        unfold eg_sc
        split
        · rename_i hi heq
          cases heq
          rw [if_neg (fun h => h9 (by rw [h.1]))]
        · rename_i heq _
          cases heq
        · rfl
      · cases h
    · split at h
      · rename_i v r
        obtain ⟨v2, r2, rfl, hv, hr⟩ := hs
        have h9 := et_ca_n (et_cq_ok h hH hE hv)
        unfold eg_sc
        split
        · rename_i heq _
          cases heq
        · rename_i heq
          cases heq
          rw [if_neg (fun h => h9 (by rw [h]))]
        · rfl
      · cases h
    · rename_i h1 h2
      unfold eg_sc
      split
      · exact absurd rfl h1
      · exact absurd rfl h2
      · rfl
end ETN
