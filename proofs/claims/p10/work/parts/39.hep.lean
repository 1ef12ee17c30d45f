/-! THE HEAP: fields -/
def et_cl : et_C → Nat → Nat → Option Value
  | [], _, _ => none
  | e :: t, k, i => if e.1 = k ∧ e.2.1 = i then some e.2.2 else et_cl t k i
def et_fo (ty : FieldType) (p : et_P) : Bool := match ty, p with
  | .int, .inl _ => true
  | .boolean, .inl (lo, hi) => decide (0 ≤ lo) && decide (hi ≤ 1)
  | .long, .inr (.inl _) => true
  | .object _, .inr (.inr _) => true
  | .array _, .inr (.inr _) => true
  | _, _ => false
def et_kp (E : List et_N) (t lo hi : Nat) (e : Nat × Nat × Value) : Bool := (match et_rb E (.retAddr e.1) with
  | some (_, u) => !decide (u = t)
  | none => false) || (decide (e.2.1 < lo) || decide (hi < e.2.1))
def et_gf (T : List et_D) (E : List et_N) (C : et_C) (o idx pc : Nat) (L : eg_Ls) (st : List Value) (ck sk : Nat) : Option (List et_Y) := match st with
  | .retAddr k :: r => (match et_rb E (.retAddr k) with
    | some (nl, t) => if nl = 0 then (match T[t]?, (eg_fT.getD o []).lookup idx with
      | some (.inl (ci, ps)), some (cj, f, _) => if cj = ci then (match ps[f]? with
        | some p => if et_sk p = true then none else (match et_cl C k f with
          | some v => some [(E, C, pc + 3, L, et_cn E v :: r, ck, sk)]
          | none => if E.length < 4294967296 then some [(E ++ [(p, none)], (k, f, et_tk p E.length) :: C, pc + 3, L, et_tk p E.length :: r, ck, sk)] else none)
        | none => none) else none
      | _, _ => none) else none
    | none => none)
  | _ => none
def et_pf (T : List et_D) (M : et_M) (E : List et_N) (C : et_C) (o : Nat) (ini : Bool) (idx pc : Nat) (L : eg_Ls) (st : List Value) (ck sk : Nat) : Option (List et_Y) := match st with
  | v :: .retAddr k :: r => (match et_rb E (.retAddr k) with
    | some (nl, t) => if nl = 0 ∧ 2 ≤ t then (match T[t]?, (eg_fT.getD o []).lookup idx with
      | some (.inl (ci, ps)), some (cj, f, hh) => if cj = ci ∧ ((eg_fd ci f).2.2.2 = false ∨ (ini = true ∧ hh = none ∧ (eg_fd ci f).1 = eg_on o)) ∧ et_mm M t f = true ∧ (et_px (.inl (ci, ps)) f = false ∨ (ci = 11 ∧ f = 29 ∧ v = .int 0)) then (match ps[f]? with
        | some p => if et_ft E p v = true ∧ et_fo ((eg_yl.getD ci (fun _ => .int)) f) p = true then some [(E, (k, f, v) :: C.filter (et_kp E t f f), pc + 3, L, r, ck, sk)] else none
        | none => none) else none
      | _, _ => none) else none
    | none => none)
  | _ => none
section ETH
variable {T : List et_D} {M : et_M} {K : et_K} {R : List Value} {E : List et_N} {C : et_C} {o idx pc len ck sk i c0 s0 mc ms : Nat} {ini : Bool} {L L2 : eg_Ls} {st st2 : List Value} {G : eg_G} {l : List et_Y}
theorem et_cl_in {v : Value} : ∀ {C : et_C} {k i : Nat}, et_cl C k i = some v → (k, i, v) ∈ C
  | [], _, _, h => by cases h
  | e :: t, k, i, h => by
    unfold et_cl at h
    split at h
    · rename_i hc
      cases h
      obtain ⟨a, b, w⟩ := e
      obtain ⟨rfl, rfl⟩ := hc
      exact List.mem_cons_self
    · exact List.mem_cons_of_mem _ (et_cl_in h)
theorem et_at_u {G : eg_G} {m i : Nat} {c : eg_C} (h : ¬ i = m) : eg_at (eg_u G m c) i = eg_at G i := by
  unfold eg_at
  split
  · rfl
  · show (if i = m then c else G.1 i) = G.1 i
    rw [if_neg h]
theorem et_at_us {G : eg_G} {m : Nat} {c : eg_C} (h : eg_NC ≤ m) : eg_at (eg_u G m c) m = c := by
  unfold eg_at
  rw [if_neg (Nat.not_lt.mpr h)]
  show (if m = m then c else G.1 m) = c
  rw [if_pos rfl]
theorem et_tk_ok {p : et_P} {w : Value} (hw : et_v K p w) (hl : R.length = E.length) (hn : E.length < 4294967296) : et_vr (R ++ [w]) (et_tk p E.length) w := by
  obtain ⟨lo, hi⟩ | ⟨lo, hi⟩ | ⟨nl, t⟩ := p
  · obtain ⟨x, rfl, -⟩ := hw
    exact ⟨x, rfl, by rw [et_tkl hn]; exact et_new hl⟩
  · obtain ⟨x, rfl, -⟩ := hw
    exact ⟨x, rfl, by rw [et_tkL hn]; exact et_new hl⟩
  · rcases hw with ⟨-, rfl⟩ | ⟨-, a, rfl, -⟩
    · exact ⟨.inl rfl, et_new hl⟩
    · exact ⟨.inr ⟨a, rfl⟩, et_new hl⟩
/-- a fresh value of a spec -/
theorem et_jp {pc : Nat} {p : et_P} {w : Value} {r r2 : List Value} {D : et_C} (h : et_I T K R E C L r G L2 r2) (hn : E.length < 4294967296) (hw : et_v K p w) (hD : et_co (R ++ [w]) G D) (h1 : c0 ≤ ck) (h2 : s0 ≤ sk) :
    et_J T M K R G (some (pc, L2, w :: r2, G, c0, s0)) (E ++ [(p, none)], D, pc, L, et_tk p E.length :: r, ck, sk) := by
  obtain ⟨hH, hE, hC, hL, hs⟩ := h
  exact ⟨K, [w], L2, w :: r2, G, c0, s0, rfl, et_ex.rf, et_fr.rf, ⟨hH, et_eo_mono hE hw, hD, et_lr_mono hL, ⟨_, _, rfl, et_tk_ok hw hE.1 hn, et_sr_mono hs⟩⟩, h1, h2⟩
/-- a token that is an object -/
theorem et_obj {k t : Nat} {w : Value} (hb : et_rb E (.retAddr k) = some (0, t)) (hE : et_eo K R E) (hv : et_vr R (.retAddr k) w) : ∃ a, w = .ref a ∧ K a = some t ∧ R[k]? = some (.ref a) := by
  rcases et_rb_ok hb hE hv with ⟨h, -⟩ | ⟨-, a, e, h⟩
  · exact absurd h (by decide)
  · subst e
    exact ⟨a, rfl, h, hv.2⟩
theorem et_fo_ok {ty : FieldType} {p : et_P} {w : Value} (h : et_fo ty p = true) (hw : et_v K p w) : eg_fit ty w = true := by
  unfold et_fo at h
  split at h
  · obtain ⟨x, rfl, -⟩ := hw
    rfl
  · obtain ⟨x, rfl, x1, x2⟩ := hw
    rw [Bool.and_eq_true] at h
    have h1 := of_decide_eq_true h.1
    have h2 := of_decide_eq_true h.2
    have h3 : x.toInt = 0 ∨ x.toInt = 1 := by omega
    have h4 : x = 0 ∨ x = 1 := by
      rcases h3 with h3 | h3
      · exact .inl (Int32.toInt_inj.mp h3)
      · exact .inr (Int32.toInt_inj.mp h3)
    show (decide (x = 0) || decide (x = 1)) = true
    rcases h4 with rfl | rfl <;> decide
  · obtain ⟨x, rfl, -⟩ := hw
    rfl
  · rcases hw with ⟨-, rfl⟩ | ⟨-, a, rfl, -⟩ <;> rfl
  · rcases hw with ⟨-, rfl⟩ | ⟨-, a, rfl, -⟩ <;> rfl
  · cases h
theorem et_gf_ok (h : et_gf T E C o idx pc L st ck sk = some l) (hI : et_I T K R E C L st G L2 st2) (h1 : c0 ≤ ck) (h2 : s0 ≤ sk) : ∃ Y ∈ l, et_J T M K R G (eg_gf o idx pc L2 st2 G c0 s0) Y := by
  obtain ⟨hH, hE, hC, hL, hs⟩ := hI
  unfold et_gf at h
  split at h
  · rename_i k r
    split at h
    · rename_i nl t hb
      split at h
      · rename_i hn
        subst hn
        split at h
        · rename_i ci ps cj f hh hT hlk
          split at h
          · rename_i hc
            subst hc
            split at h
            · rename_i p hp
              obtain ⟨w, r2, rfl, hv, hr⟩ := hs
              obtain ⟨a, rfl, ha, hRa⟩ := et_obj hb hE hv
              obtain ⟨g1, g2, g3, d, hd, hcell, hcx⟩ := hH.2.2 a t ha
              rw [hT] at hd
              cases hd
              obtain ⟨fs, e, el, ef⟩ := hcell
              obtain ⟨x, hx, hxv⟩ := ef f p hp
              split at h
              · cases h
              rename_i hsk
              have hxv : et_v K p x := hxv.resolve_left hsk
              have hgf : eg_gf o idx pc L2 (.ref a :: r2) G c0 s0 = some (pc + 3, L2, x :: r2, G, c0, s0) := by
                unfold eg_gf
                rw [hlk]
                dsimp only
                rw [e]
                dsimp only
                rw [if_pos ⟨g1, rfl⟩, hx]
              rw [hgf]
              split at h
              · rename_i v hcl
                cases h
                obtain ⟨a2, w2, q1, -, q2, q3⟩ := hC _ (et_cl_in hcl)
                dsimp only at q1 q2 q3
                rw [hRa] at q1
                cases q1
                rw [e] at q2
                have q4 : fs[f]? = some w2 := q2
                rw [hx] at q4
                cases q4
                exact ⟨_, List.mem_cons_self, et_j0 ⟨hH, hE, hC, hL, _, _, rfl, et_cn_ok hE q3, hr⟩ h1 h2⟩
              · split at h
                · rename_i hlen
                  cases h
                  refine ⟨_, List.mem_cons_self, et_jp ⟨hH, hE, hC, hL, hr⟩ hlen hxv (fun q hq => ?_) h1 h2⟩
                  rcases List.mem_cons.mp hq with rfl | hq
                  · exact ⟨a, x, et_get_mono hRa, g1, by rw [e]; exact hx, et_tk_ok hxv hE.1 hlen⟩
                  · exact et_co_mono hC q hq
                · cases h
            · cases h
          · cases h
        · cases h
      · cases h
    · cases h
  · cases h
theorem et_cx_u {d : et_D} {a : Nat} {c c' : eg_C} (h : et_cx d a c) (hc : et_c K d c) (hp : ∀ i, et_px d i = true → et_pl c' i = et_pl c i) : et_cx d a c' := by
  obtain ⟨ci, ps⟩ | ⟨t, n, ss⟩ := d
  · refine ⟨fun e => ?_, fun e => ?_⟩
    · subst e
      rw [hp 1 (by rfl)]
      exact h.1 rfl
    · subst e
      rw [hp 29 (by rfl), hp 25 (by rfl), hp 26 (by rfl)]
      exact h.2 rfl
  · intro e hn m W ec
    subst e
    obtain ⟨y, e1, e2, e3, -⟩ := hc
    obtain ⟨v, hv⟩ := e3 0 (by omega)
    obtain ⟨y1, f | fl | fa | fb | fo⟩ := y
    · refine (h rfl hn y1 f e1).lo (fun i h1 h2 => ?_)
      have h3 := hp i (by
        unfold et_px
        simp only [decide_true, Bool.true_and, Bool.and_eq_true, decide_eq_true_eq]
        exact ⟨hn, h1, h2⟩)
      rw [ec, e1] at h3
      have h3 : (if i < m then some (Value.int (W i)) else none) = (if i < y1 then some (Value.int (f i)) else none) := h3
      have e2 : y1 = n := e2
      rw [if_pos (show i < y1 by omega)] at h3
      split at h3
      · exact Value.int.inj (Option.some.inj h3)
      · cases h3
    all_goals cases hv
theorem et_H_u {a t : Nat} {d : et_D} {c : eg_C} (hH : et_H T K G) (ha : K a = some t) (ht : 2 ≤ t) (hd : T[t]? = some d) (hc : et_c K d c) (hx : et_cx d a c) : et_H T K (eg_u G a c) := by
  refine ⟨hH.1, hH.2.1, fun a' t' ha' => ?_⟩
  obtain ⟨g1, g2, g3, d', hd', hc', hx'⟩ := hH.2.2 a' t' ha'
  refine ⟨g1, g2, g3, ?_⟩
  by_cases e : a' = a
  · subst e
    rw [ha] at ha'
    cases ha'
    rw [et_at_us (g3 ht)]
    exact ⟨d, hd, hc, hx⟩
  · rw [et_at_u e]
    exact ⟨d', hd', hc', hx'⟩
theorem et_fr_u {a t lo hi : Nat} {c : eg_C} (hH : et_H T K G) (ha : K a = some t) (ht : 2 ≤ t) (hM : ∀ i, lo ≤ i → i ≤ hi → et_mm M t i = true) (hc : ∀ i, ¬ (lo ≤ i ∧ i ≤ hi) → et_pl c i = et_pl (eg_at G a) i) : et_fr M K G (eg_u G a c) := by
  refine ⟨Nat.le_refl _, fun a' t' ha' i hi' => ?_⟩
  by_cases e : a' = a
  · subst e
    rw [ha] at ha'
    cases ha'
    rw [et_at_us ((hH.2.2 a' t ha).2.2.1 ht)]
    refine hc i (fun h => ?_)
    rw [hM i h.1 h.2] at hi'
    cases hi'
  · rw [et_at_u e]
theorem et_co_u {a t lo hi : Nat} {c : eg_C} (hH : et_H T K G) (hE : et_eo K R E) (hC : et_co R G C) (ha : K a = some t) (ht : 2 ≤ t) (hc : ∀ i, ¬ (lo ≤ i ∧ i ≤ hi) → et_pl c i = et_pl (eg_at G a) i) : et_co R (eg_u G a c) (C.filter (et_kp E t lo hi)) := fun e he => by
  obtain ⟨he, hk⟩ := List.mem_filter.mp he
  obtain ⟨b, w, q1, q0, q2, q3⟩ := hC e he
  refine ⟨b, w, q1, q0, ?_, q3⟩
  by_cases eb : b = a
  · subst eb
    rw [et_at_us ((hH.2.2 b t ha).2.2.1 ht), hc _ ?_]
    · exact q2
    · unfold et_kp at hk
      rw [Bool.or_eq_true, Bool.or_eq_true] at hk
      rcases hk with hk | hk | hk
      · split at hk
        · rename_i nl u hb
          exfalso
          have hv : et_vr R (.retAddr e.1) (.ref b) := ⟨.inr ⟨b, rfl⟩, q1⟩
          rcases et_rb_ok hb hE hv with ⟨-, h⟩ | ⟨-, a2, h, h3⟩
          · cases h
          · cases h
            rw [ha] at h3
            cases h3
            simp at hk
        · cases hk
      · exact fun h => absurd h.1 (Nat.not_le.mpr (of_decide_eq_true hk))
      · exact fun h => absurd h.2 (Nat.not_le.mpr (of_decide_eq_true hk))
  · rw [et_at_u eb]
    exact q2
theorem et_pf_ok (h : et_pf T M E C o ini idx pc L st ck sk = some l) (hI : et_I T K R E C L st G L2 st2) (h1 : c0 ≤ ck) (h2 : s0 ≤ sk) : ∃ Y ∈ l, et_J T M K R G (eg_pf o ini idx pc L2 st2 G c0 s0) Y := by
  obtain ⟨hH, hE, hC, hL, hs⟩ := hI
  unfold et_pf at h
  split at h
  · rename_i v k r
    split at h
    · rename_i nl t hb
      split at h
      · rename_i hn
        obtain ⟨rfl, ht⟩ := hn
        split at h
        · rename_i ci ps cj f hh hT hlk
          split at h
          · rename_i hc
            obtain ⟨rfl, hfin, hM, hpx⟩ := hc
            split at h
            · rename_i p hp
              split at h
              · rename_i hft
                cases h
                obtain ⟨w, _, rfl, hw, _, r2, rfl, hv, hr⟩ := hs
                obtain ⟨a, rfl, ha, hRa⟩ := et_obj hb hE hv
                obtain ⟨g1, g2, g3, d, hd, hcell, hcx⟩ := hH.2.2 a t ha
                rw [hT] at hd
                cases hd
                obtain ⟨fs, e, el, ef⟩ := hcell
                have hwp : et_v K p w := et_ft_ok hft.1 hE hH.2.1 hw
                have hlt : f < fs.length := by rw [el]; exact (List.getElem?_eq_some_iff.mp hp).1
                have hpf : eg_pf o ini idx pc L2 (w :: .ref a :: r2) G c0 s0 = some (pc + 3, L2, r2, eg_u G a (.inr (cj, fs.set f w)), c0, s0) := by
                  unfold eg_pf
                  rw [hlk]
                  dsimp only
                  rw [e]
                  dsimp only
                  rw [if_pos ⟨g3 ht, g1, rfl, hlt, et_fo_ok hft.2 hwp, hfin⟩]
                rw [hpf]
                have hpl : ∀ i, ¬ (f ≤ i ∧ i ≤ f) → et_pl (.inr (cj, fs.set f w)) i = et_pl (eg_at G a) i := fun i hi => by
                  rw [e]
                  show (fs.set f w)[i]? = fs[i]?
                  rw [List.getElem?_set]
                  split
                  · omega
                  · rfl
                have hH2 : et_H T K (eg_u G a (.inr (cj, fs.set f w))) := et_H_u hH ha ht hT ⟨_, rfl, by rw [List.length_set]; exact el, fun j p2 hj => by
                  rw [List.getElem?_set]
                  split
                  · rename_i e2
                    subst e2
                    rw [hp] at hj
                    cases hj
                    try rw [if_pos hlt]
                    exact ⟨w, rfl, .inr hwp⟩
                  · exact ef j p2 hj⟩ (by
                  rcases hpx with hpx | ⟨rfl, rfl, rfl⟩
                  · refine et_cx_u (K := K) hcx ⟨fs, e, el, ef⟩ (fun i hi => hpl i (fun h => ?_))
                    rw [show i = f by omega, hpx] at hi
                    cases hi
                  · have hw0 : w = .int 0 := hw
                    refine ⟨fun h => absurd h (by decide), fun _ s x y h1 _ _ h4 => ?_⟩
                    have h1 : (fs.set 29 w)[29]? = some (.int s) := h1
                    rw [List.getElem?_set_self hlt, hw0] at h1
                    cases h1
                    exact absurd rfl h4)
                refine ⟨_, List.mem_cons_self, K, [], L2, r2, _, c0, s0, rfl, et_ex.rf, et_fr_u hH ha ht (fun i i1 i2 => by rw [show i = f by omega]; exact hM) hpl, ?_, h1, h2⟩
                rw [List.append_nil]
                refine ⟨hH2, hE, fun q hq => ?_, hL, hr⟩
                rcases List.mem_cons.mp hq with rfl | hq
                · refine ⟨a, w, hRa, g1, ?_, hw⟩
                  rw [et_at_us (g3 ht)]
                  show (fs.set f w)[f]? = some w
                  rw [List.getElem?_set_self hlt]
                · exact et_co_u hH hE hC ha ht hpl q hq
              · cases h
            · cases h
          · cases h
        · cases h
      · cases h
    · cases h
  · cases h
end ETH
