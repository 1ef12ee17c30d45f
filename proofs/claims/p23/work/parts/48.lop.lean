section
/-! LOOPS, AND RUNS -/
section ETQ
variable {T : List et_D} {M : et_M} {Ks : List et_Co} {an : Nat → Nat → Option et_A} {K : et_K} {R : List Value} {E : List et_N} {C : et_C} {L L2 : eg_Ls} {st st2 : List Value} {G : eg_G} {w w1 w2 : et_Wd} {Z : eg_O → Prop} {sc : eg_Sc} {scr : Option Nat} {rec : et_Rec} {hd : List et_L} {os : List et_O} {d k pc ck sk c0 s0 d2 : Nat}
theorem et_lr_get : ∀ {L L2 : eg_Ls} {i : Nat} {o : Option Value}, et_lr R L L2 → L[i]? = some o → ∃ c, L2[i]? = some c ∧ et_or R o c
  | [], _, _, _, _, h => by cases h
  | _ :: _, _, 0, _, ⟨x, r, e, hv, _⟩, hk => by
    subst e
    cases hk
    exact ⟨x, rfl, hv⟩
  | _ :: _, _, i + 1, _, ⟨x, r, e, _, h⟩, hk => by
    subst e
    exact et_lr_get (i := i) h hk
theorem et_lr_of : ∀ {L L2 : eg_Ls}, L2.length = L.length → (∀ (i : Nat) (o : Option Value), L[i]? = some o → ∃ c, L2[i]? = some c ∧ et_or R o c) → et_lr R L L2
  | [], L2, hl, _ => List.length_eq_zero_iff.mp hl
  | o :: t, L2, hl, h => by
    cases L2 with
    | nil => cases hl
    | cons c s =>
      obtain ⟨c', e, ho⟩ := h 0 o rfl
      cases e
      exact ⟨c, s, rfl, ho, et_lr_of (Nat.succ.inj hl) (fun i o hi => h (i + 1) o hi)⟩
theorem et_fa_vals : ∀ {rs : List (Nat × et_P)}, et_fa E L rs = true → et_lr R L L2 → et_eo K R E → (∀ a, a < 36 → K a = some 0) → ∃ Rf : List Value, Rf.length = rs.length ∧ ∀ (j i : Nat) (p : et_P), rs[j]? = some (i, p) → ∃ v, Rf[j]? = some v ∧ et_v K p v ∧ L2[i]? = some (some v)
  | [], _, _, _, _ => ⟨[], rfl, fun _ _ _ h => by cases h⟩
  | q :: t, h, hL, hE, hW => by
    unfold et_fa at h
    rw [List.all_cons, Bool.and_eq_true] at h
    obtain ⟨Rf, h1, h2⟩ := et_fa_vals (rs := t) h.2 hL hE hW
    have h3 := h.1
    split at h3
    · rename_i v hv
      rw [Bool.and_eq_true] at h3
      obtain ⟨c, e, x, ex, hx⟩ := et_lr_get hL hv
      subst ex
      refine ⟨x :: Rf, by rw [List.length_cons, List.length_cons, h1], fun j i p hj => ?_⟩
      cases j with
      | zero =>
        cases hj
        exact ⟨x, rfl, et_ft_ok h3.1 hE hW hx, e⟩
      | succ j => exact h2 j i p hj
    · cases h3
theorem et_rp_E : ∀ {rs : List (Nat × et_P)} {E F : List et_N} {L L' : eg_Ls}, et_rp E L rs = some (F, L') → F = E ++ rs.map (fun q => (q.2, none)) ∧ L'.length = L.length ∧ ∀ i : Nat, (¬ ∃ q ∈ rs, q.1 = i) → L'[i]? = L[i]?
  | [], E, F, L, L', h => by
    cases h
    exact ⟨(List.append_nil _).symm, rfl, fun _ _ => rfl⟩
  | (i0, p) :: t, E, F, L, L', h => by
    unfold et_rp at h
    split at h
    · obtain ⟨h1, h2, h3⟩ := et_rp_E h
      refine ⟨by rw [h1, List.append_assoc]; rfl, by rw [h2, List.length_set], fun i hi => ?_⟩
      rw [h3 i (fun ⟨q, hq, e⟩ => hi ⟨q, List.mem_cons_of_mem _ hq, e⟩), List.getElem?_set]
      split
      · rename_i e
        exact absurd ⟨(i0, p), List.mem_cons_self, e⟩ hi
      · rfl
    · cases h
theorem et_rp_lr : ∀ {rs : List (Nat × et_P)} {R Rf : List Value} {E F : List et_N} {L L' L2 : eg_Ls}, et_rp E L rs = some (F, L') → R.length = E.length → F.length < 4294967296 → Rf.length = rs.length → L2.length = L.length → (∀ (i : Nat) (o : Option Value), L[i]? = some o → (∃ q ∈ rs, q.1 = i) ∨ ∃ c, L2[i]? = some c ∧ et_or (R ++ Rf) o c) → (∀ (j i : Nat) (p : et_P), rs[j]? = some (i, p) → ∃ v, Rf[j]? = some v ∧ et_v K p v ∧ L2[i]? = some (some v)) → et_lr (R ++ Rf) L' L2
  | [], R, Rf, E, F, L, L', L2, h, hR, hF, hl, hL, ho, hv => by
    cases h
    refine et_lr_of hL (fun i o hi => ?_)
    rcases ho i o hi with ⟨q, hq, -⟩ | h
    · cases hq
    · exact h
  | (i0, p) :: t, R, [], E, F, L, L', L2, h, hR, hF, hl, hL, ho, hv => by cases hl
  | (i0, p) :: t, R, v :: Rf, E, F, L, L', L2, h, hR, hF, hl, hL, ho, hv => by
    have hF0 := (et_rp_E h).1
    unfold et_rp at h
    split at h
    · rename_i hlt
      obtain ⟨v', e1, e2, e3⟩ := hv 0 i0 p rfl
      cases e1
      have hE1 : E.length < 4294967296 := by
        rw [hF0, List.length_append] at hF
        omega
      have ea : R ++ v :: Rf = (R ++ [v]) ++ Rf := by rw [List.append_assoc]; rfl
      rw [ea] at ho ⊢
      refine et_rp_lr (R := R ++ [v]) (L2 := L2) h (by rw [List.length_append, List.length_append, hR]; rfl) hF (Nat.succ.inj hl) (by rw [List.length_set]; exact hL) (fun i o hi => ?_) (fun j i p' hj => hv (j + 1) i p' hj)
      rw [List.getElem?_set] at hi
      split at hi
      · rename_i e
        subst e
        try rw [if_pos hlt] at hi
        cases hi
        exact .inr ⟨some v, e3, v, rfl, et_vr_app (et_tk_ok e2 hR hE1) Rf⟩
      · rename_i e
        rcases ho i o hi with ⟨q, hq, e9⟩ | h9
        · rcases List.mem_cons.mp hq with rfl | hq
          · exact absurd e9 e
          · exact .inl ⟨q, hq, e9⟩
        · exact .inr h9
    · cases h
theorem et_eo_rp {rs : List (Nat × et_P)} : ∀ {R Rf : List Value} {E : List et_N}, et_eo K R E → Rf.length = rs.length → (∀ (j i : Nat) (p : et_P), rs[j]? = some (i, p) → ∃ v, Rf[j]? = some v ∧ et_v K p v) → et_eo K (R ++ Rf) (E ++ rs.map (fun q => (q.2, none))) := by
  induction rs with
  | nil =>
    intro R Rf E hE hl _
    rw [List.length_eq_zero_iff.mp hl, List.map_nil, List.append_nil, List.append_nil]
    exact hE
  | cons q t ih =>
    intro R Rf E hE hl hv
    cases Rf with
    | nil => cases hl
    | cons v Rf =>
      obtain ⟨i, p⟩ := q
      obtain ⟨v', e1, e2⟩ := hv 0 i p rfl
      cases e1
      have h1 := ih (et_eo_mono hE e2) (Nat.succ.inj hl) (fun j i p hj => hv (j + 1) i p hj)
      rw [List.append_assoc, List.append_assoc] at h1
      exact h1
theorem et_co_app {C : et_C} (h : et_co R G C) (R1 : List Value) : et_co (R ++ R1) G C := fun e he => by
  obtain ⟨a, x, q1, q0, q2, q3⟩ := h e he
  exact ⟨a, x, et_get_app q1 R1, q0, q2, et_vr_app q3 R1⟩
theorem et_tk_take {n : Nat} {v x : Value} {Rf : List Value} (h : et_tb n v = true) (hn : n ≤ R.length) (hv : et_vr R v x) : et_vr (R.take n ++ Rf) v x := by
  have key : ∀ (k : Nat) (y : Value), k < n → R[k]? = some y → (R.take n ++ Rf)[k]? = some y := fun k y hk hy => by
    rw [List.getElem?_append_left (by rw [List.length_take]; omega), List.getElem?_take, if_pos hk]
    exact hy
  cases v
  case float k =>
    obtain ⟨y, e, hy⟩ := hv
    exact ⟨y, e, key _ _ (of_decide_eq_true h) hy⟩
  case double k =>
    obtain ⟨y, e, hy⟩ := hv
    exact ⟨y, e, key _ _ (of_decide_eq_true h) hy⟩
  case retAddr k => exact ⟨hv.1, key _ _ (of_decide_eq_true h) hv.2⟩
  all_goals exact hv
theorem et_lr_fg : ∀ {L L2 : eg_Ls} (i : Nat), et_lr R L L2 → et_lr R (L.set i none) L2
  | [], _, _, h => h
  | _ :: _, _, 0, ⟨x, r, e, _, h⟩ => ⟨x, r, e, trivial, h⟩
  | _ :: _, _, i + 1, ⟨x, r, e, hx, h⟩ => ⟨x, r, e, hx, et_lr_fg i h⟩
theorem et_dl_lr : ∀ {ds : List Nat} {L L2 : eg_Ls}, et_lr R L L2 → et_lr R (et_dl L ds) L2
  | [], _, _, h => h
  | i :: t, _, _, h => et_dl_lr (ds := t) (et_lr_fg i h)
/-- a back edge -/
theorem et_hc_ok {h : et_L} (hc : et_hc h E C L ck sk = true) (hpc : h.1 = pc) (hI : et_I T w.1 w.2.1 E C L [] w.2.2 L2 []) (h1 : c0 ≤ ck) (h2 : s0 ≤ sk) (hh : et_hd T M sc d2 k h w Z) : et_go sc d2 k pc L2 [] w.2.2 c0 s0 Z := by
  obtain ⟨p0, n0, hE, hC, hL, rs, m, hk, hs⟩ := h
  have hpc : p0 = pc := hpc
  subst hpc
  obtain ⟨gH, gE, gC, gL, -⟩ := hI
  unfold et_hc at hc
  dsimp only at hc
  simp only [Bool.and_eq_true] at hc
  obtain ⟨⟨a1, a2⟩, a3, a4, a5, a6, a7⟩ := hc
  have a1 := of_decide_eq_true a1
  have a5 := of_decide_eq_true a5
  have a6 := of_decide_eq_true a6
  obtain ⟨hn, hh⟩ := hh
  have hn0 : n0 ≤ w.2.1.length := by omega
  obtain ⟨Rf, b1, b2⟩ := et_fa_vals a3 gL gE gH.2.1
  refine hh w.1 w.2.2 Rf L2 c0 s0 et_ex.rf et_fr.rf gH b1 (fun e he => ?_) (by rw [et_lr_len gL]; exact a1) (fun i v hi => ?_) b2 (Nat.le_trans h1 a5) (Nat.le_trans h2 a6) ?_
  · have h9 := List.all_eq_true.mp a4 e he
    simp only [Bool.and_eq_true] at h9
    obtain ⟨q1, q2, q3⟩ := h9
    have q1 : e ∈ C := List.contains_iff_mem.mp q1
    obtain ⟨a, x, r1, r0, r2, r3⟩ := gC e q1
    refine ⟨a, x, ?_, r0, r2, et_tk_take q3 hn0 r3⟩
    have q2 := of_decide_eq_true q2
    rw [List.getElem?_append_left (by rw [List.length_take]; omega), List.getElem?_take, if_pos q2]
    exact r1
  · have hil : i < L.length := by
      have := (List.getElem?_eq_some_iff.mp hi).1
      omega
    have h9 := List.all_eq_true.mp a2 i (List.mem_range.mpr hil)
    rw [Bool.or_eq_true] at h9
    rcases h9 with h9 | h9
    · obtain ⟨q, hq, hq2⟩ := List.any_eq_true.mp h9
      exact .inl ⟨q, hq, eq_of_beq hq2⟩
    · rw [hi] at h9
      dsimp only at h9
      rw [Bool.and_eq_true] at h9
      have hLi := of_decide_eq_true h9.1
      obtain ⟨c, e, x, ex, hx⟩ := et_lr_get gL hLi
      subst ex
      exact .inr ⟨x, e, et_tk_take h9.2 hn0 hx⟩
  · split at a7
    · rename_i i p hrs
      split at a7
      · rename_i kk hLi
        split at a7
        · rename_i sp j c hEk
          rw [Bool.and_eq_true] at a7
          have g1 := of_decide_eq_true a7.1
          subst g1
          obtain ⟨v, v1, v2, v3⟩ := b2 _ i p hrs
          obtain ⟨cc, e, x, ex, hx⟩ := et_lr_get gL hLi
          subst ex
          rw [e] at v3
          cases v3
          obtain ⟨x1, ex1, hx1⟩ := hx
          subst ex1
          obtain ⟨y, y1, -, y3⟩ := gE.2 _ _ _ hEk
          obtain ⟨z, z0, z1, z2, z3⟩ := y3 _ _ rfl
          rw [hx1] at y1
          cases y1
          cases z1
          refine ⟨z0, x1, z2, v1, ?_⟩
          have g3 := a7.2
          unfold et_ms
          split
          · rename_i hm
            rw [if_pos hm] at g3
            have := of_decide_eq_true g3
            omega
          · rename_i hm
            rw [if_neg hm] at g3
            have := of_decide_eq_true g3
            omega
        · cases a7
      · cases a7
    · cases a7
def et_mu (m : Nat) (v : Option Value) : Nat := match v with
  | some (.int x) => if m % 2 = 0 then (et_mx - x.toInt).toNat else (x.toInt - et_mn).toNat
  | _ => 0
theorem et_mu_lt {m : Nat} {x0 x1 : Int32} (h : et_ms m x0 x1) : et_mu m (some (.int x1)) < et_mu m (some (.int x0)) := by
  unfold et_ms at h
  unfold et_mu
  dsimp only
  have h0 := et_any x0
  have h1 := et_any x1
  split at h
  · rename_i hm
    rw [if_pos hm, if_pos hm]
    omega
  · rename_i hm
    rw [if_neg hm, if_neg hm]
    omega
theorem et_spl_ok {v : Value} {x : Int32} (hE : et_eo K R E) (hv : et_vr R v (.int x)) : ∀ (n : Nat) (j : Int), j ≤ x.toInt → x.toInt < j + n → ∃ F ∈ et_spl E v n j, et_eo K R F
  | 0, j, h1, h2 => absurd h2 (by omega)
  | n + 1, j, h1, h2 => by
    unfold et_spl
    by_cases e : x.toInt = j
    · obtain ⟨F, hF, hF2⟩ := et_nw_ok (lo := j) (hi := j) hE hv (by omega) (by omega)
      rw [hF]
      exact ⟨F, List.mem_append_left _ List.mem_cons_self, hF2⟩
    · obtain ⟨F, hF, hF2⟩ := et_spl_ok hE hv n (j + 1) (by omega) (by omega)
      exact ⟨F, List.mem_append_right _ hF, hF2⟩
theorem et_one_ok (hr : et_Ok T M rec) (hK : ∀ q ∈ Ks, et_cv T q) : et_Ok T M (et_one T M Ks an rec) := by
  intro hd scr E C d k pc L st ck sk os h sc w L2 st2 c0 s0 d2 Z hI h1 h2 hd2 hso hh hZ
  unfold et_one at h
  split at h
  · rename_i hx hf
    split at h
    · rename_i hc
      cases h
      obtain ⟨rfl, hc⟩ := hc
      have hst : st2 = [] := hI.2.2.2.2
      subst hst
      have hp9 : (hx.1 == pc) = true := List.find?_some (p := fun h : et_L => h.1 == pc) hf
      exact et_hc_ok hc (eq_of_beq hp9) hI h1 h2 (hh hx (List.mem_of_find?_eq_some hf))
    · cases h
  · split at h
    · rename_i rs m Ml ds han
      split at h
      · split at h
        · rename_i v hLv
          split at h
          · rename_i lo hi hb
            obtain ⟨gH, gE, gC, gL, gs⟩ := hI
            obtain ⟨c, e, y, ey, hy⟩ := et_lr_get gL hLv
            obtain ⟨x, rfl, x1, x2⟩ := et_ib_ok hb gE hy
            obtain ⟨F, hF, hF2⟩ := et_spl_ok gE hy (hi - lo + 1).toNat lo x1 (by omega)
            obtain ⟨os1, q1, q2⟩ := et_bd_mem h hF
            exact et_ins_ok hr hK _ _ _ _ _ _ _ _ _ _ _ _ q1 sc w L2 st2 c0 s0 d2 Z ⟨gH, hF2, gC, gL, gs⟩ h1 h2 hd2 hso hh (fun o ho => hZ o (q2 o ho))
          · cases h
        · cases h
      split at h
      · rename_i F L' hrp
        split at h
        · rename_i hc
          obtain ⟨rfl, hfa, hFl⟩ := hc
          have hst : st2 = [] := hI.2.2.2.2
          subst hst
          obtain ⟨gH, gE, gC, gL, -⟩ := hI
          have gL := et_dl_lr (ds := ds) gL
          obtain ⟨rF, rL, rO⟩ := et_rp_E hrp
          have hCk : et_co w.2.1 w.2.2 (et_kpM E Ml C) := fun e he => gC e (List.mem_filter.mp he).1
          have claim : ∀ (N : Nat) (K' : et_K) (G' : eg_G) (Rf : List Value) (L3 : eg_Ls) (c s : Nat), et_mu m Rf[m / 2]? ≤ N → et_ex w.1 K' → et_fr M w.1 w.2.2 G' → et_H T K' G' → Rf.length = rs.length → et_co (w.2.1 ++ Rf) G' (et_kpM E Ml C) → L3.length = L'.length → (∀ (i : Nat) (v : Value), L'[i]? = some (some v) → (∃ q ∈ rs, q.1 = i) ∨ ∃ x, L3[i]? = some (some x) ∧ et_vr (w.2.1 ++ Rf) v x) → (∀ (j i : Nat) (p : et_P), rs[j]? = some (i, p) → ∃ v, Rf[j]? = some v ∧ et_v K' p v ∧ L3[i]? = some (some v)) → c ≤ ck → s ≤ sk → et_go sc d2 k pc L3 [] G' c s Z := by
            intro N
            induction N with
            | zero =>
              intro K' G' Rf L3 c s hmu g1 g2 g3 g4 g5 g6 g7 g8 g9 g10
              have hle : et_le M w (K', w.2.1 ++ Rf, G') := ⟨g1, ⟨Rf, rfl⟩, g2⟩
              refine et_ins_ok hr hK _ _ _ _ _ _ _ _ _ _ _ _ h sc (K', w.2.1 ++ Rf, G') L3 [] c s d2 Z ⟨g3, by rw [rF]; exact et_eo_rp (et_eo_ex g1 gE) g4 (fun j i p hj => by obtain ⟨v, v1, v2, -⟩ := g8 j i p hj; exact ⟨v, v1, v2⟩), g5, et_rp_lr (K := K') hrp gE.1 hFl g4 (by rw [g6, rL]) (fun i o hi => ?_) g8, rfl⟩ g9 g10 hd2 (et_so_app hso Rf) (fun h9 hm => ?_) (fun o ho w' u hl hen => hZ o ho w' u (hle.tr hl) hen)
              · by_cases hq : ∃ q ∈ rs, q.1 = i
                · exact .inl hq
                · have hil : i < L3.length := by
                    have := (List.getElem?_eq_some_iff.mp hi).1
                    rw [g6, rL]
                    exact this
                  cases o with
                  | none => exact .inr ⟨_, List.getElem?_eq_getElem hil, trivial⟩
                  | some v =>
                    rw [← rO i hq] at hi
                    rcases g7 i v hi with h9 | ⟨x, e, hx⟩
                    · exact .inl h9
                    · exact .inr ⟨some x, e, x, rfl, hx⟩
              · rcases List.mem_cons.mp hm with rfl | hm
                · refine ⟨by dsimp only; rw [List.length_append, g4, gE.1]; exact Nat.le_refl _, fun K2 G2 Rf2 L4 c' s' q1 q2 q3 q4 q5 q6 q7 q8 q9 q10 q11 => ?_⟩
                  exfalso
                  obtain ⟨x0, x1, y1, y2, y3⟩ := q11
                  have e9 : (w.2.1 ++ Rf)[E.length + m / 2]? = Rf[m / 2]? := by
                    rw [← gE.1, List.getElem?_append_right (Nat.le_add_right _ _), Nat.add_sub_cancel_left]
                  rw [show (w.2.1 ++ Rf)[E.length + m / 2]? = some (.int x0) from y1] at e9
                  rw [← e9] at hmu
                  have := et_mu_lt y3
                  omega
                · exact et_hd_le (hh h9 hm) hle
            | succ N ih =>
              intro K' G' Rf L3 c s hmu g1 g2 g3 g4 g5 g6 g7 g8 g9 g10
              have hle : et_le M w (K', w.2.1 ++ Rf, G') := ⟨g1, ⟨Rf, rfl⟩, g2⟩
              refine et_ins_ok hr hK _ _ _ _ _ _ _ _ _ _ _ _ h sc (K', w.2.1 ++ Rf, G') L3 [] c s d2 Z ⟨g3, by rw [rF]; exact et_eo_rp (et_eo_ex g1 gE) g4 (fun j i p hj => by obtain ⟨v, v1, v2, -⟩ := g8 j i p hj; exact ⟨v, v1, v2⟩), g5, et_rp_lr (K := K') hrp gE.1 hFl g4 (by rw [g6, rL]) (fun i o hi => ?_) g8, rfl⟩ g9 g10 hd2 (et_so_app hso Rf) (fun h9 hm => ?_) (fun o ho w' u hl hen => hZ o ho w' u (hle.tr hl) hen)
              · by_cases hq : ∃ q ∈ rs, q.1 = i
                · exact .inl hq
                · have hil : i < L3.length := by
                    have := (List.getElem?_eq_some_iff.mp hi).1
                    rw [g6, rL]
                    exact this
                  cases o with
                  | none => exact .inr ⟨_, List.getElem?_eq_getElem hil, trivial⟩
                  | some v =>
                    rw [← rO i hq] at hi
                    rcases g7 i v hi with h9 | ⟨x, e, hx⟩
                    · exact .inl h9
                    · exact .inr ⟨some x, e, x, rfl, hx⟩
              · rcases List.mem_cons.mp hm with rfl | hm
                · refine ⟨by dsimp only; rw [List.length_append, g4, gE.1]; exact Nat.le_refl _, fun K2 G2 Rf2 L4 c' s' q1 q2 q3 q4 q5 q6 q7 q8 q9 q10 q11 => ?_⟩
                  obtain ⟨x0, x1, y1, y2, y3⟩ := q11
                  have e9 : (w.2.1 ++ Rf)[E.length + m / 2]? = Rf[m / 2]? := by
                    rw [← gE.1, List.getElem?_append_right (Nat.le_add_right _ _), Nat.add_sub_cancel_left]
                  rw [show (w.2.1 ++ Rf)[E.length + m / 2]? = some (.int x0) from y1] at e9
                  rw [← e9] at hmu
                  have h8 := et_mu_lt y3
                  have et : (w.2.1 ++ Rf).take E.length = w.2.1 := by rw [← gE.1, List.take_left']; rfl
                  have q5 : et_co ((w.2.1 ++ Rf).take E.length ++ Rf2) G2 (et_kpM E Ml C) := q5
                  rw [et] at q5
                  have q7 : ∀ (i : Nat) (v : Value), L'[i]? = some (some v) → (∃ q ∈ rs, q.1 = i) ∨ ∃ x, L4[i]? = some (some x) ∧ et_vr ((w.2.1 ++ Rf).take E.length ++ Rf2) v x := q7
                  rw [et] at q7
                  exact ih K2 G2 Rf2 L4 c' s' (by rw [y2]; omega) (g1.tr q1) (g2.tr g1 q2) q3 q4 q5 q6 q7 q8 q9 q10
                · exact et_hd_le (hh h9 hm) hle
          obtain ⟨Rf, b1, b2⟩ := et_fa_vals hfa gL gE gH.2.1
          refine claim _ w.1 w.2.2 Rf L2 c0 s0 (Nat.le_refl _) et_ex.rf et_fr.rf gH b1 (et_co_app hCk Rf) (by rw [et_lr_len gL, rL]) (fun i v hi => ?_) b2 h1 h2
          by_cases hq : ∃ q ∈ rs, q.1 = i
          · exact .inl hq
          · rw [rO i hq] at hi
            obtain ⟨c, e, x, ex, hx⟩ := et_lr_get gL hi
            subst ex
            exact .inr ⟨x, e, et_vr_app hx Rf⟩
        · cases h
      · cases h
    · exact et_ins_ok hr hK _ _ _ _ _ _ _ _ _ _ _ _ h sc w L2 st2 c0 s0 d2 Z hI h1 h2 hd2 hso hh hZ
theorem et_rn_ok (hK : ∀ q ∈ Ks, et_cv T q) : ∀ f : Nat, et_Ok T M (et_rn T M Ks an f)
  | 0 => fun _ _ _ _ _ _ _ _ _ _ _ _ h => (nomatch h)
  | f + 1 => et_one_ok (et_rn_ok hK f) hK
end ETQ
end
section
/-! CONTRACTS, checked by a run -/
def et_ar : Nat → List et_P → List Value
  | _, [] => []
  | n, p :: t => et_tk p n :: et_ar (n + 1) t
def et_fe (o : et_O) (e : (Option et_P ⊕ Nat) × Nat × Nat) : Bool := (match o.2.2.1, e.1 with
  | .inl none, .inl none => true
  | .inl (some v), .inl (some p) => et_ft o.1 p v
  | .inr x, .inr y => decide (x = y)
  | _, _ => false) && (decide (o.2.2.2.1 ≤ e.2.1) && decide (o.2.2.2.2 ≤ e.2.2))
def et_cok (T : List et_D) (Ks : List et_Co) (an : Nat → Nat → Option et_A) (q : et_Co) : Bool := match q with
  | (mi, ps, M, es, d) => decide (ps.length < 100) && (match et_rn T M Ks an 100000 [] none (ps.map (fun p => (p, none))) [] d mi 0 (eg_en (eg_mL mi) (et_ar 0 ps)) [] 0 0 with
    | none => false
    | some os => os.all (fun o => es.any (et_fe o)))
section ETS
variable {T : List et_D} {Ks : List et_Co} {an : Nat → Nat → Option et_A} {K : et_K}
theorem et_ar_sr {R : List Value} : ∀ {ps : List et_P} {n : Nat} {as : List Value}, n + ps.length < 4294967296 → as.length = ps.length → (∀ (i : Nat) (p : et_P) (v : Value), ps[i]? = some p → as[i]? = some v → et_v K p v) → (∀ (i : Nat) (v : Value), as[i]? = some v → R[n + i]? = some v) → et_sr R (et_ar n ps) as
  | [], _, as, _, hl, _, _ => List.length_eq_zero_iff.mp hl
  | p :: t, n, [], _, hl, _, _ => by cases hl
  | p :: t, n, a :: s, hn, hl, hv, hr => by
    have hn1 : n < 4294967296 := by omega
    refine ⟨a, s, rfl, ?_, et_ar_sr (n := n + 1) (by rw [List.length_cons] at hn; omega) (Nat.succ.inj hl) (fun i p v hi hj => hv (i + 1) p v hi hj) (fun i v hi => by
      rw [show n + 1 + i = n + (i + 1) by omega]
      exact hr (i + 1) v hi)⟩
    have h0 : R[n]? = some a := hr 0 a rfl
    have h1 := hv 0 p a rfl rfl
    obtain ⟨lo, hi⟩ | ⟨lo, hi⟩ | ⟨nl, u⟩ := p
    · obtain ⟨x, rfl, -⟩ := h1
      exact ⟨x, rfl, by rw [et_tkl hn1]; exact h0⟩
    · obtain ⟨x, rfl, -⟩ := h1
      exact ⟨x, rfl, by rw [et_tkL hn1]; exact h0⟩
    · rcases h1 with ⟨-, rfl⟩ | ⟨-, a, rfl, -⟩
      · exact ⟨.inl rfl, h0⟩
      · exact ⟨.inr ⟨a, rfl⟩, h0⟩
theorem et_cok_ok (hK : ∀ q ∈ Ks, et_cv T q) {q : et_Co} (h : et_cok T Ks an q = true) : et_cv T q := by
  obtain ⟨mi, ps, M, es, d⟩ := q
  unfold et_cok at h
  dsimp only at h
  rw [Bool.and_eq_true] at h
  obtain ⟨hl0, h⟩ := h
  have hl0 := of_decide_eq_true hl0
  split at h
  · cases h
  · rename_i os hos
    intro w as d2 hH hd hl hv
    refine et_rn_ok hK 100000 _ _ _ _ _ _ _ _ _ _ _ _ hos none (w.1, as, w.2.2) (eg_en (eg_mL mi) as) [] 0 0 d2 _ ⟨hH, ⟨by rw [List.length_map]; exact hl, fun k p dd hk => ?_⟩, fun e he => (nomatch he), et_lr_en (eg_mL mi) (et_ar_sr (K := w.1) (n := 0) (by omega) hl hv (fun i v hi => by rw [Nat.zero_add]; exact hi)), rfl⟩ (Nat.le_refl _) (Nat.le_refl _) hd rfl (fun _ hm => absurd hm List.not_mem_nil) (fun o ho w' u hle hen => ?_)
    · rw [List.getElem?_map] at hk
      cases hp : ps[k]? with
      | none => rw [hp] at hk; cases hk
      | some p' =>
        rw [hp] at hk
        cases hk
        have hlt : k < as.length := by rw [hl]; exact (List.getElem?_eq_some_iff.mp hp).1
        exact ⟨as[k], List.getElem?_eq_getElem hlt, hv k p _ hp (List.getElem?_eq_getElem hlt), fun _ _ h => (nomatch h)⟩
    · obtain ⟨e, he, hfe⟩ := List.any_eq_true.mp (List.all_eq_true.mp h o ho)
      obtain ⟨b1, b2, b3, b4, b5, b6, b7⟩ := hen
      obtain ⟨a1, -, a3⟩ := hle
      unfold et_fe at hfe
      rw [Bool.and_eq_true, Bool.and_eq_true] at hfe
      obtain ⟨c1, c2, c3⟩ := hfe
      have c2 := of_decide_eq_true c2
      have c3 := of_decide_eq_true c3
      refine ⟨e, he, w'.1, a1, by rw [b1]; exact a3, by rw [b1]; exact b2, ?_, by omega, by omega⟩
      obtain ⟨oE, oC, ov, oc, osk⟩ := o
      obtain ⟨er, ec, es'⟩ := e
      dsimp only at c1 b3 b5 ⊢
      split at c1
      · exact b5
      · obtain ⟨x, x1, x2⟩ := b5
        exact ⟨x, x1, et_ft_ok c1 b3 b2.2.1 x2⟩
      · rw [← of_decide_eq_true c1]
        exact b5
      · cases c1
end ETS
end
section
/-! THE TYPES -/
def et_TT : List et_D := [
  .inl (12, [.inl (0, 35), .inr (.inr (9, 0)), .inl (0, 3), .inl (0, 2)]),
  .inl (99, []),
  .inl (0, [.inr (.inr (0, 6)), .inl ((-2147483648), 2147483647), .inl ((-2147483648), 2147483647), .inl (0, 1)]),
  .inl (1, [.inl (0, 6), .inr (.inr (0, 15)), .inr (.inr (0, 15)), .inr (.inr (0, 15)), .inl ((-2147483648), 2147483647), .inl ((-2147483648), 2147483647), .inl ((-2147483648), 2147483647), .inl ((-2147483648), 2147483647)]),
  .inl (2, [.inl ((-2147483648), 2147483647), .inl (0, 1), .inl (0, 1), .inl ((-2147483648), 2147483647), .inl ((-2147483648), 2147483647), .inl ((-2147483648), 2147483647), .inl ((-2147483648), 2147483647), .inl ((-2147483648), 2147483647), .inl ((-2147483648), 2147483647), .inl ((-2147483648), 2147483647), .inl ((-2147483648), 2147483647), .inl (0, 1)]),
  .inl (3, [.inr (.inr (0, 23)), .inr (.inr (0, 23)), .inl ((-2147483648), 2147483647)]),
  .inl (4, [.inl ((-2147483648), 2147483647), .inr (.inr (1, 6)), .inr (.inr (1, 6)), .inr (.inr (1, 6)), .inr (.inr (1, 0)), .inl ((-2147483648), 2147483647)]),
  .inl (5, [.inr (.inr (0, 33)), .inl (0, 400), .inl ((-2147483648), 2147483647), .inl (0, 1), .inr (.inr (0, 41)), .inr (.inr (0, 21)), .inr (.inr (0, 21)), .inl (0, 401), .inl (0, 401)]),
  .inl (6, [.inr (.inr (0, 6)), .inr (.inr (1, 28))]),
  .inl (7, [.inr (.inr (0, 43)), .inr (.inr (0, 44)), .inr (.inr (0, 44)), .inr (.inr (0, 51)), .inl (0, 100), .inl (0, 151), .inl (0, 6), .inl (0, 3), .inl (0, 1), .inl (0, 1), .inl (0, 120), .inl (0, 120), .inl (0, 31), .inl (0, 1), .inr (.inr (0, 51)), .inl ((-2147483648), 2147483647), .inl ((-2147483648), 2147483647), .inr (.inr (0, 19))]),
  .inl (8, [.inl (0, 4), .inr (.inr (0, 37)), .inl (0, 20), .inr (.inr (0, 17)), .inr (.inr (0, 27)), .inl (0, 3), .inr (.inr (0, 40)), .inl (0, 4), .inr (.inr (0, 38)), .inl (0, 6), .inr (.inr (0, 39))]),
  .inl (9, [.inl (0, 10), .inr (.inr (0, 26)), .inr (.inr (0, 16)), .inr (.inr (0, 42))]),
  .inl (10, [.inr (.inr (0, 10)), .inr (.inr (0, 10)), .inl (0, 1), .inr (.inr (0, 7)), .inr (.inr (0, 4)), .inr (.inr (0, 9)), .inl ((-2147483648), 2147483647), .inl ((-2147483648), 2147483647), .inr (.inr (0, 3)), .inr (.inr (0, 32)), .inl ((-2147483648), 2147483647), .inr (.inr (0, 5))]),
  .inl (11, [.inl ((-2147483648), 2147483647), .inr (.inr (0, 46)), .inr (.inr (0, 47)), .inl (0, 1), .inr (.inr (0, 34)), .inl (0, 400), .inl (0, 400), .inl (0, 400), .inl (0, 400), .inl (0, 6), .inl ((-2147483648), 2147483647), .inr (.inr (0, 14)), .inl (0, 400), .inl ((-2147483648), 2147483647), .inr (.inr (0, 14)), .inr (.inr (0, 24)), .inl ((-2147483648), 2147483647), .inr (.inr (0, 29)), .inr (.inr (0, 25)), .inr (.inr (0, 30)), .inr (.inr (0, 20)), .inr (.inr (0, 49)), .inr (.inr (0, 50)), .inl ((-2147483648), 2147483647), .inl ((-2147483648), 2147483647), .inl ((-2147483648), 2147483647), .inl ((-2147483648), 2147483647), .inl ((-2147483648), 2147483647), .inl ((-2147483648), 2147483647), .inl (0, 1), .inr (.inr (0, 35)), .inr (.inr (0, 48)), .inr (.inr (0, 22)), .inr (.inr (0, 36)), .inr (.inr (0, 18)), .inr (.inr (0, 19))]),
  .inr (0, 5, []),
  .inr (0, 6, []),
  .inr (0, 10, []),
  .inr (0, 20, []),
  .inr (0, 23, []),
  .inr (0, 31, []),
  .inr (0, 120, []),
  .inr (0, 401, []),
  .inr (0, 32769, []),
  .inr (0, 65536, []),
  .inr (3, 2, [(0, 1, .inl (0, 1))]),
  .inr (3, 4, [(0, 3, .inl (0, 1))]),
  .inr (3, 10, [(0, 9, .inl (0, 1))]),
  .inr (3, 20, [(0, 19, .inl (0, 1))]),
  .inr (2, 1024, []),
  .inr (2, 400, []),
  .inr (2, 4096, []),
  .inr (2, 1, []),
  .inr (0, 5, []),
  .inr (4, 400, []),
  .inr (1, 400, []),
  .inr (0, 65536, [(0, 65535, .inl (0, 65535))]),
  .inr (0, 5, [(0, 4, .inl (0, 4))]),
  .inr (5, 4, [(0, 3, .inr (.inr (1, 8)))]),
  .inr (7, 4, [(0, 3, .inr (.inr (1, 11)))]),
  .inr (8, 6, [(0, 5, .inr (.inr (1, 2)))]),
  .inr (6, 3, [(0, 2, .inr (.inr (0, 3)))]),
  .inr (9, 401, [(0, 400, .inr (.inr (1, 0)))]),
  .inr (10, 10, [(0, 9, .inr (.inr (1, 6)))]),
  .inr (11, 6, [(0, 5, .inr (.inr (0, 45)))]),
  .inr (11, 7, [(0, 6, .inr (.inr (0, 45)))]),
  .inr (0, 151, []),
  .inr (0, 12741, [(0, 1, .inl (0, 4)), (2, 2, .inl (0, 6)), (3, 3, .inl (0, 20)), (4, 4, .inl (0, 3)), (45, 45, .inl (0, 6)), (68, 68, .inl (0, 6)), (91, 91, .inl (0, 6)), (114, 114, .inl (0, 2)), (116, 116, .inl (0, 2)), (118, 118, .inl (0, 2)), (120, 120, .inl (0, 2)), (122, 122, .inl (0, 2)), (124, 124, .inl (0, 2)), (115, 115, .inl (0, 3)), (117, 117, .inl (0, 3)), (119, 119, .inl (0, 3)), (121, 121, .inl (0, 3)), (123, 123, .inl (0, 3)), (125, 125, .inl (0, 3))]),
  .inr (0, 11900, [(0, 1, .inl (0, 4)), (2, 2, .inl (0, 6)), (3, 3, .inl (0, 20)), (4, 4, .inl (0, 3)), (45, 45, .inl (0, 6)), (68, 68, .inl (0, 6)), (91, 91, .inl (0, 6)), (114, 114, .inl (0, 2)), (116, 116, .inl (0, 2)), (118, 118, .inl (0, 2)), (120, 120, .inl (0, 2)), (122, 122, .inl (0, 2)), (124, 124, .inl (0, 2)), (115, 115, .inl (0, 3)), (117, 117, .inl (0, 3)), (119, 119, .inl (0, 3)), (121, 121, .inl (0, 3)), (123, 123, .inl (0, 3)), (125, 125, .inl (0, 3))]),
  .inr (0, 65536, [(0, 65535, .inl (0, 65535))]),
  .inr (0, 6, []),
  .inr (0, 6, []),
  .inr (0, 6, [])]
end
section
/-! BY HAND: one step after the other -/
def hs_pl (ins : Instr) : Bool := !et_rt ins && ((eg_ik ins).isNone && (match ins with
  | .new _ => false
  | _ => true))
theorem hs_th {k pc : Nat} {ins : Instr} (h : hs_pl ins = true) : eg_th k pc ins = none := by
  cases ins <;> first | rfl | (exact absurd h (by decide)) | (unfold hs_pl at h; simp at h)
theorem hs_sc {ins : Instr} {pc : Nat} {L : eg_Ls} {st : List Value} {G : eg_G} {ck sk : Nat} : eg_sc none ins pc L st G ck sk = none := by
  unfold eg_sc
  rfl
section HSA
variable {d k pc ck sk : Nat} {L : eg_Ls} {st r : List Value} {G : eg_G} {Z : eg_O → Prop}
theorem hs_st {ins : Instr} {len p ck' sk' : Nat} {L' : eg_Ls} {st' : List Value} {G' : eg_G} (hc : eg_cd k pc = some (ins, len)) (hp : hs_pl ins = true) (e : eg_st (eg_mo k) (eg_in k) eg_MC eg_MS pc len ins L st G ck sk = some (p, L', st', G', ck', sk')) (h : et_go none d k p L' st' G' ck' sk' Z) : et_go none d k pc L st G ck sk Z := by
  refine et_goS (fun q => ?_) h
  have hp2 := hp
  unfold hs_pl at hp2
  rw [Bool.and_eq_true, Bool.and_eq_true] at hp2
  have hrt : ¬ et_rt ins = true := by
    intro h
    rw [h] at hp2
    exact absurd hp2.1 (by decide)
  unfold eg_one
  rw [hc]
  dsimp only
  rw [et_rr_no hrt]
  dsimp only
  rw [hs_sc]
  dsimp only
  rw [hs_th hp]
  dsimp only
  rw [Option.isNone_iff_eq_none.mp hp2.2.1]
  dsimp only
  rw [e]
  rfl
/-! what stands there -/
def hs_il (k pc : Nat) : Option (Nat × Nat) := match eg_cd k pc with
  | some (.iload i, _) => some (i, pc + 2)
  | some (.iload_n i, _) => some (i, pc + 1)
  | _ => none
def hs_al (k pc : Nat) : Option (Nat × Nat) := match eg_cd k pc with
  | some (.aload i, _) => some (i, pc + 2)
  | some (.aload_n i, _) => some (i, pc + 1)
  | _ => none
def hs_is (k pc : Nat) : Option (Nat × Nat) := match eg_cd k pc with
  | some (.istore i, _) => some (i, pc + 2)
  | some (.istore_n i, _) => some (i, pc + 1)
  | _ => none
def hs_as (k pc : Nat) : Option (Nat × Nat) := match eg_cd k pc with
  | some (.astore i, _) => some (i, pc + 2)
  | some (.astore_n i, _) => some (i, pc + 1)
  | _ => none
def hs_ll (k pc : Nat) : Option (Nat × Nat) := match eg_cd k pc with
  | some (.lload i, _) => some (i, pc + 2)
  | some (.lload_n i, _) => some (i, pc + 1)
  | _ => none
def hs_ls (k pc : Nat) : Option (Nat × Nat) := match eg_cd k pc with
  | some (.lstore i, _) => some (i, pc + 2)
  | some (.lstore_n i, _) => some (i, pc + 1)
  | _ => none
def hs_kc (k pc : Nat) : Option (Int32 × Nat) := match eg_cd k pc with
  | some (.iconst n, _) => some (Int32.ofInt n, pc + 1)
  | some (.bipush n, _) => some ((Int8.ofInt n).toInt32, pc + 2)
  | some (.sipush n, _) => some ((Int16.ofInt n).toInt32, pc + 3)
  | _ => none
/-- instructions of one byte: a number and the next pc -/
def hs_o (k pc : Nat) : Option (Instr × Nat) := match eg_cd k pc with
  | some (ins, 1) => some (ins, pc + 1)
  | _ => none
def hs_gt (k pc : Nat) : Option Nat := match eg_cd k pc with
  | some (.goto off, _) => if 0 ≤ (pc : Int) + off then some (eg_tg pc off) else none
  | _ => none
def hs_if (k pc : Nat) : Option (ClassFile.Cond × Nat × Nat) := match eg_cd k pc with
  | some (.ifCond c off, _) => if 0 ≤ (pc : Int) + off then some (c, eg_tg pc off, pc + 3) else none
  | _ => none
def hs_ic (k pc : Nat) : Option (ClassFile.Cond × Nat × Nat) := match eg_cd k pc with
  | some (.if_icmp c off, _) => if 0 ≤ (pc : Int) + off then some (c, eg_tg pc off, pc + 3) else none
  | _ => none
def hs_ii (k pc : Nat) : Option (Nat × Int × Nat) := match eg_cd k pc with
  | some (.iinc i n, 3) => some (i, n, pc + 3)
  | _ => none
def hs_fi (k pc : Nat) : Option (Nat × Nat × Nat) := match eg_cd k pc with
  | some (.getfield i, _) => (match (eg_fT.getD (eg_mo k) []).lookup i with
    | some (ci, f, _) => some (ci, f, pc + 3)
    | none => none)
  | _ => none
def hs_pi (k pc : Nat) : Option (Nat × Nat × FieldType × Nat) := match eg_cd k pc with
  | some (.putfield i, _) => (match (eg_fT.getD (eg_mo k) []).lookup i with
    | some (ci, f, _) => if (eg_fd ci f).2.2.2 = false then some (ci, f, (eg_yl.getD ci (fun _ => .int)) f, pc + 3) else none
    | none => none)
  | _ => none
def hs_kl (k pc : Nat) : Option (Value × Nat) := match eg_cd k pc with
  | some (.ldc i, _) => (match (eg_kT.getD (eg_mo k) []).lookup i with
    | some v => if eg_kk 0 v = true then some (v, pc + 2) else none
    | none => none)
  | some (.ldc_w i, _) => (match (eg_kT.getD (eg_mo k) []).lookup i with
    | some v => if eg_kk 1 v = true then some (v, pc + 3) else none
    | none => none)
  | _ => none
theorem hs_iload {i p : Nat} {x : Int32} (hc : hs_il k pc = some (i, p)) (hv : eg_ld L i = some (.int x)) (h : et_go none d k p L (.int x :: st) G ck sk Z) : et_go none d k pc L st G ck sk Z := by
  unfold hs_il at hc
  split at hc
  · rename_i e
    cases hc
    exact hs_st e rfl (by show eg_li pc L st G ck sk _ 2 = _; unfold eg_li; rw [hv]) h
  · rename_i e
    cases hc
    exact hs_st e rfl (by show eg_li pc L st G ck sk _ 1 = _; unfold eg_li; rw [hv]) h
  · cases hc
theorem hs_aload {i p a : Nat} (hc : hs_al k pc = some (i, p)) (hv : eg_ld L i = some (.ref a)) (h : et_go none d k p L (.ref a :: st) G ck sk Z) : et_go none d k pc L st G ck sk Z := by
  unfold hs_al at hc
  split at hc
  · rename_i e
    cases hc
    exact hs_st e rfl (by show eg_la pc L st G ck sk _ 2 = _; unfold eg_la; rw [hv]) h
  · rename_i e
    cases hc
    exact hs_st e rfl (by show eg_la pc L st G ck sk _ 1 = _; unfold eg_la; rw [hv]) h
  · cases hc
theorem hs_lload {i p : Nat} {x : Int64} (hc : hs_ll k pc = some (i, p)) (hv : eg_ld L i = some (.long x)) (h : et_go none d k p L (.long x :: st) G ck sk Z) : et_go none d k pc L st G ck sk Z := by
  unfold hs_ll at hc
  split at hc
  · rename_i e
    cases hc
    exact hs_st e rfl (by show eg_ll pc L st G ck sk _ 2 = _; unfold eg_ll; rw [hv]) h
  · rename_i e
    cases hc
    exact hs_st e rfl (by show eg_ll pc L st G ck sk _ 1 = _; unfold eg_ll; rw [hv]) h
  · cases hc
theorem hs_istore {i p : Nat} {x : Int32} (hc : hs_is k pc = some (i, p)) (hl : i < L.length) (h : et_go none d k p (eg_s1 L i (.int x)) st G ck sk Z) : et_go none d k pc L (.int x :: st) G ck sk Z := by
  unfold hs_is at hc
  split at hc
  · rename_i e
    cases hc
    exact hs_st e rfl (by show eg_si pc L (.int x :: st) G ck sk _ 2 = _; unfold eg_si; dsimp only; rw [if_pos hl]) h
  · rename_i e
    cases hc
    exact hs_st e rfl (by show eg_si pc L (.int x :: st) G ck sk _ 1 = _; unfold eg_si; dsimp only; rw [if_pos hl]) h
  · cases hc
theorem hs_astore {i p a : Nat} (hc : hs_as k pc = some (i, p)) (hl : i < L.length) (h : et_go none d k p (eg_s1 L i (.ref a)) st G ck sk Z) : et_go none d k pc L (.ref a :: st) G ck sk Z := by
  unfold hs_as at hc
  split at hc
  · rename_i e
    cases hc
    exact hs_st e rfl (by show eg_sa pc L (.ref a :: st) G ck sk _ 2 = _; unfold eg_sa; dsimp only; rw [if_pos hl]) h
  · rename_i e
    cases hc
    exact hs_st e rfl (by show eg_sa pc L (.ref a :: st) G ck sk _ 1 = _; unfold eg_sa; dsimp only; rw [if_pos hl]) h
  · cases hc
theorem hs_lstore {i p : Nat} {x : Int64} (hc : hs_ls k pc = some (i, p)) (hl : i + 1 < L.length) (h : et_go none d k p (eg_s2 L i (.long x)) st G ck sk Z) : et_go none d k pc L (.long x :: st) G ck sk Z := by
  unfold hs_ls at hc
  split at hc
  · rename_i e
    cases hc
    exact hs_st e rfl (by show eg_sl2 pc L (.long x :: st) G ck sk _ 2 = _; unfold eg_sl2; dsimp only; rw [if_pos hl]) h
  · rename_i e
    cases hc
    exact hs_st e rfl (by show eg_sl2 pc L (.long x :: st) G ck sk _ 1 = _; unfold eg_sl2; dsimp only; rw [if_pos hl]) h
  · cases hc
theorem hs_k {x : Int32} {p : Nat} (hc : hs_kc k pc = some (x, p)) (h : et_go none d k p L (.int x :: st) G ck sk Z) : et_go none d k pc L st G ck sk Z := by
  unfold hs_kc at hc
  split at hc
  · rename_i e
    cases hc
    exact hs_st e rfl rfl h
  · rename_i e
    cases hc
    exact hs_st e rfl rfl h
  · rename_i e
    cases hc
    exact hs_st e rfl rfl h
  · cases hc
theorem hs_oc {ins : Instr} {p : Nat} (hc : hs_o k pc = some (ins, p)) : eg_cd k pc = some (ins, 1) ∧ p = pc + 1 := by
  unfold hs_o at hc
  split at hc
  · rename_i e
    cases hc
    exact ⟨e, rfl⟩
  · cases hc
theorem hs_iadd {p : Nat} {x y : Int32} (hc : hs_o k pc = some (.iadd, p)) (h : et_go none d k p L (.int (x + y) :: r) G ck sk Z) : et_go none d k pc L (.int y :: .int x :: r) G ck sk Z := by
  obtain ⟨e, rfl⟩ := hs_oc hc
  exact hs_st e rfl rfl h
theorem hs_isub {p : Nat} {x y : Int32} (hc : hs_o k pc = some (.isub, p)) (h : et_go none d k p L (.int (x - y) :: r) G ck sk Z) : et_go none d k pc L (.int y :: .int x :: r) G ck sk Z := by
  obtain ⟨e, rfl⟩ := hs_oc hc
  exact hs_st e rfl rfl h
theorem hs_imul {p : Nat} {x y : Int32} (hc : hs_o k pc = some (.imul, p)) (h : et_go none d k p L (.int (x * y) :: r) G ck sk Z) : et_go none d k pc L (.int y :: .int x :: r) G ck sk Z := by
  obtain ⟨e, rfl⟩ := hs_oc hc
  exact hs_st e rfl rfl h
theorem hs_nofn {n : Nat} : Int32.ofInt (n : Int) = Int32.ofNat n := by
  rw [Int32.ofInt_eq_ofNat]
theorem hs_nadd {a b : Nat} : Int32.ofNat a + Int32.ofNat b = Int32.ofNat (a + b) := (Int32.ofNat_add ..).symm
theorem hs_nmul {a b : Nat} : Int32.ofNat a * Int32.ofNat b = Int32.ofNat (a * b) := (Int32.ofNat_mul ..).symm
theorem hs_nsub {a b : Nat} (h : b ≤ a) : Int32.ofNat a - Int32.ofNat b = Int32.ofNat (a - b) := by
  obtain ⟨c, rfl⟩ := Nat.exists_eq_add_of_le h
  rw [← hs_nadd, Nat.add_sub_cancel_left, Int32.add_comm, Int32.add_sub_cancel]
theorem hs_nint {a : Nat} (h : a < 2147483648) : (Int32.ofNat a).toInt = (a : Int) := Int32.toInt_ofNat_of_lt h
theorem hs_nnat {a : Nat} (h : a < 2147483648) : (Int32.ofNat a).toNatClampNeg = a := by
  rw [← Int32.toNat_toInt, hs_nint h]
  rfl
/-- numbers that aren't below 0 -/
theorem hs_iaddn {p a b : Nat} (hc : hs_o k pc = some (.iadd, p)) (h : et_go none d k p L (.int (Int32.ofNat (a + b)) :: r) G ck sk Z) : et_go none d k pc L (.int (Int32.ofNat b) :: .int (Int32.ofNat a) :: r) G ck sk Z := by
  rw [← hs_nadd] at h
  exact hs_iadd hc h
theorem hs_imuln {p a b : Nat} (hc : hs_o k pc = some (.imul, p)) (h : et_go none d k p L (.int (Int32.ofNat (a * b)) :: r) G ck sk Z) : et_go none d k pc L (.int (Int32.ofNat b) :: .int (Int32.ofNat a) :: r) G ck sk Z := by
  rw [← hs_nmul] at h
  exact hs_imul hc h
theorem hs_isubn {p a b : Nat} (hc : hs_o k pc = some (.isub, p)) (hb : b ≤ a) (h : et_go none d k p L (.int (Int32.ofNat (a - b)) :: r) G ck sk Z) : et_go none d k pc L (.int (Int32.ofNat b) :: .int (Int32.ofNat a) :: r) G ck sk Z := by
  rw [← hs_nsub hb] at h
  exact hs_isub hc h
theorem hs_dup1 {p a : Nat} (hc : hs_o k pc = some (.dup, p)) (h : et_go none d k p L (.ref a :: .ref a :: r) G ck sk Z) : et_go none d k pc L (.ref a :: r) G ck sk Z := by
  obtain ⟨e, rfl⟩ := hs_oc hc
  exact hs_st e rfl rfl h
theorem hs_dup2 {p a : Nat} {x : Int32} (hc : hs_o k pc = some (.dup2, p)) (h : et_go none d k p L (.int x :: .ref a :: .int x :: .ref a :: r) G ck sk Z) : et_go none d k pc L (.int x :: .ref a :: r) G ck sk Z := by
  obtain ⟨e, rfl⟩ := hs_oc hc
  exact hs_st e rfl rfl h
theorem hs_goto {p : Nat} (hc : hs_gt k pc = some p) (h : et_go none d k p L st G ck sk Z) : et_go none d k pc L st G ck sk Z := by
  unfold hs_gt at hc
  split at hc
  · rename_i off _ e
    split at hc
    · rename_i h0
      cases hc
      exact hs_st e rfl (by show (if 0 ≤ (pc : Int) + off then _ else _) = _; rw [if_pos h0]) h
    · cases hc
  · cases hc
def hs_c1 (c : ClassFile.Cond) (x : Int32) : Prop := match c with
  | .eq => x = 0
  | .ne => ¬ x = 0
  | .lt => x < 0
  | .ge => 0 ≤ x
  | .gt => 0 < x
  | .le => x ≤ 0
def hs_c2 (c : ClassFile.Cond) (x y : Int32) : Prop := match c with
  | .eq => x = y
  | .ne => ¬ x = y
  | .lt => x < y
  | .ge => y ≤ x
  | .gt => y < x
  | .le => x ≤ y
theorem hs_br1 {c : ClassFile.Cond} {t f : Nat} {x : Int32} (hc : hs_if k pc = some (c, t, f)) (h1 : hs_c1 c x → et_go none d k t L r G ck sk Z) (h2 : ¬ hs_c1 c x → et_go none d k f L r G ck sk Z) : et_go none d k pc L (.int x :: r) G ck sk Z := by
  unfold hs_if at hc
  split at hc
  · rename_i off _ e
    split at hc
    · rename_i h0
      cases hc
      by_cases hx : hs_c1 c x
      · exact hs_st e rfl (by
          show (if 0 ≤ (pc : Int) + off then _ else _) = _
          rw [if_pos h0]
          cases c <;> (dsimp only [hs_c1] at hx ⊢; rw [if_pos hx])) (h1 hx)
      · exact hs_st e rfl (by
          show (if 0 ≤ (pc : Int) + off then _ else _) = _
          rw [if_pos h0]
          cases c <;> (dsimp only [hs_c1] at hx ⊢; rw [if_neg hx])) (h2 hx)
    · cases hc
  · cases hc
theorem hs_br2 {c : ClassFile.Cond} {t f : Nat} {x y : Int32} (hc : hs_ic k pc = some (c, t, f)) (h1 : hs_c2 c x y → et_go none d k t L r G ck sk Z) (h2 : ¬ hs_c2 c x y → et_go none d k f L r G ck sk Z) : et_go none d k pc L (.int y :: .int x :: r) G ck sk Z := by
  unfold hs_ic at hc
  split at hc
  · rename_i off _ e
    split at hc
    · rename_i h0
      cases hc
      by_cases hx : hs_c2 c x y
      · exact hs_st e rfl (by
          show (if 0 ≤ (pc : Int) + off then _ else _) = _
          rw [if_pos h0]
          cases c <;> (dsimp only [hs_c2] at hx ⊢; rw [if_pos hx])) (h1 hx)
      · exact hs_st e rfl (by
          show (if 0 ≤ (pc : Int) + off then _ else _) = _
          rw [if_pos h0]
          cases c <;> (dsimp only [hs_c2] at hx ⊢; rw [if_neg hx])) (h2 hx)
    · cases hc
  · cases hc
theorem hs_iinc {i p : Nat} {n : Int} {x : Int32} (hc : hs_ii k pc = some (i, n, p)) (hv : eg_ld L i = some (.int x)) (hl : i < L.length) (h : et_go none d k p (eg_s1 L i (.int (x + Int32.ofInt n))) st G ck sk Z) : et_go none d k pc L st G ck sk Z := by
  unfold hs_ii at hc
  split at hc
  · rename_i e
    cases hc
    exact hs_st e rfl (by
      show (match eg_ld L i with
        | some (.int x) => if 3 = 3 ∧ i < L.length then _ else none
        | _ => none) = _
      rw [hv]
      dsimp only
      rw [if_pos ⟨rfl, hl⟩]) h
  · cases hc
theorem hs_iinc1 {i p a : Nat} (hc : hs_ii k pc = some (i, 1, p)) (hv : eg_ld L i = some (.int (Int32.ofNat a))) (hl : i < L.length) (h : et_go none d k p (eg_s1 L i (.int (Int32.ofNat (a + 1)))) st G ck sk Z) : et_go none d k pc L st G ck sk Z := by
  rw [← hs_nadd] at h
  exact hs_iinc hc hv hl h
/-! numbers below 2^31 -/
theorem hs_nlt {a b : Nat} (ha : a < 2147483648) (hb : b < 2147483648) : Int32.ofNat a < Int32.ofNat b ↔ a < b := by
  rw [Int32.lt_iff_toInt_lt, hs_nint ha, hs_nint hb]
  omega
theorem hs_nle {a b : Nat} (ha : a < 2147483648) (hb : b < 2147483648) : Int32.ofNat a ≤ Int32.ofNat b ↔ a ≤ b := by
  rw [Int32.le_iff_toInt_le, hs_nint ha, hs_nint hb]
  omega
theorem hs_neq {a b : Nat} (ha : a < 2147483648) (hb : b < 2147483648) : Int32.ofNat a = Int32.ofNat b ↔ a = b := by
  rw [← Int32.toInt_inj, hs_nint ha, hs_nint hb]
  omega
def hs_n2 (c : ClassFile.Cond) (x y : Nat) : Prop := match c with
  | .eq => x = y
  | .ne => ¬ x = y
  | .lt => x < y
  | .ge => y ≤ x
  | .gt => y < x
  | .le => x ≤ y
theorem hs_br2n {c : ClassFile.Cond} {t f a b : Nat} (hc : hs_ic k pc = some (c, t, f)) (ha : a < 2147483648) (hb : b < 2147483648) (h1 : hs_n2 c a b → et_go none d k t L r G ck sk Z) (h2 : ¬ hs_n2 c a b → et_go none d k f L r G ck sk Z) : et_go none d k pc L (.int (Int32.ofNat b) :: .int (Int32.ofNat a) :: r) G ck sk Z := by
  have key : hs_c2 c (Int32.ofNat a) (Int32.ofNat b) ↔ hs_n2 c a b := by
    cases c
    · exact hs_neq ha hb
    · exact not_congr (hs_neq ha hb)
    · exact hs_nlt ha hb
    · exact hs_nle hb ha
    · exact hs_nlt hb ha
    · exact hs_nle ha hb
  exact hs_br2 hc (fun h => h1 (key.mp h)) (fun h => h2 (fun h' => h (key.mpr h')))
end HSA
end
section
/-! BY HAND: the heap, calls, answers -/
section HSB
variable {d k pc ck sk : Nat} {L : eg_Ls} {st r : List Value} {G : eg_G} {Z : eg_O → Prop}
theorem hs_get {ci f p a : Nat} {fs : List Value} {v : Value} (hc : hs_fi k pc = some (ci, f, p)) (hg : eg_at G a = .inr (ci, fs)) (ha : a < G.2) (hv : fs[f]? = some v) (h : et_go none d k p L (v :: r) G ck sk Z) : et_go none d k pc L (.ref a :: r) G ck sk Z := by
  unfold hs_fi at hc
  split at hc
  · rename_i i _ e
    split at hc
    · rename_i ci' f' x hf
      cases hc
      exact hs_st e rfl (by
        show eg_gf (eg_mo k) i pc L (.ref a :: r) G ck sk = _
        unfold eg_gf
        rw [hf]
        dsimp only
        rw [hg]
        dsimp only
        rw [if_pos ⟨ha, rfl⟩, hv]) h
    · cases hc
  · cases hc
theorem hs_put {ci f p a : Nat} {ty : FieldType} {fs : List Value} {v : Value} (hc : hs_pi k pc = some (ci, f, ty, p)) (hg : eg_at G a = .inr (ci, fs)) (ha : eg_NC ≤ a ∧ a < G.2) (hl : f < fs.length) (ht : eg_fit ty v = true) (h : et_go none d k p L r (eg_u G a (.inr (ci, fs.set f v))) ck sk Z) : et_go none d k pc L (v :: .ref a :: r) G ck sk Z := by
  unfold hs_pi at hc
  split at hc
  · rename_i i _ e
    split at hc
    · rename_i ci' f' x hf
      split at hc
      · rename_i h0
        cases hc
        exact hs_st e rfl (by
          show eg_pf (eg_mo k) (eg_in k) i pc L (v :: .ref a :: r) G ck sk = _
          unfold eg_pf
          rw [hf]
          dsimp only
          rw [hg]
          dsimp only
          rw [if_pos ⟨ha.1, ha.2, rfl, hl, ht, .inl h0⟩]) h
      · cases hc
    · cases hc
  · cases hc
theorem hs_ari {ins : Instr} {t a N p n : Nat} {f : Nat → Int32} (hk : eg_ak ins t = true ∧ (t = 0 ∨ t = 1 ∨ t = 3 ∨ t = 4)) (hg : eg_at G a = .inl (t, (N, .inl f))) (ha : a < G.2) (hn : n < N) (hN : N < 2147483648) : eg_ar ins p L (.int (Int32.ofNat n) :: .ref a :: r) G ck sk = some (p + 1, L, .int (f n) :: r, G, ck, sk) := by
  unfold eg_ar
  dsimp only
  rw [hg]
  dsimp only
  have h1 := hs_nint (a := n) (by omega)
  rw [if_pos ⟨ha, hk.1, by omega, by omega⟩, hs_nnat (by omega)]
  unfold eg_rd
  dsimp only
  rw [if_pos hk.2]
theorem hs_iald {a N p n : Nat} {f : Nat → Int32} (hc : hs_o k pc = some (.iaload, p)) (hg : eg_at G a = .inl (0, (N, .inl f))) (ha : a < G.2) (hN : N < 2147483648) (hn : n < N) (h : et_go none d k p L (.int (f n) :: r) G ck sk Z) : et_go none d k pc L (.int (Int32.ofNat n) :: .ref a :: r) G ck sk Z := by
  obtain ⟨e, rfl⟩ := hs_oc hc
  exact hs_st e rfl (hs_ari ⟨rfl, .inl rfl⟩ hg ha hn hN) h
theorem hs_bald {a N p n : Nat} {f : Nat → Int32} (hc : hs_o k pc = some (.baload, p)) (hg : eg_at G a = .inl (1, (N, .inl f))) (ha : a < G.2) (hN : N < 2147483648) (hn : n < N) (h : et_go none d k p L (.int (f n) :: r) G ck sk Z) : et_go none d k pc L (.int (Int32.ofNat n) :: .ref a :: r) G ck sk Z := by
  obtain ⟨e, rfl⟩ := hs_oc hc
  exact hs_st e rfl (hs_ari ⟨rfl, .inr (.inl rfl)⟩ hg ha hn hN) h
theorem hs_zald {a N p n : Nat} {f : Nat → Int32} (hc : hs_o k pc = some (.baload, p)) (hg : eg_at G a = .inl (3, (N, .inl f))) (ha : a < G.2) (hN : N < 2147483648) (hn : n < N) (h : et_go none d k p L (.int (f n) :: r) G ck sk Z) : et_go none d k pc L (.int (Int32.ofNat n) :: .ref a :: r) G ck sk Z := by
  obtain ⟨e, rfl⟩ := hs_oc hc
  exact hs_st e rfl (hs_ari ⟨rfl, .inr (.inr (.inl rfl))⟩ hg ha hn hN) h
theorem hs_iast {a N p n : Nat} {x : Int32} {f : Nat → Int32} (hc : hs_o k pc = some (.iastore, p)) (hg : eg_at G a = .inl (0, (N, .inl f))) (ha : eg_NC ≤ a ∧ a < G.2) (hN : N < 2147483648) (hn : n < N) (h : et_go none d k p L r (eg_u G a (.inl (0, (N, .inl (upd f n x))))) ck sk Z) : et_go none d k pc L (.int x :: .int (Int32.ofNat n) :: .ref a :: r) G ck sk Z := by
  obtain ⟨e, rfl⟩ := hs_oc hc
  refine hs_st e rfl ?_ h
  show eg_aw .iastore pc L (.int x :: .int (Int32.ofNat n) :: .ref a :: r) G ck sk = _
  unfold eg_aw
  dsimp only
  rw [hg]
  dsimp only
  have h1 := hs_nint (a := n) (by omega)
  rw [if_pos ⟨ha.1, ha.2, rfl, by omega, by omega⟩, hs_nnat (by omega)]
  rfl
theorem hs_lald {a N p n : Nat} {f : Nat → Int64} (hc : hs_o k pc = some (.laload, p)) (hg : eg_at G a = .inl (2, (N, .inr (.inl f)))) (ha : a < G.2) (hN : N < 2147483648) (hn : n < N) (h : et_go none d k p L (.long (f n) :: r) G ck sk Z) : et_go none d k pc L (.int (Int32.ofNat n) :: .ref a :: r) G ck sk Z := by
  obtain ⟨e, rfl⟩ := hs_oc hc
  refine hs_st e rfl ?_ h
  show eg_ar .laload pc L (.int (Int32.ofNat n) :: .ref a :: r) G ck sk = _
  unfold eg_ar
  dsimp only
  rw [hg]
  dsimp only
  have h1 := hs_nint (a := n) (by omega)
  rw [if_pos ⟨ha, rfl, by omega, by omega⟩, hs_nnat (by omega)]
  rfl
theorem hs_last {a N p n : Nat} {x : Int64} {f : Nat → Int64} (hc : hs_o k pc = some (.lastore, p)) (hg : eg_at G a = .inl (2, (N, .inr (.inl f)))) (ha : eg_NC ≤ a ∧ a < G.2) (hN : N < 2147483648) (hn : n < N) (h : et_go none d k p L r (eg_u G a (.inl (2, (N, .inr (.inl (vp_updL f n x)))))) ck sk Z) : et_go none d k pc L (.long x :: .int (Int32.ofNat n) :: .ref a :: r) G ck sk Z := by
  obtain ⟨e, rfl⟩ := hs_oc hc
  refine hs_st e rfl ?_ h
  show eg_aw .lastore pc L (.long x :: .int (Int32.ofNat n) :: .ref a :: r) G ck sk = _
  unfold eg_aw
  dsimp only
  rw [hg]
  dsimp only
  have h1 := hs_nint (a := n) (by omega)
  rw [if_pos ⟨ha.1, ha.2, rfl, by omega, by omega⟩, hs_nnat (by omega)]
  rfl
/-! answers -/
def hs_re (k pc : Nat) : Option (Option FieldType) := match eg_cd k pc with
  | some (.ireturn, _) => some (eg_mr k)
  | _ => none
def hs_rv (k pc : Nat) : Option (Option FieldType) := match eg_cd k pc with
  | some (.return_, _) => some (eg_mr k)
  | _ => none
theorem hs_iret {x : Int32} (hc : hs_re k pc = some (some .int)) (h : Z (.inl (some (.int x)), G, ck, sk)) : et_go none d k pc L [.int x] G ck sk Z := by
  unfold hs_re at hc
  split at hc
  · rename_i e
    refine et_goR (u := (.inl (some (.int x)), G, ck, sk)) (fun q => ?_) h
    unfold eg_one
    rw [e]
    dsimp only
    rw [show eg_mr k = some .int from Option.some.inj hc]
    unfold eg_rr
    dsimp only
    rw [if_pos (show eg_nr .int x = true from decide_eq_true rfl)]
  · cases hc
theorem hs_nr0 : eg_nr .boolean 0 = true := by decide +kernel
theorem hs_nr1 : eg_nr .boolean 1 = true := by decide +kernel
theorem hs_zret {x : Int32} (hc : hs_re k pc = some (some .boolean)) (hx : x = 0 ∨ x = 1) (h : Z (.inl (some (.int x)), G, ck, sk)) : et_go none d k pc L [.int x] G ck sk Z := by
  unfold hs_re at hc
  split at hc
  · rename_i e
    refine et_goR (u := (.inl (some (.int x)), G, ck, sk)) (fun q => ?_) h
    unfold eg_one
    rw [e]
    dsimp only
    rw [show eg_mr k = some .boolean from Option.some.inj hc]
    unfold eg_rr
    dsimp only
    rcases hx with rfl | rfl
    · rw [if_pos hs_nr0]
    · rw [if_pos hs_nr1]
  · cases hc
theorem hs_vret (hc : hs_rv k pc = some none) (h : Z (.inl none, G, ck, sk)) : et_go none d k pc L [] G ck sk Z := by
  unfold hs_rv at hc
  split at hc
  · rename_i e
    refine et_goR (u := (.inl none, G, ck, sk)) (fun q => ?_) h
    unfold eg_one
    rw [e]
    dsimp only
    rw [show eg_mr k = none from Option.some.inj hc]
    rfl
  · cases hc
/-! calls -/
def hs_cont (d k pc : Nat) (L : eg_Ls) (r : List Value) (ck sk : Nat) (Z : eg_O → Prop) : eg_O → Prop := fun u => ∃ o, (∃ g, ∀ q, g ≤ q → eg_bk (eg_rn q) none d k pc L r ck sk (some u) = some o) ∧ Z o
theorem hs_cb {v : Option Value} {G' : eg_G} {c s : Nat} (h : et_go none d k (pc + 3) L (v.toList ++ r) G' (ck + c) (sk + s) Z) : hs_cont d k pc L r ck sk Z (.inl v, G', c, s) := by
  obtain ⟨o, ⟨g, hg⟩, hZ⟩ := h
  exact ⟨o, ⟨g, fun q hq => hg q hq⟩, hZ⟩
def hs_cv (k pc : Nat) : Option (Nat × Nat × Nat × Nat × Nat) := match eg_cd k pc with
  | some (.invokevirtual i, _) => (match (eg_mT.getD (eg_mo k) []).lookup i with
    | some (mi, kd, _) => if (kd = 1 ∨ kd = 4 ∨ kd = 7) ∧ mi < 316 ∧ ¬ eg_mo mi = 20 then some (mi, eg_ma mi, eg_oc kd mi, eg_mL k, eg_mL mi) else none
    | none => none)
  | _ => none
def hs_cs (k pc : Nat) : Option (Nat × Nat × Nat × Nat) := match eg_cd k pc with
  | some (.invokestatic i, _) => (match (eg_mT.getD (eg_mo k) []).lookup i with
    | some (mi, kd, _) => if (kd = 0 ∨ kd = 3) ∧ (mi < 309 ∨ 313 < mi) ∧ mi < 316 ∧ ¬ eg_mo mi = 20 then some (mi, eg_ma mi, eg_mL k, eg_mL mi) else none
    | none => none)
  | _ => none
theorem hs_callv {mi na ci lk lm a : Nat} {as : List Value} {L0 : eg_Ls} (hc : hs_cv k pc = some (mi, na, ci, lk, lm)) (hdr : st.drop na = .ref a :: r) (has : (st.take na).reverse = as) (hL : L.length = lk) (hr : Nat.ble (eg_cat r) 8 = true) (hn : Nat.ble (eg_en0 (.ref a :: as)).length lm = true) (hL0 : eg_en lm (.ref a :: as) = L0) (ha : a < G.2) (hg : eg_is (eg_at G a) ci = true) (h : et_go none d mi 0 L0 [] G 0 0 (hs_cont (d + 1) k pc L r ck sk Z)) : et_go none (d + 1) k pc L st G ck sk Z := by
  unfold hs_cv at hc
  split at hc
  · rename_i i _ e
    split at hc
    · rename_i mi' kd x hm
      split at hc
      · rename_i h0
        cases hc
        subst has hL0
        refine et_goC (fun q => ?_) h
        unfold eg_one
        rw [e]
        dsimp only
        rw [et_rr_no (ins := .invokevirtual i) (fun h => nomatch (show false = true from h))]
        dsimp only
        rw [hs_sc]
        dsimp only
        show eg_iv (eg_rn q) none (d + 1) k pc 1 i L st G ck sk = _
        rw [et_v1 hm, hdr]
        dsimp only
        rw [if_pos ⟨h0.1, ha, hg⟩]
        unfold eg_cl1
        rw [if_pos ⟨Nat.le_of_ble_eq_true hr, hL, Nat.le_of_ble_eq_true hn, h0.2.1, h0.2.2⟩]
      · cases hc
    · cases hc
  · cases hc
theorem hs_calls {mi na lk lm : Nat} {as : List Value} {L0 : eg_Ls} (hc : hs_cs k pc = some (mi, na, lk, lm)) (hln : Nat.ble na st.length = true) (hdr : st.drop na = r) (has : (st.take na).reverse = as) (hL : L.length = lk) (hr : Nat.ble (eg_cat r) 8 = true) (hn : Nat.ble (eg_en0 as).length lm = true) (hL0 : eg_en lm as = L0) (h : et_go none d mi 0 L0 [] G 0 0 (hs_cont (d + 1) k pc L r ck sk Z)) : et_go none (d + 1) k pc L st G ck sk Z := by
  unfold hs_cs at hc
  split at hc
  · rename_i i _ e
    split at hc
    · rename_i mi' kd x hm
      split at hc
      · rename_i h0
        cases hc
        subst has hL0 hdr
        refine et_goC (fun q => ?_) h
        unfold eg_one
        rw [e]
        dsimp only
        rw [et_rr_no (ins := .invokestatic i) (fun h => nomatch (show false = true from h))]
        dsimp only
        rw [hs_sc]
        dsimp only
        show eg_iv (eg_rn q) none (d + 1) k pc 0 i L st G ck sk = _
        rw [et_v0 hm]
        rw [if_neg (by omega), if_pos ⟨h0.1, Nat.le_of_ble_eq_true hln⟩]
        unfold eg_cl1
        rw [if_pos ⟨Nat.le_of_ble_eq_true hr, hL, Nat.le_of_ble_eq_true hn, h0.2.2.1, h0.2.2.2⟩]
      · cases hc
    · cases hc
  · cases hc
end HSB
/-! THE MODEL'S OBJECT AND ITS WORLD -/
def hm_F (F : Nat → Value) : eg_C := .inr (11, (List.range 36).map F)
def hm_W (W : Nat → Int32) : eg_C := .inl (0, (12741, .inl W))
def hm_H (G : eg_G) (am aw : Nat) (F : Nat → Value) (W : Nat → Int32) : eg_G := eg_u (eg_u G am (hm_F F)) aw (hm_W W)
def hm_ok (G : eg_G) (am aw : Nat) : Prop := (eg_NC ≤ am ∧ am < G.2) ∧ (eg_NC ≤ aw ∧ aw < G.2) ∧ am ≠ aw
section HSM
variable {d k pc ck sk am aw : Nat} {L : eg_Ls} {st r : List Value} {G : eg_G} {Z : eg_O → Prop} {F : Nat → Value} {W : Nat → Int32}
theorem hm_m (h : hm_ok G am aw) : eg_at (hm_H G am aw F W) am = hm_F F := by
  unfold hm_H
  rw [et_at_u h.2.2, et_at_us h.1.1]
theorem hm_w (h : hm_ok G am aw) : eg_at (hm_H G am aw F W) aw = hm_W W := by
  unfold hm_H
  rw [et_at_us h.2.1.1]
theorem hm_o {a : Nat} (h1 : a ≠ am) (h2 : a ≠ aw) : eg_at (hm_H G am aw F W) a = eg_at G a := by
  unfold hm_H
  rw [et_at_u h2, et_at_u h1]
theorem hm_uu {G : eg_G} {a : Nat} {c c' : eg_C} : eg_u (eg_u G a c) a c' = eg_u G a c' := by
  unfold eg_u
  dsimp only
  congr 1
  funext j
  by_cases h : j = a
  · rw [if_pos h, if_pos h]
  · rw [if_neg h, if_neg h, if_neg h]
theorem hm_uc {G : eg_G} {a b : Nat} {c c' : eg_C} (h : a ≠ b) : eg_u (eg_u G a c) b c' = eg_u (eg_u G b c') a c := by
  unfold eg_u
  dsimp only
  congr 1
  funext j
  by_cases h1 : j = a
  · rw [if_pos h1, if_pos h1, if_neg (fun e => h (h1.symm.trans e))]
  · rw [if_neg h1, if_neg h1]
theorem hm_set {F : Nat → Value} {f : Nat} {v : Value} : ((List.range 36).map F).set f v = (List.range 36).map (updV F f v) := by
  apply List.ext_getElem?
  intro j
  rw [List.getElem?_set, List.getElem?_map, List.getElem?_map, List.length_map, List.length_range]
  by_cases h : f = j
  · subst h
    rw [if_pos rfl]
    by_cases h2 : f < 36
    · rw [if_pos h2, List.getElem?_range h2]
      show some v = some (updV F f v f)
      unfold updV
      rw [if_pos rfl]
    · rw [if_neg h2, List.getElem?_eq_none (by rw [List.length_range]; omega)]
      rfl
  · rw [if_neg h]
    cases hj : (List.range 36)[j]? with
    | none => rfl
    | some x =>
      have e : x = j := by
        obtain ⟨h1, h2⟩ := List.getElem?_eq_some_iff.mp hj
        rw [← h2, List.getElem_range]
      subst e
      show some (F x) = some (updV F f v x)
      unfold updV
      rw [if_neg (fun e => h e.symm)]
theorem hm_get {f p : Nat} {v : Value} (hA : hm_ok G am aw) (hc : hs_fi k pc = some (11, f, p)) (hf : Nat.ble f 35 = true) (hv : F f = v) (h : et_go none d k p L (v :: r) (hm_H G am aw F W) ck sk Z) : et_go none d k pc L (.ref am :: r) (hm_H G am aw F W) ck sk Z := by
  subst hv
  have hf := Nat.le_of_ble_eq_true hf
  refine hs_get hc (hm_m hA) hA.1.2 ?_ h
  rw [List.getElem?_map, List.getElem?_range (by omega)]
  rfl
theorem hm_put {f p : Nat} {ty : FieldType} {v : Value} {F' : Nat → Value} (hA : hm_ok G am aw) (hc : hs_pi k pc = some (11, f, ty, p)) (hf : Nat.ble f 35 = true) (ht : eg_fit ty v = true) (hF : updV F f v = F') (h : et_go none d k p L r (hm_H G am aw F' W) ck sk Z) : et_go none d k pc L (v :: .ref am :: r) (hm_H G am aw F W) ck sk Z := by
  subst hF
  have hf := Nat.le_of_ble_eq_true hf
  refine hs_put hc (hm_m hA) ⟨hA.1.1, hA.1.2⟩ (by rw [List.length_map, List.length_range]; omega) ht ?_
  rw [hm_set]
  show et_go none d k p L r (eg_u (eg_u (eg_u G am (hm_F F)) aw (hm_W W)) am (hm_F (updV F f v))) ck sk Z
  rw [hm_uc hA.2.2.symm, hm_uu]
  exact h
theorem hm_rw {p n : Nat} (hA : hm_ok G am aw) (hc : hs_o k pc = some (.iaload, p)) (hn : n < 12741) (h : et_go none d k p L (.int (W n) :: r) (hm_H G am aw F W) ck sk Z) : et_go none d k pc L (.int (Int32.ofNat n) :: .ref aw :: r) (hm_H G am aw F W) ck sk Z :=
  hs_iald hc (hm_w hA) hA.2.1.2 (by omega) hn h
theorem hm_ww {p n : Nat} {x : Int32} (hA : hm_ok G am aw) (hc : hs_o k pc = some (.iastore, p)) (hn : n < 12741) (h : et_go none d k p L r (hm_H G am aw F (upd W n x)) ck sk Z) : et_go none d k pc L (.int x :: .int (Int32.ofNat n) :: .ref aw :: r) (hm_H G am aw F W) ck sk Z := by
  refine hs_iast hc (hm_w hA) ⟨hA.2.1.1, hA.2.1.2⟩ (by omega) hn ?_
  unfold hm_H
  rw [hm_uu]
  exact h
theorem hm_call {mi na lk lm : Nat} {as : List Value} {L0 : eg_Ls} (hA : hm_ok G am aw) (hc : hs_cv k pc = some (mi, na, 11, lk, lm)) (hdr : st.drop na = .ref am :: r) (has : (st.take na).reverse = as) (hL : L.length = lk) (hr : Nat.ble (eg_cat r) 8 = true) (hn : Nat.ble (eg_en0 (.ref am :: as)).length lm = true) (hL0 : eg_en lm (.ref am :: as) = L0) (h : et_go none d mi 0 L0 [] (hm_H G am aw F W) 0 0 (hs_cont (d + 1) k pc L r ck sk Z)) : et_go none (d + 1) k pc L st (hm_H G am aw F W) ck sk Z :=
  hs_callv hc hdr has hL hr hn hL0 hA.1.2 (by rw [hm_m hA]; rfl) h
end HSM
end
section
/-! BY HAND: the reference's parser, leaves -/
theorem hs_if1 {d k pc ck sk t f : Nat} {L : eg_Ls} {r : List Value} {G : eg_G} {Z : eg_O → Prop} {c : ClassFile.Cond} {x : Int32} (hc : hs_if k pc = some (c, t, f)) (hx : hs_c1 c x) (h : et_go none d k t L r G ck sk Z) : et_go none d k pc L (.int x :: r) G ck sk Z :=
  hs_br1 hc (fun _ => h) (fun h => absurd hx h)
theorem hs_if0 {d k pc ck sk t f : Nat} {L : eg_Ls} {r : List Value} {G : eg_G} {Z : eg_O → Prop} {c : ClassFile.Cond} {x : Int32} (hc : hs_if k pc = some (c, t, f)) (hx : ¬ hs_c1 c x) (h : et_go none d k f L r G ck sk Z) : et_go none d k pc L (.int x :: r) G ck sk Z :=
  hs_br1 hc (fun h => absurd h hx) (fun _ => h)
def rp_F (F0 : Nat → Value) (pt bg st dp : Nat) : Nat → Value := fun j => if j = 6 then .int (Int32.ofNat pt) else if j = 8 then .int (Int32.ofNat bg) else if j = 12 then .int (Int32.ofNat st) else if j = 9 then .int (Int32.ofNat dp) else F0 j
def rp_E (G : eg_G) (am aw ta : Nat) (F0 : Nat → Value) (en : Nat) (TP : Nat → Int32) : Prop := hm_ok G am aw ∧ (ta < G.2 ∧ ta ≠ am ∧ ta ≠ aw ∧ eg_at G ta = .inl (1, (400, .inl TP))) ∧ F0 1 = .ref aw ∧ F0 4 = .ref ta ∧ F0 7 = .int (Int32.ofNat en) ∧ en ≤ 400
section RPA
variable {F0 : Nat → Value} {pt bg st dp x : Nat}
theorem rp_p6 : updV (rp_F F0 pt bg st dp) 6 (.int (Int32.ofNat x)) = rp_F F0 x bg st dp := by
  funext j
  unfold updV rp_F
  by_cases h : j = 6
  · rw [if_pos h, if_pos h]
  · rw [if_neg h, if_neg h, if_neg h]
theorem rp_p8 : updV (rp_F F0 pt bg st dp) 8 (.int (Int32.ofNat x)) = rp_F F0 pt x st dp := by
  funext j
  unfold updV rp_F
  by_cases h : j = 8
  · subst h
    rfl
  · rw [if_neg h]
    by_cases h6 : j = 6
    · rw [if_pos h6, if_pos h6]
    · rw [if_neg h6, if_neg h6, if_neg h, if_neg h]
theorem rp_p12 : updV (rp_F F0 pt bg st dp) 12 (.int (Int32.ofNat x)) = rp_F F0 pt bg x dp := by
  funext j
  unfold updV rp_F
  by_cases h : j = 12
  · subst h
    rfl
  · simp only [if_neg h]
theorem rp_p9 : updV (rp_F F0 pt bg st dp) 9 (.int (Int32.ofNat x)) = rp_F F0 pt bg st x := by
  funext j
  unfold updV rp_F
  by_cases h : j = 9
  · subst h
    rfl
  · simp only [if_neg h]
end RPA
section RPB
variable {d am aw ta en pt bg st dp : Nat} {G : eg_G} {F0 : Nat → Value} {TP W : Nat → Int32} {Z : eg_O → Prop}
theorem rp_isAt (hE : rp_E G am aw ta F0 en TP) (hp : pt ≤ 400) {lo hi : Int32} (h1 : pt < en → lo ≤ TP pt → TP pt ≤ hi → Z (.inl (some (.int (Int32.ofNat 1))), (hm_H G am aw (rp_F F0 pt bg st dp) W), 0, 0)) (h0 : (pt < en → lo ≤ TP pt → TP pt ≤ hi → False) → Z (.inl (some (.int (Int32.ofNat 0))), (hm_H G am aw (rp_F F0 pt bg st dp) W), 0, 0)) : et_go none d 185 0 [some (.ref am), some (.int lo), some (.int hi)] [] (hm_H G am aw (rp_F F0 pt bg st dp) W) 0 0 Z := by
  have he := hE.2.2.2.2.2
  refine hs_aload (i := 0) (p := 1) (by decide +kernel) rfl ?_
  refine hm_get hE.1 (f := 6) (p := 4) (by decide +kernel) rfl rfl ?_
  refine hs_aload (i := 0) (p := 5) (by decide +kernel) rfl ?_
  refine hm_get hE.1 (f := 7) (p := 8) (by decide +kernel) rfl hE.2.2.2.2.1 ?_
  refine hs_br2n (c := .ge) (t := 41) (f := 11) (by decide +kernel) (by omega) (by omega) (fun (c8 : en ≤ pt) => ?_) (fun (c8 : ¬ (en ≤ pt)) => ?_)
  · refine hs_k (x := Int32.ofNat 0) (p := 42) (by decide +kernel) ?_
    refine hs_zret (by decide +kernel) (.inl rfl) ?_
    exact h0 (fun a1 a2 a3 => by first | omega | exact absurd a2 (Int32.not_le.mpr c21) | exact absurd a3 (Int32.not_le.mpr c34))
  · refine hs_aload (i := 0) (p := 12) (by decide +kernel) rfl ?_
    refine hm_get hE.1 (f := 4) (p := 15) (by decide +kernel) rfl hE.2.2.2.1 ?_
    refine hs_aload (i := 0) (p := 16) (by decide +kernel) rfl ?_
    refine hm_get hE.1 (f := 6) (p := 19) (by decide +kernel) rfl rfl ?_
    refine hs_bald (p := 20) (by decide +kernel) ((hm_o hE.2.1.2.1 hE.2.1.2.2.1).trans hE.2.1.2.2.2) hE.2.1.1 (by omega) (by omega) ?_
    refine hs_iload (i := 1) (p := 21) (by decide +kernel) rfl ?_
    refine hs_br2 (c := .lt) (t := 41) (f := 24) (by decide +kernel) (fun (c21 : (TP pt) < lo) => ?_) (fun (c21 : ¬ ((TP pt) < lo)) => ?_)
    · refine hs_k (x := Int32.ofNat 0) (p := 42) (by decide +kernel) ?_
      refine hs_zret (by decide +kernel) (.inl rfl) ?_
      exact h0 (fun a1 a2 a3 => by first | omega | exact absurd a2 (Int32.not_le.mpr c21) | exact absurd a3 (Int32.not_le.mpr c34))
    · refine hs_aload (i := 0) (p := 25) (by decide +kernel) rfl ?_
      refine hm_get hE.1 (f := 4) (p := 28) (by decide +kernel) rfl hE.2.2.2.1 ?_
      refine hs_aload (i := 0) (p := 29) (by decide +kernel) rfl ?_
      refine hm_get hE.1 (f := 6) (p := 32) (by decide +kernel) rfl rfl ?_
      refine hs_bald (p := 33) (by decide +kernel) ((hm_o hE.2.1.2.1 hE.2.1.2.2.1).trans hE.2.1.2.2.2) hE.2.1.1 (by omega) (by omega) ?_
      refine hs_iload (i := 2) (p := 34) (by decide +kernel) rfl ?_
      refine hs_br2 (c := .gt) (t := 41) (f := 37) (by decide +kernel) (fun (c34 : hi < (TP pt)) => ?_) (fun (c34 : ¬ (hi < (TP pt))) => ?_)
      · refine hs_k (x := Int32.ofNat 0) (p := 42) (by decide +kernel) ?_
        refine hs_zret (by decide +kernel) (.inl rfl) ?_
        exact h0 (fun a1 a2 a3 => by first | omega | exact absurd a2 (Int32.not_le.mpr c21) | exact absurd a3 (Int32.not_le.mpr c34))
      · refine hs_k (x := Int32.ofNat 1) (p := 38) (by decide +kernel) ?_
        refine hs_goto (p := 42) (by decide +kernel) ?_
        refine hs_zret (by decide +kernel) (.inr rfl) ?_
        exact h1 (by omega) (Int32.not_lt.mp c21) (Int32.not_lt.mp c34)
end RPB
end
section
/-! BY HAND: texts -/
def hs_gs (k pc : Nat) : Option (Value × Nat) := match eg_cd k pc with
  | some (.getstatic i, _) => (match (eg_sT.getD (eg_mo k) []).lookup i with
    | some (n, _) => (match eg_sv[n]? with
      | some (_, _, _, v) => some (v, pc + 3)
      | none => none)
    | none => none)
  | _ => none
def rs_n (j : Nat) : Nat := (eg_by.getD j []).length
section RSA
variable {d k pc ck sk : Nat} {L : eg_Ls} {st r : List Value} {G : eg_G} {Z : eg_O → Prop}
theorem hs_gst {v : Value} {p : Nat} (hc : hs_gs k pc = some (v, p)) (h : et_go none d k p L (v :: st) G ck sk Z) : et_go none d k pc L st G ck sk Z := by
  unfold hs_gs at hc
  split at hc
  · rename_i i _ e
    split at hc
    · rename_i n x hn
      split at hc
      · rename_i y hv
        cases hc
        exact hs_st e rfl (by
          show (match (eg_sT.getD (eg_mo k) []).lookup i with
            | some (k, _) => (match eg_sv[k]? with
              | some (_, _, _, v) => some (pc + 3, L, v :: st, G, ck, sk)
              | none => none)
            | none => none) = _
          rw [hn]
          dsimp only
          rw [hv]) h
      · cases hc
    · cases hc
  · cases hc
theorem hs_kld {v : Value} {p : Nat} (hc : hs_kl k pc = some (v, p)) (h : et_go none d k p L (v :: st) G ck sk Z) : et_go none d k pc L st G ck sk Z := by
  unfold hs_kl at hc
  split at hc
  · rename_i i _ e
    split at hc
    · rename_i v' hn
      split at hc
      · rename_i h0
        cases hc
        exact hs_st e rfl (by
          show eg_kst (eg_mo k) i 2 0 pc L st G ck sk = _
          unfold eg_kst
          rw [hn]
          dsimp only
          rw [if_pos h0]) h
      · cases hc
    · cases hc
  · rename_i i _ e
    split at hc
    · rename_i v' hn
      split at hc
      · rename_i h0
        cases hc
        exact hs_st e rfl (by
          show eg_kst (eg_mo k) i 3 1 pc L st G ck sk = _
          unfold eg_kst
          rw [hn]
          dsimp only
          rw [if_pos h0]) h
      · cases hc
    · cases hc
  · cases hc
theorem hs_alen {a p t : Nat} {x : vp_A} (hc : hs_o k pc = some (.arraylength, p)) (hg : eg_at G a = .inl (t, x)) (ha : a < G.2) (ht : Nat.ble t 11 = true) (h : et_go none d k p L (.int (Int32.ofNat x.1) :: r) G ck sk Z) : et_go none d k pc L (.ref a :: r) G ck sk Z := by
  obtain ⟨e, rfl⟩ := hs_oc hc
  have ht := Nat.le_of_ble_eq_true ht
  refine hs_st e rfl ?_ h
  show (match eg_at G a with
      | .inl (t, x) => if a < G.2 ∧ t < 12 then some (pc + 1, L, Value.int (Int32.ofNat x.1) :: r, G, ck, sk) else none
      | _ => none) = _
  rw [hg]
  dsimp only
  rw [if_pos ⟨ha, by omega⟩]
theorem hs_pop {p : Nat} {x : Int32} (hc : hs_o k pc = some (.pop, p)) (h : et_go none d k p L r G ck sk Z) : et_go none d k pc L (.int x :: r) G ck sk Z := by
  obtain ⟨e, rfl⟩ := hs_oc hc
  exact hs_st e rfl rfl h
theorem hs_iand {p : Nat} {x y : Int32} (hc : hs_o k pc = some (.iand, p)) (h : et_go none d k p L (.int (x &&& y) :: r) G ck sk Z) : et_go none d k pc L (.int y :: .int x :: r) G ck sk Z := by
  obtain ⟨e, rfl⟩ := hs_oc hc
  exact hs_st e rfl rfl h
theorem hs_ishr {p : Nat} {x y : Int32} (hc : hs_o k pc = some (.ishr, p)) (h : et_go none d k p L (.int (x >>> (y &&& 31)) :: r) G ck sk Z) : et_go none d k pc L (.int y :: .int x :: r) G ck sk Z := by
  obtain ⟨e, rfl⟩ := hs_oc hc
  exact hs_st e rfl rfl h
theorem hs_ishl {p : Nat} {x y : Int32} (hc : hs_o k pc = some (.ishl, p)) (h : et_go none d k p L (.int (x <<< (y &&& 31)) :: r) G ck sk Z) : et_go none d k pc L (.int y :: .int x :: r) G ck sk Z := by
  obtain ⟨e, rfl⟩ := hs_oc hc
  exact hs_st e rfl rfl h
theorem hs_i2c {p : Nat} {x : Int32} (hc : hs_o k pc = some (.i2c, p)) (h : et_go none d k p L (.int (x.toUInt32 % 65536).toInt32 :: r) G ck sk Z) : et_go none d k pc L (.int x :: r) G ck sk Z := by
  obtain ⟨e, rfl⟩ := hs_oc hc
  exact hs_st e rfl rfl h
theorem hs_bcret {x : Int32} {ty : FieldType} (hc : hs_re k pc = some (some ty)) (hx : eg_nr ty x = true) (h : Z (.inl (some (.int x)), G, ck, sk)) : et_go none d k pc L [.int x] G ck sk Z := by
  unfold hs_re at hc
  split at hc
  · rename_i e
    refine et_goR (u := (.inl (some (.int x)), G, ck, sk)) (fun q => ?_) h
    unfold eg_one
    rw [e]
    dsimp only
    rw [show eg_mr k = some ty from Option.some.inj hc]
    have e2 : eg_rr .ireturn (some ty) [.int x] = some (some (.int x)) := by
      cases ty <;> (unfold eg_rr; dsimp only; rw [if_pos hx])
    rw [e2]
  · cases hc
theorem rs_nr0 : eg_nr .byte (Int32.ofNat 0) = true := by decide +kernel
theorem rs_i2c (x : Int32) : eg_nr .char (x.toUInt32 % 65536).toInt32 = true := by
  unfold eg_nr
  refine decide_eq_true ?_
  show Value.int ((x.toUInt32 % 65536).toInt32.toUInt32 % 65536).toInt32 = _
  rw [UInt32.toUInt32_toInt32]
  congr 2
  apply UInt32.toNat_inj.mp
  simp
theorem rs_con {j : Nat} (hj : j < 56) : eg_at G (36 + j) = .inr (13, [.ref (92 + j), .int 0]) := by
  unfold eg_at
  rw [if_pos (show 36 + j < eg_NC from Nat.lt_of_lt_of_le (by omega : 36 + j < 92) (by decide))]
  unfold eg_con
  rw [if_neg (by omega), if_pos (show 36 + j < 36 + eg_NS from by show 36 + j < 36 + 56; omega)]
  show Sum.inr (13, [Value.ref (36 + j + 56), Value.int 0]) = _
  rw [show 36 + j + 56 = 92 + j by omega]
theorem rs_con2 {j : Nat} (hj : j < 56) : ∃ f, eg_at G (92 + j) = .inl (1, (rs_n j, .inl f)) := by
  unfold eg_at
  rw [if_pos (show 92 + j < eg_NC from Nat.lt_of_lt_of_le (by omega : 92 + j < 148) (by decide))]
  unfold eg_con
  rw [if_neg (by omega), if_neg (show ¬ 92 + j < 36 + eg_NS from by show ¬ 92 + j < 36 + 56; omega), if_pos (show 92 + j < 36 + 2 * eg_NS from by show 92 + j < 36 + 2 * 56; omega)]
  rw [show 92 + j - 36 - eg_NS = j from by show 92 + j - 36 - 56 = j; omega]
  exact ⟨_, rfl⟩
theorem rs_nlt {j : Nat} : rs_n j < 100 := by
  unfold rs_n
  rw [List.getD_eq_getElem?_getD]
  cases h : eg_by[j]? with
  | none => decide
  | some l =>
    have h9 : eg_by.all (fun l => decide (l.length < 100)) = true := by decide +kernel
    exact of_decide_eq_true (List.all_eq_true.mp h9 l (List.mem_of_getElem? h))
theorem rs_shr0 {x : Int32} : x >>> (Int32.ofNat 0 &&& 31) = x := by
  rw [show Int32.ofNat 0 &&& 31 = 0 from by decide +kernel]
  exact Int32.shiftRight_zero
theorem rs_coder (hG : 152 ≤ G.2) {j : Nat} (hj : j < 56) (h : Z (.inl (some (.int (Int32.ofNat 0))), G, 0, 0)) : et_go none d 295 0 [some (.ref (36 + j))] [] G 0 0 Z := by
  refine hs_gst (v := Value.int (Int32.ofNat 1)) (p := 3) (by decide +kernel) ?_
  refine hs_if0 (c := .eq) (t := 13) (f := 6) (by decide +kernel) (show ¬ (Int32.ofNat 1 = 0) by decide) ?_
  refine hs_aload (i := 0) (p := 7) (by decide +kernel) rfl ?_
  refine hs_get (ci := 13) (f := 1) (p := 10) (v := .int (Int32.ofNat 0)) (by decide +kernel) (rs_con hj) (by omega) rfl ?_
  refine hs_goto (p := 14) (by decide +kernel) ?_
  refine hs_bcret (ty := .byte) (by decide +kernel) rs_nr0 ?_
  exact h
theorem rs_isL (hG : 152 ≤ G.2) {j : Nat} (hj : j < 56) (h : Z (.inl (some (.int (Int32.ofNat 1))), G, 0, 0)) : et_go none d 297 0 [some (.ref (36 + j))] [] G 0 0 Z := by
  refine hs_gst (v := Value.int (Int32.ofNat 1)) (p := 3) (by decide +kernel) ?_
  refine hs_if0 (c := .eq) (t := 17) (f := 6) (by decide +kernel) (show ¬ (Int32.ofNat 1 = 0) by decide) ?_
  refine hs_aload (i := 0) (p := 7) (by decide +kernel) rfl ?_
  refine hs_get (ci := 13) (f := 1) (p := 10) (v := .int (Int32.ofNat 0)) (by decide +kernel) (rs_con hj) (by omega) rfl ?_
  refine hs_if0 (c := .ne) (t := 17) (f := 13) (by decide +kernel) (show ¬ (¬ Int32.ofNat 0 = 0) by decide) ?_
  refine hs_k (x := Int32.ofNat 1) (p := 14) (by decide +kernel) ?_
  refine hs_goto (p := 18) (by decide +kernel) ?_
  refine hs_zret (by decide +kernel) (.inr rfl) ?_
  exact h
theorem rs_len (hG : 152 ≤ G.2) {j : Nat} (hj : j < 56) (h : Z (.inl (some (.int (Int32.ofNat (rs_n j)))), G, 0, 0)) : et_go none (d + 1) 294 0 [some (.ref (36 + j))] [] G 0 0 Z := by
  obtain ⟨f, hf⟩ := rs_con2 (G := G) hj
  refine hs_aload (i := 0) (p := 1) (by decide +kernel) rfl ?_
  refine hs_get (ci := 13) (f := 0) (p := 4) (by decide +kernel) (rs_con hj) (by omega) rfl ?_
  refine hs_alen (p := 5) (by decide +kernel) hf (by omega) rfl ?_
  refine hs_aload (i := 0) (p := 6) (by decide +kernel) rfl ?_
  refine hs_callv (mi := 295) (na := 0) (ci := 13) (lk := 1) (lm := 1) (by decide +kernel) rfl rfl rfl rfl rfl rfl (by omega) (by rw [rs_con hj]; rfl) (rs_coder hG hj (hs_cb ?_))
  show et_go none _ 294 9 _ [.int (Int32.ofNat 0), .int (Int32.ofNat (rs_n j))] _ _ _ _
  refine hs_ishr (p := 10) (by decide +kernel) ?_
  rw [rs_shr0]
  refine hs_iret (by decide +kernel) ?_
  exact h
theorem rs_nn {a : Nat} (h : a < 2147483648) : ¬ Int32.ofNat a < 0 := by
  rw [show (0 : Int32) = Int32.ofNat 0 from rfl, hs_nlt h (by decide)]
  omega
theorem rs_chk0 {i n b : Nat} (hi : i < n) (hn : n < 1000) (h : Z (.inl (some (.int (Int32.ofNat i))), G, 0, 0)) : et_go none d 314 0 [some (.int (Int32.ofNat i)), some (.int (Int32.ofNat n)), some (.ref b)] [] G 0 0 Z := by
  refine hs_iload (i := 0) (p := 1) (by decide +kernel) rfl ?_
  refine hs_if0 (c := .lt) (t := 9) (f := 4) (by decide +kernel) (rs_nn (by omega)) ?_
  refine hs_iload (i := 0) (p := 5) (by decide +kernel) rfl ?_
  refine hs_iload (i := 1) (p := 6) (by decide +kernel) rfl ?_
  refine hs_br2n (c := .lt) (t := 16) (f := 9) (by decide +kernel) (by omega) (by omega) (fun (c6 : i < n) => ?_) (fun (c6 : ¬ (i < n)) => ?_)
  · refine hs_iload (i := 0) (p := 17) (by decide +kernel) rfl ?_
    refine hs_iret (by decide +kernel) ?_
    exact h
  · exact absurd hi c6
theorem rs_chk {i n : Nat} (hi : i < n) (hn : n < 1000) (h : Z (.inl none, G, 0, 0)) : et_go none (d + 1) 298 0 [some (.int (Int32.ofNat i)), some (.int (Int32.ofNat n))] [] G 0 0 Z := by
  refine hs_iload (i := 0) (p := 1) (by decide +kernel) rfl ?_
  refine hs_iload (i := 1) (p := 2) (by decide +kernel) rfl ?_
  refine hs_gst (v := Value.ref 151) (p := 5) (by decide +kernel) ?_
  refine hs_calls (mi := 314) (na := 3) (lk := 2) (lm := 3) (by decide +kernel) rfl rfl rfl rfl rfl rfl rfl (rs_chk0 hi hn (hs_cb ?_))
  show et_go none _ 298 8 _ [.int (Int32.ofNat i)] _ _ _ _
  refine hs_pop (p := 9) (by decide +kernel) ?_
  refine hs_vret (by decide +kernel) ?_
  exact h
theorem rs_lat (hG : 152 ≤ G.2) {j : Nat} (hj : j < 56) {i : Nat} (hi : i < rs_n j) (h : ∀ x, eg_nr .char x = true → Z (.inl (some (.int x)), G, 0, 0)) : et_go none (d + 2) 299 0 [some (.ref (92 + j)), some (.int (Int32.ofNat i))] [] G 0 0 Z := by
  obtain ⟨f, hf⟩ := rs_con2 (G := G) hj
  have hn : rs_n j < 100 := rs_nlt
  refine hs_iload (i := 1) (p := 1) (by decide +kernel) rfl ?_
  refine hs_aload (i := 0) (p := 2) (by decide +kernel) rfl ?_
  refine hs_alen (p := 3) (by decide +kernel) hf (by omega) rfl ?_
  refine hs_calls (mi := 298) (na := 2) (lk := 2) (lm := 2) (by decide +kernel) rfl rfl rfl rfl rfl rfl rfl (rs_chk hi (by omega) (hs_cb ?_))
  show et_go none _ 299 6 _ [] _ _ _ _
  refine hs_aload (i := 0) (p := 7) (by decide +kernel) rfl ?_
  refine hs_iload (i := 1) (p := 8) (by decide +kernel) rfl ?_
  refine hs_bald (p := 9) (by decide +kernel) hf (by omega) (by omega) hi ?_
  refine hs_k (x := Int32.ofNat 255) (p := 12) (by decide +kernel) ?_
  refine hs_iand (p := 13) (by decide +kernel) ?_
  refine hs_i2c (p := 14) (by decide +kernel) ?_
  refine hs_bcret (ty := .char) (by decide +kernel) (rs_i2c _) ?_
  exact h _ (rs_i2c _)
theorem rs_chr (hG : 152 ≤ G.2) {j : Nat} (hj : j < 56) {i : Nat} (hi : i < rs_n j) (h : ∀ x, Z (.inl (some (.int x)), G, 0, 0)) : et_go none (d + 3) 296 0 [some (.ref (36 + j)), some (.int (Int32.ofNat i))] [] G 0 0 Z := by
  refine hs_aload (i := 0) (p := 1) (by decide +kernel) rfl ?_
  refine hs_callv (mi := 297) (na := 0) (ci := 13) (lk := 2) (lm := 1) (by decide +kernel) rfl rfl rfl rfl rfl rfl (by omega) (by rw [rs_con hj]; rfl) (rs_isL hG hj (hs_cb ?_))
  show et_go none _ 296 4 _ [.int (Int32.ofNat 1)] _ _ _ _
  refine hs_if0 (c := .eq) (t := 16) (f := 7) (by decide +kernel) (show ¬ (Int32.ofNat 1 = 0) by decide) ?_
  refine hs_aload (i := 0) (p := 8) (by decide +kernel) rfl ?_
  refine hs_get (ci := 13) (f := 0) (p := 11) (by decide +kernel) (rs_con hj) (by omega) rfl ?_
  refine hs_iload (i := 1) (p := 12) (by decide +kernel) rfl ?_
  refine hs_calls (mi := 299) (na := 2) (lk := 2) (lm := 2) (by decide +kernel) rfl rfl rfl rfl rfl rfl rfl (rs_lat hG hj hi (fun x hx => hs_cb ?_))
  show et_go none _ 296 15 _ [.int x] _ _ _ _
  refine hs_bcret (ty := .char) (by decide +kernel) hx ?_
  exact h _
end RSA
end
