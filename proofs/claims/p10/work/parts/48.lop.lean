/-! LOOPS, AND RUNS -/
section ETQ
variable {T : List et_D} {M : et_M} {Ks : List et_Co} {an : Nat → Nat → Option et_A} {K : et_K} {R : List Value} {E : List et_N} {C : et_C} {L L2 : eg_Ls} {st st2 : List Value} {G : eg_G} {w w1 w2 : et_Wd} {Z : eg_O → Prop} {sc : eg_Sc} {scr : Option Nat} {rec : et_Rec} {hd : List et_L} {os : List et_O} {d k pc ck sk c0 s0 d2 : Nat}
theorem et_lr_get : ∀ {L L2 : eg_Ls} {i : Nat} {o : Option Value}, et_lr R L L2 → L[i]? = some o → ∃ c, L2[i]? = some c ∧ et_or R o c
  | [], _, _, _, _, h => by cases h
  | _ :: _, _, 0, _, ⟨x, r, e, hv, _⟩, hk => by
    subst e
    cases hk
    exact ⟨x, rfl, hv⟩
  | _ :: _, _, i + 1, _, ⟨x, r, e, _, h⟩, hk => by
    subst e
    exact et_lr_get (i := i) h hk
theorem et_lr_of : ∀ {L L2 : eg_Ls}, L2.length = L.length → (∀ (i : Nat) (o : Option Value), L[i]? = some o → ∃ c, L2[i]? = some c ∧ et_or R o c) → et_lr R L L2
  | [], L2, hl, _ => List.length_eq_zero_iff.mp hl
  | o :: t, L2, hl, h => by
    cases L2 with
    | nil => cases hl
    | cons c s =>
      obtain ⟨c', e, ho⟩ := h 0 o rfl
      cases e
      exact ⟨c, s, rfl, ho, et_lr_of (Nat.succ.inj hl) (fun i o hi => h (i + 1) o hi)⟩
theorem et_fa_vals : ∀ {rs : List (Nat × et_P)}, et_fa E L rs = true → et_lr R L L2 → et_eo K R E → (∀ a, a < 36 → K a = some 0) → ∃ Rf : List Value, Rf.length = rs.length ∧ ∀ (j i : Nat) (p : et_P), rs[j]? = some (i, p) → ∃ v, Rf[j]? = some v ∧ et_v K p v ∧ L2[i]? = some (some v)
  | [], _, _, _, _ => ⟨[], rfl, fun _ _ _ h => by cases h⟩
  | q :: t, h, hL, hE, hW => by
    unfold et_fa at h
    rw [List.all_cons, Bool.and_eq_true] at h
    obtain ⟨Rf, h1, h2⟩ := et_fa_vals (rs := t) h.2 hL hE hW
    have h3 := h.1
    split at h3
    · rename_i v hv
      rw [Bool.and_eq_true] at h3
      obtain ⟨c, e, x, ex, hx⟩ := et_lr_get hL hv
      subst ex
      refine ⟨x :: Rf, by rw [List.length_cons, List.length_cons, h1], fun j i p hj => ?_⟩
      cases j with
      | zero =>
        cases hj
        exact ⟨x, rfl, et_ft_ok h3.1 hE hW hx, e⟩
      | succ j => exact h2 j i p hj
    · cases h3
theorem et_rp_E : ∀ {rs : List (Nat × et_P)} {E F : List et_N} {L L' : eg_Ls}, et_rp E L rs = some (F, L') → F = E ++ rs.map (fun q => (q.2, none)) ∧ L'.length = L.length ∧ ∀ i : Nat, (¬ ∃ q ∈ rs, q.1 = i) → L'[i]? = L[i]?
  | [], E, F, L, L', h => by
    cases h
    exact ⟨(List.append_nil _).symm, rfl, fun _ _ => rfl⟩
  | (i0, p) :: t, E, F, L, L', h => by
    unfold et_rp at h
    split at h
    · obtain ⟨h1, h2, h3⟩ := et_rp_E h
      refine ⟨by rw [h1, List.append_assoc]; rfl, by rw [h2, List.length_set], fun i hi => ?_⟩
      rw [h3 i (fun ⟨q, hq, e⟩ => hi ⟨q, List.mem_cons_of_mem _ hq, e⟩), List.getElem?_set]
      split
      · rename_i e
        exact absurd ⟨(i0, p), List.mem_cons_self, e⟩ hi
      · rfl
    · cases h
theorem et_rp_lr : ∀ {rs : List (Nat × et_P)} {R Rf : List Value} {E F : List et_N} {L L' L2 : eg_Ls}, et_rp E L rs = some (F, L') → R.length = E.length → F.length < 4294967296 → Rf.length = rs.length → L2.length = L.length → (∀ (i : Nat) (o : Option Value), L[i]? = some o → (∃ q ∈ rs, q.1 = i) ∨ ∃ c, L2[i]? = some c ∧ et_or (R ++ Rf) o c) → (∀ (j i : Nat) (p : et_P), rs[j]? = some (i, p) → ∃ v, Rf[j]? = some v ∧ et_v K p v ∧ L2[i]? = some (some v)) → et_lr (R ++ Rf) L' L2
  | [], R, Rf, E, F, L, L', L2, h, hR, hF, hl, hL, ho, hv => by
    cases h
    refine et_lr_of hL (fun i o hi => ?_)
    rcases ho i o hi with ⟨q, hq, -⟩ | h
    · cases hq
    · exact h
  | (i0, p) :: t, R, [], E, F, L, L', L2, h, hR, hF, hl, hL, ho, hv => by cases hl
  | (i0, p) :: t, R, v :: Rf, E, F, L, L', L2, h, hR, hF, hl, hL, ho, hv => by
    have hF0 := (et_rp_E h).1
    unfold et_rp at h
    split at h
    · rename_i hlt
      obtain ⟨v', e1, e2, e3⟩ := hv 0 i0 p rfl
      cases e1
      have hE1 : E.length < 4294967296 := by
        rw [hF0, List.length_append] at hF
        omega
      have ea : R ++ v :: Rf = (R ++ [v]) ++ Rf := by rw [List.append_assoc]; rfl
      rw [ea] at ho ⊢
      refine et_rp_lr (R := R ++ [v]) (L2 := L2) h (by rw [List.length_append, List.length_append, hR]; rfl) hF (Nat.succ.inj hl) (by rw [List.length_set]; exact hL) (fun i o hi => ?_) (fun j i p' hj => hv (j + 1) i p' hj)
      rw [List.getElem?_set] at hi
      split at hi
      · rename_i e
        subst e
        try rw [if_pos hlt] at hi
        cases hi
        exact .inr ⟨some v, e3, v, rfl, et_vr_app (et_tk_ok e2 hR hE1) Rf⟩
      · rename_i e
        rcases ho i o hi with ⟨q, hq, e9⟩ | h9
        · rcases List.mem_cons.mp hq with rfl | hq
          · exact absurd e9 e
          · exact .inl ⟨q, hq, e9⟩
        · exact .inr h9
    · cases h
theorem et_eo_rp {rs : List (Nat × et_P)} : ∀ {R Rf : List Value} {E : List et_N}, et_eo K R E → Rf.length = rs.length → (∀ (j i : Nat) (p : et_P), rs[j]? = some (i, p) → ∃ v, Rf[j]? = some v ∧ et_v K p v) → et_eo K (R ++ Rf) (E ++ rs.map (fun q => (q.2, none))) := by
  induction rs with
  | nil =>
    intro R Rf E hE hl _
    rw [List.length_eq_zero_iff.mp hl, List.map_nil, List.append_nil, List.append_nil]
    exact hE
  | cons q t ih =>
    intro R Rf E hE hl hv
    cases Rf with
    | nil => cases hl
    | cons v Rf =>
      obtain ⟨i, p⟩ := q
      obtain ⟨v', e1, e2⟩ := hv 0 i p rfl
      cases e1
      have h1 := ih (et_eo_mono hE e2) (Nat.succ.inj hl) (fun j i p hj => hv (j + 1) i p hj)
      rw [List.append_assoc, List.append_assoc] at h1
      exact h1
theorem et_co_app {C : et_C} (h : et_co R G C) (R1 : List Value) : et_co (R ++ R1) G C := fun e he => by
  obtain ⟨a, x, q1, q0, q2, q3⟩ := h e he
  exact ⟨a, x, et_get_app q1 R1, q0, q2, et_vr_app q3 R1⟩
theorem et_tk_take {n : Nat} {v x : Value} {Rf : List Value} (h : et_tb n v = true) (hn : n ≤ R.length) (hv : et_vr R v x) : et_vr (R.take n ++ Rf) v x := by
  have key : ∀ (k : Nat) (y : Value), k < n → R[k]? = some y → (R.take n ++ Rf)[k]? = some y := fun k y hk hy => by
    rw [List.getElem?_append_left (by rw [List.length_take]; omega), List.getElem?_take, if_pos hk]
    exact hy
  cases v
  case float k =>
    obtain ⟨y, e, hy⟩ := hv
    exact ⟨y, e, key _ _ (of_decide_eq_true h) hy⟩
  case double k =>
    obtain ⟨y, e, hy⟩ := hv
    exact ⟨y, e, key _ _ (of_decide_eq_true h) hy⟩
  case retAddr k => exact ⟨hv.1, key _ _ (of_decide_eq_true h) hv.2⟩
  all_goals exact hv
theorem et_lr_fg : ∀ {L L2 : eg_Ls} (i : Nat), et_lr R L L2 → et_lr R (L.set i none) L2
  | [], _, _, h => h
  | _ :: _, _, 0, ⟨x, r, e, _, h⟩ => ⟨x, r, e, trivial, h⟩
  | _ :: _, _, i + 1, ⟨x, r, e, hx, h⟩ => ⟨x, r, e, hx, et_lr_fg i h⟩
theorem et_dl_lr : ∀ {ds : List Nat} {L L2 : eg_Ls}, et_lr R L L2 → et_lr R (et_dl L ds) L2
  | [], _, _, h => h
  | i :: t, _, _, h => et_dl_lr (ds := t) (et_lr_fg i h)
/-- a back edge -/
theorem et_hc_ok {h : et_L} (hc : et_hc h E C L ck sk = true) (hpc : h.1 = pc) (hI : et_I T w.1 w.2.1 E C L [] w.2.2 L2 []) (h1 : c0 ≤ ck) (h2 : s0 ≤ sk) (hh : et_hd T M sc d2 k h w Z) : et_go sc d2 k pc L2 [] w.2.2 c0 s0 Z := by
  obtain ⟨p0, n0, hE, hC, hL, rs, m, hk, hs⟩ := h
  have hpc : p0 = pc := hpc
  subst hpc
  obtain ⟨gH, gE, gC, gL, -⟩ := hI
  unfold et_hc at hc
  dsimp only at hc
  simp only [Bool.and_eq_true] at hc
  obtain ⟨⟨a1, a2⟩, a3, a4, a5, a6, a7⟩ := hc
  have a1 := of_decide_eq_true a1
  have a5 := of_decide_eq_true a5
  have a6 := of_decide_eq_true a6
  obtain ⟨hn, hh⟩ := hh
  have hn0 : n0 ≤ w.2.1.length := by omega
  obtain ⟨Rf, b1, b2⟩ := et_fa_vals a3 gL gE gH.2.1
  refine hh w.1 w.2.2 Rf L2 c0 s0 et_ex.rf et_fr.rf gH b1 (fun e he => ?_) (by rw [et_lr_len gL]; exact a1) (fun i v hi => ?_) b2 (Nat.le_trans h1 a5) (Nat.le_trans h2 a6) ?_
  · have h9 := List.all_eq_true.mp a4 e he
    simp only [Bool.and_eq_true] at h9
    obtain ⟨q1, q2, q3⟩ := h9
    have q1 : e ∈ C := List.contains_iff_mem.mp q1
    obtain ⟨a, x, r1, r0, r2, r3⟩ := gC e q1
    refine ⟨a, x, ?_, r0, r2, et_tk_take q3 hn0 r3⟩
    have q2 := of_decide_eq_true q2
    rw [List.getElem?_append_left (by rw [List.length_take]; omega), List.getElem?_take, if_pos q2]
    exact r1
  · have hil : i < L.length := by
      have := (List.getElem?_eq_some_iff.mp hi).1
      omega
    have h9 := List.all_eq_true.mp a2 i (List.mem_range.mpr hil)
    rw [Bool.or_eq_true] at h9
    rcases h9 with h9 | h9
    · obtain ⟨q, hq, hq2⟩ := List.any_eq_true.mp h9
      exact .inl ⟨q, hq, eq_of_beq hq2⟩
    · rw [hi] at h9
      dsimp only at h9
      rw [Bool.and_eq_true] at h9
      have hLi := of_decide_eq_true h9.1
      obtain ⟨c, e, x, ex, hx⟩ := et_lr_get gL hLi
      subst ex
      exact .inr ⟨x, e, et_tk_take h9.2 hn0 hx⟩
  · split at a7
    · rename_i i p hrs
      split at a7
      · rename_i kk hLi
        split at a7
        · rename_i sp j c hEk
          rw [Bool.and_eq_true] at a7
          have g1 := of_decide_eq_true a7.1
          subst g1
          obtain ⟨v, v1, v2, v3⟩ := b2 _ i p hrs
          obtain ⟨cc, e, x, ex, hx⟩ := et_lr_get gL hLi
          subst ex
          rw [e] at v3
          cases v3
          obtain ⟨x1, ex1, hx1⟩ := hx
          subst ex1
          obtain ⟨y, y1, -, y3⟩ := gE.2 _ _ _ hEk
          obtain ⟨z, z0, z1, z2, z3⟩ := y3 _ _ rfl
          rw [hx1] at y1
          cases y1
          cases z1
          refine ⟨z0, x1, z2, v1, ?_⟩
          have g3 := a7.2
          unfold et_ms
          split
          · rename_i hm
            rw [if_pos hm] at g3
            have := of_decide_eq_true g3
            omega
          · rename_i hm
            rw [if_neg hm] at g3
            have := of_decide_eq_true g3
            omega
        · cases a7
      · cases a7
    · cases a7
def et_mu (m : Nat) (v : Option Value) : Nat := match v with
  | some (.int x) => if m % 2 = 0 then (et_mx - x.toInt).toNat else (x.toInt - et_mn).toNat
  | _ => 0
theorem et_mu_lt {m : Nat} {x0 x1 : Int32} (h : et_ms m x0 x1) : et_mu m (some (.int x1)) < et_mu m (some (.int x0)) := by
  unfold et_ms at h
  unfold et_mu
  dsimp only
  have h0 := et_any x0
  have h1 := et_any x1
  split at h
  · rename_i hm
    rw [if_pos hm, if_pos hm]
    omega
  · rename_i hm
    rw [if_neg hm, if_neg hm]
    omega
theorem et_spl_ok {v : Value} {x : Int32} (hE : et_eo K R E) (hv : et_vr R v (.int x)) : ∀ (n : Nat) (j : Int), j ≤ x.toInt → x.toInt < j + n → ∃ F ∈ et_spl E v n j, et_eo K R F
  | 0, j, h1, h2 => absurd h2 (by omega)
  | n + 1, j, h1, h2 => by
    unfold et_spl
    by_cases e : x.toInt = j
    · obtain ⟨F, hF, hF2⟩ := et_nw_ok (lo := j) (hi := j) hE hv (by omega) (by omega)
      rw [hF]
      exact ⟨F, List.mem_append_left _ List.mem_cons_self, hF2⟩
    · obtain ⟨F, hF, hF2⟩ := et_spl_ok hE hv n (j + 1) (by omega) (by omega)
      exact ⟨F, List.mem_append_right _ hF, hF2⟩
theorem et_one_ok (hr : et_Ok T M rec) (hK : ∀ q ∈ Ks, et_cv T q) : et_Ok T M (et_one T M Ks an rec) := by
  intro hd scr E C d k pc L st ck sk os h sc w L2 st2 c0 s0 d2 Z hI h1 h2 hd2 hso hh hZ
  unfold et_one at h
  split at h
  · rename_i hx hf
    split at h
    · rename_i hc
      cases h
      obtain ⟨rfl, hc⟩ := hc
      have hst : st2 = [] := hI.2.2.2.2
      subst hst
      have hp9 : (hx.1 == pc) = true := List.find?_some (p := fun h : et_L => h.1 == pc) hf
      exact et_hc_ok hc (eq_of_beq hp9) hI h1 h2 (hh hx (List.mem_of_find?_eq_some hf))
    · cases h
  · split at h
    · rename_i rs m Ml ds han
      split at h
      · split at h
        · rename_i v hLv
          split at h
          · rename_i lo hi hb
            obtain ⟨gH, gE, gC, gL, gs⟩ := hI
            obtain ⟨c, e, y, ey, hy⟩ := et_lr_get gL hLv
            obtain ⟨x, rfl, x1, x2⟩ := et_ib_ok hb gE hy
            obtain ⟨F, hF, hF2⟩ := et_spl_ok gE hy (hi - lo + 1).toNat lo x1 (by omega)
            obtain ⟨os1, q1, q2⟩ := et_bd_mem h hF
            exact et_ins_ok hr hK _ _ _ _ _ _ _ _ _ _ _ _ q1 sc w L2 st2 c0 s0 d2 Z ⟨gH, hF2, gC, gL, gs⟩ h1 h2 hd2 hso hh (fun o ho => hZ o (q2 o ho))
          · cases h
        · cases h
      split at h
      · rename_i F L' hrp
        split at h
        · rename_i hc
          obtain ⟨rfl, hfa, hFl⟩ := hc
          have hst : st2 = [] := hI.2.2.2.2
          subst hst
          obtain ⟨gH, gE, gC, gL, -⟩ := hI
          have gL := et_dl_lr (ds := ds) gL
          obtain ⟨rF, rL, rO⟩ := et_rp_E hrp
          have hCk : et_co w.2.1 w.2.2 (et_kpM E Ml C) := fun e he => gC e (List.mem_filter.mp he).1
          have claim : ∀ (N : Nat) (K' : et_K) (G' : eg_G) (Rf : List Value) (L3 : eg_Ls) (c s : Nat), et_mu m Rf[m / 2]? ≤ N → et_ex w.1 K' → et_fr M w.1 w.2.2 G' → et_H T K' G' → Rf.length = rs.length → et_co (w.2.1 ++ Rf) G' (et_kpM E Ml C) → L3.length = L'.length → (∀ (i : Nat) (v : Value), L'[i]? = some (some v) → (∃ q ∈ rs, q.1 = i) ∨ ∃ x, L3[i]? = some (some x) ∧ et_vr (w.2.1 ++ Rf) v x) → (∀ (j i : Nat) (p : et_P), rs[j]? = some (i, p) → ∃ v, Rf[j]? = some v ∧ et_v K' p v ∧ L3[i]? = some (some v)) → c ≤ ck → s ≤ sk → et_go sc d2 k pc L3 [] G' c s Z := by
            intro N
            induction N with
            | zero =>
              intro K' G' Rf L3 c s hmu g1 g2 g3 g4 g5 g6 g7 g8 g9 g10
              have hle : et_le M w (K', w.2.1 ++ Rf, G') := ⟨g1, ⟨Rf, rfl⟩, g2⟩
              refine et_ins_ok hr hK _ _ _ _ _ _ _ _ _ _ _ _ h sc (K', w.2.1 ++ Rf, G') L3 [] c s d2 Z ⟨g3, by rw [rF]; exact et_eo_rp (et_eo_ex g1 gE) g4 (fun j i p hj => by obtain ⟨v, v1, v2, -⟩ := g8 j i p hj; exact ⟨v, v1, v2⟩), g5, et_rp_lr (K := K') hrp gE.1 hFl g4 (by rw [g6, rL]) (fun i o hi => ?_) g8, rfl⟩ g9 g10 hd2 (et_so_app hso Rf) (fun h9 hm => ?_) (fun o ho w' u hl hen => hZ o ho w' u (hle.tr hl) hen)
              · by_cases hq : ∃ q ∈ rs, q.1 = i
                · exact .inl hq
                · have hil : i < L3.length := by
                    have := (List.getElem?_eq_some_iff.mp hi).1
                    rw [g6, rL]
                    exact this
                  cases o with
                  | none => exact .inr ⟨_, List.getElem?_eq_getElem hil, trivial⟩
                  | some v =>
                    rw [← rO i hq] at hi
                    rcases g7 i v hi with h9 | ⟨x, e, hx⟩
                    · exact .inl h9
                    · exact .inr ⟨some x, e, x, rfl, hx⟩
              · rcases List.mem_cons.mp hm with rfl | hm
                · refine ⟨by dsimp only; rw [List.length_append, g4, gE.1]; exact Nat.le_refl _, fun K2 G2 Rf2 L4 c' s' q1 q2 q3 q4 q5 q6 q7 q8 q9 q10 q11 => ?_⟩
                  exfalso
                  obtain ⟨x0, x1, y1, y2, y3⟩ := q11
                  have e9 : (w.2.1 ++ Rf)[E.length + m / 2]? = Rf[m / 2]? := by
                    rw [← gE.1, List.getElem?_append_right (Nat.le_add_right _ _), Nat.add_sub_cancel_left]
                  rw [show (w.2.1 ++ Rf)[E.length + m / 2]? = some (.int x0) from y1] at e9
                  rw [← e9] at hmu
                  have := et_mu_lt y3
                  omega
                · exact et_hd_le (hh h9 hm) hle
            | succ N ih =>
              intro K' G' Rf L3 c s hmu g1 g2 g3 g4 g5 g6 g7 g8 g9 g10
              have hle : et_le M w (K', w.2.1 ++ Rf, G') := ⟨g1, ⟨Rf, rfl⟩, g2⟩
              refine et_ins_ok hr hK _ _ _ _ _ _ _ _ _ _ _ _ h sc (K', w.2.1 ++ Rf, G') L3 [] c s d2 Z ⟨g3, by rw [rF]; exact et_eo_rp (et_eo_ex g1 gE) g4 (fun j i p hj => by obtain ⟨v, v1, v2, -⟩ := g8 j i p hj; exact ⟨v, v1, v2⟩), g5, et_rp_lr (K := K') hrp gE.1 hFl g4 (by rw [g6, rL]) (fun i o hi => ?_) g8, rfl⟩ g9 g10 hd2 (et_so_app hso Rf) (fun h9 hm => ?_) (fun o ho w' u hl hen => hZ o ho w' u (hle.tr hl) hen)
              · by_cases hq : ∃ q ∈ rs, q.1 = i
                · exact .inl hq
                · have hil : i < L3.length := by
                    have := (List.getElem?_eq_some_iff.mp hi).1
                    rw [g6, rL]
                    exact this
                  cases o with
                  | none => exact .inr ⟨_, List.getElem?_eq_getElem hil, trivial⟩
                  | some v =>
                    rw [← rO i hq] at hi
                    rcases g7 i v hi with h9 | ⟨x, e, hx⟩
                    · exact .inl h9
                    · exact .inr ⟨some x, e, x, rfl, hx⟩
              · rcases List.mem_cons.mp hm with rfl | hm
                · refine ⟨by dsimp only; rw [List.length_append, g4, gE.1]; exact Nat.le_refl _, fun K2 G2 Rf2 L4 c' s' q1 q2 q3 q4 q5 q6 q7 q8 q9 q10 q11 => ?_⟩
                  obtain ⟨x0, x1, y1, y2, y3⟩ := q11
                  have e9 : (w.2.1 ++ Rf)[E.length + m / 2]? = Rf[m / 2]? := by
                    rw [← gE.1, List.getElem?_append_right (Nat.le_add_right _ _), Nat.add_sub_cancel_left]
                  rw [show (w.2.1 ++ Rf)[E.length + m / 2]? = some (.int x0) from y1] at e9
                  rw [← e9] at hmu
                  have h8 := et_mu_lt y3
                  have et : (w.2.1 ++ Rf).take E.length = w.2.1 := by rw [← gE.1, List.take_left']; rfl
                  have q5 : et_co ((w.2.1 ++ Rf).take E.length ++ Rf2) G2 (et_kpM E Ml C) := q5
                  rw [et] at q5
                  have q7 : ∀ (i : Nat) (v : Value), L'[i]? = some (some v) → (∃ q ∈ rs, q.1 = i) ∨ ∃ x, L4[i]? = some (some x) ∧ et_vr ((w.2.1 ++ Rf).take E.length ++ Rf2) v x := q7
                  rw [et] at q7
                  exact ih K2 G2 Rf2 L4 c' s' (by rw [y2]; omega) (g1.tr q1) (g2.tr g1 q2) q3 q4 q5 q6 q7 q8 q9 q10
                · exact et_hd_le (hh h9 hm) hle
          obtain ⟨Rf, b1, b2⟩ := et_fa_vals hfa gL gE gH.2.1
          refine claim _ w.1 w.2.2 Rf L2 c0 s0 (Nat.le_refl _) et_ex.rf et_fr.rf gH b1 (et_co_app hCk Rf) (by rw [et_lr_len gL, rL]) (fun i v hi => ?_) b2 h1 h2
          by_cases hq : ∃ q ∈ rs, q.1 = i
          · exact .inl hq
          · rw [rO i hq] at hi
            obtain ⟨c, e, x, ex, hx⟩ := et_lr_get gL hi
            subst ex
            exact .inr ⟨x, e, et_vr_app hx Rf⟩
        · cases h
      · cases h
    · exact et_ins_ok hr hK _ _ _ _ _ _ _ _ _ _ _ _ h sc w L2 st2 c0 s0 d2 Z hI h1 h2 hd2 hso hh hZ
theorem et_rn_ok (hK : ∀ q ∈ Ks, et_cv T q) : ∀ f : Nat, et_Ok T M (et_rn T M Ks an f)
  | 0 => fun _ _ _ _ _ _ _ _ _ _ _ _ h => (nomatch h)
  | f + 1 => et_one_ok (et_rn_ok hK f) hK
end ETQ
