/-! FUNCTIONAL: the reference's readAtom, readCond -/
theorem cmp_1 {T r : List sp_T} {a : sp_E → Int64} (h : sp_sum T = some (a, r)) (h1 : ¬ wat r 0 = 25) (h2 : ¬ wat r 0 = 26) : sp_cmp T = none := by
  unfold sp_cmp
  rw [h]
  cases r with
  | nil => rfl
  | cons t r =>
    obtain ⟨w, x⟩ := t
    exact if_neg (fun h => h.elim h1 h2)
theorem cmp_n {T r : List sp_T} {a : sp_E → Int64} {w : Nat} (h : sp_sum T = some (a, r)) (h1 : wat r 0 = w) (hw : w = 25 ∨ w = 26) (h2 : sp_sum (r.drop 1) = none) : sp_cmp T = none := by
  unfold sp_cmp
  rw [h]
  cases r with
  | nil => rfl
  | cons t r =>
    obtain ⟨w', x⟩ := t
    have h1 : w' = w := h1
    have h3 : sp_sum r = none := h2
    clear h2
    subst h1
    show (if _ then _ else _) = none
    rw [if_pos hw, h3]
theorem cmp_lt {T r r3 : List sp_T} {a c : sp_E → Int64} (h : sp_sum T = some (a, r)) (h1 : wat r 0 = 25) (h2 : sp_sum (r.drop 1) = some (c, r3)) : sp_cmp T = some (fun e => decide (a e < c e), r3) := by
  unfold sp_cmp
  rw [h]
  cases r with
  | nil => exact absurd h1 (by decide)
  | cons t r =>
    obtain ⟨w', x⟩ := t
    have h1 : w' = 25 := h1
    have h3 : sp_sum r = some (c, r3) := h2
    clear h2
    subst h1
    show (if _ then _ else _) = _
    rw [if_pos (.inl rfl), h3]
    rfl
theorem cmp_gt {T r r3 : List sp_T} {a c : sp_E → Int64} (h : sp_sum T = some (a, r)) (h1 : wat r 0 = 26) (h2 : sp_sum (r.drop 1) = some (c, r3)) : sp_cmp T = some (fun e => decide (c e < a e), r3) := by
  unfold sp_cmp
  rw [h]
  cases r with
  | nil => exact absurd h1 (by decide)
  | cons t r =>
    obtain ⟨w', x⟩ := t
    have h1 : w' = 26 := h1
    have h3 : sp_sum r = some (c, r3) := h2
    clear h2
    subst h1
    show (if _ then _ else _) = _
    rw [if_pos (.inr rfl), h3]
    rfl
theorem at_oc {T r : List sp_T} {m : Nat} {A C : sp_P (sp_E → Bool)} {f : sp_E → Bool} (h : wat T 0 = 23) (hC : C (T.drop 1) = some (f, r)) (hw : ¬ wat r 0 = 24) : sp_at (m + 1) A C T = none := by
  refine (sp_at_op (L := T) (x := 0) h).trans ?_
  rw [if_neg (Nat.succ_ne_zero m), show C (T.drop (0 + 1)) = some (f, r) from hC]
  cases r with
  | nil => rfl
  | cons t r =>
    obtain ⟨w', x⟩ := t
    exact if_neg hw
theorem at_oy {T r : List sp_T} {m : Nat} {A C : sp_P (sp_E → Bool)} {f : sp_E → Bool} (h : wat T 0 = 23) (hC : C (T.drop 1) = some (f, r)) (hw : wat r 0 = 24) : sp_at (m + 1) A C T = some (f, r.drop 1) := by
  refine (sp_at_op (L := T) (x := 0) h).trans ?_
  rw [if_neg (Nat.succ_ne_zero m), show C (T.drop (0 + 1)) = some (f, r) from hC]
  cases r with
  | nil => exact absurd hw (by decide)
  | cons t r =>
    obtain ⟨w', x⟩ := t
    exact if_pos hw
theorem dnB_to {pl w v : Nat} (hpl : pl ≤ 2) (h : sp_tw w = true) (hok : tz_ok pl w = true) (hw : ¬ w = 2) : dnB pl (fun e => e.2.1 w) [(10 + (w - tbw pl), v)] := fun E st => (dnB_tag (v := v) hpl h hok E st).trans (by
  show b01 (if w = 2 then _ else _) :: st = b01 (E.2.1 w) :: st
  rw [if_neg hw])
theorem dnB_t2 {pl w v : Nat} (hpl : pl ≤ 2) (h : sp_tw w = true) (hok : tz_ok pl w = true) (hw : w = 2) : dnB pl (fun e => e.2.2 v) [(10 + (w - tbw pl), v)] := fun E st => (dnB_tag (v := v) hpl h hok E st).trans (by
  show b01 (if w = 2 then _ else _) :: st = b01 (E.2.2 v) :: st
  rw [if_pos hw])
theorem tag_c {w v : Nat} {r : List sp_T} (hw : w = 2) (hv : v ≤ 15) : sp_tag w ((33, some v) :: r) = some (fun e => e.2.2 v, r) := by
  subst hw
  exact sp_tag_c (L := (33, some v) :: r) (x := 0) rfl hv
theorem tag_n {w : Nat} {T : List sp_T} (hw : w = 2) (h : ∀ x r, T = (33, some x) :: r → ¬ x ≤ 15) : sp_tag w T = none := by
  subst hw
  refine sp_tag_n (L := T) (x := 0) (fun v hv => ?_)
  exact h v (T.drop 1) (dr_s (x := 0) hv)
theorem fr_sum9 {m : Nat} : rP 199 9 m dnS sp_sum := fr_sum (Nat.le_refl 8) fr_part
theorem rP.up {α : Type} {mi D D' m : Nat} {R : Nat → α → List (Nat × Nat) → Prop} {sp : sp_P α} (h : rP mi D m R sp) (hD : D ≤ D') : rP mi D' m R sp := by
  intro K G b d2 am aw tm n p pl k dp hH k_am m4 k_tm m7 hn ht hb m6 ha hpl m13 k_aw m1 m12 m9 hk hdm hd
  exact h K G b d2 am aw tm n p pl k dp hH k_am m4 k_tm m7 hn ht hb m6 ha hpl m13 k_aw m1 m12 m9 hk hdm (Nat.le_trans hD hd)

section FWA
variable {K : et_K} {G G0 : eg_G} {b : Nat → Nat} {d2 d am aw tm n p pl k dp m : Nat}
theorem fr_atom (ih : ∀ m1, m = m1 + 1 → rP 195 (10 + 3 * m1) m1 dnB (sp_A m1) ∧ rP 193 (12 + 3 * m1) m1 dnB (sp_C m1)) : rP 195 (10 + 3 * m) m dnB (sp_A m) := by
  intro K G b d2 am aw tm n p pl k dp hH k_am m4 k_tm m7 hn ht hb m6 ha hpl m13 k_aw m1 m12 m9 hk hdm hd
  obtain ⟨d, rfl⟩ : ∃ d, d2 = d + 10 := ⟨d2 - 10, by omega⟩
  obtain ⟨AA, CC, hAC⟩ := sp_A_at m
  rw [show eg_mL 195 = 3 from by decide +kernel]
  show et_go none (d + 10) 195 0 [some (.ref am), none, none] [] G 0 0 (xw_Z _ _ _ _)
  have hne : ¬ aw = am := hi_ne k_aw k_am (by decide)
  have lt_am := (hH.2.2 _ _ k_am).1
  have lt_tm := (hH.2.2 _ _ k_tm).1
  have lt_aw := (hH.2.2 _ _ k_aw).1
  have hX : xf (fun c j => (c = am ∧ j = 6) ∨ (c = am ∧ j = 8) ∨ (c = am ∧ j = 9) ∨ (c = am ∧ j = 12) ∨ (c = aw ∧ (11941 + 2 * k) ≤ j)) G G := xf.rf
  refine hs_aload (i := 0) (p := 1) (by decide +kernel) rfl ?_
  refine hs_k (x := Int32.ofNat 40) (p := 3) (by decide +kernel) ?_
  refine ht_callv (T := et_TT) (t := 13) (mi := 196) (na := 1) (ci := 11) (lk := 3) (lm := 2) (L0 := eg_en (eg_mL 196) [.ref am, .int (Int32.ofNat 40)]) (by decide +kernel) rfl hH k_am rfl rfl rfl rfl rfl (by rw [show eg_mL 196 = 2 from by decide +kernel]; first | done | rfl) ?_
  refine (pa_sign (w := 23) (c := 40) hH k_am m4 k_tm m7 hn ht hb m6 ha hpl (by decide) (ok3 (by decide +kernel)) (by decide +kernel) (by decide +kernel) (by decide +kernel) (by decide) (by decide) (by omega)).mono (fun u hu => xw_cb hu (fun G3 v3 hH x3 hP3 => ?_))
  have m4 := (x3.2 am 4 lt_am (fun h => Or.elim h (fun h => absurd h.2 (by decide)) (fun h => absurd h.2 (by decide)))).trans m4
  have m7 := (x3.2 am 7 lt_am (fun h => Or.elim h (fun h => absurd h.2 (by decide)) (fun h => absurd h.2 (by decide)))).trans m7
  have m13 := (x3.2 am 13 lt_am (fun h => Or.elim h (fun h => absurd h.2 (by decide)) (fun h => absurd h.2 (by decide)))).trans m13
  have m1 := (x3.2 am 1 lt_am (fun h => Or.elim h (fun h => absurd h.2 (by decide)) (fun h => absurd h.2 (by decide)))).trans m1
  have m12 := (x3.2 am 12 lt_am (fun h => Or.elim h (fun h => absurd h.2 (by decide)) (fun h => absurd h.2 (by decide)))).trans m12
  have m9 := (x3.2 am 9 lt_am (fun h => Or.elim h (fun h => absurd h.2 (by decide)) (fun h => absurd h.2 (by decide)))).trans m9
  have ht : ∀ i, i < n → et_pl (eg_at G3 tm) i = some (.int (sx (b i))) := fun i hi => (x3.2 tm i lt_tm (fun h => Or.elim h (fun h => (hi_ne k_tm k_am (by decide)) h.1) (fun h => (hi_ne k_tm k_am (by decide)) h.1))).trans (ht i hi)
  have lt_am := Nat.lt_of_lt_of_le lt_am x3.1
  have lt_tm := Nat.lt_of_lt_of_le lt_tm x3.1
  have lt_aw := Nat.lt_of_lt_of_le lt_aw x3.1
  have hX := hX.tr x3 (fun b j hb h => by first | omega | (dsimp only at h ⊢; omega) | (dsimp only at h; omega) | (dsimp only; omega))
  rcases hP3 with ⟨p3, i3, rfl, q6_3, ha3, te3, tn3⟩ | ⟨p3, i3, rfl, q6_3, ha3, te3⟩
  · show et_go none _ 195 6 _ [.int (Int32.ofNat 1)] _ _ _ _
    refine hs_if0 (c := .eq) (t := 56) (f := 9) (by decide +kernel) (show ¬ (Int32.ofNat 1 = 0) by decide) ?_
    refine hs_aload (i := 0) (p := 10) (by decide +kernel) rfl ?_
    refine hf_get (T := et_TT) (t := 13) (ci := 11) (f := 9) (p := 13) (by decide +kernel) rfl hH k_am m9 ?_
    refine hs_k (x := Int32.ofNat 6) (p := 15) (by decide +kernel) ?_
    refine hs_br2n (c := .ne) (t := 20) (f := 18) (by decide +kernel) (by omega) (by omega) (fun (c15 : ¬ dp = 6) => ?_) (fun (c15 : ¬ (¬ dp = 6)) => ?_)
    · obtain ⟨mm, rfl⟩ : ∃ mm, m = mm + 1 := ⟨m - 1, by omega⟩
      obtain ⟨hA, hCd⟩ := ih mm rfl
      refine hs_aload (i := 0) (p := 21) (by decide +kernel) rfl ?_
      refine hs_dup1 (p := 22) (by decide +kernel) ?_
      refine hf_get (T := et_TT) (t := 13) (ci := 11) (f := 9) (p := 25) (by decide +kernel) rfl hH k_am m9 ?_
      refine hs_k (x := Int32.ofNat 1) (p := 26) (by decide +kernel) ?_
      refine hs_iaddn (p := 27) (by decide +kernel) ?_
      refine hf_put (T := et_TT) (t := 13) (ci := 11) (f := 9) (p := 30) (ty := .int) (by decide +kernel) rfl rfl rfl rfl rfl hH k_am (hi_nv (by omega) (by omega)) (fun G27 hH x27 e27 => ?_)
      have m4 := (x27.2 am 4 lt_am (fun h => absurd h.2 (by decide))).trans m4
      have m7 := (x27.2 am 7 lt_am (fun h => absurd h.2 (by decide))).trans m7
      have q6_3 := (x27.2 am 6 lt_am (fun h => absurd h.2 (by decide))).trans q6_3
      have m13 := (x27.2 am 13 lt_am (fun h => absurd h.2 (by decide))).trans m13
      have m1 := (x27.2 am 1 lt_am (fun h => absurd h.2 (by decide))).trans m1
      have m12 := (x27.2 am 12 lt_am (fun h => absurd h.2 (by decide))).trans m12
      have ht : ∀ i, i < n → et_pl (eg_at G27 tm) i = some (.int (sx (b i))) := fun i hi => (x27.2 tm i lt_tm (fun h => (hi_ne k_tm k_am (by decide)) h.1)).trans (ht i hi)
      have lt_am := Nat.lt_of_lt_of_le lt_am x27.1
      have lt_tm := Nat.lt_of_lt_of_le lt_tm x27.1
      have lt_aw := Nat.lt_of_lt_of_le lt_aw x27.1
      have hX := hX.tr x27 (fun b j hb h => by first | omega | (dsimp only at h ⊢; omega) | (dsimp only at h; omega) | (dsimp only; omega))
      refine hs_aload (i := 0) (p := 31) (by decide +kernel) rfl ?_
      refine ht_callv (T := et_TT) (t := 13) (mi := 193) (na := 0) (ci := 11) (lk := 3) (lm := 1) (L0 := eg_en (eg_mL 193) [.ref am]) (by decide +kernel) rfl hH k_am rfl rfl rfl rfl rfl (by rw [show eg_mL 193 = 1 from by decide +kernel]; first | done | rfl) ?_
      refine (hCd _ _ _ _ _ _ _ _ _ _ _ _ hH k_am m4 k_tm m7 hn ht hb q6_3 ha3 hpl m13 k_aw m1 m12 e27 (by omega) (by omega) (by omega)).mono (fun u hu => xw_cb hu (fun G31 v31 hH x31 hP31 => ?_))
      have x31 : xf (fun c j => (c = am ∧ j = 6) ∨ (c = am ∧ j = 8) ∨ (c = am ∧ j = 9) ∨ (c = am ∧ j = 12) ∨ (c = aw ∧ (11941 + 2 * k) ≤ j)) _ _ := x31
      have m4 := (x31.2 am 4 lt_am (fun h => Or.elim h (fun h => absurd h.2 (by decide)) (fun h => Or.elim h (fun h => absurd h.2 (by decide)) (fun h => Or.elim h (fun h => absurd h.2 (by decide)) (fun h => Or.elim h (fun h => absurd h.2 (by decide)) (fun h => (hi_ne k_am k_aw (by decide)) h.1)))))).trans m4
      have m7 := (x31.2 am 7 lt_am (fun h => Or.elim h (fun h => absurd h.2 (by decide)) (fun h => Or.elim h (fun h => absurd h.2 (by decide)) (fun h => Or.elim h (fun h => absurd h.2 (by decide)) (fun h => Or.elim h (fun h => absurd h.2 (by decide)) (fun h => (hi_ne k_am k_aw (by decide)) h.1)))))).trans m7
      have m13 := (x31.2 am 13 lt_am (fun h => Or.elim h (fun h => absurd h.2 (by decide)) (fun h => Or.elim h (fun h => absurd h.2 (by decide)) (fun h => Or.elim h (fun h => absurd h.2 (by decide)) (fun h => Or.elim h (fun h => absurd h.2 (by decide)) (fun h => (hi_ne k_am k_aw (by decide)) h.1)))))).trans m13
      have m1 := (x31.2 am 1 lt_am (fun h => Or.elim h (fun h => absurd h.2 (by decide)) (fun h => Or.elim h (fun h => absurd h.2 (by decide)) (fun h => Or.elim h (fun h => absurd h.2 (by decide)) (fun h => Or.elim h (fun h => absurd h.2 (by decide)) (fun h => (hi_ne k_am k_aw (by decide)) h.1)))))).trans m1
      have ht : ∀ i, i < n → et_pl (eg_at G31 tm) i = some (.int (sx (b i))) := fun i hi => (x31.2 tm i lt_tm (fun h => Or.elim h (fun h => (hi_ne k_tm k_am (by decide)) h.1) (fun h => Or.elim h (fun h => (hi_ne k_tm k_am (by decide)) h.1) (fun h => Or.elim h (fun h => (hi_ne k_tm k_am (by decide)) h.1) (fun h => Or.elim h (fun h => (hi_ne k_tm k_am (by decide)) h.1) (fun h => (hi_ne k_tm k_aw (by decide)) h.1)))))).trans (ht i hi)
      have lt_am := Nat.lt_of_lt_of_le lt_am x31.1
      have lt_tm := Nat.lt_of_lt_of_le lt_tm x31.1
      have lt_aw := Nat.lt_of_lt_of_le lt_aw x31.1
      have hX := hX.tr x31 (fun b j hb h => by first | omega | (dsimp only at h ⊢; omega) | (dsimp only at h; omega) | (dsimp only; omega))
      rcases hP31 with ⟨sp31, rfl⟩ | ⟨f31, p31, C31, sp31, rfl, q6_31, ha31, q12_31, q9_31, hC31, hR31, hl31⟩
      · show et_go none _ 195 34 _ [.int (Int32.ofNat 0)] _ _ _ _
        refine hs_if0 (c := .ne) (t := 39) (f := 37) (by decide +kernel) (show ¬ (¬ Int32.ofNat 0 = 0) by decide) ?_
        refine hs_k (x := Int32.ofNat 0) (p := 38) (by decide +kernel) ?_
        refine hs_zret (by decide +kernel) (.inl rfl) ?_
        exact ⟨_, _, rfl, hH, hX, .inl ⟨(by rw [hAC.1]; exact sp_at_on (L := tz_ts pl b n p) (x := 0) i3 (by rw [(hAC.2 mm rfl).2, show (tz_ts pl b n p).drop 1 = tz_ts pl b n p3 from te3.symm]; exact sp31)), rfl⟩⟩
      · show et_go none _ 195 34 _ [.int (Int32.ofNat 1)] _ _ _ _
        refine hs_if1 (c := .ne) (t := 39) (f := 37) (by decide +kernel) (show ¬ Int32.ofNat 1 = 0 by decide) ?_
        refine hs_aload (i := 0) (p := 40) (by decide +kernel) rfl ?_
        refine hs_dup1 (p := 41) (by decide +kernel) ?_
        refine hf_get (T := et_TT) (t := 13) (ci := 11) (f := 9) (p := 44) (by decide +kernel) rfl hH k_am q9_31 ?_
        refine hs_k (x := Int32.ofNat 1) (p := 45) (by decide +kernel) ?_
        refine hs_isubn (p := 46) (by decide +kernel) (by omega) ?_
        refine hf_put (T := et_TT) (t := 13) (ci := 11) (f := 9) (p := 49) (ty := .int) (by decide +kernel) rfl rfl rfl rfl rfl hH k_am (hi_nv (by omega) (by omega)) (fun G46 hH x46 e46 => ?_)
        have hC31 := hC31.fr x46 lt_aw (fun j h1 h2 hs => by first | omega | (dsimp only at hs h2; omega))
        have m4 := (x46.2 am 4 lt_am (fun h => absurd h.2 (by decide))).trans m4
        have m7 := (x46.2 am 7 lt_am (fun h => absurd h.2 (by decide))).trans m7
        have q6_31 := (x46.2 am 6 lt_am (fun h => absurd h.2 (by decide))).trans q6_31
        have m13 := (x46.2 am 13 lt_am (fun h => absurd h.2 (by decide))).trans m13
        have m1 := (x46.2 am 1 lt_am (fun h => absurd h.2 (by decide))).trans m1
        have q12_31 := (x46.2 am 12 lt_am (fun h => absurd h.2 (by decide))).trans q12_31
        have ht : ∀ i, i < n → et_pl (eg_at G46 tm) i = some (.int (sx (b i))) := fun i hi => (x46.2 tm i lt_tm (fun h => (hi_ne k_tm k_am (by decide)) h.1)).trans (ht i hi)
        have lt_am := Nat.lt_of_lt_of_le lt_am x46.1
        have lt_tm := Nat.lt_of_lt_of_le lt_tm x46.1
        have lt_aw := Nat.lt_of_lt_of_le lt_aw x46.1
        have hX := hX.tr x46 (fun b j hb h => by first | omega | (dsimp only at h ⊢; omega) | (dsimp only at h; omega) | (dsimp only; omega))
        refine hs_aload (i := 0) (p := 50) (by decide +kernel) rfl ?_
        refine hs_k (x := Int32.ofNat 41) (p := 52) (by decide +kernel) ?_
        refine ht_callv (T := et_TT) (t := 13) (mi := 196) (na := 1) (ci := 11) (lk := 3) (lm := 2) (L0 := eg_en (eg_mL 196) [.ref am, .int (Int32.ofNat 41)]) (by decide +kernel) rfl hH k_am rfl rfl rfl rfl rfl (by rw [show eg_mL 196 = 2 from by decide +kernel]; first | done | rfl) ?_
        refine (pa_sign (w := 24) (c := 41) hH k_am m4 k_tm m7 hn ht hb q6_31 ha31 hpl (by decide) (ok3 (by decide +kernel)) (by decide +kernel) (by decide +kernel) (by decide +kernel) (by decide) (by decide) (by omega)).mono (fun u hu => xw_cb hu (fun G52 v52 hH x52 hP52 => ?_))
        have hC31 := hC31.fr x52 lt_aw (fun j h1 h2 hs => by first | omega | (dsimp only at hs h2; omega))
        have m4 := (x52.2 am 4 lt_am (fun h => Or.elim h (fun h => absurd h.2 (by decide)) (fun h => absurd h.2 (by decide)))).trans m4
        have m7 := (x52.2 am 7 lt_am (fun h => Or.elim h (fun h => absurd h.2 (by decide)) (fun h => absurd h.2 (by decide)))).trans m7
        have m13 := (x52.2 am 13 lt_am (fun h => Or.elim h (fun h => absurd h.2 (by decide)) (fun h => absurd h.2 (by decide)))).trans m13
        have m1 := (x52.2 am 1 lt_am (fun h => Or.elim h (fun h => absurd h.2 (by decide)) (fun h => absurd h.2 (by decide)))).trans m1
        have q12_31 := (x52.2 am 12 lt_am (fun h => Or.elim h (fun h => absurd h.2 (by decide)) (fun h => absurd h.2 (by decide)))).trans q12_31
        have e46 := (x52.2 am 9 lt_am (fun h => Or.elim h (fun h => absurd h.2 (by decide)) (fun h => absurd h.2 (by decide)))).trans e46
        have ht : ∀ i, i < n → et_pl (eg_at G52 tm) i = some (.int (sx (b i))) := fun i hi => (x52.2 tm i lt_tm (fun h => Or.elim h (fun h => (hi_ne k_tm k_am (by decide)) h.1) (fun h => (hi_ne k_tm k_am (by decide)) h.1))).trans (ht i hi)
        have lt_am := Nat.lt_of_lt_of_le lt_am x52.1
        have lt_tm := Nat.lt_of_lt_of_le lt_tm x52.1
        have lt_aw := Nat.lt_of_lt_of_le lt_aw x52.1
        have hX := hX.tr x52 (fun b j hb h => by first | omega | (dsimp only at h ⊢; omega) | (dsimp only at h; omega) | (dsimp only; omega))
        rcases hP52 with ⟨p52, i52, rfl, q6_52, ha52, te52, tn52⟩ | ⟨p52, i52, rfl, q6_52, ha52, te52⟩
        · show et_go none _ 195 55 _ [.int (Int32.ofNat 1)] _ _ _ _
          refine hs_zret (by decide +kernel) (.inr rfl) ?_
          refine ⟨_, _, rfl, hH, hX, .inr ⟨_, p52, C31, (by rw [hAC.1, te52]; exact at_oy i3 (by rw [(hAC.2 mm rfl).2, show (tz_ts pl b n p).drop 1 = tz_ts pl b n p3 from te3.symm]; exact sp31) i52), rfl, q6_52, ha52, q12_31, (by simpa only [Nat.add_sub_cancel] using e46), hC31, hR31, ?_⟩⟩
          omega
        · have tn52 := congrArg List.length te52
          show et_go none _ 195 55 _ [.int (Int32.ofNat 0)] _ _ _ _
          refine hs_zret (by decide +kernel) (.inl rfl) ?_
          exact ⟨_, _, rfl, hH, hX, .inl ⟨(by rw [hAC.1]; exact at_oc i3 (by rw [(hAC.2 mm rfl).2, show (tz_ts pl b n p).drop 1 = tz_ts pl b n p3 from te3.symm]; exact sp31) i52), rfl⟩⟩
    · obtain rfl : m = 0 := by omega
      refine hs_k (x := Int32.ofNat 0) (p := 19) (by decide +kernel) ?_
      refine hs_zret (by decide +kernel) (.inl rfl) ?_
      exact ⟨_, _, rfl, hH, hX, .inl ⟨(by rw [hAC.1]; exact sp_at_0 (L := tz_ts pl b n p) (x := 0) (.inr i3)), rfl⟩⟩
  · have tn3 := congrArg List.length te3
    show et_go none _ 195 6 _ [.int (Int32.ofNat 0)] _ _ _ _
    refine hs_if1 (c := .eq) (t := 56) (f := 9) (by decide +kernel) (show Int32.ofNat 0 = 0 by decide) ?_
    refine hs_aload (i := 0) (p := 57) (by decide +kernel) rfl ?_
    refine hs_kld (v := .ref 39) (p := 59) (by decide +kernel) ?_
    refine ht_callv (T := et_TT) (t := 13) (mi := 192) (na := 1) (ci := 11) (lk := 3) (lm := 2) (L0 := eg_en (eg_mL 192) [.ref am, .ref 39]) (by decide +kernel) rfl hH k_am rfl rfl rfl rfl rfl (by rw [show eg_mL 192 = 2 from by decide +kernel]; first | done | rfl) ?_
    refine (pa_pass (w := 22) (j := 3) hH k_am m4 k_tm m7 hn ht hb q6_3 ha3 hpl (by decide) (by decide) (ok3 (by decide +kernel)) (by decide +kernel) (by decide +kernel) (by omega)).mono (fun u hu => xw_cb hu (fun G59 v59 hH x59 hP59 => ?_))
    have m4 := (x59.2 am 4 lt_am (fun h => Or.elim h (fun h => absurd h.2 (by decide)) (fun h => absurd h.2 (by decide)))).trans m4
    have m7 := (x59.2 am 7 lt_am (fun h => Or.elim h (fun h => absurd h.2 (by decide)) (fun h => absurd h.2 (by decide)))).trans m7
    have m13 := (x59.2 am 13 lt_am (fun h => Or.elim h (fun h => absurd h.2 (by decide)) (fun h => absurd h.2 (by decide)))).trans m13
    have m1 := (x59.2 am 1 lt_am (fun h => Or.elim h (fun h => absurd h.2 (by decide)) (fun h => absurd h.2 (by decide)))).trans m1
    have m12 := (x59.2 am 12 lt_am (fun h => Or.elim h (fun h => absurd h.2 (by decide)) (fun h => absurd h.2 (by decide)))).trans m12
    have m9 := (x59.2 am 9 lt_am (fun h => Or.elim h (fun h => absurd h.2 (by decide)) (fun h => absurd h.2 (by decide)))).trans m9
    have ht : ∀ i, i < n → et_pl (eg_at G59 tm) i = some (.int (sx (b i))) := fun i hi => (x59.2 tm i lt_tm (fun h => Or.elim h (fun h => (hi_ne k_tm k_am (by decide)) h.1) (fun h => (hi_ne k_tm k_am (by decide)) h.1))).trans (ht i hi)
    have lt_am := Nat.lt_of_lt_of_le lt_am x59.1
    have lt_tm := Nat.lt_of_lt_of_le lt_tm x59.1
    have lt_aw := Nat.lt_of_lt_of_le lt_aw x59.1
    have hX := hX.tr x59 (fun b j hb h => by first | omega | (dsimp only at h ⊢; omega) | (dsimp only at h; omega) | (dsimp only; omega))
    rcases hP59 with ⟨p59, i59, rfl, q6_59, ha59, te59, tn59⟩ | ⟨p59, i59, rfl, q6_59, ha59, te59⟩
    · show et_go none _ 195 62 _ [.int (Int32.ofNat 1)] _ _ _ _
      refine hs_if0 (c := .eq) (t := 114) (f := 65) (by decide +kernel) (show ¬ (Int32.ofNat 1 = 0) by decide) ?_
      refine hs_aload (i := 0) (p := 66) (by decide +kernel) rfl ?_
      refine hf_get (T := et_TT) (t := 13) (ci := 11) (f := 9) (p := 69) (by decide +kernel) rfl hH k_am m9 ?_
      refine hs_k (x := Int32.ofNat 6) (p := 71) (by decide +kernel) ?_
      refine hs_br2n (c := .ne) (t := 76) (f := 74) (by decide +kernel) (by omega) (by omega) (fun (c71 : ¬ dp = 6) => ?_) (fun (c71 : ¬ (¬ dp = 6)) => ?_)
      · obtain ⟨mm, rfl⟩ : ∃ mm, m = mm + 1 := ⟨m - 1, by omega⟩
        obtain ⟨hA, hCd⟩ := ih mm rfl
        refine hs_aload (i := 0) (p := 77) (by decide +kernel) rfl ?_
        refine hs_dup1 (p := 78) (by decide +kernel) ?_
        refine hf_get (T := et_TT) (t := 13) (ci := 11) (f := 9) (p := 81) (by decide +kernel) rfl hH k_am m9 ?_
        refine hs_k (x := Int32.ofNat 1) (p := 82) (by decide +kernel) ?_
        refine hs_iaddn (p := 83) (by decide +kernel) ?_
        refine hf_put (T := et_TT) (t := 13) (ci := 11) (f := 9) (p := 86) (ty := .int) (by decide +kernel) rfl rfl rfl rfl rfl hH k_am (hi_nv (by omega) (by omega)) (fun G83 hH x83 e83 => ?_)
        have m4 := (x83.2 am 4 lt_am (fun h => absurd h.2 (by decide))).trans m4
        have m7 := (x83.2 am 7 lt_am (fun h => absurd h.2 (by decide))).trans m7
        have q6_59 := (x83.2 am 6 lt_am (fun h => absurd h.2 (by decide))).trans q6_59
        have m13 := (x83.2 am 13 lt_am (fun h => absurd h.2 (by decide))).trans m13
        have m1 := (x83.2 am 1 lt_am (fun h => absurd h.2 (by decide))).trans m1
        have m12 := (x83.2 am 12 lt_am (fun h => absurd h.2 (by decide))).trans m12
        have ht : ∀ i, i < n → et_pl (eg_at G83 tm) i = some (.int (sx (b i))) := fun i hi => (x83.2 tm i lt_tm (fun h => (hi_ne k_tm k_am (by decide)) h.1)).trans (ht i hi)
        have lt_am := Nat.lt_of_lt_of_le lt_am x83.1
        have lt_tm := Nat.lt_of_lt_of_le lt_tm x83.1
        have lt_aw := Nat.lt_of_lt_of_le lt_aw x83.1
        have hX := hX.tr x83 (fun b j hb h => by first | omega | (dsimp only at h ⊢; omega) | (dsimp only at h; omega) | (dsimp only; omega))
        refine hs_aload (i := 0) (p := 87) (by decide +kernel) rfl ?_
        refine ht_callv (T := et_TT) (t := 13) (mi := 195) (na := 0) (ci := 11) (lk := 3) (lm := 3) (L0 := eg_en (eg_mL 195) [.ref am]) (by decide +kernel) rfl hH k_am rfl rfl rfl rfl rfl (by rw [show eg_mL 195 = 3 from by decide +kernel]; first | done | rfl) ?_
        refine (hA _ _ _ _ _ _ _ _ _ _ _ _ hH k_am m4 k_tm m7 hn ht hb q6_59 ha59 hpl m13 k_aw m1 m12 e83 (by omega) (by omega) (by omega)).mono (fun u hu => xw_cb hu (fun G87 v87 hH x87 hP87 => ?_))
        have x87 : xf (fun c j => (c = am ∧ j = 6) ∨ (c = am ∧ j = 8) ∨ (c = am ∧ j = 9) ∨ (c = am ∧ j = 12) ∨ (c = aw ∧ (11941 + 2 * k) ≤ j)) _ _ := x87
        have m4 := (x87.2 am 4 lt_am (fun h => Or.elim h (fun h => absurd h.2 (by decide)) (fun h => Or.elim h (fun h => absurd h.2 (by decide)) (fun h => Or.elim h (fun h => absurd h.2 (by decide)) (fun h => Or.elim h (fun h => absurd h.2 (by decide)) (fun h => (hi_ne k_am k_aw (by decide)) h.1)))))).trans m4
        have m7 := (x87.2 am 7 lt_am (fun h => Or.elim h (fun h => absurd h.2 (by decide)) (fun h => Or.elim h (fun h => absurd h.2 (by decide)) (fun h => Or.elim h (fun h => absurd h.2 (by decide)) (fun h => Or.elim h (fun h => absurd h.2 (by decide)) (fun h => (hi_ne k_am k_aw (by decide)) h.1)))))).trans m7
        have m13 := (x87.2 am 13 lt_am (fun h => Or.elim h (fun h => absurd h.2 (by decide)) (fun h => Or.elim h (fun h => absurd h.2 (by decide)) (fun h => Or.elim h (fun h => absurd h.2 (by decide)) (fun h => Or.elim h (fun h => absurd h.2 (by decide)) (fun h => (hi_ne k_am k_aw (by decide)) h.1)))))).trans m13
        have m1 := (x87.2 am 1 lt_am (fun h => Or.elim h (fun h => absurd h.2 (by decide)) (fun h => Or.elim h (fun h => absurd h.2 (by decide)) (fun h => Or.elim h (fun h => absurd h.2 (by decide)) (fun h => Or.elim h (fun h => absurd h.2 (by decide)) (fun h => (hi_ne k_am k_aw (by decide)) h.1)))))).trans m1
        have ht : ∀ i, i < n → et_pl (eg_at G87 tm) i = some (.int (sx (b i))) := fun i hi => (x87.2 tm i lt_tm (fun h => Or.elim h (fun h => (hi_ne k_tm k_am (by decide)) h.1) (fun h => Or.elim h (fun h => (hi_ne k_tm k_am (by decide)) h.1) (fun h => Or.elim h (fun h => (hi_ne k_tm k_am (by decide)) h.1) (fun h => Or.elim h (fun h => (hi_ne k_tm k_am (by decide)) h.1) (fun h => (hi_ne k_tm k_aw (by decide)) h.1)))))).trans (ht i hi)
        have lt_am := Nat.lt_of_lt_of_le lt_am x87.1
        have lt_tm := Nat.lt_of_lt_of_le lt_tm x87.1
        have lt_aw := Nat.lt_of_lt_of_le lt_aw x87.1
        have hX := hX.tr x87 (fun b j hb h => by first | omega | (dsimp only at h ⊢; omega) | (dsimp only at h; omega) | (dsimp only; omega))
        rcases hP87 with ⟨sp87, rfl⟩ | ⟨f87, p87, C87, sp87, rfl, q6_87, ha87, q12_87, q9_87, hC87, hR87, hl87⟩
        · show et_go none _ 195 90 _ [.int (Int32.ofNat 0)] _ _ _ _
          refine hs_if0 (c := .ne) (t := 95) (f := 93) (by decide +kernel) (show ¬ (¬ Int32.ofNat 0 = 0) by decide) ?_
          refine hs_k (x := Int32.ofNat 0) (p := 94) (by decide +kernel) ?_
          refine hs_zret (by decide +kernel) (.inl rfl) ?_
          exact ⟨_, _, rfl, hH, hX, .inl ⟨(by rw [hAC.1, ← te3]; exact sp_at_nn (L := tz_ts pl b n p3) (x := 0) i59 (by rw [(hAC.2 mm rfl).1, show (tz_ts pl b n p3).drop (0 + 1) = tz_ts pl b n p59 from te59.symm]; exact sp87)), rfl⟩⟩
        · show et_go none _ 195 90 _ [.int (Int32.ofNat 1)] _ _ _ _
          refine hs_if1 (c := .ne) (t := 95) (f := 93) (by decide +kernel) (show ¬ Int32.ofNat 1 = 0 by decide) ?_
          refine hs_aload (i := 0) (p := 96) (by decide +kernel) rfl ?_
          refine hs_dup1 (p := 97) (by decide +kernel) ?_
          refine hf_get (T := et_TT) (t := 13) (ci := 11) (f := 9) (p := 100) (by decide +kernel) rfl hH k_am q9_87 ?_
          refine hs_k (x := Int32.ofNat 1) (p := 101) (by decide +kernel) ?_
          refine hs_isubn (p := 102) (by decide +kernel) (by omega) ?_
          refine hf_put (T := et_TT) (t := 13) (ci := 11) (f := 9) (p := 105) (ty := .int) (by decide +kernel) rfl rfl rfl rfl rfl hH k_am (hi_nv (by omega) (by omega)) (fun G102 hH x102 e102 => ?_)
          have hC87 := hC87.fr x102 lt_aw (fun j h1 h2 hs => by first | omega | (dsimp only at hs h2; omega))
          have m4 := (x102.2 am 4 lt_am (fun h => absurd h.2 (by decide))).trans m4
          have m7 := (x102.2 am 7 lt_am (fun h => absurd h.2 (by decide))).trans m7
          have q6_87 := (x102.2 am 6 lt_am (fun h => absurd h.2 (by decide))).trans q6_87
          have m13 := (x102.2 am 13 lt_am (fun h => absurd h.2 (by decide))).trans m13
          have m1 := (x102.2 am 1 lt_am (fun h => absurd h.2 (by decide))).trans m1
          have q12_87 := (x102.2 am 12 lt_am (fun h => absurd h.2 (by decide))).trans q12_87
          have ht : ∀ i, i < n → et_pl (eg_at G102 tm) i = some (.int (sx (b i))) := fun i hi => (x102.2 tm i lt_tm (fun h => (hi_ne k_tm k_am (by decide)) h.1)).trans (ht i hi)
          have lt_am := Nat.lt_of_lt_of_le lt_am x102.1
          have lt_tm := Nat.lt_of_lt_of_le lt_tm x102.1
          have lt_aw := Nat.lt_of_lt_of_le lt_aw x102.1
          have hX := hX.tr x102 (fun b j hb h => by first | omega | (dsimp only at h ⊢; omega) | (dsimp only at h; omega) | (dsimp only; omega))
          refine hs_aload (i := 0) (p := 106) (by decide +kernel) rfl ?_
          refine hs_k (x := Int32.ofNat 18) (p := 108) (by decide +kernel) ?_
          refine hs_k (x := Int32.ofNat 0) (p := 109) (by decide +kernel) ?_
          refine ht_callv (T := et_TT) (t := 13) (mi := 197) (na := 2) (ci := 11) (lk := 3) (lm := 4) (L0 := eg_en (eg_mL 197) [.ref am, .int (Int32.ofNat 18), .int (Int32.ofNat 0)]) (by decide +kernel) rfl hH k_am rfl rfl rfl rfl rfl (by rw [show eg_mL 197 = 4 from by decide +kernel]; first | done | rfl) ?_
          refine (pa_emit (o := 18) (v := 0) ⟨by omega, by omega⟩ hH k_am k_aw m1 q12_87 (by omega) (by omega)).mono (fun u hu => xw_cb hu (fun G109 v109 hH x109 hP109 => ?_))
          have hC87 := hC87.fr x109 lt_aw (fun j h1 h2 hs => by first | omega | (dsimp only at hs h2; omega))
          have m4 := (x109.2 am 4 lt_am (fun h => Or.elim h (fun h => absurd h.2 (by decide)) (fun h => (hi_ne k_am k_aw (by decide)) h.1))).trans m4
          have m7 := (x109.2 am 7 lt_am (fun h => Or.elim h (fun h => absurd h.2 (by decide)) (fun h => (hi_ne k_am k_aw (by decide)) h.1))).trans m7
          have q6_87 := (x109.2 am 6 lt_am (fun h => Or.elim h (fun h => absurd h.2 (by decide)) (fun h => (hi_ne k_am k_aw (by decide)) h.1))).trans q6_87
          have m13 := (x109.2 am 13 lt_am (fun h => Or.elim h (fun h => absurd h.2 (by decide)) (fun h => (hi_ne k_am k_aw (by decide)) h.1))).trans m13
          have m1 := (x109.2 am 1 lt_am (fun h => Or.elim h (fun h => absurd h.2 (by decide)) (fun h => (hi_ne k_am k_aw (by decide)) h.1))).trans m1
          have e102 := (x109.2 am 9 lt_am (fun h => Or.elim h (fun h => absurd h.2 (by decide)) (fun h => (hi_ne k_am k_aw (by decide)) h.1))).trans e102
          have ht : ∀ i, i < n → et_pl (eg_at G109 tm) i = some (.int (sx (b i))) := fun i hi => (x109.2 tm i lt_tm (fun h => Or.elim h (fun h => (hi_ne k_tm k_am (by decide)) h.1) (fun h => (hi_ne k_tm k_aw (by decide)) h.1))).trans (ht i hi)
          have lt_am := Nat.lt_of_lt_of_le lt_am x109.1
          have lt_tm := Nat.lt_of_lt_of_le lt_tm x109.1
          have lt_aw := Nat.lt_of_lt_of_le lt_aw x109.1
          have hX := hX.tr x109 (fun b j hb h => by first | omega | (dsimp only at h ⊢; omega) | (dsimp only at h; omega) | (dsimp only; omega))
          obtain ⟨rfl, C109, ec109, lc109, q12_109, hC109⟩ := hP109
          show et_go none _ 195 112 _ [] _ _ _ _
          refine hs_k (x := Int32.ofNat 1) (p := 113) (by decide +kernel) ?_
          refine hs_zret (by decide +kernel) (.inr rfl) ?_
          refine ⟨_, _, rfl, hH, hX, .inr ⟨_, p87, (C87 ++ C109), (by rw [hAC.1, ← te3]; exact sp_at_ny (L := tz_ts pl b n p3) (x := 0) i59 (by rw [(hAC.2 mm rfl).1, show (tz_ts pl b n p3).drop (0 + 1) = tz_ts pl b n p59 from te59.symm]; exact sp87)), rfl, q6_87, ha87, (by simpa only [List.length_append, Nat.add_assoc] using q12_109), (by simpa only [Nat.add_sub_cancel] using e102), (hC87.app (by simpa only [List.length_append, Nat.add_assoc] using hC109)), (by rw [ec109]; exact dnB_not hR87), ?_⟩⟩
          simp only [List.length_append]
          omega
      · obtain rfl : m = 0 := by omega
        refine hs_k (x := Int32.ofNat 0) (p := 75) (by decide +kernel) ?_
        refine hs_zret (by decide +kernel) (.inl rfl) ?_
        exact ⟨_, _, rfl, hH, hX, .inl ⟨(by rw [hAC.1, ← te3]; exact sp_at_0 (L := tz_ts pl b n p3) (x := 0) (.inl i59)), rfl⟩⟩
    · have tn59 := congrArg List.length te59
      show et_go none _ 195 62 _ [.int (Int32.ofNat 0)] _ _ _ _
      refine hs_if1 (c := .eq) (t := 114) (f := 65) (by decide +kernel) (show Int32.ofNat 0 = 0 by decide) ?_
      refine hs_aload (i := 0) (p := 115) (by decide +kernel) rfl ?_
      refine ht_callv (T := et_TT) (t := 13) (mi := 188) (na := 0) (ci := 11) (lk := 3) (lm := 1) (L0 := eg_en (eg_mL 188) [.ref am]) (by decide +kernel) rfl hH k_am rfl rfl rfl rfl rfl (by rw [show eg_mL 188 = 1 from by decide +kernel]; first | done | rfl) ?_
      refine (fm_let hH k_am m4 k_tm m7 hn ht hb q6_59 ha59.1 (by omega)).mono (fun u hu => xw_cb hu (fun G115 v115 hH x115 hP115 => ?_))
      have m4 := (x115.2 am 4 lt_am (fun h => Or.elim h (fun h => absurd h.2 (by decide)) (fun h => absurd h.2 (by decide)))).trans m4
      have m7 := (x115.2 am 7 lt_am (fun h => Or.elim h (fun h => absurd h.2 (by decide)) (fun h => absurd h.2 (by decide)))).trans m7
      have m13 := (x115.2 am 13 lt_am (fun h => Or.elim h (fun h => absurd h.2 (by decide)) (fun h => absurd h.2 (by decide)))).trans m13
      have m1 := (x115.2 am 1 lt_am (fun h => Or.elim h (fun h => absurd h.2 (by decide)) (fun h => absurd h.2 (by decide)))).trans m1
      have m12 := (x115.2 am 12 lt_am (fun h => Or.elim h (fun h => absurd h.2 (by decide)) (fun h => absurd h.2 (by decide)))).trans m12
      have m9 := (x115.2 am 9 lt_am (fun h => Or.elim h (fun h => absurd h.2 (by decide)) (fun h => absurd h.2 (by decide)))).trans m9
      have ht : ∀ i, i < n → et_pl (eg_at G115 tm) i = some (.int (sx (b i))) := fun i hi => (x115.2 tm i lt_tm (fun h => Or.elim h (fun h => (hi_ne k_tm k_am (by decide)) h.1) (fun h => (hi_ne k_tm k_am (by decide)) h.1))).trans (ht i hi)
      have lt_am := Nat.lt_of_lt_of_le lt_am x115.1
      have lt_tm := Nat.lt_of_lt_of_le lt_tm x115.1
      have lt_aw := Nat.lt_of_lt_of_le lt_aw x115.1
      have hX := hX.tr x115 (fun b j hb h => by first | omega | (dsimp only at h ⊢; omega) | (dsimp only at h; omega) | (dsimp only; omega))
      obtain ⟨rfl, q6_115, q8_115⟩ := hP115
      have hsk := skp_le (b := b) (n := n) (p := p59) ha59.1
      have hls := lst_le (b := b) hsk.2
      have tk115 := tok_al (pl := pl) ha59
      have tn115 := congrArg List.length tk115.2
      show et_go none _ 195 118 _ [] _ _ _ _
      refine hs_aload (i := 0) (p := 119) (by decide +kernel) rfl ?_
      refine ht_callv (T := et_TT) (t := 13) (mi := 198) (na := 0) (ci := 11) (lk := 3) (lm := 1) (L0 := eg_en (eg_mL 198) [.ref am]) (by decide +kernel) rfl hH k_am rfl rfl rfl rfl rfl (by rw [show eg_mL 198 = 1 from by decide +kernel]; first | done | rfl) ?_
      refine (pa_tag hH k_am m4 k_tm m7 hn ht hb q6_115 q8_115 m13 ha59 hpl (by omega)).mono (fun u hu => xp_cb hu ?_)
      by_cases w119 : sp_tw (wat (tz_ts pl b n p59) 0) = true
      · rw [if_pos w119]
        have wl119 := tw_lt w119
        have wi119 := wat_ts (pl := pl) ha59 wl119 rfl
        have wn119 := tw_in pl (List.mem_range.mpr (by omega)) _ (List.mem_range.mpr wl119) w119 wi119.2.1
        have wt119 := tok_ly (pl := pl) ha59 wl119 (fw_l _ (List.mem_range.mpr wl119) (.inr w119)) rfl
        have wm119 := wt119.2.2
        show et_go none _ 195 122 _ [.int (Int32.ofNat (wat (tz_ts pl b n p59) 0 - tbw pl))] _ _ _ _
        refine hs_istore (i := 1) (p := 123) (by decide +kernel) (Nat.le_of_ble_eq_true rfl) ?_
        refine hs_iload (i := 1) (p := 124) (by decide +kernel) rfl ?_
        refine hs_if0 (c := .lt) (t := 160) (f := 127) (by decide +kernel) (rs_nn (by omega)) ?_
        refine hs_iload (i := 1) (p := 128) (by decide +kernel) rfl ?_
        refine hs_k (x := Int32.ofNat 2) (p := 129) (by decide +kernel) ?_
        refine hs_br2n (c := .ne) (t := 141) (f := 132) (by decide +kernel) (by omega) (by omega) (fun (c129 : ¬ (wat (tz_ts pl b n p59) 0 - tbw pl) = 2) => ?_) (fun (c129 : ¬ (¬ (wat (tz_ts pl b n p59) 0 - tbw pl) = 2)) => ?_)
        · refine hs_k (x := Int32.ofNat 0) (p := 142) (by decide +kernel) ?_
          refine hs_istore (i := 2) (p := 143) (by decide +kernel) (Nat.le_of_ble_eq_true rfl) ?_
          refine hs_iload (i := 2) (p := 144) (by decide +kernel) rfl ?_
          refine hs_if1 (c := .ge) (t := 149) (f := 147) (by decide +kernel) (show 0 ≤ Int32.ofNat 0 by decide) ?_
          refine hs_aload (i := 0) (p := 150) (by decide +kernel) rfl ?_
          refine hs_k (x := Int32.ofNat 10) (p := 152) (by decide +kernel) ?_
          refine hs_iload (i := 1) (p := 153) (by decide +kernel) rfl ?_
          refine hs_iaddn (p := 154) (by decide +kernel) ?_
          refine hs_iload (i := 2) (p := 155) (by decide +kernel) rfl ?_
          refine ht_callv (T := et_TT) (t := 13) (mi := 197) (na := 2) (ci := 11) (lk := 3) (lm := 4) (L0 := eg_en (eg_mL 197) [.ref am, .int (Int32.ofNat (10 + (wat (tz_ts pl b n p59) 0 - tbw pl))), .int (Int32.ofNat 0)]) (by decide +kernel) rfl hH k_am rfl rfl rfl rfl rfl (by rw [show eg_mL 197 = 4 from by decide +kernel]; first | done | rfl) ?_
          refine (pa_emit (o := (10 + (wat (tz_ts pl b n p59) 0 - tbw pl))) (v := 0) ⟨by omega, by omega⟩ hH k_am k_aw m1 m12 (by omega) (by omega)).mono (fun u hu => xw_cb hu (fun G155 v155 hH x155 hP155 => ?_))
          have m4 := (x155.2 am 4 lt_am (fun h => Or.elim h (fun h => absurd h.2 (by decide)) (fun h => (hi_ne k_am k_aw (by decide)) h.1))).trans m4
          have m7 := (x155.2 am 7 lt_am (fun h => Or.elim h (fun h => absurd h.2 (by decide)) (fun h => (hi_ne k_am k_aw (by decide)) h.1))).trans m7
          have q6_115 := (x155.2 am 6 lt_am (fun h => Or.elim h (fun h => absurd h.2 (by decide)) (fun h => (hi_ne k_am k_aw (by decide)) h.1))).trans q6_115
          have m13 := (x155.2 am 13 lt_am (fun h => Or.elim h (fun h => absurd h.2 (by decide)) (fun h => (hi_ne k_am k_aw (by decide)) h.1))).trans m13
          have m1 := (x155.2 am 1 lt_am (fun h => Or.elim h (fun h => absurd h.2 (by decide)) (fun h => (hi_ne k_am k_aw (by decide)) h.1))).trans m1
          have m9 := (x155.2 am 9 lt_am (fun h => Or.elim h (fun h => absurd h.2 (by decide)) (fun h => (hi_ne k_am k_aw (by decide)) h.1))).trans m9
          have q8_115 := (x155.2 am 8 lt_am (fun h => Or.elim h (fun h => absurd h.2 (by decide)) (fun h => (hi_ne k_am k_aw (by decide)) h.1))).trans q8_115
          have ht : ∀ i, i < n → et_pl (eg_at G155 tm) i = some (.int (sx (b i))) := fun i hi => (x155.2 tm i lt_tm (fun h => Or.elim h (fun h => (hi_ne k_tm k_am (by decide)) h.1) (fun h => (hi_ne k_tm k_aw (by decide)) h.1))).trans (ht i hi)
          have lt_am := Nat.lt_of_lt_of_le lt_am x155.1
          have lt_tm := Nat.lt_of_lt_of_le lt_tm x155.1
          have lt_aw := Nat.lt_of_lt_of_le lt_aw x155.1
          have hX := hX.tr x155 (fun b j hb h => by first | omega | (dsimp only at h ⊢; omega) | (dsimp only at h; omega) | (dsimp only; omega))
          obtain ⟨rfl, C155, ec155, lc155, q12_155, hC155⟩ := hP155
          show et_go none _ 195 158 _ [] _ _ _ _
          refine hs_k (x := Int32.ofNat 1) (p := 159) (by decide +kernel) ?_
          refine hs_zret (by decide +kernel) (.inr rfl) ?_
          refine ⟨_, _, rfl, hH, hX, .inr ⟨_, (lst b n (skp b n p59)), C155, (by rw [hAC.1, ← te3, ← te59]; refine (sp_at_t (L := tz_ts pl b n p59) (x := 0) (n := none) (by rw [te59]; exact i59) (by rw [te59, te3]; exact i3) w119).trans ?_; rw [show (tz_ts pl b n p59).drop (0 + 1) = tz_ts pl b n (lst b n (skp b n p59)) from wt119.2.1.symm]; exact sp_tag_o (fun h => c129 (wn119.2.2.mpr h))), rfl, q6_115, wt119.1, q12_155, m9, hC155, (by rw [ec155]; exact dnB_to hpl w119 wi119.2.1 (fun h => c129 (wn119.2.2.mpr h))), ?_⟩⟩
          omega
        · refine hs_aload (i := 0) (p := 133) (by decide +kernel) rfl ?_
          refine hs_k (x := Int32.ofNat 15) (p := 135) (by decide +kernel) ?_
          refine ht_callv (T := et_TT) (t := 13) (mi := 191) (na := 1) (ci := 11) (lk := 3) (lm := 3) (L0 := eg_en (eg_mL 191) [.ref am, .int (Int32.ofNat 15)]) (by decide +kernel) rfl hH k_am rfl rfl rfl rfl rfl (by rw [show eg_mL 191 = 3 from by decide +kernel]; first | done | rfl) ?_
          refine (pa_num (pl := pl) hH k_am m4 k_tm m7 hn ht hb q6_115 wt119.1 (by decide) (by omega)).mono (fun u hu => xw_cb hu (fun G135 v135 hH x135 hP135 => ?_))
          have m4 := (x135.2 am 4 lt_am (fun h => Or.elim h (fun h => absurd h.2 (by decide)) (fun h => absurd h.2 (by decide)))).trans m4
          have m7 := (x135.2 am 7 lt_am (fun h => Or.elim h (fun h => absurd h.2 (by decide)) (fun h => absurd h.2 (by decide)))).trans m7
          have m13 := (x135.2 am 13 lt_am (fun h => Or.elim h (fun h => absurd h.2 (by decide)) (fun h => absurd h.2 (by decide)))).trans m13
          have m1 := (x135.2 am 1 lt_am (fun h => Or.elim h (fun h => absurd h.2 (by decide)) (fun h => absurd h.2 (by decide)))).trans m1
          have m12 := (x135.2 am 12 lt_am (fun h => Or.elim h (fun h => absurd h.2 (by decide)) (fun h => absurd h.2 (by decide)))).trans m12
          have m9 := (x135.2 am 9 lt_am (fun h => Or.elim h (fun h => absurd h.2 (by decide)) (fun h => absurd h.2 (by decide)))).trans m9
          have ht : ∀ i, i < n → et_pl (eg_at G135 tm) i = some (.int (sx (b i))) := fun i hi => (x135.2 tm i lt_tm (fun h => Or.elim h (fun h => (hi_ne k_tm k_am (by decide)) h.1) (fun h => (hi_ne k_tm k_am (by decide)) h.1))).trans (ht i hi)
          have lt_am := Nat.lt_of_lt_of_le lt_am x135.1
          have lt_tm := Nat.lt_of_lt_of_le lt_tm x135.1
          have lt_aw := Nat.lt_of_lt_of_le lt_aw x135.1
          have hX := hX.tr x135 (fun b j hb h => by first | omega | (dsimp only at h ⊢; omega) | (dsimp only at h; omega) | (dsimp only; omega))
          rcases hP135 with ⟨v135x, p135, te135, vl135, rfl, q6_135, ha135⟩ | ⟨no135, rfl⟩
          · have tn135 := congrArg List.length te135
            rw [List.length_cons] at tn135
            show et_go none _ 195 138 _ [.int (Int32.ofNat v135x)] _ _ _ _
            refine hs_goto (p := 142) (by decide +kernel) ?_
            refine hs_istore (i := 2) (p := 143) (by decide +kernel) (Nat.le_of_ble_eq_true rfl) ?_
            refine hs_iload (i := 2) (p := 144) (by decide +kernel) rfl ?_
            refine hs_if1 (c := .ge) (t := 149) (f := 147) (by decide +kernel) (rs_ng (by omega)) ?_
            refine hs_aload (i := 0) (p := 150) (by decide +kernel) rfl ?_
            refine hs_k (x := Int32.ofNat 10) (p := 152) (by decide +kernel) ?_
            refine hs_iload (i := 1) (p := 153) (by decide +kernel) rfl ?_
            refine hs_iaddn (p := 154) (by decide +kernel) ?_
            refine hs_iload (i := 2) (p := 155) (by decide +kernel) rfl ?_
            refine ht_callv (T := et_TT) (t := 13) (mi := 197) (na := 2) (ci := 11) (lk := 3) (lm := 4) (L0 := eg_en (eg_mL 197) [.ref am, .int (Int32.ofNat (10 + (wat (tz_ts pl b n p59) 0 - tbw pl))), .int (Int32.ofNat v135x)]) (by decide +kernel) rfl hH k_am rfl rfl rfl rfl rfl (by rw [show eg_mL 197 = 4 from by decide +kernel]; first | done | rfl) ?_
            refine (pa_emit (o := (10 + (wat (tz_ts pl b n p59) 0 - tbw pl))) (v := v135x) ⟨by omega, by omega⟩ hH k_am k_aw m1 m12 (by omega) (by omega)).mono (fun u hu => xw_cb hu (fun G155 v155 hH x155 hP155 => ?_))
            have m4 := (x155.2 am 4 lt_am (fun h => Or.elim h (fun h => absurd h.2 (by decide)) (fun h => (hi_ne k_am k_aw (by decide)) h.1))).trans m4
            have m7 := (x155.2 am 7 lt_am (fun h => Or.elim h (fun h => absurd h.2 (by decide)) (fun h => (hi_ne k_am k_aw (by decide)) h.1))).trans m7
            have q6_135 := (x155.2 am 6 lt_am (fun h => Or.elim h (fun h => absurd h.2 (by decide)) (fun h => (hi_ne k_am k_aw (by decide)) h.1))).trans q6_135
            have m13 := (x155.2 am 13 lt_am (fun h => Or.elim h (fun h => absurd h.2 (by decide)) (fun h => (hi_ne k_am k_aw (by decide)) h.1))).trans m13
            have m1 := (x155.2 am 1 lt_am (fun h => Or.elim h (fun h => absurd h.2 (by decide)) (fun h => (hi_ne k_am k_aw (by decide)) h.1))).trans m1
            have m9 := (x155.2 am 9 lt_am (fun h => Or.elim h (fun h => absurd h.2 (by decide)) (fun h => (hi_ne k_am k_aw (by decide)) h.1))).trans m9
            have ht : ∀ i, i < n → et_pl (eg_at G155 tm) i = some (.int (sx (b i))) := fun i hi => (x155.2 tm i lt_tm (fun h => Or.elim h (fun h => (hi_ne k_tm k_am (by decide)) h.1) (fun h => (hi_ne k_tm k_aw (by decide)) h.1))).trans (ht i hi)
            have lt_am := Nat.lt_of_lt_of_le lt_am x155.1
            have lt_tm := Nat.lt_of_lt_of_le lt_tm x155.1
            have lt_aw := Nat.lt_of_lt_of_le lt_aw x155.1
            have hX := hX.tr x155 (fun b j hb h => by first | omega | (dsimp only at h ⊢; omega) | (dsimp only at h; omega) | (dsimp only; omega))
            obtain ⟨rfl, C155, ec155, lc155, q12_155, hC155⟩ := hP155
            show et_go none _ 195 158 _ [] _ _ _ _
            refine hs_k (x := Int32.ofNat 1) (p := 159) (by decide +kernel) ?_
            refine hs_zret (by decide +kernel) (.inr rfl) ?_
            refine ⟨_, _, rfl, hH, hX, .inr ⟨_, p135, C155, (by rw [hAC.1, ← te3, ← te59]; refine (sp_at_t (L := tz_ts pl b n p59) (x := 0) (n := none) (by rw [te59]; exact i59) (by rw [te59, te3]; exact i3) w119).trans ?_; rw [show (tz_ts pl b n p59).drop (0 + 1) = (33, some v135x) :: tz_ts pl b n p135 from wt119.2.1.symm.trans te135]; exact tag_c (by omega) vl135), rfl, q6_135, ha135, q12_155, m9, hC155, (by rw [ec155]; exact dnB_t2 hpl w119 wi119.2.1 (by omega)), ?_⟩⟩
            omega
          · show et_go none _ 195 138 _ [.int (-1)] _ _ _ _
            refine hs_goto (p := 142) (by decide +kernel) ?_
            refine hs_istore (i := 2) (p := 143) (by decide +kernel) (Nat.le_of_ble_eq_true rfl) ?_
            refine hs_iload (i := 2) (p := 144) (by decide +kernel) rfl ?_
            refine hs_if0 (c := .ge) (t := 149) (f := 147) (by decide +kernel) (show ¬ (0 ≤ (-1 : Int32)) by decide) ?_
            refine hs_k (x := Int32.ofNat 0) (p := 148) (by decide +kernel) ?_
            refine hs_zret (by decide +kernel) (.inl rfl) ?_
            exact ⟨_, _, rfl, hH, hX, .inl ⟨(by rw [hAC.1, ← te3, ← te59]; refine (sp_at_t (L := tz_ts pl b n p59) (x := 0) (n := none) (by rw [te59]; exact i59) (by rw [te59, te3]; exact i3) w119).trans (tag_n (by omega) ?_); exact fun x r hx => no135 x r (wt119.2.1.trans hx)), rfl⟩⟩
      · rw [if_neg w119]
        show et_go none _ 195 122 _ [.int (-1)] _ _ _ _
        refine hs_istore (i := 1) (p := 123) (by decide +kernel) (Nat.le_of_ble_eq_true rfl) ?_
        refine hs_iload (i := 1) (p := 124) (by decide +kernel) rfl ?_
        refine hs_if1 (c := .lt) (t := 160) (f := 127) (by decide +kernel) (show (-1 : Int32) < 0 by decide) ?_
        refine hs_aload (i := 0) (p := 161) (by decide +kernel) rfl ?_
        refine hs_aload (i := 0) (p := 162) (by decide +kernel) rfl ?_
        refine hf_get (T := et_TT) (t := 13) (ci := 11) (f := 8) (p := 165) (by decide +kernel) rfl hH k_am q8_115 ?_
        refine hf_put (T := et_TT) (t := 13) (ci := 11) (f := 6) (p := 168) (ty := .int) (by decide +kernel) rfl rfl rfl rfl rfl hH k_am (hi_nv (by omega) (by omega)) (fun G165 hH x165 e165 => ?_)
        have m4 := (x165.2 am 4 lt_am (fun h => absurd h.2 (by decide))).trans m4
        have m7 := (x165.2 am 7 lt_am (fun h => absurd h.2 (by decide))).trans m7
        have m13 := (x165.2 am 13 lt_am (fun h => absurd h.2 (by decide))).trans m13
        have m1 := (x165.2 am 1 lt_am (fun h => absurd h.2 (by decide))).trans m1
        have m12 := (x165.2 am 12 lt_am (fun h => absurd h.2 (by decide))).trans m12
        have m9 := (x165.2 am 9 lt_am (fun h => absurd h.2 (by decide))).trans m9
        have q8_115 := (x165.2 am 8 lt_am (fun h => absurd h.2 (by decide))).trans q8_115
        have ht : ∀ i, i < n → et_pl (eg_at G165 tm) i = some (.int (sx (b i))) := fun i hi => (x165.2 tm i lt_tm (fun h => (hi_ne k_tm k_am (by decide)) h.1)).trans (ht i hi)
        have lt_am := Nat.lt_of_lt_of_le lt_am x165.1
        have lt_tm := Nat.lt_of_lt_of_le lt_tm x165.1
        have lt_aw := Nat.lt_of_lt_of_le lt_aw x165.1
        have hX := hX.tr x165 (fun b j hb h => by first | omega | (dsimp only at h ⊢; omega) | (dsimp only at h; omega) | (dsimp only; omega))
        refine hs_aload (i := 0) (p := 169) (by decide +kernel) rfl ?_
        refine ht_callv (T := et_TT) (t := 13) (mi := 199) (na := 0) (ci := 11) (lk := 3) (lm := 1) (L0 := eg_en (eg_mL 199) [.ref am]) (by decide +kernel) rfl hH k_am rfl rfl rfl rfl rfl (by rw [show eg_mL 199 = 1 from by decide +kernel]; first | done | rfl) ?_
        refine (fr_sum9 _ _ _ _ _ _ _ _ _ _ _ _ hH k_am m4 k_tm m7 hn ht hb e165 tk115.1 hpl m13 k_aw m1 m12 m9 (by omega) (by omega) (by omega)).mono (fun u hu => xw_cb hu (fun G169 v169 hH x169 hP169 => ?_))
        have x169 : xf (fun c j => (c = am ∧ j = 6) ∨ (c = am ∧ j = 8) ∨ (c = am ∧ j = 9) ∨ (c = am ∧ j = 12) ∨ (c = aw ∧ (11941 + 2 * k) ≤ j)) _ _ := x169
        have m4 := (x169.2 am 4 lt_am (fun h => Or.elim h (fun h => absurd h.2 (by decide)) (fun h => Or.elim h (fun h => absurd h.2 (by decide)) (fun h => Or.elim h (fun h => absurd h.2 (by decide)) (fun h => Or.elim h (fun h => absurd h.2 (by decide)) (fun h => (hi_ne k_am k_aw (by decide)) h.1)))))).trans m4
        have m7 := (x169.2 am 7 lt_am (fun h => Or.elim h (fun h => absurd h.2 (by decide)) (fun h => Or.elim h (fun h => absurd h.2 (by decide)) (fun h => Or.elim h (fun h => absurd h.2 (by decide)) (fun h => Or.elim h (fun h => absurd h.2 (by decide)) (fun h => (hi_ne k_am k_aw (by decide)) h.1)))))).trans m7
        have m13 := (x169.2 am 13 lt_am (fun h => Or.elim h (fun h => absurd h.2 (by decide)) (fun h => Or.elim h (fun h => absurd h.2 (by decide)) (fun h => Or.elim h (fun h => absurd h.2 (by decide)) (fun h => Or.elim h (fun h => absurd h.2 (by decide)) (fun h => (hi_ne k_am k_aw (by decide)) h.1)))))).trans m13
        have m1 := (x169.2 am 1 lt_am (fun h => Or.elim h (fun h => absurd h.2 (by decide)) (fun h => Or.elim h (fun h => absurd h.2 (by decide)) (fun h => Or.elim h (fun h => absurd h.2 (by decide)) (fun h => Or.elim h (fun h => absurd h.2 (by decide)) (fun h => (hi_ne k_am k_aw (by decide)) h.1)))))).trans m1
        have ht : ∀ i, i < n → et_pl (eg_at G169 tm) i = some (.int (sx (b i))) := fun i hi => (x169.2 tm i lt_tm (fun h => Or.elim h (fun h => (hi_ne k_tm k_am (by decide)) h.1) (fun h => Or.elim h (fun h => (hi_ne k_tm k_am (by decide)) h.1) (fun h => Or.elim h (fun h => (hi_ne k_tm k_am (by decide)) h.1) (fun h => Or.elim h (fun h => (hi_ne k_tm k_am (by decide)) h.1) (fun h => (hi_ne k_tm k_aw (by decide)) h.1)))))).trans (ht i hi)
        have lt_am := Nat.lt_of_lt_of_le lt_am x169.1
        have lt_tm := Nat.lt_of_lt_of_le lt_tm x169.1
        have lt_aw := Nat.lt_of_lt_of_le lt_aw x169.1
        have hX := hX.tr x169 (fun b j hb h => by first | omega | (dsimp only at h ⊢; omega) | (dsimp only at h; omega) | (dsimp only; omega))
        rcases hP169 with ⟨sp169, rfl⟩ | ⟨f169, p169, C169, sp169, rfl, q6_169, ha169, q12_169, q9_169, hC169, hR169, hl169⟩
        · show et_go none _ 195 172 _ [.int (Int32.ofNat 0)] _ _ _ _
          refine hs_if0 (c := .ne) (t := 177) (f := 175) (by decide +kernel) (show ¬ (¬ Int32.ofNat 0 = 0) by decide) ?_
          refine hs_k (x := Int32.ofNat 0) (p := 176) (by decide +kernel) ?_
          refine hs_zret (by decide +kernel) (.inl rfl) ?_
          exact ⟨_, _, rfl, hH, hX, .inl ⟨(by rw [hAC.1, ← te3, ← te59]; refine (sp_at_c (L := tz_ts pl b n p59) (x := 0) (by rw [te59]; exact i59) (by rw [te59, te3]; exact i3) w119).trans (sp_cmp_0 (L := tz_ts pl b n p59) (x := 0) ((congrArg sp_sum tk115.2.symm).trans sp169))), rfl⟩⟩
        · show et_go none _ 195 172 _ [.int (Int32.ofNat 1)] _ _ _ _
          refine hs_if1 (c := .ne) (t := 177) (f := 175) (by decide +kernel) (show ¬ Int32.ofNat 1 = 0 by decide) ?_
          refine hs_aload (i := 0) (p := 178) (by decide +kernel) rfl ?_
          refine hs_k (x := Int32.ofNat 60) (p := 180) (by decide +kernel) ?_
          refine ht_callv (T := et_TT) (t := 13) (mi := 196) (na := 1) (ci := 11) (lk := 3) (lm := 2) (L0 := eg_en (eg_mL 196) [.ref am, .int (Int32.ofNat 60)]) (by decide +kernel) rfl hH k_am rfl rfl rfl rfl rfl (by rw [show eg_mL 196 = 2 from by decide +kernel]; first | done | rfl) ?_
          refine (pa_sign (w := 25) (c := 60) hH k_am m4 k_tm m7 hn ht hb q6_169 ha169 hpl (by decide) (ok3 (by decide +kernel)) (by decide +kernel) (by decide +kernel) (by decide +kernel) (by decide) (by decide) (by omega)).mono (fun u hu => xw_cb hu (fun G180 v180 hH x180 hP180 => ?_))
          have hC169 := hC169.fr x180 lt_aw (fun j h1 h2 hs => by first | omega | (dsimp only at hs h2; omega))
          have m4 := (x180.2 am 4 lt_am (fun h => Or.elim h (fun h => absurd h.2 (by decide)) (fun h => absurd h.2 (by decide)))).trans m4
          have m7 := (x180.2 am 7 lt_am (fun h => Or.elim h (fun h => absurd h.2 (by decide)) (fun h => absurd h.2 (by decide)))).trans m7
          have m13 := (x180.2 am 13 lt_am (fun h => Or.elim h (fun h => absurd h.2 (by decide)) (fun h => absurd h.2 (by decide)))).trans m13
          have m1 := (x180.2 am 1 lt_am (fun h => Or.elim h (fun h => absurd h.2 (by decide)) (fun h => absurd h.2 (by decide)))).trans m1
          have q12_169 := (x180.2 am 12 lt_am (fun h => Or.elim h (fun h => absurd h.2 (by decide)) (fun h => absurd h.2 (by decide)))).trans q12_169
          have q9_169 := (x180.2 am 9 lt_am (fun h => Or.elim h (fun h => absurd h.2 (by decide)) (fun h => absurd h.2 (by decide)))).trans q9_169
          have ht : ∀ i, i < n → et_pl (eg_at G180 tm) i = some (.int (sx (b i))) := fun i hi => (x180.2 tm i lt_tm (fun h => Or.elim h (fun h => (hi_ne k_tm k_am (by decide)) h.1) (fun h => (hi_ne k_tm k_am (by decide)) h.1))).trans (ht i hi)
          have lt_am := Nat.lt_of_lt_of_le lt_am x180.1
          have lt_tm := Nat.lt_of_lt_of_le lt_tm x180.1
          have lt_aw := Nat.lt_of_lt_of_le lt_aw x180.1
          have hX := hX.tr x180 (fun b j hb h => by first | omega | (dsimp only at h ⊢; omega) | (dsimp only at h; omega) | (dsimp only; omega))
          rcases hP180 with ⟨p180, i180, rfl, q6_180, ha180, te180, tn180⟩ | ⟨p180, i180, rfl, q6_180, ha180, te180⟩
          · show et_go none _ 195 183 _ [.int (Int32.ofNat 1)] _ _ _ _
            refine hs_istore (i := 2) (p := 184) (by decide +kernel) (Nat.le_of_ble_eq_true rfl) ?_
            refine hs_iload (i := 2) (p := 185) (by decide +kernel) rfl ?_
            refine hs_if1 (c := .ne) (t := 197) (f := 188) (by decide +kernel) (show ¬ Int32.ofNat 1 = 0 by decide) ?_
            refine hs_aload (i := 0) (p := 198) (by decide +kernel) rfl ?_
            refine ht_callv (T := et_TT) (t := 13) (mi := 199) (na := 0) (ci := 11) (lk := 3) (lm := 1) (L0 := eg_en (eg_mL 199) [.ref am]) (by decide +kernel) rfl hH k_am rfl rfl rfl rfl rfl (by rw [show eg_mL 199 = 1 from by decide +kernel]; first | done | rfl) ?_
            refine (fr_sum9 _ _ _ _ _ _ _ _ _ _ _ _ hH k_am m4 k_tm m7 hn ht hb q6_180 ha180 hpl m13 k_aw m1 q12_169 q9_169 (by omega) (by omega) (by omega)).mono (fun u hu => xw_cb hu (fun G198 v198 hH x198 hP198 => ?_))
            have x198 : xf (fun c j => (c = am ∧ j = 6) ∨ (c = am ∧ j = 8) ∨ (c = am ∧ j = 9) ∨ (c = am ∧ j = 12) ∨ (c = aw ∧ (11941 + 2 * (k + C169.length)) ≤ j)) _ _ := x198
            have hC169 := hC169.fr x198 lt_aw (fun j h1 h2 hs => by first | omega | (dsimp only at hs h2; omega))
            have m4 := (x198.2 am 4 lt_am (fun h => Or.elim h (fun h => absurd h.2 (by decide)) (fun h => Or.elim h (fun h => absurd h.2 (by decide)) (fun h => Or.elim h (fun h => absurd h.2 (by decide)) (fun h => Or.elim h (fun h => absurd h.2 (by decide)) (fun h => (hi_ne k_am k_aw (by decide)) h.1)))))).trans m4
            have m7 := (x198.2 am 7 lt_am (fun h => Or.elim h (fun h => absurd h.2 (by decide)) (fun h => Or.elim h (fun h => absurd h.2 (by decide)) (fun h => Or.elim h (fun h => absurd h.2 (by decide)) (fun h => Or.elim h (fun h => absurd h.2 (by decide)) (fun h => (hi_ne k_am k_aw (by decide)) h.1)))))).trans m7
            have m13 := (x198.2 am 13 lt_am (fun h => Or.elim h (fun h => absurd h.2 (by decide)) (fun h => Or.elim h (fun h => absurd h.2 (by decide)) (fun h => Or.elim h (fun h => absurd h.2 (by decide)) (fun h => Or.elim h (fun h => absurd h.2 (by decide)) (fun h => (hi_ne k_am k_aw (by decide)) h.1)))))).trans m13
            have m1 := (x198.2 am 1 lt_am (fun h => Or.elim h (fun h => absurd h.2 (by decide)) (fun h => Or.elim h (fun h => absurd h.2 (by decide)) (fun h => Or.elim h (fun h => absurd h.2 (by decide)) (fun h => Or.elim h (fun h => absurd h.2 (by decide)) (fun h => (hi_ne k_am k_aw (by decide)) h.1)))))).trans m1
            have ht : ∀ i, i < n → et_pl (eg_at G198 tm) i = some (.int (sx (b i))) := fun i hi => (x198.2 tm i lt_tm (fun h => Or.elim h (fun h => (hi_ne k_tm k_am (by decide)) h.1) (fun h => Or.elim h (fun h => (hi_ne k_tm k_am (by decide)) h.1) (fun h => Or.elim h (fun h => (hi_ne k_tm k_am (by decide)) h.1) (fun h => Or.elim h (fun h => (hi_ne k_tm k_am (by decide)) h.1) (fun h => (hi_ne k_tm k_aw (by decide)) h.1)))))).trans (ht i hi)
            have lt_am := Nat.lt_of_lt_of_le lt_am x198.1
            have lt_tm := Nat.lt_of_lt_of_le lt_tm x198.1
            have lt_aw := Nat.lt_of_lt_of_le lt_aw x198.1
            have hX := hX.tr x198 (fun b j hb h => by first | omega | (dsimp only at h ⊢; omega) | (dsimp only at h; omega) | (dsimp only; omega))
            rcases hP198 with ⟨sp198, rfl⟩ | ⟨f198, p198, C198, sp198, rfl, q6_198, ha198, q12_198, q9_198, hC198, hR198, hl198⟩
            · show et_go none _ 195 201 _ [.int (Int32.ofNat 0)] _ _ _ _
              refine hs_if0 (c := .ne) (t := 206) (f := 204) (by decide +kernel) (show ¬ (¬ Int32.ofNat 0 = 0) by decide) ?_
              refine hs_k (x := Int32.ofNat 0) (p := 205) (by decide +kernel) ?_
              refine hs_zret (by decide +kernel) (.inl rfl) ?_
              exact ⟨_, _, rfl, hH, hX, .inl ⟨(by rw [hAC.1, ← te3, ← te59]; refine (sp_at_c (L := tz_ts pl b n p59) (x := 0) (by rw [te59]; exact i59) (by rw [te59, te3]; exact i3) w119).trans (cmp_n ((congrArg sp_sum tk115.2.symm).trans sp169) i180 (.inl rfl) (by rw [← te180]; exact sp198))), rfl⟩⟩
            · show et_go none _ 195 201 _ [.int (Int32.ofNat 1)] _ _ _ _
              refine hs_if1 (c := .ne) (t := 206) (f := 204) (by decide +kernel) (show ¬ Int32.ofNat 1 = 0 by decide) ?_
              refine hs_aload (i := 0) (p := 207) (by decide +kernel) rfl ?_
              refine hs_iload (i := 2) (p := 208) (by decide +kernel) rfl ?_
              refine hs_if0 (c := .eq) (t := 216) (f := 211) (by decide +kernel) (show ¬ (Int32.ofNat 1 = 0) by decide) ?_
              refine hs_k (x := Int32.ofNat 16) (p := 213) (by decide +kernel) ?_
              refine hs_goto (p := 218) (by decide +kernel) ?_
              refine hs_k (x := Int32.ofNat 0) (p := 219) (by decide +kernel) ?_
              refine ht_callv (T := et_TT) (t := 13) (mi := 197) (na := 2) (ci := 11) (lk := 3) (lm := 4) (L0 := eg_en (eg_mL 197) [.ref am, .int (Int32.ofNat 16), .int (Int32.ofNat 0)]) (by decide +kernel) rfl hH k_am rfl rfl rfl rfl rfl (by rw [show eg_mL 197 = 4 from by decide +kernel]; first | done | rfl) ?_
              refine (pa_emit (o := 16) (v := 0) ⟨by omega, by omega⟩ hH k_am k_aw m1 q12_198 (by omega) (by omega)).mono (fun u hu => xw_cb hu (fun G219 v219 hH x219 hP219 => ?_))
              have hC169 := hC169.fr x219 lt_aw (fun j h1 h2 hs => by first | omega | (dsimp only at hs h2; omega))
              have hC198 := hC198.fr x219 lt_aw (fun j h1 h2 hs => by first | omega | (dsimp only at hs h2; omega))
              have m4 := (x219.2 am 4 lt_am (fun h => Or.elim h (fun h => absurd h.2 (by decide)) (fun h => (hi_ne k_am k_aw (by decide)) h.1))).trans m4
              have m7 := (x219.2 am 7 lt_am (fun h => Or.elim h (fun h => absurd h.2 (by decide)) (fun h => (hi_ne k_am k_aw (by decide)) h.1))).trans m7
              have q6_198 := (x219.2 am 6 lt_am (fun h => Or.elim h (fun h => absurd h.2 (by decide)) (fun h => (hi_ne k_am k_aw (by decide)) h.1))).trans q6_198
              have m13 := (x219.2 am 13 lt_am (fun h => Or.elim h (fun h => absurd h.2 (by decide)) (fun h => (hi_ne k_am k_aw (by decide)) h.1))).trans m13
              have m1 := (x219.2 am 1 lt_am (fun h => Or.elim h (fun h => absurd h.2 (by decide)) (fun h => (hi_ne k_am k_aw (by decide)) h.1))).trans m1
              have q9_198 := (x219.2 am 9 lt_am (fun h => Or.elim h (fun h => absurd h.2 (by decide)) (fun h => (hi_ne k_am k_aw (by decide)) h.1))).trans q9_198
              have ht : ∀ i, i < n → et_pl (eg_at G219 tm) i = some (.int (sx (b i))) := fun i hi => (x219.2 tm i lt_tm (fun h => Or.elim h (fun h => (hi_ne k_tm k_am (by decide)) h.1) (fun h => (hi_ne k_tm k_aw (by decide)) h.1))).trans (ht i hi)
              have lt_am := Nat.lt_of_lt_of_le lt_am x219.1
              have lt_tm := Nat.lt_of_lt_of_le lt_tm x219.1
              have lt_aw := Nat.lt_of_lt_of_le lt_aw x219.1
              have hX := hX.tr x219 (fun b j hb h => by first | omega | (dsimp only at h ⊢; omega) | (dsimp only at h; omega) | (dsimp only; omega))
              obtain ⟨rfl, C219, ec219, lc219, q12_219, hC219⟩ := hP219
              show et_go none _ 195 222 _ [] _ _ _ _
              refine hs_k (x := Int32.ofNat 1) (p := 223) (by decide +kernel) ?_
              refine hs_zret (by decide +kernel) (.inr rfl) ?_
              refine ⟨_, _, rfl, hH, hX, .inr ⟨_, p198, ((C169 ++ C198) ++ C219), (by rw [hAC.1, ← te3, ← te59]; refine (sp_at_c (L := tz_ts pl b n p59) (x := 0) (by rw [te59]; exact i59) (by rw [te59, te3]; exact i3) w119).trans (cmp_lt ((congrArg sp_sum tk115.2.symm).trans sp169) i180 (by rw [← te180]; exact sp198))), rfl, q6_198, ha198, (by simpa only [List.length_append, Nat.add_assoc] using q12_219), q9_198, ((hC169.app (by simpa only [List.length_append, Nat.add_assoc] using hC198)).app (by simpa only [List.length_append, Nat.add_assoc] using hC219)), (by rw [ec219]; exact dnB_less hR169 hR198), ?_⟩⟩
              simp only [List.length_append]
              omega
          · have tn180 := congrArg List.length te180
            show et_go none _ 195 183 _ [.int (Int32.ofNat 0)] _ _ _ _
            refine hs_istore (i := 2) (p := 184) (by decide +kernel) (Nat.le_of_ble_eq_true rfl) ?_
            refine hs_iload (i := 2) (p := 185) (by decide +kernel) rfl ?_
            refine hs_if0 (c := .ne) (t := 197) (f := 188) (by decide +kernel) (show ¬ (¬ Int32.ofNat 0 = 0) by decide) ?_
            refine hs_aload (i := 0) (p := 189) (by decide +kernel) rfl ?_
            refine hs_k (x := Int32.ofNat 62) (p := 191) (by decide +kernel) ?_
            refine ht_callv (T := et_TT) (t := 13) (mi := 196) (na := 1) (ci := 11) (lk := 3) (lm := 2) (L0 := eg_en (eg_mL 196) [.ref am, .int (Int32.ofNat 62)]) (by decide +kernel) rfl hH k_am rfl rfl rfl rfl rfl (by rw [show eg_mL 196 = 2 from by decide +kernel]; first | done | rfl) ?_
            refine (pa_sign (w := 26) (c := 62) hH k_am m4 k_tm m7 hn ht hb q6_180 ha180 hpl (by decide) (ok3 (by decide +kernel)) (by decide +kernel) (by decide +kernel) (by decide +kernel) (by decide) (by decide) (by omega)).mono (fun u hu => xw_cb hu (fun G191 v191 hH x191 hP191 => ?_))
            have hC169 := hC169.fr x191 lt_aw (fun j h1 h2 hs => by first | omega | (dsimp only at hs h2; omega))
            have m4 := (x191.2 am 4 lt_am (fun h => Or.elim h (fun h => absurd h.2 (by decide)) (fun h => absurd h.2 (by decide)))).trans m4
            have m7 := (x191.2 am 7 lt_am (fun h => Or.elim h (fun h => absurd h.2 (by decide)) (fun h => absurd h.2 (by decide)))).trans m7
            have m13 := (x191.2 am 13 lt_am (fun h => Or.elim h (fun h => absurd h.2 (by decide)) (fun h => absurd h.2 (by decide)))).trans m13
            have m1 := (x191.2 am 1 lt_am (fun h => Or.elim h (fun h => absurd h.2 (by decide)) (fun h => absurd h.2 (by decide)))).trans m1
            have q12_169 := (x191.2 am 12 lt_am (fun h => Or.elim h (fun h => absurd h.2 (by decide)) (fun h => absurd h.2 (by decide)))).trans q12_169
            have q9_169 := (x191.2 am 9 lt_am (fun h => Or.elim h (fun h => absurd h.2 (by decide)) (fun h => absurd h.2 (by decide)))).trans q9_169
            have ht : ∀ i, i < n → et_pl (eg_at G191 tm) i = some (.int (sx (b i))) := fun i hi => (x191.2 tm i lt_tm (fun h => Or.elim h (fun h => (hi_ne k_tm k_am (by decide)) h.1) (fun h => (hi_ne k_tm k_am (by decide)) h.1))).trans (ht i hi)
            have lt_am := Nat.lt_of_lt_of_le lt_am x191.1
            have lt_tm := Nat.lt_of_lt_of_le lt_tm x191.1
            have lt_aw := Nat.lt_of_lt_of_le lt_aw x191.1
            have hX := hX.tr x191 (fun b j hb h => by first | omega | (dsimp only at h ⊢; omega) | (dsimp only at h; omega) | (dsimp only; omega))
            rcases hP191 with ⟨p191, i191, rfl, q6_191, ha191, te191, tn191⟩ | ⟨p191, i191, rfl, q6_191, ha191, te191⟩
            · show et_go none _ 195 194 _ [.int (Int32.ofNat 1)] _ _ _ _
              refine hs_if0 (c := .eq) (t := 204) (f := 197) (by decide +kernel) (show ¬ (Int32.ofNat 1 = 0) by decide) ?_
              refine hs_aload (i := 0) (p := 198) (by decide +kernel) rfl ?_
              refine ht_callv (T := et_TT) (t := 13) (mi := 199) (na := 0) (ci := 11) (lk := 3) (lm := 1) (L0 := eg_en (eg_mL 199) [.ref am]) (by decide +kernel) rfl hH k_am rfl rfl rfl rfl rfl (by rw [show eg_mL 199 = 1 from by decide +kernel]; first | done | rfl) ?_
              refine (fr_sum9 _ _ _ _ _ _ _ _ _ _ _ _ hH k_am m4 k_tm m7 hn ht hb q6_191 ha191 hpl m13 k_aw m1 q12_169 q9_169 (by omega) (by omega) (by omega)).mono (fun u hu => xw_cb hu (fun G198 v198 hH x198 hP198 => ?_))
              have x198 : xf (fun c j => (c = am ∧ j = 6) ∨ (c = am ∧ j = 8) ∨ (c = am ∧ j = 9) ∨ (c = am ∧ j = 12) ∨ (c = aw ∧ (11941 + 2 * (k + C169.length)) ≤ j)) _ _ := x198
              have hC169 := hC169.fr x198 lt_aw (fun j h1 h2 hs => by first | omega | (dsimp only at hs h2; omega))
              have m4 := (x198.2 am 4 lt_am (fun h => Or.elim h (fun h => absurd h.2 (by decide)) (fun h => Or.elim h (fun h => absurd h.2 (by decide)) (fun h => Or.elim h (fun h => absurd h.2 (by decide)) (fun h => Or.elim h (fun h => absurd h.2 (by decide)) (fun h => (hi_ne k_am k_aw (by decide)) h.1)))))).trans m4
              have m7 := (x198.2 am 7 lt_am (fun h => Or.elim h (fun h => absurd h.2 (by decide)) (fun h => Or.elim h (fun h => absurd h.2 (by decide)) (fun h => Or.elim h (fun h => absurd h.2 (by decide)) (fun h => Or.elim h (fun h => absurd h.2 (by decide)) (fun h => (hi_ne k_am k_aw (by decide)) h.1)))))).trans m7
              have m13 := (x198.2 am 13 lt_am (fun h => Or.elim h (fun h => absurd h.2 (by decide)) (fun h => Or.elim h (fun h => absurd h.2 (by decide)) (fun h => Or.elim h (fun h => absurd h.2 (by decide)) (fun h => Or.elim h (fun h => absurd h.2 (by decide)) (fun h => (hi_ne k_am k_aw (by decide)) h.1)))))).trans m13
              have m1 := (x198.2 am 1 lt_am (fun h => Or.elim h (fun h => absurd h.2 (by decide)) (fun h => Or.elim h (fun h => absurd h.2 (by decide)) (fun h => Or.elim h (fun h => absurd h.2 (by decide)) (fun h => Or.elim h (fun h => absurd h.2 (by decide)) (fun h => (hi_ne k_am k_aw (by decide)) h.1)))))).trans m1
              have ht : ∀ i, i < n → et_pl (eg_at G198 tm) i = some (.int (sx (b i))) := fun i hi => (x198.2 tm i lt_tm (fun h => Or.elim h (fun h => (hi_ne k_tm k_am (by decide)) h.1) (fun h => Or.elim h (fun h => (hi_ne k_tm k_am (by decide)) h.1) (fun h => Or.elim h (fun h => (hi_ne k_tm k_am (by decide)) h.1) (fun h => Or.elim h (fun h => (hi_ne k_tm k_am (by decide)) h.1) (fun h => (hi_ne k_tm k_aw (by decide)) h.1)))))).trans (ht i hi)
              have lt_am := Nat.lt_of_lt_of_le lt_am x198.1
              have lt_tm := Nat.lt_of_lt_of_le lt_tm x198.1
              have lt_aw := Nat.lt_of_lt_of_le lt_aw x198.1
              have hX := hX.tr x198 (fun b j hb h => by first | omega | (dsimp only at h ⊢; omega) | (dsimp only at h; omega) | (dsimp only; omega))
              rcases hP198 with ⟨sp198, rfl⟩ | ⟨f198, p198, C198, sp198, rfl, q6_198, ha198, q12_198, q9_198, hC198, hR198, hl198⟩
              · show et_go none _ 195 201 _ [.int (Int32.ofNat 0)] _ _ _ _
                refine hs_if0 (c := .ne) (t := 206) (f := 204) (by decide +kernel) (show ¬ (¬ Int32.ofNat 0 = 0) by decide) ?_
                refine hs_k (x := Int32.ofNat 0) (p := 205) (by decide +kernel) ?_
                refine hs_zret (by decide +kernel) (.inl rfl) ?_
                exact ⟨_, _, rfl, hH, hX, .inl ⟨(by rw [hAC.1, ← te3, ← te59]; refine (sp_at_c (L := tz_ts pl b n p59) (x := 0) (by rw [te59]; exact i59) (by rw [te59, te3]; exact i3) w119).trans (cmp_n ((congrArg sp_sum tk115.2.symm).trans sp169) (by rw [← te180]; exact i191) (.inr rfl) (by rw [← te180, ← te191]; exact sp198))), rfl⟩⟩
              · show et_go none _ 195 201 _ [.int (Int32.ofNat 1)] _ _ _ _
                refine hs_if1 (c := .ne) (t := 206) (f := 204) (by decide +kernel) (show ¬ Int32.ofNat 1 = 0 by decide) ?_
                refine hs_aload (i := 0) (p := 207) (by decide +kernel) rfl ?_
                refine hs_iload (i := 2) (p := 208) (by decide +kernel) rfl ?_
                refine hs_if1 (c := .eq) (t := 216) (f := 211) (by decide +kernel) (show Int32.ofNat 0 = 0 by decide) ?_
                refine hs_k (x := Int32.ofNat 17) (p := 218) (by decide +kernel) ?_
                refine hs_k (x := Int32.ofNat 0) (p := 219) (by decide +kernel) ?_
                refine ht_callv (T := et_TT) (t := 13) (mi := 197) (na := 2) (ci := 11) (lk := 3) (lm := 4) (L0 := eg_en (eg_mL 197) [.ref am, .int (Int32.ofNat 17), .int (Int32.ofNat 0)]) (by decide +kernel) rfl hH k_am rfl rfl rfl rfl rfl (by rw [show eg_mL 197 = 4 from by decide +kernel]; first | done | rfl) ?_
                refine (pa_emit (o := 17) (v := 0) ⟨by omega, by omega⟩ hH k_am k_aw m1 q12_198 (by omega) (by omega)).mono (fun u hu => xw_cb hu (fun G219 v219 hH x219 hP219 => ?_))
                have hC169 := hC169.fr x219 lt_aw (fun j h1 h2 hs => by first | omega | (dsimp only at hs h2; omega))
                have hC198 := hC198.fr x219 lt_aw (fun j h1 h2 hs => by first | omega | (dsimp only at hs h2; omega))
                have m4 := (x219.2 am 4 lt_am (fun h => Or.elim h (fun h => absurd h.2 (by decide)) (fun h => (hi_ne k_am k_aw (by decide)) h.1))).trans m4
                have m7 := (x219.2 am 7 lt_am (fun h => Or.elim h (fun h => absurd h.2 (by decide)) (fun h => (hi_ne k_am k_aw (by decide)) h.1))).trans m7
                have q6_198 := (x219.2 am 6 lt_am (fun h => Or.elim h (fun h => absurd h.2 (by decide)) (fun h => (hi_ne k_am k_aw (by decide)) h.1))).trans q6_198
                have m13 := (x219.2 am 13 lt_am (fun h => Or.elim h (fun h => absurd h.2 (by decide)) (fun h => (hi_ne k_am k_aw (by decide)) h.1))).trans m13
                have m1 := (x219.2 am 1 lt_am (fun h => Or.elim h (fun h => absurd h.2 (by decide)) (fun h => (hi_ne k_am k_aw (by decide)) h.1))).trans m1
                have q9_198 := (x219.2 am 9 lt_am (fun h => Or.elim h (fun h => absurd h.2 (by decide)) (fun h => (hi_ne k_am k_aw (by decide)) h.1))).trans q9_198
                have ht : ∀ i, i < n → et_pl (eg_at G219 tm) i = some (.int (sx (b i))) := fun i hi => (x219.2 tm i lt_tm (fun h => Or.elim h (fun h => (hi_ne k_tm k_am (by decide)) h.1) (fun h => (hi_ne k_tm k_aw (by decide)) h.1))).trans (ht i hi)
                have lt_am := Nat.lt_of_lt_of_le lt_am x219.1
                have lt_tm := Nat.lt_of_lt_of_le lt_tm x219.1
                have lt_aw := Nat.lt_of_lt_of_le lt_aw x219.1
                have hX := hX.tr x219 (fun b j hb h => by first | omega | (dsimp only at h ⊢; omega) | (dsimp only at h; omega) | (dsimp only; omega))
                obtain ⟨rfl, C219, ec219, lc219, q12_219, hC219⟩ := hP219
                show et_go none _ 195 222 _ [] _ _ _ _
                refine hs_k (x := Int32.ofNat 1) (p := 223) (by decide +kernel) ?_
                refine hs_zret (by decide +kernel) (.inr rfl) ?_
                refine ⟨_, _, rfl, hH, hX, .inr ⟨_, p198, ((C169 ++ C198) ++ C219), (by rw [hAC.1, ← te3, ← te59]; refine (sp_at_c (L := tz_ts pl b n p59) (x := 0) (by rw [te59]; exact i59) (by rw [te59, te3]; exact i3) w119).trans (cmp_gt ((congrArg sp_sum tk115.2.symm).trans sp169) (by rw [← te180]; exact i191) (by rw [← te180, ← te191]; exact sp198))), rfl, q6_198, ha198, (by simpa only [List.length_append, Nat.add_assoc] using q12_219), q9_198, ((hC169.app (by simpa only [List.length_append, Nat.add_assoc] using hC198)).app (by simpa only [List.length_append, Nat.add_assoc] using hC219)), (by rw [ec219]; exact dnB_more hR169 hR198), ?_⟩⟩
                simp only [List.length_append]
                omega
            · have tn191 := congrArg List.length te191
              show et_go none _ 195 194 _ [.int (Int32.ofNat 0)] _ _ _ _
              refine hs_if1 (c := .eq) (t := 204) (f := 197) (by decide +kernel) (show Int32.ofNat 0 = 0 by decide) ?_
              refine hs_k (x := Int32.ofNat 0) (p := 205) (by decide +kernel) ?_
              refine hs_zret (by decide +kernel) (.inl rfl) ?_
              exact ⟨_, _, rfl, hH, hX, .inl ⟨(by rw [hAC.1, ← te3, ← te59]; refine (sp_at_c (L := tz_ts pl b n p59) (x := 0) (by rw [te59]; exact i59) (by rw [te59, te3]; exact i3) w119).trans (cmp_1 ((congrArg sp_sum tk115.2.symm).trans sp169) i180 (by rw [← te180]; exact i191))), rfl⟩⟩
theorem fr_cond : ∀ m, rP 195 (10 + 3 * m) m dnB (sp_A m) ∧ rP 193 (12 + 3 * m) m dnB (sp_C m)
  | 0 => have h : rP 195 (10 + 3 * 0) 0 dnB (sp_A 0) := fr_atom (fun m1 h => by omega)
    ⟨h, fr_any (by decide) (fr_all (by decide) h)⟩
  | m + 1 => have h : rP 195 (10 + 3 * (m + 1)) (m + 1) dnB (sp_A (m + 1)) := fr_atom (fun m1 h => by
      obtain rfl : m = m1 := by omega
      exact fr_cond m)
    ⟨h, (fr_any (by omega) (fr_all (by omega) h)).up (by omega)⟩
end FWA
