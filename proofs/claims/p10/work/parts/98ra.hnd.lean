/-! FUNCTIONAL: the reference's rule -/
theorem hmW_lt {W : Nat → Int32} {i : Nat} {v : Value} (h : et_pl (hm_W W) i = some v) : i < 12741 := by
  have h : et_pl (.inl (0, (12741, .inl W))) i = some v := h
  rw [hf_pl (.inl rfl)] at h
  split at h
  · assumption
  · cases h
/-- a text's steps, wherever it lies -/
def hasT (G : eg_G) (aw X k : Nat) (C : List (Nat × Nat)) : Prop := ∀ j s, C[j]? = some s → et_pl (eg_at G aw) (X + 41 + 2 * (k + j)) = some (.int (Int32.ofNat s.1)) ∧ et_pl (eg_at G aw) (X + 41 + 2 * (k + j) + 1) = some (.int (Int32.ofNat s.2))
/-- the text of a RULE or CLAIM at X says f -/
def txP (G : eg_G) (aw X pl : Nat) (f : sp_E → Bool) : Prop := ∃ C : List (Nat × Nat), et_pl (eg_at G aw) X = some (.int (Int32.ofNat 1)) ∧ et_pl (eg_at G aw) (X + 3) = some (.int (Int32.ofNat 0)) ∧ et_pl (eg_at G aw) (X + 4) = some (.int (Int32.ofNat C.length)) ∧ hasT G aw X 0 C ∧ dnB pl f C
theorem txP.mv {G G' : eg_G} {aw X pl : Nat} {f : sp_E → Bool} {C : List (Nat × Nat)} {W : Nat → Int32} (eW : eg_at G aw = hm_W W) (h0 : et_pl (eg_at G aw) 11900 = some (.int (Int32.ofNat 1))) (h3 : et_pl (eg_at G aw) 11903 = some (.int (Int32.ofNat 0))) (h4 : et_pl (eg_at G aw) 11904 = some (.int (Int32.ofNat C.length))) (hC : hasC G aw 0 C) (hd : dnB pl f C) (hc : ∀ i v, i < 841 → et_pl (eg_at G aw) (11900 + i) = some v → et_pl (eg_at G' aw) (X + i) = some v) : txP G' aw X pl f := by
  refine ⟨C, hc 0 _ (by decide) h0, hc 3 _ (by decide) h3, hc 4 _ (by decide) h4, fun j s hj => ?_, hd⟩
  obtain ⟨h1, h2⟩ := hC j s hj
  have hl : 11941 + 2 * (0 + j) + 1 < 12741 := hmW_lt (by rw [← eW]; exact h2)
  exact ⟨pl_eq (hc (41 + 2 * (0 + j)) _ (by omega) (pl_eq h1 (by omega))) (by omega), pl_eq (hc (41 + 2 * (0 + j) + 1) _ (by omega) (pl_eq h2 (by omega))) (by omega)⟩
def ruP (am aw r : Nat) (sp : Option (sp_E → Bool)) (G' : eg_G) (v : Option Value) : Prop :=
  (sp = none ∧ v = some (.int (Int32.ofNat 0)) ∧ et_pl (eg_at G' am) 0 = some (.int (Int32.ofNat 1)) ∧ et_pl (eg_at G' aw) 0 = some (.int (Int32.ofNat r))) ∨
  (r = 4 ∧ ¬ sp = none ∧ v = some (.int (Int32.ofNat 0)) ∧ et_pl (eg_at G' am) 0 = some (.int (Int32.ofNat 2)) ∧ et_pl (eg_at G' aw) 0 = some (.int (Int32.ofNat r))) ∨
  (∃ f, sp = some f ∧ r < 4 ∧ v = some (.int (Int32.ofNat r)) ∧ et_pl (eg_at G' am) 0 = some (.int (Int32.ofNat 0)) ∧ et_pl (eg_at G' aw) 0 = some (.int (Int32.ofNat (r + 1))) ∧ txP G' aw (126 + 841 * r) 0 f)
section FRA
variable {K : et_K} {G G0 : eg_G} {b : Nat → Nat} {d2 d am aw ai tm n p pl k dp m i r : Nat}

theorem fm_uses (hH : et_H et_TT K G) (k_am : K am = some 13) (hn : n ≤ 400) (m5 : et_pl (eg_at G am) 5 = some (.int (Int32.ofNat n))) : et_go none d2 181 0 (eg_en (eg_mL 181) [.ref am]) [] G 0 0 (xw_Z (fun c j => (c = am ∧ j = 0) ∨ ((c = am ∧ (5 ≤ j ∧ j ≤ 7)) ∨ (c = am ∧ j = 12))) K G (fun G' v => v = none ∧ et_pl (eg_at G' am) 0 = some (.int (Int32.ofNat 0)) ∧ et_pl (eg_at G' am) 5 = some (.int (Int32.ofNat 0)) ∧ et_pl (eg_at G' am) 6 = some (.int (Int32.ofNat 0)) ∧ et_pl (eg_at G' am) 7 = some (.int (Int32.ofNat n)) ∧ et_pl (eg_at G' am) 12 = some (.int (Int32.ofNat 0)))) := by
  rw [show eg_mL 181 = 1 from by decide +kernel]
  show et_go none d2 181 0 [some (.ref am)] [] G 0 0 (xw_Z _ _ _ _)
  have lt_am := (hH.2.2 _ _ k_am).1
  have hX : xf (fun c j => (c = am ∧ j = 0) ∨ ((c = am ∧ (5 ≤ j ∧ j ≤ 7)) ∨ (c = am ∧ j = 12))) G G := xf.rf
  refine hs_aload (i := 0) (p := 1) (by decide +kernel) rfl ?_
  refine hs_k (x := Int32.ofNat 0) (p := 2) (by decide +kernel) ?_
  refine hf_put (T := et_TT) (t := 13) (ci := 11) (f := 0) (p := 5) (ty := .int) (by decide +kernel) rfl rfl rfl rfl rfl hH k_am hi_any (fun G2 hH x2 e2 => ?_)
  have m5 := (x2.2 am 5 lt_am (fun h => absurd h.2 (by decide))).trans m5
  have lt_am := Nat.lt_of_lt_of_le lt_am x2.1
  have hX := hX.tr x2 (fun b j hb h => by first | omega | (dsimp only at h ⊢; omega) | (dsimp only at h; omega) | (dsimp only; omega))
  refine hs_aload (i := 0) (p := 6) (by decide +kernel) rfl ?_
  refine hs_aload (i := 0) (p := 7) (by decide +kernel) rfl ?_
  refine hf_get (T := et_TT) (t := 13) (ci := 11) (f := 5) (p := 10) (by decide +kernel) rfl hH k_am m5 ?_
  refine hf_put (T := et_TT) (t := 13) (ci := 11) (f := 7) (p := 13) (ty := .int) (by decide +kernel) rfl rfl rfl rfl rfl hH k_am (hi_nv (by omega) (by omega)) (fun G10 hH x10 e10 => ?_)
  have m5 := (x10.2 am 5 lt_am (fun h => absurd h.2 (by decide))).trans m5
  have e2 := (x10.2 am 0 lt_am (fun h => absurd h.2 (by decide))).trans e2
  have lt_am := Nat.lt_of_lt_of_le lt_am x10.1
  have hX := hX.tr x10 (fun b j hb h => by first | omega | (dsimp only at h ⊢; omega) | (dsimp only at h; omega) | (dsimp only; omega))
  refine hs_aload (i := 0) (p := 14) (by decide +kernel) rfl ?_
  refine hs_k (x := Int32.ofNat 0) (p := 15) (by decide +kernel) ?_
  refine hf_put (T := et_TT) (t := 13) (ci := 11) (f := 5) (p := 18) (ty := .int) (by decide +kernel) rfl rfl rfl rfl rfl hH k_am (hi_nv (by omega) (by omega)) (fun G15 hH x15 e15 => ?_)
  have e2 := (x15.2 am 0 lt_am (fun h => absurd h.2 (by decide))).trans e2
  have e10 := (x15.2 am 7 lt_am (fun h => absurd h.2 (by decide))).trans e10
  have lt_am := Nat.lt_of_lt_of_le lt_am x15.1
  have hX := hX.tr x15 (fun b j hb h => by first | omega | (dsimp only at h ⊢; omega) | (dsimp only at h; omega) | (dsimp only; omega))
  refine hs_aload (i := 0) (p := 19) (by decide +kernel) rfl ?_
  refine hs_k (x := Int32.ofNat 0) (p := 20) (by decide +kernel) ?_
  refine hf_put (T := et_TT) (t := 13) (ci := 11) (f := 6) (p := 23) (ty := .int) (by decide +kernel) rfl rfl rfl rfl rfl hH k_am (hi_nv (by omega) (by omega)) (fun G20 hH x20 e20 => ?_)
  have e15 := (x20.2 am 5 lt_am (fun h => absurd h.2 (by decide))).trans e15
  have e2 := (x20.2 am 0 lt_am (fun h => absurd h.2 (by decide))).trans e2
  have e10 := (x20.2 am 7 lt_am (fun h => absurd h.2 (by decide))).trans e10
  have lt_am := Nat.lt_of_lt_of_le lt_am x20.1
  have hX := hX.tr x20 (fun b j hb h => by first | omega | (dsimp only at h ⊢; omega) | (dsimp only at h; omega) | (dsimp only; omega))
  refine hs_aload (i := 0) (p := 24) (by decide +kernel) rfl ?_
  refine hs_k (x := Int32.ofNat 0) (p := 25) (by decide +kernel) ?_
  refine hf_put (T := et_TT) (t := 13) (ci := 11) (f := 12) (p := 28) (ty := .int) (by decide +kernel) rfl rfl rfl rfl rfl hH k_am (hi_nv (by omega) (by omega)) (fun G25 hH x25 e25 => ?_)
  have e15 := (x25.2 am 5 lt_am (fun h => absurd h.2 (by decide))).trans e15
  have e2 := (x25.2 am 0 lt_am (fun h => absurd h.2 (by decide))).trans e2
  have e10 := (x25.2 am 7 lt_am (fun h => absurd h.2 (by decide))).trans e10
  have e20 := (x25.2 am 6 lt_am (fun h => absurd h.2 (by decide))).trans e20
  have lt_am := Nat.lt_of_lt_of_le lt_am x25.1
  have hX := hX.tr x25 (fun b j hb h => by first | omega | (dsimp only at h ⊢; omega) | (dsimp only at h; omega) | (dsimp only; omega))
  refine hs_vret (by decide +kernel) ?_
  exact ⟨_, _, rfl, hH, hX, rfl, e2, e15, e20, e10, e25⟩
theorem fm_rule (hH : et_H et_TT K G) (k_am : K am = some 13) (m4 : et_pl (eg_at G am) 4 = some (.ref tm)) (k_tm : K tm = some 34) (m5 : et_pl (eg_at G am) 5 = some (.int (Int32.ofNat n))) (hn : n ≤ 400) (ht : ∀ i, i < n → et_pl (eg_at G tm) i = some (.int (sx (b i)))) (hb : ∀ i, i < n → b i < 256) (k_aw : K aw = some 46) (m1 : et_pl (eg_at G am) 1 = some (.ref aw)) (m18 : et_pl (eg_at G am) 18 = some (.ref ai)) (w0 : et_pl (eg_at G aw) 0 = some (.int (Int32.ofNat r))) (hr : r ≤ 4) (hd : 35 ≤ d2) : et_go none d2 180 0 (eg_en (eg_mL 180) [.ref am]) [] G 0 0 (xn_Z (fun c j => (c = am ∧ (j = 0 ∨ ((5 ≤ j ∧ j ≤ 10) ∨ (12 ≤ j ∧ j ≤ 13)))) ∨ ((c = ai ∧ j = r) ∨ (c = aw ∧ (j = 0 ∨ ((126 + 841 * r ≤ j ∧ j < 126 + 841 * r + 841) ∨ 11900 ≤ j))))) G (ruP am aw r (sp_one (tz_ts 0 b n 0)))) := by
  obtain ⟨d, rfl⟩ : ∃ d, d2 = d + 35 := ⟨d2 - 35, by omega⟩
  rw [show eg_mL 180 = 2 from by decide +kernel]
  show et_go none (d + 35) 180 0 [some (.ref am), none] [] G 0 0 (xn_Z _ _ _)
  have hne : ¬ aw = am := hi_ne k_aw k_am (by decide)
  have lt_am := (hH.2.2 _ _ k_am).1
  have lt_tm := (hH.2.2 _ _ k_tm).1
  have lt_aw := (hH.2.2 _ _ k_aw).1
  have hX : xf (fun c j => (c = am ∧ j = 0) ∨ (c = am ∧ (5 ≤ j ∧ j ≤ 10)) ∨ (c = am ∧ (12 ≤ j ∧ j ≤ 13)) ∨ (c = aw ∧ 11900 ≤ j)) G G := xf.rf
  refine hs_aload (i := 0) (p := 1) (by decide +kernel) rfl ?_
  refine ht_callv (T := et_TT) (t := 13) (mi := 181) (na := 0) (ci := 11) (lk := 2) (lm := 1) (L0 := eg_en (eg_mL 181) [.ref am]) (by decide +kernel) rfl hH k_am rfl rfl rfl rfl rfl (by rw [show eg_mL 181 = 1 from by decide +kernel]; first | done | rfl) ?_
  refine (fm_uses hH k_am hn m5).mono (fun u hu => xw_cb hu (fun G1 v1 hH x1 hP1 => ?_))
  have x1 : xf (fun c j => (c = am ∧ j = 0) ∨ (c = am ∧ (5 ≤ j ∧ j ≤ 7)) ∨ (c = am ∧ j = 12)) _ _ := x1
  have m4 := (x1.2 am 4 lt_am (fun h => Or.elim h (fun h => absurd h.2 (by decide)) (fun h => Or.elim h (fun h => absurd h.2 (by decide)) (fun h => absurd h.2 (by decide))))).trans m4
  have m1 := (x1.2 am 1 lt_am (fun h => Or.elim h (fun h => absurd h.2 (by decide)) (fun h => Or.elim h (fun h => absurd h.2 (by decide)) (fun h => absurd h.2 (by decide))))).trans m1
  have m18 := (x1.2 am 18 lt_am (fun h => Or.elim h (fun h => absurd h.2 (by decide)) (fun h => Or.elim h (fun h => absurd h.2 (by decide)) (fun h => absurd h.2 (by decide))))).trans m18
  have w0 := (x1.2 aw 0 lt_aw (fun h => Or.elim h (fun h => hne h.1) (fun h => Or.elim h (fun h => hne h.1) (fun h => hne h.1)))).trans w0
  have ht : ∀ i, i < n → et_pl (eg_at G1 tm) i = some (.int (sx (b i))) := fun i hi => (x1.2 tm i lt_tm (fun h => Or.elim h (fun h => (hi_ne k_tm k_am (by decide)) h.1) (fun h => Or.elim h (fun h => (hi_ne k_tm k_am (by decide)) h.1) (fun h => (hi_ne k_tm k_am (by decide)) h.1)))).trans (ht i hi)
  have lt_am := Nat.lt_of_lt_of_le lt_am x1.1
  have lt_tm := Nat.lt_of_lt_of_le lt_tm x1.1
  have lt_aw := Nat.lt_of_lt_of_le lt_aw x1.1
  have hX := hX.tr x1 (fun b j hb h => by first | omega | (dsimp only at h ⊢; omega) | (dsimp only at h; omega) | (dsimp only; omega))
  obtain ⟨rfl, q0, q5, q6, q7, q12⟩ := hP1
  show et_go none _ 180 4 _ [] _ _ _ _
  refine hs_aload (i := 0) (p := 5) (by decide +kernel) rfl ?_
  refine hs_aload (i := 0) (p := 6) (by decide +kernel) rfl ?_
  refine hs_k (x := Int32.ofNat 0) (p := 7) (by decide +kernel) ?_
  refine ht_callv (T := et_TT) (t := 13) (mi := 182) (na := 1) (ci := 11) (lk := 2) (lm := 3) (L0 := eg_en (eg_mL 182) [.ref am, .int (Int32.ofNat 0)]) (by decide +kernel) rfl hH k_am rfl rfl rfl rfl rfl (by rw [show eg_mL 182 = 3 from by decide +kernel]; first | done | rfl) ?_
  refine (fr_reads_one (pl := 0) (k := 0) (p := 0) hH k_am m4 k_tm q7 hn ht hb q6 tal0 (by decide) k_aw m1 q12 rfl (by decide) (by omega)).mono (fun u hu => xw_cb hu (fun G7 v7 hH x7 hP7 => ?_))
  have x7 : xf (fun c j => (c = am ∧ j = 6) ∨ (c = am ∧ (8 ≤ j ∧ j ≤ 10)) ∨ (c = am ∧ (12 ≤ j ∧ j ≤ 13)) ∨ (c = aw ∧ 11900 ≤ j)) _ _ := x7
  have m4 := (x7.2 am 4 lt_am (fun h => Or.elim h (fun h => absurd h.2 (by decide)) (fun h => Or.elim h (fun h => absurd h.2 (by decide)) (fun h => Or.elim h (fun h => absurd h.2 (by decide)) (fun h => (hi_ne k_am k_aw (by decide)) h.1))))).trans m4
  have q5 := (x7.2 am 5 lt_am (fun h => Or.elim h (fun h => absurd h.2 (by decide)) (fun h => Or.elim h (fun h => absurd h.2 (by decide)) (fun h => Or.elim h (fun h => absurd h.2 (by decide)) (fun h => (hi_ne k_am k_aw (by decide)) h.1))))).trans q5
  have m1 := (x7.2 am 1 lt_am (fun h => Or.elim h (fun h => absurd h.2 (by decide)) (fun h => Or.elim h (fun h => absurd h.2 (by decide)) (fun h => Or.elim h (fun h => absurd h.2 (by decide)) (fun h => (hi_ne k_am k_aw (by decide)) h.1))))).trans m1
  have m18 := (x7.2 am 18 lt_am (fun h => Or.elim h (fun h => absurd h.2 (by decide)) (fun h => Or.elim h (fun h => absurd h.2 (by decide)) (fun h => Or.elim h (fun h => absurd h.2 (by decide)) (fun h => (hi_ne k_am k_aw (by decide)) h.1))))).trans m18
  have w0 := (x7.2 aw 0 lt_aw (fun h => Or.elim h (fun h => hne h.1) (fun h => Or.elim h (fun h => hne h.1) (fun h => Or.elim h (fun h => hne h.1) (fun h => by have h := h.2; omega))))).trans w0
  have q0 := (x7.2 am 0 lt_am (fun h => Or.elim h (fun h => absurd h.2 (by decide)) (fun h => Or.elim h (fun h => absurd h.2 (by decide)) (fun h => Or.elim h (fun h => absurd h.2 (by decide)) (fun h => (hi_ne k_am k_aw (by decide)) h.1))))).trans q0
  have q7 := (x7.2 am 7 lt_am (fun h => Or.elim h (fun h => absurd h.2 (by decide)) (fun h => Or.elim h (fun h => absurd h.2 (by decide)) (fun h => Or.elim h (fun h => absurd h.2 (by decide)) (fun h => (hi_ne k_am k_aw (by decide)) h.1))))).trans q7
  have ht : ∀ i, i < n → et_pl (eg_at G7 tm) i = some (.int (sx (b i))) := fun i hi => (x7.2 tm i lt_tm (fun h => Or.elim h (fun h => (hi_ne k_tm k_am (by decide)) h.1) (fun h => Or.elim h (fun h => (hi_ne k_tm k_am (by decide)) h.1) (fun h => Or.elim h (fun h => (hi_ne k_tm k_am (by decide)) h.1) (fun h => (hi_ne k_tm k_aw (by decide)) h.1))))).trans (ht i hi)
  have lt_am := Nat.lt_of_lt_of_le lt_am x7.1
  have lt_tm := Nat.lt_of_lt_of_le lt_tm x7.1
  have lt_aw := Nat.lt_of_lt_of_le lt_aw x7.1
  have hX := hX.tr x7 (fun b j hb h => by first | omega | (dsimp only at h ⊢; omega) | (dsimp only at h; omega) | (dsimp only; omega))
  rcases hP7 with ⟨sq, rfl⟩ | ⟨f_, C_, sq, rfl, g1, g2, g3, g4, g5⟩
  · have hP : P1 aw 0 (sp_one (tz_ts 0 b n 0)) G7 (some (.int (Int32.ofNat 0))) := .inl ⟨sq, rfl⟩
    show et_go none _ 180 10 _ [.int (Int32.ofNat 0), .ref am] _ _ _ _
    refine hs_if0 (c := .ne) (t := 17) (f := 13) (by decide +kernel) (show ¬ (¬ Int32.ofNat 0 = 0) by decide) ?_
    refine hs_k (x := Int32.ofNat 1) (p := 14) (by decide +kernel) ?_
    refine hs_goto (p := 18) (by decide +kernel) ?_
    refine hs_k (x := Int32.ofNat 1) (p := 19) (by decide +kernel) ?_
    refine ht_callv (T := et_TT) (t := 13) (mi := 204) (na := 2) (ci := 11) (lk := 2) (lm := 3) (L0 := eg_en (eg_mL 204) [.ref am, .int (Int32.ofNat 1), .int (Int32.ofNat 1)]) (by decide +kernel) rfl hH k_am rfl rfl rfl rfl rfl (by rw [show eg_mL 204 = 3 from by decide +kernel]; first | done | rfl) ?_
    refine (fm_t1 hH k_am).mono (fun u hu => xw_cb hu (fun G19 v19 hH x19 hP19 => ?_))
    have hP := hP.fr x19 lt_aw (fun j hs => hne hs.1)
    have m4 := (x19.2 am 4 lt_am (fun h => absurd h.2 (by decide))).trans m4
    have q5 := (x19.2 am 5 lt_am (fun h => absurd h.2 (by decide))).trans q5
    have m1 := (x19.2 am 1 lt_am (fun h => absurd h.2 (by decide))).trans m1
    have m18 := (x19.2 am 18 lt_am (fun h => absurd h.2 (by decide))).trans m18
    have w0 := (x19.2 aw 0 lt_aw (fun h => hne h.1)).trans w0
    have q7 := (x19.2 am 7 lt_am (fun h => absurd h.2 (by decide))).trans q7
    have ht : ∀ i, i < n → et_pl (eg_at G19 tm) i = some (.int (sx (b i))) := fun i hi => (x19.2 tm i lt_tm (fun h => (hi_ne k_tm k_am (by decide)) h.1)).trans (ht i hi)
    have lt_am := Nat.lt_of_lt_of_le lt_am x19.1
    have lt_tm := Nat.lt_of_lt_of_le lt_tm x19.1
    have lt_aw := Nat.lt_of_lt_of_le lt_aw x19.1
    have hX := hX.tr x19 (fun b j hb h => by first | omega | (dsimp only at h ⊢; omega) | (dsimp only at h; omega) | (dsimp only; omega))
    obtain ⟨rfl, th19⟩ := hP19
    show et_go none _ 180 22 _ [.int (Int32.ofNat 1)] _ _ _ _
    refine hs_if1 (c := .ne) (t := 48) (f := 25) (by decide +kernel) (show ¬ Int32.ofNat 1 = 0 by decide) ?_
    refine hs_k (x := Int32.ofNat 0) (p := 49) (by decide +kernel) ?_
    refine hs_iret (by decide +kernel) ?_
    rcases hP with ⟨sq, -⟩ | ⟨_, _, _, hz, _⟩
    · exact ⟨_, _, rfl, hX.wk (fun c j _ h => by first | omega | (dsimp only at h ⊢; omega)), .inl ⟨sq, rfl, th19, w0⟩⟩
    · cases hz
  · have hP : P1 aw 0 (sp_one (tz_ts 0 b n 0)) G7 (some (.int (Int32.ofNat 1))) := .inr ⟨f_, C_, sq, rfl, g1, g2, g3, g4, g5⟩
    show et_go none _ 180 10 _ [.int (Int32.ofNat 1), .ref am] _ _ _ _
    refine hs_if1 (c := .ne) (t := 17) (f := 13) (by decide +kernel) (show ¬ Int32.ofNat 1 = 0 by decide) ?_
    refine hs_k (x := Int32.ofNat 0) (p := 18) (by decide +kernel) ?_
    refine hs_k (x := Int32.ofNat 1) (p := 19) (by decide +kernel) ?_
    refine ht_callv (T := et_TT) (t := 13) (mi := 204) (na := 2) (ci := 11) (lk := 2) (lm := 3) (L0 := eg_en (eg_mL 204) [.ref am, .int (Int32.ofNat 0), .int (Int32.ofNat 1)]) (by decide +kernel) rfl hH k_am rfl rfl rfl rfl rfl (by rw [show eg_mL 204 = 3 from by decide +kernel]; first | done | rfl) ?_
    refine (fm_t0 hH k_am).mono (fun u hu => xp_cb hu ?_)
    show et_go none _ 180 22 _ [.int (Int32.ofNat 0)] _ _ _ _
    refine hs_if0 (c := .ne) (t := 48) (f := 25) (by decide +kernel) (show ¬ (¬ Int32.ofNat 0 = 0) by decide) ?_
    refine hs_aload (i := 0) (p := 26) (by decide +kernel) rfl ?_
    refine hs_aload (i := 0) (p := 27) (by decide +kernel) rfl ?_
    refine hf_get (T := et_TT) (t := 13) (ci := 11) (f := 1) (p := 30) (by decide +kernel) rfl hH k_am m1 ?_
    refine hs_k (x := Int32.ofNat 0) (p := 31) (by decide +kernel) ?_
    refine hf_ald (ins := .iaload) (T := et_TT) (t := 46) (kd := 0) (N := 12741) (p := 32) (by decide +kernel) (fun _ _ _ _ _ _ _ _ _ _ => rfl) rfl rfl rfl hH k_aw (by decide) w0 ?_
    refine hs_k (x := Int32.ofNat 4) (p := 33) (by decide +kernel) ?_
    refine hs_br2n (c := .ne) (t := 40) (f := 36) (by decide +kernel) (by omega) (by omega) (fun (c33 : ¬ r = 4) => ?_) (fun (c33 : ¬ (¬ r = 4)) => ?_)
    · refine hs_k (x := Int32.ofNat 0) (p := 41) (by decide +kernel) ?_
      refine hs_k (x := Int32.ofNat 2) (p := 42) (by decide +kernel) ?_
      refine ht_callv (T := et_TT) (t := 13) (mi := 204) (na := 2) (ci := 11) (lk := 2) (lm := 3) (L0 := eg_en (eg_mL 204) [.ref am, .int (Int32.ofNat 0), .int (Int32.ofNat 2)]) (by decide +kernel) rfl hH k_am rfl rfl rfl rfl rfl (by rw [show eg_mL 204 = 3 from by decide +kernel]; first | done | rfl) ?_
      refine (fm_t0 hH k_am).mono (fun u hu => xp_cb hu ?_)
      show et_go none _ 180 45 _ [.int (Int32.ofNat 0)] _ _ _ _
      refine hs_if1 (c := .eq) (t := 50) (f := 48) (by decide +kernel) (show Int32.ofNat 0 = 0 by decide) ?_
      rcases hP with ⟨-, hz⟩ | ⟨f_, C_, sq, -, g1, g2, g3, g4, g5⟩
      · cases hz
      · obtain ⟨F, W, aw2, ta, tp, pt, bg, st, dp, ai2, TP, IK, hB, -, -, ⟨hi, i1, i2, i3, i4, -, -⟩, ⟨eF, eW, -, -, -, -, -⟩, e⟩ := hi_txt hH k_am
        have ew := m1
        have ei := m18
        rw [eF, hmF_pl (by decide), hB.2.2.1] at ew
        rw [eF, hmF_pl (by decide), hi] at ei
        injection ew with ew
        injection ew with ew
        injection ei with ei
        injection ei with ei
        subst ew
        subst ei
        have hW0 := w0
        rw [eW, hmW_pl (by decide)] at hW0
        injection hW0 with hW0
        injection hW0 with hW0
        have hz : ∀ Z : eg_O → Prop, (∀ V : Nat → Int32, (∀ i, i < 841 → V (126 + 841 * r + i) = W (11900 + i)) → (∀ i, (i < 126 + 841 * r ∨ 126 + 841 * r + 841 ≤ i) → V i = W i) → Z (.inl (some (.int (Int32.ofNat r))), hm_H (eg_u G7 ai2 (.inl (3, (4, .inl (upd IK r 0))))) am aw2 F (upd V 0 (Int32.ofNat (r + 1))), 0, 0)) → et_go none (d + 35) 180 50 [some (.ref am), none] [] G7 0 0 Z := fun Z h => by
          have h1 := tl_rule (d := d + 33) (x1 := none) hB.1 hB.2.2.1 hi i1 i2 i3 i4 (by omega) hW0 h
          rw [← e] at h1
          exact h1
        refine hz _ (fun V v1 v2 => ?_)
        have hx1 := hm_xf (W1 := upd V 0 (Int32.ofNat (r + 1))) (n := r) (x := 0) hB.1 e i1 i2 i3 i4
        have hV : ∀ i, ¬ i = 0 → (i < 126 + 841 * r ∨ 126 + 841 * r + 841 ≤ i) → upd V 0 (Int32.ofNat (r + 1)) i = W i := fun i h1 h2 => (hs_un h1).trans (v2 i h2)
        have e1 : eg_at (hm_H (eg_u G7 ai2 (.inl (3, (4, .inl (upd IK r 0))))) am aw2 F (upd V 0 (Int32.ofNat (r + 1)))) aw2 = hm_W (upd V 0 (Int32.ofNat (r + 1))) := hm_w hB.1
        refine ⟨_, _, rfl, (hX.wk (fun c j _ h => by first | omega | (dsimp only at h ⊢; omega))).tr hx1 (fun c j _ hs => ?_), .inr (.inr ⟨f_, sq, by omega, rfl, (hx1.2 am 0 lt_am (fun hs => hs.elim (fun h => i1 h.1.symm) (fun h => hB.1.2.2 h.1))).trans q0, ?_, ?_⟩)⟩
        · rcases hs with ⟨rfl, rfl⟩ | ⟨rfl, hs⟩
          · exact .inr (.inl ⟨rfl, rfl⟩)
          · refine .inr (.inr ⟨rfl, ?_⟩)
            refine Decidable.by_contra (fun hc => hs (hV j (by omega) (by omega)))
        · rw [e1, hmW_pl (by decide)]
          exact congrArg (fun z => some (Value.int z)) hs_us
        · refine txP.mv eW g1 g2 g3 g4 g5 (fun i v hi2 hv => ?_)
          rw [eW, hmW_pl (by omega)] at hv
          rw [e1, hmW_pl (by omega), ← hv]
          exact congrArg (fun z => some (Value.int z)) ((hs_un (by omega)).trans (v1 i hi2))
    · refine hs_k (x := Int32.ofNat 1) (p := 37) (by decide +kernel) ?_
      refine hs_goto (p := 41) (by decide +kernel) ?_
      refine hs_k (x := Int32.ofNat 2) (p := 42) (by decide +kernel) ?_
      refine ht_callv (T := et_TT) (t := 13) (mi := 204) (na := 2) (ci := 11) (lk := 2) (lm := 3) (L0 := eg_en (eg_mL 204) [.ref am, .int (Int32.ofNat 1), .int (Int32.ofNat 2)]) (by decide +kernel) rfl hH k_am rfl rfl rfl rfl rfl (by rw [show eg_mL 204 = 3 from by decide +kernel]; first | done | rfl) ?_
      refine (fm_t1 hH k_am).mono (fun u hu => xw_cb hu (fun G42 v42 hH x42 hP42 => ?_))
      have hP := hP.fr x42 lt_aw (fun j hs => hne hs.1)
      have m4 := (x42.2 am 4 lt_am (fun h => absurd h.2 (by decide))).trans m4
      have q5 := (x42.2 am 5 lt_am (fun h => absurd h.2 (by decide))).trans q5
      have m1 := (x42.2 am 1 lt_am (fun h => absurd h.2 (by decide))).trans m1
      have m18 := (x42.2 am 18 lt_am (fun h => absurd h.2 (by decide))).trans m18
      have w0 := (x42.2 aw 0 lt_aw (fun h => hne h.1)).trans w0
      have q7 := (x42.2 am 7 lt_am (fun h => absurd h.2 (by decide))).trans q7
      have ht : ∀ i, i < n → et_pl (eg_at G42 tm) i = some (.int (sx (b i))) := fun i hi => (x42.2 tm i lt_tm (fun h => (hi_ne k_tm k_am (by decide)) h.1)).trans (ht i hi)
      have lt_am := Nat.lt_of_lt_of_le lt_am x42.1
      have lt_tm := Nat.lt_of_lt_of_le lt_tm x42.1
      have lt_aw := Nat.lt_of_lt_of_le lt_aw x42.1
      have hX := hX.tr x42 (fun b j hb h => by first | omega | (dsimp only at h ⊢; omega) | (dsimp only at h; omega) | (dsimp only; omega))
      obtain ⟨rfl, th42⟩ := hP42
      show et_go none _ 180 45 _ [.int (Int32.ofNat 1)] _ _ _ _
      refine hs_if0 (c := .eq) (t := 50) (f := 48) (by decide +kernel) (show ¬ (Int32.ofNat 1 = 0) by decide) ?_
      refine hs_k (x := Int32.ofNat 0) (p := 49) (by decide +kernel) ?_
      refine hs_iret (by decide +kernel) ?_
      rcases hP with ⟨-, hz⟩ | ⟨f_, C_, sq, -⟩
      · cases hz
      · exact ⟨_, _, rfl, hX.wk (fun c j _ h => by first | omega | (dsimp only at h ⊢; omega)), .inr (.inl ⟨by omega, (by rw [sq]; intro h; cases h), rfl, th42, w0⟩)⟩
end FRA
