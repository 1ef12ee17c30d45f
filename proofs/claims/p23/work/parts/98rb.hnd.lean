section
/-! FUNCTIONAL: the reference's turner -/
def lnT (G : eg_G) (aw X pl i : Nat) (l : sp_L) : Prop := ∃ s e : Nat, et_pl (eg_at G aw) (X + 1 + 4 * i) = some (.int (Int32.ofNat (if l.1 = true then 0 else 1))) ∧ et_pl (eg_at G aw) (X + 1 + 4 * i + 1) = some (.int (Int32.ofNat l.2.1)) ∧ et_pl (eg_at G aw) (X + 1 + 4 * i + 2) = some (.int (Int32.ofNat s)) ∧ et_pl (eg_at G aw) (X + 1 + 4 * i + 3) = some (.int (Int32.ofNat e)) ∧ e ≤ 400 ∧ s ≤ e ∧ match l.2.2 with
  | none => e = s
  | some f => ∃ C : List (Nat × Nat), e = s + C.length ∧ hasT G aw X s C ∧ dnB pl f C
def tuT (G : eg_G) (aw X pl : Nat) (ls : List sp_L) : Prop := et_pl (eg_at G aw) X = some (.int (Int32.ofNat ls.length)) ∧ ls.length ≤ 10 ∧ ∀ i l, ls[i]? = some l → lnT G aw X pl i l
theorem tuT.mv {G G' : eg_G} {aw X pl : Nat} {ls : List sp_L} {W : Nat → Int32} (eW : eg_at G aw = hm_W W) (h0 : et_pl (eg_at G aw) 11900 = some (.int (Int32.ofNat ls.length))) (hl : ls.length ≤ 10) (hs : lnsP G aw pl 400 ls) (hc : ∀ i v, i < 841 → et_pl (eg_at G aw) (11900 + i) = some v → et_pl (eg_at G' aw) (X + i) = some v) : tuT G' aw X pl ls := by
  refine ⟨hc 0 _ (by decide) h0, hl, fun i l hi => ?_⟩
  have hi2 := (List.getElem?_eq_some_iff.mp hi).1
  obtain ⟨s, e, e0, e1, e2, e3, he, hse, hm⟩ := hs i l hi
  refine ⟨s, e, pl_eq (hc (1 + 4 * i) _ (by omega) (pl_eq e0 (by omega))) (by omega), pl_eq (hc (1 + 4 * i + 1) _ (by omega) (pl_eq e1 (by omega))) (by omega), pl_eq (hc (1 + 4 * i + 2) _ (by omega) (pl_eq e2 (by omega))) (by omega), pl_eq (hc (1 + 4 * i + 3) _ (by omega) (pl_eq e3 (by omega))) (by omega), he, hse, ?_⟩
  cases hl2 : l.2.2 with
  | none =>
    rw [hl2] at hm
    exact hm
  | some f =>
    rw [hl2] at hm
    obtain ⟨C, hC, hc2, hd⟩ := hm
    refine ⟨C, hC, fun j s2 hj => ?_, hd⟩
    obtain ⟨h1, h2, h3⟩ := hc2 j s2 hj
    have hl : 11941 + 2 * (s + j) + 1 < 12741 := hmW_lt (by rw [← eW]; exact h2)
    exact ⟨pl_eq (hc (41 + 2 * (s + j)) _ (by omega) (pl_eq h1 (by omega))) (by omega), pl_eq (hc (41 + 2 * (s + j) + 1) _ (by omega) (pl_eq h2 (by omega))) (by omega), h3⟩
def tuP (am aw r : Nat) (sp : Option (List sp_L)) (G' : eg_G) (v : Option Value) : Prop :=
  (sp = none ∧ v = some (.int (Int32.ofNat 0)) ∧ et_pl (eg_at G' am) 0 = some (.int (Int32.ofNat 1)) ∧ et_pl (eg_at G' aw) 1 = some (.int (Int32.ofNat r))) ∨
  (r = 4 ∧ ¬ sp = none ∧ v = some (.int (Int32.ofNat 0)) ∧ et_pl (eg_at G' am) 0 = some (.int (Int32.ofNat 2)) ∧ et_pl (eg_at G' aw) 1 = some (.int (Int32.ofNat r))) ∨
  (∃ ls, sp = some ls ∧ r < 4 ∧ v = some (.int (Int32.ofNat r)) ∧ et_pl (eg_at G' am) 0 = some (.int (Int32.ofNat 0)) ∧ et_pl (eg_at G' aw) 1 = some (.int (Int32.ofNat (r + 1))) ∧ tuT G' aw (126 + 841 * (4 + r)) 1 ls)
section FRB
variable {K : et_K} {G G0 : eg_G} {b : Nat → Nat} {d2 d am aw ai tm n p pl k dp m i r : Nat}

theorem fm_turner (hH : et_H et_TT K G) (k_am : K am = some 13) (m4 : et_pl (eg_at G am) 4 = some (.ref tm)) (k_tm : K tm = some 34) (m5 : et_pl (eg_at G am) 5 = some (.int (Int32.ofNat n))) (hn : n ≤ 400) (ht : ∀ i, i < n → et_pl (eg_at G tm) i = some (.int (sx (b i)))) (hb : ∀ i, i < n → b i < 256) (k_aw : K aw = some 46) (m1 : et_pl (eg_at G am) 1 = some (.ref aw)) (w1 : et_pl (eg_at G aw) 1 = some (.int (Int32.ofNat r))) (hr : r ≤ 4) (hd : 35 ≤ d2) : et_go none d2 206 0 (eg_en (eg_mL 206) [.ref am]) [] G 0 0 (xn_Z (fun c j => (c = am ∧ (j = 0 ∨ ((5 ≤ j ∧ j ≤ 10) ∨ (12 ≤ j ∧ j ≤ 13)))) ∨ ((c = aw ∧ (j = 1 ∨ ((126 + 841 * (4 + r) ≤ j ∧ j < 126 + 841 * (4 + r) + 841) ∨ 11900 ≤ j))))) G (tuP am aw r (sp_turner (tz_ts 1 b n 0)))) := by
  obtain ⟨d, rfl⟩ : ∃ d, d2 = d + 35 := ⟨d2 - 35, by omega⟩
  rw [show eg_mL 206 = 1 from by decide +kernel]
  show et_go none (d + 35) 206 0 [some (.ref am)] [] G 0 0 (xn_Z _ _ _)
  have hne : ¬ aw = am := hi_ne k_aw k_am (by decide)
  have lt_am := (hH.2.2 _ _ k_am).1
  have lt_tm := (hH.2.2 _ _ k_tm).1
  have lt_aw := (hH.2.2 _ _ k_aw).1
  have hX : xf (fun c j => (c = am ∧ j = 0) ∨ (c = am ∧ (5 ≤ j ∧ j ≤ 10)) ∨ (c = am ∧ (12 ≤ j ∧ j ≤ 13)) ∨ (c = aw ∧ 11900 ≤ j)) G G := xf.rf
  refine hs_aload (i := 0) (p := 1) (by decide +kernel) rfl ?_
  refine ht_callv (T := et_TT) (t := 13) (mi := 181) (na := 0) (ci := 11) (lk := 1) (lm := 1) (L0 := eg_en (eg_mL 181) [.ref am]) (by decide +kernel) rfl hH k_am rfl rfl rfl rfl rfl (by rw [show eg_mL 181 = 1 from by decide +kernel]; first | done | rfl) ?_
  refine (fm_uses hH k_am hn m5).mono (fun u hu => xw_cb hu (fun G1 v1 hH x1 hP1 => ?_))
  have x1 : xf (fun c j => (c = am ∧ j = 0) ∨ (c = am ∧ (5 ≤ j ∧ j ≤ 7)) ∨ (c = am ∧ j = 12)) _ _ := x1
  have m4 := (x1.2 am 4 lt_am (fun h => Or.elim h (fun h => absurd h.2 (by decide)) (fun h => Or.elim h (fun h => absurd h.2 (by decide)) (fun h => absurd h.2 (by decide))))).trans m4
  have m1 := (x1.2 am 1 lt_am (fun h => Or.elim h (fun h => absurd h.2 (by decide)) (fun h => Or.elim h (fun h => absurd h.2 (by decide)) (fun h => absurd h.2 (by decide))))).trans m1
  have w1 := (x1.2 aw 1 lt_aw (fun h => Or.elim h (fun h => hne h.1) (fun h => Or.elim h (fun h => hne h.1) (fun h => hne h.1)))).trans w1
  have ht : ∀ i, i < n → et_pl (eg_at G1 tm) i = some (.int (sx (b i))) := fun i hi => (x1.2 tm i lt_tm (fun h => Or.elim h (fun h => (hi_ne k_tm k_am (by decide)) h.1) (fun h => Or.elim h (fun h => (hi_ne k_tm k_am (by decide)) h.1) (fun h => (hi_ne k_tm k_am (by decide)) h.1)))).trans (ht i hi)
  have lt_am := Nat.lt_of_lt_of_le lt_am x1.1
  have lt_tm := Nat.lt_of_lt_of_le lt_tm x1.1
  have lt_aw := Nat.lt_of_lt_of_le lt_aw x1.1
  have hX := hX.tr x1 (fun b j hb h => by first | omega | (dsimp only at h ⊢; omega) | (dsimp only at h; omega) | (dsimp only; omega))
  obtain ⟨rfl, q0, q5, q6, q7, q12⟩ := hP1
  show et_go none _ 206 4 _ [] _ _ _ _
  refine hs_aload (i := 0) (p := 5) (by decide +kernel) rfl ?_
  refine hs_aload (i := 0) (p := 6) (by decide +kernel) rfl ?_
  refine hs_k (x := Int32.ofNat 1) (p := 7) (by decide +kernel) ?_
  refine ht_callv (T := et_TT) (t := 13) (mi := 182) (na := 1) (ci := 11) (lk := 1) (lm := 3) (L0 := eg_en (eg_mL 182) [.ref am, .int (Int32.ofNat 1)]) (by decide +kernel) rfl hH k_am rfl rfl rfl rfl rfl (by rw [show eg_mL 182 = 3 from by decide +kernel]; first | done | rfl) ?_
  refine (fr_reads_tur (pl := 1) (k := 0) (p := 0) hH k_am m4 k_tm q7 hn ht hb q6 tal0 (by decide) k_aw m1 q12 rfl rfl (by omega)).mono (fun u hu => xw_cb hu (fun G7 v7 hH x7 hP7 => ?_))
  have x7 : xf (fun c j => (c = am ∧ j = 6) ∨ (c = am ∧ (8 ≤ j ∧ j ≤ 10)) ∨ (c = am ∧ (12 ≤ j ∧ j ≤ 13)) ∨ (c = aw ∧ 11900 ≤ j)) _ _ := x7
  have m4 := (x7.2 am 4 lt_am (fun h => Or.elim h (fun h => absurd h.2 (by decide)) (fun h => Or.elim h (fun h => absurd h.2 (by decide)) (fun h => Or.elim h (fun h => absurd h.2 (by decide)) (fun h => (hi_ne k_am k_aw (by decide)) h.1))))).trans m4
  have q5 := (x7.2 am 5 lt_am (fun h => Or.elim h (fun h => absurd h.2 (by decide)) (fun h => Or.elim h (fun h => absurd h.2 (by decide)) (fun h => Or.elim h (fun h => absurd h.2 (by decide)) (fun h => (hi_ne k_am k_aw (by decide)) h.1))))).trans q5
  have m1 := (x7.2 am 1 lt_am (fun h => Or.elim h (fun h => absurd h.2 (by decide)) (fun h => Or.elim h (fun h => absurd h.2 (by decide)) (fun h => Or.elim h (fun h => absurd h.2 (by decide)) (fun h => (hi_ne k_am k_aw (by decide)) h.1))))).trans m1
  have w1 := (x7.2 aw 1 lt_aw (fun h => Or.elim h (fun h => hne h.1) (fun h => Or.elim h (fun h => hne h.1) (fun h => Or.elim h (fun h => hne h.1) (fun h => by have h := h.2; omega))))).trans w1
  have q0 := (x7.2 am 0 lt_am (fun h => Or.elim h (fun h => absurd h.2 (by decide)) (fun h => Or.elim h (fun h => absurd h.2 (by decide)) (fun h => Or.elim h (fun h => absurd h.2 (by decide)) (fun h => (hi_ne k_am k_aw (by decide)) h.1))))).trans q0
  have q7 := (x7.2 am 7 lt_am (fun h => Or.elim h (fun h => absurd h.2 (by decide)) (fun h => Or.elim h (fun h => absurd h.2 (by decide)) (fun h => Or.elim h (fun h => absurd h.2 (by decide)) (fun h => (hi_ne k_am k_aw (by decide)) h.1))))).trans q7
  have ht : ∀ i, i < n → et_pl (eg_at G7 tm) i = some (.int (sx (b i))) := fun i hi => (x7.2 tm i lt_tm (fun h => Or.elim h (fun h => (hi_ne k_tm k_am (by decide)) h.1) (fun h => Or.elim h (fun h => (hi_ne k_tm k_am (by decide)) h.1) (fun h => Or.elim h (fun h => (hi_ne k_tm k_am (by decide)) h.1) (fun h => (hi_ne k_tm k_aw (by decide)) h.1))))).trans (ht i hi)
  have lt_am := Nat.lt_of_lt_of_le lt_am x7.1
  have lt_tm := Nat.lt_of_lt_of_le lt_tm x7.1
  have lt_aw := Nat.lt_of_lt_of_le lt_aw x7.1
  have hX := hX.tr x7 (fun b j hb h => by first | omega | (dsimp only at h ⊢; omega) | (dsimp only at h; omega) | (dsimp only; omega))
  rcases hP7 with ⟨sq, rfl⟩ | ⟨ls_, sq, rfl, g1, g2, g3⟩
  · have hP : PT aw 1 (sp_turner (tz_ts 1 b n 0)) G7 (some (.int (Int32.ofNat 0))) := .inl ⟨sq, rfl⟩
    show et_go none _ 206 10 _ [.int (Int32.ofNat 0), .ref am] _ _ _ _
    refine hs_if0 (c := .ne) (t := 17) (f := 13) (by decide +kernel) (show ¬ (¬ Int32.ofNat 0 = 0) by decide) ?_
    refine hs_k (x := Int32.ofNat 1) (p := 14) (by decide +kernel) ?_
    refine hs_goto (p := 18) (by decide +kernel) ?_
    refine hs_k (x := Int32.ofNat 1) (p := 19) (by decide +kernel) ?_
    refine ht_callv (T := et_TT) (t := 13) (mi := 204) (na := 2) (ci := 11) (lk := 1) (lm := 3) (L0 := eg_en (eg_mL 204) [.ref am, .int (Int32.ofNat 1), .int (Int32.ofNat 1)]) (by decide +kernel) rfl hH k_am rfl rfl rfl rfl rfl (by rw [show eg_mL 204 = 3 from by decide +kernel]; first | done | rfl) ?_
    refine (fm_t1 hH k_am).mono (fun u hu => xw_cb hu (fun G19 v19 hH x19 hP19 => ?_))
    have hP := hP.fr x19 lt_aw (fun j hs => hne hs.1)
    have m4 := (x19.2 am 4 lt_am (fun h => absurd h.2 (by decide))).trans m4
    have q5 := (x19.2 am 5 lt_am (fun h => absurd h.2 (by decide))).trans q5
    have m1 := (x19.2 am 1 lt_am (fun h => absurd h.2 (by decide))).trans m1
    have w1 := (x19.2 aw 1 lt_aw (fun h => hne h.1)).trans w1
    have q7 := (x19.2 am 7 lt_am (fun h => absurd h.2 (by decide))).trans q7
    have ht : ∀ i, i < n → et_pl (eg_at G19 tm) i = some (.int (sx (b i))) := fun i hi => (x19.2 tm i lt_tm (fun h => (hi_ne k_tm k_am (by decide)) h.1)).trans (ht i hi)
    have lt_am := Nat.lt_of_lt_of_le lt_am x19.1
    have lt_tm := Nat.lt_of_lt_of_le lt_tm x19.1
    have lt_aw := Nat.lt_of_lt_of_le lt_aw x19.1
    have hX := hX.tr x19 (fun b j hb h => by first | omega | (dsimp only at h ⊢; omega) | (dsimp only at h; omega) | (dsimp only; omega))
    obtain ⟨rfl, th19⟩ := hP19
    show et_go none _ 206 22 _ [.int (Int32.ofNat 1)] _ _ _ _
    refine hs_if1 (c := .ne) (t := 48) (f := 25) (by decide +kernel) (show ¬ Int32.ofNat 1 = 0 by decide) ?_
    refine hs_k (x := Int32.ofNat 0) (p := 49) (by decide +kernel) ?_
    refine hs_iret (by decide +kernel) ?_
    rcases hP with ⟨sq, -⟩ | ⟨_, _, hz, _⟩
    · exact ⟨_, _, rfl, hX.wk (fun c j _ h => by first | omega | (dsimp only at h ⊢; omega)), .inl ⟨sq, rfl, th19, w1⟩⟩
    · cases hz
  · have hP : PT aw 1 (sp_turner (tz_ts 1 b n 0)) G7 (some (.int (Int32.ofNat 1))) := .inr ⟨ls_, sq, rfl, g1, g2, g3⟩
    show et_go none _ 206 10 _ [.int (Int32.ofNat 1), .ref am] _ _ _ _
    refine hs_if1 (c := .ne) (t := 17) (f := 13) (by decide +kernel) (show ¬ Int32.ofNat 1 = 0 by decide) ?_
    refine hs_k (x := Int32.ofNat 0) (p := 18) (by decide +kernel) ?_
    refine hs_k (x := Int32.ofNat 1) (p := 19) (by decide +kernel) ?_
    refine ht_callv (T := et_TT) (t := 13) (mi := 204) (na := 2) (ci := 11) (lk := 1) (lm := 3) (L0 := eg_en (eg_mL 204) [.ref am, .int (Int32.ofNat 0), .int (Int32.ofNat 1)]) (by decide +kernel) rfl hH k_am rfl rfl rfl rfl rfl (by rw [show eg_mL 204 = 3 from by decide +kernel]; first | done | rfl) ?_
    refine (fm_t0 hH k_am).mono (fun u hu => xp_cb hu ?_)
    show et_go none _ 206 22 _ [.int (Int32.ofNat 0)] _ _ _ _
    refine hs_if0 (c := .ne) (t := 48) (f := 25) (by decide +kernel) (show ¬ (¬ Int32.ofNat 0 = 0) by decide) ?_
    refine hs_aload (i := 0) (p := 26) (by decide +kernel) rfl ?_
    refine hs_aload (i := 0) (p := 27) (by decide +kernel) rfl ?_
    refine hf_get (T := et_TT) (t := 13) (ci := 11) (f := 1) (p := 30) (by decide +kernel) rfl hH k_am m1 ?_
    refine hs_k (x := Int32.ofNat 1) (p := 31) (by decide +kernel) ?_
    refine hf_ald (ins := .iaload) (T := et_TT) (t := 46) (kd := 0) (N := 12741) (p := 32) (by decide +kernel) (fun _ _ _ _ _ _ _ _ _ _ => rfl) rfl rfl rfl hH k_aw (by decide) w1 ?_
    refine hs_k (x := Int32.ofNat 4) (p := 33) (by decide +kernel) ?_
    refine hs_br2n (c := .ne) (t := 40) (f := 36) (by decide +kernel) (by omega) (by omega) (fun (c33 : ¬ r = 4) => ?_) (fun (c33 : ¬ (¬ r = 4)) => ?_)
    · refine hs_k (x := Int32.ofNat 0) (p := 41) (by decide +kernel) ?_
      refine hs_k (x := Int32.ofNat 2) (p := 42) (by decide +kernel) ?_
      refine ht_callv (T := et_TT) (t := 13) (mi := 204) (na := 2) (ci := 11) (lk := 1) (lm := 3) (L0 := eg_en (eg_mL 204) [.ref am, .int (Int32.ofNat 0), .int (Int32.ofNat 2)]) (by decide +kernel) rfl hH k_am rfl rfl rfl rfl rfl (by rw [show eg_mL 204 = 3 from by decide +kernel]; first | done | rfl) ?_
      refine (fm_t0 hH k_am).mono (fun u hu => xp_cb hu ?_)
      show et_go none _ 206 45 _ [.int (Int32.ofNat 0)] _ _ _ _
      refine hs_if1 (c := .eq) (t := 50) (f := 48) (by decide +kernel) (show Int32.ofNat 0 = 0 by decide) ?_
      rcases hP with ⟨-, hz⟩ | ⟨ls_, sq, -, g1, g2, g3⟩
      · cases hz
      · obtain ⟨F, W, aw2, ta, tp, pt, bg, st, dp, ai2, TP, IK, hB, -, -, ⟨hi, i1, i2, i3, i4, -, -⟩, ⟨eF, eW, -, -, -, -, -⟩, e⟩ := hi_txt hH k_am
        have ew := m1
        rw [eF, hmF_pl (by decide), hB.2.2.1] at ew
        injection ew with ew
        injection ew with ew
        subst ew
        have hW0 := w1
        rw [eW, hmW_pl (by decide)] at hW0
        injection hW0 with hW0
        injection hW0 with hW0
        have hz : ∀ Z : eg_O → Prop, (∀ V : Nat → Int32, (∀ i, i < 841 → V (126 + 841 * (4 + r) + i) = W (11900 + i)) → (∀ i, (i < 126 + 841 * (4 + r) ∨ 126 + 841 * (4 + r) + 841 ≤ i) → V i = W i) → Z (.inl (some (.int (Int32.ofNat r))), hm_H G7 am aw2 F (upd V 1 (Int32.ofNat (r + 1))), 0, 0)) → et_go none (d + 35) 206 50 [some (.ref am)] [] G7 0 0 Z := fun Z h => by
          have h1 := tl_turner (d := d + 33) hB.1 hB.2.2.1 (by omega) hW0 h
          rw [← e] at h1
          exact h1
        refine hz _ (fun V v1 v2 => ?_)
        have hx1 := hm_xf0 (W1 := upd V 1 (Int32.ofNat (r + 1))) hB.1 e
        have hV : ∀ i, ¬ i = 1 → (i < 126 + 841 * (4 + r) ∨ 126 + 841 * (4 + r) + 841 ≤ i) → upd V 1 (Int32.ofNat (r + 1)) i = W i := fun i h1 h2 => (hs_un h1).trans (v2 i h2)
        have e1 : eg_at (hm_H G7 am aw2 F (upd V 1 (Int32.ofNat (r + 1)))) aw2 = hm_W (upd V 1 (Int32.ofNat (r + 1))) := hm_w hB.1
        refine ⟨_, _, rfl, (hX.wk (fun c j _ h => by first | omega | (dsimp only at h ⊢; omega))).tr hx1 (fun c j _ hs => ?_), .inr (.inr ⟨ls_, sq, by omega, rfl, (hx1.2 am 0 lt_am (fun h => hB.1.2.2 h.1)).trans q0, ?_, ?_⟩)⟩
        · obtain ⟨rfl, hs⟩ := hs
          refine .inr ⟨rfl, ?_⟩
          refine Decidable.by_contra (fun hc => hs (hV j (by omega) (by omega)))
        · rw [e1, hmW_pl (by decide)]
          exact congrArg (fun z => some (Value.int z)) hs_us
        · refine tuT.mv eW g1 g2 g3 (fun i v hi2 hv => ?_)
          rw [eW, hmW_pl (by omega)] at hv
          rw [e1, hmW_pl (by omega), ← hv]
          exact congrArg (fun z => some (Value.int z)) ((hs_un (by omega)).trans (v1 i hi2))
    · refine hs_k (x := Int32.ofNat 1) (p := 37) (by decide +kernel) ?_
      refine hs_goto (p := 41) (by decide +kernel) ?_
      refine hs_k (x := Int32.ofNat 2) (p := 42) (by decide +kernel) ?_
      refine ht_callv (T := et_TT) (t := 13) (mi := 204) (na := 2) (ci := 11) (lk := 1) (lm := 3) (L0 := eg_en (eg_mL 204) [.ref am, .int (Int32.ofNat 1), .int (Int32.ofNat 2)]) (by decide +kernel) rfl hH k_am rfl rfl rfl rfl rfl (by rw [show eg_mL 204 = 3 from by decide +kernel]; first | done | rfl) ?_
      refine (fm_t1 hH k_am).mono (fun u hu => xw_cb hu (fun G42 v42 hH x42 hP42 => ?_))
      have hP := hP.fr x42 lt_aw (fun j hs => hne hs.1)
      have m4 := (x42.2 am 4 lt_am (fun h => absurd h.2 (by decide))).trans m4
      have q5 := (x42.2 am 5 lt_am (fun h => absurd h.2 (by decide))).trans q5
      have m1 := (x42.2 am 1 lt_am (fun h => absurd h.2 (by decide))).trans m1
      have w1 := (x42.2 aw 1 lt_aw (fun h => hne h.1)).trans w1
      have q7 := (x42.2 am 7 lt_am (fun h => absurd h.2 (by decide))).trans q7
      have ht : ∀ i, i < n → et_pl (eg_at G42 tm) i = some (.int (sx (b i))) := fun i hi => (x42.2 tm i lt_tm (fun h => (hi_ne k_tm k_am (by decide)) h.1)).trans (ht i hi)
      have lt_am := Nat.lt_of_lt_of_le lt_am x42.1
      have lt_tm := Nat.lt_of_lt_of_le lt_tm x42.1
      have lt_aw := Nat.lt_of_lt_of_le lt_aw x42.1
      have hX := hX.tr x42 (fun b j hb h => by first | omega | (dsimp only at h ⊢; omega) | (dsimp only at h; omega) | (dsimp only; omega))
      obtain ⟨rfl, th42⟩ := hP42
      show et_go none _ 206 45 _ [.int (Int32.ofNat 1)] _ _ _ _
      refine hs_if0 (c := .eq) (t := 50) (f := 48) (by decide +kernel) (show ¬ (Int32.ofNat 1 = 0) by decide) ?_
      refine hs_k (x := Int32.ofNat 0) (p := 49) (by decide +kernel) ?_
      refine hs_iret (by decide +kernel) ?_
      rcases hP with ⟨-, hz⟩ | ⟨f_, sq, -⟩
      · cases hz
      · exact ⟨_, _, rfl, hX.wk (fun c j _ h => by first | omega | (dsimp only at h ⊢; omega)), .inr (.inl ⟨by omega, (by rw [sq]; intro h; cases h), rfl, th42, w1⟩)⟩
end FRB
end
section
/-! FUNCTIONAL: the reference's claim -/
def clP (am aw r ec rc : Nat) (ey ru : Int32) (sp : Option (sp_E → Bool)) (G' : eg_G) (v : Option Value) : Prop :=
  (¬ (xr ey ec ∧ xr ru rc) ∧ v = some (.int (Int32.ofNat 0)) ∧ et_pl (eg_at G' am) 0 = some (.int (Int32.ofNat 1)) ∧ et_pl (eg_at G' aw) 2 = some (.int (Int32.ofNat r))) ∨
  ((xr ey ec ∧ xr ru rc) ∧ sp = none ∧ v = some (.int (Int32.ofNat 0)) ∧ et_pl (eg_at G' am) 0 = some (.int (Int32.ofNat 2)) ∧ et_pl (eg_at G' aw) 2 = some (.int (Int32.ofNat r))) ∨
  ((xr ey ec ∧ xr ru rc) ∧ r = 6 ∧ ¬ sp = none ∧ v = some (.int (Int32.ofNat 0)) ∧ et_pl (eg_at G' am) 0 = some (.int (Int32.ofNat 3)) ∧ et_pl (eg_at G' aw) 2 = some (.int (Int32.ofNat r))) ∨
  ((xr ey ec ∧ xr ru rc) ∧ ∃ f, sp = some f ∧ r < 6 ∧ v = some (.int (Int32.ofNat r)) ∧ et_pl (eg_at G' am) 0 = some (.int (Int32.ofNat 0)) ∧ et_pl (eg_at G' aw) 2 = some (.int (Int32.ofNat (r + 1))) ∧ et_pl (eg_at G' aw) (114 + 2 * r) = some (.int ey) ∧ et_pl (eg_at G' aw) (115 + 2 * r) = some (.int ru) ∧ txP G' aw (126 + 841 * (8 + r)) 2 f)
section FRC
variable {K : et_K} {G G0 : eg_G} {b : Nat → Nat} {d2 d am aw ai tm n p pl k dp m i r e ec rc : Nat} {F : Nat → Value} {W : Nat → Int32} {Z : eg_O → Prop} {x ey ru : Int32}
theorem fm_nE (hH : et_H et_TT K G) (k_am : K am = some 13) (k_aw : K aw = some 46) (h1 : et_pl (eg_at G am) 1 = some (.ref aw)) (h4 : et_pl (eg_at G aw) 4 = some (.int (Int32.ofNat e))) (he : e ≤ 3) (hd : 1 ≤ d2) : et_go none d2 208 0 (eg_en (eg_mL 208) [.ref am, .int x]) [] G 0 0 (xp_Z G (some (.int (Int32.ofNat (if 0 ≤ x.toInt ∧ x.toInt < (e : Int) then 0 else 1))))) := by
  refine (fm_noEye hH k_am k_aw h1 h4 he hd).mono (fun u hu => ?_)
  rcases hu with ⟨h, hu⟩ | ⟨h, hu⟩
  · rw [if_pos (show 0 ≤ x.toInt ∧ x.toInt < (e : Int) from h)]
    exact hu
  · rw [if_neg (show ¬ (0 ≤ x.toInt ∧ x.toInt < (e : Int)) from h)]
    exact hu

theorem fm_nR (hH : et_H et_TT K G) (k_am : K am = some 13) (k_aw : K aw = some 46) (h1 : et_pl (eg_at G am) 1 = some (.ref aw)) (h4 : et_pl (eg_at G aw) 0 = some (.int (Int32.ofNat e))) (he : e ≤ 4) (hd : 1 ≤ d2) : et_go none d2 210 0 (eg_en (eg_mL 210) [.ref am, .int x]) [] G 0 0 (xp_Z G (some (.int (Int32.ofNat (if 0 ≤ x.toInt ∧ x.toInt < (e : Int) then 0 else 1))))) := by
  obtain ⟨d, rfl⟩ : ∃ d, d2 = d + 1 := ⟨d2 - 1, by omega⟩
  have hq : (Int32.ofNat e - Int32.ofNat 1).toInt = (e : Int) - 1 := by
    have h : ∀ k ∈ List.range 5, (Int32.ofNat k - Int32.ofNat 1).toInt = (k : Int) - 1 := by decide +kernel
    exact h e (List.mem_range.mpr (by omega))
  rw [show eg_mL 210 = 2 from by decide +kernel]
  show et_go none (d + 1) 210 0 [some (.ref am), some (.int x)] [] G 0 0 _
  have lt_am := (hH.2.2 _ _ k_am).1
  have lt_aw := (hH.2.2 _ _ k_aw).1
  refine hs_iload (i := 1) (p := 1) (by decide +kernel) rfl ?_
  refine hs_k (x := Int32.ofNat 0) (p := 2) (by decide +kernel) ?_
  refine hs_aload (i := 0) (p := 3) (by decide +kernel) rfl ?_
  refine hf_get (T := et_TT) (t := 13) (ci := 11) (f := 1) (p := 6) (by decide +kernel) rfl hH k_am h1 ?_
  refine hs_k (x := Int32.ofNat 0) (p := 7) (by decide +kernel) ?_
  refine hf_ald (ins := .iaload) (T := et_TT) (t := 46) (kd := 0) (N := 12741) (p := 8) (by decide +kernel) (fun _ _ _ _ _ _ _ _ _ _ => rfl) rfl rfl rfl hH k_aw (by decide) h4 ?_
  refine hs_k (x := Int32.ofNat 1) (p := 9) (by decide +kernel) ?_
  refine hs_isub (p := 10) (by decide +kernel) ?_
  refine hs_calls (mi := 209) (na := 3) (lk := 2) (lm := 3) (L0 := eg_en (eg_mL 209) [.int x, .int (Int32.ofNat 0), .int (Int32.ofNat e - Int32.ofNat 1)]) (by decide +kernel) rfl rfl rfl rfl rfl rfl (by rw [show eg_mL 209 = 3 from by decide +kernel]; first | done | rfl) ?_
  refine fm_in.mono (fun u hu => xp_cb hu ?_)
  rw [hq]
  by_cases hxr : xr x e
  · rw [if_pos (show (Int32.ofNat 0).toInt ≤ x.toInt ∧ x.toInt ≤ (e : Int) - 1 from by rw [hs_nint (by decide)]; unfold xr at hxr; omega)]
    show et_go none _ 210 13 _ [.int (Int32.ofNat 1)] _ _ _ _
    refine hs_if1 (c := .ne) (t := 20) (f := 16) (by decide +kernel) (show ¬ Int32.ofNat 1 = 0 by decide) ?_
    refine hs_k (x := Int32.ofNat 0) (p := 21) (by decide +kernel) ?_
    refine hs_zret (by decide +kernel) (.inl rfl) ?_
    rw [if_pos (show 0 ≤ x.toInt ∧ x.toInt < (e : Int) from hxr)]
    rfl
  · rw [if_neg (show ¬ ((Int32.ofNat 0).toInt ≤ x.toInt ∧ x.toInt ≤ (e : Int) - 1) from by rw [hs_nint (by decide)]; unfold xr at hxr; omega)]
    show et_go none _ 210 13 _ [.int (Int32.ofNat 0)] _ _ _ _
    refine hs_if0 (c := .ne) (t := 20) (f := 16) (by decide +kernel) (show ¬ (¬ Int32.ofNat 0 = 0) by decide) ?_
    refine hs_k (x := Int32.ofNat 1) (p := 17) (by decide +kernel) ?_
    refine hs_goto (p := 21) (by decide +kernel) ?_
    refine hs_zret (by decide +kernel) (.inr rfl) ?_
    rw [if_neg (show ¬ (0 ≤ x.toInt ∧ x.toInt < (e : Int)) from hxr)]
    rfl
theorem fm_nT (hH : et_H et_TT K G) (k_am : K am = some 13) (k_aw : K aw = some 46) (h1 : et_pl (eg_at G am) 1 = some (.ref aw)) (h4 : et_pl (eg_at G aw) 1 = some (.int (Int32.ofNat e))) (he : e ≤ 4) (hd : 1 ≤ d2) : et_go none d2 246 0 (eg_en (eg_mL 246) [.ref am, .int x]) [] G 0 0 (xp_Z G (some (.int (Int32.ofNat (if 0 ≤ x.toInt ∧ x.toInt < (e : Int) then 0 else 1))))) := by
  obtain ⟨d, rfl⟩ : ∃ d, d2 = d + 1 := ⟨d2 - 1, by omega⟩
  have hq : (Int32.ofNat e - Int32.ofNat 1).toInt = (e : Int) - 1 := by
    have h : ∀ k ∈ List.range 5, (Int32.ofNat k - Int32.ofNat 1).toInt = (k : Int) - 1 := by decide +kernel
    exact h e (List.mem_range.mpr (by omega))
  rw [show eg_mL 246 = 2 from by decide +kernel]
  show et_go none (d + 1) 246 0 [some (.ref am), some (.int x)] [] G 0 0 _
  have lt_am := (hH.2.2 _ _ k_am).1
  have lt_aw := (hH.2.2 _ _ k_aw).1
  refine hs_iload (i := 1) (p := 1) (by decide +kernel) rfl ?_
  refine hs_k (x := Int32.ofNat 0) (p := 2) (by decide +kernel) ?_
  refine hs_aload (i := 0) (p := 3) (by decide +kernel) rfl ?_
  refine hf_get (T := et_TT) (t := 13) (ci := 11) (f := 1) (p := 6) (by decide +kernel) rfl hH k_am h1 ?_
  refine hs_k (x := Int32.ofNat 1) (p := 7) (by decide +kernel) ?_
  refine hf_ald (ins := .iaload) (T := et_TT) (t := 46) (kd := 0) (N := 12741) (p := 8) (by decide +kernel) (fun _ _ _ _ _ _ _ _ _ _ => rfl) rfl rfl rfl hH k_aw (by decide) h4 ?_
  refine hs_k (x := Int32.ofNat 1) (p := 9) (by decide +kernel) ?_
  refine hs_isub (p := 10) (by decide +kernel) ?_
  refine hs_calls (mi := 209) (na := 3) (lk := 2) (lm := 3) (L0 := eg_en (eg_mL 209) [.int x, .int (Int32.ofNat 0), .int (Int32.ofNat e - Int32.ofNat 1)]) (by decide +kernel) rfl rfl rfl rfl rfl rfl (by rw [show eg_mL 209 = 3 from by decide +kernel]; first | done | rfl) ?_
  refine fm_in.mono (fun u hu => xp_cb hu ?_)
  rw [hq]
  by_cases hxr : xr x e
  · rw [if_pos (show (Int32.ofNat 0).toInt ≤ x.toInt ∧ x.toInt ≤ (e : Int) - 1 from by rw [hs_nint (by decide)]; unfold xr at hxr; omega)]
    show et_go none _ 246 13 _ [.int (Int32.ofNat 1)] _ _ _ _
    refine hs_if1 (c := .ne) (t := 20) (f := 16) (by decide +kernel) (show ¬ Int32.ofNat 1 = 0 by decide) ?_
    refine hs_k (x := Int32.ofNat 0) (p := 21) (by decide +kernel) ?_
    refine hs_zret (by decide +kernel) (.inl rfl) ?_
    rw [if_pos (show 0 ≤ x.toInt ∧ x.toInt < (e : Int) from hxr)]
    rfl
  · rw [if_neg (show ¬ ((Int32.ofNat 0).toInt ≤ x.toInt ∧ x.toInt ≤ (e : Int) - 1) from by rw [hs_nint (by decide)]; unfold xr at hxr; omega)]
    show et_go none _ 246 13 _ [.int (Int32.ofNat 0)] _ _ _ _
    refine hs_if0 (c := .ne) (t := 20) (f := 16) (by decide +kernel) (show ¬ (¬ Int32.ofNat 0 = 0) by decide) ?_
    refine hs_k (x := Int32.ofNat 1) (p := 17) (by decide +kernel) ?_
    refine hs_goto (p := 21) (by decide +kernel) ?_
    refine hs_zret (by decide +kernel) (.inr rfl) ?_
    rw [if_neg (show ¬ (0 ≤ x.toInt ∧ x.toInt < (e : Int)) from hxr)]
    rfl
theorem tl_claim (hA : hm_ok G am aw) (hw : F 1 = .ref aw) (hr : r < 6) (hW : W 2 = Int32.ofNat r) {x3 : Option Value} (h : ∀ V : Nat → Int32, (∀ i, i < 841 → V (126 + 841 * (8 + r) + i) = W (11900 + i)) → (∀ i, (i < 126 + 841 * (8 + r) ∨ 126 + 841 * (8 + r) + 841 ≤ i) → V i = W i) → Z (.inl (some (.int (Int32.ofNat r))), hm_H G am aw F (upd (upd (upd V (114 + 2 * r) ey) (114 + 2 * r + 1) ru) 2 (Int32.ofNat (r + 1))), 0, 0)) : et_go none (d + 2) 207 82 [some (.ref am), some (.int ey), some (.int ru), x3] [] (hm_H G am aw F W) 0 0 Z := by
  refine hs_aload (i := 0) (p := 83) (by decide +kernel) rfl ?_
  refine hm_get hA (f := 1) (p := 86) (by decide +kernel) rfl hw ?_
  refine hs_k (x := Int32.ofNat 2) (p := 87) (by decide +kernel) ?_
  refine hm_rwv hA (p := 88) (x := Int32.ofNat r) (by decide +kernel) (by omega) hW ?_
  refine hs_istore (i := 3) (p := 89) (by decide +kernel) (Nat.le_of_ble_eq_true rfl) ?_
  refine hs_aload (i := 0) (p := 90) (by decide +kernel) rfl ?_
  refine hs_k (x := Int32.ofNat 8) (p := 92) (by decide +kernel) ?_
  refine hs_iload (i := 3) (p := 93) (by decide +kernel) rfl ?_
  refine hs_iaddn (p := 94) (by decide +kernel) ?_
  refine hm_call hA (mi := 205) (na := 1) (lk := 4) (lm := 3) (by decide +kernel) rfl rfl rfl rfl rfl rfl (rp_keeps hA hw (t := (8 + r)) (by omega) (fun V g1 g2 => hs_cb ?_))
  show et_go none _ 207 97 _ [] _ _ _ _
  refine hs_aload (i := 0) (p := 98) (by decide +kernel) rfl ?_
  refine hm_get hA (f := 1) (p := 101) (by decide +kernel) rfl hw ?_
  refine hs_k (x := Int32.ofNat 114) (p := 103) (by decide +kernel) ?_
  refine hs_k (x := Int32.ofNat 2) (p := 104) (by decide +kernel) ?_
  refine hs_iload (i := 3) (p := 105) (by decide +kernel) rfl ?_
  refine hs_imuln (p := 106) (by decide +kernel) ?_
  refine hs_iaddn (p := 107) (by decide +kernel) ?_
  refine hs_iload (i := 1) (p := 108) (by decide +kernel) rfl ?_
  refine hm_ww hA (p := 109) (by decide +kernel) (by omega) ?_
  refine hs_aload (i := 0) (p := 110) (by decide +kernel) rfl ?_
  refine hm_get hA (f := 1) (p := 113) (by decide +kernel) rfl hw ?_
  refine hs_k (x := Int32.ofNat 114) (p := 115) (by decide +kernel) ?_
  refine hs_k (x := Int32.ofNat 2) (p := 116) (by decide +kernel) ?_
  refine hs_iload (i := 3) (p := 117) (by decide +kernel) rfl ?_
  refine hs_imuln (p := 118) (by decide +kernel) ?_
  refine hs_iaddn (p := 119) (by decide +kernel) ?_
  refine hs_k (x := Int32.ofNat 1) (p := 120) (by decide +kernel) ?_
  refine hs_iaddn (p := 121) (by decide +kernel) ?_
  refine hs_iload (i := 2) (p := 122) (by decide +kernel) rfl ?_
  refine hm_ww hA (p := 123) (by decide +kernel) (by omega) ?_
  refine hs_aload (i := 0) (p := 124) (by decide +kernel) rfl ?_
  refine hm_get hA (f := 1) (p := 127) (by decide +kernel) rfl hw ?_
  refine hs_k (x := Int32.ofNat 2) (p := 128) (by decide +kernel) ?_
  refine hs_dup2 (p := 129) (by decide +kernel) ?_
  refine hm_rwv hA (p := 130) (x := Int32.ofNat r) (by decide +kernel) (by omega) ((hs_un (by omega)).trans ((hs_un (by omega)).trans ((g2 2 (.inl (by omega))).trans hW))) ?_
  refine hs_k (x := Int32.ofNat 1) (p := 131) (by decide +kernel) ?_
  refine hs_iaddn (p := 132) (by decide +kernel) ?_
  refine hm_ww hA (p := 133) (by decide +kernel) (by omega) ?_
  refine hs_iload (i := 3) (p := 134) (by decide +kernel) rfl ?_
  refine hs_iret (by decide +kernel) ?_
  exact h _ g1 g2
theorem fm_claim (hH : et_H et_TT K G) (k_am : K am = some 13) (m4 : et_pl (eg_at G am) 4 = some (.ref tm)) (k_tm : K tm = some 34) (m5 : et_pl (eg_at G am) 5 = some (.int (Int32.ofNat n))) (hn : n ≤ 400) (ht : ∀ i, i < n → et_pl (eg_at G tm) i = some (.int (sx (b i)))) (hb : ∀ i, i < n → b i < 256) (k_aw : K aw = some 46) (m1 : et_pl (eg_at G am) 1 = some (.ref aw)) (w2 : et_pl (eg_at G aw) 2 = some (.int (Int32.ofNat r))) (hr : r ≤ 6) (w0 : et_pl (eg_at G aw) 0 = some (.int (Int32.ofNat rc))) (hrc : rc ≤ 4) (w4 : et_pl (eg_at G aw) 4 = some (.int (Int32.ofNat ec))) (hec : ec ≤ 3) (hd : 35 ≤ d2) : et_go none d2 207 0 (eg_en (eg_mL 207) [.ref am, .int ey, .int ru]) [] G 0 0 (xn_Z (fun c j => (c = am ∧ (j = 0 ∨ ((5 ≤ j ∧ j ≤ 10) ∨ (12 ≤ j ∧ j ≤ 13)))) ∨ (c = aw ∧ (j = 2 ∨ ((r < 6 ∧ j = 114 + 2 * r) ∨ ((r < 6 ∧ j = 115 + 2 * r) ∨ ((126 + 841 * (8 + r) ≤ j ∧ j < 126 + 841 * (8 + r) + 841) ∨ 11900 ≤ j)))))) G (clP am aw r ec rc ey ru (sp_one (tz_ts 2 b n 0)))) := by
  obtain ⟨d, rfl⟩ : ∃ d, d2 = d + 35 := ⟨d2 - 35, by omega⟩
  rw [show eg_mL 207 = 4 from by decide +kernel]
  show et_go none (d + 35) 207 0 [some (.ref am), some (.int ey), some (.int ru), none] [] G 0 0 (xn_Z _ _ _)
  have hne : ¬ aw = am := hi_ne k_aw k_am (by decide)
  have lt_am := (hH.2.2 _ _ k_am).1
  have lt_tm := (hH.2.2 _ _ k_tm).1
  have lt_aw := (hH.2.2 _ _ k_aw).1
  have hX : xf (fun c j => (c = am ∧ j = 0) ∨ (c = am ∧ (5 ≤ j ∧ j ≤ 10)) ∨ (c = am ∧ (12 ≤ j ∧ j ≤ 13)) ∨ (c = aw ∧ 11900 ≤ j)) G G := xf.rf
  refine hs_aload (i := 0) (p := 1) (by decide +kernel) rfl ?_
  refine ht_callv (T := et_TT) (t := 13) (mi := 181) (na := 0) (ci := 11) (lk := 4) (lm := 1) (L0 := eg_en (eg_mL 181) [.ref am]) (by decide +kernel) rfl hH k_am rfl rfl rfl rfl rfl (by rw [show eg_mL 181 = 1 from by decide +kernel]; first | done | rfl) ?_
  refine (fm_uses hH k_am hn m5).mono (fun u hu => xw_cb hu (fun G1 v1 hH x1 hP1 => ?_))
  have x1 : xf (fun c j => (c = am ∧ j = 0) ∨ (c = am ∧ (5 ≤ j ∧ j ≤ 7)) ∨ (c = am ∧ j = 12)) _ _ := x1
  have m4 := (x1.2 am 4 lt_am (fun h => Or.elim h (fun h => absurd h.2 (by decide)) (fun h => Or.elim h (fun h => absurd h.2 (by decide)) (fun h => absurd h.2 (by decide))))).trans m4
  have m1 := (x1.2 am 1 lt_am (fun h => Or.elim h (fun h => absurd h.2 (by decide)) (fun h => Or.elim h (fun h => absurd h.2 (by decide)) (fun h => absurd h.2 (by decide))))).trans m1
  have w2 := (x1.2 aw 2 lt_aw (fun h => Or.elim h (fun h => hne h.1) (fun h => Or.elim h (fun h => hne h.1) (fun h => hne h.1)))).trans w2
  have w0 := (x1.2 aw 0 lt_aw (fun h => Or.elim h (fun h => hne h.1) (fun h => Or.elim h (fun h => hne h.1) (fun h => hne h.1)))).trans w0
  have w4 := (x1.2 aw 4 lt_aw (fun h => Or.elim h (fun h => hne h.1) (fun h => Or.elim h (fun h => hne h.1) (fun h => hne h.1)))).trans w4
  have ht : ∀ i, i < n → et_pl (eg_at G1 tm) i = some (.int (sx (b i))) := fun i hi => (x1.2 tm i lt_tm (fun h => Or.elim h (fun h => (hi_ne k_tm k_am (by decide)) h.1) (fun h => Or.elim h (fun h => (hi_ne k_tm k_am (by decide)) h.1) (fun h => (hi_ne k_tm k_am (by decide)) h.1)))).trans (ht i hi)
  have lt_am := Nat.lt_of_lt_of_le lt_am x1.1
  have lt_tm := Nat.lt_of_lt_of_le lt_tm x1.1
  have lt_aw := Nat.lt_of_lt_of_le lt_aw x1.1
  have hX := hX.tr x1 (fun b j hb h => by first | omega | (dsimp only at h ⊢; omega) | (dsimp only at h; omega) | (dsimp only; omega))
  obtain ⟨rfl, q0, q5, q6, q7, q12⟩ := hP1
  show et_go none _ 207 4 _ [] _ _ _ _
  refine hs_aload (i := 0) (p := 5) (by decide +kernel) rfl ?_
  refine hs_aload (i := 0) (p := 6) (by decide +kernel) rfl ?_
  refine hs_iload (i := 1) (p := 7) (by decide +kernel) rfl ?_
  refine ht_callv (T := et_TT) (t := 13) (mi := 208) (na := 1) (ci := 11) (lk := 4) (lm := 2) (L0 := eg_en (eg_mL 208) [.ref am, .int ey]) (by decide +kernel) rfl hH k_am rfl rfl rfl rfl rfl (by rw [show eg_mL 208 = 2 from by decide +kernel]; first | done | rfl) ?_
  refine (fm_nE (x := ey) hH k_am k_aw m1 w4 hec (by omega)).mono (fun u hu => xp_cb hu ?_)
  by_cases xe : 0 ≤ ey.toInt ∧ ey.toInt < (ec : Int)
  · rw [if_pos xe]
    show et_go none _ 207 10 _ [.int (Int32.ofNat 0), .ref am] _ _ _ _
    refine hs_if0 (c := .ne) (t := 21) (f := 13) (by decide +kernel) (show ¬ (¬ Int32.ofNat 0 = 0) by decide) ?_
    refine hs_aload (i := 0) (p := 14) (by decide +kernel) rfl ?_
    refine hs_iload (i := 2) (p := 15) (by decide +kernel) rfl ?_
    refine ht_callv (T := et_TT) (t := 13) (mi := 210) (na := 1) (ci := 11) (lk := 4) (lm := 2) (L0 := eg_en (eg_mL 210) [.ref am, .int ru]) (by decide +kernel) rfl hH k_am rfl rfl rfl rfl rfl (by rw [show eg_mL 210 = 2 from by decide +kernel]; first | done | rfl) ?_
    refine (fm_nR (x := ru) hH k_am k_aw m1 w0 hrc (by omega)).mono (fun u hu => xp_cb hu ?_)
    by_cases xu : 0 ≤ ru.toInt ∧ ru.toInt < (rc : Int)
    · rw [if_pos xu]
      show et_go none _ 207 18 _ [.int (Int32.ofNat 0), .ref am] _ _ _ _
      refine hs_if1 (c := .eq) (t := 25) (f := 21) (by decide +kernel) (show Int32.ofNat 0 = 0 by decide) ?_
      refine hs_k (x := Int32.ofNat 0) (p := 26) (by decide +kernel) ?_
      refine hs_k (x := Int32.ofNat 1) (p := 27) (by decide +kernel) ?_
      refine ht_callv (T := et_TT) (t := 13) (mi := 204) (na := 2) (ci := 11) (lk := 4) (lm := 3) (L0 := eg_en (eg_mL 204) [.ref am, .int (Int32.ofNat 0), .int (Int32.ofNat 1)]) (by decide +kernel) rfl hH k_am rfl rfl rfl rfl rfl (by rw [show eg_mL 204 = 3 from by decide +kernel]; first | done | rfl) ?_
      refine (fm_t0 hH k_am).mono (fun u hu => xp_cb hu ?_)
      show et_go none _ 207 30 _ [.int (Int32.ofNat 0)] _ _ _ _
      refine hs_if1 (c := .eq) (t := 35) (f := 33) (by decide +kernel) (show Int32.ofNat 0 = 0 by decide) ?_
      refine hs_aload (i := 0) (p := 36) (by decide +kernel) rfl ?_
      refine hs_aload (i := 0) (p := 37) (by decide +kernel) rfl ?_
      refine hs_k (x := Int32.ofNat 2) (p := 38) (by decide +kernel) ?_
      refine ht_callv (T := et_TT) (t := 13) (mi := 182) (na := 1) (ci := 11) (lk := 4) (lm := 3) (L0 := eg_en (eg_mL 182) [.ref am, .int (Int32.ofNat 2)]) (by decide +kernel) rfl hH k_am rfl rfl rfl rfl rfl (by rw [show eg_mL 182 = 3 from by decide +kernel]; first | done | rfl) ?_
      refine (fr_reads_one (pl := 2) (k := 0) (p := 0) hH k_am m4 k_tm q7 hn ht hb q6 tal0 (by decide) k_aw m1 q12 rfl (by decide) (by omega)).mono (fun u hu => xw_cb hu (fun G38 v38 hH x38 hP38 => ?_))
      have x38 : xf (fun c j => (c = am ∧ j = 6) ∨ (c = am ∧ (8 ≤ j ∧ j ≤ 10)) ∨ (c = am ∧ (12 ≤ j ∧ j ≤ 13)) ∨ (c = aw ∧ 11900 ≤ j)) _ _ := x38
      have m4 := (x38.2 am 4 lt_am (fun h => Or.elim h (fun h => absurd h.2 (by decide)) (fun h => Or.elim h (fun h => absurd h.2 (by decide)) (fun h => Or.elim h (fun h => absurd h.2 (by decide)) (fun h => (hi_ne k_am k_aw (by decide)) h.1))))).trans m4
      have q5 := (x38.2 am 5 lt_am (fun h => Or.elim h (fun h => absurd h.2 (by decide)) (fun h => Or.elim h (fun h => absurd h.2 (by decide)) (fun h => Or.elim h (fun h => absurd h.2 (by decide)) (fun h => (hi_ne k_am k_aw (by decide)) h.1))))).trans q5
      have m1 := (x38.2 am 1 lt_am (fun h => Or.elim h (fun h => absurd h.2 (by decide)) (fun h => Or.elim h (fun h => absurd h.2 (by decide)) (fun h => Or.elim h (fun h => absurd h.2 (by decide)) (fun h => (hi_ne k_am k_aw (by decide)) h.1))))).trans m1
      have w2 := (x38.2 aw 2 lt_aw (fun h => Or.elim h (fun h => hne h.1) (fun h => Or.elim h (fun h => hne h.1) (fun h => Or.elim h (fun h => hne h.1) (fun h => by have h := h.2; omega))))).trans w2
      have w0 := (x38.2 aw 0 lt_aw (fun h => Or.elim h (fun h => hne h.1) (fun h => Or.elim h (fun h => hne h.1) (fun h => Or.elim h (fun h => hne h.1) (fun h => by have h := h.2; omega))))).trans w0
      have w4 := (x38.2 aw 4 lt_aw (fun h => Or.elim h (fun h => hne h.1) (fun h => Or.elim h (fun h => hne h.1) (fun h => Or.elim h (fun h => hne h.1) (fun h => by have h := h.2; omega))))).trans w4
      have q0 := (x38.2 am 0 lt_am (fun h => Or.elim h (fun h => absurd h.2 (by decide)) (fun h => Or.elim h (fun h => absurd h.2 (by decide)) (fun h => Or.elim h (fun h => absurd h.2 (by decide)) (fun h => (hi_ne k_am k_aw (by decide)) h.1))))).trans q0
      have q7 := (x38.2 am 7 lt_am (fun h => Or.elim h (fun h => absurd h.2 (by decide)) (fun h => Or.elim h (fun h => absurd h.2 (by decide)) (fun h => Or.elim h (fun h => absurd h.2 (by decide)) (fun h => (hi_ne k_am k_aw (by decide)) h.1))))).trans q7
      have ht : ∀ i, i < n → et_pl (eg_at G38 tm) i = some (.int (sx (b i))) := fun i hi => (x38.2 tm i lt_tm (fun h => Or.elim h (fun h => (hi_ne k_tm k_am (by decide)) h.1) (fun h => Or.elim h (fun h => (hi_ne k_tm k_am (by decide)) h.1) (fun h => Or.elim h (fun h => (hi_ne k_tm k_am (by decide)) h.1) (fun h => (hi_ne k_tm k_aw (by decide)) h.1))))).trans (ht i hi)
      have lt_am := Nat.lt_of_lt_of_le lt_am x38.1
      have lt_tm := Nat.lt_of_lt_of_le lt_tm x38.1
      have lt_aw := Nat.lt_of_lt_of_le lt_aw x38.1
      have hX := hX.tr x38 (fun b j hb h => by first | omega | (dsimp only at h ⊢; omega) | (dsimp only at h; omega) | (dsimp only; omega))
      rcases hP38 with ⟨sq, rfl⟩ | ⟨f_, C_, sq, rfl, g1, g2, g3, g4, g5⟩
      · have hP : P1 aw 2 (sp_one (tz_ts 2 b n 0)) G38 (some (.int (Int32.ofNat 0))) := .inl ⟨sq, rfl⟩
        show et_go none _ 207 41 _ [.int (Int32.ofNat 0), .ref am] _ _ _ _
        refine hs_if0 (c := .ne) (t := 48) (f := 44) (by decide +kernel) (show ¬ (¬ Int32.ofNat 0 = 0) by decide) ?_
        refine hs_k (x := Int32.ofNat 1) (p := 45) (by decide +kernel) ?_
        refine hs_goto (p := 49) (by decide +kernel) ?_
        refine hs_k (x := Int32.ofNat 2) (p := 50) (by decide +kernel) ?_
        refine ht_callv (T := et_TT) (t := 13) (mi := 204) (na := 2) (ci := 11) (lk := 4) (lm := 3) (L0 := eg_en (eg_mL 204) [.ref am, .int (Int32.ofNat 1), .int (Int32.ofNat 2)]) (by decide +kernel) rfl hH k_am rfl rfl rfl rfl rfl (by rw [show eg_mL 204 = 3 from by decide +kernel]; first | done | rfl) ?_
        refine (fm_t1 hH k_am).mono (fun u hu => xw_cb hu (fun G50 v50 hH x50 hP50 => ?_))
        have hP := hP.fr x50 lt_aw (fun j hs => hne hs.1)
        have m4 := (x50.2 am 4 lt_am (fun h => absurd h.2 (by decide))).trans m4
        have q5 := (x50.2 am 5 lt_am (fun h => absurd h.2 (by decide))).trans q5
        have m1 := (x50.2 am 1 lt_am (fun h => absurd h.2 (by decide))).trans m1
        have w2 := (x50.2 aw 2 lt_aw (fun h => hne h.1)).trans w2
        have w0 := (x50.2 aw 0 lt_aw (fun h => hne h.1)).trans w0
        have w4 := (x50.2 aw 4 lt_aw (fun h => hne h.1)).trans w4
        have q7 := (x50.2 am 7 lt_am (fun h => absurd h.2 (by decide))).trans q7
        have ht : ∀ i, i < n → et_pl (eg_at G50 tm) i = some (.int (sx (b i))) := fun i hi => (x50.2 tm i lt_tm (fun h => (hi_ne k_tm k_am (by decide)) h.1)).trans (ht i hi)
        have lt_am := Nat.lt_of_lt_of_le lt_am x50.1
        have lt_tm := Nat.lt_of_lt_of_le lt_tm x50.1
        have lt_aw := Nat.lt_of_lt_of_le lt_aw x50.1
        have hX := hX.tr x50 (fun b j hb h => by first | omega | (dsimp only at h ⊢; omega) | (dsimp only at h; omega) | (dsimp only; omega))
        obtain ⟨rfl, th50⟩ := hP50
        show et_go none _ 207 53 _ [.int (Int32.ofNat 1)] _ _ _ _
        refine hs_if1 (c := .ne) (t := 80) (f := 56) (by decide +kernel) (show ¬ Int32.ofNat 1 = 0 by decide) ?_
        refine hs_k (x := Int32.ofNat 0) (p := 81) (by decide +kernel) ?_
        refine hs_iret (by decide +kernel) ?_
        rcases hP with ⟨sq, -⟩ | ⟨_, _, _, hz, _⟩
        · exact ⟨_, _, rfl, hX.wk (fun c j _ h => by first | omega | (dsimp only at h ⊢; omega)), .inr (.inl ⟨⟨xe, xu⟩, sq, rfl, th50, w2⟩)⟩
        · cases hz
      · have hP : P1 aw 2 (sp_one (tz_ts 2 b n 0)) G38 (some (.int (Int32.ofNat 1))) := .inr ⟨f_, C_, sq, rfl, g1, g2, g3, g4, g5⟩
        show et_go none _ 207 41 _ [.int (Int32.ofNat 1), .ref am] _ _ _ _
        refine hs_if1 (c := .ne) (t := 48) (f := 44) (by decide +kernel) (show ¬ Int32.ofNat 1 = 0 by decide) ?_
        refine hs_k (x := Int32.ofNat 0) (p := 49) (by decide +kernel) ?_
        refine hs_k (x := Int32.ofNat 2) (p := 50) (by decide +kernel) ?_
        refine ht_callv (T := et_TT) (t := 13) (mi := 204) (na := 2) (ci := 11) (lk := 4) (lm := 3) (L0 := eg_en (eg_mL 204) [.ref am, .int (Int32.ofNat 0), .int (Int32.ofNat 2)]) (by decide +kernel) rfl hH k_am rfl rfl rfl rfl rfl (by rw [show eg_mL 204 = 3 from by decide +kernel]; first | done | rfl) ?_
        refine (fm_t0 hH k_am).mono (fun u hu => xp_cb hu ?_)
        show et_go none _ 207 53 _ [.int (Int32.ofNat 0)] _ _ _ _
        refine hs_if0 (c := .ne) (t := 80) (f := 56) (by decide +kernel) (show ¬ (¬ Int32.ofNat 0 = 0) by decide) ?_
        refine hs_aload (i := 0) (p := 57) (by decide +kernel) rfl ?_
        refine hs_aload (i := 0) (p := 58) (by decide +kernel) rfl ?_
        refine hf_get (T := et_TT) (t := 13) (ci := 11) (f := 1) (p := 61) (by decide +kernel) rfl hH k_am m1 ?_
        refine hs_k (x := Int32.ofNat 2) (p := 62) (by decide +kernel) ?_
        refine hf_ald (ins := .iaload) (T := et_TT) (t := 46) (kd := 0) (N := 12741) (p := 63) (by decide +kernel) (fun _ _ _ _ _ _ _ _ _ _ => rfl) rfl rfl rfl hH k_aw (by decide) w2 ?_
        refine hs_k (x := Int32.ofNat 6) (p := 65) (by decide +kernel) ?_
        refine hs_br2n (c := .ne) (t := 72) (f := 68) (by decide +kernel) (by omega) (by omega) (fun (c65 : ¬ r = 6) => ?_) (fun (c65 : ¬ (¬ r = 6)) => ?_)
        · refine hs_k (x := Int32.ofNat 0) (p := 73) (by decide +kernel) ?_
          refine hs_k (x := Int32.ofNat 3) (p := 74) (by decide +kernel) ?_
          refine ht_callv (T := et_TT) (t := 13) (mi := 204) (na := 2) (ci := 11) (lk := 4) (lm := 3) (L0 := eg_en (eg_mL 204) [.ref am, .int (Int32.ofNat 0), .int (Int32.ofNat 3)]) (by decide +kernel) rfl hH k_am rfl rfl rfl rfl rfl (by rw [show eg_mL 204 = 3 from by decide +kernel]; first | done | rfl) ?_
          refine (fm_t0 hH k_am).mono (fun u hu => xp_cb hu ?_)
          show et_go none _ 207 77 _ [.int (Int32.ofNat 0)] _ _ _ _
          refine hs_if1 (c := .eq) (t := 82) (f := 80) (by decide +kernel) (show Int32.ofNat 0 = 0 by decide) ?_
          rcases hP with ⟨-, hz⟩ | ⟨f_, C_, sq, -, g1, g2, g3, g4, g5⟩
          · cases hz
          · obtain ⟨F, W, aw2, ta, tp, pt, bg, st, dp, ai2, TP, IK, hB, -, -, ⟨hi, i1, i2, i3, i4, -, -⟩, ⟨eF, eW, -, -, -, -, -⟩, e⟩ := hi_txt hH k_am
            have ew := m1
            rw [eF, hmF_pl (by decide), hB.2.2.1] at ew
            injection ew with ew
            injection ew with ew
            subst ew
            have hW0 := w2
            rw [eW, hmW_pl (by decide)] at hW0
            injection hW0 with hW0
            injection hW0 with hW0
            have hz : ∀ Z : eg_O → Prop, (∀ V : Nat → Int32, (∀ i, i < 841 → V (126 + 841 * (8 + r) + i) = W (11900 + i)) → (∀ i, (i < 126 + 841 * (8 + r) ∨ 126 + 841 * (8 + r) + 841 ≤ i) → V i = W i) → Z (.inl (some (.int (Int32.ofNat r))), hm_H G38 am aw2 F (upd (upd (upd V (114 + 2 * r) ey) (114 + 2 * r + 1) ru) 2 (Int32.ofNat (r + 1))), 0, 0)) → et_go none (d + 35) 207 82 [some (.ref am), some (.int ey), some (.int ru), none] [] G38 0 0 Z := fun Z h => by
              have h1 := tl_claim (d := d + 33) (x3 := none) hB.1 hB.2.2.1 (by omega) hW0 h
              rw [← e] at h1
              exact h1
            refine hz _ (fun V v1 v2 => ?_)
            have hx1 := hm_xf0 (W1 := (upd (upd (upd V (114 + 2 * r) ey) (114 + 2 * r + 1) ru) 2 (Int32.ofNat (r + 1)))) hB.1 e
            have hV : ∀ i, ¬ i = 2 → ¬ i = 114 + 2 * r → ¬ i = 115 + 2 * r → (i < 126 + 841 * (8 + r) ∨ 126 + 841 * (8 + r) + 841 ≤ i) → (upd (upd (upd V (114 + 2 * r) ey) (114 + 2 * r + 1) ru) 2 (Int32.ofNat (r + 1))) i = W i := fun i h1 h2 h3 h4 => (hs_un h1).trans ((hs_un (by omega)).trans ((hs_un h2).trans (v2 i h4)))
            have e1 : eg_at (hm_H G38 am aw2 F (upd (upd (upd V (114 + 2 * r) ey) (114 + 2 * r + 1) ru) 2 (Int32.ofNat (r + 1)))) aw2 = hm_W (upd (upd (upd V (114 + 2 * r) ey) (114 + 2 * r + 1) ru) 2 (Int32.ofNat (r + 1))) := hm_w hB.1
            refine ⟨_, _, rfl, (hX.wk (fun c j _ h => by first | omega | (dsimp only at h ⊢; omega))).tr hx1 (fun c j _ hs => ?_), .inr (.inr (.inr ⟨⟨xe, xu⟩, f_, sq, by omega, rfl, (hx1.2 am 0 lt_am (fun h => hB.1.2.2 h.1)).trans q0, ?_, ?_, ?_, ?_⟩))⟩
            · obtain ⟨rfl, hs⟩ := hs
              refine .inr ⟨rfl, ?_⟩
              refine Decidable.by_contra (fun hc => hs (hV j (by omega) (by omega) (by omega) (by omega)))
            · rw [e1, hmW_pl (by decide)]
              exact congrArg (fun z => some (Value.int z)) hs_us
            · rw [e1, hmW_pl (by omega)]
              exact congrArg (fun z => some (Value.int z)) ((hs_un (by omega)).trans ((hs_un (by omega)).trans hs_us))
            · rw [e1, hmW_pl (by omega), show 115 + 2 * r = 114 + 2 * r + 1 by omega]
              exact congrArg (fun z => some (Value.int z)) ((hs_un (by omega)).trans hs_us)
            · refine txP.mv eW g1 g2 g3 g4 g5 (fun i v hi2 hv => ?_)
              rw [eW, hmW_pl (by omega)] at hv
              rw [e1, hmW_pl (by omega), ← hv]
              exact congrArg (fun z => some (Value.int z)) ((hs_un (by omega)).trans ((hs_un (by omega)).trans ((hs_un (by omega)).trans (v1 i hi2))))
        · refine hs_k (x := Int32.ofNat 1) (p := 69) (by decide +kernel) ?_
          refine hs_goto (p := 73) (by decide +kernel) ?_
          refine hs_k (x := Int32.ofNat 3) (p := 74) (by decide +kernel) ?_
          refine ht_callv (T := et_TT) (t := 13) (mi := 204) (na := 2) (ci := 11) (lk := 4) (lm := 3) (L0 := eg_en (eg_mL 204) [.ref am, .int (Int32.ofNat 1), .int (Int32.ofNat 3)]) (by decide +kernel) rfl hH k_am rfl rfl rfl rfl rfl (by rw [show eg_mL 204 = 3 from by decide +kernel]; first | done | rfl) ?_
          refine (fm_t1 hH k_am).mono (fun u hu => xw_cb hu (fun G74 v74 hH x74 hP74 => ?_))
          have hP := hP.fr x74 lt_aw (fun j hs => hne hs.1)
          have m4 := (x74.2 am 4 lt_am (fun h => absurd h.2 (by decide))).trans m4
          have q5 := (x74.2 am 5 lt_am (fun h => absurd h.2 (by decide))).trans q5
          have m1 := (x74.2 am 1 lt_am (fun h => absurd h.2 (by decide))).trans m1
          have w2 := (x74.2 aw 2 lt_aw (fun h => hne h.1)).trans w2
          have w0 := (x74.2 aw 0 lt_aw (fun h => hne h.1)).trans w0
          have w4 := (x74.2 aw 4 lt_aw (fun h => hne h.1)).trans w4
          have q7 := (x74.2 am 7 lt_am (fun h => absurd h.2 (by decide))).trans q7
          have ht : ∀ i, i < n → et_pl (eg_at G74 tm) i = some (.int (sx (b i))) := fun i hi => (x74.2 tm i lt_tm (fun h => (hi_ne k_tm k_am (by decide)) h.1)).trans (ht i hi)
          have lt_am := Nat.lt_of_lt_of_le lt_am x74.1
          have lt_tm := Nat.lt_of_lt_of_le lt_tm x74.1
          have lt_aw := Nat.lt_of_lt_of_le lt_aw x74.1
          have hX := hX.tr x74 (fun b j hb h => by first | omega | (dsimp only at h ⊢; omega) | (dsimp only at h; omega) | (dsimp only; omega))
          obtain ⟨rfl, th74⟩ := hP74
          show et_go none _ 207 77 _ [.int (Int32.ofNat 1)] _ _ _ _
          refine hs_if0 (c := .eq) (t := 82) (f := 80) (by decide +kernel) (show ¬ (Int32.ofNat 1 = 0) by decide) ?_
          refine hs_k (x := Int32.ofNat 0) (p := 81) (by decide +kernel) ?_
          refine hs_iret (by decide +kernel) ?_
          rcases hP with ⟨-, hz⟩ | ⟨f_, C_, sq, -⟩
          · cases hz
          · exact ⟨_, _, rfl, hX.wk (fun c j _ h => by first | omega | (dsimp only at h ⊢; omega)), .inr (.inr (.inl ⟨⟨xe, xu⟩, by omega, (by rw [sq]; intro h; cases h), rfl, th74, w2⟩))⟩
    · rw [if_neg xu]
      show et_go none _ 207 18 _ [.int (Int32.ofNat 1), .ref am] _ _ _ _
      refine hs_if0 (c := .eq) (t := 25) (f := 21) (by decide +kernel) (show ¬ (Int32.ofNat 1 = 0) by decide) ?_
      refine hs_k (x := Int32.ofNat 1) (p := 22) (by decide +kernel) ?_
      refine hs_goto (p := 26) (by decide +kernel) ?_
      refine hs_k (x := Int32.ofNat 1) (p := 27) (by decide +kernel) ?_
      refine ht_callv (T := et_TT) (t := 13) (mi := 204) (na := 2) (ci := 11) (lk := 4) (lm := 3) (L0 := eg_en (eg_mL 204) [.ref am, .int (Int32.ofNat 1), .int (Int32.ofNat 1)]) (by decide +kernel) rfl hH k_am rfl rfl rfl rfl rfl (by rw [show eg_mL 204 = 3 from by decide +kernel]; first | done | rfl) ?_
      refine (fm_t1 hH k_am).mono (fun u hu => xw_cb hu (fun G27 v27 hH x27 hP27 => ?_))
      have m4 := (x27.2 am 4 lt_am (fun h => absurd h.2 (by decide))).trans m4
      have q5 := (x27.2 am 5 lt_am (fun h => absurd h.2 (by decide))).trans q5
      have m1 := (x27.2 am 1 lt_am (fun h => absurd h.2 (by decide))).trans m1
      have w2 := (x27.2 aw 2 lt_aw (fun h => hne h.1)).trans w2
      have w0 := (x27.2 aw 0 lt_aw (fun h => hne h.1)).trans w0
      have w4 := (x27.2 aw 4 lt_aw (fun h => hne h.1)).trans w4
      have q6 := (x27.2 am 6 lt_am (fun h => absurd h.2 (by decide))).trans q6
      have q7 := (x27.2 am 7 lt_am (fun h => absurd h.2 (by decide))).trans q7
      have q12 := (x27.2 am 12 lt_am (fun h => absurd h.2 (by decide))).trans q12
      have ht : ∀ i, i < n → et_pl (eg_at G27 tm) i = some (.int (sx (b i))) := fun i hi => (x27.2 tm i lt_tm (fun h => (hi_ne k_tm k_am (by decide)) h.1)).trans (ht i hi)
      have lt_am := Nat.lt_of_lt_of_le lt_am x27.1
      have lt_tm := Nat.lt_of_lt_of_le lt_tm x27.1
      have lt_aw := Nat.lt_of_lt_of_le lt_aw x27.1
      have hX := hX.tr x27 (fun b j hb h => by first | omega | (dsimp only at h ⊢; omega) | (dsimp only at h; omega) | (dsimp only; omega))
      obtain ⟨rfl, th27⟩ := hP27
      show et_go none _ 207 30 _ [.int (Int32.ofNat 1)] _ _ _ _
      refine hs_if0 (c := .eq) (t := 35) (f := 33) (by decide +kernel) (show ¬ (Int32.ofNat 1 = 0) by decide) ?_
      refine hs_k (x := Int32.ofNat 0) (p := 34) (by decide +kernel) ?_
      refine hs_iret (by decide +kernel) ?_
      exact ⟨_, _, rfl, hX.wk (fun c j _ h => by first | omega | (dsimp only at h ⊢; omega)), .inl ⟨(fun h => xu h.2), rfl, th27, w2⟩⟩
  · rw [if_neg xe]
    show et_go none _ 207 10 _ [.int (Int32.ofNat 1), .ref am] _ _ _ _
    refine hs_if1 (c := .ne) (t := 21) (f := 13) (by decide +kernel) (show ¬ Int32.ofNat 1 = 0 by decide) ?_
    refine hs_k (x := Int32.ofNat 1) (p := 22) (by decide +kernel) ?_
    refine hs_goto (p := 26) (by decide +kernel) ?_
    refine hs_k (x := Int32.ofNat 1) (p := 27) (by decide +kernel) ?_
    refine ht_callv (T := et_TT) (t := 13) (mi := 204) (na := 2) (ci := 11) (lk := 4) (lm := 3) (L0 := eg_en (eg_mL 204) [.ref am, .int (Int32.ofNat 1), .int (Int32.ofNat 1)]) (by decide +kernel) rfl hH k_am rfl rfl rfl rfl rfl (by rw [show eg_mL 204 = 3 from by decide +kernel]; first | done | rfl) ?_
    refine (fm_t1 hH k_am).mono (fun u hu => xw_cb hu (fun G27 v27 hH x27 hP27 => ?_))
    have m4 := (x27.2 am 4 lt_am (fun h => absurd h.2 (by decide))).trans m4
    have q5 := (x27.2 am 5 lt_am (fun h => absurd h.2 (by decide))).trans q5
    have m1 := (x27.2 am 1 lt_am (fun h => absurd h.2 (by decide))).trans m1
    have w2 := (x27.2 aw 2 lt_aw (fun h => hne h.1)).trans w2
    have w0 := (x27.2 aw 0 lt_aw (fun h => hne h.1)).trans w0
    have w4 := (x27.2 aw 4 lt_aw (fun h => hne h.1)).trans w4
    have q6 := (x27.2 am 6 lt_am (fun h => absurd h.2 (by decide))).trans q6
    have q7 := (x27.2 am 7 lt_am (fun h => absurd h.2 (by decide))).trans q7
    have q12 := (x27.2 am 12 lt_am (fun h => absurd h.2 (by decide))).trans q12
    have ht : ∀ i, i < n → et_pl (eg_at G27 tm) i = some (.int (sx (b i))) := fun i hi => (x27.2 tm i lt_tm (fun h => (hi_ne k_tm k_am (by decide)) h.1)).trans (ht i hi)
    have lt_am := Nat.lt_of_lt_of_le lt_am x27.1
    have lt_tm := Nat.lt_of_lt_of_le lt_tm x27.1
    have lt_aw := Nat.lt_of_lt_of_le lt_aw x27.1
    have hX := hX.tr x27 (fun b j hb h => by first | omega | (dsimp only at h ⊢; omega) | (dsimp only at h; omega) | (dsimp only; omega))
    obtain ⟨rfl, th27⟩ := hP27
    show et_go none _ 207 30 _ [.int (Int32.ofNat 1)] _ _ _ _
    refine hs_if0 (c := .eq) (t := 35) (f := 33) (by decide +kernel) (show ¬ (Int32.ofNat 1 = 0) by decide) ?_
    refine hs_k (x := Int32.ofNat 0) (p := 34) (by decide +kernel) ?_
    refine hs_iret (by decide +kernel) ?_
    exact ⟨_, _, rfl, hX.wk (fun c j _ h => by first | omega | (dsimp only at h ⊢; omega)), .inl ⟨(fun h => xe h.1), rfl, th27, w2⟩⟩
end FRC
end
section
/-! FUNCTIONAL: the TAPE's bytes -/
/-- a byte of an int -/
def by4 (v : Int32) (s : Nat) : Nat := (v.toUInt32.toNat / 2 ^ s) % 256
theorem by4_lt {v : Int32} {s : Nat} : by4 v s < 256 := Nat.mod_lt _ (by decide)
theorem by_u {v : Int32} {s : Nat} (hs : s ∈ [0, 8, 16, 24]) : ((v.toUInt32 >>> ((Int32.ofNat s).toUInt32 &&& Int32.toUInt32 31)).toInt32 &&& Int32.ofNat 255).toUInt32.toNat = by4 v s := by
  have h : ((Int32.ofNat s).toUInt32 &&& Int32.toUInt32 31).toNat = s := by
    have h1 : ∀ s ∈ [0, 8, 16, 24], ((Int32.ofNat s).toUInt32 &&& Int32.toUInt32 31).toNat = s := by decide +kernel
    exact h1 s hs
  have h2 : s % 32 = s := by
    have h1 : ∀ s ∈ [0, 8, 16, 24], s % 32 = s := by decide
    exact h1 s hs
  rw [Int32.toUInt32_and, UInt32.toNat_and]
  show ((v.toUInt32 >>> ((Int32.ofNat s).toUInt32 &&& Int32.toUInt32 31)).toNat &&& 255) = _
  rw [UInt32.toNat_shiftRight, h, h2, Nat.shiftRight_eq_div_pow, show (255 : Nat) = 2 ^ 8 - 1 from rfl, Nat.and_two_pow_sub_one_eq_mod]
  rfl
theorem by_c {v : Int32} {s : Nat} (hs : s ∈ [0, 8, 16, 24]) : vp_nar .char (((v.toUInt32 >>> ((Int32.ofNat s).toUInt32 &&& Int32.toUInt32 31)).toInt32 &&& Int32.ofNat 255).toUInt32 % 65536).toInt32 = Int32.ofNat (by4 v s) := by
  have h := by_u (v := v) hs
  generalize ((v.toUInt32 >>> ((Int32.ofNat s).toUInt32 &&& Int32.toUInt32 31)).toInt32 &&& Int32.ofNat 255).toUInt32 = x at h
  have hl := by4_lt (v := v) (s := s)
  have hx : x = UInt32.ofNat (by4 v s) := UInt32.toNat_inj.mp (by rw [h, UInt32.toNat_ofNat_of_lt' (by show _ < 4294967296; omega)])
  rw [hx]
  have h0 : ∀ k ∈ List.range 256, vp_nar .char (UInt32.ofNat k % 65536).toInt32 = Int32.ofNat k := by decide +kernel
  exact h0 _ (List.mem_range.mpr hl)
theorem by_i {v : Int32} : v.toInt = (v.toUInt32.toNat : Int) ∨ v.toInt = (v.toUInt32.toNat : Int) - 4294967296 := by
  have h := BitVec.toInt_eq_toNat_cond v.toBitVec
  have h1 : v.toInt = v.toBitVec.toInt := rfl
  rw [h1, h]
  split
  · exact .inl rfl
  · exact .inr rfl
theorem by_s {v : Int32} {s : Nat} (hs : s ∈ [0, 8, 16, 24]) : (v >>> (Int32.ofNat s &&& 31)).toInt = v.toInt / (2 ^ s : Nat) := by
  have h : ∀ s ∈ [0, 8, 16, 24], ((Int32.ofNat s &&& 31).toBitVec.smod 32).toNat = s := by decide +kernel
  have h1 : (v >>> (Int32.ofNat s &&& 31)).toInt = (v.toBitVec.sshiftRight ((Int32.ofNat s &&& 31).toBitVec.smod 32).toNat).toInt := rfl
  rw [h1, h s hs, BitVec.toInt_sshiftRight, Int.shiftRight_eq_div_pow]
  rfl
theorem by_b {v : Int32} {s : Nat} (hs : s ∈ [0, 8, 16, 24]) : vp_nar .byte (v >>> (Int32.ofNat s &&& 31)).toInt8.toInt32 = sx (by4 v s) := by
  have h0 : vp_nar .byte (v >>> (Int32.ofNat s &&& 31)).toInt8.toInt32 = (v >>> (Int32.ofNat s &&& 31)).toInt8.toInt32.toInt8.toInt32 := rfl
  rw [h0]
  refine Int32.toInt_inj.mp ?_
  rw [sx_t by4_lt, Int8.toInt_toInt32, Int32.toInt_toInt8, Int8.toInt_toInt32, Int32.toInt_toInt8, by_s hs, Int.bmod_def, Int.bmod_def]
  unfold by4
  have hi := by_i (v := v)
  simp only [List.mem_cons, List.not_mem_nil, or_false] at hs
  rcases hs with rfl | rfl | rfl | rfl
  all_goals (simp only [Nat.reducePow]; omega)
end
section
/-! FUNCTIONAL: the class's add, cut, feed, end -/
/-- the bytes with four more behind c -/
def tb4 (tb : Nat → Nat) (c : Nat) (v : Int32) (i : Nat) : Nat := if i < c then tb i else by4 v (24 - 8 * (i - c))
theorem tb4_lt {tb : Nat → Nat} {c i : Nat} {v : Int32} (h : ∀ i, i < c → tb i < 256) : tb4 tb c v i < 256 := by
  unfold tb4
  split
  · exact h i (by assumption)
  · exact by4_lt
theorem tb4_at {G : eg_G} {ta c : Nat} {tb : Nat → Nat} {v : Int32} (h : ∀ i, i < c → et_pl (eg_at G ta) i = some (.int (Int32.ofNat (tb i)))) (h0 : et_pl (eg_at G ta) c = some (.int (Int32.ofNat (by4 v 24)))) (h1 : et_pl (eg_at G ta) (c + 1) = some (.int (Int32.ofNat (by4 v 16)))) (h2 : et_pl (eg_at G ta) (c + 2) = some (.int (Int32.ofNat (by4 v 8)))) (h3 : et_pl (eg_at G ta) (c + 3) = some (.int (Int32.ofNat (by4 v 0)))) : ∀ i, i < c + 4 → et_pl (eg_at G ta) i = some (.int (Int32.ofNat (tb4 tb c v i))) := fun i hi => by
  unfold tb4
  by_cases hc : i < c
  · rw [if_pos hc]
    exact h i hc
  · rw [if_neg hc]
    rcases (by omega : i = c ∨ i = c + 1 ∨ i = c + 2 ∨ i = c + 3) with rfl | rfl | rfl | rfl
    · rw [Nat.sub_self]
      exact h0
    · rw [show 24 - 8 * (c + 1 - c) = 16 by omega]
      exact h1
    · rw [show 24 - 8 * (c + 2 - c) = 8 by omega]
      exact h2
    · rw [show 24 - 8 * (c + 3 - c) = 0 by omega]
      exact h3
section FEA
variable {K : et_K} {G G0 : eg_G} {d2 d th rd ta c : Nat} {tb : Nat → Nat} {v x1 x2 x3 x4 x5 : Int32}

theorem fc_add (hH : et_H et_TT K G) (k_rd : K rd = some 7) (r0 : et_pl (eg_at G rd) 0 = some (.ref ta)) (k_ta : K ta = some 33) (r1 : et_pl (eg_at G rd) 1 = some (.int (Int32.ofNat c))) (hc : c + 4 ≤ 400) (ht : ∀ i, i < c → et_pl (eg_at G ta) i = some (.int (Int32.ofNat (tb i)))) : et_go none d2 64 0 (eg_en (eg_mL 64) [.ref rd, .int v]) [] G 0 0 (xw_Z (fun b j => (b = rd ∧ j = 1) ∨ (b = ta ∧ (c ≤ j ∧ j ≤ c + 3))) K G (fun G' r => r = none ∧ et_pl (eg_at G' rd) 1 = some (.int (Int32.ofNat (c + 4))) ∧ ∀ i, i < c + 4 → et_pl (eg_at G' ta) i = some (.int (Int32.ofNat (tb4 tb c v i))))) := by
  rw [show eg_mL 64 = 3 from by decide +kernel]
  show et_go none d2 64 0 [some (.ref rd), some (.int v), none] [] G 0 0 _
  have lt_rd := (hH.2.2 _ _ k_rd).1
  have lt_ta := (hH.2.2 _ _ k_ta).1
  have hX : xf (fun b j => (b = rd ∧ j = 1) ∨ (b = ta ∧ (c ≤ j ∧ j ≤ c + 3))) G G := xf.rf
  refine hs_k (x := Int32.ofNat 24) (p := 2) (by decide +kernel) ?_
  refine hs_istore (i := 2) (p := 3) (by decide +kernel) (Nat.le_of_ble_eq_true rfl) ?_
  refine hs_iload (i := 2) (p := 4) (by decide +kernel) rfl ?_
  refine hs_if0 (c := .lt) (t := 50) (f := 7) (by decide +kernel) (show ¬ (Int32.ofNat 24 < 0) by decide) ?_
  refine hs_aload (i := 0) (p := 8) (by decide +kernel) rfl ?_
  refine hf_get (T := et_TT) (t := 7) (ci := 5) (f := 1) (p := 11) (by decide +kernel) rfl hH k_rd r1 ?_
  refine hs_k (x := Int32.ofNat 400) (p := 14) (by decide +kernel) ?_
  refine hs_br2n (c := .ge) (t := 50) (f := 17) (by decide +kernel) (by omega) (by omega) (fun (c14 : 400 ≤ c) => ?_) (fun (c14 : ¬ (400 ≤ c)) => ?_)
  · exact absurd c14 (by omega)
  · refine hs_aload (i := 0) (p := 18) (by decide +kernel) rfl ?_
    refine hf_get (T := et_TT) (t := 7) (ci := 5) (f := 0) (p := 21) (by decide +kernel) rfl hH k_rd r0 ?_
    refine hs_aload (i := 0) (p := 22) (by decide +kernel) rfl ?_
    refine hf_get (T := et_TT) (t := 7) (ci := 5) (f := 1) (p := 25) (by decide +kernel) rfl hH k_rd r1 ?_
    refine hs_iload (i := 1) (p := 26) (by decide +kernel) rfl ?_
    refine hs_iload (i := 2) (p := 27) (by decide +kernel) rfl ?_
    refine hs_st (ins := .iushr) (len := 1) (p := 28) (by decide +kernel) rfl rfl ?_
    refine hs_k (x := Int32.ofNat 255) (p := 31) (by decide +kernel) ?_
    refine hs_st (ins := .iand) (len := 1) (p := 32) (by decide +kernel) rfl rfl ?_
    refine hs_st (ins := .i2c) (len := 1) (p := 33) (by decide +kernel) rfl rfl ?_
    refine hf_cst (T := et_TT) (t := 33) (N := 400) (p := 34) (by decide +kernel) rfl rfl (by_c (by decide)) hH k_ta (by omega) (by decide) (fun s hs => absurd hs List.not_mem_nil) (fun G33 hH x33 e33 => ?_)
    have r0 := (x33.2 rd 0 lt_rd (fun h => (hi_ne k_rd k_ta (by decide)) h.1)).trans r0
    have r1 := (x33.2 rd 1 lt_rd (fun h => (hi_ne k_rd k_ta (by decide)) h.1)).trans r1
    have ht : ∀ i, i < c → et_pl (eg_at G33 ta) i = some (.int (Int32.ofNat (tb i))) := fun i hi => (x33.2 ta i lt_ta (fun h => by have h := h.2; omega)).trans (ht i hi)
    have lt_rd := Nat.lt_of_lt_of_le lt_rd x33.1
    have lt_ta := Nat.lt_of_lt_of_le lt_ta x33.1
    have hX := hX.tr x33 (fun b j hb h => by first | omega | (dsimp only at h ⊢; omega) | (dsimp only at h; omega) | (dsimp only; omega))
    refine hs_aload (i := 0) (p := 35) (by decide +kernel) rfl ?_
    refine hs_dup1 (p := 36) (by decide +kernel) ?_
    refine hf_get (T := et_TT) (t := 7) (ci := 5) (f := 1) (p := 39) (by decide +kernel) rfl hH k_rd r1 ?_
    refine hs_k (x := Int32.ofNat 1) (p := 40) (by decide +kernel) ?_
    refine hs_iaddn (p := 41) (by decide +kernel) ?_
    refine hf_put (T := et_TT) (t := 7) (ci := 5) (f := 1) (p := 44) (ty := .int) (by decide +kernel) rfl rfl rfl rfl rfl hH k_rd (hi_nv (by omega) (by omega)) (fun G41 hH x41 e41 => ?_)
    have r0 := (x41.2 rd 0 lt_rd (fun h => absurd h.2 (by decide))).trans r0
    have e33 := (x41.2 ta c lt_ta (fun h => (hi_ne k_ta k_rd (by decide)) h.1)).trans e33
    have ht : ∀ i, i < c → et_pl (eg_at G41 ta) i = some (.int (Int32.ofNat (tb i))) := fun i hi => (x41.2 ta i lt_ta (fun h => (hi_ne k_ta k_rd (by decide)) h.1)).trans (ht i hi)
    have lt_rd := Nat.lt_of_lt_of_le lt_rd x41.1
    have lt_ta := Nat.lt_of_lt_of_le lt_ta x41.1
    have hX := hX.tr x41 (fun b j hb h => by first | omega | (dsimp only at h ⊢; omega) | (dsimp only at h; omega) | (dsimp only; omega))
    refine hs_iinc (i := 2) (n := (-8)) (p := 47) (by decide +kernel) rfl (Nat.le_of_ble_eq_true rfl) ?_
    refine hs_goto (p := 3) (by decide +kernel) ?_
    have e33_24 := e33
    rw [show (Int32.ofNat 24 + Int32.ofInt (-8)) = Int32.ofNat 16 from by decide]
    refine hs_iload (i := 2) (p := 4) (by decide +kernel) rfl ?_
    refine hs_if0 (c := .lt) (t := 50) (f := 7) (by decide +kernel) (show ¬ (Int32.ofNat 16 < 0) by decide) ?_
    refine hs_aload (i := 0) (p := 8) (by decide +kernel) rfl ?_
    refine hf_get (T := et_TT) (t := 7) (ci := 5) (f := 1) (p := 11) (by decide +kernel) rfl hH k_rd e41 ?_
    refine hs_k (x := Int32.ofNat 400) (p := 14) (by decide +kernel) ?_
    refine hs_br2n (c := .ge) (t := 50) (f := 17) (by decide +kernel) (by omega) (by omega) (fun (c14 : 400 ≤ (c + 1)) => ?_) (fun (c14 : ¬ (400 ≤ (c + 1))) => ?_)
    · exact absurd c14 (by omega)
    · refine hs_aload (i := 0) (p := 18) (by decide +kernel) rfl ?_
      refine hf_get (T := et_TT) (t := 7) (ci := 5) (f := 0) (p := 21) (by decide +kernel) rfl hH k_rd r0 ?_
      refine hs_aload (i := 0) (p := 22) (by decide +kernel) rfl ?_
      refine hf_get (T := et_TT) (t := 7) (ci := 5) (f := 1) (p := 25) (by decide +kernel) rfl hH k_rd e41 ?_
      refine hs_iload (i := 1) (p := 26) (by decide +kernel) rfl ?_
      refine hs_iload (i := 2) (p := 27) (by decide +kernel) rfl ?_
      refine hs_st (ins := .iushr) (len := 1) (p := 28) (by decide +kernel) rfl rfl ?_
      refine hs_k (x := Int32.ofNat 255) (p := 31) (by decide +kernel) ?_
      refine hs_st (ins := .iand) (len := 1) (p := 32) (by decide +kernel) rfl rfl ?_
      refine hs_st (ins := .i2c) (len := 1) (p := 33) (by decide +kernel) rfl rfl ?_
      refine hf_cst (T := et_TT) (t := 33) (N := 400) (p := 34) (by decide +kernel) rfl rfl (by_c (by decide)) hH k_ta (by omega) (by decide) (fun s hs => absurd hs List.not_mem_nil) (fun G33 hH x33 e33 => ?_)
      have r0 := (x33.2 rd 0 lt_rd (fun h => (hi_ne k_rd k_ta (by decide)) h.1)).trans r0
      have e41 := (x33.2 rd 1 lt_rd (fun h => (hi_ne k_rd k_ta (by decide)) h.1)).trans e41
      have e33_24 := (x33.2 ta c lt_ta (fun h => by have h := h.2; omega)).trans e33_24
      have ht : ∀ i, i < c → et_pl (eg_at G33 ta) i = some (.int (Int32.ofNat (tb i))) := fun i hi => (x33.2 ta i lt_ta (fun h => by have h := h.2; omega)).trans (ht i hi)
      have lt_rd := Nat.lt_of_lt_of_le lt_rd x33.1
      have lt_ta := Nat.lt_of_lt_of_le lt_ta x33.1
      have hX := hX.tr x33 (fun b j hb h => by first | omega | (dsimp only at h ⊢; omega) | (dsimp only at h; omega) | (dsimp only; omega))
      refine hs_aload (i := 0) (p := 35) (by decide +kernel) rfl ?_
      refine hs_dup1 (p := 36) (by decide +kernel) ?_
      refine hf_get (T := et_TT) (t := 7) (ci := 5) (f := 1) (p := 39) (by decide +kernel) rfl hH k_rd e41 ?_
      refine hs_k (x := Int32.ofNat 1) (p := 40) (by decide +kernel) ?_
      refine hs_iaddn (p := 41) (by decide +kernel) ?_
      refine hf_put (T := et_TT) (t := 7) (ci := 5) (f := 1) (p := 44) (ty := .int) (by decide +kernel) rfl rfl rfl rfl rfl hH k_rd (hi_nv (by omega) (by omega)) (fun G41 hH x41 e41 => ?_)
      have r0 := (x41.2 rd 0 lt_rd (fun h => absurd h.2 (by decide))).trans r0
      have e33_24 := (x41.2 ta c lt_ta (fun h => (hi_ne k_ta k_rd (by decide)) h.1)).trans e33_24
      have e33 := (x41.2 ta (c + 1) lt_ta (fun h => (hi_ne k_ta k_rd (by decide)) h.1)).trans e33
      have ht : ∀ i, i < c → et_pl (eg_at G41 ta) i = some (.int (Int32.ofNat (tb i))) := fun i hi => (x41.2 ta i lt_ta (fun h => (hi_ne k_ta k_rd (by decide)) h.1)).trans (ht i hi)
      have lt_rd := Nat.lt_of_lt_of_le lt_rd x41.1
      have lt_ta := Nat.lt_of_lt_of_le lt_ta x41.1
      have hX := hX.tr x41 (fun b j hb h => by first | omega | (dsimp only at h ⊢; omega) | (dsimp only at h; omega) | (dsimp only; omega))
      refine hs_iinc (i := 2) (n := (-8)) (p := 47) (by decide +kernel) rfl (Nat.le_of_ble_eq_true rfl) ?_
      refine hs_goto (p := 3) (by decide +kernel) ?_
      have e33_16 := e33
      rw [show (Int32.ofNat 16 + Int32.ofInt (-8)) = Int32.ofNat 8 from by decide]
      refine hs_iload (i := 2) (p := 4) (by decide +kernel) rfl ?_
      refine hs_if0 (c := .lt) (t := 50) (f := 7) (by decide +kernel) (show ¬ (Int32.ofNat 8 < 0) by decide) ?_
      refine hs_aload (i := 0) (p := 8) (by decide +kernel) rfl ?_
      refine hf_get (T := et_TT) (t := 7) (ci := 5) (f := 1) (p := 11) (by decide +kernel) rfl hH k_rd e41 ?_
      refine hs_k (x := Int32.ofNat 400) (p := 14) (by decide +kernel) ?_
      refine hs_br2n (c := .ge) (t := 50) (f := 17) (by decide +kernel) (by omega) (by omega) (fun (c14 : 400 ≤ ((c + 1) + 1)) => ?_) (fun (c14 : ¬ (400 ≤ ((c + 1) + 1))) => ?_)
      · exact absurd c14 (by omega)
      · refine hs_aload (i := 0) (p := 18) (by decide +kernel) rfl ?_
        refine hf_get (T := et_TT) (t := 7) (ci := 5) (f := 0) (p := 21) (by decide +kernel) rfl hH k_rd r0 ?_
        refine hs_aload (i := 0) (p := 22) (by decide +kernel) rfl ?_
        refine hf_get (T := et_TT) (t := 7) (ci := 5) (f := 1) (p := 25) (by decide +kernel) rfl hH k_rd e41 ?_
        refine hs_iload (i := 1) (p := 26) (by decide +kernel) rfl ?_
        refine hs_iload (i := 2) (p := 27) (by decide +kernel) rfl ?_
        refine hs_st (ins := .iushr) (len := 1) (p := 28) (by decide +kernel) rfl rfl ?_
        refine hs_k (x := Int32.ofNat 255) (p := 31) (by decide +kernel) ?_
        refine hs_st (ins := .iand) (len := 1) (p := 32) (by decide +kernel) rfl rfl ?_
        refine hs_st (ins := .i2c) (len := 1) (p := 33) (by decide +kernel) rfl rfl ?_
        refine hf_cst (T := et_TT) (t := 33) (N := 400) (p := 34) (by decide +kernel) rfl rfl (by_c (by decide)) hH k_ta (by omega) (by decide) (fun s hs => absurd hs List.not_mem_nil) (fun G33 hH x33 e33 => ?_)
        have r0 := (x33.2 rd 0 lt_rd (fun h => (hi_ne k_rd k_ta (by decide)) h.1)).trans r0
        have e41 := (x33.2 rd 1 lt_rd (fun h => (hi_ne k_rd k_ta (by decide)) h.1)).trans e41
        have e33_24 := (x33.2 ta c lt_ta (fun h => by have h := h.2; omega)).trans e33_24
        have e33_16 := (x33.2 ta (c + 1) lt_ta (fun h => by have h := h.2; omega)).trans e33_16
        have ht : ∀ i, i < c → et_pl (eg_at G33 ta) i = some (.int (Int32.ofNat (tb i))) := fun i hi => (x33.2 ta i lt_ta (fun h => by have h := h.2; omega)).trans (ht i hi)
        have lt_rd := Nat.lt_of_lt_of_le lt_rd x33.1
        have lt_ta := Nat.lt_of_lt_of_le lt_ta x33.1
        have hX := hX.tr x33 (fun b j hb h => by first | omega | (dsimp only at h ⊢; omega) | (dsimp only at h; omega) | (dsimp only; omega))
        refine hs_aload (i := 0) (p := 35) (by decide +kernel) rfl ?_
        refine hs_dup1 (p := 36) (by decide +kernel) ?_
        refine hf_get (T := et_TT) (t := 7) (ci := 5) (f := 1) (p := 39) (by decide +kernel) rfl hH k_rd e41 ?_
        refine hs_k (x := Int32.ofNat 1) (p := 40) (by decide +kernel) ?_
        refine hs_iaddn (p := 41) (by decide +kernel) ?_
        refine hf_put (T := et_TT) (t := 7) (ci := 5) (f := 1) (p := 44) (ty := .int) (by decide +kernel) rfl rfl rfl rfl rfl hH k_rd (hi_nv (by omega) (by omega)) (fun G41 hH x41 e41 => ?_)
        have r0 := (x41.2 rd 0 lt_rd (fun h => absurd h.2 (by decide))).trans r0
        have e33_24 := (x41.2 ta c lt_ta (fun h => (hi_ne k_ta k_rd (by decide)) h.1)).trans e33_24
        have e33_16 := (x41.2 ta (c + 1) lt_ta (fun h => (hi_ne k_ta k_rd (by decide)) h.1)).trans e33_16
        have e33 := (x41.2 ta ((c + 1) + 1) lt_ta (fun h => (hi_ne k_ta k_rd (by decide)) h.1)).trans e33
        have ht : ∀ i, i < c → et_pl (eg_at G41 ta) i = some (.int (Int32.ofNat (tb i))) := fun i hi => (x41.2 ta i lt_ta (fun h => (hi_ne k_ta k_rd (by decide)) h.1)).trans (ht i hi)
        have lt_rd := Nat.lt_of_lt_of_le lt_rd x41.1
        have lt_ta := Nat.lt_of_lt_of_le lt_ta x41.1
        have hX := hX.tr x41 (fun b j hb h => by first | omega | (dsimp only at h ⊢; omega) | (dsimp only at h; omega) | (dsimp only; omega))
        refine hs_iinc (i := 2) (n := (-8)) (p := 47) (by decide +kernel) rfl (Nat.le_of_ble_eq_true rfl) ?_
        refine hs_goto (p := 3) (by decide +kernel) ?_
        have e33_8 := e33
        rw [show (Int32.ofNat 8 + Int32.ofInt (-8)) = Int32.ofNat 0 from by decide]
        refine hs_iload (i := 2) (p := 4) (by decide +kernel) rfl ?_
        refine hs_if0 (c := .lt) (t := 50) (f := 7) (by decide +kernel) (show ¬ (Int32.ofNat 0 < 0) by decide) ?_
        refine hs_aload (i := 0) (p := 8) (by decide +kernel) rfl ?_
        refine hf_get (T := et_TT) (t := 7) (ci := 5) (f := 1) (p := 11) (by decide +kernel) rfl hH k_rd e41 ?_
        refine hs_k (x := Int32.ofNat 400) (p := 14) (by decide +kernel) ?_
        refine hs_br2n (c := .ge) (t := 50) (f := 17) (by decide +kernel) (by omega) (by omega) (fun (c14 : 400 ≤ (((c + 1) + 1) + 1)) => ?_) (fun (c14 : ¬ (400 ≤ (((c + 1) + 1) + 1))) => ?_)
        · exact absurd c14 (by omega)
        · refine hs_aload (i := 0) (p := 18) (by decide +kernel) rfl ?_
          refine hf_get (T := et_TT) (t := 7) (ci := 5) (f := 0) (p := 21) (by decide +kernel) rfl hH k_rd r0 ?_
          refine hs_aload (i := 0) (p := 22) (by decide +kernel) rfl ?_
          refine hf_get (T := et_TT) (t := 7) (ci := 5) (f := 1) (p := 25) (by decide +kernel) rfl hH k_rd e41 ?_
          refine hs_iload (i := 1) (p := 26) (by decide +kernel) rfl ?_
          refine hs_iload (i := 2) (p := 27) (by decide +kernel) rfl ?_
          refine hs_st (ins := .iushr) (len := 1) (p := 28) (by decide +kernel) rfl rfl ?_
          refine hs_k (x := Int32.ofNat 255) (p := 31) (by decide +kernel) ?_
          refine hs_st (ins := .iand) (len := 1) (p := 32) (by decide +kernel) rfl rfl ?_
          refine hs_st (ins := .i2c) (len := 1) (p := 33) (by decide +kernel) rfl rfl ?_
          refine hf_cst (T := et_TT) (t := 33) (N := 400) (p := 34) (by decide +kernel) rfl rfl (by_c (by decide)) hH k_ta (by omega) (by decide) (fun s hs => absurd hs List.not_mem_nil) (fun G33 hH x33 e33 => ?_)
          have r0 := (x33.2 rd 0 lt_rd (fun h => (hi_ne k_rd k_ta (by decide)) h.1)).trans r0
          have e41 := (x33.2 rd 1 lt_rd (fun h => (hi_ne k_rd k_ta (by decide)) h.1)).trans e41
          have e33_24 := (x33.2 ta c lt_ta (fun h => by have h := h.2; omega)).trans e33_24
          have e33_16 := (x33.2 ta (c + 1) lt_ta (fun h => by have h := h.2; omega)).trans e33_16
          have e33_8 := (x33.2 ta ((c + 1) + 1) lt_ta (fun h => by have h := h.2; omega)).trans e33_8
          have ht : ∀ i, i < c → et_pl (eg_at G33 ta) i = some (.int (Int32.ofNat (tb i))) := fun i hi => (x33.2 ta i lt_ta (fun h => by have h := h.2; omega)).trans (ht i hi)
          have lt_rd := Nat.lt_of_lt_of_le lt_rd x33.1
          have lt_ta := Nat.lt_of_lt_of_le lt_ta x33.1
          have hX := hX.tr x33 (fun b j hb h => by first | omega | (dsimp only at h ⊢; omega) | (dsimp only at h; omega) | (dsimp only; omega))
          refine hs_aload (i := 0) (p := 35) (by decide +kernel) rfl ?_
          refine hs_dup1 (p := 36) (by decide +kernel) ?_
          refine hf_get (T := et_TT) (t := 7) (ci := 5) (f := 1) (p := 39) (by decide +kernel) rfl hH k_rd e41 ?_
          refine hs_k (x := Int32.ofNat 1) (p := 40) (by decide +kernel) ?_
          refine hs_iaddn (p := 41) (by decide +kernel) ?_
          refine hf_put (T := et_TT) (t := 7) (ci := 5) (f := 1) (p := 44) (ty := .int) (by decide +kernel) rfl rfl rfl rfl rfl hH k_rd (hi_nv (by omega) (by omega)) (fun G41 hH x41 e41 => ?_)
          have r0 := (x41.2 rd 0 lt_rd (fun h => absurd h.2 (by decide))).trans r0
          have e33_24 := (x41.2 ta c lt_ta (fun h => (hi_ne k_ta k_rd (by decide)) h.1)).trans e33_24
          have e33_16 := (x41.2 ta (c + 1) lt_ta (fun h => (hi_ne k_ta k_rd (by decide)) h.1)).trans e33_16
          have e33_8 := (x41.2 ta ((c + 1) + 1) lt_ta (fun h => (hi_ne k_ta k_rd (by decide)) h.1)).trans e33_8
          have e33 := (x41.2 ta (((c + 1) + 1) + 1) lt_ta (fun h => (hi_ne k_ta k_rd (by decide)) h.1)).trans e33
          have ht : ∀ i, i < c → et_pl (eg_at G41 ta) i = some (.int (Int32.ofNat (tb i))) := fun i hi => (x41.2 ta i lt_ta (fun h => (hi_ne k_ta k_rd (by decide)) h.1)).trans (ht i hi)
          have lt_rd := Nat.lt_of_lt_of_le lt_rd x41.1
          have lt_ta := Nat.lt_of_lt_of_le lt_ta x41.1
          have hX := hX.tr x41 (fun b j hb h => by first | omega | (dsimp only at h ⊢; omega) | (dsimp only at h; omega) | (dsimp only; omega))
          refine hs_iinc (i := 2) (n := (-8)) (p := 47) (by decide +kernel) rfl (Nat.le_of_ble_eq_true rfl) ?_
          refine hs_goto (p := 3) (by decide +kernel) ?_
          have e33_0 := e33
          refine hs_iload (i := 2) (p := 4) (by decide +kernel) rfl ?_
          refine hs_if1 (c := .lt) (t := 50) (f := 7) (by decide +kernel) (show (Int32.ofNat 0 + Int32.ofInt (-8)) < 0 by decide) ?_
          refine hs_vret (by decide +kernel) ?_
          exact ⟨_, _, rfl, hH, hX, rfl, e41, tb4_at ht e33_24 e33_16 e33_8 e33_0⟩
theorem fc_room (hH : et_H et_TT K G) (k_rd : K rd = some 7) (r0 : et_pl (eg_at G rd) 0 = some (.ref ta)) (k_ta : K ta = some 33) (r1 : et_pl (eg_at G rd) 1 = some (.int (Int32.ofNat c))) (hc : c ≤ 400) : et_go none d2 63 0 (eg_en (eg_mL 63) [.ref rd, .int (Int32.ofNat 20)]) [] G 0 0 (xp_Z G (some (.int (Int32.ofNat (if c + 20 ≤ 400 then 1 else 0))))) := by
  rw [show eg_mL 63 = 2 from by decide +kernel]
  show et_go none d2 63 0 [some (.ref rd), some (.int (Int32.ofNat 20))] [] G 0 0 _
  have lt_rd := (hH.2.2 _ _ k_rd).1
  have lt_ta := (hH.2.2 _ _ k_ta).1
  refine hs_aload (i := 0) (p := 1) (by decide +kernel) rfl ?_
  refine hf_get (T := et_TT) (t := 7) (ci := 5) (f := 1) (p := 4) (by decide +kernel) rfl hH k_rd r1 ?_
  refine hs_iload (i := 1) (p := 5) (by decide +kernel) rfl ?_
  refine hs_iaddn (p := 6) (by decide +kernel) ?_
  refine hs_k (x := Int32.ofNat 400) (p := 9) (by decide +kernel) ?_
  refine hs_br2n (c := .gt) (t := 16) (f := 12) (by decide +kernel) (by omega) (by omega) (fun (c9 : 400 < (c + 20)) => ?_) (fun (c9 : ¬ (400 < (c + 20))) => ?_)
  · refine hs_k (x := Int32.ofNat 0) (p := 17) (by decide +kernel) ?_
    refine hs_zret (by decide +kernel) (.inl rfl) ?_
    rw [if_neg (by omega)]
    rfl
  · refine hs_k (x := Int32.ofNat 1) (p := 13) (by decide +kernel) ?_
    refine hs_goto (p := 17) (by decide +kernel) ?_
    refine hs_zret (by decide +kernel) (.inr rfl) ?_
    rw [if_pos (by omega)]
    rfl
theorem fc_feed (hH : et_H et_TT K G) (k_rd : K rd = some 7) (r0 : et_pl (eg_at G rd) 0 = some (.ref ta)) (k_ta : K ta = some 33) (r1 : et_pl (eg_at G rd) 1 = some (.int (Int32.ofNat c))) (ht : ∀ i, i < c → et_pl (eg_at G ta) i = some (.int (Int32.ofNat (tb i)))) (k_th : K th = some 12) (h3 : et_pl (eg_at G th) 3 = some (.ref rd)) (hc : c ≤ 400) (hd : 1 ≤ d2) : et_go none d2 116 0 (eg_en (eg_mL 116) [.ref th, .int x1, .int x2, .int x3, .int x4, .int x5]) [] G 0 0 (xw_Z (fun b j => (b = rd ∧ j = 1) ∨ (b = ta ∧ (c ≤ j ∧ j ≤ c + 19))) K G (fun G' r => (¬ c + 20 ≤ 400 ∧ r = some (.int (-1)) ∧ et_pl (eg_at G' rd) 1 = some (.int (Int32.ofNat c)) ∧ ∀ i, i < c → et_pl (eg_at G' ta) i = some (.int (Int32.ofNat (tb i)))) ∨ (c + 20 ≤ 400 ∧ r = some (.int (Int32.ofNat (c + 4 + 4 + 4 + 4 + 4))) ∧ et_pl (eg_at G' rd) 1 = some (.int (Int32.ofNat (c + 4 + 4 + 4 + 4 + 4))) ∧ ∀ i, i < c + 4 + 4 + 4 + 4 + 4 → et_pl (eg_at G' ta) i = some (.int (Int32.ofNat ((tb4 (tb4 (tb4 (tb4 (tb4 tb c x1) (c + 4) x2) (c + 4 + 4) x3) (c + 4 + 4 + 4) x4) (c + 4 + 4 + 4 + 4) x5) i)))))) := by
  obtain ⟨d, rfl⟩ : ∃ d, d2 = d + 1 := ⟨d2 - 1, by omega⟩
  rw [show eg_mL 116 = 6 from by decide +kernel]
  show et_go none (d + 1) 116 0 [some (.ref th), some (.int x1), some (.int x2), some (.int x3), some (.int x4), some (.int x5)] [] G 0 0 (xw_Z _ _ _ _)
  have lt_th := (hH.2.2 _ _ k_th).1
  have lt_rd := (hH.2.2 _ _ k_rd).1
  have lt_ta := (hH.2.2 _ _ k_ta).1
  have hX : xf (fun b j => (b = rd ∧ j = 1) ∨ (b = ta ∧ (c ≤ j ∧ j ≤ c + 19))) G G := xf.rf
  refine hs_aload (i := 0) (p := 1) (by decide +kernel) rfl ?_
  refine hf_get (T := et_TT) (t := 12) (ci := 10) (f := 3) (p := 4) (by decide +kernel) rfl hH k_th h3 ?_
  refine hs_k (x := Int32.ofNat 20) (p := 6) (by decide +kernel) ?_
  refine ht_callv (T := et_TT) (t := 7) (mi := 63) (na := 1) (ci := 5) (lk := 6) (lm := 2) (L0 := eg_en (eg_mL 63) [.ref rd, .int (Int32.ofNat 20)]) (by decide +kernel) rfl hH k_rd rfl rfl rfl rfl rfl (by rw [show eg_mL 63 = 2 from by decide +kernel]; first | done | rfl) ?_
  refine (fc_room hH k_rd r0 k_ta r1 hc).mono (fun u hu => xp_cb hu ?_)
  by_cases rm : c + 20 ≤ 400
  · rw [if_pos rm]
    show et_go none _ 116 9 _ [.int (Int32.ofNat 1)] _ _ _ _
    refine hs_if1 (c := .ne) (t := 14) (f := 12) (by decide +kernel) (show ¬ Int32.ofNat 1 = 0 by decide) ?_
    refine hs_aload (i := 0) (p := 15) (by decide +kernel) rfl ?_
    refine hf_get (T := et_TT) (t := 12) (ci := 10) (f := 3) (p := 18) (by decide +kernel) rfl hH k_th h3 ?_
    refine hs_iload (i := 1) (p := 19) (by decide +kernel) rfl ?_
    refine ht_callv (T := et_TT) (t := 7) (mi := 64) (na := 1) (ci := 5) (lk := 6) (lm := 3) (L0 := eg_en (eg_mL 64) [.ref rd, .int x1]) (by decide +kernel) rfl hH k_rd rfl rfl rfl rfl rfl (by rw [show eg_mL 64 = 3 from by decide +kernel]; first | done | rfl) ?_
    refine (fc_add (v := x1) hH k_rd r0 k_ta r1 (by omega) ht).mono (fun u hu => xw_cb hu (fun G19 v19 hH x19 hP19 => ?_))
    have h3 := (x19.2 th 3 lt_th (fun h => Or.elim h (fun h => (hi_ne k_th k_rd (by decide)) h.1) (fun h => (hi_ne k_th k_ta (by decide)) h.1))).trans h3
    have r0 := (x19.2 rd 0 lt_rd (fun h => Or.elim h (fun h => absurd h.2 (by decide)) (fun h => (hi_ne k_rd k_ta (by decide)) h.1))).trans r0
    have lt_th := Nat.lt_of_lt_of_le lt_th x19.1
    have lt_rd := Nat.lt_of_lt_of_le lt_rd x19.1
    have lt_ta := Nat.lt_of_lt_of_le lt_ta x19.1
    have hX := hX.tr x19 (fun b j hb h => by first | omega | (dsimp only at h ⊢; omega) | (dsimp only at h; omega) | (dsimp only; omega))
    obtain ⟨rfl, q19, ht⟩ := hP19
    show et_go none _ 116 22 _ [] _ _ _ _
    refine hs_aload (i := 0) (p := 23) (by decide +kernel) rfl ?_
    refine hf_get (T := et_TT) (t := 12) (ci := 10) (f := 3) (p := 26) (by decide +kernel) rfl hH k_th h3 ?_
    refine hs_iload (i := 2) (p := 27) (by decide +kernel) rfl ?_
    refine ht_callv (T := et_TT) (t := 7) (mi := 64) (na := 1) (ci := 5) (lk := 6) (lm := 3) (L0 := eg_en (eg_mL 64) [.ref rd, .int x2]) (by decide +kernel) rfl hH k_rd rfl rfl rfl rfl rfl (by rw [show eg_mL 64 = 3 from by decide +kernel]; first | done | rfl) ?_
    refine (fc_add (v := x2) hH k_rd r0 k_ta q19 (by omega) ht).mono (fun u hu => xw_cb hu (fun G27 v27 hH x27 hP27 => ?_))
    have h3 := (x27.2 th 3 lt_th (fun h => Or.elim h (fun h => (hi_ne k_th k_rd (by decide)) h.1) (fun h => (hi_ne k_th k_ta (by decide)) h.1))).trans h3
    have r0 := (x27.2 rd 0 lt_rd (fun h => Or.elim h (fun h => absurd h.2 (by decide)) (fun h => (hi_ne k_rd k_ta (by decide)) h.1))).trans r0
    have lt_th := Nat.lt_of_lt_of_le lt_th x27.1
    have lt_rd := Nat.lt_of_lt_of_le lt_rd x27.1
    have lt_ta := Nat.lt_of_lt_of_le lt_ta x27.1
    have hX := hX.tr x27 (fun b j hb h => by first | omega | (dsimp only at h ⊢; omega) | (dsimp only at h; omega) | (dsimp only; omega))
    obtain ⟨rfl, q27, ht⟩ := hP27
    show et_go none _ 116 30 _ [] _ _ _ _
    refine hs_aload (i := 0) (p := 31) (by decide +kernel) rfl ?_
    refine hf_get (T := et_TT) (t := 12) (ci := 10) (f := 3) (p := 34) (by decide +kernel) rfl hH k_th h3 ?_
    refine hs_iload (i := 3) (p := 35) (by decide +kernel) rfl ?_
    refine ht_callv (T := et_TT) (t := 7) (mi := 64) (na := 1) (ci := 5) (lk := 6) (lm := 3) (L0 := eg_en (eg_mL 64) [.ref rd, .int x3]) (by decide +kernel) rfl hH k_rd rfl rfl rfl rfl rfl (by rw [show eg_mL 64 = 3 from by decide +kernel]; first | done | rfl) ?_
    refine (fc_add (v := x3) hH k_rd r0 k_ta q27 (by omega) ht).mono (fun u hu => xw_cb hu (fun G35 v35 hH x35 hP35 => ?_))
    have h3 := (x35.2 th 3 lt_th (fun h => Or.elim h (fun h => (hi_ne k_th k_rd (by decide)) h.1) (fun h => (hi_ne k_th k_ta (by decide)) h.1))).trans h3
    have r0 := (x35.2 rd 0 lt_rd (fun h => Or.elim h (fun h => absurd h.2 (by decide)) (fun h => (hi_ne k_rd k_ta (by decide)) h.1))).trans r0
    have lt_th := Nat.lt_of_lt_of_le lt_th x35.1
    have lt_rd := Nat.lt_of_lt_of_le lt_rd x35.1
    have lt_ta := Nat.lt_of_lt_of_le lt_ta x35.1
    have hX := hX.tr x35 (fun b j hb h => by first | omega | (dsimp only at h ⊢; omega) | (dsimp only at h; omega) | (dsimp only; omega))
    obtain ⟨rfl, q35, ht⟩ := hP35
    show et_go none _ 116 38 _ [] _ _ _ _
    refine hs_aload (i := 0) (p := 39) (by decide +kernel) rfl ?_
    refine hf_get (T := et_TT) (t := 12) (ci := 10) (f := 3) (p := 42) (by decide +kernel) rfl hH k_th h3 ?_
    refine hs_iload (i := 4) (p := 44) (by decide +kernel) rfl ?_
    refine ht_callv (T := et_TT) (t := 7) (mi := 64) (na := 1) (ci := 5) (lk := 6) (lm := 3) (L0 := eg_en (eg_mL 64) [.ref rd, .int x4]) (by decide +kernel) rfl hH k_rd rfl rfl rfl rfl rfl (by rw [show eg_mL 64 = 3 from by decide +kernel]; first | done | rfl) ?_
    refine (fc_add (v := x4) hH k_rd r0 k_ta q35 (by omega) ht).mono (fun u hu => xw_cb hu (fun G44 v44 hH x44 hP44 => ?_))
    have h3 := (x44.2 th 3 lt_th (fun h => Or.elim h (fun h => (hi_ne k_th k_rd (by decide)) h.1) (fun h => (hi_ne k_th k_ta (by decide)) h.1))).trans h3
    have r0 := (x44.2 rd 0 lt_rd (fun h => Or.elim h (fun h => absurd h.2 (by decide)) (fun h => (hi_ne k_rd k_ta (by decide)) h.1))).trans r0
    have lt_th := Nat.lt_of_lt_of_le lt_th x44.1
    have lt_rd := Nat.lt_of_lt_of_le lt_rd x44.1
    have lt_ta := Nat.lt_of_lt_of_le lt_ta x44.1
    have hX := hX.tr x44 (fun b j hb h => by first | omega | (dsimp only at h ⊢; omega) | (dsimp only at h; omega) | (dsimp only; omega))
    obtain ⟨rfl, q44, ht⟩ := hP44
    show et_go none _ 116 47 _ [] _ _ _ _
    refine hs_aload (i := 0) (p := 48) (by decide +kernel) rfl ?_
    refine hf_get (T := et_TT) (t := 12) (ci := 10) (f := 3) (p := 51) (by decide +kernel) rfl hH k_th h3 ?_
    refine hs_iload (i := 5) (p := 53) (by decide +kernel) rfl ?_
    refine ht_callv (T := et_TT) (t := 7) (mi := 64) (na := 1) (ci := 5) (lk := 6) (lm := 3) (L0 := eg_en (eg_mL 64) [.ref rd, .int x5]) (by decide +kernel) rfl hH k_rd rfl rfl rfl rfl rfl (by rw [show eg_mL 64 = 3 from by decide +kernel]; first | done | rfl) ?_
    refine (fc_add (v := x5) hH k_rd r0 k_ta q44 (by omega) ht).mono (fun u hu => xw_cb hu (fun G53 v53 hH x53 hP53 => ?_))
    have h3 := (x53.2 th 3 lt_th (fun h => Or.elim h (fun h => (hi_ne k_th k_rd (by decide)) h.1) (fun h => (hi_ne k_th k_ta (by decide)) h.1))).trans h3
    have r0 := (x53.2 rd 0 lt_rd (fun h => Or.elim h (fun h => absurd h.2 (by decide)) (fun h => (hi_ne k_rd k_ta (by decide)) h.1))).trans r0
    have lt_th := Nat.lt_of_lt_of_le lt_th x53.1
    have lt_rd := Nat.lt_of_lt_of_le lt_rd x53.1
    have lt_ta := Nat.lt_of_lt_of_le lt_ta x53.1
    have hX := hX.tr x53 (fun b j hb h => by first | omega | (dsimp only at h ⊢; omega) | (dsimp only at h; omega) | (dsimp only; omega))
    obtain ⟨rfl, q53, ht⟩ := hP53
    show et_go none _ 116 56 _ [] _ _ _ _
    refine hs_aload (i := 0) (p := 57) (by decide +kernel) rfl ?_
    refine hf_get (T := et_TT) (t := 12) (ci := 10) (f := 3) (p := 60) (by decide +kernel) rfl hH k_th h3 ?_
    refine hf_get (T := et_TT) (t := 7) (ci := 5) (f := 1) (p := 63) (by decide +kernel) rfl hH k_rd q53 ?_
    refine hs_iret (by decide +kernel) ?_
    exact ⟨_, _, rfl, hH, hX, .inr ⟨rm, rfl, q53, ht⟩⟩
  · rw [if_neg rm]
    show et_go none _ 116 9 _ [.int (Int32.ofNat 0)] _ _ _ _
    refine hs_if0 (c := .ne) (t := 14) (f := 12) (by decide +kernel) (show ¬ (¬ Int32.ofNat 0 = 0) by decide) ?_
    refine hs_k (x := (-1)) (p := 13) (by decide +kernel) ?_
    refine hs_iret (by decide +kernel) ?_
    exact ⟨_, _, rfl, hH, hX, .inl ⟨rm, rfl, r1, ht⟩⟩
end FEA
end
