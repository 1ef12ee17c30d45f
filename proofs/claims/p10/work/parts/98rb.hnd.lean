/-! FUNCTIONAL: the reference's turner -/
def lnT (G : eg_G) (aw X pl i : Nat) (l : sp_L) : Prop := ∃ s e : Nat, et_pl (eg_at G aw) (X + 1 + 4 * i) = some (.int (Int32.ofNat (if l.1 = true then 0 else 1))) ∧ et_pl (eg_at G aw) (X + 1 + 4 * i + 1) = some (.int (Int32.ofNat l.2.1)) ∧ et_pl (eg_at G aw) (X + 1 + 4 * i + 2) = some (.int (Int32.ofNat s)) ∧ et_pl (eg_at G aw) (X + 1 + 4 * i + 3) = some (.int (Int32.ofNat e)) ∧ e ≤ 400 ∧ s ≤ e ∧ match l.2.2 with
  | none => e = s
  | some f => ∃ C : List (Nat × Nat), e = s + C.length ∧ hasT G aw X s C ∧ dnB pl f C
def tuT (G : eg_G) (aw X pl : Nat) (ls : List sp_L) : Prop := et_pl (eg_at G aw) X = some (.int (Int32.ofNat ls.length)) ∧ ls.length ≤ 10 ∧ ∀ i l, ls[i]? = some l → lnT G aw X pl i l
theorem tuT.mv {G G' : eg_G} {aw X pl : Nat} {ls : List sp_L} {W : Nat → Int32} (eW : eg_at G aw = hm_W W) (h0 : et_pl (eg_at G aw) 11900 = some (.int (Int32.ofNat ls.length))) (hl : ls.length ≤ 10) (hs : lnsP G aw pl 400 ls) (hc : ∀ i v, i < 841 → et_pl (eg_at G aw) (11900 + i) = some v → et_pl (eg_at G' aw) (X + i) = some v) : tuT G' aw X pl ls := by
  refine ⟨hc 0 _ (by decide) h0, hl, fun i l hi => ?_⟩
  have hi2 := (List.getElem?_eq_some_iff.mp hi).1
  obtain ⟨s, e, e0, e1, e2, e3, he, hse, hm⟩ := hs i l hi
  refine ⟨s, e, pl_eq (hc (1 + 4 * i) _ (by omega) (pl_eq e0 (by omega))) (by omega), pl_eq (hc (1 + 4 * i + 1) _ (by omega) (pl_eq e1 (by omega))) (by omega), pl_eq (hc (1 + 4 * i + 2) _ (by omega) (pl_eq e2 (by omega))) (by omega), pl_eq (hc (1 + 4 * i + 3) _ (by omega) (pl_eq e3 (by omega))) (by omega), he, hse, ?_⟩
  cases hl2 : l.2.2 with
  | none =>
    rw [hl2] at hm
    exact hm
  | some f =>
    rw [hl2] at hm
    obtain ⟨C, hC, hc2, hd⟩ := hm
    refine ⟨C, hC, fun j s2 hj => ?_, hd⟩
    obtain ⟨h1, h2⟩ := hc2 j s2 hj
    have hl : 11941 + 2 * (s + j) + 1 < 12741 := hmW_lt (by rw [← eW]; exact h2)
    exact ⟨pl_eq (hc (41 + 2 * (s + j)) _ (by omega) (pl_eq h1 (by omega))) (by omega), pl_eq (hc (41 + 2 * (s + j) + 1) _ (by omega) (pl_eq h2 (by omega))) (by omega)⟩
def tuP (am aw r : Nat) (sp : Option (List sp_L)) (G' : eg_G) (v : Option Value) : Prop :=
  (sp = none ∧ v = some (.int (Int32.ofNat 0)) ∧ et_pl (eg_at G' am) 0 = some (.int (Int32.ofNat 1)) ∧ et_pl (eg_at G' aw) 1 = some (.int (Int32.ofNat r))) ∨
  (r = 4 ∧ ¬ sp = none ∧ v = some (.int (Int32.ofNat 0)) ∧ et_pl (eg_at G' am) 0 = some (.int (Int32.ofNat 2)) ∧ et_pl (eg_at G' aw) 1 = some (.int (Int32.ofNat r))) ∨
  (∃ ls, sp = some ls ∧ r < 4 ∧ v = some (.int (Int32.ofNat r)) ∧ et_pl (eg_at G' am) 0 = some (.int (Int32.ofNat 0)) ∧ et_pl (eg_at G' aw) 1 = some (.int (Int32.ofNat (r + 1))) ∧ tuT G' aw (126 + 841 * (4 + r)) 1 ls)
section FRB
variable {K : et_K} {G G0 : eg_G} {b : Nat → Nat} {d2 d am aw ai tm n p pl k dp m i r : Nat}

theorem fm_turner (hH : et_H et_TT K G) (k_am : K am = some 13) (m4 : et_pl (eg_at G am) 4 = some (.ref tm)) (k_tm : K tm = some 34) (m5 : et_pl (eg_at G am) 5 = some (.int (Int32.ofNat n))) (hn : n ≤ 400) (ht : ∀ i, i < n → et_pl (eg_at G tm) i = some (.int (sx (b i)))) (hb : ∀ i, i < n → b i < 256) (k_aw : K aw = some 46) (m1 : et_pl (eg_at G am) 1 = some (.ref aw)) (w1 : et_pl (eg_at G aw) 1 = some (.int (Int32.ofNat r))) (hr : r ≤ 4) (hd : 35 ≤ d2) : et_go none d2 206 0 (eg_en (eg_mL 206) [.ref am]) [] G 0 0 (xn_Z (fun c j => (c = am ∧ (j = 0 ∨ ((5 ≤ j ∧ j ≤ 10) ∨ (12 ≤ j ∧ j ≤ 13)))) ∨ ((c = aw ∧ (j = 1 ∨ ((126 + 841 * (4 + r) ≤ j ∧ j < 126 + 841 * (4 + r) + 841) ∨ 11900 ≤ j))))) G (tuP am aw r (sp_turner (tz_ts 1 b n 0)))) := by
  obtain ⟨d, rfl⟩ : ∃ d, d2 = d + 35 := ⟨d2 - 35, by omega⟩
  rw [show eg_mL 206 = 1 from by decide +kernel]
  show et_go none (d + 35) 206 0 [some (.ref am)] [] G 0 0 (xn_Z _ _ _)
  have hne : ¬ aw = am := hi_ne k_aw k_am (by decide)
  have lt_am := (hH.2.2 _ _ k_am).1
  have lt_tm := (hH.2.2 _ _ k_tm).1
  have lt_aw := (hH.2.2 _ _ k_aw).1
  have hX : xf (fun c j => (c = am ∧ j = 0) ∨ (c = am ∧ (5 ≤ j ∧ j ≤ 10)) ∨ (c = am ∧ (12 ≤ j ∧ j ≤ 13)) ∨ (c = aw ∧ 11900 ≤ j)) G G := xf.rf
  refine hs_aload (i := 0) (p := 1) (by decide +kernel) rfl ?_
  refine ht_callv (T := et_TT) (t := 13) (mi := 181) (na := 0) (ci := 11) (lk := 1) (lm := 1) (L0 := eg_en (eg_mL 181) [.ref am]) (by decide +kernel) rfl hH k_am rfl rfl rfl rfl rfl (by rw [show eg_mL 181 = 1 from by decide +kernel]; first | done | rfl) ?_
  refine (fm_uses hH k_am hn m5).mono (fun u hu => xw_cb hu (fun G1 v1 hH x1 hP1 => ?_))
  have x1 : xf (fun c j => (c = am ∧ j = 0) ∨ (c = am ∧ (5 ≤ j ∧ j ≤ 7)) ∨ (c = am ∧ j = 12)) _ _ := x1
  have m4 := (x1.2 am 4 lt_am (fun h => Or.elim h (fun h => absurd h.2 (by decide)) (fun h => Or.elim h (fun h => absurd h.2 (by decide)) (fun h => absurd h.2 (by decide))))).trans m4
  have m1 := (x1.2 am 1 lt_am (fun h => Or.elim h (fun h => absurd h.2 (by decide)) (fun h => Or.elim h (fun h => absurd h.2 (by decide)) (fun h => absurd h.2 (by decide))))).trans m1
  have w1 := (x1.2 aw 1 lt_aw (fun h => Or.elim h (fun h => hne h.1) (fun h => Or.elim h (fun h => hne h.1) (fun h => hne h.1)))).trans w1
  have ht : ∀ i, i < n → et_pl (eg_at G1 tm) i = some (.int (sx (b i))) := fun i hi => (x1.2 tm i lt_tm (fun h => Or.elim h (fun h => (hi_ne k_tm k_am (by decide)) h.1) (fun h => Or.elim h (fun h => (hi_ne k_tm k_am (by decide)) h.1) (fun h => (hi_ne k_tm k_am (by decide)) h.1)))).trans (ht i hi)
  have lt_am := Nat.lt_of_lt_of_le lt_am x1.1
  have lt_tm := Nat.lt_of_lt_of_le lt_tm x1.1
  have lt_aw := Nat.lt_of_lt_of_le lt_aw x1.1
  have hX := hX.tr x1 (fun b j hb h => by first | omega | (dsimp only at h ⊢; omega) | (dsimp only at h; omega) | (dsimp only; omega))
  obtain ⟨rfl, q0, q5, q6, q7, q12⟩ := hP1
  show et_go none _ 206 4 _ [] _ _ _ _
  refine hs_aload (i := 0) (p := 5) (by decide +kernel) rfl ?_
  refine hs_aload (i := 0) (p := 6) (by decide +kernel) rfl ?_
  refine hs_k (x := Int32.ofNat 1) (p := 7) (by decide +kernel) ?_
  refine ht_callv (T := et_TT) (t := 13) (mi := 182) (na := 1) (ci := 11) (lk := 1) (lm := 3) (L0 := eg_en (eg_mL 182) [.ref am, .int (Int32.ofNat 1)]) (by decide +kernel) rfl hH k_am rfl rfl rfl rfl rfl (by rw [show eg_mL 182 = 3 from by decide +kernel]; first | done | rfl) ?_
  refine (fr_reads_tur (pl := 1) (k := 0) (p := 0) hH k_am m4 k_tm q7 hn ht hb q6 tal0 (by decide) k_aw m1 q12 rfl rfl (by omega)).mono (fun u hu => xw_cb hu (fun G7 v7 hH x7 hP7 => ?_))
  have x7 : xf (fun c j => (c = am ∧ j = 6) ∨ (c = am ∧ (8 ≤ j ∧ j ≤ 10)) ∨ (c = am ∧ (12 ≤ j ∧ j ≤ 13)) ∨ (c = aw ∧ 11900 ≤ j)) _ _ := x7
  have m4 := (x7.2 am 4 lt_am (fun h => Or.elim h (fun h => absurd h.2 (by decide)) (fun h => Or.elim h (fun h => absurd h.2 (by decide)) (fun h => Or.elim h (fun h => absurd h.2 (by decide)) (fun h => (hi_ne k_am k_aw (by decide)) h.1))))).trans m4
  have q5 := (x7.2 am 5 lt_am (fun h => Or.elim h (fun h => absurd h.2 (by decide)) (fun h => Or.elim h (fun h => absurd h.2 (by decide)) (fun h => Or.elim h (fun h => absurd h.2 (by decide)) (fun h => (hi_ne k_am k_aw (by decide)) h.1))))).trans q5
  have m1 := (x7.2 am 1 lt_am (fun h => Or.elim h (fun h => absurd h.2 (by decide)) (fun h => Or.elim h (fun h => absurd h.2 (by decide)) (fun h => Or.elim h (fun h => absurd h.2 (by decide)) (fun h => (hi_ne k_am k_aw (by decide)) h.1))))).trans m1
  have w1 := (x7.2 aw 1 lt_aw (fun h => Or.elim h (fun h => hne h.1) (fun h => Or.elim h (fun h => hne h.1) (fun h => Or.elim h (fun h => hne h.1) (fun h => by have h := h.2; omega))))).trans w1
  have q0 := (x7.2 am 0 lt_am (fun h => Or.elim h (fun h => absurd h.2 (by decide)) (fun h => Or.elim h (fun h => absurd h.2 (by decide)) (fun h => Or.elim h (fun h => absurd h.2 (by decide)) (fun h => (hi_ne k_am k_aw (by decide)) h.1))))).trans q0
  have q7 := (x7.2 am 7 lt_am (fun h => Or.elim h (fun h => absurd h.2 (by decide)) (fun h => Or.elim h (fun h => absurd h.2 (by decide)) (fun h => Or.elim h (fun h => absurd h.2 (by decide)) (fun h => (hi_ne k_am k_aw (by decide)) h.1))))).trans q7
  have ht : ∀ i, i < n → et_pl (eg_at G7 tm) i = some (.int (sx (b i))) := fun i hi => (x7.2 tm i lt_tm (fun h => Or.elim h (fun h => (hi_ne k_tm k_am (by decide)) h.1) (fun h => Or.elim h (fun h => (hi_ne k_tm k_am (by decide)) h.1) (fun h => Or.elim h (fun h => (hi_ne k_tm k_am (by decide)) h.1) (fun h => (hi_ne k_tm k_aw (by decide)) h.1))))).trans (ht i hi)
  have lt_am := Nat.lt_of_lt_of_le lt_am x7.1
  have lt_tm := Nat.lt_of_lt_of_le lt_tm x7.1
  have lt_aw := Nat.lt_of_lt_of_le lt_aw x7.1
  have hX := hX.tr x7 (fun b j hb h => by first | omega | (dsimp only at h ⊢; omega) | (dsimp only at h; omega) | (dsimp only; omega))
  rcases hP7 with ⟨sq, rfl⟩ | ⟨ls_, sq, rfl, g1, g2, g3⟩
  · have hP : PT aw 1 (sp_turner (tz_ts 1 b n 0)) G7 (some (.int (Int32.ofNat 0))) := .inl ⟨sq, rfl⟩
    show et_go none _ 206 10 _ [.int (Int32.ofNat 0), .ref am] _ _ _ _
    refine hs_if0 (c := .ne) (t := 17) (f := 13) (by decide +kernel) (show ¬ (¬ Int32.ofNat 0 = 0) by decide) ?_
    refine hs_k (x := Int32.ofNat 1) (p := 14) (by decide +kernel) ?_
    refine hs_goto (p := 18) (by decide +kernel) ?_
    refine hs_k (x := Int32.ofNat 1) (p := 19) (by decide +kernel) ?_
    refine ht_callv (T := et_TT) (t := 13) (mi := 204) (na := 2) (ci := 11) (lk := 1) (lm := 3) (L0 := eg_en (eg_mL 204) [.ref am, .int (Int32.ofNat 1), .int (Int32.ofNat 1)]) (by decide +kernel) rfl hH k_am rfl rfl rfl rfl rfl (by rw [show eg_mL 204 = 3 from by decide +kernel]; first | done | rfl) ?_
    refine (fm_t1 hH k_am).mono (fun u hu => xw_cb hu (fun G19 v19 hH x19 hP19 => ?_))
    have hP := hP.fr x19 lt_aw (fun j hs => hne hs.1)
    have m4 := (x19.2 am 4 lt_am (fun h => absurd h.2 (by decide))).trans m4
    have q5 := (x19.2 am 5 lt_am (fun h => absurd h.2 (by decide))).trans q5
    have m1 := (x19.2 am 1 lt_am (fun h => absurd h.2 (by decide))).trans m1
    have w1 := (x19.2 aw 1 lt_aw (fun h => hne h.1)).trans w1
    have q7 := (x19.2 am 7 lt_am (fun h => absurd h.2 (by decide))).trans q7
    have ht : ∀ i, i < n → et_pl (eg_at G19 tm) i = some (.int (sx (b i))) := fun i hi => (x19.2 tm i lt_tm (fun h => (hi_ne k_tm k_am (by decide)) h.1)).trans (ht i hi)
    have lt_am := Nat.lt_of_lt_of_le lt_am x19.1
    have lt_tm := Nat.lt_of_lt_of_le lt_tm x19.1
    have lt_aw := Nat.lt_of_lt_of_le lt_aw x19.1
    have hX := hX.tr x19 (fun b j hb h => by first | omega | (dsimp only at h ⊢; omega) | (dsimp only at h; omega) | (dsimp only; omega))
    obtain ⟨rfl, th19⟩ := hP19
    show et_go none _ 206 22 _ [.int (Int32.ofNat 1)] _ _ _ _
    refine hs_if1 (c := .ne) (t := 48) (f := 25) (by decide +kernel) (show ¬ Int32.ofNat 1 = 0 by decide) ?_
    refine hs_k (x := Int32.ofNat 0) (p := 49) (by decide +kernel) ?_
    refine hs_iret (by decide +kernel) ?_
    rcases hP with ⟨sq, -⟩ | ⟨_, _, hz, _⟩
    · exact ⟨_, _, rfl, hX.wk (fun c j _ h => by first | omega | (dsimp only at h ⊢; omega)), .inl ⟨sq, rfl, th19, w1⟩⟩
    · cases hz
  · have hP : PT aw 1 (sp_turner (tz_ts 1 b n 0)) G7 (some (.int (Int32.ofNat 1))) := .inr ⟨ls_, sq, rfl, g1, g2, g3⟩
    show et_go none _ 206 10 _ [.int (Int32.ofNat 1), .ref am] _ _ _ _
    refine hs_if1 (c := .ne) (t := 17) (f := 13) (by decide +kernel) (show ¬ Int32.ofNat 1 = 0 by decide) ?_
    refine hs_k (x := Int32.ofNat 0) (p := 18) (by decide +kernel) ?_
    refine hs_k (x := Int32.ofNat 1) (p := 19) (by decide +kernel) ?_
    refine ht_callv (T := et_TT) (t := 13) (mi := 204) (na := 2) (ci := 11) (lk := 1) (lm := 3) (L0 := eg_en (eg_mL 204) [.ref am, .int (Int32.ofNat 0), .int (Int32.ofNat 1)]) (by decide +kernel) rfl hH k_am rfl rfl rfl rfl rfl (by rw [show eg_mL 204 = 3 from by decide +kernel]; first | done | rfl) ?_
    refine (fm_t0 hH k_am).mono (fun u hu => xp_cb hu ?_)
    show et_go none _ 206 22 _ [.int (Int32.ofNat 0)] _ _ _ _
    refine hs_if0 (c := .ne) (t := 48) (f := 25) (by decide +kernel) (show ¬ (¬ Int32.ofNat 0 = 0) by decide) ?_
    refine hs_aload (i := 0) (p := 26) (by decide +kernel) rfl ?_
    refine hs_aload (i := 0) (p := 27) (by decide +kernel) rfl ?_
    refine hf_get (T := et_TT) (t := 13) (ci := 11) (f := 1) (p := 30) (by decide +kernel) rfl hH k_am m1 ?_
    refine hs_k (x := Int32.ofNat 1) (p := 31) (by decide +kernel) ?_
    refine hf_ald (ins := .iaload) (T := et_TT) (t := 46) (kd := 0) (N := 12741) (p := 32) (by decide +kernel) (fun _ _ _ _ _ _ _ _ _ _ => rfl) rfl rfl rfl hH k_aw (by decide) w1 ?_
    refine hs_k (x := Int32.ofNat 4) (p := 33) (by decide +kernel) ?_
    refine hs_br2n (c := .ne) (t := 40) (f := 36) (by decide +kernel) (by omega) (by omega) (fun (c33 : ¬ r = 4) => ?_) (fun (c33 : ¬ (¬ r = 4)) => ?_)
    · refine hs_k (x := Int32.ofNat 0) (p := 41) (by decide +kernel) ?_
      refine hs_k (x := Int32.ofNat 2) (p := 42) (by decide +kernel) ?_
      refine ht_callv (T := et_TT) (t := 13) (mi := 204) (na := 2) (ci := 11) (lk := 1) (lm := 3) (L0 := eg_en (eg_mL 204) [.ref am, .int (Int32.ofNat 0), .int (Int32.ofNat 2)]) (by decide +kernel) rfl hH k_am rfl rfl rfl rfl rfl (by rw [show eg_mL 204 = 3 from by decide +kernel]; first | done | rfl) ?_
      refine (fm_t0 hH k_am).mono (fun u hu => xp_cb hu ?_)
      show et_go none _ 206 45 _ [.int (Int32.ofNat 0)] _ _ _ _
      refine hs_if1 (c := .eq) (t := 50) (f := 48) (by decide +kernel) (show Int32.ofNat 0 = 0 by decide) ?_
      rcases hP with ⟨-, hz⟩ | ⟨ls_, sq, -, g1, g2, g3⟩
      · cases hz
      · obtain ⟨F, W, aw2, ta, tp, pt, bg, st, dp, ai2, TP, IK, hB, -, -, ⟨hi, i1, i2, i3, i4, -, -⟩, ⟨eF, eW, -, -, -, -, -⟩, e⟩ := hi_txt hH k_am
        have ew := m1
        rw [eF, hmF_pl (by decide), hB.2.2.1] at ew
        injection ew with ew
        injection ew with ew
        subst ew
        have hW0 := w1
        rw [eW, hmW_pl (by decide)] at hW0
        injection hW0 with hW0
        injection hW0 with hW0
        have hz : ∀ Z : eg_O → Prop, (∀ V : Nat → Int32, (∀ i, i < 841 → V (126 + 841 * (4 + r) + i) = W (11900 + i)) → (∀ i, (i < 126 + 841 * (4 + r) ∨ 126 + 841 * (4 + r) + 841 ≤ i) → V i = W i) → Z (.inl (some (.int (Int32.ofNat r))), hm_H G7 am aw2 F (upd V 1 (Int32.ofNat (r + 1))), 0, 0)) → et_go none (d + 35) 206 50 [some (.ref am)] [] G7 0 0 Z := fun Z h => by
          have h1 := tl_turner (d := d + 33) hB.1 hB.2.2.1 (by omega) hW0 h
          rw [← e] at h1
          exact h1
        refine hz _ (fun V v1 v2 => ?_)
        have hx1 := hm_xf0 (W1 := upd V 1 (Int32.ofNat (r + 1))) hB.1 e
        have hV : ∀ i, ¬ i = 1 → (i < 126 + 841 * (4 + r) ∨ 126 + 841 * (4 + r) + 841 ≤ i) → upd V 1 (Int32.ofNat (r + 1)) i = W i := fun i h1 h2 => (hs_un h1).trans (v2 i h2)
        have e1 : eg_at (hm_H G7 am aw2 F (upd V 1 (Int32.ofNat (r + 1)))) aw2 = hm_W (upd V 1 (Int32.ofNat (r + 1))) := hm_w hB.1
        refine ⟨_, _, rfl, (hX.wk (fun c j _ h => by first | omega | (dsimp only at h ⊢; omega))).tr hx1 (fun c j _ hs => ?_), .inr (.inr ⟨ls_, sq, by omega, rfl, (hx1.2 am 0 lt_am (fun h => hB.1.2.2 h.1)).trans q0, ?_, ?_⟩)⟩
        · obtain ⟨rfl, hs⟩ := hs
          refine .inr ⟨rfl, ?_⟩
          refine Decidable.by_contra (fun hc => hs (hV j (by omega) (by omega)))
        · rw [e1, hmW_pl (by decide)]
          exact congrArg (fun z => some (Value.int z)) hs_us
        · refine tuT.mv eW g1 g2 g3 (fun i v hi2 hv => ?_)
          rw [eW, hmW_pl (by omega)] at hv
          rw [e1, hmW_pl (by omega), ← hv]
          exact congrArg (fun z => some (Value.int z)) ((hs_un (by omega)).trans (v1 i hi2))
    · refine hs_k (x := Int32.ofNat 1) (p := 37) (by decide +kernel) ?_
      refine hs_goto (p := 41) (by decide +kernel) ?_
      refine hs_k (x := Int32.ofNat 2) (p := 42) (by decide +kernel) ?_
      refine ht_callv (T := et_TT) (t := 13) (mi := 204) (na := 2) (ci := 11) (lk := 1) (lm := 3) (L0 := eg_en (eg_mL 204) [.ref am, .int (Int32.ofNat 1), .int (Int32.ofNat 2)]) (by decide +kernel) rfl hH k_am rfl rfl rfl rfl rfl (by rw [show eg_mL 204 = 3 from by decide +kernel]; first | done | rfl) ?_
      refine (fm_t1 hH k_am).mono (fun u hu => xw_cb hu (fun G42 v42 hH x42 hP42 => ?_))
      have hP := hP.fr x42 lt_aw (fun j hs => hne hs.1)
      have m4 := (x42.2 am 4 lt_am (fun h => absurd h.2 (by decide))).trans m4
      have q5 := (x42.2 am 5 lt_am (fun h => absurd h.2 (by decide))).trans q5
      have m1 := (x42.2 am 1 lt_am (fun h => absurd h.2 (by decide))).trans m1
      have w1 := (x42.2 aw 1 lt_aw (fun h => hne h.1)).trans w1
      have q7 := (x42.2 am 7 lt_am (fun h => absurd h.2 (by decide))).trans q7
      have ht : ∀ i, i < n → et_pl (eg_at G42 tm) i = some (.int (sx (b i))) := fun i hi => (x42.2 tm i lt_tm (fun h => (hi_ne k_tm k_am (by decide)) h.1)).trans (ht i hi)
      have lt_am := Nat.lt_of_lt_of_le lt_am x42.1
      have lt_tm := Nat.lt_of_lt_of_le lt_tm x42.1
      have lt_aw := Nat.lt_of_lt_of_le lt_aw x42.1
      have hX := hX.tr x42 (fun b j hb h => by first | omega | (dsimp only at h ⊢; omega) | (dsimp only at h; omega) | (dsimp only; omega))
      obtain ⟨rfl, th42⟩ := hP42
      show et_go none _ 206 45 _ [.int (Int32.ofNat 1)] _ _ _ _
      refine hs_if0 (c := .eq) (t := 50) (f := 48) (by decide +kernel) (show ¬ (Int32.ofNat 1 = 0) by decide) ?_
      refine hs_k (x := Int32.ofNat 0) (p := 49) (by decide +kernel) ?_
      refine hs_iret (by decide +kernel) ?_
      rcases hP with ⟨-, hz⟩ | ⟨f_, sq, -⟩
      · cases hz
      · exact ⟨_, _, rfl, hX.wk (fun c j _ h => by first | omega | (dsimp only at h ⊢; omega)), .inr (.inl ⟨by omega, (by rw [sq]; intro h; cases h), rfl, th42, w1⟩)⟩
end FRB
