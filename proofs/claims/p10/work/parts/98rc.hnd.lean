/-! FUNCTIONAL: the reference's claim -/
def clP (am aw r ec rc : Nat) (ey ru : Int32) (sp : Option (sp_E → Bool)) (G' : eg_G) (v : Option Value) : Prop :=
  (¬ (xr ey ec ∧ xr ru rc) ∧ v = some (.int (Int32.ofNat 0)) ∧ et_pl (eg_at G' am) 0 = some (.int (Int32.ofNat 1)) ∧ et_pl (eg_at G' aw) 2 = some (.int (Int32.ofNat r))) ∨
  ((xr ey ec ∧ xr ru rc) ∧ sp = none ∧ v = some (.int (Int32.ofNat 0)) ∧ et_pl (eg_at G' am) 0 = some (.int (Int32.ofNat 2)) ∧ et_pl (eg_at G' aw) 2 = some (.int (Int32.ofNat r))) ∨
  ((xr ey ec ∧ xr ru rc) ∧ r = 6 ∧ ¬ sp = none ∧ v = some (.int (Int32.ofNat 0)) ∧ et_pl (eg_at G' am) 0 = some (.int (Int32.ofNat 3)) ∧ et_pl (eg_at G' aw) 2 = some (.int (Int32.ofNat r))) ∨
  ((xr ey ec ∧ xr ru rc) ∧ ∃ f, sp = some f ∧ r < 6 ∧ v = some (.int (Int32.ofNat r)) ∧ et_pl (eg_at G' am) 0 = some (.int (Int32.ofNat 0)) ∧ et_pl (eg_at G' aw) 2 = some (.int (Int32.ofNat (r + 1))) ∧ et_pl (eg_at G' aw) (114 + 2 * r) = some (.int ey) ∧ et_pl (eg_at G' aw) (115 + 2 * r) = some (.int ru) ∧ txP G' aw (126 + 841 * (8 + r)) 2 f)
section FRC
variable {K : et_K} {G G0 : eg_G} {b : Nat → Nat} {d2 d am aw ai tm n p pl k dp m i r e ec rc : Nat} {F : Nat → Value} {W : Nat → Int32} {Z : eg_O → Prop} {x ey ru : Int32}
theorem fm_nE (hH : et_H et_TT K G) (k_am : K am = some 13) (k_aw : K aw = some 46) (h1 : et_pl (eg_at G am) 1 = some (.ref aw)) (h4 : et_pl (eg_at G aw) 4 = some (.int (Int32.ofNat e))) (he : e ≤ 3) (hd : 1 ≤ d2) : et_go none d2 208 0 (eg_en (eg_mL 208) [.ref am, .int x]) [] G 0 0 (xp_Z G (some (.int (Int32.ofNat (if 0 ≤ x.toInt ∧ x.toInt < (e : Int) then 0 else 1))))) := by
  refine (fm_noEye hH k_am k_aw h1 h4 he hd).mono (fun u hu => ?_)
  rcases hu with ⟨h, hu⟩ | ⟨h, hu⟩
  · rw [if_pos (show 0 ≤ x.toInt ∧ x.toInt < (e : Int) from h)]
    exact hu
  · rw [if_neg (show ¬ (0 ≤ x.toInt ∧ x.toInt < (e : Int)) from h)]
    exact hu

theorem fm_nR (hH : et_H et_TT K G) (k_am : K am = some 13) (k_aw : K aw = some 46) (h1 : et_pl (eg_at G am) 1 = some (.ref aw)) (h4 : et_pl (eg_at G aw) 0 = some (.int (Int32.ofNat e))) (he : e ≤ 4) (hd : 1 ≤ d2) : et_go none d2 210 0 (eg_en (eg_mL 210) [.ref am, .int x]) [] G 0 0 (xp_Z G (some (.int (Int32.ofNat (if 0 ≤ x.toInt ∧ x.toInt < (e : Int) then 0 else 1))))) := by
  obtain ⟨d, rfl⟩ : ∃ d, d2 = d + 1 := ⟨d2 - 1, by omega⟩
  have hq : (Int32.ofNat e - Int32.ofNat 1).toInt = (e : Int) - 1 := by
    have h : ∀ k ∈ List.range 5, (Int32.ofNat k - Int32.ofNat 1).toInt = (k : Int) - 1 := by decide +kernel
    exact h e (List.mem_range.mpr (by omega))
  rw [show eg_mL 210 = 2 from by decide +kernel]
  show et_go none (d + 1) 210 0 [some (.ref am), some (.int x)] [] G 0 0 _
  have lt_am := (hH.2.2 _ _ k_am).1
  have lt_aw := (hH.2.2 _ _ k_aw).1
  refine hs_iload (i := 1) (p := 1) (by decide +kernel) rfl ?_
  refine hs_k (x := Int32.ofNat 0) (p := 2) (by decide +kernel) ?_
  refine hs_aload (i := 0) (p := 3) (by decide +kernel) rfl ?_
  refine hf_get (T := et_TT) (t := 13) (ci := 11) (f := 1) (p := 6) (by decide +kernel) rfl hH k_am h1 ?_
  refine hs_k (x := Int32.ofNat 0) (p := 7) (by decide +kernel) ?_
  refine hf_ald (ins := .iaload) (T := et_TT) (t := 46) (kd := 0) (N := 12741) (p := 8) (by decide +kernel) (fun _ _ _ _ _ _ _ _ _ _ => rfl) rfl rfl rfl hH k_aw (by decide) h4 ?_
  refine hs_k (x := Int32.ofNat 1) (p := 9) (by decide +kernel) ?_
  refine hs_isub (p := 10) (by decide +kernel) ?_
  refine hs_calls (mi := 209) (na := 3) (lk := 2) (lm := 3) (L0 := eg_en (eg_mL 209) [.int x, .int (Int32.ofNat 0), .int (Int32.ofNat e - Int32.ofNat 1)]) (by decide +kernel) rfl rfl rfl rfl rfl rfl (by rw [show eg_mL 209 = 3 from by decide +kernel]; first | done | rfl) ?_
  refine fm_in.mono (fun u hu => xp_cb hu ?_)
  rw [hq]
  by_cases hxr : xr x e
  · rw [if_pos (show (Int32.ofNat 0).toInt ≤ x.toInt ∧ x.toInt ≤ (e : Int) - 1 from by rw [hs_nint (by decide)]; unfold xr at hxr; omega)]
    show et_go none _ 210 13 _ [.int (Int32.ofNat 1)] _ _ _ _
    refine hs_if1 (c := .ne) (t := 20) (f := 16) (by decide +kernel) (show ¬ Int32.ofNat 1 = 0 by decide) ?_
    refine hs_k (x := Int32.ofNat 0) (p := 21) (by decide +kernel) ?_
    refine hs_zret (by decide +kernel) (.inl rfl) ?_
    rw [if_pos (show 0 ≤ x.toInt ∧ x.toInt < (e : Int) from hxr)]
    rfl
  · rw [if_neg (show ¬ ((Int32.ofNat 0).toInt ≤ x.toInt ∧ x.toInt ≤ (e : Int) - 1) from by rw [hs_nint (by decide)]; unfold xr at hxr; omega)]
    show et_go none _ 210 13 _ [.int (Int32.ofNat 0)] _ _ _ _
    refine hs_if0 (c := .ne) (t := 20) (f := 16) (by decide +kernel) (show ¬ (¬ Int32.ofNat 0 = 0) by decide) ?_
    refine hs_k (x := Int32.ofNat 1) (p := 17) (by decide +kernel) ?_
    refine hs_goto (p := 21) (by decide +kernel) ?_
    refine hs_zret (by decide +kernel) (.inr rfl) ?_
    rw [if_neg (show ¬ (0 ≤ x.toInt ∧ x.toInt < (e : Int)) from hxr)]
    rfl
theorem fm_nT (hH : et_H et_TT K G) (k_am : K am = some 13) (k_aw : K aw = some 46) (h1 : et_pl (eg_at G am) 1 = some (.ref aw)) (h4 : et_pl (eg_at G aw) 1 = some (.int (Int32.ofNat e))) (he : e ≤ 4) (hd : 1 ≤ d2) : et_go none d2 246 0 (eg_en (eg_mL 246) [.ref am, .int x]) [] G 0 0 (xp_Z G (some (.int (Int32.ofNat (if 0 ≤ x.toInt ∧ x.toInt < (e : Int) then 0 else 1))))) := by
  obtain ⟨d, rfl⟩ : ∃ d, d2 = d + 1 := ⟨d2 - 1, by omega⟩
  have hq : (Int32.ofNat e - Int32.ofNat 1).toInt = (e : Int) - 1 := by
    have h : ∀ k ∈ List.range 5, (Int32.ofNat k - Int32.ofNat 1).toInt = (k : Int) - 1 := by decide +kernel
    exact h e (List.mem_range.mpr (by omega))
  rw [show eg_mL 246 = 2 from by decide +kernel]
  show et_go none (d + 1) 246 0 [some (.ref am), some (.int x)] [] G 0 0 _
  have lt_am := (hH.2.2 _ _ k_am).1
  have lt_aw := (hH.2.2 _ _ k_aw).1
  refine hs_iload (i := 1) (p := 1) (by decide +kernel) rfl ?_
  refine hs_k (x := Int32.ofNat 0) (p := 2) (by decide +kernel) ?_
  refine hs_aload (i := 0) (p := 3) (by decide +kernel) rfl ?_
  refine hf_get (T := et_TT) (t := 13) (ci := 11) (f := 1) (p := 6) (by decide +kernel) rfl hH k_am h1 ?_
  refine hs_k (x := Int32.ofNat 1) (p := 7) (by decide +kernel) ?_
  refine hf_ald (ins := .iaload) (T := et_TT) (t := 46) (kd := 0) (N := 12741) (p := 8) (by decide +kernel) (fun _ _ _ _ _ _ _ _ _ _ => rfl) rfl rfl rfl hH k_aw (by decide) h4 ?_
  refine hs_k (x := Int32.ofNat 1) (p := 9) (by decide +kernel) ?_
  refine hs_isub (p := 10) (by decide +kernel) ?_
  refine hs_calls (mi := 209) (na := 3) (lk := 2) (lm := 3) (L0 := eg_en (eg_mL 209) [.int x, .int (Int32.ofNat 0), .int (Int32.ofNat e - Int32.ofNat 1)]) (by decide +kernel) rfl rfl rfl rfl rfl rfl (by rw [show eg_mL 209 = 3 from by decide +kernel]; first | done | rfl) ?_
  refine fm_in.mono (fun u hu => xp_cb hu ?_)
  rw [hq]
  by_cases hxr : xr x e
  · rw [if_pos (show (Int32.ofNat 0).toInt ≤ x.toInt ∧ x.toInt ≤ (e : Int) - 1 from by rw [hs_nint (by decide)]; unfold xr at hxr; omega)]
    show et_go none _ 246 13 _ [.int (Int32.ofNat 1)] _ _ _ _
    refine hs_if1 (c := .ne) (t := 20) (f := 16) (by decide +kernel) (show ¬ Int32.ofNat 1 = 0 by decide) ?_
    refine hs_k (x := Int32.ofNat 0) (p := 21) (by decide +kernel) ?_
    refine hs_zret (by decide +kernel) (.inl rfl) ?_
    rw [if_pos (show 0 ≤ x.toInt ∧ x.toInt < (e : Int) from hxr)]
    rfl
  · rw [if_neg (show ¬ ((Int32.ofNat 0).toInt ≤ x.toInt ∧ x.toInt ≤ (e : Int) - 1) from by rw [hs_nint (by decide)]; unfold xr at hxr; omega)]
    show et_go none _ 246 13 _ [.int (Int32.ofNat 0)] _ _ _ _
    refine hs_if0 (c := .ne) (t := 20) (f := 16) (by decide +kernel) (show ¬ (¬ Int32.ofNat 0 = 0) by decide) ?_
    refine hs_k (x := Int32.ofNat 1) (p := 17) (by decide +kernel) ?_
    refine hs_goto (p := 21) (by decide +kernel) ?_
    refine hs_zret (by decide +kernel) (.inr rfl) ?_
    rw [if_neg (show ¬ (0 ≤ x.toInt ∧ x.toInt < (e : Int)) from hxr)]
    rfl
theorem tl_claim (hA : hm_ok G am aw) (hw : F 1 = .ref aw) (hr : r < 6) (hW : W 2 = Int32.ofNat r) {x3 : Option Value} (h : ∀ V : Nat → Int32, (∀ i, i < 841 → V (126 + 841 * (8 + r) + i) = W (11900 + i)) → (∀ i, (i < 126 + 841 * (8 + r) ∨ 126 + 841 * (8 + r) + 841 ≤ i) → V i = W i) → Z (.inl (some (.int (Int32.ofNat r))), hm_H G am aw F (upd (upd (upd V (114 + 2 * r) ey) (114 + 2 * r + 1) ru) 2 (Int32.ofNat (r + 1))), 0, 0)) : et_go none (d + 2) 207 82 [some (.ref am), some (.int ey), some (.int ru), x3] [] (hm_H G am aw F W) 0 0 Z := by
  refine hs_aload (i := 0) (p := 83) (by decide +kernel) rfl ?_
  refine hm_get hA (f := 1) (p := 86) (by decide +kernel) rfl hw ?_
  refine hs_k (x := Int32.ofNat 2) (p := 87) (by decide +kernel) ?_
  refine hm_rwv hA (p := 88) (x := Int32.ofNat r) (by decide +kernel) (by omega) hW ?_
  refine hs_istore (i := 3) (p := 89) (by decide +kernel) (Nat.le_of_ble_eq_true rfl) ?_
  refine hs_aload (i := 0) (p := 90) (by decide +kernel) rfl ?_
  refine hs_k (x := Int32.ofNat 8) (p := 92) (by decide +kernel) ?_
  refine hs_iload (i := 3) (p := 93) (by decide +kernel) rfl ?_
  refine hs_iaddn (p := 94) (by decide +kernel) ?_
  refine hm_call hA (mi := 205) (na := 1) (lk := 4) (lm := 3) (by decide +kernel) rfl rfl rfl rfl rfl rfl (rp_keeps hA hw (t := (8 + r)) (by omega) (fun V g1 g2 => hs_cb ?_))
  show et_go none _ 207 97 _ [] _ _ _ _
  refine hs_aload (i := 0) (p := 98) (by decide +kernel) rfl ?_
  refine hm_get hA (f := 1) (p := 101) (by decide +kernel) rfl hw ?_
  refine hs_k (x := Int32.ofNat 114) (p := 103) (by decide +kernel) ?_
  refine hs_k (x := Int32.ofNat 2) (p := 104) (by decide +kernel) ?_
  refine hs_iload (i := 3) (p := 105) (by decide +kernel) rfl ?_
  refine hs_imuln (p := 106) (by decide +kernel) ?_
  refine hs_iaddn (p := 107) (by decide +kernel) ?_
  refine hs_iload (i := 1) (p := 108) (by decide +kernel) rfl ?_
  refine hm_ww hA (p := 109) (by decide +kernel) (by omega) ?_
  refine hs_aload (i := 0) (p := 110) (by decide +kernel) rfl ?_
  refine hm_get hA (f := 1) (p := 113) (by decide +kernel) rfl hw ?_
  refine hs_k (x := Int32.ofNat 114) (p := 115) (by decide +kernel) ?_
  refine hs_k (x := Int32.ofNat 2) (p := 116) (by decide +kernel) ?_
  refine hs_iload (i := 3) (p := 117) (by decide +kernel) rfl ?_
  refine hs_imuln (p := 118) (by decide +kernel) ?_
  refine hs_iaddn (p := 119) (by decide +kernel) ?_
  refine hs_k (x := Int32.ofNat 1) (p := 120) (by decide +kernel) ?_
  refine hs_iaddn (p := 121) (by decide +kernel) ?_
  refine hs_iload (i := 2) (p := 122) (by decide +kernel) rfl ?_
  refine hm_ww hA (p := 123) (by decide +kernel) (by omega) ?_
  refine hs_aload (i := 0) (p := 124) (by decide +kernel) rfl ?_
  refine hm_get hA (f := 1) (p := 127) (by decide +kernel) rfl hw ?_
  refine hs_k (x := Int32.ofNat 2) (p := 128) (by decide +kernel) ?_
  refine hs_dup2 (p := 129) (by decide +kernel) ?_
  refine hm_rwv hA (p := 130) (x := Int32.ofNat r) (by decide +kernel) (by omega) ((hs_un (by omega)).trans ((hs_un (by omega)).trans ((g2 2 (.inl (by omega))).trans hW))) ?_
  refine hs_k (x := Int32.ofNat 1) (p := 131) (by decide +kernel) ?_
  refine hs_iaddn (p := 132) (by decide +kernel) ?_
  refine hm_ww hA (p := 133) (by decide +kernel) (by omega) ?_
  refine hs_iload (i := 3) (p := 134) (by decide +kernel) rfl ?_
  refine hs_iret (by decide +kernel) ?_
  exact h _ g1 g2
theorem fm_claim (hH : et_H et_TT K G) (k_am : K am = some 13) (m4 : et_pl (eg_at G am) 4 = some (.ref tm)) (k_tm : K tm = some 34) (m5 : et_pl (eg_at G am) 5 = some (.int (Int32.ofNat n))) (hn : n ≤ 400) (ht : ∀ i, i < n → et_pl (eg_at G tm) i = some (.int (sx (b i)))) (hb : ∀ i, i < n → b i < 256) (k_aw : K aw = some 46) (m1 : et_pl (eg_at G am) 1 = some (.ref aw)) (w2 : et_pl (eg_at G aw) 2 = some (.int (Int32.ofNat r))) (hr : r ≤ 6) (w0 : et_pl (eg_at G aw) 0 = some (.int (Int32.ofNat rc))) (hrc : rc ≤ 4) (w4 : et_pl (eg_at G aw) 4 = some (.int (Int32.ofNat ec))) (hec : ec ≤ 3) (hd : 35 ≤ d2) : et_go none d2 207 0 (eg_en (eg_mL 207) [.ref am, .int ey, .int ru]) [] G 0 0 (xn_Z (fun c j => (c = am ∧ (j = 0 ∨ ((5 ≤ j ∧ j ≤ 10) ∨ (12 ≤ j ∧ j ≤ 13)))) ∨ (c = aw ∧ (j = 2 ∨ (j = 114 + 2 * r ∨ (j = 115 + 2 * r ∨ ((126 + 841 * (8 + r) ≤ j ∧ j < 126 + 841 * (8 + r) + 841) ∨ 11900 ≤ j)))))) G (clP am aw r ec rc ey ru (sp_one (tz_ts 2 b n 0)))) := by
  obtain ⟨d, rfl⟩ : ∃ d, d2 = d + 35 := ⟨d2 - 35, by omega⟩
  rw [show eg_mL 207 = 4 from by decide +kernel]
  show et_go none (d + 35) 207 0 [some (.ref am), some (.int ey), some (.int ru), none] [] G 0 0 (xn_Z _ _ _)
  have hne : ¬ aw = am := hi_ne k_aw k_am (by decide)
  have lt_am := (hH.2.2 _ _ k_am).1
  have lt_tm := (hH.2.2 _ _ k_tm).1
  have lt_aw := (hH.2.2 _ _ k_aw).1
  have hX : xf (fun c j => (c = am ∧ j = 0) ∨ (c = am ∧ (5 ≤ j ∧ j ≤ 10)) ∨ (c = am ∧ (12 ≤ j ∧ j ≤ 13)) ∨ (c = aw ∧ 11900 ≤ j)) G G := xf.rf
  refine hs_aload (i := 0) (p := 1) (by decide +kernel) rfl ?_
  refine ht_callv (T := et_TT) (t := 13) (mi := 181) (na := 0) (ci := 11) (lk := 4) (lm := 1) (L0 := eg_en (eg_mL 181) [.ref am]) (by decide +kernel) rfl hH k_am rfl rfl rfl rfl rfl (by rw [show eg_mL 181 = 1 from by decide +kernel]; first | done | rfl) ?_
  refine (fm_uses hH k_am hn m5).mono (fun u hu => xw_cb hu (fun G1 v1 hH x1 hP1 => ?_))
  have x1 : xf (fun c j => (c = am ∧ j = 0) ∨ (c = am ∧ (5 ≤ j ∧ j ≤ 7)) ∨ (c = am ∧ j = 12)) _ _ := x1
  have m4 := (x1.2 am 4 lt_am (fun h => Or.elim h (fun h => absurd h.2 (by decide)) (fun h => Or.elim h (fun h => absurd h.2 (by decide)) (fun h => absurd h.2 (by decide))))).trans m4
  have m1 := (x1.2 am 1 lt_am (fun h => Or.elim h (fun h => absurd h.2 (by decide)) (fun h => Or.elim h (fun h => absurd h.2 (by decide)) (fun h => absurd h.2 (by decide))))).trans m1
  have w2 := (x1.2 aw 2 lt_aw (fun h => Or.elim h (fun h => hne h.1) (fun h => Or.elim h (fun h => hne h.1) (fun h => hne h.1)))).trans w2
  have w0 := (x1.2 aw 0 lt_aw (fun h => Or.elim h (fun h => hne h.1) (fun h => Or.elim h (fun h => hne h.1) (fun h => hne h.1)))).trans w0
  have w4 := (x1.2 aw 4 lt_aw (fun h => Or.elim h (fun h => hne h.1) (fun h => Or.elim h (fun h => hne h.1) (fun h => hne h.1)))).trans w4
  have ht : ∀ i, i < n → et_pl (eg_at G1 tm) i = some (.int (sx (b i))) := fun i hi => (x1.2 tm i lt_tm (fun h => Or.elim h (fun h => (hi_ne k_tm k_am (by decide)) h.1) (fun h => Or.elim h (fun h => (hi_ne k_tm k_am (by decide)) h.1) (fun h => (hi_ne k_tm k_am (by decide)) h.1)))).trans (ht i hi)
  have lt_am := Nat.lt_of_lt_of_le lt_am x1.1
  have lt_tm := Nat.lt_of_lt_of_le lt_tm x1.1
  have lt_aw := Nat.lt_of_lt_of_le lt_aw x1.1
  have hX := hX.tr x1 (fun b j hb h => by first | omega | (dsimp only at h ⊢; omega) | (dsimp only at h; omega) | (dsimp only; omega))
  obtain ⟨rfl, q0, q5, q6, q7, q12⟩ := hP1
  show et_go none _ 207 4 _ [] _ _ _ _
  refine hs_aload (i := 0) (p := 5) (by decide +kernel) rfl ?_
  refine hs_aload (i := 0) (p := 6) (by decide +kernel) rfl ?_
  refine hs_iload (i := 1) (p := 7) (by decide +kernel) rfl ?_
  refine ht_callv (T := et_TT) (t := 13) (mi := 208) (na := 1) (ci := 11) (lk := 4) (lm := 2) (L0 := eg_en (eg_mL 208) [.ref am, .int ey]) (by decide +kernel) rfl hH k_am rfl rfl rfl rfl rfl (by rw [show eg_mL 208 = 2 from by decide +kernel]; first | done | rfl) ?_
  refine (fm_nE (x := ey) hH k_am k_aw m1 w4 hec (by omega)).mono (fun u hu => xp_cb hu ?_)
  by_cases xe : 0 ≤ ey.toInt ∧ ey.toInt < (ec : Int)
  · rw [if_pos xe]
    show et_go none _ 207 10 _ [.int (Int32.ofNat 0), .ref am] _ _ _ _
    refine hs_if0 (c := .ne) (t := 21) (f := 13) (by decide +kernel) (show ¬ (¬ Int32.ofNat 0 = 0) by decide) ?_
    refine hs_aload (i := 0) (p := 14) (by decide +kernel) rfl ?_
    refine hs_iload (i := 2) (p := 15) (by decide +kernel) rfl ?_
    refine ht_callv (T := et_TT) (t := 13) (mi := 210) (na := 1) (ci := 11) (lk := 4) (lm := 2) (L0 := eg_en (eg_mL 210) [.ref am, .int ru]) (by decide +kernel) rfl hH k_am rfl rfl rfl rfl rfl (by rw [show eg_mL 210 = 2 from by decide +kernel]; first | done | rfl) ?_
    refine (fm_nR (x := ru) hH k_am k_aw m1 w0 hrc (by omega)).mono (fun u hu => xp_cb hu ?_)
    by_cases xu : 0 ≤ ru.toInt ∧ ru.toInt < (rc : Int)
    · rw [if_pos xu]
      show et_go none _ 207 18 _ [.int (Int32.ofNat 0), .ref am] _ _ _ _
      refine hs_if1 (c := .eq) (t := 25) (f := 21) (by decide +kernel) (show Int32.ofNat 0 = 0 by decide) ?_
      refine hs_k (x := Int32.ofNat 0) (p := 26) (by decide +kernel) ?_
      refine hs_k (x := Int32.ofNat 1) (p := 27) (by decide +kernel) ?_
      refine ht_callv (T := et_TT) (t := 13) (mi := 204) (na := 2) (ci := 11) (lk := 4) (lm := 3) (L0 := eg_en (eg_mL 204) [.ref am, .int (Int32.ofNat 0), .int (Int32.ofNat 1)]) (by decide +kernel) rfl hH k_am rfl rfl rfl rfl rfl (by rw [show eg_mL 204 = 3 from by decide +kernel]; first | done | rfl) ?_
      refine (fm_t0 hH k_am).mono (fun u hu => xp_cb hu ?_)
      show et_go none _ 207 30 _ [.int (Int32.ofNat 0)] _ _ _ _
      refine hs_if1 (c := .eq) (t := 35) (f := 33) (by decide +kernel) (show Int32.ofNat 0 = 0 by decide) ?_
      refine hs_aload (i := 0) (p := 36) (by decide +kernel) rfl ?_
      refine hs_aload (i := 0) (p := 37) (by decide +kernel) rfl ?_
      refine hs_k (x := Int32.ofNat 2) (p := 38) (by decide +kernel) ?_
      refine ht_callv (T := et_TT) (t := 13) (mi := 182) (na := 1) (ci := 11) (lk := 4) (lm := 3) (L0 := eg_en (eg_mL 182) [.ref am, .int (Int32.ofNat 2)]) (by decide +kernel) rfl hH k_am rfl rfl rfl rfl rfl (by rw [show eg_mL 182 = 3 from by decide +kernel]; first | done | rfl) ?_
      refine (fr_reads_one (pl := 2) (k := 0) (p := 0) hH k_am m4 k_tm q7 hn ht hb q6 tal0 (by decide) k_aw m1 q12 rfl (by decide) (by omega)).mono (fun u hu => xw_cb hu (fun G38 v38 hH x38 hP38 => ?_))
      have x38 : xf (fun c j => (c = am ∧ j = 6) ∨ (c = am ∧ (8 ≤ j ∧ j ≤ 10)) ∨ (c = am ∧ (12 ≤ j ∧ j ≤ 13)) ∨ (c = aw ∧ 11900 ≤ j)) _ _ := x38
      have m4 := (x38.2 am 4 lt_am (fun h => Or.elim h (fun h => absurd h.2 (by decide)) (fun h => Or.elim h (fun h => absurd h.2 (by decide)) (fun h => Or.elim h (fun h => absurd h.2 (by decide)) (fun h => (hi_ne k_am k_aw (by decide)) h.1))))).trans m4
      have q5 := (x38.2 am 5 lt_am (fun h => Or.elim h (fun h => absurd h.2 (by decide)) (fun h => Or.elim h (fun h => absurd h.2 (by decide)) (fun h => Or.elim h (fun h => absurd h.2 (by decide)) (fun h => (hi_ne k_am k_aw (by decide)) h.1))))).trans q5
      have m1 := (x38.2 am 1 lt_am (fun h => Or.elim h (fun h => absurd h.2 (by decide)) (fun h => Or.elim h (fun h => absurd h.2 (by decide)) (fun h => Or.elim h (fun h => absurd h.2 (by decide)) (fun h => (hi_ne k_am k_aw (by decide)) h.1))))).trans m1
      have w2 := (x38.2 aw 2 lt_aw (fun h => Or.elim h (fun h => hne h.1) (fun h => Or.elim h (fun h => hne h.1) (fun h => Or.elim h (fun h => hne h.1) (fun h => by have h := h.2; omega))))).trans w2
      have w0 := (x38.2 aw 0 lt_aw (fun h => Or.elim h (fun h => hne h.1) (fun h => Or.elim h (fun h => hne h.1) (fun h => Or.elim h (fun h => hne h.1) (fun h => by have h := h.2; omega))))).trans w0
      have w4 := (x38.2 aw 4 lt_aw (fun h => Or.elim h (fun h => hne h.1) (fun h => Or.elim h (fun h => hne h.1) (fun h => Or.elim h (fun h => hne h.1) (fun h => by have h := h.2; omega))))).trans w4
      have q0 := (x38.2 am 0 lt_am (fun h => Or.elim h (fun h => absurd h.2 (by decide)) (fun h => Or.elim h (fun h => absurd h.2 (by decide)) (fun h => Or.elim h (fun h => absurd h.2 (by decide)) (fun h => (hi_ne k_am k_aw (by decide)) h.1))))).trans q0
      have q7 := (x38.2 am 7 lt_am (fun h => Or.elim h (fun h => absurd h.2 (by decide)) (fun h => Or.elim h (fun h => absurd h.2 (by decide)) (fun h => Or.elim h (fun h => absurd h.2 (by decide)) (fun h => (hi_ne k_am k_aw (by decide)) h.1))))).trans q7
      have ht : ∀ i, i < n → et_pl (eg_at G38 tm) i = some (.int (sx (b i))) := fun i hi => (x38.2 tm i lt_tm (fun h => Or.elim h (fun h => (hi_ne k_tm k_am (by decide)) h.1) (fun h => Or.elim h (fun h => (hi_ne k_tm k_am (by decide)) h.1) (fun h => Or.elim h (fun h => (hi_ne k_tm k_am (by decide)) h.1) (fun h => (hi_ne k_tm k_aw (by decide)) h.1))))).trans (ht i hi)
      have lt_am := Nat.lt_of_lt_of_le lt_am x38.1
      have lt_tm := Nat.lt_of_lt_of_le lt_tm x38.1
      have lt_aw := Nat.lt_of_lt_of_le lt_aw x38.1
      have hX := hX.tr x38 (fun b j hb h => by first | omega | (dsimp only at h ⊢; omega) | (dsimp only at h; omega) | (dsimp only; omega))
      rcases hP38 with ⟨sq, rfl⟩ | ⟨f_, C_, sq, rfl, g1, g2, g3, g4, g5⟩
      · have hP : P1 aw 2 (sp_one (tz_ts 2 b n 0)) G38 (some (.int (Int32.ofNat 0))) := .inl ⟨sq, rfl⟩
        show et_go none _ 207 41 _ [.int (Int32.ofNat 0), .ref am] _ _ _ _
        refine hs_if0 (c := .ne) (t := 48) (f := 44) (by decide +kernel) (show ¬ (¬ Int32.ofNat 0 = 0) by decide) ?_
        refine hs_k (x := Int32.ofNat 1) (p := 45) (by decide +kernel) ?_
        refine hs_goto (p := 49) (by decide +kernel) ?_
        refine hs_k (x := Int32.ofNat 2) (p := 50) (by decide +kernel) ?_
        refine ht_callv (T := et_TT) (t := 13) (mi := 204) (na := 2) (ci := 11) (lk := 4) (lm := 3) (L0 := eg_en (eg_mL 204) [.ref am, .int (Int32.ofNat 1), .int (Int32.ofNat 2)]) (by decide +kernel) rfl hH k_am rfl rfl rfl rfl rfl (by rw [show eg_mL 204 = 3 from by decide +kernel]; first | done | rfl) ?_
        refine (fm_t1 hH k_am).mono (fun u hu => xw_cb hu (fun G50 v50 hH x50 hP50 => ?_))
        have hP := hP.fr x50 lt_aw (fun j hs => hne hs.1)
        have m4 := (x50.2 am 4 lt_am (fun h => absurd h.2 (by decide))).trans m4
        have q5 := (x50.2 am 5 lt_am (fun h => absurd h.2 (by decide))).trans q5
        have m1 := (x50.2 am 1 lt_am (fun h => absurd h.2 (by decide))).trans m1
        have w2 := (x50.2 aw 2 lt_aw (fun h => hne h.1)).trans w2
        have w0 := (x50.2 aw 0 lt_aw (fun h => hne h.1)).trans w0
        have w4 := (x50.2 aw 4 lt_aw (fun h => hne h.1)).trans w4
        have q7 := (x50.2 am 7 lt_am (fun h => absurd h.2 (by decide))).trans q7
        have ht : ∀ i, i < n → et_pl (eg_at G50 tm) i = some (.int (sx (b i))) := fun i hi => (x50.2 tm i lt_tm (fun h => (hi_ne k_tm k_am (by decide)) h.1)).trans (ht i hi)
        have lt_am := Nat.lt_of_lt_of_le lt_am x50.1
        have lt_tm := Nat.lt_of_lt_of_le lt_tm x50.1
        have lt_aw := Nat.lt_of_lt_of_le lt_aw x50.1
        have hX := hX.tr x50 (fun b j hb h => by first | omega | (dsimp only at h ⊢; omega) | (dsimp only at h; omega) | (dsimp only; omega))
        obtain ⟨rfl, th50⟩ := hP50
        show et_go none _ 207 53 _ [.int (Int32.ofNat 1)] _ _ _ _
        refine hs_if1 (c := .ne) (t := 80) (f := 56) (by decide +kernel) (show ¬ Int32.ofNat 1 = 0 by decide) ?_
        refine hs_k (x := Int32.ofNat 0) (p := 81) (by decide +kernel) ?_
        refine hs_iret (by decide +kernel) ?_
        rcases hP with ⟨sq, -⟩ | ⟨_, _, _, hz, _⟩
        · exact ⟨_, _, rfl, hX.wk (fun c j _ h => by first | omega | (dsimp only at h ⊢; omega)), .inr (.inl ⟨⟨xe, xu⟩, sq, rfl, th50, w2⟩)⟩
        · cases hz
      · have hP : P1 aw 2 (sp_one (tz_ts 2 b n 0)) G38 (some (.int (Int32.ofNat 1))) := .inr ⟨f_, C_, sq, rfl, g1, g2, g3, g4, g5⟩
        show et_go none _ 207 41 _ [.int (Int32.ofNat 1), .ref am] _ _ _ _
        refine hs_if1 (c := .ne) (t := 48) (f := 44) (by decide +kernel) (show ¬ Int32.ofNat 1 = 0 by decide) ?_
        refine hs_k (x := Int32.ofNat 0) (p := 49) (by decide +kernel) ?_
        refine hs_k (x := Int32.ofNat 2) (p := 50) (by decide +kernel) ?_
        refine ht_callv (T := et_TT) (t := 13) (mi := 204) (na := 2) (ci := 11) (lk := 4) (lm := 3) (L0 := eg_en (eg_mL 204) [.ref am, .int (Int32.ofNat 0), .int (Int32.ofNat 2)]) (by decide +kernel) rfl hH k_am rfl rfl rfl rfl rfl (by rw [show eg_mL 204 = 3 from by decide +kernel]; first | done | rfl) ?_
        refine (fm_t0 hH k_am).mono (fun u hu => xp_cb hu ?_)
        show et_go none _ 207 53 _ [.int (Int32.ofNat 0)] _ _ _ _
        refine hs_if0 (c := .ne) (t := 80) (f := 56) (by decide +kernel) (show ¬ (¬ Int32.ofNat 0 = 0) by decide) ?_
        refine hs_aload (i := 0) (p := 57) (by decide +kernel) rfl ?_
        refine hs_aload (i := 0) (p := 58) (by decide +kernel) rfl ?_
        refine hf_get (T := et_TT) (t := 13) (ci := 11) (f := 1) (p := 61) (by decide +kernel) rfl hH k_am m1 ?_
        refine hs_k (x := Int32.ofNat 2) (p := 62) (by decide +kernel) ?_
        refine hf_ald (ins := .iaload) (T := et_TT) (t := 46) (kd := 0) (N := 12741) (p := 63) (by decide +kernel) (fun _ _ _ _ _ _ _ _ _ _ => rfl) rfl rfl rfl hH k_aw (by decide) w2 ?_
        refine hs_k (x := Int32.ofNat 6) (p := 65) (by decide +kernel) ?_
        refine hs_br2n (c := .ne) (t := 72) (f := 68) (by decide +kernel) (by omega) (by omega) (fun (c65 : ¬ r = 6) => ?_) (fun (c65 : ¬ (¬ r = 6)) => ?_)
        · refine hs_k (x := Int32.ofNat 0) (p := 73) (by decide +kernel) ?_
          refine hs_k (x := Int32.ofNat 3) (p := 74) (by decide +kernel) ?_
          refine ht_callv (T := et_TT) (t := 13) (mi := 204) (na := 2) (ci := 11) (lk := 4) (lm := 3) (L0 := eg_en (eg_mL 204) [.ref am, .int (Int32.ofNat 0), .int (Int32.ofNat 3)]) (by decide +kernel) rfl hH k_am rfl rfl rfl rfl rfl (by rw [show eg_mL 204 = 3 from by decide +kernel]; first | done | rfl) ?_
          refine (fm_t0 hH k_am).mono (fun u hu => xp_cb hu ?_)
          show et_go none _ 207 77 _ [.int (Int32.ofNat 0)] _ _ _ _
          refine hs_if1 (c := .eq) (t := 82) (f := 80) (by decide +kernel) (show Int32.ofNat 0 = 0 by decide) ?_
          rcases hP with ⟨-, hz⟩ | ⟨f_, C_, sq, -, g1, g2, g3, g4, g5⟩
          · cases hz
          · obtain ⟨F, W, aw2, ta, tp, pt, bg, st, dp, ai2, TP, IK, hB, -, -, ⟨hi, i1, i2, i3, i4, -, -⟩, ⟨eF, eW, -, -, -, -, -⟩, e⟩ := hi_txt hH k_am
            have ew := m1
            rw [eF, hmF_pl (by decide), hB.2.2.1] at ew
            injection ew with ew
            injection ew with ew
            subst ew
            have hW0 := w2
            rw [eW, hmW_pl (by decide)] at hW0
            injection hW0 with hW0
            injection hW0 with hW0
            have hz : ∀ Z : eg_O → Prop, (∀ V : Nat → Int32, (∀ i, i < 841 → V (126 + 841 * (8 + r) + i) = W (11900 + i)) → (∀ i, (i < 126 + 841 * (8 + r) ∨ 126 + 841 * (8 + r) + 841 ≤ i) → V i = W i) → Z (.inl (some (.int (Int32.ofNat r))), hm_H G38 am aw2 F (upd (upd (upd V (114 + 2 * r) ey) (114 + 2 * r + 1) ru) 2 (Int32.ofNat (r + 1))), 0, 0)) → et_go none (d + 35) 207 82 [some (.ref am), some (.int ey), some (.int ru), none] [] G38 0 0 Z := fun Z h => by
              have h1 := tl_claim (d := d + 33) (x3 := none) hB.1 hB.2.2.1 (by omega) hW0 h
              rw [← e] at h1
              exact h1
            refine hz _ (fun V v1 v2 => ?_)
            have hx1 := hm_xf0 (W1 := (upd (upd (upd V (114 + 2 * r) ey) (114 + 2 * r + 1) ru) 2 (Int32.ofNat (r + 1)))) hB.1 e
            have hV : ∀ i, ¬ i = 2 → ¬ i = 114 + 2 * r → ¬ i = 115 + 2 * r → (i < 126 + 841 * (8 + r) ∨ 126 + 841 * (8 + r) + 841 ≤ i) → (upd (upd (upd V (114 + 2 * r) ey) (114 + 2 * r + 1) ru) 2 (Int32.ofNat (r + 1))) i = W i := fun i h1 h2 h3 h4 => (hs_un h1).trans ((hs_un (by omega)).trans ((hs_un h2).trans (v2 i h4)))
            have e1 : eg_at (hm_H G38 am aw2 F (upd (upd (upd V (114 + 2 * r) ey) (114 + 2 * r + 1) ru) 2 (Int32.ofNat (r + 1)))) aw2 = hm_W (upd (upd (upd V (114 + 2 * r) ey) (114 + 2 * r + 1) ru) 2 (Int32.ofNat (r + 1))) := hm_w hB.1
            refine ⟨_, _, rfl, (hX.wk (fun c j _ h => by first | omega | (dsimp only at h ⊢; omega))).tr hx1 (fun c j _ hs => ?_), .inr (.inr (.inr ⟨⟨xe, xu⟩, f_, sq, by omega, rfl, (hx1.2 am 0 lt_am (fun h => hB.1.2.2 h.1)).trans q0, ?_, ?_, ?_, ?_⟩))⟩
            · obtain ⟨rfl, hs⟩ := hs
              refine .inr ⟨rfl, ?_⟩
              refine Decidable.by_contra (fun hc => hs (hV j (by omega) (by omega) (by omega) (by omega)))
            · rw [e1, hmW_pl (by decide)]
              exact congrArg (fun z => some (Value.int z)) hs_us
            · rw [e1, hmW_pl (by omega)]
              exact congrArg (fun z => some (Value.int z)) ((hs_un (by omega)).trans ((hs_un (by omega)).trans hs_us))
            · rw [e1, hmW_pl (by omega), show 115 + 2 * r = 114 + 2 * r + 1 by omega]
              exact congrArg (fun z => some (Value.int z)) ((hs_un (by omega)).trans hs_us)
            · refine txP.mv eW g1 g2 g3 g4 g5 (fun i v hi2 hv => ?_)
              rw [eW, hmW_pl (by omega)] at hv
              rw [e1, hmW_pl (by omega), ← hv]
              exact congrArg (fun z => some (Value.int z)) ((hs_un (by omega)).trans ((hs_un (by omega)).trans ((hs_un (by omega)).trans (v1 i hi2))))
        · refine hs_k (x := Int32.ofNat 1) (p := 69) (by decide +kernel) ?_
          refine hs_goto (p := 73) (by decide +kernel) ?_
          refine hs_k (x := Int32.ofNat 3) (p := 74) (by decide +kernel) ?_
          refine ht_callv (T := et_TT) (t := 13) (mi := 204) (na := 2) (ci := 11) (lk := 4) (lm := 3) (L0 := eg_en (eg_mL 204) [.ref am, .int (Int32.ofNat 1), .int (Int32.ofNat 3)]) (by decide +kernel) rfl hH k_am rfl rfl rfl rfl rfl (by rw [show eg_mL 204 = 3 from by decide +kernel]; first | done | rfl) ?_
          refine (fm_t1 hH k_am).mono (fun u hu => xw_cb hu (fun G74 v74 hH x74 hP74 => ?_))
          have hP := hP.fr x74 lt_aw (fun j hs => hne hs.1)
          have m4 := (x74.2 am 4 lt_am (fun h => absurd h.2 (by decide))).trans m4
          have q5 := (x74.2 am 5 lt_am (fun h => absurd h.2 (by decide))).trans q5
          have m1 := (x74.2 am 1 lt_am (fun h => absurd h.2 (by decide))).trans m1
          have w2 := (x74.2 aw 2 lt_aw (fun h => hne h.1)).trans w2
          have w0 := (x74.2 aw 0 lt_aw (fun h => hne h.1)).trans w0
          have w4 := (x74.2 aw 4 lt_aw (fun h => hne h.1)).trans w4
          have q7 := (x74.2 am 7 lt_am (fun h => absurd h.2 (by decide))).trans q7
          have ht : ∀ i, i < n → et_pl (eg_at G74 tm) i = some (.int (sx (b i))) := fun i hi => (x74.2 tm i lt_tm (fun h => (hi_ne k_tm k_am (by decide)) h.1)).trans (ht i hi)
          have lt_am := Nat.lt_of_lt_of_le lt_am x74.1
          have lt_tm := Nat.lt_of_lt_of_le lt_tm x74.1
          have lt_aw := Nat.lt_of_lt_of_le lt_aw x74.1
          have hX := hX.tr x74 (fun b j hb h => by first | omega | (dsimp only at h ⊢; omega) | (dsimp only at h; omega) | (dsimp only; omega))
          obtain ⟨rfl, th74⟩ := hP74
          show et_go none _ 207 77 _ [.int (Int32.ofNat 1)] _ _ _ _
          refine hs_if0 (c := .eq) (t := 82) (f := 80) (by decide +kernel) (show ¬ (Int32.ofNat 1 = 0) by decide) ?_
          refine hs_k (x := Int32.ofNat 0) (p := 81) (by decide +kernel) ?_
          refine hs_iret (by decide +kernel) ?_
          rcases hP with ⟨-, hz⟩ | ⟨f_, C_, sq, -⟩
          · cases hz
          · exact ⟨_, _, rfl, hX.wk (fun c j _ h => by first | omega | (dsimp only at h ⊢; omega)), .inr (.inr (.inl ⟨⟨xe, xu⟩, by omega, (by rw [sq]; intro h; cases h), rfl, th74, w2⟩))⟩
    · rw [if_neg xu]
      show et_go none _ 207 18 _ [.int (Int32.ofNat 1), .ref am] _ _ _ _
      refine hs_if0 (c := .eq) (t := 25) (f := 21) (by decide +kernel) (show ¬ (Int32.ofNat 1 = 0) by decide) ?_
      refine hs_k (x := Int32.ofNat 1) (p := 22) (by decide +kernel) ?_
      refine hs_goto (p := 26) (by decide +kernel) ?_
      refine hs_k (x := Int32.ofNat 1) (p := 27) (by decide +kernel) ?_
      refine ht_callv (T := et_TT) (t := 13) (mi := 204) (na := 2) (ci := 11) (lk := 4) (lm := 3) (L0 := eg_en (eg_mL 204) [.ref am, .int (Int32.ofNat 1), .int (Int32.ofNat 1)]) (by decide +kernel) rfl hH k_am rfl rfl rfl rfl rfl (by rw [show eg_mL 204 = 3 from by decide +kernel]; first | done | rfl) ?_
      refine (fm_t1 hH k_am).mono (fun u hu => xw_cb hu (fun G27 v27 hH x27 hP27 => ?_))
      have m4 := (x27.2 am 4 lt_am (fun h => absurd h.2 (by decide))).trans m4
      have q5 := (x27.2 am 5 lt_am (fun h => absurd h.2 (by decide))).trans q5
      have m1 := (x27.2 am 1 lt_am (fun h => absurd h.2 (by decide))).trans m1
      have w2 := (x27.2 aw 2 lt_aw (fun h => hne h.1)).trans w2
      have w0 := (x27.2 aw 0 lt_aw (fun h => hne h.1)).trans w0
      have w4 := (x27.2 aw 4 lt_aw (fun h => hne h.1)).trans w4
      have q6 := (x27.2 am 6 lt_am (fun h => absurd h.2 (by decide))).trans q6
      have q7 := (x27.2 am 7 lt_am (fun h => absurd h.2 (by decide))).trans q7
      have q12 := (x27.2 am 12 lt_am (fun h => absurd h.2 (by decide))).trans q12
      have ht : ∀ i, i < n → et_pl (eg_at G27 tm) i = some (.int (sx (b i))) := fun i hi => (x27.2 tm i lt_tm (fun h => (hi_ne k_tm k_am (by decide)) h.1)).trans (ht i hi)
      have lt_am := Nat.lt_of_lt_of_le lt_am x27.1
      have lt_tm := Nat.lt_of_lt_of_le lt_tm x27.1
      have lt_aw := Nat.lt_of_lt_of_le lt_aw x27.1
      have hX := hX.tr x27 (fun b j hb h => by first | omega | (dsimp only at h ⊢; omega) | (dsimp only at h; omega) | (dsimp only; omega))
      obtain ⟨rfl, th27⟩ := hP27
      show et_go none _ 207 30 _ [.int (Int32.ofNat 1)] _ _ _ _
      refine hs_if0 (c := .eq) (t := 35) (f := 33) (by decide +kernel) (show ¬ (Int32.ofNat 1 = 0) by decide) ?_
      refine hs_k (x := Int32.ofNat 0) (p := 34) (by decide +kernel) ?_
      refine hs_iret (by decide +kernel) ?_
      exact ⟨_, _, rfl, hX.wk (fun c j _ h => by first | omega | (dsimp only at h ⊢; omega)), .inl ⟨(fun h => xu h.2), rfl, th27, w2⟩⟩
  · rw [if_neg xe]
    show et_go none _ 207 10 _ [.int (Int32.ofNat 1), .ref am] _ _ _ _
    refine hs_if1 (c := .ne) (t := 21) (f := 13) (by decide +kernel) (show ¬ Int32.ofNat 1 = 0 by decide) ?_
    refine hs_k (x := Int32.ofNat 1) (p := 22) (by decide +kernel) ?_
    refine hs_goto (p := 26) (by decide +kernel) ?_
    refine hs_k (x := Int32.ofNat 1) (p := 27) (by decide +kernel) ?_
    refine ht_callv (T := et_TT) (t := 13) (mi := 204) (na := 2) (ci := 11) (lk := 4) (lm := 3) (L0 := eg_en (eg_mL 204) [.ref am, .int (Int32.ofNat 1), .int (Int32.ofNat 1)]) (by decide +kernel) rfl hH k_am rfl rfl rfl rfl rfl (by rw [show eg_mL 204 = 3 from by decide +kernel]; first | done | rfl) ?_
    refine (fm_t1 hH k_am).mono (fun u hu => xw_cb hu (fun G27 v27 hH x27 hP27 => ?_))
    have m4 := (x27.2 am 4 lt_am (fun h => absurd h.2 (by decide))).trans m4
    have q5 := (x27.2 am 5 lt_am (fun h => absurd h.2 (by decide))).trans q5
    have m1 := (x27.2 am 1 lt_am (fun h => absurd h.2 (by decide))).trans m1
    have w2 := (x27.2 aw 2 lt_aw (fun h => hne h.1)).trans w2
    have w0 := (x27.2 aw 0 lt_aw (fun h => hne h.1)).trans w0
    have w4 := (x27.2 aw 4 lt_aw (fun h => hne h.1)).trans w4
    have q6 := (x27.2 am 6 lt_am (fun h => absurd h.2 (by decide))).trans q6
    have q7 := (x27.2 am 7 lt_am (fun h => absurd h.2 (by decide))).trans q7
    have q12 := (x27.2 am 12 lt_am (fun h => absurd h.2 (by decide))).trans q12
    have ht : ∀ i, i < n → et_pl (eg_at G27 tm) i = some (.int (sx (b i))) := fun i hi => (x27.2 tm i lt_tm (fun h => (hi_ne k_tm k_am (by decide)) h.1)).trans (ht i hi)
    have lt_am := Nat.lt_of_lt_of_le lt_am x27.1
    have lt_tm := Nat.lt_of_lt_of_le lt_tm x27.1
    have lt_aw := Nat.lt_of_lt_of_le lt_aw x27.1
    have hX := hX.tr x27 (fun b j hb h => by first | omega | (dsimp only at h ⊢; omega) | (dsimp only at h; omega) | (dsimp only; omega))
    obtain ⟨rfl, th27⟩ := hP27
    show et_go none _ 207 30 _ [.int (Int32.ofNat 1)] _ _ _ _
    refine hs_if0 (c := .eq) (t := 35) (f := 33) (by decide +kernel) (show ¬ (Int32.ofNat 1 = 0) by decide) ?_
    refine hs_k (x := Int32.ofNat 0) (p := 34) (by decide +kernel) ?_
    refine hs_iret (by decide +kernel) ?_
    exact ⟨_, _, rfl, hX.wk (fun c j _ h => by first | omega | (dsimp only at h ⊢; omega)), .inl ⟨(fun h => xe h.1), rfl, th27, w2⟩⟩
end FRC
