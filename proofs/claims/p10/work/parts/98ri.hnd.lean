/-! FUNCTIONAL: the reference's cards -/
theorem hf_c5 {K : et_K} {n : Nat} {x : Int32} (h1 : 5 ≤ n) (h2 : n ≤ 44) : ∀ s ∈ et_w46, s.1 ≤ n → n ≤ s.2.1 → et_v K s.2.2 (.int x) := by
  intro s hs h3 h4
  have h : et_w46.all (fun s => decide (s.2.1 < 5) || decide (44 < s.1)) = true := by decide +kernel
  have h5 := List.all_eq_true.mp h s hs
  simp only [Bool.or_eq_true, decide_eq_true_eq] at h5
  omega
section FIA
variable {K : et_K} {G G0 : eg_G} {d2 d am aw c : Nat} {x y : Int32}
theorem fm_cards (hH : et_H et_TT K G) (k_am : K am = some 13) (k_aw : K aw = some 46) (m1 : et_pl (eg_at G am) 1 = some (.ref aw)) (w3 : et_pl (eg_at G aw) 3 = some (.int (Int32.ofNat c))) : et_go none d2 218 0 (eg_en (eg_mL 218) [.ref am]) [] G 0 0 (xp_Z G (some (.int (Int32.ofNat c)))) := by
  rw [show eg_mL 218 = 1 from by decide +kernel]
  show et_go none d2 218 0 [some (.ref am)] [] G 0 0 _
  have lt_am := (hH.2.2 _ _ k_am).1
  have lt_aw := (hH.2.2 _ _ k_aw).1
  refine hs_aload (i := 0) (p := 1) (by decide +kernel) rfl ?_
  refine hf_get (T := et_TT) (t := 13) (ci := 11) (f := 1) (p := 4) (by decide +kernel) rfl hH k_am m1 ?_
  refine hs_k (x := Int32.ofNat 3) (p := 5) (by decide +kernel) ?_
  refine hf_ald (ins := .iaload) (T := et_TT) (t := 46) (kd := 0) (N := 12741) (p := 6) (by decide +kernel) (fun _ _ _ _ _ _ _ _ _ _ => rfl) rfl rfl rfl hH k_aw (by decide) w3 ?_
  refine hs_iret (by decide +kernel) ?_
  rfl
theorem fm_away (hH : et_H et_TT K G) (k_am : K am = some 13) (k_aw : K aw = some 46) (m1 : et_pl (eg_at G am) 1 = some (.ref aw)) (w3 : et_pl (eg_at G aw) 3 = some (.int (Int32.ofNat c))) (hc : c ≤ 20) : et_go none (d + 1) 221 0 (eg_en (eg_mL 221) [.ref am]) [] G 0 0 (xw_Z (fun b j => (b = am ∧ j = 0) ∨ (b = aw ∧ j = 3)) K G (fun G' r => et_pl (eg_at G' am) 0 = some (.int (Int32.ofNat 0)) ∧ ((c = 0 ∧ r = some (.int (-1)) ∧ et_pl (eg_at G' aw) 3 = some (.int (Int32.ofNat c))) ∨ (¬ c = 0 ∧ r = some (.int (Int32.ofNat (c - 1))) ∧ et_pl (eg_at G' aw) 3 = some (.int (Int32.ofNat (c - 1))))))) := by
  rw [show eg_mL 221 = 1 from by decide +kernel]
  show et_go none (d + 1) 221 0 [some (.ref am)] [] G 0 0 (xw_Z _ _ _ _)
  have lt_am := (hH.2.2 _ _ k_am).1
  have lt_aw := (hH.2.2 _ _ k_aw).1
  have hX : xf (fun b j => (b = am ∧ j = 0) ∨ (b = aw ∧ j = 3)) G G := xf.rf
  refine hs_aload (i := 0) (p := 1) (by decide +kernel) rfl ?_
  refine hs_k (x := Int32.ofNat 0) (p := 2) (by decide +kernel) ?_
  refine hf_put (T := et_TT) (t := 13) (ci := 11) (f := 0) (p := 5) (ty := .int) (by decide +kernel) rfl rfl rfl rfl rfl hH k_am hi_any (fun G2 hH x2 e2 => ?_)
  have m1 := (x2.2 am 1 lt_am (fun h => absurd h.2 (by decide))).trans m1
  have w3 := (x2.2 aw 3 lt_aw (fun h => (hi_ne k_aw k_am (by decide)) h.1)).trans w3
  have lt_am := Nat.lt_of_lt_of_le lt_am x2.1
  have lt_aw := Nat.lt_of_lt_of_le lt_aw x2.1
  have hX := hX.tr x2 (fun b j hb h => by first | omega | (dsimp only at h ⊢; omega) | (dsimp only at h; omega) | (dsimp only; omega))
  refine hs_aload (i := 0) (p := 6) (by decide +kernel) rfl ?_
  refine ht_callv (T := et_TT) (t := 13) (mi := 218) (na := 0) (ci := 11) (lk := 1) (lm := 1) (L0 := eg_en (eg_mL 218) [.ref am]) (by decide +kernel) rfl hH k_am rfl rfl rfl rfl rfl (by rw [show eg_mL 218 = 1 from by decide +kernel]; first | done | rfl) ?_
  refine (fm_cards hH k_am k_aw m1 w3).mono (fun u hu => xp_cb hu ?_)
  show et_go none _ 221 9 _ [.int (Int32.ofNat c)] _ _ _ _
  refine hs_br1 (c := .ne) (t := 14) (f := 12) (by decide +kernel) (fun (c9 : ¬ Int32.ofNat c = 0) => ?_) (fun (c9 : ¬ (¬ Int32.ofNat c = 0)) => ?_)
  · have c9 : ¬ c = 0 := fun h => c9 (by rw [h]; rfl)
    refine hs_aload (i := 0) (p := 15) (by decide +kernel) rfl ?_
    refine hf_get (T := et_TT) (t := 13) (ci := 11) (f := 1) (p := 18) (by decide +kernel) rfl hH k_am m1 ?_
    refine hs_k (x := Int32.ofNat 3) (p := 19) (by decide +kernel) ?_
    refine hs_dup2 (p := 20) (by decide +kernel) ?_
    refine hf_ald (ins := .iaload) (T := et_TT) (t := 46) (kd := 0) (N := 12741) (p := 21) (by decide +kernel) (fun _ _ _ _ _ _ _ _ _ _ => rfl) rfl rfl rfl hH k_aw (by decide) w3 ?_
    refine hs_k (x := Int32.ofNat 1) (p := 22) (by decide +kernel) ?_
    refine hs_isubn (p := 23) (by decide +kernel) (by omega) ?_
    refine hf_wst (p := 24) (by decide +kernel) hH k_aw (by omega) (hf_wk (p := .inl (0, 20)) (by decide +kernel) (hi_nv (by omega) (by omega))) (fun G23 hH x23 e23 => ?_)
    have m1 := (x23.2 am 1 lt_am (fun h => (hi_ne k_am k_aw (by decide)) h.1)).trans m1
    have e2 := (x23.2 am 0 lt_am (fun h => (hi_ne k_am k_aw (by decide)) h.1)).trans e2
    have lt_am := Nat.lt_of_lt_of_le lt_am x23.1
    have lt_aw := Nat.lt_of_lt_of_le lt_aw x23.1
    have hX := hX.tr x23 (fun b j hb h => by first | omega | (dsimp only at h ⊢; omega) | (dsimp only at h; omega) | (dsimp only; omega))
    refine hs_aload (i := 0) (p := 25) (by decide +kernel) rfl ?_
    refine ht_callv (T := et_TT) (t := 13) (mi := 218) (na := 0) (ci := 11) (lk := 1) (lm := 1) (L0 := eg_en (eg_mL 218) [.ref am]) (by decide +kernel) rfl hH k_am rfl rfl rfl rfl rfl (by rw [show eg_mL 218 = 1 from by decide +kernel]; first | done | rfl) ?_
    refine (fm_cards hH k_am k_aw m1 e23).mono (fun u hu => xp_cb hu ?_)
    show et_go none _ 221 28 _ [.int (Int32.ofNat (c - 1))] _ _ _ _
    refine hs_iret (by decide +kernel) ?_
    exact ⟨_, _, rfl, hH, hX, e2, .inr ⟨c9, rfl, e23⟩⟩
  · have c9 : c = 0 := by have h := Decidable.of_not_not c9; have h2 := congrArg Int32.toInt h; rw [hs_nint (by omega)] at h2; have h3 : (0 : Int32).toInt = 0 := rfl; omega
    refine hs_k (x := (-1)) (p := 13) (by decide +kernel) ?_
    refine hs_iret (by decide +kernel) ?_
    exact ⟨_, _, rfl, hH, hX, e2, .inl ⟨c9, rfl, w3⟩⟩
theorem fm_puts (hH : et_H et_TT K G) (k_am : K am = some 13) (k_aw : K aw = some 46) (m1 : et_pl (eg_at G am) 1 = some (.ref aw)) (w3 : et_pl (eg_at G aw) 3 = some (.int (Int32.ofNat c))) (hc : c < 20) : et_go none (d + 1) 219 0 (eg_en (eg_mL 219) [.ref am, .int x, .int y]) [] G 0 0 (xw_Z (fun b j => (b = aw ∧ j = 3) ∨ (b = aw ∧ (5 + 2 * c ≤ j ∧ j ≤ 5 + 2 * c + 1))) K G (fun G' r => r = some (.int (Int32.ofNat c)) ∧ et_pl (eg_at G' aw) 3 = some (.int (Int32.ofNat (c + 1))) ∧ et_pl (eg_at G' aw) (5 + 2 * c) = some (.int x) ∧ et_pl (eg_at G' aw) (5 + 2 * c + 1) = some (.int (if y = 0 then 0 else 1)))) := by
  rw [show eg_mL 219 = 4 from by decide +kernel]
  show et_go none (d + 1) 219 0 [some (.ref am), some (.int x), some (.int y), none] [] G 0 0 (xw_Z _ _ _ _)
  have lt_am := (hH.2.2 _ _ k_am).1
  have lt_aw := (hH.2.2 _ _ k_aw).1
  have hX : xf (fun b j => (b = aw ∧ j = 3) ∨ (b = aw ∧ (5 + 2 * c ≤ j ∧ j ≤ 5 + 2 * c + 1))) G G := xf.rf
  refine hs_aload (i := 0) (p := 1) (by decide +kernel) rfl ?_
  refine ht_callv (T := et_TT) (t := 13) (mi := 218) (na := 0) (ci := 11) (lk := 4) (lm := 1) (L0 := eg_en (eg_mL 218) [.ref am]) (by decide +kernel) rfl hH k_am rfl rfl rfl rfl rfl (by rw [show eg_mL 218 = 1 from by decide +kernel]; first | done | rfl) ?_
  refine (fm_cards hH k_am k_aw m1 w3).mono (fun u hu => xp_cb hu ?_)
  show et_go none _ 219 4 _ [.int (Int32.ofNat c)] _ _ _ _
  refine hs_istore (i := 3) (p := 5) (by decide +kernel) (Nat.le_of_ble_eq_true rfl) ?_
  refine hs_aload (i := 0) (p := 6) (by decide +kernel) rfl ?_
  refine hf_get (T := et_TT) (t := 13) (ci := 11) (f := 1) (p := 9) (by decide +kernel) rfl hH k_am m1 ?_
  refine hs_k (x := Int32.ofNat 5) (p := 10) (by decide +kernel) ?_
  refine hs_k (x := Int32.ofNat 2) (p := 11) (by decide +kernel) ?_
  refine hs_iload (i := 3) (p := 12) (by decide +kernel) rfl ?_
  refine hs_imuln (p := 13) (by decide +kernel) ?_
  refine hs_iaddn (p := 14) (by decide +kernel) ?_
  refine hs_iload (i := 1) (p := 15) (by decide +kernel) rfl ?_
  refine hf_wst (p := 16) (by decide +kernel) hH k_aw (by omega) (hf_c5 (by omega) (by omega)) (fun G15 hH x15 e15 => ?_)
  have m1 := (x15.2 am 1 lt_am (fun h => (hi_ne k_am k_aw (by decide)) h.1)).trans m1
  have w3 := (x15.2 aw 3 lt_aw (fun h => by have h := h.2; omega)).trans w3
  have lt_am := Nat.lt_of_lt_of_le lt_am x15.1
  have lt_aw := Nat.lt_of_lt_of_le lt_aw x15.1
  have hX := hX.tr x15 (fun b j hb h => by first | omega | (dsimp only at h ⊢; omega) | (dsimp only at h; omega) | (dsimp only; omega))
  refine hs_aload (i := 0) (p := 17) (by decide +kernel) rfl ?_
  refine hf_get (T := et_TT) (t := 13) (ci := 11) (f := 1) (p := 20) (by decide +kernel) rfl hH k_am m1 ?_
  refine hs_k (x := Int32.ofNat 5) (p := 21) (by decide +kernel) ?_
  refine hs_k (x := Int32.ofNat 2) (p := 22) (by decide +kernel) ?_
  refine hs_iload (i := 3) (p := 23) (by decide +kernel) rfl ?_
  refine hs_imuln (p := 24) (by decide +kernel) ?_
  refine hs_iaddn (p := 25) (by decide +kernel) ?_
  refine hs_k (x := Int32.ofNat 1) (p := 26) (by decide +kernel) ?_
  refine hs_iaddn (p := 27) (by decide +kernel) ?_
  refine hs_iload (i := 2) (p := 28) (by decide +kernel) rfl ?_
  refine hs_br1 (c := .eq) (t := 35) (f := 31) (by decide +kernel) (fun (c28 : y = 0) => ?_) (fun (c28 : ¬ (y = 0)) => ?_)
  · refine hs_k (x := Int32.ofNat 0) (p := 36) (by decide +kernel) ?_
    refine hf_wst (p := 37) (by decide +kernel) hH k_aw (by omega) (hf_c5 (by omega) (by omega)) (fun G36 hH x36 e36 => ?_)
    have m1 := (x36.2 am 1 lt_am (fun h => (hi_ne k_am k_aw (by decide)) h.1)).trans m1
    have w3 := (x36.2 aw 3 lt_aw (fun h => by have h := h.2; omega)).trans w3
    have e15 := (x36.2 aw (5 + (2 * c)) lt_aw (fun h => by have h := h.2; omega)).trans e15
    have lt_am := Nat.lt_of_lt_of_le lt_am x36.1
    have lt_aw := Nat.lt_of_lt_of_le lt_aw x36.1
    have hX := hX.tr x36 (fun b j hb h => by first | omega | (dsimp only at h ⊢; omega) | (dsimp only at h; omega) | (dsimp only; omega))
    refine hs_aload (i := 0) (p := 38) (by decide +kernel) rfl ?_
    refine hf_get (T := et_TT) (t := 13) (ci := 11) (f := 1) (p := 41) (by decide +kernel) rfl hH k_am m1 ?_
    refine hs_k (x := Int32.ofNat 3) (p := 42) (by decide +kernel) ?_
    refine hs_dup2 (p := 43) (by decide +kernel) ?_
    refine hf_ald (ins := .iaload) (T := et_TT) (t := 46) (kd := 0) (N := 12741) (p := 44) (by decide +kernel) (fun _ _ _ _ _ _ _ _ _ _ => rfl) rfl rfl rfl hH k_aw (by decide) w3 ?_
    refine hs_k (x := Int32.ofNat 1) (p := 45) (by decide +kernel) ?_
    refine hs_iaddn (p := 46) (by decide +kernel) ?_
    refine hf_wst (p := 47) (by decide +kernel) hH k_aw (by omega) (hf_wk (p := .inl (0, 20)) (by decide +kernel) (hi_nv (by omega) (by omega))) (fun G46 hH x46 e46 => ?_)
    have m1 := (x46.2 am 1 lt_am (fun h => (hi_ne k_am k_aw (by decide)) h.1)).trans m1
    have e15 := (x46.2 aw (5 + (2 * c)) lt_aw (fun h => by have h := h.2; omega)).trans e15
    have e36 := (x46.2 aw ((5 + (2 * c)) + 1) lt_aw (fun h => by have h := h.2; omega)).trans e36
    have lt_am := Nat.lt_of_lt_of_le lt_am x46.1
    have lt_aw := Nat.lt_of_lt_of_le lt_aw x46.1
    have hX := hX.tr x46 (fun b j hb h => by first | omega | (dsimp only at h ⊢; omega) | (dsimp only at h; omega) | (dsimp only; omega))
    refine hs_iload (i := 3) (p := 48) (by decide +kernel) rfl ?_
    refine hs_iret (by decide +kernel) ?_
    rw [if_pos c28]
    exact ⟨_, _, rfl, hH, hX, rfl, e46, pl_eq e15 (by omega), pl_eq e36 (by omega)⟩
  · refine hs_k (x := Int32.ofNat 1) (p := 32) (by decide +kernel) ?_
    refine hs_goto (p := 36) (by decide +kernel) ?_
    refine hf_wst (p := 37) (by decide +kernel) hH k_aw (by omega) (hf_c5 (by omega) (by omega)) (fun G36 hH x36 e36 => ?_)
    have m1 := (x36.2 am 1 lt_am (fun h => (hi_ne k_am k_aw (by decide)) h.1)).trans m1
    have w3 := (x36.2 aw 3 lt_aw (fun h => by have h := h.2; omega)).trans w3
    have e15 := (x36.2 aw (5 + (2 * c)) lt_aw (fun h => by have h := h.2; omega)).trans e15
    have lt_am := Nat.lt_of_lt_of_le lt_am x36.1
    have lt_aw := Nat.lt_of_lt_of_le lt_aw x36.1
    have hX := hX.tr x36 (fun b j hb h => by first | omega | (dsimp only at h ⊢; omega) | (dsimp only at h; omega) | (dsimp only; omega))
    refine hs_aload (i := 0) (p := 38) (by decide +kernel) rfl ?_
    refine hf_get (T := et_TT) (t := 13) (ci := 11) (f := 1) (p := 41) (by decide +kernel) rfl hH k_am m1 ?_
    refine hs_k (x := Int32.ofNat 3) (p := 42) (by decide +kernel) ?_
    refine hs_dup2 (p := 43) (by decide +kernel) ?_
    refine hf_ald (ins := .iaload) (T := et_TT) (t := 46) (kd := 0) (N := 12741) (p := 44) (by decide +kernel) (fun _ _ _ _ _ _ _ _ _ _ => rfl) rfl rfl rfl hH k_aw (by decide) w3 ?_
    refine hs_k (x := Int32.ofNat 1) (p := 45) (by decide +kernel) ?_
    refine hs_iaddn (p := 46) (by decide +kernel) ?_
    refine hf_wst (p := 47) (by decide +kernel) hH k_aw (by omega) (hf_wk (p := .inl (0, 20)) (by decide +kernel) (hi_nv (by omega) (by omega))) (fun G46 hH x46 e46 => ?_)
    have m1 := (x46.2 am 1 lt_am (fun h => (hi_ne k_am k_aw (by decide)) h.1)).trans m1
    have e15 := (x46.2 aw (5 + (2 * c)) lt_aw (fun h => by have h := h.2; omega)).trans e15
    have e36 := (x46.2 aw ((5 + (2 * c)) + 1) lt_aw (fun h => by have h := h.2; omega)).trans e36
    have lt_am := Nat.lt_of_lt_of_le lt_am x46.1
    have lt_aw := Nat.lt_of_lt_of_le lt_aw x46.1
    have hX := hX.tr x46 (fun b j hb h => by first | omega | (dsimp only at h ⊢; omega) | (dsimp only at h; omega) | (dsimp only; omega))
    refine hs_iload (i := 3) (p := 48) (by decide +kernel) rfl ?_
    refine hs_iret (by decide +kernel) ?_
    rw [if_neg c28]
    exact ⟨_, _, rfl, hH, hX, rfl, e46, pl_eq e15 (by omega), pl_eq e36 (by omega)⟩
theorem fm_noLit : et_go none (d + 1) 212 0 (eg_en (eg_mL 212) [.int x]) [] G 0 0 (xp_Z G (some (.int (Int32.ofNat (if 0 ≤ x.toInt ∧ x.toInt < 65536 then 0 else 1))))) := by
  have hz : (Int32.ofNat 0).toInt = 0 := rfl
  have h6 : (65535 : Int32).toInt = 65535 := rfl
  rw [show eg_mL 212 = 1 from by decide +kernel]
  show et_go none (d + 1) 212 0 [some (.int x)] [] G 0 0 _
  refine hs_iload (i := 0) (p := 1) (by decide +kernel) rfl ?_
  refine hs_k (x := Int32.ofNat 0) (p := 2) (by decide +kernel) ?_
  refine hs_kld (v := .int 65535) (p := 4) (by decide +kernel) ?_
  refine hs_calls (mi := 209) (na := 3) (lk := 1) (lm := 3) (L0 := eg_en (eg_mL 209) [.int x, .int (Int32.ofNat 0), .int 65535]) (by decide +kernel) rfl rfl rfl rfl rfl rfl (by rw [show eg_mL 209 = 3 from by decide +kernel]; first | done | rfl) ?_
  refine (fm_in (x := x) (y := Int32.ofNat 0) (z := 65535)).mono (fun u hu => xp_cb hu ?_)
  by_cases xl : (Int32.ofNat 0).toInt ≤ x.toInt ∧ x.toInt ≤ (65535 : Int32).toInt
  · rw [if_pos xl]
    show et_go none _ 212 7 _ [.int (Int32.ofNat 1)] _ _ _ _
    refine hs_if1 (c := .ne) (t := 14) (f := 10) (by decide +kernel) (show ¬ Int32.ofNat 1 = 0 by decide) ?_
    refine hs_k (x := Int32.ofNat 0) (p := 15) (by decide +kernel) ?_
    refine hs_zret (by decide +kernel) (.inl rfl) ?_
    rw [hz, h6] at xl
    rw [if_pos (by omega)]
    rfl
  · rw [if_neg xl]
    show et_go none _ 212 7 _ [.int (Int32.ofNat 0)] _ _ _ _
    refine hs_if0 (c := .ne) (t := 14) (f := 10) (by decide +kernel) (show ¬ (¬ Int32.ofNat 0 = 0) by decide) ?_
    refine hs_k (x := Int32.ofNat 1) (p := 11) (by decide +kernel) ?_
    refine hs_goto (p := 15) (by decide +kernel) ?_
    refine hs_zret (by decide +kernel) (.inr rfl) ?_
    rw [hz, h6] at xl
    rw [if_neg (by omega)]
    rfl
theorem fm_card (hH : et_H et_TT K G) (k_am : K am = some 13) (k_aw : K aw = some 46) (m1 : et_pl (eg_at G am) 1 = some (.ref aw)) (w3 : et_pl (eg_at G aw) 3 = some (.int (Int32.ofNat c))) (hc : c ≤ 20) (hd : 2 ≤ d2) : et_go none d2 217 0 (eg_en (eg_mL 217) [.ref am, .int x, .int y]) [] G 0 0 (xw_Z (fun b j => (b = am ∧ j = 0) ∨ ((b = aw ∧ j = 3) ∨ (b = aw ∧ (5 + 2 * c ≤ j ∧ j ≤ 5 + 2 * c + 1)))) K G (fun G' r => (¬ (0 ≤ x.toInt ∧ x.toInt < 65536) ∧ r = some (.int (Int32.ofNat 0)) ∧ et_pl (eg_at G' am) 0 = some (.int (Int32.ofNat 1)) ∧ et_pl (eg_at G' aw) 3 = some (.int (Int32.ofNat c))) ∨ ((0 ≤ x.toInt ∧ x.toInt < 65536) ∧ c = 20 ∧ r = some (.int (Int32.ofNat 0)) ∧ et_pl (eg_at G' am) 0 = some (.int (Int32.ofNat 2)) ∧ et_pl (eg_at G' aw) 3 = some (.int (Int32.ofNat c))) ∨ ((0 ≤ x.toInt ∧ x.toInt < 65536) ∧ c < 20 ∧ r = some (.int (Int32.ofNat c)) ∧ et_pl (eg_at G' am) 0 = some (.int (Int32.ofNat 0)) ∧ et_pl (eg_at G' aw) 3 = some (.int (Int32.ofNat (c + 1))) ∧ et_pl (eg_at G' aw) (5 + 2 * c) = some (.int x) ∧ et_pl (eg_at G' aw) (5 + 2 * c + 1) = some (.int (if y = 0 then 0 else 1))))) := by
  obtain ⟨d, rfl⟩ : ∃ d, d2 = d + 2 := ⟨d2 - 2, by omega⟩
  rw [show eg_mL 217 = 3 from by decide +kernel]
  show et_go none (d + 2) 217 0 [some (.ref am), some (.int x), some (.int y)] [] G 0 0 (xw_Z _ _ _ _)
  have lt_am := (hH.2.2 _ _ k_am).1
  have lt_aw := (hH.2.2 _ _ k_aw).1
  have hX : xf (fun b j => (b = am ∧ j = 0) ∨ ((b = aw ∧ j = 3) ∨ (b = aw ∧ (5 + 2 * c ≤ j ∧ j ≤ 5 + 2 * c + 1)))) G G := xf.rf
  refine hs_aload (i := 0) (p := 1) (by decide +kernel) rfl ?_
  refine hs_k (x := Int32.ofNat 0) (p := 2) (by decide +kernel) ?_
  refine hf_put (T := et_TT) (t := 13) (ci := 11) (f := 0) (p := 5) (ty := .int) (by decide +kernel) rfl rfl rfl rfl rfl hH k_am hi_any (fun G2 hH x2 e2 => ?_)
  have m1 := (x2.2 am 1 lt_am (fun h => absurd h.2 (by decide))).trans m1
  have w3 := (x2.2 aw 3 lt_aw (fun h => (hi_ne k_aw k_am (by decide)) h.1)).trans w3
  have lt_am := Nat.lt_of_lt_of_le lt_am x2.1
  have lt_aw := Nat.lt_of_lt_of_le lt_aw x2.1
  have hX := hX.tr x2 (fun b j hb h => by first | omega | (dsimp only at h ⊢; omega) | (dsimp only at h; omega) | (dsimp only; omega))
  refine hs_aload (i := 0) (p := 6) (by decide +kernel) rfl ?_
  refine hs_iload (i := 1) (p := 7) (by decide +kernel) rfl ?_
  refine hs_calls (mi := 212) (na := 1) (lk := 3) (lm := 1) (L0 := eg_en (eg_mL 212) [.int x]) (by decide +kernel) rfl rfl rfl rfl rfl rfl (by rw [show eg_mL 212 = 1 from by decide +kernel]; first | done | rfl) ?_
  refine (fm_noLit (x := x)).mono (fun u hu => xp_cb hu ?_)
  by_cases xl : 0 ≤ x.toInt ∧ x.toInt < 65536
  · rw [if_pos xl]
    show et_go none _ 217 10 _ [.int (Int32.ofNat 0), .ref am] _ _ _ _
    refine hs_k (x := Int32.ofNat 1) (p := 11) (by decide +kernel) ?_
    refine ht_callv (T := et_TT) (t := 13) (mi := 204) (na := 2) (ci := 11) (lk := 3) (lm := 3) (L0 := eg_en (eg_mL 204) [.ref am, .int (Int32.ofNat 0), .int (Int32.ofNat 1)]) (by decide +kernel) rfl hH k_am rfl rfl rfl rfl rfl (by rw [show eg_mL 204 = 3 from by decide +kernel]; first | done | rfl) ?_
    refine (fm_t0 hH k_am).mono (fun u hu => xp_cb hu ?_)
    show et_go none _ 217 14 _ [.int (Int32.ofNat 0)] _ _ _ _
    refine hs_if0 (c := .ne) (t := 39) (f := 17) (by decide +kernel) (show ¬ (¬ Int32.ofNat 0 = 0) by decide) ?_
    refine hs_aload (i := 0) (p := 18) (by decide +kernel) rfl ?_
    refine hs_aload (i := 0) (p := 19) (by decide +kernel) rfl ?_
    refine ht_callv (T := et_TT) (t := 13) (mi := 218) (na := 0) (ci := 11) (lk := 3) (lm := 1) (L0 := eg_en (eg_mL 218) [.ref am]) (by decide +kernel) rfl hH k_am rfl rfl rfl rfl rfl (by rw [show eg_mL 218 = 1 from by decide +kernel]; first | done | rfl) ?_
    refine (fm_cards hH k_am k_aw m1 w3).mono (fun u hu => xp_cb hu ?_)
    show et_go none _ 217 22 _ [.int (Int32.ofNat c), .ref am] _ _ _ _
    refine hs_k (x := Int32.ofNat 20) (p := 24) (by decide +kernel) ?_
    refine hs_br2n (c := .ne) (t := 31) (f := 27) (by decide +kernel) (by omega) (by omega) (fun (c24 : ¬ c = 20) => ?_) (fun (c24 : ¬ (¬ c = 20)) => ?_)
    · refine hs_k (x := Int32.ofNat 0) (p := 32) (by decide +kernel) ?_
      refine hs_k (x := Int32.ofNat 2) (p := 33) (by decide +kernel) ?_
      refine ht_callv (T := et_TT) (t := 13) (mi := 204) (na := 2) (ci := 11) (lk := 3) (lm := 3) (L0 := eg_en (eg_mL 204) [.ref am, .int (Int32.ofNat 0), .int (Int32.ofNat 2)]) (by decide +kernel) rfl hH k_am rfl rfl rfl rfl rfl (by rw [show eg_mL 204 = 3 from by decide +kernel]; first | done | rfl) ?_
      refine (fm_t0 hH k_am).mono (fun u hu => xp_cb hu ?_)
      show et_go none _ 217 36 _ [.int (Int32.ofNat 0)] _ _ _ _
      refine hs_if1 (c := .eq) (t := 43) (f := 39) (by decide +kernel) (show Int32.ofNat 0 = 0 by decide) ?_
      refine hs_aload (i := 0) (p := 44) (by decide +kernel) rfl ?_
      refine hs_iload (i := 1) (p := 45) (by decide +kernel) rfl ?_
      refine hs_iload (i := 2) (p := 46) (by decide +kernel) rfl ?_
      refine ht_callv (T := et_TT) (t := 13) (mi := 219) (na := 2) (ci := 11) (lk := 3) (lm := 4) (L0 := eg_en (eg_mL 219) [.ref am, .int x, .int y]) (by decide +kernel) rfl hH k_am rfl rfl rfl rfl rfl (by rw [show eg_mL 219 = 4 from by decide +kernel]; first | done | rfl) ?_
      refine (fm_puts (x := x) (y := y) hH k_am k_aw m1 w3 (by omega)).mono (fun u hu => xw_cb hu (fun G46 v46 hH x46 hP46 => ?_))
      have m1 := (x46.2 am 1 lt_am (fun h => Or.elim h (fun h => (hi_ne k_am k_aw (by decide)) h.1) (fun h => (hi_ne k_am k_aw (by decide)) h.1))).trans m1
      have e2 := (x46.2 am 0 lt_am (fun h => Or.elim h (fun h => (hi_ne k_am k_aw (by decide)) h.1) (fun h => (hi_ne k_am k_aw (by decide)) h.1))).trans e2
      have lt_am := Nat.lt_of_lt_of_le lt_am x46.1
      have lt_aw := Nat.lt_of_lt_of_le lt_aw x46.1
      have hX := hX.tr x46 (fun b j hb h => by first | omega | (dsimp only at h ⊢; omega) | (dsimp only at h; omega) | (dsimp only; omega))
      obtain ⟨rfl, p3, p5, p6⟩ := hP46
      show et_go none _ 217 49 _ [.int (Int32.ofNat c)] _ _ _ _
      refine hs_iret (by decide +kernel) ?_
      exact ⟨_, _, rfl, hH, hX, .inr (.inr ⟨xl, by omega, rfl, e2, p3, p5, p6⟩)⟩
    · refine hs_k (x := Int32.ofNat 1) (p := 28) (by decide +kernel) ?_
      refine hs_goto (p := 32) (by decide +kernel) ?_
      refine hs_k (x := Int32.ofNat 2) (p := 33) (by decide +kernel) ?_
      refine ht_callv (T := et_TT) (t := 13) (mi := 204) (na := 2) (ci := 11) (lk := 3) (lm := 3) (L0 := eg_en (eg_mL 204) [.ref am, .int (Int32.ofNat 1), .int (Int32.ofNat 2)]) (by decide +kernel) rfl hH k_am rfl rfl rfl rfl rfl (by rw [show eg_mL 204 = 3 from by decide +kernel]; first | done | rfl) ?_
      refine (fm_t1 hH k_am).mono (fun u hu => xw_cb hu (fun G33 v33 hH x33 hP33 => ?_))
      have m1 := (x33.2 am 1 lt_am (fun h => absurd h.2 (by decide))).trans m1
      have w3 := (x33.2 aw 3 lt_aw (fun h => (hi_ne k_aw k_am (by decide)) h.1)).trans w3
      have lt_am := Nat.lt_of_lt_of_le lt_am x33.1
      have lt_aw := Nat.lt_of_lt_of_le lt_aw x33.1
      have hX := hX.tr x33 (fun b j hb h => by first | omega | (dsimp only at h ⊢; omega) | (dsimp only at h; omega) | (dsimp only; omega))
      obtain ⟨rfl, th33⟩ := hP33
      show et_go none _ 217 36 _ [.int (Int32.ofNat 1)] _ _ _ _
      refine hs_if0 (c := .eq) (t := 43) (f := 39) (by decide +kernel) (show ¬ (Int32.ofNat 1 = 0) by decide) ?_
      refine hs_k (x := Int32.ofNat 0) (p := 40) (by decide +kernel) ?_
      refine hs_goto (p := 49) (by decide +kernel) ?_
      refine hs_iret (by decide +kernel) ?_
      exact ⟨_, _, rfl, hH, hX, .inr (.inl ⟨xl, by omega, rfl, th33, w3⟩)⟩
  · rw [if_neg xl]
    show et_go none _ 217 10 _ [.int (Int32.ofNat 1), .ref am] _ _ _ _
    refine hs_k (x := Int32.ofNat 1) (p := 11) (by decide +kernel) ?_
    refine ht_callv (T := et_TT) (t := 13) (mi := 204) (na := 2) (ci := 11) (lk := 3) (lm := 3) (L0 := eg_en (eg_mL 204) [.ref am, .int (Int32.ofNat 1), .int (Int32.ofNat 1)]) (by decide +kernel) rfl hH k_am rfl rfl rfl rfl rfl (by rw [show eg_mL 204 = 3 from by decide +kernel]; first | done | rfl) ?_
    refine (fm_t1 hH k_am).mono (fun u hu => xw_cb hu (fun G11 v11 hH x11 hP11 => ?_))
    have m1 := (x11.2 am 1 lt_am (fun h => absurd h.2 (by decide))).trans m1
    have w3 := (x11.2 aw 3 lt_aw (fun h => (hi_ne k_aw k_am (by decide)) h.1)).trans w3
    have lt_am := Nat.lt_of_lt_of_le lt_am x11.1
    have lt_aw := Nat.lt_of_lt_of_le lt_aw x11.1
    have hX := hX.tr x11 (fun b j hb h => by first | omega | (dsimp only at h ⊢; omega) | (dsimp only at h; omega) | (dsimp only; omega))
    obtain ⟨rfl, th11⟩ := hP11
    show et_go none _ 217 14 _ [.int (Int32.ofNat 1)] _ _ _ _
    refine hs_if1 (c := .ne) (t := 39) (f := 17) (by decide +kernel) (show ¬ Int32.ofNat 1 = 0 by decide) ?_
    refine hs_k (x := Int32.ofNat 0) (p := 40) (by decide +kernel) ?_
    refine hs_goto (p := 49) (by decide +kernel) ?_
    refine hs_iret (by decide +kernel) ?_
    exact ⟨_, _, rfl, hH, hX, .inl ⟨xl, rfl, th11, w3⟩⟩
end FIA
