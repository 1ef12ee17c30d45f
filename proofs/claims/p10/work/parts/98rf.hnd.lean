/-! FUNCTIONAL: the reference's feed, end -/
def xs5 (y1 y2 y3 y4 y5 : Int32) (i : Nat) : Int32 := if i = 0 then y1 else if i = 1 then y2 else if i = 2 then y3 else if i = 3 then y4 else y5
def tb5 (tb : Nat → Nat) (c : Nat) (y1 y2 y3 y4 y5 : Int32) : Nat → Nat := tb4 (tb4 (tb4 (tb4 (tb4 tb c y1) (c + 4) y2) (c + 4 + 4) y3) (c + 4 + 4 + 4) y4) (c + 4 + 4 + 4 + 4) y5
theorem tb5_lo {tb : Nat → Nat} {c i : Nat} {y1 y2 y3 y4 y5 : Int32} (h : i < c) : tb5 tb c y1 y2 y3 y4 y5 i = tb i := by
  unfold tb5 tb4
  rw [if_pos (by omega), if_pos (by omega), if_pos (by omega), if_pos (by omega), if_pos (by omega)]
theorem tb5_at {tb : Nat → Nat} {c k : Nat} {y1 y2 y3 y4 y5 : Int32} (h : k < 20) : tb5 tb c y1 y2 y3 y4 y5 (c + k) = by4 (xs5 y1 y2 y3 y4 y5 (k / 4)) (24 - 8 * (k % 4)) := by
  unfold tb5 tb4 xs5
  rcases (by omega : k / 4 = 0 ∨ k / 4 = 1 ∨ k / 4 = 2 ∨ k / 4 = 3 ∨ k / 4 = 4) with e | e | e | e | e
  · rw [if_pos (by omega), if_pos (by omega), if_pos (by omega), if_pos (by omega), if_neg (by omega), e, show c + k - c = k % 4 by omega]
    rfl
  · rw [if_pos (by omega), if_pos (by omega), if_pos (by omega), if_neg (by omega), e, show c + k - (c + 4) = k % 4 by omega]
    rfl
  · rw [if_pos (by omega), if_pos (by omega), if_neg (by omega), e, show c + k - (c + 4 + 4) = k % 4 by omega]
    rfl
  · rw [if_pos (by omega), if_neg (by omega), e, show c + k - (c + 4 + 4 + 4) = k % 4 by omega]
    rfl
  · rw [if_neg (by omega), e, show c + k - (c + 4 + 4 + 4 + 4) = k % 4 by omega]
    rfl
theorem by_m {k : Nat} : 24 - 8 * (k % 4) ∈ [0, 8, 16, 24] := by
  have h : k % 4 < 4 := Nat.mod_lt _ (by decide)
  have h1 : ∀ r ∈ List.range 4, 24 - 8 * r ∈ [0, 8, 16, 24] := by decide
  exact h1 _ (List.mem_range.mpr h)
theorem by_d {k : Nat} (h : k < 20) : Int32.ofNat k / Int32.ofNat 4 = Int32.ofNat (k / 4) := by
  have h1 : ∀ k ∈ List.range 20, Int32.ofNat k / Int32.ofNat 4 = Int32.ofNat (k / 4) := by decide +kernel
  exact h1 _ (List.mem_range.mpr h)
theorem by_r {k : Nat} (h : k < 20) : Int32.ofNat k - Int32.ofNat k / Int32.ofNat 4 * Int32.ofNat 4 = Int32.ofNat (k % 4) := by
  have h1 : ∀ k ∈ List.range 20, Int32.ofNat k - Int32.ofNat k / Int32.ofNat 4 * Int32.ofNat 4 = Int32.ofNat (k % 4) := by decide +kernel
  exact h1 _ (List.mem_range.mpr h)
section FFA
variable {K : et_K} {G G0 : eg_G} {d2 d am tm fv c k : Nat} {tb : Nat → Nat} {x y1 y2 y3 y4 y5 : Int32}

theorem fm_feedL (hH : et_H et_TT K G) (k_am : K am = some 13) (m4 : et_pl (eg_at G am) 4 = some (.ref tm)) (k_tm : K tm = some 34) (m11 : et_pl (eg_at G am) 11 = some (.ref fv)) (k_fv : K fv = some 14) (m5 : et_pl (eg_at G am) 5 = some (.int (Int32.ofNat c))) (m0 : et_pl (eg_at G am) 0 = some (.int (Int32.ofNat 0))) (h5 : ∀ i, i < 5 → et_pl (eg_at G fv) i = some (.int (xs5 y1 y2 y3 y4 y5 i))) (hc : c + 20 ≤ 400) (hk : k ≤ 20) (ht : ∀ i, i < c + k → et_pl (eg_at G tm) i = some (.int (sx (tb5 tb c y1 y2 y3 y4 y5 i)))) (hX : xf (fun b j => (b = am ∧ j = 0) ∨ ((b = am ∧ j = 5) ∨ ((b = fv ∧ (0 ≤ j ∧ j ≤ 4)) ∨ (b = tm ∧ (c ≤ j ∧ j ≤ c + 19))))) G0 G) : et_go none d 177 60 [some (.ref am), some (.int y1), some (.int y2), some (.int y3), some (.int y4), some (.int y5), some (.int (Int32.ofNat k))] [] G 0 0 (xw_Z (fun b j => (b = am ∧ j = 0) ∨ ((b = am ∧ j = 5) ∨ ((b = fv ∧ (0 ≤ j ∧ j ≤ 4)) ∨ (b = tm ∧ (c ≤ j ∧ j ≤ c + 19))))) K G0 (fun G' r => et_pl (eg_at G' am) 0 = some (.int (Int32.ofNat 0)) ∧ r = some (.int (Int32.ofNat (c + 20))) ∧ et_pl (eg_at G' am) 5 = some (.int (Int32.ofNat (c + 20))) ∧ ∀ i, i < c + 20 → et_pl (eg_at G' tm) i = some (.int (sx (tb5 tb c y1 y2 y3 y4 y5 i))))) := by
  induction hm : 20 - k using Nat.strongRecOn generalizing k G with
  | _ z ih =>
    have lt_am := (hH.2.2 _ _ k_am).1
    have lt_tm := (hH.2.2 _ _ k_tm).1
    have lt_fv := (hH.2.2 _ _ k_fv).1
    refine hs_iload (i := 6) (p := 62) (by decide +kernel) rfl ?_
    refine hs_k (x := Int32.ofNat 20) (p := 64) (by decide +kernel) ?_
    refine hs_br2n (c := .ge) (t := 106) (f := 67) (by decide +kernel) (by omega) (by omega) (fun (c64 : 20 ≤ k) => ?_) (fun (c64 : ¬ (20 ≤ k)) => ?_)
    · refine hs_aload (i := 0) (p := 107) (by decide +kernel) rfl ?_
      refine hs_dup1 (p := 108) (by decide +kernel) ?_
      refine hf_get (T := et_TT) (t := 13) (ci := 11) (f := 5) (p := 111) (by decide +kernel) rfl hH k_am m5 ?_
      refine hs_k (x := Int32.ofNat 20) (p := 113) (by decide +kernel) ?_
      refine hs_iaddn (p := 114) (by decide +kernel) ?_
      refine hf_put (T := et_TT) (t := 13) (ci := 11) (f := 5) (p := 117) (ty := .int) (by decide +kernel) rfl rfl rfl rfl rfl hH k_am (hi_nv (by omega) (by omega)) (fun G114 hH x114 e114 => ?_)
      have m4 := (x114.2 am 4 lt_am (fun h => absurd h.2 (by decide))).trans m4
      have m11 := (x114.2 am 11 lt_am (fun h => absurd h.2 (by decide))).trans m11
      have m0 := (x114.2 am 0 lt_am (fun h => absurd h.2 (by decide))).trans m0
      have h5 : ∀ i, i < 5 → et_pl (eg_at G114 fv) i = some (.int (xs5 y1 y2 y3 y4 y5 i)) := fun i hi => (x114.2 fv i lt_fv (fun h => (hi_ne k_fv k_am (by decide)) h.1)).trans (h5 i hi)
      have ht : ∀ i, i < c + k → et_pl (eg_at G114 tm) i = some (.int (sx (tb5 tb c y1 y2 y3 y4 y5 i))) := fun i hi => (x114.2 tm i lt_tm (fun h => (hi_ne k_tm k_am (by decide)) h.1)).trans (ht i hi)
      have lt_am := Nat.lt_of_lt_of_le lt_am x114.1
      have lt_tm := Nat.lt_of_lt_of_le lt_tm x114.1
      have lt_fv := Nat.lt_of_lt_of_le lt_fv x114.1
      have hX := hX.tr x114 (fun b j hb h => by first | omega | (dsimp only at h ⊢; omega) | (dsimp only at h; omega) | (dsimp only; omega))
      refine hs_aload (i := 0) (p := 118) (by decide +kernel) rfl ?_
      refine hf_get (T := et_TT) (t := 13) (ci := 11) (f := 5) (p := 121) (by decide +kernel) rfl hH k_am e114 ?_
      refine hs_iret (by decide +kernel) ?_
      obtain rfl : k = 20 := by omega
      exact ⟨_, _, rfl, hH, hX, m0, rfl, e114, ht⟩
    · refine hs_aload (i := 0) (p := 68) (by decide +kernel) rfl ?_
      refine hf_get (T := et_TT) (t := 13) (ci := 11) (f := 4) (p := 71) (by decide +kernel) rfl hH k_am m4 ?_
      refine hs_aload (i := 0) (p := 72) (by decide +kernel) rfl ?_
      refine hf_get (T := et_TT) (t := 13) (ci := 11) (f := 5) (p := 75) (by decide +kernel) rfl hH k_am m5 ?_
      refine hs_iload (i := 6) (p := 77) (by decide +kernel) rfl ?_
      refine hs_iaddn (p := 78) (by decide +kernel) ?_
      refine hs_aload (i := 0) (p := 79) (by decide +kernel) rfl ?_
      refine hf_get (T := et_TT) (t := 13) (ci := 11) (f := 11) (p := 82) (by decide +kernel) rfl hH k_am m11 ?_
      refine hs_iload (i := 6) (p := 84) (by decide +kernel) rfl ?_
      refine hs_k (x := Int32.ofNat 4) (p := 85) (by decide +kernel) ?_
      refine hs_idiv (p := 86) (by decide +kernel) (by decide) ?_
      rw [by_d (by omega)]
      refine hf_ald (ins := .iaload) (T := et_TT) (t := 14) (kd := 0) (N := 5) (p := 87) (by decide +kernel) (fun _ _ _ _ _ _ _ _ _ _ => rfl) rfl rfl rfl hH k_fv (by decide) (h5 (k / 4) (by omega)) ?_
      refine hs_k (x := Int32.ofNat 24) (p := 89) (by decide +kernel) ?_
      refine hs_k (x := Int32.ofNat 8) (p := 91) (by decide +kernel) ?_
      refine hs_iload (i := 6) (p := 93) (by decide +kernel) rfl ?_
      refine hs_k (x := Int32.ofNat 4) (p := 94) (by decide +kernel) ?_
      refine hs_irem (p := 95) (by decide +kernel) (by decide) ?_
      rw [by_r (by omega)]
      refine hs_imuln (p := 96) (by decide +kernel) ?_
      refine hs_isubn (p := 97) (by decide +kernel) (by omega) ?_
      refine hs_st (ins := .ishr) (len := 1) (p := 98) (by decide +kernel) rfl rfl ?_
      refine hs_st (ins := .i2b) (len := 1) (p := 99) (by decide +kernel) rfl rfl ?_
      refine hf_bst (T := et_TT) (t := 34) (N := 400) (p := 100) (by decide +kernel) rfl rfl (by_b by_m) hH k_tm (by omega) (by decide) (fun s hs => absurd hs List.not_mem_nil) (fun G99 hH x99 e99 => ?_)
      have m4 := (x99.2 am 4 lt_am (fun h => (hi_ne k_am k_tm (by decide)) h.1)).trans m4
      have m11 := (x99.2 am 11 lt_am (fun h => (hi_ne k_am k_tm (by decide)) h.1)).trans m11
      have m5 := (x99.2 am 5 lt_am (fun h => (hi_ne k_am k_tm (by decide)) h.1)).trans m5
      have m0 := (x99.2 am 0 lt_am (fun h => (hi_ne k_am k_tm (by decide)) h.1)).trans m0
      have h5 : ∀ i, i < 5 → et_pl (eg_at G99 fv) i = some (.int (xs5 y1 y2 y3 y4 y5 i)) := fun i hi => (x99.2 fv i lt_fv (fun h => (hi_ne k_fv k_tm (by decide)) h.1)).trans (h5 i hi)
      have ht : ∀ i, i < c + k → et_pl (eg_at G99 tm) i = some (.int (sx (tb5 tb c y1 y2 y3 y4 y5 i))) := fun i hi => (x99.2 tm i lt_tm (fun h => by have h := h.2; omega)).trans (ht i hi)
      have lt_am := Nat.lt_of_lt_of_le lt_am x99.1
      have lt_tm := Nat.lt_of_lt_of_le lt_tm x99.1
      have lt_fv := Nat.lt_of_lt_of_le lt_fv x99.1
      have hX := hX.tr x99 (fun b j hb h => by first | omega | (dsimp only at h ⊢; omega) | (dsimp only at h; omega) | (dsimp only; omega))
      refine hs_iinc1 (i := 6) (p := 103) (by decide +kernel) rfl (Nat.le_of_ble_eq_true rfl) ?_
      refine hs_goto (p := 60) (by decide +kernel) ?_
      have ht2 : ∀ i, i < c + (k + 1) → et_pl (eg_at G99 tm) i = some (.int (sx (tb5 tb c y1 y2 y3 y4 y5 i))) := fun i hi => by
        by_cases e : i = c + k
        · subst e
          rw [tb5_at (by omega)]
          exact e99
        · exact ht i (by omega)
      show et_go none _ 177 60 [some (.ref am), some (.int y1), some (.int y2), some (.int y3), some (.int y4), some (.int y5), some (.int (Int32.ofNat (k + 1)))] [] _ _ _ _
      exact ih (20 - (k + 1)) (by omega) hH m4 m11 m5 m0 h5 (by omega) ht2 hX rfl
theorem fm_feed (hH : et_H et_TT K G) (k_am : K am = some 13) (m4 : et_pl (eg_at G am) 4 = some (.ref tm)) (k_tm : K tm = some 34) (m11 : et_pl (eg_at G am) 11 = some (.ref fv)) (k_fv : K fv = some 14) (m5 : et_pl (eg_at G am) 5 = some (.int (Int32.ofNat c))) (hc : c ≤ 400) (ht : ∀ i, i < c → et_pl (eg_at G tm) i = some (.int (sx (tb i)))) : et_go none d 177 0 (eg_en (eg_mL 177) [.ref am, .int y1, .int y2, .int y3, .int y4, .int y5]) [] G 0 0 (xw_Z (fun b j => (b = am ∧ j = 0) ∨ ((b = am ∧ j = 5) ∨ ((b = fv ∧ (0 ≤ j ∧ j ≤ 4)) ∨ (b = tm ∧ (c ≤ j ∧ j ≤ c + 19))))) K G (fun G' r => (¬ c + 20 ≤ 400 ∧ r = some (.int (-1)) ∧ et_pl (eg_at G' am) 0 = some (.int (Int32.ofNat 0)) ∧ et_pl (eg_at G' am) 5 = some (.int (Int32.ofNat c)) ∧ ∀ i, i < c → et_pl (eg_at G' tm) i = some (.int (sx (tb i)))) ∨ (c + 20 ≤ 400 ∧ r = some (.int (Int32.ofNat (c + 20))) ∧ et_pl (eg_at G' am) 0 = some (.int (Int32.ofNat 0)) ∧ et_pl (eg_at G' am) 5 = some (.int (Int32.ofNat (c + 20))) ∧ ∀ i, i < c + 20 → et_pl (eg_at G' tm) i = some (.int (sx (tb5 tb c y1 y2 y3 y4 y5 i)))))) := by
  rw [show eg_mL 177 = 7 from by decide +kernel]
  show et_go none d 177 0 [some (.ref am), some (.int y1), some (.int y2), some (.int y3), some (.int y4), some (.int y5), none] [] G 0 0 (xw_Z _ _ _ _)
  have lt_am := (hH.2.2 _ _ k_am).1
  have lt_tm := (hH.2.2 _ _ k_tm).1
  have lt_fv := (hH.2.2 _ _ k_fv).1
  have hX : xf (fun b j => (b = am ∧ j = 0) ∨ ((b = am ∧ j = 5) ∨ ((b = fv ∧ (0 ≤ j ∧ j ≤ 4)) ∨ (b = tm ∧ (c ≤ j ∧ j ≤ c + 19))))) G G := xf.rf
  refine hs_aload (i := 0) (p := 1) (by decide +kernel) rfl ?_
  refine hs_k (x := Int32.ofNat 0) (p := 2) (by decide +kernel) ?_
  refine hf_put (T := et_TT) (t := 13) (ci := 11) (f := 0) (p := 5) (ty := .int) (by decide +kernel) rfl rfl rfl rfl rfl hH k_am hi_any (fun G2 hH x2 e2 => ?_)
  have m4 := (x2.2 am 4 lt_am (fun h => absurd h.2 (by decide))).trans m4
  have m11 := (x2.2 am 11 lt_am (fun h => absurd h.2 (by decide))).trans m11
  have m5 := (x2.2 am 5 lt_am (fun h => absurd h.2 (by decide))).trans m5
  have ht : ∀ i, i < c → et_pl (eg_at G2 tm) i = some (.int (sx (tb i))) := fun i hi => (x2.2 tm i lt_tm (fun h => (hi_ne k_tm k_am (by decide)) h.1)).trans (ht i hi)
  have lt_am := Nat.lt_of_lt_of_le lt_am x2.1
  have lt_tm := Nat.lt_of_lt_of_le lt_tm x2.1
  have lt_fv := Nat.lt_of_lt_of_le lt_fv x2.1
  have hX := hX.tr x2 (fun b j hb h => by first | omega | (dsimp only at h ⊢; omega) | (dsimp only at h; omega) | (dsimp only; omega))
  refine hs_aload (i := 0) (p := 6) (by decide +kernel) rfl ?_
  refine hf_get (T := et_TT) (t := 13) (ci := 11) (f := 5) (p := 9) (by decide +kernel) rfl hH k_am m5 ?_
  refine hs_k (x := Int32.ofNat 20) (p := 11) (by decide +kernel) ?_
  refine hs_iaddn (p := 12) (by decide +kernel) ?_
  refine hs_k (x := Int32.ofNat 400) (p := 15) (by decide +kernel) ?_
  refine hs_br2n (c := .le) (t := 20) (f := 18) (by decide +kernel) (by omega) (by omega) (fun (c15 : (c + 20) ≤ 400) => ?_) (fun (c15 : ¬ ((c + 20) ≤ 400)) => ?_)
  · refine hs_aload (i := 0) (p := 21) (by decide +kernel) rfl ?_
    refine hf_get (T := et_TT) (t := 13) (ci := 11) (f := 11) (p := 24) (by decide +kernel) rfl hH k_am m11 ?_
    refine hs_k (x := Int32.ofNat 0) (p := 25) (by decide +kernel) ?_
    refine hs_iload (i := 1) (p := 26) (by decide +kernel) rfl ?_
    refine hf_ist (T := et_TT) (t := 14) (N := 5) (p := 27) (by decide +kernel) rfl rfl (by decide) hH k_fv (by omega) (by decide) (fun s hs => absurd hs List.not_mem_nil) (fun G26 hH x26 e26 => ?_)
    have m4 := (x26.2 am 4 lt_am (fun h => (hi_ne k_am k_fv (by decide)) h.1)).trans m4
    have m11 := (x26.2 am 11 lt_am (fun h => (hi_ne k_am k_fv (by decide)) h.1)).trans m11
    have m5 := (x26.2 am 5 lt_am (fun h => (hi_ne k_am k_fv (by decide)) h.1)).trans m5
    have e2 := (x26.2 am 0 lt_am (fun h => (hi_ne k_am k_fv (by decide)) h.1)).trans e2
    have ht : ∀ i, i < c → et_pl (eg_at G26 tm) i = some (.int (sx (tb i))) := fun i hi => (x26.2 tm i lt_tm (fun h => (hi_ne k_tm k_fv (by decide)) h.1)).trans (ht i hi)
    have lt_am := Nat.lt_of_lt_of_le lt_am x26.1
    have lt_tm := Nat.lt_of_lt_of_le lt_tm x26.1
    have lt_fv := Nat.lt_of_lt_of_le lt_fv x26.1
    have hX := hX.tr x26 (fun b j hb h => by first | omega | (dsimp only at h ⊢; omega) | (dsimp only at h; omega) | (dsimp only; omega))
    refine hs_aload (i := 0) (p := 28) (by decide +kernel) rfl ?_
    refine hf_get (T := et_TT) (t := 13) (ci := 11) (f := 11) (p := 31) (by decide +kernel) rfl hH k_am m11 ?_
    refine hs_k (x := Int32.ofNat 1) (p := 32) (by decide +kernel) ?_
    refine hs_iload (i := 2) (p := 33) (by decide +kernel) rfl ?_
    refine hf_ist (T := et_TT) (t := 14) (N := 5) (p := 34) (by decide +kernel) rfl rfl (by decide) hH k_fv (by omega) (by decide) (fun s hs => absurd hs List.not_mem_nil) (fun G33 hH x33 e33 => ?_)
    have m4 := (x33.2 am 4 lt_am (fun h => (hi_ne k_am k_fv (by decide)) h.1)).trans m4
    have m11 := (x33.2 am 11 lt_am (fun h => (hi_ne k_am k_fv (by decide)) h.1)).trans m11
    have m5 := (x33.2 am 5 lt_am (fun h => (hi_ne k_am k_fv (by decide)) h.1)).trans m5
    have e2 := (x33.2 am 0 lt_am (fun h => (hi_ne k_am k_fv (by decide)) h.1)).trans e2
    have e26 := (x33.2 fv 0 lt_fv (fun h => absurd h.2 (by decide))).trans e26
    have ht : ∀ i, i < c → et_pl (eg_at G33 tm) i = some (.int (sx (tb i))) := fun i hi => (x33.2 tm i lt_tm (fun h => (hi_ne k_tm k_fv (by decide)) h.1)).trans (ht i hi)
    have lt_am := Nat.lt_of_lt_of_le lt_am x33.1
    have lt_tm := Nat.lt_of_lt_of_le lt_tm x33.1
    have lt_fv := Nat.lt_of_lt_of_le lt_fv x33.1
    have hX := hX.tr x33 (fun b j hb h => by first | omega | (dsimp only at h ⊢; omega) | (dsimp only at h; omega) | (dsimp only; omega))
    refine hs_aload (i := 0) (p := 35) (by decide +kernel) rfl ?_
    refine hf_get (T := et_TT) (t := 13) (ci := 11) (f := 11) (p := 38) (by decide +kernel) rfl hH k_am m11 ?_
    refine hs_k (x := Int32.ofNat 2) (p := 39) (by decide +kernel) ?_
    refine hs_iload (i := 3) (p := 40) (by decide +kernel) rfl ?_
    refine hf_ist (T := et_TT) (t := 14) (N := 5) (p := 41) (by decide +kernel) rfl rfl (by decide) hH k_fv (by omega) (by decide) (fun s hs => absurd hs List.not_mem_nil) (fun G40 hH x40 e40 => ?_)
    have m4 := (x40.2 am 4 lt_am (fun h => (hi_ne k_am k_fv (by decide)) h.1)).trans m4
    have m11 := (x40.2 am 11 lt_am (fun h => (hi_ne k_am k_fv (by decide)) h.1)).trans m11
    have m5 := (x40.2 am 5 lt_am (fun h => (hi_ne k_am k_fv (by decide)) h.1)).trans m5
    have e2 := (x40.2 am 0 lt_am (fun h => (hi_ne k_am k_fv (by decide)) h.1)).trans e2
    have e26 := (x40.2 fv 0 lt_fv (fun h => absurd h.2 (by decide))).trans e26
    have e33 := (x40.2 fv 1 lt_fv (fun h => absurd h.2 (by decide))).trans e33
    have ht : ∀ i, i < c → et_pl (eg_at G40 tm) i = some (.int (sx (tb i))) := fun i hi => (x40.2 tm i lt_tm (fun h => (hi_ne k_tm k_fv (by decide)) h.1)).trans (ht i hi)
    have lt_am := Nat.lt_of_lt_of_le lt_am x40.1
    have lt_tm := Nat.lt_of_lt_of_le lt_tm x40.1
    have lt_fv := Nat.lt_of_lt_of_le lt_fv x40.1
    have hX := hX.tr x40 (fun b j hb h => by first | omega | (dsimp only at h ⊢; omega) | (dsimp only at h; omega) | (dsimp only; omega))
    refine hs_aload (i := 0) (p := 42) (by decide +kernel) rfl ?_
    refine hf_get (T := et_TT) (t := 13) (ci := 11) (f := 11) (p := 45) (by decide +kernel) rfl hH k_am m11 ?_
    refine hs_k (x := Int32.ofNat 3) (p := 46) (by decide +kernel) ?_
    refine hs_iload (i := 4) (p := 48) (by decide +kernel) rfl ?_
    refine hf_ist (T := et_TT) (t := 14) (N := 5) (p := 49) (by decide +kernel) rfl rfl (by decide) hH k_fv (by omega) (by decide) (fun s hs => absurd hs List.not_mem_nil) (fun G48 hH x48 e48 => ?_)
    have m4 := (x48.2 am 4 lt_am (fun h => (hi_ne k_am k_fv (by decide)) h.1)).trans m4
    have m11 := (x48.2 am 11 lt_am (fun h => (hi_ne k_am k_fv (by decide)) h.1)).trans m11
    have m5 := (x48.2 am 5 lt_am (fun h => (hi_ne k_am k_fv (by decide)) h.1)).trans m5
    have e2 := (x48.2 am 0 lt_am (fun h => (hi_ne k_am k_fv (by decide)) h.1)).trans e2
    have e26 := (x48.2 fv 0 lt_fv (fun h => absurd h.2 (by decide))).trans e26
    have e33 := (x48.2 fv 1 lt_fv (fun h => absurd h.2 (by decide))).trans e33
    have e40 := (x48.2 fv 2 lt_fv (fun h => absurd h.2 (by decide))).trans e40
    have ht : ∀ i, i < c → et_pl (eg_at G48 tm) i = some (.int (sx (tb i))) := fun i hi => (x48.2 tm i lt_tm (fun h => (hi_ne k_tm k_fv (by decide)) h.1)).trans (ht i hi)
    have lt_am := Nat.lt_of_lt_of_le lt_am x48.1
    have lt_tm := Nat.lt_of_lt_of_le lt_tm x48.1
    have lt_fv := Nat.lt_of_lt_of_le lt_fv x48.1
    have hX := hX.tr x48 (fun b j hb h => by first | omega | (dsimp only at h ⊢; omega) | (dsimp only at h; omega) | (dsimp only; omega))
    refine hs_aload (i := 0) (p := 50) (by decide +kernel) rfl ?_
    refine hf_get (T := et_TT) (t := 13) (ci := 11) (f := 11) (p := 53) (by decide +kernel) rfl hH k_am m11 ?_
    refine hs_k (x := Int32.ofNat 4) (p := 54) (by decide +kernel) ?_
    refine hs_iload (i := 5) (p := 56) (by decide +kernel) rfl ?_
    refine hf_ist (T := et_TT) (t := 14) (N := 5) (p := 57) (by decide +kernel) rfl rfl (by decide) hH k_fv (by omega) (by decide) (fun s hs => absurd hs List.not_mem_nil) (fun G56 hH x56 e56 => ?_)
    have m4 := (x56.2 am 4 lt_am (fun h => (hi_ne k_am k_fv (by decide)) h.1)).trans m4
    have m11 := (x56.2 am 11 lt_am (fun h => (hi_ne k_am k_fv (by decide)) h.1)).trans m11
    have m5 := (x56.2 am 5 lt_am (fun h => (hi_ne k_am k_fv (by decide)) h.1)).trans m5
    have e2 := (x56.2 am 0 lt_am (fun h => (hi_ne k_am k_fv (by decide)) h.1)).trans e2
    have e26 := (x56.2 fv 0 lt_fv (fun h => absurd h.2 (by decide))).trans e26
    have e33 := (x56.2 fv 1 lt_fv (fun h => absurd h.2 (by decide))).trans e33
    have e40 := (x56.2 fv 2 lt_fv (fun h => absurd h.2 (by decide))).trans e40
    have e48 := (x56.2 fv 3 lt_fv (fun h => absurd h.2 (by decide))).trans e48
    have ht : ∀ i, i < c → et_pl (eg_at G56 tm) i = some (.int (sx (tb i))) := fun i hi => (x56.2 tm i lt_tm (fun h => (hi_ne k_tm k_fv (by decide)) h.1)).trans (ht i hi)
    have lt_am := Nat.lt_of_lt_of_le lt_am x56.1
    have lt_tm := Nat.lt_of_lt_of_le lt_tm x56.1
    have lt_fv := Nat.lt_of_lt_of_le lt_fv x56.1
    have hX := hX.tr x56 (fun b j hb h => by first | omega | (dsimp only at h ⊢; omega) | (dsimp only at h; omega) | (dsimp only; omega))
    refine hs_k (x := Int32.ofNat 0) (p := 58) (by decide +kernel) ?_
    refine hs_istore (i := 6) (p := 60) (by decide +kernel) (Nat.le_of_ble_eq_true rfl) ?_
    have h5 : ∀ i, i < 5 → et_pl (eg_at G56 fv) i = some (.int (xs5 y1 y2 y3 y4 y5 i)) := fun i hi => by
      rcases (by omega : i = 0 ∨ i = 1 ∨ i = 2 ∨ i = 3 ∨ i = 4) with rfl | rfl | rfl | rfl | rfl
      · exact e26
      · exact e33
      · exact e40
      · exact e48
      · exact e56
    refine (fm_feedL (k := 0) (tb := tb) hH k_am m4 k_tm m11 k_fv m5 e2 h5 (by omega) (by decide) (fun i hi => ?_) hX).mono (fun u hu => hu.mono (fun _ _ h => h) (fun G1 r1 h1 => .inr ⟨by omega, h1.2.1, h1.1, h1.2.2.1, h1.2.2.2⟩))
    rw [tb5_lo (by omega)]
    exact ht i (by omega)
  · refine hs_k (x := (-1)) (p := 19) (by decide +kernel) ?_
    refine hs_iret (by decide +kernel) ?_
    exact ⟨_, _, rfl, hH, hX, .inl ⟨by omega, rfl, e2, m5, ht⟩⟩
end FFA
