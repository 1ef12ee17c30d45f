section
/-! FUNCTIONAL: the reference's feed, end -/
def xs5 (y1 y2 y3 y4 y5 : Int32) (i : Nat) : Int32 := if i = 0 then y1 else if i = 1 then y2 else if i = 2 then y3 else if i = 3 then y4 else y5
def tb5 (tb : Nat → Nat) (c : Nat) (y1 y2 y3 y4 y5 : Int32) : Nat → Nat := tb4 (tb4 (tb4 (tb4 (tb4 tb c y1) (c + 4) y2) (c + 4 + 4) y3) (c + 4 + 4 + 4) y4) (c + 4 + 4 + 4 + 4) y5
theorem tb5_lo {tb : Nat → Nat} {c i : Nat} {y1 y2 y3 y4 y5 : Int32} (h : i < c) : tb5 tb c y1 y2 y3 y4 y5 i = tb i := by
  unfold tb5 tb4
  rw [if_pos (by omega), if_pos (by omega), if_pos (by omega), if_pos (by omega), if_pos (by omega)]
theorem tb5_at {tb : Nat → Nat} {c k : Nat} {y1 y2 y3 y4 y5 : Int32} (h : k < 20) : tb5 tb c y1 y2 y3 y4 y5 (c + k) = by4 (xs5 y1 y2 y3 y4 y5 (k / 4)) (24 - 8 * (k % 4)) := by
  unfold tb5 tb4 xs5
  rcases (by omega : k / 4 = 0 ∨ k / 4 = 1 ∨ k / 4 = 2 ∨ k / 4 = 3 ∨ k / 4 = 4) with e | e | e | e | e
  · rw [if_pos (by omega), if_pos (by omega), if_pos (by omega), if_pos (by omega), if_neg (by omega), e, show c + k - c = k % 4 by omega]
    rfl
  · rw [if_pos (by omega), if_pos (by omega), if_pos (by omega), if_neg (by omega), e, show c + k - (c + 4) = k % 4 by omega]
    rfl
  · rw [if_pos (by omega), if_pos (by omega), if_neg (by omega), e, show c + k - (c + 4 + 4) = k % 4 by omega]
    rfl
  · rw [if_pos (by omega), if_neg (by omega), e, show c + k - (c + 4 + 4 + 4) = k % 4 by omega]
    rfl
  · rw [if_neg (by omega), e, show c + k - (c + 4 + 4 + 4 + 4) = k % 4 by omega]
    rfl
theorem by_m {k : Nat} : 24 - 8 * (k % 4) ∈ [0, 8, 16, 24] := by
  have h : k % 4 < 4 := Nat.mod_lt _ (by decide)
  have h1 : ∀ r ∈ List.range 4, 24 - 8 * r ∈ [0, 8, 16, 24] := by decide
  exact h1 _ (List.mem_range.mpr h)
theorem by_d {k : Nat} (h : k < 20) : Int32.ofNat k / Int32.ofNat 4 = Int32.ofNat (k / 4) := by
  have h1 : ∀ k ∈ List.range 20, Int32.ofNat k / Int32.ofNat 4 = Int32.ofNat (k / 4) := by decide +kernel
  exact h1 _ (List.mem_range.mpr h)
theorem by_r {k : Nat} (h : k < 20) : Int32.ofNat k - Int32.ofNat k / Int32.ofNat 4 * Int32.ofNat 4 = Int32.ofNat (k % 4) := by
  have h1 : ∀ k ∈ List.range 20, Int32.ofNat k - Int32.ofNat k / Int32.ofNat 4 * Int32.ofNat 4 = Int32.ofNat (k % 4) := by decide +kernel
  exact h1 _ (List.mem_range.mpr h)
section FFA
variable {K : et_K} {G G0 : eg_G} {d2 d am tm fv c k : Nat} {tb : Nat → Nat} {x y1 y2 y3 y4 y5 : Int32}

theorem fm_feedL (hH : et_H et_TT K G) (k_am : K am = some 13) (m4 : et_pl (eg_at G am) 4 = some (.ref tm)) (k_tm : K tm = some 34) (m11 : et_pl (eg_at G am) 11 = some (.ref fv)) (k_fv : K fv = some 14) (m5 : et_pl (eg_at G am) 5 = some (.int (Int32.ofNat c))) (m0 : et_pl (eg_at G am) 0 = some (.int (Int32.ofNat 0))) (h5 : ∀ i, i < 5 → et_pl (eg_at G fv) i = some (.int (xs5 y1 y2 y3 y4 y5 i))) (hc : c + 20 ≤ 400) (hk : k ≤ 20) (ht : ∀ i, i < c + k → et_pl (eg_at G tm) i = some (.int (sx (tb5 tb c y1 y2 y3 y4 y5 i)))) (hX : xf (fun b j => (b = am ∧ j = 0) ∨ ((b = am ∧ j = 5) ∨ ((b = fv ∧ (0 ≤ j ∧ j ≤ 4)) ∨ (b = tm ∧ (c ≤ j ∧ j ≤ c + 19))))) G0 G) : et_go none d 177 60 [some (.ref am), some (.int y1), some (.int y2), some (.int y3), some (.int y4), some (.int y5), some (.int (Int32.ofNat k))] [] G 0 0 (xw_Z (fun b j => (b = am ∧ j = 0) ∨ ((b = am ∧ j = 5) ∨ ((b = fv ∧ (0 ≤ j ∧ j ≤ 4)) ∨ (b = tm ∧ (c ≤ j ∧ j ≤ c + 19))))) K G0 (fun G' r => et_pl (eg_at G' am) 0 = some (.int (Int32.ofNat 0)) ∧ r = some (.int (Int32.ofNat (c + 20))) ∧ et_pl (eg_at G' am) 5 = some (.int (Int32.ofNat (c + 20))) ∧ ∀ i, i < c + 20 → et_pl (eg_at G' tm) i = some (.int (sx (tb5 tb c y1 y2 y3 y4 y5 i))))) := by
  induction hm : 20 - k using Nat.strongRecOn generalizing k G with
  | _ z ih =>
    have lt_am := (hH.2.2 _ _ k_am).1
    have lt_tm := (hH.2.2 _ _ k_tm).1
    have lt_fv := (hH.2.2 _ _ k_fv).1
    refine hs_iload (i := 6) (p := 62) (by decide +kernel) rfl ?_
    refine hs_k (x := Int32.ofNat 20) (p := 64) (by decide +kernel) ?_
    refine hs_br2n (c := .ge) (t := 106) (f := 67) (by decide +kernel) (by omega) (by omega) (fun (c64 : 20 ≤ k) => ?_) (fun (c64 : ¬ (20 ≤ k)) => ?_)
    · refine hs_aload (i := 0) (p := 107) (by decide +kernel) rfl ?_
      refine hs_dup1 (p := 108) (by decide +kernel) ?_
      refine hf_get (T := et_TT) (t := 13) (ci := 11) (f := 5) (p := 111) (by decide +kernel) rfl hH k_am m5 ?_
      refine hs_k (x := Int32.ofNat 20) (p := 113) (by decide +kernel) ?_
      refine hs_iaddn (p := 114) (by decide +kernel) ?_
      refine hf_put (T := et_TT) (t := 13) (ci := 11) (f := 5) (p := 117) (ty := .int) (by decide +kernel) rfl rfl rfl rfl rfl hH k_am (hi_nv (by omega) (by omega)) (fun G114 hH x114 e114 => ?_)
      have m4 := (x114.2 am 4 lt_am (fun h => absurd h.2 (by decide))).trans m4
      have m11 := (x114.2 am 11 lt_am (fun h => absurd h.2 (by decide))).trans m11
      have m0 := (x114.2 am 0 lt_am (fun h => absurd h.2 (by decide))).trans m0
      have h5 : ∀ i, i < 5 → et_pl (eg_at G114 fv) i = some (.int (xs5 y1 y2 y3 y4 y5 i)) := fun i hi => (x114.2 fv i lt_fv (fun h => (hi_ne k_fv k_am (by decide)) h.1)).trans (h5 i hi)
      have ht : ∀ i, i < c + k → et_pl (eg_at G114 tm) i = some (.int (sx (tb5 tb c y1 y2 y3 y4 y5 i))) := fun i hi => (x114.2 tm i lt_tm (fun h => (hi_ne k_tm k_am (by decide)) h.1)).trans (ht i hi)
      have lt_am := Nat.lt_of_lt_of_le lt_am x114.1
      have lt_tm := Nat.lt_of_lt_of_le lt_tm x114.1
      have lt_fv := Nat.lt_of_lt_of_le lt_fv x114.1
      have hX := hX.tr x114 (fun b j hb h => by first | omega | (dsimp only at h ⊢; omega) | (dsimp only at h; omega) | (dsimp only; omega))
      refine hs_aload (i := 0) (p := 118) (by decide +kernel) rfl ?_
      refine hf_get (T := et_TT) (t := 13) (ci := 11) (f := 5) (p := 121) (by decide +kernel) rfl hH k_am e114 ?_
      refine hs_iret (by decide +kernel) ?_
      obtain rfl : k = 20 := by omega
      exact ⟨_, _, rfl, hH, hX, m0, rfl, e114, ht⟩
    · refine hs_aload (i := 0) (p := 68) (by decide +kernel) rfl ?_
      refine hf_get (T := et_TT) (t := 13) (ci := 11) (f := 4) (p := 71) (by decide +kernel) rfl hH k_am m4 ?_
      refine hs_aload (i := 0) (p := 72) (by decide +kernel) rfl ?_
      refine hf_get (T := et_TT) (t := 13) (ci := 11) (f := 5) (p := 75) (by decide +kernel) rfl hH k_am m5 ?_
      refine hs_iload (i := 6) (p := 77) (by decide +kernel) rfl ?_
      refine hs_iaddn (p := 78) (by decide +kernel) ?_
      refine hs_aload (i := 0) (p := 79) (by decide +kernel) rfl ?_
      refine hf_get (T := et_TT) (t := 13) (ci := 11) (f := 11) (p := 82) (by decide +kernel) rfl hH k_am m11 ?_
      refine hs_iload (i := 6) (p := 84) (by decide +kernel) rfl ?_
      refine hs_k (x := Int32.ofNat 4) (p := 85) (by decide +kernel) ?_
      refine hs_idiv (p := 86) (by decide +kernel) (by decide) ?_
      rw [by_d (by omega)]
      refine hf_ald (ins := .iaload) (T := et_TT) (t := 14) (kd := 0) (N := 5) (p := 87) (by decide +kernel) (fun _ _ _ _ _ _ _ _ _ _ => rfl) rfl rfl rfl hH k_fv (by decide) (h5 (k / 4) (by omega)) ?_
      refine hs_k (x := Int32.ofNat 24) (p := 89) (by decide +kernel) ?_
      refine hs_k (x := Int32.ofNat 8) (p := 91) (by decide +kernel) ?_
      refine hs_iload (i := 6) (p := 93) (by decide +kernel) rfl ?_
      refine hs_k (x := Int32.ofNat 4) (p := 94) (by decide +kernel) ?_
      refine hs_irem (p := 95) (by decide +kernel) (by decide) ?_
      rw [by_r (by omega)]
      refine hs_imuln (p := 96) (by decide +kernel) ?_
      refine hs_isubn (p := 97) (by decide +kernel) (by omega) ?_
      refine hs_st (ins := .ishr) (len := 1) (p := 98) (by decide +kernel) rfl rfl ?_
      refine hs_st (ins := .i2b) (len := 1) (p := 99) (by decide +kernel) rfl rfl ?_
      refine hf_bst (T := et_TT) (t := 34) (N := 400) (p := 100) (by decide +kernel) rfl rfl (by_b by_m) hH k_tm (by omega) (by decide) (fun s hs => absurd hs List.not_mem_nil) (fun G99 hH x99 e99 => ?_)
      have m4 := (x99.2 am 4 lt_am (fun h => (hi_ne k_am k_tm (by decide)) h.1)).trans m4
      have m11 := (x99.2 am 11 lt_am (fun h => (hi_ne k_am k_tm (by decide)) h.1)).trans m11
      have m5 := (x99.2 am 5 lt_am (fun h => (hi_ne k_am k_tm (by decide)) h.1)).trans m5
      have m0 := (x99.2 am 0 lt_am (fun h => (hi_ne k_am k_tm (by decide)) h.1)).trans m0
      have h5 : ∀ i, i < 5 → et_pl (eg_at G99 fv) i = some (.int (xs5 y1 y2 y3 y4 y5 i)) := fun i hi => (x99.2 fv i lt_fv (fun h => (hi_ne k_fv k_tm (by decide)) h.1)).trans (h5 i hi)
      have ht : ∀ i, i < c + k → et_pl (eg_at G99 tm) i = some (.int (sx (tb5 tb c y1 y2 y3 y4 y5 i))) := fun i hi => (x99.2 tm i lt_tm (fun h => by have h := h.2; omega)).trans (ht i hi)
      have lt_am := Nat.lt_of_lt_of_le lt_am x99.1
      have lt_tm := Nat.lt_of_lt_of_le lt_tm x99.1
      have lt_fv := Nat.lt_of_lt_of_le lt_fv x99.1
      have hX := hX.tr x99 (fun b j hb h => by first | omega | (dsimp only at h ⊢; omega) | (dsimp only at h; omega) | (dsimp only; omega))
      refine hs_iinc1 (i := 6) (p := 103) (by decide +kernel) rfl (Nat.le_of_ble_eq_true rfl) ?_
      refine hs_goto (p := 60) (by decide +kernel) ?_
      have ht2 : ∀ i, i < c + (k + 1) → et_pl (eg_at G99 tm) i = some (.int (sx (tb5 tb c y1 y2 y3 y4 y5 i))) := fun i hi => by
        by_cases e : i = c + k
        · subst e
          rw [tb5_at (by omega)]
          exact e99
        · exact ht i (by omega)
      show et_go none _ 177 60 [some (.ref am), some (.int y1), some (.int y2), some (.int y3), some (.int y4), some (.int y5), some (.int (Int32.ofNat (k + 1)))] [] _ _ _ _
      exact ih (20 - (k + 1)) (by omega) hH m4 m11 m5 m0 h5 (by omega) ht2 hX rfl
theorem fm_feed (hH : et_H et_TT K G) (k_am : K am = some 13) (m4 : et_pl (eg_at G am) 4 = some (.ref tm)) (k_tm : K tm = some 34) (m11 : et_pl (eg_at G am) 11 = some (.ref fv)) (k_fv : K fv = some 14) (m5 : et_pl (eg_at G am) 5 = some (.int (Int32.ofNat c))) (hc : c ≤ 400) (ht : ∀ i, i < c → et_pl (eg_at G tm) i = some (.int (sx (tb i)))) : et_go none d 177 0 (eg_en (eg_mL 177) [.ref am, .int y1, .int y2, .int y3, .int y4, .int y5]) [] G 0 0 (xw_Z (fun b j => (b = am ∧ j = 0) ∨ ((b = am ∧ j = 5) ∨ ((b = fv ∧ (0 ≤ j ∧ j ≤ 4)) ∨ (b = tm ∧ (c ≤ j ∧ j ≤ c + 19))))) K G (fun G' r => (¬ c + 20 ≤ 400 ∧ r = some (.int (-1)) ∧ et_pl (eg_at G' am) 0 = some (.int (Int32.ofNat 0)) ∧ et_pl (eg_at G' am) 5 = some (.int (Int32.ofNat c)) ∧ ∀ i, i < c → et_pl (eg_at G' tm) i = some (.int (sx (tb i)))) ∨ (c + 20 ≤ 400 ∧ r = some (.int (Int32.ofNat (c + 20))) ∧ et_pl (eg_at G' am) 0 = some (.int (Int32.ofNat 0)) ∧ et_pl (eg_at G' am) 5 = some (.int (Int32.ofNat (c + 20))) ∧ ∀ i, i < c + 20 → et_pl (eg_at G' tm) i = some (.int (sx (tb5 tb c y1 y2 y3 y4 y5 i)))))) := by
  rw [show eg_mL 177 = 7 from by decide +kernel]
  show et_go none d 177 0 [some (.ref am), some (.int y1), some (.int y2), some (.int y3), some (.int y4), some (.int y5), none] [] G 0 0 (xw_Z _ _ _ _)
  have lt_am := (hH.2.2 _ _ k_am).1
  have lt_tm := (hH.2.2 _ _ k_tm).1
  have lt_fv := (hH.2.2 _ _ k_fv).1
  have hX : xf (fun b j => (b = am ∧ j = 0) ∨ ((b = am ∧ j = 5) ∨ ((b = fv ∧ (0 ≤ j ∧ j ≤ 4)) ∨ (b = tm ∧ (c ≤ j ∧ j ≤ c + 19))))) G G := xf.rf
  refine hs_aload (i := 0) (p := 1) (by decide +kernel) rfl ?_
  refine hs_k (x := Int32.ofNat 0) (p := 2) (by decide +kernel) ?_
  refine hf_put (T := et_TT) (t := 13) (ci := 11) (f := 0) (p := 5) (ty := .int) (by decide +kernel) rfl rfl rfl rfl rfl hH k_am hi_any (fun G2 hH x2 e2 => ?_)
  have m4 := (x2.2 am 4 lt_am (fun h => absurd h.2 (by decide))).trans m4
  have m11 := (x2.2 am 11 lt_am (fun h => absurd h.2 (by decide))).trans m11
  have m5 := (x2.2 am 5 lt_am (fun h => absurd h.2 (by decide))).trans m5
  have ht : ∀ i, i < c → et_pl (eg_at G2 tm) i = some (.int (sx (tb i))) := fun i hi => (x2.2 tm i lt_tm (fun h => (hi_ne k_tm k_am (by decide)) h.1)).trans (ht i hi)
  have lt_am := Nat.lt_of_lt_of_le lt_am x2.1
  have lt_tm := Nat.lt_of_lt_of_le lt_tm x2.1
  have lt_fv := Nat.lt_of_lt_of_le lt_fv x2.1
  have hX := hX.tr x2 (fun b j hb h => by first | omega | (dsimp only at h ⊢; omega) | (dsimp only at h; omega) | (dsimp only; omega))
  refine hs_aload (i := 0) (p := 6) (by decide +kernel) rfl ?_
  refine hf_get (T := et_TT) (t := 13) (ci := 11) (f := 5) (p := 9) (by decide +kernel) rfl hH k_am m5 ?_
  refine hs_k (x := Int32.ofNat 20) (p := 11) (by decide +kernel) ?_
  refine hs_iaddn (p := 12) (by decide +kernel) ?_
  refine hs_k (x := Int32.ofNat 400) (p := 15) (by decide +kernel) ?_
  refine hs_br2n (c := .le) (t := 20) (f := 18) (by decide +kernel) (by omega) (by omega) (fun (c15 : (c + 20) ≤ 400) => ?_) (fun (c15 : ¬ ((c + 20) ≤ 400)) => ?_)
  · refine hs_aload (i := 0) (p := 21) (by decide +kernel) rfl ?_
    refine hf_get (T := et_TT) (t := 13) (ci := 11) (f := 11) (p := 24) (by decide +kernel) rfl hH k_am m11 ?_
    refine hs_k (x := Int32.ofNat 0) (p := 25) (by decide +kernel) ?_
    refine hs_iload (i := 1) (p := 26) (by decide +kernel) rfl ?_
    refine hf_ist (T := et_TT) (t := 14) (N := 5) (p := 27) (by decide +kernel) rfl rfl (by decide) hH k_fv (by omega) (by decide) (fun s hs => absurd hs List.not_mem_nil) (fun G26 hH x26 e26 => ?_)
    have m4 := (x26.2 am 4 lt_am (fun h => (hi_ne k_am k_fv (by decide)) h.1)).trans m4
    have m11 := (x26.2 am 11 lt_am (fun h => (hi_ne k_am k_fv (by decide)) h.1)).trans m11
    have m5 := (x26.2 am 5 lt_am (fun h => (hi_ne k_am k_fv (by decide)) h.1)).trans m5
    have e2 := (x26.2 am 0 lt_am (fun h => (hi_ne k_am k_fv (by decide)) h.1)).trans e2
    have ht : ∀ i, i < c → et_pl (eg_at G26 tm) i = some (.int (sx (tb i))) := fun i hi => (x26.2 tm i lt_tm (fun h => (hi_ne k_tm k_fv (by decide)) h.1)).trans (ht i hi)
    have lt_am := Nat.lt_of_lt_of_le lt_am x26.1
    have lt_tm := Nat.lt_of_lt_of_le lt_tm x26.1
    have lt_fv := Nat.lt_of_lt_of_le lt_fv x26.1
    have hX := hX.tr x26 (fun b j hb h => by first | omega | (dsimp only at h ⊢; omega) | (dsimp only at h; omega) | (dsimp only; omega))
    refine hs_aload (i := 0) (p := 28) (by decide +kernel) rfl ?_
    refine hf_get (T := et_TT) (t := 13) (ci := 11) (f := 11) (p := 31) (by decide +kernel) rfl hH k_am m11 ?_
    refine hs_k (x := Int32.ofNat 1) (p := 32) (by decide +kernel) ?_
    refine hs_iload (i := 2) (p := 33) (by decide +kernel) rfl ?_
    refine hf_ist (T := et_TT) (t := 14) (N := 5) (p := 34) (by decide +kernel) rfl rfl (by decide) hH k_fv (by omega) (by decide) (fun s hs => absurd hs List.not_mem_nil) (fun G33 hH x33 e33 => ?_)
    have m4 := (x33.2 am 4 lt_am (fun h => (hi_ne k_am k_fv (by decide)) h.1)).trans m4
    have m11 := (x33.2 am 11 lt_am (fun h => (hi_ne k_am k_fv (by decide)) h.1)).trans m11
    have m5 := (x33.2 am 5 lt_am (fun h => (hi_ne k_am k_fv (by decide)) h.1)).trans m5
    have e2 := (x33.2 am 0 lt_am (fun h => (hi_ne k_am k_fv (by decide)) h.1)).trans e2
    have e26 := (x33.2 fv 0 lt_fv (fun h => absurd h.2 (by decide))).trans e26
    have ht : ∀ i, i < c → et_pl (eg_at G33 tm) i = some (.int (sx (tb i))) := fun i hi => (x33.2 tm i lt_tm (fun h => (hi_ne k_tm k_fv (by decide)) h.1)).trans (ht i hi)
    have lt_am := Nat.lt_of_lt_of_le lt_am x33.1
    have lt_tm := Nat.lt_of_lt_of_le lt_tm x33.1
    have lt_fv := Nat.lt_of_lt_of_le lt_fv x33.1
    have hX := hX.tr x33 (fun b j hb h => by first | omega | (dsimp only at h ⊢; omega) | (dsimp only at h; omega) | (dsimp only; omega))
    refine hs_aload (i := 0) (p := 35) (by decide +kernel) rfl ?_
    refine hf_get (T := et_TT) (t := 13) (ci := 11) (f := 11) (p := 38) (by decide +kernel) rfl hH k_am m11 ?_
    refine hs_k (x := Int32.ofNat 2) (p := 39) (by decide +kernel) ?_
    refine hs_iload (i := 3) (p := 40) (by decide +kernel) rfl ?_
    refine hf_ist (T := et_TT) (t := 14) (N := 5) (p := 41) (by decide +kernel) rfl rfl (by decide) hH k_fv (by omega) (by decide) (fun s hs => absurd hs List.not_mem_nil) (fun G40 hH x40 e40 => ?_)
    have m4 := (x40.2 am 4 lt_am (fun h => (hi_ne k_am k_fv (by decide)) h.1)).trans m4
    have m11 := (x40.2 am 11 lt_am (fun h => (hi_ne k_am k_fv (by decide)) h.1)).trans m11
    have m5 := (x40.2 am 5 lt_am (fun h => (hi_ne k_am k_fv (by decide)) h.1)).trans m5
    have e2 := (x40.2 am 0 lt_am (fun h => (hi_ne k_am k_fv (by decide)) h.1)).trans e2
    have e26 := (x40.2 fv 0 lt_fv (fun h => absurd h.2 (by decide))).trans e26
    have e33 := (x40.2 fv 1 lt_fv (fun h => absurd h.2 (by decide))).trans e33
    have ht : ∀ i, i < c → et_pl (eg_at G40 tm) i = some (.int (sx (tb i))) := fun i hi => (x40.2 tm i lt_tm (fun h => (hi_ne k_tm k_fv (by decide)) h.1)).trans (ht i hi)
    have lt_am := Nat.lt_of_lt_of_le lt_am x40.1
    have lt_tm := Nat.lt_of_lt_of_le lt_tm x40.1
    have lt_fv := Nat.lt_of_lt_of_le lt_fv x40.1
    have hX := hX.tr x40 (fun b j hb h => by first | omega | (dsimp only at h ⊢; omega) | (dsimp only at h; omega) | (dsimp only; omega))
    refine hs_aload (i := 0) (p := 42) (by decide +kernel) rfl ?_
    refine hf_get (T := et_TT) (t := 13) (ci := 11) (f := 11) (p := 45) (by decide +kernel) rfl hH k_am m11 ?_
    refine hs_k (x := Int32.ofNat 3) (p := 46) (by decide +kernel) ?_
    refine hs_iload (i := 4) (p := 48) (by decide +kernel) rfl ?_
    refine hf_ist (T := et_TT) (t := 14) (N := 5) (p := 49) (by decide +kernel) rfl rfl (by decide) hH k_fv (by omega) (by decide) (fun s hs => absurd hs List.not_mem_nil) (fun G48 hH x48 e48 => ?_)
    have m4 := (x48.2 am 4 lt_am (fun h => (hi_ne k_am k_fv (by decide)) h.1)).trans m4
    have m11 := (x48.2 am 11 lt_am (fun h => (hi_ne k_am k_fv (by decide)) h.1)).trans m11
    have m5 := (x48.2 am 5 lt_am (fun h => (hi_ne k_am k_fv (by decide)) h.1)).trans m5
    have e2 := (x48.2 am 0 lt_am (fun h => (hi_ne k_am k_fv (by decide)) h.1)).trans e2
    have e26 := (x48.2 fv 0 lt_fv (fun h => absurd h.2 (by decide))).trans e26
    have e33 := (x48.2 fv 1 lt_fv (fun h => absurd h.2 (by decide))).trans e33
    have e40 := (x48.2 fv 2 lt_fv (fun h => absurd h.2 (by decide))).trans e40
    have ht : ∀ i, i < c → et_pl (eg_at G48 tm) i = some (.int (sx (tb i))) := fun i hi => (x48.2 tm i lt_tm (fun h => (hi_ne k_tm k_fv (by decide)) h.1)).trans (ht i hi)
    have lt_am := Nat.lt_of_lt_of_le lt_am x48.1
    have lt_tm := Nat.lt_of_lt_of_le lt_tm x48.1
    have lt_fv := Nat.lt_of_lt_of_le lt_fv x48.1
    have hX := hX.tr x48 (fun b j hb h => by first | omega | (dsimp only at h ⊢; omega) | (dsimp only at h; omega) | (dsimp only; omega))
    refine hs_aload (i := 0) (p := 50) (by decide +kernel) rfl ?_
    refine hf_get (T := et_TT) (t := 13) (ci := 11) (f := 11) (p := 53) (by decide +kernel) rfl hH k_am m11 ?_
    refine hs_k (x := Int32.ofNat 4) (p := 54) (by decide +kernel) ?_
    refine hs_iload (i := 5) (p := 56) (by decide +kernel) rfl ?_
    refine hf_ist (T := et_TT) (t := 14) (N := 5) (p := 57) (by decide +kernel) rfl rfl (by decide) hH k_fv (by omega) (by decide) (fun s hs => absurd hs List.not_mem_nil) (fun G56 hH x56 e56 => ?_)
    have m4 := (x56.2 am 4 lt_am (fun h => (hi_ne k_am k_fv (by decide)) h.1)).trans m4
    have m11 := (x56.2 am 11 lt_am (fun h => (hi_ne k_am k_fv (by decide)) h.1)).trans m11
    have m5 := (x56.2 am 5 lt_am (fun h => (hi_ne k_am k_fv (by decide)) h.1)).trans m5
    have e2 := (x56.2 am 0 lt_am (fun h => (hi_ne k_am k_fv (by decide)) h.1)).trans e2
    have e26 := (x56.2 fv 0 lt_fv (fun h => absurd h.2 (by decide))).trans e26
    have e33 := (x56.2 fv 1 lt_fv (fun h => absurd h.2 (by decide))).trans e33
    have e40 := (x56.2 fv 2 lt_fv (fun h => absurd h.2 (by decide))).trans e40
    have e48 := (x56.2 fv 3 lt_fv (fun h => absurd h.2 (by decide))).trans e48
    have ht : ∀ i, i < c → et_pl (eg_at G56 tm) i = some (.int (sx (tb i))) := fun i hi => (x56.2 tm i lt_tm (fun h => (hi_ne k_tm k_fv (by decide)) h.1)).trans (ht i hi)
    have lt_am := Nat.lt_of_lt_of_le lt_am x56.1
    have lt_tm := Nat.lt_of_lt_of_le lt_tm x56.1
    have lt_fv := Nat.lt_of_lt_of_le lt_fv x56.1
    have hX := hX.tr x56 (fun b j hb h => by first | omega | (dsimp only at h ⊢; omega) | (dsimp only at h; omega) | (dsimp only; omega))
    refine hs_k (x := Int32.ofNat 0) (p := 58) (by decide +kernel) ?_
    refine hs_istore (i := 6) (p := 60) (by decide +kernel) (Nat.le_of_ble_eq_true rfl) ?_
    have h5 : ∀ i, i < 5 → et_pl (eg_at G56 fv) i = some (.int (xs5 y1 y2 y3 y4 y5 i)) := fun i hi => by
      rcases (by omega : i = 0 ∨ i = 1 ∨ i = 2 ∨ i = 3 ∨ i = 4) with rfl | rfl | rfl | rfl | rfl
      · exact e26
      · exact e33
      · exact e40
      · exact e48
      · exact e56
    refine (fm_feedL (k := 0) (tb := tb) hH k_am m4 k_tm m11 k_fv m5 e2 h5 (by omega) (by decide) (fun i hi => ?_) hX).mono (fun u hu => hu.mono (fun _ _ h => h) (fun G1 r1 h1 => .inr ⟨by omega, h1.2.1, h1.1, h1.2.2.1, h1.2.2.2⟩))
    rw [tb5_lo (by omega)]
    exact ht i (by omega)
  · refine hs_k (x := (-1)) (p := 19) (by decide +kernel) ?_
    refine hs_iret (by decide +kernel) ?_
    exact ⟨_, _, rfl, hH, hX, .inl ⟨by omega, rfl, e2, m5, ht⟩⟩
end FFA
end
section
/-! FUNCTIONAL: the class's takeCondition -/
theorem ts_34 {b : Nat → Nat} {pl n p : Nat} : ∀ t ∈ tz_ts pl b n p, ¬ t.1 = 34 := by
  intro t ht h
  unfold tz_ts at ht
  obtain ⟨q, hq, rfl⟩ := List.mem_map.mp ht
  have h : tz_wd pl b n q = 34 := h
  unfold tz_wd at h
  split at h
  · cases h
  · have h2 := tz_fd_is (pl := pl) (i := q) (e := tz_end b n q) (b := b) 36 0 (by omega)
    rw [h, Bool.and_eq_true] at h2
    have h3 := h2.2
    unfold tz_is at h3
    rw [Bool.and_eq_true, beq_iff_eq, show (tz_tx 34).length = 0 from by decide +kernel] at h3
    have := tz_en_le (b := b) (n := n) (n - (q + 1)) (q + 1)
    have h4 : tz_end b n q = tz_en b n (n - (q + 1)) (q + 1) := rfl
    omega
theorem wat_34 {L : List sp_T} {y : Nat} (h34 : ∀ t ∈ L, ¬ t.1 = 34) : wat L y = 34 ↔ L.drop y = [] := by
  rcases wat_c L y with ⟨-, h2, h3⟩ | ⟨n, h1, h2⟩
  · exact ⟨fun _ => h3, fun _ => h2⟩
  · refine ⟨fun h => absurd h (h34 _ (List.mem_of_getElem? h1)), fun h => ?_⟩
    rw [h] at h2
    cases h2
/-- a call that makes pieces: its answer's text -/
def tcZ (S : Nat → Nat → Prop) (sp : Option (sp_E → Bool)) (K : et_K) (G : eg_G) (u : eg_O) : Prop := ∃ (K' : et_K) (G' : eg_G) (v : Value) (c s : Nat), u = (.inl (some v), G', c, s) ∧ et_ex K K' ∧ et_H et_TT K' G' ∧ xf S G G' ∧ ((sp = none ∧ v = .null) ∨ ∃ (f : sp_E → Bool) (bb : Nat), sp = some f ∧ v = .ref bb ∧ K' bb = some 6 ∧ G.2 ≤ bb ∧ dn G' 15 G.2 G'.2 bb f)
section FGA2
variable {K : et_K} {G G0 : eg_G} {L : List sp_T} {d2 d rd x : Nat} {b : Nat → Nat}

theorem fc_tcB (hH : et_H et_TT K G) (k_rd : K rd = some 7) (htk : tk K G rd L) (htl : tl L) (r8 : et_pl (eg_at G rd) 8 = some (.int (Int32.ofNat x))) (hx : x ≤ L.length) (r2 : et_pl (eg_at G rd) 2 = some (.int (-1))) (h34 : ∀ t ∈ L, ¬ t.1 = 34) {x1 : Option Value} : et_go none (d + 25) 66 5 [some (.ref rd), x1, none] [] G 0 0 (tcZ (rxS rd) (sp_one (L.drop x)) K G) := by
  have lt_rd := (hH.2.2 _ _ k_rd).1
  have hX : xf (fun b j => (b = rd ∧ (2 ≤ j ∧ j ≤ 3)) ∨ (b = rd ∧ j = 8)) G G := xf.rf
  have hx0 : et_ex K K := et_ex.rf
  have hl4 : L.length ≤ 400 := by obtain ⟨_, _, _, _, _, h, _⟩ := htk; exact h
  have lr0 := (hH.2.2 _ _ k_rd).1
  refine hs_aload (i := 0) (p := 6) (by decide +kernel) rfl ?_
  refine hs_k (x := Int32.ofNat 0) (p := 7) (by decide +kernel) ?_
  refine hs_k (x := Int32.ofNat 0) (p := 8) (by decide +kernel) ?_
  have hHo := hH
  refine ht_callv (T := et_TT) (t := 7) (mi := 75) (na := 2) (ci := 5) (lk := 3) (lm := 8) (L0 := eg_en (eg_mL 75) [.ref rd, .int (Int32.ofNat 0), .int (Int32.ofNat 0)]) (by decide +kernel) rfl hH k_rd rfl rfl rfl rfl rfl (by rw [show eg_mL 75 = 8 from by decide +kernel]; first | done | rfl) ?_
  refine (((pp_ag 6).2 _ _ _ _ _ _ hH k_rd r8 (by omega) (by omega) (by omega)).and ((fx_ag 6).2 _ _ _ _ _ _ _ hH k_rd htk htl r8 (by omega) r2 (by omega) (by omega))).mono (fun u hu => fz_cb (t := 2) (by decide) hu (fun K8 G8 v8 c8 s8 hxx8 hH x8 hc8 hs8 hm8 => ?_))
  have x8 := rx_in x8
  have lt_rd := Nat.lt_of_lt_of_le lt_rd x8.1
  have hX := hX.tr x8 (fun b j hb h => by first | omega | (dsimp only at h ⊢; omega) | (dsimp only at h; omega) | (dsimp only; omega))
  have m8 := x8.1
  have htk := htk.xf hHo k_rd hxx8 x8 (fun a j hs => .inl (by first | omega | (dsimp only at hs; omega)))
  have k_rd := hxx8 _ _ k_rd
  have hx0 := hx0.tr hxx8
  rcases sp8 : sp_C 6 (L.drop x) with _ | ⟨f8, r8⟩
  · rw [sp8] at hm8
    obtain ⟨rfl, q8, hq8, r2⟩ := hm8
    show et_go none _ 66 11 _ [.null] _ _ _ _
    refine hs_astore0 (i := 2) (p := 12) (by decide +kernel) (Nat.le_of_ble_eq_true rfl) ?_
    refine hs_aload0 (i := 2) (p := 13) (by decide +kernel) rfl ?_
    refine hs_ifnull0 (p := 26) (by decide +kernel) ?_
    refine hs_aload0 (i := 2) (p := 27) (by decide +kernel) rfl ?_
    refine hs_goto (p := 34) (by decide +kernel) ?_
    refine hs_aretN (cn := "KnobEye$Node") (by decide +kernel) ?_
    exact ⟨_, _, _, _, _, rfl, hx0, hH, rx_out hX, .inl ⟨one_n sp8, rfl⟩⟩
  · rw [sp8] at hm8
    obtain ⟨y8, b8, rfl, hy8, hz8, r8, r2, rfl, k_b8, R8⟩ := hm8
    have lt_b8 := (hH.2.2 _ _ k_b8).1
    obtain ⟨R8, nb8⟩ := R8
    have Rb8 := R8.in
    show et_go none _ 66 11 _ [.ref b8] _ _ _ _
    refine hs_astore (i := 2) (p := 12) (by decide +kernel) (Nat.le_of_ble_eq_true rfl) ?_
    refine hs_aload (i := 2) (p := 13) (by decide +kernel) rfl ?_
    refine hs_ifnull1 (p := 16) (by decide +kernel) ?_
    refine hs_aload (i := 0) (p := 17) (by decide +kernel) rfl ?_
    refine hs_gst (v := Value.ref 34) (p := 20) (by decide +kernel) ?_
    refine ht_callv (T := et_TT) (t := 7) (mi := 78) (na := 1) (ci := 5) (lk := 3) (lm := 2) (L0 := eg_en (eg_mL 78) [.ref rd, .ref 34]) (by decide +kernel) rfl hH k_rd rfl rfl rfl rfl rfl (by rw [show eg_mL 78 = 2 from by decide +kernel]; first | done | rfl) ?_
    refine (fc_is hH k_rd htk htl r8 (by omega) (wd := 34) (by decide)).mono (fun u hu => xp_cb hu ?_)
    by_cases i20 : wat L y8 = 34
    · rw [if_pos i20]
      show et_go none _ 66 23 _ [.int (Int32.ofNat 1)] _ _ _ _
      refine hs_if0 (c := .eq) (t := 30) (f := 26) (by decide +kernel) (show ¬ (Int32.ofNat 1 = 0) by decide) ?_
      refine hs_aload (i := 2) (p := 27) (by decide +kernel) rfl ?_
      refine hs_goto (p := 34) (by decide +kernel) ?_
      refine hs_aret (cn := "KnobEye$Node") (by decide +kernel) ?_
      exact ⟨_, _, _, _, _, rfl, hx0, hH, rx_out hX, .inr ⟨_, _, one_y sp8 ((wat_34 h34).mp i20), rfl, k_b8, Rb8.1, R8⟩⟩
    · rw [if_neg i20]
      show et_go none _ 66 23 _ [.int (Int32.ofNat 0)] _ _ _ _
      refine hs_if1 (c := .eq) (t := 30) (f := 26) (by decide +kernel) (show Int32.ofNat 0 = 0 by decide) ?_
      refine hs_aload (i := 0) (p := 31) (by decide +kernel) rfl ?_
      have hHo := hH
      refine ht_callv (T := et_TT) (t := 7) (mi := 76) (na := 0) (ci := 5) (lk := 3) (lm := 1) (L0 := eg_en (eg_mL 76) [.ref rd]) (by decide +kernel) rfl hH k_rd rfl rfl rfl rfl rfl (by rw [show eg_mL 76 = 1 from by decide +kernel]; first | done | rfl) ?_
      refine (fc_fail hH k_rd htk htl r8 (by omega) r2).mono (fun u hu => xw_cb hu (fun G31 v31 hH x31 hP31 => ?_))
      have nb8 := (x31.2 b8 1 lt_b8 (fun h => (hi_ne k_b8 k_rd (by decide)) h.1)).trans nb8
      have r8 := (x31.2 rd 8 lt_rd (fun h => absurd h.2 (by decide))).trans r8
      have lt_rd := Nat.lt_of_lt_of_le lt_rd x31.1
      have lt_b8 := Nat.lt_of_lt_of_le lt_b8 x31.1
      have hX := hX.tr x31 (fun b j hb h => by first | omega | (dsimp only at h ⊢; omega) | (dsimp only at h; omega) | (dsimp only; omega))
      have m31 := x31.1
      have htk := htk.xf hHo k_rd et_ex.rf x31 (fun a j hs => .inl (by first | omega | (dsimp only at hs; omega)))
      have R8 := R8.fr (x31.agf (lo := G.2) (hi := G8.2) (by omega) (fun a j h1 h2 hs => by first | omega | (dsimp only at hs; omega))).ag
      obtain ⟨rfl, q31, hq31, e31⟩ := hP31
      show et_go none _ 66 34 _ [.null] _ _ _ _
      refine hs_aretN (cn := "KnobEye$Node") (by decide +kernel) ?_
      exact ⟨_, _, _, _, _, rfl, hx0, hH, rx_out hX, .inl ⟨one_x sp8 (fun h => i20 ((wat_34 h34).mpr h)), rfl⟩⟩
theorem fc_tc {ta ba na tp n pl : Nat} (hH : et_H et_TT K G) (k_rd : K rd = some 7) (r0 : et_pl (eg_at G rd) 0 = some (.ref tp)) (k_tp : K tp = some 33) (r1 : et_pl (eg_at G rd) 1 = some (.int (Int32.ofNat n))) (hn : n ≤ 400) (ht : ∀ i, i < n → et_pl (eg_at G tp) i = some (.int (Int32.ofNat (b i)))) (hb : ∀ i, i < n → b i < 256) (k_ta : K ta = some 41) (k_ba : K ba = some 21) (k_na : K na = some 21) (hne : ¬ ba = na) (r4 : et_pl (eg_at G rd) 4 = some (.ref ta)) (r5 : et_pl (eg_at G rd) 5 = some (.ref ba)) (r6 : et_pl (eg_at G rd) 6 = some (.ref na)) (hpl : pl ≤ 3) (hd : 26 ≤ d2) : et_go none d2 66 0 (eg_en (eg_mL 66) [.ref rd, .int (Int32.ofNat pl)]) [] G 0 0 (fun u => tcZ (fun c j => (c = rd ∧ ((1 ≤ j ∧ j ≤ 3) ∨ 7 ≤ j)) ∨ c = ta ∨ c = ba ∨ c = na) (sp_one (tz_ts pl b n 0)) K G u) := by
  obtain ⟨d, rfl⟩ : ∃ d, d2 = d + 25 := ⟨d2 - 25, by omega⟩
  rw [show eg_mL 66 = 3 from by decide +kernel]
  show et_go none (d + 25) 66 0 [some (.ref rd), some (.int (Int32.ofNat pl)), none] [] G 0 0 _
  refine hs_aload (i := 0) (p := 1) (by decide +kernel) rfl ?_
  refine hs_iload (i := 1) (p := 2) (by decide +kernel) rfl ?_
  refine ht_callv (T := et_TT) (t := 7) (mi := 67) (na := 1) (ci := 5) (lk := 3) (lm := 4) (L0 := eg_en (eg_mL 67) [.ref rd, .int (Int32.ofNat pl)]) (by decide +kernel) rfl hH k_rd rfl rfl rfl rfl rfl (by rw [show eg_mL 67 = 4 from by decide +kernel]; first | done | rfl) ?_
  refine (fc_split hH k_rd r0 k_tp r1 hn ht hb k_ta k_ba k_na hne r4 r5 r6 hpl (by omega)).mono (fun u hu => xw_cb hu (fun G2 v2 hH2 x2 hP2 => ?_))
  obtain ⟨rfl, htk, q1, q2, q3, q8⟩ := hP2
  show et_go none _ 66 5 _ [] _ _ _ _
  refine (fc_tcB hH2 k_rd htk tl_ts q8 (Nat.zero_le _) q2 ts_34).mono (fun u hu => ?_)
  obtain ⟨K', G', v, c, s, e, g1, g2, g3, g4⟩ := hu
  refine ⟨K', G', v, c, s, e, g1, g2, x2.tr (g3.wk (fun a j _ h => ?_)) (fun a j ha h => h), ?_⟩
  · obtain ⟨h1, h2⟩ := h
    exact .inl ⟨h1, by omega⟩
  · rcases g4 with h | ⟨f, bb, h1, h2, h3, h4, h5⟩
    · exact .inl h
    · exact .inr ⟨f, bb, h1, h2, h3, Nat.le_trans x2.1 h4, h5.wk x2.1 (Nat.le_refl _)⟩
end FGA2
end
section
/-! FUNCTIONAL: end, both sides -/
section FHA
variable {K : et_K} {G G0 : eg_G} {d2 d th rd ta am c : Nat} {x : Int32}
theorem xi_nat {x : Int32} (h : 0 ≤ x) : x = Int32.ofNat x.toInt.toNat := by
  refine Int32.toInt_inj.mp ?_
  have h1 : (0 : Int32).toInt ≤ x.toInt := Int32.le_iff_toInt_le.mp h
  have h0 : (0 : Int32).toInt = 0 := rfl
  have h2 := x.toInt_lt
  rw [hs_nint (by omega)]
  omega
theorem fc_cut (hH : et_H et_TT K G) (k_rd : K rd = some 7) (r1 : et_pl (eg_at G rd) 1 = some (.int (Int32.ofNat c))) (hc : c ≤ 400) : et_go none d2 65 0 (eg_en (eg_mL 65) [.ref rd, .int x]) [] G 0 0 (xw_Z (fun b j => (b = rd ∧ j = 1)) K G (fun G' r => ((0 ≤ x.toInt ∧ x.toInt ≤ (c : Int)) ∧ r = some (.int (Int32.ofNat 1)) ∧ et_pl (eg_at G' rd) 1 = some (.int x)) ∨ (¬ (0 ≤ x.toInt ∧ x.toInt ≤ (c : Int)) ∧ r = some (.int (Int32.ofNat 0)) ∧ et_pl (eg_at G' rd) 1 = some (.int (Int32.ofNat c))))) := by
  have hcn : (Int32.ofNat c).toInt = (c : Int) := hs_nint (by omega)
  have hz : (0 : Int32).toInt = 0 := rfl
  rw [show eg_mL 65 = 2 from by decide +kernel]
  show et_go none d2 65 0 [some (.ref rd), some (.int x)] [] G 0 0 _
  have lt_rd := (hH.2.2 _ _ k_rd).1
  have hX : xf (fun b j => (b = rd ∧ j = 1)) G G := xf.rf
  refine hs_iload (i := 1) (p := 1) (by decide +kernel) rfl ?_
  refine hs_br1 (c := .lt) (t := 12) (f := 4) (by decide +kernel) (fun (c1 : x < 0) => ?_) (fun (c1 : ¬ (x < 0)) => ?_)
  · refine hs_k (x := Int32.ofNat 0) (p := 13) (by decide +kernel) ?_
    refine hs_zret (by decide +kernel) (.inl rfl) ?_
    simp only [Int32.lt_iff_toInt_lt, Int32.le_iff_toInt_le, hcn, hz] at c1
    exact ⟨_, _, rfl, hH, hX, .inr ⟨by omega, rfl, r1⟩⟩
  · refine hs_iload (i := 1) (p := 5) (by decide +kernel) rfl ?_
    refine hs_aload (i := 0) (p := 6) (by decide +kernel) rfl ?_
    refine hf_get (T := et_TT) (t := 7) (ci := 5) (f := 1) (p := 9) (by decide +kernel) rfl hH k_rd r1 ?_
    refine hs_br2 (c := .le) (t := 14) (f := 12) (by decide +kernel) (fun (c9 : x ≤ Int32.ofNat c) => ?_) (fun (c9 : ¬ (x ≤ Int32.ofNat c)) => ?_)
    · refine hs_aload (i := 0) (p := 15) (by decide +kernel) rfl ?_
      refine hs_iload (i := 1) (p := 16) (by decide +kernel) rfl ?_
      refine hf_put (T := et_TT) (t := 7) (ci := 5) (f := 1) (p := 19) (ty := .int) (by decide +kernel) rfl rfl rfl rfl rfl hH k_rd (by have h4 := c1; have h9 := c9; simp only [Int32.lt_iff_toInt_lt, Int32.le_iff_toInt_le, hcn, hz] at h4 h9; rw [xi_nat (x := x) (by rw [Int32.le_iff_toInt_le, hz]; omega)]; exact hi_nv (by omega) (by omega)) (fun G16 hH x16 e16 => ?_)
      have lt_rd := Nat.lt_of_lt_of_le lt_rd x16.1
      have hX := hX.tr x16 (fun b j hb h => by first | omega | (dsimp only at h ⊢; omega) | (dsimp only at h; omega) | (dsimp only; omega))
      refine hs_k (x := Int32.ofNat 1) (p := 20) (by decide +kernel) ?_
      refine hs_zret (by decide +kernel) (.inr rfl) ?_
      simp only [Int32.lt_iff_toInt_lt, Int32.le_iff_toInt_le, hcn, hz] at c1 c9
      exact ⟨_, _, rfl, hH, hX, .inl ⟨⟨by omega, by omega⟩, rfl, e16⟩⟩
    · refine hs_k (x := Int32.ofNat 0) (p := 13) (by decide +kernel) ?_
      refine hs_zret (by decide +kernel) (.inl rfl) ?_
      simp only [Int32.lt_iff_toInt_lt, Int32.le_iff_toInt_le, hcn, hz] at c1 c9
      exact ⟨_, _, rfl, hH, hX, .inr ⟨by omega, rfl, r1⟩⟩
theorem fc_endx (hH : et_H et_TT K G) (k_rd : K rd = some 7) (r1 : et_pl (eg_at G rd) 1 = some (.int (Int32.ofNat c))) (hc : c ≤ 400) (k_th : K th = some 12) (h3 : et_pl (eg_at G th) 3 = some (.ref rd)) (hd : 1 ≤ d2) : et_go none d2 117 0 (eg_en (eg_mL 117) [.ref th, .int x]) [] G 0 0 (xw_Z (fun b j => (b = rd ∧ j = 1)) K G (fun G' r => ((0 ≤ x.toInt ∧ x.toInt ≤ (c : Int)) ∧ r = some (.int (Int32.ofNat 1)) ∧ et_pl (eg_at G' rd) 1 = some (.int x)) ∨ (¬ (0 ≤ x.toInt ∧ x.toInt ≤ (c : Int)) ∧ r = some (.int (Int32.ofNat 0)) ∧ et_pl (eg_at G' rd) 1 = some (.int (Int32.ofNat c))))) := by
  obtain ⟨d, rfl⟩ : ∃ d, d2 = d + 1 := ⟨d2 - 1, by omega⟩
  rw [show eg_mL 117 = 2 from by decide +kernel]
  show et_go none (d + 1) 117 0 [some (.ref th), some (.int x)] [] G 0 0 (xw_Z _ _ _ _)
  have lt_th := (hH.2.2 _ _ k_th).1
  have lt_rd := (hH.2.2 _ _ k_rd).1
  have hX : xf (fun b j => (b = rd ∧ j = 1)) G G := xf.rf
  refine hs_aload (i := 0) (p := 1) (by decide +kernel) rfl ?_
  refine hf_get (T := et_TT) (t := 12) (ci := 10) (f := 3) (p := 4) (by decide +kernel) rfl hH k_th h3 ?_
  refine hs_iload (i := 1) (p := 5) (by decide +kernel) rfl ?_
  refine ht_callv (T := et_TT) (t := 7) (mi := 65) (na := 1) (ci := 5) (lk := 2) (lm := 2) (L0 := eg_en (eg_mL 65) [.ref rd, .int x]) (by decide +kernel) rfl hH k_rd rfl rfl rfl rfl rfl (by rw [show eg_mL 65 = 2 from by decide +kernel]; first | done | rfl) ?_
  refine (fc_cut hH k_rd r1 hc).mono (fun u hu => xw_cb hu (fun G5 v5 hH x5 hP5 => ?_))
  have h3 := (x5.2 th 3 lt_th (fun h => (hi_ne k_th k_rd (by decide)) h.1)).trans h3
  have lt_th := Nat.lt_of_lt_of_le lt_th x5.1
  have lt_rd := Nat.lt_of_lt_of_le lt_rd x5.1
  have hX := hX.tr x5 (fun b j hb h => by first | omega | (dsimp only at h ⊢; omega) | (dsimp only at h; omega) | (dsimp only; omega))
  rcases hP5 with ⟨hx, rfl, q1⟩ | ⟨hx, rfl, q1⟩
  · show et_go none _ 117 8 _ [.int (Int32.ofNat 1)] _ _ _ _
    refine hs_zret (by decide +kernel) (.inr rfl) ?_
    exact ⟨_, _, rfl, hH, hX, .inl ⟨hx, rfl, q1⟩⟩
  · show et_go none _ 117 8 _ [.int (Int32.ofNat 0)] _ _ _ _
    refine hs_zret (by decide +kernel) (.inl rfl) ?_
    exact ⟨_, _, rfl, hH, hX, .inr ⟨hx, rfl, q1⟩⟩
theorem fm_end (hH : et_H et_TT K G) (k_am : K am = some 13) (m5 : et_pl (eg_at G am) 5 = some (.int (Int32.ofNat c))) (hc : c ≤ 400) : et_go none d2 178 0 (eg_en (eg_mL 178) [.ref am, .int x]) [] G 0 0 (xw_Z (fun b j => (b = am ∧ j = 0) ∨ (b = am ∧ j = 5)) K G (fun G' r => ((0 ≤ x.toInt ∧ x.toInt ≤ (c : Int)) ∧ r = some (.int (Int32.ofNat 1)) ∧ et_pl (eg_at G' am) 5 = some (.int x)) ∨ (¬ (0 ≤ x.toInt ∧ x.toInt ≤ (c : Int)) ∧ r = some (.int (Int32.ofNat 0)) ∧ et_pl (eg_at G' am) 5 = some (.int (Int32.ofNat c))))) := by
  have hcn : (Int32.ofNat c).toInt = (c : Int) := hs_nint (by omega)
  have hz : (0 : Int32).toInt = 0 := rfl
  rw [show eg_mL 178 = 2 from by decide +kernel]
  show et_go none d2 178 0 [some (.ref am), some (.int x)] [] G 0 0 (xw_Z _ _ _ _)
  have lt_am := (hH.2.2 _ _ k_am).1
  have hX : xf (fun b j => (b = am ∧ j = 0) ∨ (b = am ∧ j = 5)) G G := xf.rf
  refine hs_aload (i := 0) (p := 1) (by decide +kernel) rfl ?_
  refine hs_k (x := Int32.ofNat 0) (p := 2) (by decide +kernel) ?_
  refine hf_put (T := et_TT) (t := 13) (ci := 11) (f := 0) (p := 5) (ty := .int) (by decide +kernel) rfl rfl rfl rfl rfl hH k_am hi_any (fun G2 hH x2 e2 => ?_)
  have m5 := (x2.2 am 5 lt_am (fun h => absurd h.2 (by decide))).trans m5
  have lt_am := Nat.lt_of_lt_of_le lt_am x2.1
  have hX := hX.tr x2 (fun b j hb h => by first | omega | (dsimp only at h ⊢; omega) | (dsimp only at h; omega) | (dsimp only; omega))
  refine hs_iload (i := 1) (p := 6) (by decide +kernel) rfl ?_
  refine hs_br1 (c := .lt) (t := 17) (f := 9) (by decide +kernel) (fun (c6 : x < 0) => ?_) (fun (c6 : ¬ (x < 0)) => ?_)
  · refine hs_k (x := Int32.ofNat 0) (p := 18) (by decide +kernel) ?_
    refine hs_zret (by decide +kernel) (.inl rfl) ?_
    simp only [Int32.lt_iff_toInt_lt, Int32.le_iff_toInt_le, hcn, hz] at c6
    exact ⟨_, _, rfl, hH, hX, .inr ⟨by omega, rfl, m5⟩⟩
  · refine hs_iload (i := 1) (p := 10) (by decide +kernel) rfl ?_
    refine hs_aload (i := 0) (p := 11) (by decide +kernel) rfl ?_
    refine hf_get (T := et_TT) (t := 13) (ci := 11) (f := 5) (p := 14) (by decide +kernel) rfl hH k_am m5 ?_
    refine hs_br2 (c := .le) (t := 19) (f := 17) (by decide +kernel) (fun (c14 : x ≤ Int32.ofNat c) => ?_) (fun (c14 : ¬ (x ≤ Int32.ofNat c)) => ?_)
    · refine hs_aload (i := 0) (p := 20) (by decide +kernel) rfl ?_
      refine hs_iload (i := 1) (p := 21) (by decide +kernel) rfl ?_
      refine hf_put (T := et_TT) (t := 13) (ci := 11) (f := 5) (p := 24) (ty := .int) (by decide +kernel) rfl rfl rfl rfl rfl hH k_am (by have h6 := c6; have h14 := c14; simp only [Int32.lt_iff_toInt_lt, Int32.le_iff_toInt_le, hcn, hz] at h6 h14; rw [xi_nat (x := x) (by rw [Int32.le_iff_toInt_le, hz]; omega)]; exact hi_nv (by omega) (by omega)) (fun G21 hH x21 e21 => ?_)
      have e2 := (x21.2 am 0 lt_am (fun h => absurd h.2 (by decide))).trans e2
      have lt_am := Nat.lt_of_lt_of_le lt_am x21.1
      have hX := hX.tr x21 (fun b j hb h => by first | omega | (dsimp only at h ⊢; omega) | (dsimp only at h; omega) | (dsimp only; omega))
      refine hs_k (x := Int32.ofNat 1) (p := 25) (by decide +kernel) ?_
      refine hs_zret (by decide +kernel) (.inr rfl) ?_
      simp only [Int32.lt_iff_toInt_lt, Int32.le_iff_toInt_le, hcn, hz] at c6 c14
      exact ⟨_, _, rfl, hH, hX, .inl ⟨⟨by omega, by omega⟩, rfl, e21⟩⟩
    · refine hs_k (x := Int32.ofNat 0) (p := 18) (by decide +kernel) ?_
      refine hs_zret (by decide +kernel) (.inl rfl) ?_
      simp only [Int32.lt_iff_toInt_lt, Int32.le_iff_toInt_le, hcn, hz] at c6 c14
      exact ⟨_, _, rfl, hH, hX, .inr ⟨by omega, rfl, m5⟩⟩
end FHA
end
section
/-! FUNCTIONAL: the reference's cards -/
theorem hf_c5 {K : et_K} {n : Nat} {x : Int32} (h1 : 5 ≤ n) (h2 : n ≤ 44) : ∀ s ∈ et_w46, s.1 ≤ n → n ≤ s.2.1 → et_v K s.2.2 (.int x) := by
  intro s hs h3 h4
  have h : et_w46.all (fun s => decide (s.2.1 < 5) || decide (44 < s.1)) = true := by decide +kernel
  have h5 := List.all_eq_true.mp h s hs
  simp only [Bool.or_eq_true, decide_eq_true_eq] at h5
  omega
section FIA
variable {K : et_K} {G G0 : eg_G} {d2 d am aw c : Nat} {x y : Int32}
theorem fm_cards (hH : et_H et_TT K G) (k_am : K am = some 13) (k_aw : K aw = some 46) (m1 : et_pl (eg_at G am) 1 = some (.ref aw)) (w3 : et_pl (eg_at G aw) 3 = some (.int (Int32.ofNat c))) : et_go none d2 218 0 (eg_en (eg_mL 218) [.ref am]) [] G 0 0 (xp_Z G (some (.int (Int32.ofNat c)))) := by
  rw [show eg_mL 218 = 1 from by decide +kernel]
  show et_go none d2 218 0 [some (.ref am)] [] G 0 0 _
  have lt_am := (hH.2.2 _ _ k_am).1
  have lt_aw := (hH.2.2 _ _ k_aw).1
  refine hs_aload (i := 0) (p := 1) (by decide +kernel) rfl ?_
  refine hf_get (T := et_TT) (t := 13) (ci := 11) (f := 1) (p := 4) (by decide +kernel) rfl hH k_am m1 ?_
  refine hs_k (x := Int32.ofNat 3) (p := 5) (by decide +kernel) ?_
  refine hf_ald (ins := .iaload) (T := et_TT) (t := 46) (kd := 0) (N := 12741) (p := 6) (by decide +kernel) (fun _ _ _ _ _ _ _ _ _ _ => rfl) rfl rfl rfl hH k_aw (by decide) w3 ?_
  refine hs_iret (by decide +kernel) ?_
  rfl
theorem fm_away (hH : et_H et_TT K G) (k_am : K am = some 13) (k_aw : K aw = some 46) (m1 : et_pl (eg_at G am) 1 = some (.ref aw)) (w3 : et_pl (eg_at G aw) 3 = some (.int (Int32.ofNat c))) (hc : c ≤ 20) : et_go none (d + 1) 221 0 (eg_en (eg_mL 221) [.ref am]) [] G 0 0 (xw_Z (fun b j => (b = am ∧ j = 0) ∨ (b = aw ∧ j = 3)) K G (fun G' r => et_pl (eg_at G' am) 0 = some (.int (Int32.ofNat 0)) ∧ ((c = 0 ∧ r = some (.int (-1)) ∧ et_pl (eg_at G' aw) 3 = some (.int (Int32.ofNat c))) ∨ (¬ c = 0 ∧ r = some (.int (Int32.ofNat (c - 1))) ∧ et_pl (eg_at G' aw) 3 = some (.int (Int32.ofNat (c - 1))))))) := by
  rw [show eg_mL 221 = 1 from by decide +kernel]
  show et_go none (d + 1) 221 0 [some (.ref am)] [] G 0 0 (xw_Z _ _ _ _)
  have lt_am := (hH.2.2 _ _ k_am).1
  have lt_aw := (hH.2.2 _ _ k_aw).1
  have hX : xf (fun b j => (b = am ∧ j = 0) ∨ (b = aw ∧ j = 3)) G G := xf.rf
  refine hs_aload (i := 0) (p := 1) (by decide +kernel) rfl ?_
  refine hs_k (x := Int32.ofNat 0) (p := 2) (by decide +kernel) ?_
  refine hf_put (T := et_TT) (t := 13) (ci := 11) (f := 0) (p := 5) (ty := .int) (by decide +kernel) rfl rfl rfl rfl rfl hH k_am hi_any (fun G2 hH x2 e2 => ?_)
  have m1 := (x2.2 am 1 lt_am (fun h => absurd h.2 (by decide))).trans m1
  have w3 := (x2.2 aw 3 lt_aw (fun h => (hi_ne k_aw k_am (by decide)) h.1)).trans w3
  have lt_am := Nat.lt_of_lt_of_le lt_am x2.1
  have lt_aw := Nat.lt_of_lt_of_le lt_aw x2.1
  have hX := hX.tr x2 (fun b j hb h => by first | omega | (dsimp only at h ⊢; omega) | (dsimp only at h; omega) | (dsimp only; omega))
  refine hs_aload (i := 0) (p := 6) (by decide +kernel) rfl ?_
  refine ht_callv (T := et_TT) (t := 13) (mi := 218) (na := 0) (ci := 11) (lk := 1) (lm := 1) (L0 := eg_en (eg_mL 218) [.ref am]) (by decide +kernel) rfl hH k_am rfl rfl rfl rfl rfl (by rw [show eg_mL 218 = 1 from by decide +kernel]; first | done | rfl) ?_
  refine (fm_cards hH k_am k_aw m1 w3).mono (fun u hu => xp_cb hu ?_)
  show et_go none _ 221 9 _ [.int (Int32.ofNat c)] _ _ _ _
  refine hs_br1 (c := .ne) (t := 14) (f := 12) (by decide +kernel) (fun (c9 : ¬ Int32.ofNat c = 0) => ?_) (fun (c9 : ¬ (¬ Int32.ofNat c = 0)) => ?_)
  · have c9 : ¬ c = 0 := fun h => c9 (by rw [h]; rfl)
    refine hs_aload (i := 0) (p := 15) (by decide +kernel) rfl ?_
    refine hf_get (T := et_TT) (t := 13) (ci := 11) (f := 1) (p := 18) (by decide +kernel) rfl hH k_am m1 ?_
    refine hs_k (x := Int32.ofNat 3) (p := 19) (by decide +kernel) ?_
    refine hs_dup2 (p := 20) (by decide +kernel) ?_
    refine hf_ald (ins := .iaload) (T := et_TT) (t := 46) (kd := 0) (N := 12741) (p := 21) (by decide +kernel) (fun _ _ _ _ _ _ _ _ _ _ => rfl) rfl rfl rfl hH k_aw (by decide) w3 ?_
    refine hs_k (x := Int32.ofNat 1) (p := 22) (by decide +kernel) ?_
    refine hs_isubn (p := 23) (by decide +kernel) (by omega) ?_
    refine hf_wst (p := 24) (by decide +kernel) hH k_aw (by omega) (hf_wk (p := .inl (0, 20)) (by decide +kernel) (hi_nv (by omega) (by omega))) (fun G23 hH x23 e23 => ?_)
    have m1 := (x23.2 am 1 lt_am (fun h => (hi_ne k_am k_aw (by decide)) h.1)).trans m1
    have e2 := (x23.2 am 0 lt_am (fun h => (hi_ne k_am k_aw (by decide)) h.1)).trans e2
    have lt_am := Nat.lt_of_lt_of_le lt_am x23.1
    have lt_aw := Nat.lt_of_lt_of_le lt_aw x23.1
    have hX := hX.tr x23 (fun b j hb h => by first | omega | (dsimp only at h ⊢; omega) | (dsimp only at h; omega) | (dsimp only; omega))
    refine hs_aload (i := 0) (p := 25) (by decide +kernel) rfl ?_
    refine ht_callv (T := et_TT) (t := 13) (mi := 218) (na := 0) (ci := 11) (lk := 1) (lm := 1) (L0 := eg_en (eg_mL 218) [.ref am]) (by decide +kernel) rfl hH k_am rfl rfl rfl rfl rfl (by rw [show eg_mL 218 = 1 from by decide +kernel]; first | done | rfl) ?_
    refine (fm_cards hH k_am k_aw m1 e23).mono (fun u hu => xp_cb hu ?_)
    show et_go none _ 221 28 _ [.int (Int32.ofNat (c - 1))] _ _ _ _
    refine hs_iret (by decide +kernel) ?_
    exact ⟨_, _, rfl, hH, hX, e2, .inr ⟨c9, rfl, e23⟩⟩
  · have c9 : c = 0 := by have h := Decidable.of_not_not c9; have h2 := congrArg Int32.toInt h; rw [hs_nint (by omega)] at h2; have h3 : (0 : Int32).toInt = 0 := rfl; omega
    refine hs_k (x := (-1)) (p := 13) (by decide +kernel) ?_
    refine hs_iret (by decide +kernel) ?_
    exact ⟨_, _, rfl, hH, hX, e2, .inl ⟨c9, rfl, w3⟩⟩
theorem fm_puts (hH : et_H et_TT K G) (k_am : K am = some 13) (k_aw : K aw = some 46) (m1 : et_pl (eg_at G am) 1 = some (.ref aw)) (w3 : et_pl (eg_at G aw) 3 = some (.int (Int32.ofNat c))) (hc : c < 20) : et_go none (d + 1) 219 0 (eg_en (eg_mL 219) [.ref am, .int x, .int y]) [] G 0 0 (xw_Z (fun b j => (b = aw ∧ j = 3) ∨ (b = aw ∧ (5 + 2 * c ≤ j ∧ j ≤ 5 + 2 * c + 1))) K G (fun G' r => r = some (.int (Int32.ofNat c)) ∧ et_pl (eg_at G' aw) 3 = some (.int (Int32.ofNat (c + 1))) ∧ et_pl (eg_at G' aw) (5 + 2 * c) = some (.int x) ∧ et_pl (eg_at G' aw) (5 + 2 * c + 1) = some (.int (if y = 0 then 0 else 1)))) := by
  rw [show eg_mL 219 = 4 from by decide +kernel]
  show et_go none (d + 1) 219 0 [some (.ref am), some (.int x), some (.int y), none] [] G 0 0 (xw_Z _ _ _ _)
  have lt_am := (hH.2.2 _ _ k_am).1
  have lt_aw := (hH.2.2 _ _ k_aw).1
  have hX : xf (fun b j => (b = aw ∧ j = 3) ∨ (b = aw ∧ (5 + 2 * c ≤ j ∧ j ≤ 5 + 2 * c + 1))) G G := xf.rf
  refine hs_aload (i := 0) (p := 1) (by decide +kernel) rfl ?_
  refine ht_callv (T := et_TT) (t := 13) (mi := 218) (na := 0) (ci := 11) (lk := 4) (lm := 1) (L0 := eg_en (eg_mL 218) [.ref am]) (by decide +kernel) rfl hH k_am rfl rfl rfl rfl rfl (by rw [show eg_mL 218 = 1 from by decide +kernel]; first | done | rfl) ?_
  refine (fm_cards hH k_am k_aw m1 w3).mono (fun u hu => xp_cb hu ?_)
  show et_go none _ 219 4 _ [.int (Int32.ofNat c)] _ _ _ _
  refine hs_istore (i := 3) (p := 5) (by decide +kernel) (Nat.le_of_ble_eq_true rfl) ?_
  refine hs_aload (i := 0) (p := 6) (by decide +kernel) rfl ?_
  refine hf_get (T := et_TT) (t := 13) (ci := 11) (f := 1) (p := 9) (by decide +kernel) rfl hH k_am m1 ?_
  refine hs_k (x := Int32.ofNat 5) (p := 10) (by decide +kernel) ?_
  refine hs_k (x := Int32.ofNat 2) (p := 11) (by decide +kernel) ?_
  refine hs_iload (i := 3) (p := 12) (by decide +kernel) rfl ?_
  refine hs_imuln (p := 13) (by decide +kernel) ?_
  refine hs_iaddn (p := 14) (by decide +kernel) ?_
  refine hs_iload (i := 1) (p := 15) (by decide +kernel) rfl ?_
  refine hf_wst (p := 16) (by decide +kernel) hH k_aw (by omega) (hf_c5 (by omega) (by omega)) (fun G15 hH x15 e15 => ?_)
  have m1 := (x15.2 am 1 lt_am (fun h => (hi_ne k_am k_aw (by decide)) h.1)).trans m1
  have w3 := (x15.2 aw 3 lt_aw (fun h => by have h := h.2; omega)).trans w3
  have lt_am := Nat.lt_of_lt_of_le lt_am x15.1
  have lt_aw := Nat.lt_of_lt_of_le lt_aw x15.1
  have hX := hX.tr x15 (fun b j hb h => by first | omega | (dsimp only at h ⊢; omega) | (dsimp only at h; omega) | (dsimp only; omega))
  refine hs_aload (i := 0) (p := 17) (by decide +kernel) rfl ?_
  refine hf_get (T := et_TT) (t := 13) (ci := 11) (f := 1) (p := 20) (by decide +kernel) rfl hH k_am m1 ?_
  refine hs_k (x := Int32.ofNat 5) (p := 21) (by decide +kernel) ?_
  refine hs_k (x := Int32.ofNat 2) (p := 22) (by decide +kernel) ?_
  refine hs_iload (i := 3) (p := 23) (by decide +kernel) rfl ?_
  refine hs_imuln (p := 24) (by decide +kernel) ?_
  refine hs_iaddn (p := 25) (by decide +kernel) ?_
  refine hs_k (x := Int32.ofNat 1) (p := 26) (by decide +kernel) ?_
  refine hs_iaddn (p := 27) (by decide +kernel) ?_
  refine hs_iload (i := 2) (p := 28) (by decide +kernel) rfl ?_
  refine hs_br1 (c := .eq) (t := 35) (f := 31) (by decide +kernel) (fun (c28 : y = 0) => ?_) (fun (c28 : ¬ (y = 0)) => ?_)
  · refine hs_k (x := Int32.ofNat 0) (p := 36) (by decide +kernel) ?_
    refine hf_wst (p := 37) (by decide +kernel) hH k_aw (by omega) (hf_c5 (by omega) (by omega)) (fun G36 hH x36 e36 => ?_)
    have m1 := (x36.2 am 1 lt_am (fun h => (hi_ne k_am k_aw (by decide)) h.1)).trans m1
    have w3 := (x36.2 aw 3 lt_aw (fun h => by have h := h.2; omega)).trans w3
    have e15 := (x36.2 aw (5 + (2 * c)) lt_aw (fun h => by have h := h.2; omega)).trans e15
    have lt_am := Nat.lt_of_lt_of_le lt_am x36.1
    have lt_aw := Nat.lt_of_lt_of_le lt_aw x36.1
    have hX := hX.tr x36 (fun b j hb h => by first | omega | (dsimp only at h ⊢; omega) | (dsimp only at h; omega) | (dsimp only; omega))
    refine hs_aload (i := 0) (p := 38) (by decide +kernel) rfl ?_
    refine hf_get (T := et_TT) (t := 13) (ci := 11) (f := 1) (p := 41) (by decide +kernel) rfl hH k_am m1 ?_
    refine hs_k (x := Int32.ofNat 3) (p := 42) (by decide +kernel) ?_
    refine hs_dup2 (p := 43) (by decide +kernel) ?_
    refine hf_ald (ins := .iaload) (T := et_TT) (t := 46) (kd := 0) (N := 12741) (p := 44) (by decide +kernel) (fun _ _ _ _ _ _ _ _ _ _ => rfl) rfl rfl rfl hH k_aw (by decide) w3 ?_
    refine hs_k (x := Int32.ofNat 1) (p := 45) (by decide +kernel) ?_
    refine hs_iaddn (p := 46) (by decide +kernel) ?_
    refine hf_wst (p := 47) (by decide +kernel) hH k_aw (by omega) (hf_wk (p := .inl (0, 20)) (by decide +kernel) (hi_nv (by omega) (by omega))) (fun G46 hH x46 e46 => ?_)
    have m1 := (x46.2 am 1 lt_am (fun h => (hi_ne k_am k_aw (by decide)) h.1)).trans m1
    have e15 := (x46.2 aw (5 + (2 * c)) lt_aw (fun h => by have h := h.2; omega)).trans e15
    have e36 := (x46.2 aw ((5 + (2 * c)) + 1) lt_aw (fun h => by have h := h.2; omega)).trans e36
    have lt_am := Nat.lt_of_lt_of_le lt_am x46.1
    have lt_aw := Nat.lt_of_lt_of_le lt_aw x46.1
    have hX := hX.tr x46 (fun b j hb h => by first | omega | (dsimp only at h ⊢; omega) | (dsimp only at h; omega) | (dsimp only; omega))
    refine hs_iload (i := 3) (p := 48) (by decide +kernel) rfl ?_
    refine hs_iret (by decide +kernel) ?_
    rw [if_pos c28]
    exact ⟨_, _, rfl, hH, hX, rfl, e46, pl_eq e15 (by omega), pl_eq e36 (by omega)⟩
  · refine hs_k (x := Int32.ofNat 1) (p := 32) (by decide +kernel) ?_
    refine hs_goto (p := 36) (by decide +kernel) ?_
    refine hf_wst (p := 37) (by decide +kernel) hH k_aw (by omega) (hf_c5 (by omega) (by omega)) (fun G36 hH x36 e36 => ?_)
    have m1 := (x36.2 am 1 lt_am (fun h => (hi_ne k_am k_aw (by decide)) h.1)).trans m1
    have w3 := (x36.2 aw 3 lt_aw (fun h => by have h := h.2; omega)).trans w3
    have e15 := (x36.2 aw (5 + (2 * c)) lt_aw (fun h => by have h := h.2; omega)).trans e15
    have lt_am := Nat.lt_of_lt_of_le lt_am x36.1
    have lt_aw := Nat.lt_of_lt_of_le lt_aw x36.1
    have hX := hX.tr x36 (fun b j hb h => by first | omega | (dsimp only at h ⊢; omega) | (dsimp only at h; omega) | (dsimp only; omega))
    refine hs_aload (i := 0) (p := 38) (by decide +kernel) rfl ?_
    refine hf_get (T := et_TT) (t := 13) (ci := 11) (f := 1) (p := 41) (by decide +kernel) rfl hH k_am m1 ?_
    refine hs_k (x := Int32.ofNat 3) (p := 42) (by decide +kernel) ?_
    refine hs_dup2 (p := 43) (by decide +kernel) ?_
    refine hf_ald (ins := .iaload) (T := et_TT) (t := 46) (kd := 0) (N := 12741) (p := 44) (by decide +kernel) (fun _ _ _ _ _ _ _ _ _ _ => rfl) rfl rfl rfl hH k_aw (by decide) w3 ?_
    refine hs_k (x := Int32.ofNat 1) (p := 45) (by decide +kernel) ?_
    refine hs_iaddn (p := 46) (by decide +kernel) ?_
    refine hf_wst (p := 47) (by decide +kernel) hH k_aw (by omega) (hf_wk (p := .inl (0, 20)) (by decide +kernel) (hi_nv (by omega) (by omega))) (fun G46 hH x46 e46 => ?_)
    have m1 := (x46.2 am 1 lt_am (fun h => (hi_ne k_am k_aw (by decide)) h.1)).trans m1
    have e15 := (x46.2 aw (5 + (2 * c)) lt_aw (fun h => by have h := h.2; omega)).trans e15
    have e36 := (x46.2 aw ((5 + (2 * c)) + 1) lt_aw (fun h => by have h := h.2; omega)).trans e36
    have lt_am := Nat.lt_of_lt_of_le lt_am x46.1
    have lt_aw := Nat.lt_of_lt_of_le lt_aw x46.1
    have hX := hX.tr x46 (fun b j hb h => by first | omega | (dsimp only at h ⊢; omega) | (dsimp only at h; omega) | (dsimp only; omega))
    refine hs_iload (i := 3) (p := 48) (by decide +kernel) rfl ?_
    refine hs_iret (by decide +kernel) ?_
    rw [if_neg c28]
    exact ⟨_, _, rfl, hH, hX, rfl, e46, pl_eq e15 (by omega), pl_eq e36 (by omega)⟩
theorem fm_noLit : et_go none (d + 1) 212 0 (eg_en (eg_mL 212) [.int x]) [] G 0 0 (xp_Z G (some (.int (Int32.ofNat (if 0 ≤ x.toInt ∧ x.toInt < 65536 then 0 else 1))))) := by
  have hz : (Int32.ofNat 0).toInt = 0 := rfl
  have h6 : (65535 : Int32).toInt = 65535 := rfl
  rw [show eg_mL 212 = 1 from by decide +kernel]
  show et_go none (d + 1) 212 0 [some (.int x)] [] G 0 0 _
  refine hs_iload (i := 0) (p := 1) (by decide +kernel) rfl ?_
  refine hs_k (x := Int32.ofNat 0) (p := 2) (by decide +kernel) ?_
  refine hs_kld (v := .int 65535) (p := 4) (by decide +kernel) ?_
  refine hs_calls (mi := 209) (na := 3) (lk := 1) (lm := 3) (L0 := eg_en (eg_mL 209) [.int x, .int (Int32.ofNat 0), .int 65535]) (by decide +kernel) rfl rfl rfl rfl rfl rfl (by rw [show eg_mL 209 = 3 from by decide +kernel]; first | done | rfl) ?_
  refine (fm_in (x := x) (y := Int32.ofNat 0) (z := 65535)).mono (fun u hu => xp_cb hu ?_)
  by_cases xl : (Int32.ofNat 0).toInt ≤ x.toInt ∧ x.toInt ≤ (65535 : Int32).toInt
  · rw [if_pos xl]
    show et_go none _ 212 7 _ [.int (Int32.ofNat 1)] _ _ _ _
    refine hs_if1 (c := .ne) (t := 14) (f := 10) (by decide +kernel) (show ¬ Int32.ofNat 1 = 0 by decide) ?_
    refine hs_k (x := Int32.ofNat 0) (p := 15) (by decide +kernel) ?_
    refine hs_zret (by decide +kernel) (.inl rfl) ?_
    rw [hz, h6] at xl
    rw [if_pos (by omega)]
    rfl
  · rw [if_neg xl]
    show et_go none _ 212 7 _ [.int (Int32.ofNat 0)] _ _ _ _
    refine hs_if0 (c := .ne) (t := 14) (f := 10) (by decide +kernel) (show ¬ (¬ Int32.ofNat 0 = 0) by decide) ?_
    refine hs_k (x := Int32.ofNat 1) (p := 11) (by decide +kernel) ?_
    refine hs_goto (p := 15) (by decide +kernel) ?_
    refine hs_zret (by decide +kernel) (.inr rfl) ?_
    rw [hz, h6] at xl
    rw [if_neg (by omega)]
    rfl
theorem fm_card (hH : et_H et_TT K G) (k_am : K am = some 13) (k_aw : K aw = some 46) (m1 : et_pl (eg_at G am) 1 = some (.ref aw)) (w3 : et_pl (eg_at G aw) 3 = some (.int (Int32.ofNat c))) (hc : c ≤ 20) (hd : 2 ≤ d2) : et_go none d2 217 0 (eg_en (eg_mL 217) [.ref am, .int x, .int y]) [] G 0 0 (xw_Z (fun b j => (b = am ∧ j = 0) ∨ ((b = aw ∧ j = 3) ∨ (b = aw ∧ (5 + 2 * c ≤ j ∧ j ≤ 5 + 2 * c + 1)))) K G (fun G' r => (¬ (0 ≤ x.toInt ∧ x.toInt < 65536) ∧ r = some (.int (Int32.ofNat 0)) ∧ et_pl (eg_at G' am) 0 = some (.int (Int32.ofNat 1)) ∧ et_pl (eg_at G' aw) 3 = some (.int (Int32.ofNat c))) ∨ ((0 ≤ x.toInt ∧ x.toInt < 65536) ∧ c = 20 ∧ r = some (.int (Int32.ofNat 0)) ∧ et_pl (eg_at G' am) 0 = some (.int (Int32.ofNat 2)) ∧ et_pl (eg_at G' aw) 3 = some (.int (Int32.ofNat c))) ∨ ((0 ≤ x.toInt ∧ x.toInt < 65536) ∧ c < 20 ∧ r = some (.int (Int32.ofNat c)) ∧ et_pl (eg_at G' am) 0 = some (.int (Int32.ofNat 0)) ∧ et_pl (eg_at G' aw) 3 = some (.int (Int32.ofNat (c + 1))) ∧ et_pl (eg_at G' aw) (5 + 2 * c) = some (.int x) ∧ et_pl (eg_at G' aw) (5 + 2 * c + 1) = some (.int (if y = 0 then 0 else 1))))) := by
  obtain ⟨d, rfl⟩ : ∃ d, d2 = d + 2 := ⟨d2 - 2, by omega⟩
  rw [show eg_mL 217 = 3 from by decide +kernel]
  show et_go none (d + 2) 217 0 [some (.ref am), some (.int x), some (.int y)] [] G 0 0 (xw_Z _ _ _ _)
  have lt_am := (hH.2.2 _ _ k_am).1
  have lt_aw := (hH.2.2 _ _ k_aw).1
  have hX : xf (fun b j => (b = am ∧ j = 0) ∨ ((b = aw ∧ j = 3) ∨ (b = aw ∧ (5 + 2 * c ≤ j ∧ j ≤ 5 + 2 * c + 1)))) G G := xf.rf
  refine hs_aload (i := 0) (p := 1) (by decide +kernel) rfl ?_
  refine hs_k (x := Int32.ofNat 0) (p := 2) (by decide +kernel) ?_
  refine hf_put (T := et_TT) (t := 13) (ci := 11) (f := 0) (p := 5) (ty := .int) (by decide +kernel) rfl rfl rfl rfl rfl hH k_am hi_any (fun G2 hH x2 e2 => ?_)
  have m1 := (x2.2 am 1 lt_am (fun h => absurd h.2 (by decide))).trans m1
  have w3 := (x2.2 aw 3 lt_aw (fun h => (hi_ne k_aw k_am (by decide)) h.1)).trans w3
  have lt_am := Nat.lt_of_lt_of_le lt_am x2.1
  have lt_aw := Nat.lt_of_lt_of_le lt_aw x2.1
  have hX := hX.tr x2 (fun b j hb h => by first | omega | (dsimp only at h ⊢; omega) | (dsimp only at h; omega) | (dsimp only; omega))
  refine hs_aload (i := 0) (p := 6) (by decide +kernel) rfl ?_
  refine hs_iload (i := 1) (p := 7) (by decide +kernel) rfl ?_
  refine hs_calls (mi := 212) (na := 1) (lk := 3) (lm := 1) (L0 := eg_en (eg_mL 212) [.int x]) (by decide +kernel) rfl rfl rfl rfl rfl rfl (by rw [show eg_mL 212 = 1 from by decide +kernel]; first | done | rfl) ?_
  refine (fm_noLit (x := x)).mono (fun u hu => xp_cb hu ?_)
  by_cases xl : 0 ≤ x.toInt ∧ x.toInt < 65536
  · rw [if_pos xl]
    show et_go none _ 217 10 _ [.int (Int32.ofNat 0), .ref am] _ _ _ _
    refine hs_k (x := Int32.ofNat 1) (p := 11) (by decide +kernel) ?_
    refine ht_callv (T := et_TT) (t := 13) (mi := 204) (na := 2) (ci := 11) (lk := 3) (lm := 3) (L0 := eg_en (eg_mL 204) [.ref am, .int (Int32.ofNat 0), .int (Int32.ofNat 1)]) (by decide +kernel) rfl hH k_am rfl rfl rfl rfl rfl (by rw [show eg_mL 204 = 3 from by decide +kernel]; first | done | rfl) ?_
    refine (fm_t0 hH k_am).mono (fun u hu => xp_cb hu ?_)
    show et_go none _ 217 14 _ [.int (Int32.ofNat 0)] _ _ _ _
    refine hs_if0 (c := .ne) (t := 39) (f := 17) (by decide +kernel) (show ¬ (¬ Int32.ofNat 0 = 0) by decide) ?_
    refine hs_aload (i := 0) (p := 18) (by decide +kernel) rfl ?_
    refine hs_aload (i := 0) (p := 19) (by decide +kernel) rfl ?_
    refine ht_callv (T := et_TT) (t := 13) (mi := 218) (na := 0) (ci := 11) (lk := 3) (lm := 1) (L0 := eg_en (eg_mL 218) [.ref am]) (by decide +kernel) rfl hH k_am rfl rfl rfl rfl rfl (by rw [show eg_mL 218 = 1 from by decide +kernel]; first | done | rfl) ?_
    refine (fm_cards hH k_am k_aw m1 w3).mono (fun u hu => xp_cb hu ?_)
    show et_go none _ 217 22 _ [.int (Int32.ofNat c), .ref am] _ _ _ _
    refine hs_k (x := Int32.ofNat 20) (p := 24) (by decide +kernel) ?_
    refine hs_br2n (c := .ne) (t := 31) (f := 27) (by decide +kernel) (by omega) (by omega) (fun (c24 : ¬ c = 20) => ?_) (fun (c24 : ¬ (¬ c = 20)) => ?_)
    · refine hs_k (x := Int32.ofNat 0) (p := 32) (by decide +kernel) ?_
      refine hs_k (x := Int32.ofNat 2) (p := 33) (by decide +kernel) ?_
      refine ht_callv (T := et_TT) (t := 13) (mi := 204) (na := 2) (ci := 11) (lk := 3) (lm := 3) (L0 := eg_en (eg_mL 204) [.ref am, .int (Int32.ofNat 0), .int (Int32.ofNat 2)]) (by decide +kernel) rfl hH k_am rfl rfl rfl rfl rfl (by rw [show eg_mL 204 = 3 from by decide +kernel]; first | done | rfl) ?_
      refine (fm_t0 hH k_am).mono (fun u hu => xp_cb hu ?_)
      show et_go none _ 217 36 _ [.int (Int32.ofNat 0)] _ _ _ _
      refine hs_if1 (c := .eq) (t := 43) (f := 39) (by decide +kernel) (show Int32.ofNat 0 = 0 by decide) ?_
      refine hs_aload (i := 0) (p := 44) (by decide +kernel) rfl ?_
      refine hs_iload (i := 1) (p := 45) (by decide +kernel) rfl ?_
      refine hs_iload (i := 2) (p := 46) (by decide +kernel) rfl ?_
      refine ht_callv (T := et_TT) (t := 13) (mi := 219) (na := 2) (ci := 11) (lk := 3) (lm := 4) (L0 := eg_en (eg_mL 219) [.ref am, .int x, .int y]) (by decide +kernel) rfl hH k_am rfl rfl rfl rfl rfl (by rw [show eg_mL 219 = 4 from by decide +kernel]; first | done | rfl) ?_
      refine (fm_puts (x := x) (y := y) hH k_am k_aw m1 w3 (by omega)).mono (fun u hu => xw_cb hu (fun G46 v46 hH x46 hP46 => ?_))
      have m1 := (x46.2 am 1 lt_am (fun h => Or.elim h (fun h => (hi_ne k_am k_aw (by decide)) h.1) (fun h => (hi_ne k_am k_aw (by decide)) h.1))).trans m1
      have e2 := (x46.2 am 0 lt_am (fun h => Or.elim h (fun h => (hi_ne k_am k_aw (by decide)) h.1) (fun h => (hi_ne k_am k_aw (by decide)) h.1))).trans e2
      have lt_am := Nat.lt_of_lt_of_le lt_am x46.1
      have lt_aw := Nat.lt_of_lt_of_le lt_aw x46.1
      have hX := hX.tr x46 (fun b j hb h => by first | omega | (dsimp only at h ⊢; omega) | (dsimp only at h; omega) | (dsimp only; omega))
      obtain ⟨rfl, p3, p5, p6⟩ := hP46
      show et_go none _ 217 49 _ [.int (Int32.ofNat c)] _ _ _ _
      refine hs_iret (by decide +kernel) ?_
      exact ⟨_, _, rfl, hH, hX, .inr (.inr ⟨xl, by omega, rfl, e2, p3, p5, p6⟩)⟩
    · refine hs_k (x := Int32.ofNat 1) (p := 28) (by decide +kernel) ?_
      refine hs_goto (p := 32) (by decide +kernel) ?_
      refine hs_k (x := Int32.ofNat 2) (p := 33) (by decide +kernel) ?_
      refine ht_callv (T := et_TT) (t := 13) (mi := 204) (na := 2) (ci := 11) (lk := 3) (lm := 3) (L0 := eg_en (eg_mL 204) [.ref am, .int (Int32.ofNat 1), .int (Int32.ofNat 2)]) (by decide +kernel) rfl hH k_am rfl rfl rfl rfl rfl (by rw [show eg_mL 204 = 3 from by decide +kernel]; first | done | rfl) ?_
      refine (fm_t1 hH k_am).mono (fun u hu => xw_cb hu (fun G33 v33 hH x33 hP33 => ?_))
      have m1 := (x33.2 am 1 lt_am (fun h => absurd h.2 (by decide))).trans m1
      have w3 := (x33.2 aw 3 lt_aw (fun h => (hi_ne k_aw k_am (by decide)) h.1)).trans w3
      have lt_am := Nat.lt_of_lt_of_le lt_am x33.1
      have lt_aw := Nat.lt_of_lt_of_le lt_aw x33.1
      have hX := hX.tr x33 (fun b j hb h => by first | omega | (dsimp only at h ⊢; omega) | (dsimp only at h; omega) | (dsimp only; omega))
      obtain ⟨rfl, th33⟩ := hP33
      show et_go none _ 217 36 _ [.int (Int32.ofNat 1)] _ _ _ _
      refine hs_if0 (c := .eq) (t := 43) (f := 39) (by decide +kernel) (show ¬ (Int32.ofNat 1 = 0) by decide) ?_
      refine hs_k (x := Int32.ofNat 0) (p := 40) (by decide +kernel) ?_
      refine hs_goto (p := 49) (by decide +kernel) ?_
      refine hs_iret (by decide +kernel) ?_
      exact ⟨_, _, rfl, hH, hX, .inr (.inl ⟨xl, by omega, rfl, th33, w3⟩)⟩
  · rw [if_neg xl]
    show et_go none _ 217 10 _ [.int (Int32.ofNat 1), .ref am] _ _ _ _
    refine hs_k (x := Int32.ofNat 1) (p := 11) (by decide +kernel) ?_
    refine ht_callv (T := et_TT) (t := 13) (mi := 204) (na := 2) (ci := 11) (lk := 3) (lm := 3) (L0 := eg_en (eg_mL 204) [.ref am, .int (Int32.ofNat 1), .int (Int32.ofNat 1)]) (by decide +kernel) rfl hH k_am rfl rfl rfl rfl rfl (by rw [show eg_mL 204 = 3 from by decide +kernel]; first | done | rfl) ?_
    refine (fm_t1 hH k_am).mono (fun u hu => xw_cb hu (fun G11 v11 hH x11 hP11 => ?_))
    have m1 := (x11.2 am 1 lt_am (fun h => absurd h.2 (by decide))).trans m1
    have w3 := (x11.2 aw 3 lt_aw (fun h => (hi_ne k_aw k_am (by decide)) h.1)).trans w3
    have lt_am := Nat.lt_of_lt_of_le lt_am x11.1
    have lt_aw := Nat.lt_of_lt_of_le lt_aw x11.1
    have hX := hX.tr x11 (fun b j hb h => by first | omega | (dsimp only at h ⊢; omega) | (dsimp only at h; omega) | (dsimp only; omega))
    obtain ⟨rfl, th11⟩ := hP11
    show et_go none _ 217 14 _ [.int (Int32.ofNat 1)] _ _ _ _
    refine hs_if1 (c := .ne) (t := 39) (f := 17) (by decide +kernel) (show ¬ Int32.ofNat 1 = 0 by decide) ?_
    refine hs_k (x := Int32.ofNat 0) (p := 40) (by decide +kernel) ?_
    refine hs_goto (p := 49) (by decide +kernel) ?_
    refine hs_iret (by decide +kernel) ?_
    exact ⟨_, _, rfl, hH, hX, .inl ⟨xl, rfl, th11, w3⟩⟩
end FIA
end
section
/-! FUNCTIONAL: the class's cards -/
section FJB
variable {K : et_K} {G G0 : eg_G} {d2 d th s0 la ya c : Nat} {x y : Int32}
theorem fc_away (hH : et_H et_TT K G) (k_th : K th = some 12) (h0 : et_pl (eg_at G th) 0 = some (.ref s0)) (k_s0 : K s0 = some 10) (h2 : et_pl (eg_at G s0) 2 = some (.int (Int32.ofNat c))) (hc : c ≤ 20) : et_go none (d + 1) 119 0 (eg_en (eg_mL 119) [.ref th]) [] G 0 0 (xw_Z (fun b j => (b = th ∧ (6 ≤ j ∧ j ≤ 7)) ∨ (b = s0 ∧ j = 2)) K G (fun G' r => (c = 0 ∧ r = some (.int (-1)) ∧ et_pl (eg_at G' s0) 2 = some (.int (Int32.ofNat c))) ∨ (¬ c = 0 ∧ r = some (.int (Int32.ofNat (c - 1))) ∧ et_pl (eg_at G' s0) 2 = some (.int (Int32.ofNat (c - 1)))))) := by
  rw [show eg_mL 119 = 1 from by decide +kernel]
  show et_go none (d + 1) 119 0 [some (.ref th)] [] G 0 0 (xw_Z _ _ _ _)
  have lt_th := (hH.2.2 _ _ k_th).1
  have lt_s0 := (hH.2.2 _ _ k_s0).1
  have hX : xf (fun b j => (b = th ∧ (6 ≤ j ∧ j ≤ 7)) ∨ (b = s0 ∧ j = 2)) G G := xf.rf
  refine hs_aload (i := 0) (p := 1) (by decide +kernel) rfl ?_
  refine hf_get (T := et_TT) (t := 12) (ci := 10) (f := 0) (p := 4) (by decide +kernel) rfl hH k_th h0 ?_
  refine hf_get (T := et_TT) (t := 10) (ci := 8) (f := 2) (p := 7) (by decide +kernel) rfl hH k_s0 h2 ?_
  refine hs_br1 (c := .ne) (t := 12) (f := 10) (by decide +kernel) (fun (c7 : ¬ Int32.ofNat c = 0) => ?_) (fun (c7 : ¬ (¬ Int32.ofNat c = 0)) => ?_)
  · have c7 : ¬ c = 0 := fun h => c7 (by rw [h]; rfl)
    refine hs_aload (i := 0) (p := 13) (by decide +kernel) rfl ?_
    refine ht_callv (T := et_TT) (t := 12) (mi := 120) (na := 0) (ci := 10) (lk := 1) (lm := 1) (L0 := eg_en (eg_mL 120) [.ref th]) (by decide +kernel) rfl hH k_th rfl rfl rfl rfl rfl (by rw [show eg_mL 120 = 1 from by decide +kernel]; first | done | rfl) ?_
    refine (fc_forget hH k_th).mono (fun u hu => xw_cb hu (fun G13 v13 hH x13 hP13 => ?_))
    have h0 := (x13.2 th 0 lt_th (fun h => absurd h.2 (by decide))).trans h0
    have h2 := (x13.2 s0 2 lt_s0 (fun h => (hi_ne k_s0 k_th (by decide)) h.1)).trans h2
    have lt_th := Nat.lt_of_lt_of_le lt_th x13.1
    have lt_s0 := Nat.lt_of_lt_of_le lt_s0 x13.1
    have hX := hX.tr x13 (fun b j hb h => by first | omega | (dsimp only at h ⊢; omega) | (dsimp only at h; omega) | (dsimp only; omega))
    obtain rfl := hP13
    show et_go none _ 119 16 _ [] _ _ _ _
    refine hs_aload (i := 0) (p := 17) (by decide +kernel) rfl ?_
    refine hf_get (T := et_TT) (t := 12) (ci := 10) (f := 0) (p := 20) (by decide +kernel) rfl hH k_th h0 ?_
    refine hs_dup1 (p := 21) (by decide +kernel) ?_
    refine hf_get (T := et_TT) (t := 10) (ci := 8) (f := 2) (p := 24) (by decide +kernel) rfl hH k_s0 h2 ?_
    refine hs_k (x := Int32.ofNat 1) (p := 25) (by decide +kernel) ?_
    refine hs_isubn (p := 26) (by decide +kernel) (by omega) ?_
    refine hf_put (T := et_TT) (t := 10) (ci := 8) (f := 2) (p := 29) (ty := .int) (by decide +kernel) rfl rfl rfl rfl rfl hH k_s0 (hi_nv (by omega) (by omega)) (fun G26 hH x26 e26 => ?_)
    have h0 := (x26.2 th 0 lt_th (fun h => (hi_ne k_th k_s0 (by decide)) h.1)).trans h0
    have lt_th := Nat.lt_of_lt_of_le lt_th x26.1
    have lt_s0 := Nat.lt_of_lt_of_le lt_s0 x26.1
    have hX := hX.tr x26 (fun b j hb h => by first | omega | (dsimp only at h ⊢; omega) | (dsimp only at h; omega) | (dsimp only; omega))
    refine hs_aload (i := 0) (p := 30) (by decide +kernel) rfl ?_
    refine hf_get (T := et_TT) (t := 12) (ci := 10) (f := 0) (p := 33) (by decide +kernel) rfl hH k_th h0 ?_
    refine hf_get (T := et_TT) (t := 10) (ci := 8) (f := 2) (p := 36) (by decide +kernel) rfl hH k_s0 e26 ?_
    refine hs_iret (by decide +kernel) ?_
    exact ⟨_, _, rfl, hH, hX, .inr ⟨c7, rfl, e26⟩⟩
  · have c7 : c = 0 := by have h := Decidable.of_not_not c7; have h2 := congrArg Int32.toInt h; rw [hs_nint (by omega)] at h2; have h3 : (0 : Int32).toInt = 0 := rfl; omega
    refine hs_k (x := (-1)) (p := 11) (by decide +kernel) ?_
    refine hs_iret (by decide +kernel) ?_
    exact ⟨_, _, rfl, hH, hX, .inl ⟨c7, rfl, h2⟩⟩
theorem fc_needLit (hH : et_H et_TT K G) : et_go none d2 135 0 (eg_en (eg_mL 135) [.int x]) [] G 0 0 (xe_Z (fun _ _ => False) K G (fun G' r => (¬ (0 ≤ x.toInt ∧ x.toInt < 65536) ∧ r = .inr 0 ∧ G' = G) ∨ ((0 ≤ x.toInt ∧ x.toInt < 65536) ∧ r = .inl none ∧ G' = G))) := by
  have hz : (0 : Int32).toInt = 0 := rfl
  have h6 : (65536 : Int32).toInt = 65536 := rfl
  have hX : xf (fun _ _ => False) G G := xf.rf
  rw [show eg_mL 135 = 1 from by decide +kernel]
  show et_go none d2 135 0 [some (.int x)] [] G 0 0 (xe_Z _ _ _ _)
  refine hs_iload (i := 0) (p := 1) (by decide +kernel) rfl ?_
  refine hs_br1 (c := .lt) (t := 11) (f := 4) (by decide +kernel) (fun (c1 : x < 0) => ?_) (fun (c1 : ¬ (x < 0)) => ?_)
  · refine hs_thr (x := 0) (lk := 1) (by decide +kernel) rfl rfl ?_
    simp only [Int32.lt_iff_toInt_lt, Int32.le_iff_toInt_le, hz, h6] at c1
    exact ⟨_, _, _, _, rfl, hH, hX, .inl ⟨by omega, rfl, rfl⟩⟩
  · refine hs_iload (i := 0) (p := 5) (by decide +kernel) rfl ?_
    refine hs_kld (v := .int 65536) (p := 8) (by decide +kernel) ?_
    refine hs_br2 (c := .lt) (t := 19) (f := 11) (by decide +kernel) (fun (c8 : x < 65536) => ?_) (fun (c8 : ¬ (x < 65536)) => ?_)
    · refine hs_vret (by decide +kernel) ?_
      simp only [Int32.lt_iff_toInt_lt, Int32.le_iff_toInt_le, hz, h6] at c1 c8
      exact ⟨_, _, _, _, rfl, hH, hX, .inr ⟨by omega, rfl, rfl⟩⟩
    · refine hs_thr (x := 0) (lk := 1) (by decide +kernel) rfl rfl ?_
      simp only [Int32.lt_iff_toInt_lt, Int32.le_iff_toInt_le, hz, h6] at c1 c8
      exact ⟨_, _, _, _, rfl, hH, hX, .inl ⟨by omega, rfl, rfl⟩⟩
theorem fc_put (hH : et_H et_TT K G) (k_th : K th = some 12) (h0 : et_pl (eg_at G th) 0 = some (.ref s0)) (k_s0 : K s0 = some 10) (h2 : et_pl (eg_at G s0) 2 = some (.int (Int32.ofNat c))) (hc : c ≤ 20) (h3 : et_pl (eg_at G s0) 3 = some (.ref la)) (k_la : K la = some 17) (h4 : et_pl (eg_at G s0) 4 = some (.ref ya)) (k_ya : K ya = some 27) (hy : y = Int32.ofNat 0 ∨ y = Int32.ofNat 1) (hd : 1 ≤ d2) : et_go none d2 137 0 (eg_en (eg_mL 137) [.ref th, .int x, .int y]) [] G 0 0 (xe_Z (fun b j => (b = th ∧ (6 ≤ j ∧ j ≤ 7)) ∨ ((b = s0 ∧ j = 2) ∨ ((b = la ∧ j = c) ∨ (b = ya ∧ j = c)))) K G (fun G' r => (c = 20 ∧ r = .inr 2 ∧ et_pl (eg_at G' s0) 2 = some (.int (Int32.ofNat c))) ∨ (c < 20 ∧ r = .inl (some (.int (Int32.ofNat c))) ∧ et_pl (eg_at G' s0) 2 = some (.int (Int32.ofNat (c + 1))) ∧ et_pl (eg_at G' la) c = some (.int x) ∧ et_pl (eg_at G' ya) c = some (.int y)))) := by
  obtain ⟨d, rfl⟩ : ∃ d, d2 = d + 1 := ⟨d2 - 1, by omega⟩
  rw [show eg_mL 137 = 3 from by decide +kernel]
  show et_go none (d + 1) 137 0 [some (.ref th), some (.int x), some (.int y)] [] G 0 0 (xe_Z _ _ _ _)
  have lt_th := (hH.2.2 _ _ k_th).1
  have lt_s0 := (hH.2.2 _ _ k_s0).1
  have lt_la := (hH.2.2 _ _ k_la).1
  have lt_ya := (hH.2.2 _ _ k_ya).1
  have hX : xf (fun b j => (b = th ∧ (6 ≤ j ∧ j ≤ 7)) ∨ ((b = s0 ∧ j = 2) ∨ ((b = la ∧ j = c) ∨ (b = ya ∧ j = c)))) G G := xf.rf
  refine hs_aload (i := 0) (p := 1) (by decide +kernel) rfl ?_
  refine hf_get (T := et_TT) (t := 12) (ci := 10) (f := 0) (p := 4) (by decide +kernel) rfl hH k_th h0 ?_
  refine hf_get (T := et_TT) (t := 10) (ci := 8) (f := 2) (p := 7) (by decide +kernel) rfl hH k_s0 h2 ?_
  refine hs_k (x := Int32.ofNat 20) (p := 9) (by decide +kernel) ?_
  refine hs_br2n (c := .lt) (t := 20) (f := 12) (by decide +kernel) (by omega) (by omega) (fun (c9 : c < 20) => ?_) (fun (c9 : ¬ (c < 20)) => ?_)
  · refine hs_aload (i := 0) (p := 21) (by decide +kernel) rfl ?_
    refine ht_callv (T := et_TT) (t := 12) (mi := 120) (na := 0) (ci := 10) (lk := 3) (lm := 1) (L0 := eg_en (eg_mL 120) [.ref th]) (by decide +kernel) rfl hH k_th rfl rfl rfl rfl rfl (by rw [show eg_mL 120 = 1 from by decide +kernel]; first | done | rfl) ?_
    refine (fc_forget hH k_th).mono (fun u hu => xw_cb hu (fun G21 v21 hH x21 hP21 => ?_))
    have h0 := (x21.2 th 0 lt_th (fun h => absurd h.2 (by decide))).trans h0
    have h2 := (x21.2 s0 2 lt_s0 (fun h => (hi_ne k_s0 k_th (by decide)) h.1)).trans h2
    have h3 := (x21.2 s0 3 lt_s0 (fun h => (hi_ne k_s0 k_th (by decide)) h.1)).trans h3
    have h4 := (x21.2 s0 4 lt_s0 (fun h => (hi_ne k_s0 k_th (by decide)) h.1)).trans h4
    have lt_th := Nat.lt_of_lt_of_le lt_th x21.1
    have lt_s0 := Nat.lt_of_lt_of_le lt_s0 x21.1
    have lt_la := Nat.lt_of_lt_of_le lt_la x21.1
    have lt_ya := Nat.lt_of_lt_of_le lt_ya x21.1
    have hX := hX.tr x21 (fun b j hb h => by first | omega | (dsimp only at h ⊢; omega) | (dsimp only at h; omega) | (dsimp only; omega))
    obtain rfl := hP21
    show et_go none _ 137 24 _ [] _ _ _ _
    refine hs_aload (i := 0) (p := 25) (by decide +kernel) rfl ?_
    refine hf_get (T := et_TT) (t := 12) (ci := 10) (f := 0) (p := 28) (by decide +kernel) rfl hH k_th h0 ?_
    refine hf_get (T := et_TT) (t := 10) (ci := 8) (f := 3) (p := 31) (by decide +kernel) rfl hH k_s0 h3 ?_
    refine hs_aload (i := 0) (p := 32) (by decide +kernel) rfl ?_
    refine hf_get (T := et_TT) (t := 12) (ci := 10) (f := 0) (p := 35) (by decide +kernel) rfl hH k_th h0 ?_
    refine hf_get (T := et_TT) (t := 10) (ci := 8) (f := 2) (p := 38) (by decide +kernel) rfl hH k_s0 h2 ?_
    refine hs_iload (i := 1) (p := 39) (by decide +kernel) rfl ?_
    refine hf_ist (T := et_TT) (t := 17) (N := 20) (p := 40) (by decide +kernel) rfl rfl (by decide) hH k_la (by omega) (by decide) (fun s hs => absurd hs List.not_mem_nil) (fun G39 hH x39 e39 => ?_)
    have h0 := (x39.2 th 0 lt_th (fun h => (hi_ne k_th k_la (by decide)) h.1)).trans h0
    have h2 := (x39.2 s0 2 lt_s0 (fun h => (hi_ne k_s0 k_la (by decide)) h.1)).trans h2
    have h3 := (x39.2 s0 3 lt_s0 (fun h => (hi_ne k_s0 k_la (by decide)) h.1)).trans h3
    have h4 := (x39.2 s0 4 lt_s0 (fun h => (hi_ne k_s0 k_la (by decide)) h.1)).trans h4
    have lt_th := Nat.lt_of_lt_of_le lt_th x39.1
    have lt_s0 := Nat.lt_of_lt_of_le lt_s0 x39.1
    have lt_la := Nat.lt_of_lt_of_le lt_la x39.1
    have lt_ya := Nat.lt_of_lt_of_le lt_ya x39.1
    have hX := hX.tr x39 (fun b j hb h => by first | omega | (dsimp only at h ⊢; omega) | (dsimp only at h; omega) | (dsimp only; omega))
    refine hs_aload (i := 0) (p := 41) (by decide +kernel) rfl ?_
    refine hf_get (T := et_TT) (t := 12) (ci := 10) (f := 0) (p := 44) (by decide +kernel) rfl hH k_th h0 ?_
    refine hf_get (T := et_TT) (t := 10) (ci := 8) (f := 4) (p := 47) (by decide +kernel) rfl hH k_s0 h4 ?_
    refine hs_aload (i := 0) (p := 48) (by decide +kernel) rfl ?_
    refine hf_get (T := et_TT) (t := 12) (ci := 10) (f := 0) (p := 51) (by decide +kernel) rfl hH k_th h0 ?_
    refine hf_get (T := et_TT) (t := 10) (ci := 8) (f := 2) (p := 54) (by decide +kernel) rfl hH k_s0 h2 ?_
    refine hs_iload (i := 2) (p := 55) (by decide +kernel) rfl ?_
    refine hf_zst (T := et_TT) (t := 27) (N := 20) (p := 56) (by decide +kernel) rfl rfl (show vp_nar .boolean y = y from by rcases hy with rfl | rfl <;> decide +kernel) hH k_ya (by omega) (by decide) (fun s hs _ _ => by rw [List.mem_singleton] at hs; subst hs; rcases hy with rfl | rfl <;> exact hi_nv (by decide) (by decide)) (fun G55 hH x55 e55 => ?_)
    have h0 := (x55.2 th 0 lt_th (fun h => (hi_ne k_th k_ya (by decide)) h.1)).trans h0
    have h2 := (x55.2 s0 2 lt_s0 (fun h => (hi_ne k_s0 k_ya (by decide)) h.1)).trans h2
    have h3 := (x55.2 s0 3 lt_s0 (fun h => (hi_ne k_s0 k_ya (by decide)) h.1)).trans h3
    have h4 := (x55.2 s0 4 lt_s0 (fun h => (hi_ne k_s0 k_ya (by decide)) h.1)).trans h4
    have e39 := (x55.2 la c lt_la (fun h => (hi_ne k_la k_ya (by decide)) h.1)).trans e39
    have lt_th := Nat.lt_of_lt_of_le lt_th x55.1
    have lt_s0 := Nat.lt_of_lt_of_le lt_s0 x55.1
    have lt_la := Nat.lt_of_lt_of_le lt_la x55.1
    have lt_ya := Nat.lt_of_lt_of_le lt_ya x55.1
    have hX := hX.tr x55 (fun b j hb h => by first | omega | (dsimp only at h ⊢; omega) | (dsimp only at h; omega) | (dsimp only; omega))
    refine hs_aload (i := 0) (p := 57) (by decide +kernel) rfl ?_
    refine hf_get (T := et_TT) (t := 12) (ci := 10) (f := 0) (p := 60) (by decide +kernel) rfl hH k_th h0 ?_
    refine hs_dup1 (p := 61) (by decide +kernel) ?_
    refine hf_get (T := et_TT) (t := 10) (ci := 8) (f := 2) (p := 64) (by decide +kernel) rfl hH k_s0 h2 ?_
    refine hs_k (x := Int32.ofNat 1) (p := 65) (by decide +kernel) ?_
    refine hs_iaddn (p := 66) (by decide +kernel) ?_
    refine hf_put (T := et_TT) (t := 10) (ci := 8) (f := 2) (p := 69) (ty := .int) (by decide +kernel) rfl rfl rfl rfl rfl hH k_s0 (hi_nv (by omega) (by omega)) (fun G66 hH x66 e66 => ?_)
    have h0 := (x66.2 th 0 lt_th (fun h => (hi_ne k_th k_s0 (by decide)) h.1)).trans h0
    have h3 := (x66.2 s0 3 lt_s0 (fun h => absurd h.2 (by decide))).trans h3
    have h4 := (x66.2 s0 4 lt_s0 (fun h => absurd h.2 (by decide))).trans h4
    have e39 := (x66.2 la c lt_la (fun h => (hi_ne k_la k_s0 (by decide)) h.1)).trans e39
    have e55 := (x66.2 ya c lt_ya (fun h => (hi_ne k_ya k_s0 (by decide)) h.1)).trans e55
    have lt_th := Nat.lt_of_lt_of_le lt_th x66.1
    have lt_s0 := Nat.lt_of_lt_of_le lt_s0 x66.1
    have lt_la := Nat.lt_of_lt_of_le lt_la x66.1
    have lt_ya := Nat.lt_of_lt_of_le lt_ya x66.1
    have hX := hX.tr x66 (fun b j hb h => by first | omega | (dsimp only at h ⊢; omega) | (dsimp only at h; omega) | (dsimp only; omega))
    refine hs_aload (i := 0) (p := 70) (by decide +kernel) rfl ?_
    refine hf_get (T := et_TT) (t := 12) (ci := 10) (f := 0) (p := 73) (by decide +kernel) rfl hH k_th h0 ?_
    refine hf_get (T := et_TT) (t := 10) (ci := 8) (f := 2) (p := 76) (by decide +kernel) rfl hH k_s0 e66 ?_
    refine hs_k (x := Int32.ofNat 1) (p := 77) (by decide +kernel) ?_
    refine hs_isubn (p := 78) (by decide +kernel) (by omega) ?_
    refine hs_iret (by decide +kernel) ?_
    rw [Nat.add_sub_cancel]
    exact ⟨_, _, _, _, rfl, hH, hX, .inr ⟨by omega, rfl, e66, e39, e55⟩⟩
  · refine hs_thr (x := 2) (lk := 3) (by decide +kernel) rfl rfl ?_
    exact ⟨_, _, _, _, rfl, hH, hX, .inl ⟨by omega, rfl, h2⟩⟩
theorem fc_card (hH : et_H et_TT K G) (k_th : K th = some 12) (h0 : et_pl (eg_at G th) 0 = some (.ref s0)) (k_s0 : K s0 = some 10) (h2 : et_pl (eg_at G s0) 2 = some (.int (Int32.ofNat c))) (hc : c ≤ 20) (h3 : et_pl (eg_at G s0) 3 = some (.ref la)) (k_la : K la = some 17) (h4 : et_pl (eg_at G s0) 4 = some (.ref ya)) (k_ya : K ya = some 27) (hy : y = Int32.ofNat 0 ∨ y = Int32.ofNat 1) (hd : 2 ≤ d2) : et_go none d2 136 0 (eg_en (eg_mL 136) [.ref th, .int x, .int y]) [] G 0 0 (xe_Z (fun b j => (b = th ∧ (6 ≤ j ∧ j ≤ 7)) ∨ ((b = s0 ∧ j = 2) ∨ ((b = la ∧ j = c) ∨ (b = ya ∧ j = c)))) K G (fun G' r => (¬ (0 ≤ x.toInt ∧ x.toInt < 65536) ∧ r = .inr 0 ∧ et_pl (eg_at G' s0) 2 = some (.int (Int32.ofNat c))) ∨ ((0 ≤ x.toInt ∧ x.toInt < 65536) ∧ c = 20 ∧ r = .inr 2 ∧ et_pl (eg_at G' s0) 2 = some (.int (Int32.ofNat c))) ∨ ((0 ≤ x.toInt ∧ x.toInt < 65536) ∧ c < 20 ∧ r = .inl (some (.int (Int32.ofNat c))) ∧ et_pl (eg_at G' s0) 2 = some (.int (Int32.ofNat (c + 1))) ∧ et_pl (eg_at G' la) c = some (.int x) ∧ et_pl (eg_at G' ya) c = some (.int y)))) := by
  obtain ⟨d, rfl⟩ : ∃ d, d2 = d + 2 := ⟨d2 - 2, by omega⟩
  have hX0 : xf (fun b j => (b = th ∧ (6 ≤ j ∧ j ≤ 7)) ∨ ((b = s0 ∧ j = 2) ∨ ((b = la ∧ j = c) ∨ (b = ya ∧ j = c)))) G G := xf.rf
  rw [show eg_mL 136 = 3 from by decide +kernel]
  show et_go none (d + 2) 136 0 [some (.ref th), some (.int x), some (.int y)] [] G 0 0 (xe_Z _ _ _ _)
  have lt_th := (hH.2.2 _ _ k_th).1
  have lt_s0 := (hH.2.2 _ _ k_s0).1
  have lt_la := (hH.2.2 _ _ k_la).1
  have lt_ya := (hH.2.2 _ _ k_ya).1
  refine hs_iload (i := 1) (p := 1) (by decide +kernel) rfl ?_
  refine hs_calls (mi := 135) (na := 1) (lk := 3) (lm := 1) (L0 := eg_en (eg_mL 135) [.int x]) (by decide +kernel) rfl rfl rfl rfl rfl rfl (by rw [show eg_mL 135 = 1 from by decide +kernel]; first | done | rfl) ?_
  refine (fc_needLit (K := K) (x := x) hH).mono (fun u hu => ?_)
  obtain ⟨G1, v1, c1, s1, rfl, hH, x1, hP1⟩ := hu
  rcases hP1 with ⟨xl, rfl, rfl⟩ | ⟨xl, rfl, rfl⟩
  · refine hf_cx (by decide +kernel) ?_
    exact ⟨_, _, _, _, rfl, hH, hX0, .inl ⟨xl, rfl, h2⟩⟩
  · refine hs_cb ?_
    show et_go none _ 136 4 _ [] _ _ _ _
    refine hs_aload (i := 0) (p := 5) (by decide +kernel) rfl ?_
    refine hs_iload (i := 1) (p := 6) (by decide +kernel) rfl ?_
    refine hs_iload (i := 2) (p := 7) (by decide +kernel) rfl ?_
    refine ht_callv (T := et_TT) (t := 12) (mi := 137) (na := 2) (ci := 10) (lk := 3) (lm := 3) (L0 := eg_en (eg_mL 137) [.ref th, .int x, .int y]) (by decide +kernel) rfl hH k_th rfl rfl rfl rfl rfl (by rw [show eg_mL 137 = 3 from by decide +kernel]; first | done | rfl) ?_
    refine (fc_put hH k_th h0 k_s0 h2 hc h3 k_la h4 k_ya hy (by omega)).mono (fun u hu => ?_)
    obtain ⟨G7, v7, c7, s7, rfl, hH, x7, hP7⟩ := hu
    rcases hP7 with ⟨c20, rfl, p2⟩ | ⟨c20, rfl, p2, p3, p4⟩
    · refine hf_cx (by decide +kernel) ?_
      exact ⟨_, _, _, _, rfl, hH, x7, .inr (.inl ⟨xl, c20, rfl, p2⟩)⟩
    · refine hs_cb ?_
      show et_go none _ 136 10 _ [.int (Int32.ofNat c)] _ _ _ _
      refine hs_iret (by decide +kernel) ?_
      exact ⟨_, _, _, _, rfl, hH, x7, .inr (.inr ⟨xl, c20, rfl, p2, p3, p4⟩)⟩
theorem fh_card {out : Nat} (hH : et_H et_TT K G) (k_th : K th = some 12) (h0 : et_pl (eg_at G th) 0 = some (.ref s0)) (k_s0 : K s0 = some 10) (h2 : et_pl (eg_at G s0) 2 = some (.int (Int32.ofNat c))) (hc : c ≤ 20) (h3 : et_pl (eg_at G s0) 3 = some (.ref la)) (k_la : K la = some 17) (h4 : et_pl (eg_at G s0) 4 = some (.ref ya)) (k_ya : K ya = some 27) (hy : y = Int32.ofNat 0 ∨ y = Int32.ofNat 1) (k_out : K out = some 31) (hd : 3 ≤ d2) : et_go none d2 4 0 (eg_en (eg_mL 4) [.ref th, .int x, .int y, .ref out]) [] G 0 0 (xe_Z (fun b j => (b = th ∧ (6 ≤ j ∧ j ≤ 7)) ∨ ((b = s0 ∧ j = 2) ∨ ((b = la ∧ j = c) ∨ ((b = ya ∧ j = c) ∨ (b = out ∧ j = 0))))) K G (fun G' r => (¬ (0 ≤ x.toInt ∧ x.toInt < 65536) ∧ r = .inl (some (.int (Int32.ofNat 1))) ∧ et_pl (eg_at G' s0) 2 = some (.int (Int32.ofNat c))) ∨ ((0 ≤ x.toInt ∧ x.toInt < 65536) ∧ c = 20 ∧ r = .inl (some (.int (Int32.ofNat 2))) ∧ et_pl (eg_at G' s0) 2 = some (.int (Int32.ofNat c))) ∨ ((0 ≤ x.toInt ∧ x.toInt < 65536) ∧ c < 20 ∧ r = .inl (some (.int (Int32.ofNat 0))) ∧ et_pl (eg_at G' out) 0 = some (.long (Int32.ofNat c).toInt64) ∧ et_pl (eg_at G' s0) 2 = some (.int (Int32.ofNat (c + 1))) ∧ et_pl (eg_at G' la) c = some (.int x) ∧ et_pl (eg_at G' ya) c = some (.int y)))) := by
  obtain ⟨d, rfl⟩ : ∃ d, d2 = d + 3 := ⟨d2 - 3, by omega⟩
  rw [show eg_mL 4 = 5 from by decide +kernel]
  show et_go none (d + 3) 4 0 [some (.ref th), some (.int x), some (.int y), some (.ref out), none] [] G 0 0 (xe_Z _ _ _ _)
  have lt_th := (hH.2.2 _ _ k_th).1
  have lt_s0 := (hH.2.2 _ _ k_s0).1
  have lt_la := (hH.2.2 _ _ k_la).1
  have lt_ya := (hH.2.2 _ _ k_ya).1
  have lt_out := (hH.2.2 _ _ k_out).1
  have hX : xf (fun b j => (b = th ∧ (6 ≤ j ∧ j ≤ 7)) ∨ ((b = s0 ∧ j = 2) ∨ ((b = la ∧ j = c) ∨ ((b = ya ∧ j = c) ∨ (b = out ∧ j = 0))))) G G := xf.rf
  refine hs_aload (i := 3) (p := 1) (by decide +kernel) rfl ?_
  refine hs_k (x := Int32.ofNat 0) (p := 2) (by decide +kernel) ?_
  refine hs_aload (i := 0) (p := 3) (by decide +kernel) rfl ?_
  refine hs_iload (i := 1) (p := 4) (by decide +kernel) rfl ?_
  refine hs_iload (i := 2) (p := 5) (by decide +kernel) rfl ?_
  refine ht_callv (T := et_TT) (t := 12) (mi := 136) (na := 2) (ci := 10) (lk := 5) (lm := 3) (L0 := eg_en (eg_mL 136) [.ref th, .int x, .int y]) (by decide +kernel) rfl hH k_th rfl rfl rfl rfl rfl (by rw [show eg_mL 136 = 3 from by decide +kernel]; first | done | rfl) ?_
  refine (fc_card hH k_th h0 k_s0 h2 hc h3 k_la h4 k_ya hy (by omega)).mono (fun u hu => ?_)
  obtain ⟨G5, v5, c5, s5, rfl, hH, x5, hP5⟩ := hu
  have h0 := (x5.2 th 0 lt_th (fun h => Or.elim h (fun h => absurd h.2 (by decide)) (fun h => Or.elim h (fun h => (hi_ne k_th k_s0 (by decide)) h.1) (fun h => Or.elim h (fun h => (hi_ne k_th k_la (by decide)) h.1) (fun h => (hi_ne k_th k_ya (by decide)) h.1))))).trans h0
  have h3 := (x5.2 s0 3 lt_s0 (fun h => Or.elim h (fun h => (hi_ne k_s0 k_th (by decide)) h.1) (fun h => Or.elim h (fun h => absurd h.2 (by decide)) (fun h => Or.elim h (fun h => (hi_ne k_s0 k_la (by decide)) h.1) (fun h => (hi_ne k_s0 k_ya (by decide)) h.1))))).trans h3
  have h4 := (x5.2 s0 4 lt_s0 (fun h => Or.elim h (fun h => (hi_ne k_s0 k_th (by decide)) h.1) (fun h => Or.elim h (fun h => absurd h.2 (by decide)) (fun h => Or.elim h (fun h => (hi_ne k_s0 k_la (by decide)) h.1) (fun h => (hi_ne k_s0 k_ya (by decide)) h.1))))).trans h4
  have lt_th := Nat.lt_of_lt_of_le lt_th x5.1
  have lt_s0 := Nat.lt_of_lt_of_le lt_s0 x5.1
  have lt_la := Nat.lt_of_lt_of_le lt_la x5.1
  have lt_ya := Nat.lt_of_lt_of_le lt_ya x5.1
  have lt_out := Nat.lt_of_lt_of_le lt_out x5.1
  have hX := hX.tr x5 (fun b j hb h => by first | omega | (dsimp only at h ⊢; omega) | (dsimp only at h; omega) | (dsimp only; omega))
  rcases hP5 with ⟨xl, rfl, p2⟩ | ⟨xl, c20, rfl, p2⟩ | ⟨xl, c20, rfl, p2, p3, p4⟩
  · refine hs_ch (h := 13) (i := 4) (n := 2) (hh := (eg_mh 4).getD []) (by decide +kernel) ⟨by decide +kernel, by decide +kernel⟩ (Nat.le_of_ble_eq_true rfl) ?_
    show et_go none _ 4 15 [some (.ref th), some (.int x), some (.int y), some (.ref out), none] [] _ _ _ _
    refine hs_k (x := Int32.ofNat 1) (p := 16) (by decide +kernel) ?_
    refine hs_iret (by decide +kernel) ?_
    exact ⟨_, _, _, _, rfl, hH, hX, .inl ⟨xl, rfl, p2⟩⟩
  · refine hs_ch (h := 17) (i := 4) (n := 2) (hh := (eg_mh 4).getD []) (by decide +kernel) ⟨by decide +kernel, by decide +kernel⟩ (Nat.le_of_ble_eq_true rfl) ?_
    show et_go none _ 4 19 [some (.ref th), some (.int x), some (.int y), some (.ref out), none] [] _ _ _ _
    refine hs_k (x := Int32.ofNat 2) (p := 20) (by decide +kernel) ?_
    refine hs_iret (by decide +kernel) ?_
    exact ⟨_, _, _, _, rfl, hH, hX, .inr (.inl ⟨xl, c20, rfl, p2⟩)⟩
  · refine hs_cb ?_
    show et_go none _ 4 8 _ [.int (Int32.ofNat c), .int (Int32.ofNat 0), .ref out] _ _ _ _
    refine hs_i2l (p := 9) (by decide +kernel) ?_
    refine hf_lst (T := et_TT) (t := 31) (N := 1) (p := 10) (by decide +kernel) rfl rfl hH k_out (by omega) (by decide) (fun G9 hH x9 e9 => ?_)
    have h0 := (x9.2 th 0 lt_th (fun h => (hi_ne k_th k_out (by decide)) h.1)).trans h0
    have p2 := (x9.2 s0 2 lt_s0 (fun h => (hi_ne k_s0 k_out (by decide)) h.1)).trans p2
    have h3 := (x9.2 s0 3 lt_s0 (fun h => (hi_ne k_s0 k_out (by decide)) h.1)).trans h3
    have h4 := (x9.2 s0 4 lt_s0 (fun h => (hi_ne k_s0 k_out (by decide)) h.1)).trans h4
    have p3 := (x9.2 la c lt_la (fun h => (hi_ne k_la k_out (by decide)) h.1)).trans p3
    have p4 := (x9.2 ya c lt_ya (fun h => (hi_ne k_ya k_out (by decide)) h.1)).trans p4
    have lt_th := Nat.lt_of_lt_of_le lt_th x9.1
    have lt_s0 := Nat.lt_of_lt_of_le lt_s0 x9.1
    have lt_la := Nat.lt_of_lt_of_le lt_la x9.1
    have lt_ya := Nat.lt_of_lt_of_le lt_ya x9.1
    have lt_out := Nat.lt_of_lt_of_le lt_out x9.1
    have hX := hX.tr x9 (fun b j hb h => by first | omega | (dsimp only at h ⊢; omega) | (dsimp only at h; omega) | (dsimp only; omega))
    refine hs_goto (p := 21) (by decide +kernel) ?_
    refine hs_k (x := Int32.ofNat 0) (p := 22) (by decide +kernel) ?_
    refine hs_iret (by decide +kernel) ?_
    exact ⟨_, _, _, _, rfl, hH, hX, .inr (.inr ⟨xl, c20, rfl, e9, p2, p3, p4⟩)⟩
end FJB
end
