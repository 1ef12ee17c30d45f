/-! FUNCTIONAL: the class's add, cut, feed, end -/
/-- the bytes with four more behind c -/
def tb4 (tb : Nat → Nat) (c : Nat) (v : Int32) (i : Nat) : Nat := if i < c then tb i else by4 v (24 - 8 * (i - c))
theorem tb4_lt {tb : Nat → Nat} {c i : Nat} {v : Int32} (h : ∀ i, i < c → tb i < 256) : tb4 tb c v i < 256 := by
  unfold tb4
  split
  · exact h i (by assumption)
  · exact by4_lt
theorem tb4_at {G : eg_G} {ta c : Nat} {tb : Nat → Nat} {v : Int32} (h : ∀ i, i < c → et_pl (eg_at G ta) i = some (.int (Int32.ofNat (tb i)))) (h0 : et_pl (eg_at G ta) c = some (.int (Int32.ofNat (by4 v 24)))) (h1 : et_pl (eg_at G ta) (c + 1) = some (.int (Int32.ofNat (by4 v 16)))) (h2 : et_pl (eg_at G ta) (c + 2) = some (.int (Int32.ofNat (by4 v 8)))) (h3 : et_pl (eg_at G ta) (c + 3) = some (.int (Int32.ofNat (by4 v 0)))) : ∀ i, i < c + 4 → et_pl (eg_at G ta) i = some (.int (Int32.ofNat (tb4 tb c v i))) := fun i hi => by
  unfold tb4
  by_cases hc : i < c
  · rw [if_pos hc]
    exact h i hc
  · rw [if_neg hc]
    rcases (by omega : i = c ∨ i = c + 1 ∨ i = c + 2 ∨ i = c + 3) with rfl | rfl | rfl | rfl
    · rw [Nat.sub_self]
      exact h0
    · rw [show 24 - 8 * (c + 1 - c) = 16 by omega]
      exact h1
    · rw [show 24 - 8 * (c + 2 - c) = 8 by omega]
      exact h2
    · rw [show 24 - 8 * (c + 3 - c) = 0 by omega]
      exact h3
section FEA
variable {K : et_K} {G G0 : eg_G} {d2 d th rd ta c : Nat} {tb : Nat → Nat} {v x1 x2 x3 x4 x5 : Int32}

theorem fc_add (hH : et_H et_TT K G) (k_rd : K rd = some 7) (r0 : et_pl (eg_at G rd) 0 = some (.ref ta)) (k_ta : K ta = some 33) (r1 : et_pl (eg_at G rd) 1 = some (.int (Int32.ofNat c))) (hc : c + 4 ≤ 400) (ht : ∀ i, i < c → et_pl (eg_at G ta) i = some (.int (Int32.ofNat (tb i)))) : et_go none d2 64 0 (eg_en (eg_mL 64) [.ref rd, .int v]) [] G 0 0 (xw_Z (fun b j => (b = rd ∧ j = 1) ∨ (b = ta ∧ (c ≤ j ∧ j ≤ c + 3))) K G (fun G' r => r = none ∧ et_pl (eg_at G' rd) 1 = some (.int (Int32.ofNat (c + 4))) ∧ ∀ i, i < c + 4 → et_pl (eg_at G' ta) i = some (.int (Int32.ofNat (tb4 tb c v i))))) := by
  rw [show eg_mL 64 = 3 from by decide +kernel]
  show et_go none d2 64 0 [some (.ref rd), some (.int v), none] [] G 0 0 _
  have lt_rd := (hH.2.2 _ _ k_rd).1
  have lt_ta := (hH.2.2 _ _ k_ta).1
  have hX : xf (fun b j => (b = rd ∧ j = 1) ∨ (b = ta ∧ (c ≤ j ∧ j ≤ c + 3))) G G := xf.rf
  refine hs_k (x := Int32.ofNat 24) (p := 2) (by decide +kernel) ?_
  refine hs_istore (i := 2) (p := 3) (by decide +kernel) (Nat.le_of_ble_eq_true rfl) ?_
  refine hs_iload (i := 2) (p := 4) (by decide +kernel) rfl ?_
  refine hs_if0 (c := .lt) (t := 50) (f := 7) (by decide +kernel) (show ¬ (Int32.ofNat 24 < 0) by decide) ?_
  refine hs_aload (i := 0) (p := 8) (by decide +kernel) rfl ?_
  refine hf_get (T := et_TT) (t := 7) (ci := 5) (f := 1) (p := 11) (by decide +kernel) rfl hH k_rd r1 ?_
  refine hs_k (x := Int32.ofNat 400) (p := 14) (by decide +kernel) ?_
  refine hs_br2n (c := .ge) (t := 50) (f := 17) (by decide +kernel) (by omega) (by omega) (fun (c14 : 400 ≤ c) => ?_) (fun (c14 : ¬ (400 ≤ c)) => ?_)
  · exact absurd c14 (by omega)
  · refine hs_aload (i := 0) (p := 18) (by decide +kernel) rfl ?_
    refine hf_get (T := et_TT) (t := 7) (ci := 5) (f := 0) (p := 21) (by decide +kernel) rfl hH k_rd r0 ?_
    refine hs_aload (i := 0) (p := 22) (by decide +kernel) rfl ?_
    refine hf_get (T := et_TT) (t := 7) (ci := 5) (f := 1) (p := 25) (by decide +kernel) rfl hH k_rd r1 ?_
    refine hs_iload (i := 1) (p := 26) (by decide +kernel) rfl ?_
    refine hs_iload (i := 2) (p := 27) (by decide +kernel) rfl ?_
    refine hs_st (ins := .iushr) (len := 1) (p := 28) (by decide +kernel) rfl rfl ?_
    refine hs_k (x := Int32.ofNat 255) (p := 31) (by decide +kernel) ?_
    refine hs_st (ins := .iand) (len := 1) (p := 32) (by decide +kernel) rfl rfl ?_
    refine hs_st (ins := .i2c) (len := 1) (p := 33) (by decide +kernel) rfl rfl ?_
    refine hf_cst (T := et_TT) (t := 33) (N := 400) (p := 34) (by decide +kernel) rfl rfl (by_c (by decide)) hH k_ta (by omega) (by decide) (fun s hs => absurd hs List.not_mem_nil) (fun G33 hH x33 e33 => ?_)
    have r0 := (x33.2 rd 0 lt_rd (fun h => (hi_ne k_rd k_ta (by decide)) h.1)).trans r0
    have r1 := (x33.2 rd 1 lt_rd (fun h => (hi_ne k_rd k_ta (by decide)) h.1)).trans r1
    have ht : ∀ i, i < c → et_pl (eg_at G33 ta) i = some (.int (Int32.ofNat (tb i))) := fun i hi => (x33.2 ta i lt_ta (fun h => by have h := h.2; omega)).trans (ht i hi)
    have lt_rd := Nat.lt_of_lt_of_le lt_rd x33.1
    have lt_ta := Nat.lt_of_lt_of_le lt_ta x33.1
    have hX := hX.tr x33 (fun b j hb h => by first | omega | (dsimp only at h ⊢; omega) | (dsimp only at h; omega) | (dsimp only; omega))
    refine hs_aload (i := 0) (p := 35) (by decide +kernel) rfl ?_
    refine hs_dup1 (p := 36) (by decide +kernel) ?_
    refine hf_get (T := et_TT) (t := 7) (ci := 5) (f := 1) (p := 39) (by decide +kernel) rfl hH k_rd r1 ?_
    refine hs_k (x := Int32.ofNat 1) (p := 40) (by decide +kernel) ?_
    refine hs_iaddn (p := 41) (by decide +kernel) ?_
    refine hf_put (T := et_TT) (t := 7) (ci := 5) (f := 1) (p := 44) (ty := .int) (by decide +kernel) rfl rfl rfl rfl rfl hH k_rd (hi_nv (by omega) (by omega)) (fun G41 hH x41 e41 => ?_)
    have r0 := (x41.2 rd 0 lt_rd (fun h => absurd h.2 (by decide))).trans r0
    have e33 := (x41.2 ta c lt_ta (fun h => (hi_ne k_ta k_rd (by decide)) h.1)).trans e33
    have ht : ∀ i, i < c → et_pl (eg_at G41 ta) i = some (.int (Int32.ofNat (tb i))) := fun i hi => (x41.2 ta i lt_ta (fun h => (hi_ne k_ta k_rd (by decide)) h.1)).trans (ht i hi)
    have lt_rd := Nat.lt_of_lt_of_le lt_rd x41.1
    have lt_ta := Nat.lt_of_lt_of_le lt_ta x41.1
    have hX := hX.tr x41 (fun b j hb h => by first | omega | (dsimp only at h ⊢; omega) | (dsimp only at h; omega) | (dsimp only; omega))
    refine hs_iinc (i := 2) (n := (-8)) (p := 47) (by decide +kernel) rfl (Nat.le_of_ble_eq_true rfl) ?_
    refine hs_goto (p := 3) (by decide +kernel) ?_
    have e33_24 := e33
    rw [show (Int32.ofNat 24 + Int32.ofInt (-8)) = Int32.ofNat 16 from by decide]
    refine hs_iload (i := 2) (p := 4) (by decide +kernel) rfl ?_
    refine hs_if0 (c := .lt) (t := 50) (f := 7) (by decide +kernel) (show ¬ (Int32.ofNat 16 < 0) by decide) ?_
    refine hs_aload (i := 0) (p := 8) (by decide +kernel) rfl ?_
    refine hf_get (T := et_TT) (t := 7) (ci := 5) (f := 1) (p := 11) (by decide +kernel) rfl hH k_rd e41 ?_
    refine hs_k (x := Int32.ofNat 400) (p := 14) (by decide +kernel) ?_
    refine hs_br2n (c := .ge) (t := 50) (f := 17) (by decide +kernel) (by omega) (by omega) (fun (c14 : 400 ≤ (c + 1)) => ?_) (fun (c14 : ¬ (400 ≤ (c + 1))) => ?_)
    · exact absurd c14 (by omega)
    · refine hs_aload (i := 0) (p := 18) (by decide +kernel) rfl ?_
      refine hf_get (T := et_TT) (t := 7) (ci := 5) (f := 0) (p := 21) (by decide +kernel) rfl hH k_rd r0 ?_
      refine hs_aload (i := 0) (p := 22) (by decide +kernel) rfl ?_
      refine hf_get (T := et_TT) (t := 7) (ci := 5) (f := 1) (p := 25) (by decide +kernel) rfl hH k_rd e41 ?_
      refine hs_iload (i := 1) (p := 26) (by decide +kernel) rfl ?_
      refine hs_iload (i := 2) (p := 27) (by decide +kernel) rfl ?_
      refine hs_st (ins := .iushr) (len := 1) (p := 28) (by decide +kernel) rfl rfl ?_
      refine hs_k (x := Int32.ofNat 255) (p := 31) (by decide +kernel) ?_
      refine hs_st (ins := .iand) (len := 1) (p := 32) (by decide +kernel) rfl rfl ?_
      refine hs_st (ins := .i2c) (len := 1) (p := 33) (by decide +kernel) rfl rfl ?_
      refine hf_cst (T := et_TT) (t := 33) (N := 400) (p := 34) (by decide +kernel) rfl rfl (by_c (by decide)) hH k_ta (by omega) (by decide) (fun s hs => absurd hs List.not_mem_nil) (fun G33 hH x33 e33 => ?_)
      have r0 := (x33.2 rd 0 lt_rd (fun h => (hi_ne k_rd k_ta (by decide)) h.1)).trans r0
      have e41 := (x33.2 rd 1 lt_rd (fun h => (hi_ne k_rd k_ta (by decide)) h.1)).trans e41
      have e33_24 := (x33.2 ta c lt_ta (fun h => by have h := h.2; omega)).trans e33_24
      have ht : ∀ i, i < c → et_pl (eg_at G33 ta) i = some (.int (Int32.ofNat (tb i))) := fun i hi => (x33.2 ta i lt_ta (fun h => by have h := h.2; omega)).trans (ht i hi)
      have lt_rd := Nat.lt_of_lt_of_le lt_rd x33.1
      have lt_ta := Nat.lt_of_lt_of_le lt_ta x33.1
      have hX := hX.tr x33 (fun b j hb h => by first | omega | (dsimp only at h ⊢; omega) | (dsimp only at h; omega) | (dsimp only; omega))
      refine hs_aload (i := 0) (p := 35) (by decide +kernel) rfl ?_
      refine hs_dup1 (p := 36) (by decide +kernel) ?_
      refine hf_get (T := et_TT) (t := 7) (ci := 5) (f := 1) (p := 39) (by decide +kernel) rfl hH k_rd e41 ?_
      refine hs_k (x := Int32.ofNat 1) (p := 40) (by decide +kernel) ?_
      refine hs_iaddn (p := 41) (by decide +kernel) ?_
      refine hf_put (T := et_TT) (t := 7) (ci := 5) (f := 1) (p := 44) (ty := .int) (by decide +kernel) rfl rfl rfl rfl rfl hH k_rd (hi_nv (by omega) (by omega)) (fun G41 hH x41 e41 => ?_)
      have r0 := (x41.2 rd 0 lt_rd (fun h => absurd h.2 (by decide))).trans r0
      have e33_24 := (x41.2 ta c lt_ta (fun h => (hi_ne k_ta k_rd (by decide)) h.1)).trans e33_24
      have e33 := (x41.2 ta (c + 1) lt_ta (fun h => (hi_ne k_ta k_rd (by decide)) h.1)).trans e33
      have ht : ∀ i, i < c → et_pl (eg_at G41 ta) i = some (.int (Int32.ofNat (tb i))) := fun i hi => (x41.2 ta i lt_ta (fun h => (hi_ne k_ta k_rd (by decide)) h.1)).trans (ht i hi)
      have lt_rd := Nat.lt_of_lt_of_le lt_rd x41.1
      have lt_ta := Nat.lt_of_lt_of_le lt_ta x41.1
      have hX := hX.tr x41 (fun b j hb h => by first | omega | (dsimp only at h ⊢; omega) | (dsimp only at h; omega) | (dsimp only; omega))
      refine hs_iinc (i := 2) (n := (-8)) (p := 47) (by decide +kernel) rfl (Nat.le_of_ble_eq_true rfl) ?_
      refine hs_goto (p := 3) (by decide +kernel) ?_
      have e33_16 := e33
      rw [show (Int32.ofNat 16 + Int32.ofInt (-8)) = Int32.ofNat 8 from by decide]
      refine hs_iload (i := 2) (p := 4) (by decide +kernel) rfl ?_
      refine hs_if0 (c := .lt) (t := 50) (f := 7) (by decide +kernel) (show ¬ (Int32.ofNat 8 < 0) by decide) ?_
      refine hs_aload (i := 0) (p := 8) (by decide +kernel) rfl ?_
      refine hf_get (T := et_TT) (t := 7) (ci := 5) (f := 1) (p := 11) (by decide +kernel) rfl hH k_rd e41 ?_
      refine hs_k (x := Int32.ofNat 400) (p := 14) (by decide +kernel) ?_
      refine hs_br2n (c := .ge) (t := 50) (f := 17) (by decide +kernel) (by omega) (by omega) (fun (c14 : 400 ≤ ((c + 1) + 1)) => ?_) (fun (c14 : ¬ (400 ≤ ((c + 1) + 1))) => ?_)
      · exact absurd c14 (by omega)
      · refine hs_aload (i := 0) (p := 18) (by decide +kernel) rfl ?_
        refine hf_get (T := et_TT) (t := 7) (ci := 5) (f := 0) (p := 21) (by decide +kernel) rfl hH k_rd r0 ?_
        refine hs_aload (i := 0) (p := 22) (by decide +kernel) rfl ?_
        refine hf_get (T := et_TT) (t := 7) (ci := 5) (f := 1) (p := 25) (by decide +kernel) rfl hH k_rd e41 ?_
        refine hs_iload (i := 1) (p := 26) (by decide +kernel) rfl ?_
        refine hs_iload (i := 2) (p := 27) (by decide +kernel) rfl ?_
        refine hs_st (ins := .iushr) (len := 1) (p := 28) (by decide +kernel) rfl rfl ?_
        refine hs_k (x := Int32.ofNat 255) (p := 31) (by decide +kernel) ?_
        refine hs_st (ins := .iand) (len := 1) (p := 32) (by decide +kernel) rfl rfl ?_
        refine hs_st (ins := .i2c) (len := 1) (p := 33) (by decide +kernel) rfl rfl ?_
        refine hf_cst (T := et_TT) (t := 33) (N := 400) (p := 34) (by decide +kernel) rfl rfl (by_c (by decide)) hH k_ta (by omega) (by decide) (fun s hs => absurd hs List.not_mem_nil) (fun G33 hH x33 e33 => ?_)
        have r0 := (x33.2 rd 0 lt_rd (fun h => (hi_ne k_rd k_ta (by decide)) h.1)).trans r0
        have e41 := (x33.2 rd 1 lt_rd (fun h => (hi_ne k_rd k_ta (by decide)) h.1)).trans e41
        have e33_24 := (x33.2 ta c lt_ta (fun h => by have h := h.2; omega)).trans e33_24
        have e33_16 := (x33.2 ta (c + 1) lt_ta (fun h => by have h := h.2; omega)).trans e33_16
        have ht : ∀ i, i < c → et_pl (eg_at G33 ta) i = some (.int (Int32.ofNat (tb i))) := fun i hi => (x33.2 ta i lt_ta (fun h => by have h := h.2; omega)).trans (ht i hi)
        have lt_rd := Nat.lt_of_lt_of_le lt_rd x33.1
        have lt_ta := Nat.lt_of_lt_of_le lt_ta x33.1
        have hX := hX.tr x33 (fun b j hb h => by first | omega | (dsimp only at h ⊢; omega) | (dsimp only at h; omega) | (dsimp only; omega))
        refine hs_aload (i := 0) (p := 35) (by decide +kernel) rfl ?_
        refine hs_dup1 (p := 36) (by decide +kernel) ?_
        refine hf_get (T := et_TT) (t := 7) (ci := 5) (f := 1) (p := 39) (by decide +kernel) rfl hH k_rd e41 ?_
        refine hs_k (x := Int32.ofNat 1) (p := 40) (by decide +kernel) ?_
        refine hs_iaddn (p := 41) (by decide +kernel) ?_
        refine hf_put (T := et_TT) (t := 7) (ci := 5) (f := 1) (p := 44) (ty := .int) (by decide +kernel) rfl rfl rfl rfl rfl hH k_rd (hi_nv (by omega) (by omega)) (fun G41 hH x41 e41 => ?_)
        have r0 := (x41.2 rd 0 lt_rd (fun h => absurd h.2 (by decide))).trans r0
        have e33_24 := (x41.2 ta c lt_ta (fun h => (hi_ne k_ta k_rd (by decide)) h.1)).trans e33_24
        have e33_16 := (x41.2 ta (c + 1) lt_ta (fun h => (hi_ne k_ta k_rd (by decide)) h.1)).trans e33_16
        have e33 := (x41.2 ta ((c + 1) + 1) lt_ta (fun h => (hi_ne k_ta k_rd (by decide)) h.1)).trans e33
        have ht : ∀ i, i < c → et_pl (eg_at G41 ta) i = some (.int (Int32.ofNat (tb i))) := fun i hi => (x41.2 ta i lt_ta (fun h => (hi_ne k_ta k_rd (by decide)) h.1)).trans (ht i hi)
        have lt_rd := Nat.lt_of_lt_of_le lt_rd x41.1
        have lt_ta := Nat.lt_of_lt_of_le lt_ta x41.1
        have hX := hX.tr x41 (fun b j hb h => by first | omega | (dsimp only at h ⊢; omega) | (dsimp only at h; omega) | (dsimp only; omega))
        refine hs_iinc (i := 2) (n := (-8)) (p := 47) (by decide +kernel) rfl (Nat.le_of_ble_eq_true rfl) ?_
        refine hs_goto (p := 3) (by decide +kernel) ?_
        have e33_8 := e33
        rw [show (Int32.ofNat 8 + Int32.ofInt (-8)) = Int32.ofNat 0 from by decide]
        refine hs_iload (i := 2) (p := 4) (by decide +kernel) rfl ?_
        refine hs_if0 (c := .lt) (t := 50) (f := 7) (by decide +kernel) (show ¬ (Int32.ofNat 0 < 0) by decide) ?_
        refine hs_aload (i := 0) (p := 8) (by decide +kernel) rfl ?_
        refine hf_get (T := et_TT) (t := 7) (ci := 5) (f := 1) (p := 11) (by decide +kernel) rfl hH k_rd e41 ?_
        refine hs_k (x := Int32.ofNat 400) (p := 14) (by decide +kernel) ?_
        refine hs_br2n (c := .ge) (t := 50) (f := 17) (by decide +kernel) (by omega) (by omega) (fun (c14 : 400 ≤ (((c + 1) + 1) + 1)) => ?_) (fun (c14 : ¬ (400 ≤ (((c + 1) + 1) + 1))) => ?_)
        · exact absurd c14 (by omega)
        · refine hs_aload (i := 0) (p := 18) (by decide +kernel) rfl ?_
          refine hf_get (T := et_TT) (t := 7) (ci := 5) (f := 0) (p := 21) (by decide +kernel) rfl hH k_rd r0 ?_
          refine hs_aload (i := 0) (p := 22) (by decide +kernel) rfl ?_
          refine hf_get (T := et_TT) (t := 7) (ci := 5) (f := 1) (p := 25) (by decide +kernel) rfl hH k_rd e41 ?_
          refine hs_iload (i := 1) (p := 26) (by decide +kernel) rfl ?_
          refine hs_iload (i := 2) (p := 27) (by decide +kernel) rfl ?_
          refine hs_st (ins := .iushr) (len := 1) (p := 28) (by decide +kernel) rfl rfl ?_
          refine hs_k (x := Int32.ofNat 255) (p := 31) (by decide +kernel) ?_
          refine hs_st (ins := .iand) (len := 1) (p := 32) (by decide +kernel) rfl rfl ?_
          refine hs_st (ins := .i2c) (len := 1) (p := 33) (by decide +kernel) rfl rfl ?_
          refine hf_cst (T := et_TT) (t := 33) (N := 400) (p := 34) (by decide +kernel) rfl rfl (by_c (by decide)) hH k_ta (by omega) (by decide) (fun s hs => absurd hs List.not_mem_nil) (fun G33 hH x33 e33 => ?_)
          have r0 := (x33.2 rd 0 lt_rd (fun h => (hi_ne k_rd k_ta (by decide)) h.1)).trans r0
          have e41 := (x33.2 rd 1 lt_rd (fun h => (hi_ne k_rd k_ta (by decide)) h.1)).trans e41
          have e33_24 := (x33.2 ta c lt_ta (fun h => by have h := h.2; omega)).trans e33_24
          have e33_16 := (x33.2 ta (c + 1) lt_ta (fun h => by have h := h.2; omega)).trans e33_16
          have e33_8 := (x33.2 ta ((c + 1) + 1) lt_ta (fun h => by have h := h.2; omega)).trans e33_8
          have ht : ∀ i, i < c → et_pl (eg_at G33 ta) i = some (.int (Int32.ofNat (tb i))) := fun i hi => (x33.2 ta i lt_ta (fun h => by have h := h.2; omega)).trans (ht i hi)
          have lt_rd := Nat.lt_of_lt_of_le lt_rd x33.1
          have lt_ta := Nat.lt_of_lt_of_le lt_ta x33.1
          have hX := hX.tr x33 (fun b j hb h => by first | omega | (dsimp only at h ⊢; omega) | (dsimp only at h; omega) | (dsimp only; omega))
          refine hs_aload (i := 0) (p := 35) (by decide +kernel) rfl ?_
          refine hs_dup1 (p := 36) (by decide +kernel) ?_
          refine hf_get (T := et_TT) (t := 7) (ci := 5) (f := 1) (p := 39) (by decide +kernel) rfl hH k_rd e41 ?_
          refine hs_k (x := Int32.ofNat 1) (p := 40) (by decide +kernel) ?_
          refine hs_iaddn (p := 41) (by decide +kernel) ?_
          refine hf_put (T := et_TT) (t := 7) (ci := 5) (f := 1) (p := 44) (ty := .int) (by decide +kernel) rfl rfl rfl rfl rfl hH k_rd (hi_nv (by omega) (by omega)) (fun G41 hH x41 e41 => ?_)
          have r0 := (x41.2 rd 0 lt_rd (fun h => absurd h.2 (by decide))).trans r0
          have e33_24 := (x41.2 ta c lt_ta (fun h => (hi_ne k_ta k_rd (by decide)) h.1)).trans e33_24
          have e33_16 := (x41.2 ta (c + 1) lt_ta (fun h => (hi_ne k_ta k_rd (by decide)) h.1)).trans e33_16
          have e33_8 := (x41.2 ta ((c + 1) + 1) lt_ta (fun h => (hi_ne k_ta k_rd (by decide)) h.1)).trans e33_8
          have e33 := (x41.2 ta (((c + 1) + 1) + 1) lt_ta (fun h => (hi_ne k_ta k_rd (by decide)) h.1)).trans e33
          have ht : ∀ i, i < c → et_pl (eg_at G41 ta) i = some (.int (Int32.ofNat (tb i))) := fun i hi => (x41.2 ta i lt_ta (fun h => (hi_ne k_ta k_rd (by decide)) h.1)).trans (ht i hi)
          have lt_rd := Nat.lt_of_lt_of_le lt_rd x41.1
          have lt_ta := Nat.lt_of_lt_of_le lt_ta x41.1
          have hX := hX.tr x41 (fun b j hb h => by first | omega | (dsimp only at h ⊢; omega) | (dsimp only at h; omega) | (dsimp only; omega))
          refine hs_iinc (i := 2) (n := (-8)) (p := 47) (by decide +kernel) rfl (Nat.le_of_ble_eq_true rfl) ?_
          refine hs_goto (p := 3) (by decide +kernel) ?_
          have e33_0 := e33
          refine hs_iload (i := 2) (p := 4) (by decide +kernel) rfl ?_
          refine hs_if1 (c := .lt) (t := 50) (f := 7) (by decide +kernel) (show (Int32.ofNat 0 + Int32.ofInt (-8)) < 0 by decide) ?_
          refine hs_vret (by decide +kernel) ?_
          exact ⟨_, _, rfl, hH, hX, rfl, e41, tb4_at ht e33_24 e33_16 e33_8 e33_0⟩
theorem fc_room (hH : et_H et_TT K G) (k_rd : K rd = some 7) (r0 : et_pl (eg_at G rd) 0 = some (.ref ta)) (k_ta : K ta = some 33) (r1 : et_pl (eg_at G rd) 1 = some (.int (Int32.ofNat c))) (hc : c ≤ 400) : et_go none d2 63 0 (eg_en (eg_mL 63) [.ref rd, .int (Int32.ofNat 20)]) [] G 0 0 (xp_Z G (some (.int (Int32.ofNat (if c + 20 ≤ 400 then 1 else 0))))) := by
  rw [show eg_mL 63 = 2 from by decide +kernel]
  show et_go none d2 63 0 [some (.ref rd), some (.int (Int32.ofNat 20))] [] G 0 0 _
  have lt_rd := (hH.2.2 _ _ k_rd).1
  have lt_ta := (hH.2.2 _ _ k_ta).1
  refine hs_aload (i := 0) (p := 1) (by decide +kernel) rfl ?_
  refine hf_get (T := et_TT) (t := 7) (ci := 5) (f := 1) (p := 4) (by decide +kernel) rfl hH k_rd r1 ?_
  refine hs_iload (i := 1) (p := 5) (by decide +kernel) rfl ?_
  refine hs_iaddn (p := 6) (by decide +kernel) ?_
  refine hs_k (x := Int32.ofNat 400) (p := 9) (by decide +kernel) ?_
  refine hs_br2n (c := .gt) (t := 16) (f := 12) (by decide +kernel) (by omega) (by omega) (fun (c9 : 400 < (c + 20)) => ?_) (fun (c9 : ¬ (400 < (c + 20))) => ?_)
  · refine hs_k (x := Int32.ofNat 0) (p := 17) (by decide +kernel) ?_
    refine hs_zret (by decide +kernel) (.inl rfl) ?_
    rw [if_neg (by omega)]
    rfl
  · refine hs_k (x := Int32.ofNat 1) (p := 13) (by decide +kernel) ?_
    refine hs_goto (p := 17) (by decide +kernel) ?_
    refine hs_zret (by decide +kernel) (.inr rfl) ?_
    rw [if_pos (by omega)]
    rfl
theorem fc_feed (hH : et_H et_TT K G) (k_rd : K rd = some 7) (r0 : et_pl (eg_at G rd) 0 = some (.ref ta)) (k_ta : K ta = some 33) (r1 : et_pl (eg_at G rd) 1 = some (.int (Int32.ofNat c))) (ht : ∀ i, i < c → et_pl (eg_at G ta) i = some (.int (Int32.ofNat (tb i)))) (k_th : K th = some 12) (h3 : et_pl (eg_at G th) 3 = some (.ref rd)) (hc : c ≤ 400) (hd : 1 ≤ d2) : et_go none d2 116 0 (eg_en (eg_mL 116) [.ref th, .int x1, .int x2, .int x3, .int x4, .int x5]) [] G 0 0 (xw_Z (fun b j => (b = rd ∧ j = 1) ∨ (b = ta ∧ (c ≤ j ∧ j ≤ c + 19))) K G (fun G' r => (¬ c + 20 ≤ 400 ∧ r = some (.int (-1)) ∧ et_pl (eg_at G' rd) 1 = some (.int (Int32.ofNat c)) ∧ ∀ i, i < c → et_pl (eg_at G' ta) i = some (.int (Int32.ofNat (tb i)))) ∨ (c + 20 ≤ 400 ∧ r = some (.int (Int32.ofNat (c + 4 + 4 + 4 + 4 + 4))) ∧ et_pl (eg_at G' rd) 1 = some (.int (Int32.ofNat (c + 4 + 4 + 4 + 4 + 4))) ∧ ∀ i, i < c + 4 + 4 + 4 + 4 + 4 → et_pl (eg_at G' ta) i = some (.int (Int32.ofNat ((tb4 (tb4 (tb4 (tb4 (tb4 tb c x1) (c + 4) x2) (c + 4 + 4) x3) (c + 4 + 4 + 4) x4) (c + 4 + 4 + 4 + 4) x5) i)))))) := by
  obtain ⟨d, rfl⟩ : ∃ d, d2 = d + 1 := ⟨d2 - 1, by omega⟩
  rw [show eg_mL 116 = 6 from by decide +kernel]
  show et_go none (d + 1) 116 0 [some (.ref th), some (.int x1), some (.int x2), some (.int x3), some (.int x4), some (.int x5)] [] G 0 0 (xw_Z _ _ _ _)
  have lt_th := (hH.2.2 _ _ k_th).1
  have lt_rd := (hH.2.2 _ _ k_rd).1
  have lt_ta := (hH.2.2 _ _ k_ta).1
  have hX : xf (fun b j => (b = rd ∧ j = 1) ∨ (b = ta ∧ (c ≤ j ∧ j ≤ c + 19))) G G := xf.rf
  refine hs_aload (i := 0) (p := 1) (by decide +kernel) rfl ?_
  refine hf_get (T := et_TT) (t := 12) (ci := 10) (f := 3) (p := 4) (by decide +kernel) rfl hH k_th h3 ?_
  refine hs_k (x := Int32.ofNat 20) (p := 6) (by decide +kernel) ?_
  refine ht_callv (T := et_TT) (t := 7) (mi := 63) (na := 1) (ci := 5) (lk := 6) (lm := 2) (L0 := eg_en (eg_mL 63) [.ref rd, .int (Int32.ofNat 20)]) (by decide +kernel) rfl hH k_rd rfl rfl rfl rfl rfl (by rw [show eg_mL 63 = 2 from by decide +kernel]; first | done | rfl) ?_
  refine (fc_room hH k_rd r0 k_ta r1 hc).mono (fun u hu => xp_cb hu ?_)
  by_cases rm : c + 20 ≤ 400
  · rw [if_pos rm]
    show et_go none _ 116 9 _ [.int (Int32.ofNat 1)] _ _ _ _
    refine hs_if1 (c := .ne) (t := 14) (f := 12) (by decide +kernel) (show ¬ Int32.ofNat 1 = 0 by decide) ?_
    refine hs_aload (i := 0) (p := 15) (by decide +kernel) rfl ?_
    refine hf_get (T := et_TT) (t := 12) (ci := 10) (f := 3) (p := 18) (by decide +kernel) rfl hH k_th h3 ?_
    refine hs_iload (i := 1) (p := 19) (by decide +kernel) rfl ?_
    refine ht_callv (T := et_TT) (t := 7) (mi := 64) (na := 1) (ci := 5) (lk := 6) (lm := 3) (L0 := eg_en (eg_mL 64) [.ref rd, .int x1]) (by decide +kernel) rfl hH k_rd rfl rfl rfl rfl rfl (by rw [show eg_mL 64 = 3 from by decide +kernel]; first | done | rfl) ?_
    refine (fc_add (v := x1) hH k_rd r0 k_ta r1 (by omega) ht).mono (fun u hu => xw_cb hu (fun G19 v19 hH x19 hP19 => ?_))
    have h3 := (x19.2 th 3 lt_th (fun h => Or.elim h (fun h => (hi_ne k_th k_rd (by decide)) h.1) (fun h => (hi_ne k_th k_ta (by decide)) h.1))).trans h3
    have r0 := (x19.2 rd 0 lt_rd (fun h => Or.elim h (fun h => absurd h.2 (by decide)) (fun h => (hi_ne k_rd k_ta (by decide)) h.1))).trans r0
    have lt_th := Nat.lt_of_lt_of_le lt_th x19.1
    have lt_rd := Nat.lt_of_lt_of_le lt_rd x19.1
    have lt_ta := Nat.lt_of_lt_of_le lt_ta x19.1
    have hX := hX.tr x19 (fun b j hb h => by first | omega | (dsimp only at h ⊢; omega) | (dsimp only at h; omega) | (dsimp only; omega))
    obtain ⟨rfl, q19, ht⟩ := hP19
    show et_go none _ 116 22 _ [] _ _ _ _
    refine hs_aload (i := 0) (p := 23) (by decide +kernel) rfl ?_
    refine hf_get (T := et_TT) (t := 12) (ci := 10) (f := 3) (p := 26) (by decide +kernel) rfl hH k_th h3 ?_
    refine hs_iload (i := 2) (p := 27) (by decide +kernel) rfl ?_
    refine ht_callv (T := et_TT) (t := 7) (mi := 64) (na := 1) (ci := 5) (lk := 6) (lm := 3) (L0 := eg_en (eg_mL 64) [.ref rd, .int x2]) (by decide +kernel) rfl hH k_rd rfl rfl rfl rfl rfl (by rw [show eg_mL 64 = 3 from by decide +kernel]; first | done | rfl) ?_
    refine (fc_add (v := x2) hH k_rd r0 k_ta q19 (by omega) ht).mono (fun u hu => xw_cb hu (fun G27 v27 hH x27 hP27 => ?_))
    have h3 := (x27.2 th 3 lt_th (fun h => Or.elim h (fun h => (hi_ne k_th k_rd (by decide)) h.1) (fun h => (hi_ne k_th k_ta (by decide)) h.1))).trans h3
    have r0 := (x27.2 rd 0 lt_rd (fun h => Or.elim h (fun h => absurd h.2 (by decide)) (fun h => (hi_ne k_rd k_ta (by decide)) h.1))).trans r0
    have lt_th := Nat.lt_of_lt_of_le lt_th x27.1
    have lt_rd := Nat.lt_of_lt_of_le lt_rd x27.1
    have lt_ta := Nat.lt_of_lt_of_le lt_ta x27.1
    have hX := hX.tr x27 (fun b j hb h => by first | omega | (dsimp only at h ⊢; omega) | (dsimp only at h; omega) | (dsimp only; omega))
    obtain ⟨rfl, q27, ht⟩ := hP27
    show et_go none _ 116 30 _ [] _ _ _ _
    refine hs_aload (i := 0) (p := 31) (by decide +kernel) rfl ?_
    refine hf_get (T := et_TT) (t := 12) (ci := 10) (f := 3) (p := 34) (by decide +kernel) rfl hH k_th h3 ?_
    refine hs_iload (i := 3) (p := 35) (by decide +kernel) rfl ?_
    refine ht_callv (T := et_TT) (t := 7) (mi := 64) (na := 1) (ci := 5) (lk := 6) (lm := 3) (L0 := eg_en (eg_mL 64) [.ref rd, .int x3]) (by decide +kernel) rfl hH k_rd rfl rfl rfl rfl rfl (by rw [show eg_mL 64 = 3 from by decide +kernel]; first | done | rfl) ?_
    refine (fc_add (v := x3) hH k_rd r0 k_ta q27 (by omega) ht).mono (fun u hu => xw_cb hu (fun G35 v35 hH x35 hP35 => ?_))
    have h3 := (x35.2 th 3 lt_th (fun h => Or.elim h (fun h => (hi_ne k_th k_rd (by decide)) h.1) (fun h => (hi_ne k_th k_ta (by decide)) h.1))).trans h3
    have r0 := (x35.2 rd 0 lt_rd (fun h => Or.elim h (fun h => absurd h.2 (by decide)) (fun h => (hi_ne k_rd k_ta (by decide)) h.1))).trans r0
    have lt_th := Nat.lt_of_lt_of_le lt_th x35.1
    have lt_rd := Nat.lt_of_lt_of_le lt_rd x35.1
    have lt_ta := Nat.lt_of_lt_of_le lt_ta x35.1
    have hX := hX.tr x35 (fun b j hb h => by first | omega | (dsimp only at h ⊢; omega) | (dsimp only at h; omega) | (dsimp only; omega))
    obtain ⟨rfl, q35, ht⟩ := hP35
    show et_go none _ 116 38 _ [] _ _ _ _
    refine hs_aload (i := 0) (p := 39) (by decide +kernel) rfl ?_
    refine hf_get (T := et_TT) (t := 12) (ci := 10) (f := 3) (p := 42) (by decide +kernel) rfl hH k_th h3 ?_
    refine hs_iload (i := 4) (p := 44) (by decide +kernel) rfl ?_
    refine ht_callv (T := et_TT) (t := 7) (mi := 64) (na := 1) (ci := 5) (lk := 6) (lm := 3) (L0 := eg_en (eg_mL 64) [.ref rd, .int x4]) (by decide +kernel) rfl hH k_rd rfl rfl rfl rfl rfl (by rw [show eg_mL 64 = 3 from by decide +kernel]; first | done | rfl) ?_
    refine (fc_add (v := x4) hH k_rd r0 k_ta q35 (by omega) ht).mono (fun u hu => xw_cb hu (fun G44 v44 hH x44 hP44 => ?_))
    have h3 := (x44.2 th 3 lt_th (fun h => Or.elim h (fun h => (hi_ne k_th k_rd (by decide)) h.1) (fun h => (hi_ne k_th k_ta (by decide)) h.1))).trans h3
    have r0 := (x44.2 rd 0 lt_rd (fun h => Or.elim h (fun h => absurd h.2 (by decide)) (fun h => (hi_ne k_rd k_ta (by decide)) h.1))).trans r0
    have lt_th := Nat.lt_of_lt_of_le lt_th x44.1
    have lt_rd := Nat.lt_of_lt_of_le lt_rd x44.1
    have lt_ta := Nat.lt_of_lt_of_le lt_ta x44.1
    have hX := hX.tr x44 (fun b j hb h => by first | omega | (dsimp only at h ⊢; omega) | (dsimp only at h; omega) | (dsimp only; omega))
    obtain ⟨rfl, q44, ht⟩ := hP44
    show et_go none _ 116 47 _ [] _ _ _ _
    refine hs_aload (i := 0) (p := 48) (by decide +kernel) rfl ?_
    refine hf_get (T := et_TT) (t := 12) (ci := 10) (f := 3) (p := 51) (by decide +kernel) rfl hH k_th h3 ?_
    refine hs_iload (i := 5) (p := 53) (by decide +kernel) rfl ?_
    refine ht_callv (T := et_TT) (t := 7) (mi := 64) (na := 1) (ci := 5) (lk := 6) (lm := 3) (L0 := eg_en (eg_mL 64) [.ref rd, .int x5]) (by decide +kernel) rfl hH k_rd rfl rfl rfl rfl rfl (by rw [show eg_mL 64 = 3 from by decide +kernel]; first | done | rfl) ?_
    refine (fc_add (v := x5) hH k_rd r0 k_ta q44 (by omega) ht).mono (fun u hu => xw_cb hu (fun G53 v53 hH x53 hP53 => ?_))
    have h3 := (x53.2 th 3 lt_th (fun h => Or.elim h (fun h => (hi_ne k_th k_rd (by decide)) h.1) (fun h => (hi_ne k_th k_ta (by decide)) h.1))).trans h3
    have r0 := (x53.2 rd 0 lt_rd (fun h => Or.elim h (fun h => absurd h.2 (by decide)) (fun h => (hi_ne k_rd k_ta (by decide)) h.1))).trans r0
    have lt_th := Nat.lt_of_lt_of_le lt_th x53.1
    have lt_rd := Nat.lt_of_lt_of_le lt_rd x53.1
    have lt_ta := Nat.lt_of_lt_of_le lt_ta x53.1
    have hX := hX.tr x53 (fun b j hb h => by first | omega | (dsimp only at h ⊢; omega) | (dsimp only at h; omega) | (dsimp only; omega))
    obtain ⟨rfl, q53, ht⟩ := hP53
    show et_go none _ 116 56 _ [] _ _ _ _
    refine hs_aload (i := 0) (p := 57) (by decide +kernel) rfl ?_
    refine hf_get (T := et_TT) (t := 12) (ci := 10) (f := 3) (p := 60) (by decide +kernel) rfl hH k_th h3 ?_
    refine hf_get (T := et_TT) (t := 7) (ci := 5) (f := 1) (p := 63) (by decide +kernel) rfl hH k_rd q53 ?_
    refine hs_iret (by decide +kernel) ?_
    exact ⟨_, _, rfl, hH, hX, .inr ⟨rm, rfl, q53, ht⟩⟩
  · rw [if_neg rm]
    show et_go none _ 116 9 _ [.int (Int32.ofNat 0)] _ _ _ _
    refine hs_if0 (c := .ne) (t := 14) (f := 12) (by decide +kernel) (show ¬ (¬ Int32.ofNat 0 = 0) by decide) ?_
    refine hs_k (x := (-1)) (p := 13) (by decide +kernel) ?_
    refine hs_iret (by decide +kernel) ?_
    exact ⟨_, _, rfl, hH, hX, .inl ⟨rm, rfl, r1, ht⟩⟩
end FEA
