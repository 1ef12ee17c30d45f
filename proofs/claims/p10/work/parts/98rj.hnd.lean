/-! FUNCTIONAL: the class's cards -/
section FJB
variable {K : et_K} {G G0 : eg_G} {d2 d th s0 la ya c : Nat} {x y : Int32}
theorem fc_away (hH : et_H et_TT K G) (k_th : K th = some 12) (h0 : et_pl (eg_at G th) 0 = some (.ref s0)) (k_s0 : K s0 = some 10) (h2 : et_pl (eg_at G s0) 2 = some (.int (Int32.ofNat c))) (hc : c ≤ 20) : et_go none (d + 1) 119 0 (eg_en (eg_mL 119) [.ref th]) [] G 0 0 (xw_Z (fun b j => (b = th ∧ (6 ≤ j ∧ j ≤ 7)) ∨ (b = s0 ∧ j = 2)) K G (fun G' r => (c = 0 ∧ r = some (.int (-1)) ∧ et_pl (eg_at G' s0) 2 = some (.int (Int32.ofNat c))) ∨ (¬ c = 0 ∧ r = some (.int (Int32.ofNat (c - 1))) ∧ et_pl (eg_at G' s0) 2 = some (.int (Int32.ofNat (c - 1)))))) := by
  rw [show eg_mL 119 = 1 from by decide +kernel]
  show et_go none (d + 1) 119 0 [some (.ref th)] [] G 0 0 (xw_Z _ _ _ _)
  have lt_th := (hH.2.2 _ _ k_th).1
  have lt_s0 := (hH.2.2 _ _ k_s0).1
  have hX : xf (fun b j => (b = th ∧ (6 ≤ j ∧ j ≤ 7)) ∨ (b = s0 ∧ j = 2)) G G := xf.rf
  refine hs_aload (i := 0) (p := 1) (by decide +kernel) rfl ?_
  refine hf_get (T := et_TT) (t := 12) (ci := 10) (f := 0) (p := 4) (by decide +kernel) rfl hH k_th h0 ?_
  refine hf_get (T := et_TT) (t := 10) (ci := 8) (f := 2) (p := 7) (by decide +kernel) rfl hH k_s0 h2 ?_
  refine hs_br1 (c := .ne) (t := 12) (f := 10) (by decide +kernel) (fun (c7 : ¬ Int32.ofNat c = 0) => ?_) (fun (c7 : ¬ (¬ Int32.ofNat c = 0)) => ?_)
  · have c7 : ¬ c = 0 := fun h => c7 (by rw [h]; rfl)
    refine hs_aload (i := 0) (p := 13) (by decide +kernel) rfl ?_
    refine ht_callv (T := et_TT) (t := 12) (mi := 120) (na := 0) (ci := 10) (lk := 1) (lm := 1) (L0 := eg_en (eg_mL 120) [.ref th]) (by decide +kernel) rfl hH k_th rfl rfl rfl rfl rfl (by rw [show eg_mL 120 = 1 from by decide +kernel]; first | done | rfl) ?_
    refine (fc_forget hH k_th).mono (fun u hu => xw_cb hu (fun G13 v13 hH x13 hP13 => ?_))
    have h0 := (x13.2 th 0 lt_th (fun h => absurd h.2 (by decide))).trans h0
    have h2 := (x13.2 s0 2 lt_s0 (fun h => (hi_ne k_s0 k_th (by decide)) h.1)).trans h2
    have lt_th := Nat.lt_of_lt_of_le lt_th x13.1
    have lt_s0 := Nat.lt_of_lt_of_le lt_s0 x13.1
    have hX := hX.tr x13 (fun b j hb h => by first | omega | (dsimp only at h ⊢; omega) | (dsimp only at h; omega) | (dsimp only; omega))
    obtain rfl := hP13
    show et_go none _ 119 16 _ [] _ _ _ _
    refine hs_aload (i := 0) (p := 17) (by decide +kernel) rfl ?_
    refine hf_get (T := et_TT) (t := 12) (ci := 10) (f := 0) (p := 20) (by decide +kernel) rfl hH k_th h0 ?_
    refine hs_dup1 (p := 21) (by decide +kernel) ?_
    refine hf_get (T := et_TT) (t := 10) (ci := 8) (f := 2) (p := 24) (by decide +kernel) rfl hH k_s0 h2 ?_
    refine hs_k (x := Int32.ofNat 1) (p := 25) (by decide +kernel) ?_
    refine hs_isubn (p := 26) (by decide +kernel) (by omega) ?_
    refine hf_put (T := et_TT) (t := 10) (ci := 8) (f := 2) (p := 29) (ty := .int) (by decide +kernel) rfl rfl rfl rfl rfl hH k_s0 (hi_nv (by omega) (by omega)) (fun G26 hH x26 e26 => ?_)
    have h0 := (x26.2 th 0 lt_th (fun h => (hi_ne k_th k_s0 (by decide)) h.1)).trans h0
    have lt_th := Nat.lt_of_lt_of_le lt_th x26.1
    have lt_s0 := Nat.lt_of_lt_of_le lt_s0 x26.1
    have hX := hX.tr x26 (fun b j hb h => by first | omega | (dsimp only at h ⊢; omega) | (dsimp only at h; omega) | (dsimp only; omega))
    refine hs_aload (i := 0) (p := 30) (by decide +kernel) rfl ?_
    refine hf_get (T := et_TT) (t := 12) (ci := 10) (f := 0) (p := 33) (by decide +kernel) rfl hH k_th h0 ?_
    refine hf_get (T := et_TT) (t := 10) (ci := 8) (f := 2) (p := 36) (by decide +kernel) rfl hH k_s0 e26 ?_
    refine hs_iret (by decide +kernel) ?_
    exact ⟨_, _, rfl, hH, hX, .inr ⟨c7, rfl, e26⟩⟩
  · have c7 : c = 0 := by have h := Decidable.of_not_not c7; have h2 := congrArg Int32.toInt h; rw [hs_nint (by omega)] at h2; have h3 : (0 : Int32).toInt = 0 := rfl; omega
    refine hs_k (x := (-1)) (p := 11) (by decide +kernel) ?_
    refine hs_iret (by decide +kernel) ?_
    exact ⟨_, _, rfl, hH, hX, .inl ⟨c7, rfl, h2⟩⟩
theorem fc_needLit (hH : et_H et_TT K G) : et_go none d2 135 0 (eg_en (eg_mL 135) [.int x]) [] G 0 0 (xe_Z (fun _ _ => False) K G (fun G' r => (¬ (0 ≤ x.toInt ∧ x.toInt < 65536) ∧ r = .inr 0 ∧ G' = G) ∨ ((0 ≤ x.toInt ∧ x.toInt < 65536) ∧ r = .inl none ∧ G' = G))) := by
  have hz : (0 : Int32).toInt = 0 := rfl
  have h6 : (65536 : Int32).toInt = 65536 := rfl
  have hX : xf (fun _ _ => False) G G := xf.rf
  rw [show eg_mL 135 = 1 from by decide +kernel]
  show et_go none d2 135 0 [some (.int x)] [] G 0 0 (xe_Z _ _ _ _)
  refine hs_iload (i := 0) (p := 1) (by decide +kernel) rfl ?_
  refine hs_br1 (c := .lt) (t := 11) (f := 4) (by decide +kernel) (fun (c1 : x < 0) => ?_) (fun (c1 : ¬ (x < 0)) => ?_)
  · refine hs_thr (x := 0) (lk := 1) (by decide +kernel) rfl rfl ?_
    simp only [Int32.lt_iff_toInt_lt, Int32.le_iff_toInt_le, hz, h6] at c1
    exact ⟨_, _, _, _, rfl, hH, hX, .inl ⟨by omega, rfl, rfl⟩⟩
  · refine hs_iload (i := 0) (p := 5) (by decide +kernel) rfl ?_
    refine hs_kld (v := .int 65536) (p := 8) (by decide +kernel) ?_
    refine hs_br2 (c := .lt) (t := 19) (f := 11) (by decide +kernel) (fun (c8 : x < 65536) => ?_) (fun (c8 : ¬ (x < 65536)) => ?_)
    · refine hs_vret (by decide +kernel) ?_
      simp only [Int32.lt_iff_toInt_lt, Int32.le_iff_toInt_le, hz, h6] at c1 c8
      exact ⟨_, _, _, _, rfl, hH, hX, .inr ⟨by omega, rfl, rfl⟩⟩
    · refine hs_thr (x := 0) (lk := 1) (by decide +kernel) rfl rfl ?_
      simp only [Int32.lt_iff_toInt_lt, Int32.le_iff_toInt_le, hz, h6] at c1 c8
      exact ⟨_, _, _, _, rfl, hH, hX, .inl ⟨by omega, rfl, rfl⟩⟩
theorem fc_put (hH : et_H et_TT K G) (k_th : K th = some 12) (h0 : et_pl (eg_at G th) 0 = some (.ref s0)) (k_s0 : K s0 = some 10) (h2 : et_pl (eg_at G s0) 2 = some (.int (Int32.ofNat c))) (hc : c ≤ 20) (h3 : et_pl (eg_at G s0) 3 = some (.ref la)) (k_la : K la = some 17) (h4 : et_pl (eg_at G s0) 4 = some (.ref ya)) (k_ya : K ya = some 27) (hy : y = Int32.ofNat 0 ∨ y = Int32.ofNat 1) (hd : 1 ≤ d2) : et_go none d2 137 0 (eg_en (eg_mL 137) [.ref th, .int x, .int y]) [] G 0 0 (xe_Z (fun b j => (b = th ∧ (6 ≤ j ∧ j ≤ 7)) ∨ ((b = s0 ∧ j = 2) ∨ ((b = la ∧ j = c) ∨ (b = ya ∧ j = c)))) K G (fun G' r => (c = 20 ∧ r = .inr 2 ∧ et_pl (eg_at G' s0) 2 = some (.int (Int32.ofNat c))) ∨ (c < 20 ∧ r = .inl (some (.int (Int32.ofNat c))) ∧ et_pl (eg_at G' s0) 2 = some (.int (Int32.ofNat (c + 1))) ∧ et_pl (eg_at G' la) c = some (.int x) ∧ et_pl (eg_at G' ya) c = some (.int y)))) := by
  obtain ⟨d, rfl⟩ : ∃ d, d2 = d + 1 := ⟨d2 - 1, by omega⟩
  rw [show eg_mL 137 = 3 from by decide +kernel]
  show et_go none (d + 1) 137 0 [some (.ref th), some (.int x), some (.int y)] [] G 0 0 (xe_Z _ _ _ _)
  have lt_th := (hH.2.2 _ _ k_th).1
  have lt_s0 := (hH.2.2 _ _ k_s0).1
  have lt_la := (hH.2.2 _ _ k_la).1
  have lt_ya := (hH.2.2 _ _ k_ya).1
  have hX : xf (fun b j => (b = th ∧ (6 ≤ j ∧ j ≤ 7)) ∨ ((b = s0 ∧ j = 2) ∨ ((b = la ∧ j = c) ∨ (b = ya ∧ j = c)))) G G := xf.rf
  refine hs_aload (i := 0) (p := 1) (by decide +kernel) rfl ?_
  refine hf_get (T := et_TT) (t := 12) (ci := 10) (f := 0) (p := 4) (by decide +kernel) rfl hH k_th h0 ?_
  refine hf_get (T := et_TT) (t := 10) (ci := 8) (f := 2) (p := 7) (by decide +kernel) rfl hH k_s0 h2 ?_
  refine hs_k (x := Int32.ofNat 20) (p := 9) (by decide +kernel) ?_
  refine hs_br2n (c := .lt) (t := 20) (f := 12) (by decide +kernel) (by omega) (by omega) (fun (c9 : c < 20) => ?_) (fun (c9 : ¬ (c < 20)) => ?_)
  · refine hs_aload (i := 0) (p := 21) (by decide +kernel) rfl ?_
    refine ht_callv (T := et_TT) (t := 12) (mi := 120) (na := 0) (ci := 10) (lk := 3) (lm := 1) (L0 := eg_en (eg_mL 120) [.ref th]) (by decide +kernel) rfl hH k_th rfl rfl rfl rfl rfl (by rw [show eg_mL 120 = 1 from by decide +kernel]; first | done | rfl) ?_
    refine (fc_forget hH k_th).mono (fun u hu => xw_cb hu (fun G21 v21 hH x21 hP21 => ?_))
    have h0 := (x21.2 th 0 lt_th (fun h => absurd h.2 (by decide))).trans h0
    have h2 := (x21.2 s0 2 lt_s0 (fun h => (hi_ne k_s0 k_th (by decide)) h.1)).trans h2
    have h3 := (x21.2 s0 3 lt_s0 (fun h => (hi_ne k_s0 k_th (by decide)) h.1)).trans h3
    have h4 := (x21.2 s0 4 lt_s0 (fun h => (hi_ne k_s0 k_th (by decide)) h.1)).trans h4
    have lt_th := Nat.lt_of_lt_of_le lt_th x21.1
    have lt_s0 := Nat.lt_of_lt_of_le lt_s0 x21.1
    have lt_la := Nat.lt_of_lt_of_le lt_la x21.1
    have lt_ya := Nat.lt_of_lt_of_le lt_ya x21.1
    have hX := hX.tr x21 (fun b j hb h => by first | omega | (dsimp only at h ⊢; omega) | (dsimp only at h; omega) | (dsimp only; omega))
    obtain rfl := hP21
    show et_go none _ 137 24 _ [] _ _ _ _
    refine hs_aload (i := 0) (p := 25) (by decide +kernel) rfl ?_
    refine hf_get (T := et_TT) (t := 12) (ci := 10) (f := 0) (p := 28) (by decide +kernel) rfl hH k_th h0 ?_
    refine hf_get (T := et_TT) (t := 10) (ci := 8) (f := 3) (p := 31) (by decide +kernel) rfl hH k_s0 h3 ?_
    refine hs_aload (i := 0) (p := 32) (by decide +kernel) rfl ?_
    refine hf_get (T := et_TT) (t := 12) (ci := 10) (f := 0) (p := 35) (by decide +kernel) rfl hH k_th h0 ?_
    refine hf_get (T := et_TT) (t := 10) (ci := 8) (f := 2) (p := 38) (by decide +kernel) rfl hH k_s0 h2 ?_
    refine hs_iload (i := 1) (p := 39) (by decide +kernel) rfl ?_
    refine hf_ist (T := et_TT) (t := 17) (N := 20) (p := 40) (by decide +kernel) rfl rfl (by decide) hH k_la (by omega) (by decide) (fun s hs => absurd hs List.not_mem_nil) (fun G39 hH x39 e39 => ?_)
    have h0 := (x39.2 th 0 lt_th (fun h => (hi_ne k_th k_la (by decide)) h.1)).trans h0
    have h2 := (x39.2 s0 2 lt_s0 (fun h => (hi_ne k_s0 k_la (by decide)) h.1)).trans h2
    have h3 := (x39.2 s0 3 lt_s0 (fun h => (hi_ne k_s0 k_la (by decide)) h.1)).trans h3
    have h4 := (x39.2 s0 4 lt_s0 (fun h => (hi_ne k_s0 k_la (by decide)) h.1)).trans h4
    have lt_th := Nat.lt_of_lt_of_le lt_th x39.1
    have lt_s0 := Nat.lt_of_lt_of_le lt_s0 x39.1
    have lt_la := Nat.lt_of_lt_of_le lt_la x39.1
    have lt_ya := Nat.lt_of_lt_of_le lt_ya x39.1
    have hX := hX.tr x39 (fun b j hb h => by first | omega | (dsimp only at h ⊢; omega) | (dsimp only at h; omega) | (dsimp only; omega))
    refine hs_aload (i := 0) (p := 41) (by decide +kernel) rfl ?_
    refine hf_get (T := et_TT) (t := 12) (ci := 10) (f := 0) (p := 44) (by decide +kernel) rfl hH k_th h0 ?_
    refine hf_get (T := et_TT) (t := 10) (ci := 8) (f := 4) (p := 47) (by decide +kernel) rfl hH k_s0 h4 ?_
    refine hs_aload (i := 0) (p := 48) (by decide +kernel) rfl ?_
    refine hf_get (T := et_TT) (t := 12) (ci := 10) (f := 0) (p := 51) (by decide +kernel) rfl hH k_th h0 ?_
    refine hf_get (T := et_TT) (t := 10) (ci := 8) (f := 2) (p := 54) (by decide +kernel) rfl hH k_s0 h2 ?_
    refine hs_iload (i := 2) (p := 55) (by decide +kernel) rfl ?_
    refine hf_zst (T := et_TT) (t := 27) (N := 20) (p := 56) (by decide +kernel) rfl rfl (show vp_nar .boolean y = y from by rcases hy with rfl | rfl <;> decide +kernel) hH k_ya (by omega) (by decide) (fun s hs _ _ => by rw [List.mem_singleton] at hs; subst hs; rcases hy with rfl | rfl <;> exact hi_nv (by decide) (by decide)) (fun G55 hH x55 e55 => ?_)
    have h0 := (x55.2 th 0 lt_th (fun h => (hi_ne k_th k_ya (by decide)) h.1)).trans h0
    have h2 := (x55.2 s0 2 lt_s0 (fun h => (hi_ne k_s0 k_ya (by decide)) h.1)).trans h2
    have h3 := (x55.2 s0 3 lt_s0 (fun h => (hi_ne k_s0 k_ya (by decide)) h.1)).trans h3
    have h4 := (x55.2 s0 4 lt_s0 (fun h => (hi_ne k_s0 k_ya (by decide)) h.1)).trans h4
    have e39 := (x55.2 la c lt_la (fun h => (hi_ne k_la k_ya (by decide)) h.1)).trans e39
    have lt_th := Nat.lt_of_lt_of_le lt_th x55.1
    have lt_s0 := Nat.lt_of_lt_of_le lt_s0 x55.1
    have lt_la := Nat.lt_of_lt_of_le lt_la x55.1
    have lt_ya := Nat.lt_of_lt_of_le lt_ya x55.1
    have hX := hX.tr x55 (fun b j hb h => by first | omega | (dsimp only at h ⊢; omega) | (dsimp only at h; omega) | (dsimp only; omega))
    refine hs_aload (i := 0) (p := 57) (by decide +kernel) rfl ?_
    refine hf_get (T := et_TT) (t := 12) (ci := 10) (f := 0) (p := 60) (by decide +kernel) rfl hH k_th h0 ?_
    refine hs_dup1 (p := 61) (by decide +kernel) ?_
    refine hf_get (T := et_TT) (t := 10) (ci := 8) (f := 2) (p := 64) (by decide +kernel) rfl hH k_s0 h2 ?_
    refine hs_k (x := Int32.ofNat 1) (p := 65) (by decide +kernel) ?_
    refine hs_iaddn (p := 66) (by decide +kernel) ?_
    refine hf_put (T := et_TT) (t := 10) (ci := 8) (f := 2) (p := 69) (ty := .int) (by decide +kernel) rfl rfl rfl rfl rfl hH k_s0 (hi_nv (by omega) (by omega)) (fun G66 hH x66 e66 => ?_)
    have h0 := (x66.2 th 0 lt_th (fun h => (hi_ne k_th k_s0 (by decide)) h.1)).trans h0
    have h3 := (x66.2 s0 3 lt_s0 (fun h => absurd h.2 (by decide))).trans h3
    have h4 := (x66.2 s0 4 lt_s0 (fun h => absurd h.2 (by decide))).trans h4
    have e39 := (x66.2 la c lt_la (fun h => (hi_ne k_la k_s0 (by decide)) h.1)).trans e39
    have e55 := (x66.2 ya c lt_ya (fun h => (hi_ne k_ya k_s0 (by decide)) h.1)).trans e55
    have lt_th := Nat.lt_of_lt_of_le lt_th x66.1
    have lt_s0 := Nat.lt_of_lt_of_le lt_s0 x66.1
    have lt_la := Nat.lt_of_lt_of_le lt_la x66.1
    have lt_ya := Nat.lt_of_lt_of_le lt_ya x66.1
    have hX := hX.tr x66 (fun b j hb h => by first | omega | (dsimp only at h ⊢; omega) | (dsimp only at h; omega) | (dsimp only; omega))
    refine hs_aload (i := 0) (p := 70) (by decide +kernel) rfl ?_
    refine hf_get (T := et_TT) (t := 12) (ci := 10) (f := 0) (p := 73) (by decide +kernel) rfl hH k_th h0 ?_
    refine hf_get (T := et_TT) (t := 10) (ci := 8) (f := 2) (p := 76) (by decide +kernel) rfl hH k_s0 e66 ?_
    refine hs_k (x := Int32.ofNat 1) (p := 77) (by decide +kernel) ?_
    refine hs_isubn (p := 78) (by decide +kernel) (by omega) ?_
    refine hs_iret (by decide +kernel) ?_
    rw [Nat.add_sub_cancel]
    exact ⟨_, _, _, _, rfl, hH, hX, .inr ⟨by omega, rfl, e66, e39, e55⟩⟩
  · refine hs_thr (x := 2) (lk := 3) (by decide +kernel) rfl rfl ?_
    exact ⟨_, _, _, _, rfl, hH, hX, .inl ⟨by omega, rfl, h2⟩⟩
theorem fc_card (hH : et_H et_TT K G) (k_th : K th = some 12) (h0 : et_pl (eg_at G th) 0 = some (.ref s0)) (k_s0 : K s0 = some 10) (h2 : et_pl (eg_at G s0) 2 = some (.int (Int32.ofNat c))) (hc : c ≤ 20) (h3 : et_pl (eg_at G s0) 3 = some (.ref la)) (k_la : K la = some 17) (h4 : et_pl (eg_at G s0) 4 = some (.ref ya)) (k_ya : K ya = some 27) (hy : y = Int32.ofNat 0 ∨ y = Int32.ofNat 1) (hd : 2 ≤ d2) : et_go none d2 136 0 (eg_en (eg_mL 136) [.ref th, .int x, .int y]) [] G 0 0 (xe_Z (fun b j => (b = th ∧ (6 ≤ j ∧ j ≤ 7)) ∨ ((b = s0 ∧ j = 2) ∨ ((b = la ∧ j = c) ∨ (b = ya ∧ j = c)))) K G (fun G' r => (¬ (0 ≤ x.toInt ∧ x.toInt < 65536) ∧ r = .inr 0 ∧ et_pl (eg_at G' s0) 2 = some (.int (Int32.ofNat c))) ∨ ((0 ≤ x.toInt ∧ x.toInt < 65536) ∧ c = 20 ∧ r = .inr 2 ∧ et_pl (eg_at G' s0) 2 = some (.int (Int32.ofNat c))) ∨ ((0 ≤ x.toInt ∧ x.toInt < 65536) ∧ c < 20 ∧ r = .inl (some (.int (Int32.ofNat c))) ∧ et_pl (eg_at G' s0) 2 = some (.int (Int32.ofNat (c + 1))) ∧ et_pl (eg_at G' la) c = some (.int x) ∧ et_pl (eg_at G' ya) c = some (.int y)))) := by
  obtain ⟨d, rfl⟩ : ∃ d, d2 = d + 2 := ⟨d2 - 2, by omega⟩
  have hX0 : xf (fun b j => (b = th ∧ (6 ≤ j ∧ j ≤ 7)) ∨ ((b = s0 ∧ j = 2) ∨ ((b = la ∧ j = c) ∨ (b = ya ∧ j = c)))) G G := xf.rf
  rw [show eg_mL 136 = 3 from by decide +kernel]
  show et_go none (d + 2) 136 0 [some (.ref th), some (.int x), some (.int y)] [] G 0 0 (xe_Z _ _ _ _)
  have lt_th := (hH.2.2 _ _ k_th).1
  have lt_s0 := (hH.2.2 _ _ k_s0).1
  have lt_la := (hH.2.2 _ _ k_la).1
  have lt_ya := (hH.2.2 _ _ k_ya).1
  refine hs_iload (i := 1) (p := 1) (by decide +kernel) rfl ?_
  refine hs_calls (mi := 135) (na := 1) (lk := 3) (lm := 1) (L0 := eg_en (eg_mL 135) [.int x]) (by decide +kernel) rfl rfl rfl rfl rfl rfl (by rw [show eg_mL 135 = 1 from by decide +kernel]; first | done | rfl) ?_
  refine (fc_needLit (K := K) (x := x) hH).mono (fun u hu => ?_)
  obtain ⟨G1, v1, c1, s1, rfl, hH, x1, hP1⟩ := hu
  rcases hP1 with ⟨xl, rfl, rfl⟩ | ⟨xl, rfl, rfl⟩
  · refine hf_cx (by decide +kernel) ?_
    exact ⟨_, _, _, _, rfl, hH, hX0, .inl ⟨xl, rfl, h2⟩⟩
  · refine hs_cb ?_
    show et_go none _ 136 4 _ [] _ _ _ _
    refine hs_aload (i := 0) (p := 5) (by decide +kernel) rfl ?_
    refine hs_iload (i := 1) (p := 6) (by decide +kernel) rfl ?_
    refine hs_iload (i := 2) (p := 7) (by decide +kernel) rfl ?_
    refine ht_callv (T := et_TT) (t := 12) (mi := 137) (na := 2) (ci := 10) (lk := 3) (lm := 3) (L0 := eg_en (eg_mL 137) [.ref th, .int x, .int y]) (by decide +kernel) rfl hH k_th rfl rfl rfl rfl rfl (by rw [show eg_mL 137 = 3 from by decide +kernel]; first | done | rfl) ?_
    refine (fc_put hH k_th h0 k_s0 h2 hc h3 k_la h4 k_ya hy (by omega)).mono (fun u hu => ?_)
    obtain ⟨G7, v7, c7, s7, rfl, hH, x7, hP7⟩ := hu
    rcases hP7 with ⟨c20, rfl, p2⟩ | ⟨c20, rfl, p2, p3, p4⟩
    · refine hf_cx (by decide +kernel) ?_
      exact ⟨_, _, _, _, rfl, hH, x7, .inr (.inl ⟨xl, c20, rfl, p2⟩)⟩
    · refine hs_cb ?_
      show et_go none _ 136 10 _ [.int (Int32.ofNat c)] _ _ _ _
      refine hs_iret (by decide +kernel) ?_
      exact ⟨_, _, _, _, rfl, hH, x7, .inr (.inr ⟨xl, c20, rfl, p2, p3, p4⟩)⟩
theorem fh_card {out : Nat} (hH : et_H et_TT K G) (k_th : K th = some 12) (h0 : et_pl (eg_at G th) 0 = some (.ref s0)) (k_s0 : K s0 = some 10) (h2 : et_pl (eg_at G s0) 2 = some (.int (Int32.ofNat c))) (hc : c ≤ 20) (h3 : et_pl (eg_at G s0) 3 = some (.ref la)) (k_la : K la = some 17) (h4 : et_pl (eg_at G s0) 4 = some (.ref ya)) (k_ya : K ya = some 27) (hy : y = Int32.ofNat 0 ∨ y = Int32.ofNat 1) (k_out : K out = some 31) (hd : 3 ≤ d2) : et_go none d2 4 0 (eg_en (eg_mL 4) [.ref th, .int x, .int y, .ref out]) [] G 0 0 (xe_Z (fun b j => (b = th ∧ (6 ≤ j ∧ j ≤ 7)) ∨ ((b = s0 ∧ j = 2) ∨ ((b = la ∧ j = c) ∨ ((b = ya ∧ j = c) ∨ (b = out ∧ j = 0))))) K G (fun G' r => (¬ (0 ≤ x.toInt ∧ x.toInt < 65536) ∧ r = .inl (some (.int (Int32.ofNat 1))) ∧ et_pl (eg_at G' s0) 2 = some (.int (Int32.ofNat c))) ∨ ((0 ≤ x.toInt ∧ x.toInt < 65536) ∧ c = 20 ∧ r = .inl (some (.int (Int32.ofNat 2))) ∧ et_pl (eg_at G' s0) 2 = some (.int (Int32.ofNat c))) ∨ ((0 ≤ x.toInt ∧ x.toInt < 65536) ∧ c < 20 ∧ r = .inl (some (.int (Int32.ofNat 0))) ∧ et_pl (eg_at G' out) 0 = some (.long (Int32.ofNat c).toInt64) ∧ et_pl (eg_at G' s0) 2 = some (.int (Int32.ofNat (c + 1))) ∧ et_pl (eg_at G' la) c = some (.int x) ∧ et_pl (eg_at G' ya) c = some (.int y)))) := by
  obtain ⟨d, rfl⟩ : ∃ d, d2 = d + 3 := ⟨d2 - 3, by omega⟩
  rw [show eg_mL 4 = 5 from by decide +kernel]
  show et_go none (d + 3) 4 0 [some (.ref th), some (.int x), some (.int y), some (.ref out), none] [] G 0 0 (xe_Z _ _ _ _)
  have lt_th := (hH.2.2 _ _ k_th).1
  have lt_s0 := (hH.2.2 _ _ k_s0).1
  have lt_la := (hH.2.2 _ _ k_la).1
  have lt_ya := (hH.2.2 _ _ k_ya).1
  have lt_out := (hH.2.2 _ _ k_out).1
  have hX : xf (fun b j => (b = th ∧ (6 ≤ j ∧ j ≤ 7)) ∨ ((b = s0 ∧ j = 2) ∨ ((b = la ∧ j = c) ∨ ((b = ya ∧ j = c) ∨ (b = out ∧ j = 0))))) G G := xf.rf
  refine hs_aload (i := 3) (p := 1) (by decide +kernel) rfl ?_
  refine hs_k (x := Int32.ofNat 0) (p := 2) (by decide +kernel) ?_
  refine hs_aload (i := 0) (p := 3) (by decide +kernel) rfl ?_
  refine hs_iload (i := 1) (p := 4) (by decide +kernel) rfl ?_
  refine hs_iload (i := 2) (p := 5) (by decide +kernel) rfl ?_
  refine ht_callv (T := et_TT) (t := 12) (mi := 136) (na := 2) (ci := 10) (lk := 5) (lm := 3) (L0 := eg_en (eg_mL 136) [.ref th, .int x, .int y]) (by decide +kernel) rfl hH k_th rfl rfl rfl rfl rfl (by rw [show eg_mL 136 = 3 from by decide +kernel]; first | done | rfl) ?_
  refine (fc_card hH k_th h0 k_s0 h2 hc h3 k_la h4 k_ya hy (by omega)).mono (fun u hu => ?_)
  obtain ⟨G5, v5, c5, s5, rfl, hH, x5, hP5⟩ := hu
  have h0 := (x5.2 th 0 lt_th (fun h => Or.elim h (fun h => absurd h.2 (by decide)) (fun h => Or.elim h (fun h => (hi_ne k_th k_s0 (by decide)) h.1) (fun h => Or.elim h (fun h => (hi_ne k_th k_la (by decide)) h.1) (fun h => (hi_ne k_th k_ya (by decide)) h.1))))).trans h0
  have h3 := (x5.2 s0 3 lt_s0 (fun h => Or.elim h (fun h => (hi_ne k_s0 k_th (by decide)) h.1) (fun h => Or.elim h (fun h => absurd h.2 (by decide)) (fun h => Or.elim h (fun h => (hi_ne k_s0 k_la (by decide)) h.1) (fun h => (hi_ne k_s0 k_ya (by decide)) h.1))))).trans h3
  have h4 := (x5.2 s0 4 lt_s0 (fun h => Or.elim h (fun h => (hi_ne k_s0 k_th (by decide)) h.1) (fun h => Or.elim h (fun h => absurd h.2 (by decide)) (fun h => Or.elim h (fun h => (hi_ne k_s0 k_la (by decide)) h.1) (fun h => (hi_ne k_s0 k_ya (by decide)) h.1))))).trans h4
  have lt_th := Nat.lt_of_lt_of_le lt_th x5.1
  have lt_s0 := Nat.lt_of_lt_of_le lt_s0 x5.1
  have lt_la := Nat.lt_of_lt_of_le lt_la x5.1
  have lt_ya := Nat.lt_of_lt_of_le lt_ya x5.1
  have lt_out := Nat.lt_of_lt_of_le lt_out x5.1
  have hX := hX.tr x5 (fun b j hb h => by first | omega | (dsimp only at h ⊢; omega) | (dsimp only at h; omega) | (dsimp only; omega))
  rcases hP5 with ⟨xl, rfl, p2⟩ | ⟨xl, c20, rfl, p2⟩ | ⟨xl, c20, rfl, p2, p3, p4⟩
  · refine hs_ch (h := 13) (i := 4) (n := 2) (hh := (eg_mh 4).getD []) (by decide +kernel) ⟨by decide +kernel, by decide +kernel⟩ (Nat.le_of_ble_eq_true rfl) ?_
    show et_go none _ 4 15 [some (.ref th), some (.int x), some (.int y), some (.ref out), none] [] _ _ _ _
    refine hs_k (x := Int32.ofNat 1) (p := 16) (by decide +kernel) ?_
    refine hs_iret (by decide +kernel) ?_
    exact ⟨_, _, _, _, rfl, hH, hX, .inl ⟨xl, rfl, p2⟩⟩
  · refine hs_ch (h := 17) (i := 4) (n := 2) (hh := (eg_mh 4).getD []) (by decide +kernel) ⟨by decide +kernel, by decide +kernel⟩ (Nat.le_of_ble_eq_true rfl) ?_
    show et_go none _ 4 19 [some (.ref th), some (.int x), some (.int y), some (.ref out), none] [] _ _ _ _
    refine hs_k (x := Int32.ofNat 2) (p := 20) (by decide +kernel) ?_
    refine hs_iret (by decide +kernel) ?_
    exact ⟨_, _, _, _, rfl, hH, hX, .inr (.inl ⟨xl, c20, rfl, p2⟩)⟩
  · refine hs_cb ?_
    show et_go none _ 4 8 _ [.int (Int32.ofNat c), .int (Int32.ofNat 0), .ref out] _ _ _ _
    refine hs_i2l (p := 9) (by decide +kernel) ?_
    refine hf_lst (T := et_TT) (t := 31) (N := 1) (p := 10) (by decide +kernel) rfl rfl hH k_out (by omega) (by decide) (fun G9 hH x9 e9 => ?_)
    have h0 := (x9.2 th 0 lt_th (fun h => (hi_ne k_th k_out (by decide)) h.1)).trans h0
    have p2 := (x9.2 s0 2 lt_s0 (fun h => (hi_ne k_s0 k_out (by decide)) h.1)).trans p2
    have h3 := (x9.2 s0 3 lt_s0 (fun h => (hi_ne k_s0 k_out (by decide)) h.1)).trans h3
    have h4 := (x9.2 s0 4 lt_s0 (fun h => (hi_ne k_s0 k_out (by decide)) h.1)).trans h4
    have p3 := (x9.2 la c lt_la (fun h => (hi_ne k_la k_out (by decide)) h.1)).trans p3
    have p4 := (x9.2 ya c lt_ya (fun h => (hi_ne k_ya k_out (by decide)) h.1)).trans p4
    have lt_th := Nat.lt_of_lt_of_le lt_th x9.1
    have lt_s0 := Nat.lt_of_lt_of_le lt_s0 x9.1
    have lt_la := Nat.lt_of_lt_of_le lt_la x9.1
    have lt_ya := Nat.lt_of_lt_of_le lt_ya x9.1
    have lt_out := Nat.lt_of_lt_of_le lt_out x9.1
    have hX := hX.tr x9 (fun b j hb h => by first | omega | (dsimp only at h ⊢; omega) | (dsimp only at h; omega) | (dsimp only; omega))
    refine hs_goto (p := 21) (by decide +kernel) ?_
    refine hs_k (x := Int32.ofNat 0) (p := 22) (by decide +kernel) ?_
    refine hs_iret (by decide +kernel) ?_
    exact ⟨_, _, _, _, rfl, hH, hX, .inr (.inr ⟨xl, c20, rfl, e9, p2, p3, p4⟩)⟩
end FJB
