/-! PHASE D: the reference's knob, stuck, sees -/
theorem xi_neg {k : Nat} (hk : k < 2147483648) : (-(Int32.ofNat k)).toInt = -(k : Int) := by
  rw [Int32.toInt_neg, hs_nint hk, Int.bmod_def]
  simp only [Nat.reducePow]
  omega
section VMA
variable {K : et_K} {G G' : eg_G} {d d2 am aw e n w m q : Nat} {C N : Nat → Int32} {Kd : Nat → Nat} {l s t f x y z zz : Int32}
theorem evM.pt (h : evM G aw n w C Kd N l s t f) (hH : et_H et_TT K G) (ka : K aw = some 46) (x : xf (fun b j => b = aw ∧ j = q) G G') (hq : q = 45 + 23 * n + 20) (hw : w ≤ 6) (e : et_pl (eg_at G' aw) q = some (.int z)) : evM G' aw n w C Kd N l s z f := by
  have g : ∀ j, ¬ j = q → et_pl (eg_at G' aw) j = et_pl (eg_at G aw) j := fun j hj => x.2 aw j (hH.2.2 _ _ ka).1 (fun hs => hj hs.2)
  exact h.at (g _ (by omega)) (fun k hk => ⟨g _ (by omega), g _ (by omega)⟩) (fun k hk => (g _ (by omega)).trans (h.2.1 k hk).2.2) ((g _ (by omega)).trans h.2.2.1) ((g _ (by omega)).trans h.2.2.2.1) (by rw [← hq]; exact e) ((g _ (by omega)).trans h.2.2.2.2.2)
theorem evM.pf (h : evM G aw n w C Kd N l s t f) (hH : et_H et_TT K G) (ka : K aw = some 46) (x : xf (fun b j => b = aw ∧ j = q) G G') (hq : q = 45 + 23 * n + 21) (hw : w ≤ 6) (e : et_pl (eg_at G' aw) q = some (.int z)) : evM G' aw n w C Kd N l s t z := by
  have g : ∀ j, ¬ j = q → et_pl (eg_at G' aw) j = et_pl (eg_at G aw) j := fun j hj => x.2 aw j (hH.2.2 _ _ ka).1 (fun hs => hj hs.2)
  exact h.at (g _ (by omega)) (fun k hk => ⟨g _ (by omega), g _ (by omega)⟩) (fun k hk => (g _ (by omega)).trans (h.2.1 k hk).2.2) ((g _ (by omega)).trans h.2.2.1) ((g _ (by omega)).trans h.2.2.2.1) ((g _ (by omega)).trans h.2.2.2.2.1) (by rw [← hq]; exact e)
theorem fm_nW (hH : et_H et_TT K G) (k_am : K am = some 13) (k_aw : K aw = some 46) (m1 : et_pl (eg_at G am) 1 = some (.ref aw)) (w4 : et_pl (eg_at G aw) 4 = some (.int (Int32.ofNat e))) (he : e ≤ 3) (hn : n < e) (hw : w ≤ 6) (hv : et_pl (eg_at G aw) (45 + 23 * n) = some (.int (Int32.ofNat w))) (hd : 2 ≤ d2) : et_go none d2 228 0 (eg_en (eg_mL 228) [.ref am, .int (Int32.ofNat n), .int x]) [] G 0 0 (xp_Z G (some (.int (Int32.ofNat (if 0 ≤ x.toInt ∧ x.toInt < (w : Int) then 0 else 1))))) := by
  obtain ⟨d, rfl⟩ : ∃ d, d2 = d + 2 := ⟨d2 - 2, by omega⟩
  have hq : (Int32.ofNat w - Int32.ofNat 1).toInt = (w : Int) - 1 := by
    have h : ∀ k ∈ List.range 7, (Int32.ofNat k - Int32.ofNat 1).toInt = (k : Int) - 1 := by decide +kernel
    exact h w (List.mem_range.mpr (by omega))
  rw [show eg_mL 228 = 3 from by decide +kernel]
  show et_go none (d + 2) 228 0 [some (.ref am), some (.int (Int32.ofNat n)), some (.int x)] [] G 0 0 _
  have lt_am := (hH.2.2 _ _ k_am).1
  have lt_aw := (hH.2.2 _ _ k_aw).1
  refine hs_aload (i := 0) (p := 1) (by decide +kernel) rfl ?_
  refine hs_iload (i := 1) (p := 2) (by decide +kernel) rfl ?_
  refine ht_callv (T := et_TT) (t := 13) (mi := 208) (na := 1) (ci := 11) (lk := 3) (lm := 2) (L0 := eg_en (eg_mL 208) [.ref am, .int (Int32.ofNat n)]) (by decide +kernel) rfl hH k_am rfl rfl rfl rfl rfl (by rw [show eg_mL 208 = 2 from by decide +kernel]; first | done | rfl) ?_
  refine (fm_nEy hH k_am k_aw m1 w4 he hn (by omega)).mono (fun u hu => xp_cb hu ?_)
  show et_go none _ 228 5 _ [.int (Int32.ofNat 0)] _ _ _ _
  refine hs_if0 (c := .ne) (t := 23) (f := 8) (by decide +kernel) (show ¬ (¬ Int32.ofNat 0 = 0) by decide) ?_
  refine hs_iload (i := 2) (p := 9) (by decide +kernel) rfl ?_
  refine hs_k (x := Int32.ofNat 0) (p := 10) (by decide +kernel) ?_
  refine hs_aload (i := 0) (p := 11) (by decide +kernel) rfl ?_
  refine hs_iload (i := 1) (p := 12) (by decide +kernel) rfl ?_
  refine ht_callv (T := et_TT) (t := 13) (mi := 224) (na := 1) (ci := 11) (lk := 3) (lm := 2) (L0 := eg_en (eg_mL 224) [.ref am, .int (Int32.ofNat n)]) (by decide +kernel) rfl hH k_am rfl rfl rfl rfl rfl (by rw [show eg_mL 224 = 2 from by decide +kernel]; first | done | rfl) ?_
  refine (fn_wires hH k_am k_aw m1 (by omega) hv (by omega)).mono (fun u hu => xp_cb hu ?_)
  show et_go none _ 228 15 _ [.int (Int32.ofNat w), .int (Int32.ofNat 0), .int x] _ _ _ _
  refine hs_k (x := Int32.ofNat 1) (p := 16) (by decide +kernel) ?_
  refine hs_isub (p := 17) (by decide +kernel) ?_
  refine hs_calls (mi := 209) (na := 3) (lk := 3) (lm := 3) (L0 := eg_en (eg_mL 209) [.int x, .int (Int32.ofNat 0), .int (Int32.ofNat w - Int32.ofNat 1)]) (by decide +kernel) rfl rfl rfl rfl rfl rfl (by rw [show eg_mL 209 = 3 from by decide +kernel]; first | done | rfl) ?_
  refine fm_in.mono (fun u hu => xp_cb hu ?_)
  rw [hq]
  by_cases hxr : xr x w
  · rw [if_pos (show (Int32.ofNat 0).toInt ≤ x.toInt ∧ x.toInt ≤ (w : Int) - 1 from by rw [hs_nint (by decide)]; unfold xr at hxr; omega)]
    show et_go none _ 228 20 _ [.int (Int32.ofNat 1)] _ _ _ _
    refine hs_if1 (c := .ne) (t := 27) (f := 23) (by decide +kernel) (show ¬ Int32.ofNat 1 = 0 by decide) ?_
    refine hs_k (x := Int32.ofNat 0) (p := 28) (by decide +kernel) ?_
    refine hs_zret (by decide +kernel) (.inl rfl) ?_
    rw [if_pos (show 0 ≤ x.toInt ∧ x.toInt < (w : Int) from hxr)]
    rfl
  · rw [if_neg (show ¬ ((Int32.ofNat 0).toInt ≤ x.toInt ∧ x.toInt ≤ (w : Int) - 1) from by rw [hs_nint (by decide)]; unfold xr at hxr; omega)]
    show et_go none _ 228 20 _ [.int (Int32.ofNat 0)] _ _ _ _
    refine hs_if0 (c := .ne) (t := 27) (f := 23) (by decide +kernel) (show ¬ (¬ Int32.ofNat 0 = 0) by decide) ?_
    refine hs_k (x := Int32.ofNat 1) (p := 24) (by decide +kernel) ?_
    refine hs_goto (p := 28) (by decide +kernel) ?_
    refine hs_zret (by decide +kernel) (.inr rfl) ?_
    rw [if_neg (show ¬ (0 ≤ x.toInt ∧ x.toInt < (w : Int)) from hxr)]
    rfl
theorem fm_nWn {mi : Nat} {L : eg_Ls} (h : et_go none d2 mi 0 L [] G 0 0 (xp_Z G (some (.int (Int32.ofNat (if 0 ≤ x.toInt ∧ x.toInt < (w : Int) then 0 else 1)))))) (hx : ¬ xr x w) : et_go none d2 mi 0 L [] G 0 0 (xp_Z G (some (.int (Int32.ofNat 1)))) := by
  rw [if_neg (show ¬ (0 ≤ x.toInt ∧ x.toInt < (w : Int)) from hx)] at h
  exact h
theorem fm_knobL (hH : et_H et_TT K G) (k_am : K am = some 13) (k_aw : K aw = some 46) (m1 : et_pl (eg_at G am) 1 = some (.ref aw)) (w4 : et_pl (eg_at G aw) 4 = some (.int (Int32.ofNat e))) (he : e ≤ 3) (hn : n < e) (hw : w ≤ 6) (hkd : ∀ m, m < w → Kd m ≤ 2) (hv : evM G aw n w C Kd N l s t f) (hz : -2000 ≤ zz.toInt ∧ zz.toInt ≤ 2000) (hd : 3 ≤ d2) : et_go none d2 227 0 (eg_en (eg_mL 227) [.ref am, .int (Int32.ofNat n), .int (-1), .int zz]) [] G 0 0 (fun u => u.1 = .inl (some (.int (Int32.ofNat (if l = zz then 0 else 1)))) ∧ et_pl (eg_at u.2.1 am) 0 = some (.int (Int32.ofNat 0)) ∧ owt aw n G u.2.1 ∧ evM u.2.1 aw n w C Kd N zz s t f) := by
  obtain ⟨d, rfl⟩ : ∃ d, d2 = d + 3 := ⟨d2 - 3, by omega⟩
  have ho : owt aw n G G := owt.rf
  rw [show eg_mL 227 = 6 from by decide +kernel]
  show et_go none (d + 3) 227 0 [some (.ref am), some (.int (Int32.ofNat n)), some (.int (-1)), some (.int zz), none, none] [] G 0 0 _
  have lt_am := (hH.2.2 _ _ k_am).1
  have lt_aw := (hH.2.2 _ _ k_aw).1
  refine hs_aload (i := 0) (p := 1) (by decide +kernel) rfl ?_
  refine hs_k (x := Int32.ofNat 0) (p := 2) (by decide +kernel) ?_
  have hHo := hH
  refine hf_put (T := et_TT) (t := 13) (ci := 11) (f := 0) (p := 5) (ty := .int) (by decide +kernel) rfl rfl rfl rfl rfl hH k_am hi_any (fun G2 hH x2 e2 => ?_)
  have hv := hv.xs hHo k_aw x2 (fun j h => hi_ne k_aw k_am (by decide) h.1) hw
  have ho := ho.xs hHo k_aw x2 (fun j h => hi_ne k_aw k_am (by decide) h.1)
  have m1 := (x2.2 am 1 lt_am (fun h => absurd h.2 (by decide))).trans m1
  have w4 := (x2.2 aw 4 lt_aw (fun h => (hi_ne k_aw k_am (by decide)) h.1)).trans w4
  have lt_am := Nat.lt_of_lt_of_le lt_am x2.1
  have lt_aw := Nat.lt_of_lt_of_le lt_aw x2.1
  refine hs_aload (i := 0) (p := 6) (by decide +kernel) rfl ?_
  refine hs_aload (i := 0) (p := 7) (by decide +kernel) rfl ?_
  refine hs_iload (i := 1) (p := 8) (by decide +kernel) rfl ?_
  refine ht_callv (T := et_TT) (t := 13) (mi := 208) (na := 1) (ci := 11) (lk := 6) (lm := 2) (L0 := eg_en (eg_mL 208) [.ref am, .int (Int32.ofNat n)]) (by decide +kernel) rfl hH k_am rfl rfl rfl rfl rfl (by rw [show eg_mL 208 = 2 from by decide +kernel]; first | done | rfl) ?_
  refine (fm_nEy hH k_am k_aw m1 w4 he hn (by omega)).mono (fun u hu => xp_cb hu ?_)
  show et_go none _ 227 11 _ [.int (Int32.ofNat 0), .ref am] _ _ _ _
  refine hs_if0 (c := .ne) (t := 28) (f := 14) (by decide +kernel) (show ¬ (¬ Int32.ofNat 0 = 0) by decide) ?_
  refine hs_iload (i := 2) (p := 15) (by decide +kernel) rfl ?_
  refine hs_k (x := (-1)) (p := 16) (by decide +kernel) ?_
  refine hs_br2 (c := .eq) (t := 32) (f := 19) (by decide +kernel) (fun _ => ?_) (fun hz => absurd rfl hz)
  refine hs_k (x := Int32.ofNat 0) (p := 33) (by decide +kernel) ?_
  refine hs_k (x := Int32.ofNat 1) (p := 34) (by decide +kernel) ?_
  refine ht_callv (T := et_TT) (t := 13) (mi := 204) (na := 2) (ci := 11) (lk := 6) (lm := 3) (L0 := eg_en (eg_mL 204) [.ref am, .int (Int32.ofNat 0), .int (Int32.ofNat 1)]) (by decide +kernel) rfl hH k_am rfl rfl rfl rfl rfl (by rw [show eg_mL 204 = 3 from by decide +kernel]; first | done | rfl) ?_
  refine (fm_t0 hH k_am).mono (fun u hu => xp_cb hu ?_)
  show et_go none _ 227 37 _ [.int (Int32.ofNat 0)] _ _ _ _
  refine hs_if1 (c := .eq) (t := 42) (f := 40) (by decide +kernel) (show Int32.ofNat 0 = 0 by decide) ?_
  refine hs_iload (i := 2) (p := 43) (by decide +kernel) rfl ?_
  refine hs_k (x := (-1)) (p := 44) (by decide +kernel) ?_
  refine hs_br2 (c := .ne) (t := 53) (f := 47) (by decide +kernel) (fun hz => absurd rfl hz) (fun _ => ?_)
  refine hs_k (x := Int32.ofNat 2000) (p := 50) (by decide +kernel) ?_
  refine hs_goto (p := 56) (by decide +kernel) ?_
  refine hs_istore (i := 4) (p := 58) (by decide +kernel) (Nat.le_of_ble_eq_true rfl) ?_
  refine hs_aload (i := 0) (p := 59) (by decide +kernel) rfl ?_
  refine hs_iload (i := 3) (p := 60) (by decide +kernel) rfl ?_
  refine hs_iload (i := 4) (p := 62) (by decide +kernel) rfl ?_
  refine hs_st (ins := .ineg) (len := 1) (p := 63) (by decide +kernel) rfl rfl ?_
  refine hs_iload (i := 4) (p := 65) (by decide +kernel) rfl ?_
  refine hs_calls (mi := 209) (na := 3) (lk := 6) (lm := 3) (L0 := eg_en (eg_mL 209) [.int zz, .int (-(Int32.ofNat 2000)), .int (Int32.ofNat 2000)]) (by decide +kernel) rfl rfl rfl rfl rfl rfl (by rw [show eg_mL 209 = 3 from by decide +kernel]; first | done | rfl) ?_
  refine (fm_in (x := zz) (y := (-(Int32.ofNat 2000))) (z := (Int32.ofNat 2000))).mono (fun u hu => xp_cb hu ?_)
  by_cases xz : (-(Int32.ofNat 2000)).toInt ≤ zz.toInt ∧ zz.toInt ≤ (Int32.ofNat 2000).toInt
  · rw [if_pos xz]
    show et_go none _ 227 68 _ [.int (Int32.ofNat 1), .ref am] _ _ _ _
    refine hs_if1 (c := .ne) (t := 75) (f := 71) (by decide +kernel) (show ¬ Int32.ofNat 1 = 0 by decide) ?_
    refine hs_k (x := Int32.ofNat 0) (p := 76) (by decide +kernel) ?_
    refine hs_k (x := Int32.ofNat 2) (p := 77) (by decide +kernel) ?_
    refine ht_callv (T := et_TT) (t := 13) (mi := 204) (na := 2) (ci := 11) (lk := 6) (lm := 3) (L0 := eg_en (eg_mL 204) [.ref am, .int (Int32.ofNat 0), .int (Int32.ofNat 2)]) (by decide +kernel) rfl hH k_am rfl rfl rfl rfl rfl (by rw [show eg_mL 204 = 3 from by decide +kernel]; first | done | rfl) ?_
    refine (fm_t0 hH k_am).mono (fun u hu => xp_cb hu ?_)
    show et_go none _ 227 80 _ [.int (Int32.ofNat 0)] _ _ _ _
    refine hs_if1 (c := .eq) (t := 85) (f := 83) (by decide +kernel) (show Int32.ofNat 0 = 0 by decide) ?_
    refine hs_iload (i := 2) (p := 86) (by decide +kernel) rfl ?_
    refine hs_k (x := (-1)) (p := 87) (by decide +kernel) ?_
    refine hs_br2 (c := .ne) (t := 103) (f := 90) (by decide +kernel) (fun hz => absurd rfl hz) (fun _ => ?_)
    refine hs_k (x := Int32.ofNat 45) (p := 92) (by decide +kernel) ?_
    refine hs_k (x := Int32.ofNat 23) (p := 94) (by decide +kernel) ?_
    refine hs_iload (i := 1) (p := 95) (by decide +kernel) rfl ?_
    refine hs_imuln (p := 96) (by decide +kernel) ?_
    refine hs_iaddn (p := 97) (by decide +kernel) ?_
    refine hs_k (x := Int32.ofNat 19) (p := 99) (by decide +kernel) ?_
    refine hs_iaddn (p := 100) (by decide +kernel) ?_
    refine hs_goto (p := 109) (by decide +kernel) ?_
    refine hs_istore (i := 5) (p := 111) (by decide +kernel) (Nat.le_of_ble_eq_true rfl) ?_
    refine hs_aload (i := 0) (p := 112) (by decide +kernel) rfl ?_
    refine hf_get (T := et_TT) (t := 13) (ci := 11) (f := 1) (p := 115) (by decide +kernel) rfl hH k_am m1 ?_
    refine hs_iload (i := 5) (p := 117) (by decide +kernel) rfl ?_
    refine hf_ald (ins := .iaload) (T := et_TT) (t := 46) (kd := 0) (N := 12741) (p := 118) (by decide +kernel) (fun _ _ _ _ _ _ _ _ _ _ => rfl) rfl rfl rfl hH k_aw (by decide) hv.2.2.1 ?_
    refine hs_iload (i := 3) (p := 119) (by decide +kernel) rfl ?_
    refine hs_br2 (c := .ne) (t := 124) (f := 122) (by decide +kernel) (fun (c119 : ¬ l = zz) => ?_) (fun (c119 : ¬ (¬ l = zz)) => ?_)
    · refine hs_aload (i := 0) (p := 125) (by decide +kernel) rfl ?_
      refine hf_get (T := et_TT) (t := 13) (ci := 11) (f := 1) (p := 128) (by decide +kernel) rfl hH k_am m1 ?_
      refine hs_iload (i := 5) (p := 130) (by decide +kernel) rfl ?_
      refine hs_iload (i := 3) (p := 131) (by decide +kernel) rfl ?_
      have hHo := hH
      refine hf_wst (p := 132) (by decide +kernel) hH k_aw (by omega) (wx_ok (e := n) (k := 19) (by omega) (by decide) (fun h => absurd h (by decide))) (fun G131 hH x131 e131 => ?_)
      have hv := hv.pl hHo k_aw x131 (by omega) hw e131
      have ho := ho.w hHo k_aw x131 (by omega)
      have m1 := (x131.2 am 1 lt_am (fun h => (hi_ne k_am k_aw (by decide)) h.1)).trans m1
      have e2 := (x131.2 am 0 lt_am (fun h => (hi_ne k_am k_aw (by decide)) h.1)).trans e2
      have lt_am := Nat.lt_of_lt_of_le lt_am x131.1
      have lt_aw := Nat.lt_of_lt_of_le lt_aw x131.1
      refine hs_k (x := Int32.ofNat 1) (p := 133) (by decide +kernel) ?_
      refine hs_zret (by decide +kernel) (.inr rfl) ?_
      exact ⟨by rw [if_neg c119], e2, ho, hv⟩
    · refine hs_k (x := Int32.ofNat 0) (p := 123) (by decide +kernel) ?_
      refine hs_zret (by decide +kernel) (.inl rfl) ?_
      have c119 := Decidable.of_not_not c119
      exact ⟨by rw [if_pos c119], e2, ho, by rw [← c119]; exact hv⟩
  · exact absurd ⟨by rw [xi_neg (by decide)]; omega, by rw [hs_nint (by decide)]; omega⟩ xz
theorem fm_knobLr (hH : et_H et_TT K G) (k_am : K am = some 13) (k_aw : K aw = some 46) (m1 : et_pl (eg_at G am) 1 = some (.ref aw)) (w4 : et_pl (eg_at G aw) 4 = some (.int (Int32.ofNat e))) (he : e ≤ 3) (hn : n < e) (hw : w ≤ 6) (hkd : ∀ m, m < w → Kd m ≤ 2) (hv : evM G aw n w C Kd N l s t f) (hz : ¬ (-2000 ≤ zz.toInt ∧ zz.toInt ≤ 2000)) (hd : 3 ≤ d2) : et_go none d2 227 0 (eg_en (eg_mL 227) [.ref am, .int (Int32.ofNat n), .int (-1), .int zz]) [] G 0 0 (fun u => u.1 = .inl (some (.int (Int32.ofNat 0))) ∧ et_pl (eg_at u.2.1 am) 0 = some (.int (Int32.ofNat 2)) ∧ ∀ j, et_pl (eg_at u.2.1 aw) j = et_pl (eg_at G aw) j) := by
  obtain ⟨d, rfl⟩ : ∃ d, d2 = d + 3 := ⟨d2 - 3, by omega⟩
  have hw9 : ∀ j, et_pl (eg_at G aw) j = et_pl (eg_at G aw) j := fun _ => rfl
  have ho : owt aw n G G := owt.rf
  rw [show eg_mL 227 = 6 from by decide +kernel]
  show et_go none (d + 3) 227 0 [some (.ref am), some (.int (Int32.ofNat n)), some (.int (-1)), some (.int zz), none, none] [] G 0 0 _
  have lt_am := (hH.2.2 _ _ k_am).1
  have lt_aw := (hH.2.2 _ _ k_aw).1
  refine hs_aload (i := 0) (p := 1) (by decide +kernel) rfl ?_
  refine hs_k (x := Int32.ofNat 0) (p := 2) (by decide +kernel) ?_
  have hHo := hH
  refine hf_put (T := et_TT) (t := 13) (ci := 11) (f := 0) (p := 5) (ty := .int) (by decide +kernel) rfl rfl rfl rfl rfl hH k_am hi_any (fun G2 hH x2 e2 => ?_)
  have hw9 : ∀ j, et_pl (eg_at G2 aw) j = et_pl (eg_at G aw) j := fun j => (x2.2 aw j lt_aw (fun h => hi_ne k_aw k_am (by decide) h.1)).trans (hw9 j)
  have hv := hv.xs hHo k_aw x2 (fun j h => hi_ne k_aw k_am (by decide) h.1) hw
  have ho := ho.xs hHo k_aw x2 (fun j h => hi_ne k_aw k_am (by decide) h.1)
  have m1 := (x2.2 am 1 lt_am (fun h => absurd h.2 (by decide))).trans m1
  have w4 := (x2.2 aw 4 lt_aw (fun h => (hi_ne k_aw k_am (by decide)) h.1)).trans w4
  have lt_am := Nat.lt_of_lt_of_le lt_am x2.1
  have lt_aw := Nat.lt_of_lt_of_le lt_aw x2.1
  refine hs_aload (i := 0) (p := 6) (by decide +kernel) rfl ?_
  refine hs_aload (i := 0) (p := 7) (by decide +kernel) rfl ?_
  refine hs_iload (i := 1) (p := 8) (by decide +kernel) rfl ?_
  refine ht_callv (T := et_TT) (t := 13) (mi := 208) (na := 1) (ci := 11) (lk := 6) (lm := 2) (L0 := eg_en (eg_mL 208) [.ref am, .int (Int32.ofNat n)]) (by decide +kernel) rfl hH k_am rfl rfl rfl rfl rfl (by rw [show eg_mL 208 = 2 from by decide +kernel]; first | done | rfl) ?_
  refine (fm_nEy hH k_am k_aw m1 w4 he hn (by omega)).mono (fun u hu => xp_cb hu ?_)
  show et_go none _ 227 11 _ [.int (Int32.ofNat 0), .ref am] _ _ _ _
  refine hs_if0 (c := .ne) (t := 28) (f := 14) (by decide +kernel) (show ¬ (¬ Int32.ofNat 0 = 0) by decide) ?_
  refine hs_iload (i := 2) (p := 15) (by decide +kernel) rfl ?_
  refine hs_k (x := (-1)) (p := 16) (by decide +kernel) ?_
  refine hs_br2 (c := .eq) (t := 32) (f := 19) (by decide +kernel) (fun _ => ?_) (fun hz => absurd rfl hz)
  refine hs_k (x := Int32.ofNat 0) (p := 33) (by decide +kernel) ?_
  refine hs_k (x := Int32.ofNat 1) (p := 34) (by decide +kernel) ?_
  refine ht_callv (T := et_TT) (t := 13) (mi := 204) (na := 2) (ci := 11) (lk := 6) (lm := 3) (L0 := eg_en (eg_mL 204) [.ref am, .int (Int32.ofNat 0), .int (Int32.ofNat 1)]) (by decide +kernel) rfl hH k_am rfl rfl rfl rfl rfl (by rw [show eg_mL 204 = 3 from by decide +kernel]; first | done | rfl) ?_
  refine (fm_t0 hH k_am).mono (fun u hu => xp_cb hu ?_)
  show et_go none _ 227 37 _ [.int (Int32.ofNat 0)] _ _ _ _
  refine hs_if1 (c := .eq) (t := 42) (f := 40) (by decide +kernel) (show Int32.ofNat 0 = 0 by decide) ?_
  refine hs_iload (i := 2) (p := 43) (by decide +kernel) rfl ?_
  refine hs_k (x := (-1)) (p := 44) (by decide +kernel) ?_
  refine hs_br2 (c := .ne) (t := 53) (f := 47) (by decide +kernel) (fun hz => absurd rfl hz) (fun _ => ?_)
  refine hs_k (x := Int32.ofNat 2000) (p := 50) (by decide +kernel) ?_
  refine hs_goto (p := 56) (by decide +kernel) ?_
  refine hs_istore (i := 4) (p := 58) (by decide +kernel) (Nat.le_of_ble_eq_true rfl) ?_
  refine hs_aload (i := 0) (p := 59) (by decide +kernel) rfl ?_
  refine hs_iload (i := 3) (p := 60) (by decide +kernel) rfl ?_
  refine hs_iload (i := 4) (p := 62) (by decide +kernel) rfl ?_
  refine hs_st (ins := .ineg) (len := 1) (p := 63) (by decide +kernel) rfl rfl ?_
  refine hs_iload (i := 4) (p := 65) (by decide +kernel) rfl ?_
  refine hs_calls (mi := 209) (na := 3) (lk := 6) (lm := 3) (L0 := eg_en (eg_mL 209) [.int zz, .int (-(Int32.ofNat 2000)), .int (Int32.ofNat 2000)]) (by decide +kernel) rfl rfl rfl rfl rfl rfl (by rw [show eg_mL 209 = 3 from by decide +kernel]; first | done | rfl) ?_
  refine (fm_in (x := zz) (y := (-(Int32.ofNat 2000))) (z := (Int32.ofNat 2000))).mono (fun u hu => xp_cb hu ?_)
  by_cases xz : (-(Int32.ofNat 2000)).toInt ≤ zz.toInt ∧ zz.toInt ≤ (Int32.ofNat 2000).toInt
  · exact absurd ⟨by have h := xz.1; rw [xi_neg (by decide)] at h; omega, by have h := xz.2; rw [hs_nint (by decide)] at h; omega⟩ hz
  · rw [if_neg xz]
    show et_go none _ 227 68 _ [.int (Int32.ofNat 0), .ref am] _ _ _ _
    refine hs_if0 (c := .ne) (t := 75) (f := 71) (by decide +kernel) (show ¬ (¬ Int32.ofNat 0 = 0) by decide) ?_
    refine hs_k (x := Int32.ofNat 1) (p := 72) (by decide +kernel) ?_
    refine hs_goto (p := 76) (by decide +kernel) ?_
    refine hs_k (x := Int32.ofNat 2) (p := 77) (by decide +kernel) ?_
    have hHo := hH
    refine ht_callv (T := et_TT) (t := 13) (mi := 204) (na := 2) (ci := 11) (lk := 6) (lm := 3) (L0 := eg_en (eg_mL 204) [.ref am, .int (Int32.ofNat 1), .int (Int32.ofNat 2)]) (by decide +kernel) rfl hH k_am rfl rfl rfl rfl rfl (by rw [show eg_mL 204 = 3 from by decide +kernel]; first | done | rfl) ?_
    refine (fm_t1 hH k_am).mono (fun u hu => xw_cb hu (fun G77 v77 hH x77 hP77 => ?_))
    have hw9 : ∀ j, et_pl (eg_at G77 aw) j = et_pl (eg_at G aw) j := fun j => (x77.2 aw j lt_aw (fun h => hi_ne k_aw k_am (by decide) h.1)).trans (hw9 j)
    have hv := hv.xs hHo k_aw x77 (fun j h => hi_ne k_aw k_am (by decide) h.1) hw
    have ho := ho.xs hHo k_aw x77 (fun j h => hi_ne k_aw k_am (by decide) h.1)
    have m1 := (x77.2 am 1 lt_am (fun h => absurd h.2 (by decide))).trans m1
    have w4 := (x77.2 aw 4 lt_aw (fun h => (hi_ne k_aw k_am (by decide)) h.1)).trans w4
    have lt_am := Nat.lt_of_lt_of_le lt_am x77.1
    have lt_aw := Nat.lt_of_lt_of_le lt_aw x77.1
    obtain ⟨rfl, th77⟩ := hP77
    show et_go none _ 227 80 _ [.int (Int32.ofNat 1)] _ _ _ _
    refine hs_if0 (c := .eq) (t := 85) (f := 83) (by decide +kernel) (show ¬ (Int32.ofNat 1 = 0) by decide) ?_
    refine hs_k (x := Int32.ofNat 0) (p := 84) (by decide +kernel) ?_
    refine hs_zret (by decide +kernel) (.inl rfl) ?_
    exact ⟨rfl, th77, hw9⟩
theorem fm_knobK (hH : et_H et_TT K G) (k_am : K am = some 13) (k_aw : K aw = some 46) (m1 : et_pl (eg_at G am) 1 = some (.ref aw)) (w4 : et_pl (eg_at G aw) 4 = some (.int (Int32.ofNat e))) (he : e ≤ 3) (hn : n < e) (hw : w ≤ 6) (hkd : ∀ m, m < w → Kd m ≤ 2) (hv : evM G aw n w C Kd N l s t f) (hm : m < w) (hz : -200 ≤ zz.toInt ∧ zz.toInt ≤ 200) (hd : 3 ≤ d2) : et_go none d2 227 0 (eg_en (eg_mL 227) [.ref am, .int (Int32.ofNat n), .int (Int32.ofNat m), .int zz]) [] G 0 0 (fun u => u.1 = .inl (some (.int (Int32.ofNat (if N m = zz then 0 else 1)))) ∧ et_pl (eg_at u.2.1 am) 0 = some (.int (Int32.ofNat 0)) ∧ owt aw n G u.2.1 ∧ evM u.2.1 aw n w C Kd (kup N m zz) l s t f) := by
  obtain ⟨d, rfl⟩ : ∃ d, d2 = d + 3 := ⟨d2 - 3, by omega⟩
  have ho : owt aw n G G := owt.rf
  rw [show eg_mL 227 = 6 from by decide +kernel]
  show et_go none (d + 3) 227 0 [some (.ref am), some (.int (Int32.ofNat n)), some (.int (Int32.ofNat m)), some (.int zz), none, none] [] G 0 0 _
  have lt_am := (hH.2.2 _ _ k_am).1
  have lt_aw := (hH.2.2 _ _ k_aw).1
  refine hs_aload (i := 0) (p := 1) (by decide +kernel) rfl ?_
  refine hs_k (x := Int32.ofNat 0) (p := 2) (by decide +kernel) ?_
  have hHo := hH
  refine hf_put (T := et_TT) (t := 13) (ci := 11) (f := 0) (p := 5) (ty := .int) (by decide +kernel) rfl rfl rfl rfl rfl hH k_am hi_any (fun G2 hH x2 e2 => ?_)
  have hv := hv.xs hHo k_aw x2 (fun j h => hi_ne k_aw k_am (by decide) h.1) hw
  have ho := ho.xs hHo k_aw x2 (fun j h => hi_ne k_aw k_am (by decide) h.1)
  have m1 := (x2.2 am 1 lt_am (fun h => absurd h.2 (by decide))).trans m1
  have w4 := (x2.2 aw 4 lt_aw (fun h => (hi_ne k_aw k_am (by decide)) h.1)).trans w4
  have lt_am := Nat.lt_of_lt_of_le lt_am x2.1
  have lt_aw := Nat.lt_of_lt_of_le lt_aw x2.1
  refine hs_aload (i := 0) (p := 6) (by decide +kernel) rfl ?_
  refine hs_aload (i := 0) (p := 7) (by decide +kernel) rfl ?_
  refine hs_iload (i := 1) (p := 8) (by decide +kernel) rfl ?_
  refine ht_callv (T := et_TT) (t := 13) (mi := 208) (na := 1) (ci := 11) (lk := 6) (lm := 2) (L0 := eg_en (eg_mL 208) [.ref am, .int (Int32.ofNat n)]) (by decide +kernel) rfl hH k_am rfl rfl rfl rfl rfl (by rw [show eg_mL 208 = 2 from by decide +kernel]; first | done | rfl) ?_
  refine (fm_nEy hH k_am k_aw m1 w4 he hn (by omega)).mono (fun u hu => xp_cb hu ?_)
  show et_go none _ 227 11 _ [.int (Int32.ofNat 0), .ref am] _ _ _ _
  refine hs_if0 (c := .ne) (t := 28) (f := 14) (by decide +kernel) (show ¬ (¬ Int32.ofNat 0 = 0) by decide) ?_
  refine hs_iload (i := 2) (p := 15) (by decide +kernel) rfl ?_
  refine hs_k (x := (-1)) (p := 16) (by decide +kernel) ?_
  refine hs_br2 (c := .eq) (t := 32) (f := 19) (by decide +kernel) (fun hz => absurd hz (xi_nm1 (by omega))) (fun _ => ?_)
  refine hs_aload (i := 0) (p := 20) (by decide +kernel) rfl ?_
  refine hs_iload (i := 1) (p := 21) (by decide +kernel) rfl ?_
  refine hs_iload (i := 2) (p := 22) (by decide +kernel) rfl ?_
  refine ht_callv (T := et_TT) (t := 13) (mi := 228) (na := 2) (ci := 11) (lk := 6) (lm := 3) (L0 := eg_en (eg_mL 228) [.ref am, .int (Int32.ofNat n), .int (Int32.ofNat m)]) (by decide +kernel) rfl hH k_am rfl rfl rfl rfl rfl (by rw [show eg_mL 228 = 3 from by decide +kernel]; first | done | rfl) ?_
  refine (fm_yes0 (fm_nW (x := Int32.ofNat m) hH k_am k_aw m1 w4 he hn hw hv.1 (by omega)) hm (by omega)).mono (fun u hu => xp_cb hu ?_)
  show et_go none _ 227 25 _ [.int (Int32.ofNat 0), .ref am] _ _ _ _
  refine hs_if1 (c := .eq) (t := 32) (f := 28) (by decide +kernel) (show Int32.ofNat 0 = 0 by decide) ?_
  refine hs_k (x := Int32.ofNat 0) (p := 33) (by decide +kernel) ?_
  refine hs_k (x := Int32.ofNat 1) (p := 34) (by decide +kernel) ?_
  refine ht_callv (T := et_TT) (t := 13) (mi := 204) (na := 2) (ci := 11) (lk := 6) (lm := 3) (L0 := eg_en (eg_mL 204) [.ref am, .int (Int32.ofNat 0), .int (Int32.ofNat 1)]) (by decide +kernel) rfl hH k_am rfl rfl rfl rfl rfl (by rw [show eg_mL 204 = 3 from by decide +kernel]; first | done | rfl) ?_
  refine (fm_t0 hH k_am).mono (fun u hu => xp_cb hu ?_)
  show et_go none _ 227 37 _ [.int (Int32.ofNat 0)] _ _ _ _
  refine hs_if1 (c := .eq) (t := 42) (f := 40) (by decide +kernel) (show Int32.ofNat 0 = 0 by decide) ?_
  refine hs_iload (i := 2) (p := 43) (by decide +kernel) rfl ?_
  refine hs_k (x := (-1)) (p := 44) (by decide +kernel) ?_
  refine hs_br2 (c := .ne) (t := 53) (f := 47) (by decide +kernel) (fun _ => ?_) (fun hz => absurd (show ¬ ((Int32.ofNat m : Int32) = (-1)) from xi_nm1 (by omega)) hz)
  refine hs_k (x := Int32.ofNat 200) (p := 56) (by decide +kernel) ?_
  refine hs_istore (i := 4) (p := 58) (by decide +kernel) (Nat.le_of_ble_eq_true rfl) ?_
  refine hs_aload (i := 0) (p := 59) (by decide +kernel) rfl ?_
  refine hs_iload (i := 3) (p := 60) (by decide +kernel) rfl ?_
  refine hs_iload (i := 4) (p := 62) (by decide +kernel) rfl ?_
  refine hs_st (ins := .ineg) (len := 1) (p := 63) (by decide +kernel) rfl rfl ?_
  refine hs_iload (i := 4) (p := 65) (by decide +kernel) rfl ?_
  refine hs_calls (mi := 209) (na := 3) (lk := 6) (lm := 3) (L0 := eg_en (eg_mL 209) [.int zz, .int (-(Int32.ofNat 200)), .int (Int32.ofNat 200)]) (by decide +kernel) rfl rfl rfl rfl rfl rfl (by rw [show eg_mL 209 = 3 from by decide +kernel]; first | done | rfl) ?_
  refine (fm_in (x := zz) (y := (-(Int32.ofNat 200))) (z := (Int32.ofNat 200))).mono (fun u hu => xp_cb hu ?_)
  by_cases xz : (-(Int32.ofNat 200)).toInt ≤ zz.toInt ∧ zz.toInt ≤ (Int32.ofNat 200).toInt
  · rw [if_pos xz]
    show et_go none _ 227 68 _ [.int (Int32.ofNat 1), .ref am] _ _ _ _
    refine hs_if1 (c := .ne) (t := 75) (f := 71) (by decide +kernel) (show ¬ Int32.ofNat 1 = 0 by decide) ?_
    refine hs_k (x := Int32.ofNat 0) (p := 76) (by decide +kernel) ?_
    refine hs_k (x := Int32.ofNat 2) (p := 77) (by decide +kernel) ?_
    refine ht_callv (T := et_TT) (t := 13) (mi := 204) (na := 2) (ci := 11) (lk := 6) (lm := 3) (L0 := eg_en (eg_mL 204) [.ref am, .int (Int32.ofNat 0), .int (Int32.ofNat 2)]) (by decide +kernel) rfl hH k_am rfl rfl rfl rfl rfl (by rw [show eg_mL 204 = 3 from by decide +kernel]; first | done | rfl) ?_
    refine (fm_t0 hH k_am).mono (fun u hu => xp_cb hu ?_)
    show et_go none _ 227 80 _ [.int (Int32.ofNat 0)] _ _ _ _
    refine hs_if1 (c := .eq) (t := 85) (f := 83) (by decide +kernel) (show Int32.ofNat 0 = 0 by decide) ?_
    refine hs_iload (i := 2) (p := 86) (by decide +kernel) rfl ?_
    refine hs_k (x := (-1)) (p := 87) (by decide +kernel) ?_
    refine hs_br2 (c := .ne) (t := 103) (f := 90) (by decide +kernel) (fun _ => ?_) (fun hz => absurd (show ¬ ((Int32.ofNat m : Int32) = (-1)) from xi_nm1 (by omega)) hz)
    refine hs_iload (i := 1) (p := 104) (by decide +kernel) rfl ?_
    refine hs_iload (i := 2) (p := 105) (by decide +kernel) rfl ?_
    refine hs_k (x := Int32.ofNat 2) (p := 106) (by decide +kernel) ?_
    refine hs_calls (mi := 226) (na := 3) (lk := 6) (lm := 3) (L0 := eg_en (eg_mL 226) [.int (Int32.ofNat n), .int (Int32.ofNat m), .int (Int32.ofNat 2)]) (by decide +kernel) rfl rfl rfl rfl rfl rfl (by rw [show eg_mL 226 = 3 from by decide +kernel]; first | done | rfl) ?_
    refine (fn_wireAt).mono (fun u hu => xp_cb hu ?_)
    show et_go none _ 227 109 _ [.int (Int32.ofNat (45 + 23 * n + (1 + 3 * m + 2)))] _ _ _ _
    refine hs_istore (i := 5) (p := 111) (by decide +kernel) (Nat.le_of_ble_eq_true rfl) ?_
    refine hs_aload (i := 0) (p := 112) (by decide +kernel) rfl ?_
    refine hf_get (T := et_TT) (t := 13) (ci := 11) (f := 1) (p := 115) (by decide +kernel) rfl hH k_am m1 ?_
    refine hs_iload (i := 5) (p := 117) (by decide +kernel) rfl ?_
    refine hf_ald (ins := .iaload) (T := et_TT) (t := 46) (kd := 0) (N := 12741) (p := 118) (by decide +kernel) (fun _ _ _ _ _ _ _ _ _ _ => rfl) rfl rfl rfl hH k_aw (by decide) (hv.2.1 m (by omega)).2.2 ?_
    refine hs_iload (i := 3) (p := 119) (by decide +kernel) rfl ?_
    refine hs_br2 (c := .ne) (t := 124) (f := 122) (by decide +kernel) (fun (c119 : ¬ (N m) = zz) => ?_) (fun (c119 : ¬ (¬ (N m) = zz)) => ?_)
    · refine hs_aload (i := 0) (p := 125) (by decide +kernel) rfl ?_
      refine hf_get (T := et_TT) (t := 13) (ci := 11) (f := 1) (p := 128) (by decide +kernel) rfl hH k_am m1 ?_
      refine hs_iload (i := 5) (p := 130) (by decide +kernel) rfl ?_
      refine hs_iload (i := 3) (p := 131) (by decide +kernel) rfl ?_
      have hHo := hH
      refine hf_wst (p := 132) (by decide +kernel) hH k_aw (by omega) (wx_ok (e := n) (k := 1 + 3 * m + 2) (by omega) (by omega) (fun h => absurd h (by omega))) (fun G131 hH x131 e131 => ?_)
      have hv := hv.kp (m := m) hHo k_aw x131 (by omega) (by omega) e131
      have ho := ho.w hHo k_aw x131 (by omega)
      have m1 := (x131.2 am 1 lt_am (fun h => (hi_ne k_am k_aw (by decide)) h.1)).trans m1
      have e2 := (x131.2 am 0 lt_am (fun h => (hi_ne k_am k_aw (by decide)) h.1)).trans e2
      have lt_am := Nat.lt_of_lt_of_le lt_am x131.1
      have lt_aw := Nat.lt_of_lt_of_le lt_aw x131.1
      refine hs_k (x := Int32.ofNat 1) (p := 133) (by decide +kernel) ?_
      refine hs_zret (by decide +kernel) (.inr rfl) ?_
      exact ⟨by rw [if_neg c119], e2, ho, hv⟩
    · refine hs_k (x := Int32.ofNat 0) (p := 123) (by decide +kernel) ?_
      refine hs_zret (by decide +kernel) (.inl rfl) ?_
      have c119 := Decidable.of_not_not c119
      exact ⟨by rw [if_pos c119], e2, ho, hv.co (fun k _ => by unfold kup; split; rename_i ek; rw [ek, c119]; rfl)⟩
  · exact absurd ⟨by rw [xi_neg (by decide)]; omega, by rw [hs_nint (by decide)]; omega⟩ xz
theorem fm_knobKr (hH : et_H et_TT K G) (k_am : K am = some 13) (k_aw : K aw = some 46) (m1 : et_pl (eg_at G am) 1 = some (.ref aw)) (w4 : et_pl (eg_at G aw) 4 = some (.int (Int32.ofNat e))) (he : e ≤ 3) (hn : n < e) (hw : w ≤ 6) (hkd : ∀ m, m < w → Kd m ≤ 2) (hv : evM G aw n w C Kd N l s t f) (hm : m < w) (hz : ¬ (-200 ≤ zz.toInt ∧ zz.toInt ≤ 200)) (hd : 3 ≤ d2) : et_go none d2 227 0 (eg_en (eg_mL 227) [.ref am, .int (Int32.ofNat n), .int (Int32.ofNat m), .int zz]) [] G 0 0 (fun u => u.1 = .inl (some (.int (Int32.ofNat 0))) ∧ et_pl (eg_at u.2.1 am) 0 = some (.int (Int32.ofNat 2)) ∧ ∀ j, et_pl (eg_at u.2.1 aw) j = et_pl (eg_at G aw) j) := by
  obtain ⟨d, rfl⟩ : ∃ d, d2 = d + 3 := ⟨d2 - 3, by omega⟩
  have hw9 : ∀ j, et_pl (eg_at G aw) j = et_pl (eg_at G aw) j := fun _ => rfl
  have ho : owt aw n G G := owt.rf
  rw [show eg_mL 227 = 6 from by decide +kernel]
  show et_go none (d + 3) 227 0 [some (.ref am), some (.int (Int32.ofNat n)), some (.int (Int32.ofNat m)), some (.int zz), none, none] [] G 0 0 _
  have lt_am := (hH.2.2 _ _ k_am).1
  have lt_aw := (hH.2.2 _ _ k_aw).1
  refine hs_aload (i := 0) (p := 1) (by decide +kernel) rfl ?_
  refine hs_k (x := Int32.ofNat 0) (p := 2) (by decide +kernel) ?_
  have hHo := hH
  refine hf_put (T := et_TT) (t := 13) (ci := 11) (f := 0) (p := 5) (ty := .int) (by decide +kernel) rfl rfl rfl rfl rfl hH k_am hi_any (fun G2 hH x2 e2 => ?_)
  have hw9 : ∀ j, et_pl (eg_at G2 aw) j = et_pl (eg_at G aw) j := fun j => (x2.2 aw j lt_aw (fun h => hi_ne k_aw k_am (by decide) h.1)).trans (hw9 j)
  have hv := hv.xs hHo k_aw x2 (fun j h => hi_ne k_aw k_am (by decide) h.1) hw
  have ho := ho.xs hHo k_aw x2 (fun j h => hi_ne k_aw k_am (by decide) h.1)
  have m1 := (x2.2 am 1 lt_am (fun h => absurd h.2 (by decide))).trans m1
  have w4 := (x2.2 aw 4 lt_aw (fun h => (hi_ne k_aw k_am (by decide)) h.1)).trans w4
  have lt_am := Nat.lt_of_lt_of_le lt_am x2.1
  have lt_aw := Nat.lt_of_lt_of_le lt_aw x2.1
  refine hs_aload (i := 0) (p := 6) (by decide +kernel) rfl ?_
  refine hs_aload (i := 0) (p := 7) (by decide +kernel) rfl ?_
  refine hs_iload (i := 1) (p := 8) (by decide +kernel) rfl ?_
  refine ht_callv (T := et_TT) (t := 13) (mi := 208) (na := 1) (ci := 11) (lk := 6) (lm := 2) (L0 := eg_en (eg_mL 208) [.ref am, .int (Int32.ofNat n)]) (by decide +kernel) rfl hH k_am rfl rfl rfl rfl rfl (by rw [show eg_mL 208 = 2 from by decide +kernel]; first | done | rfl) ?_
  refine (fm_nEy hH k_am k_aw m1 w4 he hn (by omega)).mono (fun u hu => xp_cb hu ?_)
  show et_go none _ 227 11 _ [.int (Int32.ofNat 0), .ref am] _ _ _ _
  refine hs_if0 (c := .ne) (t := 28) (f := 14) (by decide +kernel) (show ¬ (¬ Int32.ofNat 0 = 0) by decide) ?_
  refine hs_iload (i := 2) (p := 15) (by decide +kernel) rfl ?_
  refine hs_k (x := (-1)) (p := 16) (by decide +kernel) ?_
  refine hs_br2 (c := .eq) (t := 32) (f := 19) (by decide +kernel) (fun hz => absurd hz (xi_nm1 (by omega))) (fun _ => ?_)
  refine hs_aload (i := 0) (p := 20) (by decide +kernel) rfl ?_
  refine hs_iload (i := 1) (p := 21) (by decide +kernel) rfl ?_
  refine hs_iload (i := 2) (p := 22) (by decide +kernel) rfl ?_
  refine ht_callv (T := et_TT) (t := 13) (mi := 228) (na := 2) (ci := 11) (lk := 6) (lm := 3) (L0 := eg_en (eg_mL 228) [.ref am, .int (Int32.ofNat n), .int (Int32.ofNat m)]) (by decide +kernel) rfl hH k_am rfl rfl rfl rfl rfl (by rw [show eg_mL 228 = 3 from by decide +kernel]; first | done | rfl) ?_
  refine (fm_yes0 (fm_nW (x := Int32.ofNat m) hH k_am k_aw m1 w4 he hn hw hv.1 (by omega)) hm (by omega)).mono (fun u hu => xp_cb hu ?_)
  show et_go none _ 227 25 _ [.int (Int32.ofNat 0), .ref am] _ _ _ _
  refine hs_if1 (c := .eq) (t := 32) (f := 28) (by decide +kernel) (show Int32.ofNat 0 = 0 by decide) ?_
  refine hs_k (x := Int32.ofNat 0) (p := 33) (by decide +kernel) ?_
  refine hs_k (x := Int32.ofNat 1) (p := 34) (by decide +kernel) ?_
  refine ht_callv (T := et_TT) (t := 13) (mi := 204) (na := 2) (ci := 11) (lk := 6) (lm := 3) (L0 := eg_en (eg_mL 204) [.ref am, .int (Int32.ofNat 0), .int (Int32.ofNat 1)]) (by decide +kernel) rfl hH k_am rfl rfl rfl rfl rfl (by rw [show eg_mL 204 = 3 from by decide +kernel]; first | done | rfl) ?_
  refine (fm_t0 hH k_am).mono (fun u hu => xp_cb hu ?_)
  show et_go none _ 227 37 _ [.int (Int32.ofNat 0)] _ _ _ _
  refine hs_if1 (c := .eq) (t := 42) (f := 40) (by decide +kernel) (show Int32.ofNat 0 = 0 by decide) ?_
  refine hs_iload (i := 2) (p := 43) (by decide +kernel) rfl ?_
  refine hs_k (x := (-1)) (p := 44) (by decide +kernel) ?_
  refine hs_br2 (c := .ne) (t := 53) (f := 47) (by decide +kernel) (fun _ => ?_) (fun hz => absurd (show ¬ ((Int32.ofNat m : Int32) = (-1)) from xi_nm1 (by omega)) hz)
  refine hs_k (x := Int32.ofNat 200) (p := 56) (by decide +kernel) ?_
  refine hs_istore (i := 4) (p := 58) (by decide +kernel) (Nat.le_of_ble_eq_true rfl) ?_
  refine hs_aload (i := 0) (p := 59) (by decide +kernel) rfl ?_
  refine hs_iload (i := 3) (p := 60) (by decide +kernel) rfl ?_
  refine hs_iload (i := 4) (p := 62) (by decide +kernel) rfl ?_
  refine hs_st (ins := .ineg) (len := 1) (p := 63) (by decide +kernel) rfl rfl ?_
  refine hs_iload (i := 4) (p := 65) (by decide +kernel) rfl ?_
  refine hs_calls (mi := 209) (na := 3) (lk := 6) (lm := 3) (L0 := eg_en (eg_mL 209) [.int zz, .int (-(Int32.ofNat 200)), .int (Int32.ofNat 200)]) (by decide +kernel) rfl rfl rfl rfl rfl rfl (by rw [show eg_mL 209 = 3 from by decide +kernel]; first | done | rfl) ?_
  refine (fm_in (x := zz) (y := (-(Int32.ofNat 200))) (z := (Int32.ofNat 200))).mono (fun u hu => xp_cb hu ?_)
  by_cases xz : (-(Int32.ofNat 200)).toInt ≤ zz.toInt ∧ zz.toInt ≤ (Int32.ofNat 200).toInt
  · exact absurd ⟨by have h := xz.1; rw [xi_neg (by decide)] at h; omega, by have h := xz.2; rw [hs_nint (by decide)] at h; omega⟩ hz
  · rw [if_neg xz]
    show et_go none _ 227 68 _ [.int (Int32.ofNat 0), .ref am] _ _ _ _
    refine hs_if0 (c := .ne) (t := 75) (f := 71) (by decide +kernel) (show ¬ (¬ Int32.ofNat 0 = 0) by decide) ?_
    refine hs_k (x := Int32.ofNat 1) (p := 72) (by decide +kernel) ?_
    refine hs_goto (p := 76) (by decide +kernel) ?_
    refine hs_k (x := Int32.ofNat 2) (p := 77) (by decide +kernel) ?_
    have hHo := hH
    refine ht_callv (T := et_TT) (t := 13) (mi := 204) (na := 2) (ci := 11) (lk := 6) (lm := 3) (L0 := eg_en (eg_mL 204) [.ref am, .int (Int32.ofNat 1), .int (Int32.ofNat 2)]) (by decide +kernel) rfl hH k_am rfl rfl rfl rfl rfl (by rw [show eg_mL 204 = 3 from by decide +kernel]; first | done | rfl) ?_
    refine (fm_t1 hH k_am).mono (fun u hu => xw_cb hu (fun G77 v77 hH x77 hP77 => ?_))
    have hw9 : ∀ j, et_pl (eg_at G77 aw) j = et_pl (eg_at G aw) j := fun j => (x77.2 aw j lt_aw (fun h => hi_ne k_aw k_am (by decide) h.1)).trans (hw9 j)
    have hv := hv.xs hHo k_aw x77 (fun j h => hi_ne k_aw k_am (by decide) h.1) hw
    have ho := ho.xs hHo k_aw x77 (fun j h => hi_ne k_aw k_am (by decide) h.1)
    have m1 := (x77.2 am 1 lt_am (fun h => absurd h.2 (by decide))).trans m1
    have w4 := (x77.2 aw 4 lt_aw (fun h => (hi_ne k_aw k_am (by decide)) h.1)).trans w4
    have lt_am := Nat.lt_of_lt_of_le lt_am x77.1
    have lt_aw := Nat.lt_of_lt_of_le lt_aw x77.1
    obtain ⟨rfl, th77⟩ := hP77
    show et_go none _ 227 80 _ [.int (Int32.ofNat 1)] _ _ _ _
    refine hs_if0 (c := .eq) (t := 85) (f := 83) (by decide +kernel) (show ¬ (Int32.ofNat 1 = 0) by decide) ?_
    refine hs_k (x := Int32.ofNat 0) (p := 84) (by decide +kernel) ?_
    refine hs_zret (by decide +kernel) (.inl rfl) ?_
    exact ⟨rfl, th77, hw9⟩
theorem fm_knobW (hH : et_H et_TT K G) (k_am : K am = some 13) (k_aw : K aw = some 46) (m1 : et_pl (eg_at G am) 1 = some (.ref aw)) (w4 : et_pl (eg_at G aw) 4 = some (.int (Int32.ofNat e))) (he : e ≤ 3) (hn : n < e) (hw : w ≤ 6) (hkd : ∀ m, m < w → Kd m ≤ 2) (hv : evM G aw n w C Kd N l s t f) (hx1 : ¬ x = (-1)) (hx : ¬ xr x w) (hd : 3 ≤ d2) : et_go none d2 227 0 (eg_en (eg_mL 227) [.ref am, .int (Int32.ofNat n), .int x, .int zz]) [] G 0 0 (fun u => u.1 = .inl (some (.int (Int32.ofNat 0))) ∧ et_pl (eg_at u.2.1 am) 0 = some (.int (Int32.ofNat 1)) ∧ ∀ j, et_pl (eg_at u.2.1 aw) j = et_pl (eg_at G aw) j) := by
  obtain ⟨d, rfl⟩ : ∃ d, d2 = d + 3 := ⟨d2 - 3, by omega⟩
  have hw9 : ∀ j, et_pl (eg_at G aw) j = et_pl (eg_at G aw) j := fun _ => rfl
  have ho : owt aw n G G := owt.rf
  rw [show eg_mL 227 = 6 from by decide +kernel]
  show et_go none (d + 3) 227 0 [some (.ref am), some (.int (Int32.ofNat n)), some (.int x), some (.int zz), none, none] [] G 0 0 _
  have lt_am := (hH.2.2 _ _ k_am).1
  have lt_aw := (hH.2.2 _ _ k_aw).1
  refine hs_aload (i := 0) (p := 1) (by decide +kernel) rfl ?_
  refine hs_k (x := Int32.ofNat 0) (p := 2) (by decide +kernel) ?_
  have hHo := hH
  refine hf_put (T := et_TT) (t := 13) (ci := 11) (f := 0) (p := 5) (ty := .int) (by decide +kernel) rfl rfl rfl rfl rfl hH k_am hi_any (fun G2 hH x2 e2 => ?_)
  have hw9 : ∀ j, et_pl (eg_at G2 aw) j = et_pl (eg_at G aw) j := fun j => (x2.2 aw j lt_aw (fun h => hi_ne k_aw k_am (by decide) h.1)).trans (hw9 j)
  have hv := hv.xs hHo k_aw x2 (fun j h => hi_ne k_aw k_am (by decide) h.1) hw
  have ho := ho.xs hHo k_aw x2 (fun j h => hi_ne k_aw k_am (by decide) h.1)
  have m1 := (x2.2 am 1 lt_am (fun h => absurd h.2 (by decide))).trans m1
  have w4 := (x2.2 aw 4 lt_aw (fun h => (hi_ne k_aw k_am (by decide)) h.1)).trans w4
  have lt_am := Nat.lt_of_lt_of_le lt_am x2.1
  have lt_aw := Nat.lt_of_lt_of_le lt_aw x2.1
  refine hs_aload (i := 0) (p := 6) (by decide +kernel) rfl ?_
  refine hs_aload (i := 0) (p := 7) (by decide +kernel) rfl ?_
  refine hs_iload (i := 1) (p := 8) (by decide +kernel) rfl ?_
  refine ht_callv (T := et_TT) (t := 13) (mi := 208) (na := 1) (ci := 11) (lk := 6) (lm := 2) (L0 := eg_en (eg_mL 208) [.ref am, .int (Int32.ofNat n)]) (by decide +kernel) rfl hH k_am rfl rfl rfl rfl rfl (by rw [show eg_mL 208 = 2 from by decide +kernel]; first | done | rfl) ?_
  refine (fm_nEy hH k_am k_aw m1 w4 he hn (by omega)).mono (fun u hu => xp_cb hu ?_)
  show et_go none _ 227 11 _ [.int (Int32.ofNat 0), .ref am] _ _ _ _
  refine hs_if0 (c := .ne) (t := 28) (f := 14) (by decide +kernel) (show ¬ (¬ Int32.ofNat 0 = 0) by decide) ?_
  refine hs_iload (i := 2) (p := 15) (by decide +kernel) rfl ?_
  refine hs_k (x := (-1)) (p := 16) (by decide +kernel) ?_
  refine hs_br2 (c := .eq) (t := 32) (f := 19) (by decide +kernel) (fun (c16 : x = (-1)) => ?_) (fun (c16 : ¬ (x = (-1))) => ?_)
  · exact absurd c16 hx1
  · refine hs_aload (i := 0) (p := 20) (by decide +kernel) rfl ?_
    refine hs_iload (i := 1) (p := 21) (by decide +kernel) rfl ?_
    refine hs_iload (i := 2) (p := 22) (by decide +kernel) rfl ?_
    refine ht_callv (T := et_TT) (t := 13) (mi := 228) (na := 2) (ci := 11) (lk := 6) (lm := 3) (L0 := eg_en (eg_mL 228) [.ref am, .int (Int32.ofNat n), .int x]) (by decide +kernel) rfl hH k_am rfl rfl rfl rfl rfl (by rw [show eg_mL 228 = 3 from by decide +kernel]; first | done | rfl) ?_
    refine (fm_nWn (fm_nW hH k_am k_aw m1 w4 he hn hw hv.1 (by omega)) hx).mono (fun u hu => xp_cb hu ?_)
    show et_go none _ 227 25 _ [.int (Int32.ofNat 1), .ref am] _ _ _ _
    refine hs_if0 (c := .eq) (t := 32) (f := 28) (by decide +kernel) (show ¬ (Int32.ofNat 1 = 0) by decide) ?_
    refine hs_k (x := Int32.ofNat 1) (p := 29) (by decide +kernel) ?_
    refine hs_goto (p := 33) (by decide +kernel) ?_
    refine hs_k (x := Int32.ofNat 1) (p := 34) (by decide +kernel) ?_
    have hHo := hH
    refine ht_callv (T := et_TT) (t := 13) (mi := 204) (na := 2) (ci := 11) (lk := 6) (lm := 3) (L0 := eg_en (eg_mL 204) [.ref am, .int (Int32.ofNat 1), .int (Int32.ofNat 1)]) (by decide +kernel) rfl hH k_am rfl rfl rfl rfl rfl (by rw [show eg_mL 204 = 3 from by decide +kernel]; first | done | rfl) ?_
    refine (fm_t1 hH k_am).mono (fun u hu => xw_cb hu (fun G34 v34 hH x34 hP34 => ?_))
    have hw9 : ∀ j, et_pl (eg_at G34 aw) j = et_pl (eg_at G aw) j := fun j => (x34.2 aw j lt_aw (fun h => hi_ne k_aw k_am (by decide) h.1)).trans (hw9 j)
    have hv := hv.xs hHo k_aw x34 (fun j h => hi_ne k_aw k_am (by decide) h.1) hw
    have ho := ho.xs hHo k_aw x34 (fun j h => hi_ne k_aw k_am (by decide) h.1)
    have m1 := (x34.2 am 1 lt_am (fun h => absurd h.2 (by decide))).trans m1
    have w4 := (x34.2 aw 4 lt_aw (fun h => (hi_ne k_aw k_am (by decide)) h.1)).trans w4
    have lt_am := Nat.lt_of_lt_of_le lt_am x34.1
    have lt_aw := Nat.lt_of_lt_of_le lt_aw x34.1
    obtain ⟨rfl, th34⟩ := hP34
    show et_go none _ 227 37 _ [.int (Int32.ofNat 1)] _ _ _ _
    refine hs_if0 (c := .eq) (t := 42) (f := 40) (by decide +kernel) (show ¬ (Int32.ofNat 1 = 0) by decide) ?_
    refine hs_k (x := Int32.ofNat 0) (p := 41) (by decide +kernel) ?_
    refine hs_zret (by decide +kernel) (.inl rfl) ?_
    exact ⟨rfl, th34, hw9⟩
theorem fm_knobE (hH : et_H et_TT K G) (k_am : K am = some 13) (k_aw : K aw = some 46) (m1 : et_pl (eg_at G am) 1 = some (.ref aw)) (w4 : et_pl (eg_at G aw) 4 = some (.int (Int32.ofNat e))) (he : e ≤ 3) (hx : ¬ xr y e) (hd : 3 ≤ d2) : et_go none d2 227 0 (eg_en (eg_mL 227) [.ref am, .int y, .int x, .int zz]) [] G 0 0 (fun u => u.1 = .inl (some (.int (Int32.ofNat 0))) ∧ et_pl (eg_at u.2.1 am) 0 = some (.int (Int32.ofNat 1)) ∧ ∀ j, et_pl (eg_at u.2.1 aw) j = et_pl (eg_at G aw) j) := by
  obtain ⟨d, rfl⟩ : ∃ d, d2 = d + 3 := ⟨d2 - 3, by omega⟩
  have hw9 : ∀ j, et_pl (eg_at G aw) j = et_pl (eg_at G aw) j := fun _ => rfl
  rw [show eg_mL 227 = 6 from by decide +kernel]
  show et_go none (d + 3) 227 0 [some (.ref am), some (.int y), some (.int x), some (.int zz), none, none] [] G 0 0 _
  have lt_am := (hH.2.2 _ _ k_am).1
  have lt_aw := (hH.2.2 _ _ k_aw).1
  refine hs_aload (i := 0) (p := 1) (by decide +kernel) rfl ?_
  refine hs_k (x := Int32.ofNat 0) (p := 2) (by decide +kernel) ?_
  have hHo := hH
  refine hf_put (T := et_TT) (t := 13) (ci := 11) (f := 0) (p := 5) (ty := .int) (by decide +kernel) rfl rfl rfl rfl rfl hH k_am hi_any (fun G2 hH x2 e2 => ?_)
  have hw9 : ∀ j, et_pl (eg_at G2 aw) j = et_pl (eg_at G aw) j := fun j => (x2.2 aw j lt_aw (fun h => hi_ne k_aw k_am (by decide) h.1)).trans (hw9 j)
  have m1 := (x2.2 am 1 lt_am (fun h => absurd h.2 (by decide))).trans m1
  have w4 := (x2.2 aw 4 lt_aw (fun h => (hi_ne k_aw k_am (by decide)) h.1)).trans w4
  have lt_am := Nat.lt_of_lt_of_le lt_am x2.1
  have lt_aw := Nat.lt_of_lt_of_le lt_aw x2.1
  refine hs_aload (i := 0) (p := 6) (by decide +kernel) rfl ?_
  refine hs_aload (i := 0) (p := 7) (by decide +kernel) rfl ?_
  refine hs_iload (i := 1) (p := 8) (by decide +kernel) rfl ?_
  refine ht_callv (T := et_TT) (t := 13) (mi := 208) (na := 1) (ci := 11) (lk := 6) (lm := 2) (L0 := eg_en (eg_mL 208) [.ref am, .int y]) (by decide +kernel) rfl hH k_am rfl rfl rfl rfl rfl (by rw [show eg_mL 208 = 2 from by decide +kernel]; first | done | rfl) ?_
  refine (fm_nEn hH k_am k_aw m1 w4 he hx (by omega)).mono (fun u hu => xp_cb hu ?_)
  show et_go none _ 227 11 _ [.int (Int32.ofNat 1), .ref am] _ _ _ _
  refine hs_if1 (c := .ne) (t := 28) (f := 14) (by decide +kernel) (show ¬ Int32.ofNat 1 = 0 by decide) ?_
  refine hs_k (x := Int32.ofNat 1) (p := 29) (by decide +kernel) ?_
  refine hs_goto (p := 33) (by decide +kernel) ?_
  refine hs_k (x := Int32.ofNat 1) (p := 34) (by decide +kernel) ?_
  have hHo := hH
  refine ht_callv (T := et_TT) (t := 13) (mi := 204) (na := 2) (ci := 11) (lk := 6) (lm := 3) (L0 := eg_en (eg_mL 204) [.ref am, .int (Int32.ofNat 1), .int (Int32.ofNat 1)]) (by decide +kernel) rfl hH k_am rfl rfl rfl rfl rfl (by rw [show eg_mL 204 = 3 from by decide +kernel]; first | done | rfl) ?_
  refine (fm_t1 hH k_am).mono (fun u hu => xw_cb hu (fun G34 v34 hH x34 hP34 => ?_))
  have hw9 : ∀ j, et_pl (eg_at G34 aw) j = et_pl (eg_at G aw) j := fun j => (x34.2 aw j lt_aw (fun h => hi_ne k_aw k_am (by decide) h.1)).trans (hw9 j)
  have m1 := (x34.2 am 1 lt_am (fun h => absurd h.2 (by decide))).trans m1
  have w4 := (x34.2 aw 4 lt_aw (fun h => (hi_ne k_aw k_am (by decide)) h.1)).trans w4
  have lt_am := Nat.lt_of_lt_of_le lt_am x34.1
  have lt_aw := Nat.lt_of_lt_of_le lt_aw x34.1
  obtain ⟨rfl, th34⟩ := hP34
  show et_go none _ 227 37 _ [.int (Int32.ofNat 1)] _ _ _ _
  refine hs_if0 (c := .eq) (t := 42) (f := 40) (by decide +kernel) (show ¬ (Int32.ofNat 1 = 0) by decide) ?_
  refine hs_k (x := Int32.ofNat 0) (p := 41) (by decide +kernel) ?_
  refine hs_zret (by decide +kernel) (.inl rfl) ?_
  exact ⟨rfl, th34, hw9⟩
theorem fn_stuck (hH : et_H et_TT K G) (k_am : K am = some 13) (k_aw : K aw = some 46) (m1 : et_pl (eg_at G am) 1 = some (.ref aw)) (w4 : et_pl (eg_at G aw) 4 = some (.int (Int32.ofNat e))) (he : e ≤ 3) (hn : n < e) (hw : w ≤ 6) (hkd : ∀ m, m < w → Kd m ≤ 2) (hv : evM G aw n w C Kd N l s t f) (hz : (0 ≤ y.toInt ∧ y.toInt ≤ 127 ∧ 0 ≤ zz.toInt ∧ zz.toInt ≤ 50)) (hd : 2 ≤ d2) : et_go none d2 229 0 (eg_en (eg_mL 229) [.ref am, .int (Int32.ofNat n), .int y, .int zz]) [] G 0 0 (fun u => u.1 = .inl none ∧ et_pl (eg_at u.2.1 am) 0 = some (.int (Int32.ofNat 0)) ∧ owt aw n G u.2.1 ∧ evM u.2.1 aw n w C Kd N l s y zz) := by
  obtain ⟨d, rfl⟩ : ∃ d, d2 = d + 2 := ⟨d2 - 2, by omega⟩
  have ho : owt aw n G G := owt.rf
  rw [show eg_mL 229 = 4 from by decide +kernel]
  show et_go none (d + 2) 229 0 [some (.ref am), some (.int (Int32.ofNat n)), some (.int y), some (.int zz)] [] G 0 0 _
  have lt_am := (hH.2.2 _ _ k_am).1
  have lt_aw := (hH.2.2 _ _ k_aw).1
  refine hs_aload (i := 0) (p := 1) (by decide +kernel) rfl ?_
  refine hs_k (x := Int32.ofNat 0) (p := 2) (by decide +kernel) ?_
  have hHo := hH
  refine hf_put (T := et_TT) (t := 13) (ci := 11) (f := 0) (p := 5) (ty := .int) (by decide +kernel) rfl rfl rfl rfl rfl hH k_am hi_any (fun G2 hH x2 e2 => ?_)
  have hv := hv.xs hHo k_aw x2 (fun j h => hi_ne k_aw k_am (by decide) h.1) hw
  have ho := ho.xs hHo k_aw x2 (fun j h => hi_ne k_aw k_am (by decide) h.1)
  have m1 := (x2.2 am 1 lt_am (fun h => absurd h.2 (by decide))).trans m1
  have w4 := (x2.2 aw 4 lt_aw (fun h => (hi_ne k_aw k_am (by decide)) h.1)).trans w4
  have lt_am := Nat.lt_of_lt_of_le lt_am x2.1
  have lt_aw := Nat.lt_of_lt_of_le lt_aw x2.1
  refine hs_aload (i := 0) (p := 6) (by decide +kernel) rfl ?_
  refine hs_aload (i := 0) (p := 7) (by decide +kernel) rfl ?_
  refine hs_iload (i := 1) (p := 8) (by decide +kernel) rfl ?_
  refine ht_callv (T := et_TT) (t := 13) (mi := 208) (na := 1) (ci := 11) (lk := 4) (lm := 2) (L0 := eg_en (eg_mL 208) [.ref am, .int (Int32.ofNat n)]) (by decide +kernel) rfl hH k_am rfl rfl rfl rfl rfl (by rw [show eg_mL 208 = 2 from by decide +kernel]; first | done | rfl) ?_
  refine (fm_nEy hH k_am k_aw m1 w4 he hn (by omega)).mono (fun u hu => xp_cb hu ?_)
  show et_go none _ 229 11 _ [.int (Int32.ofNat 0), .ref am] _ _ _ _
  refine hs_k (x := Int32.ofNat 1) (p := 12) (by decide +kernel) ?_
  refine ht_callv (T := et_TT) (t := 13) (mi := 204) (na := 2) (ci := 11) (lk := 4) (lm := 3) (L0 := eg_en (eg_mL 204) [.ref am, .int (Int32.ofNat 0), .int (Int32.ofNat 1)]) (by decide +kernel) rfl hH k_am rfl rfl rfl rfl rfl (by rw [show eg_mL 204 = 3 from by decide +kernel]; first | done | rfl) ?_
  refine (fm_t0 hH k_am).mono (fun u hu => xp_cb hu ?_)
  show et_go none _ 229 15 _ [.int (Int32.ofNat 0)] _ _ _ _
  refine hs_if0 (c := .ne) (t := 51) (f := 18) (by decide +kernel) (show ¬ (¬ Int32.ofNat 0 = 0) by decide) ?_
  refine hs_aload (i := 0) (p := 19) (by decide +kernel) rfl ?_
  refine hs_iload (i := 2) (p := 20) (by decide +kernel) rfl ?_
  refine hs_k (x := Int32.ofNat 0) (p := 21) (by decide +kernel) ?_
  refine hs_k (x := Int32.ofNat 127) (p := 23) (by decide +kernel) ?_
  refine hs_calls (mi := 209) (na := 3) (lk := 4) (lm := 3) (L0 := eg_en (eg_mL 209) [.int y, .int (Int32.ofNat 0), .int (Int32.ofNat 127)]) (by decide +kernel) rfl rfl rfl rfl rfl rfl (by rw [show eg_mL 209 = 3 from by decide +kernel]; first | done | rfl) ?_
  refine (fm_in (x := y) (y := (Int32.ofNat 0)) (z := (Int32.ofNat 127))).mono (fun u hu => xp_cb hu ?_)
  by_cases xy : (Int32.ofNat 0).toInt ≤ y.toInt ∧ y.toInt ≤ (Int32.ofNat 127).toInt
  · rw [if_pos xy]
    show et_go none _ 229 26 _ [.int (Int32.ofNat 1), .ref am] _ _ _ _
    refine hs_if0 (c := .eq) (t := 39) (f := 29) (by decide +kernel) (show ¬ (Int32.ofNat 1 = 0) by decide) ?_
    refine hs_iload (i := 3) (p := 30) (by decide +kernel) rfl ?_
    refine hs_k (x := Int32.ofNat 0) (p := 31) (by decide +kernel) ?_
    refine hs_k (x := Int32.ofNat 50) (p := 33) (by decide +kernel) ?_
    refine hs_calls (mi := 209) (na := 3) (lk := 4) (lm := 3) (L0 := eg_en (eg_mL 209) [.int zz, .int (Int32.ofNat 0), .int (Int32.ofNat 50)]) (by decide +kernel) rfl rfl rfl rfl rfl rfl (by rw [show eg_mL 209 = 3 from by decide +kernel]; first | done | rfl) ?_
    refine (fm_in (x := zz) (y := (Int32.ofNat 0)) (z := (Int32.ofNat 50))).mono (fun u hu => xp_cb hu ?_)
    by_cases xz : (Int32.ofNat 0).toInt ≤ zz.toInt ∧ zz.toInt ≤ (Int32.ofNat 50).toInt
    · rw [if_pos xz]
      show et_go none _ 229 36 _ [.int (Int32.ofNat 1), .ref am] _ _ _ _
      refine hs_if1 (c := .ne) (t := 43) (f := 39) (by decide +kernel) (show ¬ Int32.ofNat 1 = 0 by decide) ?_
      refine hs_k (x := Int32.ofNat 0) (p := 44) (by decide +kernel) ?_
      refine hs_k (x := Int32.ofNat 2) (p := 45) (by decide +kernel) ?_
      refine ht_callv (T := et_TT) (t := 13) (mi := 204) (na := 2) (ci := 11) (lk := 4) (lm := 3) (L0 := eg_en (eg_mL 204) [.ref am, .int (Int32.ofNat 0), .int (Int32.ofNat 2)]) (by decide +kernel) rfl hH k_am rfl rfl rfl rfl rfl (by rw [show eg_mL 204 = 3 from by decide +kernel]; first | done | rfl) ?_
      refine (fm_t0 hH k_am).mono (fun u hu => xp_cb hu ?_)
      show et_go none _ 229 48 _ [.int (Int32.ofNat 0)] _ _ _ _
      refine hs_if1 (c := .eq) (t := 52) (f := 51) (by decide +kernel) (show Int32.ofNat 0 = 0 by decide) ?_
      refine hs_aload (i := 0) (p := 53) (by decide +kernel) rfl ?_
      refine hf_get (T := et_TT) (t := 13) (ci := 11) (f := 1) (p := 56) (by decide +kernel) rfl hH k_am m1 ?_
      refine hs_k (x := Int32.ofNat 45) (p := 58) (by decide +kernel) ?_
      refine hs_k (x := Int32.ofNat 23) (p := 60) (by decide +kernel) ?_
      refine hs_iload (i := 1) (p := 61) (by decide +kernel) rfl ?_
      refine hs_imuln (p := 62) (by decide +kernel) ?_
      refine hs_iaddn (p := 63) (by decide +kernel) ?_
      refine hs_k (x := Int32.ofNat 20) (p := 65) (by decide +kernel) ?_
      refine hs_iaddn (p := 66) (by decide +kernel) ?_
      refine hs_iload (i := 2) (p := 67) (by decide +kernel) rfl ?_
      have hHo := hH
      refine hf_wst (p := 68) (by decide +kernel) hH k_aw (by omega) (wx_ok (e := n) (k := 20) (by omega) (by decide) (fun h => absurd h (by decide))) (fun G67 hH x67 e67 => ?_)
      have hv := hv.pt hHo k_aw x67 (by omega) hw e67
      have ho := ho.w hHo k_aw x67 (by omega)
      have m1 := (x67.2 am 1 lt_am (fun h => (hi_ne k_am k_aw (by decide)) h.1)).trans m1
      have e2 := (x67.2 am 0 lt_am (fun h => (hi_ne k_am k_aw (by decide)) h.1)).trans e2
      have lt_am := Nat.lt_of_lt_of_le lt_am x67.1
      have lt_aw := Nat.lt_of_lt_of_le lt_aw x67.1
      refine hs_aload (i := 0) (p := 69) (by decide +kernel) rfl ?_
      refine hf_get (T := et_TT) (t := 13) (ci := 11) (f := 1) (p := 72) (by decide +kernel) rfl hH k_am m1 ?_
      refine hs_k (x := Int32.ofNat 45) (p := 74) (by decide +kernel) ?_
      refine hs_k (x := Int32.ofNat 23) (p := 76) (by decide +kernel) ?_
      refine hs_iload (i := 1) (p := 77) (by decide +kernel) rfl ?_
      refine hs_imuln (p := 78) (by decide +kernel) ?_
      refine hs_iaddn (p := 79) (by decide +kernel) ?_
      refine hs_k (x := Int32.ofNat 21) (p := 81) (by decide +kernel) ?_
      refine hs_iaddn (p := 82) (by decide +kernel) ?_
      refine hs_iload (i := 3) (p := 83) (by decide +kernel) rfl ?_
      have hHo := hH
      refine hf_wst (p := 84) (by decide +kernel) hH k_aw (by omega) (wx_ok (e := n) (k := 21) (by omega) (by decide) (fun h => absurd h (by decide))) (fun G83 hH x83 e83 => ?_)
      have hv := hv.pf hHo k_aw x83 (by omega) hw e83
      have ho := ho.w hHo k_aw x83 (by omega)
      have m1 := (x83.2 am 1 lt_am (fun h => (hi_ne k_am k_aw (by decide)) h.1)).trans m1
      have e2 := (x83.2 am 0 lt_am (fun h => (hi_ne k_am k_aw (by decide)) h.1)).trans e2
      have lt_am := Nat.lt_of_lt_of_le lt_am x83.1
      have lt_aw := Nat.lt_of_lt_of_le lt_aw x83.1
      refine hs_vret (by decide +kernel) ?_
      exact ⟨rfl, e2, ho, hv⟩
    · exact absurd ⟨by rw [hs_nint (by decide)]; omega, by rw [hs_nint (by decide)]; omega⟩ xz
  · exact absurd ⟨by rw [hs_nint (by decide)]; omega, by rw [hs_nint (by decide)]; omega⟩ xy
theorem fn_stuckR (hH : et_H et_TT K G) (k_am : K am = some 13) (k_aw : K aw = some 46) (m1 : et_pl (eg_at G am) 1 = some (.ref aw)) (w4 : et_pl (eg_at G aw) 4 = some (.int (Int32.ofNat e))) (he : e ≤ 3) (hn : n < e) (hz : ¬ (0 ≤ y.toInt ∧ y.toInt ≤ 127 ∧ 0 ≤ zz.toInt ∧ zz.toInt ≤ 50)) (hd : 2 ≤ d2) : et_go none d2 229 0 (eg_en (eg_mL 229) [.ref am, .int (Int32.ofNat n), .int y, .int zz]) [] G 0 0 (fun u => u.1 = .inl none ∧ et_pl (eg_at u.2.1 am) 0 = some (.int (Int32.ofNat 2)) ∧ ∀ j, et_pl (eg_at u.2.1 aw) j = et_pl (eg_at G aw) j) := by
  obtain ⟨d, rfl⟩ : ∃ d, d2 = d + 2 := ⟨d2 - 2, by omega⟩
  have hw9 : ∀ j, et_pl (eg_at G aw) j = et_pl (eg_at G aw) j := fun _ => rfl
  rw [show eg_mL 229 = 4 from by decide +kernel]
  show et_go none (d + 2) 229 0 [some (.ref am), some (.int (Int32.ofNat n)), some (.int y), some (.int zz)] [] G 0 0 _
  have lt_am := (hH.2.2 _ _ k_am).1
  have lt_aw := (hH.2.2 _ _ k_aw).1
  refine hs_aload (i := 0) (p := 1) (by decide +kernel) rfl ?_
  refine hs_k (x := Int32.ofNat 0) (p := 2) (by decide +kernel) ?_
  have hHo := hH
  refine hf_put (T := et_TT) (t := 13) (ci := 11) (f := 0) (p := 5) (ty := .int) (by decide +kernel) rfl rfl rfl rfl rfl hH k_am hi_any (fun G2 hH x2 e2 => ?_)
  have hw9 : ∀ j, et_pl (eg_at G2 aw) j = et_pl (eg_at G aw) j := fun j => (x2.2 aw j lt_aw (fun h => hi_ne k_aw k_am (by decide) h.1)).trans (hw9 j)
  have m1 := (x2.2 am 1 lt_am (fun h => absurd h.2 (by decide))).trans m1
  have w4 := (x2.2 aw 4 lt_aw (fun h => (hi_ne k_aw k_am (by decide)) h.1)).trans w4
  have lt_am := Nat.lt_of_lt_of_le lt_am x2.1
  have lt_aw := Nat.lt_of_lt_of_le lt_aw x2.1
  refine hs_aload (i := 0) (p := 6) (by decide +kernel) rfl ?_
  refine hs_aload (i := 0) (p := 7) (by decide +kernel) rfl ?_
  refine hs_iload (i := 1) (p := 8) (by decide +kernel) rfl ?_
  refine ht_callv (T := et_TT) (t := 13) (mi := 208) (na := 1) (ci := 11) (lk := 4) (lm := 2) (L0 := eg_en (eg_mL 208) [.ref am, .int (Int32.ofNat n)]) (by decide +kernel) rfl hH k_am rfl rfl rfl rfl rfl (by rw [show eg_mL 208 = 2 from by decide +kernel]; first | done | rfl) ?_
  refine (fm_nEy hH k_am k_aw m1 w4 he hn (by omega)).mono (fun u hu => xp_cb hu ?_)
  show et_go none _ 229 11 _ [.int (Int32.ofNat 0), .ref am] _ _ _ _
  refine hs_k (x := Int32.ofNat 1) (p := 12) (by decide +kernel) ?_
  refine ht_callv (T := et_TT) (t := 13) (mi := 204) (na := 2) (ci := 11) (lk := 4) (lm := 3) (L0 := eg_en (eg_mL 204) [.ref am, .int (Int32.ofNat 0), .int (Int32.ofNat 1)]) (by decide +kernel) rfl hH k_am rfl rfl rfl rfl rfl (by rw [show eg_mL 204 = 3 from by decide +kernel]; first | done | rfl) ?_
  refine (fm_t0 hH k_am).mono (fun u hu => xp_cb hu ?_)
  show et_go none _ 229 15 _ [.int (Int32.ofNat 0)] _ _ _ _
  refine hs_if0 (c := .ne) (t := 51) (f := 18) (by decide +kernel) (show ¬ (¬ Int32.ofNat 0 = 0) by decide) ?_
  refine hs_aload (i := 0) (p := 19) (by decide +kernel) rfl ?_
  refine hs_iload (i := 2) (p := 20) (by decide +kernel) rfl ?_
  refine hs_k (x := Int32.ofNat 0) (p := 21) (by decide +kernel) ?_
  refine hs_k (x := Int32.ofNat 127) (p := 23) (by decide +kernel) ?_
  refine hs_calls (mi := 209) (na := 3) (lk := 4) (lm := 3) (L0 := eg_en (eg_mL 209) [.int y, .int (Int32.ofNat 0), .int (Int32.ofNat 127)]) (by decide +kernel) rfl rfl rfl rfl rfl rfl (by rw [show eg_mL 209 = 3 from by decide +kernel]; first | done | rfl) ?_
  refine (fm_in (x := y) (y := (Int32.ofNat 0)) (z := (Int32.ofNat 127))).mono (fun u hu => xp_cb hu ?_)
  by_cases xy : (Int32.ofNat 0).toInt ≤ y.toInt ∧ y.toInt ≤ (Int32.ofNat 127).toInt
  · rw [if_pos xy]
    show et_go none _ 229 26 _ [.int (Int32.ofNat 1), .ref am] _ _ _ _
    refine hs_if0 (c := .eq) (t := 39) (f := 29) (by decide +kernel) (show ¬ (Int32.ofNat 1 = 0) by decide) ?_
    refine hs_iload (i := 3) (p := 30) (by decide +kernel) rfl ?_
    refine hs_k (x := Int32.ofNat 0) (p := 31) (by decide +kernel) ?_
    refine hs_k (x := Int32.ofNat 50) (p := 33) (by decide +kernel) ?_
    refine hs_calls (mi := 209) (na := 3) (lk := 4) (lm := 3) (L0 := eg_en (eg_mL 209) [.int zz, .int (Int32.ofNat 0), .int (Int32.ofNat 50)]) (by decide +kernel) rfl rfl rfl rfl rfl rfl (by rw [show eg_mL 209 = 3 from by decide +kernel]; first | done | rfl) ?_
    refine (fm_in (x := zz) (y := (Int32.ofNat 0)) (z := (Int32.ofNat 50))).mono (fun u hu => xp_cb hu ?_)
    by_cases xz : (Int32.ofNat 0).toInt ≤ zz.toInt ∧ zz.toInt ≤ (Int32.ofNat 50).toInt
    · exact absurd ⟨by have h := xy.1; rw [hs_nint (by decide)] at h; omega, by have h := xy.2; rw [hs_nint (by decide)] at h; omega, by have h := xz.1; rw [hs_nint (by decide)] at h; omega, by have h := xz.2; rw [hs_nint (by decide)] at h; omega⟩ hz
    · rw [if_neg xz]
      show et_go none _ 229 36 _ [.int (Int32.ofNat 0), .ref am] _ _ _ _
      refine hs_if0 (c := .ne) (t := 43) (f := 39) (by decide +kernel) (show ¬ (¬ Int32.ofNat 0 = 0) by decide) ?_
      refine hs_k (x := Int32.ofNat 1) (p := 40) (by decide +kernel) ?_
      refine hs_goto (p := 44) (by decide +kernel) ?_
      refine hs_k (x := Int32.ofNat 2) (p := 45) (by decide +kernel) ?_
      have hHo := hH
      refine ht_callv (T := et_TT) (t := 13) (mi := 204) (na := 2) (ci := 11) (lk := 4) (lm := 3) (L0 := eg_en (eg_mL 204) [.ref am, .int (Int32.ofNat 1), .int (Int32.ofNat 2)]) (by decide +kernel) rfl hH k_am rfl rfl rfl rfl rfl (by rw [show eg_mL 204 = 3 from by decide +kernel]; first | done | rfl) ?_
      refine (fm_t1 hH k_am).mono (fun u hu => xw_cb hu (fun G45 v45 hH x45 hP45 => ?_))
      have hw9 : ∀ j, et_pl (eg_at G45 aw) j = et_pl (eg_at G aw) j := fun j => (x45.2 aw j lt_aw (fun h => hi_ne k_aw k_am (by decide) h.1)).trans (hw9 j)
      have m1 := (x45.2 am 1 lt_am (fun h => absurd h.2 (by decide))).trans m1
      have w4 := (x45.2 aw 4 lt_aw (fun h => (hi_ne k_aw k_am (by decide)) h.1)).trans w4
      have lt_am := Nat.lt_of_lt_of_le lt_am x45.1
      have lt_aw := Nat.lt_of_lt_of_le lt_aw x45.1
      obtain ⟨rfl, th45⟩ := hP45
      show et_go none _ 229 48 _ [.int (Int32.ofNat 1)] _ _ _ _
      refine hs_if0 (c := .eq) (t := 52) (f := 51) (by decide +kernel) (show ¬ (Int32.ofNat 1 = 0) by decide) ?_
      refine hs_vret (by decide +kernel) ?_
      exact ⟨rfl, th45, hw9⟩
  · rw [if_neg xy]
    show et_go none _ 229 26 _ [.int (Int32.ofNat 0), .ref am] _ _ _ _
    refine hs_if1 (c := .eq) (t := 39) (f := 29) (by decide +kernel) (show Int32.ofNat 0 = 0 by decide) ?_
    refine hs_k (x := Int32.ofNat 1) (p := 40) (by decide +kernel) ?_
    refine hs_goto (p := 44) (by decide +kernel) ?_
    refine hs_k (x := Int32.ofNat 2) (p := 45) (by decide +kernel) ?_
    have hHo := hH
    refine ht_callv (T := et_TT) (t := 13) (mi := 204) (na := 2) (ci := 11) (lk := 4) (lm := 3) (L0 := eg_en (eg_mL 204) [.ref am, .int (Int32.ofNat 1), .int (Int32.ofNat 2)]) (by decide +kernel) rfl hH k_am rfl rfl rfl rfl rfl (by rw [show eg_mL 204 = 3 from by decide +kernel]; first | done | rfl) ?_
    refine (fm_t1 hH k_am).mono (fun u hu => xw_cb hu (fun G45 v45 hH x45 hP45 => ?_))
    have hw9 : ∀ j, et_pl (eg_at G45 aw) j = et_pl (eg_at G aw) j := fun j => (x45.2 aw j lt_aw (fun h => hi_ne k_aw k_am (by decide) h.1)).trans (hw9 j)
    have m1 := (x45.2 am 1 lt_am (fun h => absurd h.2 (by decide))).trans m1
    have w4 := (x45.2 aw 4 lt_aw (fun h => (hi_ne k_aw k_am (by decide)) h.1)).trans w4
    have lt_am := Nat.lt_of_lt_of_le lt_am x45.1
    have lt_aw := Nat.lt_of_lt_of_le lt_aw x45.1
    obtain ⟨rfl, th45⟩ := hP45
    show et_go none _ 229 48 _ [.int (Int32.ofNat 1)] _ _ _ _
    refine hs_if0 (c := .eq) (t := 52) (f := 51) (by decide +kernel) (show ¬ (Int32.ofNat 1 = 0) by decide) ?_
    refine hs_vret (by decide +kernel) ?_
    exact ⟨rfl, th45, hw9⟩
theorem fn_stuckE (hH : et_H et_TT K G) (k_am : K am = some 13) (k_aw : K aw = some 46) (m1 : et_pl (eg_at G am) 1 = some (.ref aw)) (w4 : et_pl (eg_at G aw) 4 = some (.int (Int32.ofNat e))) (he : e ≤ 3) (hx : ¬ xr x e) (hd : 2 ≤ d2) : et_go none d2 229 0 (eg_en (eg_mL 229) [.ref am, .int x, .int y, .int zz]) [] G 0 0 (fun u => u.1 = .inl none ∧ et_pl (eg_at u.2.1 am) 0 = some (.int (Int32.ofNat 1)) ∧ ∀ j, et_pl (eg_at u.2.1 aw) j = et_pl (eg_at G aw) j) := by
  obtain ⟨d, rfl⟩ : ∃ d, d2 = d + 2 := ⟨d2 - 2, by omega⟩
  have hw9 : ∀ j, et_pl (eg_at G aw) j = et_pl (eg_at G aw) j := fun _ => rfl
  rw [show eg_mL 229 = 4 from by decide +kernel]
  show et_go none (d + 2) 229 0 [some (.ref am), some (.int x), some (.int y), some (.int zz)] [] G 0 0 _
  have lt_am := (hH.2.2 _ _ k_am).1
  have lt_aw := (hH.2.2 _ _ k_aw).1
  refine hs_aload (i := 0) (p := 1) (by decide +kernel) rfl ?_
  refine hs_k (x := Int32.ofNat 0) (p := 2) (by decide +kernel) ?_
  have hHo := hH
  refine hf_put (T := et_TT) (t := 13) (ci := 11) (f := 0) (p := 5) (ty := .int) (by decide +kernel) rfl rfl rfl rfl rfl hH k_am hi_any (fun G2 hH x2 e2 => ?_)
  have hw9 : ∀ j, et_pl (eg_at G2 aw) j = et_pl (eg_at G aw) j := fun j => (x2.2 aw j lt_aw (fun h => hi_ne k_aw k_am (by decide) h.1)).trans (hw9 j)
  have m1 := (x2.2 am 1 lt_am (fun h => absurd h.2 (by decide))).trans m1
  have w4 := (x2.2 aw 4 lt_aw (fun h => (hi_ne k_aw k_am (by decide)) h.1)).trans w4
  have lt_am := Nat.lt_of_lt_of_le lt_am x2.1
  have lt_aw := Nat.lt_of_lt_of_le lt_aw x2.1
  refine hs_aload (i := 0) (p := 6) (by decide +kernel) rfl ?_
  refine hs_aload (i := 0) (p := 7) (by decide +kernel) rfl ?_
  refine hs_iload (i := 1) (p := 8) (by decide +kernel) rfl ?_
  refine ht_callv (T := et_TT) (t := 13) (mi := 208) (na := 1) (ci := 11) (lk := 4) (lm := 2) (L0 := eg_en (eg_mL 208) [.ref am, .int x]) (by decide +kernel) rfl hH k_am rfl rfl rfl rfl rfl (by rw [show eg_mL 208 = 2 from by decide +kernel]; first | done | rfl) ?_
  refine (fm_nEn hH k_am k_aw m1 w4 he hx (by omega)).mono (fun u hu => xp_cb hu ?_)
  show et_go none _ 229 11 _ [.int (Int32.ofNat 1), .ref am] _ _ _ _
  refine hs_k (x := Int32.ofNat 1) (p := 12) (by decide +kernel) ?_
  have hHo := hH
  refine ht_callv (T := et_TT) (t := 13) (mi := 204) (na := 2) (ci := 11) (lk := 4) (lm := 3) (L0 := eg_en (eg_mL 204) [.ref am, .int (Int32.ofNat 1), .int (Int32.ofNat 1)]) (by decide +kernel) rfl hH k_am rfl rfl rfl rfl rfl (by rw [show eg_mL 204 = 3 from by decide +kernel]; first | done | rfl) ?_
  refine (fm_t1 hH k_am).mono (fun u hu => xw_cb hu (fun G12 v12 hH x12 hP12 => ?_))
  have hw9 : ∀ j, et_pl (eg_at G12 aw) j = et_pl (eg_at G aw) j := fun j => (x12.2 aw j lt_aw (fun h => hi_ne k_aw k_am (by decide) h.1)).trans (hw9 j)
  have m1 := (x12.2 am 1 lt_am (fun h => absurd h.2 (by decide))).trans m1
  have w4 := (x12.2 aw 4 lt_aw (fun h => (hi_ne k_aw k_am (by decide)) h.1)).trans w4
  have lt_am := Nat.lt_of_lt_of_le lt_am x12.1
  have lt_aw := Nat.lt_of_lt_of_le lt_aw x12.1
  obtain ⟨rfl, th12⟩ := hP12
  show et_go none _ 229 15 _ [.int (Int32.ofNat 1)] _ _ _ _
  refine hs_if1 (c := .ne) (t := 51) (f := 18) (by decide +kernel) (show ¬ Int32.ofNat 1 = 0 by decide) ?_
  refine hs_vret (by decide +kernel) ?_
  exact ⟨rfl, th12, hw9⟩
end VMA
