/-! PHASE D: the reference's show, turned, knob, stuck -/
section VLA
variable {K : et_K} {G : eg_G} {d d2 am aw fa tg e n w m k c r tc nc z : Nat} {C N : Nat → Int32} {X : Nat → Int32} {B : Nat → Bool} {Kd : Nat → Nat} {l s t f x y zz : Int32} {ye : Bool} {ls : List sp_L} {v : (Nat → Int32) × Int32 × Int32} {x5 x6 : Option Value} {Z : eg_O → Prop}
theorem fm_nC (hH : et_H et_TT K G) (k_am : K am = some 13) (k_aw : K aw = some 46) (m1 : et_pl (eg_at G am) 1 = some (.ref aw)) (w3 : et_pl (eg_at G aw) 3 = some (.int (Int32.ofNat nc))) (hnc : nc ≤ 20) (hd : 1 ≤ d2) : et_go none d2 245 0 (eg_en (eg_mL 245) [.ref am, .int x]) [] G 0 0 (xp_Z G (some (.int (Int32.ofNat (if 0 ≤ x.toInt ∧ x.toInt < (nc : Int) then 0 else 1))))) := by
  obtain ⟨d, rfl⟩ : ∃ d, d2 = d + 1 := ⟨d2 - 1, by omega⟩
  have hq : (Int32.ofNat nc - Int32.ofNat 1).toInt = (nc : Int) - 1 := by
    have h : ∀ k ∈ List.range 21, (Int32.ofNat k - Int32.ofNat 1).toInt = (k : Int) - 1 := by decide +kernel
    exact h nc (List.mem_range.mpr (by omega))
  rw [show eg_mL 245 = 2 from by decide +kernel]
  show et_go none (d + 1) 245 0 [some (.ref am), some (.int x)] [] G 0 0 _
  have lt_am := (hH.2.2 _ _ k_am).1
  have lt_aw := (hH.2.2 _ _ k_aw).1
  refine hs_iload (i := 1) (p := 1) (by decide +kernel) rfl ?_
  refine hs_k (x := Int32.ofNat 0) (p := 2) (by decide +kernel) ?_
  refine hs_aload (i := 0) (p := 3) (by decide +kernel) rfl ?_
  refine ht_callv (T := et_TT) (t := 13) (mi := 218) (na := 0) (ci := 11) (lk := 2) (lm := 1) (L0 := eg_en (eg_mL 218) [.ref am]) (by decide +kernel) rfl hH k_am rfl rfl rfl rfl rfl (by rw [show eg_mL 218 = 1 from by decide +kernel]; first | done | rfl) ?_
  refine (fm_cards hH k_am k_aw m1 w3).mono (fun u hu => xp_cb hu ?_)
  show et_go none _ 245 6 _ [.int (Int32.ofNat nc), .int (Int32.ofNat 0), .int x] _ _ _ _
  refine hs_k (x := Int32.ofNat 1) (p := 7) (by decide +kernel) ?_
  refine hs_isub (p := 8) (by decide +kernel) ?_
  refine hs_calls (mi := 209) (na := 3) (lk := 2) (lm := 3) (L0 := eg_en (eg_mL 209) [.int x, .int (Int32.ofNat 0), .int (Int32.ofNat nc - Int32.ofNat 1)]) (by decide +kernel) rfl rfl rfl rfl rfl rfl (by rw [show eg_mL 209 = 3 from by decide +kernel]; first | done | rfl) ?_
  refine fm_in.mono (fun u hu => xp_cb hu ?_)
  rw [hq]
  by_cases hxr : xr x nc
  · rw [if_pos (show (Int32.ofNat 0).toInt ≤ x.toInt ∧ x.toInt ≤ (nc : Int) - 1 from by rw [hs_nint (by decide)]; unfold xr at hxr; omega)]
    show et_go none _ 245 11 _ [.int (Int32.ofNat 1)] _ _ _ _
    refine hs_if1 (c := .ne) (t := 18) (f := 14) (by decide +kernel) (show ¬ Int32.ofNat 1 = 0 by decide) ?_
    refine hs_k (x := Int32.ofNat 0) (p := 19) (by decide +kernel) ?_
    refine hs_zret (by decide +kernel) (.inl rfl) ?_
    rw [if_pos (show 0 ≤ x.toInt ∧ x.toInt < (nc : Int) from hxr)]
    rfl
  · rw [if_neg (show ¬ ((Int32.ofNat 0).toInt ≤ x.toInt ∧ x.toInt ≤ (nc : Int) - 1) from by rw [hs_nint (by decide)]; unfold xr at hxr; omega)]
    show et_go none _ 245 11 _ [.int (Int32.ofNat 0)] _ _ _ _
    refine hs_if0 (c := .ne) (t := 18) (f := 14) (by decide +kernel) (show ¬ (¬ Int32.ofNat 0 = 0) by decide) ?_
    refine hs_k (x := Int32.ofNat 1) (p := 15) (by decide +kernel) ?_
    refine hs_goto (p := 19) (by decide +kernel) ?_
    refine hs_zret (by decide +kernel) (.inr rfl) ?_
    rw [if_neg (show ¬ (0 ≤ x.toInt ∧ x.toInt < (nc : Int)) from hxr)]
    rfl
theorem fm_yes0 {mi q c : Nat} {L : eg_Ls} (h : et_go none d2 mi 0 L [] G 0 0 (xp_Z G (some (.int (Int32.ofNat (if 0 ≤ (Int32.ofNat c).toInt ∧ (Int32.ofNat c).toInt < (q : Int) then 0 else 1)))))) (hc : c < q) (hq : q ≤ 400) : et_go none d2 mi 0 L [] G 0 0 (xp_Z G (some (.int (Int32.ofNat 0)))) := by
  rw [if_pos (by rw [hs_nint (by omega)]; omega)] at h
  exact h
theorem fm_show (hH : et_H et_TT K G) (k_am : K am = some 13) (k_aw : K aw = some 46) (m1 : et_pl (eg_at G am) 1 = some (.ref aw)) (w4 : et_pl (eg_at G aw) 4 = some (.int (Int32.ofNat e))) (he : e ≤ 3) (w3 : et_pl (eg_at G aw) 3 = some (.int (Int32.ofNat nc))) (hnc : nc ≤ 20) (w1 : et_pl (eg_at G aw) 1 = some (.int (Int32.ofNat tc))) (htc : tc ≤ 4) (k_fa : K fa = some 14) (k_tg : K tg = some 24) (m14 : et_pl (eg_at G am) 14 = some (.ref fa)) (m15 : et_pl (eg_at G am) 15 = some (.ref tg)) (hn : n < e) (hw : w ≤ 6) (hkd : ∀ m, m < w → Kd m ≤ 2) (hv : evM G aw n w C Kd N l s t f) (hk : k < tc) (hT : tuT G aw (126 + 841 * (4 + k)) 1 ls) (hcl : ∀ l ∈ ls, lcl1 l) (hc : c < nc) (cx : et_pl (eg_at G aw) (5 + 2 * c) = some (.int x)) (cy : et_pl (eg_at G aw) (6 + 2 * c) = some (.int (Int32.ofNat (if ye = true then 1 else 0)))) (hd : 10 ≤ d2) : et_go none d2 244 0 (eg_en (eg_mL 244) [.ref am, .int (Int32.ofNat n), .int (Int32.ofNat c), .int (Int32.ofNat k)]) [] G 0 0 (fun u => u.1 = .inl (some (.int (Int32.ofNat (if shW C Kd x w ye (N, l, s) = true then 1 else 0)))) ∧ et_pl (eg_at u.2.1 am) 0 = some (.int (Int32.ofNat 0)) ∧ owt aw n G u.2.1 ∧ evM u.2.1 aw n w C Kd (nxN C Kd x w t f ls ye (N, l, s)).1 (nxN C Kd x w t f ls ye (N, l, s)).2.1 (nxN C Kd x w t f ls ye (N, l, s)).2.2 t f) := by
  obtain ⟨d, rfl⟩ : ∃ d, d2 = d + 10 := ⟨d2 - 10, by omega⟩
  have ho : owt aw n G G := owt.rf
  rw [show eg_mL 244 = 4 from by decide +kernel]
  show et_go none (d + 10) 244 0 [some (.ref am), some (.int (Int32.ofNat n)), some (.int (Int32.ofNat c)), some (.int (Int32.ofNat k))] [] G 0 0 _
  have lt_am := (hH.2.2 _ _ k_am).1
  have lt_aw := (hH.2.2 _ _ k_aw).1
  have lt_fa := (hH.2.2 _ _ k_fa).1
  have lt_tg := (hH.2.2 _ _ k_tg).1
  refine hs_aload (i := 0) (p := 1) (by decide +kernel) rfl ?_
  refine hs_k (x := Int32.ofNat 0) (p := 2) (by decide +kernel) ?_
  have hHo := hH
  refine hf_put (T := et_TT) (t := 13) (ci := 11) (f := 0) (p := 5) (ty := .int) (by decide +kernel) rfl rfl rfl rfl rfl hH k_am hi_any (fun G2 hH x2 e2 => ?_)
  have hv := hv.xs hHo k_aw x2 (fun j h => hi_ne k_aw k_am (by decide) h.1) hw
  have ho := ho.xs hHo k_aw x2 (fun j h => hi_ne k_aw k_am (by decide) h.1)
  have m1 := (x2.2 am 1 lt_am (fun h => absurd h.2 (by decide))).trans m1
  have w4 := (x2.2 aw 4 lt_aw (fun h => (hi_ne k_aw k_am (by decide)) h.1)).trans w4
  have w3 := (x2.2 aw 3 lt_aw (fun h => (hi_ne k_aw k_am (by decide)) h.1)).trans w3
  have w1 := (x2.2 aw 1 lt_aw (fun h => (hi_ne k_aw k_am (by decide)) h.1)).trans w1
  have m14 := (x2.2 am 14 lt_am (fun h => absurd h.2 (by decide))).trans m14
  have m15 := (x2.2 am 15 lt_am (fun h => absurd h.2 (by decide))).trans m15
  have lt_am := Nat.lt_of_lt_of_le lt_am x2.1
  have lt_aw := Nat.lt_of_lt_of_le lt_aw x2.1
  have lt_fa := Nat.lt_of_lt_of_le lt_fa x2.1
  have lt_tg := Nat.lt_of_lt_of_le lt_tg x2.1
  refine hs_aload (i := 0) (p := 6) (by decide +kernel) rfl ?_
  refine hs_aload (i := 0) (p := 7) (by decide +kernel) rfl ?_
  refine hs_iload (i := 1) (p := 8) (by decide +kernel) rfl ?_
  refine ht_callv (T := et_TT) (t := 13) (mi := 208) (na := 1) (ci := 11) (lk := 4) (lm := 2) (L0 := eg_en (eg_mL 208) [.ref am, .int (Int32.ofNat n)]) (by decide +kernel) rfl hH k_am rfl rfl rfl rfl rfl (by rw [show eg_mL 208 = 2 from by decide +kernel]; first | done | rfl) ?_
  refine (fm_nEy hH k_am k_aw m1 w4 he hn (by omega)).mono (fun u hu => xp_cb hu ?_)
  show et_go none _ 244 11 _ [.int (Int32.ofNat 0), .ref am] _ _ _ _
  refine hs_if0 (c := .ne) (t := 30) (f := 14) (by decide +kernel) (show ¬ (¬ Int32.ofNat 0 = 0) by decide) ?_
  refine hs_aload (i := 0) (p := 15) (by decide +kernel) rfl ?_
  refine hs_iload (i := 2) (p := 16) (by decide +kernel) rfl ?_
  refine ht_callv (T := et_TT) (t := 13) (mi := 245) (na := 1) (ci := 11) (lk := 4) (lm := 2) (L0 := eg_en (eg_mL 245) [.ref am, .int (Int32.ofNat c)]) (by decide +kernel) rfl hH k_am rfl rfl rfl rfl rfl (by rw [show eg_mL 245 = 2 from by decide +kernel]; first | done | rfl) ?_
  refine (fm_yes0 (fm_nC (x := Int32.ofNat c) hH k_am k_aw m1 w3 hnc (by omega)) hc (by omega)).mono (fun u hu => xp_cb hu ?_)
  show et_go none _ 244 19 _ [.int (Int32.ofNat 0), .ref am] _ _ _ _
  refine hs_if0 (c := .ne) (t := 30) (f := 22) (by decide +kernel) (show ¬ (¬ Int32.ofNat 0 = 0) by decide) ?_
  refine hs_aload (i := 0) (p := 23) (by decide +kernel) rfl ?_
  refine hs_iload (i := 3) (p := 24) (by decide +kernel) rfl ?_
  refine ht_callv (T := et_TT) (t := 13) (mi := 246) (na := 1) (ci := 11) (lk := 4) (lm := 2) (L0 := eg_en (eg_mL 246) [.ref am, .int (Int32.ofNat k)]) (by decide +kernel) rfl hH k_am rfl rfl rfl rfl rfl (by rw [show eg_mL 246 = 2 from by decide +kernel]; first | done | rfl) ?_
  refine (fm_yes0 (fm_nT (x := Int32.ofNat k) hH k_am k_aw m1 w1 htc (by omega)) hk (by omega)).mono (fun u hu => xp_cb hu ?_)
  show et_go none _ 244 27 _ [.int (Int32.ofNat 0), .ref am] _ _ _ _
  refine hs_if1 (c := .eq) (t := 34) (f := 30) (by decide +kernel) (show Int32.ofNat 0 = 0 by decide) ?_
  refine hs_k (x := Int32.ofNat 0) (p := 35) (by decide +kernel) ?_
  refine hs_k (x := Int32.ofNat 1) (p := 36) (by decide +kernel) ?_
  refine ht_callv (T := et_TT) (t := 13) (mi := 204) (na := 2) (ci := 11) (lk := 4) (lm := 3) (L0 := eg_en (eg_mL 204) [.ref am, .int (Int32.ofNat 0), .int (Int32.ofNat 1)]) (by decide +kernel) rfl hH k_am rfl rfl rfl rfl rfl (by rw [show eg_mL 204 = 3 from by decide +kernel]; first | done | rfl) ?_
  refine (fm_t0 hH k_am).mono (fun u hu => xp_cb hu ?_)
  show et_go none _ 244 39 _ [.int (Int32.ofNat 0)] _ _ _ _
  refine hs_if0 (c := .ne) (t := 56) (f := 42) (by decide +kernel) (show ¬ (¬ Int32.ofNat 0 = 0) by decide) ?_
  refine hs_aload (i := 0) (p := 43) (by decide +kernel) rfl ?_
  refine hs_iload (i := 1) (p := 44) (by decide +kernel) rfl ?_
  refine hs_iload (i := 2) (p := 45) (by decide +kernel) rfl ?_
  refine hs_iload (i := 3) (p := 46) (by decide +kernel) rfl ?_
  refine ht_callv (T := et_TT) (t := 13) (mi := 247) (na := 3) (ci := 11) (lk := 4) (lm := 10) (L0 := eg_en (eg_mL 247) [.ref am, .int (Int32.ofNat n), .int (Int32.ofNat c), .int (Int32.ofNat k)]) (by decide +kernel) rfl hH k_am rfl rfl rfl rfl rfl (by rw [show eg_mL 247 = 10 from by decide +kernel]; first | done | rfl) ?_
  refine fn_shows (C := C) (N := N) (ls := ls) (ye := ye) hH k_am k_aw m1 k_fa k_tg m14 m15 (by omega) hw hkd hv (by omega) (hT.mp (fun j hj => ho _ (.inr (by omega)))) hcl (by omega) ((ho _ (.inl (by omega))).trans cx) ((ho _ (.inl (by omega))).trans cy) (by omega) (fun K46 G46 x46 hH f46 o46 hv => ?_)
  have th9 := (f46.2 am 13 k_am 0 rfl).trans e2
  refine hs_cb ?_
  by_cases hs9 : shW C Kd x w ye (N, l, s) = true
  · rw [if_pos hs9]
    show et_go none _ 244 49 _ [.int (Int32.ofNat 1)] _ _ _ _
    refine hs_if0 (c := .eq) (t := 56) (f := 52) (by decide +kernel) (show ¬ (Int32.ofNat 1 = 0) by decide) ?_
    refine hs_k (x := Int32.ofNat 1) (p := 53) (by decide +kernel) ?_
    refine hs_goto (p := 57) (by decide +kernel) ?_
    refine hs_zret (by decide +kernel) (.inr rfl) ?_
    exact ⟨by first | rfl | rw [if_pos hs9], th9, ho.tr o46, hv⟩
  · rw [if_neg hs9]
    show et_go none _ 244 49 _ [.int (Int32.ofNat 0)] _ _ _ _
    refine hs_if1 (c := .eq) (t := 56) (f := 52) (by decide +kernel) (show Int32.ofNat 0 = 0 by decide) ?_
    refine hs_k (x := Int32.ofNat 0) (p := 57) (by decide +kernel) ?_
    refine hs_zret (by decide +kernel) (.inl rfl) ?_
    exact ⟨by first | rfl | rw [if_neg hs9], th9, ho.tr o46, hv⟩
theorem fm_showN (hH : et_H et_TT K G) (k_am : K am = some 13) (k_aw : K aw = some 46) (m1 : et_pl (eg_at G am) 1 = some (.ref aw)) (w4 : et_pl (eg_at G aw) 4 = some (.int (Int32.ofNat e))) (he : e ≤ 3) (w3 : et_pl (eg_at G aw) 3 = some (.int (Int32.ofNat nc))) (hnc : nc ≤ 20) (w1 : et_pl (eg_at G aw) 1 = some (.int (Int32.ofNat tc))) (htc : tc ≤ 4) (hne : ¬ (xr x e ∧ xr y nc ∧ xr zz tc)) (hd : 2 ≤ d2) : et_go none d2 244 0 (eg_en (eg_mL 244) [.ref am, .int x, .int y, .int zz]) [] G 0 0 (fun u => u.1 = .inl (some (.int (Int32.ofNat 0))) ∧ et_pl (eg_at u.2.1 am) 0 = some (.int (Int32.ofNat 1)) ∧ ∀ j, et_pl (eg_at u.2.1 aw) j = et_pl (eg_at G aw) j) := by
  obtain ⟨d, rfl⟩ : ∃ d, d2 = d + 2 := ⟨d2 - 2, by omega⟩
  have hw9 : ∀ j, et_pl (eg_at G aw) j = et_pl (eg_at G aw) j := fun _ => rfl
  rw [show eg_mL 244 = 4 from by decide +kernel]
  show et_go none (d + 2) 244 0 [some (.ref am), some (.int x), some (.int y), some (.int zz)] [] G 0 0 _
  have lt_am := (hH.2.2 _ _ k_am).1
  have lt_aw := (hH.2.2 _ _ k_aw).1
  refine hs_aload (i := 0) (p := 1) (by decide +kernel) rfl ?_
  refine hs_k (x := Int32.ofNat 0) (p := 2) (by decide +kernel) ?_
  have hHo := hH
  refine hf_put (T := et_TT) (t := 13) (ci := 11) (f := 0) (p := 5) (ty := .int) (by decide +kernel) rfl rfl rfl rfl rfl hH k_am hi_any (fun G2 hH x2 e2 => ?_)
  have hw9 : ∀ j, et_pl (eg_at G2 aw) j = et_pl (eg_at G aw) j := fun j => (x2.2 aw j lt_aw (fun h => hi_ne k_aw k_am (by decide) h.1)).trans (hw9 j)
  have m1 := (x2.2 am 1 lt_am (fun h => absurd h.2 (by decide))).trans m1
  have w4 := (x2.2 aw 4 lt_aw (fun h => (hi_ne k_aw k_am (by decide)) h.1)).trans w4
  have w3 := (x2.2 aw 3 lt_aw (fun h => (hi_ne k_aw k_am (by decide)) h.1)).trans w3
  have w1 := (x2.2 aw 1 lt_aw (fun h => (hi_ne k_aw k_am (by decide)) h.1)).trans w1
  have lt_am := Nat.lt_of_lt_of_le lt_am x2.1
  have lt_aw := Nat.lt_of_lt_of_le lt_aw x2.1
  refine hs_aload (i := 0) (p := 6) (by decide +kernel) rfl ?_
  refine hs_aload (i := 0) (p := 7) (by decide +kernel) rfl ?_
  refine hs_iload (i := 1) (p := 8) (by decide +kernel) rfl ?_
  refine ht_callv (T := et_TT) (t := 13) (mi := 208) (na := 1) (ci := 11) (lk := 4) (lm := 2) (L0 := eg_en (eg_mL 208) [.ref am, .int x]) (by decide +kernel) rfl hH k_am rfl rfl rfl rfl rfl (by rw [show eg_mL 208 = 2 from by decide +kernel]; first | done | rfl) ?_
  refine (fm_nE (x := x) hH k_am k_aw m1 w4 he (by omega)).mono (fun u hu => xp_cb hu ?_)
  by_cases xe : 0 ≤ x.toInt ∧ x.toInt < (e : Int)
  · rw [if_pos xe]
    show et_go none _ 244 11 _ [.int (Int32.ofNat 0), .ref am] _ _ _ _
    refine hs_if0 (c := .ne) (t := 30) (f := 14) (by decide +kernel) (show ¬ (¬ Int32.ofNat 0 = 0) by decide) ?_
    refine hs_aload (i := 0) (p := 15) (by decide +kernel) rfl ?_
    refine hs_iload (i := 2) (p := 16) (by decide +kernel) rfl ?_
    refine ht_callv (T := et_TT) (t := 13) (mi := 245) (na := 1) (ci := 11) (lk := 4) (lm := 2) (L0 := eg_en (eg_mL 245) [.ref am, .int y]) (by decide +kernel) rfl hH k_am rfl rfl rfl rfl rfl (by rw [show eg_mL 245 = 2 from by decide +kernel]; first | done | rfl) ?_
    refine (fm_nC (x := y) hH k_am k_aw m1 w3 hnc (by omega)).mono (fun u hu => xp_cb hu ?_)
    by_cases xc : 0 ≤ y.toInt ∧ y.toInt < (nc : Int)
    · rw [if_pos xc]
      show et_go none _ 244 19 _ [.int (Int32.ofNat 0), .ref am] _ _ _ _
      refine hs_if0 (c := .ne) (t := 30) (f := 22) (by decide +kernel) (show ¬ (¬ Int32.ofNat 0 = 0) by decide) ?_
      refine hs_aload (i := 0) (p := 23) (by decide +kernel) rfl ?_
      refine hs_iload (i := 3) (p := 24) (by decide +kernel) rfl ?_
      refine ht_callv (T := et_TT) (t := 13) (mi := 246) (na := 1) (ci := 11) (lk := 4) (lm := 2) (L0 := eg_en (eg_mL 246) [.ref am, .int zz]) (by decide +kernel) rfl hH k_am rfl rfl rfl rfl rfl (by rw [show eg_mL 246 = 2 from by decide +kernel]; first | done | rfl) ?_
      refine (fm_nT (x := zz) hH k_am k_aw m1 w1 htc (by omega)).mono (fun u hu => xp_cb hu ?_)
      by_cases xt : 0 ≤ zz.toInt ∧ zz.toInt < (tc : Int)
      · exact absurd ⟨xe, xc, xt⟩ hne
      · rw [if_neg xt]
        show et_go none _ 244 27 _ [.int (Int32.ofNat 1), .ref am] _ _ _ _
        refine hs_if0 (c := .eq) (t := 34) (f := 30) (by decide +kernel) (show ¬ (Int32.ofNat 1 = 0) by decide) ?_
        refine hs_k (x := Int32.ofNat 1) (p := 31) (by decide +kernel) ?_
        refine hs_goto (p := 35) (by decide +kernel) ?_
        refine hs_k (x := Int32.ofNat 1) (p := 36) (by decide +kernel) ?_
        have hHo := hH
        refine ht_callv (T := et_TT) (t := 13) (mi := 204) (na := 2) (ci := 11) (lk := 4) (lm := 3) (L0 := eg_en (eg_mL 204) [.ref am, .int (Int32.ofNat 1), .int (Int32.ofNat 1)]) (by decide +kernel) rfl hH k_am rfl rfl rfl rfl rfl (by rw [show eg_mL 204 = 3 from by decide +kernel]; first | done | rfl) ?_
        refine (fm_t1 hH k_am).mono (fun u hu => xw_cb hu (fun G36 v36 hH x36 hP36 => ?_))
        have hw9 : ∀ j, et_pl (eg_at G36 aw) j = et_pl (eg_at G aw) j := fun j => (x36.2 aw j lt_aw (fun h => hi_ne k_aw k_am (by decide) h.1)).trans (hw9 j)
        have m1 := (x36.2 am 1 lt_am (fun h => absurd h.2 (by decide))).trans m1
        have w4 := (x36.2 aw 4 lt_aw (fun h => (hi_ne k_aw k_am (by decide)) h.1)).trans w4
        have w3 := (x36.2 aw 3 lt_aw (fun h => (hi_ne k_aw k_am (by decide)) h.1)).trans w3
        have w1 := (x36.2 aw 1 lt_aw (fun h => (hi_ne k_aw k_am (by decide)) h.1)).trans w1
        have lt_am := Nat.lt_of_lt_of_le lt_am x36.1
        have lt_aw := Nat.lt_of_lt_of_le lt_aw x36.1
        obtain ⟨rfl, th36⟩ := hP36
        show et_go none _ 244 39 _ [.int (Int32.ofNat 1)] _ _ _ _
        refine hs_if1 (c := .ne) (t := 56) (f := 42) (by decide +kernel) (show ¬ Int32.ofNat 1 = 0 by decide) ?_
        refine hs_k (x := Int32.ofNat 0) (p := 57) (by decide +kernel) ?_
        refine hs_zret (by decide +kernel) (.inl rfl) ?_
        exact ⟨rfl, th36, hw9⟩
    · rw [if_neg xc]
      show et_go none _ 244 19 _ [.int (Int32.ofNat 1), .ref am] _ _ _ _
      refine hs_if1 (c := .ne) (t := 30) (f := 22) (by decide +kernel) (show ¬ Int32.ofNat 1 = 0 by decide) ?_
      refine hs_k (x := Int32.ofNat 1) (p := 31) (by decide +kernel) ?_
      refine hs_goto (p := 35) (by decide +kernel) ?_
      refine hs_k (x := Int32.ofNat 1) (p := 36) (by decide +kernel) ?_
      have hHo := hH
      refine ht_callv (T := et_TT) (t := 13) (mi := 204) (na := 2) (ci := 11) (lk := 4) (lm := 3) (L0 := eg_en (eg_mL 204) [.ref am, .int (Int32.ofNat 1), .int (Int32.ofNat 1)]) (by decide +kernel) rfl hH k_am rfl rfl rfl rfl rfl (by rw [show eg_mL 204 = 3 from by decide +kernel]; first | done | rfl) ?_
      refine (fm_t1 hH k_am).mono (fun u hu => xw_cb hu (fun G36 v36 hH x36 hP36 => ?_))
      have hw9 : ∀ j, et_pl (eg_at G36 aw) j = et_pl (eg_at G aw) j := fun j => (x36.2 aw j lt_aw (fun h => hi_ne k_aw k_am (by decide) h.1)).trans (hw9 j)
      have m1 := (x36.2 am 1 lt_am (fun h => absurd h.2 (by decide))).trans m1
      have w4 := (x36.2 aw 4 lt_aw (fun h => (hi_ne k_aw k_am (by decide)) h.1)).trans w4
      have w3 := (x36.2 aw 3 lt_aw (fun h => (hi_ne k_aw k_am (by decide)) h.1)).trans w3
      have w1 := (x36.2 aw 1 lt_aw (fun h => (hi_ne k_aw k_am (by decide)) h.1)).trans w1
      have lt_am := Nat.lt_of_lt_of_le lt_am x36.1
      have lt_aw := Nat.lt_of_lt_of_le lt_aw x36.1
      obtain ⟨rfl, th36⟩ := hP36
      show et_go none _ 244 39 _ [.int (Int32.ofNat 1)] _ _ _ _
      refine hs_if1 (c := .ne) (t := 56) (f := 42) (by decide +kernel) (show ¬ Int32.ofNat 1 = 0 by decide) ?_
      refine hs_k (x := Int32.ofNat 0) (p := 57) (by decide +kernel) ?_
      refine hs_zret (by decide +kernel) (.inl rfl) ?_
      exact ⟨rfl, th36, hw9⟩
  · rw [if_neg xe]
    show et_go none _ 244 11 _ [.int (Int32.ofNat 1), .ref am] _ _ _ _
    refine hs_if1 (c := .ne) (t := 30) (f := 14) (by decide +kernel) (show ¬ Int32.ofNat 1 = 0 by decide) ?_
    refine hs_k (x := Int32.ofNat 1) (p := 31) (by decide +kernel) ?_
    refine hs_goto (p := 35) (by decide +kernel) ?_
    refine hs_k (x := Int32.ofNat 1) (p := 36) (by decide +kernel) ?_
    have hHo := hH
    refine ht_callv (T := et_TT) (t := 13) (mi := 204) (na := 2) (ci := 11) (lk := 4) (lm := 3) (L0 := eg_en (eg_mL 204) [.ref am, .int (Int32.ofNat 1), .int (Int32.ofNat 1)]) (by decide +kernel) rfl hH k_am rfl rfl rfl rfl rfl (by rw [show eg_mL 204 = 3 from by decide +kernel]; first | done | rfl) ?_
    refine (fm_t1 hH k_am).mono (fun u hu => xw_cb hu (fun G36 v36 hH x36 hP36 => ?_))
    have hw9 : ∀ j, et_pl (eg_at G36 aw) j = et_pl (eg_at G aw) j := fun j => (x36.2 aw j lt_aw (fun h => hi_ne k_aw k_am (by decide) h.1)).trans (hw9 j)
    have m1 := (x36.2 am 1 lt_am (fun h => absurd h.2 (by decide))).trans m1
    have w4 := (x36.2 aw 4 lt_aw (fun h => (hi_ne k_aw k_am (by decide)) h.1)).trans w4
    have w3 := (x36.2 aw 3 lt_aw (fun h => (hi_ne k_aw k_am (by decide)) h.1)).trans w3
    have w1 := (x36.2 aw 1 lt_aw (fun h => (hi_ne k_aw k_am (by decide)) h.1)).trans w1
    have lt_am := Nat.lt_of_lt_of_le lt_am x36.1
    have lt_aw := Nat.lt_of_lt_of_le lt_aw x36.1
    obtain ⟨rfl, th36⟩ := hP36
    show et_go none _ 244 39 _ [.int (Int32.ofNat 1)] _ _ _ _
    refine hs_if1 (c := .ne) (t := 56) (f := 42) (by decide +kernel) (show ¬ Int32.ofNat 1 = 0 by decide) ?_
    refine hs_k (x := Int32.ofNat 0) (p := 57) (by decide +kernel) ?_
    refine hs_zret (by decide +kernel) (.inl rfl) ?_
    exact ⟨rfl, th36, hw9⟩
theorem fm_rdL {K0 : et_K} {G0 : eg_G} (hH : et_H et_TT K G) (k_am : K am = some 13) (k_aw : K aw = some 46) (m1 : et_pl (eg_at G am) 1 = some (.ref aw)) (k_fa : K fa = some 14) (k_tg : K tg = some 24) (m14 : et_pl (eg_at G am) 14 = some (.ref fa)) (m15 : et_pl (eg_at G am) 15 = some (.ref tg)) (w3 : et_pl (eg_at G0 aw) 3 = some (.int (Int32.ofNat nc))) (hnc : nc ≤ 20) (hk : k < 4) (hT : tuT G0 aw (126 + 841 * (4 + k)) 1 ls) (hcl : ∀ l ∈ ls, lcl1 l) (hcx : ∀ c, c < nc → et_pl (eg_at G0 aw) (5 + 2 * c) = some (.int (X c)) ∧ et_pl (eg_at G0 aw) (6 + 2 * c) = some (.int (Int32.ofNat (if B c = true then 1 else 0)))) (hn : n < 3) (hw : w ≤ 6) (hkd : ∀ m, m < w → Kd m ≤ 2) (hv : evM G aw n w C Kd (rdS C Kd X B w t f ls c v).1 (rdS C Kd X B w t f ls c v).2.1 (rdS C Kd X B w t f ls c v).2.2 t f) (hx0 : et_ex K0 K) (hf : et_fr shM K0 G0 G) (ho : owt aw n G0 G) (hc : c ≤ nc) (h : ∀ (K' : et_K) (G' : eg_G), et_ex K0 K' → et_H et_TT K' G' → et_fr shM K0 G0 G' → owt aw n G0 G' → evM G' aw n w C Kd (rdS C Kd X B w t f ls nc v).1 (rdS C Kd X B w t f ls nc v).2.1 (rdS C Kd X B w t f ls nc v).2.2 t f → et_go none (d + 10) 252 103 [some (.ref am), some (.int (Int32.ofNat n)), some (.int (Int32.ofNat k)), some (.int (Int32.ofNat z)), some (.int (Int32.ofNat r)), some (.int (Int32.ofNat (if (rdW C Kd X B w t f ls nc v) = true then 0 else 1))), some (.int (Int32.ofNat nc))] [] G' 0 0 Z) : et_go none (d + 10) 252 74 [some (.ref am), some (.int (Int32.ofNat n)), some (.int (Int32.ofNat k)), some (.int (Int32.ofNat z)), some (.int (Int32.ofNat r)), some (.int (Int32.ofNat (if (rdW C Kd X B w t f ls c v) = true then 0 else 1))), some (.int (Int32.ofNat c))] [] G 0 0 Z := by
  induction hz : nc - c using Nat.strongRecOn generalizing c K G with
  | _ q ih =>
    have lt_am := (hH.2.2 _ _ k_am).1
    have lt_aw := (hH.2.2 _ _ k_aw).1
    have lt_fa := (hH.2.2 _ _ k_fa).1
    have lt_tg := (hH.2.2 _ _ k_tg).1
    refine hs_iload (i := 6) (p := 76) (by decide +kernel) rfl ?_
    refine hs_aload (i := 0) (p := 77) (by decide +kernel) rfl ?_
    refine ht_callv (T := et_TT) (t := 13) (mi := 218) (na := 0) (ci := 11) (lk := 7) (lm := 1) (L0 := eg_en (eg_mL 218) [.ref am]) (by decide +kernel) rfl hH k_am rfl rfl rfl rfl rfl (by rw [show eg_mL 218 = 1 from by decide +kernel]; first | done | rfl) ?_
    refine (fm_cards hH k_am k_aw m1 ((ho _ (.inl (by omega))).trans w3)).mono (fun u hu => xp_cb hu ?_)
    show et_go none _ 252 80 _ [.int (Int32.ofNat nc), .int (Int32.ofNat c)] _ _ _ _
    refine hs_br2n (c := .ge) (t := 103) (f := 83) (by decide +kernel) (by omega) (by omega) (fun (c80 : nc ≤ c) => ?_) (fun (c80 : ¬ (nc ≤ c)) => ?_)
    · obtain rfl : nc = c := by omega
      show et_go none (d + 10) 252 103 [some (.ref am), some (.int (Int32.ofNat n)), some (.int (Int32.ofNat k)), some (.int (Int32.ofNat z)), some (.int (Int32.ofNat r)), some (.int (Int32.ofNat (if (rdW C Kd X B w t f ls nc v) = true then 0 else 1))), some (.int (Int32.ofNat nc))] [] _ _ _ _
      exact h _ _ hx0 hH hf ho hv
    · refine hs_aload (i := 0) (p := 84) (by decide +kernel) rfl ?_
      refine hs_iload (i := 1) (p := 85) (by decide +kernel) rfl ?_
      refine hs_iload (i := 6) (p := 87) (by decide +kernel) rfl ?_
      refine hs_iload (i := 2) (p := 88) (by decide +kernel) rfl ?_
      refine ht_callv (T := et_TT) (t := 13) (mi := 247) (na := 3) (ci := 11) (lk := 7) (lm := 10) (L0 := eg_en (eg_mL 247) [.ref am, .int (Int32.ofNat n), .int (Int32.ofNat c), .int (Int32.ofNat k)]) (by decide +kernel) rfl hH k_am rfl rfl rfl rfl rfl (by rw [show eg_mL 247 = 10 from by decide +kernel]; first | done | rfl) ?_
      refine fn_shows (C := C) (N := (rdS C Kd X B w t f ls c v).1) (ls := ls) (ye := B c) hH k_am k_aw m1 k_fa k_tg m14 m15 hn hw hkd hv hk (hT.mp (fun j hj => ho _ (.inr (by omega)))) hcl (by omega) ((ho _ (.inl (by omega))).trans (hcx c (by omega)).1) ((ho _ (.inl (by omega))).trans (hcx c (by omega)).2) (by omega) (fun K88 G88 x88 hH f88 o88 hv => ?_)
      have m1 := (f88.2 am 13 k_am 1 rfl).trans m1
      have m14 := (f88.2 am 13 k_am 14 rfl).trans m14
      have m15 := (f88.2 am 13 k_am 15 rfl).trans m15
      have hf := hf.tr hx0 f88
      have hx0 := hx0.tr x88
      have ho := ho.tr o88
      have k_am := x88 _ _ k_am
      have lt_am := (hH.2.2 _ _ k_am).1
      have k_aw := x88 _ _ k_aw
      have lt_aw := (hH.2.2 _ _ k_aw).1
      have k_fa := x88 _ _ k_fa
      have lt_fa := (hH.2.2 _ _ k_fa).1
      have k_tg := x88 _ _ k_tg
      have lt_tg := (hH.2.2 _ _ k_tg).1
      refine hs_cb ?_
      by_cases hs9 : shW C Kd (X c) w (B c) ((rdS C Kd X B w t f ls c v).1, (rdS C Kd X B w t f ls c v).2.1, (rdS C Kd X B w t f ls c v).2.2) = true
      · rw [if_pos hs9]
        show et_go none _ 252 91 _ [.int (Int32.ofNat 1)] _ _ _ _
        refine hs_if0 (c := .eq) (t := 97) (f := 94) (by decide +kernel) (show ¬ (Int32.ofNat 1 = 0) by decide) ?_
        refine hs_k (x := Int32.ofNat 0) (p := 95) (by decide +kernel) ?_
        refine hs_istore (i := 5) (p := 97) (by decide +kernel) (Nat.le_of_ble_eq_true rfl) ?_
        refine hs_iinc1 (i := 6) (p := 100) (by decide +kernel) rfl (Nat.le_of_ble_eq_true rfl) ?_
        refine hs_goto (p := 74) (by decide +kernel) ?_
        have hg := (show rdW C Kd X B w t f ls (c + 1) v = true from (by show (rdW C Kd X B w t f ls c v || shW C Kd (X c) w (B c) (rdS C Kd X B w t f ls c v)) = true; rw [show shW C Kd (X c) w (B c) (rdS C Kd X B w t f ls c v) = true from hs9, Bool.or_true]))
        have key : et_go none (d + 10) 252 74 [some (.ref am), some (.int (Int32.ofNat n)), some (.int (Int32.ofNat k)), some (.int (Int32.ofNat z)), some (.int (Int32.ofNat r)), some (.int (Int32.ofNat (if (rdW C Kd X B w t f ls (c + 1) v) = true then 0 else 1))), some (.int (Int32.ofNat (c + 1)))] [] G88 0 0 Z := ih (nc - (c + 1)) (by omega) hH k_am k_aw m1 k_fa k_tg m14 m15 hv hx0 hf ho (by omega) rfl
        rw [hg] at key
        exact key
      · rw [if_neg hs9]
        show et_go none _ 252 91 _ [.int (Int32.ofNat 0)] _ _ _ _
        refine hs_if1 (c := .eq) (t := 97) (f := 94) (by decide +kernel) (show Int32.ofNat 0 = 0 by decide) ?_
        refine hs_iinc1 (i := 6) (p := 100) (by decide +kernel) rfl (Nat.le_of_ble_eq_true rfl) ?_
        refine hs_goto (p := 74) (by decide +kernel) ?_
        have hg := (show rdW C Kd X B w t f ls (c + 1) v = rdW C Kd X B w t f ls c v from (by show (rdW C Kd X B w t f ls c v || shW C Kd (X c) w (B c) (rdS C Kd X B w t f ls c v)) = _; rw [show shW C Kd (X c) w (B c) (rdS C Kd X B w t f ls c v) = false from Bool.eq_false_iff.mpr hs9, Bool.or_false]))
        have key : et_go none (d + 10) 252 74 [some (.ref am), some (.int (Int32.ofNat n)), some (.int (Int32.ofNat k)), some (.int (Int32.ofNat z)), some (.int (Int32.ofNat r)), some (.int (Int32.ofNat (if (rdW C Kd X B w t f ls (c + 1) v) = true then 0 else 1))), some (.int (Int32.ofNat (c + 1)))] [] G88 0 0 Z := ih (nc - (c + 1)) (by omega) hH k_am k_aw m1 k_fa k_tg m14 m15 hv hx0 hf ho (by omega) rfl
        rw [hg] at key
        exact key
theorem fm_tdL {K0 : et_K} {G0 : eg_G} (hH : et_H et_TT K G) (k_am : K am = some 13) (k_aw : K aw = some 46) (m1 : et_pl (eg_at G am) 1 = some (.ref aw)) (k_fa : K fa = some 14) (k_tg : K tg = some 24) (m14 : et_pl (eg_at G am) 14 = some (.ref fa)) (m15 : et_pl (eg_at G am) 15 = some (.ref tg)) (w3 : et_pl (eg_at G0 aw) 3 = some (.int (Int32.ofNat nc))) (hnc : nc ≤ 20) (hk : k < 4) (hT : tuT G0 aw (126 + 841 * (4 + k)) 1 ls) (hcl : ∀ l ∈ ls, lcl1 l) (hcx : ∀ c, c < nc → et_pl (eg_at G0 aw) (5 + 2 * c) = some (.int (X c)) ∧ et_pl (eg_at G0 aw) (6 + 2 * c) = some (.int (Int32.ofNat (if B c = true then 1 else 0)))) (hn : n < 3) (hw : w ≤ 6) (hkd : ∀ m, m < w → Kd m ≤ 2) (hv : evM G aw n w C Kd v.1 v.2.1 v.2.2 t f) (hx0 : et_ex K0 K) (hf : et_fr shM K0 G0 G) (ho : owt aw n G0 G) (k0_am : K0 am = some 13) (k0_aw : K0 aw = some 46) (k0_fa : K0 fa = some 14) (k0_tg : K0 tg = some 24) (m0_1 : et_pl (eg_at G0 am) 1 = some (.ref aw)) (m0_14 : et_pl (eg_at G0 am) 14 = some (.ref fa)) (m0_15 : et_pl (eg_at G0 am) 15 = some (.ref tg)) (hm : m + r = z + 1) (hz6 : z ≤ 60) (h : ∀ (K' : et_K) (G' : eg_G), et_ex K0 K' → et_H et_TT K' G' → et_fr shM K0 G0 G' → owt aw n G0 G' → evM G' aw n w C Kd (tdG C Kd X B w t f ls nc m r v).1.1 (tdG C Kd X B w t f ls nc m r v).1.2.1 (tdG C Kd X B w t f ls nc m r v).1.2.2 t f → Z (.inl (some (.int (tdG C Kd X B w t f ls nc m r v).2)), G', 0, 0)) : et_go none (d + 10) 252 62 [some (.ref am), some (.int (Int32.ofNat n)), some (.int (Int32.ofNat k)), some (.int (Int32.ofNat z)), some (.int (Int32.ofNat r)), x5, x6] [] G 0 0 Z := by
  induction m generalizing r v K G x5 x6 with
  | zero =>
    refine hs_iload (i := 4) (p := 64) (by decide +kernel) rfl ?_
    refine hs_iload (i := 3) (p := 65) (by decide +kernel) rfl ?_
    refine hs_br2n (c := .gt) (t := 117) (f := 68) (by decide +kernel) (by omega) (by omega) (fun (c65 : z < r) => ?_) (fun (c65 : ¬ (z < r)) => ?_)
    · refine hs_k (x := (-1)) (p := 118) (by decide +kernel) ?_
      refine hs_iret (by decide +kernel) ?_
      exact h _ _ hx0 hH hf ho hv
    · exact absurd (show z < r by omega) c65
  | succ m ih =>
    refine hs_iload (i := 4) (p := 64) (by decide +kernel) rfl ?_
    refine hs_iload (i := 3) (p := 65) (by decide +kernel) rfl ?_
    refine hs_br2n (c := .gt) (t := 117) (f := 68) (by decide +kernel) (by omega) (by omega) (fun (c65 : z < r) => ?_) (fun (c65 : ¬ (z < r)) => ?_)
    · exact absurd c65 (by omega)
    · refine hs_k (x := Int32.ofNat 1) (p := 69) (by decide +kernel) ?_
      refine hs_istore (i := 5) (p := 71) (by decide +kernel) (Nat.le_of_ble_eq_true rfl) ?_
      refine hs_k (x := Int32.ofNat 0) (p := 72) (by decide +kernel) ?_
      refine hs_istore (i := 6) (p := 74) (by decide +kernel) (Nat.le_of_ble_eq_true rfl) ?_
      show et_go none (d + 10) 252 74 [some (.ref am), some (.int (Int32.ofNat n)), some (.int (Int32.ofNat k)), some (.int (Int32.ofNat z)), some (.int (Int32.ofNat r)), some (.int (Int32.ofNat (if (rdW C Kd X B w t f ls 0 v) = true then 0 else 1))), some (.int (Int32.ofNat 0))] [] _ _ _ _
      refine fm_rdL (c := 0) hH k_am k_aw m1 k_fa k_tg m14 m15 w3 hnc hk hT hcl hcx hn hw hkd hv hx0 hf ho (Nat.zero_le _) (fun K9 G9 hx9 hH f9 o9 hv => ?_)
      have hx9b : ∀ a t, K0 a = some t → K9 a = some t := hx9
      have k_am := hx9 _ _ k0_am
      have k_aw := hx9 _ _ k0_aw
      have k_fa := hx9 _ _ k0_fa
      have k_tg := hx9 _ _ k0_tg
      have m1 := (f9.2 am 13 k0_am 1 rfl).trans m0_1
      have m14 := (f9.2 am 13 k0_am 14 rfl).trans m0_14
      have m15 := (f9.2 am 13 k0_am 15 rfl).trans m0_15
      by_cases hw9 : (rdW C Kd X B w t f ls nc v) = true
      · rw [if_pos hw9]
        show et_go none (d + 10) 252 103 [some (.ref am), some (.int (Int32.ofNat n)), some (.int (Int32.ofNat k)), some (.int (Int32.ofNat z)), some (.int (Int32.ofNat r)), some (.int (Int32.ofNat 0)), some (.int (Int32.ofNat nc))] [] _ _ _ _
        refine hs_iload (i := 5) (p := 105) (by decide +kernel) rfl ?_
        refine hs_if1 (c := .eq) (t := 111) (f := 108) (by decide +kernel) (show Int32.ofNat 0 = 0 by decide) ?_
        refine hs_iinc1 (i := 4) (p := 114) (by decide +kernel) rfl (Nat.le_of_ble_eq_true rfl) ?_
        refine hs_goto (p := 62) (by decide +kernel) ?_
        show et_go none (d + 10) 252 62 [some (.ref am), some (.int (Int32.ofNat n)), some (.int (Int32.ofNat k)), some (.int (Int32.ofNat z)), some (.int (Int32.ofNat (r + 1))), some (.int (Int32.ofNat 0)), some (.int (Int32.ofNat nc))] [] _ _ _ _
        rw [tdG_y _ _ _ _ _ _ _ _ hw9] at h
        exact ih (v := (rdS C Kd X B w t f ls nc v)) (r := r + 1) hH k_am k_aw m1 k_fa k_tg m14 m15 hv hx9 f9 o9 (by omega) h
      · rw [if_neg hw9]
        show et_go none (d + 10) 252 103 [some (.ref am), some (.int (Int32.ofNat n)), some (.int (Int32.ofNat k)), some (.int (Int32.ofNat z)), some (.int (Int32.ofNat r)), some (.int (Int32.ofNat 1)), some (.int (Int32.ofNat nc))] [] _ _ _ _
        refine hs_iload (i := 5) (p := 105) (by decide +kernel) rfl ?_
        refine hs_if0 (c := .eq) (t := 111) (f := 108) (by decide +kernel) (show ¬ (Int32.ofNat 1 = 0) by decide) ?_
        refine hs_iload (i := 4) (p := 110) (by decide +kernel) rfl ?_
        refine hs_iret (by decide +kernel) ?_
        rw [tdG_n _ _ _ _ _ _ _ _ hw9] at h
        exact h _ _ hx9 hH f9 o9 hv
theorem fm_turned (hH : et_H et_TT K G) (k_am : K am = some 13) (k_aw : K aw = some 46) (m1 : et_pl (eg_at G am) 1 = some (.ref aw)) (w4 : et_pl (eg_at G aw) 4 = some (.int (Int32.ofNat e))) (he : e ≤ 3) (w3 : et_pl (eg_at G aw) 3 = some (.int (Int32.ofNat nc))) (hnc : nc ≤ 20) (w1 : et_pl (eg_at G aw) 1 = some (.int (Int32.ofNat tc))) (htc : tc ≤ 4) (k_fa : K fa = some 14) (k_tg : K tg = some 24) (m14 : et_pl (eg_at G am) 14 = some (.ref fa)) (m15 : et_pl (eg_at G am) 15 = some (.ref tg)) (hn : n < e) (hw : w ≤ 6) (hkd : ∀ m, m < w → Kd m ≤ 2) (hv : evM G aw n w C Kd v.1 v.2.1 v.2.2 t f) (hk : k < tc) (hT : tuT G aw (126 + 841 * (4 + k)) 1 ls) (hcl : ∀ l ∈ ls, lcl1 l) (hcx : ∀ c, c < nc → et_pl (eg_at G aw) (5 + 2 * c) = some (.int (X c)) ∧ et_pl (eg_at G aw) (6 + 2 * c) = some (.int (Int32.ofNat (if B c = true then 1 else 0)))) (hz : 1 ≤ z ∧ z ≤ 60) (hd : 10 ≤ d2) : et_go none d2 252 0 (eg_en (eg_mL 252) [.ref am, .int (Int32.ofNat n), .int (Int32.ofNat k), .int (Int32.ofNat z)]) [] G 0 0 (fun u => u.1 = .inl (some (.int (tdG C Kd X B w t f ls nc z 1 v).2)) ∧ et_pl (eg_at u.2.1 am) 0 = some (.int (Int32.ofNat 0)) ∧ owt aw n G u.2.1 ∧ evM u.2.1 aw n w C Kd (tdG C Kd X B w t f ls nc z 1 v).1.1 (tdG C Kd X B w t f ls nc z 1 v).1.2.1 (tdG C Kd X B w t f ls nc z 1 v).1.2.2 t f) := by
  obtain ⟨d, rfl⟩ : ∃ d, d2 = d + 10 := ⟨d2 - 10, by omega⟩
  have ho : owt aw n G G := owt.rf
  rw [show eg_mL 252 = 7 from by decide +kernel]
  show et_go none (d + 10) 252 0 [some (.ref am), some (.int (Int32.ofNat n)), some (.int (Int32.ofNat k)), some (.int (Int32.ofNat z)), none, none, none] [] G 0 0 _
  have lt_am := (hH.2.2 _ _ k_am).1
  have lt_aw := (hH.2.2 _ _ k_aw).1
  have lt_fa := (hH.2.2 _ _ k_fa).1
  have lt_tg := (hH.2.2 _ _ k_tg).1
  refine hs_aload (i := 0) (p := 1) (by decide +kernel) rfl ?_
  refine hs_k (x := Int32.ofNat 0) (p := 2) (by decide +kernel) ?_
  have hHo := hH
  refine hf_put (T := et_TT) (t := 13) (ci := 11) (f := 0) (p := 5) (ty := .int) (by decide +kernel) rfl rfl rfl rfl rfl hH k_am hi_any (fun G2 hH x2 e2 => ?_)
  have hv := hv.xs hHo k_aw x2 (fun j h => hi_ne k_aw k_am (by decide) h.1) hw
  have ho := ho.xs hHo k_aw x2 (fun j h => hi_ne k_aw k_am (by decide) h.1)
  have m1 := (x2.2 am 1 lt_am (fun h => absurd h.2 (by decide))).trans m1
  have w4 := (x2.2 aw 4 lt_aw (fun h => (hi_ne k_aw k_am (by decide)) h.1)).trans w4
  have w3 := (x2.2 aw 3 lt_aw (fun h => (hi_ne k_aw k_am (by decide)) h.1)).trans w3
  have w1 := (x2.2 aw 1 lt_aw (fun h => (hi_ne k_aw k_am (by decide)) h.1)).trans w1
  have m14 := (x2.2 am 14 lt_am (fun h => absurd h.2 (by decide))).trans m14
  have m15 := (x2.2 am 15 lt_am (fun h => absurd h.2 (by decide))).trans m15
  have lt_am := Nat.lt_of_lt_of_le lt_am x2.1
  have lt_aw := Nat.lt_of_lt_of_le lt_aw x2.1
  have lt_fa := Nat.lt_of_lt_of_le lt_fa x2.1
  have lt_tg := Nat.lt_of_lt_of_le lt_tg x2.1
  refine hs_aload (i := 0) (p := 6) (by decide +kernel) rfl ?_
  refine hs_aload (i := 0) (p := 7) (by decide +kernel) rfl ?_
  refine hs_iload (i := 1) (p := 8) (by decide +kernel) rfl ?_
  refine ht_callv (T := et_TT) (t := 13) (mi := 208) (na := 1) (ci := 11) (lk := 7) (lm := 2) (L0 := eg_en (eg_mL 208) [.ref am, .int (Int32.ofNat n)]) (by decide +kernel) rfl hH k_am rfl rfl rfl rfl rfl (by rw [show eg_mL 208 = 2 from by decide +kernel]; first | done | rfl) ?_
  refine (fm_nEy hH k_am k_aw m1 w4 he hn (by omega)).mono (fun u hu => xp_cb hu ?_)
  show et_go none _ 252 11 _ [.int (Int32.ofNat 0), .ref am] _ _ _ _
  refine hs_if0 (c := .ne) (t := 22) (f := 14) (by decide +kernel) (show ¬ (¬ Int32.ofNat 0 = 0) by decide) ?_
  refine hs_aload (i := 0) (p := 15) (by decide +kernel) rfl ?_
  refine hs_iload (i := 2) (p := 16) (by decide +kernel) rfl ?_
  refine ht_callv (T := et_TT) (t := 13) (mi := 246) (na := 1) (ci := 11) (lk := 7) (lm := 2) (L0 := eg_en (eg_mL 246) [.ref am, .int (Int32.ofNat k)]) (by decide +kernel) rfl hH k_am rfl rfl rfl rfl rfl (by rw [show eg_mL 246 = 2 from by decide +kernel]; first | done | rfl) ?_
  refine (fm_yes0 (fm_nT (x := Int32.ofNat k) hH k_am k_aw m1 w1 htc (by omega)) hk (by omega)).mono (fun u hu => xp_cb hu ?_)
  show et_go none _ 252 19 _ [.int (Int32.ofNat 0), .ref am] _ _ _ _
  refine hs_if1 (c := .eq) (t := 26) (f := 22) (by decide +kernel) (show Int32.ofNat 0 = 0 by decide) ?_
  refine hs_k (x := Int32.ofNat 0) (p := 27) (by decide +kernel) ?_
  refine hs_k (x := Int32.ofNat 1) (p := 28) (by decide +kernel) ?_
  refine ht_callv (T := et_TT) (t := 13) (mi := 204) (na := 2) (ci := 11) (lk := 7) (lm := 3) (L0 := eg_en (eg_mL 204) [.ref am, .int (Int32.ofNat 0), .int (Int32.ofNat 1)]) (by decide +kernel) rfl hH k_am rfl rfl rfl rfl rfl (by rw [show eg_mL 204 = 3 from by decide +kernel]; first | done | rfl) ?_
  refine (fm_t0 hH k_am).mono (fun u hu => xp_cb hu ?_)
  show et_go none _ 252 31 _ [.int (Int32.ofNat 0)] _ _ _ _
  refine hs_if0 (c := .ne) (t := 57) (f := 34) (by decide +kernel) (show ¬ (¬ Int32.ofNat 0 = 0) by decide) ?_
  refine hs_aload (i := 0) (p := 35) (by decide +kernel) rfl ?_
  refine hs_iload (i := 3) (p := 36) (by decide +kernel) rfl ?_
  refine hs_k (x := Int32.ofNat 1) (p := 37) (by decide +kernel) ?_
  refine hs_k (x := Int32.ofNat 60) (p := 39) (by decide +kernel) ?_
  refine hs_calls (mi := 209) (na := 3) (lk := 7) (lm := 3) (L0 := eg_en (eg_mL 209) [.int (Int32.ofNat z), .int (Int32.ofNat 1), .int (Int32.ofNat 60)]) (by decide +kernel) rfl rfl rfl rfl rfl rfl (by rw [show eg_mL 209 = 3 from by decide +kernel]; first | done | rfl) ?_
  refine (fm_in (x := Int32.ofNat z) (y := Int32.ofNat 1) (z := Int32.ofNat 60)).mono (fun u hu => xp_cb hu ?_)
  by_cases xz : (Int32.ofNat 1).toInt ≤ (Int32.ofNat z).toInt ∧ (Int32.ofNat z).toInt ≤ (Int32.ofNat 60).toInt
  · rw [if_pos xz]
    show et_go none _ 252 42 _ [.int (Int32.ofNat 1), .ref am] _ _ _ _
    refine hs_if1 (c := .ne) (t := 49) (f := 45) (by decide +kernel) (show ¬ Int32.ofNat 1 = 0 by decide) ?_
    refine hs_k (x := Int32.ofNat 0) (p := 50) (by decide +kernel) ?_
    refine hs_k (x := Int32.ofNat 2) (p := 51) (by decide +kernel) ?_
    refine ht_callv (T := et_TT) (t := 13) (mi := 204) (na := 2) (ci := 11) (lk := 7) (lm := 3) (L0 := eg_en (eg_mL 204) [.ref am, .int (Int32.ofNat 0), .int (Int32.ofNat 2)]) (by decide +kernel) rfl hH k_am rfl rfl rfl rfl rfl (by rw [show eg_mL 204 = 3 from by decide +kernel]; first | done | rfl) ?_
    refine (fm_t0 hH k_am).mono (fun u hu => xp_cb hu ?_)
    show et_go none _ 252 54 _ [.int (Int32.ofNat 0)] _ _ _ _
    refine hs_if1 (c := .eq) (t := 59) (f := 57) (by decide +kernel) (show Int32.ofNat 0 = 0 by decide) ?_
    refine hs_k (x := Int32.ofNat 1) (p := 60) (by decide +kernel) ?_
    refine hs_istore (i := 4) (p := 62) (by decide +kernel) (Nat.le_of_ble_eq_true rfl) ?_
    show et_go none (d + 10) 252 62 [some (.ref am), some (.int (Int32.ofNat n)), some (.int (Int32.ofNat k)), some (.int (Int32.ofNat z)), some (.int (Int32.ofNat 1)), none, none] [] _ _ _ _
    have hT := hT.mp (fun j hj => ho (126 + 841 * (4 + k) + j) (.inr (by omega)))
    have hcx := fun (c : Nat) (hc : c < nc) => And.intro ((ho (5 + 2 * c) (.inl (by omega))).trans (hcx c hc).1) ((ho (6 + 2 * c) (.inl (by omega))).trans (hcx c hc).2)
    exact fm_tdL (m := z) hH k_am k_aw m1 k_fa k_tg m14 m15 w3 hnc (by omega) hT hcl hcx (by omega) hw hkd hv et_ex.rf et_fr.rf owt.rf k_am k_aw k_fa k_tg m1 m14 m15 rfl hz.2 (fun K9 G9 h1 h2 h3 h4 h5 => ⟨rfl, (h3.2 am 13 k_am 0 rfl).trans e2, ho.tr h4, h5⟩)
  · exact absurd ⟨by rw [hs_nint (by decide), hs_nint (by omega)]; omega, by rw [hs_nint (by omega), hs_nint (by decide)]; omega⟩ xz
theorem fm_turnedN (hH : et_H et_TT K G) (k_am : K am = some 13) (k_aw : K aw = some 46) (m1 : et_pl (eg_at G am) 1 = some (.ref aw)) (w4 : et_pl (eg_at G aw) 4 = some (.int (Int32.ofNat e))) (he : e ≤ 3) (w1 : et_pl (eg_at G aw) 1 = some (.int (Int32.ofNat tc))) (htc : tc ≤ 4) (hne : ¬ (xr x e ∧ xr y tc)) (hd : 2 ≤ d2) : et_go none d2 252 0 (eg_en (eg_mL 252) [.ref am, .int x, .int y, .int zz]) [] G 0 0 (fun u => u.1 = .inl (some (.int (Int32.ofNat 0))) ∧ et_pl (eg_at u.2.1 am) 0 = some (.int (Int32.ofNat 1)) ∧ ∀ j, et_pl (eg_at u.2.1 aw) j = et_pl (eg_at G aw) j) := by
  obtain ⟨d, rfl⟩ : ∃ d, d2 = d + 2 := ⟨d2 - 2, by omega⟩
  have hw9 : ∀ j, et_pl (eg_at G aw) j = et_pl (eg_at G aw) j := fun _ => rfl
  rw [show eg_mL 252 = 7 from by decide +kernel]
  show et_go none (d + 2) 252 0 [some (.ref am), some (.int x), some (.int y), some (.int zz), none, none, none] [] G 0 0 _
  have lt_am := (hH.2.2 _ _ k_am).1
  have lt_aw := (hH.2.2 _ _ k_aw).1
  refine hs_aload (i := 0) (p := 1) (by decide +kernel) rfl ?_
  refine hs_k (x := Int32.ofNat 0) (p := 2) (by decide +kernel) ?_
  have hHo := hH
  refine hf_put (T := et_TT) (t := 13) (ci := 11) (f := 0) (p := 5) (ty := .int) (by decide +kernel) rfl rfl rfl rfl rfl hH k_am hi_any (fun G2 hH x2 e2 => ?_)
  have hw9 : ∀ j, et_pl (eg_at G2 aw) j = et_pl (eg_at G aw) j := fun j => (x2.2 aw j lt_aw (fun h => hi_ne k_aw k_am (by decide) h.1)).trans (hw9 j)
  have m1 := (x2.2 am 1 lt_am (fun h => absurd h.2 (by decide))).trans m1
  have w4 := (x2.2 aw 4 lt_aw (fun h => (hi_ne k_aw k_am (by decide)) h.1)).trans w4
  have w1 := (x2.2 aw 1 lt_aw (fun h => (hi_ne k_aw k_am (by decide)) h.1)).trans w1
  have lt_am := Nat.lt_of_lt_of_le lt_am x2.1
  have lt_aw := Nat.lt_of_lt_of_le lt_aw x2.1
  refine hs_aload (i := 0) (p := 6) (by decide +kernel) rfl ?_
  refine hs_aload (i := 0) (p := 7) (by decide +kernel) rfl ?_
  refine hs_iload (i := 1) (p := 8) (by decide +kernel) rfl ?_
  refine ht_callv (T := et_TT) (t := 13) (mi := 208) (na := 1) (ci := 11) (lk := 7) (lm := 2) (L0 := eg_en (eg_mL 208) [.ref am, .int x]) (by decide +kernel) rfl hH k_am rfl rfl rfl rfl rfl (by rw [show eg_mL 208 = 2 from by decide +kernel]; first | done | rfl) ?_
  refine (fm_nE (x := x) hH k_am k_aw m1 w4 he (by omega)).mono (fun u hu => xp_cb hu ?_)
  by_cases xe : 0 ≤ x.toInt ∧ x.toInt < (e : Int)
  · rw [if_pos xe]
    show et_go none _ 252 11 _ [.int (Int32.ofNat 0), .ref am] _ _ _ _
    refine hs_if0 (c := .ne) (t := 22) (f := 14) (by decide +kernel) (show ¬ (¬ Int32.ofNat 0 = 0) by decide) ?_
    refine hs_aload (i := 0) (p := 15) (by decide +kernel) rfl ?_
    refine hs_iload (i := 2) (p := 16) (by decide +kernel) rfl ?_
    refine ht_callv (T := et_TT) (t := 13) (mi := 246) (na := 1) (ci := 11) (lk := 7) (lm := 2) (L0 := eg_en (eg_mL 246) [.ref am, .int y]) (by decide +kernel) rfl hH k_am rfl rfl rfl rfl rfl (by rw [show eg_mL 246 = 2 from by decide +kernel]; first | done | rfl) ?_
    refine (fm_nT (x := y) hH k_am k_aw m1 w1 htc (by omega)).mono (fun u hu => xp_cb hu ?_)
    by_cases xt : 0 ≤ y.toInt ∧ y.toInt < (tc : Int)
    · exact absurd ⟨xe, xt⟩ hne
    · rw [if_neg xt]
      show et_go none _ 252 19 _ [.int (Int32.ofNat 1), .ref am] _ _ _ _
      refine hs_if0 (c := .eq) (t := 26) (f := 22) (by decide +kernel) (show ¬ (Int32.ofNat 1 = 0) by decide) ?_
      refine hs_k (x := Int32.ofNat 1) (p := 23) (by decide +kernel) ?_
      refine hs_goto (p := 27) (by decide +kernel) ?_
      refine hs_k (x := Int32.ofNat 1) (p := 28) (by decide +kernel) ?_
      have hHo := hH
      refine ht_callv (T := et_TT) (t := 13) (mi := 204) (na := 2) (ci := 11) (lk := 7) (lm := 3) (L0 := eg_en (eg_mL 204) [.ref am, .int (Int32.ofNat 1), .int (Int32.ofNat 1)]) (by decide +kernel) rfl hH k_am rfl rfl rfl rfl rfl (by rw [show eg_mL 204 = 3 from by decide +kernel]; first | done | rfl) ?_
      refine (fm_t1 hH k_am).mono (fun u hu => xw_cb hu (fun G28 v28 hH x28 hP28 => ?_))
      have hw9 : ∀ j, et_pl (eg_at G28 aw) j = et_pl (eg_at G aw) j := fun j => (x28.2 aw j lt_aw (fun h => hi_ne k_aw k_am (by decide) h.1)).trans (hw9 j)
      have m1 := (x28.2 am 1 lt_am (fun h => absurd h.2 (by decide))).trans m1
      have w4 := (x28.2 aw 4 lt_aw (fun h => (hi_ne k_aw k_am (by decide)) h.1)).trans w4
      have w1 := (x28.2 aw 1 lt_aw (fun h => (hi_ne k_aw k_am (by decide)) h.1)).trans w1
      have lt_am := Nat.lt_of_lt_of_le lt_am x28.1
      have lt_aw := Nat.lt_of_lt_of_le lt_aw x28.1
      obtain ⟨rfl, th28⟩ := hP28
      show et_go none _ 252 31 _ [.int (Int32.ofNat 1)] _ _ _ _
      refine hs_if1 (c := .ne) (t := 57) (f := 34) (by decide +kernel) (show ¬ Int32.ofNat 1 = 0 by decide) ?_
      refine hs_k (x := Int32.ofNat 0) (p := 58) (by decide +kernel) ?_
      refine hs_iret (by decide +kernel) ?_
      exact ⟨rfl, th28, hw9⟩
  · rw [if_neg xe]
    show et_go none _ 252 11 _ [.int (Int32.ofNat 1), .ref am] _ _ _ _
    refine hs_if1 (c := .ne) (t := 22) (f := 14) (by decide +kernel) (show ¬ Int32.ofNat 1 = 0 by decide) ?_
    refine hs_k (x := Int32.ofNat 1) (p := 23) (by decide +kernel) ?_
    refine hs_goto (p := 27) (by decide +kernel) ?_
    refine hs_k (x := Int32.ofNat 1) (p := 28) (by decide +kernel) ?_
    have hHo := hH
    refine ht_callv (T := et_TT) (t := 13) (mi := 204) (na := 2) (ci := 11) (lk := 7) (lm := 3) (L0 := eg_en (eg_mL 204) [.ref am, .int (Int32.ofNat 1), .int (Int32.ofNat 1)]) (by decide +kernel) rfl hH k_am rfl rfl rfl rfl rfl (by rw [show eg_mL 204 = 3 from by decide +kernel]; first | done | rfl) ?_
    refine (fm_t1 hH k_am).mono (fun u hu => xw_cb hu (fun G28 v28 hH x28 hP28 => ?_))
    have hw9 : ∀ j, et_pl (eg_at G28 aw) j = et_pl (eg_at G aw) j := fun j => (x28.2 aw j lt_aw (fun h => hi_ne k_aw k_am (by decide) h.1)).trans (hw9 j)
    have m1 := (x28.2 am 1 lt_am (fun h => absurd h.2 (by decide))).trans m1
    have w4 := (x28.2 aw 4 lt_aw (fun h => (hi_ne k_aw k_am (by decide)) h.1)).trans w4
    have w1 := (x28.2 aw 1 lt_aw (fun h => (hi_ne k_aw k_am (by decide)) h.1)).trans w1
    have lt_am := Nat.lt_of_lt_of_le lt_am x28.1
    have lt_aw := Nat.lt_of_lt_of_le lt_aw x28.1
    obtain ⟨rfl, th28⟩ := hP28
    show et_go none _ 252 31 _ [.int (Int32.ofNat 1)] _ _ _ _
    refine hs_if1 (c := .ne) (t := 57) (f := 34) (by decide +kernel) (show ¬ Int32.ofNat 1 = 0 by decide) ?_
    refine hs_k (x := Int32.ofNat 0) (p := 58) (by decide +kernel) ?_
    refine hs_iret (by decide +kernel) ?_
    exact ⟨rfl, th28, hw9⟩
theorem fm_turnedR (hH : et_H et_TT K G) (k_am : K am = some 13) (k_aw : K aw = some 46) (m1 : et_pl (eg_at G am) 1 = some (.ref aw)) (w4 : et_pl (eg_at G aw) 4 = some (.int (Int32.ofNat e))) (he : e ≤ 3) (w1 : et_pl (eg_at G aw) 1 = some (.int (Int32.ofNat tc))) (htc : tc ≤ 4) (hx : xr x e) (hy : xr y tc) (hz : ¬ (1 ≤ zz.toInt ∧ zz.toInt ≤ 60)) (hd : 2 ≤ d2) : et_go none d2 252 0 (eg_en (eg_mL 252) [.ref am, .int x, .int y, .int zz]) [] G 0 0 (fun u => u.1 = .inl (some (.int (Int32.ofNat 0))) ∧ et_pl (eg_at u.2.1 am) 0 = some (.int (Int32.ofNat 2)) ∧ ∀ j, et_pl (eg_at u.2.1 aw) j = et_pl (eg_at G aw) j) := by
  obtain ⟨d, rfl⟩ : ∃ d, d2 = d + 2 := ⟨d2 - 2, by omega⟩
  have hw9 : ∀ j, et_pl (eg_at G aw) j = et_pl (eg_at G aw) j := fun _ => rfl
  rw [show eg_mL 252 = 7 from by decide +kernel]
  show et_go none (d + 2) 252 0 [some (.ref am), some (.int x), some (.int y), some (.int zz), none, none, none] [] G 0 0 _
  have lt_am := (hH.2.2 _ _ k_am).1
  have lt_aw := (hH.2.2 _ _ k_aw).1
  refine hs_aload (i := 0) (p := 1) (by decide +kernel) rfl ?_
  refine hs_k (x := Int32.ofNat 0) (p := 2) (by decide +kernel) ?_
  have hHo := hH
  refine hf_put (T := et_TT) (t := 13) (ci := 11) (f := 0) (p := 5) (ty := .int) (by decide +kernel) rfl rfl rfl rfl rfl hH k_am hi_any (fun G2 hH x2 e2 => ?_)
  have hw9 : ∀ j, et_pl (eg_at G2 aw) j = et_pl (eg_at G aw) j := fun j => (x2.2 aw j lt_aw (fun h => hi_ne k_aw k_am (by decide) h.1)).trans (hw9 j)
  have m1 := (x2.2 am 1 lt_am (fun h => absurd h.2 (by decide))).trans m1
  have w4 := (x2.2 aw 4 lt_aw (fun h => (hi_ne k_aw k_am (by decide)) h.1)).trans w4
  have w1 := (x2.2 aw 1 lt_aw (fun h => (hi_ne k_aw k_am (by decide)) h.1)).trans w1
  have lt_am := Nat.lt_of_lt_of_le lt_am x2.1
  have lt_aw := Nat.lt_of_lt_of_le lt_aw x2.1
  refine hs_aload (i := 0) (p := 6) (by decide +kernel) rfl ?_
  refine hs_aload (i := 0) (p := 7) (by decide +kernel) rfl ?_
  refine hs_iload (i := 1) (p := 8) (by decide +kernel) rfl ?_
  refine ht_callv (T := et_TT) (t := 13) (mi := 208) (na := 1) (ci := 11) (lk := 7) (lm := 2) (L0 := eg_en (eg_mL 208) [.ref am, .int x]) (by decide +kernel) rfl hH k_am rfl rfl rfl rfl rfl (by rw [show eg_mL 208 = 2 from by decide +kernel]; first | done | rfl) ?_
  refine (fm_nE (x := x) hH k_am k_aw m1 w4 he (by omega)).mono (fun u hu => xp_cb hu ?_)
  by_cases xe : 0 ≤ x.toInt ∧ x.toInt < (e : Int)
  · rw [if_pos xe]
    show et_go none _ 252 11 _ [.int (Int32.ofNat 0), .ref am] _ _ _ _
    refine hs_if0 (c := .ne) (t := 22) (f := 14) (by decide +kernel) (show ¬ (¬ Int32.ofNat 0 = 0) by decide) ?_
    refine hs_aload (i := 0) (p := 15) (by decide +kernel) rfl ?_
    refine hs_iload (i := 2) (p := 16) (by decide +kernel) rfl ?_
    refine ht_callv (T := et_TT) (t := 13) (mi := 246) (na := 1) (ci := 11) (lk := 7) (lm := 2) (L0 := eg_en (eg_mL 246) [.ref am, .int y]) (by decide +kernel) rfl hH k_am rfl rfl rfl rfl rfl (by rw [show eg_mL 246 = 2 from by decide +kernel]; first | done | rfl) ?_
    refine (fm_nT (x := y) hH k_am k_aw m1 w1 htc (by omega)).mono (fun u hu => xp_cb hu ?_)
    by_cases xt : 0 ≤ y.toInt ∧ y.toInt < (tc : Int)
    · rw [if_pos xt]
      show et_go none _ 252 19 _ [.int (Int32.ofNat 0), .ref am] _ _ _ _
      refine hs_if1 (c := .eq) (t := 26) (f := 22) (by decide +kernel) (show Int32.ofNat 0 = 0 by decide) ?_
      refine hs_k (x := Int32.ofNat 0) (p := 27) (by decide +kernel) ?_
      refine hs_k (x := Int32.ofNat 1) (p := 28) (by decide +kernel) ?_
      refine ht_callv (T := et_TT) (t := 13) (mi := 204) (na := 2) (ci := 11) (lk := 7) (lm := 3) (L0 := eg_en (eg_mL 204) [.ref am, .int (Int32.ofNat 0), .int (Int32.ofNat 1)]) (by decide +kernel) rfl hH k_am rfl rfl rfl rfl rfl (by rw [show eg_mL 204 = 3 from by decide +kernel]; first | done | rfl) ?_
      refine (fm_t0 hH k_am).mono (fun u hu => xp_cb hu ?_)
      show et_go none _ 252 31 _ [.int (Int32.ofNat 0)] _ _ _ _
      refine hs_if0 (c := .ne) (t := 57) (f := 34) (by decide +kernel) (show ¬ (¬ Int32.ofNat 0 = 0) by decide) ?_
      refine hs_aload (i := 0) (p := 35) (by decide +kernel) rfl ?_
      refine hs_iload (i := 3) (p := 36) (by decide +kernel) rfl ?_
      refine hs_k (x := Int32.ofNat 1) (p := 37) (by decide +kernel) ?_
      refine hs_k (x := Int32.ofNat 60) (p := 39) (by decide +kernel) ?_
      refine hs_calls (mi := 209) (na := 3) (lk := 7) (lm := 3) (L0 := eg_en (eg_mL 209) [.int zz, .int (Int32.ofNat 1), .int (Int32.ofNat 60)]) (by decide +kernel) rfl rfl rfl rfl rfl rfl (by rw [show eg_mL 209 = 3 from by decide +kernel]; first | done | rfl) ?_
      refine (fm_in (x := zz) (y := (Int32.ofNat 1)) (z := (Int32.ofNat 60))).mono (fun u hu => xp_cb hu ?_)
      by_cases xz : (Int32.ofNat 1).toInt ≤ zz.toInt ∧ zz.toInt ≤ (Int32.ofNat 60).toInt
      · exact absurd ⟨by have h := xz.1; rw [hs_nint (by decide)] at h; omega, by have h := xz.2; rw [hs_nint (by decide)] at h; omega⟩ hz
      · rw [if_neg xz]
        show et_go none _ 252 42 _ [.int (Int32.ofNat 0), .ref am] _ _ _ _
        refine hs_if0 (c := .ne) (t := 49) (f := 45) (by decide +kernel) (show ¬ (¬ Int32.ofNat 0 = 0) by decide) ?_
        refine hs_k (x := Int32.ofNat 1) (p := 46) (by decide +kernel) ?_
        refine hs_goto (p := 50) (by decide +kernel) ?_
        refine hs_k (x := Int32.ofNat 2) (p := 51) (by decide +kernel) ?_
        have hHo := hH
        refine ht_callv (T := et_TT) (t := 13) (mi := 204) (na := 2) (ci := 11) (lk := 7) (lm := 3) (L0 := eg_en (eg_mL 204) [.ref am, .int (Int32.ofNat 1), .int (Int32.ofNat 2)]) (by decide +kernel) rfl hH k_am rfl rfl rfl rfl rfl (by rw [show eg_mL 204 = 3 from by decide +kernel]; first | done | rfl) ?_
        refine (fm_t1 hH k_am).mono (fun u hu => xw_cb hu (fun G51 v51 hH x51 hP51 => ?_))
        have hw9 : ∀ j, et_pl (eg_at G51 aw) j = et_pl (eg_at G aw) j := fun j => (x51.2 aw j lt_aw (fun h => hi_ne k_aw k_am (by decide) h.1)).trans (hw9 j)
        have m1 := (x51.2 am 1 lt_am (fun h => absurd h.2 (by decide))).trans m1
        have w4 := (x51.2 aw 4 lt_aw (fun h => (hi_ne k_aw k_am (by decide)) h.1)).trans w4
        have w1 := (x51.2 aw 1 lt_aw (fun h => (hi_ne k_aw k_am (by decide)) h.1)).trans w1
        have lt_am := Nat.lt_of_lt_of_le lt_am x51.1
        have lt_aw := Nat.lt_of_lt_of_le lt_aw x51.1
        obtain ⟨rfl, th51⟩ := hP51
        show et_go none _ 252 54 _ [.int (Int32.ofNat 1)] _ _ _ _
        refine hs_if0 (c := .eq) (t := 59) (f := 57) (by decide +kernel) (show ¬ (Int32.ofNat 1 = 0) by decide) ?_
        refine hs_k (x := Int32.ofNat 0) (p := 58) (by decide +kernel) ?_
        refine hs_iret (by decide +kernel) ?_
        exact ⟨rfl, th51, hw9⟩
    · exact absurd hy xt
  · exact absurd hx xe
end VLA
