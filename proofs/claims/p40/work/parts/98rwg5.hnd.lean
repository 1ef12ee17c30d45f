/-! count: the reference -/
section BFA
variable {K : et_K} {G : eg_G} {d d2 am aw rc ec nc tc cc k m ck sk : Nat} {V : Nat → evT} {X : Nat → Int32} {Y : Nat → Nat} {g : Nat → sp_E → Bool} {x : Int32} {L : Nat → clT}
theorem fn_yc9 (hH : et_H et_TT K G) (k_am : K am = some 13) (k_aw : K aw = some 46) (m1 : et_pl (eg_at G am) 1 = some (.ref aw)) (m0 : et_pl (eg_at G am) 0 = some (.int (Int32.ofNat 0))) (w0 : et_pl (eg_at G aw) 0 = some (.int (Int32.ofNat rc))) (hrc : rc ≤ 4) (w4 : et_pl (eg_at G aw) 4 = some (.int (Int32.ofNat ec))) (hec : ec ≤ 3) (hm : zyM G aw ec V) (ho : ∀ n, n < 3 → evo (V n)) (hT : ∀ r, r < rc → txP G aw (126 + 841 * r) 0 (g r) ∧ fcl (g r)) (hky : kyA G am aw rc) (w3 : et_pl (eg_at G aw) 3 = some (.int (Int32.ofNat nc))) (hnc : nc ≤ 20) (hcr : crP G aw nc X Y) (w2 : et_pl (eg_at G aw) 2 = some (.int (Int32.ofNat cc))) (hcc6 : cc ≤ 6) (hX : cqX G aw cc L) (hB : ∀ k, k < cc → cl02 (L k).2.2 ∧ (L k).1 < ec ∧ (L k).2.1 < rc) (hm9 : m ≤ nc) : et_go none (d + 11) 293 70 [some (.ref am), some (.int x), some (.int (Int32.ofNat (yN Y m))), some (.int (Int32.ofNat m))] [] G ck sk (fun u => u.1 = .inl (some (.int (Int32.ofNat (yN Y nc))))) := by
  induction hq9 : nc - m using Nat.strongRecOn generalizing m with
  | _ q9 ih =>
    have ym : m < nc → Y m ≤ 1 := fun h9 => (hcr m h9).2.2
    have yle := yN_le (Y := Y) m
    have lt_am := (hH.2.2 _ _ k_am).1
    have lt_aw := (hH.2.2 _ _ k_aw).1
    refine hs_iload (i := 3) (p := 71) (by decide +kernel) rfl ?_
    refine hs_aload (i := 0) (p := 72) (by decide +kernel) rfl ?_
    refine ht_callv (T := et_TT) (t := 13) (mi := 218) (na := 0) (ci := 11) (lk := 4) (lm := 1) (L0 := eg_en (eg_mL 218) [.ref am]) (by decide +kernel) rfl hH k_am rfl rfl rfl rfl rfl (by rw [show eg_mL 218 = 1 from by decide +kernel]; first | done | rfl) ?_
    refine (fm_cards hH k_am k_aw m1 w3).mono (fun u hu => xp_cb hu ?_)
    show et_go none _ 293 75 _ [.int (Int32.ofNat nc), .int (Int32.ofNat m)] _ _ _ _
    refine hs_br2n (c := .ge) (t := 100) (f := 78) (by decide +kernel) (by omega) (by omega) (fun (c75 : nc ≤ m) => ?_) (fun (c75 : ¬ (nc ≤ m)) => ?_)
    · refine hs_iload (i := 2) (p := 101) (by decide +kernel) rfl ?_
      refine hs_iret (by decide +kernel) ?_
      obtain rfl : m = nc := by omega
      rfl
    · refine hs_iload (i := 2) (p := 79) (by decide +kernel) rfl ?_
      refine hs_aload (i := 0) (p := 80) (by decide +kernel) rfl ?_
      refine hs_iload (i := 3) (p := 81) (by decide +kernel) rfl ?_
      refine ht_callv (T := et_TT) (t := 13) (mi := 240) (na := 1) (ci := 11) (lk := 4) (lm := 2) (L0 := eg_en (eg_mL 240) [.ref am, .int (Int32.ofNat m)]) (by decide +kernel) rfl hH k_am rfl rfl rfl rfl rfl (by rw [show eg_mL 240 = 2 from by decide +kernel]; first | done | rfl) ?_
      refine (fm_isYes hH k_am k_aw m1 (by omega) (hcr m (by omega)).2.2 (hcr m (by omega)).2.1).mono (fun u hu => xp_cb hu ?_)
      show et_go none _ 293 84 _ [.int (Int32.ofNat (Y m)), .int (Int32.ofNat (yN Y m))] _ _ _ _
      refine hs_br1 (c := .eq) (t := 91) (f := 87) (by decide +kernel) (fun (c84 : Int32.ofNat (Y m) = 0) => ?_) (fun (c84 : ¬ (Int32.ofNat (Y m) = 0)) => ?_)
      · have ym9 := ym (by omega)
        have c84 : Y m = 0 := (hs_neq (b := 0) (by omega) (by decide)).mp c84
        refine hs_k (x := Int32.ofNat 0) (p := 92) (by decide +kernel) ?_
        refine hs_iaddn (p := 93) (by decide +kernel) ?_
        refine hs_istore (i := 2) (p := 94) (by decide +kernel) (Nat.le_of_ble_eq_true rfl) ?_
        refine hs_iinc1 (i := 3) (p := 97) (by decide +kernel) rfl (Nat.le_of_ble_eq_true rfl) ?_
        refine hs_goto (p := 70) (by decide +kernel) ?_
        rw [show Int32.ofNat (yN Y m + 0) = Int32.ofNat (yN Y (m + 1)) from (congrArg Int32.ofNat (yN_n c84)).symm]
        exact ih (nc - (m + 1)) (by omega) (by omega) rfl
      · have c84 : ¬ Y m = 0 := fun h => c84 (by rw [h]; rfl)
        refine hs_k (x := Int32.ofNat 1) (p := 88) (by decide +kernel) ?_
        refine hs_goto (p := 92) (by decide +kernel) ?_
        refine hs_iaddn (p := 93) (by decide +kernel) ?_
        refine hs_istore (i := 2) (p := 94) (by decide +kernel) (Nat.le_of_ble_eq_true rfl) ?_
        refine hs_iinc1 (i := 3) (p := 97) (by decide +kernel) rfl (Nat.le_of_ble_eq_true rfl) ?_
        refine hs_goto (p := 70) (by decide +kernel) ?_
        rw [show Int32.ofNat (yN Y m + 1) = Int32.ofNat (yN Y (m + 1)) from (congrArg Int32.ofNat (yN_y c84)).symm]
        exact ih (nc - (m + 1)) (by omega) (by omega) rfl
theorem fn_wa9 (hH : et_H et_TT K G) (k_am : K am = some 13) (k_aw : K aw = some 46) (m1 : et_pl (eg_at G am) 1 = some (.ref aw)) (m0 : et_pl (eg_at G am) 0 = some (.int (Int32.ofNat 0))) (w0 : et_pl (eg_at G aw) 0 = some (.int (Int32.ofNat rc))) (hrc : rc ≤ 4) (w4 : et_pl (eg_at G aw) 4 = some (.int (Int32.ofNat ec))) (hec : ec ≤ 3) (hm : zyM G aw ec V) (ho : ∀ n, n < 3 → evo (V n)) (hT : ∀ r, r < rc → txP G aw (126 + 841 * r) 0 (g r) ∧ fcl (g r)) (hky : kyA G am aw rc) (w3 : et_pl (eg_at G aw) 3 = some (.int (Int32.ofNat nc))) (hnc : nc ≤ 20) (hcr : crP G aw nc X Y) (w2 : et_pl (eg_at G aw) 2 = some (.int (Int32.ofNat cc))) (hcc6 : cc ≤ 6) (hX : cqX G aw cc L) (hB : ∀ k, k < cc → cl02 (L k).2.2 ∧ (L k).1 < ec ∧ (L k).2.1 < rc) (hm9 : m ≤ ec) : et_go none (d + 11) 293 161 [some (.ref am), some (.int x), some (.int (Int32.ofNat (wN V m))), some (.int (Int32.ofNat m))] [] G ck sk (fun u => u.1 = .inl (some (.int (Int32.ofNat (wN V ec))))) := by
  induction hq9 : ec - m using Nat.strongRecOn generalizing m with
  | _ q9 ih =>
    have lt_am := (hH.2.2 _ _ k_am).1
    have lt_aw := (hH.2.2 _ _ k_aw).1
    refine hs_iload (i := 3) (p := 162) (by decide +kernel) rfl ?_
    refine hs_aload (i := 0) (p := 163) (by decide +kernel) rfl ?_
    refine hf_get (T := et_TT) (t := 13) (ci := 11) (f := 1) (p := 166) (by decide +kernel) rfl hH k_am m1 ?_
    refine hs_k (x := Int32.ofNat 4) (p := 167) (by decide +kernel) ?_
    refine hf_ald (ins := .iaload) (T := et_TT) (t := 46) (kd := 0) (N := 12741) (p := 168) (by decide +kernel) (fun _ _ _ _ _ _ _ _ _ _ => rfl) rfl rfl rfl hH k_aw (by decide) w4 ?_
    refine hs_br2n (c := .ge) (t := 185) (f := 171) (by decide +kernel) (by omega) (by omega) (fun (c168 : ec ≤ m) => ?_) (fun (c168 : ¬ (ec ≤ m)) => ?_)
    · refine hs_iload (i := 2) (p := 186) (by decide +kernel) rfl ?_
      refine hs_iret (by decide +kernel) ?_
      obtain rfl : m = ec := by omega
      rfl
    · refine hs_iload (i := 2) (p := 172) (by decide +kernel) rfl ?_
      refine hs_aload (i := 0) (p := 173) (by decide +kernel) rfl ?_
      refine hs_iload (i := 3) (p := 174) (by decide +kernel) rfl ?_
      refine ht_callv (T := et_TT) (t := 13) (mi := 224) (na := 1) (ci := 11) (lk := 4) (lm := 2) (L0 := eg_en (eg_mL 224) [.ref am, .int (Int32.ofNat m)]) (by decide +kernel) rfl hH k_am rfl rfl rfl rfl rfl (by rw [show eg_mL 224 = 2 from by decide +kernel]; first | done | rfl) ?_
      refine (fn_wires hH k_am k_aw m1 (by omega) ((hm m (by omega)).1 (by omega)).1 (by omega)).mono (fun u hu => xp_cb hu ?_)
      show et_go none _ 293 177 _ [.int (Int32.ofNat ((V m).1)), .int (Int32.ofNat (wN V m))] _ _ _ _
      refine hs_iaddn (p := 178) (by decide +kernel) ?_
      refine hs_istore (i := 2) (p := 179) (by decide +kernel) (Nat.le_of_ble_eq_true rfl) ?_
      refine hs_iinc1 (i := 3) (p := 182) (by decide +kernel) rfl (Nat.le_of_ble_eq_true rfl) ?_
      refine hs_goto (p := 161) (by decide +kernel) ?_
      exact ih (ec - (m + 1)) (by omega) (by omega) rfl
theorem fn_hc9 (hH : et_H et_TT K G) (k_am : K am = some 13) (k_aw : K aw = some 46) (m1 : et_pl (eg_at G am) 1 = some (.ref aw)) (m0 : et_pl (eg_at G am) 0 = some (.int (Int32.ofNat 0))) (w0 : et_pl (eg_at G aw) 0 = some (.int (Int32.ofNat rc))) (hrc : rc ≤ 4) (w4 : et_pl (eg_at G aw) 4 = some (.int (Int32.ofNat ec))) (hec : ec ≤ 3) (hm : zyM G aw ec V) (ho : ∀ n, n < 3 → evo (V n)) (hT : ∀ r, r < rc → txP G aw (126 + 841 * r) 0 (g r) ∧ fcl (g r)) (hky : kyA G am aw rc) (w3 : et_pl (eg_at G aw) 3 = some (.int (Int32.ofNat nc))) (hnc : nc ≤ 20) (hcr : crP G aw nc X Y) (w2 : et_pl (eg_at G aw) 2 = some (.int (Int32.ofNat cc))) (hcc6 : cc ≤ 6) (hX : cqX G aw cc L) (hB : ∀ k, k < cc → cl02 (L k).2.2 ∧ (L k).1 < ec ∧ (L k).2.1 < rc) (hk : k ≤ cc) : et_go none (d + 11) 293 125 [some (.ref am), some (.int x), some (.int (Int32.ofNat (hoN (fun k => clV (L k).2.2 (g (L k).2.1) (V (L k).1) X Y nc) k))), some (.int (Int32.ofNat k))] [] G ck sk (fun u => u.1 = .inl (some (.int (Int32.ofNat (hoN (fun k => clV (L k).2.2 (g (L k).2.1) (V (L k).1) X Y nc) cc))))) := by
  induction hq9 : cc - k using Nat.strongRecOn generalizing k K G ck sk with
  | _ q9 ih =>
    have hle := hoN_le (p := (fun k => clV (L k).2.2 (g (L k).2.1) (V (L k).1) X Y nc)) k
    have lt_am := (hH.2.2 _ _ k_am).1
    have lt_aw := (hH.2.2 _ _ k_aw).1
    refine hs_iload (i := 3) (p := 126) (by decide +kernel) rfl ?_
    refine hs_aload (i := 0) (p := 127) (by decide +kernel) rfl ?_
    refine hf_get (T := et_TT) (t := 13) (ci := 11) (f := 1) (p := 130) (by decide +kernel) rfl hH k_am m1 ?_
    refine hs_k (x := Int32.ofNat 2) (p := 131) (by decide +kernel) ?_
    refine hf_ald (ins := .iaload) (T := et_TT) (t := 46) (kd := 0) (N := 12741) (p := 132) (by decide +kernel) (fun _ _ _ _ _ _ _ _ _ _ => rfl) rfl rfl rfl hH k_aw (by decide) w2 ?_
    refine hs_br2n (c := .ge) (t := 157) (f := 135) (by decide +kernel) (by omega) (by omega) (fun (c132 : cc ≤ k) => ?_) (fun (c132 : ¬ (cc ≤ k)) => ?_)
    · refine hs_iload (i := 2) (p := 158) (by decide +kernel) rfl ?_
      refine hs_iret (by decide +kernel) ?_
      obtain rfl : k = cc := by omega
      rfl
    · refine hs_iload (i := 2) (p := 136) (by decide +kernel) rfl ?_
      refine hs_aload (i := 0) (p := 137) (by decide +kernel) rfl ?_
      refine hs_iload (i := 3) (p := 138) (by decide +kernel) rfl ?_
      obtain ⟨⟨p1, p2⟩, hT2⟩ := hX k (by omega)
      obtain ⟨hcl2, hn, hr⟩ := hB k (by omega)
      refine ht_callv (T := et_TT) (t := 13) (mi := 292) (na := 1) (ci := 11) (lk := 4) (lm := 6) (L0 := eg_en (eg_mL 292) [.ref am, .int (Int32.ofNat k)]) (by decide +kernel) rfl hH k_am rfl rfl rfl rfl rfl (by rw [show eg_mL 292 = 6 from by decide +kernel]; first | done | rfl) ?_
      refine ((er_c76 (K, [], G) [.ref am, .int (Int32.ofNat k)] _ hH (by show 10 ≤ _; omega) rfl (ht_ac (.inr ⟨by decide, _, rfl, k_am⟩) (ht_ac (hi_nv (by omega) (by omega)) ht_an))).and ((fk_292 hH k_am k_aw m1 hrc ⟨hky, fun r hr => ⟨g r, hT r hr⟩⟩ (by omega) (by omega)).and (fn_ih hH k_am k_aw m1 w0 hrc w4 hec hm ho hT hky w3 hnc hcr p1 p2 (by omega) hT2 hcl2 m0 hn hr (by omega)))).mono (fun u hu => ?_)
      obtain ⟨⟨es, hes, K9, x9, f9, hH9, -, -, -⟩, hkb, hz9⟩ := hu
      obtain ⟨u1, u2, u3, u4⟩ := u
      have hz9 : u1 = .inl (some (.int (Int32.ofNat (if (clV (L k).2.2 (g (L k).2.1) (V (L k).1) X Y nc) = true then 1 else 0)))) := hz9
      subst hz9
      have hkb : kyB u2 am aw rc := hkb
      have hH := hH9
      have m1 := (f9.2 am 13 k_am 1 (by decide +kernel)).trans m1
      have m0 := (f9.2 am 13 k_am 0 (by decide +kernel)).trans m0
      have w0 := (f9.2 aw 46 k_aw 0 (by decide +kernel)).trans w0
      have w2 := (f9.2 aw 46 k_aw 2 (by decide +kernel)).trans w2
      have w3 := (f9.2 aw 46 k_aw 3 (by decide +kernel)).trans w3
      have w4 := (f9.2 aw 46 k_aw 4 (by decide +kernel)).trans w4
      have hm := hm.fr ho k_aw f9 (by decide +kernel)
      have hT : ∀ r, r < rc → txP u2 aw (126 + 841 * r) 0 (g r) ∧ fcl (g r) := fun r hr => ⟨(hT r hr).1.mp (fun i hi => f9.2 aw 46 k_aw _ (no_mm (by decide +kernel))), (hT r hr).2⟩
      have hcr := hcr.fr hnc k_aw f9 (by decide +kernel)
      have hX := hX.fr k_aw hcc6 f9 (by decide +kernel) (by decide +kernel)
      have hky := hkb.1
      have k_am := x9 _ _ k_am
      have k_aw := x9 _ _ k_aw
      by_cases hb : (clV (L k).2.2 (g (L k).2.1) (V (L k).1) X Y nc) = true
      · rw [show (if (clV (L k).2.2 (g (L k).2.1) (V (L k).1) X Y nc) = true then 1 else 0 : Nat) = 1 from if_pos hb]
        refine hs_cb ?_
        show et_go none _ 293 141 _ [.int (Int32.ofNat 1), .int (Int32.ofNat (hoN (fun k => clV (L k).2.2 (g (L k).2.1) (V (L k).1) X Y nc) k))] _ _ _ _
        refine hs_if0 (c := .eq) (t := 148) (f := 144) (by decide +kernel) (show ¬ (Int32.ofNat 1 = 0) by decide) ?_
        refine hs_k (x := Int32.ofNat 1) (p := 145) (by decide +kernel) ?_
        refine hs_goto (p := 149) (by decide +kernel) ?_
        refine hs_iaddn (p := 150) (by decide +kernel) ?_
        refine hs_istore (i := 2) (p := 151) (by decide +kernel) (Nat.le_of_ble_eq_true rfl) ?_
        refine hs_iinc1 (i := 3) (p := 154) (by decide +kernel) rfl (Nat.le_of_ble_eq_true rfl) ?_
        refine hs_goto (p := 125) (by decide +kernel) ?_
        rw [show Int32.ofNat (hoN (fun k => clV (L k).2.2 (g (L k).2.1) (V (L k).1) X Y nc) k + 1) = Int32.ofNat (hoN (fun k => clV (L k).2.2 (g (L k).2.1) (V (L k).1) X Y nc) (k + 1)) from (congrArg Int32.ofNat (hoN_y (p := (fun k => clV (L k).2.2 (g (L k).2.1) (V (L k).1) X Y nc)) hb)).symm]
        exact ih (cc - (k + 1)) (by omega) hH k_am k_aw m1 m0 w0 w4 hm hT hky w3 hcr w2 hX (by omega) rfl
      · rw [show (if (clV (L k).2.2 (g (L k).2.1) (V (L k).1) X Y nc) = true then 1 else 0 : Nat) = 0 from if_neg hb]
        refine hs_cb ?_
        show et_go none _ 293 141 _ [.int (Int32.ofNat 0), .int (Int32.ofNat (hoN (fun k => clV (L k).2.2 (g (L k).2.1) (V (L k).1) X Y nc) k))] _ _ _ _
        refine hs_if1 (c := .eq) (t := 148) (f := 144) (by decide +kernel) (show Int32.ofNat 0 = 0 by decide) ?_
        refine hs_k (x := Int32.ofNat 0) (p := 149) (by decide +kernel) ?_
        refine hs_iaddn (p := 150) (by decide +kernel) ?_
        refine hs_istore (i := 2) (p := 151) (by decide +kernel) (Nat.le_of_ble_eq_true rfl) ?_
        refine hs_iinc1 (i := 3) (p := 154) (by decide +kernel) rfl (Nat.le_of_ble_eq_true rfl) ?_
        refine hs_goto (p := 125) (by decide +kernel) ?_
        rw [show Int32.ofNat (hoN (fun k => clV (L k).2.2 (g (L k).2.1) (V (L k).1) X Y nc) k + 0) = Int32.ofNat (hoN (fun k => clV (L k).2.2 (g (L k).2.1) (V (L k).1) X Y nc) (k + 1)) from (congrArg Int32.ofNat (hoN_n (p := (fun k => clV (L k).2.2 (g (L k).2.1) (V (L k).1) X Y nc)) hb)).symm]
        exact ih (cc - (k + 1)) (by omega) hH k_am k_aw m1 m0 w0 w4 hm hT hky w3 hcr w2 hX (by omega) rfl
theorem fn_cn (hH : et_H et_TT K G) (k_am : K am = some 13) (k_aw : K aw = some 46) (m1 : et_pl (eg_at G am) 1 = some (.ref aw)) (w0 : et_pl (eg_at G aw) 0 = some (.int (Int32.ofNat rc))) (hrc : rc ≤ 4) (w4 : et_pl (eg_at G aw) 4 = some (.int (Int32.ofNat ec))) (hec : ec ≤ 3) (hm : zyM G aw ec V) (ho : ∀ n, n < 3 → evo (V n)) (hT : ∀ r, r < rc → txP G aw (126 + 841 * r) 0 (g r) ∧ fcl (g r)) (hky : kyA G am aw rc) (w3 : et_pl (eg_at G aw) 3 = some (.int (Int32.ofNat nc))) (hnc : nc ≤ 20) (hcr : crP G aw nc X Y) (w2 : et_pl (eg_at G aw) 2 = some (.int (Int32.ofNat cc))) (hcc6 : cc ≤ 6) (hX : cqX G aw cc L) (hB : ∀ k, k < cc → cl02 (L k).2.2 ∧ (L k).1 < ec ∧ (L k).2.1 < rc) (w1 : et_pl (eg_at G aw) 1 = some (.int (Int32.ofNat tc))) (hd : 11 ≤ d2) : et_go none d2 293 0 (eg_en (eg_mL 293) [.ref am, .int x]) [] G 0 0 (fun u => u.1 = .inl (some (.int (ctV x rc nc (yN Y nc) ec tc cc (hoN (fun k => clV (L k).2.2 (g (L k).2.1) (V (L k).1) X Y nc) cc) (wN V ec))))) := by
  obtain ⟨d, rfl⟩ : ∃ d, d2 = d + 11 := ⟨d2 - 11, by omega⟩
  by_cases hx8 : 0 ≤ x.toInt ∧ x.toInt ≤ 7
  · obtain ⟨q, rfl, q2, q3⟩ := hs_toN (x := x) (by omega)
    rcases (show q = 0 ∨ q = 1 ∨ q = 2 ∨ q = 3 ∨ q = 4 ∨ q = 5 ∨ q = 6 ∨ q = 7 by omega) with rfl | rfl | rfl | rfl | rfl | rfl | rfl | rfl
    · rw [ctV_0]
      rw [show eg_mL 293 = 4 from by decide +kernel]
      show et_go none (d + 11) 293 0 [some (.ref am), some (.int (Int32.ofNat 0)), none, none] [] G 0 0 _
      have lt_am := (hH.2.2 _ _ k_am).1
      have lt_aw := (hH.2.2 _ _ k_aw).1
      refine hs_aload (i := 0) (p := 1) (by decide +kernel) rfl ?_
      refine hs_k (x := Int32.ofNat 0) (p := 2) (by decide +kernel) ?_
      have hHo := hH
      refine hf_put (T := et_TT) (t := 13) (ci := 11) (f := 0) (p := 5) (ty := .int) (by decide +kernel) rfl rfl rfl rfl rfl hH k_am hi_any (fun G2 hH x2 e2 => ?_)
      have hT : ∀ r, r < rc → txP G2 aw (126 + 841 * r) 0 (g r) ∧ fcl (g r) := fun r hr => ⟨(hT r hr).1.xs lt_aw x2 (fun j h => hi_ne k_aw k_am (by decide) h.1), (hT r hr).2⟩
      have hky := hky.xs hHo k_am k_aw x2 (fun b j t kb hs => by rw [hs.1, k_am] at kb; cases kb; rw [hs.2]; exact ⟨by decide, by decide, fun _ => ⟨by decide, by decide⟩, fun h => absurd h (by decide)⟩)
      have hX := hX.xs (fun j _ _ => x2.2 aw j lt_aw (fun h => hi_ne k_aw k_am (by decide) h.1)) (fun j _ _ => x2.2 aw j lt_aw (fun h => hi_ne k_aw k_am (by decide) h.1))
      have hm := hm.mv ho (fun j _ _ => x2.2 aw j lt_aw (fun h => hi_ne k_aw k_am (by decide) h.1))
      have hcr : crP G2 aw nc X Y := fun k hk => ⟨(x2.2 aw _ lt_aw (fun h => hi_ne k_aw k_am (by decide) h.1)).trans (hcr k hk).1, (x2.2 aw _ lt_aw (fun h => hi_ne k_aw k_am (by decide) h.1)).trans (hcr k hk).2.1, (hcr k hk).2.2⟩
      have m1 := (x2.2 am 1 lt_am (fun h => absurd h.2 (by decide))).trans m1
      have w0 := (x2.2 aw 0 lt_aw (fun h => (hi_ne k_aw k_am (by decide)) h.1)).trans w0
      have w1 := (x2.2 aw 1 lt_aw (fun h => (hi_ne k_aw k_am (by decide)) h.1)).trans w1
      have w2 := (x2.2 aw 2 lt_aw (fun h => (hi_ne k_aw k_am (by decide)) h.1)).trans w2
      have w3 := (x2.2 aw 3 lt_aw (fun h => (hi_ne k_aw k_am (by decide)) h.1)).trans w3
      have w4 := (x2.2 aw 4 lt_aw (fun h => (hi_ne k_aw k_am (by decide)) h.1)).trans w4
      have lt_am := Nat.lt_of_lt_of_le lt_am x2.1
      have lt_aw := Nat.lt_of_lt_of_le lt_aw x2.1
      refine hs_k (x := Int32.ofNat 0) (p := 6) (by decide +kernel) ?_
      refine hs_istore (i := 2) (p := 7) (by decide +kernel) (Nat.le_of_ble_eq_true rfl) ?_
      refine hs_iload (i := 1) (p := 8) (by decide +kernel) rfl ?_
      refine hs_st (ins := .tableswitch 179 0 7 #[48, 55, 60, 94, 101, 108, 115, 151]) (len := 48) (by decide +kernel) rfl (by rfl) (?_ : et_go none _ 293 56 _ _ _ _ _ _)
      refine hs_aload (i := 0) (p := 57) (by decide +kernel) rfl ?_
      refine hf_get (T := et_TT) (t := 13) (ci := 11) (f := 1) (p := 60) (by decide +kernel) rfl hH k_am m1 ?_
      refine hs_k (x := Int32.ofNat 0) (p := 61) (by decide +kernel) ?_
      refine hf_ald (ins := .iaload) (T := et_TT) (t := 46) (kd := 0) (N := 12741) (p := 62) (by decide +kernel) (fun _ _ _ _ _ _ _ _ _ _ => rfl) rfl rfl rfl hH k_aw (by decide) w0 ?_
      refine hs_iret (by decide +kernel) ?_
      rfl
    · rw [ctV_1]
      rw [show eg_mL 293 = 4 from by decide +kernel]
      show et_go none (d + 11) 293 0 [some (.ref am), some (.int (Int32.ofNat 1)), none, none] [] G 0 0 _
      have lt_am := (hH.2.2 _ _ k_am).1
      have lt_aw := (hH.2.2 _ _ k_aw).1
      refine hs_aload (i := 0) (p := 1) (by decide +kernel) rfl ?_
      refine hs_k (x := Int32.ofNat 0) (p := 2) (by decide +kernel) ?_
      have hHo := hH
      refine hf_put (T := et_TT) (t := 13) (ci := 11) (f := 0) (p := 5) (ty := .int) (by decide +kernel) rfl rfl rfl rfl rfl hH k_am hi_any (fun G2 hH x2 e2 => ?_)
      have hT : ∀ r, r < rc → txP G2 aw (126 + 841 * r) 0 (g r) ∧ fcl (g r) := fun r hr => ⟨(hT r hr).1.xs lt_aw x2 (fun j h => hi_ne k_aw k_am (by decide) h.1), (hT r hr).2⟩
      have hky := hky.xs hHo k_am k_aw x2 (fun b j t kb hs => by rw [hs.1, k_am] at kb; cases kb; rw [hs.2]; exact ⟨by decide, by decide, fun _ => ⟨by decide, by decide⟩, fun h => absurd h (by decide)⟩)
      have hX := hX.xs (fun j _ _ => x2.2 aw j lt_aw (fun h => hi_ne k_aw k_am (by decide) h.1)) (fun j _ _ => x2.2 aw j lt_aw (fun h => hi_ne k_aw k_am (by decide) h.1))
      have hm := hm.mv ho (fun j _ _ => x2.2 aw j lt_aw (fun h => hi_ne k_aw k_am (by decide) h.1))
      have hcr : crP G2 aw nc X Y := fun k hk => ⟨(x2.2 aw _ lt_aw (fun h => hi_ne k_aw k_am (by decide) h.1)).trans (hcr k hk).1, (x2.2 aw _ lt_aw (fun h => hi_ne k_aw k_am (by decide) h.1)).trans (hcr k hk).2.1, (hcr k hk).2.2⟩
      have m1 := (x2.2 am 1 lt_am (fun h => absurd h.2 (by decide))).trans m1
      have w0 := (x2.2 aw 0 lt_aw (fun h => (hi_ne k_aw k_am (by decide)) h.1)).trans w0
      have w1 := (x2.2 aw 1 lt_aw (fun h => (hi_ne k_aw k_am (by decide)) h.1)).trans w1
      have w2 := (x2.2 aw 2 lt_aw (fun h => (hi_ne k_aw k_am (by decide)) h.1)).trans w2
      have w3 := (x2.2 aw 3 lt_aw (fun h => (hi_ne k_aw k_am (by decide)) h.1)).trans w3
      have w4 := (x2.2 aw 4 lt_aw (fun h => (hi_ne k_aw k_am (by decide)) h.1)).trans w4
      have lt_am := Nat.lt_of_lt_of_le lt_am x2.1
      have lt_aw := Nat.lt_of_lt_of_le lt_aw x2.1
      refine hs_k (x := Int32.ofNat 0) (p := 6) (by decide +kernel) ?_
      refine hs_istore (i := 2) (p := 7) (by decide +kernel) (Nat.le_of_ble_eq_true rfl) ?_
      refine hs_iload (i := 1) (p := 8) (by decide +kernel) rfl ?_
      refine hs_st (ins := .tableswitch 179 0 7 #[48, 55, 60, 94, 101, 108, 115, 151]) (len := 48) (by decide +kernel) rfl (by rfl) (?_ : et_go none _ 293 63 _ _ _ _ _ _)
      refine hs_aload (i := 0) (p := 64) (by decide +kernel) rfl ?_
      refine ht_callv (T := et_TT) (t := 13) (mi := 218) (na := 0) (ci := 11) (lk := 4) (lm := 1) (L0 := eg_en (eg_mL 218) [.ref am]) (by decide +kernel) rfl hH k_am rfl rfl rfl rfl rfl (by rw [show eg_mL 218 = 1 from by decide +kernel]; first | done | rfl) ?_
      refine (fm_cards hH k_am k_aw m1 w3).mono (fun u hu => xp_cb hu ?_)
      show et_go none _ 293 67 _ [.int (Int32.ofNat nc)] _ _ _ _
      refine hs_iret (by decide +kernel) ?_
      rfl
    · rw [ctV_2]
      rw [show eg_mL 293 = 4 from by decide +kernel]
      show et_go none (d + 11) 293 0 [some (.ref am), some (.int (Int32.ofNat 2)), none, none] [] G 0 0 _
      have lt_am := (hH.2.2 _ _ k_am).1
      have lt_aw := (hH.2.2 _ _ k_aw).1
      refine hs_aload (i := 0) (p := 1) (by decide +kernel) rfl ?_
      refine hs_k (x := Int32.ofNat 0) (p := 2) (by decide +kernel) ?_
      have hHo := hH
      refine hf_put (T := et_TT) (t := 13) (ci := 11) (f := 0) (p := 5) (ty := .int) (by decide +kernel) rfl rfl rfl rfl rfl hH k_am hi_any (fun G2 hH x2 e2 => ?_)
      have hT : ∀ r, r < rc → txP G2 aw (126 + 841 * r) 0 (g r) ∧ fcl (g r) := fun r hr => ⟨(hT r hr).1.xs lt_aw x2 (fun j h => hi_ne k_aw k_am (by decide) h.1), (hT r hr).2⟩
      have hky := hky.xs hHo k_am k_aw x2 (fun b j t kb hs => by rw [hs.1, k_am] at kb; cases kb; rw [hs.2]; exact ⟨by decide, by decide, fun _ => ⟨by decide, by decide⟩, fun h => absurd h (by decide)⟩)
      have hX := hX.xs (fun j _ _ => x2.2 aw j lt_aw (fun h => hi_ne k_aw k_am (by decide) h.1)) (fun j _ _ => x2.2 aw j lt_aw (fun h => hi_ne k_aw k_am (by decide) h.1))
      have hm := hm.mv ho (fun j _ _ => x2.2 aw j lt_aw (fun h => hi_ne k_aw k_am (by decide) h.1))
      have hcr : crP G2 aw nc X Y := fun k hk => ⟨(x2.2 aw _ lt_aw (fun h => hi_ne k_aw k_am (by decide) h.1)).trans (hcr k hk).1, (x2.2 aw _ lt_aw (fun h => hi_ne k_aw k_am (by decide) h.1)).trans (hcr k hk).2.1, (hcr k hk).2.2⟩
      have m1 := (x2.2 am 1 lt_am (fun h => absurd h.2 (by decide))).trans m1
      have w0 := (x2.2 aw 0 lt_aw (fun h => (hi_ne k_aw k_am (by decide)) h.1)).trans w0
      have w1 := (x2.2 aw 1 lt_aw (fun h => (hi_ne k_aw k_am (by decide)) h.1)).trans w1
      have w2 := (x2.2 aw 2 lt_aw (fun h => (hi_ne k_aw k_am (by decide)) h.1)).trans w2
      have w3 := (x2.2 aw 3 lt_aw (fun h => (hi_ne k_aw k_am (by decide)) h.1)).trans w3
      have w4 := (x2.2 aw 4 lt_aw (fun h => (hi_ne k_aw k_am (by decide)) h.1)).trans w4
      have lt_am := Nat.lt_of_lt_of_le lt_am x2.1
      have lt_aw := Nat.lt_of_lt_of_le lt_aw x2.1
      refine hs_k (x := Int32.ofNat 0) (p := 6) (by decide +kernel) ?_
      refine hs_istore (i := 2) (p := 7) (by decide +kernel) (Nat.le_of_ble_eq_true rfl) ?_
      refine hs_iload (i := 1) (p := 8) (by decide +kernel) rfl ?_
      refine hs_st (ins := .tableswitch 179 0 7 #[48, 55, 60, 94, 101, 108, 115, 151]) (len := 48) (by decide +kernel) rfl (by rfl) (?_ : et_go none _ 293 68 _ _ _ _ _ _)
      refine hs_k (x := Int32.ofNat 0) (p := 69) (by decide +kernel) ?_
      refine hs_istore (i := 3) (p := 70) (by decide +kernel) (Nat.le_of_ble_eq_true rfl) ?_
      exact fn_yc9 (x := Int32.ofNat 2) (m := 0) hH k_am k_aw m1 e2 w0 hrc w4 hec hm ho hT hky w3 hnc hcr w2 hcc6 hX hB (Nat.zero_le _)
    · rw [ctV_3]
      rw [show eg_mL 293 = 4 from by decide +kernel]
      show et_go none (d + 11) 293 0 [some (.ref am), some (.int (Int32.ofNat 3)), none, none] [] G 0 0 _
      have lt_am := (hH.2.2 _ _ k_am).1
      have lt_aw := (hH.2.2 _ _ k_aw).1
      refine hs_aload (i := 0) (p := 1) (by decide +kernel) rfl ?_
      refine hs_k (x := Int32.ofNat 0) (p := 2) (by decide +kernel) ?_
      have hHo := hH
      refine hf_put (T := et_TT) (t := 13) (ci := 11) (f := 0) (p := 5) (ty := .int) (by decide +kernel) rfl rfl rfl rfl rfl hH k_am hi_any (fun G2 hH x2 e2 => ?_)
      have hT : ∀ r, r < rc → txP G2 aw (126 + 841 * r) 0 (g r) ∧ fcl (g r) := fun r hr => ⟨(hT r hr).1.xs lt_aw x2 (fun j h => hi_ne k_aw k_am (by decide) h.1), (hT r hr).2⟩
      have hky := hky.xs hHo k_am k_aw x2 (fun b j t kb hs => by rw [hs.1, k_am] at kb; cases kb; rw [hs.2]; exact ⟨by decide, by decide, fun _ => ⟨by decide, by decide⟩, fun h => absurd h (by decide)⟩)
      have hX := hX.xs (fun j _ _ => x2.2 aw j lt_aw (fun h => hi_ne k_aw k_am (by decide) h.1)) (fun j _ _ => x2.2 aw j lt_aw (fun h => hi_ne k_aw k_am (by decide) h.1))
      have hm := hm.mv ho (fun j _ _ => x2.2 aw j lt_aw (fun h => hi_ne k_aw k_am (by decide) h.1))
      have hcr : crP G2 aw nc X Y := fun k hk => ⟨(x2.2 aw _ lt_aw (fun h => hi_ne k_aw k_am (by decide) h.1)).trans (hcr k hk).1, (x2.2 aw _ lt_aw (fun h => hi_ne k_aw k_am (by decide) h.1)).trans (hcr k hk).2.1, (hcr k hk).2.2⟩
      have m1 := (x2.2 am 1 lt_am (fun h => absurd h.2 (by decide))).trans m1
      have w0 := (x2.2 aw 0 lt_aw (fun h => (hi_ne k_aw k_am (by decide)) h.1)).trans w0
      have w1 := (x2.2 aw 1 lt_aw (fun h => (hi_ne k_aw k_am (by decide)) h.1)).trans w1
      have w2 := (x2.2 aw 2 lt_aw (fun h => (hi_ne k_aw k_am (by decide)) h.1)).trans w2
      have w3 := (x2.2 aw 3 lt_aw (fun h => (hi_ne k_aw k_am (by decide)) h.1)).trans w3
      have w4 := (x2.2 aw 4 lt_aw (fun h => (hi_ne k_aw k_am (by decide)) h.1)).trans w4
      have lt_am := Nat.lt_of_lt_of_le lt_am x2.1
      have lt_aw := Nat.lt_of_lt_of_le lt_aw x2.1
      refine hs_k (x := Int32.ofNat 0) (p := 6) (by decide +kernel) ?_
      refine hs_istore (i := 2) (p := 7) (by decide +kernel) (Nat.le_of_ble_eq_true rfl) ?_
      refine hs_iload (i := 1) (p := 8) (by decide +kernel) rfl ?_
      refine hs_st (ins := .tableswitch 179 0 7 #[48, 55, 60, 94, 101, 108, 115, 151]) (len := 48) (by decide +kernel) rfl (by rfl) (?_ : et_go none _ 293 102 _ _ _ _ _ _)
      refine hs_aload (i := 0) (p := 103) (by decide +kernel) rfl ?_
      refine hf_get (T := et_TT) (t := 13) (ci := 11) (f := 1) (p := 106) (by decide +kernel) rfl hH k_am m1 ?_
      refine hs_k (x := Int32.ofNat 4) (p := 107) (by decide +kernel) ?_
      refine hf_ald (ins := .iaload) (T := et_TT) (t := 46) (kd := 0) (N := 12741) (p := 108) (by decide +kernel) (fun _ _ _ _ _ _ _ _ _ _ => rfl) rfl rfl rfl hH k_aw (by decide) w4 ?_
      refine hs_iret (by decide +kernel) ?_
      rfl
    · rw [ctV_4]
      rw [show eg_mL 293 = 4 from by decide +kernel]
      show et_go none (d + 11) 293 0 [some (.ref am), some (.int (Int32.ofNat 4)), none, none] [] G 0 0 _
      have lt_am := (hH.2.2 _ _ k_am).1
      have lt_aw := (hH.2.2 _ _ k_aw).1
      refine hs_aload (i := 0) (p := 1) (by decide +kernel) rfl ?_
      refine hs_k (x := Int32.ofNat 0) (p := 2) (by decide +kernel) ?_
      have hHo := hH
      refine hf_put (T := et_TT) (t := 13) (ci := 11) (f := 0) (p := 5) (ty := .int) (by decide +kernel) rfl rfl rfl rfl rfl hH k_am hi_any (fun G2 hH x2 e2 => ?_)
      have hT : ∀ r, r < rc → txP G2 aw (126 + 841 * r) 0 (g r) ∧ fcl (g r) := fun r hr => ⟨(hT r hr).1.xs lt_aw x2 (fun j h => hi_ne k_aw k_am (by decide) h.1), (hT r hr).2⟩
      have hky := hky.xs hHo k_am k_aw x2 (fun b j t kb hs => by rw [hs.1, k_am] at kb; cases kb; rw [hs.2]; exact ⟨by decide, by decide, fun _ => ⟨by decide, by decide⟩, fun h => absurd h (by decide)⟩)
      have hX := hX.xs (fun j _ _ => x2.2 aw j lt_aw (fun h => hi_ne k_aw k_am (by decide) h.1)) (fun j _ _ => x2.2 aw j lt_aw (fun h => hi_ne k_aw k_am (by decide) h.1))
      have hm := hm.mv ho (fun j _ _ => x2.2 aw j lt_aw (fun h => hi_ne k_aw k_am (by decide) h.1))
      have hcr : crP G2 aw nc X Y := fun k hk => ⟨(x2.2 aw _ lt_aw (fun h => hi_ne k_aw k_am (by decide) h.1)).trans (hcr k hk).1, (x2.2 aw _ lt_aw (fun h => hi_ne k_aw k_am (by decide) h.1)).trans (hcr k hk).2.1, (hcr k hk).2.2⟩
      have m1 := (x2.2 am 1 lt_am (fun h => absurd h.2 (by decide))).trans m1
      have w0 := (x2.2 aw 0 lt_aw (fun h => (hi_ne k_aw k_am (by decide)) h.1)).trans w0
      have w1 := (x2.2 aw 1 lt_aw (fun h => (hi_ne k_aw k_am (by decide)) h.1)).trans w1
      have w2 := (x2.2 aw 2 lt_aw (fun h => (hi_ne k_aw k_am (by decide)) h.1)).trans w2
      have w3 := (x2.2 aw 3 lt_aw (fun h => (hi_ne k_aw k_am (by decide)) h.1)).trans w3
      have w4 := (x2.2 aw 4 lt_aw (fun h => (hi_ne k_aw k_am (by decide)) h.1)).trans w4
      have lt_am := Nat.lt_of_lt_of_le lt_am x2.1
      have lt_aw := Nat.lt_of_lt_of_le lt_aw x2.1
      refine hs_k (x := Int32.ofNat 0) (p := 6) (by decide +kernel) ?_
      refine hs_istore (i := 2) (p := 7) (by decide +kernel) (Nat.le_of_ble_eq_true rfl) ?_
      refine hs_iload (i := 1) (p := 8) (by decide +kernel) rfl ?_
      refine hs_st (ins := .tableswitch 179 0 7 #[48, 55, 60, 94, 101, 108, 115, 151]) (len := 48) (by decide +kernel) rfl (by rfl) (?_ : et_go none _ 293 109 _ _ _ _ _ _)
      refine hs_aload (i := 0) (p := 110) (by decide +kernel) rfl ?_
      refine hf_get (T := et_TT) (t := 13) (ci := 11) (f := 1) (p := 113) (by decide +kernel) rfl hH k_am m1 ?_
      refine hs_k (x := Int32.ofNat 1) (p := 114) (by decide +kernel) ?_
      refine hf_ald (ins := .iaload) (T := et_TT) (t := 46) (kd := 0) (N := 12741) (p := 115) (by decide +kernel) (fun _ _ _ _ _ _ _ _ _ _ => rfl) rfl rfl rfl hH k_aw (by decide) w1 ?_
      refine hs_iret (by decide +kernel) ?_
      rfl
    · rw [ctV_5]
      rw [show eg_mL 293 = 4 from by decide +kernel]
      show et_go none (d + 11) 293 0 [some (.ref am), some (.int (Int32.ofNat 5)), none, none] [] G 0 0 _
      have lt_am := (hH.2.2 _ _ k_am).1
      have lt_aw := (hH.2.2 _ _ k_aw).1
      refine hs_aload (i := 0) (p := 1) (by decide +kernel) rfl ?_
      refine hs_k (x := Int32.ofNat 0) (p := 2) (by decide +kernel) ?_
      have hHo := hH
      refine hf_put (T := et_TT) (t := 13) (ci := 11) (f := 0) (p := 5) (ty := .int) (by decide +kernel) rfl rfl rfl rfl rfl hH k_am hi_any (fun G2 hH x2 e2 => ?_)
      have hT : ∀ r, r < rc → txP G2 aw (126 + 841 * r) 0 (g r) ∧ fcl (g r) := fun r hr => ⟨(hT r hr).1.xs lt_aw x2 (fun j h => hi_ne k_aw k_am (by decide) h.1), (hT r hr).2⟩
      have hky := hky.xs hHo k_am k_aw x2 (fun b j t kb hs => by rw [hs.1, k_am] at kb; cases kb; rw [hs.2]; exact ⟨by decide, by decide, fun _ => ⟨by decide, by decide⟩, fun h => absurd h (by decide)⟩)
      have hX := hX.xs (fun j _ _ => x2.2 aw j lt_aw (fun h => hi_ne k_aw k_am (by decide) h.1)) (fun j _ _ => x2.2 aw j lt_aw (fun h => hi_ne k_aw k_am (by decide) h.1))
      have hm := hm.mv ho (fun j _ _ => x2.2 aw j lt_aw (fun h => hi_ne k_aw k_am (by decide) h.1))
      have hcr : crP G2 aw nc X Y := fun k hk => ⟨(x2.2 aw _ lt_aw (fun h => hi_ne k_aw k_am (by decide) h.1)).trans (hcr k hk).1, (x2.2 aw _ lt_aw (fun h => hi_ne k_aw k_am (by decide) h.1)).trans (hcr k hk).2.1, (hcr k hk).2.2⟩
      have m1 := (x2.2 am 1 lt_am (fun h => absurd h.2 (by decide))).trans m1
      have w0 := (x2.2 aw 0 lt_aw (fun h => (hi_ne k_aw k_am (by decide)) h.1)).trans w0
      have w1 := (x2.2 aw 1 lt_aw (fun h => (hi_ne k_aw k_am (by decide)) h.1)).trans w1
      have w2 := (x2.2 aw 2 lt_aw (fun h => (hi_ne k_aw k_am (by decide)) h.1)).trans w2
      have w3 := (x2.2 aw 3 lt_aw (fun h => (hi_ne k_aw k_am (by decide)) h.1)).trans w3
      have w4 := (x2.2 aw 4 lt_aw (fun h => (hi_ne k_aw k_am (by decide)) h.1)).trans w4
      have lt_am := Nat.lt_of_lt_of_le lt_am x2.1
      have lt_aw := Nat.lt_of_lt_of_le lt_aw x2.1
      refine hs_k (x := Int32.ofNat 0) (p := 6) (by decide +kernel) ?_
      refine hs_istore (i := 2) (p := 7) (by decide +kernel) (Nat.le_of_ble_eq_true rfl) ?_
      refine hs_iload (i := 1) (p := 8) (by decide +kernel) rfl ?_
      refine hs_st (ins := .tableswitch 179 0 7 #[48, 55, 60, 94, 101, 108, 115, 151]) (len := 48) (by decide +kernel) rfl (by rfl) (?_ : et_go none _ 293 116 _ _ _ _ _ _)
      refine hs_aload (i := 0) (p := 117) (by decide +kernel) rfl ?_
      refine hf_get (T := et_TT) (t := 13) (ci := 11) (f := 1) (p := 120) (by decide +kernel) rfl hH k_am m1 ?_
      refine hs_k (x := Int32.ofNat 2) (p := 121) (by decide +kernel) ?_
      refine hf_ald (ins := .iaload) (T := et_TT) (t := 46) (kd := 0) (N := 12741) (p := 122) (by decide +kernel) (fun _ _ _ _ _ _ _ _ _ _ => rfl) rfl rfl rfl hH k_aw (by decide) w2 ?_
      refine hs_iret (by decide +kernel) ?_
      rfl
    · rw [ctV_6]
      rw [show eg_mL 293 = 4 from by decide +kernel]
      show et_go none (d + 11) 293 0 [some (.ref am), some (.int (Int32.ofNat 6)), none, none] [] G 0 0 _
      have lt_am := (hH.2.2 _ _ k_am).1
      have lt_aw := (hH.2.2 _ _ k_aw).1
      refine hs_aload (i := 0) (p := 1) (by decide +kernel) rfl ?_
      refine hs_k (x := Int32.ofNat 0) (p := 2) (by decide +kernel) ?_
      have hHo := hH
      refine hf_put (T := et_TT) (t := 13) (ci := 11) (f := 0) (p := 5) (ty := .int) (by decide +kernel) rfl rfl rfl rfl rfl hH k_am hi_any (fun G2 hH x2 e2 => ?_)
      have hT : ∀ r, r < rc → txP G2 aw (126 + 841 * r) 0 (g r) ∧ fcl (g r) := fun r hr => ⟨(hT r hr).1.xs lt_aw x2 (fun j h => hi_ne k_aw k_am (by decide) h.1), (hT r hr).2⟩
      have hky := hky.xs hHo k_am k_aw x2 (fun b j t kb hs => by rw [hs.1, k_am] at kb; cases kb; rw [hs.2]; exact ⟨by decide, by decide, fun _ => ⟨by decide, by decide⟩, fun h => absurd h (by decide)⟩)
      have hX := hX.xs (fun j _ _ => x2.2 aw j lt_aw (fun h => hi_ne k_aw k_am (by decide) h.1)) (fun j _ _ => x2.2 aw j lt_aw (fun h => hi_ne k_aw k_am (by decide) h.1))
      have hm := hm.mv ho (fun j _ _ => x2.2 aw j lt_aw (fun h => hi_ne k_aw k_am (by decide) h.1))
      have hcr : crP G2 aw nc X Y := fun k hk => ⟨(x2.2 aw _ lt_aw (fun h => hi_ne k_aw k_am (by decide) h.1)).trans (hcr k hk).1, (x2.2 aw _ lt_aw (fun h => hi_ne k_aw k_am (by decide) h.1)).trans (hcr k hk).2.1, (hcr k hk).2.2⟩
      have m1 := (x2.2 am 1 lt_am (fun h => absurd h.2 (by decide))).trans m1
      have w0 := (x2.2 aw 0 lt_aw (fun h => (hi_ne k_aw k_am (by decide)) h.1)).trans w0
      have w1 := (x2.2 aw 1 lt_aw (fun h => (hi_ne k_aw k_am (by decide)) h.1)).trans w1
      have w2 := (x2.2 aw 2 lt_aw (fun h => (hi_ne k_aw k_am (by decide)) h.1)).trans w2
      have w3 := (x2.2 aw 3 lt_aw (fun h => (hi_ne k_aw k_am (by decide)) h.1)).trans w3
      have w4 := (x2.2 aw 4 lt_aw (fun h => (hi_ne k_aw k_am (by decide)) h.1)).trans w4
      have lt_am := Nat.lt_of_lt_of_le lt_am x2.1
      have lt_aw := Nat.lt_of_lt_of_le lt_aw x2.1
      refine hs_k (x := Int32.ofNat 0) (p := 6) (by decide +kernel) ?_
      refine hs_istore (i := 2) (p := 7) (by decide +kernel) (Nat.le_of_ble_eq_true rfl) ?_
      refine hs_iload (i := 1) (p := 8) (by decide +kernel) rfl ?_
      refine hs_st (ins := .tableswitch 179 0 7 #[48, 55, 60, 94, 101, 108, 115, 151]) (len := 48) (by decide +kernel) rfl (by rfl) (?_ : et_go none _ 293 123 _ _ _ _ _ _)
      refine hs_k (x := Int32.ofNat 0) (p := 124) (by decide +kernel) ?_
      refine hs_istore (i := 3) (p := 125) (by decide +kernel) (Nat.le_of_ble_eq_true rfl) ?_
      exact fn_hc9 (x := Int32.ofNat 6) (k := 0) hH k_am k_aw m1 e2 w0 hrc w4 hec hm ho hT hky w3 hnc hcr w2 hcc6 hX hB (Nat.zero_le _)
    · rw [ctV_7]
      rw [show eg_mL 293 = 4 from by decide +kernel]
      show et_go none (d + 11) 293 0 [some (.ref am), some (.int (Int32.ofNat 7)), none, none] [] G 0 0 _
      have lt_am := (hH.2.2 _ _ k_am).1
      have lt_aw := (hH.2.2 _ _ k_aw).1
      refine hs_aload (i := 0) (p := 1) (by decide +kernel) rfl ?_
      refine hs_k (x := Int32.ofNat 0) (p := 2) (by decide +kernel) ?_
      have hHo := hH
      refine hf_put (T := et_TT) (t := 13) (ci := 11) (f := 0) (p := 5) (ty := .int) (by decide +kernel) rfl rfl rfl rfl rfl hH k_am hi_any (fun G2 hH x2 e2 => ?_)
      have hT : ∀ r, r < rc → txP G2 aw (126 + 841 * r) 0 (g r) ∧ fcl (g r) := fun r hr => ⟨(hT r hr).1.xs lt_aw x2 (fun j h => hi_ne k_aw k_am (by decide) h.1), (hT r hr).2⟩
      have hky := hky.xs hHo k_am k_aw x2 (fun b j t kb hs => by rw [hs.1, k_am] at kb; cases kb; rw [hs.2]; exact ⟨by decide, by decide, fun _ => ⟨by decide, by decide⟩, fun h => absurd h (by decide)⟩)
      have hX := hX.xs (fun j _ _ => x2.2 aw j lt_aw (fun h => hi_ne k_aw k_am (by decide) h.1)) (fun j _ _ => x2.2 aw j lt_aw (fun h => hi_ne k_aw k_am (by decide) h.1))
      have hm := hm.mv ho (fun j _ _ => x2.2 aw j lt_aw (fun h => hi_ne k_aw k_am (by decide) h.1))
      have hcr : crP G2 aw nc X Y := fun k hk => ⟨(x2.2 aw _ lt_aw (fun h => hi_ne k_aw k_am (by decide) h.1)).trans (hcr k hk).1, (x2.2 aw _ lt_aw (fun h => hi_ne k_aw k_am (by decide) h.1)).trans (hcr k hk).2.1, (hcr k hk).2.2⟩
      have m1 := (x2.2 am 1 lt_am (fun h => absurd h.2 (by decide))).trans m1
      have w0 := (x2.2 aw 0 lt_aw (fun h => (hi_ne k_aw k_am (by decide)) h.1)).trans w0
      have w1 := (x2.2 aw 1 lt_aw (fun h => (hi_ne k_aw k_am (by decide)) h.1)).trans w1
      have w2 := (x2.2 aw 2 lt_aw (fun h => (hi_ne k_aw k_am (by decide)) h.1)).trans w2
      have w3 := (x2.2 aw 3 lt_aw (fun h => (hi_ne k_aw k_am (by decide)) h.1)).trans w3
      have w4 := (x2.2 aw 4 lt_aw (fun h => (hi_ne k_aw k_am (by decide)) h.1)).trans w4
      have lt_am := Nat.lt_of_lt_of_le lt_am x2.1
      have lt_aw := Nat.lt_of_lt_of_le lt_aw x2.1
      refine hs_k (x := Int32.ofNat 0) (p := 6) (by decide +kernel) ?_
      refine hs_istore (i := 2) (p := 7) (by decide +kernel) (Nat.le_of_ble_eq_true rfl) ?_
      refine hs_iload (i := 1) (p := 8) (by decide +kernel) rfl ?_
      refine hs_st (ins := .tableswitch 179 0 7 #[48, 55, 60, 94, 101, 108, 115, 151]) (len := 48) (by decide +kernel) rfl (by rfl) (?_ : et_go none _ 293 159 _ _ _ _ _ _)
      refine hs_k (x := Int32.ofNat 0) (p := 160) (by decide +kernel) ?_
      refine hs_istore (i := 3) (p := 161) (by decide +kernel) (Nat.le_of_ble_eq_true rfl) ?_
      exact fn_wa9 (x := Int32.ofNat 7) (m := 0) hH k_am k_aw m1 e2 w0 hrc w4 hec hm ho hT hky w3 hnc hcr w2 hcc6 hX hB (Nat.zero_le _)
  · have hx9 : x.toInt < 0 ∨ 7 < x.toInt := by omega
    rw [ctV_d hx9]
    rw [show eg_mL 293 = 4 from by decide +kernel]
    show et_go none (d + 11) 293 0 [some (.ref am), some (.int x), none, none] [] G 0 0 _
    have lt_am := (hH.2.2 _ _ k_am).1
    have lt_aw := (hH.2.2 _ _ k_aw).1
    refine hs_aload (i := 0) (p := 1) (by decide +kernel) rfl ?_
    refine hs_k (x := Int32.ofNat 0) (p := 2) (by decide +kernel) ?_
    have hHo := hH
    refine hf_put (T := et_TT) (t := 13) (ci := 11) (f := 0) (p := 5) (ty := .int) (by decide +kernel) rfl rfl rfl rfl rfl hH k_am hi_any (fun G2 hH x2 e2 => ?_)
    have hT : ∀ r, r < rc → txP G2 aw (126 + 841 * r) 0 (g r) ∧ fcl (g r) := fun r hr => ⟨(hT r hr).1.xs lt_aw x2 (fun j h => hi_ne k_aw k_am (by decide) h.1), (hT r hr).2⟩
    have hky := hky.xs hHo k_am k_aw x2 (fun b j t kb hs => by rw [hs.1, k_am] at kb; cases kb; rw [hs.2]; exact ⟨by decide, by decide, fun _ => ⟨by decide, by decide⟩, fun h => absurd h (by decide)⟩)
    have hX := hX.xs (fun j _ _ => x2.2 aw j lt_aw (fun h => hi_ne k_aw k_am (by decide) h.1)) (fun j _ _ => x2.2 aw j lt_aw (fun h => hi_ne k_aw k_am (by decide) h.1))
    have hm := hm.mv ho (fun j _ _ => x2.2 aw j lt_aw (fun h => hi_ne k_aw k_am (by decide) h.1))
    have hcr : crP G2 aw nc X Y := fun k hk => ⟨(x2.2 aw _ lt_aw (fun h => hi_ne k_aw k_am (by decide) h.1)).trans (hcr k hk).1, (x2.2 aw _ lt_aw (fun h => hi_ne k_aw k_am (by decide) h.1)).trans (hcr k hk).2.1, (hcr k hk).2.2⟩
    have m1 := (x2.2 am 1 lt_am (fun h => absurd h.2 (by decide))).trans m1
    have w0 := (x2.2 aw 0 lt_aw (fun h => (hi_ne k_aw k_am (by decide)) h.1)).trans w0
    have w1 := (x2.2 aw 1 lt_aw (fun h => (hi_ne k_aw k_am (by decide)) h.1)).trans w1
    have w2 := (x2.2 aw 2 lt_aw (fun h => (hi_ne k_aw k_am (by decide)) h.1)).trans w2
    have w3 := (x2.2 aw 3 lt_aw (fun h => (hi_ne k_aw k_am (by decide)) h.1)).trans w3
    have w4 := (x2.2 aw 4 lt_aw (fun h => (hi_ne k_aw k_am (by decide)) h.1)).trans w4
    have lt_am := Nat.lt_of_lt_of_le lt_am x2.1
    have lt_aw := Nat.lt_of_lt_of_le lt_aw x2.1
    refine hs_k (x := Int32.ofNat 0) (p := 6) (by decide +kernel) ?_
    refine hs_istore (i := 2) (p := 7) (by decide +kernel) (Nat.le_of_ble_eq_true rfl) ?_
    refine hs_iload (i := 1) (p := 8) (by decide +kernel) rfl ?_
    refine hs_tsd (dd := 179) (lo := 0) (hi := 7) (offs := #[48, 55, 60, 94, 101, 108, 115, 151]) (len := 48) (by decide +kernel) (by decide) hx9 (?_ : et_go none _ 293 187 _ _ _ _ _ _)
    refine hs_k (x := (-1)) (p := 188) (by decide +kernel) ?_
    refine hs_iret (by decide +kernel) ?_
    rfl
end BFA
