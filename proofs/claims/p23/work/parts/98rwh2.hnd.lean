/-! searches: bound: both sides come to the same -/
section ACA
variable {v : evT} {X : Nat → Int32} {Y : Nat → Nat} {nc k i : Nat}
theorem kt_b (hk : k ≤ 3) {W u : Nat} : -63 ≤ (kvT k W i u).toInt ∧ (kvT k W i u).toInt ≤ 63 := by
  have hd := kvD_lt (B := 2 * k + 1) (W := W) (n := i) (w := u) (by omega)
  have e := kd_i (k := k) hk hd
  have e2 : (kvT k W i u).toInt = (kvD (2 * k + 1) W i u : Int) - (k : Int) := e
  omega
theorem bo_same (hk : k ≤ 3) (hW : v.1 ≤ 6) (hny : ¬ (ycN Y nc = 0 ∨ ycN Y nc = nc)) (hlt : gnI (seS v (kvT k v.1 i) X) Y nc < lyI (seS v (kvT k v.1 i) X) Y nc) : (¬ (lyI (seS v (kvT k v.1 i) X) Y nc - gnI (seS v (kvT k v.1 i) X) Y nc).toInt64 * (lyI (seS v (kvT k v.1 i) X) Y nc - gnI (seS v (kvT k v.1 i) X) Y nc).toInt64 = 0) ∧ boT v (kvT k v.1 i) X Y nc = ((moM (fun c => rqL (fun u => vaI (v.2.1 u) (v.2.2.1 u) (X c)) v.1) nc) * (4 * k2M (kvT k v.1 i) v.1 + (lyI (seS v (kvT k v.1 i) X) Y nc + gnI (seS v (kvT k v.1 i) X) Y nc).toInt64 * (lyI (seS v (kvT k v.1 i) X) Y nc + gnI (seS v (kvT k v.1 i) X) Y nc).toInt64) / ((lyI (seS v (kvT k v.1 i) X) Y nc - gnI (seS v (kvT k v.1 i) X) Y nc).toInt64 * (lyI (seS v (kvT k v.1 i) X) Y nc - gnI (seS v (kvT k v.1 i) X) Y nc).toInt64)).toInt32 := by
  have hS : ∀ c, c < nc → -1134 ≤ (seS v (kvT k v.1 i) X c).toInt ∧ (seS v (kvT k v.1 i) X c).toInt ≤ 1134 := fun c _ => ss_b hk hW
  have hlt := Int32.lt_iff_toInt_lt.mp hlt
  rcases lw_s (Y := Y) hS nc (Nat.le_refl nc) with ⟨h0, -⟩ | ⟨-, h1, h2, h3⟩
  · exact absurd (.inl h0) hny
  rcases hi_s (Y := Y) hS nc (Nat.le_refl nc) with ⟨h0, -⟩ | ⟨-, g1, g2, g3⟩
  · exact absurd (.inr h0) hny
  have s1 : (lyI (seS v (kvT k v.1 i) X) Y nc - gnI (seS v (kvT k v.1 i) X) Y nc).toInt = (lyI (seS v (kvT k v.1 i) X) Y nc).toInt - (gnI (seS v (kvT k v.1 i) X) Y nc).toInt := et_sub _ _ (by unfold et_mn; omega) (by unfold et_mx; omega)
  have s2 : (lyI (seS v (kvT k v.1 i) X) Y nc + gnI (seS v (kvT k v.1 i) X) Y nc).toInt = (lyI (seS v (kvT k v.1 i) X) Y nc).toInt + (gnI (seS v (kvT k v.1 i) X) Y nc).toInt := et_add _ _ (by unfold et_mn; omega) (by unfold et_mx; omega)
  have e1 : lwL (seS v (kvT k v.1 i) X) Y nc - hiL (seS v (kvT k v.1 i) X) Y nc = (lyI (seS v (kvT k v.1 i) X) Y nc - gnI (seS v (kvT k v.1 i) X) Y nc).toInt64 := by
    rw [h1, g1]
    exact i64_e (by rw [i64_sub (by rw [bd_i, bd_i]; omega) (by rw [bd_i, bd_i]; omega), bd_i, bd_i, bd_i, s1])
  have e2 : lwL (seS v (kvT k v.1 i) X) Y nc + hiL (seS v (kvT k v.1 i) X) Y nc = (lyI (seS v (kvT k v.1 i) X) Y nc + gnI (seS v (kvT k v.1 i) X) Y nc).toInt64 := by
    rw [h1, g1]
    exact i64_e (by rw [i64_add (by rw [bd_i, bd_i]; omega) (by rw [bd_i, bd_i]; omega), bd_i, bd_i, bd_i, s2])
  have hp : 0 < lg_cmp (lwL (seS v (kvT k v.1 i) X) Y nc - hiL (seS v (kvT k v.1 i) X) Y nc) (Int64.ofNat 0) := by
    have h9 : Int64.ofNat 0 < lwL (seS v (kvT k v.1 i) X) Y nc - hiL (seS v (kvT k v.1 i) X) Y nc := Int64.lt_iff_toInt_lt.mpr (by
      have o0 : (Int64.ofNat 0).toInt = 0 := rfl
      rw [o0, e1, bd_i, s1]
      omega)
    unfold lg_cmp
    rw [if_pos h9]
    decide
  refine ⟨?_, ?_⟩
  · rw [← e1]
    exact bd_d (lw_bd nc) (hi_bd nc) hp
  · have e3 : boT v (kvT k v.1 i) X Y nc = boX (lwL (seS v (kvT k v.1 i) X) Y nc) (hiL (seS v (kvT k v.1 i) X) Y nc) (moL (fun c => sqN v.2.1 v.2.2.1 (X c) v.1) nc) (k2L (kvT k v.1 i) v.1) := if_pos hp
    rw [e3]
    unfold boX
    rw [e1, e2, mo_same nc (R := fun c => rqL (fun u => vaI (v.2.1 u) (v.2.2.1 u) (X c)) v.1) (fun c _ => rq_same hW), k2_same v.1 (fun m _ => kt_b hk)]
/-- FOUND's KNOBS tell the CARDS apart -/
theorem fo_lt (hk : k ≤ 3) (hW : v.1 ≤ 6) {q : Nat × Nat} (h : foA v.1 v.2.1 v.2.2.1 X Y nc k = some q) : gnI (seS v (kvT k v.1 q.2) X) Y nc < lyI (seS v (kvT k v.1 q.2) X) Y nc := by
  have h1 := foT_q (st := false) hk hW h
  have h2 := (ok_px hk hW).mp h1.2.2.1
  have h3 := (gd_i (k := k) (W := v.1) (C := v.2.1) (Kd := v.2.2.1) (X := X) (Y := Y) (m := nc) (i := q.2) hk hW).mpr h2
  rw [ss_e] at h3
  exact of_decide_eq_true h3
theorem ly_m (hk : k ≤ 3) (hW : v.1 ≤ 6) : lyI (seS v (kvT k v.1 i) X) Y nc = Int32.ofNat 1000000 ↔ ycN Y nc = 0 := by
  rcases lw_s (Y := Y) (S := seS v (kvT k v.1 i) X) (n := nc) (fun c _ => ss_b hk hW) nc (Nat.le_refl nc) with ⟨h0, -, h1⟩ | ⟨h0, -, h2, h3⟩
  · exact ⟨fun _ => h0, fun _ => h1⟩
  · refine ⟨fun h => ?_, fun h => absurd h (by omega)⟩
    rw [h] at h3
    exact absurd h3 (by decide)
theorem gn_m (hk : k ≤ 3) (hW : v.1 ≤ 6) : gnI (seS v (kvT k v.1 i) X) Y nc = (-1000000) ↔ ycN Y nc = nc := by
  rcases hi_s (Y := Y) (S := seS v (kvT k v.1 i) X) (n := nc) (fun c _ => ss_b hk hW) nc (Nat.le_refl nc) with ⟨h0, -, h1⟩ | ⟨h0, -, h2, h3⟩
  · exact ⟨fun _ => h0, fun _ => h1⟩
  · refine ⟨fun h => ?_, fun h => absurd h (by omega)⟩
    rw [h] at h2
    exact absurd h2 (by decide)
theorem boV_n : boV v X Y nc k none = (-1) := by
  unfold boV
  split <;> rfl
end ACA
section ACB
variable {K : et_K} {G : eg_G} {d d2 am aw va tr be ec n k nc W c j w9 : Nat} {x y : Int32} {V : Nat → evT} {X T : Nat → Int32} {Y : Nat → Nat} {VV : Nat → Nat → Int32} {ap bo k2 : Int64} {x9 x11 x12 x14 : Option Value} {x2 : Int32} {Z : eg_O → Prop}
theorem fn_boJ (hH : et_H et_TT K G) (k_am : K am = some 13) (k_aw : K aw = some 46) (k_va : K va = some 20) (k_be : K be = some 50) (hn3 : n < 3) (hW : W ≤ 6) (hnc : nc ≤ 20) (hts : tsI G am aw va tr be n nc W VV X Y) (hc : c < nc) (hj : j ≤ W) (h : et_go none (d + 3) 261 190 [some (.ref am), some (.int (Int32.ofNat n)), some (.int x2), some (.long ap), none, some (.long bo), none, some (.long k2), none, some (.long (moM (fun c => rqL (VV c) W) c)), none, some (.int (Int32.ofNat c)), some (.long (rqL (VV c) W)), none, some (.int (Int32.ofNat W))] [] G 0 0 Z) : et_go none (d + 3) 261 140 [some (.ref am), some (.int (Int32.ofNat n)), some (.int x2), some (.long ap), none, some (.long bo), none, some (.long k2), none, some (.long (moM (fun c => rqL (VV c) W) c)), none, some (.int (Int32.ofNat c)), some (.long (rqL (VV c) j)), none, some (.int (Int32.ofNat j))] [] G 0 0 Z := by
  induction hq9 : W - j using Nat.strongRecOn generalizing j with
  | _ q9 ih =>
    have m1t := hts.1.1
    have m20 := hts.1.2.1
    have m22 := hts.1.2.2.2
    have w3t := hts.2.2.1
    have lt_am := (hH.2.2 _ _ k_am).1
    have lt_aw := (hH.2.2 _ _ k_aw).1
    have lt_va := (hH.2.2 _ _ k_va).1
    have lt_be := (hH.2.2 _ _ k_be).1
    refine hs_iload (i := 14) (p := 142) (by decide +kernel) rfl ?_
    refine hs_aload (i := 0) (p := 143) (by decide +kernel) rfl ?_
    refine hs_iload (i := 1) (p := 144) (by decide +kernel) rfl ?_
    refine ht_callv (T := et_TT) (t := 13) (mi := 224) (na := 1) (ci := 11) (lk := 15) (lm := 2) (L0 := eg_en (eg_mL 224) [.ref am, .int (Int32.ofNat n)]) (by decide +kernel) rfl hH k_am rfl rfl rfl rfl rfl (by rw [show eg_mL 224 = 2 from by decide +kernel]; first | done | rfl) ?_
    refine (fn_wires hH k_am k_aw m1t hn3 hts.2.1 (by omega)).mono (fun u hu => xp_cb hu ?_)
    show et_go none _ 261 147 _ [.int (Int32.ofNat W), .int (Int32.ofNat j)] _ _ _ _
    refine hs_br2n (c := .ge) (t := 190) (f := 150) (by decide +kernel) (by omega) (by omega) (fun (c147 : W ≤ j) => ?_) (fun (c147 : ¬ (W ≤ j)) => ?_)
    · obtain rfl : j = W := by omega
      exact h
    · refine hs_lload (i := 12) (p := 152) (by decide +kernel) rfl ?_
      refine hs_aload (i := 0) (p := 153) (by decide +kernel) rfl ?_
      refine hf_get (T := et_TT) (t := 13) (ci := 11) (f := 20) (p := 156) (by decide +kernel) rfl hH k_am m20 ?_
      refine hs_k (x := Int32.ofNat 6) (p := 158) (by decide +kernel) ?_
      refine hs_iload (i := 11) (p := 160) (by decide +kernel) rfl ?_
      refine hs_imuln (p := 161) (by decide +kernel) ?_
      refine hs_iload (i := 14) (p := 163) (by decide +kernel) rfl ?_
      refine hs_iaddn (p := 164) (by decide +kernel) ?_
      refine hf_ald (ins := .iaload) (T := et_TT) (t := 20) (kd := 0) (N := 120) (p := 165) (by decide +kernel) (fun _ _ _ _ _ _ _ _ _ _ => rfl) rfl rfl rfl hH k_va (by decide) (hts.2.2.2.2 c j (by omega) (by omega)) ?_
      refine hs_i2l (p := 166) (by decide +kernel) ?_
      refine hs_aload (i := 0) (p := 167) (by decide +kernel) rfl ?_
      refine hf_get (T := et_TT) (t := 13) (ci := 11) (f := 20) (p := 170) (by decide +kernel) rfl hH k_am m20 ?_
      refine hs_k (x := Int32.ofNat 6) (p := 172) (by decide +kernel) ?_
      refine hs_iload (i := 11) (p := 174) (by decide +kernel) rfl ?_
      refine hs_imuln (p := 175) (by decide +kernel) ?_
      refine hs_iload (i := 14) (p := 177) (by decide +kernel) rfl ?_
      refine hs_iaddn (p := 178) (by decide +kernel) ?_
      refine hf_ald (ins := .iaload) (T := et_TT) (t := 20) (kd := 0) (N := 120) (p := 179) (by decide +kernel) (fun _ _ _ _ _ _ _ _ _ _ => rfl) rfl rfl rfl hH k_va (by decide) (hts.2.2.2.2 c j (by omega) (by omega)) ?_
      refine hs_i2l (p := 180) (by decide +kernel) ?_
      refine hs_lmul (p := 181) (by decide +kernel) ?_
      refine hs_ladd (p := 182) (by decide +kernel) ?_
      refine hs_lstore (i := 12) (p := 184) (by decide +kernel) (Nat.le_of_ble_eq_true rfl) ?_
      refine hs_iinc1 (i := 14) (p := 187) (by decide +kernel) rfl (Nat.le_of_ble_eq_true rfl) ?_
      refine hs_goto (p := 140) (by decide +kernel) ?_
      exact ih (W - (j + 1)) (by omega) (j := j + 1) (by omega) rfl
theorem fn_boC {x13 : Option Value} (hH : et_H et_TT K G) (k_am : K am = some 13) (k_aw : K aw = some 46) (k_va : K va = some 20) (k_be : K be = some 50) (hn3 : n < 3) (hW : W ≤ 6) (hnc : nc ≤ 20) (hts : tsI G am aw va tr be n nc W VV X Y) (hdiv : ¬ ap * ap = 0) (hc : c ≤ nc) : et_go none (d + 3) 261 125 [some (.ref am), some (.int (Int32.ofNat n)), some (.int x2), some (.long ap), none, some (.long bo), none, some (.long k2), none, some (.long (moM (fun c => rqL (VV c) W) c)), none, some (.int (Int32.ofNat c)), x12, x13, x14] [] G 0 0 (xp_Z G (some (.int ((moM (fun c => rqL (VV c) W) nc) * (4 * k2 + bo * bo) / (ap * ap)).toInt32))) := by
  induction hq9 : nc - c using Nat.strongRecOn generalizing c x12 x13 x14 with
  | _ q9 ih =>
    have m1t := hts.1.1
    have m20 := hts.1.2.1
    have m22 := hts.1.2.2.2
    have w3t := hts.2.2.1
    have lt_am := (hH.2.2 _ _ k_am).1
    have lt_aw := (hH.2.2 _ _ k_aw).1
    have lt_va := (hH.2.2 _ _ k_va).1
    have lt_be := (hH.2.2 _ _ k_be).1
    refine hs_iload (i := 11) (p := 127) (by decide +kernel) rfl ?_
    refine hs_aload (i := 0) (p := 128) (by decide +kernel) rfl ?_
    refine ht_callv (T := et_TT) (t := 13) (mi := 218) (na := 0) (ci := 11) (lk := 15) (lm := 1) (L0 := eg_en (eg_mL 218) [.ref am]) (by decide +kernel) rfl hH k_am rfl rfl rfl rfl rfl (by rw [show eg_mL 218 = 1 from by decide +kernel]; first | done | rfl) ?_
    refine (fm_cards hH k_am k_aw m1t w3t).mono (fun u hu => xp_cb hu ?_)
    show et_go none _ 261 131 _ [.int (Int32.ofNat nc), .int (Int32.ofNat c)] _ _ _ _
    refine hs_br2n (c := .ge) (t := 205) (f := 134) (by decide +kernel) (by omega) (by omega) (fun (c131 : nc ≤ c) => ?_) (fun (c131 : ¬ (nc ≤ c)) => ?_)
    · refine hs_lload (i := 9) (p := 207) (by decide +kernel) rfl ?_
      refine hs_lcon (x := 4) (p := 210) (by decide +kernel) ?_
      refine hs_lload (i := 7) (p := 212) (by decide +kernel) rfl ?_
      refine hs_lmul (p := 213) (by decide +kernel) ?_
      refine hs_lload (i := 5) (p := 215) (by decide +kernel) rfl ?_
      refine hs_lload (i := 5) (p := 217) (by decide +kernel) rfl ?_
      refine hs_lmul (p := 218) (by decide +kernel) ?_
      refine hs_ladd (p := 219) (by decide +kernel) ?_
      refine hs_lmul (p := 220) (by decide +kernel) ?_
      refine hs_lload (i := 3) (p := 221) (by decide +kernel) rfl ?_
      refine hs_lload (i := 3) (p := 222) (by decide +kernel) rfl ?_
      refine hs_lmul (p := 223) (by decide +kernel) ?_
      refine hs_ldiv (p := 224) (by decide +kernel) hdiv ?_
      refine hs_l2i (p := 225) (by decide +kernel) ?_
      refine hs_iret (by decide +kernel) ?_
      obtain rfl : c = nc := by omega
      rfl
    · refine hs_lcon (x := Int64.ofNat 1) (p := 135) (by decide +kernel) ?_
      refine hs_lstore (i := 12) (p := 137) (by decide +kernel) (Nat.le_of_ble_eq_true rfl) ?_
      refine hs_k (x := Int32.ofNat 0) (p := 138) (by decide +kernel) ?_
      refine hs_istore (i := 14) (p := 140) (by decide +kernel) (Nat.le_of_ble_eq_true rfl) ?_
      refine fn_boJ (j := 0) hH k_am k_aw k_va k_be hn3 hW hnc hts (by omega) (Nat.zero_le W) ?_
      refine hs_lload (i := 9) (p := 192) (by decide +kernel) rfl ?_
      refine hs_lload (i := 12) (p := 194) (by decide +kernel) rfl ?_
      refine hs_math (mi := 313) (lk := 15) (p := 197) (by decide +kernel) rfl rfl rfl rfl ?_
      rw [show (if (rqL (VV c) W) < (moM (fun c => rqL (VV c) W) c) then (moM (fun c => rqL (VV c) W) c) else (rqL (VV c) W)) = (mxL (moM (fun c => rqL (VV c) W) c) (rqL (VV c) W)) from rfl]
      refine hs_lstore (i := 9) (p := 199) (by decide +kernel) (Nat.le_of_ble_eq_true rfl) ?_
      refine hs_iinc1 (i := 11) (p := 202) (by decide +kernel) rfl (Nat.le_of_ble_eq_true rfl) ?_
      refine hs_goto (p := 125) (by decide +kernel) ?_
      exact ih (nc - (c + 1)) (by omega) (c := c + 1) (x12 := some (.long (rqL (VV c) W))) (x13 := none) (x14 := some (.int (Int32.ofNat W))) (by omega) rfl
theorem fn_boK {x13 : Option Value} (hH : et_H et_TT K G) (k_am : K am = some 13) (k_aw : K aw = some 46) (k_va : K va = some 20) (k_be : K be = some 50) (hn3 : n < 3) (hW : W ≤ 6) (hnc : nc ≤ 20) (hts : tsI G am aw va tr be n nc W VV X Y) (rB : ∀ u, u < W → et_pl (eg_at G be) u = some (.int (T u))) (hdiv : ¬ ap * ap = 0) (hu : w9 ≤ W) : et_go none (d + 3) 261 81 [some (.ref am), some (.int (Int32.ofNat n)), some (.int x2), some (.long ap), none, some (.long bo), none, some (.long (k2M T w9)), none, some (.int (Int32.ofNat w9)), x9, x11, x12, x13, x14] [] G 0 0 (xp_Z G (some (.int ((moM (fun c => rqL (VV c) W) nc) * (4 * k2M T W + bo * bo) / (ap * ap)).toInt32))) := by
  induction hq9 : W - w9 using Nat.strongRecOn generalizing w9 with
  | _ q9 ih =>
    have m1t := hts.1.1
    have m20 := hts.1.2.1
    have m22 := hts.1.2.2.2
    have w3t := hts.2.2.1
    have lt_am := (hH.2.2 _ _ k_am).1
    have lt_aw := (hH.2.2 _ _ k_aw).1
    have lt_va := (hH.2.2 _ _ k_va).1
    have lt_be := (hH.2.2 _ _ k_be).1
    refine hs_iload (i := 9) (p := 83) (by decide +kernel) rfl ?_
    refine hs_aload (i := 0) (p := 84) (by decide +kernel) rfl ?_
    refine hs_iload (i := 1) (p := 85) (by decide +kernel) rfl ?_
    refine ht_callv (T := et_TT) (t := 13) (mi := 224) (na := 1) (ci := 11) (lk := 15) (lm := 2) (L0 := eg_en (eg_mL 224) [.ref am, .int (Int32.ofNat n)]) (by decide +kernel) rfl hH k_am rfl rfl rfl rfl rfl (by rw [show eg_mL 224 = 2 from by decide +kernel]; first | done | rfl) ?_
    refine (fn_wires hH k_am k_aw m1t hn3 hts.2.1 (by omega)).mono (fun u hu => xp_cb hu ?_)
    show et_go none _ 261 88 _ [.int (Int32.ofNat W), .int (Int32.ofNat w9)] _ _ _ _
    refine hs_br2n (c := .ge) (t := 119) (f := 91) (by decide +kernel) (by omega) (by omega) (fun (c88 : W ≤ w9) => ?_) (fun (c88 : ¬ (W ≤ w9)) => ?_)
    · refine hs_lcon (x := Int64.ofNat 0) (p := 120) (by decide +kernel) ?_
      refine hs_lstore (i := 9) (p := 122) (by decide +kernel) (Nat.le_of_ble_eq_true rfl) ?_
      refine hs_k (x := Int32.ofNat 0) (p := 123) (by decide +kernel) ?_
      refine hs_istore (i := 11) (p := 125) (by decide +kernel) (Nat.le_of_ble_eq_true rfl) ?_
      obtain rfl : w9 = W := by omega
      exact fn_boC (c := 0) hH k_am k_aw k_va k_be hn3 hW hnc hts hdiv (Nat.zero_le nc)
    · refine hs_lload (i := 7) (p := 93) (by decide +kernel) rfl ?_
      refine hs_aload (i := 0) (p := 94) (by decide +kernel) rfl ?_
      refine hf_get (T := et_TT) (t := 13) (ci := 11) (f := 22) (p := 97) (by decide +kernel) rfl hH k_am m22 ?_
      refine hs_iload (i := 9) (p := 99) (by decide +kernel) rfl ?_
      refine hf_ald (ins := .iaload) (T := et_TT) (t := 50) (kd := 0) (N := 6) (p := 100) (by decide +kernel) (fun _ _ _ _ _ _ _ _ _ _ => rfl) rfl rfl rfl hH k_be (by decide) (rB w9 (by omega)) ?_
      refine hs_i2l (p := 101) (by decide +kernel) ?_
      refine hs_aload (i := 0) (p := 102) (by decide +kernel) rfl ?_
      refine hf_get (T := et_TT) (t := 13) (ci := 11) (f := 22) (p := 105) (by decide +kernel) rfl hH k_am m22 ?_
      refine hs_iload (i := 9) (p := 107) (by decide +kernel) rfl ?_
      refine hf_ald (ins := .iaload) (T := et_TT) (t := 50) (kd := 0) (N := 6) (p := 108) (by decide +kernel) (fun _ _ _ _ _ _ _ _ _ _ => rfl) rfl rfl rfl hH k_be (by decide) (rB w9 (by omega)) ?_
      refine hs_i2l (p := 109) (by decide +kernel) ?_
      refine hs_lmul (p := 110) (by decide +kernel) ?_
      refine hs_ladd (p := 111) (by decide +kernel) ?_
      refine hs_lstore (i := 7) (p := 113) (by decide +kernel) (Nat.le_of_ble_eq_true rfl) ?_
      refine hs_iinc1 (i := 9) (p := 116) (by decide +kernel) rfl (Nat.le_of_ble_eq_true rfl) ?_
      refine hs_goto (p := 81) (by decide +kernel) ?_
      exact ih (W - (w9 + 1)) (by omega) (w9 := w9 + 1) (by omega) rfl
theorem fn_bound (hH : et_H et_TT K G) (k_am : K am = some 13) (k_aw : K aw = some 46) (m1 : et_pl (eg_at G am) 1 = some (.ref aw)) (w4 : et_pl (eg_at G aw) 4 = some (.int (Int32.ofNat ec))) (hec : ec ≤ 3) (hm : zyM G aw ec V) (ho : ∀ n, n < 3 → evo (V n)) (w3 : et_pl (eg_at G aw) 3 = some (.int (Int32.ofNat nc))) (hnc : nc ≤ 20) (hcr : crP G aw nc X Y) (hn : n < ec) (hk1 : 1 ≤ k) (hk : k ≤ 3) (hd : 8 ≤ d2) : et_go none d2 261 0 (eg_en (eg_mL 261) [.ref am, .int (Int32.ofNat n), .int (Int32.ofNat k)]) [] G 0 0 (fun u => u.1 = .inl (some (.int (boV (V n) X Y nc k (foA (V n).1 (V n).2.1 (V n).2.2.1 X Y nc k)))) ∧ et_pl (eg_at u.2.1 am) 0 = some (.int (Int32.ofNat 0))) := by
  obtain ⟨d, rfl⟩ : ∃ d, d2 = d + 8 := ⟨d2 - 8, by omega⟩
  rw [show eg_mL 261 = 15 from by decide +kernel]
  show et_go none (d + 8) 261 0 [some (.ref am), some (.int (Int32.ofNat n)), some (.int (Int32.ofNat k)), none, none, none, none, none, none, none, none, none, none, none, none] [] G 0 0 _
  have lt_am := (hH.2.2 _ _ k_am).1
  have lt_aw := (hH.2.2 _ _ k_aw).1
  refine hs_aload (i := 0) (p := 1) (by decide +kernel) rfl ?_
  refine hs_k (x := Int32.ofNat 0) (p := 2) (by decide +kernel) ?_
  refine hf_put (T := et_TT) (t := 13) (ci := 11) (f := 0) (p := 5) (ty := .int) (by decide +kernel) rfl rfl rfl rfl rfl hH k_am hi_any (fun G2 hH x2 e2 => ?_)
  have hm := hm.mv ho (fun j _ _ => x2.2 aw j lt_aw (fun h => hi_ne k_aw k_am (by decide) h.1))
  have hcr : crP G2 aw nc X Y := fun k hk => ⟨(x2.2 aw _ lt_aw (fun h => hi_ne k_aw k_am (by decide) h.1)).trans (hcr k hk).1, (x2.2 aw _ lt_aw (fun h => hi_ne k_aw k_am (by decide) h.1)).trans (hcr k hk).2.1, (hcr k hk).2.2⟩
  have w3 := (x2.2 aw 3 lt_aw (fun h => hi_ne k_aw k_am (by decide) h.1)).trans w3
  have m1 := (x2.2 am 1 lt_am (fun h => absurd h.2 (by decide))).trans m1
  have w4 := (x2.2 aw 4 lt_aw (fun h => (hi_ne k_aw k_am (by decide)) h.1)).trans w4
  have lt_am := Nat.lt_of_lt_of_le lt_am x2.1
  have lt_aw := Nat.lt_of_lt_of_le lt_aw x2.1
  refine hs_aload (i := 0) (p := 6) (by decide +kernel) rfl ?_
  refine hs_iload (i := 1) (p := 7) (by decide +kernel) rfl ?_
  refine hs_iload (i := 2) (p := 8) (by decide +kernel) rfl ?_
  refine hs_k (x := Int32.ofNat 3) (p := 9) (by decide +kernel) ?_
  refine ht_callv (T := et_TT) (t := 13) (mi := 254) (na := 3) (ci := 11) (lk := 15) (lm := 4) (L0 := eg_en (eg_mL 254) [.ref am, .int (Int32.ofNat n), .int (Int32.ofNat k), .int (Int32.ofNat 3)]) (by decide +kernel) rfl hH k_am rfl rfl rfl rfl rfl (by rw [show eg_mL 254 = 4 from by decide +kernel]; first | done | rfl) ?_
  refine (fn_nsY (q := 3) hH k_am k_aw m1 w4 hec hm ho (by decide) hn hk1 hk (by omega)).mono (fun u hu => xp_cb hu ?_)
  show et_go none _ 261 12 _ [.int (Int32.ofNat 0)] _ _ _ _
  refine hs_if1 (c := .eq) (t := 17) (f := 15) (by decide +kernel) (show Int32.ofNat 0 = 0 by decide) ?_
  refine hs_aload (i := 0) (p := 18) (by decide +kernel) rfl ?_
  refine hs_iload (i := 1) (p := 19) (by decide +kernel) rfl ?_
  refine hs_iload (i := 2) (p := 20) (by decide +kernel) rfl ?_
  obtain ⟨va, m20, k_va⟩ := hf_ref (t := 13) (f := 20) (u := 20) hH k_am rfl rfl (.inr trivial)
  obtain ⟨tr, m21, k_tr⟩ := hf_ref (t := 13) (f := 21) (u := 49) hH k_am rfl rfl (.inr trivial)
  obtain ⟨be, m22, k_be⟩ := hf_ref (t := 13) (f := 22) (u := 50) hH k_am rfl rfl (.inr trivial)
  refine ht_callv (T := et_TT) (t := 13) (mi := 255) (na := 2) (ci := 11) (lk := 15) (lm := 6) (L0 := eg_en (eg_mL 255) [.ref am, .int (Int32.ofNat n), .int (Int32.ofNat k)]) (by decide +kernel) rfl hH k_am rfl rfl rfl rfl rfl (by rw [show eg_mL 255 = 6 from by decide +kernel]; first | done | rfl) ?_
  refine (fn_tries (v := V n) hH k_am k_aw k_va k_tr k_be m1 m20 m21 m22 (by omega) (ho n (by omega)) ((hm n (by omega)).1 hn) hk hnc w3 hcr (by omega)).mono (fun u9 hu9 => xw_cb hu9 (fun G9 v9 hH9 x9 hP9 => ?_))
  obtain ⟨rfl, hts, hrs⟩ := hP9
  have th0 := (x9.2 am 0 (hH.2.2 _ _ k_am).1 (fun h => by have n1 : ¬ am = be := hi_ne k_am k_be (by decide); have n2 : ¬ am = tr := hi_ne k_am k_tr (by decide); have n3 : ¬ am = va := hi_ne k_am k_va (by decide); rcases h with h | h | h | h; omega; exact n1 h; exact n2 h; exact n3 h)).trans e2
  have hH := hH9
  have m1t := hts.1.1
  have w3t := hts.2.2.1
  have m22 := hts.1.2.2.2
  have hW := (ho n (by omega)).1.1
  have hq := hrs.2
  rw [foR2 (v := V n) hk hW] at hq
  rcases hoq : (foA (V n).1 (V n).2.1 (V n).2.2.1 X Y nc k) with _ | q
  · rw [hoq] at hq
    have r29 : et_pl (eg_at G9 am) 29 = some (.int (Int32.ofNat 0)) := hq
    show et_go none _ 261 23 _ [] _ _ _ _
    refine hs_aload (i := 0) (p := 24) (by decide +kernel) rfl ?_
    refine hf_get (T := et_TT) (t := 13) (ci := 11) (f := 29) (p := 27) (by decide +kernel) rfl hH k_am r29 ?_
    refine hs_if1 (c := .eq) (t := 50) (f := 30) (by decide +kernel) (show Int32.ofNat 0 = 0 by decide) ?_
    refine hs_k (x := (-1)) (p := 51) (by decide +kernel) ?_
    refine hs_iret (by decide +kernel) ?_
    refine ⟨?_, th0⟩
    show (Sum.inl (some (Value.int (-1))) : eg_R) = .inl (some (.int (boV (V n) X Y nc k none)))
    rw [boV_n]
  · rw [hoq] at hq
    obtain ⟨r29, r23, r25, r26, r24, rB⟩ := hq
    rw [ss_e (v := V n)] at r25 r26 r24
    show et_go none _ 261 23 _ [] _ _ _ _
    refine hs_aload (i := 0) (p := 24) (by decide +kernel) rfl ?_
    refine hf_get (T := et_TT) (t := 13) (ci := 11) (f := 29) (p := 27) (by decide +kernel) rfl hH k_am r29 ?_
    refine hs_if0 (c := .eq) (t := 50) (f := 30) (by decide +kernel) (show ¬ (Int32.ofNat 1 = 0) by decide) ?_
    refine hs_aload (i := 0) (p := 31) (by decide +kernel) rfl ?_
    refine hf_get (T := et_TT) (t := 13) (ci := 11) (f := 25) (p := 34) (by decide +kernel) rfl hH k_am r25 ?_
    refine hs_kld (v := Value.int (Int32.ofNat 1000000)) (p := 37) (by decide +kernel) ?_
    refine hs_br2 (c := .eq) (t := 50) (f := 40) (by decide +kernel) (fun (c37 : (lyI (seS (V n) (kvT k (V n).1 q.2) X) Y nc) = Int32.ofNat 1000000) => ?_) (fun (c37 : ¬ ((lyI (seS (V n) (kvT k (V n).1 q.2) X) Y nc) = Int32.ofNat 1000000)) => ?_)
    · refine hs_k (x := (-1)) (p := 51) (by decide +kernel) ?_
      refine hs_iret (by decide +kernel) ?_
      refine ⟨?_, th0⟩
      show (Sum.inl (some (Value.int (-1))) : eg_R) = .inl (some (.int (boV (V n) X Y nc k (some q))))
      rw [show boV (V n) X Y nc k (some q) = (-1) from if_pos (.inl ((ly_m (v := V n) hk hW).mp c37))]
    · refine hs_aload (i := 0) (p := 41) (by decide +kernel) rfl ?_
      refine hf_get (T := et_TT) (t := 13) (ci := 11) (f := 26) (p := 44) (by decide +kernel) rfl hH k_am r26 ?_
      refine hs_kld (v := Value.int (-1000000)) (p := 47) (by decide +kernel) ?_
      refine hs_br2 (c := .ne) (t := 52) (f := 50) (by decide +kernel) (fun (c47 : ¬ (gnI (seS (V n) (kvT k (V n).1 q.2) X) Y nc) = (-1000000)) => ?_) (fun (c47 : ¬ (¬ (gnI (seS (V n) (kvT k (V n).1 q.2) X) Y nc) = (-1000000))) => ?_)
      · refine hs_aload (i := 0) (p := 53) (by decide +kernel) rfl ?_
        refine hf_get (T := et_TT) (t := 13) (ci := 11) (f := 25) (p := 56) (by decide +kernel) rfl hH k_am r25 ?_
        refine hs_aload (i := 0) (p := 57) (by decide +kernel) rfl ?_
        refine hf_get (T := et_TT) (t := 13) (ci := 11) (f := 26) (p := 60) (by decide +kernel) rfl hH k_am r26 ?_
        refine hs_isub (p := 61) (by decide +kernel) ?_
        refine hs_i2l (p := 62) (by decide +kernel) ?_
        refine hs_lstore (i := 3) (p := 63) (by decide +kernel) (Nat.le_of_ble_eq_true rfl) ?_
        refine hs_aload (i := 0) (p := 64) (by decide +kernel) rfl ?_
        refine hf_get (T := et_TT) (t := 13) (ci := 11) (f := 25) (p := 67) (by decide +kernel) rfl hH k_am r25 ?_
        refine hs_aload (i := 0) (p := 68) (by decide +kernel) rfl ?_
        refine hf_get (T := et_TT) (t := 13) (ci := 11) (f := 26) (p := 71) (by decide +kernel) rfl hH k_am r26 ?_
        refine hs_iadd (p := 72) (by decide +kernel) ?_
        refine hs_i2l (p := 73) (by decide +kernel) ?_
        refine hs_lstore (i := 5) (p := 75) (by decide +kernel) (Nat.le_of_ble_eq_true rfl) ?_
        refine hs_lcon (x := Int64.ofNat 0) (p := 76) (by decide +kernel) ?_
        refine hs_lstore (i := 7) (p := 78) (by decide +kernel) (Nat.le_of_ble_eq_true rfl) ?_
        refine hs_k (x := Int32.ofNat 0) (p := 79) (by decide +kernel) ?_
        refine hs_istore (i := 9) (p := 81) (by decide +kernel) (Nat.le_of_ble_eq_true rfl) ?_
        have hbs := bo_same (v := V n) (X := X) (Y := Y) (nc := nc) (k := k) (i := q.2) hk hW (fun h9 => h9.elim (fun h9 => c37 ((ly_m (v := V n) hk hW).mpr h9)) (fun h9 => c47 ((gn_m (v := V n) hk hW).mpr h9))) (fo_lt (v := V n) hk hW hoq)
        refine (fn_boK (d := d + 5) (w9 := 0) (W := (V n).1) (T := kvT k (V n).1 q.2) hH k_am k_aw k_va k_be (by omega) hW hnc hts rB hbs.1 (Nat.zero_le _)).mono (fun u hu => ?_)
        rw [show u = (.inl (some (.int _)), G9, 0, 0) from hu]
        refine ⟨?_, th0⟩
        show (Sum.inl (some (Value.int _)) : eg_R) = .inl (some (.int (boV (V n) X Y nc k (some q))))
        rw [show boV (V n) X Y nc k (some q) = boT (V n) (kvT k (V n).1 q.2) X Y nc from if_neg (fun h9 => h9.elim (fun h9 => c37 ((ly_m (v := V n) hk hW).mpr h9)) (fun h9 => c47 ((gn_m (v := V n) hk hW).mpr h9))), hbs.2]
      · refine hs_k (x := (-1)) (p := 51) (by decide +kernel) ?_
        refine hs_iret (by decide +kernel) ?_
        refine ⟨?_, th0⟩
        show (Sum.inl (some (Value.int (-1))) : eg_R) = .inl (some (.int (boV (V n) X Y nc k (some q))))
        rw [show boV (V n) X Y nc k (some q) = (-1) from if_pos (.inr ((gn_m (v := V n) hk hW).mp (Decidable.of_not_not c47)))]
theorem fn_boundK (hH : et_H et_TT K G) (k_am : K am = some 13) (k_aw : K aw = some 46) (m1 : et_pl (eg_at G am) 1 = some (.ref aw)) (w4 : et_pl (eg_at G aw) 4 = some (.int (Int32.ofNat ec))) (hec : ec ≤ 3) (hm : zyM G aw ec V) (ho : ∀ n, n < 3 → evo (V n)) (hn : n < ec) (hy : ¬ (1 ≤ y.toInt ∧ y.toInt ≤ 3)) (hd : 3 ≤ d2) : et_go none d2 261 0 (eg_en (eg_mL 261) [.ref am, .int (Int32.ofNat n), .int y]) [] G 0 0 (fun u => u.1 = .inl (some (.int (Int32.ofNat 0))) ∧ et_pl (eg_at u.2.1 am) 0 = some (.int (Int32.ofNat 2))) := by
  obtain ⟨d, rfl⟩ : ∃ d, d2 = d + 3 := ⟨d2 - 3, by omega⟩
  rw [show eg_mL 261 = 15 from by decide +kernel]
  show et_go none (d + 3) 261 0 [some (.ref am), some (.int (Int32.ofNat n)), some (.int y), none, none, none, none, none, none, none, none, none, none, none, none] [] G 0 0 _
  have lt_am := (hH.2.2 _ _ k_am).1
  have lt_aw := (hH.2.2 _ _ k_aw).1
  refine hs_aload (i := 0) (p := 1) (by decide +kernel) rfl ?_
  refine hs_k (x := Int32.ofNat 0) (p := 2) (by decide +kernel) ?_
  refine hf_put (T := et_TT) (t := 13) (ci := 11) (f := 0) (p := 5) (ty := .int) (by decide +kernel) rfl rfl rfl rfl rfl hH k_am hi_any (fun G2 hH x2 e2 => ?_)
  have hm := hm.mv ho (fun j _ _ => x2.2 aw j lt_aw (fun h => hi_ne k_aw k_am (by decide) h.1))
  have m1 := (x2.2 am 1 lt_am (fun h => absurd h.2 (by decide))).trans m1
  have w4 := (x2.2 aw 4 lt_aw (fun h => (hi_ne k_aw k_am (by decide)) h.1)).trans w4
  have lt_am := Nat.lt_of_lt_of_le lt_am x2.1
  have lt_aw := Nat.lt_of_lt_of_le lt_aw x2.1
  refine hs_aload (i := 0) (p := 6) (by decide +kernel) rfl ?_
  refine hs_iload (i := 1) (p := 7) (by decide +kernel) rfl ?_
  refine hs_iload (i := 2) (p := 8) (by decide +kernel) rfl ?_
  refine hs_k (x := Int32.ofNat 3) (p := 9) (by decide +kernel) ?_
  refine ht_callv (T := et_TT) (t := 13) (mi := 254) (na := 3) (ci := 11) (lk := 15) (lm := 4) (L0 := eg_en (eg_mL 254) [.ref am, .int (Int32.ofNat n), .int y, .int (Int32.ofNat 3)]) (by decide +kernel) rfl hH k_am rfl rfl rfl rfl rfl (by rw [show eg_mL 254 = 4 from by decide +kernel]; first | done | rfl) ?_
  refine (fn_nsK (q := 3) hH k_am k_aw m1 w4 hec hm ho (by decide) hn hy (by omega)).mono (fun u hu => xw_cb hu (fun G9 v9 hH x9 hP9 => ?_))
  have hm := hm.mv ho (fun j _ _ => x9.2 aw j lt_aw (fun h => hi_ne k_aw k_am (by decide) h.1))
  have m1 := (x9.2 am 1 lt_am (fun h => absurd h.2 (by decide))).trans m1
  have w4 := (x9.2 aw 4 lt_aw (fun h => (hi_ne k_aw k_am (by decide)) h.1)).trans w4
  have lt_am := Nat.lt_of_lt_of_le lt_am x9.1
  have lt_aw := Nat.lt_of_lt_of_le lt_aw x9.1
  obtain ⟨rfl, th9⟩ := hP9
  show et_go none _ 261 12 _ [.int (Int32.ofNat 1)] _ _ _ _
  refine hs_if0 (c := .eq) (t := 17) (f := 15) (by decide +kernel) (show ¬ (Int32.ofNat 1 = 0) by decide) ?_
  refine hs_k (x := Int32.ofNat 0) (p := 16) (by decide +kernel) ?_
  refine hs_iret (by decide +kernel) ?_
  exact ⟨rfl, th9⟩
theorem fn_boundE (hH : et_H et_TT K G) (k_am : K am = some 13) (k_aw : K aw = some 46) (m1 : et_pl (eg_at G am) 1 = some (.ref aw)) (w4 : et_pl (eg_at G aw) 4 = some (.int (Int32.ofNat ec))) (hec : ec ≤ 3) (hm : zyM G aw ec V) (ho : ∀ n, n < 3 → evo (V n)) (hx : ¬ xr x ec) (hd : 3 ≤ d2) : et_go none d2 261 0 (eg_en (eg_mL 261) [.ref am, .int x, .int y]) [] G 0 0 (fun u => u.1 = .inl (some (.int (Int32.ofNat 0))) ∧ et_pl (eg_at u.2.1 am) 0 = some (.int (Int32.ofNat 1))) := by
  obtain ⟨d, rfl⟩ : ∃ d, d2 = d + 3 := ⟨d2 - 3, by omega⟩
  rw [show eg_mL 261 = 15 from by decide +kernel]
  show et_go none (d + 3) 261 0 [some (.ref am), some (.int x), some (.int y), none, none, none, none, none, none, none, none, none, none, none, none] [] G 0 0 _
  have lt_am := (hH.2.2 _ _ k_am).1
  have lt_aw := (hH.2.2 _ _ k_aw).1
  refine hs_aload (i := 0) (p := 1) (by decide +kernel) rfl ?_
  refine hs_k (x := Int32.ofNat 0) (p := 2) (by decide +kernel) ?_
  refine hf_put (T := et_TT) (t := 13) (ci := 11) (f := 0) (p := 5) (ty := .int) (by decide +kernel) rfl rfl rfl rfl rfl hH k_am hi_any (fun G2 hH x2 e2 => ?_)
  have hm := hm.mv ho (fun j _ _ => x2.2 aw j lt_aw (fun h => hi_ne k_aw k_am (by decide) h.1))
  have m1 := (x2.2 am 1 lt_am (fun h => absurd h.2 (by decide))).trans m1
  have w4 := (x2.2 aw 4 lt_aw (fun h => (hi_ne k_aw k_am (by decide)) h.1)).trans w4
  have lt_am := Nat.lt_of_lt_of_le lt_am x2.1
  have lt_aw := Nat.lt_of_lt_of_le lt_aw x2.1
  refine hs_aload (i := 0) (p := 6) (by decide +kernel) rfl ?_
  refine hs_iload (i := 1) (p := 7) (by decide +kernel) rfl ?_
  refine hs_iload (i := 2) (p := 8) (by decide +kernel) rfl ?_
  refine hs_k (x := Int32.ofNat 3) (p := 9) (by decide +kernel) ?_
  refine ht_callv (T := et_TT) (t := 13) (mi := 254) (na := 3) (ci := 11) (lk := 15) (lm := 4) (L0 := eg_en (eg_mL 254) [.ref am, .int x, .int y, .int (Int32.ofNat 3)]) (by decide +kernel) rfl hH k_am rfl rfl rfl rfl rfl (by rw [show eg_mL 254 = 4 from by decide +kernel]; first | done | rfl) ?_
  refine (fn_nsE (q := 3) (y := y) hH k_am k_aw m1 w4 hec hm ho (by decide) hx (by omega)).mono (fun u hu => xw_cb hu (fun G9 v9 hH x9 hP9 => ?_))
  have hm := hm.mv ho (fun j _ _ => x9.2 aw j lt_aw (fun h => hi_ne k_aw k_am (by decide) h.1))
  have m1 := (x9.2 am 1 lt_am (fun h => absurd h.2 (by decide))).trans m1
  have w4 := (x9.2 aw 4 lt_aw (fun h => (hi_ne k_aw k_am (by decide)) h.1)).trans w4
  have lt_am := Nat.lt_of_lt_of_le lt_am x9.1
  have lt_aw := Nat.lt_of_lt_of_le lt_aw x9.1
  obtain ⟨rfl, th9⟩ := hP9
  show et_go none _ 261 12 _ [.int (Int32.ofNat 1)] _ _ _ _
  refine hs_if0 (c := .eq) (t := 17) (f := 15) (by decide +kernel) (show ¬ (Int32.ofNat 1 = 0) by decide) ?_
  refine hs_k (x := Int32.ofNat 0) (p := 16) (by decide +kernel) ?_
  refine hs_iret (by decide +kernel) ?_
  exact ⟨rfl, th9⟩
theorem gz_bound (hH : et_H et_TT K G) (k_am : K am = some 13) (k_aw : K aw = some 46) (m1 : et_pl (eg_at G am) 1 = some (.ref aw)) (w4 : et_pl (eg_at G aw) 4 = some (.int (Int32.ofNat ec))) (hec : ec ≤ 3) (hm : zyM G aw ec V) (ho : ∀ n, n < 3 → evo (V n)) (w3 : et_pl (eg_at G aw) 3 = some (.int (Int32.ofNat nc))) (hnc : nc ≤ 20) (hcr : crP G aw nc X Y) (hd : 8 ≤ d2) : et_go none d2 261 0 (eg_en (eg_mL 261) [.ref am, .int x, .int y]) [] G 0 0 (fun u => (¬ xr x ec ∧ u.1 = .inl (some (.int (Int32.ofNat 0))) ∧ et_pl (eg_at u.2.1 am) 0 = some (.int (Int32.ofNat 1))) ∨ ∃ n, (x = Int32.ofNat n ∧ n < ec) ∧ ((¬ (1 ≤ y.toInt ∧ y.toInt ≤ 3) ∧ u.1 = .inl (some (.int (Int32.ofNat 0))) ∧ et_pl (eg_at u.2.1 am) 0 = some (.int (Int32.ofNat 2))) ∨ ∃ k, (y = Int32.ofNat k ∧ 1 ≤ k ∧ k ≤ 3) ∧ u.1 = .inl (some (.int (boV (V n) X Y nc k (foA (V n).1 (V n).2.1 (V n).2.2.1 X Y nc k)))) ∧ et_pl (eg_at u.2.1 am) 0 = some (.int (Int32.ofNat 0)))) := by
  by_cases hx : xr x ec
  · obtain ⟨n, rfl, hn⟩ := xr_nat hx (by omega)
    by_cases hs3 : (1 ≤ y.toInt ∧ y.toInt ≤ 3)
    · obtain ⟨k, rfl, q2, q3⟩ := hs_toN (x := y) (by omega)
      exact (fn_bound hH k_am k_aw m1 w4 hec hm ho w3 hnc hcr hn (by omega) (by omega) hd).mono (fun u hu => .inr ⟨n, ⟨rfl, hn⟩, .inr ⟨k, ⟨rfl, by omega, by omega⟩, hu.1, hu.2⟩⟩)
    · exact (fn_boundK hH k_am k_aw m1 w4 hec hm ho hn hs3 (by omega)).mono (fun u hu => .inr ⟨n, ⟨rfl, hn⟩, .inl ⟨hs3, hu.1, hu.2⟩⟩)
  · exact (fn_boundE hH k_am k_aw m1 w4 hec hm ho hx (by omega)).mono (fun u hu => .inl ⟨hx, hu.1, hu.2⟩)
end ACB
