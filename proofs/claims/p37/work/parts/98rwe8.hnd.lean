section
/-! PHASE C: mend -/
/-- one of the first cards doesn't go along with the CELL by a RULE -/
def mnF (f : sp_E → Bool) (k : Nat) : Nat → Bool
  | 0 => false
  | m + 1 => mnF f k m || decide (¬ liI (Int32.ofNat m) k = f (feE (fun _ => Int32.ofNat m)))
theorem mnF_y {f : sp_E → Bool} {k m : Nat} (h : ¬ liI (Int32.ofNat m) k = f (feE (fun _ => Int32.ofNat m))) : mnF f k (m + 1) = true := by
  show (mnF f k m || decide _) = true
  rw [decide_eq_true h, Bool.or_true]
theorem mnF_n {f : sp_E → Bool} {k m : Nat} (h0 : mnF f k m = false) (h : liI (Int32.ofNat m) k = f (feE (fun _ => Int32.ofNat m))) : mnF f k (m + 1) = false := by
  show (mnF f k m || decide _) = false
  rw [h0, decide_eq_false (fun h2 => h2 h)]
  rfl
theorem mnF_m {f : sp_E → Bool} {k m : Nat} (h : mnF f k m = true) : ∀ d, mnF f k (m + d) = true
  | 0 => h
  | d + 1 => by
    show (mnF f k (m + d) || _) = true
    rw [mnF_m h d]
    rfl
theorem mnF_e {f : sp_E → Bool} {k m : Nat} (h : mnF f k m = true) (hm : m ≤ 65536) : mnF f k 65536 = true := by
  have h9 := mnF_m h (65536 - m)
  rw [show m + (65536 - m) = 65536 by omega] at h9
  exact h9
/-- MEND -/
def mdV (X : Nat → Int32) (Y : Nat → Nat) (k nc : Nat) (f : sp_E → Bool) : Int32 := if 0 < (Int32.ofNat (2 * (alN X Y k nc)) - Int32.ofNat nc) then (if mnF f k 65536 = true then (Int32.ofNat (2 * (alN X Y k nc)) - Int32.ofNat nc) else -1) else Int32.ofNat 0
theorem md_eq {a b c d : Bool} (h1 : a = c) (h2 : b = d) (h : c = d) : a = b := by rw [h1, h2, h]
theorem md_ne {a b c d : Bool} (h1 : a = c) (h2 : b = d) (h : ¬ c = d) : ¬ a = b := by rw [h1, h2]; exact h
section YKA
variable {K : et_K} {G : eg_G} {d d2 th s0 s1 ya yb ec nc la ly out e ca ki kn am aw n m k c q a b : Nat} {O : Nat → Nat} {A : Nat → Nat → Nat} {v : evT} {V : Nat → evT} {X : Nat → Int32} {Y : Nat → Nat} {x y z : Int32} {q fo ra bb lo hi rc r : Nat} {f : sp_E → Bool} {F : Nat → Int32} {g : Nat → sp_E → Bool} {E9 : Int32}
theorem fd_needQ (hH : et_H et_TT K G) (k_th : K th = some 12) (h0 : et_pl (eg_at G th) 0 = some (.ref s0)) (k_s0 : K s0 = some 10) (r0 : et_pl (eg_at G s0) 0 = some (.int (Int32.ofNat rc))) (hrc : rc ≤ 4) (r1 : et_pl (eg_at G s0) 1 = some (.ref ra)) (k_ra : K ra = some 37) (hn : n < rc) (hR : et_pl (eg_at G ra) n = some (.ref q)) : et_go none d2 129 0 (eg_en (eg_mL 129) [.ref th, .int (Int32.ofNat n)]) [] G 0 0 (xp_Z G (some (.ref q))) := by
  rw [show eg_mL 129 = 2 from by decide +kernel]
  show et_go none d2 129 0 [some (.ref th), some (.int (Int32.ofNat n))] [] G 0 0 _
  have lt_th := (hH.2.2 _ _ k_th).1
  have lt_s0 := (hH.2.2 _ _ k_s0).1
  have lt_ra := (hH.2.2 _ _ k_ra).1
  refine hs_iload (i := 1) (p := 1) (by decide +kernel) rfl ?_
  refine hs_if0 (c := .lt) (t := 27) (f := 4) (by decide +kernel) (rs_nn (by omega)) ?_
  refine hs_iload (i := 1) (p := 5) (by decide +kernel) rfl ?_
  refine hs_aload (i := 0) (p := 6) (by decide +kernel) rfl ?_
  refine hf_get (T := et_TT) (t := 12) (ci := 10) (f := 0) (p := 9) (by decide +kernel) rfl hH k_th h0 ?_
  refine hf_get (T := et_TT) (t := 10) (ci := 8) (f := 0) (p := 12) (by decide +kernel) rfl hH k_s0 r0 ?_
  refine hs_br2n (c := .ge) (t := 27) (f := 15) (by decide +kernel) (by omega) (by omega) (fun (c12 : rc ≤ n) => ?_) (fun (c12 : ¬ (rc ≤ n)) => ?_)
  · exact absurd hn (Nat.not_lt.mpr c12)
  · refine hs_aload (i := 0) (p := 16) (by decide +kernel) rfl ?_
    refine hf_get (T := et_TT) (t := 12) (ci := 10) (f := 0) (p := 19) (by decide +kernel) rfl hH k_th h0 ?_
    refine hf_get (T := et_TT) (t := 10) (ci := 8) (f := 1) (p := 22) (by decide +kernel) rfl hH k_s0 r1 ?_
    refine hs_iload (i := 1) (p := 23) (by decide +kernel) rfl ?_
    refine hf_ald (ins := .aaload) (T := et_TT) (t := 37) (kd := 5) (N := 4) (p := 24) (by decide +kernel) (fun _ _ _ _ _ _ _ _ _ _ => rfl) rfl rfl rfl hH k_ra (by decide) hR ?_
    refine hs_ifnonnull1 (p := 35) (by decide +kernel) ?_
    refine hs_aload (i := 0) (p := 36) (by decide +kernel) rfl ?_
    refine hf_get (T := et_TT) (t := 12) (ci := 10) (f := 0) (p := 39) (by decide +kernel) rfl hH k_th h0 ?_
    refine hf_get (T := et_TT) (t := 10) (ci := 8) (f := 1) (p := 42) (by decide +kernel) rfl hH k_s0 r1 ?_
    refine hs_iload (i := 1) (p := 43) (by decide +kernel) rfl ?_
    refine hf_ald (ins := .aaload) (T := et_TT) (t := 37) (kd := 5) (N := 4) (p := 44) (by decide +kernel) (fun _ _ _ _ _ _ _ _ _ _ => rfl) rfl rfl rfl hH k_ra (by decide) hR ?_
    refine hs_aret (cn := "KnobEye$Rule") (by decide +kernel) ?_
    rfl
theorem fd_needQn (hH : et_H et_TT K G) (k_th : K th = some 12) (h0 : et_pl (eg_at G th) 0 = some (.ref s0)) (k_s0 : K s0 = some 10) (r0 : et_pl (eg_at G s0) 0 = some (.int (Int32.ofNat rc))) (hrc : rc ≤ 4) (r1 : et_pl (eg_at G s0) 1 = some (.ref ra)) (k_ra : K ra = some 37) (hR : ∀ n, n < rc → ∃ q, et_pl (eg_at G ra) n = some (.ref q)) (hx : ¬ xr x rc) : et_go none d2 129 0 (eg_en (eg_mL 129) [.ref th, .int x]) [] G 0 0 (ix_Z 1 G) := by
  rw [show eg_mL 129 = 2 from by decide +kernel]
  show et_go none d2 129 0 [some (.ref th), some (.int x)] [] G 0 0 _
  have lt_th := (hH.2.2 _ _ k_th).1
  have lt_s0 := (hH.2.2 _ _ k_s0).1
  have lt_ra := (hH.2.2 _ _ k_ra).1
  refine hs_iload (i := 1) (p := 1) (by decide +kernel) rfl ?_
  refine hs_br1 (c := .lt) (t := 27) (f := 4) (by decide +kernel) (fun (c1 : x < 0) => ?_) (fun (c1 : ¬ (x < 0)) => ?_)
  · refine hs_thr (x := 1) (lk := 2) (by decide +kernel) rfl rfl ?_
    exact ⟨_, _, rfl⟩
  · refine hs_iload (i := 1) (p := 5) (by decide +kernel) rfl ?_
    refine hs_aload (i := 0) (p := 6) (by decide +kernel) rfl ?_
    refine hf_get (T := et_TT) (t := 12) (ci := 10) (f := 0) (p := 9) (by decide +kernel) rfl hH k_th h0 ?_
    refine hf_get (T := et_TT) (t := 10) (ci := 8) (f := 0) (p := 12) (by decide +kernel) rfl hH k_s0 r0 ?_
    refine hs_br2 (c := .ge) (t := 27) (f := 15) (by decide +kernel) (fun (c12 : Int32.ofNat rc ≤ x) => ?_) (fun (c12 : ¬ (Int32.ofNat rc ≤ x)) => ?_)
    · refine hs_thr (x := 1) (lk := 2) (by decide +kernel) rfl rfl ?_
      exact ⟨_, _, rfl⟩
    · exact absurd (by unfold xr; rw [xi_lt0] at c1; rw [xi_nle (k := rc) (by omega)] at c12; omega) hx
theorem fx_tellB (hH : et_H et_TT K G) (k_q : K q = some 8) (q0 : et_pl (eg_at G q) 0 = some (.ref bb)) (k_bb : K bb = some 6) (hdn : dn G 15 lo hi bb f) (hTb : tbP G q f) (hcl : fcl f) (k_fo : K fo = some 4) (hm : m < 65536) (hd : 19 ≤ d2) : et_go none d2 87 0 (eg_en (eg_mL 87) [.ref q, .int (Int32.ofNat m), .ref fo]) [] G 0 0 (xw_Z (fun b j => (b = fo ∧ j = 0)) K G (fun _ r => (f (feE (fun _ => Int32.ofNat m)) = true ∧ r = some (.int (Int32.ofNat 1))) ∨ (f (feE (fun _ => Int32.ofNat m)) = false ∧ r = some (.int (Int32.ofNat 0))))) := by
  obtain ⟨F, hF⟩ := foR_of hH k_fo
  refine (fx_tells hH k_q q0 k_bb hdn hTb hF hm hd).mono (fun u hu => ?_)
  obtain ⟨G1, v, e1, e2, e3, e4⟩ := hu
  refine ⟨G1, v, e1, e2, e3, ?_⟩
  have e5 : f (feE (fup F (Int32.ofNat m))) = f (feE (fun _ => Int32.ofNat m)) := hcl _ _ rfl
  rw [e5] at e4
  cases h : f (feE (fun _ => Int32.ofNat m)) with
  | true => exact .inl ⟨rfl, by rw [e4, if_pos h]⟩
  | false => exact .inr ⟨rfl, by rw [e4, if_neg (fun h2 => by rw [h] at h2; cases h2)]⟩
theorem fc_mdL {x2 : Option Value} (hH : et_H et_TT K G) (k_th : K th = some 12) (k_q : K q = some 8) (q0 : et_pl (eg_at G q) 0 = some (.ref bb)) (k_bb : K bb = some 6) (hdn : dn G 15 lo hi bb f) (hTb : tbP G q f) (hcl : fcl f) (h4 : et_pl (eg_at G th) 4 = some (.ref fo)) (k_fo : K fo = some 4) (hno : mnF f k m = false) (hm : m ≤ 65536) : et_go none (d + 20) 164 40 [some (.ref th), some (.int (Int32.ofNat k)), x2, some (.ref q), some (.int E9), some (.int (Int32.ofNat m))] [] G 0 0 (fun u => u.1 = .inl (some (.int (if mnF f k 65536 = true then E9 else -1)))) := by
  induction hq9 : 65536 - m using Nat.strongRecOn generalizing m G with
  | _ q9 ih =>
    have lt_th := (hH.2.2 _ _ k_th).1
    have lt_q := (hH.2.2 _ _ k_q).1
    have lt_fo := (hH.2.2 _ _ k_fo).1
    have lt_bb := (hH.2.2 _ _ k_bb).1
    refine hs_iload (i := 5) (p := 42) (by decide +kernel) rfl ?_
    refine hs_kld (v := Value.int (Int32.ofNat 65536)) (p := 45) (by decide +kernel) ?_
    refine hs_br2n (c := .ge) (t := 76) (f := 48) (by decide +kernel) (by omega) (by omega) (fun (c45 : 65536 ≤ m) => ?_) (fun (c45 : ¬ (65536 ≤ m)) => ?_)
    · refine hs_k (x := (-1)) (p := 77) (by decide +kernel) ?_
      refine hs_iret (by decide +kernel) ?_
      obtain rfl : m = 65536 := by omega
      rw [if_neg (by rw [hno]; decide)]
    · refine hs_iload (i := 5) (p := 50) (by decide +kernel) rfl ?_
      refine hs_iload (i := 1) (p := 51) (by decide +kernel) rfl ?_
      refine hs_calls (mi := 122) (na := 2) (lk := 6) (lm := 2) (L0 := eg_en (eg_mL 122) [.int (Int32.ofNat m), .int (Int32.ofNat k)]) (by decide +kernel) rfl rfl rfl rfl rfl rfl (by rw [show eg_mL 122 = 2 from by decide +kernel]; first | done | rfl) ?_
      refine (fx_lit (x := Int32.ofNat m) (v := k)).mono (fun u hu => xp_cb hu ?_)
      by_cases ql : liI (Int32.ofNat m) k = true
      · rw [if_pos ql]
        show et_go none _ 164 54 _ [.int (Int32.ofNat 1)] _ _ _ _
        refine hs_aload (i := 3) (p := 55) (by decide +kernel) rfl ?_
        refine hs_iload (i := 5) (p := 57) (by decide +kernel) rfl ?_
        refine hs_aload (i := 0) (p := 58) (by decide +kernel) rfl ?_
        refine hf_get (T := et_TT) (t := 12) (ci := 10) (f := 4) (p := 61) (by decide +kernel) rfl hH k_th h4 ?_
        have hHo := hH
        refine ht_callv (T := et_TT) (t := 8) (mi := 87) (na := 2) (ci := 6) (lk := 6) (lm := 3) (L0 := eg_en (eg_mL 87) [.ref q, .int (Int32.ofNat m), .ref fo]) (by decide +kernel) rfl hH k_q rfl rfl rfl rfl rfl (by rw [show eg_mL 87 = 3 from by decide +kernel]; first | done | rfl) ?_
        refine (fx_tellB hH k_q q0 k_bb hdn hTb hcl k_fo (by omega) (by omega)).mono (fun u hu => xw_cb hu (fun G61 v61 hH x61 hP61 => ?_))
        have hdn := hdn.k6 hHo (n6.xs hHo x61 (fun b j h => by rw [h.1, k_fo]; decide)) k_bb
        have hTb := hTb.xs hHo k_q x61 (fun hs => hi_ne k_q k_fo (by decide) hs.1) (fun b j hs => by rw [hs.1, k_fo]; decide)
        have q0 := (x61.2 q 0 lt_q (fun h => (hi_ne k_q k_fo (by decide)) h.1)).trans q0
        have h4 := (x61.2 th 4 lt_th (fun h => (hi_ne k_th k_fo (by decide)) h.1)).trans h4
        have lt_th := Nat.lt_of_lt_of_le lt_th x61.1
        have lt_q := Nat.lt_of_lt_of_le lt_q x61.1
        have lt_fo := Nat.lt_of_lt_of_le lt_fo x61.1
        have lt_bb := Nat.lt_of_lt_of_le lt_bb x61.1
        rcases hP61 with ⟨qs, rfl⟩ | ⟨qs, rfl⟩
        · show et_go none _ 164 64 _ [.int (Int32.ofNat 1), .int (Int32.ofNat 1)] _ _ _ _
          refine hs_br2n (c := .eq) (t := 70) (f := 67) (by decide +kernel) (by omega) (by omega) (fun _ => ?_) (fun h => absurd (show 1 = 1 by decide) h)
          refine hs_iinc1 (i := 5) (p := 73) (by decide +kernel) rfl (Nat.le_of_ble_eq_true rfl) ?_
          refine hs_goto (p := 40) (by decide +kernel) ?_
          have e9 := mnF_n hno (md_eq ql qs (show (true : Bool) = true from rfl))
          exact ih (65536 - (m + 1)) (by omega) hH q0 hdn hTb h4 e9 (by omega) rfl
        · show et_go none _ 164 64 _ [.int (Int32.ofNat 0), .int (Int32.ofNat 1)] _ _ _ _
          refine hs_br2n (c := .eq) (t := 70) (f := 67) (by decide +kernel) (by omega) (by omega) (fun h => absurd h (show ¬ (1 = 0) by decide)) (fun _ => ?_)
          refine hs_iload (i := 4) (p := 69) (by decide +kernel) rfl ?_
          refine hs_iret (by decide +kernel) ?_
          have e9 := mnF_e (mnF_y (md_ne ql qs (show ¬ (true : Bool) = false by decide))) (by omega)
          rw [if_pos e9]
      · rw [if_neg ql]
        show et_go none _ 164 54 _ [.int (Int32.ofNat 0)] _ _ _ _
        refine hs_aload (i := 3) (p := 55) (by decide +kernel) rfl ?_
        refine hs_iload (i := 5) (p := 57) (by decide +kernel) rfl ?_
        refine hs_aload (i := 0) (p := 58) (by decide +kernel) rfl ?_
        refine hf_get (T := et_TT) (t := 12) (ci := 10) (f := 4) (p := 61) (by decide +kernel) rfl hH k_th h4 ?_
        have hHo := hH
        refine ht_callv (T := et_TT) (t := 8) (mi := 87) (na := 2) (ci := 6) (lk := 6) (lm := 3) (L0 := eg_en (eg_mL 87) [.ref q, .int (Int32.ofNat m), .ref fo]) (by decide +kernel) rfl hH k_q rfl rfl rfl rfl rfl (by rw [show eg_mL 87 = 3 from by decide +kernel]; first | done | rfl) ?_
        refine (fx_tellB hH k_q q0 k_bb hdn hTb hcl k_fo (by omega) (by omega)).mono (fun u hu => xw_cb hu (fun G61 v61 hH x61 hP61 => ?_))
        have hdn := hdn.k6 hHo (n6.xs hHo x61 (fun b j h => by rw [h.1, k_fo]; decide)) k_bb
        have hTb := hTb.xs hHo k_q x61 (fun hs => hi_ne k_q k_fo (by decide) hs.1) (fun b j hs => by rw [hs.1, k_fo]; decide)
        have q0 := (x61.2 q 0 lt_q (fun h => (hi_ne k_q k_fo (by decide)) h.1)).trans q0
        have h4 := (x61.2 th 4 lt_th (fun h => (hi_ne k_th k_fo (by decide)) h.1)).trans h4
        have lt_th := Nat.lt_of_lt_of_le lt_th x61.1
        have lt_q := Nat.lt_of_lt_of_le lt_q x61.1
        have lt_fo := Nat.lt_of_lt_of_le lt_fo x61.1
        have lt_bb := Nat.lt_of_lt_of_le lt_bb x61.1
        rcases hP61 with ⟨qs, rfl⟩ | ⟨qs, rfl⟩
        · show et_go none _ 164 64 _ [.int (Int32.ofNat 1), .int (Int32.ofNat 0)] _ _ _ _
          refine hs_br2n (c := .eq) (t := 70) (f := 67) (by decide +kernel) (by omega) (by omega) (fun h => absurd h (show ¬ (0 = 1) by decide)) (fun _ => ?_)
          refine hs_iload (i := 4) (p := 69) (by decide +kernel) rfl ?_
          refine hs_iret (by decide +kernel) ?_
          have e9 := mnF_e (mnF_y (md_ne (Bool.eq_false_iff.mpr ql) qs (show ¬ (false : Bool) = true by decide))) (by omega)
          rw [if_pos e9]
        · show et_go none _ 164 64 _ [.int (Int32.ofNat 0), .int (Int32.ofNat 0)] _ _ _ _
          refine hs_br2n (c := .eq) (t := 70) (f := 67) (by decide +kernel) (by omega) (by omega) (fun _ => ?_) (fun h => absurd (show 0 = 0 by decide) h)
          refine hs_iinc1 (i := 5) (p := 73) (by decide +kernel) rfl (Nat.le_of_ble_eq_true rfl) ?_
          refine hs_goto (p := 40) (by decide +kernel) ?_
          have e9 := mnF_n hno (md_eq (Bool.eq_false_iff.mpr ql) qs (show (false : Bool) = false from rfl))
          exact ih (65536 - (m + 1)) (by omega) hH q0 hdn hTb h4 e9 (by omega) rfl
theorem fc_md (hH : et_H et_TT K G) (k_th : K th = some 12) (h0 : et_pl (eg_at G th) 0 = some (.ref s0)) (k_s0 : K s0 = some 10) (r0 : et_pl (eg_at G s0) 0 = some (.int (Int32.ofNat rc))) (hrc : rc ≤ 4) (r1 : et_pl (eg_at G s0) 1 = some (.ref ra)) (k_ra : K ra = some 37) (hn : n < rc) (hR : et_pl (eg_at G ra) n = some (.ref q)) (k_q : K q = some 8) (q0 : et_pl (eg_at G q) 0 = some (.ref bb)) (k_bb : K bb = some 6) (hdn : dn G 15 lo hi bb f) (hTb : tbP G q f) (hcl : fcl f) (h4 : et_pl (eg_at G th) 4 = some (.ref fo)) (k_fo : K fo = some 4) (g2 : et_pl (eg_at G s0) 2 = some (.int (Int32.ofNat nc))) (hnc : nc ≤ 20) (hcc : ccP G s0 la ly nc X Y) (k_la : K la = some 17) (k_ly : K ly = some 27) (hk : k < 16) (hd : 20 ≤ d2) : et_go none d2 164 0 (eg_en (eg_mL 164) [.ref th, .int (Int32.ofNat k), .int (Int32.ofNat n)]) [] G 0 0 (fun u => u.1 = .inl (some (.int (mdV X Y k nc f)))) := by
  obtain ⟨d, rfl⟩ : ∃ d, d2 = d + 20 := ⟨d2 - 20, by omega⟩
  have hal := alN_le (X := X) (Y := Y) (v := k) nc
  rw [show eg_mL 164 = 6 from by decide +kernel]
  show et_go none (d + 20) 164 0 [some (.ref th), some (.int (Int32.ofNat k)), some (.int (Int32.ofNat n)), none, none, none] [] G 0 0 _
  have lt_th := (hH.2.2 _ _ k_th).1
  have lt_s0 := (hH.2.2 _ _ k_s0).1
  have lt_ra := (hH.2.2 _ _ k_ra).1
  have lt_q := (hH.2.2 _ _ k_q).1
  have lt_fo := (hH.2.2 _ _ k_fo).1
  have lt_bb := (hH.2.2 _ _ k_bb).1
  have lt_la := (hH.2.2 _ _ k_la).1
  have lt_ly := (hH.2.2 _ _ k_ly).1
  refine hs_iload (i := 1) (p := 1) (by decide +kernel) rfl ?_
  refine hs_calls (mi := 161) (na := 1) (lk := 6) (lm := 1) (L0 := eg_en (eg_mL 161) [.int (Int32.ofNat k)]) (by decide +kernel) rfl rfl rfl rfl rfl rfl (by rw [show eg_mL 161 = 1 from by decide +kernel]; first | done | rfl) ?_
  refine (fd_needC hk).mono (fun u hu => xp_cb hu ?_)
  show et_go none _ 164 4 _ [] _ _ _ _
  refine hs_aload (i := 0) (p := 5) (by decide +kernel) rfl ?_
  refine hs_iload (i := 2) (p := 6) (by decide +kernel) rfl ?_
  refine ht_callv (T := et_TT) (t := 12) (mi := 129) (na := 1) (ci := 10) (lk := 6) (lm := 2) (L0 := eg_en (eg_mL 129) [.ref th, .int (Int32.ofNat n)]) (by decide +kernel) rfl hH k_th rfl rfl rfl rfl rfl (by rw [show eg_mL 129 = 2 from by decide +kernel]; first | done | rfl) ?_
  refine (fd_needQ hH k_th h0 k_s0 r0 hrc r1 k_ra hn hR).mono (fun u hu => xp_cb hu ?_)
  show et_go none _ 164 9 _ [.ref q] _ _ _ _
  refine hs_astore (i := 3) (p := 10) (by decide +kernel) (Nat.le_of_ble_eq_true rfl) ?_
  refine hs_k (x := Int32.ofNat 2) (p := 11) (by decide +kernel) ?_
  refine hs_aload (i := 0) (p := 12) (by decide +kernel) rfl ?_
  refine hf_get (T := et_TT) (t := 12) (ci := 10) (f := 0) (p := 15) (by decide +kernel) rfl hH k_th h0 ?_
  refine hs_iload (i := 1) (p := 16) (by decide +kernel) rfl ?_
  refine ht_callv (T := et_TT) (t := 10) (mi := 102) (na := 1) (ci := 8) (lk := 6) (lm := 4) (L0 := eg_en (eg_mL 102) [.ref s0, .int (Int32.ofNat k)]) (by decide +kernel) rfl hH k_s0 rfl rfl rfl rfl rfl (by rw [show eg_mL 102 = 4 from by decide +kernel]; first | done | rfl) ?_
  refine (fc_ga hH k_s0 k_la k_ly g2 hcc.1.1 hcc.1.2 hnc hcc.2 (by omega)).mono (fun u hu => xp_cb hu ?_)
  show et_go none _ 164 19 _ [.int (Int32.ofNat (alN X Y k nc)), .int (Int32.ofNat 2)] _ _ _ _
  refine hs_imuln (p := 20) (by decide +kernel) ?_
  refine hs_aload (i := 0) (p := 21) (by decide +kernel) rfl ?_
  refine hf_get (T := et_TT) (t := 12) (ci := 10) (f := 0) (p := 24) (by decide +kernel) rfl hH k_th h0 ?_
  refine hf_get (T := et_TT) (t := 10) (ci := 8) (f := 2) (p := 27) (by decide +kernel) rfl hH k_s0 g2 ?_
  refine hs_isub (p := 28) (by decide +kernel) ?_
  refine hs_istore (i := 4) (p := 30) (by decide +kernel) (Nat.le_of_ble_eq_true rfl) ?_
  refine hs_iload (i := 4) (p := 32) (by decide +kernel) rfl ?_
  refine hs_br1 (c := .gt) (t := 37) (f := 35) (by decide +kernel) (fun (c32 : 0 < (Int32.ofNat (2 * (alN X Y k nc)) - Int32.ofNat nc)) => ?_) (fun (c32 : ¬ (0 < (Int32.ofNat (2 * (alN X Y k nc)) - Int32.ofNat nc))) => ?_)
  · refine hs_k (x := Int32.ofNat 0) (p := 38) (by decide +kernel) ?_
    refine hs_istore (i := 5) (p := 40) (by decide +kernel) (Nat.le_of_ble_eq_true rfl) ?_
    rw [show (mdV X Y k nc f) = (if mnF f k 65536 = true then (Int32.ofNat (2 * (alN X Y k nc)) - Int32.ofNat nc) else -1) from if_pos c32]
    exact fc_mdL (m := 0) hH k_th k_q q0 k_bb hdn hTb hcl h4 k_fo rfl (Nat.zero_le _)
  · refine hs_k (x := Int32.ofNat 0) (p := 36) (by decide +kernel) ?_
    refine hs_iret (by decide +kernel) ?_
    rw [show (mdV X Y k nc f) = Int32.ofNat 0 from if_neg c32]
theorem fc_mdR (hH : et_H et_TT K G) (k_th : K th = some 12) (h0 : et_pl (eg_at G th) 0 = some (.ref s0)) (k_s0 : K s0 = some 10) (r0 : et_pl (eg_at G s0) 0 = some (.int (Int32.ofNat rc))) (hrc : rc ≤ 4) (r1 : et_pl (eg_at G s0) 1 = some (.ref ra)) (k_ra : K ra = some 37) (hRn : ∀ n, n < rc → ∃ q, et_pl (eg_at G ra) n = some (.ref q)) (hk : k < 16) (hx : ¬ xr x rc) (hd : 1 ≤ d2) : et_go none d2 164 0 (eg_en (eg_mL 164) [.ref th, .int (Int32.ofNat k), .int x]) [] G 0 0 (ix_Z 1 G) := by
  obtain ⟨d, rfl⟩ : ∃ d, d2 = d + 1 := ⟨d2 - 1, by omega⟩
  rw [show eg_mL 164 = 6 from by decide +kernel]
  show et_go none (d + 1) 164 0 [some (.ref th), some (.int (Int32.ofNat k)), some (.int x), none, none, none] [] G 0 0 _
  have lt_th := (hH.2.2 _ _ k_th).1
  have lt_s0 := (hH.2.2 _ _ k_s0).1
  have lt_ra := (hH.2.2 _ _ k_ra).1
  refine hs_iload (i := 1) (p := 1) (by decide +kernel) rfl ?_
  refine hs_calls (mi := 161) (na := 1) (lk := 6) (lm := 1) (L0 := eg_en (eg_mL 161) [.int (Int32.ofNat k)]) (by decide +kernel) rfl rfl rfl rfl rfl rfl (by rw [show eg_mL 161 = 1 from by decide +kernel]; first | done | rfl) ?_
  refine (fd_needC hk).mono (fun u hu => xp_cb hu ?_)
  show et_go none _ 164 4 _ [] _ _ _ _
  refine hs_aload (i := 0) (p := 5) (by decide +kernel) rfl ?_
  refine hs_iload (i := 2) (p := 6) (by decide +kernel) rfl ?_
  refine ht_callv (T := et_TT) (t := 12) (mi := 129) (na := 1) (ci := 10) (lk := 6) (lm := 2) (L0 := eg_en (eg_mL 129) [.ref th, .int x]) (by decide +kernel) rfl hH k_th rfl rfl rfl rfl rfl (by rw [show eg_mL 129 = 2 from by decide +kernel]; first | done | rfl) ?_
  refine (fd_needQn hH k_th h0 k_s0 r0 hrc r1 k_ra hRn hx).mono (fun u hu => ?_)
  obtain ⟨c6, s6, rfl⟩ := hu
  refine hf_cx (by decide +kernel) ?_
  exact ⟨_, _, rfl⟩
theorem fc_mdC (hH : et_H et_TT K G) (k_th : K th = some 12) (hy : ¬ (0 ≤ y.toInt ∧ y.toInt < 16)) (hd : 1 ≤ d2) : et_go none d2 164 0 (eg_en (eg_mL 164) [.ref th, .int y, .int x]) [] G 0 0 (ix_Z 1 G) := by
  obtain ⟨d, rfl⟩ : ∃ d, d2 = d + 1 := ⟨d2 - 1, by omega⟩
  rw [show eg_mL 164 = 6 from by decide +kernel]
  show et_go none (d + 1) 164 0 [some (.ref th), some (.int y), some (.int x), none, none, none] [] G 0 0 _
  have lt_th := (hH.2.2 _ _ k_th).1
  refine hs_iload (i := 1) (p := 1) (by decide +kernel) rfl ?_
  refine hs_calls (mi := 161) (na := 1) (lk := 6) (lm := 1) (L0 := eg_en (eg_mL 161) [.int y]) (by decide +kernel) rfl rfl rfl rfl rfl rfl (by rw [show eg_mL 161 = 1 from by decide +kernel]; first | done | rfl) ?_
  refine (fd_needCn hy).mono (fun u hu => ?_)
  obtain ⟨c1, s1, rfl⟩ := hu
  refine hf_cx (by decide +kernel) ?_
  exact ⟨_, _, rfl⟩
theorem fh_mdR (hH : et_H et_TT K G) (k_th : K th = some 12) (h0 : et_pl (eg_at G th) 0 = some (.ref s0)) (k_s0 : K s0 = some 10) (r0 : et_pl (eg_at G s0) 0 = some (.int (Int32.ofNat rc))) (hrc : rc ≤ 4) (r1 : et_pl (eg_at G s0) 1 = some (.ref ra)) (k_ra : K ra = some 37) (hRn : ∀ n, n < rc → ∃ q, et_pl (eg_at G ra) n = some (.ref q)) (hk : k < 16) (hx : ¬ xr x rc) (hd : 2 ≤ d2) : et_go none d2 23 0 (eg_en (eg_mL 23) [.ref th, .int (Int32.ofNat k), .int x, .ref out]) [] G 0 0 (fun u => u.1 = .inl (some (.int (Int32.ofNat 1))) ∧ u.2.1 = G) := by
  obtain ⟨d, rfl⟩ : ∃ d, d2 = d + 2 := ⟨d2 - 2, by omega⟩
  rw [show eg_mL 23 = 5 from by decide +kernel]
  show et_go none (d + 2) 23 0 [some (.ref th), some (.int (Int32.ofNat k)), some (.int x), some (.ref out), none] [] G 0 0 _
  have lt_th := (hH.2.2 _ _ k_th).1
  refine hs_aload (i := 3) (p := 1) (by decide +kernel) rfl ?_
  refine hs_k (x := Int32.ofNat 0) (p := 2) (by decide +kernel) ?_
  refine hs_aload (i := 0) (p := 3) (by decide +kernel) rfl ?_
  refine hs_iload (i := 1) (p := 4) (by decide +kernel) rfl ?_
  refine hs_iload (i := 2) (p := 5) (by decide +kernel) rfl ?_
  refine ht_callv (T := et_TT) (t := 12) (mi := 164) (na := 2) (ci := 10) (lk := 5) (lm := 6) (L0 := eg_en (eg_mL 164) [.ref th, .int (Int32.ofNat k), .int x]) (by decide +kernel) rfl hH k_th rfl rfl rfl rfl rfl (by rw [show eg_mL 164 = 6 from by decide +kernel]; first | done | rfl) ?_
  refine (fc_mdR hH k_th h0 k_s0 r0 hrc r1 k_ra hRn hk hx (by omega)).mono (fun u hu => ?_)
  obtain ⟨c5, s5, rfl⟩ := hu
  refine hs_ch (h := 13) (i := 4) (n := 2) (hh := (eg_mh 23).getD []) (by decide +kernel) ⟨by decide +kernel, by decide +kernel⟩ (Nat.le_of_ble_eq_true rfl) ?_
  show et_go none _ 23 15 [some (.ref th), some (.int (Int32.ofNat k)), some (.int x), some (.ref out), none] [] _ _ _ _
  refine hs_k (x := Int32.ofNat 1) (p := 16) (by decide +kernel) ?_
  refine hs_iret (by decide +kernel) ?_
  exact ⟨rfl, rfl⟩
theorem fh_mdC (hH : et_H et_TT K G) (k_th : K th = some 12) (hy : ¬ (0 ≤ y.toInt ∧ y.toInt < 16)) (hd : 2 ≤ d2) : et_go none d2 23 0 (eg_en (eg_mL 23) [.ref th, .int y, .int x, .ref out]) [] G 0 0 (fun u => u.1 = .inl (some (.int (Int32.ofNat 1))) ∧ u.2.1 = G) := by
  obtain ⟨d, rfl⟩ : ∃ d, d2 = d + 2 := ⟨d2 - 2, by omega⟩
  rw [show eg_mL 23 = 5 from by decide +kernel]
  show et_go none (d + 2) 23 0 [some (.ref th), some (.int y), some (.int x), some (.ref out), none] [] G 0 0 _
  have lt_th := (hH.2.2 _ _ k_th).1
  refine hs_aload (i := 3) (p := 1) (by decide +kernel) rfl ?_
  refine hs_k (x := Int32.ofNat 0) (p := 2) (by decide +kernel) ?_
  refine hs_aload (i := 0) (p := 3) (by decide +kernel) rfl ?_
  refine hs_iload (i := 1) (p := 4) (by decide +kernel) rfl ?_
  refine hs_iload (i := 2) (p := 5) (by decide +kernel) rfl ?_
  refine ht_callv (T := et_TT) (t := 12) (mi := 164) (na := 2) (ci := 10) (lk := 5) (lm := 6) (L0 := eg_en (eg_mL 164) [.ref th, .int y, .int x]) (by decide +kernel) rfl hH k_th rfl rfl rfl rfl rfl (by rw [show eg_mL 164 = 6 from by decide +kernel]; first | done | rfl) ?_
  refine (fc_mdC hH k_th hy (by omega)).mono (fun u hu => ?_)
  obtain ⟨c5, s5, rfl⟩ := hu
  refine hs_ch (h := 13) (i := 4) (n := 2) (hh := (eg_mh 23).getD []) (by decide +kernel) ⟨by decide +kernel, by decide +kernel⟩ (Nat.le_of_ble_eq_true rfl) ?_
  show et_go none _ 23 15 [some (.ref th), some (.int y), some (.int x), some (.ref out), none] [] _ _ _ _
  refine hs_k (x := Int32.ofNat 1) (p := 16) (by decide +kernel) ?_
  refine hs_iret (by decide +kernel) ?_
  exact ⟨rfl, rfl⟩
theorem fh_md (hH : et_H et_TT K G) (k_th : K th = some 12) (h0 : et_pl (eg_at G th) 0 = some (.ref s0)) (k_s0 : K s0 = some 10) (r0 : et_pl (eg_at G s0) 0 = some (.int (Int32.ofNat rc))) (hrc : rc ≤ 4) (r1 : et_pl (eg_at G s0) 1 = some (.ref ra)) (k_ra : K ra = some 37) (hn : n < rc) (hR : et_pl (eg_at G ra) n = some (.ref q)) (k_q : K q = some 8) (q0 : et_pl (eg_at G q) 0 = some (.ref bb)) (k_bb : K bb = some 6) (hdn : dn G 15 lo hi bb f) (hTb : tbP G q f) (hcl : fcl f) (h4 : et_pl (eg_at G th) 4 = some (.ref fo)) (k_fo : K fo = some 4) (g2 : et_pl (eg_at G s0) 2 = some (.int (Int32.ofNat nc))) (hnc : nc ≤ 20) (hcc : ccP G s0 la ly nc X Y) (k_la : K la = some 17) (k_ly : K ly = some 27) (k_out : K out = some 31) (hk : k < 16) (hd : 34 ≤ d2) : et_go none d2 23 0 (eg_en (eg_mL 23) [.ref th, .int (Int32.ofNat k), .int (Int32.ofNat n), .ref out]) [] G 0 0 (fun u => u.1 = .inl (some (.int (Int32.ofNat 0))) ∧ et_pl (eg_at u.2.1 out) 0 = some (.long (mdV X Y k nc f).toInt64)) := by
  obtain ⟨d, rfl⟩ : ∃ d, d2 = d + 34 := ⟨d2 - 34, by omega⟩
  rw [show eg_mL 23 = 5 from by decide +kernel]
  show et_go none (d + 34) 23 0 [some (.ref th), some (.int (Int32.ofNat k)), some (.int (Int32.ofNat n)), some (.ref out), none] [] G 0 0 _
  refine hs_aload (i := 3) (p := 1) (by decide +kernel) rfl ?_
  refine hs_k (x := Int32.ofNat 0) (p := 2) (by decide +kernel) ?_
  refine hs_aload (i := 0) (p := 3) (by decide +kernel) rfl ?_
  refine hs_iload (i := 1) (p := 4) (by decide +kernel) rfl ?_
  refine hs_iload (i := 2) (p := 5) (by decide +kernel) rfl ?_
  refine ht_callv (T := et_TT) (t := 12) (mi := 164) (na := 2) (ci := 10) (lk := 5) (lm := 6) (L0 := eg_en (eg_mL 164) [.ref th, .int (Int32.ofNat k), .int (Int32.ofNat n)]) (by decide +kernel) rfl hH k_th rfl rfl rfl rfl rfl (by rw [show eg_mL 164 = 6 from by decide +kernel]; first | done | rfl) ?_
  refine ((ek_p164_ok (K, [], G) [.ref th, .int (Int32.ofNat k), .int (Int32.ofNat n)] _ hH (by show 33 ≤ _; omega) rfl (ht_ac (.inr ⟨by decide, _, rfl, k_th⟩) (ht_ac hi_any (ht_ac hi_any ht_an)))).and (fc_md hH k_th h0 k_s0 r0 hrc r1 k_ra hn hR k_q q0 k_bb hdn hTb hcl h4 k_fo g2 hnc hcc k_la k_ly hk (by omega))).mono (fun u hu => ?_)
  obtain ⟨⟨es, hes, K1, hx1, hf1, hH1, hv1, -, -⟩, hz⟩ := hu
  obtain ⟨u1, u2, u3, u4⟩ := u
  have hz : u1 = .inl (some (.int (mdV X Y k nc f))) := hz
  subst hz
  rcases List.mem_cons.mp hes with rfl | hes
  · have hH := hH1
    have k_out := hx1 _ _ k_out
    refine hs_cb ?_
    show et_go none _ 23 8 _ [.int (mdV X Y k nc f), .int (Int32.ofNat 0), .ref out] _ _ _ _
    refine hs_i2l (p := 9) (by decide +kernel) ?_
    refine hf_lst (T := et_TT) (t := 31) (N := 1) (p := 10) (by decide +kernel) rfl rfl hH k_out (by omega) (by decide) (fun G9 hH x9 e9 => ?_)
    refine hs_goto (p := 17) (by decide +kernel) ?_
    refine hs_k (x := Int32.ofNat 0) (p := 18) (by decide +kernel) ?_
    refine hs_iret (by decide +kernel) ?_
    exact ⟨rfl, e9⟩
  · obtain rfl := List.mem_singleton.mp hes
    have hv1 : (Sum.inl (some (Value.int (mdV X Y k nc f))) : eg_R) = .inr 1 := hv1
    cases hv1
end YKA
section YKB
variable {K : et_K} {G : eg_G} {d d2 am aw ik kw r rc m k nc : Nat} {X : Nat → Int32} {Y : Nat → Nat} {x y E9 : Int32} {f : sp_E → Bool} {g : Nat → sp_E → Bool} {b9 : Nat → Int64}
theorem fn_mdL (hH : et_H et_TT K G) (k_am : K am = some 13) (k_kw : K kw = some 30) (m0 : et_pl (eg_at G am) 0 = some (.int (Int32.ofNat 0))) (m19 : et_pl (eg_at G am) 19 = some (.ref kw)) (hr : r < 4) (hb : ∀ i, i < 1024 → et_pl (eg_at G kw) (1024 * r + i) = some (.long (b9 i))) (hbi : ∀ (m : Nat) (F : Nat → Int32), m < 65536 → F 0 = Int32.ofNat m → btL (b9 (m / 64)) m = f (feE F)) (hno : mnF f k m = false) (hm : m ≤ 65536) : et_go none (d + 1) 279 65 [some (.ref am), some (.int (Int32.ofNat k)), some (.int (Int32.ofNat r)), some (.int E9), some (.int (Int32.ofNat 0)), some (.int (Int32.ofNat m))] [] G 0 0 (fun u => u.1 = .inl (some (.int (if mnF f k 65536 = true then E9 else -1))) ∧ u.2.1 = G) := by
  induction hq9 : 65536 - m using Nat.strongRecOn generalizing m with
  | _ q9 ih =>
    have lt_am := (hH.2.2 _ _ k_am).1
    have lt_kw := (hH.2.2 _ _ k_kw).1
    refine hs_iload (i := 5) (p := 67) (by decide +kernel) rfl ?_
    refine hs_kld (v := Value.int (Int32.ofNat 65536)) (p := 69) (by decide +kernel) ?_
    refine hs_br2n (c := .ge) (t := 115) (f := 72) (by decide +kernel) (by omega) (by omega) (fun (c69 : 65536 ≤ m) => ?_) (fun (c69 : ¬ (65536 ≤ m)) => ?_)
    · refine hs_iload (i := 4) (p := 117) (by decide +kernel) rfl ?_
      refine hs_if1 (c := .eq) (t := 124) (f := 120) (by decide +kernel) (show Int32.ofNat 0 = 0 by decide) ?_
      refine hs_k (x := (-1)) (p := 125) (by decide +kernel) ?_
      refine hs_iret (by decide +kernel) ?_
      obtain rfl : m = 65536 := by omega
      exact ⟨by rw [if_neg (by rw [hno]; decide)], rfl⟩
    · refine hs_iload (i := 4) (p := 74) (by decide +kernel) rfl ?_
      refine hs_if0 (c := .ne) (t := 115) (f := 77) (by decide +kernel) (show ¬ (¬ Int32.ofNat 0 = 0) by decide) ?_
      refine hs_iload (i := 5) (p := 79) (by decide +kernel) rfl ?_
      refine hs_iload (i := 1) (p := 80) (by decide +kernel) rfl ?_
      refine hs_st (ins := .ishr) (len := 1) (p := 81) (by decide +kernel) rfl rfl ?_
      refine hs_k (x := Int32.ofNat 1) (p := 82) (by decide +kernel) ?_
      refine hs_st (ins := .iand) (len := 1) (p := 83) (by decide +kernel) rfl rfl ?_
      refine hs_k (x := Int32.ofNat 1) (p := 84) (by decide +kernel) ?_
      refine hs_br2 (c := .ne) (t := 91) (f := 87) (by decide +kernel) (fun (c84 : ¬ (((Int32.ofNat m) >>> ((Int32.ofNat k) &&& 31)) &&& (Int32.ofNat 1)) = Int32.ofNat 1) => ?_) (fun (c84 : ¬ (¬ (((Int32.ofNat m) >>> ((Int32.ofNat k) &&& 31)) &&& (Int32.ofNat 1)) = Int32.ofNat 1)) => ?_)
      · refine hs_k (x := Int32.ofNat 0) (p := 92) (by decide +kernel) ?_
        refine hs_aload (i := 0) (p := 93) (by decide +kernel) rfl ?_
        refine hs_iload (i := 2) (p := 94) (by decide +kernel) rfl ?_
        refine hs_iload (i := 5) (p := 96) (by decide +kernel) rfl ?_
        refine ht_callv (T := et_TT) (t := 13) (mi := 269) (na := 2) (ci := 11) (lk := 6) (lm := 3) (L0 := eg_en (eg_mL 269) [.ref am, .int (Int32.ofNat r), .int (Int32.ofNat m)]) (by decide +kernel) rfl hH k_am rfl rfl rfl rfl rfl (by rw [show eg_mL 269 = 3 from by decide +kernel]; first | done | rfl) ?_
        refine (fm_isR hH k_am k_kw m19 hr (by omega) hb).mono (fun u hu => xp_cb hu ?_)
        by_cases qb : btL (b9 (m / 64)) m = true
        · rw [if_pos qb]
          show et_go none _ 279 99 _ [.int (Int32.ofNat 1), .int (Int32.ofNat 0)] _ _ _ _
          refine hs_br2n (c := .eq) (t := 106) (f := 102) (by decide +kernel) (by omega) (by omega) (fun h => absurd h (show ¬ (0 = 1) by decide)) (fun _ => ?_)
          refine hs_k (x := Int32.ofNat 1) (p := 103) (by decide +kernel) ?_
          refine hs_goto (p := 107) (by decide +kernel) ?_
          refine hs_istore (i := 4) (p := 109) (by decide +kernel) (Nat.le_of_ble_eq_true rfl) ?_
          refine hs_iinc1 (i := 5) (p := 112) (by decide +kernel) rfl (Nat.le_of_ble_eq_true rfl) ?_
          refine hs_goto (p := 65) (by decide +kernel) ?_
          have qf : f (feE (fun _ => Int32.ofNat m)) = true := by rw [← hbi m (fun _ => Int32.ofNat m) (by omega) rfl]; exact qb
          have ql : liI (Int32.ofNat m) k = false := by unfold liI; rcases one_bit (t := (Int32.ofNat m >>> (Int32.ofNat k &&& 31))) with h | h; exact decide_eq_false (fun h2 => h2 h); exact absurd h c84
          have e9 := mnF_e (mnF_y (md_ne ql qf (by decide))) (by omega)
          show et_go none _ 279 65 [some (.ref am), some (.int (Int32.ofNat k)), some (.int (Int32.ofNat r)), some (.int E9), some (.int (Int32.ofNat 1)), some (.int (Int32.ofNat (m + 1)))] [] _ _ _ _
          refine hs_iload (i := 5) (p := 67) (by decide +kernel) rfl ?_
          refine hs_kld (v := Value.int (Int32.ofNat 65536)) (p := 69) (by decide +kernel) ?_
          refine hs_br2n (c := .ge) (t := 115) (f := 72) (by decide +kernel) (by omega) (by omega) (fun (c69 : 65536 ≤ (m + 1)) => ?_) (fun (c69 : ¬ (65536 ≤ (m + 1))) => ?_)
          · refine hs_iload (i := 4) (p := 117) (by decide +kernel) rfl ?_
            refine hs_if0 (c := .eq) (t := 124) (f := 120) (by decide +kernel) (show ¬ (Int32.ofNat 1 = 0) by decide) ?_
            refine hs_iload (i := 3) (p := 121) (by decide +kernel) rfl ?_
            refine hs_goto (p := 125) (by decide +kernel) ?_
            refine hs_iret (by decide +kernel) ?_
            exact ⟨by rw [if_pos e9], rfl⟩
          · refine hs_iload (i := 4) (p := 74) (by decide +kernel) rfl ?_
            refine hs_if1 (c := .ne) (t := 115) (f := 77) (by decide +kernel) (show ¬ Int32.ofNat 1 = 0 by decide) ?_
            refine hs_iload (i := 4) (p := 117) (by decide +kernel) rfl ?_
            refine hs_if0 (c := .eq) (t := 124) (f := 120) (by decide +kernel) (show ¬ (Int32.ofNat 1 = 0) by decide) ?_
            refine hs_iload (i := 3) (p := 121) (by decide +kernel) rfl ?_
            refine hs_goto (p := 125) (by decide +kernel) ?_
            refine hs_iret (by decide +kernel) ?_
            exact ⟨by rw [if_pos e9], rfl⟩
        · rw [if_neg qb]
          show et_go none _ 279 99 _ [.int (Int32.ofNat 0), .int (Int32.ofNat 0)] _ _ _ _
          refine hs_br2n (c := .eq) (t := 106) (f := 102) (by decide +kernel) (by omega) (by omega) (fun _ => ?_) (fun h => absurd (show 0 = 0 by decide) h)
          refine hs_k (x := Int32.ofNat 0) (p := 107) (by decide +kernel) ?_
          refine hs_istore (i := 4) (p := 109) (by decide +kernel) (Nat.le_of_ble_eq_true rfl) ?_
          refine hs_iinc1 (i := 5) (p := 112) (by decide +kernel) rfl (Nat.le_of_ble_eq_true rfl) ?_
          refine hs_goto (p := 65) (by decide +kernel) ?_
          have qf : f (feE (fun _ => Int32.ofNat m)) = false := by rw [← hbi m (fun _ => Int32.ofNat m) (by omega) rfl]; exact Bool.eq_false_iff.mpr qb
          have ql : liI (Int32.ofNat m) k = false := by unfold liI; rcases one_bit (t := (Int32.ofNat m >>> (Int32.ofNat k &&& 31))) with h | h; exact decide_eq_false (fun h2 => h2 h); exact absurd h c84
          exact @ih (65536 - (m + 1)) (by omega) (m + 1) (mnF_n hno (md_eq ql qf rfl)) (by omega) rfl
      · refine hs_k (x := Int32.ofNat 1) (p := 88) (by decide +kernel) ?_
        refine hs_goto (p := 92) (by decide +kernel) ?_
        refine hs_aload (i := 0) (p := 93) (by decide +kernel) rfl ?_
        refine hs_iload (i := 2) (p := 94) (by decide +kernel) rfl ?_
        refine hs_iload (i := 5) (p := 96) (by decide +kernel) rfl ?_
        refine ht_callv (T := et_TT) (t := 13) (mi := 269) (na := 2) (ci := 11) (lk := 6) (lm := 3) (L0 := eg_en (eg_mL 269) [.ref am, .int (Int32.ofNat r), .int (Int32.ofNat m)]) (by decide +kernel) rfl hH k_am rfl rfl rfl rfl rfl (by rw [show eg_mL 269 = 3 from by decide +kernel]; first | done | rfl) ?_
        refine (fm_isR hH k_am k_kw m19 hr (by omega) hb).mono (fun u hu => xp_cb hu ?_)
        by_cases qb : btL (b9 (m / 64)) m = true
        · rw [if_pos qb]
          show et_go none _ 279 99 _ [.int (Int32.ofNat 1), .int (Int32.ofNat 1)] _ _ _ _
          refine hs_br2n (c := .eq) (t := 106) (f := 102) (by decide +kernel) (by omega) (by omega) (fun _ => ?_) (fun h => absurd (show 1 = 1 by decide) h)
          refine hs_k (x := Int32.ofNat 0) (p := 107) (by decide +kernel) ?_
          refine hs_istore (i := 4) (p := 109) (by decide +kernel) (Nat.le_of_ble_eq_true rfl) ?_
          refine hs_iinc1 (i := 5) (p := 112) (by decide +kernel) rfl (Nat.le_of_ble_eq_true rfl) ?_
          refine hs_goto (p := 65) (by decide +kernel) ?_
          have qf : f (feE (fun _ => Int32.ofNat m)) = true := by rw [← hbi m (fun _ => Int32.ofNat m) (by omega) rfl]; exact qb
          have ql : liI (Int32.ofNat m) k = true := by unfold liI; exact decide_eq_true (fun h => by rw [Decidable.of_not_not c84] at h; exact absurd h (by decide))
          exact @ih (65536 - (m + 1)) (by omega) (m + 1) (mnF_n hno (md_eq ql qf rfl)) (by omega) rfl
        · rw [if_neg qb]
          show et_go none _ 279 99 _ [.int (Int32.ofNat 0), .int (Int32.ofNat 1)] _ _ _ _
          refine hs_br2n (c := .eq) (t := 106) (f := 102) (by decide +kernel) (by omega) (by omega) (fun h => absurd h (show ¬ (1 = 0) by decide)) (fun _ => ?_)
          refine hs_k (x := Int32.ofNat 1) (p := 103) (by decide +kernel) ?_
          refine hs_goto (p := 107) (by decide +kernel) ?_
          refine hs_istore (i := 4) (p := 109) (by decide +kernel) (Nat.le_of_ble_eq_true rfl) ?_
          refine hs_iinc1 (i := 5) (p := 112) (by decide +kernel) rfl (Nat.le_of_ble_eq_true rfl) ?_
          refine hs_goto (p := 65) (by decide +kernel) ?_
          have qf : f (feE (fun _ => Int32.ofNat m)) = false := by rw [← hbi m (fun _ => Int32.ofNat m) (by omega) rfl]; exact Bool.eq_false_iff.mpr qb
          have ql : liI (Int32.ofNat m) k = true := by unfold liI; exact decide_eq_true (fun h => by rw [Decidable.of_not_not c84] at h; exact absurd h (by decide))
          have e9 := mnF_e (mnF_y (md_ne ql qf (by decide))) (by omega)
          show et_go none _ 279 65 [some (.ref am), some (.int (Int32.ofNat k)), some (.int (Int32.ofNat r)), some (.int E9), some (.int (Int32.ofNat 1)), some (.int (Int32.ofNat (m + 1)))] [] _ _ _ _
          refine hs_iload (i := 5) (p := 67) (by decide +kernel) rfl ?_
          refine hs_kld (v := Value.int (Int32.ofNat 65536)) (p := 69) (by decide +kernel) ?_
          refine hs_br2n (c := .ge) (t := 115) (f := 72) (by decide +kernel) (by omega) (by omega) (fun (c69 : 65536 ≤ (m + 1)) => ?_) (fun (c69 : ¬ (65536 ≤ (m + 1))) => ?_)
          · refine hs_iload (i := 4) (p := 117) (by decide +kernel) rfl ?_
            refine hs_if0 (c := .eq) (t := 124) (f := 120) (by decide +kernel) (show ¬ (Int32.ofNat 1 = 0) by decide) ?_
            refine hs_iload (i := 3) (p := 121) (by decide +kernel) rfl ?_
            refine hs_goto (p := 125) (by decide +kernel) ?_
            refine hs_iret (by decide +kernel) ?_
            exact ⟨by rw [if_pos e9], rfl⟩
          · refine hs_iload (i := 4) (p := 74) (by decide +kernel) rfl ?_
            refine hs_if1 (c := .ne) (t := 115) (f := 77) (by decide +kernel) (show ¬ Int32.ofNat 1 = 0 by decide) ?_
            refine hs_iload (i := 4) (p := 117) (by decide +kernel) rfl ?_
            refine hs_if0 (c := .eq) (t := 124) (f := 120) (by decide +kernel) (show ¬ (Int32.ofNat 1 = 0) by decide) ?_
            refine hs_iload (i := 3) (p := 121) (by decide +kernel) rfl ?_
            refine hs_goto (p := 125) (by decide +kernel) ?_
            refine hs_iret (by decide +kernel) ?_
            exact ⟨by rw [if_pos e9], rfl⟩
theorem fn_md (hH : et_H et_TT K G) (k_am : K am = some 13) (k_aw : K aw = some 46) (m1 : et_pl (eg_at G am) 1 = some (.ref aw)) (w0 : et_pl (eg_at G aw) 0 = some (.int (Int32.ofNat rc))) (hrc : rc ≤ 4) (w3 : et_pl (eg_at G aw) 3 = some (.int (Int32.ofNat nc))) (hnc : nc ≤ 20) (hcr : crP G aw nc X Y) (hT : ∀ r, r < rc → txP G aw (126 + 841 * r) 0 (g r) ∧ fcl (g r)) (hky : kyA G am aw rc) (hr : r < rc) (hk : k < 16) (hd : 6 ≤ d2) : et_go none d2 279 0 (eg_en (eg_mL 279) [.ref am, .int (Int32.ofNat k), .int (Int32.ofNat r)]) [] G 0 0 (fun u => u.1 = .inl (some (.int (mdV X Y k nc (g r)))) ∧ et_pl (eg_at u.2.1 am) 0 = some (.int (Int32.ofNat 0)) ∧ kyA u.2.1 am aw rc) := by
  obtain ⟨d, rfl⟩ : ∃ d, d2 = d + 6 := ⟨d2 - 6, by omega⟩
  have hal := alN_le (X := X) (Y := Y) (v := k) nc
  have ok : (Int32.ofNat k).toInt = k := hs_nint (by omega)
  have or_ : (Int32.ofNat r).toInt = r := hs_nint (by omega)
  rw [show eg_mL 279 = 6 from by decide +kernel]
  show et_go none (d + 6) 279 0 [some (.ref am), some (.int (Int32.ofNat k)), some (.int (Int32.ofNat r)), none, none, none] [] G 0 0 _
  have lt_am := (hH.2.2 _ _ k_am).1
  have lt_aw := (hH.2.2 _ _ k_aw).1
  refine hs_aload (i := 0) (p := 1) (by decide +kernel) rfl ?_
  refine hs_k (x := Int32.ofNat 0) (p := 2) (by decide +kernel) ?_
  have hHo := hH
  refine hf_put (T := et_TT) (t := 13) (ci := 11) (f := 0) (p := 5) (ty := .int) (by decide +kernel) rfl rfl rfl rfl rfl hH k_am hi_any (fun G2 hH x2 e2 => ?_)
  have hcr : crP G2 aw nc X Y := fun k hk => ⟨(x2.2 aw _ lt_aw (fun h => hi_ne k_aw k_am (by decide) h.1)).trans (hcr k hk).1, (x2.2 aw _ lt_aw (fun h => hi_ne k_aw k_am (by decide) h.1)).trans (hcr k hk).2.1, (hcr k hk).2.2⟩
  have hT : ∀ r, r < rc → txP G2 aw (126 + 841 * r) 0 (g r) ∧ fcl (g r) := fun r hr => ⟨(hT r hr).1.xs lt_aw x2 (fun j h => hi_ne k_aw k_am (by decide) h.1), (hT r hr).2⟩
  have hky := hky.xs hHo k_am k_aw x2 (fun b j t kb hs => by rw [hs.1, k_am] at kb; cases kb; rw [hs.2]; exact ⟨by decide, by decide, fun _ => ⟨by decide, by decide⟩, fun h => absurd h (by decide)⟩)
  have m1 := (x2.2 am 1 lt_am (fun h => absurd h.2 (by decide))).trans m1
  have w0 := (x2.2 aw 0 lt_aw (fun h => (hi_ne k_aw k_am (by decide)) h.1)).trans w0
  have w3 := (x2.2 aw 3 lt_aw (fun h => (hi_ne k_aw k_am (by decide)) h.1)).trans w3
  have lt_am := Nat.lt_of_lt_of_le lt_am x2.1
  have lt_aw := Nat.lt_of_lt_of_le lt_aw x2.1
  refine hs_aload (i := 0) (p := 6) (by decide +kernel) rfl ?_
  refine hs_iload (i := 1) (p := 7) (by decide +kernel) rfl ?_
  refine hs_calls (mi := 273) (na := 1) (lk := 6) (lm := 1) (L0 := eg_en (eg_mL 273) [.int (Int32.ofNat k)]) (by decide +kernel) rfl rfl rfl rfl rfl rfl (by rw [show eg_mL 273 = 1 from by decide +kernel]; first | done | rfl) ?_
  refine (fm_noCell (x := Int32.ofNat k)).mono (fun u hu => xp_cb hu ?_)
  by_cases xw : 0 ≤ (Int32.ofNat k).toInt ∧ (Int32.ofNat k).toInt < 16
  · rw [if_pos xw]
    show et_go none _ 279 10 _ [.int (Int32.ofNat 0), .ref am] _ _ _ _
    refine hs_if0 (c := .ne) (t := 21) (f := 13) (by decide +kernel) (show ¬ (¬ Int32.ofNat 0 = 0) by decide) ?_
    refine hs_aload (i := 0) (p := 14) (by decide +kernel) rfl ?_
    refine hs_iload (i := 2) (p := 15) (by decide +kernel) rfl ?_
    refine ht_callv (T := et_TT) (t := 13) (mi := 210) (na := 1) (ci := 11) (lk := 6) (lm := 2) (L0 := eg_en (eg_mL 210) [.ref am, .int (Int32.ofNat r)]) (by decide +kernel) rfl hH k_am rfl rfl rfl rfl rfl (by rw [show eg_mL 210 = 2 from by decide +kernel]; first | done | rfl) ?_
    refine (fm_nR (x := Int32.ofNat r) hH k_am k_aw m1 w0 hrc (by omega)).mono (fun u hu => xp_cb hu ?_)
    by_cases xu : 0 ≤ (Int32.ofNat r).toInt ∧ (Int32.ofNat r).toInt < (rc : Int)
    · rw [if_pos xu]
      show et_go none _ 279 18 _ [.int (Int32.ofNat 0), .ref am] _ _ _ _
      refine hs_if1 (c := .eq) (t := 25) (f := 21) (by decide +kernel) (show Int32.ofNat 0 = 0 by decide) ?_
      refine hs_k (x := Int32.ofNat 0) (p := 26) (by decide +kernel) ?_
      refine hs_k (x := Int32.ofNat 1) (p := 27) (by decide +kernel) ?_
      refine ht_callv (T := et_TT) (t := 13) (mi := 204) (na := 2) (ci := 11) (lk := 6) (lm := 3) (L0 := eg_en (eg_mL 204) [.ref am, .int (Int32.ofNat 0), .int (Int32.ofNat 1)]) (by decide +kernel) rfl hH k_am rfl rfl rfl rfl rfl (by rw [show eg_mL 204 = 3 from by decide +kernel]; first | done | rfl) ?_
      refine (fm_t0 hH k_am).mono (fun u hu => xp_cb hu ?_)
      show et_go none _ 279 30 _ [.int (Int32.ofNat 0)] _ _ _ _
      refine hs_if1 (c := .eq) (t := 35) (f := 33) (by decide +kernel) (show Int32.ofNat 0 = 0 by decide) ?_
      refine hs_k (x := Int32.ofNat 2) (p := 36) (by decide +kernel) ?_
      refine hs_aload (i := 0) (p := 37) (by decide +kernel) rfl ?_
      refine hs_iload (i := 1) (p := 38) (by decide +kernel) rfl ?_
      refine ht_callv (T := et_TT) (t := 13) (mi := 277) (na := 1) (ci := 11) (lk := 6) (lm := 4) (L0 := eg_en (eg_mL 277) [.ref am, .int (Int32.ofNat k)]) (by decide +kernel) rfl hH k_am rfl rfl rfl rfl rfl (by rw [show eg_mL 277 = 4 from by decide +kernel]; first | done | rfl) ?_
      refine (fm_ga hH k_am k_aw m1 w3 hnc hcr (by omega)).mono (fun u hu => xp_cb hu ?_)
      show et_go none _ 279 41 _ [.int (Int32.ofNat (alN X Y k nc)), .int (Int32.ofNat 2)] _ _ _ _
      refine hs_imuln (p := 42) (by decide +kernel) ?_
      refine hs_aload (i := 0) (p := 43) (by decide +kernel) rfl ?_
      refine ht_callv (T := et_TT) (t := 13) (mi := 218) (na := 0) (ci := 11) (lk := 6) (lm := 1) (L0 := eg_en (eg_mL 218) [.ref am]) (by decide +kernel) rfl hH k_am rfl rfl rfl rfl rfl (by rw [show eg_mL 218 = 1 from by decide +kernel]; first | done | rfl) ?_
      refine (fm_cards hH k_am k_aw m1 w3).mono (fun u hu => xp_cb hu ?_)
      show et_go none _ 279 46 _ [.int (Int32.ofNat nc), .int (Int32.ofNat (2 * (alN X Y k nc)))] _ _ _ _
      refine hs_isub (p := 47) (by decide +kernel) ?_
      refine hs_istore (i := 3) (p := 48) (by decide +kernel) (Nat.le_of_ble_eq_true rfl) ?_
      refine hs_iload (i := 3) (p := 49) (by decide +kernel) rfl ?_
      refine hs_br1 (c := .gt) (t := 54) (f := 52) (by decide +kernel) (fun (c49 : 0 < (Int32.ofNat (2 * (alN X Y k nc)) - Int32.ofNat nc)) => ?_) (fun (c49 : ¬ (0 < (Int32.ofNat (2 * (alN X Y k nc)) - Int32.ofNat nc))) => ?_)
      · refine hs_aload (i := 0) (p := 55) (by decide +kernel) rfl ?_
        refine hs_iload (i := 2) (p := 56) (by decide +kernel) rfl ?_
        obtain ⟨ik, m18, k_ik⟩ := hf_ref (t := 13) (f := 18) (u := 25) hH k_am rfl rfl (.inr trivial)
        obtain ⟨kw, m19, k_kw⟩ := hf_ref (t := 13) (f := 19) (u := 30) hH k_am rfl rfl (.inr trivial)
        have hkn : et_pl (eg_at G2 ik) r = some (.int (Int32.ofNat 0)) ∨ knP G2 aw kw r := by
          obtain ⟨ik9, kw9, ⟨q1, q2⟩, q3⟩ := hky
          obtain rfl : ik9 = ik := Value.ref.inj (Option.some.inj (q1.symm.trans m18))
          obtain rfl : kw9 = kw := Value.ref.inj (Option.some.inj (q2.symm.trans m19))
          exact q3 r hr (by omega)
        refine ht_callv (T := et_TT) (t := 13) (mi := 266) (na := 1) (ci := 11) (lk := 6) (lm := 4) (L0 := eg_en (eg_mL 266) [.ref am, .int (Int32.ofNat r)]) (by decide +kernel) rfl hH k_am rfl rfl rfl rfl rfl (by rw [show eg_mL 266 = 4 from by decide +kernel]; first | done | rfl) ?_
        refine ((er_c38 (K, [], G2) [.ref am, .int (Int32.ofNat r)] _ hH (by show 5 ≤ _; omega) rfl (ht_ac (.inr ⟨by decide, _, rfl, k_am⟩) (ht_ac (hi_nv (by omega) (by omega)) ht_an))).and ((fm_knows hH k_am k_aw k_ik k_kw m1 m18 m19 (by omega) (hT r hr).1 (hT r hr).2 hkn (by omega)).mono (fun u (hu : u.1 = _ ∧ knR G2 u.2.1 am aw ik kw r (g r)) => hu.2))).mono (fun u hu => hs_cbnP (P := fun g9 => knR G2 g9 am aw ik kw r (g r)) hu (fun K9 G9 c9 s9 x9 f9 hH cl9 sl9 hkr => ?_))
        obtain rfl : c9 = 0 := Nat.le_zero.mp cl9
        obtain rfl : s9 = 0 := Nat.le_zero.mp sl9
        have hky9 := hkr.ky (hT r hr).1 hky m18 m19
        have m09 := (f9.2 am 13 k_am 0 (by decide +kernel)).trans e2
        obtain ⟨⟨b9, hb9, hbi9⟩, -, ⟨-, m199⟩, -⟩ := hkr
        have k_am := x9 _ _ k_am
        have k_kw := x9 _ _ k_kw
        have lt_am := (hH.2.2 _ _ k_am).1
        have lt_kw := (hH.2.2 _ _ k_kw).1
        show et_go none _ 279 59 _ [] _ _ _ _
        refine hs_k (x := Int32.ofNat 0) (p := 60) (by decide +kernel) ?_
        refine hs_istore (i := 4) (p := 62) (by decide +kernel) (Nat.le_of_ble_eq_true rfl) ?_
        refine hs_k (x := Int32.ofNat 0) (p := 63) (by decide +kernel) ?_
        refine hs_istore (i := 5) (p := 65) (by decide +kernel) (Nat.le_of_ble_eq_true rfl) ?_
        refine (fn_mdL (m := 0) (E9 := (Int32.ofNat (2 * (alN X Y k nc)) - Int32.ofNat nc)) (f := g r) hH k_am k_kw m09 m199 (by omega) hb9 hbi9 rfl (Nat.zero_le _)).mono (fun u hu => ?_)
        refine ⟨?_, by rw [hu.2]; exact m09, by rw [hu.2]; exact hky9⟩
        rw [show (mdV X Y k nc (g r)) = (if mnF (g r) k 65536 = true then (Int32.ofNat (2 * (alN X Y k nc)) - Int32.ofNat nc) else -1) from if_pos c49]
        exact hu.1
      · refine hs_k (x := Int32.ofNat 0) (p := 53) (by decide +kernel) ?_
        refine hs_iret (by decide +kernel) ?_
        refine ⟨?_, e2, hky⟩
        rw [show (mdV X Y k nc (g r)) = Int32.ofNat 0 from if_neg c49]
    · exact absurd ⟨by omega, by omega⟩ xu
  · exact absurd ⟨by omega, by omega⟩ xw
theorem fn_mdN (hH : et_H et_TT K G) (k_am : K am = some 13) (k_aw : K aw = some 46) (m1 : et_pl (eg_at G am) 1 = some (.ref aw)) (w0 : et_pl (eg_at G aw) 0 = some (.int (Int32.ofNat rc))) (hrc : rc ≤ 4) (w3 : et_pl (eg_at G aw) 3 = some (.int (Int32.ofNat nc))) (hnc : nc ≤ 20) (hcr : crP G aw nc X Y) (hT : ∀ r, r < rc → txP G aw (126 + 841 * r) 0 (g r) ∧ fcl (g r)) (hky : kyA G am aw rc) (hne : ¬ ((0 ≤ y.toInt ∧ y.toInt < 16) ∧ xr x rc)) (hd : 3 ≤ d2) : et_go none d2 279 0 (eg_en (eg_mL 279) [.ref am, .int y, .int x]) [] G 0 0 (fun u => u.1 = .inl (some (.int (Int32.ofNat 0))) ∧ et_pl (eg_at u.2.1 am) 0 = some (.int (Int32.ofNat 1)) ∧ kyA u.2.1 am aw rc) := by
  obtain ⟨d, rfl⟩ : ∃ d, d2 = d + 3 := ⟨d2 - 3, by omega⟩
  rw [show eg_mL 279 = 6 from by decide +kernel]
  show et_go none (d + 3) 279 0 [some (.ref am), some (.int y), some (.int x), none, none, none] [] G 0 0 _
  have lt_am := (hH.2.2 _ _ k_am).1
  have lt_aw := (hH.2.2 _ _ k_aw).1
  refine hs_aload (i := 0) (p := 1) (by decide +kernel) rfl ?_
  refine hs_k (x := Int32.ofNat 0) (p := 2) (by decide +kernel) ?_
  have hHo := hH
  refine hf_put (T := et_TT) (t := 13) (ci := 11) (f := 0) (p := 5) (ty := .int) (by decide +kernel) rfl rfl rfl rfl rfl hH k_am hi_any (fun G2 hH x2 e2 => ?_)
  have hcr : crP G2 aw nc X Y := fun k hk => ⟨(x2.2 aw _ lt_aw (fun h => hi_ne k_aw k_am (by decide) h.1)).trans (hcr k hk).1, (x2.2 aw _ lt_aw (fun h => hi_ne k_aw k_am (by decide) h.1)).trans (hcr k hk).2.1, (hcr k hk).2.2⟩
  have hT : ∀ r, r < rc → txP G2 aw (126 + 841 * r) 0 (g r) ∧ fcl (g r) := fun r hr => ⟨(hT r hr).1.xs lt_aw x2 (fun j h => hi_ne k_aw k_am (by decide) h.1), (hT r hr).2⟩
  have hky := hky.xs hHo k_am k_aw x2 (fun b j t kb hs => by rw [hs.1, k_am] at kb; cases kb; rw [hs.2]; exact ⟨by decide, by decide, fun _ => ⟨by decide, by decide⟩, fun h => absurd h (by decide)⟩)
  have m1 := (x2.2 am 1 lt_am (fun h => absurd h.2 (by decide))).trans m1
  have w0 := (x2.2 aw 0 lt_aw (fun h => (hi_ne k_aw k_am (by decide)) h.1)).trans w0
  have w3 := (x2.2 aw 3 lt_aw (fun h => (hi_ne k_aw k_am (by decide)) h.1)).trans w3
  have lt_am := Nat.lt_of_lt_of_le lt_am x2.1
  have lt_aw := Nat.lt_of_lt_of_le lt_aw x2.1
  refine hs_aload (i := 0) (p := 6) (by decide +kernel) rfl ?_
  refine hs_iload (i := 1) (p := 7) (by decide +kernel) rfl ?_
  refine hs_calls (mi := 273) (na := 1) (lk := 6) (lm := 1) (L0 := eg_en (eg_mL 273) [.int y]) (by decide +kernel) rfl rfl rfl rfl rfl rfl (by rw [show eg_mL 273 = 1 from by decide +kernel]; first | done | rfl) ?_
  refine (fm_noCell (x := y)).mono (fun u hu => xp_cb hu ?_)
  by_cases xw : 0 ≤ y.toInt ∧ y.toInt < 16
  · rw [if_pos xw]
    show et_go none _ 279 10 _ [.int (Int32.ofNat 0), .ref am] _ _ _ _
    refine hs_if0 (c := .ne) (t := 21) (f := 13) (by decide +kernel) (show ¬ (¬ Int32.ofNat 0 = 0) by decide) ?_
    refine hs_aload (i := 0) (p := 14) (by decide +kernel) rfl ?_
    refine hs_iload (i := 2) (p := 15) (by decide +kernel) rfl ?_
    refine ht_callv (T := et_TT) (t := 13) (mi := 210) (na := 1) (ci := 11) (lk := 6) (lm := 2) (L0 := eg_en (eg_mL 210) [.ref am, .int x]) (by decide +kernel) rfl hH k_am rfl rfl rfl rfl rfl (by rw [show eg_mL 210 = 2 from by decide +kernel]; first | done | rfl) ?_
    refine (fm_nR (x := x) hH k_am k_aw m1 w0 hrc (by omega)).mono (fun u hu => xp_cb hu ?_)
    by_cases xu : 0 ≤ (x).toInt ∧ (x).toInt < (rc : Int)
    · exact absurd ⟨xw, xu⟩ hne
    · rw [if_neg xu]
      show et_go none _ 279 18 _ [.int (Int32.ofNat 1), .ref am] _ _ _ _
      refine hs_if0 (c := .eq) (t := 25) (f := 21) (by decide +kernel) (show ¬ (Int32.ofNat 1 = 0) by decide) ?_
      refine hs_k (x := Int32.ofNat 1) (p := 22) (by decide +kernel) ?_
      refine hs_goto (p := 26) (by decide +kernel) ?_
      refine hs_k (x := Int32.ofNat 1) (p := 27) (by decide +kernel) ?_
      have hHo := hH
      refine ht_callv (T := et_TT) (t := 13) (mi := 204) (na := 2) (ci := 11) (lk := 6) (lm := 3) (L0 := eg_en (eg_mL 204) [.ref am, .int (Int32.ofNat 1), .int (Int32.ofNat 1)]) (by decide +kernel) rfl hH k_am rfl rfl rfl rfl rfl (by rw [show eg_mL 204 = 3 from by decide +kernel]; first | done | rfl) ?_
      refine (fm_t1 hH k_am).mono (fun u hu => xw_cb hu (fun G27 v27 hH x27 hP27 => ?_))
      have hcr : crP G27 aw nc X Y := fun k hk => ⟨(x27.2 aw _ lt_aw (fun h => hi_ne k_aw k_am (by decide) h.1)).trans (hcr k hk).1, (x27.2 aw _ lt_aw (fun h => hi_ne k_aw k_am (by decide) h.1)).trans (hcr k hk).2.1, (hcr k hk).2.2⟩
      have hT : ∀ r, r < rc → txP G27 aw (126 + 841 * r) 0 (g r) ∧ fcl (g r) := fun r hr => ⟨(hT r hr).1.xs lt_aw x27 (fun j h => hi_ne k_aw k_am (by decide) h.1), (hT r hr).2⟩
      have hky := hky.xs hHo k_am k_aw x27 (fun b j t kb hs => by rw [hs.1, k_am] at kb; cases kb; rw [hs.2]; exact ⟨by decide, by decide, fun _ => ⟨by decide, by decide⟩, fun h => absurd h (by decide)⟩)
      have m1 := (x27.2 am 1 lt_am (fun h => absurd h.2 (by decide))).trans m1
      have w0 := (x27.2 aw 0 lt_aw (fun h => (hi_ne k_aw k_am (by decide)) h.1)).trans w0
      have w3 := (x27.2 aw 3 lt_aw (fun h => (hi_ne k_aw k_am (by decide)) h.1)).trans w3
      have lt_am := Nat.lt_of_lt_of_le lt_am x27.1
      have lt_aw := Nat.lt_of_lt_of_le lt_aw x27.1
      obtain ⟨rfl, th27⟩ := hP27
      show et_go none _ 279 30 _ [.int (Int32.ofNat 1)] _ _ _ _
      refine hs_if0 (c := .eq) (t := 35) (f := 33) (by decide +kernel) (show ¬ (Int32.ofNat 1 = 0) by decide) ?_
      refine hs_k (x := Int32.ofNat 0) (p := 34) (by decide +kernel) ?_
      refine hs_iret (by decide +kernel) ?_
      exact ⟨rfl, th27, hky⟩
  · rw [if_neg xw]
    show et_go none _ 279 10 _ [.int (Int32.ofNat 1), .ref am] _ _ _ _
    refine hs_if1 (c := .ne) (t := 21) (f := 13) (by decide +kernel) (show ¬ Int32.ofNat 1 = 0 by decide) ?_
    refine hs_k (x := Int32.ofNat 1) (p := 22) (by decide +kernel) ?_
    refine hs_goto (p := 26) (by decide +kernel) ?_
    refine hs_k (x := Int32.ofNat 1) (p := 27) (by decide +kernel) ?_
    have hHo := hH
    refine ht_callv (T := et_TT) (t := 13) (mi := 204) (na := 2) (ci := 11) (lk := 6) (lm := 3) (L0 := eg_en (eg_mL 204) [.ref am, .int (Int32.ofNat 1), .int (Int32.ofNat 1)]) (by decide +kernel) rfl hH k_am rfl rfl rfl rfl rfl (by rw [show eg_mL 204 = 3 from by decide +kernel]; first | done | rfl) ?_
    refine (fm_t1 hH k_am).mono (fun u hu => xw_cb hu (fun G27 v27 hH x27 hP27 => ?_))
    have hcr : crP G27 aw nc X Y := fun k hk => ⟨(x27.2 aw _ lt_aw (fun h => hi_ne k_aw k_am (by decide) h.1)).trans (hcr k hk).1, (x27.2 aw _ lt_aw (fun h => hi_ne k_aw k_am (by decide) h.1)).trans (hcr k hk).2.1, (hcr k hk).2.2⟩
    have hT : ∀ r, r < rc → txP G27 aw (126 + 841 * r) 0 (g r) ∧ fcl (g r) := fun r hr => ⟨(hT r hr).1.xs lt_aw x27 (fun j h => hi_ne k_aw k_am (by decide) h.1), (hT r hr).2⟩
    have hky := hky.xs hHo k_am k_aw x27 (fun b j t kb hs => by rw [hs.1, k_am] at kb; cases kb; rw [hs.2]; exact ⟨by decide, by decide, fun _ => ⟨by decide, by decide⟩, fun h => absurd h (by decide)⟩)
    have m1 := (x27.2 am 1 lt_am (fun h => absurd h.2 (by decide))).trans m1
    have w0 := (x27.2 aw 0 lt_aw (fun h => (hi_ne k_aw k_am (by decide)) h.1)).trans w0
    have w3 := (x27.2 aw 3 lt_aw (fun h => (hi_ne k_aw k_am (by decide)) h.1)).trans w3
    have lt_am := Nat.lt_of_lt_of_le lt_am x27.1
    have lt_aw := Nat.lt_of_lt_of_le lt_aw x27.1
    obtain ⟨rfl, th27⟩ := hP27
    show et_go none _ 279 30 _ [.int (Int32.ofNat 1)] _ _ _ _
    refine hs_if0 (c := .eq) (t := 35) (f := 33) (by decide +kernel) (show ¬ (Int32.ofNat 1 = 0) by decide) ?_
    refine hs_k (x := Int32.ofNat 0) (p := 34) (by decide +kernel) ?_
    refine hs_iret (by decide +kernel) ?_
    exact ⟨rfl, th27, hky⟩
end YKB
end
section
/-! mend in the law's words -/
section YNA
variable {K : et_K} {G : eg_G} {d2 th s0 ra rc fo la ly nc out am aw : Nat} {X : Nat → Int32} {Y : Nat → Nat} {x y : Int32} {D : Nat → Prop} {φ : Nat → sp_E → Bool} {R0 : Nat → Nat} {g : Nat → sp_E → Bool}
theorem fz_md (t : rxK K D φ th s0 ra fo) (hH : et_H et_TT K G) (h : rx D φ th s0 ra rc fo G) (hR : ∀ k, k < rc → D (R0 k) ∧ et_pl (eg_at G ra) k = some (.ref (R0 k))) (g2 : et_pl (eg_at G s0) 2 = some (.int (Int32.ofNat nc))) (hnc : nc ≤ 20) (hcc : ccP G s0 la ly nc X Y) (k_la : K la = some 17) (k_ly : K ly = some 27) (k_out : K out = some 31) (hd : 35 ≤ d2) : et_go none d2 23 0 (eg_en (eg_mL 23) [.ref th, .int y, .int x, .ref out]) [] G 0 0 (fun u => (¬ ((0 ≤ y.toInt ∧ y.toInt < 16) ∧ xr x rc) ∧ u.1 = .inl (some (.int (Int32.ofNat 1)))) ∨ ∃ k n, (y = Int32.ofNat k ∧ x = Int32.ofNat n) ∧ (k < 16 ∧ n < rc) ∧ u.1 = .inl (some (.int (Int32.ofNat 0))) ∧ et_pl (eg_at u.2.1 out) 0 = some (.long (mdV X Y k nc (φ (R0 n))).toInt64)) := by
  obtain ⟨hrk, ⟨h0, h4⟩, ⟨r0, r1, hrc⟩, hq⟩ := h
  obtain ⟨tD, k_th, k_s0, k_ra, k_fo⟩ := t
  by_cases hy : (0 ≤ y.toInt ∧ y.toInt < 16)
  · obtain ⟨k, rfl, q2, q3⟩ := hs_toN (x := y) (by omega)
    by_cases hx : xr x rc
    · obtain ⟨n, rfl, hn⟩ := xr_nat hx (by omega)
      obtain ⟨hDn, hRn⟩ := hR n hn
      obtain ⟨bb, lo, hi, q0, hdn, hTb⟩ := hrk _ hDn
      obtain ⟨k_q, hcl⟩ := tD _ hDn
      exact (fh_md hH k_th h0 k_s0 r0 hrc r1 k_ra hn hRn k_q q0 (cond_ty hH k_q q0) hdn hTb hcl h4 k_fo g2 hnc hcc k_la k_ly k_out (by omega) (by omega)).mono (fun u hu => .inr ⟨k, n, ⟨rfl, rfl⟩, ⟨by omega, hn⟩, hu.1, hu.2⟩)
    · exact (fh_mdR hH k_th h0 k_s0 r0 hrc r1 k_ra (fun n hn => (hq n hn).elim (fun q hq2 => ⟨q, hq2.2⟩)) (by omega) hx (by omega)).mono (fun u hu => .inl ⟨fun h => hx h.2, hu.1⟩)
  · exact (fh_mdC hH k_th hy (by omega)).mono (fun u hu => .inl ⟨fun h => hy h.1, hu.1⟩)
theorem gz_md (hH : et_H et_TT K G) (k_am : K am = some 13) (k_aw : K aw = some 46) (m1 : et_pl (eg_at G am) 1 = some (.ref aw)) (w0 : et_pl (eg_at G aw) 0 = some (.int (Int32.ofNat rc))) (hrc : rc ≤ 4) (w3 : et_pl (eg_at G aw) 3 = some (.int (Int32.ofNat nc))) (hnc : nc ≤ 20) (hcr : crP G aw nc X Y) (hT : ∀ r, r < rc → txP G aw (126 + 841 * r) 0 (g r) ∧ fcl (g r)) (hky : kyA G am aw rc) (hd : 7 ≤ d2) : et_go none d2 279 0 (eg_en (eg_mL 279) [.ref am, .int y, .int x]) [] G 0 0 (fun u => (¬ ((0 ≤ y.toInt ∧ y.toInt < 16) ∧ xr x rc) ∧ u.1 = .inl (some (.int (Int32.ofNat 0))) ∧ et_pl (eg_at u.2.1 am) 0 = some (.int (Int32.ofNat 1)) ∧ kyA u.2.1 am aw rc) ∨ ∃ k n, (y = Int32.ofNat k ∧ x = Int32.ofNat n) ∧ (k < 16 ∧ n < rc) ∧ u.1 = .inl (some (.int (mdV X Y k nc (g n)))) ∧ et_pl (eg_at u.2.1 am) 0 = some (.int (Int32.ofNat 0)) ∧ kyA u.2.1 am aw rc) := by
  by_cases hne : ((0 ≤ y.toInt ∧ y.toInt < 16) ∧ xr x rc)
  · obtain ⟨k, rfl, q2, q3⟩ := hs_toN (x := y) (by omega)
    obtain ⟨n, rfl, hn⟩ := xr_nat hne.2 (by omega)
    exact (fn_md hH k_am k_aw m1 w0 hrc w3 hnc hcr hT hky hn (by omega) (by omega)).mono (fun u hu => .inr ⟨k, n, ⟨rfl, rfl⟩, ⟨by omega, hn⟩, hu⟩)
  · exact (fn_mdN hH k_am k_aw m1 w0 hrc w3 hnc hcr hT hky hne (by omega)).mono (fun u hu => .inl ⟨hne, hu⟩)
end YNA
end
