/-! odds: of all cards how many an EYE SAYS right by a RULE -/
/-- of the first cards -/
def odN (f : sp_E → Bool) (v : evT) (z : Int32) : Nat → Nat
  | 0 => 0
  | m + 1 => odN f v z m + (if (z = (-1) ∨ rp_bc (Int32.ofNat m) = z) ∧ syE v (Int32.ofNat m) = f (feE (fun _ => Int32.ofNat m)) then 1 else 0)
section YPO
variable {f : sp_E → Bool} {v : evT} {z : Int32} {m : Nat} {b : Bool}
theorem odN_le : ∀ m, odN f v z m ≤ m
  | 0 => Nat.le_refl 0
  | m + 1 => by
    have h := odN_le m
    show odN f v z m + (if (z = (-1) ∨ rp_bc (Int32.ofNat m) = z) ∧ syE v (Int32.ofNat m) = f (feE (fun _ => Int32.ofNat m)) then 1 else 0) ≤ m + 1
    split <;> omega
theorem odN_s (h : ¬ (z = (-1) ∨ rp_bc (Int32.ofNat m) = z)) : odN f v z (m + 1) = odN f v z m := by
  show odN f v z m + (if (z = (-1) ∨ rp_bc (Int32.ofNat m) = z) ∧ syE v (Int32.ofNat m) = f (feE (fun _ => Int32.ofNat m)) then 1 else 0) = _
  rw [if_neg (fun q => h q.1)]
  rfl
theorem odN_y (h : z = (-1) ∨ rp_bc (Int32.ofNat m) = z) (h1 : syE v (Int32.ofNat m) = b) (h2 : f (feE (fun _ => Int32.ofNat m)) = b) : odN f v z (m + 1) = odN f v z m + 1 := by
  show odN f v z m + (if (z = (-1) ∨ rp_bc (Int32.ofNat m) = z) ∧ syE v (Int32.ofNat m) = f (feE (fun _ => Int32.ofNat m)) then 1 else 0) = _
  rw [if_pos ⟨h, h1.trans h2.symm⟩]
theorem odN_n (h1 : syE v (Int32.ofNat m) = b) (h2 : f (feE (fun _ => Int32.ofNat m)) = !b) : odN f v z (m + 1) = odN f v z m := by
  show odN f v z m + (if (z = (-1) ∨ rp_bc (Int32.ofNat m) = z) ∧ syE v (Int32.ofNat m) = f (feE (fun _ => Int32.ofNat m)) then 1 else 0) = _
  rw [if_neg (fun q => by
    have q := q.2
    rw [h1, h2] at q
    cases b <;> cases q)]
  rfl
end YPO
section YPA
variable {K : et_K} {G : eg_G} {d d2 th s0 s1 ya yb ec nc la ly out e ca ki kn am aw n m k c q a b : Nat} {O : Nat → Nat} {A : Nat → Nat → Nat} {v : evT} {V : Nat → evT} {X : Nat → Int32} {Y : Nat → Nat} {x y z : Int32} {q9 : Nat} {fo ra bb lo hi rc r ck sk : Nat} {f : sp_E → Bool} {F : Nat → Int32}
theorem fc_odL {x6 : Option Value} (hH : et_H et_TT K G) (k_th : K th = some 12) (t9 : evK K e ca ki kn v.1 v.2.2.1) (hv : evc G e ca ki kn v) (k_q : K q = some 8) (q0 : et_pl (eg_at G q) 0 = some (.ref bb)) (k_bb : K bb = some 6) (hdn : dn G 15 lo hi bb f) (hTb : tbP G q f) (hcl : fcl f) (h4 : et_pl (eg_at G th) 4 = some (.ref fo)) (k_fo : K fo = some 4) (ha : odN f v z m = a) (hm : m ≤ 65536) : et_go none (d + 20) 130 19 [some (.ref th), some (.ref e), some (.ref q), some (.int z), some (.int (Int32.ofNat a)), some (.int (Int32.ofNat m)), x6] [] G ck sk (fun u => u.1 = .inl (some (.int (Int32.ofNat (odN f v z 65536))))) := by
  have k_e := t9.1.1
  induction hq9 : 65536 - m using Nat.strongRecOn generalizing m a G x6 with
  | _ q9 ih =>
    have hle := odN_le (f := f) (v := v) (z := z) m
    have lt_th := (hH.2.2 _ _ k_th).1
    have lt_e := (hH.2.2 _ _ k_e).1
    have lt_q := (hH.2.2 _ _ k_q).1
    have lt_fo := (hH.2.2 _ _ k_fo).1
    have lt_bb := (hH.2.2 _ _ k_bb).1
    refine hs_iload (i := 5) (p := 21) (by decide +kernel) rfl ?_
    refine hs_kld (v := Value.int (Int32.ofNat 65536)) (p := 24) (by decide +kernel) ?_
    refine hs_br2n (c := .ge) (t := 81) (f := 27) (by decide +kernel) (by omega) (by omega) (fun (c24 : 65536 ≤ m) => ?_) (fun (c24 : ¬ (65536 ≤ m)) => ?_)
    · refine hs_iload (i := 4) (p := 83) (by decide +kernel) rfl ?_
      refine hs_iret (by decide +kernel) ?_
      obtain rfl : m = 65536 := by omega
      rw [ha]
    · refine hs_iload (i := 3) (p := 28) (by decide +kernel) rfl ?_
      refine hs_k (x := (-1)) (p := 29) (by decide +kernel) ?_
      refine hs_br2 (c := .eq) (t := 41) (f := 32) (by decide +kernel) (fun (c29 : z = (-1)) => ?_) (fun (c29 : ¬ (z = (-1))) => ?_)
      · refine hs_k (x := Int32.ofNat 1) (p := 42) (by decide +kernel) ?_
        refine hs_goto (p := 46) (by decide +kernel) ?_
        refine hs_istore (i := 6) (p := 48) (by decide +kernel) (Nat.le_of_ble_eq_true rfl) ?_
        refine hs_iload (i := 6) (p := 50) (by decide +kernel) rfl ?_
        refine hs_if0 (c := .eq) (t := 75) (f := 53) (by decide +kernel) (show ¬ (Int32.ofNat 1 = 0) by decide) ?_
        refine hs_aload (i := 1) (p := 54) (by decide +kernel) rfl ?_
        refine hs_iload (i := 5) (p := 56) (by decide +kernel) rfl ?_
        refine ht_callv (T := et_TT) (t := 3) (mi := 32) (na := 1) (ci := 1) (lk := 7) (lm := 2) (L0 := eg_en (eg_mL 32) [.ref e, .int (Int32.ofNat m)]) (by decide +kernel) rfl hH k_e rfl rfl rfl rfl rfl (by rw [show eg_mL 32 = 2 from by decide +kernel]; first | done | rfl) ?_
        refine (fd_says hH t9 hv (by omega)).mono (fun u hu => xp_cb hu ?_)
        by_cases q1 : v.2.2.2.2.1 < suN v.2.1 v.2.2.1 v.2.2.2.1 (Int32.ofNat m) v.1
        · rw [if_pos q1]
          show et_go none _ 130 59 _ [.int (Int32.ofNat 1)] _ _ _ _
          refine hs_aload (i := 2) (p := 60) (by decide +kernel) rfl ?_
          refine hs_iload (i := 5) (p := 62) (by decide +kernel) rfl ?_
          refine hs_aload (i := 0) (p := 63) (by decide +kernel) rfl ?_
          refine hf_get (T := et_TT) (t := 12) (ci := 10) (f := 4) (p := 66) (by decide +kernel) rfl hH k_th h4 ?_
          have hHo := hH
          refine ht_callv (T := et_TT) (t := 8) (mi := 87) (na := 2) (ci := 6) (lk := 7) (lm := 3) (L0 := eg_en (eg_mL 87) [.ref q, .int (Int32.ofNat m), .ref fo]) (by decide +kernel) rfl hH k_q rfl rfl rfl rfl rfl (by rw [show eg_mL 87 = 3 from by decide +kernel]; first | done | rfl) ?_
          refine (fx_tellB hH k_q q0 k_bb hdn hTb hcl k_fo (by omega) (by omega)).mono (fun u hu => xw_cb hu (fun G66 v66 hH x66 hP66 => ?_))
          have hdn := hdn.k6 hHo (n6.xs hHo x66 (fun b j h => by rw [h.1, k_fo]; decide)) k_bb
          have hTb := hTb.xs hHo k_q x66 (fun hs => hi_ne k_q k_fo (by decide) hs.1) (fun b j hs => by rw [hs.1, k_fo]; decide)
          have hv : evc G66 e ca ki kn v := evC.xs hv t9 hHo x66 (fun b j h => by rw [h.1, k_fo]; exact ⟨by decide, by decide⟩)
          have q0 := (x66.2 q 0 lt_q (fun h => (hi_ne k_q k_fo (by decide)) h.1)).trans q0
          have h4 := (x66.2 th 4 lt_th (fun h => (hi_ne k_th k_fo (by decide)) h.1)).trans h4
          have lt_th := Nat.lt_of_lt_of_le lt_th x66.1
          have lt_e := Nat.lt_of_lt_of_le lt_e x66.1
          have lt_q := Nat.lt_of_lt_of_le lt_q x66.1
          have lt_fo := Nat.lt_of_lt_of_le lt_fo x66.1
          have lt_bb := Nat.lt_of_lt_of_le lt_bb x66.1
          rcases hP66 with ⟨qs, rfl⟩ | ⟨qs, rfl⟩
          · show et_go none _ 130 69 _ [.int (Int32.ofNat 1), .int (Int32.ofNat 1)] _ _ _ _
            refine hs_br2n (c := .ne) (t := 75) (f := 72) (by decide +kernel) (by omega) (by omega) (fun h => absurd h (show ¬ (¬ 1 = 1) by decide)) (fun _ => ?_)
            refine hs_iinc1 (i := 4) (p := 75) (by decide +kernel) rfl (Nat.le_of_ble_eq_true rfl) ?_
            refine hs_iinc1 (i := 5) (p := 78) (by decide +kernel) rfl (Nat.le_of_ble_eq_true rfl) ?_
            refine hs_goto (p := 19) (by decide +kernel) ?_
            have e9 : odN f v z (m + 1) = a + 1 := by rw [odN_y (f := f) (v := v) (z := z) (m := m) (b := true) (.inl c29) (decide_eq_true q1) qs, ha]
            exact ih (65536 - (m + 1)) (by omega) hH hv q0 hdn hTb h4 e9 (by omega) rfl
          · show et_go none _ 130 69 _ [.int (Int32.ofNat 0), .int (Int32.ofNat 1)] _ _ _ _
            refine hs_br2n (c := .ne) (t := 75) (f := 72) (by decide +kernel) (by omega) (by omega) (fun _ => ?_) (fun h => absurd (show ¬ 1 = 0 by decide) h)
            refine hs_iinc1 (i := 5) (p := 78) (by decide +kernel) rfl (Nat.le_of_ble_eq_true rfl) ?_
            refine hs_goto (p := 19) (by decide +kernel) ?_
            have e9 := (odN_n (f := f) (v := v) (z := z) (m := m) (b := true) (decide_eq_true q1) qs).trans ha
            exact ih (65536 - (m + 1)) (by omega) hH hv q0 hdn hTb h4 e9 (by omega) rfl
        · rw [if_neg q1]
          show et_go none _ 130 59 _ [.int (Int32.ofNat 0)] _ _ _ _
          refine hs_aload (i := 2) (p := 60) (by decide +kernel) rfl ?_
          refine hs_iload (i := 5) (p := 62) (by decide +kernel) rfl ?_
          refine hs_aload (i := 0) (p := 63) (by decide +kernel) rfl ?_
          refine hf_get (T := et_TT) (t := 12) (ci := 10) (f := 4) (p := 66) (by decide +kernel) rfl hH k_th h4 ?_
          have hHo := hH
          refine ht_callv (T := et_TT) (t := 8) (mi := 87) (na := 2) (ci := 6) (lk := 7) (lm := 3) (L0 := eg_en (eg_mL 87) [.ref q, .int (Int32.ofNat m), .ref fo]) (by decide +kernel) rfl hH k_q rfl rfl rfl rfl rfl (by rw [show eg_mL 87 = 3 from by decide +kernel]; first | done | rfl) ?_
          refine (fx_tellB hH k_q q0 k_bb hdn hTb hcl k_fo (by omega) (by omega)).mono (fun u hu => xw_cb hu (fun G66 v66 hH x66 hP66 => ?_))
          have hdn := hdn.k6 hHo (n6.xs hHo x66 (fun b j h => by rw [h.1, k_fo]; decide)) k_bb
          have hTb := hTb.xs hHo k_q x66 (fun hs => hi_ne k_q k_fo (by decide) hs.1) (fun b j hs => by rw [hs.1, k_fo]; decide)
          have hv : evc G66 e ca ki kn v := evC.xs hv t9 hHo x66 (fun b j h => by rw [h.1, k_fo]; exact ⟨by decide, by decide⟩)
          have q0 := (x66.2 q 0 lt_q (fun h => (hi_ne k_q k_fo (by decide)) h.1)).trans q0
          have h4 := (x66.2 th 4 lt_th (fun h => (hi_ne k_th k_fo (by decide)) h.1)).trans h4
          have lt_th := Nat.lt_of_lt_of_le lt_th x66.1
          have lt_e := Nat.lt_of_lt_of_le lt_e x66.1
          have lt_q := Nat.lt_of_lt_of_le lt_q x66.1
          have lt_fo := Nat.lt_of_lt_of_le lt_fo x66.1
          have lt_bb := Nat.lt_of_lt_of_le lt_bb x66.1
          rcases hP66 with ⟨qs, rfl⟩ | ⟨qs, rfl⟩
          · show et_go none _ 130 69 _ [.int (Int32.ofNat 1), .int (Int32.ofNat 0)] _ _ _ _
            refine hs_br2n (c := .ne) (t := 75) (f := 72) (by decide +kernel) (by omega) (by omega) (fun _ => ?_) (fun h => absurd (show ¬ 0 = 1 by decide) h)
            refine hs_iinc1 (i := 5) (p := 78) (by decide +kernel) rfl (Nat.le_of_ble_eq_true rfl) ?_
            refine hs_goto (p := 19) (by decide +kernel) ?_
            have e9 := (odN_n (f := f) (v := v) (z := z) (m := m) (b := false) (decide_eq_false q1) qs).trans ha
            exact ih (65536 - (m + 1)) (by omega) hH hv q0 hdn hTb h4 e9 (by omega) rfl
          · show et_go none _ 130 69 _ [.int (Int32.ofNat 0), .int (Int32.ofNat 0)] _ _ _ _
            refine hs_br2n (c := .ne) (t := 75) (f := 72) (by decide +kernel) (by omega) (by omega) (fun h => absurd h (show ¬ (¬ 0 = 0) by decide)) (fun _ => ?_)
            refine hs_iinc1 (i := 4) (p := 75) (by decide +kernel) rfl (Nat.le_of_ble_eq_true rfl) ?_
            refine hs_iinc1 (i := 5) (p := 78) (by decide +kernel) rfl (Nat.le_of_ble_eq_true rfl) ?_
            refine hs_goto (p := 19) (by decide +kernel) ?_
            have e9 : odN f v z (m + 1) = a + 1 := by rw [odN_y (f := f) (v := v) (z := z) (m := m) (b := false) (.inl c29) (decide_eq_false q1) qs, ha]
            exact ih (65536 - (m + 1)) (by omega) hH hv q0 hdn hTb h4 e9 (by omega) rfl
      · refine hs_iload (i := 5) (p := 34) (by decide +kernel) rfl ?_
        refine hs_calls (mi := 305) (na := 1) (lk := 7) (lm := 1) (L0 := eg_en (eg_mL 305) [.int (Int32.ofNat m)]) (by decide +kernel) rfl rfl rfl rfl rfl rfl (by rw [show eg_mL 305 = 1 from by decide +kernel]; first | done | rfl) ?_
        refine (fx_bc (x := Int32.ofNat m)).mono (fun u hu => xp_cb hu ?_)
        show et_go none _ 130 37 _ [.int (rp_bc (Int32.ofNat m))] _ _ _ _
        refine hs_iload (i := 3) (p := 38) (by decide +kernel) rfl ?_
        refine hs_br2 (c := .ne) (t := 45) (f := 41) (by decide +kernel) (fun (c38 : ¬ (rp_bc (Int32.ofNat m)) = z) => ?_) (fun (c38 : ¬ (¬ (rp_bc (Int32.ofNat m)) = z)) => ?_)
        · refine hs_k (x := Int32.ofNat 0) (p := 46) (by decide +kernel) ?_
          refine hs_istore (i := 6) (p := 48) (by decide +kernel) (Nat.le_of_ble_eq_true rfl) ?_
          refine hs_iload (i := 6) (p := 50) (by decide +kernel) rfl ?_
          refine hs_if1 (c := .eq) (t := 75) (f := 53) (by decide +kernel) (show Int32.ofNat 0 = 0 by decide) ?_
          refine hs_iinc1 (i := 5) (p := 78) (by decide +kernel) rfl (Nat.le_of_ble_eq_true rfl) ?_
          refine hs_goto (p := 19) (by decide +kernel) ?_
          have e9 := (odN_s (f := f) (v := v) (z := z) (m := m) (fun h => h.elim c29 c38)).trans ha
          exact ih (65536 - (m + 1)) (by omega) hH hv q0 hdn hTb h4 e9 (by omega) rfl
        · refine hs_k (x := Int32.ofNat 1) (p := 42) (by decide +kernel) ?_
          refine hs_goto (p := 46) (by decide +kernel) ?_
          refine hs_istore (i := 6) (p := 48) (by decide +kernel) (Nat.le_of_ble_eq_true rfl) ?_
          refine hs_iload (i := 6) (p := 50) (by decide +kernel) rfl ?_
          refine hs_if0 (c := .eq) (t := 75) (f := 53) (by decide +kernel) (show ¬ (Int32.ofNat 1 = 0) by decide) ?_
          refine hs_aload (i := 1) (p := 54) (by decide +kernel) rfl ?_
          refine hs_iload (i := 5) (p := 56) (by decide +kernel) rfl ?_
          refine ht_callv (T := et_TT) (t := 3) (mi := 32) (na := 1) (ci := 1) (lk := 7) (lm := 2) (L0 := eg_en (eg_mL 32) [.ref e, .int (Int32.ofNat m)]) (by decide +kernel) rfl hH k_e rfl rfl rfl rfl rfl (by rw [show eg_mL 32 = 2 from by decide +kernel]; first | done | rfl) ?_
          refine (fd_says hH t9 hv (by omega)).mono (fun u hu => xp_cb hu ?_)
          by_cases q1 : v.2.2.2.2.1 < suN v.2.1 v.2.2.1 v.2.2.2.1 (Int32.ofNat m) v.1
          · rw [if_pos q1]
            show et_go none _ 130 59 _ [.int (Int32.ofNat 1)] _ _ _ _
            refine hs_aload (i := 2) (p := 60) (by decide +kernel) rfl ?_
            refine hs_iload (i := 5) (p := 62) (by decide +kernel) rfl ?_
            refine hs_aload (i := 0) (p := 63) (by decide +kernel) rfl ?_
            refine hf_get (T := et_TT) (t := 12) (ci := 10) (f := 4) (p := 66) (by decide +kernel) rfl hH k_th h4 ?_
            have hHo := hH
            refine ht_callv (T := et_TT) (t := 8) (mi := 87) (na := 2) (ci := 6) (lk := 7) (lm := 3) (L0 := eg_en (eg_mL 87) [.ref q, .int (Int32.ofNat m), .ref fo]) (by decide +kernel) rfl hH k_q rfl rfl rfl rfl rfl (by rw [show eg_mL 87 = 3 from by decide +kernel]; first | done | rfl) ?_
            refine (fx_tellB hH k_q q0 k_bb hdn hTb hcl k_fo (by omega) (by omega)).mono (fun u hu => xw_cb hu (fun G66 v66 hH x66 hP66 => ?_))
            have hdn := hdn.k6 hHo (n6.xs hHo x66 (fun b j h => by rw [h.1, k_fo]; decide)) k_bb
            have hTb := hTb.xs hHo k_q x66 (fun hs => hi_ne k_q k_fo (by decide) hs.1) (fun b j hs => by rw [hs.1, k_fo]; decide)
            have hv : evc G66 e ca ki kn v := evC.xs hv t9 hHo x66 (fun b j h => by rw [h.1, k_fo]; exact ⟨by decide, by decide⟩)
            have q0 := (x66.2 q 0 lt_q (fun h => (hi_ne k_q k_fo (by decide)) h.1)).trans q0
            have h4 := (x66.2 th 4 lt_th (fun h => (hi_ne k_th k_fo (by decide)) h.1)).trans h4
            have lt_th := Nat.lt_of_lt_of_le lt_th x66.1
            have lt_e := Nat.lt_of_lt_of_le lt_e x66.1
            have lt_q := Nat.lt_of_lt_of_le lt_q x66.1
            have lt_fo := Nat.lt_of_lt_of_le lt_fo x66.1
            have lt_bb := Nat.lt_of_lt_of_le lt_bb x66.1
            rcases hP66 with ⟨qs, rfl⟩ | ⟨qs, rfl⟩
            · show et_go none _ 130 69 _ [.int (Int32.ofNat 1), .int (Int32.ofNat 1)] _ _ _ _
              refine hs_br2n (c := .ne) (t := 75) (f := 72) (by decide +kernel) (by omega) (by omega) (fun h => absurd h (show ¬ (¬ 1 = 1) by decide)) (fun _ => ?_)
              refine hs_iinc1 (i := 4) (p := 75) (by decide +kernel) rfl (Nat.le_of_ble_eq_true rfl) ?_
              refine hs_iinc1 (i := 5) (p := 78) (by decide +kernel) rfl (Nat.le_of_ble_eq_true rfl) ?_
              refine hs_goto (p := 19) (by decide +kernel) ?_
              have e9 : odN f v z (m + 1) = a + 1 := by rw [odN_y (f := f) (v := v) (z := z) (m := m) (b := true) (.inr (Decidable.of_not_not c38)) (decide_eq_true q1) qs, ha]
              exact ih (65536 - (m + 1)) (by omega) hH hv q0 hdn hTb h4 e9 (by omega) rfl
            · show et_go none _ 130 69 _ [.int (Int32.ofNat 0), .int (Int32.ofNat 1)] _ _ _ _
              refine hs_br2n (c := .ne) (t := 75) (f := 72) (by decide +kernel) (by omega) (by omega) (fun _ => ?_) (fun h => absurd (show ¬ 1 = 0 by decide) h)
              refine hs_iinc1 (i := 5) (p := 78) (by decide +kernel) rfl (Nat.le_of_ble_eq_true rfl) ?_
              refine hs_goto (p := 19) (by decide +kernel) ?_
              have e9 := (odN_n (f := f) (v := v) (z := z) (m := m) (b := true) (decide_eq_true q1) qs).trans ha
              exact ih (65536 - (m + 1)) (by omega) hH hv q0 hdn hTb h4 e9 (by omega) rfl
          · rw [if_neg q1]
            show et_go none _ 130 59 _ [.int (Int32.ofNat 0)] _ _ _ _
            refine hs_aload (i := 2) (p := 60) (by decide +kernel) rfl ?_
            refine hs_iload (i := 5) (p := 62) (by decide +kernel) rfl ?_
            refine hs_aload (i := 0) (p := 63) (by decide +kernel) rfl ?_
            refine hf_get (T := et_TT) (t := 12) (ci := 10) (f := 4) (p := 66) (by decide +kernel) rfl hH k_th h4 ?_
            have hHo := hH
            refine ht_callv (T := et_TT) (t := 8) (mi := 87) (na := 2) (ci := 6) (lk := 7) (lm := 3) (L0 := eg_en (eg_mL 87) [.ref q, .int (Int32.ofNat m), .ref fo]) (by decide +kernel) rfl hH k_q rfl rfl rfl rfl rfl (by rw [show eg_mL 87 = 3 from by decide +kernel]; first | done | rfl) ?_
            refine (fx_tellB hH k_q q0 k_bb hdn hTb hcl k_fo (by omega) (by omega)).mono (fun u hu => xw_cb hu (fun G66 v66 hH x66 hP66 => ?_))
            have hdn := hdn.k6 hHo (n6.xs hHo x66 (fun b j h => by rw [h.1, k_fo]; decide)) k_bb
            have hTb := hTb.xs hHo k_q x66 (fun hs => hi_ne k_q k_fo (by decide) hs.1) (fun b j hs => by rw [hs.1, k_fo]; decide)
            have hv : evc G66 e ca ki kn v := evC.xs hv t9 hHo x66 (fun b j h => by rw [h.1, k_fo]; exact ⟨by decide, by decide⟩)
            have q0 := (x66.2 q 0 lt_q (fun h => (hi_ne k_q k_fo (by decide)) h.1)).trans q0
            have h4 := (x66.2 th 4 lt_th (fun h => (hi_ne k_th k_fo (by decide)) h.1)).trans h4
            have lt_th := Nat.lt_of_lt_of_le lt_th x66.1
            have lt_e := Nat.lt_of_lt_of_le lt_e x66.1
            have lt_q := Nat.lt_of_lt_of_le lt_q x66.1
            have lt_fo := Nat.lt_of_lt_of_le lt_fo x66.1
            have lt_bb := Nat.lt_of_lt_of_le lt_bb x66.1
            rcases hP66 with ⟨qs, rfl⟩ | ⟨qs, rfl⟩
            · show et_go none _ 130 69 _ [.int (Int32.ofNat 1), .int (Int32.ofNat 0)] _ _ _ _
              refine hs_br2n (c := .ne) (t := 75) (f := 72) (by decide +kernel) (by omega) (by omega) (fun _ => ?_) (fun h => absurd (show ¬ 0 = 1 by decide) h)
              refine hs_iinc1 (i := 5) (p := 78) (by decide +kernel) rfl (Nat.le_of_ble_eq_true rfl) ?_
              refine hs_goto (p := 19) (by decide +kernel) ?_
              have e9 := (odN_n (f := f) (v := v) (z := z) (m := m) (b := false) (decide_eq_false q1) qs).trans ha
              exact ih (65536 - (m + 1)) (by omega) hH hv q0 hdn hTb h4 e9 (by omega) rfl
            · show et_go none _ 130 69 _ [.int (Int32.ofNat 0), .int (Int32.ofNat 0)] _ _ _ _
              refine hs_br2n (c := .ne) (t := 75) (f := 72) (by decide +kernel) (by omega) (by omega) (fun h => absurd h (show ¬ (¬ 0 = 0) by decide)) (fun _ => ?_)
              refine hs_iinc1 (i := 4) (p := 75) (by decide +kernel) rfl (Nat.le_of_ble_eq_true rfl) ?_
              refine hs_iinc1 (i := 5) (p := 78) (by decide +kernel) rfl (Nat.le_of_ble_eq_true rfl) ?_
              refine hs_goto (p := 19) (by decide +kernel) ?_
              have e9 : odN f v z (m + 1) = a + 1 := by rw [odN_y (f := f) (v := v) (z := z) (m := m) (b := false) (.inr (Decidable.of_not_not c38)) (decide_eq_false q1) qs, ha]
              exact ih (65536 - (m + 1)) (by omega) hH hv q0 hdn hTb h4 e9 (by omega) rfl
theorem fc_od (hH : et_H et_TT K G) (k_th : K th = some 12) (t9 : evK K e ca ki kn v.1 v.2.2.1) (hv : evc G e ca ki kn v) (k_q : K q = some 8) (q0 : et_pl (eg_at G q) 0 = some (.ref bb)) (k_bb : K bb = some 6) (hdn : dn G 15 lo hi bb f) (hTb : tbP G q f) (hcl : fcl f) (h4 : et_pl (eg_at G th) 4 = some (.ref fo)) (k_fo : K fo = some 4) (hd : 20 ≤ d2) : et_go none d2 130 0 (eg_en (eg_mL 130) [.ref th, .ref e, .ref q, .int z]) [] G 0 0 (fun u => u.1 = .inl (some (.int (Int32.ofNat (odN f v z 65536))))) := by
  obtain ⟨d, rfl⟩ : ∃ d, d2 = d + 20 := ⟨d2 - 20, by omega⟩
  have k_e := t9.1.1
  rw [show eg_mL 130 = 7 from by decide +kernel]
  show et_go none (d + 20) 130 0 [some (.ref th), some (.ref e), some (.ref q), some (.int z), none, none, none] [] G 0 0 _
  have lt_th := (hH.2.2 _ _ k_th).1
  have lt_e := (hH.2.2 _ _ k_e).1
  have lt_q := (hH.2.2 _ _ k_q).1
  have lt_fo := (hH.2.2 _ _ k_fo).1
  have lt_bb := (hH.2.2 _ _ k_bb).1
  refine hs_iload (i := 3) (p := 1) (by decide +kernel) rfl ?_
  refine hs_k (x := (-1)) (p := 2) (by decide +kernel) ?_
  refine hs_br2 (c := .ne) (t := 13) (f := 5) (by decide +kernel) (fun (c2 : ¬ z = (-1)) => ?_) (fun (c2 : ¬ (¬ z = (-1))) => ?_)
  · refine hs_k (x := Int32.ofNat 0) (p := 14) (by decide +kernel) ?_
    refine hs_istore (i := 4) (p := 16) (by decide +kernel) (Nat.le_of_ble_eq_true rfl) ?_
    refine hs_k (x := Int32.ofNat 0) (p := 17) (by decide +kernel) ?_
    refine hs_istore (i := 5) (p := 19) (by decide +kernel) (Nat.le_of_ble_eq_true rfl) ?_
    exact fc_odL (m := 0) (a := 0) hH k_th t9 hv k_q q0 k_bb hdn hTb hcl h4 k_fo rfl (Nat.zero_le _)
  · refine hs_aload (i := 2) (p := 6) (by decide +kernel) rfl ?_
    refine hs_aload (i := 0) (p := 7) (by decide +kernel) rfl ?_
    refine hf_get (T := et_TT) (t := 12) (ci := 10) (f := 4) (p := 10) (by decide +kernel) rfl hH k_th h4 ?_
    obtain ⟨F, hF⟩ := foR_of hH k_fo
    refine ht_callv (T := et_TT) (t := 8) (mi := 86) (na := 1) (ci := 6) (lk := 7) (lm := 4) (L0 := eg_en (eg_mL 86) [.ref q, .ref fo]) (by decide +kernel) rfl hH k_q rfl rfl rfl rfl rfl (by rw [show eg_mL 86 = 4 from by decide +kernel]; first | done | rfl) ?_
    refine (fx_ready hH k_q q0 k_bb hdn hTb hF hcl (by omega)).mono (fun u hu => ?_)
    obtain ⟨K1, G1, c1, s1, rfl, hx1, hH1, x1, hTb1⟩ := hu
    have hS : ∀ a9 t9, K a9 = some t9 → ¬ t9 = 4 → ¬ t9 = 8 → ∀ j, ¬ ((a9 = fo ∧ j = 0) ∨ (a9 = q ∧ j = 1)) := fun a9 t9 ha9 n4 n8 j hs => by
      rcases hs with hs | hs
      · exact hi_ne ha9 k_fo n4 hs.1
      · exact hi_ne ha9 k_q n8 hs.1
    have q01 := (x1.2 q 0 lt_q (fun hs => by
      rcases hs with hs | hs
      · exact hi_ne k_q k_fo (by decide) hs.1
      · exact absurd hs.2 (by decide))).trans q0
    have h41 := (x1.2 th 4 lt_th (hS th 12 k_th (by decide) (by decide) 4)).trans h4
    have hdn1 := hdn.k6 hH (n6.xs hH x1 (fun b j hs => by
      rcases hs with hs | hs
      · rw [hs.1, k_fo]; decide
      · rw [hs.1, k_q]; decide)) k_bb
    have hv1 : evc G1 e ca ki kn v := evC.xs hv t9 hH x1 (fun b j hs => by
      rcases hs with hs | hs
      · rw [hs.1, k_fo]; exact ⟨by decide, by decide⟩
      · rw [hs.1, k_q]; exact ⟨by decide, by decide⟩)
    refine hs_cb ?_
    show et_go none _ 130 13 _ [] _ _ _ _
    refine hs_k (x := Int32.ofNat 0) (p := 14) (by decide +kernel) ?_
    refine hs_istore (i := 4) (p := 16) (by decide +kernel) (Nat.le_of_ble_eq_true rfl) ?_
    refine hs_k (x := Int32.ofNat 0) (p := 17) (by decide +kernel) ?_
    refine hs_istore (i := 5) (p := 19) (by decide +kernel) (Nat.le_of_ble_eq_true rfl) ?_
    exact fc_odL (m := 0) (a := 0) hH1 (hx1 _ _ k_th) (t9.ex hx1) hv1 (hx1 _ _ k_q) q01 (hx1 _ _ k_bb) hdn1 hTb1 hcl h41 (hx1 _ _ k_fo) rfl (Nat.zero_le _)
theorem fd_od (hH : et_H et_TT K G) (k_th : K th = some 12) (h0 : et_pl (eg_at G th) 0 = some (.ref s0)) (k_s0 : K s0 = some 10) (h5 : et_pl (eg_at G s0) 5 = some (.int (Int32.ofNat ec))) (hec : ec ≤ 3) (h6 : et_pl (eg_at G s0) 6 = some (.ref ya)) (k_ya : K ya = some 40) (hn : n < ec) (hE : et_pl (eg_at G ya) n = some (.ref e)) (t9 : evK K e ca ki kn v.1 v.2.2.1) (hv : evc G e ca ki kn v) (r0 : et_pl (eg_at G s0) 0 = some (.int (Int32.ofNat rc))) (hrc : rc ≤ 4) (r1 : et_pl (eg_at G s0) 1 = some (.ref ra)) (k_ra : K ra = some 37) (hr : r < rc) (hR : et_pl (eg_at G ra) r = some (.ref q)) (k_q : K q = some 8) (q0 : et_pl (eg_at G q) 0 = some (.ref bb)) (k_bb : K bb = some 6) (hdn : dn G 15 lo hi bb f) (hTb : tbP G q f) (hcl : fcl f) (h4 : et_pl (eg_at G th) 4 = some (.ref fo)) (k_fo : K fo = some 4) (hz : (-1 ≤ z.toInt ∧ z.toInt ≤ 16)) (hd : 21 ≤ d2) : et_go none d2 159 0 (eg_en (eg_mL 159) [.ref th, .int (Int32.ofNat n), .int (Int32.ofNat r), .int z]) [] G 0 0 (fun u => u.1 = .inl (some (.int (Int32.ofNat (odN f v z 65536))))) := by
  obtain ⟨d, rfl⟩ : ∃ d, d2 = d + 21 := ⟨d2 - 21, by omega⟩
  have o1 : (-1 : Int32).toInt = -1 := rfl
  have o16 : (Int32.ofNat 16).toInt = 16 := rfl
  rw [show eg_mL 159 = 6 from by decide +kernel]
  show et_go none (d + 21) 159 0 [some (.ref th), some (.int (Int32.ofNat n)), some (.int (Int32.ofNat r)), some (.int z), none, none] [] G 0 0 _
  have lt_th := (hH.2.2 _ _ k_th).1
  have lt_s0 := (hH.2.2 _ _ k_s0).1
  have lt_ya := (hH.2.2 _ _ k_ya).1
  have lt_ra := (hH.2.2 _ _ k_ra).1
  refine hs_aload (i := 0) (p := 1) (by decide +kernel) rfl ?_
  refine hs_iload (i := 1) (p := 2) (by decide +kernel) rfl ?_
  refine ht_callv (T := et_TT) (t := 12) (mi := 128) (na := 1) (ci := 10) (lk := 6) (lm := 2) (L0 := eg_en (eg_mL 128) [.ref th, .int (Int32.ofNat n)]) (by decide +kernel) rfl hH k_th rfl rfl rfl rfl rfl (by rw [show eg_mL 128 = 2 from by decide +kernel]; first | done | rfl) ?_
  refine (fd_needE hH k_th h0 k_s0 h5 hec h6 k_ya hn hE).mono (fun u hu => xp_cb hu ?_)
  show et_go none _ 159 5 _ [.ref e] _ _ _ _
  refine hs_astore (i := 4) (p := 7) (by decide +kernel) (Nat.le_of_ble_eq_true rfl) ?_
  refine hs_aload (i := 0) (p := 8) (by decide +kernel) rfl ?_
  refine hs_iload (i := 2) (p := 9) (by decide +kernel) rfl ?_
  refine ht_callv (T := et_TT) (t := 12) (mi := 129) (na := 1) (ci := 10) (lk := 6) (lm := 2) (L0 := eg_en (eg_mL 129) [.ref th, .int (Int32.ofNat r)]) (by decide +kernel) rfl hH k_th rfl rfl rfl rfl rfl (by rw [show eg_mL 129 = 2 from by decide +kernel]; first | done | rfl) ?_
  refine (fd_needQ hH k_th h0 k_s0 r0 hrc r1 k_ra hr hR).mono (fun u hu => xp_cb hu ?_)
  show et_go none _ 159 12 _ [.ref q] _ _ _ _
  refine hs_astore (i := 5) (p := 14) (by decide +kernel) (Nat.le_of_ble_eq_true rfl) ?_
  refine hs_iload (i := 3) (p := 15) (by decide +kernel) rfl ?_
  refine hs_k (x := (-1)) (p := 16) (by decide +kernel) ?_
  refine hs_br2 (c := .lt) (t := 25) (f := 19) (by decide +kernel) (fun (c16 : z < (-1)) => ?_) (fun (c16 : ¬ (z < (-1))) => ?_)
  · exact absurd (Int32.lt_iff_toInt_lt.mp c16) (by omega)
  · refine hs_iload (i := 3) (p := 20) (by decide +kernel) rfl ?_
    refine hs_k (x := Int32.ofNat 16) (p := 22) (by decide +kernel) ?_
    refine hs_br2 (c := .le) (t := 33) (f := 25) (by decide +kernel) (fun (c22 : z ≤ Int32.ofNat 16) => ?_) (fun (c22 : ¬ (z ≤ Int32.ofNat 16)) => ?_)
    · refine hs_aload (i := 0) (p := 34) (by decide +kernel) rfl ?_
      refine hs_aload (i := 4) (p := 36) (by decide +kernel) rfl ?_
      refine hs_aload (i := 5) (p := 38) (by decide +kernel) rfl ?_
      refine hs_iload (i := 3) (p := 39) (by decide +kernel) rfl ?_
      refine ht_callv (T := et_TT) (t := 12) (mi := 130) (na := 3) (ci := 10) (lk := 6) (lm := 7) (L0 := eg_en (eg_mL 130) [.ref th, .ref e, .ref q, .int z]) (by decide +kernel) rfl hH k_th rfl rfl rfl rfl rfl (by rw [show eg_mL 130 = 7 from by decide +kernel]; first | done | rfl) ?_
      refine (fc_od hH k_th t9 hv k_q q0 k_bb hdn hTb hcl h4 k_fo (by omega)).mono (fun u hu => ?_)
      obtain ⟨u1, u2, u3, u4⟩ := u
      have hu : u1 = .inl (some (.int (Int32.ofNat (odN f v z 65536)))) := hu
      subst hu
      refine hs_cb ?_
      show et_go none _ 159 42 _ [.int (Int32.ofNat (odN f v z 65536))] _ _ _ _
      refine hs_iret (by decide +kernel) ?_
      rfl
    · exact absurd (Int32.not_le.mp c22) (fun h => by have h := Int32.lt_iff_toInt_lt.mp h; omega)
theorem fd_odZ (hH : et_H et_TT K G) (k_th : K th = some 12) (h0 : et_pl (eg_at G th) 0 = some (.ref s0)) (k_s0 : K s0 = some 10) (h5 : et_pl (eg_at G s0) 5 = some (.int (Int32.ofNat ec))) (hec : ec ≤ 3) (h6 : et_pl (eg_at G s0) 6 = some (.ref ya)) (k_ya : K ya = some 40) (hn : n < ec) (hE : et_pl (eg_at G ya) n = some (.ref e)) (r0 : et_pl (eg_at G s0) 0 = some (.int (Int32.ofNat rc))) (hrc : rc ≤ 4) (r1 : et_pl (eg_at G s0) 1 = some (.ref ra)) (k_ra : K ra = some 37) (hr : r < rc) (hR : et_pl (eg_at G ra) r = some (.ref q)) (hz : ¬ (-1 ≤ z.toInt ∧ z.toInt ≤ 16)) (hd : 20 ≤ d2) : et_go none d2 159 0 (eg_en (eg_mL 159) [.ref th, .int (Int32.ofNat n), .int (Int32.ofNat r), .int z]) [] G 0 0 (ix_Z 0 G) := by
  obtain ⟨d, rfl⟩ : ∃ d, d2 = d + 20 := ⟨d2 - 20, by omega⟩
  have o1 : (-1 : Int32).toInt = -1 := rfl
  have o16 : (Int32.ofNat 16).toInt = 16 := rfl
  rw [show eg_mL 159 = 6 from by decide +kernel]
  show et_go none (d + 20) 159 0 [some (.ref th), some (.int (Int32.ofNat n)), some (.int (Int32.ofNat r)), some (.int z), none, none] [] G 0 0 _
  have lt_th := (hH.2.2 _ _ k_th).1
  have lt_s0 := (hH.2.2 _ _ k_s0).1
  have lt_ya := (hH.2.2 _ _ k_ya).1
  have lt_ra := (hH.2.2 _ _ k_ra).1
  refine hs_aload (i := 0) (p := 1) (by decide +kernel) rfl ?_
  refine hs_iload (i := 1) (p := 2) (by decide +kernel) rfl ?_
  refine ht_callv (T := et_TT) (t := 12) (mi := 128) (na := 1) (ci := 10) (lk := 6) (lm := 2) (L0 := eg_en (eg_mL 128) [.ref th, .int (Int32.ofNat n)]) (by decide +kernel) rfl hH k_th rfl rfl rfl rfl rfl (by rw [show eg_mL 128 = 2 from by decide +kernel]; first | done | rfl) ?_
  refine (fd_needE hH k_th h0 k_s0 h5 hec h6 k_ya hn hE).mono (fun u hu => xp_cb hu ?_)
  show et_go none _ 159 5 _ [.ref e] _ _ _ _
  refine hs_astore (i := 4) (p := 7) (by decide +kernel) (Nat.le_of_ble_eq_true rfl) ?_
  refine hs_aload (i := 0) (p := 8) (by decide +kernel) rfl ?_
  refine hs_iload (i := 2) (p := 9) (by decide +kernel) rfl ?_
  refine ht_callv (T := et_TT) (t := 12) (mi := 129) (na := 1) (ci := 10) (lk := 6) (lm := 2) (L0 := eg_en (eg_mL 129) [.ref th, .int (Int32.ofNat r)]) (by decide +kernel) rfl hH k_th rfl rfl rfl rfl rfl (by rw [show eg_mL 129 = 2 from by decide +kernel]; first | done | rfl) ?_
  refine (fd_needQ hH k_th h0 k_s0 r0 hrc r1 k_ra hr hR).mono (fun u hu => xp_cb hu ?_)
  show et_go none _ 159 12 _ [.ref q] _ _ _ _
  refine hs_astore (i := 5) (p := 14) (by decide +kernel) (Nat.le_of_ble_eq_true rfl) ?_
  refine hs_iload (i := 3) (p := 15) (by decide +kernel) rfl ?_
  refine hs_k (x := (-1)) (p := 16) (by decide +kernel) ?_
  refine hs_br2 (c := .lt) (t := 25) (f := 19) (by decide +kernel) (fun (c16 : z < (-1)) => ?_) (fun (c16 : ¬ (z < (-1))) => ?_)
  · refine hs_thr (x := 0) (lk := 6) (by decide +kernel) rfl rfl ?_
    exact ⟨_, _, rfl⟩
  · refine hs_iload (i := 3) (p := 20) (by decide +kernel) rfl ?_
    refine hs_k (x := Int32.ofNat 16) (p := 22) (by decide +kernel) ?_
    refine hs_br2 (c := .le) (t := 33) (f := 25) (by decide +kernel) (fun (c22 : z ≤ Int32.ofNat 16) => ?_) (fun (c22 : ¬ (z ≤ Int32.ofNat 16)) => ?_)
    · exact absurd ⟨(by have h := Int32.not_lt.mp c16; have h := Int32.le_iff_toInt_le.mp h; omega), (by have h := Int32.le_iff_toInt_le.mp c22; omega)⟩ hz
    · refine hs_thr (x := 0) (lk := 6) (by decide +kernel) rfl rfl ?_
      exact ⟨_, _, rfl⟩
theorem fd_odR (hH : et_H et_TT K G) (k_th : K th = some 12) (h0 : et_pl (eg_at G th) 0 = some (.ref s0)) (k_s0 : K s0 = some 10) (h5 : et_pl (eg_at G s0) 5 = some (.int (Int32.ofNat ec))) (hec : ec ≤ 3) (h6 : et_pl (eg_at G s0) 6 = some (.ref ya)) (k_ya : K ya = some 40) (hn : n < ec) (hE : et_pl (eg_at G ya) n = some (.ref e)) (r0 : et_pl (eg_at G s0) 0 = some (.int (Int32.ofNat rc))) (hrc : rc ≤ 4) (r1 : et_pl (eg_at G s0) 1 = some (.ref ra)) (k_ra : K ra = some 37) (hRn : ∀ n, n < rc → ∃ q, et_pl (eg_at G ra) n = some (.ref q)) (hy : ¬ xr y rc) (hd : 20 ≤ d2) : et_go none d2 159 0 (eg_en (eg_mL 159) [.ref th, .int (Int32.ofNat n), .int y, .int z]) [] G 0 0 (ix_Z 1 G) := by
  obtain ⟨d, rfl⟩ : ∃ d, d2 = d + 20 := ⟨d2 - 20, by omega⟩
  rw [show eg_mL 159 = 6 from by decide +kernel]
  show et_go none (d + 20) 159 0 [some (.ref th), some (.int (Int32.ofNat n)), some (.int y), some (.int z), none, none] [] G 0 0 _
  have lt_th := (hH.2.2 _ _ k_th).1
  have lt_s0 := (hH.2.2 _ _ k_s0).1
  have lt_ya := (hH.2.2 _ _ k_ya).1
  have lt_ra := (hH.2.2 _ _ k_ra).1
  refine hs_aload (i := 0) (p := 1) (by decide +kernel) rfl ?_
  refine hs_iload (i := 1) (p := 2) (by decide +kernel) rfl ?_
  refine ht_callv (T := et_TT) (t := 12) (mi := 128) (na := 1) (ci := 10) (lk := 6) (lm := 2) (L0 := eg_en (eg_mL 128) [.ref th, .int (Int32.ofNat n)]) (by decide +kernel) rfl hH k_th rfl rfl rfl rfl rfl (by rw [show eg_mL 128 = 2 from by decide +kernel]; first | done | rfl) ?_
  refine (fd_needE hH k_th h0 k_s0 h5 hec h6 k_ya hn hE).mono (fun u hu => xp_cb hu ?_)
  show et_go none _ 159 5 _ [.ref e] _ _ _ _
  refine hs_astore (i := 4) (p := 7) (by decide +kernel) (Nat.le_of_ble_eq_true rfl) ?_
  refine hs_aload (i := 0) (p := 8) (by decide +kernel) rfl ?_
  refine hs_iload (i := 2) (p := 9) (by decide +kernel) rfl ?_
  refine ht_callv (T := et_TT) (t := 12) (mi := 129) (na := 1) (ci := 10) (lk := 6) (lm := 2) (L0 := eg_en (eg_mL 129) [.ref th, .int y]) (by decide +kernel) rfl hH k_th rfl rfl rfl rfl rfl (by rw [show eg_mL 129 = 2 from by decide +kernel]; first | done | rfl) ?_
  refine (fd_needQn hH k_th h0 k_s0 r0 hrc r1 k_ra hRn hy).mono (fun u hu => ?_)
  obtain ⟨c9, s9, rfl⟩ := hu
  refine hf_cx (by decide +kernel) ?_
  exact ⟨_, _, rfl⟩
theorem fd_odE (hH : et_H et_TT K G) (k_th : K th = some 12) (h0 : et_pl (eg_at G th) 0 = some (.ref s0)) (k_s0 : K s0 = some 10) (h5 : et_pl (eg_at G s0) 5 = some (.int (Int32.ofNat ec))) (hec : ec ≤ 3) (h6 : et_pl (eg_at G s0) 6 = some (.ref ya)) (k_ya : K ya = some 40) (hx : ¬ xr x ec) (hd : 20 ≤ d2) : et_go none d2 159 0 (eg_en (eg_mL 159) [.ref th, .int x, .int y, .int z]) [] G 0 0 (ix_Z 1 G) := by
  obtain ⟨d, rfl⟩ : ∃ d, d2 = d + 20 := ⟨d2 - 20, by omega⟩
  rw [show eg_mL 159 = 6 from by decide +kernel]
  show et_go none (d + 20) 159 0 [some (.ref th), some (.int x), some (.int y), some (.int z), none, none] [] G 0 0 _
  have lt_th := (hH.2.2 _ _ k_th).1
  have lt_s0 := (hH.2.2 _ _ k_s0).1
  have lt_ya := (hH.2.2 _ _ k_ya).1
  refine hs_aload (i := 0) (p := 1) (by decide +kernel) rfl ?_
  refine hs_iload (i := 1) (p := 2) (by decide +kernel) rfl ?_
  refine ht_callv (T := et_TT) (t := 12) (mi := 128) (na := 1) (ci := 10) (lk := 6) (lm := 2) (L0 := eg_en (eg_mL 128) [.ref th, .int x]) (by decide +kernel) rfl hH k_th rfl rfl rfl rfl rfl (by rw [show eg_mL 128 = 2 from by decide +kernel]; first | done | rfl) ?_
  refine (fd_needEn hH k_th h0 k_s0 h5 hec h6 k_ya hx).mono (fun u hu => ?_)
  obtain ⟨c2, s2, rfl⟩ := hu
  refine hf_cx (by decide +kernel) ?_
  exact ⟨_, _, rfl⟩
theorem fh_odZ (hH : et_H et_TT K G) (k_th : K th = some 12) (h0 : et_pl (eg_at G th) 0 = some (.ref s0)) (k_s0 : K s0 = some 10) (h5 : et_pl (eg_at G s0) 5 = some (.int (Int32.ofNat ec))) (hec : ec ≤ 3) (h6 : et_pl (eg_at G s0) 6 = some (.ref ya)) (k_ya : K ya = some 40) (hn : n < ec) (hE : et_pl (eg_at G ya) n = some (.ref e)) (r0 : et_pl (eg_at G s0) 0 = some (.int (Int32.ofNat rc))) (hrc : rc ≤ 4) (r1 : et_pl (eg_at G s0) 1 = some (.ref ra)) (k_ra : K ra = some 37) (hr : r < rc) (hR : et_pl (eg_at G ra) r = some (.ref q)) (hz : ¬ (-1 ≤ z.toInt ∧ z.toInt ≤ 16)) (hd : 21 ≤ d2) : et_go none d2 19 0 (eg_en (eg_mL 19) [.ref th, .int (Int32.ofNat n), .int (Int32.ofNat r), .int z, .ref out]) [] G 0 0 (fun u => u.1 = .inl (some (.int (Int32.ofNat 2))) ∧ u.2.1 = G) := by
  obtain ⟨d, rfl⟩ : ∃ d, d2 = d + 21 := ⟨d2 - 21, by omega⟩
  rw [show eg_mL 19 = 6 from by decide +kernel]
  show et_go none (d + 21) 19 0 [some (.ref th), some (.int (Int32.ofNat n)), some (.int (Int32.ofNat r)), some (.int z), some (.ref out), none] [] G 0 0 _
  have lt_th := (hH.2.2 _ _ k_th).1
  refine hs_aload (i := 4) (p := 2) (by decide +kernel) rfl ?_
  refine hs_k (x := Int32.ofNat 0) (p := 3) (by decide +kernel) ?_
  refine hs_aload (i := 0) (p := 4) (by decide +kernel) rfl ?_
  refine hs_iload (i := 1) (p := 5) (by decide +kernel) rfl ?_
  refine hs_iload (i := 2) (p := 6) (by decide +kernel) rfl ?_
  refine hs_iload (i := 3) (p := 7) (by decide +kernel) rfl ?_
  refine ht_callv (T := et_TT) (t := 12) (mi := 159) (na := 3) (ci := 10) (lk := 6) (lm := 6) (L0 := eg_en (eg_mL 159) [.ref th, .int (Int32.ofNat n), .int (Int32.ofNat r), .int z]) (by decide +kernel) rfl hH k_th rfl rfl rfl rfl rfl (by rw [show eg_mL 159 = 6 from by decide +kernel]; first | done | rfl) ?_
  refine (fd_odZ hH k_th h0 k_s0 h5 hec h6 k_ya hn hE r0 hrc r1 k_ra hr hR hz (by omega)).mono (fun u hu => ?_)
  obtain ⟨c7, s7, rfl⟩ := hu
  refine hs_ch (h := 19) (i := 5) (n := 2) (hh := (eg_mh 19).getD []) (by decide +kernel) ⟨by decide +kernel, by decide +kernel⟩ (Nat.le_of_ble_eq_true rfl) ?_
  show et_go none _ 19 21 [some (.ref th), some (.int (Int32.ofNat n)), some (.int (Int32.ofNat r)), some (.int z), some (.ref out), none] [] _ _ _ _
  refine hs_k (x := Int32.ofNat 2) (p := 22) (by decide +kernel) ?_
  refine hs_iret (by decide +kernel) ?_
  exact ⟨rfl, rfl⟩
theorem fh_odR (hH : et_H et_TT K G) (k_th : K th = some 12) (h0 : et_pl (eg_at G th) 0 = some (.ref s0)) (k_s0 : K s0 = some 10) (h5 : et_pl (eg_at G s0) 5 = some (.int (Int32.ofNat ec))) (hec : ec ≤ 3) (h6 : et_pl (eg_at G s0) 6 = some (.ref ya)) (k_ya : K ya = some 40) (hn : n < ec) (hE : et_pl (eg_at G ya) n = some (.ref e)) (r0 : et_pl (eg_at G s0) 0 = some (.int (Int32.ofNat rc))) (hrc : rc ≤ 4) (r1 : et_pl (eg_at G s0) 1 = some (.ref ra)) (k_ra : K ra = some 37) (hRn : ∀ n, n < rc → ∃ q, et_pl (eg_at G ra) n = some (.ref q)) (hy : ¬ xr y rc) (hd : 21 ≤ d2) : et_go none d2 19 0 (eg_en (eg_mL 19) [.ref th, .int (Int32.ofNat n), .int y, .int z, .ref out]) [] G 0 0 (fun u => u.1 = .inl (some (.int (Int32.ofNat 1))) ∧ u.2.1 = G) := by
  obtain ⟨d, rfl⟩ : ∃ d, d2 = d + 21 := ⟨d2 - 21, by omega⟩
  rw [show eg_mL 19 = 6 from by decide +kernel]
  show et_go none (d + 21) 19 0 [some (.ref th), some (.int (Int32.ofNat n)), some (.int y), some (.int z), some (.ref out), none] [] G 0 0 _
  have lt_th := (hH.2.2 _ _ k_th).1
  refine hs_aload (i := 4) (p := 2) (by decide +kernel) rfl ?_
  refine hs_k (x := Int32.ofNat 0) (p := 3) (by decide +kernel) ?_
  refine hs_aload (i := 0) (p := 4) (by decide +kernel) rfl ?_
  refine hs_iload (i := 1) (p := 5) (by decide +kernel) rfl ?_
  refine hs_iload (i := 2) (p := 6) (by decide +kernel) rfl ?_
  refine hs_iload (i := 3) (p := 7) (by decide +kernel) rfl ?_
  refine ht_callv (T := et_TT) (t := 12) (mi := 159) (na := 3) (ci := 10) (lk := 6) (lm := 6) (L0 := eg_en (eg_mL 159) [.ref th, .int (Int32.ofNat n), .int y, .int z]) (by decide +kernel) rfl hH k_th rfl rfl rfl rfl rfl (by rw [show eg_mL 159 = 6 from by decide +kernel]; first | done | rfl) ?_
  refine (fd_odR hH k_th h0 k_s0 h5 hec h6 k_ya hn hE r0 hrc r1 k_ra hRn hy (by omega)).mono (fun u hu => ?_)
  obtain ⟨c7, s7, rfl⟩ := hu
  refine hs_ch (h := 15) (i := 5) (n := 2) (hh := (eg_mh 19).getD []) (by decide +kernel) ⟨by decide +kernel, by decide +kernel⟩ (Nat.le_of_ble_eq_true rfl) ?_
  show et_go none _ 19 17 [some (.ref th), some (.int (Int32.ofNat n)), some (.int y), some (.int z), some (.ref out), none] [] _ _ _ _
  refine hs_k (x := Int32.ofNat 1) (p := 18) (by decide +kernel) ?_
  refine hs_iret (by decide +kernel) ?_
  exact ⟨rfl, rfl⟩
theorem fh_odE (hH : et_H et_TT K G) (k_th : K th = some 12) (h0 : et_pl (eg_at G th) 0 = some (.ref s0)) (k_s0 : K s0 = some 10) (h5 : et_pl (eg_at G s0) 5 = some (.int (Int32.ofNat ec))) (hec : ec ≤ 3) (h6 : et_pl (eg_at G s0) 6 = some (.ref ya)) (k_ya : K ya = some 40) (hx : ¬ xr x ec) (hd : 21 ≤ d2) : et_go none d2 19 0 (eg_en (eg_mL 19) [.ref th, .int x, .int y, .int z, .ref out]) [] G 0 0 (fun u => u.1 = .inl (some (.int (Int32.ofNat 1))) ∧ u.2.1 = G) := by
  obtain ⟨d, rfl⟩ : ∃ d, d2 = d + 21 := ⟨d2 - 21, by omega⟩
  rw [show eg_mL 19 = 6 from by decide +kernel]
  show et_go none (d + 21) 19 0 [some (.ref th), some (.int x), some (.int y), some (.int z), some (.ref out), none] [] G 0 0 _
  have lt_th := (hH.2.2 _ _ k_th).1
  refine hs_aload (i := 4) (p := 2) (by decide +kernel) rfl ?_
  refine hs_k (x := Int32.ofNat 0) (p := 3) (by decide +kernel) ?_
  refine hs_aload (i := 0) (p := 4) (by decide +kernel) rfl ?_
  refine hs_iload (i := 1) (p := 5) (by decide +kernel) rfl ?_
  refine hs_iload (i := 2) (p := 6) (by decide +kernel) rfl ?_
  refine hs_iload (i := 3) (p := 7) (by decide +kernel) rfl ?_
  refine ht_callv (T := et_TT) (t := 12) (mi := 159) (na := 3) (ci := 10) (lk := 6) (lm := 6) (L0 := eg_en (eg_mL 159) [.ref th, .int x, .int y, .int z]) (by decide +kernel) rfl hH k_th rfl rfl rfl rfl rfl (by rw [show eg_mL 159 = 6 from by decide +kernel]; first | done | rfl) ?_
  refine (fd_odE hH k_th h0 k_s0 h5 hec h6 k_ya hx (by omega)).mono (fun u hu => ?_)
  obtain ⟨c7, s7, rfl⟩ := hu
  refine hs_ch (h := 15) (i := 5) (n := 2) (hh := (eg_mh 19).getD []) (by decide +kernel) ⟨by decide +kernel, by decide +kernel⟩ (Nat.le_of_ble_eq_true rfl) ?_
  show et_go none _ 19 17 [some (.ref th), some (.int x), some (.int y), some (.int z), some (.ref out), none] [] _ _ _ _
  refine hs_k (x := Int32.ofNat 1) (p := 18) (by decide +kernel) ?_
  refine hs_iret (by decide +kernel) ?_
  exact ⟨rfl, rfl⟩
theorem fh_od (hH : et_H et_TT K G) (k_th : K th = some 12) (h0 : et_pl (eg_at G th) 0 = some (.ref s0)) (k_s0 : K s0 = some 10) (h5 : et_pl (eg_at G s0) 5 = some (.int (Int32.ofNat ec))) (hec : ec ≤ 3) (h6 : et_pl (eg_at G s0) 6 = some (.ref ya)) (k_ya : K ya = some 40) (hn : n < ec) (hE : et_pl (eg_at G ya) n = some (.ref e)) (t9 : evK K e ca ki kn v.1 v.2.2.1) (hv : evc G e ca ki kn v) (r0 : et_pl (eg_at G s0) 0 = some (.int (Int32.ofNat rc))) (hrc : rc ≤ 4) (r1 : et_pl (eg_at G s0) 1 = some (.ref ra)) (k_ra : K ra = some 37) (hr : r < rc) (hR : et_pl (eg_at G ra) r = some (.ref q)) (k_q : K q = some 8) (q0 : et_pl (eg_at G q) 0 = some (.ref bb)) (k_bb : K bb = some 6) (hdn : dn G 15 lo hi bb f) (hTb : tbP G q f) (hcl : fcl f) (h4 : et_pl (eg_at G th) 4 = some (.ref fo)) (k_fo : K fo = some 4) (k_out : K out = some 31) (hz : (-1 ≤ z.toInt ∧ z.toInt ≤ 16)) (hd : 35 ≤ d2) : et_go none d2 19 0 (eg_en (eg_mL 19) [.ref th, .int (Int32.ofNat n), .int (Int32.ofNat r), .int z, .ref out]) [] G 0 0 (fun u => u.1 = .inl (some (.int (Int32.ofNat 0))) ∧ et_pl (eg_at u.2.1 out) 0 = some (.long (Int32.ofNat (odN f v z 65536)).toInt64)) := by
  obtain ⟨d, rfl⟩ : ∃ d, d2 = d + 35 := ⟨d2 - 35, by omega⟩
  rw [show eg_mL 19 = 6 from by decide +kernel]
  show et_go none (d + 35) 19 0 [some (.ref th), some (.int (Int32.ofNat n)), some (.int (Int32.ofNat r)), some (.int z), some (.ref out), none] [] G 0 0 _
  refine hs_aload (i := 4) (p := 2) (by decide +kernel) rfl ?_
  refine hs_k (x := Int32.ofNat 0) (p := 3) (by decide +kernel) ?_
  refine hs_aload (i := 0) (p := 4) (by decide +kernel) rfl ?_
  refine hs_iload (i := 1) (p := 5) (by decide +kernel) rfl ?_
  refine hs_iload (i := 2) (p := 6) (by decide +kernel) rfl ?_
  refine hs_iload (i := 3) (p := 7) (by decide +kernel) rfl ?_
  refine ht_callv (T := et_TT) (t := 12) (mi := 159) (na := 3) (ci := 10) (lk := 6) (lm := 6) (L0 := eg_en (eg_mL 159) [.ref th, .int (Int32.ofNat n), .int (Int32.ofNat r), .int z]) (by decide +kernel) rfl hH k_th rfl rfl rfl rfl rfl (by rw [show eg_mL 159 = 6 from by decide +kernel]; first | done | rfl) ?_
  refine ((ek_p159_ok (K, [], G) [.ref th, .int (Int32.ofNat n), .int (Int32.ofNat r), .int z] _ hH (by show 34 ≤ _; omega) rfl (ht_ac (.inr ⟨by decide, _, rfl, k_th⟩) (ht_ac hi_any (ht_ac hi_any (ht_ac hi_any ht_an))))).and (fd_od hH k_th h0 k_s0 h5 hec h6 k_ya hn hE t9 hv r0 hrc r1 k_ra hr hR k_q q0 k_bb hdn hTb hcl h4 k_fo hz (by omega))).mono (fun u hu => ?_)
  obtain ⟨⟨es, hes, K1, hx1, hf1, hH1, hv1, -, -⟩, hz⟩ := hu
  obtain ⟨u1, u2, u3, u4⟩ := u
  have hz : u1 = .inl (some (.int (Int32.ofNat (odN f v z 65536)))) := hz
  subst hz
  rcases List.mem_cons.mp hes with rfl | hes
  · have hH := hH1
    have k_out := hx1 _ _ k_out
    refine hs_cb ?_
    show et_go none _ 19 10 _ [.int (Int32.ofNat (odN f v z 65536)), .int (Int32.ofNat 0), .ref out] _ _ _ _
    refine hs_i2l (p := 11) (by decide +kernel) ?_
    refine hf_lst (T := et_TT) (t := 31) (N := 1) (p := 12) (by decide +kernel) rfl rfl hH k_out (by omega) (by decide) (fun G11 hH x11 e11 => ?_)
    refine hs_goto (p := 23) (by decide +kernel) ?_
    refine hs_k (x := Int32.ofNat 0) (p := 24) (by decide +kernel) ?_
    refine hs_iret (by decide +kernel) ?_
    exact ⟨rfl, e11⟩
  · rcases List.mem_cons.mp hes with rfl | hes
    · have hv1 : (Sum.inl (some (Value.int (Int32.ofNat (odN f v z 65536)))) : eg_R) = .inr 0 := hv1
      cases hv1
    obtain rfl := List.mem_singleton.mp hes
    have hv1 : (Sum.inl (some (Value.int (Int32.ofNat (odN f v z 65536)))) : eg_R) = .inr 1 := hv1
    cases hv1
end YPA
section YPB
variable {K : et_K} {G : eg_G} {d d2 am aw ik kw n m r rc ec a : Nat} {v : evT} {V : Nat → evT} {x y z : Int32} {f : sp_E → Bool} {g : Nat → sp_E → Bool} {b9 : Nat → Int64}
theorem fn_odL (hH : et_H et_TT K G) (k_am : K am = some 13) (k_aw : K aw = some 46) (k_kw : K kw = some 30) (m1 : et_pl (eg_at G am) 1 = some (.ref aw)) (m0 : et_pl (eg_at G am) 0 = some (.int (Int32.ofNat 0))) (m19 : et_pl (eg_at G am) 19 = some (.ref kw)) (hr : r < 4) (hb : ∀ i, i < 1024 → et_pl (eg_at G kw) (1024 * r + i) = some (.long (b9 i))) (hbi : ∀ (m : Nat) (F : Nat → Int32), m < 65536 → F 0 = Int32.ofNat m → btL (b9 (m / 64)) m = f (feE F)) (hn : n < 3) (ho : evo v) (hv : evm G aw n v) (hz1 : -1 ≤ z.toInt) (ha : odN f v z m = a) (hm : m ≤ 65536) : et_go none (d + 7) 271 11 [some (.ref am), some (.int (Int32.ofNat n)), some (.int (Int32.ofNat r)), some (.int z), some (.int (Int32.ofNat a)), some (.int (Int32.ofNat m))] [] G 0 0 (fun u => u.1 = .inl (some (.int (Int32.ofNat (odN f v z 65536)))) ∧ u.2.1 = G) := by
  induction hq9 : 65536 - m using Nat.strongRecOn generalizing m a with
  | _ q9 ih =>
    have hle := odN_le (f := f) (v := v) (z := z) m
    have lt_am := (hH.2.2 _ _ k_am).1
    have lt_kw := (hH.2.2 _ _ k_kw).1
    have lt_aw := (hH.2.2 _ _ k_aw).1
    refine hs_iload (i := 5) (p := 13) (by decide +kernel) rfl ?_
    refine hs_kld (v := Value.int (Int32.ofNat 65536)) (p := 15) (by decide +kernel) ?_
    refine hs_br2n (c := .ge) (t := 57) (f := 18) (by decide +kernel) (by omega) (by omega) (fun (c15 : 65536 ≤ m) => ?_) (fun (c15 : ¬ (65536 ≤ m)) => ?_)
    · refine hs_iload (i := 4) (p := 59) (by decide +kernel) rfl ?_
      refine hs_iret (by decide +kernel) ?_
      obtain rfl : m = 65536 := by omega
      exact ⟨by rw [ha], rfl⟩
    · refine hs_iload (i := 3) (p := 19) (by decide +kernel) rfl ?_
      refine hs_br1 (c := .lt) (t := 31) (f := 22) (by decide +kernel) (fun (c19 : z < 0) => ?_) (fun (c19 : ¬ (z < 0)) => ?_)
      · refine hs_aload (i := 0) (p := 32) (by decide +kernel) rfl ?_
        refine hs_iload (i := 1) (p := 33) (by decide +kernel) rfl ?_
        refine hs_iload (i := 5) (p := 35) (by decide +kernel) rfl ?_
        refine ht_callv (T := et_TT) (t := 13) (mi := 235) (na := 2) (ci := 11) (lk := 6) (lm := 3) (L0 := eg_en (eg_mL 235) [.ref am, .int (Int32.ofNat n), .int (Int32.ofNat m)]) (by decide +kernel) rfl hH k_am rfl rfl rfl rfl rfl (by rw [show eg_mL 235 = 3 from by decide +kernel]; first | done | rfl) ?_
        refine (fn_says hH k_am k_aw m1 hn ho.1.1 ho.1.2 hv (by omega)).mono (fun u hu => xp_cb hu ?_)
        by_cases q1 : v.2.2.2.2.1 < suN v.2.1 v.2.2.1 v.2.2.2.1 (Int32.ofNat m) v.1
        · rw [if_pos q1]
          show et_go none _ 271 38 _ [.int (Int32.ofNat 1)] _ _ _ _
          refine hs_aload (i := 0) (p := 39) (by decide +kernel) rfl ?_
          refine hs_iload (i := 2) (p := 40) (by decide +kernel) rfl ?_
          refine hs_iload (i := 5) (p := 42) (by decide +kernel) rfl ?_
          refine ht_callv (T := et_TT) (t := 13) (mi := 269) (na := 2) (ci := 11) (lk := 6) (lm := 3) (L0 := eg_en (eg_mL 269) [.ref am, .int (Int32.ofNat r), .int (Int32.ofNat m)]) (by decide +kernel) rfl hH k_am rfl rfl rfl rfl rfl (by rw [show eg_mL 269 = 3 from by decide +kernel]; first | done | rfl) ?_
          refine (fm_isR hH k_am k_kw m19 hr (by omega) hb).mono (fun u hu => xp_cb hu ?_)
          by_cases qb : btL (b9 (m / 64)) m = true
          · rw [if_pos qb]
            show et_go none _ 271 45 _ [.int (Int32.ofNat 1), .int (Int32.ofNat 1)] _ _ _ _
            refine hs_br2n (c := .ne) (t := 51) (f := 48) (by decide +kernel) (by omega) (by omega) (fun h => absurd h (show ¬ (¬ 1 = 1) by decide)) (fun _ => ?_)
            refine hs_iinc1 (i := 4) (p := 51) (by decide +kernel) rfl (Nat.le_of_ble_eq_true rfl) ?_
            refine hs_iinc1 (i := 5) (p := 54) (by decide +kernel) rfl (Nat.le_of_ble_eq_true rfl) ?_
            refine hs_goto (p := 11) (by decide +kernel) ?_
            have hz9 : z = (-1) := Int32.toInt_inj.mp (by rw [xi_lt0] at c19; show z.toInt = -1; omega)
            have qf : f (feE (fun _ => Int32.ofNat m)) = true := by rw [← hbi m (fun _ => Int32.ofNat m) (by omega) rfl]; exact qb
            have e9 : odN f v z (m + 1) = a + 1 := by rw [odN_y (f := f) (v := v) (z := z) (m := m) (b := true) (.inl hz9) (decide_eq_true q1) qf, ha]
            exact ih (65536 - (m + 1)) (by omega) e9 (by omega) rfl
          · rw [if_neg qb]
            show et_go none _ 271 45 _ [.int (Int32.ofNat 0), .int (Int32.ofNat 1)] _ _ _ _
            refine hs_br2n (c := .ne) (t := 51) (f := 48) (by decide +kernel) (by omega) (by omega) (fun _ => ?_) (fun h => absurd (show ¬ 1 = 0 by decide) h)
            refine hs_iinc1 (i := 5) (p := 54) (by decide +kernel) rfl (Nat.le_of_ble_eq_true rfl) ?_
            refine hs_goto (p := 11) (by decide +kernel) ?_
            have hz9 : z = (-1) := Int32.toInt_inj.mp (by rw [xi_lt0] at c19; show z.toInt = -1; omega)
            have qf : f (feE (fun _ => Int32.ofNat m)) = false := by rw [← hbi m (fun _ => Int32.ofNat m) (by omega) rfl]; exact Bool.eq_false_iff.mpr qb
            have e9 := (odN_n (f := f) (v := v) (z := z) (m := m) (b := true) (decide_eq_true q1) qf).trans ha
            exact ih (65536 - (m + 1)) (by omega) e9 (by omega) rfl
        · rw [if_neg q1]
          show et_go none _ 271 38 _ [.int (Int32.ofNat 0)] _ _ _ _
          refine hs_aload (i := 0) (p := 39) (by decide +kernel) rfl ?_
          refine hs_iload (i := 2) (p := 40) (by decide +kernel) rfl ?_
          refine hs_iload (i := 5) (p := 42) (by decide +kernel) rfl ?_
          refine ht_callv (T := et_TT) (t := 13) (mi := 269) (na := 2) (ci := 11) (lk := 6) (lm := 3) (L0 := eg_en (eg_mL 269) [.ref am, .int (Int32.ofNat r), .int (Int32.ofNat m)]) (by decide +kernel) rfl hH k_am rfl rfl rfl rfl rfl (by rw [show eg_mL 269 = 3 from by decide +kernel]; first | done | rfl) ?_
          refine (fm_isR hH k_am k_kw m19 hr (by omega) hb).mono (fun u hu => xp_cb hu ?_)
          by_cases qb : btL (b9 (m / 64)) m = true
          · rw [if_pos qb]
            show et_go none _ 271 45 _ [.int (Int32.ofNat 1), .int (Int32.ofNat 0)] _ _ _ _
            refine hs_br2n (c := .ne) (t := 51) (f := 48) (by decide +kernel) (by omega) (by omega) (fun _ => ?_) (fun h => absurd (show ¬ 0 = 1 by decide) h)
            refine hs_iinc1 (i := 5) (p := 54) (by decide +kernel) rfl (Nat.le_of_ble_eq_true rfl) ?_
            refine hs_goto (p := 11) (by decide +kernel) ?_
            have hz9 : z = (-1) := Int32.toInt_inj.mp (by rw [xi_lt0] at c19; show z.toInt = -1; omega)
            have qf : f (feE (fun _ => Int32.ofNat m)) = true := by rw [← hbi m (fun _ => Int32.ofNat m) (by omega) rfl]; exact qb
            have e9 := (odN_n (f := f) (v := v) (z := z) (m := m) (b := false) (decide_eq_false q1) qf).trans ha
            exact ih (65536 - (m + 1)) (by omega) e9 (by omega) rfl
          · rw [if_neg qb]
            show et_go none _ 271 45 _ [.int (Int32.ofNat 0), .int (Int32.ofNat 0)] _ _ _ _
            refine hs_br2n (c := .ne) (t := 51) (f := 48) (by decide +kernel) (by omega) (by omega) (fun h => absurd h (show ¬ (¬ 0 = 0) by decide)) (fun _ => ?_)
            refine hs_iinc1 (i := 4) (p := 51) (by decide +kernel) rfl (Nat.le_of_ble_eq_true rfl) ?_
            refine hs_iinc1 (i := 5) (p := 54) (by decide +kernel) rfl (Nat.le_of_ble_eq_true rfl) ?_
            refine hs_goto (p := 11) (by decide +kernel) ?_
            have hz9 : z = (-1) := Int32.toInt_inj.mp (by rw [xi_lt0] at c19; show z.toInt = -1; omega)
            have qf : f (feE (fun _ => Int32.ofNat m)) = false := by rw [← hbi m (fun _ => Int32.ofNat m) (by omega) rfl]; exact Bool.eq_false_iff.mpr qb
            have e9 : odN f v z (m + 1) = a + 1 := by rw [odN_y (f := f) (v := v) (z := z) (m := m) (b := false) (.inl hz9) (decide_eq_false q1) qf, ha]
            exact ih (65536 - (m + 1)) (by omega) e9 (by omega) rfl
      · refine hs_iload (i := 5) (p := 24) (by decide +kernel) rfl ?_
        refine hs_calls (mi := 214) (na := 1) (lk := 6) (lm := 1) (L0 := eg_en (eg_mL 214) [.int (Int32.ofNat m)]) (by decide +kernel) rfl rfl rfl rfl rfl rfl (by rw [show eg_mL 214 = 1 from by decide +kernel]; first | done | rfl) ?_
        refine (fm_bits (x := Int32.ofNat m) (by omega)).mono (fun u hu => xp_cb hu ?_)
        show et_go none _ 271 27 _ [.int (rp_bc (Int32.ofNat m))] _ _ _ _
        refine hs_iload (i := 3) (p := 28) (by decide +kernel) rfl ?_
        refine hs_br2 (c := .ne) (t := 51) (f := 31) (by decide +kernel) (fun (c28 : ¬ (rp_bc (Int32.ofNat m)) = z) => ?_) (fun (c28 : ¬ (¬ (rp_bc (Int32.ofNat m)) = z)) => ?_)
        · refine hs_iinc1 (i := 5) (p := 54) (by decide +kernel) rfl (Nat.le_of_ble_eq_true rfl) ?_
          refine hs_goto (p := 11) (by decide +kernel) ?_
          have hz9 : ¬ z = (-1) := fun h => c19 (by rw [h]; decide)
          have e9 := (odN_s (f := f) (v := v) (z := z) (m := m) (fun h => h.elim hz9 c28)).trans ha
          exact ih (65536 - (m + 1)) (by omega) e9 (by omega) rfl
        · refine hs_aload (i := 0) (p := 32) (by decide +kernel) rfl ?_
          refine hs_iload (i := 1) (p := 33) (by decide +kernel) rfl ?_
          refine hs_iload (i := 5) (p := 35) (by decide +kernel) rfl ?_
          refine ht_callv (T := et_TT) (t := 13) (mi := 235) (na := 2) (ci := 11) (lk := 6) (lm := 3) (L0 := eg_en (eg_mL 235) [.ref am, .int (Int32.ofNat n), .int (Int32.ofNat m)]) (by decide +kernel) rfl hH k_am rfl rfl rfl rfl rfl (by rw [show eg_mL 235 = 3 from by decide +kernel]; first | done | rfl) ?_
          refine (fn_says hH k_am k_aw m1 hn ho.1.1 ho.1.2 hv (by omega)).mono (fun u hu => xp_cb hu ?_)
          by_cases q1 : v.2.2.2.2.1 < suN v.2.1 v.2.2.1 v.2.2.2.1 (Int32.ofNat m) v.1
          · rw [if_pos q1]
            show et_go none _ 271 38 _ [.int (Int32.ofNat 1)] _ _ _ _
            refine hs_aload (i := 0) (p := 39) (by decide +kernel) rfl ?_
            refine hs_iload (i := 2) (p := 40) (by decide +kernel) rfl ?_
            refine hs_iload (i := 5) (p := 42) (by decide +kernel) rfl ?_
            refine ht_callv (T := et_TT) (t := 13) (mi := 269) (na := 2) (ci := 11) (lk := 6) (lm := 3) (L0 := eg_en (eg_mL 269) [.ref am, .int (Int32.ofNat r), .int (Int32.ofNat m)]) (by decide +kernel) rfl hH k_am rfl rfl rfl rfl rfl (by rw [show eg_mL 269 = 3 from by decide +kernel]; first | done | rfl) ?_
            refine (fm_isR hH k_am k_kw m19 hr (by omega) hb).mono (fun u hu => xp_cb hu ?_)
            by_cases qb : btL (b9 (m / 64)) m = true
            · rw [if_pos qb]
              show et_go none _ 271 45 _ [.int (Int32.ofNat 1), .int (Int32.ofNat 1)] _ _ _ _
              refine hs_br2n (c := .ne) (t := 51) (f := 48) (by decide +kernel) (by omega) (by omega) (fun h => absurd h (show ¬ (¬ 1 = 1) by decide)) (fun _ => ?_)
              refine hs_iinc1 (i := 4) (p := 51) (by decide +kernel) rfl (Nat.le_of_ble_eq_true rfl) ?_
              refine hs_iinc1 (i := 5) (p := 54) (by decide +kernel) rfl (Nat.le_of_ble_eq_true rfl) ?_
              refine hs_goto (p := 11) (by decide +kernel) ?_
              have hz9 : ¬ z = (-1) := fun h => c19 (by rw [h]; decide)
              have qf : f (feE (fun _ => Int32.ofNat m)) = true := by rw [← hbi m (fun _ => Int32.ofNat m) (by omega) rfl]; exact qb
              have e9 : odN f v z (m + 1) = a + 1 := by rw [odN_y (f := f) (v := v) (z := z) (m := m) (b := true) (.inr (Decidable.of_not_not c28)) (decide_eq_true q1) qf, ha]
              exact ih (65536 - (m + 1)) (by omega) e9 (by omega) rfl
            · rw [if_neg qb]
              show et_go none _ 271 45 _ [.int (Int32.ofNat 0), .int (Int32.ofNat 1)] _ _ _ _
              refine hs_br2n (c := .ne) (t := 51) (f := 48) (by decide +kernel) (by omega) (by omega) (fun _ => ?_) (fun h => absurd (show ¬ 1 = 0 by decide) h)
              refine hs_iinc1 (i := 5) (p := 54) (by decide +kernel) rfl (Nat.le_of_ble_eq_true rfl) ?_
              refine hs_goto (p := 11) (by decide +kernel) ?_
              have hz9 : ¬ z = (-1) := fun h => c19 (by rw [h]; decide)
              have qf : f (feE (fun _ => Int32.ofNat m)) = false := by rw [← hbi m (fun _ => Int32.ofNat m) (by omega) rfl]; exact Bool.eq_false_iff.mpr qb
              have e9 := (odN_n (f := f) (v := v) (z := z) (m := m) (b := true) (decide_eq_true q1) qf).trans ha
              exact ih (65536 - (m + 1)) (by omega) e9 (by omega) rfl
          · rw [if_neg q1]
            show et_go none _ 271 38 _ [.int (Int32.ofNat 0)] _ _ _ _
            refine hs_aload (i := 0) (p := 39) (by decide +kernel) rfl ?_
            refine hs_iload (i := 2) (p := 40) (by decide +kernel) rfl ?_
            refine hs_iload (i := 5) (p := 42) (by decide +kernel) rfl ?_
            refine ht_callv (T := et_TT) (t := 13) (mi := 269) (na := 2) (ci := 11) (lk := 6) (lm := 3) (L0 := eg_en (eg_mL 269) [.ref am, .int (Int32.ofNat r), .int (Int32.ofNat m)]) (by decide +kernel) rfl hH k_am rfl rfl rfl rfl rfl (by rw [show eg_mL 269 = 3 from by decide +kernel]; first | done | rfl) ?_
            refine (fm_isR hH k_am k_kw m19 hr (by omega) hb).mono (fun u hu => xp_cb hu ?_)
            by_cases qb : btL (b9 (m / 64)) m = true
            · rw [if_pos qb]
              show et_go none _ 271 45 _ [.int (Int32.ofNat 1), .int (Int32.ofNat 0)] _ _ _ _
              refine hs_br2n (c := .ne) (t := 51) (f := 48) (by decide +kernel) (by omega) (by omega) (fun _ => ?_) (fun h => absurd (show ¬ 0 = 1 by decide) h)
              refine hs_iinc1 (i := 5) (p := 54) (by decide +kernel) rfl (Nat.le_of_ble_eq_true rfl) ?_
              refine hs_goto (p := 11) (by decide +kernel) ?_
              have hz9 : ¬ z = (-1) := fun h => c19 (by rw [h]; decide)
              have qf : f (feE (fun _ => Int32.ofNat m)) = true := by rw [← hbi m (fun _ => Int32.ofNat m) (by omega) rfl]; exact qb
              have e9 := (odN_n (f := f) (v := v) (z := z) (m := m) (b := false) (decide_eq_false q1) qf).trans ha
              exact ih (65536 - (m + 1)) (by omega) e9 (by omega) rfl
            · rw [if_neg qb]
              show et_go none _ 271 45 _ [.int (Int32.ofNat 0), .int (Int32.ofNat 0)] _ _ _ _
              refine hs_br2n (c := .ne) (t := 51) (f := 48) (by decide +kernel) (by omega) (by omega) (fun h => absurd h (show ¬ (¬ 0 = 0) by decide)) (fun _ => ?_)
              refine hs_iinc1 (i := 4) (p := 51) (by decide +kernel) rfl (Nat.le_of_ble_eq_true rfl) ?_
              refine hs_iinc1 (i := 5) (p := 54) (by decide +kernel) rfl (Nat.le_of_ble_eq_true rfl) ?_
              refine hs_goto (p := 11) (by decide +kernel) ?_
              have hz9 : ¬ z = (-1) := fun h => c19 (by rw [h]; decide)
              have qf : f (feE (fun _ => Int32.ofNat m)) = false := by rw [← hbi m (fun _ => Int32.ofNat m) (by omega) rfl]; exact Bool.eq_false_iff.mpr qb
              have e9 : odN f v z (m + 1) = a + 1 := by rw [odN_y (f := f) (v := v) (z := z) (m := m) (b := false) (.inr (Decidable.of_not_not c28)) (decide_eq_false q1) qf, ha]
              exact ih (65536 - (m + 1)) (by omega) e9 (by omega) rfl
theorem fn_odO (hH : et_H et_TT K G) (k_am : K am = some 13) (k_aw : K aw = some 46) (m1 : et_pl (eg_at G am) 1 = some (.ref aw)) (w0 : et_pl (eg_at G aw) 0 = some (.int (Int32.ofNat rc))) (hrc : rc ≤ 4) (w4 : et_pl (eg_at G aw) 4 = some (.int (Int32.ofNat ec))) (hec : ec ≤ 3) (hm : zyM G aw ec V) (ho : ∀ n, n < 3 → evo (V n)) (hT : ∀ r, r < rc → txP G aw (126 + 841 * r) 0 (g r) ∧ fcl (g r)) (hky : kyA G am aw rc) (m0 : et_pl (eg_at G am) 0 = some (.int (Int32.ofNat 0))) (hn : n < ec) (hr : r < rc) (hz1 : -1 ≤ z.toInt) (hd : 7 ≤ d2) : et_go none d2 271 0 (eg_en (eg_mL 271) [.ref am, .int (Int32.ofNat n), .int (Int32.ofNat r), .int z]) [] G 0 0 (fun u => u.1 = .inl (some (.int (Int32.ofNat (odN (g r) (V n) z 65536)))) ∧ et_pl (eg_at u.2.1 am) 0 = some (.int (Int32.ofNat 0)) ∧ (kyA u.2.1 am aw rc ∧ zyM u.2.1 aw ec V)) := by
  obtain ⟨d, rfl⟩ : ∃ d, d2 = d + 7 := ⟨d2 - 7, by omega⟩
  rw [show eg_mL 271 = 6 from by decide +kernel]
  show et_go none (d + 7) 271 0 [some (.ref am), some (.int (Int32.ofNat n)), some (.int (Int32.ofNat r)), some (.int z), none, none] [] G 0 0 _
  have lt_am := (hH.2.2 _ _ k_am).1
  have lt_aw := (hH.2.2 _ _ k_aw).1
  refine hs_aload (i := 0) (p := 1) (by decide +kernel) rfl ?_
  refine hs_iload (i := 2) (p := 2) (by decide +kernel) rfl ?_
  obtain ⟨ik, m18, k_ik⟩ := hf_ref (t := 13) (f := 18) (u := 25) hH k_am rfl rfl (.inr trivial)
  obtain ⟨kw, m19, k_kw⟩ := hf_ref (t := 13) (f := 19) (u := 30) hH k_am rfl rfl (.inr trivial)
  have hkn : et_pl (eg_at G ik) r = some (.int (Int32.ofNat 0)) ∨ knP G aw kw r := by
    obtain ⟨ik9, kw9, ⟨q1, q2⟩, q3⟩ := hky
    obtain rfl : ik9 = ik := Value.ref.inj (Option.some.inj (q1.symm.trans m18))
    obtain rfl : kw9 = kw := Value.ref.inj (Option.some.inj (q2.symm.trans m19))
    exact q3 r hr (by omega)
  refine ht_callv (T := et_TT) (t := 13) (mi := 266) (na := 1) (ci := 11) (lk := 6) (lm := 4) (L0 := eg_en (eg_mL 266) [.ref am, .int (Int32.ofNat r)]) (by decide +kernel) rfl hH k_am rfl rfl rfl rfl rfl (by rw [show eg_mL 266 = 4 from by decide +kernel]; first | done | rfl) ?_
  refine ((er_c38 (K, [], G) [.ref am, .int (Int32.ofNat r)] _ hH (by show 5 ≤ _; omega) rfl (ht_ac (.inr ⟨by decide, _, rfl, k_am⟩) (ht_ac (hi_nv (by omega) (by omega)) ht_an))).and ((fm_knows hH k_am k_aw k_ik k_kw m1 m18 m19 (by omega) (hT r hr).1 (hT r hr).2 hkn (by omega)).mono (fun u (hu : u.1 = _ ∧ knR G u.2.1 am aw ik kw r (g r)) => hu.2))).mono (fun u hu => hs_cbnP (P := fun g9 => knR G g9 am aw ik kw r (g r)) hu (fun K9 G9 c9 s9 x9 f9 hH cl9 sl9 hkr => ?_))
  obtain rfl : c9 = 0 := Nat.le_zero.mp cl9
  obtain rfl : s9 = 0 := Nat.le_zero.mp sl9
  have hky9 := hkr.ky (hT r hr).1 hky m18 m19
  have hm9 := hm.mv ho (fun j _ _ => hkr.2.2.2.2.2 j)
  have m09 := (f9.2 am 13 k_am 0 (by decide +kernel)).trans m0
  have m1_9 := (f9.2 am 13 k_am 1 (by decide +kernel)).trans m1
  obtain ⟨⟨b9, hb9, hbi9⟩, -, ⟨-, m199⟩, -⟩ := hkr
  have k_am := x9 _ _ k_am
  have k_aw := x9 _ _ k_aw
  have k_kw := x9 _ _ k_kw
  show et_go none _ 271 5 _ [] _ _ _ _
  refine hs_k (x := Int32.ofNat 0) (p := 6) (by decide +kernel) ?_
  refine hs_istore (i := 4) (p := 8) (by decide +kernel) (Nat.le_of_ble_eq_true rfl) ?_
  refine hs_k (x := Int32.ofNat 0) (p := 9) (by decide +kernel) ?_
  refine hs_istore (i := 5) (p := 11) (by decide +kernel) (Nat.le_of_ble_eq_true rfl) ?_
  refine (fn_odL (m := 0) (a := 0) (f := g r) (v := V n) hH k_am k_aw k_kw m1_9 m09 m199 (by omega) hb9 hbi9 (by omega) (ho n (by omega)) ((hm9 n (by omega)).1 hn) hz1 rfl (Nat.zero_le _)).mono (fun u hu => ?_)
  exact ⟨hu.1, by rw [hu.2]; exact m09, by rw [hu.2]; exact ⟨hky9, hm9⟩⟩
theorem fn_od (hH : et_H et_TT K G) (k_am : K am = some 13) (k_aw : K aw = some 46) (m1 : et_pl (eg_at G am) 1 = some (.ref aw)) (w0 : et_pl (eg_at G aw) 0 = some (.int (Int32.ofNat rc))) (hrc : rc ≤ 4) (w4 : et_pl (eg_at G aw) 4 = some (.int (Int32.ofNat ec))) (hec : ec ≤ 3) (hm : zyM G aw ec V) (ho : ∀ n, n < 3 → evo (V n)) (hT : ∀ r, r < rc → txP G aw (126 + 841 * r) 0 (g r) ∧ fcl (g r)) (hky : kyA G am aw rc) (hn : n < ec) (hr : r < rc) (hz : (-1 ≤ z.toInt ∧ z.toInt ≤ 16)) (hd : 8 ≤ d2) : et_go none d2 270 0 (eg_en (eg_mL 270) [.ref am, .int (Int32.ofNat n), .int (Int32.ofNat r), .int z]) [] G 0 0 (fun u => u.1 = .inl (some (.int (Int32.ofNat (odN (g r) (V n) z 65536)))) ∧ et_pl (eg_at u.2.1 am) 0 = some (.int (Int32.ofNat 0)) ∧ (kyA u.2.1 am aw rc ∧ zyM u.2.1 aw ec V)) := by
  obtain ⟨d, rfl⟩ : ∃ d, d2 = d + 8 := ⟨d2 - 8, by omega⟩
  have o1 : (-1 : Int32).toInt = -1 := rfl
  have o16 : (Int32.ofNat 16).toInt = 16 := rfl
  have or_ : (Int32.ofNat r).toInt = r := hs_nint (by omega)
  rw [show eg_mL 270 = 4 from by decide +kernel]
  show et_go none (d + 8) 270 0 [some (.ref am), some (.int (Int32.ofNat n)), some (.int (Int32.ofNat r)), some (.int z)] [] G 0 0 _
  have lt_am := (hH.2.2 _ _ k_am).1
  have lt_aw := (hH.2.2 _ _ k_aw).1
  refine hs_aload (i := 0) (p := 1) (by decide +kernel) rfl ?_
  refine hs_k (x := Int32.ofNat 0) (p := 2) (by decide +kernel) ?_
  have hHo := hH
  refine hf_put (T := et_TT) (t := 13) (ci := 11) (f := 0) (p := 5) (ty := .int) (by decide +kernel) rfl rfl rfl rfl rfl hH k_am hi_any (fun G2 hH x2 e2 => ?_)
  have hT : ∀ r, r < rc → txP G2 aw (126 + 841 * r) 0 (g r) ∧ fcl (g r) := fun r hr => ⟨(hT r hr).1.xs lt_aw x2 (fun j h => hi_ne k_aw k_am (by decide) h.1), (hT r hr).2⟩
  have hky := hky.xs hHo k_am k_aw x2 (fun b j t kb hs => by rw [hs.1, k_am] at kb; cases kb; rw [hs.2]; exact ⟨by decide, by decide, fun _ => ⟨by decide, by decide⟩, fun h => absurd h (by decide)⟩)
  have hm := hm.mv ho (fun j _ _ => x2.2 aw j lt_aw (fun h => hi_ne k_aw k_am (by decide) h.1))
  have m1 := (x2.2 am 1 lt_am (fun h => absurd h.2 (by decide))).trans m1
  have w0 := (x2.2 aw 0 lt_aw (fun h => (hi_ne k_aw k_am (by decide)) h.1)).trans w0
  have w4 := (x2.2 aw 4 lt_aw (fun h => (hi_ne k_aw k_am (by decide)) h.1)).trans w4
  have lt_am := Nat.lt_of_lt_of_le lt_am x2.1
  have lt_aw := Nat.lt_of_lt_of_le lt_aw x2.1
  refine hs_aload (i := 0) (p := 6) (by decide +kernel) rfl ?_
  refine hs_aload (i := 0) (p := 7) (by decide +kernel) rfl ?_
  refine hs_iload (i := 1) (p := 8) (by decide +kernel) rfl ?_
  refine ht_callv (T := et_TT) (t := 13) (mi := 208) (na := 1) (ci := 11) (lk := 4) (lm := 2) (L0 := eg_en (eg_mL 208) [.ref am, .int (Int32.ofNat n)]) (by decide +kernel) rfl hH k_am rfl rfl rfl rfl rfl (by rw [show eg_mL 208 = 2 from by decide +kernel]; first | done | rfl) ?_
  refine (fm_nEy hH k_am k_aw m1 w4 hec hn (by omega)).mono (fun u hu => xp_cb hu ?_)
  show et_go none _ 270 11 _ [.int (Int32.ofNat 0), .ref am] _ _ _ _
  refine hs_if0 (c := .ne) (t := 22) (f := 14) (by decide +kernel) (show ¬ (¬ Int32.ofNat 0 = 0) by decide) ?_
  refine hs_aload (i := 0) (p := 15) (by decide +kernel) rfl ?_
  refine hs_iload (i := 2) (p := 16) (by decide +kernel) rfl ?_
  refine ht_callv (T := et_TT) (t := 13) (mi := 210) (na := 1) (ci := 11) (lk := 4) (lm := 2) (L0 := eg_en (eg_mL 210) [.ref am, .int (Int32.ofNat r)]) (by decide +kernel) rfl hH k_am rfl rfl rfl rfl rfl (by rw [show eg_mL 210 = 2 from by decide +kernel]; first | done | rfl) ?_
  refine (fm_nR (x := Int32.ofNat r) hH k_am k_aw m1 w0 hrc (by omega)).mono (fun u hu => xp_cb hu ?_)
  by_cases xu : 0 ≤ (Int32.ofNat r).toInt ∧ (Int32.ofNat r).toInt < (rc : Int)
  · rw [if_pos xu]
    show et_go none _ 270 19 _ [.int (Int32.ofNat 0), .ref am] _ _ _ _
    refine hs_if1 (c := .eq) (t := 26) (f := 22) (by decide +kernel) (show Int32.ofNat 0 = 0 by decide) ?_
    refine hs_k (x := Int32.ofNat 0) (p := 27) (by decide +kernel) ?_
    refine hs_k (x := Int32.ofNat 1) (p := 28) (by decide +kernel) ?_
    refine ht_callv (T := et_TT) (t := 13) (mi := 204) (na := 2) (ci := 11) (lk := 4) (lm := 3) (L0 := eg_en (eg_mL 204) [.ref am, .int (Int32.ofNat 0), .int (Int32.ofNat 1)]) (by decide +kernel) rfl hH k_am rfl rfl rfl rfl rfl (by rw [show eg_mL 204 = 3 from by decide +kernel]; first | done | rfl) ?_
    refine (fm_t0 hH k_am).mono (fun u hu => xp_cb hu ?_)
    show et_go none _ 270 31 _ [.int (Int32.ofNat 0)] _ _ _ _
    refine hs_if0 (c := .ne) (t := 57) (f := 34) (by decide +kernel) (show ¬ (¬ Int32.ofNat 0 = 0) by decide) ?_
    refine hs_aload (i := 0) (p := 35) (by decide +kernel) rfl ?_
    refine hs_iload (i := 3) (p := 36) (by decide +kernel) rfl ?_
    refine hs_k (x := (-1)) (p := 37) (by decide +kernel) ?_
    refine hs_k (x := Int32.ofNat 16) (p := 39) (by decide +kernel) ?_
    refine hs_calls (mi := 209) (na := 3) (lk := 4) (lm := 3) (L0 := eg_en (eg_mL 209) [.int z, .int (-1), .int (Int32.ofNat 16)]) (by decide +kernel) rfl rfl rfl rfl rfl rfl (by rw [show eg_mL 209 = 3 from by decide +kernel]; first | done | rfl) ?_
    refine (fm_in (x := z) (y := (-1)) (z := Int32.ofNat 16)).mono (fun u hu => xp_cb hu ?_)
    by_cases xz : (-1 : Int32).toInt ≤ z.toInt ∧ z.toInt ≤ (Int32.ofNat 16).toInt
    · rw [if_pos xz]
      show et_go none _ 270 42 _ [.int (Int32.ofNat 1), .ref am] _ _ _ _
      refine hs_if1 (c := .ne) (t := 49) (f := 45) (by decide +kernel) (show ¬ Int32.ofNat 1 = 0 by decide) ?_
      refine hs_k (x := Int32.ofNat 0) (p := 50) (by decide +kernel) ?_
      refine hs_k (x := Int32.ofNat 2) (p := 51) (by decide +kernel) ?_
      refine ht_callv (T := et_TT) (t := 13) (mi := 204) (na := 2) (ci := 11) (lk := 4) (lm := 3) (L0 := eg_en (eg_mL 204) [.ref am, .int (Int32.ofNat 0), .int (Int32.ofNat 2)]) (by decide +kernel) rfl hH k_am rfl rfl rfl rfl rfl (by rw [show eg_mL 204 = 3 from by decide +kernel]; first | done | rfl) ?_
      refine (fm_t0 hH k_am).mono (fun u hu => xp_cb hu ?_)
      show et_go none _ 270 54 _ [.int (Int32.ofNat 0)] _ _ _ _
      refine hs_if1 (c := .eq) (t := 59) (f := 57) (by decide +kernel) (show Int32.ofNat 0 = 0 by decide) ?_
      refine hs_aload (i := 0) (p := 60) (by decide +kernel) rfl ?_
      refine hs_iload (i := 1) (p := 61) (by decide +kernel) rfl ?_
      refine hs_iload (i := 2) (p := 62) (by decide +kernel) rfl ?_
      refine hs_iload (i := 3) (p := 63) (by decide +kernel) rfl ?_
      refine ht_callv (T := et_TT) (t := 13) (mi := 271) (na := 3) (ci := 11) (lk := 4) (lm := 6) (L0 := eg_en (eg_mL 271) [.ref am, .int (Int32.ofNat n), .int (Int32.ofNat r), .int z]) (by decide +kernel) rfl hH k_am rfl rfl rfl rfl rfl (by rw [show eg_mL 271 = 6 from by decide +kernel]; first | done | rfl) ?_
      refine (fn_odO hH k_am k_aw m1 w0 hrc w4 hec hm ho hT hky e2 hn hr (by omega) (by omega)).mono (fun u hu => ?_)
      obtain ⟨u1, u2, u3, u4⟩ := u
      obtain ⟨hu1, hu2⟩ := hu
      have hu1 : u1 = .inl (some (.int (Int32.ofNat (odN (g r) (V n) z 65536)))) := hu1
      subst hu1
      refine hs_cb ?_
      show et_go none _ 270 66 _ [.int (Int32.ofNat (odN (g r) (V n) z 65536))] _ _ _ _
      refine hs_iret (by decide +kernel) ?_
      exact ⟨rfl, hu2⟩
    · exact absurd ⟨by omega, by omega⟩ xz
  · exact absurd ⟨by omega, by omega⟩ xu
theorem fn_odZ (hH : et_H et_TT K G) (k_am : K am = some 13) (k_aw : K aw = some 46) (m1 : et_pl (eg_at G am) 1 = some (.ref aw)) (w0 : et_pl (eg_at G aw) 0 = some (.int (Int32.ofNat rc))) (hrc : rc ≤ 4) (w4 : et_pl (eg_at G aw) 4 = some (.int (Int32.ofNat ec))) (hec : ec ≤ 3) (hm : zyM G aw ec V) (ho : ∀ n, n < 3 → evo (V n)) (hT : ∀ r, r < rc → txP G aw (126 + 841 * r) 0 (g r) ∧ fcl (g r)) (hky : kyA G am aw rc) (hn : n < ec) (hr : r < rc) (hz : ¬ (-1 ≤ z.toInt ∧ z.toInt ≤ 16)) (hd : 3 ≤ d2) : et_go none d2 270 0 (eg_en (eg_mL 270) [.ref am, .int (Int32.ofNat n), .int (Int32.ofNat r), .int z]) [] G 0 0 (fun u => u.1 = .inl (some (.int (Int32.ofNat 0))) ∧ et_pl (eg_at u.2.1 am) 0 = some (.int (Int32.ofNat 2)) ∧ (kyA u.2.1 am aw rc ∧ zyM u.2.1 aw ec V)) := by
  obtain ⟨d, rfl⟩ : ∃ d, d2 = d + 3 := ⟨d2 - 3, by omega⟩
  have o1 : (-1 : Int32).toInt = -1 := rfl
  have o16 : (Int32.ofNat 16).toInt = 16 := rfl
  have or_ : (Int32.ofNat r).toInt = r := hs_nint (by omega)
  rw [show eg_mL 270 = 4 from by decide +kernel]
  show et_go none (d + 3) 270 0 [some (.ref am), some (.int (Int32.ofNat n)), some (.int (Int32.ofNat r)), some (.int z)] [] G 0 0 _
  have lt_am := (hH.2.2 _ _ k_am).1
  have lt_aw := (hH.2.2 _ _ k_aw).1
  refine hs_aload (i := 0) (p := 1) (by decide +kernel) rfl ?_
  refine hs_k (x := Int32.ofNat 0) (p := 2) (by decide +kernel) ?_
  have hHo := hH
  refine hf_put (T := et_TT) (t := 13) (ci := 11) (f := 0) (p := 5) (ty := .int) (by decide +kernel) rfl rfl rfl rfl rfl hH k_am hi_any (fun G2 hH x2 e2 => ?_)
  have hT : ∀ r, r < rc → txP G2 aw (126 + 841 * r) 0 (g r) ∧ fcl (g r) := fun r hr => ⟨(hT r hr).1.xs lt_aw x2 (fun j h => hi_ne k_aw k_am (by decide) h.1), (hT r hr).2⟩
  have hky := hky.xs hHo k_am k_aw x2 (fun b j t kb hs => by rw [hs.1, k_am] at kb; cases kb; rw [hs.2]; exact ⟨by decide, by decide, fun _ => ⟨by decide, by decide⟩, fun h => absurd h (by decide)⟩)
  have hm := hm.mv ho (fun j _ _ => x2.2 aw j lt_aw (fun h => hi_ne k_aw k_am (by decide) h.1))
  have m1 := (x2.2 am 1 lt_am (fun h => absurd h.2 (by decide))).trans m1
  have w0 := (x2.2 aw 0 lt_aw (fun h => (hi_ne k_aw k_am (by decide)) h.1)).trans w0
  have w4 := (x2.2 aw 4 lt_aw (fun h => (hi_ne k_aw k_am (by decide)) h.1)).trans w4
  have lt_am := Nat.lt_of_lt_of_le lt_am x2.1
  have lt_aw := Nat.lt_of_lt_of_le lt_aw x2.1
  refine hs_aload (i := 0) (p := 6) (by decide +kernel) rfl ?_
  refine hs_aload (i := 0) (p := 7) (by decide +kernel) rfl ?_
  refine hs_iload (i := 1) (p := 8) (by decide +kernel) rfl ?_
  refine ht_callv (T := et_TT) (t := 13) (mi := 208) (na := 1) (ci := 11) (lk := 4) (lm := 2) (L0 := eg_en (eg_mL 208) [.ref am, .int (Int32.ofNat n)]) (by decide +kernel) rfl hH k_am rfl rfl rfl rfl rfl (by rw [show eg_mL 208 = 2 from by decide +kernel]; first | done | rfl) ?_
  refine (fm_nEy hH k_am k_aw m1 w4 hec hn (by omega)).mono (fun u hu => xp_cb hu ?_)
  show et_go none _ 270 11 _ [.int (Int32.ofNat 0), .ref am] _ _ _ _
  refine hs_if0 (c := .ne) (t := 22) (f := 14) (by decide +kernel) (show ¬ (¬ Int32.ofNat 0 = 0) by decide) ?_
  refine hs_aload (i := 0) (p := 15) (by decide +kernel) rfl ?_
  refine hs_iload (i := 2) (p := 16) (by decide +kernel) rfl ?_
  refine ht_callv (T := et_TT) (t := 13) (mi := 210) (na := 1) (ci := 11) (lk := 4) (lm := 2) (L0 := eg_en (eg_mL 210) [.ref am, .int (Int32.ofNat r)]) (by decide +kernel) rfl hH k_am rfl rfl rfl rfl rfl (by rw [show eg_mL 210 = 2 from by decide +kernel]; first | done | rfl) ?_
  refine (fm_nR (x := Int32.ofNat r) hH k_am k_aw m1 w0 hrc (by omega)).mono (fun u hu => xp_cb hu ?_)
  by_cases xu : 0 ≤ (Int32.ofNat r).toInt ∧ (Int32.ofNat r).toInt < (rc : Int)
  · rw [if_pos xu]
    show et_go none _ 270 19 _ [.int (Int32.ofNat 0), .ref am] _ _ _ _
    refine hs_if1 (c := .eq) (t := 26) (f := 22) (by decide +kernel) (show Int32.ofNat 0 = 0 by decide) ?_
    refine hs_k (x := Int32.ofNat 0) (p := 27) (by decide +kernel) ?_
    refine hs_k (x := Int32.ofNat 1) (p := 28) (by decide +kernel) ?_
    refine ht_callv (T := et_TT) (t := 13) (mi := 204) (na := 2) (ci := 11) (lk := 4) (lm := 3) (L0 := eg_en (eg_mL 204) [.ref am, .int (Int32.ofNat 0), .int (Int32.ofNat 1)]) (by decide +kernel) rfl hH k_am rfl rfl rfl rfl rfl (by rw [show eg_mL 204 = 3 from by decide +kernel]; first | done | rfl) ?_
    refine (fm_t0 hH k_am).mono (fun u hu => xp_cb hu ?_)
    show et_go none _ 270 31 _ [.int (Int32.ofNat 0)] _ _ _ _
    refine hs_if0 (c := .ne) (t := 57) (f := 34) (by decide +kernel) (show ¬ (¬ Int32.ofNat 0 = 0) by decide) ?_
    refine hs_aload (i := 0) (p := 35) (by decide +kernel) rfl ?_
    refine hs_iload (i := 3) (p := 36) (by decide +kernel) rfl ?_
    refine hs_k (x := (-1)) (p := 37) (by decide +kernel) ?_
    refine hs_k (x := Int32.ofNat 16) (p := 39) (by decide +kernel) ?_
    refine hs_calls (mi := 209) (na := 3) (lk := 4) (lm := 3) (L0 := eg_en (eg_mL 209) [.int z, .int (-1), .int (Int32.ofNat 16)]) (by decide +kernel) rfl rfl rfl rfl rfl rfl (by rw [show eg_mL 209 = 3 from by decide +kernel]; first | done | rfl) ?_
    refine (fm_in (x := z) (y := (-1)) (z := Int32.ofNat 16)).mono (fun u hu => xp_cb hu ?_)
    by_cases xz : (-1 : Int32).toInt ≤ z.toInt ∧ z.toInt ≤ (Int32.ofNat 16).toInt
    · exact absurd ⟨by omega, by omega⟩ hz
    · rw [if_neg xz]
      show et_go none _ 270 42 _ [.int (Int32.ofNat 0), .ref am] _ _ _ _
      refine hs_if0 (c := .ne) (t := 49) (f := 45) (by decide +kernel) (show ¬ (¬ Int32.ofNat 0 = 0) by decide) ?_
      refine hs_k (x := Int32.ofNat 1) (p := 46) (by decide +kernel) ?_
      refine hs_goto (p := 50) (by decide +kernel) ?_
      refine hs_k (x := Int32.ofNat 2) (p := 51) (by decide +kernel) ?_
      have hHo := hH
      refine ht_callv (T := et_TT) (t := 13) (mi := 204) (na := 2) (ci := 11) (lk := 4) (lm := 3) (L0 := eg_en (eg_mL 204) [.ref am, .int (Int32.ofNat 1), .int (Int32.ofNat 2)]) (by decide +kernel) rfl hH k_am rfl rfl rfl rfl rfl (by rw [show eg_mL 204 = 3 from by decide +kernel]; first | done | rfl) ?_
      refine (fm_t1 hH k_am).mono (fun u hu => xw_cb hu (fun G51 v51 hH x51 hP51 => ?_))
      have hT : ∀ r, r < rc → txP G51 aw (126 + 841 * r) 0 (g r) ∧ fcl (g r) := fun r hr => ⟨(hT r hr).1.xs lt_aw x51 (fun j h => hi_ne k_aw k_am (by decide) h.1), (hT r hr).2⟩
      have hky := hky.xs hHo k_am k_aw x51 (fun b j t kb hs => by rw [hs.1, k_am] at kb; cases kb; rw [hs.2]; exact ⟨by decide, by decide, fun _ => ⟨by decide, by decide⟩, fun h => absurd h (by decide)⟩)
      have hm := hm.mv ho (fun j _ _ => x51.2 aw j lt_aw (fun h => hi_ne k_aw k_am (by decide) h.1))
      have m1 := (x51.2 am 1 lt_am (fun h => absurd h.2 (by decide))).trans m1
      have w0 := (x51.2 aw 0 lt_aw (fun h => (hi_ne k_aw k_am (by decide)) h.1)).trans w0
      have w4 := (x51.2 aw 4 lt_aw (fun h => (hi_ne k_aw k_am (by decide)) h.1)).trans w4
      have lt_am := Nat.lt_of_lt_of_le lt_am x51.1
      have lt_aw := Nat.lt_of_lt_of_le lt_aw x51.1
      obtain ⟨rfl, th51⟩ := hP51
      show et_go none _ 270 54 _ [.int (Int32.ofNat 1)] _ _ _ _
      refine hs_if0 (c := .eq) (t := 59) (f := 57) (by decide +kernel) (show ¬ (Int32.ofNat 1 = 0) by decide) ?_
      refine hs_k (x := Int32.ofNat 0) (p := 58) (by decide +kernel) ?_
      refine hs_iret (by decide +kernel) ?_
      exact ⟨rfl, th51, hky, hm⟩
  · exact absurd ⟨by omega, by omega⟩ xu
theorem fn_odR (hH : et_H et_TT K G) (k_am : K am = some 13) (k_aw : K aw = some 46) (m1 : et_pl (eg_at G am) 1 = some (.ref aw)) (w0 : et_pl (eg_at G aw) 0 = some (.int (Int32.ofNat rc))) (hrc : rc ≤ 4) (w4 : et_pl (eg_at G aw) 4 = some (.int (Int32.ofNat ec))) (hec : ec ≤ 3) (hm : zyM G aw ec V) (ho : ∀ n, n < 3 → evo (V n)) (hT : ∀ r, r < rc → txP G aw (126 + 841 * r) 0 (g r) ∧ fcl (g r)) (hky : kyA G am aw rc) (hn : n < ec) (hy : ¬ xr y rc) (hd : 3 ≤ d2) : et_go none d2 270 0 (eg_en (eg_mL 270) [.ref am, .int (Int32.ofNat n), .int y, .int z]) [] G 0 0 (fun u => u.1 = .inl (some (.int (Int32.ofNat 0))) ∧ et_pl (eg_at u.2.1 am) 0 = some (.int (Int32.ofNat 1)) ∧ (kyA u.2.1 am aw rc ∧ zyM u.2.1 aw ec V)) := by
  obtain ⟨d, rfl⟩ : ∃ d, d2 = d + 3 := ⟨d2 - 3, by omega⟩
  rw [show eg_mL 270 = 4 from by decide +kernel]
  show et_go none (d + 3) 270 0 [some (.ref am), some (.int (Int32.ofNat n)), some (.int y), some (.int z)] [] G 0 0 _
  have lt_am := (hH.2.2 _ _ k_am).1
  have lt_aw := (hH.2.2 _ _ k_aw).1
  refine hs_aload (i := 0) (p := 1) (by decide +kernel) rfl ?_
  refine hs_k (x := Int32.ofNat 0) (p := 2) (by decide +kernel) ?_
  have hHo := hH
  refine hf_put (T := et_TT) (t := 13) (ci := 11) (f := 0) (p := 5) (ty := .int) (by decide +kernel) rfl rfl rfl rfl rfl hH k_am hi_any (fun G2 hH x2 e2 => ?_)
  have hT : ∀ r, r < rc → txP G2 aw (126 + 841 * r) 0 (g r) ∧ fcl (g r) := fun r hr => ⟨(hT r hr).1.xs lt_aw x2 (fun j h => hi_ne k_aw k_am (by decide) h.1), (hT r hr).2⟩
  have hky := hky.xs hHo k_am k_aw x2 (fun b j t kb hs => by rw [hs.1, k_am] at kb; cases kb; rw [hs.2]; exact ⟨by decide, by decide, fun _ => ⟨by decide, by decide⟩, fun h => absurd h (by decide)⟩)
  have hm := hm.mv ho (fun j _ _ => x2.2 aw j lt_aw (fun h => hi_ne k_aw k_am (by decide) h.1))
  have m1 := (x2.2 am 1 lt_am (fun h => absurd h.2 (by decide))).trans m1
  have w0 := (x2.2 aw 0 lt_aw (fun h => (hi_ne k_aw k_am (by decide)) h.1)).trans w0
  have w4 := (x2.2 aw 4 lt_aw (fun h => (hi_ne k_aw k_am (by decide)) h.1)).trans w4
  have lt_am := Nat.lt_of_lt_of_le lt_am x2.1
  have lt_aw := Nat.lt_of_lt_of_le lt_aw x2.1
  refine hs_aload (i := 0) (p := 6) (by decide +kernel) rfl ?_
  refine hs_aload (i := 0) (p := 7) (by decide +kernel) rfl ?_
  refine hs_iload (i := 1) (p := 8) (by decide +kernel) rfl ?_
  refine ht_callv (T := et_TT) (t := 13) (mi := 208) (na := 1) (ci := 11) (lk := 4) (lm := 2) (L0 := eg_en (eg_mL 208) [.ref am, .int (Int32.ofNat n)]) (by decide +kernel) rfl hH k_am rfl rfl rfl rfl rfl (by rw [show eg_mL 208 = 2 from by decide +kernel]; first | done | rfl) ?_
  refine (fm_nEy hH k_am k_aw m1 w4 hec hn (by omega)).mono (fun u hu => xp_cb hu ?_)
  show et_go none _ 270 11 _ [.int (Int32.ofNat 0), .ref am] _ _ _ _
  refine hs_if0 (c := .ne) (t := 22) (f := 14) (by decide +kernel) (show ¬ (¬ Int32.ofNat 0 = 0) by decide) ?_
  refine hs_aload (i := 0) (p := 15) (by decide +kernel) rfl ?_
  refine hs_iload (i := 2) (p := 16) (by decide +kernel) rfl ?_
  refine ht_callv (T := et_TT) (t := 13) (mi := 210) (na := 1) (ci := 11) (lk := 4) (lm := 2) (L0 := eg_en (eg_mL 210) [.ref am, .int y]) (by decide +kernel) rfl hH k_am rfl rfl rfl rfl rfl (by rw [show eg_mL 210 = 2 from by decide +kernel]; first | done | rfl) ?_
  refine (fm_nR (x := y) hH k_am k_aw m1 w0 hrc (by omega)).mono (fun u hu => xp_cb hu ?_)
  by_cases xu : 0 ≤ (y).toInt ∧ (y).toInt < (rc : Int)
  · exact absurd xu hy
  · rw [if_neg xu]
    show et_go none _ 270 19 _ [.int (Int32.ofNat 1), .ref am] _ _ _ _
    refine hs_if0 (c := .eq) (t := 26) (f := 22) (by decide +kernel) (show ¬ (Int32.ofNat 1 = 0) by decide) ?_
    refine hs_k (x := Int32.ofNat 1) (p := 23) (by decide +kernel) ?_
    refine hs_goto (p := 27) (by decide +kernel) ?_
    refine hs_k (x := Int32.ofNat 1) (p := 28) (by decide +kernel) ?_
    have hHo := hH
    refine ht_callv (T := et_TT) (t := 13) (mi := 204) (na := 2) (ci := 11) (lk := 4) (lm := 3) (L0 := eg_en (eg_mL 204) [.ref am, .int (Int32.ofNat 1), .int (Int32.ofNat 1)]) (by decide +kernel) rfl hH k_am rfl rfl rfl rfl rfl (by rw [show eg_mL 204 = 3 from by decide +kernel]; first | done | rfl) ?_
    refine (fm_t1 hH k_am).mono (fun u hu => xw_cb hu (fun G28 v28 hH x28 hP28 => ?_))
    have hT : ∀ r, r < rc → txP G28 aw (126 + 841 * r) 0 (g r) ∧ fcl (g r) := fun r hr => ⟨(hT r hr).1.xs lt_aw x28 (fun j h => hi_ne k_aw k_am (by decide) h.1), (hT r hr).2⟩
    have hky := hky.xs hHo k_am k_aw x28 (fun b j t kb hs => by rw [hs.1, k_am] at kb; cases kb; rw [hs.2]; exact ⟨by decide, by decide, fun _ => ⟨by decide, by decide⟩, fun h => absurd h (by decide)⟩)
    have hm := hm.mv ho (fun j _ _ => x28.2 aw j lt_aw (fun h => hi_ne k_aw k_am (by decide) h.1))
    have m1 := (x28.2 am 1 lt_am (fun h => absurd h.2 (by decide))).trans m1
    have w0 := (x28.2 aw 0 lt_aw (fun h => (hi_ne k_aw k_am (by decide)) h.1)).trans w0
    have w4 := (x28.2 aw 4 lt_aw (fun h => (hi_ne k_aw k_am (by decide)) h.1)).trans w4
    have lt_am := Nat.lt_of_lt_of_le lt_am x28.1
    have lt_aw := Nat.lt_of_lt_of_le lt_aw x28.1
    obtain ⟨rfl, th28⟩ := hP28
    show et_go none _ 270 31 _ [.int (Int32.ofNat 1)] _ _ _ _
    refine hs_if1 (c := .ne) (t := 57) (f := 34) (by decide +kernel) (show ¬ Int32.ofNat 1 = 0 by decide) ?_
    refine hs_k (x := Int32.ofNat 0) (p := 58) (by decide +kernel) ?_
    refine hs_iret (by decide +kernel) ?_
    exact ⟨rfl, th28, hky, hm⟩
theorem fn_odE (hH : et_H et_TT K G) (k_am : K am = some 13) (k_aw : K aw = some 46) (m1 : et_pl (eg_at G am) 1 = some (.ref aw)) (w0 : et_pl (eg_at G aw) 0 = some (.int (Int32.ofNat rc))) (hrc : rc ≤ 4) (w4 : et_pl (eg_at G aw) 4 = some (.int (Int32.ofNat ec))) (hec : ec ≤ 3) (hm : zyM G aw ec V) (ho : ∀ n, n < 3 → evo (V n)) (hT : ∀ r, r < rc → txP G aw (126 + 841 * r) 0 (g r) ∧ fcl (g r)) (hky : kyA G am aw rc) (hx : ¬ xr x ec) (hd : 3 ≤ d2) : et_go none d2 270 0 (eg_en (eg_mL 270) [.ref am, .int x, .int y, .int z]) [] G 0 0 (fun u => u.1 = .inl (some (.int (Int32.ofNat 0))) ∧ et_pl (eg_at u.2.1 am) 0 = some (.int (Int32.ofNat 1)) ∧ (kyA u.2.1 am aw rc ∧ zyM u.2.1 aw ec V)) := by
  obtain ⟨d, rfl⟩ : ∃ d, d2 = d + 3 := ⟨d2 - 3, by omega⟩
  rw [show eg_mL 270 = 4 from by decide +kernel]
  show et_go none (d + 3) 270 0 [some (.ref am), some (.int x), some (.int y), some (.int z)] [] G 0 0 _
  have lt_am := (hH.2.2 _ _ k_am).1
  have lt_aw := (hH.2.2 _ _ k_aw).1
  refine hs_aload (i := 0) (p := 1) (by decide +kernel) rfl ?_
  refine hs_k (x := Int32.ofNat 0) (p := 2) (by decide +kernel) ?_
  have hHo := hH
  refine hf_put (T := et_TT) (t := 13) (ci := 11) (f := 0) (p := 5) (ty := .int) (by decide +kernel) rfl rfl rfl rfl rfl hH k_am hi_any (fun G2 hH x2 e2 => ?_)
  have hT : ∀ r, r < rc → txP G2 aw (126 + 841 * r) 0 (g r) ∧ fcl (g r) := fun r hr => ⟨(hT r hr).1.xs lt_aw x2 (fun j h => hi_ne k_aw k_am (by decide) h.1), (hT r hr).2⟩
  have hky := hky.xs hHo k_am k_aw x2 (fun b j t kb hs => by rw [hs.1, k_am] at kb; cases kb; rw [hs.2]; exact ⟨by decide, by decide, fun _ => ⟨by decide, by decide⟩, fun h => absurd h (by decide)⟩)
  have hm := hm.mv ho (fun j _ _ => x2.2 aw j lt_aw (fun h => hi_ne k_aw k_am (by decide) h.1))
  have m1 := (x2.2 am 1 lt_am (fun h => absurd h.2 (by decide))).trans m1
  have w0 := (x2.2 aw 0 lt_aw (fun h => (hi_ne k_aw k_am (by decide)) h.1)).trans w0
  have w4 := (x2.2 aw 4 lt_aw (fun h => (hi_ne k_aw k_am (by decide)) h.1)).trans w4
  have lt_am := Nat.lt_of_lt_of_le lt_am x2.1
  have lt_aw := Nat.lt_of_lt_of_le lt_aw x2.1
  refine hs_aload (i := 0) (p := 6) (by decide +kernel) rfl ?_
  refine hs_aload (i := 0) (p := 7) (by decide +kernel) rfl ?_
  refine hs_iload (i := 1) (p := 8) (by decide +kernel) rfl ?_
  refine ht_callv (T := et_TT) (t := 13) (mi := 208) (na := 1) (ci := 11) (lk := 4) (lm := 2) (L0 := eg_en (eg_mL 208) [.ref am, .int x]) (by decide +kernel) rfl hH k_am rfl rfl rfl rfl rfl (by rw [show eg_mL 208 = 2 from by decide +kernel]; first | done | rfl) ?_
  refine (fm_nEn hH k_am k_aw m1 w4 hec hx (by omega)).mono (fun u hu => xp_cb hu ?_)
  show et_go none _ 270 11 _ [.int (Int32.ofNat 1), .ref am] _ _ _ _
  refine hs_if1 (c := .ne) (t := 22) (f := 14) (by decide +kernel) (show ¬ Int32.ofNat 1 = 0 by decide) ?_
  refine hs_k (x := Int32.ofNat 1) (p := 23) (by decide +kernel) ?_
  refine hs_goto (p := 27) (by decide +kernel) ?_
  refine hs_k (x := Int32.ofNat 1) (p := 28) (by decide +kernel) ?_
  have hHo := hH
  refine ht_callv (T := et_TT) (t := 13) (mi := 204) (na := 2) (ci := 11) (lk := 4) (lm := 3) (L0 := eg_en (eg_mL 204) [.ref am, .int (Int32.ofNat 1), .int (Int32.ofNat 1)]) (by decide +kernel) rfl hH k_am rfl rfl rfl rfl rfl (by rw [show eg_mL 204 = 3 from by decide +kernel]; first | done | rfl) ?_
  refine (fm_t1 hH k_am).mono (fun u hu => xw_cb hu (fun G28 v28 hH x28 hP28 => ?_))
  have hT : ∀ r, r < rc → txP G28 aw (126 + 841 * r) 0 (g r) ∧ fcl (g r) := fun r hr => ⟨(hT r hr).1.xs lt_aw x28 (fun j h => hi_ne k_aw k_am (by decide) h.1), (hT r hr).2⟩
  have hky := hky.xs hHo k_am k_aw x28 (fun b j t kb hs => by rw [hs.1, k_am] at kb; cases kb; rw [hs.2]; exact ⟨by decide, by decide, fun _ => ⟨by decide, by decide⟩, fun h => absurd h (by decide)⟩)
  have hm := hm.mv ho (fun j _ _ => x28.2 aw j lt_aw (fun h => hi_ne k_aw k_am (by decide) h.1))
  have m1 := (x28.2 am 1 lt_am (fun h => absurd h.2 (by decide))).trans m1
  have w0 := (x28.2 aw 0 lt_aw (fun h => (hi_ne k_aw k_am (by decide)) h.1)).trans w0
  have w4 := (x28.2 aw 4 lt_aw (fun h => (hi_ne k_aw k_am (by decide)) h.1)).trans w4
  have lt_am := Nat.lt_of_lt_of_le lt_am x28.1
  have lt_aw := Nat.lt_of_lt_of_le lt_aw x28.1
  obtain ⟨rfl, th28⟩ := hP28
  show et_go none _ 270 31 _ [.int (Int32.ofNat 1)] _ _ _ _
  refine hs_if1 (c := .ne) (t := 57) (f := 34) (by decide +kernel) (show ¬ Int32.ofNat 1 = 0 by decide) ?_
  refine hs_k (x := Int32.ofNat 0) (p := 58) (by decide +kernel) ?_
  refine hs_iret (by decide +kernel) ?_
  exact ⟨rfl, th28, hky, hm⟩
end YPB
