/-! FUNCTIONAL: the reference's holdsLine -/
/-- one value of the stack is written -/
def stU (V V2 : Nat → Int64) (n : Nat) (x : Int64) : Prop := V2 n = x ∧ ∀ j, ¬ j = n → V2 j = V j
theorem stU.mk {V : Nat → Int64} {n : Nat} {x : Int64} : stU V (vp_updL V n x) n x := ⟨if_pos rfl, fun _ h => if_neg h⟩
/-- what a step puts down: a number, a fact, a tag, a CELL -/
def rvA (FA TG : Nat → Int32) (li : Int32) (j : Nat) (y : Int32) : Int64 := if j = 13 then y.toInt64 else if j < 10 then (FA j).toInt64 else if j = 12 then (if (li >>> (y &&& 31)) &&& Int32.ofNat 1 = Int32.ofNat 1 then Int64.ofNat 1 else Int64.ofNat 0) else (if TG (j - 10) = 0 then Int64.ofNat 0 else Int64.ofNat 1)
def rvC (o : Nat) (a b : Int64) : Int64 := if o = 15 then a + b else if o = 14 then a * b else if o = 16 then (if 0 ≤ lg_cmp a b then Int64.ofNat 0 else Int64.ofNat 1) else if o = 17 then (if lg_cmp a b ≤ 0 then Int64.ofNat 0 else Int64.ofNat 1) else if o = 19 then (if lg_cmp (a + b) 2 = 0 then Int64.ofNat 1 else Int64.ofNat 0) else (if lg_cmp (a + b) (Int64.ofNat 0) ≤ 0 then Int64.ofNat 0 else Int64.ofNat 1)
section RTH
variable {d am aw va fa tg : Nat} {G : eg_G} {F : Nat → Value} {W FA TG : Nat → Int32} {V : Nat → Int64} {Z : eg_O → Prop} {li : Int32}
theorem rf_hlA (hV : rp_V G am aw va fa tg F FA TG) {t n tp ky i : Nat} {y : Int32} {j : Nat} (hj : j ≤ 4 ∨ (10 ≤ j ∧ j ≤ 13)) (hx : W (126 + 841 * t + 41 + 2 * i) = Int32.ofNat j) (hy : W (126 + 841 * t + 41 + 2 * i + 1) = y) (hli : F 16 = .int li) (ht : t < 14) (hi : i < 400) (hp : tp ≤ 399)  {x6 x7 x8 x9 x10 x11 x12 : Option Value} (h : ∀ (V2 : Nat → Int64) (x6 x7 x8 x9 x10 x11 x12 : Option Value), stU V V2 (tp) (rvA FA TG li j y) → et_go none (d + 1) 216 20 [some (.ref am), some (.int (Int32.ofNat t)), some (.int (Int32.ofNat n)), some (.int (Int32.ofNat (tp + 1))), some (.int (Int32.ofNat ky)), some (.int (Int32.ofNat (i + 1))), x6, x7, x8, x9, x10, x11, x12] [] (hm_H (eg_u G va (hv_c V2)) am aw F W) 0 0 Z) : et_go none (d + 1) 216 34 [some (.ref am), some (.int (Int32.ofNat t)), some (.int (Int32.ofNat n)), some (.int (Int32.ofNat tp)), some (.int (Int32.ofNat ky)), some (.int (Int32.ofNat i)), x6, x7, x8, x9, x10, x11, x12] [] (hm_H (eg_u G va (hv_c V)) am aw F W) 0 0 Z := by
  refine hs_aload (i := 0) (p := 35) (by decide +kernel) rfl ?_
  refine hm_get (hm_okv hV) (f := 1) (p := 38) (by decide +kernel) rfl hV.2.1 ?_
  refine hs_iload (i := 1) (p := 39) (by decide +kernel) rfl ?_
  refine hs_calls (mi := 186) (na := 1) (lk := 13) (lm := 1) (by decide +kernel) rfl rfl rfl rfl rfl rfl rfl (rp_textAt (hs_cb ?_))
  show et_go none _ 216 42 _ [.int (Int32.ofNat (126 + 841 * t)), .ref aw] _ _ _ _
  refine hs_k (x := Int32.ofNat 41) (p := 44) (by decide +kernel) ?_
  refine hs_iaddn (p := 45) (by decide +kernel) ?_
  refine hs_k (x := Int32.ofNat 2) (p := 46) (by decide +kernel) ?_
  refine hs_iload (i := 5) (p := 48) (by decide +kernel) rfl ?_
  refine hs_imuln (p := 49) (by decide +kernel) ?_
  refine hs_iaddn (p := 50) (by decide +kernel) ?_
  refine hv_w hV (p := 51) (x := Int32.ofNat j) (by decide +kernel) (by omega) hx ?_
  refine hs_istore (i := 6) (p := 53) (by decide +kernel) (Nat.le_of_ble_eq_true rfl) ?_
  refine hs_aload (i := 0) (p := 54) (by decide +kernel) rfl ?_
  refine hm_get (hm_okv hV) (f := 1) (p := 57) (by decide +kernel) rfl hV.2.1 ?_
  refine hs_iload (i := 1) (p := 58) (by decide +kernel) rfl ?_
  refine hs_calls (mi := 186) (na := 1) (lk := 13) (lm := 1) (by decide +kernel) rfl rfl rfl rfl rfl rfl rfl (rp_textAt (hs_cb ?_))
  show et_go none _ 216 61 _ [.int (Int32.ofNat (126 + 841 * t)), .ref aw] _ _ _ _
  refine hs_k (x := Int32.ofNat 41) (p := 63) (by decide +kernel) ?_
  refine hs_iaddn (p := 64) (by decide +kernel) ?_
  refine hs_k (x := Int32.ofNat 2) (p := 65) (by decide +kernel) ?_
  refine hs_iload (i := 5) (p := 67) (by decide +kernel) rfl ?_
  refine hs_imuln (p := 68) (by decide +kernel) ?_
  refine hs_iaddn (p := 69) (by decide +kernel) ?_
  refine hs_k (x := Int32.ofNat 1) (p := 70) (by decide +kernel) ?_
  refine hs_iaddn (p := 71) (by decide +kernel) ?_
  refine hv_w hV (p := 72) (x := y) (by decide +kernel) (by omega) hy ?_
  refine hs_istore (i := 7) (p := 74) (by decide +kernel) (Nat.le_of_ble_eq_true rfl) ?_
  refine hs_iload (i := 6) (p := 76) (by decide +kernel) rfl ?_
  refine hs_k (x := Int32.ofNat 13) (p := 78) (by decide +kernel) ?_
  refine hs_br2n (c := .gt) (t := 191) (f := 81) (by decide +kernel) (by omega) (by omega) (fun (c78 : 13 < j) => ?_) (fun (c78 : ¬ (13 < j)) => ?_)
  · exact absurd c78 (by omega)
  · refine hs_iload (i := 6) (p := 83) (by decide +kernel) rfl ?_
    refine hs_k (x := Int32.ofNat 10) (p := 85) (by decide +kernel) ?_
    refine hs_br2n (c := .lt) (t := 135) (f := 88) (by decide +kernel) (by omega) (by omega) (fun (c85 : j < 10) => ?_) (fun (c85 : ¬ (j < 10)) => ?_)
    · refine hs_k (x := Int32.ofNat 0) (p := 136) (by decide +kernel) ?_
      refine hs_istore (i := 8) (p := 138) (by decide +kernel) (Nat.le_of_ble_eq_true rfl) ?_
      refine hs_aload (i := 0) (p := 139) (by decide +kernel) rfl ?_
      refine hm_get (hm_okv hV) (f := 17) (p := 142) (by decide +kernel) rfl hV.2.2.1.1 ?_
      refine hs_iload (i := 3) (p := 143) (by decide +kernel) rfl ?_
      refine hs_iload (i := 6) (p := 145) (by decide +kernel) rfl ?_
      refine hs_k (x := Int32.ofNat 13) (p := 147) (by decide +kernel) ?_
      refine hs_br2n (c := .ne) (t := 156) (f := 150) (by decide +kernel) (by omega) (by omega) (fun (c147 : ¬ j = 13) => ?_) (fun (c147 : ¬ (¬ j = 13)) => ?_)
      · refine hs_iload (i := 6) (p := 158) (by decide +kernel) rfl ?_
        refine hs_k (x := Int32.ofNat 10) (p := 160) (by decide +kernel) ?_
        refine hs_br2n (c := .ge) (t := 174) (f := 163) (by decide +kernel) (by omega) (by omega) (fun (c160 : 10 ≤ j) => ?_) (fun (c160 : ¬ (10 ≤ j)) => ?_)
        · refine hs_iload (i := 8) (p := 176) (by decide +kernel) rfl ?_
          refine hs_if1 (c := .eq) (t := 183) (f := 179) (by decide +kernel) (show Int32.ofNat 0 = 0 by decide) ?_
          refine hs_lcon (x := (Int64.ofNat 0)) (p := 184) (by decide +kernel) ?_
          refine hv_st hV (p := 185) (by decide +kernel) (by omega) ?_
          refine hs_iinc1 (i := 3) (p := 188) (by decide +kernel) rfl (Nat.le_of_ble_eq_true rfl) ?_
          refine hs_goto (p := 378) (by decide +kernel) ?_
          refine hs_iinc1 (i := 5) (p := 381) (by decide +kernel) rfl (Nat.le_of_ble_eq_true rfl) ?_
          refine hs_goto (p := 20) (by decide +kernel) ?_
          first
            | exact False.elim (by omega)
            | exact h _ _ _ _ _ _ _ _ (by rw [show rvA FA TG li j y = (Int64.ofNat 0) from by unfold rvA; (repeat' split) <;> first | rfl | (exfalso; omega) | (exfalso; simp_all)]; exact stU.mk)
        · refine hs_aload (i := 0) (p := 164) (by decide +kernel) rfl ?_
          refine hm_get (hm_okv hV) (f := 14) (p := 167) (by decide +kernel) rfl hV.2.2.2.1.1 ?_
          refine hs_iload (i := 6) (p := 169) (by decide +kernel) rfl ?_
          refine hv_fa hV (p := 170) (by decide +kernel) (by omega) ?_
          refine hs_i2l (p := 171) (by decide +kernel) ?_
          refine hs_goto (p := 184) (by decide +kernel) ?_
          refine hv_st hV (p := 185) (by decide +kernel) (by omega) ?_
          refine hs_iinc1 (i := 3) (p := 188) (by decide +kernel) rfl (Nat.le_of_ble_eq_true rfl) ?_
          refine hs_goto (p := 378) (by decide +kernel) ?_
          refine hs_iinc1 (i := 5) (p := 381) (by decide +kernel) rfl (Nat.le_of_ble_eq_true rfl) ?_
          refine hs_goto (p := 20) (by decide +kernel) ?_
          first
            | exact False.elim (by omega)
            | exact h _ _ _ _ _ _ _ _ (by rw [show rvA FA TG li j y = ((FA j)).toInt64 from by unfold rvA; (repeat' split) <;> first | rfl | (exfalso; omega) | (exfalso; simp_all)]; exact stU.mk)
      · refine hs_iload (i := 7) (p := 152) (by decide +kernel) rfl ?_
        refine hs_i2l (p := 153) (by decide +kernel) ?_
        refine hs_goto (p := 184) (by decide +kernel) ?_
        refine hv_st hV (p := 185) (by decide +kernel) (by omega) ?_
        refine hs_iinc1 (i := 3) (p := 188) (by decide +kernel) rfl (Nat.le_of_ble_eq_true rfl) ?_
        refine hs_goto (p := 378) (by decide +kernel) ?_
        refine hs_iinc1 (i := 5) (p := 381) (by decide +kernel) rfl (Nat.le_of_ble_eq_true rfl) ?_
        refine hs_goto (p := 20) (by decide +kernel) ?_
        first
          | exact False.elim (by omega)
          | exact h _ _ _ _ _ _ _ _ (by rw [show rvA FA TG li j y = (y).toInt64 from by unfold rvA; (repeat' split) <;> first | rfl | (exfalso; omega) | (exfalso; simp_all)]; exact stU.mk)
    · refine hs_iload (i := 6) (p := 90) (by decide +kernel) rfl ?_
      refine hs_k (x := Int32.ofNat 13) (p := 92) (by decide +kernel) ?_
      refine hs_br2n (c := .ge) (t := 135) (f := 95) (by decide +kernel) (by omega) (by omega) (fun (c92 : 13 ≤ j) => ?_) (fun (c92 : ¬ (13 ≤ j)) => ?_)
      · refine hs_k (x := Int32.ofNat 0) (p := 136) (by decide +kernel) ?_
        refine hs_istore (i := 8) (p := 138) (by decide +kernel) (Nat.le_of_ble_eq_true rfl) ?_
        refine hs_aload (i := 0) (p := 139) (by decide +kernel) rfl ?_
        refine hm_get (hm_okv hV) (f := 17) (p := 142) (by decide +kernel) rfl hV.2.2.1.1 ?_
        refine hs_iload (i := 3) (p := 143) (by decide +kernel) rfl ?_
        refine hs_iload (i := 6) (p := 145) (by decide +kernel) rfl ?_
        refine hs_k (x := Int32.ofNat 13) (p := 147) (by decide +kernel) ?_
        refine hs_br2n (c := .ne) (t := 156) (f := 150) (by decide +kernel) (by omega) (by omega) (fun (c147 : ¬ j = 13) => ?_) (fun (c147 : ¬ (¬ j = 13)) => ?_)
        · refine hs_iload (i := 6) (p := 158) (by decide +kernel) rfl ?_
          refine hs_k (x := Int32.ofNat 10) (p := 160) (by decide +kernel) ?_
          refine hs_br2n (c := .ge) (t := 174) (f := 163) (by decide +kernel) (by omega) (by omega) (fun (c160 : 10 ≤ j) => ?_) (fun (c160 : ¬ (10 ≤ j)) => ?_)
          · refine hs_iload (i := 8) (p := 176) (by decide +kernel) rfl ?_
            refine hs_if1 (c := .eq) (t := 183) (f := 179) (by decide +kernel) (show Int32.ofNat 0 = 0 by decide) ?_
            refine hs_lcon (x := (Int64.ofNat 0)) (p := 184) (by decide +kernel) ?_
            refine hv_st hV (p := 185) (by decide +kernel) (by omega) ?_
            refine hs_iinc1 (i := 3) (p := 188) (by decide +kernel) rfl (Nat.le_of_ble_eq_true rfl) ?_
            refine hs_goto (p := 378) (by decide +kernel) ?_
            refine hs_iinc1 (i := 5) (p := 381) (by decide +kernel) rfl (Nat.le_of_ble_eq_true rfl) ?_
            refine hs_goto (p := 20) (by decide +kernel) ?_
            first
              | exact False.elim (by omega)
              | exact h _ _ _ _ _ _ _ _ (by rw [show rvA FA TG li j y = (Int64.ofNat 0) from by unfold rvA; (repeat' split) <;> first | rfl | (exfalso; omega) | (exfalso; simp_all)]; exact stU.mk)
          · refine hs_aload (i := 0) (p := 164) (by decide +kernel) rfl ?_
            refine hm_get (hm_okv hV) (f := 14) (p := 167) (by decide +kernel) rfl hV.2.2.2.1.1 ?_
            refine hs_iload (i := 6) (p := 169) (by decide +kernel) rfl ?_
            refine hv_fa hV (p := 170) (by decide +kernel) (by omega) ?_
            refine hs_i2l (p := 171) (by decide +kernel) ?_
            refine hs_goto (p := 184) (by decide +kernel) ?_
            refine hv_st hV (p := 185) (by decide +kernel) (by omega) ?_
            refine hs_iinc1 (i := 3) (p := 188) (by decide +kernel) rfl (Nat.le_of_ble_eq_true rfl) ?_
            refine hs_goto (p := 378) (by decide +kernel) ?_
            refine hs_iinc1 (i := 5) (p := 381) (by decide +kernel) rfl (Nat.le_of_ble_eq_true rfl) ?_
            refine hs_goto (p := 20) (by decide +kernel) ?_
            first
              | exact False.elim (by omega)
              | exact h _ _ _ _ _ _ _ _ (by rw [show rvA FA TG li j y = ((FA j)).toInt64 from by unfold rvA; (repeat' split) <;> first | rfl | (exfalso; omega) | (exfalso; simp_all)]; exact stU.mk)
        · refine hs_iload (i := 7) (p := 152) (by decide +kernel) rfl ?_
          refine hs_i2l (p := 153) (by decide +kernel) ?_
          refine hs_goto (p := 184) (by decide +kernel) ?_
          refine hv_st hV (p := 185) (by decide +kernel) (by omega) ?_
          refine hs_iinc1 (i := 3) (p := 188) (by decide +kernel) rfl (Nat.le_of_ble_eq_true rfl) ?_
          refine hs_goto (p := 378) (by decide +kernel) ?_
          refine hs_iinc1 (i := 5) (p := 381) (by decide +kernel) rfl (Nat.le_of_ble_eq_true rfl) ?_
          refine hs_goto (p := 20) (by decide +kernel) ?_
          first
            | exact False.elim (by omega)
            | exact h _ _ _ _ _ _ _ _ (by rw [show rvA FA TG li j y = (y).toInt64 from by unfold rvA; (repeat' split) <;> first | rfl | (exfalso; omega) | (exfalso; simp_all)]; exact stU.mk)
      · refine hs_iload (i := 6) (p := 97) (by decide +kernel) rfl ?_
        refine hs_k (x := Int32.ofNat 12) (p := 99) (by decide +kernel) ?_
        refine hs_br2n (c := .ne) (t := 118) (f := 102) (by decide +kernel) (by omega) (by omega) (fun (c99 : ¬ j = 12) => ?_) (fun (c99 : ¬ (¬ j = 12)) => ?_)
        · refine hs_aload (i := 0) (p := 119) (by decide +kernel) rfl ?_
          refine hm_get (hm_okv hV) (f := 15) (p := 122) (by decide +kernel) rfl hV.2.2.2.2.1.1 ?_
          refine hs_iload (i := 6) (p := 124) (by decide +kernel) rfl ?_
          refine hs_k (x := Int32.ofNat 10) (p := 126) (by decide +kernel) ?_
          refine hs_isubn (p := 127) (by decide +kernel) (by omega) ?_
          refine hv_tg hV (p := 128) (by decide +kernel) (by omega) ?_
          refine hs_br1 (c := .eq) (t := 135) (f := 131) (by decide +kernel) (fun (c128 : (TG (j - 10)) = 0) => ?_) (fun (c128 : ¬ ((TG (j - 10)) = 0)) => ?_)
          · refine hs_k (x := Int32.ofNat 0) (p := 136) (by decide +kernel) ?_
            refine hs_istore (i := 8) (p := 138) (by decide +kernel) (Nat.le_of_ble_eq_true rfl) ?_
            refine hs_aload (i := 0) (p := 139) (by decide +kernel) rfl ?_
            refine hm_get (hm_okv hV) (f := 17) (p := 142) (by decide +kernel) rfl hV.2.2.1.1 ?_
            refine hs_iload (i := 3) (p := 143) (by decide +kernel) rfl ?_
            refine hs_iload (i := 6) (p := 145) (by decide +kernel) rfl ?_
            refine hs_k (x := Int32.ofNat 13) (p := 147) (by decide +kernel) ?_
            refine hs_br2n (c := .ne) (t := 156) (f := 150) (by decide +kernel) (by omega) (by omega) (fun (c147 : ¬ j = 13) => ?_) (fun (c147 : ¬ (¬ j = 13)) => ?_)
            · refine hs_iload (i := 6) (p := 158) (by decide +kernel) rfl ?_
              refine hs_k (x := Int32.ofNat 10) (p := 160) (by decide +kernel) ?_
              refine hs_br2n (c := .ge) (t := 174) (f := 163) (by decide +kernel) (by omega) (by omega) (fun (c160 : 10 ≤ j) => ?_) (fun (c160 : ¬ (10 ≤ j)) => ?_)
              · refine hs_iload (i := 8) (p := 176) (by decide +kernel) rfl ?_
                refine hs_if1 (c := .eq) (t := 183) (f := 179) (by decide +kernel) (show Int32.ofNat 0 = 0 by decide) ?_
                refine hs_lcon (x := (Int64.ofNat 0)) (p := 184) (by decide +kernel) ?_
                refine hv_st hV (p := 185) (by decide +kernel) (by omega) ?_
                refine hs_iinc1 (i := 3) (p := 188) (by decide +kernel) rfl (Nat.le_of_ble_eq_true rfl) ?_
                refine hs_goto (p := 378) (by decide +kernel) ?_
                refine hs_iinc1 (i := 5) (p := 381) (by decide +kernel) rfl (Nat.le_of_ble_eq_true rfl) ?_
                refine hs_goto (p := 20) (by decide +kernel) ?_
                first
                  | exact False.elim (by omega)
                  | exact h _ _ _ _ _ _ _ _ (by rw [show rvA FA TG li j y = (Int64.ofNat 0) from by unfold rvA; (repeat' split) <;> first | rfl | (exfalso; omega) | (exfalso; simp_all)]; exact stU.mk)
              · refine hs_aload (i := 0) (p := 164) (by decide +kernel) rfl ?_
                refine hm_get (hm_okv hV) (f := 14) (p := 167) (by decide +kernel) rfl hV.2.2.2.1.1 ?_
                refine hs_iload (i := 6) (p := 169) (by decide +kernel) rfl ?_
                refine hv_fa hV (p := 170) (by decide +kernel) (by omega) ?_
                refine hs_i2l (p := 171) (by decide +kernel) ?_
                refine hs_goto (p := 184) (by decide +kernel) ?_
                refine hv_st hV (p := 185) (by decide +kernel) (by omega) ?_
                refine hs_iinc1 (i := 3) (p := 188) (by decide +kernel) rfl (Nat.le_of_ble_eq_true rfl) ?_
                refine hs_goto (p := 378) (by decide +kernel) ?_
                refine hs_iinc1 (i := 5) (p := 381) (by decide +kernel) rfl (Nat.le_of_ble_eq_true rfl) ?_
                refine hs_goto (p := 20) (by decide +kernel) ?_
                first
                  | exact False.elim (by omega)
                  | exact h _ _ _ _ _ _ _ _ (by rw [show rvA FA TG li j y = ((FA j)).toInt64 from by unfold rvA; (repeat' split) <;> first | rfl | (exfalso; omega) | (exfalso; simp_all)]; exact stU.mk)
            · refine hs_iload (i := 7) (p := 152) (by decide +kernel) rfl ?_
              refine hs_i2l (p := 153) (by decide +kernel) ?_
              refine hs_goto (p := 184) (by decide +kernel) ?_
              refine hv_st hV (p := 185) (by decide +kernel) (by omega) ?_
              refine hs_iinc1 (i := 3) (p := 188) (by decide +kernel) rfl (Nat.le_of_ble_eq_true rfl) ?_
              refine hs_goto (p := 378) (by decide +kernel) ?_
              refine hs_iinc1 (i := 5) (p := 381) (by decide +kernel) rfl (Nat.le_of_ble_eq_true rfl) ?_
              refine hs_goto (p := 20) (by decide +kernel) ?_
              first
                | exact False.elim (by omega)
                | exact h _ _ _ _ _ _ _ _ (by rw [show rvA FA TG li j y = (y).toInt64 from by unfold rvA; (repeat' split) <;> first | rfl | (exfalso; omega) | (exfalso; simp_all)]; exact stU.mk)
          · refine hs_k (x := Int32.ofNat 1) (p := 132) (by decide +kernel) ?_
            refine hs_goto (p := 136) (by decide +kernel) ?_
            refine hs_istore (i := 8) (p := 138) (by decide +kernel) (Nat.le_of_ble_eq_true rfl) ?_
            refine hs_aload (i := 0) (p := 139) (by decide +kernel) rfl ?_
            refine hm_get (hm_okv hV) (f := 17) (p := 142) (by decide +kernel) rfl hV.2.2.1.1 ?_
            refine hs_iload (i := 3) (p := 143) (by decide +kernel) rfl ?_
            refine hs_iload (i := 6) (p := 145) (by decide +kernel) rfl ?_
            refine hs_k (x := Int32.ofNat 13) (p := 147) (by decide +kernel) ?_
            refine hs_br2n (c := .ne) (t := 156) (f := 150) (by decide +kernel) (by omega) (by omega) (fun (c147 : ¬ j = 13) => ?_) (fun (c147 : ¬ (¬ j = 13)) => ?_)
            · refine hs_iload (i := 6) (p := 158) (by decide +kernel) rfl ?_
              refine hs_k (x := Int32.ofNat 10) (p := 160) (by decide +kernel) ?_
              refine hs_br2n (c := .ge) (t := 174) (f := 163) (by decide +kernel) (by omega) (by omega) (fun (c160 : 10 ≤ j) => ?_) (fun (c160 : ¬ (10 ≤ j)) => ?_)
              · refine hs_iload (i := 8) (p := 176) (by decide +kernel) rfl ?_
                refine hs_if0 (c := .eq) (t := 183) (f := 179) (by decide +kernel) (show ¬ (Int32.ofNat 1 = 0) by decide) ?_
                refine hs_lcon (x := (Int64.ofNat 1)) (p := 180) (by decide +kernel) ?_
                refine hs_goto (p := 184) (by decide +kernel) ?_
                refine hv_st hV (p := 185) (by decide +kernel) (by omega) ?_
                refine hs_iinc1 (i := 3) (p := 188) (by decide +kernel) rfl (Nat.le_of_ble_eq_true rfl) ?_
                refine hs_goto (p := 378) (by decide +kernel) ?_
                refine hs_iinc1 (i := 5) (p := 381) (by decide +kernel) rfl (Nat.le_of_ble_eq_true rfl) ?_
                refine hs_goto (p := 20) (by decide +kernel) ?_
                first
                  | exact False.elim (by omega)
                  | exact h _ _ _ _ _ _ _ _ (by rw [show rvA FA TG li j y = (Int64.ofNat 1) from by unfold rvA; (repeat' split) <;> first | rfl | (exfalso; omega) | (exfalso; simp_all)]; exact stU.mk)
              · refine hs_aload (i := 0) (p := 164) (by decide +kernel) rfl ?_
                refine hm_get (hm_okv hV) (f := 14) (p := 167) (by decide +kernel) rfl hV.2.2.2.1.1 ?_
                refine hs_iload (i := 6) (p := 169) (by decide +kernel) rfl ?_
                refine hv_fa hV (p := 170) (by decide +kernel) (by omega) ?_
                refine hs_i2l (p := 171) (by decide +kernel) ?_
                refine hs_goto (p := 184) (by decide +kernel) ?_
                refine hv_st hV (p := 185) (by decide +kernel) (by omega) ?_
                refine hs_iinc1 (i := 3) (p := 188) (by decide +kernel) rfl (Nat.le_of_ble_eq_true rfl) ?_
                refine hs_goto (p := 378) (by decide +kernel) ?_
                refine hs_iinc1 (i := 5) (p := 381) (by decide +kernel) rfl (Nat.le_of_ble_eq_true rfl) ?_
                refine hs_goto (p := 20) (by decide +kernel) ?_
                first
                  | exact False.elim (by omega)
                  | exact h _ _ _ _ _ _ _ _ (by rw [show rvA FA TG li j y = ((FA j)).toInt64 from by unfold rvA; (repeat' split) <;> first | rfl | (exfalso; omega) | (exfalso; simp_all)]; exact stU.mk)
            · refine hs_iload (i := 7) (p := 152) (by decide +kernel) rfl ?_
              refine hs_i2l (p := 153) (by decide +kernel) ?_
              refine hs_goto (p := 184) (by decide +kernel) ?_
              refine hv_st hV (p := 185) (by decide +kernel) (by omega) ?_
              refine hs_iinc1 (i := 3) (p := 188) (by decide +kernel) rfl (Nat.le_of_ble_eq_true rfl) ?_
              refine hs_goto (p := 378) (by decide +kernel) ?_
              refine hs_iinc1 (i := 5) (p := 381) (by decide +kernel) rfl (Nat.le_of_ble_eq_true rfl) ?_
              refine hs_goto (p := 20) (by decide +kernel) ?_
              first
                | exact False.elim (by omega)
                | exact h _ _ _ _ _ _ _ _ (by rw [show rvA FA TG li j y = (y).toInt64 from by unfold rvA; (repeat' split) <;> first | rfl | (exfalso; omega) | (exfalso; simp_all)]; exact stU.mk)
        · refine hs_aload (i := 0) (p := 103) (by decide +kernel) rfl ?_
          refine hm_get (hm_okv hV) (f := 16) (p := 106) (by decide +kernel) rfl hli ?_
          refine hs_iload (i := 7) (p := 108) (by decide +kernel) rfl ?_
          refine hs_ishr (p := 109) (by decide +kernel) ?_
          refine hs_k (x := Int32.ofNat 1) (p := 110) (by decide +kernel) ?_
          refine hs_iand (p := 111) (by decide +kernel) ?_
          refine hs_k (x := Int32.ofNat 1) (p := 112) (by decide +kernel) ?_
          refine hs_br2 (c := .ne) (t := 135) (f := 115) (by decide +kernel) (fun (c112 : ¬ ((li >>> (y &&& 31)) &&& Int32.ofNat 1) = Int32.ofNat 1) => ?_) (fun (c112 : ¬ (¬ ((li >>> (y &&& 31)) &&& Int32.ofNat 1) = Int32.ofNat 1)) => ?_)
          · refine hs_k (x := Int32.ofNat 0) (p := 136) (by decide +kernel) ?_
            refine hs_istore (i := 8) (p := 138) (by decide +kernel) (Nat.le_of_ble_eq_true rfl) ?_
            refine hs_aload (i := 0) (p := 139) (by decide +kernel) rfl ?_
            refine hm_get (hm_okv hV) (f := 17) (p := 142) (by decide +kernel) rfl hV.2.2.1.1 ?_
            refine hs_iload (i := 3) (p := 143) (by decide +kernel) rfl ?_
            refine hs_iload (i := 6) (p := 145) (by decide +kernel) rfl ?_
            refine hs_k (x := Int32.ofNat 13) (p := 147) (by decide +kernel) ?_
            refine hs_br2n (c := .ne) (t := 156) (f := 150) (by decide +kernel) (by omega) (by omega) (fun (c147 : ¬ j = 13) => ?_) (fun (c147 : ¬ (¬ j = 13)) => ?_)
            · refine hs_iload (i := 6) (p := 158) (by decide +kernel) rfl ?_
              refine hs_k (x := Int32.ofNat 10) (p := 160) (by decide +kernel) ?_
              refine hs_br2n (c := .ge) (t := 174) (f := 163) (by decide +kernel) (by omega) (by omega) (fun (c160 : 10 ≤ j) => ?_) (fun (c160 : ¬ (10 ≤ j)) => ?_)
              · refine hs_iload (i := 8) (p := 176) (by decide +kernel) rfl ?_
                refine hs_if1 (c := .eq) (t := 183) (f := 179) (by decide +kernel) (show Int32.ofNat 0 = 0 by decide) ?_
                refine hs_lcon (x := (Int64.ofNat 0)) (p := 184) (by decide +kernel) ?_
                refine hv_st hV (p := 185) (by decide +kernel) (by omega) ?_
                refine hs_iinc1 (i := 3) (p := 188) (by decide +kernel) rfl (Nat.le_of_ble_eq_true rfl) ?_
                refine hs_goto (p := 378) (by decide +kernel) ?_
                refine hs_iinc1 (i := 5) (p := 381) (by decide +kernel) rfl (Nat.le_of_ble_eq_true rfl) ?_
                refine hs_goto (p := 20) (by decide +kernel) ?_
                first
                  | exact False.elim (by omega)
                  | exact h _ _ _ _ _ _ _ _ (by rw [show rvA FA TG li j y = (Int64.ofNat 0) from by unfold rvA; (repeat' split) <;> first | rfl | (exfalso; omega) | (exfalso; simp_all)]; exact stU.mk)
              · refine hs_aload (i := 0) (p := 164) (by decide +kernel) rfl ?_
                refine hm_get (hm_okv hV) (f := 14) (p := 167) (by decide +kernel) rfl hV.2.2.2.1.1 ?_
                refine hs_iload (i := 6) (p := 169) (by decide +kernel) rfl ?_
                refine hv_fa hV (p := 170) (by decide +kernel) (by omega) ?_
                refine hs_i2l (p := 171) (by decide +kernel) ?_
                refine hs_goto (p := 184) (by decide +kernel) ?_
                refine hv_st hV (p := 185) (by decide +kernel) (by omega) ?_
                refine hs_iinc1 (i := 3) (p := 188) (by decide +kernel) rfl (Nat.le_of_ble_eq_true rfl) ?_
                refine hs_goto (p := 378) (by decide +kernel) ?_
                refine hs_iinc1 (i := 5) (p := 381) (by decide +kernel) rfl (Nat.le_of_ble_eq_true rfl) ?_
                refine hs_goto (p := 20) (by decide +kernel) ?_
                first
                  | exact False.elim (by omega)
                  | exact h _ _ _ _ _ _ _ _ (by rw [show rvA FA TG li j y = ((FA j)).toInt64 from by unfold rvA; (repeat' split) <;> first | rfl | (exfalso; omega) | (exfalso; simp_all)]; exact stU.mk)
            · refine hs_iload (i := 7) (p := 152) (by decide +kernel) rfl ?_
              refine hs_i2l (p := 153) (by decide +kernel) ?_
              refine hs_goto (p := 184) (by decide +kernel) ?_
              refine hv_st hV (p := 185) (by decide +kernel) (by omega) ?_
              refine hs_iinc1 (i := 3) (p := 188) (by decide +kernel) rfl (Nat.le_of_ble_eq_true rfl) ?_
              refine hs_goto (p := 378) (by decide +kernel) ?_
              refine hs_iinc1 (i := 5) (p := 381) (by decide +kernel) rfl (Nat.le_of_ble_eq_true rfl) ?_
              refine hs_goto (p := 20) (by decide +kernel) ?_
              first
                | exact False.elim (by omega)
                | exact h _ _ _ _ _ _ _ _ (by rw [show rvA FA TG li j y = (y).toInt64 from by unfold rvA; (repeat' split) <;> first | rfl | (exfalso; omega) | (exfalso; simp_all)]; exact stU.mk)
          · refine hs_goto (p := 131) (by decide +kernel) ?_
            refine hs_k (x := Int32.ofNat 1) (p := 132) (by decide +kernel) ?_
            refine hs_goto (p := 136) (by decide +kernel) ?_
            refine hs_istore (i := 8) (p := 138) (by decide +kernel) (Nat.le_of_ble_eq_true rfl) ?_
            refine hs_aload (i := 0) (p := 139) (by decide +kernel) rfl ?_
            refine hm_get (hm_okv hV) (f := 17) (p := 142) (by decide +kernel) rfl hV.2.2.1.1 ?_
            refine hs_iload (i := 3) (p := 143) (by decide +kernel) rfl ?_
            refine hs_iload (i := 6) (p := 145) (by decide +kernel) rfl ?_
            refine hs_k (x := Int32.ofNat 13) (p := 147) (by decide +kernel) ?_
            refine hs_br2n (c := .ne) (t := 156) (f := 150) (by decide +kernel) (by omega) (by omega) (fun (c147 : ¬ j = 13) => ?_) (fun (c147 : ¬ (¬ j = 13)) => ?_)
            · refine hs_iload (i := 6) (p := 158) (by decide +kernel) rfl ?_
              refine hs_k (x := Int32.ofNat 10) (p := 160) (by decide +kernel) ?_
              refine hs_br2n (c := .ge) (t := 174) (f := 163) (by decide +kernel) (by omega) (by omega) (fun (c160 : 10 ≤ j) => ?_) (fun (c160 : ¬ (10 ≤ j)) => ?_)
              · refine hs_iload (i := 8) (p := 176) (by decide +kernel) rfl ?_
                refine hs_if0 (c := .eq) (t := 183) (f := 179) (by decide +kernel) (show ¬ (Int32.ofNat 1 = 0) by decide) ?_
                refine hs_lcon (x := (Int64.ofNat 1)) (p := 180) (by decide +kernel) ?_
                refine hs_goto (p := 184) (by decide +kernel) ?_
                refine hv_st hV (p := 185) (by decide +kernel) (by omega) ?_
                refine hs_iinc1 (i := 3) (p := 188) (by decide +kernel) rfl (Nat.le_of_ble_eq_true rfl) ?_
                refine hs_goto (p := 378) (by decide +kernel) ?_
                refine hs_iinc1 (i := 5) (p := 381) (by decide +kernel) rfl (Nat.le_of_ble_eq_true rfl) ?_
                refine hs_goto (p := 20) (by decide +kernel) ?_
                first
                  | exact False.elim (by omega)
                  | exact h _ _ _ _ _ _ _ _ (by rw [show rvA FA TG li j y = (Int64.ofNat 1) from by unfold rvA; (repeat' split) <;> first | rfl | (exfalso; omega) | (exfalso; simp_all)]; exact stU.mk)
              · refine hs_aload (i := 0) (p := 164) (by decide +kernel) rfl ?_
                refine hm_get (hm_okv hV) (f := 14) (p := 167) (by decide +kernel) rfl hV.2.2.2.1.1 ?_
                refine hs_iload (i := 6) (p := 169) (by decide +kernel) rfl ?_
                refine hv_fa hV (p := 170) (by decide +kernel) (by omega) ?_
                refine hs_i2l (p := 171) (by decide +kernel) ?_
                refine hs_goto (p := 184) (by decide +kernel) ?_
                refine hv_st hV (p := 185) (by decide +kernel) (by omega) ?_
                refine hs_iinc1 (i := 3) (p := 188) (by decide +kernel) rfl (Nat.le_of_ble_eq_true rfl) ?_
                refine hs_goto (p := 378) (by decide +kernel) ?_
                refine hs_iinc1 (i := 5) (p := 381) (by decide +kernel) rfl (Nat.le_of_ble_eq_true rfl) ?_
                refine hs_goto (p := 20) (by decide +kernel) ?_
                first
                  | exact False.elim (by omega)
                  | exact h _ _ _ _ _ _ _ _ (by rw [show rvA FA TG li j y = ((FA j)).toInt64 from by unfold rvA; (repeat' split) <;> first | rfl | (exfalso; omega) | (exfalso; simp_all)]; exact stU.mk)
            · refine hs_iload (i := 7) (p := 152) (by decide +kernel) rfl ?_
              refine hs_i2l (p := 153) (by decide +kernel) ?_
              refine hs_goto (p := 184) (by decide +kernel) ?_
              refine hv_st hV (p := 185) (by decide +kernel) (by omega) ?_
              refine hs_iinc1 (i := 3) (p := 188) (by decide +kernel) rfl (Nat.le_of_ble_eq_true rfl) ?_
              refine hs_goto (p := 378) (by decide +kernel) ?_
              refine hs_iinc1 (i := 5) (p := 381) (by decide +kernel) rfl (Nat.le_of_ble_eq_true rfl) ?_
              refine hs_goto (p := 20) (by decide +kernel) ?_
              first
                | exact False.elim (by omega)
                | exact h _ _ _ _ _ _ _ _ (by rw [show rvA FA TG li j y = (y).toInt64 from by unfold rvA; (repeat' split) <;> first | rfl | (exfalso; omega) | (exfalso; simp_all)]; exact stU.mk)
theorem rf_hlB (hV : rp_V G am aw va fa tg F FA TG) {t n tp ky i : Nat} {y : Int32}  (hx : W (126 + 841 * t + 41 + 2 * i) = Int32.ofNat 18) (hy : W (126 + 841 * t + 41 + 2 * i + 1) = y) (hli : F 16 = .int li) (ht : t < 14) (hi : i < 400) (hp : tp ≤ 399) (h1 : 1 ≤ tp) {x6 x7 x8 x9 x10 x11 x12 : Option Value} (h : ∀ (V2 : Nat → Int64) (x6 x7 x8 x9 x10 x11 x12 : Option Value), stU V V2 (tp - 1) (Int64.ofNat 1 - V (tp - 1)) → et_go none (d + 1) 216 20 [some (.ref am), some (.int (Int32.ofNat t)), some (.int (Int32.ofNat n)), some (.int (Int32.ofNat tp)), some (.int (Int32.ofNat ky)), some (.int (Int32.ofNat (i + 1))), x6, x7, x8, x9, x10, x11, x12] [] (hm_H (eg_u G va (hv_c V2)) am aw F W) 0 0 Z) : et_go none (d + 1) 216 34 [some (.ref am), some (.int (Int32.ofNat t)), some (.int (Int32.ofNat n)), some (.int (Int32.ofNat tp)), some (.int (Int32.ofNat ky)), some (.int (Int32.ofNat i)), x6, x7, x8, x9, x10, x11, x12] [] (hm_H (eg_u G va (hv_c V)) am aw F W) 0 0 Z := by
  refine hs_aload (i := 0) (p := 35) (by decide +kernel) rfl ?_
  refine hm_get (hm_okv hV) (f := 1) (p := 38) (by decide +kernel) rfl hV.2.1 ?_
  refine hs_iload (i := 1) (p := 39) (by decide +kernel) rfl ?_
  refine hs_calls (mi := 186) (na := 1) (lk := 13) (lm := 1) (by decide +kernel) rfl rfl rfl rfl rfl rfl rfl (rp_textAt (hs_cb ?_))
  show et_go none _ 216 42 _ [.int (Int32.ofNat (126 + 841 * t)), .ref aw] _ _ _ _
  refine hs_k (x := Int32.ofNat 41) (p := 44) (by decide +kernel) ?_
  refine hs_iaddn (p := 45) (by decide +kernel) ?_
  refine hs_k (x := Int32.ofNat 2) (p := 46) (by decide +kernel) ?_
  refine hs_iload (i := 5) (p := 48) (by decide +kernel) rfl ?_
  refine hs_imuln (p := 49) (by decide +kernel) ?_
  refine hs_iaddn (p := 50) (by decide +kernel) ?_
  refine hv_w hV (p := 51) (x := Int32.ofNat 18) (by decide +kernel) (by omega) hx ?_
  refine hs_istore (i := 6) (p := 53) (by decide +kernel) (Nat.le_of_ble_eq_true rfl) ?_
  refine hs_aload (i := 0) (p := 54) (by decide +kernel) rfl ?_
  refine hm_get (hm_okv hV) (f := 1) (p := 57) (by decide +kernel) rfl hV.2.1 ?_
  refine hs_iload (i := 1) (p := 58) (by decide +kernel) rfl ?_
  refine hs_calls (mi := 186) (na := 1) (lk := 13) (lm := 1) (by decide +kernel) rfl rfl rfl rfl rfl rfl rfl (rp_textAt (hs_cb ?_))
  show et_go none _ 216 61 _ [.int (Int32.ofNat (126 + 841 * t)), .ref aw] _ _ _ _
  refine hs_k (x := Int32.ofNat 41) (p := 63) (by decide +kernel) ?_
  refine hs_iaddn (p := 64) (by decide +kernel) ?_
  refine hs_k (x := Int32.ofNat 2) (p := 65) (by decide +kernel) ?_
  refine hs_iload (i := 5) (p := 67) (by decide +kernel) rfl ?_
  refine hs_imuln (p := 68) (by decide +kernel) ?_
  refine hs_iaddn (p := 69) (by decide +kernel) ?_
  refine hs_k (x := Int32.ofNat 1) (p := 70) (by decide +kernel) ?_
  refine hs_iaddn (p := 71) (by decide +kernel) ?_
  refine hv_w hV (p := 72) (x := y) (by decide +kernel) (by omega) hy ?_
  refine hs_istore (i := 7) (p := 74) (by decide +kernel) (Nat.le_of_ble_eq_true rfl) ?_
  refine hs_iload (i := 6) (p := 76) (by decide +kernel) rfl ?_
  refine hs_k (x := Int32.ofNat 13) (p := 78) (by decide +kernel) ?_
  refine hs_br2n (c := .gt) (t := 191) (f := 81) (by decide +kernel) (by omega) (by omega) (fun _ => ?_) (fun h => absurd (show 13 < 18 by decide) h)
  refine hs_iload (i := 6) (p := 193) (by decide +kernel) rfl ?_
  refine hs_k (x := Int32.ofNat 18) (p := 195) (by decide +kernel) ?_
  refine hs_br2n (c := .ne) (t := 219) (f := 198) (by decide +kernel) (by omega) (by omega) (fun h => absurd h (show ¬ (¬ 18 = 18) by decide)) (fun _ => ?_)
  refine hs_aload (i := 0) (p := 199) (by decide +kernel) rfl ?_
  refine hm_get (hm_okv hV) (f := 17) (p := 202) (by decide +kernel) rfl hV.2.2.1.1 ?_
  refine hs_iload (i := 3) (p := 203) (by decide +kernel) rfl ?_
  refine hs_k (x := Int32.ofNat 1) (p := 204) (by decide +kernel) ?_
  refine hs_isubn (p := 205) (by decide +kernel) (by omega) ?_
  refine hs_lcon (x := (Int64.ofNat 1)) (p := 206) (by decide +kernel) ?_
  refine hs_aload (i := 0) (p := 207) (by decide +kernel) rfl ?_
  refine hm_get (hm_okv hV) (f := 17) (p := 210) (by decide +kernel) rfl hV.2.2.1.1 ?_
  refine hs_iload (i := 3) (p := 211) (by decide +kernel) rfl ?_
  refine hs_k (x := Int32.ofNat 1) (p := 212) (by decide +kernel) ?_
  refine hs_isubn (p := 213) (by decide +kernel) (by omega) ?_
  refine hv_ld hV (p := 214) (by decide +kernel) (by omega) ?_
  refine hs_lsub (p := 215) (by decide +kernel) ?_
  refine hv_st hV (p := 216) (by decide +kernel) (by omega) ?_
  refine hs_goto (p := 378) (by decide +kernel) ?_
  refine hs_iinc1 (i := 5) (p := 381) (by decide +kernel) rfl (Nat.le_of_ble_eq_true rfl) ?_
  refine hs_goto (p := 20) (by decide +kernel) ?_
  exact h _ _ _ _ _ _ _ _ stU.mk
theorem rf_hlC (hV : rp_V G am aw va fa tg F FA TG) {t n tp ky i : Nat} {y : Int32} {o : Nat} (ho : 13 < o) (hn : ¬ o = 18) (ho2 : o < 2147483648) (hx : W (126 + 841 * t + 41 + 2 * i) = Int32.ofNat o) (hy : W (126 + 841 * t + 41 + 2 * i + 1) = y) (hli : F 16 = .int li) (ht : t < 14) (hi : i < 400) (hp : tp ≤ 399) (h1 : 2 ≤ tp) {x6 x7 x8 x9 x10 x11 x12 : Option Value} (h : ∀ (V2 : Nat → Int64) (x6 x7 x8 x9 x10 x11 x12 : Option Value), stU V V2 (tp - 1 - 1) (rvC o (V (tp - 1 - 1)) (V (tp - 1))) → et_go none (d + 1) 216 20 [some (.ref am), some (.int (Int32.ofNat t)), some (.int (Int32.ofNat n)), some (.int (Int32.ofNat (tp - 1))), some (.int (Int32.ofNat ky)), some (.int (Int32.ofNat (i + 1))), x6, x7, x8, x9, x10, x11, x12] [] (hm_H (eg_u G va (hv_c V2)) am aw F W) 0 0 Z) : et_go none (d + 1) 216 34 [some (.ref am), some (.int (Int32.ofNat t)), some (.int (Int32.ofNat n)), some (.int (Int32.ofNat tp)), some (.int (Int32.ofNat ky)), some (.int (Int32.ofNat i)), x6, x7, x8, x9, x10, x11, x12] [] (hm_H (eg_u G va (hv_c V)) am aw F W) 0 0 Z := by
  refine hs_aload (i := 0) (p := 35) (by decide +kernel) rfl ?_
  refine hm_get (hm_okv hV) (f := 1) (p := 38) (by decide +kernel) rfl hV.2.1 ?_
  refine hs_iload (i := 1) (p := 39) (by decide +kernel) rfl ?_
  refine hs_calls (mi := 186) (na := 1) (lk := 13) (lm := 1) (by decide +kernel) rfl rfl rfl rfl rfl rfl rfl (rp_textAt (hs_cb ?_))
  show et_go none _ 216 42 _ [.int (Int32.ofNat (126 + 841 * t)), .ref aw] _ _ _ _
  refine hs_k (x := Int32.ofNat 41) (p := 44) (by decide +kernel) ?_
  refine hs_iaddn (p := 45) (by decide +kernel) ?_
  refine hs_k (x := Int32.ofNat 2) (p := 46) (by decide +kernel) ?_
  refine hs_iload (i := 5) (p := 48) (by decide +kernel) rfl ?_
  refine hs_imuln (p := 49) (by decide +kernel) ?_
  refine hs_iaddn (p := 50) (by decide +kernel) ?_
  refine hv_w hV (p := 51) (x := Int32.ofNat o) (by decide +kernel) (by omega) hx ?_
  refine hs_istore (i := 6) (p := 53) (by decide +kernel) (Nat.le_of_ble_eq_true rfl) ?_
  refine hs_aload (i := 0) (p := 54) (by decide +kernel) rfl ?_
  refine hm_get (hm_okv hV) (f := 1) (p := 57) (by decide +kernel) rfl hV.2.1 ?_
  refine hs_iload (i := 1) (p := 58) (by decide +kernel) rfl ?_
  refine hs_calls (mi := 186) (na := 1) (lk := 13) (lm := 1) (by decide +kernel) rfl rfl rfl rfl rfl rfl rfl (rp_textAt (hs_cb ?_))
  show et_go none _ 216 61 _ [.int (Int32.ofNat (126 + 841 * t)), .ref aw] _ _ _ _
  refine hs_k (x := Int32.ofNat 41) (p := 63) (by decide +kernel) ?_
  refine hs_iaddn (p := 64) (by decide +kernel) ?_
  refine hs_k (x := Int32.ofNat 2) (p := 65) (by decide +kernel) ?_
  refine hs_iload (i := 5) (p := 67) (by decide +kernel) rfl ?_
  refine hs_imuln (p := 68) (by decide +kernel) ?_
  refine hs_iaddn (p := 69) (by decide +kernel) ?_
  refine hs_k (x := Int32.ofNat 1) (p := 70) (by decide +kernel) ?_
  refine hs_iaddn (p := 71) (by decide +kernel) ?_
  refine hv_w hV (p := 72) (x := y) (by decide +kernel) (by omega) hy ?_
  refine hs_istore (i := 7) (p := 74) (by decide +kernel) (Nat.le_of_ble_eq_true rfl) ?_
  refine hs_iload (i := 6) (p := 76) (by decide +kernel) rfl ?_
  refine hs_k (x := Int32.ofNat 13) (p := 78) (by decide +kernel) ?_
  refine hs_br2n (c := .gt) (t := 191) (f := 81) (by decide +kernel) (by omega) (by omega) (fun (c78 : 13 < o) => ?_) (fun (c78 : ¬ (13 < o)) => ?_)
  · refine hs_iload (i := 6) (p := 193) (by decide +kernel) rfl ?_
    refine hs_k (x := Int32.ofNat 18) (p := 195) (by decide +kernel) ?_
    refine hs_br2n (c := .ne) (t := 219) (f := 198) (by decide +kernel) (by omega) (by omega) (fun (c195 : ¬ o = 18) => ?_) (fun (c195 : ¬ (¬ o = 18)) => ?_)
    · refine hs_iincm (i := 3) (p := 222) (by decide +kernel) rfl (Nat.le_of_ble_eq_true rfl) (by omega) ?_
      refine hs_aload (i := 0) (p := 223) (by decide +kernel) rfl ?_
      refine hm_get (hm_okv hV) (f := 17) (p := 226) (by decide +kernel) rfl hV.2.2.1.1 ?_
      refine hs_iload (i := 3) (p := 227) (by decide +kernel) rfl ?_
      refine hs_k (x := Int32.ofNat 1) (p := 228) (by decide +kernel) ?_
      refine hs_isubn (p := 229) (by decide +kernel) (by omega) ?_
      refine hv_ld hV (p := 230) (by decide +kernel) (by omega) ?_
      refine hs_lstore (i := 8) (p := 232) (by decide +kernel) (Nat.le_of_ble_eq_true rfl) ?_
      refine hs_aload (i := 0) (p := 233) (by decide +kernel) rfl ?_
      refine hm_get (hm_okv hV) (f := 17) (p := 236) (by decide +kernel) rfl hV.2.2.1.1 ?_
      refine hs_iload (i := 3) (p := 237) (by decide +kernel) rfl ?_
      refine hv_ld hV (p := 238) (by decide +kernel) (by omega) ?_
      refine hs_lstore (i := 10) (p := 240) (by decide +kernel) (Nat.le_of_ble_eq_true rfl) ?_
      refine hs_iload (i := 6) (p := 242) (by decide +kernel) rfl ?_
      refine hs_k (x := Int32.ofNat 16) (p := 244) (by decide +kernel) ?_
      refine hs_br2n (c := .ne) (t := 263) (f := 247) (by decide +kernel) (by omega) (by omega) (fun (c244 : ¬ o = 16) => ?_) (fun (c244 : ¬ (¬ o = 16)) => ?_)
      · refine hs_iload (i := 6) (p := 265) (by decide +kernel) rfl ?_
        refine hs_k (x := Int32.ofNat 17) (p := 267) (by decide +kernel) ?_
        refine hs_br2n (c := .ne) (t := 286) (f := 270) (by decide +kernel) (by omega) (by omega) (fun (c267 : ¬ o = 17) => ?_) (fun (c267 : ¬ (¬ o = 17)) => ?_)
        · refine hs_iload (i := 6) (p := 288) (by decide +kernel) rfl ?_
          refine hs_k (x := Int32.ofNat 19) (p := 290) (by decide +kernel) ?_
          refine hs_br2n (c := .ne) (t := 313) (f := 293) (by decide +kernel) (by omega) (by omega) (fun (c290 : ¬ o = 19) => ?_) (fun (c290 : ¬ (¬ o = 19)) => ?_)
          · refine hs_lload (i := 8) (p := 315) (by decide +kernel) rfl ?_
            refine hs_lload (i := 10) (p := 317) (by decide +kernel) rfl ?_
            refine hs_ladd (p := 318) (by decide +kernel) ?_
            refine hs_lcon (x := (Int64.ofNat 0)) (p := 319) (by decide +kernel) ?_
            refine hs_lcmp (p := 320) (by decide +kernel) ?_
            refine hs_br1 (c := .le) (t := 327) (f := 323) (by decide +kernel) (fun (c320 : (lg_cmp ((V ((tp - 1) - 1)) + (V (tp - 1))) (Int64.ofNat 0)) ≤ 0) => ?_) (fun (c320 : ¬ ((lg_cmp ((V ((tp - 1) - 1)) + (V (tp - 1))) (Int64.ofNat 0)) ≤ 0)) => ?_)
            · refine hs_k (x := Int32.ofNat 0) (p := 328) (by decide +kernel) ?_
              refine hs_istore (i := 12) (p := 330) (by decide +kernel) (Nat.le_of_ble_eq_true rfl) ?_
              refine hs_aload (i := 0) (p := 331) (by decide +kernel) rfl ?_
              refine hm_get (hm_okv hV) (f := 17) (p := 334) (by decide +kernel) rfl hV.2.2.1.1 ?_
              refine hs_iload (i := 3) (p := 335) (by decide +kernel) rfl ?_
              refine hs_k (x := Int32.ofNat 1) (p := 336) (by decide +kernel) ?_
              refine hs_isubn (p := 337) (by decide +kernel) (by omega) ?_
              refine hs_iload (i := 6) (p := 339) (by decide +kernel) rfl ?_
              refine hs_k (x := Int32.ofNat 15) (p := 341) (by decide +kernel) ?_
              refine hs_br2n (c := .ne) (t := 352) (f := 344) (by decide +kernel) (by omega) (by omega) (fun (c341 : ¬ o = 15) => ?_) (fun (c341 : ¬ (¬ o = 15)) => ?_)
              · refine hs_iload (i := 6) (p := 354) (by decide +kernel) rfl ?_
                refine hs_k (x := Int32.ofNat 14) (p := 356) (by decide +kernel) ?_
                refine hs_br2n (c := .ne) (t := 367) (f := 359) (by decide +kernel) (by omega) (by omega) (fun (c356 : ¬ o = 14) => ?_) (fun (c356 : ¬ (¬ o = 14)) => ?_)
                · refine hs_iload (i := 12) (p := 369) (by decide +kernel) rfl ?_
                  refine hs_if1 (c := .eq) (t := 376) (f := 372) (by decide +kernel) (show Int32.ofNat 0 = 0 by decide) ?_
                  refine hs_lcon (x := (Int64.ofNat 0)) (p := 377) (by decide +kernel) ?_
                  refine hv_st hV (p := 378) (by decide +kernel) (by omega) ?_
                  refine hs_iinc1 (i := 5) (p := 381) (by decide +kernel) rfl (Nat.le_of_ble_eq_true rfl) ?_
                  refine hs_goto (p := 20) (by decide +kernel) ?_
                  first
                    | exact False.elim (by omega)
                    | exact h _ _ _ _ _ _ _ _ (by rw [show rvC o (V (tp - 1 - 1)) (V (tp - 1)) = (Int64.ofNat 0) from by unfold rvC; (repeat' split) <;> first | rfl | (exfalso; omega) | (exfalso; simp_all)]; exact stU.mk)
                · refine hs_lload (i := 8) (p := 361) (by decide +kernel) rfl ?_
                  refine hs_lload (i := 10) (p := 363) (by decide +kernel) rfl ?_
                  refine hs_lmul (p := 364) (by decide +kernel) ?_
                  refine hs_goto (p := 377) (by decide +kernel) ?_
                  refine hv_st hV (p := 378) (by decide +kernel) (by omega) ?_
                  refine hs_iinc1 (i := 5) (p := 381) (by decide +kernel) rfl (Nat.le_of_ble_eq_true rfl) ?_
                  refine hs_goto (p := 20) (by decide +kernel) ?_
                  first
                    | exact False.elim (by omega)
                    | exact h _ _ _ _ _ _ _ _ (by rw [show rvC o (V (tp - 1 - 1)) (V (tp - 1)) = ((V ((tp - 1) - 1)) * (V (tp - 1))) from by unfold rvC; (repeat' split) <;> first | rfl | (exfalso; omega) | (exfalso; simp_all)]; exact stU.mk)
              · refine hs_lload (i := 8) (p := 346) (by decide +kernel) rfl ?_
                refine hs_lload (i := 10) (p := 348) (by decide +kernel) rfl ?_
                refine hs_ladd (p := 349) (by decide +kernel) ?_
                refine hs_goto (p := 377) (by decide +kernel) ?_
                refine hv_st hV (p := 378) (by decide +kernel) (by omega) ?_
                refine hs_iinc1 (i := 5) (p := 381) (by decide +kernel) rfl (Nat.le_of_ble_eq_true rfl) ?_
                refine hs_goto (p := 20) (by decide +kernel) ?_
                first
                  | exact False.elim (by omega)
                  | exact h _ _ _ _ _ _ _ _ (by rw [show rvC o (V (tp - 1 - 1)) (V (tp - 1)) = ((V ((tp - 1) - 1)) + (V (tp - 1))) from by unfold rvC; (repeat' split) <;> first | rfl | (exfalso; omega) | (exfalso; simp_all)]; exact stU.mk)
            · refine hs_k (x := Int32.ofNat 1) (p := 324) (by decide +kernel) ?_
              refine hs_goto (p := 328) (by decide +kernel) ?_
              refine hs_istore (i := 12) (p := 330) (by decide +kernel) (Nat.le_of_ble_eq_true rfl) ?_
              refine hs_aload (i := 0) (p := 331) (by decide +kernel) rfl ?_
              refine hm_get (hm_okv hV) (f := 17) (p := 334) (by decide +kernel) rfl hV.2.2.1.1 ?_
              refine hs_iload (i := 3) (p := 335) (by decide +kernel) rfl ?_
              refine hs_k (x := Int32.ofNat 1) (p := 336) (by decide +kernel) ?_
              refine hs_isubn (p := 337) (by decide +kernel) (by omega) ?_
              refine hs_iload (i := 6) (p := 339) (by decide +kernel) rfl ?_
              refine hs_k (x := Int32.ofNat 15) (p := 341) (by decide +kernel) ?_
              refine hs_br2n (c := .ne) (t := 352) (f := 344) (by decide +kernel) (by omega) (by omega) (fun (c341 : ¬ o = 15) => ?_) (fun (c341 : ¬ (¬ o = 15)) => ?_)
              · refine hs_iload (i := 6) (p := 354) (by decide +kernel) rfl ?_
                refine hs_k (x := Int32.ofNat 14) (p := 356) (by decide +kernel) ?_
                refine hs_br2n (c := .ne) (t := 367) (f := 359) (by decide +kernel) (by omega) (by omega) (fun (c356 : ¬ o = 14) => ?_) (fun (c356 : ¬ (¬ o = 14)) => ?_)
                · refine hs_iload (i := 12) (p := 369) (by decide +kernel) rfl ?_
                  refine hs_if0 (c := .eq) (t := 376) (f := 372) (by decide +kernel) (show ¬ (Int32.ofNat 1 = 0) by decide) ?_
                  refine hs_lcon (x := (Int64.ofNat 1)) (p := 373) (by decide +kernel) ?_
                  refine hs_goto (p := 377) (by decide +kernel) ?_
                  refine hv_st hV (p := 378) (by decide +kernel) (by omega) ?_
                  refine hs_iinc1 (i := 5) (p := 381) (by decide +kernel) rfl (Nat.le_of_ble_eq_true rfl) ?_
                  refine hs_goto (p := 20) (by decide +kernel) ?_
                  first
                    | exact False.elim (by omega)
                    | exact h _ _ _ _ _ _ _ _ (by rw [show rvC o (V (tp - 1 - 1)) (V (tp - 1)) = (Int64.ofNat 1) from by unfold rvC; (repeat' split) <;> first | rfl | (exfalso; omega) | (exfalso; simp_all)]; exact stU.mk)
                · refine hs_lload (i := 8) (p := 361) (by decide +kernel) rfl ?_
                  refine hs_lload (i := 10) (p := 363) (by decide +kernel) rfl ?_
                  refine hs_lmul (p := 364) (by decide +kernel) ?_
                  refine hs_goto (p := 377) (by decide +kernel) ?_
                  refine hv_st hV (p := 378) (by decide +kernel) (by omega) ?_
                  refine hs_iinc1 (i := 5) (p := 381) (by decide +kernel) rfl (Nat.le_of_ble_eq_true rfl) ?_
                  refine hs_goto (p := 20) (by decide +kernel) ?_
                  first
                    | exact False.elim (by omega)
                    | exact h _ _ _ _ _ _ _ _ (by rw [show rvC o (V (tp - 1 - 1)) (V (tp - 1)) = ((V ((tp - 1) - 1)) * (V (tp - 1))) from by unfold rvC; (repeat' split) <;> first | rfl | (exfalso; omega) | (exfalso; simp_all)]; exact stU.mk)
              · refine hs_lload (i := 8) (p := 346) (by decide +kernel) rfl ?_
                refine hs_lload (i := 10) (p := 348) (by decide +kernel) rfl ?_
                refine hs_ladd (p := 349) (by decide +kernel) ?_
                refine hs_goto (p := 377) (by decide +kernel) ?_
                refine hv_st hV (p := 378) (by decide +kernel) (by omega) ?_
                refine hs_iinc1 (i := 5) (p := 381) (by decide +kernel) rfl (Nat.le_of_ble_eq_true rfl) ?_
                refine hs_goto (p := 20) (by decide +kernel) ?_
                first
                  | exact False.elim (by omega)
                  | exact h _ _ _ _ _ _ _ _ (by rw [show rvC o (V (tp - 1 - 1)) (V (tp - 1)) = ((V ((tp - 1) - 1)) + (V (tp - 1))) from by unfold rvC; (repeat' split) <;> first | rfl | (exfalso; omega) | (exfalso; simp_all)]; exact stU.mk)
          · refine hs_lload (i := 8) (p := 295) (by decide +kernel) rfl ?_
            refine hs_lload (i := 10) (p := 297) (by decide +kernel) rfl ?_
            refine hs_ladd (p := 298) (by decide +kernel) ?_
            refine hs_lcon (x := 2) (p := 301) (by decide +kernel) ?_
            refine hs_lcmp (p := 302) (by decide +kernel) ?_
            refine hs_br1 (c := .ne) (t := 309) (f := 305) (by decide +kernel) (fun (c302 : ¬ (lg_cmp ((V ((tp - 1) - 1)) + (V (tp - 1))) 2) = 0) => ?_) (fun (c302 : ¬ (¬ (lg_cmp ((V ((tp - 1) - 1)) + (V (tp - 1))) 2) = 0)) => ?_)
            · refine hs_k (x := Int32.ofNat 0) (p := 310) (by decide +kernel) ?_
              refine hs_goto (p := 328) (by decide +kernel) ?_
              refine hs_istore (i := 12) (p := 330) (by decide +kernel) (Nat.le_of_ble_eq_true rfl) ?_
              refine hs_aload (i := 0) (p := 331) (by decide +kernel) rfl ?_
              refine hm_get (hm_okv hV) (f := 17) (p := 334) (by decide +kernel) rfl hV.2.2.1.1 ?_
              refine hs_iload (i := 3) (p := 335) (by decide +kernel) rfl ?_
              refine hs_k (x := Int32.ofNat 1) (p := 336) (by decide +kernel) ?_
              refine hs_isubn (p := 337) (by decide +kernel) (by omega) ?_
              refine hs_iload (i := 6) (p := 339) (by decide +kernel) rfl ?_
              refine hs_k (x := Int32.ofNat 15) (p := 341) (by decide +kernel) ?_
              refine hs_br2n (c := .ne) (t := 352) (f := 344) (by decide +kernel) (by omega) (by omega) (fun (c341 : ¬ o = 15) => ?_) (fun (c341 : ¬ (¬ o = 15)) => ?_)
              · refine hs_iload (i := 6) (p := 354) (by decide +kernel) rfl ?_
                refine hs_k (x := Int32.ofNat 14) (p := 356) (by decide +kernel) ?_
                refine hs_br2n (c := .ne) (t := 367) (f := 359) (by decide +kernel) (by omega) (by omega) (fun (c356 : ¬ o = 14) => ?_) (fun (c356 : ¬ (¬ o = 14)) => ?_)
                · refine hs_iload (i := 12) (p := 369) (by decide +kernel) rfl ?_
                  refine hs_if1 (c := .eq) (t := 376) (f := 372) (by decide +kernel) (show Int32.ofNat 0 = 0 by decide) ?_
                  refine hs_lcon (x := (Int64.ofNat 0)) (p := 377) (by decide +kernel) ?_
                  refine hv_st hV (p := 378) (by decide +kernel) (by omega) ?_
                  refine hs_iinc1 (i := 5) (p := 381) (by decide +kernel) rfl (Nat.le_of_ble_eq_true rfl) ?_
                  refine hs_goto (p := 20) (by decide +kernel) ?_
                  first
                    | exact False.elim (by omega)
                    | exact h _ _ _ _ _ _ _ _ (by rw [show rvC o (V (tp - 1 - 1)) (V (tp - 1)) = (Int64.ofNat 0) from by unfold rvC; (repeat' split) <;> first | rfl | (exfalso; omega) | (exfalso; simp_all)]; exact stU.mk)
                · refine hs_lload (i := 8) (p := 361) (by decide +kernel) rfl ?_
                  refine hs_lload (i := 10) (p := 363) (by decide +kernel) rfl ?_
                  refine hs_lmul (p := 364) (by decide +kernel) ?_
                  refine hs_goto (p := 377) (by decide +kernel) ?_
                  refine hv_st hV (p := 378) (by decide +kernel) (by omega) ?_
                  refine hs_iinc1 (i := 5) (p := 381) (by decide +kernel) rfl (Nat.le_of_ble_eq_true rfl) ?_
                  refine hs_goto (p := 20) (by decide +kernel) ?_
                  first
                    | exact False.elim (by omega)
                    | exact h _ _ _ _ _ _ _ _ (by rw [show rvC o (V (tp - 1 - 1)) (V (tp - 1)) = ((V ((tp - 1) - 1)) * (V (tp - 1))) from by unfold rvC; (repeat' split) <;> first | rfl | (exfalso; omega) | (exfalso; simp_all)]; exact stU.mk)
              · refine hs_lload (i := 8) (p := 346) (by decide +kernel) rfl ?_
                refine hs_lload (i := 10) (p := 348) (by decide +kernel) rfl ?_
                refine hs_ladd (p := 349) (by decide +kernel) ?_
                refine hs_goto (p := 377) (by decide +kernel) ?_
                refine hv_st hV (p := 378) (by decide +kernel) (by omega) ?_
                refine hs_iinc1 (i := 5) (p := 381) (by decide +kernel) rfl (Nat.le_of_ble_eq_true rfl) ?_
                refine hs_goto (p := 20) (by decide +kernel) ?_
                first
                  | exact False.elim (by omega)
                  | exact h _ _ _ _ _ _ _ _ (by rw [show rvC o (V (tp - 1 - 1)) (V (tp - 1)) = ((V ((tp - 1) - 1)) + (V (tp - 1))) from by unfold rvC; (repeat' split) <;> first | rfl | (exfalso; omega) | (exfalso; simp_all)]; exact stU.mk)
            · refine hs_k (x := Int32.ofNat 1) (p := 306) (by decide +kernel) ?_
              refine hs_goto (p := 328) (by decide +kernel) ?_
              refine hs_istore (i := 12) (p := 330) (by decide +kernel) (Nat.le_of_ble_eq_true rfl) ?_
              refine hs_aload (i := 0) (p := 331) (by decide +kernel) rfl ?_
              refine hm_get (hm_okv hV) (f := 17) (p := 334) (by decide +kernel) rfl hV.2.2.1.1 ?_
              refine hs_iload (i := 3) (p := 335) (by decide +kernel) rfl ?_
              refine hs_k (x := Int32.ofNat 1) (p := 336) (by decide +kernel) ?_
              refine hs_isubn (p := 337) (by decide +kernel) (by omega) ?_
              refine hs_iload (i := 6) (p := 339) (by decide +kernel) rfl ?_
              refine hs_k (x := Int32.ofNat 15) (p := 341) (by decide +kernel) ?_
              refine hs_br2n (c := .ne) (t := 352) (f := 344) (by decide +kernel) (by omega) (by omega) (fun (c341 : ¬ o = 15) => ?_) (fun (c341 : ¬ (¬ o = 15)) => ?_)
              · refine hs_iload (i := 6) (p := 354) (by decide +kernel) rfl ?_
                refine hs_k (x := Int32.ofNat 14) (p := 356) (by decide +kernel) ?_
                refine hs_br2n (c := .ne) (t := 367) (f := 359) (by decide +kernel) (by omega) (by omega) (fun (c356 : ¬ o = 14) => ?_) (fun (c356 : ¬ (¬ o = 14)) => ?_)
                · refine hs_iload (i := 12) (p := 369) (by decide +kernel) rfl ?_
                  refine hs_if0 (c := .eq) (t := 376) (f := 372) (by decide +kernel) (show ¬ (Int32.ofNat 1 = 0) by decide) ?_
                  refine hs_lcon (x := (Int64.ofNat 1)) (p := 373) (by decide +kernel) ?_
                  refine hs_goto (p := 377) (by decide +kernel) ?_
                  refine hv_st hV (p := 378) (by decide +kernel) (by omega) ?_
                  refine hs_iinc1 (i := 5) (p := 381) (by decide +kernel) rfl (Nat.le_of_ble_eq_true rfl) ?_
                  refine hs_goto (p := 20) (by decide +kernel) ?_
                  first
                    | exact False.elim (by omega)
                    | exact h _ _ _ _ _ _ _ _ (by rw [show rvC o (V (tp - 1 - 1)) (V (tp - 1)) = (Int64.ofNat 1) from by unfold rvC; (repeat' split) <;> first | rfl | (exfalso; omega) | (exfalso; simp_all)]; exact stU.mk)
                · refine hs_lload (i := 8) (p := 361) (by decide +kernel) rfl ?_
                  refine hs_lload (i := 10) (p := 363) (by decide +kernel) rfl ?_
                  refine hs_lmul (p := 364) (by decide +kernel) ?_
                  refine hs_goto (p := 377) (by decide +kernel) ?_
                  refine hv_st hV (p := 378) (by decide +kernel) (by omega) ?_
                  refine hs_iinc1 (i := 5) (p := 381) (by decide +kernel) rfl (Nat.le_of_ble_eq_true rfl) ?_
                  refine hs_goto (p := 20) (by decide +kernel) ?_
                  first
                    | exact False.elim (by omega)
                    | exact h _ _ _ _ _ _ _ _ (by rw [show rvC o (V (tp - 1 - 1)) (V (tp - 1)) = ((V ((tp - 1) - 1)) * (V (tp - 1))) from by unfold rvC; (repeat' split) <;> first | rfl | (exfalso; omega) | (exfalso; simp_all)]; exact stU.mk)
              · refine hs_lload (i := 8) (p := 346) (by decide +kernel) rfl ?_
                refine hs_lload (i := 10) (p := 348) (by decide +kernel) rfl ?_
                refine hs_ladd (p := 349) (by decide +kernel) ?_
                refine hs_goto (p := 377) (by decide +kernel) ?_
                refine hv_st hV (p := 378) (by decide +kernel) (by omega) ?_
                refine hs_iinc1 (i := 5) (p := 381) (by decide +kernel) rfl (Nat.le_of_ble_eq_true rfl) ?_
                refine hs_goto (p := 20) (by decide +kernel) ?_
                first
                  | exact False.elim (by omega)
                  | exact h _ _ _ _ _ _ _ _ (by rw [show rvC o (V (tp - 1 - 1)) (V (tp - 1)) = ((V ((tp - 1) - 1)) + (V (tp - 1))) from by unfold rvC; (repeat' split) <;> first | rfl | (exfalso; omega) | (exfalso; simp_all)]; exact stU.mk)
        · refine hs_lload (i := 8) (p := 272) (by decide +kernel) rfl ?_
          refine hs_lload (i := 10) (p := 274) (by decide +kernel) rfl ?_
          refine hs_lcmp (p := 275) (by decide +kernel) ?_
          refine hs_br1 (c := .le) (t := 282) (f := 278) (by decide +kernel) (fun (c275 : (lg_cmp (V ((tp - 1) - 1)) (V (tp - 1))) ≤ 0) => ?_) (fun (c275 : ¬ ((lg_cmp (V ((tp - 1) - 1)) (V (tp - 1))) ≤ 0)) => ?_)
          · refine hs_k (x := Int32.ofNat 0) (p := 283) (by decide +kernel) ?_
            refine hs_goto (p := 328) (by decide +kernel) ?_
            refine hs_istore (i := 12) (p := 330) (by decide +kernel) (Nat.le_of_ble_eq_true rfl) ?_
            refine hs_aload (i := 0) (p := 331) (by decide +kernel) rfl ?_
            refine hm_get (hm_okv hV) (f := 17) (p := 334) (by decide +kernel) rfl hV.2.2.1.1 ?_
            refine hs_iload (i := 3) (p := 335) (by decide +kernel) rfl ?_
            refine hs_k (x := Int32.ofNat 1) (p := 336) (by decide +kernel) ?_
            refine hs_isubn (p := 337) (by decide +kernel) (by omega) ?_
            refine hs_iload (i := 6) (p := 339) (by decide +kernel) rfl ?_
            refine hs_k (x := Int32.ofNat 15) (p := 341) (by decide +kernel) ?_
            refine hs_br2n (c := .ne) (t := 352) (f := 344) (by decide +kernel) (by omega) (by omega) (fun (c341 : ¬ o = 15) => ?_) (fun (c341 : ¬ (¬ o = 15)) => ?_)
            · refine hs_iload (i := 6) (p := 354) (by decide +kernel) rfl ?_
              refine hs_k (x := Int32.ofNat 14) (p := 356) (by decide +kernel) ?_
              refine hs_br2n (c := .ne) (t := 367) (f := 359) (by decide +kernel) (by omega) (by omega) (fun (c356 : ¬ o = 14) => ?_) (fun (c356 : ¬ (¬ o = 14)) => ?_)
              · refine hs_iload (i := 12) (p := 369) (by decide +kernel) rfl ?_
                refine hs_if1 (c := .eq) (t := 376) (f := 372) (by decide +kernel) (show Int32.ofNat 0 = 0 by decide) ?_
                refine hs_lcon (x := (Int64.ofNat 0)) (p := 377) (by decide +kernel) ?_
                refine hv_st hV (p := 378) (by decide +kernel) (by omega) ?_
                refine hs_iinc1 (i := 5) (p := 381) (by decide +kernel) rfl (Nat.le_of_ble_eq_true rfl) ?_
                refine hs_goto (p := 20) (by decide +kernel) ?_
                first
                  | exact False.elim (by omega)
                  | exact h _ _ _ _ _ _ _ _ (by rw [show rvC o (V (tp - 1 - 1)) (V (tp - 1)) = (Int64.ofNat 0) from by unfold rvC; (repeat' split) <;> first | rfl | (exfalso; omega) | (exfalso; simp_all)]; exact stU.mk)
              · refine hs_lload (i := 8) (p := 361) (by decide +kernel) rfl ?_
                refine hs_lload (i := 10) (p := 363) (by decide +kernel) rfl ?_
                refine hs_lmul (p := 364) (by decide +kernel) ?_
                refine hs_goto (p := 377) (by decide +kernel) ?_
                refine hv_st hV (p := 378) (by decide +kernel) (by omega) ?_
                refine hs_iinc1 (i := 5) (p := 381) (by decide +kernel) rfl (Nat.le_of_ble_eq_true rfl) ?_
                refine hs_goto (p := 20) (by decide +kernel) ?_
                first
                  | exact False.elim (by omega)
                  | exact h _ _ _ _ _ _ _ _ (by rw [show rvC o (V (tp - 1 - 1)) (V (tp - 1)) = ((V ((tp - 1) - 1)) * (V (tp - 1))) from by unfold rvC; (repeat' split) <;> first | rfl | (exfalso; omega) | (exfalso; simp_all)]; exact stU.mk)
            · refine hs_lload (i := 8) (p := 346) (by decide +kernel) rfl ?_
              refine hs_lload (i := 10) (p := 348) (by decide +kernel) rfl ?_
              refine hs_ladd (p := 349) (by decide +kernel) ?_
              refine hs_goto (p := 377) (by decide +kernel) ?_
              refine hv_st hV (p := 378) (by decide +kernel) (by omega) ?_
              refine hs_iinc1 (i := 5) (p := 381) (by decide +kernel) rfl (Nat.le_of_ble_eq_true rfl) ?_
              refine hs_goto (p := 20) (by decide +kernel) ?_
              first
                | exact False.elim (by omega)
                | exact h _ _ _ _ _ _ _ _ (by rw [show rvC o (V (tp - 1 - 1)) (V (tp - 1)) = ((V ((tp - 1) - 1)) + (V (tp - 1))) from by unfold rvC; (repeat' split) <;> first | rfl | (exfalso; omega) | (exfalso; simp_all)]; exact stU.mk)
          · refine hs_k (x := Int32.ofNat 1) (p := 279) (by decide +kernel) ?_
            refine hs_goto (p := 328) (by decide +kernel) ?_
            refine hs_istore (i := 12) (p := 330) (by decide +kernel) (Nat.le_of_ble_eq_true rfl) ?_
            refine hs_aload (i := 0) (p := 331) (by decide +kernel) rfl ?_
            refine hm_get (hm_okv hV) (f := 17) (p := 334) (by decide +kernel) rfl hV.2.2.1.1 ?_
            refine hs_iload (i := 3) (p := 335) (by decide +kernel) rfl ?_
            refine hs_k (x := Int32.ofNat 1) (p := 336) (by decide +kernel) ?_
            refine hs_isubn (p := 337) (by decide +kernel) (by omega) ?_
            refine hs_iload (i := 6) (p := 339) (by decide +kernel) rfl ?_
            refine hs_k (x := Int32.ofNat 15) (p := 341) (by decide +kernel) ?_
            refine hs_br2n (c := .ne) (t := 352) (f := 344) (by decide +kernel) (by omega) (by omega) (fun (c341 : ¬ o = 15) => ?_) (fun (c341 : ¬ (¬ o = 15)) => ?_)
            · refine hs_iload (i := 6) (p := 354) (by decide +kernel) rfl ?_
              refine hs_k (x := Int32.ofNat 14) (p := 356) (by decide +kernel) ?_
              refine hs_br2n (c := .ne) (t := 367) (f := 359) (by decide +kernel) (by omega) (by omega) (fun (c356 : ¬ o = 14) => ?_) (fun (c356 : ¬ (¬ o = 14)) => ?_)
              · refine hs_iload (i := 12) (p := 369) (by decide +kernel) rfl ?_
                refine hs_if0 (c := .eq) (t := 376) (f := 372) (by decide +kernel) (show ¬ (Int32.ofNat 1 = 0) by decide) ?_
                refine hs_lcon (x := (Int64.ofNat 1)) (p := 373) (by decide +kernel) ?_
                refine hs_goto (p := 377) (by decide +kernel) ?_
                refine hv_st hV (p := 378) (by decide +kernel) (by omega) ?_
                refine hs_iinc1 (i := 5) (p := 381) (by decide +kernel) rfl (Nat.le_of_ble_eq_true rfl) ?_
                refine hs_goto (p := 20) (by decide +kernel) ?_
                first
                  | exact False.elim (by omega)
                  | exact h _ _ _ _ _ _ _ _ (by rw [show rvC o (V (tp - 1 - 1)) (V (tp - 1)) = (Int64.ofNat 1) from by unfold rvC; (repeat' split) <;> first | rfl | (exfalso; omega) | (exfalso; simp_all)]; exact stU.mk)
              · refine hs_lload (i := 8) (p := 361) (by decide +kernel) rfl ?_
                refine hs_lload (i := 10) (p := 363) (by decide +kernel) rfl ?_
                refine hs_lmul (p := 364) (by decide +kernel) ?_
                refine hs_goto (p := 377) (by decide +kernel) ?_
                refine hv_st hV (p := 378) (by decide +kernel) (by omega) ?_
                refine hs_iinc1 (i := 5) (p := 381) (by decide +kernel) rfl (Nat.le_of_ble_eq_true rfl) ?_
                refine hs_goto (p := 20) (by decide +kernel) ?_
                first
                  | exact False.elim (by omega)
                  | exact h _ _ _ _ _ _ _ _ (by rw [show rvC o (V (tp - 1 - 1)) (V (tp - 1)) = ((V ((tp - 1) - 1)) * (V (tp - 1))) from by unfold rvC; (repeat' split) <;> first | rfl | (exfalso; omega) | (exfalso; simp_all)]; exact stU.mk)
            · refine hs_lload (i := 8) (p := 346) (by decide +kernel) rfl ?_
              refine hs_lload (i := 10) (p := 348) (by decide +kernel) rfl ?_
              refine hs_ladd (p := 349) (by decide +kernel) ?_
              refine hs_goto (p := 377) (by decide +kernel) ?_
              refine hv_st hV (p := 378) (by decide +kernel) (by omega) ?_
              refine hs_iinc1 (i := 5) (p := 381) (by decide +kernel) rfl (Nat.le_of_ble_eq_true rfl) ?_
              refine hs_goto (p := 20) (by decide +kernel) ?_
              first
                | exact False.elim (by omega)
                | exact h _ _ _ _ _ _ _ _ (by rw [show rvC o (V (tp - 1 - 1)) (V (tp - 1)) = ((V ((tp - 1) - 1)) + (V (tp - 1))) from by unfold rvC; (repeat' split) <;> first | rfl | (exfalso; omega) | (exfalso; simp_all)]; exact stU.mk)
      · refine hs_lload (i := 8) (p := 249) (by decide +kernel) rfl ?_
        refine hs_lload (i := 10) (p := 251) (by decide +kernel) rfl ?_
        refine hs_lcmp (p := 252) (by decide +kernel) ?_
        refine hs_br1 (c := .ge) (t := 259) (f := 255) (by decide +kernel) (fun (c252 : 0 ≤ (lg_cmp (V ((tp - 1) - 1)) (V (tp - 1)))) => ?_) (fun (c252 : ¬ (0 ≤ (lg_cmp (V ((tp - 1) - 1)) (V (tp - 1))))) => ?_)
        · refine hs_k (x := Int32.ofNat 0) (p := 260) (by decide +kernel) ?_
          refine hs_goto (p := 328) (by decide +kernel) ?_
          refine hs_istore (i := 12) (p := 330) (by decide +kernel) (Nat.le_of_ble_eq_true rfl) ?_
          refine hs_aload (i := 0) (p := 331) (by decide +kernel) rfl ?_
          refine hm_get (hm_okv hV) (f := 17) (p := 334) (by decide +kernel) rfl hV.2.2.1.1 ?_
          refine hs_iload (i := 3) (p := 335) (by decide +kernel) rfl ?_
          refine hs_k (x := Int32.ofNat 1) (p := 336) (by decide +kernel) ?_
          refine hs_isubn (p := 337) (by decide +kernel) (by omega) ?_
          refine hs_iload (i := 6) (p := 339) (by decide +kernel) rfl ?_
          refine hs_k (x := Int32.ofNat 15) (p := 341) (by decide +kernel) ?_
          refine hs_br2n (c := .ne) (t := 352) (f := 344) (by decide +kernel) (by omega) (by omega) (fun (c341 : ¬ o = 15) => ?_) (fun (c341 : ¬ (¬ o = 15)) => ?_)
          · refine hs_iload (i := 6) (p := 354) (by decide +kernel) rfl ?_
            refine hs_k (x := Int32.ofNat 14) (p := 356) (by decide +kernel) ?_
            refine hs_br2n (c := .ne) (t := 367) (f := 359) (by decide +kernel) (by omega) (by omega) (fun (c356 : ¬ o = 14) => ?_) (fun (c356 : ¬ (¬ o = 14)) => ?_)
            · refine hs_iload (i := 12) (p := 369) (by decide +kernel) rfl ?_
              refine hs_if1 (c := .eq) (t := 376) (f := 372) (by decide +kernel) (show Int32.ofNat 0 = 0 by decide) ?_
              refine hs_lcon (x := (Int64.ofNat 0)) (p := 377) (by decide +kernel) ?_
              refine hv_st hV (p := 378) (by decide +kernel) (by omega) ?_
              refine hs_iinc1 (i := 5) (p := 381) (by decide +kernel) rfl (Nat.le_of_ble_eq_true rfl) ?_
              refine hs_goto (p := 20) (by decide +kernel) ?_
              first
                | exact False.elim (by omega)
                | exact h _ _ _ _ _ _ _ _ (by rw [show rvC o (V (tp - 1 - 1)) (V (tp - 1)) = (Int64.ofNat 0) from by unfold rvC; (repeat' split) <;> first | rfl | (exfalso; omega) | (exfalso; simp_all)]; exact stU.mk)
            · refine hs_lload (i := 8) (p := 361) (by decide +kernel) rfl ?_
              refine hs_lload (i := 10) (p := 363) (by decide +kernel) rfl ?_
              refine hs_lmul (p := 364) (by decide +kernel) ?_
              refine hs_goto (p := 377) (by decide +kernel) ?_
              refine hv_st hV (p := 378) (by decide +kernel) (by omega) ?_
              refine hs_iinc1 (i := 5) (p := 381) (by decide +kernel) rfl (Nat.le_of_ble_eq_true rfl) ?_
              refine hs_goto (p := 20) (by decide +kernel) ?_
              first
                | exact False.elim (by omega)
                | exact h _ _ _ _ _ _ _ _ (by rw [show rvC o (V (tp - 1 - 1)) (V (tp - 1)) = ((V ((tp - 1) - 1)) * (V (tp - 1))) from by unfold rvC; (repeat' split) <;> first | rfl | (exfalso; omega) | (exfalso; simp_all)]; exact stU.mk)
          · refine hs_lload (i := 8) (p := 346) (by decide +kernel) rfl ?_
            refine hs_lload (i := 10) (p := 348) (by decide +kernel) rfl ?_
            refine hs_ladd (p := 349) (by decide +kernel) ?_
            refine hs_goto (p := 377) (by decide +kernel) ?_
            refine hv_st hV (p := 378) (by decide +kernel) (by omega) ?_
            refine hs_iinc1 (i := 5) (p := 381) (by decide +kernel) rfl (Nat.le_of_ble_eq_true rfl) ?_
            refine hs_goto (p := 20) (by decide +kernel) ?_
            first
              | exact False.elim (by omega)
              | exact h _ _ _ _ _ _ _ _ (by rw [show rvC o (V (tp - 1 - 1)) (V (tp - 1)) = ((V ((tp - 1) - 1)) + (V (tp - 1))) from by unfold rvC; (repeat' split) <;> first | rfl | (exfalso; omega) | (exfalso; simp_all)]; exact stU.mk)
        · refine hs_k (x := Int32.ofNat 1) (p := 256) (by decide +kernel) ?_
          refine hs_goto (p := 328) (by decide +kernel) ?_
          refine hs_istore (i := 12) (p := 330) (by decide +kernel) (Nat.le_of_ble_eq_true rfl) ?_
          refine hs_aload (i := 0) (p := 331) (by decide +kernel) rfl ?_
          refine hm_get (hm_okv hV) (f := 17) (p := 334) (by decide +kernel) rfl hV.2.2.1.1 ?_
          refine hs_iload (i := 3) (p := 335) (by decide +kernel) rfl ?_
          refine hs_k (x := Int32.ofNat 1) (p := 336) (by decide +kernel) ?_
          refine hs_isubn (p := 337) (by decide +kernel) (by omega) ?_
          refine hs_iload (i := 6) (p := 339) (by decide +kernel) rfl ?_
          refine hs_k (x := Int32.ofNat 15) (p := 341) (by decide +kernel) ?_
          refine hs_br2n (c := .ne) (t := 352) (f := 344) (by decide +kernel) (by omega) (by omega) (fun (c341 : ¬ o = 15) => ?_) (fun (c341 : ¬ (¬ o = 15)) => ?_)
          · refine hs_iload (i := 6) (p := 354) (by decide +kernel) rfl ?_
            refine hs_k (x := Int32.ofNat 14) (p := 356) (by decide +kernel) ?_
            refine hs_br2n (c := .ne) (t := 367) (f := 359) (by decide +kernel) (by omega) (by omega) (fun (c356 : ¬ o = 14) => ?_) (fun (c356 : ¬ (¬ o = 14)) => ?_)
            · refine hs_iload (i := 12) (p := 369) (by decide +kernel) rfl ?_
              refine hs_if0 (c := .eq) (t := 376) (f := 372) (by decide +kernel) (show ¬ (Int32.ofNat 1 = 0) by decide) ?_
              refine hs_lcon (x := (Int64.ofNat 1)) (p := 373) (by decide +kernel) ?_
              refine hs_goto (p := 377) (by decide +kernel) ?_
              refine hv_st hV (p := 378) (by decide +kernel) (by omega) ?_
              refine hs_iinc1 (i := 5) (p := 381) (by decide +kernel) rfl (Nat.le_of_ble_eq_true rfl) ?_
              refine hs_goto (p := 20) (by decide +kernel) ?_
              first
                | exact False.elim (by omega)
                | exact h _ _ _ _ _ _ _ _ (by rw [show rvC o (V (tp - 1 - 1)) (V (tp - 1)) = (Int64.ofNat 1) from by unfold rvC; (repeat' split) <;> first | rfl | (exfalso; omega) | (exfalso; simp_all)]; exact stU.mk)
            · refine hs_lload (i := 8) (p := 361) (by decide +kernel) rfl ?_
              refine hs_lload (i := 10) (p := 363) (by decide +kernel) rfl ?_
              refine hs_lmul (p := 364) (by decide +kernel) ?_
              refine hs_goto (p := 377) (by decide +kernel) ?_
              refine hv_st hV (p := 378) (by decide +kernel) (by omega) ?_
              refine hs_iinc1 (i := 5) (p := 381) (by decide +kernel) rfl (Nat.le_of_ble_eq_true rfl) ?_
              refine hs_goto (p := 20) (by decide +kernel) ?_
              first
                | exact False.elim (by omega)
                | exact h _ _ _ _ _ _ _ _ (by rw [show rvC o (V (tp - 1 - 1)) (V (tp - 1)) = ((V ((tp - 1) - 1)) * (V (tp - 1))) from by unfold rvC; (repeat' split) <;> first | rfl | (exfalso; omega) | (exfalso; simp_all)]; exact stU.mk)
          · refine hs_lload (i := 8) (p := 346) (by decide +kernel) rfl ?_
            refine hs_lload (i := 10) (p := 348) (by decide +kernel) rfl ?_
            refine hs_ladd (p := 349) (by decide +kernel) ?_
            refine hs_goto (p := 377) (by decide +kernel) ?_
            refine hv_st hV (p := 378) (by decide +kernel) (by omega) ?_
            refine hs_iinc1 (i := 5) (p := 381) (by decide +kernel) rfl (Nat.le_of_ble_eq_true rfl) ?_
            refine hs_goto (p := 20) (by decide +kernel) ?_
            first
              | exact False.elim (by omega)
              | exact h _ _ _ _ _ _ _ _ (by rw [show rvC o (V (tp - 1 - 1)) (V (tp - 1)) = ((V ((tp - 1) - 1)) + (V (tp - 1))) from by unfold rvC; (repeat' split) <;> first | rfl | (exfalso; omega) | (exfalso; simp_all)]; exact stU.mk)
    · exact absurd c195 (by omega)
  · exact absurd c78 (by omega)
def stR (V : Nat → Int64) (tp : Nat) (st : List Int64) : Prop := st.length = tp ∧ ∀ j x, st[j]? = some x → V (tp - 1 - j) = x
theorem stR.push {V V2 : Nat → Int64} {tp : Nat} {st : List Int64} {x : Int64} (h : stR V tp st) (hu : stU V V2 tp x) : stR V2 (tp + 1) (x :: st) := by
  refine ⟨by rw [List.length_cons, h.1], fun j z hj => ?_⟩
  cases j with
  | zero =>
    cases hj
    exact hu.1
  | succ j =>
    rw [List.getElem?_cons_succ] at hj
    have hl := (List.getElem?_eq_some_iff.mp hj).1
    have h1 := h.1
    rw [show tp + 1 - 1 - (j + 1) = tp - 1 - j by omega, hu.2 _ (by omega)]
    exact h.2 j z hj
theorem stR.top {V : Nat → Int64} {tp : Nat} {st : List Int64} {x : Int64} (h : stR V tp (x :: st)) : V (tp - 1) = x := h.2 0 x rfl
theorem stR.snd {V : Nat → Int64} {tp : Nat} {st : List Int64} {x y : Int64} (h : stR V tp (y :: x :: st)) : V (tp - 1 - 1) = x := h.2 1 x rfl
theorem stR.one {V V2 : Nat → Int64} {tp : Nat} {st : List Int64} {x z : Int64} (h : stR V tp (x :: st)) (hu : stU V V2 (tp - 1) z) : stR V2 tp (z :: st) := by
  have h1 := h.1
  rw [List.length_cons] at h1
  refine ⟨h1, fun j y hj => ?_⟩
  cases j with
  | zero =>
    cases hj
    exact hu.1
  | succ j =>
    rw [List.getElem?_cons_succ] at hj
    have hl := (List.getElem?_eq_some_iff.mp hj).1
    rw [hu.2 _ (by omega)]
    exact h.2 (j + 1) y (by rw [List.getElem?_cons_succ]; exact hj)
theorem stR.two {V V2 : Nat → Int64} {tp : Nat} {st : List Int64} {x y z : Int64} (h : stR V tp (y :: x :: st)) (hu : stU V V2 (tp - 1 - 1) z) : stR V2 (tp - 1) (z :: st) := by
  have h1 := h.1
  rw [List.length_cons, List.length_cons] at h1
  refine ⟨by rw [List.length_cons]; omega, fun j w hj => ?_⟩
  cases j with
  | zero =>
    cases hj
    exact hu.1
  | succ j =>
    rw [List.getElem?_cons_succ] at hj
    have hl := (List.getElem?_eq_some_iff.mp hj).1
    rw [hu.2 _ (by omega), show tp - 1 - 1 - (j + 1) = tp - 1 - (j + 2) by omega]
    exact h.2 (j + 2) w (by rw [List.getElem?_cons_succ, List.getElem?_cons_succ]; exact hj)
/-- what the reference's facts say to a text -/
def erR (FA TG : Nat → Int32) (li : Int32) (pl : Nat) (E : sp_E) : Prop := (∀ o, o ≤ 4 → E.1 (fbw pl + o) = (FA o).toInt64) ∧ (∀ o, o < 2 → E.2.1 (tbw pl + o) = decide (¬ TG o = 0)) ∧ ∀ v, E.2.2 v = decide ((li >>> (Int32.ofNat v &&& 31)) &&& Int32.ofNat 1 = Int32.ofNat 1)
theorem rvA_sk {pl o v : Nat} {E : sp_E} (hE : erR FA TG li pl E) (ho : o ≤ 4 ∨ (10 ≤ o ∧ o ≤ 13)) (hv : v < 10000) : rvA FA TG li o (Int32.ofNat v) = sk1 pl E o v := by
  unfold rvA sk1
  by_cases h1 : o = 13
  · rw [if_pos h1, if_pos h1]
    exact i6_l hv
  rw [if_neg h1, if_neg h1]
  by_cases h2 : o < 10
  · rw [if_pos h2, if_pos h2]
    exact (hE.1 o (by omega)).symm
  rw [if_neg h2, if_neg h2]
  by_cases h3 : o = 12
  · rw [if_pos h3, if_pos h3, hE.2.2 v]
    unfold b01
    by_cases h4 : (li >>> (Int32.ofNat v &&& 31)) &&& Int32.ofNat 1 = Int32.ofNat 1
    · rw [if_pos h4, decide_eq_true h4]
      rfl
    · rw [if_neg h4, decide_eq_false h4]
      rfl
  · rw [if_neg h3, if_neg h3, hE.2.1 (o - 10) (by omega)]
    unfold b01
    by_cases h4 : TG (o - 10) = 0
    · rw [if_pos h4, decide_eq_false (fun h => h h4)]
      rfl
    · rw [if_neg h4, decide_eq_true h4]
      rfl
theorem lgc_eq {x y : Int64} : lg_cmp x y = 0 ↔ x = y := by
  unfold lg_cmp
  split
  · rename_i h
    refine ⟨fun h2 => absurd h2 (by decide), fun h2 => ?_⟩
    subst h2
    exact (Int64.lt_irrefl h).elim
  · split
    · rename_i h2
      exact ⟨fun _ => h2, fun _ => rfl⟩
    · rename_i h2
      exact ⟨fun h3 => absurd h3 (by decide), fun h3 => absurd h3 h2⟩
theorem rvC_sk {o : Nat} {x y : Int64} : rvC o x y = sk2 o x y := by
  unfold rvC sk2 b01
  by_cases h1 : o = 15
  · rw [if_pos h1, if_pos h1]
  rw [if_neg h1, if_neg h1]
  by_cases h2 : o = 14
  · rw [if_pos h2, if_pos h2]
  rw [if_neg h2, if_neg h2]
  by_cases h3 : o = 16
  · rw [if_pos h3, if_pos h3]
    by_cases h4 : x < y
    · rw [if_neg (fun h => lgc_lt.mp h h4), decide_eq_true h4]
      rfl
    · rw [if_pos (lgc_lt.mpr h4), decide_eq_false h4]
      rfl
  rw [if_neg h3, if_neg h3]
  by_cases h5 : o = 17
  · rw [if_pos h5, if_pos h5]
    by_cases h4 : y < x
    · rw [if_neg (fun h => lgc_gt.mp h h4), decide_eq_true h4]
      rfl
    · rw [if_pos (lgc_gt.mpr h4), decide_eq_false h4]
      rfl
  rw [if_neg h5, if_neg h5]
  by_cases h6 : o = 19
  · rw [if_pos h6, if_pos h6]
    by_cases h4 : x + y = 2
    · rw [if_pos (lgc_eq.mpr h4), decide_eq_true h4]
      rfl
    · rw [if_neg (fun h => h4 (lgc_eq.mp h)), decide_eq_false h4]
      rfl
  rw [if_neg h6, if_neg h6]
  show (if lg_cmp (x + y) 0 ≤ 0 then Int64.ofNat 0 else Int64.ofNat 1) = _
  by_cases h4 : 0 < x + y
  · rw [if_neg (fun h => lgc_gt.mp h h4), decide_eq_true h4]
    rfl
  · rw [if_pos (lgc_gt.mpr h4), decide_eq_false h4]
    rfl
theorem rf_end0 (hV : rp_V G am aw va fa tg F FA TG) {t n ky i : Nat}  {x6 x7 x8 x9 x10 x11 x12 : Option Value} (h : Z (.inl (some (.int (Int32.ofNat 1))), (hm_H (eg_u G va (hv_c V)) am aw F W), 0, 0)) : et_go none (d + 1) 216 384 [some (.ref am), some (.int (Int32.ofNat t)), some (.int (Int32.ofNat n)), some (.int (Int32.ofNat 0)), some (.int (Int32.ofNat ky)), some (.int (Int32.ofNat i)), x6, x7, x8, x9, x10, x11, x12] [] (hm_H (eg_u G va (hv_c V)) am aw F W) 0 0 Z := by
  refine hs_iload (i := 3) (p := 385) (by decide +kernel) rfl ?_
  refine hs_if1 (c := .eq) (t := 399) (f := 388) (by decide +kernel) (show Int32.ofNat 0 = 0 by decide) ?_
  refine hs_k (x := Int32.ofNat 1) (p := 400) (by decide +kernel) ?_
  refine hs_goto (p := 404) (by decide +kernel) ?_
  refine hs_zret (by decide +kernel) (.inr rfl) ?_
  exact h
theorem rf_end1 (hV : rp_V G am aw va fa tg F FA TG) {t n ky i : Nat} {x : Bool} (hv : V 0 = b01 x) {x6 x7 x8 x9 x10 x11 x12 : Option Value} (h : Z (.inl (some (.int (Int32.ofNat (if x = true then 1 else 0)))), (hm_H (eg_u G va (hv_c V)) am aw F W), 0, 0)) : et_go none (d + 1) 216 384 [some (.ref am), some (.int (Int32.ofNat t)), some (.int (Int32.ofNat n)), some (.int (Int32.ofNat 1)), some (.int (Int32.ofNat ky)), some (.int (Int32.ofNat i)), x6, x7, x8, x9, x10, x11, x12] [] (hm_H (eg_u G va (hv_c V)) am aw F W) 0 0 Z := by
  refine hs_iload (i := 3) (p := 385) (by decide +kernel) rfl ?_
  refine hs_if0 (c := .eq) (t := 399) (f := 388) (by decide +kernel) (show ¬ (Int32.ofNat 1 = 0) by decide) ?_
  refine hs_aload (i := 0) (p := 389) (by decide +kernel) rfl ?_
  refine hm_get (hm_okv hV) (f := 17) (p := 392) (by decide +kernel) rfl hV.2.2.1.1 ?_
  refine hs_k (x := Int32.ofNat 0) (p := 393) (by decide +kernel) ?_
  refine hv_ld hV (p := 394) (by decide +kernel) (by omega) ?_
  refine hs_lcon (x := (Int64.ofNat 1)) (p := 395) (by decide +kernel) ?_
  refine hs_lcmp (p := 396) (by decide +kernel) ?_
  refine hs_br1 (c := .ne) (t := 403) (f := 399) (by decide +kernel) (fun (c396 : ¬ (lg_cmp (V 0) (Int64.ofNat 1)) = 0) => ?_) (fun (c396 : ¬ (¬ (lg_cmp (V 0) (Int64.ofNat 1)) = 0)) => ?_)
  · refine hs_k (x := Int32.ofNat 0) (p := 404) (by decide +kernel) ?_
    refine hs_zret (by decide +kernel) (.inl rfl) ?_
    have hx : ¬ x = true := fun hx => c396 (lgc_eq.mpr (by rw [hv, hx]; rfl))
    rw [if_neg hx] at h
    exact h
  · refine hs_k (x := Int32.ofNat 1) (p := 400) (by decide +kernel) ?_
    refine hs_goto (p := 404) (by decide +kernel) ?_
    refine hs_zret (by decide +kernel) (.inr rfl) ?_
    have hx : x = true := by have e := lgc_eq.mp (Decidable.of_not_not c396); rw [hv] at e; cases x; exact absurd e (by decide); rfl
    rw [if_pos hx] at h
    exact h
theorem rf_hlL (hV : rp_V G am aw va fa tg F FA TG) (hli : F 16 = .int li) {t n b pl : Nat} {E : sp_E} (hE : erR FA TG li pl E) (ht : t < 14) (hn : n < 10) (hb : b ≤ 400) (hbW : W (126 + 841 * t + 1 + 4 * n + 3) = Int32.ofNat b) {i tp : Nat} {C : List (Nat × Nat)} {st : List Int64} (hbi : b = i + C.length) (hp : tp ≤ i) (hst : stR V tp st) (hC : ∀ j s, C[j]? = some s → W (126 + 841 * t + 41 + 2 * (i + j)) = Int32.ofNat s.1 ∧ W (126 + 841 * t + 41 + 2 * (i + j) + 1) = Int32.ofNat s.2 ∧ (s.1 < 10000 ∧ s.2 < 10000)) (hq : C = [] ∨ (gq (126 + 841 * t + 41) W i (b - i) tp).isSome = true) {x6 x7 x8 x9 x10 x11 x12 : Option Value} (h : ∀ (tp2 : Nat) (V2 : Nat → Int64) (y6 y7 y8 y9 y10 y11 y12 : Option Value), stR V2 tp2 (skR pl E C st) → et_go none (d + 1) 216 384 [some (.ref am), some (.int (Int32.ofNat t)), some (.int (Int32.ofNat n)), some (.int (Int32.ofNat tp2)), some (.int (Int32.ofNat (126 + 841 * t + 1 + 4 * n))), some (.int (Int32.ofNat b)), y6, y7, y8, y9, y10, y11, y12] [] (hm_H (eg_u G va (hv_c V2)) am aw F W) 0 0 Z) : et_go none (d + 1) 216 20 [some (.ref am), some (.int (Int32.ofNat t)), some (.int (Int32.ofNat n)), some (.int (Int32.ofNat tp)), some (.int (Int32.ofNat (126 + 841 * t + 1 + 4 * n))), some (.int (Int32.ofNat i)), x6, x7, x8, x9, x10, x11, x12] [] (hm_H (eg_u G va (hv_c V)) am aw F W) 0 0 Z := by
  induction C generalizing i tp V st x6 x7 x8 x9 x10 x11 x12 with
  | nil =>
    obtain rfl : b = i := hbi
    refine hs_iload (i := 5) (p := 22) (by decide +kernel) rfl ?_
    refine hs_aload (i := 0) (p := 23) (by decide +kernel) rfl ?_
    refine hm_get (hm_okv hV) (f := 1) (p := 26) (by decide +kernel) rfl hV.2.1 ?_
    refine hs_iload (i := 4) (p := 28) (by decide +kernel) rfl ?_
    refine hs_k (x := Int32.ofNat 3) (p := 29) (by decide +kernel) ?_
    refine hs_iaddn (p := 30) (by decide +kernel) ?_
    refine hv_w hV (p := 31) (x := Int32.ofNat b) (by decide +kernel) (by omega) hbW ?_
    refine hs_br2n (c := .ge) (t := 384) (f := 34) (by decide +kernel) (by omega) (by omega) (fun (c31 : b ≤ b) => ?_) (fun (c31 : ¬ (b ≤ b)) => ?_)
    · exact h _ _ _ _ _ _ _ _ _ hst
    · exact absurd c31 (by omega)
  | cons s0 C ih =>
    have hl : b = i + 1 + C.length := by rw [List.length_cons] at hbi; omega
    have h0 := hC 0 s0 rfl
    have hC2 : ∀ j s, C[j]? = some s → W (126 + 841 * t + 41 + 2 * (i + 1 + j)) = Int32.ofNat s.1 ∧ W (126 + 841 * t + 41 + 2 * (i + 1 + j) + 1) = Int32.ofNat s.2 ∧ (s.1 < 10000 ∧ s.2 < 10000) := fun j s hj => by
      have h1 := hC (j + 1) s (by rw [List.getElem?_cons_succ]; exact hj)
      rw [show i + (j + 1) = i + 1 + j by omega] at h1
      exact h1
    refine hs_iload (i := 5) (p := 22) (by decide +kernel) rfl ?_
    refine hs_aload (i := 0) (p := 23) (by decide +kernel) rfl ?_
    refine hm_get (hm_okv hV) (f := 1) (p := 26) (by decide +kernel) rfl hV.2.1 ?_
    refine hs_iload (i := 4) (p := 28) (by decide +kernel) rfl ?_
    refine hs_k (x := Int32.ofNat 3) (p := 29) (by decide +kernel) ?_
    refine hs_iaddn (p := 30) (by decide +kernel) ?_
    refine hv_w hV (p := 31) (x := Int32.ofNat b) (by decide +kernel) (by omega) hbW ?_
    refine hs_br2n (c := .ge) (t := 384) (f := 34) (by decide +kernel) (by omega) (by omega) (fun (c31 : b ≤ i) => ?_) (fun (c31 : ¬ (b ≤ i)) => ?_)
    · exact absurd c31 (by omega)
    · have hq2 := hq.resolve_left (by intro h; cases h)
      obtain ⟨q9, hq9⟩ := Option.isSome_iff_exists.mp hq2
      rw [show b - i = (b - (i + 1)) + 1 by omega, gq_s] at hq9
      have h01 : W (126 + 841 * t + 41 + 2 * i) = Int32.ofNat s0.1 := h0.1
      have h02 : W (126 + 841 * t + 41 + 2 * i + 1) = Int32.ofNat s0.2 := h0.2.1
      rw [h01] at hq9
      cases h1 : gq1 (Int32.ofNat s0.1) tp with
      | none =>
        rw [h1] at hq9
        cases hq9
      | some q =>
        rw [h1] at hq9
        have hq8 : C = [] ∨ (gq (126 + 841 * t + 41) W (i + 1) (b - (i + 1)) q).isSome = true := .inr (Option.isSome_iff_exists.mpr ⟨q9, hq9⟩)
        have hsl := hst.1
        rcases gq1_cases h1 with ⟨j, hj, hx, rfl⟩ | ⟨hx, hj, rfl⟩ | ⟨hg, hn2, hj, rfl⟩
        · obtain rfl : s0.1 = j := xi_inj (by omega) (by omega) (congrArg (fun z => some (Value.int z)) hx)
          refine rf_hlA hV hj h01 h02 hli ht (by omega) (by omega) (fun V2 x6 x7 x8 x9 x10 x11 x12 hu => ih hl (by omega) (hst.push hu) hC2 hq8 (fun tp2 V3 y6 y7 y8 y9 y10 y11 y12 hs => h tp2 V3 y6 y7 y8 y9 y10 y11 y12 ?_))
          rw [show skR pl E (s0 :: C) st = skR pl E C (skS pl E s0 st) from rfl, show skS pl E s0 st = sk1 pl E s0.1 s0.2 :: st from if_pos (by omega), ← rvA_sk hE hj h0.2.2.2]
          exact hs
        · obtain hx : s0.1 = 18 := xi_inj (by omega) (by omega) (congrArg (fun z => some (Value.int z)) hx)
          cases st with
          | nil => exact absurd hsl (by rw [List.length_nil]; omega)
          | cons a st =>
            refine rf_hlB hV (by rw [h01, hx]) h02 hli ht (by omega) (by omega) hj (fun V2 x6 x7 x8 x9 x10 x11 x12 hu => ih hl (by omega) (hst.one hu) hC2 hq8 (fun tp2 V3 y6 y7 y8 y9 y10 y11 y12 hs => h tp2 V3 y6 y7 y8 y9 y10 y11 y12 ?_))
            rw [show skR pl E (s0 :: C) (a :: st) = skR pl E C (skS pl E s0 (a :: st)) from rfl, show skS pl E s0 (a :: st) = (1 - a) :: st from (if_neg (by omega)).trans (if_pos hx), ← hst.top]
            exact hs
        · have hx : ¬ s0.1 = 18 := fun e => hn2 (by rw [e])
          have hg2 : 13 < s0.1 := by
            rw [Int32.lt_iff_toInt_lt, hs_nint (by decide), hs_nint (by omega)] at hg
            omega
          cases st with
          | nil => exact absurd hsl (by rw [List.length_nil]; omega)
          | cons a st =>
            cases st with
            | nil => exact absurd hsl (by rw [List.length_cons, List.length_nil]; omega)
            | cons c st =>
              refine rf_hlC hV hg2 hx (by omega) h01 h02 hli ht (by omega) (by omega) hj (fun V2 x6 x7 x8 x9 x10 x11 x12 hu => ih hl (by omega) (hst.two hu) hC2 hq8 (fun tp2 V3 y6 y7 y8 y9 y10 y11 y12 hs => h tp2 V3 y6 y7 y8 y9 y10 y11 y12 ?_))
              rw [show skR pl E (s0 :: C) (a :: c :: st) = skR pl E C (skS pl E s0 (a :: c :: st)) from rfl, show skS pl E s0 (a :: c :: st) = sk2 s0.1 c a :: st from (if_neg (by omega)).trans (if_neg hx), ← rvC_sk, ← hst.top, ← hst.snd]
              exact hs
theorem rf_holds (hV : rp_V G am aw va fa tg F FA TG) (hli : F 16 = .int li) {t n s b pl : Nat} {E : sp_E} {f : sp_E → Bool} {C : List (Nat × Nat)} (hE : erR FA TG li pl E) (ht : t < 14) (hn : n < 10) (haW : W (126 + 841 * t + 1 + 4 * n + 2) = Int32.ofNat s) (hbW : W (126 + 841 * t + 1 + 4 * n + 3) = Int32.ofNat b) (hbs : b = s + C.length) (hb : b ≤ 400) (hC : ∀ j x, C[j]? = some x → W (126 + 841 * t + 41 + 2 * (s + j)) = Int32.ofNat x.1 ∧ W (126 + 841 * t + 41 + 2 * (s + j) + 1) = Int32.ofNat x.2 ∧ (x.1 < 10000 ∧ x.2 < 10000)) (hq : C = [] ∨ (gq (126 + 841 * t + 41) W s (b - s) 0).isSome = true) (hd : dnB pl f C) (h : ∀ V : Nat → Int64, Z (.inl (some (.int (Int32.ofNat (if f E = true then 1 else 0)))), (hm_H (eg_u G va (hv_c V)) am aw F W), 0, 0)) : et_go none (d + 2) 216 0 [some (.ref am), some (.int (Int32.ofNat t)), some (.int (Int32.ofNat n)), none, none, none, none, none, none, none, none, none, none] [] (hm_H (eg_u G va (hv_c V)) am aw F W) 0 0 Z := by
  refine hs_k (x := Int32.ofNat 0) (p := 1) (by decide +kernel) ?_
  refine hs_istore (i := 3) (p := 2) (by decide +kernel) (Nat.le_of_ble_eq_true rfl) ?_
  refine hs_iload (i := 1) (p := 3) (by decide +kernel) rfl ?_
  refine hs_iload (i := 2) (p := 4) (by decide +kernel) rfl ?_
  refine hs_calls (mi := 189) (na := 2) (lk := 13) (lm := 2) (by decide +kernel) rfl rfl rfl rfl rfl rfl rfl (rp_lineAt (hs_cb ?_))
  show et_go none _ 216 7 _ [.int (Int32.ofNat (126 + 841 * t + 1 + 4 * n))] _ _ _ _
  refine hs_istore (i := 4) (p := 9) (by decide +kernel) (Nat.le_of_ble_eq_true rfl) ?_
  refine hs_aload (i := 0) (p := 10) (by decide +kernel) rfl ?_
  refine hm_get (hm_okv hV) (f := 1) (p := 13) (by decide +kernel) rfl hV.2.1 ?_
  refine hs_iload (i := 4) (p := 15) (by decide +kernel) rfl ?_
  refine hs_k (x := Int32.ofNat 2) (p := 16) (by decide +kernel) ?_
  refine hs_iaddn (p := 17) (by decide +kernel) ?_
  refine hv_w hV (p := 18) (x := Int32.ofNat s) (by decide +kernel) (by omega) haW ?_
  refine hs_istore (i := 5) (p := 20) (by decide +kernel) (Nat.le_of_ble_eq_true rfl) ?_
  refine rf_hlL hV hli hE ht hn hb hbW hbs (Nat.zero_le _) (st := []) ⟨rfl, fun j x hj => by rw [List.getElem?_nil] at hj; cases hj⟩ hC hq (fun tp2 V2 y6 y7 y8 y9 y10 y11 y12 hs => ?_)
  rw [hd E []] at hs
  obtain rfl : 1 = tp2 := hs.1
  exact rf_end1 hV hs.top (h V2)
end RTH
