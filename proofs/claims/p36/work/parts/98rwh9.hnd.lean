/-! read: the reference's read -/
section AMA
variable {K : et_K} {G G0 : eg_G} {Z : eg_O → Prop} {am aw va tr be yo d d2 n nc k b m c q A9 ec : Nat} {v : evT} {V : Nat → evT} {X : Nat → Int32} {Y : Nat → Nat} {g : Nat → Int32} {e0 x y : Int32} {x4 x5 x6 x7 : Option Value}
theorem fn_rdZ (hH0 : et_H et_TT K G0) (hH : et_H et_TT K G) (hK : rvK K am aw va tr be yo) (hn : n < 3) (ho : evo v) (hnc : nc ≤ 20) (hrv : rvI G am aw va tr be yo n nc v X Y) (hX : xf (fun b _ => b = yo) G0 G) (hz9 : (∀ j, j < q → et_pl (eg_at G yo) j = some (.int (Int32.ofNat 0)))) (hq : q ≤ 31) (h : ∀ G', et_H et_TT K G' → xf (fun b _ => b = yo) G0 G' → rvI G' am aw va tr be yo n nc v X Y → (∀ j, j < 31 → et_pl (eg_at G' yo) j = some (.int (Int32.ofNat 0))) → et_go none (d + 5) 288 51 [some (.ref am), some (.int (Int32.ofNat n)), some (.int (Int32.ofNat k)), some (.int (Int32.ofNat b)), some (.int (Int32.ofNat 31)), x5, x6, x7] [] G' 0 0 Z) : et_go none (d + 5) 288 30 [some (.ref am), some (.int (Int32.ofNat n)), some (.int (Int32.ofNat k)), some (.int (Int32.ofNat b)), some (.int (Int32.ofNat q)), x5, x6, x7] [] G 0 0 Z := by
  induction hq9 : 31 - q using Nat.strongRecOn generalizing q G with
  | _ q9 ih =>
    have k_am := hK.1.1
    have k_aw := hK.1.2.1
    have k_va := hK.1.2.2.1
    have k_tr := hK.1.2.2.2.1
    have k_be := hK.1.2.2.2.2
    have k_yo := hK.2
    have hw6 := ho.1.1
    have m1 := hrv.1.1.1
    have m20 := hrv.1.1.2.1
    have m21 := hrv.1.1.2.2.1
    have hz := hrv.1.2.1
    have w3 := hrv.1.2.2.1
    have hcr := hrv.1.2.2.2.1
    have hV := hrv.1.2.2.2.2
    have hev := hrv.2.1
    have m35 := hrv.2.2
    have lt_am := (hH.2.2 _ _ k_am).1
    have lt_aw := (hH.2.2 _ _ k_aw).1
    have lt_va := (hH.2.2 _ _ k_va).1
    have lt_tr := (hH.2.2 _ _ k_tr).1
    have lt_yo := (hH.2.2 _ _ k_yo).1
    refine hs_iload (i := 4) (p := 32) (by decide +kernel) rfl ?_
    refine hs_k (x := Int32.ofNat 31) (p := 34) (by decide +kernel) ?_
    refine hs_br2n (c := .ge) (t := 51) (f := 37) (by decide +kernel) (by omega) (by omega) (fun (c34 : 31 ≤ q) => ?_) (fun (c34 : ¬ (31 ≤ q)) => ?_)
    · obtain rfl : q = 31 := by omega
      exact h _ hH hX hrv hz9
    · refine hs_aload (i := 0) (p := 38) (by decide +kernel) rfl ?_
      refine hf_get (T := et_TT) (t := 13) (ci := 11) (f := 35) (p := 41) (by decide +kernel) rfl hH k_am m35 ?_
      refine hs_iload (i := 4) (p := 43) (by decide +kernel) rfl ?_
      refine hs_k (x := Int32.ofNat 0) (p := 44) (by decide +kernel) ?_
      have hHo := hH
      refine hf_ist (T := et_TT) (t := 19) (N := 31) (p := 45) (by decide +kernel) rfl rfl (by decide) hH k_yo (by omega) (by decide) (fun s hs => absurd hs List.not_mem_nil) (fun G44 hH x44 e44 => ?_)
      have hrv := hrv.mv hHo hK ho.1.1 x44 (fun b j h => .inr (.inr h.1))
      have m1 := hrv.1.1.1
      have m20 := hrv.1.1.2.1
      have m21 := hrv.1.1.2.2.1
      have hz := hrv.1.2.1
      have w3 := hrv.1.2.2.1
      have hcr := hrv.1.2.2.2.1
      have hV := hrv.1.2.2.2.2
      have hev := hrv.2.1
      have m35 := hrv.2.2
      have hX := hX.tr x44 (fun b j _ h => h.1)
      have hz2 : ∀ j, j < q + 1 → et_pl (eg_at G44 yo) j = some (.int (Int32.ofNat 0)) := fun j hj => by
        by_cases ej : j = q
        · rw [ej]; exact e44
        · exact (x44.2 yo j lt_yo (fun h => by have h := h.2; omega)).trans (hz9 j (by omega))
      have lt_am := Nat.lt_of_lt_of_le lt_am x44.1
      have lt_aw := Nat.lt_of_lt_of_le lt_aw x44.1
      have lt_va := Nat.lt_of_lt_of_le lt_va x44.1
      have lt_tr := Nat.lt_of_lt_of_le lt_tr x44.1
      have lt_yo := Nat.lt_of_lt_of_le lt_yo x44.1
      refine hs_iinc1 (i := 4) (p := 48) (by decide +kernel) rfl (Nat.le_of_ble_eq_true rfl) ?_
      refine hs_goto (p := 30) (by decide +kernel) ?_
      exact ih (31 - (q + 1)) (by omega) hH hrv hX hz2 (by omega) rfl
theorem fn_rdA (hH : et_H et_TT K G) (hK : rvK K am aw va tr be yo) (hn : n < 3) (ho : evo v) (hnc : nc ≤ 20) (hrv : rvI G am aw va tr be yo n nc v X Y) (hm : m ≤ v.1) (h : et_go none (d + 5) 288 83 [some (.ref am), some (.int (Int32.ofNat n)), some (.int (Int32.ofNat k)), some (.int (Int32.ofNat b)), some (.int (Int32.ofNat ((2 * k + 1) ^ v.1))), some (.int (Int32.ofNat v.1)), x6, x7] [] G 0 0 Z) : et_go none (d + 5) 288 57 [some (.ref am), some (.int (Int32.ofNat n)), some (.int (Int32.ofNat k)), some (.int (Int32.ofNat b)), some (.int (Int32.ofNat ((2 * k + 1) ^ m))), some (.int (Int32.ofNat m)), x6, x7] [] G 0 0 Z := by
  induction hq9 : v.1 - m using Nat.strongRecOn generalizing m with
  | _ q9 ih =>
    have k_am := hK.1.1
    have k_aw := hK.1.2.1
    have k_va := hK.1.2.2.1
    have k_tr := hK.1.2.2.2.1
    have k_be := hK.1.2.2.2.2
    have k_yo := hK.2
    have hw6 := ho.1.1
    have m1 := hrv.1.1.1
    have m20 := hrv.1.1.2.1
    have m21 := hrv.1.1.2.2.1
    have hz := hrv.1.2.1
    have w3 := hrv.1.2.2.1
    have hcr := hrv.1.2.2.2.1
    have hV := hrv.1.2.2.2.2
    have hev := hrv.2.1
    have m35 := hrv.2.2
    have lt_am := (hH.2.2 _ _ k_am).1
    have lt_aw := (hH.2.2 _ _ k_aw).1
    have lt_va := (hH.2.2 _ _ k_va).1
    have lt_tr := (hH.2.2 _ _ k_tr).1
    have lt_yo := (hH.2.2 _ _ k_yo).1
    refine hs_iload (i := 5) (p := 59) (by decide +kernel) rfl ?_
    refine hs_aload (i := 0) (p := 60) (by decide +kernel) rfl ?_
    refine hs_iload (i := 1) (p := 61) (by decide +kernel) rfl ?_
    refine ht_callv (T := et_TT) (t := 13) (mi := 224) (na := 1) (ci := 11) (lk := 8) (lm := 2) (L0 := eg_en (eg_mL 224) [.ref am, .int (Int32.ofNat n)]) (by decide +kernel) rfl hH k_am rfl rfl rfl rfl rfl (by rw [show eg_mL 224 = 2 from by decide +kernel]; first | done | rfl) ?_
    refine (fn_wires hH k_am k_aw m1 hn hz (by omega)).mono (fun u hu => xp_cb hu ?_)
    show et_go none _ 288 64 _ [.int (Int32.ofNat v.1), .int (Int32.ofNat m)] _ _ _ _
    refine hs_br2n (c := .ge) (t := 83) (f := 67) (by decide +kernel) (by omega) (by omega) (fun (c64 : v.1 ≤ m) => ?_) (fun (c64 : ¬ (v.1 ≤ m)) => ?_)
    · obtain rfl : m = v.1 := by omega
      exact h
    · refine hs_iload (i := 4) (p := 69) (by decide +kernel) rfl ?_
      refine hs_k (x := Int32.ofNat 2) (p := 70) (by decide +kernel) ?_
      refine hs_iload (i := 2) (p := 71) (by decide +kernel) rfl ?_
      refine hs_imuln (p := 72) (by decide +kernel) ?_
      refine hs_k (x := Int32.ofNat 1) (p := 73) (by decide +kernel) ?_
      refine hs_iaddn (p := 74) (by decide +kernel) ?_
      refine hs_imuln (p := 75) (by decide +kernel) ?_
      refine hs_istore (i := 4) (p := 77) (by decide +kernel) (Nat.le_of_ble_eq_true rfl) ?_
      refine hs_iinc1 (i := 5) (p := 80) (by decide +kernel) rfl (Nat.le_of_ble_eq_true rfl) ?_
      refine hs_goto (p := 57) (by decide +kernel) ?_
      have h9 := @ih (v.1 - (m + 1)) (by omega) (m + 1) (by omega) rfl
      rw [Nat.pow_succ] at h9
      exact h9
theorem fn_rdT (hH0 : et_H et_TT K G0) (hH : et_H et_TT K G) (hK : rvK K am aw va tr be yo) (hn : n < 3) (ho : evo v) (hnc : nc ≤ 20) (hrv : rvI G am aw va tr be yo n nc v X Y) (hk1 : 1 ≤ k) (hk : k ≤ 3) (hX : xf (fun b _ => b = tr) G0 G) (hT : (∀ u, u < m → et_pl (eg_at G tr) u = some (.int (kvL k c u)))) (hm : m ≤ v.1) (hc : c < 117649) (h : ∀ G' (x6 : Option Value), et_H et_TT K G' → xf (fun b _ => b = tr) G0 G' → rvI G' am aw va tr be yo n nc v X Y → (∀ u, u < v.1 → et_pl (eg_at G' tr) u = some (.int (kvL k c u))) → et_go none (d + 5) 288 143 [some (.ref am), some (.int (Int32.ofNat n)), some (.int (Int32.ofNat k)), some (.int (Int32.ofNat b)), some (.int (Int32.ofNat A9)), some (.int (Int32.ofNat c)), x6, some (.int (Int32.ofNat v.1))] [] G' 0 0 Z) : et_go none (d + 5) 288 100 [some (.ref am), some (.int (Int32.ofNat n)), some (.int (Int32.ofNat k)), some (.int (Int32.ofNat b)), some (.int (Int32.ofNat A9)), some (.int (Int32.ofNat c)), some (.int (Int32.ofNat (c / (2 * k + 1) ^ m))), some (.int (Int32.ofNat m))] [] G 0 0 Z := by
  induction hq9 : v.1 - m using Nat.strongRecOn generalizing m G with
  | _ q9 ih =>
    have k_am := hK.1.1
    have k_aw := hK.1.2.1
    have k_va := hK.1.2.2.1
    have k_tr := hK.1.2.2.2.1
    have k_be := hK.1.2.2.2.2
    have k_yo := hK.2
    have hw6 := ho.1.1
    have m1 := hrv.1.1.1
    have m20 := hrv.1.1.2.1
    have m21 := hrv.1.1.2.2.1
    have hz := hrv.1.2.1
    have w3 := hrv.1.2.2.1
    have hcr := hrv.1.2.2.2.1
    have hV := hrv.1.2.2.2.2
    have hev := hrv.2.1
    have m35 := hrv.2.2
    have hle : c / (2 * k + 1) ^ m ≤ c := Nat.div_le_self _ _
    have lt_am := (hH.2.2 _ _ k_am).1
    have lt_aw := (hH.2.2 _ _ k_aw).1
    have lt_va := (hH.2.2 _ _ k_va).1
    have lt_tr := (hH.2.2 _ _ k_tr).1
    have lt_yo := (hH.2.2 _ _ k_yo).1
    refine hs_iload (i := 7) (p := 102) (by decide +kernel) rfl ?_
    refine hs_aload (i := 0) (p := 103) (by decide +kernel) rfl ?_
    refine hs_iload (i := 1) (p := 104) (by decide +kernel) rfl ?_
    refine ht_callv (T := et_TT) (t := 13) (mi := 224) (na := 1) (ci := 11) (lk := 8) (lm := 2) (L0 := eg_en (eg_mL 224) [.ref am, .int (Int32.ofNat n)]) (by decide +kernel) rfl hH k_am rfl rfl rfl rfl rfl (by rw [show eg_mL 224 = 2 from by decide +kernel]; first | done | rfl) ?_
    refine (fn_wires hH k_am k_aw m1 hn hz (by omega)).mono (fun u hu => xp_cb hu ?_)
    show et_go none _ 288 107 _ [.int (Int32.ofNat v.1), .int (Int32.ofNat m)] _ _ _ _
    refine hs_br2n (c := .ge) (t := 143) (f := 110) (by decide +kernel) (by omega) (by omega) (fun (c107 : v.1 ≤ m) => ?_) (fun (c107 : ¬ (v.1 ≤ m)) => ?_)
    · obtain rfl : m = v.1 := by omega
      exact h _ _ hH hX hrv hT
    · refine hs_aload (i := 0) (p := 111) (by decide +kernel) rfl ?_
      refine hf_get (T := et_TT) (t := 13) (ci := 11) (f := 21) (p := 114) (by decide +kernel) rfl hH k_am m21 ?_
      refine hs_iload (i := 7) (p := 116) (by decide +kernel) rfl ?_
      refine hs_iload (i := 6) (p := 118) (by decide +kernel) rfl ?_
      refine hs_k (x := Int32.ofNat 2) (p := 119) (by decide +kernel) ?_
      refine hs_iload (i := 2) (p := 120) (by decide +kernel) rfl ?_
      refine hs_imuln (p := 121) (by decide +kernel) ?_
      refine hs_k (x := Int32.ofNat 1) (p := 122) (by decide +kernel) ?_
      refine hs_iaddn (p := 123) (by decide +kernel) ?_
      refine hs_irem (p := 124) (by decide +kernel) (hs_nz (by omega) (by omega)) ?_
      rw [dg_r (by omega) (by omega)]
      refine hs_iload (i := 2) (p := 125) (by decide +kernel) rfl ?_
      refine hs_isub (p := 126) (by decide +kernel) ?_
      have hHo := hH
      refine hf_ist (T := et_TT) (t := 49) (N := 6) (p := 127) (by decide +kernel) rfl rfl (by decide) hH k_tr (by omega) (by decide) (fun s hs => absurd hs List.not_mem_nil) (fun G126 hH x126 e126 => ?_)
      have hrv := hrv.mv hHo hK ho.1.1 x126 (fun b j h => .inr (.inl h.1))
      have m1 := hrv.1.1.1
      have m20 := hrv.1.1.2.1
      have m21 := hrv.1.1.2.2.1
      have hz := hrv.1.2.1
      have w3 := hrv.1.2.2.1
      have hcr := hrv.1.2.2.2.1
      have hV := hrv.1.2.2.2.2
      have hev := hrv.2.1
      have m35 := hrv.2.2
      have hX := hX.tr x126 (fun b j _ h => h.1)
      have hT2 : ∀ u, u < m + 1 → et_pl (eg_at G126 tr) u = some (.int (kvL k c u)) := fun u hu => by
        by_cases eu : u = m
        · rw [eu]; exact e126
        · exact (x126.2 tr u lt_tr (fun h => by have h := h.2; omega)).trans (hT u (by omega))
      have lt_am := Nat.lt_of_lt_of_le lt_am x126.1
      have lt_aw := Nat.lt_of_lt_of_le lt_aw x126.1
      have lt_va := Nat.lt_of_lt_of_le lt_va x126.1
      have lt_tr := Nat.lt_of_lt_of_le lt_tr x126.1
      have lt_yo := Nat.lt_of_lt_of_le lt_yo x126.1
      refine hs_iload (i := 6) (p := 129) (by decide +kernel) rfl ?_
      refine hs_k (x := Int32.ofNat 2) (p := 130) (by decide +kernel) ?_
      refine hs_iload (i := 2) (p := 131) (by decide +kernel) rfl ?_
      refine hs_imuln (p := 132) (by decide +kernel) ?_
      refine hs_k (x := Int32.ofNat 1) (p := 133) (by decide +kernel) ?_
      refine hs_iaddn (p := 134) (by decide +kernel) ?_
      refine hs_idiv (p := 135) (by decide +kernel) (hs_nz (by omega) (by omega)) ?_
      rw [dg_d (by omega) (by omega)]
      refine hs_istore (i := 6) (p := 137) (by decide +kernel) (Nat.le_of_ble_eq_true rfl) ?_
      refine hs_iinc1 (i := 7) (p := 140) (by decide +kernel) rfl (Nat.le_of_ble_eq_true rfl) ?_
      refine hs_goto (p := 100) (by decide +kernel) ?_
      rw [kvL_s]
      exact ih (v.1 - (m + 1)) (by omega) hH hrv hX hT2 (by omega) rfl
theorem fn_rdL (hH0 : et_H et_TT K G0) (hH : et_H et_TT K G) (hK : rvK K am aw va tr be yo) (hn : n < 3) (ho : evo v) (hnc : nc ≤ 20) (hrv : rvI G am aw va tr be yo n nc v X Y) (hk1 : 1 ≤ k) (hk : k ≤ 3) (hX : xf (fun b j => (b = am ∧ j = 28) ∨ b = tr ∨ b = yo) G0 G) (m28 : et_pl (eg_at G am) 28 = some (.int (smI (fun m => reT v X Y nc (kvL k m)) c))) (hyo : (∀ j, j < 31 → et_pl (eg_at G yo) j = some (.int (smI (fun m => rsT v X Y nc (asC j) (kvL k m)) c)))) (hc : c ≤ ((2 * k + 1) ^ v.1)) (h : ∀ G' (x6 x7 : Option Value), et_H et_TT K G' → xf (fun b j => (b = am ∧ j = 28) ∨ b = tr ∨ b = yo) G0 G' → rvI G' am aw va tr be yo n nc v X Y → et_pl (eg_at G' am) 28 = some (.int (smI (fun m => reT v X Y nc (kvL k m)) ((2 * k + 1) ^ v.1))) → (∀ j, j < 31 → et_pl (eg_at G' yo) j = some (.int (smI (fun m => rsT v X Y nc (asC j) (kvL k m)) ((2 * k + 1) ^ v.1)))) → et_go none (d + 5) 288 154 [some (.ref am), some (.int (Int32.ofNat n)), some (.int (Int32.ofNat k)), some (.int (Int32.ofNat b)), some (.int (Int32.ofNat ((2 * k + 1) ^ v.1))), some (.int (Int32.ofNat ((2 * k + 1) ^ v.1))), x6, x7] [] G' 0 0 Z) : et_go none (d + 5) 288 86 [some (.ref am), some (.int (Int32.ofNat n)), some (.int (Int32.ofNat k)), some (.int (Int32.ofNat b)), some (.int (Int32.ofNat ((2 * k + 1) ^ v.1))), some (.int (Int32.ofNat c)), x6, x7] [] G 0 0 Z := by
  induction hq9 : ((2 * k + 1) ^ v.1) - c using Nat.strongRecOn generalizing c G x6 x7 with
  | _ q9 ih =>
    have k_am := hK.1.1
    have k_aw := hK.1.2.1
    have k_va := hK.1.2.2.1
    have k_tr := hK.1.2.2.2.1
    have k_be := hK.1.2.2.2.2
    have k_yo := hK.2
    have hw6 := ho.1.1
    have m1 := hrv.1.1.1
    have m20 := hrv.1.1.2.1
    have m21 := hrv.1.1.2.2.1
    have hz := hrv.1.2.1
    have w3 := hrv.1.2.2.1
    have hcr := hrv.1.2.2.2.1
    have hV := hrv.1.2.2.2.2
    have hev := hrv.2.1
    have m35 := hrv.2.2
    have hB := kv_all hk hw6
    have lt_am := (hH.2.2 _ _ k_am).1
    have lt_aw := (hH.2.2 _ _ k_aw).1
    have lt_va := (hH.2.2 _ _ k_va).1
    have lt_tr := (hH.2.2 _ _ k_tr).1
    have lt_yo := (hH.2.2 _ _ k_yo).1
    refine hs_iload (i := 5) (p := 88) (by decide +kernel) rfl ?_
    refine hs_iload (i := 4) (p := 90) (by decide +kernel) rfl ?_
    refine hs_br2n (c := .ge) (t := 154) (f := 93) (by decide +kernel) (by omega) (by omega) (fun (c90 : ((2 * k + 1) ^ v.1) ≤ c) => ?_) (fun (c90 : ¬ (((2 * k + 1) ^ v.1) ≤ c)) => ?_)
    · obtain rfl : c = ((2 * k + 1) ^ v.1) := by omega
      exact h _ _ _ hH hX hrv m28 hyo
    · refine hs_iload (i := 5) (p := 95) (by decide +kernel) rfl ?_
      refine hs_istore (i := 6) (p := 97) (by decide +kernel) (Nat.le_of_ble_eq_true rfl) ?_
      refine hs_k (x := Int32.ofNat 0) (p := 98) (by decide +kernel) ?_
      refine hs_istore (i := 7) (p := 100) (by decide +kernel) (Nat.le_of_ble_eq_true rfl) ?_
      have hst : et_go none (d + 5) 288 100 [some (.ref am), some (.int (Int32.ofNat n)), some (.int (Int32.ofNat k)), some (.int (Int32.ofNat b)), some (.int (Int32.ofNat ((2 * k + 1) ^ v.1))), some (.int (Int32.ofNat c)), some (.int (Int32.ofNat (c / (2 * k + 1) ^ 0))), some (.int (Int32.ofNat 0))] [] G 0 0 Z := by
        refine fn_rdT (m := 0) hH hH hK hn ho hnc hrv hk1 hk xf.rf (fun u hu => absurd hu (Nat.not_lt_zero u)) (Nat.zero_le _) (by omega) (fun G9 x69 hH9 x9 hrv9 hT => ?_)
        have hX9 := hX.tr x9 (fun b j _ h => .inr (.inl h))
        have lt_am9 := (hH.2.2 _ _ k_am).1
        have m28 := (x9.2 am 28 lt_am (fun h => hi_ne k_am k_tr (by decide) h)).trans m28
        have hyo : (∀ j, j < 31 → et_pl (eg_at G9 yo) j = some (.int (smI (fun m => rsT v X Y nc (asC j) (kvL k m)) c))) := fun j hj => (x9.2 yo j lt_yo (fun h => hi_ne k_yo k_tr (by decide) h)).trans (hyo j hj)
        have hH := hH9
        have hrv := hrv9
        refine hs_aload (i := 0) (p := 144) (by decide +kernel) rfl ?_
        refine hs_iload (i := 1) (p := 145) (by decide +kernel) rfl ?_
        refine ht_callv (T := et_TT) (t := 13) (mi := 289) (na := 1) (ci := 11) (lk := 8) (lm := 7) (L0 := eg_en (eg_mL 289) [.ref am, .int (Int32.ofNat n)]) (by decide +kernel) rfl hH k_am rfl rfl rfl rfl rfl (by rw [show eg_mL 289 = 7 from by decide +kernel]; first | done | rfl) ?_
        refine (fn_rdt (T := kvL k c) hH hK hn ho hnc hrv hT m28 hyo (by omega)).mono (fun u9 hu9 => xw_cb hu9 (fun G8 v8 hH8 x8 hP8 => ?_))
        obtain ⟨rfl, m28b, hyob⟩ := hP8
        have hrv := hrv.mv hH hK ho.1.1 x8 (fun b j h => by rcases h with h | h; exact .inl ⟨h.1, by have h := h.2; omega⟩; exact .inr (.inr h))
        have hX8 := hX9.tr x8 (fun b j _ h => by rcases h with h | h; exact .inl h; exact .inr (.inr h))
        show et_go none _ 288 148 _ [] _ _ _ _
        refine hs_iinc1 (i := 5) (p := 151) (by decide +kernel) rfl (Nat.le_of_ble_eq_true rfl) ?_
        refine hs_goto (p := 86) (by decide +kernel) ?_
        exact ih (((2 * k + 1) ^ v.1) - (c + 1)) (by omega) hH8 hrv hX8 m28b hyob (by omega) rfl
      rw [kvL_0] at hst
      exact hst
theorem fn_rdN (hH : et_H et_TT K G) (hK : rvK K am aw va tr be yo) (hn : n < 3) (ho : evo v) (hnc : nc ≤ 20) (hrv : rvI G am aw va tr be yo n nc v X Y) (m28 : et_pl (eg_at G am) 28 = some (.int e0)) (hg : ∀ j, j < 31 → et_pl (eg_at G yo) j = some (.int (g j))) (hq : q ≤ 30) : et_go none (d + 5) 288 178 [some (.ref am), some (.int (Int32.ofNat n)), some (.int (Int32.ofNat k)), some (.int (Int32.ofNat b)), some (.int (Int32.ofNat A9)), some (.int (Int32.ofNat (bsF (mfF g e0) q))), some (.int (Int32.ofNat (q + 1))), x7] [] G 0 0 (xp_Z G (some (.int (nxV (bsF (mfF g e0) 30))))) := by
  induction hq9 : 30 - q using Nat.strongRecOn generalizing q with
  | _ q9 ih =>
    have k_am := hK.1.1
    have k_aw := hK.1.2.1
    have k_va := hK.1.2.2.1
    have k_tr := hK.1.2.2.2.1
    have k_be := hK.1.2.2.2.2
    have k_yo := hK.2
    have hw6 := ho.1.1
    have m1 := hrv.1.1.1
    have m20 := hrv.1.1.2.1
    have m21 := hrv.1.1.2.2.1
    have hz := hrv.1.2.1
    have w3 := hrv.1.2.2.1
    have hcr := hrv.1.2.2.2.1
    have hV := hrv.1.2.2.2.2
    have hev := hrv.2.1
    have m35 := hrv.2.2
    have hb := bs_le (f := (mfF g e0)) q
    have lt_am := (hH.2.2 _ _ k_am).1
    have lt_aw := (hH.2.2 _ _ k_aw).1
    have lt_va := (hH.2.2 _ _ k_va).1
    have lt_tr := (hH.2.2 _ _ k_tr).1
    have lt_yo := (hH.2.2 _ _ k_yo).1
    refine hs_iload (i := 6) (p := 180) (by decide +kernel) rfl ?_
    refine hs_k (x := Int32.ofNat 31) (p := 182) (by decide +kernel) ?_
    refine hs_br2n (c := .ge) (t := 242) (f := 185) (by decide +kernel) (by omega) (by omega) (fun (c182 : 31 ≤ (q + 1)) => ?_) (fun (c182 : ¬ (31 ≤ (q + 1))) => ?_)
    · refine hs_iload (i := 5) (p := 244) (by decide +kernel) rfl ?_
      refine hs_k (x := Int32.ofNat 16) (p := 246) (by decide +kernel) ?_
      refine hs_br2n (c := .ge) (t := 257) (f := 249) (by decide +kernel) (by omega) (by omega) (fun (c246 : 16 ≤ (bsF (mfF g e0) q)) => ?_) (fun (c246 : ¬ (16 ≤ (bsF (mfF g e0) q))) => ?_)
      · refine hs_k (x := Int32.ofNat 32) (p := 259) (by decide +kernel) ?_
        refine hs_iload (i := 5) (p := 261) (by decide +kernel) rfl ?_
        refine hs_iaddn (p := 262) (by decide +kernel) ?_
        refine hs_k (x := Int32.ofNat 16) (p := 264) (by decide +kernel) ?_
        refine hs_isubn (p := 265) (by decide +kernel) (by omega) ?_
        refine hs_iret (by decide +kernel) ?_
        obtain rfl : q = 30 := by omega
        show xp_Z G (some (.int (nxV (bsF (mfF g e0) 30)))) (.inl (some (.int (Int32.ofNat ((32 + (bsF (mfF g e0) 30)) - 16)))), G, 0, 0)
        rw [show nxV (bsF (mfF g e0) 30) = Int32.ofNat (32 + bsF (mfF g e0) 30 - 16) from if_neg (by omega)]
        rfl
      · refine hs_k (x := Int32.ofNat 16) (p := 251) (by decide +kernel) ?_
        refine hs_iload (i := 5) (p := 253) (by decide +kernel) rfl ?_
        refine hs_iaddn (p := 254) (by decide +kernel) ?_
        refine hs_goto (p := 265) (by decide +kernel) ?_
        refine hs_iret (by decide +kernel) ?_
        obtain rfl : q = 30 := by omega
        show xp_Z G (some (.int (nxV (bsF (mfF g e0) 30)))) (.inl (some (.int (Int32.ofNat (16 + (bsF (mfF g e0) 30))))), G, 0, 0)
        rw [show nxV (bsF (mfF g e0) 30) = Int32.ofNat (16 + bsF (mfF g e0) 30) from if_pos (by omega)]
        rfl
    · refine hs_aload (i := 0) (p := 186) (by decide +kernel) rfl ?_
      refine hf_get (T := et_TT) (t := 13) (ci := 11) (f := 35) (p := 189) (by decide +kernel) rfl hH k_am m35 ?_
      refine hs_iload (i := 6) (p := 191) (by decide +kernel) rfl ?_
      refine hf_ald (ins := .iaload) (T := et_TT) (t := 19) (kd := 0) (N := 31) (p := 192) (by decide +kernel) (fun _ _ _ _ _ _ _ _ _ _ => rfl) rfl rfl rfl hH k_yo (by decide) (hg (q + 1) (by omega)) ?_
      refine hs_aload (i := 0) (p := 193) (by decide +kernel) rfl ?_
      refine hf_get (T := et_TT) (t := 13) (ci := 11) (f := 28) (p := 196) (by decide +kernel) rfl hH k_am m28 ?_
      refine hs_aload (i := 0) (p := 197) (by decide +kernel) rfl ?_
      refine hf_get (T := et_TT) (t := 13) (ci := 11) (f := 35) (p := 200) (by decide +kernel) rfl hH k_am m35 ?_
      refine hs_iload (i := 6) (p := 202) (by decide +kernel) rfl ?_
      refine hf_ald (ins := .iaload) (T := et_TT) (t := 19) (kd := 0) (N := 31) (p := 203) (by decide +kernel) (fun _ _ _ _ _ _ _ _ _ _ => rfl) rfl rfl rfl hH k_yo (by decide) (hg (q + 1) (by omega)) ?_
      refine hs_isub (p := 204) (by decide +kernel) ?_
      refine hs_math (mi := 310) (lk := 8) (p := 207) (by decide +kernel) rfl rfl rfl rfl ?_
      rw [show (if (g (q + 1)) < (e0 - (g (q + 1))) then (e0 - (g (q + 1))) else (g (q + 1))) = mfF g e0 (q + 1) from rfl]
      refine hs_aload (i := 0) (p := 208) (by decide +kernel) rfl ?_
      refine hf_get (T := et_TT) (t := 13) (ci := 11) (f := 35) (p := 211) (by decide +kernel) rfl hH k_am m35 ?_
      refine hs_iload (i := 5) (p := 213) (by decide +kernel) rfl ?_
      refine hf_ald (ins := .iaload) (T := et_TT) (t := 19) (kd := 0) (N := 31) (p := 214) (by decide +kernel) (fun _ _ _ _ _ _ _ _ _ _ => rfl) rfl rfl rfl hH k_yo (by decide) (hg (bsF (mfF g e0) q) (by omega)) ?_
      refine hs_aload (i := 0) (p := 215) (by decide +kernel) rfl ?_
      refine hf_get (T := et_TT) (t := 13) (ci := 11) (f := 28) (p := 218) (by decide +kernel) rfl hH k_am m28 ?_
      refine hs_aload (i := 0) (p := 219) (by decide +kernel) rfl ?_
      refine hf_get (T := et_TT) (t := 13) (ci := 11) (f := 35) (p := 222) (by decide +kernel) rfl hH k_am m35 ?_
      refine hs_iload (i := 5) (p := 224) (by decide +kernel) rfl ?_
      refine hf_ald (ins := .iaload) (T := et_TT) (t := 19) (kd := 0) (N := 31) (p := 225) (by decide +kernel) (fun _ _ _ _ _ _ _ _ _ _ => rfl) rfl rfl rfl hH k_yo (by decide) (hg (bsF (mfF g e0) q) (by omega)) ?_
      refine hs_isub (p := 226) (by decide +kernel) ?_
      refine hs_math (mi := 310) (lk := 8) (p := 229) (by decide +kernel) rfl rfl rfl rfl ?_
      rw [show (if (g (bsF (mfF g e0) q)) < (e0 - (g (bsF (mfF g e0) q))) then (e0 - (g (bsF (mfF g e0) q))) else (g (bsF (mfF g e0) q))) = mfF g e0 (bsF (mfF g e0) q) from rfl]
      refine hs_br2 (c := .ge) (t := 236) (f := 232) (by decide +kernel) (fun (c229 : (mfF g e0 (bsF (mfF g e0) q)) ≤ (mfF g e0 (q + 1))) => ?_) (fun (c229 : ¬ ((mfF g e0 (bsF (mfF g e0) q)) ≤ (mfF g e0 (q + 1)))) => ?_)
      · refine hs_iinc1 (i := 6) (p := 239) (by decide +kernel) rfl (Nat.le_of_ble_eq_true rfl) ?_
        refine hs_goto (p := 178) (by decide +kernel) ?_
        have e9 : bsF (mfF g e0) (q + 1) = bsF (mfF g e0) q := bs_s2 (Int32.not_lt.mpr c229)
        have hr := ih (30 - (q + 1)) (by omega) (q := q + 1) (by omega) rfl
        rw [e9] at hr
        exact hr
      · refine hs_iload (i := 6) (p := 234) (by decide +kernel) rfl ?_
        refine hs_istore (i := 5) (p := 236) (by decide +kernel) (Nat.le_of_ble_eq_true rfl) ?_
        refine hs_iinc1 (i := 6) (p := 239) (by decide +kernel) rfl (Nat.le_of_ble_eq_true rfl) ?_
        refine hs_goto (p := 178) (by decide +kernel) ?_
        have e9 : bsF (mfF g e0) (q + 1) = q + 1 := bs_s1 (Int32.not_le.mp c229)
        have hr := ih (30 - (q + 1)) (by omega) (q := q + 1) (by omega) rfl
        rw [e9] at hr
        exact hr
theorem fn_read0 (hH : et_H et_TT K G) (k_am : K am = some 13) (k_aw : K aw = some 46) (m1 : et_pl (eg_at G am) 1 = some (.ref aw)) (w4 : et_pl (eg_at G aw) 4 = some (.int (Int32.ofNat ec))) (hec : ec ≤ 3) (hm : zyM G aw ec V) (ho : ∀ n, n < 3 → evo (V n)) (w3 : et_pl (eg_at G aw) 3 = some (.int (Int32.ofNat nc))) (hnc : nc ≤ 20) (hcr : crP G aw nc X Y) (hn : n < ec) (hk1 : 1 ≤ k) (hk : k ≤ 2) (hd : 8 ≤ d2) : et_go none d2 288 0 (eg_en (eg_mL 288) [.ref am, .int (Int32.ofNat n), .int (Int32.ofNat k), .int (Int32.ofNat 0)]) [] G 0 0 (fun u => u.1 = .inl (some (.int (rdV (V n) X Y nc k 0))) ∧ et_pl (eg_at u.2.1 am) 0 = some (.int (Int32.ofNat 0))) := by
  obtain ⟨d, rfl⟩ : ∃ d, d2 = d + 8 := ⟨d2 - 8, by omega⟩
  rw [show eg_mL 288 = 8 from by decide +kernel]
  show et_go none (d + 8) 288 0 [some (.ref am), some (.int (Int32.ofNat n)), some (.int (Int32.ofNat k)), some (.int (Int32.ofNat 0)), none, none, none, none] [] G 0 0 _
  have lt_am := (hH.2.2 _ _ k_am).1
  have lt_aw := (hH.2.2 _ _ k_aw).1
  refine hs_aload (i := 0) (p := 1) (by decide +kernel) rfl ?_
  refine hs_k (x := Int32.ofNat 0) (p := 2) (by decide +kernel) ?_
  refine hf_put (T := et_TT) (t := 13) (ci := 11) (f := 0) (p := 5) (ty := .int) (by decide +kernel) rfl rfl rfl rfl rfl hH k_am hi_any (fun G2 hH x2 e2 => ?_)
  have hm := hm.mv ho (fun j _ _ => x2.2 aw j lt_aw (fun h => hi_ne k_aw k_am (by decide) h.1))
  have hcr : crP G2 aw nc X Y := fun k hk => ⟨(x2.2 aw _ lt_aw (fun h => hi_ne k_aw k_am (by decide) h.1)).trans (hcr k hk).1, (x2.2 aw _ lt_aw (fun h => hi_ne k_aw k_am (by decide) h.1)).trans (hcr k hk).2.1, (hcr k hk).2.2⟩
  have w3 := (x2.2 aw 3 lt_aw (fun h => hi_ne k_aw k_am (by decide) h.1)).trans w3
  have m1 := (x2.2 am 1 lt_am (fun h => absurd h.2 (by decide))).trans m1
  have w4 := (x2.2 aw 4 lt_aw (fun h => (hi_ne k_aw k_am (by decide)) h.1)).trans w4
  have lt_am := Nat.lt_of_lt_of_le lt_am x2.1
  have lt_aw := Nat.lt_of_lt_of_le lt_aw x2.1
  refine hs_aload (i := 0) (p := 6) (by decide +kernel) rfl ?_
  refine hs_iload (i := 1) (p := 7) (by decide +kernel) rfl ?_
  refine hs_iload (i := 2) (p := 8) (by decide +kernel) rfl ?_
  refine hs_k (x := Int32.ofNat 2) (p := 9) (by decide +kernel) ?_
  refine ht_callv (T := et_TT) (t := 13) (mi := 254) (na := 3) (ci := 11) (lk := 8) (lm := 4) (L0 := eg_en (eg_mL 254) [.ref am, .int (Int32.ofNat n), .int (Int32.ofNat k), .int (Int32.ofNat 2)]) (by decide +kernel) rfl hH k_am rfl rfl rfl rfl rfl (by rw [show eg_mL 254 = 4 from by decide +kernel]; first | done | rfl) ?_
  refine (fn_nsY (q := 2) hH k_am k_aw m1 w4 hec hm ho (by decide) hn hk1 hk (by omega)).mono (fun u hu => xp_cb hu ?_)
  show et_go none _ 288 12 _ [.int (Int32.ofNat 0)] _ _ _ _
  refine hs_if1 (c := .eq) (t := 17) (f := 15) (by decide +kernel) (show Int32.ofNat 0 = 0 by decide) ?_
  refine hs_aload (i := 0) (p := 18) (by decide +kernel) rfl ?_
  refine hs_iload (i := 1) (p := 19) (by decide +kernel) rfl ?_
  obtain ⟨va, m20, k_va⟩ := hf_ref (t := 13) (f := 20) (u := 20) hH k_am rfl rfl (.inr trivial)
  obtain ⟨tr, m21, k_tr⟩ := hf_ref (t := 13) (f := 21) (u := 49) hH k_am rfl rfl (.inr trivial)
  obtain ⟨be, m22, k_be⟩ := hf_ref (t := 13) (f := 22) (u := 50) hH k_am rfl rfl (.inr trivial)
  obtain ⟨yo, m35, k_yo⟩ := hf_ref (t := 13) (f := 35) (u := 19) hH k_am rfl rfl (.inr trivial)
  refine ht_callv (T := et_TT) (t := 13) (mi := 256) (na := 1) (ci := 11) (lk := 8) (lm := 4) (L0 := eg_en (eg_mL 256) [.ref am, .int (Int32.ofNat n)]) (by decide +kernel) rfl hH k_am rfl rfl rfl rfl rfl (by rw [show eg_mL 256 = 4 from by decide +kernel]; first | done | rfl) ?_
  have hv9 := (hm n (by omega)).1 hn
  have hoz := ho n (by omega)
  refine (fn_lay (v := V n) hH k_am k_aw k_va m1 m20 (by omega) hoz hv9 hnc w3 hcr (by omega)).mono (fun u9 hu9 => xw_cb hu9 (fun G9 v9 hH9 x9 hP9 => ?_))
  obtain ⟨rfl, hlay⟩ := hP9
  have hK : rvK K am aw va tr be yo := ⟨⟨k_am, k_aw, k_va, k_tr, k_be⟩, k_yo⟩
  have fa : ∀ j, et_pl (eg_at G9 am) j = et_pl (eg_at G2 am) j := fun j => x9.2 am j (hH.2.2 _ _ k_am).1 (fun h => hi_ne k_am k_va (by decide) h)
  have fw : ∀ j, et_pl (eg_at G9 aw) j = et_pl (eg_at G2 aw) j := fun j => x9.2 aw j (hH.2.2 _ _ k_aw).1 (fun h => hi_ne k_aw k_va (by decide) h)
  have hrv : rvI G9 am aw va tr be yo n nc (V n) X Y := ⟨⟨⟨(fa 1).trans m1, (fa 20).trans m20, (fa 21).trans m21, (fa 22).trans m22⟩, (fw _).trans hv9.1, (fw 3).trans w3, fun c hc => ⟨(fw _).trans (hcr c hc).1, (fw _).trans (hcr c hc).2.1, (hcr c hc).2.2⟩, hlay⟩, evM.mv hv9 (fun j _ => fw _) hoz.1.1, (fa 35).trans m35⟩
  have th0 := (fa 0).trans e2
  have hH := hH9
  have hn3 : n < 3 := by omega
  have lt_am := (hH.2.2 _ _ k_am).1
  show et_go none _ 288 22 _ [] _ _ _ _
  refine hs_aload (i := 0) (p := 23) (by decide +kernel) rfl ?_
  refine hs_k (x := Int32.ofNat 0) (p := 24) (by decide +kernel) ?_
  have hHo := hH
  refine hf_put (T := et_TT) (t := 13) (ci := 11) (f := 28) (p := 27) (ty := .int) (by decide +kernel) rfl rfl rfl rfl rfl hH k_am hi_any (fun G24 hH x24 e24 => ?_)
  have hrv := hrv.mv hHo hK hoz.1.1 x24 (fun b j h => .inl ⟨h.1, by have h := h.2; omega⟩)
  have th0 := (x24.2 am 0 (hHo.2.2 _ _ k_am).1 (fun h => absurd h.2 (by decide))).trans th0
  refine hs_k (x := Int32.ofNat 0) (p := 28) (by decide +kernel) ?_
  refine hs_istore (i := 4) (p := 30) (by decide +kernel) (Nat.le_of_ble_eq_true rfl) ?_
  have q28 := e24
  refine fn_rdZ (d := d + 3) (q := 0) hH hH hK hn3 hoz hnc hrv xf.rf (fun j hj => absurd hj (Nat.not_lt_zero j)) (Nat.zero_le 31) (fun G7 hH7 x7 hrv hz7 => ?_)
  have q28 := (x7.2 am 28 (hH.2.2 _ _ k_am).1 (fun h => hi_ne k_am k_yo (by decide) h)).trans q28
  have th0 := (x7.2 am 0 (hH.2.2 _ _ k_am).1 (fun h => hi_ne k_am k_yo (by decide) h)).trans th0
  have hH := hH7
  refine hs_k (x := Int32.ofNat 1) (p := 52) (by decide +kernel) ?_
  refine hs_istore (i := 4) (p := 54) (by decide +kernel) (Nat.le_of_ble_eq_true rfl) ?_
  refine hs_k (x := Int32.ofNat 0) (p := 55) (by decide +kernel) ?_
  refine hs_istore (i := 5) (p := 57) (by decide +kernel) (Nat.le_of_ble_eq_true rfl) ?_
  refine fn_rdA (d := d + 3) (m := 0) hH hK hn3 hoz hnc hrv (Nat.zero_le _) ?_
  refine hs_k (x := Int32.ofNat 0) (p := 84) (by decide +kernel) ?_
  refine hs_istore (i := 5) (p := 86) (by decide +kernel) (Nat.le_of_ble_eq_true rfl) ?_
  refine fn_rdL (d := d + 3) (c := 0) hH hH hK hn3 hoz hnc hrv hk1 (by omega) xf.rf q28 hz7 (Nat.zero_le _) (fun G8 x68 x78 hH8 x8 hrv q28 hyo => ?_)
  have th0 := (x8.2 am 0 (hH.2.2 _ _ k_am).1 (fun h => by rcases h with h | h | h; exact absurd h.2 (by decide); exact hi_ne k_am k_tr (by decide) h; exact hi_ne k_am k_yo (by decide) h)).trans th0
  have hH := hH8
  have lt_am := (hH.2.2 _ _ k_am).1
  have q28 : et_pl (eg_at G8 am) 28 = some (.int (eyV (V n) X Y nc k)) := q28.trans (by rw [← re_same]; rfl)
  have hyo : ∀ j, j < 31 → et_pl (eg_at G8 yo) j = some (.int (syV (V n) X Y nc k j)) := fun j hj => (hyo j hj).trans (by rw [← rs_same]; rfl)
  refine hs_iload (i := 3) (p := 155) (by decide +kernel) rfl ?_
  refine hs_if0 (c := .ne) (t := 163) (f := 158) (by decide +kernel) (show ¬ (¬ Int32.ofNat 0 = 0) by decide) ?_
  refine hs_aload (i := 0) (p := 159) (by decide +kernel) rfl ?_
  refine hf_get (T := et_TT) (t := 13) (ci := 11) (f := 28) (p := 162) (by decide +kernel) rfl hH k_am q28 ?_
  refine hs_iret (by decide +kernel) ?_
  refine ⟨?_, th0⟩
  rfl
theorem fn_read1 (hH : et_H et_TT K G) (k_am : K am = some 13) (k_aw : K aw = some 46) (m1 : et_pl (eg_at G am) 1 = some (.ref aw)) (w4 : et_pl (eg_at G aw) 4 = some (.int (Int32.ofNat ec))) (hec : ec ≤ 3) (hm : zyM G aw ec V) (ho : ∀ n, n < 3 → evo (V n)) (w3 : et_pl (eg_at G aw) 3 = some (.int (Int32.ofNat nc))) (hnc : nc ≤ 20) (hcr : crP G aw nc X Y) (hn : n < ec) (hk1 : 1 ≤ k) (hk : k ≤ 2) (hd : 8 ≤ d2) : et_go none d2 288 0 (eg_en (eg_mL 288) [.ref am, .int (Int32.ofNat n), .int (Int32.ofNat k), .int (Int32.ofNat 1)]) [] G 0 0 (fun u => u.1 = .inl (some (.int (rdV (V n) X Y nc k 1))) ∧ et_pl (eg_at u.2.1 am) 0 = some (.int (Int32.ofNat 0))) := by
  obtain ⟨d, rfl⟩ : ∃ d, d2 = d + 8 := ⟨d2 - 8, by omega⟩
  rw [show eg_mL 288 = 8 from by decide +kernel]
  show et_go none (d + 8) 288 0 [some (.ref am), some (.int (Int32.ofNat n)), some (.int (Int32.ofNat k)), some (.int (Int32.ofNat 1)), none, none, none, none] [] G 0 0 _
  have lt_am := (hH.2.2 _ _ k_am).1
  have lt_aw := (hH.2.2 _ _ k_aw).1
  refine hs_aload (i := 0) (p := 1) (by decide +kernel) rfl ?_
  refine hs_k (x := Int32.ofNat 0) (p := 2) (by decide +kernel) ?_
  refine hf_put (T := et_TT) (t := 13) (ci := 11) (f := 0) (p := 5) (ty := .int) (by decide +kernel) rfl rfl rfl rfl rfl hH k_am hi_any (fun G2 hH x2 e2 => ?_)
  have hm := hm.mv ho (fun j _ _ => x2.2 aw j lt_aw (fun h => hi_ne k_aw k_am (by decide) h.1))
  have hcr : crP G2 aw nc X Y := fun k hk => ⟨(x2.2 aw _ lt_aw (fun h => hi_ne k_aw k_am (by decide) h.1)).trans (hcr k hk).1, (x2.2 aw _ lt_aw (fun h => hi_ne k_aw k_am (by decide) h.1)).trans (hcr k hk).2.1, (hcr k hk).2.2⟩
  have w3 := (x2.2 aw 3 lt_aw (fun h => hi_ne k_aw k_am (by decide) h.1)).trans w3
  have m1 := (x2.2 am 1 lt_am (fun h => absurd h.2 (by decide))).trans m1
  have w4 := (x2.2 aw 4 lt_aw (fun h => (hi_ne k_aw k_am (by decide)) h.1)).trans w4
  have lt_am := Nat.lt_of_lt_of_le lt_am x2.1
  have lt_aw := Nat.lt_of_lt_of_le lt_aw x2.1
  refine hs_aload (i := 0) (p := 6) (by decide +kernel) rfl ?_
  refine hs_iload (i := 1) (p := 7) (by decide +kernel) rfl ?_
  refine hs_iload (i := 2) (p := 8) (by decide +kernel) rfl ?_
  refine hs_k (x := Int32.ofNat 2) (p := 9) (by decide +kernel) ?_
  refine ht_callv (T := et_TT) (t := 13) (mi := 254) (na := 3) (ci := 11) (lk := 8) (lm := 4) (L0 := eg_en (eg_mL 254) [.ref am, .int (Int32.ofNat n), .int (Int32.ofNat k), .int (Int32.ofNat 2)]) (by decide +kernel) rfl hH k_am rfl rfl rfl rfl rfl (by rw [show eg_mL 254 = 4 from by decide +kernel]; first | done | rfl) ?_
  refine (fn_nsY (q := 2) hH k_am k_aw m1 w4 hec hm ho (by decide) hn hk1 hk (by omega)).mono (fun u hu => xp_cb hu ?_)
  show et_go none _ 288 12 _ [.int (Int32.ofNat 0)] _ _ _ _
  refine hs_if1 (c := .eq) (t := 17) (f := 15) (by decide +kernel) (show Int32.ofNat 0 = 0 by decide) ?_
  refine hs_aload (i := 0) (p := 18) (by decide +kernel) rfl ?_
  refine hs_iload (i := 1) (p := 19) (by decide +kernel) rfl ?_
  obtain ⟨va, m20, k_va⟩ := hf_ref (t := 13) (f := 20) (u := 20) hH k_am rfl rfl (.inr trivial)
  obtain ⟨tr, m21, k_tr⟩ := hf_ref (t := 13) (f := 21) (u := 49) hH k_am rfl rfl (.inr trivial)
  obtain ⟨be, m22, k_be⟩ := hf_ref (t := 13) (f := 22) (u := 50) hH k_am rfl rfl (.inr trivial)
  obtain ⟨yo, m35, k_yo⟩ := hf_ref (t := 13) (f := 35) (u := 19) hH k_am rfl rfl (.inr trivial)
  refine ht_callv (T := et_TT) (t := 13) (mi := 256) (na := 1) (ci := 11) (lk := 8) (lm := 4) (L0 := eg_en (eg_mL 256) [.ref am, .int (Int32.ofNat n)]) (by decide +kernel) rfl hH k_am rfl rfl rfl rfl rfl (by rw [show eg_mL 256 = 4 from by decide +kernel]; first | done | rfl) ?_
  have hv9 := (hm n (by omega)).1 hn
  have hoz := ho n (by omega)
  refine (fn_lay (v := V n) hH k_am k_aw k_va m1 m20 (by omega) hoz hv9 hnc w3 hcr (by omega)).mono (fun u9 hu9 => xw_cb hu9 (fun G9 v9 hH9 x9 hP9 => ?_))
  obtain ⟨rfl, hlay⟩ := hP9
  have hK : rvK K am aw va tr be yo := ⟨⟨k_am, k_aw, k_va, k_tr, k_be⟩, k_yo⟩
  have fa : ∀ j, et_pl (eg_at G9 am) j = et_pl (eg_at G2 am) j := fun j => x9.2 am j (hH.2.2 _ _ k_am).1 (fun h => hi_ne k_am k_va (by decide) h)
  have fw : ∀ j, et_pl (eg_at G9 aw) j = et_pl (eg_at G2 aw) j := fun j => x9.2 aw j (hH.2.2 _ _ k_aw).1 (fun h => hi_ne k_aw k_va (by decide) h)
  have hrv : rvI G9 am aw va tr be yo n nc (V n) X Y := ⟨⟨⟨(fa 1).trans m1, (fa 20).trans m20, (fa 21).trans m21, (fa 22).trans m22⟩, (fw _).trans hv9.1, (fw 3).trans w3, fun c hc => ⟨(fw _).trans (hcr c hc).1, (fw _).trans (hcr c hc).2.1, (hcr c hc).2.2⟩, hlay⟩, evM.mv hv9 (fun j _ => fw _) hoz.1.1, (fa 35).trans m35⟩
  have th0 := (fa 0).trans e2
  have hH := hH9
  have hn3 : n < 3 := by omega
  have lt_am := (hH.2.2 _ _ k_am).1
  show et_go none _ 288 22 _ [] _ _ _ _
  refine hs_aload (i := 0) (p := 23) (by decide +kernel) rfl ?_
  refine hs_k (x := Int32.ofNat 0) (p := 24) (by decide +kernel) ?_
  have hHo := hH
  refine hf_put (T := et_TT) (t := 13) (ci := 11) (f := 28) (p := 27) (ty := .int) (by decide +kernel) rfl rfl rfl rfl rfl hH k_am hi_any (fun G24 hH x24 e24 => ?_)
  have hrv := hrv.mv hHo hK hoz.1.1 x24 (fun b j h => .inl ⟨h.1, by have h := h.2; omega⟩)
  have th0 := (x24.2 am 0 (hHo.2.2 _ _ k_am).1 (fun h => absurd h.2 (by decide))).trans th0
  refine hs_k (x := Int32.ofNat 0) (p := 28) (by decide +kernel) ?_
  refine hs_istore (i := 4) (p := 30) (by decide +kernel) (Nat.le_of_ble_eq_true rfl) ?_
  have q28 := e24
  refine fn_rdZ (d := d + 3) (q := 0) hH hH hK hn3 hoz hnc hrv xf.rf (fun j hj => absurd hj (Nat.not_lt_zero j)) (Nat.zero_le 31) (fun G7 hH7 x7 hrv hz7 => ?_)
  have q28 := (x7.2 am 28 (hH.2.2 _ _ k_am).1 (fun h => hi_ne k_am k_yo (by decide) h)).trans q28
  have th0 := (x7.2 am 0 (hH.2.2 _ _ k_am).1 (fun h => hi_ne k_am k_yo (by decide) h)).trans th0
  have hH := hH7
  refine hs_k (x := Int32.ofNat 1) (p := 52) (by decide +kernel) ?_
  refine hs_istore (i := 4) (p := 54) (by decide +kernel) (Nat.le_of_ble_eq_true rfl) ?_
  refine hs_k (x := Int32.ofNat 0) (p := 55) (by decide +kernel) ?_
  refine hs_istore (i := 5) (p := 57) (by decide +kernel) (Nat.le_of_ble_eq_true rfl) ?_
  refine fn_rdA (d := d + 3) (m := 0) hH hK hn3 hoz hnc hrv (Nat.zero_le _) ?_
  refine hs_k (x := Int32.ofNat 0) (p := 84) (by decide +kernel) ?_
  refine hs_istore (i := 5) (p := 86) (by decide +kernel) (Nat.le_of_ble_eq_true rfl) ?_
  refine fn_rdL (d := d + 3) (c := 0) hH hH hK hn3 hoz hnc hrv hk1 (by omega) xf.rf q28 hz7 (Nat.zero_le _) (fun G8 x68 x78 hH8 x8 hrv q28 hyo => ?_)
  have th0 := (x8.2 am 0 (hH.2.2 _ _ k_am).1 (fun h => by rcases h with h | h | h; exact absurd h.2 (by decide); exact hi_ne k_am k_tr (by decide) h; exact hi_ne k_am k_yo (by decide) h)).trans th0
  have hH := hH8
  have lt_am := (hH.2.2 _ _ k_am).1
  have q28 : et_pl (eg_at G8 am) 28 = some (.int (eyV (V n) X Y nc k)) := q28.trans (by rw [← re_same]; rfl)
  have hyo : ∀ j, j < 31 → et_pl (eg_at G8 yo) j = some (.int (syV (V n) X Y nc k j)) := fun j hj => (hyo j hj).trans (by rw [← rs_same]; rfl)
  refine hs_iload (i := 3) (p := 155) (by decide +kernel) rfl ?_
  refine hs_if1 (c := .ne) (t := 163) (f := 158) (by decide +kernel) (show ¬ Int32.ofNat 1 = 0 by decide) ?_
  refine hs_aload (i := 0) (p := 164) (by decide +kernel) rfl ?_
  refine hf_get (T := et_TT) (t := 13) (ci := 11) (f := 28) (p := 167) (by decide +kernel) rfl hH k_am q28 ?_
  refine hs_br1 (c := .ne) (t := 172) (f := 170) (by decide +kernel) (fun (c167 : ¬ (eyV (V n) X Y nc k) = 0) => ?_) (fun (c167 : ¬ (¬ (eyV (V n) X Y nc k) = 0)) => ?_)
  · refine hs_k (x := Int32.ofNat 0) (p := 173) (by decide +kernel) ?_
    refine hs_istore (i := 5) (p := 175) (by decide +kernel) (Nat.le_of_ble_eq_true rfl) ?_
    refine hs_k (x := Int32.ofNat 1) (p := 176) (by decide +kernel) ?_
    refine hs_istore (i := 6) (p := 178) (by decide +kernel) (Nat.le_of_ble_eq_true rfl) ?_
    refine (fn_rdN (d := d + 3) (q := 0) (g := syV (V n) X Y nc k) (e0 := (eyV (V n) X Y nc k)) hH hK hn3 hoz hnc hrv q28 hyo (Nat.zero_le 30)).mono (fun u hu => ?_)
    rw [show u = (.inl (some (.int _)), G8, 0, 0) from hu]
    refine ⟨?_, th0⟩
    rw [rdV_2 c167]
  · refine hs_k (x := (-1)) (p := 171) (by decide +kernel) ?_
    refine hs_iret (by decide +kernel) ?_
    refine ⟨?_, th0⟩
    rw [rdV_1 (Decidable.of_not_not c167)]
theorem fn_read (hH : et_H et_TT K G) (k_am : K am = some 13) (k_aw : K aw = some 46) (m1 : et_pl (eg_at G am) 1 = some (.ref aw)) (w4 : et_pl (eg_at G aw) 4 = some (.int (Int32.ofNat ec))) (hec : ec ≤ 3) (hm : zyM G aw ec V) (ho : ∀ n, n < 3 → evo (V n)) (w3 : et_pl (eg_at G aw) 3 = some (.int (Int32.ofNat nc))) (hnc : nc ≤ 20) (hcr : crP G aw nc X Y) (hn : n < ec) (hk1 : 1 ≤ k) (hk : k ≤ 2) (hb : b ≤ 1) (hd : 8 ≤ d2) : et_go none d2 288 0 (eg_en (eg_mL 288) [.ref am, .int (Int32.ofNat n), .int (Int32.ofNat k), .int (Int32.ofNat b)]) [] G 0 0 (fun u => u.1 = .inl (some (.int (rdV (V n) X Y nc k b))) ∧ et_pl (eg_at u.2.1 am) 0 = some (.int (Int32.ofNat 0))) := by
  rcases (show b = 0 ∨ b = 1 by omega) with rfl | rfl
  · exact fn_read0 hH k_am k_aw m1 w4 hec hm ho w3 hnc hcr hn hk1 hk hd
  · exact fn_read1 hH k_am k_aw m1 w4 hec hm ho w3 hnc hcr hn hk1 hk hd
theorem fn_readK (hH : et_H et_TT K G) (k_am : K am = some 13) (k_aw : K aw = some 46) (m1 : et_pl (eg_at G am) 1 = some (.ref aw)) (w4 : et_pl (eg_at G aw) 4 = some (.int (Int32.ofNat ec))) (hec : ec ≤ 3) (hm : zyM G aw ec V) (ho : ∀ n, n < 3 → evo (V n)) (hn : n < ec) (hy : ¬ (1 ≤ y.toInt ∧ y.toInt ≤ 2)) (hd : 3 ≤ d2) : et_go none d2 288 0 (eg_en (eg_mL 288) [.ref am, .int (Int32.ofNat n), .int y, .int (Int32.ofNat b)]) [] G 0 0 (fun u => u.1 = .inl (some (.int (Int32.ofNat 0))) ∧ et_pl (eg_at u.2.1 am) 0 = some (.int (Int32.ofNat 2))) := by
  obtain ⟨d, rfl⟩ : ∃ d, d2 = d + 3 := ⟨d2 - 3, by omega⟩
  rw [show eg_mL 288 = 8 from by decide +kernel]
  show et_go none (d + 3) 288 0 [some (.ref am), some (.int (Int32.ofNat n)), some (.int y), some (.int (Int32.ofNat b)), none, none, none, none] [] G 0 0 _
  have lt_am := (hH.2.2 _ _ k_am).1
  have lt_aw := (hH.2.2 _ _ k_aw).1
  refine hs_aload (i := 0) (p := 1) (by decide +kernel) rfl ?_
  refine hs_k (x := Int32.ofNat 0) (p := 2) (by decide +kernel) ?_
  refine hf_put (T := et_TT) (t := 13) (ci := 11) (f := 0) (p := 5) (ty := .int) (by decide +kernel) rfl rfl rfl rfl rfl hH k_am hi_any (fun G2 hH x2 e2 => ?_)
  have hm := hm.mv ho (fun j _ _ => x2.2 aw j lt_aw (fun h => hi_ne k_aw k_am (by decide) h.1))
  have m1 := (x2.2 am 1 lt_am (fun h => absurd h.2 (by decide))).trans m1
  have w4 := (x2.2 aw 4 lt_aw (fun h => (hi_ne k_aw k_am (by decide)) h.1)).trans w4
  have lt_am := Nat.lt_of_lt_of_le lt_am x2.1
  have lt_aw := Nat.lt_of_lt_of_le lt_aw x2.1
  refine hs_aload (i := 0) (p := 6) (by decide +kernel) rfl ?_
  refine hs_iload (i := 1) (p := 7) (by decide +kernel) rfl ?_
  refine hs_iload (i := 2) (p := 8) (by decide +kernel) rfl ?_
  refine hs_k (x := Int32.ofNat 2) (p := 9) (by decide +kernel) ?_
  refine ht_callv (T := et_TT) (t := 13) (mi := 254) (na := 3) (ci := 11) (lk := 8) (lm := 4) (L0 := eg_en (eg_mL 254) [.ref am, .int (Int32.ofNat n), .int y, .int (Int32.ofNat 2)]) (by decide +kernel) rfl hH k_am rfl rfl rfl rfl rfl (by rw [show eg_mL 254 = 4 from by decide +kernel]; first | done | rfl) ?_
  refine (fn_nsK (q := 2) hH k_am k_aw m1 w4 hec hm ho (by decide) hn hy (by omega)).mono (fun u hu => xw_cb hu (fun G9 v9 hH x9 hP9 => ?_))
  have hm := hm.mv ho (fun j _ _ => x9.2 aw j lt_aw (fun h => hi_ne k_aw k_am (by decide) h.1))
  have m1 := (x9.2 am 1 lt_am (fun h => absurd h.2 (by decide))).trans m1
  have w4 := (x9.2 aw 4 lt_aw (fun h => (hi_ne k_aw k_am (by decide)) h.1)).trans w4
  have lt_am := Nat.lt_of_lt_of_le lt_am x9.1
  have lt_aw := Nat.lt_of_lt_of_le lt_aw x9.1
  obtain ⟨rfl, th9⟩ := hP9
  show et_go none _ 288 12 _ [.int (Int32.ofNat 1)] _ _ _ _
  refine hs_if0 (c := .eq) (t := 17) (f := 15) (by decide +kernel) (show ¬ (Int32.ofNat 1 = 0) by decide) ?_
  refine hs_k (x := Int32.ofNat 0) (p := 16) (by decide +kernel) ?_
  refine hs_iret (by decide +kernel) ?_
  exact ⟨rfl, th9⟩
theorem fn_readE (hH : et_H et_TT K G) (k_am : K am = some 13) (k_aw : K aw = some 46) (m1 : et_pl (eg_at G am) 1 = some (.ref aw)) (w4 : et_pl (eg_at G aw) 4 = some (.int (Int32.ofNat ec))) (hec : ec ≤ 3) (hm : zyM G aw ec V) (ho : ∀ n, n < 3 → evo (V n)) (hx : ¬ xr x ec) (hd : 3 ≤ d2) : et_go none d2 288 0 (eg_en (eg_mL 288) [.ref am, .int x, .int y, .int (Int32.ofNat b)]) [] G 0 0 (fun u => u.1 = .inl (some (.int (Int32.ofNat 0))) ∧ et_pl (eg_at u.2.1 am) 0 = some (.int (Int32.ofNat 1))) := by
  obtain ⟨d, rfl⟩ : ∃ d, d2 = d + 3 := ⟨d2 - 3, by omega⟩
  rw [show eg_mL 288 = 8 from by decide +kernel]
  show et_go none (d + 3) 288 0 [some (.ref am), some (.int x), some (.int y), some (.int (Int32.ofNat b)), none, none, none, none] [] G 0 0 _
  have lt_am := (hH.2.2 _ _ k_am).1
  have lt_aw := (hH.2.2 _ _ k_aw).1
  refine hs_aload (i := 0) (p := 1) (by decide +kernel) rfl ?_
  refine hs_k (x := Int32.ofNat 0) (p := 2) (by decide +kernel) ?_
  refine hf_put (T := et_TT) (t := 13) (ci := 11) (f := 0) (p := 5) (ty := .int) (by decide +kernel) rfl rfl rfl rfl rfl hH k_am hi_any (fun G2 hH x2 e2 => ?_)
  have hm := hm.mv ho (fun j _ _ => x2.2 aw j lt_aw (fun h => hi_ne k_aw k_am (by decide) h.1))
  have m1 := (x2.2 am 1 lt_am (fun h => absurd h.2 (by decide))).trans m1
  have w4 := (x2.2 aw 4 lt_aw (fun h => (hi_ne k_aw k_am (by decide)) h.1)).trans w4
  have lt_am := Nat.lt_of_lt_of_le lt_am x2.1
  have lt_aw := Nat.lt_of_lt_of_le lt_aw x2.1
  refine hs_aload (i := 0) (p := 6) (by decide +kernel) rfl ?_
  refine hs_iload (i := 1) (p := 7) (by decide +kernel) rfl ?_
  refine hs_iload (i := 2) (p := 8) (by decide +kernel) rfl ?_
  refine hs_k (x := Int32.ofNat 2) (p := 9) (by decide +kernel) ?_
  refine ht_callv (T := et_TT) (t := 13) (mi := 254) (na := 3) (ci := 11) (lk := 8) (lm := 4) (L0 := eg_en (eg_mL 254) [.ref am, .int x, .int y, .int (Int32.ofNat 2)]) (by decide +kernel) rfl hH k_am rfl rfl rfl rfl rfl (by rw [show eg_mL 254 = 4 from by decide +kernel]; first | done | rfl) ?_
  refine (fn_nsE (q := 2) (y := y) hH k_am k_aw m1 w4 hec hm ho (by decide) hx (by omega)).mono (fun u hu => xw_cb hu (fun G9 v9 hH x9 hP9 => ?_))
  have hm := hm.mv ho (fun j _ _ => x9.2 aw j lt_aw (fun h => hi_ne k_aw k_am (by decide) h.1))
  have m1 := (x9.2 am 1 lt_am (fun h => absurd h.2 (by decide))).trans m1
  have w4 := (x9.2 aw 4 lt_aw (fun h => (hi_ne k_aw k_am (by decide)) h.1)).trans w4
  have lt_am := Nat.lt_of_lt_of_le lt_am x9.1
  have lt_aw := Nat.lt_of_lt_of_le lt_aw x9.1
  obtain ⟨rfl, th9⟩ := hP9
  show et_go none _ 288 12 _ [.int (Int32.ofNat 1)] _ _ _ _
  refine hs_if0 (c := .eq) (t := 17) (f := 15) (by decide +kernel) (show ¬ (Int32.ofNat 1 = 0) by decide) ?_
  refine hs_k (x := Int32.ofNat 0) (p := 16) (by decide +kernel) ?_
  refine hs_iret (by decide +kernel) ?_
  exact ⟨rfl, th9⟩
theorem gz_read (hH : et_H et_TT K G) (k_am : K am = some 13) (k_aw : K aw = some 46) (m1 : et_pl (eg_at G am) 1 = some (.ref aw)) (w4 : et_pl (eg_at G aw) 4 = some (.int (Int32.ofNat ec))) (hec : ec ≤ 3) (hm : zyM G aw ec V) (ho : ∀ n, n < 3 → evo (V n)) (w3 : et_pl (eg_at G aw) 3 = some (.int (Int32.ofNat nc))) (hnc : nc ≤ 20) (hcr : crP G aw nc X Y) (hb : b ≤ 1) (hd : 8 ≤ d2) : et_go none d2 288 0 (eg_en (eg_mL 288) [.ref am, .int x, .int y, .int (Int32.ofNat b)]) [] G 0 0 (fun u => (¬ xr x ec ∧ u.1 = .inl (some (.int (Int32.ofNat 0))) ∧ et_pl (eg_at u.2.1 am) 0 = some (.int (Int32.ofNat 1))) ∨ ∃ n, (x = Int32.ofNat n ∧ n < ec) ∧ ((¬ (1 ≤ y.toInt ∧ y.toInt ≤ 2) ∧ u.1 = .inl (some (.int (Int32.ofNat 0))) ∧ et_pl (eg_at u.2.1 am) 0 = some (.int (Int32.ofNat 2))) ∨ ∃ k, (y = Int32.ofNat k ∧ 1 ≤ k ∧ k ≤ 2) ∧ u.1 = .inl (some (.int (rdV (V n) X Y nc k b))) ∧ et_pl (eg_at u.2.1 am) 0 = some (.int (Int32.ofNat 0)))) := by
  by_cases hx : xr x ec
  · obtain ⟨n, rfl, hn⟩ := xr_nat hx (by omega)
    by_cases hs3 : (1 ≤ y.toInt ∧ y.toInt ≤ 2)
    · obtain ⟨k, rfl, q2, q3⟩ := hs_toN (x := y) (by omega)
      exact (fn_read hH k_am k_aw m1 w4 hec hm ho w3 hnc hcr hn (by omega) (by omega) hb hd).mono (fun u hu => .inr ⟨n, ⟨rfl, hn⟩, .inr ⟨k, ⟨rfl, by omega, by omega⟩, hu.1, hu.2⟩⟩)
    · exact (fn_readK hH k_am k_aw m1 w4 hec hm ho hn hs3 (by omega)).mono (fun u hu => .inr ⟨n, ⟨rfl, hn⟩, .inl ⟨hs3, hu.1, hu.2⟩⟩)
  · exact (fn_readE hH k_am k_aw m1 w4 hec hm ho hx (by omega)).mono (fun u hu => .inl ⟨hx, hu.1, hu.2⟩)
end AMA
