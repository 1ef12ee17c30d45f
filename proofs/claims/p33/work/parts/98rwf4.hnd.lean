/-! PHASE D: soonest, the reference -/
section YTA
variable {K : et_K} {G : eg_G} {d d2 th s0 s1 ya yb ec nc la ly out e ca ki kn am aw n m k c q a b : Nat} {O : Nat → Nat} {A : Nat → Nat → Nat} {v : evT} {V : Nat → evT} {X : Nat → Int32} {Y : Nat → Nat} {x y z : Int32} {ea to fa tg t9 p j w9 l9 F code tc : Nat} {ls : List sp_L} {σ : Nat → Nat} {N : Nat → Int32} {l s : Int32} {K0 : et_K} {G0 : eg_G} {Z : eg_O → Prop}
theorem roB_n {v : evT} {X : Nat → Int32} {Y : Nat → Nat} {c : Nat} (h : ¬ roB v X Y c = true) : ¬ roB v X Y (c + 1) = true := by
  rw [Bool.not_eq_true] at h ⊢
  show (roB v X Y c && (syE v (X c) == yB (Y c))) = false
  rw [h, Bool.false_and]
theorem roB_d {v : evT} {X : Nat → Int32} {Y : Nat → Nat} {c : Nat} (h : ¬ syE v (X c) = yB (Y c)) : ¬ roB v X Y (c + 1) = true := by
  rw [roB_f h (c + 1) (Nat.lt_succ_self c)]
  decide
theorem ro_q {v : evT} {x : Int32} {ye : Bool} (h : (decide (v.2.2.2.2.1 < suN v.2.1 v.2.2.1 v.2.2.2.1 x v.1) != ye) = true) : ¬ syE v x = ye := fun e => by
  rw [show (decide (v.2.2.2.2.1 < suN v.2.1 v.2.2.1 v.2.2.2.1 x v.1)) = ye from e, bne_self_eq_false] at h
  cases h
theorem ro_p {v : evT} {x : Int32} {ye : Bool} (h : ¬ (decide (v.2.2.2.2.1 < suN v.2.1 v.2.2.1 v.2.2.2.1 x v.1) != ye) = true) : syE v x = ye := by
  by_cases e : syE v x = ye
  · exact e
  · exact absurd (bne_iff_ne.mpr e) h
theorem fn_areL (hH : et_H et_TT K G) (k_am : K am = some 13) (k_aw : K aw = some 46) (m1 : et_pl (eg_at G am) 1 = some (.ref aw)) (hcr : crP G aw nc X Y) (hnc : nc ≤ 20) (hn : n < 3) (ho : v.1 ≤ 6 ∧ ∀ m, m < v.1 → v.2.2.1 m ≤ 2) (hv : evm G aw n v) (hm : m ≤ nc) (hc : c ≤ m) : et_go none (d + 8) 284 5 [some (.ref am), some (.int (Int32.ofNat n)), some (.int (Int32.ofNat m)), some (.int (Int32.ofNat (if roB v X Y c = true then 1 else 0))), some (.int (Int32.ofNat c))] [] G 0 0 (xp_Z G (some (.int (Int32.ofNat (if roB v X Y m = true then 1 else 0))))) := by
  have hw6 := ho.1
  induction hq9 : m - c using Nat.strongRecOn generalizing c with
  | _ q9 ih =>
    have hY1 : c < m → Y c ≤ 1 := fun h9 => (hcr c (by omega)).2.2
    by_cases qb : roB v X Y c = true
    · rw [if_pos qb]
      have lt_am := (hH.2.2 _ _ k_am).1
      have lt_aw := (hH.2.2 _ _ k_aw).1
      refine hs_iload (i := 4) (p := 7) (by decide +kernel) rfl ?_
      refine hs_iload (i := 2) (p := 8) (by decide +kernel) rfl ?_
      refine hs_br2n (c := .ge) (t := 37) (f := 11) (by decide +kernel) (by omega) (by omega) (fun (c8 : m ≤ c) => ?_) (fun (c8 : ¬ (m ≤ c)) => ?_)
      · refine hs_iload (i := 3) (p := 38) (by decide +kernel) rfl ?_
        refine hs_zret (by decide +kernel) (.inr rfl) ?_
        obtain rfl : c = m := by omega
        rw [if_pos qb]
        rfl
      · refine hs_iload (i := 3) (p := 12) (by decide +kernel) rfl ?_
        refine hs_if0 (c := .eq) (t := 29) (f := 15) (by decide +kernel) (show ¬ (Int32.ofNat 1 = 0) by decide) ?_
        refine hs_aload (i := 0) (p := 16) (by decide +kernel) rfl ?_
        refine hs_iload (i := 1) (p := 17) (by decide +kernel) rfl ?_
        refine hs_iload (i := 4) (p := 19) (by decide +kernel) rfl ?_
        refine ht_callv (T := et_TT) (t := 13) (mi := 233) (na := 2) (ci := 11) (lk := 5) (lm := 3) (L0 := eg_en (eg_mL 233) [.ref am, .int (Int32.ofNat n), .int (Int32.ofNat c)]) (by decide +kernel) rfl hH k_am rfl rfl rfl rfl rfl (by rw [show eg_mL 233 = 3 from by decide +kernel]; first | done | rfl) ?_
        refine (fn_ron (ye := yB (Y c)) hH k_am k_aw m1 hn ho.1 ho.2 hv (by omega) (hcr c (by omega)).1 (by rw [yB_e (hY1 (by omega))]; exact (hcr c (by omega)).2.1) (by omega)).mono (fun u hu => xp_cb hu ?_)
        by_cases q1 : (decide (v.2.2.2.2.1 < suN v.2.1 v.2.2.1 v.2.2.2.1 (X c) v.1) != yB (Y c)) = true
        · rw [if_pos q1]
          show et_go none _ 284 22 _ [.int (Int32.ofNat 0)] _ _ _ _
          refine hs_if1 (c := .eq) (t := 29) (f := 25) (by decide +kernel) (show Int32.ofNat 0 = 0 by decide) ?_
          refine hs_k (x := Int32.ofNat 0) (p := 30) (by decide +kernel) ?_
          refine hs_istore (i := 3) (p := 31) (by decide +kernel) (Nat.le_of_ble_eq_true rfl) ?_
          refine hs_iinc1 (i := 4) (p := 34) (by decide +kernel) rfl (Nat.le_of_ble_eq_true rfl) ?_
          refine hs_goto (p := 5) (by decide +kernel) ?_
          have e9 := roB_d (ro_q q1)
          have h9 := @ih (m - (c + 1)) (by omega) (c + 1) (by omega) rfl
          rw [if_neg e9] at h9
          exact h9
        · rw [if_neg q1]
          show et_go none _ 284 22 _ [.int (Int32.ofNat 1)] _ _ _ _
          refine hs_if0 (c := .eq) (t := 29) (f := 25) (by decide +kernel) (show ¬ (Int32.ofNat 1 = 0) by decide) ?_
          refine hs_k (x := Int32.ofNat 1) (p := 26) (by decide +kernel) ?_
          refine hs_goto (p := 30) (by decide +kernel) ?_
          refine hs_istore (i := 3) (p := 31) (by decide +kernel) (Nat.le_of_ble_eq_true rfl) ?_
          refine hs_iinc1 (i := 4) (p := 34) (by decide +kernel) rfl (Nat.le_of_ble_eq_true rfl) ?_
          refine hs_goto (p := 5) (by decide +kernel) ?_
          have e9 := roB_s qb (ro_p q1)
          have h9 := @ih (m - (c + 1)) (by omega) (c + 1) (by omega) rfl
          rw [if_pos e9] at h9
          exact h9
    · rw [if_neg qb]
      have lt_am := (hH.2.2 _ _ k_am).1
      have lt_aw := (hH.2.2 _ _ k_aw).1
      refine hs_iload (i := 4) (p := 7) (by decide +kernel) rfl ?_
      refine hs_iload (i := 2) (p := 8) (by decide +kernel) rfl ?_
      refine hs_br2n (c := .ge) (t := 37) (f := 11) (by decide +kernel) (by omega) (by omega) (fun (c8 : m ≤ c) => ?_) (fun (c8 : ¬ (m ≤ c)) => ?_)
      · refine hs_iload (i := 3) (p := 38) (by decide +kernel) rfl ?_
        refine hs_zret (by decide +kernel) (.inl rfl) ?_
        obtain rfl : c = m := by omega
        rw [if_neg qb]
        rfl
      · refine hs_iload (i := 3) (p := 12) (by decide +kernel) rfl ?_
        refine hs_if1 (c := .eq) (t := 29) (f := 15) (by decide +kernel) (show Int32.ofNat 0 = 0 by decide) ?_
        refine hs_k (x := Int32.ofNat 0) (p := 30) (by decide +kernel) ?_
        refine hs_istore (i := 3) (p := 31) (by decide +kernel) (Nat.le_of_ble_eq_true rfl) ?_
        refine hs_iinc1 (i := 4) (p := 34) (by decide +kernel) rfl (Nat.le_of_ble_eq_true rfl) ?_
        refine hs_goto (p := 5) (by decide +kernel) ?_
        have e9 := roB_n qb
        have h9 := @ih (m - (c + 1)) (by omega) (c + 1) (by omega) rfl
        rw [if_neg e9] at h9
        exact h9
theorem fn_are (hH : et_H et_TT K G) (k_am : K am = some 13) (k_aw : K aw = some 46) (m1 : et_pl (eg_at G am) 1 = some (.ref aw)) (hcr : crP G aw nc X Y) (hnc : nc ≤ 20) (hn : n < 3) (ho : v.1 ≤ 6 ∧ ∀ m, m < v.1 → v.2.2.1 m ≤ 2) (hv : evm G aw n v) (hm : m ≤ nc) (hd : 8 ≤ d2) : et_go none d2 284 0 (eg_en (eg_mL 284) [.ref am, .int (Int32.ofNat n), .int (Int32.ofNat m)]) [] G 0 0 (xp_Z G (some (.int (Int32.ofNat (if roB v X Y m = true then 1 else 0))))) := by
  obtain ⟨d, rfl⟩ : ∃ d, d2 = d + 8 := ⟨d2 - 8, by omega⟩
  rw [show eg_mL 284 = 5 from by decide +kernel]
  show et_go none (d + 8) 284 0 [some (.ref am), some (.int (Int32.ofNat n)), some (.int (Int32.ofNat m)), none, none] [] G 0 0 _
  have lt_am := (hH.2.2 _ _ k_am).1
  have lt_aw := (hH.2.2 _ _ k_aw).1
  refine hs_k (x := Int32.ofNat 1) (p := 1) (by decide +kernel) ?_
  refine hs_istore (i := 3) (p := 2) (by decide +kernel) (Nat.le_of_ble_eq_true rfl) ?_
  refine hs_k (x := Int32.ofNat 0) (p := 3) (by decide +kernel) ?_
  refine hs_istore (i := 4) (p := 5) (by decide +kernel) (Nat.le_of_ble_eq_true rfl) ?_
  exact fn_areL (c := 0) hH k_am k_aw m1 hcr hnc hn ho hv hm (Nat.zero_le _)
theorem fn_sbL (hnc : nc ≤ 20) (hn : n < 3) (ho : evo v) (hm : m ≤ nc) (hm5 : m ≤ 5) (hk : k < 4) (hcl : ∀ l ∈ ls, lcl1 l) (hσ : ∀ q, q < m → σ q < nc) (hH : et_H et_TT K G) (k_am : K am = some 13) (k_aw : K aw = some 46) (m1 : et_pl (eg_at G am) 1 = some (.ref aw)) (k_fa : K fa = some 14) (k_tg : K tg = some 24) (k_to : K to = some 36) (m14 : et_pl (eg_at G am) 14 = some (.ref fa)) (m15 : et_pl (eg_at G am) 15 = some (.ref tg)) (m33 : et_pl (eg_at G am) 33 = some (.ref to)) (hcr : crP G aw nc X Y) (hto : ∀ q, q < m → et_pl (eg_at G to) q = some (.int (Int32.ofNat (σ q)))) (hT : tuT G aw (126 + 841 * (4 + k)) 1 ls) (zv : evM G aw n v.1 v.2.1 v.2.2.1 N l s v.2.2.2.2.2.2.1 v.2.2.2.2.2.2.2) (hS : soS v X Y ls σ m j = (N, l, s)) (hj : j ≤ 10 * m) (hx : et_ex K0 K) (hf : et_fr shM K0 G0 G) (how : owt aw n G0 G) (h : ∀ (K' : et_K) (G' : eg_G), et_ex K0 K' → et_H et_TT K' G' → et_fr shM K0 G0 G' → owt aw n G0 G' → Z (.inl (some (.int (snI (soL (soR v X Y ls m σ) (10 * m - j) j)))), G', 0, 0)) : et_go none (d + 10) 283 3 [some (.ref am), some (.int (Int32.ofNat n)), some (.int (Int32.ofNat k)), some (.int (Int32.ofNat m)), some (.int (Int32.ofNat j))] [] G 0 0 Z := by
  have hw6 := ho.1.1
  induction hq9 : 10 * m - j using Nat.strongRecOn generalizing j K G N l s with
  | _ q9 ih =>
    have lt_am := (hH.2.2 _ _ k_am).1
    have lt_aw := (hH.2.2 _ _ k_aw).1
    have lt_fa := (hH.2.2 _ _ k_fa).1
    have lt_tg := (hH.2.2 _ _ k_tg).1
    have lt_to := (hH.2.2 _ _ k_to).1
    refine hs_iload (i := 4) (p := 5) (by decide +kernel) rfl ?_
    refine hs_k (x := Int32.ofNat 10) (p := 7) (by decide +kernel) ?_
    refine hs_iload (i := 3) (p := 8) (by decide +kernel) rfl ?_
    refine hs_imuln (p := 9) (by decide +kernel) ?_
    refine hs_br2n (c := .ge) (t := 46) (f := 12) (by decide +kernel) (by omega) (by omega) (fun (c9 : (10 * m) ≤ j) => ?_) (fun (c9 : ¬ ((10 * m) ≤ j)) => ?_)
    · refine hs_aload (i := 0) (p := 47) (by decide +kernel) rfl ?_
      refine hs_iload (i := 1) (p := 48) (by decide +kernel) rfl ?_
      refine hs_iload (i := 3) (p := 49) (by decide +kernel) rfl ?_
      refine ht_callv (T := et_TT) (t := 13) (mi := 284) (na := 2) (ci := 11) (lk := 5) (lm := 5) (L0 := eg_en (eg_mL 284) [.ref am, .int (Int32.ofNat n), .int (Int32.ofNat m)]) (by decide +kernel) rfl hH k_am rfl rfl rfl rfl rfl (by rw [show eg_mL 284 = 5 from by decide +kernel]; first | done | rfl) ?_
      refine (fn_are (v := vNs v (N, l, s)) hH k_am k_aw m1 hcr hnc hn ho.1 zv hm (by omega)).mono (fun u hu => xp_cb hu ?_)
      by_cases qr : roB (vNs v (N, l, s)) X Y m = true
      · rw [if_pos qr]
        show et_go none _ 283 52 _ [.int (Int32.ofNat 1)] _ _ _ _
        refine hs_if0 (c := .eq) (t := 62) (f := 55) (by decide +kernel) (show ¬ (Int32.ofNat 1 = 0) by decide) ?_
        refine hs_k (x := Int32.ofNat 10) (p := 57) (by decide +kernel) ?_
        refine hs_iload (i := 3) (p := 58) (by decide +kernel) rfl ?_
        refine hs_imuln (p := 59) (by decide +kernel) ?_
        refine hs_goto (p := 63) (by decide +kernel) ?_
        refine hs_iret (by decide +kernel) ?_
        have qr2 : soR v X Y ls m σ j = true := by unfold soR; rw [hS]; exact qr
        have e9 : (snI (soL (soR v X Y ls m σ) (10 * m - j) j)) = Int32.ofNat j := by rw [soL_y qr2]; exact if_neg (by omega)
        rw [e9] at h
        obtain rfl : j = 10 * m := by omega
        exact h _ _ hx hH hf how
      · rw [if_neg qr]
        show et_go none _ 283 52 _ [.int (Int32.ofNat 0)] _ _ _ _
        refine hs_if1 (c := .eq) (t := 62) (f := 55) (by decide +kernel) (show Int32.ofNat 0 = 0 by decide) ?_
        refine hs_k (x := (-1)) (p := 63) (by decide +kernel) ?_
        refine hs_iret (by decide +kernel) ?_
        have qr2 : ¬ soR v X Y ls m σ j = true := by unfold soR; rw [hS]; exact qr
        have e9 : (snI (soL (soR v X Y ls m σ) (10 * m - j) j)) = -1 := by rw [show 10 * m - j = 0 by omega, soL_0 qr2]; rfl
        rw [e9] at h
        exact h _ _ hx hH hf how
    · refine hs_aload (i := 0) (p := 13) (by decide +kernel) rfl ?_
      refine hs_iload (i := 1) (p := 14) (by decide +kernel) rfl ?_
      refine hs_iload (i := 3) (p := 15) (by decide +kernel) rfl ?_
      refine ht_callv (T := et_TT) (t := 13) (mi := 284) (na := 2) (ci := 11) (lk := 5) (lm := 5) (L0 := eg_en (eg_mL 284) [.ref am, .int (Int32.ofNat n), .int (Int32.ofNat m)]) (by decide +kernel) rfl hH k_am rfl rfl rfl rfl rfl (by rw [show eg_mL 284 = 5 from by decide +kernel]; first | done | rfl) ?_
      refine (fn_are (v := vNs v (N, l, s)) hH k_am k_aw m1 hcr hnc hn ho.1 zv hm (by omega)).mono (fun u hu => xp_cb hu ?_)
      by_cases qr : roB (vNs v (N, l, s)) X Y m = true
      · rw [if_pos qr]
        show et_go none _ 283 18 _ [.int (Int32.ofNat 1)] _ _ _ _
        refine hs_if0 (c := .eq) (t := 24) (f := 21) (by decide +kernel) (show ¬ (Int32.ofNat 1 = 0) by decide) ?_
        refine hs_iload (i := 4) (p := 23) (by decide +kernel) rfl ?_
        refine hs_iret (by decide +kernel) ?_
        have qr2 : soR v X Y ls m σ j = true := by unfold soR; rw [hS]; exact qr
        have e9 : (snI (soL (soR v X Y ls m σ) (10 * m - j) j)) = Int32.ofNat j := by rw [soL_y qr2]; exact if_neg (by omega)
        rw [e9] at h
        exact h _ _ hx hH hf how
      · rw [if_neg qr]
        show et_go none _ 283 18 _ [.int (Int32.ofNat 0)] _ _ _ _
        refine hs_if1 (c := .eq) (t := 24) (f := 21) (by decide +kernel) (show Int32.ofNat 0 = 0 by decide) ?_
        refine hs_aload (i := 0) (p := 25) (by decide +kernel) rfl ?_
        refine hs_iload (i := 1) (p := 26) (by decide +kernel) rfl ?_
        refine hs_aload (i := 0) (p := 27) (by decide +kernel) rfl ?_
        refine hf_get (T := et_TT) (t := 13) (ci := 11) (f := 33) (p := 30) (by decide +kernel) rfl hH k_am m33 ?_
        refine hs_iload (i := 4) (p := 32) (by decide +kernel) rfl ?_
        refine hs_iload (i := 3) (p := 33) (by decide +kernel) rfl ?_
        refine hs_irem (p := 34) (by decide +kernel) (hs_nz (by omega) (by omega)) ?_
        rw [so_r (by omega) (by omega) (by omega)]
        refine hf_ald (ins := .iaload) (T := et_TT) (t := 36) (kd := 0) (N := 5) (p := 35) (by decide +kernel) (fun _ _ _ _ _ _ _ _ _ _ => rfl) rfl rfl rfl hH k_to (by decide) (hto (j % m) (Nat.mod_lt _ (by omega))) ?_
        refine hs_iload (i := 2) (p := 36) (by decide +kernel) rfl ?_
        have hσj := hσ (j % m) (Nat.mod_lt _ (by omega))
        have hYj := (hcr _ hσj).2.2
        refine ht_callv (T := et_TT) (t := 13) (mi := 247) (na := 3) (ci := 11) (lk := 5) (lm := 10) (L0 := eg_en (eg_mL 247) [.ref am, .int (Int32.ofNat n), .int (Int32.ofNat (σ (j % m))), .int (Int32.ofNat k)]) (by decide +kernel) rfl hH k_am rfl rfl rfl rfl rfl (by rw [show eg_mL 247 = 10 from by decide +kernel]; first | done | rfl) ?_
        refine fn_shows (ls := ls) (ye := yB (Y (σ (j % m)))) hH k_am k_aw m1 k_fa k_tg m14 m15 hn ho.1.1 ho.1.2 zv hk hT hcl (by omega) (hcr _ hσj).1 (by rw [yB_e hYj]; exact (hcr _ hσj).2.1) (by omega) (fun K9 G9 hx9 hH hf9 ow9 zv => ?_)
        have hcr : crP G9 aw nc X Y := fun c hc => ⟨(ow9 _ (.inl (by omega))).trans (hcr c hc).1, (ow9 _ (.inl (by omega))).trans (hcr c hc).2.1, (hcr c hc).2.2⟩
        have hto : ∀ q, q < m → et_pl (eg_at G9 to) q = some (.int (Int32.ofNat (σ q))) := fun q hq => (hf9.2 to 36 k_to q (no_mm (M := shM) (by decide))).trans (hto q hq)
        have hT := hT.mp (fun i hi => ow9 _ (.inr (by omega)))
        have m1 := (hf9.2 am 13 k_am 1 rfl).trans m1
        have m14 := (hf9.2 am 13 k_am 14 rfl).trans m14
        have m15 := (hf9.2 am 13 k_am 15 rfl).trans m15
        have m33 := (hf9.2 am 13 k_am 33 rfl).trans m33
        have how := how.tr ow9
        have hf := hf.tr hx hf9
        have hx := hx.tr hx9
        have k_am := hx9 _ _ k_am
        have k_aw := hx9 _ _ k_aw
        have k_fa := hx9 _ _ k_fa
        have k_tg := hx9 _ _ k_tg
        have k_to := hx9 _ _ k_to
        refine hs_cb ?_
        show et_go none _ 283 39 _ [.int (Int32.ofNat (if shW v.2.1 v.2.2.1 (X (σ (j % m))) v.1 (yB (Y (σ (j % m)))) (N, l, s) = true then 1 else 0))] _ _ _ _
        refine hs_pop (p := 40) (by decide +kernel) ?_
        refine hs_iinc1 (i := 4) (p := 43) (by decide +kernel) rfl (Nat.le_of_ble_eq_true rfl) ?_
        refine hs_goto (p := 3) (by decide +kernel) ?_
        have qr2 : ¬ soR v X Y ls m σ j = true := by unfold soR; rw [hS]; exact qr
        have hS2 : soS v X Y ls σ m (j + 1) = (nxN v.2.1 v.2.2.1 (X (σ (j % m))) v.1 v.2.2.2.2.2.2.1 v.2.2.2.2.2.2.2 ls (yB (Y (σ (j % m)))) (N, l, s)) := by
          show nxN v.2.1 v.2.2.1 (X (σ (j % m))) v.1 v.2.2.2.2.2.2.1 v.2.2.2.2.2.2.2 ls (yB (Y (σ (j % m)))) (soS v X Y ls σ m j) = _
          rw [hS]
        have e9 : soL (soR v X Y ls m σ) (10 * m - j) j = soL (soR v X Y ls m σ) (10 * m - (j + 1)) (j + 1) := by rw [show 10 * m - j = (10 * m - (j + 1)) + 1 by omega]; exact soL_s qr2
        rw [e9] at h
        exact ih (10 * m - (j + 1)) (by omega) hH k_am k_aw m1 k_fa k_tg k_to m14 m15 m33 hcr hto hT zv hS2 (by omega) hx hf how h rfl
theorem pk_s {l f w c : Nat} (h : bt l c = 0 ∨ 0 < w) : pkN l (f + 1) w c = pkN l f (w - bt l c) (c + 1) := if_pos h
theorem pk_e {l f w c : Nat} (h : ¬ (bt l c = 0 ∨ 0 < w)) : pkN l (f + 1) w c = c := if_neg h
theorem or_lt {n code q : Nat} (hn : n ≤ 5) (hc : code < fcN n) (hq : q < n) : orN n code q < n := by
  have h8 := List.all_eq_true.mp (List.all_eq_true.mp (List.all_eq_true.mp so_lft n (List.mem_range.mpr (by omega))) code (List.mem_range.mpr hc)) q (List.mem_range.mpr hq)
  rw [Bool.and_eq_true, Bool.and_eq_true, Bool.and_eq_true] at h8
  exact of_decide_eq_true h8.2.2.1
theorem so_le : ∀ w ∈ List.range 32, Int32.ofNat w ≤ 0 → w = 0 := by decide +kernel
theorem lf_s {n code k : Nat} : lfN n code (k + 1) = ((lfN n code k).1 / (n - k), (lfN n code k).2 - 2 ^ orN n code k) := by
  unfold orN
  rw [lfN]
theorem lf_le {n code : Nat} : ∀ k, (lfN n code k).1 ≤ code
  | 0 => Nat.le_refl _
  | k + 1 => by
    rw [lf_s]
    exact Nat.le_trans (Nat.div_le_self _ _) (lf_le k)
theorem fn_pk (hl : l9 < 32) (hw : w9 < sp l9 c) (hc : c ≤ 5) (h : et_go none d2 282 199 [some (.ref am), some (.int (Int32.ofNat n)), some (.int (Int32.ofNat k)), some (.int (Int32.ofNat m)), some (.int (Int32.ofNat (45 + 23 * n))), some (.int (Int32.ofNat p)), some (.int y), some (.int (Int32.ofNat code)), some (.int (Int32.ofNat j)), some (.int (Int32.ofNat l9)), some (.int (Int32.ofNat q)), some (.int (Int32.ofNat 0)), some (.int (Int32.ofNat (pkN l9 (5 - c) w9 c)))] [] G 0 0 Z) : et_go none d2 282 166 [some (.ref am), some (.int (Int32.ofNat n)), some (.int (Int32.ofNat k)), some (.int (Int32.ofNat m)), some (.int (Int32.ofNat (45 + 23 * n))), some (.int (Int32.ofNat p)), some (.int y), some (.int (Int32.ofNat code)), some (.int (Int32.ofNat j)), some (.int (Int32.ofNat l9)), some (.int (Int32.ofNat q)), some (.int (Int32.ofNat w9)), some (.int (Int32.ofNat c))] [] G 0 0 Z := by
  induction hq9 : 5 - c using Nat.strongRecOn generalizing c w9 with
  | _ q9 ih =>
    have hc5 : c < 5 := by
      by_cases e : c = 5
      · rw [e, sp_5 _ (List.mem_range.mpr hl)] at hw
        exact absurd hw (Nat.not_lt_zero _)
      · omega
    obtain ⟨b1, b2, b3, b4⟩ := sp_all l9 (List.mem_range.mpr hl) c (List.mem_range.mpr hc5)
    have hsl := sp_le l9 (List.mem_range.mpr hl) c (List.mem_range.mpr (by omega))
    refine hs_iload (i := 9) (p := 168) (by decide +kernel) rfl ?_
    refine hs_iload (i := 12) (p := 170) (by decide +kernel) rfl ?_
    refine hs_st (ins := .ishr) (len := 1) (p := 171) (by decide +kernel) rfl rfl ?_
    refine hs_k (x := Int32.ofNat 1) (p := 172) (by decide +kernel) ?_
    refine hs_st (ins := .iand) (len := 1) (p := 173) (by decide +kernel) rfl rfl ?_
    show et_go none _ 282 173 _ [.int (((Int32.ofNat l9) >>> (Int32.ofNat c &&& 31)) &&& Int32.ofNat 1)] _ _ _ _
    rw [b2]
    refine hs_br1 (c := .eq) (t := 181) (f := 176) (by decide +kernel) (fun (c173 : Int32.ofNat (bt l9 c) = 0) => ?_) (fun (c173 : ¬ (Int32.ofNat (bt l9 c) = 0)) => ?_)
    · have e0b : bt l9 c = 0 := (hs_neq (b := 0) (by omega) (by omega)).mp c173
      refine hs_iload (i := 11) (p := 183) (by decide +kernel) rfl ?_
      refine hs_iload (i := 9) (p := 185) (by decide +kernel) rfl ?_
      refine hs_iload (i := 12) (p := 187) (by decide +kernel) rfl ?_
      refine hs_st (ins := .ishr) (len := 1) (p := 188) (by decide +kernel) rfl rfl ?_
      refine hs_k (x := Int32.ofNat 1) (p := 189) (by decide +kernel) ?_
      refine hs_st (ins := .iand) (len := 1) (p := 190) (by decide +kernel) rfl rfl ?_
      show et_go none _ 282 190 _ [.int (((Int32.ofNat l9) >>> (Int32.ofNat c &&& 31)) &&& Int32.ofNat 1), .int (Int32.ofNat w9)] _ _ _ _
      rw [b2]
      refine hs_isubn (p := 191) (by decide +kernel) (by omega) ?_
      refine hs_istore (i := 11) (p := 193) (by decide +kernel) (Nat.le_of_ble_eq_true rfl) ?_
      refine hs_iinc1 (i := 12) (p := 196) (by decide +kernel) rfl (Nat.le_of_ble_eq_true rfl) ?_
      refine hs_goto (p := 166) (by decide +kernel) ?_
      have e0 : bt l9 c = 0 := (hs_neq (b := 0) (by omega) (by omega)).mp c173
      have e1 : bt l9 c = 0 ∨ 0 < w9 := .inl e0
      have e9 : pkN l9 (5 - c) w9 c = pkN l9 (5 - (c + 1)) (w9 - bt l9 c) (c + 1) := by rw [show 5 - c = (5 - (c + 1)) + 1 by omega]; exact pk_s e1
      rw [e9] at h
      exact ih (5 - (c + 1)) (by omega) (w9 := w9 - bt l9 c) (c := c + 1) (by omega) (by omega) h rfl
    · refine hs_iload (i := 11) (p := 178) (by decide +kernel) rfl ?_
      refine hs_br1 (c := .le) (t := 199) (f := 181) (by decide +kernel) (fun (c178 : Int32.ofNat w9 ≤ 0) => ?_) (fun (c178 : ¬ (Int32.ofNat w9 ≤ 0)) => ?_)
      · have e0 : w9 = 0 := so_le w9 (List.mem_range.mpr (by omega)) c178
        have e2 : ¬ bt l9 c = 0 := fun e => c173 (by rw [e]; rfl)
        have e9 : pkN l9 (5 - c) w9 c = c := by rw [show 5 - c = (5 - (c + 1)) + 1 by omega]; exact pk_e (fun q => by rcases q with q | q; exact e2 q; omega)
        rw [e9] at h
        rw [e0]
        exact h
      · have e0c : 0 < w9 := by
          by_cases h0 : w9 = 0
          · exact absurd (by rw [h0]; decide) c178
          · omega
        refine hs_iload (i := 11) (p := 183) (by decide +kernel) rfl ?_
        refine hs_iload (i := 9) (p := 185) (by decide +kernel) rfl ?_
        refine hs_iload (i := 12) (p := 187) (by decide +kernel) rfl ?_
        refine hs_st (ins := .ishr) (len := 1) (p := 188) (by decide +kernel) rfl rfl ?_
        refine hs_k (x := Int32.ofNat 1) (p := 189) (by decide +kernel) ?_
        refine hs_st (ins := .iand) (len := 1) (p := 190) (by decide +kernel) rfl rfl ?_
        show et_go none _ 282 190 _ [.int (((Int32.ofNat l9) >>> (Int32.ofNat c &&& 31)) &&& Int32.ofNat 1), .int (Int32.ofNat w9)] _ _ _ _
        rw [b2]
        refine hs_isubn (p := 191) (by decide +kernel) (by omega) ?_
        refine hs_istore (i := 11) (p := 193) (by decide +kernel) (Nat.le_of_ble_eq_true rfl) ?_
        refine hs_iinc1 (i := 12) (p := 196) (by decide +kernel) rfl (Nat.le_of_ble_eq_true rfl) ?_
        refine hs_goto (p := 166) (by decide +kernel) ?_
        have e0 : 0 < w9 := by
          by_cases h0 : w9 = 0
          · exact absurd (by rw [h0]; decide) c178
          · omega
        have e1 : bt l9 c = 0 ∨ 0 < w9 := .inr e0
        have e9 : pkN l9 (5 - c) w9 c = pkN l9 (5 - (c + 1)) (w9 - bt l9 c) (c + 1) := by rw [show 5 - c = (5 - (c + 1)) + 1 by omega]; exact pk_s e1
        rw [e9] at h
        exact ih (5 - (c + 1)) (by omega) (w9 := w9 - bt l9 c) (c := c + 1) (by omega) (by omega) h rfl
theorem fn_orL {x11 x12 : Option Value} (hH : et_H et_TT K G) (k_am : K am = some 13) (k_to : K to = some 36) (m33 : et_pl (eg_at G am) 33 = some (.ref to)) (hm5 : m ≤ 5) (hcd : code < fcN m) (hto : ∀ q, q < j → et_pl (eg_at G to) q = some (.int (Int32.ofNat (orN m code q)))) (hj : j ≤ m) (hX : xf (fun b i => b = to ∧ i < 5) G0 G) (h : ∀ (G' : eg_G) (x8 x9 : Int32) (x11 x12 : Option Value), et_H et_TT K G' → xf (fun b i => b = to ∧ i < 5) G0 G' → (∀ q, q < m → et_pl (eg_at G' to) q = some (.int (Int32.ofNat (orN m code q)))) → et_go none d2 282 225 [some (.ref am), some (.int (Int32.ofNat n)), some (.int (Int32.ofNat k)), some (.int (Int32.ofNat m)), some (.int (Int32.ofNat (45 + 23 * n))), some (.int (Int32.ofNat p)), some (.int y), some (.int (Int32.ofNat code)), some (.int x8), some (.int x9), some (.int (Int32.ofNat m)), x11, x12] [] G' 0 0 Z) : et_go none d2 282 139 [some (.ref am), some (.int (Int32.ofNat n)), some (.int (Int32.ofNat k)), some (.int (Int32.ofNat m)), some (.int (Int32.ofNat (45 + 23 * n))), some (.int (Int32.ofNat p)), some (.int y), some (.int (Int32.ofNat code)), some (.int (Int32.ofNat ((lfN m code j).1))), some (.int (Int32.ofNat ((lfN m code j).2))), some (.int (Int32.ofNat j)), x11, x12] [] G 0 0 Z := by
  have hfc := (so_nn m (List.mem_range.mpr (by omega))).2
  induction hq9 : m - j using Nat.strongRecOn generalizing j x11 x12 G with
  | _ q9 ih =>
    have hrl := lf_le (n := m) (code := code) j
    have hall : j < m → (lfN m code j).2 < 32 ∧ (lfN m code j).1 % (m - j) < sp (lfN m code j).2 0 ∧ orN m code j < m ∧ bt (lfN m code j).2 (orN m code j) = 1 := fun h9 => by
      have h8 := List.all_eq_true.mp (List.all_eq_true.mp (List.all_eq_true.mp so_lft m (List.mem_range.mpr (by omega))) code (List.mem_range.mpr hcd)) j (List.mem_range.mpr h9)
      rw [Bool.and_eq_true, Bool.and_eq_true, Bool.and_eq_true] at h8
      exact ⟨of_decide_eq_true h8.1, of_decide_eq_true h8.2.1, of_decide_eq_true h8.2.2.1, of_decide_eq_true h8.2.2.2⟩
    have lt_am := (hH.2.2 _ _ k_am).1
    have lt_to := (hH.2.2 _ _ k_to).1
    refine hs_iload (i := 10) (p := 141) (by decide +kernel) rfl ?_
    refine hs_iload (i := 3) (p := 142) (by decide +kernel) rfl ?_
    refine hs_br2n (c := .ge) (t := 225) (f := 145) (by decide +kernel) (by omega) (by omega) (fun (c142 : m ≤ j) => ?_) (fun (c142 : ¬ (m ≤ j)) => ?_)
    · obtain rfl : j = m := by omega
      exact h _ _ _ _ _ hH hX hto
    · refine hs_iload (i := 8) (p := 147) (by decide +kernel) rfl ?_
      refine hs_iload (i := 3) (p := 148) (by decide +kernel) rfl ?_
      refine hs_iload (i := 10) (p := 150) (by decide +kernel) rfl ?_
      refine hs_isubn (p := 151) (by decide +kernel) (by omega) ?_
      refine hs_irem (p := 152) (by decide +kernel) (hs_nz (by omega) (by omega)) ?_
      rw [so_r (by omega) (by omega) (by omega)]
      refine hs_istore (i := 11) (p := 154) (by decide +kernel) (Nat.le_of_ble_eq_true rfl) ?_
      refine hs_iload (i := 8) (p := 156) (by decide +kernel) rfl ?_
      refine hs_iload (i := 3) (p := 157) (by decide +kernel) rfl ?_
      refine hs_iload (i := 10) (p := 159) (by decide +kernel) rfl ?_
      refine hs_isubn (p := 160) (by decide +kernel) (by omega) ?_
      refine hs_idiv (p := 161) (by decide +kernel) (hs_nz (by omega) (by omega)) ?_
      rw [so_d (by omega) (by omega) (by omega)]
      refine hs_istore (i := 8) (p := 163) (by decide +kernel) (Nat.le_of_ble_eq_true rfl) ?_
      refine hs_k (x := Int32.ofNat 0) (p := 164) (by decide +kernel) ?_
      refine hs_istore (i := 12) (p := 166) (by decide +kernel) (Nat.le_of_ble_eq_true rfl) ?_
      obtain ⟨h32, hsp, hor, hbt⟩ := hall (by omega)
      obtain ⟨b1, b2, b3, b4⟩ := sp_all (lfN m code j).2 (List.mem_range.mpr h32) (orN m code j) (List.mem_range.mpr (by omega))
      refine fn_pk (l9 := (lfN m code j).2) h32 hsp (by decide) ?_
      show et_go none _ 282 199 [some (.ref am), some (.int (Int32.ofNat n)), some (.int (Int32.ofNat k)), some (.int (Int32.ofNat m)), some (.int (Int32.ofNat (45 + 23 * n))), some (.int (Int32.ofNat p)), some (.int y), some (.int (Int32.ofNat code)), some (.int (Int32.ofNat ((lfN m code j).1 / (m - j)))), some (.int (Int32.ofNat ((lfN m code j).2))), some (.int (Int32.ofNat j)), some (.int (Int32.ofNat 0)), some (.int (Int32.ofNat (orN m code j)))] [] _ _ _ _
      refine hs_aload (i := 0) (p := 200) (by decide +kernel) rfl ?_
      refine hf_get (T := et_TT) (t := 13) (ci := 11) (f := 33) (p := 203) (by decide +kernel) rfl hH k_am m33 ?_
      refine hs_iload (i := 10) (p := 205) (by decide +kernel) rfl ?_
      refine hs_iload (i := 12) (p := 207) (by decide +kernel) rfl ?_
      have hHo := hH
      refine hf_ist (T := et_TT) (t := 36) (N := 5) (p := 208) (by decide +kernel) rfl rfl (by decide) hH k_to (by omega) (by decide) (fun s hs _ _ => by obtain rfl := List.mem_singleton.mp hs; exact hi_nv (by omega) (by omega)) (fun G207 hH x207 e207 => ?_)
      have hto2 : ∀ q, q < j → et_pl (eg_at G207 to) q = some (.int (Int32.ofNat (orN m code q))) := fun q hq => (x207.2 to q lt_to (fun h => by have h := h.2; omega)).trans (hto q hq)
      have m33 := (x207.2 am 33 lt_am (fun h => (hi_ne k_am k_to (by decide)) h.1)).trans m33
      have lt_am := Nat.lt_of_lt_of_le lt_am x207.1
      have lt_to := Nat.lt_of_lt_of_le lt_to x207.1
      have hX := hX.tr x207 (fun b i _ h => ⟨h.1, by have h := h.2; omega⟩)
      refine hs_iload (i := 9) (p := 210) (by decide +kernel) rfl ?_
      refine hs_k (x := Int32.ofNat 1) (p := 211) (by decide +kernel) ?_
      refine hs_iload (i := 12) (p := 213) (by decide +kernel) rfl ?_
      refine hs_st (ins := .ishl) (len := 1) (p := 214) (by decide +kernel) rfl rfl ?_
      refine hs_k (x := (-1)) (p := 215) (by decide +kernel) ?_
      refine hs_st (ins := .ixor) (len := 1) (p := 216) (by decide +kernel) rfl rfl ?_
      refine hs_st (ins := .iand) (len := 1) (p := 217) (by decide +kernel) rfl rfl ?_
      show et_go none _ 282 217 _ [.int ((Int32.ofNat (lfN m code j).2) &&& ((Int32.ofNat 1 <<< (Int32.ofNat (orN m code j) &&& 31)) ^^^ (-1)))] _ _ _ _
      rw [(b4 hbt).2.1]
      refine hs_istore (i := 9) (p := 219) (by decide +kernel) (Nat.le_of_ble_eq_true rfl) ?_
      refine hs_iinc1 (i := 10) (p := 222) (by decide +kernel) rfl (Nat.le_of_ble_eq_true rfl) ?_
      refine hs_goto (p := 139) (by decide +kernel) ?_
      have hto3 : ∀ q, q < j + 1 → et_pl (eg_at G207 to) q = some (.int (Int32.ofNat (orN m code q))) := fun q hq => by
        by_cases eq : q = j
        · rw [eq]; exact e207
        · exact hto2 q (by omega)
      have h9 := fun x11 x12 => ih (m - (j + 1)) (by omega) (j := j + 1) (x11 := x11) (x12 := x12) hH m33 hto3 (by omega) hX rfl
      rw [lf_s] at h9
      exact h9 _ _
theorem fn_sb (hnc : nc ≤ 20) (hn : n < 3) (ho : evo v) (hm : m ≤ nc) (hm5 : m ≤ 5) (hk : k < 4) (hcl : ∀ l ∈ ls, lcl1 l) (hσ : ∀ q, q < m → σ q < nc) (hH : et_H et_TT K G) (k_am : K am = some 13) (k_aw : K aw = some 46) (m1 : et_pl (eg_at G am) 1 = some (.ref aw)) (k_fa : K fa = some 14) (k_tg : K tg = some 24) (k_to : K to = some 36) (m14 : et_pl (eg_at G am) 14 = some (.ref fa)) (m15 : et_pl (eg_at G am) 15 = some (.ref tg)) (m33 : et_pl (eg_at G am) 33 = some (.ref to)) (hcr : crP G aw nc X Y) (hto : ∀ q, q < m → et_pl (eg_at G to) q = some (.int (Int32.ofNat (σ q)))) (hT : tuT G aw (126 + 841 * (4 + k)) 1 ls) (hv : evm G aw n v) (h : ∀ (K' : et_K) (G' : eg_G), et_ex K K' → et_H et_TT K' G' → et_fr shM K G G' → owt aw n G G' → Z (.inl (some (.int (snI (soG v X Y ls m σ)))), G', 0, 0)) (hd : 10 ≤ d2) : et_go none d2 283 0 (eg_en (eg_mL 283) [.ref am, .int (Int32.ofNat n), .int (Int32.ofNat k), .int (Int32.ofNat m)]) [] G 0 0 Z := by
  obtain ⟨d, rfl⟩ : ∃ d, d2 = d + 10 := ⟨d2 - 10, by omega⟩
  rw [show eg_mL 283 = 5 from by decide +kernel]
  show et_go none (d + 10) 283 0 [some (.ref am), some (.int (Int32.ofNat n)), some (.int (Int32.ofNat k)), some (.int (Int32.ofNat m)), none] [] G 0 0 _
  have lt_am := (hH.2.2 _ _ k_am).1
  have lt_aw := (hH.2.2 _ _ k_aw).1
  have lt_fa := (hH.2.2 _ _ k_fa).1
  have lt_tg := (hH.2.2 _ _ k_tg).1
  have lt_to := (hH.2.2 _ _ k_to).1
  refine hs_k (x := Int32.ofNat 0) (p := 1) (by decide +kernel) ?_
  refine hs_istore (i := 4) (p := 3) (by decide +kernel) (Nat.le_of_ble_eq_true rfl) ?_
  exact fn_sbL (j := 0) (K0 := K) (G0 := G) hnc hn ho hm hm5 hk hcl hσ hH k_am k_aw m1 k_fa k_tg k_to m14 m15 m33 hcr hto hT hv rfl (Nat.zero_le _) et_ex.rf et_fr.rf owt.rf h
theorem fn_rs {x8 x9 x12 : Option Value} {x10 : Int32} {G1 : eg_G} (hH : et_H et_TT K G) (k_am : K am = some 13) (k_aw : K aw = some 46) (k_ea : K ea = some 18) (m1 : et_pl (eg_at G am) 1 = some (.ref aw)) (m34 : et_pl (eg_at G am) 34 = some (.ref ea)) (hn : n < 3) (hea : ∀ i, i < 23 → et_pl (eg_at G ea) i = et_pl (eg_at G1 aw) (45 + 23 * n + i)) (hq0 : ∃ q : Nat, q ≤ 6 ∧ et_pl (eg_at G1 aw) (45 + 23 * n) = some (.int (Int32.ofNat q))) (hdn : ∀ i, i < j → et_pl (eg_at G aw) (45 + 23 * n + i) = et_pl (eg_at G1 aw) (45 + 23 * n + i)) (hj : j ≤ 23) (hX : xf (fun b i => b = aw ∧ (45 + 23 * n ≤ i ∧ i < 68 + 23 * n)) G0 G) (h : ∀ G', et_H et_TT K G' → xf (fun b i => b = aw ∧ (45 + 23 * n ≤ i ∧ i < 68 + 23 * n)) G0 G' → (∀ i, i < 23 → et_pl (eg_at G' aw) (45 + 23 * n + i) = et_pl (eg_at G1 aw) (45 + 23 * n + i)) → et_go none d2 282 291 [some (.ref am), some (.int (Int32.ofNat n)), some (.int (Int32.ofNat k)), some (.int (Int32.ofNat m)), some (.int (Int32.ofNat (45 + 23 * n))), some (.int (Int32.ofNat p)), some (.int y), some (.int (Int32.ofNat code)), x8, x9, some (.int x10), some (.int (Int32.ofNat 23)), x12] [] G' 0 0 Z) : et_go none d2 282 261 [some (.ref am), some (.int (Int32.ofNat n)), some (.int (Int32.ofNat k)), some (.int (Int32.ofNat m)), some (.int (Int32.ofNat (45 + 23 * n))), some (.int (Int32.ofNat p)), some (.int y), some (.int (Int32.ofNat code)), x8, x9, some (.int x10), some (.int (Int32.ofNat j)), x12] [] G 0 0 Z := by
  induction hq9 : 23 - j using Nat.strongRecOn generalizing j G with
  | _ q9 ih =>
    have hea0 := hea
    have lt_am := (hH.2.2 _ _ k_am).1
    have lt_aw := (hH.2.2 _ _ k_aw).1
    have lt_ea := (hH.2.2 _ _ k_ea).1
    refine hs_iload (i := 11) (p := 263) (by decide +kernel) rfl ?_
    refine hs_k (x := Int32.ofNat 23) (p := 265) (by decide +kernel) ?_
    refine hs_br2n (c := .ge) (t := 291) (f := 268) (by decide +kernel) (by omega) (by omega) (fun (c265 : 23 ≤ j) => ?_) (fun (c265 : ¬ (23 ≤ j)) => ?_)
    · obtain rfl : j = 23 := by omega
      exact h _ hH hX hdn
    · refine hs_aload (i := 0) (p := 269) (by decide +kernel) rfl ?_
      refine hf_get (T := et_TT) (t := 13) (ci := 11) (f := 1) (p := 272) (by decide +kernel) rfl hH k_am m1 ?_
      refine hs_iload (i := 4) (p := 274) (by decide +kernel) rfl ?_
      refine hs_iload (i := 11) (p := 276) (by decide +kernel) rfl ?_
      refine hs_iaddn (p := 277) (by decide +kernel) ?_
      refine hs_aload (i := 0) (p := 278) (by decide +kernel) rfl ?_
      refine hf_get (T := et_TT) (t := 13) (ci := 11) (f := 34) (p := 281) (by decide +kernel) rfl hH k_am m34 ?_
      refine hs_iload (i := 11) (p := 283) (by decide +kernel) rfl ?_
      refine ht_ild (T := et_TT) (t := 18) (N := 23) (p := 284) (by decide +kernel) rfl hH k_ea (by omega) (by decide) (fun x283 s283 e283 => ?_)
      refine hf_wst (p := 285) (by decide +kernel) hH k_aw (by omega) (wx_ok (by omega) (by omega) (fun hk0 => by obtain ⟨q, q1, q2⟩ := hq0; subst hk0; cases e283.symm.trans ((hea 0 (by decide)).trans q2); exact ⟨q, q1, rfl⟩)) (fun G284 hH x284 e284 => ?_)
      have hea : ∀ i, i < 23 → et_pl (eg_at G284 ea) i = et_pl (eg_at G1 aw) (45 + 23 * n + i) := fun i hi => (x284.2 ea i lt_ea (fun h => hi_ne k_ea k_aw (by decide) h.1)).trans (hea i hi)
      have hdn2 : ∀ i, i < j → et_pl (eg_at G284 aw) (45 + 23 * n + i) = et_pl (eg_at G1 aw) (45 + 23 * n + i) := fun i hi => (x284.2 aw _ lt_aw (fun h => by have h := h.2; omega)).trans (hdn i hi)
      have m1 := (x284.2 am 1 lt_am (fun h => (hi_ne k_am k_aw (by decide)) h.1)).trans m1
      have m34 := (x284.2 am 34 lt_am (fun h => (hi_ne k_am k_aw (by decide)) h.1)).trans m34
      have lt_am := Nat.lt_of_lt_of_le lt_am x284.1
      have lt_aw := Nat.lt_of_lt_of_le lt_aw x284.1
      have lt_ea := Nat.lt_of_lt_of_le lt_ea x284.1
      have hX := hX.tr x284 (fun b i _ h => ⟨h.1, by have h := h.2; omega⟩)
      refine hs_iinc1 (i := 11) (p := 288) (by decide +kernel) rfl (Nat.le_of_ble_eq_true rfl) ?_
      refine hs_goto (p := 261) (by decide +kernel) ?_
      have hdn3 : ∀ i, i < j + 1 → et_pl (eg_at G284 aw) (45 + 23 * n + i) = et_pl (eg_at G1 aw) (45 + 23 * n + i) := fun i hi => by
        by_cases ei : i = j
        · rw [ei]; exact e284.trans (e283.symm.trans (hea0 j (by omega)))
        · exact hdn2 i (by omega)
      show et_go none _ 282 261 [some (.ref am), some (.int (Int32.ofNat n)), some (.int (Int32.ofNat k)), some (.int (Int32.ofNat m)), some (.int (Int32.ofNat (45 + 23 * n))), some (.int (Int32.ofNat p)), some (.int y), some (.int (Int32.ofNat code)), x8, x9, some (.int x10), some (.int (Int32.ofNat (j + 1))), x12] [] _ _ _ _
      exact ih (23 - (j + 1)) (by omega) hH m1 m34 hea hdn3 (by omega) hX rfl
theorem fn_cdL {x8 x9 x10 x11 x12 : Option Value} (hnc : nc ≤ 20) (hn : n < 3) (ho : evo v) (hm : m ≤ nc) (hm5 : m ≤ 5) (hk : k < 4) (hcl : ∀ l ∈ ls, lcl1 l) (hcr1 : crP G0 aw nc X Y) (hT1 : tuT G0 aw (126 + 841 * (4 + k)) 1 ls) (hv1 : evm G0 aw n v) (hH : et_H et_TT K G) (k_am : K am = some 13) (k_aw : K aw = some 46) (m1 : et_pl (eg_at G am) 1 = some (.ref aw)) (k_fa : K fa = some 14) (k_tg : K tg = some 24) (k_to : K to = some 36) (m14 : et_pl (eg_at G am) 14 = some (.ref fa)) (m15 : et_pl (eg_at G am) 15 = some (.ref tg)) (m33 : et_pl (eg_at G am) 33 = some (.ref to)) (k_ea : K ea = some 18) (m0 : et_pl (eg_at G am) 0 = some (.int (Int32.ofNat 0))) (m34 : et_pl (eg_at G am) 34 = some (.ref ea)) (hea : ∀ i, i < 23 → et_pl (eg_at G ea) i = et_pl (eg_at G0 aw) (45 + 23 * n + i)) (haw : ∀ i, et_pl (eg_at G aw) i = et_pl (eg_at G0 aw) i) (hFq : rfF (soG v X Y ls m) m code = F) (hcd : code ≤ fcN m) : et_go none (d + 11) 282 118 [some (.ref am), some (.int (Int32.ofNat n)), some (.int (Int32.ofNat k)), some (.int (Int32.ofNat m)), some (.int (Int32.ofNat (45 + 23 * n))), some (.int (Int32.ofNat (fcN m))), some (.int (snI F)), some (.int (Int32.ofNat code)), x8, x9, x10, x11, x12] [] G 0 0 (fun u => u.1 = .inl (some (.int (snI (rfF (soG v X Y ls m) m (fcN m))))) ∧ et_pl (eg_at u.2.1 am) 0 = some (.int (Int32.ofNat 0))) := by
  have hfc := (so_nn m (List.mem_range.mpr (by omega))).2
  have hq0 : ∃ q : Nat, q ≤ 6 ∧ et_pl (eg_at G0 aw) (45 + 23 * n) = some (.int (Int32.ofNat q)) := ⟨v.1, ho.1.1, hv1.1⟩
  have hsf := sp_full m (List.mem_range.mpr (by omega))
  induction hq9 : fcN m - code using Nat.strongRecOn generalizing code F K G x8 x9 x10 x11 x12 with
  | _ q9 ih =>
    have hF : F ≤ 51 := by rw [← hFq]; exact rfF_le _
    have hg51 : (soG v X Y ls m (orN m code)) ≤ 51 := soG_le hm5
    have lt_am := (hH.2.2 _ _ k_am).1
    have lt_aw := (hH.2.2 _ _ k_aw).1
    have lt_fa := (hH.2.2 _ _ k_fa).1
    have lt_tg := (hH.2.2 _ _ k_tg).1
    have lt_to := (hH.2.2 _ _ k_to).1
    have lt_ea := (hH.2.2 _ _ k_ea).1
    refine hs_iload (i := 7) (p := 120) (by decide +kernel) rfl ?_
    refine hs_iload (i := 5) (p := 122) (by decide +kernel) rfl ?_
    refine hs_br2n (c := .ge) (t := 297) (f := 125) (by decide +kernel) (by omega) (by omega) (fun (c122 : (fcN m) ≤ code) => ?_) (fun (c122 : ¬ ((fcN m) ≤ code)) => ?_)
    · refine hs_iload (i := 6) (p := 299) (by decide +kernel) rfl ?_
      refine hs_iret (by decide +kernel) ?_
      obtain rfl : code = fcN m := by omega
      rw [hFq]
      exact ⟨rfl, m0⟩
    · refine hs_iload (i := 7) (p := 127) (by decide +kernel) rfl ?_
      refine hs_istore (i := 8) (p := 129) (by decide +kernel) (Nat.le_of_ble_eq_true rfl) ?_
      refine hs_k (x := Int32.ofNat 1) (p := 130) (by decide +kernel) ?_
      refine hs_iload (i := 3) (p := 131) (by decide +kernel) rfl ?_
      refine hs_st (ins := .ishl) (len := 1) (p := 132) (by decide +kernel) rfl rfl ?_
      refine hs_k (x := Int32.ofNat 1) (p := 133) (by decide +kernel) ?_
      refine hs_isub (p := 134) (by decide +kernel) ?_
      refine hs_istore (i := 9) (p := 136) (by decide +kernel) (Nat.le_of_ble_eq_true rfl) ?_
      refine hs_k (x := Int32.ofNat 0) (p := 137) (by decide +kernel) ?_
      refine hs_istore (i := 10) (p := 139) (by decide +kernel) (Nat.le_of_ble_eq_true rfl) ?_
      show et_go none _ 282 139 [some (.ref am), some (.int (Int32.ofNat n)), some (.int (Int32.ofNat k)), some (.int (Int32.ofNat m)), some (.int (Int32.ofNat (45 + 23 * n))), some (.int (Int32.ofNat (fcN m))), some (.int (snI F)), some (.int (Int32.ofNat code)), some (.int (Int32.ofNat code)), some (.int ((Int32.ofNat 1 <<< (Int32.ofNat m &&& 31)) - Int32.ofNat 1)), some (.int (Int32.ofNat 0)), x11, x12] [] _ _ _ _
      rw [hsf.1]
      refine fn_orL (j := 0) (code := code) hH k_am k_to m33 hm5 (by omega) (fun q hq => absurd hq (Nat.not_lt_zero q)) (Nat.zero_le _) xf.rf (fun G2 x8 x9 x11 x12 hH x2 hod => ?_)
      have m0 := (x2.2 am 0 lt_am (fun h => hi_ne k_am k_to (by decide) h.1)).trans m0
      have m1 := (x2.2 am 1 lt_am (fun h => hi_ne k_am k_to (by decide) h.1)).trans m1
      have m14 := (x2.2 am 14 lt_am (fun h => hi_ne k_am k_to (by decide) h.1)).trans m14
      have m15 := (x2.2 am 15 lt_am (fun h => hi_ne k_am k_to (by decide) h.1)).trans m15
      have m33 := (x2.2 am 33 lt_am (fun h => hi_ne k_am k_to (by decide) h.1)).trans m33
      have m34 := (x2.2 am 34 lt_am (fun h => hi_ne k_am k_to (by decide) h.1)).trans m34
      have hea : ∀ i, i < 23 → et_pl (eg_at G2 ea) i = et_pl (eg_at G0 aw) (45 + 23 * n + i) := fun i hi => (x2.2 ea i lt_ea (fun h => hi_ne k_ea k_to (by decide) h.1)).trans (hea i hi)
      have haw : ∀ i, et_pl (eg_at G2 aw) i = et_pl (eg_at G0 aw) i := fun i => (x2.2 aw i lt_aw (fun h => hi_ne k_aw k_to (by decide) h.1)).trans (haw i)
      show et_go none _ 282 225 [some (.ref am), some (.int (Int32.ofNat n)), some (.int (Int32.ofNat k)), some (.int (Int32.ofNat m)), some (.int (Int32.ofNat (45 + 23 * n))), some (.int (Int32.ofNat (fcN m))), some (.int (snI F)), some (.int (Int32.ofNat code)), some (.int x8), some (.int x9), some (.int (Int32.ofNat m)), x11, x12] [] _ _ _ _
      refine hs_aload (i := 0) (p := 226) (by decide +kernel) rfl ?_
      refine hs_iload (i := 1) (p := 227) (by decide +kernel) rfl ?_
      refine hs_iload (i := 2) (p := 228) (by decide +kernel) rfl ?_
      refine hs_iload (i := 3) (p := 229) (by decide +kernel) rfl ?_
      refine ht_callv (T := et_TT) (t := 13) (mi := 283) (na := 3) (ci := 11) (lk := 13) (lm := 5) (L0 := eg_en (eg_mL 283) [.ref am, .int (Int32.ofNat n), .int (Int32.ofNat k), .int (Int32.ofNat m)]) (by decide +kernel) rfl hH k_am rfl rfl rfl rfl rfl (by rw [show eg_mL 283 = 5 from by decide +kernel]; first | done | rfl) ?_
      refine fn_sb (σ := orN m code) (v := v) (X := X) (Y := Y) (ls := ls) hnc hn ho hm hm5 hk hcl (fun q hq => Nat.lt_of_lt_of_le (or_lt hm5 (by omega) hq) hm) hH k_am k_aw m1 k_fa k_tg k_to m14 m15 m33 (fun c hc => ⟨(haw _).trans (hcr1 c hc).1, (haw _).trans (hcr1 c hc).2.1, (hcr1 c hc).2.2⟩) hod (hT1.mp (fun i hi => haw _)) (evM.mv hv1 (fun i hi => haw _) ho.1.1) (fun K9 G9 hx9 hH hf9 ow9 => ?_) (by omega)
      have m0 := (hf9.2 am 13 k_am 0 rfl).trans m0
      have m1 := (hf9.2 am 13 k_am 1 rfl).trans m1
      have m14 := (hf9.2 am 13 k_am 14 rfl).trans m14
      have m15 := (hf9.2 am 13 k_am 15 rfl).trans m15
      have m33 := (hf9.2 am 13 k_am 33 rfl).trans m33
      have m34 := (hf9.2 am 13 k_am 34 rfl).trans m34
      have hea : ∀ i, i < 23 → et_pl (eg_at G9 ea) i = et_pl (eg_at G0 aw) (45 + 23 * n + i) := fun i hi => (hf9.2 ea 18 k_ea i (no_mm (M := shM) (by decide))).trans (hea i hi)
      have how : ∀ i, (i < 45 + 23 * n ∨ 68 + 23 * n ≤ i) → et_pl (eg_at G9 aw) i = et_pl (eg_at G0 aw) i := fun i hi => (ow9 i hi).trans (haw i)
      have k_am := hx9 _ _ k_am
      have k_aw := hx9 _ _ k_aw
      have k_fa := hx9 _ _ k_fa
      have k_tg := hx9 _ _ k_tg
      have k_to := hx9 _ _ k_to
      have k_ea := hx9 _ _ k_ea
      have lt_am := (hH.2.2 _ _ k_am).1
      have lt_aw := (hH.2.2 _ _ k_aw).1
      have lt_fa := (hH.2.2 _ _ k_fa).1
      have lt_tg := (hH.2.2 _ _ k_tg).1
      have lt_to := (hH.2.2 _ _ k_to).1
      have lt_ea := (hH.2.2 _ _ k_ea).1
      refine hs_cb ?_
      obtain ⟨g9, hg9⟩ : ∃ g9, g9 = (soG v X Y ls m (orN m code)) := ⟨_, rfl⟩
      rw [← hg9] at hg51
      rw [← hg9]
      by_cases hg : 50 < g9
      · rw [show snI g9 = -1 from if_pos hg]
        show et_go none _ 282 232 _ [.int (-1)] _ _ _ _
        refine hs_istore (i := 10) (p := 234) (by decide +kernel) (Nat.le_of_ble_eq_true rfl) ?_
        refine hs_iload (i := 10) (p := 236) (by decide +kernel) rfl ?_
        refine hs_if1 (c := .lt) (t := 258) (f := 239) (by decide +kernel) (show (-1 : Int32) < 0 by decide) ?_
        have e6 : snI F = snI (min F g9) := by rw [show min F g9 = F by omega]
        show et_go none _ 282 258 [some (.ref am), some (.int (Int32.ofNat n)), some (.int (Int32.ofNat k)), some (.int (Int32.ofNat m)), some (.int (Int32.ofNat (45 + 23 * n))), some (.int (Int32.ofNat (fcN m))), some (.int (snI F)), some (.int (Int32.ofNat code)), some (.int x8), some (.int x9), some (.int (-1)), x11, x12] [] _ _ _ _
        rw [e6]
        refine hs_k (x := Int32.ofNat 0) (p := 259) (by decide +kernel) ?_
        refine hs_istore (i := 11) (p := 261) (by decide +kernel) (Nat.le_of_ble_eq_true rfl) ?_
        refine fn_rs (j := 0) (G1 := G0) (G0 := G9) hH k_am k_aw k_ea m1 m34 hn hea hq0 (fun i hi => absurd hi (Nat.not_lt_zero i)) (Nat.zero_le _) xf.rf (fun G3 hH x3 hdn => ?_)
        show et_go none _ 282 291 [some (.ref am), some (.int (Int32.ofNat n)), some (.int (Int32.ofNat k)), some (.int (Int32.ofNat m)), some (.int (Int32.ofNat (45 + 23 * n))), some (.int (Int32.ofNat (fcN m))), some (.int (snI (min F g9))), some (.int (Int32.ofNat code)), some (.int x8), some (.int x9), some (.int (-1)), some (.int (Int32.ofNat 23)), x12] [] _ _ _ _
        refine hs_iinc1 (i := 7) (p := 294) (by decide +kernel) rfl (Nat.le_of_ble_eq_true rfl) ?_
        refine hs_goto (p := 118) (by decide +kernel) ?_
        have m0 := (x3.2 am 0 lt_am (fun h => hi_ne k_am k_aw (by decide) h.1)).trans m0
        have m1 := (x3.2 am 1 lt_am (fun h => hi_ne k_am k_aw (by decide) h.1)).trans m1
        have m14 := (x3.2 am 14 lt_am (fun h => hi_ne k_am k_aw (by decide) h.1)).trans m14
        have m15 := (x3.2 am 15 lt_am (fun h => hi_ne k_am k_aw (by decide) h.1)).trans m15
        have m33 := (x3.2 am 33 lt_am (fun h => hi_ne k_am k_aw (by decide) h.1)).trans m33
        have m34 := (x3.2 am 34 lt_am (fun h => hi_ne k_am k_aw (by decide) h.1)).trans m34
        have hea : ∀ i, i < 23 → et_pl (eg_at G3 ea) i = et_pl (eg_at G0 aw) (45 + 23 * n + i) := fun i hi => (x3.2 ea i lt_ea (fun h => hi_ne k_ea k_aw (by decide) h.1)).trans (hea i hi)
        have haw : ∀ i, et_pl (eg_at G3 aw) i = et_pl (eg_at G0 aw) i := fun i => by
          by_cases hi : i < 45 + 23 * n ∨ 68 + 23 * n ≤ i
          · exact (x3.2 aw i lt_aw (fun h => by have h := h.2; omega)).trans (how i hi)
          · have h9 := hdn (i - (45 + 23 * n)) (by omega)
            rw [show 45 + 23 * n + (i - (45 + 23 * n)) = i by omega] at h9
            exact h9
        have e9 : rfF (soG v X Y ls m) m (code + 1) = min F g9 := by
          show min (rfF (soG v X Y ls m) m code) (soG v X Y ls m (orN m code)) = min F g9
          rw [hFq, hg9]
        exact ih (fcN m - (code + 1)) (by omega) hH k_am k_aw m1 k_fa k_tg k_to m14 m15 m33 k_ea m0 m34 hea haw e9 (by omega) rfl
      · rw [show snI g9 = Int32.ofNat g9 from if_neg hg]
        show et_go none _ 282 232 _ [.int (Int32.ofNat g9)] _ _ _ _
        refine hs_istore (i := 10) (p := 234) (by decide +kernel) (Nat.le_of_ble_eq_true rfl) ?_
        refine hs_iload (i := 10) (p := 236) (by decide +kernel) rfl ?_
        refine hs_if0 (c := .lt) (t := 258) (f := 239) (by decide +kernel) (rs_nn (by omega)) ?_
        by_cases hF50 : 50 < F
        · rw [show snI F = -1 from if_pos hF50]
          show et_go none _ 282 239 [some (.ref am), some (.int (Int32.ofNat n)), some (.int (Int32.ofNat k)), some (.int (Int32.ofNat m)), some (.int (Int32.ofNat (45 + 23 * n))), some (.int (Int32.ofNat (fcN m))), some (.int (-1)), some (.int (Int32.ofNat code)), some (.int x8), some (.int x9), some (.int (Int32.ofNat g9)), x11, x12] [] _ _ _ _
          refine hs_iload (i := 6) (p := 241) (by decide +kernel) rfl ?_
          refine hs_if0 (c := .ge) (t := 249) (f := 244) (by decide +kernel) (show ¬ (0 ≤ (-1 : Int32)) by decide) ?_
          refine hs_iload (i := 10) (p := 246) (by decide +kernel) rfl ?_
          refine hs_goto (p := 256) (by decide +kernel) ?_
          refine hs_istore (i := 6) (p := 258) (by decide +kernel) (Nat.le_of_ble_eq_true rfl) ?_
          have e6 : Int32.ofNat g9 = snI (min F g9) := by rw [show min F g9 = g9 by omega]; exact (if_neg hg).symm
          show et_go none _ 282 258 [some (.ref am), some (.int (Int32.ofNat n)), some (.int (Int32.ofNat k)), some (.int (Int32.ofNat m)), some (.int (Int32.ofNat (45 + 23 * n))), some (.int (Int32.ofNat (fcN m))), some (.int (Int32.ofNat g9)), some (.int (Int32.ofNat code)), some (.int x8), some (.int x9), some (.int (Int32.ofNat g9)), x11, x12] [] _ _ _ _
          rw [e6]
          refine hs_k (x := Int32.ofNat 0) (p := 259) (by decide +kernel) ?_
          refine hs_istore (i := 11) (p := 261) (by decide +kernel) (Nat.le_of_ble_eq_true rfl) ?_
          refine fn_rs (j := 0) (G1 := G0) (G0 := G9) hH k_am k_aw k_ea m1 m34 hn hea hq0 (fun i hi => absurd hi (Nat.not_lt_zero i)) (Nat.zero_le _) xf.rf (fun G3 hH x3 hdn => ?_)
          show et_go none _ 282 291 [some (.ref am), some (.int (Int32.ofNat n)), some (.int (Int32.ofNat k)), some (.int (Int32.ofNat m)), some (.int (Int32.ofNat (45 + 23 * n))), some (.int (Int32.ofNat (fcN m))), some (.int (snI (min F g9))), some (.int (Int32.ofNat code)), some (.int x8), some (.int x9), some (.int (snI (min F g9))), some (.int (Int32.ofNat 23)), x12] [] _ _ _ _
          refine hs_iinc1 (i := 7) (p := 294) (by decide +kernel) rfl (Nat.le_of_ble_eq_true rfl) ?_
          refine hs_goto (p := 118) (by decide +kernel) ?_
          have m0 := (x3.2 am 0 lt_am (fun h => hi_ne k_am k_aw (by decide) h.1)).trans m0
          have m1 := (x3.2 am 1 lt_am (fun h => hi_ne k_am k_aw (by decide) h.1)).trans m1
          have m14 := (x3.2 am 14 lt_am (fun h => hi_ne k_am k_aw (by decide) h.1)).trans m14
          have m15 := (x3.2 am 15 lt_am (fun h => hi_ne k_am k_aw (by decide) h.1)).trans m15
          have m33 := (x3.2 am 33 lt_am (fun h => hi_ne k_am k_aw (by decide) h.1)).trans m33
          have m34 := (x3.2 am 34 lt_am (fun h => hi_ne k_am k_aw (by decide) h.1)).trans m34
          have hea : ∀ i, i < 23 → et_pl (eg_at G3 ea) i = et_pl (eg_at G0 aw) (45 + 23 * n + i) := fun i hi => (x3.2 ea i lt_ea (fun h => hi_ne k_ea k_aw (by decide) h.1)).trans (hea i hi)
          have haw : ∀ i, et_pl (eg_at G3 aw) i = et_pl (eg_at G0 aw) i := fun i => by
            by_cases hi : i < 45 + 23 * n ∨ 68 + 23 * n ≤ i
            · exact (x3.2 aw i lt_aw (fun h => by have h := h.2; omega)).trans (how i hi)
            · have h9 := hdn (i - (45 + 23 * n)) (by omega)
              rw [show 45 + 23 * n + (i - (45 + 23 * n)) = i by omega] at h9
              exact h9
          have e9 : rfF (soG v X Y ls m) m (code + 1) = min F g9 := by
            show min (rfF (soG v X Y ls m) m code) (soG v X Y ls m (orN m code)) = min F g9
            rw [hFq, hg9]
          exact ih (fcN m - (code + 1)) (by omega) hH k_am k_aw m1 k_fa k_tg k_to m14 m15 m33 k_ea m0 m34 hea haw e9 (by omega) rfl
        · rw [show snI F = Int32.ofNat F from if_neg hF50]
          show et_go none _ 282 239 [some (.ref am), some (.int (Int32.ofNat n)), some (.int (Int32.ofNat k)), some (.int (Int32.ofNat m)), some (.int (Int32.ofNat (45 + 23 * n))), some (.int (Int32.ofNat (fcN m))), some (.int (Int32.ofNat F)), some (.int (Int32.ofNat code)), some (.int x8), some (.int x9), some (.int (Int32.ofNat g9)), x11, x12] [] _ _ _ _
          refine hs_iload (i := 6) (p := 241) (by decide +kernel) rfl ?_
          refine hs_if1 (c := .ge) (t := 249) (f := 244) (by decide +kernel) (rs_ng (by omega)) ?_
          refine hs_iload (i := 6) (p := 251) (by decide +kernel) rfl ?_
          refine hs_iload (i := 10) (p := 253) (by decide +kernel) rfl ?_
          refine hs_math (mi := 311) (lk := 13) (p := 256) (by decide +kernel) rfl rfl rfl rfl ?_
          rw [mn_I (by omega) (by omega)]
          refine hs_istore (i := 6) (p := 258) (by decide +kernel) (Nat.le_of_ble_eq_true rfl) ?_
          have e6 : Int32.ofNat (min F g9) = snI (min F g9) := (if_neg (by omega)).symm
          show et_go none _ 282 258 [some (.ref am), some (.int (Int32.ofNat n)), some (.int (Int32.ofNat k)), some (.int (Int32.ofNat m)), some (.int (Int32.ofNat (45 + 23 * n))), some (.int (Int32.ofNat (fcN m))), some (.int (Int32.ofNat (min F g9))), some (.int (Int32.ofNat code)), some (.int x8), some (.int x9), some (.int (Int32.ofNat g9)), x11, x12] [] _ _ _ _
          rw [e6]
          refine hs_k (x := Int32.ofNat 0) (p := 259) (by decide +kernel) ?_
          refine hs_istore (i := 11) (p := 261) (by decide +kernel) (Nat.le_of_ble_eq_true rfl) ?_
          refine fn_rs (j := 0) (G1 := G0) (G0 := G9) hH k_am k_aw k_ea m1 m34 hn hea hq0 (fun i hi => absurd hi (Nat.not_lt_zero i)) (Nat.zero_le _) xf.rf (fun G3 hH x3 hdn => ?_)
          show et_go none _ 282 291 [some (.ref am), some (.int (Int32.ofNat n)), some (.int (Int32.ofNat k)), some (.int (Int32.ofNat m)), some (.int (Int32.ofNat (45 + 23 * n))), some (.int (Int32.ofNat (fcN m))), some (.int (snI (min F g9))), some (.int (Int32.ofNat code)), some (.int x8), some (.int x9), some (.int (Int32.ofNat g9)), some (.int (Int32.ofNat 23)), x12] [] _ _ _ _
          refine hs_iinc1 (i := 7) (p := 294) (by decide +kernel) rfl (Nat.le_of_ble_eq_true rfl) ?_
          refine hs_goto (p := 118) (by decide +kernel) ?_
          have m0 := (x3.2 am 0 lt_am (fun h => hi_ne k_am k_aw (by decide) h.1)).trans m0
          have m1 := (x3.2 am 1 lt_am (fun h => hi_ne k_am k_aw (by decide) h.1)).trans m1
          have m14 := (x3.2 am 14 lt_am (fun h => hi_ne k_am k_aw (by decide) h.1)).trans m14
          have m15 := (x3.2 am 15 lt_am (fun h => hi_ne k_am k_aw (by decide) h.1)).trans m15
          have m33 := (x3.2 am 33 lt_am (fun h => hi_ne k_am k_aw (by decide) h.1)).trans m33
          have m34 := (x3.2 am 34 lt_am (fun h => hi_ne k_am k_aw (by decide) h.1)).trans m34
          have hea : ∀ i, i < 23 → et_pl (eg_at G3 ea) i = et_pl (eg_at G0 aw) (45 + 23 * n + i) := fun i hi => (x3.2 ea i lt_ea (fun h => hi_ne k_ea k_aw (by decide) h.1)).trans (hea i hi)
          have haw : ∀ i, et_pl (eg_at G3 aw) i = et_pl (eg_at G0 aw) i := fun i => by
            by_cases hi : i < 45 + 23 * n ∨ 68 + 23 * n ≤ i
            · exact (x3.2 aw i lt_aw (fun h => by have h := h.2; omega)).trans (how i hi)
            · have h9 := hdn (i - (45 + 23 * n)) (by omega)
              rw [show 45 + 23 * n + (i - (45 + 23 * n)) = i by omega] at h9
              exact h9
          have e9 : rfF (soG v X Y ls m) m (code + 1) = min F g9 := by
            show min (rfF (soG v X Y ls m) m code) (soG v X Y ls m (orN m code)) = min F g9
            rw [hFq, hg9]
          exact ih (fcN m - (code + 1)) (by omega) hH k_am k_aw m1 k_fa k_tg k_to m14 m15 m33 k_ea m0 m34 hea haw e9 (by omega) rfl
theorem fn_sv {x6 x7 x8 x9 x10 x11 x12 : Option Value} (hH : et_H et_TT K G) (k_am : K am = some 13) (k_aw : K aw = some 46) (k_ea : K ea = some 18) (m1 : et_pl (eg_at G am) 1 = some (.ref aw)) (m34 : et_pl (eg_at G am) 34 = some (.ref ea)) (hn : n < 3) (hea : ∀ i, i < j → et_pl (eg_at G ea) i = et_pl (eg_at G aw) (45 + 23 * n + i)) (hj : j ≤ 23) (hX : xf (fun b _ => b = ea) G0 G) (h : ∀ G', et_H et_TT K G' → xf (fun b _ => b = ea) G0 G' → (∀ i, i < 23 → et_pl (eg_at G' ea) i = et_pl (eg_at G' aw) (45 + 23 * n + i)) → et_go none d2 282 87 [some (.ref am), some (.int (Int32.ofNat n)), some (.int (Int32.ofNat k)), some (.int (Int32.ofNat m)), some (.int (Int32.ofNat (45 + 23 * n))), some (.int (Int32.ofNat 23)), x6, x7, x8, x9, x10, x11, x12] [] G' 0 0 Z) : et_go none d2 282 57 [some (.ref am), some (.int (Int32.ofNat n)), some (.int (Int32.ofNat k)), some (.int (Int32.ofNat m)), some (.int (Int32.ofNat (45 + 23 * n))), some (.int (Int32.ofNat j)), x6, x7, x8, x9, x10, x11, x12] [] G 0 0 Z := by
  induction hq9 : 23 - j using Nat.strongRecOn generalizing j G with
  | _ q9 ih =>
    have lt_am := (hH.2.2 _ _ k_am).1
    have lt_aw := (hH.2.2 _ _ k_aw).1
    have lt_ea := (hH.2.2 _ _ k_ea).1
    refine hs_iload (i := 5) (p := 59) (by decide +kernel) rfl ?_
    refine hs_k (x := Int32.ofNat 23) (p := 61) (by decide +kernel) ?_
    refine hs_br2n (c := .ge) (t := 87) (f := 64) (by decide +kernel) (by omega) (by omega) (fun (c61 : 23 ≤ j) => ?_) (fun (c61 : ¬ (23 ≤ j)) => ?_)
    · obtain rfl : j = 23 := by omega
      exact h _ hH hX hea
    · refine hs_aload (i := 0) (p := 65) (by decide +kernel) rfl ?_
      refine hf_get (T := et_TT) (t := 13) (ci := 11) (f := 34) (p := 68) (by decide +kernel) rfl hH k_am m34 ?_
      refine hs_iload (i := 5) (p := 70) (by decide +kernel) rfl ?_
      refine hs_aload (i := 0) (p := 71) (by decide +kernel) rfl ?_
      refine hf_get (T := et_TT) (t := 13) (ci := 11) (f := 1) (p := 74) (by decide +kernel) rfl hH k_am m1 ?_
      refine hs_iload (i := 4) (p := 76) (by decide +kernel) rfl ?_
      refine hs_iload (i := 5) (p := 78) (by decide +kernel) rfl ?_
      refine hs_iaddn (p := 79) (by decide +kernel) ?_
      refine ht_ild (T := et_TT) (t := 46) (N := 12741) (p := 80) (by decide +kernel) rfl hH k_aw (by omega) (by decide) (fun x79 s79 e79 => ?_)
      have hHo := hH
      refine hf_ist (T := et_TT) (t := 18) (N := 23) (p := 81) (by decide +kernel) rfl rfl (by decide) hH k_ea (by omega) (by decide) (fun s hs => absurd hs List.not_mem_nil) (fun G80 hH x80 e80 => ?_)
      have hea2 : ∀ i, i < j → et_pl (eg_at G80 ea) i = et_pl (eg_at G80 aw) (45 + 23 * n + i) := fun i hi => ((x80.2 ea i lt_ea (fun h => by have h := h.2; omega)).trans (hea i hi)).trans (x80.2 aw _ lt_aw (fun h => hi_ne k_aw k_ea (by decide) h.1)).symm
      have m1 := (x80.2 am 1 lt_am (fun h => (hi_ne k_am k_ea (by decide)) h.1)).trans m1
      have m34 := (x80.2 am 34 lt_am (fun h => (hi_ne k_am k_ea (by decide)) h.1)).trans m34
      have e79 := (x80.2 aw ((45 + 23 * n) + j) lt_aw (fun h => (hi_ne k_aw k_ea (by decide)) h.1)).trans e79
      have lt_am := Nat.lt_of_lt_of_le lt_am x80.1
      have lt_aw := Nat.lt_of_lt_of_le lt_aw x80.1
      have lt_ea := Nat.lt_of_lt_of_le lt_ea x80.1
      have hX := hX.tr x80 (fun b i _ h => h.1)
      refine hs_iinc1 (i := 5) (p := 84) (by decide +kernel) rfl (Nat.le_of_ble_eq_true rfl) ?_
      refine hs_goto (p := 57) (by decide +kernel) ?_
      have hea3 : ∀ i, i < j + 1 → et_pl (eg_at G80 ea) i = et_pl (eg_at G80 aw) (45 + 23 * n + i) := fun i hi => by
        by_cases ei : i = j
        · rw [ei]; exact e80.trans e79.symm
        · exact hea2 i (by omega)
      exact ih (23 - (j + 1)) (by omega) hH m1 m34 hea3 (by omega) hX rfl
theorem fn_fc {x7 x8 x9 x10 x11 x12 : Option Value} (hm5 : m ≤ 5) (hjm : j + 1 ≤ m ∨ j = 0) (h : ∀ x6 : Option Value, et_go none d2 282 112 [some (.ref am), some (.int (Int32.ofNat n)), some (.int (Int32.ofNat k)), some (.int (Int32.ofNat m)), some (.int (Int32.ofNat (45 + 23 * n))), some (.int (Int32.ofNat (fcN m))), x6, x7, x8, x9, x10, x11, x12] [] G 0 0 Z) : et_go none d2 282 93 [some (.ref am), some (.int (Int32.ofNat n)), some (.int (Int32.ofNat k)), some (.int (Int32.ofNat m)), some (.int (Int32.ofNat (45 + 23 * n))), some (.int (Int32.ofNat (fcN (j + 1)))), some (.int (Int32.ofNat (j + 2))), x7, x8, x9, x10, x11, x12] [] G 0 0 Z := by
  induction hq9 : 6 - j using Nat.strongRecOn generalizing j with
  | _ q9 ih =>
    have hf9 := (so_nn (j + 1) (List.mem_range.mpr (by omega))).2
    refine hs_iload (i := 6) (p := 95) (by decide +kernel) rfl ?_
    refine hs_iload (i := 3) (p := 96) (by decide +kernel) rfl ?_
    refine hs_br2n (c := .gt) (t := 112) (f := 99) (by decide +kernel) (by omega) (by omega) (fun (c96 : m < (j + 2)) => ?_) (fun (c96 : ¬ (m < (j + 2))) => ?_)
    · have e9 : fcN (j + 1) = fcN m := by
        by_cases e : m = j + 1
        · rw [e]
        · obtain ⟨rfl, rfl⟩ : j = 0 ∧ m = 0 := by omega
          rfl
      rw [e9]
      exact h _
    · refine hs_iload (i := 5) (p := 101) (by decide +kernel) rfl ?_
      refine hs_iload (i := 6) (p := 103) (by decide +kernel) rfl ?_
      refine hs_imuln (p := 104) (by decide +kernel) ?_
      refine hs_istore (i := 5) (p := 106) (by decide +kernel) (Nat.le_of_ble_eq_true rfl) ?_
      refine hs_iinc1 (i := 6) (p := 109) (by decide +kernel) rfl (Nat.le_of_ble_eq_true rfl) ?_
      refine hs_goto (p := 93) (by decide +kernel) ?_
      exact ih (6 - (j + 1)) (by omega) (j := j + 1) (.inl (by omega)) rfl
theorem fn_soon (hH : et_H et_TT K G) (k_am : K am = some 13) (k_aw : K aw = some 46) (m1 : et_pl (eg_at G am) 1 = some (.ref aw)) (w4 : et_pl (eg_at G aw) 4 = some (.int (Int32.ofNat ec))) (hec : ec ≤ 3) (w1 : et_pl (eg_at G aw) 1 = some (.int (Int32.ofNat tc))) (htc : tc ≤ 4) (w3 : et_pl (eg_at G aw) 3 = some (.int (Int32.ofNat nc))) (hnc : nc ≤ 20) (hcr : crP G aw nc X Y) (ho : evo v) (hv : evm G aw n v) (hT : tuT G aw (126 + 841 * (4 + k)) 1 ls) (hcl : ∀ l ∈ ls, lcl1 l) (hn : n < ec) (hk : k < tc) (hd : 11 ≤ d2) : et_go none d2 282 0 (eg_en (eg_mL 282) [.ref am, .int (Int32.ofNat n), .int (Int32.ofNat k)]) [] G 0 0 (fun u => u.1 = .inl (some (.int (snI (clF (soG v X Y ls (min nc 5)) (min nc 5) (min nc 5 ^ min nc 5))))) ∧ et_pl (eg_at u.2.1 am) 0 = some (.int (Int32.ofNat 0))) := by
  obtain ⟨d, rfl⟩ : ∃ d, d2 = d + 11 := ⟨d2 - 11, by omega⟩
  obtain ⟨fa, m14, k_fa⟩ := hf_ref (t := 13) (f := 14) (u := 14) hH k_am rfl rfl (.inr trivial)
  obtain ⟨tg, m15, k_tg⟩ := hf_ref (t := 13) (f := 15) (u := 24) hH k_am rfl rfl (.inr trivial)
  obtain ⟨to, m33, k_to⟩ := hf_ref (t := 13) (f := 33) (u := 36) hH k_am rfl rfl (.inr trivial)
  obtain ⟨ea, m34, k_ea⟩ := hf_ref (t := 13) (f := 34) (u := 18) hH k_am rfl rfl (.inr trivial)
  rw [show eg_mL 282 = 13 from by decide +kernel]
  show et_go none (d + 11) 282 0 [some (.ref am), some (.int (Int32.ofNat n)), some (.int (Int32.ofNat k)), none, none, none, none, none, none, none, none, none, none] [] G 0 0 _
  have lt_am := (hH.2.2 _ _ k_am).1
  have lt_aw := (hH.2.2 _ _ k_aw).1
  have lt_fa := (hH.2.2 _ _ k_fa).1
  have lt_tg := (hH.2.2 _ _ k_tg).1
  have lt_to := (hH.2.2 _ _ k_to).1
  have lt_ea := (hH.2.2 _ _ k_ea).1
  refine hs_aload (i := 0) (p := 1) (by decide +kernel) rfl ?_
  refine hs_k (x := Int32.ofNat 0) (p := 2) (by decide +kernel) ?_
  have hHo := hH
  refine hf_put (T := et_TT) (t := 13) (ci := 11) (f := 0) (p := 5) (ty := .int) (by decide +kernel) rfl rfl rfl rfl rfl hH k_am hi_any (fun G2 hH x2 e2 => ?_)
  have hcr : crP G2 aw nc X Y := fun c hc => ⟨(x2.2 aw _ lt_aw (fun h => hi_ne k_aw k_am (by decide) h.1)).trans (hcr c hc).1, (x2.2 aw _ lt_aw (fun h => hi_ne k_aw k_am (by decide) h.1)).trans (hcr c hc).2.1, (hcr c hc).2.2⟩
  have hv : evm G2 aw n v := evM.mv hv (fun i hi => x2.2 aw _ lt_aw (fun h => hi_ne k_aw k_am (by decide) h.1)) ho.1.1
  have hT := hT.mp (fun i hi => x2.2 aw _ lt_aw (fun h => hi_ne k_aw k_am (by decide) h.1))
  have m1 := (x2.2 am 1 lt_am (fun h => absurd h.2 (by decide))).trans m1
  have w4 := (x2.2 aw 4 lt_aw (fun h => (hi_ne k_aw k_am (by decide)) h.1)).trans w4
  have w1 := (x2.2 aw 1 lt_aw (fun h => (hi_ne k_aw k_am (by decide)) h.1)).trans w1
  have w3 := (x2.2 aw 3 lt_aw (fun h => (hi_ne k_aw k_am (by decide)) h.1)).trans w3
  have m14 := (x2.2 am 14 lt_am (fun h => absurd h.2 (by decide))).trans m14
  have m15 := (x2.2 am 15 lt_am (fun h => absurd h.2 (by decide))).trans m15
  have m33 := (x2.2 am 33 lt_am (fun h => absurd h.2 (by decide))).trans m33
  have m34 := (x2.2 am 34 lt_am (fun h => absurd h.2 (by decide))).trans m34
  have lt_am := Nat.lt_of_lt_of_le lt_am x2.1
  have lt_aw := Nat.lt_of_lt_of_le lt_aw x2.1
  have lt_fa := Nat.lt_of_lt_of_le lt_fa x2.1
  have lt_tg := Nat.lt_of_lt_of_le lt_tg x2.1
  have lt_to := Nat.lt_of_lt_of_le lt_to x2.1
  have lt_ea := Nat.lt_of_lt_of_le lt_ea x2.1
  refine hs_aload (i := 0) (p := 6) (by decide +kernel) rfl ?_
  refine hs_aload (i := 0) (p := 7) (by decide +kernel) rfl ?_
  refine hs_iload (i := 1) (p := 8) (by decide +kernel) rfl ?_
  refine ht_callv (T := et_TT) (t := 13) (mi := 208) (na := 1) (ci := 11) (lk := 13) (lm := 2) (L0 := eg_en (eg_mL 208) [.ref am, .int (Int32.ofNat n)]) (by decide +kernel) rfl hH k_am rfl rfl rfl rfl rfl (by rw [show eg_mL 208 = 2 from by decide +kernel]; first | done | rfl) ?_
  refine (fm_nEy hH k_am k_aw m1 w4 hec hn (by omega)).mono (fun u hu => xp_cb hu ?_)
  show et_go none _ 282 11 _ [.int (Int32.ofNat 0), .ref am] _ _ _ _
  refine hs_if0 (c := .ne) (t := 22) (f := 14) (by decide +kernel) (show ¬ (¬ Int32.ofNat 0 = 0) by decide) ?_
  refine hs_aload (i := 0) (p := 15) (by decide +kernel) rfl ?_
  refine hs_iload (i := 2) (p := 16) (by decide +kernel) rfl ?_
  refine ht_callv (T := et_TT) (t := 13) (mi := 246) (na := 1) (ci := 11) (lk := 13) (lm := 2) (L0 := eg_en (eg_mL 246) [.ref am, .int (Int32.ofNat k)]) (by decide +kernel) rfl hH k_am rfl rfl rfl rfl rfl (by rw [show eg_mL 246 = 2 from by decide +kernel]; first | done | rfl) ?_
  refine (fm_yes0 (fm_nT (x := Int32.ofNat k) hH k_am k_aw m1 w1 htc (by omega)) hk (by omega)).mono (fun u hu => xp_cb hu ?_)
  show et_go none _ 282 19 _ [.int (Int32.ofNat 0), .ref am] _ _ _ _
  refine hs_if1 (c := .eq) (t := 26) (f := 22) (by decide +kernel) (show Int32.ofNat 0 = 0 by decide) ?_
  refine hs_k (x := Int32.ofNat 0) (p := 27) (by decide +kernel) ?_
  refine hs_k (x := Int32.ofNat 1) (p := 28) (by decide +kernel) ?_
  refine ht_callv (T := et_TT) (t := 13) (mi := 204) (na := 2) (ci := 11) (lk := 13) (lm := 3) (L0 := eg_en (eg_mL 204) [.ref am, .int (Int32.ofNat 0), .int (Int32.ofNat 1)]) (by decide +kernel) rfl hH k_am rfl rfl rfl rfl rfl (by rw [show eg_mL 204 = 3 from by decide +kernel]; first | done | rfl) ?_
  refine (fm_t0 hH k_am).mono (fun u hu => xp_cb hu ?_)
  show et_go none _ 282 31 _ [.int (Int32.ofNat 0)] _ _ _ _
  refine hs_if1 (c := .eq) (t := 36) (f := 34) (by decide +kernel) (show Int32.ofNat 0 = 0 by decide) ?_
  refine hs_k (x := Int32.ofNat 5) (p := 37) (by decide +kernel) ?_
  refine hs_aload (i := 0) (p := 38) (by decide +kernel) rfl ?_
  refine ht_callv (T := et_TT) (t := 13) (mi := 218) (na := 0) (ci := 11) (lk := 13) (lm := 1) (L0 := eg_en (eg_mL 218) [.ref am]) (by decide +kernel) rfl hH k_am rfl rfl rfl rfl rfl (by rw [show eg_mL 218 = 1 from by decide +kernel]; first | done | rfl) ?_
  refine (fm_cards hH k_am k_aw m1 w3).mono (fun u hu => xp_cb hu ?_)
  show et_go none _ 282 41 _ [.int (Int32.ofNat nc), .int (Int32.ofNat 5)] _ _ _ _
  refine hs_math (mi := 311) (lk := 13) (p := 44) (by decide +kernel) rfl rfl rfl rfl ?_
  rw [mn_I (by omega) (by omega)]
  refine hs_istore (i := 3) (p := 45) (by decide +kernel) (Nat.le_of_ble_eq_true rfl) ?_
  refine hs_k (x := Int32.ofNat 45) (p := 47) (by decide +kernel) ?_
  refine hs_k (x := Int32.ofNat 23) (p := 49) (by decide +kernel) ?_
  refine hs_iload (i := 1) (p := 50) (by decide +kernel) rfl ?_
  refine hs_imuln (p := 51) (by decide +kernel) ?_
  refine hs_iaddn (p := 52) (by decide +kernel) ?_
  refine hs_istore (i := 4) (p := 54) (by decide +kernel) (Nat.le_of_ble_eq_true rfl) ?_
  refine hs_k (x := Int32.ofNat 0) (p := 55) (by decide +kernel) ?_
  refine hs_istore (i := 5) (p := 57) (by decide +kernel) (Nat.le_of_ble_eq_true rfl) ?_
  rw [Nat.min_comm 5 nc]
  generalize hmq : min nc 5 = m
  show et_go none _ 282 57 [some (.ref am), some (.int (Int32.ofNat n)), some (.int (Int32.ofNat k)), some (.int (Int32.ofNat m)), some (.int (Int32.ofNat (45 + 23 * n))), some (.int (Int32.ofNat 0)), none, none, none, none, none, none, none] [] _ _ _ _
  refine fn_sv (j := 0) hH k_am k_aw k_ea m1 m34 (by omega) (fun i hi => absurd hi (Nat.not_lt_zero i)) (Nat.zero_le _) xf.rf (fun G9 hH x9 hea => ?_)
  have n0 := (x9.2 am 0 lt_am (fun h => hi_ne k_am k_ea (by decide) h)).trans e2
  have n1 := (x9.2 am 1 lt_am (fun h => hi_ne k_am k_ea (by decide) h)).trans m1
  have n14 := (x9.2 am 14 lt_am (fun h => hi_ne k_am k_ea (by decide) h)).trans m14
  have n15 := (x9.2 am 15 lt_am (fun h => hi_ne k_am k_ea (by decide) h)).trans m15
  have n33 := (x9.2 am 33 lt_am (fun h => hi_ne k_am k_ea (by decide) h)).trans m33
  have n34 := (x9.2 am 34 lt_am (fun h => hi_ne k_am k_ea (by decide) h)).trans m34
  have hcr : crP G9 aw nc X Y := fun c hc => ⟨(x9.2 aw _ lt_aw (fun h => hi_ne k_aw k_ea (by decide) h)).trans (hcr c hc).1, (x9.2 aw _ lt_aw (fun h => hi_ne k_aw k_ea (by decide) h)).trans (hcr c hc).2.1, (hcr c hc).2.2⟩
  have hv : evm G9 aw n v := evM.mv hv (fun i hi => x9.2 aw _ lt_aw (fun h => hi_ne k_aw k_ea (by decide) h)) ho.1.1
  have hT := hT.mp (fun i hi => x9.2 aw _ lt_aw (fun h => hi_ne k_aw k_ea (by decide) h))
  show et_go none _ 282 87 [some (.ref am), some (.int (Int32.ofNat n)), some (.int (Int32.ofNat k)), some (.int (Int32.ofNat m)), some (.int (Int32.ofNat (45 + 23 * n))), some (.int (Int32.ofNat 23)), none, none, none, none, none, none, none] [] _ _ _ _
  refine hs_k (x := Int32.ofNat 1) (p := 88) (by decide +kernel) ?_
  refine hs_istore (i := 5) (p := 90) (by decide +kernel) (Nat.le_of_ble_eq_true rfl) ?_
  refine hs_k (x := Int32.ofNat 2) (p := 91) (by decide +kernel) ?_
  refine hs_istore (i := 6) (p := 93) (by decide +kernel) (Nat.le_of_ble_eq_true rfl) ?_
  refine fn_fc (j := 0) (by omega) (.inr rfl) (fun x6 => ?_)
  refine hs_k (x := (-1)) (p := 113) (by decide +kernel) ?_
  refine hs_istore (i := 6) (p := 115) (by decide +kernel) (Nat.le_of_ble_eq_true rfl) ?_
  refine hs_k (x := Int32.ofNat 0) (p := 116) (by decide +kernel) ?_
  refine hs_istore (i := 7) (p := 118) (by decide +kernel) (Nat.le_of_ble_eq_true rfl) ?_
  rw [so_eq (g := soG v X Y ls m) (n := m) (by omega) (fun σ τ hst => soG_co hst)]
  exact fn_cdL (code := 0) (F := 51) (G0 := G9) hnc (by omega) ho (by omega) (by omega) (by omega) hcl hcr hT hv hH k_am k_aw n1 k_fa k_tg k_to n14 n15 n33 k_ea n0 n34 hea (fun i => rfl) rfl (Nat.zero_le _)
theorem fn_soonT (hH : et_H et_TT K G) (k_am : K am = some 13) (k_aw : K aw = some 46) (m1 : et_pl (eg_at G am) 1 = some (.ref aw)) (w4 : et_pl (eg_at G aw) 4 = some (.int (Int32.ofNat ec))) (hec : ec ≤ 3) (w1 : et_pl (eg_at G aw) 1 = some (.int (Int32.ofNat tc))) (htc : tc ≤ 4) (hn : n < ec) (hy : ¬ xr y tc) (hd : 2 ≤ d2) : et_go none d2 282 0 (eg_en (eg_mL 282) [.ref am, .int (Int32.ofNat n), .int y]) [] G 0 0 (fun u => u.1 = .inl (some (.int (Int32.ofNat 0))) ∧ et_pl (eg_at u.2.1 am) 0 = some (.int (Int32.ofNat 1))) := by
  obtain ⟨d, rfl⟩ : ∃ d, d2 = d + 2 := ⟨d2 - 2, by omega⟩
  rw [show eg_mL 282 = 13 from by decide +kernel]
  show et_go none (d + 2) 282 0 [some (.ref am), some (.int (Int32.ofNat n)), some (.int y), none, none, none, none, none, none, none, none, none, none] [] G 0 0 _
  have lt_am := (hH.2.2 _ _ k_am).1
  have lt_aw := (hH.2.2 _ _ k_aw).1
  refine hs_aload (i := 0) (p := 1) (by decide +kernel) rfl ?_
  refine hs_k (x := Int32.ofNat 0) (p := 2) (by decide +kernel) ?_
  refine hf_put (T := et_TT) (t := 13) (ci := 11) (f := 0) (p := 5) (ty := .int) (by decide +kernel) rfl rfl rfl rfl rfl hH k_am hi_any (fun G2 hH x2 e2 => ?_)
  have m1 := (x2.2 am 1 lt_am (fun h => absurd h.2 (by decide))).trans m1
  have w4 := (x2.2 aw 4 lt_aw (fun h => (hi_ne k_aw k_am (by decide)) h.1)).trans w4
  have w1 := (x2.2 aw 1 lt_aw (fun h => (hi_ne k_aw k_am (by decide)) h.1)).trans w1
  have lt_am := Nat.lt_of_lt_of_le lt_am x2.1
  have lt_aw := Nat.lt_of_lt_of_le lt_aw x2.1
  refine hs_aload (i := 0) (p := 6) (by decide +kernel) rfl ?_
  refine hs_aload (i := 0) (p := 7) (by decide +kernel) rfl ?_
  refine hs_iload (i := 1) (p := 8) (by decide +kernel) rfl ?_
  refine ht_callv (T := et_TT) (t := 13) (mi := 208) (na := 1) (ci := 11) (lk := 13) (lm := 2) (L0 := eg_en (eg_mL 208) [.ref am, .int (Int32.ofNat n)]) (by decide +kernel) rfl hH k_am rfl rfl rfl rfl rfl (by rw [show eg_mL 208 = 2 from by decide +kernel]; first | done | rfl) ?_
  refine (fm_nEy hH k_am k_aw m1 w4 hec hn (by omega)).mono (fun u hu => xp_cb hu ?_)
  show et_go none _ 282 11 _ [.int (Int32.ofNat 0), .ref am] _ _ _ _
  refine hs_if0 (c := .ne) (t := 22) (f := 14) (by decide +kernel) (show ¬ (¬ Int32.ofNat 0 = 0) by decide) ?_
  refine hs_aload (i := 0) (p := 15) (by decide +kernel) rfl ?_
  refine hs_iload (i := 2) (p := 16) (by decide +kernel) rfl ?_
  refine ht_callv (T := et_TT) (t := 13) (mi := 246) (na := 1) (ci := 11) (lk := 13) (lm := 2) (L0 := eg_en (eg_mL 246) [.ref am, .int y]) (by decide +kernel) rfl hH k_am rfl rfl rfl rfl rfl (by rw [show eg_mL 246 = 2 from by decide +kernel]; first | done | rfl) ?_
  refine (fm_nT (x := y) hH k_am k_aw m1 w1 htc (by omega)).mono (fun u hu => xp_cb hu ?_)
  by_cases xt : 0 ≤ y.toInt ∧ y.toInt < (tc : Int)
  · exact absurd xt hy
  · rw [if_neg xt]
    show et_go none _ 282 19 _ [.int (Int32.ofNat 1), .ref am] _ _ _ _
    refine hs_if0 (c := .eq) (t := 26) (f := 22) (by decide +kernel) (show ¬ (Int32.ofNat 1 = 0) by decide) ?_
    refine hs_k (x := Int32.ofNat 1) (p := 23) (by decide +kernel) ?_
    refine hs_goto (p := 27) (by decide +kernel) ?_
    refine hs_k (x := Int32.ofNat 1) (p := 28) (by decide +kernel) ?_
    refine ht_callv (T := et_TT) (t := 13) (mi := 204) (na := 2) (ci := 11) (lk := 13) (lm := 3) (L0 := eg_en (eg_mL 204) [.ref am, .int (Int32.ofNat 1), .int (Int32.ofNat 1)]) (by decide +kernel) rfl hH k_am rfl rfl rfl rfl rfl (by rw [show eg_mL 204 = 3 from by decide +kernel]; first | done | rfl) ?_
    refine (fm_t1 hH k_am).mono (fun u hu => xw_cb hu (fun G28 v28 hH x28 hP28 => ?_))
    have m1 := (x28.2 am 1 lt_am (fun h => absurd h.2 (by decide))).trans m1
    have w4 := (x28.2 aw 4 lt_aw (fun h => (hi_ne k_aw k_am (by decide)) h.1)).trans w4
    have w1 := (x28.2 aw 1 lt_aw (fun h => (hi_ne k_aw k_am (by decide)) h.1)).trans w1
    have lt_am := Nat.lt_of_lt_of_le lt_am x28.1
    have lt_aw := Nat.lt_of_lt_of_le lt_aw x28.1
    obtain ⟨rfl, th28⟩ := hP28
    show et_go none _ 282 31 _ [.int (Int32.ofNat 1)] _ _ _ _
    refine hs_if0 (c := .eq) (t := 36) (f := 34) (by decide +kernel) (show ¬ (Int32.ofNat 1 = 0) by decide) ?_
    refine hs_k (x := Int32.ofNat 0) (p := 35) (by decide +kernel) ?_
    refine hs_iret (by decide +kernel) ?_
    exact ⟨rfl, th28⟩
theorem fn_soonE (hH : et_H et_TT K G) (k_am : K am = some 13) (k_aw : K aw = some 46) (m1 : et_pl (eg_at G am) 1 = some (.ref aw)) (w4 : et_pl (eg_at G aw) 4 = some (.int (Int32.ofNat ec))) (hec : ec ≤ 3) (w1 : et_pl (eg_at G aw) 1 = some (.int (Int32.ofNat tc))) (htc : tc ≤ 4) (hx : ¬ xr x ec) (hd : 2 ≤ d2) : et_go none d2 282 0 (eg_en (eg_mL 282) [.ref am, .int x, .int y]) [] G 0 0 (fun u => u.1 = .inl (some (.int (Int32.ofNat 0))) ∧ et_pl (eg_at u.2.1 am) 0 = some (.int (Int32.ofNat 1))) := by
  obtain ⟨d, rfl⟩ : ∃ d, d2 = d + 2 := ⟨d2 - 2, by omega⟩
  rw [show eg_mL 282 = 13 from by decide +kernel]
  show et_go none (d + 2) 282 0 [some (.ref am), some (.int x), some (.int y), none, none, none, none, none, none, none, none, none, none] [] G 0 0 _
  have lt_am := (hH.2.2 _ _ k_am).1
  have lt_aw := (hH.2.2 _ _ k_aw).1
  refine hs_aload (i := 0) (p := 1) (by decide +kernel) rfl ?_
  refine hs_k (x := Int32.ofNat 0) (p := 2) (by decide +kernel) ?_
  refine hf_put (T := et_TT) (t := 13) (ci := 11) (f := 0) (p := 5) (ty := .int) (by decide +kernel) rfl rfl rfl rfl rfl hH k_am hi_any (fun G2 hH x2 e2 => ?_)
  have m1 := (x2.2 am 1 lt_am (fun h => absurd h.2 (by decide))).trans m1
  have w4 := (x2.2 aw 4 lt_aw (fun h => (hi_ne k_aw k_am (by decide)) h.1)).trans w4
  have w1 := (x2.2 aw 1 lt_aw (fun h => (hi_ne k_aw k_am (by decide)) h.1)).trans w1
  have lt_am := Nat.lt_of_lt_of_le lt_am x2.1
  have lt_aw := Nat.lt_of_lt_of_le lt_aw x2.1
  refine hs_aload (i := 0) (p := 6) (by decide +kernel) rfl ?_
  refine hs_aload (i := 0) (p := 7) (by decide +kernel) rfl ?_
  refine hs_iload (i := 1) (p := 8) (by decide +kernel) rfl ?_
  refine ht_callv (T := et_TT) (t := 13) (mi := 208) (na := 1) (ci := 11) (lk := 13) (lm := 2) (L0 := eg_en (eg_mL 208) [.ref am, .int x]) (by decide +kernel) rfl hH k_am rfl rfl rfl rfl rfl (by rw [show eg_mL 208 = 2 from by decide +kernel]; first | done | rfl) ?_
  refine (fm_nEn hH k_am k_aw m1 w4 hec hx (by omega)).mono (fun u hu => xp_cb hu ?_)
  show et_go none _ 282 11 _ [.int (Int32.ofNat 1), .ref am] _ _ _ _
  refine hs_if1 (c := .ne) (t := 22) (f := 14) (by decide +kernel) (show ¬ Int32.ofNat 1 = 0 by decide) ?_
  refine hs_k (x := Int32.ofNat 1) (p := 23) (by decide +kernel) ?_
  refine hs_goto (p := 27) (by decide +kernel) ?_
  refine hs_k (x := Int32.ofNat 1) (p := 28) (by decide +kernel) ?_
  refine ht_callv (T := et_TT) (t := 13) (mi := 204) (na := 2) (ci := 11) (lk := 13) (lm := 3) (L0 := eg_en (eg_mL 204) [.ref am, .int (Int32.ofNat 1), .int (Int32.ofNat 1)]) (by decide +kernel) rfl hH k_am rfl rfl rfl rfl rfl (by rw [show eg_mL 204 = 3 from by decide +kernel]; first | done | rfl) ?_
  refine (fm_t1 hH k_am).mono (fun u hu => xw_cb hu (fun G28 v28 hH x28 hP28 => ?_))
  have m1 := (x28.2 am 1 lt_am (fun h => absurd h.2 (by decide))).trans m1
  have w4 := (x28.2 aw 4 lt_aw (fun h => (hi_ne k_aw k_am (by decide)) h.1)).trans w4
  have w1 := (x28.2 aw 1 lt_aw (fun h => (hi_ne k_aw k_am (by decide)) h.1)).trans w1
  have lt_am := Nat.lt_of_lt_of_le lt_am x28.1
  have lt_aw := Nat.lt_of_lt_of_le lt_aw x28.1
  obtain ⟨rfl, th28⟩ := hP28
  show et_go none _ 282 31 _ [.int (Int32.ofNat 1)] _ _ _ _
  refine hs_if0 (c := .eq) (t := 36) (f := 34) (by decide +kernel) (show ¬ (Int32.ofNat 1 = 0) by decide) ?_
  refine hs_k (x := Int32.ofNat 0) (p := 35) (by decide +kernel) ?_
  refine hs_iret (by decide +kernel) ?_
  exact ⟨rfl, th28⟩
theorem gz_soon {LL : Nat → List sp_L} (hH : et_H et_TT K G) (k_am : K am = some 13) (k_aw : K aw = some 46) (m1 : et_pl (eg_at G am) 1 = some (.ref aw)) (w4 : et_pl (eg_at G aw) 4 = some (.int (Int32.ofNat ec))) (hec : ec ≤ 3) (w1 : et_pl (eg_at G aw) 1 = some (.int (Int32.ofNat tc))) (htc : tc ≤ 4) (w3 : et_pl (eg_at G aw) 3 = some (.int (Int32.ofNat nc))) (hnc : nc ≤ 20) (hcr : crP G aw nc X Y) (hm : zyM G aw ec V) (ho : ∀ n, n < 3 → evo (V n)) (hTx : tyX G aw tc LL) (hcl : ∀ k, k < tc → ∀ l ∈ LL k, lcl1 l) (hd : 11 ≤ d2) : et_go none d2 282 0 (eg_en (eg_mL 282) [.ref am, .int x, .int y]) [] G 0 0 (fun u => (¬ (xr x ec ∧ xr y tc) ∧ u.1 = .inl (some (.int (Int32.ofNat 0))) ∧ et_pl (eg_at u.2.1 am) 0 = some (.int (Int32.ofNat 1))) ∨ ∃ n k, (x = Int32.ofNat n ∧ y = Int32.ofNat k) ∧ (n < ec ∧ k < tc) ∧ u.1 = .inl (some (.int (snI (clF (soG (V n) X Y (LL k) (min nc 5)) (min nc 5) (min nc 5 ^ min nc 5))))) ∧ et_pl (eg_at u.2.1 am) 0 = some (.int (Int32.ofNat 0))) := by
  by_cases hx : xr x ec
  · obtain ⟨n, rfl, hn⟩ := xr_nat hx (by omega)
    by_cases hy : xr y tc
    · obtain ⟨k, rfl, hk⟩ := xr_nat hy (by omega)
      exact (fn_soon hH k_am k_aw m1 w4 hec w1 htc w3 hnc hcr (ho n (by omega)) ((hm n (by omega)).1 hn) (hTx k hk) (hcl k hk) hn hk hd).mono (fun u hu => .inr ⟨n, k, ⟨rfl, rfl⟩, ⟨hn, hk⟩, hu⟩)
    · exact (fn_soonT hH k_am k_aw m1 w4 hec w1 htc hn hy (by omega)).mono (fun u hu => .inl ⟨fun h => hy h.2, hu⟩)
  · exact (fn_soonE hH k_am k_aw m1 w4 hec w1 htc hx (by omega)).mono (fun u hu => .inl ⟨fun h => hx h.1, hu⟩)
end YTA
