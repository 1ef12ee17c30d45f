/-! BY HAND: does a line hold -/
section HSL
variable {d k pc ck sk : Nat} {L : eg_Ls} {st r : List Value} {G : eg_G} {Z : eg_O → Prop}
theorem hs_iincm {i p a : Nat} (hc : hs_ii k pc = some (i, -1, p)) (hv : eg_ld L i = some (.int (Int32.ofNat a))) (hl : i < L.length) (ha : 1 ≤ a) (h : et_go none d k p (eg_s1 L i (.int (Int32.ofNat (a - 1)))) st G ck sk Z) : et_go none d k pc L st G ck sk Z := by
  rw [← hs_nsub ha] at h
  refine hs_iinc hc hv hl ?_
  rw [show Int32.ofInt (-1) = -(Int32.ofNat 1) from by decide +kernel, ← Int32.sub_eq_add_neg]
  exact h
def hs_lk (k pc : Nat) : Option (Int64 × Nat) := match eg_cd k pc with
  | some (.lconst n, _) => some (Int64.ofNat n, pc + 1)
  | some (.ldc2_w i, _) => (match (eg_kT.getD (eg_mo k) []).lookup i with
    | some (.long x) => some (x, pc + 3)
    | _ => none)
  | _ => none
theorem hs_lcon {x : Int64} {p : Nat} (hc : hs_lk k pc = some (x, p)) (h : et_go none d k p L (.long x :: st) G ck sk Z) : et_go none d k pc L st G ck sk Z := by
  unfold hs_lk at hc
  split at hc
  · rename_i e
    cases hc
    exact hs_st e rfl rfl h
  · rename_i i _ e
    split at hc
    · rename_i x' hn
      cases hc
      exact hs_st e rfl (by
        show eg_kst (eg_mo k) i 3 2 pc L st G ck sk = _
        unfold eg_kst
        rw [hn]
        rfl) h
    · cases hc
  · cases hc
theorem hs_i2l {p : Nat} {x : Int32} (hc : hs_o k pc = some (.i2l, p)) (h : et_go none d k p L (.long x.toInt64 :: r) G ck sk Z) : et_go none d k pc L (.int x :: r) G ck sk Z := by
  obtain ⟨e, rfl⟩ := hs_oc hc
  exact hs_st e rfl rfl h
theorem hs_l2i {p : Nat} {x : Int64} (hc : hs_o k pc = some (.l2i, p)) (h : et_go none d k p L (.int x.toInt32 :: r) G ck sk Z) : et_go none d k pc L (.long x :: r) G ck sk Z := by
  obtain ⟨e, rfl⟩ := hs_oc hc
  exact hs_st e rfl rfl h
theorem hs_ladd {p : Nat} {x y : Int64} (hc : hs_o k pc = some (.ladd, p)) (h : et_go none d k p L (.long (x + y) :: r) G ck sk Z) : et_go none d k pc L (.long y :: .long x :: r) G ck sk Z := by
  obtain ⟨e, rfl⟩ := hs_oc hc
  exact hs_st e rfl rfl h
theorem hs_lsub {p : Nat} {x y : Int64} (hc : hs_o k pc = some (.lsub, p)) (h : et_go none d k p L (.long (x - y) :: r) G ck sk Z) : et_go none d k pc L (.long y :: .long x :: r) G ck sk Z := by
  obtain ⟨e, rfl⟩ := hs_oc hc
  exact hs_st e rfl rfl h
theorem hs_lmul {p : Nat} {x y : Int64} (hc : hs_o k pc = some (.lmul, p)) (h : et_go none d k p L (.long (x * y) :: r) G ck sk Z) : et_go none d k pc L (.long y :: .long x :: r) G ck sk Z := by
  obtain ⟨e, rfl⟩ := hs_oc hc
  exact hs_st e rfl rfl h
theorem hs_ldiv {p : Nat} {x y : Int64} (hc : hs_o k pc = some (.ldiv, p)) (hy : ¬ y = 0) (h : et_go none d k p L (.long (x / y) :: r) G ck sk Z) : et_go none d k pc L (.long y :: .long x :: r) G ck sk Z := by
  obtain ⟨e, rfl⟩ := hs_oc hc
  exact hs_st e rfl (by
    show (if y = 0 then none else _) = _
    rw [if_neg hy]) h
theorem hs_lcmp {p : Nat} {x y : Int64} (hc : hs_o k pc = some (.lcmp, p)) (h : et_go none d k p L (.int (lg_cmp x y) :: r) G ck sk Z) : et_go none d k pc L (.long y :: .long x :: r) G ck sk Z := by
  obtain ⟨e, rfl⟩ := hs_oc hc
  exact hs_st e rfl rfl h
end HSL
def hv_c (V : Nat → Int64) : eg_C := .inl (2, (400, .inr (.inl V)))
section RPJ
variable {d am aw va fa tg : Nat} {G : eg_G} {F : Nat → Value} {W FA TG : Nat → Int32} {V : Nat → Int64} {Z : eg_O → Prop}
def rp_V (G : eg_G) (am aw va fa tg : Nat) (F : Nat → Value) (FA TG : Nat → Int32) : Prop := hm_ok G am aw ∧ F 1 = .ref aw ∧ (F 17 = .ref va ∧ va ≠ am ∧ va ≠ aw ∧ eg_NC ≤ va ∧ va < G.2) ∧ (F 14 = .ref fa ∧ fa ≠ am ∧ fa ≠ aw ∧ fa ≠ va ∧ fa < G.2 ∧ eg_at G fa = .inl (0, (5, .inl FA))) ∧ (F 15 = .ref tg ∧ tg ≠ am ∧ tg ≠ aw ∧ tg ≠ va ∧ tg < G.2 ∧ eg_at G tg = .inl (3, (2, .inl TG))) ∧ ∃ li, F 16 = .int li
theorem hm_okv (hV : rp_V G am aw va fa tg F FA TG) : hm_ok (eg_u G va (hv_c V)) am aw := hV.1
theorem hv_ld {k pc ck sk p n : Nat} {L : eg_Ls} {r : List Value} (hV : rp_V G am aw va fa tg F FA TG) (hc : hs_o k pc = some (.laload, p)) (hn : n < 400) (h : et_go none d k p L (.long (V n) :: r) (hm_H (eg_u G va (hv_c V)) am aw F W) ck sk Z) : et_go none d k pc L (.int (Int32.ofNat n) :: .ref va :: r) (hm_H (eg_u G va (hv_c V)) am aw F W) ck sk Z :=
  hs_lald hc ((hm_o hV.2.2.1.2.1 hV.2.2.1.2.2.1).trans (et_at_us hV.2.2.1.2.2.2.1)) hV.2.2.1.2.2.2.2 (by decide) hn h
theorem hv_st {k pc ck sk p n : Nat} {x : Int64} {L : eg_Ls} {r : List Value} (hV : rp_V G am aw va fa tg F FA TG) (hc : hs_o k pc = some (.lastore, p)) (hn : n < 400) (h : et_go none d k p L r (hm_H (eg_u G va (hv_c (vp_updL V n x))) am aw F W) ck sk Z) : et_go none d k pc L (.long x :: .int (Int32.ofNat n) :: .ref va :: r) (hm_H (eg_u G va (hv_c V)) am aw F W) ck sk Z := by
  refine hs_last hc ((hm_o hV.2.2.1.2.1 hV.2.2.1.2.2.1).trans (et_at_us hV.2.2.1.2.2.2.1)) ⟨hV.2.2.1.2.2.2.1, hV.2.2.1.2.2.2.2⟩ (by decide) hn ?_
  rw [hm_ex hV.2.2.1.2.1 hV.2.2.1.2.2.1, hm_uu]
  exact h
theorem hv_fa {k pc ck sk p n : Nat} {L : eg_Ls} {r : List Value} (hV : rp_V G am aw va fa tg F FA TG) (hc : hs_o k pc = some (.iaload, p)) (hn : n < 5) (h : et_go none d k p L (.int (FA n) :: r) (hm_H (eg_u G va (hv_c V)) am aw F W) ck sk Z) : et_go none d k pc L (.int (Int32.ofNat n) :: .ref fa :: r) (hm_H (eg_u G va (hv_c V)) am aw F W) ck sk Z := by
  obtain ⟨-, -, -, ⟨-, h1, h2, h3, h4, h5⟩, -⟩ := hV
  exact hs_iald hc ((hm_o h1 h2).trans ((et_at_u h3).trans h5)) h4 (by decide) hn h
theorem hv_tg {k pc ck sk p n : Nat} {L : eg_Ls} {r : List Value} (hV : rp_V G am aw va fa tg F FA TG) (hc : hs_o k pc = some (.baload, p)) (hn : n < 2) (h : et_go none d k p L (.int (TG n) :: r) (hm_H (eg_u G va (hv_c V)) am aw F W) ck sk Z) : et_go none d k pc L (.int (Int32.ofNat n) :: .ref tg :: r) (hm_H (eg_u G va (hv_c V)) am aw F W) ck sk Z := by
  obtain ⟨-, -, -, -, ⟨-, h1, h2, h3, h4, h5⟩, -⟩ := hV
  exact hs_zald hc ((hm_o h1 h2).trans ((et_at_u h3).trans h5)) h4 (by decide) hn h
theorem hv_w {k pc ck sk p n : Nat} {x : Int32} {L : eg_Ls} {r : List Value} (hV : rp_V G am aw va fa tg F FA TG) (hc : hs_o k pc = some (.iaload, p)) (hn : n < 12741) (hx : W n = x) (h : et_go none d k p L (.int x :: r) (hm_H (eg_u G va (hv_c V)) am aw F W) ck sk Z) : et_go none d k pc L (.int (Int32.ofNat n) :: .ref aw :: r) (hm_H (eg_u G va (hv_c V)) am aw F W) ck sk Z :=
  hm_rwv (show hm_ok (eg_u G va (hv_c V)) am aw from hV.1) hc hn hx h
theorem rp_hlA (hV : rp_V G am aw va fa tg F FA TG) {t n tp ky i j : Nat} (hj : j ≤ 4 ∨ (10 ≤ j ∧ j ≤ 13)) (hx : W (126 + 841 * t + 41 + 2 * i) = Int32.ofNat j) (ht : t < 14) (hi : i < 400) (hp : tp ≤ 399) {x6 x7 x8 x9 x10 x11 x12 : Option Value} (h : ∀ (V : Nat → Int64) (x6 x7 x8 x9 x10 x11 x12 : Option Value), et_go none (d + 1) 216 20 [some (.ref am), some (.int (Int32.ofNat t)), some (.int (Int32.ofNat n)), some (.int (Int32.ofNat (tp + 1))), some (.int (Int32.ofNat ky)), some (.int (Int32.ofNat (i + 1))), x6, x7, x8, x9, x10, x11, x12] [] (hm_H (eg_u G va (hv_c V)) am aw F W) 0 0 Z) : et_go none (d + 1) 216 34 [some (.ref am), some (.int (Int32.ofNat t)), some (.int (Int32.ofNat n)), some (.int (Int32.ofNat tp)), some (.int (Int32.ofNat ky)), some (.int (Int32.ofNat i)), x6, x7, x8, x9, x10, x11, x12] [] (hm_H (eg_u G va (hv_c V)) am aw F W) 0 0 Z := by
  obtain ⟨li, hli⟩ := hV.2.2.2.2.2
  refine hs_aload (i := 0) (p := 35) (by decide +kernel) rfl ?_
  refine hm_get (hm_okv hV) (f := 1) (p := 38) (by decide +kernel) rfl hV.2.1 ?_
  refine hs_iload (i := 1) (p := 39) (by decide +kernel) rfl ?_
  refine hs_calls (mi := 186) (na := 1) (lk := 13) (lm := 1) (by decide +kernel) rfl rfl rfl rfl rfl rfl rfl (rp_textAt (hs_cb ?_))
  show et_go none _ 216 42 _ [.int (Int32.ofNat (126 + 841 * t)), .ref aw] _ _ _ _
  refine hs_k (x := Int32.ofNat 41) (p := 44) (by decide +kernel) ?_
  refine hs_iaddn (p := 45) (by decide +kernel) ?_
  refine hs_k (x := Int32.ofNat 2) (p := 46) (by decide +kernel) ?_
  refine hs_iload (i := 5) (p := 48) (by decide +kernel) rfl ?_
  refine hs_imuln (p := 49) (by decide +kernel) ?_
  refine hs_iaddn (p := 50) (by decide +kernel) ?_
  refine hv_w hV (p := 51) (x := Int32.ofNat j) (by decide +kernel) (by omega) hx ?_
  refine hs_istore (i := 6) (p := 53) (by decide +kernel) (Nat.le_of_ble_eq_true rfl) ?_
  refine hs_aload (i := 0) (p := 54) (by decide +kernel) rfl ?_
  refine hm_get (hm_okv hV) (f := 1) (p := 57) (by decide +kernel) rfl hV.2.1 ?_
  refine hs_iload (i := 1) (p := 58) (by decide +kernel) rfl ?_
  refine hs_calls (mi := 186) (na := 1) (lk := 13) (lm := 1) (by decide +kernel) rfl rfl rfl rfl rfl rfl rfl (rp_textAt (hs_cb ?_))
  show et_go none _ 216 61 _ [.int (Int32.ofNat (126 + 841 * t)), .ref aw] _ _ _ _
  refine hs_k (x := Int32.ofNat 41) (p := 63) (by decide +kernel) ?_
  refine hs_iaddn (p := 64) (by decide +kernel) ?_
  refine hs_k (x := Int32.ofNat 2) (p := 65) (by decide +kernel) ?_
  refine hs_iload (i := 5) (p := 67) (by decide +kernel) rfl ?_
  refine hs_imuln (p := 68) (by decide +kernel) ?_
  refine hs_iaddn (p := 69) (by decide +kernel) ?_
  refine hs_k (x := Int32.ofNat 1) (p := 70) (by decide +kernel) ?_
  refine hs_iaddn (p := 71) (by decide +kernel) ?_
  refine hv_w hV (p := 72) (x := (W (126 + 841 * t + 41 + 2 * i + 1))) (by decide +kernel) (by omega) rfl ?_
  refine hs_istore (i := 7) (p := 74) (by decide +kernel) (Nat.le_of_ble_eq_true rfl) ?_
  refine hs_iload (i := 6) (p := 76) (by decide +kernel) rfl ?_
  refine hs_k (x := Int32.ofNat 13) (p := 78) (by decide +kernel) ?_
  refine hs_br2n (c := .gt) (t := 191) (f := 81) (by decide +kernel) (by omega) (by omega) (fun (c78 : 13 < j) => ?_) (fun (c78 : ¬ (13 < j)) => ?_)
  · exact absurd c78 (by omega)
  · refine hs_iload (i := 6) (p := 83) (by decide +kernel) rfl ?_
    refine hs_k (x := Int32.ofNat 10) (p := 85) (by decide +kernel) ?_
    refine hs_br2n (c := .lt) (t := 135) (f := 88) (by decide +kernel) (by omega) (by omega) (fun (c85 : j < 10) => ?_) (fun (c85 : ¬ (j < 10)) => ?_)
    · refine hs_k (x := Int32.ofNat 0) (p := 136) (by decide +kernel) ?_
      refine hs_istore (i := 8) (p := 138) (by decide +kernel) (Nat.le_of_ble_eq_true rfl) ?_
      refine hs_aload (i := 0) (p := 139) (by decide +kernel) rfl ?_
      refine hm_get (hm_okv hV) (f := 17) (p := 142) (by decide +kernel) rfl hV.2.2.1.1 ?_
      refine hs_iload (i := 3) (p := 143) (by decide +kernel) rfl ?_
      refine hs_iload (i := 6) (p := 145) (by decide +kernel) rfl ?_
      refine hs_k (x := Int32.ofNat 13) (p := 147) (by decide +kernel) ?_
      refine hs_br2n (c := .ne) (t := 156) (f := 150) (by decide +kernel) (by omega) (by omega) (fun (c147 : ¬ j = 13) => ?_) (fun (c147 : ¬ (¬ j = 13)) => ?_)
      · refine hs_iload (i := 6) (p := 158) (by decide +kernel) rfl ?_
        refine hs_k (x := Int32.ofNat 10) (p := 160) (by decide +kernel) ?_
        refine hs_br2n (c := .ge) (t := 174) (f := 163) (by decide +kernel) (by omega) (by omega) (fun (c160 : 10 ≤ j) => ?_) (fun (c160 : ¬ (10 ≤ j)) => ?_)
        · refine hs_iload (i := 8) (p := 176) (by decide +kernel) rfl ?_
          refine hs_if1 (c := .eq) (t := 183) (f := 179) (by decide +kernel) (show Int32.ofNat 0 = 0 by decide) ?_
          refine hs_lcon (x := (Int64.ofNat 0)) (p := 184) (by decide +kernel) ?_
          refine hv_st hV (p := 185) (by decide +kernel) (by omega) ?_
          refine hs_iinc1 (i := 3) (p := 188) (by decide +kernel) rfl (Nat.le_of_ble_eq_true rfl) ?_
          refine hs_goto (p := 378) (by decide +kernel) ?_
          refine hs_iinc1 (i := 5) (p := 381) (by decide +kernel) rfl (Nat.le_of_ble_eq_true rfl) ?_
          refine hs_goto (p := 20) (by decide +kernel) ?_
          exact h _ _ _ _ _ _ _ _
        · refine hs_aload (i := 0) (p := 164) (by decide +kernel) rfl ?_
          refine hm_get (hm_okv hV) (f := 14) (p := 167) (by decide +kernel) rfl hV.2.2.2.1.1 ?_
          refine hs_iload (i := 6) (p := 169) (by decide +kernel) rfl ?_
          refine hv_fa hV (p := 170) (by decide +kernel) (by omega) ?_
          refine hs_i2l (p := 171) (by decide +kernel) ?_
          refine hs_goto (p := 184) (by decide +kernel) ?_
          refine hv_st hV (p := 185) (by decide +kernel) (by omega) ?_
          refine hs_iinc1 (i := 3) (p := 188) (by decide +kernel) rfl (Nat.le_of_ble_eq_true rfl) ?_
          refine hs_goto (p := 378) (by decide +kernel) ?_
          refine hs_iinc1 (i := 5) (p := 381) (by decide +kernel) rfl (Nat.le_of_ble_eq_true rfl) ?_
          refine hs_goto (p := 20) (by decide +kernel) ?_
          exact h _ _ _ _ _ _ _ _
      · refine hs_iload (i := 7) (p := 152) (by decide +kernel) rfl ?_
        refine hs_i2l (p := 153) (by decide +kernel) ?_
        refine hs_goto (p := 184) (by decide +kernel) ?_
        refine hv_st hV (p := 185) (by decide +kernel) (by omega) ?_
        refine hs_iinc1 (i := 3) (p := 188) (by decide +kernel) rfl (Nat.le_of_ble_eq_true rfl) ?_
        refine hs_goto (p := 378) (by decide +kernel) ?_
        refine hs_iinc1 (i := 5) (p := 381) (by decide +kernel) rfl (Nat.le_of_ble_eq_true rfl) ?_
        refine hs_goto (p := 20) (by decide +kernel) ?_
        exact h _ _ _ _ _ _ _ _
    · refine hs_iload (i := 6) (p := 90) (by decide +kernel) rfl ?_
      refine hs_k (x := Int32.ofNat 13) (p := 92) (by decide +kernel) ?_
      refine hs_br2n (c := .ge) (t := 135) (f := 95) (by decide +kernel) (by omega) (by omega) (fun (c92 : 13 ≤ j) => ?_) (fun (c92 : ¬ (13 ≤ j)) => ?_)
      · refine hs_k (x := Int32.ofNat 0) (p := 136) (by decide +kernel) ?_
        refine hs_istore (i := 8) (p := 138) (by decide +kernel) (Nat.le_of_ble_eq_true rfl) ?_
        refine hs_aload (i := 0) (p := 139) (by decide +kernel) rfl ?_
        refine hm_get (hm_okv hV) (f := 17) (p := 142) (by decide +kernel) rfl hV.2.2.1.1 ?_
        refine hs_iload (i := 3) (p := 143) (by decide +kernel) rfl ?_
        refine hs_iload (i := 6) (p := 145) (by decide +kernel) rfl ?_
        refine hs_k (x := Int32.ofNat 13) (p := 147) (by decide +kernel) ?_
        refine hs_br2n (c := .ne) (t := 156) (f := 150) (by decide +kernel) (by omega) (by omega) (fun (c147 : ¬ j = 13) => ?_) (fun (c147 : ¬ (¬ j = 13)) => ?_)
        · refine hs_iload (i := 6) (p := 158) (by decide +kernel) rfl ?_
          refine hs_k (x := Int32.ofNat 10) (p := 160) (by decide +kernel) ?_
          refine hs_br2n (c := .ge) (t := 174) (f := 163) (by decide +kernel) (by omega) (by omega) (fun (c160 : 10 ≤ j) => ?_) (fun (c160 : ¬ (10 ≤ j)) => ?_)
          · refine hs_iload (i := 8) (p := 176) (by decide +kernel) rfl ?_
            refine hs_if1 (c := .eq) (t := 183) (f := 179) (by decide +kernel) (show Int32.ofNat 0 = 0 by decide) ?_
            refine hs_lcon (x := (Int64.ofNat 0)) (p := 184) (by decide +kernel) ?_
            refine hv_st hV (p := 185) (by decide +kernel) (by omega) ?_
            refine hs_iinc1 (i := 3) (p := 188) (by decide +kernel) rfl (Nat.le_of_ble_eq_true rfl) ?_
            refine hs_goto (p := 378) (by decide +kernel) ?_
            refine hs_iinc1 (i := 5) (p := 381) (by decide +kernel) rfl (Nat.le_of_ble_eq_true rfl) ?_
            refine hs_goto (p := 20) (by decide +kernel) ?_
            exact h _ _ _ _ _ _ _ _
          · refine hs_aload (i := 0) (p := 164) (by decide +kernel) rfl ?_
            refine hm_get (hm_okv hV) (f := 14) (p := 167) (by decide +kernel) rfl hV.2.2.2.1.1 ?_
            refine hs_iload (i := 6) (p := 169) (by decide +kernel) rfl ?_
            refine hv_fa hV (p := 170) (by decide +kernel) (by omega) ?_
            refine hs_i2l (p := 171) (by decide +kernel) ?_
            refine hs_goto (p := 184) (by decide +kernel) ?_
            refine hv_st hV (p := 185) (by decide +kernel) (by omega) ?_
            refine hs_iinc1 (i := 3) (p := 188) (by decide +kernel) rfl (Nat.le_of_ble_eq_true rfl) ?_
            refine hs_goto (p := 378) (by decide +kernel) ?_
            refine hs_iinc1 (i := 5) (p := 381) (by decide +kernel) rfl (Nat.le_of_ble_eq_true rfl) ?_
            refine hs_goto (p := 20) (by decide +kernel) ?_
            exact h _ _ _ _ _ _ _ _
        · refine hs_iload (i := 7) (p := 152) (by decide +kernel) rfl ?_
          refine hs_i2l (p := 153) (by decide +kernel) ?_
          refine hs_goto (p := 184) (by decide +kernel) ?_
          refine hv_st hV (p := 185) (by decide +kernel) (by omega) ?_
          refine hs_iinc1 (i := 3) (p := 188) (by decide +kernel) rfl (Nat.le_of_ble_eq_true rfl) ?_
          refine hs_goto (p := 378) (by decide +kernel) ?_
          refine hs_iinc1 (i := 5) (p := 381) (by decide +kernel) rfl (Nat.le_of_ble_eq_true rfl) ?_
          refine hs_goto (p := 20) (by decide +kernel) ?_
          exact h _ _ _ _ _ _ _ _
      · refine hs_iload (i := 6) (p := 97) (by decide +kernel) rfl ?_
        refine hs_k (x := Int32.ofNat 12) (p := 99) (by decide +kernel) ?_
        refine hs_br2n (c := .ne) (t := 118) (f := 102) (by decide +kernel) (by omega) (by omega) (fun (c99 : ¬ j = 12) => ?_) (fun (c99 : ¬ (¬ j = 12)) => ?_)
        · refine hs_aload (i := 0) (p := 119) (by decide +kernel) rfl ?_
          refine hm_get (hm_okv hV) (f := 15) (p := 122) (by decide +kernel) rfl hV.2.2.2.2.1.1 ?_
          refine hs_iload (i := 6) (p := 124) (by decide +kernel) rfl ?_
          refine hs_k (x := Int32.ofNat 10) (p := 126) (by decide +kernel) ?_
          refine hs_isubn (p := 127) (by decide +kernel) (by omega) ?_
          refine hv_tg hV (p := 128) (by decide +kernel) (by omega) ?_
          refine hs_br1 (c := .eq) (t := 135) (f := 131) (by decide +kernel) (fun (c128 : (TG (j - 10)) = 0) => ?_) (fun (c128 : ¬ ((TG (j - 10)) = 0)) => ?_)
          · refine hs_k (x := Int32.ofNat 0) (p := 136) (by decide +kernel) ?_
            refine hs_istore (i := 8) (p := 138) (by decide +kernel) (Nat.le_of_ble_eq_true rfl) ?_
            refine hs_aload (i := 0) (p := 139) (by decide +kernel) rfl ?_
            refine hm_get (hm_okv hV) (f := 17) (p := 142) (by decide +kernel) rfl hV.2.2.1.1 ?_
            refine hs_iload (i := 3) (p := 143) (by decide +kernel) rfl ?_
            refine hs_iload (i := 6) (p := 145) (by decide +kernel) rfl ?_
            refine hs_k (x := Int32.ofNat 13) (p := 147) (by decide +kernel) ?_
            refine hs_br2n (c := .ne) (t := 156) (f := 150) (by decide +kernel) (by omega) (by omega) (fun (c147 : ¬ j = 13) => ?_) (fun (c147 : ¬ (¬ j = 13)) => ?_)
            · refine hs_iload (i := 6) (p := 158) (by decide +kernel) rfl ?_
              refine hs_k (x := Int32.ofNat 10) (p := 160) (by decide +kernel) ?_
              refine hs_br2n (c := .ge) (t := 174) (f := 163) (by decide +kernel) (by omega) (by omega) (fun (c160 : 10 ≤ j) => ?_) (fun (c160 : ¬ (10 ≤ j)) => ?_)
              · refine hs_iload (i := 8) (p := 176) (by decide +kernel) rfl ?_
                refine hs_if1 (c := .eq) (t := 183) (f := 179) (by decide +kernel) (show Int32.ofNat 0 = 0 by decide) ?_
                refine hs_lcon (x := (Int64.ofNat 0)) (p := 184) (by decide +kernel) ?_
                refine hv_st hV (p := 185) (by decide +kernel) (by omega) ?_
                refine hs_iinc1 (i := 3) (p := 188) (by decide +kernel) rfl (Nat.le_of_ble_eq_true rfl) ?_
                refine hs_goto (p := 378) (by decide +kernel) ?_
                refine hs_iinc1 (i := 5) (p := 381) (by decide +kernel) rfl (Nat.le_of_ble_eq_true rfl) ?_
                refine hs_goto (p := 20) (by decide +kernel) ?_
                exact h _ _ _ _ _ _ _ _
              · refine hs_aload (i := 0) (p := 164) (by decide +kernel) rfl ?_
                refine hm_get (hm_okv hV) (f := 14) (p := 167) (by decide +kernel) rfl hV.2.2.2.1.1 ?_
                refine hs_iload (i := 6) (p := 169) (by decide +kernel) rfl ?_
                refine hv_fa hV (p := 170) (by decide +kernel) (by omega) ?_
                refine hs_i2l (p := 171) (by decide +kernel) ?_
                refine hs_goto (p := 184) (by decide +kernel) ?_
                refine hv_st hV (p := 185) (by decide +kernel) (by omega) ?_
                refine hs_iinc1 (i := 3) (p := 188) (by decide +kernel) rfl (Nat.le_of_ble_eq_true rfl) ?_
                refine hs_goto (p := 378) (by decide +kernel) ?_
                refine hs_iinc1 (i := 5) (p := 381) (by decide +kernel) rfl (Nat.le_of_ble_eq_true rfl) ?_
                refine hs_goto (p := 20) (by decide +kernel) ?_
                exact h _ _ _ _ _ _ _ _
            · refine hs_iload (i := 7) (p := 152) (by decide +kernel) rfl ?_
              refine hs_i2l (p := 153) (by decide +kernel) ?_
              refine hs_goto (p := 184) (by decide +kernel) ?_
              refine hv_st hV (p := 185) (by decide +kernel) (by omega) ?_
              refine hs_iinc1 (i := 3) (p := 188) (by decide +kernel) rfl (Nat.le_of_ble_eq_true rfl) ?_
              refine hs_goto (p := 378) (by decide +kernel) ?_
              refine hs_iinc1 (i := 5) (p := 381) (by decide +kernel) rfl (Nat.le_of_ble_eq_true rfl) ?_
              refine hs_goto (p := 20) (by decide +kernel) ?_
              exact h _ _ _ _ _ _ _ _
          · refine hs_k (x := Int32.ofNat 1) (p := 132) (by decide +kernel) ?_
            refine hs_goto (p := 136) (by decide +kernel) ?_
            refine hs_istore (i := 8) (p := 138) (by decide +kernel) (Nat.le_of_ble_eq_true rfl) ?_
            refine hs_aload (i := 0) (p := 139) (by decide +kernel) rfl ?_
            refine hm_get (hm_okv hV) (f := 17) (p := 142) (by decide +kernel) rfl hV.2.2.1.1 ?_
            refine hs_iload (i := 3) (p := 143) (by decide +kernel) rfl ?_
            refine hs_iload (i := 6) (p := 145) (by decide +kernel) rfl ?_
            refine hs_k (x := Int32.ofNat 13) (p := 147) (by decide +kernel) ?_
            refine hs_br2n (c := .ne) (t := 156) (f := 150) (by decide +kernel) (by omega) (by omega) (fun (c147 : ¬ j = 13) => ?_) (fun (c147 : ¬ (¬ j = 13)) => ?_)
            · refine hs_iload (i := 6) (p := 158) (by decide +kernel) rfl ?_
              refine hs_k (x := Int32.ofNat 10) (p := 160) (by decide +kernel) ?_
              refine hs_br2n (c := .ge) (t := 174) (f := 163) (by decide +kernel) (by omega) (by omega) (fun (c160 : 10 ≤ j) => ?_) (fun (c160 : ¬ (10 ≤ j)) => ?_)
              · refine hs_iload (i := 8) (p := 176) (by decide +kernel) rfl ?_
                refine hs_if0 (c := .eq) (t := 183) (f := 179) (by decide +kernel) (show ¬ (Int32.ofNat 1 = 0) by decide) ?_
                refine hs_lcon (x := (Int64.ofNat 1)) (p := 180) (by decide +kernel) ?_
                refine hs_goto (p := 184) (by decide +kernel) ?_
                refine hv_st hV (p := 185) (by decide +kernel) (by omega) ?_
                refine hs_iinc1 (i := 3) (p := 188) (by decide +kernel) rfl (Nat.le_of_ble_eq_true rfl) ?_
                refine hs_goto (p := 378) (by decide +kernel) ?_
                refine hs_iinc1 (i := 5) (p := 381) (by decide +kernel) rfl (Nat.le_of_ble_eq_true rfl) ?_
                refine hs_goto (p := 20) (by decide +kernel) ?_
                exact h _ _ _ _ _ _ _ _
              · refine hs_aload (i := 0) (p := 164) (by decide +kernel) rfl ?_
                refine hm_get (hm_okv hV) (f := 14) (p := 167) (by decide +kernel) rfl hV.2.2.2.1.1 ?_
                refine hs_iload (i := 6) (p := 169) (by decide +kernel) rfl ?_
                refine hv_fa hV (p := 170) (by decide +kernel) (by omega) ?_
                refine hs_i2l (p := 171) (by decide +kernel) ?_
                refine hs_goto (p := 184) (by decide +kernel) ?_
                refine hv_st hV (p := 185) (by decide +kernel) (by omega) ?_
                refine hs_iinc1 (i := 3) (p := 188) (by decide +kernel) rfl (Nat.le_of_ble_eq_true rfl) ?_
                refine hs_goto (p := 378) (by decide +kernel) ?_
                refine hs_iinc1 (i := 5) (p := 381) (by decide +kernel) rfl (Nat.le_of_ble_eq_true rfl) ?_
                refine hs_goto (p := 20) (by decide +kernel) ?_
                exact h _ _ _ _ _ _ _ _
            · refine hs_iload (i := 7) (p := 152) (by decide +kernel) rfl ?_
              refine hs_i2l (p := 153) (by decide +kernel) ?_
              refine hs_goto (p := 184) (by decide +kernel) ?_
              refine hv_st hV (p := 185) (by decide +kernel) (by omega) ?_
              refine hs_iinc1 (i := 3) (p := 188) (by decide +kernel) rfl (Nat.le_of_ble_eq_true rfl) ?_
              refine hs_goto (p := 378) (by decide +kernel) ?_
              refine hs_iinc1 (i := 5) (p := 381) (by decide +kernel) rfl (Nat.le_of_ble_eq_true rfl) ?_
              refine hs_goto (p := 20) (by decide +kernel) ?_
              exact h _ _ _ _ _ _ _ _
        · refine hs_aload (i := 0) (p := 103) (by decide +kernel) rfl ?_
          refine hm_get (hm_okv hV) (f := 16) (p := 106) (by decide +kernel) rfl hli ?_
          refine hs_iload (i := 7) (p := 108) (by decide +kernel) rfl ?_
          refine hs_ishr (p := 109) (by decide +kernel) ?_
          refine hs_k (x := Int32.ofNat 1) (p := 110) (by decide +kernel) ?_
          refine hs_iand (p := 111) (by decide +kernel) ?_
          refine hs_k (x := Int32.ofNat 1) (p := 112) (by decide +kernel) ?_
          refine hs_br2 (c := .ne) (t := 135) (f := 115) (by decide +kernel) (fun (c112 : ¬ ((li >>> ((W (126 + 841 * t + 41 + 2 * i + 1)) &&& 31)) &&& Int32.ofNat 1) = Int32.ofNat 1) => ?_) (fun (c112 : ¬ (¬ ((li >>> ((W (126 + 841 * t + 41 + 2 * i + 1)) &&& 31)) &&& Int32.ofNat 1) = Int32.ofNat 1)) => ?_)
          · refine hs_k (x := Int32.ofNat 0) (p := 136) (by decide +kernel) ?_
            refine hs_istore (i := 8) (p := 138) (by decide +kernel) (Nat.le_of_ble_eq_true rfl) ?_
            refine hs_aload (i := 0) (p := 139) (by decide +kernel) rfl ?_
            refine hm_get (hm_okv hV) (f := 17) (p := 142) (by decide +kernel) rfl hV.2.2.1.1 ?_
            refine hs_iload (i := 3) (p := 143) (by decide +kernel) rfl ?_
            refine hs_iload (i := 6) (p := 145) (by decide +kernel) rfl ?_
            refine hs_k (x := Int32.ofNat 13) (p := 147) (by decide +kernel) ?_
            refine hs_br2n (c := .ne) (t := 156) (f := 150) (by decide +kernel) (by omega) (by omega) (fun (c147 : ¬ j = 13) => ?_) (fun (c147 : ¬ (¬ j = 13)) => ?_)
            · refine hs_iload (i := 6) (p := 158) (by decide +kernel) rfl ?_
              refine hs_k (x := Int32.ofNat 10) (p := 160) (by decide +kernel) ?_
              refine hs_br2n (c := .ge) (t := 174) (f := 163) (by decide +kernel) (by omega) (by omega) (fun (c160 : 10 ≤ j) => ?_) (fun (c160 : ¬ (10 ≤ j)) => ?_)
              · refine hs_iload (i := 8) (p := 176) (by decide +kernel) rfl ?_
                refine hs_if1 (c := .eq) (t := 183) (f := 179) (by decide +kernel) (show Int32.ofNat 0 = 0 by decide) ?_
                refine hs_lcon (x := (Int64.ofNat 0)) (p := 184) (by decide +kernel) ?_
                refine hv_st hV (p := 185) (by decide +kernel) (by omega) ?_
                refine hs_iinc1 (i := 3) (p := 188) (by decide +kernel) rfl (Nat.le_of_ble_eq_true rfl) ?_
                refine hs_goto (p := 378) (by decide +kernel) ?_
                refine hs_iinc1 (i := 5) (p := 381) (by decide +kernel) rfl (Nat.le_of_ble_eq_true rfl) ?_
                refine hs_goto (p := 20) (by decide +kernel) ?_
                exact h _ _ _ _ _ _ _ _
              · refine hs_aload (i := 0) (p := 164) (by decide +kernel) rfl ?_
                refine hm_get (hm_okv hV) (f := 14) (p := 167) (by decide +kernel) rfl hV.2.2.2.1.1 ?_
                refine hs_iload (i := 6) (p := 169) (by decide +kernel) rfl ?_
                refine hv_fa hV (p := 170) (by decide +kernel) (by omega) ?_
                refine hs_i2l (p := 171) (by decide +kernel) ?_
                refine hs_goto (p := 184) (by decide +kernel) ?_
                refine hv_st hV (p := 185) (by decide +kernel) (by omega) ?_
                refine hs_iinc1 (i := 3) (p := 188) (by decide +kernel) rfl (Nat.le_of_ble_eq_true rfl) ?_
                refine hs_goto (p := 378) (by decide +kernel) ?_
                refine hs_iinc1 (i := 5) (p := 381) (by decide +kernel) rfl (Nat.le_of_ble_eq_true rfl) ?_
                refine hs_goto (p := 20) (by decide +kernel) ?_
                exact h _ _ _ _ _ _ _ _
            · refine hs_iload (i := 7) (p := 152) (by decide +kernel) rfl ?_
              refine hs_i2l (p := 153) (by decide +kernel) ?_
              refine hs_goto (p := 184) (by decide +kernel) ?_
              refine hv_st hV (p := 185) (by decide +kernel) (by omega) ?_
              refine hs_iinc1 (i := 3) (p := 188) (by decide +kernel) rfl (Nat.le_of_ble_eq_true rfl) ?_
              refine hs_goto (p := 378) (by decide +kernel) ?_
              refine hs_iinc1 (i := 5) (p := 381) (by decide +kernel) rfl (Nat.le_of_ble_eq_true rfl) ?_
              refine hs_goto (p := 20) (by decide +kernel) ?_
              exact h _ _ _ _ _ _ _ _
          · refine hs_goto (p := 131) (by decide +kernel) ?_
            refine hs_k (x := Int32.ofNat 1) (p := 132) (by decide +kernel) ?_
            refine hs_goto (p := 136) (by decide +kernel) ?_
            refine hs_istore (i := 8) (p := 138) (by decide +kernel) (Nat.le_of_ble_eq_true rfl) ?_
            refine hs_aload (i := 0) (p := 139) (by decide +kernel) rfl ?_
            refine hm_get (hm_okv hV) (f := 17) (p := 142) (by decide +kernel) rfl hV.2.2.1.1 ?_
            refine hs_iload (i := 3) (p := 143) (by decide +kernel) rfl ?_
            refine hs_iload (i := 6) (p := 145) (by decide +kernel) rfl ?_
            refine hs_k (x := Int32.ofNat 13) (p := 147) (by decide +kernel) ?_
            refine hs_br2n (c := .ne) (t := 156) (f := 150) (by decide +kernel) (by omega) (by omega) (fun (c147 : ¬ j = 13) => ?_) (fun (c147 : ¬ (¬ j = 13)) => ?_)
            · refine hs_iload (i := 6) (p := 158) (by decide +kernel) rfl ?_
              refine hs_k (x := Int32.ofNat 10) (p := 160) (by decide +kernel) ?_
              refine hs_br2n (c := .ge) (t := 174) (f := 163) (by decide +kernel) (by omega) (by omega) (fun (c160 : 10 ≤ j) => ?_) (fun (c160 : ¬ (10 ≤ j)) => ?_)
              · refine hs_iload (i := 8) (p := 176) (by decide +kernel) rfl ?_
                refine hs_if0 (c := .eq) (t := 183) (f := 179) (by decide +kernel) (show ¬ (Int32.ofNat 1 = 0) by decide) ?_
                refine hs_lcon (x := (Int64.ofNat 1)) (p := 180) (by decide +kernel) ?_
                refine hs_goto (p := 184) (by decide +kernel) ?_
                refine hv_st hV (p := 185) (by decide +kernel) (by omega) ?_
                refine hs_iinc1 (i := 3) (p := 188) (by decide +kernel) rfl (Nat.le_of_ble_eq_true rfl) ?_
                refine hs_goto (p := 378) (by decide +kernel) ?_
                refine hs_iinc1 (i := 5) (p := 381) (by decide +kernel) rfl (Nat.le_of_ble_eq_true rfl) ?_
                refine hs_goto (p := 20) (by decide +kernel) ?_
                exact h _ _ _ _ _ _ _ _
              · refine hs_aload (i := 0) (p := 164) (by decide +kernel) rfl ?_
                refine hm_get (hm_okv hV) (f := 14) (p := 167) (by decide +kernel) rfl hV.2.2.2.1.1 ?_
                refine hs_iload (i := 6) (p := 169) (by decide +kernel) rfl ?_
                refine hv_fa hV (p := 170) (by decide +kernel) (by omega) ?_
                refine hs_i2l (p := 171) (by decide +kernel) ?_
                refine hs_goto (p := 184) (by decide +kernel) ?_
                refine hv_st hV (p := 185) (by decide +kernel) (by omega) ?_
                refine hs_iinc1 (i := 3) (p := 188) (by decide +kernel) rfl (Nat.le_of_ble_eq_true rfl) ?_
                refine hs_goto (p := 378) (by decide +kernel) ?_
                refine hs_iinc1 (i := 5) (p := 381) (by decide +kernel) rfl (Nat.le_of_ble_eq_true rfl) ?_
                refine hs_goto (p := 20) (by decide +kernel) ?_
                exact h _ _ _ _ _ _ _ _
            · refine hs_iload (i := 7) (p := 152) (by decide +kernel) rfl ?_
              refine hs_i2l (p := 153) (by decide +kernel) ?_
              refine hs_goto (p := 184) (by decide +kernel) ?_
              refine hv_st hV (p := 185) (by decide +kernel) (by omega) ?_
              refine hs_iinc1 (i := 3) (p := 188) (by decide +kernel) rfl (Nat.le_of_ble_eq_true rfl) ?_
              refine hs_goto (p := 378) (by decide +kernel) ?_
              refine hs_iinc1 (i := 5) (p := 381) (by decide +kernel) rfl (Nat.le_of_ble_eq_true rfl) ?_
              refine hs_goto (p := 20) (by decide +kernel) ?_
              exact h _ _ _ _ _ _ _ _
theorem rp_hlB (hV : rp_V G am aw va fa tg F FA TG) {t n tp ky i : Nat} (hx : W (126 + 841 * t + 41 + 2 * i) = Int32.ofNat 18) (ht : t < 14) (hi : i < 400) (hp : tp ≤ 399) (h1 : 1 ≤ tp) {x6 x7 x8 x9 x10 x11 x12 : Option Value} (h : ∀ (V : Nat → Int64) (x6 x7 x8 x9 x10 x11 x12 : Option Value), et_go none (d + 1) 216 20 [some (.ref am), some (.int (Int32.ofNat t)), some (.int (Int32.ofNat n)), some (.int (Int32.ofNat tp)), some (.int (Int32.ofNat ky)), some (.int (Int32.ofNat (i + 1))), x6, x7, x8, x9, x10, x11, x12] [] (hm_H (eg_u G va (hv_c V)) am aw F W) 0 0 Z) : et_go none (d + 1) 216 34 [some (.ref am), some (.int (Int32.ofNat t)), some (.int (Int32.ofNat n)), some (.int (Int32.ofNat tp)), some (.int (Int32.ofNat ky)), some (.int (Int32.ofNat i)), x6, x7, x8, x9, x10, x11, x12] [] (hm_H (eg_u G va (hv_c V)) am aw F W) 0 0 Z := by
  obtain ⟨li, hli⟩ := hV.2.2.2.2.2
  refine hs_aload (i := 0) (p := 35) (by decide +kernel) rfl ?_
  refine hm_get (hm_okv hV) (f := 1) (p := 38) (by decide +kernel) rfl hV.2.1 ?_
  refine hs_iload (i := 1) (p := 39) (by decide +kernel) rfl ?_
  refine hs_calls (mi := 186) (na := 1) (lk := 13) (lm := 1) (by decide +kernel) rfl rfl rfl rfl rfl rfl rfl (rp_textAt (hs_cb ?_))
  show et_go none _ 216 42 _ [.int (Int32.ofNat (126 + 841 * t)), .ref aw] _ _ _ _
  refine hs_k (x := Int32.ofNat 41) (p := 44) (by decide +kernel) ?_
  refine hs_iaddn (p := 45) (by decide +kernel) ?_
  refine hs_k (x := Int32.ofNat 2) (p := 46) (by decide +kernel) ?_
  refine hs_iload (i := 5) (p := 48) (by decide +kernel) rfl ?_
  refine hs_imuln (p := 49) (by decide +kernel) ?_
  refine hs_iaddn (p := 50) (by decide +kernel) ?_
  refine hv_w hV (p := 51) (x := Int32.ofNat 18) (by decide +kernel) (by omega) hx ?_
  refine hs_istore (i := 6) (p := 53) (by decide +kernel) (Nat.le_of_ble_eq_true rfl) ?_
  refine hs_aload (i := 0) (p := 54) (by decide +kernel) rfl ?_
  refine hm_get (hm_okv hV) (f := 1) (p := 57) (by decide +kernel) rfl hV.2.1 ?_
  refine hs_iload (i := 1) (p := 58) (by decide +kernel) rfl ?_
  refine hs_calls (mi := 186) (na := 1) (lk := 13) (lm := 1) (by decide +kernel) rfl rfl rfl rfl rfl rfl rfl (rp_textAt (hs_cb ?_))
  show et_go none _ 216 61 _ [.int (Int32.ofNat (126 + 841 * t)), .ref aw] _ _ _ _
  refine hs_k (x := Int32.ofNat 41) (p := 63) (by decide +kernel) ?_
  refine hs_iaddn (p := 64) (by decide +kernel) ?_
  refine hs_k (x := Int32.ofNat 2) (p := 65) (by decide +kernel) ?_
  refine hs_iload (i := 5) (p := 67) (by decide +kernel) rfl ?_
  refine hs_imuln (p := 68) (by decide +kernel) ?_
  refine hs_iaddn (p := 69) (by decide +kernel) ?_
  refine hs_k (x := Int32.ofNat 1) (p := 70) (by decide +kernel) ?_
  refine hs_iaddn (p := 71) (by decide +kernel) ?_
  refine hv_w hV (p := 72) (x := (W (126 + 841 * t + 41 + 2 * i + 1))) (by decide +kernel) (by omega) rfl ?_
  refine hs_istore (i := 7) (p := 74) (by decide +kernel) (Nat.le_of_ble_eq_true rfl) ?_
  refine hs_iload (i := 6) (p := 76) (by decide +kernel) rfl ?_
  refine hs_k (x := Int32.ofNat 13) (p := 78) (by decide +kernel) ?_
  refine hs_br2n (c := .gt) (t := 191) (f := 81) (by decide +kernel) (by omega) (by omega) (fun _ => ?_) (fun h => absurd (show 13 < 18 by decide) h)
  refine hs_iload (i := 6) (p := 193) (by decide +kernel) rfl ?_
  refine hs_k (x := Int32.ofNat 18) (p := 195) (by decide +kernel) ?_
  refine hs_br2n (c := .ne) (t := 219) (f := 198) (by decide +kernel) (by omega) (by omega) (fun h => absurd h (show ¬ (¬ 18 = 18) by decide)) (fun _ => ?_)
  refine hs_aload (i := 0) (p := 199) (by decide +kernel) rfl ?_
  refine hm_get (hm_okv hV) (f := 17) (p := 202) (by decide +kernel) rfl hV.2.2.1.1 ?_
  refine hs_iload (i := 3) (p := 203) (by decide +kernel) rfl ?_
  refine hs_k (x := Int32.ofNat 1) (p := 204) (by decide +kernel) ?_
  refine hs_isubn (p := 205) (by decide +kernel) (by omega) ?_
  refine hs_lcon (x := (Int64.ofNat 1)) (p := 206) (by decide +kernel) ?_
  refine hs_aload (i := 0) (p := 207) (by decide +kernel) rfl ?_
  refine hm_get (hm_okv hV) (f := 17) (p := 210) (by decide +kernel) rfl hV.2.2.1.1 ?_
  refine hs_iload (i := 3) (p := 211) (by decide +kernel) rfl ?_
  refine hs_k (x := Int32.ofNat 1) (p := 212) (by decide +kernel) ?_
  refine hs_isubn (p := 213) (by decide +kernel) (by omega) ?_
  refine hv_ld hV (p := 214) (by decide +kernel) (by omega) ?_
  refine hs_lsub (p := 215) (by decide +kernel) ?_
  refine hv_st hV (p := 216) (by decide +kernel) (by omega) ?_
  refine hs_goto (p := 378) (by decide +kernel) ?_
  refine hs_iinc1 (i := 5) (p := 381) (by decide +kernel) rfl (Nat.le_of_ble_eq_true rfl) ?_
  refine hs_goto (p := 20) (by decide +kernel) ?_
  exact h _ _ _ _ _ _ _ _
theorem rp_hlC (hV : rp_V G am aw va fa tg F FA TG) {t n tp ky i : Nat} {x : Int32} (hg : Int32.ofNat 13 < x) (hn : ¬ x = Int32.ofNat 18) (hx : W (126 + 841 * t + 41 + 2 * i) = x) (ht : t < 14) (hi : i < 400) (hp : tp ≤ 399) (h1 : 2 ≤ tp) {x6 x7 x8 x9 x10 x11 x12 : Option Value} (h : ∀ (V : Nat → Int64) (x6 x7 x8 x9 x10 x11 x12 : Option Value), et_go none (d + 1) 216 20 [some (.ref am), some (.int (Int32.ofNat t)), some (.int (Int32.ofNat n)), some (.int (Int32.ofNat (tp - 1))), some (.int (Int32.ofNat ky)), some (.int (Int32.ofNat (i + 1))), x6, x7, x8, x9, x10, x11, x12] [] (hm_H (eg_u G va (hv_c V)) am aw F W) 0 0 Z) : et_go none (d + 1) 216 34 [some (.ref am), some (.int (Int32.ofNat t)), some (.int (Int32.ofNat n)), some (.int (Int32.ofNat tp)), some (.int (Int32.ofNat ky)), some (.int (Int32.ofNat i)), x6, x7, x8, x9, x10, x11, x12] [] (hm_H (eg_u G va (hv_c V)) am aw F W) 0 0 Z := by
  obtain ⟨li, hli⟩ := hV.2.2.2.2.2
  refine hs_aload (i := 0) (p := 35) (by decide +kernel) rfl ?_
  refine hm_get (hm_okv hV) (f := 1) (p := 38) (by decide +kernel) rfl hV.2.1 ?_
  refine hs_iload (i := 1) (p := 39) (by decide +kernel) rfl ?_
  refine hs_calls (mi := 186) (na := 1) (lk := 13) (lm := 1) (by decide +kernel) rfl rfl rfl rfl rfl rfl rfl (rp_textAt (hs_cb ?_))
  show et_go none _ 216 42 _ [.int (Int32.ofNat (126 + 841 * t)), .ref aw] _ _ _ _
  refine hs_k (x := Int32.ofNat 41) (p := 44) (by decide +kernel) ?_
  refine hs_iaddn (p := 45) (by decide +kernel) ?_
  refine hs_k (x := Int32.ofNat 2) (p := 46) (by decide +kernel) ?_
  refine hs_iload (i := 5) (p := 48) (by decide +kernel) rfl ?_
  refine hs_imuln (p := 49) (by decide +kernel) ?_
  refine hs_iaddn (p := 50) (by decide +kernel) ?_
  refine hv_w hV (p := 51) (x := x) (by decide +kernel) (by omega) hx ?_
  refine hs_istore (i := 6) (p := 53) (by decide +kernel) (Nat.le_of_ble_eq_true rfl) ?_
  refine hs_aload (i := 0) (p := 54) (by decide +kernel) rfl ?_
  refine hm_get (hm_okv hV) (f := 1) (p := 57) (by decide +kernel) rfl hV.2.1 ?_
  refine hs_iload (i := 1) (p := 58) (by decide +kernel) rfl ?_
  refine hs_calls (mi := 186) (na := 1) (lk := 13) (lm := 1) (by decide +kernel) rfl rfl rfl rfl rfl rfl rfl (rp_textAt (hs_cb ?_))
  show et_go none _ 216 61 _ [.int (Int32.ofNat (126 + 841 * t)), .ref aw] _ _ _ _
  refine hs_k (x := Int32.ofNat 41) (p := 63) (by decide +kernel) ?_
  refine hs_iaddn (p := 64) (by decide +kernel) ?_
  refine hs_k (x := Int32.ofNat 2) (p := 65) (by decide +kernel) ?_
  refine hs_iload (i := 5) (p := 67) (by decide +kernel) rfl ?_
  refine hs_imuln (p := 68) (by decide +kernel) ?_
  refine hs_iaddn (p := 69) (by decide +kernel) ?_
  refine hs_k (x := Int32.ofNat 1) (p := 70) (by decide +kernel) ?_
  refine hs_iaddn (p := 71) (by decide +kernel) ?_
  refine hv_w hV (p := 72) (x := (W (126 + 841 * t + 41 + 2 * i + 1))) (by decide +kernel) (by omega) rfl ?_
  refine hs_istore (i := 7) (p := 74) (by decide +kernel) (Nat.le_of_ble_eq_true rfl) ?_
  refine hs_iload (i := 6) (p := 76) (by decide +kernel) rfl ?_
  refine hs_k (x := Int32.ofNat 13) (p := 78) (by decide +kernel) ?_
  refine hs_br2 (c := .gt) (t := 191) (f := 81) (by decide +kernel) (fun (c78 : Int32.ofNat 13 < x) => ?_) (fun (c78 : ¬ (Int32.ofNat 13 < x)) => ?_)
  · refine hs_iload (i := 6) (p := 193) (by decide +kernel) rfl ?_
    refine hs_k (x := Int32.ofNat 18) (p := 195) (by decide +kernel) ?_
    refine hs_br2 (c := .ne) (t := 219) (f := 198) (by decide +kernel) (fun (c195 : ¬ x = Int32.ofNat 18) => ?_) (fun (c195 : ¬ (¬ x = Int32.ofNat 18)) => ?_)
    · refine hs_iincm (i := 3) (p := 222) (by decide +kernel) rfl (Nat.le_of_ble_eq_true rfl) (by omega) ?_
      refine hs_aload (i := 0) (p := 223) (by decide +kernel) rfl ?_
      refine hm_get (hm_okv hV) (f := 17) (p := 226) (by decide +kernel) rfl hV.2.2.1.1 ?_
      refine hs_iload (i := 3) (p := 227) (by decide +kernel) rfl ?_
      refine hs_k (x := Int32.ofNat 1) (p := 228) (by decide +kernel) ?_
      refine hs_isubn (p := 229) (by decide +kernel) (by omega) ?_
      refine hv_ld hV (p := 230) (by decide +kernel) (by omega) ?_
      refine hs_lstore (i := 8) (p := 232) (by decide +kernel) (Nat.le_of_ble_eq_true rfl) ?_
      refine hs_aload (i := 0) (p := 233) (by decide +kernel) rfl ?_
      refine hm_get (hm_okv hV) (f := 17) (p := 236) (by decide +kernel) rfl hV.2.2.1.1 ?_
      refine hs_iload (i := 3) (p := 237) (by decide +kernel) rfl ?_
      refine hv_ld hV (p := 238) (by decide +kernel) (by omega) ?_
      refine hs_lstore (i := 10) (p := 240) (by decide +kernel) (Nat.le_of_ble_eq_true rfl) ?_
      refine hs_iload (i := 6) (p := 242) (by decide +kernel) rfl ?_
      refine hs_k (x := Int32.ofNat 16) (p := 244) (by decide +kernel) ?_
      refine hs_br2 (c := .ne) (t := 263) (f := 247) (by decide +kernel) (fun (c244 : ¬ x = Int32.ofNat 16) => ?_) (fun (c244 : ¬ (¬ x = Int32.ofNat 16)) => ?_)
      · refine hs_iload (i := 6) (p := 265) (by decide +kernel) rfl ?_
        refine hs_k (x := Int32.ofNat 17) (p := 267) (by decide +kernel) ?_
        refine hs_br2 (c := .ne) (t := 286) (f := 270) (by decide +kernel) (fun (c267 : ¬ x = Int32.ofNat 17) => ?_) (fun (c267 : ¬ (¬ x = Int32.ofNat 17)) => ?_)
        · refine hs_iload (i := 6) (p := 288) (by decide +kernel) rfl ?_
          refine hs_k (x := Int32.ofNat 19) (p := 290) (by decide +kernel) ?_
          refine hs_br2 (c := .ne) (t := 313) (f := 293) (by decide +kernel) (fun (c290 : ¬ x = Int32.ofNat 19) => ?_) (fun (c290 : ¬ (¬ x = Int32.ofNat 19)) => ?_)
          · refine hs_lload (i := 8) (p := 315) (by decide +kernel) rfl ?_
            refine hs_lload (i := 10) (p := 317) (by decide +kernel) rfl ?_
            refine hs_ladd (p := 318) (by decide +kernel) ?_
            refine hs_lcon (x := (Int64.ofNat 0)) (p := 319) (by decide +kernel) ?_
            refine hs_lcmp (p := 320) (by decide +kernel) ?_
            refine hs_br1 (c := .le) (t := 327) (f := 323) (by decide +kernel) (fun (c320 : (lg_cmp ((V ((tp - 1) - 1)) + (V (tp - 1))) (Int64.ofNat 0)) ≤ 0) => ?_) (fun (c320 : ¬ ((lg_cmp ((V ((tp - 1) - 1)) + (V (tp - 1))) (Int64.ofNat 0)) ≤ 0)) => ?_)
            · refine hs_k (x := Int32.ofNat 0) (p := 328) (by decide +kernel) ?_
              refine hs_istore (i := 12) (p := 330) (by decide +kernel) (Nat.le_of_ble_eq_true rfl) ?_
              refine hs_aload (i := 0) (p := 331) (by decide +kernel) rfl ?_
              refine hm_get (hm_okv hV) (f := 17) (p := 334) (by decide +kernel) rfl hV.2.2.1.1 ?_
              refine hs_iload (i := 3) (p := 335) (by decide +kernel) rfl ?_
              refine hs_k (x := Int32.ofNat 1) (p := 336) (by decide +kernel) ?_
              refine hs_isubn (p := 337) (by decide +kernel) (by omega) ?_
              refine hs_iload (i := 6) (p := 339) (by decide +kernel) rfl ?_
              refine hs_k (x := Int32.ofNat 15) (p := 341) (by decide +kernel) ?_
              refine hs_br2 (c := .ne) (t := 352) (f := 344) (by decide +kernel) (fun (c341 : ¬ x = Int32.ofNat 15) => ?_) (fun (c341 : ¬ (¬ x = Int32.ofNat 15)) => ?_)
              · refine hs_iload (i := 6) (p := 354) (by decide +kernel) rfl ?_
                refine hs_k (x := Int32.ofNat 14) (p := 356) (by decide +kernel) ?_
                refine hs_br2 (c := .ne) (t := 367) (f := 359) (by decide +kernel) (fun (c356 : ¬ x = Int32.ofNat 14) => ?_) (fun (c356 : ¬ (¬ x = Int32.ofNat 14)) => ?_)
                · refine hs_iload (i := 12) (p := 369) (by decide +kernel) rfl ?_
                  refine hs_if1 (c := .eq) (t := 376) (f := 372) (by decide +kernel) (show Int32.ofNat 0 = 0 by decide) ?_
                  refine hs_lcon (x := (Int64.ofNat 0)) (p := 377) (by decide +kernel) ?_
                  refine hv_st hV (p := 378) (by decide +kernel) (by omega) ?_
                  refine hs_iinc1 (i := 5) (p := 381) (by decide +kernel) rfl (Nat.le_of_ble_eq_true rfl) ?_
                  refine hs_goto (p := 20) (by decide +kernel) ?_
                  exact h _ _ _ _ _ _ _ _
                · refine hs_lload (i := 8) (p := 361) (by decide +kernel) rfl ?_
                  refine hs_lload (i := 10) (p := 363) (by decide +kernel) rfl ?_
                  refine hs_lmul (p := 364) (by decide +kernel) ?_
                  refine hs_goto (p := 377) (by decide +kernel) ?_
                  refine hv_st hV (p := 378) (by decide +kernel) (by omega) ?_
                  refine hs_iinc1 (i := 5) (p := 381) (by decide +kernel) rfl (Nat.le_of_ble_eq_true rfl) ?_
                  refine hs_goto (p := 20) (by decide +kernel) ?_
                  exact h _ _ _ _ _ _ _ _
              · refine hs_lload (i := 8) (p := 346) (by decide +kernel) rfl ?_
                refine hs_lload (i := 10) (p := 348) (by decide +kernel) rfl ?_
                refine hs_ladd (p := 349) (by decide +kernel) ?_
                refine hs_goto (p := 377) (by decide +kernel) ?_
                refine hv_st hV (p := 378) (by decide +kernel) (by omega) ?_
                refine hs_iinc1 (i := 5) (p := 381) (by decide +kernel) rfl (Nat.le_of_ble_eq_true rfl) ?_
                refine hs_goto (p := 20) (by decide +kernel) ?_
                exact h _ _ _ _ _ _ _ _
            · refine hs_k (x := Int32.ofNat 1) (p := 324) (by decide +kernel) ?_
              refine hs_goto (p := 328) (by decide +kernel) ?_
              refine hs_istore (i := 12) (p := 330) (by decide +kernel) (Nat.le_of_ble_eq_true rfl) ?_
              refine hs_aload (i := 0) (p := 331) (by decide +kernel) rfl ?_
              refine hm_get (hm_okv hV) (f := 17) (p := 334) (by decide +kernel) rfl hV.2.2.1.1 ?_
              refine hs_iload (i := 3) (p := 335) (by decide +kernel) rfl ?_
              refine hs_k (x := Int32.ofNat 1) (p := 336) (by decide +kernel) ?_
              refine hs_isubn (p := 337) (by decide +kernel) (by omega) ?_
              refine hs_iload (i := 6) (p := 339) (by decide +kernel) rfl ?_
              refine hs_k (x := Int32.ofNat 15) (p := 341) (by decide +kernel) ?_
              refine hs_br2 (c := .ne) (t := 352) (f := 344) (by decide +kernel) (fun (c341 : ¬ x = Int32.ofNat 15) => ?_) (fun (c341 : ¬ (¬ x = Int32.ofNat 15)) => ?_)
              · refine hs_iload (i := 6) (p := 354) (by decide +kernel) rfl ?_
                refine hs_k (x := Int32.ofNat 14) (p := 356) (by decide +kernel) ?_
                refine hs_br2 (c := .ne) (t := 367) (f := 359) (by decide +kernel) (fun (c356 : ¬ x = Int32.ofNat 14) => ?_) (fun (c356 : ¬ (¬ x = Int32.ofNat 14)) => ?_)
                · refine hs_iload (i := 12) (p := 369) (by decide +kernel) rfl ?_
                  refine hs_if0 (c := .eq) (t := 376) (f := 372) (by decide +kernel) (show ¬ (Int32.ofNat 1 = 0) by decide) ?_
                  refine hs_lcon (x := (Int64.ofNat 1)) (p := 373) (by decide +kernel) ?_
                  refine hs_goto (p := 377) (by decide +kernel) ?_
                  refine hv_st hV (p := 378) (by decide +kernel) (by omega) ?_
                  refine hs_iinc1 (i := 5) (p := 381) (by decide +kernel) rfl (Nat.le_of_ble_eq_true rfl) ?_
                  refine hs_goto (p := 20) (by decide +kernel) ?_
                  exact h _ _ _ _ _ _ _ _
                · refine hs_lload (i := 8) (p := 361) (by decide +kernel) rfl ?_
                  refine hs_lload (i := 10) (p := 363) (by decide +kernel) rfl ?_
                  refine hs_lmul (p := 364) (by decide +kernel) ?_
                  refine hs_goto (p := 377) (by decide +kernel) ?_
                  refine hv_st hV (p := 378) (by decide +kernel) (by omega) ?_
                  refine hs_iinc1 (i := 5) (p := 381) (by decide +kernel) rfl (Nat.le_of_ble_eq_true rfl) ?_
                  refine hs_goto (p := 20) (by decide +kernel) ?_
                  exact h _ _ _ _ _ _ _ _
              · refine hs_lload (i := 8) (p := 346) (by decide +kernel) rfl ?_
                refine hs_lload (i := 10) (p := 348) (by decide +kernel) rfl ?_
                refine hs_ladd (p := 349) (by decide +kernel) ?_
                refine hs_goto (p := 377) (by decide +kernel) ?_
                refine hv_st hV (p := 378) (by decide +kernel) (by omega) ?_
                refine hs_iinc1 (i := 5) (p := 381) (by decide +kernel) rfl (Nat.le_of_ble_eq_true rfl) ?_
                refine hs_goto (p := 20) (by decide +kernel) ?_
                exact h _ _ _ _ _ _ _ _
          · refine hs_lload (i := 8) (p := 295) (by decide +kernel) rfl ?_
            refine hs_lload (i := 10) (p := 297) (by decide +kernel) rfl ?_
            refine hs_ladd (p := 298) (by decide +kernel) ?_
            refine hs_lcon (x := 2) (p := 301) (by decide +kernel) ?_
            refine hs_lcmp (p := 302) (by decide +kernel) ?_
            refine hs_br1 (c := .ne) (t := 309) (f := 305) (by decide +kernel) (fun (c302 : ¬ (lg_cmp ((V ((tp - 1) - 1)) + (V (tp - 1))) 2) = 0) => ?_) (fun (c302 : ¬ (¬ (lg_cmp ((V ((tp - 1) - 1)) + (V (tp - 1))) 2) = 0)) => ?_)
            · refine hs_k (x := Int32.ofNat 0) (p := 310) (by decide +kernel) ?_
              refine hs_goto (p := 328) (by decide +kernel) ?_
              refine hs_istore (i := 12) (p := 330) (by decide +kernel) (Nat.le_of_ble_eq_true rfl) ?_
              refine hs_aload (i := 0) (p := 331) (by decide +kernel) rfl ?_
              refine hm_get (hm_okv hV) (f := 17) (p := 334) (by decide +kernel) rfl hV.2.2.1.1 ?_
              refine hs_iload (i := 3) (p := 335) (by decide +kernel) rfl ?_
              refine hs_k (x := Int32.ofNat 1) (p := 336) (by decide +kernel) ?_
              refine hs_isubn (p := 337) (by decide +kernel) (by omega) ?_
              refine hs_iload (i := 6) (p := 339) (by decide +kernel) rfl ?_
              refine hs_k (x := Int32.ofNat 15) (p := 341) (by decide +kernel) ?_
              refine hs_br2 (c := .ne) (t := 352) (f := 344) (by decide +kernel) (fun (c341 : ¬ x = Int32.ofNat 15) => ?_) (fun (c341 : ¬ (¬ x = Int32.ofNat 15)) => ?_)
              · refine hs_iload (i := 6) (p := 354) (by decide +kernel) rfl ?_
                refine hs_k (x := Int32.ofNat 14) (p := 356) (by decide +kernel) ?_
                refine hs_br2 (c := .ne) (t := 367) (f := 359) (by decide +kernel) (fun (c356 : ¬ x = Int32.ofNat 14) => ?_) (fun (c356 : ¬ (¬ x = Int32.ofNat 14)) => ?_)
                · refine hs_iload (i := 12) (p := 369) (by decide +kernel) rfl ?_
                  refine hs_if1 (c := .eq) (t := 376) (f := 372) (by decide +kernel) (show Int32.ofNat 0 = 0 by decide) ?_
                  refine hs_lcon (x := (Int64.ofNat 0)) (p := 377) (by decide +kernel) ?_
                  refine hv_st hV (p := 378) (by decide +kernel) (by omega) ?_
                  refine hs_iinc1 (i := 5) (p := 381) (by decide +kernel) rfl (Nat.le_of_ble_eq_true rfl) ?_
                  refine hs_goto (p := 20) (by decide +kernel) ?_
                  exact h _ _ _ _ _ _ _ _
                · refine hs_lload (i := 8) (p := 361) (by decide +kernel) rfl ?_
                  refine hs_lload (i := 10) (p := 363) (by decide +kernel) rfl ?_
                  refine hs_lmul (p := 364) (by decide +kernel) ?_
                  refine hs_goto (p := 377) (by decide +kernel) ?_
                  refine hv_st hV (p := 378) (by decide +kernel) (by omega) ?_
                  refine hs_iinc1 (i := 5) (p := 381) (by decide +kernel) rfl (Nat.le_of_ble_eq_true rfl) ?_
                  refine hs_goto (p := 20) (by decide +kernel) ?_
                  exact h _ _ _ _ _ _ _ _
              · refine hs_lload (i := 8) (p := 346) (by decide +kernel) rfl ?_
                refine hs_lload (i := 10) (p := 348) (by decide +kernel) rfl ?_
                refine hs_ladd (p := 349) (by decide +kernel) ?_
                refine hs_goto (p := 377) (by decide +kernel) ?_
                refine hv_st hV (p := 378) (by decide +kernel) (by omega) ?_
                refine hs_iinc1 (i := 5) (p := 381) (by decide +kernel) rfl (Nat.le_of_ble_eq_true rfl) ?_
                refine hs_goto (p := 20) (by decide +kernel) ?_
                exact h _ _ _ _ _ _ _ _
            · refine hs_k (x := Int32.ofNat 1) (p := 306) (by decide +kernel) ?_
              refine hs_goto (p := 328) (by decide +kernel) ?_
              refine hs_istore (i := 12) (p := 330) (by decide +kernel) (Nat.le_of_ble_eq_true rfl) ?_
              refine hs_aload (i := 0) (p := 331) (by decide +kernel) rfl ?_
              refine hm_get (hm_okv hV) (f := 17) (p := 334) (by decide +kernel) rfl hV.2.2.1.1 ?_
              refine hs_iload (i := 3) (p := 335) (by decide +kernel) rfl ?_
              refine hs_k (x := Int32.ofNat 1) (p := 336) (by decide +kernel) ?_
              refine hs_isubn (p := 337) (by decide +kernel) (by omega) ?_
              refine hs_iload (i := 6) (p := 339) (by decide +kernel) rfl ?_
              refine hs_k (x := Int32.ofNat 15) (p := 341) (by decide +kernel) ?_
              refine hs_br2 (c := .ne) (t := 352) (f := 344) (by decide +kernel) (fun (c341 : ¬ x = Int32.ofNat 15) => ?_) (fun (c341 : ¬ (¬ x = Int32.ofNat 15)) => ?_)
              · refine hs_iload (i := 6) (p := 354) (by decide +kernel) rfl ?_
                refine hs_k (x := Int32.ofNat 14) (p := 356) (by decide +kernel) ?_
                refine hs_br2 (c := .ne) (t := 367) (f := 359) (by decide +kernel) (fun (c356 : ¬ x = Int32.ofNat 14) => ?_) (fun (c356 : ¬ (¬ x = Int32.ofNat 14)) => ?_)
                · refine hs_iload (i := 12) (p := 369) (by decide +kernel) rfl ?_
                  refine hs_if0 (c := .eq) (t := 376) (f := 372) (by decide +kernel) (show ¬ (Int32.ofNat 1 = 0) by decide) ?_
                  refine hs_lcon (x := (Int64.ofNat 1)) (p := 373) (by decide +kernel) ?_
                  refine hs_goto (p := 377) (by decide +kernel) ?_
                  refine hv_st hV (p := 378) (by decide +kernel) (by omega) ?_
                  refine hs_iinc1 (i := 5) (p := 381) (by decide +kernel) rfl (Nat.le_of_ble_eq_true rfl) ?_
                  refine hs_goto (p := 20) (by decide +kernel) ?_
                  exact h _ _ _ _ _ _ _ _
                · refine hs_lload (i := 8) (p := 361) (by decide +kernel) rfl ?_
                  refine hs_lload (i := 10) (p := 363) (by decide +kernel) rfl ?_
                  refine hs_lmul (p := 364) (by decide +kernel) ?_
                  refine hs_goto (p := 377) (by decide +kernel) ?_
                  refine hv_st hV (p := 378) (by decide +kernel) (by omega) ?_
                  refine hs_iinc1 (i := 5) (p := 381) (by decide +kernel) rfl (Nat.le_of_ble_eq_true rfl) ?_
                  refine hs_goto (p := 20) (by decide +kernel) ?_
                  exact h _ _ _ _ _ _ _ _
              · refine hs_lload (i := 8) (p := 346) (by decide +kernel) rfl ?_
                refine hs_lload (i := 10) (p := 348) (by decide +kernel) rfl ?_
                refine hs_ladd (p := 349) (by decide +kernel) ?_
                refine hs_goto (p := 377) (by decide +kernel) ?_
                refine hv_st hV (p := 378) (by decide +kernel) (by omega) ?_
                refine hs_iinc1 (i := 5) (p := 381) (by decide +kernel) rfl (Nat.le_of_ble_eq_true rfl) ?_
                refine hs_goto (p := 20) (by decide +kernel) ?_
                exact h _ _ _ _ _ _ _ _
        · refine hs_lload (i := 8) (p := 272) (by decide +kernel) rfl ?_
          refine hs_lload (i := 10) (p := 274) (by decide +kernel) rfl ?_
          refine hs_lcmp (p := 275) (by decide +kernel) ?_
          refine hs_br1 (c := .le) (t := 282) (f := 278) (by decide +kernel) (fun (c275 : (lg_cmp (V ((tp - 1) - 1)) (V (tp - 1))) ≤ 0) => ?_) (fun (c275 : ¬ ((lg_cmp (V ((tp - 1) - 1)) (V (tp - 1))) ≤ 0)) => ?_)
          · refine hs_k (x := Int32.ofNat 0) (p := 283) (by decide +kernel) ?_
            refine hs_goto (p := 328) (by decide +kernel) ?_
            refine hs_istore (i := 12) (p := 330) (by decide +kernel) (Nat.le_of_ble_eq_true rfl) ?_
            refine hs_aload (i := 0) (p := 331) (by decide +kernel) rfl ?_
            refine hm_get (hm_okv hV) (f := 17) (p := 334) (by decide +kernel) rfl hV.2.2.1.1 ?_
            refine hs_iload (i := 3) (p := 335) (by decide +kernel) rfl ?_
            refine hs_k (x := Int32.ofNat 1) (p := 336) (by decide +kernel) ?_
            refine hs_isubn (p := 337) (by decide +kernel) (by omega) ?_
            refine hs_iload (i := 6) (p := 339) (by decide +kernel) rfl ?_
            refine hs_k (x := Int32.ofNat 15) (p := 341) (by decide +kernel) ?_
            refine hs_br2 (c := .ne) (t := 352) (f := 344) (by decide +kernel) (fun (c341 : ¬ x = Int32.ofNat 15) => ?_) (fun (c341 : ¬ (¬ x = Int32.ofNat 15)) => ?_)
            · refine hs_iload (i := 6) (p := 354) (by decide +kernel) rfl ?_
              refine hs_k (x := Int32.ofNat 14) (p := 356) (by decide +kernel) ?_
              refine hs_br2 (c := .ne) (t := 367) (f := 359) (by decide +kernel) (fun (c356 : ¬ x = Int32.ofNat 14) => ?_) (fun (c356 : ¬ (¬ x = Int32.ofNat 14)) => ?_)
              · refine hs_iload (i := 12) (p := 369) (by decide +kernel) rfl ?_
                refine hs_if1 (c := .eq) (t := 376) (f := 372) (by decide +kernel) (show Int32.ofNat 0 = 0 by decide) ?_
                refine hs_lcon (x := (Int64.ofNat 0)) (p := 377) (by decide +kernel) ?_
                refine hv_st hV (p := 378) (by decide +kernel) (by omega) ?_
                refine hs_iinc1 (i := 5) (p := 381) (by decide +kernel) rfl (Nat.le_of_ble_eq_true rfl) ?_
                refine hs_goto (p := 20) (by decide +kernel) ?_
                exact h _ _ _ _ _ _ _ _
              · refine hs_lload (i := 8) (p := 361) (by decide +kernel) rfl ?_
                refine hs_lload (i := 10) (p := 363) (by decide +kernel) rfl ?_
                refine hs_lmul (p := 364) (by decide +kernel) ?_
                refine hs_goto (p := 377) (by decide +kernel) ?_
                refine hv_st hV (p := 378) (by decide +kernel) (by omega) ?_
                refine hs_iinc1 (i := 5) (p := 381) (by decide +kernel) rfl (Nat.le_of_ble_eq_true rfl) ?_
                refine hs_goto (p := 20) (by decide +kernel) ?_
                exact h _ _ _ _ _ _ _ _
            · refine hs_lload (i := 8) (p := 346) (by decide +kernel) rfl ?_
              refine hs_lload (i := 10) (p := 348) (by decide +kernel) rfl ?_
              refine hs_ladd (p := 349) (by decide +kernel) ?_
              refine hs_goto (p := 377) (by decide +kernel) ?_
              refine hv_st hV (p := 378) (by decide +kernel) (by omega) ?_
              refine hs_iinc1 (i := 5) (p := 381) (by decide +kernel) rfl (Nat.le_of_ble_eq_true rfl) ?_
              refine hs_goto (p := 20) (by decide +kernel) ?_
              exact h _ _ _ _ _ _ _ _
          · refine hs_k (x := Int32.ofNat 1) (p := 279) (by decide +kernel) ?_
            refine hs_goto (p := 328) (by decide +kernel) ?_
            refine hs_istore (i := 12) (p := 330) (by decide +kernel) (Nat.le_of_ble_eq_true rfl) ?_
            refine hs_aload (i := 0) (p := 331) (by decide +kernel) rfl ?_
            refine hm_get (hm_okv hV) (f := 17) (p := 334) (by decide +kernel) rfl hV.2.2.1.1 ?_
            refine hs_iload (i := 3) (p := 335) (by decide +kernel) rfl ?_
            refine hs_k (x := Int32.ofNat 1) (p := 336) (by decide +kernel) ?_
            refine hs_isubn (p := 337) (by decide +kernel) (by omega) ?_
            refine hs_iload (i := 6) (p := 339) (by decide +kernel) rfl ?_
            refine hs_k (x := Int32.ofNat 15) (p := 341) (by decide +kernel) ?_
            refine hs_br2 (c := .ne) (t := 352) (f := 344) (by decide +kernel) (fun (c341 : ¬ x = Int32.ofNat 15) => ?_) (fun (c341 : ¬ (¬ x = Int32.ofNat 15)) => ?_)
            · refine hs_iload (i := 6) (p := 354) (by decide +kernel) rfl ?_
              refine hs_k (x := Int32.ofNat 14) (p := 356) (by decide +kernel) ?_
              refine hs_br2 (c := .ne) (t := 367) (f := 359) (by decide +kernel) (fun (c356 : ¬ x = Int32.ofNat 14) => ?_) (fun (c356 : ¬ (¬ x = Int32.ofNat 14)) => ?_)
              · refine hs_iload (i := 12) (p := 369) (by decide +kernel) rfl ?_
                refine hs_if0 (c := .eq) (t := 376) (f := 372) (by decide +kernel) (show ¬ (Int32.ofNat 1 = 0) by decide) ?_
                refine hs_lcon (x := (Int64.ofNat 1)) (p := 373) (by decide +kernel) ?_
                refine hs_goto (p := 377) (by decide +kernel) ?_
                refine hv_st hV (p := 378) (by decide +kernel) (by omega) ?_
                refine hs_iinc1 (i := 5) (p := 381) (by decide +kernel) rfl (Nat.le_of_ble_eq_true rfl) ?_
                refine hs_goto (p := 20) (by decide +kernel) ?_
                exact h _ _ _ _ _ _ _ _
              · refine hs_lload (i := 8) (p := 361) (by decide +kernel) rfl ?_
                refine hs_lload (i := 10) (p := 363) (by decide +kernel) rfl ?_
                refine hs_lmul (p := 364) (by decide +kernel) ?_
                refine hs_goto (p := 377) (by decide +kernel) ?_
                refine hv_st hV (p := 378) (by decide +kernel) (by omega) ?_
                refine hs_iinc1 (i := 5) (p := 381) (by decide +kernel) rfl (Nat.le_of_ble_eq_true rfl) ?_
                refine hs_goto (p := 20) (by decide +kernel) ?_
                exact h _ _ _ _ _ _ _ _
            · refine hs_lload (i := 8) (p := 346) (by decide +kernel) rfl ?_
              refine hs_lload (i := 10) (p := 348) (by decide +kernel) rfl ?_
              refine hs_ladd (p := 349) (by decide +kernel) ?_
              refine hs_goto (p := 377) (by decide +kernel) ?_
              refine hv_st hV (p := 378) (by decide +kernel) (by omega) ?_
              refine hs_iinc1 (i := 5) (p := 381) (by decide +kernel) rfl (Nat.le_of_ble_eq_true rfl) ?_
              refine hs_goto (p := 20) (by decide +kernel) ?_
              exact h _ _ _ _ _ _ _ _
      · refine hs_lload (i := 8) (p := 249) (by decide +kernel) rfl ?_
        refine hs_lload (i := 10) (p := 251) (by decide +kernel) rfl ?_
        refine hs_lcmp (p := 252) (by decide +kernel) ?_
        refine hs_br1 (c := .ge) (t := 259) (f := 255) (by decide +kernel) (fun (c252 : 0 ≤ (lg_cmp (V ((tp - 1) - 1)) (V (tp - 1)))) => ?_) (fun (c252 : ¬ (0 ≤ (lg_cmp (V ((tp - 1) - 1)) (V (tp - 1))))) => ?_)
        · refine hs_k (x := Int32.ofNat 0) (p := 260) (by decide +kernel) ?_
          refine hs_goto (p := 328) (by decide +kernel) ?_
          refine hs_istore (i := 12) (p := 330) (by decide +kernel) (Nat.le_of_ble_eq_true rfl) ?_
          refine hs_aload (i := 0) (p := 331) (by decide +kernel) rfl ?_
          refine hm_get (hm_okv hV) (f := 17) (p := 334) (by decide +kernel) rfl hV.2.2.1.1 ?_
          refine hs_iload (i := 3) (p := 335) (by decide +kernel) rfl ?_
          refine hs_k (x := Int32.ofNat 1) (p := 336) (by decide +kernel) ?_
          refine hs_isubn (p := 337) (by decide +kernel) (by omega) ?_
          refine hs_iload (i := 6) (p := 339) (by decide +kernel) rfl ?_
          refine hs_k (x := Int32.ofNat 15) (p := 341) (by decide +kernel) ?_
          refine hs_br2 (c := .ne) (t := 352) (f := 344) (by decide +kernel) (fun (c341 : ¬ x = Int32.ofNat 15) => ?_) (fun (c341 : ¬ (¬ x = Int32.ofNat 15)) => ?_)
          · refine hs_iload (i := 6) (p := 354) (by decide +kernel) rfl ?_
            refine hs_k (x := Int32.ofNat 14) (p := 356) (by decide +kernel) ?_
            refine hs_br2 (c := .ne) (t := 367) (f := 359) (by decide +kernel) (fun (c356 : ¬ x = Int32.ofNat 14) => ?_) (fun (c356 : ¬ (¬ x = Int32.ofNat 14)) => ?_)
            · refine hs_iload (i := 12) (p := 369) (by decide +kernel) rfl ?_
              refine hs_if1 (c := .eq) (t := 376) (f := 372) (by decide +kernel) (show Int32.ofNat 0 = 0 by decide) ?_
              refine hs_lcon (x := (Int64.ofNat 0)) (p := 377) (by decide +kernel) ?_
              refine hv_st hV (p := 378) (by decide +kernel) (by omega) ?_
              refine hs_iinc1 (i := 5) (p := 381) (by decide +kernel) rfl (Nat.le_of_ble_eq_true rfl) ?_
              refine hs_goto (p := 20) (by decide +kernel) ?_
              exact h _ _ _ _ _ _ _ _
            · refine hs_lload (i := 8) (p := 361) (by decide +kernel) rfl ?_
              refine hs_lload (i := 10) (p := 363) (by decide +kernel) rfl ?_
              refine hs_lmul (p := 364) (by decide +kernel) ?_
              refine hs_goto (p := 377) (by decide +kernel) ?_
              refine hv_st hV (p := 378) (by decide +kernel) (by omega) ?_
              refine hs_iinc1 (i := 5) (p := 381) (by decide +kernel) rfl (Nat.le_of_ble_eq_true rfl) ?_
              refine hs_goto (p := 20) (by decide +kernel) ?_
              exact h _ _ _ _ _ _ _ _
          · refine hs_lload (i := 8) (p := 346) (by decide +kernel) rfl ?_
            refine hs_lload (i := 10) (p := 348) (by decide +kernel) rfl ?_
            refine hs_ladd (p := 349) (by decide +kernel) ?_
            refine hs_goto (p := 377) (by decide +kernel) ?_
            refine hv_st hV (p := 378) (by decide +kernel) (by omega) ?_
            refine hs_iinc1 (i := 5) (p := 381) (by decide +kernel) rfl (Nat.le_of_ble_eq_true rfl) ?_
            refine hs_goto (p := 20) (by decide +kernel) ?_
            exact h _ _ _ _ _ _ _ _
        · refine hs_k (x := Int32.ofNat 1) (p := 256) (by decide +kernel) ?_
          refine hs_goto (p := 328) (by decide +kernel) ?_
          refine hs_istore (i := 12) (p := 330) (by decide +kernel) (Nat.le_of_ble_eq_true rfl) ?_
          refine hs_aload (i := 0) (p := 331) (by decide +kernel) rfl ?_
          refine hm_get (hm_okv hV) (f := 17) (p := 334) (by decide +kernel) rfl hV.2.2.1.1 ?_
          refine hs_iload (i := 3) (p := 335) (by decide +kernel) rfl ?_
          refine hs_k (x := Int32.ofNat 1) (p := 336) (by decide +kernel) ?_
          refine hs_isubn (p := 337) (by decide +kernel) (by omega) ?_
          refine hs_iload (i := 6) (p := 339) (by decide +kernel) rfl ?_
          refine hs_k (x := Int32.ofNat 15) (p := 341) (by decide +kernel) ?_
          refine hs_br2 (c := .ne) (t := 352) (f := 344) (by decide +kernel) (fun (c341 : ¬ x = Int32.ofNat 15) => ?_) (fun (c341 : ¬ (¬ x = Int32.ofNat 15)) => ?_)
          · refine hs_iload (i := 6) (p := 354) (by decide +kernel) rfl ?_
            refine hs_k (x := Int32.ofNat 14) (p := 356) (by decide +kernel) ?_
            refine hs_br2 (c := .ne) (t := 367) (f := 359) (by decide +kernel) (fun (c356 : ¬ x = Int32.ofNat 14) => ?_) (fun (c356 : ¬ (¬ x = Int32.ofNat 14)) => ?_)
            · refine hs_iload (i := 12) (p := 369) (by decide +kernel) rfl ?_
              refine hs_if0 (c := .eq) (t := 376) (f := 372) (by decide +kernel) (show ¬ (Int32.ofNat 1 = 0) by decide) ?_
              refine hs_lcon (x := (Int64.ofNat 1)) (p := 373) (by decide +kernel) ?_
              refine hs_goto (p := 377) (by decide +kernel) ?_
              refine hv_st hV (p := 378) (by decide +kernel) (by omega) ?_
              refine hs_iinc1 (i := 5) (p := 381) (by decide +kernel) rfl (Nat.le_of_ble_eq_true rfl) ?_
              refine hs_goto (p := 20) (by decide +kernel) ?_
              exact h _ _ _ _ _ _ _ _
            · refine hs_lload (i := 8) (p := 361) (by decide +kernel) rfl ?_
              refine hs_lload (i := 10) (p := 363) (by decide +kernel) rfl ?_
              refine hs_lmul (p := 364) (by decide +kernel) ?_
              refine hs_goto (p := 377) (by decide +kernel) ?_
              refine hv_st hV (p := 378) (by decide +kernel) (by omega) ?_
              refine hs_iinc1 (i := 5) (p := 381) (by decide +kernel) rfl (Nat.le_of_ble_eq_true rfl) ?_
              refine hs_goto (p := 20) (by decide +kernel) ?_
              exact h _ _ _ _ _ _ _ _
          · refine hs_lload (i := 8) (p := 346) (by decide +kernel) rfl ?_
            refine hs_lload (i := 10) (p := 348) (by decide +kernel) rfl ?_
            refine hs_ladd (p := 349) (by decide +kernel) ?_
            refine hs_goto (p := 377) (by decide +kernel) ?_
            refine hv_st hV (p := 378) (by decide +kernel) (by omega) ?_
            refine hs_iinc1 (i := 5) (p := 381) (by decide +kernel) rfl (Nat.le_of_ble_eq_true rfl) ?_
            refine hs_goto (p := 20) (by decide +kernel) ?_
            exact h _ _ _ _ _ _ _ _
    · exact absurd (Classical.not_not.mp c195) hn
  · exact absurd hg (fun h => c78 h)
theorem gq1_cases {x : Int32} {tp q : Nat} (h : gq1 x tp = some q) : (∃ j, (j ≤ 4 ∨ (10 ≤ j ∧ j ≤ 13)) ∧ x = Int32.ofNat j ∧ q = tp + 1) ∨ (x = Int32.ofNat 18 ∧ 1 ≤ tp ∧ q = tp) ∨ (Int32.ofNat 13 < x ∧ ¬ x = Int32.ofNat 18 ∧ 2 ≤ tp ∧ q = tp - 1) := by
  unfold gq1 at h
  split at h
  · rename_i h1
    split at h
    · rename_i h2
      cases h
      refine .inl ⟨x.toInt.toNat, by omega, ?_, rfl⟩
      apply Int32.toInt_inj.mp
      rw [hs_nint (by omega)]
      omega
    · cases h
  · rename_i h1
    split at h
    · rename_i h2
      split at h
      · cases h
        exact .inr (.inl ⟨h2, by assumption, rfl⟩)
      · cases h
    · rename_i h2
      split at h
      · cases h
        refine .inr (.inr ⟨?_, h2, by assumption, rfl⟩)
        rw [Int32.lt_iff_toInt_lt, hs_nint (by decide)]
        omega
      · cases h
theorem rp_hlE (hV : rp_V G am aw va fa tg F FA TG) {t n ky i tp : Nat} (hp : tp ≤ 400) {x6 x7 x8 x9 x10 x11 x12 : Option Value} (h : ∀ (x : Nat) (V : Nat → Int64), x ≤ 1 → Z (.inl (some (.int (Int32.ofNat x))), (hm_H (eg_u G va (hv_c V)) am aw F W), 0, 0)) : et_go none (d + 1) 216 384 [some (.ref am), some (.int (Int32.ofNat t)), some (.int (Int32.ofNat n)), some (.int (Int32.ofNat tp)), some (.int (Int32.ofNat ky)), some (.int (Int32.ofNat i)), x6, x7, x8, x9, x10, x11, x12] [] (hm_H (eg_u G va (hv_c V)) am aw F W) 0 0 Z := by
  refine hs_iload (i := 3) (p := 385) (by decide +kernel) rfl ?_
  refine hs_br1 (c := .eq) (t := 399) (f := 388) (by decide +kernel) (fun (c385 : Int32.ofNat tp = 0) => ?_) (fun (c385 : ¬ (Int32.ofNat tp = 0)) => ?_)
  · refine hs_k (x := Int32.ofNat 1) (p := 400) (by decide +kernel) ?_
    refine hs_goto (p := 404) (by decide +kernel) ?_
    refine hs_zret (by decide +kernel) (.inr rfl) ?_
    exact h 1 _ (by decide)
  · refine hs_aload (i := 0) (p := 389) (by decide +kernel) rfl ?_
    refine hm_get (hm_okv hV) (f := 17) (p := 392) (by decide +kernel) rfl hV.2.2.1.1 ?_
    refine hs_k (x := Int32.ofNat 0) (p := 393) (by decide +kernel) ?_
    refine hv_ld hV (p := 394) (by decide +kernel) (by omega) ?_
    refine hs_lcon (x := (Int64.ofNat 1)) (p := 395) (by decide +kernel) ?_
    refine hs_lcmp (p := 396) (by decide +kernel) ?_
    refine hs_br1 (c := .ne) (t := 403) (f := 399) (by decide +kernel) (fun (c396 : ¬ (lg_cmp (V 0) (Int64.ofNat 1)) = 0) => ?_) (fun (c396 : ¬ (¬ (lg_cmp (V 0) (Int64.ofNat 1)) = 0)) => ?_)
    · refine hs_k (x := Int32.ofNat 0) (p := 404) (by decide +kernel) ?_
      refine hs_zret (by decide +kernel) (.inl rfl) ?_
      exact h 0 _ (by decide)
    · refine hs_k (x := Int32.ofNat 1) (p := 400) (by decide +kernel) ?_
      refine hs_goto (p := 404) (by decide +kernel) ?_
      refine hs_zret (by decide +kernel) (.inr rfl) ?_
      exact h 1 _ (by decide)
theorem rp_hlL (hV : rp_V G am aw va fa tg F FA TG) {t n i b tp : Nat} (ht : t < 14) (hn : n < 10) (hb : b ≤ 400) (hbW : W (126 + 841 * t + 1 + 4 * n + 3) = Int32.ofNat b) (hp : tp ≤ i) (hq : i = b ∨ (i ≤ b ∧ (gq (126 + 841 * t + 41) W i (b - i) tp).isSome = true)) {x6 x7 x8 x9 x10 x11 x12 : Option Value} (h : ∀ (x : Nat) (V : Nat → Int64), x ≤ 1 → Z (.inl (some (.int (Int32.ofNat x))), (hm_H (eg_u G va (hv_c V)) am aw F W), 0, 0)) : et_go none (d + 1) 216 20 [some (.ref am), some (.int (Int32.ofNat t)), some (.int (Int32.ofNat n)), some (.int (Int32.ofNat tp)), some (.int (Int32.ofNat (126 + 841 * t + 1 + 4 * n))), some (.int (Int32.ofNat i)), x6, x7, x8, x9, x10, x11, x12] [] (hm_H (eg_u G va (hv_c V)) am aw F W) 0 0 Z := by
  induction hm : b - i using Nat.strongRecOn generalizing i tp V x6 x7 x8 x9 x10 x11 x12 with
  | _ z ih =>
    have hib : i ≤ b := by
      rcases hq with hq | hq
      · omega
      · exact hq.1
    refine hs_iload (i := 5) (p := 22) (by decide +kernel) rfl ?_
    refine hs_aload (i := 0) (p := 23) (by decide +kernel) rfl ?_
    refine hm_get (hm_okv hV) (f := 1) (p := 26) (by decide +kernel) rfl hV.2.1 ?_
    refine hs_iload (i := 4) (p := 28) (by decide +kernel) rfl ?_
    refine hs_k (x := Int32.ofNat 3) (p := 29) (by decide +kernel) ?_
    refine hs_iaddn (p := 30) (by decide +kernel) ?_
    refine hv_w hV (p := 31) (x := Int32.ofNat b) (by decide +kernel) (by omega) hbW ?_
    refine hs_br2n (c := .ge) (t := 384) (f := 34) (by decide +kernel) (by omega) (by omega) (fun (c31 : b ≤ i) => ?_) (fun (c31 : ¬ (b ≤ i)) => ?_)
    · exact rp_hlE hV (by omega) h
    · have hlt : i < b := by omega
      have hq2 := hq.resolve_left (by omega)
      obtain ⟨q9, hq9⟩ := Option.isSome_iff_exists.mp hq2.2
      rw [show b - i = (b - (i + 1)) + 1 by omega, gq_s] at hq9
      cases h1 : gq1 (W (126 + 841 * t + 41 + 2 * i)) tp with
      | none =>
        rw [h1] at hq9
        cases hq9
      | some q =>
        rw [h1] at hq9
        have hq8 : (gq (126 + 841 * t + 41) W (i + 1) (b - (i + 1)) q).isSome = true := Option.isSome_iff_exists.mpr ⟨q9, hq9⟩
        rcases gq1_cases h1 with ⟨j, hj, hx, rfl⟩ | ⟨hx, hj, rfl⟩ | ⟨hg, hn2, hj, rfl⟩
        · exact rp_hlA hV hj hx ht (by omega) (by omega) (fun V x6 x7 x8 x9 x10 x11 x12 => ih (b - (i + 1)) (by omega) (by omega) (.inr ⟨by omega, hq8⟩) rfl)
        · exact rp_hlB hV hx ht (by omega) (by omega) hj (fun V x6 x7 x8 x9 x10 x11 x12 => ih (b - (i + 1)) (by omega) (by omega) (.inr ⟨by omega, hq8⟩) rfl)
        · exact rp_hlC hV hg hn2 rfl ht (by omega) (by omega) hj (fun V x6 x7 x8 x9 x10 x11 x12 => ih (b - (i + 1)) (by omega) (by omega) (.inr ⟨by omega, hq8⟩) rfl)
theorem rp_holds (hV : rp_V G am aw va fa tg F FA TG) {t n : Nat} (ht : t < 14) (hn : n < 10) (hL : gq_L W (126 + 841 * t) n 400) (h : ∀ (x : Nat) (V : Nat → Int64), x ≤ 1 → Z (.inl (some (.int (Int32.ofNat x))), (hm_H (eg_u G va (hv_c V)) am aw F W), 0, 0)) : et_go none (d + 2) 216 0 [some (.ref am), some (.int (Int32.ofNat t)), some (.int (Int32.ofNat n)), none, none, none, none, none, none, none, none, none, none] [] (hm_H (eg_u G va (hv_c V)) am aw F W) 0 0 Z := by
  obtain ⟨a, b, ha, hbW, hb, hq⟩ := hL
  refine hs_k (x := Int32.ofNat 0) (p := 1) (by decide +kernel) ?_
  refine hs_istore (i := 3) (p := 2) (by decide +kernel) (Nat.le_of_ble_eq_true rfl) ?_
  refine hs_iload (i := 1) (p := 3) (by decide +kernel) rfl ?_
  refine hs_iload (i := 2) (p := 4) (by decide +kernel) rfl ?_
  refine hs_calls (mi := 189) (na := 2) (lk := 13) (lm := 2) (by decide +kernel) rfl rfl rfl rfl rfl rfl rfl (rp_lineAt (hs_cb ?_))
  show et_go none _ 216 7 _ [.int (Int32.ofNat (126 + 841 * t + 1 + 4 * n))] _ _ _ _
  refine hs_istore (i := 4) (p := 9) (by decide +kernel) (Nat.le_of_ble_eq_true rfl) ?_
  refine hs_aload (i := 0) (p := 10) (by decide +kernel) rfl ?_
  refine hm_get (hm_okv hV) (f := 1) (p := 13) (by decide +kernel) rfl hV.2.1 ?_
  refine hs_iload (i := 4) (p := 15) (by decide +kernel) rfl ?_
  refine hs_k (x := Int32.ofNat 2) (p := 16) (by decide +kernel) ?_
  refine hs_iaddn (p := 17) (by decide +kernel) ?_
  refine hv_w hV (p := 18) (x := Int32.ofNat a) (by decide +kernel) (by omega) ha ?_
  refine hs_istore (i := 5) (p := 20) (by decide +kernel) (Nat.le_of_ble_eq_true rfl) ?_
  refine rp_hlL hV ht hn hb hbW (Nat.zero_le _) ?_ h
  rcases hq with hq | ⟨h1, h2⟩
  · exact .inl hq
  · exact .inr ⟨h1, by rw [h2]; rfl⟩
end RPJ
