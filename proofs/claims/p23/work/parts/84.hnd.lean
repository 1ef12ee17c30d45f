/-! BY HAND: bound -/
theorem rb_sub {x y : Int32} (h : ¬ x = y) : ¬ (x - y).toInt64 * (x - y).toInt64 = 0 := fun e => by
  have h1 : (x - y).toInt64.toInt = (x - y).toInt := Int32.toInt_toInt64 _
  have h2 := (et_any (x - y)).1
  have h3 := (et_any (x - y)).2
  unfold et_mn at h2
  unfold et_mx at h3
  have h4 : (x - y).toInt ≠ 0 := fun h5 => by
    have h6 : x - y = 0 := Int32.toInt_inj.mp h5
    have h7 := Int32.sub_add_cancel x y
    rw [h6, Int32.zero_add] at h7
    exact h h7.symm
  have h7 : ((x - y).toInt64 * (x - y).toInt64).toInt = (x - y).toInt * (x - y).toInt := by
    rw [Int64.toInt_mul, h1]
    generalize (x - y).toInt = z at h2 h3
    have a1 : z * z ≤ 4611686018427387904 := by
      rcases Int.le_total 0 z with hz | hz
      · calc z * z ≤ 2147483648 * 2147483648 := Int.mul_le_mul (by omega) (by omega) hz (by decide)
          _ = 4611686018427387904 := by decide
      · calc z * z = (-z) * (-z) := (Int.neg_mul_neg z z).symm
          _ ≤ 2147483648 * 2147483648 := Int.mul_le_mul (by omega) (by omega) (by omega) (by decide)
          _ = 4611686018427387904 := by decide
    have a2 : 0 ≤ z * z := by
      rcases Int.le_total 0 z with hz | hz
      · exact Int.mul_nonneg hz hz
      · rw [← Int.neg_mul_neg]
        exact Int.mul_nonneg (by omega) (by omega)
    rw [Int.bmod_eq_of_le] <;> omega
  rw [e] at h7
  rcases Int.mul_eq_zero.mp h7.symm with h8 | h8 <;> exact h4 h8
section RPM
variable {d am aw td vs bs : Nat} {G : eg_G} {F : Nat → Value} {W B TD VS : Nat → Int32} {Z : eg_O → Prop}
theorem rl_rb {F' : Nat → Value} {k pc ck sk p n : Nat} {L : eg_Ls} {r : List Value} (hV : rl_V G am aw td vs bs F TD VS) (hc : hs_o k pc = some (.iaload, p)) (hn : n < 6) (h : et_go none d k p L (.int (B n) :: r) (rl_H G am aw bs F' W B) ck sk Z) : et_go none d k pc L (.int (Int32.ofNat n) :: .ref bs :: r) (rl_H G am aw bs F' W B) ck sk Z := by
  obtain ⟨-, -, -, -, -, h1, h2, h3, h4⟩ := hV
  exact hs_iald hc ((hm_o h1 h2).trans (et_at_us h3)) h4 (by decide) hn h
theorem rb_3 (hV : rl_V G am aw td vs bs F TD VS) {e wn : Nat} (he : e ≤ 2) (hw : W (45 + 23 * e + 0) = Int32.ofNat wn) (hwn : wn ≤ 6) {c0 c j : Nat} {k : Int32} {m a q r v : Int64} (hc : c < 20) (hj : j ≤ 6) (h : ∀ (v : Int64) (j : Nat), et_go none (d + 4) 261 190 [some (.ref am), some (.int (Int32.ofNat e)), some (.int k), some (.long m), none, some (.long a), none, some (.long q), none, some (.long r), none, some (.int (Int32.ofNat c)), some (.long v), none, some (.int (Int32.ofNat j))] [] (rl_H G am aw bs F W B) 0 0 Z) : et_go none (d + 4) 261 140 [some (.ref am), some (.int (Int32.ofNat e)), some (.int k), some (.long m), none, some (.long a), none, some (.long q), none, some (.long r), none, some (.int (Int32.ofNat c)), some (.long v), none, some (.int (Int32.ofNat j))] [] (rl_H G am aw bs F W B) 0 0 Z := by
  induction hm : wn - j using Nat.strongRecOn generalizing j v with
  | _ z ih =>
    refine hs_iload (i := 14) (p := 142) (by decide +kernel) rfl ?_
    refine hs_aload (i := 0) (p := 143) (by decide +kernel) rfl ?_
    refine hs_iload (i := 1) (p := 144) (by decide +kernel) rfl ?_
    refine hm_call (rl_ok hV) (mi := 224) (na := 1) (lk := 15) (lm := 2) (by decide +kernel) rfl rfl rfl rfl rfl rfl (rp_wires (rl_ok hV) hV.2.1 (by omega) (hs_cb ?_))
    rw [hw]
    show et_go none _ 261 147 _ [.int (Int32.ofNat wn), .int (Int32.ofNat j)] _ 0 0 _
    refine hs_br2n (c := .ge) (t := 190) (f := 150) (by decide +kernel) (by omega) (by omega) (fun (c147 : wn ≤ j) => ?_) (fun (c147 : ¬ (wn ≤ j)) => ?_)
    · exact h _ _
    · refine hs_lload (i := 12) (p := 152) (by decide +kernel) rfl ?_
      refine hs_aload (i := 0) (p := 153) (by decide +kernel) rfl ?_
      refine hm_get (rl_ok hV) (f := 20) (p := 156) (by decide +kernel) rfl hV.2.2.2.1.1 ?_
      refine hs_k (x := Int32.ofNat 6) (p := 158) (by decide +kernel) ?_
      refine hs_iload (i := 11) (p := 160) (by decide +kernel) rfl ?_
      refine hs_imuln (p := 161) (by decide +kernel) ?_
      refine hs_iload (i := 14) (p := 163) (by decide +kernel) rfl ?_
      refine hs_iaddn (p := 164) (by decide +kernel) ?_
      refine rl_vs hV (p := 165) (by decide +kernel) (by omega) ?_
      refine hs_i2l (p := 166) (by decide +kernel) ?_
      refine hs_aload (i := 0) (p := 167) (by decide +kernel) rfl ?_
      refine hm_get (rl_ok hV) (f := 20) (p := 170) (by decide +kernel) rfl hV.2.2.2.1.1 ?_
      refine hs_k (x := Int32.ofNat 6) (p := 172) (by decide +kernel) ?_
      refine hs_iload (i := 11) (p := 174) (by decide +kernel) rfl ?_
      refine hs_imuln (p := 175) (by decide +kernel) ?_
      refine hs_iload (i := 14) (p := 177) (by decide +kernel) rfl ?_
      refine hs_iaddn (p := 178) (by decide +kernel) ?_
      refine rl_vs hV (p := 179) (by decide +kernel) (by omega) ?_
      refine hs_i2l (p := 180) (by decide +kernel) ?_
      refine hs_lmul (p := 181) (by decide +kernel) ?_
      refine hs_ladd (p := 182) (by decide +kernel) ?_
      refine hs_lstore (i := 12) (p := 184) (by decide +kernel) (Nat.le_of_ble_eq_true rfl) ?_
      refine hs_iinc1 (i := 14) (p := 187) (by decide +kernel) rfl (Nat.le_of_ble_eq_true rfl) ?_
      refine hs_goto (p := 140) (by decide +kernel) ?_
      exact ih (wn - (j + 1)) (by omega) (by omega) rfl
theorem rb_2 (hV : rl_V G am aw td vs bs F TD VS) {e wn : Nat} (he : e ≤ 2) (hw : W (45 + 23 * e + 0) = Int32.ofNat wn) (hwn : wn ≤ 6) {c0 c : Nat} (hc0 : W 3 = Int32.ofNat c0) (hc20 : c0 ≤ 20) {k : Int32} {m a q r : Int64} {x12 x13 x14 : Option Value} (hc : c ≤ 20) (h : ∀ (r : Int64) (c : Nat) (x12 x13 x14 : Option Value), et_go none (d + 4) 261 205 [some (.ref am), some (.int (Int32.ofNat e)), some (.int k), some (.long m), none, some (.long a), none, some (.long q), none, some (.long r), none, some (.int (Int32.ofNat c)), x12, x13, x14] [] (rl_H G am aw bs F W B) 0 0 Z) : et_go none (d + 4) 261 125 [some (.ref am), some (.int (Int32.ofNat e)), some (.int k), some (.long m), none, some (.long a), none, some (.long q), none, some (.long r), none, some (.int (Int32.ofNat c)), x12, x13, x14] [] (rl_H G am aw bs F W B) 0 0 Z := by
  induction hm : c0 - c using Nat.strongRecOn generalizing c r x12 x13 x14 with
  | _ z ih =>
    refine hs_iload (i := 11) (p := 127) (by decide +kernel) rfl ?_
    refine hs_aload (i := 0) (p := 128) (by decide +kernel) rfl ?_
    refine hm_call (rl_ok hV) (mi := 218) (na := 0) (lk := 15) (lm := 1) (by decide +kernel) rfl rfl rfl rfl rfl rfl (rl_cards (rl_ok hV) hV.2.1 hc0 (hs_cb ?_))
    show et_go none _ 261 131 _ [.int (Int32.ofNat c0), .int (Int32.ofNat c)] _ 0 0 _
    refine hs_br2n (c := .ge) (t := 205) (f := 134) (by decide +kernel) (by omega) (by omega) (fun (c131 : c0 ≤ c) => ?_) (fun (c131 : ¬ (c0 ≤ c)) => ?_)
    · exact h _ _ _ _ _
    · refine hs_lcon (x := (Int64.ofNat 1)) (p := 135) (by decide +kernel) ?_
      refine hs_lstore (i := 12) (p := 137) (by decide +kernel) (Nat.le_of_ble_eq_true rfl) ?_
      refine hs_k (x := Int32.ofNat 0) (p := 138) (by decide +kernel) ?_
      refine hs_istore (i := 14) (p := 140) (by decide +kernel) (Nat.le_of_ble_eq_true rfl) ?_
      refine rb_3 (c0 := c0) hV he hw hwn (by omega) (by omega) (fun v j => ?_)
      refine hs_lload (i := 9) (p := 192) (by decide +kernel) rfl ?_
      refine hs_lload (i := 12) (p := 194) (by decide +kernel) rfl ?_
      refine hs_math (mi := 313) (lk := 15) (p := 197) (by decide +kernel) rfl rfl rfl rfl ?_
      refine hs_lstore (i := 9) (p := 199) (by decide +kernel) (Nat.le_of_ble_eq_true rfl) ?_
      refine hs_iinc1 (i := 11) (p := 202) (by decide +kernel) rfl (Nat.le_of_ble_eq_true rfl) ?_
      refine hs_goto (p := 125) (by decide +kernel) ?_
      exact ih (c0 - (c + 1)) (by omega) (by omega) rfl
theorem rb_1 (hV : rl_V G am aw td vs bs F TD VS) {e wn : Nat} (he : e ≤ 2) (hw : W (45 + 23 * e + 0) = Int32.ofNat wn) (hwn : wn ≤ 6) {i : Nat} {k : Int32} {m a q : Int64} {x10 x11 x12 x13 x14 : Option Value} (hi : i ≤ 6) (h : ∀ (q : Int64) (i : Nat), et_go none (d + 4) 261 119 [some (.ref am), some (.int (Int32.ofNat e)), some (.int k), some (.long m), none, some (.long a), none, some (.long q), none, some (.int (Int32.ofNat i)), x10, x11, x12, x13, x14] [] (rl_H G am aw bs F W B) 0 0 Z) : et_go none (d + 4) 261 81 [some (.ref am), some (.int (Int32.ofNat e)), some (.int k), some (.long m), none, some (.long a), none, some (.long q), none, some (.int (Int32.ofNat i)), x10, x11, x12, x13, x14] [] (rl_H G am aw bs F W B) 0 0 Z := by
  induction hm : wn - i using Nat.strongRecOn generalizing i q with
  | _ z ih =>
    refine hs_iload (i := 9) (p := 83) (by decide +kernel) rfl ?_
    refine hs_aload (i := 0) (p := 84) (by decide +kernel) rfl ?_
    refine hs_iload (i := 1) (p := 85) (by decide +kernel) rfl ?_
    refine hm_call (rl_ok hV) (mi := 224) (na := 1) (lk := 15) (lm := 2) (by decide +kernel) rfl rfl rfl rfl rfl rfl (rp_wires (rl_ok hV) hV.2.1 (by omega) (hs_cb ?_))
    rw [hw]
    show et_go none _ 261 88 _ [.int (Int32.ofNat wn), .int (Int32.ofNat i)] _ 0 0 _
    refine hs_br2n (c := .ge) (t := 119) (f := 91) (by decide +kernel) (by omega) (by omega) (fun (c88 : wn ≤ i) => ?_) (fun (c88 : ¬ (wn ≤ i)) => ?_)
    · exact h _ _
    · refine hs_lload (i := 7) (p := 93) (by decide +kernel) rfl ?_
      refine hs_aload (i := 0) (p := 94) (by decide +kernel) rfl ?_
      refine hm_get (rl_ok hV) (f := 22) (p := 97) (by decide +kernel) rfl hV.2.2.2.2.1 ?_
      refine hs_iload (i := 9) (p := 99) (by decide +kernel) rfl ?_
      refine rl_rb hV (p := 100) (by decide +kernel) (by omega) ?_
      refine hs_i2l (p := 101) (by decide +kernel) ?_
      refine hs_aload (i := 0) (p := 102) (by decide +kernel) rfl ?_
      refine hm_get (rl_ok hV) (f := 22) (p := 105) (by decide +kernel) rfl hV.2.2.2.2.1 ?_
      refine hs_iload (i := 9) (p := 107) (by decide +kernel) rfl ?_
      refine rl_rb hV (p := 108) (by decide +kernel) (by omega) ?_
      refine hs_i2l (p := 109) (by decide +kernel) ?_
      refine hs_lmul (p := 110) (by decide +kernel) ?_
      refine hs_ladd (p := 111) (by decide +kernel) ?_
      refine hs_lstore (i := 7) (p := 113) (by decide +kernel) (Nat.le_of_ble_eq_true rfl) ?_
      refine hs_iinc1 (i := 9) (p := 116) (by decide +kernel) rfl (Nat.le_of_ble_eq_true rfl) ?_
      refine hs_goto (p := 81) (by decide +kernel) ?_
      exact ih (wn - (i + 1)) (by omega) (by omega) rfl
theorem rb_t (hV : rl_V G am aw td vs bs F TD VS) {e wn : Nat} (he : e ≤ 2) (hw : W (45 + 23 * e + 0) = Int32.ofNat wn) (hwn : wn ≤ 6) {c0 : Nat} (hc0 : W 3 = Int32.ofNat c0) (hc20 : c0 ≤ 20) {k so bl bg : Int32} (hso : F 29 = .int so) (hbl : F 25 = .int bl) (hbg : F 26 = .int bg) (hX : ¬ so = 0 → ¬ bl = bg) (h : ∀ v, Z (.inl (some (.int v)), (rl_H G am aw bs F W B), 0, 0)) : et_go none (d + 4) 261 23 [some (.ref am), some (.int (Int32.ofNat e)), some (.int k), none, none, none, none, none, none, none, none, none, none, none, none] [] (rl_H G am aw bs F W B) 0 0 Z := by
  refine hs_aload (i := 0) (p := 24) (by decide +kernel) rfl ?_
  refine hm_get (rl_ok hV) (f := 29) (p := 27) (by decide +kernel) rfl hso ?_
  refine hs_br1 (c := .eq) (t := 50) (f := 30) (by decide +kernel) (fun (c24 : so = 0) => ?_) (fun (c24 : ¬ (so = 0)) => ?_)
  · refine hs_k (x := (-1)) (p := 51) (by decide +kernel) ?_
    refine hs_iret (by decide +kernel) ?_
    exact h _
  · refine hs_aload (i := 0) (p := 31) (by decide +kernel) rfl ?_
    refine hm_get (rl_ok hV) (f := 25) (p := 34) (by decide +kernel) rfl hbl ?_
    refine hs_kld (v := Value.int (Int32.ofNat 1000000)) (p := 37) (by decide +kernel) ?_
    refine hs_br2 (c := .eq) (t := 50) (f := 40) (by decide +kernel) (fun (c37 : bl = Int32.ofNat 1000000) => ?_) (fun (c37 : ¬ (bl = Int32.ofNat 1000000)) => ?_)
    · refine hs_k (x := (-1)) (p := 51) (by decide +kernel) ?_
      refine hs_iret (by decide +kernel) ?_
      exact h _
    · refine hs_aload (i := 0) (p := 41) (by decide +kernel) rfl ?_
      refine hm_get (rl_ok hV) (f := 26) (p := 44) (by decide +kernel) rfl hbg ?_
      refine hs_kld (v := Value.int (-1000000)) (p := 47) (by decide +kernel) ?_
      refine hs_br2 (c := .ne) (t := 52) (f := 50) (by decide +kernel) (fun (c47 : ¬ bg = (-1000000)) => ?_) (fun (c47 : ¬ (¬ bg = (-1000000))) => ?_)
      · refine hs_aload (i := 0) (p := 53) (by decide +kernel) rfl ?_
        refine hm_get (rl_ok hV) (f := 25) (p := 56) (by decide +kernel) rfl hbl ?_
        refine hs_aload (i := 0) (p := 57) (by decide +kernel) rfl ?_
        refine hm_get (rl_ok hV) (f := 26) (p := 60) (by decide +kernel) rfl hbg ?_
        refine hs_isub (p := 61) (by decide +kernel) ?_
        refine hs_i2l (p := 62) (by decide +kernel) ?_
        refine hs_lstore (i := 3) (p := 63) (by decide +kernel) (Nat.le_of_ble_eq_true rfl) ?_
        refine hs_aload (i := 0) (p := 64) (by decide +kernel) rfl ?_
        refine hm_get (rl_ok hV) (f := 25) (p := 67) (by decide +kernel) rfl hbl ?_
        refine hs_aload (i := 0) (p := 68) (by decide +kernel) rfl ?_
        refine hm_get (rl_ok hV) (f := 26) (p := 71) (by decide +kernel) rfl hbg ?_
        refine hs_iadd (p := 72) (by decide +kernel) ?_
        refine hs_i2l (p := 73) (by decide +kernel) ?_
        refine hs_lstore (i := 5) (p := 75) (by decide +kernel) (Nat.le_of_ble_eq_true rfl) ?_
        refine hs_lcon (x := (Int64.ofNat 0)) (p := 76) (by decide +kernel) ?_
        refine hs_lstore (i := 7) (p := 78) (by decide +kernel) (Nat.le_of_ble_eq_true rfl) ?_
        refine hs_k (x := Int32.ofNat 0) (p := 79) (by decide +kernel) ?_
        refine hs_istore (i := 9) (p := 81) (by decide +kernel) (Nat.le_of_ble_eq_true rfl) ?_
        refine rb_1 hV he hw hwn (by omega) (fun q i => ?_)
        refine hs_lcon (x := (Int64.ofNat 0)) (p := 120) (by decide +kernel) ?_
        refine hs_lstore (i := 9) (p := 122) (by decide +kernel) (Nat.le_of_ble_eq_true rfl) ?_
        refine hs_k (x := Int32.ofNat 0) (p := 123) (by decide +kernel) ?_
        refine hs_istore (i := 11) (p := 125) (by decide +kernel) (Nat.le_of_ble_eq_true rfl) ?_
        refine rb_2 hV he hw hwn hc0 hc20 (by omega) (fun r c x12 x13 x14 => ?_)
        have hdiv := rb_sub (hX c24)
        refine hs_lload (i := 9) (p := 207) (by decide +kernel) rfl ?_
        refine hs_lcon (x := 4) (p := 210) (by decide +kernel) ?_
        refine hs_lload (i := 7) (p := 212) (by decide +kernel) rfl ?_
        refine hs_lmul (p := 213) (by decide +kernel) ?_
        refine hs_lload (i := 5) (p := 215) (by decide +kernel) rfl ?_
        refine hs_lload (i := 5) (p := 217) (by decide +kernel) rfl ?_
        refine hs_lmul (p := 218) (by decide +kernel) ?_
        refine hs_ladd (p := 219) (by decide +kernel) ?_
        refine hs_lmul (p := 220) (by decide +kernel) ?_
        refine hs_lload (i := 3) (p := 221) (by decide +kernel) rfl ?_
        refine hs_lload (i := 3) (p := 222) (by decide +kernel) rfl ?_
        refine hs_lmul (p := 223) (by decide +kernel) ?_
        refine hs_ldiv (p := 224) (by decide +kernel) hdiv ?_
        refine hs_l2i (p := 225) (by decide +kernel) ?_
        refine hs_iret (by decide +kernel) ?_
        exact h _
      · refine hs_k (x := (-1)) (p := 51) (by decide +kernel) ?_
        refine hs_iret (by decide +kernel) ?_
        exact h _
end RPM
def hi_MBd : et_M := [(13, 0, 0), (13, 23, 23), (13, 24, 24), (13, 25, 25), (13, 26, 26), (13, 27, 27), (13, 29, 29), (20, 0, 100000), (49, 0, 100000), (50, 0, 100000)]
def hq_tr (e : Int) : et_Co := (255, [.inr (.inr (0, 13)), .inl (e, e), .inl (et_mn, et_mx)], [(13, 23, 23), (13, 24, 24), (13, 25, 25), (13, 26, 26), (13, 27, 27), (13, 29, 29), (20, 0, 100000), (49, 0, 100000), (50, 0, 100000)], [(.inl none, 0, 0)], 9)
def hq_ns : et_Co := (254, [.inr (.inr (0, 13)), .inl (0, 2), .inl (et_mn, et_mx), .inl (et_mn, et_mx)], [(13, 0, 0)], [(.inl (some (.inl (0, 1))), 0, 0)], 5)
theorem hc_ns : et_cv et_TT hq_ns := et_cok_ok (Ks := []) (an := er_an) (fun _ h => absurd h List.not_mem_nil) (by decide +kernel)
def hq_bd (lo hi : Int) : et_Co := (261, [.inr (.inr (0, 13)), .inl (lo, hi), .inl (et_mn, et_mx)], hi_MBd, [(.inl (some (.inl (et_mn, et_mx))), 0, 0)], 12)
theorem hc_bd1 {e : Nat} (he : e ≤ 2) (htr : et_cv et_TT (hq_tr e)) : et_cv et_TT (hq_bd e e) := by
  intro w as d2 hH hd hl hv
  obtain ⟨v, v1, v2, rfl⟩ := hi_len3 (show as.length = 3 from hl)
  obtain ⟨am, rfl, k_am⟩ := hi_ref (hv 0 _ _ rfl rfl)
  obtain ⟨x, rfl, x1, x2⟩ := hi_int (hv 1 _ _ rfl rfl)
  obtain ⟨k, rfl, -⟩ := hi_int (hv 2 _ _ rfl rfl)
  obtain rfl : x = Int32.ofNat e := Int32.toInt_inj.mp (by rw [hs_nint (by omega)]; omega)
  obtain ⟨d, rfl⟩ : ∃ d, d2 = d + 12 := ⟨d2 - 12, by have : 12 ≤ d2 := hd; omega⟩
  have hx0 : et_ex w.1 w.1 := et_ex.rf
  have hf : et_fr hi_MBd w.1 w.2.2 w.2.2 := et_fr.rf
  rw [show eg_mL 261 = 15 from by decide +kernel]
  show et_go none (d + 12) 261 0 [some (.ref am), some (.int (Int32.ofNat e)), some (.int k), none, none, none, none, none, none, none, none, none, none, none, none] [] w.2.2 0 0 (hi_Z et_TT w hi_MBd [(.inl (some (.inl (et_mn, et_mx))), 0, 0)])
  refine hs_aload (i := 0) (p := 1) (by decide +kernel) rfl ?_
  refine hs_k (x := Int32.ofNat 0) (p := 2) (by decide +kernel) ?_
  refine ht_put (M := hi_MBd) (T := et_TT) (t := 13) (ci := 11) (f := 0) (p := 5) (ty := .int) (by decide +kernel) rfl rfl rfl rfl rfl (by decide +kernel) hH k_am hi_any (fun G2 hH f2 e2 => ?_)
  have hf := hf.tr hx0 f2
  refine hs_aload (i := 0) (p := 6) (by decide +kernel) rfl ?_
  refine hs_iload (i := 1) (p := 7) (by decide +kernel) rfl ?_
  refine hs_iload (i := 2) (p := 8) (by decide +kernel) rfl ?_
  refine hs_k (x := Int32.ofNat 3) (p := 9) (by decide +kernel) ?_
  refine ht_callv (T := et_TT) (t := 13) (mi := 254) (na := 3) (ci := 11) (lk := 15) (lm := 4) (L0 := eg_en (eg_mL 254) [.ref am, .int (Int32.ofNat e), .int k, .int (Int32.ofNat 3)]) (by decide +kernel) rfl hH k_am rfl rfl rfl rfl rfl (by rw [show eg_mL 254 = 4 from by decide +kernel]; first | done | rfl) ?_
  refine (hc_ns (w.1, [], G2) [.ref am, .int (Int32.ofNat e), .int k, .int (Int32.ofNat 3)] _ hH (by omega) rfl (ht_ac (.inr ⟨by decide, _, rfl, k_am⟩) (ht_ac (hi_nv (by omega) (by omega)) (ht_ac hi_any (ht_ac hi_any ht_an))))).mono (fun u hu => hs_cbv hu (fun v9 K9 G9 c9 s9 x9 f9 hH hv9 cl9 sl9 => ?_))
  have k_am := x9 _ _ k_am
  have hf := hf.tr hx0 (f9.wk (by decide +kernel))
  have hx0 := hx0.tr x9
  obtain rfl : c9 = 0 := Nat.le_zero.mp cl9
  obtain rfl : s9 = 0 := Nat.le_zero.mp sl9
  obtain ⟨n9, hn9, rfl⟩ := hi_nat hv9
  show et_go none _ 261 12 _ [.int (Int32.ofNat n9)] _ 0 _ _
  refine hs_br1 (c := .eq) (t := 17) (f := 15) (by decide +kernel) (fun (c12 : Int32.ofNat n9 = 0) => ?_) (fun (c12 : ¬ (Int32.ofNat n9 = 0)) => ?_)
  · refine hs_aload (i := 0) (p := 18) (by decide +kernel) rfl ?_
    refine hs_iload (i := 1) (p := 19) (by decide +kernel) rfl ?_
    refine hs_iload (i := 2) (p := 20) (by decide +kernel) rfl ?_
    refine ht_callv (T := et_TT) (t := 13) (mi := 255) (na := 2) (ci := 11) (lk := 15) (lm := 6) (L0 := eg_en (eg_mL 255) [.ref am, .int (Int32.ofNat e), .int k]) (by decide +kernel) rfl hH k_am rfl rfl rfl rfl rfl (by rw [show eg_mL 255 = 6 from by decide +kernel]; first | done | rfl) ?_
    refine (htr (K9, [], G9) [.ref am, .int (Int32.ofNat e), .int k] _ hH (by omega) rfl (ht_ac (.inr ⟨by decide, _, rfl, k_am⟩) (ht_ac (hi_iv (by rw [hs_nint (by omega)]; omega) (by rw [hs_nint (by omega)]; omega)) (ht_ac hi_any ht_an)))).mono (fun u hu => hs_cbn hu (fun K20 G20 c20 s20 x20 f20 hH cl20 sl20 => ?_))
    have k_am := x20 _ _ k_am
    have hf := hf.tr hx0 (f20.wk (by decide +kernel))
    have hx0 := hx0.tr x20
    obtain rfl : c20 = 0 := Nat.le_zero.mp cl20
    obtain rfl : s20 = 0 := Nat.le_zero.mp sl20
    show et_go none _ 261 23 _ [] _ 0 _ _
    obtain ⟨F, W, aw, hA, eF, eW, hw, hKw, hF, hX, hW, hG, e0⟩ := hi_mod hH k_am
    obtain ⟨td, htd, kt⟩ := hi_ref (hF 21 _ rfl)
    obtain ⟨vs, hvs, kv⟩ := hi_ref (hF 20 _ rfl)
    obtain ⟨bs, hbs, kb⟩ := hi_ref (hF 22 _ rfl)
    obtain ⟨so, hso, -⟩ := hi_int (hF 29 _ rfl)
    obtain ⟨bl, hbl, -⟩ := hi_int (hF 25 _ rfl)
    obtain ⟨bg, hbg, -⟩ := hi_int (hF 26 _ rfl)
    obtain ⟨TD, eT, -⟩ := hi_arr (t := 49) (kd := 0) (n := 6) (ss := []) hH kt rfl (by decide) (.inl rfl)
    obtain ⟨VS, eV, -⟩ := hi_arr (t := 20) (kd := 0) (n := 120) (ss := []) hH kv rfl (by decide) (.inl rfl)
    obtain ⟨B, eB, -⟩ := hi_arr (t := 50) (kd := 0) (n := 6) (ss := []) hH kb rfl (by decide) (.inl rfl)
    obtain ⟨c, hc, hc2⟩ := hi_natW (hW (3, 3, .inl (0, 20)) (List.mem_of_getElem? (i := 2) rfl) 3 (by decide) (by decide))
    obtain ⟨wn, hwn, hwn2⟩ := hi_natW (hW _ (hi_w45 e (by omega)) (45 + 23 * e) (Nat.le_refl _) (Nat.le_refl _))
    have gb := hi_at hH kb (by decide)
    have hV : rl_V G20 am aw td vs bs F TD VS := ⟨hA, hw, ⟨htd, hi_ne kt k_am (by decide), hi_ne kt hKw (by decide), hi_ne kt kb (by decide), (hi_at hH kt (by decide)).2, eT⟩, ⟨hvs, hi_ne kv k_am (by decide), hi_ne kv hKw (by decide), hi_ne kv kb (by decide), (hi_at hH kv (by decide)).2, eV⟩, hbs, hi_ne kb k_am (by decide), hi_ne kb hKw (by decide), gb⟩
    have eH : rl_H G20 am aw bs F W B = G20 := by
      unfold rl_H
      rw [show eg_u G20 bs (rl_b B) = G20 from hm_same eB gb.1, ← e0]
    have h0 := rb_t (d := d + 8) (Z := hi_Z et_TT w hi_MBd [(.inl (some (.inl (et_mn, et_mx))), 0, 0)]) (B := B) hV (e := e) (by omega) hwn2 (by omega) hc2 (by omega) (k := k) hso hbl hbg (fun h => hX so bl bg hso hbl hbg h) (fun v => by
      rw [eH]
      exact ⟨_, List.mem_cons_self, _, hx0, hf, hH, ⟨_, rfl, hi_any⟩, Nat.le_refl _, Nat.le_refl _⟩)
    rw [eH] at h0
    exact h0
  · refine hs_k (x := Int32.ofNat 0) (p := 16) (by decide +kernel) ?_
    refine hs_iret (by decide +kernel) ?_
    exact ⟨_, List.mem_cons_self, _, hx0, hf, hH, ⟨_, rfl, hi_any⟩, Nat.le_refl _, Nat.le_refl _⟩
theorem hc_bd : et_cv et_TT (hq_bd et_mn et_mx) := et_cv_sp (by decide) (et_cv_sp (by decide) (et_cv_sp (by decide) (et_cv_sp (by decide)
  (show et_cv et_TT (hq_bd et_mn (-1)) from et_cok_ok (Ks := []) (an := er_an) (fun _ h => absurd h List.not_mem_nil) (by decide +kernel))
  (hc_bd1 (e := 0) (by decide) er_c33)) (hc_bd1 (e := 1) (by decide) er_c35)) (hc_bd1 (e := 2) (by decide) er_c37))
  (show et_cv et_TT (hq_bd 3 et_mx) from et_cok_ok (Ks := []) (an := er_an) (fun _ h => absurd h List.not_mem_nil) (by decide +kernel))
