section
/-! BY HAND: the reference's parser: sums, atoms, conditions -/
theorem gq_f4 {j : Nat} (h : j ≤ 4) : gq1 (Int32.ofNat j) 0 = some 1 := by
  have : j = 0 ∨ j = 1 ∨ j = 2 ∨ j = 3 ∨ j = 4 := by omega
  rcases this with rfl | rfl | rfl | rfl | rfl <;> decide +kernel
theorem gq_t2 {j : Nat} (h : j ≤ 2) : gq1 (Int32.ofNat (10 + j)) 0 = some 1 := by
  have : j = 0 ∨ j = 1 ∨ j = 2 := by omega
  rcases this with rfl | rfl | rfl <;> decide +kernel
theorem rp_p9' {F0 : Nat → Value} {pt bg st dp q : Nat} : updV (rp_F F0 pt bg st q) 9 (.int (Int32.ofNat (dp + 1 - 1))) = rp_F F0 pt bg st dp := by
  rw [Nat.add_sub_cancel]
  exact rp_p9
section RPE
variable {d am aw ta en pt bg st dp : Nat} {G : eg_G} {F0 : Nat → Value} {TP W : Nat → Int32} {Z : eg_O → Prop}
theorem rp_fact (hE : rp_E G am aw ta F0 en TP) {kd : Int32} (hk : F0 13 = .int kd) (hd : dp ≤ 6) (hp : pt ≤ en) (hs : st ≤ pt) (h1 : ∀ b x s W', pt < x → b ≤ x → x ≤ en → st < s → s + pt ≤ st + x → gq_P W' st s → gq_F W W' st → Z (.inl (some (.int (Int32.ofNat 1))), (hm_H G am aw (rp_F F0 x b s dp) W'), 0, 0)) (h0 : ∀ b x s q W', b ≤ x → x ≤ en → s ≤ x → q ≤ 6 → gq_F W W' st → Z (.inl (some (.int (Int32.ofNat 0))), (hm_H G am aw (rp_F F0 x b s q) W'), 0, 0)) : et_go none (d + 6) 201 0 [some (.ref am), none] [] (hm_H G am aw (rp_F F0 pt bg st dp) W) 0 0 Z := by
  have he := hE.2.2.2.2.2
  refine hs_aload (i := 0) (p := 1) (by decide +kernel) rfl ?_
  refine hm_call hE.1 (mi := 188) (na := 0) (lk := 2) (lm := 1) (by decide +kernel) rfl rfl rfl rfl rfl rfl (rp_letters hE (by omega) (fun b1 x1 y1 z1 w1 => hs_cb ?_))
  show et_go none _ 201 4 _ [] _ _ _ _
  refine hs_aload (i := 0) (p := 5) (by decide +kernel) rfl ?_
  refine hm_call hE.1 (mi := 202) (na := 0) (lk := 2) (lm := 1) (by decide +kernel) rfl rfl rfl rfl rfl rfl (rp_factAt hE hk (by omega) (by omega) (fun j5 a5 b5 => hs_cb ?_) (hs_cb ?_))
  · show et_go none _ 201 8 _ [.int (Int32.ofNat j5)] _ _ _ _
    refine hs_istore (i := 1) (p := 9) (by decide +kernel) (Nat.le_of_ble_eq_true rfl) ?_
    refine hs_iload (i := 1) (p := 10) (by decide +kernel) rfl ?_
    refine hs_if0 (c := .lt) (t := 19) (f := 13) (by decide +kernel) (rs_nn (by omega)) ?_
    refine hs_aload (i := 0) (p := 14) (by decide +kernel) rfl ?_
    refine hs_iload (i := 1) (p := 15) (by decide +kernel) rfl ?_
    refine hs_k (x := Int32.ofNat 0) (p := 16) (by decide +kernel) ?_
    refine hm_call hE.1 (mi := 197) (na := 2) (lk := 2) (lm := 4) (by decide +kernel) rfl rfl rfl rfl rfl rfl (rp_emits hE (by omega) (fun V16 g16 => hs_cb ?_))
    show et_go none _ 201 19 _ [] _ _ _ _
    refine hs_iload (i := 1) (p := 20) (by decide +kernel) rfl ?_
    refine hs_if0 (c := .lt) (t := 27) (f := 23) (by decide +kernel) (rs_nn (by omega)) ?_
    refine hs_k (x := Int32.ofNat 1) (p := 24) (by decide +kernel) ?_
    refine hs_goto (p := 28) (by decide +kernel) ?_
    refine hs_zret (by decide +kernel) (.inr rfl) ?_
    exact h1 _ _ _ _ (by omega) (by omega) (by omega) (by omega) (by omega) (gq_push g16 (gq_f4 a5)) g16.2
  · show et_go none _ 201 8 _ [.int (-1)] _ _ _ _
    refine hs_istore (i := 1) (p := 9) (by decide +kernel) (Nat.le_of_ble_eq_true rfl) ?_
    refine hs_iload (i := 1) (p := 10) (by decide +kernel) rfl ?_
    refine hs_if1 (c := .lt) (t := 19) (f := 13) (by decide +kernel) (show (-1 : Int32) < 0 by decide) ?_
    refine hs_iload (i := 1) (p := 20) (by decide +kernel) rfl ?_
    refine hs_if1 (c := .lt) (t := 27) (f := 23) (by decide +kernel) (show (-1 : Int32) < 0 by decide) ?_
    refine hs_k (x := Int32.ofNat 0) (p := 28) (by decide +kernel) ?_
    refine hs_zret (by decide +kernel) (.inl rfl) ?_
    exact h0 _ _ _ _ _ (by omega) (by omega) (by omega) (by omega) gq_F.rf
theorem rp_part (hE : rp_E G am aw ta F0 en TP) {kd : Int32} (hk : F0 13 = .int kd) (hd : dp ≤ 6) (hp : pt ≤ en) (hs : st ≤ pt) (h1 : ∀ b x s W', pt < x → b ≤ x → x ≤ en → st < s → s + pt ≤ st + x → gq_P W' st s → gq_F W W' st → Z (.inl (some (.int (Int32.ofNat 1))), (hm_H G am aw (rp_F F0 x b s dp) W'), 0, 0)) (h0 : ∀ b x s q W', b ≤ x → x ≤ en → s ≤ x → q ≤ 6 → gq_F W W' st → Z (.inl (some (.int (Int32.ofNat 0))), (hm_H G am aw (rp_F F0 x b s q) W'), 0, 0)) : et_go none (d + 7) 200 0 [some (.ref am), none] [] (hm_H G am aw (rp_F F0 pt bg st dp) W) 0 0 Z := by
  have he := hE.2.2.2.2.2
  refine hs_aload (i := 0) (p := 1) (by decide +kernel) rfl ?_
  refine hm_call hE.1 (mi := 188) (na := 0) (lk := 2) (lm := 1) (by decide +kernel) rfl rfl rfl rfl rfl rfl (rp_letters hE (by omega) (fun b1 x1 y1 z1 w1 => hs_cb ?_))
  show et_go none _ 200 4 _ [] _ _ _ _
  refine hs_aload (i := 0) (p := 5) (by decide +kernel) rfl ?_
  refine hm_get hE.1 (f := 6) (p := 8) (by decide +kernel) rfl rfl ?_
  refine hs_aload (i := 0) (p := 9) (by decide +kernel) rfl ?_
  refine hm_get hE.1 (f := 8) (p := 12) (by decide +kernel) rfl rfl ?_
  refine hs_br2n (c := .le) (t := 28) (f := 15) (by decide +kernel) (by omega) (by omega) (fun (c12 : x1 ≤ b1) => ?_) (fun (c12 : ¬ (x1 ≤ b1)) => ?_)
  · refine hs_aload (i := 0) (p := 29) (by decide +kernel) rfl ?_
    refine hs_k (x := Int32.ofNat 9999) (p := 32) (by decide +kernel) ?_
    refine hm_call hE.1 (mi := 191) (na := 1) (lk := 2) (lm := 3) (by decide +kernel) rfl rfl rfl rfl rfl rfl (rp_number hE (by omega) (fun b32 x32 u32 p32 q32 r32 o32 => hs_cb ?_))
    show et_go none _ 200 35 _ [.int u32] _ _ _ _
    refine hs_istore (i := 1) (p := 36) (by decide +kernel) (Nat.le_of_ble_eq_true rfl) ?_
    refine hs_iload (i := 1) (p := 37) (by decide +kernel) rfl ?_
    refine hs_br1 (c := .ge) (t := 42) (f := 40) (by decide +kernel) (fun (c37 : 0 ≤ u32) => ?_) (fun (c37 : ¬ (0 ≤ u32)) => ?_)
    · have := o32 c37
      refine hs_aload (i := 0) (p := 43) (by decide +kernel) rfl ?_
      refine hs_k (x := Int32.ofNat 13) (p := 45) (by decide +kernel) ?_
      refine hs_iload (i := 1) (p := 46) (by decide +kernel) rfl ?_
      refine hm_call hE.1 (mi := 197) (na := 2) (lk := 2) (lm := 4) (by decide +kernel) rfl rfl rfl rfl rfl rfl (rp_emits hE (by omega) (fun V46 g46 => hs_cb ?_))
      show et_go none _ 200 49 _ [] _ _ _ _
      refine hs_aload (i := 0) (p := 50) (by decide +kernel) rfl ?_
      refine hs_k (x := Int32.ofNat 42) (p := 52) (by decide +kernel) ?_
      refine hm_call hE.1 (mi := 196) (na := 1) (lk := 2) (lm := 2) (by decide +kernel) rfl rfl rfl rfl rfl rfl (rp_sign hE (by omega) (fun b52 x52 p52 q52 r52 => hs_cb ?_) (fun b52 x52 p52 q52 r52 => hs_cb ?_))
      · show et_go none _ 200 55 _ [.int (Int32.ofNat 1)] _ _ _ _
        refine hs_if1 (c := .ne) (t := 60) (f := 58) (by decide +kernel) (show ¬ Int32.ofNat 1 = 0 by decide) ?_
        refine hs_aload (i := 0) (p := 61) (by decide +kernel) rfl ?_
        refine hm_call hE.1 (mi := 201) (na := 0) (lk := 2) (lm := 2) (by decide +kernel) rfl rfl rfl rfl rfl rfl (rp_fact hE hk hd (by omega) (by omega) (fun b61 x61 s61 W61 k61 l61 m61 n61 o61 g61 f61 => hs_cb ?_) (fun b61 x61 s61 q61 W61 k61 l61 m61 n61 f61 => hs_cb ?_))
        · show et_go none _ 200 64 _ [.int (Int32.ofNat 1)] _ _ _ _
          refine hs_if1 (c := .ne) (t := 69) (f := 67) (by decide +kernel) (show ¬ Int32.ofNat 1 = 0 by decide) ?_
          refine hs_aload (i := 0) (p := 70) (by decide +kernel) rfl ?_
          refine hs_k (x := Int32.ofNat 14) (p := 72) (by decide +kernel) ?_
          refine hs_k (x := Int32.ofNat 0) (p := 73) (by decide +kernel) ?_
          refine hm_call hE.1 (mi := 197) (na := 2) (lk := 2) (lm := 4) (by decide +kernel) rfl rfl rfl rfl rfl rfl (rp_emits hE (by omega) (fun V73 g73 => hs_cb ?_))
          show et_go none _ 200 76 _ [] _ _ _ _
          refine hs_k (x := Int32.ofNat 1) (p := 77) (by decide +kernel) ?_
          refine hs_zret (by decide +kernel) (.inr rfl) ?_
          exact h1 _ _ _ _ (by omega) (by omega) (by omega) (by omega) (by omega) (gq_bin ((gq_push g46 (by decide +kernel)).fr f61 (by omega)) g61 g73 (by decide +kernel)) ((g46.2.tr f61 (by omega)).tr g73.2 (by omega))
        · show et_go none _ 200 64 _ [.int (Int32.ofNat 0)] _ _ _ _
          refine hs_if0 (c := .ne) (t := 69) (f := 67) (by decide +kernel) (show ¬ (¬ Int32.ofNat 0 = 0) by decide) ?_
          refine hs_k (x := Int32.ofNat 0) (p := 68) (by decide +kernel) ?_
          refine hs_zret (by decide +kernel) (.inl rfl) ?_
          exact h0 _ _ _ _ _ (by omega) (by omega) (by omega) (by omega) (g46.2.tr f61 (by omega))
      · show et_go none _ 200 55 _ [.int (Int32.ofNat 0)] _ _ _ _
        refine hs_if0 (c := .ne) (t := 60) (f := 58) (by decide +kernel) (show ¬ (¬ Int32.ofNat 0 = 0) by decide) ?_
        refine hs_k (x := Int32.ofNat 1) (p := 59) (by decide +kernel) ?_
        refine hs_zret (by decide +kernel) (.inr rfl) ?_
        exact h1 _ _ _ _ (by omega) (by omega) (by omega) (by omega) (by omega) (gq_push g46 (by decide +kernel)) g46.2
    · refine hs_k (x := Int32.ofNat 0) (p := 41) (by decide +kernel) ?_
      refine hs_zret (by decide +kernel) (.inl rfl) ?_
      exact h0 _ _ _ _ _ (by omega) (by omega) (by omega) (by omega) gq_F.rf
  · refine hs_aload (i := 0) (p := 16) (by decide +kernel) rfl ?_
    refine hs_aload (i := 0) (p := 17) (by decide +kernel) rfl ?_
    refine hm_get hE.1 (f := 8) (p := 20) (by decide +kernel) rfl rfl ?_
    refine hm_put hE.1 (f := 6) (ty := .int) (p := 23) (by decide +kernel) rfl rfl rp_p6 ?_
    refine hs_aload (i := 0) (p := 24) (by decide +kernel) rfl ?_
    refine hm_call hE.1 (mi := 201) (na := 0) (lk := 2) (lm := 2) (by decide +kernel) rfl rfl rfl rfl rfl rfl (rp_fact hE hk hd (by omega) (by omega) (fun b24 x24 s24 W24 k24 l24 m24 n24 o24 g24 f24 => hs_cb ?_) (fun b24 x24 s24 q24 W24 k24 l24 m24 n24 f24 => hs_cb ?_))
    · show et_go none _ 200 27 _ [.int (Int32.ofNat 1)] _ _ _ _
      refine hs_zret (by decide +kernel) (.inr rfl) ?_
      exact h1 _ _ _ _ (by omega) (by omega) (by omega) (by omega) (by omega) g24 f24
    · show et_go none _ 200 27 _ [.int (Int32.ofNat 0)] _ _ _ _
      refine hs_zret (by decide +kernel) (.inl rfl) ?_
      exact h0 _ _ _ _ _ (by omega) (by omega) (by omega) (by omega) f24
theorem rp_sumL (hE : rp_E G am aw ta F0 en TP) {kd : Int32} (hk : F0 13 = .int kd) {s0 p0 : Nat} {W0 : Nat → Int32} (h1 : ∀ b x s W', p0 < x → b ≤ x → x ≤ en → s0 < s → s + p0 ≤ s0 + x → gq_P W' s0 s → gq_F W0 W' s0 → Z (.inl (some (.int (Int32.ofNat 1))), (hm_H G am aw (rp_F F0 x b s dp) W'), 0, 0)) (h0 : ∀ b x s q W', b ≤ x → x ≤ en → s ≤ x → q ≤ 6 → gq_F W0 W' s0 → Z (.inl (some (.int (Int32.ofNat 0))), (hm_H G am aw (rp_F F0 x b s q) W'), 0, 0)) (hs : s0 ≤ p0) (hd : dp ≤ 6) (hp : pt ≤ en) (hb : bg ≤ pt) (hg : gq_P W s0 st) (hf : gq_F W0 W s0) (h2 : s0 < st) (h3 : p0 < pt) (h4 : st + p0 ≤ s0 + pt) : et_go none (d + 8) 199 9 [some (.ref am)] [] (hm_H G am aw (rp_F F0 pt bg st dp) W) 0 0 Z := by
  have he := hE.2.2.2.2.2
  induction hm : en - pt using Nat.strongRecOn generalizing pt bg st W with
  | _ n ih =>
    refine hs_aload (i := 0) (p := 10) (by decide +kernel) rfl ?_
    refine hs_k (x := Int32.ofNat 43) (p := 12) (by decide +kernel) ?_
    refine hm_call hE.1 (mi := 196) (na := 1) (lk := 1) (lm := 2) (by decide +kernel) rfl rfl rfl rfl rfl rfl (rp_sign hE (by omega) (fun b12 x12 p12 q12 r12 => hs_cb ?_) (fun b12 x12 p12 q12 r12 => hs_cb ?_))
    · show et_go none _ 199 15 _ [.int (Int32.ofNat 1)] _ _ _ _
      refine hs_if0 (c := .eq) (t := 37) (f := 18) (by decide +kernel) (show ¬ (Int32.ofNat 1 = 0) by decide) ?_
      refine hs_aload (i := 0) (p := 19) (by decide +kernel) rfl ?_
      refine hm_call hE.1 (mi := 200) (na := 0) (lk := 1) (lm := 2) (by decide +kernel) rfl rfl rfl rfl rfl rfl (rp_part hE hk hd (by omega) (by omega) (fun b19 x19 s19 W19 k19 l19 m19 n19 o19 g19 f19 => hs_cb ?_) (fun b19 x19 s19 q19 W19 k19 l19 m19 n19 f19 => hs_cb ?_))
      · show et_go none _ 199 22 _ [.int (Int32.ofNat 1)] _ _ _ _
        refine hs_if1 (c := .ne) (t := 27) (f := 25) (by decide +kernel) (show ¬ Int32.ofNat 1 = 0 by decide) ?_
        refine hs_aload (i := 0) (p := 28) (by decide +kernel) rfl ?_
        refine hs_k (x := Int32.ofNat 15) (p := 30) (by decide +kernel) ?_
        refine hs_k (x := Int32.ofNat 0) (p := 31) (by decide +kernel) ?_
        refine hm_call hE.1 (mi := 197) (na := 2) (lk := 1) (lm := 4) (by decide +kernel) rfl rfl rfl rfl rfl rfl (rp_emits hE (by omega) (fun V31 g31 => hs_cb ?_))
        show et_go none _ 199 34 _ [] _ _ _ _
        refine hs_goto (p := 9) (by decide +kernel) ?_
        exact ih (en - x19) (by omega) (by omega) (by omega) (gq_bin (hg.fr f19 (by omega)) g19 g31 (by decide +kernel)) ((hf.tr f19 (by omega)).tr g31.2 (by omega)) (by omega) (by omega) (by omega) rfl
      · show et_go none _ 199 22 _ [.int (Int32.ofNat 0)] _ _ _ _
        refine hs_if0 (c := .ne) (t := 27) (f := 25) (by decide +kernel) (show ¬ (¬ Int32.ofNat 0 = 0) by decide) ?_
        refine hs_k (x := Int32.ofNat 0) (p := 26) (by decide +kernel) ?_
        refine hs_zret (by decide +kernel) (.inl rfl) ?_
        exact h0 _ _ _ _ _ (by omega) (by omega) (by omega) (by omega) (hf.tr f19 (by omega))
    · show et_go none _ 199 15 _ [.int (Int32.ofNat 0)] _ _ _ _
      refine hs_if1 (c := .eq) (t := 37) (f := 18) (by decide +kernel) (show Int32.ofNat 0 = 0 by decide) ?_
      refine hs_k (x := Int32.ofNat 1) (p := 38) (by decide +kernel) ?_
      refine hs_zret (by decide +kernel) (.inr rfl) ?_
      exact h1 _ _ _ _ (by omega) (by omega) (by omega) (by omega) (by omega) hg hf
theorem rp_sum (hE : rp_E G am aw ta F0 en TP) {kd : Int32} (hk : F0 13 = .int kd) (hd : dp ≤ 6) (hp : pt ≤ en) (hs : st ≤ pt) (h1 : ∀ b x s W', pt < x → b ≤ x → x ≤ en → st < s → s + pt ≤ st + x → gq_P W' st s → gq_F W W' st → Z (.inl (some (.int (Int32.ofNat 1))), (hm_H G am aw (rp_F F0 x b s dp) W'), 0, 0)) (h0 : ∀ b x s q W', b ≤ x → x ≤ en → s ≤ x → q ≤ 6 → gq_F W W' st → Z (.inl (some (.int (Int32.ofNat 0))), (hm_H G am aw (rp_F F0 x b s q) W'), 0, 0)) : et_go none (d + 8) 199 0 [some (.ref am)] [] (hm_H G am aw (rp_F F0 pt bg st dp) W) 0 0 Z := by
  have he := hE.2.2.2.2.2
  refine hs_aload (i := 0) (p := 1) (by decide +kernel) rfl ?_
  refine hm_call hE.1 (mi := 200) (na := 0) (lk := 1) (lm := 2) (by decide +kernel) rfl rfl rfl rfl rfl rfl (rp_part hE hk hd (by omega) (by omega) (fun b1 x1 s1 W1 k1 l1 m1 n1 o1 g1 f1 => hs_cb ?_) (fun b1 x1 s1 q1 W1 k1 l1 m1 n1 f1 => hs_cb ?_))
  · show et_go none _ 199 4 _ [.int (Int32.ofNat 1)] _ _ _ _
    refine hs_if1 (c := .ne) (t := 9) (f := 7) (by decide +kernel) (show ¬ Int32.ofNat 1 = 0 by decide) ?_
    exact rp_sumL hE hk h1 h0 hs hd (by omega) (by omega) g1 f1 (by omega) (by omega) (by omega)
  · show et_go none _ 199 4 _ [.int (Int32.ofNat 0)] _ _ _ _
    refine hs_if0 (c := .ne) (t := 9) (f := 7) (by decide +kernel) (show ¬ (¬ Int32.ofNat 0 = 0) by decide) ?_
    refine hs_k (x := Int32.ofNat 0) (p := 8) (by decide +kernel) ?_
    refine hs_zret (by decide +kernel) (.inl rfl) ?_
    exact h0 _ _ _ _ _ (by omega) (by omega) (by omega) (by omega) f1
def rp_SP (G : eg_G) (am aw en : Nat) (F0 : Nat → Value) (mi : Nat) (L : eg_Ls) (D dp : Nat) : Prop := ∀ (pt bg st : Nat) (W : Nat → Int32) (Z : eg_O → Prop), pt ≤ en → st ≤ pt → (∀ b x s W', pt < x → b ≤ x → x ≤ en → st < s → s + pt ≤ st + x → gq_P W' st s → gq_F W W' st → Z (.inl (some (.int (Int32.ofNat 1))), (hm_H G am aw (rp_F F0 x b s dp) W'), 0, 0)) → (∀ b x s q W', b ≤ x → x ≤ en → s ≤ x → q ≤ 6 → gq_F W W' st → Z (.inl (some (.int (Int32.ofNat 0))), (hm_H G am aw (rp_F F0 x b s q) W'), 0, 0)) → et_go none D mi 0 L [] (hm_H G am aw (rp_F F0 pt bg st dp) W) 0 0 Z
theorem rp_atom (hE : rp_E G am aw ta F0 en TP) {kd : Int32} (hk : F0 13 = .int kd) (hd : dp ≤ 6) (hC : dp < 6 → (rp_SP G am aw en F0 193 [some (.ref am)] (d + 8) (dp + 1))) (hA : dp < 6 → (rp_SP G am aw en F0 195 [some (.ref am), none, none] (d + 8) (dp + 1))) : rp_SP G am aw en F0 195 [some (.ref am), none, none] (d + 9) dp := by
  intro pt bg st W Z hp hs h1 h0
  have he := hE.2.2.2.2.2
  refine hs_aload (i := 0) (p := 1) (by decide +kernel) rfl ?_
  refine hs_k (x := Int32.ofNat 40) (p := 3) (by decide +kernel) ?_
  refine hm_call hE.1 (mi := 196) (na := 1) (lk := 3) (lm := 2) (by decide +kernel) rfl rfl rfl rfl rfl rfl (rp_sign hE (by omega) (fun b3 x3 p3 q3 r3 => hs_cb ?_) (fun b3 x3 p3 q3 r3 => hs_cb ?_))
  · show et_go none _ 195 6 _ [.int (Int32.ofNat 1)] _ _ _ _
    refine hs_if0 (c := .eq) (t := 56) (f := 9) (by decide +kernel) (show ¬ (Int32.ofNat 1 = 0) by decide) ?_
    refine hs_aload (i := 0) (p := 10) (by decide +kernel) rfl ?_
    refine hm_get hE.1 (f := 9) (p := 13) (by decide +kernel) rfl rfl ?_
    refine hs_k (x := Int32.ofNat 6) (p := 15) (by decide +kernel) ?_
    refine hs_br2n (c := .ne) (t := 20) (f := 18) (by decide +kernel) (by omega) (by omega) (fun (c15 : ¬ dp = 6) => ?_) (fun (c15 : ¬ (¬ dp = 6)) => ?_)
    · refine hs_aload (i := 0) (p := 21) (by decide +kernel) rfl ?_
      refine hs_dup1 (p := 22) (by decide +kernel) ?_
      refine hm_get hE.1 (f := 9) (p := 25) (by decide +kernel) rfl rfl ?_
      refine hs_k (x := Int32.ofNat 1) (p := 26) (by decide +kernel) ?_
      refine hs_iaddn (p := 27) (by decide +kernel) ?_
      refine hm_put hE.1 (f := 9) (ty := .int) (p := 30) (by decide +kernel) rfl rfl rp_p9 ?_
      refine hs_aload (i := 0) (p := 31) (by decide +kernel) rfl ?_
      refine hm_call hE.1 (mi := 193) (na := 0) (lk := 3) (lm := 1) (by decide +kernel) rfl rfl rfl rfl rfl rfl (hC (by omega) _ _ _ _ _ (by omega) (by omega) (fun b31 x31 s31 W31 k31 l31 m31 n31 o31 g31 f31 => hs_cb ?_) (fun b31 x31 s31 q31 W31 k31 l31 m31 n31 f31 => hs_cb ?_))
      · show et_go none _ 195 34 _ [.int (Int32.ofNat 1)] _ _ _ _
        refine hs_if1 (c := .ne) (t := 39) (f := 37) (by decide +kernel) (show ¬ Int32.ofNat 1 = 0 by decide) ?_
        refine hs_aload (i := 0) (p := 40) (by decide +kernel) rfl ?_
        refine hs_dup1 (p := 41) (by decide +kernel) ?_
        refine hm_get hE.1 (f := 9) (p := 44) (by decide +kernel) rfl rfl ?_
        refine hs_k (x := Int32.ofNat 1) (p := 45) (by decide +kernel) ?_
        refine hs_isubn (p := 46) (by decide +kernel) (by omega) ?_
        refine hm_put hE.1 (f := 9) (ty := .int) (p := 49) (by decide +kernel) rfl rfl rp_p9' ?_
        refine hs_aload (i := 0) (p := 50) (by decide +kernel) rfl ?_
        refine hs_k (x := Int32.ofNat 41) (p := 52) (by decide +kernel) ?_
        refine hm_call hE.1 (mi := 196) (na := 1) (lk := 3) (lm := 2) (by decide +kernel) rfl rfl rfl rfl rfl rfl (rp_sign hE (by omega) (fun b52 x52 p52 q52 r52 => hs_cb ?_) (fun b52 x52 p52 q52 r52 => hs_cb ?_))
        · show et_go none _ 195 55 _ [.int (Int32.ofNat 1)] _ _ _ _
          refine hs_zret (by decide +kernel) (.inr rfl) ?_
          exact h1 _ _ _ _ (by omega) (by omega) (by omega) (by omega) (by omega) g31 f31
        · show et_go none _ 195 55 _ [.int (Int32.ofNat 0)] _ _ _ _
          refine hs_zret (by decide +kernel) (.inl rfl) ?_
          exact h0 _ _ _ _ _ (by omega) (by omega) (by omega) (by omega) f31
      · show et_go none _ 195 34 _ [.int (Int32.ofNat 0)] _ _ _ _
        refine hs_if0 (c := .ne) (t := 39) (f := 37) (by decide +kernel) (show ¬ (¬ Int32.ofNat 0 = 0) by decide) ?_
        refine hs_k (x := Int32.ofNat 0) (p := 38) (by decide +kernel) ?_
        refine hs_zret (by decide +kernel) (.inl rfl) ?_
        exact h0 _ _ _ _ _ (by omega) (by omega) (by omega) (by omega) f31
    · refine hs_k (x := Int32.ofNat 0) (p := 19) (by decide +kernel) ?_
      refine hs_zret (by decide +kernel) (.inl rfl) ?_
      exact h0 _ _ _ _ _ (by omega) (by omega) (by omega) (by omega) gq_F.rf
  · show et_go none _ 195 6 _ [.int (Int32.ofNat 0)] _ _ _ _
    refine hs_if1 (c := .eq) (t := 56) (f := 9) (by decide +kernel) (show Int32.ofNat 0 = 0 by decide) ?_
    refine hs_aload (i := 0) (p := 57) (by decide +kernel) rfl ?_
    refine hs_kld (v := .ref 39) (p := 59) (by decide +kernel) ?_
    refine hm_call hE.1 (mi := 192) (na := 1) (lk := 3) (lm := 2) (by decide +kernel) rfl rfl rfl rfl rfl rfl (rp_passes hE (by omega) (j := 3) (by decide) (by decide +kernel) (fun b59 x59 p59 q59 r59 => hs_cb ?_) (fun b59 x59 p59 q59 r59 => hs_cb ?_))
    · show et_go none _ 195 62 _ [.int (Int32.ofNat 1)] _ _ _ _
      refine hs_if0 (c := .eq) (t := 114) (f := 65) (by decide +kernel) (show ¬ (Int32.ofNat 1 = 0) by decide) ?_
      refine hs_aload (i := 0) (p := 66) (by decide +kernel) rfl ?_
      refine hm_get hE.1 (f := 9) (p := 69) (by decide +kernel) rfl rfl ?_
      refine hs_k (x := Int32.ofNat 6) (p := 71) (by decide +kernel) ?_
      refine hs_br2n (c := .ne) (t := 76) (f := 74) (by decide +kernel) (by omega) (by omega) (fun (c71 : ¬ dp = 6) => ?_) (fun (c71 : ¬ (¬ dp = 6)) => ?_)
      · refine hs_aload (i := 0) (p := 77) (by decide +kernel) rfl ?_
        refine hs_dup1 (p := 78) (by decide +kernel) ?_
        refine hm_get hE.1 (f := 9) (p := 81) (by decide +kernel) rfl rfl ?_
        refine hs_k (x := Int32.ofNat 1) (p := 82) (by decide +kernel) ?_
        refine hs_iaddn (p := 83) (by decide +kernel) ?_
        refine hm_put hE.1 (f := 9) (ty := .int) (p := 86) (by decide +kernel) rfl rfl rp_p9 ?_
        refine hs_aload (i := 0) (p := 87) (by decide +kernel) rfl ?_
        refine hm_call hE.1 (mi := 195) (na := 0) (lk := 3) (lm := 3) (by decide +kernel) rfl rfl rfl rfl rfl rfl (hA (by omega) _ _ _ _ _ (by omega) (by omega) (fun b87 x87 s87 W87 k87 l87 m87 n87 o87 g87 f87 => hs_cb ?_) (fun b87 x87 s87 q87 W87 k87 l87 m87 n87 f87 => hs_cb ?_))
        · show et_go none _ 195 90 _ [.int (Int32.ofNat 1)] _ _ _ _
          refine hs_if1 (c := .ne) (t := 95) (f := 93) (by decide +kernel) (show ¬ Int32.ofNat 1 = 0 by decide) ?_
          refine hs_aload (i := 0) (p := 96) (by decide +kernel) rfl ?_
          refine hs_dup1 (p := 97) (by decide +kernel) ?_
          refine hm_get hE.1 (f := 9) (p := 100) (by decide +kernel) rfl rfl ?_
          refine hs_k (x := Int32.ofNat 1) (p := 101) (by decide +kernel) ?_
          refine hs_isubn (p := 102) (by decide +kernel) (by omega) ?_
          refine hm_put hE.1 (f := 9) (ty := .int) (p := 105) (by decide +kernel) rfl rfl rp_p9' ?_
          refine hs_aload (i := 0) (p := 106) (by decide +kernel) rfl ?_
          refine hs_k (x := Int32.ofNat 18) (p := 108) (by decide +kernel) ?_
          refine hs_k (x := Int32.ofNat 0) (p := 109) (by decide +kernel) ?_
          refine hm_call hE.1 (mi := 197) (na := 2) (lk := 3) (lm := 4) (by decide +kernel) rfl rfl rfl rfl rfl rfl (rp_emits hE (by omega) (fun V109 g109 => hs_cb ?_))
          show et_go none _ 195 112 _ [] _ _ _ _
          refine hs_k (x := Int32.ofNat 1) (p := 113) (by decide +kernel) ?_
          refine hs_zret (by decide +kernel) (.inr rfl) ?_
          exact h1 _ _ _ _ (by omega) (by omega) (by omega) (by omega) (by omega) (gq_un g87 g109) (f87.tr g109.2 (by omega))
        · show et_go none _ 195 90 _ [.int (Int32.ofNat 0)] _ _ _ _
          refine hs_if0 (c := .ne) (t := 95) (f := 93) (by decide +kernel) (show ¬ (¬ Int32.ofNat 0 = 0) by decide) ?_
          refine hs_k (x := Int32.ofNat 0) (p := 94) (by decide +kernel) ?_
          refine hs_zret (by decide +kernel) (.inl rfl) ?_
          exact h0 _ _ _ _ _ (by omega) (by omega) (by omega) (by omega) f87
      · refine hs_k (x := Int32.ofNat 0) (p := 75) (by decide +kernel) ?_
        refine hs_zret (by decide +kernel) (.inl rfl) ?_
        exact h0 _ _ _ _ _ (by omega) (by omega) (by omega) (by omega) gq_F.rf
    · show et_go none _ 195 62 _ [.int (Int32.ofNat 0)] _ _ _ _
      refine hs_if1 (c := .eq) (t := 114) (f := 65) (by decide +kernel) (show Int32.ofNat 0 = 0 by decide) ?_
      refine hs_aload (i := 0) (p := 115) (by decide +kernel) rfl ?_
      refine hm_call hE.1 (mi := 188) (na := 0) (lk := 3) (lm := 1) (by decide +kernel) rfl rfl rfl rfl rfl rfl (rp_letters hE (by omega) (fun b115 x115 y115 z115 w115 => hs_cb ?_))
      show et_go none _ 195 118 _ [] _ _ _ _
      refine hs_aload (i := 0) (p := 119) (by decide +kernel) rfl ?_
      refine hm_call hE.1 (mi := 198) (na := 0) (lk := 3) (lm := 1) (by decide +kernel) rfl rfl rfl rfl rfl rfl (rp_tagAt hE hk (by omega) (by omega) (fun j119 a119 b119 => hs_cb ?_) (hs_cb ?_))
      · show et_go none _ 195 122 _ [.int (Int32.ofNat j119)] _ _ _ _
        refine hs_istore (i := 1) (p := 123) (by decide +kernel) (Nat.le_of_ble_eq_true rfl) ?_
        refine hs_iload (i := 1) (p := 124) (by decide +kernel) rfl ?_
        refine hs_if0 (c := .lt) (t := 160) (f := 127) (by decide +kernel) (rs_nn (by omega)) ?_
        refine hs_iload (i := 1) (p := 128) (by decide +kernel) rfl ?_
        refine hs_k (x := Int32.ofNat 2) (p := 129) (by decide +kernel) ?_
        refine hs_br2n (c := .ne) (t := 141) (f := 132) (by decide +kernel) (by omega) (by omega) (fun (c129 : ¬ j119 = 2) => ?_) (fun (c129 : ¬ (¬ j119 = 2)) => ?_)
        · refine hs_k (x := Int32.ofNat 0) (p := 142) (by decide +kernel) ?_
          refine hs_istore (i := 2) (p := 143) (by decide +kernel) (Nat.le_of_ble_eq_true rfl) ?_
          refine hs_iload (i := 2) (p := 144) (by decide +kernel) rfl ?_
          refine hs_if1 (c := .ge) (t := 149) (f := 147) (by decide +kernel) (show 0 ≤ Int32.ofNat 0 by decide) ?_
          refine hs_aload (i := 0) (p := 150) (by decide +kernel) rfl ?_
          refine hs_k (x := Int32.ofNat 10) (p := 152) (by decide +kernel) ?_
          refine hs_iload (i := 1) (p := 153) (by decide +kernel) rfl ?_
          refine hs_iaddn (p := 154) (by decide +kernel) ?_
          refine hs_iload (i := 2) (p := 155) (by decide +kernel) rfl ?_
          refine hm_call hE.1 (mi := 197) (na := 2) (lk := 3) (lm := 4) (by decide +kernel) rfl rfl rfl rfl rfl rfl (rp_emits hE (by omega) (fun V155 g155 => hs_cb ?_))
          show et_go none _ 195 158 _ [] _ _ _ _
          refine hs_k (x := Int32.ofNat 1) (p := 159) (by decide +kernel) ?_
          refine hs_zret (by decide +kernel) (.inr rfl) ?_
          exact h1 _ _ _ _ (by omega) (by omega) (by omega) (by omega) (by omega) (gq_push g155 (gq_t2 a119)) g155.2
        · refine hs_aload (i := 0) (p := 133) (by decide +kernel) rfl ?_
          refine hs_k (x := Int32.ofNat 15) (p := 135) (by decide +kernel) ?_
          refine hm_call hE.1 (mi := 191) (na := 1) (lk := 3) (lm := 3) (by decide +kernel) rfl rfl rfl rfl rfl rfl (rp_number hE (by omega) (fun b135 x135 u135 p135 q135 r135 o135 => hs_cb ?_))
          show et_go none _ 195 138 _ [.int u135] _ _ _ _
          refine hs_goto (p := 142) (by decide +kernel) ?_
          refine hs_istore (i := 2) (p := 143) (by decide +kernel) (Nat.le_of_ble_eq_true rfl) ?_
          refine hs_iload (i := 2) (p := 144) (by decide +kernel) rfl ?_
          refine hs_br1 (c := .ge) (t := 149) (f := 147) (by decide +kernel) (fun (c144 : 0 ≤ u135) => ?_) (fun (c144 : ¬ (0 ≤ u135)) => ?_)
          · have := o135 c144
            refine hs_aload (i := 0) (p := 150) (by decide +kernel) rfl ?_
            refine hs_k (x := Int32.ofNat 10) (p := 152) (by decide +kernel) ?_
            refine hs_iload (i := 1) (p := 153) (by decide +kernel) rfl ?_
            refine hs_iaddn (p := 154) (by decide +kernel) ?_
            refine hs_iload (i := 2) (p := 155) (by decide +kernel) rfl ?_
            refine hm_call hE.1 (mi := 197) (na := 2) (lk := 3) (lm := 4) (by decide +kernel) rfl rfl rfl rfl rfl rfl (rp_emits hE (by omega) (fun V155 g155 => hs_cb ?_))
            show et_go none _ 195 158 _ [] _ _ _ _
            refine hs_k (x := Int32.ofNat 1) (p := 159) (by decide +kernel) ?_
            refine hs_zret (by decide +kernel) (.inr rfl) ?_
            exact h1 _ _ _ _ (by omega) (by omega) (by omega) (by omega) (by omega) (gq_push g155 (gq_t2 a119)) g155.2
          · refine hs_k (x := Int32.ofNat 0) (p := 148) (by decide +kernel) ?_
            refine hs_zret (by decide +kernel) (.inl rfl) ?_
            exact h0 _ _ _ _ _ (by omega) (by omega) (by omega) (by omega) gq_F.rf
      · show et_go none _ 195 122 _ [.int (-1)] _ _ _ _
        refine hs_istore (i := 1) (p := 123) (by decide +kernel) (Nat.le_of_ble_eq_true rfl) ?_
        refine hs_iload (i := 1) (p := 124) (by decide +kernel) rfl ?_
        refine hs_if1 (c := .lt) (t := 160) (f := 127) (by decide +kernel) (show (-1 : Int32) < 0 by decide) ?_
        refine hs_aload (i := 0) (p := 161) (by decide +kernel) rfl ?_
        refine hs_aload (i := 0) (p := 162) (by decide +kernel) rfl ?_
        refine hm_get hE.1 (f := 8) (p := 165) (by decide +kernel) rfl rfl ?_
        refine hm_put hE.1 (f := 6) (ty := .int) (p := 168) (by decide +kernel) rfl rfl rp_p6 ?_
        refine hs_aload (i := 0) (p := 169) (by decide +kernel) rfl ?_
        refine hm_call hE.1 (mi := 199) (na := 0) (lk := 3) (lm := 1) (by decide +kernel) rfl rfl rfl rfl rfl rfl (rp_sum hE hk hd (by omega) (by omega) (fun b169 x169 s169 W169 k169 l169 m169 n169 o169 g169 f169 => hs_cb ?_) (fun b169 x169 s169 q169 W169 k169 l169 m169 n169 f169 => hs_cb ?_))
        · show et_go none _ 195 172 _ [.int (Int32.ofNat 1)] _ _ _ _
          refine hs_if1 (c := .ne) (t := 177) (f := 175) (by decide +kernel) (show ¬ Int32.ofNat 1 = 0 by decide) ?_
          refine hs_aload (i := 0) (p := 178) (by decide +kernel) rfl ?_
          refine hs_k (x := Int32.ofNat 60) (p := 180) (by decide +kernel) ?_
          refine hm_call hE.1 (mi := 196) (na := 1) (lk := 3) (lm := 2) (by decide +kernel) rfl rfl rfl rfl rfl rfl (rp_sign hE (by omega) (fun b180 x180 p180 q180 r180 => hs_cb ?_) (fun b180 x180 p180 q180 r180 => hs_cb ?_))
          · show et_go none _ 195 183 _ [.int (Int32.ofNat 1)] _ _ _ _
            refine hs_istore (i := 2) (p := 184) (by decide +kernel) (Nat.le_of_ble_eq_true rfl) ?_
            refine hs_iload (i := 2) (p := 185) (by decide +kernel) rfl ?_
            refine hs_if1 (c := .ne) (t := 197) (f := 188) (by decide +kernel) (show ¬ Int32.ofNat 1 = 0 by decide) ?_
            refine hs_aload (i := 0) (p := 198) (by decide +kernel) rfl ?_
            refine hm_call hE.1 (mi := 199) (na := 0) (lk := 3) (lm := 1) (by decide +kernel) rfl rfl rfl rfl rfl rfl (rp_sum hE hk hd (by omega) (by omega) (fun b198 x198 s198 W198 k198 l198 m198 n198 o198 g198 f198 => hs_cb ?_) (fun b198 x198 s198 q198 W198 k198 l198 m198 n198 f198 => hs_cb ?_))
            · show et_go none _ 195 201 _ [.int (Int32.ofNat 1)] _ _ _ _
              refine hs_if1 (c := .ne) (t := 206) (f := 204) (by decide +kernel) (show ¬ Int32.ofNat 1 = 0 by decide) ?_
              refine hs_aload (i := 0) (p := 207) (by decide +kernel) rfl ?_
              refine hs_iload (i := 2) (p := 208) (by decide +kernel) rfl ?_
              refine hs_if0 (c := .eq) (t := 216) (f := 211) (by decide +kernel) (show ¬ (Int32.ofNat 1 = 0) by decide) ?_
              refine hs_k (x := Int32.ofNat 16) (p := 213) (by decide +kernel) ?_
              refine hs_goto (p := 218) (by decide +kernel) ?_
              refine hs_k (x := Int32.ofNat 0) (p := 219) (by decide +kernel) ?_
              refine hm_call hE.1 (mi := 197) (na := 2) (lk := 3) (lm := 4) (by decide +kernel) rfl rfl rfl rfl rfl rfl (rp_emits hE (by omega) (fun V219 g219 => hs_cb ?_))
              show et_go none _ 195 222 _ [] _ _ _ _
              refine hs_k (x := Int32.ofNat 1) (p := 223) (by decide +kernel) ?_
              refine hs_zret (by decide +kernel) (.inr rfl) ?_
              exact h1 _ _ _ _ (by omega) (by omega) (by omega) (by omega) (by omega) (gq_bin (g169.fr f198 (by omega)) g198 g219 (by decide +kernel)) ((f169.tr f198 (by omega)).tr g219.2 (by omega))
            · show et_go none _ 195 201 _ [.int (Int32.ofNat 0)] _ _ _ _
              refine hs_if0 (c := .ne) (t := 206) (f := 204) (by decide +kernel) (show ¬ (¬ Int32.ofNat 0 = 0) by decide) ?_
              refine hs_k (x := Int32.ofNat 0) (p := 205) (by decide +kernel) ?_
              refine hs_zret (by decide +kernel) (.inl rfl) ?_
              exact h0 _ _ _ _ _ (by omega) (by omega) (by omega) (by omega) (f169.tr f198 (by omega))
          · show et_go none _ 195 183 _ [.int (Int32.ofNat 0)] _ _ _ _
            refine hs_istore (i := 2) (p := 184) (by decide +kernel) (Nat.le_of_ble_eq_true rfl) ?_
            refine hs_iload (i := 2) (p := 185) (by decide +kernel) rfl ?_
            refine hs_if0 (c := .ne) (t := 197) (f := 188) (by decide +kernel) (show ¬ (¬ Int32.ofNat 0 = 0) by decide) ?_
            refine hs_aload (i := 0) (p := 189) (by decide +kernel) rfl ?_
            refine hs_k (x := Int32.ofNat 62) (p := 191) (by decide +kernel) ?_
            refine hm_call hE.1 (mi := 196) (na := 1) (lk := 3) (lm := 2) (by decide +kernel) rfl rfl rfl rfl rfl rfl (rp_sign hE (by omega) (fun b191 x191 p191 q191 r191 => hs_cb ?_) (fun b191 x191 p191 q191 r191 => hs_cb ?_))
            · show et_go none _ 195 194 _ [.int (Int32.ofNat 1)] _ _ _ _
              refine hs_if0 (c := .eq) (t := 204) (f := 197) (by decide +kernel) (show ¬ (Int32.ofNat 1 = 0) by decide) ?_
              refine hs_aload (i := 0) (p := 198) (by decide +kernel) rfl ?_
              refine hm_call hE.1 (mi := 199) (na := 0) (lk := 3) (lm := 1) (by decide +kernel) rfl rfl rfl rfl rfl rfl (rp_sum hE hk hd (by omega) (by omega) (fun b198 x198 s198 W198 k198 l198 m198 n198 o198 g198 f198 => hs_cb ?_) (fun b198 x198 s198 q198 W198 k198 l198 m198 n198 f198 => hs_cb ?_))
              · show et_go none _ 195 201 _ [.int (Int32.ofNat 1)] _ _ _ _
                refine hs_if1 (c := .ne) (t := 206) (f := 204) (by decide +kernel) (show ¬ Int32.ofNat 1 = 0 by decide) ?_
                refine hs_aload (i := 0) (p := 207) (by decide +kernel) rfl ?_
                refine hs_iload (i := 2) (p := 208) (by decide +kernel) rfl ?_
                refine hs_if1 (c := .eq) (t := 216) (f := 211) (by decide +kernel) (show Int32.ofNat 0 = 0 by decide) ?_
                refine hs_k (x := Int32.ofNat 17) (p := 218) (by decide +kernel) ?_
                refine hs_k (x := Int32.ofNat 0) (p := 219) (by decide +kernel) ?_
                refine hm_call hE.1 (mi := 197) (na := 2) (lk := 3) (lm := 4) (by decide +kernel) rfl rfl rfl rfl rfl rfl (rp_emits hE (by omega) (fun V219 g219 => hs_cb ?_))
                show et_go none _ 195 222 _ [] _ _ _ _
                refine hs_k (x := Int32.ofNat 1) (p := 223) (by decide +kernel) ?_
                refine hs_zret (by decide +kernel) (.inr rfl) ?_
                exact h1 _ _ _ _ (by omega) (by omega) (by omega) (by omega) (by omega) (gq_bin (g169.fr f198 (by omega)) g198 g219 (by decide +kernel)) ((f169.tr f198 (by omega)).tr g219.2 (by omega))
              · show et_go none _ 195 201 _ [.int (Int32.ofNat 0)] _ _ _ _
                refine hs_if0 (c := .ne) (t := 206) (f := 204) (by decide +kernel) (show ¬ (¬ Int32.ofNat 0 = 0) by decide) ?_
                refine hs_k (x := Int32.ofNat 0) (p := 205) (by decide +kernel) ?_
                refine hs_zret (by decide +kernel) (.inl rfl) ?_
                exact h0 _ _ _ _ _ (by omega) (by omega) (by omega) (by omega) (f169.tr f198 (by omega))
            · show et_go none _ 195 194 _ [.int (Int32.ofNat 0)] _ _ _ _
              refine hs_if1 (c := .eq) (t := 204) (f := 197) (by decide +kernel) (show Int32.ofNat 0 = 0 by decide) ?_
              refine hs_k (x := Int32.ofNat 0) (p := 205) (by decide +kernel) ?_
              refine hs_zret (by decide +kernel) (.inl rfl) ?_
              exact h0 _ _ _ _ _ (by omega) (by omega) (by omega) (by omega) f169
        · show et_go none _ 195 172 _ [.int (Int32.ofNat 0)] _ _ _ _
          refine hs_if0 (c := .ne) (t := 177) (f := 175) (by decide +kernel) (show ¬ (¬ Int32.ofNat 0 = 0) by decide) ?_
          refine hs_k (x := Int32.ofNat 0) (p := 176) (by decide +kernel) ?_
          refine hs_zret (by decide +kernel) (.inl rfl) ?_
          exact h0 _ _ _ _ _ (by omega) (by omega) (by omega) (by omega) f169
theorem rp_allL (hE : rp_E G am aw ta F0 en TP) (hA : (rp_SP G am aw en F0 195 [some (.ref am), none, none] (d + 9) dp)) {s0 p0 : Nat} {W0 : Nat → Int32} (h1 : ∀ b x s W', p0 < x → b ≤ x → x ≤ en → s0 < s → s + p0 ≤ s0 + x → gq_P W' s0 s → gq_F W0 W' s0 → Z (.inl (some (.int (Int32.ofNat 1))), (hm_H G am aw (rp_F F0 x b s dp) W'), 0, 0)) (h0 : ∀ b x s q W', b ≤ x → x ≤ en → s ≤ x → q ≤ 6 → gq_F W0 W' s0 → Z (.inl (some (.int (Int32.ofNat 0))), (hm_H G am aw (rp_F F0 x b s q) W'), 0, 0)) (hs : s0 ≤ p0) (hd : dp ≤ 6) (hp : pt ≤ en) (hb : bg ≤ pt) (hg : gq_P W s0 st) (hf : gq_F W0 W s0) (h2 : s0 < st) (h3 : p0 < pt) (h4 : st + p0 ≤ s0 + pt) : et_go none (d + 10) 194 9 [some (.ref am)] [] (hm_H G am aw (rp_F F0 pt bg st dp) W) 0 0 Z := by
  have he := hE.2.2.2.2.2
  induction hm : en - pt using Nat.strongRecOn generalizing pt bg st W with
  | _ n ih =>
    refine hs_aload (i := 0) (p := 10) (by decide +kernel) rfl ?_
    refine hs_kld (v := .ref 58) (p := 12) (by decide +kernel) ?_
    refine hm_call hE.1 (mi := 192) (na := 1) (lk := 1) (lm := 2) (by decide +kernel) rfl rfl rfl rfl rfl rfl (rp_passes hE (by omega) (j := 22) (by decide) (by decide +kernel) (fun b12 x12 p12 q12 r12 => hs_cb ?_) (fun b12 x12 p12 q12 r12 => hs_cb ?_))
    · show et_go none _ 194 15 _ [.int (Int32.ofNat 1)] _ _ _ _
      refine hs_if0 (c := .eq) (t := 37) (f := 18) (by decide +kernel) (show ¬ (Int32.ofNat 1 = 0) by decide) ?_
      refine hs_aload (i := 0) (p := 19) (by decide +kernel) rfl ?_
      refine hm_call hE.1 (mi := 195) (na := 0) (lk := 1) (lm := 3) (by decide +kernel) rfl rfl rfl rfl rfl rfl (hA _ _ _ _ _ (by omega) (by omega) (fun b19 x19 s19 W19 k19 l19 m19 n19 o19 g19 f19 => hs_cb ?_) (fun b19 x19 s19 q19 W19 k19 l19 m19 n19 f19 => hs_cb ?_))
      · show et_go none _ 194 22 _ [.int (Int32.ofNat 1)] _ _ _ _
        refine hs_if1 (c := .ne) (t := 27) (f := 25) (by decide +kernel) (show ¬ Int32.ofNat 1 = 0 by decide) ?_
        refine hs_aload (i := 0) (p := 28) (by decide +kernel) rfl ?_
        refine hs_k (x := Int32.ofNat 19) (p := 30) (by decide +kernel) ?_
        refine hs_k (x := Int32.ofNat 0) (p := 31) (by decide +kernel) ?_
        refine hm_call hE.1 (mi := 197) (na := 2) (lk := 1) (lm := 4) (by decide +kernel) rfl rfl rfl rfl rfl rfl (rp_emits hE (by omega) (fun V31 g31 => hs_cb ?_))
        show et_go none _ 194 34 _ [] _ _ _ _
        refine hs_goto (p := 9) (by decide +kernel) ?_
        exact ih (en - x19) (by omega) (by omega) (by omega) (gq_bin (hg.fr f19 (by omega)) g19 g31 (by decide +kernel)) ((hf.tr f19 (by omega)).tr g31.2 (by omega)) (by omega) (by omega) (by omega) rfl
      · show et_go none _ 194 22 _ [.int (Int32.ofNat 0)] _ _ _ _
        refine hs_if0 (c := .ne) (t := 27) (f := 25) (by decide +kernel) (show ¬ (¬ Int32.ofNat 0 = 0) by decide) ?_
        refine hs_k (x := Int32.ofNat 0) (p := 26) (by decide +kernel) ?_
        refine hs_zret (by decide +kernel) (.inl rfl) ?_
        exact h0 _ _ _ _ _ (by omega) (by omega) (by omega) (by omega) (hf.tr f19 (by omega))
    · show et_go none _ 194 15 _ [.int (Int32.ofNat 0)] _ _ _ _
      refine hs_if1 (c := .eq) (t := 37) (f := 18) (by decide +kernel) (show Int32.ofNat 0 = 0 by decide) ?_
      refine hs_k (x := Int32.ofNat 1) (p := 38) (by decide +kernel) ?_
      refine hs_zret (by decide +kernel) (.inr rfl) ?_
      exact h1 _ _ _ _ (by omega) (by omega) (by omega) (by omega) (by omega) hg hf
theorem rp_all (hE : rp_E G am aw ta F0 en TP) (hd : dp ≤ 6) (hA : (rp_SP G am aw en F0 195 [some (.ref am), none, none] (d + 9) dp)) : rp_SP G am aw en F0 194 [some (.ref am)] (d + 10) dp := by
  intro pt bg st W Z hp hs h1 h0
  have he := hE.2.2.2.2.2
  refine hs_aload (i := 0) (p := 1) (by decide +kernel) rfl ?_
  refine hm_call hE.1 (mi := 195) (na := 0) (lk := 1) (lm := 3) (by decide +kernel) rfl rfl rfl rfl rfl rfl (hA _ _ _ _ _ (by omega) (by omega) (fun b1 x1 s1 W1 k1 l1 m1 n1 o1 g1 f1 => hs_cb ?_) (fun b1 x1 s1 q1 W1 k1 l1 m1 n1 f1 => hs_cb ?_))
  · show et_go none _ 194 4 _ [.int (Int32.ofNat 1)] _ _ _ _
    refine hs_if1 (c := .ne) (t := 9) (f := 7) (by decide +kernel) (show ¬ Int32.ofNat 1 = 0 by decide) ?_
    exact rp_allL hE hA h1 h0 hs hd (by omega) (by omega) g1 f1 (by omega) (by omega) (by omega)
  · show et_go none _ 194 4 _ [.int (Int32.ofNat 0)] _ _ _ _
    refine hs_if0 (c := .ne) (t := 9) (f := 7) (by decide +kernel) (show ¬ (¬ Int32.ofNat 0 = 0) by decide) ?_
    refine hs_k (x := Int32.ofNat 0) (p := 8) (by decide +kernel) ?_
    refine hs_zret (by decide +kernel) (.inl rfl) ?_
    exact h0 _ _ _ _ _ (by omega) (by omega) (by omega) (by omega) f1
theorem rp_conL (hE : rp_E G am aw ta F0 en TP) (hA : (rp_SP G am aw en F0 194 [some (.ref am)] (d + 10) dp)) {s0 p0 : Nat} {W0 : Nat → Int32} (h1 : ∀ b x s W', p0 < x → b ≤ x → x ≤ en → s0 < s → s + p0 ≤ s0 + x → gq_P W' s0 s → gq_F W0 W' s0 → Z (.inl (some (.int (Int32.ofNat 1))), (hm_H G am aw (rp_F F0 x b s dp) W'), 0, 0)) (h0 : ∀ b x s q W', b ≤ x → x ≤ en → s ≤ x → q ≤ 6 → gq_F W0 W' s0 → Z (.inl (some (.int (Int32.ofNat 0))), (hm_H G am aw (rp_F F0 x b s q) W'), 0, 0)) (hs : s0 ≤ p0) (hd : dp ≤ 6) (hp : pt ≤ en) (hb : bg ≤ pt) (hg : gq_P W s0 st) (hf : gq_F W0 W s0) (h2 : s0 < st) (h3 : p0 < pt) (h4 : st + p0 ≤ s0 + pt) : et_go none (d + 11) 193 9 [some (.ref am)] [] (hm_H G am aw (rp_F F0 pt bg st dp) W) 0 0 Z := by
  have he := hE.2.2.2.2.2
  induction hm : en - pt using Nat.strongRecOn generalizing pt bg st W with
  | _ n ih =>
    refine hs_aload (i := 0) (p := 10) (by decide +kernel) rfl ?_
    refine hs_kld (v := .ref 59) (p := 12) (by decide +kernel) ?_
    refine hm_call hE.1 (mi := 192) (na := 1) (lk := 1) (lm := 2) (by decide +kernel) rfl rfl rfl rfl rfl rfl (rp_passes hE (by omega) (j := 23) (by decide) (by decide +kernel) (fun b12 x12 p12 q12 r12 => hs_cb ?_) (fun b12 x12 p12 q12 r12 => hs_cb ?_))
    · show et_go none _ 193 15 _ [.int (Int32.ofNat 1)] _ _ _ _
      refine hs_if0 (c := .eq) (t := 37) (f := 18) (by decide +kernel) (show ¬ (Int32.ofNat 1 = 0) by decide) ?_
      refine hs_aload (i := 0) (p := 19) (by decide +kernel) rfl ?_
      refine hm_call hE.1 (mi := 194) (na := 0) (lk := 1) (lm := 1) (by decide +kernel) rfl rfl rfl rfl rfl rfl (hA _ _ _ _ _ (by omega) (by omega) (fun b19 x19 s19 W19 k19 l19 m19 n19 o19 g19 f19 => hs_cb ?_) (fun b19 x19 s19 q19 W19 k19 l19 m19 n19 f19 => hs_cb ?_))
      · show et_go none _ 193 22 _ [.int (Int32.ofNat 1)] _ _ _ _
        refine hs_if1 (c := .ne) (t := 27) (f := 25) (by decide +kernel) (show ¬ Int32.ofNat 1 = 0 by decide) ?_
        refine hs_aload (i := 0) (p := 28) (by decide +kernel) rfl ?_
        refine hs_k (x := Int32.ofNat 20) (p := 30) (by decide +kernel) ?_
        refine hs_k (x := Int32.ofNat 0) (p := 31) (by decide +kernel) ?_
        refine hm_call hE.1 (mi := 197) (na := 2) (lk := 1) (lm := 4) (by decide +kernel) rfl rfl rfl rfl rfl rfl (rp_emits hE (by omega) (fun V31 g31 => hs_cb ?_))
        show et_go none _ 193 34 _ [] _ _ _ _
        refine hs_goto (p := 9) (by decide +kernel) ?_
        exact ih (en - x19) (by omega) (by omega) (by omega) (gq_bin (hg.fr f19 (by omega)) g19 g31 (by decide +kernel)) ((hf.tr f19 (by omega)).tr g31.2 (by omega)) (by omega) (by omega) (by omega) rfl
      · show et_go none _ 193 22 _ [.int (Int32.ofNat 0)] _ _ _ _
        refine hs_if0 (c := .ne) (t := 27) (f := 25) (by decide +kernel) (show ¬ (¬ Int32.ofNat 0 = 0) by decide) ?_
        refine hs_k (x := Int32.ofNat 0) (p := 26) (by decide +kernel) ?_
        refine hs_zret (by decide +kernel) (.inl rfl) ?_
        exact h0 _ _ _ _ _ (by omega) (by omega) (by omega) (by omega) (hf.tr f19 (by omega))
    · show et_go none _ 193 15 _ [.int (Int32.ofNat 0)] _ _ _ _
      refine hs_if1 (c := .eq) (t := 37) (f := 18) (by decide +kernel) (show Int32.ofNat 0 = 0 by decide) ?_
      refine hs_k (x := Int32.ofNat 1) (p := 38) (by decide +kernel) ?_
      refine hs_zret (by decide +kernel) (.inr rfl) ?_
      exact h1 _ _ _ _ (by omega) (by omega) (by omega) (by omega) (by omega) hg hf
theorem rp_con (hE : rp_E G am aw ta F0 en TP) (hd : dp ≤ 6) (hA : (rp_SP G am aw en F0 194 [some (.ref am)] (d + 10) dp)) : rp_SP G am aw en F0 193 [some (.ref am)] (d + 11) dp := by
  intro pt bg st W Z hp hs h1 h0
  have he := hE.2.2.2.2.2
  refine hs_aload (i := 0) (p := 1) (by decide +kernel) rfl ?_
  refine hm_call hE.1 (mi := 194) (na := 0) (lk := 1) (lm := 1) (by decide +kernel) rfl rfl rfl rfl rfl rfl (hA _ _ _ _ _ (by omega) (by omega) (fun b1 x1 s1 W1 k1 l1 m1 n1 o1 g1 f1 => hs_cb ?_) (fun b1 x1 s1 q1 W1 k1 l1 m1 n1 f1 => hs_cb ?_))
  · show et_go none _ 193 4 _ [.int (Int32.ofNat 1)] _ _ _ _
    refine hs_if1 (c := .ne) (t := 9) (f := 7) (by decide +kernel) (show ¬ Int32.ofNat 1 = 0 by decide) ?_
    exact rp_conL hE hA h1 h0 hs hd (by omega) (by omega) g1 f1 (by omega) (by omega) (by omega)
  · show et_go none _ 193 4 _ [.int (Int32.ofNat 0)] _ _ _ _
    refine hs_if0 (c := .ne) (t := 9) (f := 7) (by decide +kernel) (show ¬ (¬ Int32.ofNat 0 = 0) by decide) ?_
    refine hs_k (x := Int32.ofNat 0) (p := 8) (by decide +kernel) ?_
    refine hs_zret (by decide +kernel) (.inl rfl) ?_
    exact h0 _ _ _ _ _ (by omega) (by omega) (by omega) (by omega) f1
theorem rp_rec (hE : rp_E G am aw ta F0 en TP) {kd : Int32} (hk : F0 13 = .int kd) : ∀ (n dp d : Nat), dp + n = 6 → (rp_SP G am aw en F0 195 [some (.ref am), none, none] (d + 9 + 3 * n) dp) ∧ (rp_SP G am aw en F0 193 [some (.ref am)] (d + 11 + 3 * n) dp)
  | 0, dp, d, h => by
    have hA := rp_atom (d := d) (dp := dp) hE hk (by omega) (fun h => by omega) (fun h => by omega)
    exact ⟨hA, rp_con hE (by omega) (rp_all hE (by omega) hA)⟩
  | n + 1, dp, d, h => by
    have i1 := rp_rec hE hk n (dp + 1) d (by omega)
    have i2 := rp_rec hE hk n (dp + 1) (d + 2) (by omega)
    have hA := rp_atom (d := d + 3 * (n + 1)) (dp := dp) hE hk (by omega) (fun _ => by
      rw [show d + 3 * (n + 1) + 8 = d + 11 + 3 * n by omega]
      exact i1.2) (fun _ => by
      rw [show d + 3 * (n + 1) + 8 = d + 2 + 9 + 3 * n by omega]
      exact i2.1)
    refine ⟨?_, ?_⟩
    · rw [show d + 9 + 3 * (n + 1) = d + 3 * (n + 1) + 9 by omega]
      exact hA
    · rw [show d + 11 + 3 * (n + 1) = d + 3 * (n + 1) + 11 by omega]
      exact rp_con hE (by omega) (rp_all hE (by omega) hA)
end RPE
end
section
/-! BY HAND: the reference's texts -/
/-- the draft is a text: k for a TURNER's -/
def gq_D (W : Nat → Int32) (s : Nat) (k : Prop) : Prop := ∃ l, W 11900 = Int32.ofNat l ∧ l ≤ 10 ∧ (k ∨ 1 ≤ l) ∧ ∀ n, n < l → gq_L W 11900 n s
def gq_X (W W' : Nat → Int32) : Prop := ∀ i, i < 11900 → W' i = W i
def gq_N (W W' : Nat → Int32) (n s : Nat) : Prop := ∀ i, (i < 11901 + 4 * n ∨ (11941 ≤ i ∧ i < 11941 + 2 * s)) → W' i = W i
theorem hs_us {f : Nat → Int32} {k : Nat} {x : Int32} : upd f k x k = x := if_pos rfl
theorem hs_un {f : Nat → Int32} {k j : Nat} {x : Int32} (h : j ≠ k) : upd f k x j = f j := if_neg h
theorem gq_X.rf {W : Nat → Int32} : gq_X W W := fun _ _ => rfl
theorem gq_X.tr {W W1 W2 : Nat → Int32} (h : gq_X W W1) (h' : gq_X W1 W2) : gq_X W W2 := fun i hi => (h' i hi).trans (h i hi)
theorem gq_X.up {W W1 : Nat → Int32} {k : Nat} {x : Int32} (h : gq_X W W1) (hk : 11900 ≤ k) : gq_X W (upd W1 k x) := fun i hi => (hs_un (by omega)).trans (h i hi)
theorem gq_F.X {W W1 : Nat → Int32} {s : Nat} (h : gq_F W W1 s) : gq_X W W1 := fun i hi => h i (by omega)
theorem gq_L.mono {W : Nat → Int32} {X n s t : Nat} (h : gq_L W X n s) (hs : s ≤ t) : gq_L W X n t := by
  obtain ⟨a, b, h1, h2, h3, h4⟩ := h
  exact ⟨a, b, h1, h2, Nat.le_trans h3 hs, h4⟩
/-- a line goes on being good -/
theorem gq_L.go {W W' : Nat → Int32} {m n s : Nat} (h : gq_L W 11900 m s) (hm : m < n) (hf : gq_N W W' n s) : gq_L W' 11900 m s := by
  obtain ⟨a, b, h1, h2, h3, h4⟩ := h
  refine ⟨a, b, (hf _ (.inl (by omega))).trans h1, (hf _ (.inl (by omega))).trans h2, h3, ?_⟩
  rcases h4 with h4 | ⟨h4, h5⟩
  · exact .inl h4
  · refine .inr ⟨h4, fun dp => ?_⟩
    rw [gq_same (B := 11900 + 41) (B' := 11900 + 41) (W := W) (W' := W') (b - a) a (fun j h1 h2 => hf _ (.inr (by omega)))]
    exact h5 dp
theorem gq_one {W W' : Nat → Int32} {s : Nat} {k : Prop} (hf : gq_F (upd (upd W 11900 (Int32.ofNat 1)) 11903 (Int32.ofNat 0)) W' 0) (hg : gq_P W' 0 s) : gq_D (upd W' 11904 (Int32.ofNat s)) s k ∧ gq_X W (upd W' 11904 (Int32.ofNat s)) := by
  refine ⟨⟨1, ?_, by omega, .inr (Nat.le_refl _), fun n hn => ?_⟩, fun i hi => ?_⟩
  · rw [hs_un (by omega), hf _ (by omega), hs_un (by omega), hs_us]
  · obtain rfl : n = 0 := by omega
    refine ⟨0, s, ?_, hs_us, Nat.le_refl _, .inr ⟨Nat.zero_le _, fun dp => ?_⟩⟩
    · show upd W' 11904 (Int32.ofNat s) 11903 = _
      rw [hs_un (by omega), hf _ (by omega), hs_us]
    · rw [gq_same (B := 11941) (B' := 11900 + 41) (W := W') _ _ (fun j h1 h2 => hs_un (by omega))]
      exact hg.2 dp
  · rw [hs_un (by omega), hf _ (by omega), hs_un (by omega), hs_un (by omega)]
theorem hm_rwv {d k pc ck sk am aw : Nat} {L : eg_Ls} {r : List Value} {G : eg_G} {Z : eg_O → Prop} {F : Nat → Value} {W : Nat → Int32} {x : Int32} {p n : Nat} (hA : hm_ok G am aw) (hc : hs_o k pc = some (.iaload, p)) (hn : n < 12741) (hx : W n = x) (h : et_go none d k p L (.int x :: r) (hm_H G am aw F W) ck sk Z) : et_go none d k pc L (.int (Int32.ofNat n) :: .ref aw :: r) (hm_H G am aw F W) ck sk Z :=
  hm_rw hA hc hn (by rw [hx]; exact h)
section RPF
variable {d am aw ta en pt bg st dp : Nat} {G : eg_G} {F0 : Nat → Value} {TP W : Nat → Int32} {Z : eg_O → Prop}
theorem rp_one (hE : rp_E G am aw ta F0 en TP) {kd : Int32} (hk : F0 13 = .int kd) (hp : pt ≤ en) (h1 : ∀ b x s q W', b ≤ x → x ≤ en → s ≤ x → q ≤ 6 → gq_X W W' → gq_D W' s False → Z (.inl (some (.int (Int32.ofNat 1))), (hm_H G am aw (rp_F F0 x b s q) W'), 0, 0)) (h0 : ∀ b x s q W', b ≤ x → x ≤ en → s ≤ x → q ≤ 6 → gq_X W W' → Z (.inl (some (.int (Int32.ofNat 0))), (hm_H G am aw (rp_F F0 x b s q) W'), 0, 0)) : et_go none (d + 30) 203 0 [some (.ref am), none] [] (hm_H G am aw (rp_F F0 pt bg 0 dp) W) 0 0 Z := by
  have he := hE.2.2.2.2.2
  refine hs_aload (i := 0) (p := 1) (by decide +kernel) rfl ?_
  refine hs_k (x := Int32.ofNat 0) (p := 2) (by decide +kernel) ?_
  refine hm_put hE.1 (f := 9) (ty := .int) (p := 5) (by decide +kernel) rfl rfl rp_p9 ?_
  refine hs_k (x := Int32.ofNat 14) (p := 7) (by decide +kernel) ?_
  refine hs_k (x := Int32.ofNat 0) (p := 8) (by decide +kernel) ?_
  refine hs_calls (mi := 189) (na := 2) (lk := 2) (lm := 2) (by decide +kernel) rfl rfl rfl rfl rfl rfl rfl (rp_lineAt (hs_cb ?_))
  show et_go none _ 203 11 _ [.int (Int32.ofNat (126 + 841 * 14 + 1 + 4 * 0))] _ _ _ _
  refine hs_istore (i := 1) (p := 12) (by decide +kernel) (Nat.le_of_ble_eq_true rfl) ?_
  refine hs_aload (i := 0) (p := 13) (by decide +kernel) rfl ?_
  refine hm_get hE.1 (f := 1) (p := 16) (by decide +kernel) rfl hE.2.2.1 ?_
  refine hs_k (x := Int32.ofNat 14) (p := 18) (by decide +kernel) ?_
  refine hs_calls (mi := 186) (na := 1) (lk := 2) (lm := 1) (by decide +kernel) rfl rfl rfl rfl rfl rfl rfl (rp_textAt (hs_cb ?_))
  show et_go none _ 203 21 _ [.int (Int32.ofNat (126 + 841 * 14)), .ref aw] _ _ _ _
  refine hs_k (x := Int32.ofNat 1) (p := 22) (by decide +kernel) ?_
  refine hm_ww hE.1 (p := 23) (by decide +kernel) (by omega) ?_
  refine hs_aload (i := 0) (p := 24) (by decide +kernel) rfl ?_
  refine hm_get hE.1 (f := 1) (p := 27) (by decide +kernel) rfl hE.2.2.1 ?_
  refine hs_iload (i := 1) (p := 28) (by decide +kernel) rfl ?_
  refine hs_k (x := Int32.ofNat 2) (p := 29) (by decide +kernel) ?_
  refine hs_iaddn (p := 30) (by decide +kernel) ?_
  refine hs_k (x := Int32.ofNat 0) (p := 31) (by decide +kernel) ?_
  refine hm_ww hE.1 (p := 32) (by decide +kernel) (by omega) ?_
  refine hs_aload (i := 0) (p := 33) (by decide +kernel) rfl ?_
  refine hm_call hE.1 (mi := 193) (na := 0) (lk := 2) (lm := 1) (by decide +kernel) rfl rfl rfl rfl rfl rfl ((rp_rec hE hk 6 0 d rfl).2 _ _ _ _ _ (by omega) (by omega) (fun b33 x33 s33 W33 k33 l33 m33 n33 o33 g33 f33 => hs_cb ?_) (fun b33 x33 s33 q33 W33 k33 l33 m33 n33 f33 => hs_cb ?_))
  · show et_go none _ 203 36 _ [.int (Int32.ofNat 1)] _ _ _ _
    refine hs_if1 (c := .ne) (t := 41) (f := 39) (by decide +kernel) (show ¬ Int32.ofNat 1 = 0 by decide) ?_
    refine hs_aload (i := 0) (p := 42) (by decide +kernel) rfl ?_
    refine hm_get hE.1 (f := 1) (p := 45) (by decide +kernel) rfl hE.2.2.1 ?_
    refine hs_iload (i := 1) (p := 46) (by decide +kernel) rfl ?_
    refine hs_k (x := Int32.ofNat 3) (p := 47) (by decide +kernel) ?_
    refine hs_iaddn (p := 48) (by decide +kernel) ?_
    refine hs_aload (i := 0) (p := 49) (by decide +kernel) rfl ?_
    refine hm_get hE.1 (f := 12) (p := 52) (by decide +kernel) rfl rfl ?_
    refine hm_ww hE.1 (p := 53) (by decide +kernel) (by omega) ?_
    refine hs_aload (i := 0) (p := 54) (by decide +kernel) rfl ?_
    refine hm_call hE.1 (mi := 184) (na := 0) (lk := 2) (lm := 1) (by decide +kernel) rfl rfl rfl rfl rfl rfl (rp_blanks hE (by omega) (fun x54 y54 z54 => hs_cb ?_))
    show et_go none _ 203 57 _ [] _ _ _ _
    refine hs_aload (i := 0) (p := 58) (by decide +kernel) rfl ?_
    refine hm_get hE.1 (f := 6) (p := 61) (by decide +kernel) rfl rfl ?_
    refine hs_aload (i := 0) (p := 62) (by decide +kernel) rfl ?_
    refine hm_get hE.1 (f := 7) (p := 65) (by decide +kernel) rfl hE.2.2.2.2.1 ?_
    refine hs_br2n (c := .ne) (t := 72) (f := 68) (by decide +kernel) (by omega) (by omega) (fun (c65 : ¬ x54 = en) => ?_) (fun (c65 : ¬ (¬ x54 = en)) => ?_)
    · refine hs_k (x := Int32.ofNat 0) (p := 73) (by decide +kernel) ?_
      refine hs_zret (by decide +kernel) (.inl rfl) ?_
      exact h0 _ _ _ _ _ (by omega) (by omega) (by omega) (by omega) (gq_one (k := False) f33 g33).2
    · refine hs_k (x := Int32.ofNat 1) (p := 69) (by decide +kernel) ?_
      refine hs_goto (p := 73) (by decide +kernel) ?_
      refine hs_zret (by decide +kernel) (.inr rfl) ?_
      exact h1 _ _ _ _ _ (by omega) (by omega) (by omega) (by omega) (gq_one (k := False) f33 g33).2 ((gq_one (k := False) f33 g33).1) 
  · show et_go none _ 203 36 _ [.int (Int32.ofNat 0)] _ _ _ _
    refine hs_if0 (c := .ne) (t := 41) (f := 39) (by decide +kernel) (show ¬ (¬ Int32.ofNat 0 = 0) by decide) ?_
    refine hs_k (x := Int32.ofNat 0) (p := 40) (by decide +kernel) ?_
    refine hs_zret (by decide +kernel) (.inl rfl) ?_
    exact h0 _ _ _ _ _ (by omega) (by omega) (by omega) (by omega) (fun i hi => (f33 i (by omega)).trans ((hs_un (by omega)).trans (hs_un (by omega))))
theorem rp_line (hE : rp_E G am aw ta F0 en TP) {kd : Int32} (hk : F0 13 = .int kd) (hp : pt ≤ en) (hs : st ≤ pt) (hd : dp ≤ 6) {n : Nat} (hn : n ≤ 10) (h1 : ∀ b x s q W', b ≤ x → x ≤ en → pt < x → st ≤ s → s + pt ≤ st + x → q ≤ 6 → n < 10 → gq_L W' 11900 n s → gq_N W W' n st → Z (.inl (some (.int (Int32.ofNat 1))), (hm_H G am aw (rp_F F0 x b s q) W'), 0, 0)) (h0 : ∀ b x s q W', b ≤ x → x ≤ en → s ≤ x → q ≤ 6 → gq_X W W' → Z (.inl (some (.int (Int32.ofNat 0))), (hm_H G am aw (rp_F F0 x b s q) W'), 0, 0)) : et_go none (d + 30) 187 0 [some (.ref am), some (.int (Int32.ofNat n)), none] [] (hm_H G am aw (rp_F F0 pt bg st dp) W) 0 0 Z := by
  have he := hE.2.2.2.2.2
  refine hs_aload (i := 0) (p := 1) (by decide +kernel) rfl ?_
  refine hm_call hE.1 (mi := 188) (na := 0) (lk := 3) (lm := 1) (by decide +kernel) rfl rfl rfl rfl rfl rfl (rp_letters hE (by omega) (fun b1 x1 y1 z1 w1 => hs_cb ?_))
  show et_go none _ 187 4 _ [] _ _ _ _
  refine hs_iload (i := 1) (p := 5) (by decide +kernel) rfl ?_
  refine hs_k (x := Int32.ofNat 10) (p := 7) (by decide +kernel) ?_
  refine hs_br2n (c := .ne) (t := 12) (f := 10) (by decide +kernel) (by omega) (by omega) (fun (c7 : ¬ n = 10) => ?_) (fun (c7 : ¬ (¬ n = 10)) => ?_)
  · refine hs_k (x := Int32.ofNat 14) (p := 14) (by decide +kernel) ?_
    refine hs_iload (i := 1) (p := 15) (by decide +kernel) rfl ?_
    refine hs_calls (mi := 189) (na := 2) (lk := 3) (lm := 2) (by decide +kernel) rfl rfl rfl rfl rfl rfl rfl (rp_lineAt (hs_cb ?_))
    show et_go none _ 187 18 _ [.int (Int32.ofNat (126 + 841 * 14 + 1 + 4 * n))] _ _ _ _
    refine hs_istore (i := 2) (p := 19) (by decide +kernel) (Nat.le_of_ble_eq_true rfl) ?_
    refine hs_aload (i := 0) (p := 20) (by decide +kernel) rfl ?_
    refine hm_get hE.1 (f := 1) (p := 23) (by decide +kernel) rfl hE.2.2.1 ?_
    refine hs_iload (i := 2) (p := 24) (by decide +kernel) rfl ?_
    refine hs_aload (i := 0) (p := 25) (by decide +kernel) rfl ?_
    refine hs_kld (v := .ref 36) (p := 27) (by decide +kernel) ?_
    refine hm_call hE.1 (mi := 190) (na := 1) (lk := 3) (lm := 4) (by decide +kernel) rfl rfl rfl rfl rfl rfl (rp_isW hE (by omega) (by omega) (j := 0) (by decide) (by decide +kernel) (fun a27 => hs_cb ?_) (hs_cb ?_))
    · show et_go none _ 187 30 _ [.int (Int32.ofNat 1), .int (Int32.ofNat (126 + 841 * 14 + 1 + 4 * n)), .ref aw] _ _ _ _
      refine hs_if0 (c := .eq) (t := 37) (f := 33) (by decide +kernel) (show ¬ (Int32.ofNat 1 = 0) by decide) ?_
      refine hs_k (x := Int32.ofNat 0) (p := 34) (by decide +kernel) ?_
      refine hs_goto (p := 51) (by decide +kernel) ?_
      refine hm_ww hE.1 (p := 52) (by decide +kernel) (by omega) ?_
      refine hs_aload (i := 0) (p := 53) (by decide +kernel) rfl ?_
      refine hm_get hE.1 (f := 1) (p := 56) (by decide +kernel) rfl hE.2.2.1 ?_
      refine hs_iload (i := 2) (p := 57) (by decide +kernel) rfl ?_
      refine hm_rwv hE.1 (p := 58) (x := Int32.ofNat 0) (by decide +kernel) (by omega) hs_us ?_
      refine hs_if1 (c := .ge) (t := 63) (f := 61) (by decide +kernel) (show 0 ≤ Int32.ofNat 0 by decide) ?_
      refine hs_aload (i := 0) (p := 64) (by decide +kernel) rfl ?_
      refine hm_get hE.1 (f := 1) (p := 67) (by decide +kernel) rfl hE.2.2.1 ?_
      refine hs_iload (i := 2) (p := 68) (by decide +kernel) rfl ?_
      refine hs_k (x := Int32.ofNat 1) (p := 69) (by decide +kernel) ?_
      refine hs_iaddn (p := 70) (by decide +kernel) ?_
      refine hs_aload (i := 0) (p := 71) (by decide +kernel) rfl ?_
      refine hs_k (x := Int32.ofNat 50) (p := 73) (by decide +kernel) ?_
      refine hm_call hE.1 (mi := 191) (na := 1) (lk := 3) (lm := 3) (by decide +kernel) rfl rfl rfl rfl rfl rfl (rp_number hE (by omega) (fun b73 x73 u73 p73 q73 r73 o73 => hs_cb ?_))
      show et_go none _ 187 76 _ [.int u73, .int (Int32.ofNat ((126 + 841 * 14 + 1 + 4 * n) + 1)), .ref aw] _ _ _ _
      refine hm_ww hE.1 (p := 77) (by decide +kernel) (by omega) ?_
      refine hs_aload (i := 0) (p := 78) (by decide +kernel) rfl ?_
      refine hm_get hE.1 (f := 1) (p := 81) (by decide +kernel) rfl hE.2.2.1 ?_
      refine hs_iload (i := 2) (p := 82) (by decide +kernel) rfl ?_
      refine hs_k (x := Int32.ofNat 2) (p := 83) (by decide +kernel) ?_
      refine hs_iaddn (p := 84) (by decide +kernel) ?_
      refine hs_aload (i := 0) (p := 85) (by decide +kernel) rfl ?_
      refine hm_get hE.1 (f := 12) (p := 88) (by decide +kernel) rfl rfl ?_
      refine hm_ww hE.1 (p := 89) (by decide +kernel) (by omega) ?_
      refine hs_aload (i := 0) (p := 90) (by decide +kernel) rfl ?_
      refine hm_get hE.1 (f := 1) (p := 93) (by decide +kernel) rfl hE.2.2.1 ?_
      refine hs_iload (i := 2) (p := 94) (by decide +kernel) rfl ?_
      refine hs_k (x := Int32.ofNat 1) (p := 95) (by decide +kernel) ?_
      refine hs_iaddn (p := 96) (by decide +kernel) ?_
      refine hm_rwv hE.1 (p := 97) (x := u73) (by decide +kernel) (by omega) ((hs_un (by omega)).trans hs_us) ?_
      refine hs_br1 (c := .ge) (t := 102) (f := 100) (by decide +kernel) (fun (c97 : 0 ≤ u73) => ?_) (fun (c97 : ¬ (0 ≤ u73)) => ?_)
      · have := o73 c97
        refine hs_aload (i := 0) (p := 103) (by decide +kernel) rfl ?_
        refine hs_k (x := Int32.ofNat 0) (p := 104) (by decide +kernel) ?_
        refine hm_put hE.1 (f := 9) (ty := .int) (p := 107) (by decide +kernel) rfl rfl rp_p9 ?_
        refine hs_aload (i := 0) (p := 108) (by decide +kernel) rfl ?_
        refine hs_kld (v := .ref 38) (p := 110) (by decide +kernel) ?_
        refine hm_call hE.1 (mi := 192) (na := 1) (lk := 3) (lm := 2) (by decide +kernel) rfl rfl rfl rfl rfl rfl (rp_passes hE (by omega) (j := 2) (by decide) (by decide +kernel) (fun b110 x110 p110 q110 r110 => hs_cb ?_) (fun b110 x110 p110 q110 r110 => hs_cb ?_))
        · show et_go none _ 187 113 _ [.int (Int32.ofNat 1)] _ _ _ _
          refine hs_if0 (c := .eq) (t := 125) (f := 116) (by decide +kernel) (show ¬ (Int32.ofNat 1 = 0) by decide) ?_
          refine hs_aload (i := 0) (p := 117) (by decide +kernel) rfl ?_
          refine hm_call hE.1 (mi := 193) (na := 0) (lk := 3) (lm := 1) (by decide +kernel) rfl rfl rfl rfl rfl rfl ((rp_rec hE hk 6 0 d rfl).2 _ _ _ _ _ (by omega) (by omega) (fun b117 x117 s117 W117 k117 l117 m117 n117 o117 g117 f117 => hs_cb ?_) (fun b117 x117 s117 q117 W117 k117 l117 m117 n117 f117 => hs_cb ?_))
          · show et_go none _ 187 120 _ [.int (Int32.ofNat 1)] _ _ _ _
            refine hs_if1 (c := .ne) (t := 125) (f := 123) (by decide +kernel) (show ¬ Int32.ofNat 1 = 0 by decide) ?_
            refine hs_aload (i := 0) (p := 126) (by decide +kernel) rfl ?_
            refine hm_get hE.1 (f := 1) (p := 129) (by decide +kernel) rfl hE.2.2.1 ?_
            refine hs_iload (i := 2) (p := 130) (by decide +kernel) rfl ?_
            refine hs_k (x := Int32.ofNat 3) (p := 131) (by decide +kernel) ?_
            refine hs_iaddn (p := 132) (by decide +kernel) ?_
            refine hs_aload (i := 0) (p := 133) (by decide +kernel) rfl ?_
            refine hm_get hE.1 (f := 12) (p := 136) (by decide +kernel) rfl rfl ?_
            refine hm_ww hE.1 (p := 137) (by decide +kernel) (by omega) ?_
            refine hs_k (x := Int32.ofNat 1) (p := 138) (by decide +kernel) ?_
            refine hs_zret (by decide +kernel) (.inr rfl) ?_
            refine h1 _ _ _ _ _ (by omega) (by omega) (by omega) (by omega) (by omega) (by omega) (by omega) ?_ ?_
            · refine ⟨st, s117, ?_, hs_us, Nat.le_refl _, .inr ⟨by omega, fun dp => ?_⟩⟩
              · rw [hs_un (by omega), f117 _ (by omega), hs_us]
              · rw [gq_same (B := 11941) (B' := 11900 + 41) (W := W117) _ _ (fun j h1 h2 => hs_un (by omega))]
                exact g117.2 dp
            · intro i hi
              rw [hs_un (by omega), f117 i (by omega), hs_un (by omega), hs_un (by omega), hs_un (by omega)]
          · show et_go none _ 187 120 _ [.int (Int32.ofNat 0)] _ _ _ _
            refine hs_if0 (c := .ne) (t := 125) (f := 123) (by decide +kernel) (show ¬ (¬ Int32.ofNat 0 = 0) by decide) ?_
            refine hs_k (x := Int32.ofNat 0) (p := 124) (by decide +kernel) ?_
            refine hs_zret (by decide +kernel) (.inl rfl) ?_
            exact h0 _ _ _ _ _ (by omega) (by omega) (by omega) (by omega) ((((gq_X.rf.up (by omega)).up (by omega)).up (by omega)).tr f117.X)
        · show et_go none _ 187 113 _ [.int (Int32.ofNat 0)] _ _ _ _
          refine hs_if1 (c := .eq) (t := 125) (f := 116) (by decide +kernel) (show Int32.ofNat 0 = 0 by decide) ?_
          refine hs_aload (i := 0) (p := 126) (by decide +kernel) rfl ?_
          refine hm_get hE.1 (f := 1) (p := 129) (by decide +kernel) rfl hE.2.2.1 ?_
          refine hs_iload (i := 2) (p := 130) (by decide +kernel) rfl ?_
          refine hs_k (x := Int32.ofNat 3) (p := 131) (by decide +kernel) ?_
          refine hs_iaddn (p := 132) (by decide +kernel) ?_
          refine hs_aload (i := 0) (p := 133) (by decide +kernel) rfl ?_
          refine hm_get hE.1 (f := 12) (p := 136) (by decide +kernel) rfl rfl ?_
          refine hm_ww hE.1 (p := 137) (by decide +kernel) (by omega) ?_
          refine hs_k (x := Int32.ofNat 1) (p := 138) (by decide +kernel) ?_
          refine hs_zret (by decide +kernel) (.inr rfl) ?_
          refine h1 _ _ _ _ _ (by omega) (by omega) (by omega) (by omega) (by omega) (by omega) (by omega) ?_ ?_
          · refine ⟨st, st, ?_, hs_us, Nat.le_refl _, .inl rfl⟩
            rw [hs_un (by omega), hs_us]
          · intro i hi
            rw [hs_un (by omega), hs_un (by omega), hs_un (by omega), hs_un (by omega)]
      · refine hs_k (x := Int32.ofNat 0) (p := 101) (by decide +kernel) ?_
        refine hs_zret (by decide +kernel) (.inl rfl) ?_
        exact h0 _ _ _ _ _ (by omega) (by omega) (by omega) (by omega) (((gq_X.rf.up (by omega)).up (by omega)).up (by omega))
    · show et_go none _ 187 30 _ [.int (Int32.ofNat 0), .int (Int32.ofNat (126 + 841 * 14 + 1 + 4 * n)), .ref aw] _ _ _ _
      refine hs_if1 (c := .eq) (t := 37) (f := 33) (by decide +kernel) (show Int32.ofNat 0 = 0 by decide) ?_
      refine hs_aload (i := 0) (p := 38) (by decide +kernel) rfl ?_
      refine hs_kld (v := .ref 37) (p := 40) (by decide +kernel) ?_
      refine hm_call hE.1 (mi := 190) (na := 1) (lk := 3) (lm := 4) (by decide +kernel) rfl rfl rfl rfl rfl rfl (rp_isW hE (by omega) (by omega) (j := 1) (by decide) (by decide +kernel) (fun a40 => hs_cb ?_) (hs_cb ?_))
      · show et_go none _ 187 43 _ [.int (Int32.ofNat 1), .int (Int32.ofNat (126 + 841 * 14 + 1 + 4 * n)), .ref aw] _ _ _ _
        refine hs_if0 (c := .eq) (t := 50) (f := 46) (by decide +kernel) (show ¬ (Int32.ofNat 1 = 0) by decide) ?_
        refine hs_k (x := Int32.ofNat 1) (p := 47) (by decide +kernel) ?_
        refine hs_goto (p := 51) (by decide +kernel) ?_
        refine hm_ww hE.1 (p := 52) (by decide +kernel) (by omega) ?_
        refine hs_aload (i := 0) (p := 53) (by decide +kernel) rfl ?_
        refine hm_get hE.1 (f := 1) (p := 56) (by decide +kernel) rfl hE.2.2.1 ?_
        refine hs_iload (i := 2) (p := 57) (by decide +kernel) rfl ?_
        refine hm_rwv hE.1 (p := 58) (x := Int32.ofNat 1) (by decide +kernel) (by omega) hs_us ?_
        refine hs_if1 (c := .ge) (t := 63) (f := 61) (by decide +kernel) (show 0 ≤ Int32.ofNat 1 by decide) ?_
        refine hs_aload (i := 0) (p := 64) (by decide +kernel) rfl ?_
        refine hm_get hE.1 (f := 1) (p := 67) (by decide +kernel) rfl hE.2.2.1 ?_
        refine hs_iload (i := 2) (p := 68) (by decide +kernel) rfl ?_
        refine hs_k (x := Int32.ofNat 1) (p := 69) (by decide +kernel) ?_
        refine hs_iaddn (p := 70) (by decide +kernel) ?_
        refine hs_aload (i := 0) (p := 71) (by decide +kernel) rfl ?_
        refine hs_k (x := Int32.ofNat 50) (p := 73) (by decide +kernel) ?_
        refine hm_call hE.1 (mi := 191) (na := 1) (lk := 3) (lm := 3) (by decide +kernel) rfl rfl rfl rfl rfl rfl (rp_number hE (by omega) (fun b73 x73 u73 p73 q73 r73 o73 => hs_cb ?_))
        show et_go none _ 187 76 _ [.int u73, .int (Int32.ofNat ((126 + 841 * 14 + 1 + 4 * n) + 1)), .ref aw] _ _ _ _
        refine hm_ww hE.1 (p := 77) (by decide +kernel) (by omega) ?_
        refine hs_aload (i := 0) (p := 78) (by decide +kernel) rfl ?_
        refine hm_get hE.1 (f := 1) (p := 81) (by decide +kernel) rfl hE.2.2.1 ?_
        refine hs_iload (i := 2) (p := 82) (by decide +kernel) rfl ?_
        refine hs_k (x := Int32.ofNat 2) (p := 83) (by decide +kernel) ?_
        refine hs_iaddn (p := 84) (by decide +kernel) ?_
        refine hs_aload (i := 0) (p := 85) (by decide +kernel) rfl ?_
        refine hm_get hE.1 (f := 12) (p := 88) (by decide +kernel) rfl rfl ?_
        refine hm_ww hE.1 (p := 89) (by decide +kernel) (by omega) ?_
        refine hs_aload (i := 0) (p := 90) (by decide +kernel) rfl ?_
        refine hm_get hE.1 (f := 1) (p := 93) (by decide +kernel) rfl hE.2.2.1 ?_
        refine hs_iload (i := 2) (p := 94) (by decide +kernel) rfl ?_
        refine hs_k (x := Int32.ofNat 1) (p := 95) (by decide +kernel) ?_
        refine hs_iaddn (p := 96) (by decide +kernel) ?_
        refine hm_rwv hE.1 (p := 97) (x := u73) (by decide +kernel) (by omega) ((hs_un (by omega)).trans hs_us) ?_
        refine hs_br1 (c := .ge) (t := 102) (f := 100) (by decide +kernel) (fun (c97 : 0 ≤ u73) => ?_) (fun (c97 : ¬ (0 ≤ u73)) => ?_)
        · have := o73 c97
          refine hs_aload (i := 0) (p := 103) (by decide +kernel) rfl ?_
          refine hs_k (x := Int32.ofNat 0) (p := 104) (by decide +kernel) ?_
          refine hm_put hE.1 (f := 9) (ty := .int) (p := 107) (by decide +kernel) rfl rfl rp_p9 ?_
          refine hs_aload (i := 0) (p := 108) (by decide +kernel) rfl ?_
          refine hs_kld (v := .ref 38) (p := 110) (by decide +kernel) ?_
          refine hm_call hE.1 (mi := 192) (na := 1) (lk := 3) (lm := 2) (by decide +kernel) rfl rfl rfl rfl rfl rfl (rp_passes hE (by omega) (j := 2) (by decide) (by decide +kernel) (fun b110 x110 p110 q110 r110 => hs_cb ?_) (fun b110 x110 p110 q110 r110 => hs_cb ?_))
          · show et_go none _ 187 113 _ [.int (Int32.ofNat 1)] _ _ _ _
            refine hs_if0 (c := .eq) (t := 125) (f := 116) (by decide +kernel) (show ¬ (Int32.ofNat 1 = 0) by decide) ?_
            refine hs_aload (i := 0) (p := 117) (by decide +kernel) rfl ?_
            refine hm_call hE.1 (mi := 193) (na := 0) (lk := 3) (lm := 1) (by decide +kernel) rfl rfl rfl rfl rfl rfl ((rp_rec hE hk 6 0 d rfl).2 _ _ _ _ _ (by omega) (by omega) (fun b117 x117 s117 W117 k117 l117 m117 n117 o117 g117 f117 => hs_cb ?_) (fun b117 x117 s117 q117 W117 k117 l117 m117 n117 f117 => hs_cb ?_))
            · show et_go none _ 187 120 _ [.int (Int32.ofNat 1)] _ _ _ _
              refine hs_if1 (c := .ne) (t := 125) (f := 123) (by decide +kernel) (show ¬ Int32.ofNat 1 = 0 by decide) ?_
              refine hs_aload (i := 0) (p := 126) (by decide +kernel) rfl ?_
              refine hm_get hE.1 (f := 1) (p := 129) (by decide +kernel) rfl hE.2.2.1 ?_
              refine hs_iload (i := 2) (p := 130) (by decide +kernel) rfl ?_
              refine hs_k (x := Int32.ofNat 3) (p := 131) (by decide +kernel) ?_
              refine hs_iaddn (p := 132) (by decide +kernel) ?_
              refine hs_aload (i := 0) (p := 133) (by decide +kernel) rfl ?_
              refine hm_get hE.1 (f := 12) (p := 136) (by decide +kernel) rfl rfl ?_
              refine hm_ww hE.1 (p := 137) (by decide +kernel) (by omega) ?_
              refine hs_k (x := Int32.ofNat 1) (p := 138) (by decide +kernel) ?_
              refine hs_zret (by decide +kernel) (.inr rfl) ?_
              refine h1 _ _ _ _ _ (by omega) (by omega) (by omega) (by omega) (by omega) (by omega) (by omega) ?_ ?_
              · refine ⟨st, s117, ?_, hs_us, Nat.le_refl _, .inr ⟨by omega, fun dp => ?_⟩⟩
                · rw [hs_un (by omega), f117 _ (by omega), hs_us]
                · rw [gq_same (B := 11941) (B' := 11900 + 41) (W := W117) _ _ (fun j h1 h2 => hs_un (by omega))]
                  exact g117.2 dp
              · intro i hi
                rw [hs_un (by omega), f117 i (by omega), hs_un (by omega), hs_un (by omega), hs_un (by omega)]
            · show et_go none _ 187 120 _ [.int (Int32.ofNat 0)] _ _ _ _
              refine hs_if0 (c := .ne) (t := 125) (f := 123) (by decide +kernel) (show ¬ (¬ Int32.ofNat 0 = 0) by decide) ?_
              refine hs_k (x := Int32.ofNat 0) (p := 124) (by decide +kernel) ?_
              refine hs_zret (by decide +kernel) (.inl rfl) ?_
              exact h0 _ _ _ _ _ (by omega) (by omega) (by omega) (by omega) ((((gq_X.rf.up (by omega)).up (by omega)).up (by omega)).tr f117.X)
          · show et_go none _ 187 113 _ [.int (Int32.ofNat 0)] _ _ _ _
            refine hs_if1 (c := .eq) (t := 125) (f := 116) (by decide +kernel) (show Int32.ofNat 0 = 0 by decide) ?_
            refine hs_aload (i := 0) (p := 126) (by decide +kernel) rfl ?_
            refine hm_get hE.1 (f := 1) (p := 129) (by decide +kernel) rfl hE.2.2.1 ?_
            refine hs_iload (i := 2) (p := 130) (by decide +kernel) rfl ?_
            refine hs_k (x := Int32.ofNat 3) (p := 131) (by decide +kernel) ?_
            refine hs_iaddn (p := 132) (by decide +kernel) ?_
            refine hs_aload (i := 0) (p := 133) (by decide +kernel) rfl ?_
            refine hm_get hE.1 (f := 12) (p := 136) (by decide +kernel) rfl rfl ?_
            refine hm_ww hE.1 (p := 137) (by decide +kernel) (by omega) ?_
            refine hs_k (x := Int32.ofNat 1) (p := 138) (by decide +kernel) ?_
            refine hs_zret (by decide +kernel) (.inr rfl) ?_
            refine h1 _ _ _ _ _ (by omega) (by omega) (by omega) (by omega) (by omega) (by omega) (by omega) ?_ ?_
            · refine ⟨st, st, ?_, hs_us, Nat.le_refl _, .inl rfl⟩
              rw [hs_un (by omega), hs_us]
            · intro i hi
              rw [hs_un (by omega), hs_un (by omega), hs_un (by omega), hs_un (by omega)]
        · refine hs_k (x := Int32.ofNat 0) (p := 101) (by decide +kernel) ?_
          refine hs_zret (by decide +kernel) (.inl rfl) ?_
          exact h0 _ _ _ _ _ (by omega) (by omega) (by omega) (by omega) (((gq_X.rf.up (by omega)).up (by omega)).up (by omega))
      · show et_go none _ 187 43 _ [.int (Int32.ofNat 0), .int (Int32.ofNat (126 + 841 * 14 + 1 + 4 * n)), .ref aw] _ _ _ _
        refine hs_if1 (c := .eq) (t := 50) (f := 46) (by decide +kernel) (show Int32.ofNat 0 = 0 by decide) ?_
        refine hs_k (x := (-1)) (p := 51) (by decide +kernel) ?_
        refine hm_ww hE.1 (p := 52) (by decide +kernel) (by omega) ?_
        refine hs_aload (i := 0) (p := 53) (by decide +kernel) rfl ?_
        refine hm_get hE.1 (f := 1) (p := 56) (by decide +kernel) rfl hE.2.2.1 ?_
        refine hs_iload (i := 2) (p := 57) (by decide +kernel) rfl ?_
        refine hm_rwv hE.1 (p := 58) (x := (-1)) (by decide +kernel) (by omega) hs_us ?_
        refine hs_if0 (c := .ge) (t := 63) (f := 61) (by decide +kernel) (show ¬ (0 ≤ (-1 : Int32)) by decide) ?_
        refine hs_k (x := Int32.ofNat 0) (p := 62) (by decide +kernel) ?_
        refine hs_zret (by decide +kernel) (.inl rfl) ?_
        exact h0 _ _ _ _ _ (by omega) (by omega) (by omega) (by omega) (gq_X.rf.up (by omega))
  · refine hs_k (x := Int32.ofNat 0) (p := 11) (by decide +kernel) ?_
    refine hs_zret (by decide +kernel) (.inl rfl) ?_
    exact h0 _ _ _ _ _ (by omega) (by omega) (by omega) (by omega) gq_X.rf
end RPF
end
section
/-! BY HAND: the reference's texts: all of them -/
theorem rp_pO {F0 : Nat → Value} {pt bg st dp f : Nat} {v : Value} (h6 : f ≠ 6) (h8 : f ≠ 8) (h12 : f ≠ 12) (h9 : f ≠ 9) : updV (rp_F F0 pt bg st dp) f v = rp_F (updV F0 f v) pt bg st dp := by
  funext j
  unfold updV rp_F
  by_cases h : j = f
  · subst h
    rw [if_pos rfl, if_neg h6, if_neg h8, if_neg h12, if_neg h9]
    exact (if_pos rfl).symm
  · simp only [if_neg h]
theorem rp_up {G : eg_G} {am aw ta en f : Nat} {F0 : Nat → Value} {TP : Nat → Int32} {v : Value} (hE : rp_E G am aw ta F0 en TP) (h1 : f ≠ 1) (h4 : f ≠ 4) (h7 : f ≠ 7) : rp_E G am aw ta (updV F0 f v) en TP := by
  obtain ⟨a, b, c, e, g, i⟩ := hE
  exact ⟨a, b, (if_neg (Ne.symm h1)).trans c, (if_neg (Ne.symm h4)).trans e, (if_neg (Ne.symm h7)).trans g, i⟩
theorem gq_N.X {W W' : Nat → Int32} {n s : Nat} (h : gq_N W W' n s) : gq_X W W' := fun i hi => h i (.inl (by omega))
theorem gq_L.up0 {W : Nat → Int32} {n s : Nat} {x : Int32} (h : gq_L W 11900 n s) : gq_L (upd W 11900 x) 11900 n s := by
  obtain ⟨a, b, h1, h2, h3, h4⟩ := h
  refine ⟨a, b, (hs_un (by omega)).trans h1, (hs_un (by omega)).trans h2, h3, ?_⟩
  rcases h4 with h4 | ⟨h4, h5⟩
  · exact .inl h4
  · refine .inr ⟨h4, fun dp => ?_⟩
    rw [gq_same (B := 11900 + 41) (B' := 11900 + 41) (W := W) _ _ (fun j h1 h2 => hs_un (by omega))]
    exact h5 dp
section RPG
variable {d am aw ta en pt bg st dp : Nat} {G : eg_G} {F0 : Nat → Value} {TP W : Nat → Int32} {Z : eg_O → Prop}
theorem rp_linesL (hE : rp_E G am aw ta F0 en TP) {kd : Int32} (hk : F0 13 = .int kd) {W0 : Nat → Int32} (hp : pt ≤ en) (hs : st ≤ pt) (hd : dp ≤ 6) {n : Nat} (hn : n ≤ 10) (hg : ∀ m, m < n → gq_L W 11900 m st) (hX : gq_X W0 W) (h1 : ∀ b x s q W', b ≤ x → x ≤ en → s ≤ x → q ≤ 6 → gq_X W0 W' → gq_D W' s True → Z (.inl (some (.int (Int32.ofNat 1))), (hm_H G am aw (rp_F F0 x b s q) W'), 0, 0)) (h0 : ∀ b x s q W', b ≤ x → x ≤ en → s ≤ x → q ≤ 6 → gq_X W0 W' → Z (.inl (some (.int (Int32.ofNat 0))), (hm_H G am aw (rp_F F0 x b s q) W'), 0, 0)) : et_go none (d + 31) 183 30 [some (.ref am), some (.int (Int32.ofNat n))] [] (hm_H G am aw (rp_F F0 pt bg st dp) W) 0 0 Z := by
  have he := hE.2.2.2.2.2
  induction hm : en - pt using Nat.strongRecOn generalizing pt bg st dp n W with
  | _ z ih =>
    refine hs_aload (i := 0) (p := 31) (by decide +kernel) rfl ?_
    refine hs_iload (i := 1) (p := 32) (by decide +kernel) rfl ?_
    refine hm_call hE.1 (mi := 187) (na := 1) (lk := 2) (lm := 3) (by decide +kernel) rfl rfl rfl rfl rfl rfl (rp_line hE hk (by omega) (by omega) hd hn (fun b32 x32 s32 q32 W32 k32 l32 m32 n32 o32 p32 r32 g32 f32 => hs_cb ?_) (fun b32 x32 s32 q32 W32 k32 l32 m32 n32 f32 => hs_cb ?_))
    · have hgo : ∀ m, m < n + 1 → gq_L (upd W32 11900 (Int32.ofNat (n + 1))) 11900 m s32 := fun m hm => by
        by_cases e : m < n
        · exact (((hg m e).go e f32).mono (by omega)).up0
        · obtain rfl : m = n := by omega
          exact g32.up0
      show et_go none _ 183 35 _ [.int (Int32.ofNat 1)] _ _ _ _
      refine hs_if1 (c := .ne) (t := 40) (f := 38) (by decide +kernel) (show ¬ Int32.ofNat 1 = 0 by decide) ?_
      refine hs_aload (i := 0) (p := 41) (by decide +kernel) rfl ?_
      refine hm_get hE.1 (f := 1) (p := 44) (by decide +kernel) rfl hE.2.2.1 ?_
      refine hs_k (x := Int32.ofNat 14) (p := 46) (by decide +kernel) ?_
      refine hs_calls (mi := 186) (na := 1) (lk := 2) (lm := 1) (by decide +kernel) rfl rfl rfl rfl rfl rfl rfl (rp_textAt (hs_cb ?_))
      show et_go none _ 183 49 _ [.int (Int32.ofNat (126 + 841 * 14)), .ref aw] _ _ _ _
      refine hs_iload (i := 1) (p := 50) (by decide +kernel) rfl ?_
      refine hs_k (x := Int32.ofNat 1) (p := 51) (by decide +kernel) ?_
      refine hs_iaddn (p := 52) (by decide +kernel) ?_
      refine hm_ww hE.1 (p := 53) (by decide +kernel) (by omega) ?_
      refine hs_aload (i := 0) (p := 54) (by decide +kernel) rfl ?_
      refine hm_call hE.1 (mi := 184) (na := 0) (lk := 2) (lm := 1) (by decide +kernel) rfl rfl rfl rfl rfl rfl (rp_blanks hE (by omega) (fun x54 y54 z54 => hs_cb ?_))
      show et_go none _ 183 57 _ [] _ _ _ _
      refine hs_aload (i := 0) (p := 58) (by decide +kernel) rfl ?_
      refine hm_get hE.1 (f := 6) (p := 61) (by decide +kernel) rfl rfl ?_
      refine hs_aload (i := 0) (p := 62) (by decide +kernel) rfl ?_
      refine hm_get hE.1 (f := 7) (p := 65) (by decide +kernel) rfl hE.2.2.2.2.1 ?_
      refine hs_br2n (c := .ne) (t := 70) (f := 68) (by decide +kernel) (by omega) (by omega) (fun (c65 : ¬ x54 = en) => ?_) (fun (c65 : ¬ (¬ x54 = en)) => ?_)
      · refine hs_aload (i := 0) (p := 71) (by decide +kernel) rfl ?_
        refine hs_k (x := Int32.ofNat 59) (p := 73) (by decide +kernel) ?_
        refine hs_k (x := Int32.ofNat 59) (p := 75) (by decide +kernel) ?_
        refine hm_call hE.1 (mi := 185) (na := 2) (lk := 2) (lm := 3) (by decide +kernel) rfl rfl rfl rfl rfl rfl (rp_isAt hE (by omega) (fun a75 b75 e75 => hs_cb ?_) (fun a75 => hs_cb ?_))
        · show et_go none _ 183 78 _ [.int (Int32.ofNat 1)] _ _ _ _
          refine hs_if1 (c := .ne) (t := 83) (f := 81) (by decide +kernel) (show ¬ Int32.ofNat 1 = 0 by decide) ?_
          refine hs_aload (i := 0) (p := 84) (by decide +kernel) rfl ?_
          refine hs_dup1 (p := 85) (by decide +kernel) ?_
          refine hm_get hE.1 (f := 6) (p := 88) (by decide +kernel) rfl rfl ?_
          refine hs_k (x := Int32.ofNat 1) (p := 89) (by decide +kernel) ?_
          refine hs_iaddn (p := 90) (by decide +kernel) ?_
          refine hm_put hE.1 (f := 6) (ty := .int) (p := 93) (by decide +kernel) rfl rfl rp_p6 ?_
          refine hs_iinc1 (i := 1) (p := 96) (by decide +kernel) rfl (Nat.le_of_ble_eq_true rfl) ?_
          refine hs_goto (p := 30) (by decide +kernel) ?_
          exact ih (en - (x54 + 1)) (by omega) (by omega) (by omega) (by omega) (by omega) hgo ((hX.tr f32.X).up (by omega)) rfl
        · show et_go none _ 183 78 _ [.int (Int32.ofNat 0)] _ _ _ _
          refine hs_if0 (c := .ne) (t := 83) (f := 81) (by decide +kernel) (show ¬ (¬ Int32.ofNat 0 = 0) by decide) ?_
          refine hs_k (x := Int32.ofNat 0) (p := 82) (by decide +kernel) ?_
          refine hs_zret (by decide +kernel) (.inl rfl) ?_
          exact h0 _ _ _ _ _ (by omega) (by omega) (by omega) (by omega) ((hX.tr f32.X).up (by omega))
      · refine hs_k (x := Int32.ofNat 1) (p := 69) (by decide +kernel) ?_
        refine hs_zret (by decide +kernel) (.inr rfl) ?_
        exact h1 _ _ _ _ _ (by omega) (by omega) (by omega) (by omega) ((hX.tr f32.X).up (by omega)) ⟨n + 1, hs_us, by omega, .inl trivial, hgo⟩
    · show et_go none _ 183 35 _ [.int (Int32.ofNat 0)] _ _ _ _
      refine hs_if0 (c := .ne) (t := 40) (f := 38) (by decide +kernel) (show ¬ (¬ Int32.ofNat 0 = 0) by decide) ?_
      refine hs_k (x := Int32.ofNat 0) (p := 39) (by decide +kernel) ?_
      refine hs_zret (by decide +kernel) (.inl rfl) ?_
      exact h0 _ _ _ _ _ (by omega) (by omega) (by omega) (by omega) (hX.tr f32)
theorem rp_lines (hE : rp_E G am aw ta F0 en TP) {kd : Int32} (hk : F0 13 = .int kd) (hp : pt ≤ en) (hs : st ≤ pt) (hd : dp ≤ 6) (h1 : ∀ b x s q W', b ≤ x → x ≤ en → s ≤ x → q ≤ 6 → gq_X W W' → gq_D W' s True → Z (.inl (some (.int (Int32.ofNat 1))), (hm_H G am aw (rp_F F0 x b s q) W'), 0, 0)) (h0 : ∀ b x s q W', b ≤ x → x ≤ en → s ≤ x → q ≤ 6 → gq_X W W' → Z (.inl (some (.int (Int32.ofNat 0))), (hm_H G am aw (rp_F F0 x b s q) W'), 0, 0)) : et_go none (d + 31) 183 0 [some (.ref am), none] [] (hm_H G am aw (rp_F F0 pt bg st dp) W) 0 0 Z := by
  have he := hE.2.2.2.2.2
  refine hs_aload (i := 0) (p := 1) (by decide +kernel) rfl ?_
  refine hm_call hE.1 (mi := 184) (na := 0) (lk := 2) (lm := 1) (by decide +kernel) rfl rfl rfl rfl rfl rfl (rp_blanks hE (by omega) (fun x1 y1 z1 => hs_cb ?_))
  show et_go none _ 183 4 _ [] _ _ _ _
  refine hs_aload (i := 0) (p := 5) (by decide +kernel) rfl ?_
  refine hm_get hE.1 (f := 1) (p := 8) (by decide +kernel) rfl hE.2.2.1 ?_
  refine hs_k (x := Int32.ofNat 14) (p := 10) (by decide +kernel) ?_
  refine hs_calls (mi := 186) (na := 1) (lk := 2) (lm := 1) (by decide +kernel) rfl rfl rfl rfl rfl rfl rfl (rp_textAt (hs_cb ?_))
  show et_go none _ 183 13 _ [.int (Int32.ofNat (126 + 841 * 14)), .ref aw] _ _ _ _
  refine hs_k (x := Int32.ofNat 0) (p := 14) (by decide +kernel) ?_
  refine hm_ww hE.1 (p := 15) (by decide +kernel) (by omega) ?_
  refine hs_aload (i := 0) (p := 16) (by decide +kernel) rfl ?_
  refine hm_get hE.1 (f := 6) (p := 19) (by decide +kernel) rfl rfl ?_
  refine hs_aload (i := 0) (p := 20) (by decide +kernel) rfl ?_
  refine hm_get hE.1 (f := 7) (p := 23) (by decide +kernel) rfl hE.2.2.2.2.1 ?_
  refine hs_br2n (c := .ne) (t := 28) (f := 26) (by decide +kernel) (by omega) (by omega) (fun (c23 : ¬ x1 = en) => ?_) (fun (c23 : ¬ (¬ x1 = en)) => ?_)
  · refine hs_k (x := Int32.ofNat 0) (p := 29) (by decide +kernel) ?_
    refine hs_istore (i := 1) (p := 30) (by decide +kernel) (Nat.le_of_ble_eq_true rfl) ?_
    exact rp_linesL hE hk (W0 := W) (by omega) (by omega) hd (n := 0) (by omega) (fun m hm => by omega) (gq_X.rf.up (by omega)) h1 h0
  · refine hs_k (x := Int32.ofNat 1) (p := 27) (by decide +kernel) ?_
    refine hs_zret (by decide +kernel) (.inr rfl) ?_
    exact h1 _ _ _ _ _ (by omega) (by omega) (by omega) (by omega) (gq_X.rf.up (by omega)) ⟨0, hs_us, by omega, .inl trivial, fun n hn => by omega⟩
def rp_O (F0 F' : Nat → Value) : Prop := (∀ j, j ≠ 13 → j ≠ 10 → F' j = F0 j) ∧ (∃ v, F' 13 = .int v) ∧ ∃ v, F' 10 = .int v
theorem rp_Oi {F0 : Nat → Value} {x y : Int32} : rp_O F0 (updV (updV F0 13 (.int x)) 10 (.int y)) := ⟨fun j h1 h2 => (if_neg h2).trans (if_neg h1), ⟨x, rfl⟩, ⟨y, rfl⟩⟩
theorem rp_reads (hE : rp_E G am aw ta F0 en TP) {kd : Int32} (hd : dp ≤ 6) (h1 : ∀ (F' : Nat → Value) b x s q W', rp_O F0 F' → b ≤ x → x ≤ en → s ≤ x → q ≤ 6 → gq_X W W' → gq_D W' s (kd = Int32.ofNat 1) → Z (.inl (some (.int (Int32.ofNat 1))), (hm_H G am aw (rp_F F' x b s q) W'), 0, 0)) (h0 : ∀ (F' : Nat → Value) b x s q W', rp_O F0 F' → b ≤ x → x ≤ en → s ≤ x → q ≤ 6 → gq_X W W' → Z (.inl (some (.int (Int32.ofNat 0))), (hm_H G am aw (rp_F F' x b s q) W'), 0, 0)) : et_go none (d + 32) 182 0 [some (.ref am), some (.int kd), none] [] (hm_H G am aw (rp_F F0 0 bg 0 dp) W) 0 0 Z := by
  refine hs_aload (i := 0) (p := 1) (by decide +kernel) rfl ?_
  refine hs_iload (i := 1) (p := 2) (by decide +kernel) rfl ?_
  refine hm_put hE.1 (f := 13) (ty := .int) (p := 5) (by decide +kernel) rfl rfl (rp_pO (by decide) (by decide) (by decide) (by decide)) ?_
  have hE := rp_up (f := 13) (v := .int kd) hE (by decide) (by decide) (by decide)
  have hk : updV F0 13 (.int kd) 13 = .int kd := rfl
  refine hs_iload (i := 1) (p := 6) (by decide +kernel) rfl ?_
  refine hs_k (x := Int32.ofNat 1) (p := 7) (by decide +kernel) ?_
  refine hs_br2 (c := .ne) (t := 17) (f := 10) (by decide +kernel) (fun (e : ¬ kd = Int32.ofNat 1) => ?_) (fun (e0 : ¬ (¬ kd = Int32.ofNat 1)) => have e : kd = Int32.ofNat 1 := Classical.not_not.mp e0; ?_)
  · refine hs_aload (i := 0) (p := 18) (by decide +kernel) rfl ?_
    refine hm_call hE.1 (mi := 203) (na := 0) (lk := 3) (lm := 2) (by decide +kernel) rfl rfl rfl rfl rfl rfl (rp_one hE hk (by omega) (fun b x s q W1 k l m n f g => hs_cb ?_) (fun b x s q W1 k l m n f => hs_cb ?_))
    · show et_go none _ 182 21 _ [.int (Int32.ofNat 1)] _ _ _ _
      refine hs_istore (i := 2) (p := 22) (by decide +kernel) (Nat.le_of_ble_eq_true rfl) ?_
      refine hs_aload (i := 0) (p := 23) (by decide +kernel) rfl ?_
      refine hs_iload (i := 2) (p := 24) (by decide +kernel) rfl ?_
      refine hs_if0 (c := .eq) (t := 31) (f := 27) (by decide +kernel) (show ¬ (Int32.ofNat 1 = 0) by decide) ?_
      refine hs_k (x := (-1)) (p := 28) (by decide +kernel) ?_
      refine hs_goto (p := 35) (by decide +kernel) ?_
      refine hm_put hE.1 (f := 10) (ty := .int) (p := 38) (by decide +kernel) rfl rfl (rp_pO (by decide) (by decide) (by decide) (by decide)) ?_
      refine hs_iload (i := 2) (p := 39) (by decide +kernel) rfl ?_
      refine hs_zret (by decide +kernel) (.inr rfl) ?_
      exact h1 _ _ _ _ _ _ rp_Oi k l m n f (by obtain ⟨l, a1, a2, a3, a4⟩ := g; exact ⟨l, a1, a2, .inr (a3.resolve_left id), a4⟩)
    · show et_go none _ 182 21 _ [.int (Int32.ofNat 0)] _ _ _ _
      refine hs_istore (i := 2) (p := 22) (by decide +kernel) (Nat.le_of_ble_eq_true rfl) ?_
      refine hs_aload (i := 0) (p := 23) (by decide +kernel) rfl ?_
      refine hs_iload (i := 2) (p := 24) (by decide +kernel) rfl ?_
      refine hs_if1 (c := .eq) (t := 31) (f := 27) (by decide +kernel) (show Int32.ofNat 0 = 0 by decide) ?_
      refine hs_aload (i := 0) (p := 32) (by decide +kernel) rfl ?_
      refine hm_get hE.1 (f := 8) (p := 35) (by decide +kernel) rfl rfl ?_
      refine hm_put hE.1 (f := 10) (ty := .int) (p := 38) (by decide +kernel) rfl rfl (rp_pO (by decide) (by decide) (by decide) (by decide)) ?_
      refine hs_iload (i := 2) (p := 39) (by decide +kernel) rfl ?_
      refine hs_zret (by decide +kernel) (.inl rfl) ?_
      exact h0 _ _ _ _ _ _ rp_Oi k l m n f
  · refine hs_aload (i := 0) (p := 11) (by decide +kernel) rfl ?_
    refine hm_call hE.1 (mi := 183) (na := 0) (lk := 3) (lm := 2) (by decide +kernel) rfl rfl rfl rfl rfl rfl (rp_lines hE hk (by omega) (by omega) (by omega) (fun b x s q W1 k l m n f g => hs_cb ?_) (fun b x s q W1 k l m n f => hs_cb ?_))
    · show et_go none _ 182 14 _ [.int (Int32.ofNat 1)] _ _ _ _
      refine hs_goto (p := 21) (by decide +kernel) ?_
      refine hs_istore (i := 2) (p := 22) (by decide +kernel) (Nat.le_of_ble_eq_true rfl) ?_
      refine hs_aload (i := 0) (p := 23) (by decide +kernel) rfl ?_
      refine hs_iload (i := 2) (p := 24) (by decide +kernel) rfl ?_
      refine hs_if0 (c := .eq) (t := 31) (f := 27) (by decide +kernel) (show ¬ (Int32.ofNat 1 = 0) by decide) ?_
      refine hs_k (x := (-1)) (p := 28) (by decide +kernel) ?_
      refine hs_goto (p := 35) (by decide +kernel) ?_
      refine hm_put hE.1 (f := 10) (ty := .int) (p := 38) (by decide +kernel) rfl rfl (rp_pO (by decide) (by decide) (by decide) (by decide)) ?_
      refine hs_iload (i := 2) (p := 39) (by decide +kernel) rfl ?_
      refine hs_zret (by decide +kernel) (.inr rfl) ?_
      exact h1 _ _ _ _ _ _ rp_Oi k l m n f (by obtain ⟨l, a1, a2, a3, a4⟩ := g; exact ⟨l, a1, a2, .inl e, a4⟩)
    · show et_go none _ 182 14 _ [.int (Int32.ofNat 0)] _ _ _ _
      refine hs_goto (p := 21) (by decide +kernel) ?_
      refine hs_istore (i := 2) (p := 22) (by decide +kernel) (Nat.le_of_ble_eq_true rfl) ?_
      refine hs_aload (i := 0) (p := 23) (by decide +kernel) rfl ?_
      refine hs_iload (i := 2) (p := 24) (by decide +kernel) rfl ?_
      refine hs_if1 (c := .eq) (t := 31) (f := 27) (by decide +kernel) (show Int32.ofNat 0 = 0 by decide) ?_
      refine hs_aload (i := 0) (p := 32) (by decide +kernel) rfl ?_
      refine hm_get hE.1 (f := 8) (p := 35) (by decide +kernel) rfl rfl ?_
      refine hm_put hE.1 (f := 10) (ty := .int) (p := 38) (by decide +kernel) rfl rfl (rp_pO (by decide) (by decide) (by decide) (by decide)) ?_
      refine hs_iload (i := 2) (p := 39) (by decide +kernel) rfl ?_
      refine hs_zret (by decide +kernel) (.inl rfl) ?_
      exact h0 _ _ _ _ _ _ rp_Oi k l m n f
end RPG
end
