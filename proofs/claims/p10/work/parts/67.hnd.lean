/-! BY HAND: the reference's texts -/
/-- the draft is a text: k for a TURNER's -/
def gq_D (W : Nat → Int32) (s : Nat) (k : Prop) : Prop := ∃ l, W 11900 = Int32.ofNat l ∧ l ≤ 10 ∧ (k ∨ 1 ≤ l) ∧ ∀ n, n < l → gq_L W 11900 n s
def gq_X (W W' : Nat → Int32) : Prop := ∀ i, i < 11900 → W' i = W i
def gq_N (W W' : Nat → Int32) (n s : Nat) : Prop := ∀ i, (i < 11901 + 4 * n ∨ (11941 ≤ i ∧ i < 11941 + 2 * s)) → W' i = W i
theorem hs_us {f : Nat → Int32} {k : Nat} {x : Int32} : upd f k x k = x := if_pos rfl
theorem hs_un {f : Nat → Int32} {k j : Nat} {x : Int32} (h : j ≠ k) : upd f k x j = f j := if_neg h
theorem gq_X.rf {W : Nat → Int32} : gq_X W W := fun _ _ => rfl
theorem gq_X.tr {W W1 W2 : Nat → Int32} (h : gq_X W W1) (h' : gq_X W1 W2) : gq_X W W2 := fun i hi => (h' i hi).trans (h i hi)
theorem gq_X.up {W W1 : Nat → Int32} {k : Nat} {x : Int32} (h : gq_X W W1) (hk : 11900 ≤ k) : gq_X W (upd W1 k x) := fun i hi => (hs_un (by omega)).trans (h i hi)
theorem gq_F.X {W W1 : Nat → Int32} {s : Nat} (h : gq_F W W1 s) : gq_X W W1 := fun i hi => h i (by omega)
theorem gq_L.mono {W : Nat → Int32} {X n s t : Nat} (h : gq_L W X n s) (hs : s ≤ t) : gq_L W X n t := by
  obtain ⟨a, b, h1, h2, h3, h4⟩ := h
  exact ⟨a, b, h1, h2, Nat.le_trans h3 hs, h4⟩
/-- a line goes on being good -/
theorem gq_L.go {W W' : Nat → Int32} {m n s : Nat} (h : gq_L W 11900 m s) (hm : m < n) (hf : gq_N W W' n s) : gq_L W' 11900 m s := by
  obtain ⟨a, b, h1, h2, h3, h4⟩ := h
  refine ⟨a, b, (hf _ (.inl (by omega))).trans h1, (hf _ (.inl (by omega))).trans h2, h3, ?_⟩
  rcases h4 with h4 | ⟨h4, h5⟩
  · exact .inl h4
  · refine .inr ⟨h4, fun dp => ?_⟩
    rw [gq_same (B := 11900 + 41) (B' := 11900 + 41) (W := W) (W' := W') (b - a) a (fun j h1 h2 => hf _ (.inr (by omega)))]
    exact h5 dp
theorem gq_one {W W' : Nat → Int32} {s : Nat} {k : Prop} (hf : gq_F (upd (upd W 11900 (Int32.ofNat 1)) 11903 (Int32.ofNat 0)) W' 0) (hg : gq_P W' 0 s) : gq_D (upd W' 11904 (Int32.ofNat s)) s k ∧ gq_X W (upd W' 11904 (Int32.ofNat s)) := by
  refine ⟨⟨1, ?_, by omega, .inr (Nat.le_refl _), fun n hn => ?_⟩, fun i hi => ?_⟩
  · rw [hs_un (by omega), hf _ (by omega), hs_un (by omega), hs_us]
  · obtain rfl : n = 0 := by omega
    refine ⟨0, s, ?_, hs_us, Nat.le_refl _, .inr ⟨Nat.zero_le _, fun dp => ?_⟩⟩
    · show upd W' 11904 (Int32.ofNat s) 11903 = _
      rw [hs_un (by omega), hf _ (by omega), hs_us]
    · rw [gq_same (B := 11941) (B' := 11900 + 41) (W := W') _ _ (fun j h1 h2 => hs_un (by omega))]
      exact hg.2 dp
  · rw [hs_un (by omega), hf _ (by omega), hs_un (by omega), hs_un (by omega)]
theorem hm_rwv {d k pc ck sk am aw : Nat} {L : eg_Ls} {r : List Value} {G : eg_G} {Z : eg_O → Prop} {F : Nat → Value} {W : Nat → Int32} {x : Int32} {p n : Nat} (hA : hm_ok G am aw) (hc : hs_o k pc = some (.iaload, p)) (hn : n < 12741) (hx : W n = x) (h : et_go none d k p L (.int x :: r) (hm_H G am aw F W) ck sk Z) : et_go none d k pc L (.int (Int32.ofNat n) :: .ref aw :: r) (hm_H G am aw F W) ck sk Z :=
  hm_rw hA hc hn (by rw [hx]; exact h)
section RPF
variable {d am aw ta en pt bg st dp : Nat} {G : eg_G} {F0 : Nat → Value} {TP W : Nat → Int32} {Z : eg_O → Prop}
theorem rp_one (hE : rp_E G am aw ta F0 en TP) {kd : Int32} (hk : F0 13 = .int kd) (hp : pt ≤ en) (h1 : ∀ b x s q W', b ≤ x → x ≤ en → s ≤ x → q ≤ 6 → gq_X W W' → gq_D W' s False → Z (.inl (some (.int (Int32.ofNat 1))), (hm_H G am aw (rp_F F0 x b s q) W'), 0, 0)) (h0 : ∀ b x s q W', b ≤ x → x ≤ en → s ≤ x → q ≤ 6 → gq_X W W' → Z (.inl (some (.int (Int32.ofNat 0))), (hm_H G am aw (rp_F F0 x b s q) W'), 0, 0)) : et_go none (d + 30) 203 0 [some (.ref am), none] [] (hm_H G am aw (rp_F F0 pt bg 0 dp) W) 0 0 Z := by
  have he := hE.2.2.2.2.2
  refine hs_aload (i := 0) (p := 1) (by decide +kernel) rfl ?_
  refine hs_k (x := Int32.ofNat 0) (p := 2) (by decide +kernel) ?_
  refine hm_put hE.1 (f := 9) (ty := .int) (p := 5) (by decide +kernel) rfl rfl rp_p9 ?_
  refine hs_k (x := Int32.ofNat 14) (p := 7) (by decide +kernel) ?_
  refine hs_k (x := Int32.ofNat 0) (p := 8) (by decide +kernel) ?_
  refine hs_calls (mi := 189) (na := 2) (lk := 2) (lm := 2) (by decide +kernel) rfl rfl rfl rfl rfl rfl rfl (rp_lineAt (hs_cb ?_))
  show et_go none _ 203 11 _ [.int (Int32.ofNat (126 + 841 * 14 + 1 + 4 * 0))] _ _ _ _
  refine hs_istore (i := 1) (p := 12) (by decide +kernel) (Nat.le_of_ble_eq_true rfl) ?_
  refine hs_aload (i := 0) (p := 13) (by decide +kernel) rfl ?_
  refine hm_get hE.1 (f := 1) (p := 16) (by decide +kernel) rfl hE.2.2.1 ?_
  refine hs_k (x := Int32.ofNat 14) (p := 18) (by decide +kernel) ?_
  refine hs_calls (mi := 186) (na := 1) (lk := 2) (lm := 1) (by decide +kernel) rfl rfl rfl rfl rfl rfl rfl (rp_textAt (hs_cb ?_))
  show et_go none _ 203 21 _ [.int (Int32.ofNat (126 + 841 * 14)), .ref aw] _ _ _ _
  refine hs_k (x := Int32.ofNat 1) (p := 22) (by decide +kernel) ?_
  refine hm_ww hE.1 (p := 23) (by decide +kernel) (by omega) ?_
  refine hs_aload (i := 0) (p := 24) (by decide +kernel) rfl ?_
  refine hm_get hE.1 (f := 1) (p := 27) (by decide +kernel) rfl hE.2.2.1 ?_
  refine hs_iload (i := 1) (p := 28) (by decide +kernel) rfl ?_
  refine hs_k (x := Int32.ofNat 2) (p := 29) (by decide +kernel) ?_
  refine hs_iaddn (p := 30) (by decide +kernel) ?_
  refine hs_k (x := Int32.ofNat 0) (p := 31) (by decide +kernel) ?_
  refine hm_ww hE.1 (p := 32) (by decide +kernel) (by omega) ?_
  refine hs_aload (i := 0) (p := 33) (by decide +kernel) rfl ?_
  refine hm_call hE.1 (mi := 193) (na := 0) (lk := 2) (lm := 1) (by decide +kernel) rfl rfl rfl rfl rfl rfl ((rp_rec hE hk 6 0 d rfl).2 _ _ _ _ _ (by omega) (by omega) (fun b33 x33 s33 W33 k33 l33 m33 n33 o33 g33 f33 => hs_cb ?_) (fun b33 x33 s33 q33 W33 k33 l33 m33 n33 f33 => hs_cb ?_))
  · show et_go none _ 203 36 _ [.int (Int32.ofNat 1)] _ _ _ _
    refine hs_if1 (c := .ne) (t := 41) (f := 39) (by decide +kernel) (show ¬ Int32.ofNat 1 = 0 by decide) ?_
    refine hs_aload (i := 0) (p := 42) (by decide +kernel) rfl ?_
    refine hm_get hE.1 (f := 1) (p := 45) (by decide +kernel) rfl hE.2.2.1 ?_
    refine hs_iload (i := 1) (p := 46) (by decide +kernel) rfl ?_
    refine hs_k (x := Int32.ofNat 3) (p := 47) (by decide +kernel) ?_
    refine hs_iaddn (p := 48) (by decide +kernel) ?_
    refine hs_aload (i := 0) (p := 49) (by decide +kernel) rfl ?_
    refine hm_get hE.1 (f := 12) (p := 52) (by decide +kernel) rfl rfl ?_
    refine hm_ww hE.1 (p := 53) (by decide +kernel) (by omega) ?_
    refine hs_aload (i := 0) (p := 54) (by decide +kernel) rfl ?_
    refine hm_call hE.1 (mi := 184) (na := 0) (lk := 2) (lm := 1) (by decide +kernel) rfl rfl rfl rfl rfl rfl (rp_blanks hE (by omega) (fun x54 y54 z54 => hs_cb ?_))
    show et_go none _ 203 57 _ [] _ _ _ _
    refine hs_aload (i := 0) (p := 58) (by decide +kernel) rfl ?_
    refine hm_get hE.1 (f := 6) (p := 61) (by decide +kernel) rfl rfl ?_
    refine hs_aload (i := 0) (p := 62) (by decide +kernel) rfl ?_
    refine hm_get hE.1 (f := 7) (p := 65) (by decide +kernel) rfl hE.2.2.2.2.1 ?_
    refine hs_br2n (c := .ne) (t := 72) (f := 68) (by decide +kernel) (by omega) (by omega) (fun (c65 : ¬ x54 = en) => ?_) (fun (c65 : ¬ (¬ x54 = en)) => ?_)
    · refine hs_k (x := Int32.ofNat 0) (p := 73) (by decide +kernel) ?_
      refine hs_zret (by decide +kernel) (.inl rfl) ?_
      exact h0 _ _ _ _ _ (by omega) (by omega) (by omega) (by omega) (gq_one (k := False) f33 g33).2
    · refine hs_k (x := Int32.ofNat 1) (p := 69) (by decide +kernel) ?_
      refine hs_goto (p := 73) (by decide +kernel) ?_
      refine hs_zret (by decide +kernel) (.inr rfl) ?_
      exact h1 _ _ _ _ _ (by omega) (by omega) (by omega) (by omega) (gq_one (k := False) f33 g33).2 ((gq_one (k := False) f33 g33).1) 
  · show et_go none _ 203 36 _ [.int (Int32.ofNat 0)] _ _ _ _
    refine hs_if0 (c := .ne) (t := 41) (f := 39) (by decide +kernel) (show ¬ (¬ Int32.ofNat 0 = 0) by decide) ?_
    refine hs_k (x := Int32.ofNat 0) (p := 40) (by decide +kernel) ?_
    refine hs_zret (by decide +kernel) (.inl rfl) ?_
    exact h0 _ _ _ _ _ (by omega) (by omega) (by omega) (by omega) (fun i hi => (f33 i (by omega)).trans ((hs_un (by omega)).trans (hs_un (by omega))))
theorem rp_line (hE : rp_E G am aw ta F0 en TP) {kd : Int32} (hk : F0 13 = .int kd) (hp : pt ≤ en) (hs : st ≤ pt) (hd : dp ≤ 6) {n : Nat} (hn : n ≤ 10) (h1 : ∀ b x s q W', b ≤ x → x ≤ en → pt < x → st ≤ s → s + pt ≤ st + x → q ≤ 6 → n < 10 → gq_L W' 11900 n s → gq_N W W' n st → Z (.inl (some (.int (Int32.ofNat 1))), (hm_H G am aw (rp_F F0 x b s q) W'), 0, 0)) (h0 : ∀ b x s q W', b ≤ x → x ≤ en → s ≤ x → q ≤ 6 → gq_X W W' → Z (.inl (some (.int (Int32.ofNat 0))), (hm_H G am aw (rp_F F0 x b s q) W'), 0, 0)) : et_go none (d + 30) 187 0 [some (.ref am), some (.int (Int32.ofNat n)), none] [] (hm_H G am aw (rp_F F0 pt bg st dp) W) 0 0 Z := by
  have he := hE.2.2.2.2.2
  refine hs_aload (i := 0) (p := 1) (by decide +kernel) rfl ?_
  refine hm_call hE.1 (mi := 188) (na := 0) (lk := 3) (lm := 1) (by decide +kernel) rfl rfl rfl rfl rfl rfl (rp_letters hE (by omega) (fun b1 x1 y1 z1 w1 => hs_cb ?_))
  show et_go none _ 187 4 _ [] _ _ _ _
  refine hs_iload (i := 1) (p := 5) (by decide +kernel) rfl ?_
  refine hs_k (x := Int32.ofNat 10) (p := 7) (by decide +kernel) ?_
  refine hs_br2n (c := .ne) (t := 12) (f := 10) (by decide +kernel) (by omega) (by omega) (fun (c7 : ¬ n = 10) => ?_) (fun (c7 : ¬ (¬ n = 10)) => ?_)
  · refine hs_k (x := Int32.ofNat 14) (p := 14) (by decide +kernel) ?_
    refine hs_iload (i := 1) (p := 15) (by decide +kernel) rfl ?_
    refine hs_calls (mi := 189) (na := 2) (lk := 3) (lm := 2) (by decide +kernel) rfl rfl rfl rfl rfl rfl rfl (rp_lineAt (hs_cb ?_))
    show et_go none _ 187 18 _ [.int (Int32.ofNat (126 + 841 * 14 + 1 + 4 * n))] _ _ _ _
    refine hs_istore (i := 2) (p := 19) (by decide +kernel) (Nat.le_of_ble_eq_true rfl) ?_
    refine hs_aload (i := 0) (p := 20) (by decide +kernel) rfl ?_
    refine hm_get hE.1 (f := 1) (p := 23) (by decide +kernel) rfl hE.2.2.1 ?_
    refine hs_iload (i := 2) (p := 24) (by decide +kernel) rfl ?_
    refine hs_aload (i := 0) (p := 25) (by decide +kernel) rfl ?_
    refine hs_kld (v := .ref 36) (p := 27) (by decide +kernel) ?_
    refine hm_call hE.1 (mi := 190) (na := 1) (lk := 3) (lm := 4) (by decide +kernel) rfl rfl rfl rfl rfl rfl (rp_isW hE (by omega) (by omega) (j := 0) (by decide) (by decide +kernel) (fun a27 => hs_cb ?_) (hs_cb ?_))
    · show et_go none _ 187 30 _ [.int (Int32.ofNat 1), .int (Int32.ofNat (126 + 841 * 14 + 1 + 4 * n)), .ref aw] _ _ _ _
      refine hs_if0 (c := .eq) (t := 37) (f := 33) (by decide +kernel) (show ¬ (Int32.ofNat 1 = 0) by decide) ?_
      refine hs_k (x := Int32.ofNat 0) (p := 34) (by decide +kernel) ?_
      refine hs_goto (p := 51) (by decide +kernel) ?_
      refine hm_ww hE.1 (p := 52) (by decide +kernel) (by omega) ?_
      refine hs_aload (i := 0) (p := 53) (by decide +kernel) rfl ?_
      refine hm_get hE.1 (f := 1) (p := 56) (by decide +kernel) rfl hE.2.2.1 ?_
      refine hs_iload (i := 2) (p := 57) (by decide +kernel) rfl ?_
      refine hm_rwv hE.1 (p := 58) (x := Int32.ofNat 0) (by decide +kernel) (by omega) hs_us ?_
      refine hs_if1 (c := .ge) (t := 63) (f := 61) (by decide +kernel) (show 0 ≤ Int32.ofNat 0 by decide) ?_
      refine hs_aload (i := 0) (p := 64) (by decide +kernel) rfl ?_
      refine hm_get hE.1 (f := 1) (p := 67) (by decide +kernel) rfl hE.2.2.1 ?_
      refine hs_iload (i := 2) (p := 68) (by decide +kernel) rfl ?_
      refine hs_k (x := Int32.ofNat 1) (p := 69) (by decide +kernel) ?_
      refine hs_iaddn (p := 70) (by decide +kernel) ?_
      refine hs_aload (i := 0) (p := 71) (by decide +kernel) rfl ?_
      refine hs_k (x := Int32.ofNat 50) (p := 73) (by decide +kernel) ?_
      refine hm_call hE.1 (mi := 191) (na := 1) (lk := 3) (lm := 3) (by decide +kernel) rfl rfl rfl rfl rfl rfl (rp_number hE (by omega) (fun b73 x73 u73 p73 q73 r73 o73 => hs_cb ?_))
      show et_go none _ 187 76 _ [.int u73, .int (Int32.ofNat ((126 + 841 * 14 + 1 + 4 * n) + 1)), .ref aw] _ _ _ _
      refine hm_ww hE.1 (p := 77) (by decide +kernel) (by omega) ?_
      refine hs_aload (i := 0) (p := 78) (by decide +kernel) rfl ?_
      refine hm_get hE.1 (f := 1) (p := 81) (by decide +kernel) rfl hE.2.2.1 ?_
      refine hs_iload (i := 2) (p := 82) (by decide +kernel) rfl ?_
      refine hs_k (x := Int32.ofNat 2) (p := 83) (by decide +kernel) ?_
      refine hs_iaddn (p := 84) (by decide +kernel) ?_
      refine hs_aload (i := 0) (p := 85) (by decide +kernel) rfl ?_
      refine hm_get hE.1 (f := 12) (p := 88) (by decide +kernel) rfl rfl ?_
      refine hm_ww hE.1 (p := 89) (by decide +kernel) (by omega) ?_
      refine hs_aload (i := 0) (p := 90) (by decide +kernel) rfl ?_
      refine hm_get hE.1 (f := 1) (p := 93) (by decide +kernel) rfl hE.2.2.1 ?_
      refine hs_iload (i := 2) (p := 94) (by decide +kernel) rfl ?_
      refine hs_k (x := Int32.ofNat 1) (p := 95) (by decide +kernel) ?_
      refine hs_iaddn (p := 96) (by decide +kernel) ?_
      refine hm_rwv hE.1 (p := 97) (x := u73) (by decide +kernel) (by omega) ((hs_un (by omega)).trans hs_us) ?_
      refine hs_br1 (c := .ge) (t := 102) (f := 100) (by decide +kernel) (fun (c97 : 0 ≤ u73) => ?_) (fun (c97 : ¬ (0 ≤ u73)) => ?_)
      · have := o73 c97
        refine hs_aload (i := 0) (p := 103) (by decide +kernel) rfl ?_
        refine hs_k (x := Int32.ofNat 0) (p := 104) (by decide +kernel) ?_
        refine hm_put hE.1 (f := 9) (ty := .int) (p := 107) (by decide +kernel) rfl rfl rp_p9 ?_
        refine hs_aload (i := 0) (p := 108) (by decide +kernel) rfl ?_
        refine hs_kld (v := .ref 38) (p := 110) (by decide +kernel) ?_
        refine hm_call hE.1 (mi := 192) (na := 1) (lk := 3) (lm := 2) (by decide +kernel) rfl rfl rfl rfl rfl rfl (rp_passes hE (by omega) (j := 2) (by decide) (by decide +kernel) (fun b110 x110 p110 q110 r110 => hs_cb ?_) (fun b110 x110 p110 q110 r110 => hs_cb ?_))
        · show et_go none _ 187 113 _ [.int (Int32.ofNat 1)] _ _ _ _
          refine hs_if0 (c := .eq) (t := 125) (f := 116) (by decide +kernel) (show ¬ (Int32.ofNat 1 = 0) by decide) ?_
          refine hs_aload (i := 0) (p := 117) (by decide +kernel) rfl ?_
          refine hm_call hE.1 (mi := 193) (na := 0) (lk := 3) (lm := 1) (by decide +kernel) rfl rfl rfl rfl rfl rfl ((rp_rec hE hk 6 0 d rfl).2 _ _ _ _ _ (by omega) (by omega) (fun b117 x117 s117 W117 k117 l117 m117 n117 o117 g117 f117 => hs_cb ?_) (fun b117 x117 s117 q117 W117 k117 l117 m117 n117 f117 => hs_cb ?_))
          · show et_go none _ 187 120 _ [.int (Int32.ofNat 1)] _ _ _ _
            refine hs_if1 (c := .ne) (t := 125) (f := 123) (by decide +kernel) (show ¬ Int32.ofNat 1 = 0 by decide) ?_
            refine hs_aload (i := 0) (p := 126) (by decide +kernel) rfl ?_
            refine hm_get hE.1 (f := 1) (p := 129) (by decide +kernel) rfl hE.2.2.1 ?_
            refine hs_iload (i := 2) (p := 130) (by decide +kernel) rfl ?_
            refine hs_k (x := Int32.ofNat 3) (p := 131) (by decide +kernel) ?_
            refine hs_iaddn (p := 132) (by decide +kernel) ?_
            refine hs_aload (i := 0) (p := 133) (by decide +kernel) rfl ?_
            refine hm_get hE.1 (f := 12) (p := 136) (by decide +kernel) rfl rfl ?_
            refine hm_ww hE.1 (p := 137) (by decide +kernel) (by omega) ?_
            refine hs_k (x := Int32.ofNat 1) (p := 138) (by decide +kernel) ?_
            refine hs_zret (by decide +kernel) (.inr rfl) ?_
            refine h1 _ _ _ _ _ (by omega) (by omega) (by omega) (by omega) (by omega) (by omega) (by omega) ?_ ?_
            · refine ⟨st, s117, ?_, hs_us, Nat.le_refl _, .inr ⟨by omega, fun dp => ?_⟩⟩
              · rw [hs_un (by omega), f117 _ (by omega), hs_us]
              · rw [gq_same (B := 11941) (B' := 11900 + 41) (W := W117) _ _ (fun j h1 h2 => hs_un (by omega))]
                exact g117.2 dp
            · intro i hi
              rw [hs_un (by omega), f117 i (by omega), hs_un (by omega), hs_un (by omega), hs_un (by omega)]
          · show et_go none _ 187 120 _ [.int (Int32.ofNat 0)] _ _ _ _
            refine hs_if0 (c := .ne) (t := 125) (f := 123) (by decide +kernel) (show ¬ (¬ Int32.ofNat 0 = 0) by decide) ?_
            refine hs_k (x := Int32.ofNat 0) (p := 124) (by decide +kernel) ?_
            refine hs_zret (by decide +kernel) (.inl rfl) ?_
            exact h0 _ _ _ _ _ (by omega) (by omega) (by omega) (by omega) ((((gq_X.rf.up (by omega)).up (by omega)).up (by omega)).tr f117.X)
        · show et_go none _ 187 113 _ [.int (Int32.ofNat 0)] _ _ _ _
          refine hs_if1 (c := .eq) (t := 125) (f := 116) (by decide +kernel) (show Int32.ofNat 0 = 0 by decide) ?_
          refine hs_aload (i := 0) (p := 126) (by decide +kernel) rfl ?_
          refine hm_get hE.1 (f := 1) (p := 129) (by decide +kernel) rfl hE.2.2.1 ?_
          refine hs_iload (i := 2) (p := 130) (by decide +kernel) rfl ?_
          refine hs_k (x := Int32.ofNat 3) (p := 131) (by decide +kernel) ?_
          refine hs_iaddn (p := 132) (by decide +kernel) ?_
          refine hs_aload (i := 0) (p := 133) (by decide +kernel) rfl ?_
          refine hm_get hE.1 (f := 12) (p := 136) (by decide +kernel) rfl rfl ?_
          refine hm_ww hE.1 (p := 137) (by decide +kernel) (by omega) ?_
          refine hs_k (x := Int32.ofNat 1) (p := 138) (by decide +kernel) ?_
          refine hs_zret (by decide +kernel) (.inr rfl) ?_
          refine h1 _ _ _ _ _ (by omega) (by omega) (by omega) (by omega) (by omega) (by omega) (by omega) ?_ ?_
          · refine ⟨st, st, ?_, hs_us, Nat.le_refl _, .inl rfl⟩
            rw [hs_un (by omega), hs_us]
          · intro i hi
            rw [hs_un (by omega), hs_un (by omega), hs_un (by omega), hs_un (by omega)]
      · refine hs_k (x := Int32.ofNat 0) (p := 101) (by decide +kernel) ?_
        refine hs_zret (by decide +kernel) (.inl rfl) ?_
        exact h0 _ _ _ _ _ (by omega) (by omega) (by omega) (by omega) (((gq_X.rf.up (by omega)).up (by omega)).up (by omega))
    · show et_go none _ 187 30 _ [.int (Int32.ofNat 0), .int (Int32.ofNat (126 + 841 * 14 + 1 + 4 * n)), .ref aw] _ _ _ _
      refine hs_if1 (c := .eq) (t := 37) (f := 33) (by decide +kernel) (show Int32.ofNat 0 = 0 by decide) ?_
      refine hs_aload (i := 0) (p := 38) (by decide +kernel) rfl ?_
      refine hs_kld (v := .ref 37) (p := 40) (by decide +kernel) ?_
      refine hm_call hE.1 (mi := 190) (na := 1) (lk := 3) (lm := 4) (by decide +kernel) rfl rfl rfl rfl rfl rfl (rp_isW hE (by omega) (by omega) (j := 1) (by decide) (by decide +kernel) (fun a40 => hs_cb ?_) (hs_cb ?_))
      · show et_go none _ 187 43 _ [.int (Int32.ofNat 1), .int (Int32.ofNat (126 + 841 * 14 + 1 + 4 * n)), .ref aw] _ _ _ _
        refine hs_if0 (c := .eq) (t := 50) (f := 46) (by decide +kernel) (show ¬ (Int32.ofNat 1 = 0) by decide) ?_
        refine hs_k (x := Int32.ofNat 1) (p := 47) (by decide +kernel) ?_
        refine hs_goto (p := 51) (by decide +kernel) ?_
        refine hm_ww hE.1 (p := 52) (by decide +kernel) (by omega) ?_
        refine hs_aload (i := 0) (p := 53) (by decide +kernel) rfl ?_
        refine hm_get hE.1 (f := 1) (p := 56) (by decide +kernel) rfl hE.2.2.1 ?_
        refine hs_iload (i := 2) (p := 57) (by decide +kernel) rfl ?_
        refine hm_rwv hE.1 (p := 58) (x := Int32.ofNat 1) (by decide +kernel) (by omega) hs_us ?_
        refine hs_if1 (c := .ge) (t := 63) (f := 61) (by decide +kernel) (show 0 ≤ Int32.ofNat 1 by decide) ?_
        refine hs_aload (i := 0) (p := 64) (by decide +kernel) rfl ?_
        refine hm_get hE.1 (f := 1) (p := 67) (by decide +kernel) rfl hE.2.2.1 ?_
        refine hs_iload (i := 2) (p := 68) (by decide +kernel) rfl ?_
        refine hs_k (x := Int32.ofNat 1) (p := 69) (by decide +kernel) ?_
        refine hs_iaddn (p := 70) (by decide +kernel) ?_
        refine hs_aload (i := 0) (p := 71) (by decide +kernel) rfl ?_
        refine hs_k (x := Int32.ofNat 50) (p := 73) (by decide +kernel) ?_
        refine hm_call hE.1 (mi := 191) (na := 1) (lk := 3) (lm := 3) (by decide +kernel) rfl rfl rfl rfl rfl rfl (rp_number hE (by omega) (fun b73 x73 u73 p73 q73 r73 o73 => hs_cb ?_))
        show et_go none _ 187 76 _ [.int u73, .int (Int32.ofNat ((126 + 841 * 14 + 1 + 4 * n) + 1)), .ref aw] _ _ _ _
        refine hm_ww hE.1 (p := 77) (by decide +kernel) (by omega) ?_
        refine hs_aload (i := 0) (p := 78) (by decide +kernel) rfl ?_
        refine hm_get hE.1 (f := 1) (p := 81) (by decide +kernel) rfl hE.2.2.1 ?_
        refine hs_iload (i := 2) (p := 82) (by decide +kernel) rfl ?_
        refine hs_k (x := Int32.ofNat 2) (p := 83) (by decide +kernel) ?_
        refine hs_iaddn (p := 84) (by decide +kernel) ?_
        refine hs_aload (i := 0) (p := 85) (by decide +kernel) rfl ?_
        refine hm_get hE.1 (f := 12) (p := 88) (by decide +kernel) rfl rfl ?_
        refine hm_ww hE.1 (p := 89) (by decide +kernel) (by omega) ?_
        refine hs_aload (i := 0) (p := 90) (by decide +kernel) rfl ?_
        refine hm_get hE.1 (f := 1) (p := 93) (by decide +kernel) rfl hE.2.2.1 ?_
        refine hs_iload (i := 2) (p := 94) (by decide +kernel) rfl ?_
        refine hs_k (x := Int32.ofNat 1) (p := 95) (by decide +kernel) ?_
        refine hs_iaddn (p := 96) (by decide +kernel) ?_
        refine hm_rwv hE.1 (p := 97) (x := u73) (by decide +kernel) (by omega) ((hs_un (by omega)).trans hs_us) ?_
        refine hs_br1 (c := .ge) (t := 102) (f := 100) (by decide +kernel) (fun (c97 : 0 ≤ u73) => ?_) (fun (c97 : ¬ (0 ≤ u73)) => ?_)
        · have := o73 c97
          refine hs_aload (i := 0) (p := 103) (by decide +kernel) rfl ?_
          refine hs_k (x := Int32.ofNat 0) (p := 104) (by decide +kernel) ?_
          refine hm_put hE.1 (f := 9) (ty := .int) (p := 107) (by decide +kernel) rfl rfl rp_p9 ?_
          refine hs_aload (i := 0) (p := 108) (by decide +kernel) rfl ?_
          refine hs_kld (v := .ref 38) (p := 110) (by decide +kernel) ?_
          refine hm_call hE.1 (mi := 192) (na := 1) (lk := 3) (lm := 2) (by decide +kernel) rfl rfl rfl rfl rfl rfl (rp_passes hE (by omega) (j := 2) (by decide) (by decide +kernel) (fun b110 x110 p110 q110 r110 => hs_cb ?_) (fun b110 x110 p110 q110 r110 => hs_cb ?_))
          · show et_go none _ 187 113 _ [.int (Int32.ofNat 1)] _ _ _ _
            refine hs_if0 (c := .eq) (t := 125) (f := 116) (by decide +kernel) (show ¬ (Int32.ofNat 1 = 0) by decide) ?_
            refine hs_aload (i := 0) (p := 117) (by decide +kernel) rfl ?_
            refine hm_call hE.1 (mi := 193) (na := 0) (lk := 3) (lm := 1) (by decide +kernel) rfl rfl rfl rfl rfl rfl ((rp_rec hE hk 6 0 d rfl).2 _ _ _ _ _ (by omega) (by omega) (fun b117 x117 s117 W117 k117 l117 m117 n117 o117 g117 f117 => hs_cb ?_) (fun b117 x117 s117 q117 W117 k117 l117 m117 n117 f117 => hs_cb ?_))
            · show et_go none _ 187 120 _ [.int (Int32.ofNat 1)] _ _ _ _
              refine hs_if1 (c := .ne) (t := 125) (f := 123) (by decide +kernel) (show ¬ Int32.ofNat 1 = 0 by decide) ?_
              refine hs_aload (i := 0) (p := 126) (by decide +kernel) rfl ?_
              refine hm_get hE.1 (f := 1) (p := 129) (by decide +kernel) rfl hE.2.2.1 ?_
              refine hs_iload (i := 2) (p := 130) (by decide +kernel) rfl ?_
              refine hs_k (x := Int32.ofNat 3) (p := 131) (by decide +kernel) ?_
              refine hs_iaddn (p := 132) (by decide +kernel) ?_
              refine hs_aload (i := 0) (p := 133) (by decide +kernel) rfl ?_
              refine hm_get hE.1 (f := 12) (p := 136) (by decide +kernel) rfl rfl ?_
              refine hm_ww hE.1 (p := 137) (by decide +kernel) (by omega) ?_
              refine hs_k (x := Int32.ofNat 1) (p := 138) (by decide +kernel) ?_
              refine hs_zret (by decide +kernel) (.inr rfl) ?_
              refine h1 _ _ _ _ _ (by omega) (by omega) (by omega) (by omega) (by omega) (by omega) (by omega) ?_ ?_
              · refine ⟨st, s117, ?_, hs_us, Nat.le_refl _, .inr ⟨by omega, fun dp => ?_⟩⟩
                · rw [hs_un (by omega), f117 _ (by omega), hs_us]
                · rw [gq_same (B := 11941) (B' := 11900 + 41) (W := W117) _ _ (fun j h1 h2 => hs_un (by omega))]
                  exact g117.2 dp
              · intro i hi
                rw [hs_un (by omega), f117 i (by omega), hs_un (by omega), hs_un (by omega), hs_un (by omega)]
            · show et_go none _ 187 120 _ [.int (Int32.ofNat 0)] _ _ _ _
              refine hs_if0 (c := .ne) (t := 125) (f := 123) (by decide +kernel) (show ¬ (¬ Int32.ofNat 0 = 0) by decide) ?_
              refine hs_k (x := Int32.ofNat 0) (p := 124) (by decide +kernel) ?_
              refine hs_zret (by decide +kernel) (.inl rfl) ?_
              exact h0 _ _ _ _ _ (by omega) (by omega) (by omega) (by omega) ((((gq_X.rf.up (by omega)).up (by omega)).up (by omega)).tr f117.X)
          · show et_go none _ 187 113 _ [.int (Int32.ofNat 0)] _ _ _ _
            refine hs_if1 (c := .eq) (t := 125) (f := 116) (by decide +kernel) (show Int32.ofNat 0 = 0 by decide) ?_
            refine hs_aload (i := 0) (p := 126) (by decide +kernel) rfl ?_
            refine hm_get hE.1 (f := 1) (p := 129) (by decide +kernel) rfl hE.2.2.1 ?_
            refine hs_iload (i := 2) (p := 130) (by decide +kernel) rfl ?_
            refine hs_k (x := Int32.ofNat 3) (p := 131) (by decide +kernel) ?_
            refine hs_iaddn (p := 132) (by decide +kernel) ?_
            refine hs_aload (i := 0) (p := 133) (by decide +kernel) rfl ?_
            refine hm_get hE.1 (f := 12) (p := 136) (by decide +kernel) rfl rfl ?_
            refine hm_ww hE.1 (p := 137) (by decide +kernel) (by omega) ?_
            refine hs_k (x := Int32.ofNat 1) (p := 138) (by decide +kernel) ?_
            refine hs_zret (by decide +kernel) (.inr rfl) ?_
            refine h1 _ _ _ _ _ (by omega) (by omega) (by omega) (by omega) (by omega) (by omega) (by omega) ?_ ?_
            · refine ⟨st, st, ?_, hs_us, Nat.le_refl _, .inl rfl⟩
              rw [hs_un (by omega), hs_us]
            · intro i hi
              rw [hs_un (by omega), hs_un (by omega), hs_un (by omega), hs_un (by omega)]
        · refine hs_k (x := Int32.ofNat 0) (p := 101) (by decide +kernel) ?_
          refine hs_zret (by decide +kernel) (.inl rfl) ?_
          exact h0 _ _ _ _ _ (by omega) (by omega) (by omega) (by omega) (((gq_X.rf.up (by omega)).up (by omega)).up (by omega))
      · show et_go none _ 187 43 _ [.int (Int32.ofNat 0), .int (Int32.ofNat (126 + 841 * 14 + 1 + 4 * n)), .ref aw] _ _ _ _
        refine hs_if1 (c := .eq) (t := 50) (f := 46) (by decide +kernel) (show Int32.ofNat 0 = 0 by decide) ?_
        refine hs_k (x := (-1)) (p := 51) (by decide +kernel) ?_
        refine hm_ww hE.1 (p := 52) (by decide +kernel) (by omega) ?_
        refine hs_aload (i := 0) (p := 53) (by decide +kernel) rfl ?_
        refine hm_get hE.1 (f := 1) (p := 56) (by decide +kernel) rfl hE.2.2.1 ?_
        refine hs_iload (i := 2) (p := 57) (by decide +kernel) rfl ?_
        refine hm_rwv hE.1 (p := 58) (x := (-1)) (by decide +kernel) (by omega) hs_us ?_
        refine hs_if0 (c := .ge) (t := 63) (f := 61) (by decide +kernel) (show ¬ (0 ≤ (-1 : Int32)) by decide) ?_
        refine hs_k (x := Int32.ofNat 0) (p := 62) (by decide +kernel) ?_
        refine hs_zret (by decide +kernel) (.inl rfl) ?_
        exact h0 _ _ _ _ _ (by omega) (by omega) (by omega) (by omega) (gq_X.rf.up (by omega))
  · refine hs_k (x := Int32.ofNat 0) (p := 11) (by decide +kernel) ?_
    refine hs_zret (by decide +kernel) (.inl rfl) ?_
    exact h0 _ _ _ _ _ (by omega) (by omega) (by omega) (by omega) gq_X.rf
end RPF
