/-! BY HAND: the reference's parser: blanks, letters, words, signs, numbers -/
section RPC
variable {d am aw ta en pt bg st dp : Nat} {G : eg_G} {F0 : Nat → Value} {TP W : Nat → Int32} {Z : eg_O → Prop}
theorem rp_blanks (hE : rp_E G am aw ta F0 en TP) (hp : pt ≤ en) (h : ∀ x, pt ≤ x → x ≤ en → Z (.inl none, (hm_H G am aw (rp_F F0 x x st dp) W), 0, 0)) : et_go none (d + 1) 184 0 [some (.ref am)] [] (hm_H G am aw (rp_F F0 pt bg st dp) W) 0 0 Z := by
  have he := hE.2.2.2.2.2
  induction hm : en - pt using Nat.strongRecOn generalizing pt with
  | _ n ih =>
    refine hs_aload (i := 0) (p := 1) (by decide +kernel) rfl ?_
    refine hs_k (x := Int32.ofNat 32) (p := 3) (by decide +kernel) ?_
    refine hs_k (x := Int32.ofNat 32) (p := 5) (by decide +kernel) ?_
    refine hm_call hE.1 (mi := 185) (na := 2) (lk := 1) (lm := 3) (by decide +kernel) rfl rfl rfl rfl rfl rfl (rp_isAt hE (by omega) (fun a5 b5 e5 => hs_cb ?_) (fun a5 => hs_cb ?_))
    · show et_go none _ 184 8 _ [.int (Int32.ofNat 1)] _ _ _ _
      refine hs_if0 (c := .eq) (t := 24) (f := 11) (by decide +kernel) (show ¬ (Int32.ofNat 1 = 0) by decide) ?_
      refine hs_aload (i := 0) (p := 12) (by decide +kernel) rfl ?_
      refine hs_dup1 (p := 13) (by decide +kernel) ?_
      refine hm_get hE.1 (f := 6) (p := 16) (by decide +kernel) rfl rfl ?_
      refine hs_k (x := Int32.ofNat 1) (p := 17) (by decide +kernel) ?_
      refine hs_iaddn (p := 18) (by decide +kernel) ?_
      refine hm_put hE.1 (f := 6) (ty := .int) (p := 21) (by decide +kernel) rfl rfl rp_p6 ?_
      refine hs_goto (p := 0) (by decide +kernel) ?_
      exact ih (en - (pt + 1)) (by omega) (by omega) (fun x h1 h2 => h x (by omega) h2) rfl
    · show et_go none _ 184 8 _ [.int (Int32.ofNat 0)] _ _ _ _
      refine hs_if1 (c := .eq) (t := 24) (f := 11) (by decide +kernel) (show Int32.ofNat 0 = 0 by decide) ?_
      refine hs_aload (i := 0) (p := 25) (by decide +kernel) rfl ?_
      refine hs_aload (i := 0) (p := 26) (by decide +kernel) rfl ?_
      refine hm_get hE.1 (f := 6) (p := 29) (by decide +kernel) rfl rfl ?_
      refine hm_put hE.1 (f := 8) (ty := .int) (p := 32) (by decide +kernel) rfl rfl rp_p8 ?_
      refine hs_vret (by decide +kernel) ?_
      exact h pt (Nat.le_refl _) hp
theorem rp_letL (hE : rp_E G am aw ta F0 en TP) (hp : pt ≤ en) (hb : bg ≤ pt) (h : ∀ x, pt ≤ x → x ≤ en → Z (.inl none, (hm_H G am aw (rp_F F0 x bg st dp) W), 0, 0)) : et_go none (d + 1) 188 4 [some (.ref am)] [] (hm_H G am aw (rp_F F0 pt bg st dp) W) 0 0 Z := by
  have he := hE.2.2.2.2.2
  induction hm : en - pt using Nat.strongRecOn generalizing pt with
  | _ n ih =>
    refine hs_aload (i := 0) (p := 5) (by decide +kernel) rfl ?_
    refine hs_k (x := Int32.ofNat 97) (p := 7) (by decide +kernel) ?_
    refine hs_k (x := Int32.ofNat 122) (p := 9) (by decide +kernel) ?_
    refine hm_call hE.1 (mi := 185) (na := 2) (lk := 1) (lm := 3) (by decide +kernel) rfl rfl rfl rfl rfl rfl (rp_isAt hE (by omega) (fun a9 b9 e9 => hs_cb ?_) (fun a9 => hs_cb ?_))
    · show et_go none _ 188 12 _ [.int (Int32.ofNat 1)] _ _ _ _
      refine hs_if0 (c := .eq) (t := 28) (f := 15) (by decide +kernel) (show ¬ (Int32.ofNat 1 = 0) by decide) ?_
      refine hs_aload (i := 0) (p := 16) (by decide +kernel) rfl ?_
      refine hs_dup1 (p := 17) (by decide +kernel) ?_
      refine hm_get hE.1 (f := 6) (p := 20) (by decide +kernel) rfl rfl ?_
      refine hs_k (x := Int32.ofNat 1) (p := 21) (by decide +kernel) ?_
      refine hs_iaddn (p := 22) (by decide +kernel) ?_
      refine hm_put hE.1 (f := 6) (ty := .int) (p := 25) (by decide +kernel) rfl rfl rp_p6 ?_
      refine hs_goto (p := 4) (by decide +kernel) ?_
      exact ih (en - (pt + 1)) (by omega) (by omega) (by omega) (fun x h1 h2 => h x (by omega) h2) rfl
    · show et_go none _ 188 12 _ [.int (Int32.ofNat 0)] _ _ _ _
      refine hs_if1 (c := .eq) (t := 28) (f := 15) (by decide +kernel) (show Int32.ofNat 0 = 0 by decide) ?_
      refine hs_vret (by decide +kernel) ?_
      exact h pt (Nat.le_refl _) hp
theorem rp_letters (hE : rp_E G am aw ta F0 en TP) (hp : pt ≤ en) (h : ∀ b x, pt ≤ b → b ≤ x → x ≤ en → Z (.inl none, (hm_H G am aw (rp_F F0 x b st dp) W), 0, 0)) : et_go none (d + 2) 188 0 [some (.ref am)] [] (hm_H G am aw (rp_F F0 pt bg st dp) W) 0 0 Z := by
  have he := hE.2.2.2.2.2
  refine hs_aload (i := 0) (p := 1) (by decide +kernel) rfl ?_
  refine hm_call hE.1 (mi := 184) (na := 0) (lk := 1) (lm := 1) (by decide +kernel) rfl rfl rfl rfl rfl rfl (rp_blanks hE (by omega) (fun x1 y1 z1 => hs_cb ?_))
  show et_go none _ 188 4 _ [] _ _ _ _
  exact rp_letL hE (by omega) (by omega) (fun x h1 h2 => h x1 x (by omega) h1 h2)
theorem rp_textAt {t : Nat} (h : Z (.inl (some (.int (Int32.ofNat (126 + 841 * t)))), G, 0, 0)) : et_go none d 186 0 [some (.int (Int32.ofNat t))] [] G 0 0 Z := by
  refine hs_k (x := Int32.ofNat 126) (p := 2) (by decide +kernel) ?_
  refine hs_k (x := Int32.ofNat 841) (p := 5) (by decide +kernel) ?_
  refine hs_iload (i := 0) (p := 6) (by decide +kernel) rfl ?_
  refine hs_imuln (p := 7) (by decide +kernel) ?_
  refine hs_iaddn (p := 8) (by decide +kernel) ?_
  refine hs_iret (by decide +kernel) ?_
  exact h
theorem rp_lineAt {t n : Nat} (h : Z (.inl (some (.int (Int32.ofNat (126 + 841 * t + 1 + 4 * n)))), G, 0, 0)) : et_go none (d + 1) 189 0 [some (.int (Int32.ofNat t)), some (.int (Int32.ofNat n))] [] G 0 0 Z := by
  refine hs_iload (i := 0) (p := 1) (by decide +kernel) rfl ?_
  refine hs_calls (mi := 186) (na := 1) (lk := 2) (lm := 1) (by decide +kernel) rfl rfl rfl rfl rfl rfl rfl (rp_textAt (hs_cb ?_))
  show et_go none _ 189 4 _ [.int (Int32.ofNat (126 + 841 * t))] _ _ _ _
  refine hs_k (x := Int32.ofNat 1) (p := 5) (by decide +kernel) ?_
  refine hs_iaddn (p := 6) (by decide +kernel) ?_
  refine hs_k (x := Int32.ofNat 4) (p := 7) (by decide +kernel) ?_
  refine hs_iload (i := 1) (p := 8) (by decide +kernel) rfl ?_
  refine hs_imuln (p := 9) (by decide +kernel) ?_
  refine hs_iaddn (p := 10) (by decide +kernel) ?_
  refine hs_iret (by decide +kernel) ?_
  exact h
theorem rp_wordL0 (hE : rp_E G am aw ta F0 en TP) (hp : pt ≤ en) (hb : bg ≤ pt) {j : Nat} (hj : j < 56) {i : Nat} (h1 : bg + rs_n j = pt → Z (.inl (some (.int (Int32.ofNat 1))), (hm_H G am aw (rp_F F0 pt bg st dp) W), 0, 0)) (h0 : Z (.inl (some (.int (Int32.ofNat 0))), (hm_H G am aw (rp_F F0 pt bg st dp) W), 0, 0)) : et_go none (d + 4) 190 24 [some (.ref am), some (.ref (36 + j)), some (.int (Int32.ofNat 0)), some (.int (Int32.ofNat i))] [] (hm_H G am aw (rp_F F0 pt bg st dp) W) 0 0 Z := by
  have he := hE.2.2.2.2.2
  have hG : 152 ≤ ((hm_H G am aw (rp_F F0 pt bg st dp) W)).2 := Nat.le_trans hE.1.1.1 (Nat.le_of_lt hE.1.1.2)
  have hn : rs_n j < 100 := rs_nlt
  induction hm : rs_n j - i using Nat.strongRecOn generalizing i with
  | _ n ih =>
    refine hs_iload (i := 2) (p := 25) (by decide +kernel) rfl ?_
    refine hs_if1 (c := .eq) (t := 67) (f := 28) (by decide +kernel) (show Int32.ofNat 0 = 0 by decide) ?_
    refine hs_iload (i := 2) (p := 68) (by decide +kernel) rfl ?_
    refine hs_zret (by decide +kernel) (.inl rfl) ?_
    exact h0
theorem rp_wordL1 (hE : rp_E G am aw ta F0 en TP) (hp : pt ≤ en) (hb : bg ≤ pt) {j : Nat} (hj : j < 56) {i : Nat} (hi : i ≤ rs_n j) (hl : bg + rs_n j = pt) (h1 : bg + rs_n j = pt → Z (.inl (some (.int (Int32.ofNat 1))), (hm_H G am aw (rp_F F0 pt bg st dp) W), 0, 0)) (h0 : Z (.inl (some (.int (Int32.ofNat 0))), (hm_H G am aw (rp_F F0 pt bg st dp) W), 0, 0)) : et_go none (d + 4) 190 24 [some (.ref am), some (.ref (36 + j)), some (.int (Int32.ofNat 1)), some (.int (Int32.ofNat i))] [] (hm_H G am aw (rp_F F0 pt bg st dp) W) 0 0 Z := by
  have he := hE.2.2.2.2.2
  have hG : 152 ≤ ((hm_H G am aw (rp_F F0 pt bg st dp) W)).2 := Nat.le_trans hE.1.1.1 (Nat.le_of_lt hE.1.1.2)
  have hn : rs_n j < 100 := rs_nlt
  induction hm : rs_n j - i using Nat.strongRecOn generalizing i with
  | _ n ih =>
    refine hs_iload (i := 2) (p := 25) (by decide +kernel) rfl ?_
    refine hs_if0 (c := .eq) (t := 67) (f := 28) (by decide +kernel) (show ¬ (Int32.ofNat 1 = 0) by decide) ?_
    refine hs_iload (i := 3) (p := 29) (by decide +kernel) rfl ?_
    refine hs_aload (i := 1) (p := 30) (by decide +kernel) rfl ?_
    refine hs_callv (mi := 294) (na := 0) (ci := 13) (lk := 4) (lm := 1) (by decide +kernel) rfl rfl rfl rfl rfl rfl (by omega) (by rw [rs_con hj]; rfl) (rs_len hG hj (hs_cb ?_))
    show et_go none _ 190 33 _ [.int (Int32.ofNat (rs_n j)), .int (Int32.ofNat i)] _ _ _ _
    refine hs_br2n (c := .ge) (t := 67) (f := 36) (by decide +kernel) (by omega) (by omega) (fun (c33 : (rs_n j) ≤ i) => ?_) (fun (c33 : ¬ ((rs_n j) ≤ i)) => ?_)
    · refine hs_iload (i := 2) (p := 68) (by decide +kernel) rfl ?_
      refine hs_zret (by decide +kernel) (.inr rfl) ?_
      exact h1 hl
    · refine hs_aload (i := 0) (p := 37) (by decide +kernel) rfl ?_
      refine hm_get hE.1 (f := 4) (p := 40) (by decide +kernel) rfl hE.2.2.2.1 ?_
      refine hs_aload (i := 0) (p := 41) (by decide +kernel) rfl ?_
      refine hm_get hE.1 (f := 8) (p := 44) (by decide +kernel) rfl rfl ?_
      refine hs_iload (i := 3) (p := 45) (by decide +kernel) rfl ?_
      refine hs_iaddn (p := 46) (by decide +kernel) ?_
      refine hs_bald (p := 47) (by decide +kernel) ((hm_o hE.2.1.2.1 hE.2.1.2.2.1).trans hE.2.1.2.2.2) hE.2.1.1 (by omega) (by omega) ?_
      refine hs_aload (i := 1) (p := 48) (by decide +kernel) rfl ?_
      refine hs_iload (i := 3) (p := 49) (by decide +kernel) rfl ?_
      refine hs_callv (mi := 296) (na := 1) (ci := 13) (lk := 4) (lm := 2) (by decide +kernel) rfl rfl rfl rfl rfl rfl (by omega) (by rw [rs_con hj]; rfl) (rs_chr hG hj (by omega) (fun x49 => hs_cb ?_))
      show et_go none _ 190 52 _ [.int x49, .int (TP (bg + i))] _ _ _ _
      refine hs_br2 (c := .ne) (t := 59) (f := 55) (by decide +kernel) (fun (c52 : ¬ (TP (bg + i)) = x49) => ?_) (fun (c52 : ¬ (¬ (TP (bg + i)) = x49)) => ?_)
      · refine hs_k (x := Int32.ofNat 0) (p := 60) (by decide +kernel) ?_
        refine hs_istore (i := 2) (p := 61) (by decide +kernel) (Nat.le_of_ble_eq_true rfl) ?_
        refine hs_iinc1 (i := 3) (p := 64) (by decide +kernel) rfl (Nat.le_of_ble_eq_true rfl) ?_
        refine hs_goto (p := 24) (by decide +kernel) ?_
        exact rp_wordL0 hE hp hb hj h1 h0
      · refine hs_k (x := Int32.ofNat 1) (p := 56) (by decide +kernel) ?_
        refine hs_goto (p := 60) (by decide +kernel) ?_
        refine hs_istore (i := 2) (p := 61) (by decide +kernel) (Nat.le_of_ble_eq_true rfl) ?_
        refine hs_iinc1 (i := 3) (p := 64) (by decide +kernel) rfl (Nat.le_of_ble_eq_true rfl) ?_
        refine hs_goto (p := 24) (by decide +kernel) ?_
        exact ih (rs_n j - (i + 1)) (by omega) (by omega) rfl
theorem rp_isWord (hE : rp_E G am aw ta F0 en TP) (hp : pt ≤ en) (hb : bg ≤ pt) {j : Nat} (hj : j < 56) (h1 : bg + rs_n j = pt → Z (.inl (some (.int (Int32.ofNat 1))), (hm_H G am aw (rp_F F0 pt bg st dp) W), 0, 0)) (h0 : Z (.inl (some (.int (Int32.ofNat 0))), (hm_H G am aw (rp_F F0 pt bg st dp) W), 0, 0)) : et_go none (d + 4) 190 0 [some (.ref am), some (.ref (36 + j)), none, none] [] (hm_H G am aw (rp_F F0 pt bg st dp) W) 0 0 Z := by
  have he := hE.2.2.2.2.2
  have hG : 152 ≤ ((hm_H G am aw (rp_F F0 pt bg st dp) W)).2 := Nat.le_trans hE.1.1.1 (Nat.le_of_lt hE.1.1.2)
  have hn : rs_n j < 100 := rs_nlt
  refine hs_aload (i := 0) (p := 1) (by decide +kernel) rfl ?_
  refine hm_get hE.1 (f := 6) (p := 4) (by decide +kernel) rfl rfl ?_
  refine hs_aload (i := 0) (p := 5) (by decide +kernel) rfl ?_
  refine hm_get hE.1 (f := 8) (p := 8) (by decide +kernel) rfl rfl ?_
  refine hs_isubn (p := 9) (by decide +kernel) (by omega) ?_
  refine hs_aload (i := 1) (p := 10) (by decide +kernel) rfl ?_
  refine hs_callv (mi := 294) (na := 0) (ci := 13) (lk := 4) (lm := 1) (by decide +kernel) rfl rfl rfl rfl rfl rfl (by omega) (by rw [rs_con hj]; rfl) (rs_len hG hj (hs_cb ?_))
  show et_go none _ 190 13 _ [.int (Int32.ofNat (rs_n j)), .int (Int32.ofNat (pt - bg))] _ _ _ _
  refine hs_br2n (c := .ne) (t := 20) (f := 16) (by decide +kernel) (by omega) (by omega) (fun (c13 : ¬ (pt - bg) = (rs_n j)) => ?_) (fun (c13 : ¬ (¬ (pt - bg) = (rs_n j))) => ?_)
  · refine hs_k (x := Int32.ofNat 0) (p := 21) (by decide +kernel) ?_
    refine hs_istore (i := 2) (p := 22) (by decide +kernel) (Nat.le_of_ble_eq_true rfl) ?_
    refine hs_k (x := Int32.ofNat 0) (p := 23) (by decide +kernel) ?_
    refine hs_istore (i := 3) (p := 24) (by decide +kernel) (Nat.le_of_ble_eq_true rfl) ?_
    exact rp_wordL0 hE hp hb hj (i := 0) h1 h0
  · refine hs_k (x := Int32.ofNat 1) (p := 17) (by decide +kernel) ?_
    refine hs_goto (p := 21) (by decide +kernel) ?_
    refine hs_istore (i := 2) (p := 22) (by decide +kernel) (Nat.le_of_ble_eq_true rfl) ?_
    refine hs_k (x := Int32.ofNat 0) (p := 23) (by decide +kernel) ?_
    refine hs_istore (i := 3) (p := 24) (by decide +kernel) (Nat.le_of_ble_eq_true rfl) ?_
    exact rp_wordL1 hE hp hb hj (i := 0) (by omega) (by omega) h1 h0
end RPC
