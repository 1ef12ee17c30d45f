section
/-! BY HAND: the reference's parser: blanks, letters, words, signs, numbers -/
section RPC
variable {d am aw ta en pt bg st dp : Nat} {G : eg_G} {F0 : Nat → Value} {TP W : Nat → Int32} {Z : eg_O → Prop}
theorem rp_blanks (hE : rp_E G am aw ta F0 en TP) (hp : pt ≤ en) (h : ∀ x, pt ≤ x → x ≤ en → Z (.inl none, (hm_H G am aw (rp_F F0 x x st dp) W), 0, 0)) : et_go none (d + 1) 184 0 [some (.ref am)] [] (hm_H G am aw (rp_F F0 pt bg st dp) W) 0 0 Z := by
  have he := hE.2.2.2.2.2
  induction hm : en - pt using Nat.strongRecOn generalizing pt with
  | _ n ih =>
    refine hs_aload (i := 0) (p := 1) (by decide +kernel) rfl ?_
    refine hs_k (x := Int32.ofNat 32) (p := 3) (by decide +kernel) ?_
    refine hs_k (x := Int32.ofNat 32) (p := 5) (by decide +kernel) ?_
    refine hm_call hE.1 (mi := 185) (na := 2) (lk := 1) (lm := 3) (by decide +kernel) rfl rfl rfl rfl rfl rfl (rp_isAt hE (by omega) (fun a5 b5 e5 => hs_cb ?_) (fun a5 => hs_cb ?_))
    · show et_go none _ 184 8 _ [.int (Int32.ofNat 1)] _ _ _ _
      refine hs_if0 (c := .eq) (t := 24) (f := 11) (by decide +kernel) (show ¬ (Int32.ofNat 1 = 0) by decide) ?_
      refine hs_aload (i := 0) (p := 12) (by decide +kernel) rfl ?_
      refine hs_dup1 (p := 13) (by decide +kernel) ?_
      refine hm_get hE.1 (f := 6) (p := 16) (by decide +kernel) rfl rfl ?_
      refine hs_k (x := Int32.ofNat 1) (p := 17) (by decide +kernel) ?_
      refine hs_iaddn (p := 18) (by decide +kernel) ?_
      refine hm_put hE.1 (f := 6) (ty := .int) (p := 21) (by decide +kernel) rfl rfl rp_p6 ?_
      refine hs_goto (p := 0) (by decide +kernel) ?_
      exact ih (en - (pt + 1)) (by omega) (by omega) (fun x h1 h2 => h x (by omega) h2) rfl
    · show et_go none _ 184 8 _ [.int (Int32.ofNat 0)] _ _ _ _
      refine hs_if1 (c := .eq) (t := 24) (f := 11) (by decide +kernel) (show Int32.ofNat 0 = 0 by decide) ?_
      refine hs_aload (i := 0) (p := 25) (by decide +kernel) rfl ?_
      refine hs_aload (i := 0) (p := 26) (by decide +kernel) rfl ?_
      refine hm_get hE.1 (f := 6) (p := 29) (by decide +kernel) rfl rfl ?_
      refine hm_put hE.1 (f := 8) (ty := .int) (p := 32) (by decide +kernel) rfl rfl rp_p8 ?_
      refine hs_vret (by decide +kernel) ?_
      exact h pt (Nat.le_refl _) hp
theorem rp_letL (hE : rp_E G am aw ta F0 en TP) (hp : pt ≤ en) (hb : bg ≤ pt) (h : ∀ x, pt ≤ x → x ≤ en → Z (.inl none, (hm_H G am aw (rp_F F0 x bg st dp) W), 0, 0)) : et_go none (d + 1) 188 4 [some (.ref am)] [] (hm_H G am aw (rp_F F0 pt bg st dp) W) 0 0 Z := by
  have he := hE.2.2.2.2.2
  induction hm : en - pt using Nat.strongRecOn generalizing pt with
  | _ n ih =>
    refine hs_aload (i := 0) (p := 5) (by decide +kernel) rfl ?_
    refine hs_k (x := Int32.ofNat 97) (p := 7) (by decide +kernel) ?_
    refine hs_k (x := Int32.ofNat 122) (p := 9) (by decide +kernel) ?_
    refine hm_call hE.1 (mi := 185) (na := 2) (lk := 1) (lm := 3) (by decide +kernel) rfl rfl rfl rfl rfl rfl (rp_isAt hE (by omega) (fun a9 b9 e9 => hs_cb ?_) (fun a9 => hs_cb ?_))
    · show et_go none _ 188 12 _ [.int (Int32.ofNat 1)] _ _ _ _
      refine hs_if0 (c := .eq) (t := 28) (f := 15) (by decide +kernel) (show ¬ (Int32.ofNat 1 = 0) by decide) ?_
      refine hs_aload (i := 0) (p := 16) (by decide +kernel) rfl ?_
      refine hs_dup1 (p := 17) (by decide +kernel) ?_
      refine hm_get hE.1 (f := 6) (p := 20) (by decide +kernel) rfl rfl ?_
      refine hs_k (x := Int32.ofNat 1) (p := 21) (by decide +kernel) ?_
      refine hs_iaddn (p := 22) (by decide +kernel) ?_
      refine hm_put hE.1 (f := 6) (ty := .int) (p := 25) (by decide +kernel) rfl rfl rp_p6 ?_
      refine hs_goto (p := 4) (by decide +kernel) ?_
      exact ih (en - (pt + 1)) (by omega) (by omega) (by omega) (fun x h1 h2 => h x (by omega) h2) rfl
    · show et_go none _ 188 12 _ [.int (Int32.ofNat 0)] _ _ _ _
      refine hs_if1 (c := .eq) (t := 28) (f := 15) (by decide +kernel) (show Int32.ofNat 0 = 0 by decide) ?_
      refine hs_vret (by decide +kernel) ?_
      exact h pt (Nat.le_refl _) hp
theorem rp_letters (hE : rp_E G am aw ta F0 en TP) (hp : pt ≤ en) (h : ∀ b x, pt ≤ b → b ≤ x → x ≤ en → Z (.inl none, (hm_H G am aw (rp_F F0 x b st dp) W), 0, 0)) : et_go none (d + 2) 188 0 [some (.ref am)] [] (hm_H G am aw (rp_F F0 pt bg st dp) W) 0 0 Z := by
  have he := hE.2.2.2.2.2
  refine hs_aload (i := 0) (p := 1) (by decide +kernel) rfl ?_
  refine hm_call hE.1 (mi := 184) (na := 0) (lk := 1) (lm := 1) (by decide +kernel) rfl rfl rfl rfl rfl rfl (rp_blanks hE (by omega) (fun x1 y1 z1 => hs_cb ?_))
  show et_go none _ 188 4 _ [] _ _ _ _
  exact rp_letL hE (by omega) (by omega) (fun x h1 h2 => h x1 x (by omega) h1 h2)
theorem rp_textAt {t : Nat} (h : Z (.inl (some (.int (Int32.ofNat (126 + 841 * t)))), G, 0, 0)) : et_go none d 186 0 [some (.int (Int32.ofNat t))] [] G 0 0 Z := by
  refine hs_k (x := Int32.ofNat 126) (p := 2) (by decide +kernel) ?_
  refine hs_k (x := Int32.ofNat 841) (p := 5) (by decide +kernel) ?_
  refine hs_iload (i := 0) (p := 6) (by decide +kernel) rfl ?_
  refine hs_imuln (p := 7) (by decide +kernel) ?_
  refine hs_iaddn (p := 8) (by decide +kernel) ?_
  refine hs_iret (by decide +kernel) ?_
  exact h
theorem rp_lineAt {t n : Nat} (h : Z (.inl (some (.int (Int32.ofNat (126 + 841 * t + 1 + 4 * n)))), G, 0, 0)) : et_go none (d + 1) 189 0 [some (.int (Int32.ofNat t)), some (.int (Int32.ofNat n))] [] G 0 0 Z := by
  refine hs_iload (i := 0) (p := 1) (by decide +kernel) rfl ?_
  refine hs_calls (mi := 186) (na := 1) (lk := 2) (lm := 1) (by decide +kernel) rfl rfl rfl rfl rfl rfl rfl (rp_textAt (hs_cb ?_))
  show et_go none _ 189 4 _ [.int (Int32.ofNat (126 + 841 * t))] _ _ _ _
  refine hs_k (x := Int32.ofNat 1) (p := 5) (by decide +kernel) ?_
  refine hs_iaddn (p := 6) (by decide +kernel) ?_
  refine hs_k (x := Int32.ofNat 4) (p := 7) (by decide +kernel) ?_
  refine hs_iload (i := 1) (p := 8) (by decide +kernel) rfl ?_
  refine hs_imuln (p := 9) (by decide +kernel) ?_
  refine hs_iaddn (p := 10) (by decide +kernel) ?_
  refine hs_iret (by decide +kernel) ?_
  exact h
theorem rp_wordL0 (hE : rp_E G am aw ta F0 en TP) (hp : pt ≤ en) (hb : bg ≤ pt) {j : Nat} (hj : j < 56) {i : Nat} (h1 : bg + rs_n j = pt → Z (.inl (some (.int (Int32.ofNat 1))), (hm_H G am aw (rp_F F0 pt bg st dp) W), 0, 0)) (h0 : Z (.inl (some (.int (Int32.ofNat 0))), (hm_H G am aw (rp_F F0 pt bg st dp) W), 0, 0)) : et_go none (d + 4) 190 24 [some (.ref am), some (.ref (36 + j)), some (.int (Int32.ofNat 0)), some (.int (Int32.ofNat i))] [] (hm_H G am aw (rp_F F0 pt bg st dp) W) 0 0 Z := by
  have he := hE.2.2.2.2.2
  have hG : 152 ≤ ((hm_H G am aw (rp_F F0 pt bg st dp) W)).2 := Nat.le_trans hE.1.1.1 (Nat.le_of_lt hE.1.1.2)
  have hn : rs_n j < 100 := rs_nlt
  induction hm : rs_n j - i using Nat.strongRecOn generalizing i with
  | _ n ih =>
    refine hs_iload (i := 2) (p := 25) (by decide +kernel) rfl ?_
    refine hs_if1 (c := .eq) (t := 67) (f := 28) (by decide +kernel) (show Int32.ofNat 0 = 0 by decide) ?_
    refine hs_iload (i := 2) (p := 68) (by decide +kernel) rfl ?_
    refine hs_zret (by decide +kernel) (.inl rfl) ?_
    exact h0
theorem rp_wordL1 (hE : rp_E G am aw ta F0 en TP) (hp : pt ≤ en) (hb : bg ≤ pt) {j : Nat} (hj : j < 56) {i : Nat} (hi : i ≤ rs_n j) (hl : bg + rs_n j = pt) (h1 : bg + rs_n j = pt → Z (.inl (some (.int (Int32.ofNat 1))), (hm_H G am aw (rp_F F0 pt bg st dp) W), 0, 0)) (h0 : Z (.inl (some (.int (Int32.ofNat 0))), (hm_H G am aw (rp_F F0 pt bg st dp) W), 0, 0)) : et_go none (d + 4) 190 24 [some (.ref am), some (.ref (36 + j)), some (.int (Int32.ofNat 1)), some (.int (Int32.ofNat i))] [] (hm_H G am aw (rp_F F0 pt bg st dp) W) 0 0 Z := by
  have he := hE.2.2.2.2.2
  have hG : 152 ≤ ((hm_H G am aw (rp_F F0 pt bg st dp) W)).2 := Nat.le_trans hE.1.1.1 (Nat.le_of_lt hE.1.1.2)
  have hn : rs_n j < 100 := rs_nlt
  induction hm : rs_n j - i using Nat.strongRecOn generalizing i with
  | _ n ih =>
    refine hs_iload (i := 2) (p := 25) (by decide +kernel) rfl ?_
    refine hs_if0 (c := .eq) (t := 67) (f := 28) (by decide +kernel) (show ¬ (Int32.ofNat 1 = 0) by decide) ?_
    refine hs_iload (i := 3) (p := 29) (by decide +kernel) rfl ?_
    refine hs_aload (i := 1) (p := 30) (by decide +kernel) rfl ?_
    refine hs_callv (mi := 294) (na := 0) (ci := 13) (lk := 4) (lm := 1) (by decide +kernel) rfl rfl rfl rfl rfl rfl (by omega) (by rw [rs_con hj]; rfl) (rs_len hG hj (hs_cb ?_))
    show et_go none _ 190 33 _ [.int (Int32.ofNat (rs_n j)), .int (Int32.ofNat i)] _ _ _ _
    refine hs_br2n (c := .ge) (t := 67) (f := 36) (by decide +kernel) (by omega) (by omega) (fun (c33 : (rs_n j) ≤ i) => ?_) (fun (c33 : ¬ ((rs_n j) ≤ i)) => ?_)
    · refine hs_iload (i := 2) (p := 68) (by decide +kernel) rfl ?_
      refine hs_zret (by decide +kernel) (.inr rfl) ?_
      exact h1 hl
    · refine hs_aload (i := 0) (p := 37) (by decide +kernel) rfl ?_
      refine hm_get hE.1 (f := 4) (p := 40) (by decide +kernel) rfl hE.2.2.2.1 ?_
      refine hs_aload (i := 0) (p := 41) (by decide +kernel) rfl ?_
      refine hm_get hE.1 (f := 8) (p := 44) (by decide +kernel) rfl rfl ?_
      refine hs_iload (i := 3) (p := 45) (by decide +kernel) rfl ?_
      refine hs_iaddn (p := 46) (by decide +kernel) ?_
      refine hs_bald (p := 47) (by decide +kernel) ((hm_o hE.2.1.2.1 hE.2.1.2.2.1).trans hE.2.1.2.2.2) hE.2.1.1 (by omega) (by omega) ?_
      refine hs_aload (i := 1) (p := 48) (by decide +kernel) rfl ?_
      refine hs_iload (i := 3) (p := 49) (by decide +kernel) rfl ?_
      refine hs_callv (mi := 296) (na := 1) (ci := 13) (lk := 4) (lm := 2) (by decide +kernel) rfl rfl rfl rfl rfl rfl (by omega) (by rw [rs_con hj]; rfl) (rs_chr hG hj (by omega) (fun x49 => hs_cb ?_))
      show et_go none _ 190 52 _ [.int x49, .int (TP (bg + i))] _ _ _ _
      refine hs_br2 (c := .ne) (t := 59) (f := 55) (by decide +kernel) (fun (c52 : ¬ (TP (bg + i)) = x49) => ?_) (fun (c52 : ¬ (¬ (TP (bg + i)) = x49)) => ?_)
      · refine hs_k (x := Int32.ofNat 0) (p := 60) (by decide +kernel) ?_
        refine hs_istore (i := 2) (p := 61) (by decide +kernel) (Nat.le_of_ble_eq_true rfl) ?_
        refine hs_iinc1 (i := 3) (p := 64) (by decide +kernel) rfl (Nat.le_of_ble_eq_true rfl) ?_
        refine hs_goto (p := 24) (by decide +kernel) ?_
        exact rp_wordL0 hE hp hb hj h1 h0
      · refine hs_k (x := Int32.ofNat 1) (p := 56) (by decide +kernel) ?_
        refine hs_goto (p := 60) (by decide +kernel) ?_
        refine hs_istore (i := 2) (p := 61) (by decide +kernel) (Nat.le_of_ble_eq_true rfl) ?_
        refine hs_iinc1 (i := 3) (p := 64) (by decide +kernel) rfl (Nat.le_of_ble_eq_true rfl) ?_
        refine hs_goto (p := 24) (by decide +kernel) ?_
        exact ih (rs_n j - (i + 1)) (by omega) (by omega) rfl
theorem rp_isWord (hE : rp_E G am aw ta F0 en TP) (hp : pt ≤ en) (hb : bg ≤ pt) {j : Nat} (hj : j < 56) (h1 : bg + rs_n j = pt → Z (.inl (some (.int (Int32.ofNat 1))), (hm_H G am aw (rp_F F0 pt bg st dp) W), 0, 0)) (h0 : Z (.inl (some (.int (Int32.ofNat 0))), (hm_H G am aw (rp_F F0 pt bg st dp) W), 0, 0)) : et_go none (d + 4) 190 0 [some (.ref am), some (.ref (36 + j)), none, none] [] (hm_H G am aw (rp_F F0 pt bg st dp) W) 0 0 Z := by
  have he := hE.2.2.2.2.2
  have hG : 152 ≤ ((hm_H G am aw (rp_F F0 pt bg st dp) W)).2 := Nat.le_trans hE.1.1.1 (Nat.le_of_lt hE.1.1.2)
  have hn : rs_n j < 100 := rs_nlt
  refine hs_aload (i := 0) (p := 1) (by decide +kernel) rfl ?_
  refine hm_get hE.1 (f := 6) (p := 4) (by decide +kernel) rfl rfl ?_
  refine hs_aload (i := 0) (p := 5) (by decide +kernel) rfl ?_
  refine hm_get hE.1 (f := 8) (p := 8) (by decide +kernel) rfl rfl ?_
  refine hs_isubn (p := 9) (by decide +kernel) (by omega) ?_
  refine hs_aload (i := 1) (p := 10) (by decide +kernel) rfl ?_
  refine hs_callv (mi := 294) (na := 0) (ci := 13) (lk := 4) (lm := 1) (by decide +kernel) rfl rfl rfl rfl rfl rfl (by omega) (by rw [rs_con hj]; rfl) (rs_len hG hj (hs_cb ?_))
  show et_go none _ 190 13 _ [.int (Int32.ofNat (rs_n j)), .int (Int32.ofNat (pt - bg))] _ _ _ _
  refine hs_br2n (c := .ne) (t := 20) (f := 16) (by decide +kernel) (by omega) (by omega) (fun (c13 : ¬ (pt - bg) = (rs_n j)) => ?_) (fun (c13 : ¬ (¬ (pt - bg) = (rs_n j))) => ?_)
  · refine hs_k (x := Int32.ofNat 0) (p := 21) (by decide +kernel) ?_
    refine hs_istore (i := 2) (p := 22) (by decide +kernel) (Nat.le_of_ble_eq_true rfl) ?_
    refine hs_k (x := Int32.ofNat 0) (p := 23) (by decide +kernel) ?_
    refine hs_istore (i := 3) (p := 24) (by decide +kernel) (Nat.le_of_ble_eq_true rfl) ?_
    exact rp_wordL0 hE hp hb hj (i := 0) h1 h0
  · refine hs_k (x := Int32.ofNat 1) (p := 17) (by decide +kernel) ?_
    refine hs_goto (p := 21) (by decide +kernel) ?_
    refine hs_istore (i := 2) (p := 22) (by decide +kernel) (Nat.le_of_ble_eq_true rfl) ?_
    refine hs_k (x := Int32.ofNat 0) (p := 23) (by decide +kernel) ?_
    refine hs_istore (i := 3) (p := 24) (by decide +kernel) (Nat.le_of_ble_eq_true rfl) ?_
    exact rp_wordL1 hE hp hb hj (i := 0) (by omega) (by omega) h1 h0
end RPC
end
section
/-! BY HAND: the reference's parser: words, signs, numbers, what it writes -/
theorem rs_ng {a : Nat} (h : a < 2147483648) : 0 ≤ Int32.ofNat a := by
  rw [show (0 : Int32) = Int32.ofNat 0 from rfl, hs_nle (by decide) h]
  omega
def gq_F (W W' : Nat → Int32) (s : Nat) : Prop := ∀ i, i < 11941 + 2 * s → W' i = W i
def gq_E (W W' : Nat → Int32) (s : Nat) (x : Int32) : Prop := W' (11941 + 2 * s) = x ∧ gq_F W W' s
def gq_P (W : Nat → Int32) (s t : Nat) : Prop := s ≤ t ∧ ∀ dp, gq 11941 W s (t - s) dp = some (dp + 1)
theorem gq_app {B : Nat} {W : Nat → Int32} {m : Nat} : ∀ {n i dp : Nat}, gq B W i (n + m) dp = (gq B W i n dp).bind (gq B W (i + n) m)
  | 0, i, dp => by rw [Nat.zero_add]; rfl
  | n + 1, i, dp => by
    rw [Nat.succ_add]
    show (gq1 (W (B + 2 * i)) dp).bind (gq B W (i + 1) (n + m)) = ((gq1 (W (B + 2 * i)) dp).bind (gq B W (i + 1) n)).bind _
    cases gq1 (W (B + 2 * i)) dp with
    | none => rfl
    | some q =>
      show gq B W (i + 1) (n + m) q = (gq B W (i + 1) n q).bind _
      rw [gq_app, show i + 1 + n = i + (n + 1) by omega]
theorem gq_F.tr {W W1 W2 : Nat → Int32} {s t : Nat} (h : gq_F W W1 s) (h' : gq_F W1 W2 t) (hs : s ≤ t) : gq_F W W2 s := fun i hi => (h' i (by omega)).trans (h i hi)
theorem gq_F.rf {W : Nat → Int32} {s : Nat} : gq_F W W s := fun _ _ => rfl
theorem gq_P.fr {W W' : Nat → Int32} {s t u : Nat} (h : gq_P W s t) (h' : gq_F W W' u) (hu : t ≤ u) : gq_P W' s t := ⟨h.1, fun dp => by
  have h1 := h.1
  rw [gq_same (B := 11941) (W := W) _ _ (fun j h1 h2 => h' _ (by omega))]
  exact h.2 dp⟩
theorem gq_push {W W' : Nat → Int32} {s : Nat} {x : Int32} (h : gq_E W W' s x) (hx : gq1 x 0 = some 1) : gq_P W' s (s + 1) := ⟨by omega, fun dp => by
  rw [show s + 1 - s = 0 + 1 by omega]
  show (gq1 (W' (11941 + 2 * s)) dp).bind _ = _
  rw [h.1]
  unfold gq1 at hx ⊢
  split at hx
  · rename_i h1
    split at hx
    · rename_i h2
      rw [if_pos h1, if_pos h2]
      rfl
    · cases hx
  · split at hx
    · split at hx <;> cases hx
    · split at hx <;> cases hx⟩
theorem gq_un {W W' : Nat → Int32} {s t : Nat} (h : gq_P W s t) (h' : gq_E W W' t (Int32.ofNat 18)) : gq_P W' s (t + 1) := by
  have h1 := h.fr h'.2 (Nat.le_refl _)
  refine ⟨Nat.le_succ_of_le h.1, fun dp => ?_⟩
  have h0 := h.1
  rw [show t + 1 - s = (t - s) + 1 by omega, gq_app, h1.2 dp, show s + (t - s) = t by omega]
  show (gq1 (W' (11941 + 2 * t)) (dp + 1)).bind _ = _
  rw [h'.1]
  show (if 1 ≤ dp + 1 then some (dp + 1) else none : Option Nat).bind _ = _
  rw [if_pos (by omega)]
  rfl
theorem gq_bin {W W' : Nat → Int32} {s t u : Nat} {x : Int32} (h : gq_P W s t) (g : gq_P W t u) (h' : gq_E W W' u x) (hx : gq1 x 2 = some 1) : gq_P W' s (u + 1) := by
  have h1 := h.fr h'.2 g.1
  have h2 := g.fr h'.2 (Nat.le_refl _)
  have a0 := h.1
  have a1 := g.1
  refine ⟨by omega, fun dp => ?_⟩
  rw [show u + 1 - s = (t - s) + ((u - t) + 1) by omega, gq_app, h1.2 dp, show s + (t - s) = t by omega]
  show gq 11941 W' t (u - t + 1) (dp + 1) = _
  rw [gq_app, h2.2, show t + (u - t) = u by omega]
  show (gq1 (W' (11941 + 2 * u)) (dp + 1 + 1)).bind _ = _
  rw [h'.1]
  unfold gq1 at hx ⊢
  split at hx
  · split at hx <;> cases hx
  · rename_i n1
    split at hx
    · split at hx <;> cases hx
    · rename_i n2
      rw [if_neg n1, if_neg n2, if_pos (by omega)]
      rfl
section RPD
variable {d am aw ta en pt bg st dp : Nat} {G : eg_G} {F0 : Nat → Value} {TP W : Nat → Int32} {Z : eg_O → Prop}
theorem rp_isW (hE : rp_E G am aw ta F0 en TP) (hp : pt ≤ en) (hb : bg ≤ pt) {j : Nat} (hj : j < 56) (hn : 1 ≤ rs_n j) (h1 : bg < pt → Z (.inl (some (.int (Int32.ofNat 1))), (hm_H G am aw (rp_F F0 pt bg st dp) W), 0, 0)) (h0 : Z (.inl (some (.int (Int32.ofNat 0))), (hm_H G am aw (rp_F F0 pt bg st dp) W), 0, 0)) : et_go none (d + 4) 190 0 [some (.ref am), some (.ref (36 + j)), none, none] [] (hm_H G am aw (rp_F F0 pt bg st dp) W) 0 0 Z :=
  rp_isWord hE hp hb hj (fun e => h1 (by omega)) h0
theorem rp_passes (hE : rp_E G am aw ta F0 en TP) (hp : pt ≤ en) {j : Nat} (hj : j < 56) (hn : 1 ≤ rs_n j) (h1 : ∀ b x, pt < x → b ≤ x → x ≤ en → Z (.inl (some (.int (Int32.ofNat 1))), (hm_H G am aw (rp_F F0 x b st dp) W), 0, 0)) (h0 : ∀ b x, pt ≤ x → b ≤ x → x ≤ en → Z (.inl (some (.int (Int32.ofNat 0))), (hm_H G am aw (rp_F F0 x b st dp) W), 0, 0)) : et_go none (d + 5) 192 0 [some (.ref am), some (.ref (36 + j))] [] (hm_H G am aw (rp_F F0 pt bg st dp) W) 0 0 Z := by
  have he := hE.2.2.2.2.2
  refine hs_aload (i := 0) (p := 1) (by decide +kernel) rfl ?_
  refine hm_call hE.1 (mi := 188) (na := 0) (lk := 2) (lm := 1) (by decide +kernel) rfl rfl rfl rfl rfl rfl (rp_letters hE (by omega) (fun b1 x1 y1 z1 w1 => hs_cb ?_))
  show et_go none _ 192 4 _ [] _ _ _ _
  refine hs_aload (i := 0) (p := 5) (by decide +kernel) rfl ?_
  refine hs_aload (i := 1) (p := 6) (by decide +kernel) rfl ?_
  refine hm_call hE.1 (mi := 190) (na := 1) (lk := 2) (lm := 4) (by decide +kernel) rfl rfl rfl rfl rfl rfl (rp_isW hE (by omega) (by omega) (j := j) hj hn (fun a6 => hs_cb ?_) (hs_cb ?_))
  · show et_go none _ 192 9 _ [.int (Int32.ofNat 1)] _ _ _ _
    refine hs_if0 (c := .eq) (t := 14) (f := 12) (by decide +kernel) (show ¬ (Int32.ofNat 1 = 0) by decide) ?_
    refine hs_k (x := Int32.ofNat 1) (p := 13) (by decide +kernel) ?_
    refine hs_zret (by decide +kernel) (.inr rfl) ?_
    exact h1 _ _ (by omega) (by omega) (by omega)
  · show et_go none _ 192 9 _ [.int (Int32.ofNat 0)] _ _ _ _
    refine hs_if1 (c := .eq) (t := 14) (f := 12) (by decide +kernel) (show Int32.ofNat 0 = 0 by decide) ?_
    refine hs_aload (i := 0) (p := 15) (by decide +kernel) rfl ?_
    refine hs_aload (i := 0) (p := 16) (by decide +kernel) rfl ?_
    refine hm_get hE.1 (f := 8) (p := 19) (by decide +kernel) rfl rfl ?_
    refine hm_put hE.1 (f := 6) (ty := .int) (p := 22) (by decide +kernel) rfl rfl rp_p6 ?_
    refine hs_k (x := Int32.ofNat 0) (p := 23) (by decide +kernel) ?_
    refine hs_zret (by decide +kernel) (.inl rfl) ?_
    exact h0 _ _ (by omega) (by omega) (by omega)
theorem rp_sign (hE : rp_E G am aw ta F0 en TP) (hp : pt ≤ en) {c : Int32} (h1 : ∀ b x, pt < x → b ≤ x → x ≤ en → Z (.inl (some (.int (Int32.ofNat 1))), (hm_H G am aw (rp_F F0 x b st dp) W), 0, 0)) (h0 : ∀ b x, pt ≤ x → b ≤ x → x ≤ en → Z (.inl (some (.int (Int32.ofNat 0))), (hm_H G am aw (rp_F F0 x b st dp) W), 0, 0)) : et_go none (d + 2) 196 0 [some (.ref am), some (.int c)] [] (hm_H G am aw (rp_F F0 pt bg st dp) W) 0 0 Z := by
  have he := hE.2.2.2.2.2
  refine hs_aload (i := 0) (p := 1) (by decide +kernel) rfl ?_
  refine hm_call hE.1 (mi := 184) (na := 0) (lk := 2) (lm := 1) (by decide +kernel) rfl rfl rfl rfl rfl rfl (rp_blanks hE (by omega) (fun x1 y1 z1 => hs_cb ?_))
  show et_go none _ 196 4 _ [] _ _ _ _
  refine hs_aload (i := 0) (p := 5) (by decide +kernel) rfl ?_
  refine hs_iload (i := 1) (p := 6) (by decide +kernel) rfl ?_
  refine hs_iload (i := 1) (p := 7) (by decide +kernel) rfl ?_
  refine hm_call hE.1 (mi := 185) (na := 2) (lk := 2) (lm := 3) (by decide +kernel) rfl rfl rfl rfl rfl rfl (rp_isAt hE (by omega) (fun a7 b7 e7 => hs_cb ?_) (fun a7 => hs_cb ?_))
  · show et_go none _ 196 10 _ [.int (Int32.ofNat 1)] _ _ _ _
    refine hs_if1 (c := .ne) (t := 15) (f := 13) (by decide +kernel) (show ¬ Int32.ofNat 1 = 0 by decide) ?_
    refine hs_aload (i := 0) (p := 16) (by decide +kernel) rfl ?_
    refine hs_dup1 (p := 17) (by decide +kernel) ?_
    refine hm_get hE.1 (f := 6) (p := 20) (by decide +kernel) rfl rfl ?_
    refine hs_k (x := Int32.ofNat 1) (p := 21) (by decide +kernel) ?_
    refine hs_iaddn (p := 22) (by decide +kernel) ?_
    refine hm_put hE.1 (f := 6) (ty := .int) (p := 25) (by decide +kernel) rfl rfl rp_p6 ?_
    refine hs_k (x := Int32.ofNat 1) (p := 26) (by decide +kernel) ?_
    refine hs_zret (by decide +kernel) (.inr rfl) ?_
    exact h1 _ _ (by omega) (by omega) (by omega)
  · show et_go none _ 196 10 _ [.int (Int32.ofNat 0)] _ _ _ _
    refine hs_if0 (c := .ne) (t := 15) (f := 13) (by decide +kernel) (show ¬ (¬ Int32.ofNat 0 = 0) by decide) ?_
    refine hs_k (x := Int32.ofNat 0) (p := 14) (by decide +kernel) ?_
    refine hs_zret (by decide +kernel) (.inl rfl) ?_
    exact h0 _ _ (by omega) (by omega) (by omega)
theorem rp_numL (hE : rp_E G am aw ta F0 en TP) (hp : pt ≤ en) (hb : bg ≤ pt) {hi v : Int32} (h : ∀ x (u : Int32), pt ≤ x → x ≤ en → (0 ≤ u → bg < x) → Z (.inl (some (.int u)), (hm_H G am aw (rp_F F0 x bg st dp) W), 0, 0)) : et_go none (d + 1) 191 6 [some (.ref am), some (.int hi), some (.int v)] [] (hm_H G am aw (rp_F F0 pt bg st dp) W) 0 0 Z := by
  have he := hE.2.2.2.2.2
  induction hm : en - pt using Nat.strongRecOn generalizing pt v with
  | _ n ih =>
    refine hs_aload (i := 0) (p := 7) (by decide +kernel) rfl ?_
    refine hs_k (x := Int32.ofNat 48) (p := 9) (by decide +kernel) ?_
    refine hs_k (x := Int32.ofNat 57) (p := 11) (by decide +kernel) ?_
    refine hm_call hE.1 (mi := 185) (na := 2) (lk := 3) (lm := 3) (by decide +kernel) rfl rfl rfl rfl rfl rfl (rp_isAt hE (by omega) (fun a11 b11 e11 => hs_cb ?_) (fun a11 => hs_cb ?_))
    · show et_go none _ 191 14 _ [.int (Int32.ofNat 1)] _ _ _ _
      refine hs_if0 (c := .eq) (t := 65) (f := 17) (by decide +kernel) (show ¬ (Int32.ofNat 1 = 0) by decide) ?_
      refine hs_aload (i := 0) (p := 18) (by decide +kernel) rfl ?_
      refine hm_get hE.1 (f := 6) (p := 21) (by decide +kernel) rfl rfl ?_
      refine hs_aload (i := 0) (p := 22) (by decide +kernel) rfl ?_
      refine hm_get hE.1 (f := 8) (p := 25) (by decide +kernel) rfl rfl ?_
      refine hs_isubn (p := 26) (by decide +kernel) (by omega) ?_
      refine hs_k (x := Int32.ofNat 4) (p := 27) (by decide +kernel) ?_
      refine hs_br2n (c := .ge) (t := 50) (f := 30) (by decide +kernel) (by omega) (by omega) (fun (c27 : 4 ≤ (pt - bg)) => ?_) (fun (c27 : ¬ (4 ≤ (pt - bg))) => ?_)
      · refine hs_iload (i := 2) (p := 51) (by decide +kernel) rfl ?_
        refine hs_istore (i := 2) (p := 52) (by decide +kernel) (Nat.le_of_ble_eq_true rfl) ?_
        refine hs_aload (i := 0) (p := 53) (by decide +kernel) rfl ?_
        refine hs_dup1 (p := 54) (by decide +kernel) ?_
        refine hm_get hE.1 (f := 6) (p := 57) (by decide +kernel) rfl rfl ?_
        refine hs_k (x := Int32.ofNat 1) (p := 58) (by decide +kernel) ?_
        refine hs_iaddn (p := 59) (by decide +kernel) ?_
        refine hm_put hE.1 (f := 6) (ty := .int) (p := 62) (by decide +kernel) rfl rfl rp_p6 ?_
        refine hs_goto (p := 6) (by decide +kernel) ?_
        exact ih (en - (pt + 1)) (by omega) (by omega) (by omega) (fun x u h1 h2 h3 => h x u (by omega) h2 h3) rfl
      · refine hs_k (x := Int32.ofNat 10) (p := 32) (by decide +kernel) ?_
        refine hs_iload (i := 2) (p := 33) (by decide +kernel) rfl ?_
        refine hs_imul (p := 34) (by decide +kernel) ?_
        refine hs_aload (i := 0) (p := 35) (by decide +kernel) rfl ?_
        refine hm_get hE.1 (f := 4) (p := 38) (by decide +kernel) rfl hE.2.2.2.1 ?_
        refine hs_aload (i := 0) (p := 39) (by decide +kernel) rfl ?_
        refine hm_get hE.1 (f := 6) (p := 42) (by decide +kernel) rfl rfl ?_
        refine hs_bald (p := 43) (by decide +kernel) ((hm_o hE.2.1.2.1 hE.2.1.2.2.1).trans hE.2.1.2.2.2) hE.2.1.1 (by omega) (by omega) ?_
        refine hs_iadd (p := 44) (by decide +kernel) ?_
        refine hs_k (x := Int32.ofNat 48) (p := 46) (by decide +kernel) ?_
        refine hs_isub (p := 47) (by decide +kernel) ?_
        refine hs_goto (p := 51) (by decide +kernel) ?_
        refine hs_istore (i := 2) (p := 52) (by decide +kernel) (Nat.le_of_ble_eq_true rfl) ?_
        refine hs_aload (i := 0) (p := 53) (by decide +kernel) rfl ?_
        refine hs_dup1 (p := 54) (by decide +kernel) ?_
        refine hm_get hE.1 (f := 6) (p := 57) (by decide +kernel) rfl rfl ?_
        refine hs_k (x := Int32.ofNat 1) (p := 58) (by decide +kernel) ?_
        refine hs_iaddn (p := 59) (by decide +kernel) ?_
        refine hm_put hE.1 (f := 6) (ty := .int) (p := 62) (by decide +kernel) rfl rfl rp_p6 ?_
        refine hs_goto (p := 6) (by decide +kernel) ?_
        exact ih (en - (pt + 1)) (by omega) (by omega) (by omega) (fun x u h1 h2 h3 => h x u (by omega) h2 h3) rfl
    · show et_go none _ 191 14 _ [.int (Int32.ofNat 0)] _ _ _ _
      refine hs_if1 (c := .eq) (t := 65) (f := 17) (by decide +kernel) (show Int32.ofNat 0 = 0 by decide) ?_
      refine hs_aload (i := 0) (p := 66) (by decide +kernel) rfl ?_
      refine hm_get hE.1 (f := 6) (p := 69) (by decide +kernel) rfl rfl ?_
      refine hs_aload (i := 0) (p := 70) (by decide +kernel) rfl ?_
      refine hm_get hE.1 (f := 8) (p := 73) (by decide +kernel) rfl rfl ?_
      refine hs_br2n (c := .eq) (t := 94) (f := 76) (by decide +kernel) (by omega) (by omega) (fun (c73 : pt = bg) => ?_) (fun (c73 : ¬ (pt = bg)) => ?_)
      · refine hs_k (x := (-1)) (p := 95) (by decide +kernel) ?_
        refine hs_goto (p := 99) (by decide +kernel) ?_
        refine hs_iret (by decide +kernel) ?_
        exact h pt _ (Nat.le_refl _) hp (fun h => absurd h (by decide))
      · refine hs_aload (i := 0) (p := 77) (by decide +kernel) rfl ?_
        refine hm_get hE.1 (f := 6) (p := 80) (by decide +kernel) rfl rfl ?_
        refine hs_aload (i := 0) (p := 81) (by decide +kernel) rfl ?_
        refine hm_get hE.1 (f := 8) (p := 84) (by decide +kernel) rfl rfl ?_
        refine hs_isubn (p := 85) (by decide +kernel) (by omega) ?_
        refine hs_k (x := Int32.ofNat 4) (p := 86) (by decide +kernel) ?_
        refine hs_br2n (c := .gt) (t := 94) (f := 89) (by decide +kernel) (by omega) (by omega) (fun (c86 : 4 < (pt - bg)) => ?_) (fun (c86 : ¬ (4 < (pt - bg))) => ?_)
        · refine hs_k (x := (-1)) (p := 95) (by decide +kernel) ?_
          refine hs_goto (p := 99) (by decide +kernel) ?_
          refine hs_iret (by decide +kernel) ?_
          exact h pt _ (Nat.le_refl _) hp (fun h => absurd h (by decide))
        · refine hs_iload (i := 2) (p := 90) (by decide +kernel) rfl ?_
          refine hs_iload (i := 1) (p := 91) (by decide +kernel) rfl ?_
          refine hs_br2 (c := .le) (t := 98) (f := 94) (by decide +kernel) (fun (c91 : v ≤ hi) => ?_) (fun (c91 : ¬ (v ≤ hi)) => ?_)
          · refine hs_iload (i := 2) (p := 99) (by decide +kernel) rfl ?_
            refine hs_iret (by decide +kernel) ?_
            exact h pt _ (Nat.le_refl _) hp (fun _ => by omega)
          · refine hs_k (x := (-1)) (p := 95) (by decide +kernel) ?_
            refine hs_goto (p := 99) (by decide +kernel) ?_
            refine hs_iret (by decide +kernel) ?_
            exact h pt _ (Nat.le_refl _) hp (fun h => absurd h (by decide))
theorem rp_number (hE : rp_E G am aw ta F0 en TP) (hp : pt ≤ en) {hi : Int32} (h : ∀ b x (u : Int32), pt ≤ x → b ≤ x → x ≤ en → (0 ≤ u → pt < x) → Z (.inl (some (.int u)), (hm_H G am aw (rp_F F0 x b st dp) W), 0, 0)) : et_go none (d + 2) 191 0 [some (.ref am), some (.int hi), none] [] (hm_H G am aw (rp_F F0 pt bg st dp) W) 0 0 Z := by
  have he := hE.2.2.2.2.2
  refine hs_aload (i := 0) (p := 1) (by decide +kernel) rfl ?_
  refine hm_call hE.1 (mi := 184) (na := 0) (lk := 3) (lm := 1) (by decide +kernel) rfl rfl rfl rfl rfl rfl (rp_blanks hE (by omega) (fun x1 y1 z1 => hs_cb ?_))
  show et_go none _ 191 4 _ [] _ _ _ _
  refine hs_k (x := Int32.ofNat 0) (p := 5) (by decide +kernel) ?_
  refine hs_istore (i := 2) (p := 6) (by decide +kernel) (Nat.le_of_ble_eq_true rfl) ?_
  exact rp_numL hE (by omega) (by omega) (fun x u h1 h2 h3 => h _ x u (by omega) (by omega) h2 (fun h4 => by have := h3 h4; omega))
theorem rp_emits (hE : rp_E G am aw ta F0 en TP) (hs : st ≤ 399) {x y : Int32} (h : ∀ V, gq_E W V st x → Z (.inl none, (hm_H G am aw (rp_F F0 pt bg (st + 1) dp) V), 0, 0)) : et_go none (d + 1) 197 0 [some (.ref am), some (.int x), some (.int y), none] [] (hm_H G am aw (rp_F F0 pt bg st dp) W) 0 0 Z := by
  have he := hE.2.2.2.2.2
  refine hs_k (x := Int32.ofNat 14) (p := 2) (by decide +kernel) ?_
  refine hs_calls (mi := 186) (na := 1) (lk := 4) (lm := 1) (by decide +kernel) rfl rfl rfl rfl rfl rfl rfl (rp_textAt (hs_cb ?_))
  show et_go none _ 197 5 _ [.int (Int32.ofNat (126 + 841 * 14))] _ _ _ _
  refine hs_k (x := Int32.ofNat 41) (p := 7) (by decide +kernel) ?_
  refine hs_iaddn (p := 8) (by decide +kernel) ?_
  refine hs_k (x := Int32.ofNat 2) (p := 9) (by decide +kernel) ?_
  refine hs_aload (i := 0) (p := 10) (by decide +kernel) rfl ?_
  refine hm_get hE.1 (f := 12) (p := 13) (by decide +kernel) rfl rfl ?_
  refine hs_imuln (p := 14) (by decide +kernel) ?_
  refine hs_iaddn (p := 15) (by decide +kernel) ?_
  refine hs_istore (i := 3) (p := 16) (by decide +kernel) (Nat.le_of_ble_eq_true rfl) ?_
  refine hs_aload (i := 0) (p := 17) (by decide +kernel) rfl ?_
  refine hm_get hE.1 (f := 1) (p := 20) (by decide +kernel) rfl hE.2.2.1 ?_
  refine hs_iload (i := 3) (p := 21) (by decide +kernel) rfl ?_
  refine hs_iload (i := 1) (p := 22) (by decide +kernel) rfl ?_
  refine hm_ww hE.1 (p := 23) (by decide +kernel) (by omega) ?_
  refine hs_aload (i := 0) (p := 24) (by decide +kernel) rfl ?_
  refine hm_get hE.1 (f := 1) (p := 27) (by decide +kernel) rfl hE.2.2.1 ?_
  refine hs_iload (i := 3) (p := 28) (by decide +kernel) rfl ?_
  refine hs_k (x := Int32.ofNat 1) (p := 29) (by decide +kernel) ?_
  refine hs_iaddn (p := 30) (by decide +kernel) ?_
  refine hs_iload (i := 2) (p := 31) (by decide +kernel) rfl ?_
  refine hm_ww hE.1 (p := 32) (by decide +kernel) (by omega) ?_
  refine hs_aload (i := 0) (p := 33) (by decide +kernel) rfl ?_
  refine hs_dup1 (p := 34) (by decide +kernel) ?_
  refine hm_get hE.1 (f := 12) (p := 37) (by decide +kernel) rfl rfl ?_
  refine hs_k (x := Int32.ofNat 1) (p := 38) (by decide +kernel) ?_
  refine hs_iaddn (p := 39) (by decide +kernel) ?_
  refine hm_put hE.1 (f := 12) (ty := .int) (p := 42) (by decide +kernel) rfl rfl rp_p12 ?_
  refine hs_vret (by decide +kernel) ?_
  refine h _ ⟨?_, fun i hi => ?_⟩
  · show upd (upd W (11941 + 2 * st) x) (11941 + 2 * st + 1) y (11941 + 2 * st) = x
    unfold upd
    rw [if_neg (by omega), if_pos rfl]
  · show upd (upd W (11941 + 2 * st) x) (11941 + 2 * st + 1) y i = W i
    unfold upd
    rw [if_neg (by omega), if_neg (by omega)]
theorem rp_factAt (hE : rp_E G am aw ta F0 en TP) {kd : Int32} (hk : F0 13 = .int kd) (hp : pt ≤ en) (hb : bg ≤ pt) (h1 : ∀ j, j ≤ 4 → bg < pt → Z (.inl (some (.int (Int32.ofNat j))), (hm_H G am aw (rp_F F0 pt bg st dp) W), 0, 0)) (h0 : Z (.inl (some (.int (-1))), (hm_H G am aw (rp_F F0 pt bg st dp) W), 0, 0)) : et_go none (d + 5) 202 0 [some (.ref am)] [] (hm_H G am aw (rp_F F0 pt bg st dp) W) 0 0 Z := by
  have he := hE.2.2.2.2.2
  refine hs_aload (i := 0) (p := 1) (by decide +kernel) rfl ?_
  refine hm_get hE.1 (f := 13) (p := 4) (by decide +kernel) rfl hk ?_
  refine hs_br1 (c := .ne) (t := 74) (f := 7) (by decide +kernel) (fun (c4 : ¬ kd = 0) => ?_) (fun (c4 : ¬ (¬ kd = 0)) => ?_)
  · refine hs_aload (i := 0) (p := 75) (by decide +kernel) rfl ?_
    refine hm_get hE.1 (f := 13) (p := 78) (by decide +kernel) rfl hk ?_
    refine hs_k (x := Int32.ofNat 1) (p := 79) (by decide +kernel) ?_
    refine hs_br2 (c := .ne) (t := 136) (f := 82) (by decide +kernel) (fun (c79 : ¬ kd = Int32.ofNat 1) => ?_) (fun (c79 : ¬ (¬ kd = Int32.ofNat 1)) => ?_)
    · refine hs_aload (i := 0) (p := 137) (by decide +kernel) rfl ?_
      refine hs_kld (v := .ref 48) (p := 139) (by decide +kernel) ?_
      refine hm_call hE.1 (mi := 190) (na := 1) (lk := 1) (lm := 4) (by decide +kernel) rfl rfl rfl rfl rfl rfl (rp_isW hE (by omega) (by omega) (j := 12) (by decide) (by decide +kernel) (fun a139 => hs_cb ?_) (hs_cb ?_))
      · show et_go none _ 202 142 _ [.int (Int32.ofNat 1)] _ _ _ _
        refine hs_if0 (c := .eq) (t := 149) (f := 145) (by decide +kernel) (show ¬ (Int32.ofNat 1 = 0) by decide) ?_
        refine hs_k (x := Int32.ofNat 0) (p := 146) (by decide +kernel) ?_
        refine hs_goto (p := 202) (by decide +kernel) ?_
        refine hs_iret (by decide +kernel) ?_
        exact h1 _ (by decide) (by omega)
      · show et_go none _ 202 142 _ [.int (Int32.ofNat 0)] _ _ _ _
        refine hs_if1 (c := .eq) (t := 149) (f := 145) (by decide +kernel) (show Int32.ofNat 0 = 0 by decide) ?_
        refine hs_aload (i := 0) (p := 150) (by decide +kernel) rfl ?_
        refine hs_kld (v := .ref 55) (p := 152) (by decide +kernel) ?_
        refine hm_call hE.1 (mi := 190) (na := 1) (lk := 1) (lm := 4) (by decide +kernel) rfl rfl rfl rfl rfl rfl (rp_isW hE (by omega) (by omega) (j := 19) (by decide) (by decide +kernel) (fun a152 => hs_cb ?_) (hs_cb ?_))
        · show et_go none _ 202 155 _ [.int (Int32.ofNat 1)] _ _ _ _
          refine hs_if0 (c := .eq) (t := 162) (f := 158) (by decide +kernel) (show ¬ (Int32.ofNat 1 = 0) by decide) ?_
          refine hs_k (x := Int32.ofNat 1) (p := 159) (by decide +kernel) ?_
          refine hs_goto (p := 202) (by decide +kernel) ?_
          refine hs_iret (by decide +kernel) ?_
          exact h1 _ (by decide) (by omega)
        · show et_go none _ 202 155 _ [.int (Int32.ofNat 0)] _ _ _ _
          refine hs_if1 (c := .eq) (t := 162) (f := 158) (by decide +kernel) (show Int32.ofNat 0 = 0 by decide) ?_
          refine hs_aload (i := 0) (p := 163) (by decide +kernel) rfl ?_
          refine hs_kld (v := .ref 56) (p := 165) (by decide +kernel) ?_
          refine hm_call hE.1 (mi := 190) (na := 1) (lk := 1) (lm := 4) (by decide +kernel) rfl rfl rfl rfl rfl rfl (rp_isW hE (by omega) (by omega) (j := 20) (by decide) (by decide +kernel) (fun a165 => hs_cb ?_) (hs_cb ?_))
          · show et_go none _ 202 168 _ [.int (Int32.ofNat 1)] _ _ _ _
            refine hs_if0 (c := .eq) (t := 175) (f := 171) (by decide +kernel) (show ¬ (Int32.ofNat 1 = 0) by decide) ?_
            refine hs_k (x := Int32.ofNat 2) (p := 172) (by decide +kernel) ?_
            refine hs_goto (p := 202) (by decide +kernel) ?_
            refine hs_iret (by decide +kernel) ?_
            exact h1 _ (by decide) (by omega)
          · show et_go none _ 202 168 _ [.int (Int32.ofNat 0)] _ _ _ _
            refine hs_if1 (c := .eq) (t := 175) (f := 171) (by decide +kernel) (show Int32.ofNat 0 = 0 by decide) ?_
            refine hs_aload (i := 0) (p := 176) (by decide +kernel) rfl ?_
            refine hs_kld (v := .ref 54) (p := 178) (by decide +kernel) ?_
            refine hm_call hE.1 (mi := 190) (na := 1) (lk := 1) (lm := 4) (by decide +kernel) rfl rfl rfl rfl rfl rfl (rp_isW hE (by omega) (by omega) (j := 18) (by decide) (by decide +kernel) (fun a178 => hs_cb ?_) (hs_cb ?_))
            · show et_go none _ 202 181 _ [.int (Int32.ofNat 1)] _ _ _ _
              refine hs_if0 (c := .eq) (t := 188) (f := 184) (by decide +kernel) (show ¬ (Int32.ofNat 1 = 0) by decide) ?_
              refine hs_k (x := Int32.ofNat 3) (p := 185) (by decide +kernel) ?_
              refine hs_goto (p := 202) (by decide +kernel) ?_
              refine hs_iret (by decide +kernel) ?_
              exact h1 _ (by decide) (by omega)
            · show et_go none _ 202 181 _ [.int (Int32.ofNat 0)] _ _ _ _
              refine hs_if1 (c := .eq) (t := 188) (f := 184) (by decide +kernel) (show Int32.ofNat 0 = 0 by decide) ?_
              refine hs_aload (i := 0) (p := 189) (by decide +kernel) rfl ?_
              refine hs_kld (v := .ref 57) (p := 191) (by decide +kernel) ?_
              refine hm_call hE.1 (mi := 190) (na := 1) (lk := 1) (lm := 4) (by decide +kernel) rfl rfl rfl rfl rfl rfl (rp_isW hE (by omega) (by omega) (j := 21) (by decide) (by decide +kernel) (fun a191 => hs_cb ?_) (hs_cb ?_))
              · show et_go none _ 202 194 _ [.int (Int32.ofNat 1)] _ _ _ _
                refine hs_if0 (c := .eq) (t := 201) (f := 197) (by decide +kernel) (show ¬ (Int32.ofNat 1 = 0) by decide) ?_
                refine hs_k (x := Int32.ofNat 4) (p := 198) (by decide +kernel) ?_
                refine hs_goto (p := 202) (by decide +kernel) ?_
                refine hs_iret (by decide +kernel) ?_
                exact h1 _ (by decide) (by omega)
              · show et_go none _ 202 194 _ [.int (Int32.ofNat 0)] _ _ _ _
                refine hs_if1 (c := .eq) (t := 201) (f := 197) (by decide +kernel) (show Int32.ofNat 0 = 0 by decide) ?_
                refine hs_k (x := (-1)) (p := 202) (by decide +kernel) ?_
                refine hs_iret (by decide +kernel) ?_
                exact h0
    · refine hs_aload (i := 0) (p := 83) (by decide +kernel) rfl ?_
      refine hs_kld (v := .ref 51) (p := 85) (by decide +kernel) ?_
      refine hm_call hE.1 (mi := 190) (na := 1) (lk := 1) (lm := 4) (by decide +kernel) rfl rfl rfl rfl rfl rfl (rp_isW hE (by omega) (by omega) (j := 15) (by decide) (by decide +kernel) (fun a85 => hs_cb ?_) (hs_cb ?_))
      · show et_go none _ 202 88 _ [.int (Int32.ofNat 1)] _ _ _ _
        refine hs_if0 (c := .eq) (t := 95) (f := 91) (by decide +kernel) (show ¬ (Int32.ofNat 1 = 0) by decide) ?_
        refine hs_k (x := Int32.ofNat 0) (p := 92) (by decide +kernel) ?_
        refine hs_goto (p := 135) (by decide +kernel) ?_
        refine hs_iret (by decide +kernel) ?_
        exact h1 _ (by decide) (by omega)
      · show et_go none _ 202 88 _ [.int (Int32.ofNat 0)] _ _ _ _
        refine hs_if1 (c := .eq) (t := 95) (f := 91) (by decide +kernel) (show Int32.ofNat 0 = 0 by decide) ?_
        refine hs_aload (i := 0) (p := 96) (by decide +kernel) rfl ?_
        refine hs_kld (v := .ref 52) (p := 98) (by decide +kernel) ?_
        refine hm_call hE.1 (mi := 190) (na := 1) (lk := 1) (lm := 4) (by decide +kernel) rfl rfl rfl rfl rfl rfl (rp_isW hE (by omega) (by omega) (j := 16) (by decide) (by decide +kernel) (fun a98 => hs_cb ?_) (hs_cb ?_))
        · show et_go none _ 202 101 _ [.int (Int32.ofNat 1)] _ _ _ _
          refine hs_if0 (c := .eq) (t := 108) (f := 104) (by decide +kernel) (show ¬ (Int32.ofNat 1 = 0) by decide) ?_
          refine hs_k (x := Int32.ofNat 1) (p := 105) (by decide +kernel) ?_
          refine hs_goto (p := 135) (by decide +kernel) ?_
          refine hs_iret (by decide +kernel) ?_
          exact h1 _ (by decide) (by omega)
        · show et_go none _ 202 101 _ [.int (Int32.ofNat 0)] _ _ _ _
          refine hs_if1 (c := .eq) (t := 108) (f := 104) (by decide +kernel) (show Int32.ofNat 0 = 0 by decide) ?_
          refine hs_aload (i := 0) (p := 109) (by decide +kernel) rfl ?_
          refine hs_kld (v := .ref 53) (p := 111) (by decide +kernel) ?_
          refine hm_call hE.1 (mi := 190) (na := 1) (lk := 1) (lm := 4) (by decide +kernel) rfl rfl rfl rfl rfl rfl (rp_isW hE (by omega) (by omega) (j := 17) (by decide) (by decide +kernel) (fun a111 => hs_cb ?_) (hs_cb ?_))
          · show et_go none _ 202 114 _ [.int (Int32.ofNat 1)] _ _ _ _
            refine hs_if0 (c := .eq) (t := 121) (f := 117) (by decide +kernel) (show ¬ (Int32.ofNat 1 = 0) by decide) ?_
            refine hs_k (x := Int32.ofNat 2) (p := 118) (by decide +kernel) ?_
            refine hs_goto (p := 135) (by decide +kernel) ?_
            refine hs_iret (by decide +kernel) ?_
            exact h1 _ (by decide) (by omega)
          · show et_go none _ 202 114 _ [.int (Int32.ofNat 0)] _ _ _ _
            refine hs_if1 (c := .eq) (t := 121) (f := 117) (by decide +kernel) (show Int32.ofNat 0 = 0 by decide) ?_
            refine hs_aload (i := 0) (p := 122) (by decide +kernel) rfl ?_
            refine hs_kld (v := .ref 54) (p := 124) (by decide +kernel) ?_
            refine hm_call hE.1 (mi := 190) (na := 1) (lk := 1) (lm := 4) (by decide +kernel) rfl rfl rfl rfl rfl rfl (rp_isW hE (by omega) (by omega) (j := 18) (by decide) (by decide +kernel) (fun a124 => hs_cb ?_) (hs_cb ?_))
            · show et_go none _ 202 127 _ [.int (Int32.ofNat 1)] _ _ _ _
              refine hs_if0 (c := .eq) (t := 134) (f := 130) (by decide +kernel) (show ¬ (Int32.ofNat 1 = 0) by decide) ?_
              refine hs_k (x := Int32.ofNat 3) (p := 131) (by decide +kernel) ?_
              refine hs_goto (p := 135) (by decide +kernel) ?_
              refine hs_iret (by decide +kernel) ?_
              exact h1 _ (by decide) (by omega)
            · show et_go none _ 202 127 _ [.int (Int32.ofNat 0)] _ _ _ _
              refine hs_if1 (c := .eq) (t := 134) (f := 130) (by decide +kernel) (show Int32.ofNat 0 = 0 by decide) ?_
              refine hs_k (x := (-1)) (p := 135) (by decide +kernel) ?_
              refine hs_iret (by decide +kernel) ?_
              exact h0
  · refine hs_aload (i := 0) (p := 8) (by decide +kernel) rfl ?_
    refine hs_kld (v := .ref 46) (p := 10) (by decide +kernel) ?_
    refine hm_call hE.1 (mi := 190) (na := 1) (lk := 1) (lm := 4) (by decide +kernel) rfl rfl rfl rfl rfl rfl (rp_isW hE (by omega) (by omega) (j := 10) (by decide) (by decide +kernel) (fun a10 => hs_cb ?_) (hs_cb ?_))
    · show et_go none _ 202 13 _ [.int (Int32.ofNat 1)] _ _ _ _
      refine hs_if0 (c := .eq) (t := 20) (f := 16) (by decide +kernel) (show ¬ (Int32.ofNat 1 = 0) by decide) ?_
      refine hs_k (x := Int32.ofNat 0) (p := 17) (by decide +kernel) ?_
      refine hs_goto (p := 73) (by decide +kernel) ?_
      refine hs_iret (by decide +kernel) ?_
      exact h1 _ (by decide) (by omega)
    · show et_go none _ 202 13 _ [.int (Int32.ofNat 0)] _ _ _ _
      refine hs_if1 (c := .eq) (t := 20) (f := 16) (by decide +kernel) (show Int32.ofNat 0 = 0 by decide) ?_
      refine hs_aload (i := 0) (p := 21) (by decide +kernel) rfl ?_
      refine hs_kld (v := .ref 47) (p := 23) (by decide +kernel) ?_
      refine hm_call hE.1 (mi := 190) (na := 1) (lk := 1) (lm := 4) (by decide +kernel) rfl rfl rfl rfl rfl rfl (rp_isW hE (by omega) (by omega) (j := 11) (by decide) (by decide +kernel) (fun a23 => hs_cb ?_) (hs_cb ?_))
      · show et_go none _ 202 26 _ [.int (Int32.ofNat 1)] _ _ _ _
        refine hs_if0 (c := .eq) (t := 33) (f := 29) (by decide +kernel) (show ¬ (Int32.ofNat 1 = 0) by decide) ?_
        refine hs_k (x := Int32.ofNat 1) (p := 30) (by decide +kernel) ?_
        refine hs_goto (p := 73) (by decide +kernel) ?_
        refine hs_iret (by decide +kernel) ?_
        exact h1 _ (by decide) (by omega)
      · show et_go none _ 202 26 _ [.int (Int32.ofNat 0)] _ _ _ _
        refine hs_if1 (c := .eq) (t := 33) (f := 29) (by decide +kernel) (show Int32.ofNat 0 = 0 by decide) ?_
        refine hs_aload (i := 0) (p := 34) (by decide +kernel) rfl ?_
        refine hs_kld (v := .ref 48) (p := 36) (by decide +kernel) ?_
        refine hm_call hE.1 (mi := 190) (na := 1) (lk := 1) (lm := 4) (by decide +kernel) rfl rfl rfl rfl rfl rfl (rp_isW hE (by omega) (by omega) (j := 12) (by decide) (by decide +kernel) (fun a36 => hs_cb ?_) (hs_cb ?_))
        · show et_go none _ 202 39 _ [.int (Int32.ofNat 1)] _ _ _ _
          refine hs_if0 (c := .eq) (t := 46) (f := 42) (by decide +kernel) (show ¬ (Int32.ofNat 1 = 0) by decide) ?_
          refine hs_k (x := Int32.ofNat 2) (p := 43) (by decide +kernel) ?_
          refine hs_goto (p := 73) (by decide +kernel) ?_
          refine hs_iret (by decide +kernel) ?_
          exact h1 _ (by decide) (by omega)
        · show et_go none _ 202 39 _ [.int (Int32.ofNat 0)] _ _ _ _
          refine hs_if1 (c := .eq) (t := 46) (f := 42) (by decide +kernel) (show Int32.ofNat 0 = 0 by decide) ?_
          refine hs_aload (i := 0) (p := 47) (by decide +kernel) rfl ?_
          refine hs_kld (v := .ref 49) (p := 49) (by decide +kernel) ?_
          refine hm_call hE.1 (mi := 190) (na := 1) (lk := 1) (lm := 4) (by decide +kernel) rfl rfl rfl rfl rfl rfl (rp_isW hE (by omega) (by omega) (j := 13) (by decide) (by decide +kernel) (fun a49 => hs_cb ?_) (hs_cb ?_))
          · show et_go none _ 202 52 _ [.int (Int32.ofNat 1)] _ _ _ _
            refine hs_if0 (c := .eq) (t := 59) (f := 55) (by decide +kernel) (show ¬ (Int32.ofNat 1 = 0) by decide) ?_
            refine hs_k (x := Int32.ofNat 3) (p := 56) (by decide +kernel) ?_
            refine hs_goto (p := 73) (by decide +kernel) ?_
            refine hs_iret (by decide +kernel) ?_
            exact h1 _ (by decide) (by omega)
          · show et_go none _ 202 52 _ [.int (Int32.ofNat 0)] _ _ _ _
            refine hs_if1 (c := .eq) (t := 59) (f := 55) (by decide +kernel) (show Int32.ofNat 0 = 0 by decide) ?_
            refine hs_aload (i := 0) (p := 60) (by decide +kernel) rfl ?_
            refine hs_kld (v := .ref 50) (p := 62) (by decide +kernel) ?_
            refine hm_call hE.1 (mi := 190) (na := 1) (lk := 1) (lm := 4) (by decide +kernel) rfl rfl rfl rfl rfl rfl (rp_isW hE (by omega) (by omega) (j := 14) (by decide) (by decide +kernel) (fun a62 => hs_cb ?_) (hs_cb ?_))
            · show et_go none _ 202 65 _ [.int (Int32.ofNat 1)] _ _ _ _
              refine hs_if0 (c := .eq) (t := 72) (f := 68) (by decide +kernel) (show ¬ (Int32.ofNat 1 = 0) by decide) ?_
              refine hs_k (x := Int32.ofNat 4) (p := 69) (by decide +kernel) ?_
              refine hs_goto (p := 73) (by decide +kernel) ?_
              refine hs_iret (by decide +kernel) ?_
              exact h1 _ (by decide) (by omega)
            · show et_go none _ 202 65 _ [.int (Int32.ofNat 0)] _ _ _ _
              refine hs_if1 (c := .eq) (t := 72) (f := 68) (by decide +kernel) (show Int32.ofNat 0 = 0 by decide) ?_
              refine hs_k (x := (-1)) (p := 73) (by decide +kernel) ?_
              refine hs_iret (by decide +kernel) ?_
              exact h0
theorem rp_tagAt (hE : rp_E G am aw ta F0 en TP) {kd : Int32} (hk : F0 13 = .int kd) (hp : pt ≤ en) (hb : bg ≤ pt) (h1 : ∀ j, j ≤ 2 → bg < pt → Z (.inl (some (.int (Int32.ofNat j))), (hm_H G am aw (rp_F F0 pt bg st dp) W), 0, 0)) (h0 : Z (.inl (some (.int (-1))), (hm_H G am aw (rp_F F0 pt bg st dp) W), 0, 0)) : et_go none (d + 5) 198 0 [some (.ref am)] [] (hm_H G am aw (rp_F F0 pt bg st dp) W) 0 0 Z := by
  have he := hE.2.2.2.2.2
  refine hs_aload (i := 0) (p := 1) (by decide +kernel) rfl ?_
  refine hm_get hE.1 (f := 13) (p := 4) (by decide +kernel) rfl hk ?_
  refine hs_br1 (c := .ne) (t := 48) (f := 7) (by decide +kernel) (fun (c4 : ¬ kd = 0) => ?_) (fun (c4 : ¬ (¬ kd = 0)) => ?_)
  · refine hs_aload (i := 0) (p := 49) (by decide +kernel) rfl ?_
    refine hm_get hE.1 (f := 13) (p := 52) (by decide +kernel) rfl hk ?_
    refine hs_k (x := Int32.ofNat 1) (p := 53) (by decide +kernel) ?_
    refine hs_br2 (c := .ne) (t := 84) (f := 56) (by decide +kernel) (fun (c53 : ¬ kd = Int32.ofNat 1) => ?_) (fun (c53 : ¬ (¬ kd = Int32.ofNat 1)) => ?_)
    · refine hs_aload (i := 0) (p := 85) (by decide +kernel) rfl ?_
      refine hs_kld (v := .ref 45) (p := 87) (by decide +kernel) ?_
      refine hm_call hE.1 (mi := 190) (na := 1) (lk := 1) (lm := 4) (by decide +kernel) rfl rfl rfl rfl rfl rfl (rp_isW hE (by omega) (by omega) (j := 9) (by decide) (by decide +kernel) (fun a87 => hs_cb ?_) (hs_cb ?_))
      · show et_go none _ 198 90 _ [.int (Int32.ofNat 1)] _ _ _ _
        refine hs_if0 (c := .eq) (t := 97) (f := 93) (by decide +kernel) (show ¬ (Int32.ofNat 1 = 0) by decide) ?_
        refine hs_k (x := Int32.ofNat 0) (p := 94) (by decide +kernel) ?_
        refine hs_goto (p := 98) (by decide +kernel) ?_
        refine hs_iret (by decide +kernel) ?_
        exact h1 _ (by decide) (by omega)
      · show et_go none _ 198 90 _ [.int (Int32.ofNat 0)] _ _ _ _
        refine hs_if1 (c := .eq) (t := 97) (f := 93) (by decide +kernel) (show Int32.ofNat 0 = 0 by decide) ?_
        refine hs_k (x := (-1)) (p := 98) (by decide +kernel) ?_
        refine hs_iret (by decide +kernel) ?_
        exact h0
    · refine hs_aload (i := 0) (p := 57) (by decide +kernel) rfl ?_
      refine hs_kld (v := .ref 43) (p := 59) (by decide +kernel) ?_
      refine hm_call hE.1 (mi := 190) (na := 1) (lk := 1) (lm := 4) (by decide +kernel) rfl rfl rfl rfl rfl rfl (rp_isW hE (by omega) (by omega) (j := 7) (by decide) (by decide +kernel) (fun a59 => hs_cb ?_) (hs_cb ?_))
      · show et_go none _ 198 62 _ [.int (Int32.ofNat 1)] _ _ _ _
        refine hs_if0 (c := .eq) (t := 69) (f := 65) (by decide +kernel) (show ¬ (Int32.ofNat 1 = 0) by decide) ?_
        refine hs_k (x := Int32.ofNat 0) (p := 66) (by decide +kernel) ?_
        refine hs_goto (p := 83) (by decide +kernel) ?_
        refine hs_iret (by decide +kernel) ?_
        exact h1 _ (by decide) (by omega)
      · show et_go none _ 198 62 _ [.int (Int32.ofNat 0)] _ _ _ _
        refine hs_if1 (c := .eq) (t := 69) (f := 65) (by decide +kernel) (show Int32.ofNat 0 = 0 by decide) ?_
        refine hs_aload (i := 0) (p := 70) (by decide +kernel) rfl ?_
        refine hs_kld (v := .ref 44) (p := 72) (by decide +kernel) ?_
        refine hm_call hE.1 (mi := 190) (na := 1) (lk := 1) (lm := 4) (by decide +kernel) rfl rfl rfl rfl rfl rfl (rp_isW hE (by omega) (by omega) (j := 8) (by decide) (by decide +kernel) (fun a72 => hs_cb ?_) (hs_cb ?_))
        · show et_go none _ 198 75 _ [.int (Int32.ofNat 1)] _ _ _ _
          refine hs_if0 (c := .eq) (t := 82) (f := 78) (by decide +kernel) (show ¬ (Int32.ofNat 1 = 0) by decide) ?_
          refine hs_k (x := Int32.ofNat 1) (p := 79) (by decide +kernel) ?_
          refine hs_goto (p := 83) (by decide +kernel) ?_
          refine hs_iret (by decide +kernel) ?_
          exact h1 _ (by decide) (by omega)
        · show et_go none _ 198 75 _ [.int (Int32.ofNat 0)] _ _ _ _
          refine hs_if1 (c := .eq) (t := 82) (f := 78) (by decide +kernel) (show Int32.ofNat 0 = 0 by decide) ?_
          refine hs_k (x := (-1)) (p := 83) (by decide +kernel) ?_
          refine hs_iret (by decide +kernel) ?_
          exact h0
  · refine hs_aload (i := 0) (p := 8) (by decide +kernel) rfl ?_
    refine hs_kld (v := .ref 40) (p := 10) (by decide +kernel) ?_
    refine hm_call hE.1 (mi := 190) (na := 1) (lk := 1) (lm := 4) (by decide +kernel) rfl rfl rfl rfl rfl rfl (rp_isW hE (by omega) (by omega) (j := 4) (by decide) (by decide +kernel) (fun a10 => hs_cb ?_) (hs_cb ?_))
    · show et_go none _ 198 13 _ [.int (Int32.ofNat 1)] _ _ _ _
      refine hs_if0 (c := .eq) (t := 20) (f := 16) (by decide +kernel) (show ¬ (Int32.ofNat 1 = 0) by decide) ?_
      refine hs_k (x := Int32.ofNat 0) (p := 17) (by decide +kernel) ?_
      refine hs_goto (p := 47) (by decide +kernel) ?_
      refine hs_iret (by decide +kernel) ?_
      exact h1 _ (by decide) (by omega)
    · show et_go none _ 198 13 _ [.int (Int32.ofNat 0)] _ _ _ _
      refine hs_if1 (c := .eq) (t := 20) (f := 16) (by decide +kernel) (show Int32.ofNat 0 = 0 by decide) ?_
      refine hs_aload (i := 0) (p := 21) (by decide +kernel) rfl ?_
      refine hs_kld (v := .ref 41) (p := 23) (by decide +kernel) ?_
      refine hm_call hE.1 (mi := 190) (na := 1) (lk := 1) (lm := 4) (by decide +kernel) rfl rfl rfl rfl rfl rfl (rp_isW hE (by omega) (by omega) (j := 5) (by decide) (by decide +kernel) (fun a23 => hs_cb ?_) (hs_cb ?_))
      · show et_go none _ 198 26 _ [.int (Int32.ofNat 1)] _ _ _ _
        refine hs_if0 (c := .eq) (t := 33) (f := 29) (by decide +kernel) (show ¬ (Int32.ofNat 1 = 0) by decide) ?_
        refine hs_k (x := Int32.ofNat 1) (p := 30) (by decide +kernel) ?_
        refine hs_goto (p := 47) (by decide +kernel) ?_
        refine hs_iret (by decide +kernel) ?_
        exact h1 _ (by decide) (by omega)
      · show et_go none _ 198 26 _ [.int (Int32.ofNat 0)] _ _ _ _
        refine hs_if1 (c := .eq) (t := 33) (f := 29) (by decide +kernel) (show Int32.ofNat 0 = 0 by decide) ?_
        refine hs_aload (i := 0) (p := 34) (by decide +kernel) rfl ?_
        refine hs_kld (v := .ref 42) (p := 36) (by decide +kernel) ?_
        refine hm_call hE.1 (mi := 190) (na := 1) (lk := 1) (lm := 4) (by decide +kernel) rfl rfl rfl rfl rfl rfl (rp_isW hE (by omega) (by omega) (j := 6) (by decide) (by decide +kernel) (fun a36 => hs_cb ?_) (hs_cb ?_))
        · show et_go none _ 198 39 _ [.int (Int32.ofNat 1)] _ _ _ _
          refine hs_if0 (c := .eq) (t := 46) (f := 42) (by decide +kernel) (show ¬ (Int32.ofNat 1 = 0) by decide) ?_
          refine hs_k (x := Int32.ofNat 2) (p := 43) (by decide +kernel) ?_
          refine hs_goto (p := 47) (by decide +kernel) ?_
          refine hs_iret (by decide +kernel) ?_
          exact h1 _ (by decide) (by omega)
        · show et_go none _ 198 39 _ [.int (Int32.ofNat 0)] _ _ _ _
          refine hs_if1 (c := .eq) (t := 46) (f := 42) (by decide +kernel) (show Int32.ofNat 0 = 0 by decide) ?_
          refine hs_k (x := (-1)) (p := 47) (by decide +kernel) ?_
          refine hs_iret (by decide +kernel) ?_
          exact h0
end RPD
end
