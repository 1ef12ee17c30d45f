/-! BY HAND: the reference's texts: all of them -/
theorem rp_pO {F0 : Nat → Value} {pt bg st dp f : Nat} {v : Value} (h6 : f ≠ 6) (h8 : f ≠ 8) (h12 : f ≠ 12) (h9 : f ≠ 9) : updV (rp_F F0 pt bg st dp) f v = rp_F (updV F0 f v) pt bg st dp := by
  funext j
  unfold updV rp_F
  by_cases h : j = f
  · subst h
    rw [if_pos rfl, if_neg h6, if_neg h8, if_neg h12, if_neg h9]
    exact (if_pos rfl).symm
  · simp only [if_neg h]
theorem rp_up {G : eg_G} {am aw ta en f : Nat} {F0 : Nat → Value} {TP : Nat → Int32} {v : Value} (hE : rp_E G am aw ta F0 en TP) (h1 : f ≠ 1) (h4 : f ≠ 4) (h7 : f ≠ 7) : rp_E G am aw ta (updV F0 f v) en TP := by
  obtain ⟨a, b, c, e, g, i⟩ := hE
  exact ⟨a, b, (if_neg (Ne.symm h1)).trans c, (if_neg (Ne.symm h4)).trans e, (if_neg (Ne.symm h7)).trans g, i⟩
theorem gq_N.X {W W' : Nat → Int32} {n s : Nat} (h : gq_N W W' n s) : gq_X W W' := fun i hi => h i (.inl (by omega))
theorem gq_L.up0 {W : Nat → Int32} {n s : Nat} {x : Int32} (h : gq_L W 11900 n s) : gq_L (upd W 11900 x) 11900 n s := by
  obtain ⟨a, b, h1, h2, h3, h4⟩ := h
  refine ⟨a, b, (hs_un (by omega)).trans h1, (hs_un (by omega)).trans h2, h3, ?_⟩
  rcases h4 with h4 | ⟨h4, h5⟩
  · exact .inl h4
  · refine .inr ⟨h4, fun dp => ?_⟩
    rw [gq_same (B := 11900 + 41) (B' := 11900 + 41) (W := W) _ _ (fun j h1 h2 => hs_un (by omega))]
    exact h5 dp
section RPG
variable {d am aw ta en pt bg st dp : Nat} {G : eg_G} {F0 : Nat → Value} {TP W : Nat → Int32} {Z : eg_O → Prop}
theorem rp_linesL (hE : rp_E G am aw ta F0 en TP) {kd : Int32} (hk : F0 13 = .int kd) {W0 : Nat → Int32} (hp : pt ≤ en) (hs : st ≤ pt) (hd : dp ≤ 6) {n : Nat} (hn : n ≤ 10) (hg : ∀ m, m < n → gq_L W 11900 m st) (hX : gq_X W0 W) (h1 : ∀ b x s q W', b ≤ x → x ≤ en → s ≤ x → q ≤ 6 → gq_X W0 W' → gq_D W' s True → Z (.inl (some (.int (Int32.ofNat 1))), (hm_H G am aw (rp_F F0 x b s q) W'), 0, 0)) (h0 : ∀ b x s q W', b ≤ x → x ≤ en → s ≤ x → q ≤ 6 → gq_X W0 W' → Z (.inl (some (.int (Int32.ofNat 0))), (hm_H G am aw (rp_F F0 x b s q) W'), 0, 0)) : et_go none (d + 31) 183 30 [some (.ref am), some (.int (Int32.ofNat n))] [] (hm_H G am aw (rp_F F0 pt bg st dp) W) 0 0 Z := by
  have he := hE.2.2.2.2.2
  induction hm : en - pt using Nat.strongRecOn generalizing pt bg st dp n W with
  | _ z ih =>
    refine hs_aload (i := 0) (p := 31) (by decide +kernel) rfl ?_
    refine hs_iload (i := 1) (p := 32) (by decide +kernel) rfl ?_
    refine hm_call hE.1 (mi := 187) (na := 1) (lk := 2) (lm := 3) (by decide +kernel) rfl rfl rfl rfl rfl rfl (rp_line hE hk (by omega) (by omega) hd hn (fun b32 x32 s32 q32 W32 k32 l32 m32 n32 o32 p32 r32 g32 f32 => hs_cb ?_) (fun b32 x32 s32 q32 W32 k32 l32 m32 n32 f32 => hs_cb ?_))
    · have hgo : ∀ m, m < n + 1 → gq_L (upd W32 11900 (Int32.ofNat (n + 1))) 11900 m s32 := fun m hm => by
        by_cases e : m < n
        · exact (((hg m e).go e f32).mono (by omega)).up0
        · obtain rfl : m = n := by omega
          exact g32.up0
      show et_go none _ 183 35 _ [.int (Int32.ofNat 1)] _ _ _ _
      refine hs_if1 (c := .ne) (t := 40) (f := 38) (by decide +kernel) (show ¬ Int32.ofNat 1 = 0 by decide) ?_
      refine hs_aload (i := 0) (p := 41) (by decide +kernel) rfl ?_
      refine hm_get hE.1 (f := 1) (p := 44) (by decide +kernel) rfl hE.2.2.1 ?_
      refine hs_k (x := Int32.ofNat 14) (p := 46) (by decide +kernel) ?_
      refine hs_calls (mi := 186) (na := 1) (lk := 2) (lm := 1) (by decide +kernel) rfl rfl rfl rfl rfl rfl rfl (rp_textAt (hs_cb ?_))
      show et_go none _ 183 49 _ [.int (Int32.ofNat (126 + 841 * 14)), .ref aw] _ _ _ _
      refine hs_iload (i := 1) (p := 50) (by decide +kernel) rfl ?_
      refine hs_k (x := Int32.ofNat 1) (p := 51) (by decide +kernel) ?_
      refine hs_iaddn (p := 52) (by decide +kernel) ?_
      refine hm_ww hE.1 (p := 53) (by decide +kernel) (by omega) ?_
      refine hs_aload (i := 0) (p := 54) (by decide +kernel) rfl ?_
      refine hm_call hE.1 (mi := 184) (na := 0) (lk := 2) (lm := 1) (by decide +kernel) rfl rfl rfl rfl rfl rfl (rp_blanks hE (by omega) (fun x54 y54 z54 => hs_cb ?_))
      show et_go none _ 183 57 _ [] _ _ _ _
      refine hs_aload (i := 0) (p := 58) (by decide +kernel) rfl ?_
      refine hm_get hE.1 (f := 6) (p := 61) (by decide +kernel) rfl rfl ?_
      refine hs_aload (i := 0) (p := 62) (by decide +kernel) rfl ?_
      refine hm_get hE.1 (f := 7) (p := 65) (by decide +kernel) rfl hE.2.2.2.2.1 ?_
      refine hs_br2n (c := .ne) (t := 70) (f := 68) (by decide +kernel) (by omega) (by omega) (fun (c65 : ¬ x54 = en) => ?_) (fun (c65 : ¬ (¬ x54 = en)) => ?_)
      · refine hs_aload (i := 0) (p := 71) (by decide +kernel) rfl ?_
        refine hs_k (x := Int32.ofNat 59) (p := 73) (by decide +kernel) ?_
        refine hs_k (x := Int32.ofNat 59) (p := 75) (by decide +kernel) ?_
        refine hm_call hE.1 (mi := 185) (na := 2) (lk := 2) (lm := 3) (by decide +kernel) rfl rfl rfl rfl rfl rfl (rp_isAt hE (by omega) (fun a75 b75 e75 => hs_cb ?_) (fun a75 => hs_cb ?_))
        · show et_go none _ 183 78 _ [.int (Int32.ofNat 1)] _ _ _ _
          refine hs_if1 (c := .ne) (t := 83) (f := 81) (by decide +kernel) (show ¬ Int32.ofNat 1 = 0 by decide) ?_
          refine hs_aload (i := 0) (p := 84) (by decide +kernel) rfl ?_
          refine hs_dup1 (p := 85) (by decide +kernel) ?_
          refine hm_get hE.1 (f := 6) (p := 88) (by decide +kernel) rfl rfl ?_
          refine hs_k (x := Int32.ofNat 1) (p := 89) (by decide +kernel) ?_
          refine hs_iaddn (p := 90) (by decide +kernel) ?_
          refine hm_put hE.1 (f := 6) (ty := .int) (p := 93) (by decide +kernel) rfl rfl rp_p6 ?_
          refine hs_iinc1 (i := 1) (p := 96) (by decide +kernel) rfl (Nat.le_of_ble_eq_true rfl) ?_
          refine hs_goto (p := 30) (by decide +kernel) ?_
          exact ih (en - (x54 + 1)) (by omega) (by omega) (by omega) (by omega) (by omega) hgo ((hX.tr f32.X).up (by omega)) rfl
        · show et_go none _ 183 78 _ [.int (Int32.ofNat 0)] _ _ _ _
          refine hs_if0 (c := .ne) (t := 83) (f := 81) (by decide +kernel) (show ¬ (¬ Int32.ofNat 0 = 0) by decide) ?_
          refine hs_k (x := Int32.ofNat 0) (p := 82) (by decide +kernel) ?_
          refine hs_zret (by decide +kernel) (.inl rfl) ?_
          exact h0 _ _ _ _ _ (by omega) (by omega) (by omega) (by omega) ((hX.tr f32.X).up (by omega))
      · refine hs_k (x := Int32.ofNat 1) (p := 69) (by decide +kernel) ?_
        refine hs_zret (by decide +kernel) (.inr rfl) ?_
        exact h1 _ _ _ _ _ (by omega) (by omega) (by omega) (by omega) ((hX.tr f32.X).up (by omega)) ⟨n + 1, hs_us, by omega, .inl trivial, hgo⟩
    · show et_go none _ 183 35 _ [.int (Int32.ofNat 0)] _ _ _ _
      refine hs_if0 (c := .ne) (t := 40) (f := 38) (by decide +kernel) (show ¬ (¬ Int32.ofNat 0 = 0) by decide) ?_
      refine hs_k (x := Int32.ofNat 0) (p := 39) (by decide +kernel) ?_
      refine hs_zret (by decide +kernel) (.inl rfl) ?_
      exact h0 _ _ _ _ _ (by omega) (by omega) (by omega) (by omega) (hX.tr f32)
theorem rp_lines (hE : rp_E G am aw ta F0 en TP) {kd : Int32} (hk : F0 13 = .int kd) (hp : pt ≤ en) (hs : st ≤ pt) (hd : dp ≤ 6) (h1 : ∀ b x s q W', b ≤ x → x ≤ en → s ≤ x → q ≤ 6 → gq_X W W' → gq_D W' s True → Z (.inl (some (.int (Int32.ofNat 1))), (hm_H G am aw (rp_F F0 x b s q) W'), 0, 0)) (h0 : ∀ b x s q W', b ≤ x → x ≤ en → s ≤ x → q ≤ 6 → gq_X W W' → Z (.inl (some (.int (Int32.ofNat 0))), (hm_H G am aw (rp_F F0 x b s q) W'), 0, 0)) : et_go none (d + 31) 183 0 [some (.ref am), none] [] (hm_H G am aw (rp_F F0 pt bg st dp) W) 0 0 Z := by
  have he := hE.2.2.2.2.2
  refine hs_aload (i := 0) (p := 1) (by decide +kernel) rfl ?_
  refine hm_call hE.1 (mi := 184) (na := 0) (lk := 2) (lm := 1) (by decide +kernel) rfl rfl rfl rfl rfl rfl (rp_blanks hE (by omega) (fun x1 y1 z1 => hs_cb ?_))
  show et_go none _ 183 4 _ [] _ _ _ _
  refine hs_aload (i := 0) (p := 5) (by decide +kernel) rfl ?_
  refine hm_get hE.1 (f := 1) (p := 8) (by decide +kernel) rfl hE.2.2.1 ?_
  refine hs_k (x := Int32.ofNat 14) (p := 10) (by decide +kernel) ?_
  refine hs_calls (mi := 186) (na := 1) (lk := 2) (lm := 1) (by decide +kernel) rfl rfl rfl rfl rfl rfl rfl (rp_textAt (hs_cb ?_))
  show et_go none _ 183 13 _ [.int (Int32.ofNat (126 + 841 * 14)), .ref aw] _ _ _ _
  refine hs_k (x := Int32.ofNat 0) (p := 14) (by decide +kernel) ?_
  refine hm_ww hE.1 (p := 15) (by decide +kernel) (by omega) ?_
  refine hs_aload (i := 0) (p := 16) (by decide +kernel) rfl ?_
  refine hm_get hE.1 (f := 6) (p := 19) (by decide +kernel) rfl rfl ?_
  refine hs_aload (i := 0) (p := 20) (by decide +kernel) rfl ?_
  refine hm_get hE.1 (f := 7) (p := 23) (by decide +kernel) rfl hE.2.2.2.2.1 ?_
  refine hs_br2n (c := .ne) (t := 28) (f := 26) (by decide +kernel) (by omega) (by omega) (fun (c23 : ¬ x1 = en) => ?_) (fun (c23 : ¬ (¬ x1 = en)) => ?_)
  · refine hs_k (x := Int32.ofNat 0) (p := 29) (by decide +kernel) ?_
    refine hs_istore (i := 1) (p := 30) (by decide +kernel) (Nat.le_of_ble_eq_true rfl) ?_
    exact rp_linesL hE hk (W0 := W) (by omega) (by omega) hd (n := 0) (by omega) (fun m hm => by omega) (gq_X.rf.up (by omega)) h1 h0
  · refine hs_k (x := Int32.ofNat 1) (p := 27) (by decide +kernel) ?_
    refine hs_zret (by decide +kernel) (.inr rfl) ?_
    exact h1 _ _ _ _ _ (by omega) (by omega) (by omega) (by omega) (gq_X.rf.up (by omega)) ⟨0, hs_us, by omega, .inl trivial, fun n hn => by omega⟩
def rp_O (F0 F' : Nat → Value) : Prop := (∀ j, j ≠ 13 → j ≠ 10 → F' j = F0 j) ∧ (∃ v, F' 13 = .int v) ∧ ∃ v, F' 10 = .int v
theorem rp_Oi {F0 : Nat → Value} {x y : Int32} : rp_O F0 (updV (updV F0 13 (.int x)) 10 (.int y)) := ⟨fun j h1 h2 => (if_neg h2).trans (if_neg h1), ⟨x, rfl⟩, ⟨y, rfl⟩⟩
theorem rp_reads (hE : rp_E G am aw ta F0 en TP) {kd : Int32} (hd : dp ≤ 6) (h1 : ∀ (F' : Nat → Value) b x s q W', rp_O F0 F' → b ≤ x → x ≤ en → s ≤ x → q ≤ 6 → gq_X W W' → gq_D W' s (kd = Int32.ofNat 1) → Z (.inl (some (.int (Int32.ofNat 1))), (hm_H G am aw (rp_F F' x b s q) W'), 0, 0)) (h0 : ∀ (F' : Nat → Value) b x s q W', rp_O F0 F' → b ≤ x → x ≤ en → s ≤ x → q ≤ 6 → gq_X W W' → Z (.inl (some (.int (Int32.ofNat 0))), (hm_H G am aw (rp_F F' x b s q) W'), 0, 0)) : et_go none (d + 32) 182 0 [some (.ref am), some (.int kd), none] [] (hm_H G am aw (rp_F F0 0 bg 0 dp) W) 0 0 Z := by
  refine hs_aload (i := 0) (p := 1) (by decide +kernel) rfl ?_
  refine hs_iload (i := 1) (p := 2) (by decide +kernel) rfl ?_
  refine hm_put hE.1 (f := 13) (ty := .int) (p := 5) (by decide +kernel) rfl rfl (rp_pO (by decide) (by decide) (by decide) (by decide)) ?_
  have hE := rp_up (f := 13) (v := .int kd) hE (by decide) (by decide) (by decide)
  have hk : updV F0 13 (.int kd) 13 = .int kd := rfl
  refine hs_iload (i := 1) (p := 6) (by decide +kernel) rfl ?_
  refine hs_k (x := Int32.ofNat 1) (p := 7) (by decide +kernel) ?_
  refine hs_br2 (c := .ne) (t := 17) (f := 10) (by decide +kernel) (fun (e : ¬ kd = Int32.ofNat 1) => ?_) (fun (e0 : ¬ (¬ kd = Int32.ofNat 1)) => have e : kd = Int32.ofNat 1 := Classical.not_not.mp e0; ?_)
  · refine hs_aload (i := 0) (p := 18) (by decide +kernel) rfl ?_
    refine hm_call hE.1 (mi := 203) (na := 0) (lk := 3) (lm := 2) (by decide +kernel) rfl rfl rfl rfl rfl rfl (rp_one hE hk (by omega) (fun b x s q W1 k l m n f g => hs_cb ?_) (fun b x s q W1 k l m n f => hs_cb ?_))
    · show et_go none _ 182 21 _ [.int (Int32.ofNat 1)] _ _ _ _
      refine hs_istore (i := 2) (p := 22) (by decide +kernel) (Nat.le_of_ble_eq_true rfl) ?_
      refine hs_aload (i := 0) (p := 23) (by decide +kernel) rfl ?_
      refine hs_iload (i := 2) (p := 24) (by decide +kernel) rfl ?_
      refine hs_if0 (c := .eq) (t := 31) (f := 27) (by decide +kernel) (show ¬ (Int32.ofNat 1 = 0) by decide) ?_
      refine hs_k (x := (-1)) (p := 28) (by decide +kernel) ?_
      refine hs_goto (p := 35) (by decide +kernel) ?_
      refine hm_put hE.1 (f := 10) (ty := .int) (p := 38) (by decide +kernel) rfl rfl (rp_pO (by decide) (by decide) (by decide) (by decide)) ?_
      refine hs_iload (i := 2) (p := 39) (by decide +kernel) rfl ?_
      refine hs_zret (by decide +kernel) (.inr rfl) ?_
      exact h1 _ _ _ _ _ _ rp_Oi k l m n f (by obtain ⟨l, a1, a2, a3, a4⟩ := g; exact ⟨l, a1, a2, .inr (a3.resolve_left id), a4⟩)
    · show et_go none _ 182 21 _ [.int (Int32.ofNat 0)] _ _ _ _
      refine hs_istore (i := 2) (p := 22) (by decide +kernel) (Nat.le_of_ble_eq_true rfl) ?_
      refine hs_aload (i := 0) (p := 23) (by decide +kernel) rfl ?_
      refine hs_iload (i := 2) (p := 24) (by decide +kernel) rfl ?_
      refine hs_if1 (c := .eq) (t := 31) (f := 27) (by decide +kernel) (show Int32.ofNat 0 = 0 by decide) ?_
      refine hs_aload (i := 0) (p := 32) (by decide +kernel) rfl ?_
      refine hm_get hE.1 (f := 8) (p := 35) (by decide +kernel) rfl rfl ?_
      refine hm_put hE.1 (f := 10) (ty := .int) (p := 38) (by decide +kernel) rfl rfl (rp_pO (by decide) (by decide) (by decide) (by decide)) ?_
      refine hs_iload (i := 2) (p := 39) (by decide +kernel) rfl ?_
      refine hs_zret (by decide +kernel) (.inl rfl) ?_
      exact h0 _ _ _ _ _ _ rp_Oi k l m n f
  · refine hs_aload (i := 0) (p := 11) (by decide +kernel) rfl ?_
    refine hm_call hE.1 (mi := 183) (na := 0) (lk := 3) (lm := 2) (by decide +kernel) rfl rfl rfl rfl rfl rfl (rp_lines hE hk (by omega) (by omega) (by omega) (fun b x s q W1 k l m n f g => hs_cb ?_) (fun b x s q W1 k l m n f => hs_cb ?_))
    · show et_go none _ 182 14 _ [.int (Int32.ofNat 1)] _ _ _ _
      refine hs_goto (p := 21) (by decide +kernel) ?_
      refine hs_istore (i := 2) (p := 22) (by decide +kernel) (Nat.le_of_ble_eq_true rfl) ?_
      refine hs_aload (i := 0) (p := 23) (by decide +kernel) rfl ?_
      refine hs_iload (i := 2) (p := 24) (by decide +kernel) rfl ?_
      refine hs_if0 (c := .eq) (t := 31) (f := 27) (by decide +kernel) (show ¬ (Int32.ofNat 1 = 0) by decide) ?_
      refine hs_k (x := (-1)) (p := 28) (by decide +kernel) ?_
      refine hs_goto (p := 35) (by decide +kernel) ?_
      refine hm_put hE.1 (f := 10) (ty := .int) (p := 38) (by decide +kernel) rfl rfl (rp_pO (by decide) (by decide) (by decide) (by decide)) ?_
      refine hs_iload (i := 2) (p := 39) (by decide +kernel) rfl ?_
      refine hs_zret (by decide +kernel) (.inr rfl) ?_
      exact h1 _ _ _ _ _ _ rp_Oi k l m n f (by obtain ⟨l, a1, a2, a3, a4⟩ := g; exact ⟨l, a1, a2, .inl e, a4⟩)
    · show et_go none _ 182 14 _ [.int (Int32.ofNat 0)] _ _ _ _
      refine hs_goto (p := 21) (by decide +kernel) ?_
      refine hs_istore (i := 2) (p := 22) (by decide +kernel) (Nat.le_of_ble_eq_true rfl) ?_
      refine hs_aload (i := 0) (p := 23) (by decide +kernel) rfl ?_
      refine hs_iload (i := 2) (p := 24) (by decide +kernel) rfl ?_
      refine hs_if1 (c := .eq) (t := 31) (f := 27) (by decide +kernel) (show Int32.ofNat 0 = 0 by decide) ?_
      refine hs_aload (i := 0) (p := 32) (by decide +kernel) rfl ?_
      refine hm_get hE.1 (f := 8) (p := 35) (by decide +kernel) rfl rfl ?_
      refine hm_put hE.1 (f := 10) (ty := .int) (p := 38) (by decide +kernel) rfl rfl (rp_pO (by decide) (by decide) (by decide) (by decide)) ?_
      refine hs_iload (i := 2) (p := 39) (by decide +kernel) rfl ?_
      refine hs_zret (by decide +kernel) (.inl rfl) ?_
      exact h0 _ _ _ _ _ _ rp_Oi k l m n f
end RPG
