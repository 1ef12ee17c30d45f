/-! BY HAND: the reference's parser, leaves -/
theorem hs_if1 {d k pc ck sk t f : Nat} {L : eg_Ls} {r : List Value} {G : eg_G} {Z : eg_O → Prop} {c : ClassFile.Cond} {x : Int32} (hc : hs_if k pc = some (c, t, f)) (hx : hs_c1 c x) (h : et_go none d k t L r G ck sk Z) : et_go none d k pc L (.int x :: r) G ck sk Z :=
  hs_br1 hc (fun _ => h) (fun h => absurd hx h)
theorem hs_if0 {d k pc ck sk t f : Nat} {L : eg_Ls} {r : List Value} {G : eg_G} {Z : eg_O → Prop} {c : ClassFile.Cond} {x : Int32} (hc : hs_if k pc = some (c, t, f)) (hx : ¬ hs_c1 c x) (h : et_go none d k f L r G ck sk Z) : et_go none d k pc L (.int x :: r) G ck sk Z :=
  hs_br1 hc (fun h => absurd h hx) (fun _ => h)
def rp_F (F0 : Nat → Value) (pt bg st dp : Nat) : Nat → Value := fun j => if j = 6 then .int (Int32.ofNat pt) else if j = 8 then .int (Int32.ofNat bg) else if j = 12 then .int (Int32.ofNat st) else if j = 9 then .int (Int32.ofNat dp) else F0 j
def rp_E (G : eg_G) (am aw ta : Nat) (F0 : Nat → Value) (en : Nat) (TP : Nat → Int32) : Prop := hm_ok G am aw ∧ (ta < G.2 ∧ ta ≠ am ∧ ta ≠ aw ∧ eg_at G ta = .inl (1, (400, .inl TP))) ∧ F0 1 = .ref aw ∧ F0 4 = .ref ta ∧ F0 7 = .int (Int32.ofNat en) ∧ en ≤ 400
section RPA
variable {F0 : Nat → Value} {pt bg st dp x : Nat}
theorem rp_p6 : updV (rp_F F0 pt bg st dp) 6 (.int (Int32.ofNat x)) = rp_F F0 x bg st dp := by
  funext j
  unfold updV rp_F
  by_cases h : j = 6
  · rw [if_pos h, if_pos h]
  · rw [if_neg h, if_neg h, if_neg h]
theorem rp_p8 : updV (rp_F F0 pt bg st dp) 8 (.int (Int32.ofNat x)) = rp_F F0 pt x st dp := by
  funext j
  unfold updV rp_F
  by_cases h : j = 8
  · subst h
    rfl
  · rw [if_neg h]
    by_cases h6 : j = 6
    · rw [if_pos h6, if_pos h6]
    · rw [if_neg h6, if_neg h6, if_neg h, if_neg h]
theorem rp_p12 : updV (rp_F F0 pt bg st dp) 12 (.int (Int32.ofNat x)) = rp_F F0 pt bg x dp := by
  funext j
  unfold updV rp_F
  by_cases h : j = 12
  · subst h
    rfl
  · simp only [if_neg h]
theorem rp_p9 : updV (rp_F F0 pt bg st dp) 9 (.int (Int32.ofNat x)) = rp_F F0 pt bg st x := by
  funext j
  unfold updV rp_F
  by_cases h : j = 9
  · subst h
    rfl
  · simp only [if_neg h]
end RPA
section RPB
variable {d am aw ta en pt bg st dp : Nat} {G : eg_G} {F0 : Nat → Value} {TP W : Nat → Int32} {Z : eg_O → Prop}
theorem rp_isAt (hE : rp_E G am aw ta F0 en TP) (hp : pt ≤ 400) {lo hi : Int32} (h1 : pt < en → lo ≤ TP pt → TP pt ≤ hi → Z (.inl (some (.int (Int32.ofNat 1))), (hm_H G am aw (rp_F F0 pt bg st dp) W), 0, 0)) (h0 : (pt < en → lo ≤ TP pt → TP pt ≤ hi → False) → Z (.inl (some (.int (Int32.ofNat 0))), (hm_H G am aw (rp_F F0 pt bg st dp) W), 0, 0)) : et_go none d 185 0 [some (.ref am), some (.int lo), some (.int hi)] [] (hm_H G am aw (rp_F F0 pt bg st dp) W) 0 0 Z := by
  have he := hE.2.2.2.2.2
  refine hs_aload (i := 0) (p := 1) (by decide +kernel) rfl ?_
  refine hm_get hE.1 (f := 6) (p := 4) (by decide +kernel) rfl rfl ?_
  refine hs_aload (i := 0) (p := 5) (by decide +kernel) rfl ?_
  refine hm_get hE.1 (f := 7) (p := 8) (by decide +kernel) rfl hE.2.2.2.2.1 ?_
  refine hs_br2n (c := .ge) (t := 41) (f := 11) (by decide +kernel) (by omega) (by omega) (fun (c8 : en ≤ pt) => ?_) (fun (c8 : ¬ (en ≤ pt)) => ?_)
  · refine hs_k (x := Int32.ofNat 0) (p := 42) (by decide +kernel) ?_
    refine hs_zret (by decide +kernel) (.inl rfl) ?_
    exact h0 (fun a1 a2 a3 => by first | omega | exact absurd a2 (Int32.not_le.mpr c21) | exact absurd a3 (Int32.not_le.mpr c34))
  · refine hs_aload (i := 0) (p := 12) (by decide +kernel) rfl ?_
    refine hm_get hE.1 (f := 4) (p := 15) (by decide +kernel) rfl hE.2.2.2.1 ?_
    refine hs_aload (i := 0) (p := 16) (by decide +kernel) rfl ?_
    refine hm_get hE.1 (f := 6) (p := 19) (by decide +kernel) rfl rfl ?_
    refine hs_bald (p := 20) (by decide +kernel) ((hm_o hE.2.1.2.1 hE.2.1.2.2.1).trans hE.2.1.2.2.2) hE.2.1.1 (by omega) (by omega) ?_
    refine hs_iload (i := 1) (p := 21) (by decide +kernel) rfl ?_
    refine hs_br2 (c := .lt) (t := 41) (f := 24) (by decide +kernel) (fun (c21 : (TP pt) < lo) => ?_) (fun (c21 : ¬ ((TP pt) < lo)) => ?_)
    · refine hs_k (x := Int32.ofNat 0) (p := 42) (by decide +kernel) ?_
      refine hs_zret (by decide +kernel) (.inl rfl) ?_
      exact h0 (fun a1 a2 a3 => by first | omega | exact absurd a2 (Int32.not_le.mpr c21) | exact absurd a3 (Int32.not_le.mpr c34))
    · refine hs_aload (i := 0) (p := 25) (by decide +kernel) rfl ?_
      refine hm_get hE.1 (f := 4) (p := 28) (by decide +kernel) rfl hE.2.2.2.1 ?_
      refine hs_aload (i := 0) (p := 29) (by decide +kernel) rfl ?_
      refine hm_get hE.1 (f := 6) (p := 32) (by decide +kernel) rfl rfl ?_
      refine hs_bald (p := 33) (by decide +kernel) ((hm_o hE.2.1.2.1 hE.2.1.2.2.1).trans hE.2.1.2.2.2) hE.2.1.1 (by omega) (by omega) ?_
      refine hs_iload (i := 2) (p := 34) (by decide +kernel) rfl ?_
      refine hs_br2 (c := .gt) (t := 41) (f := 37) (by decide +kernel) (fun (c34 : hi < (TP pt)) => ?_) (fun (c34 : ¬ (hi < (TP pt))) => ?_)
      · refine hs_k (x := Int32.ofNat 0) (p := 42) (by decide +kernel) ?_
        refine hs_zret (by decide +kernel) (.inl rfl) ?_
        exact h0 (fun a1 a2 a3 => by first | omega | exact absurd a2 (Int32.not_le.mpr c21) | exact absurd a3 (Int32.not_le.mpr c34))
      · refine hs_k (x := Int32.ofNat 1) (p := 38) (by decide +kernel) ?_
        refine hs_goto (p := 42) (by decide +kernel) ?_
        refine hs_zret (by decide +kernel) (.inr rfl) ?_
        exact h1 (by omega) (Int32.not_lt.mp c21) (Int32.not_lt.mp c34)
end RPB
