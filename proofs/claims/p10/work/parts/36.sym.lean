/-! STEPS THAT LOOK AT TOKENS, but not at the heap -/
abbrev et_Y : Type := List et_N × et_C × Nat × eg_Ls × List Value × Nat × Nat
def et_I (T : List et_D) (K : et_K) (R : List Value) (E : List et_N) (C : et_C) (L : eg_Ls) (st : List Value) (G : eg_G) (L2 : eg_Ls) (st2 : List Value) : Prop := et_H T K G ∧ et_eo K R E ∧ et_co R G C ∧ et_lr R L L2 ∧ et_sr R st st2
def et_J (T : List et_D) (M : et_M) (K : et_K) (R : List Value) (G : eg_G) (x : Option eg_S) (Y : et_Y) : Prop := ∃ (K' : et_K) (R1 : List Value) (L3 : eg_Ls) (st3 : List Value) (G' : eg_G) (c s : Nat), x = some (Y.2.2.1, L3, st3, G', c, s) ∧ et_ex K K' ∧ et_fr M K G G' ∧ et_I T K' (R ++ R1) Y.1 Y.2.1 Y.2.2.2.1 Y.2.2.2.2.1 G' L3 st3 ∧ c ≤ Y.2.2.2.2.2.1 ∧ s ≤ Y.2.2.2.2.2.2
def et_df (ins : Instr) (x y : Value) (a b c d : Int) : Option (Nat × Int) := match ins, x, y with
  | .iadd, .float k, .int z => if et_mn ≤ a + c ∧ b + d ≤ et_mx then some (k.toNat, z.toInt) else none
  | .iadd, .int z, .float k => if et_mn ≤ a + c ∧ b + d ≤ et_mx then some (k.toNat, z.toInt) else none
  | .isub, .float k, .int z => if et_mn ≤ a - d ∧ b - c ≤ et_mx then some (k.toNat, - z.toInt) else none
  | _, _, _ => none
def et_dv (ins : Instr) (c d : Int) : Bool := match ins with
  | .idiv => decide (1 ≤ c) || decide (d ≤ -1)
  | .irem => decide (1 ≤ c) || decide (d ≤ -1)
  | _ => true
def et_sb (ins : Instr) (E : List et_N) (C : et_C) (pc : Nat) (L : eg_Ls) (st : List Value) (ck sk : Nat) : Option (List et_Y) := match st with
  | y :: x :: r => (match et_ib E x, et_ib E y with
    | some (a, b), some (c, d) => if et_dv ins c d = true ∧ E.length < 4294967296 then some [(E ++ [(.inl (et_bi ins a b c d), et_df ins x y a b c d)], C, pc + 1, L, .float (UInt32.ofNat E.length) :: r, ck, sk)] else none
    | _, _ => none)
  | _ => none
section ETE
variable {T : List et_D} {M : et_M} {K : et_K} {R : List Value} {E : List et_N} {C : et_C} {o pc len ck sk i c0 s0 : Nat} {ini : Bool} {L L2 : eg_Ls} {st st2 : List Value} {G : eg_G}
theorem et_fr.rf : et_fr M K G G := ⟨Nat.le_refl _, fun _ _ _ _ _ => rfl⟩
theorem et_ex.rf : et_ex K K := fun _ _ h => h
theorem et_j0 {pc : Nat} (h : et_I T K R E C L st G L2 st2) (h1 : c0 ≤ ck) (h2 : s0 ≤ sk) : et_J T M K R G (some (pc, L2, st2, G, c0, s0)) (E, C, pc, L, st, ck, sk) := ⟨K, [], L2, st2, G, c0, s0, rfl, et_ex.rf, et_fr.rf, by rw [List.append_nil]; exact h, h1, h2⟩
theorem et_tkl {n : Nat} (h : n < 4294967296) : (UInt32.ofNat n).toNat = n := UInt32.toNat_ofNat_of_lt' h
theorem et_new {x : Value} (hl : R.length = E.length) : (R ++ [x])[E.length]? = some x := by
  rw [← hl, List.getElem?_append_right (Nat.le_refl _), Nat.sub_self]
  rfl
/-- a fresh int -/
theorem et_j1 {pc : Nat} {x : Int32} {lo hi : Int} {d : Option (Nat × Int)} {r r2 : List Value} (h : et_I T K R E C L r G L2 r2) (hn : E.length < 4294967296) (b1 : lo ≤ x.toInt) (b2 : x.toInt ≤ hi) (hd : ∀ j c, d = some (j, c) → ∃ y, R[j]? = some (.int y) ∧ x.toInt = y.toInt + c) (h1 : c0 ≤ ck) (h2 : s0 ≤ sk) :
    et_J T M K R G (some (pc, L2, .int x :: r2, G, c0, s0)) (E ++ [(.inl (lo, hi), d)], C, pc, L, .float (UInt32.ofNat E.length) :: r, ck, sk) := by
  obtain ⟨hH, hE, hC, hL, hs⟩ := h
  refine ⟨K, [.int x], L2, .int x :: r2, G, c0, s0, rfl, et_ex.rf, et_fr.rf, ⟨hH, ?_, et_co_mono hC, et_lr_mono hL, ⟨_, _, rfl, ⟨x, rfl, by rw [et_tkl hn]; exact et_new hE.1⟩, et_sr_mono hs⟩⟩, h1, h2⟩
  cases d with
  | none => exact et_eo_mono hE ⟨x, rfl, b1, b2⟩
  | some q =>
    obtain ⟨j, c⟩ := q
    obtain ⟨y, e1, e2⟩ := hd j c rfl
    exact et_eo_monod hE b1 b2 e1 e2
theorem et_bi_ok {ins : Instr} {f : Int32 → Int32 → Int32} {x y : Int32} {a b c d : Int} (hf : et_bf ins = some f) (ha : a ≤ x.toInt) (hb : x.toInt ≤ b) (hc : c ≤ y.toInt) (hd : y.toInt ≤ d) : (et_bi ins a b c d).1 ≤ (f x y).toInt ∧ (f x y).toInt ≤ (et_bi ins a b c d).2 := by
  cases ins <;> first | (cases hf; done) | skip
  case iadd => cases hf; exact et_w_ok (z := x.toInt + y.toInt) (by omega) (by omega) (et_add x y)
  case isub => cases hf; exact et_w_ok (z := x.toInt - y.toInt) (by omega) (by omega) (et_sub x y)
  case imul =>
    cases hf
    obtain ⟨h1, h2⟩ := et_mulb ha hb hc hd
    exact et_w_ok (z := x.toInt * y.toInt) h1 h2 (et_mul x y)
  case iand =>
    cases hf
    dsimp only [et_bi]
    split
    · obtain ⟨h1, h2⟩ := et_and1 x y (by omega)
      exact ⟨h1, by dsimp only; omega⟩
    · split
      · obtain ⟨h1, h2⟩ := et_and2 x y (by omega)
        exact ⟨h1, by dsimp only; omega⟩
      · exact et_any _
  case ior =>
    cases hf
    dsimp only [et_bi]
    split
    · exact et_or1 x y (by omega) (by omega) (by omega) (by omega)
    · exact et_any _
  case ixor => exact et_any _
  case ishl => exact et_any _
  case ishr =>
    cases hf
    dsimp only [et_bi]
    split
    · rename_i hq
      obtain ⟨h1, h2⟩ := et_shk x c.toNat (by omega) y (by omega) (by omega) hb
      exact ⟨h1, h2⟩
    · split
      · obtain ⟨h1, h2⟩ := et_shr x (y &&& 31) (by omega)
        exact ⟨h1, by dsimp only; omega⟩
      · exact et_any _
  case iushr =>
    cases hf
    dsimp only [et_bi]
    split
    · rename_i h
      obtain ⟨h1, h2⟩ := et_ushr x c.toNat (by omega) (by omega) y (by omega)
      have e : (c - 1).toNat = c.toNat - 1 := by omega
      exact ⟨h1, by dsimp only; rw [e]; exact h2⟩
    · exact et_any _
  case idiv =>
    cases hf
    dsimp only [et_bi]
    split
    · obtain ⟨h1, h2⟩ := et_div2 x y (b := b) (c := c) (by omega) (by omega) (by omega) (by omega)
      exact ⟨h1, by dsimp only; omega⟩
    · exact et_any _
  case irem =>
    cases hf
    dsimp only [et_bi]
    split
    · obtain ⟨h1, h2, h3⟩ := et_rem x y (by omega) (by omega)
      exact ⟨h1, by dsimp only; omega⟩
    · exact et_any _
theorem et_bf_st {ins : Instr} {f : Int32 → Int32 → Int32} {x y : Int32} {mc ms : Nat} {r : List Value} (hf : et_bf ins = some f) (hy : (ins = .idiv ∨ ins = .irem) → ¬ y = 0) : eg_st o ini mc ms pc len ins L (.int y :: .int x :: r) G c0 s0 = some (pc + 1, L, .int (f x y) :: r, G, c0, s0) := by
  cases ins <;> first | (cases hf; done) | (cases hf; rfl) | skip
  case idiv =>
    cases hf
    dsimp only [eg_st]
    rw [if_neg (hy (.inl rfl))]
  case irem =>
    cases hf
    dsimp only [eg_st]
    rw [if_neg (hy (.inr rfl))]
theorem et_df_ok {ins : Instr} {f : Int32 → Int32 → Int32} {u v : Value} {x y : Int32} {a b c d : Int} {j : Nat} {q : Int} (hf : et_bf ins = some f) (hu : et_vr R u (.int x)) (hv : et_vr R v (.int y)) (ha : a ≤ x.toInt) (hb : x.toInt ≤ b) (hc : c ≤ y.toInt) (hd : y.toInt ≤ d) (h : et_df ins u v a b c d = some (j, q)) : ∃ z, R[j]? = some (.int z) ∧ (f x y).toInt = z.toInt + q := by
  unfold et_df at h
  split at h
  · split at h
    · rename_i hr
      cases h
      cases hf
      obtain ⟨x', e, hx⟩ := hu
      cases e
      have e : Value.int y = .int _ := hv
      cases e
      exact ⟨x, hx, et_add x y (by omega) (by omega)⟩
    · cases h
  · split at h
    · rename_i hr
      cases h
      cases hf
      obtain ⟨y', e, hy⟩ := hv
      cases e
      have e : Value.int x = .int _ := hu
      cases e
      exact ⟨y, hy, by rw [et_add x y (by omega) (by omega)]; omega⟩
    · cases h
  · split at h
    · rename_i hr
      cases h
      cases hf
      obtain ⟨x', e, hx⟩ := hu
      cases e
      have e : Value.int y = .int _ := hv
      cases e
      exact ⟨x, hx, by rw [et_sub x y (by omega) (by omega)]; omega⟩
    · cases h
  · cases h
theorem et_sb_ok {ins : Instr} {f : Int32 → Int32 → Int32} {l : List et_Y} {mc ms : Nat} (hf : et_bf ins = some f) (h : et_sb ins E C pc L st ck sk = some l) (hi : et_I T K R E C L st G L2 st2) (h1 : c0 ≤ ck) (h2 : s0 ≤ sk) : ∃ Y ∈ l, et_J T M K R G (eg_st o ini mc ms pc len ins L2 st2 G c0 s0) Y := by
  unfold et_sb at h
  split at h
  · rename_i v u r
    split at h
    · rename_i a b c d hb1 hb2
      split at h
      · rename_i hc
        cases h
        obtain ⟨hH, hE, hC, hL, _, _, rfl, hv, _, r2, rfl, hu, hr⟩ := hi
        obtain ⟨x, rfl, x1, x2⟩ := et_ib_ok hb1 hE hu
        obtain ⟨y, rfl, y1, y2⟩ := et_ib_ok hb2 hE hv
        obtain ⟨z1, z2⟩ := et_bi_ok hf x1 x2 y1 y2
        refine ⟨_, List.mem_cons_self, ?_⟩
        rw [et_bf_st hf (fun he e => ?_)]
        · exact et_j1 ⟨hH, hE, hC, hL, hr⟩ hc.2 z1 z2 (fun j q e => et_df_ok hf hu hv x1 x2 y1 y2 e) h1 h2
        · have e0 : y.toInt = 0 := by rw [e]; rfl
          have hc1 := hc.1
          unfold et_dv at hc1
          rcases he with rfl | rfl
          · simp only [Bool.or_eq_true, decide_eq_true_eq] at hc1
            omega
          · simp only [Bool.or_eq_true, decide_eq_true_eq] at hc1
            omega
      · cases h
    · cases h
  · cases h
end ETE
