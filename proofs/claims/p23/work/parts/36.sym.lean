section
/-! STEPS THAT LOOK AT TOKENS, but not at the heap -/
abbrev et_Y : Type := List et_N × et_C × Nat × eg_Ls × List Value × Nat × Nat
def et_I (T : List et_D) (K : et_K) (R : List Value) (E : List et_N) (C : et_C) (L : eg_Ls) (st : List Value) (G : eg_G) (L2 : eg_Ls) (st2 : List Value) : Prop := et_H T K G ∧ et_eo K R E ∧ et_co R G C ∧ et_lr R L L2 ∧ et_sr R st st2
def et_J (T : List et_D) (M : et_M) (K : et_K) (R : List Value) (G : eg_G) (x : Option eg_S) (Y : et_Y) : Prop := ∃ (K' : et_K) (R1 : List Value) (L3 : eg_Ls) (st3 : List Value) (G' : eg_G) (c s : Nat), x = some (Y.2.2.1, L3, st3, G', c, s) ∧ et_ex K K' ∧ et_fr M K G G' ∧ et_I T K' (R ++ R1) Y.1 Y.2.1 Y.2.2.2.1 Y.2.2.2.2.1 G' L3 st3 ∧ c ≤ Y.2.2.2.2.2.1 ∧ s ≤ Y.2.2.2.2.2.2
def et_df (ins : Instr) (x y : Value) (a b c d : Int) : Option (Nat × Int) := match ins, x, y with
  | .iadd, .float k, .int z => if et_mn ≤ a + c ∧ b + d ≤ et_mx then some (k.toNat, z.toInt) else none
  | .iadd, .int z, .float k => if et_mn ≤ a + c ∧ b + d ≤ et_mx then some (k.toNat, z.toInt) else none
  | .isub, .float k, .int z => if et_mn ≤ a - d ∧ b - c ≤ et_mx then some (k.toNat, - z.toInt) else none
  | _, _, _ => none
def et_dv (ins : Instr) (c d : Int) : Bool := match ins with
  | .idiv => decide (1 ≤ c) || decide (d ≤ -1)
  | .irem => decide (1 ≤ c) || decide (d ≤ -1)
  | _ => true
def et_sb (ins : Instr) (E : List et_N) (C : et_C) (pc : Nat) (L : eg_Ls) (st : List Value) (ck sk : Nat) : Option (List et_Y) := match st with
  | y :: x :: r => (match et_ib E x, et_ib E y with
    | some (a, b), some (c, d) => if et_dv ins c d = true ∧ E.length < 4294967296 then some [(E ++ [(.inl (et_bi ins a b c d), et_df ins x y a b c d)], C, pc + 1, L, .float (UInt32.ofNat E.length) :: r, ck, sk)] else none
    | _, _ => none)
  | _ => none
section ETE
variable {T : List et_D} {M : et_M} {K : et_K} {R : List Value} {E : List et_N} {C : et_C} {o pc len ck sk i c0 s0 : Nat} {ini : Bool} {L L2 : eg_Ls} {st st2 : List Value} {G : eg_G}
theorem et_fr.rf : et_fr M K G G := ⟨Nat.le_refl _, fun _ _ _ _ _ => rfl⟩
theorem et_ex.rf : et_ex K K := fun _ _ h => h
theorem et_j0 {pc : Nat} (h : et_I T K R E C L st G L2 st2) (h1 : c0 ≤ ck) (h2 : s0 ≤ sk) : et_J T M K R G (some (pc, L2, st2, G, c0, s0)) (E, C, pc, L, st, ck, sk) := ⟨K, [], L2, st2, G, c0, s0, rfl, et_ex.rf, et_fr.rf, by rw [List.append_nil]; exact h, h1, h2⟩
theorem et_tkl {n : Nat} (h : n < 4294967296) : (UInt32.ofNat n).toNat = n := UInt32.toNat_ofNat_of_lt' h
theorem et_new {x : Value} (hl : R.length = E.length) : (R ++ [x])[E.length]? = some x := by
  rw [← hl, List.getElem?_append_right (Nat.le_refl _), Nat.sub_self]
  rfl
/-- a fresh int -/
theorem et_j1 {pc : Nat} {x : Int32} {lo hi : Int} {d : Option (Nat × Int)} {r r2 : List Value} (h : et_I T K R E C L r G L2 r2) (hn : E.length < 4294967296) (b1 : lo ≤ x.toInt) (b2 : x.toInt ≤ hi) (hd : ∀ j c, d = some (j, c) → ∃ y, R[j]? = some (.int y) ∧ x.toInt = y.toInt + c) (h1 : c0 ≤ ck) (h2 : s0 ≤ sk) :
    et_J T M K R G (some (pc, L2, .int x :: r2, G, c0, s0)) (E ++ [(.inl (lo, hi), d)], C, pc, L, .float (UInt32.ofNat E.length) :: r, ck, sk) := by
  obtain ⟨hH, hE, hC, hL, hs⟩ := h
  refine ⟨K, [.int x], L2, .int x :: r2, G, c0, s0, rfl, et_ex.rf, et_fr.rf, ⟨hH, ?_, et_co_mono hC, et_lr_mono hL, ⟨_, _, rfl, ⟨x, rfl, by rw [et_tkl hn]; exact et_new hE.1⟩, et_sr_mono hs⟩⟩, h1, h2⟩
  cases d with
  | none => exact et_eo_mono hE ⟨x, rfl, b1, b2⟩
  | some q =>
    obtain ⟨j, c⟩ := q
    obtain ⟨y, e1, e2⟩ := hd j c rfl
    exact et_eo_monod hE b1 b2 e1 e2
theorem et_bi_ok {ins : Instr} {f : Int32 → Int32 → Int32} {x y : Int32} {a b c d : Int} (hf : et_bf ins = some f) (ha : a ≤ x.toInt) (hb : x.toInt ≤ b) (hc : c ≤ y.toInt) (hd : y.toInt ≤ d) : (et_bi ins a b c d).1 ≤ (f x y).toInt ∧ (f x y).toInt ≤ (et_bi ins a b c d).2 := by
  cases ins <;> first | (cases hf; done) | skip
  case iadd => cases hf; exact et_w_ok (z := x.toInt + y.toInt) (by omega) (by omega) (et_add x y)
  case isub => cases hf; exact et_w_ok (z := x.toInt - y.toInt) (by omega) (by omega) (et_sub x y)
  case imul =>
    cases hf
    obtain ⟨h1, h2⟩ := et_mulb ha hb hc hd
    exact et_w_ok (z := x.toInt * y.toInt) h1 h2 (et_mul x y)
  case iand =>
    cases hf
    dsimp only [et_bi]
    split
    · obtain ⟨h1, h2⟩ := et_and1 x y (by omega)
      exact ⟨h1, by dsimp only; omega⟩
    · split
      · obtain ⟨h1, h2⟩ := et_and2 x y (by omega)
        exact ⟨h1, by dsimp only; omega⟩
      · exact et_any _
  case ior =>
    cases hf
    dsimp only [et_bi]
    split
    · exact et_or1 x y (by omega) (by omega) (by omega) (by omega)
    · exact et_any _
  case ixor => exact et_any _
  case ishl => exact et_any _
  case ishr =>
    cases hf
    dsimp only [et_bi]
    split
    · rename_i hq
      obtain ⟨h1, h2⟩ := et_shk x c.toNat (by omega) y (by omega) (by omega) hb
      exact ⟨h1, h2⟩
    · split
      · obtain ⟨h1, h2⟩ := et_shr x (y &&& 31) (by omega)
        exact ⟨h1, by dsimp only; omega⟩
      · exact et_any _
  case iushr =>
    cases hf
    dsimp only [et_bi]
    split
    · rename_i h
      obtain ⟨h1, h2⟩ := et_ushr x c.toNat (by omega) (by omega) y (by omega)
      have e : (c - 1).toNat = c.toNat - 1 := by omega
      exact ⟨h1, by dsimp only; rw [e]; exact h2⟩
    · exact et_any _
  case idiv =>
    cases hf
    dsimp only [et_bi]
    split
    · obtain ⟨h1, h2⟩ := et_div2 x y (b := b) (c := c) (by omega) (by omega) (by omega) (by omega)
      exact ⟨h1, by dsimp only; omega⟩
    · exact et_any _
  case irem =>
    cases hf
    dsimp only [et_bi]
    split
    · obtain ⟨h1, h2, h3⟩ := et_rem x y (by omega) (by omega)
      exact ⟨h1, by dsimp only; omega⟩
    · exact et_any _
theorem et_bf_st {ins : Instr} {f : Int32 → Int32 → Int32} {x y : Int32} {mc ms : Nat} {r : List Value} (hf : et_bf ins = some f) (hy : (ins = .idiv ∨ ins = .irem) → ¬ y = 0) : eg_st o ini mc ms pc len ins L (.int y :: .int x :: r) G c0 s0 = some (pc + 1, L, .int (f x y) :: r, G, c0, s0) := by
  cases ins <;> first | (cases hf; done) | (cases hf; rfl) | skip
  case idiv =>
    cases hf
    dsimp only [eg_st]
    rw [if_neg (hy (.inl rfl))]
  case irem =>
    cases hf
    dsimp only [eg_st]
    rw [if_neg (hy (.inr rfl))]
theorem et_df_ok {ins : Instr} {f : Int32 → Int32 → Int32} {u v : Value} {x y : Int32} {a b c d : Int} {j : Nat} {q : Int} (hf : et_bf ins = some f) (hu : et_vr R u (.int x)) (hv : et_vr R v (.int y)) (ha : a ≤ x.toInt) (hb : x.toInt ≤ b) (hc : c ≤ y.toInt) (hd : y.toInt ≤ d) (h : et_df ins u v a b c d = some (j, q)) : ∃ z, R[j]? = some (.int z) ∧ (f x y).toInt = z.toInt + q := by
  unfold et_df at h
  split at h
  · split at h
    · rename_i hr
      cases h
      cases hf
      obtain ⟨x', e, hx⟩ := hu
      cases e
      have e : Value.int y = .int _ := hv
      cases e
      exact ⟨x, hx, et_add x y (by omega) (by omega)⟩
    · cases h
  · split at h
    · rename_i hr
      cases h
      cases hf
      obtain ⟨y', e, hy⟩ := hv
      cases e
      have e : Value.int x = .int _ := hu
      cases e
      exact ⟨y, hy, by rw [et_add x y (by omega) (by omega)]; omega⟩
    · cases h
  · split at h
    · rename_i hr
      cases h
      cases hf
      obtain ⟨x', e, hx⟩ := hu
      cases e
      have e : Value.int y = .int _ := hv
      cases e
      exact ⟨x, hx, by rw [et_sub x y (by omega) (by omega)]; omega⟩
    · cases h
  · cases h
theorem et_sb_ok {ins : Instr} {f : Int32 → Int32 → Int32} {l : List et_Y} {mc ms : Nat} (hf : et_bf ins = some f) (h : et_sb ins E C pc L st ck sk = some l) (hi : et_I T K R E C L st G L2 st2) (h1 : c0 ≤ ck) (h2 : s0 ≤ sk) : ∃ Y ∈ l, et_J T M K R G (eg_st o ini mc ms pc len ins L2 st2 G c0 s0) Y := by
  unfold et_sb at h
  split at h
  · rename_i v u r
    split at h
    · rename_i a b c d hb1 hb2
      split at h
      · rename_i hc
        cases h
        obtain ⟨hH, hE, hC, hL, _, _, rfl, hv, _, r2, rfl, hu, hr⟩ := hi
        obtain ⟨x, rfl, x1, x2⟩ := et_ib_ok hb1 hE hu
        obtain ⟨y, rfl, y1, y2⟩ := et_ib_ok hb2 hE hv
        obtain ⟨z1, z2⟩ := et_bi_ok hf x1 x2 y1 y2
        refine ⟨_, List.mem_cons_self, ?_⟩
        rw [et_bf_st hf (fun he e => ?_)]
        · exact et_j1 ⟨hH, hE, hC, hL, hr⟩ hc.2 z1 z2 (fun j q e => et_df_ok hf hu hv x1 x2 y1 y2 e) h1 h2
        · have e0 : y.toInt = 0 := by rw [e]; rfl
          have hc1 := hc.1
          unfold et_dv at hc1
          rcases he with rfl | rfl
          · simp only [Bool.or_eq_true, decide_eq_true_eq] at hc1
            omega
          · simp only [Bool.or_eq_true, decide_eq_true_eq] at hc1
            omega
      · cases h
    · cases h
  · cases h
end ETE
end
section
def et_yl (E : List et_N) (C : et_C) (pc len : Nat) (L : eg_Ls) (st : List Value) (ck sk i kd : Nat) : Option (List et_Y) := match eg_ld L i with
  | some (.float k) => if kd = 0 then some [(E, C, pc + len, L, et_cn E (.float k) :: st, ck, sk)] else none
  | some (.double k) => if kd = 1 then some [(E, C, pc + len, L, .double k :: st, ck, sk)] else none
  | some (.retAddr k) => if kd = 2 then some [(E, C, pc + len, L, .retAddr k :: st, ck, sk)] else none
  | _ => none
def et_ys (E : List et_N) (C : et_C) (pc len : Nat) (L : eg_Ls) (st : List Value) (ck sk i kd : Nat) : Option (List et_Y) := match st with
  | .float k :: r => if kd = 0 ∧ i < L.length then some [(E, C, pc + len, eg_s1 L i (.float k), r, ck, sk)] else none
  | .double k :: r => if kd = 1 ∧ i + 1 < L.length then some [(E, C, pc + len, eg_s2 L i (.double k), r, ck, sk)] else none
  | .retAddr k :: r => if kd = 2 ∧ i < L.length then some [(E, C, pc + len, eg_s1 L i (.retAddr k), r, ck, sk)] else none
  | _ => none
def et_yi (E : List et_N) (C : et_C) (pc len : Nat) (L : eg_Ls) (st : List Value) (ck sk i : Nat) (n : Int) : Option (List et_Y) := match eg_ld L i with
  | some (.float k) => (match et_ib E (.float k) with
    | some (a, b) => if len = 3 ∧ i < L.length ∧ E.length < 4294967296 ∧ et_mn ≤ n ∧ n ≤ et_mx then some [(E ++ [(.inl (et_w (a + n) (b + n)), if et_mn ≤ a + n ∧ b + n ≤ et_mx then some (k.toNat, n) else none)], C, pc + 3, eg_s1 L i (.float (UInt32.ofNat E.length)), st, ck, sk)] else none
    | none => none)
  | _ => none
/-- a fresh int out of one value of category 1 or 2 -/
def et_yu (E : List et_N) (C : et_C) (pc : Nat) (L : eg_Ls) (r : List Value) (ck sk : Nat) (lo hi : Int) : Option (List et_Y) := if E.length < 4294967296 then some [(E ++ [(.inl (lo, hi), none)], C, pc + 1, L, .float (UInt32.ofNat E.length) :: r, ck, sk)] else none
def et_lmn : Int := -9223372036854775808
def et_lmx : Int := 9223372036854775807
def et_yw (E : List et_N) (C : et_C) (pc : Nat) (L : eg_Ls) (r : List Value) (ck sk : Nat) (lo hi : Int) : Option (List et_Y) := if E.length < 4294967296 then some [(E ++ [(.inr (.inl (lo, hi)), none)], C, pc + 1, L, .double (UInt64.ofNat E.length) :: r, ck, sk)] else none
def et_lf (ins : Instr) : Option (Int64 → Int64 → Int64) := match ins with
  | .ladd => some (fun x y => x + y)
  | .lsub => some (fun x y => x - y)
  | .lmul => some (fun x y => x * y)
  | .land => some (fun x y => x &&& y)
  | .lor => some (fun x y => x ||| y)
  | _ => none
def et_lg (ins : Instr) : Option (Int64 → Int32 → Int64) := match ins with
  | .lshl => some (fun x y => x <<< (y.toInt64 &&& 63))
  | .lshr => some (fun x y => x >>> (y.toInt64 &&& 63))
  | .lushr => some (fun x y => (x.toUInt64 >>> (y.toInt64.toUInt64 &&& Int64.toUInt64 63)).toInt64)
  | _ => none
def et_fork (E : List et_N) (C : et_C) (L : eg_Ls) (r : List Value) (ck sk : Nat) (t f : Nat) (c : Jvm.ClassFile.Cond) (x y : Value) : List et_Y :=
  (match et_as E c x y with
    | some F => [(F, C, t, L, r, ck, sk)]
    | none => []) ++ (match et_as E (et_ng c) x y with
    | some F => [(F, C, f, L, r, ck, sk)]
    | none => [])
section ETF
variable {T : List et_D} {M : et_M} {K : et_K} {R : List Value} {E : List et_N} {C : et_C} {o pc len ck sk i c0 s0 mc ms : Nat} {ini : Bool} {L L2 : eg_Ls} {st st2 : List Value} {G : eg_G} {l : List et_Y}
theorem et_yl0_ok (h : et_yl E C pc len L st ck sk i 0 = some l) (hi : et_I T K R E C L st G L2 st2) (h1 : c0 ≤ ck) (h2 : s0 ≤ sk) : ∃ Y ∈ l, et_J T M K R G (eg_li pc L2 st2 G c0 s0 i len) Y := by
  obtain ⟨hH, hE, hC, hL, hs⟩ := hi
  unfold et_yl at h
  split at h
  · rename_i k hd
    rw [if_pos rfl] at h
    cases h
    obtain ⟨w, e, hw⟩ := et_lr_ld hL hd
    have hw2 := et_cn_ok hE hw
    obtain ⟨x, rfl, -⟩ := hw
    refine ⟨_, List.mem_cons_self, ?_⟩
    unfold eg_li
    rw [e]
    exact et_j0 ⟨hH, hE, hC, hL, _, _, rfl, hw2, hs⟩ h1 h2
  · cases h
  · cases h
  · cases h
theorem et_yl1_ok (h : et_yl E C pc len L st ck sk i 1 = some l) (hi : et_I T K R E C L st G L2 st2) (h1 : c0 ≤ ck) (h2 : s0 ≤ sk) : ∃ Y ∈ l, et_J T M K R G (eg_ll pc L2 st2 G c0 s0 i len) Y := by
  obtain ⟨hH, hE, hC, hL, hs⟩ := hi
  unfold et_yl at h
  split at h
  · cases h
  · rename_i k hd
    rw [if_pos rfl] at h
    cases h
    obtain ⟨w, e, hw⟩ := et_lr_ld hL hd
    have hw2 := hw
    obtain ⟨x, rfl, -⟩ := hw
    refine ⟨_, List.mem_cons_self, ?_⟩
    unfold eg_ll
    rw [e]
    exact et_j0 ⟨hH, hE, hC, hL, _, _, rfl, hw2, hs⟩ h1 h2
  · cases h
  · cases h
theorem et_yl2_ok (h : et_yl E C pc len L st ck sk i 2 = some l) (hi : et_I T K R E C L st G L2 st2) (h1 : c0 ≤ ck) (h2 : s0 ≤ sk) : ∃ Y ∈ l, et_J T M K R G (eg_la pc L2 st2 G c0 s0 i len) Y := by
  obtain ⟨hH, hE, hC, hL, hs⟩ := hi
  unfold et_yl at h
  split at h
  · cases h
  · cases h
  · rename_i k hd
    rw [if_pos rfl] at h
    cases h
    obtain ⟨w, e, hw⟩ := et_lr_ld hL hd
    have hw2 := hw
    obtain ⟨rfl | ⟨a, rfl⟩, -⟩ := hw
    · refine ⟨_, List.mem_cons_self, ?_⟩
      unfold eg_la
      rw [e]
      exact et_j0 ⟨hH, hE, hC, hL, _, _, rfl, hw2, hs⟩ h1 h2
    · refine ⟨_, List.mem_cons_self, ?_⟩
      unfold eg_la
      rw [e]
      exact et_j0 ⟨hH, hE, hC, hL, _, _, rfl, hw2, hs⟩ h1 h2
  · cases h
theorem et_ys0_ok (h : et_ys E C pc len L st ck sk i 0 = some l) (hi : et_I T K R E C L st G L2 st2) (h1 : c0 ≤ ck) (h2 : s0 ≤ sk) : ∃ Y ∈ l, et_J T M K R G (eg_si pc L2 st2 G c0 s0 i len) Y := by
  obtain ⟨hH, hE, hC, hL, hs⟩ := hi
  unfold et_ys at h
  split at h
  · split at h
    · rename_i hc
      cases h
      obtain ⟨w, r2, rfl, hw, hr⟩ := hs
      have hw2 := hw
      obtain ⟨x, rfl, -⟩ := hw
      refine ⟨_, List.mem_cons_self, ?_⟩
      unfold eg_si
      dsimp only
      rw [if_pos (by rw [et_lr_len hL]; exact hc.2)]
      exact et_j0 ⟨hH, hE, hC, et_lr_s1 i hL hw2, hr⟩ h1 h2
    · cases h
  · cases h
  · cases h
  · cases h
theorem et_ys1_ok (h : et_ys E C pc len L st ck sk i 1 = some l) (hi : et_I T K R E C L st G L2 st2) (h1 : c0 ≤ ck) (h2 : s0 ≤ sk) : ∃ Y ∈ l, et_J T M K R G (eg_sl2 pc L2 st2 G c0 s0 i len) Y := by
  obtain ⟨hH, hE, hC, hL, hs⟩ := hi
  unfold et_ys at h
  split at h
  · cases h
  · split at h
    · rename_i hc
      cases h
      obtain ⟨w, r2, rfl, hw, hr⟩ := hs
      have hw2 := hw
      obtain ⟨x, rfl, -⟩ := hw
      refine ⟨_, List.mem_cons_self, ?_⟩
      unfold eg_sl2
      dsimp only
      rw [if_pos (by rw [et_lr_len hL]; exact hc.2)]
      exact et_j0 ⟨hH, hE, hC, et_lr_s2 i hL hw2, hr⟩ h1 h2
    · cases h
  · cases h
  · cases h
theorem et_ys2_ok (h : et_ys E C pc len L st ck sk i 2 = some l) (hi : et_I T K R E C L st G L2 st2) (h1 : c0 ≤ ck) (h2 : s0 ≤ sk) : ∃ Y ∈ l, et_J T M K R G (eg_sa pc L2 st2 G c0 s0 i len) Y := by
  obtain ⟨hH, hE, hC, hL, hs⟩ := hi
  unfold et_ys at h
  split at h
  · cases h
  · cases h
  · split at h
    · rename_i hc
      cases h
      obtain ⟨w, r2, rfl, hw, hr⟩ := hs
      have hw2 := hw
      have hlt : i < L2.length := by rw [et_lr_len hL]; exact hc.2
      obtain ⟨rfl | ⟨a, rfl⟩, -⟩ := hw
      · refine ⟨_, List.mem_cons_self, ?_⟩
        unfold eg_sa
        dsimp only
        rw [if_pos hlt]
        exact et_j0 ⟨hH, hE, hC, et_lr_s1 i hL hw2, hr⟩ h1 h2
      · refine ⟨_, List.mem_cons_self, ?_⟩
        unfold eg_sa
        dsimp only
        rw [if_pos hlt]
        exact et_j0 ⟨hH, hE, hC, et_lr_s1 i hL hw2, hr⟩ h1 h2
    · cases h
  · cases h
theorem et_yi_ok {n : Int} (h : et_yi E C pc len L st ck sk i n = some l) (hi : et_I T K R E C L st G L2 st2) (h1 : c0 ≤ ck) (h2 : s0 ≤ sk) : ∃ Y ∈ l, et_J T M K R G (eg_st o ini mc ms pc len (.iinc i n) L2 st2 G c0 s0) Y := by
  obtain ⟨hH, hE, hC, hL, hs⟩ := hi
  unfold et_yi at h
  split at h
  · rename_i k hd
    split at h
    · rename_i a b hb
      split at h
      · rename_i hc
        cases h
        obtain ⟨w, e, hw⟩ := et_lr_ld hL hd
        obtain ⟨x, rfl, x1, x2⟩ := et_ib_ok hb hE hw
        obtain ⟨y, ey, hy⟩ := hw
        cases ey
        have en : (Int32.ofInt n).toInt = n := Int32.toInt_ofInt_of_le hc.2.2.2.1 (by have := hc.2.2.2.2; unfold et_mx at this; omega)
        obtain ⟨z1, z2⟩ := et_w_ok (lo := a + n) (hi := b + n) (z := x.toInt + n) (x := x + Int32.ofInt n) (by omega) (by omega) (fun q1 q2 => by rw [et_add x _ (by rw [en]; exact q1) (by rw [en]; exact q2), en])
        refine ⟨_, List.mem_cons_self, ?_⟩
        dsimp only [eg_st]
        rw [e]
        dsimp only
        rw [if_pos ⟨hc.1, by rw [et_lr_len hL]; exact hc.2.1⟩]
        refine ⟨K, [.int (x + Int32.ofInt n)], _, _, G, c0, s0, rfl, et_ex.rf, et_fr.rf, ⟨hH, ?_, et_co_mono hC, et_lr_s1 i (et_lr_mono hL) ⟨_, rfl, by rw [et_tkl hc.2.2.1]; exact et_new hE.1⟩, et_sr_mono hs⟩, h1, h2⟩
        dsimp only
        split
        · rename_i hr
          exact et_eo_monod hE z1 z2 hy (by rw [et_add x _ (by rw [en]; omega) (by rw [en]; omega), en])
        · exact et_eo_mono hE ⟨_, rfl, z1, z2⟩
      · cases h
    · cases h
  · cases h
theorem et_yu_ok {r r2 : List Value} {x : Int32} {lo hi : Int} (h : et_yu E C pc L r ck sk lo hi = some l) (hI : et_I T K R E C L r G L2 r2) (b1 : lo ≤ x.toInt) (b2 : x.toInt ≤ hi) (h1 : c0 ≤ ck) (h2 : s0 ≤ sk) : ∃ Y ∈ l, et_J T M K R G (some (pc + 1, L2, .int x :: r2, G, c0, s0)) Y := by
  unfold et_yu at h
  split at h
  · rename_i hc
    cases h
    exact ⟨_, List.mem_cons_self, et_j1 hI hc b1 b2 (fun _ _ h => (nomatch h)) h1 h2⟩
  · cases h
theorem et_tkL {n : Nat} (h : n < 4294967296) : (UInt64.ofNat n).toNat = n := UInt64.toNat_ofNat_of_lt' (Nat.lt_of_lt_of_le h (by decide))
theorem et_yw_ok {r r2 : List Value} {x : Int64} {lo hi : Int} (h : et_yw E C pc L r ck sk lo hi = some l) (hI : et_I T K R E C L r G L2 r2) (b1 : lo ≤ x.toInt) (b2 : x.toInt ≤ hi) (h1 : c0 ≤ ck) (h2 : s0 ≤ sk) : ∃ Y ∈ l, et_J T M K R G (some (pc + 1, L2, .long x :: r2, G, c0, s0)) Y := by
  unfold et_yw at h
  split at h
  · rename_i hc
    cases h
    obtain ⟨hH, hE, hC, hL, hs⟩ := hI
    exact ⟨_, List.mem_cons_self, K, [.long x], L2, .long x :: r2, G, c0, s0, rfl, et_ex.rf, et_fr.rf, ⟨hH, et_eo_mono hE ⟨x, rfl, b1, b2⟩, et_co_mono hC, et_lr_mono hL, ⟨_, _, rfl, ⟨x, rfl, by rw [et_tkL hc]; exact et_new hE.1⟩, et_sr_mono hs⟩⟩, h1, h2⟩
  · cases h
theorem et_anyL (x : Int64) : et_lmn ≤ x.toInt ∧ x.toInt ≤ et_lmx := ⟨x.le_toInt, Int.le_of_lt_add_one x.toInt_lt⟩
theorem et_fork_ok {r r2 : List Value} {x y : Int32} {u v : Value} {c : Jvm.ClassFile.Cond} {t f : Nat} (hi : et_I T K R E C L r G L2 r2) (hu : et_vr R u (.int x)) (hv : et_vr R v (.int y)) (h1 : c0 ≤ ck) (h2 : s0 ≤ sk) (q : Nat) (hq1 : et_hb c x y → q = t) (hq2 : ¬ et_hb c x y → q = f) : ∃ Y ∈ et_fork E C L r ck sk t f c u v, et_J T M K R G (some (q, L2, r2, G, c0, s0)) Y := by
  obtain ⟨hH, hE, hC, hL, hs⟩ := hi
  by_cases hb : et_hb c x y
  · obtain ⟨F, e, hF⟩ := et_as_ok hE hu hv hb
    rw [hq1 hb]
    exact ⟨_, List.mem_append_left _ (by rw [e]; exact List.mem_cons_self), et_j0 ⟨hH, hF, hC, hL, hs⟩ h1 h2⟩
  · obtain ⟨F, e, hF⟩ := et_as_ok hE hu hv (et_hb_ng hb)
    rw [hq2 hb]
    exact ⟨_, List.mem_append_right _ (by rw [e]; exact List.mem_cons_self), et_j0 ⟨hH, hF, hC, hL, hs⟩ h1 h2⟩
end ETF
end
section
/-! BRANCHES on tokens -/
def et_o1 (C : et_C) (t : Nat) (L : eg_Ls) (r : List Value) (ck sk : Nat) (F : Option (List et_N)) : List et_Y := match F with
  | some F => [(F, C, t, L, r, ck, sk)]
  | none => []
def et_tw (E : List et_N) (C : et_C) (pc : Nat) (L : eg_Ls) (r : List Value) (ck sk : Nat) (v : Value) : Int → List Int → List et_Y
  | _, [] => []
  | lo, off :: t => et_o1 C (eg_tg pc off) L r ck sk (et_nw E v lo lo) ++ et_tw E C pc L r ck sk v (lo + 1) t
def et_lk (E : List et_N) (C : et_C) (pc : Nat) (L : eg_Ls) (r : List Value) (ck sk : Nat) (v : Value) (d : Int) : List (Int × Int) → List et_Y
  | [] => [(E, C, eg_tg pc d, L, r, ck, sk)]
  | (a, off) :: t => et_o1 C (eg_tg pc off) L r ck sk (et_nw E v a a) ++ et_lk E C pc L r ck sk v d t
def et_nn (E : List et_N) (k : Nat) (nl t : Nat) : List et_N := match E[k]? with
  | some (_, d) => E.set k (.inr (.inr (nl, t)), d)
  | none => E
/-- may it be compared -/
def et_cq (E : List et_N) (v : Value) : Bool := match v with
  | .null => true
  | .ref a => decide (a < 36) || decide (eg_NC ≤ a)
  | .retAddr k => (match E[k]? with
    | some (.inr (.inr (_, t)), _) => !decide (t = 1)
    | _ => false)
  | _ => false
def et_br (E : List et_N) (C : et_C) (pc : Nat) (ins : Instr) (L : eg_Ls) (st : List Value) (ck sk : Nat) : Option (List et_Y) := match ins with
  | .ifCond c off => (match st with
    | .float k :: r => if 0 ≤ (pc : Int) + off then some (et_fork E C L r ck sk (eg_tg pc off) (pc + 3) c (.float k) (.int 0)) else none
    | _ => none)
  | .if_icmp c off => (match st with
    | y :: x :: r => (match et_ib E x, et_ib E y with
      | some _, some _ => if 0 ≤ (pc : Int) + off then some (et_fork E C L r ck sk (eg_tg pc off) (pc + 3) c x y) else none
      | _, _ => none)
    | _ => none)
  | .if_acmp c off => (match st with
    | w :: v :: r => if 0 ≤ (pc : Int) + off ∧ et_cq E v = true ∧ et_cq E w = true then some [(E, C, eg_tg pc off, L, r, ck, sk), (E, C, pc + 3, L, r, ck, sk)] else none
    | _ => none)
  | .ifnull off => (match st with
    | .retAddr k :: r => (match et_rb E (.retAddr k) with
      | some (nl, t) => if 0 ≤ (pc : Int) + off then some ((if 1 ≤ nl then [(et_nn E k 2 t, C, eg_tg pc off, L, r, ck, sk)] else []) ++ (if nl ≤ 1 then [(et_nn E k 0 t, C, pc + 3, L, r, ck, sk)] else [])) else none
      | none => none)
    | _ => none)
  | .ifnonnull off => (match st with
    | .retAddr k :: r => (match et_rb E (.retAddr k) with
      | some (nl, t) => if 0 ≤ (pc : Int) + off then some ((if 1 ≤ nl then [(et_nn E k 2 t, C, pc + 3, L, r, ck, sk)] else []) ++ (if nl ≤ 1 then [(et_nn E k 0 t, C, eg_tg pc off, L, r, ck, sk)] else [])) else none
      | none => none)
    | _ => none)
  | .tableswitch d lo hi offs => (match st with
    | .float k :: r => if 0 ≤ (pc : Int) + d ∧ (offs.toList.all (fun off => decide (0 ≤ (pc : Int) + off))) = true ∧ hi - lo < offs.toList.length then some (et_tw E C pc L r ck sk (.float k) lo offs.toList ++ (et_o1 C (eg_tg pc d) L r ck sk (et_nw E (.float k) et_mn (lo - 1)) ++ et_o1 C (eg_tg pc d) L r ck sk (et_nw E (.float k) (hi + 1) et_mx))) else none
    | _ => none)
  | .lookupswitch d ps => (match st with
    | .float k :: r => if 0 ≤ (pc : Int) + d ∧ (ps.toList.all (fun q => decide (0 ≤ (pc : Int) + q.2))) = true ∧ (ps.toList.zip (ps.toList.drop 1)).all (fun (a, next) => a.1 < next.1) = true then some (et_lk E C pc L r ck sk (.float k) d ps.toList) else none
    | _ => none)
  | _ => none
section ETG
variable {T : List et_D} {M : et_M} {K : et_K} {R : List Value} {E : List et_N} {C : et_C} {o pc len ck sk i c0 s0 mc ms : Nat} {ini : Bool} {L L2 : eg_Ls} {st st2 : List Value} {G : eg_G} {l : List et_Y}
theorem et_o1_ok {r r2 : List Value} {t : Nat} {F : Option (List et_N)} {F' : List et_N} (e : F = some F') (h : et_I T K R F' C L r G L2 r2) (h1 : c0 ≤ ck) (h2 : s0 ≤ sk) : ∃ Y ∈ et_o1 C t L r ck sk F, et_J T M K R G (some (t, L2, r2, G, c0, s0)) Y := by
  subst e
  exact ⟨_, List.mem_cons_self, et_j0 h h1 h2⟩
theorem et_mL {α : Type} {P : α → Prop} {l m : List α} (h : ∃ Y ∈ l, P Y) : ∃ Y ∈ l ++ m, P Y := by
  obtain ⟨Y, h1, h2⟩ := h
  exact ⟨Y, List.mem_append_left _ h1, h2⟩
theorem et_mR {α : Type} {P : α → Prop} {l m : List α} (h : ∃ Y ∈ m, P Y) : ∃ Y ∈ l ++ m, P Y := by
  obtain ⟨Y, h1, h2⟩ := h
  exact ⟨Y, List.mem_append_right _ h1, h2⟩
theorem et_tw_ok {r r2 : List Value} {v : Value} {x : Int32} {off : Int} (hI : et_I T K R E C L r G L2 r2) (hv : et_vr R v (.int x)) (h1 : c0 ≤ ck) (h2 : s0 ≤ sk) : ∀ {l : List Int} {lo : Int}, lo ≤ x.toInt → l[(x.toInt - lo).toNat]? = some off → ∃ Y ∈ et_tw E C pc L r ck sk v lo l, et_J T M K R G (some (eg_tg pc off, L2, r2, G, c0, s0)) Y
  | [], _, _, h => by cases h
  | a :: t, lo, hl, h => by
    by_cases e : x.toInt = lo
    · rw [e, Int.sub_self] at h
      cases h
      obtain ⟨F, hF, hE⟩ := et_nw_ok hI.2.1 hv (Int.le_of_eq e.symm) (Int.le_of_eq e)
      exact et_mL (et_o1_ok hF ⟨hI.1, hE, hI.2.2⟩ h1 h2)
    · have e2 : (x.toInt - lo).toNat = (x.toInt - (lo + 1)).toNat + 1 := by omega
      rw [e2] at h
      exact et_mR (et_tw_ok hI hv h1 h2 (l := t) (by omega) h)
theorem et_lk_ok {r r2 : List Value} {v : Value} {x : Int32} {d : Int} (hI : et_I T K R E C L r G L2 r2) (hv : et_vr R v (.int x)) (h1 : c0 ≤ ck) (h2 : s0 ≤ sk) : ∀ {l : List (Int × Int)}, ∃ Y ∈ et_lk E C pc L r ck sk v d l, et_J T M K R G (some (eg_tg pc (Op.lookupswitch.offset l d x.toInt), L2, r2, G, c0, s0)) Y
  | [] => ⟨_, List.mem_cons_self, et_j0 hI h1 h2⟩
  | (a, off) :: t => by
    rw [Op.lookupswitch.offset_cons]
    split
    · rename_i e
      obtain ⟨F, hF, hE⟩ := et_nw_ok (lo := a) (hi := a) hI.2.1 hv (by omega) (by omega)
      exact et_mL (et_o1_ok hF ⟨hI.1, hE, hI.2.2⟩ h1 h2)
    · exact et_mR (et_lk_ok hI hv h1 h2 (l := t))
theorem et_lk_in {d k : Int} : ∀ {l : List (Int × Int)}, 0 ≤ (pc : Int) + d → (l.all (fun q => decide (0 ≤ (pc : Int) + q.2))) = true → 0 ≤ (pc : Int) + Op.lookupswitch.offset l d k
  | [], h, _ => h
  | (a, off) :: t, h, ha => by
    rw [List.all_cons, Bool.and_eq_true] at ha
    rw [Op.lookupswitch.offset_cons]
    split
    · exact of_decide_eq_true ha.1
    · exact et_lk_in h ha.2
theorem et_cq_ok {v w : Value} (h : et_cq E v = true) (hH : et_H T K G) (hE : et_eo K R E) (hv : et_vr R v w) : eg_ca w = true := by
  cases v
  case null =>
    have e : w = .null := hv
    rw [e]
    rfl
  case ref a =>
    have e : w = .ref a := hv
    rw [e]
    exact h
  case retAddr k =>
    unfold et_cq at h
    dsimp only at h
    split at h
    · rename_i nl t d hk
      rcases et_eo_get hE hk hv.2 with ⟨-, e⟩ | ⟨-, a, e, ha⟩
      · rw [e]
        rfl
      · rw [e]
        obtain ⟨-, q1, q2, -⟩ := hH.2.2 a t ha
        show (decide (a < 36) || decide (eg_NC ≤ a)) = true
        simp only [Bool.not_eq_true', decide_eq_false_iff_not] at h
        by_cases e0 : t = 0
        · rw [decide_eq_true (q1 e0), Bool.true_or]
        · rw [decide_eq_true (q2 (by omega)), Bool.or_true]
    · cases h
  all_goals cases h
theorem et_nn_ok {k nl t nm : Nat} {w : Value} (hE : et_eo K R E) (hv : et_vr R (.retAddr k) w) (hb : et_rb E (.retAddr k) = some (nl, t)) (hw : et_v K (.inr (.inr (nm, t))) w) : et_eo K R (et_nn E k nm t) := by
  unfold et_rb at hb
  dsimp only at hb
  split at hb
  · rename_i p d hk
    unfold et_nn
    rw [hk]
    exact et_eo_set hE hk hv.2 hw
  · cases hb
theorem et_hb_br {c : Jvm.ClassFile.Cond} {x : Int32} {t f : Nat} {q : Nat} (e : q = (match c with
      | .eq => (if x = 0 then t else f)
      | .ne => (if ¬ x = 0 then t else f)
      | .lt => (if x < 0 then t else f)
      | .ge => (if 0 ≤ x then t else f)
      | .gt => (if 0 < x then t else f)
      | .le => (if x ≤ 0 then t else f))) : (et_hb c x 0 → q = t) ∧ (¬ et_hb c x 0 → q = f) := by
  subst e
  cases c <;> exact ⟨fun h => if_pos h, fun h => if_neg h⟩
theorem et_hb_bi {c : Jvm.ClassFile.Cond} {x y : Int32} {t f : Nat} {q : Nat} (e : q = (match c with
      | .eq => (if x = y then t else f)
      | .ne => (if ¬ x = y then t else f)
      | .lt => (if x < y then t else f)
      | .ge => (if y ≤ x then t else f)
      | .gt => (if y < x then t else f)
      | .le => (if x ≤ y then t else f))) : (et_hb c x y → q = t) ∧ (¬ et_hb c x y → q = f) := by
  subst e
  cases c <;> exact ⟨fun h => if_pos h, fun h => if_neg h⟩
set_option maxHeartbeats 2000000 in
theorem et_br_ok {ins : Instr} (h : et_br E C pc ins L st ck sk = some l) (hI : et_I T K R E C L st G L2 st2) (h1 : c0 ≤ ck) (h2 : s0 ≤ sk) : ∃ Y ∈ l, et_J T M K R G (eg_st o ini mc ms pc len ins L2 st2 G c0 s0) Y := by
  obtain ⟨hH, hE, hC, hL, hs⟩ := hI
  cases ins with
  | ifCond c off =>
    dsimp only [et_br] at h
    split at h
    · rename_i k r
      split at h
      · rename_i hc
        cases h
        obtain ⟨w, r2, rfl, hv, hr⟩ := hs
        have hv2 := hv
        obtain ⟨x, rfl, -⟩ := hv
        dsimp only [eg_st]
        rw [if_pos hc]
        obtain ⟨g1, g2⟩ := et_hb_br (c := c) (x := x) (t := eg_tg pc off) (f := pc + 3) rfl
        exact et_fork_ok ⟨hH, hE, hC, hL, hr⟩ hv2 (show et_vr R (.int 0) (.int 0) from rfl) h1 h2 _ g1 g2
      · cases h
    · cases h
  | if_icmp c off =>
    dsimp only [et_br] at h
    split at h
    · rename_i v u r
      split at h
      · rename_i p q hb1 hb2
        split at h
        · rename_i hc
          cases h
          obtain ⟨_, _, rfl, hv, _, r2, rfl, hu, hr⟩ := hs
          obtain ⟨x, rfl, -⟩ := et_ib_ok (a := p.1) (b := p.2) hb1 hE hu
          obtain ⟨y, rfl, -⟩ := et_ib_ok (a := q.1) (b := q.2) hb2 hE hv
          dsimp only [eg_st]
          rw [if_pos hc]
          obtain ⟨g1, g2⟩ := et_hb_bi (c := c) (x := x) (y := y) (t := eg_tg pc off) (f := pc + 3) rfl
          exact et_fork_ok ⟨hH, hE, hC, hL, hr⟩ hu hv h1 h2 _ g1 g2
        · cases h
      · cases h
    · cases h
  | if_acmp c off =>
    dsimp only [et_br] at h
    split at h
    · rename_i w v r
      split at h
      · rename_i hc
        cases h
        obtain ⟨w', _, rfl, hw, v', r2, rfl, hv, hr⟩ := hs
        dsimp only [eg_st]
        rw [if_pos ⟨hc.1, et_cq_ok hc.2.1 hH hE hv, et_cq_ok hc.2.2 hH hE hw⟩]
        have key : ∀ q : Nat, q = eg_tg pc off ∨ q = pc + 3 → ∃ Y ∈ [(E, C, eg_tg pc off, L, r, ck, sk), (E, C, pc + 3, L, r, ck, sk)], et_J T M K R G (some (q, L2, r2, G, c0, s0)) Y := fun q hq => by
          rcases hq with rfl | rfl
          · exact ⟨_, List.mem_cons_self, et_j0 ⟨hH, hE, hC, hL, hr⟩ h1 h2⟩
          · exact ⟨_, List.mem_cons_of_mem _ List.mem_cons_self, et_j0 ⟨hH, hE, hC, hL, hr⟩ h1 h2⟩
        refine key _ ?_
        cases c
        · dsimp only
          split
          · exact .inl rfl
          · exact .inr rfl
        · dsimp only
          split
          · exact .inl rfl
          · exact .inr rfl
      · cases h
    · cases h
  | ifnull off =>
    dsimp only [et_br] at h
    split at h
    · rename_i k r
      split at h
      · rename_i nl t hb
        split at h
        · rename_i hc
          cases h
          obtain ⟨w, r2, rfl, hv, hr⟩ := hs
          have hw := et_rb_ok hb hE hv
          dsimp only [eg_st]
          rcases hw with ⟨q1, e⟩ | ⟨q1, a, e, ha⟩
          · have hE2 := et_nn_ok (nm := 2) hE hv hb (.inl ⟨by decide, e⟩)
            subst e
            refine et_mL ?_
            rw [if_pos (show 1 ≤ nl from q1)]
            dsimp only
            rw [if_pos hc]
            exact ⟨_, List.mem_cons_self, et_j0 ⟨hH, hE2, hC, hL, hr⟩ h1 h2⟩
          · have hE2 := et_nn_ok (nm := 0) hE hv hb (.inr ⟨by decide, a, e, ha⟩)
            subst e
            refine et_mR ?_
            rw [if_pos (show nl ≤ 1 by omega)]
            exact ⟨_, List.mem_cons_self, et_j0 ⟨hH, hE2, hC, hL, hr⟩ h1 h2⟩
        · cases h
      · cases h
    · cases h
  | ifnonnull off =>
    dsimp only [et_br] at h
    split at h
    · rename_i k r
      split at h
      · rename_i nl t hb
        split at h
        · rename_i hc
          cases h
          obtain ⟨w, r2, rfl, hv, hr⟩ := hs
          have hw := et_rb_ok hb hE hv
          dsimp only [eg_st]
          rcases hw with ⟨q1, e⟩ | ⟨q1, a, e, ha⟩
          · have hE2 := et_nn_ok (nm := 2) hE hv hb (.inl ⟨by decide, e⟩)
            subst e
            refine et_mL ?_
            rw [if_pos (show 1 ≤ nl from q1)]
            exact ⟨_, List.mem_cons_self, et_j0 ⟨hH, hE2, hC, hL, hr⟩ h1 h2⟩
          · have hE2 := et_nn_ok (nm := 0) hE hv hb (.inr ⟨by decide, a, e, ha⟩)
            subst e
            refine et_mR ?_
            rw [if_pos (show nl ≤ 1 by omega)]
            dsimp only
            rw [if_pos hc]
            exact ⟨_, List.mem_cons_self, et_j0 ⟨hH, hE2, hC, hL, hr⟩ h1 h2⟩
        · cases h
      · cases h
    · cases h
  | tableswitch d lo hi offs =>
    dsimp only [et_br] at h
    split at h
    · rename_i k r
      split at h
      · rename_i hc
        obtain ⟨hc1, hc2, hc3⟩ := hc
        cases h
        obtain ⟨w, r2, rfl, hv, hr⟩ := hs
        have hv2 := hv
        obtain ⟨x, rfl, -⟩ := hv
        have hx := et_any x
        dsimp only [eg_st]
        by_cases g1 : x.toInt < lo
        · rw [if_pos (.inl g1), if_pos hc1]
          obtain ⟨F, hF, hE2⟩ := et_nw_ok hE hv2 hx.1 (show x.toInt ≤ lo - 1 by omega)
          exact et_mR (et_mL (et_o1_ok hF ⟨hH, hE2, hC, hL, hr⟩ h1 h2))
        · by_cases g2 : hi < x.toInt
          · rw [if_pos (.inr g2), if_pos hc1]
            obtain ⟨F, hF, hE2⟩ := et_nw_ok hE hv2 (show hi + 1 ≤ x.toInt by omega) hx.2
            exact et_mR (et_mR (et_o1_ok hF ⟨hH, hE2, hC, hL, hr⟩ h1 h2))
          · have hj : (x.toInt - lo).toNat < offs.toList.length := by omega
            have e0 : offs.toList[(x.toInt - lo).toNat]? = some (offs.toList[(x.toInt - lo).toNat]) := List.getElem?_eq_getElem hj
            generalize offs.toList[(x.toInt - lo).toNat] = off at e0
            have e1 : offs[(x.toInt - lo).toNat]? = some off := by rw [← Array.getElem?_toList]; exact e0
            have e2 : 0 ≤ (pc : Int) + off := of_decide_eq_true (List.all_eq_true.mp hc2 off (List.mem_of_getElem? e0))
            rw [if_neg (fun h9 => h9.elim g1 g2), e1]
            dsimp only
            rw [if_pos e2]
            exact et_mL (et_tw_ok ⟨hH, hE, hC, hL, hr⟩ hv2 h1 h2 (by omega) e0)
      · cases h
    · cases h
  | lookupswitch d ps =>
    dsimp only [et_br] at h
    split at h
    · rename_i k r
      split at h
      · rename_i hc
        obtain ⟨hc1, hc2, hc3⟩ := hc
        cases h
        obtain ⟨w, r2, rfl, hv, hr⟩ := hs
        have hv2 := hv
        obtain ⟨x, rfl, -⟩ := hv
        dsimp only [eg_st]
        rw [if_pos ⟨hc3, et_lk_in hc1 hc2⟩]
        exact et_lk_ok ⟨hH, hE, hC, hL, hr⟩ hv2 h1 h2
      · cases h
    · cases h
  | _ =>
    dsimp only [et_br] at h
    cases h
end ETG
end
section
/-! THE HEAP: fields -/
def et_cl : et_C → Nat → Nat → Option Value
  | [], _, _ => none
  | e :: t, k, i => if e.1 = k ∧ e.2.1 = i then some e.2.2 else et_cl t k i
def et_fo (ty : FieldType) (p : et_P) : Bool := match ty, p with
  | .int, .inl _ => true
  | .boolean, .inl (lo, hi) => decide (0 ≤ lo) && decide (hi ≤ 1)
  | .long, .inr (.inl _) => true
  | .object _, .inr (.inr _) => true
  | .array _, .inr (.inr _) => true
  | _, _ => false
def et_kp (E : List et_N) (t lo hi : Nat) (e : Nat × Nat × Value) : Bool := (match et_rb E (.retAddr e.1) with
  | some (_, u) => !decide (u = t)
  | none => false) || (decide (e.2.1 < lo) || decide (hi < e.2.1))
def et_gf (T : List et_D) (E : List et_N) (C : et_C) (o idx pc : Nat) (L : eg_Ls) (st : List Value) (ck sk : Nat) : Option (List et_Y) := match st with
  | .retAddr k :: r => (match et_rb E (.retAddr k) with
    | some (nl, t) => if nl = 0 then (match T[t]?, (eg_fT.getD o []).lookup idx with
      | some (.inl (ci, ps)), some (cj, f, _) => if cj = ci then (match ps[f]? with
        | some p => if et_sk p = true then none else (match et_cl C k f with
          | some v => some [(E, C, pc + 3, L, et_cn E v :: r, ck, sk)]
          | none => if E.length < 4294967296 then some [(E ++ [(p, none)], (k, f, et_tk p E.length) :: C, pc + 3, L, et_tk p E.length :: r, ck, sk)] else none)
        | none => none) else none
      | _, _ => none) else none
    | none => none)
  | _ => none
def et_pf (T : List et_D) (M : et_M) (E : List et_N) (C : et_C) (o : Nat) (ini : Bool) (idx pc : Nat) (L : eg_Ls) (st : List Value) (ck sk : Nat) : Option (List et_Y) := match st with
  | v :: .retAddr k :: r => (match et_rb E (.retAddr k) with
    | some (nl, t) => if nl = 0 ∧ 2 ≤ t then (match T[t]?, (eg_fT.getD o []).lookup idx with
      | some (.inl (ci, ps)), some (cj, f, hh) => if cj = ci ∧ ((eg_fd ci f).2.2.2 = false ∨ (ini = true ∧ hh = none ∧ (eg_fd ci f).1 = eg_on o)) ∧ et_mm M t f = true ∧ (et_px (.inl (ci, ps)) f = false ∨ (ci = 11 ∧ f = 29 ∧ v = .int 0)) then (match ps[f]? with
        | some p => if et_ft E p v = true ∧ et_fo ((eg_yl.getD ci (fun _ => .int)) f) p = true then some [(E, (k, f, v) :: C.filter (et_kp E t f f), pc + 3, L, r, ck, sk)] else none
        | none => none) else none
      | _, _ => none) else none
    | none => none)
  | _ => none
section ETH
variable {T : List et_D} {M : et_M} {K : et_K} {R : List Value} {E : List et_N} {C : et_C} {o idx pc len ck sk i c0 s0 mc ms : Nat} {ini : Bool} {L L2 : eg_Ls} {st st2 : List Value} {G : eg_G} {l : List et_Y}
theorem et_cl_in {v : Value} : ∀ {C : et_C} {k i : Nat}, et_cl C k i = some v → (k, i, v) ∈ C
  | [], _, _, h => by cases h
  | e :: t, k, i, h => by
    unfold et_cl at h
    split at h
    · rename_i hc
      cases h
      obtain ⟨a, b, w⟩ := e
      obtain ⟨rfl, rfl⟩ := hc
      exact List.mem_cons_self
    · exact List.mem_cons_of_mem _ (et_cl_in h)
theorem et_at_u {G : eg_G} {m i : Nat} {c : eg_C} (h : ¬ i = m) : eg_at (eg_u G m c) i = eg_at G i := by
  unfold eg_at
  split
  · rfl
  · show (if i = m then c else G.1 i) = G.1 i
    rw [if_neg h]
theorem et_at_us {G : eg_G} {m : Nat} {c : eg_C} (h : eg_NC ≤ m) : eg_at (eg_u G m c) m = c := by
  unfold eg_at
  rw [if_neg (Nat.not_lt.mpr h)]
  show (if m = m then c else G.1 m) = c
  rw [if_pos rfl]
theorem et_tk_ok {p : et_P} {w : Value} (hw : et_v K p w) (hl : R.length = E.length) (hn : E.length < 4294967296) : et_vr (R ++ [w]) (et_tk p E.length) w := by
  obtain ⟨lo, hi⟩ | ⟨lo, hi⟩ | ⟨nl, t⟩ := p
  · obtain ⟨x, rfl, -⟩ := hw
    exact ⟨x, rfl, by rw [et_tkl hn]; exact et_new hl⟩
  · obtain ⟨x, rfl, -⟩ := hw
    exact ⟨x, rfl, by rw [et_tkL hn]; exact et_new hl⟩
  · rcases hw with ⟨-, rfl⟩ | ⟨-, a, rfl, -⟩
    · exact ⟨.inl rfl, et_new hl⟩
    · exact ⟨.inr ⟨a, rfl⟩, et_new hl⟩
/-- a fresh value of a spec -/
theorem et_jp {pc : Nat} {p : et_P} {w : Value} {r r2 : List Value} {D : et_C} (h : et_I T K R E C L r G L2 r2) (hn : E.length < 4294967296) (hw : et_v K p w) (hD : et_co (R ++ [w]) G D) (h1 : c0 ≤ ck) (h2 : s0 ≤ sk) :
    et_J T M K R G (some (pc, L2, w :: r2, G, c0, s0)) (E ++ [(p, none)], D, pc, L, et_tk p E.length :: r, ck, sk) := by
  obtain ⟨hH, hE, hC, hL, hs⟩ := h
  exact ⟨K, [w], L2, w :: r2, G, c0, s0, rfl, et_ex.rf, et_fr.rf, ⟨hH, et_eo_mono hE hw, hD, et_lr_mono hL, ⟨_, _, rfl, et_tk_ok hw hE.1 hn, et_sr_mono hs⟩⟩, h1, h2⟩
/-- a token that is an object -/
theorem et_obj {k t : Nat} {w : Value} (hb : et_rb E (.retAddr k) = some (0, t)) (hE : et_eo K R E) (hv : et_vr R (.retAddr k) w) : ∃ a, w = .ref a ∧ K a = some t ∧ R[k]? = some (.ref a) := by
  rcases et_rb_ok hb hE hv with ⟨h, -⟩ | ⟨-, a, e, h⟩
  · exact absurd h (by decide)
  · subst e
    exact ⟨a, rfl, h, hv.2⟩
theorem et_fo_ok {ty : FieldType} {p : et_P} {w : Value} (h : et_fo ty p = true) (hw : et_v K p w) : eg_fit ty w = true := by
  unfold et_fo at h
  split at h
  · obtain ⟨x, rfl, -⟩ := hw
    rfl
  · obtain ⟨x, rfl, x1, x2⟩ := hw
    rw [Bool.and_eq_true] at h
    have h1 := of_decide_eq_true h.1
    have h2 := of_decide_eq_true h.2
    have h3 : x.toInt = 0 ∨ x.toInt = 1 := by omega
    have h4 : x = 0 ∨ x = 1 := by
      rcases h3 with h3 | h3
      · exact .inl (Int32.toInt_inj.mp h3)
      · exact .inr (Int32.toInt_inj.mp h3)
    show (decide (x = 0) || decide (x = 1)) = true
    rcases h4 with rfl | rfl <;> decide
  · obtain ⟨x, rfl, -⟩ := hw
    rfl
  · rcases hw with ⟨-, rfl⟩ | ⟨-, a, rfl, -⟩ <;> rfl
  · rcases hw with ⟨-, rfl⟩ | ⟨-, a, rfl, -⟩ <;> rfl
  · cases h
theorem et_gf_ok (h : et_gf T E C o idx pc L st ck sk = some l) (hI : et_I T K R E C L st G L2 st2) (h1 : c0 ≤ ck) (h2 : s0 ≤ sk) : ∃ Y ∈ l, et_J T M K R G (eg_gf o idx pc L2 st2 G c0 s0) Y := by
  obtain ⟨hH, hE, hC, hL, hs⟩ := hI
  unfold et_gf at h
  split at h
  · rename_i k r
    split at h
    · rename_i nl t hb
      split at h
      · rename_i hn
        subst hn
        split at h
        · rename_i ci ps cj f hh hT hlk
          split at h
          · rename_i hc
            subst hc
            split at h
            · rename_i p hp
              obtain ⟨w, r2, rfl, hv, hr⟩ := hs
              obtain ⟨a, rfl, ha, hRa⟩ := et_obj hb hE hv
              obtain ⟨g1, g2, g3, d, hd, hcell, hcx⟩ := hH.2.2 a t ha
              rw [hT] at hd
              cases hd
              obtain ⟨fs, e, el, ef⟩ := hcell
              obtain ⟨x, hx, hxv⟩ := ef f p hp
              split at h
              · cases h
              rename_i hsk
              have hxv : et_v K p x := hxv.resolve_left hsk
              have hgf : eg_gf o idx pc L2 (.ref a :: r2) G c0 s0 = some (pc + 3, L2, x :: r2, G, c0, s0) := by
                unfold eg_gf
                rw [hlk]
                dsimp only
                rw [e]
                dsimp only
                rw [if_pos ⟨g1, rfl⟩, hx]
              rw [hgf]
              split at h
              · rename_i v hcl
                cases h
                obtain ⟨a2, w2, q1, -, q2, q3⟩ := hC _ (et_cl_in hcl)
                dsimp only at q1 q2 q3
                rw [hRa] at q1
                cases q1
                rw [e] at q2
                have q4 : fs[f]? = some w2 := q2
                rw [hx] at q4
                cases q4
                exact ⟨_, List.mem_cons_self, et_j0 ⟨hH, hE, hC, hL, _, _, rfl, et_cn_ok hE q3, hr⟩ h1 h2⟩
              · split at h
                · rename_i hlen
                  cases h
                  refine ⟨_, List.mem_cons_self, et_jp ⟨hH, hE, hC, hL, hr⟩ hlen hxv (fun q hq => ?_) h1 h2⟩
                  rcases List.mem_cons.mp hq with rfl | hq
                  · exact ⟨a, x, et_get_mono hRa, g1, by rw [e]; exact hx, et_tk_ok hxv hE.1 hlen⟩
                  · exact et_co_mono hC q hq
                · cases h
            · cases h
          · cases h
        · cases h
      · cases h
    · cases h
  · cases h
theorem et_cx_u {d : et_D} {a : Nat} {c c' : eg_C} (h : et_cx d a c) (hc : et_c K d c) (hp : ∀ i, et_px d i = true → et_pl c' i = et_pl c i) : et_cx d a c' := by
  obtain ⟨ci, ps⟩ | ⟨t, n, ss⟩ := d
  · refine ⟨fun e => ?_, fun e => ?_⟩
    · subst e
      rw [hp 1 (by rfl)]
      exact h.1 rfl
    · subst e
      rw [hp 29 (by rfl), hp 25 (by rfl), hp 26 (by rfl)]
      exact h.2 rfl
  · intro e hn m W ec
    subst e
    obtain ⟨y, e1, e2, e3, -⟩ := hc
    obtain ⟨v, hv⟩ := e3 0 (by omega)
    obtain ⟨y1, f | fl | fa | fb | fo⟩ := y
    · refine (h rfl hn y1 f e1).lo (fun i h1 h2 => ?_)
      have h3 := hp i (by
        unfold et_px
        simp only [decide_true, Bool.true_and, Bool.and_eq_true, decide_eq_true_eq]
        exact ⟨hn, h1, h2⟩)
      rw [ec, e1] at h3
      have h3 : (if i < m then some (Value.int (W i)) else none) = (if i < y1 then some (Value.int (f i)) else none) := h3
      have e2 : y1 = n := e2
      rw [if_pos (show i < y1 by omega)] at h3
      split at h3
      · exact Value.int.inj (Option.some.inj h3)
      · cases h3
    all_goals cases hv
theorem et_H_u {a t : Nat} {d : et_D} {c : eg_C} (hH : et_H T K G) (ha : K a = some t) (ht : 2 ≤ t) (hd : T[t]? = some d) (hc : et_c K d c) (hx : et_cx d a c) : et_H T K (eg_u G a c) := by
  refine ⟨hH.1, hH.2.1, fun a' t' ha' => ?_⟩
  obtain ⟨g1, g2, g3, d', hd', hc', hx'⟩ := hH.2.2 a' t' ha'
  refine ⟨g1, g2, g3, ?_⟩
  by_cases e : a' = a
  · subst e
    rw [ha] at ha'
    cases ha'
    rw [et_at_us (g3 ht)]
    exact ⟨d, hd, hc, hx⟩
  · rw [et_at_u e]
    exact ⟨d', hd', hc', hx'⟩
theorem et_fr_u {a t lo hi : Nat} {c : eg_C} (hH : et_H T K G) (ha : K a = some t) (ht : 2 ≤ t) (hM : ∀ i, lo ≤ i → i ≤ hi → et_mm M t i = true) (hc : ∀ i, ¬ (lo ≤ i ∧ i ≤ hi) → et_pl c i = et_pl (eg_at G a) i) : et_fr M K G (eg_u G a c) := by
  refine ⟨Nat.le_refl _, fun a' t' ha' i hi' => ?_⟩
  by_cases e : a' = a
  · subst e
    rw [ha] at ha'
    cases ha'
    rw [et_at_us ((hH.2.2 a' t ha).2.2.1 ht)]
    refine hc i (fun h => ?_)
    rw [hM i h.1 h.2] at hi'
    cases hi'
  · rw [et_at_u e]
theorem et_co_u {a t lo hi : Nat} {c : eg_C} (hH : et_H T K G) (hE : et_eo K R E) (hC : et_co R G C) (ha : K a = some t) (ht : 2 ≤ t) (hc : ∀ i, ¬ (lo ≤ i ∧ i ≤ hi) → et_pl c i = et_pl (eg_at G a) i) : et_co R (eg_u G a c) (C.filter (et_kp E t lo hi)) := fun e he => by
  obtain ⟨he, hk⟩ := List.mem_filter.mp he
  obtain ⟨b, w, q1, q0, q2, q3⟩ := hC e he
  refine ⟨b, w, q1, q0, ?_, q3⟩
  by_cases eb : b = a
  · subst eb
    rw [et_at_us ((hH.2.2 b t ha).2.2.1 ht), hc _ ?_]
    · exact q2
    · unfold et_kp at hk
      rw [Bool.or_eq_true, Bool.or_eq_true] at hk
      rcases hk with hk | hk | hk
      · split at hk
        · rename_i nl u hb
          exfalso
          have hv : et_vr R (.retAddr e.1) (.ref b) := ⟨.inr ⟨b, rfl⟩, q1⟩
          rcases et_rb_ok hb hE hv with ⟨-, h⟩ | ⟨-, a2, h, h3⟩
          · cases h
          · cases h
            rw [ha] at h3
            cases h3
            simp at hk
        · cases hk
      · exact fun h => absurd h.1 (Nat.not_le.mpr (of_decide_eq_true hk))
      · exact fun h => absurd h.2 (Nat.not_le.mpr (of_decide_eq_true hk))
  · rw [et_at_u eb]
    exact q2
theorem et_pf_ok (h : et_pf T M E C o ini idx pc L st ck sk = some l) (hI : et_I T K R E C L st G L2 st2) (h1 : c0 ≤ ck) (h2 : s0 ≤ sk) : ∃ Y ∈ l, et_J T M K R G (eg_pf o ini idx pc L2 st2 G c0 s0) Y := by
  obtain ⟨hH, hE, hC, hL, hs⟩ := hI
  unfold et_pf at h
  split at h
  · rename_i v k r
    split at h
    · rename_i nl t hb
      split at h
      · rename_i hn
        obtain ⟨rfl, ht⟩ := hn
        split at h
        · rename_i ci ps cj f hh hT hlk
          split at h
          · rename_i hc
            obtain ⟨rfl, hfin, hM, hpx⟩ := hc
            split at h
            · rename_i p hp
              split at h
              · rename_i hft
                cases h
                obtain ⟨w, _, rfl, hw, _, r2, rfl, hv, hr⟩ := hs
                obtain ⟨a, rfl, ha, hRa⟩ := et_obj hb hE hv
                obtain ⟨g1, g2, g3, d, hd, hcell, hcx⟩ := hH.2.2 a t ha
                rw [hT] at hd
                cases hd
                obtain ⟨fs, e, el, ef⟩ := hcell
                have hwp : et_v K p w := et_ft_ok hft.1 hE hH.2.1 hw
                have hlt : f < fs.length := by rw [el]; exact (List.getElem?_eq_some_iff.mp hp).1
                have hpf : eg_pf o ini idx pc L2 (w :: .ref a :: r2) G c0 s0 = some (pc + 3, L2, r2, eg_u G a (.inr (cj, fs.set f w)), c0, s0) := by
                  unfold eg_pf
                  rw [hlk]
                  dsimp only
                  rw [e]
                  dsimp only
                  rw [if_pos ⟨g3 ht, g1, rfl, hlt, et_fo_ok hft.2 hwp, hfin⟩]
                rw [hpf]
                have hpl : ∀ i, ¬ (f ≤ i ∧ i ≤ f) → et_pl (.inr (cj, fs.set f w)) i = et_pl (eg_at G a) i := fun i hi => by
                  rw [e]
                  show (fs.set f w)[i]? = fs[i]?
                  rw [List.getElem?_set]
                  split
                  · omega
                  · rfl
                have hH2 : et_H T K (eg_u G a (.inr (cj, fs.set f w))) := et_H_u hH ha ht hT ⟨_, rfl, by rw [List.length_set]; exact el, fun j p2 hj => by
                  rw [List.getElem?_set]
                  split
                  · rename_i e2
                    subst e2
                    rw [hp] at hj
                    cases hj
                    try rw [if_pos hlt]
                    exact ⟨w, rfl, .inr hwp⟩
                  · exact ef j p2 hj⟩ (by
                  rcases hpx with hpx | ⟨rfl, rfl, rfl⟩
                  · refine et_cx_u (K := K) hcx ⟨fs, e, el, ef⟩ (fun i hi => hpl i (fun h => ?_))
                    rw [show i = f by omega, hpx] at hi
                    cases hi
                  · have hw0 : w = .int 0 := hw
                    refine ⟨fun h => absurd h (by decide), fun _ s x y h1 _ _ h4 => ?_⟩
                    have h1 : (fs.set 29 w)[29]? = some (.int s) := h1
                    rw [List.getElem?_set_self hlt, hw0] at h1
                    cases h1
                    exact absurd rfl h4)
                refine ⟨_, List.mem_cons_self, K, [], L2, r2, _, c0, s0, rfl, et_ex.rf, et_fr_u hH ha ht (fun i i1 i2 => by rw [show i = f by omega]; exact hM) hpl, ?_, h1, h2⟩
                rw [List.append_nil]
                refine ⟨hH2, hE, fun q hq => ?_, hL, hr⟩
                rcases List.mem_cons.mp hq with rfl | hq
                · refine ⟨a, w, hRa, g1, ?_, hw⟩
                  rw [et_at_us (g3 ht)]
                  show (fs.set f w)[f]? = some w
                  rw [List.getElem?_set_self hlt]
                · exact et_co_u hH hE hC ha ht hpl q hq
              · cases h
            · cases h
          · cases h
        · cases h
      · cases h
    · cases h
  · cases h
end ETH
end
section
/-! THE HEAP: arrays -/
def et_sg : List (Nat × Nat × et_P) → Nat → Nat → Option et_P
  | [], _, _ => none
  | s :: t, lo, hi => if s.1 ≤ lo ∧ hi ≤ s.2.1 then some s.2.2 else et_sg t lo hi
def et_sp (kd : Nat) (ss : List (Nat × Nat × et_P)) (lo hi : Nat) : Option et_P := match et_sg ss lo hi with
  | some p => some p
  | none => if kd = 0 ∨ kd = 1 ∨ kd = 3 ∨ kd = 4 then some (.inl (et_mn, et_mx)) else if kd = 2 then some (.inr (.inl (et_lmn, et_lmx))) else none
def et_al (T : List et_D) (ins : Instr) (E : List et_N) (C : et_C) (pc : Nat) (L : eg_Ls) (st : List Value) (ck sk : Nat) : Option (List et_Y) := match st with
  | i :: .retAddr k :: r => (match et_ib E i, et_rb E (.retAddr k) with
    | some (lo, hi), some (nl, t) => if nl = 0 then (match T[t]? with
      | some (.inr (kd, n, ss)) => if 0 ≤ lo ∧ hi < n ∧ eg_ak ins kd = true then (match (if lo = hi then et_cl C k lo.toNat else none) with
        | some v => some [(E, C, pc + 1, L, et_cn E v :: r, ck, sk)]
        | none => (match et_sp kd ss lo.toNat hi.toNat with
          | some p => if E.length < 4294967296 then some [(E ++ [(p, none)], (if lo = hi then (k, lo.toNat, et_tk p E.length) :: C else C), pc + 1, L, et_tk p E.length :: r, ck, sk)] else none
          | none => none)) else none
      | _ => none) else none
    | _, _ => none)
  | _ => none
/-- may a value stand in an array of this kind -/
def et_vk (T : List et_D) (E : List et_N) (kd : Nat) (v : Value) : Bool := if kd = 0 ∨ kd = 1 ∨ kd = 3 ∨ kd = 4 then (et_ib E v).isSome else if kd = 2 then (et_lb E v).isSome else if 5 ≤ kd ∧ kd < 11 then (match v with
    | .null => true
    | .ref a => decide (a < 36) && decide (eg_el kd = 12)
    | _ => (match et_rb E v with
      | some (_, u) => (match T[u]? with
        | some (.inl (ci, _)) => decide (ci = eg_el kd)
        | _ => false)
      | none => false)) else false
def et_as1 (T : List et_D) (M : et_M) (ins : Instr) (E : List et_N) (C : et_C) (pc : Nat) (L : eg_Ls) (st : List Value) (ck sk : Nat) : Option (List et_Y) := match st with
  | v :: i :: .retAddr k :: r => (match et_ib E i, et_rb E (.retAddr k) with
    | some (lo, hi), some (nl, t) => if nl = 0 ∧ 2 ≤ t then (match T[t]? with
      | some (.inr (kd, n, ss)) => if 0 ≤ lo ∧ hi < n ∧ eg_ak ins kd = true ∧ et_vk T E kd v = true ∧ (ss.all (fun s => decide (s.2.1 < lo.toNat) || (decide (hi.toNat < s.1) || (((!decide (kd = 1 ∨ kd = 3 ∨ kd = 4)) && et_ft E s.2.2 v) || (decide (kd = 3) && decide (s.2.2 = .inl (0, 1))))))) = true ∧ (M.any (fun q => (q.1 == t) && (decide (q.2.1 ≤ lo.toNat) && decide (hi.toNat ≤ q.2.2)))) = true ∧ (¬ (kd = 0 ∧ (n = 12741 ∨ n = 11900)) ∨ hi < 126 ∨ 11900 ≤ lo) then
          some [(E, (if lo = hi ∧ ¬ (kd = 1 ∨ kd = 3 ∨ kd = 4) then (k, lo.toNat, v) :: C.filter (et_kp E t lo.toNat hi.toNat) else C.filter (et_kp E t lo.toNat hi.toNat)), pc + 1, L, r, ck, sk)] else none
      | _ => none) else none
    | _, _ => none)
  | _ => none
section ETI
variable {T : List et_D} {M : et_M} {K : et_K} {R : List Value} {E : List et_N} {C : et_C} {o idx pc len ck sk i c0 s0 mc ms : Nat} {ini : Bool} {L L2 : eg_Ls} {st st2 : List Value} {G : eg_G} {l : List et_Y}
theorem et_sg_in {p : et_P} {lo hi : Nat} : ∀ {ss : List (Nat × Nat × et_P)}, et_sg ss lo hi = some p → ∃ s ∈ ss, s.1 ≤ lo ∧ hi ≤ s.2.1 ∧ s.2.2 = p
  | [], h => by cases h
  | s :: t, h => by
    unfold et_sg at h
    split at h
    · rename_i hc
      cases h
      exact ⟨s, List.mem_cons_self, hc.1, hc.2, rfl⟩
    · obtain ⟨s', h1, h2⟩ := et_sg_in h
      exact ⟨s', List.mem_cons_of_mem _ h1, h2⟩
theorem et_rd_i {kd : Nat} {x : vp_A} {i : Nat} {v : Value} (h : eg_rd kd x i = some v) (hk : kd = 0 ∨ kd = 1 ∨ kd = 3 ∨ kd = 4) : ∃ f : Nat → Int32, x.2 = .inl f ∧ v = .int (f i) := by
  obtain ⟨n, f | fl | fa | fb | fo⟩ := x
  · unfold eg_rd at h
    dsimp only at h
    rw [if_pos hk] at h
    cases h
    exact ⟨f, rfl, rfl⟩
  · unfold eg_rd at h
    dsimp only at h
    split at h
    · omega
    · cases h
  · cases h
  · cases h
  · unfold eg_rd at h
    dsimp only at h
    split at h
    · omega
    · cases h
theorem et_rd_l {x : vp_A} {i : Nat} {v : Value} (h : eg_rd 2 x i = some v) : ∃ f : Nat → Int64, x.2 = .inr (.inl f) ∧ v = .long (f i) := by
  obtain ⟨n, f | fl | fa | fb | fo⟩ := x
  · cases h
  · cases h
    exact ⟨fl, rfl, rfl⟩
  · cases h
  · cases h
  · cases h
theorem et_rd_r {kd : Nat} {x : vp_A} {i : Nat} {v : Value} (h : eg_rd kd x i = some v) (hk : 5 ≤ kd) : ∃ f : Nat → Option Nat, x.2 = .inr (.inr (.inr (.inr f))) ∧ v = va_rf (f i) := by
  obtain ⟨n, f | fl | fa | fb | fo⟩ := x
  · unfold eg_rd at h
    dsimp only at h
    split at h
    · omega
    · cases h
  · unfold eg_rd at h
    dsimp only at h
    split at h
    · omega
    · cases h
  · cases h
  · cases h
  · unfold eg_rd at h
    dsimp only at h
    rw [if_pos hk] at h
    cases h
    exact ⟨fo, rfl, rfl⟩
theorem et_sp_ok {kd lo hi j n : Nat} {ss : List (Nat × Nat × et_P)} {p : et_P} {x : vp_A} (h : et_sp kd ss lo hi = some p) (hj1 : lo ≤ j) (hj2 : j ≤ hi) (hjn : j < n) (hr : ∀ i, i < n → ∃ v, eg_rd kd x i = some v) (hs : ∀ s ∈ ss, ∀ i, s.1 ≤ i → i ≤ s.2.1 → i < n → ∃ v, eg_rd kd x i = some v ∧ et_v K s.2.2 v) : ∃ v, eg_rd kd x j = some v ∧ et_v K p v := by
  unfold et_sp at h
  split at h
  · rename_i q hq
    cases h
    obtain ⟨s, h1, h2, h3, h4⟩ := et_sg_in hq
    obtain ⟨v, g1, g2⟩ := hs s h1 j (by omega) (by omega) hjn
    rw [h4] at g2
    exact ⟨v, g1, g2⟩
  · obtain ⟨v, hv⟩ := hr j hjn
    split at h
    · rename_i hk
      cases h
      obtain ⟨f, -, rfl⟩ := et_rd_i hv hk
      exact ⟨_, hv, _, rfl, et_any _⟩
    · split at h
      · rename_i hk
        subst hk
        cases h
        obtain ⟨f, -, rfl⟩ := et_rd_l hv
        exact ⟨_, hv, _, rfl, et_anyL _⟩
      · cases h
theorem et_nc {x : Int32} {lo hi : Int} (h0 : 0 ≤ lo) (h1 : lo ≤ x.toInt) (h2 : x.toInt ≤ hi) : lo.toNat ≤ x.toNatClampNeg ∧ x.toNatClampNeg ≤ hi.toNat := by
  show lo.toNat ≤ x.toInt.toNat ∧ x.toInt.toNat ≤ hi.toNat
  omega
theorem et_al_ok {ins : Instr} (h : et_al T ins E C pc L st ck sk = some l) (hI : et_I T K R E C L st G L2 st2) (h1 : c0 ≤ ck) (h2 : s0 ≤ sk) : ∃ Y ∈ l, et_J T M K R G (eg_ar ins pc L2 st2 G c0 s0) Y := by
  obtain ⟨hH, hE, hC, hL, hs⟩ := hI
  unfold et_al at h
  split at h
  · rename_i vi k r
    split at h
    · rename_i lo hi nl t hbi hb
      split at h
      · rename_i hn
        subst hn
        split at h
        · rename_i kd n ss hT
          split at h
          · rename_i hc
            obtain ⟨hc0, hc1, hak⟩ := hc
            obtain ⟨w, _, rfl, hw, _, r2, rfl, hv, hr⟩ := hs
            obtain ⟨x, rfl, x1, x2⟩ := et_ib_ok hbi hE hw
            obtain ⟨a, rfl, ha, hRa⟩ := et_obj hb hE hv
            obtain ⟨g1, g2, g3, d, hd, hcell, hcx⟩ := hH.2.2 a t ha
            rw [hT] at hd
            cases hd
            obtain ⟨y, e, ey, er, es⟩ := hcell
            obtain ⟨n1, n2⟩ := et_nc hc0 x1 x2
            have hxn : x.toNatClampNeg < n := by
              show x.toInt.toNat < n
              omega
            have har : ∀ v, eg_rd kd y x.toNatClampNeg = some v → eg_ar ins pc L2 (.int x :: .ref a :: r2) G c0 s0 = some (pc + 1, L2, v :: r2, G, c0, s0) := fun v hv => by
              unfold eg_ar
              dsimp only
              rw [e]
              dsimp only
              rw [if_pos ⟨g1, hak, by omega, by rw [ey]; omega⟩, hv]
            split at h
            · rename_i v hcl
              cases h
              split at hcl
              · rename_i elo
                obtain ⟨a2, w2, q1, -, q2, q3⟩ := hC _ (et_cl_in hcl)
                dsimp only at q1 q2 q3
                rw [hRa] at q1
                cases q1
                rw [e] at q2
                have q4 : (if lo.toNat < y.1 then eg_rd kd y lo.toNat else none) = some w2 := q2
                have elx : lo.toNat = x.toNatClampNeg := by omega
                split at q4
                · rw [elx] at q4
                  rw [har w2 q4]
                  exact ⟨_, List.mem_cons_self, et_j0 ⟨hH, hE, hC, hL, _, _, rfl, et_cn_ok hE q3, hr⟩ h1 h2⟩
                · cases q4
              · cases hcl
            · split at h
              · rename_i p hp
                split at h
                · rename_i hlen
                  cases h
                  obtain ⟨v, hv1, hv2⟩ := et_sp_ok hp n1 n2 hxn er es
                  rw [har v hv1]
                  refine ⟨_, List.mem_cons_self, et_jp ⟨hH, hE, hC, hL, hr⟩ hlen hv2 ?_ h1 h2⟩
                  split
                  · rename_i elo
                    have elx : lo.toNat = x.toNatClampNeg := by omega
                    intro q hq
                    rcases List.mem_cons.mp hq with rfl | hq
                    · refine ⟨a, v, et_get_mono hRa, g1, ?_, et_tk_ok hv2 hE.1 hlen⟩
                      rw [e]
                      show (if lo.toNat < y.1 then eg_rd kd y lo.toNat else none) = some v
                      rw [elx, if_pos (by rw [ey]; exact hxn), hv1]
                    · exact et_co_mono hC q hq
                  · exact et_co_mono hC
                · cases h
              · cases h
          · cases h
        · cases h
      · cases h
    · cases h
  · cases h
theorem et_nb (z : Int32) : 0 ≤ (vp_nar .boolean z).toInt ∧ (vp_nar .boolean z).toInt ≤ 1 := by
  have h : vp_nar .boolean z = z &&& 1 := rfl
  rw [h]
  exact et_and1 z 1 (by decide)
theorem et_vk_wr {kd : Nat} {v w : Value} {x : vp_A} {i : Nat} {v0 : Value} (h : et_vk T E kd v = true) (hH : et_H T K G) (hE : et_eo K R E) (hv : et_vr R v w) (h0 : eg_rd kd x i = some v0) : ∃ y w', eg_wr G kd x i w = some y ∧ y.1 = x.1 ∧ (∀ j, ¬ j = i → eg_rd kd y j = eg_rd kd x j) ∧ eg_rd kd y i = some w' ∧ (¬ (kd = 1 ∨ kd = 3 ∨ kd = 4) → w' = w) ∧ (kd = 3 → ∃ x, w' = .int x ∧ 0 ≤ x.toInt ∧ x.toInt ≤ 1) := by
  unfold et_vk at h
  split at h
  · rename_i hk
    cases hb : et_ib E v with
    | none => rw [hb] at h; cases h
    | some p =>
      obtain ⟨z, rfl, -⟩ := et_ib_ok (a := p.1) (b := p.2) hb hE hv
      obtain ⟨f, ex, -⟩ := et_rd_i h0 hk
      obtain ⟨n, x2⟩ := x
      have ex : x2 = .inl f := ex
      subst ex
      have hup : ∀ z' : Int32, (∀ j, ¬ j = i → eg_rd kd (n, .inl (upd f i z')) j = eg_rd kd (n, .inl f) j) ∧ eg_rd kd (n, .inl (upd f i z')) i = some (.int z') := fun z' => by
        refine ⟨fun j hj => ?_, ?_⟩
        · unfold eg_rd
          dsimp only
          rw [if_pos hk, if_pos hk]
          unfold upd
          rw [if_neg hj]
        · unfold eg_rd
          dsimp only
          rw [if_pos hk]
          unfold upd
          rw [if_pos rfl]
      rcases hk with rfl | rfl | rfl | rfl
      · exact ⟨_, _, rfl, rfl, (hup z).1, (hup z).2, fun _ => rfl, fun e => absurd e (by decide)⟩
      · exact ⟨_, _, rfl, rfl, (hup _).1, (hup _).2, fun h => absurd (.inl rfl) h, fun e => absurd e (by decide)⟩
      · exact ⟨_, _, rfl, rfl, (hup _).1, (hup _).2, fun h => absurd (.inr (.inl rfl)) h, fun _ => ⟨_, rfl, et_nb z⟩⟩
      · exact ⟨_, _, rfl, rfl, (hup _).1, (hup _).2, fun h => absurd (.inr (.inr rfl)) h, fun e => absurd e (by decide)⟩
  · split at h
    · rename_i hk
      subst hk
      cases hb : et_lb E v with
      | none => rw [hb] at h; cases h
      | some p =>
        obtain ⟨z, rfl, -⟩ := et_lb_ok (a := p.1) (b := p.2) hb hE hv
        obtain ⟨f, ex, -⟩ := et_rd_l h0
        obtain ⟨n, x2⟩ := x
        have ex : x2 = .inr (.inl f) := ex
        subst ex
        refine ⟨_, .long z, rfl, rfl, fun j hj => ?_, ?_, fun _ => rfl, fun e => absurd e (by decide)⟩
        · show some (Value.long (vp_updL f i z j)) = some (.long (f j))
          unfold vp_updL
          rw [if_neg hj]
        · show some (Value.long (vp_updL f i z i)) = some (.long z)
          unfold vp_updL
          rw [if_pos rfl]
    · split at h
      · rename_i hk
        obtain ⟨f, ex, -⟩ := et_rd_r h0 hk.1
        obtain ⟨n, x2⟩ := x
        have ex : x2 = .inr (.inr (.inr (.inr f))) := ex
        subst ex
        have hrd : ∀ (g : Nat → Option Nat) (j : Nat), eg_rd kd (n, .inr (.inr (.inr (.inr g)))) j = some (va_rf (g j)) := fun g j => by
          unfold eg_rd
          dsimp only
          rw [if_pos hk.1]
        have hnull : w = .null → ∃ y w', eg_wr G kd (n, .inr (.inr (.inr (.inr f)))) i w = some y ∧ y.1 = n ∧ (∀ j, ¬ j = i → eg_rd kd y j = eg_rd kd (n, .inr (.inr (.inr (.inr f)))) j) ∧ eg_rd kd y i = some w' ∧ (¬ (kd = 1 ∨ kd = 3 ∨ kd = 4) → w' = w) ∧ (kd = 3 → ∃ x, w' = .int x ∧ 0 ≤ x.toInt ∧ x.toInt ≤ 1) := fun e => by
          subst e
          refine ⟨(n, .inr (.inr (.inr (.inr (va_up f i none))))), .null, ?_, rfl, fun j hj => ?_, ?_, fun _ => rfl, fun e => absurd e (by omega)⟩
          · unfold eg_wr
            dsimp only
            rw [if_pos hk]
          · rw [hrd, hrd]
            unfold va_up
            rw [if_neg hj]
          · rw [hrd]
            unfold va_up
            rw [if_pos rfl]
            rfl
        have href : ∀ a, w = .ref a → a < G.2 → eg_is (eg_at G a) (eg_el kd) = true → ∃ y w', eg_wr G kd (n, .inr (.inr (.inr (.inr f)))) i w = some y ∧ y.1 = n ∧ (∀ j, ¬ j = i → eg_rd kd y j = eg_rd kd (n, .inr (.inr (.inr (.inr f)))) j) ∧ eg_rd kd y i = some w' ∧ (¬ (kd = 1 ∨ kd = 3 ∨ kd = 4) → w' = w) ∧ (kd = 3 → ∃ x, w' = .int x ∧ 0 ≤ x.toInt ∧ x.toInt ≤ 1) := fun a e ha hs => by
          subst e
          refine ⟨(n, .inr (.inr (.inr (.inr (va_up f i (some a)))))), .ref a, ?_, rfl, fun j hj => ?_, ?_, fun _ => rfl, fun e => absurd e (by omega)⟩
          · unfold eg_wr
            dsimp only
            rw [if_pos ⟨ha, hk.1, hk.2, hs⟩]
          · rw [hrd, hrd]
            unfold va_up
            rw [if_neg hj]
          · rw [hrd]
            unfold va_up
            rw [if_pos rfl]
            rfl
        split at h
        · exact hnull hv
        · rename_i a
          rw [Bool.and_eq_true] at h
          have h3 := of_decide_eq_true h.1
          have h4 := of_decide_eq_true h.2
          refine href a hv (hH.2.2 a 0 (hH.2.1 a h3)).1 ?_
          have h5 : eg_at G a = eg_con a := if_pos (Nat.lt_of_lt_of_le h3 (by decide))
          rw [h5, h4]
          unfold eg_con
          rw [if_pos h3]
          rfl
        · split at h
          · rename_i nl u hb
            split at h
            · rename_i ci ps hT
              have h3 := of_decide_eq_true h
              rcases et_rb_ok hb hE hv with ⟨-, e⟩ | ⟨-, a, e, ha⟩
              · exact hnull e
              · obtain ⟨g1, -, -, d, hd, hcell, hcx⟩ := hH.2.2 a u ha
                rw [hT] at hd
                cases hd
                obtain ⟨fs, e2, -⟩ := hcell
                refine href a e g1 ?_
                rw [e2, h3]
                show (eg_el kd == eg_el kd) = true
                exact beq_self_eq_true _
            · cases h
          · cases h
      · cases h
theorem et_as1_ok {ins : Instr} (h : et_as1 T M ins E C pc L st ck sk = some l) (hI : et_I T K R E C L st G L2 st2) (h1 : c0 ≤ ck) (h2 : s0 ≤ sk) : ∃ Y ∈ l, et_J T M K R G (eg_aw ins pc L2 st2 G c0 s0) Y := by
  obtain ⟨hH, hE, hC, hL, hs⟩ := hI
  unfold et_as1 at h
  split at h
  · rename_i v vi k r
    split at h
    · rename_i lo hi nl t hbi hb
      split at h
      · rename_i hn
        obtain ⟨rfl, ht⟩ := hn
        split at h
        · rename_i kd n ss hT
          split at h
          · rename_i hc
            obtain ⟨hc0, hc1, hak, hvk, hss, hM, hpx⟩ := hc
            cases h
            obtain ⟨w, _, rfl, hw, wi, _, rfl, hwi, _, r2, rfl, hv, hr⟩ := hs
            obtain ⟨x, rfl, x1, x2⟩ := et_ib_ok hbi hE hwi
            obtain ⟨a, rfl, ha, hRa⟩ := et_obj hb hE hv
            obtain ⟨g1, g2, g3, d, hd, hcell, hcx⟩ := hH.2.2 a t ha
            rw [hT] at hd
            cases hd
            obtain ⟨y, e, ey, er, es⟩ := hcell
            obtain ⟨n1, n2⟩ := et_nc hc0 x1 x2
            have hxn : x.toNatClampNeg < n := by
              show x.toInt.toNat < n
              omega
            obtain ⟨v0, hv0⟩ := er x.toNatClampNeg hxn
            obtain ⟨z, w', hz, hz1, hz2, hz3, hz4, hz5⟩ := et_vk_wr hvk hH hE hw hv0
            have haw : eg_aw ins pc L2 (w :: .int x :: .ref a :: r2) G c0 s0 = some (pc + 1, L2, r2, eg_u G a (.inl (kd, z)), c0, s0) := by
              unfold eg_aw
              dsimp only
              rw [e]
              dsimp only
              rw [if_pos ⟨g3 ht, g1, hak, by omega, by rw [ey]; omega⟩, hz]
            rw [haw]
            have hpl : ∀ i, ¬ (lo.toNat ≤ i ∧ i ≤ hi.toNat) → et_pl (.inl (kd, z)) i = et_pl (eg_at G a) i := fun i hi' => by
              rw [e]
              show (if i < z.1 then eg_rd kd z i else none) = (if i < y.1 then eg_rd kd y i else none)
              rw [hz1, hz2 i (fun e => hi' (by omega))]
            have hcell2 : et_c K (.inr (kd, n, ss)) (.inl (kd, z)) := by
              refine ⟨z, rfl, by rw [hz1]; exact ey, fun i hi' => ?_, fun s hs i i1 i2 i3 => ?_⟩
              · by_cases ei : i = x.toNatClampNeg
                · rw [ei]
                  exact ⟨w', hz3⟩
                · rw [hz2 i ei]
                  exact er i hi'
              · by_cases ei : i = x.toNatClampNeg
                · rw [ei]
                  refine ⟨w', hz3, ?_⟩
                  have h9 := List.all_eq_true.mp hss s hs
                  rw [Bool.or_eq_true, Bool.or_eq_true, Bool.or_eq_true, Bool.and_eq_true, Bool.and_eq_true] at h9
                  rcases h9 with h9 | h9 | h9 | h9
                  · have := of_decide_eq_true h9
                    omega
                  · have := of_decide_eq_true h9
                    omega
                  · have h8 : ¬ (kd = 1 ∨ kd = 3 ∨ kd = 4) := by
                      have := h9.1
                      simpa using this
                    rw [hz4 h8]
                    exact et_ft_ok h9.2 hE hH.2.1 hw
                  · rw [of_decide_eq_true h9.2]
                    exact hz5 (of_decide_eq_true h9.1)
                · rw [hz2 i ei]
                  exact es s hs i i1 i2 i3
            have hM2 : ∀ i, lo.toNat ≤ i → i ≤ hi.toNat → et_mm M t i = true := fun i i1 i2 => by
              obtain ⟨q, hq, hq2⟩ := List.any_eq_true.mp hM
              rw [Bool.and_eq_true, Bool.and_eq_true] at hq2
              have q1 := of_decide_eq_true hq2.2.1
              have q2 := of_decide_eq_true hq2.2.2
              unfold et_mm
              refine List.any_eq_true.mpr ⟨q, hq, ?_⟩
              rw [Bool.and_eq_true, Bool.and_eq_true]
              exact ⟨hq2.1, decide_eq_true (by omega), decide_eq_true (by omega)⟩
            have hco := et_co_u hH hE hC ha ht hpl
            refine ⟨_, List.mem_cons_self, K, [], L2, r2, _, c0, s0, rfl, et_ex.rf, et_fr_u hH ha ht hM2 hpl, ?_, h1, h2⟩
            rw [List.append_nil]
            refine ⟨et_H_u hH ha ht hT hcell2 (et_cx_u (K := K) hcx ⟨y, e, ey, er, es⟩ (fun i hi' => hpl i (fun h => ?_))), hE, ?_, hL, hr⟩
            · unfold et_px at hi'
              simp only [Bool.and_eq_true, decide_eq_true_eq] at hi'
              rcases hpx with hpx | hpx | hpx
              · exact hpx hi'.1
              · clear hz5
                omega
              · clear hz5
                omega
            dsimp only
            split
            · rename_i hlo
              intro q hq
              rcases List.mem_cons.mp hq with rfl | hq
              · refine ⟨a, w, hRa, g1, ?_, hw⟩
                rw [et_at_us (g3 ht)]
                show (if lo.toNat < z.1 then eg_rd kd z lo.toNat else none) = some w
                have elx : lo.toNat = x.toNatClampNeg := by
                  clear hz5
                  omega
                rw [elx, if_pos (by rw [hz1, ey]; exact hxn), hz3, hz4 hlo.2]
              · exact hco q hq
            · exact hco
          · cases h
        · cases h
      · cases h
    · cases h
  · cases h
end ETI
end
section
/-! THE HEAP: new objects and arrays; constants -/
def et_df0 (p : et_P) (v : Value) : Bool := et_ft [] p v
/-- the type of a new object of a class: the first that its default fields fit -/
def et_tn (T : List et_D) (ci : Nat) : Option Nat := (List.range T.length).find? (fun t => match T[t]? with
  | some (.inl (cj, ps)) => decide (cj = ci ∧ ¬ ci = 4 ∧ ¬ ci = 11) && (decide (2 ≤ t) && (decide (ps.length = (eg_cl.getD ci ("", eg_T0, 0)).2.2) && (List.range ps.length).all (fun k => match ps[k]?, (eg_nc (eg_cl.getD ci ("", eg_T0, 0)).2.2 ci)[k]? with
    | some p, some v => et_df0 p v
    | _, _ => false)))
  | _ => false)
def et_dv0 (kd : Nat) : Value := if kd = 2 then .long 0 else if 5 ≤ kd then .null else .int 0
def et_ta (T : List et_D) (kd n : Nat) : Option Nat := (List.range T.length).find? (fun t => match T[t]? with
  | some (.inr (kx, m, ss)) => decide (kx = kd ∧ ¬ m = 12741 ∧ ¬ m = 11900) && (decide (m = n) && (decide (2 ≤ t) && ss.all (fun s => et_df0 s.2.2 (et_dv0 kd))))
  | _ => false)
def et_al1 (E : List et_N) (C : et_C) (pc len : Nat) (L : eg_Ls) (r : List Value) (ck sk n : Nat) (t : Option Nat) : Option (List et_Y) := match t with
  | some t => if E.length < 4294967296 ∧ ck + 1 ≤ eg_MC ∧ sk + n ≤ eg_MS then some [(E ++ [(.inr (.inr (0, t)), none)], C, pc + len, L, .retAddr E.length :: r, ck + 1, sk + n)] else none
  | none => none
def et_nw1 (T : List et_D) (ins : Instr) (E : List et_N) (C : et_C) (o pc : Nat) (L : eg_Ls) (st : List Value) (ck sk : Nat) : Option (List et_Y) := match ins with
  | .new i => (match (eg_cT.getD o []).lookup i with
    | some ci => if ci < 12 then et_al1 E C pc 3 L st ck sk (eg_cl.getD ci ("", eg_T0, 0)).2.2 (et_tn T ci) else none
    | none => none)
  | .newarray t => (match st, eg_na t with
    | .int n :: r, some (k, _) => if 0 ≤ n.toInt ∧ n.toInt ≤ 65536 then et_al1 E C pc 2 L r ck sk n.toNatClampNeg (et_ta T k n.toNatClampNeg) else none
    | _, _ => none)
  | .anewarray i => (match st, (eg_cT.getD o []).lookup i with
    | .int n :: r, some ci => if 0 ≤ n.toInt ∧ n.toInt ≤ 65536 ∧ 5 ≤ eg_ek ci ∧ eg_ek ci < 11 then et_al1 E C pc 3 L r ck sk n.toNatClampNeg (et_ta T (eg_ek ci) n.toNatClampNeg) else none
    | _, _ => none)
  | .arraylength => (match st with
    | .retAddr k :: r => (match et_rb E (.retAddr k) with
      | some (nl, t) => if nl = 0 then (match T[t]? with
        | some (.inr (kd, n, _)) => if kd < 12 then some [(E, C, pc + 1, L, .int (Int32.ofNat n) :: r, ck, sk)] else none
        | _ => none) else none
      | none => none)
    | _ => none)
  | _ => none
section ETK
variable {T : List et_D} {M : et_M} {K : et_K} {R : List Value} {E : List et_N} {C : et_C} {o idx pc len ck sk i c0 s0 mc ms : Nat} {ini : Bool} {L L2 : eg_Ls} {st st2 : List Value} {G : eg_G} {l : List et_Y}
theorem et_c_ex {K' : et_K} (hx : et_ex K K') {d : et_D} {c : eg_C} (h : et_c K d c) : et_c K' d c := by
  obtain ⟨ci, ps⟩ | ⟨t, n, ss⟩ := d
  · obtain ⟨fs, e, el, ef⟩ := h
    refine ⟨fs, e, el, fun k p hk => ?_⟩
    obtain ⟨v, h1, h2⟩ := ef k p hk
    exact ⟨v, h1, h2.imp_right (et_v_ex hx)⟩
  · obtain ⟨x, e, ex, er, es⟩ := h
    refine ⟨x, e, ex, er, fun s hs i i1 i2 i3 => ?_⟩
    obtain ⟨v, h1, h2⟩ := es s hs i i1 i2 i3
    exact ⟨v, h1, et_v_ex hx h2⟩
theorem et_eo_ex {K' : et_K} (hx : et_ex K K') (h : et_eo K R E) : et_eo K' R E := ⟨h.1, fun k p d hk => by
  obtain ⟨v, h1, h2, h3⟩ := h.2 k p d hk
  exact ⟨v, h1, et_v_ex hx h2, h3⟩⟩
theorem et_at_p {c : eg_C} {a : Nat} (h : a < G.2) : eg_at (eg_p G c) a = eg_at G a := by
  unfold eg_at
  split
  · rfl
  · show (if a = G.2 then c else G.1 a) = G.1 a
    rw [if_neg (by omega)]
theorem et_at_ps {c : eg_C} (h : eg_NC ≤ G.2) : eg_at (eg_p G c) G.2 = c := by
  unfold eg_at
  rw [if_neg (Nat.not_lt.mpr h)]
  show (if G.2 = G.2 then c else G.1 G.2) = c
  rw [if_pos rfl]
theorem et_ja {pc n t : Nat} {d : et_D} {c : eg_C} {r r2 : List Value} (hI : et_I T K R E C L r G L2 r2) (hn : E.length < 4294967296) (ht : 2 ≤ t) (hd : T[t]? = some d) (hc : et_c K d c) (hcx : et_cx d G.2 c) (h1 : c0 ≤ ck) (h2 : s0 ≤ sk) :
    et_J T M K R G (some (pc, L2, .ref G.2 :: r2, eg_p G c, c0 + 1, s0 + n)) (E ++ [(.inr (.inr (0, t)), none)], C, pc, L, .retAddr E.length :: r, ck + 1, sk + n) := by
  obtain ⟨hH, hE, hC, hL, hs⟩ := hI
  have hx : et_ex K (fun a => if a = G.2 then some t else K a) := fun a u h => by
    dsimp only
    rw [if_neg (Nat.ne_of_lt (hH.2.2 a u h).1)]
    exact h
  have hH2 : et_H T (fun a => if a = G.2 then some t else K a) (eg_p G c) := by
    refine ⟨Nat.le_succ_of_le hH.1, fun a ha => hx _ _ (hH.2.1 a ha), fun a u h => ?_⟩
    by_cases e : a = G.2
    · subst e
      dsimp only at h
      rw [if_pos rfl] at h
      cases h
      exact ⟨Nat.lt_succ_self _, fun e => absurd e (by omega), fun _ => hH.1, d, hd, by rw [et_at_ps hH.1]; exact et_c_ex hx hc, by rw [et_at_ps hH.1]; exact hcx⟩
    · dsimp only at h
      rw [if_neg e] at h
      obtain ⟨g1, g2, g3, d', hd', hc', hx'⟩ := hH.2.2 a u h
      exact ⟨Nat.lt_succ_of_lt g1, g2, g3, d', hd', by rw [et_at_p g1]; exact et_c_ex hx hc', by rw [et_at_p g1]; exact hx'⟩
  refine ⟨_, [.ref G.2], L2, _, _, _, _, rfl, hx, ⟨Nat.le_succ _, fun a u h i _ => by rw [et_at_p (hH.2.2 a u h).1]⟩, ⟨hH2, et_eo_mono (et_eo_ex hx hE) (.inr ⟨by decide, G.2, rfl, if_pos rfl⟩), fun e he => ?_, et_lr_mono hL, ⟨_, _, rfl, ⟨.inr ⟨_, rfl⟩, et_new hE.1⟩, et_sr_mono hs⟩⟩, Nat.succ_le_succ h1, Nat.add_le_add_right h2 n⟩
  obtain ⟨a, w, q1, q0, q2, q3⟩ := et_co_mono (x := .ref G.2) hC e he
  exact ⟨a, w, q1, Nat.lt_succ_of_lt q0, by rw [et_at_p q0]; exact q2, q3⟩
theorem et_df0_ok {p : et_P} {v : Value} (hn : et_nf v = true) (h : et_df0 p v = true) (hW : ∀ a, a < 36 → K a = some 0) : et_v K p v := et_ft_ok (R := []) (E := []) h ⟨rfl, fun _ _ _ h => by cases h⟩ hW (et_vr_nf hn)
theorem et_nc_nf : ∀ ci, ci < 12 → (eg_nc (eg_cl.getD ci ("", eg_T0, 0)).2.2 ci).all et_nf = true := by decide +kernel
theorem et_tn_ok {ci t : Nat} (h : et_tn T ci = some t) (hci : ci < 12) (hW : ∀ a, a < 36 → K a = some 0) : 2 ≤ t ∧ ∃ d, T[t]? = some d ∧ et_c K d (.inr (ci, eg_nc (eg_cl.getD ci ("", eg_T0, 0)).2.2 ci)) ∧ ∀ a, et_cx d a (.inr (ci, eg_nc (eg_cl.getD ci ("", eg_T0, 0)).2.2 ci)) := by
  have h1 := List.find?_some h
  split at h1
  · rename_i cj ps hT
    rw [Bool.and_eq_true, Bool.and_eq_true, Bool.and_eq_true] at h1
    obtain ⟨a1, a2, a3, a4⟩ := h1
    obtain ⟨a1, n1, n2⟩ := of_decide_eq_true a1
    have a3 := of_decide_eq_true a3
    subst a1
    refine ⟨of_decide_eq_true a2, _, hT, ⟨_, rfl, ?_, fun k p hp => ?_⟩, fun a => ⟨fun h => absurd h n1, fun h => absurd h n2⟩⟩
    · rw [a3]
      unfold eg_nc
      rw [List.length_map, List.length_range]
    · have hk : k < ps.length := (List.getElem?_eq_some_iff.mp hp).1
      have h2 := List.all_eq_true.mp a4 k (List.mem_range.mpr hk)
      rw [hp] at h2
      split at h2
      · rename_i p' v e1 e2
        cases e1
        exact ⟨v, e2, .inr (et_df0_ok (List.all_eq_true.mp (et_nc_nf _ hci) v (List.mem_of_getElem? e2)) h2 hW)⟩
      · cases h2
  · cases h1
theorem et_ta_ok {kd n t : Nat} {x : vp_A} (h : et_ta T kd n = some t) (hW : ∀ a, a < 36 → K a = some 0) (hx : x.1 = n) (hr : ∀ i, eg_rd kd x i = some (et_dv0 kd)) : 2 ≤ t ∧ ∃ d, T[t]? = some d ∧ et_c K d (.inl (kd, x)) ∧ ∀ a, et_cx d a (.inl (kd, x)) := by
  have h1 := List.find?_some h
  split at h1
  · rename_i kx m ss hT
    rw [Bool.and_eq_true, Bool.and_eq_true, Bool.and_eq_true] at h1
    obtain ⟨a1, a2, a3, a4⟩ := h1
    obtain ⟨a1, n1, n2⟩ := of_decide_eq_true a1
    have a2 := of_decide_eq_true a2
    subst a1
    subst a2
    have hnf : et_nf (et_dv0 kx) = true := by
      unfold et_dv0
      split
      · rfl
      · split <;> rfl
    exact ⟨of_decide_eq_true a3, _, hT, ⟨x, rfl, hx, fun i _ => ⟨_, hr i⟩, fun s hs i _ _ _ => ⟨_, hr i, et_df0_ok hnf (List.all_eq_true.mp a4 s hs) hW⟩⟩, fun a _ h => by rcases h with h | h <;> contradiction⟩
  · cases h1
theorem et_al1_ok {n t0 : Nat} {r r2 : List Value} {c : eg_C} {t : Option Nat} (h : et_al1 E C pc len L r ck sk n t = some l) (hI : et_I T K R E C L r G L2 r2) (ht : ∀ t0, t = some t0 → 2 ≤ t0 ∧ ∃ d, T[t0]? = some d ∧ et_c K d c ∧ ∀ a, et_cx d a c) (h1 : c0 ≤ ck) (h2 : s0 ≤ sk) : ∃ Y ∈ l, et_J T M K R G (eg_al eg_MC eg_MS pc len L2 r2 G c0 s0 n c) Y := by
  unfold et_al1 at h
  split at h
  · rename_i t1
    split at h
    · rename_i hc
      cases h
      obtain ⟨a1, d, a2, a3, a4⟩ := ht t1 rfl
      unfold eg_al
      rw [if_pos ⟨by omega, by omega⟩]
      exact ⟨_, List.mem_cons_self, et_ja hI hc.1 a1 a2 a3 (a4 _) h1 h2⟩
    · cases h
  · cases h
theorem et_nw1_ok {ins : Instr} (h : et_nw1 T ins E C o pc L st ck sk = some l) (hI : et_I T K R E C L st G L2 st2) (h1 : c0 ≤ ck) (h2 : s0 ≤ sk) : ∃ Y ∈ l, et_J T M K R G (eg_st o ini eg_MC eg_MS pc len ins L2 st2 G c0 s0) Y := by
  have hW := hI.1.2.1
  cases ins with
  | new i =>
    dsimp only [et_nw1] at h
    dsimp only [eg_st]
    split at h
    · rename_i ci hci
      split at h
      · rename_i hlt
        try rw [hci]
        try dsimp only
        rw [if_pos hlt]
        exact et_al1_ok (t0 := 0) h hI (fun t0 e => et_tn_ok e hlt hW) h1 h2
      · cases h
    · cases h
  | newarray t =>
    dsimp only [et_nw1] at h
    split at h
    · rename_i n r k f hna
      split at h
      · rename_i hc
        obtain ⟨hH, hE, hC, hL, _, r2, rfl, rfl, hr⟩ := hI
        dsimp only [eg_st]
        rw [hna]
        dsimp only
        rw [if_pos hc]
        refine et_al1_ok (t0 := 0) h ⟨hH, hE, hC, hL, hr⟩ (fun t0 e => et_ta_ok e hW ?_ ?_) h1 h2
        · unfold eg_na at hna
          split at hna <;> cases hna <;> rfl
        · intro i
          unfold eg_na at hna
          split at hna <;> cases hna <;> rfl
      · cases h
    · cases h
  | anewarray i =>
    dsimp only [et_nw1] at h
    split at h
    · rename_i n r ci hci
      split at h
      · rename_i hc
        obtain ⟨hH, hE, hC, hL, _, r2, rfl, rfl, hr⟩ := hI
        dsimp only [eg_st]
        rw [hci]
        dsimp only
        rw [if_pos hc]
        refine et_al1_ok (t0 := 0) h ⟨hH, hE, hC, hL, hr⟩ (fun t0 e => et_ta_ok e hW rfl (fun i => ?_)) h1 h2
        unfold eg_rd et_dv0
        dsimp only
        rw [if_pos hc.2.2.1, if_neg (by omega), if_pos hc.2.2.1]
        rfl
      · cases h
    · cases h
  | arraylength =>
    dsimp only [et_nw1] at h
    split at h
    · rename_i k r
      split at h
      · rename_i nl t hb
        split at h
        · rename_i hn
          subst hn
          split at h
          · rename_i kd n ss hT
            split at h
            · rename_i hk
              cases h
              obtain ⟨hH, hE, hC, hL, _, r2, rfl, hv, hr⟩ := hI
              obtain ⟨a, rfl, ha, hRa⟩ := et_obj hb hE hv
              obtain ⟨g1, g2, g3, d, hd, hcell, hcx⟩ := hH.2.2 a t ha
              rw [hT] at hd
              cases hd
              obtain ⟨y, e, ey, -⟩ := hcell
              dsimp only [eg_st]
              rw [e]
              dsimp only
              rw [if_pos ⟨g1, hk⟩, ey]
              exact ⟨_, List.mem_cons_self, et_j0 ⟨hH, hE, hC, hL, _, _, rfl, rfl, hr⟩ h1 h2⟩
            · cases h
          · cases h
        · cases h
      · cases h
    · cases h
  | _ =>
    dsimp only [et_nw1] at h
    cases h
end ETK
end
