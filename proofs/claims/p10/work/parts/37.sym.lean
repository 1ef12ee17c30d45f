def et_yl (E : List et_N) (C : et_C) (pc len : Nat) (L : eg_Ls) (st : List Value) (ck sk i kd : Nat) : Option (List et_Y) := match eg_ld L i with
  | some (.float k) => if kd = 0 then some [(E, C, pc + len, L, et_cn E (.float k) :: st, ck, sk)] else none
  | some (.double k) => if kd = 1 then some [(E, C, pc + len, L, .double k :: st, ck, sk)] else none
  | some (.retAddr k) => if kd = 2 then some [(E, C, pc + len, L, .retAddr k :: st, ck, sk)] else none
  | _ => none
def et_ys (E : List et_N) (C : et_C) (pc len : Nat) (L : eg_Ls) (st : List Value) (ck sk i kd : Nat) : Option (List et_Y) := match st with
  | .float k :: r => if kd = 0 ∧ i < L.length then some [(E, C, pc + len, eg_s1 L i (.float k), r, ck, sk)] else none
  | .double k :: r => if kd = 1 ∧ i + 1 < L.length then some [(E, C, pc + len, eg_s2 L i (.double k), r, ck, sk)] else none
  | .retAddr k :: r => if kd = 2 ∧ i < L.length then some [(E, C, pc + len, eg_s1 L i (.retAddr k), r, ck, sk)] else none
  | _ => none
def et_yi (E : List et_N) (C : et_C) (pc len : Nat) (L : eg_Ls) (st : List Value) (ck sk i : Nat) (n : Int) : Option (List et_Y) := match eg_ld L i with
  | some (.float k) => (match et_ib E (.float k) with
    | some (a, b) => if len = 3 ∧ i < L.length ∧ E.length < 4294967296 ∧ et_mn ≤ n ∧ n ≤ et_mx then some [(E ++ [(.inl (et_w (a + n) (b + n)), if et_mn ≤ a + n ∧ b + n ≤ et_mx then some (k.toNat, n) else none)], C, pc + 3, eg_s1 L i (.float (UInt32.ofNat E.length)), st, ck, sk)] else none
    | none => none)
  | _ => none
/-- a fresh int out of one value of category 1 or 2 -/
def et_yu (E : List et_N) (C : et_C) (pc : Nat) (L : eg_Ls) (r : List Value) (ck sk : Nat) (lo hi : Int) : Option (List et_Y) := if E.length < 4294967296 then some [(E ++ [(.inl (lo, hi), none)], C, pc + 1, L, .float (UInt32.ofNat E.length) :: r, ck, sk)] else none
def et_lmn : Int := -9223372036854775808
def et_lmx : Int := 9223372036854775807
def et_yw (E : List et_N) (C : et_C) (pc : Nat) (L : eg_Ls) (r : List Value) (ck sk : Nat) (lo hi : Int) : Option (List et_Y) := if E.length < 4294967296 then some [(E ++ [(.inr (.inl (lo, hi)), none)], C, pc + 1, L, .double (UInt64.ofNat E.length) :: r, ck, sk)] else none
def et_lf (ins : Instr) : Option (Int64 → Int64 → Int64) := match ins with
  | .ladd => some (fun x y => x + y)
  | .lsub => some (fun x y => x - y)
  | .lmul => some (fun x y => x * y)
  | .land => some (fun x y => x &&& y)
  | .lor => some (fun x y => x ||| y)
  | _ => none
def et_lg (ins : Instr) : Option (Int64 → Int32 → Int64) := match ins with
  | .lshl => some (fun x y => x <<< (y.toInt64 &&& 63))
  | .lshr => some (fun x y => x >>> (y.toInt64 &&& 63))
  | .lushr => some (fun x y => (x.toUInt64 >>> (y.toInt64.toUInt64 &&& Int64.toUInt64 63)).toInt64)
  | _ => none
def et_fork (E : List et_N) (C : et_C) (L : eg_Ls) (r : List Value) (ck sk : Nat) (t f : Nat) (c : Jvm.ClassFile.Cond) (x y : Value) : List et_Y :=
  (match et_as E c x y with
    | some F => [(F, C, t, L, r, ck, sk)]
    | none => []) ++ (match et_as E (et_ng c) x y with
    | some F => [(F, C, f, L, r, ck, sk)]
    | none => [])
section ETF
variable {T : List et_D} {M : et_M} {K : et_K} {R : List Value} {E : List et_N} {C : et_C} {o pc len ck sk i c0 s0 mc ms : Nat} {ini : Bool} {L L2 : eg_Ls} {st st2 : List Value} {G : eg_G} {l : List et_Y}
theorem et_yl0_ok (h : et_yl E C pc len L st ck sk i 0 = some l) (hi : et_I T K R E C L st G L2 st2) (h1 : c0 ≤ ck) (h2 : s0 ≤ sk) : ∃ Y ∈ l, et_J T M K R G (eg_li pc L2 st2 G c0 s0 i len) Y := by
  obtain ⟨hH, hE, hC, hL, hs⟩ := hi
  unfold et_yl at h
  split at h
  · rename_i k hd
    rw [if_pos rfl] at h
    cases h
    obtain ⟨w, e, hw⟩ := et_lr_ld hL hd
    have hw2 := et_cn_ok hE hw
    obtain ⟨x, rfl, -⟩ := hw
    refine ⟨_, List.mem_cons_self, ?_⟩
    unfold eg_li
    rw [e]
    exact et_j0 ⟨hH, hE, hC, hL, _, _, rfl, hw2, hs⟩ h1 h2
  · cases h
  · cases h
  · cases h
theorem et_yl1_ok (h : et_yl E C pc len L st ck sk i 1 = some l) (hi : et_I T K R E C L st G L2 st2) (h1 : c0 ≤ ck) (h2 : s0 ≤ sk) : ∃ Y ∈ l, et_J T M K R G (eg_ll pc L2 st2 G c0 s0 i len) Y := by
  obtain ⟨hH, hE, hC, hL, hs⟩ := hi
  unfold et_yl at h
  split at h
  · cases h
  · rename_i k hd
    rw [if_pos rfl] at h
    cases h
    obtain ⟨w, e, hw⟩ := et_lr_ld hL hd
    have hw2 := hw
    obtain ⟨x, rfl, -⟩ := hw
    refine ⟨_, List.mem_cons_self, ?_⟩
    unfold eg_ll
    rw [e]
    exact et_j0 ⟨hH, hE, hC, hL, _, _, rfl, hw2, hs⟩ h1 h2
  · cases h
  · cases h
theorem et_yl2_ok (h : et_yl E C pc len L st ck sk i 2 = some l) (hi : et_I T K R E C L st G L2 st2) (h1 : c0 ≤ ck) (h2 : s0 ≤ sk) : ∃ Y ∈ l, et_J T M K R G (eg_la pc L2 st2 G c0 s0 i len) Y := by
  obtain ⟨hH, hE, hC, hL, hs⟩ := hi
  unfold et_yl at h
  split at h
  · cases h
  · cases h
  · rename_i k hd
    rw [if_pos rfl] at h
    cases h
    obtain ⟨w, e, hw⟩ := et_lr_ld hL hd
    have hw2 := hw
    obtain ⟨rfl | ⟨a, rfl⟩, -⟩ := hw
    · refine ⟨_, List.mem_cons_self, ?_⟩
      unfold eg_la
      rw [e]
      exact et_j0 ⟨hH, hE, hC, hL, _, _, rfl, hw2, hs⟩ h1 h2
    · refine ⟨_, List.mem_cons_self, ?_⟩
      unfold eg_la
      rw [e]
      exact et_j0 ⟨hH, hE, hC, hL, _, _, rfl, hw2, hs⟩ h1 h2
  · cases h
theorem et_ys0_ok (h : et_ys E C pc len L st ck sk i 0 = some l) (hi : et_I T K R E C L st G L2 st2) (h1 : c0 ≤ ck) (h2 : s0 ≤ sk) : ∃ Y ∈ l, et_J T M K R G (eg_si pc L2 st2 G c0 s0 i len) Y := by
  obtain ⟨hH, hE, hC, hL, hs⟩ := hi
  unfold et_ys at h
  split at h
  · split at h
    · rename_i hc
      cases h
      obtain ⟨w, r2, rfl, hw, hr⟩ := hs
      have hw2 := hw
      obtain ⟨x, rfl, -⟩ := hw
      refine ⟨_, List.mem_cons_self, ?_⟩
      unfold eg_si
      dsimp only
      rw [if_pos (by rw [et_lr_len hL]; exact hc.2)]
      exact et_j0 ⟨hH, hE, hC, et_lr_s1 i hL hw2, hr⟩ h1 h2
    · cases h
  · cases h
  · cases h
  · cases h
theorem et_ys1_ok (h : et_ys E C pc len L st ck sk i 1 = some l) (hi : et_I T K R E C L st G L2 st2) (h1 : c0 ≤ ck) (h2 : s0 ≤ sk) : ∃ Y ∈ l, et_J T M K R G (eg_sl2 pc L2 st2 G c0 s0 i len) Y := by
  obtain ⟨hH, hE, hC, hL, hs⟩ := hi
  unfold et_ys at h
  split at h
  · cases h
  · split at h
    · rename_i hc
      cases h
      obtain ⟨w, r2, rfl, hw, hr⟩ := hs
      have hw2 := hw
      obtain ⟨x, rfl, -⟩ := hw
      refine ⟨_, List.mem_cons_self, ?_⟩
      unfold eg_sl2
      dsimp only
      rw [if_pos (by rw [et_lr_len hL]; exact hc.2)]
      exact et_j0 ⟨hH, hE, hC, et_lr_s2 i hL hw2, hr⟩ h1 h2
    · cases h
  · cases h
  · cases h
theorem et_ys2_ok (h : et_ys E C pc len L st ck sk i 2 = some l) (hi : et_I T K R E C L st G L2 st2) (h1 : c0 ≤ ck) (h2 : s0 ≤ sk) : ∃ Y ∈ l, et_J T M K R G (eg_sa pc L2 st2 G c0 s0 i len) Y := by
  obtain ⟨hH, hE, hC, hL, hs⟩ := hi
  unfold et_ys at h
  split at h
  · cases h
  · cases h
  · split at h
    · rename_i hc
      cases h
      obtain ⟨w, r2, rfl, hw, hr⟩ := hs
      have hw2 := hw
      have hlt : i < L2.length := by rw [et_lr_len hL]; exact hc.2
      obtain ⟨rfl | ⟨a, rfl⟩, -⟩ := hw
      · refine ⟨_, List.mem_cons_self, ?_⟩
        unfold eg_sa
        dsimp only
        rw [if_pos hlt]
        exact et_j0 ⟨hH, hE, hC, et_lr_s1 i hL hw2, hr⟩ h1 h2
      · refine ⟨_, List.mem_cons_self, ?_⟩
        unfold eg_sa
        dsimp only
        rw [if_pos hlt]
        exact et_j0 ⟨hH, hE, hC, et_lr_s1 i hL hw2, hr⟩ h1 h2
    · cases h
  · cases h
theorem et_yi_ok {n : Int} (h : et_yi E C pc len L st ck sk i n = some l) (hi : et_I T K R E C L st G L2 st2) (h1 : c0 ≤ ck) (h2 : s0 ≤ sk) : ∃ Y ∈ l, et_J T M K R G (eg_st o ini mc ms pc len (.iinc i n) L2 st2 G c0 s0) Y := by
  obtain ⟨hH, hE, hC, hL, hs⟩ := hi
  unfold et_yi at h
  split at h
  · rename_i k hd
    split at h
    · rename_i a b hb
      split at h
      · rename_i hc
        cases h
        obtain ⟨w, e, hw⟩ := et_lr_ld hL hd
        obtain ⟨x, rfl, x1, x2⟩ := et_ib_ok hb hE hw
        obtain ⟨y, ey, hy⟩ := hw
        cases ey
        have en : (Int32.ofInt n).toInt = n := Int32.toInt_ofInt_of_le hc.2.2.2.1 (by have := hc.2.2.2.2; unfold et_mx at this; omega)
        obtain ⟨z1, z2⟩ := et_w_ok (lo := a + n) (hi := b + n) (z := x.toInt + n) (x := x + Int32.ofInt n) (by omega) (by omega) (fun q1 q2 => by rw [et_add x _ (by rw [en]; exact q1) (by rw [en]; exact q2), en])
        refine ⟨_, List.mem_cons_self, ?_⟩
        dsimp only [eg_st]
        rw [e]
        dsimp only
        rw [if_pos ⟨hc.1, by rw [et_lr_len hL]; exact hc.2.1⟩]
        refine ⟨K, [.int (x + Int32.ofInt n)], _, _, G, c0, s0, rfl, et_ex.rf, et_fr.rf, ⟨hH, ?_, et_co_mono hC, et_lr_s1 i (et_lr_mono hL) ⟨_, rfl, by rw [et_tkl hc.2.2.1]; exact et_new hE.1⟩, et_sr_mono hs⟩, h1, h2⟩
        dsimp only
        split
        · rename_i hr
          exact et_eo_monod hE z1 z2 hy (by rw [et_add x _ (by rw [en]; omega) (by rw [en]; omega), en])
        · exact et_eo_mono hE ⟨_, rfl, z1, z2⟩
      · cases h
    · cases h
  · cases h
theorem et_yu_ok {r r2 : List Value} {x : Int32} {lo hi : Int} (h : et_yu E C pc L r ck sk lo hi = some l) (hI : et_I T K R E C L r G L2 r2) (b1 : lo ≤ x.toInt) (b2 : x.toInt ≤ hi) (h1 : c0 ≤ ck) (h2 : s0 ≤ sk) : ∃ Y ∈ l, et_J T M K R G (some (pc + 1, L2, .int x :: r2, G, c0, s0)) Y := by
  unfold et_yu at h
  split at h
  · rename_i hc
    cases h
    exact ⟨_, List.mem_cons_self, et_j1 hI hc b1 b2 (fun _ _ h => (nomatch h)) h1 h2⟩
  · cases h
theorem et_tkL {n : Nat} (h : n < 4294967296) : (UInt64.ofNat n).toNat = n := UInt64.toNat_ofNat_of_lt' (Nat.lt_of_lt_of_le h (by decide))
theorem et_yw_ok {r r2 : List Value} {x : Int64} {lo hi : Int} (h : et_yw E C pc L r ck sk lo hi = some l) (hI : et_I T K R E C L r G L2 r2) (b1 : lo ≤ x.toInt) (b2 : x.toInt ≤ hi) (h1 : c0 ≤ ck) (h2 : s0 ≤ sk) : ∃ Y ∈ l, et_J T M K R G (some (pc + 1, L2, .long x :: r2, G, c0, s0)) Y := by
  unfold et_yw at h
  split at h
  · rename_i hc
    cases h
    obtain ⟨hH, hE, hC, hL, hs⟩ := hI
    exact ⟨_, List.mem_cons_self, K, [.long x], L2, .long x :: r2, G, c0, s0, rfl, et_ex.rf, et_fr.rf, ⟨hH, et_eo_mono hE ⟨x, rfl, b1, b2⟩, et_co_mono hC, et_lr_mono hL, ⟨_, _, rfl, ⟨x, rfl, by rw [et_tkL hc]; exact et_new hE.1⟩, et_sr_mono hs⟩⟩, h1, h2⟩
  · cases h
theorem et_anyL (x : Int64) : et_lmn ≤ x.toInt ∧ x.toInt ≤ et_lmx := ⟨x.le_toInt, Int.le_of_lt_add_one x.toInt_lt⟩
theorem et_fork_ok {r r2 : List Value} {x y : Int32} {u v : Value} {c : Jvm.ClassFile.Cond} {t f : Nat} (hi : et_I T K R E C L r G L2 r2) (hu : et_vr R u (.int x)) (hv : et_vr R v (.int y)) (h1 : c0 ≤ ck) (h2 : s0 ≤ sk) (q : Nat) (hq1 : et_hb c x y → q = t) (hq2 : ¬ et_hb c x y → q = f) : ∃ Y ∈ et_fork E C L r ck sk t f c u v, et_J T M K R G (some (q, L2, r2, G, c0, s0)) Y := by
  obtain ⟨hH, hE, hC, hL, hs⟩ := hi
  by_cases hb : et_hb c x y
  · obtain ⟨F, e, hF⟩ := et_as_ok hE hu hv hb
    rw [hq1 hb]
    exact ⟨_, List.mem_append_left _ (by rw [e]; exact List.mem_cons_self), et_j0 ⟨hH, hF, hC, hL, hs⟩ h1 h2⟩
  · obtain ⟨F, e, hF⟩ := et_as_ok hE hu hv (et_hb_ng hb)
    rw [hq2 hb]
    exact ⟨_, List.mem_append_right _ (by rw [e]; exact List.mem_cons_self), et_j0 ⟨hH, hF, hC, hL, hs⟩ h1 h2⟩
end ETF
