/-! CONSTANTS, AND ANY STEP -/
def et_g0 : eg_G := (fun _ => .inr (98, []), eg_NC)
def et_cs (ins : Instr) : Bool := match ins with
  | .getfield _ | .iaload | .baload | .caload | .laload | .aaload | .arraylength => true
  | _ => false
def et_enl (E : List et_N) (C : et_C) (pc : Nat) (L : eg_Ls) (r : List Value) (ck sk k a : Nat) : Nat → Int → Option (List et_Y)
  | 0, _ => some []
  | n + 1, j => match eg_ar .aaload pc L (.int (Int32.ofInt j) :: .ref a :: r) et_g0 0 0, et_enl E C pc L r ck sk k a n (j + 1) with
    | some S, some l => some (et_o1 C S.1 S.2.1 S.2.2.1 ck sk (et_nw E (.float (UInt32.ofNat k)) j j) ++ l)
    | _, _ => none
/-- a constant array, an index that isn't known -/
def et_ci (ins : Instr) (E : List et_N) (C : et_C) (pc : Nat) (L : eg_Ls) (st : List Value) (ck sk : Nat) : Option (List et_Y) := match st with
  | .float k :: .ref a :: r => (match et_ib E (.float k) with
    | some (lo, hi) => if a < eg_NC ∧ 0 ≤ lo then (match eg_con a with
      | .inl (kd, (n, .inl _)) => if hi < n ∧ eg_ak ins kd = true ∧ (kd = 0 ∨ kd = 1 ∨ kd = 3 ∨ kd = 4) then (if a = 149 then et_yu E C pc L r ck sk 0 36 else et_yu E C pc L r ck sk et_mn et_mx) else none
      | _ => none) else none
    | none => none)
  | _ => none
def et_en (E : List et_N) (C : et_C) (pc : Nat) (L : eg_Ls) (st : List Value) (ck sk : Nat) : Option (List et_Y) := match st with
  | .float k :: .ref a :: r => (match et_ib E (.float k) with
    | some (lo, hi) => if 0 ≤ lo ∧ hi - lo < 40 ∧ k.toNat < 4294967296 then et_enl E C pc L r ck sk k.toNat a (hi - lo + 1).toNat lo else none
    | none => none)
  | _ => none
def et_s2 (T : List et_D) (M : et_M) (E : List et_N) (C : et_C) (o : Nat) (ini : Bool) (pc : Nat) (ins : Instr) (L : eg_Ls) (st : List Value) (ck sk : Nat) : Option (List et_Y) := match ins with
  | .getfield i => et_gf T E C o i pc L st ck sk
  | .putfield i => et_pf T M E C o ini i pc L st ck sk
  | .iaload => (match et_al T .iaload E C pc L st ck sk with
    | some l => some l
    | none => et_ci .iaload E C pc L st ck sk)
  | .baload => (match et_al T .baload E C pc L st ck sk with
    | some l => some l
    | none => et_ci .baload E C pc L st ck sk)
  | .caload => et_al T .caload E C pc L st ck sk
  | .laload => et_al T .laload E C pc L st ck sk
  | .aaload => (match et_al T .aaload E C pc L st ck sk with
    | some l => some l
    | none => et_en E C pc L st ck sk)
  | .iastore => et_as1 T M .iastore E C pc L st ck sk
  | .bastore => et_as1 T M .bastore E C pc L st ck sk
  | .castore => et_as1 T M .castore E C pc L st ck sk
  | .lastore => et_as1 T M .lastore E C pc L st ck sk
  | .aastore => et_as1 T M .aastore E C pc L st ck sk
  | ins => et_nw1 T ins E C o pc L st ck sk
def et_s1 (E : List et_N) (C : et_C) (pc : Nat) (ins : Instr) (L : eg_Ls) (st : List Value) (ck sk : Nat) : Option (List et_Y) := match ins with
  | .iload i => et_yl E C pc 2 L st ck sk i 0
  | .iload_n i => et_yl E C pc 1 L st ck sk i 0
  | .lload i => et_yl E C pc 2 L st ck sk i 1
  | .lload_n i => et_yl E C pc 1 L st ck sk i 1
  | .aload i => et_yl E C pc 2 L st ck sk i 2
  | .aload_n i => et_yl E C pc 1 L st ck sk i 2
  | .istore i => et_ys E C pc 2 L st ck sk i 0
  | .istore_n i => et_ys E C pc 1 L st ck sk i 0
  | .lstore i => et_ys E C pc 2 L st ck sk i 1
  | .lstore_n i => et_ys E C pc 1 L st ck sk i 1
  | .astore i => et_ys E C pc 2 L st ck sk i 2
  | .astore_n i => et_ys E C pc 1 L st ck sk i 2
  | .iinc i n => et_yi E C pc 3 L st ck sk i n
  | .ineg => (match st with
    | .float _ :: r => et_yu E C pc L r ck sk et_mn et_mx
    | _ => none)
  | .i2l => (match st with
    | .float k :: r => (match et_ib E (.float k) with
      | some (a, b) => et_yw E C pc L r ck sk a b
      | none => none)
    | _ => none)
  | .l2i => (match st with
    | .double _ :: r => et_yu E C pc L r ck sk et_mn et_mx
    | _ => none)
  | .i2b => (match st with
    | .float _ :: r => et_yu E C pc L r ck sk et_mn et_mx
    | _ => none)
  | .i2c => (match st with
    | .float _ :: r => et_yu E C pc L r ck sk et_mn et_mx
    | _ => none)
  | .ldiv => (match st with
    | y :: x :: r => (match et_lb E y, et_lb E x with
      | some (c, d), some _ => if 1 ≤ c ∨ d ≤ -1 then et_yw E C pc L r ck sk et_lmn et_lmx else none
      | _, _ => none)
    | _ => none)
  | .lcmp => (match st with
    | y :: x :: r => (match et_lb E y, et_lb E x with
      | some _, some _ => et_yu E C pc L r ck sk (-1) 1
      | _, _ => none)
    | _ => none)
  | ins => (match et_bf ins with
    | some _ => et_sb ins E C pc L st ck sk
    | none => match et_lf ins, st with
      | some _, y :: x :: r => (match et_lb E y, et_lb E x with
        | some _, some _ => et_yw E C pc L r ck sk et_lmn et_lmx
        | _, _ => none)
      | _, _ => match et_lg ins, st with
        | some _, y :: x :: r => (match et_ib E y, et_lb E x with
          | some _, some _ => et_yw E C pc L r ck sk et_lmn et_lmx
          | _, _ => none)
        | _, _ => et_br E C pc ins L st ck sk)
def et_step (T : List et_D) (M : et_M) (E : List et_N) (C : et_C) (o : Nat) (ini : Bool) (pc len : Nat) (ins : Instr) (L : eg_Ls) (st : List Value) (ck sk : Nat) : Option (List et_Y) :=
  if et_pu ins = true then (match eg_st o ini eg_MC eg_MS pc len ins L st et_g0 0 0 with
    | some S => some [(E, C, S.1, S.2.1, S.2.2.1, ck, sk)]
    | none => et_s1 E C pc ins L st ck sk)
  else if et_cs ins = true then (match eg_st o ini eg_MC eg_MS pc len ins L st et_g0 0 0 with
    | some S => some [(E, C, S.1, S.2.1, S.2.2.1, ck, sk)]
    | none => et_s2 T M E C o ini pc ins L st ck sk)
  else et_s2 T M E C o ini pc ins L st ck sk
section ETL
variable {T : List et_D} {M : et_M} {K : et_K} {R : List Value} {E : List et_N} {C : et_C} {o idx pc len ck sk i c0 s0 : Nat} {ini : Bool} {L L2 : eg_Ls} {st st2 : List Value} {G : eg_G} {l : List et_Y}
theorem et_con_nf {i ci : Nat} {fs : List Value} (h : eg_con i = .inr (ci, fs)) : fs.all et_nf = true := by
  unfold eg_con at h
  split at h
  · cases h
    rfl
  · split at h
    · cases h
      rfl
    · split at h
      · cases h
      · split at h
        · cases h
        · split at h
          · cases h
          · cases h
            rfl
theorem et_at0 {a : Nat} (h : a < eg_NC) : eg_at et_g0 a = eg_at G a := by
  unfold eg_at
  rw [if_pos h, if_pos h]
theorem et_rd_nf {kd i : Nat} {x : vp_A} {v : Value} (h : eg_rd kd x i = some v) : et_nf v = true := by
  unfold eg_rd at h
  split at h
  · split at h <;> cases h
    rfl
  · split at h <;> cases h
    rfl
  · split at h
    · cases h
      have hq : ∀ q, et_nf (va_rf q) = true := fun q => by cases q <;> rfl
      exact hq _
    · cases h
  · cases h
theorem et_ar0 {ins : Instr} {S : eg_S} (h : eg_ar ins pc L st et_g0 0 0 = some S) (hI : et_I T K R E C L st G L2 st2) (h1 : c0 ≤ ck) (h2 : s0 ≤ sk) : et_J T M K R G (eg_ar ins pc L2 st2 G c0 s0) (E, C, S.1, S.2.1, S.2.2.1, ck, sk) := by
  obtain ⟨hH, hE, hC, hL, hs⟩ := hI
  unfold eg_ar at h
  split at h
  · rename_i x a r
    split at h
    · rename_i t y he
      split at h
      · rename_i hc
        split at h
        · rename_i v hv
          cases h
          obtain ⟨_, _, rfl, rfl, _, r2, rfl, rfl, hr⟩ := hs
          have ha : a < eg_NC := hc.1
          unfold eg_ar
          dsimp only
          rw [← et_at0 (G := G) ha, he]
          dsimp only
          rw [if_pos ⟨Nat.lt_of_lt_of_le ha hH.1, hc.2⟩, hv]
          exact et_j0 ⟨hH, hE, hC, hL, _, _, rfl, et_vr_nf (et_rd_nf hv), hr⟩ h1 h2
        · cases h
      · cases h
    · cases h
  · cases h
theorem et_cs_ok {ins : Instr} {S : eg_S} (h : eg_st o ini eg_MC eg_MS pc len ins L st et_g0 0 0 = some S) (hc : et_cs ins = true) (hI : et_I T K R E C L st G L2 st2) (h1 : c0 ≤ ck) (h2 : s0 ≤ sk) : et_J T M K R G (eg_st o ini eg_MC eg_MS pc len ins L2 st2 G c0 s0) (E, C, S.1, S.2.1, S.2.2.1, ck, sk) := by
  cases ins with
  | iaload => exact et_ar0 h hI h1 h2
  | baload => exact et_ar0 h hI h1 h2
  | caload => exact et_ar0 h hI h1 h2
  | laload => exact et_ar0 h hI h1 h2
  | aaload => exact et_ar0 h hI h1 h2
  | getfield i =>
    obtain ⟨hH, hE, hC, hL, hs⟩ := hI
    dsimp only [eg_st] at h ⊢
    unfold eg_gf at h ⊢
    split at h
    · rename_i ci k y hlk
      try rw [hlk]
      try dsimp only
      split at h
      · rename_i a r
        split at h
        · rename_i cj fs he
          split at h
          · rename_i hc2
            split at h
            · rename_i v hv
              cases h
              obtain ⟨_, r2, rfl, rfl, hr⟩ := hs
              have ha : a < eg_NC := hc2.1
              dsimp only
              have he0 := he
              rw [et_at0 (G := G) ha] at he
              rw [he]
              dsimp only
              rw [if_pos ⟨Nat.lt_of_lt_of_le ha hH.1, hc2.2⟩, hv]
              have hcon : eg_con a = .inr (cj, fs) := by
                unfold eg_at at he0
                rw [if_pos ha] at he0
                exact he0
              exact et_j0 ⟨hH, hE, hC, hL, _, _, rfl, et_vr_nf (List.all_eq_true.mp (et_con_nf hcon) v (List.mem_of_getElem? hv)), hr⟩ h1 h2
            · cases h
          · cases h
        · cases h
      · cases h
    · cases h
  | arraylength =>
    obtain ⟨hH, hE, hC, hL, hs⟩ := hI
    dsimp only [eg_st] at h ⊢
    split at h
    · rename_i a r
      split at h
      · rename_i t x he
        split at h
        · rename_i hc2
          cases h
          obtain ⟨_, r2, rfl, rfl, hr⟩ := hs
          have ha : a < eg_NC := hc2.1
          dsimp only
          rw [← et_at0 (G := G) ha, he]
          dsimp only
          rw [if_pos ⟨Nat.lt_of_lt_of_le ha hH.1, hc2.2⟩]
          exact et_j0 ⟨hH, hE, hC, hL, _, _, rfl, rfl, hr⟩ h1 h2
        · cases h
      · cases h
    · cases h
  | _ => cases hc
theorem et_sw_in : ∀ j : Nat, 0 ≤ (eg_sw.getD j 0).toInt ∧ (eg_sw.getD j 0).toInt ≤ 36 := by
  have h : eg_sw.all (fun x => decide (0 ≤ x.toInt) && decide (x.toInt ≤ 36)) = true := by decide +kernel
  intro j
  rw [List.getD_eq_getElem?_getD]
  cases hj : eg_sw[j]? with
  | none => decide
  | some x =>
    have h1 := List.all_eq_true.mp h x (List.mem_of_getElem? hj)
    rw [Bool.and_eq_true] at h1
    exact ⟨of_decide_eq_true h1.1, of_decide_eq_true h1.2⟩
theorem et_ci_ok {ins : Instr} (h : et_ci ins E C pc L st ck sk = some l) (hI : et_I T K R E C L st G L2 st2) (h1 : c0 ≤ ck) (h2 : s0 ≤ sk) : ∃ Y ∈ l, et_J T M K R G (eg_ar ins pc L2 st2 G c0 s0) Y := by
  obtain ⟨hH, hE, hC, hL, hs⟩ := hI
  unfold et_ci at h
  split at h
  · rename_i k a r
    split at h
    · rename_i lo hi hb
      split at h
      · rename_i hc
        split at h
        · rename_i kd n f he
          split at h
          · rename_i hc2
            obtain ⟨_, _, rfl, hv, _, r2, rfl, rfl, hr⟩ := hs
            obtain ⟨x, rfl, x1, x2⟩ := et_ib_ok hb hE hv
            have ha : eg_at G a = .inl (kd, (n, .inl f)) := by
              unfold eg_at
              rw [if_pos hc.1]
              exact he
            have har : eg_ar ins pc L2 (.int x :: .ref a :: r2) G c0 s0 = some (pc + 1, L2, .int (f x.toNatClampNeg) :: r2, G, c0, s0) := by
              unfold eg_ar
              dsimp only
              rw [ha]
              dsimp only
              rw [if_pos ⟨Nat.lt_of_lt_of_le hc.1 hH.1, hc2.2.1, by omega, by omega⟩]
              unfold eg_rd
              dsimp only
              rw [if_pos hc2.2.2]
            rw [har]
            split at h
            · rename_i ea
              subst ea
              have e9 : eg_con 149 = .inl (0, (36, .inl (fun j => eg_sw.getD j 0))) := rfl
              rw [e9] at he
              cases he
              obtain ⟨q1, q2⟩ := et_sw_in x.toNatClampNeg
              exact et_yu_ok h ⟨hH, hE, hC, hL, hr⟩ q1 q2 h1 h2
            · exact et_yu_ok h ⟨hH, hE, hC, hL, hr⟩ (et_any _).1 (et_any _).2 h1 h2
          · cases h
        · cases h
      · cases h
    · cases h
  · cases h
theorem et_enl_ok {k : UInt32} {a : Nat} {r r2 : List Value} {x : Int32} (hI : et_I T K R E C L r G L2 r2) (hv : et_vr R (.float k) (.int x)) (h1 : c0 ≤ ck) (h2 : s0 ≤ sk) : ∀ (n : Nat) (j : Int) (l : List et_Y), et_enl E C pc L r ck sk k.toNat a n j = some l → j ≤ x.toInt → x.toInt < j + n → ∃ Y ∈ l, et_J T M K R G (eg_ar .aaload pc L2 (.int x :: .ref a :: r2) G c0 s0) Y
  | 0, j, l, _, h3, h4 => absurd h4 (by omega)
  | n + 1, j, l, h, h3, h4 => by
    unfold et_enl at h
    split at h
    · rename_i S l2 hS hl
      cases h
      by_cases e : x.toInt = j
      · have ex : x = Int32.ofInt j := by
          apply Int32.toInt_inj.mp
          rw [← e, Int32.ofInt_toInt]
        have hk : UInt32.ofNat k.toNat = k := UInt32.ofNat_toNat
        rw [hk]
        obtain ⟨F, hF, hE2⟩ := et_nw_ok (lo := j) (hi := j) hI.2.1 hv (by omega) (by omega)
        rw [hF]
        rw [← ex] at hS
        refine et_mL ⟨_, List.mem_cons_self, ?_⟩
        exact et_ar0 hS ⟨hI.1, hE2, hI.2.2.1, hI.2.2.2.1, _, _, rfl, rfl, _, _, rfl, rfl, hI.2.2.2.2⟩ h1 h2
      · exact et_mR (et_enl_ok hI hv h1 h2 n (j + 1) l2 hl (by omega) (by omega))
    · cases h
theorem et_en_ok (h : et_en E C pc L st ck sk = some l) (hI : et_I T K R E C L st G L2 st2) (h1 : c0 ≤ ck) (h2 : s0 ≤ sk) : ∃ Y ∈ l, et_J T M K R G (eg_ar .aaload pc L2 st2 G c0 s0) Y := by
  obtain ⟨hH, hE, hC, hL, hs⟩ := hI
  unfold et_en at h
  split at h
  · rename_i k a r
    split at h
    · rename_i lo hi hb
      split at h
      · rename_i hc
        obtain ⟨_, _, rfl, hv, _, r2, rfl, rfl, hr⟩ := hs
        have hv2 := hv
        obtain ⟨x, rfl, x1, x2⟩ := et_ib_ok hb hE hv
        exact et_enl_ok ⟨hH, hE, hC, hL, hr⟩ hv2 h1 h2 _ _ _ h x1 (by omega)
      · cases h
    · cases h
  · cases h
theorem et_s2_ok {ins : Instr} (h : et_s2 T M E C o ini pc ins L st ck sk = some l) (hI : et_I T K R E C L st G L2 st2) (h1 : c0 ≤ ck) (h2 : s0 ≤ sk) : ∃ Y ∈ l, et_J T M K R G (eg_st o ini eg_MC eg_MS pc len ins L2 st2 G c0 s0) Y := by
  cases ins with
  | getfield i => exact et_gf_ok h hI h1 h2
  | putfield i => exact et_pf_ok h hI h1 h2
  | iaload =>
    dsimp only [et_s2] at h
    split at h
    · rename_i l2 h3
      cases h
      exact et_al_ok h3 hI h1 h2
    · exact et_ci_ok h hI h1 h2
  | baload =>
    dsimp only [et_s2] at h
    split at h
    · rename_i l2 h3
      cases h
      exact et_al_ok h3 hI h1 h2
    · exact et_ci_ok h hI h1 h2
  | caload => exact et_al_ok h hI h1 h2
  | laload => exact et_al_ok h hI h1 h2
  | aaload =>
    dsimp only [et_s2] at h
    split at h
    · rename_i l2 h3
      cases h
      exact et_al_ok h3 hI h1 h2
    · exact et_en_ok h hI h1 h2
  | iastore => exact et_as1_ok h hI h1 h2
  | bastore => exact et_as1_ok h hI h1 h2
  | castore => exact et_as1_ok h hI h1 h2
  | lastore => exact et_as1_ok h hI h1 h2
  | aastore => exact et_as1_ok h hI h1 h2
  | _ => exact et_nw1_ok h hI h1 h2
end ETL
