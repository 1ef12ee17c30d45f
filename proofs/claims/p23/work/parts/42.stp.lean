section
/-! CONSTANTS, AND ANY STEP -/
def et_g0 : eg_G := (fun _ => .inr (98, []), eg_NC)
def et_cs (ins : Instr) : Bool := match ins with
  | .getfield _ | .iaload | .baload | .caload | .laload | .aaload | .arraylength => true
  | _ => false
def et_enl (E : List et_N) (C : et_C) (pc : Nat) (L : eg_Ls) (r : List Value) (ck sk k a : Nat) : Nat → Int → Option (List et_Y)
  | 0, _ => some []
  | n + 1, j => match eg_ar .aaload pc L (.int (Int32.ofInt j) :: .ref a :: r) et_g0 0 0, et_enl E C pc L r ck sk k a n (j + 1) with
    | some S, some l => some (et_o1 C S.1 S.2.1 S.2.2.1 ck sk (et_nw E (.float (UInt32.ofNat k)) j j) ++ l)
    | _, _ => none
/-- a constant array, an index that isn't known -/
def et_ci (ins : Instr) (E : List et_N) (C : et_C) (pc : Nat) (L : eg_Ls) (st : List Value) (ck sk : Nat) : Option (List et_Y) := match st with
  | .float k :: .ref a :: r => (match et_ib E (.float k) with
    | some (lo, hi) => if a < eg_NC ∧ 0 ≤ lo then (match eg_con a with
      | .inl (kd, (n, .inl _)) => if hi < n ∧ eg_ak ins kd = true ∧ (kd = 0 ∨ kd = 1 ∨ kd = 3 ∨ kd = 4) then (if a = 149 then et_yu E C pc L r ck sk 0 36 else et_yu E C pc L r ck sk et_mn et_mx) else none
      | _ => none) else none
    | none => none)
  | _ => none
def et_en (E : List et_N) (C : et_C) (pc : Nat) (L : eg_Ls) (st : List Value) (ck sk : Nat) : Option (List et_Y) := match st with
  | .float k :: .ref a :: r => (match et_ib E (.float k) with
    | some (lo, hi) => if 0 ≤ lo ∧ hi - lo < 40 ∧ k.toNat < 4294967296 then et_enl E C pc L r ck sk k.toNat a (hi - lo + 1).toNat lo else none
    | none => none)
  | _ => none
def et_s2 (T : List et_D) (M : et_M) (E : List et_N) (C : et_C) (o : Nat) (ini : Bool) (pc : Nat) (ins : Instr) (L : eg_Ls) (st : List Value) (ck sk : Nat) : Option (List et_Y) := match ins with
  | .getfield i => et_gf T E C o i pc L st ck sk
  | .putfield i => et_pf T M E C o ini i pc L st ck sk
  | .iaload => (match et_al T .iaload E C pc L st ck sk with
    | some l => some l
    | none => et_ci .iaload E C pc L st ck sk)
  | .baload => (match et_al T .baload E C pc L st ck sk with
    | some l => some l
    | none => et_ci .baload E C pc L st ck sk)
  | .caload => et_al T .caload E C pc L st ck sk
  | .laload => et_al T .laload E C pc L st ck sk
  | .aaload => (match et_al T .aaload E C pc L st ck sk with
    | some l => some l
    | none => et_en E C pc L st ck sk)
  | .iastore => et_as1 T M .iastore E C pc L st ck sk
  | .bastore => et_as1 T M .bastore E C pc L st ck sk
  | .castore => et_as1 T M .castore E C pc L st ck sk
  | .lastore => et_as1 T M .lastore E C pc L st ck sk
  | .aastore => et_as1 T M .aastore E C pc L st ck sk
  | ins => et_nw1 T ins E C o pc L st ck sk
def et_s1 (E : List et_N) (C : et_C) (pc : Nat) (ins : Instr) (L : eg_Ls) (st : List Value) (ck sk : Nat) : Option (List et_Y) := match ins with
  | .iload i => et_yl E C pc 2 L st ck sk i 0
  | .iload_n i => et_yl E C pc 1 L st ck sk i 0
  | .lload i => et_yl E C pc 2 L st ck sk i 1
  | .lload_n i => et_yl E C pc 1 L st ck sk i 1
  | .aload i => et_yl E C pc 2 L st ck sk i 2
  | .aload_n i => et_yl E C pc 1 L st ck sk i 2
  | .istore i => et_ys E C pc 2 L st ck sk i 0
  | .istore_n i => et_ys E C pc 1 L st ck sk i 0
  | .lstore i => et_ys E C pc 2 L st ck sk i 1
  | .lstore_n i => et_ys E C pc 1 L st ck sk i 1
  | .astore i => et_ys E C pc 2 L st ck sk i 2
  | .astore_n i => et_ys E C pc 1 L st ck sk i 2
  | .iinc i n => et_yi E C pc 3 L st ck sk i n
  | .ineg => (match st with
    | .float _ :: r => et_yu E C pc L r ck sk et_mn et_mx
    | _ => none)
  | .i2l => (match st with
    | .float k :: r => (match et_ib E (.float k) with
      | some (a, b) => et_yw E C pc L r ck sk a b
      | none => none)
    | _ => none)
  | .l2i => (match st with
    | .double _ :: r => et_yu E C pc L r ck sk et_mn et_mx
    | _ => none)
  | .i2b => (match st with
    | .float _ :: r => et_yu E C pc L r ck sk et_mn et_mx
    | _ => none)
  | .i2c => (match st with
    | .float _ :: r => et_yu E C pc L r ck sk et_mn et_mx
    | _ => none)
  | .ldiv => (match st with
    | y :: x :: r => (match et_lb E y, et_lb E x with
      | some (c, d), some _ => if 1 ≤ c ∨ d ≤ -1 then et_yw E C pc L r ck sk et_lmn et_lmx else none
      | _, _ => none)
    | _ => none)
  | .lcmp => (match st with
    | y :: x :: r => (match et_lb E y, et_lb E x with
      | some _, some _ => et_yu E C pc L r ck sk (-1) 1
      | _, _ => none)
    | _ => none)
  | ins => (match et_bf ins with
    | some _ => et_sb ins E C pc L st ck sk
    | none => match et_lf ins, st with
      | some _, y :: x :: r => (match et_lb E y, et_lb E x with
        | some _, some _ => et_yw E C pc L r ck sk et_lmn et_lmx
        | _, _ => none)
      | _, _ => match et_lg ins, st with
        | some _, y :: x :: r => (match et_ib E y, et_lb E x with
          | some _, some _ => et_yw E C pc L r ck sk et_lmn et_lmx
          | _, _ => none)
        | _, _ => et_br E C pc ins L st ck sk)
def et_step (T : List et_D) (M : et_M) (E : List et_N) (C : et_C) (o : Nat) (ini : Bool) (pc len : Nat) (ins : Instr) (L : eg_Ls) (st : List Value) (ck sk : Nat) : Option (List et_Y) :=
  if et_pu ins = true then (match eg_st o ini eg_MC eg_MS pc len ins L st et_g0 0 0 with
    | some S => some [(E, C, S.1, S.2.1, S.2.2.1, ck, sk)]
    | none => et_s1 E C pc ins L st ck sk)
  else if et_cs ins = true then (match eg_st o ini eg_MC eg_MS pc len ins L st et_g0 0 0 with
    | some S => some [(E, C, S.1, S.2.1, S.2.2.1, ck, sk)]
    | none => et_s2 T M E C o ini pc ins L st ck sk)
  else et_s2 T M E C o ini pc ins L st ck sk
section ETL
variable {T : List et_D} {M : et_M} {K : et_K} {R : List Value} {E : List et_N} {C : et_C} {o idx pc len ck sk i c0 s0 : Nat} {ini : Bool} {L L2 : eg_Ls} {st st2 : List Value} {G : eg_G} {l : List et_Y}
theorem et_con_nf {i ci : Nat} {fs : List Value} (h : eg_con i = .inr (ci, fs)) : fs.all et_nf = true := by
  unfold eg_con at h
  split at h
  · cases h
    rfl
  · split at h
    · cases h
      rfl
    · split at h
      · cases h
      · split at h
        · cases h
        · split at h
          · cases h
          · cases h
            rfl
theorem et_at0 {a : Nat} (h : a < eg_NC) : eg_at et_g0 a = eg_at G a := by
  unfold eg_at
  rw [if_pos h, if_pos h]
theorem et_rd_nf {kd i : Nat} {x : vp_A} {v : Value} (h : eg_rd kd x i = some v) : et_nf v = true := by
  unfold eg_rd at h
  split at h
  · split at h <;> cases h
    rfl
  · split at h <;> cases h
    rfl
  · split at h
    · cases h
      have hq : ∀ q, et_nf (va_rf q) = true := fun q => by cases q <;> rfl
      exact hq _
    · cases h
  · cases h
theorem et_ar0 {ins : Instr} {S : eg_S} (h : eg_ar ins pc L st et_g0 0 0 = some S) (hI : et_I T K R E C L st G L2 st2) (h1 : c0 ≤ ck) (h2 : s0 ≤ sk) : et_J T M K R G (eg_ar ins pc L2 st2 G c0 s0) (E, C, S.1, S.2.1, S.2.2.1, ck, sk) := by
  obtain ⟨hH, hE, hC, hL, hs⟩ := hI
  unfold eg_ar at h
  split at h
  · rename_i x a r
    split at h
    · rename_i t y he
      split at h
      · rename_i hc
        split at h
        · rename_i v hv
          cases h
          obtain ⟨_, _, rfl, rfl, _, r2, rfl, rfl, hr⟩ := hs
          have ha : a < eg_NC := hc.1
          unfold eg_ar
          dsimp only
          rw [← et_at0 (G := G) ha, he]
          dsimp only
          rw [if_pos ⟨Nat.lt_of_lt_of_le ha hH.1, hc.2⟩, hv]
          exact et_j0 ⟨hH, hE, hC, hL, _, _, rfl, et_vr_nf (et_rd_nf hv), hr⟩ h1 h2
        · cases h
      · cases h
    · cases h
  · cases h
theorem et_cs_ok {ins : Instr} {S : eg_S} (h : eg_st o ini eg_MC eg_MS pc len ins L st et_g0 0 0 = some S) (hc : et_cs ins = true) (hI : et_I T K R E C L st G L2 st2) (h1 : c0 ≤ ck) (h2 : s0 ≤ sk) : et_J T M K R G (eg_st o ini eg_MC eg_MS pc len ins L2 st2 G c0 s0) (E, C, S.1, S.2.1, S.2.2.1, ck, sk) := by
  cases ins with
  | iaload => exact et_ar0 h hI h1 h2
  | baload => exact et_ar0 h hI h1 h2
  | caload => exact et_ar0 h hI h1 h2
  | laload => exact et_ar0 h hI h1 h2
  | aaload => exact et_ar0 h hI h1 h2
  | getfield i =>
    obtain ⟨hH, hE, hC, hL, hs⟩ := hI
    dsimp only [eg_st] at h ⊢
    unfold eg_gf at h ⊢
    split at h
    · rename_i ci k y hlk
      try rw [hlk]
      try dsimp only
      split at h
      · rename_i a r
        split at h
        · rename_i cj fs he
          split at h
          · rename_i hc2
            split at h
            · rename_i v hv
              cases h
              obtain ⟨_, r2, rfl, rfl, hr⟩ := hs
              have ha : a < eg_NC := hc2.1
              dsimp only
              have he0 := he
              rw [et_at0 (G := G) ha] at he
              rw [he]
              dsimp only
              rw [if_pos ⟨Nat.lt_of_lt_of_le ha hH.1, hc2.2⟩, hv]
              have hcon : eg_con a = .inr (cj, fs) := by
                unfold eg_at at he0
                rw [if_pos ha] at he0
                exact he0
              exact et_j0 ⟨hH, hE, hC, hL, _, _, rfl, et_vr_nf (List.all_eq_true.mp (et_con_nf hcon) v (List.mem_of_getElem? hv)), hr⟩ h1 h2
            · cases h
          · cases h
        · cases h
      · cases h
    · cases h
  | arraylength =>
    obtain ⟨hH, hE, hC, hL, hs⟩ := hI
    dsimp only [eg_st] at h ⊢
    split at h
    · rename_i a r
      split at h
      · rename_i t x he
        split at h
        · rename_i hc2
          cases h
          obtain ⟨_, r2, rfl, rfl, hr⟩ := hs
          have ha : a < eg_NC := hc2.1
          dsimp only
          rw [← et_at0 (G := G) ha, he]
          dsimp only
          rw [if_pos ⟨Nat.lt_of_lt_of_le ha hH.1, hc2.2⟩]
          exact et_j0 ⟨hH, hE, hC, hL, _, _, rfl, rfl, hr⟩ h1 h2
        · cases h
      · cases h
    · cases h
  | _ => cases hc
theorem et_sw_in : ∀ j : Nat, 0 ≤ (eg_sw.getD j 0).toInt ∧ (eg_sw.getD j 0).toInt ≤ 36 := by
  have h : eg_sw.all (fun x => decide (0 ≤ x.toInt) && decide (x.toInt ≤ 36)) = true := by decide +kernel
  intro j
  rw [List.getD_eq_getElem?_getD]
  cases hj : eg_sw[j]? with
  | none => decide
  | some x =>
    have h1 := List.all_eq_true.mp h x (List.mem_of_getElem? hj)
    rw [Bool.and_eq_true] at h1
    exact ⟨of_decide_eq_true h1.1, of_decide_eq_true h1.2⟩
theorem et_ci_ok {ins : Instr} (h : et_ci ins E C pc L st ck sk = some l) (hI : et_I T K R E C L st G L2 st2) (h1 : c0 ≤ ck) (h2 : s0 ≤ sk) : ∃ Y ∈ l, et_J T M K R G (eg_ar ins pc L2 st2 G c0 s0) Y := by
  obtain ⟨hH, hE, hC, hL, hs⟩ := hI
  unfold et_ci at h
  split at h
  · rename_i k a r
    split at h
    · rename_i lo hi hb
      split at h
      · rename_i hc
        split at h
        · rename_i kd n f he
          split at h
          · rename_i hc2
            obtain ⟨_, _, rfl, hv, _, r2, rfl, rfl, hr⟩ := hs
            obtain ⟨x, rfl, x1, x2⟩ := et_ib_ok hb hE hv
            have ha : eg_at G a = .inl (kd, (n, .inl f)) := by
              unfold eg_at
              rw [if_pos hc.1]
              exact he
            have har : eg_ar ins pc L2 (.int x :: .ref a :: r2) G c0 s0 = some (pc + 1, L2, .int (f x.toNatClampNeg) :: r2, G, c0, s0) := by
              unfold eg_ar
              dsimp only
              rw [ha]
              dsimp only
              rw [if_pos ⟨Nat.lt_of_lt_of_le hc.1 hH.1, hc2.2.1, by omega, by omega⟩]
              unfold eg_rd
              dsimp only
              rw [if_pos hc2.2.2]
            rw [har]
            split at h
            · rename_i ea
              subst ea
              have e9 : eg_con 149 = .inl (0, (36, .inl (fun j => eg_sw.getD j 0))) := rfl
              rw [e9] at he
              cases he
              obtain ⟨q1, q2⟩ := et_sw_in x.toNatClampNeg
              exact et_yu_ok h ⟨hH, hE, hC, hL, hr⟩ q1 q2 h1 h2
            · exact et_yu_ok h ⟨hH, hE, hC, hL, hr⟩ (et_any _).1 (et_any _).2 h1 h2
          · cases h
        · cases h
      · cases h
    · cases h
  · cases h
theorem et_enl_ok {k : UInt32} {a : Nat} {r r2 : List Value} {x : Int32} (hI : et_I T K R E C L r G L2 r2) (hv : et_vr R (.float k) (.int x)) (h1 : c0 ≤ ck) (h2 : s0 ≤ sk) : ∀ (n : Nat) (j : Int) (l : List et_Y), et_enl E C pc L r ck sk k.toNat a n j = some l → j ≤ x.toInt → x.toInt < j + n → ∃ Y ∈ l, et_J T M K R G (eg_ar .aaload pc L2 (.int x :: .ref a :: r2) G c0 s0) Y
  | 0, j, l, _, h3, h4 => absurd h4 (by omega)
  | n + 1, j, l, h, h3, h4 => by
    unfold et_enl at h
    split at h
    · rename_i S l2 hS hl
      cases h
      by_cases e : x.toInt = j
      · have ex : x = Int32.ofInt j := by
          apply Int32.toInt_inj.mp
          rw [← e, Int32.ofInt_toInt]
        have hk : UInt32.ofNat k.toNat = k := UInt32.ofNat_toNat
        rw [hk]
        obtain ⟨F, hF, hE2⟩ := et_nw_ok (lo := j) (hi := j) hI.2.1 hv (by omega) (by omega)
        rw [hF]
        rw [← ex] at hS
        refine et_mL ⟨_, List.mem_cons_self, ?_⟩
        exact et_ar0 hS ⟨hI.1, hE2, hI.2.2.1, hI.2.2.2.1, _, _, rfl, rfl, _, _, rfl, rfl, hI.2.2.2.2⟩ h1 h2
      · exact et_mR (et_enl_ok hI hv h1 h2 n (j + 1) l2 hl (by omega) (by omega))
    · cases h
theorem et_en_ok (h : et_en E C pc L st ck sk = some l) (hI : et_I T K R E C L st G L2 st2) (h1 : c0 ≤ ck) (h2 : s0 ≤ sk) : ∃ Y ∈ l, et_J T M K R G (eg_ar .aaload pc L2 st2 G c0 s0) Y := by
  obtain ⟨hH, hE, hC, hL, hs⟩ := hI
  unfold et_en at h
  split at h
  · rename_i k a r
    split at h
    · rename_i lo hi hb
      split at h
      · rename_i hc
        obtain ⟨_, _, rfl, hv, _, r2, rfl, rfl, hr⟩ := hs
        have hv2 := hv
        obtain ⟨x, rfl, x1, x2⟩ := et_ib_ok hb hE hv
        exact et_enl_ok ⟨hH, hE, hC, hL, hr⟩ hv2 h1 h2 _ _ _ h x1 (by omega)
      · cases h
    · cases h
  · cases h
theorem et_s2_ok {ins : Instr} (h : et_s2 T M E C o ini pc ins L st ck sk = some l) (hI : et_I T K R E C L st G L2 st2) (h1 : c0 ≤ ck) (h2 : s0 ≤ sk) : ∃ Y ∈ l, et_J T M K R G (eg_st o ini eg_MC eg_MS pc len ins L2 st2 G c0 s0) Y := by
  cases ins with
  | getfield i => exact et_gf_ok h hI h1 h2
  | putfield i => exact et_pf_ok h hI h1 h2
  | iaload =>
    dsimp only [et_s2] at h
    split at h
    · rename_i l2 h3
      cases h
      exact et_al_ok h3 hI h1 h2
    · exact et_ci_ok h hI h1 h2
  | baload =>
    dsimp only [et_s2] at h
    split at h
    · rename_i l2 h3
      cases h
      exact et_al_ok h3 hI h1 h2
    · exact et_ci_ok h hI h1 h2
  | caload => exact et_al_ok h hI h1 h2
  | laload => exact et_al_ok h hI h1 h2
  | aaload =>
    dsimp only [et_s2] at h
    split at h
    · rename_i l2 h3
      cases h
      exact et_al_ok h3 hI h1 h2
    · exact et_en_ok h hI h1 h2
  | iastore => exact et_as1_ok h hI h1 h2
  | bastore => exact et_as1_ok h hI h1 h2
  | castore => exact et_as1_ok h hI h1 h2
  | lastore => exact et_as1_ok h hI h1 h2
  | aastore => exact et_as1_ok h hI h1 h2
  | _ => exact et_nw1_ok h hI h1 h2
end ETL
end
section
/-! ANY STEP -/
section ETM
variable {T : List et_D} {M : et_M} {K : et_K} {R : List Value} {E : List et_N} {C : et_C} {o idx pc len ck sk i c0 s0 : Nat} {ini : Bool} {L L2 : eg_Ls} {st st2 : List Value} {G : eg_G} {l : List et_Y}
set_option maxHeartbeats 4000000 in
theorem et_s1_ok {ins : Instr} (h : et_s1 E C pc ins L st ck sk = some l) (hp : et_pu ins = true) (hln : ∀ i n, ins = .iinc i n → len = 3) (hI : et_I T K R E C L st G L2 st2) (h1 : c0 ≤ ck) (h2 : s0 ≤ sk) : ∃ Y ∈ l, et_J T M K R G (eg_st o ini eg_MC eg_MS pc len ins L2 st2 G c0 s0) Y := by
  cases ins with
  | iload i => exact et_yl0_ok h hI h1 h2
  | iload_n i => exact et_yl0_ok h hI h1 h2
  | lload i => exact et_yl1_ok h hI h1 h2
  | lload_n i => exact et_yl1_ok h hI h1 h2
  | aload i => exact et_yl2_ok h hI h1 h2
  | aload_n i => exact et_yl2_ok h hI h1 h2
  | istore i => exact et_ys0_ok h hI h1 h2
  | istore_n i => exact et_ys0_ok h hI h1 h2
  | lstore i => exact et_ys1_ok h hI h1 h2
  | lstore_n i => exact et_ys1_ok h hI h1 h2
  | astore i => exact et_ys2_ok h hI h1 h2
  | astore_n i => exact et_ys2_ok h hI h1 h2
  | iinc i n =>
    have e := hln i n rfl
    subst e
    exact et_yi_ok h hI h1 h2
  | ineg =>
    dsimp only [et_s1] at h
    split at h
    · obtain ⟨hH, hE, hC, hL, _, r2, rfl, ⟨x, rfl, -⟩, hr⟩ := hI
      exact et_yu_ok h ⟨hH, hE, hC, hL, hr⟩ (et_any _).1 (et_any _).2 h1 h2
    · cases h
  | i2b =>
    dsimp only [et_s1] at h
    split at h
    · obtain ⟨hH, hE, hC, hL, _, r2, rfl, ⟨x, rfl, -⟩, hr⟩ := hI
      exact et_yu_ok h ⟨hH, hE, hC, hL, hr⟩ (et_any _).1 (et_any _).2 h1 h2
    · cases h
  | i2c =>
    dsimp only [et_s1] at h
    split at h
    · obtain ⟨hH, hE, hC, hL, _, r2, rfl, ⟨x, rfl, -⟩, hr⟩ := hI
      exact et_yu_ok h ⟨hH, hE, hC, hL, hr⟩ (et_any _).1 (et_any _).2 h1 h2
    · cases h
  | l2i =>
    dsimp only [et_s1] at h
    split at h
    · obtain ⟨hH, hE, hC, hL, _, r2, rfl, ⟨x, rfl, -⟩, hr⟩ := hI
      exact et_yu_ok h ⟨hH, hE, hC, hL, hr⟩ (et_any _).1 (et_any _).2 h1 h2
    · cases h
  | i2l =>
    dsimp only [et_s1] at h
    split at h
    · rename_i k r
      split at h
      · rename_i a b hb
        obtain ⟨hH, hE, hC, hL, _, r2, rfl, hv, hr⟩ := hI
        obtain ⟨x, rfl, x1, x2⟩ := et_ib_ok hb hE hv
        have e : x.toInt64.toInt = x.toInt := Int32.toInt_toInt64 x
        exact et_yw_ok h ⟨hH, hE, hC, hL, hr⟩ (by rw [e]; exact x1) (by rw [e]; exact x2) h1 h2
      · cases h
    · cases h
  | ldiv =>
    dsimp only [et_s1] at h
    split at h
    · rename_i v u r
      split at h
      · rename_i c d q hb1 hb2
        split at h
        · rename_i hc
          obtain ⟨hH, hE, hC, hL, _, _, rfl, hv, _, r2, rfl, hu, hr⟩ := hI
          obtain ⟨y, rfl, y1, y2⟩ := et_lb_ok hb1 hE hv
          obtain ⟨x, rfl, -⟩ := et_lb_ok (a := q.1) (b := q.2) hb2 hE hu
          dsimp only [eg_st]
          rw [if_neg (fun e => by
            have e0 : y.toInt = 0 := by rw [e]; rfl
            omega)]
          exact et_yw_ok h ⟨hH, hE, hC, hL, hr⟩ (et_anyL _).1 (et_anyL _).2 h1 h2
        · cases h
      · cases h
    · cases h
  | lcmp =>
    dsimp only [et_s1] at h
    split at h
    · rename_i v u r
      split at h
      · rename_i p q hb1 hb2
        obtain ⟨hH, hE, hC, hL, _, _, rfl, hv, _, r2, rfl, hu, hr⟩ := hI
        obtain ⟨y, rfl, -⟩ := et_lb_ok (a := p.1) (b := p.2) hb1 hE hv
        obtain ⟨x, rfl, -⟩ := et_lb_ok (a := q.1) (b := q.2) hb2 hE hu
        have e : -1 ≤ (lg_cmp x y).toInt ∧ (lg_cmp x y).toInt ≤ 1 := by
          unfold lg_cmp
          (repeat' split) <;> decide
        exact et_yu_ok h ⟨hH, hE, hC, hL, hr⟩ e.1 e.2 h1 h2
      · cases h
    · cases h
  | iadd => exact et_sb_ok rfl h hI h1 h2
  | isub => exact et_sb_ok rfl h hI h1 h2
  | imul => exact et_sb_ok rfl h hI h1 h2
  | iand => exact et_sb_ok rfl h hI h1 h2
  | ior => exact et_sb_ok rfl h hI h1 h2
  | ixor => exact et_sb_ok rfl h hI h1 h2
  | ishl => exact et_sb_ok rfl h hI h1 h2
  | ishr => exact et_sb_ok rfl h hI h1 h2
  | iushr => exact et_sb_ok rfl h hI h1 h2
  | idiv => exact et_sb_ok rfl h hI h1 h2
  | irem => exact et_sb_ok rfl h hI h1 h2
  | ladd =>
    dsimp only [et_s1, et_bf, et_lf] at h
    split at h
    · rename_i v u r hq
      split at h
      · rename_i p q hb1 hb2
        obtain ⟨hH, hE, hC, hL, _, _, rfl, hv, _, r2, rfl, hu, hr⟩ := hI
        obtain ⟨y, rfl, -⟩ := et_lb_ok (a := p.1) (b := p.2) hb1 hE hv
        obtain ⟨x, rfl, -⟩ := et_lb_ok (a := q.1) (b := q.2) hb2 hE hu
        exact et_yw_ok h ⟨hH, hE, hC, hL, hr⟩ (et_anyL _).1 (et_anyL _).2 h1 h2
      · cases h
    · dsimp only [et_lg, et_br] at h
      cases h
  | lsub =>
    dsimp only [et_s1, et_bf, et_lf] at h
    split at h
    · rename_i v u r hq
      split at h
      · rename_i p q hb1 hb2
        obtain ⟨hH, hE, hC, hL, _, _, rfl, hv, _, r2, rfl, hu, hr⟩ := hI
        obtain ⟨y, rfl, -⟩ := et_lb_ok (a := p.1) (b := p.2) hb1 hE hv
        obtain ⟨x, rfl, -⟩ := et_lb_ok (a := q.1) (b := q.2) hb2 hE hu
        exact et_yw_ok h ⟨hH, hE, hC, hL, hr⟩ (et_anyL _).1 (et_anyL _).2 h1 h2
      · cases h
    · dsimp only [et_lg, et_br] at h
      cases h
  | lmul =>
    dsimp only [et_s1, et_bf, et_lf] at h
    split at h
    · rename_i v u r hq
      split at h
      · rename_i p q hb1 hb2
        obtain ⟨hH, hE, hC, hL, _, _, rfl, hv, _, r2, rfl, hu, hr⟩ := hI
        obtain ⟨y, rfl, -⟩ := et_lb_ok (a := p.1) (b := p.2) hb1 hE hv
        obtain ⟨x, rfl, -⟩ := et_lb_ok (a := q.1) (b := q.2) hb2 hE hu
        exact et_yw_ok h ⟨hH, hE, hC, hL, hr⟩ (et_anyL _).1 (et_anyL _).2 h1 h2
      · cases h
    · dsimp only [et_lg, et_br] at h
      cases h
  | land =>
    dsimp only [et_s1, et_bf, et_lf] at h
    split at h
    · rename_i v u r hq
      split at h
      · rename_i p q hb1 hb2
        obtain ⟨hH, hE, hC, hL, _, _, rfl, hv, _, r2, rfl, hu, hr⟩ := hI
        obtain ⟨y, rfl, -⟩ := et_lb_ok (a := p.1) (b := p.2) hb1 hE hv
        obtain ⟨x, rfl, -⟩ := et_lb_ok (a := q.1) (b := q.2) hb2 hE hu
        exact et_yw_ok h ⟨hH, hE, hC, hL, hr⟩ (et_anyL _).1 (et_anyL _).2 h1 h2
      · cases h
    · dsimp only [et_lg, et_br] at h
      cases h
  | lor =>
    dsimp only [et_s1, et_bf, et_lf] at h
    split at h
    · rename_i v u r hq
      split at h
      · rename_i p q hb1 hb2
        obtain ⟨hH, hE, hC, hL, _, _, rfl, hv, _, r2, rfl, hu, hr⟩ := hI
        obtain ⟨y, rfl, -⟩ := et_lb_ok (a := p.1) (b := p.2) hb1 hE hv
        obtain ⟨x, rfl, -⟩ := et_lb_ok (a := q.1) (b := q.2) hb2 hE hu
        exact et_yw_ok h ⟨hH, hE, hC, hL, hr⟩ (et_anyL _).1 (et_anyL _).2 h1 h2
      · cases h
    · dsimp only [et_lg, et_br] at h
      cases h
  | lshl =>
    dsimp only [et_s1, et_bf, et_lf, et_lg] at h
    split at h
    · rename_i v u r hq
      split at h
      · rename_i p q hb1 hb2
        obtain ⟨hH, hE, hC, hL, _, _, rfl, hv, _, r2, rfl, hu, hr⟩ := hI
        obtain ⟨y, rfl, -⟩ := et_ib_ok (a := p.1) (b := p.2) hb1 hE hv
        obtain ⟨x, rfl, -⟩ := et_lb_ok (a := q.1) (b := q.2) hb2 hE hu
        exact et_yw_ok h ⟨hH, hE, hC, hL, hr⟩ (et_anyL _).1 (et_anyL _).2 h1 h2
      · cases h
    · dsimp only [et_br] at h
      cases h
  | lshr =>
    dsimp only [et_s1, et_bf, et_lf, et_lg] at h
    split at h
    · rename_i v u r hq
      split at h
      · rename_i p q hb1 hb2
        obtain ⟨hH, hE, hC, hL, _, _, rfl, hv, _, r2, rfl, hu, hr⟩ := hI
        obtain ⟨y, rfl, -⟩ := et_ib_ok (a := p.1) (b := p.2) hb1 hE hv
        obtain ⟨x, rfl, -⟩ := et_lb_ok (a := q.1) (b := q.2) hb2 hE hu
        exact et_yw_ok h ⟨hH, hE, hC, hL, hr⟩ (et_anyL _).1 (et_anyL _).2 h1 h2
      · cases h
    · dsimp only [et_br] at h
      cases h
  | lushr =>
    dsimp only [et_s1, et_bf, et_lf, et_lg] at h
    split at h
    · rename_i v u r hq
      split at h
      · rename_i p q hb1 hb2
        obtain ⟨hH, hE, hC, hL, _, _, rfl, hv, _, r2, rfl, hu, hr⟩ := hI
        obtain ⟨y, rfl, -⟩ := et_ib_ok (a := p.1) (b := p.2) hb1 hE hv
        obtain ⟨x, rfl, -⟩ := et_lb_ok (a := q.1) (b := q.2) hb2 hE hu
        exact et_yw_ok h ⟨hH, hE, hC, hL, hr⟩ (et_anyL _).1 (et_anyL _).2 h1 h2
      · cases h
    · dsimp only [et_br] at h
      cases h
  | ifCond c off => exact et_br_ok h hI h1 h2
  | if_icmp c off => exact et_br_ok h hI h1 h2
  | if_acmp c off => exact et_br_ok h hI h1 h2
  | ifnull off => exact et_br_ok h hI h1 h2
  | ifnonnull off => exact et_br_ok h hI h1 h2
  | tableswitch d lo hi offs => exact et_br_ok h hI h1 h2
  | lookupswitch d ps => exact et_br_ok h hI h1 h2
  | iconst n =>
    dsimp only [et_s1, et_bf, et_lf, et_lg, et_br] at h
    cases h
  | bipush n =>
    dsimp only [et_s1, et_bf, et_lf, et_lg, et_br] at h
    cases h
  | sipush n =>
    dsimp only [et_s1, et_bf, et_lf, et_lg, et_br] at h
    cases h
  | lconst n =>
    dsimp only [et_s1, et_bf, et_lf, et_lg, et_br] at h
    cases h
  | aconst_null =>
    dsimp only [et_s1, et_bf, et_lf, et_lg, et_br] at h
    cases h
  | ldc i =>
    dsimp only [et_s1, et_bf, et_lf, et_lg, et_br] at h
    cases h
  | ldc_w i =>
    dsimp only [et_s1, et_bf, et_lf, et_lg, et_br] at h
    cases h
  | ldc2_w i =>
    dsimp only [et_s1, et_bf, et_lf, et_lg, et_br] at h
    cases h
  | dup =>
    dsimp only [et_s1, et_bf, et_lf, et_lg, et_br] at h
    cases h
  | pop =>
    dsimp only [et_s1, et_bf, et_lf, et_lg, et_br] at h
    cases h
  | dup2 =>
    dsimp only [et_s1, et_bf, et_lf, et_lg, et_br] at h
    cases h
  | goto off =>
    dsimp only [et_s1, et_bf, et_lf, et_lg, et_br] at h
    cases h
  | getstatic i =>
    dsimp only [et_s1, et_bf, et_lf, et_lg, et_br] at h
    cases h
  | _ => cases hp
theorem et_step_ok {ins : Instr} (h : et_step T M E C o ini pc len ins L st ck sk = some l) (hln : ∀ i n, ins = .iinc i n → len = 3) (hI : et_I T K R E C L st G L2 st2) (h1 : c0 ≤ ck) (h2 : s0 ≤ sk) : ∃ Y ∈ l, et_J T M K R G (eg_st o ini eg_MC eg_MS pc len ins L2 st2 G c0 s0) Y := by
  unfold et_step at h
  split at h
  · rename_i hp
    split at h
    · rename_i S hS
      cases h
      obtain ⟨hH, hE, hC, hL, hs⟩ := hI
      obtain ⟨L3, st3, e, hL3, hs3⟩ := et_st (R := R) (H := G) (ck := c0) (sk := s0) hS hp hL hs
      rw [e]
      exact ⟨_, List.mem_cons_self, et_j0 ⟨hH, hE, hC, hL3, hs3⟩ h1 h2⟩
    · exact et_s1_ok h hp hln hI h1 h2
  · split at h
    · rename_i hc
      split at h
      · rename_i S hS
        cases h
        exact ⟨_, List.mem_cons_self, et_cs_ok hS hc hI h1 h2⟩
      · exact et_s2_ok h hI h1 h2
    · exact et_s2_ok h hI h1 h2
end ETM
end
section
/-! THE TYPED INTERPRETER: runs. An end: tokens, cache, what is answered, counters -/
abbrev et_R : Type := Option Value ⊕ Nat
abbrev et_O : Type := List et_N × et_C × et_R × Nat × Nat
/-- a loop's head: pc, how many tokens ahead of it, tokens, cache, locals, which places are new, which of these counts, counters -/
abbrev et_L : Type := Nat × Nat × List et_N × et_C × eg_Ls × List (Nat × et_P) × Nat × Nat × Nat
/-- what is said of a loop: places that are new and their specs, which of these counts (twice its number, and one if it counts down), what it may write, places that are forgotten -/
abbrev et_A : Type := List (Nat × et_P) × Nat × et_M × List Nat
def et_dl : eg_Ls → List Nat → eg_Ls
  | L, [] => L
  | L, i :: t => et_dl (L.set i none) t
abbrev et_Rec : Type := List et_L → Option Nat → List et_N → et_C → Nat → Nat → Nat → eg_Ls → List Value → Nat → Nat → Option (List et_O)
def et_tb (n : Nat) (v : Value) : Bool := match v with
  | .float k => decide (k.toNat < n)
  | .double k => decide (k.toNat < n)
  | .retAddr k => decide (k < n)
  | _ => true
def et_tbo (n : Nat) (v : Option Value) : Bool := match v with
  | some v => et_tb n v
  | none => true
/-- is it of the spec's kind -/
def et_kd (p : et_P) (v : Value) : Bool := match p, v with
  | .inl _, .int _ => true
  | .inl _, .float _ => true
  | .inr (.inl _), .long _ => true
  | .inr (.inl _), .double _ => true
  | .inr (.inr _), .null => true
  | .inr (.inr _), .ref _ => true
  | .inr (.inr _), .retAddr _ => true
  | _, _ => false
/-- at a head: the places' new tokens -/
def et_rp (E : List et_N) (L : eg_Ls) : List (Nat × et_P) → Option (List et_N × eg_Ls)
  | [] => some (E, L)
  | (i, p) :: t => if i < L.length then et_rp (E ++ [(p, none)]) (L.set i (some (et_tk p E.length))) t else none
/-- do the places fit -/
def et_fa (E : List et_N) (L : eg_Ls) (rs : List (Nat × et_P)) : Bool := rs.all (fun q => match L[q.1]? with
  | some (some v) => et_ft E q.2 v && et_kd q.2 v
  | _ => false)
def et_hc (h : et_L) (E : List et_N) (C : et_C) (L : eg_Ls) (ck sk : Nat) : Bool := match h with
  | (_, n0, _, hC, hL, rs, m, hk, hs) => (decide (L.length = hL.length) && ((List.range L.length).all (fun i => (rs.any (fun q => q.1 == i)) || (match hL[i]? with
      | some (some v) => decide (L[i]? = some (some v)) && et_tb n0 v
      | _ => true)))) && (et_fa E L rs && (hC.all (fun e => C.contains e && (decide (e.1 < n0) && et_tb n0 e.2.2)) && (decide (ck ≤ hk) && (decide (sk ≤ hs) && (match rs[m / 2]? with
      | some (i, _) => (match L[i]? with
        | some (some (.float k)) => (match E[k.toNat]? with
          | some (_, some (j, c)) => decide (j = n0 + m / 2) && (if m % 2 = 0 then decide (1 ≤ c) else decide (c ≤ -1))
          | _ => false)
        | _ => false)
      | _ => false)))))
def et_bd {α β : Type} (f : α → Option (List β)) : List α → Option (List β)
  | [] => some []
  | a :: t => match f a with
    | none => none
    | some l => match et_bd f t with
      | none => none
      | some m => some (l ++ m)
def et_rt (ins : Instr) : Bool := match ins with
  | .return_ | .ireturn | .lreturn | .areturn => true
  | _ => false
/-- what a method may answer -/
def et_rr (E : List et_N) (ins : Instr) (ret : Option FieldType) (st : List Value) : Option (Option Value) := match ins, ret, st with
  | .return_, none, [] => some none
  | .ireturn, some .int, [v] => (match et_ib E v with
    | some _ => some (some v)
    | none => none)
  | .ireturn, some .boolean, [v] => (match et_ib E v with
    | some (a, b) => if 0 ≤ a ∧ b ≤ 1 then some (some v) else none
    | none => none)
  | .lreturn, some .long, [v] => (match et_lb E v with
    | some _ => some (some v)
    | none => none)
  | .areturn, some (.object _), [v] => if et_kd (.inr (.inr (0, 0))) v = true then some (some v) else none
  | .areturn, some (.array _), [v] => if et_kd (.inr (.inr (0, 0))) v = true then some (some v) else none
  | _, _, _ => none
def et_bk (rec : et_Rec) (hd : List et_L) (scr : Option Nat) (d k pc : Nat) (L : eg_Ls) (r : List Value) (ck sk : Nat) (o : et_O) : Option (List et_O) := match o with
  | (E, C, .inl v, c, s) => rec hd scr E C d k (pc + 3) L (v.toList ++ r) (ck + c) (sk + s)
  | (E, C, .inr x, c, s) => (match eg_mh k with
    | none => some [(E, C, .inr x, ck + c, sk + s)]
    | some hh => match eg_hd (eg_mo k) pc x hh with
      | some h => (match eg_ca1 k h with
        | some (i, n) => if i < L.length then rec hd scr E C d k (h + n) (eg_sn L i) [] (ck + c) (sk + s) else none
        | none => none)
      | none => none)
/-- a contract: method, arguments' specs, what it may write, ends: answer's spec or exception, counters; how deep -/
abbrev et_Co : Type := Nat × List et_P × et_M × List ((Option et_P ⊕ Nat) × Nat × Nat) × Nat
def et_cE (E : List et_N) (C : et_C) (q : (Option et_P ⊕ Nat) × Nat × Nat) : et_O := match q with
  | (.inl (some p), c, s) => (E ++ [(p, none)], C, .inl (some (et_tk p E.length)), c, s)
  | (.inl none, c, s) => (E, C, .inl none, c, s)
  | (.inr x, c, s) => (E, C, .inr x, c, s)
def et_kpM (E : List et_N) (M : et_M) (C : et_C) : et_C := C.filter (fun e => (et_rb E (.retAddr e.1)).isSome && M.all (fun q => et_kp E q.1 q.2.1 q.2.2 e))
/-- are these places all among those -/
def et_ss (M N : et_M) : Bool := M.all (fun q => N.any (fun p => (p.1 == q.1) && (decide (p.2.1 ≤ q.2.1) && decide (q.2.2 ≤ p.2.2))))
def et_kc (M : et_M) (Ks : List et_Co) (E : List et_N) (C : et_C) (d' mi : Nat) (as : List Value) : Option (List et_O) := match Ks.find? (fun q => (q.1 == mi) && (decide (q.2.2.2.2 ≤ d') && (decide (as.length = q.2.1.length) && (as.zip q.2.1).all (fun z => et_ft E z.2 z.1 && et_kd z.2 z.1)))) with
  | some q => if et_ss q.2.2.1 M = true ∧ E.length < 4294967296 then some (q.2.2.2.1.map (et_cE E (et_kpM E q.2.2.1 C))) else none
  | none => none
def et_cl1 (M : et_M) (Ks : List et_Co) (rec : et_Rec) (hd : List et_L) (scr : Option Nat) (E : List et_N) (C : et_C) (d k pc mi : Nat) (as r : List Value) (L : eg_Ls) (ck sk : Nat) : Option (List et_O) :=
  if eg_cat r ≤ 8 ∧ L.length = eg_mL k ∧ (eg_en0 as).length ≤ eg_mL mi ∧ mi < 316 ∧ ¬ eg_mo mi = 20 then (match d with
    | 0 => none
    | d' + 1 => (match (match et_kc M Ks E C d' mi as with
        | some os => some os
        | none => rec [] none E C d' mi 0 (eg_en (eg_mL mi) as) [] 0 0) with
      | none => none
      | some os => et_bd (et_bk rec hd scr (d' + 1) k pc L r ck sk) os)) else none
/-- java.lang.Math -/
def et_mt (E : List et_N) (mi : Nat) (st : List Value) : Option (et_P × List Value) := match mi, st with
  | 309, x :: r => (match et_ib E x with
    | some (a, b) => some (.inl (if 0 ≤ a then (a, b) else (et_mn, et_mx)), r)
    | none => none)
  | 310, y :: x :: r => (match et_ib E x, et_ib E y with
    | some (a, b), some (c, d) => some (.inl (max a c, max b d), r)
    | _, _ => none)
  | 311, y :: x :: r => (match et_ib E x, et_ib E y with
    | some (a, b), some (c, d) => some (.inl (min a c, min b d), r)
    | _, _ => none)
  | 312, y :: x :: r => (match et_lb E x, et_lb E y with
    | some (a, b), some (c, d) => some (.inr (.inl (min a c, min b d)), r)
    | _, _ => none)
  | 313, y :: x :: r => (match et_lb E x, et_lb E y with
    | some (a, b), some (c, d) => some (.inr (.inl (max a c, max b d)), r)
    | _, _ => none)
  | _, _ => none
/-- the class of a token's object -/
def et_cc (T : List et_D) (E : List et_N) (b : Value) : Option Nat := match b with
  | .ref a => if a < 36 then some 12 else if a < 92 then some 13 else none
  | _ => (match et_rb E b with
    | some (nl, t) => if nl = 0 then (match T[t]? with
      | some (.inl (ci, _)) => some ci
      | _ => none) else none
    | none => none)
def et_iv (T : List et_D) (M : et_M) (Ks : List et_Co) (rec : et_Rec) (hd : List et_L) (scr : Option Nat) (E : List et_N) (C : et_C) (d k pc t i : Nat) (L : eg_Ls) (st : List Value) (ck sk : Nat) : Option (List et_O) :=
  match (eg_mT.getD (eg_mo k) []).lookup i with
  | none => none
  | some (mi, kd, _) => match t with
    | 0 => if kd = 0 ∧ 309 ≤ mi ∧ mi ≤ 313 then (match et_mt E mi st with
        | some (p, r) => if eg_cat r ≤ 8 ∧ L.length = eg_mL k ∧ E.length < 4294967296 then rec hd scr (E ++ [(p, none)]) C d k (pc + 3) L (et_tk p E.length :: r) ck sk else none
        | none => none)
      else if (kd = 0 ∨ kd = 3) ∧ eg_ma mi ≤ st.length then et_cl1 M Ks rec hd scr E C d k pc mi (st.take (eg_ma mi)).reverse (st.drop (eg_ma mi)) L ck sk else none
    | 1 => (match st.drop (eg_ma mi) with
      | b :: r => if (kd = 1 ∨ kd = 4 ∨ kd = 7) ∧ et_cc T E b = some (eg_oc kd mi) then et_cl1 M Ks rec hd scr E C d k pc mi (b :: (st.take (eg_ma mi)).reverse) r L ck sk else none
      | _ => none)
    | _ => if kd = 6 then (match st with
        | b :: r => if (et_cc T E b).isSome = true ∧ eg_cat r ≤ 8 ∧ L.length = eg_mL k then rec hd scr E C d k (pc + 3) L r ck sk else none
        | _ => none)
      else (match st.drop (eg_ma mi) with
        | b :: r => if (kd = 2 ∨ kd = 5) ∧ (et_cc T E b).isSome = true then et_cl1 M Ks rec hd scr E C d k pc mi (b :: (st.take (eg_ma mi)).reverse) r L ck sk else none
        | _ => none)
/-- is a token another one, or up to five more than it -/
def et_sj (E : List et_N) (j k : Nat) : Bool := decide (k = j) || (match E[k]? with
  | some (_, some (j', c)) => decide (j' = j) && (decide (0 ≤ c) && decide (c ≤ 5))
  | _ => false)
/-- the script: the token scr has a place for five more behind it -/
def et_sc (scr : Option Nat) (ins : Instr) (E : List et_N) (pc : Nat) (st : List Value) : Option (List Value) := match scr, ins, st with
  | some j, .iaload, .float k :: .ref a :: r => if a = 150 ∧ et_sj E j k.toNat = true then some r else none
  | _, _, _ => none
def et_ns (E : List et_N) (scr : Option Nat) (ins : Instr) (st : List Value) : Bool := match scr with
  | none => true
  | some _ => match ins with
    | .iaload => (match st with
      | _ :: v :: _ => et_cq E v
      | _ => false)
    | .arraylength => (match st with
      | v :: _ => et_cq E v
      | _ => false)
    | _ => true
def et_ln (ins : Instr) (len : Nat) : Bool := match ins with
  | .iinc _ _ => decide (len = 3)
  | _ => true
/-- one instruction, and on -/
def et_ins (T : List et_D) (M : et_M) (Ks : List et_Co) (rec : et_Rec) : et_Rec := fun hd scr E C d k pc L st ck sk =>
  match eg_cd k pc with
  | none => none
  | some (ins, len) => if et_rt ins = true then (match et_rr E ins (eg_mr k) st with
      | some v => some [(E, C, .inl v, ck, sk)]
      | none => none)
    else match et_sc scr ins E pc st with
      | some r => if E.length < 4294967296 then rec hd scr (E ++ [(.inl (et_mn, et_mx), none)]) C d k (pc + 1) L (.float (UInt32.ofNat E.length) :: r) ck sk else none
      | none => if et_ns E scr ins st = true then (match eg_th k pc ins with
        | some q => if eg_cat st ≤ 8 ∧ L.length = eg_mL k then some [(E, C, .inr q.2.2, ck + 1, sk + 6)] else none
        | none => match eg_ik ins with
          | some (t, i) => et_iv T M Ks rec hd scr E C d k pc t i L st ck sk
          | none => (match (if et_ln ins len = true then et_step T M E C (eg_mo k) (eg_in k) pc len ins L st ck sk else none) with
            | some l => et_bd (fun Y => rec hd scr Y.1 Y.2.1 d k Y.2.2.1 Y.2.2.2.1 Y.2.2.2.2.1 Y.2.2.2.2.2.1 Y.2.2.2.2.2.2) l
            | none => none)) else none
/-- the tokens, the value being each of n in turn -/
def et_spl (E : List et_N) (v : Value) : Nat → Int → List (List et_N)
  | 0, _ => []
  | n + 1, j => (match et_nw E v j j with
    | some F => [F]
    | none => []) ++ et_spl E v n (j + 1)
def et_one (T : List et_D) (M : et_M) (Ks : List et_Co) (an : Nat → Nat → Option et_A) (rec : et_Rec) : et_Rec := fun hd scr E C d k pc L st ck sk =>
  match hd.find? (fun h => h.1 == pc) with
  | some h => if st = [] ∧ et_hc h E C L ck sk = true then some [] else none
  | none => match an k pc with
    | some (rs, m, Ml, ds) => if 1000 ≤ m then (match L[m - 1000]? with
      | some (some v) => (match et_ib E v with
        | some (lo, hi) => et_bd (fun F => et_ins T M Ks rec hd scr F C d k pc L st ck sk) (et_spl E v (hi - lo + 1).toNat lo)
        | none => none)
      | _ => none)
      else (match et_rp E (et_dl L ds) rs with
      | some (F, L') => if st = [] ∧ et_fa E (et_dl L ds) rs = true ∧ F.length < 4294967296 then et_ins T M Ks rec ((pc, E.length, F, et_kpM E Ml C, L', rs, m, ck, sk) :: hd) scr F (et_kpM E Ml C) d k pc L' [] ck sk else none
      | none => none)
    | none => et_ins T M Ks rec hd scr E C d k pc L st ck sk
def et_rn (T : List et_D) (M : et_M) (Ks : List et_Co) (an : Nat → Nat → Option et_A) : Nat → et_Rec
  | 0 => fun _ _ _ _ _ _ _ _ _ _ _ => none
  | f + 1 => et_one T M Ks an (et_rn T M Ks an f)
end
section
/-! ONE INSTRUCTION, AND ON: it is right -/
abbrev et_Wd : Type := et_K × List Value × eg_G
def et_go (sc : eg_Sc) (d k pc : Nat) (L : eg_Ls) (st : List Value) (G : eg_G) (ck sk : Nat) (Z : eg_O → Prop) : Prop := ∃ o, (∃ g, ∀ r, g ≤ r → eg_rn r sc d k pc L st G ck sk = some o) ∧ Z o
def et_le (M : et_M) (w w' : et_Wd) : Prop := et_ex w.1 w'.1 ∧ (∃ R1, w'.2.1 = w.2.1 ++ R1) ∧ et_fr M w.1 w.2.2 w'.2.2
def et_rs (R : List Value) (v : et_R) (u : eg_R) : Prop := match v with
  | .inl none => u = .inl none
  | .inl (some v) => ∃ w, u = .inl (some w) ∧ et_vr R v w
  | .inr x => u = .inr x
def et_end (T : List et_D) (w : et_Wd) (o : et_O) (u : eg_O) : Prop := u.2.1 = w.2.2 ∧ et_H T w.1 w.2.2 ∧ et_eo w.1 w.2.1 o.1 ∧ et_co w.2.1 w.2.2 o.2.1 ∧ et_rs w.2.1 o.2.2.1 u.1 ∧ u.2.2.1 ≤ o.2.2.2.1 ∧ u.2.2.2 ≤ o.2.2.2.2
def et_ms (m : Nat) (x0 x1 : Int32) : Prop := if m % 2 = 0 then x0.toInt < x1.toInt else x1.toInt < x0.toInt
def et_hd (T : List et_D) (M : et_M) (sc : eg_Sc) (d k : Nat) (h : et_L) (w : et_Wd) (Z : eg_O → Prop) : Prop := match h with
  | (pc, n0, hE, hC, hL, rs, m, hk, hs) => n0 + rs.length ≤ w.2.1.length ∧ ∀ (K' : et_K) (G' : eg_G) (Rf : List Value) (L2 : eg_Ls) (c s : Nat), et_ex w.1 K' → et_fr M w.1 w.2.2 G' → et_H T K' G' → Rf.length = rs.length → et_co (w.2.1.take n0 ++ Rf) G' hC → L2.length = hL.length → (∀ (i : Nat) (v : Value), hL[i]? = some (some v) → (∃ q ∈ rs, q.1 = i) ∨ ∃ x, L2[i]? = some (some x) ∧ et_vr (w.2.1.take n0 ++ Rf) v x) → (∀ (j i : Nat) (p : et_P), rs[j]? = some (i, p) → ∃ v, Rf[j]? = some v ∧ et_v K' p v ∧ L2[i]? = some (some v)) → c ≤ hk → s ≤ hs →
    (∃ x0 x1 : Int32, w.2.1[n0 + m / 2]? = some (.int x0) ∧ Rf[m / 2]? = some (.int x1) ∧ et_ms m x0 x1) → et_go sc d k pc L2 [] G' c s Z
def et_so (scr : Option Nat) (sc : eg_Sc) (R : List Value) : Prop := match scr with
  | none => sc = none
  | some j => ∃ (n : Nat) (f : Nat → Int32) (x : Int32), sc = some (n, f) ∧ R[j]? = some (.int x) ∧ 0 ≤ x.toInt ∧ x.toInt + 6 ≤ n
def et_Ok (T : List et_D) (M : et_M) (rec : et_Rec) : Prop := ∀ (hd : List et_L) (scr : Option Nat) (E : List et_N) (C : et_C) (d k pc : Nat) (L : eg_Ls) (st : List Value) (ck sk : Nat) (os : List et_O), rec hd scr E C d k pc L st ck sk = some os → ∀ (sc : eg_Sc) (w : et_Wd) (L2 : eg_Ls) (st2 : List Value) (c0 s0 d2 : Nat) (Z : eg_O → Prop), et_I T w.1 w.2.1 E C L st w.2.2 L2 st2 → c0 ≤ ck → s0 ≤ sk → d ≤ d2 → et_so scr sc w.2.1 → (∀ h ∈ hd, et_hd T M sc d2 k h w Z) → (∀ o ∈ os, ∀ (w' : et_Wd) (u : eg_O), et_le M w w' → et_end T w' o u → Z u) → et_go sc d2 k pc L2 st2 w.2.2 c0 s0 Z
/-- a contract holds -/
def et_cv (T : List et_D) (q : et_Co) : Prop := match q with
  | (mi, ps, M, es, d) => ∀ (w : et_Wd) (as : List Value) (d2 : Nat), et_H T w.1 w.2.2 → d ≤ d2 → as.length = ps.length → (∀ (i : Nat) (p : et_P) (v : Value), ps[i]? = some p → as[i]? = some v → et_v w.1 p v) → et_go none d2 mi 0 (eg_en (eg_mL mi) as) [] w.2.2 0 0 (fun u => ∃ e ∈ es, ∃ K' : et_K, et_ex w.1 K' ∧ et_fr M w.1 w.2.2 u.2.1 ∧ et_H T K' u.2.1 ∧ (match e.1 with
    | .inl (some p) => ∃ v, u.1 = .inl (some v) ∧ et_v K' p v
    | .inl none => u.1 = .inl none
    | .inr x => u.1 = .inr x) ∧ u.2.2.1 ≤ e.2.1 ∧ u.2.2.2 ≤ e.2.2)
section ETN
variable {T : List et_D} {M : et_M} {Ks : List et_Co} {K : et_K} {R : List Value} {E : List et_N} {C : et_C} {L L2 : eg_Ls} {st st2 : List Value} {G : eg_G} {w w1 w2 : et_Wd} {Z : eg_O → Prop} {sc : eg_Sc} {scr : Option Nat} {rec : et_Rec}
theorem et_fr.tr {K K' : et_K} {G G1 G2 : eg_G} (h : et_fr M K G G1) (hx : et_ex K K') (h' : et_fr M K' G1 G2) : et_fr M K G G2 := ⟨Nat.le_trans h.1 h'.1, fun a t ha i hi => (h'.2 a t (hx a t ha) i hi).trans (h.2 a t ha i hi)⟩
theorem et_ex.tr {K K' K2 : et_K} (h : et_ex K K') (h' : et_ex K' K2) : et_ex K K2 := fun a t ha => h' a t (h a t ha)
theorem et_le.rf : et_le M w w := ⟨et_ex.rf, ⟨[], (List.append_nil _).symm⟩, et_fr.rf⟩
theorem et_le.tr (h : et_le M w w1) (h' : et_le M w1 w2) : et_le M w w2 := by
  obtain ⟨a1, ⟨R1, a2⟩, a3⟩ := h
  obtain ⟨b1, ⟨R2, b2⟩, b3⟩ := h'
  exact ⟨a1.tr b1, ⟨R1 ++ R2, by rw [b2, a2, List.append_assoc]⟩, a3.tr a1 b3⟩
theorem et_vr_app {v x : Value} : ∀ {R : List Value}, et_vr R v x → ∀ R1 : List Value, et_vr (R ++ R1) v x
  | _, h, [] => by rw [List.append_nil]; exact h
  | R, h, y :: t => by
    have h2 := et_vr_app (et_vr_mono (x := y) h) t
    rw [List.append_assoc] at h2
    exact h2
theorem et_sr_app1 {a c : List Value} : ∀ {R : List Value}, et_sr R a c → ∀ R1 : List Value, et_sr (R ++ R1) a c
  | _, h, [] => by rw [List.append_nil]; exact h
  | R, h, y :: t => by
    have h2 := et_sr_app1 (et_sr_mono (x := y) h) t
    rw [List.append_assoc] at h2
    exact h2
theorem et_lr_app1 {a c : eg_Ls} : ∀ {R : List Value}, et_lr R a c → ∀ R1 : List Value, et_lr (R ++ R1) a c
  | _, h, [] => by rw [List.append_nil]; exact h
  | R, h, y :: t => by
    have h2 := et_lr_app1 (et_lr_mono (x := y) h) t
    rw [List.append_assoc] at h2
    exact h2
theorem et_get_app {k : Nat} {x : Value} (h : R[k]? = some x) (R1 : List Value) : (R ++ R1)[k]? = some x := by
  rw [List.getElem?_append_left (List.getElem?_eq_some_iff.mp h).1]
  exact h
theorem et_so_app (h : et_so scr sc R) (R1 : List Value) : et_so scr sc (R ++ R1) := by
  cases scr with
  | none => exact h
  | some j =>
    obtain ⟨n, f, x, h1, h2, h3⟩ := h
    exact ⟨n, f, x, h1, et_get_app h2 R1, h3⟩
theorem et_hd_le {d k : Nat} {h : et_L} (hh : et_hd T M sc d k h w Z) (hl : et_le M w w1) : et_hd T M sc d k h w1 Z := by
  obtain ⟨pc, n0, hE, hC, hL, rs, m, hk, hs⟩ := h
  obtain ⟨a1, ⟨R1, a2⟩, a3⟩ := hl
  obtain ⟨b1, b2⟩ := hh
  refine ⟨by rw [a2, List.length_append]; omega, fun K' G' Rf L2 c s g1 g2 g3 g4 g5 g6 g7 g7b g8 g9 g10 => ?_⟩
  have e : w1.2.1.take n0 = w.2.1.take n0 := by rw [a2, List.take_append_of_le_length (by omega)]
  rw [e] at g5 g7
  refine b2 K' G' Rf L2 c s (a1.tr g1) (a3.tr a1 g2) g3 g4 g5 g6 g7 g7b g8 g9 ?_
  obtain ⟨x0, x1, q1, q2, q3⟩ := g10
  have hlt : n0 + m / 2 < w.2.1.length := by
    have := (List.getElem?_eq_some_iff.mp q2).1
    omega
  refine ⟨x0, x1, ?_, q2, q3⟩
  rw [a2, List.getElem?_append_left hlt] at q1
  exact q1
theorem et_goS {d k pc pc' ck sk ck' sk' : Nat} {L' : eg_Ls} {st' : List Value} {G' : eg_G} (e : ∀ r, eg_one (eg_rn r) sc d k pc L st G ck sk = eg_rn r sc d k pc' L' st' G' ck' sk') (h : et_go sc d k pc' L' st' G' ck' sk' Z) : et_go sc d k pc L st G ck sk Z := by
  obtain ⟨o, ⟨g, hg⟩, hZ⟩ := h
  refine ⟨o, ⟨g + 1, fun r hr => ?_⟩, hZ⟩
  cases r with
  | zero => exact absurd hr (by omega)
  | succ r =>
    show eg_one (eg_rn r) sc d k pc L st G ck sk = _
    rw [e r]
    exact hg r (by omega)
theorem et_goR {d k pc ck sk : Nat} {u : eg_O} (e : ∀ r, eg_one (eg_rn r) sc d k pc L st G ck sk = some u) (h : Z u) : et_go sc d k pc L st G ck sk Z := by
  refine ⟨u, ⟨1, fun r hr => ?_⟩, h⟩
  cases r with
  | zero => exact absurd hr (by omega)
  | succ r => exact e r
/-- a call -/
theorem et_goC {d d' k pc mi ck sk : Nat} {as2 r2 : List Value} (e : ∀ r, eg_one (eg_rn r) sc d k pc L st G ck sk = eg_bk (eg_rn r) sc d k pc L r2 ck sk (eg_rn r none d' mi 0 (eg_en (eg_mL mi) as2) [] G 0 0)) (h : et_go none d' mi 0 (eg_en (eg_mL mi) as2) [] G 0 0 (fun u => ∃ o, (∃ g, ∀ r, g ≤ r → eg_bk (eg_rn r) sc d k pc L r2 ck sk (some u) = some o) ∧ Z o)) : et_go sc d k pc L st G ck sk Z := by
  obtain ⟨u, ⟨g, hg⟩, o, ⟨g2, hg2⟩, hZ⟩ := h
  refine ⟨o, ⟨g + g2 + 1, fun r hr => ?_⟩, hZ⟩
  cases r with
  | zero => exact absurd hr (by omega)
  | succ r =>
    show eg_one (eg_rn r) sc d k pc L st G ck sk = _
    rw [e r, hg r (by omega)]
    exact hg2 r (by omega)
theorem et_bd_mem {α β : Type} {f : α → Option (List β)} : ∀ {l : List α} {m : List β}, et_bd f l = some m → ∀ {a : α}, a ∈ l → ∃ r, f a = some r ∧ ∀ x ∈ r, x ∈ m
  | [], _, _, _, h => (nomatch h)
  | b :: t, m, hb, a, ha => by
    unfold et_bd at hb
    split at hb
    · cases hb
    · rename_i l hl
      split at hb
      · cases hb
      · rename_i m2 hm
        cases hb
        rcases List.mem_cons.mp ha with rfl | ha
        · exact ⟨l, hl, fun x hx => List.mem_append_left _ hx⟩
        · obtain ⟨r, h1, h2⟩ := et_bd_mem hm ha
          exact ⟨r, h1, fun x hx => List.mem_append_right _ (h2 x hx)⟩
theorem et_rr_ok {ins : Instr} {ret : Option FieldType} {v : Option Value} (h : et_rr E ins ret st = some v) (hE : et_eo K R E) (hs : et_sr R st st2) : ∃ u, eg_rr ins ret st2 = some u ∧ et_rs R (.inl v) (.inl u) := by
  unfold et_rr at h
  split at h
  · cases h
    have e : st2 = [] := hs
    rw [e]
    exact ⟨none, rfl, rfl⟩
  · obtain ⟨x, r2, rfl, hv, e⟩ := hs
    have e : r2 = [] := e
    subst e
    split at h
    · rename_i p hb
      cases h
      have hv2 := hv
      obtain ⟨y, rfl, -⟩ := et_ib_ok (a := p.1) (b := p.2) hb hE hv
      refine ⟨some (.int y), ?_, _, rfl, hv2⟩
      show (if eg_nr .int y = true then some (some (Value.int y)) else none) = _
      rw [if_pos (show eg_nr .int y = true from decide_eq_true rfl)]
    · cases h
  · obtain ⟨x, r2, rfl, hv, e⟩ := hs
    have e : r2 = [] := e
    subst e
    split at h
    · rename_i a b hb
      split at h
      · rename_i hc
        cases h
        have hv2 := hv
        obtain ⟨y, rfl, y1, y2⟩ := et_ib_ok hb hE hv
        refine ⟨some (.int y), ?_, _, rfl, hv2⟩
        show (if eg_nr .boolean y = true then some (some (Value.int y)) else none) = _
        have h3 : y.toInt = 0 ∨ y.toInt = 1 := by omega
        have h4 : y = 0 ∨ y = 1 := by
          rcases h3 with h3 | h3
          · exact .inl (Int32.toInt_inj.mp h3)
          · exact .inr (Int32.toInt_inj.mp h3)
        have h5 : eg_nr .boolean y = true := by
          rcases h4 with rfl | rfl <;> decide +kernel
        rw [if_pos h5]
      · cases h
    · cases h
  · obtain ⟨x, r2, rfl, hv, e⟩ := hs
    have e : r2 = [] := e
    subst e
    split at h
    · rename_i p hb
      cases h
      have hv2 := hv
      obtain ⟨y, rfl, -⟩ := et_lb_ok (a := p.1) (b := p.2) hb hE hv
      exact ⟨some (.long y), rfl, _, rfl, hv2⟩
    · cases h
  · obtain ⟨x, r2, rfl, hv, e⟩ := hs
    have e : r2 = [] := e
    subst e
    split at h
    · rename_i v hk
      cases h
      have hv2 := hv
      have hx : x = .null ∨ ∃ a, x = .ref a := by
        cases v <;> first | (cases hk; done) | exact .inl hv | exact .inr ⟨_, hv⟩ | exact hv.1
      rcases hx with rfl | ⟨a, rfl⟩
      · exact ⟨_, rfl, _, rfl, hv2⟩
      · exact ⟨_, rfl, _, rfl, hv2⟩
    · cases h
  · obtain ⟨x, r2, rfl, hv, e⟩ := hs
    have e : r2 = [] := e
    subst e
    split at h
    · rename_i v hk
      cases h
      have hv2 := hv
      have hx : x = .null ∨ ∃ a, x = .ref a := by
        cases v <;> first | (cases hk; done) | exact .inl hv | exact .inr ⟨_, hv⟩ | exact hv.1
      rcases hx with rfl | ⟨a, rfl⟩
      · exact ⟨_, rfl, _, rfl, hv2⟩
      · exact ⟨_, rfl, _, rfl, hv2⟩
    · cases h
  · cases h
theorem et_rr_no {ins : Instr} {ret : Option FieldType} {st : List Value} (h : ¬ et_rt ins = true) : eg_rr ins ret st = none := by
  cases ins <;> first | exact absurd rfl h | rfl
theorem et_ca_n {v : Value} (h : eg_ca v = true) : ¬ v = .ref 150 := fun e => by
  rw [e] at h
  exact absurd h (by decide)
theorem et_ns_ok {ins : Instr} {pc ck sk : Nat} (h : et_ns E scr ins st = true) (hso : et_so scr sc R) (hH : et_H T K G) (hE : et_eo K R E) (hs : et_sr R st st2) : eg_sc sc ins pc L2 st2 G ck sk = none := by
  cases scr with
  | none =>
    have e : sc = none := hso
    rw [e]
    rfl
  | some j =>
    obtain ⟨n, f, x, e, -⟩ := hso
    subst e
    unfold et_ns at h
    dsimp only at h
    split at h
    · split at h
      · rename_i u v r
        obtain ⟨u2, _, rfl, hu, v2, r2, rfl, hv, hr⟩ := hs
        have h9 := et_ca_n (et_cq_ok h hH hE hv)
        unfold eg_sc
        split
        · rename_i hi heq
          cases heq
          rw [if_neg (fun h => h9 (by rw [h.1]))]
        · rename_i heq _
          cases heq
        · rfl
      · cases h
    · split at h
      · rename_i v r
        obtain ⟨v2, r2, rfl, hv, hr⟩ := hs
        have h9 := et_ca_n (et_cq_ok h hH hE hv)
        unfold eg_sc
        split
        · rename_i heq _
          cases heq
        · rename_i heq
          cases heq
          rw [if_neg (fun h => h9 (by rw [h]))]
        · rfl
      · cases h
    · rename_i h1 h2
      unfold eg_sc
      split
      · exact absurd rfl h1
      · exact absurd rfl h2
      · rfl
end ETN
end
section
/-! CALLS -/
section ETO
variable {T : List et_D} {M : et_M} {Ks : List et_Co} {K : et_K} {R : List Value} {E : List et_N} {C : et_C} {L L2 : eg_Ls} {st st2 : List Value} {G : eg_G} {w w1 w2 : et_Wd} {Z : eg_O → Prop} {sc : eg_Sc} {scr : Option Nat} {rec : et_Rec} {hd : List et_L} {os : List et_O} {d k pc ck sk c0 s0 d2 : Nat}
theorem et_bk_ok (hr : et_Ok T M rec) {r r2 : List Value} {o : et_O} (h : et_bk rec hd scr d k pc L r ck sk o = some os) (hL : et_lr w.2.1 L L2) (hq : et_sr w.2.1 r r2) (h1 : c0 ≤ ck) (h2 : s0 ≤ sk) (hd2 : d ≤ d2) (hso : et_so scr sc w.2.1) (hh : ∀ h ∈ hd, et_hd T M sc d2 k h w Z) (hZ : ∀ o ∈ os, ∀ (w' : et_Wd) (u : eg_O), et_le M w w' → et_end T w' o u → Z u) {u : eg_O} (hl : et_le M w w1) (he : et_end T w1 o u) : ∃ o', (∃ g, ∀ q, g ≤ q → eg_bk (eg_rn q) sc d2 k pc L2 r2 c0 s0 (some u) = some o') ∧ Z o' := by
  obtain ⟨E', C', v, c, s⟩ := o
  obtain ⟨u1, G1, uc, us⟩ := u
  obtain ⟨e1, e2, e3, e4, e5, e6, e7⟩ := he
  dsimp only at e1 e3 e4 e5 e6 e7
  subst e1
  have hl2 := hl
  obtain ⟨a1, ⟨R1, a2⟩, a3⟩ := hl
  have hL1 : et_lr w1.2.1 L L2 := by rw [a2]; exact et_lr_app1 hL R1
  have hq1 : et_sr w1.2.1 r r2 := by rw [a2]; exact et_sr_app1 hq R1
  have hso1 : et_so scr sc w1.2.1 := by rw [a2]; exact et_so_app hso R1
  have hh1 : ∀ h ∈ hd, et_hd T M sc d2 k h w1 Z := fun h hm => et_hd_le (hh h hm) hl2
  cases v with
  | inl v =>
    dsimp only [et_bk] at h
    have key : ∀ v2 : Option Value, u1 = .inl v2 → et_sr w1.2.1 (v.toList ++ r) (v2.toList ++ r2) → ∃ o', (∃ g, ∀ q, g ≤ q → eg_bk (eg_rn q) sc d2 k pc L2 r2 c0 s0 (some (u1, w1.2.2, uc, us)) = some o') ∧ Z o' := fun v2 ev hs => by
      subst ev
      exact hr _ _ _ _ _ _ _ _ _ _ _ _ h sc w1 L2 _ (c0 + uc) (s0 + us) d2 Z ⟨e2, e3, e4, hL1, hs⟩ (Nat.add_le_add h1 e6) (Nat.add_le_add h2 e7) hd2 hso1 hh1 (fun o ho w' u' hle hen => hZ o ho w' u' (hl2.tr hle) hen)
    cases v with
    | none => exact key none e5 hq1
    | some v =>
      obtain ⟨x, e8, e9⟩ := e5
      exact key (some x) e8 ⟨_, _, rfl, e9, hq1⟩
  | inr x =>
    dsimp only [et_bk] at h
    have e5 : u1 = .inr x := e5
    subst e5
    split at h
    · rename_i hmh
      cases h
      refine ⟨(.inr x, w1.2.2, c0 + uc, s0 + us), ⟨0, fun q _ => ?_⟩, hZ _ List.mem_cons_self w1 _ hl2 ⟨rfl, e2, e3, e4, rfl, Nat.add_le_add h1 e6, Nat.add_le_add h2 e7⟩⟩
      unfold eg_bk
      dsimp only
      rw [hmh]
    · rename_i hh0 hmh
      split at h
      · rename_i hdl hhd
        split at h
        · rename_i i n hca
          split at h
          · rename_i hi
            obtain ⟨o', ⟨g, hg⟩, hZ'⟩ := hr _ _ _ _ _ _ _ _ _ _ _ _ h sc w1 (eg_sn L2 i) [] (c0 + uc) (s0 + us) d2 Z ⟨e2, e3, e4, et_lr_sn i hL1, rfl⟩ (Nat.add_le_add h1 e6) (Nat.add_le_add h2 e7) hd2 hso1 hh1 (fun o ho w' u' hle hen => hZ o ho w' u' (hl2.tr hle) hen)
            refine ⟨o', ⟨g, fun q hq => ?_⟩, hZ'⟩
            unfold eg_bk
            dsimp only
            rw [hmh]
            dsimp only
            rw [hhd]
            dsimp only
            rw [hca]
            dsimp only
            rw [if_pos (by rw [et_lr_len hL]; exact hi)]
            exact hg q hq
          · cases h
        · cases h
      · cases h
theorem et_co_ex {M' : et_M} {G' : eg_G} {K : et_K} (hH : et_H T K G) (hE : et_eo K R E) (hC : et_co R G C) (hf : et_fr M' K G G') : et_co R G' (et_kpM E M' C) := fun e he => by
  obtain ⟨he, hk⟩ := List.mem_filter.mp he
  rw [Bool.and_eq_true] at hk
  obtain ⟨a, x, q1, q0, q2, q3⟩ := hC e he
  refine ⟨a, x, q1, Nat.lt_of_lt_of_le q0 hf.1, ?_, q3⟩
  cases hb : et_rb E (.retAddr e.1) with
  | none => rw [hb] at hk; exact absurd hk.1 (by decide)
  | some p =>
    obtain ⟨nl, u⟩ := p
    have hv : et_vr R (.retAddr e.1) (.ref a) := ⟨.inr ⟨a, rfl⟩, q1⟩
    rcases et_rb_ok hb hE hv with ⟨-, h⟩ | ⟨-, a2, h, h3⟩
    · cases h
    · cases h
      rw [hf.2 a u h3]
      · exact q2
      · cases hm : et_mm M' u e.2.1 with
        | false => rfl
        | true =>
          exfalso
          obtain ⟨q, hq, hq2⟩ := List.any_eq_true.mp hm
          rw [Bool.and_eq_true, Bool.and_eq_true] at hq2
          have g0 : q.1 = u := eq_of_beq hq2.1
          have g1 := of_decide_eq_true hq2.2.1
          have g2 := of_decide_eq_true hq2.2.2
          have hkq := List.all_eq_true.mp hk.2 q hq
          unfold et_kp at hkq
          rw [hb] at hkq
          dsimp only at hkq
          rw [Bool.or_eq_true, Bool.or_eq_true] at hkq
          rcases hkq with h | h | h
          · simp [g0] at h
          · have := of_decide_eq_true h
            omega
          · have := of_decide_eq_true h
            omega
theorem et_ss_ok {M' : et_M} {G' : eg_G} {K : et_K} (hs : et_ss M' M = true) (h : et_fr M' K G G') : et_fr M K G G' := ⟨h.1, fun a t ha i hi => h.2 a t ha i (by
  cases hm : et_mm M' t i with
  | false => rfl
  | true =>
    exfalso
    obtain ⟨q, hq, hq2⟩ := List.any_eq_true.mp hm
    rw [Bool.and_eq_true, Bool.and_eq_true] at hq2
    have g0 : q.1 = t := eq_of_beq hq2.1
    have g1 := of_decide_eq_true hq2.2.1
    have g2 := of_decide_eq_true hq2.2.2
    obtain ⟨p, hp, hp2⟩ := List.any_eq_true.mp (List.all_eq_true.mp hs q hq)
    rw [Bool.and_eq_true, Bool.and_eq_true] at hp2
    have g3 : p.1 = q.1 := eq_of_beq hp2.1
    have g4 := of_decide_eq_true hp2.2.1
    have g5 := of_decide_eq_true hp2.2.2
    have : et_mm M t i = true := List.any_eq_true.mpr ⟨p, hp, by
      rw [Bool.and_eq_true, Bool.and_eq_true]
      exact ⟨beq_iff_eq.mpr (g3.trans g0), decide_eq_true (by omega), decide_eq_true (by omega)⟩⟩
    rw [this] at hi
    cases hi)⟩
theorem et_fz {ps : List et_P} : ∀ {as as2 : List Value}, et_sr R as as2 → as.length = ps.length → ((as.zip ps).all (fun z => et_ft E z.2 z.1 && et_kd z.2 z.1)) = true → et_eo K R E → (∀ a, a < 36 → K a = some 0) → ∀ (i : Nat) (p : et_P) (v : Value), ps[i]? = some p → as2[i]? = some v → et_v K p v := by
  induction ps with
  | nil => intro as as2 _ _ _ _ _ i p v h; cases h
  | cons p0 t ih =>
    intro as as2 hs hl ha hE hW i p v hi hv
    cases as with
    | nil => cases hl
    | cons a0 s =>
      obtain ⟨x, r, rfl, hx, hr⟩ := hs
      rw [List.zip_cons_cons, List.all_cons, Bool.and_eq_true, Bool.and_eq_true] at ha
      cases i with
      | zero =>
        cases hi
        cases hv
        exact et_ft_ok ha.1.1 hE hW hx
      | succ i => exact ih hr (Nat.succ.inj hl) ha.2 hE hW i p v hi hv
/-- a call by a contract -/
theorem et_kc_ok {mi : Nat} {as as2 : List Value} (h : et_kc M Ks E C d mi as = some os) (hK : ∀ q ∈ Ks, et_cv T q) (hH : et_H T w.1 w.2.2) (hE : et_eo w.1 w.2.1 E) (hC : et_co w.2.1 w.2.2 C) (ha : et_sr w.2.1 as as2) (hd2 : d ≤ d2) : et_go none d2 mi 0 (eg_en (eg_mL mi) as2) [] w.2.2 0 0 (fun u => ∃ o ∈ os, ∃ w', et_le M w w' ∧ et_end T w' o u) := by
  unfold et_kc at h
  split at h
  · rename_i q hq
    split at h
    · rename_i hc
      cases h
      have hq1 := List.find?_some hq
      have hq2 := hK q (List.mem_of_find?_eq_some hq)
      rw [Bool.and_eq_true, Bool.and_eq_true, Bool.and_eq_true] at hq1
      obtain ⟨b1, b2, b3, b4⟩ := hq1
      obtain ⟨m0, ps, Mq, es, dq⟩ := q
      have b1 : m0 = mi := eq_of_beq b1
      subst b1
      have b2 := of_decide_eq_true b2
      have b3 := of_decide_eq_true b3
      dsimp only at b2 b3 b4 hc
      obtain ⟨u, hu, e, he, K', g1, g2, g3, g4, g5, g6⟩ := hq2 w as2 d2 hH (Nat.le_trans b2 hd2) (by rw [et_sr_len ha]; exact b3) (et_fz ha b3 b4 hE hH.2.1)
      refine ⟨u, hu, et_cE E (et_kpM E Mq C) e, List.mem_map.mpr ⟨e, he, rfl⟩, ?_⟩
      have hco := et_co_ex hH hE hC g2
      obtain ⟨res, c, s⟩ := e
      have hE2 := et_eo_ex g1 hE
      cases res with
      | inl po =>
        cases po with
        | some p =>
          obtain ⟨v, e1, e2⟩ := g4
          exact ⟨(K', w.2.1 ++ [v], u.2.1), ⟨g1, ⟨[v], rfl⟩, et_ss_ok hc.1 g2⟩, rfl, g3, et_eo_mono hE2 e2, et_co_mono hco, ⟨v, e1, et_tk_ok e2 hE.1 hc.2⟩, g5, g6⟩
        | none => exact ⟨(K', w.2.1, u.2.1), ⟨g1, ⟨[], (List.append_nil _).symm⟩, et_ss_ok hc.1 g2⟩, rfl, g3, hE2, hco, g4, g5, g6⟩
      | inr x => exact ⟨(K', w.2.1, u.2.1), ⟨g1, ⟨[], (List.append_nil _).symm⟩, et_ss_ok hc.1 g2⟩, rfl, g3, hE2, hco, g4, g5, g6⟩
    · cases h
  · cases h
theorem et_cl1_ok (hr : et_Ok T M rec) (hK : ∀ q ∈ Ks, et_cv T q) {mi : Nat} {as as2 r r2 : List Value} (h : et_cl1 M Ks rec hd scr E C d k pc mi as r L ck sk = some os) (hH : et_H T w.1 w.2.2) (hE : et_eo w.1 w.2.1 E) (hC : et_co w.2.1 w.2.2 C) (hL : et_lr w.2.1 L L2) (ha : et_sr w.2.1 as as2) (hq : et_sr w.2.1 r r2) (h1 : c0 ≤ ck) (h2 : s0 ≤ sk) (hd2 : d ≤ d2) (hso : et_so scr sc w.2.1) (hh : ∀ h ∈ hd, et_hd T M sc d2 k h w Z) (hZ : ∀ o ∈ os, ∀ (w' : et_Wd) (u : eg_O), et_le M w w' → et_end T w' o u → Z u)
    (e : ∀ q, eg_one (eg_rn q) sc d2 k pc L2 st2 w.2.2 c0 s0 = eg_cl1 (eg_rn q) sc d2 k pc mi as2 r2 L2 w.2.2 c0 s0) : et_go sc d2 k pc L2 st2 w.2.2 c0 s0 Z := by
  unfold et_cl1 at h
  split at h
  · rename_i hc
    cases d with
    | zero => cases h
    | succ d =>
      obtain ⟨d2, rfl⟩ : ∃ d', d2 = d' + 1 := ⟨d2 - 1, by omega⟩
      dsimp only at h
      have key : ∀ os1, et_bd (et_bk rec hd scr (d + 1) k pc L r ck sk) os1 = some os → et_go none d2 mi 0 (eg_en (eg_mL mi) as2) [] w.2.2 0 0 (fun u => ∃ o ∈ os1, ∃ w', et_le M w w' ∧ et_end T w' o u) → et_go sc (d2 + 1) k pc L2 st2 w.2.2 c0 s0 Z := fun os1 hb hg => by
        refine et_goC (d' := d2) (mi := mi) (as2 := as2) (r2 := r2) (fun q => ?_) ?_
        · rw [e q]
          unfold eg_cl1
          rw [if_pos ⟨by rw [et_sr_cat hq]; exact hc.1, by rw [et_lr_len hL]; exact hc.2.1, by rw [et_lr_len (et_lr_en0 ha)]; exact hc.2.2.1, hc.2.2.2.1, hc.2.2.2.2⟩]
        · obtain ⟨u, hu, o, ho, w1, hl, hen⟩ := hg
          obtain ⟨os2, g1, g2⟩ := et_bd_mem hb ho
          exact ⟨u, hu, et_bk_ok hr g1 hL hq h1 h2 hd2 hso hh (fun o' ho' => hZ o' (g2 o' ho')) hl hen⟩
      split at h
      · cases h
      · rename_i os1 hm
        refine key os1 h ?_
        split at hm
        · rename_i os3 hkc
          cases hm
          exact et_kc_ok hkc hK hH hE hC ha (Nat.le_of_succ_le_succ hd2)
        · exact hr _ _ _ _ _ _ _ _ _ _ _ _ hm none w _ [] 0 0 d2 _ ⟨hH, hE, hC, et_lr_en (eg_mL mi) ha, rfl⟩ (Nat.le_refl _) (Nat.le_refl _) (Nat.le_of_succ_le_succ hd2) rfl (fun _ hm => absurd hm (List.not_mem_nil)) (fun o ho w' u hl hen => ⟨o, ho, w', hl, hen⟩)
  · cases h
theorem et_mt_ok {mi : Nat} {p : et_P} {r : List Value} (h : et_mt E mi st = some (p, r)) (hE : et_eo K R E) (hs : et_sr R st st2) : ∃ v r2, eg_mt mi st2 = some (v, r2) ∧ et_sr R r r2 ∧ et_v K p v := by
  unfold et_mt at h
  split at h
  · split at h
    · rename_i a b hb
      cases h
      obtain ⟨_, r2, rfl, hv, hr⟩ := hs
      obtain ⟨x, rfl, x1, x2⟩ := et_ib_ok hb hE hv
      refine ⟨_, r2, rfl, hr, ?_⟩
      split
      · rename_i h0
        have h3 : (0 : Int32) ≤ x := Int32.le_iff_toInt_le.mpr (show (0 : Int32).toInt ≤ x.toInt by have : (0 : Int32).toInt = 0 := rfl; omega)
        rw [if_pos h3]
        exact ⟨x, rfl, x1, x2⟩
      · exact ⟨_, rfl, et_any _⟩
    · cases h
  · split at h
    · rename_i a b c d hb1 hb2
      cases h
      obtain ⟨_, _, rfl, hv, _, r2, rfl, hu, hr⟩ := hs
      obtain ⟨x, rfl, x1, x2⟩ := et_ib_ok hb1 hE hu
      obtain ⟨y, rfl, y1, y2⟩ := et_ib_ok hb2 hE hv
      refine ⟨_, r2, rfl, hr, ?_⟩
      split
      · rename_i h0
        have := Int32.lt_iff_toInt_lt.mp h0
        exact ⟨y, rfl, by omega, by omega⟩
      · rename_i h0
        have : ¬ x.toInt < y.toInt := fun h => h0 (Int32.lt_iff_toInt_lt.mpr h)
        exact ⟨x, rfl, by omega, by omega⟩
    · cases h
  · split at h
    · rename_i a b c d hb1 hb2
      cases h
      obtain ⟨_, _, rfl, hv, _, r2, rfl, hu, hr⟩ := hs
      obtain ⟨x, rfl, x1, x2⟩ := et_ib_ok hb1 hE hu
      obtain ⟨y, rfl, y1, y2⟩ := et_ib_ok hb2 hE hv
      refine ⟨_, r2, rfl, hr, ?_⟩
      split
      · rename_i h0
        have := Int32.lt_iff_toInt_lt.mp h0
        exact ⟨y, rfl, by omega, by omega⟩
      · rename_i h0
        have : ¬ y.toInt < x.toInt := fun h => h0 (Int32.lt_iff_toInt_lt.mpr h)
        exact ⟨x, rfl, by omega, by omega⟩
    · cases h
  · split at h
    · rename_i a b c d hb1 hb2
      cases h
      obtain ⟨_, _, rfl, hv, _, r2, rfl, hu, hr⟩ := hs
      obtain ⟨x, rfl, x1, x2⟩ := et_lb_ok hb1 hE hu
      obtain ⟨y, rfl, y1, y2⟩ := et_lb_ok hb2 hE hv
      refine ⟨_, r2, rfl, hr, ?_⟩
      split
      · rename_i h0
        have := Int64.lt_iff_toInt_lt.mp h0
        exact ⟨y, rfl, by omega, by omega⟩
      · rename_i h0
        have : ¬ y.toInt < x.toInt := fun h => h0 (Int64.lt_iff_toInt_lt.mpr h)
        exact ⟨x, rfl, by omega, by omega⟩
    · cases h
  · split at h
    · rename_i a b c d hb1 hb2
      cases h
      obtain ⟨_, _, rfl, hv, _, r2, rfl, hu, hr⟩ := hs
      obtain ⟨x, rfl, x1, x2⟩ := et_lb_ok hb1 hE hu
      obtain ⟨y, rfl, y1, y2⟩ := et_lb_ok hb2 hE hv
      refine ⟨_, r2, rfl, hr, ?_⟩
      split
      · rename_i h0
        have := Int64.lt_iff_toInt_lt.mp h0
        exact ⟨x, rfl, by omega, by omega⟩
      · rename_i h0
        have : ¬ y.toInt < x.toInt := fun h => h0 (Int64.lt_iff_toInt_lt.mpr h)
        exact ⟨y, rfl, by omega, by omega⟩
    · cases h
  · cases h
theorem et_cc_ok {b x : Value} {ci : Nat} (h : et_cc T E b = some ci) (hH : et_H T K G) (hE : et_eo K R E) (hv : et_vr R b x) : ∃ a, x = .ref a ∧ a < G.2 ∧ eg_is (eg_at G a) ci = true := by
  unfold et_cc at h
  split at h
  · rename_i a
    have e : x = .ref a := hv
    split at h
    · rename_i ha
      cases h
      refine ⟨a, e, Nat.lt_of_lt_of_le (Nat.lt_of_lt_of_le ha (by decide)) hH.1, ?_⟩
      have h5 : eg_at G a = eg_con a := if_pos (Nat.lt_of_lt_of_le ha (by decide))
      rw [h5]
      unfold eg_con
      rw [if_pos ha]
      rfl
    · rename_i ha0
      split at h
      · rename_i ha
        cases h
        refine ⟨a, e, Nat.lt_of_lt_of_le (Nat.lt_of_lt_of_le ha (by decide)) hH.1, ?_⟩
        have h5 : eg_at G a = eg_con a := if_pos (Nat.lt_of_lt_of_le ha (by decide))
        rw [h5]
        unfold eg_con
        rw [if_neg ha0, if_pos (show a < 36 + eg_NS from ha)]
        rfl
      · cases h
  · split at h
    · rename_i nl t hb
      split at h
      · rename_i hn
        subst hn
        split at h
        · rename_i cj ps hT
          cases h
          rcases et_rb_ok hb hE hv with ⟨q, -⟩ | ⟨-, a, e, ha⟩
          · exact absurd q (by decide)
          · obtain ⟨g1, -, -, d, hd, hcell, hcx⟩ := hH.2.2 a t ha
            rw [hT] at hd
            cases hd
            obtain ⟨fs, e2, -⟩ := hcell
            refine ⟨a, e, g1, ?_⟩
            rw [e2]
            exact beq_self_eq_true _
        · cases h
      · cases h
    · cases h
end ETO
end
section
/-! ONE INSTRUCTION, AND ON -/
section ETP
variable {T : List et_D} {M : et_M} {Ks : List et_Co} {K : et_K} {R : List Value} {E : List et_N} {C : et_C} {L L2 : eg_Ls} {st st2 : List Value} {G : eg_G} {w w1 w2 : et_Wd} {Z : eg_O → Prop} {sc : eg_Sc} {scr : Option Nat} {rec : et_Rec} {hd : List et_L} {os : List et_O} {d k pc ck sk c0 s0 d2 : Nat}
section ETV
variable {rc : eg_Rec} {i mi kd : Nat} {x : Option String}
theorem et_v0 (hlk : (eg_mT.getD (eg_mo k) []).lookup i = some (mi, kd, x)) : eg_iv rc sc d k pc 0 i L st G ck sk = (if kd = 0 ∧ 309 ≤ mi ∧ mi ≤ 313 then (match eg_mt mi st with
        | some (v, r) => if eg_cat r ≤ 8 ∧ L.length = eg_mL k then rc sc d k (pc + 3) L (v :: r) G ck sk else none
        | none => none)
      else if (kd = 0 ∨ kd = 3) ∧ eg_ma mi ≤ st.length then eg_cl1 rc sc d k pc mi (st.take (eg_ma mi)).reverse (st.drop (eg_ma mi)) L G ck sk else none) := by
  unfold eg_iv
  rw [hlk]
  first | rfl | done
theorem et_v1 (hlk : (eg_mT.getD (eg_mo k) []).lookup i = some (mi, kd, x)) : eg_iv rc sc d k pc 1 i L st G ck sk = (match st.drop (eg_ma mi) with
      | .ref b :: r => if (kd = 1 ∨ kd = 4 ∨ kd = 7) ∧ b < G.2 ∧ eg_is (eg_at G b) (eg_oc kd mi) = true then eg_cl1 rc sc d k pc mi (.ref b :: (st.take (eg_ma mi)).reverse) r L G ck sk else none
      | _ => none) := by
  unfold eg_iv
  rw [hlk]
  first | rfl | done
theorem et_v2 {t : Nat} (hlk : (eg_mT.getD (eg_mo k) []).lookup i = some (mi, kd, x)) : eg_iv rc sc d k pc (t + 2) i L st G ck sk = (if kd = 6 then (match st with
        | .ref _ :: r => if eg_cat r ≤ 8 ∧ L.length = eg_mL k then rc sc d k (pc + 3) L r G ck sk else none
        | _ => none)
      else (match st.drop (eg_ma mi) with
        | .ref b :: r => if kd = 2 ∨ kd = 5 then eg_cl1 rc sc d k pc mi (.ref b :: (st.take (eg_ma mi)).reverse) r L G ck sk else none
        | _ => none)) := by
  unfold eg_iv
  rw [hlk]
  first | rfl | done
theorem et_w0 (hlk : (eg_mT.getD (eg_mo k) []).lookup i = some (mi, kd, x)) : et_iv T M Ks rec hd scr E C d k pc 0 i L st ck sk = (if kd = 0 ∧ 309 ≤ mi ∧ mi ≤ 313 then (match et_mt E mi st with
        | some (p, r) => if eg_cat r ≤ 8 ∧ L.length = eg_mL k ∧ E.length < 4294967296 then rec hd scr (E ++ [(p, none)]) C d k (pc + 3) L (et_tk p E.length :: r) ck sk else none
        | none => none)
      else if (kd = 0 ∨ kd = 3) ∧ eg_ma mi ≤ st.length then et_cl1 M Ks rec hd scr E C d k pc mi (st.take (eg_ma mi)).reverse (st.drop (eg_ma mi)) L ck sk else none) := by
  unfold et_iv
  rw [hlk]
  first | rfl | done
theorem et_w1 (hlk : (eg_mT.getD (eg_mo k) []).lookup i = some (mi, kd, x)) : et_iv T M Ks rec hd scr E C d k pc 1 i L st ck sk = (match st.drop (eg_ma mi) with
      | b :: r => if (kd = 1 ∨ kd = 4 ∨ kd = 7) ∧ et_cc T E b = some (eg_oc kd mi) then et_cl1 M Ks rec hd scr E C d k pc mi (b :: (st.take (eg_ma mi)).reverse) r L ck sk else none
      | _ => none) := by
  unfold et_iv
  rw [hlk]
  first | rfl | done
theorem et_w2 {t : Nat} (hlk : (eg_mT.getD (eg_mo k) []).lookup i = some (mi, kd, x)) : et_iv T M Ks rec hd scr E C d k pc (t + 2) i L st ck sk = (if kd = 6 then (match st with
        | b :: r => if (et_cc T E b).isSome = true ∧ eg_cat r ≤ 8 ∧ L.length = eg_mL k then rec hd scr E C d k (pc + 3) L r ck sk else none
        | _ => none)
      else (match st.drop (eg_ma mi) with
        | b :: r => if (kd = 2 ∨ kd = 5) ∧ (et_cc T E b).isSome = true then et_cl1 M Ks rec hd scr E C d k pc mi (b :: (st.take (eg_ma mi)).reverse) r L ck sk else none
        | _ => none)) := by
  unfold et_iv
  rw [hlk]
  first | rfl | done
end ETV
theorem et_iv_ok (hr : et_Ok T M rec) (hK : ∀ q ∈ Ks, et_cv T q) {t i : Nat} (h : et_iv T M Ks rec hd scr E C d k pc t i L st ck sk = some os) (hI : et_I T w.1 w.2.1 E C L st w.2.2 L2 st2) (h1 : c0 ≤ ck) (h2 : s0 ≤ sk) (hd2 : d ≤ d2) (hso : et_so scr sc w.2.1) (hh : ∀ h ∈ hd, et_hd T M sc d2 k h w Z) (hZ : ∀ o ∈ os, ∀ (w' : et_Wd) (u : eg_O), et_le M w w' → et_end T w' o u → Z u)
    (e : ∀ q, eg_one (eg_rn q) sc d2 k pc L2 st2 w.2.2 c0 s0 = eg_iv (eg_rn q) sc d2 k pc t i L2 st2 w.2.2 c0 s0) : et_go sc d2 k pc L2 st2 w.2.2 c0 s0 Z := by
  obtain ⟨hH, hE, hC, hL, hs⟩ := hI
  cases hlk : (eg_mT.getD (eg_mo k) []).lookup i with
  | none =>
    unfold et_iv at h
    rw [hlk] at h
    cases h
  | some y =>
    obtain ⟨mi, kd, x⟩ := y
    rcases t with _ | _ | t
    · rw [et_w0 hlk] at h
      split at h
      · rename_i hc
        split at h
        · rename_i p r hm
          split at h
          · rename_i hc2
            obtain ⟨v, r2, e1, hr2, hv⟩ := et_mt_ok hm hE hs
            have hle : et_le M w (w.1, w.2.1 ++ [v], w.2.2) := ⟨et_ex.rf, ⟨[v], rfl⟩, et_fr.rf⟩
            refine et_goS (fun q => ?_) (hr _ _ _ _ _ _ _ _ _ _ _ _ h sc (w.1, w.2.1 ++ [v], w.2.2) L2 (v :: r2) c0 s0 d2 Z ⟨hH, et_eo_mono hE hv, et_co_mono hC, et_lr_mono hL, ⟨_, _, rfl, et_tk_ok hv hE.1 hc2.2.2, et_sr_mono hr2⟩⟩ h1 h2 hd2 (et_so_app hso [v]) (fun h hm => et_hd_le (hh h hm) hle) (fun o ho w' u hl hen => hZ o ho w' u (hle.tr hl) hen))
            rw [e q, et_v0 hlk, if_pos hc, e1]
            dsimp only
            rw [if_pos ⟨by rw [et_sr_cat hr2]; exact hc2.1, by rw [et_lr_len hL]; exact hc2.2.1⟩]
          · cases h
        · cases h
      · rename_i hc
        split at h
        · rename_i hc2
          refine et_cl1_ok hr hK h hH hE hC hL (et_sr_rev (et_sr_take _ hs)) (et_sr_drop _ hs) h1 h2 hd2 hso hh hZ (fun q => ?_)
          rw [e q, et_v0 hlk, if_neg hc, if_pos ⟨hc2.1, by rw [et_sr_len hs]; exact hc2.2⟩]
        · cases h
    · rw [et_w1 hlk] at h
      split at h
      · rename_i b r hdr
        split at h
        · rename_i hc
          have hd3 := et_sr_drop (R := w.2.1) (eg_ma mi) hs
          rw [hdr] at hd3
          obtain ⟨y, r2, e1, hv, hr2⟩ := hd3
          have hv2 := hv
          obtain ⟨a, rfl, ha, his⟩ := et_cc_ok hc.2 hH hE hv
          refine et_cl1_ok hr hK h hH hE hC hL ⟨_, _, rfl, hv2, et_sr_rev (et_sr_take _ hs)⟩ hr2 h1 h2 hd2 hso hh hZ (fun q => ?_)
          rw [e q]
          refine (et_v1 hlk).trans ?_
          rw [e1]
          dsimp only
          rw [if_pos ⟨hc.1, ha, his⟩]
        · cases h
      · cases h
    · rw [et_w2 hlk] at h
      split at h
      · rename_i hc
        split at h
        · rename_i b r
          split at h
          · rename_i hc2
            obtain ⟨y, r2, rfl, hv, hr2⟩ := hs
            obtain ⟨ci, hci⟩ := Option.isSome_iff_exists.mp hc2.1
            obtain ⟨a, rfl, ha, his⟩ := et_cc_ok hci hH hE hv
            refine et_goS (fun q => ?_) (hr _ _ _ _ _ _ _ _ _ _ _ _ h sc w L2 r2 c0 s0 d2 Z ⟨hH, hE, hC, hL, hr2⟩ h1 h2 hd2 hso hh hZ)
            rw [e q]
            refine (et_v2 hlk).trans ?_
            rw [if_pos hc]
            dsimp only
            rw [if_pos ⟨by rw [et_sr_cat hr2]; exact hc2.2.1, by rw [et_lr_len hL]; exact hc2.2.2⟩]
          · cases h
        · cases h
      · rename_i hc
        split at h
        · rename_i b r hdr
          split at h
          · rename_i hc2
            have hd3 := et_sr_drop (R := w.2.1) (eg_ma mi) hs
            rw [hdr] at hd3
            obtain ⟨y, r2, e1, hv, hr2⟩ := hd3
            have hv2 := hv
            obtain ⟨ci, hci⟩ := Option.isSome_iff_exists.mp hc2.2
            obtain ⟨a, rfl, ha, his⟩ := et_cc_ok hci hH hE hv
            refine et_cl1_ok hr hK h hH hE hC hL ⟨_, _, rfl, hv2, et_sr_rev (et_sr_take _ hs)⟩ hr2 h1 h2 hd2 hso hh hZ (fun q => ?_)
            rw [e q]
            refine (et_v2 hlk).trans ?_
            rw [if_neg hc, e1]
            dsimp only
            rw [if_pos hc2.1]
          · cases h
        · cases h
theorem et_sc_ok {ins : Instr} {r : List Value} (h : et_sc scr ins E pc st = some r) (hso : et_so scr sc R) (hE : et_eo K R E) (hs : et_sr R st st2) : ∃ (v : Int32) (r2 : List Value), et_sr R r r2 ∧ eg_sc sc ins pc L2 st2 G c0 s0 = some (pc + 1, L2, .int v :: r2, G, c0, s0) := by
  unfold et_sc at h
  split at h
  · rename_i j k a r'
    split at h
    · rename_i hc
      cases h
      obtain ⟨n, f, x, e, hx, x0, xn⟩ := hso
      subst e
      obtain ⟨_, _, rfl, ⟨i, rfl, hi⟩, _, r2, rfl, rfl, hr⟩ := hs
      have key : 0 ≤ i.toInt ∧ i.toInt < n := by
        have hcc := hc.2
        unfold et_sj at hcc
        rw [Bool.or_eq_true] at hcc
        rcases hcc with hk | hk
        · have hk := of_decide_eq_true hk
          rw [hk, hx] at hi
          cases hi
          omega
        · split at hk
          · rename_i p j' c hEk
            rw [Bool.and_eq_true, Bool.and_eq_true] at hk
            have g1 := of_decide_eq_true hk.1
            have g2 := of_decide_eq_true hk.2.1
            have g3 := of_decide_eq_true hk.2.2
            subst g1
            obtain ⟨v, v1, -, v3⟩ := hE.2 _ _ _ hEk
            obtain ⟨y, z, y1, y2, y3⟩ := v3 _ _ rfl
            rw [hx] at y2
            cases y2
            rw [hi] at v1
            cases v1
            cases y1
            omega
          · cases hk
      refine ⟨f i.toNatClampNeg, r2, hr, ?_⟩
      unfold eg_sc
      dsimp only
      rw [if_pos ⟨hc.1, key⟩]
    · cases h
  · cases h
theorem et_ins_ok (hr : et_Ok T M rec) (hK : ∀ q ∈ Ks, et_cv T q) : et_Ok T M (et_ins T M Ks rec) := by
  intro hd scr E C d k pc L st ck sk os h sc w L2 st2 c0 s0 d2 Z hI h1 h2 hd2 hso hh hZ
  have hI0 := hI
  obtain ⟨hH, hE, hC, hL, hs⟩ := hI
  unfold et_ins at h
  split at h
  · cases h
  · rename_i ins len hcd
    split at h
    · rename_i hrt
      split at h
      · rename_i v hv
        cases h
        obtain ⟨u, e1, e2⟩ := et_rr_ok hv hE hs
        refine et_goR (u := (.inl u, w.2.2, c0, s0)) (fun r => ?_) (hZ _ List.mem_cons_self w _ et_le.rf ⟨rfl, hH, hE, hC, e2, h1, h2⟩)
        unfold eg_one
        rw [hcd]
        dsimp only
        rw [e1]
      · cases h
    · rename_i hrt
      have hno : eg_rr ins (eg_mr k) st2 = none := et_rr_no hrt
      split at h
      · rename_i r hsc
        split at h
        · rename_i hlen
          obtain ⟨v, r2, hr2, e1⟩ := et_sc_ok (L2 := L2) (G := w.2.2) (c0 := c0) (s0 := s0) hsc hso hE hs
          have hle : et_le M w (w.1, w.2.1 ++ [.int v], w.2.2) := ⟨et_ex.rf, ⟨[.int v], rfl⟩, et_fr.rf⟩
          refine et_goS (fun q => ?_) (hr _ _ _ _ _ _ _ _ _ _ _ _ h sc (w.1, w.2.1 ++ [.int v], w.2.2) L2 (.int v :: r2) c0 s0 d2 Z ⟨hH, et_eo_mono hE ⟨v, rfl, et_any v⟩, et_co_mono hC, et_lr_mono hL, ⟨_, _, rfl, ⟨v, rfl, by rw [et_tkl hlen]; exact et_new hE.1⟩, et_sr_mono hr2⟩⟩ h1 h2 hd2 (et_so_app hso _) (fun h hm => et_hd_le (hh h hm) hle) (fun o ho w' u hl hen => hZ o ho w' u (hle.tr hl) hen))
          unfold eg_one
          rw [hcd]
          dsimp only
          rw [hno]
          dsimp only
          rw [e1]
        · cases h
      · split at h
        · rename_i hns
          have hsn : eg_sc sc ins pc L2 st2 w.2.2 c0 s0 = none := et_ns_ok hns hso hH hE hs
          split at h
          · rename_i q hth
            split at h
            · rename_i hc
              cases h
              refine et_goR (u := (.inr q.2.2, w.2.2, c0 + 1, s0 + 6)) (fun r => ?_) (hZ _ List.mem_cons_self w _ et_le.rf ⟨rfl, hH, hE, hC, rfl, Nat.succ_le_succ h1, Nat.add_le_add_right h2 6⟩)
              unfold eg_one
              rw [hcd]
              dsimp only
              rw [hno]
              dsimp only
              rw [hsn]
              dsimp only
              rw [hth]
              dsimp only
              rw [if_pos ⟨by rw [et_sr_cat hs]; exact hc.1, by rw [et_lr_len hL]; exact hc.2⟩]
            · cases h
          · rename_i hth
            split at h
            · rename_i t i hik
              refine et_iv_ok hr hK h hI0 h1 h2 hd2 hso hh hZ (fun q => ?_)
              unfold eg_one
              rw [hcd]
              dsimp only
              rw [hno]
              dsimp only
              rw [hsn]
              dsimp only
              rw [hth]
              dsimp only
              rw [hik]
            · rename_i hik
              split at h
              · rename_i l hl
                split at hl
                · rename_i hln
                  obtain ⟨Y, hY, K', R1, L3, st3, G', c, s, e1, hx, hf, hI3, g1, g2⟩ := et_step_ok (M := M) (c0 := c0) (s0 := s0) hl (fun i n e => by subst e; exact of_decide_eq_true hln) hI0 h1 h2
                  obtain ⟨os1, q1, q2⟩ := et_bd_mem h hY
                  have hle : et_le M w (K', w.2.1 ++ R1, G') := ⟨hx, ⟨R1, rfl⟩, hf⟩
                  refine et_goS (fun q => ?_) (hr _ _ _ _ _ _ _ _ _ _ _ _ q1 sc (K', w.2.1 ++ R1, G') L3 st3 c s d2 Z hI3 g1 g2 hd2 (et_so_app hso R1) (fun h hm => et_hd_le (hh h hm) hle) (fun o ho w' u hl hen => hZ o (q2 o ho) w' u (hle.tr hl) hen))
                  unfold eg_one
                  rw [hcd]
                  dsimp only
                  rw [hno]
                  dsimp only
                  rw [hsn]
                  dsimp only
                  rw [hth]
                  dsimp only
                  rw [hik]
                  dsimp only
                  rw [e1]
                  rfl
                · cases hl
              · cases h
        · cases h
end ETP
end
