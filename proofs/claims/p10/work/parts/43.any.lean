/-! ANY STEP -/
section ETM
variable {T : List et_D} {M : et_M} {K : et_K} {R : List Value} {E : List et_N} {C : et_C} {o idx pc len ck sk i c0 s0 : Nat} {ini : Bool} {L L2 : eg_Ls} {st st2 : List Value} {G : eg_G} {l : List et_Y}
set_option maxHeartbeats 4000000 in
theorem et_s1_ok {ins : Instr} (h : et_s1 E C pc ins L st ck sk = some l) (hp : et_pu ins = true) (hln : ∀ i n, ins = .iinc i n → len = 3) (hI : et_I T K R E C L st G L2 st2) (h1 : c0 ≤ ck) (h2 : s0 ≤ sk) : ∃ Y ∈ l, et_J T M K R G (eg_st o ini eg_MC eg_MS pc len ins L2 st2 G c0 s0) Y := by
  cases ins with
  | iload i => exact et_yl0_ok h hI h1 h2
  | iload_n i => exact et_yl0_ok h hI h1 h2
  | lload i => exact et_yl1_ok h hI h1 h2
  | lload_n i => exact et_yl1_ok h hI h1 h2
  | aload i => exact et_yl2_ok h hI h1 h2
  | aload_n i => exact et_yl2_ok h hI h1 h2
  | istore i => exact et_ys0_ok h hI h1 h2
  | istore_n i => exact et_ys0_ok h hI h1 h2
  | lstore i => exact et_ys1_ok h hI h1 h2
  | lstore_n i => exact et_ys1_ok h hI h1 h2
  | astore i => exact et_ys2_ok h hI h1 h2
  | astore_n i => exact et_ys2_ok h hI h1 h2
  | iinc i n =>
    have e := hln i n rfl
    subst e
    exact et_yi_ok h hI h1 h2
  | ineg =>
    dsimp only [et_s1] at h
    split at h
    · obtain ⟨hH, hE, hC, hL, _, r2, rfl, ⟨x, rfl, -⟩, hr⟩ := hI
      exact et_yu_ok h ⟨hH, hE, hC, hL, hr⟩ (et_any _).1 (et_any _).2 h1 h2
    · cases h
  | i2b =>
    dsimp only [et_s1] at h
    split at h
    · obtain ⟨hH, hE, hC, hL, _, r2, rfl, ⟨x, rfl, -⟩, hr⟩ := hI
      exact et_yu_ok h ⟨hH, hE, hC, hL, hr⟩ (et_any _).1 (et_any _).2 h1 h2
    · cases h
  | i2c =>
    dsimp only [et_s1] at h
    split at h
    · obtain ⟨hH, hE, hC, hL, _, r2, rfl, ⟨x, rfl, -⟩, hr⟩ := hI
      exact et_yu_ok h ⟨hH, hE, hC, hL, hr⟩ (et_any _).1 (et_any _).2 h1 h2
    · cases h
  | l2i =>
    dsimp only [et_s1] at h
    split at h
    · obtain ⟨hH, hE, hC, hL, _, r2, rfl, ⟨x, rfl, -⟩, hr⟩ := hI
      exact et_yu_ok h ⟨hH, hE, hC, hL, hr⟩ (et_any _).1 (et_any _).2 h1 h2
    · cases h
  | i2l =>
    dsimp only [et_s1] at h
    split at h
    · rename_i k r
      split at h
      · rename_i a b hb
        obtain ⟨hH, hE, hC, hL, _, r2, rfl, hv, hr⟩ := hI
        obtain ⟨x, rfl, x1, x2⟩ := et_ib_ok hb hE hv
        have e : x.toInt64.toInt = x.toInt := Int32.toInt_toInt64 x
        exact et_yw_ok h ⟨hH, hE, hC, hL, hr⟩ (by rw [e]; exact x1) (by rw [e]; exact x2) h1 h2
      · cases h
    · cases h
  | ldiv =>
    dsimp only [et_s1] at h
    split at h
    · rename_i v u r
      split at h
      · rename_i c d q hb1 hb2
        split at h
        · rename_i hc
          obtain ⟨hH, hE, hC, hL, _, _, rfl, hv, _, r2, rfl, hu, hr⟩ := hI
          obtain ⟨y, rfl, y1, y2⟩ := et_lb_ok hb1 hE hv
          obtain ⟨x, rfl, -⟩ := et_lb_ok (a := q.1) (b := q.2) hb2 hE hu
          dsimp only [eg_st]
          rw [if_neg (fun e => by
            have e0 : y.toInt = 0 := by rw [e]; rfl
            omega)]
          exact et_yw_ok h ⟨hH, hE, hC, hL, hr⟩ (et_anyL _).1 (et_anyL _).2 h1 h2
        · cases h
      · cases h
    · cases h
  | lcmp =>
    dsimp only [et_s1] at h
    split at h
    · rename_i v u r
      split at h
      · rename_i p q hb1 hb2
        obtain ⟨hH, hE, hC, hL, _, _, rfl, hv, _, r2, rfl, hu, hr⟩ := hI
        obtain ⟨y, rfl, -⟩ := et_lb_ok (a := p.1) (b := p.2) hb1 hE hv
        obtain ⟨x, rfl, -⟩ := et_lb_ok (a := q.1) (b := q.2) hb2 hE hu
        have e : -1 ≤ (lg_cmp x y).toInt ∧ (lg_cmp x y).toInt ≤ 1 := by
          unfold lg_cmp
          (repeat' split) <;> decide
        exact et_yu_ok h ⟨hH, hE, hC, hL, hr⟩ e.1 e.2 h1 h2
      · cases h
    · cases h
  | iadd => exact et_sb_ok rfl h hI h1 h2
  | isub => exact et_sb_ok rfl h hI h1 h2
  | imul => exact et_sb_ok rfl h hI h1 h2
  | iand => exact et_sb_ok rfl h hI h1 h2
  | ior => exact et_sb_ok rfl h hI h1 h2
  | ixor => exact et_sb_ok rfl h hI h1 h2
  | ishl => exact et_sb_ok rfl h hI h1 h2
  | ishr => exact et_sb_ok rfl h hI h1 h2
  | iushr => exact et_sb_ok rfl h hI h1 h2
  | idiv => exact et_sb_ok rfl h hI h1 h2
  | irem => exact et_sb_ok rfl h hI h1 h2
  | ladd =>
    dsimp only [et_s1, et_bf, et_lf] at h
    split at h
    · rename_i v u r hq
      split at h
      · rename_i p q hb1 hb2
        obtain ⟨hH, hE, hC, hL, _, _, rfl, hv, _, r2, rfl, hu, hr⟩ := hI
        obtain ⟨y, rfl, -⟩ := et_lb_ok (a := p.1) (b := p.2) hb1 hE hv
        obtain ⟨x, rfl, -⟩ := et_lb_ok (a := q.1) (b := q.2) hb2 hE hu
        exact et_yw_ok h ⟨hH, hE, hC, hL, hr⟩ (et_anyL _).1 (et_anyL _).2 h1 h2
      · cases h
    · dsimp only [et_lg, et_br] at h
      cases h
  | lsub =>
    dsimp only [et_s1, et_bf, et_lf] at h
    split at h
    · rename_i v u r hq
      split at h
      · rename_i p q hb1 hb2
        obtain ⟨hH, hE, hC, hL, _, _, rfl, hv, _, r2, rfl, hu, hr⟩ := hI
        obtain ⟨y, rfl, -⟩ := et_lb_ok (a := p.1) (b := p.2) hb1 hE hv
        obtain ⟨x, rfl, -⟩ := et_lb_ok (a := q.1) (b := q.2) hb2 hE hu
        exact et_yw_ok h ⟨hH, hE, hC, hL, hr⟩ (et_anyL _).1 (et_anyL _).2 h1 h2
      · cases h
    · dsimp only [et_lg, et_br] at h
      cases h
  | lmul =>
    dsimp only [et_s1, et_bf, et_lf] at h
    split at h
    · rename_i v u r hq
      split at h
      · rename_i p q hb1 hb2
        obtain ⟨hH, hE, hC, hL, _, _, rfl, hv, _, r2, rfl, hu, hr⟩ := hI
        obtain ⟨y, rfl, -⟩ := et_lb_ok (a := p.1) (b := p.2) hb1 hE hv
        obtain ⟨x, rfl, -⟩ := et_lb_ok (a := q.1) (b := q.2) hb2 hE hu
        exact et_yw_ok h ⟨hH, hE, hC, hL, hr⟩ (et_anyL _).1 (et_anyL _).2 h1 h2
      · cases h
    · dsimp only [et_lg, et_br] at h
      cases h
  | land =>
    dsimp only [et_s1, et_bf, et_lf] at h
    split at h
    · rename_i v u r hq
      split at h
      · rename_i p q hb1 hb2
        obtain ⟨hH, hE, hC, hL, _, _, rfl, hv, _, r2, rfl, hu, hr⟩ := hI
        obtain ⟨y, rfl, -⟩ := et_lb_ok (a := p.1) (b := p.2) hb1 hE hv
        obtain ⟨x, rfl, -⟩ := et_lb_ok (a := q.1) (b := q.2) hb2 hE hu
        exact et_yw_ok h ⟨hH, hE, hC, hL, hr⟩ (et_anyL _).1 (et_anyL _).2 h1 h2
      · cases h
    · dsimp only [et_lg, et_br] at h
      cases h
  | lor =>
    dsimp only [et_s1, et_bf, et_lf] at h
    split at h
    · rename_i v u r hq
      split at h
      · rename_i p q hb1 hb2
        obtain ⟨hH, hE, hC, hL, _, _, rfl, hv, _, r2, rfl, hu, hr⟩ := hI
        obtain ⟨y, rfl, -⟩ := et_lb_ok (a := p.1) (b := p.2) hb1 hE hv
        obtain ⟨x, rfl, -⟩ := et_lb_ok (a := q.1) (b := q.2) hb2 hE hu
        exact et_yw_ok h ⟨hH, hE, hC, hL, hr⟩ (et_anyL _).1 (et_anyL _).2 h1 h2
      · cases h
    · dsimp only [et_lg, et_br] at h
      cases h
  | lshl =>
    dsimp only [et_s1, et_bf, et_lf, et_lg] at h
    split at h
    · rename_i v u r hq
      split at h
      · rename_i p q hb1 hb2
        obtain ⟨hH, hE, hC, hL, _, _, rfl, hv, _, r2, rfl, hu, hr⟩ := hI
        obtain ⟨y, rfl, -⟩ := et_ib_ok (a := p.1) (b := p.2) hb1 hE hv
        obtain ⟨x, rfl, -⟩ := et_lb_ok (a := q.1) (b := q.2) hb2 hE hu
        exact et_yw_ok h ⟨hH, hE, hC, hL, hr⟩ (et_anyL _).1 (et_anyL _).2 h1 h2
      · cases h
    · dsimp only [et_br] at h
      cases h
  | lshr =>
    dsimp only [et_s1, et_bf, et_lf, et_lg] at h
    split at h
    · rename_i v u r hq
      split at h
      · rename_i p q hb1 hb2
        obtain ⟨hH, hE, hC, hL, _, _, rfl, hv, _, r2, rfl, hu, hr⟩ := hI
        obtain ⟨y, rfl, -⟩ := et_ib_ok (a := p.1) (b := p.2) hb1 hE hv
        obtain ⟨x, rfl, -⟩ := et_lb_ok (a := q.1) (b := q.2) hb2 hE hu
        exact et_yw_ok h ⟨hH, hE, hC, hL, hr⟩ (et_anyL _).1 (et_anyL _).2 h1 h2
      · cases h
    · dsimp only [et_br] at h
      cases h
  | lushr =>
    dsimp only [et_s1, et_bf, et_lf, et_lg] at h
    split at h
    · rename_i v u r hq
      split at h
      · rename_i p q hb1 hb2
        obtain ⟨hH, hE, hC, hL, _, _, rfl, hv, _, r2, rfl, hu, hr⟩ := hI
        obtain ⟨y, rfl, -⟩ := et_ib_ok (a := p.1) (b := p.2) hb1 hE hv
        obtain ⟨x, rfl, -⟩ := et_lb_ok (a := q.1) (b := q.2) hb2 hE hu
        exact et_yw_ok h ⟨hH, hE, hC, hL, hr⟩ (et_anyL _).1 (et_anyL _).2 h1 h2
      · cases h
    · dsimp only [et_br] at h
      cases h
  | ifCond c off => exact et_br_ok h hI h1 h2
  | if_icmp c off => exact et_br_ok h hI h1 h2
  | if_acmp c off => exact et_br_ok h hI h1 h2
  | ifnull off => exact et_br_ok h hI h1 h2
  | ifnonnull off => exact et_br_ok h hI h1 h2
  | tableswitch d lo hi offs => exact et_br_ok h hI h1 h2
  | lookupswitch d ps => exact et_br_ok h hI h1 h2
  | iconst n =>
    dsimp only [et_s1, et_bf, et_lf, et_lg, et_br] at h
    cases h
  | bipush n =>
    dsimp only [et_s1, et_bf, et_lf, et_lg, et_br] at h
    cases h
  | sipush n =>
    dsimp only [et_s1, et_bf, et_lf, et_lg, et_br] at h
    cases h
  | lconst n =>
    dsimp only [et_s1, et_bf, et_lf, et_lg, et_br] at h
    cases h
  | aconst_null =>
    dsimp only [et_s1, et_bf, et_lf, et_lg, et_br] at h
    cases h
  | ldc i =>
    dsimp only [et_s1, et_bf, et_lf, et_lg, et_br] at h
    cases h
  | ldc_w i =>
    dsimp only [et_s1, et_bf, et_lf, et_lg, et_br] at h
    cases h
  | ldc2_w i =>
    dsimp only [et_s1, et_bf, et_lf, et_lg, et_br] at h
    cases h
  | dup =>
    dsimp only [et_s1, et_bf, et_lf, et_lg, et_br] at h
    cases h
  | pop =>
    dsimp only [et_s1, et_bf, et_lf, et_lg, et_br] at h
    cases h
  | dup2 =>
    dsimp only [et_s1, et_bf, et_lf, et_lg, et_br] at h
    cases h
  | goto off =>
    dsimp only [et_s1, et_bf, et_lf, et_lg, et_br] at h
    cases h
  | getstatic i =>
    dsimp only [et_s1, et_bf, et_lf, et_lg, et_br] at h
    cases h
  | _ => cases hp
theorem et_step_ok {ins : Instr} (h : et_step T M E C o ini pc len ins L st ck sk = some l) (hln : ∀ i n, ins = .iinc i n → len = 3) (hI : et_I T K R E C L st G L2 st2) (h1 : c0 ≤ ck) (h2 : s0 ≤ sk) : ∃ Y ∈ l, et_J T M K R G (eg_st o ini eg_MC eg_MS pc len ins L2 st2 G c0 s0) Y := by
  unfold et_step at h
  split at h
  · rename_i hp
    split at h
    · rename_i S hS
      cases h
      obtain ⟨hH, hE, hC, hL, hs⟩ := hI
      obtain ⟨L3, st3, e, hL3, hs3⟩ := et_st (R := R) (H := G) (ck := c0) (sk := s0) hS hp hL hs
      rw [e]
      exact ⟨_, List.mem_cons_self, et_j0 ⟨hH, hE, hC, hL3, hs3⟩ h1 h2⟩
    · exact et_s1_ok h hp hln hI h1 h2
  · split at h
    · rename_i hc
      split at h
      · rename_i S hS
        cases h
        exact ⟨_, List.mem_cons_self, et_cs_ok hS hc hI h1 h2⟩
      · exact et_s2_ok h hI h1 h2
    · exact et_s2_ok h hI h1 h2
end ETM
