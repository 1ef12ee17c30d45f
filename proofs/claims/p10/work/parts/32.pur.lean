/-! A STEP THAT DOESN'T LOOK AT THE HEAP, on values with tokens -/
def et_Q (R : List Value) (G : eg_G) (ck sk : Nat) (x : Option eg_S) (S : eg_S) : Prop := ∃ L3 st3, x = some (S.1, L3, st3, G, ck, sk) ∧ et_lr R S.2.1 L3 ∧ et_sr R S.2.2.1 st3
def et_pu (ins : Instr) : Bool := match ins with
  | .iconst _ | .bipush _ | .sipush _ | .lconst _ | .aconst_null | .ldc _ | .ldc_w _ | .ldc2_w _ | .iload _ | .iload_n _ | .lload _ | .lload_n _ | .aload _ | .aload_n _ | .istore _ | .istore_n _ | .lstore _ | .lstore_n _ | .astore _ | .astore_n _ | .iinc _ _ => true
  | .iadd | .isub | .imul | .iand | .ior | .ixor | .ishl | .ishr | .iushr | .idiv | .irem | .ineg | .ladd | .lsub | .lmul | .land | .lor | .lshl | .lshr | .lushr | .ldiv | .lcmp | .i2l | .l2i | .i2b | .i2c | .dup | .pop | .dup2 | .goto _ | .ifCond _ _ | .if_icmp _ _ | .if_acmp _ _ | .ifnull _ | .ifnonnull _ | .tableswitch _ _ _ _ | .lookupswitch _ _ | .getstatic _ => true
  | _ => false
section ETC
variable {R : List Value} {o idx pc len ck sk ck0 sk0 i kd mc ms n : Nat} {ini : Bool} {L L2 : eg_Ls} {st st2 : List Value} {G H : eg_G} {S : eg_S}
theorem et_k0 {pc : Nat} (hL : et_lr R L L2) (hs : et_sr R st st2) : et_Q R H ck sk (some (pc, L2, st2, H, ck, sk)) (pc, L, st, G, ck0, sk0) := ⟨_, _, rfl, hL, hs⟩
theorem et_k1 {pc : Nat} {v w : Value} (hv : et_vr R v w) (hL : et_lr R L L2) (hs : et_sr R st st2) : et_Q R H ck sk (some (pc, L2, w :: st2, H, ck, sk)) (pc, L, v :: st, G, ck0, sk0) := ⟨_, _, rfl, hL, ⟨_, _, rfl, hv, hs⟩⟩
theorem et_ii {f : Int32 → Int32 → Int32} (h : eg_ii pc L st G ck0 sk0 f = some S) (hL : et_lr R L L2) (hs : et_sr R st st2) : et_Q R H ck sk (eg_ii pc L2 st2 H ck sk f) S := by
  unfold eg_ii at h
  split at h
  · cases h
    obtain ⟨_, _, rfl, rfl, _, _, rfl, rfl, hr⟩ := hs
    exact et_k1 rfl hL hr
  · cases h
theorem et_l2 {f : Int64 → Int64 → Int64} (h : eg_l2 pc L st G ck0 sk0 f = some S) (hL : et_lr R L L2) (hs : et_sr R st st2) : et_Q R H ck sk (eg_l2 pc L2 st2 H ck sk f) S := by
  unfold eg_l2 at h
  split at h
  · cases h
    obtain ⟨_, _, rfl, rfl, _, _, rfl, rfl, hr⟩ := hs
    exact et_k1 rfl hL hr
  · cases h
theorem et_ls {f : Int64 → Int32 → Int64} (h : eg_ls pc L st G ck0 sk0 f = some S) (hL : et_lr R L L2) (hs : et_sr R st st2) : et_Q R H ck sk (eg_ls pc L2 st2 H ck sk f) S := by
  unfold eg_ls at h
  split at h
  · cases h
    obtain ⟨_, _, rfl, rfl, _, _, rfl, rfl, hr⟩ := hs
    exact et_k1 rfl hL hr
  · cases h
theorem et_li (h : eg_li pc L st G ck0 sk0 i len = some S) (hL : et_lr R L L2) (hs : et_sr R st st2) : et_Q R H ck sk (eg_li pc L2 st2 H ck sk i len) S := by
  unfold eg_li at h
  split at h
  · rename_i hd
    cases h
    obtain ⟨w, e, hw⟩ := et_lr_ld hL hd
    have e1 : w = _ := hw
    subst e1
    unfold eg_li
    rw [e]
    exact et_k1 rfl hL hs
  · cases h
theorem et_ll (h : eg_ll pc L st G ck0 sk0 i len = some S) (hL : et_lr R L L2) (hs : et_sr R st st2) : et_Q R H ck sk (eg_ll pc L2 st2 H ck sk i len) S := by
  unfold eg_ll at h
  split at h
  · rename_i hd
    cases h
    obtain ⟨w, e, hw⟩ := et_lr_ld hL hd
    have e1 : w = _ := hw
    subst e1
    unfold eg_ll
    rw [e]
    exact et_k1 rfl hL hs
  · cases h
theorem et_la (h : eg_la pc L st G ck0 sk0 i len = some S) (hL : et_lr R L L2) (hs : et_sr R st st2) : et_Q R H ck sk (eg_la pc L2 st2 H ck sk i len) S := by
  unfold eg_la at h
  split at h
  · rename_i hd
    cases h
    obtain ⟨w, e, hw⟩ := et_lr_ld hL hd
    have e1 : w = _ := hw
    subst e1
    unfold eg_la
    rw [e]
    exact et_k1 rfl hL hs
  · rename_i hd
    cases h
    obtain ⟨w, e, hw⟩ := et_lr_ld hL hd
    have e1 : w = _ := hw
    subst e1
    unfold eg_la
    rw [e]
    exact et_k1 rfl hL hs
  · cases h
theorem et_si (h : eg_si pc L st G ck0 sk0 i len = some S) (hL : et_lr R L L2) (hs : et_sr R st st2) : et_Q R H ck sk (eg_si pc L2 st2 H ck sk i len) S := by
  unfold eg_si at h
  split at h
  · split at h
    · rename_i hc
      cases h
      obtain ⟨_, _, rfl, rfl, hr⟩ := hs
      unfold eg_si
      dsimp only
      rw [if_pos (by rw [et_lr_len hL]; exact hc)]
      exact et_k0 (et_lr_s1 i hL rfl) hr
    · cases h
  · cases h
theorem et_sl2 (h : eg_sl2 pc L st G ck0 sk0 i len = some S) (hL : et_lr R L L2) (hs : et_sr R st st2) : et_Q R H ck sk (eg_sl2 pc L2 st2 H ck sk i len) S := by
  unfold eg_sl2 at h
  split at h
  · split at h
    · rename_i hc
      cases h
      obtain ⟨_, _, rfl, rfl, hr⟩ := hs
      unfold eg_sl2
      dsimp only
      rw [if_pos (by rw [et_lr_len hL]; exact hc)]
      exact et_k0 (et_lr_s2 i hL rfl) hr
    · cases h
  · cases h
theorem et_sa (h : eg_sa pc L st G ck0 sk0 i len = some S) (hL : et_lr R L L2) (hs : et_sr R st st2) : et_Q R H ck sk (eg_sa pc L2 st2 H ck sk i len) S := by
  unfold eg_sa at h
  split at h
  · split at h
    · rename_i hc
      cases h
      obtain ⟨_, _, rfl, rfl, hr⟩ := hs
      unfold eg_sa
      dsimp only
      rw [if_pos (by rw [et_lr_len hL]; exact hc)]
      exact et_k0 (et_lr_s1 i hL rfl) hr
    · cases h
  · split at h
    · rename_i hc
      cases h
      obtain ⟨_, _, rfl, rfl, hr⟩ := hs
      unfold eg_sa
      dsimp only
      rw [if_pos (by rw [et_lr_len hL]; exact hc)]
      exact et_k0 (et_lr_s1 i hL rfl) hr
    · cases h
  · cases h
theorem et_kk {v : Value} (h : eg_kk kd v = true) : et_nf v = true := by
  cases v <;> first | rfl | cases h
theorem et_kst (h : eg_kst o idx len kd pc L st G ck0 sk0 = some S) (hL : et_lr R L L2) (hs : et_sr R st st2) : et_Q R H ck sk (eg_kst o idx len kd pc L2 st2 H ck sk) S := by
  unfold eg_kst at h ⊢
  split at h
  · split at h
    · rename_i v he hk
      cases h
      try rw [he]
      try dsimp only
      rw [if_pos hk]
      exact et_k1 (et_vr_nf (et_kk hk)) hL hs
    · cases h
  · cases h
theorem et_sv_nf : eg_sv.all (fun e => et_nf e.2.2.2) = true := by decide +kernel
theorem et_ca {v : Value} (h : eg_ca v = true) : et_nf v = true := by
  cases v <;> first | rfl | cases h
set_option maxHeartbeats 8000000 in
theorem et_st {ins : Instr} (h : eg_st o ini mc ms pc len ins L st G ck0 sk0 = some S) (hp : et_pu ins = true) (hL : et_lr R L L2) (hs : et_sr R st st2) : et_Q R H ck sk (eg_st o ini mc ms pc len ins L2 st2 H ck sk) S := by
  cases ins with
  | iconst n =>
    dsimp only [eg_st] at h ⊢
    cases h
    exact et_k1 rfl hL hs
  | bipush n =>
    dsimp only [eg_st] at h ⊢
    cases h
    exact et_k1 rfl hL hs
  | sipush n =>
    dsimp only [eg_st] at h ⊢
    cases h
    exact et_k1 rfl hL hs
  | lconst n =>
    dsimp only [eg_st] at h ⊢
    cases h
    exact et_k1 rfl hL hs
  | aconst_null  =>
    dsimp only [eg_st] at h ⊢
    cases h
    exact et_k1 rfl hL hs
  | ldc i => exact et_kst h hL hs
  | ldc_w i => exact et_kst h hL hs
  | ldc2_w i => exact et_kst h hL hs
  | iload i => exact et_li (len := _) h hL hs
  | iload_n i => exact et_li (len := _) h hL hs
  | lload i => exact et_ll (len := _) h hL hs
  | lload_n i => exact et_ll (len := _) h hL hs
  | aload i => exact et_la (len := _) h hL hs
  | aload_n i => exact et_la (len := _) h hL hs
  | istore i => exact et_si (len := _) h hL hs
  | istore_n i => exact et_si (len := _) h hL hs
  | lstore i => exact et_sl2 (len := _) h hL hs
  | lstore_n i => exact et_sl2 (len := _) h hL hs
  | astore i => exact et_sa (len := _) h hL hs
  | astore_n i => exact et_sa (len := _) h hL hs
  | iadd => exact et_ii h hL hs
  | isub => exact et_ii h hL hs
  | imul => exact et_ii h hL hs
  | iand => exact et_ii h hL hs
  | ior => exact et_ii h hL hs
  | ixor => exact et_ii h hL hs
  | ishl => exact et_ii h hL hs
  | ishr => exact et_ii h hL hs
  | iushr => exact et_ii h hL hs
  | ladd => exact et_l2 h hL hs
  | lsub => exact et_l2 h hL hs
  | lmul => exact et_l2 h hL hs
  | land => exact et_l2 h hL hs
  | lor => exact et_l2 h hL hs
  | lshl => exact et_ls h hL hs
  | lshr => exact et_ls h hL hs
  | lushr => exact et_ls h hL hs
  | iinc i n =>
    dsimp only [eg_st] at h ⊢
    split at h
    · rename_i hd
      split at h
      · rename_i hc
        cases h
        obtain ⟨w, e, hw⟩ := et_lr_ld hL hd
        have e1 : w = _ := hw
        subst e1
        rw [e]
        dsimp only
        rw [if_pos (by rw [et_lr_len hL]; exact hc)]
        exact et_k0 (et_lr_s1 i hL rfl) hs
      · cases h
    · cases h
  | idiv =>
    dsimp only [eg_st] at h ⊢
    split at h
    · split at h
      · cases h
      · rename_i hc
        cases h
        obtain ⟨_, _, rfl, rfl, _, _, rfl, rfl, hr⟩ := hs
        dsimp only
        rw [if_neg hc]
        exact et_k1 rfl hL hr
    · cases h
  | irem =>
    dsimp only [eg_st] at h ⊢
    split at h
    · split at h
      · cases h
      · rename_i hc
        cases h
        obtain ⟨_, _, rfl, rfl, _, _, rfl, rfl, hr⟩ := hs
        dsimp only
        rw [if_neg hc]
        exact et_k1 rfl hL hr
    · cases h
  | ldiv =>
    dsimp only [eg_st] at h ⊢
    split at h
    · split at h
      · cases h
      · rename_i hc
        cases h
        obtain ⟨_, _, rfl, rfl, _, _, rfl, rfl, hr⟩ := hs
        dsimp only
        rw [if_neg hc]
        exact et_k1 rfl hL hr
    · cases h
  | lcmp =>
    dsimp only [eg_st] at h ⊢
    split at h
    · cases h
      obtain ⟨_, _, rfl, rfl, _, _, rfl, rfl, hr⟩ := hs
      exact et_k1 rfl hL hr
    · cases h
  | ineg =>
    dsimp only [eg_st] at h ⊢
    split at h
    · cases h
      obtain ⟨_, _, rfl, rfl, hr⟩ := hs
      exact et_k1 rfl hL hr
    · cases h
  | i2l =>
    dsimp only [eg_st] at h ⊢
    split at h
    · cases h
      obtain ⟨_, _, rfl, rfl, hr⟩ := hs
      exact et_k1 rfl hL hr
    · cases h
  | l2i =>
    dsimp only [eg_st] at h ⊢
    split at h
    · cases h
      obtain ⟨_, _, rfl, rfl, hr⟩ := hs
      exact et_k1 rfl hL hr
    · cases h
  | i2b =>
    dsimp only [eg_st] at h ⊢
    split at h
    · cases h
      obtain ⟨_, _, rfl, rfl, hr⟩ := hs
      exact et_k1 rfl hL hr
    · cases h
  | i2c =>
    dsimp only [eg_st] at h ⊢
    split at h
    · cases h
      obtain ⟨_, _, rfl, rfl, hr⟩ := hs
      exact et_k1 rfl hL hr
    · cases h
  | dup =>
    dsimp only [eg_st] at h ⊢
    split at h
    · split at h
      · rename_i hc
        cases h
        obtain ⟨_, _, rfl, hv, hr⟩ := hs
        dsimp only
        rw [if_pos (by rw [et_vr_cat hv]; exact hc)]
        exact et_k1 hv hL ⟨_, _, rfl, hv, hr⟩
      · cases h
    · cases h
  | pop =>
    dsimp only [eg_st] at h ⊢
    split at h
    · split at h
      · rename_i hc
        cases h
        obtain ⟨_, _, rfl, hv, hr⟩ := hs
        dsimp only
        rw [if_pos (by rw [et_vr_cat hv]; exact hc)]
        exact et_k0 hL hr
      · cases h
    · cases h
  | dup2 =>
    dsimp only [eg_st] at h ⊢
    split at h
    · split at h
      · rename_i hc
        cases h
        obtain ⟨_, _, rfl, hv, _, _, rfl, hw, hr⟩ := hs
        dsimp only
        rw [if_pos (by rw [et_vr_cat hv, et_vr_cat hw]; exact hc)]
        exact et_k1 hv hL ⟨_, _, rfl, hw, _, _, rfl, hv, _, _, rfl, hw, hr⟩
      · cases h
    · cases h
  | goto off =>
    dsimp only [eg_st] at h ⊢
    split at h
    · rename_i hc
      cases h
      rw [if_pos hc]
      exact et_k0 hL hs
    · cases h
  | ifCond c off =>
    dsimp only [eg_st] at h ⊢
    split at h
    · split at h
      · rename_i hc
        cases h
        obtain ⟨_, _, rfl, rfl, hr⟩ := hs
        dsimp only
        rw [if_pos hc]
        exact et_k0 hL hr
      · cases h
    · cases h
  | if_icmp c off =>
    dsimp only [eg_st] at h ⊢
    split at h
    · split at h
      · rename_i hc
        cases h
        obtain ⟨_, _, rfl, rfl, _, _, rfl, rfl, hr⟩ := hs
        dsimp only
        rw [if_pos hc]
        exact et_k0 hL hr
      · cases h
    · cases h
  | if_acmp c off =>
    dsimp only [eg_st] at h ⊢
    split at h
    · split at h
      · rename_i hc
        cases h
        obtain ⟨_, _, rfl, hv, _, _, rfl, hw, hr⟩ := hs
        have e1 := et_vr_eq (et_ca hc.2.2) hv
        have e2 := et_vr_eq (et_ca hc.2.1) hw
        subst e1
        subst e2
        dsimp only
        rw [if_pos hc]
        exact et_k0 hL hr
      · cases h
    · cases h
  | ifnull off =>
    dsimp only [eg_st] at h ⊢
    split at h
    · split at h
      · rename_i hc
        cases h
        obtain ⟨_, _, rfl, rfl, hr⟩ := hs
        dsimp only
        rw [if_pos hc]
        exact et_k0 hL hr
      · cases h
    · cases h
      obtain ⟨_, _, rfl, rfl, hr⟩ := hs
      exact et_k0 hL hr
    · cases h
  | ifnonnull off =>
    dsimp only [eg_st] at h ⊢
    split at h
    · split at h
      · rename_i hc
        cases h
        obtain ⟨_, _, rfl, rfl, hr⟩ := hs
        dsimp only
        rw [if_pos hc]
        exact et_k0 hL hr
      · cases h
    · cases h
      obtain ⟨_, _, rfl, rfl, hr⟩ := hs
      exact et_k0 hL hr
    · cases h
  | tableswitch d lo hi offs =>
    dsimp only [eg_st] at h ⊢
    split at h
    · obtain ⟨_, _, rfl, rfl, hr⟩ := hs
      dsimp only
      split at h
      · rename_i hc
        rw [if_pos hc]
        split at h
        · rename_i hd
          cases h
          rw [if_pos hd]
          exact et_k0 hL hr
        · cases h
      · rename_i hc
        rw [if_neg hc]
        split at h
        · rename_i off ho
          split at h
          · rename_i hd
            cases h
            try rw [ho]
            try dsimp only
            rw [if_pos hd]
            exact et_k0 hL hr
          · cases h
        · cases h
    · cases h
  | lookupswitch d ps =>
    dsimp only [eg_st] at h ⊢
    split at h
    · obtain ⟨_, _, rfl, rfl, hr⟩ := hs
      dsimp only
      split at h
      · rename_i hd
        cases h
        rw [if_pos hd]
        exact et_k0 hL hr
      · cases h
    · cases h
  | getstatic i =>
    dsimp only [eg_st] at h ⊢
    split at h
    · rename_i k _ hk
      split at h
      · rename_i v hv
        cases h
        exact et_k1 (et_vr_nf (List.all_eq_true.mp et_sv_nf _ (List.mem_of_getElem? hv))) hL hs
      · cases h
    · cases h
  | _ => cases hp

end ETC
