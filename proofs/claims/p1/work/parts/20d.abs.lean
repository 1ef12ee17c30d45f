/-! A STEP ON VALUES WITH TOKENS -/
def ea_K (xs : Nat → Int32) (x : Option eg_S) (S : eg_S) : Prop := ∃ L3 st3 G3, x = some (S.1, L3, st3, G3, S.2.2.2.2.1, S.2.2.2.2.2) ∧ ea_lr xs S.2.1 L3 ∧ ea_sr xs S.2.2.1 st3 ∧ ea_gr xs S.2.2.2.1 G3
def ea_fs (ins : Instr) (S : eg_S) : eg_S := (S.1, S.2.1, ea_fx ins S.2.2.1, S.2.2.2)
section EB
variable {xs : Nat → Int32} {o idx pc len ck sk i kd mc ms n : Nat} {ini : Bool} {L L2 : eg_Ls} {st st2 : List Value} {G H : eg_G} {S : eg_S}
theorem ea_k0 {pc : Nat} (hL : ea_lr xs L L2) (hs : ea_sr xs st st2) (hG : ea_gr xs G H) : ea_K xs (some (pc, L2, st2, H, ck, sk)) (pc, L, st, G, ck, sk) := ⟨_, _, _, rfl, hL, hs, hG⟩
theorem ea_k1 {pc : Nat} {v w : Value} (hv : ea_vr xs v w) (hL : ea_lr xs L L2) (hs : ea_sr xs st st2) (hG : ea_gr xs G H) : ea_K xs (some (pc, L2, w :: st2, H, ck, sk)) (pc, L, v :: st, G, ck, sk) := ⟨_, _, _, rfl, hL, ⟨_, _, rfl, hv, hs⟩, hG⟩

theorem ea_ii {f : Int32 → Int32 → Int32} (h : eg_ii pc L st G ck sk f = some S) (hL : ea_lr xs L L2) (hs : ea_sr xs st st2) (hG : ea_gr xs G H) : ea_K xs (eg_ii pc L2 st2 H ck sk f) S := by
  unfold eg_ii at h
  split at h
  · cases h
    obtain ⟨_, _, rfl, rfl, _, _, rfl, rfl, hr⟩ := hs
    exact ea_k1 rfl hL hr hG
  · cases h
theorem ea_l2 {f : Int64 → Int64 → Int64} (h : eg_l2 pc L st G ck sk f = some S) (hL : ea_lr xs L L2) (hs : ea_sr xs st st2) (hG : ea_gr xs G H) : ea_K xs (eg_l2 pc L2 st2 H ck sk f) S := by
  unfold eg_l2 at h
  split at h
  · cases h
    obtain ⟨_, _, rfl, rfl, _, _, rfl, rfl, hr⟩ := hs
    exact ea_k1 rfl hL hr hG
  · cases h
theorem ea_ls {f : Int64 → Int32 → Int64} (h : eg_ls pc L st G ck sk f = some S) (hL : ea_lr xs L L2) (hs : ea_sr xs st st2) (hG : ea_gr xs G H) : ea_K xs (eg_ls pc L2 st2 H ck sk f) S := by
  unfold eg_ls at h
  split at h
  · cases h
    obtain ⟨_, _, rfl, rfl, _, _, rfl, rfl, hr⟩ := hs
    exact ea_k1 rfl hL hr hG
  · cases h
theorem ea_li (h : eg_li pc L st G ck sk i len = some S) (hL : ea_lr xs L L2) (hs : ea_sr xs st st2) (hG : ea_gr xs G H) : ea_K xs (eg_li pc L2 st2 H ck sk i len) S := by
  unfold eg_li at h
  split at h
  · rename_i hd
    cases h
    obtain ⟨w, e, hw⟩ := ea_lr_ld hL hd
    have e1 : w = _ := hw
    subst e1
    unfold eg_li
    rw [e]
    exact ea_k1 rfl hL hs hG
  · cases h
theorem ea_ll (h : eg_ll pc L st G ck sk i len = some S) (hL : ea_lr xs L L2) (hs : ea_sr xs st st2) (hG : ea_gr xs G H) : ea_K xs (eg_ll pc L2 st2 H ck sk i len) S := by
  unfold eg_ll at h
  split at h
  · rename_i hd
    cases h
    obtain ⟨w, e, hw⟩ := ea_lr_ld hL hd
    have e1 : w = _ := hw
    subst e1
    unfold eg_ll
    rw [e]
    exact ea_k1 rfl hL hs hG
  · cases h
theorem ea_la (h : eg_la pc L st G ck sk i len = some S) (hL : ea_lr xs L L2) (hs : ea_sr xs st st2) (hG : ea_gr xs G H) : ea_K xs (eg_la pc L2 st2 H ck sk i len) S := by
  unfold eg_la at h
  split at h
  · rename_i hd
    cases h
    obtain ⟨w, e, hw⟩ := ea_lr_ld hL hd
    have e1 : w = _ := hw
    subst e1
    unfold eg_la
    rw [e]
    exact ea_k1 rfl hL hs hG
  · rename_i hd
    cases h
    obtain ⟨w, e, hw⟩ := ea_lr_ld hL hd
    have e1 : w = _ := hw
    subst e1
    unfold eg_la
    rw [e]
    exact ea_k1 rfl hL hs hG
  · cases h
theorem ea_si (h : eg_si pc L st G ck sk i len = some S) (hL : ea_lr xs L L2) (hs : ea_sr xs st st2) (hG : ea_gr xs G H) : ea_K xs (eg_si pc L2 st2 H ck sk i len) S := by
  unfold eg_si at h
  split at h
  · split at h
    · rename_i hc
      cases h
      obtain ⟨_, _, rfl, rfl, hr⟩ := hs
      unfold eg_si
      dsimp only
      rw [if_pos (by rw [ea_lr_len hL]; exact hc)]
      exact ea_k0 (ea_lr_s1 i hL rfl) hr hG
    · cases h
  · cases h
theorem ea_sl2 (h : eg_sl2 pc L st G ck sk i len = some S) (hL : ea_lr xs L L2) (hs : ea_sr xs st st2) (hG : ea_gr xs G H) : ea_K xs (eg_sl2 pc L2 st2 H ck sk i len) S := by
  unfold eg_sl2 at h
  split at h
  · split at h
    · rename_i hc
      cases h
      obtain ⟨_, _, rfl, rfl, hr⟩ := hs
      unfold eg_sl2
      dsimp only
      rw [if_pos (by rw [ea_lr_len hL]; exact hc)]
      exact ea_k0 (ea_lr_s2 i hL rfl) hr hG
    · cases h
  · cases h
theorem ea_sa (h : eg_sa pc L st G ck sk i len = some S) (hL : ea_lr xs L L2) (hs : ea_sr xs st st2) (hG : ea_gr xs G H) : ea_K xs (eg_sa pc L2 st2 H ck sk i len) S := by
  unfold eg_sa at h
  split at h
  · split at h
    · rename_i hc
      cases h
      obtain ⟨_, _, rfl, rfl, hr⟩ := hs
      unfold eg_sa
      dsimp only
      rw [if_pos (by rw [ea_lr_len hL]; exact hc)]
      exact ea_k0 (ea_lr_s1 i hL rfl) hr hG
    · cases h
  · split at h
    · rename_i hc
      cases h
      obtain ⟨_, _, rfl, rfl, hr⟩ := hs
      unfold eg_sa
      dsimp only
      rw [if_pos (by rw [ea_lr_len hL]; exact hc)]
      exact ea_k0 (ea_lr_s1 i hL rfl) hr hG
    · cases h
  · cases h
theorem ea_kk {v : Value} (h : eg_kk kd v = true) : ea_nf v = true := by
  cases v <;> first | rfl | cases h
theorem ea_kst (h : eg_kst o idx len kd pc L st G ck sk = some S) (hL : ea_lr xs L L2) (hs : ea_sr xs st st2) (hG : ea_gr xs G H) : ea_K xs (eg_kst o idx len kd pc L2 st2 H ck sk) S := by
  unfold eg_kst at h ⊢
  split at h
  · split at h
    · rename_i v he hk
      cases h
      try rw [he]
      try dsimp only
      rw [if_pos hk]
      exact ea_k1 (ea_vr_nf (ea_kk hk)) hL hs hG
    · cases h
  · cases h
theorem ea_ar {ins : Instr} (h : eg_ar ins pc L st G ck sk = some S) (hi : ∀ st : List Value, ea_fx ins st = ea_fx .iaload st ∨ (ea_fx ins st = st ∧ eg_ak ins 0 = false ∧ eg_ak ins 1 = false ∧ eg_ak ins 3 = false ∧ eg_ak ins 4 = false)) (hL : ea_lr xs L L2) (hs : ea_sr xs st st2) (hG : ea_gr xs G H) : ea_K xs (eg_ar ins pc L2 st2 H ck sk) (ea_fs ins S) := by
  unfold eg_ar at h
  split at h
  · rename_i i a r
    split at h
    · rename_i t x he
      split at h
      · rename_i hc
        split at h
        · rename_i v hv
          cases h
          obtain ⟨_, _, rfl, rfl, _, _, rfl, rfl, hr⟩ := hs
          have h1 := ea_at hG a
          rw [he] at h1
          unfold eg_ar
          dsimp only
          obtain ⟨nn, f | q⟩ := x
          · obtain ⟨g, e, hg⟩ := h1
            rw [e]
            dsimp only
            rw [if_pos (by rw [hG.1]; exact hc)]
            unfold eg_rd at hv ⊢
            dsimp only at hv ⊢
            split at hv
            · rename_i ht
              cases hv
              rw [if_pos ht]
              dsimp only
              have hfx : ea_fx ins (.int (f i.toNatClampNeg) :: r) = ea_fx .iaload (.int (f i.toNatClampNeg) :: r) := by
                rcases hi (.int (f i.toNatClampNeg) :: r) with h9 | ⟨-, h0, h3, h4, h5⟩
                · exact h9
                · rcases ht with rfl | rfl | rfl | rfl
                  · rw [h0] at hc; exact absurd hc.2.1 (by decide)
                  · rw [h3] at hc; exact absurd hc.2.1 (by decide)
                  · rw [h4] at hc; exact absurd hc.2.1 (by decide)
                  · rw [h5] at hc; exact absurd hc.2.1 (by decide)
              refine ⟨_, _, _, rfl, hL, ?_, hG⟩
              show ea_sr xs (ea_fx ins (.int (f i.toNatClampNeg) :: r)) _
              rw [hfx]
              unfold ea_fx
              dsimp only
              split
              · exact ⟨_, _, rfl, ⟨_, rfl, fun h7 => absurd h7 (by decide)⟩, hr⟩
              · rename_i hne
                rcases hg i.toNatClampNeg with h8 | h8
                · exact absurd h8 hne
                · rw [h8]
                  exact ⟨_, _, rfl, rfl, hr⟩
            · cases hv
          · have e : eg_at H a = .inl (t, (nn, .inr q)) := h1
            rw [e]
            dsimp only
            rw [if_pos (by rw [hG.1]; exact hc), hv]
            have hnv : (∀ z, v ≠ .int z) ∧ ea_nf v = true := by
              unfold eg_rd at hv
              rcases q with fl | fa | fb | fo
              · dsimp only at hv
                split at hv
                · cases hv
                  exact ⟨fun _ h8 => (nomatch h8), rfl⟩
                · cases hv
              · cases hv
              · cases hv
              · dsimp only at hv
                split at hv
                · cases hv
                  generalize fo i.toNatClampNeg = y
                  cases y
                  · exact ⟨fun _ h8 => (nomatch h8), rfl⟩
                  · exact ⟨fun _ h8 => (nomatch h8), rfl⟩
                · cases hv
            have hfx : ea_fx ins (v :: r) = v :: r := by
              rcases hi (v :: r) with h9 | ⟨h9, -⟩
              · rw [h9]
                unfold ea_fx
                dsimp only
                split
                · rename_i z _ h8
                  cases h8
                  exact absurd rfl (hnv.1 z)
                · rfl
              · exact h9
            refine ⟨_, _, _, rfl, hL, ?_, hG⟩
            show ea_sr xs (ea_fx ins (v :: r)) _
            rw [hfx]
            exact ⟨_, _, rfl, ea_vr_nf hnv.2, hr⟩
        · cases h
      · cases h
    · cases h
  · cases h
theorem ea_wr {t : Nat} {x y : vp_A} {i : Nat} {v : Value} (h : eg_wr G t x i v = some y) (hG : ea_gr xs G H) : ea_nf v = true ∧ ∀ x2 : vp_A, ea_cr xs (.inl (t, x)) (.inl (t, x2)) → x2.1 = x.1 ∧ ∃ y2, eg_wr H t x2 i v = some y2 ∧ ea_cr xs (.inl (t, y)) (.inl (t, y2)) := by
  obtain ⟨nn, f | fl | fa | fb | fo⟩ := x
  · have hup : ∀ {g : Nat → Int32} (z : Int32), (∀ j, f j = ea_S ∨ g j = f j) → ∀ j, upd f i z j = ea_S ∨ upd g i z j = upd f i z j := fun {g} z hg j => by
      unfold upd
      split
      · exact .inr rfl
      · exact hg j
    cases v
    case int z =>
      unfold eg_wr at h
      dsimp only at h
      split at h
      case h_5 => cases h
      all_goals
        cases h
        refine ⟨rfl, fun x2 h1 => ?_⟩
        obtain ⟨g, e, hg⟩ := h1
        cases e
        exact ⟨rfl, _, rfl, _, rfl, hup _ hg⟩
    all_goals exact nomatch h
  · cases v
    case long z =>
      unfold eg_wr at h
      dsimp only at h
      split at h
      · rename_i ht
        cases h
        refine ⟨rfl, fun x2 h1 => ?_⟩
        have e : (Sum.inl (t, x2) : eg_C) = .inl (t, (nn, .inr (.inl fl))) := h1
        cases e
        refine ⟨rfl, _, ?_, ea_cr_arr _ _⟩
        unfold eg_wr
        dsimp only
        rw [if_pos ht]
      · cases h
    all_goals exact nomatch h
  · cases v <;> exact nomatch h
  · cases v <;> exact nomatch h
  · cases v
    case null =>
      unfold eg_wr at h
      dsimp only at h
      split at h
      · rename_i ht
        cases h
        refine ⟨rfl, fun x2 h1 => ?_⟩
        have e : (Sum.inl (t, x2) : eg_C) = .inl (t, (nn, .inr (.inr (.inr (.inr fo))))) := h1
        cases e
        refine ⟨rfl, _, ?_, ea_cr_arr _ _⟩
        unfold eg_wr
        dsimp only
        rw [if_pos ht]
      · cases h
    case ref q =>
      unfold eg_wr at h
      dsimp only at h
      split at h
      · rename_i ht
        cases h
        refine ⟨rfl, fun x2 h1 => ?_⟩
        have e : (Sum.inl (t, x2) : eg_C) = .inl (t, (nn, .inr (.inr (.inr (.inr fo))))) := h1
        cases e
        refine ⟨rfl, _, ?_, ea_cr_arr _ _⟩
        unfold eg_wr
        dsimp only
        rw [if_pos ⟨by rw [hG.1]; exact ht.1, ht.2.1, ht.2.2.1, ea_is hG ht.2.2.2⟩]
      · cases h
    all_goals exact nomatch h
theorem ea_aw {ins : Instr} (h : eg_aw ins pc L st G ck sk = some S) (hL : ea_lr xs L L2) (hs : ea_sr xs st st2) (hG : ea_gr xs G H) : ea_K xs (eg_aw ins pc L2 st2 H ck sk) S := by
  unfold eg_aw at h
  split at h
  · rename_i v i a r
    split at h
    · rename_i t x he
      split at h
      · rename_i hc
        split at h
        · rename_i y hy
          cases h
          obtain ⟨v2, _, rfl, hv, _, _, rfl, rfl, _, _, rfl, rfl, hr⟩ := hs
          have h1 := ea_at hG a
          rw [he] at h1
          obtain ⟨hnf, hw⟩ := ea_wr hy hG
          have e2 := ea_vr_eq hnf hv
          subst e2
          have h2 : ∃ x2, eg_at H a = .inl (t, x2) := by
            obtain ⟨nn, f | q⟩ := x
            · obtain ⟨g, e, hg⟩ := h1
              exact ⟨_, e⟩
            · exact ⟨_, h1⟩
          obtain ⟨x2, e⟩ := h2
          rw [e] at h1
          obtain ⟨hl, y2, ey, hy2⟩ := hw x2 h1
          unfold eg_aw
          dsimp only
          rw [e]
          dsimp only
          rw [if_pos (by rw [hG.1, hl]; exact hc), ey]
          exact ea_k0 hL hr (ea_u hG a hy2)
        · cases h
      · cases h
    · cases h
  · cases h
theorem ea_gf (h : eg_gf o idx pc L st G ck sk = some S) (hL : ea_lr xs L L2) (hs : ea_sr xs st st2) (hG : ea_gr xs G H) : ea_K xs (eg_gf o idx pc L2 st2 H ck sk) S := by
  unfold eg_gf at h ⊢
  split at h
  · rename_i ci k _ hlk
    try rw [hlk]
    try dsimp only
    split at h
    · rename_i a r
      split at h
      · rename_i cj fs he
        split at h
        · rename_i hc
          split at h
          · rename_i v hv
            cases h
            obtain ⟨_, _, rfl, rfl, hr⟩ := hs
            have h1 := ea_at hG a
            rw [he] at h1
            obtain ⟨gs, e, hg⟩ := h1
            dsimp only
            rw [e]
            dsimp only
            obtain ⟨w, ew, hw⟩ := ea_sr_get hg hv
            rw [if_pos (by rw [hG.1]; exact hc), ew]
            exact ea_k1 hw hL hr hG
          · cases h
        · cases h
      · cases h
    · cases h
  · cases h
theorem ea_fit {ty : FieldType} {v : Value} (h : eg_fit ty v = true) : ea_nf v = true := by
  cases v <;> first | rfl | skip
  unfold eg_fit at h
  split at h <;> first | (rename_i h8; cases h8; done) | cases h
theorem ea_pf (h : eg_pf o ini idx pc L st G ck sk = some S) (hL : ea_lr xs L L2) (hs : ea_sr xs st st2) (hG : ea_gr xs G H) : ea_K xs (eg_pf o ini idx pc L2 st2 H ck sk) S := by
  unfold eg_pf at h ⊢
  split at h
  · rename_i ci k hh hlk
    try rw [hlk]
    try dsimp only
    split at h
    · rename_i v a r
      split at h
      · rename_i cj fs he
        split at h
        · rename_i hc
          cases h
          obtain ⟨v2, _, rfl, hv, _, _, rfl, rfl, hr⟩ := hs
          have e2 := ea_vr_eq (ea_fit hc.2.2.2.2.1) hv
          subst e2
          have h1 := ea_at hG a
          rw [he] at h1
          obtain ⟨gs, e, hg⟩ := h1
          dsimp only
          rw [e]
          dsimp only
          rw [if_pos (by rw [hG.1, ea_sr_len hg]; exact hc)]
          exact ea_k0 hL hr (ea_u hG a ⟨_, rfl, ea_sr_set k hg hv⟩)
        · cases h
      · cases h
    · cases h
  · cases h
theorem ea_al {c : eg_C} (h : eg_al mc ms pc len L st G ck sk n c = some S) (hc : ea_cr xs c c) (hL : ea_lr xs L L2) (hs : ea_sr xs st st2) (hG : ea_gr xs G H) : ea_K xs (eg_al mc ms pc len L2 st2 H ck sk n c) S := by
  unfold eg_al at h ⊢
  split at h
  · rename_i hk
    cases h
    rw [if_pos hk, hG.1]
    exact ea_k1 rfl hL hs (ea_p hG hc)
  · cases h
theorem ea_nc_nf : ∀ ci, ci < 12 → (eg_nc (eg_cl.getD ci ("", eg_T0, 0)).2.2 ci).all ea_nf = true := by decide +kernel
theorem ea_sv_nf : eg_sv.all (fun e => ea_nf e.2.2.2) = true := by decide +kernel
theorem ea_ca {v : Value} (h : eg_ca v = true) : ea_nf v = true := by
  cases v <;> first | rfl | cases h
theorem ea_na {t : ArrayType} {k : Nat} {f : Nat → vp_A} (_ : eg_na t = some (k, f)) (n : Nat) : ea_cr xs (.inl (k, f n)) (.inl (k, f n)) := ea_cr_arr _ _
set_option maxHeartbeats 8000000 in
theorem ea_st {ins : Instr} (h : eg_st o ini mc ms pc len ins L st G ck sk = some S) (hL : ea_lr xs L L2) (hs : ea_sr xs st st2) (hG : ea_gr xs G H) : ea_K xs (eg_st o ini mc ms pc len ins L2 st2 H ck sk) (ea_fs ins S) := by
  cases ins with
  | iconst n =>
    dsimp only [eg_st] at h ⊢
    cases h
    exact ea_k1 rfl hL hs hG
  | bipush n =>
    dsimp only [eg_st] at h ⊢
    cases h
    exact ea_k1 rfl hL hs hG
  | sipush n =>
    dsimp only [eg_st] at h ⊢
    cases h
    exact ea_k1 rfl hL hs hG
  | lconst n =>
    dsimp only [eg_st] at h ⊢
    cases h
    exact ea_k1 rfl hL hs hG
  | aconst_null  =>
    dsimp only [eg_st] at h ⊢
    cases h
    exact ea_k1 rfl hL hs hG
  | ldc i => exact ea_kst h hL hs hG
  | ldc_w i => exact ea_kst h hL hs hG
  | ldc2_w i => exact ea_kst h hL hs hG
  | iload i => exact ea_li (len := _) h hL hs hG
  | iload_n i => exact ea_li (len := _) h hL hs hG
  | lload i => exact ea_ll (len := _) h hL hs hG
  | lload_n i => exact ea_ll (len := _) h hL hs hG
  | aload i => exact ea_la (len := _) h hL hs hG
  | aload_n i => exact ea_la (len := _) h hL hs hG
  | istore i => exact ea_si (len := _) h hL hs hG
  | istore_n i => exact ea_si (len := _) h hL hs hG
  | lstore i => exact ea_sl2 (len := _) h hL hs hG
  | lstore_n i => exact ea_sl2 (len := _) h hL hs hG
  | astore i => exact ea_sa (len := _) h hL hs hG
  | astore_n i => exact ea_sa (len := _) h hL hs hG
  | iadd => exact ea_ii h hL hs hG
  | isub => exact ea_ii h hL hs hG
  | imul => exact ea_ii h hL hs hG
  | iand => exact ea_ii h hL hs hG
  | ior => exact ea_ii h hL hs hG
  | ixor => exact ea_ii h hL hs hG
  | ishl => exact ea_ii h hL hs hG
  | ishr => exact ea_ii h hL hs hG
  | iushr => exact ea_ii h hL hs hG
  | ladd => exact ea_l2 h hL hs hG
  | lsub => exact ea_l2 h hL hs hG
  | lmul => exact ea_l2 h hL hs hG
  | land => exact ea_l2 h hL hs hG
  | lor => exact ea_l2 h hL hs hG
  | lshl => exact ea_ls h hL hs hG
  | lshr => exact ea_ls h hL hs hG
  | lushr => exact ea_ls h hL hs hG
  | iaload => exact ea_ar h (fun _ => .inl rfl) hL hs hG
  | baload => exact ea_ar h (fun _ => .inl rfl) hL hs hG
  | caload => exact ea_ar h (fun _ => .inl rfl) hL hs hG
  | laload => exact ea_ar h (fun _ => .inr ⟨rfl, rfl, rfl, rfl, rfl⟩) hL hs hG
  | aaload => exact ea_ar h (fun _ => .inr ⟨rfl, rfl, rfl, rfl, rfl⟩) hL hs hG
  | iastore => exact ea_aw h hL hs hG
  | bastore => exact ea_aw h hL hs hG
  | castore => exact ea_aw h hL hs hG
  | lastore => exact ea_aw h hL hs hG
  | aastore => exact ea_aw h hL hs hG
  | getfield i => exact ea_gf h hL hs hG
  | putfield i => exact ea_pf h hL hs hG
  | iinc i n =>
    dsimp only [eg_st] at h ⊢
    split at h
    · rename_i hd
      split at h
      · rename_i hc
        cases h
        obtain ⟨w, e, hw⟩ := ea_lr_ld hL hd
        have e1 : w = _ := hw
        subst e1
        rw [e]
        dsimp only
        rw [if_pos (by rw [ea_lr_len hL]; exact hc)]
        exact ea_k0 (ea_lr_s1 i hL rfl) hs hG
      · cases h
    · cases h
  | idiv =>
    dsimp only [eg_st] at h ⊢
    split at h
    · split at h
      · cases h
      · rename_i hc
        cases h
        obtain ⟨_, _, rfl, rfl, _, _, rfl, rfl, hr⟩ := hs
        dsimp only
        rw [if_neg hc]
        exact ea_k1 rfl hL hr hG
    · cases h
  | irem =>
    dsimp only [eg_st] at h ⊢
    split at h
    · split at h
      · cases h
      · rename_i hc
        cases h
        obtain ⟨_, _, rfl, rfl, _, _, rfl, rfl, hr⟩ := hs
        dsimp only
        rw [if_neg hc]
        exact ea_k1 rfl hL hr hG
    · cases h
  | ldiv =>
    dsimp only [eg_st] at h ⊢
    split at h
    · split at h
      · cases h
      · rename_i hc
        cases h
        obtain ⟨_, _, rfl, rfl, _, _, rfl, rfl, hr⟩ := hs
        dsimp only
        rw [if_neg hc]
        exact ea_k1 rfl hL hr hG
    · cases h
  | lcmp =>
    dsimp only [eg_st] at h ⊢
    split at h
    · cases h
      obtain ⟨_, _, rfl, rfl, _, _, rfl, rfl, hr⟩ := hs
      exact ea_k1 rfl hL hr hG
    · cases h
  | ineg =>
    dsimp only [eg_st] at h ⊢
    split at h
    · cases h
      obtain ⟨_, _, rfl, rfl, hr⟩ := hs
      exact ea_k1 rfl hL hr hG
    · cases h
  | i2l =>
    dsimp only [eg_st] at h ⊢
    split at h
    · cases h
      obtain ⟨_, _, rfl, rfl, hr⟩ := hs
      exact ea_k1 rfl hL hr hG
    · cases h
  | l2i =>
    dsimp only [eg_st] at h ⊢
    split at h
    · cases h
      obtain ⟨_, _, rfl, rfl, hr⟩ := hs
      exact ea_k1 rfl hL hr hG
    · cases h
  | i2b =>
    dsimp only [eg_st] at h ⊢
    split at h
    · cases h
      obtain ⟨_, _, rfl, rfl, hr⟩ := hs
      exact ea_k1 rfl hL hr hG
    · cases h
  | i2c =>
    dsimp only [eg_st] at h ⊢
    split at h
    · cases h
      obtain ⟨_, _, rfl, rfl, hr⟩ := hs
      exact ea_k1 rfl hL hr hG
    · cases h
  | dup =>
    dsimp only [eg_st] at h ⊢
    split at h
    · split at h
      · rename_i hc
        cases h
        obtain ⟨_, _, rfl, hv, hr⟩ := hs
        dsimp only
        rw [if_pos (by rw [ea_vr_cat hv]; exact hc)]
        exact ea_k1 hv hL ⟨_, _, rfl, hv, hr⟩ hG
      · cases h
    · cases h
  | pop =>
    dsimp only [eg_st] at h ⊢
    split at h
    · split at h
      · rename_i hc
        cases h
        obtain ⟨_, _, rfl, hv, hr⟩ := hs
        dsimp only
        rw [if_pos (by rw [ea_vr_cat hv]; exact hc)]
        exact ea_k0 hL hr hG
      · cases h
    · cases h
  | dup2 =>
    dsimp only [eg_st] at h ⊢
    split at h
    · split at h
      · rename_i hc
        cases h
        obtain ⟨_, _, rfl, hv, _, _, rfl, hw, hr⟩ := hs
        dsimp only
        rw [if_pos (by rw [ea_vr_cat hv, ea_vr_cat hw]; exact hc)]
        exact ea_k1 hv hL ⟨_, _, rfl, hw, _, _, rfl, hv, _, _, rfl, hw, hr⟩ hG
      · cases h
    · cases h
  | goto off =>
    dsimp only [eg_st] at h ⊢
    split at h
    · rename_i hc
      cases h
      rw [if_pos hc]
      exact ea_k0 hL hs hG
    · cases h
  | ifCond c off =>
    dsimp only [eg_st] at h ⊢
    split at h
    · split at h
      · rename_i hc
        cases h
        obtain ⟨_, _, rfl, rfl, hr⟩ := hs
        dsimp only
        rw [if_pos hc]
        exact ea_k0 hL hr hG
      · cases h
    · cases h
  | if_icmp c off =>
    dsimp only [eg_st] at h ⊢
    split at h
    · split at h
      · rename_i hc
        cases h
        obtain ⟨_, _, rfl, rfl, _, _, rfl, rfl, hr⟩ := hs
        dsimp only
        rw [if_pos hc]
        exact ea_k0 hL hr hG
      · cases h
    · cases h
  | if_acmp c off =>
    dsimp only [eg_st] at h ⊢
    split at h
    · split at h
      · rename_i hc
        cases h
        obtain ⟨_, _, rfl, hv, _, _, rfl, hw, hr⟩ := hs
        have e1 := ea_vr_eq (ea_ca hc.2.2) hv
        have e2 := ea_vr_eq (ea_ca hc.2.1) hw
        subst e1
        subst e2
        dsimp only
        rw [if_pos hc]
        exact ea_k0 hL hr hG
      · cases h
    · cases h
  | ifnull off =>
    dsimp only [eg_st] at h ⊢
    split at h
    · split at h
      · rename_i hc
        cases h
        obtain ⟨_, _, rfl, rfl, hr⟩ := hs
        dsimp only
        rw [if_pos hc]
        exact ea_k0 hL hr hG
      · cases h
    · cases h
      obtain ⟨_, _, rfl, rfl, hr⟩ := hs
      exact ea_k0 hL hr hG
    · cases h
  | ifnonnull off =>
    dsimp only [eg_st] at h ⊢
    split at h
    · split at h
      · rename_i hc
        cases h
        obtain ⟨_, _, rfl, rfl, hr⟩ := hs
        dsimp only
        rw [if_pos hc]
        exact ea_k0 hL hr hG
      · cases h
    · cases h
      obtain ⟨_, _, rfl, rfl, hr⟩ := hs
      exact ea_k0 hL hr hG
    · cases h
  | tableswitch d lo hi offs =>
    dsimp only [eg_st] at h ⊢
    split at h
    · obtain ⟨_, _, rfl, rfl, hr⟩ := hs
      dsimp only
      split at h
      · rename_i hc
        rw [if_pos hc]
        split at h
        · rename_i hd
          cases h
          rw [if_pos hd]
          exact ea_k0 hL hr hG
        · cases h
      · rename_i hc
        rw [if_neg hc]
        split at h
        · rename_i off ho
          split at h
          · rename_i hd
            cases h
            try rw [ho]
            try dsimp only
            rw [if_pos hd]
            exact ea_k0 hL hr hG
          · cases h
        · cases h
    · cases h
  | lookupswitch d ps =>
    dsimp only [eg_st] at h ⊢
    split at h
    · obtain ⟨_, _, rfl, rfl, hr⟩ := hs
      dsimp only
      split at h
      · rename_i hd
        cases h
        rw [if_pos hd]
        exact ea_k0 hL hr hG
      · cases h
    · cases h
  | arraylength =>
    dsimp only [eg_st] at h ⊢
    split at h
    · rename_i a r
      split at h
      · rename_i t x he
        split at h
        · rename_i hc
          cases h
          obtain ⟨_, _, rfl, rfl, hr⟩ := hs
          have h1 := ea_at hG a
          rw [he] at h1
          dsimp only
          obtain ⟨nn, f | q⟩ := x
          · obtain ⟨g, e, hg⟩ := h1
            rw [e]
            dsimp only
            rw [if_pos (by rw [hG.1]; exact hc)]
            exact ea_k1 rfl hL hr hG
          · have e : eg_at H a = .inl (t, (nn, .inr q)) := h1
            rw [e]
            dsimp only
            rw [if_pos (by rw [hG.1]; exact hc)]
            exact ea_k1 rfl hL hr hG
        · cases h
      · cases h
    · cases h
  | getstatic i =>
    dsimp only [eg_st] at h ⊢
    split at h
    · rename_i k _ hk
      split at h
      · rename_i v hv
        cases h
        exact ea_k1 (ea_vr_nf (List.all_eq_true.mp ea_sv_nf _ (List.mem_of_getElem? hv))) hL hs hG
      · cases h
    · cases h
  | new i =>
    dsimp only [eg_st] at h ⊢
    split at h
    · rename_i ci hk
      split at h
      · rename_i hc
        rw [if_pos hc]
        exact ea_al h (ea_cr_obj (ea_nc_nf ci hc)) hL hs hG
      · cases h
    · cases h
  | newarray t =>
    dsimp only [eg_st] at h ⊢
    split at h
    · rename_i n r k f hk
      split at h
      · rename_i hc
        obtain ⟨_, _, rfl, rfl, hr⟩ := hs
        rw [hk]
        dsimp only
        rw [if_pos hc]
        exact ea_al h (ea_cr_arr _ _) hL hr hG
      · cases h
    · cases h
  | anewarray i =>
    dsimp only [eg_st] at h ⊢
    split at h
    · rename_i n r ci hk
      split at h
      · rename_i hc
        obtain ⟨_, _, rfl, rfl, hr⟩ := hs
        rw [hk]
        dsimp only
        rw [if_pos hc]
        exact ea_al h (ea_cr_arr _ _) hL hr hG
      · cases h
    · cases h
  | multianewarray i dm =>
    dsimp only [eg_st] at h ⊢
    split at h
    · rename_i k n r hk
      split at h
      · rename_i hc
        cases h
        obtain ⟨_, _, rfl, rfl, _, r2, rfl, rfl, hr⟩ := hs
        rw [hk]
        have h3 : ea_K xs (some (pc + 4, L2, Value.ref H.snd :: r2, eg_mg H n.toNatClampNeg k.toNatClampNeg, ck + 1 + n.toNatClampNeg, sk + n.toNatClampNeg + n.toNatClampNeg * k.toNatClampNeg)) (pc + 4, L, Value.ref G.snd :: r, eg_mg G n.toNatClampNeg k.toNatClampNeg, ck + 1 + n.toNatClampNeg, sk + n.toNatClampNeg + n.toNatClampNeg * k.toNatClampNeg) := by
          rw [hG.1]
          exact ea_k1 rfl hL hr (ea_mg hG _ _)
        split
        · rename_i h7 _
          cases h7
          rw [if_pos hc]
          exact h3
        · rename_i h7
          exact (h7 _ _ _ rfl rfl).elim
      · cases h
    · cases h
  | _ =>
    dsimp only [eg_st] at h
    cases h
end EB
