section EGM
variable {p : Program} {l : Launch} {e : Env} {R : Room} {s : State} {m : MethodId} {args : Array Value} {below : List Frame} {meth : Method} {c : Code} {Q : State → Prop} {b0 : Nat} {D : va_G} {dA : Nat → ClassId} {adc : Nat → Nat} {n0 : Nat} {ad0 : Nat → Nat} {o : Nat} {ini : Bool} {mc ms : Nat} {cc : ByteArray}
variable {pc pc' len : Nat} {L L' : eg_Ls} {st st' r : List Value} {G G' : eg_G} {ck sk ck' sk' : Nat} {ins : Instr}
theorem eg_ca_ok {v : Value} (h : eg_ca v = true) : v.isRef = true ∧ ∀ i, v = .ref i → i < 36 ∨ eg_NC ≤ i := by
  cases v with
  | null => exact ⟨rfl, fun _ h => nomatch h⟩
  | ref i =>
    refine ⟨rfl, fun j hj => ?_⟩
    cases hj
    simpa [eg_ca] using h
  | _ => cases h
theorem st_if {x : Int32} {off : Int} {P : Prop} [Decidable P] (row : ∀ {H : Heap} {locs : List Loc} {ck sk : Nat} {ls : Array Slot} {rest : List Value}, (P → W p l e R s m args below meth c H locs ck sk Q (F0 m (eg_tg pc off) ls rest)) → (¬ P → W p l e R s m args below meth c H locs ck sk Q (F0 m (pc + 3) ls rest)) → W p l e R s m args below meth c H locs ck sk Q (F0 m pc ls (.int x :: rest)))
    (k : eg_J p l e R s m args below meth c Q b0 D dA adc n0 ad0 (if P then eg_tg pc off else pc + 3) L r G ck sk) : eg_J p l e R s m args below meth c Q b0 D dA adc n0 ad0 pc L (.int x :: r) G ck sk := by
  intro ad H locs ls hR hL hS
  obtain ⟨-, h2⟩ := List.forall_mem_cons.mp hS
  have hkk := k ad H locs ls hR hL h2
  refine row (fun h => ?_) (fun h => ?_)
  · rw [if_pos h] at hkk
    exact hkk
  · rw [if_neg h] at hkk
    exact hkk
theorem st_if2 {x y : Int32} {off : Int} {P : Prop} [Decidable P] (row : ∀ {H : Heap} {locs : List Loc} {ck sk : Nat} {ls : Array Slot} {rest : List Value}, (P → W p l e R s m args below meth c H locs ck sk Q (F0 m (eg_tg pc off) ls rest)) → (¬ P → W p l e R s m args below meth c H locs ck sk Q (F0 m (pc + 3) ls rest)) → W p l e R s m args below meth c H locs ck sk Q (F0 m pc ls (.int y :: .int x :: rest)))
    (k : eg_J p l e R s m args below meth c Q b0 D dA adc n0 ad0 (if P then eg_tg pc off else pc + 3) L r G ck sk) : eg_J p l e R s m args below meth c Q b0 D dA adc n0 ad0 pc L (.int y :: .int x :: r) G ck sk := by
  intro ad H locs ls hR hL hS
  obtain ⟨-, h2⟩ := List.forall_mem_cons.mp hS
  obtain ⟨-, h2⟩ := List.forall_mem_cons.mp h2
  have hkk := k ad H locs ls hR hL h2
  refine row (fun h => ?_) (fun h => ?_)
  · rw [if_pos h] at hkk
    exact hkk
  · rw [if_neg h] at hkk
    exact hkk
theorem st_pop1 {v w : Value} {n : Nat} (row : ∀ {H : Heap} {locs : List Loc} {ck sk : Nat} {ls : Array Slot} {rest : List Value}, W p l e R s m args below meth c H locs ck sk Q (F0 m (pc + n) ls (w :: rest)) → W p l e R s m args below meth c H locs ck sk Q (F0 m pc ls (v :: rest))) (hv : ∀ i, v ≠ .ref i) (hw : ∀ i, w ≠ .ref i)
    (k : eg_J p l e R s m args below meth c Q b0 D dA adc n0 ad0 (pc + n) L (w :: r) G ck sk) : eg_J p l e R s m args below meth c Q b0 D dA adc n0 ad0 pc L (v :: r) G ck sk := by
  intro ad H locs ls hR hL hS
  obtain ⟨-, h2⟩ := List.forall_mem_cons.mp hS
  have hkk := k ad H locs ls hR hL (List.forall_mem_cons.mpr ⟨fun i hi => absurd hi (hw i), h2⟩)
  have e0 : eg_v ad v = v := by
    cases v <;> first | rfl | exact absurd rfl (hv _)
  have e1 : eg_v ad w = w := by
    cases w <;> first | rfl | exact absurd rfl (hw _)
  rw [List.map_cons, e1] at hkk
  rw [List.map_cons, e0]
  exact row hkk
theorem st_jump {n : Nat} (row : ∀ {H : Heap} {locs : List Loc} {ck sk : Nat} {ls : Array Slot} {rest : List Value}, W p l e R s m args below meth c H locs ck sk Q (F0 m n ls rest) → W p l e R s m args below meth c H locs ck sk Q (F0 m pc ls rest))
    (k : eg_J p l e R s m args below meth c Q b0 D dA adc n0 ad0 n L st G ck sk) : eg_J p l e R s m args below meth c Q b0 D dA adc n0 ad0 pc L st G ck sk := fun ad H locs ls hR hL hS => row (k ad H locs ls hR hL hS)
theorem st_jumpi {n : Nat} {x : Int32} (row : ∀ {H : Heap} {locs : List Loc} {ck sk : Nat} {ls : Array Slot} {rest : List Value}, W p l e R s m args below meth c H locs ck sk Q (F0 m n ls rest) → W p l e R s m args below meth c H locs ck sk Q (F0 m pc ls (.int x :: rest)))
    (k : eg_J p l e R s m args below meth c Q b0 D dA adc n0 ad0 n L r G ck sk) : eg_J p l e R s m args below meth c Q b0 D dA adc n0 ad0 pc L (.int x :: r) G ck sk := fun ad H locs ls hR hL hS => row (k ad H locs ls hR hL (List.forall_mem_cons.mp hS).2)
set_option maxHeartbeats 4000000 in
theorem eg_step (X : eg_X p s m args meth c R b0 D dA adc o ini mc ms cc) (d : decode cc pc = .ok (ins, len)) (hl : eg_lok ins len = true) (h : eg_st o ini mc ms pc len ins L st G ck sk = some (pc', L', st', G', ck', sk')) (k : eg_J p l e R s m args below meth c Q b0 D dA adc n0 ad0 pc' L' st' G' ck' sk') (kn : eg_s151 o ins = true → eg_J p l e R s m args below meth c Q b0 D dA adc n0 ad0 (pc + 3) L (.null :: st) G ck sk) : eg_J p l e R s m args below meth c Q b0 D dA adc n0 ad0 pc L st G ck sk := by
  have hx := X.1
  have hb := X.2.1
  cases ins with
  | iconst n => have hl' : len = 1 := by simpa [eg_lok] using hl
                subst hl'; cases h; exact st_push (fun kk => lv_iconst hx hb d rfl kk) (fun _ h => nomatch h) k
  | bipush n => have hl' : len = 2 := by simpa [eg_lok] using hl
                subst hl'; cases h; exact st_push (fun kk => lv_bipush hx hb d rfl kk) (fun _ h => nomatch h) k
  | sipush n => have hl' : len = 3 := by simpa [eg_lok] using hl
                subst hl'; cases h; exact st_push (fun kk => lv_sipush hx hb d rfl kk) (fun _ h => nomatch h) k
  | lconst n => have hl' : len = 1 := by simpa [eg_lok] using hl
                subst hl'; cases h; exact st_push (fun kk => lv_lconst hx hb d rfl kk) (fun _ h => nomatch h) k
  | aconst_null => have hl' : len = 1 := by simpa [eg_lok] using hl
                   subst hl'; cases h; exact st_push (fun kk => lv_null hx hb d kk) (fun _ h => nomatch h) k
  | ldc i => have hl' : len = 2 := by simpa [eg_lok] using hl
             subst hl'; exact st_kst X (Or.inl ⟨rfl, rfl⟩) d h ⟨(fun h => nomatch h), (fun h => nomatch h), fun _ => rfl⟩ k
  | ldc_w i => have hl' : len = 3 := by simpa [eg_lok] using hl
               subst hl'; exact st_kst X (Or.inr ⟨rfl, Or.inl rfl⟩) d h ⟨(fun h => nomatch h), (fun _ => rfl), (fun h => nomatch h)⟩ k
  | ldc2_w i => have hl' : len = 3 := by simpa [eg_lok] using hl
                subst hl'; exact st_kst X (Or.inr ⟨rfl, Or.inr rfl⟩) d h ⟨(fun _ => rfl), (fun h => nomatch h), (fun h => nomatch h)⟩ k
  | iload i => have hl' : len = 2 := by simpa [eg_lok] using hl
               subst hl'; exact sj_li (len := 2) (fun h1 kk => lv_iload hx hb d h1 kk) h k
  | iload_n i => have hl' : len = 1 := by simpa [eg_lok] using hl
                 subst hl'; exact sj_li (len := 1) (fun h1 kk => lv_iload_n hx hb d rfl h1 kk) h k
  | lload i => have hl' : len = 2 := by simpa [eg_lok] using hl
               subst hl'; exact sj_ll (len := 2) (fun h1 kk => lv_lload hx hb d h1 kk) h k
  | lload_n i => have hl' : len = 1 := by simpa [eg_lok] using hl
                 subst hl'; exact sj_ll (len := 1) (fun h1 kk => lv_lload_n hx hb d rfl h1 kk) h k
  | aload i => have hl' : len = 2 := by simpa [eg_lok] using hl
               subst hl'; exact sj_la (len := 2) (fun h1 kk => lv_aload hx hb d h1 kk) (fun h1 kk => lv_aloadN hx hb d h1 kk) h k
  | aload_n i => have hl' : len = 1 := by simpa [eg_lok] using hl
                 subst hl'; exact sj_la (len := 1) (fun h1 kk => lv_aload_n hx hb d rfl h1 kk) (fun h1 kk => lv_aload_nN hx hb d rfl h1 kk) h k
  | istore i => have hl' : len = 2 := by simpa [eg_lok] using hl
                subst hl'; exact sj_si (len := 2) (fun h1 h2 kk => lv_istore hx hb d h1 h2 rfl kk) h k
  | istore_n i => have hl' : len = 1 := by simpa [eg_lok] using hl
                  subst hl'; exact sj_si (len := 1) (fun h1 h2 kk => lv_istore_n hx hb d rfl h1 h2 rfl kk) h k
  | lstore i => have hl' : len = 2 := by simpa [eg_lok] using hl
                subst hl'; exact sj_sl (len := 2) (fun h1 h2 kk => lv_lstore hx hb d h1 h2 rfl kk) h k
  | lstore_n i => have hl' : len = 1 := by simpa [eg_lok] using hl
                  subst hl'; exact sj_sl (len := 1) (fun h1 h2 kk => lv_lstore_n hx hb d rfl h1 h2 rfl kk) h k
  | astore i => have hl' : len = 2 := by simpa [eg_lok] using hl
                subst hl'; exact sj_sa (len := 2) (fun h1 h2 kk => lv_astore hx hb d h1 h2 rfl kk) (fun h1 h2 kk => lv_astoreN hx hb d h1 h2 rfl kk) h k
  | astore_n i => have hl' : len = 1 := by simpa [eg_lok] using hl
                  subst hl'; exact sj_sa (len := 1) (fun h1 h2 kk => lv_astore_n hx hb d rfl h1 h2 rfl kk) (fun h1 h2 kk => lv_astore_nN hx hb d rfl h1 h2 rfl kk) h k
  | iinc i n =>
    simp only [eg_st] at h
    split at h
    · rename_i x hxx
      split at h
      · rename_i hc
        obtain ⟨hlen, hi⟩ := hc
        subst hlen
        cases h
        intro ad H locs ls hR hL hS
        have hm := eg_lq_at ad L 0 i _ (eg_ld_at hxx)
        rw [Nat.zero_add] at hm
        obtain ⟨k0, hk0⟩ := List.getElem?_of_mem hm
        exact lv_iinc hx hb d hL.1 hk0 rfl hi rfl (fun ls' hl' => k ad H locs ls' hR (eg_LR_s1 (v := .int _) hL eg_oki hl') hS)
      · cases h
    · cases h
  | iadd => have hl' : len = 1 := by simpa [eg_lok] using hl
            subst hl'; exact sj_ii (fun kk => lv_iadd hx hb d kk) h k
  | isub => have hl' : len = 1 := by simpa [eg_lok] using hl
            subst hl'; exact sj_ii (fun kk => lv_isub hx hb d kk) h k
  | imul => have hl' : len = 1 := by simpa [eg_lok] using hl
            subst hl'; exact sj_ii (fun kk => lv_imul hx hb d kk) h k
  | iand => have hl' : len = 1 := by simpa [eg_lok] using hl
            subst hl'; exact sj_ii (fun kk => lv_iand hx hb d kk) h k
  | ior => have hl' : len = 1 := by simpa [eg_lok] using hl
           subst hl'; exact sj_ii (fun kk => lv_ior hx hb d kk) h k
  | ixor => have hl' : len = 1 := by simpa [eg_lok] using hl
            subst hl'; exact sj_ii (fun kk => lv_ixor hx hb d kk) h k
  | ishl => have hl' : len = 1 := by simpa [eg_lok] using hl
            subst hl'; exact sj_ii (fun kk => lv_ishl hx hb d kk) h k
  | ishr => have hl' : len = 1 := by simpa [eg_lok] using hl
            subst hl'; exact sj_ii (fun kk => lv_ishr hx hb d kk) h k
  | iushr => have hl' : len = 1 := by simpa [eg_lok] using hl
             subst hl'; exact sj_ii (fun kk => lv_iushr hx hb d rfl kk) h k
  | ladd => have hl' : len = 1 := by simpa [eg_lok] using hl
            subst hl'; exact sj_l2 (fun kk => lv_ladd hx hb d kk) h k
  | lsub => have hl' : len = 1 := by simpa [eg_lok] using hl
            subst hl'; exact sj_l2 (fun kk => lv_lsub hx hb d kk) h k
  | lmul => have hl' : len = 1 := by simpa [eg_lok] using hl
            subst hl'; exact sj_l2 (fun kk => lv_lmul hx hb d kk) h k
  | land => have hl' : len = 1 := by simpa [eg_lok] using hl
            subst hl'; exact sj_l2 (fun kk => lv_land hx hb d kk) h k
  | lor => have hl' : len = 1 := by simpa [eg_lok] using hl
           subst hl'; exact sj_l2 (fun kk => lv_lor hx hb d kk) h k
  | lshl => have hl' : len = 1 := by simpa [eg_lok] using hl
            subst hl'; exact sj_ls (fun kk => lv_lshl hx hb d rfl kk) h k
  | lshr => have hl' : len = 1 := by simpa [eg_lok] using hl
            subst hl'; exact sj_ls (fun kk => lv_lshr hx hb d rfl kk) h k
  | lushr => have hl' : len = 1 := by simpa [eg_lok] using hl
             subst hl'; exact sj_ls (fun kk => lv_lushr hx hb d rfl kk) h k
  | idiv =>
    have hl' : len = 1 := by simpa [eg_lok] using hl
    subst hl'
    simp only [eg_st] at h
    split at h
    · rename_i y x r
      split at h
      · cases h
      · rename_i hne
        cases h
        intro ad H locs ls hR hL hS
        obtain ⟨-, h2⟩ := List.forall_mem_cons.mp hS
        obtain ⟨-, h2⟩ := List.forall_mem_cons.mp h2
        exact lv_idiv hx hb d hne (k ad H locs ls hR hL (List.forall_mem_cons.mpr ⟨eg_oki, h2⟩))
    · cases h
  | irem =>
    have hl' : len = 1 := by simpa [eg_lok] using hl
    subst hl'
    simp only [eg_st] at h
    split at h
    · rename_i y x r
      split at h
      · cases h
      · rename_i hne
        cases h
        intro ad H locs ls hR hL hS
        obtain ⟨-, h2⟩ := List.forall_mem_cons.mp hS
        obtain ⟨-, h2⟩ := List.forall_mem_cons.mp h2
        exact lv_irem hx hb d hne (k ad H locs ls hR hL (List.forall_mem_cons.mpr ⟨eg_oki, h2⟩))
    · cases h
  | ldiv =>
    have hl' : len = 1 := by simpa [eg_lok] using hl
    subst hl'
    simp only [eg_st] at h
    split at h
    · rename_i y x r
      split at h
      · cases h
      · rename_i hne
        cases h
        intro ad H locs ls hR hL hS
        obtain ⟨-, h2⟩ := List.forall_mem_cons.mp hS
        obtain ⟨-, h2⟩ := List.forall_mem_cons.mp h2
        exact lv_ldiv hx hb d hne (k ad H locs ls hR hL (List.forall_mem_cons.mpr ⟨eg_okl, h2⟩))
    · cases h
  | lcmp =>
    have hl' : len = 1 := by simpa [eg_lok] using hl
    subst hl'
    simp only [eg_st] at h
    split at h
    · cases h
      intro ad H locs ls hR hL hS
      obtain ⟨-, h2⟩ := List.forall_mem_cons.mp hS
      obtain ⟨-, h2⟩ := List.forall_mem_cons.mp h2
      exact W.lcmp hx hb d (k ad H locs ls hR hL (List.forall_mem_cons.mpr ⟨eg_oki, h2⟩))
    · cases h
  | ineg =>
    have hl' : len = 1 := by simpa [eg_lok] using hl
    subst hl'
    simp only [eg_st] at h
    split at h
    · cases h; exact st_pop1 (fun kk => lv_ineg hx hb d kk) (fun _ h => nomatch h) (fun _ h => nomatch h) k
    · cases h
  | i2l =>
    have hl' : len = 1 := by simpa [eg_lok] using hl
    subst hl'
    simp only [eg_st] at h
    split at h
    · cases h; exact st_pop1 (fun kk => lv_i2l hx hb d rfl kk) (fun _ h => nomatch h) (fun _ h => nomatch h) k
    · cases h
  | l2i =>
    have hl' : len = 1 := by simpa [eg_lok] using hl
    subst hl'
    simp only [eg_st] at h
    split at h
    · cases h; exact st_pop1 (fun kk => lv_l2i hx hb d rfl kk) (fun _ h => nomatch h) (fun _ h => nomatch h) k
    · cases h
  | i2b =>
    have hl' : len = 1 := by simpa [eg_lok] using hl
    subst hl'
    simp only [eg_st] at h
    split at h
    · cases h; exact st_pop1 (fun kk => lv_i2b hx hb d rfl kk) (fun _ h => nomatch h) (fun _ h => nomatch h) k
    · cases h
  | i2c =>
    have hl' : len = 1 := by simpa [eg_lok] using hl
    subst hl'
    simp only [eg_st] at h
    split at h
    · cases h; exact st_pop1 (fun kk => lv_i2c hx hb d rfl kk) (fun _ h => nomatch h) (fun _ h => nomatch h) k
    · cases h
  | dup =>
    have hl' : len = 1 := by simpa [eg_lok] using hl
    subst hl'
    simp only [eg_st] at h
    split at h
    · split at h
      · rename_i hc
        cases h
        intro ad H locs ls hR hL hS
        obtain ⟨h1, h2⟩ := List.forall_mem_cons.mp hS
        exact lv_dup hx hb d (by rw [eg_vcat]; exact hc) (k ad H locs ls hR hL (List.forall_mem_cons.mpr ⟨h1, hS⟩))
      · cases h
    · cases h
  | pop =>
    have hl' : len = 1 := by simpa [eg_lok] using hl
    subst hl'
    simp only [eg_st] at h
    split at h
    · split at h
      · rename_i hc
        cases h
        intro ad H locs ls hR hL hS
        obtain ⟨h1, h2⟩ := List.forall_mem_cons.mp hS
        exact lv_pop hx hb d (by rw [eg_vcat]; exact hc) (k ad H locs ls hR hL h2)
      · cases h
    · cases h
  | dup2 =>
    have hl' : len = 1 := by simpa [eg_lok] using hl
    subst hl'
    simp only [eg_st] at h
    split at h
    · split at h
      · rename_i hc
        cases h
        intro ad H locs ls hR hL hS
        obtain ⟨h1, h2⟩ := List.forall_mem_cons.mp hS
        obtain ⟨h3, h4⟩ := List.forall_mem_cons.mp h2
        exact lv_dup2_11 hx hb d (by rw [eg_vcat]; exact hc.1) (by rw [eg_vcat]; exact hc.2) (k ad H locs ls hR hL (List.forall_mem_cons.mpr ⟨h1, List.forall_mem_cons.mpr ⟨h3, hS⟩⟩))
      · cases h
    · cases h
  | goto off =>
    have hl' : len = 3 := by simpa [eg_lok] using hl
    subst hl'
    simp only [eg_st] at h
    split at h
    · rename_i ho
      cases h
      exact st_jump (fun kk => lv_goto hx hb d (eg_tg_ok ho) kk) k
    · cases h
  | ifCond cnd off =>
    have hl' : len = 3 := by simpa [eg_lok] using hl
    subst hl'
    simp only [eg_st] at h
    split at h
    · split at h
      · rename_i ho
        cases h
        cases cnd with
        | eq => exact st_if (fun a b => lv_if_eq hx hb d (eg_tg_ok ho) a b) k
        | ne => exact st_if (fun a b => lv_if_ne hx hb d (eg_tg_ok ho) a (fun h => b (fun q => q h))) k
        | lt => exact st_if (fun a b => lv_if_lt hx hb d (eg_tg_ok ho) a b) k
        | ge => exact st_if (fun a b => lv_if_ge hx hb d (eg_tg_ok ho) a b) k
        | gt => exact st_if (fun a b => lv_if_gt hx hb d (eg_tg_ok ho) a b) k
        | le => exact st_if (fun a b => lv_if_le hx hb d (eg_tg_ok ho) a b) k
      · cases h
    · cases h
  | if_icmp cnd off =>
    have hl' : len = 3 := by simpa [eg_lok] using hl
    subst hl'
    simp only [eg_st] at h
    split at h
    · split at h
      · rename_i ho
        cases h
        cases cnd with
        | eq => exact st_if2 (fun a b => lv_icmp_eq hx hb d (eg_tg_ok ho) a b) k
        | ne => exact st_if2 (fun a b => lv_icmp_ne hx hb d (eg_tg_ok ho) a (fun h => b (fun q => q h))) k
        | lt => exact st_if2 (fun a b => lv_icmp_lt hx hb d (eg_tg_ok ho) a b) k
        | ge => exact st_if2 (fun a b => lv_icmp_ge hx hb d (eg_tg_ok ho) a b) k
        | gt => exact st_if2 (fun a b => lv_icmp_gt hx hb d (eg_tg_ok ho) a b) k
        | le => exact st_if2 (fun a b => lv_icmp_le hx hb d (eg_tg_ok ho) a b) k
      · cases h
    · cases h
  | if_acmp cnd off =>
    have hl' : len = 3 := by simpa [eg_lok] using hl
    subst hl'
    simp only [eg_st] at h
    split at h
    · split at h
      · rename_i ho
        cases h
        cases cnd with
        | eq => exact st_acmp (ac := .eq) X d ho.1 (eg_ca_ok ho.2.1).1 (eg_ca_ok ho.2.2).1 (eg_ca_ok ho.2.1).2 (eg_ca_ok ho.2.2).2 k
        | ne => exact st_acmp (ac := .ne) X d ho.1 (eg_ca_ok ho.2.1).1 (eg_ca_ok ho.2.2).1 (eg_ca_ok ho.2.1).2 (eg_ca_ok ho.2.2).2 k
      · cases h
    · cases h
  | ifnull off =>
    have hl' : len = 3 := by simpa [eg_lok] using hl
    subst hl'
    simp only [eg_st] at h
    split at h
    · split at h
      · rename_i ho
        cases h
        exact fun ad H locs ls hR hL hS => lv_ifnullN hx hb d (eg_tg_ok ho) (k ad H locs ls hR hL (List.forall_mem_cons.mp hS).2)
      · cases h
    · cases h
      exact fun ad H locs ls hR hL hS => lv_ifnull hx hb d (k ad H locs ls hR hL (List.forall_mem_cons.mp hS).2)
    · cases h
  | ifnonnull off =>
    have hl' : len = 3 := by simpa [eg_lok] using hl
    subst hl'
    simp only [eg_st] at h
    split at h
    · split at h
      · rename_i ho
        cases h
        exact fun ad H locs ls hR hL hS => lv_ifnonnull hx hb d (eg_tg_ok ho) (k ad H locs ls hR hL (List.forall_mem_cons.mp hS).2)
      · cases h
    · cases h
      exact fun ad H locs ls hR hL hS => lv_ifnonnullN hx hb d (k ad H locs ls hR hL (List.forall_mem_cons.mp hS).2)
    · cases h
  | tableswitch df lo hi offs =>
    simp only [eg_st] at h
    split at h
    · split at h
      · rename_i hout
        split at h
        · rename_i ho
          cases h
          exact st_jumpi (fun kk => lv_tableOut hx hb d hout (eg_tg_ok ho) kk) k
        · cases h
      · rename_i hin
        split at h
        · rename_i off hoff
          split at h
          · rename_i ho
            cases h
            exact st_jumpi (fun kk => lv_tableIn hx hb d (fun q => hin (Or.inl q)) (fun q => hin (Or.inr q)) hoff (eg_tg_ok ho) kk) k
          · cases h
        · cases h
    · cases h
  | lookupswitch df ps =>
    simp only [eg_st] at h
    split at h
    · split at h
      · rename_i ho
        cases h
        exact st_jumpi (fun kk => lv_lookup hx hb d ho.1 rfl (eg_tg_ok ho.2) kk) k
      · cases h
    · cases h
  | iaload => have hl' : len = 1 := by simpa [eg_lok] using hl
              subst hl'; exact st_ar X d (by simp) h k
  | baload => have hl' : len = 1 := by simpa [eg_lok] using hl
              subst hl'; exact st_ar X d (by simp) h k
  | caload => have hl' : len = 1 := by simpa [eg_lok] using hl
              subst hl'; exact st_ar X d (by simp) h k
  | laload => have hl' : len = 1 := by simpa [eg_lok] using hl
              subst hl'; exact st_ar X d (by simp) h k
  | aaload => have hl' : len = 1 := by simpa [eg_lok] using hl
              subst hl'; exact st_ar X d (by simp) h k
  | iastore => have hl' : len = 1 := by simpa [eg_lok] using hl
               subst hl'; exact st_aw X d (by simp) h k
  | bastore => have hl' : len = 1 := by simpa [eg_lok] using hl
               subst hl'; exact st_aw X d (by simp) h k
  | castore => have hl' : len = 1 := by simpa [eg_lok] using hl
               subst hl'; exact st_aw X d (by simp) h k
  | lastore => have hl' : len = 1 := by simpa [eg_lok] using hl
               subst hl'; exact st_aw X d (by simp) h k
  | aastore => have hl' : len = 1 := by simpa [eg_lok] using hl
               subst hl'; exact st_aw X d (by simp) h k
  | arraylength =>
    have hl' : len = 1 := by simpa [eg_lok] using hl
    subst hl'
    simp only [eg_st] at h
    split at h
    · split at h
      · rename_i hG
        split at h
        · rename_i hc
          cases h
          exact sh_len X d hG hc.1 hc.2 k
        · cases h
      · cases h
    · cases h
  | getfield i => have hl' : len = 3 := by simpa [eg_lok] using hl
                  subst hl'; exact st_gf X d h k
  | putfield i => have hl' : len = 3 := by simpa [eg_lok] using hl
                  subst hl'; exact st_pf X d h k
  | getstatic i =>
    have hl' : len = 3 := by simpa [eg_lok] using hl
    subst hl'
    simp only [eg_st] at h
    split at h
    · rename_i hlk
      split at h
      · rename_i hsv
        cases h
        exact sh_sta X d (eg_lk hlk) hsv k (fun hv => kn (by
          unfold eg_s151
          dsimp only
          rw [hlk]
          dsimp only
          rw [hsv]
          exact decide_eq_true hv))
      · cases h
    · cases h
  | new i =>
    have hl' : len = 3 := by simpa [eg_lok] using hl
    subst hl'
    simp only [eg_st] at h
    split at h
    · rename_i ci hlk
      split at h
      · rename_i hci
        unfold eg_al at h
        split at h
        · rename_i hc
          cases h
          have hq : eg_cl[ci]? = some (eg_cl.getD ci ("", eg_T0, 0)) := by
            have hlt : ci < eg_cl.length := hci
            rw [List.getD_eq_getElem?_getD, List.getElem?_eq_getElem hlt]
            rfl
          exact sh_new X d (eg_lk hlk) hq hc.1 hc.2 k
        · cases h
      · cases h
    · cases h
  | newarray t =>
    have hl' : len = 2 := by simpa [eg_lok] using hl
    subst hl'
    simp only [eg_st] at h
    split at h
    · rename_i hna
      split at h
      · rename_i hn
        unfold eg_al at h
        split at h
        · rename_i hc
          cases h
          exact sh_newa X d hna hn.1 hn.2 hc.1 hc.2 k
        · cases h
      · cases h
    · cases h
  | anewarray i =>
    have hl' : len = 3 := by simpa [eg_lok] using hl
    subst hl'
    simp only [eg_st] at h
    split at h
    · rename_i hlk
      split at h
      · rename_i hn
        unfold eg_al at h
        split at h
        · rename_i hc
          cases h
          exact sh_newq X d (eg_lk hlk) hn.2.2.1 hn.2.2.2 hn.1 hn.2.1 hc.1 hc.2 k
        · cases h
      · cases h
    · cases h
  | multianewarray i dm =>
    have hl' : len = 4 := by simpa [eg_lok] using hl
    subst hl'
    simp only [eg_st] at h
    split at h
    · rename_i hlk
      split at h
      · rename_i hn
        obtain ⟨hd, hn⟩ := hn
        subst hd
        cases h
        exact sh_mna X d (eg_lk hlk) hn.1 hn.2.1 hn.2.2.1 hn.2.2.2.1 hn.2.2.2.2.1 hn.2.2.2.2.2 k
      · cases h
    · cases h
  | _ => cases h
end EGM
