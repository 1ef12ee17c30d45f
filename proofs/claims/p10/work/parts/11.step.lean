/-! one step of the abstract machine is a step of the machine -/
def eg_lok (ins : Instr) (len : Nat) : Bool := match ins with
  | .iadd => len == 1
  | .isub => len == 1
  | .imul => len == 1
  | .iand => len == 1
  | .ior => len == 1
  | .ixor => len == 1
  | .ishl => len == 1
  | .ishr => len == 1
  | .iushr => len == 1
  | .idiv => len == 1
  | .irem => len == 1
  | .ineg => len == 1
  | .ladd => len == 1
  | .lsub => len == 1
  | .lmul => len == 1
  | .land => len == 1
  | .lor => len == 1
  | .lshl => len == 1
  | .lshr => len == 1
  | .lushr => len == 1
  | .ldiv => len == 1
  | .lcmp => len == 1
  | .i2l => len == 1
  | .l2i => len == 1
  | .i2b => len == 1
  | .i2c => len == 1
  | .dup => len == 1
  | .pop => len == 1
  | .dup2 => len == 1
  | .iaload => len == 1
  | .baload => len == 1
  | .caload => len == 1
  | .laload => len == 1
  | .aaload => len == 1
  | .iastore => len == 1
  | .bastore => len == 1
  | .castore => len == 1
  | .lastore => len == 1
  | .aastore => len == 1
  | .arraylength => len == 1
  | .aconst_null => len == 1
  | .ireturn => len == 1
  | .lreturn => len == 1
  | .areturn => len == 1
  | .return_ => len == 1
  | .athrow => len == 1
  | .iconst _ => len == 1
  | .lconst _ => len == 1
  | .iload_n _ => len == 1
  | .lload_n _ => len == 1
  | .aload_n _ => len == 1
  | .istore_n _ => len == 1
  | .lstore_n _ => len == 1
  | .astore_n _ => len == 1
  | .bipush _ => len == 2
  | .iload _ => len == 2
  | .lload _ => len == 2
  | .aload _ => len == 2
  | .istore _ => len == 2
  | .lstore _ => len == 2
  | .astore _ => len == 2
  | .ldc _ => len == 2
  | .newarray _ => len == 2
  | .sipush _ => len == 3
  | .ldc_w _ => len == 3
  | .ldc2_w _ => len == 3
  | .goto _ => len == 3
  | .ifnull _ => len == 3
  | .ifnonnull _ => len == 3
  | .getfield _ => len == 3
  | .putfield _ => len == 3
  | .getstatic _ => len == 3
  | .new _ => len == 3
  | .anewarray _ => len == 3
  | .invokevirtual _ => len == 3
  | .invokespecial _ => len == 3
  | .invokestatic _ => len == 3
  | .ifCond _ _ => len == 3
  | .if_icmp _ _ => len == 3
  | .if_acmp _ _ => len == 3
  | .iinc _ _ => len == 3
  | .multianewarray _ _ => len == 4
  | _ => true
section EGST
variable {p : Program} {l : Launch} {e : Env} {R : Room} {s : State} {m : MethodId} {args : Array Value} {below : List Frame} {meth : Method} {c : Code} {Q : State → Prop} {b0 : Nat} {D : va_G} {dA : Nat → ClassId} {adc : Nat → Nat} {n0 : Nat} {ad0 : Nat → Nat} {o : Nat} {ini : Bool} {mc ms : Nat} {cc : ByteArray}
variable {pc pc' len : Nat} {L L' : eg_Ls} {st st' r : List Value} {G G' : eg_G} {ck sk ck' sk' : Nat} {ins : Instr}
theorem st_push {v : Value} {n : Nat} (row : ∀ {H : Heap} {locs : List Loc} {ck sk : Nat} {ls : Array Slot} {rest : List Value}, W p l e R s m args below meth c H locs ck sk Q (F0 m (pc + n) ls (v :: rest)) → W p l e R s m args below meth c H locs ck sk Q (F0 m pc ls rest)) (hv : ∀ i, v ≠ .ref i)
    (k : eg_J p l e R s m args below meth c Q b0 D dA adc n0 ad0 (pc + n) L (v :: st) G ck sk) : eg_J p l e R s m args below meth c Q b0 D dA adc n0 ad0 pc L st G ck sk := by
  intro ad H locs ls hR hL hS
  have hkk := k ad H locs ls hR hL (List.forall_mem_cons.mpr ⟨fun i hi => absurd hi (hv i), hS⟩)
  have e1 : eg_v ad v = v := by
    cases v <;> first | rfl | exact absurd rfl (hv _)
  rw [List.map_cons, e1] at hkk
  exact row hkk
theorem st_kst {idx : Nat} (X : eg_X p s m args meth c R b0 D dA adc o ini mc ms cc) (hl : len = 2 ∧ ins = .ldc idx ∨ len = 3 ∧ (ins = .ldc_w idx ∨ ins = .ldc2_w idx)) (d : decode cc pc = .ok (ins, len)) {kd : Nat} (h : eg_kst o idx len kd pc L st G ck sk = some (pc', L', st', G', ck', sk')) (hkd : (ins = .ldc2_w idx → kd = 2) ∧ (ins = .ldc_w idx → kd = 1) ∧ (ins = .ldc idx → kd = 0)) (k : eg_J p l e R s m args below meth c Q b0 D dA adc n0 ad0 pc' L' st' G' ck' sk') : eg_J p l e R s m args below meth c Q b0 D dA adc n0 ad0 pc L st G ck sk := by
  obtain ⟨hx, hb, hown, hts, hK, hC, hAO, hAOA, hRc, hRs, hini, hb0⟩ := X
  unfold eg_kst at h
  split at h
  · rename_i v hv
    split at h
    case isFalse => cases h
    rename_i hkk
    cases h
    have hm := eg_lk hv
    obtain ⟨t1, t2, t3⟩ : (ins = .ldc2_w idx → ∃ z, v = .long z) ∧ (ins = .ldc_w idx → ∃ z, v = .int z) ∧ (ins = .ldc idx → (∃ z, v = .int z) ∨ ∃ j, v = .ref (36 + j) ∧ 36 + j < eg_NC) := by
      obtain ⟨u1, u2, u3⟩ := hkd
      refine ⟨fun q => ?_, fun q => ?_, fun q => ?_⟩
      · rw [u1 q] at hkk
        cases v <;> first | exact ⟨_, rfl⟩ | (simp [eg_kk] at hkk)
      · rw [u2 q] at hkk
        cases v <;> first | exact ⟨_, rfl⟩ | (simp [eg_kk] at hkk)
      · rw [u3 q] at hkk
        cases v with
        | int z => exact Or.inl ⟨_, rfl⟩
        | ref j =>
          simp [eg_kk] at hkk
          have e9 : 36 + (j - 36) = j := Nat.add_sub_cancel' hkk.1
          exact Or.inr ⟨j - 36, by rw [e9], by rw [e9]; exact hkk.2⟩
        | _ => simp [eg_kk] at hkk
    rcases hl with ⟨rfl, rfl⟩ | ⟨rfl, rfl | rfl⟩
    · rcases t3 rfl with ⟨z, rfl⟩ | ⟨j, rfl, hj⟩
      · exact st_push (fun kk => lv_ldc hx hb hown (hts _ (eg_w3 hm _ (by simp [eg_kw]))) d kk) (fun _ h => nomatch h) k
      · intro ad H locs ls hR hL hS
        obtain ⟨hP, hD, hS0, hok, hag⟩ := id hR
        obtain ⟨tx, htx⟩ := hC.2.2.2.2.2.2.2 o idx j hm
        have hkk := k ad H locs ls hR hL (List.forall_mem_cons.mpr ⟨eg_okr (Nat.lt_of_lt_of_le hj hok.1), hS⟩)
        have e1 : (Value.ref (36 + j) :: st).map (eg_v ad) = .ref (adc (36 + j)) :: st.map (eg_v ad) := by
          show Value.ref (ad (36 + j)) :: _ = _
          rw [hag.1 _ hj]
        rw [e1] at hkk
        exact va_ldcS hx hb hown htx d hkk
    · obtain ⟨z, rfl⟩ := t2 rfl
      exact st_push (fun kk => lv_ldcw hx hb hown (hts _ (eg_w3 hm _ (by simp [eg_kw]))) d kk) (fun _ h => nomatch h) k
    · obtain ⟨z, rfl⟩ := t1 rfl
      exact st_push (fun kk => lv_ldc2 hx hb hown (hts _ (eg_w3 hm _ (by simp [eg_kw]))) d kk) (fun _ h => nomatch h) k
  · cases h
theorem st_ar (X : eg_X p s m args meth c R b0 D dA adc o ini mc ms cc) (d : decode cc pc = .ok (ins, 1)) (hins : ins = .iaload ∨ ins = .baload ∨ ins = .caload ∨ ins = .laload ∨ ins = .aaload) (h : eg_ar ins pc L st G ck sk = some (pc', L', st', G', ck', sk')) (k : eg_J p l e R s m args below meth c Q b0 D dA adc n0 ad0 pc' L' st' G' ck' sk') : eg_J p l e R s m args below meth c Q b0 D dA adc n0 ad0 pc L st G ck sk := by
  unfold eg_ar at h
  split at h
  · split at h
    · rename_i i a r c0 t x hG
      split at h
      · rename_i hc
        obtain ⟨han, hak, hi⟩ := hc
        split at h
        · rename_i v hv
          cases h
          obtain ⟨n, y⟩ := x
          by_cases ha : a < eg_NC
          · rw [eg_at_lo ha] at hG
            rcases eg_con_arr ha hG with ⟨rfl, f, hf⟩ | ⟨rfl, hf⟩ | ⟨rfl, f, hf⟩
            · have hf' : y = .inl f := hf
              subst hf'
              rcases hins with rfl | rfl | rfl | rfl | rfl
              · simp [eg_ak] at hak
              · cases hv
                exact sh_conB X d hG ha hi k
              · simp [eg_ak] at hak
              · simp [eg_ak] at hak
              · simp [eg_ak] at hak
            · cases hf
              rcases hins with rfl | rfl | rfl | rfl | rfl
              · simp [eg_ak] at hak
              · simp [eg_ak] at hak
              · simp [eg_ak] at hak
              · simp [eg_ak] at hak
              · cases hv
                exact sh_conQ X d hG ha hi k
            · have hf' : y = .inl f := hf
              subst hf'
              rcases hins with rfl | rfl | rfl | rfl | rfl
              · cases hv
                exact sh_conI X d hG ha hi k
              · simp [eg_ak] at hak
              · simp [eg_ak] at hak
              · simp [eg_ak] at hak
              · simp [eg_ak] at hak
          · have ha' := Nat.le_of_not_lt ha
            rw [eg_at_hi ha'] at hG
            rcases y with f | f | f | f | f
            · rcases hins with rfl | rfl | rfl | rfl | rfl
              · have ht : t = 0 := by simpa [eg_ak] using hak
                subst ht
                cases hv
                exact sh_iaload0 X d hG ha' han hi k
              · have ht : t = 1 ∨ t = 3 := by simpa [eg_ak] using hak
                rcases ht with rfl | rfl
                · cases hv
                  exact sh_baload1 X d hG ha' han hi k
                · cases hv
                  exact sh_baload3 X d hG ha' han hi k
              · have ht : t = 4 := by simpa [eg_ak] using hak
                subst ht
                cases hv
                exact sh_caload4 X d hG ha' han hi k
              · have ht : t = 2 := by simpa [eg_ak] using hak
                subst ht
                simp [eg_rd] at hv
              · have ht : 5 ≤ t ∧ t < 12 := by simpa [eg_ak] using hak
                simp [eg_rd] at hv
                omega
            · rcases hins with rfl | rfl | rfl | rfl | rfl
              · have ht : t = 0 := by simpa [eg_ak] using hak
                subst ht
                simp [eg_rd] at hv
              · have ht : t = 1 ∨ t = 3 := by simpa [eg_ak] using hak
                rcases ht with rfl | rfl <;> simp [eg_rd] at hv
              · have ht : t = 4 := by simpa [eg_ak] using hak
                subst ht
                simp [eg_rd] at hv
              · have ht : t = 2 := by simpa [eg_ak] using hak
                subst ht
                cases hv
                exact sh_laload2 X d hG ha' han hi k
              · have ht : 5 ≤ t ∧ t < 12 := by simpa [eg_ak] using hak
                simp [eg_rd] at hv
                omega
            · simp [eg_rd] at hv
            · simp [eg_rd] at hv
            · rcases hins with rfl | rfl | rfl | rfl | rfl
              · have ht : t = 0 := by simpa [eg_ak] using hak
                subst ht
                simp [eg_rd] at hv
              · have ht : t = 1 ∨ t = 3 := by simpa [eg_ak] using hak
                rcases ht with rfl | rfl <;> simp [eg_rd] at hv
              · have ht : t = 4 := by simpa [eg_ak] using hak
                subst ht
                simp [eg_rd] at hv
              · have ht : t = 2 := by simpa [eg_ak] using hak
                subst ht
                simp [eg_rd] at hv
              · have ht : 5 ≤ t ∧ t < 12 := by simpa [eg_ak] using hak
                have hv' : va_rf (f i.toNatClampNeg) = v := by simpa [eg_rd, ht.1] using hv
                subst hv'
                exact sh_aaload X d hG ha' han ht hi k
        · cases h
      · cases h
    · cases h
  · cases h
theorem st_aw (X : eg_X p s m args meth c R b0 D dA adc o ini mc ms cc) (d : decode cc pc = .ok (ins, 1)) (hins : ins = .iastore ∨ ins = .bastore ∨ ins = .castore ∨ ins = .lastore ∨ ins = .aastore) (h : eg_aw ins pc L st G ck sk = some (pc', L', st', G', ck', sk')) (k : eg_J p l e R s m args below meth c Q b0 D dA adc n0 ad0 pc' L' st' G' ck' sk') : eg_J p l e R s m args below meth c Q b0 D dA adc n0 ad0 pc L st G ck sk := by
  unfold eg_aw at h
  split at h
  · split at h
    · rename_i v i a r t x hG
      split at h
      · rename_i hc
        obtain ⟨ha, han, hak, hi⟩ := hc
        split at h
        · rename_i y hy
          cases h
          obtain ⟨n, z⟩ := x
          rw [eg_at_hi ha] at hG
          rcases hins with rfl | rfl | rfl | rfl | rfl
          · have ht : t = 0 := by simpa [eg_ak] using hak
            subst ht
            unfold eg_wr at hy
            split at hy
            · rename_i f z0 hz
              have hz' : z = .inl f := hz
              subst hz'
              cases hy
              exact sh_iastore0 X d hG ha han hi k
            · simp at hy
            · simp at hy
            · simp at hy
            · cases hy
          · have ht : t = 1 ∨ t = 3 := by simpa [eg_ak] using hak
            unfold eg_wr at hy
            split at hy
            · rename_i f z0 hz
              have hz' : z = .inl f := hz
              subst hz'
              rcases ht with rfl | rfl
              · cases hy
                exact sh_bastore1 X d hG ha han hi k
              · cases hy
                exact sh_bastore3 X d hG ha han hi k
            · rcases ht with rfl | rfl <;> simp at hy
            · rcases ht with rfl | rfl <;> simp at hy
            · rcases ht with rfl | rfl <;> simp at hy
            · cases hy
          · have ht : t = 4 := by simpa [eg_ak] using hak
            subst ht
            unfold eg_wr at hy
            split at hy
            · rename_i f z0 hz
              have hz' : z = .inl f := hz
              subst hz'
              cases hy
              exact sh_castore4 X d hG ha han hi k
            · simp at hy
            · simp at hy
            · simp at hy
            · cases hy
          · have ht : t = 2 := by simpa [eg_ak] using hak
            subst ht
            unfold eg_wr at hy
            split at hy
            · simp at hy
            · rename_i f z0 hz
              have hz' : z = .inr (.inl f) := hz
              subst hz'
              cases hy
              exact sh_lastore2 X d hG ha han hi k
            · simp at hy
            · simp at hy
            · cases hy
          · have ht : 5 ≤ t ∧ t < 11 := by simpa [eg_ak] using hak
            unfold eg_wr at hy
            split at hy
            · split at hy <;> first | omega | cases hy
            · rw [if_neg (by omega)] at hy
              cases hy
            · rename_i f hz
              have hz' : z = .inr (.inr (.inr (.inr f))) := hz
              subst hz'
              rw [if_pos ht] at hy
              cases hy
              exact sh_aastoreN X d hG ha han ht hi k
            · rename_i f q hz
              have hz' : z = .inr (.inr (.inr (.inr f))) := hz
              subst hz'
              split at hy
              · rename_i hq
                cases hy
                exact sh_aastoreR X d hG ha han ht hi hq.1 hq.2.2.2 k
              · cases hy
            · cases hy
        · cases h
      · cases h
    · cases h
  · cases h
theorem st_gf {idx : Nat} (X : eg_X p s m args meth c R b0 D dA adc o ini mc ms cc) (d : decode cc pc = .ok (.getfield idx, 3)) (h : eg_gf o idx pc L st G ck sk = some (pc', L', st', G', ck', sk')) (k : eg_J p l e R s m args below meth c Q b0 D dA adc n0 ad0 pc' L' st' G' ck' sk') : eg_J p l e R s m args below meth c Q b0 D dA adc n0 ad0 pc L st G ck sk := by
  unfold eg_gf at h
  split at h
  · rename_i ci k0 hh hlk
    split at h
    · split at h
      · rename_i a r cj fs hG
        split at h
        · rename_i hc
          obtain ⟨han, rfl⟩ := hc
          split at h
          · rename_i v hv
            cases h
            exact sh_get X d (eg_lk hlk) hG han hv k
          · cases h
        · cases h
      · cases h
    · cases h
  · cases h
theorem st_pf {idx : Nat} (X : eg_X p s m args meth c R b0 D dA adc o ini mc ms cc) (d : decode cc pc = .ok (.putfield idx, 3)) (h : eg_pf o ini idx pc L st G ck sk = some (pc', L', st', G', ck', sk')) (k : eg_J p l e R s m args below meth c Q b0 D dA adc n0 ad0 pc' L' st' G' ck' sk') : eg_J p l e R s m args below meth c Q b0 D dA adc n0 ad0 pc L st G ck sk := by
  unfold eg_pf at h
  split at h
  · rename_i ci k0 hh hlk
    split at h
    · split at h
      · rename_i v a r cj fs hG
        split at h
        · rename_i hc
          obtain ⟨ha, han, rfl, hk, hf, hfin⟩ := hc
          cases h
          rw [eg_at_hi ha] at hG
          exact sh_put X d (eg_lk hlk) hG ha han hk hf hfin k
        · cases h
      · cases h
    · cases h
  · cases h
theorem eg_tg_ok {off : Int} (h : 0 ≤ (pc : Int) + off) : (pc : Int) + off = (eg_tg pc off : Int) := by
  unfold eg_tg
  omega
theorem eg_isr {v : Value} (h : v.isRef = true) : ∃ x : Option Nat, v = va_rf x := by
  cases v <;> first | exact ⟨none, rfl⟩ | exact ⟨some _, rfl⟩ | cases h
/-- the naming tells two numbers apart -/
theorem eg_inj {ad : Nat → Nat} {H : Heap} {locs : List Loc} (hC : eg_K s b0 adc) (hR : eg_Rel s b0 D dA adc n0 ad0 ad G H locs) {i j : Nat} (hi : i < G.2) (hj : j < G.2) (hi2 : i < 36 ∨ eg_NC ≤ i) (hj2 : j < 36 ∨ eg_NC ≤ j) (h : ad i = ad j) : i = j := by
  obtain ⟨hP, hD, hS0, hok, hag⟩ := hR
  have h36 : 36 + 2 * eg_NS + 4 = eg_NC := rfl
  rcases hi2 with hi2 | hi2 <;> rcases hj2 with hj2 | hj2
  · rw [hag.1 i (by omega), hag.1 j (by omega)] at h
    exact hC.2.2.2.1 i j hi2 hj2 h
  · have h1 := hC.2.2.2.2.1 i (by omega)
    rw [← hag.1 i (by omega), h] at h1
    have h2 : b0 ≤ ad j := hD.2 _ _ (eg_ws_at hj2 hj)
    omega
  · have h1 := hC.2.2.2.2.1 j (by omega)
    rw [← hag.1 j (by omega), ← h] at h1
    have h2 : b0 ≤ ad i := hD.2 _ _ (eg_ws_at hi2 hi)
    omega
  · have h1 := hD.1 _ _ _ _ (eg_ws_at (ad := ad) (dA := dA) hi2 hi) (eg_ws_at (ad := ad) (dA := dA) hj2 hj) h
    omega
theorem st_acmp {v w : Value} {off : Int} {ac : ACond} (X : eg_X p s m args meth c R b0 D dA adc o ini mc ms cc) (d : decode cc pc = .ok (.if_acmp ac off, 3)) (ho : 0 ≤ (pc : Int) + off) (hv : v.isRef = true) (hw : w.isRef = true) (hv2 : ∀ i, v = .ref i → i < 36 ∨ eg_NC ≤ i) (hw2 : ∀ i, w = .ref i → i < 36 ∨ eg_NC ≤ i)
    (k : eg_J p l e R s m args below meth c Q b0 D dA adc n0 ad0 (match ac with
      | .eq => (if v = w then eg_tg pc off else pc + 3)
      | .ne => (if ¬ v = w then eg_tg pc off else pc + 3)) L r G ck sk) : eg_J p l e R s m args below meth c Q b0 D dA adc n0 ad0 pc L (w :: v :: r) G ck sk := by
  obtain ⟨hx, hb, hown, hts, hK, hC, hAO, hAOA, hRc, hRs, hini, hb0⟩ := X
  intro ad H locs ls hR hL hS
  obtain ⟨hw3, h2⟩ := List.forall_mem_cons.mp hS
  obtain ⟨hv3, h2⟩ := List.forall_mem_cons.mp h2
  have hkk := k ad H locs ls hR hL h2
  obtain ⟨x, rfl⟩ := eg_isr hv
  obtain ⟨y, rfl⟩ := eg_isr hw
  have e1 : (va_rf y :: va_rf x :: r).map (eg_v ad) = va_rf (y.map ad) :: va_rf (x.map ad) :: r.map (eg_v ad) := by
    rw [List.map_cons, List.map_cons, eg_v_rf, eg_v_rf]
  rw [e1]
  have hiff : x.map ad = y.map ad ↔ va_rf x = va_rf y := by
    constructor
    · intro h
      cases x with
      | none => cases y with
        | none => rfl
        | some j => cases h
      | some i => cases y with
        | none => cases h
        | some j => rw [eg_inj hC hR (hv3 i rfl) (hw3 j rfl) (hv2 i rfl) (hw2 j rfl) (Option.some.inj h)]
    · intro h
      cases x <;> cases y <;> first | rfl | (cases h; rfl) | cases h
  cases ac with
  | eq =>
    refine lv_acmp_eq hx hb d (eg_tg_ok ho) (fun h => ?_) (fun h => ?_)
    · dsimp only at hkk
      rw [if_pos (hiff.mp h)] at hkk
      exact hkk
    · dsimp only at hkk
      rw [if_neg (fun q => h (hiff.mpr q))] at hkk
      exact hkk
  | ne =>
    refine lv_acmp_ne hx hb d (eg_tg_ok ho) (fun h => ?_) (fun h => ?_)
    · dsimp only at hkk
      rw [if_pos (fun q => h (hiff.mpr q))] at hkk
      exact hkk
    · dsimp only at hkk
      rw [if_neg (fun q => q (hiff.mp h))] at hkk
      exact hkk
end EGST
