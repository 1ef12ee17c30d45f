section
/-! fields, statics, new cells -/
section EGN
variable {p : Program} {l : Launch} {e : Env} {R : Room} {s : State} {m : MethodId} {args : Array Value} {below : List Frame} {meth : Method} {c : Code} {Q : State → Prop} {b0 : Nat} {D : va_G} {dA : Nat → ClassId} {adc : Nat → Nat} {n0 : Nat} {ad0 : Nat → Nat} {o : Nat} {ini : Bool} {mc ms : Nat} {cc : ByteArray}
variable {pc pc' len : Nat} {L L' : eg_Ls} {st st' r : List Value} {G G' : eg_G} {ck sk ck' sk' : Nat} {ins : Instr}
theorem eg_fit_ok {ad : Nat → Nat} {ty : FieldType} {v : Value} (h : eg_fit ty v = true) : narrow ty (eg_v ad v) = eg_v ad v ∧ fits ty (eg_v ad v) = true := by
  unfold eg_fit at h
  split at h
  · exact ⟨rfl, rfl⟩
  · exact ⟨rfl, rfl⟩
  · simp only [Bool.or_eq_true, decide_eq_true_eq] at h
    rcases h with h | h <;> subst h <;> exact ⟨rfl, rfl⟩
  · exact ⟨rfl, rfl⟩
  · exact ⟨rfl, rfl⟩
  · exact ⟨rfl, rfl⟩
  · exact ⟨rfl, rfl⟩
  · cases h
theorem sh_get {idx ci k a : Nat} {hh : Option String} {fs : List Value} {v : Value} (X : eg_X p s m args meth c R b0 D dA adc o ini mc ms cc) (d : decode cc pc = .ok (.getfield idx, 3)) (he : (idx, ci, k, hh) ∈ eg_fT.getD o []) (hG : eg_at G a = .inr (ci, fs)) (han : a < G.2) (hv : fs[k]? = some v)
    (kk : eg_J p l e R s m args below meth c Q b0 D dA adc n0 ad0 (pc + 3) L (v :: r) G ck sk) : eg_J p l e R s m args below meth c Q b0 D dA adc n0 ad0 pc L (.ref a :: r) G ck sk := by
  obtain ⟨hx, hb, hown, hts, hK, hC, hAO, hAOA, hRc, hRs, hini, hb0⟩ := X
  intro ad H locs ls hR hL hS
  obtain ⟨hP, hD, hS0, hok, hag⟩ := id hR
  obtain ⟨-, h2⟩ := List.forall_mem_cons.mp hS
  have hw1 := hts _ (eg_w1 he)
  by_cases ha : a < eg_NC
  · rw [eg_at_lo ha] at hG
    have hOF := hC.2.1 a ci fs ha hG k v hv
    have hva : eg_v ad v = eg_v adc v ∧ eg_okv G.2 v := by
      have hvok : ∀ i, v = .ref i → i < eg_NC := by
        rcases eg_con_obj hG with ⟨-, h36⟩ | ⟨-, h36, hns⟩ | ⟨-, hfs⟩
        · unfold eg_con at hG
          rw [if_pos h36] at hG
          have e1 := (Prod.mk.inj (Sum.inr.inj hG)).2
          intro i hi
          subst hi
          rw [← e1] at hv
          have hb9 : ∀ j, j < 36 → 36 + (eg_wf.getD j (0, 0, 0)).1 < eg_NC := by decide +kernel
          match k, hv with
          | 0, hv => cases hv
          | 1, hv => cases hv; exact hb9 a h36
          | 2, hv => cases hv
          | 3, hv => cases hv
          | k + 4, hv => simp at hv
        · unfold eg_con at hG
          rw [if_neg (by omega), if_pos hns] at hG
          have e1 := (Prod.mk.inj (Sum.inr.inj hG)).2
          intro i hi
          subst hi
          rw [← e1] at hv
          match k, hv with
          | 0, hv =>
            cases hv
            have h8 : 36 + 2 * eg_NS + 4 = eg_NC := rfl
            show a + eg_NS < eg_NC
            omega
          | 1, hv => cases hv
          | k + 2, hv => simp at hv
        · rw [hfs] at hv
          simp at hv
      refine ⟨?_, fun i hi => Nat.lt_of_lt_of_le (hvok i hi) hok.1⟩
      cases v with
      | ref i => exact congrArg Value.ref (hag.1 i (hvok i rfl))
      | _ => rfl
    have hkk := kk ad H locs ls hR hL (List.forall_mem_cons.mpr ⟨hva.2, h2⟩)
    have e1 : (Value.ref a :: r).map (eg_v ad) = .ref (adc a) :: r.map (eg_v ad) := by
      show Value.ref (ad a) :: _ = _
      rw [hag.1 a ha]
    have e2 : (v :: r).map (eg_v ad) = eg_v adc v :: r.map (eg_v ad) := by rw [List.map_cons, hva.1]
    rw [e1]
    rw [e2] at hkk
    cases hh with
    | none => exact vk_getf hx hb hOF hS0 hown hw1 (fun _ h => h) d hkk
    | some h0 =>
      obtain ⟨cf, k9, fi, f, cell, h1, h2, h3, h4, h5, h6⟩ := hOF.kept hS0.2.1
      exact va_Wgetf hx hb hown hw1 h1 h2 h3 h4 (v := eg_v adc v) h5 rfl rfl d hkk
  · have ha' := Nat.le_of_not_lt ha
    have hw := eg_ws_at (ad := ad) (dA := dA) ha' han
    rw [eg_at_hi ha'] at hG
    have hcl := eg_okc_at hok ha' han
    rw [hG] at hw hcl
    have hkk := kk ad H locs ls hR hL (List.forall_mem_cons.mpr ⟨hcl v (List.mem_of_getElem? hv), h2⟩)
    obtain ⟨q, hq, -⟩ := hP _ _ hw
    have hfd := eg_fd_cl hq k
    have hk := eg_fT_k he hq
    have hv2 : (fs.map (eg_v ad))[k]? = some (eg_v ad v) := by rw [List.getElem?_map, hv]; rfl
    have hmem : q ∈ eg_cl := List.mem_of_getElem? hq
    cases hh with
    | none =>
      have hw2 : (Cond.fieldLink (eg_on o) idx (eg_fd ci k).1 (eg_fd ci k).2.1 (eg_fd ci k).2.2.1).before args s = true := hw1
      rw [hfd] at hw2
      exact va_get hx hb hts (eg_w7 hmem) hown hK hP (a - eg_NC) hw hq k hk hw2 (fun _ h => h) hv2 d hkk
    | some h0 =>
      have hw2 : (Cond.fieldLinkNest (eg_on o) idx (eg_fd ci k).1 (eg_fd ci k).2.1 (eg_fd ci k).2.2.1 h0).before args s = true := hw1
      rw [hfd] at hw2
      exact va_getN hx hb hts (eg_w7 hmem) hown hK hP (a - eg_NC) hw hq k hk hw2 (fun _ h => h) hv2 d hkk
theorem sh_put {idx ci k a : Nat} {hh : Option String} {fs : List Value} {v : Value} (X : eg_X p s m args meth c R b0 D dA adc o ini mc ms cc) (d : decode cc pc = .ok (.putfield idx, 3)) (he : (idx, ci, k, hh) ∈ eg_fT.getD o []) (hG : G.1 a = .inr (ci, fs)) (ha : eg_NC ≤ a) (han : a < G.2) (hkl : k < fs.length) (hfit : eg_fit ((eg_yl.getD ci (fun _ => .int)) k) v = true)
    (hfin : (eg_fd ci k).2.2.2 = false ∨ (ini = true ∧ hh = none ∧ (eg_fd ci k).1 = eg_on o))
    (kk : eg_J p l e R s m args below meth c Q b0 D dA adc n0 ad0 (pc + 3) L r (eg_u G a (.inr (ci, fs.set k v))) ck sk) : eg_J p l e R s m args below meth c Q b0 D dA adc n0 ad0 pc L (v :: .ref a :: r) G ck sk := by
  obtain ⟨hx, hb, hown, hts, hK, hC, hAO, hAOA, hRc, hRs, hini, hb0⟩ := X
  intro ad H locs ls hR hL hS
  obtain ⟨hP, hD, hS0, hok, hag⟩ := id hR
  obtain ⟨hv, h2⟩ := List.forall_mem_cons.mp hS
  obtain ⟨-, h2⟩ := List.forall_mem_cons.mp h2
  have hw1 := hts _ (eg_w1 he)
  have hw := eg_ws_at (ad := ad) (dA := dA) ha han
  have hcl := eg_okc_at hok ha han
  rw [hG] at hw hcl
  obtain ⟨q, hq, -⟩ := hP _ _ hw
  have hfd := eg_fd_cl hq k
  have hk := eg_fT_k he hq
  have hmem : q ∈ eg_cl := List.mem_of_getElem? hq
  obtain ⟨hn, hft⟩ := eg_fit_ok (ad := ad) hfit
  have hty := eg_cl_ty hq
  rw [hfd] at hfin
  have fin : ∀ (H1 : Heap) (locs1 : List Loc), va_P D eg_cl ((eg_ws ad dA G).set (a - eg_NC) (ad a, .inr (ci, (fs.map (eg_v ad)).set k (eg_v ad v)))) H1 → va_D (eg_A b0) ((eg_ws ad dA G).set (a - eg_NC) (ad a, .inr (ci, (fs.map (eg_v ad)).set k (eg_v ad v)))) → va_S (eg_A b0) s.heap H1 locs1 → W p l e R s m args below meth c H1 locs1 ck sk Q (F0 m (pc + 3) ls (r.map (eg_v ad))) := by
    intro H1 locs1 hP1 hD1 hS1
    have e1 := eg_ws_set (ad := ad) (dA := dA) (G := G) (.inr (ci, fs.set k v)) ha
    have e2 : eg_e ad dA (.inr (ci, fs.set k v)) = .inr (ci, (fs.map (eg_v ad)).set k (eg_v ad v)) := by
      show Sum.inr (ci, (fs.set k v).map (eg_v ad)) = _
      rw [List.map_set]
    rw [e2] at e1
    rw [e1] at hP1 hD1
    refine kk ad H1 locs1 ls ⟨hP1, hD1, hS1, eg_ok_u hok (fun w hw => ?_), hag⟩ hL h2
    rcases List.mem_or_eq_of_mem_set hw with h | h
    · exact hcl w h
    · rw [h]; exact hv
  have hkl' : k < (fs.map (eg_v ad)).length := by rw [List.length_map]; exact hkl
  by_cases hff : (q.2.1 k).2.2.2 = false
  · cases hh with
    | none =>
      have hw2 : (Cond.fieldLink (eg_on o) idx (eg_fd ci k).1 (eg_fd ci k).2.1 (eg_fd ci k).2.2.1).before args s = true := hw1
      rw [hfd] at hw2
      exact va_put hx hb hts (eg_w7 hmem) _ hty (eg_cl_nm hq) hown hK hP hD hS0 (a - eg_NC) hw hq k hk hw2 (fun _ h => h) hff (hty k hk) hn hft hkl' d fin
    | some h0 =>
      have hw2 : (Cond.fieldLinkNest (eg_on o) idx (eg_fd ci k).1 (eg_fd ci k).2.1 (eg_fd ci k).2.2.1 h0).before args s = true := hw1
      rw [hfd] at hw2
      exact va_putN hx hb hts (eg_w7 hmem) _ hty (eg_cl_nm hq) hown hK hP hD hS0 (a - eg_NC) hw hq k hk hw2 (fun _ h => h) hff (hty k hk) hn hft hkl' d fin
  · rcases hfin with h | ⟨h1, h3, h4⟩
    · exact absurd h hff
    · subst h3
      have hw2 : (Cond.fieldLink (eg_on o) idx (eg_fd ci k).1 (eg_fd ci k).2.1 (eg_fd ci k).2.2.1).before args s = true := hw1
      rw [hfd] at hw2
      exact va_putF hx hb hts (eg_w7 hmem) _ hty (eg_cl_nm hq) hown hK hP hD hS0 (a - eg_NC) hw hq k hk hw2 (fun _ h => h) (by simpa using hff) (hini h1) h4 (hty k hk) hn hft hkl' d fin
theorem sh_sta {idx si : Nat} {hh : Option String} {C n d0 : String} {v : Value} (X : eg_X p s m args meth c R b0 D dA adc o ini mc ms cc) (d : decode cc pc = .ok (.getstatic idx, 3)) (he : (idx, si, hh) ∈ eg_sT.getD o []) (hsv : eg_sv[si]? = some (C, n, d0, v))
    (kk : eg_J p l e R s m args below meth c Q b0 D dA adc n0 ad0 (pc + 3) L (v :: st) G ck sk) (kn : v = .ref 151 → eg_J p l e R s m args below meth c Q b0 D dA adc n0 ad0 (pc + 3) L (.null :: st) G ck sk) : eg_J p l e R s m args below meth c Q b0 D dA adc n0 ad0 pc L st G ck sk := by
  obtain ⟨hx, hb, hown, hts, hK, hC, hAO, hAOA, hRc, hRs, hini, hb0⟩ := X
  intro ad H locs ls hR hL hS
  obtain ⟨hP, hD, hS0, hok, hag⟩ := id hR
  rcases hC.1 C n d0 v (List.mem_of_getElem? hsv) with hZ | ⟨hv151, hZ⟩
  rotate_left
  · have hkk := kn hv151 ad H locs ls hR hL (List.forall_mem_cons.mpr ⟨(fun i hi => nomatch hi), hS⟩)
    have hw1 := eg_w2 he
    cases hh with
    | none =>
      have hw2 := hts _ (hw1 (.fieldLink (eg_on o) idx C n d0) (by simp [eg_sw1, hsv]))
      exact va_gets hx hb hZ hS0 hown hw2 (fun _ h => h) d hkk
    | some h0 =>
      have hw2 := hts _ (hw1 (.fieldLinkNest (eg_on o) idx C n d0 h0) (by simp [eg_sw1, hsv]))
      exact va_getsN hx hb hZ hS0 hown hw2 (fun _ h => h) d hkk
  have hvr : ∀ i, v = .ref i → i < eg_NC := by
    have h9 : eg_sv.all (fun q => match q.2.2.2 with | .ref i => decide (i < eg_NC) | _ => true) = true := by decide +kernel
    intro i hi
    subst hi
    have := List.all_eq_true.mp h9 _ (List.mem_of_getElem? hsv)
    exact of_decide_eq_true this
  have hva : eg_v ad v = eg_v adc v := by
    cases v with
    | ref i => exact congrArg Value.ref (hag.1 i (hvr i rfl))
    | _ => rfl
  have hkk := kk ad H locs ls hR hL (List.forall_mem_cons.mpr ⟨fun i hi => Nat.lt_of_lt_of_le (hvr i hi) hok.1, hS⟩)
  have e2 : (v :: st).map (eg_v ad) = eg_v adc v :: st.map (eg_v ad) := by rw [List.map_cons, hva]
  rw [e2] at hkk
  have hw1 := eg_w2 he
  cases hh with
  | none =>
    have hw2 := hts _ (hw1 (.fieldLink (eg_on o) idx C n d0) (by simp [eg_sw1, hsv]))
    exact va_gets hx hb hZ hS0 hown hw2 (fun _ h => h) d hkk
  | some h0 =>
    have hw2 := hts _ (hw1 (.fieldLinkNest (eg_on o) idx C n d0 h0) (by simp [eg_sw1, hsv]))
    exact va_getsN hx hb hZ hS0 hown hw2 (fun _ h => h) d hkk
/-- reads the static that may be null -/
def eg_s151 (o : Nat) (ins : Instr) : Bool := match ins with
  | .getstatic i => (match (eg_sT.getD o []).lookup i with
    | some (k, _) => (match eg_sv[k]? with
      | some (_, _, _, v) => decide (v = .ref 151)
      | none => false)
    | none => false)
  | _ => false
/-- what comes new: the world, the naming, the locals behind it -/
theorem eg_Rel_p {ad : Nat → Nat} {H H1 : Heap} {locs locs1 : List Loc} {q : Nat} {cell : eg_C} (hR : eg_Rel s b0 D dA adc n0 ad0 ad G H locs) (hc : eg_okc G.2 cell) (hP1 : va_P D eg_cl (eg_ws ad dA G ++ [(q, eg_e ad dA cell)]) H1) (hD1 : va_D (eg_A b0) (eg_ws ad dA G ++ [(q, eg_e ad dA cell)])) (hS1 : va_S (eg_A b0) s.heap H1 locs1) :
    eg_Rel s b0 D dA adc n0 ad0 (fun i => if i = G.2 then q else ad i) (eg_p G cell) H1 locs1 := by
  obtain ⟨-, -, -, hok, hag⟩ := hR
  rw [eg_push hok hc] at hP1 hD1
  refine ⟨hP1, hD1, hS1, eg_ok_p hok hc, fun i hi => ?_, Nat.le_succ_of_le hag.2.1, fun i hi => ?_⟩
  · have : i ≠ G.2 := by have := hok.1; omega
    show (if i = G.2 then q else ad i) = adc i
    rw [if_neg this]
    exact hag.1 i hi
  · have : i ≠ G.2 := by have := hag.2.1; omega
    show (if i = G.2 then q else ad i) = ad0 i
    rw [if_neg this]
    exact hag.2.2 i hi
theorem eg_ag_p (n q : Nat) (ad : Nat → Nat) : eg_ag n ad (fun i => if i = n then q else ad i) := fun i hi => if_neg (by omega)
theorem sh_push {ad : Nat → Nat} {H H1 : Heap} {locs locs1 : List Loc} {ls : Array Slot} {q : Nat} {cell : eg_C} (kk : eg_J p l e R s m args below meth c Q b0 D dA adc n0 ad0 pc' L (.ref G.2 :: st) (eg_p G cell) ck' sk') (hR : eg_Rel s b0 D dA adc n0 ad0 ad G H locs) (hL : eg_LR ad G.2 ls L) (hS : ∀ v ∈ st, eg_okv G.2 v) (hc : eg_okc G.2 cell) (hP1 : va_P D eg_cl (eg_ws ad dA G ++ [(q, eg_e ad dA cell)]) H1) (hD1 : va_D (eg_A b0) (eg_ws ad dA G ++ [(q, eg_e ad dA cell)])) (hS1 : va_S (eg_A b0) s.heap H1 locs1) :
    W p l e R s m args below meth c H1 locs1 ck' sk' Q (F0 m pc' ls (.ref q :: st.map (eg_v ad))) := by
  have hkk := kk (fun i => if i = G.2 then q else ad i) H1 locs1 ls (eg_Rel_p hR hc hP1 hD1 hS1) (hL.up (eg_ag_p G.2 q ad) (Nat.le_succ _)) (List.forall_mem_cons.mpr ⟨eg_okr (Nat.lt_succ_self _), fun v hv => (hS v hv).up (Nat.le_succ _)⟩)
  have e1 : (Value.ref G.2 :: st).map (eg_v (fun i => if i = G.2 then q else ad i)) = .ref q :: st.map (eg_v ad) := by
    rw [List.map_cons, eg_ag_st (eg_ag_p G.2 q ad) hS]
    show Value.ref (if G.2 = G.2 then q else ad G.2) :: _ = _
    rw [if_pos rfl]
  rw [e1] at hkk
  exact hkk
theorem eg_dflt {ci : Nat} (n : Nat) : ∀ v ∈ eg_nc n ci, v = .int 0 ∨ v = .long 0 ∨ v = .float 0 ∨ v = .double 0 ∨ v = .null := by
  intro v hv
  obtain ⟨k, -, rfl⟩ := List.mem_map.mp hv
  cases (eg_yl.getD ci (fun _ => .int)) k <;> simp [defaultValue]
theorem sh_new {idx ci : Nat} {q : vw_C} (X : eg_X p s m args meth c R b0 D dA adc o ini mc ms cc) (d : decode cc pc = .ok (.new idx, 3)) (he : (idx, ci) ∈ eg_cT.getD o []) (hq : eg_cl[ci]? = some q) (hck : ck + 1 ≤ mc) (hsk : sk + q.2.2 ≤ ms)
    (kk : eg_J p l e R s m args below meth c Q b0 D dA adc n0 ad0 (pc + 3) L (.ref G.2 :: st) (eg_p G (.inr (ci, eg_nc q.2.2 ci))) (ck + 1) (sk + q.2.2)) : eg_J p l e R s m args below meth c Q b0 D dA adc n0 ad0 pc L st G ck sk := by
  obtain ⟨hx, hb, hown, hts, hK, hC, hAO, hAOA, hRc, hRs, hini, hb0⟩ := X
  intro ad H locs ls hR hL hS
  obtain ⟨hP, hD, hS0, hok, hag⟩ := id hR
  have hmem : q ∈ eg_cl := List.mem_of_getElem? hq
  have hlt := (eg_cl_get hq).2
  have hcn : eg_cn ci = q.1 := by
    unfold eg_cn
    rw [if_pos hlt, List.getD_eq_getElem?_getD, hq]
    rfl
  have hw : (Cond.classLink (eg_on o) idx q.1).before args s = true := by
    have := hts _ (eg_w4 he)
    unfold eg_cw at this
    rw [hcn] at this
    exact this
  have hmap : (eg_nc q.2.2 ci).map (eg_v ad) = eg_nc q.2.2 ci := by
    conv => rhs; rw [← List.map_id (eg_nc q.2.2 ci)]
    apply List.map_congr_left
    intro v hv
    rcases eg_dflt _ v hv with h | h | h | h | h <;> subst h <;> rfl
  have hokc : eg_okc G.2 (.inr (ci, eg_nc q.2.2 ci)) := by
    intro v hv i hi
    rcases eg_dflt _ v hv with h | h | h | h | h <;> subst h <;> cases hi
  refine va_new (fs := eg_nc q.2.2 ci) hx hb hts (eg_w7 hmem) _ (eg_cl_ty hq) hown hw (hts _ (eg_w8 hmem).1) (hts _ (eg_w8 hmem).2) hK hP hD hS0 (fun z hz => Nat.le_trans hb0 hz) hq (fun j hj => ?_) (by rw [hRc]; exact hck) (by rw [hRs]; exact hsk) d (fun q1 H1 hP1 hD1 hS1 => ?_)
  · have h9 : (eg_nc q.2.2 ci)[j]? = some (defaultValue ((eg_yl.getD ci (fun _ => .int)) j)) := by
      unfold eg_nc
      rw [List.getElem?_map, List.getElem?_range hj]
      rfl
    show _ = (eg_nc q.2.2 ci).getD j .null
    simp [List.getD_eq_getElem?_getD, h9]
  · have e2 : eg_e ad dA (.inr (ci, eg_nc q.2.2 ci)) = .inr (ci, eg_nc q.2.2 ci) := by
      show Sum.inr (ci, (eg_nc q.2.2 ci).map (eg_v ad)) = _
      rw [hmap]
    rw [← e2] at hP1 hD1
    exact sh_push kk hR hL hS hokc hP1 hD1 hS1
theorem eg_dAt {t : Nat} {cA : ClassId} (hK : va_K D eg_cl (eg_tys dA) s) (hK1 : va_K D eg_cl (eg_tys dA ++ [(cA, eg_tt t)]) s) (ht : t < 12) : cA = dA t := by
  have h1 := (hK.2 t _ (eg_tys_at ht)).2
  have hl : (eg_tys dA).length = 12 := by simp [eg_tys]
  have h2 := (hK1.2 12 (cA, eg_tt t) (by rw [List.getElem?_append_right (by omega), hl]; rfl)).2
  generalize eg_tt t = ty at h1 h2
  cases ty with
  | object C =>
    obtain ⟨_, _, -, -, -, h3⟩ := h1
    obtain ⟨_, _, -, -, -, h4⟩ := h2
    exact Option.some.inj (h4.symm.trans h3)
  | _ => exact Option.some.inj (h2.symm.trans h1)
theorem eg_clampI {n : Int32} (h : 0 ≤ n.toInt) : ¬ n < 0 := by
  rw [Int32.lt_iff_toInt_lt]
  simp
  omega
theorem eg_clampN {n : Int32} (h : n.toInt ≤ 65536) : n.toNatClampNeg ≤ 65536 := by
  show n.toInt.toNat ≤ 65536
  omega
theorem sh_newa {t : ArrayType} {k : Nat} {x : Nat → vp_A} {n : Int32} (X : eg_X p s m args meth c R b0 D dA adc o ini mc ms cc) (d : decode cc pc = .ok (.newarray t, 2)) (hna : eg_na t = some (k, x)) (h0 : 0 ≤ n.toInt) (h1 : n.toInt ≤ 65536) (hck : ck + 1 ≤ mc) (hsk : sk + n.toNatClampNeg ≤ ms)
    (kk : eg_J p l e R s m args below meth c Q b0 D dA adc n0 ad0 (pc + 2) L (.ref G.2 :: r) (eg_p G (.inl (k, x n.toNatClampNeg))) (ck + 1) (sk + n.toNatClampNeg)) : eg_J p l e R s m args below meth c Q b0 D dA adc n0 ad0 pc L (.int n :: r) G ck sk := by
  obtain ⟨hx, hb, hown, hts, hK, hC, hAO, hAOA, hRc, hRs, hini, hb0⟩ := X
  intro ad H locs ls hR hL hS
  obtain ⟨hP, hD, hS0, hok, hag⟩ := id hR
  obtain ⟨-, h2⟩ := List.forall_mem_cons.mp hS
  have h65 := eg_clampN h1
  have key : ∀ (k : Nat) (x : Nat → vp_A), k < 12 → Cond.arrayClass (newarray.typeOf t) ∈ eg_W9 → newarray.typeOf t = eg_tt k → componentBytes (eg_tt k) ≤ 8 → (∀ cA : ClassId, vp_cell cA (x n.toNatClampNeg) = arrV cA n.toNatClampNeg (fun _ => defaultValue (eg_tt k))) → (∀ ad : Nat → Nat, eg_r ad (x n.toNatClampNeg) = x n.toNatClampNeg) → eg_okx G.2 (x n.toNatClampNeg) →
      eg_J p l e R s m args below meth c Q b0 D dA adc n0 ad0 (pc + 2) L (.ref G.2 :: r) (eg_p G (.inl (k, x n.toNatClampNeg))) (ck + 1) (sk + n.toNatClampNeg) → W p l e R s m args below meth c H locs ck sk Q (F0 m pc ls (.int n :: r.map (eg_v ad))) := by
    intro k x hk hw hty hcb hcell hr hokx kk
    refine va_newa hx hb (hts _ (eg_w9 hw)) hty hK hP hD hS0 (fun z hz => Nat.le_trans hb0 hz) (a0 := x n.toNatClampNeg) hcell (eg_clampI h0) rfl (Nat.le_trans (Nat.mul_le_mul h65 hcb) (by decide)) (by rw [hRc]; exact hck) (by rw [hRs]; exact hsk) d (fun q1 cA H1 hK1 hP1 hD1 hS1 => ?_)
    have ec := eg_dAt hK hK1 hk
    subst ec
    have e2 : eg_e ad dA (.inl (k, x n.toNatClampNeg)) = .inl (dA k, x n.toNatClampNeg) := by
      show Sum.inl (dA k, eg_r ad (x n.toNatClampNeg)) = _
      rw [hr]
    rw [← e2] at hP1 hD1
    exact sh_push kk hR hL h2 hokx hP1 hD1 hS1
  cases t with
  | int => cases hna; exact key 0 (fun n => (n, .inl (fun _ => 0))) (by decide) (by simp [eg_W9, newarray.typeOf]) rfl (by decide) (fun _ => rfl) (fun _ => rfl) (fun f hf => by cases hf) kk
  | byte => cases hna; exact key 1 (fun n => (n, .inl (fun _ => 0))) (by decide) (by simp [eg_W9, newarray.typeOf]) rfl (by decide) (fun _ => rfl) (fun _ => rfl) (fun f hf => by cases hf) kk
  | long => cases hna; exact key 2 (fun n => (n, .inr (.inl (fun _ => 0)))) (by decide) (by simp [eg_W9, newarray.typeOf]) rfl (by decide) (fun _ => rfl) (fun _ => rfl) (fun f hf => by cases hf) kk
  | boolean => cases hna; exact key 3 (fun n => (n, .inl (fun _ => 0))) (by decide) (by simp [eg_W9, newarray.typeOf]) rfl (by decide) (fun _ => rfl) (fun _ => rfl) (fun f hf => by cases hf) kk
  | char => cases hna; exact key 4 (fun n => (n, .inl (fun _ => 0))) (by decide) (by simp [eg_W9, newarray.typeOf]) rfl (by decide) (fun _ => rfl) (fun _ => rfl) (fun f hf => by cases hf) kk
  | _ => cases hna
theorem eg_ek_cn {ci : Nat} (h5 : 5 ≤ eg_ek ci) (h6 : eg_ek ci < 11) : eg_tt (eg_ek ci) = .object (eg_cn ci) := by
  unfold eg_ek at h5 h6 ⊢
  split at h6 <;> first | rfl | omega
theorem sh_newq {idx ci : Nat} {n : Int32} (X : eg_X p s m args meth c R b0 D dA adc o ini mc ms cc) (d : decode cc pc = .ok (.anewarray idx, 3)) (he : (idx, ci) ∈ eg_cT.getD o []) (h5 : 5 ≤ eg_ek ci) (h6 : eg_ek ci < 11) (h0 : 0 ≤ n.toInt) (h1 : n.toInt ≤ 65536) (hck : ck + 1 ≤ mc) (hsk : sk + n.toNatClampNeg ≤ ms)
    (kk : eg_J p l e R s m args below meth c Q b0 D dA adc n0 ad0 (pc + 3) L (.ref G.2 :: r) (eg_p G (.inl (eg_ek ci, (n.toNatClampNeg, .inr (.inr (.inr (.inr (fun _ => none)))))))) (ck + 1) (sk + n.toNatClampNeg)) : eg_J p l e R s m args below meth c Q b0 D dA adc n0 ad0 pc L (.int n :: r) G ck sk := by
  obtain ⟨hx, hb, hown, hts, hK, hC, hAO, hAOA, hRc, hRs, hini, hb0⟩ := X
  intro ad H locs ls hR hL hS
  obtain ⟨hP, hD, hS0, hok, hag⟩ := id hR
  obtain ⟨-, h2⟩ := List.forall_mem_cons.mp hS
  have h65 := eg_clampN h1
  refine va_newq hx hb hown (hts _ (eg_w4 he)) (hAO ci h6) hK hP hD hS0 (fun z hz => Nat.le_trans hb0 hz) (eg_clampI h0) rfl (Nat.le_trans (Nat.mul_le_mul_right 4 h65) (by decide)) (by rw [hRc]; exact hck) (by rw [hRs]; exact hsk) d (fun q1 cA H1 hK1 hP1 hD1 hS1 => ?_)
  have hty := eg_ek_cn h5 h6
  rw [← hty] at hK1
  have ec := eg_dAt hK hK1 (by omega)
  subst ec
  exact sh_push (cell := .inl (eg_ek ci, (n.toNatClampNeg, .inr (.inr (.inr (.inr (fun _ => none))))))) kk hR hL h2 (fun f hf j z hz => by cases hf; cases hz) hP1 hD1 hS1
end EGN
end
section
/-! rows of ints, at once -/
section EGA
variable {p : Program} {l : Launch} {e : Env} {R : Room} {s : State} {m : MethodId} {args : Array Value} {below : List Frame} {meth : Method} {c : Code} {Q : State → Prop} {b0 : Nat} {D : va_G} {dA : Nat → ClassId} {adc : Nat → Nat} {n0 : Nat} {ad0 : Nat → Nat} {o : Nat} {ini : Bool} {mc ms : Nat} {cc : ByteArray}
variable {pc pc' len : Nat} {L L' : eg_Ls} {st st' r : List Value} {G G' : eg_G} {ck sk ck' sk' : Nat} {ins : Instr}
theorem eg_mws {ad : Nat → Nat} {q N K : Nat} {rr : Nat → Nat} {f0 : Nat → va_E} (h : eg_ok G) :
    (eg_ws ad dA G ++ [(q, .inl (dA 11, N, .inr (.inr (.inr (.inr (fun i => if i < N then some (rr i) else none))))))]) ++ va_pl ([] ++ (List.range N).map rr) (vr_up f0 ((List.range N).map rr) (.inl (dA 0, (K, .inl (fun _ => 0))))) =
    eg_ws (fun i => if i < G.2 then ad i else if i = G.2 then q else rr (i - G.2 - 1)) dA (eg_mg G N K) := by
  generalize hadd : (fun i => if i < G.2 then ad i else if i = G.2 then q else rr (i - G.2 - 1)) = ad'
  have ha : eg_ag G.2 ad ad' := fun i hi => by rw [← hadd]; exact if_pos hi
  have h1 := h.1
  have hlen : (eg_ws ad dA G).length = G.2 - eg_NC := by simp [eg_ws]
  have hg2 : (eg_mg G N K).2 = G.2 + 1 + N := rfl
  apply List.ext_getElem?
  intro k
  rw [List.append_assoc, List.getElem?_append, hlen]
  by_cases hk : k < G.2 - eg_NC
  · rw [if_pos hk]
    have e1 := eg_ws_at (ad := ad) (dA := dA) (G := G) (a := eg_NC + k) (by omega) (by omega)
    have e2 := eg_ws_at (ad := ad') (dA := dA) (G := eg_mg G N K) (a := eg_NC + k) (by omega) (by rw [hg2]; omega)
    rw [show eg_NC + k - eg_NC = k by omega] at e1 e2
    have e3 : (eg_mg G N K).1 (eg_NC + k) = G.1 (eg_NC + k) := if_pos (by omega)
    rw [e1, e2, e3, eg_ag_e ha (h.2 _ (by omega) (by omega)), ha (eg_NC + k) (by omega)]
  · rw [if_neg hk]
    obtain ⟨j, rfl⟩ : ∃ j, k = G.2 - eg_NC + j := ⟨k - (G.2 - eg_NC), by omega⟩
    rw [show G.2 - eg_NC + j - (G.2 - eg_NC) = j by omega]
    cases j with
    | zero =>
      have e2 := eg_ws_at (ad := ad') (dA := dA) (G := eg_mg G N K) (a := G.2) h1 (by rw [hg2]; omega)
      have e3 : (eg_mg G N K).1 G.2 = .inl (11, (N, .inr (.inr (.inr (.inr (fun i => if i < N then some (G.2 + 1 + i) else none)))))) := (if_neg (Nat.lt_irrefl _)).trans (if_pos rfl)
      have e4 : ad' G.2 = q := by rw [← hadd]; exact (if_neg (Nat.lt_irrefl _)).trans (if_pos rfl)
      rw [Nat.add_zero, e2, e3, e4]
      have e5 : (fun i => (if i < N then some (G.2 + 1 + i) else none).map ad') = fun i => if i < N then some (rr i) else none := by
        funext i
        by_cases hi : i < N
        · rw [if_pos hi, if_pos hi]
          have : ad' (G.2 + 1 + i) = rr i := by
            rw [← hadd]
            show (if G.2 + 1 + i < G.2 then _ else if G.2 + 1 + i = G.2 then q else rr (G.2 + 1 + i - G.2 - 1)) = _
            rw [if_neg (by omega), if_neg (by omega), show G.2 + 1 + i - G.2 - 1 = i by omega]
          exact congrArg some this
        · rw [if_neg hi, if_neg hi]
          rfl
      show some (q, Sum.inl (dA 11, N, Sum.inr (Sum.inr (Sum.inr (Sum.inr (fun i => if i < N then some (rr i) else none)))))) = some (q, Sum.inl (dA 11, N, Sum.inr (Sum.inr (Sum.inr (Sum.inr (fun i => (if i < N then some (G.2 + 1 + i) else none).map ad'))))))
      rw [e5]
    | succ j =>
      rw [List.cons_append, List.nil_append, List.getElem?_cons_succ]
      by_cases hj : j < N
      · have e2 := eg_ws_at (ad := ad') (dA := dA) (G := eg_mg G N K) (a := G.2 + 1 + j) (by omega) (by rw [hg2]; omega)
        have e3 : (eg_mg G N K).1 (G.2 + 1 + j) = .inl (0, (K, .inl (fun _ => 0))) := (if_neg (by omega)).trans ((if_neg (by omega)).trans (if_pos (by omega)))
        have e4 : ad' (G.2 + 1 + j) = rr j := by
          rw [← hadd]
          show (if G.2 + 1 + j < G.2 then _ else if G.2 + 1 + j = G.2 then q else rr (G.2 + 1 + j - G.2 - 1)) = _
          rw [if_neg (by omega), if_neg (by omega), show G.2 + 1 + j - G.2 - 1 = j by omega]
        rw [show G.2 - eg_NC + (j + 1) = G.2 + 1 + j - eg_NC by omega, e2, e3, e4]
        unfold va_pl
        rw [List.nil_append, List.getElem?_map, List.getElem?_map, List.getElem?_range hj]
        have hin : rr j ∈ (List.range N).map rr := List.mem_map.mpr ⟨j, List.mem_range.mpr hj, rfl⟩
        show some (rr j, vr_up f0 ((List.range N).map rr) _ (rr j)) = _
        rw [vr_up_in hin]
        rfl
      · rw [List.getElem?_eq_none (by simp [va_pl]; omega), List.getElem?_eq_none (by simp [eg_ws, hg2]; omega)]
theorem eg_mok {N K : Nat} (h : eg_ok G) : eg_ok (eg_mg G N K) := by
  refine ⟨by have := h.1; show eg_NC ≤ G.2 + 1 + N; omega, fun i h1 h2 => ?_⟩
  have h2' : i < G.2 + 1 + N := h2
  show eg_okc (G.2 + 1 + N) (if i < G.2 then G.1 i else if i = G.2 then _ else if i < G.2 + 1 + N then _ else G.1 i)
  split
  · exact (h.2 i h1 (by assumption)).up (by omega)
  · split
    · intro f hf j z hz
      cases hf
      dsimp only at hz
      split at hz
      · cases hz
        omega
      · cases hz
    · intro f hf
      cases hf
set_option maxRecDepth 4000 in
theorem sh_mna {idx : Nat} {n k : Int32} (X : eg_X p s m args meth c R b0 D dA adc o ini mc ms cc) (d : decode cc pc = .ok (.multianewarray idx 2, 4)) (he : (idx, 30) ∈ eg_cT.getD o []) (h0 : 0 ≤ n.toInt) (h1 : n.toInt ≤ 65536) (h3 : 0 ≤ k.toInt) (h4 : k.toInt ≤ 65536) (hck : ck + (1 + n.toNatClampNeg) ≤ mc) (hsk : sk + (n.toNatClampNeg + n.toNatClampNeg * k.toNatClampNeg) ≤ ms)
    (kk : eg_J p l e R s m args below meth c Q b0 D dA adc n0 ad0 (pc + 4) L (.ref G.2 :: r) (eg_mg G n.toNatClampNeg k.toNatClampNeg) (ck + 1 + n.toNatClampNeg) (sk + n.toNatClampNeg + n.toNatClampNeg * k.toNatClampNeg)) : eg_J p l e R s m args below meth c Q b0 D dA adc n0 ad0 pc L (.int k :: .int n :: r) G ck sk := by
  obtain ⟨hx, hb, hown, hts, hK, hC, hAO, hAOA, hRc, hRs, hini, hb0⟩ := X
  intro ad H locs ls hR hL hS
  obtain ⟨hP, hD, hS0, hok, hag⟩ := id hR
  obtain ⟨-, h2⟩ := List.forall_mem_cons.mp hS
  obtain ⟨-, h2⟩ := List.forall_mem_cons.mp h2
  have h65 := eg_clampN h1
  have h66 := eg_clampN h4
  have hnm : ("[" ++ (FieldType.array .int).toString) = eg_cn 30 := by decide +kernel
  have hcl : (Cond.classLink (eg_on o) idx ("[" ++ (FieldType.array .int).toString)).before args s = true := by
    rw [hnm]
    exact hts _ (eg_w4 he)
  have hcy : s.vm.findClass (FieldType.array .int).toString = some (dA 0) := (hK.2 0 _ (eg_tys_at (by decide))).2
  refine va_mna (X := eg_ws ad dA G) (L := []) (f := fun _ => .inr (0, [])) (ty := .int) (cy := dA 0) (z := (k.toNatClampNeg, .inl (fun _ => 0))) hx hb hown hcl hAOA (hts _ (eg_w9 (by simp [eg_W9]))) hcy hK (by simpa [va_pl] using hP) (by simpa [va_pl] using hD) hS0 (fun z hz => Nat.le_trans hb0 hz) (eg_clampI h0) (eg_clampI h3) rfl rfl
    (Nat.le_trans (Nat.mul_le_mul_right 4 h65) (by decide)) (Nat.le_trans (Nat.mul_le_mul_right 4 h66) (by decide)) (Nat.le_trans h66 (by decide)) rfl rfl (by rw [hRc]; exact hck) (by rw [hRs]; exact hsk) (fun c9 => ?_) d (fun q rr cA H1 hinj hnl hK1 hP1 hD1 hS1 => ?_)
  · rw [vp_cell_i, ← arrV_new]
    rfl
  · have ec : cA = dA 11 := eg_dAt hK hK1 (by decide)
    subst ec
    rw [eg_mws hok] at hP1 hD1
    have hagp : eg_ag G.2 ad (fun i => if i < G.2 then ad i else if i = G.2 then q else rr (i - G.2 - 1)) := fun i hi => if_pos hi
    have hle : G.2 ≤ (eg_mg G n.toNatClampNeg k.toNatClampNeg).2 := by show G.2 ≤ G.2 + 1 + _; omega
    have hkk := kk _ H1 locs ls ⟨hP1, hD1, hS1, eg_mok hok, fun i hi => by
      exact (hagp i (by have := hok.1; omega)).trans (hag.1 i hi), Nat.le_trans hag.2.1 hle, fun i hi => (hagp i (by have := hag.2.1; omega)).trans (hag.2.2 i hi)⟩ (hL.up hagp hle) (List.forall_mem_cons.mpr ⟨eg_okr (by show G.2 < G.2 + 1 + _; omega), fun v hv => (h2 v hv).up hle⟩)
    have e1 : (Value.ref G.2 :: r).map (eg_v (fun i => if i < G.2 then ad i else if i = G.2 then q else rr (i - G.2 - 1))) = .ref q :: r.map (eg_v ad) := by
      rw [List.map_cons, eg_ag_st hagp h2]
      show Value.ref (if G.2 < G.2 then _ else if G.2 = G.2 then q else _) :: _ = _
      rw [if_neg (Nat.lt_irrefl _), if_pos rfl]
    rw [e1] at hkk
    exact hkk
end EGA
end
section
/-! one step of the abstract machine is a step of the machine -/
def eg_lok (ins : Instr) (len : Nat) : Bool := match ins with
  | .iadd => len == 1
  | .isub => len == 1
  | .imul => len == 1
  | .iand => len == 1
  | .ior => len == 1
  | .ixor => len == 1
  | .ishl => len == 1
  | .ishr => len == 1
  | .iushr => len == 1
  | .idiv => len == 1
  | .irem => len == 1
  | .ineg => len == 1
  | .ladd => len == 1
  | .lsub => len == 1
  | .lmul => len == 1
  | .land => len == 1
  | .lor => len == 1
  | .lshl => len == 1
  | .lshr => len == 1
  | .lushr => len == 1
  | .ldiv => len == 1
  | .lcmp => len == 1
  | .i2l => len == 1
  | .l2i => len == 1
  | .i2b => len == 1
  | .i2c => len == 1
  | .dup => len == 1
  | .pop => len == 1
  | .dup2 => len == 1
  | .iaload => len == 1
  | .baload => len == 1
  | .caload => len == 1
  | .laload => len == 1
  | .aaload => len == 1
  | .iastore => len == 1
  | .bastore => len == 1
  | .castore => len == 1
  | .lastore => len == 1
  | .aastore => len == 1
  | .arraylength => len == 1
  | .aconst_null => len == 1
  | .ireturn => len == 1
  | .lreturn => len == 1
  | .areturn => len == 1
  | .return_ => len == 1
  | .athrow => len == 1
  | .iconst _ => len == 1
  | .lconst _ => len == 1
  | .iload_n _ => len == 1
  | .lload_n _ => len == 1
  | .aload_n _ => len == 1
  | .istore_n _ => len == 1
  | .lstore_n _ => len == 1
  | .astore_n _ => len == 1
  | .bipush _ => len == 2
  | .iload _ => len == 2
  | .lload _ => len == 2
  | .aload _ => len == 2
  | .istore _ => len == 2
  | .lstore _ => len == 2
  | .astore _ => len == 2
  | .ldc _ => len == 2
  | .newarray _ => len == 2
  | .sipush _ => len == 3
  | .ldc_w _ => len == 3
  | .ldc2_w _ => len == 3
  | .goto _ => len == 3
  | .ifnull _ => len == 3
  | .ifnonnull _ => len == 3
  | .getfield _ => len == 3
  | .putfield _ => len == 3
  | .getstatic _ => len == 3
  | .new _ => len == 3
  | .anewarray _ => len == 3
  | .invokevirtual _ => len == 3
  | .invokespecial _ => len == 3
  | .invokestatic _ => len == 3
  | .ifCond _ _ => len == 3
  | .if_icmp _ _ => len == 3
  | .if_acmp _ _ => len == 3
  | .iinc _ _ => len == 3
  | .multianewarray _ _ => len == 4
  | _ => true
section EGST
variable {p : Program} {l : Launch} {e : Env} {R : Room} {s : State} {m : MethodId} {args : Array Value} {below : List Frame} {meth : Method} {c : Code} {Q : State → Prop} {b0 : Nat} {D : va_G} {dA : Nat → ClassId} {adc : Nat → Nat} {n0 : Nat} {ad0 : Nat → Nat} {o : Nat} {ini : Bool} {mc ms : Nat} {cc : ByteArray}
variable {pc pc' len : Nat} {L L' : eg_Ls} {st st' r : List Value} {G G' : eg_G} {ck sk ck' sk' : Nat} {ins : Instr}
theorem st_push {v : Value} {n : Nat} (row : ∀ {H : Heap} {locs : List Loc} {ck sk : Nat} {ls : Array Slot} {rest : List Value}, W p l e R s m args below meth c H locs ck sk Q (F0 m (pc + n) ls (v :: rest)) → W p l e R s m args below meth c H locs ck sk Q (F0 m pc ls rest)) (hv : ∀ i, v ≠ .ref i)
    (k : eg_J p l e R s m args below meth c Q b0 D dA adc n0 ad0 (pc + n) L (v :: st) G ck sk) : eg_J p l e R s m args below meth c Q b0 D dA adc n0 ad0 pc L st G ck sk := by
  intro ad H locs ls hR hL hS
  have hkk := k ad H locs ls hR hL (List.forall_mem_cons.mpr ⟨fun i hi => absurd hi (hv i), hS⟩)
  have e1 : eg_v ad v = v := by
    cases v <;> first | rfl | exact absurd rfl (hv _)
  rw [List.map_cons, e1] at hkk
  exact row hkk
theorem st_kst {idx : Nat} (X : eg_X p s m args meth c R b0 D dA adc o ini mc ms cc) (hl : len = 2 ∧ ins = .ldc idx ∨ len = 3 ∧ (ins = .ldc_w idx ∨ ins = .ldc2_w idx)) (d : decode cc pc = .ok (ins, len)) {kd : Nat} (h : eg_kst o idx len kd pc L st G ck sk = some (pc', L', st', G', ck', sk')) (hkd : (ins = .ldc2_w idx → kd = 2) ∧ (ins = .ldc_w idx → kd = 1) ∧ (ins = .ldc idx → kd = 0)) (k : eg_J p l e R s m args below meth c Q b0 D dA adc n0 ad0 pc' L' st' G' ck' sk') : eg_J p l e R s m args below meth c Q b0 D dA adc n0 ad0 pc L st G ck sk := by
  obtain ⟨hx, hb, hown, hts, hK, hC, hAO, hAOA, hRc, hRs, hini, hb0⟩ := X
  unfold eg_kst at h
  split at h
  · rename_i v hv
    split at h
    case isFalse => cases h
    rename_i hkk
    cases h
    have hm := eg_lk hv
    obtain ⟨t1, t2, t3⟩ : (ins = .ldc2_w idx → ∃ z, v = .long z) ∧ (ins = .ldc_w idx → ∃ z, v = .int z) ∧ (ins = .ldc idx → (∃ z, v = .int z) ∨ ∃ j, v = .ref (36 + j) ∧ 36 + j < eg_NC) := by
      obtain ⟨u1, u2, u3⟩ := hkd
      refine ⟨fun q => ?_, fun q => ?_, fun q => ?_⟩
      · rw [u1 q] at hkk
        cases v <;> first | exact ⟨_, rfl⟩ | (simp [eg_kk] at hkk)
      · rw [u2 q] at hkk
        cases v <;> first | exact ⟨_, rfl⟩ | (simp [eg_kk] at hkk)
      · rw [u3 q] at hkk
        cases v with
        | int z => exact Or.inl ⟨_, rfl⟩
        | ref j =>
          simp [eg_kk] at hkk
          have e9 : 36 + (j - 36) = j := Nat.add_sub_cancel' hkk.1
          exact Or.inr ⟨j - 36, by rw [e9], by rw [e9]; exact hkk.2⟩
        | _ => simp [eg_kk] at hkk
    rcases hl with ⟨rfl, rfl⟩ | ⟨rfl, rfl | rfl⟩
    · rcases t3 rfl with ⟨z, rfl⟩ | ⟨j, rfl, hj⟩
      · exact st_push (fun kk => lv_ldc hx hb hown (hts _ (eg_w3 hm _ (by simp [eg_kw]))) d kk) (fun _ h => nomatch h) k
      · intro ad H locs ls hR hL hS
        obtain ⟨hP, hD, hS0, hok, hag⟩ := id hR
        obtain ⟨tx, htx⟩ := hC.2.2.2.2.2.2.2 o idx j hm
        have hkk := k ad H locs ls hR hL (List.forall_mem_cons.mpr ⟨eg_okr (Nat.lt_of_lt_of_le hj hok.1), hS⟩)
        have e1 : (Value.ref (36 + j) :: st).map (eg_v ad) = .ref (adc (36 + j)) :: st.map (eg_v ad) := by
          show Value.ref (ad (36 + j)) :: _ = _
          rw [hag.1 _ hj]
        rw [e1] at hkk
        exact va_ldcS hx hb hown htx d hkk
    · obtain ⟨z, rfl⟩ := t2 rfl
      exact st_push (fun kk => lv_ldcw hx hb hown (hts _ (eg_w3 hm _ (by simp [eg_kw]))) d kk) (fun _ h => nomatch h) k
    · obtain ⟨z, rfl⟩ := t1 rfl
      exact st_push (fun kk => lv_ldc2 hx hb hown (hts _ (eg_w3 hm _ (by simp [eg_kw]))) d kk) (fun _ h => nomatch h) k
  · cases h
theorem st_ar (X : eg_X p s m args meth c R b0 D dA adc o ini mc ms cc) (d : decode cc pc = .ok (ins, 1)) (hins : ins = .iaload ∨ ins = .baload ∨ ins = .caload ∨ ins = .laload ∨ ins = .aaload) (h : eg_ar ins pc L st G ck sk = some (pc', L', st', G', ck', sk')) (k : eg_J p l e R s m args below meth c Q b0 D dA adc n0 ad0 pc' L' st' G' ck' sk') : eg_J p l e R s m args below meth c Q b0 D dA adc n0 ad0 pc L st G ck sk := by
  unfold eg_ar at h
  split at h
  · split at h
    · rename_i i a r c0 t x hG
      split at h
      · rename_i hc
        obtain ⟨han, hak, hi⟩ := hc
        split at h
        · rename_i v hv
          cases h
          obtain ⟨n, y⟩ := x
          by_cases ha : a < eg_NC
          · rw [eg_at_lo ha] at hG
            rcases eg_con_arr ha hG with ⟨rfl, f, hf⟩ | ⟨rfl, hf⟩ | ⟨rfl, f, hf⟩
            · have hf' : y = .inl f := hf
              subst hf'
              rcases hins with rfl | rfl | rfl | rfl | rfl
              · simp [eg_ak] at hak
              · cases hv
                exact sh_conB X d hG ha hi k
              · simp [eg_ak] at hak
              · simp [eg_ak] at hak
              · simp [eg_ak] at hak
            · cases hf
              rcases hins with rfl | rfl | rfl | rfl | rfl
              · simp [eg_ak] at hak
              · simp [eg_ak] at hak
              · simp [eg_ak] at hak
              · simp [eg_ak] at hak
              · cases hv
                exact sh_conQ X d hG ha hi k
            · have hf' : y = .inl f := hf
              subst hf'
              rcases hins with rfl | rfl | rfl | rfl | rfl
              · cases hv
                exact sh_conI X d hG ha hi k
              · simp [eg_ak] at hak
              · simp [eg_ak] at hak
              · simp [eg_ak] at hak
              · simp [eg_ak] at hak
          · have ha' := Nat.le_of_not_lt ha
            rw [eg_at_hi ha'] at hG
            rcases y with f | f | f | f | f
            · rcases hins with rfl | rfl | rfl | rfl | rfl
              · have ht : t = 0 := by simpa [eg_ak] using hak
                subst ht
                cases hv
                exact sh_iaload0 X d hG ha' han hi k
              · have ht : t = 1 ∨ t = 3 := by simpa [eg_ak] using hak
                rcases ht with rfl | rfl
                · cases hv
                  exact sh_baload1 X d hG ha' han hi k
                · cases hv
                  exact sh_baload3 X d hG ha' han hi k
              · have ht : t = 4 := by simpa [eg_ak] using hak
                subst ht
                cases hv
                exact sh_caload4 X d hG ha' han hi k
              · have ht : t = 2 := by simpa [eg_ak] using hak
                subst ht
                simp [eg_rd] at hv
              · have ht : 5 ≤ t ∧ t < 12 := by simpa [eg_ak] using hak
                simp [eg_rd] at hv
                omega
            · rcases hins with rfl | rfl | rfl | rfl | rfl
              · have ht : t = 0 := by simpa [eg_ak] using hak
                subst ht
                simp [eg_rd] at hv
              · have ht : t = 1 ∨ t = 3 := by simpa [eg_ak] using hak
                rcases ht with rfl | rfl <;> simp [eg_rd] at hv
              · have ht : t = 4 := by simpa [eg_ak] using hak
                subst ht
                simp [eg_rd] at hv
              · have ht : t = 2 := by simpa [eg_ak] using hak
                subst ht
                cases hv
                exact sh_laload2 X d hG ha' han hi k
              · have ht : 5 ≤ t ∧ t < 12 := by simpa [eg_ak] using hak
                simp [eg_rd] at hv
                omega
            · simp [eg_rd] at hv
            · simp [eg_rd] at hv
            · rcases hins with rfl | rfl | rfl | rfl | rfl
              · have ht : t = 0 := by simpa [eg_ak] using hak
                subst ht
                simp [eg_rd] at hv
              · have ht : t = 1 ∨ t = 3 := by simpa [eg_ak] using hak
                rcases ht with rfl | rfl <;> simp [eg_rd] at hv
              · have ht : t = 4 := by simpa [eg_ak] using hak
                subst ht
                simp [eg_rd] at hv
              · have ht : t = 2 := by simpa [eg_ak] using hak
                subst ht
                simp [eg_rd] at hv
              · have ht : 5 ≤ t ∧ t < 12 := by simpa [eg_ak] using hak
                have hv' : va_rf (f i.toNatClampNeg) = v := by simpa [eg_rd, ht.1] using hv
                subst hv'
                exact sh_aaload X d hG ha' han ht hi k
        · cases h
      · cases h
    · cases h
  · cases h
theorem st_aw (X : eg_X p s m args meth c R b0 D dA adc o ini mc ms cc) (d : decode cc pc = .ok (ins, 1)) (hins : ins = .iastore ∨ ins = .bastore ∨ ins = .castore ∨ ins = .lastore ∨ ins = .aastore) (h : eg_aw ins pc L st G ck sk = some (pc', L', st', G', ck', sk')) (k : eg_J p l e R s m args below meth c Q b0 D dA adc n0 ad0 pc' L' st' G' ck' sk') : eg_J p l e R s m args below meth c Q b0 D dA adc n0 ad0 pc L st G ck sk := by
  unfold eg_aw at h
  split at h
  · split at h
    · rename_i v i a r t x hG
      split at h
      · rename_i hc
        obtain ⟨ha, han, hak, hi⟩ := hc
        split at h
        · rename_i y hy
          cases h
          obtain ⟨n, z⟩ := x
          rw [eg_at_hi ha] at hG
          rcases hins with rfl | rfl | rfl | rfl | rfl
          · have ht : t = 0 := by simpa [eg_ak] using hak
            subst ht
            unfold eg_wr at hy
            split at hy
            · rename_i f z0 hz
              have hz' : z = .inl f := hz
              subst hz'
              cases hy
              exact sh_iastore0 X d hG ha han hi k
            · simp at hy
            · simp at hy
            · simp at hy
            · cases hy
          · have ht : t = 1 ∨ t = 3 := by simpa [eg_ak] using hak
            unfold eg_wr at hy
            split at hy
            · rename_i f z0 hz
              have hz' : z = .inl f := hz
              subst hz'
              rcases ht with rfl | rfl
              · cases hy
                exact sh_bastore1 X d hG ha han hi k
              · cases hy
                exact sh_bastore3 X d hG ha han hi k
            · rcases ht with rfl | rfl <;> simp at hy
            · rcases ht with rfl | rfl <;> simp at hy
            · rcases ht with rfl | rfl <;> simp at hy
            · cases hy
          · have ht : t = 4 := by simpa [eg_ak] using hak
            subst ht
            unfold eg_wr at hy
            split at hy
            · rename_i f z0 hz
              have hz' : z = .inl f := hz
              subst hz'
              cases hy
              exact sh_castore4 X d hG ha han hi k
            · simp at hy
            · simp at hy
            · simp at hy
            · cases hy
          · have ht : t = 2 := by simpa [eg_ak] using hak
            subst ht
            unfold eg_wr at hy
            split at hy
            · simp at hy
            · rename_i f z0 hz
              have hz' : z = .inr (.inl f) := hz
              subst hz'
              cases hy
              exact sh_lastore2 X d hG ha han hi k
            · simp at hy
            · simp at hy
            · cases hy
          · have ht : 5 ≤ t ∧ t < 11 := by simpa [eg_ak] using hak
            unfold eg_wr at hy
            split at hy
            · split at hy <;> first | omega | cases hy
            · rw [if_neg (by omega)] at hy
              cases hy
            · rename_i f hz
              have hz' : z = .inr (.inr (.inr (.inr f))) := hz
              subst hz'
              rw [if_pos ht] at hy
              cases hy
              exact sh_aastoreN X d hG ha han ht hi k
            · rename_i f q hz
              have hz' : z = .inr (.inr (.inr (.inr f))) := hz
              subst hz'
              split at hy
              · rename_i hq
                cases hy
                exact sh_aastoreR X d hG ha han ht hi hq.1 hq.2.2.2 k
              · cases hy
            · cases hy
        · cases h
      · cases h
    · cases h
  · cases h
theorem st_gf {idx : Nat} (X : eg_X p s m args meth c R b0 D dA adc o ini mc ms cc) (d : decode cc pc = .ok (.getfield idx, 3)) (h : eg_gf o idx pc L st G ck sk = some (pc', L', st', G', ck', sk')) (k : eg_J p l e R s m args below meth c Q b0 D dA adc n0 ad0 pc' L' st' G' ck' sk') : eg_J p l e R s m args below meth c Q b0 D dA adc n0 ad0 pc L st G ck sk := by
  unfold eg_gf at h
  split at h
  · rename_i ci k0 hh hlk
    split at h
    · split at h
      · rename_i a r cj fs hG
        split at h
        · rename_i hc
          obtain ⟨han, rfl⟩ := hc
          split at h
          · rename_i v hv
            cases h
            exact sh_get X d (eg_lk hlk) hG han hv k
          · cases h
        · cases h
      · cases h
    · cases h
  · cases h
theorem st_pf {idx : Nat} (X : eg_X p s m args meth c R b0 D dA adc o ini mc ms cc) (d : decode cc pc = .ok (.putfield idx, 3)) (h : eg_pf o ini idx pc L st G ck sk = some (pc', L', st', G', ck', sk')) (k : eg_J p l e R s m args below meth c Q b0 D dA adc n0 ad0 pc' L' st' G' ck' sk') : eg_J p l e R s m args below meth c Q b0 D dA adc n0 ad0 pc L st G ck sk := by
  unfold eg_pf at h
  split at h
  · rename_i ci k0 hh hlk
    split at h
    · split at h
      · rename_i v a r cj fs hG
        split at h
        · rename_i hc
          obtain ⟨ha, han, rfl, hk, hf, hfin⟩ := hc
          cases h
          rw [eg_at_hi ha] at hG
          exact sh_put X d (eg_lk hlk) hG ha han hk hf hfin k
        · cases h
      · cases h
    · cases h
  · cases h
theorem eg_tg_ok {off : Int} (h : 0 ≤ (pc : Int) + off) : (pc : Int) + off = (eg_tg pc off : Int) := by
  unfold eg_tg
  omega
theorem eg_isr {v : Value} (h : v.isRef = true) : ∃ x : Option Nat, v = va_rf x := by
  cases v <;> first | exact ⟨none, rfl⟩ | exact ⟨some _, rfl⟩ | cases h
/-- the naming tells two numbers apart -/
theorem eg_inj {ad : Nat → Nat} {H : Heap} {locs : List Loc} (hC : eg_K s b0 adc) (hR : eg_Rel s b0 D dA adc n0 ad0 ad G H locs) {i j : Nat} (hi : i < G.2) (hj : j < G.2) (hi2 : i < 36 ∨ eg_NC ≤ i) (hj2 : j < 36 ∨ eg_NC ≤ j) (h : ad i = ad j) : i = j := by
  obtain ⟨hP, hD, hS0, hok, hag⟩ := hR
  have h36 : 36 + 2 * eg_NS + 4 = eg_NC := rfl
  rcases hi2 with hi2 | hi2 <;> rcases hj2 with hj2 | hj2
  · rw [hag.1 i (by omega), hag.1 j (by omega)] at h
    exact hC.2.2.2.1 i j hi2 hj2 h
  · have h1 := hC.2.2.2.2.1 i (by omega)
    rw [← hag.1 i (by omega), h] at h1
    have h2 : b0 ≤ ad j := hD.2 _ _ (eg_ws_at hj2 hj)
    omega
  · have h1 := hC.2.2.2.2.1 j (by omega)
    rw [← hag.1 j (by omega), ← h] at h1
    have h2 : b0 ≤ ad i := hD.2 _ _ (eg_ws_at hi2 hi)
    omega
  · have h1 := hD.1 _ _ _ _ (eg_ws_at (ad := ad) (dA := dA) hi2 hi) (eg_ws_at (ad := ad) (dA := dA) hj2 hj) h
    omega
theorem st_acmp {v w : Value} {off : Int} {ac : ACond} (X : eg_X p s m args meth c R b0 D dA adc o ini mc ms cc) (d : decode cc pc = .ok (.if_acmp ac off, 3)) (ho : 0 ≤ (pc : Int) + off) (hv : v.isRef = true) (hw : w.isRef = true) (hv2 : ∀ i, v = .ref i → i < 36 ∨ eg_NC ≤ i) (hw2 : ∀ i, w = .ref i → i < 36 ∨ eg_NC ≤ i)
    (k : eg_J p l e R s m args below meth c Q b0 D dA adc n0 ad0 (match ac with
      | .eq => (if v = w then eg_tg pc off else pc + 3)
      | .ne => (if ¬ v = w then eg_tg pc off else pc + 3)) L r G ck sk) : eg_J p l e R s m args below meth c Q b0 D dA adc n0 ad0 pc L (w :: v :: r) G ck sk := by
  obtain ⟨hx, hb, hown, hts, hK, hC, hAO, hAOA, hRc, hRs, hini, hb0⟩ := X
  intro ad H locs ls hR hL hS
  obtain ⟨hw3, h2⟩ := List.forall_mem_cons.mp hS
  obtain ⟨hv3, h2⟩ := List.forall_mem_cons.mp h2
  have hkk := k ad H locs ls hR hL h2
  obtain ⟨x, rfl⟩ := eg_isr hv
  obtain ⟨y, rfl⟩ := eg_isr hw
  have e1 : (va_rf y :: va_rf x :: r).map (eg_v ad) = va_rf (y.map ad) :: va_rf (x.map ad) :: r.map (eg_v ad) := by
    rw [List.map_cons, List.map_cons, eg_v_rf, eg_v_rf]
  rw [e1]
  have hiff : x.map ad = y.map ad ↔ va_rf x = va_rf y := by
    constructor
    · intro h
      cases x with
      | none => cases y with
        | none => rfl
        | some j => cases h
      | some i => cases y with
        | none => cases h
        | some j => rw [eg_inj hC hR (hv3 i rfl) (hw3 j rfl) (hv2 i rfl) (hw2 j rfl) (Option.some.inj h)]
    · intro h
      cases x <;> cases y <;> first | rfl | (cases h; rfl) | cases h
  cases ac with
  | eq =>
    refine lv_acmp_eq hx hb d (eg_tg_ok ho) (fun h => ?_) (fun h => ?_)
    · dsimp only at hkk
      rw [if_pos (hiff.mp h)] at hkk
      exact hkk
    · dsimp only at hkk
      rw [if_neg (fun q => h (hiff.mpr q))] at hkk
      exact hkk
  | ne =>
    refine lv_acmp_ne hx hb d (eg_tg_ok ho) (fun h => ?_) (fun h => ?_)
    · dsimp only at hkk
      rw [if_pos (fun q => h (hiff.mpr q))] at hkk
      exact hkk
    · dsimp only at hkk
      rw [if_neg (fun q => q (hiff.mp h))] at hkk
      exact hkk
end EGST
end
section
section EGM
variable {p : Program} {l : Launch} {e : Env} {R : Room} {s : State} {m : MethodId} {args : Array Value} {below : List Frame} {meth : Method} {c : Code} {Q : State → Prop} {b0 : Nat} {D : va_G} {dA : Nat → ClassId} {adc : Nat → Nat} {n0 : Nat} {ad0 : Nat → Nat} {o : Nat} {ini : Bool} {mc ms : Nat} {cc : ByteArray}
variable {pc pc' len : Nat} {L L' : eg_Ls} {st st' r : List Value} {G G' : eg_G} {ck sk ck' sk' : Nat} {ins : Instr}
theorem eg_ca_ok {v : Value} (h : eg_ca v = true) : v.isRef = true ∧ ∀ i, v = .ref i → i < 36 ∨ eg_NC ≤ i := by
  cases v with
  | null => exact ⟨rfl, fun _ h => nomatch h⟩
  | ref i =>
    refine ⟨rfl, fun j hj => ?_⟩
    cases hj
    simpa [eg_ca] using h
  | _ => cases h
theorem st_if {x : Int32} {off : Int} {P : Prop} [Decidable P] (row : ∀ {H : Heap} {locs : List Loc} {ck sk : Nat} {ls : Array Slot} {rest : List Value}, (P → W p l e R s m args below meth c H locs ck sk Q (F0 m (eg_tg pc off) ls rest)) → (¬ P → W p l e R s m args below meth c H locs ck sk Q (F0 m (pc + 3) ls rest)) → W p l e R s m args below meth c H locs ck sk Q (F0 m pc ls (.int x :: rest)))
    (k : eg_J p l e R s m args below meth c Q b0 D dA adc n0 ad0 (if P then eg_tg pc off else pc + 3) L r G ck sk) : eg_J p l e R s m args below meth c Q b0 D dA adc n0 ad0 pc L (.int x :: r) G ck sk := by
  intro ad H locs ls hR hL hS
  obtain ⟨-, h2⟩ := List.forall_mem_cons.mp hS
  have hkk := k ad H locs ls hR hL h2
  refine row (fun h => ?_) (fun h => ?_)
  · rw [if_pos h] at hkk
    exact hkk
  · rw [if_neg h] at hkk
    exact hkk
theorem st_if2 {x y : Int32} {off : Int} {P : Prop} [Decidable P] (row : ∀ {H : Heap} {locs : List Loc} {ck sk : Nat} {ls : Array Slot} {rest : List Value}, (P → W p l e R s m args below meth c H locs ck sk Q (F0 m (eg_tg pc off) ls rest)) → (¬ P → W p l e R s m args below meth c H locs ck sk Q (F0 m (pc + 3) ls rest)) → W p l e R s m args below meth c H locs ck sk Q (F0 m pc ls (.int y :: .int x :: rest)))
    (k : eg_J p l e R s m args below meth c Q b0 D dA adc n0 ad0 (if P then eg_tg pc off else pc + 3) L r G ck sk) : eg_J p l e R s m args below meth c Q b0 D dA adc n0 ad0 pc L (.int y :: .int x :: r) G ck sk := by
  intro ad H locs ls hR hL hS
  obtain ⟨-, h2⟩ := List.forall_mem_cons.mp hS
  obtain ⟨-, h2⟩ := List.forall_mem_cons.mp h2
  have hkk := k ad H locs ls hR hL h2
  refine row (fun h => ?_) (fun h => ?_)
  · rw [if_pos h] at hkk
    exact hkk
  · rw [if_neg h] at hkk
    exact hkk
theorem st_pop1 {v w : Value} {n : Nat} (row : ∀ {H : Heap} {locs : List Loc} {ck sk : Nat} {ls : Array Slot} {rest : List Value}, W p l e R s m args below meth c H locs ck sk Q (F0 m (pc + n) ls (w :: rest)) → W p l e R s m args below meth c H locs ck sk Q (F0 m pc ls (v :: rest))) (hv : ∀ i, v ≠ .ref i) (hw : ∀ i, w ≠ .ref i)
    (k : eg_J p l e R s m args below meth c Q b0 D dA adc n0 ad0 (pc + n) L (w :: r) G ck sk) : eg_J p l e R s m args below meth c Q b0 D dA adc n0 ad0 pc L (v :: r) G ck sk := by
  intro ad H locs ls hR hL hS
  obtain ⟨-, h2⟩ := List.forall_mem_cons.mp hS
  have hkk := k ad H locs ls hR hL (List.forall_mem_cons.mpr ⟨fun i hi => absurd hi (hw i), h2⟩)
  have e0 : eg_v ad v = v := by
    cases v <;> first | rfl | exact absurd rfl (hv _)
  have e1 : eg_v ad w = w := by
    cases w <;> first | rfl | exact absurd rfl (hw _)
  rw [List.map_cons, e1] at hkk
  rw [List.map_cons, e0]
  exact row hkk
theorem st_jump {n : Nat} (row : ∀ {H : Heap} {locs : List Loc} {ck sk : Nat} {ls : Array Slot} {rest : List Value}, W p l e R s m args below meth c H locs ck sk Q (F0 m n ls rest) → W p l e R s m args below meth c H locs ck sk Q (F0 m pc ls rest))
    (k : eg_J p l e R s m args below meth c Q b0 D dA adc n0 ad0 n L st G ck sk) : eg_J p l e R s m args below meth c Q b0 D dA adc n0 ad0 pc L st G ck sk := fun ad H locs ls hR hL hS => row (k ad H locs ls hR hL hS)
theorem st_jumpi {n : Nat} {x : Int32} (row : ∀ {H : Heap} {locs : List Loc} {ck sk : Nat} {ls : Array Slot} {rest : List Value}, W p l e R s m args below meth c H locs ck sk Q (F0 m n ls rest) → W p l e R s m args below meth c H locs ck sk Q (F0 m pc ls (.int x :: rest)))
    (k : eg_J p l e R s m args below meth c Q b0 D dA adc n0 ad0 n L r G ck sk) : eg_J p l e R s m args below meth c Q b0 D dA adc n0 ad0 pc L (.int x :: r) G ck sk := fun ad H locs ls hR hL hS => row (k ad H locs ls hR hL (List.forall_mem_cons.mp hS).2)
set_option maxHeartbeats 4000000 in
theorem eg_step (X : eg_X p s m args meth c R b0 D dA adc o ini mc ms cc) (d : decode cc pc = .ok (ins, len)) (hl : eg_lok ins len = true) (h : eg_st o ini mc ms pc len ins L st G ck sk = some (pc', L', st', G', ck', sk')) (k : eg_J p l e R s m args below meth c Q b0 D dA adc n0 ad0 pc' L' st' G' ck' sk') (kn : eg_s151 o ins = true → eg_J p l e R s m args below meth c Q b0 D dA adc n0 ad0 (pc + 3) L (.null :: st) G ck sk) : eg_J p l e R s m args below meth c Q b0 D dA adc n0 ad0 pc L st G ck sk := by
  have hx := X.1
  have hb := X.2.1
  cases ins with
  | iconst n => have hl' : len = 1 := by simpa [eg_lok] using hl
                subst hl'; cases h; exact st_push (fun kk => lv_iconst hx hb d rfl kk) (fun _ h => nomatch h) k
  | bipush n => have hl' : len = 2 := by simpa [eg_lok] using hl
                subst hl'; cases h; exact st_push (fun kk => lv_bipush hx hb d rfl kk) (fun _ h => nomatch h) k
  | sipush n => have hl' : len = 3 := by simpa [eg_lok] using hl
                subst hl'; cases h; exact st_push (fun kk => lv_sipush hx hb d rfl kk) (fun _ h => nomatch h) k
  | lconst n => have hl' : len = 1 := by simpa [eg_lok] using hl
                subst hl'; cases h; exact st_push (fun kk => lv_lconst hx hb d rfl kk) (fun _ h => nomatch h) k
  | aconst_null => have hl' : len = 1 := by simpa [eg_lok] using hl
                   subst hl'; cases h; exact st_push (fun kk => lv_null hx hb d kk) (fun _ h => nomatch h) k
  | ldc i => have hl' : len = 2 := by simpa [eg_lok] using hl
             subst hl'; exact st_kst X (Or.inl ⟨rfl, rfl⟩) d h ⟨(fun h => nomatch h), (fun h => nomatch h), fun _ => rfl⟩ k
  | ldc_w i => have hl' : len = 3 := by simpa [eg_lok] using hl
               subst hl'; exact st_kst X (Or.inr ⟨rfl, Or.inl rfl⟩) d h ⟨(fun h => nomatch h), (fun _ => rfl), (fun h => nomatch h)⟩ k
  | ldc2_w i => have hl' : len = 3 := by simpa [eg_lok] using hl
                subst hl'; exact st_kst X (Or.inr ⟨rfl, Or.inr rfl⟩) d h ⟨(fun _ => rfl), (fun h => nomatch h), (fun h => nomatch h)⟩ k
  | iload i => have hl' : len = 2 := by simpa [eg_lok] using hl
               subst hl'; exact sj_li (len := 2) (fun h1 kk => lv_iload hx hb d h1 kk) h k
  | iload_n i => have hl' : len = 1 := by simpa [eg_lok] using hl
                 subst hl'; exact sj_li (len := 1) (fun h1 kk => lv_iload_n hx hb d rfl h1 kk) h k
  | lload i => have hl' : len = 2 := by simpa [eg_lok] using hl
               subst hl'; exact sj_ll (len := 2) (fun h1 kk => lv_lload hx hb d h1 kk) h k
  | lload_n i => have hl' : len = 1 := by simpa [eg_lok] using hl
                 subst hl'; exact sj_ll (len := 1) (fun h1 kk => lv_lload_n hx hb d rfl h1 kk) h k
  | aload i => have hl' : len = 2 := by simpa [eg_lok] using hl
               subst hl'; exact sj_la (len := 2) (fun h1 kk => lv_aload hx hb d h1 kk) (fun h1 kk => lv_aloadN hx hb d h1 kk) h k
  | aload_n i => have hl' : len = 1 := by simpa [eg_lok] using hl
                 subst hl'; exact sj_la (len := 1) (fun h1 kk => lv_aload_n hx hb d rfl h1 kk) (fun h1 kk => lv_aload_nN hx hb d rfl h1 kk) h k
  | istore i => have hl' : len = 2 := by simpa [eg_lok] using hl
                subst hl'; exact sj_si (len := 2) (fun h1 h2 kk => lv_istore hx hb d h1 h2 rfl kk) h k
  | istore_n i => have hl' : len = 1 := by simpa [eg_lok] using hl
                  subst hl'; exact sj_si (len := 1) (fun h1 h2 kk => lv_istore_n hx hb d rfl h1 h2 rfl kk) h k
  | lstore i => have hl' : len = 2 := by simpa [eg_lok] using hl
                subst hl'; exact sj_sl (len := 2) (fun h1 h2 kk => lv_lstore hx hb d h1 h2 rfl kk) h k
  | lstore_n i => have hl' : len = 1 := by simpa [eg_lok] using hl
                  subst hl'; exact sj_sl (len := 1) (fun h1 h2 kk => lv_lstore_n hx hb d rfl h1 h2 rfl kk) h k
  | astore i => have hl' : len = 2 := by simpa [eg_lok] using hl
                subst hl'; exact sj_sa (len := 2) (fun h1 h2 kk => lv_astore hx hb d h1 h2 rfl kk) (fun h1 h2 kk => lv_astoreN hx hb d h1 h2 rfl kk) h k
  | astore_n i => have hl' : len = 1 := by simpa [eg_lok] using hl
                  subst hl'; exact sj_sa (len := 1) (fun h1 h2 kk => lv_astore_n hx hb d rfl h1 h2 rfl kk) (fun h1 h2 kk => lv_astore_nN hx hb d rfl h1 h2 rfl kk) h k
  | iinc i n =>
    simp only [eg_st] at h
    split at h
    · rename_i x hxx
      split at h
      · rename_i hc
        obtain ⟨hlen, hi⟩ := hc
        subst hlen
        cases h
        intro ad H locs ls hR hL hS
        have hm := eg_lq_at ad L 0 i _ (eg_ld_at hxx)
        rw [Nat.zero_add] at hm
        obtain ⟨k0, hk0⟩ := List.getElem?_of_mem hm
        exact lv_iinc hx hb d hL.1 hk0 rfl hi rfl (fun ls' hl' => k ad H locs ls' hR (eg_LR_s1 (v := .int _) hL eg_oki hl') hS)
      · cases h
    · cases h
  | iadd => have hl' : len = 1 := by simpa [eg_lok] using hl
            subst hl'; exact sj_ii (fun kk => lv_iadd hx hb d kk) h k
  | isub => have hl' : len = 1 := by simpa [eg_lok] using hl
            subst hl'; exact sj_ii (fun kk => lv_isub hx hb d kk) h k
  | imul => have hl' : len = 1 := by simpa [eg_lok] using hl
            subst hl'; exact sj_ii (fun kk => lv_imul hx hb d kk) h k
  | iand => have hl' : len = 1 := by simpa [eg_lok] using hl
            subst hl'; exact sj_ii (fun kk => lv_iand hx hb d kk) h k
  | ior => have hl' : len = 1 := by simpa [eg_lok] using hl
           subst hl'; exact sj_ii (fun kk => lv_ior hx hb d kk) h k
  | ixor => have hl' : len = 1 := by simpa [eg_lok] using hl
            subst hl'; exact sj_ii (fun kk => lv_ixor hx hb d kk) h k
  | ishl => have hl' : len = 1 := by simpa [eg_lok] using hl
            subst hl'; exact sj_ii (fun kk => lv_ishl hx hb d kk) h k
  | ishr => have hl' : len = 1 := by simpa [eg_lok] using hl
            subst hl'; exact sj_ii (fun kk => lv_ishr hx hb d kk) h k
  | iushr => have hl' : len = 1 := by simpa [eg_lok] using hl
             subst hl'; exact sj_ii (fun kk => lv_iushr hx hb d rfl kk) h k
  | ladd => have hl' : len = 1 := by simpa [eg_lok] using hl
            subst hl'; exact sj_l2 (fun kk => lv_ladd hx hb d kk) h k
  | lsub => have hl' : len = 1 := by simpa [eg_lok] using hl
            subst hl'; exact sj_l2 (fun kk => lv_lsub hx hb d kk) h k
  | lmul => have hl' : len = 1 := by simpa [eg_lok] using hl
            subst hl'; exact sj_l2 (fun kk => lv_lmul hx hb d kk) h k
  | land => have hl' : len = 1 := by simpa [eg_lok] using hl
            subst hl'; exact sj_l2 (fun kk => lv_land hx hb d kk) h k
  | lor => have hl' : len = 1 := by simpa [eg_lok] using hl
           subst hl'; exact sj_l2 (fun kk => lv_lor hx hb d kk) h k
  | lshl => have hl' : len = 1 := by simpa [eg_lok] using hl
            subst hl'; exact sj_ls (fun kk => lv_lshl hx hb d rfl kk) h k
  | lshr => have hl' : len = 1 := by simpa [eg_lok] using hl
            subst hl'; exact sj_ls (fun kk => lv_lshr hx hb d rfl kk) h k
  | lushr => have hl' : len = 1 := by simpa [eg_lok] using hl
             subst hl'; exact sj_ls (fun kk => lv_lushr hx hb d rfl kk) h k
  | idiv =>
    have hl' : len = 1 := by simpa [eg_lok] using hl
    subst hl'
    simp only [eg_st] at h
    split at h
    · rename_i y x r
      split at h
      · cases h
      · rename_i hne
        cases h
        intro ad H locs ls hR hL hS
        obtain ⟨-, h2⟩ := List.forall_mem_cons.mp hS
        obtain ⟨-, h2⟩ := List.forall_mem_cons.mp h2
        exact lv_idiv hx hb d hne (k ad H locs ls hR hL (List.forall_mem_cons.mpr ⟨eg_oki, h2⟩))
    · cases h
  | irem =>
    have hl' : len = 1 := by simpa [eg_lok] using hl
    subst hl'
    simp only [eg_st] at h
    split at h
    · rename_i y x r
      split at h
      · cases h
      · rename_i hne
        cases h
        intro ad H locs ls hR hL hS
        obtain ⟨-, h2⟩ := List.forall_mem_cons.mp hS
        obtain ⟨-, h2⟩ := List.forall_mem_cons.mp h2
        exact lv_irem hx hb d hne (k ad H locs ls hR hL (List.forall_mem_cons.mpr ⟨eg_oki, h2⟩))
    · cases h
  | ldiv =>
    have hl' : len = 1 := by simpa [eg_lok] using hl
    subst hl'
    simp only [eg_st] at h
    split at h
    · rename_i y x r
      split at h
      · cases h
      · rename_i hne
        cases h
        intro ad H locs ls hR hL hS
        obtain ⟨-, h2⟩ := List.forall_mem_cons.mp hS
        obtain ⟨-, h2⟩ := List.forall_mem_cons.mp h2
        exact lv_ldiv hx hb d hne (k ad H locs ls hR hL (List.forall_mem_cons.mpr ⟨eg_okl, h2⟩))
    · cases h
  | lcmp =>
    have hl' : len = 1 := by simpa [eg_lok] using hl
    subst hl'
    simp only [eg_st] at h
    split at h
    · cases h
      intro ad H locs ls hR hL hS
      obtain ⟨-, h2⟩ := List.forall_mem_cons.mp hS
      obtain ⟨-, h2⟩ := List.forall_mem_cons.mp h2
      exact W.lcmp hx hb d (k ad H locs ls hR hL (List.forall_mem_cons.mpr ⟨eg_oki, h2⟩))
    · cases h
  | ineg =>
    have hl' : len = 1 := by simpa [eg_lok] using hl
    subst hl'
    simp only [eg_st] at h
    split at h
    · cases h; exact st_pop1 (fun kk => lv_ineg hx hb d kk) (fun _ h => nomatch h) (fun _ h => nomatch h) k
    · cases h
  | i2l =>
    have hl' : len = 1 := by simpa [eg_lok] using hl
    subst hl'
    simp only [eg_st] at h
    split at h
    · cases h; exact st_pop1 (fun kk => lv_i2l hx hb d rfl kk) (fun _ h => nomatch h) (fun _ h => nomatch h) k
    · cases h
  | l2i =>
    have hl' : len = 1 := by simpa [eg_lok] using hl
    subst hl'
    simp only [eg_st] at h
    split at h
    · cases h; exact st_pop1 (fun kk => lv_l2i hx hb d rfl kk) (fun _ h => nomatch h) (fun _ h => nomatch h) k
    · cases h
  | i2b =>
    have hl' : len = 1 := by simpa [eg_lok] using hl
    subst hl'
    simp only [eg_st] at h
    split at h
    · cases h; exact st_pop1 (fun kk => lv_i2b hx hb d rfl kk) (fun _ h => nomatch h) (fun _ h => nomatch h) k
    · cases h
  | i2c =>
    have hl' : len = 1 := by simpa [eg_lok] using hl
    subst hl'
    simp only [eg_st] at h
    split at h
    · cases h; exact st_pop1 (fun kk => lv_i2c hx hb d rfl kk) (fun _ h => nomatch h) (fun _ h => nomatch h) k
    · cases h
  | dup =>
    have hl' : len = 1 := by simpa [eg_lok] using hl
    subst hl'
    simp only [eg_st] at h
    split at h
    · split at h
      · rename_i hc
        cases h
        intro ad H locs ls hR hL hS
        obtain ⟨h1, h2⟩ := List.forall_mem_cons.mp hS
        exact lv_dup hx hb d (by rw [eg_vcat]; exact hc) (k ad H locs ls hR hL (List.forall_mem_cons.mpr ⟨h1, hS⟩))
      · cases h
    · cases h
  | pop =>
    have hl' : len = 1 := by simpa [eg_lok] using hl
    subst hl'
    simp only [eg_st] at h
    split at h
    · split at h
      · rename_i hc
        cases h
        intro ad H locs ls hR hL hS
        obtain ⟨h1, h2⟩ := List.forall_mem_cons.mp hS
        exact lv_pop hx hb d (by rw [eg_vcat]; exact hc) (k ad H locs ls hR hL h2)
      · cases h
    · cases h
  | dup2 =>
    have hl' : len = 1 := by simpa [eg_lok] using hl
    subst hl'
    simp only [eg_st] at h
    split at h
    · split at h
      · rename_i hc
        cases h
        intro ad H locs ls hR hL hS
        obtain ⟨h1, h2⟩ := List.forall_mem_cons.mp hS
        obtain ⟨h3, h4⟩ := List.forall_mem_cons.mp h2
        exact lv_dup2_11 hx hb d (by rw [eg_vcat]; exact hc.1) (by rw [eg_vcat]; exact hc.2) (k ad H locs ls hR hL (List.forall_mem_cons.mpr ⟨h1, List.forall_mem_cons.mpr ⟨h3, hS⟩⟩))
      · cases h
    · cases h
  | goto off =>
    have hl' : len = 3 := by simpa [eg_lok] using hl
    subst hl'
    simp only [eg_st] at h
    split at h
    · rename_i ho
      cases h
      exact st_jump (fun kk => lv_goto hx hb d (eg_tg_ok ho) kk) k
    · cases h
  | ifCond cnd off =>
    have hl' : len = 3 := by simpa [eg_lok] using hl
    subst hl'
    simp only [eg_st] at h
    split at h
    · split at h
      · rename_i ho
        cases h
        cases cnd with
        | eq => exact st_if (fun a b => lv_if_eq hx hb d (eg_tg_ok ho) a b) k
        | ne => exact st_if (fun a b => lv_if_ne hx hb d (eg_tg_ok ho) a (fun h => b (fun q => q h))) k
        | lt => exact st_if (fun a b => lv_if_lt hx hb d (eg_tg_ok ho) a b) k
        | ge => exact st_if (fun a b => lv_if_ge hx hb d (eg_tg_ok ho) a b) k
        | gt => exact st_if (fun a b => lv_if_gt hx hb d (eg_tg_ok ho) a b) k
        | le => exact st_if (fun a b => lv_if_le hx hb d (eg_tg_ok ho) a b) k
      · cases h
    · cases h
  | if_icmp cnd off =>
    have hl' : len = 3 := by simpa [eg_lok] using hl
    subst hl'
    simp only [eg_st] at h
    split at h
    · split at h
      · rename_i ho
        cases h
        cases cnd with
        | eq => exact st_if2 (fun a b => lv_icmp_eq hx hb d (eg_tg_ok ho) a b) k
        | ne => exact st_if2 (fun a b => lv_icmp_ne hx hb d (eg_tg_ok ho) a (fun h => b (fun q => q h))) k
        | lt => exact st_if2 (fun a b => lv_icmp_lt hx hb d (eg_tg_ok ho) a b) k
        | ge => exact st_if2 (fun a b => lv_icmp_ge hx hb d (eg_tg_ok ho) a b) k
        | gt => exact st_if2 (fun a b => lv_icmp_gt hx hb d (eg_tg_ok ho) a b) k
        | le => exact st_if2 (fun a b => lv_icmp_le hx hb d (eg_tg_ok ho) a b) k
      · cases h
    · cases h
  | if_acmp cnd off =>
    have hl' : len = 3 := by simpa [eg_lok] using hl
    subst hl'
    simp only [eg_st] at h
    split at h
    · split at h
      · rename_i ho
        cases h
        cases cnd with
        | eq => exact st_acmp (ac := .eq) X d ho.1 (eg_ca_ok ho.2.1).1 (eg_ca_ok ho.2.2).1 (eg_ca_ok ho.2.1).2 (eg_ca_ok ho.2.2).2 k
        | ne => exact st_acmp (ac := .ne) X d ho.1 (eg_ca_ok ho.2.1).1 (eg_ca_ok ho.2.2).1 (eg_ca_ok ho.2.1).2 (eg_ca_ok ho.2.2).2 k
      · cases h
    · cases h
  | ifnull off =>
    have hl' : len = 3 := by simpa [eg_lok] using hl
    subst hl'
    simp only [eg_st] at h
    split at h
    · split at h
      · rename_i ho
        cases h
        exact fun ad H locs ls hR hL hS => lv_ifnullN hx hb d (eg_tg_ok ho) (k ad H locs ls hR hL (List.forall_mem_cons.mp hS).2)
      · cases h
    · cases h
      exact fun ad H locs ls hR hL hS => lv_ifnull hx hb d (k ad H locs ls hR hL (List.forall_mem_cons.mp hS).2)
    · cases h
  | ifnonnull off =>
    have hl' : len = 3 := by simpa [eg_lok] using hl
    subst hl'
    simp only [eg_st] at h
    split at h
    · split at h
      · rename_i ho
        cases h
        exact fun ad H locs ls hR hL hS => lv_ifnonnull hx hb d (eg_tg_ok ho) (k ad H locs ls hR hL (List.forall_mem_cons.mp hS).2)
      · cases h
    · cases h
      exact fun ad H locs ls hR hL hS => lv_ifnonnullN hx hb d (k ad H locs ls hR hL (List.forall_mem_cons.mp hS).2)
    · cases h
  | tableswitch df lo hi offs =>
    simp only [eg_st] at h
    split at h
    · split at h
      · rename_i hout
        split at h
        · rename_i ho
          cases h
          exact st_jumpi (fun kk => lv_tableOut hx hb d hout (eg_tg_ok ho) kk) k
        · cases h
      · rename_i hin
        split at h
        · rename_i off hoff
          split at h
          · rename_i ho
            cases h
            exact st_jumpi (fun kk => lv_tableIn hx hb d (fun q => hin (Or.inl q)) (fun q => hin (Or.inr q)) hoff (eg_tg_ok ho) kk) k
          · cases h
        · cases h
    · cases h
  | lookupswitch df ps =>
    simp only [eg_st] at h
    split at h
    · split at h
      · rename_i ho
        cases h
        exact st_jumpi (fun kk => lv_lookup hx hb d ho.1 rfl (eg_tg_ok ho.2) kk) k
      · cases h
    · cases h
  | iaload => have hl' : len = 1 := by simpa [eg_lok] using hl
              subst hl'; exact st_ar X d (by simp) h k
  | baload => have hl' : len = 1 := by simpa [eg_lok] using hl
              subst hl'; exact st_ar X d (by simp) h k
  | caload => have hl' : len = 1 := by simpa [eg_lok] using hl
              subst hl'; exact st_ar X d (by simp) h k
  | laload => have hl' : len = 1 := by simpa [eg_lok] using hl
              subst hl'; exact st_ar X d (by simp) h k
  | aaload => have hl' : len = 1 := by simpa [eg_lok] using hl
              subst hl'; exact st_ar X d (by simp) h k
  | iastore => have hl' : len = 1 := by simpa [eg_lok] using hl
               subst hl'; exact st_aw X d (by simp) h k
  | bastore => have hl' : len = 1 := by simpa [eg_lok] using hl
               subst hl'; exact st_aw X d (by simp) h k
  | castore => have hl' : len = 1 := by simpa [eg_lok] using hl
               subst hl'; exact st_aw X d (by simp) h k
  | lastore => have hl' : len = 1 := by simpa [eg_lok] using hl
               subst hl'; exact st_aw X d (by simp) h k
  | aastore => have hl' : len = 1 := by simpa [eg_lok] using hl
               subst hl'; exact st_aw X d (by simp) h k
  | arraylength =>
    have hl' : len = 1 := by simpa [eg_lok] using hl
    subst hl'
    simp only [eg_st] at h
    split at h
    · split at h
      · rename_i hG
        split at h
        · rename_i hc
          cases h
          exact sh_len X d hG hc.1 hc.2 k
        · cases h
      · cases h
    · cases h
  | getfield i => have hl' : len = 3 := by simpa [eg_lok] using hl
                  subst hl'; exact st_gf X d h k
  | putfield i => have hl' : len = 3 := by simpa [eg_lok] using hl
                  subst hl'; exact st_pf X d h k
  | getstatic i =>
    have hl' : len = 3 := by simpa [eg_lok] using hl
    subst hl'
    simp only [eg_st] at h
    split at h
    · rename_i hlk
      split at h
      · rename_i hsv
        cases h
        exact sh_sta X d (eg_lk hlk) hsv k (fun hv => kn (by
          unfold eg_s151
          dsimp only
          rw [hlk]
          dsimp only
          rw [hsv]
          exact decide_eq_true hv))
      · cases h
    · cases h
  | new i =>
    have hl' : len = 3 := by simpa [eg_lok] using hl
    subst hl'
    simp only [eg_st] at h
    split at h
    · rename_i ci hlk
      split at h
      · rename_i hci
        unfold eg_al at h
        split at h
        · rename_i hc
          cases h
          have hq : eg_cl[ci]? = some (eg_cl.getD ci ("", eg_T0, 0)) := by
            have hlt : ci < eg_cl.length := hci
            rw [List.getD_eq_getElem?_getD, List.getElem?_eq_getElem hlt]
            rfl
          exact sh_new X d (eg_lk hlk) hq hc.1 hc.2 k
        · cases h
      · cases h
    · cases h
  | newarray t =>
    have hl' : len = 2 := by simpa [eg_lok] using hl
    subst hl'
    simp only [eg_st] at h
    split at h
    · rename_i hna
      split at h
      · rename_i hn
        unfold eg_al at h
        split at h
        · rename_i hc
          cases h
          exact sh_newa X d hna hn.1 hn.2 hc.1 hc.2 k
        · cases h
      · cases h
    · cases h
  | anewarray i =>
    have hl' : len = 3 := by simpa [eg_lok] using hl
    subst hl'
    simp only [eg_st] at h
    split at h
    · rename_i hlk
      split at h
      · rename_i hn
        unfold eg_al at h
        split at h
        · rename_i hc
          cases h
          exact sh_newq X d (eg_lk hlk) hn.2.2.1 hn.2.2.2 hn.1 hn.2.1 hc.1 hc.2 k
        · cases h
      · cases h
    · cases h
  | multianewarray i dm =>
    have hl' : len = 4 := by simpa [eg_lok] using hl
    subst hl'
    simp only [eg_st] at h
    split at h
    · rename_i hlk
      split at h
      · rename_i hn
        obtain ⟨hd, hn⟩ := hn
        subst hd
        cases h
        exact sh_mna X d (eg_lk hlk) hn.1 hn.2.1 hn.2.2.1 hn.2.2.2.1 hn.2.2.2.2.1 hn.2.2.2.2.2 k
      · cases h
    · cases h
  | _ => cases h
end EGM
end
section
/-! what holds of the machine at every method's start, and that it goes on holding -/
section EGF
def eg_xT : List (Nat × Nat × Nat) := [(83, 85, 0), (207, 209, 1), (89, 91, 2), (200, 202, 3)]
def eg_xn (x : Nat) : String := eg_ex.getD x ""
def eg_xc : List String := ["java/lang/RuntimeException", "java/lang/Exception"]
def eg_W10 : List Cond := eg_xT.flatMap (fun q => .initialized (eg_xn q.2.2) :: .castable (eg_xn q.2.2) (eg_xn q.2.2) :: .classLink "KnobEye" q.1 (eg_xn q.2.2) :: vx_at0 "KnobEye" q.2.1 (eg_xn q.2.2) eg_xc)
def eg_kp (w : Cond) : Bool := match w with
  | .fieldLinkNest .. => true
  | .methodLinkNest .. => true
  | .castable .. => true
  | .declares .. => true
  | w => goodWord w
def eg_F (s : State) (b0 : Nat) (D : va_G) (dA : Nat → ClassId) (adc : Nat → Nat) : Prop :=
  (∀ w ∈ eg_W, w.before #[] s = true) ∧ (∀ w ∈ eg_W10, w.before #[] s = true) ∧ va_K D eg_cl (eg_tys dA) s ∧ eg_K s b0 adc ∧
  (∀ ci : Nat, eg_ek ci < 11 → va_AO (eg_cn ci) s) ∧ va_AOA .int s ∧ (∀ x y : Nat, x < 4 → y < 4 → x ≠ y → va_Nc (eg_xn x) (eg_xn y) s) ∧
  vx_Zq Bundle.tN "UNASSIGNED_STACK" Bundle.steD (eg_A b0) s s.heap ∧ vx_Zq Bundle.tN "SUPPRESSED_SENTINEL" Bundle.listD (eg_A b0) s s.heap ∧ b0 ≤ s.heap.size
set_option maxRecDepth 100000 in
theorem eg_kp_W : eg_W.all (fun w => eg_kp w && w.onTables || match w with | .arrayClass _ => true | _ => false) = true := by decide +kernel
set_option maxRecDepth 100000 in
theorem eg_kp_W10 : eg_W10.all (fun w => eg_kp w && w.onTables || match w with | .arrayClass _ => true | _ => false) = true := by decide +kernel
theorem eg_kp_at {w : Cond} {a a' : Array Value} {s U : State} (hW : s.WarmedH U.vm) (hk : (eg_kp w && w.onTables || match w with | .arrayClass _ => true | _ => false) = true) (h : w.before a s = true) : w.before a' U = true := by
  simp only [Bool.or_eq_true, Bool.and_eq_true] at hk
  have hk : (eg_kp w = true ∧ w.onTables = true) ∨ ∃ ty, w = .arrayClass ty := by
    rcases hk with hk | hk
    · exact Or.inl hk
    · split at hk
      · exact Or.inr ⟨_, rfl⟩
      · cases hk
  rcases hk with ⟨hk, ho⟩ | ⟨ty, rfl⟩
  · unfold eg_kp at hk
    split at hk
    · exact (va_Nw.warmF hW (va_Nw.of ho h)).use ho
    · exact (va_Nw.warmM hW (va_Nw.of ho h)).use ho
    · exact (va_Nw.warmC hW (va_Nw.of ho h)).use ho
    · exact (va_Nw.warmD hW (va_Nw.of ho h)).use ho
    · exact word_at hW (good_of_word hk) h
  · exact word_at hW (Or.inr ⟨ty, rfl⟩) h
theorem eg_kp_go {ws : List Cond} (hk : ws.all (fun w => eg_kp w && w.onTables || match w with | .arrayClass _ => true | _ => false) = true) {a a' : Array Value} {s U : State} (hW : s.WarmedH U.vm) (h : ∀ w ∈ ws, w.before a s = true) : ∀ w ∈ ws, w.before a' U = true := fun w hw => eg_kp_at hW (List.all_eq_true.mp hk w hw) (h w hw)
theorem eg_kp_s {ws : List Cond} (hk : ws.all (fun w => eg_kp w && w.onTables || match w with | .arrayClass _ => true | _ => false) = true) {a a' : Array Value} {s : State} (h : ∀ w ∈ ws, w.before a s = true) : ∀ w ∈ ws, w.before a' s = true := eg_kp_go hk (State.WarmedH.refl s) h
theorem eg_K.go {s U : State} {b0 : Nat} {adc : Nat → Nat} {locs : List Loc} (h : eg_K s b0 adc) (hW : s.WarmedH U.vm) (hS : va_S (eg_A b0) s.heap U.heap locs) : eg_K U b0 adc := by
  obtain ⟨h1, h2, h3, h4, h5, h6, h7, h8⟩ := h
  have hm := hW.alike
  have hk := fun (a : Nat) (h1 : a < s.heap.size) (h2 : ¬ eg_A b0 a) => hS.2.1 a h1 h2
  exact ⟨fun C n d v hv => (h1 C n d v hv).imp (fun h => (h.moved hm).kept hk) (fun h => ⟨h.1, (h.2.moved hm).kept hk⟩), fun i ci fs hi hc k v hv => ((h2 i ci fs hi hc k v hv).moved hm).kept hk, fun i t x hi hc => ((h3 i t x hi hc).moved hm).kept hk, h4, h5, fun i hi => ((h6 i hi).moved hm).kept hk, fun i hi => ((h7 i hi).moved hm).kept hk, fun o idx j hj => by
    obtain ⟨tx, h9⟩ := h8 o idx j hj
    exact ⟨tx, h9.warm hW⟩⟩
theorem eg_F.go {s U : State} {b0 : Nat} {D : va_G} {dA : Nat → ClassId} {adc : Nat → Nat} {locs : List Loc} (h : eg_F s b0 D dA adc) (hW : s.WarmedH U.vm) (hS : va_S (eg_A b0) s.heap U.heap locs) : eg_F U b0 D dA adc := by
  obtain ⟨h1, h2, h3, h4, h5, h6, h7, h8, h9, h10⟩ := h
  have hm := hW.alike
  have hk := fun (a : Nat) (h1 : a < s.heap.size) (h2 : ¬ eg_A b0 a) => hS.2.1 a h1 h2
  exact ⟨eg_kp_go eg_kp_W hW h1, eg_kp_go eg_kp_W10 hW h2, h3.moved hm, h4.go hW hS, fun ci hci => (h5 ci hci).moved hm, h6.moved hm, fun x y hx hy hxy => (h7 x y hx hy hxy).moved hm, (h8.moved hm).kept hk, (h9.moved hm).kept hk, Nat.le_trans h10 hS.1⟩
end EGF
end
section
/-! the law's code -/
theorem eg_ll0 : eg_law0.all (fun e => eg_lok e.2.1 e.2.2) = true := by decide +kernel
theorem eg_ll1 : eg_law1.all (fun e => eg_lok e.2.1 e.2.2) = true := by decide +kernel
theorem eg_ll2 : eg_law2.all (fun e => eg_lok e.2.1 e.2.2) = true := by decide +kernel
theorem eg_ll3 : eg_law3.all (fun e => eg_lok e.2.1 e.2.2) = true := by decide +kernel
theorem eg_ll4 : eg_law4.all (fun e => eg_lok e.2.1 e.2.2) = true := by decide +kernel
theorem eg_ll5 : eg_law5.all (fun e => eg_lok e.2.1 e.2.2) = true := by decide +kernel
theorem eg_ll6 : eg_law6.all (fun e => eg_lok e.2.1 e.2.2) = true := by decide +kernel
theorem eg_ll7 : eg_law7.all (fun e => eg_lok e.2.1 e.2.2) = true := by decide +kernel
theorem eg_ll8 : eg_law8.all (fun e => eg_lok e.2.1 e.2.2) = true := by decide +kernel
theorem eg_ll9 : eg_law9.all (fun e => eg_lok e.2.1 e.2.2) = true := by decide +kernel
theorem eg_ll10 : eg_law10.all (fun e => eg_lok e.2.1 e.2.2) = true := by decide +kernel
theorem eg_mlk0 : eg_M0.all (fun q => q.2.all (fun e => eg_lok e.2.1 e.2.2)) = true := by decide +kernel
theorem eg_mlk1 : eg_M1.all (fun q => q.2.all (fun e => eg_lok e.2.1 e.2.2)) = true := by decide +kernel
theorem eg_mlk2 : eg_M2.all (fun q => q.2.all (fun e => eg_lok e.2.1 e.2.2)) = true := by decide +kernel
theorem eg_mlk3 : eg_M3.all (fun q => q.2.all (fun e => eg_lok e.2.1 e.2.2)) = true := by decide +kernel
theorem eg_mlk4 : eg_M4.all (fun q => q.2.all (fun e => eg_lok e.2.1 e.2.2)) = true := by decide +kernel
theorem eg_mlk5 : eg_M5.all (fun q => q.2.all (fun e => eg_lok e.2.1 e.2.2)) = true := by decide +kernel
theorem eg_mlk6 : eg_M6.all (fun q => q.2.all (fun e => eg_lok e.2.1 e.2.2)) = true := by decide +kernel
theorem eg_mlk7 : eg_M7.all (fun q => q.2.all (fun e => eg_lok e.2.1 e.2.2)) = true := by decide +kernel
theorem eg_mlk8 : eg_M8.all (fun q => q.2.all (fun e => eg_lok e.2.1 e.2.2)) = true := by decide +kernel
theorem eg_mlk9 : eg_M9.all (fun q => q.2.all (fun e => eg_lok e.2.1 e.2.2)) = true := by decide +kernel
theorem eg_mlk10 : eg_M10.all (fun q => q.2.all (fun e => eg_lok e.2.1 e.2.2)) = true := by decide +kernel
theorem eg_mlk11 : eg_M11.all (fun q => q.2.all (fun e => eg_lok e.2.1 e.2.2)) = true := by decide +kernel
theorem eg_mlk12 : eg_M12.all (fun q => q.2.all (fun e => eg_lok e.2.1 e.2.2)) = true := by decide +kernel
theorem eg_mlk13 : eg_M13.all (fun q => q.2.all (fun e => eg_lok e.2.1 e.2.2)) = true := by decide +kernel
theorem eg_mlk14 : eg_M14.all (fun q => q.2.all (fun e => eg_lok e.2.1 e.2.2)) = true := by decide +kernel
theorem eg_mlk15 : eg_M15.all (fun q => q.2.all (fun e => eg_lok e.2.1 e.2.2)) = true := by decide +kernel
theorem eg_mlk16 : eg_M16.all (fun q => q.2.all (fun e => eg_lok e.2.1 e.2.2)) = true := by decide +kernel
theorem eg_mlk17 : eg_M17.all (fun q => q.2.all (fun e => eg_lok e.2.1 e.2.2)) = true := by decide +kernel
theorem eg_mlk18 : eg_M18.all (fun q => q.2.all (fun e => eg_lok e.2.1 e.2.2)) = true := by decide +kernel
theorem eg_mlk19 : eg_M19.all (fun q => q.2.all (fun e => eg_lok e.2.1 e.2.2)) = true := by decide +kernel
theorem eg_mlk : ∀ l ∈ eg_MM, l.all (fun q => q.2.all (fun e => eg_lok e.2.1 e.2.2)) = true := List.forall_mem_cons.mpr ⟨eg_mlk0, List.forall_mem_cons.mpr ⟨eg_mlk1, List.forall_mem_cons.mpr ⟨eg_mlk2, List.forall_mem_cons.mpr ⟨eg_mlk3, List.forall_mem_cons.mpr ⟨eg_mlk4, List.forall_mem_cons.mpr ⟨eg_mlk5, List.forall_mem_cons.mpr ⟨eg_mlk6, List.forall_mem_cons.mpr ⟨eg_mlk7, List.forall_mem_cons.mpr ⟨eg_mlk8, List.forall_mem_cons.mpr ⟨eg_mlk9, List.forall_mem_cons.mpr ⟨eg_mlk10, List.forall_mem_cons.mpr ⟨eg_mlk11, List.forall_mem_cons.mpr ⟨eg_mlk12, List.forall_mem_cons.mpr ⟨eg_mlk13, List.forall_mem_cons.mpr ⟨eg_mlk14, List.forall_mem_cons.mpr ⟨eg_mlk15, List.forall_mem_cons.mpr ⟨eg_mlk16, List.forall_mem_cons.mpr ⟨eg_mlk17, List.forall_mem_cons.mpr ⟨eg_mlk18, List.forall_mem_cons.mpr ⟨eg_mlk19, fun _ h => nomatch h⟩⟩⟩⟩⟩⟩⟩⟩⟩⟩⟩⟩⟩⟩⟩⟩⟩⟩⟩⟩
theorem eg_me_lok (k : Nat) : ∀ e ∈ (eg_me k).2, eg_lok e.2.1 e.2.2 = true := by
  intro e he
  unfold eg_me at he
  generalize hl : eg_MM.getD (k / 16) [] = l at he
  have h1 : ∀ q ∈ l, q.2.all (fun e => eg_lok e.2.1 e.2.2) = true := by
    rw [List.getD_eq_getElem?_getD] at hl
    cases h : eg_MM[k / 16]? with
    | none => rw [h] at hl; subst hl; exact fun _ h => nomatch h
    | some l' => rw [h] at hl; subst hl; exact List.all_eq_true.mp (eg_mlk l' (List.mem_of_getElem? h))
  rw [List.getD_eq_getElem?_getD] at he
  cases h : l[k % 16]? with
  | none => rw [h] at he; exact nomatch he
  | some q => rw [h] at he; exact List.all_eq_true.mp (h1 q (List.mem_of_getElem? h)) e he
end
section
/-! the law's code, decoded: 0 -/
theorem eg_sp {α : Type} {p : α → Bool} {l : List α} {n : Nat} (h1 : (l.take n).all p = true) (h2 : (l.drop n).all p = true) : l.all p = true := by
  rw [← List.take_append_drop n l, List.all_append, h1, h2]
  rfl
theorem eg_kl0_0 : ((eg_law0).take 20).all (fun e => decide (decode code e.1 = .ok e.2)) = true := by decide +kernel
theorem eg_kl0_1 : (((eg_law0).drop 20).take 20).all (fun e => decide (decode code e.1 = .ok e.2)) = true := by decide +kernel
theorem eg_kl0_2 : ((((eg_law0).drop 20).drop 20).take 20).all (fun e => decide (decode code e.1 = .ok e.2)) = true := by decide +kernel
theorem eg_kl0_3 : (((((eg_law0).drop 20).drop 20).drop 20).take 20).all (fun e => decide (decode code e.1 = .ok e.2)) = true := by decide +kernel
theorem eg_kl0_4 : (((((eg_law0).drop 20).drop 20).drop 20).drop 20).all (fun e => decide (decode code e.1 = .ok e.2)) = true := by decide +kernel
theorem eg_kl0 : eg_law0.all (fun e => decide (decode code e.1 = .ok e.2)) = true := eg_sp eg_kl0_0 (eg_sp eg_kl0_1 (eg_sp eg_kl0_2 (eg_sp eg_kl0_3 eg_kl0_4)))
theorem eg_kl1_0 : ((eg_law1).take 20).all (fun e => decide (decode code e.1 = .ok e.2)) = true := by decide +kernel
theorem eg_kl1_1 : (((eg_law1).drop 20).take 20).all (fun e => decide (decode code e.1 = .ok e.2)) = true := by decide +kernel
theorem eg_kl1_2 : ((((eg_law1).drop 20).drop 20).take 20).all (fun e => decide (decode code e.1 = .ok e.2)) = true := by decide +kernel
theorem eg_kl1_3 : (((((eg_law1).drop 20).drop 20).drop 20).take 20).all (fun e => decide (decode code e.1 = .ok e.2)) = true := by decide +kernel
theorem eg_kl1_4 : (((((eg_law1).drop 20).drop 20).drop 20).drop 20).all (fun e => decide (decode code e.1 = .ok e.2)) = true := by decide +kernel
theorem eg_kl1 : eg_law1.all (fun e => decide (decode code e.1 = .ok e.2)) = true := eg_sp eg_kl1_0 (eg_sp eg_kl1_1 (eg_sp eg_kl1_2 (eg_sp eg_kl1_3 eg_kl1_4)))
theorem eg_kl2_0 : ((eg_law2).take 20).all (fun e => decide (decode code e.1 = .ok e.2)) = true := by decide +kernel
theorem eg_kl2_1 : (((eg_law2).drop 20).take 20).all (fun e => decide (decode code e.1 = .ok e.2)) = true := by decide +kernel
theorem eg_kl2_2 : ((((eg_law2).drop 20).drop 20).take 20).all (fun e => decide (decode code e.1 = .ok e.2)) = true := by decide +kernel
theorem eg_kl2_3 : (((((eg_law2).drop 20).drop 20).drop 20).take 20).all (fun e => decide (decode code e.1 = .ok e.2)) = true := by decide +kernel
theorem eg_kl2_4 : (((((eg_law2).drop 20).drop 20).drop 20).drop 20).all (fun e => decide (decode code e.1 = .ok e.2)) = true := by decide +kernel
theorem eg_kl2 : eg_law2.all (fun e => decide (decode code e.1 = .ok e.2)) = true := eg_sp eg_kl2_0 (eg_sp eg_kl2_1 (eg_sp eg_kl2_2 (eg_sp eg_kl2_3 eg_kl2_4)))
end
section
/-! the law's code, decoded: 1 -/
theorem eg_kl3_0 : ((eg_law3).take 20).all (fun e => decide (decode code e.1 = .ok e.2)) = true := by decide +kernel
theorem eg_kl3_1 : (((eg_law3).drop 20).take 20).all (fun e => decide (decode code e.1 = .ok e.2)) = true := by decide +kernel
theorem eg_kl3_2 : ((((eg_law3).drop 20).drop 20).take 20).all (fun e => decide (decode code e.1 = .ok e.2)) = true := by decide +kernel
theorem eg_kl3_3 : (((((eg_law3).drop 20).drop 20).drop 20).take 20).all (fun e => decide (decode code e.1 = .ok e.2)) = true := by decide +kernel
theorem eg_kl3_4 : (((((eg_law3).drop 20).drop 20).drop 20).drop 20).all (fun e => decide (decode code e.1 = .ok e.2)) = true := by decide +kernel
theorem eg_kl3 : eg_law3.all (fun e => decide (decode code e.1 = .ok e.2)) = true := eg_sp eg_kl3_0 (eg_sp eg_kl3_1 (eg_sp eg_kl3_2 (eg_sp eg_kl3_3 eg_kl3_4)))
theorem eg_kl4_0 : ((eg_law4).take 20).all (fun e => decide (decode code e.1 = .ok e.2)) = true := by decide +kernel
theorem eg_kl4_1 : (((eg_law4).drop 20).take 20).all (fun e => decide (decode code e.1 = .ok e.2)) = true := by decide +kernel
theorem eg_kl4_2 : ((((eg_law4).drop 20).drop 20).take 20).all (fun e => decide (decode code e.1 = .ok e.2)) = true := by decide +kernel
theorem eg_kl4_3 : (((((eg_law4).drop 20).drop 20).drop 20).take 20).all (fun e => decide (decode code e.1 = .ok e.2)) = true := by decide +kernel
theorem eg_kl4_4 : (((((eg_law4).drop 20).drop 20).drop 20).drop 20).all (fun e => decide (decode code e.1 = .ok e.2)) = true := by decide +kernel
theorem eg_kl4 : eg_law4.all (fun e => decide (decode code e.1 = .ok e.2)) = true := eg_sp eg_kl4_0 (eg_sp eg_kl4_1 (eg_sp eg_kl4_2 (eg_sp eg_kl4_3 eg_kl4_4)))
theorem eg_kl5_0 : ((eg_law5).take 20).all (fun e => decide (decode code e.1 = .ok e.2)) = true := by decide +kernel
theorem eg_kl5_1 : (((eg_law5).drop 20).take 20).all (fun e => decide (decode code e.1 = .ok e.2)) = true := by decide +kernel
theorem eg_kl5_2 : ((((eg_law5).drop 20).drop 20).take 20).all (fun e => decide (decode code e.1 = .ok e.2)) = true := by decide +kernel
theorem eg_kl5_3 : (((((eg_law5).drop 20).drop 20).drop 20).take 20).all (fun e => decide (decode code e.1 = .ok e.2)) = true := by decide +kernel
theorem eg_kl5_4 : (((((eg_law5).drop 20).drop 20).drop 20).drop 20).all (fun e => decide (decode code e.1 = .ok e.2)) = true := by decide +kernel
theorem eg_kl5 : eg_law5.all (fun e => decide (decode code e.1 = .ok e.2)) = true := eg_sp eg_kl5_0 (eg_sp eg_kl5_1 (eg_sp eg_kl5_2 (eg_sp eg_kl5_3 eg_kl5_4)))
end
section
/-! the law's code, decoded: 2 -/
theorem eg_kl6_0 : ((eg_law6).take 20).all (fun e => decide (decode code e.1 = .ok e.2)) = true := by decide +kernel
theorem eg_kl6_1 : (((eg_law6).drop 20).take 20).all (fun e => decide (decode code e.1 = .ok e.2)) = true := by decide +kernel
theorem eg_kl6_2 : ((((eg_law6).drop 20).drop 20).take 20).all (fun e => decide (decode code e.1 = .ok e.2)) = true := by decide +kernel
theorem eg_kl6_3 : (((((eg_law6).drop 20).drop 20).drop 20).take 20).all (fun e => decide (decode code e.1 = .ok e.2)) = true := by decide +kernel
theorem eg_kl6_4 : (((((eg_law6).drop 20).drop 20).drop 20).drop 20).all (fun e => decide (decode code e.1 = .ok e.2)) = true := by decide +kernel
theorem eg_kl6 : eg_law6.all (fun e => decide (decode code e.1 = .ok e.2)) = true := eg_sp eg_kl6_0 (eg_sp eg_kl6_1 (eg_sp eg_kl6_2 (eg_sp eg_kl6_3 eg_kl6_4)))
theorem eg_kl7_0 : ((eg_law7).take 20).all (fun e => decide (decode code e.1 = .ok e.2)) = true := by decide +kernel
theorem eg_kl7_1 : (((eg_law7).drop 20).take 20).all (fun e => decide (decode code e.1 = .ok e.2)) = true := by decide +kernel
theorem eg_kl7_2 : ((((eg_law7).drop 20).drop 20).take 20).all (fun e => decide (decode code e.1 = .ok e.2)) = true := by decide +kernel
theorem eg_kl7_3 : (((((eg_law7).drop 20).drop 20).drop 20).take 20).all (fun e => decide (decode code e.1 = .ok e.2)) = true := by decide +kernel
theorem eg_kl7_4 : (((((eg_law7).drop 20).drop 20).drop 20).drop 20).all (fun e => decide (decode code e.1 = .ok e.2)) = true := by decide +kernel
theorem eg_kl7 : eg_law7.all (fun e => decide (decode code e.1 = .ok e.2)) = true := eg_sp eg_kl7_0 (eg_sp eg_kl7_1 (eg_sp eg_kl7_2 (eg_sp eg_kl7_3 eg_kl7_4)))
theorem eg_kl8_0 : ((eg_law8).take 20).all (fun e => decide (decode code e.1 = .ok e.2)) = true := by decide +kernel
theorem eg_kl8_1 : (((eg_law8).drop 20).take 20).all (fun e => decide (decode code e.1 = .ok e.2)) = true := by decide +kernel
theorem eg_kl8_2 : ((((eg_law8).drop 20).drop 20).take 20).all (fun e => decide (decode code e.1 = .ok e.2)) = true := by decide +kernel
theorem eg_kl8_3 : (((((eg_law8).drop 20).drop 20).drop 20).take 20).all (fun e => decide (decode code e.1 = .ok e.2)) = true := by decide +kernel
theorem eg_kl8_4 : (((((eg_law8).drop 20).drop 20).drop 20).drop 20).all (fun e => decide (decode code e.1 = .ok e.2)) = true := by decide +kernel
theorem eg_kl8 : eg_law8.all (fun e => decide (decode code e.1 = .ok e.2)) = true := eg_sp eg_kl8_0 (eg_sp eg_kl8_1 (eg_sp eg_kl8_2 (eg_sp eg_kl8_3 eg_kl8_4)))
end
