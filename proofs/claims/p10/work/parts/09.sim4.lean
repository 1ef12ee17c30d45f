/-! fields, statics, new cells -/
section EGN
variable {p : Program} {l : Launch} {e : Env} {R : Room} {s : State} {m : MethodId} {args : Array Value} {below : List Frame} {meth : Method} {c : Code} {Q : State → Prop} {b0 : Nat} {D : va_G} {dA : Nat → ClassId} {adc : Nat → Nat} {n0 : Nat} {ad0 : Nat → Nat} {o : Nat} {ini : Bool} {mc ms : Nat} {cc : ByteArray}
variable {pc pc' len : Nat} {L L' : eg_Ls} {st st' r : List Value} {G G' : eg_G} {ck sk ck' sk' : Nat} {ins : Instr}
theorem eg_fit_ok {ad : Nat → Nat} {ty : FieldType} {v : Value} (h : eg_fit ty v = true) : narrow ty (eg_v ad v) = eg_v ad v ∧ fits ty (eg_v ad v) = true := by
  unfold eg_fit at h
  split at h
  · exact ⟨rfl, rfl⟩
  · exact ⟨rfl, rfl⟩
  · simp only [Bool.or_eq_true, decide_eq_true_eq] at h
    rcases h with h | h <;> subst h <;> exact ⟨rfl, rfl⟩
  · exact ⟨rfl, rfl⟩
  · exact ⟨rfl, rfl⟩
  · exact ⟨rfl, rfl⟩
  · exact ⟨rfl, rfl⟩
  · cases h
theorem sh_get {idx ci k a : Nat} {hh : Option String} {fs : List Value} {v : Value} (X : eg_X p s m args meth c R b0 D dA adc o ini mc ms cc) (d : decode cc pc = .ok (.getfield idx, 3)) (he : (idx, ci, k, hh) ∈ eg_fT.getD o []) (hG : eg_at G a = .inr (ci, fs)) (han : a < G.2) (hv : fs[k]? = some v)
    (kk : eg_J p l e R s m args below meth c Q b0 D dA adc n0 ad0 (pc + 3) L (v :: r) G ck sk) : eg_J p l e R s m args below meth c Q b0 D dA adc n0 ad0 pc L (.ref a :: r) G ck sk := by
  obtain ⟨hx, hb, hown, hts, hK, hC, hAO, hAOA, hRc, hRs, hini, hb0⟩ := X
  intro ad H locs ls hR hL hS
  obtain ⟨hP, hD, hS0, hok, hag⟩ := id hR
  obtain ⟨-, h2⟩ := List.forall_mem_cons.mp hS
  have hw1 := hts _ (eg_w1 he)
  by_cases ha : a < eg_NC
  · rw [eg_at_lo ha] at hG
    have hOF := hC.2.1 a ci fs ha hG k v hv
    have hva : eg_v ad v = eg_v adc v ∧ eg_okv G.2 v := by
      have hvok : ∀ i, v = .ref i → i < eg_NC := by
        rcases eg_con_obj hG with ⟨-, h36⟩ | ⟨-, h36, hns⟩ | ⟨-, hfs⟩
        · unfold eg_con at hG
          rw [if_pos h36] at hG
          have e1 := (Prod.mk.inj (Sum.inr.inj hG)).2
          intro i hi
          subst hi
          rw [← e1] at hv
          have hb9 : ∀ j, j < 36 → 36 + (eg_wf.getD j (0, 0, 0)).1 < eg_NC := by decide +kernel
          match k, hv with
          | 0, hv => cases hv
          | 1, hv => cases hv; exact hb9 a h36
          | 2, hv => cases hv
          | 3, hv => cases hv
          | k + 4, hv => simp at hv
        · unfold eg_con at hG
          rw [if_neg (by omega), if_pos hns] at hG
          have e1 := (Prod.mk.inj (Sum.inr.inj hG)).2
          intro i hi
          subst hi
          rw [← e1] at hv
          match k, hv with
          | 0, hv =>
            cases hv
            have h8 : 36 + 2 * eg_NS + 4 = eg_NC := rfl
            show a + eg_NS < eg_NC
            omega
          | 1, hv => cases hv
          | k + 2, hv => simp at hv
        · rw [hfs] at hv
          simp at hv
      refine ⟨?_, fun i hi => Nat.lt_of_lt_of_le (hvok i hi) hok.1⟩
      cases v with
      | ref i => exact congrArg Value.ref (hag.1 i (hvok i rfl))
      | _ => rfl
    have hkk := kk ad H locs ls hR hL (List.forall_mem_cons.mpr ⟨hva.2, h2⟩)
    have e1 : (Value.ref a :: r).map (eg_v ad) = .ref (adc a) :: r.map (eg_v ad) := by
      show Value.ref (ad a) :: _ = _
      rw [hag.1 a ha]
    have e2 : (v :: r).map (eg_v ad) = eg_v adc v :: r.map (eg_v ad) := by rw [List.map_cons, hva.1]
    rw [e1]
    rw [e2] at hkk
    cases hh with
    | none => exact vk_getf hx hb hOF hS0 hown hw1 (fun _ h => h) d hkk
    | some h0 =>
      obtain ⟨cf, k9, fi, f, cell, h1, h2, h3, h4, h5, h6⟩ := hOF.kept hS0.2.1
      exact va_Wgetf hx hb hown hw1 h1 h2 h3 h4 (v := eg_v adc v) h5 rfl rfl d hkk
  · have ha' := Nat.le_of_not_lt ha
    have hw := eg_ws_at (ad := ad) (dA := dA) ha' han
    rw [eg_at_hi ha'] at hG
    have hcl := eg_okc_at hok ha' han
    rw [hG] at hw hcl
    have hkk := kk ad H locs ls hR hL (List.forall_mem_cons.mpr ⟨hcl v (List.mem_of_getElem? hv), h2⟩)
    obtain ⟨q, hq, -⟩ := hP _ _ hw
    have hfd := eg_fd_cl hq k
    have hk := eg_fT_k he hq
    have hv2 : (fs.map (eg_v ad))[k]? = some (eg_v ad v) := by rw [List.getElem?_map, hv]; rfl
    have hmem : q ∈ eg_cl := List.mem_of_getElem? hq
    cases hh with
    | none =>
      have hw2 : (Cond.fieldLink (eg_on o) idx (eg_fd ci k).1 (eg_fd ci k).2.1 (eg_fd ci k).2.2.1).before args s = true := hw1
      rw [hfd] at hw2
      exact va_get hx hb hts (eg_w7 hmem) hown hK hP (a - eg_NC) hw hq k hk hw2 (fun _ h => h) hv2 d hkk
    | some h0 =>
      have hw2 : (Cond.fieldLinkNest (eg_on o) idx (eg_fd ci k).1 (eg_fd ci k).2.1 (eg_fd ci k).2.2.1 h0).before args s = true := hw1
      rw [hfd] at hw2
      exact va_getN hx hb hts (eg_w7 hmem) hown hK hP (a - eg_NC) hw hq k hk hw2 (fun _ h => h) hv2 d hkk
theorem sh_put {idx ci k a : Nat} {hh : Option String} {fs : List Value} {v : Value} (X : eg_X p s m args meth c R b0 D dA adc o ini mc ms cc) (d : decode cc pc = .ok (.putfield idx, 3)) (he : (idx, ci, k, hh) ∈ eg_fT.getD o []) (hG : G.1 a = .inr (ci, fs)) (ha : eg_NC ≤ a) (han : a < G.2) (hkl : k < fs.length) (hfit : eg_fit ((eg_yl.getD ci (fun _ => .int)) k) v = true)
    (hfin : (eg_fd ci k).2.2.2 = false ∨ (ini = true ∧ hh = none ∧ (eg_fd ci k).1 = eg_on o))
    (kk : eg_J p l e R s m args below meth c Q b0 D dA adc n0 ad0 (pc + 3) L r (eg_u G a (.inr (ci, fs.set k v))) ck sk) : eg_J p l e R s m args below meth c Q b0 D dA adc n0 ad0 pc L (v :: .ref a :: r) G ck sk := by
  obtain ⟨hx, hb, hown, hts, hK, hC, hAO, hAOA, hRc, hRs, hini, hb0⟩ := X
  intro ad H locs ls hR hL hS
  obtain ⟨hP, hD, hS0, hok, hag⟩ := id hR
  obtain ⟨hv, h2⟩ := List.forall_mem_cons.mp hS
  obtain ⟨-, h2⟩ := List.forall_mem_cons.mp h2
  have hw1 := hts _ (eg_w1 he)
  have hw := eg_ws_at (ad := ad) (dA := dA) ha han
  have hcl := eg_okc_at hok ha han
  rw [hG] at hw hcl
  obtain ⟨q, hq, -⟩ := hP _ _ hw
  have hfd := eg_fd_cl hq k
  have hk := eg_fT_k he hq
  have hmem : q ∈ eg_cl := List.mem_of_getElem? hq
  obtain ⟨hn, hft⟩ := eg_fit_ok (ad := ad) hfit
  have hty := eg_cl_ty hq
  rw [hfd] at hfin
  have fin : ∀ (H1 : Heap) (locs1 : List Loc), va_P D eg_cl ((eg_ws ad dA G).set (a - eg_NC) (ad a, .inr (ci, (fs.map (eg_v ad)).set k (eg_v ad v)))) H1 → va_D (eg_A b0) ((eg_ws ad dA G).set (a - eg_NC) (ad a, .inr (ci, (fs.map (eg_v ad)).set k (eg_v ad v)))) → va_S (eg_A b0) s.heap H1 locs1 → W p l e R s m args below meth c H1 locs1 ck sk Q (F0 m (pc + 3) ls (r.map (eg_v ad))) := by
    intro H1 locs1 hP1 hD1 hS1
    have e1 := eg_ws_set (ad := ad) (dA := dA) (G := G) (.inr (ci, fs.set k v)) ha
    have e2 : eg_e ad dA (.inr (ci, fs.set k v)) = .inr (ci, (fs.map (eg_v ad)).set k (eg_v ad v)) := by
      show Sum.inr (ci, (fs.set k v).map (eg_v ad)) = _
      rw [List.map_set]
    rw [e2] at e1
    rw [e1] at hP1 hD1
    refine kk ad H1 locs1 ls ⟨hP1, hD1, hS1, eg_ok_u hok (fun w hw => ?_), hag⟩ hL h2
    rcases List.mem_or_eq_of_mem_set hw with h | h
    · exact hcl w h
    · rw [h]; exact hv
  have hkl' : k < (fs.map (eg_v ad)).length := by rw [List.length_map]; exact hkl
  by_cases hff : (q.2.1 k).2.2.2 = false
  · cases hh with
    | none =>
      have hw2 : (Cond.fieldLink (eg_on o) idx (eg_fd ci k).1 (eg_fd ci k).2.1 (eg_fd ci k).2.2.1).before args s = true := hw1
      rw [hfd] at hw2
      exact va_put hx hb hts (eg_w7 hmem) _ hty (eg_cl_nm hq) hown hK hP hD hS0 (a - eg_NC) hw hq k hk hw2 (fun _ h => h) hff (hty k hk) hn hft hkl' d fin
    | some h0 =>
      have hw2 : (Cond.fieldLinkNest (eg_on o) idx (eg_fd ci k).1 (eg_fd ci k).2.1 (eg_fd ci k).2.2.1 h0).before args s = true := hw1
      rw [hfd] at hw2
      exact va_putN hx hb hts (eg_w7 hmem) _ hty (eg_cl_nm hq) hown hK hP hD hS0 (a - eg_NC) hw hq k hk hw2 (fun _ h => h) hff (hty k hk) hn hft hkl' d fin
  · rcases hfin with h | ⟨h1, h3, h4⟩
    · exact absurd h hff
    · subst h3
      have hw2 : (Cond.fieldLink (eg_on o) idx (eg_fd ci k).1 (eg_fd ci k).2.1 (eg_fd ci k).2.2.1).before args s = true := hw1
      rw [hfd] at hw2
      exact va_putF hx hb hts (eg_w7 hmem) _ hty (eg_cl_nm hq) hown hK hP hD hS0 (a - eg_NC) hw hq k hk hw2 (fun _ h => h) (by simpa using hff) (hini h1) h4 (hty k hk) hn hft hkl' d fin
theorem sh_sta {idx si : Nat} {hh : Option String} {C n d0 : String} {v : Value} (X : eg_X p s m args meth c R b0 D dA adc o ini mc ms cc) (d : decode cc pc = .ok (.getstatic idx, 3)) (he : (idx, si, hh) ∈ eg_sT.getD o []) (hsv : eg_sv[si]? = some (C, n, d0, v))
    (kk : eg_J p l e R s m args below meth c Q b0 D dA adc n0 ad0 (pc + 3) L (v :: st) G ck sk) (kn : v = .ref 151 → eg_J p l e R s m args below meth c Q b0 D dA adc n0 ad0 (pc + 3) L (.null :: st) G ck sk) : eg_J p l e R s m args below meth c Q b0 D dA adc n0 ad0 pc L st G ck sk := by
  obtain ⟨hx, hb, hown, hts, hK, hC, hAO, hAOA, hRc, hRs, hini, hb0⟩ := X
  intro ad H locs ls hR hL hS
  obtain ⟨hP, hD, hS0, hok, hag⟩ := id hR
  rcases hC.1 C n d0 v (List.mem_of_getElem? hsv) with hZ | ⟨hv151, hZ⟩
  rotate_left
  · have hkk := kn hv151 ad H locs ls hR hL (List.forall_mem_cons.mpr ⟨(fun i hi => nomatch hi), hS⟩)
    have hw1 := eg_w2 he
    cases hh with
    | none =>
      have hw2 := hts _ (hw1 (.fieldLink (eg_on o) idx C n d0) (by simp [eg_sw1, hsv]))
      exact va_gets hx hb hZ hS0 hown hw2 (fun _ h => h) d hkk
    | some h0 =>
      have hw2 := hts _ (hw1 (.fieldLinkNest (eg_on o) idx C n d0 h0) (by simp [eg_sw1, hsv]))
      exact va_getsN hx hb hZ hS0 hown hw2 (fun _ h => h) d hkk
  have hvr : ∀ i, v = .ref i → i < eg_NC := by
    have h9 : eg_sv.all (fun q => match q.2.2.2 with | .ref i => decide (i < eg_NC) | _ => true) = true := by decide +kernel
    intro i hi
    subst hi
    have := List.all_eq_true.mp h9 _ (List.mem_of_getElem? hsv)
    exact of_decide_eq_true this
  have hva : eg_v ad v = eg_v adc v := by
    cases v with
    | ref i => exact congrArg Value.ref (hag.1 i (hvr i rfl))
    | _ => rfl
  have hkk := kk ad H locs ls hR hL (List.forall_mem_cons.mpr ⟨fun i hi => Nat.lt_of_lt_of_le (hvr i hi) hok.1, hS⟩)
  have e2 : (v :: st).map (eg_v ad) = eg_v adc v :: st.map (eg_v ad) := by rw [List.map_cons, hva]
  rw [e2] at hkk
  have hw1 := eg_w2 he
  cases hh with
  | none =>
    have hw2 := hts _ (hw1 (.fieldLink (eg_on o) idx C n d0) (by simp [eg_sw1, hsv]))
    exact va_gets hx hb hZ hS0 hown hw2 (fun _ h => h) d hkk
  | some h0 =>
    have hw2 := hts _ (hw1 (.fieldLinkNest (eg_on o) idx C n d0 h0) (by simp [eg_sw1, hsv]))
    exact va_getsN hx hb hZ hS0 hown hw2 (fun _ h => h) d hkk
/-- reads the static that may be null -/
def eg_s151 (o : Nat) (ins : Instr) : Bool := match ins with
  | .getstatic i => (match (eg_sT.getD o []).lookup i with
    | some (k, _) => (match eg_sv[k]? with
      | some (_, _, _, v) => decide (v = .ref 151)
      | none => false)
    | none => false)
  | _ => false
/-- what comes new: the world, the naming, the locals behind it -/
theorem eg_Rel_p {ad : Nat → Nat} {H H1 : Heap} {locs locs1 : List Loc} {q : Nat} {cell : eg_C} (hR : eg_Rel s b0 D dA adc n0 ad0 ad G H locs) (hc : eg_okc G.2 cell) (hP1 : va_P D eg_cl (eg_ws ad dA G ++ [(q, eg_e ad dA cell)]) H1) (hD1 : va_D (eg_A b0) (eg_ws ad dA G ++ [(q, eg_e ad dA cell)])) (hS1 : va_S (eg_A b0) s.heap H1 locs1) :
    eg_Rel s b0 D dA adc n0 ad0 (fun i => if i = G.2 then q else ad i) (eg_p G cell) H1 locs1 := by
  obtain ⟨-, -, -, hok, hag⟩ := hR
  rw [eg_push hok hc] at hP1 hD1
  refine ⟨hP1, hD1, hS1, eg_ok_p hok hc, fun i hi => ?_, Nat.le_succ_of_le hag.2.1, fun i hi => ?_⟩
  · have : i ≠ G.2 := by have := hok.1; omega
    show (if i = G.2 then q else ad i) = adc i
    rw [if_neg this]
    exact hag.1 i hi
  · have : i ≠ G.2 := by have := hag.2.1; omega
    show (if i = G.2 then q else ad i) = ad0 i
    rw [if_neg this]
    exact hag.2.2 i hi
theorem eg_ag_p (n q : Nat) (ad : Nat → Nat) : eg_ag n ad (fun i => if i = n then q else ad i) := fun i hi => if_neg (by omega)
theorem sh_push {ad : Nat → Nat} {H H1 : Heap} {locs locs1 : List Loc} {ls : Array Slot} {q : Nat} {cell : eg_C} (kk : eg_J p l e R s m args below meth c Q b0 D dA adc n0 ad0 pc' L (.ref G.2 :: st) (eg_p G cell) ck' sk') (hR : eg_Rel s b0 D dA adc n0 ad0 ad G H locs) (hL : eg_LR ad G.2 ls L) (hS : ∀ v ∈ st, eg_okv G.2 v) (hc : eg_okc G.2 cell) (hP1 : va_P D eg_cl (eg_ws ad dA G ++ [(q, eg_e ad dA cell)]) H1) (hD1 : va_D (eg_A b0) (eg_ws ad dA G ++ [(q, eg_e ad dA cell)])) (hS1 : va_S (eg_A b0) s.heap H1 locs1) :
    W p l e R s m args below meth c H1 locs1 ck' sk' Q (F0 m pc' ls (.ref q :: st.map (eg_v ad))) := by
  have hkk := kk (fun i => if i = G.2 then q else ad i) H1 locs1 ls (eg_Rel_p hR hc hP1 hD1 hS1) (hL.up (eg_ag_p G.2 q ad) (Nat.le_succ _)) (List.forall_mem_cons.mpr ⟨eg_okr (Nat.lt_succ_self _), fun v hv => (hS v hv).up (Nat.le_succ _)⟩)
  have e1 : (Value.ref G.2 :: st).map (eg_v (fun i => if i = G.2 then q else ad i)) = .ref q :: st.map (eg_v ad) := by
    rw [List.map_cons, eg_ag_st (eg_ag_p G.2 q ad) hS]
    show Value.ref (if G.2 = G.2 then q else ad G.2) :: _ = _
    rw [if_pos rfl]
  rw [e1] at hkk
  exact hkk
theorem eg_dflt {ci : Nat} (n : Nat) : ∀ v ∈ eg_nc n ci, v = .int 0 ∨ v = .long 0 ∨ v = .float 0 ∨ v = .double 0 ∨ v = .null := by
  intro v hv
  obtain ⟨k, -, rfl⟩ := List.mem_map.mp hv
  cases (eg_yl.getD ci (fun _ => .int)) k <;> simp [defaultValue]
theorem sh_new {idx ci : Nat} {q : vw_C} (X : eg_X p s m args meth c R b0 D dA adc o ini mc ms cc) (d : decode cc pc = .ok (.new idx, 3)) (he : (idx, ci) ∈ eg_cT.getD o []) (hq : eg_cl[ci]? = some q) (hck : ck + 1 ≤ mc) (hsk : sk + q.2.2 ≤ ms)
    (kk : eg_J p l e R s m args below meth c Q b0 D dA adc n0 ad0 (pc + 3) L (.ref G.2 :: st) (eg_p G (.inr (ci, eg_nc q.2.2 ci))) (ck + 1) (sk + q.2.2)) : eg_J p l e R s m args below meth c Q b0 D dA adc n0 ad0 pc L st G ck sk := by
  obtain ⟨hx, hb, hown, hts, hK, hC, hAO, hAOA, hRc, hRs, hini, hb0⟩ := X
  intro ad H locs ls hR hL hS
  obtain ⟨hP, hD, hS0, hok, hag⟩ := id hR
  have hmem : q ∈ eg_cl := List.mem_of_getElem? hq
  have hlt := (eg_cl_get hq).2
  have hcn : eg_cn ci = q.1 := by
    unfold eg_cn
    rw [if_pos hlt, List.getD_eq_getElem?_getD, hq]
    rfl
  have hw : (Cond.classLink (eg_on o) idx q.1).before args s = true := by
    have := hts _ (eg_w4 he)
    unfold eg_cw at this
    rw [hcn] at this
    exact this
  have hmap : (eg_nc q.2.2 ci).map (eg_v ad) = eg_nc q.2.2 ci := by
    conv => rhs; rw [← List.map_id (eg_nc q.2.2 ci)]
    apply List.map_congr_left
    intro v hv
    rcases eg_dflt _ v hv with h | h | h | h | h <;> subst h <;> rfl
  have hokc : eg_okc G.2 (.inr (ci, eg_nc q.2.2 ci)) := by
    intro v hv i hi
    rcases eg_dflt _ v hv with h | h | h | h | h <;> subst h <;> cases hi
  refine va_new (fs := eg_nc q.2.2 ci) hx hb hts (eg_w7 hmem) _ (eg_cl_ty hq) hown hw (hts _ (eg_w8 hmem).1) (hts _ (eg_w8 hmem).2) hK hP hD hS0 (fun z hz => Nat.le_trans hb0 hz) hq (fun j hj => ?_) (by rw [hRc]; exact hck) (by rw [hRs]; exact hsk) d (fun q1 H1 hP1 hD1 hS1 => ?_)
  · have h9 : (eg_nc q.2.2 ci)[j]? = some (defaultValue ((eg_yl.getD ci (fun _ => .int)) j)) := by
      unfold eg_nc
      rw [List.getElem?_map, List.getElem?_range hj]
      rfl
    show _ = (eg_nc q.2.2 ci).getD j .null
    simp [List.getD_eq_getElem?_getD, h9]
  · have e2 : eg_e ad dA (.inr (ci, eg_nc q.2.2 ci)) = .inr (ci, eg_nc q.2.2 ci) := by
      show Sum.inr (ci, (eg_nc q.2.2 ci).map (eg_v ad)) = _
      rw [hmap]
    rw [← e2] at hP1 hD1
    exact sh_push kk hR hL hS hokc hP1 hD1 hS1
theorem eg_dAt {t : Nat} {cA : ClassId} (hK : va_K D eg_cl (eg_tys dA) s) (hK1 : va_K D eg_cl (eg_tys dA ++ [(cA, eg_tt t)]) s) (ht : t < 12) : cA = dA t := by
  have h1 := (hK.2 t _ (eg_tys_at ht)).2
  have hl : (eg_tys dA).length = 12 := by simp [eg_tys]
  have h2 := (hK1.2 12 (cA, eg_tt t) (by rw [List.getElem?_append_right (by omega), hl]; rfl)).2
  generalize eg_tt t = ty at h1 h2
  cases ty with
  | object C =>
    obtain ⟨_, _, -, -, -, h3⟩ := h1
    obtain ⟨_, _, -, -, -, h4⟩ := h2
    exact Option.some.inj (h4.symm.trans h3)
  | _ => exact Option.some.inj (h2.symm.trans h1)
theorem eg_clampI {n : Int32} (h : 0 ≤ n.toInt) : ¬ n < 0 := by
  rw [Int32.lt_iff_toInt_lt]
  simp
  omega
theorem eg_clampN {n : Int32} (h : n.toInt ≤ 65536) : n.toNatClampNeg ≤ 65536 := by
  show n.toInt.toNat ≤ 65536
  omega
theorem sh_newa {t : ArrayType} {k : Nat} {x : Nat → vp_A} {n : Int32} (X : eg_X p s m args meth c R b0 D dA adc o ini mc ms cc) (d : decode cc pc = .ok (.newarray t, 2)) (hna : eg_na t = some (k, x)) (h0 : 0 ≤ n.toInt) (h1 : n.toInt ≤ 65536) (hck : ck + 1 ≤ mc) (hsk : sk + n.toNatClampNeg ≤ ms)
    (kk : eg_J p l e R s m args below meth c Q b0 D dA adc n0 ad0 (pc + 2) L (.ref G.2 :: r) (eg_p G (.inl (k, x n.toNatClampNeg))) (ck + 1) (sk + n.toNatClampNeg)) : eg_J p l e R s m args below meth c Q b0 D dA adc n0 ad0 pc L (.int n :: r) G ck sk := by
  obtain ⟨hx, hb, hown, hts, hK, hC, hAO, hAOA, hRc, hRs, hini, hb0⟩ := X
  intro ad H locs ls hR hL hS
  obtain ⟨hP, hD, hS0, hok, hag⟩ := id hR
  obtain ⟨-, h2⟩ := List.forall_mem_cons.mp hS
  have h65 := eg_clampN h1
  have key : ∀ (k : Nat) (x : Nat → vp_A), k < 12 → Cond.arrayClass (newarray.typeOf t) ∈ eg_W9 → newarray.typeOf t = eg_tt k → componentBytes (eg_tt k) ≤ 8 → (∀ cA : ClassId, vp_cell cA (x n.toNatClampNeg) = arrV cA n.toNatClampNeg (fun _ => defaultValue (eg_tt k))) → (∀ ad : Nat → Nat, eg_r ad (x n.toNatClampNeg) = x n.toNatClampNeg) → eg_okx G.2 (x n.toNatClampNeg) →
      eg_J p l e R s m args below meth c Q b0 D dA adc n0 ad0 (pc + 2) L (.ref G.2 :: r) (eg_p G (.inl (k, x n.toNatClampNeg))) (ck + 1) (sk + n.toNatClampNeg) → W p l e R s m args below meth c H locs ck sk Q (F0 m pc ls (.int n :: r.map (eg_v ad))) := by
    intro k x hk hw hty hcb hcell hr hokx kk
    refine va_newa hx hb (hts _ (eg_w9 hw)) hty hK hP hD hS0 (fun z hz => Nat.le_trans hb0 hz) (a0 := x n.toNatClampNeg) hcell (eg_clampI h0) rfl (Nat.le_trans (Nat.mul_le_mul h65 hcb) (by decide)) (by rw [hRc]; exact hck) (by rw [hRs]; exact hsk) d (fun q1 cA H1 hK1 hP1 hD1 hS1 => ?_)
    have ec := eg_dAt hK hK1 hk
    subst ec
    have e2 : eg_e ad dA (.inl (k, x n.toNatClampNeg)) = .inl (dA k, x n.toNatClampNeg) := by
      show Sum.inl (dA k, eg_r ad (x n.toNatClampNeg)) = _
      rw [hr]
    rw [← e2] at hP1 hD1
    exact sh_push kk hR hL h2 hokx hP1 hD1 hS1
  cases t with
  | int => cases hna; exact key 0 (fun n => (n, .inl (fun _ => 0))) (by decide) (by simp [eg_W9, newarray.typeOf]) rfl (by decide) (fun _ => rfl) (fun _ => rfl) (fun f hf => by cases hf) kk
  | byte => cases hna; exact key 1 (fun n => (n, .inl (fun _ => 0))) (by decide) (by simp [eg_W9, newarray.typeOf]) rfl (by decide) (fun _ => rfl) (fun _ => rfl) (fun f hf => by cases hf) kk
  | long => cases hna; exact key 2 (fun n => (n, .inr (.inl (fun _ => 0)))) (by decide) (by simp [eg_W9, newarray.typeOf]) rfl (by decide) (fun _ => rfl) (fun _ => rfl) (fun f hf => by cases hf) kk
  | boolean => cases hna; exact key 3 (fun n => (n, .inl (fun _ => 0))) (by decide) (by simp [eg_W9, newarray.typeOf]) rfl (by decide) (fun _ => rfl) (fun _ => rfl) (fun f hf => by cases hf) kk
  | char => cases hna; exact key 4 (fun n => (n, .inl (fun _ => 0))) (by decide) (by simp [eg_W9, newarray.typeOf]) rfl (by decide) (fun _ => rfl) (fun _ => rfl) (fun f hf => by cases hf) kk
  | _ => cases hna
theorem eg_ek_cn {ci : Nat} (h5 : 5 ≤ eg_ek ci) (h6 : eg_ek ci < 11) : eg_tt (eg_ek ci) = .object (eg_cn ci) := by
  unfold eg_ek at h5 h6 ⊢
  split at h6 <;> first | rfl | omega
theorem sh_newq {idx ci : Nat} {n : Int32} (X : eg_X p s m args meth c R b0 D dA adc o ini mc ms cc) (d : decode cc pc = .ok (.anewarray idx, 3)) (he : (idx, ci) ∈ eg_cT.getD o []) (h5 : 5 ≤ eg_ek ci) (h6 : eg_ek ci < 11) (h0 : 0 ≤ n.toInt) (h1 : n.toInt ≤ 65536) (hck : ck + 1 ≤ mc) (hsk : sk + n.toNatClampNeg ≤ ms)
    (kk : eg_J p l e R s m args below meth c Q b0 D dA adc n0 ad0 (pc + 3) L (.ref G.2 :: r) (eg_p G (.inl (eg_ek ci, (n.toNatClampNeg, .inr (.inr (.inr (.inr (fun _ => none)))))))) (ck + 1) (sk + n.toNatClampNeg)) : eg_J p l e R s m args below meth c Q b0 D dA adc n0 ad0 pc L (.int n :: r) G ck sk := by
  obtain ⟨hx, hb, hown, hts, hK, hC, hAO, hAOA, hRc, hRs, hini, hb0⟩ := X
  intro ad H locs ls hR hL hS
  obtain ⟨hP, hD, hS0, hok, hag⟩ := id hR
  obtain ⟨-, h2⟩ := List.forall_mem_cons.mp hS
  have h65 := eg_clampN h1
  refine va_newq hx hb hown (hts _ (eg_w4 he)) (hAO ci h6) hK hP hD hS0 (fun z hz => Nat.le_trans hb0 hz) (eg_clampI h0) rfl (Nat.le_trans (Nat.mul_le_mul_right 4 h65) (by decide)) (by rw [hRc]; exact hck) (by rw [hRs]; exact hsk) d (fun q1 cA H1 hK1 hP1 hD1 hS1 => ?_)
  have hty := eg_ek_cn h5 h6
  rw [← hty] at hK1
  have ec := eg_dAt hK hK1 (by omega)
  subst ec
  exact sh_push (cell := .inl (eg_ek ci, (n.toNatClampNeg, .inr (.inr (.inr (.inr (fun _ => none))))))) kk hR hL h2 (fun f hf j z hz => by cases hf; cases hz) hP1 hD1 hS1
end EGN
