/-! CALLS -/
section EGC
def eg_rm (d mc ms : Nat) : Room := { frames := d + 12, cells := mc, slots := ms, locals := 48 * d + 300 }
def eg_cn2 (x : Nat) : String := if x < 12 then (eg_cl.getD x ("", eg_T0, 0)).1 else if x = 12 then "KnobEye$Word" else if x = 13 then "java/lang/String" else ""
def eg_mck (q : eg_MI) : Bool := (decide (q.2.2.2.2.2.1 = 20) || plainName q.1.cls) && (decide (q.1.cls ≠ "java/lang/invoke/MethodHandle") && (decide (q.1.cls ≠ "java/lang/invoke/VarHandle") && (decide ((parseMethodDescriptor q.1.desc).map (fun d => d.parameters.length) = some q.2.2.2.2.2.2) && (decide (q.2.2.1 ≤ 15) && decide (eg_on q.2.2.2.2.2.1 = q.1.cls)))))
set_option maxRecDepth 100000 in
theorem eg_mok_all : eg_MM.all (fun l => l.all (fun q => eg_mck q.1)) = true := by decide +kernel
theorem eg_MM_len : eg_MM.length = 20 ∧ eg_MM.all (fun l => l.length == 16 || l.length == 12) = true ∧ (eg_MM.take 19).all (fun l => l.length == 16) = true := by decide +kernel
theorem eg_me_at {k : Nat} (h : k < 316) : ∃ l, l ∈ eg_MM ∧ eg_me k ∈ l := by
  have h1 : k / 16 < eg_MM.length := by rw [eg_MM_len.1]; omega
  have hl : eg_MM[k / 16]? = some (eg_MM[k / 16]) := List.getElem?_eq_getElem h1
  have h2 : k % 16 < (eg_MM[k / 16]).length := by
    by_cases h3 : k / 16 < 19
    · have h4 : eg_MM[k / 16] ∈ eg_MM.take 19 := by
        rw [List.mem_take_iff_getElem]
        exact ⟨k / 16, by rw [eg_MM_len.1]; omega, rfl⟩
      have h5 := List.all_eq_true.mp eg_MM_len.2.2 _ h4
      have : (eg_MM[k / 16]).length = 16 := by simpa using h5
      omega
    · have h5 := List.all_eq_true.mp eg_MM_len.2.1 _ (List.getElem_mem h1)
      have : (eg_MM[k / 16]).length = 16 ∨ (eg_MM[k / 16]).length = 12 := by simpa using h5
      omega
  refine ⟨eg_MM[k / 16], List.getElem_mem h1, ?_⟩
  have e1 : eg_MM.getD (k / 16) [] = eg_MM[k / 16] := by rw [List.getD_eq_getElem?_getD, hl]; rfl
  unfold eg_me
  rw [e1, List.getD_eq_getElem?_getD, List.getElem?_eq_getElem h2]
  exact List.getElem_mem h2
theorem eg_mi_k {k : Nat} (h : k < 316) : eg_mi k = (eg_me k).1 := if_neg (by unfold eg_LK; omega)
theorem eg_mok_at {k : Nat} (h : k < 316) : (eg_mo k = 20 ∨ plainName (eg_mn k).cls = true) ∧ ((eg_mn k).cls ≠ "java/lang/invoke/MethodHandle" ∧ (eg_mn k).cls ≠ "java/lang/invoke/VarHandle") ∧ (∀ sig, parseMethodDescriptor (eg_mn k).desc = some sig → eg_ma k = sig.parameters.length) ∧ eg_mL k ≤ 15 ∧ eg_on (eg_mo k) = (eg_mn k).cls := by
  obtain ⟨l, h1, h2⟩ := eg_me_at h
  have h3 := List.all_eq_true.mp (List.all_eq_true.mp eg_mok_all l h1) _ h2
  rw [← eg_mi_k h] at h3
  simp only [eg_mck, Bool.and_eq_true, Bool.or_eq_true, decide_eq_true_eq] at h3
  obtain ⟨a1, a2, a3, a4, a5, a6⟩ := h3
  refine ⟨a1, ⟨a2, a3⟩, fun sig hs => ?_, a5, a6⟩
  rw [hs] at a4
  exact (Option.some.inj a4).symm
theorem eg_yw_in {k : Nat} (h : k < 316) : eg_yw (eg_me k) ∈ eg_W := by
  obtain ⟨l, h1, h2⟩ := eg_me_at h
  exact eg_w6 h1 h2
-- the start of a method
theorem eg_lq_nil (ad : Nat → Nat) : ∀ n i : Nat, eg_lq ad i (List.replicate n none) = []
  | 0, _ => rfl
  | n + 1, i => by rw [List.replicate_succ]; exact eg_lq_nil ad n (i + 1)
theorem eg_lq_en0 (ad : Nat → Nat) (n : Nat) : ∀ (as : List Value) (i : Nat), eg_lq ad i (eg_en0 as ++ List.replicate n none) = lv_args i (as.map (eg_v ad))
  | [], i => by show eg_lq ad i (List.replicate n none) = _; rw [eg_lq_nil]; rfl
  | v :: t, i => by
    by_cases hc : v.category = 2
    · have e : eg_en0 (v :: t) = some v :: none :: eg_en0 t := if_pos hc
      rw [e]
      show (i, eg_v ad v) :: eg_lq ad (i + 1 + 1) (eg_en0 t ++ _) = (i, eg_v ad v) :: lv_args (if (eg_v ad v).category = 2 then i + 2 else i + 1) (t.map (eg_v ad))
      rw [eg_vcat, if_pos hc, eg_lq_en0 ad n t]
    · have e : eg_en0 (v :: t) = some v :: eg_en0 t := if_neg hc
      rw [e]
      show (i, eg_v ad v) :: eg_lq ad (i + 1) (eg_en0 t ++ _) = (i, eg_v ad v) :: lv_args (if (eg_v ad v).category = 2 then i + 2 else i + 1) (t.map (eg_v ad))
      rw [eg_vcat, if_neg hc, eg_lq_en0 ad n t]
theorem eg_en_sl (ad : Nat → Nat) : ∀ as : List Value, (lg_sl (as.map (eg_v ad))).length = (eg_en0 as).length
  | [] => rfl
  | v :: t => by
    have ih := eg_en_sl ad t
    unfold lg_sl at ih ⊢
    rw [List.map_cons, List.flatMap_cons, List.length_append, ih, eg_vcat]
    by_cases hc : v.category = 2
    · rw [if_pos hc, show eg_en0 (v :: t) = some v :: none :: eg_en0 t from if_pos hc]
      simp
      omega
    · rw [if_neg hc, show eg_en0 (v :: t) = some v :: eg_en0 t from if_neg hc]
      simp
      omega
theorem eg_en0_mem : ∀ (as : List Value) (v : Value), some v ∈ eg_en0 as → v ∈ as
  | [], _, h => nomatch h
  | w :: t, v, h => by
    by_cases hc : w.category = 2
    · rw [show eg_en0 (w :: t) = some w :: none :: eg_en0 t from if_pos hc] at h
      simp at h
      rcases h with h | h
      · exact List.mem_cons.mpr (Or.inl h)
      · exact List.mem_cons_of_mem _ (eg_en0_mem t v h)
    · rw [show eg_en0 (w :: t) = some w :: eg_en0 t from if_neg hc] at h
      simp at h
      rcases h with h | h
      · exact List.mem_cons.mpr (Or.inl h)
      · exact List.mem_cons_of_mem _ (eg_en0_mem t v h)
theorem eg_en_LR {ad : Nat → Nat} {N n : Nat} {as : List Value} (h : (eg_en0 as).length ≤ n) (hok : ∀ v ∈ as, eg_okv N v) : eg_LR ad N ((lg_sl (as.map (eg_v ad)) ++ List.replicate (n - (lg_sl (as.map (eg_v ad))).length) Slot.unset).toArray) (eg_en n as) := by
  have hl : (eg_en n as).length = n := by
    unfold eg_en
    rw [List.length_append, List.length_replicate]
    omega
  have h0 := lv_entry (as.map (eg_v ad)) (n := n) (by rw [eg_en_sl]; exact h)
  refine ⟨?_, fun v hv => ?_⟩
  · rw [hl]
    unfold eg_en
    rw [eg_lq_en0]
    exact h0
  · rcases List.mem_append.mp hv with h1 | h1
    · exact hok v (eg_en0_mem as v h1)
    · have := List.eq_of_mem_replicate h1
      cases this
def eg_Pc (b0 : Nat) (D : va_G) (dA : Nat → ClassId) (adc : Nat → Nat) (as : List Value) (ad : Nat → Nat) (G : eg_G) : Array Value → State → Prop := fun a U =>
  a = (as.map (eg_v ad)).toArray ∧ eg_F U b0 D dA adc ∧ va_P D eg_cl (eg_ws ad dA G) U.heap ∧ va_D (eg_A b0) (eg_ws ad dA G) ∧ eg_ok G ∧ (∀ i, i < eg_NC → ad i = adc i) ∧ ∀ v ∈ as, eg_okv G.2 v
def eg_Qp (b0 : Nat) (D : va_G) (dA : Nat → ClassId) (adc : Nat → Nat) (ad : Nat → Nat) (n : Nat) (G' : eg_G) (ad' : Nat → Nat) (H1 : Heap) : Prop :=
  eg_ag n ad ad' ∧ n ≤ G'.2 ∧ va_P D eg_cl (eg_ws ad' dA G') H1 ∧ va_D (eg_A b0) (eg_ws ad' dA G') ∧ eg_ok G' ∧ ∀ i, i < eg_NC → ad' i = adc i
def eg_Qc (b0 : Nat) (D : va_G) (dA : Nat → ClassId) (adc : Nat → Nat) (ad : Nat → Nat) (n : Nat) (r : eg_R) (G' : eg_G) : Array Value → State → Outcome → State → Prop := fun _ st o t =>
  ∃ (v : Option Value) (ad' : Nat → Nat), r = .inl v ∧ o = .returned (v.map (eg_v ad')) ∧ (∀ w, v = some w → eg_okv G'.2 w) ∧ eg_Qp b0 D dA adc ad n G' ad' t.heap ∧ va_F (eg_A b0) st t
def eg_XC (b0 : Nat) (D : va_G) (dA : Nat → ClassId) (adc : Nat → Nat) (ad : Nat → Nat) (n : Nat) (r : eg_R) (G' : eg_G) : String → State → State → Prop := fun E st t =>
  ∃ (x : Nat) (ad' : Nat → Nat), r = .inr x ∧ x < 4 ∧ E = eg_xn x ∧ eg_Qp b0 D dA adc ad n G' ad' t.heap ∧ va_F (eg_A b0) st t
theorem eg_Pc_blind {b0 : Nat} {D : va_G} {dA : Nat → ClassId} {adc : Nat → Nat} {as : List Value} {ad : Nat → Nat} {G : eg_G} : FrameBlind (eg_Pc b0 D dA adc as ad G) := by
  intro a U g mk h
  obtain ⟨h1, h2, h3⟩ := h
  refine ⟨h1, h2.go (U := U.calling g mk a) (locs := []) (State.WarmedH.refl U) ?_, h3⟩
  exact va_S.rf (A := eg_A b0) (H0 := U.heap)
theorem eg_rr_ok {ins : Instr} {ret : Option FieldType} {st : List Value} {v : Option Value} (h : eg_rr ins ret st = some v) : ∀ w, v = some w → w ∈ st := by
  intro w hw
  subst hw
  unfold eg_rr at h
  split at h
  · cases h
  · split at h
    · cases h; exact List.mem_cons_self
    · cases h
  · cases h; exact List.mem_cons_self
  · cases h; exact List.mem_cons_self
  · cases h; exact List.mem_cons_self
  · cases h; exact List.mem_cons_self
  · cases h; exact List.mem_cons_self
  · cases h
theorem eg_xT_4 {q : Nat × Nat × Nat} (h : q ∈ eg_xT) : q.2.2 < 4 ∧ Bundle.fit (eg_xn q.2.2) = true := by
  have h9 : eg_xT.all (fun q => decide (q.2.2 < 4) && Bundle.fit (eg_xn q.2.2)) = true := by decide +kernel
  have := List.all_eq_true.mp h9 q h
  simpa using this
theorem eg_xc_fit : ∀ n ∈ eg_xc, Bundle.fit n = true := by
  have h9 : eg_xc.all (fun n => Bundle.fit n) = true := by decide +kernel
  exact List.all_eq_true.mp h9
theorem eg_W10_ot : eg_W10.all vx_ot = true := by decide +kernel
theorem eg_W10_at {q : Nat × Nat × Nat} (h : q ∈ eg_xT) : ∀ w ∈ Cond.classLink "KnobEye" q.1 (eg_xn q.2.2) :: Cond.initialized (eg_xn q.2.2) :: Cond.castable (eg_xn q.2.2) (eg_xn q.2.2) :: vx_at0 "KnobEye" q.2.1 (eg_xn q.2.2) eg_xc, w ∈ eg_W10 := by
  intro w hw
  refine List.mem_flatMap.mpr ⟨q, h, ?_⟩
  rcases List.mem_cons.mp hw with rfl | hw
  · exact List.mem_cons_of_mem _ (List.mem_cons_of_mem _ List.mem_cons_self)
  rcases List.mem_cons.mp hw with rfl | hw
  · exact List.mem_cons_self
  rcases List.mem_cons.mp hw with rfl | hw
  · exact List.mem_cons_of_mem _ List.mem_cons_self
  · exact List.mem_cons_of_mem _ (List.mem_cons_of_mem _ (List.mem_cons_of_mem _ hw))
theorem eg_W10_cast {x : Nat} (h : x < 4) : Cond.castable (eg_xn x) (eg_xn x) ∈ eg_W10 := by
  have h9 : ∃ q, q ∈ eg_xT ∧ q.2.2 = x := by
    match x, h with
    | 0, _ => exact ⟨(83, 85, 0), by decide, rfl⟩
    | 1, _ => exact ⟨(207, 209, 1), by decide, rfl⟩
    | 2, _ => exact ⟨(89, 91, 2), by decide, rfl⟩
    | 3, _ => exact ⟨(200, 202, 3), by decide, rfl⟩
    | k + 4, h => exact absurd h (by omega)
  obtain ⟨q, h1, rfl⟩ := h9
  exact eg_W10_at h1 _ (List.mem_cons_of_mem _ (List.mem_cons_of_mem _ List.mem_cons_self))
theorem eg_th_at {k pc : Nat} {ins : Instr} {q : Nat × Nat × Nat} (h : eg_th k pc ins = some q) : q ∈ eg_xT ∧ ins = .new q.1 ∧ eg_mo k = 11 ∧ eg_mh k = none ∧ eg_cd k (pc + 3) = some (.dup, 1) ∧ eg_cd k (pc + 4) = some (.invokespecial q.2.1, 3) ∧ eg_cd k (pc + 7) = some (.athrow, 1) := by
  unfold eg_th at h
  split at h
  · have h1 := List.mem_of_find?_eq_some h
    have h2 := List.find?_some h
    simp only [Bool.and_eq_true, decide_eq_true_eq, beq_iff_eq, Option.isNone_iff_eq_none] at h2
    exact ⟨h1, by rw [h2.1], h2.2.1, h2.2.2.1, h2.2.2.2.1, h2.2.2.2.2.1, h2.2.2.2.2.2⟩
  · cases h
/-- a body's three ends -/
theorem eg_ends {p : Program} {l : Launch} {e : Env} {R : Room} {s : State} {m : MethodId} {args : Array Value} {below : List Frame} {meth : Method} {c : Code} {Q : State → Prop} {b0 : Nat} {D : va_G} {dA : Nat → ClassId} {adc : Nat → Nat} {n0 : Nat} {ad0 : Nat → Nat} {k d mc ms : Nat} {r : eg_R} {G' : eg_G} {ck' sk' : Nat} (hk : k ≠ eg_LK) (hB : eg_B p s m meth c R k d mc ms) (hF : eg_F s b0 D dA adc) (hl : l.stackTraces = false) (hc : ck' ≤ mc) (hs : sk' ≤ ms)
    (hQ : Q = vx_MQ below (eg_Qc b0 D dA adc ad0 n0 r G') (eg_XC b0 D dA adc ad0 n0 r G') args s ck' sk' (eg_A b0)) :
    eg_KR p l e R s m args below meth c Q b0 D dA adc n0 ad0 k r G' ck' sk' ∧ eg_KX p l e R s m args below meth c Q b0 D dA adc n0 ad0 k r G' ck' sk' ∧ eg_KT p l e R s m args below meth c Q b0 D dA adc n0 ad0 k r G' ck' sk' := by
  subst hQ
  obtain ⟨hx, hb, hml, hown, hlocks, hr, hini, htab, hRc, hRs, hRf, hRl⟩ := hB
  have htab := htab hk
  refine ⟨fun ad H locs ls pc ins len st v hcd hrr hrv hR hok => ?_, fun hh ad H locs ls pc rest x q ce hrx hx4 hR hce hcv hcl => ?_, fun ad H locs ls pc ins len st q ck sk hcd hth hrx hR hsz hcat h1 h2 => ?_⟩
  · obtain ⟨hd, hlo⟩ := eg_cd_dec hcd
    obtain ⟨hP, hD, hS0, hokG, hag⟩ := hR
    have hq : ∀ t : State, t.heap = H → s.WarmedH t.vm → eg_Qc b0 D dA adc ad0 n0 r G' args s (.returned (v.map (eg_v ad))) t := fun t ht hW =>
      ⟨v, ad, hrv, rfl, fun w hw => hok w (eg_rr_ok hrr w hw), ⟨hag.2.2, hag.2.1, by rw [ht]; exact hP, hD, hokG, hag.1⟩, hS0.F ht⟩
    refine vx_ret ?_
    unfold eg_rr at hrr
    split at hrr
    · cases hrr
      rename_i hret
      have hl' : len = 1 := by simpa [eg_lok] using hlo
      subst hl'
      exact W.vret hx hb (hr.trans hret) hq hS0.2.2 hd hlocks
    · rename_i hret
      split at hrr
      · rename_i hn
        cases hrr
        have hl' : len = 1 := by simpa [eg_lok] using hlo
        subst hl'
        exact W.zret hx hb (hr.trans hret) (of_decide_eq_true hn) hq hS0.2.2 hd hlocks
      · cases hrr
    · cases hrr
      rename_i hret
      have hl' : len = 1 := by simpa [eg_lok] using hlo
      subst hl'
      exact W.lret hx hb (hr.trans hret) hq hS0.2.2 hd hlocks
    · cases hrr
      rename_i hret
      have hl' : len = 1 := by simpa [eg_lok] using hlo
      subst hl'
      exact W.aret hx hb (hr.trans hret) (Or.inl ⟨_, rfl⟩) (Or.inr ⟨_, rfl⟩) hq hS0.2.2 hd hlocks
    · cases hrr
      rename_i hret
      have hl' : len = 1 := by simpa [eg_lok] using hlo
      subst hl'
      exact W.aret hx hb (hr.trans hret) (Or.inl ⟨_, rfl⟩) (Or.inl rfl) hq hS0.2.2 hd hlocks
    · cases hrr
      rename_i hret
      have hl' : len = 1 := by simpa [eg_lok] using hlo
      subst hl'
      exact W.aret hx hb (hr.trans hret) (Or.inr ⟨_, rfl⟩) (Or.inr ⟨_, rfl⟩) hq hS0.2.2 hd hlocks
    · cases hrr
      rename_i hret
      have hl' : len = 1 := by simpa [eg_lok] using hlo
      subst hl'
      exact W.aret hx hb (hr.trans hret) (Or.inr ⟨_, rfl⟩) (Or.inl rfl) hq hS0.2.2 hd hlocks
    · cases hrr
  · obtain ⟨hP, hD, hS0, hokG, hag⟩ := hR
    rw [hh] at htab
    exact vx_out (fun z hz => by rw [htab] at hz; exact nomatch hz) hlocks hce hcv hcl (fun t ht hW => ⟨x, ad, hrx, hx4, rfl, ⟨hag.2.2, hag.2.1, by rw [ht]; exact hP, hD, hokG, hag.1⟩, hS0.F ht⟩) hS0.2.2 (Nat.le_refl _) (Nat.le_refl _)
  · obtain ⟨hP, hD, hS0, hokG, hag⟩ := hR
    obtain ⟨hd0, hlo0⟩ := eg_cd_dec hcd
    obtain ⟨hq1, rfl, ho, hh, c3, c4, c7⟩ := eg_th_at hth
    have hl' : len = 3 := by simpa [eg_lok] using hlo0
    subst hl'
    obtain ⟨f1, f2, f3, f4, f5, f6, f7, f8, f9, f10⟩ := hF
    have hw := eg_W10_at hq1
    have hw2 := eg_kp_s eg_kp_W10 (a' := args) f2
    have hown2 : s.vm.findClass "KnobEye" = some m.cls := by
      rw [ho] at hown
      exact hown
    rw [hh] at htab
    have hot : ∀ w ∈ eg_W10, vx_ot w = true := List.all_eq_true.mp eg_W10_ot
    have hin : ∀ w ∈ Cond.classLink "KnobEye" q.1 (eg_xn q.2.2) :: Cond.initialized (eg_xn q.2.2) :: vx_at0 "KnobEye" q.2.1 (eg_xn q.2.2) eg_xc, w ∈ eg_W10 := fun w h9 => by
      rcases List.mem_cons.mp h9 with rfl | h9
      · exact hw _ List.mem_cons_self
      rcases List.mem_cons.mp h9 with rfl | h9
      · exact hw _ (List.mem_cons_of_mem _ List.mem_cons_self)
      · exact hw _ (List.mem_cons_of_mem _ (List.mem_cons_of_mem _ (List.mem_cons_of_mem _ h9)))
    have hcat2 : ((st.map (eg_v ad)).map fun v => v.category).sum = eg_cat st := by
      rw [List.map_map]
      exact congrArg List.sum (List.map_congr_left (fun v _ => eg_vcat ad v))
    refine vx_throw0 hx hb hl hown2 (eg_xT_4 hq1).2 eg_xc_fit (hw2 _ (hin _ List.mem_cons_self)) (hw2 _ (hin _ (List.mem_cons_of_mem _ List.mem_cons_self))) (fun w h9 => hw2 _ (hin _ (List.mem_cons_of_mem _ (List.mem_cons_of_mem _ h9)))) (fun w h9 => hot _ (hin _ h9)) f8 f9 hS0 hsz hd0 (eg_cd_dec c3).1 (eg_cd_dec c4).1 (eg_cd_dec c7).1 (fun z hz => by rw [htab] at hz; exact nomatch hz) ?_ ?_ ?_ ?_ hlocks (fun t hW hz1 hz2 => ?_) hS0.2.2 (by omega) (by omega)
    · show 5 < R.frames
      omega
    · rw [hcat2]
      show eg_cat st + 81 ≤ R.locals
      omega
    · omega
    · omega
    · refine ⟨q.2.2, ad, hrx, (eg_xT_4 hq1).1, rfl, ⟨hag.2.2, hag.2.1, hP.kept (fun k9 q9 h9 => hz2 _ (vx_lt hP h9)), hD, hokG, hag.1⟩, ?_⟩
      have h9 := hS0
      exact ⟨Nat.le_trans h9.1 hz1, fun z h1 h2 => (hz2 z (Nat.lt_of_lt_of_le h1 h9.1)).trans (h9.2.1 z h1 h2)⟩
end EGC
