section
/-! INVOKE, AND THE WHOLE -/
section EGV
def eg_tok (e : Nat × Nat × Nat × Option String) : Bool :=
  if e.2.2.1 = 6 then true else decide (e.2.1 < 316) && (decide (e.2.2.1 < 8) && ((if e.2.2.1 = 0 then true else (eg_me e.2.1).1.2.2.2.2.1.isNone) &&
    ((if e.2.2.1 = 2 ∨ e.2.2.1 = 5 then decide ((eg_me e.2.1).1.1.name = "<init>") && (eg_me e.2.1).1.2.2.2.1.isNone else true) &&
    ((if e.2.2.1 = 1 ∨ e.2.2.1 = 4 ∨ e.2.2.1 = 7 then decide (eg_oc e.2.2.1 e.2.1 < 14) && (decide (e.2.2.1 = 7) || decide (eg_cn2 (eg_oc e.2.2.1 e.2.1) = (eg_me e.2.1).1.1.cls)) else true) &&
    (if e.2.2.1 = 7 then decide ((eg_me e.2.1).1.1 = ⟨"java/lang/Enum", "ordinal", "()I"⟩) else true)))))
set_option maxRecDepth 100000 in
theorem eg_tok_all : eg_mT.all (fun l => l.all eg_tok) = true := by decide +kernel
theorem eg_tok_at {o : Nat} {e : Nat × Nat × Nat × Option String} (h : e ∈ eg_mT.getD o []) : eg_tok e = true := by
  rw [List.getD_eq_getElem?_getD] at h
  cases h1 : eg_mT[o]? with
  | none => rw [h1] at h; exact nomatch h
  | some l => rw [h1] at h; exact List.all_eq_true.mp (List.all_eq_true.mp eg_tok_all l (List.mem_of_getElem? h1)) e h
theorem eg_tok_0 {e : Nat × Nat × Nat × Option String} (h : eg_tok e = true) (h0 : e.2.2.1 ≠ 0) (h6 : e.2.2.1 ≠ 6) : (eg_me e.2.1).1.2.2.2.2.1 = none := by
  unfold eg_tok at h
  rw [if_neg h6] at h
  simp only [Bool.and_eq_true] at h
  have h3 := h.2.2.1
  rw [if_neg h0] at h3
  exact Option.isNone_iff_eq_none.mp h3
theorem eg_tok_2 {e : Nat × Nat × Nat × Option String} (h : eg_tok e = true) (hk : e.2.2.1 = 2 ∨ e.2.2.1 = 5) : (eg_me e.2.1).1.1.name = "<init>" ∧ (eg_me e.2.1).1.2.2.2.1 = none := by
  unfold eg_tok at h
  rw [if_neg (by omega)] at h
  simp only [Bool.and_eq_true] at h
  have h3 := h.2.2.2.1
  rw [if_pos hk] at h3
  simp only [Bool.and_eq_true, decide_eq_true_eq] at h3
  exact ⟨h3.1, Option.isNone_iff_eq_none.mp h3.2⟩
theorem eg_tok_1 {e : Nat × Nat × Nat × Option String} (h : eg_tok e = true) (hk : e.2.2.1 = 1 ∨ e.2.2.1 = 4 ∨ e.2.2.1 = 7) : eg_oc e.2.2.1 e.2.1 < 14 ∧ (e.2.2.1 = 7 ∨ eg_cn2 (eg_oc e.2.2.1 e.2.1) = (eg_me e.2.1).1.1.cls) := by
  unfold eg_tok at h
  rw [if_neg (by omega)] at h
  simp only [Bool.and_eq_true] at h
  have h3 := h.2.2.2.2.1
  rw [if_pos hk] at h3
  simp only [Bool.and_eq_true, Bool.or_eq_true, decide_eq_true_eq] at h3
  exact h3
theorem eg_tok_7 {e : Nat × Nat × Nat × Option String} (h : eg_tok e = true) (hk : e.2.2.1 = 7) : (eg_me e.2.1).1.1 = ⟨"java/lang/Enum", "ordinal", "()I"⟩ := by
  unfold eg_tok at h
  rw [if_neg (by omega)] at h
  simp only [Bool.and_eq_true] at h
  have h3 := h.2.2.2.2.2
  rw [if_pos hk] at h3
  exact of_decide_eq_true h3
section In
variable {p : Program} {l : Launch} {e : Env} {R : Room} {s : State} {m : MethodId} {args : Array Value} {below : List Frame} {meth : Method} {c : Code} {Q : State → Prop} {b0 : Nat} {D : va_G} {dA : Nat → ClassId} {adc : Nat → Nat} {n0 : Nat} {ad0 : Nat → Nat} {scr : eg_Sc} {d k mc ms : Nat} {r : eg_R} {G G' : eg_G} {ck sk ck' sk' : Nat} {L : eg_Ls} {st : List Value}
theorem eg_recv {ad : Nat → Nat} {H : Heap} {locs : List Loc} {b x : Nat} (hF : eg_F s b0 D dA adc) (hR : eg_Rel s b0 D dA adc n0 ad0 ad G H locs) (hb : b < G.2) (hx : eg_is (eg_at G b) x = true) (h14 : x < 14) : ∃ cell : Cell, H[ad b]? = some cell ∧ cell.vm.isStatics = false ∧ s.vm.findClass (eg_cn2 x) = some cell.cls := by
  obtain ⟨hP, hD, hS0, hok, hag, -⟩ := hR
  obtain ⟨f1, f2, hK, hC, -⟩ := hF
  unfold eg_is at hx
  split at hx
  · rename_i kk fs hat
    have hkx : kk = x := by simpa using hx
    subst hkx
    by_cases hlo : b < eg_NC
    · rw [eg_at_lo hlo] at hat
      rw [hag b hlo]
      rcases eg_con_obj hat with ⟨rfl, h36⟩ | ⟨rfl, h1, h2⟩ | ⟨rfl, -⟩
      · exact va_Orecv (hC.2.2.2.2.2.1 b h36) hS0
      · have h9 := hC.2.2.2.2.2.2.1 (b - 36) (by omega)
        rw [show 36 + (b - 36) = b by omega] at h9
        exact va_Orecv h9 hS0
      · omega
    · have hhi := Nat.le_of_not_lt hlo
      rw [eg_at_hi hhi] at hat
      have hw := eg_ws_at (ad := ad) (dA := dA) hhi hb
      rw [hat] at hw
      obtain ⟨q, hq, -⟩ := hP _ _ hw
      have h9 := va_recv hK hP hq hw
      obtain ⟨e1, e2⟩ := eg_cl_get hq
      have e3 : eg_cn2 kk = q.1 := by
        unfold eg_cn2
        rw [if_pos e2, e1]
      rw [e3]
      exact h9
  · cases hx
theorem eg_pc_at {ad : Nat → Nat} {H : Heap} {locs : List Loc} {as : List Value} (hF : eg_F s b0 D dA adc) (hR : eg_Rel s b0 D dA adc n0 ad0 ad G H locs) (hv : ∀ v ∈ as, eg_okv G.2 v) : ∀ U : State, U.heap = H → s.WarmedH U.vm → eg_Pc b0 D dA adc as ad G (as.map (eg_v ad)).toArray U := by
  intro U hU hW
  obtain ⟨hP, hD, hS0, hok, hag, -⟩ := hR
  subst hU
  exact ⟨rfl, hF.go hW hS0, hP, hD, hok, hag, hv⟩
set_option maxRecDepth 20000 in
theorem eg_cw0 {d' mi cN sN : Nat} (hB : eg_B p s m meth c R k (d' + 1) mc ms) (hF : eg_F s b0 D dA adc) (hm : mi < 316) :
    (eg_rm d' cN sN).cells = cN ∧ (eg_rm d' cN sN).slots = sN ∧ (eg_rm d' cN sN).frames + 1 ≤ R.frames ∧ 8 + (eg_mL mi + 11) + (eg_rm d' cN sN).locals ≤ R.locals ∧ (∀ w ∈ [eg_yw (eg_me mi)], ∀ (a' : Array Value) (U : State), s.WarmedH U.vm → w.before a' U = true) := by
  obtain ⟨-, -, -, h15, -⟩ := eg_mok_at hm
  obtain ⟨-, -, -, -, -, -, -, -, -, -, hf, hl⟩ := hB
  refine ⟨rfl, rfl, ?_, ?_, fun w hw a' U hW => ?_⟩
  · show d' + 12 + 1 ≤ R.frames
    omega
  · show 8 + (eg_mL mi + 11) + (48 * d' + 300) ≤ R.locals
    have key : ∀ z a : Nat, z ≤ 15 → 8 + (z + 11) + (48 * a + 300) ≤ 48 * (a + 1) + 300 := by
      intro z a h
      omega
    exact Nat.le_trans (key _ _ h15) hl
  · rw [List.mem_singleton.mp hw]
    exact eg_kp_go eg_kp_W hW hF.1 _ (eg_yw_in hm)
theorem eg_yw_code {mi : Nat} (hm : mi < 316) (hh : eg_mh mi = none) : eg_yw (eg_me mi) = .code (eg_mn mi) (eg_mb mi) (eg_mL mi) (eg_mr mi) := by
  unfold eg_mh at hh
  unfold eg_yw eg_mn eg_mb eg_mL eg_mr
  rw [eg_mi_k hm] at hh ⊢
  rw [hh]
theorem eg_yw_codeW {mi : Nat} {h1 : List (Nat × Nat × Nat × Nat)} (hm : mi < 316) (hh : eg_mh mi = some h1) : eg_yw (eg_me mi) = .codeWith (eg_mn mi) (eg_mb mi) (eg_mL mi) (eg_mr mi) h1 := by
  unfold eg_mh at hh
  unfold eg_yw eg_mn eg_mb eg_mL eg_mr
  rw [eg_mi_k hm] at hh ⊢
  rw [hh]
theorem eg_mcat {ad : Nat → Nat} {rr : List Value} (h : eg_cat rr ≤ 8) : 2 * (F0 m 0 #[] []).monitorRoom + ((rr.map (eg_v ad)).map fun v => v.category).sum ≤ 8 := by
  have hcat2 : ((rr.map (eg_v ad)).map fun v => v.category).sum = eg_cat rr := by
    rw [List.map_map]
    exact congrArg List.sum (List.map_congr_left (fun v _ => eg_vcat ad v))
  rw [hcat2]
  have h9 : 2 * (F0 m 0 #[] []).monitorRoom = 0 := rfl
  rw [h9, Nat.zero_add]
  exact h
theorem eg_iv_J {rec : eg_Rec} (hrec : eg_Sd rec) (hle : eg_le rec) {pc t i len : Nat} {ins : Instr} (H : eg_H p l e R s m args below meth c Q b0 D dA adc n0 ad0 scr d k mc ms r G' ck' sk') (hcd : eg_cd k pc = some (ins, len)) (hik : eg_ik ins = some (t, i)) (hiv : eg_iv rec scr d k pc t i L st G ck sk = some (r, G', ck', sk')) : eg_J p l e R s m args below meth c Q b0 D dA adc n0 ad0 pc L st G ck sk := by
  obtain ⟨hd0, hlo⟩ := eg_cd_dec hcd
  have H0 := H
  obtain ⟨hB, hF, hlf, hsc, hck, hsk, k1, k2, k3⟩ := H
  have hB0 := hB
  obtain ⟨hx, hb, hml, hown, hlocks, hr, hini, htab, hRc, hRs, hRf, hRl⟩ := hB
  have hWa : ∀ w ∈ eg_W, w.before args s = true := eg_kp_s eg_kp_W hF.1
  have hfix : CallFix p m c (eg_mb k) (eg_mL k) s args [] (eg_on (eg_mo k)) := ⟨hx, hb, hml, hown, fun _ h => nomatch h⟩
  unfold eg_iv at hiv
  split at hiv
  · cases hiv
  · rename_i mi kd host hlk
    have he := eg_lk hlk
    have htok := eg_tok_at he
    have hws := eg_w5 he
    split at hiv
    · have hins : ins = .invokestatic i := by
        unfold eg_ik at hik
        split at hik <;> cases hik
        rfl
      subst hins
      have hl' : len = 3 := by simpa [eg_lok] using hlo
      subst hl'
      split at hiv
      · rename_i hmath
        obtain ⟨rfl, hm1, hm2⟩ := hmath
        have w1 := hWa _ (hws (.methodLink (eg_on (eg_mo k)) i (eg_me mi).1.1) (by simp [eg_mw]))
        have w2 := hWa _ (hws (.static (eg_me mi).1.1) (by simp [eg_mw]))
        have w3 := hWa _ (hws (.initialized (eg_me mi).1.1.cls) (by simp [eg_mw]))
        have hyin := hWa _ (eg_yw_in (k := mi) (by omega))
        split at hiv
        · rename_i v rr hmt
          split at hiv
          · rename_i hc
            obtain ⟨hc8, hLl⟩ := hc
            have hcnt := hle _ _ _ _ _ _ _ _ _ _ _ _ _ hiv
            have hJ := hrec _ _ _ _ _ _ _ _ _ _ _ _ _ hiv H0
            intro ad Hh locs ls hR hL hS
            have hsz : c.maxLocals = ls.size := by rw [hL.1.1, hLl]; exact hml
            have hcat := eg_mcat (m := m) (ad := ad) hc8
            have hcat : ((rr.map (eg_v ad)).map fun v => v.category).sum ≤ 8 := by
              have h9 : 2 * (F0 m 0 #[] []).monitorRoom = 0 := rfl
              omega
            unfold eg_mt at hmt
            split at hmt
            · cases hmt
              exact va_mabs hx hb hsz hown w1 w2 w3 hyin (by omega) (by omega) (by omega) (by omega) hd0 (hJ ad Hh locs ls hR hL (List.forall_mem_cons.mpr ⟨eg_oki, fun v hv => hS v (List.mem_cons_of_mem _ hv)⟩))
            · cases hmt
              exact va_mmax hx hb hsz hown w1 w2 w3 hyin (by omega) (by omega) (by omega) (by omega) hd0 (hJ ad Hh locs ls hR hL (List.forall_mem_cons.mpr ⟨eg_oki, fun v hv => hS v (List.mem_cons_of_mem _ (List.mem_cons_of_mem _ hv))⟩))
            · cases hmt
              exact va_mmin hx hb hsz hown w1 w2 w3 hyin (by omega) (by omega) (by omega) (by omega) hd0 (hJ ad Hh locs ls hR hL (List.forall_mem_cons.mpr ⟨eg_oki, fun v hv => hS v (List.mem_cons_of_mem _ (List.mem_cons_of_mem _ hv))⟩))
            · cases hmt
              exact va_mmin_long hx hb hsz hown w1 w2 w3 hyin (by omega) (by omega) (by omega) (by omega) hd0 (hJ ad Hh locs ls hR hL (List.forall_mem_cons.mpr ⟨eg_okl, fun v hv => hS v (List.mem_cons_of_mem _ (List.mem_cons_of_mem _ hv))⟩))
            · cases hmt
              exact va_mmax_long hx hb hsz hown w1 w2 w3 hyin (by omega) (by omega) (by omega) (by omega) hd0 (hJ ad Hh locs ls hR hL (List.forall_mem_cons.mpr ⟨eg_okl, fun v hv => hS v (List.mem_cons_of_mem _ (List.mem_cons_of_mem _ hv))⟩))
            · cases hmt
          · cases hiv
        · cases hiv
      split at hiv
      · rename_i hkd
        obtain ⟨hkd, hna⟩ := hkd
        refine eg_cl1_J hrec hle H0 hiv (fun v hv => List.mem_of_mem_drop hv) (fun d' cN sN q1 G1 hdd hmi hcN hsN hc8 ad Hh locs ls hR hsz hS hM => ?_)
        subst hdd
        obtain ⟨g1, g2, g3, g4, g5⟩ := eg_cw0 (cN := cN) (sN := sN) hB0 hF hmi
        obtain ⟨m1, m2, m3, m4, m5⟩ := eg_mok_at hmi
        have hst : st.map (eg_v ad) = (((st.take (eg_ma mi)).reverse).map (eg_v ad)).reverse ++ (st.drop (eg_ma mi)).map (eg_v ad) := by
          rw [List.map_reverse, List.reverse_reverse, ← List.map_append, List.take_append_drop]
        have hlenn : (((st.take (eg_ma mi)).reverse).map (eg_v ad)).length = eg_ma mi := by
          simp
          omega
        have hpre : PreS s Hh (eg_Pc b0 D dA adc (st.take (eg_ma mi)).reverse ad G) (((st.take (eg_ma mi)).reverse).map (eg_v ad)) := ⟨eg_Pc_blind, eg_pc_at hF hR (fun v hv => hS v (List.mem_of_mem_take (List.mem_reverse.mp hv)))⟩
        have hyin := hWa _ (eg_yw_in hmi)
        have hym : eg_mn mi = (eg_me mi).1.1 := by unfold eg_mn; rw [eg_mi_k hmi]
        rcases hkd with rfl | rfl
        · have w1 := hWa _ (hws (.methodLink (eg_on (eg_mo k)) i (eg_me mi).1.1) (by simp [eg_mw]))
          have w2 := hWa _ (hws (.static (eg_me mi).1.1) (by simp [eg_mw]))
          have w3 := hWa _ (hws (.initialized (eg_me mi).1.1.cls) (by simp [eg_mw]))
          rw [← hym] at w1 w2 w3
          cases hh : eg_mh mi with
          | none =>
            have hyc := eg_yw_code hmi hh
            rw [hyc] at hM hyin g5
            exact vx_runS hfix hM ⟨⟨g1, g2, g3, g4, g5, List.mem_singleton.mpr rfl, hyin, w3, m2, m3, w1⟩, w2⟩ hpre rfl hlenn (hsz.trans hml) hst (eg_mcat (m := m) hc8) hd0 ⟨by rw [hRc]; exact hcN, by rw [hRs]; exact hsN⟩
          | some h1 =>
            have hyc := eg_yw_codeW hmi hh
            rw [hyc] at hM hyin g5
            exact vx_runSX (hh := h1) hfix hM ⟨⟨g1, g2, g3, g4, g5, List.mem_singleton.mpr rfl⟩, hyin, w3, m2, m3, w1, w2⟩ hpre rfl hlenn (hsz.trans hml) hst (eg_mcat (m := m) hc8) hd0 ⟨by rw [hRc]; exact hcN, by rw [hRs]; exact hsN⟩
        · have hh : eg_mh mi = none := by
            unfold eg_mh
            rw [eg_mi_k hmi]
            exact eg_tok_0 htok (by simp) (by simp)
          have w1 := hWa _ (hws (.methodLinkNest (eg_on (eg_mo k)) i (eg_me mi).1.1 (host.getD "")) (by simp [eg_mw]))
          have w2 := hWa _ (hws (.static (eg_me mi).1.1) (by simp [eg_mw]))
          have w3 := hWa _ (hws (.initialized (eg_me mi).1.1.cls) (by simp [eg_mw]))
          rw [← hym] at w1 w2 w3
          have hyc := eg_yw_code hmi hh
          rw [hyc] at hM hyin g5
          exact vx_runSN hfix hM ⟨⟨⟨g1, g2, g3, g4, g5, List.mem_singleton.mpr rfl⟩, hyin, w3, m2, m3, w1⟩, w2, trivial⟩ hpre rfl hlenn (hsz.trans hml) hst (eg_mcat (m := m) hc8) hd0 ⟨by rw [hRc]; exact hcN, by rw [hRs]; exact hsN⟩
      · cases hiv
    · have hins : ins = .invokevirtual i := by
        unfold eg_ik at hik
        split at hik <;> cases hik
        rfl
      subst hins
      have hl' : len = 3 := by simpa [eg_lok] using hlo
      subst hl'
      split at hiv
      · rename_i b rr hdrop
        split at hiv
        · rename_i hkd
          obtain ⟨hkd, hbG, his⟩ := hkd
          have hstl : st = st.take (eg_ma mi) ++ .ref b :: rr := by rw [← hdrop, List.take_append_drop]
          have hlt : eg_ma mi < st.length := by
            have := congrArg List.length hdrop
            simp at this
            omega
          refine eg_cl1_J hrec hle H0 hiv (fun v hv => by rw [hstl]; exact List.mem_append_right _ (List.mem_cons_of_mem _ hv)) (fun d' cN sN q1 G1 hdd hmi hcN hsN hc8 ad Hh locs ls hR hsz hS hM => ?_)
          subst hdd
          obtain ⟨g1, g2, g3, g4, g5⟩ := eg_cw0 (cN := cN) (sN := sN) hB0 hF hmi
          obtain ⟨m1, m2, m3, m4, m5⟩ := eg_mok_at hmi
          have hst : st.map (eg_v ad) = (((st.take (eg_ma mi)).reverse).map (eg_v ad)).reverse ++ .ref (ad b) :: rr.map (eg_v ad) := by
            rw [List.map_reverse, List.reverse_reverse]
            conv => lhs; rw [hstl]
            rw [List.map_append]
            rfl
          have hlenn : (((st.take (eg_ma mi)).reverse).map (eg_v ad)).length = eg_ma mi := by
            simp
            omega
          have hall : ∀ v ∈ (Value.ref b :: (st.take (eg_ma mi)).reverse), eg_okv G.2 v := fun v hv => by
            rcases List.mem_cons.mp hv with rfl | hv
            · exact eg_okr hbG
            · exact hS v (List.mem_of_mem_take (List.mem_reverse.mp hv))
          have hyin := hWa _ (eg_yw_in hmi)
          have hym : eg_mn mi = (eg_me mi).1.1 := by unfold eg_mn; rw [eg_mi_k hmi]
          have hh : eg_mh mi = none := by
            unfold eg_mh
            rw [eg_mi_k hmi]
            rcases hkd with rfl | rfl | rfl <;> exact eg_tok_0 htok (by simp) (by simp)
          have h14 : eg_oc kd mi < 14 := (eg_tok_1 htok hkd).1
          have hyc := eg_yw_code hmi hh
          rw [hyc] at hM hyin g5
          have hrv := eg_recv hF hR hbG his h14
          rcases hkd with rfl | rfl | rfl
          · have hcls : eg_cn2 (eg_oc 1 mi) = (eg_mn mi).cls := by
              rw [hym]
              exact (eg_tok_1 htok (by simp)).2.resolve_left (by simp)
            rw [hcls] at hrv
            have hpre : PreV s Hh (eg_mn mi).cls (ad b) (eg_Pc b0 D dA adc (.ref b :: (st.take (eg_ma mi)).reverse) ad G) (((st.take (eg_ma mi)).reverse).map (eg_v ad)) := ⟨eg_Pc_blind, hrv, eg_pc_at hF hR hall⟩
            have w1 := hWa _ (hws (.methodLink (eg_on (eg_mo k)) i (eg_me mi).1.1) (by simp [eg_mw]))
            have w2 := hWa _ (hws (.instanceMethod (eg_me mi).1.1) (by simp [eg_mw]))
            have w3 := hWa _ (hws (.initialized (eg_me mi).1.1.cls) (by simp [eg_mw]))
            have w4 := hWa _ (hws (.selects (eg_me mi).1.1.cls (eg_me mi).1.1 (eg_me mi).1.1) (by simp [eg_mw]))
            rw [← hym] at w1 w2 w3 w4
            exact vx_runV hfix hM ⟨⟨g1, g2, g3, g4, g5, List.mem_singleton.mpr rfl, hyin, w3, m2, m3, w1⟩, w2, w4⟩ hpre rfl hlenn (hsz.trans hml) hst (eg_mcat (m := m) hc8) hd0 ⟨by rw [hRc]; exact hcN, by rw [hRs]; exact hsN⟩
          · have hcls : eg_cn2 (eg_oc 4 mi) = (eg_mn mi).cls := by
              rw [hym]
              exact (eg_tok_1 htok (by simp)).2.resolve_left (by simp)
            rw [hcls] at hrv
            have hpre : PreV s Hh (eg_mn mi).cls (ad b) (eg_Pc b0 D dA adc (.ref b :: (st.take (eg_ma mi)).reverse) ad G) (((st.take (eg_ma mi)).reverse).map (eg_v ad)) := ⟨eg_Pc_blind, hrv, eg_pc_at hF hR hall⟩
            have w1 := hWa _ (hws (.methodLinkNest (eg_on (eg_mo k)) i (eg_me mi).1.1 (host.getD "")) (by simp [eg_mw]))
            have w2 := hWa _ (hws (.instanceMethod (eg_me mi).1.1) (by simp [eg_mw]))
            have w3 := hWa _ (hws (.initialized (eg_me mi).1.1.cls) (by simp [eg_mw]))
            have w4 := hWa _ (hws (.selects (eg_me mi).1.1.cls (eg_me mi).1.1 (eg_me mi).1.1) (by simp [eg_mw]))
            rw [← hym] at w1 w2 w3 w4
            exact vx_runVN hfix hM ⟨⟨⟨g1, g2, g3, g4, g5, List.mem_singleton.mpr rfl⟩, hyin, w3, m2, m3, w1⟩, w2, w4⟩ hpre rfl hlenn (hsz.trans hml) hst (eg_mcat (m := m) hc8) hd0 ⟨by rw [hRc]; exact hcN, by rw [hRs]; exact hsN⟩
          · have hyn : eg_mn mi = ⟨"java/lang/Enum", "ordinal", "()I"⟩ := by
              rw [hym]
              exact eg_tok_7 htok rfl
            have hpre : PreV s Hh "KnobEye$Word" (ad b) (eg_Pc b0 D dA adc (.ref b :: (st.take (eg_ma mi)).reverse) ad G) (((st.take (eg_ma mi)).reverse).map (eg_v ad)) := ⟨eg_Pc_blind, hrv, eg_pc_at hF hR hall⟩
            have w1 := hWa _ (hws (.methodLink (eg_on (eg_mo k)) i ⟨"KnobEye$Word", "ordinal", "()I"⟩) (by simp [eg_mw]))
            have w2 := hWa _ (hws (.instanceMethod (eg_me mi).1.1) (by simp [eg_mw]))
            have w3 := hWa _ (hws (.initialized (eg_me mi).1.1.cls) (by simp [eg_mw]))
            have w4 := hWa _ (hws (.selects "KnobEye$Word" ⟨"KnobEye$Word", "ordinal", "()I"⟩ (eg_me mi).1.1) (by simp [eg_mw]))
            have w5 := hWa _ (hws (.sameMethod "KnobEye$Word" "java/lang/Enum" "ordinal" "()I") (by simp [eg_mw]))
            rw [← hym] at w2 w3 w4
            have hdcl : va_Decl s ⟨"java/lang/Enum", "ordinal", "()I"⟩ := by
              rw [← hyn]
              exact va_Decl.of w2 hyin
            exact vx_runU (C := "KnobEye$Word") (owner := "java/lang/Enum") (x := ⟨"KnobEye$Word", "ordinal", "()I"⟩) hfix hM ⟨⟨g1, g2, g3, g4, g5, List.mem_singleton.mpr rfl⟩, hyin, w3, ⟨by decide, by decide⟩, fun sig hs => m3 sig (by rw [hyn]; exact hs), w1, w5, hdcl, w4, w2⟩ hpre rfl hlenn (hsz.trans hml) hst (eg_mcat (m := m) hc8) hd0 ⟨by rw [hRc]; exact hcN, by rw [hRs]; exact hsN⟩
        · cases hiv
      · cases hiv
    · rename_i hn0 hn1
      have hins : ins = .invokespecial i := by
        unfold eg_ik at hik
        split at hik <;> cases hik
        · exact absurd rfl hn0
        · exact absurd rfl hn1
        · rfl
      subst hins
      have hl' : len = 3 := by simpa [eg_lok] using hlo
      subst hl'
      split at hiv
      · rename_i hkd
        subst hkd
        split at hiv
        · rename_i a rr
          split at hiv
          · rename_i hc
            obtain ⟨hc8, hLl⟩ := hc
            have w1 := hWa _ (hws (.methodLink (eg_on (eg_mo k)) i objectInit) (by simp [eg_mw]))
            have w2 := hWa _ (hws (.instanceMethod objectInit) (by simp [eg_mw]))
            have w3 := hWa _ (hws (.code objectInit ⟨#[0xb1]⟩ 1 none) (by simp [eg_mw]))
            intro ad Hh locs ls hR hL hS
            have h9 := hrec scr d k (pc + 3) L rr G ck sk r G' ck' sk' hiv H0 ad Hh locs ls hR hL (fun v hv => hS v (List.mem_cons_of_mem _ hv))
            have hcat := eg_mcat (m := m) (ad := ad) hc8
            exact W.objInit (g := F0 m pc ls ((Value.ref a :: rr).map (eg_v ad))) hx hb hown w1 w2 w3 rfl (by rw [hml]; exact hL.1.1.trans hLl) rfl hd0 (by omega) (by
              have : 2 * (F0 m pc ls ((Value.ref a :: rr).map (eg_v ad))).monitorRoom + ((rr.map (eg_v ad)).map fun v => v.category).sum ≤ 8 := hcat
              omega) h9
          · cases hiv
        · cases hiv
      · rename_i hk6
        split at hiv
        · rename_i b rr hdrop
          split at hiv
          · rename_i hkd
            have hstl : st = st.take (eg_ma mi) ++ .ref b :: rr := by rw [← hdrop, List.take_append_drop]
            have hlt : eg_ma mi < st.length := by
              have := congrArg List.length hdrop
              simp at this
              omega
            refine eg_cl1_J hrec hle H0 hiv (fun v hv => by rw [hstl]; exact List.mem_append_right _ (List.mem_cons_of_mem _ hv)) (fun d' cN sN q1 G1 hdd hmi hcN hsN hc8 ad Hh locs ls hR hsz hS hM => ?_)
            subst hdd
            obtain ⟨g1, g2, g3, g4, g5⟩ := eg_cw0 (cN := cN) (sN := sN) hB0 hF hmi
            obtain ⟨m1, m2, m3, m4, m5⟩ := eg_mok_at hmi
            have hst : st.map (eg_v ad) = (((st.take (eg_ma mi)).reverse).map (eg_v ad)).reverse ++ .ref (ad b) :: rr.map (eg_v ad) := by
              rw [List.map_reverse, List.reverse_reverse]
              conv => lhs; rw [hstl]
              rw [List.map_append]
              rfl
            have hlenn : (((st.take (eg_ma mi)).reverse).map (eg_v ad)).length = eg_ma mi := by
              simp
              omega
            have hbG : b < G.2 := hS (.ref b) (by rw [hstl]; exact List.mem_append_right _ List.mem_cons_self) b rfl
            have hall : ∀ v ∈ (Value.ref b :: (st.take (eg_ma mi)).reverse), eg_okv G.2 v := fun v hv => by
              rcases List.mem_cons.mp hv with rfl | hv
              · exact eg_okr hbG
              · exact hS v (List.mem_of_mem_take (List.mem_reverse.mp hv))
            have hyin := hWa _ (eg_yw_in hmi)
            have hym : eg_mn mi = (eg_me mi).1.1 := by unfold eg_mn; rw [eg_mi_k hmi]
            have hh : eg_mh mi = none := by
              unfold eg_mh
              rw [eg_mi_k hmi]
              rcases hkd with rfl | rfl <;> exact eg_tok_0 htok (by simp) (by simp)
            have hnm : (eg_mn mi).name = "<init>" ∧ eg_mr mi = none := by
              rw [hym]
              unfold eg_mr
              rw [eg_mi_k hmi]
              exact eg_tok_2 htok hkd
            have hyc := eg_yw_code hmi hh
            rw [hnm.2] at hyc
            rw [hyc] at hM hyin g5
            have hpre : PreS s Hh (eg_Pc b0 D dA adc (.ref b :: (st.take (eg_ma mi)).reverse) ad G) (.ref (ad b) :: ((st.take (eg_ma mi)).reverse).map (eg_v ad)) := ⟨eg_Pc_blind, eg_pc_at hF hR hall⟩
            have w2 := hWa _ (hws (.instanceMethod (eg_me mi).1.1) (by rcases hkd with rfl | rfl <;> simp [eg_mw]))
            have w3 := hWa _ (hws (.initialized (eg_me mi).1.1.cls) (by rcases hkd with rfl | rfl <;> simp [eg_mw]))
            rw [← hym] at w2 w3
            rcases hkd with rfl | rfl
            · have w1 := hWa _ (hws (.methodLink (eg_on (eg_mo k)) i (eg_me mi).1.1) (by simp [eg_mw]))
              rw [← hym] at w1
              exact vx_runI hfix hM ⟨⟨g1, g2, g3, g4, g5, List.mem_singleton.mpr rfl, hyin, w3, m2, m3, w1⟩, hnm.1, w2⟩ hpre rfl hlenn (hsz.trans hml) hst (eg_mcat (m := m) hc8) hd0 ⟨by rw [hRc]; exact hcN, by rw [hRs]; exact hsN⟩
            · have w1 := hWa _ (hws (.methodLinkNest (eg_on (eg_mo k)) i (eg_me mi).1.1 (host.getD "")) (by simp [eg_mw]))
              rw [← hym] at w1
              exact vx_runIN hfix hM ⟨⟨⟨g1, g2, g3, g4, g5, List.mem_singleton.mpr rfl⟩, hyin, w3, m2, m3, w1⟩, hnm.1, w2⟩ hpre rfl hlenn (hsz.trans hml) hst (eg_mcat (m := m) hc8) hd0 ⟨by rw [hRc]; exact hcN, by rw [hRs]; exact hsN⟩
          · cases hiv
        · cases hiv
end In
theorem eg_one_S {rec : eg_Rec} (hrec : eg_Sd rec) (hle : eg_le rec) (hnl : nu_P rec) : eg_Sd (eg_one rec) := by
  intro scr d k pc L st G ck sk r G' ck' sk' h p l e R s m args below meth c Q b0 D dA adc n0 ad0 mc ms H
  unfold eg_one at h
  split at h
  · cases h
  · rename_i ins len hcd
    split at h
    · rename_i v hv
      cases h
      intro ad Hh locs ls hR hL hS
      exact H.2.2.2.2.2.2.1 ad Hh locs ls pc ins len st v hcd hv rfl hR hS
    · split at h
      · rename_i hsc
        exact eg_sc_J H hcd hsc (hrec _ _ _ _ _ _ _ _ _ _ _ _ _ h H)
      · split at h
        · rename_i q hq
          split at h
          · rename_i hc
            cases h
            intro ad Hh locs ls hR hL hS
            exact H.2.2.2.2.2.2.2.2 ad Hh locs ls pc ins len st q ck sk hcd hq rfl hR (by rw [hL.1.1, hc.2]; exact H.1.2.2.1.symm) hc.1 rfl rfl
          · cases h
        · split at h
          · rename_i t i hik
            exact eg_iv_J hrec hle H hcd hik h
          · unfold eg_nx at h
            split at h
            · rename_i hst
              have hJ := hrec _ _ _ _ _ _ _ _ _ _ _ _ _ h H
              obtain ⟨hd, hlo⟩ := eg_cd_dec hcd
              obtain ⟨b1, b2⟩ := hle _ _ _ _ _ _ _ _ _ _ _ _ _ h
              exact eg_step (eg_H_X H) hd hlo ((eg_st_up hst).2 mc ms (Nat.le_trans b1 H.2.2.2.2.1) (Nat.le_trans b2 H.2.2.2.2.2.1)) hJ (fun h151 => by
                obtain ⟨rfl, rfl⟩ := nu_site hcd h151
                have e0 : eg_cd 298 2 = some (.getstatic 1053, 3) := by decide +kernel
                rw [e0] at hcd
                cases hcd
                have e1 : eg_st (eg_mo 298) (eg_in 298) eg_MC eg_MS 2 3 (.getstatic 1053) L st G ck sk = some (5, L, .ref 151 :: st, G, ck, sk) := by
                  show (match (eg_sT.getD (eg_mo 298) []).lookup 1053 with
                    | some (k, _) => (match eg_sv[k]? with
                      | some (_, _, _, v) => some (2 + 3, L, v :: st, G, ck, sk)
                      | none => none)
                    | none => none) = _
                  rw [show (eg_sT.getD (eg_mo 298) []).lookup 1053 = some (23, none) from by decide +kernel]
                  dsimp only
                  rw [show eg_sv[23]? = some ("jdk/internal/util/Preconditions", "SIOOBE_FORMATTER", "Ljava/util/function/BiFunction;", Value.ref 151) from by decide +kernel]
                rw [e1] at hst
                cases hst
                exact hrec _ _ _ _ _ _ _ _ _ _ _ _ _ (hnl _ _ _ _ _ _ _ _ h) H)
            · cases h
theorem eg_sound : ∀ f : Nat, eg_Sd (eg_rn f)
  | 0 => fun _ _ _ _ _ _ _ _ _ _ _ _ _ h => nomatch h
  | f + 1 => eg_one_S (eg_sound f) (eg_rn_le f) (eg_rn_nl f)
end EGV
end
section
/-! THE REFERENCE's TEXTS, compiled: what a step does to how many values there are -/
def gq1 (x : Int32) (dp : Nat) : Option Nat :=
  if x.toInt ≤ 13 then (if 0 ≤ x.toInt ∧ (x.toInt ≤ 4 ∨ 10 ≤ x.toInt) then some (dp + 1) else none)
  else if x = Int32.ofNat 18 then (if 1 ≤ dp then some dp else none) else (if 2 ≤ dp then some (dp - 1) else none)
def gq (B : Nat) (W : Nat → Int32) : Nat → Nat → Nat → Option Nat
  | _, 0, dp => some dp
  | i, n + 1, dp => (gq1 (W (B + 2 * i)) dp).bind (gq B W (i + 1) n)
theorem gq_s {B : Nat} {W : Nat → Int32} {i n dp : Nat} : gq B W i (n + 1) dp = (gq1 (W (B + 2 * i)) dp).bind (gq B W (i + 1) n) := rfl
theorem gq_same {B B' : Nat} {W W' : Nat → Int32} : ∀ (n i : Nat), (∀ j, i ≤ j → j < i + n → W' (B' + 2 * j) = W (B + 2 * j)) → ∀ dp, gq B' W' i n dp = gq B W i n dp := by
  intro n
  induction n with
  | zero => exact fun _ _ _ => rfl
  | succ n ih =>
    intro i h dp
    have h1 := ih (i + 1) (fun j h1 h2 => h j (Nat.le_of_succ_le h1) (by omega))
    rw [gq_s, gq_s, h i (Nat.le_refl _) (by omega), funext h1]
def gq_L (W : Nat → Int32) (X n s : Nat) : Prop := ∃ a b : Nat, W (X + 1 + 4 * n + 2) = Int32.ofNat a ∧ W (X + 1 + 4 * n + 3) = Int32.ofNat b ∧ b ≤ s ∧ (a = b ∨ (a ≤ b ∧ ∀ dp, gq (X + 41) W a (b - a) dp = some (dp + 1)))
def gq_T (W : Nat → Int32) (X t : Nat) : Prop := ∃ l, W X = Int32.ofNat l ∧ l ≤ 10 ∧ ∀ n, (n < l ∨ (n = 0 ∧ ¬ (4 ≤ t ∧ t < 8))) → gq_L W X n 400
def gq_G (W : Nat → Int32) : Prop := ∀ t, t < 14 → gq_T W (126 + 841 * t) t
/-- a text elsewhere -/
theorem gq_L.mv {W V : Nat → Int32} {X Y n s : Nat} (h : gq_L W X n s) (hn : n < 10) (hs : s ≤ 400) (hv : ∀ i, i < 841 → V (Y + i) = W (X + i)) : gq_L V Y n s := by
  obtain ⟨a, b, h1, h2, h3, h4⟩ := h
  refine ⟨a, b, ?_, ?_, h3, ?_⟩
  · have := hv (1 + 4 * n + 2) (by omega)
    rw [show Y + (1 + 4 * n + 2) = Y + 1 + 4 * n + 2 by omega, show X + (1 + 4 * n + 2) = X + 1 + 4 * n + 2 by omega, h1] at this
    exact this
  · have := hv (1 + 4 * n + 3) (by omega)
    rw [show Y + (1 + 4 * n + 3) = Y + 1 + 4 * n + 3 by omega, show X + (1 + 4 * n + 3) = X + 1 + 4 * n + 3 by omega, h2] at this
    exact this
  · rcases h4 with h4 | ⟨h4, h5⟩
    · exact .inl h4
    · refine .inr ⟨h4, fun dp => ?_⟩
      rw [gq_same (B := X + 41) (B' := Y + 41) (W := W) (b - a) a (fun j h1 h2 => by
        have := hv (41 + 2 * j) (by omega)
        rw [show Y + (41 + 2 * j) = Y + 41 + 2 * j by omega, show X + (41 + 2 * j) = X + 41 + 2 * j by omega] at this
        exact this)]
      exact h5 dp
theorem gq_T.same {W V : Nat → Int32} {X t : Nat} (h : gq_T W X t) (hv : ∀ i, X ≤ i → i < X + 841 → V i = W i) : gq_T V X t := by
  obtain ⟨l, h1, h2, h3⟩ := h
  exact ⟨l, (hv _ (Nat.le_refl _) (by omega)).trans h1, h2, fun n hn => (h3 n hn).mv (by omega) (Nat.le_refl _) (fun i hi => hv _ (by omega) (by omega))⟩
theorem gq_G.lo {W V : Nat → Int32} (h : gq_G W) (hX : ∀ i, 126 ≤ i → i < 11900 → V i = W i) : gq_G V := fun t ht => (h t ht).same (fun i h1 h2 => hX i (by omega) (by omega))
end
section
/-! THE TYPED HEAP. A spec: an int with ends | a long with ends | a reference (0: not null, 1: null too, 2: null), to a type.
A type: a class and its fields' specs | an array: kind, length, specs for ranges of its places. Types 0 and 1: words, texts (constants). -/
abbrev et_P : Type := (Int × Int) ⊕ ((Int × Int) ⊕ (Nat × Nat))
abbrev et_D : Type := (Nat × List et_P) ⊕ (Nat × Nat × List (Nat × Nat × et_P))
abbrev et_K : Type := Nat → Option Nat
def et_v (K : et_K) (p : et_P) (v : Value) : Prop := match p with
  | .inl (lo, hi) => ∃ x, v = .int x ∧ lo ≤ x.toInt ∧ x.toInt ≤ hi
  | .inr (.inl (lo, hi)) => ∃ x, v = .long x ∧ lo ≤ x.toInt ∧ x.toInt ≤ hi
  | .inr (.inr (nl, t)) => (0 < nl ∧ v = .null) ∨ (nl < 2 ∧ ∃ a, v = .ref a ∧ K a = some t)
def et_pl (c : eg_C) (i : Nat) : Option Value := match c with
  | .inr (_, fs) => fs[i]?
  | .inl (t, x) => if i < x.1 then eg_rd t x i else none
/-- a field that nobody reads -/
def et_sk (p : et_P) : Bool := match p with
  | .inr (.inr (nl, _)) => decide (nl = 9)
  | _ => false
def et_c (K : et_K) (d : et_D) (c : eg_C) : Prop := match d with
  | .inl (ci, ps) => ∃ fs, c = .inr (ci, fs) ∧ fs.length = ps.length ∧ ∀ (k : Nat) (p : et_P), ps[k]? = some p → ∃ v, fs[k]? = some v ∧ (et_sk p = true ∨ et_v K p v)
  | .inr (t, n, ss) => ∃ x : vp_A, c = .inl (t, x) ∧ x.1 = n ∧ (∀ i, i < n → ∃ v, eg_rd t x i = some v) ∧ ∀ s ∈ ss, ∀ i, s.1 ≤ i → i ≤ s.2.1 → i < n → ∃ v, eg_rd t x i = some v ∧ et_v K s.2.2 v
/-- what is promised of a cell beside its type: a piece of a condition points behind itself; found KNOBS are apart; the reference's texts are good -/
def et_cx (d : et_D) (a : Nat) (c : eg_C) : Prop := match d with
  | .inl (ci, _) => (ci = 4 → ∀ b, et_pl c 1 = some (.ref b) → a < b) ∧ (ci = 11 → ∀ s x y : Int32, et_pl c 29 = some (.int s) → et_pl c 25 = some (.int x) → et_pl c 26 = some (.int y) → ¬ s = 0 → ¬ x = y)
  | .inr (t, n, _) => t = 0 → (n = 12741 ∨ n = 11900) → ∀ (m : Nat) (W : Nat → Int32), c = .inl (0, (m, .inl W)) → gq_G W
/-- places that such a promise speaks of -/
def et_px (d : et_D) (i : Nat) : Bool := match d with
  | .inl (ci, _) => (decide (ci = 4) && decide (i = 1)) || (decide (ci = 11) && (decide (i = 25) || (decide (i = 26) || decide (i = 29))))
  | .inr (t, n, _) => (decide (t = 0) && decide (n = 12741 ∨ n = 11900)) && (decide (126 ≤ i) && decide (i < 11900))
def et_H (T : List et_D) (K : et_K) (G : eg_G) : Prop := eg_NC ≤ G.2 ∧ (∀ a, a < 36 → K a = some 0) ∧ ∀ a t, K a = some t → a < G.2 ∧ (t = 0 → a < 36) ∧ (2 ≤ t → eg_NC ≤ a) ∧ ∃ d, T[t]? = some d ∧ et_c K d (eg_at G a) ∧ et_cx d a (eg_at G a)
/-- which places may be written: type, from, to -/
abbrev et_M : Type := List (Nat × Nat × Nat)
def et_mm (M : et_M) (t i : Nat) : Bool := M.any (fun q => (q.1 == t) && (decide (q.2.1 ≤ i) && decide (i ≤ q.2.2)))
def et_fr (M : et_M) (K : et_K) (G G' : eg_G) : Prop := G.2 ≤ G'.2 ∧ ∀ a t, K a = some t → ∀ i, et_mm M t i = false → et_pl (eg_at G' a) i = et_pl (eg_at G a) i
def et_ex (K K' : et_K) : Prop := ∀ a t, K a = some t → K' a = some t
/-! tokens: `.float k`, `.double k`, `.retAddr k` stand for the k-th of a list -/
def et_vr (R : List Value) (v w : Value) : Prop := match v with
  | .float k => ∃ x, w = .int x ∧ R[k.toNat]? = some (.int x)
  | .double k => ∃ x, w = .long x ∧ R[k.toNat]? = some (.long x)
  | .retAddr k => (w = .null ∨ ∃ a, w = .ref a) ∧ R[k]? = some w
  | u => w = u
def et_sr (R : List Value) : List Value → List Value → Prop
  | [], c => c = []
  | a :: t, c => ∃ x r, c = x :: r ∧ et_vr R a x ∧ et_sr R t r
def et_or (R : List Value) (a b : Option Value) : Prop := match a with
  | none => True
  | some v => ∃ w, b = some w ∧ et_vr R v w
def et_lr (R : List Value) : eg_Ls → eg_Ls → Prop
  | [], c => c = []
  | a :: t, c => ∃ x r, c = x :: r ∧ et_or R a x ∧ et_lr R t r
abbrev et_N : Type := et_P × Option (Nat × Int)
def et_eo (K : et_K) (R : List Value) (E : List et_N) : Prop := R.length = E.length ∧ ∀ (k : Nat) (p : et_P) (d : Option (Nat × Int)), E[k]? = some (p, d) → ∃ v, R[k]? = some v ∧ et_v K p v ∧ ∀ j c, d = some (j, c) → ∃ x y, v = .int x ∧ R[j]? = some (.int y) ∧ x.toInt = y.toInt + c
/-- the cache: token, place, value -/
abbrev et_C : Type := List (Nat × Nat × Value)
def et_co (R : List Value) (G : eg_G) (C : et_C) : Prop := ∀ e ∈ C, ∃ a w, R[e.1]? = some (.ref a) ∧ a < G.2 ∧ et_pl (eg_at G a) e.2.1 = some w ∧ et_vr R e.2.2 w
section ETA
variable {R : List Value} {K : et_K}
theorem et_get_mono {k : Nat} {w x : Value} (h : R[k]? = some w) : (R ++ [x])[k]? = some w := by
  rw [List.getElem?_append_left (List.getElem?_eq_some_iff.mp h).1]
  exact h
theorem et_vr_mono {v w x : Value} (h : et_vr R v w) : et_vr (R ++ [x]) v w := by
  cases v
  case float k =>
    obtain ⟨y, h1, h2⟩ := h
    exact ⟨y, h1, et_get_mono h2⟩
  case double k =>
    obtain ⟨y, h1, h2⟩ := h
    exact ⟨y, h1, et_get_mono h2⟩
  case retAddr k => exact ⟨h.1, et_get_mono h.2⟩
  all_goals exact h
theorem et_sr_mono {x : Value} : ∀ {a c : List Value}, et_sr R a c → et_sr (R ++ [x]) a c
  | [], _, h => h
  | _ :: _, _, ⟨y, r, e, hv, h⟩ => ⟨y, r, e, et_vr_mono hv, et_sr_mono h⟩
theorem et_or_mono {x : Value} {a b : Option Value} (h : et_or R a b) : et_or (R ++ [x]) a b := by
  cases a with
  | none => exact trivial
  | some v =>
    obtain ⟨w, e, hw⟩ := h
    exact ⟨w, e, et_vr_mono hw⟩
theorem et_lr_mono {x : Value} : ∀ {a c : eg_Ls}, et_lr R a c → et_lr (R ++ [x]) a c
  | [], _, h => h
  | _ :: _, _, ⟨y, r, e, hv, h⟩ => ⟨y, r, e, et_or_mono hv, et_lr_mono h⟩
theorem et_co_mono {x : Value} {G : eg_G} {C : et_C} (h : et_co R G C) : et_co (R ++ [x]) G C := fun e he => by
  obtain ⟨a, w, h1, h0, h2, h3⟩ := h e he
  exact ⟨a, w, by rw [List.getElem?_append_left (List.getElem?_eq_some_iff.mp h1).1]; exact h1, h0, h2, et_vr_mono h3⟩
theorem et_v_ex {K' : et_K} (hx : et_ex K K') {p : et_P} {v : Value} (h : et_v K p v) : et_v K' p v := by
  obtain ⟨lo, hi⟩ | ⟨lo, hi⟩ | ⟨nl, t⟩ := p
  · exact h
  · exact h
  · rcases h with h | ⟨h1, a, h2, h3⟩
    · exact .inl h
    · exact .inr ⟨h1, a, h2, hx _ _ h3⟩
theorem et_eo_mono {E : List et_N} {x : Value} {p : et_P} (h : et_eo K R E) (hx : et_v K p x) : et_eo K (R ++ [x]) (E ++ [(p, none)]) := by
  refine ⟨by rw [List.length_append, List.length_append, h.1]; rfl, fun k q d hk => ?_⟩
  rw [List.getElem?_append] at hk
  split at hk
  · rename_i hlt
    obtain ⟨v, h1, h2, h3⟩ := h.2 k q d hk
    refine ⟨v, by rw [List.getElem?_append_left (by rw [h.1]; exact hlt)]; exact h1, h2, fun j c e => ?_⟩
    obtain ⟨a, b, g1, g2, g3⟩ := h3 j c e
    exact ⟨a, b, g1, by rw [List.getElem?_append_left (List.getElem?_eq_some_iff.mp g2).1]; exact g2, g3⟩
  · rename_i hge
    have e : k = E.length := by
      have h1 := (List.getElem?_eq_some_iff.mp hk).1
      simp at h1
      omega
    subst e
    rw [Nat.sub_self] at hk
    cases hk
    refine ⟨x, ?_, hx, fun _ _ h => (nomatch h)⟩
    rw [← h.1, List.getElem?_append_right (Nat.le_refl _), Nat.sub_self]
    rfl
theorem et_eo_monod {E : List et_N} {x y : Int32} {lo hi c : Int} {j : Nat} (h : et_eo K R E) (h1 : lo ≤ x.toInt) (h2 : x.toInt ≤ hi) (hj : R[j]? = some (.int y)) (hc : x.toInt = y.toInt + c) : et_eo K (R ++ [.int x]) (E ++ [(.inl (lo, hi), some (j, c))]) := by
  refine ⟨by rw [List.length_append, List.length_append, h.1]; rfl, fun k q d hk => ?_⟩
  rw [List.getElem?_append] at hk
  split at hk
  · rename_i hlt
    obtain ⟨v, h1, h2, h3⟩ := h.2 k q d hk
    refine ⟨v, by rw [List.getElem?_append_left (by rw [h.1]; exact hlt)]; exact h1, h2, fun j c e => ?_⟩
    obtain ⟨a, b, g1, g2, g3⟩ := h3 j c e
    exact ⟨a, b, g1, by rw [List.getElem?_append_left (List.getElem?_eq_some_iff.mp g2).1]; exact g2, g3⟩
  · rename_i hge
    have e : k = E.length := by
      have h1 := (List.getElem?_eq_some_iff.mp hk).1
      simp at h1
      omega
    subst e
    rw [Nat.sub_self] at hk
    cases hk
    refine ⟨.int x, ?_, ⟨x, rfl, h1, h2⟩, fun j' c' e => ?_⟩
    · rw [← h.1, List.getElem?_append_right (Nat.le_refl _), Nat.sub_self]
      rfl
    · cases e
      exact ⟨x, y, rfl, by rw [List.getElem?_append_left (List.getElem?_eq_some_iff.mp hj).1]; exact hj, hc⟩
end ETA
end
section
/-- not a token -/
def et_nf (v : Value) : Bool := match v with
  | .float _ => false
  | .double _ => false
  | .retAddr _ => false
  | _ => true
section ETB
variable {R : List Value}
theorem et_vr_nf {v : Value} (h : et_nf v = true) : et_vr R v v := by
  cases v <;> first | rfl | cases h
theorem et_vr_eq {v w : Value} (h : et_nf v = true) (r : et_vr R v w) : w = v := by
  cases v <;> first | exact r | cases h
theorem et_vr_cat {v w : Value} (r : et_vr R v w) : w.category = v.category := by
  cases v
  case float k =>
    obtain ⟨x, rfl, -⟩ := r
    rfl
  case double k =>
    obtain ⟨x, rfl, -⟩ := r
    rfl
  case retAddr k =>
    obtain ⟨rfl | ⟨a, rfl⟩, -⟩ := r
    · rfl
    · rfl
  all_goals
    have h : w = _ := r
    rw [h]
theorem et_sr_nf : ∀ {l : List Value}, l.all et_nf = true → et_sr R l l
  | [], _ => rfl
  | v :: t, h => by
    rw [List.all_cons, Bool.and_eq_true] at h
    exact ⟨v, t, rfl, et_vr_nf h.1, et_sr_nf h.2⟩
theorem et_sr_len : ∀ {a c : List Value}, et_sr R a c → c.length = a.length
  | [], _, h => by rw [show _ = [] from h]
  | _ :: _, _, ⟨_, _, e, _, h⟩ => by rw [e, List.length_cons, List.length_cons, et_sr_len h]
theorem et_sr_cat : ∀ {a c : List Value}, et_sr R a c → eg_cat c = eg_cat a
  | [], _, h => by rw [show _ = [] from h]
  | _ :: _, _, ⟨_, _, e, hv, h⟩ => by
    have h1 := et_sr_cat h
    unfold eg_cat at h1 ⊢
    rw [e, List.map_cons, List.map_cons, List.sum_cons, List.sum_cons, h1, et_vr_cat hv]
theorem et_sr_app : ∀ {a b c d : List Value}, et_sr R a c → et_sr R b d → et_sr R (a ++ b) (c ++ d)
  | [], _, _, _, h, k => by
    rw [show _ = [] from h]
    exact k
  | _ :: _, _, _, _, ⟨x, r, e, hv, h⟩, k => by
    subst e
    exact ⟨x, r ++ _, rfl, hv, et_sr_app h k⟩
theorem et_sr_take : ∀ {a c : List Value} (n : Nat), et_sr R a c → et_sr R (a.take n) (c.take n)
  | [], _, n, h => by
    rw [show _ = [] from h, List.take_nil]
    exact rfl
  | _ :: _, _, 0, _ => rfl
  | _ :: _, _, n + 1, ⟨x, r, e, hv, h⟩ => by
    subst e
    exact ⟨x, r.take n, rfl, hv, et_sr_take n h⟩
theorem et_sr_drop : ∀ {a c : List Value} (n : Nat), et_sr R a c → et_sr R (a.drop n) (c.drop n)
  | [], _, n, h => by
    rw [show _ = [] from h, List.drop_nil]
    exact rfl
  | _ :: _, _, 0, h => h
  | _ :: _, _, n + 1, ⟨x, r, e, _, h⟩ => by
    subst e
    exact et_sr_drop n h
theorem et_sr_rev : ∀ {a c : List Value}, et_sr R a c → et_sr R a.reverse c.reverse
  | [], _, h => by
    rw [show _ = [] from h]
    exact rfl
  | _ :: _, _, ⟨x, r, e, hv, h⟩ => by
    subst e
    rw [List.reverse_cons, List.reverse_cons]
    exact et_sr_app (et_sr_rev h) ⟨x, [], rfl, hv, rfl⟩
theorem et_sr_get : ∀ {a c : List Value} {k : Nat} {v : Value}, et_sr R a c → a[k]? = some v → ∃ w, c[k]? = some w ∧ et_vr R v w
  | [], _, _, _, _, h => by cases h
  | _ :: _, _, 0, _, ⟨x, r, e, hv, _⟩, hk => by
    subst e
    cases hk
    exact ⟨x, rfl, hv⟩
  | _ :: _, _, k + 1, _, ⟨x, r, e, _, h⟩, hk => by
    subst e
    exact et_sr_get (k := k) h hk
theorem et_sr_set : ∀ {a c : List Value} (k : Nat) {v w : Value}, et_sr R a c → et_vr R v w → et_sr R (a.set k v) (c.set k w)
  | [], _, _, _, _, h, _ => by
    rw [show _ = [] from h]
    exact rfl
  | _ :: _, _, 0, _, w, ⟨x, r, e, _, h⟩, hv => by
    subst e
    exact ⟨w, r, rfl, hv, h⟩
  | _ :: _, _, k + 1, _, _, ⟨x, r, e, hx, h⟩, hv => by
    subst e
    exact ⟨x, _, rfl, hx, et_sr_set k h hv⟩
theorem et_lr_len : ∀ {a c : eg_Ls}, et_lr R a c → c.length = a.length
  | [], _, h => by rw [show _ = [] from h]
  | _ :: _, _, ⟨_, _, e, _, h⟩ => by rw [e, List.length_cons, List.length_cons, et_lr_len h]
theorem et_lr_ld : ∀ {a c : eg_Ls} {i : Nat} {v : Value}, et_lr R a c → eg_ld a i = some v → ∃ w, eg_ld c i = some w ∧ et_vr R v w
  | [], _, _, _, _, h => by cases h
  | o :: _, _, 0, v, ⟨x, r, e, hv, _⟩, hk => by
    subst e
    have ho : o = some v := hk
    subst ho
    obtain ⟨w, rfl, hw⟩ := hv
    exact ⟨w, rfl, hw⟩
  | _ :: t, _, k + 1, _, ⟨x, r, e, _, h⟩, hk => by
    subst e
    exact et_lr_ld (a := t) (c := r) (i := k) h hk
theorem et_or_nl {a b : Option Value} (h : et_or R a b) : et_or R (eg_nl a) (eg_nl b) := by
  cases a with
  | none => exact trivial
  | some v =>
    obtain ⟨w, rfl, hw⟩ := h
    cases v
    case float k =>
      obtain ⟨x, rfl, hx⟩ := hw
      exact ⟨.int x, rfl, x, rfl, hx⟩
    case double k =>
      exact trivial
    case retAddr k =>
      obtain ⟨rfl | ⟨a, rfl⟩, hx⟩ := hw
      · exact ⟨_, rfl, .inl rfl, hx⟩
      · exact ⟨_, rfl, .inr ⟨a, rfl⟩, hx⟩
    all_goals
      have h1 : w = _ := hw
      rw [h1]
      first | exact trivial | exact ⟨_, rfl, rfl⟩
theorem et_lr_s1 : ∀ {a c : eg_Ls} (i : Nat) {v w : Value}, et_lr R a c → et_vr R v w → et_lr R (eg_s1 a i v) (eg_s1 c i w)
  | [], _, _, _, _, h, _ => by
    rw [show _ = [] from h]
    exact rfl
  | _ :: _, _, 0, _, w, ⟨x, r, e, _, h⟩, hv => by
    subst e
    exact ⟨some w, r, rfl, ⟨w, rfl, hv⟩, h⟩
  | _ :: _, _, 1, _, _, ⟨x, r, e, hx, h⟩, hv => by
    subst e
    exact ⟨_, _, rfl, et_or_nl hx, et_lr_s1 0 h hv⟩
  | _ :: _, _, i + 2, _, _, ⟨x, r, e, hx, h⟩, hv => by
    subst e
    exact ⟨x, _, rfl, hx, et_lr_s1 (i + 1) h hv⟩
theorem et_lr_s2 : ∀ {a c : eg_Ls} (i : Nat) {v w : Value}, et_lr R a c → et_vr R v w → et_lr R (eg_s2 a i v) (eg_s2 c i w)
  | [], _, _, _, _, h, _ => by
    rw [show _ = [] from h]
    exact rfl
  | [_], _, 0, _, _, ⟨x, r, e, hx, h⟩, hv => by
    subst e
    have h1 : r = [] := h
    subst h1
    exact ⟨x, [], rfl, hx, rfl⟩
  | [_], _, 1, _, _, ⟨x, r, e, hx, h⟩, hv => by
    subst e
    have h1 : r = [] := h
    subst h1
    exact ⟨x, [], rfl, hx, rfl⟩
  | [_], _, i + 2, _, _, ⟨x, r, e, hx, h⟩, hv => by
    subst e
    have h1 : r = [] := h
    subst h1
    exact ⟨x, [], rfl, hx, rfl⟩
  | _ :: _ :: _, _, 0, _, w, ⟨x, r, e, _, y, q, e2, _, h⟩, hv => by
    subst e
    subst e2
    exact ⟨some w, none :: q, rfl, ⟨w, rfl, hv⟩, none, q, rfl, trivial, h⟩
  | _ :: b :: t, _, 1, _, _, ⟨x, r, e, hx, h⟩, hv => by
    subst e
    have h0 := h
    obtain ⟨y, q, rfl, -, -⟩ := h0
    exact ⟨_, _, rfl, et_or_nl hx, et_lr_s2 (a := b :: t) 0 h hv⟩
  | _ :: b :: t, _, i + 2, _, _, ⟨x, r, e, hx, h⟩, hv => by
    subst e
    have h0 := h
    obtain ⟨y, q, rfl, -, -⟩ := h0
    exact ⟨x, _, rfl, hx, et_lr_s2 (a := b :: t) (i + 1) h hv⟩
theorem et_lr_set0 : ∀ {a c : eg_Ls} (i : Nat), et_lr R a c → et_lr R (a.set i none) (c.set i none)
  | [], _, _, h => by
    rw [show _ = [] from h]
    exact rfl
  | _ :: _, _, 0, ⟨x, r, e, _, h⟩ => by
    subst e
    exact ⟨none, r, rfl, trivial, h⟩
  | _ :: _, _, i + 1, ⟨x, r, e, hx, h⟩ => by
    subst e
    exact ⟨x, _, rfl, hx, et_lr_set0 i h⟩
theorem et_lr_sn {a c : eg_Ls} (i : Nat) (h : et_lr R a c) : et_lr R (eg_sn a i) (eg_sn c i) := et_lr_set0 i (et_lr_s1 i h rfl)
theorem et_lr_app : ∀ {a b c d : eg_Ls}, et_lr R a c → et_lr R b d → et_lr R (a ++ b) (c ++ d)
  | [], _, _, _, h, k => by
    rw [show _ = [] from h]
    exact k
  | _ :: _, _, _, _, ⟨x, r, e, hv, h⟩, k => by
    subst e
    exact ⟨x, r ++ _, rfl, hv, et_lr_app h k⟩
theorem et_lr_rep : ∀ n : Nat, et_lr R (List.replicate n none) (List.replicate n none)
  | 0 => rfl
  | n + 1 => ⟨none, List.replicate n none, rfl, trivial, et_lr_rep n⟩
theorem et_lr_en0 : ∀ {a c : List Value}, et_sr R a c → et_lr R (eg_en0 a) (eg_en0 c)
  | [], _, h => by
    rw [show _ = [] from h]
    exact rfl
  | v :: _, _, ⟨x, r, e, hv, h⟩ => by
    subst e
    unfold eg_en0
    rw [et_vr_cat hv]
    split
    · exact ⟨some x, _, rfl, ⟨x, rfl, hv⟩, none, _, rfl, trivial, et_lr_en0 h⟩
    · exact ⟨some x, _, rfl, ⟨x, rfl, hv⟩, et_lr_en0 h⟩
theorem et_lr_en {a c : List Value} (n : Nat) (h : et_sr R a c) : et_lr R (eg_en n a) (eg_en n c) := by
  unfold eg_en
  rw [et_lr_len (et_lr_en0 h)]
  exact et_lr_app (et_lr_en0 h) (et_lr_rep _)
end ETB
end
section
/-! A STEP THAT DOESN'T LOOK AT THE HEAP, on values with tokens -/
def et_Q (R : List Value) (G : eg_G) (ck sk : Nat) (x : Option eg_S) (S : eg_S) : Prop := ∃ L3 st3, x = some (S.1, L3, st3, G, ck, sk) ∧ et_lr R S.2.1 L3 ∧ et_sr R S.2.2.1 st3
def et_pu (ins : Instr) : Bool := match ins with
  | .iconst _ | .bipush _ | .sipush _ | .lconst _ | .aconst_null | .ldc _ | .ldc_w _ | .ldc2_w _ | .iload _ | .iload_n _ | .lload _ | .lload_n _ | .aload _ | .aload_n _ | .istore _ | .istore_n _ | .lstore _ | .lstore_n _ | .astore _ | .astore_n _ | .iinc _ _ => true
  | .iadd | .isub | .imul | .iand | .ior | .ixor | .ishl | .ishr | .iushr | .idiv | .irem | .ineg | .ladd | .lsub | .lmul | .land | .lor | .lshl | .lshr | .lushr | .ldiv | .lcmp | .i2l | .l2i | .i2b | .i2c | .dup | .pop | .dup2 | .goto _ | .ifCond _ _ | .if_icmp _ _ | .if_acmp _ _ | .ifnull _ | .ifnonnull _ | .tableswitch _ _ _ _ | .lookupswitch _ _ | .getstatic _ => true
  | _ => false
section ETC
variable {R : List Value} {o idx pc len ck sk ck0 sk0 i kd mc ms n : Nat} {ini : Bool} {L L2 : eg_Ls} {st st2 : List Value} {G H : eg_G} {S : eg_S}
theorem et_k0 {pc : Nat} (hL : et_lr R L L2) (hs : et_sr R st st2) : et_Q R H ck sk (some (pc, L2, st2, H, ck, sk)) (pc, L, st, G, ck0, sk0) := ⟨_, _, rfl, hL, hs⟩
theorem et_k1 {pc : Nat} {v w : Value} (hv : et_vr R v w) (hL : et_lr R L L2) (hs : et_sr R st st2) : et_Q R H ck sk (some (pc, L2, w :: st2, H, ck, sk)) (pc, L, v :: st, G, ck0, sk0) := ⟨_, _, rfl, hL, ⟨_, _, rfl, hv, hs⟩⟩
theorem et_ii {f : Int32 → Int32 → Int32} (h : eg_ii pc L st G ck0 sk0 f = some S) (hL : et_lr R L L2) (hs : et_sr R st st2) : et_Q R H ck sk (eg_ii pc L2 st2 H ck sk f) S := by
  unfold eg_ii at h
  split at h
  · cases h
    obtain ⟨_, _, rfl, rfl, _, _, rfl, rfl, hr⟩ := hs
    exact et_k1 rfl hL hr
  · cases h
theorem et_l2 {f : Int64 → Int64 → Int64} (h : eg_l2 pc L st G ck0 sk0 f = some S) (hL : et_lr R L L2) (hs : et_sr R st st2) : et_Q R H ck sk (eg_l2 pc L2 st2 H ck sk f) S := by
  unfold eg_l2 at h
  split at h
  · cases h
    obtain ⟨_, _, rfl, rfl, _, _, rfl, rfl, hr⟩ := hs
    exact et_k1 rfl hL hr
  · cases h
theorem et_ls {f : Int64 → Int32 → Int64} (h : eg_ls pc L st G ck0 sk0 f = some S) (hL : et_lr R L L2) (hs : et_sr R st st2) : et_Q R H ck sk (eg_ls pc L2 st2 H ck sk f) S := by
  unfold eg_ls at h
  split at h
  · cases h
    obtain ⟨_, _, rfl, rfl, _, _, rfl, rfl, hr⟩ := hs
    exact et_k1 rfl hL hr
  · cases h
theorem et_li (h : eg_li pc L st G ck0 sk0 i len = some S) (hL : et_lr R L L2) (hs : et_sr R st st2) : et_Q R H ck sk (eg_li pc L2 st2 H ck sk i len) S := by
  unfold eg_li at h
  split at h
  · rename_i hd
    cases h
    obtain ⟨w, e, hw⟩ := et_lr_ld hL hd
    have e1 : w = _ := hw
    subst e1
    unfold eg_li
    rw [e]
    exact et_k1 rfl hL hs
  · cases h
theorem et_ll (h : eg_ll pc L st G ck0 sk0 i len = some S) (hL : et_lr R L L2) (hs : et_sr R st st2) : et_Q R H ck sk (eg_ll pc L2 st2 H ck sk i len) S := by
  unfold eg_ll at h
  split at h
  · rename_i hd
    cases h
    obtain ⟨w, e, hw⟩ := et_lr_ld hL hd
    have e1 : w = _ := hw
    subst e1
    unfold eg_ll
    rw [e]
    exact et_k1 rfl hL hs
  · cases h
theorem et_la (h : eg_la pc L st G ck0 sk0 i len = some S) (hL : et_lr R L L2) (hs : et_sr R st st2) : et_Q R H ck sk (eg_la pc L2 st2 H ck sk i len) S := by
  unfold eg_la at h
  split at h
  · rename_i hd
    cases h
    obtain ⟨w, e, hw⟩ := et_lr_ld hL hd
    have e1 : w = _ := hw
    subst e1
    unfold eg_la
    rw [e]
    exact et_k1 rfl hL hs
  · rename_i hd
    cases h
    obtain ⟨w, e, hw⟩ := et_lr_ld hL hd
    have e1 : w = _ := hw
    subst e1
    unfold eg_la
    rw [e]
    exact et_k1 rfl hL hs
  · cases h
theorem et_si (h : eg_si pc L st G ck0 sk0 i len = some S) (hL : et_lr R L L2) (hs : et_sr R st st2) : et_Q R H ck sk (eg_si pc L2 st2 H ck sk i len) S := by
  unfold eg_si at h
  split at h
  · split at h
    · rename_i hc
      cases h
      obtain ⟨_, _, rfl, rfl, hr⟩ := hs
      unfold eg_si
      dsimp only
      rw [if_pos (by rw [et_lr_len hL]; exact hc)]
      exact et_k0 (et_lr_s1 i hL rfl) hr
    · cases h
  · cases h
theorem et_sl2 (h : eg_sl2 pc L st G ck0 sk0 i len = some S) (hL : et_lr R L L2) (hs : et_sr R st st2) : et_Q R H ck sk (eg_sl2 pc L2 st2 H ck sk i len) S := by
  unfold eg_sl2 at h
  split at h
  · split at h
    · rename_i hc
      cases h
      obtain ⟨_, _, rfl, rfl, hr⟩ := hs
      unfold eg_sl2
      dsimp only
      rw [if_pos (by rw [et_lr_len hL]; exact hc)]
      exact et_k0 (et_lr_s2 i hL rfl) hr
    · cases h
  · cases h
theorem et_sa (h : eg_sa pc L st G ck0 sk0 i len = some S) (hL : et_lr R L L2) (hs : et_sr R st st2) : et_Q R H ck sk (eg_sa pc L2 st2 H ck sk i len) S := by
  unfold eg_sa at h
  split at h
  · split at h
    · rename_i hc
      cases h
      obtain ⟨_, _, rfl, rfl, hr⟩ := hs
      unfold eg_sa
      dsimp only
      rw [if_pos (by rw [et_lr_len hL]; exact hc)]
      exact et_k0 (et_lr_s1 i hL rfl) hr
    · cases h
  · split at h
    · rename_i hc
      cases h
      obtain ⟨_, _, rfl, rfl, hr⟩ := hs
      unfold eg_sa
      dsimp only
      rw [if_pos (by rw [et_lr_len hL]; exact hc)]
      exact et_k0 (et_lr_s1 i hL rfl) hr
    · cases h
  · cases h
theorem et_kk {v : Value} (h : eg_kk kd v = true) : et_nf v = true := by
  cases v <;> first | rfl | cases h
theorem et_kst (h : eg_kst o idx len kd pc L st G ck0 sk0 = some S) (hL : et_lr R L L2) (hs : et_sr R st st2) : et_Q R H ck sk (eg_kst o idx len kd pc L2 st2 H ck sk) S := by
  unfold eg_kst at h ⊢
  split at h
  · split at h
    · rename_i v he hk
      cases h
      try rw [he]
      try dsimp only
      rw [if_pos hk]
      exact et_k1 (et_vr_nf (et_kk hk)) hL hs
    · cases h
  · cases h
theorem et_sv_nf : eg_sv.all (fun e => et_nf e.2.2.2) = true := by decide +kernel
theorem et_ca {v : Value} (h : eg_ca v = true) : et_nf v = true := by
  cases v <;> first | rfl | cases h
set_option maxHeartbeats 8000000 in
theorem et_st {ins : Instr} (h : eg_st o ini mc ms pc len ins L st G ck0 sk0 = some S) (hp : et_pu ins = true) (hL : et_lr R L L2) (hs : et_sr R st st2) : et_Q R H ck sk (eg_st o ini mc ms pc len ins L2 st2 H ck sk) S := by
  cases ins with
  | iconst n =>
    dsimp only [eg_st] at h ⊢
    cases h
    exact et_k1 rfl hL hs
  | bipush n =>
    dsimp only [eg_st] at h ⊢
    cases h
    exact et_k1 rfl hL hs
  | sipush n =>
    dsimp only [eg_st] at h ⊢
    cases h
    exact et_k1 rfl hL hs
  | lconst n =>
    dsimp only [eg_st] at h ⊢
    cases h
    exact et_k1 rfl hL hs
  | aconst_null  =>
    dsimp only [eg_st] at h ⊢
    cases h
    exact et_k1 rfl hL hs
  | ldc i => exact et_kst h hL hs
  | ldc_w i => exact et_kst h hL hs
  | ldc2_w i => exact et_kst h hL hs
  | iload i => exact et_li (len := _) h hL hs
  | iload_n i => exact et_li (len := _) h hL hs
  | lload i => exact et_ll (len := _) h hL hs
  | lload_n i => exact et_ll (len := _) h hL hs
  | aload i => exact et_la (len := _) h hL hs
  | aload_n i => exact et_la (len := _) h hL hs
  | istore i => exact et_si (len := _) h hL hs
  | istore_n i => exact et_si (len := _) h hL hs
  | lstore i => exact et_sl2 (len := _) h hL hs
  | lstore_n i => exact et_sl2 (len := _) h hL hs
  | astore i => exact et_sa (len := _) h hL hs
  | astore_n i => exact et_sa (len := _) h hL hs
  | iadd => exact et_ii h hL hs
  | isub => exact et_ii h hL hs
  | imul => exact et_ii h hL hs
  | iand => exact et_ii h hL hs
  | ior => exact et_ii h hL hs
  | ixor => exact et_ii h hL hs
  | ishl => exact et_ii h hL hs
  | ishr => exact et_ii h hL hs
  | iushr => exact et_ii h hL hs
  | ladd => exact et_l2 h hL hs
  | lsub => exact et_l2 h hL hs
  | lmul => exact et_l2 h hL hs
  | land => exact et_l2 h hL hs
  | lor => exact et_l2 h hL hs
  | lshl => exact et_ls h hL hs
  | lshr => exact et_ls h hL hs
  | lushr => exact et_ls h hL hs
  | iinc i n =>
    dsimp only [eg_st] at h ⊢
    split at h
    · rename_i hd
      split at h
      · rename_i hc
        cases h
        obtain ⟨w, e, hw⟩ := et_lr_ld hL hd
        have e1 : w = _ := hw
        subst e1
        rw [e]
        dsimp only
        rw [if_pos (by rw [et_lr_len hL]; exact hc)]
        exact et_k0 (et_lr_s1 i hL rfl) hs
      · cases h
    · cases h
  | idiv =>
    dsimp only [eg_st] at h ⊢
    split at h
    · split at h
      · cases h
      · rename_i hc
        cases h
        obtain ⟨_, _, rfl, rfl, _, _, rfl, rfl, hr⟩ := hs
        dsimp only
        rw [if_neg hc]
        exact et_k1 rfl hL hr
    · cases h
  | irem =>
    dsimp only [eg_st] at h ⊢
    split at h
    · split at h
      · cases h
      · rename_i hc
        cases h
        obtain ⟨_, _, rfl, rfl, _, _, rfl, rfl, hr⟩ := hs
        dsimp only
        rw [if_neg hc]
        exact et_k1 rfl hL hr
    · cases h
  | ldiv =>
    dsimp only [eg_st] at h ⊢
    split at h
    · split at h
      · cases h
      · rename_i hc
        cases h
        obtain ⟨_, _, rfl, rfl, _, _, rfl, rfl, hr⟩ := hs
        dsimp only
        rw [if_neg hc]
        exact et_k1 rfl hL hr
    · cases h
  | lcmp =>
    dsimp only [eg_st] at h ⊢
    split at h
    · cases h
      obtain ⟨_, _, rfl, rfl, _, _, rfl, rfl, hr⟩ := hs
      exact et_k1 rfl hL hr
    · cases h
  | ineg =>
    dsimp only [eg_st] at h ⊢
    split at h
    · cases h
      obtain ⟨_, _, rfl, rfl, hr⟩ := hs
      exact et_k1 rfl hL hr
    · cases h
  | i2l =>
    dsimp only [eg_st] at h ⊢
    split at h
    · cases h
      obtain ⟨_, _, rfl, rfl, hr⟩ := hs
      exact et_k1 rfl hL hr
    · cases h
  | l2i =>
    dsimp only [eg_st] at h ⊢
    split at h
    · cases h
      obtain ⟨_, _, rfl, rfl, hr⟩ := hs
      exact et_k1 rfl hL hr
    · cases h
  | i2b =>
    dsimp only [eg_st] at h ⊢
    split at h
    · cases h
      obtain ⟨_, _, rfl, rfl, hr⟩ := hs
      exact et_k1 rfl hL hr
    · cases h
  | i2c =>
    dsimp only [eg_st] at h ⊢
    split at h
    · cases h
      obtain ⟨_, _, rfl, rfl, hr⟩ := hs
      exact et_k1 rfl hL hr
    · cases h
  | dup =>
    dsimp only [eg_st] at h ⊢
    split at h
    · split at h
      · rename_i hc
        cases h
        obtain ⟨_, _, rfl, hv, hr⟩ := hs
        dsimp only
        rw [if_pos (by rw [et_vr_cat hv]; exact hc)]
        exact et_k1 hv hL ⟨_, _, rfl, hv, hr⟩
      · cases h
    · cases h
  | pop =>
    dsimp only [eg_st] at h ⊢
    split at h
    · split at h
      · rename_i hc
        cases h
        obtain ⟨_, _, rfl, hv, hr⟩ := hs
        dsimp only
        rw [if_pos (by rw [et_vr_cat hv]; exact hc)]
        exact et_k0 hL hr
      · cases h
    · cases h
  | dup2 =>
    dsimp only [eg_st] at h ⊢
    split at h
    · split at h
      · rename_i hc
        cases h
        obtain ⟨_, _, rfl, hv, _, _, rfl, hw, hr⟩ := hs
        dsimp only
        rw [if_pos (by rw [et_vr_cat hv, et_vr_cat hw]; exact hc)]
        exact et_k1 hv hL ⟨_, _, rfl, hw, _, _, rfl, hv, _, _, rfl, hw, hr⟩
      · cases h
    · cases h
  | goto off =>
    dsimp only [eg_st] at h ⊢
    split at h
    · rename_i hc
      cases h
      rw [if_pos hc]
      exact et_k0 hL hs
    · cases h
  | ifCond c off =>
    dsimp only [eg_st] at h ⊢
    split at h
    · split at h
      · rename_i hc
        cases h
        obtain ⟨_, _, rfl, rfl, hr⟩ := hs
        dsimp only
        rw [if_pos hc]
        exact et_k0 hL hr
      · cases h
    · cases h
  | if_icmp c off =>
    dsimp only [eg_st] at h ⊢
    split at h
    · split at h
      · rename_i hc
        cases h
        obtain ⟨_, _, rfl, rfl, _, _, rfl, rfl, hr⟩ := hs
        dsimp only
        rw [if_pos hc]
        exact et_k0 hL hr
      · cases h
    · cases h
  | if_acmp c off =>
    dsimp only [eg_st] at h ⊢
    split at h
    · split at h
      · rename_i hc
        cases h
        obtain ⟨_, _, rfl, hv, _, _, rfl, hw, hr⟩ := hs
        have e1 := et_vr_eq (et_ca hc.2.2) hv
        have e2 := et_vr_eq (et_ca hc.2.1) hw
        subst e1
        subst e2
        dsimp only
        rw [if_pos hc]
        exact et_k0 hL hr
      · cases h
    · cases h
  | ifnull off =>
    dsimp only [eg_st] at h ⊢
    split at h
    · split at h
      · rename_i hc
        cases h
        obtain ⟨_, _, rfl, rfl, hr⟩ := hs
        dsimp only
        rw [if_pos hc]
        exact et_k0 hL hr
      · cases h
    · cases h
      obtain ⟨_, _, rfl, rfl, hr⟩ := hs
      exact et_k0 hL hr
    · cases h
  | ifnonnull off =>
    dsimp only [eg_st] at h ⊢
    split at h
    · split at h
      · rename_i hc
        cases h
        obtain ⟨_, _, rfl, rfl, hr⟩ := hs
        dsimp only
        rw [if_pos hc]
        exact et_k0 hL hr
      · cases h
    · cases h
      obtain ⟨_, _, rfl, rfl, hr⟩ := hs
      exact et_k0 hL hr
    · cases h
  | tableswitch d lo hi offs =>
    dsimp only [eg_st] at h ⊢
    split at h
    · obtain ⟨_, _, rfl, rfl, hr⟩ := hs
      dsimp only
      split at h
      · rename_i hc
        rw [if_pos hc]
        split at h
        · rename_i hd
          cases h
          rw [if_pos hd]
          exact et_k0 hL hr
        · cases h
      · rename_i hc
        rw [if_neg hc]
        split at h
        · rename_i off ho
          split at h
          · rename_i hd
            cases h
            try rw [ho]
            try dsimp only
            rw [if_pos hd]
            exact et_k0 hL hr
          · cases h
        · cases h
    · cases h
  | lookupswitch d ps =>
    dsimp only [eg_st] at h ⊢
    split at h
    · obtain ⟨_, _, rfl, rfl, hr⟩ := hs
      dsimp only
      split at h
      · rename_i hd
        cases h
        rw [if_pos hd]
        exact et_k0 hL hr
      · cases h
    · cases h
  | getstatic i =>
    dsimp only [eg_st] at h ⊢
    split at h
    · rename_i k _ hk
      split at h
      · rename_i v hv
        cases h
        exact et_k1 (et_vr_nf (List.all_eq_true.mp et_sv_nf _ (List.mem_of_getElem? hv))) hL hs
      · cases h
    · cases h
  | _ => cases hp

end ETC
end
section
/-! ENDS -/
def et_mn : Int := -2147483648
def et_mx : Int := 2147483647
def et_w (lo hi : Int) : Int × Int := if et_mn ≤ lo ∧ hi ≤ et_mx then (lo, hi) else (et_mn, et_mx)
def et_mi4 (a b c d : Int) : Int := min (min a b) (min c d)
def et_ma4 (a b c d : Int) : Int := max (max a b) (max c d)
/-- the ends of what an operation on two ints answers -/
def et_bi (ins : Instr) (a b c d : Int) : Int × Int := match ins with
  | .iadd => et_w (a + c) (b + d)
  | .isub => et_w (a - d) (b - c)
  | .imul => et_w (et_mi4 (a * c) (a * d) (b * c) (b * d)) (et_ma4 (a * c) (a * d) (b * c) (b * d))
  | .iand => if 0 ≤ c then (0, d) else if 0 ≤ a then (0, b) else (et_mn, et_mx)
  | .ior => if 0 ≤ a ∧ b ≤ 1 ∧ 0 ≤ c ∧ d ≤ 1 then (0, 1) else (et_mn, et_mx)
  | .ishr => if c = d ∧ 0 ≤ c ∧ c ≤ 31 ∧ 0 ≤ a then (0, b / 2 ^ c.toNat) else if 0 ≤ a then (0, b) else (et_mn, et_mx)
  | .iushr => if c = d ∧ 1 ≤ c ∧ c ≤ 31 then (0, ((2147483647 / 2 ^ (c - 1).toNat : Nat) : Int)) else (et_mn, et_mx)
  | .idiv => if 0 ≤ a ∧ 1 ≤ c then (0, b / c) else (et_mn, et_mx)
  | .irem => if 0 ≤ a ∧ 1 ≤ c then (0, min b (d - 1)) else (et_mn, et_mx)
  | _ => (et_mn, et_mx)
def et_bf (ins : Instr) : Option (Int32 → Int32 → Int32) := match ins with
  | .iadd => some (fun x y => x + y)
  | .isub => some (fun x y => x - y)
  | .imul => some (fun x y => x * y)
  | .iand => some (fun x y => x &&& y)
  | .ior => some (fun x y => x ||| y)
  | .ixor => some (fun x y => x ^^^ y)
  | .ishl => some (fun x y => x <<< (y &&& 31))
  | .ishr => some (fun x y => x >>> (y &&& 31))
  | .iushr => some (fun x y => (x.toUInt32 >>> (y.toUInt32 &&& Int32.toUInt32 31)).toInt32)
  | .idiv => some (fun x y => x / y)
  | .irem => some (fun x y => x - x / y * y)
  | _ => none
theorem et_any (x : Int32) : et_mn ≤ x.toInt ∧ x.toInt ≤ et_mx := ⟨x.le_toInt, Int.le_of_lt_add_one x.toInt_lt⟩
theorem et_w_ok {lo hi z : Int} {x : Int32} (h1 : lo ≤ z) (h2 : z ≤ hi) (e : et_mn ≤ z → z ≤ et_mx → x.toInt = z) : (et_w lo hi).1 ≤ x.toInt ∧ x.toInt ≤ (et_w lo hi).2 := by
  unfold et_w
  split
  · rename_i h
    rw [e (Int.le_trans h.1 h1) (Int.le_trans h2 h.2)]
    exact ⟨h1, h2⟩
  · exact et_any x
theorem et_bm {z : Int} (h1 : et_mn ≤ z) (h2 : z ≤ et_mx) : z.bmod (2 ^ 32) = z := by
  unfold et_mn at h1
  unfold et_mx at h2
  rw [Int.bmod_eq_of_le]
  · omega
  · omega
theorem et_add (x y : Int32) (h1 : et_mn ≤ x.toInt + y.toInt) (h2 : x.toInt + y.toInt ≤ et_mx) : (x + y).toInt = x.toInt + y.toInt := by
  rw [Int32.toInt_add]
  exact et_bm h1 h2
theorem et_sub (x y : Int32) (h1 : et_mn ≤ x.toInt - y.toInt) (h2 : x.toInt - y.toInt ≤ et_mx) : (x - y).toInt = x.toInt - y.toInt := by
  rw [Int32.toInt_sub]
  exact et_bm h1 h2
theorem et_mul (x y : Int32) (h1 : et_mn ≤ x.toInt * y.toInt) (h2 : x.toInt * y.toInt ≤ et_mx) : (x * y).toInt = x.toInt * y.toInt := by
  rw [Int32.toInt_mul]
  exact et_bm h1 h2
theorem et_mulb {a b c d x y : Int} (h1 : a ≤ x) (h2 : x ≤ b) (h3 : c ≤ y) (h4 : y ≤ d) : et_mi4 (a * c) (a * d) (b * c) (b * d) ≤ x * y ∧ x * y ≤ et_ma4 (a * c) (a * d) (b * c) (b * d) := by
  have lo : ∀ z : Int, (a * z ≤ x * z ∧ x * z ≤ b * z) ∨ (b * z ≤ x * z ∧ x * z ≤ a * z) := fun z => by
    rcases Int.le_total 0 z with h | h
    · exact .inl ⟨Int.mul_le_mul_of_nonneg_right h1 h, Int.mul_le_mul_of_nonneg_right h2 h⟩
    · exact .inr ⟨Int.mul_le_mul_of_nonpos_right h2 h, Int.mul_le_mul_of_nonpos_right h1 h⟩
  have hi : ∀ z : Int, (z * c ≤ z * y ∧ z * y ≤ z * d) ∨ (z * d ≤ z * y ∧ z * y ≤ z * c) := fun z => by
    rcases Int.le_total 0 z with h | h
    · exact .inl ⟨Int.mul_le_mul_of_nonneg_left h3 h, Int.mul_le_mul_of_nonneg_left h4 h⟩
    · exact .inr ⟨Int.mul_le_mul_of_nonpos_left h h4, Int.mul_le_mul_of_nonpos_left h h3⟩
  have h5 := lo y
  have h6 := hi a
  have h7 := hi b
  unfold et_mi4 et_ma4
  generalize a * c = p at *
  generalize a * d = q at *
  generalize b * c = r at *
  generalize b * d = s at *
  generalize x * y = t at *
  generalize a * y = u at *
  generalize b * y = v at *
  omega
theorem et_or1 (x y : Int32) (h1 : 0 ≤ x.toInt) (h2 : x.toInt ≤ 1) (h3 : 0 ≤ y.toInt) (h4 : y.toInt ≤ 1) : 0 ≤ (x ||| y).toInt ∧ (x ||| y).toInt ≤ 1 := by
  have hx : x = 0 ∨ x = 1 := (show x.toInt = 0 ∨ x.toInt = 1 by omega).imp (fun h => Int32.toInt_inj.mp h) (fun h => Int32.toInt_inj.mp h)
  have hy : y = 0 ∨ y = 1 := (show y.toInt = 0 ∨ y.toInt = 1 by omega).imp (fun h => Int32.toInt_inj.mp h) (fun h => Int32.toInt_inj.mp h)
  rcases hx with rfl | rfl <;> rcases hy with rfl | rfl <;> decide
theorem et_and1 (x y : Int32) (h : 0 ≤ y.toInt) : 0 ≤ (x &&& y).toInt ∧ (x &&& y).toInt ≤ y.toInt := by
  have hy : y.toBitVec.msb = false := by
    have h1 : y.toInt = y.toBitVec.toInt := rfl
    rw [h1] at h
    exact BitVec.msb_eq_false_iff_two_mul_lt.mpr (by
      have := BitVec.toInt_eq_toNat_cond y.toBitVec
      have h3 := y.toBitVec.isLt
      split at this <;> omega)
  have e : (x &&& y).toInt = ((x.toBitVec &&& y.toBitVec).toNat : Int) := by
    show (x.toBitVec &&& y.toBitVec).toInt = _
    rw [BitVec.toInt_eq_toNat_of_msb]
    rw [BitVec.msb_and, hy, Bool.and_false]
  have e2 : y.toInt = (y.toBitVec.toNat : Int) := BitVec.toInt_eq_toNat_of_msb hy
  rw [e, e2, BitVec.toNat_and]
  have := Nat.and_le_right (n := x.toBitVec.toNat) (m := y.toBitVec.toNat)
  omega
theorem et_and2 (x y : Int32) (h : 0 ≤ x.toInt) : 0 ≤ (x &&& y).toInt ∧ (x &&& y).toInt ≤ x.toInt := by
  rw [Int32.and_comm]
  exact et_and1 y x h
theorem et_shr (x y : Int32) (h : 0 ≤ x.toInt) : 0 ≤ (x >>> y).toInt ∧ (x >>> y).toInt ≤ x.toInt := by
  have e : (x >>> y).toInt = x.toInt >>> (y.toBitVec.smod 32).toNat := by
    show (x.toBitVec.sshiftRight (y.toBitVec.smod 32).toNat).toInt = _
    rw [BitVec.toInt_sshiftRight]
    rfl
  rw [e, Int.shiftRight_eq_div_pow]
  exact ⟨Int.ediv_nonneg h (by exact_mod_cast Nat.zero_le _), Int.ediv_le_self _ h⟩
theorem et_div (x y : Int32) (h : 0 ≤ x.toInt) (hy : 1 ≤ y.toInt) : (x / y).toInt = x.toInt / y.toInt := by
  rw [Int32.toInt_div, Int.tdiv_eq_ediv_of_nonneg h]
  have h1 : x.toInt / y.toInt ≤ x.toInt := Int.ediv_le_self _ h
  have h2 : 0 ≤ x.toInt / y.toInt := Int.ediv_nonneg h (by omega)
  have h3 := (et_any x).2
  exact et_bm (by unfold et_mn; omega) (by omega)
theorem et_div1 (x y : Int32) (h : 0 ≤ x.toInt) (hy : 1 ≤ y.toInt) : 0 ≤ (x / y).toInt ∧ (x / y).toInt ≤ x.toInt := by
  rw [et_div x y h hy]
  exact ⟨Int.ediv_nonneg h (by omega), Int.ediv_le_self _ h⟩
theorem et_div2 (x y : Int32) {b c : Int} (h : 0 ≤ x.toInt) (hb : x.toInt ≤ b) (hc : 1 ≤ c) (hy : c ≤ y.toInt) : 0 ≤ (x / y).toInt ∧ (x / y).toInt ≤ b / c := by
  rw [et_div x y h (by omega)]
  have h0 : 0 ≤ x.toInt / y.toInt := Int.ediv_nonneg h (by omega)
  refine ⟨h0, Int.le_ediv_of_mul_le (by omega) ?_⟩
  have h1 : x.toInt / y.toInt * c ≤ x.toInt / y.toInt * y.toInt := Int.mul_le_mul_of_nonneg_left hy h0
  have h2 : x.toInt / y.toInt * y.toInt ≤ x.toInt := Int.ediv_mul_le _ (by omega)
  omega
theorem et_rem (x y : Int32) (h : 0 ≤ x.toInt) (hy : 1 ≤ y.toInt) : 0 ≤ (x - x / y * y).toInt ∧ (x - x / y * y).toInt ≤ x.toInt ∧ (x - x / y * y).toInt ≤ y.toInt - 1 := by
  have h0 := et_div x y h hy
  have h3 := (et_any x).2
  have h4 := Int.mul_ediv_add_emod x.toInt y.toInt
  have h5 := Int.emod_nonneg x.toInt (show y.toInt ≠ 0 by omega)
  have h6 := Int.emod_lt_of_pos x.toInt (show 0 < y.toInt by omega)
  have h7 : (x / y).toInt * y.toInt = x.toInt - x.toInt % y.toInt := by
    rw [h0, Int.mul_comm]
    omega
  have hq : 0 ≤ y.toInt * (x.toInt / y.toInt) := Int.mul_nonneg (by omega) (Int.ediv_nonneg h (by omega))
  have h8 : x.toInt % y.toInt ≤ x.toInt := by omega
  have h9 : (x / y * y).toInt = x.toInt - x.toInt % y.toInt := by
    rw [et_mul _ _ (by rw [h7]; unfold et_mn; omega) (by rw [h7]; omega), h7]
  have ha : (x - x / y * y).toInt = x.toInt % y.toInt := by
    rw [et_sub _ _ (by rw [h9]; unfold et_mn; omega) (by rw [h9]; omega), h9]
    omega
  rw [ha]
  exact ⟨h5, h8, by omega⟩
theorem et_ushr (x : Int32) (k : Nat) (h1 : 1 ≤ k) (h2 : k ≤ 31) (y : Int32) (hy : y.toInt = k) : 0 ≤ ((x.toUInt32 >>> (y.toUInt32 &&& Int32.toUInt32 31)).toInt32).toInt ∧ ((x.toUInt32 >>> (y.toUInt32 &&& Int32.toUInt32 31)).toInt32).toInt ≤ ((2147483647 / 2 ^ (k - 1) : Nat) : Int) := by
  have e : y = Int32.ofNat k := Int32.toInt_inj.mp (by rw [hy, Int32.toInt_ofNat_of_lt (by omega)])
  have e2 : (y.toUInt32 &&& Int32.toUInt32 31) = UInt32.ofNat k := by
    rw [e]
    have hk : ∀ k, k < 32 → ((Int32.ofNat k).toUInt32 &&& Int32.toUInt32 31) = UInt32.ofNat k := by decide
    exact hk k (by omega)
  rw [e2]
  have e3 : (x.toUInt32 >>> UInt32.ofNat k).toNat = x.toUInt32.toNat / 2 ^ k := by
    rw [UInt32.toNat_shiftRight, UInt32.toNat_ofNat_of_lt' (by unfold UInt32.size; omega), Nat.mod_eq_of_lt (by omega), Nat.shiftRight_eq_div_pow]
  have e4 : x.toUInt32.toNat / 2 ^ k ≤ 2147483647 / 2 ^ (k - 1) := by
    have h3 : x.toUInt32.toNat ≤ 4294967295 := Nat.le_of_lt_succ x.toUInt32.toNat_lt
    have h4 : 2 ^ k = 2 * 2 ^ (k - 1) := by
      obtain ⟨j, rfl⟩ : ∃ j, k = j + 1 := ⟨k - 1, by omega⟩
      rw [Nat.add_sub_cancel, Nat.pow_succ, Nat.mul_comm]
    rw [h4, ← Nat.div_div_eq_div_mul]
    exact Nat.div_le_div_right (by omega)
  have e5 : 2147483647 / 2 ^ (k - 1) ≤ 2147483647 := Nat.div_le_self _ _
  have e6 : ((x.toUInt32 >>> UInt32.ofNat k).toInt32).toInt = (((x.toUInt32 >>> UInt32.ofNat k).toNat : Nat) : Int) := by
    show ((x.toUInt32 >>> UInt32.ofNat k).toBitVec).toInt = _
    have h9 : (x.toUInt32 >>> UInt32.ofNat k).toBitVec.toNat = (x.toUInt32 >>> UInt32.ofNat k).toNat := rfl
    rw [BitVec.toInt_eq_toNat_cond, if_pos (by rw [h9, e3]; omega), h9]
  rw [e6, e3]
  constructor
  · omega
  · exact Int.ofNat_le.mpr e4
theorem et_shk (x : Int32) (k : Nat) (hk : k < 32) (y : Int32) (hy : y.toInt = k) (h : 0 ≤ x.toInt) {b : Int} (hb : x.toInt ≤ b) : 0 ≤ (x >>> (y &&& 31)).toInt ∧ (x >>> (y &&& 31)).toInt ≤ b / 2 ^ k := by
  have e : y = Int32.ofNat k := Int32.toInt_inj.mp (by rw [hy, Int32.toInt_ofNat_of_lt (by omega)])
  have e2 : (y &&& 31).toBitVec.smod 32 = BitVec.ofNat 32 k := by
    rw [e]
    have h9 : ∀ k, k < 32 → (Int32.ofNat k &&& 31).toBitVec.smod 32 = BitVec.ofNat 32 k := by decide
    exact h9 k hk
  have e3 : (x >>> (y &&& 31)).toInt = x.toInt >>> k := by
    show (x.toBitVec.sshiftRight ((y &&& 31).toBitVec.smod 32).toNat).toInt = _
    rw [BitVec.toInt_sshiftRight, e2, BitVec.toNat_ofNat, Nat.mod_eq_of_lt (by omega)]
    rfl
  rw [e3, Int.shiftRight_eq_div_pow]
  have hp : (0 : Int) < 2 ^ k := Int.pow_pos (by decide)
  exact ⟨Int.ediv_nonneg h (Int.le_of_lt (by exact_mod_cast hp)), by exact_mod_cast Int.ediv_le_ediv hp hb⟩
end
section
/-! THE TYPED INTERPRETER: definitions. A state: tokens, cache, pc, locals, stack, counters -/
abbrev et_X : Type := List et_N × et_C × Nat × eg_Ls × List Value × Nat × Nat
def et_ib (E : List et_N) (v : Value) : Option (Int × Int) := match v with
  | .int x => some (x.toInt, x.toInt)
  | .float k => (match E[k.toNat]? with
    | some (.inl p, _) => some p
    | _ => none)
  | _ => none
def et_lb (E : List et_N) (v : Value) : Option (Int × Int) := match v with
  | .long x => some (x.toInt, x.toInt)
  | .double k => (match E[k.toNat]? with
    | some (.inr (.inl p), _) => some p
    | _ => none)
  | _ => none
def et_rb (E : List et_N) (v : Value) : Option (Nat × Nat) := match v with
  | .retAddr k => (match E[k]? with
    | some (.inr (.inr p), _) => some p
    | _ => none)
  | _ => none
def et_tk (p : et_P) (n : Nat) : Value := match p with
  | .inl _ => .float (UInt32.ofNat n)
  | .inr (.inl _) => .double (UInt64.ofNat n)
  | .inr (.inr _) => .retAddr n
/-- an int that has one value only is that value -/
def et_cn (E : List et_N) (v : Value) : Value := match v with
  | .float k => (match E[k.toNat]? with
    | some (.inl (lo, hi), _) => if lo = hi ∧ et_mn ≤ lo ∧ lo ≤ et_mx then .int (Int32.ofInt lo) else v
    | _ => v)
  | _ => v
def et_ft (E : List et_N) (p : et_P) (v : Value) : Bool := match p with
  | .inl (lo, hi) => (match et_ib E v with
    | some (a, b) => decide (lo ≤ a) && decide (b ≤ hi)
    | none => false)
  | .inr (.inl (lo, hi)) => (match et_lb E v with
    | some (a, b) => decide (lo ≤ a) && decide (b ≤ hi)
    | none => false)
  | .inr (.inr (nl, t)) => (match v with
    | .null => decide (0 < nl)
    | .ref a => decide (nl < 2) && (decide (a < 36) && decide (t = 0))
    | _ => (match et_rb E v with
      | some (nm, u) => if nm = 0 then decide (nl < 2) && decide (u = t) else if nm = 1 then decide (nl = 1) && decide (u = t) else decide (nm = 2) && decide (0 < nl)
      | none => false))
/-- and so for the number that it came from -/
def et_nu (E : List et_N) (d : Option (Nat × Int)) (lo hi : Int) : List et_N := match d with
  | some (j, c) => (match E[j]? with
    | some (.inl (a, b), d2) => E.set j (.inl (max a (lo - c), min b (hi - c)), d2)
    | _ => E)
  | none => E
/-- narrower ends for a value; none if there is nothing left -/
def et_nw (E : List et_N) (v : Value) (lo hi : Int) : Option (List et_N) := match v with
  | .int x => if lo ≤ x.toInt ∧ x.toInt ≤ hi then some E else none
  | .float k => (match E[k.toNat]? with
    | some (.inl (a, b), d) => if max a lo ≤ min b hi then some (et_nu (E.set k.toNat (.inl (max a lo, min b hi), d)) d (max a lo) (min b hi)) else none
    | _ => some E)
  | _ => some E
def et_nw2 (E : List et_N) (x : Value) (a b : Int) (y : Value) (c d : Int) : Option (List et_N) := match et_nw E x a b with
  | some F => et_nw F y c d
  | none => none
/-- what is known where x c y holds -/
def et_as (E : List et_N) (c : Jvm.ClassFile.Cond) (x y : Value) : Option (List et_N) := match et_ib E x, et_ib E y with
  | some (a, b), some (s, t) => (match c with
    | .lt => et_nw2 E x et_mn (t - 1) y (a + 1) et_mx
    | .le => et_nw2 E x et_mn t y a et_mx
    | .gt => et_nw2 E x (s + 1) et_mx y et_mn (b - 1)
    | .ge => et_nw2 E x s et_mx y et_mn b
    | .eq => et_nw2 E x s t y a b
    | .ne => if s = t then (if a = b then (if a = s then none else some E) else if a = s then et_nw E x (a + 1) et_mx else if b = s then et_nw E x et_mn (b - 1) else some E)
        else if a = b then (if s = a then et_nw E y (s + 1) et_mx else if t = a then et_nw E y et_mn (t - 1) else some E) else some E)
  | _, _ => some E
def et_ng (c : Jvm.ClassFile.Cond) : Jvm.ClassFile.Cond := match c with
  | .eq => .ne
  | .ne => .eq
  | .lt => .ge
  | .ge => .lt
  | .gt => .le
  | .le => .gt
def et_hb (c : Jvm.ClassFile.Cond) (x y : Int32) : Prop := match c with
  | .eq => x = y
  | .ne => ¬ x = y
  | .lt => x < y
  | .ge => y ≤ x
  | .gt => y < x
  | .le => x ≤ y
end
section
/-! THE TYPED INTERPRETER: what the definitions mean -/
section ETD
variable {R : List Value} {K : et_K} {E : List et_N}
theorem et_eo_get {k : Nat} {p : et_P} {d : Option (Nat × Int)} (h : et_eo K R E) (hk : E[k]? = some (p, d)) {w : Value} (hw : R[k]? = some w) : et_v K p w := by
  obtain ⟨v, h1, h2, -⟩ := h.2 k p d hk
  rw [hw] at h1
  cases h1
  exact h2
theorem et_ib_ok {v w : Value} {a b : Int} (h : et_ib E v = some (a, b)) (hE : et_eo K R E) (hv : et_vr R v w) : ∃ x, w = .int x ∧ a ≤ x.toInt ∧ x.toInt ≤ b := by
  cases v
  case int x =>
    cases h
    exact ⟨x, hv, Int.le_refl _, Int.le_refl _⟩
  case float k =>
    unfold et_ib at h
    dsimp only at h
    split at h
    · rename_i p d hk
      cases h
      obtain ⟨x, rfl, hx⟩ := hv
      obtain ⟨y, e, h1, h2⟩ := et_eo_get hE hk hx
      cases e
      exact ⟨x, rfl, h1, h2⟩
    · cases h
  all_goals cases h
theorem et_lb_ok {v w : Value} {a b : Int} (h : et_lb E v = some (a, b)) (hE : et_eo K R E) (hv : et_vr R v w) : ∃ x, w = .long x ∧ a ≤ x.toInt ∧ x.toInt ≤ b := by
  cases v
  case long x =>
    cases h
    exact ⟨x, hv, Int.le_refl _, Int.le_refl _⟩
  case double k =>
    unfold et_lb at h
    dsimp only at h
    split at h
    · rename_i p d hk
      cases h
      obtain ⟨x, rfl, hx⟩ := hv
      obtain ⟨y, e, h1, h2⟩ := et_eo_get hE hk hx
      cases e
      exact ⟨x, rfl, h1, h2⟩
    · cases h
  all_goals cases h
theorem et_rb_ok {v w : Value} {nl t : Nat} (h : et_rb E v = some (nl, t)) (hE : et_eo K R E) (hv : et_vr R v w) : et_v K (.inr (.inr (nl, t))) w := by
  cases v
  case retAddr k =>
    unfold et_rb at h
    dsimp only at h
    split at h
    · rename_i p d hk
      cases h
      exact et_eo_get hE hk hv.2
    · cases h
  all_goals cases h
theorem et_cn_ok {v w : Value} (hE : et_eo K R E) (hv : et_vr R v w) : et_vr R (et_cn E v) w := by
  cases v
  case float k =>
    unfold et_cn
    dsimp only
    split
    · rename_i lo hi d hk
      split
      · rename_i hc
        obtain ⟨x, rfl, hx⟩ := hv
        obtain ⟨y, e, h1, h2⟩ := et_eo_get hE hk hx
        cases e
        show Value.int x = .int (Int32.ofInt lo)
        have e1 : x = Int32.ofInt lo := by
          apply Int32.toInt_inj.mp
          have e2 : x.toInt = lo := by omega
          rw [← e2, Int32.ofInt_toInt]
        rw [e1]
      · exact hv
    · exact hv
  all_goals exact hv
theorem et_ft_ok {p : et_P} {v w : Value} (h : et_ft E p v = true) (hE : et_eo K R E) (hW : ∀ a, a < 36 → K a = some 0) (hv : et_vr R v w) : et_v K p w := by
  unfold et_ft at h
  split at h
  · rename_i lo hi
    split at h
    · rename_i a b hb
      rw [Bool.and_eq_true] at h
      obtain ⟨x, rfl, h1, h2⟩ := et_ib_ok hb hE hv
      have h3 := of_decide_eq_true h.1
      have h4 := of_decide_eq_true h.2
      exact ⟨x, rfl, by omega, by omega⟩
    · cases h
  · rename_i lo hi
    split at h
    · rename_i a b hb
      rw [Bool.and_eq_true] at h
      obtain ⟨x, rfl, h1, h2⟩ := et_lb_ok hb hE hv
      have h3 := of_decide_eq_true h.1
      have h4 := of_decide_eq_true h.2
      exact ⟨x, rfl, by omega, by omega⟩
    · cases h
  · rename_i nl t
    split at h
    · have e : w = .null := hv
      exact .inl ⟨of_decide_eq_true h, e⟩
    · rename_i a
      have e : w = .ref a := hv
      rw [Bool.and_eq_true, Bool.and_eq_true] at h
      have h1 := of_decide_eq_true h.2.2
      subst h1
      exact .inr ⟨of_decide_eq_true h.1, a, e, hW a (of_decide_eq_true h.2.1)⟩
    · split at h
      · rename_i nm u hb
        have h0 := et_rb_ok hb hE hv
        split at h
        · rename_i hn
          subst hn
          rw [Bool.and_eq_true] at h
          have h1 := of_decide_eq_true h.2
          subst h1
          rcases h0 with ⟨h2, -⟩ | ⟨-, h3⟩
          · exact absurd h2 (by omega)
          · exact .inr ⟨of_decide_eq_true h.1, h3⟩
        · split at h
          · rename_i hn
            subst hn
            rw [Bool.and_eq_true] at h
            have h1 := of_decide_eq_true h.2
            have h2 := of_decide_eq_true h.1
            subst h1
            subst h2
            exact h0
          · rw [Bool.and_eq_true] at h
            have h1 := of_decide_eq_true h.1
            subst h1
            rcases h0 with ⟨-, h3⟩ | ⟨h2, -⟩
            · exact .inl ⟨of_decide_eq_true h.2, h3⟩
            · exact absurd h2 (by omega)
      · cases h
theorem et_eo_set {k : Nat} {p q : et_P} {d : Option (Nat × Int)} {w : Value} (hE : et_eo K R E) (hk : E[k]? = some (p, d)) (hw : R[k]? = some w) (hq : et_v K q w) : et_eo K R (E.set k (q, d)) := by
  refine ⟨by rw [List.length_set]; exact hE.1, fun j p2 d2 hj => ?_⟩
  rw [List.getElem?_set] at hj
  split at hj
  · rename_i e
    subst e
    split at hj
    · cases hj
      obtain ⟨v, h1, -, h3⟩ := hE.2 k p d hk
      rw [hw] at h1
      cases h1
      exact ⟨w, hw, hq, h3⟩
    · cases hj
  · exact hE.2 j p2 d2 hj
theorem et_nu_ok {d : Option (Nat × Int)} {lo hi : Int} (hE : et_eo K R E) (h : ∀ j c, d = some (j, c) → ∃ y : Int32, R[j]? = some (.int y) ∧ lo ≤ y.toInt + c ∧ y.toInt + c ≤ hi) : et_eo K R (et_nu E d lo hi) := by
  unfold et_nu
  split
  · rename_i j c
    obtain ⟨y, y1, y2, y3⟩ := h j c rfl
    split
    · rename_i a b d2 hj
      obtain ⟨z, e, h3, h4⟩ := et_eo_get hE hj y1
      cases e
      exact et_eo_set hE hj y1 ⟨y, rfl, by omega, by omega⟩
    · exact hE
  · exact hE
theorem et_nw_ok {v : Value} {x : Int32} {lo hi : Int} (hE : et_eo K R E) (hv : et_vr R v (.int x)) (h1 : lo ≤ x.toInt) (h2 : x.toInt ≤ hi) : ∃ F, et_nw E v lo hi = some F ∧ et_eo K R F := by
  cases v
  case int y =>
    have e : Value.int x = .int y := hv
    cases e
    exact ⟨E, if_pos ⟨h1, h2⟩, hE⟩
  case float k =>
    obtain ⟨y, e, hy⟩ := hv
    cases e
    unfold et_nw
    dsimp only
    split
    · rename_i a b d hk
      obtain ⟨z, e, h3, h4⟩ := et_eo_get hE hk hy
      cases e
      have c1 : max a lo ≤ x.toInt := by omega
      have c2 : x.toInt ≤ min b hi := by omega
      rw [if_pos (Int.le_trans c1 c2)]
      refine ⟨_, rfl, et_nu_ok (et_eo_set hE hk hy ⟨x, rfl, c1, c2⟩) (fun j c e => ?_)⟩
      obtain ⟨v, v1, -, v3⟩ := hE.2 _ _ _ hk
      rw [hy] at v1
      cases v1
      obtain ⟨x', y, e1, e2, e3⟩ := v3 j c e
      cases e1
      exact ⟨y, e2, by omega, by omega⟩
    · exact ⟨E, rfl, hE⟩
  all_goals exact ⟨E, rfl, hE⟩
theorem et_nw2_ok {u v : Value} {x y : Int32} {a b c d : Int} (hE : et_eo K R E) (hu : et_vr R u (.int x)) (hv : et_vr R v (.int y)) (h1 : a ≤ x.toInt) (h2 : x.toInt ≤ b) (h3 : c ≤ y.toInt) (h4 : y.toInt ≤ d) : ∃ F, et_nw2 E u a b v c d = some F ∧ et_eo K R F := by
  obtain ⟨F, e, hF⟩ := et_nw_ok hE hu h1 h2
  unfold et_nw2
  rw [e]
  exact et_nw_ok hF hv h3 h4
theorem et_as_ok {c : Jvm.ClassFile.Cond} {u v : Value} {x y : Int32} (hE : et_eo K R E) (hu : et_vr R u (.int x)) (hv : et_vr R v (.int y)) (h : et_hb c x y) : ∃ F, et_as E c u v = some F ∧ et_eo K R F := by
  unfold et_as
  split
  · rename_i a b s t ha hs
    obtain ⟨x', e, a1, a2⟩ := et_ib_ok ha hE hu
    cases e
    obtain ⟨y', e, s1, s2⟩ := et_ib_ok hs hE hv
    cases e
    have x1 := et_any x
    have y1 := et_any y
    cases c
    · have h : x = y := h
      subst h
      exact et_nw2_ok hE hu hv s1 s2 a1 a2
    · have h0 : ¬ x = y := h
      have h : ¬ x.toInt = y.toInt := fun e => h0 (Int32.toInt_inj.mp e)
      dsimp only
      split
      · split
        · split
          · exact absurd (show x.toInt = y.toInt by omega) h
          · exact ⟨E, rfl, hE⟩
        · split
          · exact et_nw_ok hE hu (by omega) x1.2
          · split
            · exact et_nw_ok hE hu x1.1 (by omega)
            · exact ⟨E, rfl, hE⟩
      · split
        · split
          · exact et_nw_ok hE hv (by omega) y1.2
          · split
            · exact et_nw_ok hE hv y1.1 (by omega)
            · exact ⟨E, rfl, hE⟩
        · exact ⟨E, rfl, hE⟩
    · have h := Int32.lt_iff_toInt_lt.mp h
      exact et_nw2_ok hE hu hv x1.1 (by omega) (by omega) y1.2
    · have h := Int32.le_iff_toInt_le.mp h
      exact et_nw2_ok hE hu hv (by omega) x1.2 y1.1 (by omega)
    · have h := Int32.lt_iff_toInt_lt.mp h
      exact et_nw2_ok hE hu hv (by omega) x1.2 y1.1 (by omega)
    · have h := Int32.le_iff_toInt_le.mp h
      exact et_nw2_ok hE hu hv x1.1 (by omega) (by omega) y1.2
  · exact ⟨E, rfl, hE⟩
theorem et_hb_ng {c : Jvm.ClassFile.Cond} {x y : Int32} (h : ¬ et_hb c x y) : et_hb (et_ng c) x y := by
  cases c
  · exact h
  · exact Classical.not_not.mp h
  · have h : ¬ x < y := h
    show y ≤ x
    rw [Int32.lt_iff_toInt_lt] at h
    rw [Int32.le_iff_toInt_le]
    omega
  · have h : ¬ y ≤ x := h
    show x < y
    rw [Int32.le_iff_toInt_le] at h
    rw [Int32.lt_iff_toInt_lt]
    omega
  · have h : ¬ y < x := h
    show x ≤ y
    rw [Int32.lt_iff_toInt_lt] at h
    rw [Int32.le_iff_toInt_le]
    omega
  · have h : ¬ x ≤ y := h
    show y < x
    rw [Int32.le_iff_toInt_le] at h
    rw [Int32.lt_iff_toInt_lt]
    omega
end ETD
end
