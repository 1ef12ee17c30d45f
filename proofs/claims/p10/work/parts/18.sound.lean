/-! INVOKE, AND THE WHOLE -/
section EGV
def eg_tok (e : Nat × Nat × Nat × Option String) : Bool :=
  if e.2.2.1 = 6 then true else decide (e.2.1 < 316) && (decide (e.2.2.1 < 8) && ((if e.2.2.1 = 0 then true else (eg_me e.2.1).1.2.2.2.2.1.isNone) &&
    ((if e.2.2.1 = 2 ∨ e.2.2.1 = 5 then decide ((eg_me e.2.1).1.1.name = "<init>") && (eg_me e.2.1).1.2.2.2.1.isNone else true) &&
    ((if e.2.2.1 = 1 ∨ e.2.2.1 = 4 ∨ e.2.2.1 = 7 then decide (eg_oc e.2.2.1 e.2.1 < 14) && (decide (e.2.2.1 = 7) || decide (eg_cn2 (eg_oc e.2.2.1 e.2.1) = (eg_me e.2.1).1.1.cls)) else true) &&
    (if e.2.2.1 = 7 then decide ((eg_me e.2.1).1.1 = ⟨"java/lang/Enum", "ordinal", "()I"⟩) else true)))))
set_option maxRecDepth 100000 in
theorem eg_tok_all : eg_mT.all (fun l => l.all eg_tok) = true := by decide +kernel
theorem eg_tok_at {o : Nat} {e : Nat × Nat × Nat × Option String} (h : e ∈ eg_mT.getD o []) : eg_tok e = true := by
  rw [List.getD_eq_getElem?_getD] at h
  cases h1 : eg_mT[o]? with
  | none => rw [h1] at h; exact nomatch h
  | some l => rw [h1] at h; exact List.all_eq_true.mp (List.all_eq_true.mp eg_tok_all l (List.mem_of_getElem? h1)) e h
theorem eg_tok_0 {e : Nat × Nat × Nat × Option String} (h : eg_tok e = true) (h0 : e.2.2.1 ≠ 0) (h6 : e.2.2.1 ≠ 6) : (eg_me e.2.1).1.2.2.2.2.1 = none := by
  unfold eg_tok at h
  rw [if_neg h6] at h
  simp only [Bool.and_eq_true] at h
  have h3 := h.2.2.1
  rw [if_neg h0] at h3
  exact Option.isNone_iff_eq_none.mp h3
theorem eg_tok_2 {e : Nat × Nat × Nat × Option String} (h : eg_tok e = true) (hk : e.2.2.1 = 2 ∨ e.2.2.1 = 5) : (eg_me e.2.1).1.1.name = "<init>" ∧ (eg_me e.2.1).1.2.2.2.1 = none := by
  unfold eg_tok at h
  rw [if_neg (by omega)] at h
  simp only [Bool.and_eq_true] at h
  have h3 := h.2.2.2.1
  rw [if_pos hk] at h3
  simp only [Bool.and_eq_true, decide_eq_true_eq] at h3
  exact ⟨h3.1, Option.isNone_iff_eq_none.mp h3.2⟩
theorem eg_tok_1 {e : Nat × Nat × Nat × Option String} (h : eg_tok e = true) (hk : e.2.2.1 = 1 ∨ e.2.2.1 = 4 ∨ e.2.2.1 = 7) : eg_oc e.2.2.1 e.2.1 < 14 ∧ (e.2.2.1 = 7 ∨ eg_cn2 (eg_oc e.2.2.1 e.2.1) = (eg_me e.2.1).1.1.cls) := by
  unfold eg_tok at h
  rw [if_neg (by omega)] at h
  simp only [Bool.and_eq_true] at h
  have h3 := h.2.2.2.2.1
  rw [if_pos hk] at h3
  simp only [Bool.and_eq_true, Bool.or_eq_true, decide_eq_true_eq] at h3
  exact h3
theorem eg_tok_7 {e : Nat × Nat × Nat × Option String} (h : eg_tok e = true) (hk : e.2.2.1 = 7) : (eg_me e.2.1).1.1 = ⟨"java/lang/Enum", "ordinal", "()I"⟩ := by
  unfold eg_tok at h
  rw [if_neg (by omega)] at h
  simp only [Bool.and_eq_true] at h
  have h3 := h.2.2.2.2.2
  rw [if_pos hk] at h3
  exact of_decide_eq_true h3
section In
variable {p : Program} {l : Launch} {e : Env} {R : Room} {s : State} {m : MethodId} {args : Array Value} {below : List Frame} {meth : Method} {c : Code} {Q : State → Prop} {b0 : Nat} {D : va_G} {dA : Nat → ClassId} {adc : Nat → Nat} {n0 : Nat} {ad0 : Nat → Nat} {scr : eg_Sc} {d k mc ms : Nat} {r : eg_R} {G G' : eg_G} {ck sk ck' sk' : Nat} {L : eg_Ls} {st : List Value}
theorem eg_recv {ad : Nat → Nat} {H : Heap} {locs : List Loc} {b x : Nat} (hF : eg_F s b0 D dA adc) (hR : eg_Rel s b0 D dA adc n0 ad0 ad G H locs) (hb : b < G.2) (hx : eg_is (eg_at G b) x = true) (h14 : x < 14) : ∃ cell : Cell, H[ad b]? = some cell ∧ cell.vm.isStatics = false ∧ s.vm.findClass (eg_cn2 x) = some cell.cls := by
  obtain ⟨hP, hD, hS0, hok, hag, -⟩ := hR
  obtain ⟨f1, f2, hK, hC, -⟩ := hF
  unfold eg_is at hx
  split at hx
  · rename_i kk fs hat
    have hkx : kk = x := by simpa using hx
    subst hkx
    by_cases hlo : b < eg_NC
    · rw [eg_at_lo hlo] at hat
      rw [hag b hlo]
      rcases eg_con_obj hat with ⟨rfl, h36⟩ | ⟨rfl, h1, h2⟩ | ⟨rfl, -⟩
      · exact va_Orecv (hC.2.2.2.2.2.1 b h36) hS0
      · have h9 := hC.2.2.2.2.2.2.1 (b - 36) (by omega)
        rw [show 36 + (b - 36) = b by omega] at h9
        exact va_Orecv h9 hS0
      · omega
    · have hhi := Nat.le_of_not_lt hlo
      rw [eg_at_hi hhi] at hat
      have hw := eg_ws_at (ad := ad) (dA := dA) hhi hb
      rw [hat] at hw
      obtain ⟨q, hq, -⟩ := hP _ _ hw
      have h9 := va_recv hK hP hq hw
      obtain ⟨e1, e2⟩ := eg_cl_get hq
      have e3 : eg_cn2 kk = q.1 := by
        unfold eg_cn2
        rw [if_pos e2, e1]
      rw [e3]
      exact h9
  · cases hx
theorem eg_pc_at {ad : Nat → Nat} {H : Heap} {locs : List Loc} {as : List Value} (hF : eg_F s b0 D dA adc) (hR : eg_Rel s b0 D dA adc n0 ad0 ad G H locs) (hv : ∀ v ∈ as, eg_okv G.2 v) : ∀ U : State, U.heap = H → s.WarmedH U.vm → eg_Pc b0 D dA adc as ad G (as.map (eg_v ad)).toArray U := by
  intro U hU hW
  obtain ⟨hP, hD, hS0, hok, hag, -⟩ := hR
  subst hU
  exact ⟨rfl, hF.go hW hS0, hP, hD, hok, hag, hv⟩
set_option maxRecDepth 20000 in
theorem eg_cw0 {d' mi cN sN : Nat} (hB : eg_B p s m meth c R k (d' + 1) mc ms) (hF : eg_F s b0 D dA adc) (hm : mi < 316) :
    (eg_rm d' cN sN).cells = cN ∧ (eg_rm d' cN sN).slots = sN ∧ (eg_rm d' cN sN).frames + 1 ≤ R.frames ∧ 8 + (eg_mL mi + 11) + (eg_rm d' cN sN).locals ≤ R.locals ∧ (∀ w ∈ [eg_yw (eg_me mi)], ∀ (a' : Array Value) (U : State), s.WarmedH U.vm → w.before a' U = true) := by
  obtain ⟨-, -, -, h15, -⟩ := eg_mok_at hm
  obtain ⟨-, -, -, -, -, -, -, -, -, -, hf, hl⟩ := hB
  refine ⟨rfl, rfl, ?_, ?_, fun w hw a' U hW => ?_⟩
  · show d' + 12 + 1 ≤ R.frames
    omega
  · show 8 + (eg_mL mi + 11) + (48 * d' + 300) ≤ R.locals
    have key : ∀ z a : Nat, z ≤ 15 → 8 + (z + 11) + (48 * a + 300) ≤ 48 * (a + 1) + 300 := by
      intro z a h
      omega
    exact Nat.le_trans (key _ _ h15) hl
  · rw [List.mem_singleton.mp hw]
    exact eg_kp_go eg_kp_W hW hF.1 _ (eg_yw_in hm)
theorem eg_yw_code {mi : Nat} (hm : mi < 316) (hh : eg_mh mi = none) : eg_yw (eg_me mi) = .code (eg_mn mi) (eg_mb mi) (eg_mL mi) (eg_mr mi) := by
  unfold eg_mh at hh
  unfold eg_yw eg_mn eg_mb eg_mL eg_mr
  rw [eg_mi_k hm] at hh ⊢
  rw [hh]
theorem eg_yw_codeW {mi : Nat} {h1 : List (Nat × Nat × Nat × Nat)} (hm : mi < 316) (hh : eg_mh mi = some h1) : eg_yw (eg_me mi) = .codeWith (eg_mn mi) (eg_mb mi) (eg_mL mi) (eg_mr mi) h1 := by
  unfold eg_mh at hh
  unfold eg_yw eg_mn eg_mb eg_mL eg_mr
  rw [eg_mi_k hm] at hh ⊢
  rw [hh]
theorem eg_mcat {ad : Nat → Nat} {rr : List Value} (h : eg_cat rr ≤ 8) : 2 * (F0 m 0 #[] []).monitorRoom + ((rr.map (eg_v ad)).map fun v => v.category).sum ≤ 8 := by
  have hcat2 : ((rr.map (eg_v ad)).map fun v => v.category).sum = eg_cat rr := by
    rw [List.map_map]
    exact congrArg List.sum (List.map_congr_left (fun v _ => eg_vcat ad v))
  rw [hcat2]
  have h9 : 2 * (F0 m 0 #[] []).monitorRoom = 0 := rfl
  rw [h9, Nat.zero_add]
  exact h
theorem eg_iv_J {rec : eg_Rec} (hrec : eg_Sd rec) (hle : eg_le rec) {pc t i len : Nat} {ins : Instr} (H : eg_H p l e R s m args below meth c Q b0 D dA adc n0 ad0 scr d k mc ms r G' ck' sk') (hcd : eg_cd k pc = some (ins, len)) (hik : eg_ik ins = some (t, i)) (hiv : eg_iv rec scr d k pc t i L st G ck sk = some (r, G', ck', sk')) : eg_J p l e R s m args below meth c Q b0 D dA adc n0 ad0 pc L st G ck sk := by
  obtain ⟨hd0, hlo⟩ := eg_cd_dec hcd
  have H0 := H
  obtain ⟨hB, hF, hlf, hsc, hck, hsk, k1, k2, k3⟩ := H
  have hB0 := hB
  obtain ⟨hx, hb, hml, hown, hlocks, hr, hini, htab, hRc, hRs, hRf, hRl⟩ := hB
  have hWa : ∀ w ∈ eg_W, w.before args s = true := eg_kp_s eg_kp_W hF.1
  have hfix : CallFix p m c (eg_mb k) (eg_mL k) s args [] (eg_on (eg_mo k)) := ⟨hx, hb, hml, hown, fun _ h => nomatch h⟩
  unfold eg_iv at hiv
  split at hiv
  · cases hiv
  · rename_i mi kd host hlk
    have he := eg_lk hlk
    have htok := eg_tok_at he
    have hws := eg_w5 he
    split at hiv
    · have hins : ins = .invokestatic i := by
        unfold eg_ik at hik
        split at hik <;> cases hik
        rfl
      subst hins
      have hl' : len = 3 := by simpa [eg_lok] using hlo
      subst hl'
      split at hiv
      · rename_i hmath
        obtain ⟨rfl, hm1, hm2⟩ := hmath
        have w1 := hWa _ (hws (.methodLink (eg_on (eg_mo k)) i (eg_me mi).1.1) (by simp [eg_mw]))
        have w2 := hWa _ (hws (.static (eg_me mi).1.1) (by simp [eg_mw]))
        have w3 := hWa _ (hws (.initialized (eg_me mi).1.1.cls) (by simp [eg_mw]))
        have hyin := hWa _ (eg_yw_in (k := mi) (by omega))
        split at hiv
        · rename_i v rr hmt
          split at hiv
          · rename_i hc
            obtain ⟨hc8, hLl⟩ := hc
            have hcnt := hle _ _ _ _ _ _ _ _ _ _ _ _ _ hiv
            have hJ := hrec _ _ _ _ _ _ _ _ _ _ _ _ _ hiv H0
            intro ad Hh locs ls hR hL hS
            have hsz : c.maxLocals = ls.size := by rw [hL.1.1, hLl]; exact hml
            have hcat := eg_mcat (m := m) (ad := ad) hc8
            have hcat : ((rr.map (eg_v ad)).map fun v => v.category).sum ≤ 8 := by
              have h9 : 2 * (F0 m 0 #[] []).monitorRoom = 0 := rfl
              omega
            unfold eg_mt at hmt
            split at hmt
            · cases hmt
              exact va_mabs hx hb hsz hown w1 w2 w3 hyin (by omega) (by omega) (by omega) (by omega) hd0 (hJ ad Hh locs ls hR hL (List.forall_mem_cons.mpr ⟨eg_oki, fun v hv => hS v (List.mem_cons_of_mem _ hv)⟩))
            · cases hmt
              exact va_mmax hx hb hsz hown w1 w2 w3 hyin (by omega) (by omega) (by omega) (by omega) hd0 (hJ ad Hh locs ls hR hL (List.forall_mem_cons.mpr ⟨eg_oki, fun v hv => hS v (List.mem_cons_of_mem _ (List.mem_cons_of_mem _ hv))⟩))
            · cases hmt
              exact va_mmin hx hb hsz hown w1 w2 w3 hyin (by omega) (by omega) (by omega) (by omega) hd0 (hJ ad Hh locs ls hR hL (List.forall_mem_cons.mpr ⟨eg_oki, fun v hv => hS v (List.mem_cons_of_mem _ (List.mem_cons_of_mem _ hv))⟩))
            · cases hmt
              exact va_mmin_long hx hb hsz hown w1 w2 w3 hyin (by omega) (by omega) (by omega) (by omega) hd0 (hJ ad Hh locs ls hR hL (List.forall_mem_cons.mpr ⟨eg_okl, fun v hv => hS v (List.mem_cons_of_mem _ (List.mem_cons_of_mem _ hv))⟩))
            · cases hmt
              exact va_mmax_long hx hb hsz hown w1 w2 w3 hyin (by omega) (by omega) (by omega) (by omega) hd0 (hJ ad Hh locs ls hR hL (List.forall_mem_cons.mpr ⟨eg_okl, fun v hv => hS v (List.mem_cons_of_mem _ (List.mem_cons_of_mem _ hv))⟩))
            · cases hmt
          · cases hiv
        · cases hiv
      split at hiv
      · rename_i hkd
        obtain ⟨hkd, hna⟩ := hkd
        refine eg_cl1_J hrec hle H0 hiv (fun v hv => List.mem_of_mem_drop hv) (fun d' cN sN q1 G1 hdd hmi hcN hsN hc8 ad Hh locs ls hR hsz hS hM => ?_)
        subst hdd
        obtain ⟨g1, g2, g3, g4, g5⟩ := eg_cw0 (cN := cN) (sN := sN) hB0 hF hmi
        obtain ⟨m1, m2, m3, m4, m5⟩ := eg_mok_at hmi
        have hst : st.map (eg_v ad) = (((st.take (eg_ma mi)).reverse).map (eg_v ad)).reverse ++ (st.drop (eg_ma mi)).map (eg_v ad) := by
          rw [List.map_reverse, List.reverse_reverse, ← List.map_append, List.take_append_drop]
        have hlenn : (((st.take (eg_ma mi)).reverse).map (eg_v ad)).length = eg_ma mi := by
          simp
          omega
        have hpre : PreS s Hh (eg_Pc b0 D dA adc (st.take (eg_ma mi)).reverse ad G) (((st.take (eg_ma mi)).reverse).map (eg_v ad)) := ⟨eg_Pc_blind, eg_pc_at hF hR (fun v hv => hS v (List.mem_of_mem_take (List.mem_reverse.mp hv)))⟩
        have hyin := hWa _ (eg_yw_in hmi)
        have hym : eg_mn mi = (eg_me mi).1.1 := by unfold eg_mn; rw [eg_mi_k hmi]
        rcases hkd with rfl | rfl
        · have w1 := hWa _ (hws (.methodLink (eg_on (eg_mo k)) i (eg_me mi).1.1) (by simp [eg_mw]))
          have w2 := hWa _ (hws (.static (eg_me mi).1.1) (by simp [eg_mw]))
          have w3 := hWa _ (hws (.initialized (eg_me mi).1.1.cls) (by simp [eg_mw]))
          rw [← hym] at w1 w2 w3
          cases hh : eg_mh mi with
          | none =>
            have hyc := eg_yw_code hmi hh
            rw [hyc] at hM hyin g5
            exact vx_runS hfix hM ⟨⟨g1, g2, g3, g4, g5, List.mem_singleton.mpr rfl, hyin, w3, m2, m3, w1⟩, w2⟩ hpre rfl hlenn (hsz.trans hml) hst (eg_mcat (m := m) hc8) hd0 ⟨by rw [hRc]; exact hcN, by rw [hRs]; exact hsN⟩
          | some h1 =>
            have hyc := eg_yw_codeW hmi hh
            rw [hyc] at hM hyin g5
            exact vx_runSX (hh := h1) hfix hM ⟨⟨g1, g2, g3, g4, g5, List.mem_singleton.mpr rfl⟩, hyin, w3, m2, m3, w1, w2⟩ hpre rfl hlenn (hsz.trans hml) hst (eg_mcat (m := m) hc8) hd0 ⟨by rw [hRc]; exact hcN, by rw [hRs]; exact hsN⟩
        · have hh : eg_mh mi = none := by
            unfold eg_mh
            rw [eg_mi_k hmi]
            exact eg_tok_0 htok (by simp) (by simp)
          have w1 := hWa _ (hws (.methodLinkNest (eg_on (eg_mo k)) i (eg_me mi).1.1 (host.getD "")) (by simp [eg_mw]))
          have w2 := hWa _ (hws (.static (eg_me mi).1.1) (by simp [eg_mw]))
          have w3 := hWa _ (hws (.initialized (eg_me mi).1.1.cls) (by simp [eg_mw]))
          rw [← hym] at w1 w2 w3
          have hyc := eg_yw_code hmi hh
          rw [hyc] at hM hyin g5
          exact vx_runSN hfix hM ⟨⟨⟨g1, g2, g3, g4, g5, List.mem_singleton.mpr rfl⟩, hyin, w3, m2, m3, w1⟩, w2, trivial⟩ hpre rfl hlenn (hsz.trans hml) hst (eg_mcat (m := m) hc8) hd0 ⟨by rw [hRc]; exact hcN, by rw [hRs]; exact hsN⟩
      · cases hiv
    · have hins : ins = .invokevirtual i := by
        unfold eg_ik at hik
        split at hik <;> cases hik
        rfl
      subst hins
      have hl' : len = 3 := by simpa [eg_lok] using hlo
      subst hl'
      split at hiv
      · rename_i b rr hdrop
        split at hiv
        · rename_i hkd
          obtain ⟨hkd, hbG, his⟩ := hkd
          have hstl : st = st.take (eg_ma mi) ++ .ref b :: rr := by rw [← hdrop, List.take_append_drop]
          have hlt : eg_ma mi < st.length := by
            have := congrArg List.length hdrop
            simp at this
            omega
          refine eg_cl1_J hrec hle H0 hiv (fun v hv => by rw [hstl]; exact List.mem_append_right _ (List.mem_cons_of_mem _ hv)) (fun d' cN sN q1 G1 hdd hmi hcN hsN hc8 ad Hh locs ls hR hsz hS hM => ?_)
          subst hdd
          obtain ⟨g1, g2, g3, g4, g5⟩ := eg_cw0 (cN := cN) (sN := sN) hB0 hF hmi
          obtain ⟨m1, m2, m3, m4, m5⟩ := eg_mok_at hmi
          have hst : st.map (eg_v ad) = (((st.take (eg_ma mi)).reverse).map (eg_v ad)).reverse ++ .ref (ad b) :: rr.map (eg_v ad) := by
            rw [List.map_reverse, List.reverse_reverse]
            conv => lhs; rw [hstl]
            rw [List.map_append]
            rfl
          have hlenn : (((st.take (eg_ma mi)).reverse).map (eg_v ad)).length = eg_ma mi := by
            simp
            omega
          have hall : ∀ v ∈ (Value.ref b :: (st.take (eg_ma mi)).reverse), eg_okv G.2 v := fun v hv => by
            rcases List.mem_cons.mp hv with rfl | hv
            · exact eg_okr hbG
            · exact hS v (List.mem_of_mem_take (List.mem_reverse.mp hv))
          have hyin := hWa _ (eg_yw_in hmi)
          have hym : eg_mn mi = (eg_me mi).1.1 := by unfold eg_mn; rw [eg_mi_k hmi]
          have hh : eg_mh mi = none := by
            unfold eg_mh
            rw [eg_mi_k hmi]
            rcases hkd with rfl | rfl | rfl <;> exact eg_tok_0 htok (by simp) (by simp)
          have h14 : eg_oc kd mi < 14 := (eg_tok_1 htok hkd).1
          have hyc := eg_yw_code hmi hh
          rw [hyc] at hM hyin g5
          have hrv := eg_recv hF hR hbG his h14
          rcases hkd with rfl | rfl | rfl
          · have hcls : eg_cn2 (eg_oc 1 mi) = (eg_mn mi).cls := by
              rw [hym]
              exact (eg_tok_1 htok (by simp)).2.resolve_left (by simp)
            rw [hcls] at hrv
            have hpre : PreV s Hh (eg_mn mi).cls (ad b) (eg_Pc b0 D dA adc (.ref b :: (st.take (eg_ma mi)).reverse) ad G) (((st.take (eg_ma mi)).reverse).map (eg_v ad)) := ⟨eg_Pc_blind, hrv, eg_pc_at hF hR hall⟩
            have w1 := hWa _ (hws (.methodLink (eg_on (eg_mo k)) i (eg_me mi).1.1) (by simp [eg_mw]))
            have w2 := hWa _ (hws (.instanceMethod (eg_me mi).1.1) (by simp [eg_mw]))
            have w3 := hWa _ (hws (.initialized (eg_me mi).1.1.cls) (by simp [eg_mw]))
            have w4 := hWa _ (hws (.selects (eg_me mi).1.1.cls (eg_me mi).1.1 (eg_me mi).1.1) (by simp [eg_mw]))
            rw [← hym] at w1 w2 w3 w4
            exact vx_runV hfix hM ⟨⟨g1, g2, g3, g4, g5, List.mem_singleton.mpr rfl, hyin, w3, m2, m3, w1⟩, w2, w4⟩ hpre rfl hlenn (hsz.trans hml) hst (eg_mcat (m := m) hc8) hd0 ⟨by rw [hRc]; exact hcN, by rw [hRs]; exact hsN⟩
          · have hcls : eg_cn2 (eg_oc 4 mi) = (eg_mn mi).cls := by
              rw [hym]
              exact (eg_tok_1 htok (by simp)).2.resolve_left (by simp)
            rw [hcls] at hrv
            have hpre : PreV s Hh (eg_mn mi).cls (ad b) (eg_Pc b0 D dA adc (.ref b :: (st.take (eg_ma mi)).reverse) ad G) (((st.take (eg_ma mi)).reverse).map (eg_v ad)) := ⟨eg_Pc_blind, hrv, eg_pc_at hF hR hall⟩
            have w1 := hWa _ (hws (.methodLinkNest (eg_on (eg_mo k)) i (eg_me mi).1.1 (host.getD "")) (by simp [eg_mw]))
            have w2 := hWa _ (hws (.instanceMethod (eg_me mi).1.1) (by simp [eg_mw]))
            have w3 := hWa _ (hws (.initialized (eg_me mi).1.1.cls) (by simp [eg_mw]))
            have w4 := hWa _ (hws (.selects (eg_me mi).1.1.cls (eg_me mi).1.1 (eg_me mi).1.1) (by simp [eg_mw]))
            rw [← hym] at w1 w2 w3 w4
            exact vx_runVN hfix hM ⟨⟨⟨g1, g2, g3, g4, g5, List.mem_singleton.mpr rfl⟩, hyin, w3, m2, m3, w1⟩, w2, w4⟩ hpre rfl hlenn (hsz.trans hml) hst (eg_mcat (m := m) hc8) hd0 ⟨by rw [hRc]; exact hcN, by rw [hRs]; exact hsN⟩
          · have hyn : eg_mn mi = ⟨"java/lang/Enum", "ordinal", "()I"⟩ := by
              rw [hym]
              exact eg_tok_7 htok rfl
            have hpre : PreV s Hh "KnobEye$Word" (ad b) (eg_Pc b0 D dA adc (.ref b :: (st.take (eg_ma mi)).reverse) ad G) (((st.take (eg_ma mi)).reverse).map (eg_v ad)) := ⟨eg_Pc_blind, hrv, eg_pc_at hF hR hall⟩
            have w1 := hWa _ (hws (.methodLink (eg_on (eg_mo k)) i ⟨"KnobEye$Word", "ordinal", "()I"⟩) (by simp [eg_mw]))
            have w2 := hWa _ (hws (.instanceMethod (eg_me mi).1.1) (by simp [eg_mw]))
            have w3 := hWa _ (hws (.initialized (eg_me mi).1.1.cls) (by simp [eg_mw]))
            have w4 := hWa _ (hws (.selects "KnobEye$Word" ⟨"KnobEye$Word", "ordinal", "()I"⟩ (eg_me mi).1.1) (by simp [eg_mw]))
            have w5 := hWa _ (hws (.sameMethod "KnobEye$Word" "java/lang/Enum" "ordinal" "()I") (by simp [eg_mw]))
            rw [← hym] at w2 w3 w4
            have hdcl : va_Decl s ⟨"java/lang/Enum", "ordinal", "()I"⟩ := by
              rw [← hyn]
              exact va_Decl.of w2 hyin
            exact vx_runU (C := "KnobEye$Word") (owner := "java/lang/Enum") (x := ⟨"KnobEye$Word", "ordinal", "()I"⟩) hfix hM ⟨⟨g1, g2, g3, g4, g5, List.mem_singleton.mpr rfl⟩, hyin, w3, ⟨by decide, by decide⟩, fun sig hs => m3 sig (by rw [hyn]; exact hs), w1, w5, hdcl, w4, w2⟩ hpre rfl hlenn (hsz.trans hml) hst (eg_mcat (m := m) hc8) hd0 ⟨by rw [hRc]; exact hcN, by rw [hRs]; exact hsN⟩
        · cases hiv
      · cases hiv
    · rename_i hn0 hn1
      have hins : ins = .invokespecial i := by
        unfold eg_ik at hik
        split at hik <;> cases hik
        · exact absurd rfl hn0
        · exact absurd rfl hn1
        · rfl
      subst hins
      have hl' : len = 3 := by simpa [eg_lok] using hlo
      subst hl'
      split at hiv
      · rename_i hkd
        subst hkd
        split at hiv
        · rename_i a rr
          split at hiv
          · rename_i hc
            obtain ⟨hc8, hLl⟩ := hc
            have w1 := hWa _ (hws (.methodLink (eg_on (eg_mo k)) i objectInit) (by simp [eg_mw]))
            have w2 := hWa _ (hws (.instanceMethod objectInit) (by simp [eg_mw]))
            have w3 := hWa _ (hws (.code objectInit ⟨#[0xb1]⟩ 1 none) (by simp [eg_mw]))
            intro ad Hh locs ls hR hL hS
            have h9 := hrec scr d k (pc + 3) L rr G ck sk r G' ck' sk' hiv H0 ad Hh locs ls hR hL (fun v hv => hS v (List.mem_cons_of_mem _ hv))
            have hcat := eg_mcat (m := m) (ad := ad) hc8
            exact W.objInit (g := F0 m pc ls ((Value.ref a :: rr).map (eg_v ad))) hx hb hown w1 w2 w3 rfl (by rw [hml]; exact hL.1.1.trans hLl) rfl hd0 (by omega) (by
              have : 2 * (F0 m pc ls ((Value.ref a :: rr).map (eg_v ad))).monitorRoom + ((rr.map (eg_v ad)).map fun v => v.category).sum ≤ 8 := hcat
              omega) h9
          · cases hiv
        · cases hiv
      · rename_i hk6
        split at hiv
        · rename_i b rr hdrop
          split at hiv
          · rename_i hkd
            have hstl : st = st.take (eg_ma mi) ++ .ref b :: rr := by rw [← hdrop, List.take_append_drop]
            have hlt : eg_ma mi < st.length := by
              have := congrArg List.length hdrop
              simp at this
              omega
            refine eg_cl1_J hrec hle H0 hiv (fun v hv => by rw [hstl]; exact List.mem_append_right _ (List.mem_cons_of_mem _ hv)) (fun d' cN sN q1 G1 hdd hmi hcN hsN hc8 ad Hh locs ls hR hsz hS hM => ?_)
            subst hdd
            obtain ⟨g1, g2, g3, g4, g5⟩ := eg_cw0 (cN := cN) (sN := sN) hB0 hF hmi
            obtain ⟨m1, m2, m3, m4, m5⟩ := eg_mok_at hmi
            have hst : st.map (eg_v ad) = (((st.take (eg_ma mi)).reverse).map (eg_v ad)).reverse ++ .ref (ad b) :: rr.map (eg_v ad) := by
              rw [List.map_reverse, List.reverse_reverse]
              conv => lhs; rw [hstl]
              rw [List.map_append]
              rfl
            have hlenn : (((st.take (eg_ma mi)).reverse).map (eg_v ad)).length = eg_ma mi := by
              simp
              omega
            have hbG : b < G.2 := hS (.ref b) (by rw [hstl]; exact List.mem_append_right _ List.mem_cons_self) b rfl
            have hall : ∀ v ∈ (Value.ref b :: (st.take (eg_ma mi)).reverse), eg_okv G.2 v := fun v hv => by
              rcases List.mem_cons.mp hv with rfl | hv
              · exact eg_okr hbG
              · exact hS v (List.mem_of_mem_take (List.mem_reverse.mp hv))
            have hyin := hWa _ (eg_yw_in hmi)
            have hym : eg_mn mi = (eg_me mi).1.1 := by unfold eg_mn; rw [eg_mi_k hmi]
            have hh : eg_mh mi = none := by
              unfold eg_mh
              rw [eg_mi_k hmi]
              rcases hkd with rfl | rfl <;> exact eg_tok_0 htok (by simp) (by simp)
            have hnm : (eg_mn mi).name = "<init>" ∧ eg_mr mi = none := by
              rw [hym]
              unfold eg_mr
              rw [eg_mi_k hmi]
              exact eg_tok_2 htok hkd
            have hyc := eg_yw_code hmi hh
            rw [hnm.2] at hyc
            rw [hyc] at hM hyin g5
            have hpre : PreS s Hh (eg_Pc b0 D dA adc (.ref b :: (st.take (eg_ma mi)).reverse) ad G) (.ref (ad b) :: ((st.take (eg_ma mi)).reverse).map (eg_v ad)) := ⟨eg_Pc_blind, eg_pc_at hF hR hall⟩
            have w2 := hWa _ (hws (.instanceMethod (eg_me mi).1.1) (by rcases hkd with rfl | rfl <;> simp [eg_mw]))
            have w3 := hWa _ (hws (.initialized (eg_me mi).1.1.cls) (by rcases hkd with rfl | rfl <;> simp [eg_mw]))
            rw [← hym] at w2 w3
            rcases hkd with rfl | rfl
            · have w1 := hWa _ (hws (.methodLink (eg_on (eg_mo k)) i (eg_me mi).1.1) (by simp [eg_mw]))
              rw [← hym] at w1
              exact vx_runI hfix hM ⟨⟨g1, g2, g3, g4, g5, List.mem_singleton.mpr rfl, hyin, w3, m2, m3, w1⟩, hnm.1, w2⟩ hpre rfl hlenn (hsz.trans hml) hst (eg_mcat (m := m) hc8) hd0 ⟨by rw [hRc]; exact hcN, by rw [hRs]; exact hsN⟩
            · have w1 := hWa _ (hws (.methodLinkNest (eg_on (eg_mo k)) i (eg_me mi).1.1 (host.getD "")) (by simp [eg_mw]))
              rw [← hym] at w1
              exact vx_runIN hfix hM ⟨⟨⟨g1, g2, g3, g4, g5, List.mem_singleton.mpr rfl⟩, hyin, w3, m2, m3, w1⟩, hnm.1, w2⟩ hpre rfl hlenn (hsz.trans hml) hst (eg_mcat (m := m) hc8) hd0 ⟨by rw [hRc]; exact hcN, by rw [hRs]; exact hsN⟩
          · cases hiv
        · cases hiv
end In
theorem eg_one_S {rec : eg_Rec} (hrec : eg_Sd rec) (hle : eg_le rec) (hnl : nu_P rec) : eg_Sd (eg_one rec) := by
  intro scr d k pc L st G ck sk r G' ck' sk' h p l e R s m args below meth c Q b0 D dA adc n0 ad0 mc ms H
  unfold eg_one at h
  split at h
  · cases h
  · rename_i ins len hcd
    split at h
    · rename_i v hv
      cases h
      intro ad Hh locs ls hR hL hS
      exact H.2.2.2.2.2.2.1 ad Hh locs ls pc ins len st v hcd hv rfl hR hS
    · split at h
      · rename_i hsc
        exact eg_sc_J H hcd hsc (hrec _ _ _ _ _ _ _ _ _ _ _ _ _ h H)
      · split at h
        · rename_i q hq
          split at h
          · rename_i hc
            cases h
            intro ad Hh locs ls hR hL hS
            exact H.2.2.2.2.2.2.2.2 ad Hh locs ls pc ins len st q ck sk hcd hq rfl hR (by rw [hL.1.1, hc.2]; exact H.1.2.2.1.symm) hc.1 rfl rfl
          · cases h
        · split at h
          · rename_i t i hik
            exact eg_iv_J hrec hle H hcd hik h
          · unfold eg_nx at h
            split at h
            · rename_i hst
              have hJ := hrec _ _ _ _ _ _ _ _ _ _ _ _ _ h H
              obtain ⟨hd, hlo⟩ := eg_cd_dec hcd
              obtain ⟨b1, b2⟩ := hle _ _ _ _ _ _ _ _ _ _ _ _ _ h
              exact eg_step (eg_H_X H) hd hlo ((eg_st_up hst).2 mc ms (Nat.le_trans b1 H.2.2.2.2.1) (Nat.le_trans b2 H.2.2.2.2.2.1)) hJ (fun h151 => by
                obtain ⟨rfl, rfl⟩ := nu_site hcd h151
                have e0 : eg_cd 298 2 = some (.getstatic 1053, 3) := by decide +kernel
                rw [e0] at hcd
                cases hcd
                have e1 : eg_st (eg_mo 298) (eg_in 298) eg_MC eg_MS 2 3 (.getstatic 1053) L st G ck sk = some (5, L, .ref 151 :: st, G, ck, sk) := by
                  show (match (eg_sT.getD (eg_mo 298) []).lookup 1053 with
                    | some (k, _) => (match eg_sv[k]? with
                      | some (_, _, _, v) => some (2 + 3, L, v :: st, G, ck, sk)
                      | none => none)
                    | none => none) = _
                  rw [show (eg_sT.getD (eg_mo 298) []).lookup 1053 = some (23, none) from by decide +kernel]
                  dsimp only
                  rw [show eg_sv[23]? = some ("jdk/internal/util/Preconditions", "SIOOBE_FORMATTER", "Ljava/util/function/BiFunction;", Value.ref 151) from by decide +kernel]
                rw [e1] at hst
                cases hst
                exact hrec _ _ _ _ _ _ _ _ _ _ _ _ _ (hnl _ _ _ _ _ _ _ _ h) H)
            · cases h
theorem eg_sound : ∀ f : Nat, eg_Sd (eg_rn f)
  | 0 => fun _ _ _ _ _ _ _ _ _ _ _ _ _ h => nomatch h
  | f + 1 => eg_one_S (eg_sound f) (eg_rn_le f) (eg_rn_nl f)
end EGV
