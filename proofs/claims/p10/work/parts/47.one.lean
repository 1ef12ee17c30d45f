/-! ONE INSTRUCTION, AND ON -/
section ETP
variable {T : List et_D} {M : et_M} {Ks : List et_Co} {K : et_K} {R : List Value} {E : List et_N} {C : et_C} {L L2 : eg_Ls} {st st2 : List Value} {G : eg_G} {w w1 w2 : et_Wd} {Z : eg_O → Prop} {sc : eg_Sc} {scr : Option Nat} {rec : et_Rec} {hd : List et_L} {os : List et_O} {d k pc ck sk c0 s0 d2 : Nat}
section ETV
variable {rc : eg_Rec} {i mi kd : Nat} {x : Option String}
theorem et_v0 (hlk : (eg_mT.getD (eg_mo k) []).lookup i = some (mi, kd, x)) : eg_iv rc sc d k pc 0 i L st G ck sk = (if kd = 0 ∧ 309 ≤ mi ∧ mi ≤ 313 then (match eg_mt mi st with
        | some (v, r) => if eg_cat r ≤ 8 ∧ L.length = eg_mL k then rc sc d k (pc + 3) L (v :: r) G ck sk else none
        | none => none)
      else if (kd = 0 ∨ kd = 3) ∧ eg_ma mi ≤ st.length then eg_cl1 rc sc d k pc mi (st.take (eg_ma mi)).reverse (st.drop (eg_ma mi)) L G ck sk else none) := by
  unfold eg_iv
  rw [hlk]
  first | rfl | done
theorem et_v1 (hlk : (eg_mT.getD (eg_mo k) []).lookup i = some (mi, kd, x)) : eg_iv rc sc d k pc 1 i L st G ck sk = (match st.drop (eg_ma mi) with
      | .ref b :: r => if (kd = 1 ∨ kd = 4 ∨ kd = 7) ∧ b < G.2 ∧ eg_is (eg_at G b) (eg_oc kd mi) = true then eg_cl1 rc sc d k pc mi (.ref b :: (st.take (eg_ma mi)).reverse) r L G ck sk else none
      | _ => none) := by
  unfold eg_iv
  rw [hlk]
  first | rfl | done
theorem et_v2 {t : Nat} (hlk : (eg_mT.getD (eg_mo k) []).lookup i = some (mi, kd, x)) : eg_iv rc sc d k pc (t + 2) i L st G ck sk = (if kd = 6 then (match st with
        | .ref _ :: r => if eg_cat r ≤ 8 ∧ L.length = eg_mL k then rc sc d k (pc + 3) L r G ck sk else none
        | _ => none)
      else (match st.drop (eg_ma mi) with
        | .ref b :: r => if kd = 2 ∨ kd = 5 then eg_cl1 rc sc d k pc mi (.ref b :: (st.take (eg_ma mi)).reverse) r L G ck sk else none
        | _ => none)) := by
  unfold eg_iv
  rw [hlk]
  first | rfl | done
theorem et_w0 (hlk : (eg_mT.getD (eg_mo k) []).lookup i = some (mi, kd, x)) : et_iv T M Ks rec hd scr E C d k pc 0 i L st ck sk = (if kd = 0 ∧ 309 ≤ mi ∧ mi ≤ 313 then (match et_mt E mi st with
        | some (p, r) => if eg_cat r ≤ 8 ∧ L.length = eg_mL k ∧ E.length < 4294967296 then rec hd scr (E ++ [(p, none)]) C d k (pc + 3) L (et_tk p E.length :: r) ck sk else none
        | none => none)
      else if (kd = 0 ∨ kd = 3) ∧ eg_ma mi ≤ st.length then et_cl1 M Ks rec hd scr E C d k pc mi (st.take (eg_ma mi)).reverse (st.drop (eg_ma mi)) L ck sk else none) := by
  unfold et_iv
  rw [hlk]
  first | rfl | done
theorem et_w1 (hlk : (eg_mT.getD (eg_mo k) []).lookup i = some (mi, kd, x)) : et_iv T M Ks rec hd scr E C d k pc 1 i L st ck sk = (match st.drop (eg_ma mi) with
      | b :: r => if (kd = 1 ∨ kd = 4 ∨ kd = 7) ∧ et_cc T E b = some (eg_oc kd mi) then et_cl1 M Ks rec hd scr E C d k pc mi (b :: (st.take (eg_ma mi)).reverse) r L ck sk else none
      | _ => none) := by
  unfold et_iv
  rw [hlk]
  first | rfl | done
theorem et_w2 {t : Nat} (hlk : (eg_mT.getD (eg_mo k) []).lookup i = some (mi, kd, x)) : et_iv T M Ks rec hd scr E C d k pc (t + 2) i L st ck sk = (if kd = 6 then (match st with
        | b :: r => if (et_cc T E b).isSome = true ∧ eg_cat r ≤ 8 ∧ L.length = eg_mL k then rec hd scr E C d k (pc + 3) L r ck sk else none
        | _ => none)
      else (match st.drop (eg_ma mi) with
        | b :: r => if (kd = 2 ∨ kd = 5) ∧ (et_cc T E b).isSome = true then et_cl1 M Ks rec hd scr E C d k pc mi (b :: (st.take (eg_ma mi)).reverse) r L ck sk else none
        | _ => none)) := by
  unfold et_iv
  rw [hlk]
  first | rfl | done
end ETV
theorem et_iv_ok (hr : et_Ok T M rec) (hK : ∀ q ∈ Ks, et_cv T q) {t i : Nat} (h : et_iv T M Ks rec hd scr E C d k pc t i L st ck sk = some os) (hI : et_I T w.1 w.2.1 E C L st w.2.2 L2 st2) (h1 : c0 ≤ ck) (h2 : s0 ≤ sk) (hd2 : d ≤ d2) (hso : et_so scr sc w.2.1) (hh : ∀ h ∈ hd, et_hd T M sc d2 k h w Z) (hZ : ∀ o ∈ os, ∀ (w' : et_Wd) (u : eg_O), et_le M w w' → et_end T w' o u → Z u)
    (e : ∀ q, eg_one (eg_rn q) sc d2 k pc L2 st2 w.2.2 c0 s0 = eg_iv (eg_rn q) sc d2 k pc t i L2 st2 w.2.2 c0 s0) : et_go sc d2 k pc L2 st2 w.2.2 c0 s0 Z := by
  obtain ⟨hH, hE, hC, hL, hs⟩ := hI
  cases hlk : (eg_mT.getD (eg_mo k) []).lookup i with
  | none =>
    unfold et_iv at h
    rw [hlk] at h
    cases h
  | some y =>
    obtain ⟨mi, kd, x⟩ := y
    rcases t with _ | _ | t
    · rw [et_w0 hlk] at h
      split at h
      · rename_i hc
        split at h
        · rename_i p r hm
          split at h
          · rename_i hc2
            obtain ⟨v, r2, e1, hr2, hv⟩ := et_mt_ok hm hE hs
            have hle : et_le M w (w.1, w.2.1 ++ [v], w.2.2) := ⟨et_ex.rf, ⟨[v], rfl⟩, et_fr.rf⟩
            refine et_goS (fun q => ?_) (hr _ _ _ _ _ _ _ _ _ _ _ _ h sc (w.1, w.2.1 ++ [v], w.2.2) L2 (v :: r2) c0 s0 d2 Z ⟨hH, et_eo_mono hE hv, et_co_mono hC, et_lr_mono hL, ⟨_, _, rfl, et_tk_ok hv hE.1 hc2.2.2, et_sr_mono hr2⟩⟩ h1 h2 hd2 (et_so_app hso [v]) (fun h hm => et_hd_le (hh h hm) hle) (fun o ho w' u hl hen => hZ o ho w' u (hle.tr hl) hen))
            rw [e q, et_v0 hlk, if_pos hc, e1]
            dsimp only
            rw [if_pos ⟨by rw [et_sr_cat hr2]; exact hc2.1, by rw [et_lr_len hL]; exact hc2.2.1⟩]
          · cases h
        · cases h
      · rename_i hc
        split at h
        · rename_i hc2
          refine et_cl1_ok hr hK h hH hE hC hL (et_sr_rev (et_sr_take _ hs)) (et_sr_drop _ hs) h1 h2 hd2 hso hh hZ (fun q => ?_)
          rw [e q, et_v0 hlk, if_neg hc, if_pos ⟨hc2.1, by rw [et_sr_len hs]; exact hc2.2⟩]
        · cases h
    · rw [et_w1 hlk] at h
      split at h
      · rename_i b r hdr
        split at h
        · rename_i hc
          have hd3 := et_sr_drop (R := w.2.1) (eg_ma mi) hs
          rw [hdr] at hd3
          obtain ⟨y, r2, e1, hv, hr2⟩ := hd3
          have hv2 := hv
          obtain ⟨a, rfl, ha, his⟩ := et_cc_ok hc.2 hH hE hv
          refine et_cl1_ok hr hK h hH hE hC hL ⟨_, _, rfl, hv2, et_sr_rev (et_sr_take _ hs)⟩ hr2 h1 h2 hd2 hso hh hZ (fun q => ?_)
          rw [e q]
          refine (et_v1 hlk).trans ?_
          rw [e1]
          dsimp only
          rw [if_pos ⟨hc.1, ha, his⟩]
        · cases h
      · cases h
    · rw [et_w2 hlk] at h
      split at h
      · rename_i hc
        split at h
        · rename_i b r
          split at h
          · rename_i hc2
            obtain ⟨y, r2, rfl, hv, hr2⟩ := hs
            obtain ⟨ci, hci⟩ := Option.isSome_iff_exists.mp hc2.1
            obtain ⟨a, rfl, ha, his⟩ := et_cc_ok hci hH hE hv
            refine et_goS (fun q => ?_) (hr _ _ _ _ _ _ _ _ _ _ _ _ h sc w L2 r2 c0 s0 d2 Z ⟨hH, hE, hC, hL, hr2⟩ h1 h2 hd2 hso hh hZ)
            rw [e q]
            refine (et_v2 hlk).trans ?_
            rw [if_pos hc]
            dsimp only
            rw [if_pos ⟨by rw [et_sr_cat hr2]; exact hc2.2.1, by rw [et_lr_len hL]; exact hc2.2.2⟩]
          · cases h
        · cases h
      · rename_i hc
        split at h
        · rename_i b r hdr
          split at h
          · rename_i hc2
            have hd3 := et_sr_drop (R := w.2.1) (eg_ma mi) hs
            rw [hdr] at hd3
            obtain ⟨y, r2, e1, hv, hr2⟩ := hd3
            have hv2 := hv
            obtain ⟨ci, hci⟩ := Option.isSome_iff_exists.mp hc2.2
            obtain ⟨a, rfl, ha, his⟩ := et_cc_ok hci hH hE hv
            refine et_cl1_ok hr hK h hH hE hC hL ⟨_, _, rfl, hv2, et_sr_rev (et_sr_take _ hs)⟩ hr2 h1 h2 hd2 hso hh hZ (fun q => ?_)
            rw [e q]
            refine (et_v2 hlk).trans ?_
            rw [if_neg hc, e1]
            dsimp only
            rw [if_pos hc2.1]
          · cases h
        · cases h
theorem et_sc_ok {ins : Instr} {r : List Value} (h : et_sc scr ins E pc st = some r) (hso : et_so scr sc R) (hE : et_eo K R E) (hs : et_sr R st st2) : ∃ (v : Int32) (r2 : List Value), et_sr R r r2 ∧ eg_sc sc ins pc L2 st2 G c0 s0 = some (pc + 1, L2, .int v :: r2, G, c0, s0) := by
  unfold et_sc at h
  split at h
  · rename_i j k a r'
    split at h
    · rename_i hc
      cases h
      obtain ⟨n, f, x, e, hx, x0, xn⟩ := hso
      subst e
      obtain ⟨_, _, rfl, ⟨i, rfl, hi⟩, _, r2, rfl, rfl, hr⟩ := hs
      have key : 0 ≤ i.toInt ∧ i.toInt < n := by
        have hcc := hc.2
        unfold et_sj at hcc
        rw [Bool.or_eq_true] at hcc
        rcases hcc with hk | hk
        · have hk := of_decide_eq_true hk
          rw [hk, hx] at hi
          cases hi
          omega
        · split at hk
          · rename_i p j' c hEk
            rw [Bool.and_eq_true, Bool.and_eq_true] at hk
            have g1 := of_decide_eq_true hk.1
            have g2 := of_decide_eq_true hk.2.1
            have g3 := of_decide_eq_true hk.2.2
            subst g1
            obtain ⟨v, v1, -, v3⟩ := hE.2 _ _ _ hEk
            obtain ⟨y, z, y1, y2, y3⟩ := v3 _ _ rfl
            rw [hx] at y2
            cases y2
            rw [hi] at v1
            cases v1
            cases y1
            omega
          · cases hk
      refine ⟨f i.toNatClampNeg, r2, hr, ?_⟩
      unfold eg_sc
      dsimp only
      rw [if_pos ⟨hc.1, key⟩]
    · cases h
  · cases h
theorem et_ins_ok (hr : et_Ok T M rec) (hK : ∀ q ∈ Ks, et_cv T q) : et_Ok T M (et_ins T M Ks rec) := by
  intro hd scr E C d k pc L st ck sk os h sc w L2 st2 c0 s0 d2 Z hI h1 h2 hd2 hso hh hZ
  have hI0 := hI
  obtain ⟨hH, hE, hC, hL, hs⟩ := hI
  unfold et_ins at h
  split at h
  · cases h
  · rename_i ins len hcd
    split at h
    · rename_i hrt
      split at h
      · rename_i v hv
        cases h
        obtain ⟨u, e1, e2⟩ := et_rr_ok hv hE hs
        refine et_goR (u := (.inl u, w.2.2, c0, s0)) (fun r => ?_) (hZ _ List.mem_cons_self w _ et_le.rf ⟨rfl, hH, hE, hC, e2, h1, h2⟩)
        unfold eg_one
        rw [hcd]
        dsimp only
        rw [e1]
      · cases h
    · rename_i hrt
      have hno : eg_rr ins (eg_mr k) st2 = none := et_rr_no hrt
      split at h
      · rename_i r hsc
        split at h
        · rename_i hlen
          obtain ⟨v, r2, hr2, e1⟩ := et_sc_ok (L2 := L2) (G := w.2.2) (c0 := c0) (s0 := s0) hsc hso hE hs
          have hle : et_le M w (w.1, w.2.1 ++ [.int v], w.2.2) := ⟨et_ex.rf, ⟨[.int v], rfl⟩, et_fr.rf⟩
          refine et_goS (fun q => ?_) (hr _ _ _ _ _ _ _ _ _ _ _ _ h sc (w.1, w.2.1 ++ [.int v], w.2.2) L2 (.int v :: r2) c0 s0 d2 Z ⟨hH, et_eo_mono hE ⟨v, rfl, et_any v⟩, et_co_mono hC, et_lr_mono hL, ⟨_, _, rfl, ⟨v, rfl, by rw [et_tkl hlen]; exact et_new hE.1⟩, et_sr_mono hr2⟩⟩ h1 h2 hd2 (et_so_app hso _) (fun h hm => et_hd_le (hh h hm) hle) (fun o ho w' u hl hen => hZ o ho w' u (hle.tr hl) hen))
          unfold eg_one
          rw [hcd]
          dsimp only
          rw [hno]
          dsimp only
          rw [e1]
        · cases h
      · split at h
        · rename_i hns
          have hsn : eg_sc sc ins pc L2 st2 w.2.2 c0 s0 = none := et_ns_ok hns hso hH hE hs
          split at h
          · rename_i q hth
            split at h
            · rename_i hc
              cases h
              refine et_goR (u := (.inr q.2.2, w.2.2, c0 + 1, s0 + 6)) (fun r => ?_) (hZ _ List.mem_cons_self w _ et_le.rf ⟨rfl, hH, hE, hC, rfl, Nat.succ_le_succ h1, Nat.add_le_add_right h2 6⟩)
              unfold eg_one
              rw [hcd]
              dsimp only
              rw [hno]
              dsimp only
              rw [hsn]
              dsimp only
              rw [hth]
              dsimp only
              rw [if_pos ⟨by rw [et_sr_cat hs]; exact hc.1, by rw [et_lr_len hL]; exact hc.2⟩]
            · cases h
          · rename_i hth
            split at h
            · rename_i t i hik
              refine et_iv_ok hr hK h hI0 h1 h2 hd2 hso hh hZ (fun q => ?_)
              unfold eg_one
              rw [hcd]
              dsimp only
              rw [hno]
              dsimp only
              rw [hsn]
              dsimp only
              rw [hth]
              dsimp only
              rw [hik]
            · rename_i hik
              split at h
              · rename_i l hl
                split at hl
                · rename_i hln
                  obtain ⟨Y, hY, K', R1, L3, st3, G', c, s, e1, hx, hf, hI3, g1, g2⟩ := et_step_ok (M := M) (c0 := c0) (s0 := s0) hl (fun i n e => by subst e; exact of_decide_eq_true hln) hI0 h1 h2
                  obtain ⟨os1, q1, q2⟩ := et_bd_mem h hY
                  have hle : et_le M w (K', w.2.1 ++ R1, G') := ⟨hx, ⟨R1, rfl⟩, hf⟩
                  refine et_goS (fun q => ?_) (hr _ _ _ _ _ _ _ _ _ _ _ _ q1 sc (K', w.2.1 ++ R1, G') L3 st3 c s d2 Z hI3 g1 g2 hd2 (et_so_app hso R1) (fun h hm => et_hd_le (hh h hm) hle) (fun o ho w' u hl hen => hZ o (q2 o ho) w' u (hle.tr hl) hen))
                  unfold eg_one
                  rw [hcd]
                  dsimp only
                  rw [hno]
                  dsimp only
                  rw [hsn]
                  dsimp only
                  rw [hth]
                  dsimp only
                  rw [hik]
                  dsimp only
                  rw [e1]
                  rfl
                · cases hl
              · cases h
        · cases h
end ETP
