/-! CALLS -/
section ETO
variable {T : List et_D} {M : et_M} {Ks : List et_Co} {K : et_K} {R : List Value} {E : List et_N} {C : et_C} {L L2 : eg_Ls} {st st2 : List Value} {G : eg_G} {w w1 w2 : et_Wd} {Z : eg_O → Prop} {sc : eg_Sc} {scr : Option Nat} {rec : et_Rec} {hd : List et_L} {os : List et_O} {d k pc ck sk c0 s0 d2 : Nat}
theorem et_bk_ok (hr : et_Ok T M rec) {r r2 : List Value} {o : et_O} (h : et_bk rec hd scr d k pc L r ck sk o = some os) (hL : et_lr w.2.1 L L2) (hq : et_sr w.2.1 r r2) (h1 : c0 ≤ ck) (h2 : s0 ≤ sk) (hd2 : d ≤ d2) (hso : et_so scr sc w.2.1) (hh : ∀ h ∈ hd, et_hd T M sc d2 k h w Z) (hZ : ∀ o ∈ os, ∀ (w' : et_Wd) (u : eg_O), et_le M w w' → et_end T w' o u → Z u) {u : eg_O} (hl : et_le M w w1) (he : et_end T w1 o u) : ∃ o', (∃ g, ∀ q, g ≤ q → eg_bk (eg_rn q) sc d2 k pc L2 r2 c0 s0 (some u) = some o') ∧ Z o' := by
  obtain ⟨E', C', v, c, s⟩ := o
  obtain ⟨u1, G1, uc, us⟩ := u
  obtain ⟨e1, e2, e3, e4, e5, e6, e7⟩ := he
  dsimp only at e1 e3 e4 e5 e6 e7
  subst e1
  have hl2 := hl
  obtain ⟨a1, ⟨R1, a2⟩, a3⟩ := hl
  have hL1 : et_lr w1.2.1 L L2 := by rw [a2]; exact et_lr_app1 hL R1
  have hq1 : et_sr w1.2.1 r r2 := by rw [a2]; exact et_sr_app1 hq R1
  have hso1 : et_so scr sc w1.2.1 := by rw [a2]; exact et_so_app hso R1
  have hh1 : ∀ h ∈ hd, et_hd T M sc d2 k h w1 Z := fun h hm => et_hd_le (hh h hm) hl2
  cases v with
  | inl v =>
    dsimp only [et_bk] at h
    have key : ∀ v2 : Option Value, u1 = .inl v2 → et_sr w1.2.1 (v.toList ++ r) (v2.toList ++ r2) → ∃ o', (∃ g, ∀ q, g ≤ q → eg_bk (eg_rn q) sc d2 k pc L2 r2 c0 s0 (some (u1, w1.2.2, uc, us)) = some o') ∧ Z o' := fun v2 ev hs => by
      subst ev
      exact hr _ _ _ _ _ _ _ _ _ _ _ _ h sc w1 L2 _ (c0 + uc) (s0 + us) d2 Z ⟨e2, e3, e4, hL1, hs⟩ (Nat.add_le_add h1 e6) (Nat.add_le_add h2 e7) hd2 hso1 hh1 (fun o ho w' u' hle hen => hZ o ho w' u' (hl2.tr hle) hen)
    cases v with
    | none => exact key none e5 hq1
    | some v =>
      obtain ⟨x, e8, e9⟩ := e5
      exact key (some x) e8 ⟨_, _, rfl, e9, hq1⟩
  | inr x =>
    dsimp only [et_bk] at h
    have e5 : u1 = .inr x := e5
    subst e5
    split at h
    · rename_i hmh
      cases h
      refine ⟨(.inr x, w1.2.2, c0 + uc, s0 + us), ⟨0, fun q _ => ?_⟩, hZ _ List.mem_cons_self w1 _ hl2 ⟨rfl, e2, e3, e4, rfl, Nat.add_le_add h1 e6, Nat.add_le_add h2 e7⟩⟩
      unfold eg_bk
      dsimp only
      rw [hmh]
    · rename_i hh0 hmh
      split at h
      · rename_i hdl hhd
        split at h
        · rename_i i n hca
          split at h
          · rename_i hi
            obtain ⟨o', ⟨g, hg⟩, hZ'⟩ := hr _ _ _ _ _ _ _ _ _ _ _ _ h sc w1 (eg_sn L2 i) [] (c0 + uc) (s0 + us) d2 Z ⟨e2, e3, e4, et_lr_sn i hL1, rfl⟩ (Nat.add_le_add h1 e6) (Nat.add_le_add h2 e7) hd2 hso1 hh1 (fun o ho w' u' hle hen => hZ o ho w' u' (hl2.tr hle) hen)
            refine ⟨o', ⟨g, fun q hq => ?_⟩, hZ'⟩
            unfold eg_bk
            dsimp only
            rw [hmh]
            dsimp only
            rw [hhd]
            dsimp only
            rw [hca]
            dsimp only
            rw [if_pos (by rw [et_lr_len hL]; exact hi)]
            exact hg q hq
          · cases h
        · cases h
      · cases h
theorem et_co_ex {M' : et_M} {G' : eg_G} {K : et_K} (hH : et_H T K G) (hE : et_eo K R E) (hC : et_co R G C) (hf : et_fr M' K G G') : et_co R G' (et_kpM E M' C) := fun e he => by
  obtain ⟨he, hk⟩ := List.mem_filter.mp he
  rw [Bool.and_eq_true] at hk
  obtain ⟨a, x, q1, q0, q2, q3⟩ := hC e he
  refine ⟨a, x, q1, Nat.lt_of_lt_of_le q0 hf.1, ?_, q3⟩
  cases hb : et_rb E (.retAddr e.1) with
  | none => rw [hb] at hk; exact absurd hk.1 (by decide)
  | some p =>
    obtain ⟨nl, u⟩ := p
    have hv : et_vr R (.retAddr e.1) (.ref a) := ⟨.inr ⟨a, rfl⟩, q1⟩
    rcases et_rb_ok hb hE hv with ⟨-, h⟩ | ⟨-, a2, h, h3⟩
    · cases h
    · cases h
      rw [hf.2 a u h3]
      · exact q2
      · cases hm : et_mm M' u e.2.1 with
        | false => rfl
        | true =>
          exfalso
          obtain ⟨q, hq, hq2⟩ := List.any_eq_true.mp hm
          rw [Bool.and_eq_true, Bool.and_eq_true] at hq2
          have g0 : q.1 = u := eq_of_beq hq2.1
          have g1 := of_decide_eq_true hq2.2.1
          have g2 := of_decide_eq_true hq2.2.2
          have hkq := List.all_eq_true.mp hk.2 q hq
          unfold et_kp at hkq
          rw [hb] at hkq
          dsimp only at hkq
          rw [Bool.or_eq_true, Bool.or_eq_true] at hkq
          rcases hkq with h | h | h
          · simp [g0] at h
          · have := of_decide_eq_true h
            omega
          · have := of_decide_eq_true h
            omega
theorem et_ss_ok {M' : et_M} {G' : eg_G} {K : et_K} (hs : et_ss M' M = true) (h : et_fr M' K G G') : et_fr M K G G' := ⟨h.1, fun a t ha i hi => h.2 a t ha i (by
  cases hm : et_mm M' t i with
  | false => rfl
  | true =>
    exfalso
    obtain ⟨q, hq, hq2⟩ := List.any_eq_true.mp hm
    rw [Bool.and_eq_true, Bool.and_eq_true] at hq2
    have g0 : q.1 = t := eq_of_beq hq2.1
    have g1 := of_decide_eq_true hq2.2.1
    have g2 := of_decide_eq_true hq2.2.2
    obtain ⟨p, hp, hp2⟩ := List.any_eq_true.mp (List.all_eq_true.mp hs q hq)
    rw [Bool.and_eq_true, Bool.and_eq_true] at hp2
    have g3 : p.1 = q.1 := eq_of_beq hp2.1
    have g4 := of_decide_eq_true hp2.2.1
    have g5 := of_decide_eq_true hp2.2.2
    have : et_mm M t i = true := List.any_eq_true.mpr ⟨p, hp, by
      rw [Bool.and_eq_true, Bool.and_eq_true]
      exact ⟨beq_iff_eq.mpr (g3.trans g0), decide_eq_true (by omega), decide_eq_true (by omega)⟩⟩
    rw [this] at hi
    cases hi)⟩
theorem et_fz {ps : List et_P} : ∀ {as as2 : List Value}, et_sr R as as2 → as.length = ps.length → ((as.zip ps).all (fun z => et_ft E z.2 z.1 && et_kd z.2 z.1)) = true → et_eo K R E → (∀ a, a < 36 → K a = some 0) → ∀ (i : Nat) (p : et_P) (v : Value), ps[i]? = some p → as2[i]? = some v → et_v K p v := by
  induction ps with
  | nil => intro as as2 _ _ _ _ _ i p v h; cases h
  | cons p0 t ih =>
    intro as as2 hs hl ha hE hW i p v hi hv
    cases as with
    | nil => cases hl
    | cons a0 s =>
      obtain ⟨x, r, rfl, hx, hr⟩ := hs
      rw [List.zip_cons_cons, List.all_cons, Bool.and_eq_true, Bool.and_eq_true] at ha
      cases i with
      | zero =>
        cases hi
        cases hv
        exact et_ft_ok ha.1.1 hE hW hx
      | succ i => exact ih hr (Nat.succ.inj hl) ha.2 hE hW i p v hi hv
/-- a call by a contract -/
theorem et_kc_ok {mi : Nat} {as as2 : List Value} (h : et_kc M Ks E C d mi as = some os) (hK : ∀ q ∈ Ks, et_cv T q) (hH : et_H T w.1 w.2.2) (hE : et_eo w.1 w.2.1 E) (hC : et_co w.2.1 w.2.2 C) (ha : et_sr w.2.1 as as2) (hd2 : d ≤ d2) : et_go none d2 mi 0 (eg_en (eg_mL mi) as2) [] w.2.2 0 0 (fun u => ∃ o ∈ os, ∃ w', et_le M w w' ∧ et_end T w' o u) := by
  unfold et_kc at h
  split at h
  · rename_i q hq
    split at h
    · rename_i hc
      cases h
      have hq1 := List.find?_some hq
      have hq2 := hK q (List.mem_of_find?_eq_some hq)
      rw [Bool.and_eq_true, Bool.and_eq_true, Bool.and_eq_true] at hq1
      obtain ⟨b1, b2, b3, b4⟩ := hq1
      obtain ⟨m0, ps, Mq, es, dq⟩ := q
      have b1 : m0 = mi := eq_of_beq b1
      subst b1
      have b2 := of_decide_eq_true b2
      have b3 := of_decide_eq_true b3
      dsimp only at b2 b3 b4 hc
      obtain ⟨u, hu, e, he, K', g1, g2, g3, g4, g5, g6⟩ := hq2 w as2 d2 hH (Nat.le_trans b2 hd2) (by rw [et_sr_len ha]; exact b3) (et_fz ha b3 b4 hE hH.2.1)
      refine ⟨u, hu, et_cE E (et_kpM E Mq C) e, List.mem_map.mpr ⟨e, he, rfl⟩, ?_⟩
      have hco := et_co_ex hH hE hC g2
      obtain ⟨res, c, s⟩ := e
      have hE2 := et_eo_ex g1 hE
      cases res with
      | inl po =>
        cases po with
        | some p =>
          obtain ⟨v, e1, e2⟩ := g4
          exact ⟨(K', w.2.1 ++ [v], u.2.1), ⟨g1, ⟨[v], rfl⟩, et_ss_ok hc.1 g2⟩, rfl, g3, et_eo_mono hE2 e2, et_co_mono hco, ⟨v, e1, et_tk_ok e2 hE.1 hc.2⟩, g5, g6⟩
        | none => exact ⟨(K', w.2.1, u.2.1), ⟨g1, ⟨[], (List.append_nil _).symm⟩, et_ss_ok hc.1 g2⟩, rfl, g3, hE2, hco, g4, g5, g6⟩
      | inr x => exact ⟨(K', w.2.1, u.2.1), ⟨g1, ⟨[], (List.append_nil _).symm⟩, et_ss_ok hc.1 g2⟩, rfl, g3, hE2, hco, g4, g5, g6⟩
    · cases h
  · cases h
theorem et_cl1_ok (hr : et_Ok T M rec) (hK : ∀ q ∈ Ks, et_cv T q) {mi : Nat} {as as2 r r2 : List Value} (h : et_cl1 M Ks rec hd scr E C d k pc mi as r L ck sk = some os) (hH : et_H T w.1 w.2.2) (hE : et_eo w.1 w.2.1 E) (hC : et_co w.2.1 w.2.2 C) (hL : et_lr w.2.1 L L2) (ha : et_sr w.2.1 as as2) (hq : et_sr w.2.1 r r2) (h1 : c0 ≤ ck) (h2 : s0 ≤ sk) (hd2 : d ≤ d2) (hso : et_so scr sc w.2.1) (hh : ∀ h ∈ hd, et_hd T M sc d2 k h w Z) (hZ : ∀ o ∈ os, ∀ (w' : et_Wd) (u : eg_O), et_le M w w' → et_end T w' o u → Z u)
    (e : ∀ q, eg_one (eg_rn q) sc d2 k pc L2 st2 w.2.2 c0 s0 = eg_cl1 (eg_rn q) sc d2 k pc mi as2 r2 L2 w.2.2 c0 s0) : et_go sc d2 k pc L2 st2 w.2.2 c0 s0 Z := by
  unfold et_cl1 at h
  split at h
  · rename_i hc
    cases d with
    | zero => cases h
    | succ d =>
      obtain ⟨d2, rfl⟩ : ∃ d', d2 = d' + 1 := ⟨d2 - 1, by omega⟩
      dsimp only at h
      have key : ∀ os1, et_bd (et_bk rec hd scr (d + 1) k pc L r ck sk) os1 = some os → et_go none d2 mi 0 (eg_en (eg_mL mi) as2) [] w.2.2 0 0 (fun u => ∃ o ∈ os1, ∃ w', et_le M w w' ∧ et_end T w' o u) → et_go sc (d2 + 1) k pc L2 st2 w.2.2 c0 s0 Z := fun os1 hb hg => by
        refine et_goC (d' := d2) (mi := mi) (as2 := as2) (r2 := r2) (fun q => ?_) ?_
        · rw [e q]
          unfold eg_cl1
          rw [if_pos ⟨by rw [et_sr_cat hq]; exact hc.1, by rw [et_lr_len hL]; exact hc.2.1, by rw [et_lr_len (et_lr_en0 ha)]; exact hc.2.2.1, hc.2.2.2.1, hc.2.2.2.2⟩]
        · obtain ⟨u, hu, o, ho, w1, hl, hen⟩ := hg
          obtain ⟨os2, g1, g2⟩ := et_bd_mem hb ho
          exact ⟨u, hu, et_bk_ok hr g1 hL hq h1 h2 hd2 hso hh (fun o' ho' => hZ o' (g2 o' ho')) hl hen⟩
      split at h
      · cases h
      · rename_i os1 hm
        refine key os1 h ?_
        split at hm
        · rename_i os3 hkc
          cases hm
          exact et_kc_ok hkc hK hH hE hC ha (Nat.le_of_succ_le_succ hd2)
        · exact hr _ _ _ _ _ _ _ _ _ _ _ _ hm none w _ [] 0 0 d2 _ ⟨hH, hE, hC, et_lr_en (eg_mL mi) ha, rfl⟩ (Nat.le_refl _) (Nat.le_refl _) (Nat.le_of_succ_le_succ hd2) rfl (fun _ hm => absurd hm (List.not_mem_nil)) (fun o ho w' u hl hen => ⟨o, ho, w', hl, hen⟩)
  · cases h
theorem et_mt_ok {mi : Nat} {p : et_P} {r : List Value} (h : et_mt E mi st = some (p, r)) (hE : et_eo K R E) (hs : et_sr R st st2) : ∃ v r2, eg_mt mi st2 = some (v, r2) ∧ et_sr R r r2 ∧ et_v K p v := by
  unfold et_mt at h
  split at h
  · split at h
    · rename_i a b hb
      cases h
      obtain ⟨_, r2, rfl, hv, hr⟩ := hs
      obtain ⟨x, rfl, x1, x2⟩ := et_ib_ok hb hE hv
      refine ⟨_, r2, rfl, hr, ?_⟩
      split
      · rename_i h0
        have h3 : (0 : Int32) ≤ x := Int32.le_iff_toInt_le.mpr (show (0 : Int32).toInt ≤ x.toInt by have : (0 : Int32).toInt = 0 := rfl; omega)
        rw [if_pos h3]
        exact ⟨x, rfl, x1, x2⟩
      · exact ⟨_, rfl, et_any _⟩
    · cases h
  · split at h
    · rename_i a b c d hb1 hb2
      cases h
      obtain ⟨_, _, rfl, hv, _, r2, rfl, hu, hr⟩ := hs
      obtain ⟨x, rfl, x1, x2⟩ := et_ib_ok hb1 hE hu
      obtain ⟨y, rfl, y1, y2⟩ := et_ib_ok hb2 hE hv
      refine ⟨_, r2, rfl, hr, ?_⟩
      split
      · rename_i h0
        have := Int32.lt_iff_toInt_lt.mp h0
        exact ⟨y, rfl, by omega, by omega⟩
      · rename_i h0
        have : ¬ x.toInt < y.toInt := fun h => h0 (Int32.lt_iff_toInt_lt.mpr h)
        exact ⟨x, rfl, by omega, by omega⟩
    · cases h
  · split at h
    · rename_i a b c d hb1 hb2
      cases h
      obtain ⟨_, _, rfl, hv, _, r2, rfl, hu, hr⟩ := hs
      obtain ⟨x, rfl, x1, x2⟩ := et_ib_ok hb1 hE hu
      obtain ⟨y, rfl, y1, y2⟩ := et_ib_ok hb2 hE hv
      refine ⟨_, r2, rfl, hr, ?_⟩
      split
      · rename_i h0
        have := Int32.lt_iff_toInt_lt.mp h0
        exact ⟨y, rfl, by omega, by omega⟩
      · rename_i h0
        have : ¬ y.toInt < x.toInt := fun h => h0 (Int32.lt_iff_toInt_lt.mpr h)
        exact ⟨x, rfl, by omega, by omega⟩
    · cases h
  · split at h
    · rename_i a b c d hb1 hb2
      cases h
      obtain ⟨_, _, rfl, hv, _, r2, rfl, hu, hr⟩ := hs
      obtain ⟨x, rfl, x1, x2⟩ := et_lb_ok hb1 hE hu
      obtain ⟨y, rfl, y1, y2⟩ := et_lb_ok hb2 hE hv
      refine ⟨_, r2, rfl, hr, ?_⟩
      split
      · rename_i h0
        have := Int64.lt_iff_toInt_lt.mp h0
        exact ⟨y, rfl, by omega, by omega⟩
      · rename_i h0
        have : ¬ y.toInt < x.toInt := fun h => h0 (Int64.lt_iff_toInt_lt.mpr h)
        exact ⟨x, rfl, by omega, by omega⟩
    · cases h
  · split at h
    · rename_i a b c d hb1 hb2
      cases h
      obtain ⟨_, _, rfl, hv, _, r2, rfl, hu, hr⟩ := hs
      obtain ⟨x, rfl, x1, x2⟩ := et_lb_ok hb1 hE hu
      obtain ⟨y, rfl, y1, y2⟩ := et_lb_ok hb2 hE hv
      refine ⟨_, r2, rfl, hr, ?_⟩
      split
      · rename_i h0
        have := Int64.lt_iff_toInt_lt.mp h0
        exact ⟨x, rfl, by omega, by omega⟩
      · rename_i h0
        have : ¬ y.toInt < x.toInt := fun h => h0 (Int64.lt_iff_toInt_lt.mpr h)
        exact ⟨y, rfl, by omega, by omega⟩
    · cases h
  · cases h
theorem et_cc_ok {b x : Value} {ci : Nat} (h : et_cc T E b = some ci) (hH : et_H T K G) (hE : et_eo K R E) (hv : et_vr R b x) : ∃ a, x = .ref a ∧ a < G.2 ∧ eg_is (eg_at G a) ci = true := by
  unfold et_cc at h
  split at h
  · rename_i a
    have e : x = .ref a := hv
    split at h
    · rename_i ha
      cases h
      refine ⟨a, e, Nat.lt_of_lt_of_le (Nat.lt_of_lt_of_le ha (by decide)) hH.1, ?_⟩
      have h5 : eg_at G a = eg_con a := if_pos (Nat.lt_of_lt_of_le ha (by decide))
      rw [h5]
      unfold eg_con
      rw [if_pos ha]
      rfl
    · rename_i ha0
      split at h
      · rename_i ha
        cases h
        refine ⟨a, e, Nat.lt_of_lt_of_le (Nat.lt_of_lt_of_le ha (by decide)) hH.1, ?_⟩
        have h5 : eg_at G a = eg_con a := if_pos (Nat.lt_of_lt_of_le ha (by decide))
        rw [h5]
        unfold eg_con
        rw [if_neg ha0, if_pos (show a < 36 + eg_NS from ha)]
        rfl
      · cases h
  · split at h
    · rename_i nl t hb
      split at h
      · rename_i hn
        subst hn
        split at h
        · rename_i cj ps hT
          cases h
          rcases et_rb_ok hb hE hv with ⟨q, -⟩ | ⟨-, a, e, ha⟩
          · exact absurd q (by decide)
          · obtain ⟨g1, -, -, d, hd, hcell, hcx⟩ := hH.2.2 a t ha
            rw [hT] at hd
            cases hd
            obtain ⟨fs, e2, -⟩ := hcell
            refine ⟨a, e, g1, ?_⟩
            rw [e2]
            exact beq_self_eq_true _
        · cases h
      · cases h
    · cases h
end ETO
