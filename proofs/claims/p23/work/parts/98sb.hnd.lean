section
/-! BY HAND: the law: constructors, loop, end -/
section LSD
variable {sc : eg_Sc} {K K' : et_K} {d k pc ck sk : Nat} {L : eg_Ls} {st r : List Value} {G G' : eg_G} {Z : eg_O → Prop} {a b t p ci n m : Nat} {fs : List Value}
theorem ls_new {ci p : Nat} (hc : hs_nw k pc = some (ci, p)) (h1 : ck + 1 ≤ eg_MC) (h2 : sk + hs_cl ci ≤ eg_MS) (h : et_go sc d k p L (.ref G.2 :: st) (eg_p G (.inr (ci, eg_nc (hs_cl ci) ci))) (ck + 1) (sk + hs_cl ci) Z) : et_go sc d k pc L st G ck sk Z := by
  unfold hs_nw at hc
  split at hc
  · rename_i i e
    split at hc
    · rename_i cj hl
      split at hc
      · rename_i h0
        cases hc
        have e2 : eg_st (eg_mo k) (eg_in k) eg_MC eg_MS pc 3 (.new i) L st G ck sk = some (pc + 3, L, .ref G.2 :: st, eg_p G (.inr (ci, eg_nc (hs_cl ci) ci)), ck + 1, sk + hs_cl ci) := by
          show (match (eg_cT.getD (eg_mo k) []).lookup i with
            | some ci => if ci < 12 then eg_al eg_MC eg_MS pc 3 L st G ck sk (eg_cl.getD ci ("", eg_T0, 0)).2.2 (.inr (ci, eg_nc (eg_cl.getD ci ("", eg_T0, 0)).2.2 ci)) else none
            | none => none) = _
          rw [hl]
          dsimp only
          rw [if_pos h0.1]
          unfold eg_al
          exact if_pos ⟨h1, h2⟩
        refine et_goS (fun q => ?_) h
        unfold eg_one
        rw [e]
        dsimp only
        rw [et_rr_no (ins := .new i) (fun h => nomatch (show false = true from h))]
        dsimp only
        rw [ls_sc rfl]
        dsimp only
        rw [Option.isNone_iff_eq_none.mp h0.2]
        dsimp only
        rw [show eg_ik (.new i) = none from rfl]
        dsimp only
        rw [e2]
        rfl
      · cases hc
    · cases hc
  · cases hc

theorem ls_callp {mi na lk lm a : Nat} {as : List Value} {L0 : eg_Ls} (hc : hs_cp k pc = some (mi, na, lk, lm)) (hdr : st.drop na = .ref a :: r) (has : (st.take na).reverse = as) (hL : L.length = lk) (hr : Nat.ble (eg_cat r) 8 = true) (hn : Nat.ble (eg_en0 (.ref a :: as)).length lm = true) (hL0 : eg_en lm (.ref a :: as) = L0) (h : et_go none d mi 0 L0 [] G 0 0 (ls_cont sc (d + 1) k pc L r ck sk Z)) : et_go sc (d + 1) k pc L st G ck sk Z := by
  unfold hs_cp at hc
  split at hc
  · rename_i i _ e
    split at hc
    · rename_i mi' kd x hm
      split at hc
      · rename_i h0
        cases hc
        subst has hL0
        refine et_goC (fun q => ?_) h
        unfold eg_one
        rw [e]
        dsimp only
        rw [et_rr_no (ins := .invokespecial i) (fun h => nomatch (show false = true from h))]
        dsimp only
        rw [ls_sc rfl]
        dsimp only
        show eg_iv (eg_rn q) sc (d + 1) k pc (0 + 2) i L st G ck sk = _
        rw [et_v2 hm, if_neg (by omega), hdr]
        dsimp only
        rw [if_pos h0.1]
        unfold eg_cl1
        rw [if_pos ⟨Nat.le_of_ble_eq_true hr, hL, Nat.le_of_ble_eq_true hn, h0.2.1, h0.2.2⟩]
      · cases hc
    · cases hc
  · cases hc

theorem lt_newV (hc : hs_nw k pc = some (ci, p)) (h1 : ck + 1 ≤ 600002) (h2 : sk + n ≤ 7302232) (hn : hs_cl ci = n) (hfs : eg_nc n ci = fs) (hH : et_H et_TT K G) (h : ∀ (G' : eg_G) (a : Nat), puc K G' a (.inr (ci, fs)) → G.2 ≤ a → G.2 < G'.2 → (∀ b, b < G.2 → eg_at G' b = eg_at G b) → et_go sc d k p L (.ref a :: st) G' (ck + 1) (sk + n) Z) : et_go sc d k pc L st G ck sk Z := by
  subst hn
  refine ls_new hc h1 h2 ?_
  exact h _ _ (pu_new (fs := fs) (c := .inr (ci, eg_nc (hs_cl ci) ci)) hH (by rw [hfs])).1 (Nat.le_refl _) (Nat.lt_succ_self _) (fun b hb => et_at_p hb)

theorem lt_nb {kd : Nat} {ss : List (Nat × Nat × et_P)} (hc : hs_na k pc = some (kd, p)) (hT : et_TT[t]? = some (.inr (kd, n, ss))) (hs : (Nat.ble 2 t && ss.all (fun s => et_df0 s.2.2 (et_dv0 kd))) = true) (hn : (Int32.ofNat n).toNatClampNeg = n ∧ 0 ≤ (Int32.ofNat n).toInt ∧ (Int32.ofNat n).toInt ≤ 65536) (h1 : ck + 1 ≤ 600002) (h2 : sk + n ≤ 7302232) (hH : et_H et_TT K G) (h : ∀ (K' : et_K) (G' : eg_G) (b : Nat), pk K G K' G' → et_H et_TT K' G' → K' b = some t → G.2 ≤ b → et_go sc d k p L (.ref b :: r) G' (ck + 1) (sk + n) Z) : et_go sc d k pc L (.int (Int32.ofNat n) :: r) G ck sk Z := by
  rw [Bool.and_eq_true] at hs
  have ht := Nat.le_of_ble_eq_true hs.1
  have hnf : et_nf (et_dv0 kd) = true := by
    unfold et_dv0
    split
    · rfl
    · split <;> rfl
  have key : ∀ (x : vp_A), x.1 = n → (∀ i, eg_rd kd x i = some (et_dv0 kd)) → (kd = 0 → x.2 = .inl (fun _ => 0)) → et_go sc d k p L (.ref G.2 :: r) (eg_p G (.inl (kd, x))) (ck + 1) (sk + n) Z := fun x e1 e2 e3 => by
    have h3 := et_H1 (M := []) (c := .inl (kd, x)) hH ht hT ⟨x, rfl, e1, fun i _ => ⟨_, e2 i⟩, fun s hm i _ _ _ => ⟨_, e2 i, et_df0_ok hnf (List.all_eq_true.mp hs.2 s hm) hH.2.1⟩⟩ (fun h0 _ m W e => by
      have e4 := e3 h0
      have e : (Sum.inl (kd, x) : eg_C) = .inl (0, (m, .inl W)) := e
      have e5 : x = (m, .inl W) := by
        injection e with e
        injection e
      rw [e5] at e4
      have e4 : (Sum.inl W : (Nat → Int32) ⊕ _) = .inl (fun _ => 0) := e4
      injection e4 with e4
      rw [e4]
      exact gq_zero)
    exact h _ _ G.2 ⟨Nat.lt_succ_self _, fun a ha => ⟨if_neg (Nat.ne_of_lt ha), et_at_p ha⟩⟩ h3.2.2 (if_pos rfl) (Nat.le_refl _)
  have h12 : ck + 1 ≤ eg_MC ∧ sk + n ≤ eg_MS := ⟨h1, h2⟩
  unfold hs_na at hc
  split at hc
  · rename_i t e
    split at hc
    · rename_i kd' f hna
      cases hc
      refine ls_st e rfl rfl ?_ (key (f n) ?_ ?_ ?_)
      · dsimp only [eg_st]
        rw [hna]
        dsimp only
        rw [if_pos hn.2, hn.1]
        unfold eg_al
        rw [if_pos h12]
      · unfold eg_na at hna
        split at hna <;> cases hna <;> rfl
      · intro i
        unfold eg_na at hna
        split at hna <;> cases hna <;> rfl
      · intro h0
        unfold eg_na at hna
        split at hna <;> cases hna <;> first | rfl | (exact absurd h0 (by decide))
    · cases hc
  · rename_i i e
    split at hc
    · rename_i cj hcj
      split at hc
      · rename_i h0
        cases hc
        refine ls_st e rfl rfl ?_ (key (n, .inr (.inr (.inr (.inr (fun _ => none))))) rfl (fun i => ?_) (fun h9 => absurd h0.1 (by omega)))
        · dsimp only [eg_st]
          rw [hcj]
          dsimp only
          rw [if_pos ⟨hn.2.1, hn.2.2, h0⟩, hn.1]
          unfold eg_al
          rw [if_pos h12]
        · unfold eg_rd et_dv0
          dsimp only
          rw [if_pos h0.1, if_neg (by omega), if_pos h0.1]
          rfl
      · cases hc
    · cases hc
  · cases hc

theorem ls_dup1 {p a : Nat} (hc : hs_o k pc = some (.dup, p)) (h : et_go sc d k p L (.ref a :: .ref a :: r) G ck sk Z) : et_go sc d k pc L (.ref a :: r) G ck sk Z := by
  obtain ⟨e, rfl⟩ := hs_oc hc
  exact ls_st e rfl rfl rfl h

theorem ls_astore {i p a : Nat} (hc : hs_as k pc = some (i, p)) (hl : i < L.length) (h : et_go sc d k p (eg_s1 L i (.ref a)) st G ck sk Z) : et_go sc d k pc L (.ref a :: st) G ck sk Z := by
  unfold hs_as at hc
  split at hc
  · rename_i e
    cases hc
    exact ls_st e rfl rfl (by show eg_sa pc L (.ref a :: st) G ck sk _ 2 = _; unfold eg_sa; dsimp only; rw [if_pos hl]) h
  · rename_i e
    cases hc
    exact ls_st e rfl rfl (by show eg_sa pc L (.ref a :: st) G ck sk _ 1 = _; unfold eg_sa; dsimp only; rw [if_pos hl]) h
  · cases hc

theorem ls_zret {x : Int32} (hc : hs_re k pc = some (some .boolean)) (hx : x = 0 ∨ x = 1) (h : Z (.inl (some (.int x)), G, ck, sk)) : et_go sc d k pc L [.int x] G ck sk Z := by
  unfold hs_re at hc
  split at hc
  · rename_i e
    refine et_goR (u := (.inl (some (.int x)), G, ck, sk)) (fun q => ?_) h
    unfold eg_one
    rw [e]
    dsimp only
    rw [show eg_mr k = some .boolean from Option.some.inj hc]
    unfold eg_rr
    dsimp only
    rcases hx with rfl | rfl
    · rw [if_pos hs_nr0]
    · rw [if_pos hs_nr1]
  · cases hc

theorem li_cb {c s : Nat} {P : et_K → eg_G → Prop} {u : eg_O} (hu : pi_Z K G a t c s P u) (h : ∀ (K' : et_K) (G' : eg_G), pq a K G K' G' → et_H et_TT K' G' → K' a = some t → P K' G' → et_go sc d k (pc + 3) L r G' (ck + c) (sk + s) Z) : ls_cont sc d k pc L r ck sk Z u := by
  obtain ⟨K', h1, h2, h3, e, h5, h6, h7⟩ := hu
  obtain ⟨u1, u2, u3, u4⟩ := u
  have e : u1 = .inl none := e
  have h5 : u3 = c := h5
  have h6 : u4 = s := h6
  subst e h5 h6
  exact ls_cb (h K' u2 h1 h2 h3 h7)
theorem pk.ex (h : pk K G K' G') (hH : et_H et_TT K G) : et_ex K K' := fun _ _ hb => h.ty hH hb
theorem pk.fr (h : pk K G K' G') (hH : et_H et_TT K G) : et_fr [] K G G' := ⟨Nat.le_of_lt h.1, fun a u ha i _ => by rw [(h.2 a (hH.2.2 a u ha).1).2]⟩
theorem lw_le : ∀ n ∈ List.range 3073, (Int32.ofNat n - Int32.ofNat 6).toInt = (n : Int) - 6 := by decide +kernel
theorem lw_add {i : Nat} : Int32.ofNat i + Int32.ofInt 6 = Int32.ofNat (i + 6) := by
  rw [Int32.ofNat_add]
  rfl
end LSD
/-- how the law ends -/
def lq_Z (u : eg_O) : Prop := u.1 = .inl (some (.int 1)) ∧ u.2.2.1 ≤ 440000 ∧ u.2.2.2 ≤ 4100000
section LWB
variable {n : Nat} {f : Nat → Int32} {d th am out rd s0 s1 aw ai tp ba na tm : Nat} {K : et_K} {G : eg_G}
set_option maxRecDepth 100000 in
theorem lw_loop {j c h ck sk : Nat} {cn im : Nat → Nat} {x5 x6 : Option Value} (hn : n ≤ 3072) (hI : lw_I K G th am out rd s0 s1 aw ai tp ba na tm c h cn im) (hj : 6 * j ≤ n) (hck : ck ≤ 200 + 841 * j) (hsk : sk ≤ 340000 + 7168 * j) : et_go (some (n, f)) (d + 41) 1000 23 [some (.ref 150), some (.ref th), some (.ref am), some (.ref out), some (.int (Int32.ofNat (6 * j))), x5, x6] [] G ck sk lq_Z := by
  induction hm : 512 - j using Nat.strongRecOn generalizing j c h cn im ck sk x5 x6 K G with
  | _ z ih =>
    refine ls_iload (i := 4) (p := 25) (by decide +kernel) rfl ?_
    refine ls_aload (i := 0) (p := 26) (by decide +kernel) rfl ?_
    refine ls_len (p := 27) (by decide +kernel) ?_
    refine ls_k (x := Int32.ofNat 6) (p := 29) (by decide +kernel) ?_
    refine ls_isub (p := 30) (by decide +kernel) ?_
    refine ls_br2 (c := .gt) (t := 1662) (f := 33) (by decide +kernel) (fun (_ : (Int32.ofNat n - Int32.ofNat 6) < Int32.ofNat (6 * j)) => ?_) (fun (h : ¬ (Int32.ofNat n - Int32.ofNat 6) < Int32.ofNat (6 * j)) => ?_)
    · refine ls_k (x := Int32.ofNat 1) (p := 1663) (by decide +kernel) ?_
      refine ls_zret (by decide +kernel) (.inr rfl) ?_
      exact ⟨rfl, by show ck ≤ 440000; omega, by show sk ≤ 4100000; omega⟩
    · have hi : 6 * j + 6 ≤ n := by
        have h1 : ¬ (Int32.ofNat n - Int32.ofNat 6).toInt < (Int32.ofNat (6 * j)).toInt := fun g => h (Int32.lt_iff_toInt_lt.mpr g)
        rw [lw_le n (List.mem_range.mpr (by omega)), hs_nint (by omega)] at h1
        omega
      have hN : ∀ (K' : et_K) (G' : eg_G) (c' h' : Nat) (cn' im' : Nat → Nat) (ck' sk' : Nat) (y5 y6 : Option Value), lw_I K' G' th am out rd s0 s1 aw ai tp ba na tm c' h' cn' im' → ck' ≤ ck + 841 → sk' ≤ sk + 7168 → et_go (some (n, f)) (d + 41) 1000 1656 [some (.ref 150), some (.ref th), some (.ref am), some (.ref out), some (.int (Int32.ofNat (6 * j))), y5, y6] [] G' ck' sk' lq_Z := by
        intro K' G' c' h' cn' im' ck' sk' y5 y6 hI' h1 h2
        refine ls_iinc (i := 4) (n := 6) (p := 1659) (by decide +kernel) rfl (Nat.le_of_ble_eq_true rfl) ?_
        rw [lw_add]
        refine ls_goto (p := 23) (by decide +kernel) ?_
        show et_go (some (n, f)) (d + 41) 1000 23 [some (.ref 150), some (.ref th), some (.ref am), some (.ref out), some (.int (Int32.ofNat (6 * (j + 1)))), y5, y6] [] G' ck' sk' lq_Z
        exact ih (512 - (j + 1)) (by omega) (j := j + 1) hI' (by omega) (by omega) (by omega) rfl
      refine ls_aload (i := 0) (p := 34) (by decide +kernel) rfl ?_
      refine ls_iload (i := 4) (p := 36) (by decide +kernel) rfl ?_
      refine ls_scr (p := 37) (by decide +kernel) (by omega) hn ?_
      refine ls_k (x := Int32.ofNat 63) (p := 39) (by decide +kernel) ?_
      refine ls_iand (p := 40) (by decide +kernel) ?_
      refine ls_tsw (dd := 1616) (lo := 0) (hi := 38) (offs := #[172, 245, 270, 286, 302, 342, 355, 395, 451, 491, 504, 520, 572, 624, 673, 713, 753, 805, 857, 897, 949, 989, 1057, 1097, 1149, 1189, 1217, 1245, 1258, 1298, 1326, 1378, 1418, 1458, 1471, 1539, 1567, 1578, 1591]) (len := 172) (by decide +kernel) (by decide +kernel) (hN _ _ _ _ _ _ _ _ _ _ hI (by omega) (by omega)) (fun off ho => ?_)
      have ho : off ∈ [172, 245, 270, 286, 302, 342, 355, 395, 451, 491, 504, 520, 572, 624, 673, 713, 753, 805, 857, 897, 949, 989, 1057, 1097, 1149, 1189, 1217, 1245, 1258, 1298, 1326, 1378, 1418, 1458, 1471, 1539, 1567, 1578, 1591] := ho
      rcases List.mem_cons.mp ho with rfl | ho
      · exact lw_c0 hI hi hn hN
      rcases List.mem_cons.mp ho with rfl | ho
      · exact lw_c1 hI hi hn hN
      rcases List.mem_cons.mp ho with rfl | ho
      · exact lw_c2 hI hi hn hN
      rcases List.mem_cons.mp ho with rfl | ho
      · exact lw_c3 hI hi hn hN
      rcases List.mem_cons.mp ho with rfl | ho
      · exact lw_c4 hI hi hn hN
      rcases List.mem_cons.mp ho with rfl | ho
      · exact lw_c5 hI hi hn hN
      rcases List.mem_cons.mp ho with rfl | ho
      · exact lw_c6 hI hi hn hN
      rcases List.mem_cons.mp ho with rfl | ho
      · exact lw_c7 hI hi hn hN
      rcases List.mem_cons.mp ho with rfl | ho
      · exact lw_c8 hI hi hn hN
      rcases List.mem_cons.mp ho with rfl | ho
      · exact lw_c9 hI hi hn hN
      rcases List.mem_cons.mp ho with rfl | ho
      · exact lw_c10 hI hi hn hN
      rcases List.mem_cons.mp ho with rfl | ho
      · exact lw_c11 hI hi hn hN
      rcases List.mem_cons.mp ho with rfl | ho
      · exact lw_c12 hI hi hn hN
      rcases List.mem_cons.mp ho with rfl | ho
      · exact lw_c13 hI hi hn hN
      rcases List.mem_cons.mp ho with rfl | ho
      · exact lw_c14 hI hi hn hN
      rcases List.mem_cons.mp ho with rfl | ho
      · exact lw_c15 hI hi hn hN
      rcases List.mem_cons.mp ho with rfl | ho
      · exact lw_c16 hI hi hn hN
      rcases List.mem_cons.mp ho with rfl | ho
      · exact lw_c17 hI hi hn hN
      rcases List.mem_cons.mp ho with rfl | ho
      · exact lw_c18 hI hi hn hN
      rcases List.mem_cons.mp ho with rfl | ho
      · exact lw_c19 hI hi hn hN
      rcases List.mem_cons.mp ho with rfl | ho
      · exact lw_c20 hI hi hn hN
      rcases List.mem_cons.mp ho with rfl | ho
      · exact lw_c21 hI hi hn hN
      rcases List.mem_cons.mp ho with rfl | ho
      · exact lw_c22 hI hi hn hN
      rcases List.mem_cons.mp ho with rfl | ho
      · exact lw_c23 hI hi hn hN
      rcases List.mem_cons.mp ho with rfl | ho
      · exact lw_c24 hI hi hn hN
      rcases List.mem_cons.mp ho with rfl | ho
      · exact lw_c25 hI hi hn hN
      rcases List.mem_cons.mp ho with rfl | ho
      · exact lw_c26 hI hi hn hN
      rcases List.mem_cons.mp ho with rfl | ho
      · exact lw_c27 hI hi hn hN
      rcases List.mem_cons.mp ho with rfl | ho
      · exact lw_c28 hI hi hn hN
      rcases List.mem_cons.mp ho with rfl | ho
      · exact lw_c29 hI hi hn hN
      rcases List.mem_cons.mp ho with rfl | ho
      · exact lw_c30 hI hi hn hN
      rcases List.mem_cons.mp ho with rfl | ho
      · exact lw_c31 hI hi hn hN
      rcases List.mem_cons.mp ho with rfl | ho
      · exact lw_c32 hI hi hn hN
      rcases List.mem_cons.mp ho with rfl | ho
      · exact lw_c33 hI hi hn hN
      rcases List.mem_cons.mp ho with rfl | ho
      · exact lw_c34 hI hi hn hN
      rcases List.mem_cons.mp ho with rfl | ho
      · exact lw_c35 hI hi hn hN
      rcases List.mem_cons.mp ho with rfl | ho
      · exact lw_c36 hI hi hn hN
      rcases List.mem_cons.mp ho with rfl | ho
      · exact lw_c37 hI hi hn hN
      obtain rfl := List.mem_singleton.mp ho
      exact lw_c38 hI hi hn hN
end LWB
/-- the words and texts, before anything is made -/
def lw_K : et_K := fun a => if a < 36 then some 0 else none
theorem lw_wf : ∀ i ∈ List.range 36, (0 ≤ (eg_wf.getD i (0, 0, 0)).2.1.toInt ∧ (eg_wf.getD i (0, 0, 0)).2.1.toInt ≤ 3) ∧ 0 ≤ (eg_wf.getD i (0, 0, 0)).2.2.toInt ∧ (eg_wf.getD i (0, 0, 0)).2.2.toInt ≤ 2 := by decide +kernel
theorem lw_H0 {G : eg_G} (hG : G.2 = eg_NC) : et_H et_TT lw_K G := by
  refine ⟨by rw [hG]; exact Nat.le_refl _, fun a ha => if_pos ha, fun a t h => ?_⟩
  have h : (if a < 36 then some 0 else none) = some t := h
  by_cases ha : a < 36
  · rw [if_pos ha] at h
    cases h
    have hNC : (36 : Nat) ≤ eg_NC := by decide
    refine ⟨by rw [hG]; omega, fun _ => ha, fun h => absurd h (by decide), _, rfl, ?_, ?_⟩
    · rw [hw_at ha]
      obtain ⟨⟨b1, b2⟩, b3, b4⟩ := lw_wf a (List.mem_range.mpr ha)
      refine ⟨_, rfl, rfl, fun k p hk => ?_⟩
      match k, hk with
      | 0, hk => cases hk; exact ⟨_, rfl, .inr (hi_nv (by omega) (by omega))⟩
      | 1, hk => cases hk; exact ⟨_, rfl, .inl rfl⟩
      | 2, hk => cases hk; exact ⟨_, rfl, .inr ⟨_, rfl, b1, b2⟩⟩
      | 3, hk => cases hk; exact ⟨_, rfl, .inr ⟨_, rfl, b3, b4⟩⟩
      | n + 4, hk => cases hk
    · exact ⟨fun h => absurd h (by decide), fun h => absurd h (by decide)⟩
  · rw [if_neg ha] at h
    cases h
theorem lw_law {n : Nat} {f : Nat → Int32} {d : Nat} {G : eg_G} (hn : n ≤ 3072) (hG : G.2 = eg_NC) : et_go (some (n, f)) (d + 41) 1000 0 [some (.ref 150), none, none, none, none, none, none] [] G 0 0 lq_Z := by
  have hH0 := lw_H0 hG
  refine lt_newV (ci := 10) (n := 12) (fs := [.null, .null, .int 0, .null, .null, .null, .int 0, .int 0, .null, .null, .int 0, .null]) (p := 3) (by decide +kernel) (by omega) (by omega) (by decide +kernel) (by decide +kernel) hH0 (fun G1 th ho hge hlt he => ?_)
  refine ls_dup1 (p := 4) (by decide +kernel) ?_
  refine ls_callp (mi := 115) (na := 0) (lk := 7) (lm := 1) (L0 := eg_en (eg_mL 115) [.ref th]) (by decide +kernel) rfl rfl rfl rfl rfl (by rw [show eg_mL 115 = 1 from by decide +kernel]; first | done | rfl) ?_
  refine (pi_knob6 ho (by omega)).mono (fun u hZ => li_cb hZ (fun K2 G2 hq2 hH2 k_th hP => ?_))
  obtain ⟨hP, se_, q5s_, sq_, q6_, -⟩ := hP
  have sy_ : syB K2 G2 th := ⟨se_, q5s_, sq_⟩
  obtain ⟨hP, hp⟩ := hP
  obtain ⟨⟨rd, h3, k_rd, hl, ba, na, fba, fna, hbn⟩, s0, s1, ra0, ca0, ra1, ca1, q1, q2, q3, ⟨q4, q42, q47⟩, ⟨q5, q52, q57⟩, la0, ya0, la1, ya1, ta0, ta1, ⟨m03, m04, m13, m14⟩, kc_, ⟨nl_, ny_⟩, ⟨m08, m18, kt0_, kt1_, nt_⟩, ez_⟩ := hP
  have hrc : rc lw_ks K2 G2 th s0 s1 (fun _ => 0) (fun _ => 0) := ⟨⟨q4.1.1, q5.1.1, q3.1⟩, q2, fun q hq => by simp only [lw_ks, List.mem_cons, List.not_mem_nil, or_false] at hq; rcases hq with rfl | rfl | rfl | rfl | rfl <;> first | exact ⟨q4.2.2.1, q5.2.2.1⟩ | exact ⟨q47, q57⟩ | exact ⟨q4.2.2.2.2, q5.2.2.2.2⟩ | exact ⟨q42, q52⟩ | exact ⟨q4.2.2.2.1, q5.2.2.2.1⟩⟩
  obtain ⟨tp, r0, k_tp⟩ := hf_ref (t := 7) (f := 0) (u := 33) hH2 k_rd rfl rfl (.inr trivial)
  obtain ⟨b5, e5, k_ba⟩ := hf_ref (t := 7) (f := 5) (u := 21) hH2 k_rd rfl rfl (.inr trivial)
  obtain ⟨b6, e6, k_na⟩ := hf_ref (t := 7) (f := 6) (u := 21) hH2 k_rd rfl rfl (.inr trivial)
  obtain rfl : b5 = ba := Value.ref.inj (Option.some.inj (e5.symm.trans fba))
  obtain rfl : b6 = na := Value.ref.inj (Option.some.inj (e6.symm.trans fna))
  have htC : tC K2 G2 rd tp b5 b6 0 (fun _ => 0) := ⟨⟨k_tp, k_ba, k_na⟩, ⟨r0, fba, fna, hbn⟩, fun i hi => absurd hi (Nat.not_lt_zero i)⟩
  have hci : ci K2 G2 th := ⟨s0, s1, ra0, ca0, 0, 0, 0, ra1, ca1, 0, 0, 0, q1, q2, q3, ⟨q4.1, q4.2.1, q4.2.2, ⟨by decide, by decide, by decide⟩, fun n hn => absurd hn (Nat.not_lt_zero _), fun n hn => absurd hn (Nat.not_lt_zero _)⟩, ⟨q5.1, q5.2.1, q5.2.2, ⟨by decide, by decide, by decide⟩, fun n hn => absurd hn (Nat.not_lt_zero _), fun n hn => absurd hn (Nat.not_lt_zero _)⟩⟩
  show et_go _ _ 1000 7 _ [.ref th] _ _ _ _
  refine ls_astore (i := 1) (p := 8) (by decide +kernel) (Nat.le_of_ble_eq_true rfl) ?_
  refine lt_newV (ci := 11) (n := 36) (fs := [.int 0, .null, .null, .int 0, .null, .int 0, .int 0, .int 0, .int 0, .int 0, .int 0, .null, .int 0, .int 0, .null, .null, .int 0, .null, .null, .null, .null, .null, .null, .int 0, .int 0, .int 0, .int 0, .int 0, .int 0, .int 0, .null, .null, .null, .null, .null, .null]) (p := 11) (by decide +kernel) (by omega) (by omega) (by decide +kernel) (by decide +kernel) hH2 (fun G3 am ho hge hlt he => ?_)
  refine ls_dup1 (p := 12) (by decide +kernel) ?_
  refine ls_callp (mi := 174) (na := 0) (lk := 7) (lm := 1) (L0 := eg_en (eg_mL 174) [.ref am]) (by decide +kernel) rfl rfl rfl rfl rfl (by rw [show eg_mL 174 = 1 from by decide +kernel]; first | done | rfl) ?_
  refine (pi_model ho (Nat.zero_le _)).mono (fun u hZ => li_cb hZ (fun K4 G4 hq4 hH4 k_am hm => ?_))
  obtain ⟨hm, hg, aw, ai, hw1, hw2, k_aw, k_ai, hwA, hwI⟩ := hm
  have hrm : rm lw_ks K4 G4 am aw ai (fun _ => 0) (fun _ => 0) := ⟨⟨k_aw, k_ai⟩, ⟨hw1, hw2⟩, fun q hq => ⟨by rw [hwA, hf_pl (.inl rfl), if_pos (Nat.lt_of_lt_of_le (lw_kl q hq) (by decide))]; rfl, by rw [hwI, hf_pl (.inl rfl), if_pos (lw_kl q hq)]; rfl⟩⟩
  obtain ⟨tm, m4, k_tm⟩ := hf_ref (t := 13) (f := 4) (u := 34) hH4 k_am rfl rfl (.inr trivial)
  have htM : tM K4 G4 am tm 0 (fun _ => 0) := ⟨k_tm, m4, fun i hi => absurd hi (Nat.not_lt_zero i)⟩
  have hk := pk_of hq4 hge hlt he
  have hx := hk.ex hH2
  have hf := hk.fr hH2
  have hci := hci.fr hx hf rfl
  have m03 := (hf.2 s0 10 hrc.1.1 3 rfl).trans m03
  have m04 := (hf.2 s0 10 hrc.1.1 4 rfl).trans m04
  have m13 := (hf.2 s1 10 hrc.1.2.1 3 rfl).trans m13
  have m14 := (hf.2 s1 10 hrc.1.2.1 4 rfl).trans m14
  have m08 := (hf.2 s0 10 hrc.1.1 8 rfl).trans m08
  have m18 := (hf.2 s1 10 hrc.1.2.1 8 rfl).trans m18
  have kc_ := And.intro (hx _ _ kc_.1) (And.intro (hx _ _ kc_.2.1) (And.intro (hx _ _ kc_.2.2.1) (hx _ _ kc_.2.2.2)))
  have kt0_ := hx _ _ kt0_
  have kt1_ := hx _ _ kt1_
  have ez_ := ez_.fr k_th hrc.1.1 hrc.1.2.1 hx hf (by decide +kernel)
  have sy_ := sy_.fr k_th hx hf (by decide +kernel)
  have q6_ := (hf.2 th 12 k_th 6 rfl).trans q6_
  have hrc := hrc.fr k_th hx hf (by decide +kernel)
  have htC := htC.fr k_rd hx hf (by decide +kernel)
  have h3 := (hf.2 th 12 k_th 3 rfl).trans h3
  have hl := (hf.2 rd 7 k_rd 1 rfl).trans hl
  have hp := (hf.2 th 12 k_th 2 rfl).trans hp
  have k_th := hx _ _ k_th
  have k_rd := hx _ _ k_rd
  show et_go _ _ 1000 15 _ [.ref am] _ _ _ _
  refine ls_astore (i := 2) (p := 16) (by decide +kernel) (Nat.le_of_ble_eq_true rfl) ?_
  refine ls_k (x := Int32.ofNat 1) (p := 17) (by decide +kernel) ?_
  refine lt_nb (t := 31) (n := 1) (kd := 2) (p := 19) (by decide +kernel) rfl (by decide +kernel) ⟨(by decide +kernel), (by decide +kernel), (by decide +kernel)⟩ (by omega) (by omega) hH4 (fun K5 G5 out hk hH5 k_out _ => ?_)
  have hx := hk.ex hH4
  have hf := hk.fr hH4
  have hci := hci.fr hx hf rfl
  have m03 := (hf.2 s0 10 hrc.1.1 3 rfl).trans m03
  have m04 := (hf.2 s0 10 hrc.1.1 4 rfl).trans m04
  have m13 := (hf.2 s1 10 hrc.1.2.1 3 rfl).trans m13
  have m14 := (hf.2 s1 10 hrc.1.2.1 4 rfl).trans m14
  have m08 := (hf.2 s0 10 hrc.1.1 8 rfl).trans m08
  have m18 := (hf.2 s1 10 hrc.1.2.1 8 rfl).trans m18
  have kc_ := And.intro (hx _ _ kc_.1) (And.intro (hx _ _ kc_.2.1) (And.intro (hx _ _ kc_.2.2.1) (hx _ _ kc_.2.2.2)))
  have kt0_ := hx _ _ kt0_
  have kt1_ := hx _ _ kt1_
  have ez_ := ez_.fr k_th hrc.1.1 hrc.1.2.1 hx hf (by decide +kernel)
  have sy_ := sy_.fr k_th hx hf (by decide +kernel)
  have q6_ := (hf.2 th 12 k_th 6 rfl).trans q6_
  have hrc := hrc.fr k_th hx hf (by decide +kernel)
  have htC := htC.fr k_rd hx hf (by decide +kernel)
  have h3 := (hf.2 th 12 k_th 3 rfl).trans h3
  have hl := (hf.2 rd 7 k_rd 1 rfl).trans hl
  have hrm := hrm.fr k_am hx hf (by decide +kernel)
  have htM := htM.fr k_am hx hf (by decide +kernel)
  have hm := (hf.2 am 13 k_am 5 rfl).trans hm
  have hp := (hf.2 th 12 k_th 2 rfl).trans hp
  have hg := (hf.2 am 13 k_am 3 rfl).trans hg
  have k_th := hx _ _ k_th
  have k_rd := hx _ _ k_rd
  have k_am := hx _ _ k_am
  refine ls_astore (i := 3) (p := 20) (by decide +kernel) (Nat.le_of_ble_eq_true rfl) ?_
  refine ls_k (x := Int32.ofNat 0) (p := 21) (by decide +kernel) ?_
  refine ls_istore (i := 4) (p := 23) (by decide +kernel) (Nat.le_of_ble_eq_true rfl) ?_
  obtain ⟨t0, t1, ra0_, ca0_, rc0_, ec0_, cc0_, ra1_, ca1_, rc1_, ec1_, cc1_, hC_⟩ := id hci
  obtain rfl : s0 = t0 := Value.ref.inj (Option.some.inj (hrc.2.1.1.symm.trans hC_.2.1.1))
  obtain rfl : s1 = t1 := Value.ref.inj (Option.some.inj (hrc.2.1.2.symm.trans hC_.2.1.2))
  have hry := ry.init (aw := aw) (ai := ai) hH5 hC_ (hrc.2.2 (0, 0) (by decide)).1 hrm.1.1 hrm.1.2
  have hcy := cy.init (aw := aw) (ai := ai) hrc.1.1 hrc.1.2.1 kc_ hrm.1.1 hrm.1.2 nl_ ny_ m03 m04 m13 m14
  have hty := ty.init (aw := aw) (ai := ai) ⟨⟨hrc.1.1, hrc.1.2.1, kt0_, kt1_⟩, ⟨hrm.1.1, hrm.1.2⟩, nt_, hrc.1.2.2⟩ m08 m18
  have hzy := ez_.zy hrm.1.1 hrm.1.2
  have hsy := sy_
  exact lw_loop (j := 0) (c := 0) (h := 0) hn ⟨⟨hH5, hci, k_th, k_am, k_out, h3, k_rd, hl, hm, by decide⟩, ⟨by decide, hp, hg⟩, hrc, hrm, fun _ => Nat.zero_le _, fun _ => Nat.zero_le _, ⟨hry, hcy, hty, hzy, hsy, .inl q6_⟩, _, htC, htM, fun i hi => absurd hi (Nat.not_lt_zero i)⟩ (Nat.zero_le _) (by omega) (by omega)
end
section
theorem whole_start {p : Program} {e : Env} {s : State} {m : MethodId} {below : List Frame} {meth : Method} {c : Code} (l : Launch) (hflags : l.flags = flags0) {b L : Nat} {xs : Nat → Int32} (hL : L ≤ 3072) (C0 : lw_At p s m meth c b L xs) : W p l e room_1 s m #[Value.ref b] below meth c s.heap [] 0 0 (lw_Z below #[Value.ref b] s) (entryFrame m ([Value.ref b] : List Value).toArray 7) := by
  obtain ⟨D, dA, adc, hF, hb150⟩ := eg_entry C0
  obtain ⟨hx, hcd, hr, hml, hown, hts, hX, hbl, hlocks, hpre⟩ := C0
  obtain ⟨o, ⟨f, hev⟩, hZ⟩ : ∃ o, (∃ f, eg_rn f (some (L, xs)) 1700 eg_LK 0 (eg_en 7 [.ref 150]) [] eg_G0 0 0 = some o) ∧ lq_Z o := by
    obtain ⟨o, ⟨g, hg⟩, hZ⟩ := lw_law (n := L) (f := xs) (d := 1659) (G := eg_G0) hL rfl
    exact ⟨o, ⟨g, hg g (Nat.le_refl _)⟩, hZ⟩
  obtain ⟨r1, G', c1, s1⟩ := o
  obtain ⟨hr1, hc1, hs1⟩ := hZ
  have hr1 : r1 = .inl (some (.int 1)) := hr1
  subst hr1
  have hc1 : c1 ≤ 601024 := Nat.le_trans (show c1 ≤ 440000 from hc1) (by decide)
  have hs1 : s1 ≤ 7293034 := Nat.le_trans (show s1 ≤ 4100000 from hs1) (by decide)
  have hlf : l.stackTraces = false := by
    unfold Launch.stackTraces
    rw [hflags]
    decide +kernel
  have hmiL : eg_mi eg_LK = eg_ml := if_pos rfl
  have hB : eg_B p s m meth c room_1 eg_LK 1700 601024 7293034 := by
    refine ⟨hx, ?_, ?_, ?_, hlocks, ?_, ?_, fun h9 => absurd rfl h9, rfl, rfl, by decide, by decide⟩
    · unfold eg_mb; rw [hmiL]; exact hcd
    · unfold eg_mL; rw [hmiL]; exact hml
    · unfold eg_mo; rw [hmiL]; exact hown
    · unfold eg_mr; rw [hmiL]; exact hr
    · unfold eg_in eg_mn; rw [hmiL]; intro h9; exact absurd h9 (by decide +kernel)
  have hJ := eg_sound f (some (L, xs)) 1700 eg_LK 0 _ _ _ 0 0 _ G' c1 s1 hev (p := p) (l := l) (e := e) (R := room_1) (s := s) (m := m) (args := #[Value.ref b]) (below := below) (meth := meth) (c := c) (Q := lw_Z below #[Value.ref b] s) (b0 := s.heap.size) (D := D) (dA := dA) (adc := adc) (n0 := eg_NC) (ad0 := adc) (mc := 601024) (ms := 7293034) ⟨hB, hF, hlf, (fun n f h9 => by
      cases h9
      rw [hb150]
      exact ⟨hX, hbl, Nat.not_le.mpr hbl⟩), hc1, hs1, (fun ad H locs ls pc ins len st v hcd2 hrr hrv hR hok => by
      cases hrv
      obtain ⟨hd, hlo⟩ := eg_cd_dec hcd2
      obtain ⟨hP, hD, hS0, hokG, hag⟩ := hR
      unfold eg_rr at hrr
      split at hrr <;> first | cases hrr | skip
      rename_i ty x hret
      split at hrr
      · cases hrr
        have hl' : len = 1 := by simpa [eg_lok] using hlo
        subst hl'
        unfold eg_mb at hd
        rw [hmiL] at hd
        refine va_forget (fun q hq => hS0.2.2 q hq) (W.widen hc1 hs1 ?_)
        exact lw_ret hx hcd hr hlocks hd
      · cases hrr), (fun _ _ _ _ _ _ _ _ _ _ h9 => nomatch h9), (fun _ _ _ _ _ _ _ _ _ _ _ _ _ h9 => nomatch h9)⟩
  have h0 : eg_ok eg_G0 := ⟨Nat.le_refl _, fun i h1 h2 => absurd h2 (Nat.not_lt.mpr h1)⟩
  have hws : eg_ws adc dA eg_G0 = [] := rfl
  have hv : ∀ v ∈ [Value.ref 150], eg_okv eg_G0.2 v := fun v hv => by
    rw [List.mem_singleton.mp hv]
    exact eg_okr (by decide)
  have hP0 : va_P D eg_cl (eg_ws adc dA eg_G0) s.heap := by
    rw [hws]
    exact (fun k q h => nomatch h)
  have hD0 : va_D (eg_A s.heap.size) (eg_ws adc dA eg_G0) := by
    rw [hws]
    exact ⟨(fun i j p q h => nomatch h), (fun k q h => nomatch h)⟩
  have h9 := hJ adc s.heap [] _ ⟨hP0, hD0, va_S.rf, h0, (fun _ _ => rfl), Nat.le_refl _, (fun _ _ => rfl)⟩ (eg_en_LR (ad := adc) (n := 7) (as := [.ref 150]) (by decide) hv) (fun _ h => nomatch h)
  have e1 : ([Value.ref 150] : List Value).map (eg_v adc) = [Value.ref b] := by
    show [Value.ref (adc 150)] = _
    rw [hb150]
  rw [e1] at h9
  rw [lg_entry_eq]
  exact h9
set_option maxHeartbeats 4000000 in
theorem lw_walk (l : Launch) (hflags : l.flags = flags0) (b : Addr) (xs : List Int32) : MetFree l x (headSpec (Jvm.Cond.code x code maxLocals ret :: tables_1) room_1) (lw_P b xs) (fun _ _ _ _ _ => True) lw_Q := by
  refine MetFree.of_bodyS (code := code) (maxLocals := maxLocals) (ret := ret) (by decide) ?_ ?_
  · intro args s m h hn
    obtain ⟨meth, c, h1, h2, h3, h4, h5, h6, -, -⟩ := Cond.code_spec hn (atoms_spec (ws := Jvm.Cond.code x code maxLocals ret :: tables_1) h _ List.mem_cons_self)
    exact ⟨meth, c, h1, h2, h3, h4, h5, h6⟩
  · intro p e s m args below meth c s₁ B hml0 hP _
    obtain ⟨rfl, hx, hbd, hgv⟩ := hP
    obtain ⟨scr, harrAt, hlist, hof, hsmall⟩ := hx
    obtain ⟨hcb, hkn, -, -⟩ := State.arrayAt?_spec harrAt
    have hown : s.vm.findClass R_law = some m.cls := findClass_of_methodNamed B.named
    have hts0 : ∀ c ∈ (Jvm.Cond.code x code maxLocals ret :: tables_1), c.before #[Value.ref b] s = true := atoms_spec (ws := Jvm.Cond.code x code maxLocals ret :: tables_1) B.pre
    have hts : ∀ w ∈ lw_tbl, w.before #[Value.ref b] s = true := k2_hts_sels lw_privs (fun w hw => hts0 w (List.mem_cons_of_mem _ hw)) lw_privs_ok
    have hml : c.maxLocals = 7 := B.maxLocals_eq (hts0 _ List.mem_cons_self)
    have X₀ : Stand p l e room_1 s m #[Value.ref b] below meth c s₁ [] 0 0 := Stand.of_body B
    have hh0 : s₁.heap = s.heap := by rw [B.state]; rfl
    have hsz : scr.slots.size = xs.length := by rw [← Array.length_toList, hlist, List.length_map]
    have hval : ∀ j : Nat, j < xs.length → scr.slots[j]? = some (.int (xs.getD j 0)) := fun j hj => by
      rw [← Array.getElem?_toList, hlist]
      simp [hj]
    have hbl : b < s.heap.size := (Array.getElem?_eq_some_iff.mp hcb).1
    have hX : va_X b xs.length (fun j => xs.getD j 0) s s.heap := ⟨scr, hcb, hof, hkn, hsz, hval⟩
    have K : W p l e room_1 s m #[Value.ref b] below meth c s₁.heap [] 0 0 (lw_Z below #[Value.ref b] s) (entryFrame m ([Value.ref b] : List Value).toArray 7) := by
      rw [hh0]
      exact whole_start l hflags hbd ⟨B.exec, B.bytes, B.returns, hml, hown, hts, hX, hbl, B.notSynchronized, hgv⟩
    obtain ⟨t, a1, o, b1, b2, b3⟩ := K s₁ rfl X₀
    exact ⟨t, o, a1, b1, b2, b3⟩
theorem lw_pre_spec {args : Array Value} {s : State} (h : (Jvm.Cond.and given_1 narrow_1).before args s = true) (hr : rest_1_c.before args s = true) : ∃ (b : Addr) (xs : List Int32), lw_P b xs args s := by
  have hs := flat_of_before _ h
  have hq := flat_of_before _ hr
  have hc : (Cond.count 1).before args s = true := hs _ (by decide +kernel)
  have harr : (Cond.arrayOf (.arg 0) .int).before args s = true := hs _ (by decide +kernel)
  have hle : (Cond.le (.length (.arg 0)) (.int 3072)).before args s = true := hs _ (by decide +kernel)
  have hlen : (Cond.isInt (.length (.arg 0))).before args s = true := hq _ (by decide +kernel)
  have hall : (Cond.all (.arg 0) (.isInt (.elem (.arg 0) (.index 0)))).before args s = true := hq _ (by decide +kernel)
  obtain ⟨b, xs, hb, hx⟩ := State.ints_of_pre rfl harr hlen hall
  have hsm : xs.length < 2 ^ 31 := hx.choose_spec.2.2.2
  have hev : (Term.length (.arg 0)).eval args s none [] s = some (.int xs.length.toInt32) := hx.length_eval hb
  have hv := Cond.le_ints hev (show (Term.int 3072).eval args s none [] s = some (.int 3072) from rfl)
  have hd : xs.length.toInt32 ≤ 3072 := by
    simpa [Cond.before, Cond.holds, hv] using hle
  have hN : xs.length ≤ 3072 := (Int32.ofNat_le_ofNat hsm (by decide)).mp (show Int32.ofNat xs.length ≤ Int32.ofNat 3072 from hd)
  exact ⟨b, xs, Cond.one_arg hc (show args[0]? = some (.ref b) from hb), hx, hN, h⟩
theorem lw_comes (l : Launch) (hflags : l.flags = flags0) : Comes l x (Jvm.Cond.code x code maxLocals ret :: tables_1) room_1 (fun tb e args s => Calls_1 tb e args s ∧ rest_1 tb e args s ∧ Pre_1 tb e args s)
    (fun _ _ args s o t => lw_Q args s o t) := by
  intro p e ha hc hk s m args below hf hfit hheap happ hpre
  obtain ⟨b, xs, hP⟩ := lw_pre_spec hpre.2.2 hpre.2.1
  obtain ⟨k, o, h1, h2, h3, hQ⟩ := lw_walk l hflags b xs p e ha hc hk s m args below hf ((Spec.applies_iff_loose hf).mp happ).1 hP trivial
  exact ⟨k, o, h1, h2, h3, hQ⟩
theorem lw_frame {s t : State} {o : Outcome} {args : Array Value} (h : Framed s o t [] 601024 7293034) :
    Framed s o t (fieldLocs frame_1_writes args s ++ arrayLocs frame_1_arrays args s ++ staticLocs frame_1_statics s) 601024 7293034 := h
theorem lw_limb (L : Cond) (hL : ∀ (args : Array Value) (s t : State), L.after args s (.returned (some (.int 1))) t = true) :
    ArmFor flags0 classFile x code maxLocals ret World_1 tables_1 room_1 Calls_1 rest_1 Pre_1
      (fun tb e a s o t => postC L tb e a s o t ∧ Framed s o t (fieldLocs frame_1_writes a s ++ arrayLocs frame_1_arrays a s ++ staticLocs frame_1_statics s) 601024 7293034) := by
  intro l hflags _ _ p e ha hc hk s m args below hf hfit hheap happ hpre
  obtain ⟨k, o, h1, h2, h3, rfl, hF⟩ := lw_comes l hflags p e ha hc hk s m args below hf hfit hheap happ hpre
  exact ⟨k, _, h1, h2, h3, hL args s _, lw_frame hF⟩
theorem i_vc : Claimed_1_1 ∧ Claimed_1_2 := ⟨lw_limb limb_1_1 (fun args s t => by simp [limb_1_1, Cond.after, Cond.holds, Cond.value]), lw_limb limb_1_2 (fun args s t => Cond.after_iff.mpr (by
  first | (rw [show limb_1_2 = Cond.eq .result (.int 1) from rfl, Cond.eq_ints (x := 1) (y := 1) rfl rfl]; simp; done) | (simp [limb_1_2, Cond.value, Term.eval]; done)))⟩
end
