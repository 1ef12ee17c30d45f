/-! FUNCTIONAL: the class's takeCondition -/
theorem ts_34 {b : Nat → Nat} {pl n p : Nat} : ∀ t ∈ tz_ts pl b n p, ¬ t.1 = 34 := by
  intro t ht h
  unfold tz_ts at ht
  obtain ⟨q, hq, rfl⟩ := List.mem_map.mp ht
  have h : tz_wd pl b n q = 34 := h
  unfold tz_wd at h
  split at h
  · cases h
  · have h2 := tz_fd_is (pl := pl) (i := q) (e := tz_end b n q) (b := b) 36 0 (by omega)
    rw [h, Bool.and_eq_true] at h2
    have h3 := h2.2
    unfold tz_is at h3
    rw [Bool.and_eq_true, beq_iff_eq, show (tz_tx 34).length = 0 from by decide +kernel] at h3
    have := tz_en_le (b := b) (n := n) (n - (q + 1)) (q + 1)
    have h4 : tz_end b n q = tz_en b n (n - (q + 1)) (q + 1) := rfl
    omega
theorem wat_34 {L : List sp_T} {y : Nat} (h34 : ∀ t ∈ L, ¬ t.1 = 34) : wat L y = 34 ↔ L.drop y = [] := by
  rcases wat_c L y with ⟨-, h2, h3⟩ | ⟨n, h1, h2⟩
  · exact ⟨fun _ => h3, fun _ => h2⟩
  · refine ⟨fun h => absurd h (h34 _ (List.mem_of_getElem? h1)), fun h => ?_⟩
    rw [h] at h2
    cases h2
/-- a call that makes pieces: its answer's text -/
def tcZ (S : Nat → Nat → Prop) (sp : Option (sp_E → Bool)) (K : et_K) (G : eg_G) (u : eg_O) : Prop := ∃ (K' : et_K) (G' : eg_G) (v : Value) (c s : Nat), u = (.inl (some v), G', c, s) ∧ et_ex K K' ∧ et_H et_TT K' G' ∧ xf S G G' ∧ ((sp = none ∧ v = .null) ∨ ∃ (f : sp_E → Bool) (bb N : Nat), sp = some f ∧ v = .ref bb ∧ K' bb = some 6 ∧ G.2 ≤ bb ∧ dn G' N G.2 G'.2 bb f)
section FGA2
variable {K : et_K} {G G0 : eg_G} {L : List sp_T} {d2 d rd x : Nat} {b : Nat → Nat}

theorem fc_tcB (hH : et_H et_TT K G) (k_rd : K rd = some 7) (htk : tk K G rd L) (htl : tl L) (r8 : et_pl (eg_at G rd) 8 = some (.int (Int32.ofNat x))) (hx : x ≤ L.length) (r2 : et_pl (eg_at G rd) 2 = some (.int (-1))) (h34 : ∀ t ∈ L, ¬ t.1 = 34) {x1 : Option Value} : et_go none (d + 25) 66 5 [some (.ref rd), x1, none] [] G 0 0 (tcZ (rxS rd) (sp_one (L.drop x)) K G) := by
  have lt_rd := (hH.2.2 _ _ k_rd).1
  have hX : xf (fun b j => (b = rd ∧ (2 ≤ j ∧ j ≤ 3)) ∨ (b = rd ∧ j = 8)) G G := xf.rf
  have hx0 : et_ex K K := et_ex.rf
  have hl4 : L.length ≤ 400 := by obtain ⟨_, _, _, _, _, h, _⟩ := htk; exact h
  have lr0 := (hH.2.2 _ _ k_rd).1
  refine hs_aload (i := 0) (p := 6) (by decide +kernel) rfl ?_
  refine hs_k (x := Int32.ofNat 0) (p := 7) (by decide +kernel) ?_
  refine hs_k (x := Int32.ofNat 0) (p := 8) (by decide +kernel) ?_
  have hHo := hH
  refine ht_callv (T := et_TT) (t := 7) (mi := 75) (na := 2) (ci := 5) (lk := 3) (lm := 8) (L0 := eg_en (eg_mL 75) [.ref rd, .int (Int32.ofNat 0), .int (Int32.ofNat 0)]) (by decide +kernel) rfl hH k_rd rfl rfl rfl rfl rfl (by rw [show eg_mL 75 = 8 from by decide +kernel]; first | done | rfl) ?_
  refine (((pp_ag 6).2 _ _ _ _ _ _ hH k_rd r8 (by omega) (by omega) (by omega)).and ((fx_ag 6).2 _ _ _ _ _ _ _ hH k_rd htk htl r8 (by omega) r2 (by omega) (by omega))).mono (fun u hu => fz_cb (t := 2) (by decide) hu (fun K8 G8 v8 c8 s8 hxx8 hH x8 hc8 hs8 hm8 => ?_))
  have x8 := rx_in x8
  have lt_rd := Nat.lt_of_lt_of_le lt_rd x8.1
  have hX := hX.tr x8 (fun b j hb h => by first | omega | (dsimp only at h ⊢; omega) | (dsimp only at h; omega) | (dsimp only; omega))
  have m8 := x8.1
  have htk := htk.xf hHo k_rd hxx8 x8 (fun a j hs => .inl (by first | omega | (dsimp only at hs; omega)))
  have k_rd := hxx8 _ _ k_rd
  have hx0 := hx0.tr hxx8
  rcases sp8 : sp_C 6 (L.drop x) with _ | ⟨f8, r8⟩
  · rw [sp8] at hm8
    obtain ⟨rfl, q8, hq8, r2⟩ := hm8
    show et_go none _ 66 11 _ [.null] _ _ _ _
    refine hs_astore0 (i := 2) (p := 12) (by decide +kernel) (Nat.le_of_ble_eq_true rfl) ?_
    refine hs_aload0 (i := 2) (p := 13) (by decide +kernel) rfl ?_
    refine hs_ifnull0 (p := 26) (by decide +kernel) ?_
    refine hs_aload0 (i := 2) (p := 27) (by decide +kernel) rfl ?_
    refine hs_goto (p := 34) (by decide +kernel) ?_
    refine hs_aretN (cn := "KnobEye$Node") (by decide +kernel) ?_
    exact ⟨_, _, _, _, _, rfl, hx0, hH, rx_out hX, .inl ⟨one_n sp8, rfl⟩⟩
  · rw [sp8] at hm8
    obtain ⟨y8, b8, rfl, hy8, hz8, r8, r2, rfl, k_b8, R8⟩ := hm8
    have lt_b8 := (hH.2.2 _ _ k_b8).1
    obtain ⟨R8, nb8⟩ := R8
    have Rb8 := R8.in
    show et_go none _ 66 11 _ [.ref b8] _ _ _ _
    refine hs_astore (i := 2) (p := 12) (by decide +kernel) (Nat.le_of_ble_eq_true rfl) ?_
    refine hs_aload (i := 2) (p := 13) (by decide +kernel) rfl ?_
    refine hs_ifnull1 (p := 16) (by decide +kernel) ?_
    refine hs_aload (i := 0) (p := 17) (by decide +kernel) rfl ?_
    refine hs_gst (v := Value.ref 34) (p := 20) (by decide +kernel) ?_
    refine ht_callv (T := et_TT) (t := 7) (mi := 78) (na := 1) (ci := 5) (lk := 3) (lm := 2) (L0 := eg_en (eg_mL 78) [.ref rd, .ref 34]) (by decide +kernel) rfl hH k_rd rfl rfl rfl rfl rfl (by rw [show eg_mL 78 = 2 from by decide +kernel]; first | done | rfl) ?_
    refine (fc_is hH k_rd htk htl r8 (by omega) (wd := 34) (by decide)).mono (fun u hu => xp_cb hu ?_)
    by_cases i20 : wat L y8 = 34
    · rw [if_pos i20]
      show et_go none _ 66 23 _ [.int (Int32.ofNat 1)] _ _ _ _
      refine hs_if0 (c := .eq) (t := 30) (f := 26) (by decide +kernel) (show ¬ (Int32.ofNat 1 = 0) by decide) ?_
      refine hs_aload (i := 2) (p := 27) (by decide +kernel) rfl ?_
      refine hs_goto (p := 34) (by decide +kernel) ?_
      refine hs_aret (cn := "KnobEye$Node") (by decide +kernel) ?_
      exact ⟨_, _, _, _, _, rfl, hx0, hH, rx_out hX, .inr ⟨_, _, _, one_y sp8 ((wat_34 h34).mp i20), rfl, k_b8, Rb8.1, R8⟩⟩
    · rw [if_neg i20]
      show et_go none _ 66 23 _ [.int (Int32.ofNat 0)] _ _ _ _
      refine hs_if1 (c := .eq) (t := 30) (f := 26) (by decide +kernel) (show Int32.ofNat 0 = 0 by decide) ?_
      refine hs_aload (i := 0) (p := 31) (by decide +kernel) rfl ?_
      have hHo := hH
      refine ht_callv (T := et_TT) (t := 7) (mi := 76) (na := 0) (ci := 5) (lk := 3) (lm := 1) (L0 := eg_en (eg_mL 76) [.ref rd]) (by decide +kernel) rfl hH k_rd rfl rfl rfl rfl rfl (by rw [show eg_mL 76 = 1 from by decide +kernel]; first | done | rfl) ?_
      refine (fc_fail hH k_rd htk htl r8 (by omega) r2).mono (fun u hu => xw_cb hu (fun G31 v31 hH x31 hP31 => ?_))
      have nb8 := (x31.2 b8 1 lt_b8 (fun h => (hi_ne k_b8 k_rd (by decide)) h.1)).trans nb8
      have r8 := (x31.2 rd 8 lt_rd (fun h => absurd h.2 (by decide))).trans r8
      have lt_rd := Nat.lt_of_lt_of_le lt_rd x31.1
      have lt_b8 := Nat.lt_of_lt_of_le lt_b8 x31.1
      have hX := hX.tr x31 (fun b j hb h => by first | omega | (dsimp only at h ⊢; omega) | (dsimp only at h; omega) | (dsimp only; omega))
      have m31 := x31.1
      have htk := htk.xf hHo k_rd et_ex.rf x31 (fun a j hs => .inl (by first | omega | (dsimp only at hs; omega)))
      have R8 := R8.fr (x31.agf (lo := G.2) (hi := G8.2) (by omega) (fun a j h1 h2 hs => by first | omega | (dsimp only at hs; omega))).ag
      obtain ⟨rfl, q31, hq31, e31⟩ := hP31
      show et_go none _ 66 34 _ [.null] _ _ _ _
      refine hs_aretN (cn := "KnobEye$Node") (by decide +kernel) ?_
      exact ⟨_, _, _, _, _, rfl, hx0, hH, rx_out hX, .inl ⟨one_x sp8 (fun h => i20 ((wat_34 h34).mpr h)), rfl⟩⟩
theorem fc_tc {ta ba na tp n pl : Nat} (hH : et_H et_TT K G) (k_rd : K rd = some 7) (r0 : et_pl (eg_at G rd) 0 = some (.ref tp)) (k_tp : K tp = some 33) (r1 : et_pl (eg_at G rd) 1 = some (.int (Int32.ofNat n))) (hn : n ≤ 400) (ht : ∀ i, i < n → et_pl (eg_at G tp) i = some (.int (Int32.ofNat (b i)))) (hb : ∀ i, i < n → b i < 256) (k_ta : K ta = some 41) (k_ba : K ba = some 21) (k_na : K na = some 21) (hne : ¬ ba = na) (r4 : et_pl (eg_at G rd) 4 = some (.ref ta)) (r5 : et_pl (eg_at G rd) 5 = some (.ref ba)) (r6 : et_pl (eg_at G rd) 6 = some (.ref na)) (hpl : pl ≤ 3) (hd : 26 ≤ d2) : et_go none d2 66 0 (eg_en (eg_mL 66) [.ref rd, .int (Int32.ofNat pl)]) [] G 0 0 (fun u => tcZ (fun c j => (c = rd ∧ ((1 ≤ j ∧ j ≤ 3) ∨ 7 ≤ j)) ∨ c = ta ∨ c = ba ∨ c = na) (sp_one (tz_ts pl b n 0)) K G u) := by
  obtain ⟨d, rfl⟩ : ∃ d, d2 = d + 25 := ⟨d2 - 25, by omega⟩
  rw [show eg_mL 66 = 3 from by decide +kernel]
  show et_go none (d + 25) 66 0 [some (.ref rd), some (.int (Int32.ofNat pl)), none] [] G 0 0 _
  refine hs_aload (i := 0) (p := 1) (by decide +kernel) rfl ?_
  refine hs_iload (i := 1) (p := 2) (by decide +kernel) rfl ?_
  refine ht_callv (T := et_TT) (t := 7) (mi := 67) (na := 1) (ci := 5) (lk := 3) (lm := 4) (L0 := eg_en (eg_mL 67) [.ref rd, .int (Int32.ofNat pl)]) (by decide +kernel) rfl hH k_rd rfl rfl rfl rfl rfl (by rw [show eg_mL 67 = 4 from by decide +kernel]; first | done | rfl) ?_
  refine (fc_split hH k_rd r0 k_tp r1 hn ht hb k_ta k_ba k_na hne r4 r5 r6 hpl (by omega)).mono (fun u hu => xw_cb hu (fun G2 v2 hH2 x2 hP2 => ?_))
  obtain ⟨rfl, htk, q1, q2, q3, q8⟩ := hP2
  show et_go none _ 66 5 _ [] _ _ _ _
  refine (fc_tcB hH2 k_rd htk tl_ts q8 (Nat.zero_le _) q2 ts_34).mono (fun u hu => ?_)
  obtain ⟨K', G', v, c, s, e, g1, g2, g3, g4⟩ := hu
  refine ⟨K', G', v, c, s, e, g1, g2, x2.tr (g3.wk (fun a j _ h => ?_)) (fun a j ha h => h), ?_⟩
  · obtain ⟨h1, h2⟩ := h
    exact .inl ⟨h1, by omega⟩
  · rcases g4 with h | ⟨f, bb, N, h1, h2, h3, h4, h5⟩
    · exact .inl h
    · exact .inr ⟨f, bb, N, h1, h2, h3, Nat.le_trans x2.1 h4, h5.wk x2.1 (Nat.le_refl _)⟩
end FGA2
