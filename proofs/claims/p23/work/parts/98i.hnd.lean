/-! BY HAND: the parser's calls: rule, turner, claim -/
theorem ht_aasg {K : et_K} {d k pc ck sk a b n N t u kd cj m p : Nat} {L : eg_Ls} {r : List Value} {G : eg_G} {Z : eg_O → Prop} {M : et_M} {ps : List et_P} (hc : hs_o k pc = some (.aastore, p)) (hT : et_TT[t]? = some (.inr (kd, N, [(0, m, .inr (.inr (1, u)))])) ∧ et_TT[u]? = some (.inl (cj, ps))) (hk : (5 ≤ kd ∧ kd < 11) ∧ eg_el kd = cj ∧ 2 ≤ t ∧ 0 < N ∧ N ≤ 400) (hH : et_H et_TT K G) (ha : K a = some t) (hn : n < N) (hb : K b = some u) (hM : et_mm M t n = true) (h : ∀ G', et_H et_TT K G' → et_fr M K G G' → et_go none d k p L r G' ck sk Z) : et_go none d k pc L (.ref b :: .int (Int32.ofNat n) :: .ref a :: r) G ck sk Z := by
  obtain ⟨g1, -, g3, dd, hd, hcell, hcx⟩ := hH.2.2 a t ha
  rw [hT.1] at hd
  cases hd
  obtain ⟨⟨N', y⟩, e, ey, er, es⟩ := hcell
  have ey : N' = N := ey
  subst ey
  obtain ⟨v0, hv0⟩ := er 0 hk.2.2.2.1
  have hk5 : ¬ (kd = 0 ∨ kd = 1 ∨ kd = 3 ∨ kd = 4) := by omega
  obtain ⟨f, rfl⟩ : ∃ f, y = .inr (.inr (.inr (.inr f))) := by
    unfold eg_rd at hv0
    rcases y with g | g | g | g | f
    · dsimp only at hv0
      rw [if_neg hk5] at hv0
      cases hv0
    · dsimp only at hv0
      rw [if_neg (by omega)] at hv0
      cases hv0
    · cases hv0
    · cases hv0
    · exact ⟨f, rfl⟩
  obtain ⟨q1, -, -, dd, hd, hcb, -⟩ := hH.2.2 b u hb
  rw [hT.2] at hd
  cases hd
  obtain ⟨fs, eb, -, -⟩ := hcb
  have h3 := hs_nint (a := n) (by omega)
  obtain ⟨e0, rfl⟩ := hs_oc hc
  have hak : eg_ak .aastore kd = true := by
    show (decide (5 ≤ kd) && decide (kd < 11)) = true
    rw [decide_eq_true hk.1.1, decide_eq_true hk.1.2]
    rfl
  have hrd : ∀ i, eg_rd kd (N', .inr (.inr (.inr (.inr (va_up f n (some b)))))) i = if i = n then some (.ref b) else eg_rd kd (N', .inr (.inr (.inr (.inr f)))) i := fun i => by
    unfold eg_rd
    dsimp only
    rw [if_pos hk.1.1, if_pos hk.1.1]
    unfold va_up
    split <;> rfl
  refine hs_st e0 rfl (?_ : _ = some (pc + 1, L, r, eg_u G a (.inl (kd, (N', .inr (.inr (.inr (.inr (va_up f n (some b)))))))), ck, sk)) (h _ (et_H_u hH ha hk.2.2.1 hT.1 ⟨_, rfl, rfl, fun i hi => ?_, fun s hs i i1 i2 i3 => ?_⟩ (fun e1 => absurd e1 (by omega))) (hi_frM hH ha hk.2.2.1 (fun i hi => ?_)))
  · show eg_aw .aastore pc L (.ref b :: .int (Int32.ofNat n) :: .ref a :: r) G ck sk = _
    unfold eg_aw
    dsimp only
    rw [e]
    dsimp only
    rw [if_pos ⟨g3 hk.2.2.1, g1, hak, by omega, by omega⟩, hs_nnat (by omega)]
    unfold eg_wr
    dsimp only
    rw [if_pos ⟨q1, hk.1.1, hk.1.2, by rw [eb, hk.2.1]; exact beq_self_eq_true cj⟩]
  · rw [hrd]
    by_cases ei : i = n
    · exact ⟨_, if_pos ei⟩
    · rw [if_neg ei]
      exact er i hi
  · rw [hrd]
    by_cases ei : i = n
    · obtain rfl := List.mem_singleton.mp hs
      exact ⟨_, if_pos ei, .inr ⟨by decide, _, rfl, hb⟩⟩
    · rw [if_neg ei]
      exact es s hs i i1 i2 i3
  · rw [e]
    have ei : i ≠ n := fun h => by
      rw [h, hM] at hi
      cases hi
    show (if i < N' then eg_rd kd _ i else none) = (if i < N' then eg_rd kd _ i else none)
    rw [hrd, if_neg ei]
def hq_needE : et_Co := (128, [.inr (.inr (0, 12)), .inl (et_mn, et_mx)], [], [(.inr 1, 1, 6), (.inl (some (.inr (.inr (0, 3)))), 0, 0)], 0)
theorem hc_needE : et_cv et_TT hq_needE := et_cok_ok (Ks := []) (an := an_no) (fun _ h => absurd h List.not_mem_nil) (by decide +kernel)
def hq_needR : et_Co := (129, [.inr (.inr (0, 12)), .inl (et_mn, et_mx)], [], [(.inr 1, 1, 6), (.inl (some (.inr (.inr (1, 8)))), 0, 0)], 0)
theorem hc_needR : et_cv et_TT hq_needR := et_cok_ok (Ks := []) (an := an_no) (fun _ h => absurd h List.not_mem_nil) (by decide +kernel)
def ru_M : et_M := [(6, 0, 5), (7, 1, 1), (7, 2, 2), (7, 3, 3), (7, 7, 7), (7, 8, 8), (21, 0, 100000), (41, 0, 100000), (10, 0, 0), (37, 0, 100000)]
def tu_M : et_M := [(6, 0, 5), (7, 1, 1), (7, 2, 2), (7, 3, 3), (7, 7, 7), (7, 8, 8), (21, 0, 100000), (41, 0, 100000), (11, 0, 0), (16, 0, 100000), (26, 0, 100000), (42, 0, 100000), (10, 7, 7), (38, 0, 100000)]
def cl_M : et_M := [(6, 0, 5), (7, 1, 1), (7, 2, 2), (7, 3, 3), (7, 7, 7), (7, 8, 8), (21, 0, 100000), (41, 0, 100000), (10, 9, 9), (39, 0, 100000)]
def hq_ruleC : et_Co := (131, [.inr (.inr (0, 12))], ru_M, [(.inl (some (.inl (et_mn, et_mx))), 806, 4836), (.inr 0, 806, 4836), (.inr 2, 806, 4836)], 26)
def hq_turnerC : et_Co := (132, [.inr (.inr (0, 12))], tu_M, [(.inl (some (.inl (et_mn, et_mx))), 841, 5106), (.inr 0, 841, 5106), (.inr 2, 841, 5106)], 28)
def hq_claimC : et_Co := (133, [.inr (.inr (0, 12)), .inl (et_mn, et_mx), .inl (et_mn, et_mx)], cl_M, [(.inl (some (.inl (et_mn, et_mx))), 806, 4836), (.inr 0, 806, 4836), (.inr 1, 806, 4836), (.inr 2, 806, 4836)], 26)

section PPE
variable {w : et_Wd} {K : et_K} {G : eg_G} {d2 d th : Nat}
theorem hc_ruleC : et_cv et_TT hq_ruleC := by
  intro w as d2 hH hd hl hv
  obtain ⟨v, rfl⟩ := hi_len1 (show as.length = 1 from hl)
  obtain ⟨th, rfl, k_th⟩ := hi_ref (hv 0 _ _ rfl rfl)
  obtain ⟨d, rfl⟩ : ∃ d, d2 = d + 26 := ⟨d2 - 26, by have : 26 ≤ d2 := hd; omega⟩
  have hx0 : et_ex w.1 w.1 := et_ex.rf
  have hf : et_fr ru_M w.1 w.2.2 w.2.2 := et_fr.rf
  rw [show eg_mL 131 = 2 from by decide +kernel]
  show et_go none (d + 26) 131 0 [some (.ref th), none] [] w.2.2 0 0 _
  refine hs_aload (i := 0) (p := 1) (by decide +kernel) rfl ?_
  refine ht_getr (T := et_TT) (t := 12) (ci := 10) (f := 3) (p := 4) (by decide +kernel) rfl rfl hH k_th (fun a1 k_a1 e1 => ?_)
  refine hs_k (x := Int32.ofNat 0) (p := 5) (by decide +kernel) ?_
  have hfo := hf
  refine ht_callv (T := et_TT) (t := 7) (mi := 66) (na := 1) (ci := 5) (lk := 2) (lm := 3) (L0 := eg_en (eg_mL 66) [.ref a1, .int (Int32.ofNat 0)]) (by decide +kernel) rfl hH k_a1 rfl rfl rfl rfl rfl (by rw [show eg_mL 66 = 3 from by decide +kernel]; first | done | rfl) ?_
  refine (hc_tc (w.1, [], w.2.2) [.ref a1, .int (Int32.ofNat 0)] _ hH (by omega) rfl (ht_ac (.inr ⟨by decide, _, rfl, k_a1⟩) (ht_ac hi_any ht_an))).mono (fun u hu => hs_cbv hu (fun v5 K5 G5 c5 s5 x5 f5 hH hv5 cl5 sl5 => ?_))
  have k_th := x5 _ _ k_th
  have k_a1 := x5 _ _ k_a1
  have hf := hf.tr hx0 (f5.wk (by decide +kernel))
  have hx0 := hx0.tr x5
  rcases hi_q hv5 with rfl | ⟨b5, rfl, k_b5⟩
  · show et_go none _ 131 8 _ [.null] _ (0 + c5) (0 + s5) _
    refine hs_astore0 (i := 1) (p := 9) (by decide +kernel) (Nat.le_of_ble_eq_true rfl) ?_
    refine hs_aload0 (i := 1) (p := 10) (by decide +kernel) rfl ?_
    refine hs_ifnonnull0 (p := 13) (by decide +kernel) ?_
    refine hs_thr (x := 0) (lk := 2) (by decide +kernel) rfl rfl ?_
    exact ⟨_, (List.mem_cons_of_mem _ List.mem_cons_self), _, hx0, hf, hH, rfl, (by dsimp only; omega), (by dsimp only; omega)⟩
  · show et_go none _ 131 8 _ [.ref b5] _ (0 + c5) (0 + s5) _
    refine hs_astore (i := 1) (p := 9) (by decide +kernel) (Nat.le_of_ble_eq_true rfl) ?_
    refine hs_aload (i := 1) (p := 10) (by decide +kernel) rfl ?_
    refine hs_ifnonnull1 (p := 21) (by decide +kernel) ?_
    refine hs_aload (i := 0) (p := 22) (by decide +kernel) rfl ?_
    refine ht_getr (T := et_TT) (t := 12) (ci := 10) (f := 0) (p := 25) (by decide +kernel) rfl rfl hH k_th (fun a22 k_a22 e22 => ?_)
    have hs0 := e22
    refine ht_getn (T := et_TT) (t := 10) (ci := 8) (f := 0) (p := 28) (by decide +kernel) rfl rfl hH k_a22 (fun c25 h25 e25 => ?_)
    have hs1 := e25
    refine hs_k (x := Int32.ofNat 4) (p := 29) (by decide +kernel) ?_
    refine hs_br2n (c := .lt) (t := 40) (f := 32) (by decide +kernel) (by omega) (by omega) (fun (c29 : c25 < 4) => ?_) (fun (c29 : ¬ (c25 < 4)) => ?_)
    · refine hs_aload (i := 0) (p := 41) (by decide +kernel) rfl ?_
      refine ht_getr (T := et_TT) (t := 12) (ci := 10) (f := 0) (p := 44) (by decide +kernel) rfl rfl hH k_th (fun a41 k_a41 e41 => ?_)
      obtain rfl : a22 = a41 := Value.ref.inj (Option.some.inj (hs0.symm.trans e41))
      refine ht_getr (T := et_TT) (t := 10) (ci := 8) (f := 1) (p := 47) (by decide +kernel) rfl rfl hH k_a22 (fun a44 k_a44 e44 => ?_)
      refine hs_aload (i := 0) (p := 48) (by decide +kernel) rfl ?_
      refine ht_getr (T := et_TT) (t := 12) (ci := 10) (f := 0) (p := 51) (by decide +kernel) rfl rfl hH k_th (fun a48 k_a48 e48 => ?_)
      obtain rfl : a22 = a48 := Value.ref.inj (Option.some.inj (hs0.symm.trans e48))
      refine ht_getn (T := et_TT) (t := 10) (ci := 8) (f := 0) (p := 54) (by decide +kernel) rfl rfl hH k_a22 (fun c51 h51 e51 => ?_)
      obtain rfl : c25 = c51 := hb_cc hs1 e51 (by omega) (by omega)
      refine ht_newU (ci := 6) (n := 2) (fs := [.null, .null]) (p := 57) (by decide +kernel) (by omega) (by omega) (by decide +kernel) (by decide +kernel) hH (fun G54 o54 hu f54 => ?_)
      have hs0 := (f54.2 th 12 k_th 0 rfl).trans hs0
      have hs1 := (f54.2 a22 10 k_a22 0 rfl).trans hs1
      have hH := hu.1
      have hf := hf.tr hx0 (f54.wk (by decide +kernel))
      refine hs_dup1 (p := 58) (by decide +kernel) ?_
      refine hs_aload (i := 1) (p := 59) (by decide +kernel) rfl ?_
      have lto_b5 := (hH.2.2 _ _ k_b5).1
      have hfo := hf
      refine hs_callp (mi := 88) (na := 1) (lk := 2) (lm := 2) (L0 := eg_en (eg_mL 88) [.ref o54, .ref b5]) (by decide +kernel) rfl rfl rfl rfl rfl (by rw [show eg_mL 88 = 2 from by decide +kernel]; first | done | rfl) ?_
      refine (pu_rule hu k_b5).mono (fun u hu => pu_cb hu (fun K59 G59 x59 f59 hH k_o54 => ?_))
      have hs0 := (f59.2 th 12 k_th 0 rfl).trans hs0
      have hs1 := (f59.2 a22 10 k_a22 0 rfl).trans hs1
      have k_th := x59 _ _ k_th
      have k_a1 := x59 _ _ k_a1
      have k_b5 := x59 _ _ k_b5
      have k_a22 := x59 _ _ k_a22
      have k_a44 := x59 _ _ k_a44
      have hf := hf.tr hx0 (f59.wk (by decide +kernel))
      have hx0 := hx0.tr x59
      show et_go none _ 131 62 _ [.ref o54, .int (Int32.ofNat c25), .ref a44] _ ((0 + c5) + 1) ((0 + s5) + 2) _
      refine ht_aasg (M := [(37, 0, 100000)]) (t := 37) (u := 8) (N := 4) (kd := 5) (cj := 6) (p := 63) (by decide +kernel) ⟨rfl, rfl⟩ (by decide +kernel) hH k_a44 (by omega) k_o54 (hb_mm (by omega)) (fun G62 hH f62 => ?_)
      have hs0 := (f62.2 th 12 k_th 0 rfl).trans hs0
      have hs1 := (f62.2 a22 10 k_a22 0 rfl).trans hs1
      have hf := hf.tr hx0 (f62.wk (by decide +kernel))
      refine hs_aload (i := 0) (p := 64) (by decide +kernel) rfl ?_
      refine ht_getr (T := et_TT) (t := 12) (ci := 10) (f := 0) (p := 67) (by decide +kernel) rfl rfl hH k_th (fun a64 k_a64 e64 => ?_)
      obtain rfl : a22 = a64 := Value.ref.inj (Option.some.inj (hs0.symm.trans e64))
      refine hs_dup1 (p := 68) (by decide +kernel) ?_
      refine ht_getn (T := et_TT) (t := 10) (ci := 8) (f := 0) (p := 71) (by decide +kernel) rfl rfl hH k_a22 (fun c68 h68 e68 => ?_)
      obtain rfl : c25 = c68 := hb_cc hs1 e68 (by omega) (by omega)
      refine hs_k (x := Int32.ofNat 1) (p := 72) (by decide +kernel) ?_
      refine hs_iaddn (p := 73) (by decide +kernel) ?_
      refine ht_put (M := [(10, 0, 0)]) (T := et_TT) (t := 10) (ci := 8) (f := 0) (p := 76) (ty := .int) (by decide +kernel) rfl rfl rfl rfl rfl (by decide +kernel) hH k_a22 (hi_nv (by omega) (by omega)) (fun G73 hH f73 e73 => ?_)
      have hs0 := (f73.2 th 12 k_th 0 rfl).trans hs0
      have hf := hf.tr hx0 (f73.wk (by decide +kernel))
      refine hs_aload (i := 0) (p := 77) (by decide +kernel) rfl ?_
      refine ht_getr (T := et_TT) (t := 12) (ci := 10) (f := 0) (p := 80) (by decide +kernel) rfl rfl hH k_th (fun a77 k_a77 e77 => ?_)
      obtain rfl : a22 = a77 := Value.ref.inj (Option.some.inj (hs0.symm.trans e77))
      refine ht_getn (T := et_TT) (t := 10) (ci := 8) (f := 0) (p := 83) (by decide +kernel) rfl rfl hH k_a22 (fun c80 h80 e80 => ?_)
      refine hs_k (x := Int32.ofNat 1) (p := 84) (by decide +kernel) ?_
      refine hs_isub (p := 85) (by decide +kernel) ?_
      refine hs_iret (by decide +kernel) ?_
      exact ⟨_, List.mem_cons_self, _, hx0, hf, hH, ⟨_, rfl, hi_any⟩, (by dsimp only; omega), (by dsimp only; omega)⟩
    · refine hs_thr (x := 2) (lk := 2) (by decide +kernel) rfl rfl ?_
      exact ⟨_, (List.mem_cons_of_mem _ (List.mem_cons_of_mem _ List.mem_cons_self)), _, hx0, hf, hH, rfl, (by dsimp only; omega), (by dsimp only; omega)⟩
theorem hc_turnerC : et_cv et_TT hq_turnerC := by
  intro w as d2 hH hd hl hv
  obtain ⟨v, rfl⟩ := hi_len1 (show as.length = 1 from hl)
  obtain ⟨th, rfl, k_th⟩ := hi_ref (hv 0 _ _ rfl rfl)
  obtain ⟨d, rfl⟩ : ∃ d, d2 = d + 28 := ⟨d2 - 28, by have : 28 ≤ d2 := hd; omega⟩
  have hx0 : et_ex w.1 w.1 := et_ex.rf
  have hf : et_fr tu_M w.1 w.2.2 w.2.2 := et_fr.rf
  rw [show eg_mL 132 = 2 from by decide +kernel]
  show et_go none (d + 28) 132 0 [some (.ref th), none] [] w.2.2 0 0 _
  refine hs_aload (i := 0) (p := 1) (by decide +kernel) rfl ?_
  refine ht_getr (T := et_TT) (t := 12) (ci := 10) (f := 3) (p := 4) (by decide +kernel) rfl rfl hH k_th (fun a1 k_a1 e1 => ?_)
  have hfo := hf
  refine ht_callv (T := et_TT) (t := 7) (mi := 84) (na := 0) (ci := 5) (lk := 2) (lm := 4) (L0 := eg_en (eg_mL 84) [.ref a1]) (by decide +kernel) rfl hH k_a1 rfl rfl rfl rfl rfl (by rw [show eg_mL 84 = 4 from by decide +kernel]; first | done | rfl) ?_
  refine (hc_tt (w.1, [], w.2.2) [.ref a1] _ hH (by omega) rfl (ht_ac (.inr ⟨by decide, _, rfl, k_a1⟩) ht_an)).mono (fun u hu => hs_cbv hu (fun v4 K4 G4 c4 s4 x4 f4 hH hv4 cl4 sl4 => ?_))
  have k_th := x4 _ _ k_th
  have k_a1 := x4 _ _ k_a1
  have hf := hf.tr hx0 (f4.wk (by decide +kernel))
  have hx0 := hx0.tr x4
  rcases hi_q hv4 with rfl | ⟨b4, rfl, k_b4⟩
  · show et_go none _ 132 7 _ [.null] _ (0 + c4) (0 + s4) _
    refine hs_astore0 (i := 1) (p := 8) (by decide +kernel) (Nat.le_of_ble_eq_true rfl) ?_
    refine hs_aload0 (i := 1) (p := 9) (by decide +kernel) rfl ?_
    refine hs_ifnonnull0 (p := 12) (by decide +kernel) ?_
    refine hs_thr (x := 0) (lk := 2) (by decide +kernel) rfl rfl ?_
    exact ⟨_, (List.mem_cons_of_mem _ List.mem_cons_self), _, hx0, hf, hH, rfl, (by dsimp only; omega), (by dsimp only; omega)⟩
  · show et_go none _ 132 7 _ [.ref b4] _ (0 + c4) (0 + s4) _
    refine hs_astore (i := 1) (p := 8) (by decide +kernel) (Nat.le_of_ble_eq_true rfl) ?_
    refine hs_aload (i := 1) (p := 9) (by decide +kernel) rfl ?_
    refine hs_ifnonnull1 (p := 20) (by decide +kernel) ?_
    refine hs_aload (i := 0) (p := 21) (by decide +kernel) rfl ?_
    refine ht_getr (T := et_TT) (t := 12) (ci := 10) (f := 0) (p := 24) (by decide +kernel) rfl rfl hH k_th (fun a21 k_a21 e21 => ?_)
    have hs0 := e21
    refine ht_getn (T := et_TT) (t := 10) (ci := 8) (f := 7) (p := 27) (by decide +kernel) rfl rfl hH k_a21 (fun c24 h24 e24 => ?_)
    have hs1 := e24
    refine hs_k (x := Int32.ofNat 4) (p := 28) (by decide +kernel) ?_
    refine hs_br2n (c := .lt) (t := 39) (f := 31) (by decide +kernel) (by omega) (by omega) (fun (c28 : c24 < 4) => ?_) (fun (c28 : ¬ (c24 < 4)) => ?_)
    · refine hs_aload (i := 0) (p := 40) (by decide +kernel) rfl ?_
      refine ht_getr (T := et_TT) (t := 12) (ci := 10) (f := 0) (p := 43) (by decide +kernel) rfl rfl hH k_th (fun a40 k_a40 e40 => ?_)
      obtain rfl : a21 = a40 := Value.ref.inj (Option.some.inj (hs0.symm.trans e40))
      refine ht_getr (T := et_TT) (t := 10) (ci := 8) (f := 8) (p := 46) (by decide +kernel) rfl rfl hH k_a21 (fun a43 k_a43 e43 => ?_)
      refine hs_aload (i := 0) (p := 47) (by decide +kernel) rfl ?_
      refine ht_getr (T := et_TT) (t := 12) (ci := 10) (f := 0) (p := 50) (by decide +kernel) rfl rfl hH k_th (fun a47 k_a47 e47 => ?_)
      obtain rfl : a21 = a47 := Value.ref.inj (Option.some.inj (hs0.symm.trans e47))
      refine ht_getn (T := et_TT) (t := 10) (ci := 8) (f := 7) (p := 53) (by decide +kernel) rfl rfl hH k_a21 (fun c50 h50 e50 => ?_)
      obtain rfl : c24 = c50 := hb_cc hs1 e50 (by omega) (by omega)
      refine hs_aload (i := 1) (p := 54) (by decide +kernel) rfl ?_
      refine ht_aasg (M := [(38, 0, 100000)]) (t := 38) (u := 11) (N := 4) (kd := 7) (cj := 9) (p := 55) (by decide +kernel) ⟨rfl, rfl⟩ (by decide +kernel) hH k_a43 (by omega) k_b4 (hb_mm (by omega)) (fun G54 hH f54 => ?_)
      have hs0 := (f54.2 th 12 k_th 0 rfl).trans hs0
      have hs1 := (f54.2 a21 10 k_a21 7 rfl).trans hs1
      have hf := hf.tr hx0 (f54.wk (by decide +kernel))
      refine hs_aload (i := 0) (p := 56) (by decide +kernel) rfl ?_
      refine ht_getr (T := et_TT) (t := 12) (ci := 10) (f := 0) (p := 59) (by decide +kernel) rfl rfl hH k_th (fun a56 k_a56 e56 => ?_)
      obtain rfl : a21 = a56 := Value.ref.inj (Option.some.inj (hs0.symm.trans e56))
      refine hs_dup1 (p := 60) (by decide +kernel) ?_
      refine ht_getn (T := et_TT) (t := 10) (ci := 8) (f := 7) (p := 63) (by decide +kernel) rfl rfl hH k_a21 (fun c60 h60 e60 => ?_)
      obtain rfl : c24 = c60 := hb_cc hs1 e60 (by omega) (by omega)
      refine hs_k (x := Int32.ofNat 1) (p := 64) (by decide +kernel) ?_
      refine hs_iaddn (p := 65) (by decide +kernel) ?_
      refine ht_put (M := [(10, 7, 7)]) (T := et_TT) (t := 10) (ci := 8) (f := 7) (p := 68) (ty := .int) (by decide +kernel) rfl rfl rfl rfl rfl (by decide +kernel) hH k_a21 (hi_nv (by omega) (by omega)) (fun G65 hH f65 e65 => ?_)
      have hs0 := (f65.2 th 12 k_th 0 rfl).trans hs0
      have hf := hf.tr hx0 (f65.wk (by decide +kernel))
      refine hs_aload (i := 0) (p := 69) (by decide +kernel) rfl ?_
      refine ht_getr (T := et_TT) (t := 12) (ci := 10) (f := 0) (p := 72) (by decide +kernel) rfl rfl hH k_th (fun a69 k_a69 e69 => ?_)
      obtain rfl : a21 = a69 := Value.ref.inj (Option.some.inj (hs0.symm.trans e69))
      refine ht_getn (T := et_TT) (t := 10) (ci := 8) (f := 7) (p := 75) (by decide +kernel) rfl rfl hH k_a21 (fun c72 h72 e72 => ?_)
      refine hs_k (x := Int32.ofNat 1) (p := 76) (by decide +kernel) ?_
      refine hs_isub (p := 77) (by decide +kernel) ?_
      refine hs_iret (by decide +kernel) ?_
      exact ⟨_, List.mem_cons_self, _, hx0, hf, hH, ⟨_, rfl, hi_any⟩, (by dsimp only; omega), (by dsimp only; omega)⟩
    · refine hs_thr (x := 2) (lk := 2) (by decide +kernel) rfl rfl ?_
      exact ⟨_, (List.mem_cons_of_mem _ (List.mem_cons_of_mem _ List.mem_cons_self)), _, hx0, hf, hH, rfl, (by dsimp only; omega), (by dsimp only; omega)⟩
theorem hc_claimC : et_cv et_TT hq_claimC := by
  intro w as d2 hH hd hl hv
  obtain ⟨v, v1, v2, rfl⟩ := hi_len3 (show as.length = 3 from hl)
  obtain ⟨th, rfl, k_th⟩ := hi_ref (hv 0 _ _ rfl rfl)
  obtain ⟨x, rfl, -, -⟩ := hi_int (hv 1 _ _ rfl rfl)
  obtain ⟨y, rfl, -, -⟩ := hi_int (hv 2 _ _ rfl rfl)
  obtain ⟨d, rfl⟩ : ∃ d, d2 = d + 26 := ⟨d2 - 26, by have : 26 ≤ d2 := hd; omega⟩
  have hx0 : et_ex w.1 w.1 := et_ex.rf
  have hf : et_fr cl_M w.1 w.2.2 w.2.2 := et_fr.rf
  rw [show eg_mL 133 = 4 from by decide +kernel]
  show et_go none (d + 26) 133 0 [some (.ref th), some (.int x), some (.int y), none] [] w.2.2 0 0 _
  refine hs_aload (i := 0) (p := 1) (by decide +kernel) rfl ?_
  refine ht_getr (T := et_TT) (t := 12) (ci := 10) (f := 3) (p := 4) (by decide +kernel) rfl rfl hH k_th (fun a1 k_a1 e1 => ?_)
  refine hs_k (x := Int32.ofNat 2) (p := 5) (by decide +kernel) ?_
  have hfo := hf
  refine ht_callv (T := et_TT) (t := 7) (mi := 66) (na := 1) (ci := 5) (lk := 4) (lm := 3) (L0 := eg_en (eg_mL 66) [.ref a1, .int (Int32.ofNat 2)]) (by decide +kernel) rfl hH k_a1 rfl rfl rfl rfl rfl (by rw [show eg_mL 66 = 3 from by decide +kernel]; first | done | rfl) ?_
  refine (hc_tc (w.1, [], w.2.2) [.ref a1, .int (Int32.ofNat 2)] _ hH (by omega) rfl (ht_ac (.inr ⟨by decide, _, rfl, k_a1⟩) (ht_ac hi_any ht_an))).mono (fun u hu => hs_cbv hu (fun v5 K5 G5 c5 s5 x5 f5 hH hv5 cl5 sl5 => ?_))
  have k_th := x5 _ _ k_th
  have k_a1 := x5 _ _ k_a1
  have hf := hf.tr hx0 (f5.wk (by decide +kernel))
  have hx0 := hx0.tr x5
  rcases hi_q hv5 with rfl | ⟨b5, rfl, k_b5⟩
  · show et_go none _ 133 8 _ [.null] _ (0 + c5) (0 + s5) _
    refine hs_astore0 (i := 3) (p := 9) (by decide +kernel) (Nat.le_of_ble_eq_true rfl) ?_
    refine hs_aload (i := 0) (p := 10) (by decide +kernel) rfl ?_
    refine hs_iload (i := 1) (p := 11) (by decide +kernel) rfl ?_
    have hfo := hf
    refine ht_callv (T := et_TT) (t := 12) (mi := 128) (na := 1) (ci := 10) (lk := 4) (lm := 2) (L0 := eg_en (eg_mL 128) [.ref th, .int x]) (by decide +kernel) rfl hH k_th rfl rfl rfl rfl rfl (by rw [show eg_mL 128 = 2 from by decide +kernel]; first | done | rfl) ?_
    refine (hc_needE (K5, [], G5) [.ref th, .int x] _ hH (by omega) rfl (ht_ac (.inr ⟨by decide, _, rfl, k_th⟩) (ht_ac hi_any ht_an))).mono (fun u hu => hs_cbx (by decide +kernel) hu (fun v11 K11 G11 c11 s11 x11 f11 hH hv11 cl11 sl11 => ?_) (fun K11 G11 c11 s11 x11 f11 hH cl11 sl11 => ⟨_, (List.mem_cons_of_mem _ (List.mem_cons_of_mem _ List.mem_cons_self)), _, hx0.tr x11, hf.tr hx0 (f11.wk (by decide +kernel)), hH, rfl, (by dsimp only; omega), (by dsimp only; omega)⟩))
    have k_th := x11 _ _ k_th
    have k_a1 := x11 _ _ k_a1
    have hf := hf.tr hx0 (f11.wk (by decide +kernel))
    have hx0 := hx0.tr x11
    obtain ⟨b11, rfl, k_b11⟩ := hi_ref hv11
    show et_go none _ 133 14 _ [.ref b11] _ ((0 + c5) + c11) ((0 + s5) + s11) _
    refine hs_popr (p := 15) (by decide +kernel) ?_
    refine hs_aload (i := 0) (p := 16) (by decide +kernel) rfl ?_
    refine hs_iload (i := 2) (p := 17) (by decide +kernel) rfl ?_
    have hfo := hf
    refine ht_callv (T := et_TT) (t := 12) (mi := 129) (na := 1) (ci := 10) (lk := 4) (lm := 2) (L0 := eg_en (eg_mL 129) [.ref th, .int y]) (by decide +kernel) rfl hH k_th rfl rfl rfl rfl rfl (by rw [show eg_mL 129 = 2 from by decide +kernel]; first | done | rfl) ?_
    refine (hc_needR (K11, [], G11) [.ref th, .int y] _ hH (by omega) rfl (ht_ac (.inr ⟨by decide, _, rfl, k_th⟩) (ht_ac hi_any ht_an))).mono (fun u hu => hs_cbx (by decide +kernel) hu (fun v17 K17 G17 c17 s17 x17 f17 hH hv17 cl17 sl17 => ?_) (fun K17 G17 c17 s17 x17 f17 hH cl17 sl17 => ⟨_, (List.mem_cons_of_mem _ (List.mem_cons_of_mem _ List.mem_cons_self)), _, hx0.tr x17, hf.tr hx0 (f17.wk (by decide +kernel)), hH, rfl, (by dsimp only; omega), (by dsimp only; omega)⟩))
    have k_th := x17 _ _ k_th
    have k_a1 := x17 _ _ k_a1
    have k_b11 := x17 _ _ k_b11
    have hf := hf.tr hx0 (f17.wk (by decide +kernel))
    have hx0 := hx0.tr x17
    rcases hi_q hv17 with rfl | ⟨b17, rfl, k_b17⟩
    · show et_go none _ 133 20 _ [.null] _ (((0 + c5) + c11) + c17) (((0 + s5) + s11) + s17) _
      refine hs_popn (p := 21) (by decide +kernel) ?_
      refine hs_aload0 (i := 3) (p := 22) (by decide +kernel) rfl ?_
      refine hs_ifnonnull0 (p := 25) (by decide +kernel) ?_
      refine hs_thr (x := 0) (lk := 4) (by decide +kernel) rfl rfl ?_
      exact ⟨_, (List.mem_cons_of_mem _ List.mem_cons_self), _, hx0, hf, hH, rfl, (by dsimp only; omega), (by dsimp only; omega)⟩
    · show et_go none _ 133 20 _ [.ref b17] _ (((0 + c5) + c11) + c17) (((0 + s5) + s11) + s17) _
      refine hs_popr (p := 21) (by decide +kernel) ?_
      refine hs_aload0 (i := 3) (p := 22) (by decide +kernel) rfl ?_
      refine hs_ifnonnull0 (p := 25) (by decide +kernel) ?_
      refine hs_thr (x := 0) (lk := 4) (by decide +kernel) rfl rfl ?_
      exact ⟨_, (List.mem_cons_of_mem _ List.mem_cons_self), _, hx0, hf, hH, rfl, (by dsimp only; omega), (by dsimp only; omega)⟩
  · show et_go none _ 133 8 _ [.ref b5] _ (0 + c5) (0 + s5) _
    refine hs_astore (i := 3) (p := 9) (by decide +kernel) (Nat.le_of_ble_eq_true rfl) ?_
    refine hs_aload (i := 0) (p := 10) (by decide +kernel) rfl ?_
    refine hs_iload (i := 1) (p := 11) (by decide +kernel) rfl ?_
    have lto_b5 := (hH.2.2 _ _ k_b5).1
    have hfo := hf
    refine ht_callv (T := et_TT) (t := 12) (mi := 128) (na := 1) (ci := 10) (lk := 4) (lm := 2) (L0 := eg_en (eg_mL 128) [.ref th, .int x]) (by decide +kernel) rfl hH k_th rfl rfl rfl rfl rfl (by rw [show eg_mL 128 = 2 from by decide +kernel]; first | done | rfl) ?_
    refine (hc_needE (K5, [], G5) [.ref th, .int x] _ hH (by omega) rfl (ht_ac (.inr ⟨by decide, _, rfl, k_th⟩) (ht_ac hi_any ht_an))).mono (fun u hu => hs_cbx (by decide +kernel) hu (fun v11 K11 G11 c11 s11 x11 f11 hH hv11 cl11 sl11 => ?_) (fun K11 G11 c11 s11 x11 f11 hH cl11 sl11 => ⟨_, (List.mem_cons_of_mem _ (List.mem_cons_of_mem _ List.mem_cons_self)), _, hx0.tr x11, hf.tr hx0 (f11.wk (by decide +kernel)), hH, rfl, (by dsimp only; omega), (by dsimp only; omega)⟩))
    have k_th := x11 _ _ k_th
    have k_a1 := x11 _ _ k_a1
    have k_b5 := x11 _ _ k_b5
    have hf := hf.tr hx0 (f11.wk (by decide +kernel))
    have hx0 := hx0.tr x11
    obtain ⟨b11, rfl, k_b11⟩ := hi_ref hv11
    show et_go none _ 133 14 _ [.ref b11] _ ((0 + c5) + c11) ((0 + s5) + s11) _
    refine hs_popr (p := 15) (by decide +kernel) ?_
    refine hs_aload (i := 0) (p := 16) (by decide +kernel) rfl ?_
    refine hs_iload (i := 2) (p := 17) (by decide +kernel) rfl ?_
    have lto_b5 := (hH.2.2 _ _ k_b5).1
    have hfo := hf
    refine ht_callv (T := et_TT) (t := 12) (mi := 129) (na := 1) (ci := 10) (lk := 4) (lm := 2) (L0 := eg_en (eg_mL 129) [.ref th, .int y]) (by decide +kernel) rfl hH k_th rfl rfl rfl rfl rfl (by rw [show eg_mL 129 = 2 from by decide +kernel]; first | done | rfl) ?_
    refine (hc_needR (K11, [], G11) [.ref th, .int y] _ hH (by omega) rfl (ht_ac (.inr ⟨by decide, _, rfl, k_th⟩) (ht_ac hi_any ht_an))).mono (fun u hu => hs_cbx (by decide +kernel) hu (fun v17 K17 G17 c17 s17 x17 f17 hH hv17 cl17 sl17 => ?_) (fun K17 G17 c17 s17 x17 f17 hH cl17 sl17 => ⟨_, (List.mem_cons_of_mem _ (List.mem_cons_of_mem _ List.mem_cons_self)), _, hx0.tr x17, hf.tr hx0 (f17.wk (by decide +kernel)), hH, rfl, (by dsimp only; omega), (by dsimp only; omega)⟩))
    have k_th := x17 _ _ k_th
    have k_a1 := x17 _ _ k_a1
    have k_b5 := x17 _ _ k_b5
    have k_b11 := x17 _ _ k_b11
    have hf := hf.tr hx0 (f17.wk (by decide +kernel))
    have hx0 := hx0.tr x17
    rcases hi_q hv17 with rfl | ⟨b17, rfl, k_b17⟩
    · show et_go none _ 133 20 _ [.null] _ (((0 + c5) + c11) + c17) (((0 + s5) + s11) + s17) _
      refine hs_popn (p := 21) (by decide +kernel) ?_
      refine hs_aload (i := 3) (p := 22) (by decide +kernel) rfl ?_
      refine hs_ifnonnull1 (p := 33) (by decide +kernel) ?_
      refine hs_aload (i := 0) (p := 34) (by decide +kernel) rfl ?_
      refine ht_getr (T := et_TT) (t := 12) (ci := 10) (f := 0) (p := 37) (by decide +kernel) rfl rfl hH k_th (fun a34 k_a34 e34 => ?_)
      have hs0 := e34
      refine ht_getn (T := et_TT) (t := 10) (ci := 8) (f := 9) (p := 40) (by decide +kernel) rfl rfl hH k_a34 (fun c37 h37 e37 => ?_)
      have hs1 := e37
      refine hs_k (x := Int32.ofNat 6) (p := 42) (by decide +kernel) ?_
      refine hs_br2n (c := .lt) (t := 53) (f := 45) (by decide +kernel) (by omega) (by omega) (fun (c42 : c37 < 6) => ?_) (fun (c42 : ¬ (c37 < 6)) => ?_)
      · refine hs_aload (i := 0) (p := 54) (by decide +kernel) rfl ?_
        refine ht_getr (T := et_TT) (t := 12) (ci := 10) (f := 0) (p := 57) (by decide +kernel) rfl rfl hH k_th (fun a54 k_a54 e54 => ?_)
        obtain rfl : a34 = a54 := Value.ref.inj (Option.some.inj (hs0.symm.trans e54))
        refine ht_getr (T := et_TT) (t := 10) (ci := 8) (f := 10) (p := 60) (by decide +kernel) rfl rfl hH k_a34 (fun a57 k_a57 e57 => ?_)
        refine hs_aload (i := 0) (p := 61) (by decide +kernel) rfl ?_
        refine ht_getr (T := et_TT) (t := 12) (ci := 10) (f := 0) (p := 64) (by decide +kernel) rfl rfl hH k_th (fun a61 k_a61 e61 => ?_)
        obtain rfl : a34 = a61 := Value.ref.inj (Option.some.inj (hs0.symm.trans e61))
        refine ht_getn (T := et_TT) (t := 10) (ci := 8) (f := 9) (p := 67) (by decide +kernel) rfl rfl hH k_a34 (fun c64 h64 e64 => ?_)
        obtain rfl : c37 = c64 := hb_cc hs1 e64 (by omega) (by omega)
        refine ht_newU (ci := 0) (n := 4) (fs := [.null, .int 0, .int 0, .int 0]) (p := 70) (by decide +kernel) (by omega) (by omega) (by decide +kernel) (by decide +kernel) hH (fun G67 o67 hu f67 => ?_)
        have hs0 := (f67.2 th 12 k_th 0 rfl).trans hs0
        have hs1 := (f67.2 a34 10 k_a34 9 rfl).trans hs1
        have hH := hu.1
        have hf := hf.tr hx0 (f67.wk (by decide +kernel))
        refine hs_dup1 (p := 71) (by decide +kernel) ?_
        refine hs_aload (i := 3) (p := 72) (by decide +kernel) rfl ?_
        refine hs_iload (i := 1) (p := 73) (by decide +kernel) rfl ?_
        refine hs_iload (i := 2) (p := 74) (by decide +kernel) rfl ?_
        refine hs_aload (i := 0) (p := 75) (by decide +kernel) rfl ?_
        refine ht_getr (T := et_TT) (t := 12) (ci := 10) (f := 3) (p := 78) (by decide +kernel) rfl rfl hH k_th (fun a75 k_a75 e75 => ?_)
        refine ht_getn (T := et_TT) (t := 7) (ci := 5) (f := 3) (p := 81) (by decide +kernel) rfl rfl hH k_a75 (fun c78 h78 e78 => ?_)
        have lto_b5 := (hH.2.2 _ _ k_b5).1
        have hfo := hf
        refine hs_callp (mi := 30) (na := 4) (lk := 4) (lm := 5) (L0 := eg_en (eg_mL 30) [.ref o67, .ref b5, .int x, .int y, .int (Int32.ofNat c78)]) (by decide +kernel) rfl rfl rfl rfl rfl (by rw [show eg_mL 30 = 5 from by decide +kernel]; first | done | rfl) ?_
        refine (pu_claim hu k_b5 (by omega)).mono (fun u hu => pu_cb hu (fun K81 G81 x81 f81 hH k_o67 => ?_))
        have hs0 := (f81.2 th 12 k_th 0 rfl).trans hs0
        have hs1 := (f81.2 a34 10 k_a34 9 rfl).trans hs1
        have k_th := x81 _ _ k_th
        have k_a1 := x81 _ _ k_a1
        have k_b5 := x81 _ _ k_b5
        have k_b11 := x81 _ _ k_b11
        have k_a34 := x81 _ _ k_a34
        have k_a57 := x81 _ _ k_a57
        have k_a75 := x81 _ _ k_a75
        have hf := hf.tr hx0 (f81.wk (by decide +kernel))
        have hx0 := hx0.tr x81
        show et_go none _ 133 84 _ [.ref o67, .int (Int32.ofNat c37), .ref a57] _ ((((0 + c5) + c11) + c17) + 1) ((((0 + s5) + s11) + s17) + 4) _
        refine ht_aasg (M := [(39, 0, 100000)]) (t := 39) (u := 2) (N := 6) (kd := 8) (cj := 0) (p := 85) (by decide +kernel) ⟨rfl, rfl⟩ (by decide +kernel) hH k_a57 (by omega) k_o67 (hb_mm (by omega)) (fun G84 hH f84 => ?_)
        have hs0 := (f84.2 th 12 k_th 0 rfl).trans hs0
        have hs1 := (f84.2 a34 10 k_a34 9 rfl).trans hs1
        have hf := hf.tr hx0 (f84.wk (by decide +kernel))
        refine hs_aload (i := 0) (p := 86) (by decide +kernel) rfl ?_
        refine ht_getr (T := et_TT) (t := 12) (ci := 10) (f := 0) (p := 89) (by decide +kernel) rfl rfl hH k_th (fun a86 k_a86 e86 => ?_)
        obtain rfl : a34 = a86 := Value.ref.inj (Option.some.inj (hs0.symm.trans e86))
        refine hs_dup1 (p := 90) (by decide +kernel) ?_
        refine ht_getn (T := et_TT) (t := 10) (ci := 8) (f := 9) (p := 93) (by decide +kernel) rfl rfl hH k_a34 (fun c90 h90 e90 => ?_)
        obtain rfl : c37 = c90 := hb_cc hs1 e90 (by omega) (by omega)
        refine hs_k (x := Int32.ofNat 1) (p := 94) (by decide +kernel) ?_
        refine hs_iaddn (p := 95) (by decide +kernel) ?_
        refine ht_put (M := [(10, 9, 9)]) (T := et_TT) (t := 10) (ci := 8) (f := 9) (p := 98) (ty := .int) (by decide +kernel) rfl rfl rfl rfl rfl (by decide +kernel) hH k_a34 (hi_nv (by omega) (by omega)) (fun G95 hH f95 e95 => ?_)
        have hs0 := (f95.2 th 12 k_th 0 rfl).trans hs0
        have hf := hf.tr hx0 (f95.wk (by decide +kernel))
        refine hs_aload (i := 0) (p := 99) (by decide +kernel) rfl ?_
        refine ht_getr (T := et_TT) (t := 12) (ci := 10) (f := 0) (p := 102) (by decide +kernel) rfl rfl hH k_th (fun a99 k_a99 e99 => ?_)
        obtain rfl : a34 = a99 := Value.ref.inj (Option.some.inj (hs0.symm.trans e99))
        refine ht_getn (T := et_TT) (t := 10) (ci := 8) (f := 9) (p := 105) (by decide +kernel) rfl rfl hH k_a34 (fun c102 h102 e102 => ?_)
        refine hs_k (x := Int32.ofNat 1) (p := 106) (by decide +kernel) ?_
        refine hs_isub (p := 107) (by decide +kernel) ?_
        refine hs_iret (by decide +kernel) ?_
        exact ⟨_, List.mem_cons_self, _, hx0, hf, hH, ⟨_, rfl, hi_any⟩, (by dsimp only; omega), (by dsimp only; omega)⟩
      · refine hs_thr (x := 2) (lk := 4) (by decide +kernel) rfl rfl ?_
        exact ⟨_, (List.mem_cons_of_mem _ (List.mem_cons_of_mem _ (List.mem_cons_of_mem _ List.mem_cons_self))), _, hx0, hf, hH, rfl, (by dsimp only; omega), (by dsimp only; omega)⟩
    · show et_go none _ 133 20 _ [.ref b17] _ (((0 + c5) + c11) + c17) (((0 + s5) + s11) + s17) _
      refine hs_popr (p := 21) (by decide +kernel) ?_
      refine hs_aload (i := 3) (p := 22) (by decide +kernel) rfl ?_
      refine hs_ifnonnull1 (p := 33) (by decide +kernel) ?_
      refine hs_aload (i := 0) (p := 34) (by decide +kernel) rfl ?_
      refine ht_getr (T := et_TT) (t := 12) (ci := 10) (f := 0) (p := 37) (by decide +kernel) rfl rfl hH k_th (fun a34 k_a34 e34 => ?_)
      have hs0 := e34
      refine ht_getn (T := et_TT) (t := 10) (ci := 8) (f := 9) (p := 40) (by decide +kernel) rfl rfl hH k_a34 (fun c37 h37 e37 => ?_)
      have hs1 := e37
      refine hs_k (x := Int32.ofNat 6) (p := 42) (by decide +kernel) ?_
      refine hs_br2n (c := .lt) (t := 53) (f := 45) (by decide +kernel) (by omega) (by omega) (fun (c42 : c37 < 6) => ?_) (fun (c42 : ¬ (c37 < 6)) => ?_)
      · refine hs_aload (i := 0) (p := 54) (by decide +kernel) rfl ?_
        refine ht_getr (T := et_TT) (t := 12) (ci := 10) (f := 0) (p := 57) (by decide +kernel) rfl rfl hH k_th (fun a54 k_a54 e54 => ?_)
        obtain rfl : a34 = a54 := Value.ref.inj (Option.some.inj (hs0.symm.trans e54))
        refine ht_getr (T := et_TT) (t := 10) (ci := 8) (f := 10) (p := 60) (by decide +kernel) rfl rfl hH k_a34 (fun a57 k_a57 e57 => ?_)
        refine hs_aload (i := 0) (p := 61) (by decide +kernel) rfl ?_
        refine ht_getr (T := et_TT) (t := 12) (ci := 10) (f := 0) (p := 64) (by decide +kernel) rfl rfl hH k_th (fun a61 k_a61 e61 => ?_)
        obtain rfl : a34 = a61 := Value.ref.inj (Option.some.inj (hs0.symm.trans e61))
        refine ht_getn (T := et_TT) (t := 10) (ci := 8) (f := 9) (p := 67) (by decide +kernel) rfl rfl hH k_a34 (fun c64 h64 e64 => ?_)
        obtain rfl : c37 = c64 := hb_cc hs1 e64 (by omega) (by omega)
        refine ht_newU (ci := 0) (n := 4) (fs := [.null, .int 0, .int 0, .int 0]) (p := 70) (by decide +kernel) (by omega) (by omega) (by decide +kernel) (by decide +kernel) hH (fun G67 o67 hu f67 => ?_)
        have hs0 := (f67.2 th 12 k_th 0 rfl).trans hs0
        have hs1 := (f67.2 a34 10 k_a34 9 rfl).trans hs1
        have hH := hu.1
        have hf := hf.tr hx0 (f67.wk (by decide +kernel))
        refine hs_dup1 (p := 71) (by decide +kernel) ?_
        refine hs_aload (i := 3) (p := 72) (by decide +kernel) rfl ?_
        refine hs_iload (i := 1) (p := 73) (by decide +kernel) rfl ?_
        refine hs_iload (i := 2) (p := 74) (by decide +kernel) rfl ?_
        refine hs_aload (i := 0) (p := 75) (by decide +kernel) rfl ?_
        refine ht_getr (T := et_TT) (t := 12) (ci := 10) (f := 3) (p := 78) (by decide +kernel) rfl rfl hH k_th (fun a75 k_a75 e75 => ?_)
        refine ht_getn (T := et_TT) (t := 7) (ci := 5) (f := 3) (p := 81) (by decide +kernel) rfl rfl hH k_a75 (fun c78 h78 e78 => ?_)
        have lto_b5 := (hH.2.2 _ _ k_b5).1
        have hfo := hf
        refine hs_callp (mi := 30) (na := 4) (lk := 4) (lm := 5) (L0 := eg_en (eg_mL 30) [.ref o67, .ref b5, .int x, .int y, .int (Int32.ofNat c78)]) (by decide +kernel) rfl rfl rfl rfl rfl (by rw [show eg_mL 30 = 5 from by decide +kernel]; first | done | rfl) ?_
        refine (pu_claim hu k_b5 (by omega)).mono (fun u hu => pu_cb hu (fun K81 G81 x81 f81 hH k_o67 => ?_))
        have hs0 := (f81.2 th 12 k_th 0 rfl).trans hs0
        have hs1 := (f81.2 a34 10 k_a34 9 rfl).trans hs1
        have k_th := x81 _ _ k_th
        have k_a1 := x81 _ _ k_a1
        have k_b5 := x81 _ _ k_b5
        have k_b11 := x81 _ _ k_b11
        have k_b17 := x81 _ _ k_b17
        have k_a34 := x81 _ _ k_a34
        have k_a57 := x81 _ _ k_a57
        have k_a75 := x81 _ _ k_a75
        have hf := hf.tr hx0 (f81.wk (by decide +kernel))
        have hx0 := hx0.tr x81
        show et_go none _ 133 84 _ [.ref o67, .int (Int32.ofNat c37), .ref a57] _ ((((0 + c5) + c11) + c17) + 1) ((((0 + s5) + s11) + s17) + 4) _
        refine ht_aasg (M := [(39, 0, 100000)]) (t := 39) (u := 2) (N := 6) (kd := 8) (cj := 0) (p := 85) (by decide +kernel) ⟨rfl, rfl⟩ (by decide +kernel) hH k_a57 (by omega) k_o67 (hb_mm (by omega)) (fun G84 hH f84 => ?_)
        have hs0 := (f84.2 th 12 k_th 0 rfl).trans hs0
        have hs1 := (f84.2 a34 10 k_a34 9 rfl).trans hs1
        have hf := hf.tr hx0 (f84.wk (by decide +kernel))
        refine hs_aload (i := 0) (p := 86) (by decide +kernel) rfl ?_
        refine ht_getr (T := et_TT) (t := 12) (ci := 10) (f := 0) (p := 89) (by decide +kernel) rfl rfl hH k_th (fun a86 k_a86 e86 => ?_)
        obtain rfl : a34 = a86 := Value.ref.inj (Option.some.inj (hs0.symm.trans e86))
        refine hs_dup1 (p := 90) (by decide +kernel) ?_
        refine ht_getn (T := et_TT) (t := 10) (ci := 8) (f := 9) (p := 93) (by decide +kernel) rfl rfl hH k_a34 (fun c90 h90 e90 => ?_)
        obtain rfl : c37 = c90 := hb_cc hs1 e90 (by omega) (by omega)
        refine hs_k (x := Int32.ofNat 1) (p := 94) (by decide +kernel) ?_
        refine hs_iaddn (p := 95) (by decide +kernel) ?_
        refine ht_put (M := [(10, 9, 9)]) (T := et_TT) (t := 10) (ci := 8) (f := 9) (p := 98) (ty := .int) (by decide +kernel) rfl rfl rfl rfl rfl (by decide +kernel) hH k_a34 (hi_nv (by omega) (by omega)) (fun G95 hH f95 e95 => ?_)
        have hs0 := (f95.2 th 12 k_th 0 rfl).trans hs0
        have hf := hf.tr hx0 (f95.wk (by decide +kernel))
        refine hs_aload (i := 0) (p := 99) (by decide +kernel) rfl ?_
        refine ht_getr (T := et_TT) (t := 12) (ci := 10) (f := 0) (p := 102) (by decide +kernel) rfl rfl hH k_th (fun a99 k_a99 e99 => ?_)
        obtain rfl : a34 = a99 := Value.ref.inj (Option.some.inj (hs0.symm.trans e99))
        refine ht_getn (T := et_TT) (t := 10) (ci := 8) (f := 9) (p := 105) (by decide +kernel) rfl rfl hH k_a34 (fun c102 h102 e102 => ?_)
        refine hs_k (x := Int32.ofNat 1) (p := 106) (by decide +kernel) ?_
        refine hs_isub (p := 107) (by decide +kernel) ?_
        refine hs_iret (by decide +kernel) ?_
        exact ⟨_, List.mem_cons_self, _, hx0, hf, hH, ⟨_, rfl, hi_any⟩, (by dsimp only; omega), (by dsimp only; omega)⟩
      · refine hs_thr (x := 2) (lk := 4) (by decide +kernel) rfl rfl ?_
        exact ⟨_, (List.mem_cons_of_mem _ (List.mem_cons_of_mem _ (List.mem_cons_of_mem _ List.mem_cons_self))), _, hx0, hf, hH, rfl, (by dsimp only; omega), (by dsimp only; omega)⟩
end PPE
