/-! what the reference knows of its RULES stays right -/
/-- every RULE's text says something *(for all that is known beside the card) -/
def rtx (G : eg_G) (aw n : Nat) : Prop := ∀ r, r < n → ∃ f : sp_E → Bool, txP G aw (126 + 841 * r) 0 f ∧ fcl f
def kyB (G : eg_G) (am aw n : Nat) : Prop := kyA G am aw n ∧ rtx G aw n
section YJA
variable {K : et_K} {G G' : eg_G} {M : et_M} {S : Nat → Nat → Prop} {d d2 am aw n r c : Nat} {x y z y9 : Int32}
theorem rtx.co (h : rtx G aw n) (hn4 : n ≤ 4) (gw : ∀ r, r < n → ∀ i, i < 841 → et_pl (eg_at G' aw) (126 + 841 * r + i) = et_pl (eg_at G aw) (126 + 841 * r + i)) : rtx G' aw n := fun r hr => by
  obtain ⟨f, h1, h2⟩ := h r hr
  exact ⟨f, h1.mp (fun i hi => gw r hr i hi), h2⟩
theorem kyB.fr (h : kyB G am aw n) (hn4 : n ≤ 4) (hH : et_H et_TT K G) (k_am : K am = some 13) (k_aw : K aw = some 46) (hf : et_fr M K G G') (hk : ky_k M = true) : kyB G' am aw n := ⟨h.1.fr hH k_am k_aw hf hk, h.2.co hn4 (fun r hr i hi => by
  unfold ky_k at hk
  rw [Bool.and_eq_true, Bool.and_eq_true, Bool.and_eq_true, Bool.and_eq_true] at hk
  exact hf.2 aw 46 k_aw _ (rg_mm hk.2.2.2.2 (by omega) (by omega)))⟩
theorem kyB.xs (h : kyB G am aw n) (hn4 : n ≤ 4) (hH : et_H et_TT K G) (k_am : K am = some 13) (k_aw : K aw = some 46) (x : xf S G G') (hS : ∀ b j t, K b = some t → S b j → kyq t j) : kyB G' am aw n := ⟨h.1.xs hH k_am k_aw x hS, h.2.co hn4 (fun r hr i hi => x.2 aw _ (hH.2.2 _ _ k_aw).1 (fun hs => by
  have h9 := (hS _ _ _ k_aw hs).2.2.2 rfl
  omega))⟩
theorem fk_266 (hH : et_H et_TT K G) (k_am : K am = some 13) (k_aw : K aw = some 46) (m1 : et_pl (eg_at G am) 1 = some (.ref aw)) (hn4 : n ≤ 4) (hk : kyB G am aw n) (hr : r < 4) (hd : 5 ≤ d2) : et_go none d2 266 0 (eg_en (eg_mL 266) [.ref am, .int (Int32.ofNat r)]) [] G 0 0 (fun u => kyB u.2.1 am aw n) := by
  obtain ⟨ik, m18, k_ik⟩ := hf_ref (t := 13) (f := 18) (u := 25) hH k_am rfl rfl (.inr trivial)
  obtain ⟨kw, m19, k_kw⟩ := hf_ref (t := 13) (f := 19) (u := 30) hH k_am rfl rfl (.inr trivial)
  obtain ⟨hk1, hk2⟩ := hk
  by_cases hrn : r < n
  · obtain ⟨f, hT, hcl⟩ := hk2 r hrn
    have hkn : et_pl (eg_at G ik) r = some (.int (Int32.ofNat 0)) ∨ knP G aw kw r := by
      obtain ⟨ik', kw', ⟨q1, q2⟩, q3⟩ := hk1
      obtain rfl : ik' = ik := Value.ref.inj (Option.some.inj (q1.symm.trans m18))
      obtain rfl : kw' = kw := Value.ref.inj (Option.some.inj (q2.symm.trans m19))
      exact q3 r hrn hr
    exact (fm_knows hH k_am k_aw k_ik k_kw m1 m18 m19 hr hT hcl hkn hd).mono (fun u hu => ⟨hu.2.ky hT hk1 m18 m19, hk2.co hn4 (fun _ _ i _ => hu.2.2.2.2.2.2 _)⟩)
  · exact (fm_knows0 hH k_am k_aw k_ik k_kw m1 m18 m19 hr hd).mono (fun u hu => ⟨hu.2.ky hk1 m18 m19 (fun h => absurd h hrn), hk2.co hn4 (fun _ _ i _ => hu.2.2.2.2 _)⟩)
theorem fk_271_0 (hH : et_H et_TT K G) (k_am : K am = some 13) (k_aw : K aw = some 46) (m1 : et_pl (eg_at G am) 1 = some (.ref aw)) (hn4 : n ≤ 4) (hk : kyB G am aw n) (hr : r < 4) (hz1 : -1 ≤ z.toInt) (hz2 : z.toInt ≤ 16) (hd : 8 ≤ d2) : et_go none d2 271 0 (eg_en (eg_mL 271) [.ref am, .int (Int32.ofNat 0), .int (Int32.ofNat r), .int z]) [] G 0 0 (fun u => kyB u.2.1 am aw n) := by
  obtain ⟨d, rfl⟩ : ∃ d, d2 = d + 8 := ⟨d2 - 8, by omega⟩
  rw [show eg_mL 271 = 6 from by decide +kernel]
  show et_go none (d + 8) 271 0 [some (.ref am), some (.int (Int32.ofNat 0)), some (.int (Int32.ofNat r)), some (.int z), none, none] [] G 0 0 _
  have lt_am := (hH.2.2 _ _ k_am).1
  have lt_aw := (hH.2.2 _ _ k_aw).1
  refine hs_aload (i := 0) (p := 1) (by decide +kernel) rfl ?_
  refine hs_iload (i := 2) (p := 2) (by decide +kernel) rfl ?_
  refine ht_callv (T := et_TT) (t := 13) (mi := 266) (na := 1) (ci := 11) (lk := 6) (lm := 4) (L0 := eg_en (eg_mL 266) [.ref am, .int (Int32.ofNat r)]) (by decide +kernel) rfl hH k_am rfl rfl rfl rfl rfl (by rw [show eg_mL 266 = 4 from by decide +kernel]; first | done | rfl) ?_
  refine ((er_c38 (K, [], G) [.ref am, .int (Int32.ofNat r)] _ hH (by show 5 ≤ _; omega) rfl (ht_ac (.inr ⟨by decide, _, rfl, k_am⟩) (ht_ac (hi_nv (by omega) (by omega)) ht_an))).and (fk_266 hH k_am k_aw m1 hn4 hk (by omega) (by omega))).mono (fun u hu => hs_cbnP (P := fun g => kyB g am aw n) hu (fun K2 G2 c2 s2 x2 f2 hH cl2 sl2 hk => ?_))
  obtain rfl : c2 = 0 := Nat.le_zero.mp cl2
  obtain rfl : s2 = 0 := Nat.le_zero.mp sl2
  have m1 := (f2.2 am 13 k_am 1 (by decide +kernel)).trans m1
  have k_am := x2 _ _ k_am
  have lt_am := (hH.2.2 _ _ k_am).1
  have k_aw := x2 _ _ k_aw
  have lt_aw := (hH.2.2 _ _ k_aw).1
  show et_go none _ 271 5 _ [] _ _ _ _
  have hq9 := et_pok (T := et_TT) (Ks := [er_q8]) (an := er_an) (mi := 271) (pc := 5) (ps := [.inr (.inr (0, 13)), .inl (0, 0), .inl (0, 3), .inl ((-1), 16)]) (M := []) (es := [(.inl (some (.inl (et_mn, et_mx))), 0, 0)]) (w := (K2, [], G2)) (as := [.ref am, .int (Int32.ofNat 0), .int (Int32.ofNat r), .int z]) (d := 8) (d2 := d + 8) (List.forall_mem_cons.mpr ⟨er_c8, (fun _ h => absurd h List.not_mem_nil)⟩) (by decide) (by decide +kernel) hH (by omega) rfl (ht_ac (.inr ⟨by decide, _, rfl, k_am⟩) (ht_ac (hi_iv (by decide) (by decide)) (ht_ac (hi_nv (by omega) (by omega)) (ht_ac (hi_iv (by omega) (by omega)) ht_an))))
  rw [show eg_mL 271 = 6 from by decide +kernel] at hq9
  refine et_go.mono hq9 (fun u hu => ?_)
  obtain ⟨_, _, K9, h1, h2, -⟩ := hu
  exact hk.fr hn4 hH k_am k_aw h2 (by decide +kernel)
theorem fk_265_0 (hH : et_H et_TT K G) (k_am : K am = some 13) (k_aw : K aw = some 46) (m1 : et_pl (eg_at G am) 1 = some (.ref aw)) (hn4 : n ≤ 4) (hk : kyB G am aw n) (hr : r < 4) (hd : 7 ≤ d2) : et_go none d2 265 0 (eg_en (eg_mL 265) [.ref am, .int (Int32.ofNat 0), .int (Int32.ofNat r)]) [] G 0 0 (fun u => kyB u.2.1 am aw n) := by
  obtain ⟨d, rfl⟩ : ∃ d, d2 = d + 7 := ⟨d2 - 7, by omega⟩
  rw [show eg_mL 265 = 6 from by decide +kernel]
  show et_go none (d + 7) 265 0 [some (.ref am), some (.int (Int32.ofNat 0)), some (.int (Int32.ofNat r)), none, none, none] [] G 0 0 _
  have lt_am := (hH.2.2 _ _ k_am).1
  have lt_aw := (hH.2.2 _ _ k_aw).1
  refine hs_aload (i := 0) (p := 1) (by decide +kernel) rfl ?_
  refine hs_iload (i := 2) (p := 2) (by decide +kernel) rfl ?_
  refine ht_callv (T := et_TT) (t := 13) (mi := 266) (na := 1) (ci := 11) (lk := 6) (lm := 4) (L0 := eg_en (eg_mL 266) [.ref am, .int (Int32.ofNat r)]) (by decide +kernel) rfl hH k_am rfl rfl rfl rfl rfl (by rw [show eg_mL 266 = 4 from by decide +kernel]; first | done | rfl) ?_
  refine ((er_c38 (K, [], G) [.ref am, .int (Int32.ofNat r)] _ hH (by show 5 ≤ _; omega) rfl (ht_ac (.inr ⟨by decide, _, rfl, k_am⟩) (ht_ac (hi_nv (by omega) (by omega)) ht_an))).and (fk_266 hH k_am k_aw m1 hn4 hk (by omega) (by omega))).mono (fun u hu => hs_cbnP (P := fun g => kyB g am aw n) hu (fun K2 G2 c2 s2 x2 f2 hH cl2 sl2 hk => ?_))
  obtain rfl : c2 = 0 := Nat.le_zero.mp cl2
  obtain rfl : s2 = 0 := Nat.le_zero.mp sl2
  have m1 := (f2.2 am 13 k_am 1 (by decide +kernel)).trans m1
  have k_am := x2 _ _ k_am
  have lt_am := (hH.2.2 _ _ k_am).1
  have k_aw := x2 _ _ k_aw
  have lt_aw := (hH.2.2 _ _ k_aw).1
  show et_go none _ 265 5 _ [] _ _ _ _
  have hq9 := et_pok (T := et_TT) (Ks := [er_q39, (hq_sorts 35 48), (hq_sorts 48 35)]) (an := er_an) (mi := 265) (pc := 5) (ps := [.inr (.inr (0, 13)), .inl (0, 0), .inl (0, 3)]) (M := [(22, 0, 100000), (35, 0, 100000), (48, 0, 100000)]) (es := [(.inl (some (.inl (et_mn, et_mx))), 0, 0)]) (w := (K2, [], G2)) (as := [.ref am, .int (Int32.ofNat 0), .int (Int32.ofNat r)]) (d := 7) (d2 := d + 7) (List.forall_mem_cons.mpr ⟨er_c39, (List.forall_mem_cons.mpr ⟨(hc_sorts (.inl ⟨rfl, rfl⟩)), (List.forall_mem_cons.mpr ⟨(hc_sorts (.inr ⟨rfl, rfl⟩)), (fun _ h => absurd h List.not_mem_nil)⟩)⟩)⟩) (by decide) (by decide +kernel) hH (by omega) rfl (ht_ac (.inr ⟨by decide, _, rfl, k_am⟩) (ht_ac (hi_iv (by decide) (by decide)) (ht_ac (hi_nv (by omega) (by omega)) ht_an)))
  rw [show eg_mL 265 = 6 from by decide +kernel] at hq9
  refine et_go.mono hq9 (fun u hu => ?_)
  obtain ⟨_, _, K9, h1, h2, -⟩ := hu
  exact hk.fr hn4 hH k_am k_aw h2 (by decide +kernel)
theorem fk_292_0 (hH : et_H et_TT K G) (k_am : K am = some 13) (k_aw : K aw = some 46) (m1 : et_pl (eg_at G am) 1 = some (.ref aw)) (hn4 : n ≤ 4) (hk : kyB G am aw n) (hc : c < 6) (hr : r < 4) (hd : 10 ≤ d2) : et_go none d2 292 26 [some (.ref am), some (.int (Int32.ofNat c)), some (.int (Int32.ofNat 0)), some (.int (Int32.ofNat r)), none, none] [] G 0 0 (fun u => kyB u.2.1 am aw n) := by
  obtain ⟨d, rfl⟩ : ∃ d, d2 = d + 10 := ⟨d2 - 10, by omega⟩
  have lt_am := (hH.2.2 _ _ k_am).1
  have lt_aw := (hH.2.2 _ _ k_aw).1
  refine hs_aload (i := 0) (p := 27) (by decide +kernel) rfl ?_
  refine hs_iload (i := 2) (p := 28) (by decide +kernel) rfl ?_
  refine hs_iload (i := 3) (p := 29) (by decide +kernel) rfl ?_
  refine hs_k (x := (-1)) (p := 30) (by decide +kernel) ?_
  refine ht_callv (T := et_TT) (t := 13) (mi := 271) (na := 3) (ci := 11) (lk := 6) (lm := 6) (L0 := eg_en (eg_mL 271) [.ref am, .int (Int32.ofNat 0), .int (Int32.ofNat r), .int (-1)]) (by decide +kernel) rfl hH k_am rfl rfl rfl rfl rfl (by rw [show eg_mL 271 = 6 from by decide +kernel]; first | done | rfl) ?_
  refine ((er_c75 (K, [], G) [.ref am, .int (Int32.ofNat 0), .int (Int32.ofNat r), .int (-1)] _ hH (by show 8 ≤ _; omega) rfl (ht_ac (.inr ⟨by decide, _, rfl, k_am⟩) (ht_ac (hi_iv (by decide) (by decide)) (ht_ac (hi_nv (by omega) (by omega)) (ht_ac (hi_iv (by decide) (by decide)) ht_an))))).and (fk_271_0 hH k_am k_aw m1 hn4 hk (by omega) (by decide) (by decide) (by omega))).mono (fun u hu => hs_cbvP (P := fun g => kyB g am aw n) hu (fun v30 K30 G30 c30 s30 x30 f30 hH hv30 cl30 sl30 hk => ?_))
  obtain rfl : c30 = 0 := Nat.le_zero.mp cl30
  obtain rfl : s30 = 0 := Nat.le_zero.mp sl30
  have m1 := (f30.2 am 13 k_am 1 (by decide +kernel)).trans m1
  have k_am := x30 _ _ k_am
  have lt_am := (hH.2.2 _ _ k_am).1
  have k_aw := x30 _ _ k_aw
  have lt_aw := (hH.2.2 _ _ k_aw).1
  obtain ⟨y30, rfl, -, -⟩ := hi_int hv30
  show et_go none _ 292 33 _ [.int y30] _ _ _ _
  refine hs_k (x := Int32.ofNat 656) (p := 36) (by decide +kernel) ?_
  refine hs_idiv (p := 37) (by decide +kernel) (by decide) ?_
  refine hs_istore (i := 4) (p := 39) (by decide +kernel) (Nat.le_of_ble_eq_true rfl) ?_
  obtain ⟨y9, hy9⟩ : ∃ y9 : Int32, y9 = (y30 / Int32.ofNat 656) := ⟨_, rfl⟩
  show et_go none _ 292 39 [some (.ref am), some (.int (Int32.ofNat c)), some (.int (Int32.ofNat 0)), some (.int (Int32.ofNat r)), some (.int (y30 / Int32.ofNat 656)), none] [] _ _ _ _
  rw [← hy9]
  have hq9 := et_pok (T := et_TT) (Ks := [er_q49, er_q25, er_q43, er_q46, er_q18, er_q11, hq_holdsA, hq_holdsB]) (an := er_an) (mi := 292) (pc := 39) (ps := [.inr (.inr (0, 13)), .inl (0, 5), .inl (0, 0), .inl (0, 3), .inl (et_mn, et_mx)]) (M := [(13, 16, 16), (14, 0, 100000), (24, 0, 100000), (29, 0, 100000)]) (es := [(.inl (some (.inl (0, 1))), 0, 0)]) (w := (K30, [], G30)) (as := [.ref am, .int (Int32.ofNat c), .int (Int32.ofNat 0), .int (Int32.ofNat r), .int y9]) (d := 10) (d2 := d + 10) (List.forall_mem_cons.mpr ⟨er_c49, (List.forall_mem_cons.mpr ⟨er_c25, (List.forall_mem_cons.mpr ⟨er_c43, (List.forall_mem_cons.mpr ⟨er_c46, (List.forall_mem_cons.mpr ⟨er_c18, (List.forall_mem_cons.mpr ⟨er_c11, (List.forall_mem_cons.mpr ⟨hc_holdsA, (List.forall_mem_cons.mpr ⟨hc_holdsB, (fun _ h => absurd h List.not_mem_nil)⟩)⟩)⟩)⟩)⟩)⟩)⟩)⟩) (by decide) (by decide +kernel) hH (by omega) rfl (ht_ac (.inr ⟨by decide, _, rfl, k_am⟩) (ht_ac (hi_nv (by omega) (by omega)) (ht_ac (hi_iv (by decide) (by decide)) (ht_ac (hi_nv (by omega) (by omega)) (ht_ac hi_any ht_an)))))
  rw [show eg_mL 292 = 6 from by decide +kernel] at hq9
  refine et_go.mono hq9 (fun u hu => ?_)
  obtain ⟨_, _, K9, h1, h2, -⟩ := hu
  exact hk.fr hn4 hH k_am k_aw h2 (by decide +kernel)
theorem fk_271_1 (hH : et_H et_TT K G) (k_am : K am = some 13) (k_aw : K aw = some 46) (m1 : et_pl (eg_at G am) 1 = some (.ref aw)) (hn4 : n ≤ 4) (hk : kyB G am aw n) (hr : r < 4) (hz1 : -1 ≤ z.toInt) (hz2 : z.toInt ≤ 16) (hd : 8 ≤ d2) : et_go none d2 271 0 (eg_en (eg_mL 271) [.ref am, .int (Int32.ofNat 1), .int (Int32.ofNat r), .int z]) [] G 0 0 (fun u => kyB u.2.1 am aw n) := by
  obtain ⟨d, rfl⟩ : ∃ d, d2 = d + 8 := ⟨d2 - 8, by omega⟩
  rw [show eg_mL 271 = 6 from by decide +kernel]
  show et_go none (d + 8) 271 0 [some (.ref am), some (.int (Int32.ofNat 1)), some (.int (Int32.ofNat r)), some (.int z), none, none] [] G 0 0 _
  have lt_am := (hH.2.2 _ _ k_am).1
  have lt_aw := (hH.2.2 _ _ k_aw).1
  refine hs_aload (i := 0) (p := 1) (by decide +kernel) rfl ?_
  refine hs_iload (i := 2) (p := 2) (by decide +kernel) rfl ?_
  refine ht_callv (T := et_TT) (t := 13) (mi := 266) (na := 1) (ci := 11) (lk := 6) (lm := 4) (L0 := eg_en (eg_mL 266) [.ref am, .int (Int32.ofNat r)]) (by decide +kernel) rfl hH k_am rfl rfl rfl rfl rfl (by rw [show eg_mL 266 = 4 from by decide +kernel]; first | done | rfl) ?_
  refine ((er_c38 (K, [], G) [.ref am, .int (Int32.ofNat r)] _ hH (by show 5 ≤ _; omega) rfl (ht_ac (.inr ⟨by decide, _, rfl, k_am⟩) (ht_ac (hi_nv (by omega) (by omega)) ht_an))).and (fk_266 hH k_am k_aw m1 hn4 hk (by omega) (by omega))).mono (fun u hu => hs_cbnP (P := fun g => kyB g am aw n) hu (fun K2 G2 c2 s2 x2 f2 hH cl2 sl2 hk => ?_))
  obtain rfl : c2 = 0 := Nat.le_zero.mp cl2
  obtain rfl : s2 = 0 := Nat.le_zero.mp sl2
  have m1 := (f2.2 am 13 k_am 1 (by decide +kernel)).trans m1
  have k_am := x2 _ _ k_am
  have lt_am := (hH.2.2 _ _ k_am).1
  have k_aw := x2 _ _ k_aw
  have lt_aw := (hH.2.2 _ _ k_aw).1
  show et_go none _ 271 5 _ [] _ _ _ _
  have hq9 := et_pok (T := et_TT) (Ks := [er_q16]) (an := er_an) (mi := 271) (pc := 5) (ps := [.inr (.inr (0, 13)), .inl (1, 1), .inl (0, 3), .inl ((-1), 16)]) (M := []) (es := [(.inl (some (.inl (et_mn, et_mx))), 0, 0)]) (w := (K2, [], G2)) (as := [.ref am, .int (Int32.ofNat 1), .int (Int32.ofNat r), .int z]) (d := 8) (d2 := d + 8) (List.forall_mem_cons.mpr ⟨er_c16, (fun _ h => absurd h List.not_mem_nil)⟩) (by decide) (by decide +kernel) hH (by omega) rfl (ht_ac (.inr ⟨by decide, _, rfl, k_am⟩) (ht_ac (hi_iv (by decide) (by decide)) (ht_ac (hi_nv (by omega) (by omega)) (ht_ac (hi_iv (by omega) (by omega)) ht_an))))
  rw [show eg_mL 271 = 6 from by decide +kernel] at hq9
  refine et_go.mono hq9 (fun u hu => ?_)
  obtain ⟨_, _, K9, h1, h2, -⟩ := hu
  exact hk.fr hn4 hH k_am k_aw h2 (by decide +kernel)
theorem fk_265_1 (hH : et_H et_TT K G) (k_am : K am = some 13) (k_aw : K aw = some 46) (m1 : et_pl (eg_at G am) 1 = some (.ref aw)) (hn4 : n ≤ 4) (hk : kyB G am aw n) (hr : r < 4) (hd : 7 ≤ d2) : et_go none d2 265 0 (eg_en (eg_mL 265) [.ref am, .int (Int32.ofNat 1), .int (Int32.ofNat r)]) [] G 0 0 (fun u => kyB u.2.1 am aw n) := by
  obtain ⟨d, rfl⟩ : ∃ d, d2 = d + 7 := ⟨d2 - 7, by omega⟩
  rw [show eg_mL 265 = 6 from by decide +kernel]
  show et_go none (d + 7) 265 0 [some (.ref am), some (.int (Int32.ofNat 1)), some (.int (Int32.ofNat r)), none, none, none] [] G 0 0 _
  have lt_am := (hH.2.2 _ _ k_am).1
  have lt_aw := (hH.2.2 _ _ k_aw).1
  refine hs_aload (i := 0) (p := 1) (by decide +kernel) rfl ?_
  refine hs_iload (i := 2) (p := 2) (by decide +kernel) rfl ?_
  refine ht_callv (T := et_TT) (t := 13) (mi := 266) (na := 1) (ci := 11) (lk := 6) (lm := 4) (L0 := eg_en (eg_mL 266) [.ref am, .int (Int32.ofNat r)]) (by decide +kernel) rfl hH k_am rfl rfl rfl rfl rfl (by rw [show eg_mL 266 = 4 from by decide +kernel]; first | done | rfl) ?_
  refine ((er_c38 (K, [], G) [.ref am, .int (Int32.ofNat r)] _ hH (by show 5 ≤ _; omega) rfl (ht_ac (.inr ⟨by decide, _, rfl, k_am⟩) (ht_ac (hi_nv (by omega) (by omega)) ht_an))).and (fk_266 hH k_am k_aw m1 hn4 hk (by omega) (by omega))).mono (fun u hu => hs_cbnP (P := fun g => kyB g am aw n) hu (fun K2 G2 c2 s2 x2 f2 hH cl2 sl2 hk => ?_))
  obtain rfl : c2 = 0 := Nat.le_zero.mp cl2
  obtain rfl : s2 = 0 := Nat.le_zero.mp sl2
  have m1 := (f2.2 am 13 k_am 1 (by decide +kernel)).trans m1
  have k_am := x2 _ _ k_am
  have lt_am := (hH.2.2 _ _ k_am).1
  have k_aw := x2 _ _ k_aw
  have lt_aw := (hH.2.2 _ _ k_aw).1
  show et_go none _ 265 5 _ [] _ _ _ _
  have hq9 := et_pok (T := et_TT) (Ks := [er_q44, (hq_sorts 35 48), (hq_sorts 48 35)]) (an := er_an) (mi := 265) (pc := 5) (ps := [.inr (.inr (0, 13)), .inl (1, 1), .inl (0, 3)]) (M := [(22, 0, 100000), (35, 0, 100000), (48, 0, 100000)]) (es := [(.inl (some (.inl (et_mn, et_mx))), 0, 0)]) (w := (K2, [], G2)) (as := [.ref am, .int (Int32.ofNat 1), .int (Int32.ofNat r)]) (d := 7) (d2 := d + 7) (List.forall_mem_cons.mpr ⟨er_c44, (List.forall_mem_cons.mpr ⟨(hc_sorts (.inl ⟨rfl, rfl⟩)), (List.forall_mem_cons.mpr ⟨(hc_sorts (.inr ⟨rfl, rfl⟩)), (fun _ h => absurd h List.not_mem_nil)⟩)⟩)⟩) (by decide) (by decide +kernel) hH (by omega) rfl (ht_ac (.inr ⟨by decide, _, rfl, k_am⟩) (ht_ac (hi_iv (by decide) (by decide)) (ht_ac (hi_nv (by omega) (by omega)) ht_an)))
  rw [show eg_mL 265 = 6 from by decide +kernel] at hq9
  refine et_go.mono hq9 (fun u hu => ?_)
  obtain ⟨_, _, K9, h1, h2, -⟩ := hu
  exact hk.fr hn4 hH k_am k_aw h2 (by decide +kernel)
theorem fk_292_1 (hH : et_H et_TT K G) (k_am : K am = some 13) (k_aw : K aw = some 46) (m1 : et_pl (eg_at G am) 1 = some (.ref aw)) (hn4 : n ≤ 4) (hk : kyB G am aw n) (hc : c < 6) (hr : r < 4) (hd : 10 ≤ d2) : et_go none d2 292 26 [some (.ref am), some (.int (Int32.ofNat c)), some (.int (Int32.ofNat 1)), some (.int (Int32.ofNat r)), none, none] [] G 0 0 (fun u => kyB u.2.1 am aw n) := by
  obtain ⟨d, rfl⟩ : ∃ d, d2 = d + 10 := ⟨d2 - 10, by omega⟩
  have lt_am := (hH.2.2 _ _ k_am).1
  have lt_aw := (hH.2.2 _ _ k_aw).1
  refine hs_aload (i := 0) (p := 27) (by decide +kernel) rfl ?_
  refine hs_iload (i := 2) (p := 28) (by decide +kernel) rfl ?_
  refine hs_iload (i := 3) (p := 29) (by decide +kernel) rfl ?_
  refine hs_k (x := (-1)) (p := 30) (by decide +kernel) ?_
  refine ht_callv (T := et_TT) (t := 13) (mi := 271) (na := 3) (ci := 11) (lk := 6) (lm := 6) (L0 := eg_en (eg_mL 271) [.ref am, .int (Int32.ofNat 1), .int (Int32.ofNat r), .int (-1)]) (by decide +kernel) rfl hH k_am rfl rfl rfl rfl rfl (by rw [show eg_mL 271 = 6 from by decide +kernel]; first | done | rfl) ?_
  refine ((er_c74 (K, [], G) [.ref am, .int (Int32.ofNat 1), .int (Int32.ofNat r), .int (-1)] _ hH (by show 8 ≤ _; omega) rfl (ht_ac (.inr ⟨by decide, _, rfl, k_am⟩) (ht_ac (hi_iv (by decide) (by decide)) (ht_ac (hi_nv (by omega) (by omega)) (ht_ac (hi_iv (by decide) (by decide)) ht_an))))).and (fk_271_1 hH k_am k_aw m1 hn4 hk (by omega) (by decide) (by decide) (by omega))).mono (fun u hu => hs_cbvP (P := fun g => kyB g am aw n) hu (fun v30 K30 G30 c30 s30 x30 f30 hH hv30 cl30 sl30 hk => ?_))
  obtain rfl : c30 = 0 := Nat.le_zero.mp cl30
  obtain rfl : s30 = 0 := Nat.le_zero.mp sl30
  have m1 := (f30.2 am 13 k_am 1 (by decide +kernel)).trans m1
  have k_am := x30 _ _ k_am
  have lt_am := (hH.2.2 _ _ k_am).1
  have k_aw := x30 _ _ k_aw
  have lt_aw := (hH.2.2 _ _ k_aw).1
  obtain ⟨y30, rfl, -, -⟩ := hi_int hv30
  show et_go none _ 292 33 _ [.int y30] _ _ _ _
  refine hs_k (x := Int32.ofNat 656) (p := 36) (by decide +kernel) ?_
  refine hs_idiv (p := 37) (by decide +kernel) (by decide) ?_
  refine hs_istore (i := 4) (p := 39) (by decide +kernel) (Nat.le_of_ble_eq_true rfl) ?_
  obtain ⟨y9, hy9⟩ : ∃ y9 : Int32, y9 = (y30 / Int32.ofNat 656) := ⟨_, rfl⟩
  show et_go none _ 292 39 [some (.ref am), some (.int (Int32.ofNat c)), some (.int (Int32.ofNat 1)), some (.int (Int32.ofNat r)), some (.int (y30 / Int32.ofNat 656)), none] [] _ _ _ _
  rw [← hy9]
  have hq9 := et_pok (T := et_TT) (Ks := [er_q49, er_q25, er_q43, er_q46, er_q18, er_q11, hq_holdsA, hq_holdsB]) (an := er_an) (mi := 292) (pc := 39) (ps := [.inr (.inr (0, 13)), .inl (0, 5), .inl (1, 1), .inl (0, 3), .inl (et_mn, et_mx)]) (M := [(13, 16, 16), (14, 0, 100000), (24, 0, 100000), (29, 0, 100000)]) (es := [(.inl (some (.inl (0, 1))), 0, 0)]) (w := (K30, [], G30)) (as := [.ref am, .int (Int32.ofNat c), .int (Int32.ofNat 1), .int (Int32.ofNat r), .int y9]) (d := 10) (d2 := d + 10) (List.forall_mem_cons.mpr ⟨er_c49, (List.forall_mem_cons.mpr ⟨er_c25, (List.forall_mem_cons.mpr ⟨er_c43, (List.forall_mem_cons.mpr ⟨er_c46, (List.forall_mem_cons.mpr ⟨er_c18, (List.forall_mem_cons.mpr ⟨er_c11, (List.forall_mem_cons.mpr ⟨hc_holdsA, (List.forall_mem_cons.mpr ⟨hc_holdsB, (fun _ h => absurd h List.not_mem_nil)⟩)⟩)⟩)⟩)⟩)⟩)⟩)⟩) (by decide) (by decide +kernel) hH (by omega) rfl (ht_ac (.inr ⟨by decide, _, rfl, k_am⟩) (ht_ac (hi_nv (by omega) (by omega)) (ht_ac (hi_iv (by decide) (by decide)) (ht_ac (hi_nv (by omega) (by omega)) (ht_ac hi_any ht_an)))))
  rw [show eg_mL 292 = 6 from by decide +kernel] at hq9
  refine et_go.mono hq9 (fun u hu => ?_)
  obtain ⟨_, _, K9, h1, h2, -⟩ := hu
  exact hk.fr hn4 hH k_am k_aw h2 (by decide +kernel)
theorem fk_271_2 (hH : et_H et_TT K G) (k_am : K am = some 13) (k_aw : K aw = some 46) (m1 : et_pl (eg_at G am) 1 = some (.ref aw)) (hn4 : n ≤ 4) (hk : kyB G am aw n) (hr : r < 4) (hz1 : -1 ≤ z.toInt) (hz2 : z.toInt ≤ 16) (hd : 8 ≤ d2) : et_go none d2 271 0 (eg_en (eg_mL 271) [.ref am, .int (Int32.ofNat 2), .int (Int32.ofNat r), .int z]) [] G 0 0 (fun u => kyB u.2.1 am aw n) := by
  obtain ⟨d, rfl⟩ : ∃ d, d2 = d + 8 := ⟨d2 - 8, by omega⟩
  rw [show eg_mL 271 = 6 from by decide +kernel]
  show et_go none (d + 8) 271 0 [some (.ref am), some (.int (Int32.ofNat 2)), some (.int (Int32.ofNat r)), some (.int z), none, none] [] G 0 0 _
  have lt_am := (hH.2.2 _ _ k_am).1
  have lt_aw := (hH.2.2 _ _ k_aw).1
  refine hs_aload (i := 0) (p := 1) (by decide +kernel) rfl ?_
  refine hs_iload (i := 2) (p := 2) (by decide +kernel) rfl ?_
  refine ht_callv (T := et_TT) (t := 13) (mi := 266) (na := 1) (ci := 11) (lk := 6) (lm := 4) (L0 := eg_en (eg_mL 266) [.ref am, .int (Int32.ofNat r)]) (by decide +kernel) rfl hH k_am rfl rfl rfl rfl rfl (by rw [show eg_mL 266 = 4 from by decide +kernel]; first | done | rfl) ?_
  refine ((er_c38 (K, [], G) [.ref am, .int (Int32.ofNat r)] _ hH (by show 5 ≤ _; omega) rfl (ht_ac (.inr ⟨by decide, _, rfl, k_am⟩) (ht_ac (hi_nv (by omega) (by omega)) ht_an))).and (fk_266 hH k_am k_aw m1 hn4 hk (by omega) (by omega))).mono (fun u hu => hs_cbnP (P := fun g => kyB g am aw n) hu (fun K2 G2 c2 s2 x2 f2 hH cl2 sl2 hk => ?_))
  obtain rfl : c2 = 0 := Nat.le_zero.mp cl2
  obtain rfl : s2 = 0 := Nat.le_zero.mp sl2
  have m1 := (f2.2 am 13 k_am 1 (by decide +kernel)).trans m1
  have k_am := x2 _ _ k_am
  have lt_am := (hH.2.2 _ _ k_am).1
  have k_aw := x2 _ _ k_aw
  have lt_aw := (hH.2.2 _ _ k_aw).1
  show et_go none _ 271 5 _ [] _ _ _ _
  have hq9 := et_pok (T := et_TT) (Ks := [er_q23]) (an := er_an) (mi := 271) (pc := 5) (ps := [.inr (.inr (0, 13)), .inl (2, 2), .inl (0, 3), .inl ((-1), 16)]) (M := []) (es := [(.inl (some (.inl (et_mn, et_mx))), 0, 0)]) (w := (K2, [], G2)) (as := [.ref am, .int (Int32.ofNat 2), .int (Int32.ofNat r), .int z]) (d := 8) (d2 := d + 8) (List.forall_mem_cons.mpr ⟨er_c23, (fun _ h => absurd h List.not_mem_nil)⟩) (by decide) (by decide +kernel) hH (by omega) rfl (ht_ac (.inr ⟨by decide, _, rfl, k_am⟩) (ht_ac (hi_iv (by decide) (by decide)) (ht_ac (hi_nv (by omega) (by omega)) (ht_ac (hi_iv (by omega) (by omega)) ht_an))))
  rw [show eg_mL 271 = 6 from by decide +kernel] at hq9
  refine et_go.mono hq9 (fun u hu => ?_)
  obtain ⟨_, _, K9, h1, h2, -⟩ := hu
  exact hk.fr hn4 hH k_am k_aw h2 (by decide +kernel)
theorem fk_265_2 (hH : et_H et_TT K G) (k_am : K am = some 13) (k_aw : K aw = some 46) (m1 : et_pl (eg_at G am) 1 = some (.ref aw)) (hn4 : n ≤ 4) (hk : kyB G am aw n) (hr : r < 4) (hd : 7 ≤ d2) : et_go none d2 265 0 (eg_en (eg_mL 265) [.ref am, .int (Int32.ofNat 2), .int (Int32.ofNat r)]) [] G 0 0 (fun u => kyB u.2.1 am aw n) := by
  obtain ⟨d, rfl⟩ : ∃ d, d2 = d + 7 := ⟨d2 - 7, by omega⟩
  rw [show eg_mL 265 = 6 from by decide +kernel]
  show et_go none (d + 7) 265 0 [some (.ref am), some (.int (Int32.ofNat 2)), some (.int (Int32.ofNat r)), none, none, none] [] G 0 0 _
  have lt_am := (hH.2.2 _ _ k_am).1
  have lt_aw := (hH.2.2 _ _ k_aw).1
  refine hs_aload (i := 0) (p := 1) (by decide +kernel) rfl ?_
  refine hs_iload (i := 2) (p := 2) (by decide +kernel) rfl ?_
  refine ht_callv (T := et_TT) (t := 13) (mi := 266) (na := 1) (ci := 11) (lk := 6) (lm := 4) (L0 := eg_en (eg_mL 266) [.ref am, .int (Int32.ofNat r)]) (by decide +kernel) rfl hH k_am rfl rfl rfl rfl rfl (by rw [show eg_mL 266 = 4 from by decide +kernel]; first | done | rfl) ?_
  refine ((er_c38 (K, [], G) [.ref am, .int (Int32.ofNat r)] _ hH (by show 5 ≤ _; omega) rfl (ht_ac (.inr ⟨by decide, _, rfl, k_am⟩) (ht_ac (hi_nv (by omega) (by omega)) ht_an))).and (fk_266 hH k_am k_aw m1 hn4 hk (by omega) (by omega))).mono (fun u hu => hs_cbnP (P := fun g => kyB g am aw n) hu (fun K2 G2 c2 s2 x2 f2 hH cl2 sl2 hk => ?_))
  obtain rfl : c2 = 0 := Nat.le_zero.mp cl2
  obtain rfl : s2 = 0 := Nat.le_zero.mp sl2
  have m1 := (f2.2 am 13 k_am 1 (by decide +kernel)).trans m1
  have k_am := x2 _ _ k_am
  have lt_am := (hH.2.2 _ _ k_am).1
  have k_aw := x2 _ _ k_aw
  have lt_aw := (hH.2.2 _ _ k_aw).1
  show et_go none _ 265 5 _ [] _ _ _ _
  have hq9 := et_pok (T := et_TT) (Ks := [er_q47, (hq_sorts 35 48), (hq_sorts 48 35)]) (an := er_an) (mi := 265) (pc := 5) (ps := [.inr (.inr (0, 13)), .inl (2, 2), .inl (0, 3)]) (M := [(22, 0, 100000), (35, 0, 100000), (48, 0, 100000)]) (es := [(.inl (some (.inl (et_mn, et_mx))), 0, 0)]) (w := (K2, [], G2)) (as := [.ref am, .int (Int32.ofNat 2), .int (Int32.ofNat r)]) (d := 7) (d2 := d + 7) (List.forall_mem_cons.mpr ⟨er_c47, (List.forall_mem_cons.mpr ⟨(hc_sorts (.inl ⟨rfl, rfl⟩)), (List.forall_mem_cons.mpr ⟨(hc_sorts (.inr ⟨rfl, rfl⟩)), (fun _ h => absurd h List.not_mem_nil)⟩)⟩)⟩) (by decide) (by decide +kernel) hH (by omega) rfl (ht_ac (.inr ⟨by decide, _, rfl, k_am⟩) (ht_ac (hi_iv (by decide) (by decide)) (ht_ac (hi_nv (by omega) (by omega)) ht_an)))
  rw [show eg_mL 265 = 6 from by decide +kernel] at hq9
  refine et_go.mono hq9 (fun u hu => ?_)
  obtain ⟨_, _, K9, h1, h2, -⟩ := hu
  exact hk.fr hn4 hH k_am k_aw h2 (by decide +kernel)
theorem fk_292_2 (hH : et_H et_TT K G) (k_am : K am = some 13) (k_aw : K aw = some 46) (m1 : et_pl (eg_at G am) 1 = some (.ref aw)) (hn4 : n ≤ 4) (hk : kyB G am aw n) (hc : c < 6) (hr : r < 4) (hd : 10 ≤ d2) : et_go none d2 292 26 [some (.ref am), some (.int (Int32.ofNat c)), some (.int (Int32.ofNat 2)), some (.int (Int32.ofNat r)), none, none] [] G 0 0 (fun u => kyB u.2.1 am aw n) := by
  obtain ⟨d, rfl⟩ : ∃ d, d2 = d + 10 := ⟨d2 - 10, by omega⟩
  have lt_am := (hH.2.2 _ _ k_am).1
  have lt_aw := (hH.2.2 _ _ k_aw).1
  refine hs_aload (i := 0) (p := 27) (by decide +kernel) rfl ?_
  refine hs_iload (i := 2) (p := 28) (by decide +kernel) rfl ?_
  refine hs_iload (i := 3) (p := 29) (by decide +kernel) rfl ?_
  refine hs_k (x := (-1)) (p := 30) (by decide +kernel) ?_
  refine ht_callv (T := et_TT) (t := 13) (mi := 271) (na := 3) (ci := 11) (lk := 6) (lm := 6) (L0 := eg_en (eg_mL 271) [.ref am, .int (Int32.ofNat 2), .int (Int32.ofNat r), .int (-1)]) (by decide +kernel) rfl hH k_am rfl rfl rfl rfl rfl (by rw [show eg_mL 271 = 6 from by decide +kernel]; first | done | rfl) ?_
  refine ((er_c73 (K, [], G) [.ref am, .int (Int32.ofNat 2), .int (Int32.ofNat r), .int (-1)] _ hH (by show 8 ≤ _; omega) rfl (ht_ac (.inr ⟨by decide, _, rfl, k_am⟩) (ht_ac (hi_iv (by decide) (by decide)) (ht_ac (hi_nv (by omega) (by omega)) (ht_ac (hi_iv (by decide) (by decide)) ht_an))))).and (fk_271_2 hH k_am k_aw m1 hn4 hk (by omega) (by decide) (by decide) (by omega))).mono (fun u hu => hs_cbvP (P := fun g => kyB g am aw n) hu (fun v30 K30 G30 c30 s30 x30 f30 hH hv30 cl30 sl30 hk => ?_))
  obtain rfl : c30 = 0 := Nat.le_zero.mp cl30
  obtain rfl : s30 = 0 := Nat.le_zero.mp sl30
  have m1 := (f30.2 am 13 k_am 1 (by decide +kernel)).trans m1
  have k_am := x30 _ _ k_am
  have lt_am := (hH.2.2 _ _ k_am).1
  have k_aw := x30 _ _ k_aw
  have lt_aw := (hH.2.2 _ _ k_aw).1
  obtain ⟨y30, rfl, -, -⟩ := hi_int hv30
  show et_go none _ 292 33 _ [.int y30] _ _ _ _
  refine hs_k (x := Int32.ofNat 656) (p := 36) (by decide +kernel) ?_
  refine hs_idiv (p := 37) (by decide +kernel) (by decide) ?_
  refine hs_istore (i := 4) (p := 39) (by decide +kernel) (Nat.le_of_ble_eq_true rfl) ?_
  obtain ⟨y9, hy9⟩ : ∃ y9 : Int32, y9 = (y30 / Int32.ofNat 656) := ⟨_, rfl⟩
  show et_go none _ 292 39 [some (.ref am), some (.int (Int32.ofNat c)), some (.int (Int32.ofNat 2)), some (.int (Int32.ofNat r)), some (.int (y30 / Int32.ofNat 656)), none] [] _ _ _ _
  rw [← hy9]
  have hq9 := et_pok (T := et_TT) (Ks := [er_q49, er_q25, er_q43, er_q46, er_q18, er_q11, hq_holdsA, hq_holdsB]) (an := er_an) (mi := 292) (pc := 39) (ps := [.inr (.inr (0, 13)), .inl (0, 5), .inl (2, 2), .inl (0, 3), .inl (et_mn, et_mx)]) (M := [(13, 16, 16), (14, 0, 100000), (24, 0, 100000), (29, 0, 100000)]) (es := [(.inl (some (.inl (0, 1))), 0, 0)]) (w := (K30, [], G30)) (as := [.ref am, .int (Int32.ofNat c), .int (Int32.ofNat 2), .int (Int32.ofNat r), .int y9]) (d := 10) (d2 := d + 10) (List.forall_mem_cons.mpr ⟨er_c49, (List.forall_mem_cons.mpr ⟨er_c25, (List.forall_mem_cons.mpr ⟨er_c43, (List.forall_mem_cons.mpr ⟨er_c46, (List.forall_mem_cons.mpr ⟨er_c18, (List.forall_mem_cons.mpr ⟨er_c11, (List.forall_mem_cons.mpr ⟨hc_holdsA, (List.forall_mem_cons.mpr ⟨hc_holdsB, (fun _ h => absurd h List.not_mem_nil)⟩)⟩)⟩)⟩)⟩)⟩)⟩)⟩) (by decide) (by decide +kernel) hH (by omega) rfl (ht_ac (.inr ⟨by decide, _, rfl, k_am⟩) (ht_ac (hi_nv (by omega) (by omega)) (ht_ac (hi_iv (by decide) (by decide)) (ht_ac (hi_nv (by omega) (by omega)) (ht_ac hi_any ht_an)))))
  rw [show eg_mL 292 = 6 from by decide +kernel] at hq9
  refine et_go.mono hq9 (fun u hu => ?_)
  obtain ⟨_, _, K9, h1, h2, -⟩ := hu
  exact hk.fr hn4 hH k_am k_aw h2 (by decide +kernel)
theorem cl_ex (hH : et_H et_TT K G) (k_aw : K aw = some 46) (hc : c < 6) : (∃ e : Nat, e ≤ 2 ∧ et_pl (eg_at G aw) (114 + 2 * c) = some (.int (Int32.ofNat e))) ∧ ∃ r : Nat, r ≤ 3 ∧ et_pl (eg_at G aw) (115 + 2 * c) = some (.int (Int32.ofNat r)) := by
  obtain ⟨f, e, hs, -⟩ := hi_arr (kd := 0) (n := 12741) hH k_aw rfl (by decide) (.inl rfl)
  have h : ∀ i hi' : Nat, ∀ lo : Int, (i, i, (.inl (0, lo) : et_P)) ∈ ([(0, 1, .inl (0, 4)), (2, 2, .inl (0, 6)), (3, 3, .inl (0, 20)), (4, 4, .inl (0, 3)), (45, 45, .inl (0, 6)), (68, 68, .inl (0, 6)), (91, 91, .inl (0, 6)), (114, 114, .inl (0, 2)), (116, 116, .inl (0, 2)), (118, 118, .inl (0, 2)), (120, 120, .inl (0, 2)), (122, 122, .inl (0, 2)), (124, 124, .inl (0, 2)), (115, 115, .inl (0, 3)), (117, 117, .inl (0, 3)), (119, 119, .inl (0, 3)), (121, 121, .inl (0, 3)), (123, 123, .inl (0, 3)), (125, 125, .inl (0, 3))] : List (Nat × Nat × et_P)) → i < 12741 → ∃ q : Nat, (q : Int) ≤ lo ∧ et_pl (eg_at G aw) i = some (.int (Int32.ofNat q)) := fun i _ lo hm hl => by
    obtain ⟨q, hq, e2⟩ := hi_natW (hs _ hm i (Nat.le_refl _) (Nat.le_refl _) hl)
    exact ⟨q, hq, by rw [e, hf_pl (.inl rfl), if_pos hl, e2]⟩
  have hcs : c = 0 ∨ c = 1 ∨ c = 2 ∨ c = 3 ∨ c = 4 ∨ c = 5 := by omega
  rcases hcs with rfl | rfl | rfl | rfl | rfl | rfl
  · obtain ⟨a, a1, a2⟩ := h 114 0 2 (List.mem_of_getElem? (i := 7) rfl) (by decide)
    obtain ⟨b, b1, b2⟩ := h 115 0 3 (List.mem_of_getElem? (i := 13) rfl) (by decide)
    exact ⟨⟨a, by omega, a2⟩, b, by omega, b2⟩
  · obtain ⟨a, a1, a2⟩ := h 116 0 2 (List.mem_of_getElem? (i := 8) rfl) (by decide)
    obtain ⟨b, b1, b2⟩ := h 117 0 3 (List.mem_of_getElem? (i := 14) rfl) (by decide)
    exact ⟨⟨a, by omega, a2⟩, b, by omega, b2⟩
  · obtain ⟨a, a1, a2⟩ := h 118 0 2 (List.mem_of_getElem? (i := 9) rfl) (by decide)
    obtain ⟨b, b1, b2⟩ := h 119 0 3 (List.mem_of_getElem? (i := 15) rfl) (by decide)
    exact ⟨⟨a, by omega, a2⟩, b, by omega, b2⟩
  · obtain ⟨a, a1, a2⟩ := h 120 0 2 (List.mem_of_getElem? (i := 10) rfl) (by decide)
    obtain ⟨b, b1, b2⟩ := h 121 0 3 (List.mem_of_getElem? (i := 16) rfl) (by decide)
    exact ⟨⟨a, by omega, a2⟩, b, by omega, b2⟩
  · obtain ⟨a, a1, a2⟩ := h 122 0 2 (List.mem_of_getElem? (i := 11) rfl) (by decide)
    obtain ⟨b, b1, b2⟩ := h 123 0 3 (List.mem_of_getElem? (i := 17) rfl) (by decide)
    exact ⟨⟨a, by omega, a2⟩, b, by omega, b2⟩
  · obtain ⟨a, a1, a2⟩ := h 124 0 2 (List.mem_of_getElem? (i := 12) rfl) (by decide)
    obtain ⟨b, b1, b2⟩ := h 125 0 3 (List.mem_of_getElem? (i := 18) rfl) (by decide)
    exact ⟨⟨a, by omega, a2⟩, b, by omega, b2⟩
theorem fk_292 (hH : et_H et_TT K G) (k_am : K am = some 13) (k_aw : K aw = some 46) (m1 : et_pl (eg_at G am) 1 = some (.ref aw)) (hn4 : n ≤ 4) (hk : kyB G am aw n) (hc : c < 6) (hd : 10 ≤ d2) : et_go none d2 292 0 (eg_en (eg_mL 292) [.ref am, .int (Int32.ofNat c)]) [] G 0 0 (fun u => kyB u.2.1 am aw n) := by
  obtain ⟨d, rfl⟩ : ∃ d, d2 = d + 10 := ⟨d2 - 10, by omega⟩
  obtain ⟨⟨e, he, p1⟩, r, hr, p2⟩ := cl_ex hH k_aw hc
  rw [show eg_mL 292 = 6 from by decide +kernel]
  show et_go none (d + 10) 292 0 [some (.ref am), some (.int (Int32.ofNat c)), none, none, none, none] [] G 0 0 _
  have lt_am := (hH.2.2 _ _ k_am).1
  have lt_aw := (hH.2.2 _ _ k_aw).1
  refine hs_aload (i := 0) (p := 1) (by decide +kernel) rfl ?_
  refine hf_get (T := et_TT) (t := 13) (ci := 11) (f := 1) (p := 4) (by decide +kernel) rfl hH k_am m1 ?_
  refine hs_k (x := Int32.ofNat 114) (p := 6) (by decide +kernel) ?_
  refine hs_k (x := Int32.ofNat 2) (p := 7) (by decide +kernel) ?_
  refine hs_iload (i := 1) (p := 8) (by decide +kernel) rfl ?_
  refine hs_imuln (p := 9) (by decide +kernel) ?_
  refine hs_iaddn (p := 10) (by decide +kernel) ?_
  refine hf_ald (ins := .iaload) (T := et_TT) (t := 46) (kd := 0) (N := 12741) (p := 11) (by decide +kernel) (fun _ _ _ _ _ _ _ _ _ _ => rfl) rfl rfl rfl hH k_aw (by decide) (pl_eq p1 (by omega)) ?_
  refine hs_istore (i := 2) (p := 12) (by decide +kernel) (Nat.le_of_ble_eq_true rfl) ?_
  refine hs_aload (i := 0) (p := 13) (by decide +kernel) rfl ?_
  refine hf_get (T := et_TT) (t := 13) (ci := 11) (f := 1) (p := 16) (by decide +kernel) rfl hH k_am m1 ?_
  refine hs_k (x := Int32.ofNat 114) (p := 18) (by decide +kernel) ?_
  refine hs_k (x := Int32.ofNat 2) (p := 19) (by decide +kernel) ?_
  refine hs_iload (i := 1) (p := 20) (by decide +kernel) rfl ?_
  refine hs_imuln (p := 21) (by decide +kernel) ?_
  refine hs_iaddn (p := 22) (by decide +kernel) ?_
  refine hs_k (x := Int32.ofNat 1) (p := 23) (by decide +kernel) ?_
  refine hs_iaddn (p := 24) (by decide +kernel) ?_
  refine hf_ald (ins := .iaload) (T := et_TT) (t := 46) (kd := 0) (N := 12741) (p := 25) (by decide +kernel) (fun _ _ _ _ _ _ _ _ _ _ => rfl) rfl rfl rfl hH k_aw (by decide) (pl_eq p2 (by omega)) ?_
  refine hs_istore (i := 3) (p := 26) (by decide +kernel) (Nat.le_of_ble_eq_true rfl) ?_
  rcases (show e = 0 ∨ e = 1 ∨ e = 2 by omega) with rfl | rfl | rfl
  · exact fk_292_0 hH k_am k_aw m1 hn4 hk hc (by omega) (by omega)
  · exact fk_292_1 hH k_am k_aw m1 hn4 hk hc (by omega) (by omega)
  · exact fk_292_2 hH k_am k_aw m1 hn4 hk hc (by omega) (by omega)
end YJA
section YJB
variable {K : et_K} {G : eg_G} {d d2 am aw n r c ec nn : Nat} {x y z : Int32}
theorem fk_270 (hH : et_H et_TT K G) (k_am : K am = some 13) (k_aw : K aw = some 46) (m1 : et_pl (eg_at G am) 1 = some (.ref aw)) (hn4 : n ≤ 4) (hk : kyB G am aw n) (w0 : et_pl (eg_at G aw) 0 = some (.int (Int32.ofNat n))) (w4 : et_pl (eg_at G aw) 4 = some (.int (Int32.ofNat ec))) (hec : ec ≤ 3) (hd : 9 ≤ d2) : et_go none d2 270 0 (eg_en (eg_mL 270) [.ref am, .int x, .int y, .int z]) [] G 0 0 (fun u => kyB u.2.1 am aw n) := by
  obtain ⟨d, rfl⟩ : ∃ d, d2 = d + 9 := ⟨d2 - 9, by omega⟩
  have o1 : (-1 : Int32).toInt = -1 := rfl
  have o16 : (Int32.ofNat 16).toInt = 16 := rfl
  by_cases hx : xr x ec
  · obtain ⟨nn, rfl, hn⟩ := xr_nat hx (by omega)
    rw [show eg_mL 270 = 4 from by decide +kernel]
    show et_go none (d + 9) 270 0 [some (.ref am), some (.int (Int32.ofNat nn)), some (.int y), some (.int z)] [] G 0 0 _
    have lt_am := (hH.2.2 _ _ k_am).1
    have lt_aw := (hH.2.2 _ _ k_aw).1
    refine hs_aload (i := 0) (p := 1) (by decide +kernel) rfl ?_
    refine hs_k (x := Int32.ofNat 0) (p := 2) (by decide +kernel) ?_
    have hHo := hH
    refine hf_put (T := et_TT) (t := 13) (ci := 11) (f := 0) (p := 5) (ty := .int) (by decide +kernel) rfl rfl rfl rfl rfl hH k_am hi_any (fun G2 hH x2 e2 => ?_)
    have hk := hk.xs hn4 hHo k_am k_aw x2 (fun b j t kb hs => by rw [hs.1, k_am] at kb; cases kb; rw [hs.2]; exact ⟨by decide, by decide, fun _ => ⟨by decide, by decide⟩, fun h => absurd h (by decide)⟩)
    have m1 := (x2.2 am 1 lt_am (fun h => absurd h.2 (by decide))).trans m1
    have w0 := (x2.2 aw 0 lt_aw (fun h => (hi_ne k_aw k_am (by decide)) h.1)).trans w0
    have w4 := (x2.2 aw 4 lt_aw (fun h => (hi_ne k_aw k_am (by decide)) h.1)).trans w4
    have lt_am := Nat.lt_of_lt_of_le lt_am x2.1
    have lt_aw := Nat.lt_of_lt_of_le lt_aw x2.1
    refine hs_aload (i := 0) (p := 6) (by decide +kernel) rfl ?_
    refine hs_aload (i := 0) (p := 7) (by decide +kernel) rfl ?_
    refine hs_iload (i := 1) (p := 8) (by decide +kernel) rfl ?_
    refine ht_callv (T := et_TT) (t := 13) (mi := 208) (na := 1) (ci := 11) (lk := 4) (lm := 2) (L0 := eg_en (eg_mL 208) [.ref am, .int (Int32.ofNat nn)]) (by decide +kernel) rfl hH k_am rfl rfl rfl rfl rfl (by rw [show eg_mL 208 = 2 from by decide +kernel]; first | done | rfl) ?_
    refine (fm_nEy hH k_am k_aw m1 w4 hec hn (by omega)).mono (fun u hu => xp_cb hu ?_)
    show et_go none _ 270 11 _ [.int (Int32.ofNat 0), .ref am] _ _ _ _
    refine hs_if0 (c := .ne) (t := 22) (f := 14) (by decide +kernel) (show ¬ (¬ Int32.ofNat 0 = 0) by decide) ?_
    refine hs_aload (i := 0) (p := 15) (by decide +kernel) rfl ?_
    refine hs_iload (i := 2) (p := 16) (by decide +kernel) rfl ?_
    refine ht_callv (T := et_TT) (t := 13) (mi := 210) (na := 1) (ci := 11) (lk := 4) (lm := 2) (L0 := eg_en (eg_mL 210) [.ref am, .int y]) (by decide +kernel) rfl hH k_am rfl rfl rfl rfl rfl (by rw [show eg_mL 210 = 2 from by decide +kernel]; first | done | rfl) ?_
    refine (fm_nR (x := y) hH k_am k_aw m1 w0 hn4 (by omega)).mono (fun u hu => xp_cb hu ?_)
    by_cases xu : 0 ≤ y.toInt ∧ y.toInt < (n : Int)
    · rw [if_pos xu]
      show et_go none _ 270 19 _ [.int (Int32.ofNat 0), .ref am] _ _ _ _
      refine hs_if1 (c := .eq) (t := 26) (f := 22) (by decide +kernel) (show Int32.ofNat 0 = 0 by decide) ?_
      refine hs_k (x := Int32.ofNat 0) (p := 27) (by decide +kernel) ?_
      refine hs_k (x := Int32.ofNat 1) (p := 28) (by decide +kernel) ?_
      refine ht_callv (T := et_TT) (t := 13) (mi := 204) (na := 2) (ci := 11) (lk := 4) (lm := 3) (L0 := eg_en (eg_mL 204) [.ref am, .int (Int32.ofNat 0), .int (Int32.ofNat 1)]) (by decide +kernel) rfl hH k_am rfl rfl rfl rfl rfl (by rw [show eg_mL 204 = 3 from by decide +kernel]; first | done | rfl) ?_
      refine (fm_t0 hH k_am).mono (fun u hu => xp_cb hu ?_)
      show et_go none _ 270 31 _ [.int (Int32.ofNat 0)] _ _ _ _
      refine hs_if0 (c := .ne) (t := 57) (f := 34) (by decide +kernel) (show ¬ (¬ Int32.ofNat 0 = 0) by decide) ?_
      refine hs_aload (i := 0) (p := 35) (by decide +kernel) rfl ?_
      refine hs_iload (i := 3) (p := 36) (by decide +kernel) rfl ?_
      refine hs_k (x := (-1)) (p := 37) (by decide +kernel) ?_
      refine hs_k (x := Int32.ofNat 16) (p := 39) (by decide +kernel) ?_
      refine hs_calls (mi := 209) (na := 3) (lk := 4) (lm := 3) (L0 := eg_en (eg_mL 209) [.int z, .int (-1), .int (Int32.ofNat 16)]) (by decide +kernel) rfl rfl rfl rfl rfl rfl (by rw [show eg_mL 209 = 3 from by decide +kernel]; first | done | rfl) ?_
      refine (fm_in (x := z) (y := (-1)) (z := Int32.ofNat 16)).mono (fun u hu => xp_cb hu ?_)
      by_cases xz : (-1 : Int32).toInt ≤ z.toInt ∧ z.toInt ≤ (Int32.ofNat 16).toInt
      · rw [if_pos xz]
        show et_go none _ 270 42 _ [.int (Int32.ofNat 1), .ref am] _ _ _ _
        refine hs_if1 (c := .ne) (t := 49) (f := 45) (by decide +kernel) (show ¬ Int32.ofNat 1 = 0 by decide) ?_
        refine hs_k (x := Int32.ofNat 0) (p := 50) (by decide +kernel) ?_
        refine hs_k (x := Int32.ofNat 2) (p := 51) (by decide +kernel) ?_
        refine ht_callv (T := et_TT) (t := 13) (mi := 204) (na := 2) (ci := 11) (lk := 4) (lm := 3) (L0 := eg_en (eg_mL 204) [.ref am, .int (Int32.ofNat 0), .int (Int32.ofNat 2)]) (by decide +kernel) rfl hH k_am rfl rfl rfl rfl rfl (by rw [show eg_mL 204 = 3 from by decide +kernel]; first | done | rfl) ?_
        refine (fm_t0 hH k_am).mono (fun u hu => xp_cb hu ?_)
        show et_go none _ 270 54 _ [.int (Int32.ofNat 0)] _ _ _ _
        refine hs_if1 (c := .eq) (t := 59) (f := 57) (by decide +kernel) (show Int32.ofNat 0 = 0 by decide) ?_
        obtain ⟨rr, rfl, hrr⟩ := xr_nat (x := y) (e := n) xu (by omega)
        rcases (show nn = 0 ∨ nn = 1 ∨ nn = 2 by omega) with rfl | rfl | rfl
        · show et_go none _ 270 59 [some (.ref am), some (.int (Int32.ofNat 0)), some (.int (Int32.ofNat rr)), some (.int z)] [] _ _ _ _
          refine hs_aload (i := 0) (p := 60) (by decide +kernel) rfl ?_
          refine hs_iload (i := 1) (p := 61) (by decide +kernel) rfl ?_
          refine hs_iload (i := 2) (p := 62) (by decide +kernel) rfl ?_
          refine hs_iload (i := 3) (p := 63) (by decide +kernel) rfl ?_
          refine ht_callv (T := et_TT) (t := 13) (mi := 271) (na := 3) (ci := 11) (lk := 4) (lm := 6) (L0 := eg_en (eg_mL 271) [.ref am, .int (Int32.ofNat 0), .int (Int32.ofNat rr), .int z]) (by decide +kernel) rfl hH k_am rfl rfl rfl rfl rfl (by rw [show eg_mL 271 = 6 from by decide +kernel]; first | done | rfl) ?_
          refine ((er_c50 (K, [], G2) [.ref am, .int (Int32.ofNat 0), .int (Int32.ofNat rr), .int z] _ hH (by show 8 ≤ _; omega) rfl (ht_ac (.inr ⟨by decide, _, rfl, k_am⟩) (ht_ac (hi_iv (by decide) (by decide)) (ht_ac (hi_nv (by omega) (by omega)) (ht_ac (hi_iv (by omega) (by omega)) ht_an))))).and (fk_271_0 hH k_am k_aw m1 hn4 hk (by omega) (by omega) (by omega) (by omega))).mono (fun u hu => hs_cbvP (P := fun g => kyB g am aw n) hu (fun v63 K63 G63 c63 s63 x63 f63 hH hv63 cl63 sl63 hk => ?_))
          obtain rfl : c63 = 0 := Nat.le_zero.mp cl63
          obtain rfl : s63 = 0 := Nat.le_zero.mp sl63
          have m1 := (f63.2 am 13 k_am 1 (by decide +kernel)).trans m1
          have w0 := (f63.2 aw 46 k_aw 0 (by decide +kernel)).trans w0
          have w4 := (f63.2 aw 46 k_aw 4 (by decide +kernel)).trans w4
          have k_am := x63 _ _ k_am
          have lt_am := (hH.2.2 _ _ k_am).1
          have k_aw := x63 _ _ k_aw
          have lt_aw := (hH.2.2 _ _ k_aw).1
          obtain ⟨y63, rfl, -, -⟩ := hi_int hv63
          show et_go none _ 270 66 _ [.int y63] _ _ _ _
          refine hs_iret (by decide +kernel) ?_
          exact hk
        · show et_go none _ 270 59 [some (.ref am), some (.int (Int32.ofNat 1)), some (.int (Int32.ofNat rr)), some (.int z)] [] _ _ _ _
          refine hs_aload (i := 0) (p := 60) (by decide +kernel) rfl ?_
          refine hs_iload (i := 1) (p := 61) (by decide +kernel) rfl ?_
          refine hs_iload (i := 2) (p := 62) (by decide +kernel) rfl ?_
          refine hs_iload (i := 3) (p := 63) (by decide +kernel) rfl ?_
          refine ht_callv (T := et_TT) (t := 13) (mi := 271) (na := 3) (ci := 11) (lk := 4) (lm := 6) (L0 := eg_en (eg_mL 271) [.ref am, .int (Int32.ofNat 1), .int (Int32.ofNat rr), .int z]) (by decide +kernel) rfl hH k_am rfl rfl rfl rfl rfl (by rw [show eg_mL 271 = 6 from by decide +kernel]; first | done | rfl) ?_
          refine ((er_c51 (K, [], G2) [.ref am, .int (Int32.ofNat 1), .int (Int32.ofNat rr), .int z] _ hH (by show 8 ≤ _; omega) rfl (ht_ac (.inr ⟨by decide, _, rfl, k_am⟩) (ht_ac (hi_iv (by decide) (by decide)) (ht_ac (hi_nv (by omega) (by omega)) (ht_ac (hi_iv (by omega) (by omega)) ht_an))))).and (fk_271_1 hH k_am k_aw m1 hn4 hk (by omega) (by omega) (by omega) (by omega))).mono (fun u hu => hs_cbvP (P := fun g => kyB g am aw n) hu (fun v63 K63 G63 c63 s63 x63 f63 hH hv63 cl63 sl63 hk => ?_))
          obtain rfl : c63 = 0 := Nat.le_zero.mp cl63
          obtain rfl : s63 = 0 := Nat.le_zero.mp sl63
          have m1 := (f63.2 am 13 k_am 1 (by decide +kernel)).trans m1
          have w0 := (f63.2 aw 46 k_aw 0 (by decide +kernel)).trans w0
          have w4 := (f63.2 aw 46 k_aw 4 (by decide +kernel)).trans w4
          have k_am := x63 _ _ k_am
          have lt_am := (hH.2.2 _ _ k_am).1
          have k_aw := x63 _ _ k_aw
          have lt_aw := (hH.2.2 _ _ k_aw).1
          obtain ⟨y63, rfl, -, -⟩ := hi_int hv63
          show et_go none _ 270 66 _ [.int y63] _ _ _ _
          refine hs_iret (by decide +kernel) ?_
          exact hk
        · show et_go none _ 270 59 [some (.ref am), some (.int (Int32.ofNat 2)), some (.int (Int32.ofNat rr)), some (.int z)] [] _ _ _ _
          refine hs_aload (i := 0) (p := 60) (by decide +kernel) rfl ?_
          refine hs_iload (i := 1) (p := 61) (by decide +kernel) rfl ?_
          refine hs_iload (i := 2) (p := 62) (by decide +kernel) rfl ?_
          refine hs_iload (i := 3) (p := 63) (by decide +kernel) rfl ?_
          refine ht_callv (T := et_TT) (t := 13) (mi := 271) (na := 3) (ci := 11) (lk := 4) (lm := 6) (L0 := eg_en (eg_mL 271) [.ref am, .int (Int32.ofNat 2), .int (Int32.ofNat rr), .int z]) (by decide +kernel) rfl hH k_am rfl rfl rfl rfl rfl (by rw [show eg_mL 271 = 6 from by decide +kernel]; first | done | rfl) ?_
          refine ((er_c52 (K, [], G2) [.ref am, .int (Int32.ofNat 2), .int (Int32.ofNat rr), .int z] _ hH (by show 8 ≤ _; omega) rfl (ht_ac (.inr ⟨by decide, _, rfl, k_am⟩) (ht_ac (hi_iv (by decide) (by decide)) (ht_ac (hi_nv (by omega) (by omega)) (ht_ac (hi_iv (by omega) (by omega)) ht_an))))).and (fk_271_2 hH k_am k_aw m1 hn4 hk (by omega) (by omega) (by omega) (by omega))).mono (fun u hu => hs_cbvP (P := fun g => kyB g am aw n) hu (fun v63 K63 G63 c63 s63 x63 f63 hH hv63 cl63 sl63 hk => ?_))
          obtain rfl : c63 = 0 := Nat.le_zero.mp cl63
          obtain rfl : s63 = 0 := Nat.le_zero.mp sl63
          have m1 := (f63.2 am 13 k_am 1 (by decide +kernel)).trans m1
          have w0 := (f63.2 aw 46 k_aw 0 (by decide +kernel)).trans w0
          have w4 := (f63.2 aw 46 k_aw 4 (by decide +kernel)).trans w4
          have k_am := x63 _ _ k_am
          have lt_am := (hH.2.2 _ _ k_am).1
          have k_aw := x63 _ _ k_aw
          have lt_aw := (hH.2.2 _ _ k_aw).1
          obtain ⟨y63, rfl, -, -⟩ := hi_int hv63
          show et_go none _ 270 66 _ [.int y63] _ _ _ _
          refine hs_iret (by decide +kernel) ?_
          exact hk
      · rw [if_neg xz]
        show et_go none _ 270 42 _ [.int (Int32.ofNat 0), .ref am] _ _ _ _
        refine hs_if0 (c := .ne) (t := 49) (f := 45) (by decide +kernel) (show ¬ (¬ Int32.ofNat 0 = 0) by decide) ?_
        refine hs_k (x := Int32.ofNat 1) (p := 46) (by decide +kernel) ?_
        refine hs_goto (p := 50) (by decide +kernel) ?_
        refine hs_k (x := Int32.ofNat 2) (p := 51) (by decide +kernel) ?_
        have hHo := hH
        refine ht_callv (T := et_TT) (t := 13) (mi := 204) (na := 2) (ci := 11) (lk := 4) (lm := 3) (L0 := eg_en (eg_mL 204) [.ref am, .int (Int32.ofNat 1), .int (Int32.ofNat 2)]) (by decide +kernel) rfl hH k_am rfl rfl rfl rfl rfl (by rw [show eg_mL 204 = 3 from by decide +kernel]; first | done | rfl) ?_
        refine (fm_t1 hH k_am).mono (fun u hu => xw_cb hu (fun G51 v51 hH x51 hP51 => ?_))
        have hk := hk.xs hn4 hHo k_am k_aw x51 (fun b j t kb hs => by rw [hs.1, k_am] at kb; cases kb; rw [hs.2]; exact ⟨by decide, by decide, fun _ => ⟨by decide, by decide⟩, fun h => absurd h (by decide)⟩)
        have m1 := (x51.2 am 1 lt_am (fun h => absurd h.2 (by decide))).trans m1
        have w0 := (x51.2 aw 0 lt_aw (fun h => (hi_ne k_aw k_am (by decide)) h.1)).trans w0
        have w4 := (x51.2 aw 4 lt_aw (fun h => (hi_ne k_aw k_am (by decide)) h.1)).trans w4
        have lt_am := Nat.lt_of_lt_of_le lt_am x51.1
        have lt_aw := Nat.lt_of_lt_of_le lt_aw x51.1
        obtain ⟨rfl, th51⟩ := hP51
        show et_go none _ 270 54 _ [.int (Int32.ofNat 1)] _ _ _ _
        refine hs_if0 (c := .eq) (t := 59) (f := 57) (by decide +kernel) (show ¬ (Int32.ofNat 1 = 0) by decide) ?_
        refine hs_k (x := Int32.ofNat 0) (p := 58) (by decide +kernel) ?_
        refine hs_iret (by decide +kernel) ?_
        exact hk
    · rw [if_neg xu]
      show et_go none _ 270 19 _ [.int (Int32.ofNat 1), .ref am] _ _ _ _
      refine hs_if0 (c := .eq) (t := 26) (f := 22) (by decide +kernel) (show ¬ (Int32.ofNat 1 = 0) by decide) ?_
      refine hs_k (x := Int32.ofNat 1) (p := 23) (by decide +kernel) ?_
      refine hs_goto (p := 27) (by decide +kernel) ?_
      refine hs_k (x := Int32.ofNat 1) (p := 28) (by decide +kernel) ?_
      have hHo := hH
      refine ht_callv (T := et_TT) (t := 13) (mi := 204) (na := 2) (ci := 11) (lk := 4) (lm := 3) (L0 := eg_en (eg_mL 204) [.ref am, .int (Int32.ofNat 1), .int (Int32.ofNat 1)]) (by decide +kernel) rfl hH k_am rfl rfl rfl rfl rfl (by rw [show eg_mL 204 = 3 from by decide +kernel]; first | done | rfl) ?_
      refine (fm_t1 hH k_am).mono (fun u hu => xw_cb hu (fun G28 v28 hH x28 hP28 => ?_))
      have hk := hk.xs hn4 hHo k_am k_aw x28 (fun b j t kb hs => by rw [hs.1, k_am] at kb; cases kb; rw [hs.2]; exact ⟨by decide, by decide, fun _ => ⟨by decide, by decide⟩, fun h => absurd h (by decide)⟩)
      have m1 := (x28.2 am 1 lt_am (fun h => absurd h.2 (by decide))).trans m1
      have w0 := (x28.2 aw 0 lt_aw (fun h => (hi_ne k_aw k_am (by decide)) h.1)).trans w0
      have w4 := (x28.2 aw 4 lt_aw (fun h => (hi_ne k_aw k_am (by decide)) h.1)).trans w4
      have lt_am := Nat.lt_of_lt_of_le lt_am x28.1
      have lt_aw := Nat.lt_of_lt_of_le lt_aw x28.1
      obtain ⟨rfl, th28⟩ := hP28
      show et_go none _ 270 31 _ [.int (Int32.ofNat 1)] _ _ _ _
      refine hs_if1 (c := .ne) (t := 57) (f := 34) (by decide +kernel) (show ¬ Int32.ofNat 1 = 0 by decide) ?_
      refine hs_k (x := Int32.ofNat 0) (p := 58) (by decide +kernel) ?_
      refine hs_iret (by decide +kernel) ?_
      exact hk
  · rw [show eg_mL 270 = 4 from by decide +kernel]
    show et_go none (d + 9) 270 0 [some (.ref am), some (.int x), some (.int y), some (.int z)] [] G 0 0 _
    have lt_am := (hH.2.2 _ _ k_am).1
    have lt_aw := (hH.2.2 _ _ k_aw).1
    refine hs_aload (i := 0) (p := 1) (by decide +kernel) rfl ?_
    refine hs_k (x := Int32.ofNat 0) (p := 2) (by decide +kernel) ?_
    have hHo := hH
    refine hf_put (T := et_TT) (t := 13) (ci := 11) (f := 0) (p := 5) (ty := .int) (by decide +kernel) rfl rfl rfl rfl rfl hH k_am hi_any (fun G2 hH x2 e2 => ?_)
    have hk := hk.xs hn4 hHo k_am k_aw x2 (fun b j t kb hs => by rw [hs.1, k_am] at kb; cases kb; rw [hs.2]; exact ⟨by decide, by decide, fun _ => ⟨by decide, by decide⟩, fun h => absurd h (by decide)⟩)
    have m1 := (x2.2 am 1 lt_am (fun h => absurd h.2 (by decide))).trans m1
    have w0 := (x2.2 aw 0 lt_aw (fun h => (hi_ne k_aw k_am (by decide)) h.1)).trans w0
    have w4 := (x2.2 aw 4 lt_aw (fun h => (hi_ne k_aw k_am (by decide)) h.1)).trans w4
    have lt_am := Nat.lt_of_lt_of_le lt_am x2.1
    have lt_aw := Nat.lt_of_lt_of_le lt_aw x2.1
    refine hs_aload (i := 0) (p := 6) (by decide +kernel) rfl ?_
    refine hs_aload (i := 0) (p := 7) (by decide +kernel) rfl ?_
    refine hs_iload (i := 1) (p := 8) (by decide +kernel) rfl ?_
    refine ht_callv (T := et_TT) (t := 13) (mi := 208) (na := 1) (ci := 11) (lk := 4) (lm := 2) (L0 := eg_en (eg_mL 208) [.ref am, .int x]) (by decide +kernel) rfl hH k_am rfl rfl rfl rfl rfl (by rw [show eg_mL 208 = 2 from by decide +kernel]; first | done | rfl) ?_
    refine (fm_nEn hH k_am k_aw m1 w4 hec hx (by omega)).mono (fun u hu => xp_cb hu ?_)
    show et_go none _ 270 11 _ [.int (Int32.ofNat 1), .ref am] _ _ _ _
    refine hs_if1 (c := .ne) (t := 22) (f := 14) (by decide +kernel) (show ¬ Int32.ofNat 1 = 0 by decide) ?_
    refine hs_k (x := Int32.ofNat 1) (p := 23) (by decide +kernel) ?_
    refine hs_goto (p := 27) (by decide +kernel) ?_
    refine hs_k (x := Int32.ofNat 1) (p := 28) (by decide +kernel) ?_
    have hHo := hH
    refine ht_callv (T := et_TT) (t := 13) (mi := 204) (na := 2) (ci := 11) (lk := 4) (lm := 3) (L0 := eg_en (eg_mL 204) [.ref am, .int (Int32.ofNat 1), .int (Int32.ofNat 1)]) (by decide +kernel) rfl hH k_am rfl rfl rfl rfl rfl (by rw [show eg_mL 204 = 3 from by decide +kernel]; first | done | rfl) ?_
    refine (fm_t1 hH k_am).mono (fun u hu => xw_cb hu (fun G28 v28 hH x28 hP28 => ?_))
    have hk := hk.xs hn4 hHo k_am k_aw x28 (fun b j t kb hs => by rw [hs.1, k_am] at kb; cases kb; rw [hs.2]; exact ⟨by decide, by decide, fun _ => ⟨by decide, by decide⟩, fun h => absurd h (by decide)⟩)
    have m1 := (x28.2 am 1 lt_am (fun h => absurd h.2 (by decide))).trans m1
    have w0 := (x28.2 aw 0 lt_aw (fun h => (hi_ne k_aw k_am (by decide)) h.1)).trans w0
    have w4 := (x28.2 aw 4 lt_aw (fun h => (hi_ne k_aw k_am (by decide)) h.1)).trans w4
    have lt_am := Nat.lt_of_lt_of_le lt_am x28.1
    have lt_aw := Nat.lt_of_lt_of_le lt_aw x28.1
    obtain ⟨rfl, th28⟩ := hP28
    show et_go none _ 270 31 _ [.int (Int32.ofNat 1)] _ _ _ _
    refine hs_if1 (c := .ne) (t := 57) (f := 34) (by decide +kernel) (show ¬ Int32.ofNat 1 = 0 by decide) ?_
    refine hs_k (x := Int32.ofNat 0) (p := 58) (by decide +kernel) ?_
    refine hs_iret (by decide +kernel) ?_
    exact hk
theorem fk_262 (hH : et_H et_TT K G) (k_am : K am = some 13) (k_aw : K aw = some 46) (m1 : et_pl (eg_at G am) 1 = some (.ref aw)) (hn4 : n ≤ 4) (hk : kyB G am aw n) (w0 : et_pl (eg_at G aw) 0 = some (.int (Int32.ofNat n))) (w4 : et_pl (eg_at G aw) 4 = some (.int (Int32.ofNat ec))) (hec : ec ≤ 3) (hd : 8 ≤ d2) : et_go none d2 262 0 (eg_en (eg_mL 262) [.ref am, .int x, .int y]) [] G 0 0 (fun u => kyB u.2.1 am aw n) := by
  obtain ⟨d, rfl⟩ : ∃ d, d2 = d + 8 := ⟨d2 - 8, by omega⟩
  by_cases hx : xr x ec
  · obtain ⟨nn, rfl, hn⟩ := xr_nat hx (by omega)
    rw [show eg_mL 262 = 3 from by decide +kernel]
    show et_go none (d + 8) 262 0 [some (.ref am), some (.int (Int32.ofNat nn)), some (.int y)] [] G 0 0 _
    have lt_am := (hH.2.2 _ _ k_am).1
    have lt_aw := (hH.2.2 _ _ k_aw).1
    refine hs_aload (i := 0) (p := 1) (by decide +kernel) rfl ?_
    refine hs_k (x := Int32.ofNat 0) (p := 2) (by decide +kernel) ?_
    have hHo := hH
    refine hf_put (T := et_TT) (t := 13) (ci := 11) (f := 0) (p := 5) (ty := .int) (by decide +kernel) rfl rfl rfl rfl rfl hH k_am hi_any (fun G2 hH x2 e2 => ?_)
    have hk := hk.xs hn4 hHo k_am k_aw x2 (fun b j t kb hs => by rw [hs.1, k_am] at kb; cases kb; rw [hs.2]; exact ⟨by decide, by decide, fun _ => ⟨by decide, by decide⟩, fun h => absurd h (by decide)⟩)
    have m1 := (x2.2 am 1 lt_am (fun h => absurd h.2 (by decide))).trans m1
    have w0 := (x2.2 aw 0 lt_aw (fun h => (hi_ne k_aw k_am (by decide)) h.1)).trans w0
    have w4 := (x2.2 aw 4 lt_aw (fun h => (hi_ne k_aw k_am (by decide)) h.1)).trans w4
    have lt_am := Nat.lt_of_lt_of_le lt_am x2.1
    have lt_aw := Nat.lt_of_lt_of_le lt_aw x2.1
    refine hs_aload (i := 0) (p := 6) (by decide +kernel) rfl ?_
    refine hs_aload (i := 0) (p := 7) (by decide +kernel) rfl ?_
    refine hs_iload (i := 1) (p := 8) (by decide +kernel) rfl ?_
    refine ht_callv (T := et_TT) (t := 13) (mi := 208) (na := 1) (ci := 11) (lk := 3) (lm := 2) (L0 := eg_en (eg_mL 208) [.ref am, .int (Int32.ofNat nn)]) (by decide +kernel) rfl hH k_am rfl rfl rfl rfl rfl (by rw [show eg_mL 208 = 2 from by decide +kernel]; first | done | rfl) ?_
    refine (fm_nEy hH k_am k_aw m1 w4 hec hn (by omega)).mono (fun u hu => xp_cb hu ?_)
    show et_go none _ 262 11 _ [.int (Int32.ofNat 0), .ref am] _ _ _ _
    refine hs_if0 (c := .ne) (t := 27) (f := 14) (by decide +kernel) (show ¬ (¬ Int32.ofNat 0 = 0) by decide) ?_
    refine hs_iload (i := 2) (p := 15) (by decide +kernel) rfl ?_
    refine hs_k (x := (-1)) (p := 16) (by decide +kernel) ?_
    refine hs_br2 (c := .eq) (t := 31) (f := 19) (by decide +kernel) (fun (c16 : y = (-1)) => ?_) (fun (c16 : ¬ (y = (-1))) => ?_)
    · refine hs_k (x := Int32.ofNat 0) (p := 32) (by decide +kernel) ?_
      refine hs_k (x := Int32.ofNat 1) (p := 33) (by decide +kernel) ?_
      refine ht_callv (T := et_TT) (t := 13) (mi := 204) (na := 2) (ci := 11) (lk := 3) (lm := 3) (L0 := eg_en (eg_mL 204) [.ref am, .int (Int32.ofNat 0), .int (Int32.ofNat 1)]) (by decide +kernel) rfl hH k_am rfl rfl rfl rfl rfl (by rw [show eg_mL 204 = 3 from by decide +kernel]; first | done | rfl) ?_
      refine (fm_t0 hH k_am).mono (fun u hu => xp_cb hu ?_)
      show et_go none _ 262 36 _ [.int (Int32.ofNat 0)] _ _ _ _
      refine hs_if1 (c := .eq) (t := 41) (f := 39) (by decide +kernel) (show Int32.ofNat 0 = 0 by decide) ?_
      rcases (show nn = 0 ∨ nn = 1 ∨ nn = 2 by omega) with rfl | rfl | rfl
      · rw [c16]
        show et_go none _ 262 41 [some (.ref am), some (.int (Int32.ofNat 0)), some (.int (-1))] [] _ _ _ _
        have hq9 := et_pok (T := et_TT) (Ks := [er_q43]) (an := er_an) (mi := 262) (pc := 41) (ps := [.inr (.inr (0, 13)), .inl (0, 0), .inl ((-1), (-1))]) (M := []) (es := [(.inl (some (.inl (et_mn, et_mx))), 0, 0)]) (w := (K, [], G2)) (as := [.ref am, .int (Int32.ofNat 0), .int (-1)]) (d := 8) (d2 := d + 8) (List.forall_mem_cons.mpr ⟨er_c43, (fun _ h => absurd h List.not_mem_nil)⟩) (by decide) (by decide +kernel) hH (by omega) rfl (ht_ac (.inr ⟨by decide, _, rfl, k_am⟩) (ht_ac (hi_iv (by decide) (by decide)) (ht_ac (hi_iv (by decide) (by decide)) ht_an)))
        rw [show eg_mL 262 = 3 from by decide +kernel] at hq9
        refine et_go.mono hq9 (fun u hu => ?_)
        obtain ⟨_, _, K9, h1, h2, -⟩ := hu
        exact hk.fr hn4 hH k_am k_aw h2 (by decide +kernel)
      · rw [c16]
        show et_go none _ 262 41 [some (.ref am), some (.int (Int32.ofNat 1)), some (.int (-1))] [] _ _ _ _
        have hq9 := et_pok (T := et_TT) (Ks := [er_q46]) (an := er_an) (mi := 262) (pc := 41) (ps := [.inr (.inr (0, 13)), .inl (1, 1), .inl ((-1), (-1))]) (M := []) (es := [(.inl (some (.inl (et_mn, et_mx))), 0, 0)]) (w := (K, [], G2)) (as := [.ref am, .int (Int32.ofNat 1), .int (-1)]) (d := 8) (d2 := d + 8) (List.forall_mem_cons.mpr ⟨er_c46, (fun _ h => absurd h List.not_mem_nil)⟩) (by decide) (by decide +kernel) hH (by omega) rfl (ht_ac (.inr ⟨by decide, _, rfl, k_am⟩) (ht_ac (hi_iv (by decide) (by decide)) (ht_ac (hi_iv (by decide) (by decide)) ht_an)))
        rw [show eg_mL 262 = 3 from by decide +kernel] at hq9
        refine et_go.mono hq9 (fun u hu => ?_)
        obtain ⟨_, _, K9, h1, h2, -⟩ := hu
        exact hk.fr hn4 hH k_am k_aw h2 (by decide +kernel)
      · rw [c16]
        show et_go none _ 262 41 [some (.ref am), some (.int (Int32.ofNat 2)), some (.int (-1))] [] _ _ _ _
        have hq9 := et_pok (T := et_TT) (Ks := [er_q49]) (an := er_an) (mi := 262) (pc := 41) (ps := [.inr (.inr (0, 13)), .inl (2, 2), .inl ((-1), (-1))]) (M := []) (es := [(.inl (some (.inl (et_mn, et_mx))), 0, 0)]) (w := (K, [], G2)) (as := [.ref am, .int (Int32.ofNat 2), .int (-1)]) (d := 8) (d2 := d + 8) (List.forall_mem_cons.mpr ⟨er_c49, (fun _ h => absurd h List.not_mem_nil)⟩) (by decide) (by decide +kernel) hH (by omega) rfl (ht_ac (.inr ⟨by decide, _, rfl, k_am⟩) (ht_ac (hi_iv (by decide) (by decide)) (ht_ac (hi_iv (by decide) (by decide)) ht_an)))
        rw [show eg_mL 262 = 3 from by decide +kernel] at hq9
        refine et_go.mono hq9 (fun u hu => ?_)
        obtain ⟨_, _, K9, h1, h2, -⟩ := hu
        exact hk.fr hn4 hH k_am k_aw h2 (by decide +kernel)
    · refine hs_aload (i := 0) (p := 20) (by decide +kernel) rfl ?_
      refine hs_iload (i := 2) (p := 21) (by decide +kernel) rfl ?_
      refine ht_callv (T := et_TT) (t := 13) (mi := 210) (na := 1) (ci := 11) (lk := 3) (lm := 2) (L0 := eg_en (eg_mL 210) [.ref am, .int y]) (by decide +kernel) rfl hH k_am rfl rfl rfl rfl rfl (by rw [show eg_mL 210 = 2 from by decide +kernel]; first | done | rfl) ?_
      refine (fm_nR (x := y) hH k_am k_aw m1 w0 hn4 (by omega)).mono (fun u hu => xp_cb hu ?_)
      by_cases xu : 0 ≤ y.toInt ∧ y.toInt < (n : Int)
      · rw [if_pos xu]
        show et_go none _ 262 24 _ [.int (Int32.ofNat 0), .ref am] _ _ _ _
        refine hs_if1 (c := .eq) (t := 31) (f := 27) (by decide +kernel) (show Int32.ofNat 0 = 0 by decide) ?_
        refine hs_k (x := Int32.ofNat 0) (p := 32) (by decide +kernel) ?_
        refine hs_k (x := Int32.ofNat 1) (p := 33) (by decide +kernel) ?_
        refine ht_callv (T := et_TT) (t := 13) (mi := 204) (na := 2) (ci := 11) (lk := 3) (lm := 3) (L0 := eg_en (eg_mL 204) [.ref am, .int (Int32.ofNat 0), .int (Int32.ofNat 1)]) (by decide +kernel) rfl hH k_am rfl rfl rfl rfl rfl (by rw [show eg_mL 204 = 3 from by decide +kernel]; first | done | rfl) ?_
        refine (fm_t0 hH k_am).mono (fun u hu => xp_cb hu ?_)
        show et_go none _ 262 36 _ [.int (Int32.ofNat 0)] _ _ _ _
        refine hs_if1 (c := .eq) (t := 41) (f := 39) (by decide +kernel) (show Int32.ofNat 0 = 0 by decide) ?_
        obtain ⟨rr, rfl, hrr⟩ := xr_nat (x := y) (e := n) xu (by omega)
        rcases (show nn = 0 ∨ nn = 1 ∨ nn = 2 by omega) with rfl | rfl | rfl
        · show et_go none _ 262 41 [some (.ref am), some (.int (Int32.ofNat 0)), some (.int (Int32.ofNat rr))] [] _ _ _ _
          refine hs_iload (i := 2) (p := 42) (by decide +kernel) rfl ?_
          refine hs_k (x := (-1)) (p := 43) (by decide +kernel) ?_
          refine hs_br2 (c := .ne) (t := 54) (f := 46) (by decide +kernel) (fun _ => ?_) (fun hz => absurd (show ¬ (Int32.ofNat rr : Int32) = (-1) from xi_nm1 (by omega)) hz)
          refine hs_aload (i := 0) (p := 55) (by decide +kernel) rfl ?_
          refine hs_iload (i := 1) (p := 56) (by decide +kernel) rfl ?_
          refine hs_iload (i := 2) (p := 57) (by decide +kernel) rfl ?_
          refine ht_callv (T := et_TT) (t := 13) (mi := 265) (na := 2) (ci := 11) (lk := 3) (lm := 6) (L0 := eg_en (eg_mL 265) [.ref am, .int (Int32.ofNat 0), .int (Int32.ofNat rr)]) (by decide +kernel) rfl hH k_am rfl rfl rfl rfl rfl (by rw [show eg_mL 265 = 6 from by decide +kernel]; first | done | rfl) ?_
          refine ((er_c40 (K, [], G2) [.ref am, .int (Int32.ofNat 0), .int (Int32.ofNat rr)] _ hH (by show 7 ≤ _; omega) rfl (ht_ac (.inr ⟨by decide, _, rfl, k_am⟩) (ht_ac (hi_iv (by decide) (by decide)) (ht_ac (hi_nv (by omega) (by omega)) ht_an)))).and (fk_265_0 hH k_am k_aw m1 hn4 hk (by omega) (by omega))).mono (fun u hu => hs_cbvP (P := fun g => kyB g am aw n) hu (fun v57 K57 G57 c57 s57 x57 f57 hH hv57 cl57 sl57 hk => ?_))
          obtain rfl : c57 = 0 := Nat.le_zero.mp cl57
          obtain rfl : s57 = 0 := Nat.le_zero.mp sl57
          have m1 := (f57.2 am 13 k_am 1 (by decide +kernel)).trans m1
          have w0 := (f57.2 aw 46 k_aw 0 (by decide +kernel)).trans w0
          have w4 := (f57.2 aw 46 k_aw 4 (by decide +kernel)).trans w4
          have k_am := x57 _ _ k_am
          have lt_am := (hH.2.2 _ _ k_am).1
          have k_aw := x57 _ _ k_aw
          have lt_aw := (hH.2.2 _ _ k_aw).1
          obtain ⟨y57, rfl, -, -⟩ := hi_int hv57
          show et_go none _ 262 60 _ [.int y57] _ _ _ _
          refine hs_iret (by decide +kernel) ?_
          exact hk
        · show et_go none _ 262 41 [some (.ref am), some (.int (Int32.ofNat 1)), some (.int (Int32.ofNat rr))] [] _ _ _ _
          refine hs_iload (i := 2) (p := 42) (by decide +kernel) rfl ?_
          refine hs_k (x := (-1)) (p := 43) (by decide +kernel) ?_
          refine hs_br2 (c := .ne) (t := 54) (f := 46) (by decide +kernel) (fun _ => ?_) (fun hz => absurd (show ¬ (Int32.ofNat rr : Int32) = (-1) from xi_nm1 (by omega)) hz)
          refine hs_aload (i := 0) (p := 55) (by decide +kernel) rfl ?_
          refine hs_iload (i := 1) (p := 56) (by decide +kernel) rfl ?_
          refine hs_iload (i := 2) (p := 57) (by decide +kernel) rfl ?_
          refine ht_callv (T := et_TT) (t := 13) (mi := 265) (na := 2) (ci := 11) (lk := 3) (lm := 6) (L0 := eg_en (eg_mL 265) [.ref am, .int (Int32.ofNat 1), .int (Int32.ofNat rr)]) (by decide +kernel) rfl hH k_am rfl rfl rfl rfl rfl (by rw [show eg_mL 265 = 6 from by decide +kernel]; first | done | rfl) ?_
          refine ((er_c45 (K, [], G2) [.ref am, .int (Int32.ofNat 1), .int (Int32.ofNat rr)] _ hH (by show 7 ≤ _; omega) rfl (ht_ac (.inr ⟨by decide, _, rfl, k_am⟩) (ht_ac (hi_iv (by decide) (by decide)) (ht_ac (hi_nv (by omega) (by omega)) ht_an)))).and (fk_265_1 hH k_am k_aw m1 hn4 hk (by omega) (by omega))).mono (fun u hu => hs_cbvP (P := fun g => kyB g am aw n) hu (fun v57 K57 G57 c57 s57 x57 f57 hH hv57 cl57 sl57 hk => ?_))
          obtain rfl : c57 = 0 := Nat.le_zero.mp cl57
          obtain rfl : s57 = 0 := Nat.le_zero.mp sl57
          have m1 := (f57.2 am 13 k_am 1 (by decide +kernel)).trans m1
          have w0 := (f57.2 aw 46 k_aw 0 (by decide +kernel)).trans w0
          have w4 := (f57.2 aw 46 k_aw 4 (by decide +kernel)).trans w4
          have k_am := x57 _ _ k_am
          have lt_am := (hH.2.2 _ _ k_am).1
          have k_aw := x57 _ _ k_aw
          have lt_aw := (hH.2.2 _ _ k_aw).1
          obtain ⟨y57, rfl, -, -⟩ := hi_int hv57
          show et_go none _ 262 60 _ [.int y57] _ _ _ _
          refine hs_iret (by decide +kernel) ?_
          exact hk
        · show et_go none _ 262 41 [some (.ref am), some (.int (Int32.ofNat 2)), some (.int (Int32.ofNat rr))] [] _ _ _ _
          refine hs_iload (i := 2) (p := 42) (by decide +kernel) rfl ?_
          refine hs_k (x := (-1)) (p := 43) (by decide +kernel) ?_
          refine hs_br2 (c := .ne) (t := 54) (f := 46) (by decide +kernel) (fun _ => ?_) (fun hz => absurd (show ¬ (Int32.ofNat rr : Int32) = (-1) from xi_nm1 (by omega)) hz)
          refine hs_aload (i := 0) (p := 55) (by decide +kernel) rfl ?_
          refine hs_iload (i := 1) (p := 56) (by decide +kernel) rfl ?_
          refine hs_iload (i := 2) (p := 57) (by decide +kernel) rfl ?_
          refine ht_callv (T := et_TT) (t := 13) (mi := 265) (na := 2) (ci := 11) (lk := 3) (lm := 6) (L0 := eg_en (eg_mL 265) [.ref am, .int (Int32.ofNat 2), .int (Int32.ofNat rr)]) (by decide +kernel) rfl hH k_am rfl rfl rfl rfl rfl (by rw [show eg_mL 265 = 6 from by decide +kernel]; first | done | rfl) ?_
          refine ((er_c48 (K, [], G2) [.ref am, .int (Int32.ofNat 2), .int (Int32.ofNat rr)] _ hH (by show 7 ≤ _; omega) rfl (ht_ac (.inr ⟨by decide, _, rfl, k_am⟩) (ht_ac (hi_iv (by decide) (by decide)) (ht_ac (hi_nv (by omega) (by omega)) ht_an)))).and (fk_265_2 hH k_am k_aw m1 hn4 hk (by omega) (by omega))).mono (fun u hu => hs_cbvP (P := fun g => kyB g am aw n) hu (fun v57 K57 G57 c57 s57 x57 f57 hH hv57 cl57 sl57 hk => ?_))
          obtain rfl : c57 = 0 := Nat.le_zero.mp cl57
          obtain rfl : s57 = 0 := Nat.le_zero.mp sl57
          have m1 := (f57.2 am 13 k_am 1 (by decide +kernel)).trans m1
          have w0 := (f57.2 aw 46 k_aw 0 (by decide +kernel)).trans w0
          have w4 := (f57.2 aw 46 k_aw 4 (by decide +kernel)).trans w4
          have k_am := x57 _ _ k_am
          have lt_am := (hH.2.2 _ _ k_am).1
          have k_aw := x57 _ _ k_aw
          have lt_aw := (hH.2.2 _ _ k_aw).1
          obtain ⟨y57, rfl, -, -⟩ := hi_int hv57
          show et_go none _ 262 60 _ [.int y57] _ _ _ _
          refine hs_iret (by decide +kernel) ?_
          exact hk
      · rw [if_neg xu]
        show et_go none _ 262 24 _ [.int (Int32.ofNat 1), .ref am] _ _ _ _
        refine hs_if0 (c := .eq) (t := 31) (f := 27) (by decide +kernel) (show ¬ (Int32.ofNat 1 = 0) by decide) ?_
        refine hs_k (x := Int32.ofNat 1) (p := 28) (by decide +kernel) ?_
        refine hs_goto (p := 32) (by decide +kernel) ?_
        refine hs_k (x := Int32.ofNat 1) (p := 33) (by decide +kernel) ?_
        have hHo := hH
        refine ht_callv (T := et_TT) (t := 13) (mi := 204) (na := 2) (ci := 11) (lk := 3) (lm := 3) (L0 := eg_en (eg_mL 204) [.ref am, .int (Int32.ofNat 1), .int (Int32.ofNat 1)]) (by decide +kernel) rfl hH k_am rfl rfl rfl rfl rfl (by rw [show eg_mL 204 = 3 from by decide +kernel]; first | done | rfl) ?_
        refine (fm_t1 hH k_am).mono (fun u hu => xw_cb hu (fun G33 v33 hH x33 hP33 => ?_))
        have hk := hk.xs hn4 hHo k_am k_aw x33 (fun b j t kb hs => by rw [hs.1, k_am] at kb; cases kb; rw [hs.2]; exact ⟨by decide, by decide, fun _ => ⟨by decide, by decide⟩, fun h => absurd h (by decide)⟩)
        have m1 := (x33.2 am 1 lt_am (fun h => absurd h.2 (by decide))).trans m1
        have w0 := (x33.2 aw 0 lt_aw (fun h => (hi_ne k_aw k_am (by decide)) h.1)).trans w0
        have w4 := (x33.2 aw 4 lt_aw (fun h => (hi_ne k_aw k_am (by decide)) h.1)).trans w4
        have lt_am := Nat.lt_of_lt_of_le lt_am x33.1
        have lt_aw := Nat.lt_of_lt_of_le lt_aw x33.1
        obtain ⟨rfl, th33⟩ := hP33
        show et_go none _ 262 36 _ [.int (Int32.ofNat 1)] _ _ _ _
        refine hs_if0 (c := .eq) (t := 41) (f := 39) (by decide +kernel) (show ¬ (Int32.ofNat 1 = 0) by decide) ?_
        refine hs_k (x := Int32.ofNat 0) (p := 40) (by decide +kernel) ?_
        refine hs_iret (by decide +kernel) ?_
        exact hk
  · rw [show eg_mL 262 = 3 from by decide +kernel]
    show et_go none (d + 8) 262 0 [some (.ref am), some (.int x), some (.int y)] [] G 0 0 _
    have lt_am := (hH.2.2 _ _ k_am).1
    have lt_aw := (hH.2.2 _ _ k_aw).1
    refine hs_aload (i := 0) (p := 1) (by decide +kernel) rfl ?_
    refine hs_k (x := Int32.ofNat 0) (p := 2) (by decide +kernel) ?_
    have hHo := hH
    refine hf_put (T := et_TT) (t := 13) (ci := 11) (f := 0) (p := 5) (ty := .int) (by decide +kernel) rfl rfl rfl rfl rfl hH k_am hi_any (fun G2 hH x2 e2 => ?_)
    have hk := hk.xs hn4 hHo k_am k_aw x2 (fun b j t kb hs => by rw [hs.1, k_am] at kb; cases kb; rw [hs.2]; exact ⟨by decide, by decide, fun _ => ⟨by decide, by decide⟩, fun h => absurd h (by decide)⟩)
    have m1 := (x2.2 am 1 lt_am (fun h => absurd h.2 (by decide))).trans m1
    have w0 := (x2.2 aw 0 lt_aw (fun h => (hi_ne k_aw k_am (by decide)) h.1)).trans w0
    have w4 := (x2.2 aw 4 lt_aw (fun h => (hi_ne k_aw k_am (by decide)) h.1)).trans w4
    have lt_am := Nat.lt_of_lt_of_le lt_am x2.1
    have lt_aw := Nat.lt_of_lt_of_le lt_aw x2.1
    refine hs_aload (i := 0) (p := 6) (by decide +kernel) rfl ?_
    refine hs_aload (i := 0) (p := 7) (by decide +kernel) rfl ?_
    refine hs_iload (i := 1) (p := 8) (by decide +kernel) rfl ?_
    refine ht_callv (T := et_TT) (t := 13) (mi := 208) (na := 1) (ci := 11) (lk := 3) (lm := 2) (L0 := eg_en (eg_mL 208) [.ref am, .int x]) (by decide +kernel) rfl hH k_am rfl rfl rfl rfl rfl (by rw [show eg_mL 208 = 2 from by decide +kernel]; first | done | rfl) ?_
    refine (fm_nEn hH k_am k_aw m1 w4 hec hx (by omega)).mono (fun u hu => xp_cb hu ?_)
    show et_go none _ 262 11 _ [.int (Int32.ofNat 1), .ref am] _ _ _ _
    refine hs_if1 (c := .ne) (t := 27) (f := 14) (by decide +kernel) (show ¬ Int32.ofNat 1 = 0 by decide) ?_
    refine hs_k (x := Int32.ofNat 1) (p := 28) (by decide +kernel) ?_
    refine hs_goto (p := 32) (by decide +kernel) ?_
    refine hs_k (x := Int32.ofNat 1) (p := 33) (by decide +kernel) ?_
    have hHo := hH
    refine ht_callv (T := et_TT) (t := 13) (mi := 204) (na := 2) (ci := 11) (lk := 3) (lm := 3) (L0 := eg_en (eg_mL 204) [.ref am, .int (Int32.ofNat 1), .int (Int32.ofNat 1)]) (by decide +kernel) rfl hH k_am rfl rfl rfl rfl rfl (by rw [show eg_mL 204 = 3 from by decide +kernel]; first | done | rfl) ?_
    refine (fm_t1 hH k_am).mono (fun u hu => xw_cb hu (fun G33 v33 hH x33 hP33 => ?_))
    have hk := hk.xs hn4 hHo k_am k_aw x33 (fun b j t kb hs => by rw [hs.1, k_am] at kb; cases kb; rw [hs.2]; exact ⟨by decide, by decide, fun _ => ⟨by decide, by decide⟩, fun h => absurd h (by decide)⟩)
    have m1 := (x33.2 am 1 lt_am (fun h => absurd h.2 (by decide))).trans m1
    have w0 := (x33.2 aw 0 lt_aw (fun h => (hi_ne k_aw k_am (by decide)) h.1)).trans w0
    have w4 := (x33.2 aw 4 lt_aw (fun h => (hi_ne k_aw k_am (by decide)) h.1)).trans w4
    have lt_am := Nat.lt_of_lt_of_le lt_am x33.1
    have lt_aw := Nat.lt_of_lt_of_le lt_aw x33.1
    obtain ⟨rfl, th33⟩ := hP33
    show et_go none _ 262 36 _ [.int (Int32.ofNat 1)] _ _ _ _
    refine hs_if0 (c := .eq) (t := 41) (f := 39) (by decide +kernel) (show ¬ (Int32.ofNat 1 = 0) by decide) ?_
    refine hs_k (x := Int32.ofNat 0) (p := 40) (by decide +kernel) ?_
    refine hs_iret (by decide +kernel) ?_
    exact hk
end YJB
