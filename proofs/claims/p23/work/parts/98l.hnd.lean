/-! BY HAND: feed, end; the reference's calls that use the TAPE up -/
section PPI
variable {w : et_Wd} {K : et_K} {G : eg_G} {d2 d rd th am c : Nat} {n ey ru : Int32}
theorem hi_endT {aw ai : Nat} {F F1 : Nat → Value} {W1 : Nat → Int32} {IK : Nat → Int32} {G1 : eg_G} (hH : et_H et_TT K G) (ha : K am = some 13) (hKw : K aw = some 46) (hKi : K ai = some 25) (hI : ∀ i, i < 4 → et_v K (.inl (0, 1)) (.int (IK i))) (eI : eg_at G ai = .inl (3, (4, .inl IK))) (hK : rp_K G ai G1) (hQ : rp_Q F F1) : pm_at (hm_H G1 am aw F1 W1) am 0 := by
  obtain ⟨g1, g2, g3⟩ := hi_KH hH hKi hI eI hK
  show et_pl (eg_at (hm_H G1 am aw F1 W1) am) 5 = _
  rw [hm_m ⟨hi_at g1 ha (by decide), hi_at g1 hKw (by decide), hi_ne ha hKw (by decide)⟩, hi_pF (by decide), hQ.2.1]
theorem hc_ruleT (hH : et_H et_TT w.1 w.2.2) (ha : w.1 am = some 13) (hd : 40 ≤ d2) : et_go none d2 180 0 (eg_en (eg_mL 180) [.ref am]) [] w.2.2 0 0 (fun u => hi_Z et_TT w hi_MP [(.inl (some (.inl (et_mn, et_mx))), 0, 0)] u ∧ pm_at u.2.1 am 0) := by
  obtain ⟨F, W, aw, ta, tp, pt, bg, st, dp, ai, TP, IK, hB, ⟨b1, b2, b3, b4⟩, eFF, ⟨hi, i1, i2, i3, i4, hKi, hI⟩, ⟨eF, eW, hKw, hF, hX, hW, hG⟩, e⟩ := hi_txt hH ha
  obtain ⟨r, r1, r2⟩ := hi_natW (hW (0, 1, .inl (0, 4)) (List.mem_of_getElem? (i := 0) rfl) 0 (by decide) (by decide))
  obtain ⟨d, rfl⟩ : ∃ d, d2 = d + 33 := ⟨d2 - 33, by omega⟩
  rw [hi_mL180]
  have h0 := rp_rule (d := d) (Z := fun u => (∃ e ∈ hq_rule.2.2.2.1, ∃ K' : et_K, et_ex w.1 K' ∧ et_fr hi_MP w.1 w.2.2 u.2.1 ∧ et_H et_TT K' u.2.1 ∧ (match e.1 with
    | .inl (some p) => ∃ v, u.1 = .inl (some v) ∧ et_v K' p v
    | .inl none => u.1 = .inl none
    | .inr x => u.1 = .inr x) ∧ u.2.2.1 ≤ e.2.1 ∧ u.2.2.2 ≤ e.2.2) ∧ pm_at u.2.1 am 0) hB (pt := pt) (bg := bg) (st := st) b4 (r := r) (by omega) r2 hi i1 i2 i3 i4 (fun v F1 W1 G1 hQ hK h1 h2 h3 => ⟨hi_end hH ha hKw eF eW hF hX hKi hI i4 hK hQ (hi_W1 (p := 0) (m := 4) (by decide) (by decide +kernel) hW h1 h2) (h3 hG) (fun i j1 j2 => h1 i (by omega) (by omega)), hi_endT hH ha hKw hKi hI i4 hK hQ⟩)
  rw [← eFF, ← e] at h0
  exact h0
theorem hc_turnerT (hH : et_H et_TT w.1 w.2.2) (ha : w.1 am = some 13) (hd : 40 ≤ d2) : et_go none d2 206 0 (eg_en (eg_mL 206) [.ref am]) [] w.2.2 0 0 (fun u => hi_Z et_TT w hi_MP [(.inl (some (.inl (et_mn, et_mx))), 0, 0)] u ∧ pm_at u.2.1 am 0) := by
  obtain ⟨F, W, aw, ta, tp, pt, bg, st, dp, ai, TP, IK, hB, ⟨b1, b2, b3, b4⟩, eFF, ⟨hi, i1, i2, i3, i4, hKi, hI⟩, ⟨eF, eW, hKw, hF, hX, hW, hG⟩, e⟩ := hi_txt hH ha
  obtain ⟨r, r1, r2⟩ := hi_natW (hW (0, 1, .inl (0, 4)) (List.mem_of_getElem? (i := 0) rfl) 1 (by decide) (by decide))
  obtain ⟨d, rfl⟩ : ∃ d, d2 = d + 33 := ⟨d2 - 33, by omega⟩
  rw [hi_mL206]
  have h0 := rp_turner (d := d) (Z := fun u => (∃ e ∈ hq_turner.2.2.2.1, ∃ K' : et_K, et_ex w.1 K' ∧ et_fr hi_MP w.1 w.2.2 u.2.1 ∧ et_H et_TT K' u.2.1 ∧ (match e.1 with
    | .inl (some p) => ∃ v, u.1 = .inl (some v) ∧ et_v K' p v
    | .inl none => u.1 = .inl none
    | .inr x => u.1 = .inr x) ∧ u.2.2.1 ≤ e.2.1 ∧ u.2.2.2 ≤ e.2.2) ∧ pm_at u.2.1 am 0) hB (pt := pt) (bg := bg) (st := st) b4 (r := r) (by omega) r2 hi i1 i2 i3 i4 (fun v F1 W1 G1 hQ hK h1 h2 h3 => ⟨hi_end hH ha hKw eF eW hF hX hKi hI i4 hK hQ (hi_W1 (p := 1) (m := 4) (by decide) (by decide +kernel) hW h1 h2) (h3 hG) (fun i j1 j2 => h1 i (by omega) (by omega)), hi_endT hH ha hKw hKi hI i4 hK hQ⟩)
  rw [← eFF, ← e] at h0
  exact h0
theorem hc_claimT (hH : et_H et_TT w.1 w.2.2) (ha : w.1 am = some 13) (hd : 40 ≤ d2) : et_go none d2 207 0 (eg_en (eg_mL 207) [.ref am, .int ey, .int ru]) [] w.2.2 0 0 (fun u => hi_Z et_TT w hi_MP [(.inl (some (.inl (et_mn, et_mx))), 0, 0)] u ∧ pm_at u.2.1 am 0) := by
  obtain ⟨F, W, aw, ta, tp, pt, bg, st, dp, ai, TP, IK, hB, ⟨b1, b2, b3, b4⟩, eFF, ⟨hi, i1, i2, i3, i4, hKi, hI⟩, ⟨eF, eW, hKw, hF, hX, hW, hG⟩, e⟩ := hi_txt hH ha
  obtain ⟨r, r1, r2⟩ := hi_natW (hW (2, 2, .inl (0, 6)) (List.mem_of_getElem? (i := 1) rfl) 2 (by decide) (by decide))
  obtain ⟨ec, e1, e2⟩ := hi_natW (hW (4, 4, .inl (0, 3)) (List.mem_of_getElem? (i := 3) rfl) 4 (by decide) (by decide))
  obtain ⟨rc, c1, c2⟩ := hi_natW (hW (0, 1, .inl (0, 4)) (List.mem_of_getElem? (i := 0) rfl) 0 (by decide) (by decide))
  obtain ⟨d, rfl⟩ : ∃ d, d2 = d + 33 := ⟨d2 - 33, by omega⟩
  obtain ⟨z1, hz1, -⟩ := hi_int (hF 13 _ rfl)
  obtain ⟨z2, hz2, -⟩ := hi_int (hF 10 _ rfl)
  rw [hi_mL207]
  have h0 := rp_claim (d := d) (Z := fun u => (∃ e ∈ hq_claim.2.2.2.1, ∃ K' : et_K, et_ex w.1 K' ∧ et_fr hi_MP w.1 w.2.2 u.2.1 ∧ et_H et_TT K' u.2.1 ∧ (match e.1 with
    | .inl (some p) => ∃ v, u.1 = .inl (some v) ∧ et_v K' p v
    | .inl none => u.1 = .inl none
    | .inr x => u.1 = .inr x) ∧ u.2.2.1 ≤ e.2.1 ∧ u.2.2.2 ≤ e.2.2) ∧ pm_at u.2.1 am 0) hB (pt := pt) (bg := bg) (st := st) b4 (r := r) (ey := ey) (ru := ru) (by omega) r2 (by omega) e2 (by omega) c2 ⟨⟨z1, hz1⟩, z2, hz2⟩ hi i1 i2 i3 i4 (fun v F1 W1 G1 hQ hK h1 h2 h3 h4 => ⟨hi_end hH ha hKw eF eW hF hX hKi hI i4 hK hQ (fun s hs i j1 j2 => ?_) (h4 hG) (fun i j1 j2 => h1 i (by omega) (by omega)), hi_endT hH ha hKw hKi hI i4 hK hQ⟩) b2
  · rw [← eFF, ← e] at h0
    exact h0
  · have hlt := hi_w46 s hs
    by_cases h5 : i < 114
    · by_cases h6 : i = 2
      · subst h6
        obtain ⟨c, g1, g2⟩ := h2
        rw [(by decide +kernel : ∀ s ∈ et_w46, s.1 ≤ 2 → 2 ≤ s.2.1 → s.2.2 = .inl (0, 6)) s hs j1 j2, g2]
        exact hi_nv (by omega) (by omega)
      · rw [h1 i h5 h6]
        exact hW s hs i j1 j2
    · obtain ⟨c, hc⟩ : ∃ c, i = 114 + 2 * c ∨ i = 114 + 2 * c + 1 := ⟨(i - 114) / 2, by omega⟩
      have hc6 : c < 6 := by omega
      rcases hc with rfl | rfl
      · rcases (h3 c hc6).1 with h7 | ⟨n, n1, n2⟩
        · rw [h7]
          exact hW s hs _ j1 j2
        · rw [(by decide +kernel : ∀ c ∈ List.range 6, ∀ s ∈ et_w46, s.1 ≤ 114 + 2 * c → 114 + 2 * c ≤ s.2.1 → s.2.2 = .inl (0, 2)) c (List.mem_range.mpr hc6) s hs j1 j2, n2]
          exact hi_nv (by omega) (by omega)
      · rcases (h3 c hc6).2 with h7 | ⟨n, n1, n2⟩
        · rw [h7]
          exact hW s hs _ j1 j2
        · rw [(by decide +kernel : ∀ c ∈ List.range 6, ∀ s ∈ et_w46, s.1 ≤ 114 + 2 * c + 1 → 114 + 2 * c + 1 ≤ s.2.1 → s.2.2 = .inl (0, 3)) c (List.mem_range.mpr hc6) s hs j1 j2, n2]
          exact hi_nv (by omega) (by omega)

theorem hc_room (hH : et_H et_TT w.1 w.2.2) (k_rd : w.1 rd = some 7) (hl : pl_at w.2.2 rd c) (hc : c ≤ 400) : et_go none d2 63 0 (eg_en (eg_mL 63) [.ref rd, .int (Int32.ofNat 20)]) [] w.2.2 0 0 (pz_Z [] w.1 w.2.2 (fun _ _ v => (v = .int (Int32.ofNat 0) ∧ 400 < c + 20) ∨ (v = .int (Int32.ofNat 1) ∧ c + 20 ≤ 400))) := by
  have hx0 : et_ex w.1 w.1 := et_ex.rf
  have hf : et_fr [] w.1 w.2.2 w.2.2 := et_fr.rf
  rw [show eg_mL 63 = 2 from by decide +kernel]
  show et_go none d2 63 0 [some (.ref rd), some (.int (Int32.ofNat 20))] [] w.2.2 0 0 _
  refine hs_aload (i := 0) (p := 1) (by decide +kernel) rfl ?_
  refine ht_getn (T := et_TT) (t := 7) (ci := 5) (f := 1) (p := 4) (by decide +kernel) rfl rfl hH k_rd (fun c1 h1 e1 => ?_)
  obtain rfl : c = c1 := hb_cc hl e1 (by omega) (by omega)
  refine hs_iload (i := 1) (p := 5) (by decide +kernel) rfl ?_
  refine hs_iaddn (p := 6) (by decide +kernel) ?_
  refine hs_k (x := Int32.ofNat 400) (p := 9) (by decide +kernel) ?_
  refine hs_br2n (c := .gt) (t := 16) (f := 12) (by decide +kernel) (by omega) (by omega) (fun (c9 : 400 < (c + 20)) => ?_) (fun (c9 : ¬ (400 < (c + 20))) => ?_)
  · refine hs_k (x := Int32.ofNat 0) (p := 17) (by decide +kernel) ?_
    refine hs_zret (by decide +kernel) (.inl rfl) ?_
    exact ⟨_, _, rfl, hx0, hf, hH, rfl, rfl, .inl ⟨rfl, by omega⟩⟩
  · refine hs_k (x := Int32.ofNat 1) (p := 13) (by decide +kernel) ?_
    refine hs_goto (p := 17) (by decide +kernel) ?_
    refine hs_zret (by decide +kernel) (.inr rfl) ?_
    exact ⟨_, _, rfl, hx0, hf, hH, rfl, rfl, .inr ⟨rfl, by omega⟩⟩
theorem hc_feedC {x1 x2 x3 x4 x5 : Int32} (hH : et_H et_TT w.1 w.2.2) (k_th : w.1 th = some 12) (h3 : et_pl (eg_at w.2.2 th) 3 = some (.ref rd)) (k_rd : w.1 rd = some 7) (hl : pl_at w.2.2 rd c) (hc : c ≤ 400) (hd : 2 ≤ d2) : et_go none d2 116 0 (eg_en (eg_mL 116) [.ref th, .int x1, .int x2, .int x3, .int x4, .int x5]) [] w.2.2 0 0 (fun u => hi_Z et_TT w [(7, 1, 1), (33, 0, 100000)] [(.inl (some (.inl (et_mn, et_mx))), 0, 0)] u ∧ pl_at u.2.1 rd (ff c)) := by
  obtain ⟨d, rfl⟩ : ∃ d, d2 = d + 2 := ⟨d2 - 2, by omega⟩
  have hx0 : et_ex w.1 w.1 := et_ex.rf
  have hf : et_fr [(7, 1, 1), (33, 0, 100000)] w.1 w.2.2 w.2.2 := et_fr.rf
  rw [show eg_mL 116 = 6 from by decide +kernel]
  show et_go none (d + 2) 116 0 [some (.ref th), some (.int x1), some (.int x2), some (.int x3), some (.int x4), some (.int x5)] [] w.2.2 0 0 _
  refine hs_aload (i := 0) (p := 1) (by decide +kernel) rfl ?_
  refine ht_getr (T := et_TT) (t := 12) (ci := 10) (f := 3) (p := 4) (by decide +kernel) rfl rfl hH k_th (fun a1 k_a1 e1 => ?_)
  obtain rfl : rd = a1 := Value.ref.inj (Option.some.inj (h3.symm.trans e1))
  refine hs_k (x := Int32.ofNat 20) (p := 6) (by decide +kernel) ?_
  have hfo := hf
  refine ht_callv (T := et_TT) (t := 7) (mi := 63) (na := 1) (ci := 5) (lk := 6) (lm := 2) (L0 := eg_en (eg_mL 63) [.ref rd, .int (Int32.ofNat 20)]) (by decide +kernel) rfl hH k_rd rfl rfl rfl rfl rfl (by rw [show eg_mL 63 = 2 from by decide +kernel]; first | done | rfl) ?_
  refine (hc_room (w := (w.1, [], w.2.2)) hH k_rd hl (by omega)).mono (fun u hu => pz_cb hu (fun K6 G6 v6 x6 f6 hH hA => ?_))
  have h3 := (f6.2 th 12 k_th 3 rfl).trans h3
  have hl := (f6.2 rd 7 k_rd 1 rfl).trans hl
  have k_th := x6 _ _ k_th
  have k_rd := x6 _ _ k_rd
  have hf := hf.tr hx0 (f6.wk (by decide +kernel))
  have hx0 := hx0.tr x6
  rcases hA with ⟨rfl, hi6⟩ | ⟨rfl, hi6⟩
  · show et_go none _ 116 9 _ [.int (Int32.ofNat 0)] _ 0 0 _
    refine hs_if0 (c := .ne) (t := 14) (f := 12) (by decide +kernel) (show ¬ (¬ Int32.ofNat 0 = 0) by decide) ?_
    refine hs_k (x := (-1)) (p := 13) (by decide +kernel) ?_
    refine hs_iret (by decide +kernel) ?_
    have e9 : ff c = c := if_neg (by omega)
    rw [e9]
    exact ⟨⟨_, List.mem_cons_self, _, hx0, hf, hH, ⟨_, rfl, hi_any⟩, Nat.le_refl _, Nat.le_refl _⟩, hl⟩
  · show et_go none _ 116 9 _ [.int (Int32.ofNat 1)] _ 0 0 _
    refine hs_if1 (c := .ne) (t := 14) (f := 12) (by decide +kernel) (show ¬ Int32.ofNat 1 = 0 by decide) ?_
    refine hs_aload (i := 0) (p := 15) (by decide +kernel) rfl ?_
    refine ht_getr (T := et_TT) (t := 12) (ci := 10) (f := 3) (p := 18) (by decide +kernel) rfl rfl hH k_th (fun a15 k_a15 e15 => ?_)
    obtain rfl : rd = a15 := Value.ref.inj (Option.some.inj (h3.symm.trans e15))
    refine hs_iload (i := 1) (p := 19) (by decide +kernel) rfl ?_
    have hfo := hf
    refine ht_callv (T := et_TT) (t := 7) (mi := 64) (na := 1) (ci := 5) (lk := 6) (lm := 3) (L0 := eg_en (eg_mL 64) [.ref rd, .int x1]) (by decide +kernel) rfl hH k_rd rfl rfl rfl rfl rfl (by rw [show eg_mL 64 = 3 from by decide +kernel]; first | done | rfl) ?_
    refine (hc_add4 (w := (K6, [], G6)) hH k_rd hl (by omega) (by omega)).mono (fun u hu => hs_cbc (P := fun G' => pl_at G' rd (c + 4)) hu (fun K19 G19 x19 f19 hH hP => ?_))
    have h3 := (f19.2 th 12 k_th 3 rfl).trans h3
    have k_th := x19 _ _ k_th
    have k_rd := x19 _ _ k_rd
    have hf := hf.tr hx0 (f19.wk (by decide +kernel))
    have hx0 := hx0.tr x19
    have hl := hP
    show et_go none _ 116 22 _ [] _ 0 0 _
    refine hs_aload (i := 0) (p := 23) (by decide +kernel) rfl ?_
    refine ht_getr (T := et_TT) (t := 12) (ci := 10) (f := 3) (p := 26) (by decide +kernel) rfl rfl hH k_th (fun a23 k_a23 e23 => ?_)
    obtain rfl : rd = a23 := Value.ref.inj (Option.some.inj (h3.symm.trans e23))
    refine hs_iload (i := 2) (p := 27) (by decide +kernel) rfl ?_
    have hfo := hf
    refine ht_callv (T := et_TT) (t := 7) (mi := 64) (na := 1) (ci := 5) (lk := 6) (lm := 3) (L0 := eg_en (eg_mL 64) [.ref rd, .int x2]) (by decide +kernel) rfl hH k_rd rfl rfl rfl rfl rfl (by rw [show eg_mL 64 = 3 from by decide +kernel]; first | done | rfl) ?_
    refine (hc_add4 (w := (K19, [], G19)) hH k_rd hl (by omega) (by omega)).mono (fun u hu => hs_cbc (P := fun G' => pl_at G' rd ((c + 4) + 4)) hu (fun K27 G27 x27 f27 hH hP => ?_))
    have h3 := (f27.2 th 12 k_th 3 rfl).trans h3
    have k_th := x27 _ _ k_th
    have k_rd := x27 _ _ k_rd
    have hf := hf.tr hx0 (f27.wk (by decide +kernel))
    have hx0 := hx0.tr x27
    have hl := hP
    show et_go none _ 116 30 _ [] _ 0 0 _
    refine hs_aload (i := 0) (p := 31) (by decide +kernel) rfl ?_
    refine ht_getr (T := et_TT) (t := 12) (ci := 10) (f := 3) (p := 34) (by decide +kernel) rfl rfl hH k_th (fun a31 k_a31 e31 => ?_)
    obtain rfl : rd = a31 := Value.ref.inj (Option.some.inj (h3.symm.trans e31))
    refine hs_iload (i := 3) (p := 35) (by decide +kernel) rfl ?_
    have hfo := hf
    refine ht_callv (T := et_TT) (t := 7) (mi := 64) (na := 1) (ci := 5) (lk := 6) (lm := 3) (L0 := eg_en (eg_mL 64) [.ref rd, .int x3]) (by decide +kernel) rfl hH k_rd rfl rfl rfl rfl rfl (by rw [show eg_mL 64 = 3 from by decide +kernel]; first | done | rfl) ?_
    refine (hc_add4 (w := (K27, [], G27)) hH k_rd hl (by omega) (by omega)).mono (fun u hu => hs_cbc (P := fun G' => pl_at G' rd (((c + 4) + 4) + 4)) hu (fun K35 G35 x35 f35 hH hP => ?_))
    have h3 := (f35.2 th 12 k_th 3 rfl).trans h3
    have k_th := x35 _ _ k_th
    have k_rd := x35 _ _ k_rd
    have hf := hf.tr hx0 (f35.wk (by decide +kernel))
    have hx0 := hx0.tr x35
    have hl := hP
    show et_go none _ 116 38 _ [] _ 0 0 _
    refine hs_aload (i := 0) (p := 39) (by decide +kernel) rfl ?_
    refine ht_getr (T := et_TT) (t := 12) (ci := 10) (f := 3) (p := 42) (by decide +kernel) rfl rfl hH k_th (fun a39 k_a39 e39 => ?_)
    obtain rfl : rd = a39 := Value.ref.inj (Option.some.inj (h3.symm.trans e39))
    refine hs_iload (i := 4) (p := 44) (by decide +kernel) rfl ?_
    have hfo := hf
    refine ht_callv (T := et_TT) (t := 7) (mi := 64) (na := 1) (ci := 5) (lk := 6) (lm := 3) (L0 := eg_en (eg_mL 64) [.ref rd, .int x4]) (by decide +kernel) rfl hH k_rd rfl rfl rfl rfl rfl (by rw [show eg_mL 64 = 3 from by decide +kernel]; first | done | rfl) ?_
    refine (hc_add4 (w := (K35, [], G35)) hH k_rd hl (by omega) (by omega)).mono (fun u hu => hs_cbc (P := fun G' => pl_at G' rd ((((c + 4) + 4) + 4) + 4)) hu (fun K44 G44 x44 f44 hH hP => ?_))
    have h3 := (f44.2 th 12 k_th 3 rfl).trans h3
    have k_th := x44 _ _ k_th
    have k_rd := x44 _ _ k_rd
    have hf := hf.tr hx0 (f44.wk (by decide +kernel))
    have hx0 := hx0.tr x44
    have hl := hP
    show et_go none _ 116 47 _ [] _ 0 0 _
    refine hs_aload (i := 0) (p := 48) (by decide +kernel) rfl ?_
    refine ht_getr (T := et_TT) (t := 12) (ci := 10) (f := 3) (p := 51) (by decide +kernel) rfl rfl hH k_th (fun a48 k_a48 e48 => ?_)
    obtain rfl : rd = a48 := Value.ref.inj (Option.some.inj (h3.symm.trans e48))
    refine hs_iload (i := 5) (p := 53) (by decide +kernel) rfl ?_
    have hfo := hf
    refine ht_callv (T := et_TT) (t := 7) (mi := 64) (na := 1) (ci := 5) (lk := 6) (lm := 3) (L0 := eg_en (eg_mL 64) [.ref rd, .int x5]) (by decide +kernel) rfl hH k_rd rfl rfl rfl rfl rfl (by rw [show eg_mL 64 = 3 from by decide +kernel]; first | done | rfl) ?_
    refine (hc_add4 (w := (K44, [], G44)) hH k_rd hl (by omega) (by omega)).mono (fun u hu => hs_cbc (P := fun G' => pl_at G' rd (((((c + 4) + 4) + 4) + 4) + 4)) hu (fun K53 G53 x53 f53 hH hP => ?_))
    have h3 := (f53.2 th 12 k_th 3 rfl).trans h3
    have k_th := x53 _ _ k_th
    have k_rd := x53 _ _ k_rd
    have hf := hf.tr hx0 (f53.wk (by decide +kernel))
    have hx0 := hx0.tr x53
    have hl := hP
    show et_go none _ 116 56 _ [] _ 0 0 _
    refine hs_aload (i := 0) (p := 57) (by decide +kernel) rfl ?_
    refine ht_getr (T := et_TT) (t := 12) (ci := 10) (f := 3) (p := 60) (by decide +kernel) rfl rfl hH k_th (fun a57 k_a57 e57 => ?_)
    obtain rfl : rd = a57 := Value.ref.inj (Option.some.inj (h3.symm.trans e57))
    refine ht_getn (T := et_TT) (t := 7) (ci := 5) (f := 1) (p := 63) (by decide +kernel) rfl rfl hH k_rd (fun c60 h60 e60 => ?_)
    have q60 : c60 = (((((c + 4) + 4) + 4) + 4) + 4) := hb_cc e60 hl (by omega) (by omega)
    refine hs_iret (by decide +kernel) ?_
    have e9 : ff c = (((((c + 4) + 4) + 4) + 4) + 4) := if_pos (by omega)
    rw [e9]
    exact ⟨⟨_, List.mem_cons_self, _, hx0, hf, hH, ⟨_, rfl, hi_any⟩, Nat.le_refl _, Nat.le_refl _⟩, hl⟩
/-- what `end` answers, and what is left -/
def fe (n : Int32) (c : Nat) : Nat × Nat := if n < 0 then (0, c) else if n ≤ Int32.ofNat c then (1, n.toInt.toNat) else (0, c)
theorem fe_le {n : Int32} (hc : c ≤ 400) : (fe n c).2 ≤ 400 ∧ (fe n c).1 ≤ 1 := by
  unfold fe
  split
  · exact ⟨hc, Nat.zero_le _⟩
  · split
    · rename_i h
      have h := Int32.le_iff_toInt_le.mp h
      rw [hs_nint (by omega)] at h
      exact ⟨by show n.toInt.toNat ≤ 400; omega, Nat.le_refl _⟩
    · exact ⟨hc, Nat.zero_le _⟩
theorem fe_01 {n : Int32} : Int32.ofNat (fe n c).1 = 0 ∨ Int32.ofNat (fe n c).1 = 1 := by
  unfold fe
  split
  · exact .inl rfl
  · split
    · exact .inr rfl
    · exact .inl rfl
theorem fe_n {n : Int32} (h1 : ¬ n < 0) (h2 : n ≤ Int32.ofNat c) (hc : c ≤ 400) : ∃ m : Nat, m ≤ c ∧ n = Int32.ofNat m ∧ fe n c = (1, m) := by
  have h3 : ¬ n.toInt < 0 := fun h => h1 (Int32.lt_iff_toInt_lt.mpr h)
  have h4 := Int32.le_iff_toInt_le.mp h2
  rw [hs_nint (by omega)] at h4
  refine ⟨n.toInt.toNat, by omega, hi_of (by omega) (by omega), ?_⟩
  unfold fe
  rw [if_neg h1, if_pos h2]
theorem hc_cut (hH : et_H et_TT w.1 w.2.2) (k_rd : w.1 rd = some 7) (hl : pl_at w.2.2 rd c) (hc : c ≤ 400) : et_go none d2 65 0 (eg_en (eg_mL 65) [.ref rd, .int n]) [] w.2.2 0 0 (pz_Z [(7, 1, 1)] w.1 w.2.2 (fun _ G' v => v = .int (Int32.ofNat (fe n c).1) ∧ pl_at G' rd (fe n c).2)) := by
  have hx0 : et_ex w.1 w.1 := et_ex.rf
  have hf : et_fr [(7, 1, 1)] w.1 w.2.2 w.2.2 := et_fr.rf
  rw [show eg_mL 65 = 2 from by decide +kernel]
  show et_go none d2 65 0 [some (.ref rd), some (.int n)] [] w.2.2 0 0 _
  refine hs_iload (i := 1) (p := 1) (by decide +kernel) rfl ?_
  refine hs_br1 (c := .lt) (t := 12) (f := 4) (by decide +kernel) (fun (c1 : n < 0) => ?_) (fun (c1 : ¬ (n < 0)) => ?_)
  · refine hs_k (x := Int32.ofNat 0) (p := 13) (by decide +kernel) ?_
    refine hs_zret (by decide +kernel) (.inl rfl) ?_
    exact ⟨_, _, rfl, hx0, hf, hH, rfl, rfl, by rw [show fe n c = (0, c) from if_pos c1]; exact ⟨rfl, hl⟩⟩
  · refine hs_iload (i := 1) (p := 5) (by decide +kernel) rfl ?_
    refine hs_aload (i := 0) (p := 6) (by decide +kernel) rfl ?_
    refine ht_getn (T := et_TT) (t := 7) (ci := 5) (f := 1) (p := 9) (by decide +kernel) rfl rfl hH k_rd (fun c6 h6 e6 => ?_)
    obtain rfl : c = c6 := hb_cc hl e6 (by omega) (by omega)
    refine hs_br2 (c := .le) (t := 14) (f := 12) (by decide +kernel) (fun (c9 : n ≤ Int32.ofNat c) => ?_) (fun (c9 : ¬ (n ≤ Int32.ofNat c)) => ?_)
    · obtain ⟨m, hm1, hnm, he⟩ := fe_n c1 c9 (by omega)
      refine hs_aload (i := 0) (p := 15) (by decide +kernel) rfl ?_
      refine hs_iload (i := 1) (p := 16) (by decide +kernel) rfl ?_
      refine ht_put (M := [(7, 1, 1)]) (T := et_TT) (t := 7) (ci := 5) (f := 1) (p := 19) (ty := .int) (by decide +kernel) rfl rfl rfl rfl rfl (by decide +kernel) hH k_rd (by rw [hnm]; exact hi_nv (by omega) (by omega)) (fun G16 hH f16 e16 => ?_)
      have hf := hf.tr hx0 (f16.wk (by decide +kernel))
      have hl := e16
      rw [hnm] at hl
      refine hs_k (x := Int32.ofNat 1) (p := 20) (by decide +kernel) ?_
      refine hs_zret (by decide +kernel) (.inr rfl) ?_
      exact ⟨_, _, rfl, hx0, hf, hH, rfl, rfl, by rw [he]; exact ⟨rfl, hl⟩⟩
    · refine hs_k (x := Int32.ofNat 0) (p := 13) (by decide +kernel) ?_
      refine hs_zret (by decide +kernel) (.inl rfl) ?_
      exact ⟨_, _, rfl, hx0, hf, hH, rfl, rfl, by rw [show fe n c = (0, c) from (if_neg c1).trans (if_neg c9)]; exact ⟨rfl, hl⟩⟩
theorem hc_endM (hH : et_H et_TT w.1 w.2.2) (k_am : w.1 am = some 13) (hm : pm_at w.2.2 am c) (hc : c ≤ 400) : et_go none d2 178 0 (eg_en (eg_mL 178) [.ref am, .int n]) [] w.2.2 0 0 (pz_Z [(13, 0, 0), (13, 5, 5)] w.1 w.2.2 (fun _ G' v => v = .int (Int32.ofNat (fe n c).1) ∧ pm_at G' am (fe n c).2)) := by
  have hx0 : et_ex w.1 w.1 := et_ex.rf
  have hf : et_fr [(13, 0, 0), (13, 5, 5)] w.1 w.2.2 w.2.2 := et_fr.rf
  rw [show eg_mL 178 = 2 from by decide +kernel]
  show et_go none d2 178 0 [some (.ref am), some (.int n)] [] w.2.2 0 0 _
  refine hs_aload (i := 0) (p := 1) (by decide +kernel) rfl ?_
  refine hs_k (x := Int32.ofNat 0) (p := 2) (by decide +kernel) ?_
  refine ht_put (M := [(13, 0, 0)]) (T := et_TT) (t := 13) (ci := 11) (f := 0) (p := 5) (ty := .int) (by decide +kernel) rfl rfl rfl rfl rfl (by decide +kernel) hH k_am hi_any (fun G2 hH f2 e2 => ?_)
  have hm := (f2.2 am 13 k_am 5 rfl).trans hm
  have hf := hf.tr hx0 (f2.wk (by decide +kernel))
  refine hs_iload (i := 1) (p := 6) (by decide +kernel) rfl ?_
  refine hs_br1 (c := .lt) (t := 17) (f := 9) (by decide +kernel) (fun (c6 : n < 0) => ?_) (fun (c6 : ¬ (n < 0)) => ?_)
  · refine hs_k (x := Int32.ofNat 0) (p := 18) (by decide +kernel) ?_
    refine hs_zret (by decide +kernel) (.inl rfl) ?_
    exact ⟨_, _, rfl, hx0, hf, hH, rfl, rfl, by rw [show fe n c = (0, c) from if_pos c6]; exact ⟨rfl, hm⟩⟩
  · refine hs_iload (i := 1) (p := 10) (by decide +kernel) rfl ?_
    refine hs_aload (i := 0) (p := 11) (by decide +kernel) rfl ?_
    refine ht_getn (T := et_TT) (t := 13) (ci := 11) (f := 5) (p := 14) (by decide +kernel) rfl rfl hH k_am (fun c11 h11 e11 => ?_)
    obtain rfl : c = c11 := hb_cc hm e11 (by omega) (by omega)
    refine hs_br2 (c := .le) (t := 19) (f := 17) (by decide +kernel) (fun (c14 : n ≤ Int32.ofNat c) => ?_) (fun (c14 : ¬ (n ≤ Int32.ofNat c)) => ?_)
    · obtain ⟨m, hm1, hnm, he⟩ := fe_n c6 c14 (by omega)
      refine hs_aload (i := 0) (p := 20) (by decide +kernel) rfl ?_
      refine hs_iload (i := 1) (p := 21) (by decide +kernel) rfl ?_
      refine ht_put (M := [(13, 5, 5)]) (T := et_TT) (t := 13) (ci := 11) (f := 5) (p := 24) (ty := .int) (by decide +kernel) rfl rfl rfl rfl rfl (by decide +kernel) hH k_am (by rw [hnm]; exact hi_nv (by omega) (by omega)) (fun G21 hH f21 e21 => ?_)
      have hf := hf.tr hx0 (f21.wk (by decide +kernel))
      have hm := e21
      rw [hnm] at hm
      refine hs_k (x := Int32.ofNat 1) (p := 25) (by decide +kernel) ?_
      refine hs_zret (by decide +kernel) (.inr rfl) ?_
      exact ⟨_, _, rfl, hx0, hf, hH, rfl, rfl, by rw [he]; exact ⟨rfl, hm⟩⟩
    · refine hs_k (x := Int32.ofNat 0) (p := 18) (by decide +kernel) ?_
      refine hs_zret (by decide +kernel) (.inl rfl) ?_
      exact ⟨_, _, rfl, hx0, hf, hH, rfl, rfl, by rw [show fe n c = (0, c) from (if_neg c6).trans (if_neg c14)]; exact ⟨rfl, hm⟩⟩
theorem hc_endC (hH : et_H et_TT w.1 w.2.2) (k_th : w.1 th = some 12) (h3 : et_pl (eg_at w.2.2 th) 3 = some (.ref rd)) (k_rd : w.1 rd = some 7) (hl : pl_at w.2.2 rd c) (hc : c ≤ 400) (hd : 1 ≤ d2) : et_go none d2 117 0 (eg_en (eg_mL 117) [.ref th, .int n]) [] w.2.2 0 0 (pz_Z [(7, 1, 1)] w.1 w.2.2 (fun _ G' v => v = .int (Int32.ofNat (fe n c).1) ∧ pl_at G' rd (fe n c).2)) := by
  obtain ⟨d, rfl⟩ : ∃ d, d2 = d + 1 := ⟨d2 - 1, by omega⟩
  have hx0 : et_ex w.1 w.1 := et_ex.rf
  have hf : et_fr [(7, 1, 1)] w.1 w.2.2 w.2.2 := et_fr.rf
  rw [show eg_mL 117 = 2 from by decide +kernel]
  show et_go none (d + 1) 117 0 [some (.ref th), some (.int n)] [] w.2.2 0 0 _
  refine hs_aload (i := 0) (p := 1) (by decide +kernel) rfl ?_
  refine ht_getr (T := et_TT) (t := 12) (ci := 10) (f := 3) (p := 4) (by decide +kernel) rfl rfl hH k_th (fun a1 k_a1 e1 => ?_)
  obtain rfl : rd = a1 := Value.ref.inj (Option.some.inj (h3.symm.trans e1))
  refine hs_iload (i := 1) (p := 5) (by decide +kernel) rfl ?_
  have hfo := hf
  refine ht_callv (T := et_TT) (t := 7) (mi := 65) (na := 1) (ci := 5) (lk := 2) (lm := 2) (L0 := eg_en (eg_mL 65) [.ref rd, .int n]) (by decide +kernel) rfl hH k_rd rfl rfl rfl rfl rfl (by rw [show eg_mL 65 = 2 from by decide +kernel]; first | done | rfl) ?_
  refine (hc_cut (w := (w.1, [], w.2.2)) hH k_rd hl (by omega)).mono (fun u hu => pz_cb hu (fun K5 G5 v5 x5 f5 hH hP => ?_))
  have h3 := (f5.2 th 12 k_th 3 rfl).trans h3
  have k_th := x5 _ _ k_th
  have k_rd := x5 _ _ k_rd
  have hf := hf.tr hx0 (f5.wk (by decide +kernel))
  have hx0 := hx0.tr x5
  obtain rfl := hP.1
  show et_go none _ 117 8 _ [.int (Int32.ofNat ((fe n c).1))] _ 0 0 _
  refine hs_zret (by decide +kernel) fe_01 ?_
  exact ⟨_, _, rfl, hx0, hf, hH, rfl, rfl, rfl, hP.2⟩
end PPI
