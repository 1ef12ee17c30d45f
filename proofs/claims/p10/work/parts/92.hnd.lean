/-! BY HAND: Search.each -/
theorem et_pok {T : List et_D} {Ks : List et_Co} {an : Nat → Nat → Option et_A} {mi d d2 pc : Nat} {ps : List et_P} {M : et_M} {es : List ((Option et_P ⊕ Nat) × Nat × Nat)} {w : et_Wd} {as : List Value} (hK : ∀ q ∈ Ks, et_cv T q) (hl0 : ps.length < 100) (h : (match et_rn T M Ks an 100000 [] none (ps.map (fun p => (p, none))) [] d mi pc (eg_en (eg_mL mi) (et_ar 0 ps)) [] 0 0 with
    | none => false
    | some os => os.all (fun o => es.any (et_fe o))) = true) (hH : et_H T w.1 w.2.2) (hd : d ≤ d2) (hl : as.length = ps.length) (hv : ∀ (i : Nat) (p : et_P) (v : Value), ps[i]? = some p → as[i]? = some v → et_v w.1 p v) : et_go none d2 mi pc (eg_en (eg_mL mi) as) [] w.2.2 0 0 (hi_Z T w M es) := by
  split at h
  · cases h
  · rename_i os hos
    refine et_rn_ok hK 100000 _ _ _ _ _ _ _ _ _ _ _ _ hos none (w.1, as, w.2.2) (eg_en (eg_mL mi) as) [] 0 0 d2 _ ⟨hH, ⟨by rw [List.length_map]; exact hl, fun k p dd hk => ?_⟩, fun e he => (nomatch he), et_lr_en (eg_mL mi) (et_ar_sr (K := w.1) (n := 0) (by omega) hl hv (fun i v hi => by rw [Nat.zero_add]; exact hi)), rfl⟩ (Nat.le_refl _) (Nat.le_refl _) hd rfl (fun _ hm => absurd hm List.not_mem_nil) (fun o ho w' u hle hen => ?_)
    · rw [List.getElem?_map] at hk
      cases hp : ps[k]? with
      | none => rw [hp] at hk; cases hk
      | some p' =>
        rw [hp] at hk
        cases hk
        have hlt : k < as.length := by rw [hl]; exact (List.getElem?_eq_some_iff.mp hp).1
        exact ⟨as[k], List.getElem?_eq_getElem hlt, hv k p _ hp (List.getElem?_eq_getElem hlt), fun _ _ h => (nomatch h)⟩
    · obtain ⟨e, he, hfe⟩ := List.any_eq_true.mp (List.all_eq_true.mp h o ho)
      obtain ⟨b1, b2, b3, b4, b5, b6, b7⟩ := hen
      obtain ⟨a1, -, a3⟩ := hle
      unfold et_fe at hfe
      rw [Bool.and_eq_true, Bool.and_eq_true] at hfe
      obtain ⟨c1, c2, c3⟩ := hfe
      have c2 := of_decide_eq_true c2
      have c3 := of_decide_eq_true c3
      refine ⟨e, he, w'.1, a1, by rw [b1]; exact a3, by rw [b1]; exact b2, ?_, by omega, by omega⟩
      obtain ⟨oE, oC, ov, oc, osk⟩ := o
      obtain ⟨er, ec, es'⟩ := e
      dsimp only at c1 b3 b5 ⊢
      split at c1
      · exact b5
      · obtain ⟨x, x1, x2⟩ := b5
        exact ⟨x, x1, et_ft_ok c1 b3 b2.2.1 x2⟩
      · rw [← of_decide_eq_true c1]
        exact b5
      · cases c1
theorem hi_Ztr {T : List et_D} {M : et_M} {es : List ((Option et_P ⊕ Nat) × Nat × Nat)} {w : et_Wd} {K : et_K} {G : eg_G} {u : eg_O} (hu : hi_Z T (K, [], G) M es u) (hx0 : et_ex w.1 K) (hf : et_fr M w.1 w.2.2 G) : hi_Z T w M es u := by
  obtain ⟨e, he, K', h1, h2, h⟩ := hu
  exact ⟨e, he, K', hx0.tr h1, hf.tr hx0 h2, h⟩
def hr_M : et_M := [(9, 4, 4), (9, 5, 5), (9, 6, 6), (9, 7, 7), (9, 8, 8), (9, 9, 9), (9, 10, 10), (9, 11, 11), (9, 12, 12), (9, 13, 13), (9, 15, 15), (9, 16, 16), (15, 0, 100000), (19, 0, 100000), (45, 0, 100000)]
def ha_an9 (k pc : Nat) : Option et_A := if k = 99 then (if pc = 60 then some ([(5, .inl (0, 31))], 0, [(9, 5, 5), (19, 0, 100000), (45, 0, 100000)], []) else none) else none
def ha_q : et_Co := (92, ha_p, ha_M, [(.inl none, 0, 0)], 3)
theorem ha_c : et_cv et_TT ha_q := et_cok_ok (Ks := []) (an := ha_an) (fun _ h => absurd h List.not_mem_nil) (by decide +kernel)
def hr_p : List et_P := [.inr (.inr (0, 9)), .inr (.inr (0, 3)), .inr (.inr (0, 10)), .inl (0, 3), .inl (0, 46)]
theorem hc_eachT {K : et_K} {G : eg_G} {d2 se ey st kk ak : Nat} (hH : et_H et_TT K G) (hd : 18 ≤ d2) (k_se : K se = some 9) (k_ey : K ey = some 3) (k_st : K st = some 10) (hkk : kk ≤ 3) (hak : ak ≤ 46) : et_go none d2 99 57 (eg_en (eg_mL 99) [.ref se, .ref ey, .ref st, .int (Int32.ofNat kk), .int (Int32.ofNat ak)]) [] G 0 0 (hi_Z et_TT (K, [], G) hr_M [(.inl none, 0, 0)]) :=
  et_pok (Ks := [ha_q, es_q14]) (an := ha_an9) (ps := hr_p) (w := (K, [], G)) (List.forall_mem_cons.mpr ⟨ha_c, List.forall_mem_cons.mpr ⟨es_c14, fun _ h => absurd h List.not_mem_nil⟩⟩) (by decide) (d := 18) (by decide +kernel) hH hd rfl (ht_ac (.inr ⟨by decide, _, rfl, k_se⟩) (ht_ac (.inr ⟨by decide, _, rfl, k_ey⟩) (ht_ac (.inr ⟨by decide, _, rfl, k_st⟩) (ht_ac (hi_nv (by omega) (by omega)) (ht_ac (hi_nv (by omega) (by omega)) ht_an)))))
theorem ha_min0 : ∀ n ∈ List.range 47, 0 ≤ (if Int32.ofNat 31 < Int32.ofNat n then Int32.ofNat 31 else Int32.ofNat n).toInt ∧ (if Int32.ofNat 31 < Int32.ofNat n then Int32.ofNat 31 else Int32.ofNat n).toInt ≤ 31 := by decide +kernel
theorem hb_Yc {w : et_Wd} {G : eg_G} {ya : Nat} (hf : et_fr hr_M w.1 w.2.2 G) (hya : w.1 ya = some 27) : hb_Y G ya = hb_Y w.2.2 ya := by
  funext j
  unfold hb_Y
  rw [hf.2 ya 27 hya j (by
    unfold et_mm hr_M
    simp)]
section REA
variable {w : et_Wd}
theorem hc_each : et_cv et_TT hq_each := by
  intro w as d2 hH hd hl hv
  obtain ⟨v, v1, v2, v3, v4, rfl⟩ := hi_len5 (show as.length = 5 from hl)
  obtain ⟨se, rfl, k_se⟩ := hi_ref (hv 0 _ _ rfl rfl)
  obtain ⟨ey, rfl, k_ey⟩ := hi_ref (hv 1 _ _ rfl rfl)
  obtain ⟨st, rfl, k_st⟩ := hi_ref (hv 2 _ _ rfl rfl)
  obtain ⟨kk, hkk, rfl⟩ := hi_nat (hv 3 _ _ rfl rfl)
  obtain ⟨ak, hak, rfl⟩ := hi_nat (hv 4 _ _ rfl rfl)
  obtain ⟨d, rfl⟩ : ∃ d, d2 = d + 18 := ⟨d2 - 18, by have : 20 ≤ d2 := hd; omega⟩
  have z_st := k_st
  obtain ⟨m0, hm0, hm⟩ := hb_m hH k_st
  obtain ⟨ya, hya0, z_ya⟩ := hb_ya hH k_st
  have hw := wc_t (hb_Y w.2.2 ya) m0
  have hmn := ha_min0 ak (List.mem_range.mpr (by omega))
  have hx0 : et_ex w.1 w.1 := et_ex.rf
  have hf : et_fr hr_M w.1 w.2.2 w.2.2 := et_fr.rf
  rw [show eg_mL 99 = 6 from by decide +kernel]
  show et_go none (d + 18) 99 0 [some (.ref se), some (.ref ey), some (.ref st), some (.int (Int32.ofNat kk)), some (.int (Int32.ofNat ak)), none] [] w.2.2 0 0 (hi_Z et_TT w hr_M [(.inl none, 0, 0)])
  refine hs_aload (i := 0) (p := 1) (by decide +kernel) rfl ?_
  refine hs_aload (i := 1) (p := 2) (by decide +kernel) rfl ?_
  refine hs_aload (i := 2) (p := 3) (by decide +kernel) rfl ?_
  refine hs_aload (i := 2) (p := 4) (by decide +kernel) rfl ?_
  refine ht_getn (T := et_TT) (t := 10) (ci := 8) (f := 2) (p := 7) (by decide +kernel) rfl rfl hH k_st (fun c4 h4 e4 => ?_)
  refine hs_iload (i := 3) (p := 8) (by decide +kernel) rfl ?_
  refine ht_callv (T := et_TT) (t := 9) (mi := 91) (na := 4) (ci := 7) (lk := 6) (lm := 7) (L0 := eg_en (eg_mL 91) [.ref se, .ref ey, .ref st, .int (Int32.ofNat c4), .int (Int32.ofNat kk)]) (by decide +kernel) rfl hH k_se rfl rfl rfl rfl rfl (by rw [show eg_mL 91 = 7 from by decide +kernel]; first | done | rfl) ?_
  refine (hc_beginx (w := (w.1, [], w.2.2)) hH (by omega) k_se k_ey k_st (by omega)).mono (fun u hu => hs_cbc (P := fun G => ∃ c2, et_pl (eg_at G se) 5 = some (.int (Int32.ofNat c2)) ∧ c2 ≤ 100) hu (fun K8 G8 x8 f8 hH hc2 => ?_))
  have k_se := x8 _ _ k_se
  have k_ey := x8 _ _ k_ey
  have k_st := x8 _ _ k_st
  have hf := hf.tr hx0 (f8.wk (by decide +kernel))
  have hx0 := hx0.tr x8
  obtain ⟨d8, hc5, hc2_8⟩ := hc2
  show et_go none _ 99 11 _ [] _ 0 0 _
  refine hs_aload (i := 0) (p := 12) (by decide +kernel) rfl ?_
  refine hs_k (x := Int32.ofNat 1) (p := 13) (by decide +kernel) ?_
  refine ht_put (M := [(9, 9, 9)]) (T := et_TT) (t := 9) (ci := 7) (f := 9) (p := 16) (ty := .boolean) (by decide +kernel) rfl rfl rfl (by decide +kernel) rfl (by decide +kernel) hH k_se (hi_nv (by omega) (by omega)) (fun G13 hH f13 e13 => ?_)
  have hf := hf.tr hx0 (f13.wk (by decide +kernel))
  have hc5 := (f13.2 se 9 k_se 5 rfl).trans hc5
  refine hs_aload (i := 0) (p := 17) (by decide +kernel) rfl ?_
  refine hs_iload (i := 4) (p := 19) (by decide +kernel) rfl ?_
  refine hs_k (x := Int32.ofNat 31) (p := 21) (by decide +kernel) ?_
  refine hs_math (mi := 311) (lk := 6) (p := 24) (by decide +kernel) rfl rfl rfl rfl ?_
  refine ht_put (M := [(9, 12, 12)]) (T := et_TT) (t := 9) (ci := 7) (f := 12) (p := 27) (ty := .int) (by decide +kernel) rfl rfl rfl rfl rfl (by decide +kernel) hH k_se (hi_iv hmn.1 hmn.2) (fun G24 hH f24 e24 => ?_)
  have hf := hf.tr hx0 (f24.wk (by decide +kernel))
  have hc5 := (f24.2 se 9 k_se 5 rfl).trans hc5
  refine hs_aload (i := 0) (p := 28) (by decide +kernel) rfl ?_
  refine hs_aload (i := 1) (p := 29) (by decide +kernel) rfl ?_
  refine hs_aload (i := 2) (p := 30) (by decide +kernel) rfl ?_
  refine hs_k (x := Int32.ofNat 1) (p := 31) (by decide +kernel) ?_
  refine ht_callv (T := et_TT) (t := 9) (mi := 100) (na := 3) (ci := 7) (lk := 6) (lm := 5) (L0 := eg_en (eg_mL 100) [.ref se, .ref ey, .ref st, .int (Int32.ofNat 1)]) (by decide +kernel) rfl hH k_se rfl rfl rfl rfl rfl (by rw [show eg_mL 100 = 5 from by decide +kernel]; first | done | rfl) ?_
  refine (hc_ac (w := (K8, [], G24)) (m0 := m0) (ya := ya) (b := 1) (c0 := d8) hH (by omega) k_se k_ey k_st hc5 ((hf.2 st 10 z_st 2 rfl).trans hm0) hm ((hf.2 st 10 z_st 4 rfl).trans hya0) (hx0 _ _ z_ya) (.inr rfl) (by omega)).mono (fun u hu => hs_cbc (P := fun G => ∃ c2, et_pl (eg_at G se) 5 = some (.int (Int32.ofNat c2)) ∧ c2 ≤ d8 + wc (hb_Y G24 ya) 1 m0) hu (fun K31 G31 x31 f31 hH hc2 => ?_))
  rw [hb_Yc hf z_ya] at hc2
  have k_se := x31 _ _ k_se
  have k_ey := x31 _ _ k_ey
  have k_st := x31 _ _ k_st
  have hf := hf.tr hx0 (f31.wk (by decide +kernel))
  have hx0 := hx0.tr x31
  obtain ⟨d31, hc5, hc2_31⟩ := hc2
  show et_go none _ 99 34 _ [] _ 0 0 _
  refine hs_aload (i := 0) (p := 35) (by decide +kernel) rfl ?_
  refine hs_aload (i := 0) (p := 36) (by decide +kernel) rfl ?_
  refine ht_getn (T := et_TT) (t := 9) (ci := 7) (f := 5) (p := 39) (by decide +kernel) rfl rfl hH k_se (fun c36 h36 e36 => ?_)
  have q36 : c36 = d31 := hb_cc e36 hc5 (by omega) (by omega)
  refine ht_put (M := [(9, 10, 10)]) (T := et_TT) (t := 9) (ci := 7) (f := 10) (p := 42) (ty := .int) (by decide +kernel) rfl rfl rfl rfl rfl (by decide +kernel) hH k_se (hi_nv (by omega) (by omega)) (fun G39 hH f39 e39 => ?_)
  have hf := hf.tr hx0 (f39.wk (by decide +kernel))
  have hc5 := (f39.2 se 9 k_se 5 rfl).trans hc5
  refine hs_aload (i := 0) (p := 43) (by decide +kernel) rfl ?_
  refine hs_aload (i := 1) (p := 44) (by decide +kernel) rfl ?_
  refine hs_aload (i := 2) (p := 45) (by decide +kernel) rfl ?_
  refine hs_k (x := Int32.ofNat 0) (p := 46) (by decide +kernel) ?_
  refine ht_callv (T := et_TT) (t := 9) (mi := 100) (na := 3) (ci := 7) (lk := 6) (lm := 5) (L0 := eg_en (eg_mL 100) [.ref se, .ref ey, .ref st, .int (Int32.ofNat 0)]) (by decide +kernel) rfl hH k_se rfl rfl rfl rfl rfl (by rw [show eg_mL 100 = 5 from by decide +kernel]; first | done | rfl) ?_
  refine (hc_ac (w := (K31, [], G39)) (m0 := m0) (ya := ya) (b := 0) (c0 := d31) hH (by omega) k_se k_ey k_st hc5 ((hf.2 st 10 z_st 2 rfl).trans hm0) hm ((hf.2 st 10 z_st 4 rfl).trans hya0) (hx0 _ _ z_ya) (.inl rfl) (by omega)).mono (fun u hu => hs_cbc (P := fun G => ∃ c2, et_pl (eg_at G se) 5 = some (.int (Int32.ofNat c2)) ∧ c2 ≤ d31 + wc (hb_Y G39 ya) 0 m0) hu (fun K46 G46 x46 f46 hH hc2 => ?_))
  rw [hb_Yc hf z_ya] at hc2
  have k_se := x46 _ _ k_se
  have k_ey := x46 _ _ k_ey
  have k_st := x46 _ _ k_st
  have hf := hf.tr hx0 (f46.wk (by decide +kernel))
  have hx0 := hx0.tr x46
  obtain ⟨d46, hc5, hc2_46⟩ := hc2
  show et_go none _ 99 49 _ [] _ 0 0 _
  refine hs_aload (i := 0) (p := 50) (by decide +kernel) rfl ?_
  refine hs_aload (i := 0) (p := 51) (by decide +kernel) rfl ?_
  refine ht_getn (T := et_TT) (t := 9) (ci := 7) (f := 5) (p := 54) (by decide +kernel) rfl rfl hH k_se (fun c51 h51 e51 => ?_)
  have q51 : c51 = d46 := hb_cc e51 hc5 (by omega) (by omega)
  refine ht_put (M := [(9, 11, 11)]) (T := et_TT) (t := 9) (ci := 7) (f := 11) (p := 57) (ty := .int) (by decide +kernel) rfl rfl rfl rfl rfl (by decide +kernel) hH k_se (hi_nv (by omega) (by omega)) (fun G54 hH f54 e54 => ?_)
  have hf := hf.tr hx0 (f54.wk (by decide +kernel))
  have hc5 := (f54.2 se 9 k_se 5 rfl).trans hc5
  show et_go none (d + 18) 99 57 [some (.ref se), some (.ref ey), some (.ref st), some (.int (Int32.ofNat kk)), some (.int (Int32.ofNat ak)), none] [] _ 0 0 _
  have hz := hc_eachT (d2 := d + 18) (kk := kk) (ak := ak) hH (by omega) k_se k_ey k_st (by omega) (by omega)
  rw [show eg_mL 99 = 6 from by decide +kernel] at hz
  exact hz.mono (fun u hu => hi_Ztr hu hx0 hf)
end REA
