/-! BY HAND, for p39: whether there is an image -/
/-- the class's flag, the reference's -/
def ph_at (G : eg_G) (th h : Nat) : Prop := et_pl (eg_at G th) 2 = some (.int (Int32.ofNat h))
def pg_at (G : eg_G) (am h : Nat) : Prop := et_pl (eg_at G am) 3 = some (.int (Int32.ofNat h))
section PPN
variable {w : et_Wd} {K : et_K} {G : eg_G} {d2 d th am h s0 s1 ra0 ca0 rc0 ec0 cc0 ra1 ca1 rc1 ec1 cc1 : Nat}
theorem hi_im {F : Nat → Value} {W : Nat → Int32} {aw : Nat} {G1 : eg_G} (g1 : et_H et_TT K G1) (ha : K am = some 13) (hKw : K aw = some 46) : et_pl (eg_at (hm_H G1 am aw F W) am) 3 = some (F 3) := by
  rw [hm_m ⟨hi_at g1 ha (by decide), hi_at g1 hKw (by decide), hi_ne ha hKw (by decide)⟩, hi_pF (by decide)]
theorem hi_b1 (h1 : h ≤ 1) (c : ¬ Int32.ofNat h = 0) : h = 1 := by
  have hcs : h = 0 ∨ h = 1 := by omega
  rcases hcs with e | e
  · subst e
    exact absurd rfl c
  · exact e
theorem hi_b0 (h1 : h ≤ 1) (c : ¬ ¬ Int32.ofNat h = 0) : h = 0 := by
  have hcs : h = 0 ∨ h = 1 := by omega
  rcases hcs with e | e
  · exact e
  · subst e
    exact absurd (show ¬ Int32.ofNat 1 = 0 by decide) c
theorem hi_h3 {F : Nat → Value} (eF : eg_at G am = hm_F F) (hg : pg_at G am h) : F 3 = .int (Int32.ofNat h) := by
  have hg : et_pl (eg_at G am) 3 = some (.int (Int32.ofNat h)) := hg
  rw [eF, hi_pF (by decide)] at hg
  exact Option.some.inj hg
theorem hc_imageM (hH : et_H et_TT w.1 w.2.2) (ha : w.1 am = some 13) : et_go none d2 175 0 (eg_en (eg_mL 175) [.ref am]) [] w.2.2 0 0 (fun u => hi_Z et_TT w hi_MI [(.inl none, 0, 0)] u ∧ pg_at u.2.1 am 1) := by
  obtain ⟨F, W, aw, hA, eF, eW, hw, hKw, hF, hX, hW, hG, e⟩ := hi_mod hH ha
  obtain ⟨ia, hi, hKi⟩ := hi_ref (hF 2 _ rfl)
  obtain ⟨I, eI, hI, -⟩ := hi_arr hH hKi et_t47 (by decide) (.inl rfl)
  rw [hi_mL175]
  have h0 := rp_image (d := d2) (Z := fun u => hi_Z et_TT w hi_MI [(.inl none, 0, 0)] u ∧ pg_at u.2.1 am 1) hA hw hi (hi_ne hKi ha (by decide)) (hi_ne hKi hKw (by decide)) (hi_at hH hKi (by decide)) eI (fun I' h1 => by
    have g1 : et_H et_TT w.1 (eg_u w.2.2 ia (.inl (0, (11900, .inl I')))) := hi_uarr hH hKi (by decide) et_t47 (.inl rfl) (fun s hs i i1 i2 i3 => by
      rw [h1 i i3]
      exact hW s hs i i1 i2) (fun _ _ => hG.lo (fun i _ h => h1 i h))
    have g2 : et_fr hi_MI w.1 w.2.2 (eg_u w.2.2 ia (.inl (0, (11900, .inl I')))) := hi_frM hH hKi (by decide) (fun i hi => by
      rw [eI]
      show (if i < 11900 then some (Value.int (I' i)) else none) = (if i < 11900 then some (Value.int (I i)) else none)
      by_cases h : i < 11900
      · exfalso
        unfold et_mm hi_MI at hi
        simp at hi
        omega
      · rw [if_neg h, if_neg h])
    refine ⟨⟨_, List.mem_cons_self, w.1, et_ex.rf, g2.tr et_ex.rf (hi_fr g1 ha hKw ((hi_uc (hi_ne ha hKi (by decide))).trans eF) ((hi_uc (hi_ne hKw hKi (by decide))).trans eW) (fun i hi => ?_) (fun _ _ _ => rfl)), hi_fin g1 ha hKw (hi_set (hi_set hF hi_any) (hi_iv (by decide) (by decide))) (hi_setX (hi_setX hX (by decide) (by decide) (by decide)) (by decide) (by decide) (by decide)) hW hG, rfl, Nat.le_refl _, Nat.le_refl _⟩, hi_im g1 ha hKw⟩
    unfold et_mm hi_MI at hi
    simp at hi
    exact (if_neg (by omega)).trans (if_neg (by omega)))
  rw [← e] at h0
  exact h0

theorem hc_backM (hH : et_H et_TT w.1 w.2.2) (ha : w.1 am = some 13) (hg : pg_at w.2.2 am h) (h1 : h ≤ 1) : et_go none d2 176 0 (eg_en (eg_mL 176) [.ref am]) [] w.2.2 0 0 (fun u => hi_Z et_TT w hi_MB [(.inl (some (.inl (0, 1))), 0, 0)] u ∧ u.1 = .inl (some (.int (Int32.ofNat h)))) := by
  obtain ⟨F, W, aw, hA, eF, eW, hw, hKw, hF, hX, hW, hG, e⟩ := hi_mod hH ha
  obtain ⟨ia, hi, hKi⟩ := hi_ref (hF 2 _ rfl)
  obtain ⟨I, eI, hI, hIx⟩ := hi_arr hH hKi et_t47 (by decide) (.inl rfl)
  obtain ⟨ai, hai, hKa⟩ := hi_ref (hF 18 _ rfl)
  obtain ⟨IK, eA, hIK, -⟩ := hi_arr (kd := 3) (n := 4) hH hKa rfl (by decide) (.inr (.inr (.inl rfl)))
  have hh := hi_h3 eF hg
  have hcs : h = 0 ∨ h = 1 := by omega
  have n1 : am ≠ ai := hi_ne ha hKa (by decide)
  have n2 : aw ≠ ai := hi_ne hKw hKa (by decide)
  have hF2 : hi_F w.1 (updV F 0 (.int (Int32.ofNat 0))) := hi_set hF hi_any
  have hX2 : hi_X (updV F 0 (.int (Int32.ofNat 0))) := hi_setX hX (by decide) (by decide) (by decide)
  have hM0 : ∀ i, et_mm hi_MB 13 i = false → updV F 0 (.int (Int32.ofNat 0)) i = F i := fun i hi => by
    unfold et_mm hi_MB at hi
    simp at hi
    exact if_neg (by omega)
  rw [hi_mL176]
  have h0 := rp_back (d := d2) (Z := fun u => hi_Z et_TT w hi_MB [(.inl (some (.inl (0, 1))), 0, 0)] u ∧ u.1 = .inl (some (.int (Int32.ofNat h)))) hA hw hi hh (hi_ne hKi ha (by decide)) (hi_ne hKi hKw (by decide)) (hi_at hH hKi (by decide)) eI hai (hi_ne hKa ha (by decide)) (hi_ne hKa hKw (by decide)) (hi_at hH hKa (by decide)) eA
    (fun h0 => ⟨⟨_, List.mem_cons_self, w.1, et_ex.rf, hi_fr hH ha hKw eF eW hM0 (fun _ _ _ => rfl), hi_fin hH ha hKw hF2 hX2 hW hG, ⟨_, rfl, hi_iv (by decide) (by decide)⟩, Nat.le_refl _, Nat.le_refl _⟩, by rcases hcs with rfl | rfl <;> first | rfl | exact absurd h0 (by decide)⟩)
    (fun hn0 V K' h1 h2 h3 => by
    have g1 : et_H et_TT w.1 (eg_u w.2.2 ai (.inl (3, (4, .inl K')))) := hi_uarr (t := 25) (kd := 3) (n := 4) hH hKa (by decide) rfl (.inr (.inr (.inl rfl))) (fun s hs i i1 i2 i3 => by
      obtain rfl : s = (0, 3, .inl (0, 1)) := by simpa using hs
      show et_v w.1 (.inl (0, 1)) (.int (K' i))
      rcases h3 i with h3 | h3
      · rw [h3]; exact hIK _ List.mem_cons_self i (Nat.zero_le _) (by show i ≤ 3; omega) i3
      · rw [h3]; exact hi_iv (by decide) (by decide)) (fun h => absurd h (by decide))
    have g2 : et_fr hi_MB w.1 w.2.2 (eg_u w.2.2 ai (.inl (3, (4, .inl K')))) := hi_frM hH hKa (by decide) (fun i hi => by
      rw [eA]
      show (if i < 4 then eg_rd 3 (4, .inl K') i else none) = (if i < 4 then eg_rd 3 (4, .inl IK) i else none)
      by_cases h : i < 4
      · exfalso
        unfold et_mm hi_MB at hi
        simp at hi
        omega
      · rw [if_neg h, if_neg h])
    refine ⟨⟨_, List.mem_cons_self, w.1, et_ex.rf, g2.tr et_ex.rf (hi_fr g1 ha hKw ((hi_uc n1).trans eF) ((hi_uc n2).trans eW) hM0 (fun i i1 i2 => ?_)), hi_fin g1 ha hKw hF2 hX2 (fun s hs i i1 i2 => ?_) ((hIx rfl (.inr rfl) _ _ eI).lo (fun i _ h => h1 i h)), ⟨_, rfl, hi_iv (by decide) (by decide)⟩, Nat.le_refl _, Nat.le_refl _⟩, by rcases hcs with rfl | rfl <;> first | rfl | exact absurd rfl hn0⟩
    · unfold et_mm hi_MB at i2
      simp at i2
      omega
    · have := hi_w46 s hs
      rw [h1 i (by omega)]
      exact hI s hs i i1 i2 (by omega))
  rw [← e] at h0
  exact h0

theorem hc_imageX (hH : et_H et_TT K G) (hci : ci K G th) (hd : 3 ≤ d2) : et_go none d2 124 0 (eg_en (eg_mL 124) [.ref th]) [] G 0 0 (fun u => pv_Z im_M K G th u ∧ ph_at u.2.1 th 1) := by
  obtain ⟨s0, s1, ra0, ca0, rc0, ec0, cc0, ra1, ca1, rc1, ec1, cc1, hC⟩ := hci
  obtain ⟨d, rfl⟩ : ∃ d, d2 = d + 3 := ⟨d2 - 3, by omega⟩
  have hx0 : et_ex K K := et_ex.rf
  have hf : et_fr im_M K G G := et_fr.rf
  have hs0 := hC.2.1.1
  have hrc := hC.2.2.2.1.2.2.1.1
  have hec := hC.2.2.2.1.2.2.1.2.1
  have hcc := hC.2.2.2.1.2.2.1.2.2
  have hra := hC.2.2.2.1.2.1.1
  have hca := hC.2.2.2.1.2.1.2
  have k_th := hC.1
  have k_s0 := hC.2.2.2.1.1.1
  have k_ra0 := hC.2.2.2.1.1.2.1
  have k_ca0 := hC.2.2.2.1.1.2.2
  obtain ⟨hr4, he3, hc6⟩ := hC.2.2.2.1.2.2.2.1
  have h1s := hC.2.1.2
  have k_s1 := hC.2.2.2.2.1.1
  rw [show eg_mL 124 = 1 from by decide +kernel]
  show et_go none (d + 3) 124 0 [some (.ref th)] [] G 0 0 _
  refine hs_aload (i := 0) (p := 1) (by decide +kernel) rfl ?_
  refine ht_getr (T := et_TT) (t := 12) (ci := 10) (f := 1) (p := 4) (by decide +kernel) rfl rfl hH k_th (fun a1 k_a1 e1 => ?_)
  obtain rfl : s1 = a1 := Value.ref.inj (Option.some.inj (h1s.symm.trans e1))
  refine hs_aload (i := 0) (p := 5) (by decide +kernel) rfl ?_
  refine ht_getr (T := et_TT) (t := 12) (ci := 10) (f := 0) (p := 8) (by decide +kernel) rfl rfl hH k_th (fun a5 k_a5 e5 => ?_)
  obtain rfl : s0 = a5 := Value.ref.inj (Option.some.inj (hs0.symm.trans e5))
  have hfo := hf
  refine ht_callv (T := et_TT) (t := 10) (mi := 104) (na := 1) (ci := 8) (lk := 1) (lm := 3) (L0 := eg_en (eg_mL 104) [.ref s1, .ref s0]) (by decide +kernel) rfl hH k_s1 rfl rfl rfl rfl rfl (by rw [show eg_mL 104 = 3 from by decide +kernel]; first | done | rfl) ?_
  refine (hc_takeI (a := s1) (s := s0) hH hC.2.2.2.1 hC.2.2.2.2 hC.2.2.1 (by omega)).mono (fun u hu => tf_cb hu (fun K8 G8 x8 f8 hH hS1 hS0 => ?_))
  have hC : ci_O _ _ th s0 s1 ra0 ca0 rc0 ec0 cc0 ra1 ca1 rc0 ec0 cc0 := ⟨x8 _ _ hC.1, ⟨(f8.2 th 12 hC.1 0 rfl).trans hC.2.1.1, (f8.2 th 12 hC.1 1 rfl).trans hC.2.1.2⟩, hC.2.2.1, hS1, hS0⟩
  have hs0 := (f8.2 th 12 k_th 0 rfl).trans hs0
  have h1s := (f8.2 th 12 k_th 1 rfl).trans h1s
  have k_th := x8 _ _ k_th
  have k_s0 := x8 _ _ k_s0
  have k_ra0 := x8 _ _ k_ra0
  have k_ca0 := x8 _ _ k_ca0
  have k_s1 := x8 _ _ k_s1
  have hf := hf.tr hx0 (f8.wk (by decide +kernel))
  have hx0 := hx0.tr x8
  show et_go none _ 124 11 _ [] _ 0 0 _
  refine hs_aload (i := 0) (p := 12) (by decide +kernel) rfl ?_
  refine hs_k (x := Int32.ofNat 1) (p := 13) (by decide +kernel) ?_
  refine ht_put (M := [(12, 2, 2)]) (T := et_TT) (t := 12) (ci := 10) (f := 2) (p := 16) (ty := .boolean) (by decide +kernel) rfl rfl rfl (by decide +kernel) rfl (by decide +kernel) hH k_th (hi_nv (by omega) (by omega)) (fun G13 hH f13 e13 => ?_)
  have hC := hC.fr et_ex.rf f13 (by decide +kernel)
  have hs0 := (f13.2 th 12 k_th 0 rfl).trans hs0
  have h1s := (f13.2 th 12 k_th 1 rfl).trans h1s
  have hf := hf.tr hx0 (f13.wk (by decide +kernel))
  refine hs_vret (by decide +kernel) ?_
  exact ⟨⟨_, hx0, hf, hH, hC.i, rfl, rfl, rfl⟩, e13⟩
theorem hc_backX (hH : et_H et_TT K G) (hci : ci K G th) (hp : ph_at G th h) (hh1 : h ≤ 1) (hd : 3 ≤ d2) : et_go none d2 125 0 (eg_en (eg_mL 125) [.ref th]) [] G 0 0 (fun u => pr_Z im_M K G th [] 0 0 (fun _ => True) u ∧ u.1 = .inl (some (.int (Int32.ofNat h))) ∧ ph_at u.2.1 th h) := by
  obtain ⟨s0, s1, ra0, ca0, rc0, ec0, cc0, ra1, ca1, rc1, ec1, cc1, hC⟩ := hci
  obtain ⟨d, rfl⟩ : ∃ d, d2 = d + 3 := ⟨d2 - 3, by omega⟩
  have hx0 : et_ex K K := et_ex.rf
  have hf : et_fr im_M K G G := et_fr.rf
  have hs0 := hC.2.1.1
  have hrc := hC.2.2.2.1.2.2.1.1
  have hec := hC.2.2.2.1.2.2.1.2.1
  have hcc := hC.2.2.2.1.2.2.1.2.2
  have hra := hC.2.2.2.1.2.1.1
  have hca := hC.2.2.2.1.2.1.2
  have k_th := hC.1
  have k_s0 := hC.2.2.2.1.1.1
  have k_ra0 := hC.2.2.2.1.1.2.1
  have k_ca0 := hC.2.2.2.1.1.2.2
  obtain ⟨hr4, he3, hc6⟩ := hC.2.2.2.1.2.2.2.1
  have h1s := hC.2.1.2
  have k_s1 := hC.2.2.2.2.1.1
  rw [show eg_mL 125 = 1 from by decide +kernel]
  show et_go none (d + 3) 125 0 [some (.ref th)] [] G 0 0 _
  refine hs_aload (i := 0) (p := 1) (by decide +kernel) rfl ?_
  refine ht_getn (T := et_TT) (t := 12) (ci := 10) (f := 2) (p := 4) (by decide +kernel) rfl rfl hH k_th (fun c1 h1 e1 => ?_)
  obtain rfl : h = c1 := hb_cc hp e1 (by omega) (by omega)
  refine hs_br1 (c := .ne) (t := 9) (f := 7) (by decide +kernel) (fun (c4 : ¬ Int32.ofNat h = 0) => ?_) (fun (c4 : ¬ (¬ Int32.ofNat h = 0)) => ?_)
  · have hone : h = 1 := hi_b1 hh1 c4
    refine hs_aload (i := 0) (p := 10) (by decide +kernel) rfl ?_
    have hfo := hf
    refine ht_callv (T := et_TT) (t := 12) (mi := 120) (na := 0) (ci := 10) (lk := 1) (lm := 1) (L0 := eg_en (eg_mL 120) [.ref th]) (by decide +kernel) rfl hH k_th rfl rfl rfl rfl rfl (by rw [show eg_mL 120 = 1 from by decide +kernel]; first | done | rfl) ?_
    refine (hc_fgt (K, [], G) [.ref th] _ hH (by omega) rfl (ht_ac (.inr ⟨by decide, _, rfl, k_th⟩) ht_an)).mono (fun u hu => hs_cbn hu (fun K10 G10 c10 s10 x10 f10 hH cl10 sl10 => ?_))
    have hC := hC.fr x10 f10 (by decide +kernel)
    have hs0 := (f10.2 th 12 k_th 0 rfl).trans hs0
    have h1s := (f10.2 th 12 k_th 1 rfl).trans h1s
    have hp := (f10.2 th 12 k_th 2 rfl).trans hp
    have k_th := x10 _ _ k_th
    have k_s0 := x10 _ _ k_s0
    have k_ra0 := x10 _ _ k_ra0
    have k_ca0 := x10 _ _ k_ca0
    have k_s1 := x10 _ _ k_s1
    have hf := hf.tr hx0 (f10.wk (by decide +kernel))
    have hx0 := hx0.tr x10
    obtain rfl : c10 = 0 := Nat.le_zero.mp cl10
    obtain rfl : s10 = 0 := Nat.le_zero.mp sl10
    show et_go none _ 125 13 _ [] _ 0 0 _
    refine hs_aload (i := 0) (p := 14) (by decide +kernel) rfl ?_
    refine ht_getr (T := et_TT) (t := 12) (ci := 10) (f := 0) (p := 17) (by decide +kernel) rfl rfl hH k_th (fun a14 k_a14 e14 => ?_)
    obtain rfl : s0 = a14 := Value.ref.inj (Option.some.inj (hs0.symm.trans e14))
    refine hs_aload (i := 0) (p := 18) (by decide +kernel) rfl ?_
    refine ht_getr (T := et_TT) (t := 12) (ci := 10) (f := 1) (p := 21) (by decide +kernel) rfl rfl hH k_th (fun a18 k_a18 e18 => ?_)
    obtain rfl : s1 = a18 := Value.ref.inj (Option.some.inj (h1s.symm.trans e18))
    have hfo := hf
    refine ht_callv (T := et_TT) (t := 10) (mi := 104) (na := 1) (ci := 8) (lk := 1) (lm := 3) (L0 := eg_en (eg_mL 104) [.ref s0, .ref s1]) (by decide +kernel) rfl hH k_s0 rfl rfl rfl rfl rfl (by rw [show eg_mL 104 = 3 from by decide +kernel]; first | done | rfl) ?_
    refine (hc_takeI (a := s0) (s := s1) hH hC.2.2.2.2 hC.2.2.2.1 ⟨fun e => hC.2.2.1.1 e.symm, fun e => hC.2.2.1.2.1 e.symm, fun e => hC.2.2.1.2.2 e.symm⟩ (by omega)).mono (fun u hu => tf_cb hu (fun K21 G21 x21 f21 hH hS1 hS0 => ?_))
    have hC : ci_O _ _ th s0 s1 ra0 ca0 rc1 ec1 cc1 ra1 ca1 rc1 ec1 cc1 := ⟨x21 _ _ hC.1, ⟨(f21.2 th 12 hC.1 0 rfl).trans hC.2.1.1, (f21.2 th 12 hC.1 1 rfl).trans hC.2.1.2⟩, hC.2.2.1, hS0, hS1⟩
    have hs0 := (f21.2 th 12 k_th 0 rfl).trans hs0
    have h1s := (f21.2 th 12 k_th 1 rfl).trans h1s
    have hp := (f21.2 th 12 k_th 2 rfl).trans hp
    have k_th := x21 _ _ k_th
    have k_s0 := x21 _ _ k_s0
    have k_ra0 := x21 _ _ k_ra0
    have k_ca0 := x21 _ _ k_ca0
    have k_s1 := x21 _ _ k_s1
    have hf := hf.tr hx0 (f21.wk (by decide +kernel))
    have hx0 := hx0.tr x21
    show et_go none _ 125 24 _ [] _ 0 0 _
    refine hs_k (x := Int32.ofNat 1) (p := 25) (by decide +kernel) ?_
    refine hs_zret (by decide +kernel) (.inr rfl) ?_
    obtain rfl : h = 1 := by omega
    exact ⟨⟨_, hx0, hf, hH, hC.i, trivial, .inl ⟨_, rfl⟩, (by dsimp only; omega), (by dsimp only; omega)⟩, rfl, hp⟩
  · have hzero : h = 0 := hi_b0 hh1 c4
    refine hs_k (x := Int32.ofNat 0) (p := 8) (by decide +kernel) ?_
    refine hs_zret (by decide +kernel) (.inl rfl) ?_
    obtain rfl : h = 0 := by omega
    exact ⟨⟨_, hx0, hf, hH, hC.i, trivial, .inl ⟨_, rfl⟩, (by dsimp only; omega), (by dsimp only; omega)⟩, rfl, hp⟩
end PPN
section LSE
variable {T : List et_D} {M : et_M} {sc : eg_Sc} {d k pc ck sk : Nat} {L : eg_Ls} {st r : List Value} {G : eg_G} {Z : eg_O → Prop} {w : et_Wd} {u : eg_O} {c s : Nat} {P : eg_G → Prop} {K : et_K} {th : Nat} {v : Value}
theorem ls_cbw2 (hu : pv_Z M K G th u ∧ P u.2.1) (h : ∀ (K' : et_K) (G' : eg_G), et_ex K K' → et_fr M K G G' → et_H et_TT K' G' → ci K' G' th → P G' → et_go sc d k (pc + 3) L r G' ck sk Z) : ls_cont sc d k pc L r ck sk Z u := by
  obtain ⟨⟨K', h1, h2, h3, h4, e, h7, h8⟩, hP⟩ := hu
  obtain ⟨u1, u2, u3, u4⟩ := u
  have e : u1 = .inl none := e
  have h7 : u3 = 0 := h7
  have h8 : u4 = 0 := h8
  subst e h7 h8
  exact ls_cb (h K' u2 h1 h2 h3 h4 hP)
theorem ls_cbn2 (hu : hi_Z T w M [(.inl none, c, s)] u ∧ P u.2.1) (h : ∀ (K' : et_K) (G' : eg_G) (c' s' : Nat), et_ex w.1 K' → et_fr M w.1 w.2.2 G' → et_H T K' G' → c' ≤ c → s' ≤ s → P G' → et_go sc d k (pc + 3) L r G' (ck + c') (sk + s') Z) : ls_cont sc d k pc L r ck sk Z u := by
  obtain ⟨⟨e, he, K', h1, h2, h3, h4, h5, h6⟩, hP⟩ := hu
  obtain rfl := List.mem_singleton.mp he
  obtain ⟨u1, u2, u3, u4⟩ := u
  have h4 : u1 = .inl none := h4
  subst h4
  exact ls_cb (h K' u2 u3 u4 h1 h2 h3 h5 h6 hP)
theorem ls_cbr2 {Q : eg_G → Prop} (hu : pr_Z M K G th [] 0 0 Q u ∧ u.1 = .inl (some v) ∧ P u.2.1) (h : ∀ (K' : et_K) (G' : eg_G), et_ex K K' → et_fr M K G G' → et_H et_TT K' G' → ci K' G' th → P G' → et_go sc d k (pc + 3) L (v :: r) G' ck sk Z) : ls_cont sc d k pc L r ck sk Z u := by
  obtain ⟨⟨K', h1, h2, h3, h4, -, -, h7, h8⟩, e, hP⟩ := hu
  obtain ⟨u1, u2, u3, u4⟩ := u
  have e : u1 = .inl (some v) := e
  have h7 : u3 ≤ 0 := h7
  have h8 : u4 ≤ 0 := h8
  obtain rfl : u3 = 0 := Nat.le_zero.mp h7
  obtain rfl : u4 = 0 := Nat.le_zero.mp h8
  subst e
  exact ls_cb (h K' u2 h1 h2 h3 h4 hP)
theorem ls_cbv2 {q : et_P} (hu : hi_Z T w M [(.inl (some q), 0, 0)] u ∧ u.1 = .inl (some v)) (h : ∀ (K' : et_K) (G' : eg_G), et_ex w.1 K' → et_fr M w.1 w.2.2 G' → et_H T K' G' → et_go sc d k (pc + 3) L (v :: r) G' ck sk Z) : ls_cont sc d k pc L r ck sk Z u := by
  obtain ⟨⟨e, he, K', h1, h2, h3, h4, h5, h6⟩, e1⟩ := hu
  obtain rfl := List.mem_singleton.mp he
  obtain ⟨u1, u2, u3, u4⟩ := u
  have e1 : u1 = .inl (some v) := e1
  have h5 : u3 ≤ 0 := h5
  have h6 : u4 ≤ 0 := h6
  obtain rfl : u3 = 0 := Nat.le_zero.mp h5
  obtain rfl : u4 = 0 := Nat.le_zero.mp h6
  subst e1
  exact ls_cb (h K' u2 h1 h2 h3)
end LSE
