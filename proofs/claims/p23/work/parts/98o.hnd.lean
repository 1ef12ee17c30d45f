/-! BY HAND: image, back; isTrueNow, count without a throw -/
section ITA
variable {K K' : et_K} {G G' : eg_G} {M : et_M} {d k pc ck sk th s0 s1 ra0 ca0 rc0 ec0 cc0 ra1 ca1 rc1 ec1 cc1 : Nat} {L : eg_Ls} {r : List Value} {Z : eg_O → Prop} {u : eg_O}
theorem hi_z01 {n : Nat} (h : n ≤ 1) : Int32.ofNat n = 0 ∨ Int32.ofNat n = 1 := by
  have h : n = 0 ∨ n = 1 := by omega
  rcases h with rfl | rfl
  · exact .inl rfl
  · exact .inr rfl
def it_Z (K : et_K) (G : eg_G) (th s0 s1 ra0 ca0 rc0 ec0 cc0 ra1 ca1 rc1 ec1 cc1 : Nat) (u : eg_O) : Prop := ∃ (K' : et_K) (n : Nat), u.1 = .inl (some (.int (Int32.ofNat n))) ∧ n ≤ 1 ∧ et_ex K K' ∧ et_fr ct_M K G u.2.1 ∧ et_H et_TT K' u.2.1 ∧ ci_O K' u.2.1 th s0 s1 ra0 ca0 rc0 ec0 cc0 ra1 ca1 rc1 ec1 cc1 ∧ u.2.2.1 ≤ 1 ∧ u.2.2.2 ≤ 1024
theorem it_cb (hu : it_Z K G th s0 s1 ra0 ca0 rc0 ec0 cc0 ra1 ca1 rc1 ec1 cc1 u) (h : ∀ (K' : et_K) (G' : eg_G) (n c s : Nat), et_ex K K' → et_fr ct_M K G G' → et_H et_TT K' G' → ci_O K' G' th s0 s1 ra0 ca0 rc0 ec0 cc0 ra1 ca1 rc1 ec1 cc1 → n ≤ 1 → c ≤ 1 → s ≤ 1024 → et_go none d k (pc + 3) L (.int (Int32.ofNat n) :: r) G' (ck + c) (sk + s) Z) : hs_cont d k pc L r ck sk Z u := by
  obtain ⟨K', n, e, hn, h1, h2, h3, h4, h5, h6⟩ := hu
  obtain ⟨u1, u2, u3, u4⟩ := u
  have e : u1 = .inl (some (.int (Int32.ofNat n))) := e
  subst e
  exact hs_cb (h K' u2 n u3 u4 h1 h2 h3 h4 hn h5 h6)
/-- how a call ends that keeps it and answers nothing -/
def pv_Z (M : et_M) (K : et_K) (G : eg_G) (th : Nat) (u : eg_O) : Prop := ∃ K' : et_K, et_ex K K' ∧ et_fr M K G u.2.1 ∧ et_H et_TT K' u.2.1 ∧ ci K' u.2.1 th ∧ u.1 = .inl none ∧ u.2.2.1 = 0 ∧ u.2.2.2 = 0
theorem pr_of {lo hi : Int} {c s : Nat} (hu : hi_Z et_TT (K, [], G) M [(.inl (some (.inl (lo, hi))), c, s)] u) (hc : ci K G th) (hM : ci_k M = true) : pr_Z M K G th [] c s (fun _ => True) u := by
  obtain ⟨e, he, K', h1, h2, h3, h4, h5, h6⟩ := hu
  obtain rfl := List.mem_singleton.mp he
  obtain ⟨v, hv1, n, hv2, -⟩ := h4
  exact ⟨K', h1, h2, h3, hc.fr h1 h2 hM, trivial, .inl ⟨n, by rw [hv1, hv2]⟩, h5, h6⟩
end ITA
def hq_fgt : et_Co := (120, [.inr (.inr (0, 12))], [(12, 6, 6), (12, 7, 7)], [(.inl none, 0, 0)], 1)
theorem hc_fgt : et_cv et_TT hq_fgt := et_cok_ok (Ks := []) (an := an_no) (fun _ h => absurd h List.not_mem_nil) (by decide +kernel)
def hq_ctn (lo hi : Int) : et_Co := (126, [.inr (.inr (0, 12)), .inl (lo, hi)], ct_M, [(.inl (some (.inl (et_mn, et_mx))), 6, 6144)], 36)
theorem hc_ctnA : et_cv et_TT (hq_ctn et_mn 5) := et_cok_ok (Ks := []) (an := ct_an) (fun _ h => absurd h List.not_mem_nil) (by decide +kernel)
theorem hc_ctnC : et_cv et_TT (hq_ctn 7 et_mx) := et_cok_ok (Ks := []) (an := ct_an) (fun _ h => absurd h List.not_mem_nil) (by decide +kernel)
def im_M : et_M := (12, 2, 2) :: (12, 6, 6) :: (12, 7, 7) :: tf_M

section PPL
variable {w : et_Wd} {K K0 : et_K} {G G0 : eg_G} {d2 d th cl e q s0 s1 ra0 ca0 rc0 ec0 cc0 ra1 ca1 rc1 ec1 cc1 : Nat} {x pl n : Int32}
theorem hc_imageI (hH : et_H et_TT K G) (hci : ci K G th) (hd : 3 ≤ d2) : et_go none d2 124 0 (eg_en (eg_mL 124) [.ref th]) [] G 0 0 (pv_Z im_M K G th) := by
  obtain ⟨s0, s1, ra0, ca0, rc0, ec0, cc0, ra1, ca1, rc1, ec1, cc1, hC⟩ := hci
  obtain ⟨d, rfl⟩ : ∃ d, d2 = d + 3 := ⟨d2 - 3, by omega⟩
  have hx0 : et_ex K K := et_ex.rf
  have hf : et_fr im_M K G G := et_fr.rf
  have hs0 := hC.2.1.1
  have hrc := hC.2.2.2.1.2.2.1.1
  have hec := hC.2.2.2.1.2.2.1.2.1
  have hcc := hC.2.2.2.1.2.2.1.2.2
  have hra := hC.2.2.2.1.2.1.1
  have hca := hC.2.2.2.1.2.1.2
  have k_th := hC.1
  have k_s0 := hC.2.2.2.1.1.1
  have k_ra0 := hC.2.2.2.1.1.2.1
  have k_ca0 := hC.2.2.2.1.1.2.2
  obtain ⟨hr4, he3, hc6⟩ := hC.2.2.2.1.2.2.2.1
  have h1s := hC.2.1.2
  have k_s1 := hC.2.2.2.2.1.1
  rw [show eg_mL 124 = 1 from by decide +kernel]
  show et_go none (d + 3) 124 0 [some (.ref th)] [] G 0 0 _
  refine hs_aload (i := 0) (p := 1) (by decide +kernel) rfl ?_
  refine ht_getr (T := et_TT) (t := 12) (ci := 10) (f := 1) (p := 4) (by decide +kernel) rfl rfl hH k_th (fun a1 k_a1 e1 => ?_)
  obtain rfl : s1 = a1 := Value.ref.inj (Option.some.inj (h1s.symm.trans e1))
  refine hs_aload (i := 0) (p := 5) (by decide +kernel) rfl ?_
  refine ht_getr (T := et_TT) (t := 12) (ci := 10) (f := 0) (p := 8) (by decide +kernel) rfl rfl hH k_th (fun a5 k_a5 e5 => ?_)
  obtain rfl : s0 = a5 := Value.ref.inj (Option.some.inj (hs0.symm.trans e5))
  have hfo := hf
  refine ht_callv (T := et_TT) (t := 10) (mi := 104) (na := 1) (ci := 8) (lk := 1) (lm := 3) (L0 := eg_en (eg_mL 104) [.ref s1, .ref s0]) (by decide +kernel) rfl hH k_s1 rfl rfl rfl rfl rfl (by rw [show eg_mL 104 = 3 from by decide +kernel]; first | done | rfl) ?_
  refine (hc_takeI (a := s1) (s := s0) hH hC.2.2.2.1 hC.2.2.2.2 hC.2.2.1 (by omega)).mono (fun u hu => tf_cb hu (fun K8 G8 x8 f8 hH hS1 hS0 => ?_))
  have hC : ci_O _ _ th s0 s1 ra0 ca0 rc0 ec0 cc0 ra1 ca1 rc0 ec0 cc0 := ⟨x8 _ _ hC.1, ⟨(f8.2 th 12 hC.1 0 rfl).trans hC.2.1.1, (f8.2 th 12 hC.1 1 rfl).trans hC.2.1.2⟩, hC.2.2.1, hS1, hS0⟩
  have hs0 := (f8.2 th 12 k_th 0 rfl).trans hs0
  have h1s := (f8.2 th 12 k_th 1 rfl).trans h1s
  have k_th := x8 _ _ k_th
  have k_s0 := x8 _ _ k_s0
  have k_ra0 := x8 _ _ k_ra0
  have k_ca0 := x8 _ _ k_ca0
  have k_s1 := x8 _ _ k_s1
  have hf := hf.tr hx0 (f8.wk (by decide +kernel))
  have hx0 := hx0.tr x8
  show et_go none _ 124 11 _ [] _ 0 0 _
  refine hs_aload (i := 0) (p := 12) (by decide +kernel) rfl ?_
  refine hs_k (x := Int32.ofNat 1) (p := 13) (by decide +kernel) ?_
  refine ht_put (M := [(12, 2, 2)]) (T := et_TT) (t := 12) (ci := 10) (f := 2) (p := 16) (ty := .boolean) (by decide +kernel) rfl rfl rfl (by decide +kernel) rfl (by decide +kernel) hH k_th (hi_nv (by omega) (by omega)) (fun G13 hH f13 e13 => ?_)
  have hC := hC.fr et_ex.rf f13 (by decide +kernel)
  have hs0 := (f13.2 th 12 k_th 0 rfl).trans hs0
  have h1s := (f13.2 th 12 k_th 1 rfl).trans h1s
  have hf := hf.tr hx0 (f13.wk (by decide +kernel))
  refine hs_vret (by decide +kernel) ?_
  exact ⟨_, hx0, hf, hH, hC.i, rfl, rfl, rfl⟩
theorem hc_backI (hH : et_H et_TT K G) (hci : ci K G th) (hd : 3 ≤ d2) : et_go none d2 125 0 (eg_en (eg_mL 125) [.ref th]) [] G 0 0 (pr_Z im_M K G th [] 0 0 (fun _ => True)) := by
  obtain ⟨s0, s1, ra0, ca0, rc0, ec0, cc0, ra1, ca1, rc1, ec1, cc1, hC⟩ := hci
  obtain ⟨d, rfl⟩ : ∃ d, d2 = d + 3 := ⟨d2 - 3, by omega⟩
  have hx0 : et_ex K K := et_ex.rf
  have hf : et_fr im_M K G G := et_fr.rf
  have hs0 := hC.2.1.1
  have hrc := hC.2.2.2.1.2.2.1.1
  have hec := hC.2.2.2.1.2.2.1.2.1
  have hcc := hC.2.2.2.1.2.2.1.2.2
  have hra := hC.2.2.2.1.2.1.1
  have hca := hC.2.2.2.1.2.1.2
  have k_th := hC.1
  have k_s0 := hC.2.2.2.1.1.1
  have k_ra0 := hC.2.2.2.1.1.2.1
  have k_ca0 := hC.2.2.2.1.1.2.2
  obtain ⟨hr4, he3, hc6⟩ := hC.2.2.2.1.2.2.2.1
  have h1s := hC.2.1.2
  have k_s1 := hC.2.2.2.2.1.1
  rw [show eg_mL 125 = 1 from by decide +kernel]
  show et_go none (d + 3) 125 0 [some (.ref th)] [] G 0 0 _
  refine hs_aload (i := 0) (p := 1) (by decide +kernel) rfl ?_
  refine ht_getn (T := et_TT) (t := 12) (ci := 10) (f := 2) (p := 4) (by decide +kernel) rfl rfl hH k_th (fun c1 h1 e1 => ?_)
  refine hs_br1 (c := .ne) (t := 9) (f := 7) (by decide +kernel) (fun (c4 : ¬ Int32.ofNat c1 = 0) => ?_) (fun (c4 : ¬ (¬ Int32.ofNat c1 = 0)) => ?_)
  · refine hs_aload (i := 0) (p := 10) (by decide +kernel) rfl ?_
    have hfo := hf
    refine ht_callv (T := et_TT) (t := 12) (mi := 120) (na := 0) (ci := 10) (lk := 1) (lm := 1) (L0 := eg_en (eg_mL 120) [.ref th]) (by decide +kernel) rfl hH k_th rfl rfl rfl rfl rfl (by rw [show eg_mL 120 = 1 from by decide +kernel]; first | done | rfl) ?_
    refine (hc_fgt (K, [], G) [.ref th] _ hH (by omega) rfl (ht_ac (.inr ⟨by decide, _, rfl, k_th⟩) ht_an)).mono (fun u hu => hs_cbn hu (fun K10 G10 c10 s10 x10 f10 hH cl10 sl10 => ?_))
    have hC := hC.fr x10 f10 (by decide +kernel)
    have hs0 := (f10.2 th 12 k_th 0 rfl).trans hs0
    have h1s := (f10.2 th 12 k_th 1 rfl).trans h1s
    have k_th := x10 _ _ k_th
    have k_s0 := x10 _ _ k_s0
    have k_ra0 := x10 _ _ k_ra0
    have k_ca0 := x10 _ _ k_ca0
    have k_s1 := x10 _ _ k_s1
    have hf := hf.tr hx0 (f10.wk (by decide +kernel))
    have hx0 := hx0.tr x10
    obtain rfl : c10 = 0 := Nat.le_zero.mp cl10
    obtain rfl : s10 = 0 := Nat.le_zero.mp sl10
    show et_go none _ 125 13 _ [] _ 0 0 _
    refine hs_aload (i := 0) (p := 14) (by decide +kernel) rfl ?_
    refine ht_getr (T := et_TT) (t := 12) (ci := 10) (f := 0) (p := 17) (by decide +kernel) rfl rfl hH k_th (fun a14 k_a14 e14 => ?_)
    obtain rfl : s0 = a14 := Value.ref.inj (Option.some.inj (hs0.symm.trans e14))
    refine hs_aload (i := 0) (p := 18) (by decide +kernel) rfl ?_
    refine ht_getr (T := et_TT) (t := 12) (ci := 10) (f := 1) (p := 21) (by decide +kernel) rfl rfl hH k_th (fun a18 k_a18 e18 => ?_)
    obtain rfl : s1 = a18 := Value.ref.inj (Option.some.inj (h1s.symm.trans e18))
    have hfo := hf
    refine ht_callv (T := et_TT) (t := 10) (mi := 104) (na := 1) (ci := 8) (lk := 1) (lm := 3) (L0 := eg_en (eg_mL 104) [.ref s0, .ref s1]) (by decide +kernel) rfl hH k_s0 rfl rfl rfl rfl rfl (by rw [show eg_mL 104 = 3 from by decide +kernel]; first | done | rfl) ?_
    refine (hc_takeI (a := s0) (s := s1) hH hC.2.2.2.2 hC.2.2.2.1 ⟨fun e => hC.2.2.1.1 e.symm, fun e => hC.2.2.1.2.1 e.symm, fun e => hC.2.2.1.2.2 e.symm⟩ (by omega)).mono (fun u hu => tf_cb hu (fun K21 G21 x21 f21 hH hS1 hS0 => ?_))
    have hC : ci_O _ _ th s0 s1 ra0 ca0 rc1 ec1 cc1 ra1 ca1 rc1 ec1 cc1 := ⟨x21 _ _ hC.1, ⟨(f21.2 th 12 hC.1 0 rfl).trans hC.2.1.1, (f21.2 th 12 hC.1 1 rfl).trans hC.2.1.2⟩, hC.2.2.1, hS0, hS1⟩
    have hs0 := (f21.2 th 12 k_th 0 rfl).trans hs0
    have h1s := (f21.2 th 12 k_th 1 rfl).trans h1s
    have k_th := x21 _ _ k_th
    have k_s0 := x21 _ _ k_s0
    have k_ra0 := x21 _ _ k_ra0
    have k_ca0 := x21 _ _ k_ca0
    have k_s1 := x21 _ _ k_s1
    have hf := hf.tr hx0 (f21.wk (by decide +kernel))
    have hx0 := hx0.tr x21
    show et_go none _ 125 24 _ [] _ 0 0 _
    refine hs_k (x := Int32.ofNat 1) (p := 25) (by decide +kernel) ?_
    refine hs_zret (by decide +kernel) (.inr rfl) ?_
    exact ⟨_, hx0, hf, hH, hC.i, trivial, .inl ⟨_, rfl⟩, (by dsimp only; omega), (by dsimp only; omega)⟩
  · refine hs_k (x := Int32.ofNat 0) (p := 8) (by decide +kernel) ?_
    refine hs_zret (by decide +kernel) (.inl rfl) ?_
    exact ⟨_, hx0, hf, hH, hC.i, trivial, .inl ⟨_, rfl⟩, (by dsimp only; omega), (by dsimp only; omega)⟩
theorem hc_itn (hH : et_H et_TT K G) (hC : ci_O K G th s0 s1 ra0 ca0 rc0 ec0 cc0 ra1 ca1 rc1 ec1 cc1) (k_cl : K cl = some 2) (hce : et_pl (eg_at G cl) 1 = some (.int (Int32.ofNat e))) (hcr : et_pl (eg_at G cl) 2 = some (.int (Int32.ofNat q))) (hE : e < ec0) (hR : q < rc0) (hd : 34 ≤ d2) : et_go none d2 127 0 (eg_en (eg_mL 127) [.ref th, .ref cl]) [] G 0 0 (it_Z K G th s0 s1 ra0 ca0 rc0 ec0 cc0 ra1 ca1 rc1 ec1 cc1) := by
  obtain ⟨d, rfl⟩ : ∃ d, d2 = d + 34 := ⟨d2 - 34, by omega⟩
  have hx0 : et_ex K K := et_ex.rf
  have hf : et_fr ct_M K G G := et_fr.rf
  have hs0 := hC.2.1.1
  have hrc := hC.2.2.2.1.2.2.1.1
  have hec := hC.2.2.2.1.2.2.1.2.1
  have hcc := hC.2.2.2.1.2.2.1.2.2
  have hra := hC.2.2.2.1.2.1.1
  have hca := hC.2.2.2.1.2.1.2
  have k_th := hC.1
  have k_s0 := hC.2.2.2.1.1.1
  have k_ra0 := hC.2.2.2.1.1.2.1
  have k_ca0 := hC.2.2.2.1.1.2.2
  obtain ⟨hr4, he3, hc6⟩ := hC.2.2.2.1.2.2.2.1
  have h1s := hC.2.1.2
  have k_s1 := hC.2.2.2.2.1.1
  rw [show eg_mL 127 = 4 from by decide +kernel]
  show et_go none (d + 34) 127 0 [some (.ref th), some (.ref cl), none, none] [] G 0 0 _
  refine hs_aload (i := 0) (p := 1) (by decide +kernel) rfl ?_
  refine hs_aload (i := 1) (p := 2) (by decide +kernel) rfl ?_
  refine ht_geti (T := et_TT) (t := 2) (ci := 0) (f := 1) (p := 5) (by decide +kernel) rfl rfl hH k_cl (fun c2 h2 g2 e2 => ?_)
  obtain rfl : Int32.ofNat e = c2 := Value.int.inj (Option.some.inj (hce.symm.trans e2))
  have hfo := hf
  refine ht_callv (T := et_TT) (t := 12) (mi := 128) (na := 1) (ci := 10) (lk := 4) (lm := 2) (L0 := eg_en (eg_mL 128) [.ref th, .int (Int32.ofNat e)]) (by decide +kernel) rfl hH k_th rfl rfl rfl rfl rfl (by rw [show eg_mL 128 = 2 from by decide +kernel]; first | done | rfl) ?_
  refine (hc_nE hH hC).mono (fun u hu => pn_cb (by decide +kernel) hu (fun K5 G5 v5 x5 f5 hH hA hQ5 => ?_) (fun K5 G5 x5 f5 hH hQ => absurd ⟨e, hE, rfl⟩ hQ))
  have hC := hC.fr x5 f5 (by decide +kernel)
  have hs0 := (f5.2 th 12 k_th 0 rfl).trans hs0
  have hrc := (f5.2 s0 10 k_s0 0 rfl).trans hrc
  have hec := (f5.2 s0 10 k_s0 5 rfl).trans hec
  have hcc := (f5.2 s0 10 k_s0 9 rfl).trans hcc
  have hra := (f5.2 s0 10 k_s0 1 rfl).trans hra
  have hca := (f5.2 s0 10 k_s0 10 rfl).trans hca
  have hce := (f5.2 cl 2 k_cl 1 rfl).trans hce
  have hcr := (f5.2 cl 2 k_cl 2 rfl).trans hcr
  have k_th := x5 _ _ k_th
  have k_s0 := x5 _ _ k_s0
  have k_ra0 := x5 _ _ k_ra0
  have k_ca0 := x5 _ _ k_ca0
  have k_s1 := x5 _ _ k_s1
  have k_cl := x5 _ _ k_cl
  have hf := hf.tr hx0 (f5.wk (by decide +kernel))
  have hx0 := hx0.tr x5
  obtain ⟨b5, rfl, k_b5⟩ := hA
  show et_go none _ 127 8 _ [.ref b5] _ 0 0 _
  refine hs_astore (i := 2) (p := 9) (by decide +kernel) (Nat.le_of_ble_eq_true rfl) ?_
  refine hs_aload (i := 1) (p := 10) (by decide +kernel) rfl ?_
  refine ht_getn (T := et_TT) (t := 2) (ci := 0) (f := 3) (p := 13) (by decide +kernel) rfl rfl hH k_cl (fun c10 h10 e10 => ?_)
  refine hs_br1 (c := .eq) (t := 37) (f := 16) (by decide +kernel) (fun (c13 : Int32.ofNat c10 = 0) => ?_) (fun (c13 : ¬ (Int32.ofNat c10 = 0)) => ?_)
  · refine hs_k (x := Int32.ofNat 0) (p := 38) (by decide +kernel) ?_
    refine hs_istore (i := 3) (p := 39) (by decide +kernel) (Nat.le_of_ble_eq_true rfl) ?_
    refine hs_aload (i := 0) (p := 40) (by decide +kernel) rfl ?_
    refine ht_getr (T := et_TT) (t := 12) (ci := 10) (f := 4) (p := 43) (by decide +kernel) rfl rfl hH k_th (fun a40 k_a40 e40 => ?_)
    refine hs_iload (i := 3) (p := 44) (by decide +kernel) rfl ?_
    refine ht_put (M := [(4, 9, 9)]) (T := et_TT) (t := 4) (ci := 2) (f := 9) (p := 47) (ty := .int) (by decide +kernel) rfl rfl rfl rfl rfl (by decide +kernel) hH k_a40 hi_any (fun G44 hH f44 e44 => ?_)
    have hC := hC.fr et_ex.rf f44 (by decide +kernel)
    have hs0 := (f44.2 th 12 k_th 0 rfl).trans hs0
    have hrc := (f44.2 s0 10 k_s0 0 rfl).trans hrc
    have hec := (f44.2 s0 10 k_s0 5 rfl).trans hec
    have hcc := (f44.2 s0 10 k_s0 9 rfl).trans hcc
    have hra := (f44.2 s0 10 k_s0 1 rfl).trans hra
    have hca := (f44.2 s0 10 k_s0 10 rfl).trans hca
    have hce := (f44.2 cl 2 k_cl 1 rfl).trans hce
    have hcr := (f44.2 cl 2 k_cl 2 rfl).trans hcr
    have hf := hf.tr hx0 (f44.wk (by decide +kernel))
    refine hs_aload (i := 0) (p := 48) (by decide +kernel) rfl ?_
    refine ht_getr (T := et_TT) (t := 12) (ci := 10) (f := 4) (p := 51) (by decide +kernel) rfl rfl hH k_th (fun a48 k_a48 e48 => ?_)
    refine hs_aload (i := 0) (p := 52) (by decide +kernel) rfl ?_
    refine ht_getr (T := et_TT) (t := 12) (ci := 10) (f := 0) (p := 55) (by decide +kernel) rfl rfl hH k_th (fun a52 k_a52 e52 => ?_)
    obtain rfl : s0 = a52 := Value.ref.inj (Option.some.inj (hs0.symm.trans e52))
    refine hs_aload (i := 2) (p := 56) (by decide +kernel) rfl ?_
    have hfo := hf
    refine ht_callv (T := et_TT) (t := 10) (mi := 106) (na := 1) (ci := 8) (lk := 4) (lm := 4) (L0 := eg_en (eg_mL 106) [.ref s0, .ref b5]) (by decide +kernel) rfl hH k_s0 rfl rfl rfl rfl rfl (by rw [show eg_mL 106 = 4 from by decide +kernel]; first | done | rfl) ?_
    refine (ek_c9 (K5, [], G44) [.ref s0, .ref b5] _ hH (by omega) rfl (ht_ac (.inr ⟨by decide, _, rfl, k_s0⟩) (ht_ac (.inr ⟨by decide, _, rfl, k_b5⟩) ht_an))).mono (fun u hu => hs_cbv hu (fun v56 K56 G56 c56 s56 x56 f56 hH hv56 cl56 sl56 => ?_))
    have hC := hC.fr x56 f56 (by decide +kernel)
    have hs0 := (f56.2 th 12 k_th 0 rfl).trans hs0
    have hrc := (f56.2 s0 10 k_s0 0 rfl).trans hrc
    have hec := (f56.2 s0 10 k_s0 5 rfl).trans hec
    have hcc := (f56.2 s0 10 k_s0 9 rfl).trans hcc
    have hra := (f56.2 s0 10 k_s0 1 rfl).trans hra
    have hca := (f56.2 s0 10 k_s0 10 rfl).trans hca
    have hce := (f56.2 cl 2 k_cl 1 rfl).trans hce
    have hcr := (f56.2 cl 2 k_cl 2 rfl).trans hcr
    have k_th := x56 _ _ k_th
    have k_s0 := x56 _ _ k_s0
    have k_ra0 := x56 _ _ k_ra0
    have k_ca0 := x56 _ _ k_ca0
    have k_s1 := x56 _ _ k_s1
    have k_cl := x56 _ _ k_cl
    have k_b5 := x56 _ _ k_b5
    have k_a40 := x56 _ _ k_a40
    have k_a48 := x56 _ _ k_a48
    have hf := hf.tr hx0 (f56.wk (by decide +kernel))
    have hx0 := hx0.tr x56
    obtain rfl : c56 = 0 := Nat.le_zero.mp cl56
    obtain rfl : s56 = 0 := Nat.le_zero.mp sl56
    obtain ⟨n56, rfl, hn56, hm56⟩ := hi_int hv56
    show et_go none _ 127 59 _ [.int n56, .ref a48] _ 0 0 _
    refine ht_put (M := [(4, 7, 7)]) (T := et_TT) (t := 4) (ci := 2) (f := 7) (p := 62) (ty := .int) (by decide +kernel) rfl rfl rfl rfl rfl (by decide +kernel) hH k_a48 hi_any (fun G59 hH f59 e59 => ?_)
    have hC := hC.fr et_ex.rf f59 (by decide +kernel)
    have hs0 := (f59.2 th 12 k_th 0 rfl).trans hs0
    have hrc := (f59.2 s0 10 k_s0 0 rfl).trans hrc
    have hec := (f59.2 s0 10 k_s0 5 rfl).trans hec
    have hcc := (f59.2 s0 10 k_s0 9 rfl).trans hcc
    have hra := (f59.2 s0 10 k_s0 1 rfl).trans hra
    have hca := (f59.2 s0 10 k_s0 10 rfl).trans hca
    have hce := (f59.2 cl 2 k_cl 1 rfl).trans hce
    have hcr := (f59.2 cl 2 k_cl 2 rfl).trans hcr
    have hf := hf.tr hx0 (f59.wk (by decide +kernel))
    refine hs_aload (i := 0) (p := 63) (by decide +kernel) rfl ?_
    refine ht_getr (T := et_TT) (t := 12) (ci := 10) (f := 4) (p := 66) (by decide +kernel) rfl rfl hH k_th (fun a63 k_a63 e63 => ?_)
    refine hs_aload (i := 0) (p := 67) (by decide +kernel) rfl ?_
    refine ht_getr (T := et_TT) (t := 12) (ci := 10) (f := 0) (p := 70) (by decide +kernel) rfl rfl hH k_th (fun a67 k_a67 e67 => ?_)
    obtain rfl : s0 = a67 := Value.ref.inj (Option.some.inj (hs0.symm.trans e67))
    refine ht_getn (T := et_TT) (t := 10) (ci := 8) (f := 2) (p := 73) (by decide +kernel) rfl rfl hH k_s0 (fun c70 h70 e70 => ?_)
    refine ht_put (M := [(4, 8, 8)]) (T := et_TT) (t := 4) (ci := 2) (f := 8) (p := 76) (ty := .int) (by decide +kernel) rfl rfl rfl rfl rfl (by decide +kernel) hH k_a63 hi_any (fun G73 hH f73 e73 => ?_)
    have hC := hC.fr et_ex.rf f73 (by decide +kernel)
    have hs0 := (f73.2 th 12 k_th 0 rfl).trans hs0
    have hrc := (f73.2 s0 10 k_s0 0 rfl).trans hrc
    have hec := (f73.2 s0 10 k_s0 5 rfl).trans hec
    have hcc := (f73.2 s0 10 k_s0 9 rfl).trans hcc
    have hra := (f73.2 s0 10 k_s0 1 rfl).trans hra
    have hca := (f73.2 s0 10 k_s0 10 rfl).trans hca
    have hce := (f73.2 cl 2 k_cl 1 rfl).trans hce
    have hcr := (f73.2 cl 2 k_cl 2 rfl).trans hcr
    have hf := hf.tr hx0 (f73.wk (by decide +kernel))
    refine hs_aload (i := 0) (p := 77) (by decide +kernel) rfl ?_
    refine ht_getr (T := et_TT) (t := 12) (ci := 10) (f := 4) (p := 80) (by decide +kernel) rfl rfl hH k_th (fun a77 k_a77 e77 => ?_)
    refine hs_aload (i := 2) (p := 81) (by decide +kernel) rfl ?_
    refine ht_geti (T := et_TT) (t := 3) (ci := 1) (f := 5) (p := 84) (by decide +kernel) rfl rfl hH k_b5 (fun c81 h81 g81 e81 => ?_)
    refine ht_put (M := [(4, 6, 6)]) (T := et_TT) (t := 4) (ci := 2) (f := 6) (p := 87) (ty := .int) (by decide +kernel) rfl rfl rfl rfl rfl (by decide +kernel) hH k_a77 hi_any (fun G84 hH f84 e84 => ?_)
    have hC := hC.fr et_ex.rf f84 (by decide +kernel)
    have hs0 := (f84.2 th 12 k_th 0 rfl).trans hs0
    have hrc := (f84.2 s0 10 k_s0 0 rfl).trans hrc
    have hec := (f84.2 s0 10 k_s0 5 rfl).trans hec
    have hcc := (f84.2 s0 10 k_s0 9 rfl).trans hcc
    have hra := (f84.2 s0 10 k_s0 1 rfl).trans hra
    have hca := (f84.2 s0 10 k_s0 10 rfl).trans hca
    have hce := (f84.2 cl 2 k_cl 1 rfl).trans hce
    have hcr := (f84.2 cl 2 k_cl 2 rfl).trans hcr
    have hf := hf.tr hx0 (f84.wk (by decide +kernel))
    refine hs_aload (i := 0) (p := 88) (by decide +kernel) rfl ?_
    refine ht_getr (T := et_TT) (t := 12) (ci := 10) (f := 4) (p := 91) (by decide +kernel) rfl rfl hH k_th (fun a88 k_a88 e88 => ?_)
    refine hs_aload (i := 2) (p := 92) (by decide +kernel) rfl ?_
    have hfo := hf
    refine ht_callv (T := et_TT) (t := 3) (mi := 36) (na := 0) (ci := 1) (lk := 4) (lm := 3) (L0 := eg_en (eg_mL 36) [.ref b5]) (by decide +kernel) rfl hH k_b5 rfl rfl rfl rfl rfl (by rw [show eg_mL 36 = 3 from by decide +kernel]; first | done | rfl) ?_
    refine (ek_c26 (K56, [], G84) [.ref b5] _ hH (by omega) rfl (ht_ac (.inr ⟨by decide, _, rfl, k_b5⟩) ht_an)).mono (fun u hu => hs_cbv hu (fun v92 K92 G92 c92 s92 x92 f92 hH hv92 cl92 sl92 => ?_))
    have hC := hC.fr x92 f92 (by decide +kernel)
    have hs0 := (f92.2 th 12 k_th 0 rfl).trans hs0
    have hrc := (f92.2 s0 10 k_s0 0 rfl).trans hrc
    have hec := (f92.2 s0 10 k_s0 5 rfl).trans hec
    have hcc := (f92.2 s0 10 k_s0 9 rfl).trans hcc
    have hra := (f92.2 s0 10 k_s0 1 rfl).trans hra
    have hca := (f92.2 s0 10 k_s0 10 rfl).trans hca
    have hce := (f92.2 cl 2 k_cl 1 rfl).trans hce
    have hcr := (f92.2 cl 2 k_cl 2 rfl).trans hcr
    have k_th := x92 _ _ k_th
    have k_s0 := x92 _ _ k_s0
    have k_ra0 := x92 _ _ k_ra0
    have k_ca0 := x92 _ _ k_ca0
    have k_s1 := x92 _ _ k_s1
    have k_cl := x92 _ _ k_cl
    have k_b5 := x92 _ _ k_b5
    have k_a40 := x92 _ _ k_a40
    have k_a48 := x92 _ _ k_a48
    have k_a63 := x92 _ _ k_a63
    have k_a77 := x92 _ _ k_a77
    have k_a88 := x92 _ _ k_a88
    have hf := hf.tr hx0 (f92.wk (by decide +kernel))
    have hx0 := hx0.tr x92
    obtain rfl : c92 = 0 := Nat.le_zero.mp cl92
    obtain rfl : s92 = 0 := Nat.le_zero.mp sl92
    obtain ⟨n92, rfl, hn92, hm92⟩ := hi_int hv92
    show et_go none _ 127 95 _ [.int n92, .ref a88] _ 0 0 _
    refine ht_put (M := [(4, 10, 10)]) (T := et_TT) (t := 4) (ci := 2) (f := 10) (p := 98) (ty := .int) (by decide +kernel) rfl rfl rfl rfl rfl (by decide +kernel) hH k_a88 hi_any (fun G95 hH f95 e95 => ?_)
    have hC := hC.fr et_ex.rf f95 (by decide +kernel)
    have hs0 := (f95.2 th 12 k_th 0 rfl).trans hs0
    have hrc := (f95.2 s0 10 k_s0 0 rfl).trans hrc
    have hec := (f95.2 s0 10 k_s0 5 rfl).trans hec
    have hcc := (f95.2 s0 10 k_s0 9 rfl).trans hcc
    have hra := (f95.2 s0 10 k_s0 1 rfl).trans hra
    have hca := (f95.2 s0 10 k_s0 10 rfl).trans hca
    have hce := (f95.2 cl 2 k_cl 1 rfl).trans hce
    have hcr := (f95.2 cl 2 k_cl 2 rfl).trans hcr
    have hf := hf.tr hx0 (f95.wk (by decide +kernel))
    refine hs_aload (i := 0) (p := 99) (by decide +kernel) rfl ?_
    refine ht_getr (T := et_TT) (t := 12) (ci := 10) (f := 4) (p := 102) (by decide +kernel) rfl rfl hH k_th (fun a99 k_a99 e99 => ?_)
    refine hs_aload (i := 0) (p := 103) (by decide +kernel) rfl ?_
    refine ht_getr (T := et_TT) (t := 12) (ci := 10) (f := 0) (p := 106) (by decide +kernel) rfl rfl hH k_th (fun a103 k_a103 e103 => ?_)
    obtain rfl : s0 = a103 := Value.ref.inj (Option.some.inj (hs0.symm.trans e103))
    refine hs_aload (i := 2) (p := 107) (by decide +kernel) rfl ?_
    have hfo := hf
    refine ht_callv (T := et_TT) (t := 10) (mi := 107) (na := 1) (ci := 8) (lk := 4) (lm := 5) (L0 := eg_en (eg_mL 107) [.ref s0, .ref b5]) (by decide +kernel) rfl hH k_s0 rfl rfl rfl rfl rfl (by rw [show eg_mL 107 = 5 from by decide +kernel]; first | done | rfl) ?_
    refine (ek_c15 (K92, [], G95) [.ref s0, .ref b5] _ hH (by omega) rfl (ht_ac (.inr ⟨by decide, _, rfl, k_s0⟩) (ht_ac (.inr ⟨by decide, _, rfl, k_b5⟩) ht_an))).mono (fun u hu => hs_cbv hu (fun v107 K107 G107 c107 s107 x107 f107 hH hv107 cl107 sl107 => ?_))
    have hC := hC.fr x107 f107 (by decide +kernel)
    have hs0 := (f107.2 th 12 k_th 0 rfl).trans hs0
    have hrc := (f107.2 s0 10 k_s0 0 rfl).trans hrc
    have hec := (f107.2 s0 10 k_s0 5 rfl).trans hec
    have hcc := (f107.2 s0 10 k_s0 9 rfl).trans hcc
    have hra := (f107.2 s0 10 k_s0 1 rfl).trans hra
    have hca := (f107.2 s0 10 k_s0 10 rfl).trans hca
    have hce := (f107.2 cl 2 k_cl 1 rfl).trans hce
    have hcr := (f107.2 cl 2 k_cl 2 rfl).trans hcr
    have k_th := x107 _ _ k_th
    have k_s0 := x107 _ _ k_s0
    have k_ra0 := x107 _ _ k_ra0
    have k_ca0 := x107 _ _ k_ca0
    have k_s1 := x107 _ _ k_s1
    have k_cl := x107 _ _ k_cl
    have k_b5 := x107 _ _ k_b5
    have k_a40 := x107 _ _ k_a40
    have k_a48 := x107 _ _ k_a48
    have k_a63 := x107 _ _ k_a63
    have k_a77 := x107 _ _ k_a77
    have k_a88 := x107 _ _ k_a88
    have k_a99 := x107 _ _ k_a99
    have hf := hf.tr hx0 (f107.wk (by decide +kernel))
    have hx0 := hx0.tr x107
    obtain rfl : c107 = 0 := Nat.le_zero.mp cl107
    obtain rfl : s107 = 0 := Nat.le_zero.mp sl107
    obtain ⟨n107, rfl, hn107, hm107⟩ := hi_int hv107
    show et_go none _ 127 110 _ [.int n107, .ref a99] _ 0 0 _
    refine hs_k (x := (-1)) (p := 111) (by decide +kernel) ?_
    refine hs_br2 (c := .eq) (t := 118) (f := 114) (by decide +kernel) (fun (c111 : n107 = (-1)) => ?_) (fun (c111 : ¬ (n107 = (-1))) => ?_)
    · refine hs_k (x := Int32.ofNat 0) (p := 119) (by decide +kernel) ?_
      refine ht_put (M := [(4, 11, 11)]) (T := et_TT) (t := 4) (ci := 2) (f := 11) (p := 122) (ty := .boolean) (by decide +kernel) rfl rfl rfl (by decide +kernel) rfl (by decide +kernel) hH k_a99 (hi_nv (by omega) (by omega)) (fun G119 hH f119 e119 => ?_)
      have hC := hC.fr et_ex.rf f119 (by decide +kernel)
      have hs0 := (f119.2 th 12 k_th 0 rfl).trans hs0
      have hrc := (f119.2 s0 10 k_s0 0 rfl).trans hrc
      have hec := (f119.2 s0 10 k_s0 5 rfl).trans hec
      have hcc := (f119.2 s0 10 k_s0 9 rfl).trans hcc
      have hra := (f119.2 s0 10 k_s0 1 rfl).trans hra
      have hca := (f119.2 s0 10 k_s0 10 rfl).trans hca
      have hce := (f119.2 cl 2 k_cl 1 rfl).trans hce
      have hcr := (f119.2 cl 2 k_cl 2 rfl).trans hcr
      have hf := hf.tr hx0 (f119.wk (by decide +kernel))
      refine hs_aload (i := 1) (p := 123) (by decide +kernel) rfl ?_
      refine ht_getr (T := et_TT) (t := 2) (ci := 0) (f := 0) (p := 126) (by decide +kernel) rfl rfl hH k_cl (fun a123 k_a123 e123 => ?_)
      refine hs_aload (i := 0) (p := 127) (by decide +kernel) rfl ?_
      refine ht_getr (T := et_TT) (t := 12) (ci := 10) (f := 4) (p := 130) (by decide +kernel) rfl rfl hH k_th (fun a127 k_a127 e127 => ?_)
      refine hs_k (x := Int32.ofNat 0) (p := 131) (by decide +kernel) ?_
      have lto_a123 := (hH.2.2 _ _ k_a123).1
      have hfo := hf
      refine ht_callv (T := et_TT) (t := 6) (mi := 60) (na := 2) (ci := 4) (lk := 4) (lm := 4) (L0 := eg_en (eg_mL 60) [.ref a123, .ref a127, .int (Int32.ofNat 0)]) (by decide +kernel) rfl hH k_a123 rfl rfl rfl rfl rfl (by rw [show eg_mL 60 = 4 from by decide +kernel]; first | done | rfl) ?_
      refine (hc_isT (K107, [], G119) [.ref a123, .ref a127, .int (Int32.ofNat 0)] _ hH (by omega) rfl (ht_ac (.inr ⟨by decide, _, rfl, k_a123⟩) (ht_ac (.inr ⟨by decide, _, rfl, k_a127⟩) (ht_ac (hi_nv (by omega) (by omega)) ht_an)))).mono (fun u hu => hs_cbv hu (fun v131 K131 G131 c131 s131 x131 f131 hH hv131 cl131 sl131 => ?_))
      have hC := hC.fr x131 f131 (by decide +kernel)
      have hs0 := (f131.2 th 12 k_th 0 rfl).trans hs0
      have hrc := (f131.2 s0 10 k_s0 0 rfl).trans hrc
      have hec := (f131.2 s0 10 k_s0 5 rfl).trans hec
      have hcc := (f131.2 s0 10 k_s0 9 rfl).trans hcc
      have hra := (f131.2 s0 10 k_s0 1 rfl).trans hra
      have hca := (f131.2 s0 10 k_s0 10 rfl).trans hca
      have hce := (f131.2 cl 2 k_cl 1 rfl).trans hce
      have hcr := (f131.2 cl 2 k_cl 2 rfl).trans hcr
      have k_th := x131 _ _ k_th
      have k_s0 := x131 _ _ k_s0
      have k_ra0 := x131 _ _ k_ra0
      have k_ca0 := x131 _ _ k_ca0
      have k_s1 := x131 _ _ k_s1
      have k_cl := x131 _ _ k_cl
      have k_b5 := x131 _ _ k_b5
      have k_a40 := x131 _ _ k_a40
      have k_a48 := x131 _ _ k_a48
      have k_a63 := x131 _ _ k_a63
      have k_a77 := x131 _ _ k_a77
      have k_a88 := x131 _ _ k_a88
      have k_a99 := x131 _ _ k_a99
      have k_a123 := x131 _ _ k_a123
      have k_a127 := x131 _ _ k_a127
      have hf := hf.tr hx0 (f131.wk (by decide +kernel))
      have hx0 := hx0.tr x131
      obtain rfl : c131 = 0 := Nat.le_zero.mp cl131
      obtain rfl : s131 = 0 := Nat.le_zero.mp sl131
      obtain ⟨n131, hn131, rfl⟩ := hi_nat hv131
      show et_go none _ 127 134 _ [.int (Int32.ofNat n131)] _ 0 0 _
      refine hs_zret (by decide +kernel) (hi_z01 (by omega)) ?_
      exact ⟨_, _, rfl, by omega, hx0, hf, hH, hC, (by dsimp only; omega), (by dsimp only; omega)⟩
    · refine hs_k (x := Int32.ofNat 1) (p := 115) (by decide +kernel) ?_
      refine hs_goto (p := 119) (by decide +kernel) ?_
      refine ht_put (M := [(4, 11, 11)]) (T := et_TT) (t := 4) (ci := 2) (f := 11) (p := 122) (ty := .boolean) (by decide +kernel) rfl rfl rfl (by decide +kernel) rfl (by decide +kernel) hH k_a99 (hi_nv (by omega) (by omega)) (fun G119 hH f119 e119 => ?_)
      have hC := hC.fr et_ex.rf f119 (by decide +kernel)
      have hs0 := (f119.2 th 12 k_th 0 rfl).trans hs0
      have hrc := (f119.2 s0 10 k_s0 0 rfl).trans hrc
      have hec := (f119.2 s0 10 k_s0 5 rfl).trans hec
      have hcc := (f119.2 s0 10 k_s0 9 rfl).trans hcc
      have hra := (f119.2 s0 10 k_s0 1 rfl).trans hra
      have hca := (f119.2 s0 10 k_s0 10 rfl).trans hca
      have hce := (f119.2 cl 2 k_cl 1 rfl).trans hce
      have hcr := (f119.2 cl 2 k_cl 2 rfl).trans hcr
      have hf := hf.tr hx0 (f119.wk (by decide +kernel))
      refine hs_aload (i := 1) (p := 123) (by decide +kernel) rfl ?_
      refine ht_getr (T := et_TT) (t := 2) (ci := 0) (f := 0) (p := 126) (by decide +kernel) rfl rfl hH k_cl (fun a123 k_a123 e123 => ?_)
      refine hs_aload (i := 0) (p := 127) (by decide +kernel) rfl ?_
      refine ht_getr (T := et_TT) (t := 12) (ci := 10) (f := 4) (p := 130) (by decide +kernel) rfl rfl hH k_th (fun a127 k_a127 e127 => ?_)
      refine hs_k (x := Int32.ofNat 0) (p := 131) (by decide +kernel) ?_
      have lto_a123 := (hH.2.2 _ _ k_a123).1
      have hfo := hf
      refine ht_callv (T := et_TT) (t := 6) (mi := 60) (na := 2) (ci := 4) (lk := 4) (lm := 4) (L0 := eg_en (eg_mL 60) [.ref a123, .ref a127, .int (Int32.ofNat 0)]) (by decide +kernel) rfl hH k_a123 rfl rfl rfl rfl rfl (by rw [show eg_mL 60 = 4 from by decide +kernel]; first | done | rfl) ?_
      refine (hc_isT (K107, [], G119) [.ref a123, .ref a127, .int (Int32.ofNat 0)] _ hH (by omega) rfl (ht_ac (.inr ⟨by decide, _, rfl, k_a123⟩) (ht_ac (.inr ⟨by decide, _, rfl, k_a127⟩) (ht_ac (hi_nv (by omega) (by omega)) ht_an)))).mono (fun u hu => hs_cbv hu (fun v131 K131 G131 c131 s131 x131 f131 hH hv131 cl131 sl131 => ?_))
      have hC := hC.fr x131 f131 (by decide +kernel)
      have hs0 := (f131.2 th 12 k_th 0 rfl).trans hs0
      have hrc := (f131.2 s0 10 k_s0 0 rfl).trans hrc
      have hec := (f131.2 s0 10 k_s0 5 rfl).trans hec
      have hcc := (f131.2 s0 10 k_s0 9 rfl).trans hcc
      have hra := (f131.2 s0 10 k_s0 1 rfl).trans hra
      have hca := (f131.2 s0 10 k_s0 10 rfl).trans hca
      have hce := (f131.2 cl 2 k_cl 1 rfl).trans hce
      have hcr := (f131.2 cl 2 k_cl 2 rfl).trans hcr
      have k_th := x131 _ _ k_th
      have k_s0 := x131 _ _ k_s0
      have k_ra0 := x131 _ _ k_ra0
      have k_ca0 := x131 _ _ k_ca0
      have k_s1 := x131 _ _ k_s1
      have k_cl := x131 _ _ k_cl
      have k_b5 := x131 _ _ k_b5
      have k_a40 := x131 _ _ k_a40
      have k_a48 := x131 _ _ k_a48
      have k_a63 := x131 _ _ k_a63
      have k_a77 := x131 _ _ k_a77
      have k_a88 := x131 _ _ k_a88
      have k_a99 := x131 _ _ k_a99
      have k_a123 := x131 _ _ k_a123
      have k_a127 := x131 _ _ k_a127
      have hf := hf.tr hx0 (f131.wk (by decide +kernel))
      have hx0 := hx0.tr x131
      obtain rfl : c131 = 0 := Nat.le_zero.mp cl131
      obtain rfl : s131 = 0 := Nat.le_zero.mp sl131
      obtain ⟨n131, hn131, rfl⟩ := hi_nat hv131
      show et_go none _ 127 134 _ [.int (Int32.ofNat n131)] _ 0 0 _
      refine hs_zret (by decide +kernel) (hi_z01 (by omega)) ?_
      exact ⟨_, _, rfl, by omega, hx0, hf, hH, hC, (by dsimp only; omega), (by dsimp only; omega)⟩
  · refine hs_aload (i := 0) (p := 17) (by decide +kernel) rfl ?_
    refine hs_aload (i := 2) (p := 18) (by decide +kernel) rfl ?_
    refine hs_aload (i := 0) (p := 19) (by decide +kernel) rfl ?_
    refine hs_aload (i := 1) (p := 20) (by decide +kernel) rfl ?_
    refine ht_geti (T := et_TT) (t := 2) (ci := 0) (f := 2) (p := 23) (by decide +kernel) rfl rfl hH k_cl (fun c20 h20 g20 e20 => ?_)
    obtain rfl : Int32.ofNat q = c20 := Value.int.inj (Option.some.inj (hcr.symm.trans e20))
    have hfo := hf
    refine ht_callv (T := et_TT) (t := 12) (mi := 129) (na := 1) (ci := 10) (lk := 4) (lm := 2) (L0 := eg_en (eg_mL 129) [.ref th, .int (Int32.ofNat q)]) (by decide +kernel) rfl hH k_th rfl rfl rfl rfl rfl (by rw [show eg_mL 129 = 2 from by decide +kernel]; first | done | rfl) ?_
    refine (hc_nR hH hC).mono (fun u hu => pn_cb (by decide +kernel) hu (fun K23 G23 v23 x23 f23 hH hA hQ23 => ?_) (fun K23 G23 x23 f23 hH hQ => absurd ⟨q, hR, rfl⟩ hQ))
    have hC := hC.fr x23 f23 (by decide +kernel)
    have hs0 := (f23.2 th 12 k_th 0 rfl).trans hs0
    have hrc := (f23.2 s0 10 k_s0 0 rfl).trans hrc
    have hec := (f23.2 s0 10 k_s0 5 rfl).trans hec
    have hcc := (f23.2 s0 10 k_s0 9 rfl).trans hcc
    have hra := (f23.2 s0 10 k_s0 1 rfl).trans hra
    have hca := (f23.2 s0 10 k_s0 10 rfl).trans hca
    have hce := (f23.2 cl 2 k_cl 1 rfl).trans hce
    have hcr := (f23.2 cl 2 k_cl 2 rfl).trans hcr
    have k_th := x23 _ _ k_th
    have k_s0 := x23 _ _ k_s0
    have k_ra0 := x23 _ _ k_ra0
    have k_ca0 := x23 _ _ k_ca0
    have k_s1 := x23 _ _ k_s1
    have k_cl := x23 _ _ k_cl
    have k_b5 := x23 _ _ k_b5
    have hf := hf.tr hx0 (f23.wk (by decide +kernel))
    have hx0 := hx0.tr x23
    obtain ⟨b23, rfl, k_b23⟩ := hA
    show et_go none _ 127 26 _ [.ref b23, .ref b5, .ref th] _ 0 0 _
    refine hs_k (x := (-1)) (p := 27) (by decide +kernel) ?_
    have hfo := hf
    refine ht_callv (T := et_TT) (t := 12) (mi := 130) (na := 3) (ci := 10) (lk := 4) (lm := 7) (L0 := eg_en (eg_mL 130) [.ref th, .ref b5, .ref b23, .int (-1)]) (by decide +kernel) rfl hH k_th rfl rfl rfl rfl rfl (by rw [show eg_mL 130 = 7 from by decide +kernel]; first | done | rfl) ?_
    refine (ek_c19 (K23, [], G23) [.ref th, .ref b5, .ref b23, .int (-1)] _ hH (by omega) rfl (ht_ac (.inr ⟨by decide, _, rfl, k_th⟩) (ht_ac (.inr ⟨by decide, _, rfl, k_b5⟩) (ht_ac (.inr ⟨by decide, _, rfl, k_b23⟩) (ht_ac hi_any ht_an))))).mono (fun u hu => hs_cbv hu (fun v27 K27 G27 c27 s27 x27 f27 hH hv27 cl27 sl27 => ?_))
    have hC := hC.fr x27 f27 (by decide +kernel)
    have hs0 := (f27.2 th 12 k_th 0 rfl).trans hs0
    have hrc := (f27.2 s0 10 k_s0 0 rfl).trans hrc
    have hec := (f27.2 s0 10 k_s0 5 rfl).trans hec
    have hcc := (f27.2 s0 10 k_s0 9 rfl).trans hcc
    have hra := (f27.2 s0 10 k_s0 1 rfl).trans hra
    have hca := (f27.2 s0 10 k_s0 10 rfl).trans hca
    have hce := (f27.2 cl 2 k_cl 1 rfl).trans hce
    have hcr := (f27.2 cl 2 k_cl 2 rfl).trans hcr
    have k_th := x27 _ _ k_th
    have k_s0 := x27 _ _ k_s0
    have k_ra0 := x27 _ _ k_ra0
    have k_ca0 := x27 _ _ k_ca0
    have k_s1 := x27 _ _ k_s1
    have k_cl := x27 _ _ k_cl
    have k_b5 := x27 _ _ k_b5
    have k_b23 := x27 _ _ k_b23
    have hf := hf.tr hx0 (f27.wk (by decide +kernel))
    have hx0 := hx0.tr x27
    obtain ⟨n27, rfl, hn27, hm27⟩ := hi_int hv27
    show et_go none _ 127 30 _ [.int n27] _ (0 + c27) (0 + s27) _
    refine hs_k (x := Int32.ofNat 656) (p := 33) (by decide +kernel) ?_
    refine hs_idiv (p := 34) (by decide +kernel) (by decide) ?_
    refine hs_goto (p := 38) (by decide +kernel) ?_
    refine hs_istore (i := 3) (p := 39) (by decide +kernel) (Nat.le_of_ble_eq_true rfl) ?_
    refine hs_aload (i := 0) (p := 40) (by decide +kernel) rfl ?_
    refine ht_getr (T := et_TT) (t := 12) (ci := 10) (f := 4) (p := 43) (by decide +kernel) rfl rfl hH k_th (fun a40 k_a40 e40 => ?_)
    refine hs_iload (i := 3) (p := 44) (by decide +kernel) rfl ?_
    refine ht_put (M := [(4, 9, 9)]) (T := et_TT) (t := 4) (ci := 2) (f := 9) (p := 47) (ty := .int) (by decide +kernel) rfl rfl rfl rfl rfl (by decide +kernel) hH k_a40 hi_any (fun G44 hH f44 e44 => ?_)
    have hC := hC.fr et_ex.rf f44 (by decide +kernel)
    have hs0 := (f44.2 th 12 k_th 0 rfl).trans hs0
    have hrc := (f44.2 s0 10 k_s0 0 rfl).trans hrc
    have hec := (f44.2 s0 10 k_s0 5 rfl).trans hec
    have hcc := (f44.2 s0 10 k_s0 9 rfl).trans hcc
    have hra := (f44.2 s0 10 k_s0 1 rfl).trans hra
    have hca := (f44.2 s0 10 k_s0 10 rfl).trans hca
    have hce := (f44.2 cl 2 k_cl 1 rfl).trans hce
    have hcr := (f44.2 cl 2 k_cl 2 rfl).trans hcr
    have hf := hf.tr hx0 (f44.wk (by decide +kernel))
    refine hs_aload (i := 0) (p := 48) (by decide +kernel) rfl ?_
    refine ht_getr (T := et_TT) (t := 12) (ci := 10) (f := 4) (p := 51) (by decide +kernel) rfl rfl hH k_th (fun a48 k_a48 e48 => ?_)
    refine hs_aload (i := 0) (p := 52) (by decide +kernel) rfl ?_
    refine ht_getr (T := et_TT) (t := 12) (ci := 10) (f := 0) (p := 55) (by decide +kernel) rfl rfl hH k_th (fun a52 k_a52 e52 => ?_)
    obtain rfl : s0 = a52 := Value.ref.inj (Option.some.inj (hs0.symm.trans e52))
    refine hs_aload (i := 2) (p := 56) (by decide +kernel) rfl ?_
    have hfo := hf
    refine ht_callv (T := et_TT) (t := 10) (mi := 106) (na := 1) (ci := 8) (lk := 4) (lm := 4) (L0 := eg_en (eg_mL 106) [.ref s0, .ref b5]) (by decide +kernel) rfl hH k_s0 rfl rfl rfl rfl rfl (by rw [show eg_mL 106 = 4 from by decide +kernel]; first | done | rfl) ?_
    refine (ek_c9 (K27, [], G44) [.ref s0, .ref b5] _ hH (by omega) rfl (ht_ac (.inr ⟨by decide, _, rfl, k_s0⟩) (ht_ac (.inr ⟨by decide, _, rfl, k_b5⟩) ht_an))).mono (fun u hu => hs_cbv hu (fun v56 K56 G56 c56 s56 x56 f56 hH hv56 cl56 sl56 => ?_))
    have hC := hC.fr x56 f56 (by decide +kernel)
    have hs0 := (f56.2 th 12 k_th 0 rfl).trans hs0
    have hrc := (f56.2 s0 10 k_s0 0 rfl).trans hrc
    have hec := (f56.2 s0 10 k_s0 5 rfl).trans hec
    have hcc := (f56.2 s0 10 k_s0 9 rfl).trans hcc
    have hra := (f56.2 s0 10 k_s0 1 rfl).trans hra
    have hca := (f56.2 s0 10 k_s0 10 rfl).trans hca
    have hce := (f56.2 cl 2 k_cl 1 rfl).trans hce
    have hcr := (f56.2 cl 2 k_cl 2 rfl).trans hcr
    have k_th := x56 _ _ k_th
    have k_s0 := x56 _ _ k_s0
    have k_ra0 := x56 _ _ k_ra0
    have k_ca0 := x56 _ _ k_ca0
    have k_s1 := x56 _ _ k_s1
    have k_cl := x56 _ _ k_cl
    have k_b5 := x56 _ _ k_b5
    have k_b23 := x56 _ _ k_b23
    have k_a40 := x56 _ _ k_a40
    have k_a48 := x56 _ _ k_a48
    have hf := hf.tr hx0 (f56.wk (by decide +kernel))
    have hx0 := hx0.tr x56
    obtain rfl : c56 = 0 := Nat.le_zero.mp cl56
    obtain rfl : s56 = 0 := Nat.le_zero.mp sl56
    obtain ⟨n56, rfl, hn56, hm56⟩ := hi_int hv56
    show et_go none _ 127 59 _ [.int n56, .ref a48] _ (0 + c27) (0 + s27) _
    refine ht_put (M := [(4, 7, 7)]) (T := et_TT) (t := 4) (ci := 2) (f := 7) (p := 62) (ty := .int) (by decide +kernel) rfl rfl rfl rfl rfl (by decide +kernel) hH k_a48 hi_any (fun G59 hH f59 e59 => ?_)
    have hC := hC.fr et_ex.rf f59 (by decide +kernel)
    have hs0 := (f59.2 th 12 k_th 0 rfl).trans hs0
    have hrc := (f59.2 s0 10 k_s0 0 rfl).trans hrc
    have hec := (f59.2 s0 10 k_s0 5 rfl).trans hec
    have hcc := (f59.2 s0 10 k_s0 9 rfl).trans hcc
    have hra := (f59.2 s0 10 k_s0 1 rfl).trans hra
    have hca := (f59.2 s0 10 k_s0 10 rfl).trans hca
    have hce := (f59.2 cl 2 k_cl 1 rfl).trans hce
    have hcr := (f59.2 cl 2 k_cl 2 rfl).trans hcr
    have hf := hf.tr hx0 (f59.wk (by decide +kernel))
    refine hs_aload (i := 0) (p := 63) (by decide +kernel) rfl ?_
    refine ht_getr (T := et_TT) (t := 12) (ci := 10) (f := 4) (p := 66) (by decide +kernel) rfl rfl hH k_th (fun a63 k_a63 e63 => ?_)
    refine hs_aload (i := 0) (p := 67) (by decide +kernel) rfl ?_
    refine ht_getr (T := et_TT) (t := 12) (ci := 10) (f := 0) (p := 70) (by decide +kernel) rfl rfl hH k_th (fun a67 k_a67 e67 => ?_)
    obtain rfl : s0 = a67 := Value.ref.inj (Option.some.inj (hs0.symm.trans e67))
    refine ht_getn (T := et_TT) (t := 10) (ci := 8) (f := 2) (p := 73) (by decide +kernel) rfl rfl hH k_s0 (fun c70 h70 e70 => ?_)
    refine ht_put (M := [(4, 8, 8)]) (T := et_TT) (t := 4) (ci := 2) (f := 8) (p := 76) (ty := .int) (by decide +kernel) rfl rfl rfl rfl rfl (by decide +kernel) hH k_a63 hi_any (fun G73 hH f73 e73 => ?_)
    have hC := hC.fr et_ex.rf f73 (by decide +kernel)
    have hs0 := (f73.2 th 12 k_th 0 rfl).trans hs0
    have hrc := (f73.2 s0 10 k_s0 0 rfl).trans hrc
    have hec := (f73.2 s0 10 k_s0 5 rfl).trans hec
    have hcc := (f73.2 s0 10 k_s0 9 rfl).trans hcc
    have hra := (f73.2 s0 10 k_s0 1 rfl).trans hra
    have hca := (f73.2 s0 10 k_s0 10 rfl).trans hca
    have hce := (f73.2 cl 2 k_cl 1 rfl).trans hce
    have hcr := (f73.2 cl 2 k_cl 2 rfl).trans hcr
    have hf := hf.tr hx0 (f73.wk (by decide +kernel))
    refine hs_aload (i := 0) (p := 77) (by decide +kernel) rfl ?_
    refine ht_getr (T := et_TT) (t := 12) (ci := 10) (f := 4) (p := 80) (by decide +kernel) rfl rfl hH k_th (fun a77 k_a77 e77 => ?_)
    refine hs_aload (i := 2) (p := 81) (by decide +kernel) rfl ?_
    refine ht_geti (T := et_TT) (t := 3) (ci := 1) (f := 5) (p := 84) (by decide +kernel) rfl rfl hH k_b5 (fun c81 h81 g81 e81 => ?_)
    refine ht_put (M := [(4, 6, 6)]) (T := et_TT) (t := 4) (ci := 2) (f := 6) (p := 87) (ty := .int) (by decide +kernel) rfl rfl rfl rfl rfl (by decide +kernel) hH k_a77 hi_any (fun G84 hH f84 e84 => ?_)
    have hC := hC.fr et_ex.rf f84 (by decide +kernel)
    have hs0 := (f84.2 th 12 k_th 0 rfl).trans hs0
    have hrc := (f84.2 s0 10 k_s0 0 rfl).trans hrc
    have hec := (f84.2 s0 10 k_s0 5 rfl).trans hec
    have hcc := (f84.2 s0 10 k_s0 9 rfl).trans hcc
    have hra := (f84.2 s0 10 k_s0 1 rfl).trans hra
    have hca := (f84.2 s0 10 k_s0 10 rfl).trans hca
    have hce := (f84.2 cl 2 k_cl 1 rfl).trans hce
    have hcr := (f84.2 cl 2 k_cl 2 rfl).trans hcr
    have hf := hf.tr hx0 (f84.wk (by decide +kernel))
    refine hs_aload (i := 0) (p := 88) (by decide +kernel) rfl ?_
    refine ht_getr (T := et_TT) (t := 12) (ci := 10) (f := 4) (p := 91) (by decide +kernel) rfl rfl hH k_th (fun a88 k_a88 e88 => ?_)
    refine hs_aload (i := 2) (p := 92) (by decide +kernel) rfl ?_
    have hfo := hf
    refine ht_callv (T := et_TT) (t := 3) (mi := 36) (na := 0) (ci := 1) (lk := 4) (lm := 3) (L0 := eg_en (eg_mL 36) [.ref b5]) (by decide +kernel) rfl hH k_b5 rfl rfl rfl rfl rfl (by rw [show eg_mL 36 = 3 from by decide +kernel]; first | done | rfl) ?_
    refine (ek_c26 (K56, [], G84) [.ref b5] _ hH (by omega) rfl (ht_ac (.inr ⟨by decide, _, rfl, k_b5⟩) ht_an)).mono (fun u hu => hs_cbv hu (fun v92 K92 G92 c92 s92 x92 f92 hH hv92 cl92 sl92 => ?_))
    have hC := hC.fr x92 f92 (by decide +kernel)
    have hs0 := (f92.2 th 12 k_th 0 rfl).trans hs0
    have hrc := (f92.2 s0 10 k_s0 0 rfl).trans hrc
    have hec := (f92.2 s0 10 k_s0 5 rfl).trans hec
    have hcc := (f92.2 s0 10 k_s0 9 rfl).trans hcc
    have hra := (f92.2 s0 10 k_s0 1 rfl).trans hra
    have hca := (f92.2 s0 10 k_s0 10 rfl).trans hca
    have hce := (f92.2 cl 2 k_cl 1 rfl).trans hce
    have hcr := (f92.2 cl 2 k_cl 2 rfl).trans hcr
    have k_th := x92 _ _ k_th
    have k_s0 := x92 _ _ k_s0
    have k_ra0 := x92 _ _ k_ra0
    have k_ca0 := x92 _ _ k_ca0
    have k_s1 := x92 _ _ k_s1
    have k_cl := x92 _ _ k_cl
    have k_b5 := x92 _ _ k_b5
    have k_b23 := x92 _ _ k_b23
    have k_a40 := x92 _ _ k_a40
    have k_a48 := x92 _ _ k_a48
    have k_a63 := x92 _ _ k_a63
    have k_a77 := x92 _ _ k_a77
    have k_a88 := x92 _ _ k_a88
    have hf := hf.tr hx0 (f92.wk (by decide +kernel))
    have hx0 := hx0.tr x92
    obtain rfl : c92 = 0 := Nat.le_zero.mp cl92
    obtain rfl : s92 = 0 := Nat.le_zero.mp sl92
    obtain ⟨n92, rfl, hn92, hm92⟩ := hi_int hv92
    show et_go none _ 127 95 _ [.int n92, .ref a88] _ (0 + c27) (0 + s27) _
    refine ht_put (M := [(4, 10, 10)]) (T := et_TT) (t := 4) (ci := 2) (f := 10) (p := 98) (ty := .int) (by decide +kernel) rfl rfl rfl rfl rfl (by decide +kernel) hH k_a88 hi_any (fun G95 hH f95 e95 => ?_)
    have hC := hC.fr et_ex.rf f95 (by decide +kernel)
    have hs0 := (f95.2 th 12 k_th 0 rfl).trans hs0
    have hrc := (f95.2 s0 10 k_s0 0 rfl).trans hrc
    have hec := (f95.2 s0 10 k_s0 5 rfl).trans hec
    have hcc := (f95.2 s0 10 k_s0 9 rfl).trans hcc
    have hra := (f95.2 s0 10 k_s0 1 rfl).trans hra
    have hca := (f95.2 s0 10 k_s0 10 rfl).trans hca
    have hce := (f95.2 cl 2 k_cl 1 rfl).trans hce
    have hcr := (f95.2 cl 2 k_cl 2 rfl).trans hcr
    have hf := hf.tr hx0 (f95.wk (by decide +kernel))
    refine hs_aload (i := 0) (p := 99) (by decide +kernel) rfl ?_
    refine ht_getr (T := et_TT) (t := 12) (ci := 10) (f := 4) (p := 102) (by decide +kernel) rfl rfl hH k_th (fun a99 k_a99 e99 => ?_)
    refine hs_aload (i := 0) (p := 103) (by decide +kernel) rfl ?_
    refine ht_getr (T := et_TT) (t := 12) (ci := 10) (f := 0) (p := 106) (by decide +kernel) rfl rfl hH k_th (fun a103 k_a103 e103 => ?_)
    obtain rfl : s0 = a103 := Value.ref.inj (Option.some.inj (hs0.symm.trans e103))
    refine hs_aload (i := 2) (p := 107) (by decide +kernel) rfl ?_
    have hfo := hf
    refine ht_callv (T := et_TT) (t := 10) (mi := 107) (na := 1) (ci := 8) (lk := 4) (lm := 5) (L0 := eg_en (eg_mL 107) [.ref s0, .ref b5]) (by decide +kernel) rfl hH k_s0 rfl rfl rfl rfl rfl (by rw [show eg_mL 107 = 5 from by decide +kernel]; first | done | rfl) ?_
    refine (ek_c15 (K92, [], G95) [.ref s0, .ref b5] _ hH (by omega) rfl (ht_ac (.inr ⟨by decide, _, rfl, k_s0⟩) (ht_ac (.inr ⟨by decide, _, rfl, k_b5⟩) ht_an))).mono (fun u hu => hs_cbv hu (fun v107 K107 G107 c107 s107 x107 f107 hH hv107 cl107 sl107 => ?_))
    have hC := hC.fr x107 f107 (by decide +kernel)
    have hs0 := (f107.2 th 12 k_th 0 rfl).trans hs0
    have hrc := (f107.2 s0 10 k_s0 0 rfl).trans hrc
    have hec := (f107.2 s0 10 k_s0 5 rfl).trans hec
    have hcc := (f107.2 s0 10 k_s0 9 rfl).trans hcc
    have hra := (f107.2 s0 10 k_s0 1 rfl).trans hra
    have hca := (f107.2 s0 10 k_s0 10 rfl).trans hca
    have hce := (f107.2 cl 2 k_cl 1 rfl).trans hce
    have hcr := (f107.2 cl 2 k_cl 2 rfl).trans hcr
    have k_th := x107 _ _ k_th
    have k_s0 := x107 _ _ k_s0
    have k_ra0 := x107 _ _ k_ra0
    have k_ca0 := x107 _ _ k_ca0
    have k_s1 := x107 _ _ k_s1
    have k_cl := x107 _ _ k_cl
    have k_b5 := x107 _ _ k_b5
    have k_b23 := x107 _ _ k_b23
    have k_a40 := x107 _ _ k_a40
    have k_a48 := x107 _ _ k_a48
    have k_a63 := x107 _ _ k_a63
    have k_a77 := x107 _ _ k_a77
    have k_a88 := x107 _ _ k_a88
    have k_a99 := x107 _ _ k_a99
    have hf := hf.tr hx0 (f107.wk (by decide +kernel))
    have hx0 := hx0.tr x107
    obtain rfl : c107 = 0 := Nat.le_zero.mp cl107
    obtain rfl : s107 = 0 := Nat.le_zero.mp sl107
    obtain ⟨n107, rfl, hn107, hm107⟩ := hi_int hv107
    show et_go none _ 127 110 _ [.int n107, .ref a99] _ (0 + c27) (0 + s27) _
    refine hs_k (x := (-1)) (p := 111) (by decide +kernel) ?_
    refine hs_br2 (c := .eq) (t := 118) (f := 114) (by decide +kernel) (fun (c111 : n107 = (-1)) => ?_) (fun (c111 : ¬ (n107 = (-1))) => ?_)
    · refine hs_k (x := Int32.ofNat 0) (p := 119) (by decide +kernel) ?_
      refine ht_put (M := [(4, 11, 11)]) (T := et_TT) (t := 4) (ci := 2) (f := 11) (p := 122) (ty := .boolean) (by decide +kernel) rfl rfl rfl (by decide +kernel) rfl (by decide +kernel) hH k_a99 (hi_nv (by omega) (by omega)) (fun G119 hH f119 e119 => ?_)
      have hC := hC.fr et_ex.rf f119 (by decide +kernel)
      have hs0 := (f119.2 th 12 k_th 0 rfl).trans hs0
      have hrc := (f119.2 s0 10 k_s0 0 rfl).trans hrc
      have hec := (f119.2 s0 10 k_s0 5 rfl).trans hec
      have hcc := (f119.2 s0 10 k_s0 9 rfl).trans hcc
      have hra := (f119.2 s0 10 k_s0 1 rfl).trans hra
      have hca := (f119.2 s0 10 k_s0 10 rfl).trans hca
      have hce := (f119.2 cl 2 k_cl 1 rfl).trans hce
      have hcr := (f119.2 cl 2 k_cl 2 rfl).trans hcr
      have hf := hf.tr hx0 (f119.wk (by decide +kernel))
      refine hs_aload (i := 1) (p := 123) (by decide +kernel) rfl ?_
      refine ht_getr (T := et_TT) (t := 2) (ci := 0) (f := 0) (p := 126) (by decide +kernel) rfl rfl hH k_cl (fun a123 k_a123 e123 => ?_)
      refine hs_aload (i := 0) (p := 127) (by decide +kernel) rfl ?_
      refine ht_getr (T := et_TT) (t := 12) (ci := 10) (f := 4) (p := 130) (by decide +kernel) rfl rfl hH k_th (fun a127 k_a127 e127 => ?_)
      refine hs_k (x := Int32.ofNat 0) (p := 131) (by decide +kernel) ?_
      have lto_a123 := (hH.2.2 _ _ k_a123).1
      have hfo := hf
      refine ht_callv (T := et_TT) (t := 6) (mi := 60) (na := 2) (ci := 4) (lk := 4) (lm := 4) (L0 := eg_en (eg_mL 60) [.ref a123, .ref a127, .int (Int32.ofNat 0)]) (by decide +kernel) rfl hH k_a123 rfl rfl rfl rfl rfl (by rw [show eg_mL 60 = 4 from by decide +kernel]; first | done | rfl) ?_
      refine (hc_isT (K107, [], G119) [.ref a123, .ref a127, .int (Int32.ofNat 0)] _ hH (by omega) rfl (ht_ac (.inr ⟨by decide, _, rfl, k_a123⟩) (ht_ac (.inr ⟨by decide, _, rfl, k_a127⟩) (ht_ac (hi_nv (by omega) (by omega)) ht_an)))).mono (fun u hu => hs_cbv hu (fun v131 K131 G131 c131 s131 x131 f131 hH hv131 cl131 sl131 => ?_))
      have hC := hC.fr x131 f131 (by decide +kernel)
      have hs0 := (f131.2 th 12 k_th 0 rfl).trans hs0
      have hrc := (f131.2 s0 10 k_s0 0 rfl).trans hrc
      have hec := (f131.2 s0 10 k_s0 5 rfl).trans hec
      have hcc := (f131.2 s0 10 k_s0 9 rfl).trans hcc
      have hra := (f131.2 s0 10 k_s0 1 rfl).trans hra
      have hca := (f131.2 s0 10 k_s0 10 rfl).trans hca
      have hce := (f131.2 cl 2 k_cl 1 rfl).trans hce
      have hcr := (f131.2 cl 2 k_cl 2 rfl).trans hcr
      have k_th := x131 _ _ k_th
      have k_s0 := x131 _ _ k_s0
      have k_ra0 := x131 _ _ k_ra0
      have k_ca0 := x131 _ _ k_ca0
      have k_s1 := x131 _ _ k_s1
      have k_cl := x131 _ _ k_cl
      have k_b5 := x131 _ _ k_b5
      have k_b23 := x131 _ _ k_b23
      have k_a40 := x131 _ _ k_a40
      have k_a48 := x131 _ _ k_a48
      have k_a63 := x131 _ _ k_a63
      have k_a77 := x131 _ _ k_a77
      have k_a88 := x131 _ _ k_a88
      have k_a99 := x131 _ _ k_a99
      have k_a123 := x131 _ _ k_a123
      have k_a127 := x131 _ _ k_a127
      have hf := hf.tr hx0 (f131.wk (by decide +kernel))
      have hx0 := hx0.tr x131
      obtain rfl : c131 = 0 := Nat.le_zero.mp cl131
      obtain rfl : s131 = 0 := Nat.le_zero.mp sl131
      obtain ⟨n131, hn131, rfl⟩ := hi_nat hv131
      show et_go none _ 127 134 _ [.int (Int32.ofNat n131)] _ (0 + c27) (0 + s27) _
      refine hs_zret (by decide +kernel) (hi_z01 (by omega)) ?_
      exact ⟨_, _, rfl, by omega, hx0, hf, hH, hC, (by dsimp only; omega), (by dsimp only; omega)⟩
    · refine hs_k (x := Int32.ofNat 1) (p := 115) (by decide +kernel) ?_
      refine hs_goto (p := 119) (by decide +kernel) ?_
      refine ht_put (M := [(4, 11, 11)]) (T := et_TT) (t := 4) (ci := 2) (f := 11) (p := 122) (ty := .boolean) (by decide +kernel) rfl rfl rfl (by decide +kernel) rfl (by decide +kernel) hH k_a99 (hi_nv (by omega) (by omega)) (fun G119 hH f119 e119 => ?_)
      have hC := hC.fr et_ex.rf f119 (by decide +kernel)
      have hs0 := (f119.2 th 12 k_th 0 rfl).trans hs0
      have hrc := (f119.2 s0 10 k_s0 0 rfl).trans hrc
      have hec := (f119.2 s0 10 k_s0 5 rfl).trans hec
      have hcc := (f119.2 s0 10 k_s0 9 rfl).trans hcc
      have hra := (f119.2 s0 10 k_s0 1 rfl).trans hra
      have hca := (f119.2 s0 10 k_s0 10 rfl).trans hca
      have hce := (f119.2 cl 2 k_cl 1 rfl).trans hce
      have hcr := (f119.2 cl 2 k_cl 2 rfl).trans hcr
      have hf := hf.tr hx0 (f119.wk (by decide +kernel))
      refine hs_aload (i := 1) (p := 123) (by decide +kernel) rfl ?_
      refine ht_getr (T := et_TT) (t := 2) (ci := 0) (f := 0) (p := 126) (by decide +kernel) rfl rfl hH k_cl (fun a123 k_a123 e123 => ?_)
      refine hs_aload (i := 0) (p := 127) (by decide +kernel) rfl ?_
      refine ht_getr (T := et_TT) (t := 12) (ci := 10) (f := 4) (p := 130) (by decide +kernel) rfl rfl hH k_th (fun a127 k_a127 e127 => ?_)
      refine hs_k (x := Int32.ofNat 0) (p := 131) (by decide +kernel) ?_
      have lto_a123 := (hH.2.2 _ _ k_a123).1
      have hfo := hf
      refine ht_callv (T := et_TT) (t := 6) (mi := 60) (na := 2) (ci := 4) (lk := 4) (lm := 4) (L0 := eg_en (eg_mL 60) [.ref a123, .ref a127, .int (Int32.ofNat 0)]) (by decide +kernel) rfl hH k_a123 rfl rfl rfl rfl rfl (by rw [show eg_mL 60 = 4 from by decide +kernel]; first | done | rfl) ?_
      refine (hc_isT (K107, [], G119) [.ref a123, .ref a127, .int (Int32.ofNat 0)] _ hH (by omega) rfl (ht_ac (.inr ⟨by decide, _, rfl, k_a123⟩) (ht_ac (.inr ⟨by decide, _, rfl, k_a127⟩) (ht_ac (hi_nv (by omega) (by omega)) ht_an)))).mono (fun u hu => hs_cbv hu (fun v131 K131 G131 c131 s131 x131 f131 hH hv131 cl131 sl131 => ?_))
      have hC := hC.fr x131 f131 (by decide +kernel)
      have hs0 := (f131.2 th 12 k_th 0 rfl).trans hs0
      have hrc := (f131.2 s0 10 k_s0 0 rfl).trans hrc
      have hec := (f131.2 s0 10 k_s0 5 rfl).trans hec
      have hcc := (f131.2 s0 10 k_s0 9 rfl).trans hcc
      have hra := (f131.2 s0 10 k_s0 1 rfl).trans hra
      have hca := (f131.2 s0 10 k_s0 10 rfl).trans hca
      have hce := (f131.2 cl 2 k_cl 1 rfl).trans hce
      have hcr := (f131.2 cl 2 k_cl 2 rfl).trans hcr
      have k_th := x131 _ _ k_th
      have k_s0 := x131 _ _ k_s0
      have k_ra0 := x131 _ _ k_ra0
      have k_ca0 := x131 _ _ k_ca0
      have k_s1 := x131 _ _ k_s1
      have k_cl := x131 _ _ k_cl
      have k_b5 := x131 _ _ k_b5
      have k_b23 := x131 _ _ k_b23
      have k_a40 := x131 _ _ k_a40
      have k_a48 := x131 _ _ k_a48
      have k_a63 := x131 _ _ k_a63
      have k_a77 := x131 _ _ k_a77
      have k_a88 := x131 _ _ k_a88
      have k_a99 := x131 _ _ k_a99
      have k_a123 := x131 _ _ k_a123
      have k_a127 := x131 _ _ k_a127
      have hf := hf.tr hx0 (f131.wk (by decide +kernel))
      have hx0 := hx0.tr x131
      obtain rfl : c131 = 0 := Nat.le_zero.mp cl131
      obtain rfl : s131 = 0 := Nat.le_zero.mp sl131
      obtain ⟨n131, hn131, rfl⟩ := hi_nat hv131
      show et_go none _ 127 134 _ [.int (Int32.ofNat n131)] _ (0 + c27) (0 + s27) _
      refine hs_zret (by decide +kernel) (hi_z01 (by omega)) ?_
      exact ⟨_, _, rfl, by omega, hx0, hf, hH, hC, (by dsimp only; omega), (by dsimp only; omega)⟩
theorem hn_ctI {y : Int32} {c ck sk : Nat} (hH : et_H et_TT K G) (hx0 : et_ex K0 K) (hf : et_fr ct_M K0 G0 G) (hC : ci_O K G th s0 s1 ra0 ca0 rc0 ec0 cc0 ra1 ca1 rc1 ec1 cc1) (hc : c ≤ 6) (hck : ck ≤ c) (hsk : sk ≤ 1024 * c) : et_go none (d + 36) 126 98 [some (.ref th), some (.int x), some (.int y), some (.int (Int32.ofNat c))] [] G ck sk (pr_Z ct_M K0 G0 th [] 6 6144 (fun _ => True)) := by
  induction hm : 6 - c using Nat.strongRecOn generalizing c y ck sk K G with
  | _ z ih =>
    have hs0 := hC.2.1.1
    have hrc := hC.2.2.2.1.2.2.1.1
    have hec := hC.2.2.2.1.2.2.1.2.1
    have hcc := hC.2.2.2.1.2.2.1.2.2
    have hra := hC.2.2.2.1.2.1.1
    have hca := hC.2.2.2.1.2.1.2
    have k_th := hC.1
    have k_s0 := hC.2.2.2.1.1.1
    have k_ra0 := hC.2.2.2.1.1.2.1
    have k_ca0 := hC.2.2.2.1.1.2.2
    obtain ⟨hr4, he3, hc6⟩ := hC.2.2.2.1.2.2.2.1
    have h1s := hC.2.1.2
    have k_s1 := hC.2.2.2.2.1.1
    refine hs_iload (i := 3) (p := 99) (by decide +kernel) rfl ?_
    refine hs_aload (i := 0) (p := 100) (by decide +kernel) rfl ?_
    refine ht_getr (T := et_TT) (t := 12) (ci := 10) (f := 0) (p := 103) (by decide +kernel) rfl rfl hH k_th (fun a100 k_a100 e100 => ?_)
    obtain rfl : s0 = a100 := Value.ref.inj (Option.some.inj (hs0.symm.trans e100))
    refine ht_getn (T := et_TT) (t := 10) (ci := 8) (f := 9) (p := 106) (by decide +kernel) rfl rfl hH k_s0 (fun c103 h103 e103 => ?_)
    obtain rfl : cc0 = c103 := hb_cc hcc e103 (by omega) (by omega)
    refine hs_br2n (c := .ge) (t := 151) (f := 109) (by decide +kernel) (by omega) (by omega) (fun (c106 : cc0 ≤ c) => ?_) (fun (c106 : ¬ (cc0 ≤ c)) => ?_)
    · refine hs_iload (i := 2) (p := 152) (by decide +kernel) rfl ?_
      refine hs_iret (by decide +kernel) ?_
      exact ⟨_, hx0, hf, hH, hC.i, trivial, .inl ⟨_, rfl⟩, (by dsimp only; omega), (by dsimp only; omega)⟩
    · refine hs_iload (i := 2) (p := 110) (by decide +kernel) rfl ?_
      refine hs_aload (i := 0) (p := 111) (by decide +kernel) rfl ?_
      refine ht_getr (T := et_TT) (t := 12) (ci := 10) (f := 0) (p := 114) (by decide +kernel) rfl rfl hH k_th (fun a111 k_a111 e111 => ?_)
      obtain rfl : s0 = a111 := Value.ref.inj (Option.some.inj (hs0.symm.trans e111))
      refine ht_getr (T := et_TT) (t := 10) (ci := 8) (f := 10) (p := 117) (by decide +kernel) rfl rfl hH k_s0 (fun a114 k_a114 e114 => ?_)
      obtain rfl : ca0 = a114 := Value.ref.inj (Option.some.inj (hca.symm.trans e114))
      refine hs_iload (i := 3) (p := 118) (by decide +kernel) rfl ?_
      refine ht_aald (T := et_TT) (t := 39) (N := 6) (kd := 8) (m := 5) (p := 119) (by decide +kernel) rfl rfl hH k_ca0 (by omega) (by omega) (by decide) (fun v118 h118 e118 => ?_)
      obtain ⟨cl, e, q, ecl, k_cl, hce, hcr, hE, hR⟩ := hC.2.2.2.1.2.2.2.2.2 c (by omega)
      obtain rfl : v118 = .ref cl := Option.some.inj (e118.symm.trans ecl)
      refine hs_ifnull1 (p := 122) (by decide +kernel) ?_
      refine hs_aload (i := 0) (p := 123) (by decide +kernel) rfl ?_
      refine hs_aload (i := 0) (p := 124) (by decide +kernel) rfl ?_
      refine ht_getr (T := et_TT) (t := 12) (ci := 10) (f := 0) (p := 127) (by decide +kernel) rfl rfl hH k_th (fun a124 k_a124 e124 => ?_)
      obtain rfl : s0 = a124 := Value.ref.inj (Option.some.inj (hs0.symm.trans e124))
      refine ht_getr (T := et_TT) (t := 10) (ci := 8) (f := 10) (p := 130) (by decide +kernel) rfl rfl hH k_s0 (fun a127 k_a127 e127 => ?_)
      obtain rfl : ca0 = a127 := Value.ref.inj (Option.some.inj (hca.symm.trans e127))
      refine hs_iload (i := 3) (p := 131) (by decide +kernel) rfl ?_
      refine ht_aald (T := et_TT) (t := 39) (N := 6) (kd := 8) (m := 5) (p := 132) (by decide +kernel) rfl rfl hH k_ca0 (by omega) (by omega) (by decide) (fun v131 h131 e131 => ?_)
      obtain rfl : v131 = .ref cl := Option.some.inj (e131.symm.trans ecl)
      have hfo := hf
      refine ht_callv (T := et_TT) (t := 12) (mi := 127) (na := 1) (ci := 10) (lk := 4) (lm := 4) (L0 := eg_en (eg_mL 127) [.ref th, .ref cl]) (by decide +kernel) rfl hH k_th rfl rfl rfl rfl rfl (by rw [show eg_mL 127 = 4 from by decide +kernel]; first | done | rfl) ?_
      refine (hc_itn hH hC k_cl hce hcr hE hR (by omega)).mono (fun u hu => it_cb hu (fun K132 G132 n132 c132 s132 x132 f132 hH hC hn132 cl132 sl132 => ?_))
      have hs0 := (f132.2 th 12 k_th 0 rfl).trans hs0
      have hrc := (f132.2 s0 10 k_s0 0 rfl).trans hrc
      have hec := (f132.2 s0 10 k_s0 5 rfl).trans hec
      have hcc := (f132.2 s0 10 k_s0 9 rfl).trans hcc
      have hra := (f132.2 s0 10 k_s0 1 rfl).trans hra
      have hca := (f132.2 s0 10 k_s0 10 rfl).trans hca
      have k_th := x132 _ _ k_th
      have k_s0 := x132 _ _ k_s0
      have k_ra0 := x132 _ _ k_ra0
      have k_ca0 := x132 _ _ k_ca0
      have k_s1 := x132 _ _ k_s1
      have k_cl := x132 _ _ k_cl
      have hf := hf.tr hx0 (f132.wk (by decide +kernel))
      have hx0 := hx0.tr x132
      show et_go none _ 126 135 _ [.int (Int32.ofNat n132), .int y] _ (ck + c132) (sk + s132) _
      refine hs_br1 (c := .eq) (t := 142) (f := 138) (by decide +kernel) (fun (c135 : Int32.ofNat n132 = 0) => ?_) (fun (c135 : ¬ (Int32.ofNat n132 = 0)) => ?_)
      · refine hs_k (x := Int32.ofNat 0) (p := 143) (by decide +kernel) ?_
        refine hs_iadd (p := 144) (by decide +kernel) ?_
        refine hs_istore (i := 2) (p := 145) (by decide +kernel) (Nat.le_of_ble_eq_true rfl) ?_
        refine hs_iinc1 (i := 3) (p := 148) (by decide +kernel) rfl (Nat.le_of_ble_eq_true rfl) ?_
        refine hs_goto (p := 98) (by decide +kernel) ?_
        show et_go none (d + 36) 126 98 [some (.ref th), some (.int x), some (.int (y + Int32.ofNat 0)), some (.int (Int32.ofNat (c + 1)))] [] _ _ _ _
        exact ih (6 - (c + 1)) (by omega) (c := c + 1) hH hx0 hf hC (by omega) (by omega) (by omega) rfl
      · refine hs_k (x := Int32.ofNat 1) (p := 139) (by decide +kernel) ?_
        refine hs_goto (p := 143) (by decide +kernel) ?_
        refine hs_iadd (p := 144) (by decide +kernel) ?_
        refine hs_istore (i := 2) (p := 145) (by decide +kernel) (Nat.le_of_ble_eq_true rfl) ?_
        refine hs_iinc1 (i := 3) (p := 148) (by decide +kernel) rfl (Nat.le_of_ble_eq_true rfl) ?_
        refine hs_goto (p := 98) (by decide +kernel) ?_
        show et_go none (d + 36) 126 98 [some (.ref th), some (.int x), some (.int (y + Int32.ofNat 1)), some (.int (Int32.ofNat (c + 1)))] [] _ _ _ _
        exact ih (6 - (c + 1)) (by omega) (c := c + 1) hH hx0 hf hC (by omega) (by omega) (by omega) rfl
theorem hc_countI (hH : et_H et_TT K G) (hci : ci K G th) (hd : 36 ≤ d2) : et_go none d2 126 0 (eg_en (eg_mL 126) [.ref th, .int x]) [] G 0 0 (pr_Z ct_M K G th [] 6 6144 (fun _ => True)) := by
  have k_th : K th = some 12 := by
    obtain ⟨s0, s1, ra0, ca0, rc0, ec0, cc0, ra1, ca1, rc1, ec1, cc1, hC⟩ := hci
    exact hC.1
  by_cases h1 : x.toInt ≤ 5
  · exact (hc_ctnA (K, [], G) [.ref th, .int x] d2 hH hd rfl (ht_ac (.inr ⟨by decide, _, rfl, k_th⟩) (ht_ac (hi_iv (by have := x.le_toInt; exact this) h1) ht_an))).mono (fun u hu => pr_of hu hci (by decide +kernel))
  by_cases h2 : 7 ≤ x.toInt
  · exact (hc_ctnC (K, [], G) [.ref th, .int x] d2 hH hd rfl (ht_ac (.inr ⟨by decide, _, rfl, k_th⟩) (ht_ac (hi_iv h2 (by have := x.toInt_lt; show x.toInt ≤ 2147483647; omega)) ht_an))).mono (fun u hu => pr_of hu hci (by decide +kernel))
  obtain rfl : x = Int32.ofNat 6 := Int32.toInt_inj.mp (by rw [hs_nint (by decide)]; omega)
  obtain ⟨s0, s1, ra0, ca0, rc0, ec0, cc0, ra1, ca1, rc1, ec1, cc1, hC⟩ := hci
  obtain ⟨d, rfl⟩ : ∃ d, d2 = d + 36 := ⟨d2 - 36, by omega⟩
  rw [show eg_mL 126 = 4 from by decide +kernel]
  show et_go none (d + 36) 126 0 [some (.ref th), some (.int (Int32.ofNat 6)), none, none] [] G 0 0 _
  refine hs_k (x := Int32.ofNat 0) (p := 1) (by decide +kernel) ?_
  refine hs_istore (i := 2) (p := 2) (by decide +kernel) (Nat.le_of_ble_eq_true rfl) ?_
  refine hs_iload (i := 1) (p := 3) (by decide +kernel) rfl ?_
  refine hs_st (ins := .tableswitch 158 0 7 #[45, 53, 61, 69, 77, 85, 93, 150]) (len := 45) (by decide +kernel) rfl (by rfl) (?_ : et_go none (d + 36) 126 96 _ _ _ _ _ _)
  refine hs_k (x := Int32.ofNat 0) (p := 97) (by decide +kernel) ?_
  refine hs_istore (i := 3) (p := 98) (by decide +kernel) (Nat.le_of_ble_eq_true rfl) ?_
  exact hn_ctI hH et_ex.rf et_fr.rf hC (Nat.zero_le _) (Nat.zero_le _) (Nat.zero_le _)
end PPL
