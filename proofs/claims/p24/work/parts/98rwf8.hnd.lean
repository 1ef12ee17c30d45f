section
/-! blind in the law's words -/
def lkP (K : et_K) (G : eg_G) (th i : Nat) : Prop := ∃ lk ks fs p, (K lk = some 5 ∧ K ks = some 23 ∧ K fs = some 23) ∧ ¬ ks = fs ∧ et_pl (eg_at G th) 11 = some (.ref lk) ∧ lkR G lk ks fs p ∧ p ≤ i
def lk_k (M : et_M) : Bool := !et_mm M 12 11 && (no_t M 5 && no_t M 23)
section ATA
variable {K K' : et_K} {G G' : eg_G} {M : et_M} {th i j lk ks fs p : Nat}
theorem lkR.fr (h : lkR G lk ks fs p) (k1 : K lk = some 5) (k2 : K fs = some 23) (hf : et_fr M K G G') (h5 : no_t M 5 = true) (h23 : no_t M 23 = true) : lkR G' lk ks fs p :=
  ⟨(hf.2 lk 5 k1 0 (no_mm h5)).trans h.1, (hf.2 lk 5 k1 1 (no_mm h5)).trans h.2.1, (hf.2 lk 5 k1 2 (no_mm h5)).trans h.2.2.1, fun s hs => (h.2.2.2 s hs).elim (fun y hy => ⟨y, (hf.2 fs 23 k2 s (no_mm h23)).trans hy.1, hy.2⟩)⟩
theorem lkP.fr (h : lkP K G th i) (k_th : K th = some 12) (hx : et_ex K K') (hf : et_fr M K G G') (hM : lk_k M = true) : lkP K' G' th i := by
  obtain ⟨lk, ks, fs, p, ⟨k1, k2, k3⟩, hne, h11, hl, hp⟩ := h
  unfold lk_k at hM
  rw [Bool.and_eq_true, Bool.and_eq_true] at hM
  have h0 : et_mm M 12 11 = false := by
    have h9 := hM.1
    cases h8 : et_mm M 12 11
    · rfl
    · rw [h8] at h9
      exact absurd h9 (by decide)
  exact ⟨lk, ks, fs, p, ⟨hx _ _ k1, hx _ _ k2, hx _ _ k3⟩, hne, (hf.2 th 12 k_th 11 h0).trans h11, hl.fr k1 k3 hf hM.2.1 hM.2.2, hp⟩
theorem lkP.le (h : lkP K G th i) (hj : i ≤ j) : lkP K G th j := by
  obtain ⟨lk, ks, fs, p, k, hne, h11, hl, hp⟩ := h
  exact ⟨lk, ks, fs, p, k, hne, h11, hl, Nat.le_trans hp hj⟩
/-- a new one -/
def lkQ (K : et_K) (G : eg_G) (lk : Nat) : Prop := ∃ ks fs, (K lk = some 5 ∧ K ks = some 23 ∧ K fs = some 23) ∧ ¬ ks = fs ∧ (et_pl (eg_at G lk) 0 = some (.ref ks) ∧ et_pl (eg_at G lk) 1 = some (.ref fs) ∧ et_pl (eg_at G lk) 2 = some (.int (Int32.ofNat 0))) ∧ eg_at G fs = .inl (0, (65536, .inl (fun _ => 0)))
theorem lkQ.co (h : lkQ K G lk) (g : ∀ b t, K b = some t → K' b = some t ∧ eg_at G' b = eg_at G b) : lkQ K' G' lk := by
  obtain ⟨ks, fs, ⟨k1, k2, k3⟩, hne, ⟨e0, e1, e2⟩, e3⟩ := h
  refine ⟨ks, fs, ⟨(g _ _ k1).1, (g _ _ k2).1, (g _ _ k3).1⟩, hne, ?_, ?_⟩
  · rw [(g _ _ k1).2]
    exact ⟨e0, e1, e2⟩
  · rw [(g _ _ k3).2]
    exact e3
theorem lkQ.pk (h : lkQ K G lk) (hH : et_H et_TT K G) (hk : pk K G K' G') : lkQ K' G' lk := h.co (fun b t hb => ⟨((hk.2 b (hH.2.2 _ _ hb).1).1).trans hb, (hk.2 b (hH.2.2 _ _ hb).1).2⟩)
theorem lkQ.he {a : Nat} {c9 : eg_C} (h : lkQ K G lk) (hu : puc K G a c9) (he : ∀ b, ¬ b = a → eg_at G' b = eg_at G b) : lkQ K G' lk := h.co (fun b t hb => ⟨hb, he b (puc_ne hu hb)⟩)
theorem lkQ.kn {a t : Nat} {c9 : eg_C} (h : lkQ K G lk) (hu : puc K G a c9) : lkQ (et_kn K a t) G lk := h.co (fun b t hb => ⟨et_kn_k hu hb, rfl⟩)
theorem lkQ.P (h : lkQ K G lk) (e : et_pl (eg_at G th) 11 = some (.ref lk)) : lkP K G th 0 := by
  obtain ⟨ks, fs, k, hne, ⟨e0, e1, e2⟩, e3⟩ := h
  refine ⟨lk, ks, fs, 0, k, hne, e, ⟨e0, e1, e2, fun s hs => ⟨0, ?_, ?_⟩⟩, Nat.le_refl 0⟩
  · rw [e3, hf_pl (.inl rfl), if_pos hs]
  · decide
end ATA
section ATB
variable {K : et_K} {G : eg_G} {d d2 th s0 s1 ya yb ec nc la ly out e ca ki kn am aw n m k c q a b : Nat} {O : Nat → Nat} {A : Nat → Nat → Nat} {v : evT} {V : Nat → evT} {X : Nat → Int32} {Y : Nat → Nat} {x y z : Int32} {ra rc fo r lk ks fs p : Nat} {D : Nat → Prop} {φ : Nat → sp_E → Bool} {R0 : Nat → Nat} {g : Nat → sp_E → Bool}
theorem fz_bl (hH : et_H et_TT K G) (k_th0 : K th = some 12) (h00 : et_pl (eg_at G th) 0 = some (.ref s0)) (k_s00 : K s0 = some 10) (k_s1 : K s1 = some 10) (h5 : et_pl (eg_at G s0) 5 = some (.int (Int32.ofNat ec))) (hec : ec ≤ 3) (t : ezK K ya yb O A) (hz : ez G th s0 s1 ya yb O A V) (ho : ∀ n, n < 6 → evo (V n)) (g2 : et_pl (eg_at G s0) 2 = some (.int (Int32.ofNat nc))) (hnc : nc ≤ 20) (hcc : ccP G s0 la ly nc X Y) (k_la : K la = some 17) (k_ly : K ly = some 27) (k_out : K out = some 31) (tR : rxK K D φ th s0 ra fo) (hx9 : rx D φ th s0 ra rc fo G) (hR : ∀ k, k < rc → D (R0 k) ∧ et_pl (eg_at G ra) k = some (.ref (R0 k))) (h11 : et_pl (eg_at G th) 11 = some (.ref lk)) (k_lk : K lk = some 5) (k_ks : K ks = some 23) (k_fs : K fs = some 23) (hne : ¬ ks = fs) (hlk : lkR G lk ks fs p) (hp : p < 32767) (hd : 35 ≤ d2) : et_go none d2 18 0 (eg_en (eg_mL 18) [.ref th, .int x, .int y, .ref out]) [] G 0 0 (fun u => (∃ p9, p9 ≤ p + 1 ∧ lkR u.2.1 lk ks fs p9) ∧ ((¬ (xr x ec ∧ (y = (-1) ∨ xr y rc)) ∧ u.1 = .inl (some (.int (Int32.ofNat 1)))) ∨ (∃ n, (x = Int32.ofNat n ∧ y = (-1) ∧ n < ec) ∧ u.1 = .inl (some (.int (Int32.ofNat 0))) ∧ et_pl (eg_at u.2.1 out) 0 = some (.long (bpV (V n) X Y nc).toInt64)) ∨ ∃ n r, (x = Int32.ofNat n ∧ y = Int32.ofNat r) ∧ (n < ec ∧ r < rc) ∧ ¬ y = (-1) ∧ u.1 = .inl (some (.int (Int32.ofNat 0))) ∧ et_pl (eg_at u.2.1 out) 0 = some (.long (blI (cdV (V n)) (ruN (φ (R0 r)))).toInt64))) := by
  obtain ⟨hrk, ⟨h0, h4⟩, ⟨r0, r1, hrc⟩, hq⟩ := hx9
  obtain ⟨tD, k_th, k_s0, k_ra, k_fo⟩ := tR
  have hRn : ∀ n, n < rc → ∃ q, et_pl (eg_at G ra) n = some (.ref q) := fun n hn => (hq n hn).elim (fun q hq2 => ⟨q, hq2.2⟩)
  by_cases hx : xr x ec
  · obtain ⟨n, rfl, hn⟩ := xr_nat hx (by omega)
    have hE := (hz.2.1 n (by omega)).1
    by_cases hm : y = (-1)
    · subst hm
      exact (fh_blP hH k_th h0 k_s0 h5 hec hz.1.1 t.1.1 hn hE (t.ev (ho n (by omega)) (by omega)) (hz.2.2.1 n (by omega)) g2 hcc hnc k_la k_ly k_lk k_ks k_fs hne hlk k_out (by omega)).mono (fun u hu => ⟨⟨p, Nat.le_succ p, hu.2.2⟩, .inr (.inl ⟨n, ⟨rfl, rfl, hn⟩, hu.1, hu.2.1⟩)⟩)
    · by_cases hy : xr y rc
      · obtain ⟨r, rfl, hr⟩ := xr_nat hy (by omega)
        obtain ⟨hDn, hRr⟩ := hR r hr
        obtain ⟨bb, lo, hi, q0, hdn, hTb⟩ := hrk _ hDn
        obtain ⟨k_q, hcl⟩ := tD _ hDn
        exact (fh_bl hH k_th h0 k_s0 h5 hec hz.1.1 t.1.1 hn hE (t.ev (ho n (by omega)) (by omega)) (hz.2.2.1 n (by omega)) r0 hrc r1 k_ra hr hRr k_q q0 (cond_ty hH k_q q0) hdn hTb hcl h4 k_fo h11 k_lk k_ks k_fs hne hlk hp k_out hd).mono (fun u hu => ⟨⟨p + 1, Nat.le_refl _, hu.2.2⟩, .inr (.inr ⟨n, r, ⟨rfl, rfl⟩, ⟨hn, hr⟩, hm, hu.1, hu.2.1⟩)⟩)
      · exact (fh_blR hH k_th h0 k_s0 h5 hec hz.1.1 t.1.1 hn hE r0 hrc r1 k_ra hRn hy hm (by omega)).mono (fun u hu => ⟨⟨p, Nat.le_succ p, by rw [hu.2]; exact hlk⟩, .inl ⟨fun h => h.2.elim hm hy, hu.1⟩⟩)
  · exact (fh_blE hH k_th h0 k_s0 h5 hec hz.1.1 t.1.1 hx (by omega)).mono (fun u hu => ⟨⟨p, Nat.le_succ p, by rw [hu.2]; exact hlk⟩, .inl ⟨fun h => hx h.1, hu.1⟩⟩)
theorem gz_bl (hH : et_H et_TT K G) (k_am : K am = some 13) (k_aw : K aw = some 46) (m1 : et_pl (eg_at G am) 1 = some (.ref aw)) (w0 : et_pl (eg_at G aw) 0 = some (.int (Int32.ofNat rc))) (hrc : rc ≤ 4) (w4 : et_pl (eg_at G aw) 4 = some (.int (Int32.ofNat ec))) (hec : ec ≤ 3) (hm : zyM G aw ec V) (ho : ∀ n, n < 3 → evo (V n)) (hT : ∀ r, r < rc → txP G aw (126 + 841 * r) 0 (g r) ∧ fcl (g r)) (hky : kyA G am aw rc) (w3 : et_pl (eg_at G aw) 3 = some (.int (Int32.ofNat nc))) (hnc : nc ≤ 20) (hcr : crP G aw nc X Y) (hd : 8 ≤ d2) : et_go none d2 262 0 (eg_en (eg_mL 262) [.ref am, .int x, .int y]) [] G 0 0 (fun u => (¬ (xr x ec ∧ (y = (-1) ∨ xr y rc)) ∧ u.1 = .inl (some (.int (Int32.ofNat 0))) ∧ et_pl (eg_at u.2.1 am) 0 = some (.int (Int32.ofNat 1))) ∨ (∃ n, (x = Int32.ofNat n ∧ y = (-1) ∧ n < ec) ∧ u.1 = .inl (some (.int (bpV (V n) X Y nc))) ∧ et_pl (eg_at u.2.1 am) 0 = some (.int (Int32.ofNat 0))) ∨ ∃ n r, (x = Int32.ofNat n ∧ y = Int32.ofNat r) ∧ (n < ec ∧ r < rc) ∧ ¬ y = (-1) ∧ u.1 = .inl (some (.int (blI (cdV (V n)) (ruN (g r))))) ∧ et_pl (eg_at u.2.1 am) 0 = some (.int (Int32.ofNat 0))) := by
  by_cases hx : xr x ec
  · obtain ⟨n, rfl, hn⟩ := xr_nat hx (by omega)
    by_cases hm1 : y = (-1)
    · subst hm1
      exact (fn_blP hH k_am k_aw m1 w0 hrc w4 hec hm ho hT hky w3 hnc hcr hn hd).mono (fun u hu => .inr (.inl ⟨n, ⟨rfl, rfl, hn⟩, hu.1, hu.2⟩))
    · by_cases hy : xr y rc
      · obtain ⟨r, rfl, hr⟩ := xr_nat hy (by omega)
        exact (fn_bl hH k_am k_aw m1 w0 hrc w4 hec hm ho hT hky w3 hnc hcr hn hr hd).mono (fun u hu => .inr (.inr ⟨n, r, ⟨rfl, rfl⟩, ⟨hn, hr⟩, hm1, hu.1, hu.2⟩))
      · exact (fn_blR hH k_am k_aw m1 w0 hrc w4 hec hm ho hT hky w3 hnc hcr hn hy hm1 (by omega)).mono (fun u hu => .inl ⟨fun h => h.2.elim hm1 hy, hu.1, hu.2⟩)
  · exact (fn_blE hH k_am k_aw m1 w0 hrc w4 hec hm ho hT hky w3 hnc hcr hx (by omega)).mono (fun u hu => .inl ⟨fun h => hx h.1, hu.1, hu.2⟩)
end ATB
end
section
section AUA
variable {K : et_K} {G : eg_G} {a : Nat}
theorem pi_likes7 {d2 : Nat} (hu : puc K G a (.inr (3, [.null, .null, .int 0]))) (hd : 0 ≤ d2) : et_go none d2 57 0 (eg_en (eg_mL 57) [.ref a]) [] G 0 0 (pi_Z K G a 5 2 131072 (fun K' G' => lkQ K' G' a)) := by
  have hq : pq a K G K G := pq.rf
  have hua := hu.2.2.2.1
  have hq0 : G.2 ≤ G.2 := Nat.le_refl _
  rw [show eg_mL 57 = 1 from by decide +kernel]
  show et_go none d2 57 0 [some (.ref a)] [] G 0 0 _
  refine hs_aload (i := 0) (p := 1) (by decide +kernel) rfl ?_
  refine hs_skip (lk := 1) (p := 4) (by decide +kernel) rfl rfl ?_
  refine hs_aload (i := 0) (p := 5) (by decide +kernel) rfl ?_
  refine hs_kld (v := .int (Int32.ofNat 65536)) (p := 7) (by decide +kernel) ?_
  have hHo := hu.1
  refine ht_nb (t := 23) (n := 65536) (kd := 0) (p := 9) (by decide +kernel) rfl (by decide +kernel) ⟨by decide +kernel, by decide +kernel, by decide +kernel⟩ (by omega) (by omega) hu.1 (fun K7 G7 b7 hk hH k_b7 hg_b7 hz_b7 => ?_)
  have hg_b7 := Nat.le_trans hq.1 hg_b7
  have hu := hk.un hH hu
  have hq := hq.mo hk
  have cz_b7 := hz_b7 rfl
  have hu0 := hu
  refine hs_puti (ci := 3) (f := 0) (ty := .array .int) (v := .ref b7) (p := 12) (by decide +kernel) hu (Nat.le_of_ble_eq_true rfl) rfl (fun G9 hu he e2 => ?_)
  have hu : puc _ _ a (.inr (3, [.ref b7, .null, .int 0])) := hu
  have hq := hq.pt he e2
  have cz_b7 := (he b7 (puc_ne hu0 k_b7)).trans cz_b7
  refine hs_aload (i := 0) (p := 13) (by decide +kernel) rfl ?_
  refine hs_kld (v := .int (Int32.ofNat 65536)) (p := 15) (by decide +kernel) ?_
  have hHo := hu.1
  refine ht_nb (t := 23) (n := 65536) (kd := 0) (p := 17) (by decide +kernel) rfl (by decide +kernel) ⟨by decide +kernel, by decide +kernel, by decide +kernel⟩ (by omega) (by omega) hu.1 (fun K15 G15 b15 hk hH k_b15 hg_b15 hz_b15 => ?_)
  have hl_b7_b15 : b7 < b15 := Nat.lt_of_lt_of_le (hHo.2.2 _ _ k_b7).1 hg_b15
  have hg_b15 := Nat.le_trans hq.1 hg_b15
  have hu := hk.un hH hu
  have hq := hq.mo hk
  have cz_b7 := ((hk.2 b7 (hHo.2.2 _ _ k_b7).1).2).trans cz_b7
  have k_b7 := hk.ty hHo k_b7
  have cz_b15 := hz_b15 rfl
  have hu0 := hu
  refine hs_puti (ci := 3) (f := 1) (ty := .array .int) (v := .ref b15) (p := 20) (by decide +kernel) hu (Nat.le_of_ble_eq_true rfl) rfl (fun G17 hu he e2 => ?_)
  have hu : puc _ _ a (.inr (3, [.ref b7, .ref b15, .int 0])) := hu
  have hq := hq.pt he e2
  have cz_b7 := (he b7 (puc_ne hu0 k_b7)).trans cz_b7
  have cz_b15 := (he b15 (puc_ne hu0 k_b15)).trans cz_b15
  obtain ⟨hHt, kt⟩ := puc_typ (t := 5) hu (by decide) rfl ⟨_, rfl, rfl, fun k p hk => by
      match k, hk with
      | 0, hk => cases hk; exact ⟨_, rfl, .inr (.inr ⟨by decide, _, rfl, k_b7⟩)⟩
      | 1, hk => cases hk; exact ⟨_, rfl, .inr (.inr ⟨by decide, _, rfl, k_b15⟩)⟩
      | 2, hk => cases hk; exact ⟨_, rfl, .inr ⟨_, rfl, by decide, by decide⟩⟩
      | n + 3, hk => cases hk⟩ ⟨fun h => absurd h (by decide), fun h => absurd h (by decide)⟩
  refine hs_vret (by decide +kernel) ?_
  exact ⟨_, hq.ty (.inl rfl), hHt, kt, rfl, rfl, rfl, ⟨b7, b15, ⟨kt, et_kn_k hu k_b7, et_kn_k hu k_b15⟩, Nat.ne_of_lt hl_b7_b15, ⟨by rw [hu.2.2.2.2]; rfl, by rw [hu.2.2.2.2]; rfl, by rw [hu.2.2.2.2]; rfl⟩, cz_b15⟩⟩
theorem pi_knob7 {d2 : Nat} (hu : puc K G a (.inr (10, [.null, .null, .int 0, .null, .null, .null, .int 0, .int 0, .null, .null, .int 0, .null]))) (hd : 2 ≤ d2) : et_go none d2 115 0 (eg_en (eg_mL 115) [.ref a]) [] G 0 0 (pi_Z K G a 12 79 136123 (fun K' G' => (((∃ rd, et_pl (eg_at G' a) 3 = some (.ref rd) ∧ K' rd = some 7 ∧ et_pl (eg_at G' rd) 1 = some (.int (Int32.ofNat 0)) ∧ ∃ ba na, et_pl (eg_at G' rd) 5 = some (.ref ba) ∧ et_pl (eg_at G' rd) 6 = some (.ref na) ∧ ¬ ba = na) ∧ ∃ s0 s1 ra0 ca0 ra1 ca1, K' a = some 12 ∧ (et_pl (eg_at G' a) 0 = some (.ref s0) ∧ et_pl (eg_at G' a) 1 = some (.ref s1)) ∧ (¬ s0 = s1 ∧ ¬ ra0 = ra1 ∧ ¬ ca0 = ca1) ∧ pi_T K' G' s0 ra0 ca0 ∧ pi_T K' G' s1 ra1 ca1 ∧ ∃ la0 ya0 la1 ya1 ta0 ta1, (et_pl (eg_at G' s0) 3 = some (.ref la0) ∧ et_pl (eg_at G' s0) 4 = some (.ref ya0) ∧ et_pl (eg_at G' s1) 3 = some (.ref la1) ∧ et_pl (eg_at G' s1) 4 = some (.ref ya1)) ∧ (K' la0 = some 17 ∧ K' ya0 = some 27 ∧ K' la1 = some 17 ∧ K' ya1 = some 27) ∧ (¬ la0 = la1 ∧ ¬ ya0 = ya1) ∧ (et_pl (eg_at G' s0) 8 = some (.ref ta0) ∧ et_pl (eg_at G' s1) 8 = some (.ref ta1) ∧ K' ta0 = some 38 ∧ K' ta1 = some 38 ∧ ¬ ta0 = ta1) ∧ ez0 K' G' a s0 s1) ∧ et_pl (eg_at G' a) 2 = some (.int (Int32.ofNat 0))) ∧ ∃ lk, et_pl (eg_at G' a) 11 = some (.ref lk) ∧ lkQ K' G' lk)) := by
  obtain ⟨d, rfl⟩ : ∃ d, d2 = d + 2 := ⟨d2 - 2, by omega⟩
  have hq : pq a K G K G := pq.rf
  have hua := hu.2.2.2.1
  have hq0 : G.2 ≤ G.2 := Nat.le_refl _
  rw [show eg_mL 115 = 1 from by decide +kernel]
  show et_go none (d + 2) 115 0 [some (.ref a)] [] G 0 0 _
  refine hs_aload (i := 0) (p := 1) (by decide +kernel) rfl ?_
  refine hs_skip (lk := 1) (p := 4) (by decide +kernel) rfl rfl ?_
  refine hs_aload (i := 0) (p := 5) (by decide +kernel) rfl ?_
  have hHo := hu.1
  refine ht_newV (ci := 8) (n := 11) (fs := [.int 0, .null, .int 0, .null, .null, .int 0, .null, .int 0, .null, .int 0, .null]) (p := 8) (by decide +kernel) (by omega) (by omega) (by decide +kernel) (by decide +kernel) hu.1 (fun G5 o0 ho hge hlt he => ?_)
  have hgo_o0 := Nat.le_trans hq.1 hge
  refine hs_dup1 (p := 9) (by decide +kernel) ?_
  refine hs_callp (mi := 101) (na := 0) (lk := 1) (lm := 2) (L0 := eg_en (eg_mL 101) [.ref o0]) (by decide +kernel) rfl rfl rfl rfl rfl (by rw [show eg_mL 101 = 2 from by decide +kernel]; first | done | rfl) ?_
  refine (pi_state5 ho (by omega)).mono (fun u hZ => pi_cb hZ (fun K9 G9 hq2 hH k_o0 hP => ?_))
  have hk := pk_of hq2 hge hlt he
  have hu := hk.un hH hu
  have hq := hq.mo hk
  obtain ⟨ra_o0, ca_o0, f1_o0, f10_o0, gr_o0, gc_o0, k_ra_o0, k_ca_o0, f0_o0, f5_o0, f9_o0, f2_o0, f7_o0, la_o0, ya_o0, ta_o0, ⟨f3_o0, f4_o0, f8_o0⟩, ⟨k_la_o0, k_ya_o0, k_ta_o0⟩, ⟨gl_o0, gy_o0, gt_o0⟩, ea_o0, ⟨f6_o0, k_ea_o0⟩, oa_o0, Aa_o0, Ba_o0, Ca_o0, ob_o0, Ab_o0, Bb_o0, Cb_o0, oc_o0, Ac_o0, Bc_o0, Cc_o0, ⟨e0_o0, e1_o0, e2_o0⟩, ⟨ho0_o0, ho1_o0, ho2_o0⟩, Qa_o0, Qb_o0, Qc_o0⟩ := hP
  show et_go none _ 115 12 _ [.ref o0, .ref a] _ 19 146 _
  have hu0 := hu
  refine hs_puti (ci := 10) (f := 0) (ty := .object "KnobEye$State") (v := .ref o0) (p := 15) (by decide +kernel) hu (Nat.le_of_ble_eq_true rfl) rfl (fun G12 hu he e2 => ?_)
  have hu : puc _ _ a (.inr (10, [.ref o0, .null, .int 0, .null, .null, .null, .int 0, .int 0, .null, .null, .int 0, .null])) := hu
  have hq := hq.pt he e2
  have e0_o0 := (congrArg (et_pl · 0) (he ea_o0 (puc_ne hu0 k_ea_o0))).trans e0_o0
  have e1_o0 := (congrArg (et_pl · 1) (he ea_o0 (puc_ne hu0 k_ea_o0))).trans e1_o0
  have e2_o0 := (congrArg (et_pl · 2) (he ea_o0 (puc_ne hu0 k_ea_o0))).trans e2_o0
  have f0_o0 := (congrArg (et_pl · 0) (he o0 (puc_ne hu0 k_o0))).trans f0_o0
  have f1_o0 := (congrArg (et_pl · 1) (he o0 (puc_ne hu0 k_o0))).trans f1_o0
  have f2_o0 := (congrArg (et_pl · 2) (he o0 (puc_ne hu0 k_o0))).trans f2_o0
  have f3_o0 := (congrArg (et_pl · 3) (he o0 (puc_ne hu0 k_o0))).trans f3_o0
  have f4_o0 := (congrArg (et_pl · 4) (he o0 (puc_ne hu0 k_o0))).trans f4_o0
  have f5_o0 := (congrArg (et_pl · 5) (he o0 (puc_ne hu0 k_o0))).trans f5_o0
  have f6_o0 := (congrArg (et_pl · 6) (he o0 (puc_ne hu0 k_o0))).trans f6_o0
  have f7_o0 := (congrArg (et_pl · 7) (he o0 (puc_ne hu0 k_o0))).trans f7_o0
  have f8_o0 := (congrArg (et_pl · 8) (he o0 (puc_ne hu0 k_o0))).trans f8_o0
  have f9_o0 := (congrArg (et_pl · 9) (he o0 (puc_ne hu0 k_o0))).trans f9_o0
  have f10_o0 := (congrArg (et_pl · 10) (he o0 (puc_ne hu0 k_o0))).trans f10_o0
  have Qa_o0 := Qa_o0.he hu0 he e2
  have Qb_o0 := Qb_o0.he hu0 he e2
  have Qc_o0 := Qc_o0.he hu0 he e2
  refine hs_aload (i := 0) (p := 16) (by decide +kernel) rfl ?_
  have hHo := hu.1
  refine ht_newV (ci := 8) (n := 11) (fs := [.int 0, .null, .int 0, .null, .null, .int 0, .null, .int 0, .null, .int 0, .null]) (p := 19) (by decide +kernel) (by omega) (by omega) (by decide +kernel) (by decide +kernel) hu.1 (fun G16 o1 ho hge hlt he => ?_)
  have hgo_o1 := Nat.le_trans hq.1 hge
  have hlo_Qa_o0_o1 : Ca_o0 < o1 := Nat.lt_of_lt_of_le Qa_o0.2.1.2.2.2 hge
  have hlo_Qb_o0_o1 : Cb_o0 < o1 := Nat.lt_of_lt_of_le Qb_o0.2.1.2.2.2 hge
  have hlo_Qc_o0_o1 : Cc_o0 < o1 := Nat.lt_of_lt_of_le Qc_o0.2.1.2.2.2 hge
  refine hs_dup1 (p := 20) (by decide +kernel) ?_
  refine hs_callp (mi := 101) (na := 0) (lk := 1) (lm := 2) (L0 := eg_en (eg_mL 101) [.ref o1]) (by decide +kernel) rfl rfl rfl rfl rfl (by rw [show eg_mL 101 = 2 from by decide +kernel]; first | done | rfl) ?_
  refine (pi_state5 ho (by omega)).mono (fun u hZ => pi_cb hZ (fun K20 G20 hq2 hH k_o1 hP => ?_))
  have hk := pk_of hq2 hge hlt he
  have hne0 : ¬ o0 = o1 := by have := (hHo.2.2 _ _ k_o0).1; omega
  have hlr := (hHo.2.2 _ _ k_ra_o0).1
  have hll := (hHo.2.2 _ _ k_la_o0).1
  have hly := (hHo.2.2 _ _ k_ya_o0).1
  have hlta := (hHo.2.2 _ _ k_ta_o0).1
  have hlc := (hHo.2.2 _ _ k_ca_o0).1
  have hu := hk.un hH hu
  have hq := hq.mo hk
  have e0_o0 := hk.fl hHo k_ea_o0 e0_o0
  have e1_o0 := hk.fl hHo k_ea_o0 e1_o0
  have e2_o0 := hk.fl hHo k_ea_o0 e2_o0
  have f0_o0 := hk.fl hHo k_o0 f0_o0
  have f1_o0 := hk.fl hHo k_o0 f1_o0
  have f2_o0 := hk.fl hHo k_o0 f2_o0
  have f3_o0 := hk.fl hHo k_o0 f3_o0
  have f4_o0 := hk.fl hHo k_o0 f4_o0
  have f5_o0 := hk.fl hHo k_o0 f5_o0
  have f6_o0 := hk.fl hHo k_o0 f6_o0
  have f7_o0 := hk.fl hHo k_o0 f7_o0
  have f8_o0 := hk.fl hHo k_o0 f8_o0
  have f9_o0 := hk.fl hHo k_o0 f9_o0
  have f10_o0 := hk.fl hHo k_o0 f10_o0
  have Qa_o0 := Qa_o0.pk hHo hk
  have Qb_o0 := Qb_o0.pk hHo hk
  have Qc_o0 := Qc_o0.pk hHo hk
  have k_o0 := hk.ty hHo k_o0
  have k_ra_o0 := hk.ty hHo k_ra_o0
  have k_ca_o0 := hk.ty hHo k_ca_o0
  have k_la_o0 := hk.ty hHo k_la_o0
  have k_ya_o0 := hk.ty hHo k_ya_o0
  have k_ta_o0 := hk.ty hHo k_ta_o0
  have k_ea_o0 := hk.ty hHo k_ea_o0
  obtain ⟨ra_o1, ca_o1, f1_o1, f10_o1, gr_o1, gc_o1, k_ra_o1, k_ca_o1, f0_o1, f5_o1, f9_o1, f2_o1, f7_o1, la_o1, ya_o1, ta_o1, ⟨f3_o1, f4_o1, f8_o1⟩, ⟨k_la_o1, k_ya_o1, k_ta_o1⟩, ⟨gl_o1, gy_o1, gt_o1⟩, ea_o1, ⟨f6_o1, k_ea_o1⟩, oa_o1, Aa_o1, Ba_o1, Ca_o1, ob_o1, Ab_o1, Bb_o1, Cb_o1, oc_o1, Ac_o1, Bc_o1, Cc_o1, ⟨e0_o1, e1_o1, e2_o1⟩, ⟨ho0_o1, ho1_o1, ho2_o1⟩, Qa_o1, Qb_o1, Qc_o1⟩ := hP
  have hnr : ¬ ra_o0 = ra_o1 := Nat.ne_of_lt (Nat.lt_of_lt_of_le (Nat.lt_trans hlr hlt) gr_o1)
  have hnc : ¬ ca_o0 = ca_o1 := Nat.ne_of_lt (Nat.lt_of_lt_of_le (Nat.lt_trans hlc hlt) gc_o1)
  have hnl : ¬ la_o0 = la_o1 := Nat.ne_of_lt (Nat.lt_of_lt_of_le (Nat.lt_trans hll hlt) gl_o1)
  have hny : ¬ ya_o0 = ya_o1 := Nat.ne_of_lt (Nat.lt_of_lt_of_le (Nat.lt_trans hly hlt) gy_o1)
  have hnt : ¬ ta_o0 = ta_o1 := Nat.ne_of_lt (Nat.lt_of_lt_of_le (Nat.lt_trans hlta hlt) gt_o1)
  have hla : o1 ≤ oa_o1 := Nat.le_of_lt (Nat.lt_of_lt_of_le ho.2.2.2.1 ho0_o1)
  show et_go none _ 115 23 _ [.ref o1, .ref a] _ 38 292 _
  have hu0 := hu
  refine hs_puti (ci := 10) (f := 1) (ty := .object "KnobEye$State") (v := .ref o1) (p := 26) (by decide +kernel) hu (Nat.le_of_ble_eq_true rfl) rfl (fun G23 hu he e2 => ?_)
  have hu : puc _ _ a (.inr (10, [.ref o0, .ref o1, .int 0, .null, .null, .null, .int 0, .int 0, .null, .null, .int 0, .null])) := hu
  have hq := hq.pt he e2
  have e0_o0 := (congrArg (et_pl · 0) (he ea_o0 (puc_ne hu0 k_ea_o0))).trans e0_o0
  have e1_o0 := (congrArg (et_pl · 1) (he ea_o0 (puc_ne hu0 k_ea_o0))).trans e1_o0
  have e2_o0 := (congrArg (et_pl · 2) (he ea_o0 (puc_ne hu0 k_ea_o0))).trans e2_o0
  have f0_o0 := (congrArg (et_pl · 0) (he o0 (puc_ne hu0 k_o0))).trans f0_o0
  have f1_o0 := (congrArg (et_pl · 1) (he o0 (puc_ne hu0 k_o0))).trans f1_o0
  have f2_o0 := (congrArg (et_pl · 2) (he o0 (puc_ne hu0 k_o0))).trans f2_o0
  have f3_o0 := (congrArg (et_pl · 3) (he o0 (puc_ne hu0 k_o0))).trans f3_o0
  have f4_o0 := (congrArg (et_pl · 4) (he o0 (puc_ne hu0 k_o0))).trans f4_o0
  have f5_o0 := (congrArg (et_pl · 5) (he o0 (puc_ne hu0 k_o0))).trans f5_o0
  have f6_o0 := (congrArg (et_pl · 6) (he o0 (puc_ne hu0 k_o0))).trans f6_o0
  have f7_o0 := (congrArg (et_pl · 7) (he o0 (puc_ne hu0 k_o0))).trans f7_o0
  have f8_o0 := (congrArg (et_pl · 8) (he o0 (puc_ne hu0 k_o0))).trans f8_o0
  have f9_o0 := (congrArg (et_pl · 9) (he o0 (puc_ne hu0 k_o0))).trans f9_o0
  have f10_o0 := (congrArg (et_pl · 10) (he o0 (puc_ne hu0 k_o0))).trans f10_o0
  have e0_o1 := (congrArg (et_pl · 0) (he ea_o1 (puc_ne hu0 k_ea_o1))).trans e0_o1
  have e1_o1 := (congrArg (et_pl · 1) (he ea_o1 (puc_ne hu0 k_ea_o1))).trans e1_o1
  have e2_o1 := (congrArg (et_pl · 2) (he ea_o1 (puc_ne hu0 k_ea_o1))).trans e2_o1
  have f0_o1 := (congrArg (et_pl · 0) (he o1 (puc_ne hu0 k_o1))).trans f0_o1
  have f1_o1 := (congrArg (et_pl · 1) (he o1 (puc_ne hu0 k_o1))).trans f1_o1
  have f2_o1 := (congrArg (et_pl · 2) (he o1 (puc_ne hu0 k_o1))).trans f2_o1
  have f3_o1 := (congrArg (et_pl · 3) (he o1 (puc_ne hu0 k_o1))).trans f3_o1
  have f4_o1 := (congrArg (et_pl · 4) (he o1 (puc_ne hu0 k_o1))).trans f4_o1
  have f5_o1 := (congrArg (et_pl · 5) (he o1 (puc_ne hu0 k_o1))).trans f5_o1
  have f6_o1 := (congrArg (et_pl · 6) (he o1 (puc_ne hu0 k_o1))).trans f6_o1
  have f7_o1 := (congrArg (et_pl · 7) (he o1 (puc_ne hu0 k_o1))).trans f7_o1
  have f8_o1 := (congrArg (et_pl · 8) (he o1 (puc_ne hu0 k_o1))).trans f8_o1
  have f9_o1 := (congrArg (et_pl · 9) (he o1 (puc_ne hu0 k_o1))).trans f9_o1
  have f10_o1 := (congrArg (et_pl · 10) (he o1 (puc_ne hu0 k_o1))).trans f10_o1
  have Qa_o0 := Qa_o0.he hu0 he e2
  have Qb_o0 := Qb_o0.he hu0 he e2
  have Qc_o0 := Qc_o0.he hu0 he e2
  have Qa_o1 := Qa_o1.he hu0 he e2
  have Qb_o1 := Qb_o1.he hu0 he e2
  have Qc_o1 := Qc_o1.he hu0 he e2
  refine hs_aload (i := 0) (p := 27) (by decide +kernel) rfl ?_
  have hHo := hu.1
  refine ht_newV (ci := 5) (n := 9) (fs := [.null, .int 0, .int 0, .int 0, .null, .null, .null, .int 0, .int 0]) (p := 30) (by decide +kernel) (by omega) (by omega) (by decide +kernel) (by decide +kernel) hu.1 (fun G27 o2 ho hge hlt he => ?_)
  refine hs_dup1 (p := 31) (by decide +kernel) ?_
  refine hs_callp (mi := 62) (na := 0) (lk := 1) (lm := 1) (L0 := eg_en (eg_mL 62) [.ref o2]) (by decide +kernel) rfl rfl rfl rfl rfl (by rw [show eg_mL 62 = 1 from by decide +kernel]; first | done | rfl) ?_
  refine (pi_reader2 ho (by omega)).mono (fun u hZ => pi_cb hZ (fun K31 G31 hq2 hH k_o2 hP => ?_))
  have hk := pk_of hq2 hge hlt he
  have hu := hk.un hH hu
  have hq := hq.mo hk
  have e0_o0 := hk.fl hHo k_ea_o0 e0_o0
  have e1_o0 := hk.fl hHo k_ea_o0 e1_o0
  have e2_o0 := hk.fl hHo k_ea_o0 e2_o0
  have f0_o0 := hk.fl hHo k_o0 f0_o0
  have f1_o0 := hk.fl hHo k_o0 f1_o0
  have f2_o0 := hk.fl hHo k_o0 f2_o0
  have f3_o0 := hk.fl hHo k_o0 f3_o0
  have f4_o0 := hk.fl hHo k_o0 f4_o0
  have f5_o0 := hk.fl hHo k_o0 f5_o0
  have f6_o0 := hk.fl hHo k_o0 f6_o0
  have f7_o0 := hk.fl hHo k_o0 f7_o0
  have f8_o0 := hk.fl hHo k_o0 f8_o0
  have f9_o0 := hk.fl hHo k_o0 f9_o0
  have f10_o0 := hk.fl hHo k_o0 f10_o0
  have e0_o1 := hk.fl hHo k_ea_o1 e0_o1
  have e1_o1 := hk.fl hHo k_ea_o1 e1_o1
  have e2_o1 := hk.fl hHo k_ea_o1 e2_o1
  have f0_o1 := hk.fl hHo k_o1 f0_o1
  have f1_o1 := hk.fl hHo k_o1 f1_o1
  have f2_o1 := hk.fl hHo k_o1 f2_o1
  have f3_o1 := hk.fl hHo k_o1 f3_o1
  have f4_o1 := hk.fl hHo k_o1 f4_o1
  have f5_o1 := hk.fl hHo k_o1 f5_o1
  have f6_o1 := hk.fl hHo k_o1 f6_o1
  have f7_o1 := hk.fl hHo k_o1 f7_o1
  have f8_o1 := hk.fl hHo k_o1 f8_o1
  have f9_o1 := hk.fl hHo k_o1 f9_o1
  have f10_o1 := hk.fl hHo k_o1 f10_o1
  have Qa_o0 := Qa_o0.pk hHo hk
  have Qb_o0 := Qb_o0.pk hHo hk
  have Qc_o0 := Qc_o0.pk hHo hk
  have Qa_o1 := Qa_o1.pk hHo hk
  have Qb_o1 := Qb_o1.pk hHo hk
  have Qc_o1 := Qc_o1.pk hHo hk
  have k_o0 := hk.ty hHo k_o0
  have k_ra_o0 := hk.ty hHo k_ra_o0
  have k_ca_o0 := hk.ty hHo k_ca_o0
  have k_la_o0 := hk.ty hHo k_la_o0
  have k_ya_o0 := hk.ty hHo k_ya_o0
  have k_ta_o0 := hk.ty hHo k_ta_o0
  have k_ea_o0 := hk.ty hHo k_ea_o0
  have k_o1 := hk.ty hHo k_o1
  have k_ra_o1 := hk.ty hHo k_ra_o1
  have k_ca_o1 := hk.ty hHo k_ca_o1
  have k_la_o1 := hk.ty hHo k_la_o1
  have k_ya_o1 := hk.ty hHo k_ya_o1
  have k_ta_o1 := hk.ty hHo k_ta_o1
  have k_ea_o1 := hk.ty hHo k_ea_o1
  obtain ⟨fl, ba, na, fba, fna, hbn⟩ := hP
  show et_go none _ 115 34 _ [.ref o2, .ref a] _ 43 1904 _
  have hu0 := hu
  refine hs_puti (ci := 10) (f := 3) (ty := .object "KnobEye$Reader") (v := .ref o2) (p := 37) (by decide +kernel) hu (Nat.le_of_ble_eq_true rfl) rfl (fun G34 hu he e2 => ?_)
  have hu : puc _ _ a (.inr (10, [.ref o0, .ref o1, .int 0, .ref o2, .null, .null, .int 0, .int 0, .null, .null, .int 0, .null])) := hu
  have hq := hq.pt he e2
  have e0_o0 := (congrArg (et_pl · 0) (he ea_o0 (puc_ne hu0 k_ea_o0))).trans e0_o0
  have e1_o0 := (congrArg (et_pl · 1) (he ea_o0 (puc_ne hu0 k_ea_o0))).trans e1_o0
  have e2_o0 := (congrArg (et_pl · 2) (he ea_o0 (puc_ne hu0 k_ea_o0))).trans e2_o0
  have f0_o0 := (congrArg (et_pl · 0) (he o0 (puc_ne hu0 k_o0))).trans f0_o0
  have f1_o0 := (congrArg (et_pl · 1) (he o0 (puc_ne hu0 k_o0))).trans f1_o0
  have f2_o0 := (congrArg (et_pl · 2) (he o0 (puc_ne hu0 k_o0))).trans f2_o0
  have f3_o0 := (congrArg (et_pl · 3) (he o0 (puc_ne hu0 k_o0))).trans f3_o0
  have f4_o0 := (congrArg (et_pl · 4) (he o0 (puc_ne hu0 k_o0))).trans f4_o0
  have f5_o0 := (congrArg (et_pl · 5) (he o0 (puc_ne hu0 k_o0))).trans f5_o0
  have f6_o0 := (congrArg (et_pl · 6) (he o0 (puc_ne hu0 k_o0))).trans f6_o0
  have f7_o0 := (congrArg (et_pl · 7) (he o0 (puc_ne hu0 k_o0))).trans f7_o0
  have f8_o0 := (congrArg (et_pl · 8) (he o0 (puc_ne hu0 k_o0))).trans f8_o0
  have f9_o0 := (congrArg (et_pl · 9) (he o0 (puc_ne hu0 k_o0))).trans f9_o0
  have f10_o0 := (congrArg (et_pl · 10) (he o0 (puc_ne hu0 k_o0))).trans f10_o0
  have e0_o1 := (congrArg (et_pl · 0) (he ea_o1 (puc_ne hu0 k_ea_o1))).trans e0_o1
  have e1_o1 := (congrArg (et_pl · 1) (he ea_o1 (puc_ne hu0 k_ea_o1))).trans e1_o1
  have e2_o1 := (congrArg (et_pl · 2) (he ea_o1 (puc_ne hu0 k_ea_o1))).trans e2_o1
  have f0_o1 := (congrArg (et_pl · 0) (he o1 (puc_ne hu0 k_o1))).trans f0_o1
  have f1_o1 := (congrArg (et_pl · 1) (he o1 (puc_ne hu0 k_o1))).trans f1_o1
  have f2_o1 := (congrArg (et_pl · 2) (he o1 (puc_ne hu0 k_o1))).trans f2_o1
  have f3_o1 := (congrArg (et_pl · 3) (he o1 (puc_ne hu0 k_o1))).trans f3_o1
  have f4_o1 := (congrArg (et_pl · 4) (he o1 (puc_ne hu0 k_o1))).trans f4_o1
  have f5_o1 := (congrArg (et_pl · 5) (he o1 (puc_ne hu0 k_o1))).trans f5_o1
  have f6_o1 := (congrArg (et_pl · 6) (he o1 (puc_ne hu0 k_o1))).trans f6_o1
  have f7_o1 := (congrArg (et_pl · 7) (he o1 (puc_ne hu0 k_o1))).trans f7_o1
  have f8_o1 := (congrArg (et_pl · 8) (he o1 (puc_ne hu0 k_o1))).trans f8_o1
  have f9_o1 := (congrArg (et_pl · 9) (he o1 (puc_ne hu0 k_o1))).trans f9_o1
  have f10_o1 := (congrArg (et_pl · 10) (he o1 (puc_ne hu0 k_o1))).trans f10_o1
  have fl := (congrArg (et_pl · 1) (he o2 (puc_ne hu0 k_o2))).trans fl
  have fba := (congrArg (et_pl · 5) (he o2 (puc_ne hu0 k_o2))).trans fba
  have fna := (congrArg (et_pl · 6) (he o2 (puc_ne hu0 k_o2))).trans fna
  have Qa_o0 := Qa_o0.he hu0 he e2
  have Qb_o0 := Qb_o0.he hu0 he e2
  have Qc_o0 := Qc_o0.he hu0 he e2
  have Qa_o1 := Qa_o1.he hu0 he e2
  have Qb_o1 := Qb_o1.he hu0 he e2
  have Qc_o1 := Qc_o1.he hu0 he e2
  refine hs_aload (i := 0) (p := 38) (by decide +kernel) rfl ?_
  have hHo := hu.1
  refine ht_newV (ci := 2) (n := 12) (fs := [.int 0, .int 0, .int 0, .int 0, .int 0, .int 0, .int 0, .int 0, .int 0, .int 0, .int 0, .int 0]) (p := 41) (by decide +kernel) (by omega) (by omega) (by decide +kernel) (by decide +kernel) hu.1 (fun G38 o3 ho hge hlt he => ?_)
  refine hs_dup1 (p := 42) (by decide +kernel) ?_
  refine hs_callp (mi := 51) (na := 0) (lk := 1) (lm := 1) (L0 := eg_en (eg_mL 51) [.ref o3]) (by decide +kernel) rfl rfl rfl rfl rfl (by rw [show eg_mL 51 = 1 from by decide +kernel]; first | done | rfl) ?_
  refine (pi_facts ho (by omega)).mono (fun u hZ => pi_cb hZ (fun K42 G42 hq2 hH k_o3 hP => ?_))
  have hk := pk_of hq2 hge hlt he
  have hu := hk.un hH hu
  have hq := hq.mo hk
  have e0_o0 := hk.fl hHo k_ea_o0 e0_o0
  have e1_o0 := hk.fl hHo k_ea_o0 e1_o0
  have e2_o0 := hk.fl hHo k_ea_o0 e2_o0
  have f0_o0 := hk.fl hHo k_o0 f0_o0
  have f1_o0 := hk.fl hHo k_o0 f1_o0
  have f2_o0 := hk.fl hHo k_o0 f2_o0
  have f3_o0 := hk.fl hHo k_o0 f3_o0
  have f4_o0 := hk.fl hHo k_o0 f4_o0
  have f5_o0 := hk.fl hHo k_o0 f5_o0
  have f6_o0 := hk.fl hHo k_o0 f6_o0
  have f7_o0 := hk.fl hHo k_o0 f7_o0
  have f8_o0 := hk.fl hHo k_o0 f8_o0
  have f9_o0 := hk.fl hHo k_o0 f9_o0
  have f10_o0 := hk.fl hHo k_o0 f10_o0
  have e0_o1 := hk.fl hHo k_ea_o1 e0_o1
  have e1_o1 := hk.fl hHo k_ea_o1 e1_o1
  have e2_o1 := hk.fl hHo k_ea_o1 e2_o1
  have f0_o1 := hk.fl hHo k_o1 f0_o1
  have f1_o1 := hk.fl hHo k_o1 f1_o1
  have f2_o1 := hk.fl hHo k_o1 f2_o1
  have f3_o1 := hk.fl hHo k_o1 f3_o1
  have f4_o1 := hk.fl hHo k_o1 f4_o1
  have f5_o1 := hk.fl hHo k_o1 f5_o1
  have f6_o1 := hk.fl hHo k_o1 f6_o1
  have f7_o1 := hk.fl hHo k_o1 f7_o1
  have f8_o1 := hk.fl hHo k_o1 f8_o1
  have f9_o1 := hk.fl hHo k_o1 f9_o1
  have f10_o1 := hk.fl hHo k_o1 f10_o1
  have fl := hk.fl hHo k_o2 fl
  have fba := hk.fl hHo k_o2 fba
  have fna := hk.fl hHo k_o2 fna
  have Qa_o0 := Qa_o0.pk hHo hk
  have Qb_o0 := Qb_o0.pk hHo hk
  have Qc_o0 := Qc_o0.pk hHo hk
  have Qa_o1 := Qa_o1.pk hHo hk
  have Qb_o1 := Qb_o1.pk hHo hk
  have Qc_o1 := Qc_o1.pk hHo hk
  have k_o0 := hk.ty hHo k_o0
  have k_ra_o0 := hk.ty hHo k_ra_o0
  have k_ca_o0 := hk.ty hHo k_ca_o0
  have k_la_o0 := hk.ty hHo k_la_o0
  have k_ya_o0 := hk.ty hHo k_ya_o0
  have k_ta_o0 := hk.ty hHo k_ta_o0
  have k_ea_o0 := hk.ty hHo k_ea_o0
  have k_o1 := hk.ty hHo k_o1
  have k_ra_o1 := hk.ty hHo k_ra_o1
  have k_ca_o1 := hk.ty hHo k_ca_o1
  have k_la_o1 := hk.ty hHo k_la_o1
  have k_ya_o1 := hk.ty hHo k_ya_o1
  have k_ta_o1 := hk.ty hHo k_ta_o1
  have k_ea_o1 := hk.ty hHo k_ea_o1
  have k_o2 := hk.ty hHo k_o2
  show et_go none _ 115 45 _ [.ref o3, .ref a] _ 44 1916 _
  have hu0 := hu
  refine hs_puti (ci := 10) (f := 4) (ty := .object "KnobEye$Facts") (v := .ref o3) (p := 48) (by decide +kernel) hu (Nat.le_of_ble_eq_true rfl) rfl (fun G45 hu he e2 => ?_)
  have hu : puc _ _ a (.inr (10, [.ref o0, .ref o1, .int 0, .ref o2, .ref o3, .null, .int 0, .int 0, .null, .null, .int 0, .null])) := hu
  have hq := hq.pt he e2
  have e0_o0 := (congrArg (et_pl · 0) (he ea_o0 (puc_ne hu0 k_ea_o0))).trans e0_o0
  have e1_o0 := (congrArg (et_pl · 1) (he ea_o0 (puc_ne hu0 k_ea_o0))).trans e1_o0
  have e2_o0 := (congrArg (et_pl · 2) (he ea_o0 (puc_ne hu0 k_ea_o0))).trans e2_o0
  have f0_o0 := (congrArg (et_pl · 0) (he o0 (puc_ne hu0 k_o0))).trans f0_o0
  have f1_o0 := (congrArg (et_pl · 1) (he o0 (puc_ne hu0 k_o0))).trans f1_o0
  have f2_o0 := (congrArg (et_pl · 2) (he o0 (puc_ne hu0 k_o0))).trans f2_o0
  have f3_o0 := (congrArg (et_pl · 3) (he o0 (puc_ne hu0 k_o0))).trans f3_o0
  have f4_o0 := (congrArg (et_pl · 4) (he o0 (puc_ne hu0 k_o0))).trans f4_o0
  have f5_o0 := (congrArg (et_pl · 5) (he o0 (puc_ne hu0 k_o0))).trans f5_o0
  have f6_o0 := (congrArg (et_pl · 6) (he o0 (puc_ne hu0 k_o0))).trans f6_o0
  have f7_o0 := (congrArg (et_pl · 7) (he o0 (puc_ne hu0 k_o0))).trans f7_o0
  have f8_o0 := (congrArg (et_pl · 8) (he o0 (puc_ne hu0 k_o0))).trans f8_o0
  have f9_o0 := (congrArg (et_pl · 9) (he o0 (puc_ne hu0 k_o0))).trans f9_o0
  have f10_o0 := (congrArg (et_pl · 10) (he o0 (puc_ne hu0 k_o0))).trans f10_o0
  have e0_o1 := (congrArg (et_pl · 0) (he ea_o1 (puc_ne hu0 k_ea_o1))).trans e0_o1
  have e1_o1 := (congrArg (et_pl · 1) (he ea_o1 (puc_ne hu0 k_ea_o1))).trans e1_o1
  have e2_o1 := (congrArg (et_pl · 2) (he ea_o1 (puc_ne hu0 k_ea_o1))).trans e2_o1
  have f0_o1 := (congrArg (et_pl · 0) (he o1 (puc_ne hu0 k_o1))).trans f0_o1
  have f1_o1 := (congrArg (et_pl · 1) (he o1 (puc_ne hu0 k_o1))).trans f1_o1
  have f2_o1 := (congrArg (et_pl · 2) (he o1 (puc_ne hu0 k_o1))).trans f2_o1
  have f3_o1 := (congrArg (et_pl · 3) (he o1 (puc_ne hu0 k_o1))).trans f3_o1
  have f4_o1 := (congrArg (et_pl · 4) (he o1 (puc_ne hu0 k_o1))).trans f4_o1
  have f5_o1 := (congrArg (et_pl · 5) (he o1 (puc_ne hu0 k_o1))).trans f5_o1
  have f6_o1 := (congrArg (et_pl · 6) (he o1 (puc_ne hu0 k_o1))).trans f6_o1
  have f7_o1 := (congrArg (et_pl · 7) (he o1 (puc_ne hu0 k_o1))).trans f7_o1
  have f8_o1 := (congrArg (et_pl · 8) (he o1 (puc_ne hu0 k_o1))).trans f8_o1
  have f9_o1 := (congrArg (et_pl · 9) (he o1 (puc_ne hu0 k_o1))).trans f9_o1
  have f10_o1 := (congrArg (et_pl · 10) (he o1 (puc_ne hu0 k_o1))).trans f10_o1
  have fl := (congrArg (et_pl · 1) (he o2 (puc_ne hu0 k_o2))).trans fl
  have fba := (congrArg (et_pl · 5) (he o2 (puc_ne hu0 k_o2))).trans fba
  have fna := (congrArg (et_pl · 6) (he o2 (puc_ne hu0 k_o2))).trans fna
  have Qa_o0 := Qa_o0.he hu0 he e2
  have Qb_o0 := Qb_o0.he hu0 he e2
  have Qc_o0 := Qc_o0.he hu0 he e2
  have Qa_o1 := Qa_o1.he hu0 he e2
  have Qb_o1 := Qb_o1.he hu0 he e2
  have Qc_o1 := Qc_o1.he hu0 he e2
  refine hs_aload (i := 0) (p := 49) (by decide +kernel) rfl ?_
  have hHo := hu.1
  refine ht_newV (ci := 7) (n := 18) (fs := [.null, .null, .null, .null, .int 0, .int 0, .int 0, .int 0, .int 0, .int 0, .int 0, .int 0, .int 0, .int 0, .null, .int 0, .int 0, .null]) (p := 52) (by decide +kernel) (by omega) (by omega) (by decide +kernel) (by decide +kernel) hu.1 (fun G49 o4 ho hge hlt he => ?_)
  refine hs_dup1 (p := 53) (by decide +kernel) ?_
  refine hs_callp (mi := 89) (na := 0) (lk := 1) (lm := 1) (L0 := eg_en (eg_mL 89) [.ref o4]) (by decide +kernel) rfl rfl rfl rfl rfl (by rw [show eg_mL 89 = 1 from by decide +kernel]; first | done | rfl) ?_
  refine (pi_search ho (by omega)).mono (fun u hZ => pi_cb hZ (fun K53 G53 hq2 hH k_o4 hP => ?_))
  have hk := pk_of hq2 hge hlt he
  have hu := hk.un hH hu
  have hq := hq.mo hk
  have e0_o0 := hk.fl hHo k_ea_o0 e0_o0
  have e1_o0 := hk.fl hHo k_ea_o0 e1_o0
  have e2_o0 := hk.fl hHo k_ea_o0 e2_o0
  have f0_o0 := hk.fl hHo k_o0 f0_o0
  have f1_o0 := hk.fl hHo k_o0 f1_o0
  have f2_o0 := hk.fl hHo k_o0 f2_o0
  have f3_o0 := hk.fl hHo k_o0 f3_o0
  have f4_o0 := hk.fl hHo k_o0 f4_o0
  have f5_o0 := hk.fl hHo k_o0 f5_o0
  have f6_o0 := hk.fl hHo k_o0 f6_o0
  have f7_o0 := hk.fl hHo k_o0 f7_o0
  have f8_o0 := hk.fl hHo k_o0 f8_o0
  have f9_o0 := hk.fl hHo k_o0 f9_o0
  have f10_o0 := hk.fl hHo k_o0 f10_o0
  have e0_o1 := hk.fl hHo k_ea_o1 e0_o1
  have e1_o1 := hk.fl hHo k_ea_o1 e1_o1
  have e2_o1 := hk.fl hHo k_ea_o1 e2_o1
  have f0_o1 := hk.fl hHo k_o1 f0_o1
  have f1_o1 := hk.fl hHo k_o1 f1_o1
  have f2_o1 := hk.fl hHo k_o1 f2_o1
  have f3_o1 := hk.fl hHo k_o1 f3_o1
  have f4_o1 := hk.fl hHo k_o1 f4_o1
  have f5_o1 := hk.fl hHo k_o1 f5_o1
  have f6_o1 := hk.fl hHo k_o1 f6_o1
  have f7_o1 := hk.fl hHo k_o1 f7_o1
  have f8_o1 := hk.fl hHo k_o1 f8_o1
  have f9_o1 := hk.fl hHo k_o1 f9_o1
  have f10_o1 := hk.fl hHo k_o1 f10_o1
  have fl := hk.fl hHo k_o2 fl
  have fba := hk.fl hHo k_o2 fba
  have fna := hk.fl hHo k_o2 fna
  have Qa_o0 := Qa_o0.pk hHo hk
  have Qb_o0 := Qb_o0.pk hHo hk
  have Qc_o0 := Qc_o0.pk hHo hk
  have Qa_o1 := Qa_o1.pk hHo hk
  have Qb_o1 := Qb_o1.pk hHo hk
  have Qc_o1 := Qc_o1.pk hHo hk
  have k_o0 := hk.ty hHo k_o0
  have k_ra_o0 := hk.ty hHo k_ra_o0
  have k_ca_o0 := hk.ty hHo k_ca_o0
  have k_la_o0 := hk.ty hHo k_la_o0
  have k_ya_o0 := hk.ty hHo k_ya_o0
  have k_ta_o0 := hk.ty hHo k_ta_o0
  have k_ea_o0 := hk.ty hHo k_ea_o0
  have k_o1 := hk.ty hHo k_o1
  have k_ra_o1 := hk.ty hHo k_ra_o1
  have k_ca_o1 := hk.ty hHo k_ca_o1
  have k_la_o1 := hk.ty hHo k_la_o1
  have k_ya_o1 := hk.ty hHo k_ya_o1
  have k_ta_o1 := hk.ty hHo k_ta_o1
  have k_ea_o1 := hk.ty hHo k_ea_o1
  have k_o2 := hk.ty hHo k_o2
  have k_o3 := hk.ty hHo k_o3
  show et_go none _ 115 56 _ [.ref o4, .ref a] _ 71 5017 _
  have hu0 := hu
  refine hs_puti (ci := 10) (f := 5) (ty := .object "KnobEye$Search") (v := .ref o4) (p := 59) (by decide +kernel) hu (Nat.le_of_ble_eq_true rfl) rfl (fun G56 hu he e2 => ?_)
  have hu : puc _ _ a (.inr (10, [.ref o0, .ref o1, .int 0, .ref o2, .ref o3, .ref o4, .int 0, .int 0, .null, .null, .int 0, .null])) := hu
  have hq := hq.pt he e2
  have e0_o0 := (congrArg (et_pl · 0) (he ea_o0 (puc_ne hu0 k_ea_o0))).trans e0_o0
  have e1_o0 := (congrArg (et_pl · 1) (he ea_o0 (puc_ne hu0 k_ea_o0))).trans e1_o0
  have e2_o0 := (congrArg (et_pl · 2) (he ea_o0 (puc_ne hu0 k_ea_o0))).trans e2_o0
  have f0_o0 := (congrArg (et_pl · 0) (he o0 (puc_ne hu0 k_o0))).trans f0_o0
  have f1_o0 := (congrArg (et_pl · 1) (he o0 (puc_ne hu0 k_o0))).trans f1_o0
  have f2_o0 := (congrArg (et_pl · 2) (he o0 (puc_ne hu0 k_o0))).trans f2_o0
  have f3_o0 := (congrArg (et_pl · 3) (he o0 (puc_ne hu0 k_o0))).trans f3_o0
  have f4_o0 := (congrArg (et_pl · 4) (he o0 (puc_ne hu0 k_o0))).trans f4_o0
  have f5_o0 := (congrArg (et_pl · 5) (he o0 (puc_ne hu0 k_o0))).trans f5_o0
  have f6_o0 := (congrArg (et_pl · 6) (he o0 (puc_ne hu0 k_o0))).trans f6_o0
  have f7_o0 := (congrArg (et_pl · 7) (he o0 (puc_ne hu0 k_o0))).trans f7_o0
  have f8_o0 := (congrArg (et_pl · 8) (he o0 (puc_ne hu0 k_o0))).trans f8_o0
  have f9_o0 := (congrArg (et_pl · 9) (he o0 (puc_ne hu0 k_o0))).trans f9_o0
  have f10_o0 := (congrArg (et_pl · 10) (he o0 (puc_ne hu0 k_o0))).trans f10_o0
  have e0_o1 := (congrArg (et_pl · 0) (he ea_o1 (puc_ne hu0 k_ea_o1))).trans e0_o1
  have e1_o1 := (congrArg (et_pl · 1) (he ea_o1 (puc_ne hu0 k_ea_o1))).trans e1_o1
  have e2_o1 := (congrArg (et_pl · 2) (he ea_o1 (puc_ne hu0 k_ea_o1))).trans e2_o1
  have f0_o1 := (congrArg (et_pl · 0) (he o1 (puc_ne hu0 k_o1))).trans f0_o1
  have f1_o1 := (congrArg (et_pl · 1) (he o1 (puc_ne hu0 k_o1))).trans f1_o1
  have f2_o1 := (congrArg (et_pl · 2) (he o1 (puc_ne hu0 k_o1))).trans f2_o1
  have f3_o1 := (congrArg (et_pl · 3) (he o1 (puc_ne hu0 k_o1))).trans f3_o1
  have f4_o1 := (congrArg (et_pl · 4) (he o1 (puc_ne hu0 k_o1))).trans f4_o1
  have f5_o1 := (congrArg (et_pl · 5) (he o1 (puc_ne hu0 k_o1))).trans f5_o1
  have f6_o1 := (congrArg (et_pl · 6) (he o1 (puc_ne hu0 k_o1))).trans f6_o1
  have f7_o1 := (congrArg (et_pl · 7) (he o1 (puc_ne hu0 k_o1))).trans f7_o1
  have f8_o1 := (congrArg (et_pl · 8) (he o1 (puc_ne hu0 k_o1))).trans f8_o1
  have f9_o1 := (congrArg (et_pl · 9) (he o1 (puc_ne hu0 k_o1))).trans f9_o1
  have f10_o1 := (congrArg (et_pl · 10) (he o1 (puc_ne hu0 k_o1))).trans f10_o1
  have fl := (congrArg (et_pl · 1) (he o2 (puc_ne hu0 k_o2))).trans fl
  have fba := (congrArg (et_pl · 5) (he o2 (puc_ne hu0 k_o2))).trans fba
  have fna := (congrArg (et_pl · 6) (he o2 (puc_ne hu0 k_o2))).trans fna
  have Qa_o0 := Qa_o0.he hu0 he e2
  have Qb_o0 := Qb_o0.he hu0 he e2
  have Qc_o0 := Qc_o0.he hu0 he e2
  have Qa_o1 := Qa_o1.he hu0 he e2
  have Qb_o1 := Qb_o1.he hu0 he e2
  have Qc_o1 := Qc_o1.he hu0 he e2
  refine hs_aload (i := 0) (p := 60) (by decide +kernel) rfl ?_
  refine hs_k (x := (-1)) (p := 61) (by decide +kernel) ?_
  have hu0 := hu
  refine hs_puti (ci := 10) (f := 6) (ty := .int) (v := .int (-1)) (p := 64) (by decide +kernel) hu (Nat.le_of_ble_eq_true rfl) rfl (fun G61 hu he e2 => ?_)
  have hu : puc _ _ a (.inr (10, [.ref o0, .ref o1, .int 0, .ref o2, .ref o3, .ref o4, .int (-1), .int 0, .null, .null, .int 0, .null])) := hu
  have hq := hq.pt he e2
  have e0_o0 := (congrArg (et_pl · 0) (he ea_o0 (puc_ne hu0 k_ea_o0))).trans e0_o0
  have e1_o0 := (congrArg (et_pl · 1) (he ea_o0 (puc_ne hu0 k_ea_o0))).trans e1_o0
  have e2_o0 := (congrArg (et_pl · 2) (he ea_o0 (puc_ne hu0 k_ea_o0))).trans e2_o0
  have f0_o0 := (congrArg (et_pl · 0) (he o0 (puc_ne hu0 k_o0))).trans f0_o0
  have f1_o0 := (congrArg (et_pl · 1) (he o0 (puc_ne hu0 k_o0))).trans f1_o0
  have f2_o0 := (congrArg (et_pl · 2) (he o0 (puc_ne hu0 k_o0))).trans f2_o0
  have f3_o0 := (congrArg (et_pl · 3) (he o0 (puc_ne hu0 k_o0))).trans f3_o0
  have f4_o0 := (congrArg (et_pl · 4) (he o0 (puc_ne hu0 k_o0))).trans f4_o0
  have f5_o0 := (congrArg (et_pl · 5) (he o0 (puc_ne hu0 k_o0))).trans f5_o0
  have f6_o0 := (congrArg (et_pl · 6) (he o0 (puc_ne hu0 k_o0))).trans f6_o0
  have f7_o0 := (congrArg (et_pl · 7) (he o0 (puc_ne hu0 k_o0))).trans f7_o0
  have f8_o0 := (congrArg (et_pl · 8) (he o0 (puc_ne hu0 k_o0))).trans f8_o0
  have f9_o0 := (congrArg (et_pl · 9) (he o0 (puc_ne hu0 k_o0))).trans f9_o0
  have f10_o0 := (congrArg (et_pl · 10) (he o0 (puc_ne hu0 k_o0))).trans f10_o0
  have e0_o1 := (congrArg (et_pl · 0) (he ea_o1 (puc_ne hu0 k_ea_o1))).trans e0_o1
  have e1_o1 := (congrArg (et_pl · 1) (he ea_o1 (puc_ne hu0 k_ea_o1))).trans e1_o1
  have e2_o1 := (congrArg (et_pl · 2) (he ea_o1 (puc_ne hu0 k_ea_o1))).trans e2_o1
  have f0_o1 := (congrArg (et_pl · 0) (he o1 (puc_ne hu0 k_o1))).trans f0_o1
  have f1_o1 := (congrArg (et_pl · 1) (he o1 (puc_ne hu0 k_o1))).trans f1_o1
  have f2_o1 := (congrArg (et_pl · 2) (he o1 (puc_ne hu0 k_o1))).trans f2_o1
  have f3_o1 := (congrArg (et_pl · 3) (he o1 (puc_ne hu0 k_o1))).trans f3_o1
  have f4_o1 := (congrArg (et_pl · 4) (he o1 (puc_ne hu0 k_o1))).trans f4_o1
  have f5_o1 := (congrArg (et_pl · 5) (he o1 (puc_ne hu0 k_o1))).trans f5_o1
  have f6_o1 := (congrArg (et_pl · 6) (he o1 (puc_ne hu0 k_o1))).trans f6_o1
  have f7_o1 := (congrArg (et_pl · 7) (he o1 (puc_ne hu0 k_o1))).trans f7_o1
  have f8_o1 := (congrArg (et_pl · 8) (he o1 (puc_ne hu0 k_o1))).trans f8_o1
  have f9_o1 := (congrArg (et_pl · 9) (he o1 (puc_ne hu0 k_o1))).trans f9_o1
  have f10_o1 := (congrArg (et_pl · 10) (he o1 (puc_ne hu0 k_o1))).trans f10_o1
  have fl := (congrArg (et_pl · 1) (he o2 (puc_ne hu0 k_o2))).trans fl
  have fba := (congrArg (et_pl · 5) (he o2 (puc_ne hu0 k_o2))).trans fba
  have fna := (congrArg (et_pl · 6) (he o2 (puc_ne hu0 k_o2))).trans fna
  have Qa_o0 := Qa_o0.he hu0 he e2
  have Qb_o0 := Qb_o0.he hu0 he e2
  have Qc_o0 := Qc_o0.he hu0 he e2
  have Qa_o1 := Qa_o1.he hu0 he e2
  have Qb_o1 := Qb_o1.he hu0 he e2
  have Qc_o1 := Qc_o1.he hu0 he e2
  refine hs_aload (i := 0) (p := 65) (by decide +kernel) rfl ?_
  refine hs_k (x := (-1)) (p := 66) (by decide +kernel) ?_
  have hu0 := hu
  refine hs_puti (ci := 10) (f := 7) (ty := .int) (v := .int (-1)) (p := 69) (by decide +kernel) hu (Nat.le_of_ble_eq_true rfl) rfl (fun G66 hu he e2 => ?_)
  have hu : puc _ _ a (.inr (10, [.ref o0, .ref o1, .int 0, .ref o2, .ref o3, .ref o4, .int (-1), .int (-1), .null, .null, .int 0, .null])) := hu
  have hq := hq.pt he e2
  have e0_o0 := (congrArg (et_pl · 0) (he ea_o0 (puc_ne hu0 k_ea_o0))).trans e0_o0
  have e1_o0 := (congrArg (et_pl · 1) (he ea_o0 (puc_ne hu0 k_ea_o0))).trans e1_o0
  have e2_o0 := (congrArg (et_pl · 2) (he ea_o0 (puc_ne hu0 k_ea_o0))).trans e2_o0
  have f0_o0 := (congrArg (et_pl · 0) (he o0 (puc_ne hu0 k_o0))).trans f0_o0
  have f1_o0 := (congrArg (et_pl · 1) (he o0 (puc_ne hu0 k_o0))).trans f1_o0
  have f2_o0 := (congrArg (et_pl · 2) (he o0 (puc_ne hu0 k_o0))).trans f2_o0
  have f3_o0 := (congrArg (et_pl · 3) (he o0 (puc_ne hu0 k_o0))).trans f3_o0
  have f4_o0 := (congrArg (et_pl · 4) (he o0 (puc_ne hu0 k_o0))).trans f4_o0
  have f5_o0 := (congrArg (et_pl · 5) (he o0 (puc_ne hu0 k_o0))).trans f5_o0
  have f6_o0 := (congrArg (et_pl · 6) (he o0 (puc_ne hu0 k_o0))).trans f6_o0
  have f7_o0 := (congrArg (et_pl · 7) (he o0 (puc_ne hu0 k_o0))).trans f7_o0
  have f8_o0 := (congrArg (et_pl · 8) (he o0 (puc_ne hu0 k_o0))).trans f8_o0
  have f9_o0 := (congrArg (et_pl · 9) (he o0 (puc_ne hu0 k_o0))).trans f9_o0
  have f10_o0 := (congrArg (et_pl · 10) (he o0 (puc_ne hu0 k_o0))).trans f10_o0
  have e0_o1 := (congrArg (et_pl · 0) (he ea_o1 (puc_ne hu0 k_ea_o1))).trans e0_o1
  have e1_o1 := (congrArg (et_pl · 1) (he ea_o1 (puc_ne hu0 k_ea_o1))).trans e1_o1
  have e2_o1 := (congrArg (et_pl · 2) (he ea_o1 (puc_ne hu0 k_ea_o1))).trans e2_o1
  have f0_o1 := (congrArg (et_pl · 0) (he o1 (puc_ne hu0 k_o1))).trans f0_o1
  have f1_o1 := (congrArg (et_pl · 1) (he o1 (puc_ne hu0 k_o1))).trans f1_o1
  have f2_o1 := (congrArg (et_pl · 2) (he o1 (puc_ne hu0 k_o1))).trans f2_o1
  have f3_o1 := (congrArg (et_pl · 3) (he o1 (puc_ne hu0 k_o1))).trans f3_o1
  have f4_o1 := (congrArg (et_pl · 4) (he o1 (puc_ne hu0 k_o1))).trans f4_o1
  have f5_o1 := (congrArg (et_pl · 5) (he o1 (puc_ne hu0 k_o1))).trans f5_o1
  have f6_o1 := (congrArg (et_pl · 6) (he o1 (puc_ne hu0 k_o1))).trans f6_o1
  have f7_o1 := (congrArg (et_pl · 7) (he o1 (puc_ne hu0 k_o1))).trans f7_o1
  have f8_o1 := (congrArg (et_pl · 8) (he o1 (puc_ne hu0 k_o1))).trans f8_o1
  have f9_o1 := (congrArg (et_pl · 9) (he o1 (puc_ne hu0 k_o1))).trans f9_o1
  have f10_o1 := (congrArg (et_pl · 10) (he o1 (puc_ne hu0 k_o1))).trans f10_o1
  have fl := (congrArg (et_pl · 1) (he o2 (puc_ne hu0 k_o2))).trans fl
  have fba := (congrArg (et_pl · 5) (he o2 (puc_ne hu0 k_o2))).trans fba
  have fna := (congrArg (et_pl · 6) (he o2 (puc_ne hu0 k_o2))).trans fna
  have Qa_o0 := Qa_o0.he hu0 he e2
  have Qb_o0 := Qb_o0.he hu0 he e2
  have Qc_o0 := Qc_o0.he hu0 he e2
  have Qa_o1 := Qa_o1.he hu0 he e2
  have Qb_o1 := Qb_o1.he hu0 he e2
  have Qc_o1 := Qc_o1.he hu0 he e2
  refine hs_aload (i := 0) (p := 70) (by decide +kernel) rfl ?_
  have hHo := hu.1
  refine ht_newV (ci := 1) (n := 8) (fs := [.int 0, .null, .null, .null, .int 0, .int 0, .int 0, .int 0]) (p := 73) (by decide +kernel) (by omega) (by omega) (by decide +kernel) (by decide +kernel) hu.1 (fun G70 o5 ho hge hlt he => ?_)
  have hgo_o5 := Nat.le_trans hq.1 hge
  have hlo_Qa_o0_o5 : Ca_o0 < o5 := Nat.lt_of_lt_of_le Qa_o0.2.1.2.2.2 hge
  have hlo_Qb_o0_o5 : Cb_o0 < o5 := Nat.lt_of_lt_of_le Qb_o0.2.1.2.2.2 hge
  have hlo_Qc_o0_o5 : Cc_o0 < o5 := Nat.lt_of_lt_of_le Qc_o0.2.1.2.2.2 hge
  have hlo_Qa_o1_o5 : Ca_o1 < o5 := Nat.lt_of_lt_of_le Qa_o1.2.1.2.2.2 hge
  have hlo_Qb_o1_o5 : Cb_o1 < o5 := Nat.lt_of_lt_of_le Qb_o1.2.1.2.2.2 hge
  have hlo_Qc_o1_o5 : Cc_o1 < o5 := Nat.lt_of_lt_of_le Qc_o1.2.1.2.2.2 hge
  refine hs_dup1 (p := 74) (by decide +kernel) ?_
  refine hs_callp (mi := 31) (na := 0) (lk := 1) (lm := 1) (L0 := eg_en (eg_mL 31) [.ref o5]) (by decide +kernel) rfl rfl rfl rfl rfl (by rw [show eg_mL 31 = 1 from by decide +kernel]; first | done | rfl) ?_
  refine (pi_eye5 ho (by omega)).mono (fun u hZ => pi_cb hZ (fun K74 G74 hq2 hH k_o5 hP => ?_))
  have hk := pk_of hq2 hge hlt he
  have hu := hk.un hH hu
  have hq := hq.mo hk
  have e0_o0 := hk.fl hHo k_ea_o0 e0_o0
  have e1_o0 := hk.fl hHo k_ea_o0 e1_o0
  have e2_o0 := hk.fl hHo k_ea_o0 e2_o0
  have f0_o0 := hk.fl hHo k_o0 f0_o0
  have f1_o0 := hk.fl hHo k_o0 f1_o0
  have f2_o0 := hk.fl hHo k_o0 f2_o0
  have f3_o0 := hk.fl hHo k_o0 f3_o0
  have f4_o0 := hk.fl hHo k_o0 f4_o0
  have f5_o0 := hk.fl hHo k_o0 f5_o0
  have f6_o0 := hk.fl hHo k_o0 f6_o0
  have f7_o0 := hk.fl hHo k_o0 f7_o0
  have f8_o0 := hk.fl hHo k_o0 f8_o0
  have f9_o0 := hk.fl hHo k_o0 f9_o0
  have f10_o0 := hk.fl hHo k_o0 f10_o0
  have e0_o1 := hk.fl hHo k_ea_o1 e0_o1
  have e1_o1 := hk.fl hHo k_ea_o1 e1_o1
  have e2_o1 := hk.fl hHo k_ea_o1 e2_o1
  have f0_o1 := hk.fl hHo k_o1 f0_o1
  have f1_o1 := hk.fl hHo k_o1 f1_o1
  have f2_o1 := hk.fl hHo k_o1 f2_o1
  have f3_o1 := hk.fl hHo k_o1 f3_o1
  have f4_o1 := hk.fl hHo k_o1 f4_o1
  have f5_o1 := hk.fl hHo k_o1 f5_o1
  have f6_o1 := hk.fl hHo k_o1 f6_o1
  have f7_o1 := hk.fl hHo k_o1 f7_o1
  have f8_o1 := hk.fl hHo k_o1 f8_o1
  have f9_o1 := hk.fl hHo k_o1 f9_o1
  have f10_o1 := hk.fl hHo k_o1 f10_o1
  have fl := hk.fl hHo k_o2 fl
  have fba := hk.fl hHo k_o2 fba
  have fna := hk.fl hHo k_o2 fna
  have Qa_o0 := Qa_o0.pk hHo hk
  have Qb_o0 := Qb_o0.pk hHo hk
  have Qc_o0 := Qc_o0.pk hHo hk
  have Qa_o1 := Qa_o1.pk hHo hk
  have Qb_o1 := Qb_o1.pk hHo hk
  have Qc_o1 := Qc_o1.pk hHo hk
  have k_o0 := hk.ty hHo k_o0
  have k_ra_o0 := hk.ty hHo k_ra_o0
  have k_ca_o0 := hk.ty hHo k_ca_o0
  have k_la_o0 := hk.ty hHo k_la_o0
  have k_ya_o0 := hk.ty hHo k_ya_o0
  have k_ta_o0 := hk.ty hHo k_ta_o0
  have k_ea_o0 := hk.ty hHo k_ea_o0
  have k_o1 := hk.ty hHo k_o1
  have k_ra_o1 := hk.ty hHo k_ra_o1
  have k_ca_o1 := hk.ty hHo k_ca_o1
  have k_la_o1 := hk.ty hHo k_la_o1
  have k_ya_o1 := hk.ty hHo k_ya_o1
  have k_ta_o1 := hk.ty hHo k_ta_o1
  have k_ea_o1 := hk.ty hHo k_ea_o1
  have k_o2 := hk.ty hHo k_o2
  have k_o3 := hk.ty hHo k_o3
  have k_o4 := hk.ty hHo k_o4
  obtain ⟨A_o5, B_o5, C_o5, Q_o5, hlA_o5⟩ := hP
  show et_go none _ 115 77 _ [.ref o5, .ref a] _ 75 5043 _
  have hu0 := hu
  refine hs_puti (ci := 10) (f := 8) (ty := .object "KnobEye$Eye") (v := .ref o5) (p := 80) (by decide +kernel) hu (Nat.le_of_ble_eq_true rfl) rfl (fun G77 hu he e2 => ?_)
  have hu : puc _ _ a (.inr (10, [.ref o0, .ref o1, .int 0, .ref o2, .ref o3, .ref o4, .int (-1), .int (-1), .ref o5, .null, .int 0, .null])) := hu
  have hq := hq.pt he e2
  have e0_o0 := (congrArg (et_pl · 0) (he ea_o0 (puc_ne hu0 k_ea_o0))).trans e0_o0
  have e1_o0 := (congrArg (et_pl · 1) (he ea_o0 (puc_ne hu0 k_ea_o0))).trans e1_o0
  have e2_o0 := (congrArg (et_pl · 2) (he ea_o0 (puc_ne hu0 k_ea_o0))).trans e2_o0
  have f0_o0 := (congrArg (et_pl · 0) (he o0 (puc_ne hu0 k_o0))).trans f0_o0
  have f1_o0 := (congrArg (et_pl · 1) (he o0 (puc_ne hu0 k_o0))).trans f1_o0
  have f2_o0 := (congrArg (et_pl · 2) (he o0 (puc_ne hu0 k_o0))).trans f2_o0
  have f3_o0 := (congrArg (et_pl · 3) (he o0 (puc_ne hu0 k_o0))).trans f3_o0
  have f4_o0 := (congrArg (et_pl · 4) (he o0 (puc_ne hu0 k_o0))).trans f4_o0
  have f5_o0 := (congrArg (et_pl · 5) (he o0 (puc_ne hu0 k_o0))).trans f5_o0
  have f6_o0 := (congrArg (et_pl · 6) (he o0 (puc_ne hu0 k_o0))).trans f6_o0
  have f7_o0 := (congrArg (et_pl · 7) (he o0 (puc_ne hu0 k_o0))).trans f7_o0
  have f8_o0 := (congrArg (et_pl · 8) (he o0 (puc_ne hu0 k_o0))).trans f8_o0
  have f9_o0 := (congrArg (et_pl · 9) (he o0 (puc_ne hu0 k_o0))).trans f9_o0
  have f10_o0 := (congrArg (et_pl · 10) (he o0 (puc_ne hu0 k_o0))).trans f10_o0
  have e0_o1 := (congrArg (et_pl · 0) (he ea_o1 (puc_ne hu0 k_ea_o1))).trans e0_o1
  have e1_o1 := (congrArg (et_pl · 1) (he ea_o1 (puc_ne hu0 k_ea_o1))).trans e1_o1
  have e2_o1 := (congrArg (et_pl · 2) (he ea_o1 (puc_ne hu0 k_ea_o1))).trans e2_o1
  have f0_o1 := (congrArg (et_pl · 0) (he o1 (puc_ne hu0 k_o1))).trans f0_o1
  have f1_o1 := (congrArg (et_pl · 1) (he o1 (puc_ne hu0 k_o1))).trans f1_o1
  have f2_o1 := (congrArg (et_pl · 2) (he o1 (puc_ne hu0 k_o1))).trans f2_o1
  have f3_o1 := (congrArg (et_pl · 3) (he o1 (puc_ne hu0 k_o1))).trans f3_o1
  have f4_o1 := (congrArg (et_pl · 4) (he o1 (puc_ne hu0 k_o1))).trans f4_o1
  have f5_o1 := (congrArg (et_pl · 5) (he o1 (puc_ne hu0 k_o1))).trans f5_o1
  have f6_o1 := (congrArg (et_pl · 6) (he o1 (puc_ne hu0 k_o1))).trans f6_o1
  have f7_o1 := (congrArg (et_pl · 7) (he o1 (puc_ne hu0 k_o1))).trans f7_o1
  have f8_o1 := (congrArg (et_pl · 8) (he o1 (puc_ne hu0 k_o1))).trans f8_o1
  have f9_o1 := (congrArg (et_pl · 9) (he o1 (puc_ne hu0 k_o1))).trans f9_o1
  have f10_o1 := (congrArg (et_pl · 10) (he o1 (puc_ne hu0 k_o1))).trans f10_o1
  have fl := (congrArg (et_pl · 1) (he o2 (puc_ne hu0 k_o2))).trans fl
  have fba := (congrArg (et_pl · 5) (he o2 (puc_ne hu0 k_o2))).trans fba
  have fna := (congrArg (et_pl · 6) (he o2 (puc_ne hu0 k_o2))).trans fna
  have Qa_o0 := Qa_o0.he hu0 he e2
  have Qb_o0 := Qb_o0.he hu0 he e2
  have Qc_o0 := Qc_o0.he hu0 he e2
  have Qa_o1 := Qa_o1.he hu0 he e2
  have Qb_o1 := Qb_o1.he hu0 he e2
  have Qc_o1 := Qc_o1.he hu0 he e2
  have Q_o5 := Q_o5.he hu0 he e2
  refine hs_aload (i := 0) (p := 81) (by decide +kernel) rfl ?_
  refine hs_k (x := Int32.ofNat 5) (p := 82) (by decide +kernel) ?_
  have hHo := hu.1
  refine ht_nb (t := 32) (n := 5) (kd := 0) (p := 84) (by decide +kernel) rfl (by decide +kernel) ⟨by decide +kernel, by decide +kernel, by decide +kernel⟩ (by omega) (by omega) hu.1 (fun K82 G82 b82 hk hH k_b82 hg_b82 hz_b82 => ?_)
  have hg_b82 := Nat.le_trans hq.1 hg_b82
  have hu := hk.un hH hu
  have hq := hq.mo hk
  have e0_o0 := hk.fl hHo k_ea_o0 e0_o0
  have e1_o0 := hk.fl hHo k_ea_o0 e1_o0
  have e2_o0 := hk.fl hHo k_ea_o0 e2_o0
  have f0_o0 := hk.fl hHo k_o0 f0_o0
  have f1_o0 := hk.fl hHo k_o0 f1_o0
  have f2_o0 := hk.fl hHo k_o0 f2_o0
  have f3_o0 := hk.fl hHo k_o0 f3_o0
  have f4_o0 := hk.fl hHo k_o0 f4_o0
  have f5_o0 := hk.fl hHo k_o0 f5_o0
  have f6_o0 := hk.fl hHo k_o0 f6_o0
  have f7_o0 := hk.fl hHo k_o0 f7_o0
  have f8_o0 := hk.fl hHo k_o0 f8_o0
  have f9_o0 := hk.fl hHo k_o0 f9_o0
  have f10_o0 := hk.fl hHo k_o0 f10_o0
  have e0_o1 := hk.fl hHo k_ea_o1 e0_o1
  have e1_o1 := hk.fl hHo k_ea_o1 e1_o1
  have e2_o1 := hk.fl hHo k_ea_o1 e2_o1
  have f0_o1 := hk.fl hHo k_o1 f0_o1
  have f1_o1 := hk.fl hHo k_o1 f1_o1
  have f2_o1 := hk.fl hHo k_o1 f2_o1
  have f3_o1 := hk.fl hHo k_o1 f3_o1
  have f4_o1 := hk.fl hHo k_o1 f4_o1
  have f5_o1 := hk.fl hHo k_o1 f5_o1
  have f6_o1 := hk.fl hHo k_o1 f6_o1
  have f7_o1 := hk.fl hHo k_o1 f7_o1
  have f8_o1 := hk.fl hHo k_o1 f8_o1
  have f9_o1 := hk.fl hHo k_o1 f9_o1
  have f10_o1 := hk.fl hHo k_o1 f10_o1
  have fl := hk.fl hHo k_o2 fl
  have fba := hk.fl hHo k_o2 fba
  have fna := hk.fl hHo k_o2 fna
  have Qa_o0 := Qa_o0.pk hHo hk
  have Qb_o0 := Qb_o0.pk hHo hk
  have Qc_o0 := Qc_o0.pk hHo hk
  have Qa_o1 := Qa_o1.pk hHo hk
  have Qb_o1 := Qb_o1.pk hHo hk
  have Qc_o1 := Qc_o1.pk hHo hk
  have Q_o5 := Q_o5.pk hHo hk
  have k_o0 := hk.ty hHo k_o0
  have k_ra_o0 := hk.ty hHo k_ra_o0
  have k_ca_o0 := hk.ty hHo k_ca_o0
  have k_la_o0 := hk.ty hHo k_la_o0
  have k_ya_o0 := hk.ty hHo k_ya_o0
  have k_ta_o0 := hk.ty hHo k_ta_o0
  have k_ea_o0 := hk.ty hHo k_ea_o0
  have k_o1 := hk.ty hHo k_o1
  have k_ra_o1 := hk.ty hHo k_ra_o1
  have k_ca_o1 := hk.ty hHo k_ca_o1
  have k_la_o1 := hk.ty hHo k_la_o1
  have k_ya_o1 := hk.ty hHo k_ya_o1
  have k_ta_o1 := hk.ty hHo k_ta_o1
  have k_ea_o1 := hk.ty hHo k_ea_o1
  have k_o2 := hk.ty hHo k_o2
  have k_o3 := hk.ty hHo k_o3
  have k_o4 := hk.ty hHo k_o4
  have k_o5 := hk.ty hHo k_o5
  have hu0 := hu
  refine hs_puti (ci := 10) (f := 9) (ty := .array .int) (v := .ref b82) (p := 87) (by decide +kernel) hu (Nat.le_of_ble_eq_true rfl) rfl (fun G84 hu he e2 => ?_)
  have hu : puc _ _ a (.inr (10, [.ref o0, .ref o1, .int 0, .ref o2, .ref o3, .ref o4, .int (-1), .int (-1), .ref o5, .ref b82, .int 0, .null])) := hu
  have hq := hq.pt he e2
  have e0_o0 := (congrArg (et_pl · 0) (he ea_o0 (puc_ne hu0 k_ea_o0))).trans e0_o0
  have e1_o0 := (congrArg (et_pl · 1) (he ea_o0 (puc_ne hu0 k_ea_o0))).trans e1_o0
  have e2_o0 := (congrArg (et_pl · 2) (he ea_o0 (puc_ne hu0 k_ea_o0))).trans e2_o0
  have f0_o0 := (congrArg (et_pl · 0) (he o0 (puc_ne hu0 k_o0))).trans f0_o0
  have f1_o0 := (congrArg (et_pl · 1) (he o0 (puc_ne hu0 k_o0))).trans f1_o0
  have f2_o0 := (congrArg (et_pl · 2) (he o0 (puc_ne hu0 k_o0))).trans f2_o0
  have f3_o0 := (congrArg (et_pl · 3) (he o0 (puc_ne hu0 k_o0))).trans f3_o0
  have f4_o0 := (congrArg (et_pl · 4) (he o0 (puc_ne hu0 k_o0))).trans f4_o0
  have f5_o0 := (congrArg (et_pl · 5) (he o0 (puc_ne hu0 k_o0))).trans f5_o0
  have f6_o0 := (congrArg (et_pl · 6) (he o0 (puc_ne hu0 k_o0))).trans f6_o0
  have f7_o0 := (congrArg (et_pl · 7) (he o0 (puc_ne hu0 k_o0))).trans f7_o0
  have f8_o0 := (congrArg (et_pl · 8) (he o0 (puc_ne hu0 k_o0))).trans f8_o0
  have f9_o0 := (congrArg (et_pl · 9) (he o0 (puc_ne hu0 k_o0))).trans f9_o0
  have f10_o0 := (congrArg (et_pl · 10) (he o0 (puc_ne hu0 k_o0))).trans f10_o0
  have e0_o1 := (congrArg (et_pl · 0) (he ea_o1 (puc_ne hu0 k_ea_o1))).trans e0_o1
  have e1_o1 := (congrArg (et_pl · 1) (he ea_o1 (puc_ne hu0 k_ea_o1))).trans e1_o1
  have e2_o1 := (congrArg (et_pl · 2) (he ea_o1 (puc_ne hu0 k_ea_o1))).trans e2_o1
  have f0_o1 := (congrArg (et_pl · 0) (he o1 (puc_ne hu0 k_o1))).trans f0_o1
  have f1_o1 := (congrArg (et_pl · 1) (he o1 (puc_ne hu0 k_o1))).trans f1_o1
  have f2_o1 := (congrArg (et_pl · 2) (he o1 (puc_ne hu0 k_o1))).trans f2_o1
  have f3_o1 := (congrArg (et_pl · 3) (he o1 (puc_ne hu0 k_o1))).trans f3_o1
  have f4_o1 := (congrArg (et_pl · 4) (he o1 (puc_ne hu0 k_o1))).trans f4_o1
  have f5_o1 := (congrArg (et_pl · 5) (he o1 (puc_ne hu0 k_o1))).trans f5_o1
  have f6_o1 := (congrArg (et_pl · 6) (he o1 (puc_ne hu0 k_o1))).trans f6_o1
  have f7_o1 := (congrArg (et_pl · 7) (he o1 (puc_ne hu0 k_o1))).trans f7_o1
  have f8_o1 := (congrArg (et_pl · 8) (he o1 (puc_ne hu0 k_o1))).trans f8_o1
  have f9_o1 := (congrArg (et_pl · 9) (he o1 (puc_ne hu0 k_o1))).trans f9_o1
  have f10_o1 := (congrArg (et_pl · 10) (he o1 (puc_ne hu0 k_o1))).trans f10_o1
  have fl := (congrArg (et_pl · 1) (he o2 (puc_ne hu0 k_o2))).trans fl
  have fba := (congrArg (et_pl · 5) (he o2 (puc_ne hu0 k_o2))).trans fba
  have fna := (congrArg (et_pl · 6) (he o2 (puc_ne hu0 k_o2))).trans fna
  have Qa_o0 := Qa_o0.he hu0 he e2
  have Qb_o0 := Qb_o0.he hu0 he e2
  have Qc_o0 := Qc_o0.he hu0 he e2
  have Qa_o1 := Qa_o1.he hu0 he e2
  have Qb_o1 := Qb_o1.he hu0 he e2
  have Qc_o1 := Qc_o1.he hu0 he e2
  have Q_o5 := Q_o5.he hu0 he e2
  refine hs_aload (i := 0) (p := 88) (by decide +kernel) rfl ?_
  have hHo := hu.1
  refine ht_newV (ci := 3) (n := 3) (fs := [.null, .null, .int 0]) (p := 91) (by decide +kernel) (by omega) (by omega) (by decide +kernel) (by decide +kernel) hu.1 (fun G88 o6 ho hge hlt he => ?_)
  refine hs_dup1 (p := 92) (by decide +kernel) ?_
  refine hs_callp (mi := 57) (na := 0) (lk := 1) (lm := 1) (L0 := eg_en (eg_mL 57) [.ref o6]) (by decide +kernel) rfl rfl rfl rfl rfl (by rw [show eg_mL 57 = 1 from by decide +kernel]; first | done | rfl) ?_
  refine (pi_likes7 ho (by omega)).mono (fun u hZ => pi_cb hZ (fun K92 G92 hq2 hH k_o6 hP => ?_))
  have hk := pk_of hq2 hge hlt he
  have hu := hk.un hH hu
  have hq := hq.mo hk
  have e0_o0 := hk.fl hHo k_ea_o0 e0_o0
  have e1_o0 := hk.fl hHo k_ea_o0 e1_o0
  have e2_o0 := hk.fl hHo k_ea_o0 e2_o0
  have f0_o0 := hk.fl hHo k_o0 f0_o0
  have f1_o0 := hk.fl hHo k_o0 f1_o0
  have f2_o0 := hk.fl hHo k_o0 f2_o0
  have f3_o0 := hk.fl hHo k_o0 f3_o0
  have f4_o0 := hk.fl hHo k_o0 f4_o0
  have f5_o0 := hk.fl hHo k_o0 f5_o0
  have f6_o0 := hk.fl hHo k_o0 f6_o0
  have f7_o0 := hk.fl hHo k_o0 f7_o0
  have f8_o0 := hk.fl hHo k_o0 f8_o0
  have f9_o0 := hk.fl hHo k_o0 f9_o0
  have f10_o0 := hk.fl hHo k_o0 f10_o0
  have e0_o1 := hk.fl hHo k_ea_o1 e0_o1
  have e1_o1 := hk.fl hHo k_ea_o1 e1_o1
  have e2_o1 := hk.fl hHo k_ea_o1 e2_o1
  have f0_o1 := hk.fl hHo k_o1 f0_o1
  have f1_o1 := hk.fl hHo k_o1 f1_o1
  have f2_o1 := hk.fl hHo k_o1 f2_o1
  have f3_o1 := hk.fl hHo k_o1 f3_o1
  have f4_o1 := hk.fl hHo k_o1 f4_o1
  have f5_o1 := hk.fl hHo k_o1 f5_o1
  have f6_o1 := hk.fl hHo k_o1 f6_o1
  have f7_o1 := hk.fl hHo k_o1 f7_o1
  have f8_o1 := hk.fl hHo k_o1 f8_o1
  have f9_o1 := hk.fl hHo k_o1 f9_o1
  have f10_o1 := hk.fl hHo k_o1 f10_o1
  have fl := hk.fl hHo k_o2 fl
  have fba := hk.fl hHo k_o2 fba
  have fna := hk.fl hHo k_o2 fna
  have Qa_o0 := Qa_o0.pk hHo hk
  have Qb_o0 := Qb_o0.pk hHo hk
  have Qc_o0 := Qc_o0.pk hHo hk
  have Qa_o1 := Qa_o1.pk hHo hk
  have Qb_o1 := Qb_o1.pk hHo hk
  have Qc_o1 := Qc_o1.pk hHo hk
  have Q_o5 := Q_o5.pk hHo hk
  have k_o0 := hk.ty hHo k_o0
  have k_ra_o0 := hk.ty hHo k_ra_o0
  have k_ca_o0 := hk.ty hHo k_ca_o0
  have k_la_o0 := hk.ty hHo k_la_o0
  have k_ya_o0 := hk.ty hHo k_ya_o0
  have k_ta_o0 := hk.ty hHo k_ta_o0
  have k_ea_o0 := hk.ty hHo k_ea_o0
  have k_o1 := hk.ty hHo k_o1
  have k_ra_o1 := hk.ty hHo k_ra_o1
  have k_ca_o1 := hk.ty hHo k_ca_o1
  have k_la_o1 := hk.ty hHo k_la_o1
  have k_ya_o1 := hk.ty hHo k_ya_o1
  have k_ta_o1 := hk.ty hHo k_ta_o1
  have k_ea_o1 := hk.ty hHo k_ea_o1
  have k_o2 := hk.ty hHo k_o2
  have k_o3 := hk.ty hHo k_o3
  have k_o4 := hk.ty hHo k_o4
  have k_o5 := hk.ty hHo k_o5
  have k_b82 := hk.ty hHo k_b82
  have S_o6 := hP
  show et_go none _ 115 95 _ [.ref o6, .ref a] _ 79 136123 _
  have hu0 := hu
  refine hs_puti (ci := 10) (f := 11) (ty := .object "KnobEye$Likes") (v := .ref o6) (p := 98) (by decide +kernel) hu (Nat.le_of_ble_eq_true rfl) rfl (fun G95 hu he e2 => ?_)
  have hu : puc _ _ a (.inr (10, [.ref o0, .ref o1, .int 0, .ref o2, .ref o3, .ref o4, .int (-1), .int (-1), .ref o5, .ref b82, .int 0, .ref o6])) := hu
  have hq := hq.pt he e2
  have e0_o0 := (congrArg (et_pl · 0) (he ea_o0 (puc_ne hu0 k_ea_o0))).trans e0_o0
  have e1_o0 := (congrArg (et_pl · 1) (he ea_o0 (puc_ne hu0 k_ea_o0))).trans e1_o0
  have e2_o0 := (congrArg (et_pl · 2) (he ea_o0 (puc_ne hu0 k_ea_o0))).trans e2_o0
  have f0_o0 := (congrArg (et_pl · 0) (he o0 (puc_ne hu0 k_o0))).trans f0_o0
  have f1_o0 := (congrArg (et_pl · 1) (he o0 (puc_ne hu0 k_o0))).trans f1_o0
  have f2_o0 := (congrArg (et_pl · 2) (he o0 (puc_ne hu0 k_o0))).trans f2_o0
  have f3_o0 := (congrArg (et_pl · 3) (he o0 (puc_ne hu0 k_o0))).trans f3_o0
  have f4_o0 := (congrArg (et_pl · 4) (he o0 (puc_ne hu0 k_o0))).trans f4_o0
  have f5_o0 := (congrArg (et_pl · 5) (he o0 (puc_ne hu0 k_o0))).trans f5_o0
  have f6_o0 := (congrArg (et_pl · 6) (he o0 (puc_ne hu0 k_o0))).trans f6_o0
  have f7_o0 := (congrArg (et_pl · 7) (he o0 (puc_ne hu0 k_o0))).trans f7_o0
  have f8_o0 := (congrArg (et_pl · 8) (he o0 (puc_ne hu0 k_o0))).trans f8_o0
  have f9_o0 := (congrArg (et_pl · 9) (he o0 (puc_ne hu0 k_o0))).trans f9_o0
  have f10_o0 := (congrArg (et_pl · 10) (he o0 (puc_ne hu0 k_o0))).trans f10_o0
  have e0_o1 := (congrArg (et_pl · 0) (he ea_o1 (puc_ne hu0 k_ea_o1))).trans e0_o1
  have e1_o1 := (congrArg (et_pl · 1) (he ea_o1 (puc_ne hu0 k_ea_o1))).trans e1_o1
  have e2_o1 := (congrArg (et_pl · 2) (he ea_o1 (puc_ne hu0 k_ea_o1))).trans e2_o1
  have f0_o1 := (congrArg (et_pl · 0) (he o1 (puc_ne hu0 k_o1))).trans f0_o1
  have f1_o1 := (congrArg (et_pl · 1) (he o1 (puc_ne hu0 k_o1))).trans f1_o1
  have f2_o1 := (congrArg (et_pl · 2) (he o1 (puc_ne hu0 k_o1))).trans f2_o1
  have f3_o1 := (congrArg (et_pl · 3) (he o1 (puc_ne hu0 k_o1))).trans f3_o1
  have f4_o1 := (congrArg (et_pl · 4) (he o1 (puc_ne hu0 k_o1))).trans f4_o1
  have f5_o1 := (congrArg (et_pl · 5) (he o1 (puc_ne hu0 k_o1))).trans f5_o1
  have f6_o1 := (congrArg (et_pl · 6) (he o1 (puc_ne hu0 k_o1))).trans f6_o1
  have f7_o1 := (congrArg (et_pl · 7) (he o1 (puc_ne hu0 k_o1))).trans f7_o1
  have f8_o1 := (congrArg (et_pl · 8) (he o1 (puc_ne hu0 k_o1))).trans f8_o1
  have f9_o1 := (congrArg (et_pl · 9) (he o1 (puc_ne hu0 k_o1))).trans f9_o1
  have f10_o1 := (congrArg (et_pl · 10) (he o1 (puc_ne hu0 k_o1))).trans f10_o1
  have fl := (congrArg (et_pl · 1) (he o2 (puc_ne hu0 k_o2))).trans fl
  have fba := (congrArg (et_pl · 5) (he o2 (puc_ne hu0 k_o2))).trans fba
  have fna := (congrArg (et_pl · 6) (he o2 (puc_ne hu0 k_o2))).trans fna
  have Qa_o0 := Qa_o0.he hu0 he e2
  have Qb_o0 := Qb_o0.he hu0 he e2
  have Qc_o0 := Qc_o0.he hu0 he e2
  have Qa_o1 := Qa_o1.he hu0 he e2
  have Qb_o1 := Qb_o1.he hu0 he e2
  have Qc_o1 := Qc_o1.he hu0 he e2
  have Q_o5 := Q_o5.he hu0 he e2
  have S_o6 := S_o6.he hu0 he
  obtain ⟨hHt, kt⟩ := puc_typ (t := 12) hu (by decide) rfl ⟨_, rfl, rfl, fun k p hk => by
      match k, hk with
      | 0, hk => cases hk; exact ⟨_, rfl, .inr (.inr ⟨by decide, _, rfl, k_o0⟩)⟩
      | 1, hk => cases hk; exact ⟨_, rfl, .inr (.inr ⟨by decide, _, rfl, k_o1⟩)⟩
      | 2, hk => cases hk; exact ⟨_, rfl, .inr ⟨_, rfl, by decide, by decide⟩⟩
      | 3, hk => cases hk; exact ⟨_, rfl, .inr (.inr ⟨by decide, _, rfl, k_o2⟩)⟩
      | 4, hk => cases hk; exact ⟨_, rfl, .inr (.inr ⟨by decide, _, rfl, k_o3⟩)⟩
      | 5, hk => cases hk; exact ⟨_, rfl, .inr (.inr ⟨by decide, _, rfl, k_o4⟩)⟩
      | 6, hk => cases hk; exact ⟨_, rfl, .inr ⟨_, rfl, by decide, by decide⟩⟩
      | 7, hk => cases hk; exact ⟨_, rfl, .inr ⟨_, rfl, by decide, by decide⟩⟩
      | 8, hk => cases hk; exact ⟨_, rfl, .inr (.inr ⟨by decide, _, rfl, k_o5⟩)⟩
      | 9, hk => cases hk; exact ⟨_, rfl, .inr (.inr ⟨by decide, _, rfl, k_b82⟩)⟩
      | 10, hk => cases hk; exact ⟨_, rfl, .inr ⟨_, rfl, by decide, by decide⟩⟩
      | 11, hk => cases hk; exact ⟨_, rfl, .inr (.inr ⟨by decide, _, rfl, k_o6⟩)⟩
      | n + 12, hk => cases hk⟩ ⟨fun h => absurd h (by decide), fun h => absurd h (by decide)⟩
  refine hs_vret (by decide +kernel) ?_
  exact ⟨_, hq.ty (.inl rfl), hHt, kt, rfl, rfl, rfl, ⟨⟨⟨⟨o2, by rw [hu.2.2.2.2]; rfl, et_kn_k hu k_o2, fl, ba, na, fba, fna, hbn⟩, o0, o1, ra_o0, ca_o0, ra_o1, ca_o1, kt, ⟨by rw [hu.2.2.2.2]; rfl, by rw [hu.2.2.2.2]; rfl⟩, ⟨hne0, hnr, hnc⟩, ⟨⟨⟨et_kn_k hu k_o0, et_kn_k hu k_ra_o0, et_kn_k hu k_ca_o0⟩, ⟨f1_o0, f10_o0⟩, ⟨f0_o0, f5_o0, f9_o0⟩⟩, f2_o0, f7_o0⟩, ⟨⟨⟨et_kn_k hu k_o1, et_kn_k hu k_ra_o1, et_kn_k hu k_ca_o1⟩, ⟨f1_o1, f10_o1⟩, ⟨f0_o1, f5_o1, f9_o1⟩⟩, f2_o1, f7_o1⟩, la_o0, ya_o0, la_o1, ya_o1, ta_o0, ta_o1, ⟨f3_o0, f4_o0, f3_o1, f4_o1⟩, ⟨et_kn_k hu k_la_o0, et_kn_k hu k_ya_o0, et_kn_k hu k_la_o1, et_kn_k hu k_ya_o1⟩, ⟨hnl, hny⟩, ⟨f8_o0, f8_o1, et_kn_k hu k_ta_o0, et_kn_k hu k_ta_o1, hnt⟩, ez_mk ⟨et_kn_k hu k_ea_o0, et_kn_k hu k_ea_o1⟩ ⟨f6_o0, f6_o1, by rw [hu.2.2.2.2]; rfl⟩ ⟨e0_o0, e1_o0, e2_o0⟩ ⟨e0_o1, e1_o1, e2_o1⟩ ⟨Qa_o0.kn hu, Qb_o0.kn hu, Qc_o0.kn hu⟩ ⟨Qa_o1.kn hu, Qb_o1.kn hu, Qc_o1.kn hu⟩ (Q_o5.kn hu) ⟨ho1_o0, ho2_o0, Nat.lt_of_lt_of_le hlo_Qc_o0_o1 hla, ho1_o1, ho2_o1, hlo_Qc_o1_o5⟩⟩, by rw [hu.2.2.2.2]; rfl⟩, o6, by rw [hu.2.2.2.2]; rfl, S_o6.kn hu⟩⟩
end AUA
end
