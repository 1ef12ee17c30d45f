/-! PHASE D: wire, sees -/
theorem xi_eqz {x : Int32} : x = 0 ↔ x.toInt = 0 := ⟨fun h => by rw [h]; rfl, fun h => Int32.toInt_inj.mp (by rw [h]; rfl)⟩
def kdp (Kd : Nat → Nat) (w kz : Nat) : Nat → Nat := fun k => if k = w then kz else Kd k
section VNA
variable {K : et_K} {G : eg_G} {d d2 th s0 ya e ca ki kn w m n ec out kz : Nat} {C N : Nat → Int32} {Kd : Nat → Nat} {l s t f x y z zz : Int32} {Z : eg_O → Prop}
theorem fd_join (hH : et_H et_TT K G) (t9 : evK K e ca ki kn w Kd) (hd9 : ¬ kn = ca ∧ ¬ kn = ki) (hv : evC G e ca ki kn w C Kd N l s t f) (hd8 : ¬ ca = ki) (hw5 : w < 6) (hkz : kz ≤ 2) (h : ∀ G', et_H et_TT K G' → xf (fun b j => (b = e ∧ j = 0) ∨ (b = ca ∧ j = w) ∨ (b = ki ∧ j = w)) G G' → evC G' e ca ki kn (w + 1) (kup C w y) (kdp Kd w kz) N l s t f → Z (.inl none, G', 0, 0)) : et_go none d2 38 0 (eg_en (eg_mL 38) [.ref e, .int y, .int (Int32.ofNat kz)]) [] G 0 0 Z := by
  have k_e := t9.1.1
  have k_ca := t9.1.2.1
  have k_ki := t9.1.2.2.1
  have k_kn := t9.1.2.2.2
  have hw6 := t9.2.1
  obtain ⟨⟨p0, p1, p2, p3⟩, hN, hCK, p4, p5, p6, p7⟩ := hv
  have hC : ∀ k, k < w → et_pl (eg_at G ca) k = some (.int (C k)) := fun k hk => (hCK k hk).1
  have hK : ∀ k, k < w → et_pl (eg_at G ki) k = some (.int (Int32.ofNat (Kd k))) := fun k hk => (hCK k hk).2
  rw [show eg_mL 38 = 3 from by decide +kernel]
  show et_go none d2 38 0 [some (.ref e), some (.int y), some (.int (Int32.ofNat kz))] [] G 0 0 _
  have lt_e := (hH.2.2 _ _ k_e).1
  have lt_ca := (hH.2.2 _ _ k_ca).1
  have lt_ki := (hH.2.2 _ _ k_ki).1
  have lt_kn := (hH.2.2 _ _ k_kn).1
  have hX : xf (fun b j => (b = e ∧ j = 0) ∨ (b = ca ∧ j = w) ∨ (b = ki ∧ j = w)) G G := xf.rf
  refine hs_aload (i := 0) (p := 1) (by decide +kernel) rfl ?_
  refine hf_get (T := et_TT) (t := 3) (ci := 1) (f := 0) (p := 4) (by decide +kernel) rfl hH k_e p0 ?_
  refine hs_k (x := Int32.ofNat 6) (p := 6) (by decide +kernel) ?_
  refine hs_br2n (c := .ge) (t := 39) (f := 9) (by decide +kernel) (by omega) (by omega) (fun (c6 : 6 ≤ w) => ?_) (fun (c6 : ¬ (6 ≤ w)) => ?_)
  · exact absurd c6 (by omega)
  · refine hs_aload (i := 0) (p := 10) (by decide +kernel) rfl ?_
    refine hf_get (T := et_TT) (t := 3) (ci := 1) (f := 1) (p := 13) (by decide +kernel) rfl hH k_e p1 ?_
    refine hs_aload (i := 0) (p := 14) (by decide +kernel) rfl ?_
    refine hf_get (T := et_TT) (t := 3) (ci := 1) (f := 0) (p := 17) (by decide +kernel) rfl hH k_e p0 ?_
    refine hs_iload (i := 1) (p := 18) (by decide +kernel) rfl ?_
    refine hf_ist (T := et_TT) (t := 15) (N := 6) (p := 19) (by decide +kernel) rfl rfl (by decide) hH k_ca (by omega) (by decide) (fun s hs => absurd hs List.not_mem_nil) (fun G18 hH x18 e18 => ?_)
    have p0 := (x18.2 e 0 lt_e (fun h => (hi_ne k_e k_ca (by decide)) h.1)).trans p0
    have p1 := (x18.2 e 1 lt_e (fun h => (hi_ne k_e k_ca (by decide)) h.1)).trans p1
    have p2 := (x18.2 e 2 lt_e (fun h => (hi_ne k_e k_ca (by decide)) h.1)).trans p2
    have p3 := (x18.2 e 3 lt_e (fun h => (hi_ne k_e k_ca (by decide)) h.1)).trans p3
    have p4 := (x18.2 e 4 lt_e (fun h => (hi_ne k_e k_ca (by decide)) h.1)).trans p4
    have p5 := (x18.2 e 5 lt_e (fun h => (hi_ne k_e k_ca (by decide)) h.1)).trans p5
    have p6 := (x18.2 e 6 lt_e (fun h => (hi_ne k_e k_ca (by decide)) h.1)).trans p6
    have p7 := (x18.2 e 7 lt_e (fun h => (hi_ne k_e k_ca (by decide)) h.1)).trans p7
    have hN : ∀ k, k < 6 → et_pl (eg_at G18 kn) k = some (.int (N k)) := fun (k : Nat) (hk : k < 6) => (x18.2 kn k lt_kn (fun h => hd9.1 h.1)).trans (hN k hk)
    have hC : ∀ k, k < w → et_pl (eg_at G18 ca) k = some (.int (C k)) := fun (k : Nat) (hk : k < w) => (x18.2 ca k lt_ca (fun h => by have h := h.2; omega)).trans (hC k hk)
    have hK : ∀ k, k < w → et_pl (eg_at G18 ki) k = some (.int (Int32.ofNat (Kd k))) := fun (k : Nat) (hk : k < w) => (x18.2 ki k lt_ki (fun h => (fun h => hd8 h.symm) h.1)).trans (hK k hk)
    have lt_e := Nat.lt_of_lt_of_le lt_e x18.1
    have lt_ca := Nat.lt_of_lt_of_le lt_ca x18.1
    have lt_ki := Nat.lt_of_lt_of_le lt_ki x18.1
    have lt_kn := Nat.lt_of_lt_of_le lt_kn x18.1
    have hX := hX.tr x18 (fun b j hb h => by first | omega | (dsimp only at h ⊢; omega) | (dsimp only at h; omega) | (dsimp only; omega))
    refine hs_aload (i := 0) (p := 20) (by decide +kernel) rfl ?_
    refine hf_get (T := et_TT) (t := 3) (ci := 1) (f := 2) (p := 23) (by decide +kernel) rfl hH k_e p2 ?_
    refine hs_aload (i := 0) (p := 24) (by decide +kernel) rfl ?_
    refine hf_get (T := et_TT) (t := 3) (ci := 1) (f := 0) (p := 27) (by decide +kernel) rfl hH k_e p0 ?_
    refine hs_iload (i := 2) (p := 28) (by decide +kernel) rfl ?_
    refine hf_ist (T := et_TT) (t := 15) (N := 6) (p := 29) (by decide +kernel) rfl rfl (by decide) hH k_ki (by omega) (by decide) (fun s hs => absurd hs List.not_mem_nil) (fun G28 hH x28 e28 => ?_)
    have p0 := (x28.2 e 0 lt_e (fun h => (hi_ne k_e k_ki (by decide)) h.1)).trans p0
    have p1 := (x28.2 e 1 lt_e (fun h => (hi_ne k_e k_ki (by decide)) h.1)).trans p1
    have p2 := (x28.2 e 2 lt_e (fun h => (hi_ne k_e k_ki (by decide)) h.1)).trans p2
    have p3 := (x28.2 e 3 lt_e (fun h => (hi_ne k_e k_ki (by decide)) h.1)).trans p3
    have p4 := (x28.2 e 4 lt_e (fun h => (hi_ne k_e k_ki (by decide)) h.1)).trans p4
    have p5 := (x28.2 e 5 lt_e (fun h => (hi_ne k_e k_ki (by decide)) h.1)).trans p5
    have p6 := (x28.2 e 6 lt_e (fun h => (hi_ne k_e k_ki (by decide)) h.1)).trans p6
    have p7 := (x28.2 e 7 lt_e (fun h => (hi_ne k_e k_ki (by decide)) h.1)).trans p7
    have e18 := (x28.2 ca w lt_ca (fun h => hd8 h.1)).trans e18
    have hN : ∀ k, k < 6 → et_pl (eg_at G28 kn) k = some (.int (N k)) := fun (k : Nat) (hk : k < 6) => (x28.2 kn k lt_kn (fun h => hd9.2 h.1)).trans (hN k hk)
    have hC : ∀ k, k < w → et_pl (eg_at G28 ca) k = some (.int (C k)) := fun (k : Nat) (hk : k < w) => (x28.2 ca k lt_ca (fun h => hd8 h.1)).trans (hC k hk)
    have hK : ∀ k, k < w → et_pl (eg_at G28 ki) k = some (.int (Int32.ofNat (Kd k))) := fun (k : Nat) (hk : k < w) => (x28.2 ki k lt_ki (fun h => by have h := h.2; omega)).trans (hK k hk)
    have lt_e := Nat.lt_of_lt_of_le lt_e x28.1
    have lt_ca := Nat.lt_of_lt_of_le lt_ca x28.1
    have lt_ki := Nat.lt_of_lt_of_le lt_ki x28.1
    have lt_kn := Nat.lt_of_lt_of_le lt_kn x28.1
    have hX := hX.tr x28 (fun b j hb h => by first | omega | (dsimp only at h ⊢; omega) | (dsimp only at h; omega) | (dsimp only; omega))
    refine hs_aload (i := 0) (p := 30) (by decide +kernel) rfl ?_
    refine hs_dup1 (p := 31) (by decide +kernel) ?_
    refine hf_get (T := et_TT) (t := 3) (ci := 1) (f := 0) (p := 34) (by decide +kernel) rfl hH k_e p0 ?_
    refine hs_k (x := Int32.ofNat 1) (p := 35) (by decide +kernel) ?_
    refine hs_iaddn (p := 36) (by decide +kernel) ?_
    refine hf_put (T := et_TT) (t := 3) (ci := 1) (f := 0) (p := 39) (ty := .int) (by decide +kernel) rfl rfl rfl rfl rfl hH k_e (hi_nv (by omega) (by omega)) (fun G36 hH x36 e36 => ?_)
    have p1 := (x36.2 e 1 lt_e (fun h => absurd h.2 (by decide))).trans p1
    have p2 := (x36.2 e 2 lt_e (fun h => absurd h.2 (by decide))).trans p2
    have p3 := (x36.2 e 3 lt_e (fun h => absurd h.2 (by decide))).trans p3
    have p4 := (x36.2 e 4 lt_e (fun h => absurd h.2 (by decide))).trans p4
    have p5 := (x36.2 e 5 lt_e (fun h => absurd h.2 (by decide))).trans p5
    have p6 := (x36.2 e 6 lt_e (fun h => absurd h.2 (by decide))).trans p6
    have p7 := (x36.2 e 7 lt_e (fun h => absurd h.2 (by decide))).trans p7
    have e18 := (x36.2 ca w lt_ca (fun h => (hi_ne k_ca k_e (by decide)) h.1)).trans e18
    have e28 := (x36.2 ki w lt_ki (fun h => (hi_ne k_ki k_e (by decide)) h.1)).trans e28
    have hN : ∀ k, k < 6 → et_pl (eg_at G36 kn) k = some (.int (N k)) := fun (k : Nat) (hk : k < 6) => (x36.2 kn k lt_kn (fun h => (hi_ne k_kn k_e (by decide)) h.1)).trans (hN k hk)
    have hC : ∀ k, k < w → et_pl (eg_at G36 ca) k = some (.int (C k)) := fun (k : Nat) (hk : k < w) => (x36.2 ca k lt_ca (fun h => (hi_ne k_ca k_e (by decide)) h.1)).trans (hC k hk)
    have hK : ∀ k, k < w → et_pl (eg_at G36 ki) k = some (.int (Int32.ofNat (Kd k))) := fun (k : Nat) (hk : k < w) => (x36.2 ki k lt_ki (fun h => (hi_ne k_ki k_e (by decide)) h.1)).trans (hK k hk)
    have lt_e := Nat.lt_of_lt_of_le lt_e x36.1
    have lt_ca := Nat.lt_of_lt_of_le lt_ca x36.1
    have lt_ki := Nat.lt_of_lt_of_le lt_ki x36.1
    have lt_kn := Nat.lt_of_lt_of_le lt_kn x36.1
    have hX := hX.tr x36 (fun b j hb h => by first | omega | (dsimp only at h ⊢; omega) | (dsimp only at h; omega) | (dsimp only; omega))
    refine hs_vret (by decide +kernel) ?_
    refine h _ hH hX ⟨⟨e36, p1, p2, p3⟩, hN, fun k hk => ?_, p4, p5, p6, p7⟩
    unfold kup kdp
    by_cases ek : k = w
    · rw [if_pos ek, if_pos ek, ek]
      exact ⟨e18, e28⟩
    · rw [if_neg ek, if_neg ek]
      exact ⟨hC k (by omega), hK k (by omega)⟩
theorem fd_lit (hH : et_H et_TT K G) (hy : 0 ≤ y.toInt ∧ y.toInt < 65536) : et_go none d2 135 0 (eg_en (eg_mL 135) [.int y]) [] G 0 0 (xp_Z G none) := by
  rw [show eg_mL 135 = 1 from by decide +kernel]
  show et_go none d2 135 0 [some (.int y)] [] G 0 0 _
  refine hs_iload (i := 0) (p := 1) (by decide +kernel) rfl ?_
  refine hs_br1 (c := .lt) (t := 11) (f := 4) (by decide +kernel) (fun (c1 : y < 0) => ?_) (fun (c1 : ¬ (y < 0)) => ?_)
  · exact absurd hy.1 (by rw [xi_lt0] at c1; omega)
  · refine hs_iload (i := 0) (p := 5) (by decide +kernel) rfl ?_
    refine hs_kld (v := .int 65536) (p := 8) (by decide +kernel) ?_
    refine hs_br2 (c := .lt) (t := 19) (f := 11) (by decide +kernel) (fun (c8 : y < 65536) => ?_) (fun (c8 : ¬ (y < 65536)) => ?_)
    · refine hs_vret (by decide +kernel) ?_
      rfl
    · exact absurd hy.2 (by rw [Int32.lt_iff_toInt_lt] at c8; exact c8)
theorem fd_litN (hH : et_H et_TT K G) (hy : ¬ (0 ≤ y.toInt ∧ y.toInt < 65536)) : et_go none d2 135 0 (eg_en (eg_mL 135) [.int y]) [] G 0 0 (ix_Z 0 G) := by
  rw [show eg_mL 135 = 1 from by decide +kernel]
  show et_go none d2 135 0 [some (.int y)] [] G 0 0 _
  refine hs_iload (i := 0) (p := 1) (by decide +kernel) rfl ?_
  refine hs_br1 (c := .lt) (t := 11) (f := 4) (by decide +kernel) (fun (c1 : y < 0) => ?_) (fun (c1 : ¬ (y < 0)) => ?_)
  · refine hs_thr (x := 0) (lk := 1) (by decide +kernel) rfl rfl ?_
    exact ⟨_, _, rfl⟩
  · refine hs_iload (i := 0) (p := 5) (by decide +kernel) rfl ?_
    refine hs_kld (v := .int 65536) (p := 8) (by decide +kernel) ?_
    refine hs_br2 (c := .lt) (t := 19) (f := 11) (by decide +kernel) (fun (c8 : y < 65536) => ?_) (fun (c8 : ¬ (y < 65536)) => ?_)
    · exact absurd ⟨by rw [xi_lt0] at c1; omega, by rw [Int32.lt_iff_toInt_lt] at c8; exact c8⟩ hy
    · refine hs_thr (x := 0) (lk := 1) (by decide +kernel) rfl rfl ?_
      exact ⟨_, _, rfl⟩
theorem fd_wire (hH : et_H et_TT K G) (k_th : K th = some 12) (h0 : et_pl (eg_at G th) 0 = some (.ref s0)) (k_s0 : K s0 = some 10) (h5 : et_pl (eg_at G s0) 5 = some (.int (Int32.ofNat ec))) (hec : ec ≤ 3) (h6 : et_pl (eg_at G s0) 6 = some (.ref ya)) (k_ya : K ya = some 40) (hn : n < ec) (hE : et_pl (eg_at G ya) n = some (.ref e)) (t9 : evK K e ca ki kn w Kd) (hd9 : ¬ kn = ca ∧ ¬ kn = ki) (hv : evC G e ca ki kn w C Kd N l s t f) (hd8 : ¬ ca = ki) (hw5 : w < 6) (hkz : kz ≤ 2) (hy : 0 < y.toInt ∧ y.toInt < 65536) (hd : 1 ≤ d2) (h : ∀ G', et_H et_TT K G' → xf (fun b j => (b = th ∧ (6 ≤ j ∧ j ≤ 7)) ∨ (b = e ∧ j = 0) ∨ (b = ca ∧ j = w) ∨ (b = ki ∧ j = w)) G G' → evC G' e ca ki kn (w + 1) (kup C w y) (kdp Kd w kz) N l s t f → Z (.inl (some (.int (Int32.ofNat w))), G', 0, 0)) : et_go none d2 140 0 (eg_en (eg_mL 140) [.ref th, .int (Int32.ofNat n), .int y, .int (Int32.ofNat kz)]) [] G 0 0 Z := by
  obtain ⟨d, rfl⟩ : ∃ d, d2 = d + 1 := ⟨d2 - 1, by omega⟩
  have hy0 := hy
  replace hy : 0 ≤ y.toInt ∧ y.toInt < 65536 := ⟨by omega, hy.2⟩
  have k_e := t9.1.1
  have k_ca := t9.1.2.1
  have k_ki := t9.1.2.2.1
  have k_kn := t9.1.2.2.2
  have hw6 := t9.2.1
  rw [show eg_mL 140 = 5 from by decide +kernel]
  show et_go none (d + 1) 140 0 [some (.ref th), some (.int (Int32.ofNat n)), some (.int y), some (.int (Int32.ofNat kz)), none] [] G 0 0 _
  have lt_th := (hH.2.2 _ _ k_th).1
  have lt_s0 := (hH.2.2 _ _ k_s0).1
  have lt_ya := (hH.2.2 _ _ k_ya).1
  have lt_e := (hH.2.2 _ _ k_e).1
  have lt_ca := (hH.2.2 _ _ k_ca).1
  have lt_ki := (hH.2.2 _ _ k_ki).1
  have lt_kn := (hH.2.2 _ _ k_kn).1
  have hX : xf (fun b j => (b = th ∧ (6 ≤ j ∧ j ≤ 7)) ∨ (b = e ∧ j = 0) ∨ (b = ca ∧ j = w) ∨ (b = ki ∧ j = w)) G G := xf.rf
  refine hs_aload (i := 0) (p := 1) (by decide +kernel) rfl ?_
  refine hs_iload (i := 1) (p := 2) (by decide +kernel) rfl ?_
  refine ht_callv (T := et_TT) (t := 12) (mi := 128) (na := 1) (ci := 10) (lk := 5) (lm := 2) (L0 := eg_en (eg_mL 128) [.ref th, .int (Int32.ofNat n)]) (by decide +kernel) rfl hH k_th rfl rfl rfl rfl rfl (by rw [show eg_mL 128 = 2 from by decide +kernel]; first | done | rfl) ?_
  refine (fd_needE hH k_th h0 k_s0 h5 hec h6 k_ya hn hE).mono (fun u hu => xp_cb hu ?_)
  show et_go none _ 140 5 _ [.ref e] _ _ _ _
  refine hs_astore (i := 4) (p := 7) (by decide +kernel) (Nat.le_of_ble_eq_true rfl) ?_
  refine hs_iload (i := 2) (p := 8) (by decide +kernel) rfl ?_
  refine hs_calls (mi := 135) (na := 1) (lk := 5) (lm := 1) (L0 := eg_en (eg_mL 135) [.int y]) (by decide +kernel) rfl rfl rfl rfl rfl rfl (by rw [show eg_mL 135 = 1 from by decide +kernel]; first | done | rfl) ?_
  refine (fd_lit hH hy).mono (fun u hu => xp_cb hu ?_)
  show et_go none _ 140 11 _ [] _ _ _ _
  refine hs_iload (i := 2) (p := 12) (by decide +kernel) rfl ?_
  refine hs_br1 (c := .eq) (t := 24) (f := 15) (by decide +kernel) (fun (c12 : y = 0) => ?_) (fun (c12 : ¬ (y = 0)) => ?_)
  · exact absurd (xi_eqz.mp c12) (by omega)
  · refine hs_iload (i := 3) (p := 16) (by decide +kernel) rfl ?_
    refine hs_if0 (c := .lt) (t := 24) (f := 19) (by decide +kernel) (rs_nn (by omega)) ?_
    refine hs_iload (i := 3) (p := 20) (by decide +kernel) rfl ?_
    refine hs_k (x := Int32.ofNat 2) (p := 21) (by decide +kernel) ?_
    refine hs_br2n (c := .le) (t := 32) (f := 24) (by decide +kernel) (by omega) (by omega) (fun (c21 : kz ≤ 2) => ?_) (fun (c21 : ¬ (kz ≤ 2)) => ?_)
    · refine hs_aload (i := 4) (p := 34) (by decide +kernel) rfl ?_
      refine hf_get (T := et_TT) (t := 3) (ci := 1) (f := 0) (p := 37) (by decide +kernel) rfl hH k_e hv.1.1 ?_
      refine hs_k (x := Int32.ofNat 6) (p := 39) (by decide +kernel) ?_
      refine hs_br2n (c := .lt) (t := 50) (f := 42) (by decide +kernel) (by omega) (by omega) (fun (c39 : w < 6) => ?_) (fun (c39 : ¬ (w < 6)) => ?_)
      · refine hs_aload (i := 0) (p := 51) (by decide +kernel) rfl ?_
        have hH9 := hH
        refine ht_callv (T := et_TT) (t := 12) (mi := 120) (na := 0) (ci := 10) (lk := 5) (lm := 1) (L0 := eg_en (eg_mL 120) [.ref th]) (by decide +kernel) rfl hH k_th rfl rfl rfl rfl rfl (by rw [show eg_mL 120 = 1 from by decide +kernel]; first | done | rfl) ?_
        refine (fc_forget hH k_th).mono (fun u hu => xw_cb hu (fun G51 v51 hH x51 hP51 => ?_))
        have hHo := hH9
        have hv := hv.xs t9 hHo x51 (fun b j h => by rw [h.1, k_th]; exact ⟨by decide, by decide⟩)
        have h0 := (x51.2 th 0 lt_th (fun h => absurd h.2 (by decide))).trans h0
        have h5 := (x51.2 s0 5 lt_s0 (fun h => (hi_ne k_s0 k_th (by decide)) h.1)).trans h5
        have h6 := (x51.2 s0 6 lt_s0 (fun h => (hi_ne k_s0 k_th (by decide)) h.1)).trans h6
        have hE := (x51.2 ya n lt_ya (fun h => (hi_ne k_ya k_th (by decide)) h.1)).trans hE
        have lt_th := Nat.lt_of_lt_of_le lt_th x51.1
        have lt_s0 := Nat.lt_of_lt_of_le lt_s0 x51.1
        have lt_ya := Nat.lt_of_lt_of_le lt_ya x51.1
        have lt_e := Nat.lt_of_lt_of_le lt_e x51.1
        have lt_ca := Nat.lt_of_lt_of_le lt_ca x51.1
        have lt_ki := Nat.lt_of_lt_of_le lt_ki x51.1
        have lt_kn := Nat.lt_of_lt_of_le lt_kn x51.1
        have hX := hX.tr x51 (fun b j hb h => by first | omega | (dsimp only at h ⊢; omega) | (dsimp only at h; omega) | (dsimp only; omega))
        obtain rfl := hP51
        show et_go none _ 140 54 _ [] _ _ _ _
        refine hs_aload (i := 4) (p := 56) (by decide +kernel) rfl ?_
        refine hs_iload (i := 2) (p := 57) (by decide +kernel) rfl ?_
        refine hs_iload (i := 3) (p := 58) (by decide +kernel) rfl ?_
        refine ht_callv (T := et_TT) (t := 3) (mi := 38) (na := 2) (ci := 1) (lk := 5) (lm := 3) (L0 := eg_en (eg_mL 38) [.ref e, .int y, .int (Int32.ofNat kz)]) (by decide +kernel) rfl hH k_e rfl rfl rfl rfl rfl (by rw [show eg_mL 38 = 3 from by decide +kernel]; first | done | rfl) ?_
        refine fd_join hH t9 hd9 hv hd8 hw5 hkz (fun G58 hH x58 hv => ?_)
        have lt_th := Nat.lt_of_lt_of_le lt_th x58.1
        have lt_s0 := Nat.lt_of_lt_of_le lt_s0 x58.1
        have lt_ya := Nat.lt_of_lt_of_le lt_ya x58.1
        have lt_e := Nat.lt_of_lt_of_le lt_e x58.1
        have lt_ca := Nat.lt_of_lt_of_le lt_ca x58.1
        have lt_ki := Nat.lt_of_lt_of_le lt_ki x58.1
        have lt_kn := Nat.lt_of_lt_of_le lt_kn x58.1
        have hX := hX.tr x58 (fun b j hb h => by first | omega | (dsimp only at h ⊢; omega) | (dsimp only at h; omega))
        refine hs_cb ?_
        show et_go none _ 140 61 _ [] _ _ _ _
        refine hs_aload (i := 4) (p := 63) (by decide +kernel) rfl ?_
        refine hf_get (T := et_TT) (t := 3) (ci := 1) (f := 0) (p := 66) (by decide +kernel) rfl hH k_e hv.1.1 ?_
        refine hs_k (x := Int32.ofNat 1) (p := 67) (by decide +kernel) ?_
        refine hs_isubn (p := 68) (by decide +kernel) (by omega) ?_
        refine hs_iret (by decide +kernel) ?_
        rw [Nat.add_sub_cancel]
        exact h _ hH hX hv
      · exact absurd hw5 c39
    · exact absurd hkz c21
theorem fd_wireR (hH : et_H et_TT K G) (k_th : K th = some 12) (h0 : et_pl (eg_at G th) 0 = some (.ref s0)) (k_s0 : K s0 = some 10) (h5 : et_pl (eg_at G s0) 5 = some (.int (Int32.ofNat ec))) (hec : ec ≤ 3) (h6 : et_pl (eg_at G s0) 6 = some (.ref ya)) (k_ya : K ya = some 40) (hn : n < ec) (hE : et_pl (eg_at G ya) n = some (.ref e)) (t9 : evK K e ca ki kn w Kd) (hd9 : ¬ kn = ca ∧ ¬ kn = ki) (hv : evC G e ca ki kn w C Kd N l s t f) (hz : ¬ (0 < y.toInt ∧ y.toInt < 65536 ∧ 0 ≤ z.toInt ∧ z.toInt ≤ 2)) (hd : 1 ≤ d2) : et_go none d2 140 0 (eg_en (eg_mL 140) [.ref th, .int (Int32.ofNat n), .int y, .int z]) [] G 0 0 (ix_Z 0 G) := by
  obtain ⟨d, rfl⟩ : ∃ d, d2 = d + 1 := ⟨d2 - 1, by omega⟩
  have k_e := t9.1.1
  have k_ca := t9.1.2.1
  have k_ki := t9.1.2.2.1
  have k_kn := t9.1.2.2.2
  have hw6 := t9.2.1
  by_cases hy : 0 ≤ y.toInt ∧ y.toInt < 65536
  · rw [show eg_mL 140 = 5 from by decide +kernel]
    show et_go none (d + 1) 140 0 [some (.ref th), some (.int (Int32.ofNat n)), some (.int y), some (.int z), none] [] G 0 0 _
    have lt_th := (hH.2.2 _ _ k_th).1
    have lt_s0 := (hH.2.2 _ _ k_s0).1
    have lt_ya := (hH.2.2 _ _ k_ya).1
    have lt_e := (hH.2.2 _ _ k_e).1
    have lt_ca := (hH.2.2 _ _ k_ca).1
    have lt_ki := (hH.2.2 _ _ k_ki).1
    have lt_kn := (hH.2.2 _ _ k_kn).1
    refine hs_aload (i := 0) (p := 1) (by decide +kernel) rfl ?_
    refine hs_iload (i := 1) (p := 2) (by decide +kernel) rfl ?_
    refine ht_callv (T := et_TT) (t := 12) (mi := 128) (na := 1) (ci := 10) (lk := 5) (lm := 2) (L0 := eg_en (eg_mL 128) [.ref th, .int (Int32.ofNat n)]) (by decide +kernel) rfl hH k_th rfl rfl rfl rfl rfl (by rw [show eg_mL 128 = 2 from by decide +kernel]; first | done | rfl) ?_
    refine (fd_needE hH k_th h0 k_s0 h5 hec h6 k_ya hn hE).mono (fun u hu => xp_cb hu ?_)
    show et_go none _ 140 5 _ [.ref e] _ _ _ _
    refine hs_astore (i := 4) (p := 7) (by decide +kernel) (Nat.le_of_ble_eq_true rfl) ?_
    refine hs_iload (i := 2) (p := 8) (by decide +kernel) rfl ?_
    refine hs_calls (mi := 135) (na := 1) (lk := 5) (lm := 1) (L0 := eg_en (eg_mL 135) [.int y]) (by decide +kernel) rfl rfl rfl rfl rfl rfl (by rw [show eg_mL 135 = 1 from by decide +kernel]; first | done | rfl) ?_
    refine (fd_lit hH hy).mono (fun u hu => xp_cb hu ?_)
    show et_go none _ 140 11 _ [] _ _ _ _
    refine hs_iload (i := 2) (p := 12) (by decide +kernel) rfl ?_
    refine hs_br1 (c := .eq) (t := 24) (f := 15) (by decide +kernel) (fun (c12 : y = 0) => ?_) (fun (c12 : ¬ (y = 0)) => ?_)
    · refine hs_thr (x := 0) (lk := 5) (by decide +kernel) rfl rfl ?_
      exact ⟨_, _, rfl⟩
    · refine hs_iload (i := 3) (p := 16) (by decide +kernel) rfl ?_
      refine hs_br1 (c := .lt) (t := 24) (f := 19) (by decide +kernel) (fun (c16 : z < 0) => ?_) (fun (c16 : ¬ (z < 0)) => ?_)
      · refine hs_thr (x := 0) (lk := 5) (by decide +kernel) rfl rfl ?_
        exact ⟨_, _, rfl⟩
      · refine hs_iload (i := 3) (p := 20) (by decide +kernel) rfl ?_
        refine hs_k (x := Int32.ofNat 2) (p := 21) (by decide +kernel) ?_
        refine hs_br2 (c := .le) (t := 32) (f := 24) (by decide +kernel) (fun (c21 : z ≤ Int32.ofNat 2) => ?_) (fun (c21 : ¬ (z ≤ Int32.ofNat 2)) => ?_)
        · exact absurd ⟨by have h := mt xi_eqz.mpr c12; omega, hy.2, by rw [xi_lt0] at c16; omega, by rw [xi_len (k := 2) (by decide)] at c21; omega⟩ hz
        · refine hs_thr (x := 0) (lk := 5) (by decide +kernel) rfl rfl ?_
          exact ⟨_, _, rfl⟩
  · rw [show eg_mL 140 = 5 from by decide +kernel]
    show et_go none (d + 1) 140 0 [some (.ref th), some (.int (Int32.ofNat n)), some (.int y), some (.int z), none] [] G 0 0 _
    have lt_th := (hH.2.2 _ _ k_th).1
    have lt_s0 := (hH.2.2 _ _ k_s0).1
    have lt_ya := (hH.2.2 _ _ k_ya).1
    have lt_e := (hH.2.2 _ _ k_e).1
    have lt_ca := (hH.2.2 _ _ k_ca).1
    have lt_ki := (hH.2.2 _ _ k_ki).1
    have lt_kn := (hH.2.2 _ _ k_kn).1
    refine hs_aload (i := 0) (p := 1) (by decide +kernel) rfl ?_
    refine hs_iload (i := 1) (p := 2) (by decide +kernel) rfl ?_
    refine ht_callv (T := et_TT) (t := 12) (mi := 128) (na := 1) (ci := 10) (lk := 5) (lm := 2) (L0 := eg_en (eg_mL 128) [.ref th, .int (Int32.ofNat n)]) (by decide +kernel) rfl hH k_th rfl rfl rfl rfl rfl (by rw [show eg_mL 128 = 2 from by decide +kernel]; first | done | rfl) ?_
    refine (fd_needE hH k_th h0 k_s0 h5 hec h6 k_ya hn hE).mono (fun u hu => xp_cb hu ?_)
    show et_go none _ 140 5 _ [.ref e] _ _ _ _
    refine hs_astore (i := 4) (p := 7) (by decide +kernel) (Nat.le_of_ble_eq_true rfl) ?_
    refine hs_iload (i := 2) (p := 8) (by decide +kernel) rfl ?_
    refine hs_calls (mi := 135) (na := 1) (lk := 5) (lm := 1) (L0 := eg_en (eg_mL 135) [.int y]) (by decide +kernel) rfl rfl rfl rfl rfl rfl (by rw [show eg_mL 135 = 1 from by decide +kernel]; first | done | rfl) ?_
    refine (fd_litN hH hy).mono (fun u hu => ?_)
    obtain ⟨c8, s8, rfl⟩ := hu
    refine hf_cx (by decide +kernel) ?_
    exact ⟨_, _, rfl⟩
theorem fd_wireF (hH : et_H et_TT K G) (k_th : K th = some 12) (h0 : et_pl (eg_at G th) 0 = some (.ref s0)) (k_s0 : K s0 = some 10) (h5 : et_pl (eg_at G s0) 5 = some (.int (Int32.ofNat ec))) (hec : ec ≤ 3) (h6 : et_pl (eg_at G s0) 6 = some (.ref ya)) (k_ya : K ya = some 40) (hn : n < ec) (hE : et_pl (eg_at G ya) n = some (.ref e)) (t9 : evK K e ca ki kn w Kd) (hd9 : ¬ kn = ca ∧ ¬ kn = ki) (hv : evC G e ca ki kn w C Kd N l s t f) (hw5 : w = 6) (hkz : kz ≤ 2) (hy : 0 < y.toInt ∧ y.toInt < 65536) (hd : 1 ≤ d2) : et_go none d2 140 0 (eg_en (eg_mL 140) [.ref th, .int (Int32.ofNat n), .int y, .int (Int32.ofNat kz)]) [] G 0 0 (ix_Z 2 G) := by
  obtain ⟨d, rfl⟩ : ∃ d, d2 = d + 1 := ⟨d2 - 1, by omega⟩
  have hy0 := hy
  replace hy : 0 ≤ y.toInt ∧ y.toInt < 65536 := ⟨by omega, hy.2⟩
  have k_e := t9.1.1
  have k_ca := t9.1.2.1
  have k_ki := t9.1.2.2.1
  have k_kn := t9.1.2.2.2
  have hw6 := t9.2.1
  rw [show eg_mL 140 = 5 from by decide +kernel]
  show et_go none (d + 1) 140 0 [some (.ref th), some (.int (Int32.ofNat n)), some (.int y), some (.int (Int32.ofNat kz)), none] [] G 0 0 _
  have lt_th := (hH.2.2 _ _ k_th).1
  have lt_s0 := (hH.2.2 _ _ k_s0).1
  have lt_ya := (hH.2.2 _ _ k_ya).1
  have lt_e := (hH.2.2 _ _ k_e).1
  have lt_ca := (hH.2.2 _ _ k_ca).1
  have lt_ki := (hH.2.2 _ _ k_ki).1
  have lt_kn := (hH.2.2 _ _ k_kn).1
  refine hs_aload (i := 0) (p := 1) (by decide +kernel) rfl ?_
  refine hs_iload (i := 1) (p := 2) (by decide +kernel) rfl ?_
  refine ht_callv (T := et_TT) (t := 12) (mi := 128) (na := 1) (ci := 10) (lk := 5) (lm := 2) (L0 := eg_en (eg_mL 128) [.ref th, .int (Int32.ofNat n)]) (by decide +kernel) rfl hH k_th rfl rfl rfl rfl rfl (by rw [show eg_mL 128 = 2 from by decide +kernel]; first | done | rfl) ?_
  refine (fd_needE hH k_th h0 k_s0 h5 hec h6 k_ya hn hE).mono (fun u hu => xp_cb hu ?_)
  show et_go none _ 140 5 _ [.ref e] _ _ _ _
  refine hs_astore (i := 4) (p := 7) (by decide +kernel) (Nat.le_of_ble_eq_true rfl) ?_
  refine hs_iload (i := 2) (p := 8) (by decide +kernel) rfl ?_
  refine hs_calls (mi := 135) (na := 1) (lk := 5) (lm := 1) (L0 := eg_en (eg_mL 135) [.int y]) (by decide +kernel) rfl rfl rfl rfl rfl rfl (by rw [show eg_mL 135 = 1 from by decide +kernel]; first | done | rfl) ?_
  refine (fd_lit hH hy).mono (fun u hu => xp_cb hu ?_)
  show et_go none _ 140 11 _ [] _ _ _ _
  refine hs_iload (i := 2) (p := 12) (by decide +kernel) rfl ?_
  refine hs_br1 (c := .eq) (t := 24) (f := 15) (by decide +kernel) (fun (c12 : y = 0) => ?_) (fun (c12 : ¬ (y = 0)) => ?_)
  · exact absurd (xi_eqz.mp c12) (by omega)
  · refine hs_iload (i := 3) (p := 16) (by decide +kernel) rfl ?_
    refine hs_if0 (c := .lt) (t := 24) (f := 19) (by decide +kernel) (rs_nn (by omega)) ?_
    refine hs_iload (i := 3) (p := 20) (by decide +kernel) rfl ?_
    refine hs_k (x := Int32.ofNat 2) (p := 21) (by decide +kernel) ?_
    refine hs_br2n (c := .le) (t := 32) (f := 24) (by decide +kernel) (by omega) (by omega) (fun (c21 : kz ≤ 2) => ?_) (fun (c21 : ¬ (kz ≤ 2)) => ?_)
    · refine hs_aload (i := 4) (p := 34) (by decide +kernel) rfl ?_
      refine hf_get (T := et_TT) (t := 3) (ci := 1) (f := 0) (p := 37) (by decide +kernel) rfl hH k_e hv.1.1 ?_
      refine hs_k (x := Int32.ofNat 6) (p := 39) (by decide +kernel) ?_
      refine hs_br2n (c := .lt) (t := 50) (f := 42) (by decide +kernel) (by omega) (by omega) (fun (c39 : w < 6) => ?_) (fun (c39 : ¬ (w < 6)) => ?_)
      · exact absurd c39 (by omega)
      · refine hs_thr (x := 2) (lk := 5) (by decide +kernel) rfl rfl ?_
        exact ⟨_, _, rfl⟩
    · exact absurd hkz c21
theorem fd_wireE (hH : et_H et_TT K G) (k_th : K th = some 12) (h0 : et_pl (eg_at G th) 0 = some (.ref s0)) (k_s0 : K s0 = some 10) (h5 : et_pl (eg_at G s0) 5 = some (.int (Int32.ofNat ec))) (hec : ec ≤ 3) (h6 : et_pl (eg_at G s0) 6 = some (.ref ya)) (k_ya : K ya = some 40) (hx : ¬ xr x ec) (hd : 1 ≤ d2) : et_go none d2 140 0 (eg_en (eg_mL 140) [.ref th, .int x, .int y, .int z]) [] G 0 0 (ix_Z 1 G) := by
  obtain ⟨d, rfl⟩ : ∃ d, d2 = d + 1 := ⟨d2 - 1, by omega⟩
  rw [show eg_mL 140 = 5 from by decide +kernel]
  show et_go none (d + 1) 140 0 [some (.ref th), some (.int x), some (.int y), some (.int z), none] [] G 0 0 _
  have lt_th := (hH.2.2 _ _ k_th).1
  have lt_s0 := (hH.2.2 _ _ k_s0).1
  have lt_ya := (hH.2.2 _ _ k_ya).1
  refine hs_aload (i := 0) (p := 1) (by decide +kernel) rfl ?_
  refine hs_iload (i := 1) (p := 2) (by decide +kernel) rfl ?_
  refine ht_callv (T := et_TT) (t := 12) (mi := 128) (na := 1) (ci := 10) (lk := 5) (lm := 2) (L0 := eg_en (eg_mL 128) [.ref th, .int x]) (by decide +kernel) rfl hH k_th rfl rfl rfl rfl rfl (by rw [show eg_mL 128 = 2 from by decide +kernel]; first | done | rfl) ?_
  refine (fd_needEn hH k_th h0 k_s0 h5 hec h6 k_ya hx).mono (fun u hu => ?_)
  obtain ⟨c2, s2, rfl⟩ := hu
  refine hf_cx (by decide +kernel) ?_
  exact ⟨_, _, rfl⟩
theorem evK1 (t9 : evK K e ca ki kn w Kd) (hw : w < 6) (hkz : kz ≤ 2) : evK K e ca ki kn (w + 1) (kdp Kd w kz) := ⟨t9.1, hw, fun m hm => by
  unfold kdp
  split
  · exact hkz
  · exact t9.2.2 m (by omega)⟩
theorem fh_wireY (hH : et_H et_TT K G) (k_th : K th = some 12) (h0 : et_pl (eg_at G th) 0 = some (.ref s0)) (k_s0 : K s0 = some 10) (h5 : et_pl (eg_at G s0) 5 = some (.int (Int32.ofNat ec))) (hec : ec ≤ 3) (h6 : et_pl (eg_at G s0) 6 = some (.ref ya)) (k_ya : K ya = some 40) (hn : n < ec) (hE : et_pl (eg_at G ya) n = some (.ref e)) (t9 : evK K e ca ki kn w Kd) (hd9 : ¬ kn = ca ∧ ¬ kn = ki) (hv : evC G e ca ki kn w C Kd N l s t f) (k_out : K out = some 31) (hd8 : ¬ ca = ki) (hw5 : w < 6) (hkz : kz ≤ 2) (hy : 0 < y.toInt ∧ y.toInt < 65536) (hd : 2 ≤ d2) (h : ∀ G', et_H et_TT K G' → xf (fun b j => (b = th ∧ (6 ≤ j ∧ j ≤ 7)) ∨ (b = e ∧ j = 0) ∨ (b = ca ∧ j = w) ∨ (b = ki ∧ j = w) ∨ (b = out ∧ j = 0)) G G' → evC G' e ca ki kn (w + 1) (kup C w y) (kdp Kd w kz) N l s t f → et_pl (eg_at G' out) 0 = some (.long (Int32.ofNat w).toInt64) → Z (.inl (some (.int (Int32.ofNat 0))), G', 0, 0)) : et_go none d2 7 0 (eg_en (eg_mL 7) [.ref th, .int (Int32.ofNat n), .int y, .int (Int32.ofNat kz), .ref out]) [] G 0 0 Z := by
  obtain ⟨d, rfl⟩ : ∃ d, d2 = d + 2 := ⟨d2 - 2, by omega⟩
  have k_e := t9.1.1
  have k_ca := t9.1.2.1
  have k_ki := t9.1.2.2.1
  have k_kn := t9.1.2.2.2
  have hw6 := t9.2.1
  rw [show eg_mL 7 = 6 from by decide +kernel]
  show et_go none (d + 2) 7 0 [some (.ref th), some (.int (Int32.ofNat n)), some (.int y), some (.int (Int32.ofNat kz)), some (.ref out), none] [] G 0 0 _
  have lt_th := (hH.2.2 _ _ k_th).1
  have lt_s0 := (hH.2.2 _ _ k_s0).1
  have lt_ya := (hH.2.2 _ _ k_ya).1
  have lt_e := (hH.2.2 _ _ k_e).1
  have lt_ca := (hH.2.2 _ _ k_ca).1
  have lt_ki := (hH.2.2 _ _ k_ki).1
  have lt_kn := (hH.2.2 _ _ k_kn).1
  have lt_out := (hH.2.2 _ _ k_out).1
  have hX : xf (fun b j => (b = th ∧ (6 ≤ j ∧ j ≤ 7)) ∨ (b = e ∧ j = 0) ∨ (b = ca ∧ j = w) ∨ (b = ki ∧ j = w) ∨ (b = out ∧ j = 0)) G G := xf.rf
  refine hs_aload (i := 4) (p := 2) (by decide +kernel) rfl ?_
  refine hs_k (x := Int32.ofNat 0) (p := 3) (by decide +kernel) ?_
  refine hs_aload (i := 0) (p := 4) (by decide +kernel) rfl ?_
  refine hs_iload (i := 1) (p := 5) (by decide +kernel) rfl ?_
  refine hs_iload (i := 2) (p := 6) (by decide +kernel) rfl ?_
  refine hs_iload (i := 3) (p := 7) (by decide +kernel) rfl ?_
  refine ht_callv (T := et_TT) (t := 12) (mi := 140) (na := 3) (ci := 10) (lk := 6) (lm := 5) (L0 := eg_en (eg_mL 140) [.ref th, .int (Int32.ofNat n), .int y, .int (Int32.ofNat kz)]) (by decide +kernel) rfl hH k_th rfl rfl rfl rfl rfl (by rw [show eg_mL 140 = 5 from by decide +kernel]; first | done | rfl) ?_
  refine fd_wire hH k_th h0 k_s0 h5 hec h6 k_ya hn hE t9 hd9 hv hd8 hw5 hkz hy (by omega) (fun G7 hH x7 hv => ?_)
  have lt_th := Nat.lt_of_lt_of_le lt_th x7.1
  have lt_s0 := Nat.lt_of_lt_of_le lt_s0 x7.1
  have lt_ya := Nat.lt_of_lt_of_le lt_ya x7.1
  have lt_e := Nat.lt_of_lt_of_le lt_e x7.1
  have lt_ca := Nat.lt_of_lt_of_le lt_ca x7.1
  have lt_ki := Nat.lt_of_lt_of_le lt_ki x7.1
  have lt_kn := Nat.lt_of_lt_of_le lt_kn x7.1
  have lt_out := Nat.lt_of_lt_of_le lt_out x7.1
  have hX := hX.tr x7 (fun b j hb h => by first | omega | (dsimp only at h ⊢; omega) | (dsimp only at h; omega))
  refine hs_cb ?_
  show et_go none _ 7 10 _ [.int (Int32.ofNat w), .int (Int32.ofNat 0), .ref out] _ _ _ _
  refine hs_i2l (p := 11) (by decide +kernel) ?_
  have hHo := hH
  refine hf_lst (T := et_TT) (t := 31) (N := 1) (p := 12) (by decide +kernel) rfl rfl hH k_out (by omega) (by decide) (fun G11 hH x11 e11 => ?_)
  have hv := hv.xs (evK1 t9 hw5 hkz) hHo x11 (fun b j h => by rw [h.1, k_out]; exact ⟨by decide, by decide⟩)
  have lt_th := Nat.lt_of_lt_of_le lt_th x11.1
  have lt_s0 := Nat.lt_of_lt_of_le lt_s0 x11.1
  have lt_ya := Nat.lt_of_lt_of_le lt_ya x11.1
  have lt_e := Nat.lt_of_lt_of_le lt_e x11.1
  have lt_ca := Nat.lt_of_lt_of_le lt_ca x11.1
  have lt_ki := Nat.lt_of_lt_of_le lt_ki x11.1
  have lt_kn := Nat.lt_of_lt_of_le lt_kn x11.1
  have lt_out := Nat.lt_of_lt_of_le lt_out x11.1
  have hX := hX.tr x11 (fun b j hb h => by first | omega | (dsimp only at h ⊢; omega) | (dsimp only at h; omega) | (dsimp only; omega))
  refine hs_goto (p := 27) (by decide +kernel) ?_
  refine hs_k (x := Int32.ofNat 0) (p := 28) (by decide +kernel) ?_
  refine hs_iret (by decide +kernel) ?_
  exact h _ hH hX hv e11
theorem fh_wireR2 (hH : et_H et_TT K G) (k_th : K th = some 12) (h0 : et_pl (eg_at G th) 0 = some (.ref s0)) (k_s0 : K s0 = some 10) (h5 : et_pl (eg_at G s0) 5 = some (.int (Int32.ofNat ec))) (hec : ec ≤ 3) (h6 : et_pl (eg_at G s0) 6 = some (.ref ya)) (k_ya : K ya = some 40) (hn : n < ec) (hE : et_pl (eg_at G ya) n = some (.ref e)) (t9 : evK K e ca ki kn w Kd) (hd9 : ¬ kn = ca ∧ ¬ kn = ki) (hv : evC G e ca ki kn w C Kd N l s t f) (hz : ¬ (0 < y.toInt ∧ y.toInt < 65536 ∧ 0 ≤ z.toInt ∧ z.toInt ≤ 2)) (hd : 2 ≤ d2) : et_go none d2 7 0 (eg_en (eg_mL 7) [.ref th, .int (Int32.ofNat n), .int y, .int z, .ref out]) [] G 0 0 (fun u => u.1 = .inl (some (.int (Int32.ofNat 2))) ∧ u.2.1 = G) := by
  obtain ⟨d, rfl⟩ : ∃ d, d2 = d + 2 := ⟨d2 - 2, by omega⟩
  rw [show eg_mL 7 = 6 from by decide +kernel]
  show et_go none (d + 2) 7 0 [some (.ref th), some (.int (Int32.ofNat n)), some (.int y), some (.int z), some (.ref out), none] [] G 0 0 _
  have lt_th := (hH.2.2 _ _ k_th).1
  refine hs_aload (i := 4) (p := 2) (by decide +kernel) rfl ?_
  refine hs_k (x := Int32.ofNat 0) (p := 3) (by decide +kernel) ?_
  refine hs_aload (i := 0) (p := 4) (by decide +kernel) rfl ?_
  refine hs_iload (i := 1) (p := 5) (by decide +kernel) rfl ?_
  refine hs_iload (i := 2) (p := 6) (by decide +kernel) rfl ?_
  refine hs_iload (i := 3) (p := 7) (by decide +kernel) rfl ?_
  refine ht_callv (T := et_TT) (t := 12) (mi := 140) (na := 3) (ci := 10) (lk := 6) (lm := 5) (L0 := eg_en (eg_mL 140) [.ref th, .int (Int32.ofNat n), .int y, .int z]) (by decide +kernel) rfl hH k_th rfl rfl rfl rfl rfl (by rw [show eg_mL 140 = 5 from by decide +kernel]; first | done | rfl) ?_
  refine (fd_wireR hH k_th h0 k_s0 h5 hec h6 k_ya hn hE t9 hd9 hv hz (by omega)).mono (fun u hu => ?_)
  obtain ⟨c7, s7, rfl⟩ := hu
  refine hs_ch (h := 19) (i := 5) (n := 2) (hh := (eg_mh 7).getD []) (by decide +kernel) ⟨by decide +kernel, by decide +kernel⟩ (Nat.le_of_ble_eq_true rfl) ?_
  show et_go none _ 7 21 [some (.ref th), some (.int (Int32.ofNat n)), some (.int y), some (.int z), some (.ref out), none] [] _ _ _ _
  refine hs_k (x := Int32.ofNat 2) (p := 22) (by decide +kernel) ?_
  refine hs_iret (by decide +kernel) ?_
  exact ⟨rfl, rfl⟩
theorem fh_wireF2 (hH : et_H et_TT K G) (k_th : K th = some 12) (h0 : et_pl (eg_at G th) 0 = some (.ref s0)) (k_s0 : K s0 = some 10) (h5 : et_pl (eg_at G s0) 5 = some (.int (Int32.ofNat ec))) (hec : ec ≤ 3) (h6 : et_pl (eg_at G s0) 6 = some (.ref ya)) (k_ya : K ya = some 40) (hn : n < ec) (hE : et_pl (eg_at G ya) n = some (.ref e)) (t9 : evK K e ca ki kn w Kd) (hd9 : ¬ kn = ca ∧ ¬ kn = ki) (hv : evC G e ca ki kn w C Kd N l s t f) (hw5 : w = 6) (hkz : kz ≤ 2) (hy : 0 < y.toInt ∧ y.toInt < 65536) (hd : 2 ≤ d2) : et_go none d2 7 0 (eg_en (eg_mL 7) [.ref th, .int (Int32.ofNat n), .int y, .int (Int32.ofNat kz), .ref out]) [] G 0 0 (fun u => u.1 = .inl (some (.int (Int32.ofNat 3))) ∧ u.2.1 = G) := by
  obtain ⟨d, rfl⟩ : ∃ d, d2 = d + 2 := ⟨d2 - 2, by omega⟩
  rw [show eg_mL 7 = 6 from by decide +kernel]
  show et_go none (d + 2) 7 0 [some (.ref th), some (.int (Int32.ofNat n)), some (.int y), some (.int (Int32.ofNat kz)), some (.ref out), none] [] G 0 0 _
  have lt_th := (hH.2.2 _ _ k_th).1
  refine hs_aload (i := 4) (p := 2) (by decide +kernel) rfl ?_
  refine hs_k (x := Int32.ofNat 0) (p := 3) (by decide +kernel) ?_
  refine hs_aload (i := 0) (p := 4) (by decide +kernel) rfl ?_
  refine hs_iload (i := 1) (p := 5) (by decide +kernel) rfl ?_
  refine hs_iload (i := 2) (p := 6) (by decide +kernel) rfl ?_
  refine hs_iload (i := 3) (p := 7) (by decide +kernel) rfl ?_
  refine ht_callv (T := et_TT) (t := 12) (mi := 140) (na := 3) (ci := 10) (lk := 6) (lm := 5) (L0 := eg_en (eg_mL 140) [.ref th, .int (Int32.ofNat n), .int y, .int (Int32.ofNat kz)]) (by decide +kernel) rfl hH k_th rfl rfl rfl rfl rfl (by rw [show eg_mL 140 = 5 from by decide +kernel]; first | done | rfl) ?_
  refine (fd_wireF hH k_th h0 k_s0 h5 hec h6 k_ya hn hE t9 hd9 hv hw5 hkz hy (by omega)).mono (fun u hu => ?_)
  obtain ⟨c7, s7, rfl⟩ := hu
  refine hs_ch (h := 23) (i := 5) (n := 2) (hh := (eg_mh 7).getD []) (by decide +kernel) ⟨by decide +kernel, by decide +kernel⟩ (Nat.le_of_ble_eq_true rfl) ?_
  show et_go none _ 7 25 [some (.ref th), some (.int (Int32.ofNat n)), some (.int y), some (.int (Int32.ofNat kz)), some (.ref out), none] [] _ _ _ _
  refine hs_k (x := Int32.ofNat 3) (p := 26) (by decide +kernel) ?_
  refine hs_iret (by decide +kernel) ?_
  exact ⟨rfl, rfl⟩
theorem fh_wireE2 (hH : et_H et_TT K G) (k_th : K th = some 12) (h0 : et_pl (eg_at G th) 0 = some (.ref s0)) (k_s0 : K s0 = some 10) (h5 : et_pl (eg_at G s0) 5 = some (.int (Int32.ofNat ec))) (hec : ec ≤ 3) (h6 : et_pl (eg_at G s0) 6 = some (.ref ya)) (k_ya : K ya = some 40) (hx : ¬ xr x ec) (hd : 2 ≤ d2) : et_go none d2 7 0 (eg_en (eg_mL 7) [.ref th, .int x, .int y, .int z, .ref out]) [] G 0 0 (fun u => u.1 = .inl (some (.int (Int32.ofNat 1))) ∧ u.2.1 = G) := by
  obtain ⟨d, rfl⟩ : ∃ d, d2 = d + 2 := ⟨d2 - 2, by omega⟩
  rw [show eg_mL 7 = 6 from by decide +kernel]
  show et_go none (d + 2) 7 0 [some (.ref th), some (.int x), some (.int y), some (.int z), some (.ref out), none] [] G 0 0 _
  have lt_th := (hH.2.2 _ _ k_th).1
  refine hs_aload (i := 4) (p := 2) (by decide +kernel) rfl ?_
  refine hs_k (x := Int32.ofNat 0) (p := 3) (by decide +kernel) ?_
  refine hs_aload (i := 0) (p := 4) (by decide +kernel) rfl ?_
  refine hs_iload (i := 1) (p := 5) (by decide +kernel) rfl ?_
  refine hs_iload (i := 2) (p := 6) (by decide +kernel) rfl ?_
  refine hs_iload (i := 3) (p := 7) (by decide +kernel) rfl ?_
  refine ht_callv (T := et_TT) (t := 12) (mi := 140) (na := 3) (ci := 10) (lk := 6) (lm := 5) (L0 := eg_en (eg_mL 140) [.ref th, .int x, .int y, .int z]) (by decide +kernel) rfl hH k_th rfl rfl rfl rfl rfl (by rw [show eg_mL 140 = 5 from by decide +kernel]; first | done | rfl) ?_
  refine (fd_wireE hH k_th h0 k_s0 h5 hec h6 k_ya hx (by omega)).mono (fun u hu => ?_)
  obtain ⟨c7, s7, rfl⟩ := hu
  refine hs_ch (h := 15) (i := 5) (n := 2) (hh := (eg_mh 7).getD []) (by decide +kernel) ⟨by decide +kernel, by decide +kernel⟩ (Nat.le_of_ble_eq_true rfl) ?_
  show et_go none _ 7 17 [some (.ref th), some (.int x), some (.int y), some (.int z), some (.ref out), none] [] _ _ _ _
  refine hs_k (x := Int32.ofNat 1) (p := 18) (by decide +kernel) ?_
  refine hs_iret (by decide +kernel) ?_
  exact ⟨rfl, rfl⟩
theorem fd_sees (hH : et_H et_TT K G) (k_th : K th = some 12) (h0 : et_pl (eg_at G th) 0 = some (.ref s0)) (k_s0 : K s0 = some 10) (h5 : et_pl (eg_at G s0) 5 = some (.int (Int32.ofNat ec))) (hec : ec ≤ 3) (h6 : et_pl (eg_at G s0) 6 = some (.ref ya)) (k_ya : K ya = some 40) (hn : n < ec) (hE : et_pl (eg_at G ya) n = some (.ref e)) (t9 : evK K e ca ki kn w Kd) (hd9 : ¬ kn = ca ∧ ¬ kn = ki) (hv : evC G e ca ki kn w C Kd N l s t f) (hy : 0 ≤ x.toInt ∧ x.toInt < 65536) (hd : 4 ≤ d2) : et_go none d2 145 0 (eg_en (eg_mL 145) [.ref th, .int (Int32.ofNat n), .int x]) [] G 0 0 (xp_Z G (some (.int (suN C Kd N x w)))) := by
  obtain ⟨d, rfl⟩ : ∃ d, d2 = d + 4 := ⟨d2 - 4, by omega⟩
  have k_e := t9.1.1
  have k_ca := t9.1.2.1
  have k_ki := t9.1.2.2.1
  have k_kn := t9.1.2.2.2
  have hw6 := t9.2.1
  rw [show eg_mL 145 = 4 from by decide +kernel]
  show et_go none (d + 4) 145 0 [some (.ref th), some (.int (Int32.ofNat n)), some (.int x), none] [] G 0 0 _
  have lt_th := (hH.2.2 _ _ k_th).1
  have lt_s0 := (hH.2.2 _ _ k_s0).1
  have lt_ya := (hH.2.2 _ _ k_ya).1
  have lt_e := (hH.2.2 _ _ k_e).1
  have lt_ca := (hH.2.2 _ _ k_ca).1
  have lt_ki := (hH.2.2 _ _ k_ki).1
  have lt_kn := (hH.2.2 _ _ k_kn).1
  refine hs_aload (i := 0) (p := 1) (by decide +kernel) rfl ?_
  refine hs_iload (i := 1) (p := 2) (by decide +kernel) rfl ?_
  refine ht_callv (T := et_TT) (t := 12) (mi := 128) (na := 1) (ci := 10) (lk := 4) (lm := 2) (L0 := eg_en (eg_mL 128) [.ref th, .int (Int32.ofNat n)]) (by decide +kernel) rfl hH k_th rfl rfl rfl rfl rfl (by rw [show eg_mL 128 = 2 from by decide +kernel]; first | done | rfl) ?_
  refine (fd_needE hH k_th h0 k_s0 h5 hec h6 k_ya hn hE).mono (fun u hu => xp_cb hu ?_)
  show et_go none _ 145 5 _ [.ref e] _ _ _ _
  refine hs_astore (i := 3) (p := 6) (by decide +kernel) (Nat.le_of_ble_eq_true rfl) ?_
  refine hs_iload (i := 2) (p := 7) (by decide +kernel) rfl ?_
  refine hs_calls (mi := 135) (na := 1) (lk := 4) (lm := 1) (L0 := eg_en (eg_mL 135) [.int x]) (by decide +kernel) rfl rfl rfl rfl rfl rfl (by rw [show eg_mL 135 = 1 from by decide +kernel]; first | done | rfl) ?_
  refine (fd_lit hH hy).mono (fun u hu => xp_cb hu ?_)
  show et_go none _ 145 10 _ [] _ _ _ _
  refine hs_aload (i := 3) (p := 11) (by decide +kernel) rfl ?_
  refine hs_iload (i := 2) (p := 12) (by decide +kernel) rfl ?_
  refine ht_callv (T := et_TT) (t := 3) (mi := 43) (na := 1) (ci := 1) (lk := 4) (lm := 2) (L0 := eg_en (eg_mL 43) [.ref e, .int x]) (by decide +kernel) rfl hH k_e rfl rfl rfl rfl rfl (by rw [show eg_mL 43 = 2 from by decide +kernel]; first | done | rfl) ?_
  refine (fd_sumK hH t9 hv (by omega)).mono (fun u hu => xp_cb hu ?_)
  show et_go none _ 145 15 _ [.int (suN C Kd N x w)] _ _ _ _
  refine hs_iret (by decide +kernel) ?_
  rfl
theorem fd_seesR (hH : et_H et_TT K G) (k_th : K th = some 12) (h0 : et_pl (eg_at G th) 0 = some (.ref s0)) (k_s0 : K s0 = some 10) (h5 : et_pl (eg_at G s0) 5 = some (.int (Int32.ofNat ec))) (hec : ec ≤ 3) (h6 : et_pl (eg_at G s0) 6 = some (.ref ya)) (k_ya : K ya = some 40) (hn : n < ec) (hE : et_pl (eg_at G ya) n = some (.ref e)) (hy : ¬ (0 ≤ y.toInt ∧ y.toInt < 65536)) (hd : 4 ≤ d2) : et_go none d2 145 0 (eg_en (eg_mL 145) [.ref th, .int (Int32.ofNat n), .int y]) [] G 0 0 (ix_Z 0 G) := by
  obtain ⟨d, rfl⟩ : ∃ d, d2 = d + 4 := ⟨d2 - 4, by omega⟩
  rw [show eg_mL 145 = 4 from by decide +kernel]
  show et_go none (d + 4) 145 0 [some (.ref th), some (.int (Int32.ofNat n)), some (.int y), none] [] G 0 0 _
  have lt_th := (hH.2.2 _ _ k_th).1
  have lt_s0 := (hH.2.2 _ _ k_s0).1
  have lt_ya := (hH.2.2 _ _ k_ya).1
  refine hs_aload (i := 0) (p := 1) (by decide +kernel) rfl ?_
  refine hs_iload (i := 1) (p := 2) (by decide +kernel) rfl ?_
  refine ht_callv (T := et_TT) (t := 12) (mi := 128) (na := 1) (ci := 10) (lk := 4) (lm := 2) (L0 := eg_en (eg_mL 128) [.ref th, .int (Int32.ofNat n)]) (by decide +kernel) rfl hH k_th rfl rfl rfl rfl rfl (by rw [show eg_mL 128 = 2 from by decide +kernel]; first | done | rfl) ?_
  refine (fd_needE hH k_th h0 k_s0 h5 hec h6 k_ya hn hE).mono (fun u hu => xp_cb hu ?_)
  show et_go none _ 145 5 _ [.ref e] _ _ _ _
  refine hs_astore (i := 3) (p := 6) (by decide +kernel) (Nat.le_of_ble_eq_true rfl) ?_
  refine hs_iload (i := 2) (p := 7) (by decide +kernel) rfl ?_
  refine hs_calls (mi := 135) (na := 1) (lk := 4) (lm := 1) (L0 := eg_en (eg_mL 135) [.int y]) (by decide +kernel) rfl rfl rfl rfl rfl rfl (by rw [show eg_mL 135 = 1 from by decide +kernel]; first | done | rfl) ?_
  refine (fd_litN hH hy).mono (fun u hu => ?_)
  obtain ⟨c7, s7, rfl⟩ := hu
  refine hf_cx (by decide +kernel) ?_
  exact ⟨_, _, rfl⟩
theorem fd_seesE (hH : et_H et_TT K G) (k_th : K th = some 12) (h0 : et_pl (eg_at G th) 0 = some (.ref s0)) (k_s0 : K s0 = some 10) (h5 : et_pl (eg_at G s0) 5 = some (.int (Int32.ofNat ec))) (hec : ec ≤ 3) (h6 : et_pl (eg_at G s0) 6 = some (.ref ya)) (k_ya : K ya = some 40) (hx : ¬ xr x ec) (hd : 4 ≤ d2) : et_go none d2 145 0 (eg_en (eg_mL 145) [.ref th, .int x, .int y]) [] G 0 0 (ix_Z 1 G) := by
  obtain ⟨d, rfl⟩ : ∃ d, d2 = d + 4 := ⟨d2 - 4, by omega⟩
  rw [show eg_mL 145 = 4 from by decide +kernel]
  show et_go none (d + 4) 145 0 [some (.ref th), some (.int x), some (.int y), none] [] G 0 0 _
  have lt_th := (hH.2.2 _ _ k_th).1
  have lt_s0 := (hH.2.2 _ _ k_s0).1
  have lt_ya := (hH.2.2 _ _ k_ya).1
  refine hs_aload (i := 0) (p := 1) (by decide +kernel) rfl ?_
  refine hs_iload (i := 1) (p := 2) (by decide +kernel) rfl ?_
  refine ht_callv (T := et_TT) (t := 12) (mi := 128) (na := 1) (ci := 10) (lk := 4) (lm := 2) (L0 := eg_en (eg_mL 128) [.ref th, .int x]) (by decide +kernel) rfl hH k_th rfl rfl rfl rfl rfl (by rw [show eg_mL 128 = 2 from by decide +kernel]; first | done | rfl) ?_
  refine (fd_needEn hH k_th h0 k_s0 h5 hec h6 k_ya hx).mono (fun u hu => ?_)
  obtain ⟨c2, s2, rfl⟩ := hu
  refine hf_cx (by decide +kernel) ?_
  exact ⟨_, _, rfl⟩
theorem fh_sees (hH : et_H et_TT K G) (k_th : K th = some 12) (h0 : et_pl (eg_at G th) 0 = some (.ref s0)) (k_s0 : K s0 = some 10) (h5 : et_pl (eg_at G s0) 5 = some (.int (Int32.ofNat ec))) (hec : ec ≤ 3) (h6 : et_pl (eg_at G s0) 6 = some (.ref ya)) (k_ya : K ya = some 40) (hn : n < ec) (hE : et_pl (eg_at G ya) n = some (.ref e)) (t9 : evK K e ca ki kn w Kd) (hd9 : ¬ kn = ca ∧ ¬ kn = ki) (hv : evC G e ca ki kn w C Kd N l s t f) (k_out : K out = some 31) (hy : 0 ≤ x.toInt ∧ x.toInt < 65536) (hd : 5 ≤ d2) : et_go none d2 11 0 (eg_en (eg_mL 11) [.ref th, .int (Int32.ofNat n), .int x, .ref out]) [] G 0 0 (fun u => u.1 = .inl (some (.int (Int32.ofNat 0))) ∧ et_pl (eg_at u.2.1 out) 0 = some (.long (suN C Kd N x w).toInt64)) := by
  obtain ⟨d, rfl⟩ : ∃ d, d2 = d + 5 := ⟨d2 - 5, by omega⟩
  have k_e := t9.1.1
  have k_ca := t9.1.2.1
  have k_ki := t9.1.2.2.1
  have k_kn := t9.1.2.2.2
  have hw6 := t9.2.1
  rw [show eg_mL 11 = 5 from by decide +kernel]
  show et_go none (d + 5) 11 0 [some (.ref th), some (.int (Int32.ofNat n)), some (.int x), some (.ref out), none] [] G 0 0 _
  have lt_th := (hH.2.2 _ _ k_th).1
  have lt_s0 := (hH.2.2 _ _ k_s0).1
  have lt_ya := (hH.2.2 _ _ k_ya).1
  have lt_e := (hH.2.2 _ _ k_e).1
  have lt_ca := (hH.2.2 _ _ k_ca).1
  have lt_ki := (hH.2.2 _ _ k_ki).1
  have lt_kn := (hH.2.2 _ _ k_kn).1
  have lt_out := (hH.2.2 _ _ k_out).1
  refine hs_aload (i := 3) (p := 1) (by decide +kernel) rfl ?_
  refine hs_k (x := Int32.ofNat 0) (p := 2) (by decide +kernel) ?_
  refine hs_aload (i := 0) (p := 3) (by decide +kernel) rfl ?_
  refine hs_iload (i := 1) (p := 4) (by decide +kernel) rfl ?_
  refine hs_iload (i := 2) (p := 5) (by decide +kernel) rfl ?_
  refine ht_callv (T := et_TT) (t := 12) (mi := 145) (na := 2) (ci := 10) (lk := 5) (lm := 4) (L0 := eg_en (eg_mL 145) [.ref th, .int (Int32.ofNat n), .int x]) (by decide +kernel) rfl hH k_th rfl rfl rfl rfl rfl (by rw [show eg_mL 145 = 4 from by decide +kernel]; first | done | rfl) ?_
  refine (fd_sees hH k_th h0 k_s0 h5 hec h6 k_ya hn hE t9 hd9 hv hy (by omega)).mono (fun u hu => xp_cb hu ?_)
  show et_go none _ 11 8 _ [.int (suN C Kd N x w), .int (Int32.ofNat 0), .ref out] _ _ _ _
  refine hs_i2l (p := 9) (by decide +kernel) ?_
  have hHo := hH
  refine hf_lst (T := et_TT) (t := 31) (N := 1) (p := 10) (by decide +kernel) rfl rfl hH k_out (by omega) (by decide) (fun G9 hH x9 e9 => ?_)
  refine hs_goto (p := 21) (by decide +kernel) ?_
  refine hs_k (x := Int32.ofNat 0) (p := 22) (by decide +kernel) ?_
  refine hs_iret (by decide +kernel) ?_
  exact ⟨rfl, e9⟩
theorem fh_seesR (hH : et_H et_TT K G) (k_th : K th = some 12) (h0 : et_pl (eg_at G th) 0 = some (.ref s0)) (k_s0 : K s0 = some 10) (h5 : et_pl (eg_at G s0) 5 = some (.int (Int32.ofNat ec))) (hec : ec ≤ 3) (h6 : et_pl (eg_at G s0) 6 = some (.ref ya)) (k_ya : K ya = some 40) (hn : n < ec) (hE : et_pl (eg_at G ya) n = some (.ref e)) (hy : ¬ (0 ≤ y.toInt ∧ y.toInt < 65536)) (hd : 5 ≤ d2) : et_go none d2 11 0 (eg_en (eg_mL 11) [.ref th, .int (Int32.ofNat n), .int y, .ref out]) [] G 0 0 (fun u => u.1 = .inl (some (.int (Int32.ofNat 2))) ∧ u.2.1 = G) := by
  obtain ⟨d, rfl⟩ : ∃ d, d2 = d + 5 := ⟨d2 - 5, by omega⟩
  rw [show eg_mL 11 = 5 from by decide +kernel]
  show et_go none (d + 5) 11 0 [some (.ref th), some (.int (Int32.ofNat n)), some (.int y), some (.ref out), none] [] G 0 0 _
  have lt_th := (hH.2.2 _ _ k_th).1
  refine hs_aload (i := 3) (p := 1) (by decide +kernel) rfl ?_
  refine hs_k (x := Int32.ofNat 0) (p := 2) (by decide +kernel) ?_
  refine hs_aload (i := 0) (p := 3) (by decide +kernel) rfl ?_
  refine hs_iload (i := 1) (p := 4) (by decide +kernel) rfl ?_
  refine hs_iload (i := 2) (p := 5) (by decide +kernel) rfl ?_
  refine ht_callv (T := et_TT) (t := 12) (mi := 145) (na := 2) (ci := 10) (lk := 5) (lm := 4) (L0 := eg_en (eg_mL 145) [.ref th, .int (Int32.ofNat n), .int y]) (by decide +kernel) rfl hH k_th rfl rfl rfl rfl rfl (by rw [show eg_mL 145 = 4 from by decide +kernel]; first | done | rfl) ?_
  refine (fd_seesR hH k_th h0 k_s0 h5 hec h6 k_ya hn hE hy (by omega)).mono (fun u hu => ?_)
  obtain ⟨c5, s5, rfl⟩ := hu
  refine hs_ch (h := 17) (i := 4) (n := 2) (hh := (eg_mh 11).getD []) (by decide +kernel) ⟨by decide +kernel, by decide +kernel⟩ (Nat.le_of_ble_eq_true rfl) ?_
  show et_go none _ 11 19 [some (.ref th), some (.int (Int32.ofNat n)), some (.int y), some (.ref out), none] [] _ _ _ _
  refine hs_k (x := Int32.ofNat 2) (p := 20) (by decide +kernel) ?_
  refine hs_iret (by decide +kernel) ?_
  exact ⟨rfl, rfl⟩
theorem fh_seesE (hH : et_H et_TT K G) (k_th : K th = some 12) (h0 : et_pl (eg_at G th) 0 = some (.ref s0)) (k_s0 : K s0 = some 10) (h5 : et_pl (eg_at G s0) 5 = some (.int (Int32.ofNat ec))) (hec : ec ≤ 3) (h6 : et_pl (eg_at G s0) 6 = some (.ref ya)) (k_ya : K ya = some 40) (hx : ¬ xr x ec) (hd : 5 ≤ d2) : et_go none d2 11 0 (eg_en (eg_mL 11) [.ref th, .int x, .int y, .ref out]) [] G 0 0 (fun u => u.1 = .inl (some (.int (Int32.ofNat 1))) ∧ u.2.1 = G) := by
  obtain ⟨d, rfl⟩ : ∃ d, d2 = d + 5 := ⟨d2 - 5, by omega⟩
  rw [show eg_mL 11 = 5 from by decide +kernel]
  show et_go none (d + 5) 11 0 [some (.ref th), some (.int x), some (.int y), some (.ref out), none] [] G 0 0 _
  have lt_th := (hH.2.2 _ _ k_th).1
  refine hs_aload (i := 3) (p := 1) (by decide +kernel) rfl ?_
  refine hs_k (x := Int32.ofNat 0) (p := 2) (by decide +kernel) ?_
  refine hs_aload (i := 0) (p := 3) (by decide +kernel) rfl ?_
  refine hs_iload (i := 1) (p := 4) (by decide +kernel) rfl ?_
  refine hs_iload (i := 2) (p := 5) (by decide +kernel) rfl ?_
  refine ht_callv (T := et_TT) (t := 12) (mi := 145) (na := 2) (ci := 10) (lk := 5) (lm := 4) (L0 := eg_en (eg_mL 145) [.ref th, .int x, .int y]) (by decide +kernel) rfl hH k_th rfl rfl rfl rfl rfl (by rw [show eg_mL 145 = 4 from by decide +kernel]; first | done | rfl) ?_
  refine (fd_seesE hH k_th h0 k_s0 h5 hec h6 k_ya hx (by omega)).mono (fun u hu => ?_)
  obtain ⟨c5, s5, rfl⟩ := hu
  refine hs_ch (h := 13) (i := 4) (n := 2) (hh := (eg_mh 11).getD []) (by decide +kernel) ⟨by decide +kernel, by decide +kernel⟩ (Nat.le_of_ble_eq_true rfl) ?_
  show et_go none _ 11 15 [some (.ref th), some (.int x), some (.int y), some (.ref out), none] [] _ _ _ _
  refine hs_k (x := Int32.ofNat 1) (p := 16) (by decide +kernel) ?_
  refine hs_iret (by decide +kernel) ?_
  exact ⟨rfl, rfl⟩
end VNA
