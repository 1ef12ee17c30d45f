/-! PHASE D: the class's knob, stuck, wire, sees -/
theorem xi_ltng {x : Int32} {k : Nat} (hk : k < 2147483648) : x < -(Int32.ofNat k) ↔ x.toInt < -(k : Int) := by
  rw [Int32.lt_iff_toInt_lt, Int32.toInt_neg, hs_nint hk, Int.bmod_def]
  simp only [Nat.reducePow]
  omega
section VKA
variable {S : Nat → Nat → Prop} {K : et_K} {G G' : eg_G} {d d2 th s0 ya e ca ki kn w m n ec out kz : Nat} {C N : Nat → Int32} {Kd : Nat → Nat} {l s t f x y z zz : Int32} {Z : eg_O → Prop}
theorem evC.pt (h : evC G e ca ki kn w C Kd N l s t f) (t9 : evK K e ca ki kn w Kd) (hH : et_H et_TT K G) (x : xf (fun b j => b = e ∧ j = 6) G G') (v : et_pl (eg_at G' e) 6 = some (.int z)) : evC G' e ca ki kn w C Kd N l s z f := h.fp t9 hH x (by decide) ((x.2 e 4 (hH.2.2 _ _ t9.1.1).1 (fun hs => absurd hs.2 (by decide))).trans h.2.2.2.1) ((x.2 e 5 (hH.2.2 _ _ t9.1.1).1 (fun hs => absurd hs.2 (by decide))).trans h.2.2.2.2.1) v ((x.2 e 7 (hH.2.2 _ _ t9.1.1).1 (fun hs => absurd hs.2 (by decide))).trans h.2.2.2.2.2.2)
theorem evC.pf (h : evC G e ca ki kn w C Kd N l s t f) (t9 : evK K e ca ki kn w Kd) (hH : et_H et_TT K G) (x : xf (fun b j => b = e ∧ j = 7) G G') (v : et_pl (eg_at G' e) 7 = some (.int z)) : evC G' e ca ki kn w C Kd N l s t z := h.fp t9 hH x (by decide) ((x.2 e 4 (hH.2.2 _ _ t9.1.1).1 (fun hs => absurd hs.2 (by decide))).trans h.2.2.2.1) ((x.2 e 5 (hH.2.2 _ _ t9.1.1).1 (fun hs => absurd hs.2 (by decide))).trans h.2.2.2.2.1) ((x.2 e 6 (hH.2.2 _ _ t9.1.1).1 (fun hs => absurd hs.2 (by decide))).trans h.2.2.2.2.2.1) v
theorem fd_setL (hH : et_H et_TT K G) (t9 : evK K e ca ki kn w Kd) (hd9 : ¬ kn = ca ∧ ¬ kn = ki) (hv : evC G e ca ki kn w C Kd N l s t f) (h : ∀ G', et_H et_TT K G' → xf (fun b j => b = e ∧ j = 4) G G' → evC G' e ca ki kn w C Kd N z s t f → Z (.inl (some (.int (Int32.ofNat (if l = z then 0 else 1)))), G', 0, 0)) : et_go none d2 39 0 (eg_en (eg_mL 39) [.ref e, .int z]) [] G 0 0 Z := by
  have k_e := t9.1.1
  have k_ca := t9.1.2.1
  have k_ki := t9.1.2.2.1
  have k_kn := t9.1.2.2.2
  have hw6 := t9.2.1
  rw [show eg_mL 39 = 3 from by decide +kernel]
  show et_go none d2 39 0 [some (.ref e), some (.int z), none] [] G 0 0 _
  have lt_e := (hH.2.2 _ _ k_e).1
  have lt_ca := (hH.2.2 _ _ k_ca).1
  have lt_ki := (hH.2.2 _ _ k_ki).1
  have lt_kn := (hH.2.2 _ _ k_kn).1
  refine hs_aload (i := 0) (p := 1) (by decide +kernel) rfl ?_
  refine hf_get (T := et_TT) (t := 3) (ci := 1) (f := 4) (p := 4) (by decide +kernel) rfl hH k_e hv.2.2.2.1 ?_
  refine hs_iload (i := 1) (p := 5) (by decide +kernel) rfl ?_
  refine hs_br2 (c := .eq) (t := 12) (f := 8) (by decide +kernel) (fun (c5 : l = z) => ?_) (fun (c5 : ¬ (l = z)) => ?_)
  · refine hs_k (x := Int32.ofNat 0) (p := 13) (by decide +kernel) ?_
    refine hs_istore (i := 2) (p := 14) (by decide +kernel) (Nat.le_of_ble_eq_true rfl) ?_
    refine hs_aload (i := 0) (p := 15) (by decide +kernel) rfl ?_
    refine hs_iload (i := 1) (p := 16) (by decide +kernel) rfl ?_
    have hHo := hH
    refine hf_put (T := et_TT) (t := 3) (ci := 1) (f := 4) (p := 19) (ty := .int) (by decide +kernel) rfl rfl rfl rfl rfl hH k_e hi_any (fun G16 hH x16 e16 => ?_)
    have hv := hv.pl t9 hHo x16 e16
    have lt_e := Nat.lt_of_lt_of_le lt_e x16.1
    have lt_ca := Nat.lt_of_lt_of_le lt_ca x16.1
    have lt_ki := Nat.lt_of_lt_of_le lt_ki x16.1
    have lt_kn := Nat.lt_of_lt_of_le lt_kn x16.1
    refine hs_iload (i := 2) (p := 20) (by decide +kernel) rfl ?_
    refine hs_zret (by decide +kernel) (.inl rfl) ?_
    have h9 := h _ hH x16 hv
    rw [if_pos c5] at h9
    exact h9
  · refine hs_k (x := Int32.ofNat 1) (p := 9) (by decide +kernel) ?_
    refine hs_goto (p := 13) (by decide +kernel) ?_
    refine hs_istore (i := 2) (p := 14) (by decide +kernel) (Nat.le_of_ble_eq_true rfl) ?_
    refine hs_aload (i := 0) (p := 15) (by decide +kernel) rfl ?_
    refine hs_iload (i := 1) (p := 16) (by decide +kernel) rfl ?_
    have hHo := hH
    refine hf_put (T := et_TT) (t := 3) (ci := 1) (f := 4) (p := 19) (ty := .int) (by decide +kernel) rfl rfl rfl rfl rfl hH k_e hi_any (fun G16 hH x16 e16 => ?_)
    have hv := hv.pl t9 hHo x16 e16
    have lt_e := Nat.lt_of_lt_of_le lt_e x16.1
    have lt_ca := Nat.lt_of_lt_of_le lt_ca x16.1
    have lt_ki := Nat.lt_of_lt_of_le lt_ki x16.1
    have lt_kn := Nat.lt_of_lt_of_le lt_kn x16.1
    refine hs_iload (i := 2) (p := 20) (by decide +kernel) rfl ?_
    refine hs_zret (by decide +kernel) (.inr rfl) ?_
    have h9 := h _ hH x16 hv
    rw [if_neg c5] at h9
    exact h9
theorem fd_setK (hH : et_H et_TT K G) (t9 : evK K e ca ki kn w Kd) (hd9 : ¬ kn = ca ∧ ¬ kn = ki) (hv : evC G e ca ki kn w C Kd N l s t f) (hm : m < w) (h : ∀ G', et_H et_TT K G' → xf (fun b j => b = kn ∧ j = m) G G' → evC G' e ca ki kn w C Kd (kup N m z) l s t f → Z (.inl (some (.int (Int32.ofNat (if N m = z then 0 else 1)))), G', 0, 0)) : et_go none d2 40 0 (eg_en (eg_mL 40) [.ref e, .int (Int32.ofNat m), .int z]) [] G 0 0 Z := by
  have k_e := t9.1.1
  have k_ca := t9.1.2.1
  have k_ki := t9.1.2.2.1
  have k_kn := t9.1.2.2.2
  have hw6 := t9.2.1
  rw [show eg_mL 40 = 3 from by decide +kernel]
  show et_go none d2 40 0 [some (.ref e), some (.int (Int32.ofNat m)), some (.int z)] [] G 0 0 _
  have lt_e := (hH.2.2 _ _ k_e).1
  have lt_ca := (hH.2.2 _ _ k_ca).1
  have lt_ki := (hH.2.2 _ _ k_ki).1
  have lt_kn := (hH.2.2 _ _ k_kn).1
  refine hs_iload (i := 1) (p := 1) (by decide +kernel) rfl ?_
  refine hs_if0 (c := .lt) (t := 22) (f := 4) (by decide +kernel) (rs_nn (by omega)) ?_
  refine hs_iload (i := 1) (p := 5) (by decide +kernel) rfl ?_
  refine hs_aload (i := 0) (p := 6) (by decide +kernel) rfl ?_
  refine hf_get (T := et_TT) (t := 3) (ci := 1) (f := 0) (p := 9) (by decide +kernel) rfl hH k_e hv.1.1 ?_
  refine hs_br2n (c := .ge) (t := 22) (f := 12) (by decide +kernel) (by omega) (by omega) (fun (c9 : w ≤ m) => ?_) (fun (c9 : ¬ (w ≤ m)) => ?_)
  · exact absurd hm (Nat.not_lt.mpr c9)
  · refine hs_aload (i := 0) (p := 13) (by decide +kernel) rfl ?_
    refine hf_get (T := et_TT) (t := 3) (ci := 1) (f := 3) (p := 16) (by decide +kernel) rfl hH k_e hv.1.2.2.2 ?_
    refine hs_iload (i := 1) (p := 17) (by decide +kernel) rfl ?_
    refine hf_ald (ins := .iaload) (T := et_TT) (t := 15) (kd := 0) (N := 6) (p := 18) (by decide +kernel) (fun _ _ _ _ _ _ _ _ _ _ => rfl) rfl rfl rfl hH k_kn (by decide) (hv.2.1 _ (by omega)) ?_
    refine hs_iload (i := 2) (p := 19) (by decide +kernel) rfl ?_
    refine hs_br2 (c := .ne) (t := 24) (f := 22) (by decide +kernel) (fun (c19 : ¬ (N m) = z) => ?_) (fun (c19 : ¬ (¬ (N m) = z)) => ?_)
    · refine hs_aload (i := 0) (p := 25) (by decide +kernel) rfl ?_
      refine hf_get (T := et_TT) (t := 3) (ci := 1) (f := 3) (p := 28) (by decide +kernel) rfl hH k_e hv.1.2.2.2 ?_
      refine hs_iload (i := 1) (p := 29) (by decide +kernel) rfl ?_
      refine hs_iload (i := 2) (p := 30) (by decide +kernel) rfl ?_
      have hHo := hH
      refine hf_ist (T := et_TT) (t := 15) (N := 6) (p := 31) (by decide +kernel) rfl rfl (by decide) hH k_kn (by omega) (by decide) (fun s hs => absurd hs List.not_mem_nil) (fun G30 hH x30 e30 => ?_)
      have hv := hv.kp t9 hd9 hHo x30 e30
      have lt_e := Nat.lt_of_lt_of_le lt_e x30.1
      have lt_ca := Nat.lt_of_lt_of_le lt_ca x30.1
      have lt_ki := Nat.lt_of_lt_of_le lt_ki x30.1
      have lt_kn := Nat.lt_of_lt_of_le lt_kn x30.1
      refine hs_k (x := Int32.ofNat 1) (p := 32) (by decide +kernel) ?_
      refine hs_zret (by decide +kernel) (.inr rfl) ?_
      have h9 := h _ hH x30 hv
      rw [if_neg c19] at h9
      exact h9
    · refine hs_k (x := Int32.ofNat 0) (p := 23) (by decide +kernel) ?_
      refine hs_zret (by decide +kernel) (.inl rfl) ?_
      have c19 := Decidable.of_not_not c19
      have h9 := h _ hH xf.rf (hv.co (fun k _ => by unfold kup; split; rename_i ek; rw [ek, c19]; rfl))
      rw [if_pos c19] at h9
      exact h9
theorem fd_needW (hH : et_H et_TT K G) (k_e : K e = some 3) (e0 : et_pl (eg_at G e) 0 = some (.int (Int32.ofNat w))) (hw6 : w ≤ 6) (hm : m < w) : et_go none d2 142 0 (eg_en (eg_mL 142) [.ref e, .int (Int32.ofNat m)]) [] G 0 0 (xp_Z G none) := by
  rw [show eg_mL 142 = 2 from by decide +kernel]
  show et_go none d2 142 0 [some (.ref e), some (.int (Int32.ofNat m))] [] G 0 0 _
  have lt_e := (hH.2.2 _ _ k_e).1
  refine hs_iload (i := 1) (p := 1) (by decide +kernel) rfl ?_
  refine hs_if0 (c := .lt) (t := 12) (f := 4) (by decide +kernel) (rs_nn (by omega)) ?_
  refine hs_iload (i := 1) (p := 5) (by decide +kernel) rfl ?_
  refine hs_aload (i := 0) (p := 6) (by decide +kernel) rfl ?_
  refine hf_get (T := et_TT) (t := 3) (ci := 1) (f := 0) (p := 9) (by decide +kernel) rfl hH k_e e0 ?_
  refine hs_br2n (c := .lt) (t := 20) (f := 12) (by decide +kernel) (by omega) (by omega) (fun (c9 : m < w) => ?_) (fun (c9 : ¬ (m < w)) => ?_)
  · refine hs_vret (by decide +kernel) ?_
    rfl
  · exact absurd hm c9
theorem fd_needWn (hH : et_H et_TT K G) (k_e : K e = some 3) (e0 : et_pl (eg_at G e) 0 = some (.int (Int32.ofNat w))) (hw6 : w ≤ 6) (hx : ¬ xr x w) : et_go none d2 142 0 (eg_en (eg_mL 142) [.ref e, .int x]) [] G 0 0 (ix_Z 1 G) := by
  rw [show eg_mL 142 = 2 from by decide +kernel]
  show et_go none d2 142 0 [some (.ref e), some (.int x)] [] G 0 0 _
  have lt_e := (hH.2.2 _ _ k_e).1
  refine hs_iload (i := 1) (p := 1) (by decide +kernel) rfl ?_
  refine hs_br1 (c := .lt) (t := 12) (f := 4) (by decide +kernel) (fun (c1 : x < 0) => ?_) (fun (c1 : ¬ (x < 0)) => ?_)
  · refine hs_thr (x := 1) (lk := 2) (by decide +kernel) rfl rfl ?_
    exact ⟨_, _, rfl⟩
  · refine hs_iload (i := 1) (p := 5) (by decide +kernel) rfl ?_
    refine hs_aload (i := 0) (p := 6) (by decide +kernel) rfl ?_
    refine hf_get (T := et_TT) (t := 3) (ci := 1) (f := 0) (p := 9) (by decide +kernel) rfl hH k_e e0 ?_
    refine hs_br2 (c := .lt) (t := 20) (f := 12) (by decide +kernel) (fun (c9 : x < Int32.ofNat w) => ?_) (fun (c9 : ¬ (x < Int32.ofNat w)) => ?_)
    · exact absurd (by unfold xr; rw [xi_lt0] at c1; rw [xi_ltn (k := w) (by omega)] at c9; omega) hx
    · refine hs_thr (x := 1) (lk := 2) (by decide +kernel) rfl rfl ?_
      exact ⟨_, _, rfl⟩
theorem fc_knobL (hH : et_H et_TT K G) (k_th : K th = some 12) (h0 : et_pl (eg_at G th) 0 = some (.ref s0)) (k_s0 : K s0 = some 10) (h5 : et_pl (eg_at G s0) 5 = some (.int (Int32.ofNat ec))) (hec : ec ≤ 3) (h6 : et_pl (eg_at G s0) 6 = some (.ref ya)) (k_ya : K ya = some 40) (hn : n < ec) (hE : et_pl (eg_at G ya) n = some (.ref e)) (t9 : evK K e ca ki kn w Kd) (hd9 : ¬ kn = ca ∧ ¬ kn = ki) (hv : evC G e ca ki kn w C Kd N l s t f) (hz : -2000 ≤ z.toInt ∧ z.toInt ≤ 2000) (hd : 1 ≤ d2) (h : ∀ G', et_H et_TT K G' → xf (fun b j => b = e ∧ j = 4) G G' → evC G' e ca ki kn w C Kd N z s t f → Z (.inl (some (.int (Int32.ofNat (if l = z then 0 else 1)))), G', 0, 0)) : et_go none d2 141 0 (eg_en (eg_mL 141) [.ref th, .int (Int32.ofNat n), .int (-1), .int z]) [] G 0 0 Z := by
  obtain ⟨d, rfl⟩ : ∃ d, d2 = d + 1 := ⟨d2 - 1, by omega⟩
  have k_e := t9.1.1
  have k_ca := t9.1.2.1
  have k_ki := t9.1.2.2.1
  have k_kn := t9.1.2.2.2
  have hw6 := t9.2.1
  rw [show eg_mL 141 = 6 from by decide +kernel]
  show et_go none (d + 1) 141 0 [some (.ref th), some (.int (Int32.ofNat n)), some (.int (-1)), some (.int z), none, none] [] G 0 0 _
  have lt_th := (hH.2.2 _ _ k_th).1
  have lt_s0 := (hH.2.2 _ _ k_s0).1
  have lt_ya := (hH.2.2 _ _ k_ya).1
  have lt_e := (hH.2.2 _ _ k_e).1
  have lt_ca := (hH.2.2 _ _ k_ca).1
  have lt_ki := (hH.2.2 _ _ k_ki).1
  have lt_kn := (hH.2.2 _ _ k_kn).1
  refine hs_aload (i := 0) (p := 1) (by decide +kernel) rfl ?_
  refine hs_iload (i := 1) (p := 2) (by decide +kernel) rfl ?_
  refine ht_callv (T := et_TT) (t := 12) (mi := 128) (na := 1) (ci := 10) (lk := 6) (lm := 2) (L0 := eg_en (eg_mL 128) [.ref th, .int (Int32.ofNat n)]) (by decide +kernel) rfl hH k_th rfl rfl rfl rfl rfl (by rw [show eg_mL 128 = 2 from by decide +kernel]; first | done | rfl) ?_
  refine (fd_needE hH k_th h0 k_s0 h5 hec h6 k_ya hn hE).mono (fun u hu => xp_cb hu ?_)
  show et_go none _ 141 5 _ [.ref e] _ _ _ _
  refine hs_astore (i := 4) (p := 7) (by decide +kernel) (Nat.le_of_ble_eq_true rfl) ?_
  refine hs_iload (i := 2) (p := 8) (by decide +kernel) rfl ?_
  refine hs_k (x := (-1)) (p := 9) (by decide +kernel) ?_
  refine hs_br2 (c := .eq) (t := 18) (f := 12) (by decide +kernel) (fun _ => ?_) (fun hz => absurd rfl hz)
  refine hs_iload (i := 2) (p := 19) (by decide +kernel) rfl ?_
  refine hs_k (x := (-1)) (p := 20) (by decide +kernel) ?_
  refine hs_br2 (c := .ne) (t := 29) (f := 23) (by decide +kernel) (fun hz => absurd rfl hz) (fun _ => ?_)
  refine hs_k (x := Int32.ofNat 2000) (p := 26) (by decide +kernel) ?_
  refine hs_goto (p := 32) (by decide +kernel) ?_
  refine hs_istore (i := 5) (p := 34) (by decide +kernel) (Nat.le_of_ble_eq_true rfl) ?_
  refine hs_iload (i := 3) (p := 35) (by decide +kernel) rfl ?_
  refine hs_iload (i := 5) (p := 37) (by decide +kernel) rfl ?_
  refine hs_st (ins := .ineg) (len := 1) (p := 38) (by decide +kernel) rfl rfl ?_
  refine hs_br2 (c := .lt) (t := 47) (f := 41) (by decide +kernel) (fun (c38 : z < (-(Int32.ofNat 2000))) => ?_) (fun (c38 : ¬ (z < (-(Int32.ofNat 2000)))) => ?_)
  · exact absurd hz.1 (by rw [xi_ltng (by decide)] at c38; omega)
  · refine hs_iload (i := 3) (p := 42) (by decide +kernel) rfl ?_
    refine hs_iload (i := 5) (p := 44) (by decide +kernel) rfl ?_
    refine hs_br2 (c := .le) (t := 55) (f := 47) (by decide +kernel) (fun (c44 : z ≤ Int32.ofNat 2000) => ?_) (fun (c44 : ¬ (z ≤ Int32.ofNat 2000)) => ?_)
    · refine hs_iload (i := 2) (p := 56) (by decide +kernel) rfl ?_
      refine hs_k (x := (-1)) (p := 57) (by decide +kernel) ?_
      refine hs_br2 (c := .ne) (t := 69) (f := 60) (by decide +kernel) (fun hz => absurd rfl hz) (fun _ => ?_)
      refine hs_aload (i := 4) (p := 62) (by decide +kernel) rfl ?_
      refine hs_iload (i := 3) (p := 63) (by decide +kernel) rfl ?_
      refine ht_callv (T := et_TT) (t := 3) (mi := 39) (na := 1) (ci := 1) (lk := 6) (lm := 3) (L0 := eg_en (eg_mL 39) [.ref e, .int z]) (by decide +kernel) rfl hH k_e rfl rfl rfl rfl rfl (by rw [show eg_mL 39 = 3 from by decide +kernel]; first | done | rfl) ?_
      refine fd_setL hH t9 hd9 hv (fun G63 hH x63 hv => ?_)
      have lt_th := Nat.lt_of_lt_of_le lt_th x63.1
      have lt_s0 := Nat.lt_of_lt_of_le lt_s0 x63.1
      have lt_ya := Nat.lt_of_lt_of_le lt_ya x63.1
      have lt_e := Nat.lt_of_lt_of_le lt_e x63.1
      have lt_ca := Nat.lt_of_lt_of_le lt_ca x63.1
      have lt_ki := Nat.lt_of_lt_of_le lt_ki x63.1
      have lt_kn := Nat.lt_of_lt_of_le lt_kn x63.1
      refine hs_cb ?_
      show et_go none _ 141 66 _ [.int (Int32.ofNat (if l = z then 0 else 1))] _ _ _ _
      refine hs_goto (p := 76) (by decide +kernel) ?_
      refine hs_zret (by decide +kernel) (by split; exact .inl rfl; exact .inr rfl) ?_
      exact h _ hH x63 hv
    · exact absurd hz.2 (by rw [xi_len (k := 2000) (by decide)] at c44; omega)
theorem fc_knobLr (hH : et_H et_TT K G) (k_th : K th = some 12) (h0 : et_pl (eg_at G th) 0 = some (.ref s0)) (k_s0 : K s0 = some 10) (h5 : et_pl (eg_at G s0) 5 = some (.int (Int32.ofNat ec))) (hec : ec ≤ 3) (h6 : et_pl (eg_at G s0) 6 = some (.ref ya)) (k_ya : K ya = some 40) (hn : n < ec) (hE : et_pl (eg_at G ya) n = some (.ref e)) (t9 : evK K e ca ki kn w Kd) (hd9 : ¬ kn = ca ∧ ¬ kn = ki) (hv : evC G e ca ki kn w C Kd N l s t f) (hz : ¬ (-2000 ≤ z.toInt ∧ z.toInt ≤ 2000)) (hd : 1 ≤ d2) : et_go none d2 141 0 (eg_en (eg_mL 141) [.ref th, .int (Int32.ofNat n), .int (-1), .int z]) [] G 0 0 (ix_Z 0 G) := by
  obtain ⟨d, rfl⟩ : ∃ d, d2 = d + 1 := ⟨d2 - 1, by omega⟩
  have k_e := t9.1.1
  have k_ca := t9.1.2.1
  have k_ki := t9.1.2.2.1
  have k_kn := t9.1.2.2.2
  have hw6 := t9.2.1
  rw [show eg_mL 141 = 6 from by decide +kernel]
  show et_go none (d + 1) 141 0 [some (.ref th), some (.int (Int32.ofNat n)), some (.int (-1)), some (.int z), none, none] [] G 0 0 _
  have lt_th := (hH.2.2 _ _ k_th).1
  have lt_s0 := (hH.2.2 _ _ k_s0).1
  have lt_ya := (hH.2.2 _ _ k_ya).1
  have lt_e := (hH.2.2 _ _ k_e).1
  have lt_ca := (hH.2.2 _ _ k_ca).1
  have lt_ki := (hH.2.2 _ _ k_ki).1
  have lt_kn := (hH.2.2 _ _ k_kn).1
  refine hs_aload (i := 0) (p := 1) (by decide +kernel) rfl ?_
  refine hs_iload (i := 1) (p := 2) (by decide +kernel) rfl ?_
  refine ht_callv (T := et_TT) (t := 12) (mi := 128) (na := 1) (ci := 10) (lk := 6) (lm := 2) (L0 := eg_en (eg_mL 128) [.ref th, .int (Int32.ofNat n)]) (by decide +kernel) rfl hH k_th rfl rfl rfl rfl rfl (by rw [show eg_mL 128 = 2 from by decide +kernel]; first | done | rfl) ?_
  refine (fd_needE hH k_th h0 k_s0 h5 hec h6 k_ya hn hE).mono (fun u hu => xp_cb hu ?_)
  show et_go none _ 141 5 _ [.ref e] _ _ _ _
  refine hs_astore (i := 4) (p := 7) (by decide +kernel) (Nat.le_of_ble_eq_true rfl) ?_
  refine hs_iload (i := 2) (p := 8) (by decide +kernel) rfl ?_
  refine hs_k (x := (-1)) (p := 9) (by decide +kernel) ?_
  refine hs_br2 (c := .eq) (t := 18) (f := 12) (by decide +kernel) (fun _ => ?_) (fun hz => absurd rfl hz)
  refine hs_iload (i := 2) (p := 19) (by decide +kernel) rfl ?_
  refine hs_k (x := (-1)) (p := 20) (by decide +kernel) ?_
  refine hs_br2 (c := .ne) (t := 29) (f := 23) (by decide +kernel) (fun hz => absurd rfl hz) (fun _ => ?_)
  refine hs_k (x := Int32.ofNat 2000) (p := 26) (by decide +kernel) ?_
  refine hs_goto (p := 32) (by decide +kernel) ?_
  refine hs_istore (i := 5) (p := 34) (by decide +kernel) (Nat.le_of_ble_eq_true rfl) ?_
  refine hs_iload (i := 3) (p := 35) (by decide +kernel) rfl ?_
  refine hs_iload (i := 5) (p := 37) (by decide +kernel) rfl ?_
  refine hs_st (ins := .ineg) (len := 1) (p := 38) (by decide +kernel) rfl rfl ?_
  refine hs_br2 (c := .lt) (t := 47) (f := 41) (by decide +kernel) (fun (c38 : z < (-(Int32.ofNat 2000))) => ?_) (fun (c38 : ¬ (z < (-(Int32.ofNat 2000)))) => ?_)
  · refine hs_thr (x := 0) (lk := 6) (by decide +kernel) rfl rfl ?_
    exact ⟨_, _, rfl⟩
  · refine hs_iload (i := 3) (p := 42) (by decide +kernel) rfl ?_
    refine hs_iload (i := 5) (p := 44) (by decide +kernel) rfl ?_
    refine hs_br2 (c := .le) (t := 55) (f := 47) (by decide +kernel) (fun (c44 : z ≤ Int32.ofNat 2000) => ?_) (fun (c44 : ¬ (z ≤ Int32.ofNat 2000)) => ?_)
    · exact absurd ⟨by rw [xi_ltng (by decide)] at c38; omega, by rw [xi_len (k := 2000) (by decide)] at c44; omega⟩ hz
    · refine hs_thr (x := 0) (lk := 6) (by decide +kernel) rfl rfl ?_
      exact ⟨_, _, rfl⟩
theorem fc_knobK (hH : et_H et_TT K G) (k_th : K th = some 12) (h0 : et_pl (eg_at G th) 0 = some (.ref s0)) (k_s0 : K s0 = some 10) (h5 : et_pl (eg_at G s0) 5 = some (.int (Int32.ofNat ec))) (hec : ec ≤ 3) (h6 : et_pl (eg_at G s0) 6 = some (.ref ya)) (k_ya : K ya = some 40) (hn : n < ec) (hE : et_pl (eg_at G ya) n = some (.ref e)) (t9 : evK K e ca ki kn w Kd) (hd9 : ¬ kn = ca ∧ ¬ kn = ki) (hv : evC G e ca ki kn w C Kd N l s t f) (hm : m < w) (hz : -200 ≤ z.toInt ∧ z.toInt ≤ 200) (hd : 1 ≤ d2) (h : ∀ G', et_H et_TT K G' → xf (fun b j => b = kn ∧ j = m) G G' → evC G' e ca ki kn w C Kd (kup N m z) l s t f → Z (.inl (some (.int (Int32.ofNat (if N m = z then 0 else 1)))), G', 0, 0)) : et_go none d2 141 0 (eg_en (eg_mL 141) [.ref th, .int (Int32.ofNat n), .int (Int32.ofNat m), .int z]) [] G 0 0 Z := by
  obtain ⟨d, rfl⟩ : ∃ d, d2 = d + 1 := ⟨d2 - 1, by omega⟩
  have k_e := t9.1.1
  have k_ca := t9.1.2.1
  have k_ki := t9.1.2.2.1
  have k_kn := t9.1.2.2.2
  have hw6 := t9.2.1
  rw [show eg_mL 141 = 6 from by decide +kernel]
  show et_go none (d + 1) 141 0 [some (.ref th), some (.int (Int32.ofNat n)), some (.int (Int32.ofNat m)), some (.int z), none, none] [] G 0 0 _
  have lt_th := (hH.2.2 _ _ k_th).1
  have lt_s0 := (hH.2.2 _ _ k_s0).1
  have lt_ya := (hH.2.2 _ _ k_ya).1
  have lt_e := (hH.2.2 _ _ k_e).1
  have lt_ca := (hH.2.2 _ _ k_ca).1
  have lt_ki := (hH.2.2 _ _ k_ki).1
  have lt_kn := (hH.2.2 _ _ k_kn).1
  refine hs_aload (i := 0) (p := 1) (by decide +kernel) rfl ?_
  refine hs_iload (i := 1) (p := 2) (by decide +kernel) rfl ?_
  refine ht_callv (T := et_TT) (t := 12) (mi := 128) (na := 1) (ci := 10) (lk := 6) (lm := 2) (L0 := eg_en (eg_mL 128) [.ref th, .int (Int32.ofNat n)]) (by decide +kernel) rfl hH k_th rfl rfl rfl rfl rfl (by rw [show eg_mL 128 = 2 from by decide +kernel]; first | done | rfl) ?_
  refine (fd_needE hH k_th h0 k_s0 h5 hec h6 k_ya hn hE).mono (fun u hu => xp_cb hu ?_)
  show et_go none _ 141 5 _ [.ref e] _ _ _ _
  refine hs_astore (i := 4) (p := 7) (by decide +kernel) (Nat.le_of_ble_eq_true rfl) ?_
  refine hs_iload (i := 2) (p := 8) (by decide +kernel) rfl ?_
  refine hs_k (x := (-1)) (p := 9) (by decide +kernel) ?_
  refine hs_br2 (c := .eq) (t := 18) (f := 12) (by decide +kernel) (fun hz => absurd hz (xi_nm1 (by omega))) (fun _ => ?_)
  refine hs_aload (i := 4) (p := 14) (by decide +kernel) rfl ?_
  refine hs_iload (i := 2) (p := 15) (by decide +kernel) rfl ?_
  refine hs_calls (mi := 142) (na := 2) (lk := 6) (lm := 2) (L0 := eg_en (eg_mL 142) [.ref e, .int (Int32.ofNat m)]) (by decide +kernel) rfl rfl rfl rfl rfl rfl (by rw [show eg_mL 142 = 2 from by decide +kernel]; first | done | rfl) ?_
  refine (fd_needW hH k_e hv.1.1 hw6 hm).mono (fun u hu => xp_cb hu ?_)
  show et_go none _ 141 18 _ [] _ _ _ _
  refine hs_iload (i := 2) (p := 19) (by decide +kernel) rfl ?_
  refine hs_k (x := (-1)) (p := 20) (by decide +kernel) ?_
  refine hs_br2 (c := .ne) (t := 29) (f := 23) (by decide +kernel) (fun _ => ?_) (fun hz => absurd (show ¬ ((Int32.ofNat m : Int32) = (-1)) from xi_nm1 (by omega)) hz)
  refine hs_k (x := Int32.ofNat 200) (p := 32) (by decide +kernel) ?_
  refine hs_istore (i := 5) (p := 34) (by decide +kernel) (Nat.le_of_ble_eq_true rfl) ?_
  refine hs_iload (i := 3) (p := 35) (by decide +kernel) rfl ?_
  refine hs_iload (i := 5) (p := 37) (by decide +kernel) rfl ?_
  refine hs_st (ins := .ineg) (len := 1) (p := 38) (by decide +kernel) rfl rfl ?_
  refine hs_br2 (c := .lt) (t := 47) (f := 41) (by decide +kernel) (fun (c38 : z < (-(Int32.ofNat 200))) => ?_) (fun (c38 : ¬ (z < (-(Int32.ofNat 200)))) => ?_)
  · exact absurd hz.1 (by rw [xi_ltng (by decide)] at c38; omega)
  · refine hs_iload (i := 3) (p := 42) (by decide +kernel) rfl ?_
    refine hs_iload (i := 5) (p := 44) (by decide +kernel) rfl ?_
    refine hs_br2 (c := .le) (t := 55) (f := 47) (by decide +kernel) (fun (c44 : z ≤ Int32.ofNat 200) => ?_) (fun (c44 : ¬ (z ≤ Int32.ofNat 200)) => ?_)
    · refine hs_iload (i := 2) (p := 56) (by decide +kernel) rfl ?_
      refine hs_k (x := (-1)) (p := 57) (by decide +kernel) ?_
      refine hs_br2 (c := .ne) (t := 69) (f := 60) (by decide +kernel) (fun _ => ?_) (fun hz => absurd (show ¬ ((Int32.ofNat m : Int32) = (-1)) from xi_nm1 (by omega)) hz)
      refine hs_aload (i := 4) (p := 71) (by decide +kernel) rfl ?_
      refine hs_iload (i := 2) (p := 72) (by decide +kernel) rfl ?_
      refine hs_iload (i := 3) (p := 73) (by decide +kernel) rfl ?_
      refine ht_callv (T := et_TT) (t := 3) (mi := 40) (na := 2) (ci := 1) (lk := 6) (lm := 3) (L0 := eg_en (eg_mL 40) [.ref e, .int (Int32.ofNat m), .int z]) (by decide +kernel) rfl hH k_e rfl rfl rfl rfl rfl (by rw [show eg_mL 40 = 3 from by decide +kernel]; first | done | rfl) ?_
      refine fd_setK hH t9 hd9 hv hm (fun G73 hH x73 hv => ?_)
      have lt_th := Nat.lt_of_lt_of_le lt_th x73.1
      have lt_s0 := Nat.lt_of_lt_of_le lt_s0 x73.1
      have lt_ya := Nat.lt_of_lt_of_le lt_ya x73.1
      have lt_e := Nat.lt_of_lt_of_le lt_e x73.1
      have lt_ca := Nat.lt_of_lt_of_le lt_ca x73.1
      have lt_ki := Nat.lt_of_lt_of_le lt_ki x73.1
      have lt_kn := Nat.lt_of_lt_of_le lt_kn x73.1
      refine hs_cb ?_
      show et_go none _ 141 76 _ [.int (Int32.ofNat (if N m = z then 0 else 1))] _ _ _ _
      refine hs_zret (by decide +kernel) (by split; exact .inl rfl; exact .inr rfl) ?_
      exact h _ hH x73 hv
    · exact absurd hz.2 (by rw [xi_len (k := 200) (by decide)] at c44; omega)
theorem fc_knobKr (hH : et_H et_TT K G) (k_th : K th = some 12) (h0 : et_pl (eg_at G th) 0 = some (.ref s0)) (k_s0 : K s0 = some 10) (h5 : et_pl (eg_at G s0) 5 = some (.int (Int32.ofNat ec))) (hec : ec ≤ 3) (h6 : et_pl (eg_at G s0) 6 = some (.ref ya)) (k_ya : K ya = some 40) (hn : n < ec) (hE : et_pl (eg_at G ya) n = some (.ref e)) (t9 : evK K e ca ki kn w Kd) (hd9 : ¬ kn = ca ∧ ¬ kn = ki) (hv : evC G e ca ki kn w C Kd N l s t f) (hm : m < w) (hz : ¬ (-200 ≤ z.toInt ∧ z.toInt ≤ 200)) (hd : 1 ≤ d2) : et_go none d2 141 0 (eg_en (eg_mL 141) [.ref th, .int (Int32.ofNat n), .int (Int32.ofNat m), .int z]) [] G 0 0 (ix_Z 0 G) := by
  obtain ⟨d, rfl⟩ : ∃ d, d2 = d + 1 := ⟨d2 - 1, by omega⟩
  have k_e := t9.1.1
  have k_ca := t9.1.2.1
  have k_ki := t9.1.2.2.1
  have k_kn := t9.1.2.2.2
  have hw6 := t9.2.1
  rw [show eg_mL 141 = 6 from by decide +kernel]
  show et_go none (d + 1) 141 0 [some (.ref th), some (.int (Int32.ofNat n)), some (.int (Int32.ofNat m)), some (.int z), none, none] [] G 0 0 _
  have lt_th := (hH.2.2 _ _ k_th).1
  have lt_s0 := (hH.2.2 _ _ k_s0).1
  have lt_ya := (hH.2.2 _ _ k_ya).1
  have lt_e := (hH.2.2 _ _ k_e).1
  have lt_ca := (hH.2.2 _ _ k_ca).1
  have lt_ki := (hH.2.2 _ _ k_ki).1
  have lt_kn := (hH.2.2 _ _ k_kn).1
  refine hs_aload (i := 0) (p := 1) (by decide +kernel) rfl ?_
  refine hs_iload (i := 1) (p := 2) (by decide +kernel) rfl ?_
  refine ht_callv (T := et_TT) (t := 12) (mi := 128) (na := 1) (ci := 10) (lk := 6) (lm := 2) (L0 := eg_en (eg_mL 128) [.ref th, .int (Int32.ofNat n)]) (by decide +kernel) rfl hH k_th rfl rfl rfl rfl rfl (by rw [show eg_mL 128 = 2 from by decide +kernel]; first | done | rfl) ?_
  refine (fd_needE hH k_th h0 k_s0 h5 hec h6 k_ya hn hE).mono (fun u hu => xp_cb hu ?_)
  show et_go none _ 141 5 _ [.ref e] _ _ _ _
  refine hs_astore (i := 4) (p := 7) (by decide +kernel) (Nat.le_of_ble_eq_true rfl) ?_
  refine hs_iload (i := 2) (p := 8) (by decide +kernel) rfl ?_
  refine hs_k (x := (-1)) (p := 9) (by decide +kernel) ?_
  refine hs_br2 (c := .eq) (t := 18) (f := 12) (by decide +kernel) (fun hz => absurd hz (xi_nm1 (by omega))) (fun _ => ?_)
  refine hs_aload (i := 4) (p := 14) (by decide +kernel) rfl ?_
  refine hs_iload (i := 2) (p := 15) (by decide +kernel) rfl ?_
  refine hs_calls (mi := 142) (na := 2) (lk := 6) (lm := 2) (L0 := eg_en (eg_mL 142) [.ref e, .int (Int32.ofNat m)]) (by decide +kernel) rfl rfl rfl rfl rfl rfl (by rw [show eg_mL 142 = 2 from by decide +kernel]; first | done | rfl) ?_
  refine (fd_needW hH k_e hv.1.1 hw6 hm).mono (fun u hu => xp_cb hu ?_)
  show et_go none _ 141 18 _ [] _ _ _ _
  refine hs_iload (i := 2) (p := 19) (by decide +kernel) rfl ?_
  refine hs_k (x := (-1)) (p := 20) (by decide +kernel) ?_
  refine hs_br2 (c := .ne) (t := 29) (f := 23) (by decide +kernel) (fun _ => ?_) (fun hz => absurd (show ¬ ((Int32.ofNat m : Int32) = (-1)) from xi_nm1 (by omega)) hz)
  refine hs_k (x := Int32.ofNat 200) (p := 32) (by decide +kernel) ?_
  refine hs_istore (i := 5) (p := 34) (by decide +kernel) (Nat.le_of_ble_eq_true rfl) ?_
  refine hs_iload (i := 3) (p := 35) (by decide +kernel) rfl ?_
  refine hs_iload (i := 5) (p := 37) (by decide +kernel) rfl ?_
  refine hs_st (ins := .ineg) (len := 1) (p := 38) (by decide +kernel) rfl rfl ?_
  refine hs_br2 (c := .lt) (t := 47) (f := 41) (by decide +kernel) (fun (c38 : z < (-(Int32.ofNat 200))) => ?_) (fun (c38 : ¬ (z < (-(Int32.ofNat 200)))) => ?_)
  · refine hs_thr (x := 0) (lk := 6) (by decide +kernel) rfl rfl ?_
    exact ⟨_, _, rfl⟩
  · refine hs_iload (i := 3) (p := 42) (by decide +kernel) rfl ?_
    refine hs_iload (i := 5) (p := 44) (by decide +kernel) rfl ?_
    refine hs_br2 (c := .le) (t := 55) (f := 47) (by decide +kernel) (fun (c44 : z ≤ Int32.ofNat 200) => ?_) (fun (c44 : ¬ (z ≤ Int32.ofNat 200)) => ?_)
    · exact absurd ⟨by rw [xi_ltng (by decide)] at c38; omega, by rw [xi_len (k := 200) (by decide)] at c44; omega⟩ hz
    · refine hs_thr (x := 0) (lk := 6) (by decide +kernel) rfl rfl ?_
      exact ⟨_, _, rfl⟩
theorem fc_knobW (hH : et_H et_TT K G) (k_th : K th = some 12) (h0 : et_pl (eg_at G th) 0 = some (.ref s0)) (k_s0 : K s0 = some 10) (h5 : et_pl (eg_at G s0) 5 = some (.int (Int32.ofNat ec))) (hec : ec ≤ 3) (h6 : et_pl (eg_at G s0) 6 = some (.ref ya)) (k_ya : K ya = some 40) (hn : n < ec) (hE : et_pl (eg_at G ya) n = some (.ref e)) (t9 : evK K e ca ki kn w Kd) (hd9 : ¬ kn = ca ∧ ¬ kn = ki) (hv : evC G e ca ki kn w C Kd N l s t f) (hx1 : ¬ x = (-1)) (hx : ¬ xr x w) (hd : 1 ≤ d2) : et_go none d2 141 0 (eg_en (eg_mL 141) [.ref th, .int (Int32.ofNat n), .int x, .int z]) [] G 0 0 (ix_Z 1 G) := by
  obtain ⟨d, rfl⟩ : ∃ d, d2 = d + 1 := ⟨d2 - 1, by omega⟩
  have k_e := t9.1.1
  have k_ca := t9.1.2.1
  have k_ki := t9.1.2.2.1
  have k_kn := t9.1.2.2.2
  have hw6 := t9.2.1
  rw [show eg_mL 141 = 6 from by decide +kernel]
  show et_go none (d + 1) 141 0 [some (.ref th), some (.int (Int32.ofNat n)), some (.int x), some (.int z), none, none] [] G 0 0 _
  have lt_th := (hH.2.2 _ _ k_th).1
  have lt_s0 := (hH.2.2 _ _ k_s0).1
  have lt_ya := (hH.2.2 _ _ k_ya).1
  have lt_e := (hH.2.2 _ _ k_e).1
  have lt_ca := (hH.2.2 _ _ k_ca).1
  have lt_ki := (hH.2.2 _ _ k_ki).1
  have lt_kn := (hH.2.2 _ _ k_kn).1
  refine hs_aload (i := 0) (p := 1) (by decide +kernel) rfl ?_
  refine hs_iload (i := 1) (p := 2) (by decide +kernel) rfl ?_
  refine ht_callv (T := et_TT) (t := 12) (mi := 128) (na := 1) (ci := 10) (lk := 6) (lm := 2) (L0 := eg_en (eg_mL 128) [.ref th, .int (Int32.ofNat n)]) (by decide +kernel) rfl hH k_th rfl rfl rfl rfl rfl (by rw [show eg_mL 128 = 2 from by decide +kernel]; first | done | rfl) ?_
  refine (fd_needE hH k_th h0 k_s0 h5 hec h6 k_ya hn hE).mono (fun u hu => xp_cb hu ?_)
  show et_go none _ 141 5 _ [.ref e] _ _ _ _
  refine hs_astore (i := 4) (p := 7) (by decide +kernel) (Nat.le_of_ble_eq_true rfl) ?_
  refine hs_iload (i := 2) (p := 8) (by decide +kernel) rfl ?_
  refine hs_k (x := (-1)) (p := 9) (by decide +kernel) ?_
  refine hs_br2 (c := .eq) (t := 18) (f := 12) (by decide +kernel) (fun (c9 : x = (-1)) => ?_) (fun (c9 : ¬ (x = (-1))) => ?_)
  · exact absurd c9 hx1
  · refine hs_aload (i := 4) (p := 14) (by decide +kernel) rfl ?_
    refine hs_iload (i := 2) (p := 15) (by decide +kernel) rfl ?_
    refine hs_calls (mi := 142) (na := 2) (lk := 6) (lm := 2) (L0 := eg_en (eg_mL 142) [.ref e, .int x]) (by decide +kernel) rfl rfl rfl rfl rfl rfl (by rw [show eg_mL 142 = 2 from by decide +kernel]; first | done | rfl) ?_
    refine (fd_needWn hH k_e hv.1.1 hw6 hx).mono (fun u hu => ?_)
    obtain ⟨c15, s15, rfl⟩ := hu
    refine hf_cx (by decide +kernel) ?_
    exact ⟨_, _, rfl⟩
theorem fc_knobE (hH : et_H et_TT K G) (k_th : K th = some 12) (h0 : et_pl (eg_at G th) 0 = some (.ref s0)) (k_s0 : K s0 = some 10) (h5 : et_pl (eg_at G s0) 5 = some (.int (Int32.ofNat ec))) (hec : ec ≤ 3) (h6 : et_pl (eg_at G s0) 6 = some (.ref ya)) (k_ya : K ya = some 40) (hx : ¬ xr y ec) (hd : 1 ≤ d2) : et_go none d2 141 0 (eg_en (eg_mL 141) [.ref th, .int y, .int x, .int z]) [] G 0 0 (ix_Z 1 G) := by
  obtain ⟨d, rfl⟩ : ∃ d, d2 = d + 1 := ⟨d2 - 1, by omega⟩
  rw [show eg_mL 141 = 6 from by decide +kernel]
  show et_go none (d + 1) 141 0 [some (.ref th), some (.int y), some (.int x), some (.int z), none, none] [] G 0 0 _
  have lt_th := (hH.2.2 _ _ k_th).1
  have lt_s0 := (hH.2.2 _ _ k_s0).1
  have lt_ya := (hH.2.2 _ _ k_ya).1
  refine hs_aload (i := 0) (p := 1) (by decide +kernel) rfl ?_
  refine hs_iload (i := 1) (p := 2) (by decide +kernel) rfl ?_
  refine ht_callv (T := et_TT) (t := 12) (mi := 128) (na := 1) (ci := 10) (lk := 6) (lm := 2) (L0 := eg_en (eg_mL 128) [.ref th, .int y]) (by decide +kernel) rfl hH k_th rfl rfl rfl rfl rfl (by rw [show eg_mL 128 = 2 from by decide +kernel]; first | done | rfl) ?_
  refine (fd_needEn hH k_th h0 k_s0 h5 hec h6 k_ya hx).mono (fun u hu => ?_)
  obtain ⟨c2, s2, rfl⟩ := hu
  refine hf_cx (by decide +kernel) ?_
  exact ⟨_, _, rfl⟩
theorem fh_knobL (hH : et_H et_TT K G) (k_th : K th = some 12) (h0 : et_pl (eg_at G th) 0 = some (.ref s0)) (k_s0 : K s0 = some 10) (h5 : et_pl (eg_at G s0) 5 = some (.int (Int32.ofNat ec))) (hec : ec ≤ 3) (h6 : et_pl (eg_at G s0) 6 = some (.ref ya)) (k_ya : K ya = some 40) (hn : n < ec) (hE : et_pl (eg_at G ya) n = some (.ref e)) (t9 : evK K e ca ki kn w Kd) (hd9 : ¬ kn = ca ∧ ¬ kn = ki) (hv : evC G e ca ki kn w C Kd N l s t f) (k_out : K out = some 31) (hz : -2000 ≤ z.toInt ∧ z.toInt ≤ 2000) (hd : 2 ≤ d2) (h : ∀ G', et_H et_TT K G' → xf (fun b j => (b = e ∧ j = 4) ∨ (b = out ∧ j = 0)) G G' → evC G' e ca ki kn w C Kd N z s t f → et_pl (eg_at G' out) 0 = some (.long (Int64.ofNat (if l = z then 0 else 1))) → Z (.inl (some (.int (Int32.ofNat 0))), G', 0, 0)) : et_go none d2 8 0 (eg_en (eg_mL 8) [.ref th, .int (Int32.ofNat n), .int (-1), .int z, .ref out]) [] G 0 0 Z := by
  obtain ⟨d, rfl⟩ : ∃ d, d2 = d + 2 := ⟨d2 - 2, by omega⟩
  have k_e := t9.1.1
  have k_ca := t9.1.2.1
  have k_ki := t9.1.2.2.1
  have k_kn := t9.1.2.2.2
  have hw6 := t9.2.1
  have hHo := hH
  rw [show eg_mL 8 = 6 from by decide +kernel]
  show et_go none (d + 2) 8 0 [some (.ref th), some (.int (Int32.ofNat n)), some (.int (-1)), some (.int z), some (.ref out), none] [] G 0 0 _
  have lt_th := (hH.2.2 _ _ k_th).1
  have lt_s0 := (hH.2.2 _ _ k_s0).1
  have lt_ya := (hH.2.2 _ _ k_ya).1
  have lt_e := (hH.2.2 _ _ k_e).1
  have lt_ca := (hH.2.2 _ _ k_ca).1
  have lt_ki := (hH.2.2 _ _ k_ki).1
  have lt_kn := (hH.2.2 _ _ k_kn).1
  have lt_out := (hH.2.2 _ _ k_out).1
  have hX : xf (fun b j => (b = e ∧ j = 4) ∨ (b = out ∧ j = 0)) G G := xf.rf
  refine hs_aload (i := 4) (p := 2) (by decide +kernel) rfl ?_
  refine hs_k (x := Int32.ofNat 0) (p := 3) (by decide +kernel) ?_
  refine hs_aload (i := 0) (p := 4) (by decide +kernel) rfl ?_
  refine hs_iload (i := 1) (p := 5) (by decide +kernel) rfl ?_
  refine hs_iload (i := 2) (p := 6) (by decide +kernel) rfl ?_
  refine hs_iload (i := 3) (p := 7) (by decide +kernel) rfl ?_
  refine ht_callv (T := et_TT) (t := 12) (mi := 141) (na := 3) (ci := 10) (lk := 6) (lm := 6) (L0 := eg_en (eg_mL 141) [.ref th, .int (Int32.ofNat n), .int (-1), .int z]) (by decide +kernel) rfl hH k_th rfl rfl rfl rfl rfl (by rw [show eg_mL 141 = 6 from by decide +kernel]; first | done | rfl) ?_
  refine fc_knobL hH k_th h0 k_s0 h5 hec h6 k_ya hn hE t9 hd9 hv hz (by omega) (fun G7 hH x7 hv => ?_)
  have lt_th := Nat.lt_of_lt_of_le lt_th x7.1
  have lt_s0 := Nat.lt_of_lt_of_le lt_s0 x7.1
  have lt_ya := Nat.lt_of_lt_of_le lt_ya x7.1
  have lt_e := Nat.lt_of_lt_of_le lt_e x7.1
  have lt_ca := Nat.lt_of_lt_of_le lt_ca x7.1
  have lt_ki := Nat.lt_of_lt_of_le lt_ki x7.1
  have lt_kn := Nat.lt_of_lt_of_le lt_kn x7.1
  have lt_out := Nat.lt_of_lt_of_le lt_out x7.1
  have hX := hX.tr x7 (fun b j hb h => by first | omega | (dsimp only at h ⊢; omega) | (dsimp only at h; omega))
  refine hs_cb ?_
  by_cases hs9 : l = z
  · rw [if_pos hs9]
    show et_go none _ 8 10 _ [.int (Int32.ofNat 0), .int (Int32.ofNat 0), .ref out] _ _ _ _
    refine hs_if1 (c := .eq) (t := 17) (f := 13) (by decide +kernel) (show Int32.ofNat 0 = 0 by decide) ?_
    refine hs_st (ins := .lconst 0) (len := 1) (p := 18) (by decide +kernel) rfl rfl ?_
    have hHo := hH
    refine hf_lst (T := et_TT) (t := 31) (N := 1) (p := 19) (by decide +kernel) rfl rfl hH k_out (by omega) (by decide) (fun G18 hH x18 e18 => ?_)
    have hv := hv.xs t9 hHo x18 (fun b j h => by rw [h.1, k_out]; exact ⟨by decide, by decide⟩)
    have lt_th := Nat.lt_of_lt_of_le lt_th x18.1
    have lt_s0 := Nat.lt_of_lt_of_le lt_s0 x18.1
    have lt_ya := Nat.lt_of_lt_of_le lt_ya x18.1
    have lt_e := Nat.lt_of_lt_of_le lt_e x18.1
    have lt_ca := Nat.lt_of_lt_of_le lt_ca x18.1
    have lt_ki := Nat.lt_of_lt_of_le lt_ki x18.1
    have lt_kn := Nat.lt_of_lt_of_le lt_kn x18.1
    have lt_out := Nat.lt_of_lt_of_le lt_out x18.1
    have hX := hX.tr x18 (fun b j hb h => by first | omega | (dsimp only at h ⊢; omega) | (dsimp only at h; omega) | (dsimp only; omega))
    refine hs_goto (p := 30) (by decide +kernel) ?_
    refine hs_k (x := Int32.ofNat 0) (p := 31) (by decide +kernel) ?_
    refine hs_iret (by decide +kernel) ?_
    exact h _ hH (hX.wk (fun _ _ _ h => h)) hv (by rw [if_pos hs9]; exact e18)
  · rw [if_neg hs9]
    show et_go none _ 8 10 _ [.int (Int32.ofNat 1), .int (Int32.ofNat 0), .ref out] _ _ _ _
    refine hs_if0 (c := .eq) (t := 17) (f := 13) (by decide +kernel) (show ¬ (Int32.ofNat 1 = 0) by decide) ?_
    refine hs_st (ins := .lconst 1) (len := 1) (p := 14) (by decide +kernel) rfl rfl ?_
    refine hs_goto (p := 18) (by decide +kernel) ?_
    have hHo := hH
    refine hf_lst (T := et_TT) (t := 31) (N := 1) (p := 19) (by decide +kernel) rfl rfl hH k_out (by omega) (by decide) (fun G18 hH x18 e18 => ?_)
    have hv := hv.xs t9 hHo x18 (fun b j h => by rw [h.1, k_out]; exact ⟨by decide, by decide⟩)
    have lt_th := Nat.lt_of_lt_of_le lt_th x18.1
    have lt_s0 := Nat.lt_of_lt_of_le lt_s0 x18.1
    have lt_ya := Nat.lt_of_lt_of_le lt_ya x18.1
    have lt_e := Nat.lt_of_lt_of_le lt_e x18.1
    have lt_ca := Nat.lt_of_lt_of_le lt_ca x18.1
    have lt_ki := Nat.lt_of_lt_of_le lt_ki x18.1
    have lt_kn := Nat.lt_of_lt_of_le lt_kn x18.1
    have lt_out := Nat.lt_of_lt_of_le lt_out x18.1
    have hX := hX.tr x18 (fun b j hb h => by first | omega | (dsimp only at h ⊢; omega) | (dsimp only at h; omega) | (dsimp only; omega))
    refine hs_goto (p := 30) (by decide +kernel) ?_
    refine hs_k (x := Int32.ofNat 0) (p := 31) (by decide +kernel) ?_
    refine hs_iret (by decide +kernel) ?_
    exact h _ hH (hX.wk (fun _ _ _ h => h)) hv (by rw [if_neg hs9]; exact e18)
theorem fh_knobK (hH : et_H et_TT K G) (k_th : K th = some 12) (h0 : et_pl (eg_at G th) 0 = some (.ref s0)) (k_s0 : K s0 = some 10) (h5 : et_pl (eg_at G s0) 5 = some (.int (Int32.ofNat ec))) (hec : ec ≤ 3) (h6 : et_pl (eg_at G s0) 6 = some (.ref ya)) (k_ya : K ya = some 40) (hn : n < ec) (hE : et_pl (eg_at G ya) n = some (.ref e)) (t9 : evK K e ca ki kn w Kd) (hd9 : ¬ kn = ca ∧ ¬ kn = ki) (hv : evC G e ca ki kn w C Kd N l s t f) (k_out : K out = some 31) (hm : m < w) (hz : -200 ≤ z.toInt ∧ z.toInt ≤ 200) (hd : 2 ≤ d2) (h : ∀ G', et_H et_TT K G' → xf (fun b j => (b = kn ∧ j = m) ∨ (b = out ∧ j = 0)) G G' → evC G' e ca ki kn w C Kd (kup N m z) l s t f → et_pl (eg_at G' out) 0 = some (.long (Int64.ofNat (if N m = z then 0 else 1))) → Z (.inl (some (.int (Int32.ofNat 0))), G', 0, 0)) : et_go none d2 8 0 (eg_en (eg_mL 8) [.ref th, .int (Int32.ofNat n), .int (Int32.ofNat m), .int z, .ref out]) [] G 0 0 Z := by
  obtain ⟨d, rfl⟩ : ∃ d, d2 = d + 2 := ⟨d2 - 2, by omega⟩
  have k_e := t9.1.1
  have k_ca := t9.1.2.1
  have k_ki := t9.1.2.2.1
  have k_kn := t9.1.2.2.2
  have hw6 := t9.2.1
  have hHo := hH
  rw [show eg_mL 8 = 6 from by decide +kernel]
  show et_go none (d + 2) 8 0 [some (.ref th), some (.int (Int32.ofNat n)), some (.int (Int32.ofNat m)), some (.int z), some (.ref out), none] [] G 0 0 _
  have lt_th := (hH.2.2 _ _ k_th).1
  have lt_s0 := (hH.2.2 _ _ k_s0).1
  have lt_ya := (hH.2.2 _ _ k_ya).1
  have lt_e := (hH.2.2 _ _ k_e).1
  have lt_ca := (hH.2.2 _ _ k_ca).1
  have lt_ki := (hH.2.2 _ _ k_ki).1
  have lt_kn := (hH.2.2 _ _ k_kn).1
  have lt_out := (hH.2.2 _ _ k_out).1
  have hX : xf (fun b j => (b = kn ∧ j = m) ∨ (b = out ∧ j = 0)) G G := xf.rf
  refine hs_aload (i := 4) (p := 2) (by decide +kernel) rfl ?_
  refine hs_k (x := Int32.ofNat 0) (p := 3) (by decide +kernel) ?_
  refine hs_aload (i := 0) (p := 4) (by decide +kernel) rfl ?_
  refine hs_iload (i := 1) (p := 5) (by decide +kernel) rfl ?_
  refine hs_iload (i := 2) (p := 6) (by decide +kernel) rfl ?_
  refine hs_iload (i := 3) (p := 7) (by decide +kernel) rfl ?_
  refine ht_callv (T := et_TT) (t := 12) (mi := 141) (na := 3) (ci := 10) (lk := 6) (lm := 6) (L0 := eg_en (eg_mL 141) [.ref th, .int (Int32.ofNat n), .int (Int32.ofNat m), .int z]) (by decide +kernel) rfl hH k_th rfl rfl rfl rfl rfl (by rw [show eg_mL 141 = 6 from by decide +kernel]; first | done | rfl) ?_
  refine fc_knobK hH k_th h0 k_s0 h5 hec h6 k_ya hn hE t9 hd9 hv hm hz (by omega) (fun G7 hH x7 hv => ?_)
  have lt_th := Nat.lt_of_lt_of_le lt_th x7.1
  have lt_s0 := Nat.lt_of_lt_of_le lt_s0 x7.1
  have lt_ya := Nat.lt_of_lt_of_le lt_ya x7.1
  have lt_e := Nat.lt_of_lt_of_le lt_e x7.1
  have lt_ca := Nat.lt_of_lt_of_le lt_ca x7.1
  have lt_ki := Nat.lt_of_lt_of_le lt_ki x7.1
  have lt_kn := Nat.lt_of_lt_of_le lt_kn x7.1
  have lt_out := Nat.lt_of_lt_of_le lt_out x7.1
  have hX := hX.tr x7 (fun b j hb h => by first | omega | (dsimp only at h ⊢; omega) | (dsimp only at h; omega))
  refine hs_cb ?_
  by_cases hs9 : N m = z
  · rw [if_pos hs9]
    show et_go none _ 8 10 _ [.int (Int32.ofNat 0), .int (Int32.ofNat 0), .ref out] _ _ _ _
    refine hs_if1 (c := .eq) (t := 17) (f := 13) (by decide +kernel) (show Int32.ofNat 0 = 0 by decide) ?_
    refine hs_st (ins := .lconst 0) (len := 1) (p := 18) (by decide +kernel) rfl rfl ?_
    have hHo := hH
    refine hf_lst (T := et_TT) (t := 31) (N := 1) (p := 19) (by decide +kernel) rfl rfl hH k_out (by omega) (by decide) (fun G18 hH x18 e18 => ?_)
    have hv := hv.xs t9 hHo x18 (fun b j h => by rw [h.1, k_out]; exact ⟨by decide, by decide⟩)
    have lt_th := Nat.lt_of_lt_of_le lt_th x18.1
    have lt_s0 := Nat.lt_of_lt_of_le lt_s0 x18.1
    have lt_ya := Nat.lt_of_lt_of_le lt_ya x18.1
    have lt_e := Nat.lt_of_lt_of_le lt_e x18.1
    have lt_ca := Nat.lt_of_lt_of_le lt_ca x18.1
    have lt_ki := Nat.lt_of_lt_of_le lt_ki x18.1
    have lt_kn := Nat.lt_of_lt_of_le lt_kn x18.1
    have lt_out := Nat.lt_of_lt_of_le lt_out x18.1
    have hX := hX.tr x18 (fun b j hb h => by first | omega | (dsimp only at h ⊢; omega) | (dsimp only at h; omega) | (dsimp only; omega))
    refine hs_goto (p := 30) (by decide +kernel) ?_
    refine hs_k (x := Int32.ofNat 0) (p := 31) (by decide +kernel) ?_
    refine hs_iret (by decide +kernel) ?_
    exact h _ hH (hX.wk (fun _ _ _ h => h)) hv (by rw [if_pos hs9]; exact e18)
  · rw [if_neg hs9]
    show et_go none _ 8 10 _ [.int (Int32.ofNat 1), .int (Int32.ofNat 0), .ref out] _ _ _ _
    refine hs_if0 (c := .eq) (t := 17) (f := 13) (by decide +kernel) (show ¬ (Int32.ofNat 1 = 0) by decide) ?_
    refine hs_st (ins := .lconst 1) (len := 1) (p := 14) (by decide +kernel) rfl rfl ?_
    refine hs_goto (p := 18) (by decide +kernel) ?_
    have hHo := hH
    refine hf_lst (T := et_TT) (t := 31) (N := 1) (p := 19) (by decide +kernel) rfl rfl hH k_out (by omega) (by decide) (fun G18 hH x18 e18 => ?_)
    have hv := hv.xs t9 hHo x18 (fun b j h => by rw [h.1, k_out]; exact ⟨by decide, by decide⟩)
    have lt_th := Nat.lt_of_lt_of_le lt_th x18.1
    have lt_s0 := Nat.lt_of_lt_of_le lt_s0 x18.1
    have lt_ya := Nat.lt_of_lt_of_le lt_ya x18.1
    have lt_e := Nat.lt_of_lt_of_le lt_e x18.1
    have lt_ca := Nat.lt_of_lt_of_le lt_ca x18.1
    have lt_ki := Nat.lt_of_lt_of_le lt_ki x18.1
    have lt_kn := Nat.lt_of_lt_of_le lt_kn x18.1
    have lt_out := Nat.lt_of_lt_of_le lt_out x18.1
    have hX := hX.tr x18 (fun b j hb h => by first | omega | (dsimp only at h ⊢; omega) | (dsimp only at h; omega) | (dsimp only; omega))
    refine hs_goto (p := 30) (by decide +kernel) ?_
    refine hs_k (x := Int32.ofNat 0) (p := 31) (by decide +kernel) ?_
    refine hs_iret (by decide +kernel) ?_
    exact h _ hH (hX.wk (fun _ _ _ h => h)) hv (by rw [if_neg hs9]; exact e18)
theorem fh_knobLr (hH : et_H et_TT K G) (k_th : K th = some 12) (h0 : et_pl (eg_at G th) 0 = some (.ref s0)) (k_s0 : K s0 = some 10) (h5 : et_pl (eg_at G s0) 5 = some (.int (Int32.ofNat ec))) (hec : ec ≤ 3) (h6 : et_pl (eg_at G s0) 6 = some (.ref ya)) (k_ya : K ya = some 40) (hn : n < ec) (hE : et_pl (eg_at G ya) n = some (.ref e)) (t9 : evK K e ca ki kn w Kd) (hd9 : ¬ kn = ca ∧ ¬ kn = ki) (hv : evC G e ca ki kn w C Kd N l s t f) (hz : ¬ (-2000 ≤ z.toInt ∧ z.toInt ≤ 2000)) (hd : 2 ≤ d2) : et_go none d2 8 0 (eg_en (eg_mL 8) [.ref th, .int (Int32.ofNat n), .int (-1), .int z, .ref out]) [] G 0 0 (fun u => u.1 = .inl (some (.int (Int32.ofNat 2))) ∧ u.2.1 = G) := by
  obtain ⟨d, rfl⟩ : ∃ d, d2 = d + 2 := ⟨d2 - 2, by omega⟩
  rw [show eg_mL 8 = 6 from by decide +kernel]
  show et_go none (d + 2) 8 0 [some (.ref th), some (.int (Int32.ofNat n)), some (.int (-1)), some (.int z), some (.ref out), none] [] G 0 0 _
  have lt_th := (hH.2.2 _ _ k_th).1
  refine hs_aload (i := 4) (p := 2) (by decide +kernel) rfl ?_
  refine hs_k (x := Int32.ofNat 0) (p := 3) (by decide +kernel) ?_
  refine hs_aload (i := 0) (p := 4) (by decide +kernel) rfl ?_
  refine hs_iload (i := 1) (p := 5) (by decide +kernel) rfl ?_
  refine hs_iload (i := 2) (p := 6) (by decide +kernel) rfl ?_
  refine hs_iload (i := 3) (p := 7) (by decide +kernel) rfl ?_
  refine ht_callv (T := et_TT) (t := 12) (mi := 141) (na := 3) (ci := 10) (lk := 6) (lm := 6) (L0 := eg_en (eg_mL 141) [.ref th, .int (Int32.ofNat n), .int (-1), .int z]) (by decide +kernel) rfl hH k_th rfl rfl rfl rfl rfl (by rw [show eg_mL 141 = 6 from by decide +kernel]; first | done | rfl) ?_
  refine (fc_knobLr hH k_th h0 k_s0 h5 hec h6 k_ya hn hE t9 hd9 hv hz (by omega)).mono (fun u hu => ?_)
  obtain ⟨c7, s7, rfl⟩ := hu
  refine hs_ch (h := 26) (i := 5) (n := 2) (hh := (eg_mh 8).getD []) (by decide +kernel) ⟨by decide +kernel, by decide +kernel⟩ (Nat.le_of_ble_eq_true rfl) ?_
  show et_go none _ 8 28 [some (.ref th), some (.int (Int32.ofNat n)), some (.int (-1)), some (.int z), some (.ref out), none] [] _ _ _ _
  refine hs_k (x := Int32.ofNat 2) (p := 29) (by decide +kernel) ?_
  refine hs_iret (by decide +kernel) ?_
  exact ⟨rfl, rfl⟩
theorem fh_knobKr (hH : et_H et_TT K G) (k_th : K th = some 12) (h0 : et_pl (eg_at G th) 0 = some (.ref s0)) (k_s0 : K s0 = some 10) (h5 : et_pl (eg_at G s0) 5 = some (.int (Int32.ofNat ec))) (hec : ec ≤ 3) (h6 : et_pl (eg_at G s0) 6 = some (.ref ya)) (k_ya : K ya = some 40) (hn : n < ec) (hE : et_pl (eg_at G ya) n = some (.ref e)) (t9 : evK K e ca ki kn w Kd) (hd9 : ¬ kn = ca ∧ ¬ kn = ki) (hv : evC G e ca ki kn w C Kd N l s t f) (hm : m < w) (hz : ¬ (-200 ≤ z.toInt ∧ z.toInt ≤ 200)) (hd : 2 ≤ d2) : et_go none d2 8 0 (eg_en (eg_mL 8) [.ref th, .int (Int32.ofNat n), .int (Int32.ofNat m), .int z, .ref out]) [] G 0 0 (fun u => u.1 = .inl (some (.int (Int32.ofNat 2))) ∧ u.2.1 = G) := by
  obtain ⟨d, rfl⟩ : ∃ d, d2 = d + 2 := ⟨d2 - 2, by omega⟩
  rw [show eg_mL 8 = 6 from by decide +kernel]
  show et_go none (d + 2) 8 0 [some (.ref th), some (.int (Int32.ofNat n)), some (.int (Int32.ofNat m)), some (.int z), some (.ref out), none] [] G 0 0 _
  have lt_th := (hH.2.2 _ _ k_th).1
  refine hs_aload (i := 4) (p := 2) (by decide +kernel) rfl ?_
  refine hs_k (x := Int32.ofNat 0) (p := 3) (by decide +kernel) ?_
  refine hs_aload (i := 0) (p := 4) (by decide +kernel) rfl ?_
  refine hs_iload (i := 1) (p := 5) (by decide +kernel) rfl ?_
  refine hs_iload (i := 2) (p := 6) (by decide +kernel) rfl ?_
  refine hs_iload (i := 3) (p := 7) (by decide +kernel) rfl ?_
  refine ht_callv (T := et_TT) (t := 12) (mi := 141) (na := 3) (ci := 10) (lk := 6) (lm := 6) (L0 := eg_en (eg_mL 141) [.ref th, .int (Int32.ofNat n), .int (Int32.ofNat m), .int z]) (by decide +kernel) rfl hH k_th rfl rfl rfl rfl rfl (by rw [show eg_mL 141 = 6 from by decide +kernel]; first | done | rfl) ?_
  refine (fc_knobKr hH k_th h0 k_s0 h5 hec h6 k_ya hn hE t9 hd9 hv hm hz (by omega)).mono (fun u hu => ?_)
  obtain ⟨c7, s7, rfl⟩ := hu
  refine hs_ch (h := 26) (i := 5) (n := 2) (hh := (eg_mh 8).getD []) (by decide +kernel) ⟨by decide +kernel, by decide +kernel⟩ (Nat.le_of_ble_eq_true rfl) ?_
  show et_go none _ 8 28 [some (.ref th), some (.int (Int32.ofNat n)), some (.int (Int32.ofNat m)), some (.int z), some (.ref out), none] [] _ _ _ _
  refine hs_k (x := Int32.ofNat 2) (p := 29) (by decide +kernel) ?_
  refine hs_iret (by decide +kernel) ?_
  exact ⟨rfl, rfl⟩
theorem fh_knobW (hH : et_H et_TT K G) (k_th : K th = some 12) (h0 : et_pl (eg_at G th) 0 = some (.ref s0)) (k_s0 : K s0 = some 10) (h5 : et_pl (eg_at G s0) 5 = some (.int (Int32.ofNat ec))) (hec : ec ≤ 3) (h6 : et_pl (eg_at G s0) 6 = some (.ref ya)) (k_ya : K ya = some 40) (hn : n < ec) (hE : et_pl (eg_at G ya) n = some (.ref e)) (t9 : evK K e ca ki kn w Kd) (hd9 : ¬ kn = ca ∧ ¬ kn = ki) (hv : evC G e ca ki kn w C Kd N l s t f) (hx1 : ¬ x = (-1)) (hx : ¬ xr x w) (hd : 2 ≤ d2) : et_go none d2 8 0 (eg_en (eg_mL 8) [.ref th, .int (Int32.ofNat n), .int x, .int z, .ref out]) [] G 0 0 (fun u => u.1 = .inl (some (.int (Int32.ofNat 1))) ∧ u.2.1 = G) := by
  obtain ⟨d, rfl⟩ : ∃ d, d2 = d + 2 := ⟨d2 - 2, by omega⟩
  rw [show eg_mL 8 = 6 from by decide +kernel]
  show et_go none (d + 2) 8 0 [some (.ref th), some (.int (Int32.ofNat n)), some (.int x), some (.int z), some (.ref out), none] [] G 0 0 _
  have lt_th := (hH.2.2 _ _ k_th).1
  refine hs_aload (i := 4) (p := 2) (by decide +kernel) rfl ?_
  refine hs_k (x := Int32.ofNat 0) (p := 3) (by decide +kernel) ?_
  refine hs_aload (i := 0) (p := 4) (by decide +kernel) rfl ?_
  refine hs_iload (i := 1) (p := 5) (by decide +kernel) rfl ?_
  refine hs_iload (i := 2) (p := 6) (by decide +kernel) rfl ?_
  refine hs_iload (i := 3) (p := 7) (by decide +kernel) rfl ?_
  refine ht_callv (T := et_TT) (t := 12) (mi := 141) (na := 3) (ci := 10) (lk := 6) (lm := 6) (L0 := eg_en (eg_mL 141) [.ref th, .int (Int32.ofNat n), .int x, .int z]) (by decide +kernel) rfl hH k_th rfl rfl rfl rfl rfl (by rw [show eg_mL 141 = 6 from by decide +kernel]; first | done | rfl) ?_
  refine (fc_knobW hH k_th h0 k_s0 h5 hec h6 k_ya hn hE t9 hd9 hv hx1 hx (by omega)).mono (fun u hu => ?_)
  obtain ⟨c7, s7, rfl⟩ := hu
  refine hs_ch (h := 22) (i := 5) (n := 2) (hh := (eg_mh 8).getD []) (by decide +kernel) ⟨by decide +kernel, by decide +kernel⟩ (Nat.le_of_ble_eq_true rfl) ?_
  show et_go none _ 8 24 [some (.ref th), some (.int (Int32.ofNat n)), some (.int x), some (.int z), some (.ref out), none] [] _ _ _ _
  refine hs_k (x := Int32.ofNat 1) (p := 25) (by decide +kernel) ?_
  refine hs_iret (by decide +kernel) ?_
  exact ⟨rfl, rfl⟩
theorem fh_knobE (hH : et_H et_TT K G) (k_th : K th = some 12) (h0 : et_pl (eg_at G th) 0 = some (.ref s0)) (k_s0 : K s0 = some 10) (h5 : et_pl (eg_at G s0) 5 = some (.int (Int32.ofNat ec))) (hec : ec ≤ 3) (h6 : et_pl (eg_at G s0) 6 = some (.ref ya)) (k_ya : K ya = some 40) (hx : ¬ xr y ec) (hd : 2 ≤ d2) : et_go none d2 8 0 (eg_en (eg_mL 8) [.ref th, .int y, .int x, .int z, .ref out]) [] G 0 0 (fun u => u.1 = .inl (some (.int (Int32.ofNat 1))) ∧ u.2.1 = G) := by
  obtain ⟨d, rfl⟩ : ∃ d, d2 = d + 2 := ⟨d2 - 2, by omega⟩
  rw [show eg_mL 8 = 6 from by decide +kernel]
  show et_go none (d + 2) 8 0 [some (.ref th), some (.int y), some (.int x), some (.int z), some (.ref out), none] [] G 0 0 _
  have lt_th := (hH.2.2 _ _ k_th).1
  refine hs_aload (i := 4) (p := 2) (by decide +kernel) rfl ?_
  refine hs_k (x := Int32.ofNat 0) (p := 3) (by decide +kernel) ?_
  refine hs_aload (i := 0) (p := 4) (by decide +kernel) rfl ?_
  refine hs_iload (i := 1) (p := 5) (by decide +kernel) rfl ?_
  refine hs_iload (i := 2) (p := 6) (by decide +kernel) rfl ?_
  refine hs_iload (i := 3) (p := 7) (by decide +kernel) rfl ?_
  refine ht_callv (T := et_TT) (t := 12) (mi := 141) (na := 3) (ci := 10) (lk := 6) (lm := 6) (L0 := eg_en (eg_mL 141) [.ref th, .int y, .int x, .int z]) (by decide +kernel) rfl hH k_th rfl rfl rfl rfl rfl (by rw [show eg_mL 141 = 6 from by decide +kernel]; first | done | rfl) ?_
  refine (fc_knobE hH k_th h0 k_s0 h5 hec h6 k_ya hx (by omega)).mono (fun u hu => ?_)
  obtain ⟨c7, s7, rfl⟩ := hu
  refine hs_ch (h := 22) (i := 5) (n := 2) (hh := (eg_mh 8).getD []) (by decide +kernel) ⟨by decide +kernel, by decide +kernel⟩ (Nat.le_of_ble_eq_true rfl) ?_
  show et_go none _ 8 24 [some (.ref th), some (.int y), some (.int x), some (.int z), some (.ref out), none] [] _ _ _ _
  refine hs_k (x := Int32.ofNat 1) (p := 25) (by decide +kernel) ?_
  refine hs_iret (by decide +kernel) ?_
  exact ⟨rfl, rfl⟩
theorem fd_stuck (hH : et_H et_TT K G) (k_th : K th = some 12) (h0 : et_pl (eg_at G th) 0 = some (.ref s0)) (k_s0 : K s0 = some 10) (h5 : et_pl (eg_at G s0) 5 = some (.int (Int32.ofNat ec))) (hec : ec ≤ 3) (h6 : et_pl (eg_at G s0) 6 = some (.ref ya)) (k_ya : K ya = some 40) (hn : n < ec) (hE : et_pl (eg_at G ya) n = some (.ref e)) (t9 : evK K e ca ki kn w Kd) (hd9 : ¬ kn = ca ∧ ¬ kn = ki) (hv : evC G e ca ki kn w C Kd N l s t f) (hz : (0 ≤ y.toInt ∧ y.toInt ≤ 127 ∧ 0 ≤ z.toInt ∧ z.toInt ≤ 50)) (hd : 1 ≤ d2) (h : ∀ G', et_H et_TT K G' → xf (fun b j => b = e ∧ (6 ≤ j ∧ j ≤ 7)) G G' → evC G' e ca ki kn w C Kd N l s y z → Z (.inl none, G', 0, 0)) : et_go none d2 143 0 (eg_en (eg_mL 143) [.ref th, .int (Int32.ofNat n), .int y, .int z]) [] G 0 0 Z := by
  obtain ⟨d, rfl⟩ : ∃ d, d2 = d + 1 := ⟨d2 - 1, by omega⟩
  have k_e := t9.1.1
  have k_ca := t9.1.2.1
  have k_ki := t9.1.2.2.1
  have k_kn := t9.1.2.2.2
  have hw6 := t9.2.1
  rw [show eg_mL 143 = 5 from by decide +kernel]
  show et_go none (d + 1) 143 0 [some (.ref th), some (.int (Int32.ofNat n)), some (.int y), some (.int z), none] [] G 0 0 _
  have lt_th := (hH.2.2 _ _ k_th).1
  have lt_s0 := (hH.2.2 _ _ k_s0).1
  have lt_ya := (hH.2.2 _ _ k_ya).1
  have lt_e := (hH.2.2 _ _ k_e).1
  have lt_ca := (hH.2.2 _ _ k_ca).1
  have lt_ki := (hH.2.2 _ _ k_ki).1
  have lt_kn := (hH.2.2 _ _ k_kn).1
  have hX : xf (fun b j => b = e ∧ (6 ≤ j ∧ j ≤ 7)) G G := xf.rf
  refine hs_aload (i := 0) (p := 1) (by decide +kernel) rfl ?_
  refine hs_iload (i := 1) (p := 2) (by decide +kernel) rfl ?_
  refine ht_callv (T := et_TT) (t := 12) (mi := 128) (na := 1) (ci := 10) (lk := 5) (lm := 2) (L0 := eg_en (eg_mL 128) [.ref th, .int (Int32.ofNat n)]) (by decide +kernel) rfl hH k_th rfl rfl rfl rfl rfl (by rw [show eg_mL 128 = 2 from by decide +kernel]; first | done | rfl) ?_
  refine (fd_needE hH k_th h0 k_s0 h5 hec h6 k_ya hn hE).mono (fun u hu => xp_cb hu ?_)
  show et_go none _ 143 5 _ [.ref e] _ _ _ _
  refine hs_astore (i := 4) (p := 7) (by decide +kernel) (Nat.le_of_ble_eq_true rfl) ?_
  refine hs_iload (i := 2) (p := 8) (by decide +kernel) rfl ?_
  refine hs_br1 (c := .lt) (t := 28) (f := 11) (by decide +kernel) (fun (c8 : y < 0) => ?_) (fun (c8 : ¬ (y < 0)) => ?_)
  · exact absurd hz.1 (by rw [xi_lt0] at c8; omega)
  · refine hs_iload (i := 2) (p := 12) (by decide +kernel) rfl ?_
    refine hs_k (x := Int32.ofNat 128) (p := 15) (by decide +kernel) ?_
    refine hs_br2 (c := .ge) (t := 28) (f := 18) (by decide +kernel) (fun (c15 : Int32.ofNat 128 ≤ y) => ?_) (fun (c15 : ¬ (Int32.ofNat 128 ≤ y)) => ?_)
    · exact absurd hz.2.1 (by rw [xi_nle (k := 128) (by decide)] at c15; omega)
    · refine hs_iload (i := 3) (p := 19) (by decide +kernel) rfl ?_
      refine hs_br1 (c := .lt) (t := 28) (f := 22) (by decide +kernel) (fun (c19 : z < 0) => ?_) (fun (c19 : ¬ (z < 0)) => ?_)
      · exact absurd hz.2.2.1 (by rw [xi_lt0] at c19; omega)
      · refine hs_iload (i := 3) (p := 23) (by decide +kernel) rfl ?_
        refine hs_k (x := Int32.ofNat 50) (p := 25) (by decide +kernel) ?_
        refine hs_br2 (c := .le) (t := 36) (f := 28) (by decide +kernel) (fun (c25 : z ≤ Int32.ofNat 50) => ?_) (fun (c25 : ¬ (z ≤ Int32.ofNat 50)) => ?_)
        · refine hs_aload (i := 4) (p := 38) (by decide +kernel) rfl ?_
          refine hs_iload (i := 2) (p := 39) (by decide +kernel) rfl ?_
          have hHo := hH
          refine hf_put (T := et_TT) (t := 3) (ci := 1) (f := 6) (p := 42) (ty := .int) (by decide +kernel) rfl rfl rfl rfl rfl hH k_e hi_any (fun G39 hH x39 e39 => ?_)
          have hv := hv.pt t9 hHo x39 e39
          have h0 := (x39.2 th 0 lt_th (fun h => (hi_ne k_th k_e (by decide)) h.1)).trans h0
          have h5 := (x39.2 s0 5 lt_s0 (fun h => (hi_ne k_s0 k_e (by decide)) h.1)).trans h5
          have h6 := (x39.2 s0 6 lt_s0 (fun h => (hi_ne k_s0 k_e (by decide)) h.1)).trans h6
          have hE := (x39.2 ya n lt_ya (fun h => (hi_ne k_ya k_e (by decide)) h.1)).trans hE
          have lt_th := Nat.lt_of_lt_of_le lt_th x39.1
          have lt_s0 := Nat.lt_of_lt_of_le lt_s0 x39.1
          have lt_ya := Nat.lt_of_lt_of_le lt_ya x39.1
          have lt_e := Nat.lt_of_lt_of_le lt_e x39.1
          have lt_ca := Nat.lt_of_lt_of_le lt_ca x39.1
          have lt_ki := Nat.lt_of_lt_of_le lt_ki x39.1
          have lt_kn := Nat.lt_of_lt_of_le lt_kn x39.1
          have hX := hX.tr x39 (fun b j hb h => by first | omega | (dsimp only at h ⊢; omega) | (dsimp only at h; omega) | (dsimp only; omega))
          refine hs_aload (i := 4) (p := 44) (by decide +kernel) rfl ?_
          refine hs_iload (i := 3) (p := 45) (by decide +kernel) rfl ?_
          have hHo := hH
          refine hf_put (T := et_TT) (t := 3) (ci := 1) (f := 7) (p := 48) (ty := .int) (by decide +kernel) rfl rfl rfl rfl rfl hH k_e hi_any (fun G45 hH x45 e45 => ?_)
          have hv := hv.pf t9 hHo x45 e45
          have h0 := (x45.2 th 0 lt_th (fun h => (hi_ne k_th k_e (by decide)) h.1)).trans h0
          have h5 := (x45.2 s0 5 lt_s0 (fun h => (hi_ne k_s0 k_e (by decide)) h.1)).trans h5
          have h6 := (x45.2 s0 6 lt_s0 (fun h => (hi_ne k_s0 k_e (by decide)) h.1)).trans h6
          have hE := (x45.2 ya n lt_ya (fun h => (hi_ne k_ya k_e (by decide)) h.1)).trans hE
          have lt_th := Nat.lt_of_lt_of_le lt_th x45.1
          have lt_s0 := Nat.lt_of_lt_of_le lt_s0 x45.1
          have lt_ya := Nat.lt_of_lt_of_le lt_ya x45.1
          have lt_e := Nat.lt_of_lt_of_le lt_e x45.1
          have lt_ca := Nat.lt_of_lt_of_le lt_ca x45.1
          have lt_ki := Nat.lt_of_lt_of_le lt_ki x45.1
          have lt_kn := Nat.lt_of_lt_of_le lt_kn x45.1
          have hX := hX.tr x45 (fun b j hb h => by first | omega | (dsimp only at h ⊢; omega) | (dsimp only at h; omega) | (dsimp only; omega))
          refine hs_vret (by decide +kernel) ?_
          exact h _ hH hX hv
        · exact absurd hz.2.2.2 (by rw [xi_len (k := 50) (by decide)] at c25; omega)
theorem fd_stuckR (hH : et_H et_TT K G) (k_th : K th = some 12) (h0 : et_pl (eg_at G th) 0 = some (.ref s0)) (k_s0 : K s0 = some 10) (h5 : et_pl (eg_at G s0) 5 = some (.int (Int32.ofNat ec))) (hec : ec ≤ 3) (h6 : et_pl (eg_at G s0) 6 = some (.ref ya)) (k_ya : K ya = some 40) (hn : n < ec) (hE : et_pl (eg_at G ya) n = some (.ref e)) (hz : ¬ (0 ≤ y.toInt ∧ y.toInt ≤ 127 ∧ 0 ≤ z.toInt ∧ z.toInt ≤ 50)) (hd : 1 ≤ d2) : et_go none d2 143 0 (eg_en (eg_mL 143) [.ref th, .int (Int32.ofNat n), .int y, .int z]) [] G 0 0 (ix_Z 0 G) := by
  obtain ⟨d, rfl⟩ : ∃ d, d2 = d + 1 := ⟨d2 - 1, by omega⟩
  rw [show eg_mL 143 = 5 from by decide +kernel]
  show et_go none (d + 1) 143 0 [some (.ref th), some (.int (Int32.ofNat n)), some (.int y), some (.int z), none] [] G 0 0 _
  have lt_th := (hH.2.2 _ _ k_th).1
  have lt_s0 := (hH.2.2 _ _ k_s0).1
  have lt_ya := (hH.2.2 _ _ k_ya).1
  refine hs_aload (i := 0) (p := 1) (by decide +kernel) rfl ?_
  refine hs_iload (i := 1) (p := 2) (by decide +kernel) rfl ?_
  refine ht_callv (T := et_TT) (t := 12) (mi := 128) (na := 1) (ci := 10) (lk := 5) (lm := 2) (L0 := eg_en (eg_mL 128) [.ref th, .int (Int32.ofNat n)]) (by decide +kernel) rfl hH k_th rfl rfl rfl rfl rfl (by rw [show eg_mL 128 = 2 from by decide +kernel]; first | done | rfl) ?_
  refine (fd_needE hH k_th h0 k_s0 h5 hec h6 k_ya hn hE).mono (fun u hu => xp_cb hu ?_)
  show et_go none _ 143 5 _ [.ref e] _ _ _ _
  refine hs_astore (i := 4) (p := 7) (by decide +kernel) (Nat.le_of_ble_eq_true rfl) ?_
  refine hs_iload (i := 2) (p := 8) (by decide +kernel) rfl ?_
  refine hs_br1 (c := .lt) (t := 28) (f := 11) (by decide +kernel) (fun (c8 : y < 0) => ?_) (fun (c8 : ¬ (y < 0)) => ?_)
  · refine hs_thr (x := 0) (lk := 5) (by decide +kernel) rfl rfl ?_
    exact ⟨_, _, rfl⟩
  · refine hs_iload (i := 2) (p := 12) (by decide +kernel) rfl ?_
    refine hs_k (x := Int32.ofNat 128) (p := 15) (by decide +kernel) ?_
    refine hs_br2 (c := .ge) (t := 28) (f := 18) (by decide +kernel) (fun (c15 : Int32.ofNat 128 ≤ y) => ?_) (fun (c15 : ¬ (Int32.ofNat 128 ≤ y)) => ?_)
    · refine hs_thr (x := 0) (lk := 5) (by decide +kernel) rfl rfl ?_
      exact ⟨_, _, rfl⟩
    · refine hs_iload (i := 3) (p := 19) (by decide +kernel) rfl ?_
      refine hs_br1 (c := .lt) (t := 28) (f := 22) (by decide +kernel) (fun (c19 : z < 0) => ?_) (fun (c19 : ¬ (z < 0)) => ?_)
      · refine hs_thr (x := 0) (lk := 5) (by decide +kernel) rfl rfl ?_
        exact ⟨_, _, rfl⟩
      · refine hs_iload (i := 3) (p := 23) (by decide +kernel) rfl ?_
        refine hs_k (x := Int32.ofNat 50) (p := 25) (by decide +kernel) ?_
        refine hs_br2 (c := .le) (t := 36) (f := 28) (by decide +kernel) (fun (c25 : z ≤ Int32.ofNat 50) => ?_) (fun (c25 : ¬ (z ≤ Int32.ofNat 50)) => ?_)
        · exact absurd ⟨by rw [xi_lt0] at c8; omega, by rw [xi_nle (k := 128) (by decide)] at c15; omega, by rw [xi_lt0] at c19; omega, by rw [xi_len (k := 50) (by decide)] at c25; omega⟩ hz
        · refine hs_thr (x := 0) (lk := 5) (by decide +kernel) rfl rfl ?_
          exact ⟨_, _, rfl⟩
theorem fd_stuckE (hH : et_H et_TT K G) (k_th : K th = some 12) (h0 : et_pl (eg_at G th) 0 = some (.ref s0)) (k_s0 : K s0 = some 10) (h5 : et_pl (eg_at G s0) 5 = some (.int (Int32.ofNat ec))) (hec : ec ≤ 3) (h6 : et_pl (eg_at G s0) 6 = some (.ref ya)) (k_ya : K ya = some 40) (hx : ¬ xr x ec) (hd : 1 ≤ d2) : et_go none d2 143 0 (eg_en (eg_mL 143) [.ref th, .int x, .int y, .int z]) [] G 0 0 (ix_Z 1 G) := by
  obtain ⟨d, rfl⟩ : ∃ d, d2 = d + 1 := ⟨d2 - 1, by omega⟩
  rw [show eg_mL 143 = 5 from by decide +kernel]
  show et_go none (d + 1) 143 0 [some (.ref th), some (.int x), some (.int y), some (.int z), none] [] G 0 0 _
  have lt_th := (hH.2.2 _ _ k_th).1
  have lt_s0 := (hH.2.2 _ _ k_s0).1
  have lt_ya := (hH.2.2 _ _ k_ya).1
  refine hs_aload (i := 0) (p := 1) (by decide +kernel) rfl ?_
  refine hs_iload (i := 1) (p := 2) (by decide +kernel) rfl ?_
  refine ht_callv (T := et_TT) (t := 12) (mi := 128) (na := 1) (ci := 10) (lk := 5) (lm := 2) (L0 := eg_en (eg_mL 128) [.ref th, .int x]) (by decide +kernel) rfl hH k_th rfl rfl rfl rfl rfl (by rw [show eg_mL 128 = 2 from by decide +kernel]; first | done | rfl) ?_
  refine (fd_needEn hH k_th h0 k_s0 h5 hec h6 k_ya hx).mono (fun u hu => ?_)
  obtain ⟨c2, s2, rfl⟩ := hu
  refine hf_cx (by decide +kernel) ?_
  exact ⟨_, _, rfl⟩
theorem fh_stuckY (hH : et_H et_TT K G) (k_th : K th = some 12) (h0 : et_pl (eg_at G th) 0 = some (.ref s0)) (k_s0 : K s0 = some 10) (h5 : et_pl (eg_at G s0) 5 = some (.int (Int32.ofNat ec))) (hec : ec ≤ 3) (h6 : et_pl (eg_at G s0) 6 = some (.ref ya)) (k_ya : K ya = some 40) (hn : n < ec) (hE : et_pl (eg_at G ya) n = some (.ref e)) (t9 : evK K e ca ki kn w Kd) (hd9 : ¬ kn = ca ∧ ¬ kn = ki) (hv : evC G e ca ki kn w C Kd N l s t f) (hz : (0 ≤ y.toInt ∧ y.toInt ≤ 127 ∧ 0 ≤ z.toInt ∧ z.toInt ≤ 50)) (hd : 2 ≤ d2) (h : ∀ G', et_H et_TT K G' → xf (fun b j => b = e ∧ (6 ≤ j ∧ j ≤ 7)) G G' → evC G' e ca ki kn w C Kd N l s y z → Z (.inl (some (.int (Int32.ofNat 0))), G', 0, 0)) : et_go none d2 9 0 (eg_en (eg_mL 9) [.ref th, .int (Int32.ofNat n), .int y, .int z]) [] G 0 0 Z := by
  obtain ⟨d, rfl⟩ : ∃ d, d2 = d + 2 := ⟨d2 - 2, by omega⟩
  have k_e := t9.1.1
  have k_ca := t9.1.2.1
  have k_ki := t9.1.2.2.1
  have k_kn := t9.1.2.2.2
  have hw6 := t9.2.1
  rw [show eg_mL 9 = 5 from by decide +kernel]
  show et_go none (d + 2) 9 0 [some (.ref th), some (.int (Int32.ofNat n)), some (.int y), some (.int z), none] [] G 0 0 _
  have lt_th := (hH.2.2 _ _ k_th).1
  have lt_s0 := (hH.2.2 _ _ k_s0).1
  have lt_ya := (hH.2.2 _ _ k_ya).1
  have lt_e := (hH.2.2 _ _ k_e).1
  have lt_ca := (hH.2.2 _ _ k_ca).1
  have lt_ki := (hH.2.2 _ _ k_ki).1
  have lt_kn := (hH.2.2 _ _ k_kn).1
  refine hs_aload (i := 0) (p := 1) (by decide +kernel) rfl ?_
  refine hs_iload (i := 1) (p := 2) (by decide +kernel) rfl ?_
  refine hs_iload (i := 2) (p := 3) (by decide +kernel) rfl ?_
  refine hs_iload (i := 3) (p := 4) (by decide +kernel) rfl ?_
  refine ht_callv (T := et_TT) (t := 12) (mi := 143) (na := 3) (ci := 10) (lk := 5) (lm := 5) (L0 := eg_en (eg_mL 143) [.ref th, .int (Int32.ofNat n), .int y, .int z]) (by decide +kernel) rfl hH k_th rfl rfl rfl rfl rfl (by rw [show eg_mL 143 = 5 from by decide +kernel]; first | done | rfl) ?_
  refine fd_stuck hH k_th h0 k_s0 h5 hec h6 k_ya hn hE t9 hd9 hv hz (by omega) (fun G4 hH x4 hv => ?_)
  have lt_th := Nat.lt_of_lt_of_le lt_th x4.1
  have lt_s0 := Nat.lt_of_lt_of_le lt_s0 x4.1
  have lt_ya := Nat.lt_of_lt_of_le lt_ya x4.1
  have lt_e := Nat.lt_of_lt_of_le lt_e x4.1
  have lt_ca := Nat.lt_of_lt_of_le lt_ca x4.1
  have lt_ki := Nat.lt_of_lt_of_le lt_ki x4.1
  have lt_kn := Nat.lt_of_lt_of_le lt_kn x4.1
  refine hs_cb ?_
  show et_go none _ 9 7 _ [] _ _ _ _
  refine hs_goto (p := 18) (by decide +kernel) ?_
  refine hs_k (x := Int32.ofNat 0) (p := 19) (by decide +kernel) ?_
  refine hs_iret (by decide +kernel) ?_
  exact h _ hH x4 hv
theorem fh_stuckR (hH : et_H et_TT K G) (k_th : K th = some 12) (h0 : et_pl (eg_at G th) 0 = some (.ref s0)) (k_s0 : K s0 = some 10) (h5 : et_pl (eg_at G s0) 5 = some (.int (Int32.ofNat ec))) (hec : ec ≤ 3) (h6 : et_pl (eg_at G s0) 6 = some (.ref ya)) (k_ya : K ya = some 40) (hn : n < ec) (hE : et_pl (eg_at G ya) n = some (.ref e)) (hz : ¬ (0 ≤ y.toInt ∧ y.toInt ≤ 127 ∧ 0 ≤ z.toInt ∧ z.toInt ≤ 50)) (hd : 2 ≤ d2) : et_go none d2 9 0 (eg_en (eg_mL 9) [.ref th, .int (Int32.ofNat n), .int y, .int z]) [] G 0 0 (fun u => u.1 = .inl (some (.int (Int32.ofNat 2))) ∧ u.2.1 = G) := by
  obtain ⟨d, rfl⟩ : ∃ d, d2 = d + 2 := ⟨d2 - 2, by omega⟩
  rw [show eg_mL 9 = 5 from by decide +kernel]
  show et_go none (d + 2) 9 0 [some (.ref th), some (.int (Int32.ofNat n)), some (.int y), some (.int z), none] [] G 0 0 _
  have lt_th := (hH.2.2 _ _ k_th).1
  refine hs_aload (i := 0) (p := 1) (by decide +kernel) rfl ?_
  refine hs_iload (i := 1) (p := 2) (by decide +kernel) rfl ?_
  refine hs_iload (i := 2) (p := 3) (by decide +kernel) rfl ?_
  refine hs_iload (i := 3) (p := 4) (by decide +kernel) rfl ?_
  refine ht_callv (T := et_TT) (t := 12) (mi := 143) (na := 3) (ci := 10) (lk := 5) (lm := 5) (L0 := eg_en (eg_mL 143) [.ref th, .int (Int32.ofNat n), .int y, .int z]) (by decide +kernel) rfl hH k_th rfl rfl rfl rfl rfl (by rw [show eg_mL 143 = 5 from by decide +kernel]; first | done | rfl) ?_
  refine (fd_stuckR hH k_th h0 k_s0 h5 hec h6 k_ya hn hE hz (by omega)).mono (fun u hu => ?_)
  obtain ⟨c4, s4, rfl⟩ := hu
  refine hs_ch (h := 14) (i := 4) (n := 2) (hh := (eg_mh 9).getD []) (by decide +kernel) ⟨by decide +kernel, by decide +kernel⟩ (Nat.le_of_ble_eq_true rfl) ?_
  show et_go none _ 9 16 [some (.ref th), some (.int (Int32.ofNat n)), some (.int y), some (.int z), none] [] _ _ _ _
  refine hs_k (x := Int32.ofNat 2) (p := 17) (by decide +kernel) ?_
  refine hs_iret (by decide +kernel) ?_
  exact ⟨rfl, rfl⟩
theorem fh_stuckE (hH : et_H et_TT K G) (k_th : K th = some 12) (h0 : et_pl (eg_at G th) 0 = some (.ref s0)) (k_s0 : K s0 = some 10) (h5 : et_pl (eg_at G s0) 5 = some (.int (Int32.ofNat ec))) (hec : ec ≤ 3) (h6 : et_pl (eg_at G s0) 6 = some (.ref ya)) (k_ya : K ya = some 40) (hx : ¬ xr x ec) (hd : 2 ≤ d2) : et_go none d2 9 0 (eg_en (eg_mL 9) [.ref th, .int x, .int y, .int z]) [] G 0 0 (fun u => u.1 = .inl (some (.int (Int32.ofNat 1))) ∧ u.2.1 = G) := by
  obtain ⟨d, rfl⟩ : ∃ d, d2 = d + 2 := ⟨d2 - 2, by omega⟩
  rw [show eg_mL 9 = 5 from by decide +kernel]
  show et_go none (d + 2) 9 0 [some (.ref th), some (.int x), some (.int y), some (.int z), none] [] G 0 0 _
  have lt_th := (hH.2.2 _ _ k_th).1
  refine hs_aload (i := 0) (p := 1) (by decide +kernel) rfl ?_
  refine hs_iload (i := 1) (p := 2) (by decide +kernel) rfl ?_
  refine hs_iload (i := 2) (p := 3) (by decide +kernel) rfl ?_
  refine hs_iload (i := 3) (p := 4) (by decide +kernel) rfl ?_
  refine ht_callv (T := et_TT) (t := 12) (mi := 143) (na := 3) (ci := 10) (lk := 5) (lm := 5) (L0 := eg_en (eg_mL 143) [.ref th, .int x, .int y, .int z]) (by decide +kernel) rfl hH k_th rfl rfl rfl rfl rfl (by rw [show eg_mL 143 = 5 from by decide +kernel]; first | done | rfl) ?_
  refine (fd_stuckE hH k_th h0 k_s0 h5 hec h6 k_ya hx (by omega)).mono (fun u hu => ?_)
  obtain ⟨c4, s4, rfl⟩ := hu
  refine hs_ch (h := 10) (i := 4) (n := 2) (hh := (eg_mh 9).getD []) (by decide +kernel) ⟨by decide +kernel, by decide +kernel⟩ (Nat.le_of_ble_eq_true rfl) ?_
  show et_go none _ 9 12 [some (.ref th), some (.int x), some (.int y), some (.int z), none] [] _ _ _ _
  refine hs_k (x := Int32.ofNat 1) (p := 13) (by decide +kernel) ?_
  refine hs_iret (by decide +kernel) ?_
  exact ⟨rfl, rfl⟩
end VKA
