/-! blind by a RULE: the class -/
def cdV (v : evT) (x : Nat) : Nat := cdN v.2.1 v.2.2.1 x v.1
def ruN (f : sp_E → Bool) (m : Nat) : Bool := f (feE (fun _ => Int32.ofNat m))
def lkR (G : eg_G) (lk ks fs p : Nat) : Prop := et_pl (eg_at G lk) 0 = some (.ref ks) ∧ et_pl (eg_at G lk) 1 = some (.ref fs) ∧ et_pl (eg_at G lk) 2 = some (.int (Int32.ofNat p)) ∧ ∀ s, s < 65536 → ∃ x : Int32, et_pl (eg_at G fs) s = some (.int x) ∧ x.toUInt32.toNat / 65536 ≤ p
theorem a23_ex {K : et_K} {G : eg_G} {a i : Nat} (hH : et_H et_TT K G) (k : K a = some 23) (hi : i < 65536) : ∃ y : Int32, et_pl (eg_at G a) i = some (.int y) := by
  obtain ⟨f, e, -, -⟩ := hi_arr hH k rfl (by decide) (.inl rfl)
  exact ⟨f i, by rw [e, hf_pl (.inl rfl), if_pos hi]⟩
theorem fs9_of {G : eg_G} {fs : Nat} {P : Int32 → Prop} (h : ∀ s, s < 65536 → ∃ x : Int32, et_pl (eg_at G fs) s = some (.int x) ∧ P x) : ∃ FS : Nat → Int32, (∀ s, s < 65536 → et_pl (eg_at G fs) s = some (.int (FS s))) ∧ ∀ s, s < 65536 → P (FS s) := by
  refine ⟨fun s => if h9 : s < 65536 then (h s h9).choose else 0, fun s hs => ?_, fun s hs => ?_⟩
  · dsimp only
    rw [dif_pos hs]
    exact (h s hs).choose_spec.1
  · dsimp only
    rw [dif_pos hs]
    exact (h s hs).choose_spec.2
section ARA
variable {cd : Nat → Nat} {ru : Nat → Bool} {n L : Nat}
theorem blF_n (h : ¬ (fsN cd n n < blF cd ru n ∧ ¬ ru (fsN cd n n) = ru n)) : blF cd ru (n + 1) = blF cd ru n := if_neg h
theorem blF_y (h : fsN cd n n < blF cd ru n ∧ ¬ ru (fsN cd n n) = ru n) : blF cd ru (n + 1) = fsN cd n n := if_pos h
theorem blI_v (h : blF cd ru 65536 = L) : blI cd ru = if L = 65536 then (-1) else Int32.ofNat L := by
  unfold blI
  rw [h]
end ARA
theorem cdV_30 {v : evT} {x : Nat} (hw : v.1 ≤ 6) (hx : x < 65536) : cdV v x < 1073741824 := cd_30 hx hw
theorem lkR.xs {S : Nat → Nat → Prop} {G G' : eg_G} {lk ks fs p : Nat} (h : lkR G lk ks fs p) (x : xf S G G') (l1 : lk < G.2) (l2 : fs < G.2) (h1 : ∀ j, ¬ S lk j) (h2 : ∀ j, ¬ S fs j) : lkR G' lk ks fs p :=
  ⟨(x.2 lk 0 l1 (h1 0)).trans h.1, (x.2 lk 1 l1 (h1 1)).trans h.2.1, (x.2 lk 2 l1 (h1 2)).trans h.2.2.1, fun s hs => (h.2.2.2 s hs).elim (fun y hy => ⟨y, (x.2 fs s l2 (h2 s)).trans hy.1, hy.2⟩)⟩
section ARB
variable {K : et_K} {G : eg_G} {d d2 lk ks fs p n L th s0 s1 ya yb e q fo bb lo hi ca ki kn ec rc ra r la ly nc out ck sk : Nat} {v : evT} {f : sp_E → Bool} {FS KS : Nat → Int32} {x y : Int32} {X : Nat → Int32} {Y : Nat → Nat} {x5 : Option Value} {V : Nat → evT} {O : Nat → Nat} {A : Nat → Nat → Nat}
theorem fd_cdN (hH : et_H et_TT K G) (t9 : evK K e ca ki kn v.1 v.2.2.1) (hv : evc G e ca ki kn v) (hn : n < 65536) (hd : 2 ≤ d2) : et_go none d2 37 0 (eg_en (eg_mL 37) [.ref e, .int (Int32.ofNat n)]) [] G 0 0 (xp_Z G (some (.int (Int32.ofNat (cdV v n))))) := by
  have h := fd_cd (x := Int32.ofNat n) hH t9 hv hd
  rw [(cd_n hn v.1 t9.2.1).1] at h
  exact h
theorem fc_blL (hH : et_H et_TT K G) (k_th : K th = some 12) (t9 : evK K e ca ki kn v.1 v.2.2.1) (hv : evc G e ca ki kn v) (k_q : K q = some 8) (q0 : et_pl (eg_at G q) 0 = some (.ref bb)) (k_bb : K bb = some 6) (hdn : dn G 15 lo hi bb f) (hTb : tbP G q f) (hcl : fcl f) (h4 : et_pl (eg_at G th) 4 = some (.ref fo)) (k_fo : K fo = some 4) (h11 : et_pl (eg_at G th) 11 = some (.ref lk)) (k_lk : K lk = some 5) (k_ks : K ks = some 23) (k_fs : K fs = some 23) (hne : ¬ ks = fs) (l0 : et_pl (eg_at G lk) 0 = some (.ref ks)) (l1 : et_pl (eg_at G lk) 1 = some (.ref fs)) (l2 : et_pl (eg_at G lk) 2 = some (.int (Int32.ofNat p))) (hFS : ∀ s, s < 65536 → et_pl (eg_at G fs) s = some (.int (FS s))) (hKS : ∀ s, s < 65536 → et_pl (eg_at G ks) s = some (.int (KS s))) (hT : lkT (cdV v) p n FS KS) (hL : blF (cdV v) (ruN f) n = L) (hp : p < 32768) (hn : n ≤ 65536) : et_go none (d + 20) 158 22 [some (.ref th), some (.ref e), some (.ref q), some (.int (Int32.ofNat L)), some (.int (Int32.ofNat n)), x5] [] G ck sk (fun u => u.1 = .inl (some (.int (blI (cdV v) (ruN f)))) ∧ lkR u.2.1 lk ks fs p) := by
  have hw6 := t9.2.1
  have k_e := t9.1.1
  induction hq9 : 65536 - n using Nat.strongRecOn generalizing n L FS KS G x5 with
  | _ q9 ih =>
    have hLe : L ≤ 65536 := by rw [← hL]; exact blF_le n
    have hfe := fs_le (cd := cdV v) (n := n)
    have lt_th := (hH.2.2 _ _ k_th).1
    have lt_q := (hH.2.2 _ _ k_q).1
    have lt_fo := (hH.2.2 _ _ k_fo).1
    have lt_bb := (hH.2.2 _ _ k_bb).1
    have lt_lk := (hH.2.2 _ _ k_lk).1
    have lt_ks := (hH.2.2 _ _ k_ks).1
    have lt_fs := (hH.2.2 _ _ k_fs).1
    have lt_e := (hH.2.2 _ _ k_e).1
    refine hs_iload (i := 4) (p := 24) (by decide +kernel) rfl ?_
    refine hs_kld (v := Value.int (Int32.ofNat 65536)) (p := 27) (by decide +kernel) ?_
    refine hs_br2n (c := .ge) (t := 89) (f := 30) (by decide +kernel) (by omega) (by omega) (fun (c27 : 65536 ≤ n) => ?_) (fun (c27 : ¬ (65536 ≤ n)) => ?_)
    · refine hs_iload (i := 3) (p := 90) (by decide +kernel) rfl ?_
      refine hs_kld (v := Value.int (Int32.ofNat 65536)) (p := 93) (by decide +kernel) ?_
      refine hs_br2n (c := .ne) (t := 100) (f := 96) (by decide +kernel) (by omega) (by omega) (fun (c93 : ¬ L = 65536) => ?_) (fun (c93 : ¬ (¬ L = 65536)) => ?_)
      · refine hs_iload (i := 3) (p := 101) (by decide +kernel) rfl ?_
        refine hs_iret (by decide +kernel) ?_
        obtain rfl : n = 65536 := by omega
        have hE := hL
        exact ⟨by rw [blI_v hE, if_neg c93], l0, l1, l2, fun s hs => ⟨_, hFS s hs, hT.1 s hs⟩⟩
      · refine hs_k (x := (-1)) (p := 97) (by decide +kernel) ?_
        refine hs_goto (p := 101) (by decide +kernel) ?_
        refine hs_iret (by decide +kernel) ?_
        obtain rfl : n = 65536 := by omega
        have hE := hL
        exact ⟨by rw [blI_v hE, if_pos (Decidable.of_not_not c93)], l0, l1, l2, fun s hs => ⟨_, hFS s hs, hT.1 s hs⟩⟩
    · refine hs_iload (i := 3) (p := 31) (by decide +kernel) rfl ?_
      refine hs_br1 (c := .le) (t := 89) (f := 34) (by decide +kernel) (fun (c31 : Int32.ofNat L ≤ 0) => ?_) (fun (c31 : ¬ (Int32.ofNat L ≤ 0)) => ?_)
      · have c31 : L = 0 := by have h := Int32.le_iff_toInt_le.mp c31; rw [hs_nint (by omega)] at h; have h2 : (0 : Int32).toInt = 0 := rfl; omega
        refine hs_iload (i := 3) (p := 90) (by decide +kernel) rfl ?_
        refine hs_kld (v := Value.int (Int32.ofNat 65536)) (p := 93) (by decide +kernel) ?_
        refine hs_br2n (c := .ne) (t := 100) (f := 96) (by decide +kernel) (by omega) (by omega) (fun (c93 : ¬ L = 65536) => ?_) (fun (c93 : ¬ (¬ L = 65536)) => ?_)
        · refine hs_iload (i := 3) (p := 101) (by decide +kernel) rfl ?_
          refine hs_iret (by decide +kernel) ?_
          have hE := blF_0 (hL.trans c31) (65536 - n)
          rw [show n + (65536 - n) = 65536 by omega, ← c31] at hE
          exact ⟨by rw [blI_v hE, if_neg c93], l0, l1, l2, fun s hs => ⟨_, hFS s hs, hT.1 s hs⟩⟩
        · refine hs_k (x := (-1)) (p := 97) (by decide +kernel) ?_
          refine hs_goto (p := 101) (by decide +kernel) ?_
          refine hs_iret (by decide +kernel) ?_
          have hE := blF_0 (hL.trans c31) (65536 - n)
          rw [show n + (65536 - n) = 65536 by omega, ← c31] at hE
          exact ⟨by rw [blI_v hE, if_pos (Decidable.of_not_not c93)], l0, l1, l2, fun s hs => ⟨_, hFS s hs, hT.1 s hs⟩⟩
      · refine hs_aload (i := 0) (p := 35) (by decide +kernel) rfl ?_
        refine hf_get (T := et_TT) (t := 12) (ci := 10) (f := 11) (p := 38) (by decide +kernel) rfl hH k_th h11 ?_
        refine hs_aload (i := 1) (p := 39) (by decide +kernel) rfl ?_
        refine hs_iload (i := 4) (p := 41) (by decide +kernel) rfl ?_
        refine ht_callv (T := et_TT) (t := 3) (mi := 37) (na := 1) (ci := 1) (lk := 6) (lm := 4) (L0 := eg_en (eg_mL 37) [.ref e, .int (Int32.ofNat n)]) (by decide +kernel) rfl hH k_e rfl rfl rfl rfl rfl (by rw [show eg_mL 37 = 4 from by decide +kernel]; first | done | rfl) ?_
        refine (fd_cdN hH t9 hv (by omega) (by omega)).mono (fun u hu => xp_cb hu ?_)
        show et_go none _ 158 44 _ [.int (Int32.ofNat (cdV v n)), .ref lk] _ _ _ _
        refine hs_iload (i := 4) (p := 46) (by decide +kernel) rfl ?_
        have hHo := hH
        refine ht_callv (T := et_TT) (t := 5) (mi := 59) (na := 2) (ci := 3) (lk := 6) (lm := 5) (L0 := eg_en (eg_mL 59) [.ref lk, .int (Int32.ofNat (cdV v n)), .int (Int32.ofNat n)]) (by decide +kernel) rfl hH k_lk rfl rfl rfl rfl rfl (by rw [show eg_mL 59 = 5 from by decide +kernel]; first | done | rfl) ?_
        refine (fd_flk hH k_lk k_ks k_fs hne l0 l1 l2 hFS hKS hT (fun x hx => cdV_30 hw6 hx) (by omega) (by omega)).mono (fun u hu => xw_cb hu (fun G46 v46 hH x46 hP46 => ?_))
        have hdn := hdn.k6 hHo (n6.xs hHo x46 (fun b j h => by
          rcases h.1 with h | h
          · rw [h, k_fs]; decide
          · rw [h, k_ks]; decide)) k_bb
        have hTb := hTb.xs hHo k_q x46 (fun h => h.1.elim (fun h => hi_ne k_q k_fs (by decide) h) (fun h => hi_ne k_q k_ks (by decide) h)) (fun b j h => by
          rcases h.1 with h | h
          · rw [h, k_fs]; decide
          · rw [h, k_ks]; decide)
        have hv : evc G46 e ca ki kn v := evC.xs hv t9 hHo x46 (fun b j h => by
          rcases h.1 with h | h
          · rw [h, k_fs]; exact ⟨by decide, by decide⟩
          · rw [h, k_ks]; exact ⟨by decide, by decide⟩)
        have h4 := (x46.2 th 4 lt_th (fun h => h.1.elim (fun h => hi_ne k_th k_fs (by decide) h) (fun h => hi_ne k_th k_ks (by decide) h))).trans h4
        have h11 := (x46.2 th 11 lt_th (fun h => h.1.elim (fun h => hi_ne k_th k_fs (by decide) h) (fun h => hi_ne k_th k_ks (by decide) h))).trans h11
        have q0 := (x46.2 q 0 lt_q (fun h => h.1.elim (fun h => hi_ne k_q k_fs (by decide) h) (fun h => hi_ne k_q k_ks (by decide) h))).trans q0
        have l0 := (x46.2 lk 0 lt_lk (fun h => h.1.elim (fun h => hi_ne k_lk k_fs (by decide) h) (fun h => hi_ne k_lk k_ks (by decide) h))).trans l0
        have l1 := (x46.2 lk 1 lt_lk (fun h => h.1.elim (fun h => hi_ne k_lk k_fs (by decide) h) (fun h => hi_ne k_lk k_ks (by decide) h))).trans l1
        have l2 := (x46.2 lk 2 lt_lk (fun h => h.1.elim (fun h => hi_ne k_lk k_fs (by decide) h) (fun h => hi_ne k_lk k_ks (by decide) h))).trans l2
        have lt_th := Nat.lt_of_lt_of_le lt_th x46.1
        have lt_q := Nat.lt_of_lt_of_le lt_q x46.1
        have lt_fo := Nat.lt_of_lt_of_le lt_fo x46.1
        have lt_bb := Nat.lt_of_lt_of_le lt_bb x46.1
        have lt_lk := Nat.lt_of_lt_of_le lt_lk x46.1
        have lt_ks := Nat.lt_of_lt_of_le lt_ks x46.1
        have lt_fs := Nat.lt_of_lt_of_le lt_fs x46.1
        have lt_e := Nat.lt_of_lt_of_le lt_e x46.1
        obtain ⟨FS, KS, hFS, hKS, hT, rfl⟩ := hP46
        show et_go none _ 158 49 _ [.int (Int32.ofNat (fsN (cdV v) n n))] _ _ _ _
        refine hs_istore (i := 5) (p := 51) (by decide +kernel) (Nat.le_of_ble_eq_true rfl) ?_
        refine hs_iload (i := 5) (p := 53) (by decide +kernel) rfl ?_
        refine hs_iload (i := 3) (p := 54) (by decide +kernel) rfl ?_
        refine hs_br2n (c := .ge) (t := 83) (f := 57) (by decide +kernel) (by omega) (by omega) (fun (c54 : L ≤ (fsN (cdV v) n n)) => ?_) (fun (c54 : ¬ (L ≤ (fsN (cdV v) n n))) => ?_)
        · refine hs_iinc1 (i := 4) (p := 86) (by decide +kernel) rfl (Nat.le_of_ble_eq_true rfl) ?_
          refine hs_goto (p := 22) (by decide +kernel) ?_
          have e9 : blF (cdV v) (ruN f) (n + 1) = L := (blF_n (cd := cdV v) (ru := ruN f) (n := n) (fun h => by have h := h.1; rw [hL] at h; omega)).trans hL
          exact ih (65536 - (n + 1)) (by omega) hH hv q0 hdn hTb h4 h11 l0 l1 l2 hFS hKS hT e9 (by omega) rfl
        · refine hs_aload (i := 2) (p := 58) (by decide +kernel) rfl ?_
          refine hs_iload (i := 5) (p := 60) (by decide +kernel) rfl ?_
          refine hs_aload (i := 0) (p := 61) (by decide +kernel) rfl ?_
          refine hf_get (T := et_TT) (t := 12) (ci := 10) (f := 4) (p := 64) (by decide +kernel) rfl hH k_th h4 ?_
          have hHo := hH
          refine ht_callv (T := et_TT) (t := 8) (mi := 87) (na := 2) (ci := 6) (lk := 6) (lm := 3) (L0 := eg_en (eg_mL 87) [.ref q, .int (Int32.ofNat (fsN (cdV v) n n)), .ref fo]) (by decide +kernel) rfl hH k_q rfl rfl rfl rfl rfl (by rw [show eg_mL 87 = 3 from by decide +kernel]; first | done | rfl) ?_
          refine (fx_tellB hH k_q q0 k_bb hdn hTb hcl k_fo (by omega) (by omega)).mono (fun u hu => xw_cb hu (fun G64 v64 hH x64 hP64 => ?_))
          have hdn := hdn.k6 hHo (n6.xs hHo x64 (fun b j h => by
            rw [h.1, k_fo]; decide)) k_bb
          have hTb := hTb.xs hHo k_q x64 (fun h => hi_ne k_q k_fo (by decide) h.1) (fun b j h => by
            rw [h.1, k_fo]; decide)
          have hv : evc G64 e ca ki kn v := evC.xs hv t9 hHo x64 (fun b j h => by
            rw [h.1, k_fo]; exact ⟨by decide, by decide⟩)
          have h4 := (x64.2 th 4 lt_th (fun h => hi_ne k_th k_fo (by decide) h.1)).trans h4
          have h11 := (x64.2 th 11 lt_th (fun h => hi_ne k_th k_fo (by decide) h.1)).trans h11
          have q0 := (x64.2 q 0 lt_q (fun h => hi_ne k_q k_fo (by decide) h.1)).trans q0
          have l0 := (x64.2 lk 0 lt_lk (fun h => hi_ne k_lk k_fo (by decide) h.1)).trans l0
          have l1 := (x64.2 lk 1 lt_lk (fun h => hi_ne k_lk k_fo (by decide) h.1)).trans l1
          have l2 := (x64.2 lk 2 lt_lk (fun h => hi_ne k_lk k_fo (by decide) h.1)).trans l2
          have hFS : ∀ s, s < 65536 → et_pl (eg_at G64 fs) s = some (.int (FS s)) := fun s hs9 => (x64.2 fs s lt_fs (fun h => hi_ne k_fs k_fo (by decide) h.1)).trans (hFS s hs9)
          have hKS : ∀ s, s < 65536 → et_pl (eg_at G64 ks) s = some (.int (KS s)) := fun s hs9 => (x64.2 ks s lt_ks (fun h => hi_ne k_ks k_fo (by decide) h.1)).trans (hKS s hs9)
          have lt_th := Nat.lt_of_lt_of_le lt_th x64.1
          have lt_q := Nat.lt_of_lt_of_le lt_q x64.1
          have lt_fo := Nat.lt_of_lt_of_le lt_fo x64.1
          have lt_bb := Nat.lt_of_lt_of_le lt_bb x64.1
          have lt_lk := Nat.lt_of_lt_of_le lt_lk x64.1
          have lt_ks := Nat.lt_of_lt_of_le lt_ks x64.1
          have lt_fs := Nat.lt_of_lt_of_le lt_fs x64.1
          have lt_e := Nat.lt_of_lt_of_le lt_e x64.1
          rcases hP64 with ⟨qa, rfl⟩ | ⟨qa, rfl⟩
          · show et_go none _ 158 67 _ [.int (Int32.ofNat 1)] _ _ _ _
            refine hs_aload (i := 2) (p := 68) (by decide +kernel) rfl ?_
            refine hs_iload (i := 4) (p := 70) (by decide +kernel) rfl ?_
            refine hs_aload (i := 0) (p := 71) (by decide +kernel) rfl ?_
            refine hf_get (T := et_TT) (t := 12) (ci := 10) (f := 4) (p := 74) (by decide +kernel) rfl hH k_th h4 ?_
            have hHo := hH
            refine ht_callv (T := et_TT) (t := 8) (mi := 87) (na := 2) (ci := 6) (lk := 6) (lm := 3) (L0 := eg_en (eg_mL 87) [.ref q, .int (Int32.ofNat n), .ref fo]) (by decide +kernel) rfl hH k_q rfl rfl rfl rfl rfl (by rw [show eg_mL 87 = 3 from by decide +kernel]; first | done | rfl) ?_
            refine (fx_tellB hH k_q q0 k_bb hdn hTb hcl k_fo (by omega) (by omega)).mono (fun u hu => xw_cb hu (fun G74 v74 hH x74 hP74 => ?_))
            have hdn := hdn.k6 hHo (n6.xs hHo x74 (fun b j h => by
              rw [h.1, k_fo]; decide)) k_bb
            have hTb := hTb.xs hHo k_q x74 (fun h => hi_ne k_q k_fo (by decide) h.1) (fun b j h => by
              rw [h.1, k_fo]; decide)
            have hv : evc G74 e ca ki kn v := evC.xs hv t9 hHo x74 (fun b j h => by
              rw [h.1, k_fo]; exact ⟨by decide, by decide⟩)
            have h4 := (x74.2 th 4 lt_th (fun h => hi_ne k_th k_fo (by decide) h.1)).trans h4
            have h11 := (x74.2 th 11 lt_th (fun h => hi_ne k_th k_fo (by decide) h.1)).trans h11
            have q0 := (x74.2 q 0 lt_q (fun h => hi_ne k_q k_fo (by decide) h.1)).trans q0
            have l0 := (x74.2 lk 0 lt_lk (fun h => hi_ne k_lk k_fo (by decide) h.1)).trans l0
            have l1 := (x74.2 lk 1 lt_lk (fun h => hi_ne k_lk k_fo (by decide) h.1)).trans l1
            have l2 := (x74.2 lk 2 lt_lk (fun h => hi_ne k_lk k_fo (by decide) h.1)).trans l2
            have hFS : ∀ s, s < 65536 → et_pl (eg_at G74 fs) s = some (.int (FS s)) := fun s hs9 => (x74.2 fs s lt_fs (fun h => hi_ne k_fs k_fo (by decide) h.1)).trans (hFS s hs9)
            have hKS : ∀ s, s < 65536 → et_pl (eg_at G74 ks) s = some (.int (KS s)) := fun s hs9 => (x74.2 ks s lt_ks (fun h => hi_ne k_ks k_fo (by decide) h.1)).trans (hKS s hs9)
            have lt_th := Nat.lt_of_lt_of_le lt_th x74.1
            have lt_q := Nat.lt_of_lt_of_le lt_q x74.1
            have lt_fo := Nat.lt_of_lt_of_le lt_fo x74.1
            have lt_bb := Nat.lt_of_lt_of_le lt_bb x74.1
            have lt_lk := Nat.lt_of_lt_of_le lt_lk x74.1
            have lt_ks := Nat.lt_of_lt_of_le lt_ks x74.1
            have lt_fs := Nat.lt_of_lt_of_le lt_fs x74.1
            have lt_e := Nat.lt_of_lt_of_le lt_e x74.1
            rcases hP74 with ⟨qb, rfl⟩ | ⟨qb, rfl⟩
            · show et_go none _ 158 77 _ [.int (Int32.ofNat 1), .int (Int32.ofNat 1)] _ _ _ _
              refine hs_br2n (c := .eq) (t := 83) (f := 80) (by decide +kernel) (by omega) (by omega) (fun _ => ?_) (fun h => absurd (show 1 = 1 by decide) h)
              refine hs_iinc1 (i := 4) (p := 86) (by decide +kernel) rfl (Nat.le_of_ble_eq_true rfl) ?_
              refine hs_goto (p := 22) (by decide +kernel) ?_
              have e9 : blF (cdV v) (ruN f) (n + 1) = L := (blF_n (cd := cdV v) (ru := ruN f) (n := n) (fun h => h.2 (qa.trans qb.symm))).trans hL
              exact ih (65536 - (n + 1)) (by omega) hH hv q0 hdn hTb h4 h11 l0 l1 l2 hFS hKS hT e9 (by omega) rfl
            · show et_go none _ 158 77 _ [.int (Int32.ofNat 0), .int (Int32.ofNat 1)] _ _ _ _
              refine hs_br2n (c := .eq) (t := 83) (f := 80) (by decide +kernel) (by omega) (by omega) (fun h => absurd h (show ¬ (1 = 0) by decide)) (fun _ => ?_)
              refine hs_iload (i := 5) (p := 82) (by decide +kernel) rfl ?_
              refine hs_istore (i := 3) (p := 83) (by decide +kernel) (Nat.le_of_ble_eq_true rfl) ?_
              refine hs_iinc1 (i := 4) (p := 86) (by decide +kernel) rfl (Nat.le_of_ble_eq_true rfl) ?_
              refine hs_goto (p := 22) (by decide +kernel) ?_
              have e9 : blF (cdV v) (ruN f) (n + 1) = fsN (cdV v) n n := blF_y (cd := cdV v) (ru := ruN f) (n := n) ⟨by rw [hL]; omega, fun h => absurd (qa.symm.trans ((show f _ = f _ from h).trans qb)) (by decide)⟩
              exact ih (65536 - (n + 1)) (by omega) hH hv q0 hdn hTb h4 h11 l0 l1 l2 hFS hKS hT e9 (by omega) rfl
          · show et_go none _ 158 67 _ [.int (Int32.ofNat 0)] _ _ _ _
            refine hs_aload (i := 2) (p := 68) (by decide +kernel) rfl ?_
            refine hs_iload (i := 4) (p := 70) (by decide +kernel) rfl ?_
            refine hs_aload (i := 0) (p := 71) (by decide +kernel) rfl ?_
            refine hf_get (T := et_TT) (t := 12) (ci := 10) (f := 4) (p := 74) (by decide +kernel) rfl hH k_th h4 ?_
            have hHo := hH
            refine ht_callv (T := et_TT) (t := 8) (mi := 87) (na := 2) (ci := 6) (lk := 6) (lm := 3) (L0 := eg_en (eg_mL 87) [.ref q, .int (Int32.ofNat n), .ref fo]) (by decide +kernel) rfl hH k_q rfl rfl rfl rfl rfl (by rw [show eg_mL 87 = 3 from by decide +kernel]; first | done | rfl) ?_
            refine (fx_tellB hH k_q q0 k_bb hdn hTb hcl k_fo (by omega) (by omega)).mono (fun u hu => xw_cb hu (fun G74 v74 hH x74 hP74 => ?_))
            have hdn := hdn.k6 hHo (n6.xs hHo x74 (fun b j h => by
              rw [h.1, k_fo]; decide)) k_bb
            have hTb := hTb.xs hHo k_q x74 (fun h => hi_ne k_q k_fo (by decide) h.1) (fun b j h => by
              rw [h.1, k_fo]; decide)
            have hv : evc G74 e ca ki kn v := evC.xs hv t9 hHo x74 (fun b j h => by
              rw [h.1, k_fo]; exact ⟨by decide, by decide⟩)
            have h4 := (x74.2 th 4 lt_th (fun h => hi_ne k_th k_fo (by decide) h.1)).trans h4
            have h11 := (x74.2 th 11 lt_th (fun h => hi_ne k_th k_fo (by decide) h.1)).trans h11
            have q0 := (x74.2 q 0 lt_q (fun h => hi_ne k_q k_fo (by decide) h.1)).trans q0
            have l0 := (x74.2 lk 0 lt_lk (fun h => hi_ne k_lk k_fo (by decide) h.1)).trans l0
            have l1 := (x74.2 lk 1 lt_lk (fun h => hi_ne k_lk k_fo (by decide) h.1)).trans l1
            have l2 := (x74.2 lk 2 lt_lk (fun h => hi_ne k_lk k_fo (by decide) h.1)).trans l2
            have hFS : ∀ s, s < 65536 → et_pl (eg_at G74 fs) s = some (.int (FS s)) := fun s hs9 => (x74.2 fs s lt_fs (fun h => hi_ne k_fs k_fo (by decide) h.1)).trans (hFS s hs9)
            have hKS : ∀ s, s < 65536 → et_pl (eg_at G74 ks) s = some (.int (KS s)) := fun s hs9 => (x74.2 ks s lt_ks (fun h => hi_ne k_ks k_fo (by decide) h.1)).trans (hKS s hs9)
            have lt_th := Nat.lt_of_lt_of_le lt_th x74.1
            have lt_q := Nat.lt_of_lt_of_le lt_q x74.1
            have lt_fo := Nat.lt_of_lt_of_le lt_fo x74.1
            have lt_bb := Nat.lt_of_lt_of_le lt_bb x74.1
            have lt_lk := Nat.lt_of_lt_of_le lt_lk x74.1
            have lt_ks := Nat.lt_of_lt_of_le lt_ks x74.1
            have lt_fs := Nat.lt_of_lt_of_le lt_fs x74.1
            have lt_e := Nat.lt_of_lt_of_le lt_e x74.1
            rcases hP74 with ⟨qb, rfl⟩ | ⟨qb, rfl⟩
            · show et_go none _ 158 77 _ [.int (Int32.ofNat 1), .int (Int32.ofNat 0)] _ _ _ _
              refine hs_br2n (c := .eq) (t := 83) (f := 80) (by decide +kernel) (by omega) (by omega) (fun h => absurd h (show ¬ (0 = 1) by decide)) (fun _ => ?_)
              refine hs_iload (i := 5) (p := 82) (by decide +kernel) rfl ?_
              refine hs_istore (i := 3) (p := 83) (by decide +kernel) (Nat.le_of_ble_eq_true rfl) ?_
              refine hs_iinc1 (i := 4) (p := 86) (by decide +kernel) rfl (Nat.le_of_ble_eq_true rfl) ?_
              refine hs_goto (p := 22) (by decide +kernel) ?_
              have e9 : blF (cdV v) (ruN f) (n + 1) = fsN (cdV v) n n := blF_y (cd := cdV v) (ru := ruN f) (n := n) ⟨by rw [hL]; omega, fun h => absurd (qa.symm.trans ((show f _ = f _ from h).trans qb)) (by decide)⟩
              exact ih (65536 - (n + 1)) (by omega) hH hv q0 hdn hTb h4 h11 l0 l1 l2 hFS hKS hT e9 (by omega) rfl
            · show et_go none _ 158 77 _ [.int (Int32.ofNat 0), .int (Int32.ofNat 0)] _ _ _ _
              refine hs_br2n (c := .eq) (t := 83) (f := 80) (by decide +kernel) (by omega) (by omega) (fun _ => ?_) (fun h => absurd (show 0 = 0 by decide) h)
              refine hs_iinc1 (i := 4) (p := 86) (by decide +kernel) rfl (Nat.le_of_ble_eq_true rfl) ?_
              refine hs_goto (p := 22) (by decide +kernel) ?_
              have e9 : blF (cdV v) (ruN f) (n + 1) = L := (blF_n (cd := cdV v) (ru := ruN f) (n := n) (fun h => h.2 (qa.trans qb.symm))).trans hL
              exact ih (65536 - (n + 1)) (by omega) hH hv q0 hdn hTb h4 h11 l0 l1 l2 hFS hKS hT e9 (by omega) rfl
theorem fc_bl (hH : et_H et_TT K G) (k_th : K th = some 12) (t9 : evK K e ca ki kn v.1 v.2.2.1) (hv : evc G e ca ki kn v) (k_q : K q = some 8) (q0 : et_pl (eg_at G q) 0 = some (.ref bb)) (k_bb : K bb = some 6) (hdn : dn G 15 lo hi bb f) (hTb : tbP G q f) (hcl : fcl f) (h4 : et_pl (eg_at G th) 4 = some (.ref fo)) (k_fo : K fo = some 4) (h11 : et_pl (eg_at G th) 11 = some (.ref lk)) (k_lk : K lk = some 5) (k_ks : K ks = some 23) (k_fs : K fs = some 23) (hne : ¬ ks = fs) (l0 : et_pl (eg_at G lk) 0 = some (.ref ks)) (l1 : et_pl (eg_at G lk) 1 = some (.ref fs)) (l2 : et_pl (eg_at G lk) 2 = some (.int (Int32.ofNat p))) (hFS : ∀ s, s < 65536 → et_pl (eg_at G fs) s = some (.int (FS s))) (hKS : ∀ s, s < 65536 → et_pl (eg_at G ks) s = some (.int (KS s))) (hle : ∀ s, s < 65536 → (FS s).toUInt32.toNat / 65536 ≤ p) (hp : p < 32767) (hd : 20 ≤ d2) : et_go none d2 158 0 (eg_en (eg_mL 158) [.ref th, .ref e, .ref q]) [] G 0 0 (fun u => u.1 = .inl (some (.int (blI (cdV v) (ruN f)))) ∧ lkR u.2.1 lk ks fs (p + 1)) := by
  obtain ⟨d, rfl⟩ : ∃ d, d2 = d + 20 := ⟨d2 - 20, by omega⟩
  have k_e := t9.1.1
  rw [show eg_mL 158 = 6 from by decide +kernel]
  show et_go none (d + 20) 158 0 [some (.ref th), some (.ref e), some (.ref q), none, none, none] [] G 0 0 _
  have lt_th := (hH.2.2 _ _ k_th).1
  have lt_q := (hH.2.2 _ _ k_q).1
  have lt_fo := (hH.2.2 _ _ k_fo).1
  have lt_bb := (hH.2.2 _ _ k_bb).1
  have lt_lk := (hH.2.2 _ _ k_lk).1
  have lt_ks := (hH.2.2 _ _ k_ks).1
  have lt_fs := (hH.2.2 _ _ k_fs).1
  have lt_e := (hH.2.2 _ _ k_e).1
  refine hs_aload (i := 2) (p := 1) (by decide +kernel) rfl ?_
  refine hs_aload (i := 0) (p := 2) (by decide +kernel) rfl ?_
  refine hf_get (T := et_TT) (t := 12) (ci := 10) (f := 4) (p := 5) (by decide +kernel) rfl hH k_th h4 ?_
  have hHo := hH
  obtain ⟨F9, hF9⟩ := foR_of hH k_fo
  refine ht_callv (T := et_TT) (t := 8) (mi := 86) (na := 1) (ci := 6) (lk := 6) (lm := 4) (L0 := eg_en (eg_mL 86) [.ref q, .ref fo]) (by decide +kernel) rfl hH k_q rfl rfl rfl rfl rfl (by rw [show eg_mL 86 = 4 from by decide +kernel]; first | done | rfl) ?_
  refine (fx_ready hH k_q q0 k_bb hdn hTb hF9 hcl (by omega)).mono (fun u hu => ?_)
  obtain ⟨K1, G1, c1, s1, rfl, hx1, hH, x1, hTb⟩ := hu
  have hS : ∀ a9 t9, K a9 = some t9 → ¬ t9 = 4 → ¬ t9 = 8 → ∀ j, ¬ ((a9 = fo ∧ j = 0) ∨ (a9 = q ∧ j = 1)) := fun a9 t9 ha9 n4 n8 j hs => by
    rcases hs with hs | hs
    · exact hi_ne ha9 k_fo n4 hs.1
    · exact hi_ne ha9 k_q n8 hs.1
  have q0 := (x1.2 q 0 lt_q (fun hs => by
    rcases hs with hs | hs
    · exact hi_ne k_q k_fo (by decide) hs.1
    · exact absurd hs.2 (by decide))).trans q0
  have h4 := (x1.2 th 4 lt_th (hS th 12 k_th (by decide) (by decide) 4)).trans h4
  have h11 := (x1.2 th 11 lt_th (hS th 12 k_th (by decide) (by decide) 11)).trans h11
  have l0 := (x1.2 lk 0 lt_lk (hS lk 5 k_lk (by decide) (by decide) 0)).trans l0
  have l1 := (x1.2 lk 1 lt_lk (hS lk 5 k_lk (by decide) (by decide) 1)).trans l1
  have l2 := (x1.2 lk 2 lt_lk (hS lk 5 k_lk (by decide) (by decide) 2)).trans l2
  have hFS : ∀ s, s < 65536 → et_pl (eg_at G1 fs) s = some (.int (FS s)) := fun s hs9 => (x1.2 fs s lt_fs (hS fs 23 k_fs (by decide) (by decide) s)).trans (hFS s hs9)
  have hKS : ∀ s, s < 65536 → et_pl (eg_at G1 ks) s = some (.int (KS s)) := fun s hs9 => (x1.2 ks s lt_ks (hS ks 23 k_ks (by decide) (by decide) s)).trans (hKS s hs9)
  have hdn := hdn.k6 hHo (n6.xs hHo x1 (fun b j hs => by
    rcases hs with hs | hs
    · rw [hs.1, k_fo]; decide
    · rw [hs.1, k_q]; decide)) k_bb
  have hv : evc G1 e ca ki kn v := evC.xs hv t9 hHo x1 (fun b j hs => by
    rcases hs with hs | hs
    · rw [hs.1, k_fo]; exact ⟨by decide, by decide⟩
    · rw [hs.1, k_q]; exact ⟨by decide, by decide⟩)
  have lt_th := Nat.lt_of_lt_of_le lt_th x1.1
  have k_th := hx1 _ _ k_th
  have lt_q := Nat.lt_of_lt_of_le lt_q x1.1
  have k_q := hx1 _ _ k_q
  have lt_fo := Nat.lt_of_lt_of_le lt_fo x1.1
  have k_fo := hx1 _ _ k_fo
  have lt_bb := Nat.lt_of_lt_of_le lt_bb x1.1
  have k_bb := hx1 _ _ k_bb
  have lt_lk := Nat.lt_of_lt_of_le lt_lk x1.1
  have k_lk := hx1 _ _ k_lk
  have lt_ks := Nat.lt_of_lt_of_le lt_ks x1.1
  have k_ks := hx1 _ _ k_ks
  have lt_fs := Nat.lt_of_lt_of_le lt_fs x1.1
  have k_fs := hx1 _ _ k_fs
  have lt_e := Nat.lt_of_lt_of_le lt_e x1.1
  have k_e := hx1 _ _ k_e
  have t9 := t9.ex hx1
  refine hs_cb ?_
  show et_go none _ 158 8 _ [] _ _ _ _
  refine hs_aload (i := 0) (p := 9) (by decide +kernel) rfl ?_
  refine hf_get (T := et_TT) (t := 12) (ci := 10) (f := 11) (p := 12) (by decide +kernel) rfl hH k_th h11 ?_
  have hHo := hH
  refine ht_callv (T := et_TT) (t := 5) (mi := 58) (na := 0) (ci := 3) (lk := 6) (lm := 1) (L0 := eg_en (eg_mL 58) [.ref lk]) (by decide +kernel) rfl hH k_lk rfl rfl rfl rfl rfl (by rw [show eg_mL 58 = 1 from by decide +kernel]; first | done | rfl) ?_
  refine (fd_lkb hH k_lk l2).mono (fun u hu => xw_cb hu (fun G12 v12 hH x12 hP12 => ?_))
  have hdn := hdn.k6 hHo (n6.xs hHo x12 (fun b j h => by
    rw [h.1, k_lk]; decide)) k_bb
  have hTb := hTb.xs hHo k_q x12 (fun h => hi_ne k_q k_lk (by decide) h.1) (fun b j h => by
    rw [h.1, k_lk]; decide)
  have hv : evc G12 e ca ki kn v := evC.xs hv t9 hHo x12 (fun b j h => by
    rw [h.1, k_lk]; exact ⟨by decide, by decide⟩)
  have h4 := (x12.2 th 4 lt_th (fun h => hi_ne k_th k_lk (by decide) h.1)).trans h4
  have h11 := (x12.2 th 11 lt_th (fun h => hi_ne k_th k_lk (by decide) h.1)).trans h11
  have q0 := (x12.2 q 0 lt_q (fun h => hi_ne k_q k_lk (by decide) h.1)).trans q0
  have l0 := (x12.2 lk 0 lt_lk (fun h => absurd h.2 (by decide))).trans l0
  have l1 := (x12.2 lk 1 lt_lk (fun h => absurd h.2 (by decide))).trans l1
  have hFS : ∀ s, s < 65536 → et_pl (eg_at G12 fs) s = some (.int (FS s)) := fun s hs9 => (x12.2 fs s lt_fs (fun h => hi_ne k_fs k_lk (by decide) h.1)).trans (hFS s hs9)
  have hKS : ∀ s, s < 65536 → et_pl (eg_at G12 ks) s = some (.int (KS s)) := fun s hs9 => (x12.2 ks s lt_ks (fun h => hi_ne k_ks k_lk (by decide) h.1)).trans (hKS s hs9)
  have lt_th := Nat.lt_of_lt_of_le lt_th x12.1
  have lt_q := Nat.lt_of_lt_of_le lt_q x12.1
  have lt_fo := Nat.lt_of_lt_of_le lt_fo x12.1
  have lt_bb := Nat.lt_of_lt_of_le lt_bb x12.1
  have lt_lk := Nat.lt_of_lt_of_le lt_lk x12.1
  have lt_ks := Nat.lt_of_lt_of_le lt_ks x12.1
  have lt_fs := Nat.lt_of_lt_of_le lt_fs x12.1
  have lt_e := Nat.lt_of_lt_of_le lt_e x12.1
  obtain ⟨rfl, l2⟩ := hP12
  show et_go none _ 158 15 _ [] _ _ _ _
  refine hs_kld (v := Value.int (Int32.ofNat 65536)) (p := 18) (by decide +kernel) ?_
  refine hs_istore (i := 3) (p := 19) (by decide +kernel) (Nat.le_of_ble_eq_true rfl) ?_
  refine hs_k (x := Int32.ofNat 0) (p := 20) (by decide +kernel) ?_
  refine hs_istore (i := 4) (p := 22) (by decide +kernel) (Nat.le_of_ble_eq_true rfl) ?_
  exact fc_blL (n := 0) (L := 65536) (p := p + 1) hH k_th t9 hv k_q q0 k_bb hdn hTb hcl h4 k_fo h11 k_lk k_ks k_fs hne l0 l1 l2 hFS hKS (lkT.new hle) rfl (by omega) (Nat.zero_le _)
theorem fd_bl (hH : et_H et_TT K G) (k_th : K th = some 12) (h0 : et_pl (eg_at G th) 0 = some (.ref s0)) (k_s0 : K s0 = some 10) (h5 : et_pl (eg_at G s0) 5 = some (.int (Int32.ofNat ec))) (hec : ec ≤ 3) (h6 : et_pl (eg_at G s0) 6 = some (.ref ya)) (k_ya : K ya = some 40) (hn : n < ec) (hE : et_pl (eg_at G ya) n = some (.ref e)) (t9 : evK K e ca ki kn v.1 v.2.2.1) (hv : evc G e ca ki kn v) (r0 : et_pl (eg_at G s0) 0 = some (.int (Int32.ofNat rc))) (hrc : rc ≤ 4) (r1 : et_pl (eg_at G s0) 1 = some (.ref ra)) (k_ra : K ra = some 37) (hr : r < rc) (hR : et_pl (eg_at G ra) r = some (.ref q)) (k_q : K q = some 8) (q0 : et_pl (eg_at G q) 0 = some (.ref bb)) (k_bb : K bb = some 6) (hdn : dn G 15 lo hi bb f) (hTb : tbP G q f) (hcl : fcl f) (h4 : et_pl (eg_at G th) 4 = some (.ref fo)) (k_fo : K fo = some 4) (h11 : et_pl (eg_at G th) 11 = some (.ref lk)) (k_lk : K lk = some 5) (k_ks : K ks = some 23) (k_fs : K fs = some 23) (hne : ¬ ks = fs) (hlk : lkR G lk ks fs p) (hp : p < 32767) (hd : 21 ≤ d2) : et_go none d2 157 0 (eg_en (eg_mL 157) [.ref th, .int (Int32.ofNat n), .int (Int32.ofNat r)]) [] G 0 0 (fun u => u.1 = .inl (some (.int (blI (cdV v) (ruN f)))) ∧ lkR u.2.1 lk ks fs (p + 1)) := by
  obtain ⟨d, rfl⟩ : ∃ d, d2 = d + 21 := ⟨d2 - 21, by omega⟩
  obtain ⟨FS9, hFS9, hle9⟩ := fs9_of (P := fun x => x.toUInt32.toNat / 65536 ≤ p) hlk.2.2.2
  obtain ⟨KS9, hKS9, -⟩ := fs9_of (P := fun _ => True) (fun s hs => (a23_ex hH k_ks hs).elim (fun y hy => ⟨y, hy, trivial⟩))
  rw [show eg_mL 157 = 4 from by decide +kernel]
  show et_go none (d + 21) 157 0 [some (.ref th), some (.int (Int32.ofNat n)), some (.int (Int32.ofNat r)), none] [] G 0 0 _
  have lt_th := (hH.2.2 _ _ k_th).1
  have lt_s0 := (hH.2.2 _ _ k_s0).1
  have lt_ya := (hH.2.2 _ _ k_ya).1
  have lt_ra := (hH.2.2 _ _ k_ra).1
  refine hs_aload (i := 0) (p := 1) (by decide +kernel) rfl ?_
  refine hs_iload (i := 1) (p := 2) (by decide +kernel) rfl ?_
  refine ht_callv (T := et_TT) (t := 12) (mi := 128) (na := 1) (ci := 10) (lk := 4) (lm := 2) (L0 := eg_en (eg_mL 128) [.ref th, .int (Int32.ofNat n)]) (by decide +kernel) rfl hH k_th rfl rfl rfl rfl rfl (by rw [show eg_mL 128 = 2 from by decide +kernel]; first | done | rfl) ?_
  refine (fd_needE hH k_th h0 k_s0 h5 hec h6 k_ya hn hE).mono (fun u hu => xp_cb hu ?_)
  show et_go none _ 157 5 _ [.ref e] _ _ _ _
  refine hs_astore (i := 3) (p := 6) (by decide +kernel) (Nat.le_of_ble_eq_true rfl) ?_
  refine hs_iload (i := 2) (p := 7) (by decide +kernel) rfl ?_
  refine hs_k (x := (-1)) (p := 8) (by decide +kernel) ?_
  refine hs_br2 (c := .ne) (t := 20) (f := 11) (by decide +kernel) (fun _ => ?_) (fun hz => absurd (show ¬ ((Int32.ofNat r : Int32) = (-1)) from xi_nm1 (by omega)) hz)
  refine hs_aload (i := 0) (p := 21) (by decide +kernel) rfl ?_
  refine hs_aload (i := 3) (p := 22) (by decide +kernel) rfl ?_
  refine hs_aload (i := 0) (p := 23) (by decide +kernel) rfl ?_
  refine hs_iload (i := 2) (p := 24) (by decide +kernel) rfl ?_
  refine ht_callv (T := et_TT) (t := 12) (mi := 129) (na := 1) (ci := 10) (lk := 4) (lm := 2) (L0 := eg_en (eg_mL 129) [.ref th, .int (Int32.ofNat r)]) (by decide +kernel) rfl hH k_th rfl rfl rfl rfl rfl (by rw [show eg_mL 129 = 2 from by decide +kernel]; first | done | rfl) ?_
  refine (fd_needQ hH k_th h0 k_s0 r0 hrc r1 k_ra hr hR).mono (fun u hu => xp_cb hu ?_)
  show et_go none _ 157 27 _ [.ref q, .ref e, .ref th] _ _ _ _
  refine ht_callv (T := et_TT) (t := 12) (mi := 158) (na := 2) (ci := 10) (lk := 4) (lm := 6) (L0 := eg_en (eg_mL 158) [.ref th, .ref e, .ref q]) (by decide +kernel) rfl hH k_th rfl rfl rfl rfl rfl (by rw [show eg_mL 158 = 6 from by decide +kernel]; first | done | rfl) ?_
  refine (fc_bl hH k_th t9 hv k_q q0 k_bb hdn hTb hcl h4 k_fo h11 k_lk k_ks k_fs hne hlk.1 hlk.2.1 hlk.2.2.1 hFS9 hKS9 hle9 hp (by omega)).mono (fun u hu => ?_)
  obtain ⟨u1, u2, u3, u4⟩ := u
  obtain ⟨hu, hu2⟩ := hu
  have hu : u1 = .inl (some (.int (blI (cdV v) (ruN f)))) := hu
  subst hu
  refine hs_cb ?_
  show et_go none _ 157 30 _ [.int (blI (cdV v) (ruN f))] _ _ _ _
  refine hs_iret (by decide +kernel) ?_
  exact ⟨rfl, hu2⟩
theorem fd_blP (hH : et_H et_TT K G) (k_th : K th = some 12) (h0 : et_pl (eg_at G th) 0 = some (.ref s0)) (k_s0 : K s0 = some 10) (h5 : et_pl (eg_at G s0) 5 = some (.int (Int32.ofNat ec))) (hec : ec ≤ 3) (h6 : et_pl (eg_at G s0) 6 = some (.ref ya)) (k_ya : K ya = some 40) (hn : n < ec) (hE : et_pl (eg_at G ya) n = some (.ref e)) (t9 : evK K e ca ki kn v.1 v.2.2.1) (hv : evc G e ca ki kn v) (g2 : et_pl (eg_at G s0) 2 = some (.int (Int32.ofNat nc))) (hcc : ccP G s0 la ly nc X Y) (hnc : nc ≤ 20) (k_la : K la = some 17) (k_ly : K ly = some 27) (hd : 21 ≤ d2) : et_go none d2 157 0 (eg_en (eg_mL 157) [.ref th, .int (Int32.ofNat n), .int (-1)]) [] G 0 0 (xp_Z G (some (.int (bpV v X Y nc)))) := by
  obtain ⟨d, rfl⟩ : ∃ d, d2 = d + 21 := ⟨d2 - 21, by omega⟩
  have k_e := t9.1.1
  rw [show eg_mL 157 = 4 from by decide +kernel]
  show et_go none (d + 21) 157 0 [some (.ref th), some (.int (Int32.ofNat n)), some (.int (-1)), none] [] G 0 0 _
  have lt_th := (hH.2.2 _ _ k_th).1
  have lt_s0 := (hH.2.2 _ _ k_s0).1
  have lt_ya := (hH.2.2 _ _ k_ya).1
  have lt_e := (hH.2.2 _ _ k_e).1
  refine hs_aload (i := 0) (p := 1) (by decide +kernel) rfl ?_
  refine hs_iload (i := 1) (p := 2) (by decide +kernel) rfl ?_
  refine ht_callv (T := et_TT) (t := 12) (mi := 128) (na := 1) (ci := 10) (lk := 4) (lm := 2) (L0 := eg_en (eg_mL 128) [.ref th, .int (Int32.ofNat n)]) (by decide +kernel) rfl hH k_th rfl rfl rfl rfl rfl (by rw [show eg_mL 128 = 2 from by decide +kernel]; first | done | rfl) ?_
  refine (fd_needE hH k_th h0 k_s0 h5 hec h6 k_ya hn hE).mono (fun u hu => xp_cb hu ?_)
  show et_go none _ 157 5 _ [.ref e] _ _ _ _
  refine hs_astore (i := 3) (p := 6) (by decide +kernel) (Nat.le_of_ble_eq_true rfl) ?_
  refine hs_iload (i := 2) (p := 7) (by decide +kernel) rfl ?_
  refine hs_k (x := (-1)) (p := 8) (by decide +kernel) ?_
  refine hs_br2 (c := .ne) (t := 20) (f := 11) (by decide +kernel) (fun hz => absurd rfl hz) (fun _ => ?_)
  refine hs_aload (i := 0) (p := 12) (by decide +kernel) rfl ?_
  refine hf_get (T := et_TT) (t := 12) (ci := 10) (f := 0) (p := 15) (by decide +kernel) rfl hH k_th h0 ?_
  refine hs_aload (i := 3) (p := 16) (by decide +kernel) rfl ?_
  refine ht_callv (T := et_TT) (t := 10) (mi := 107) (na := 1) (ci := 8) (lk := 4) (lm := 5) (L0 := eg_en (eg_mL 107) [.ref s0, .ref e]) (by decide +kernel) rfl hH k_s0 rfl rfl rfl rfl rfl (by rw [show eg_mL 107 = 5 from by decide +kernel]; first | done | rfl) ?_
  refine (fd_bp hH t9 hv k_s0 k_la k_ly g2 hcc hnc (by omega)).mono (fun u hu => xp_cb hu ?_)
  show et_go none _ 157 19 _ [.int (bpV v X Y nc)] _ _ _ _
  refine hs_iret (by decide +kernel) ?_
  rfl
theorem fd_blR (hH : et_H et_TT K G) (k_th : K th = some 12) (h0 : et_pl (eg_at G th) 0 = some (.ref s0)) (k_s0 : K s0 = some 10) (h5 : et_pl (eg_at G s0) 5 = some (.int (Int32.ofNat ec))) (hec : ec ≤ 3) (h6 : et_pl (eg_at G s0) 6 = some (.ref ya)) (k_ya : K ya = some 40) (hn : n < ec) (hE : et_pl (eg_at G ya) n = some (.ref e)) (r0 : et_pl (eg_at G s0) 0 = some (.int (Int32.ofNat rc))) (hrc : rc ≤ 4) (r1 : et_pl (eg_at G s0) 1 = some (.ref ra)) (k_ra : K ra = some 37) (hRn : ∀ n, n < rc → ∃ q, et_pl (eg_at G ra) n = some (.ref q)) (hy : ¬ xr y rc) (hy1 : ¬ y = (-1)) (hd : 20 ≤ d2) : et_go none d2 157 0 (eg_en (eg_mL 157) [.ref th, .int (Int32.ofNat n), .int y]) [] G 0 0 (ix_Z 1 G) := by
  obtain ⟨d, rfl⟩ : ∃ d, d2 = d + 20 := ⟨d2 - 20, by omega⟩
  rw [show eg_mL 157 = 4 from by decide +kernel]
  show et_go none (d + 20) 157 0 [some (.ref th), some (.int (Int32.ofNat n)), some (.int y), none] [] G 0 0 _
  have lt_th := (hH.2.2 _ _ k_th).1
  have lt_s0 := (hH.2.2 _ _ k_s0).1
  have lt_ya := (hH.2.2 _ _ k_ya).1
  have lt_ra := (hH.2.2 _ _ k_ra).1
  refine hs_aload (i := 0) (p := 1) (by decide +kernel) rfl ?_
  refine hs_iload (i := 1) (p := 2) (by decide +kernel) rfl ?_
  refine ht_callv (T := et_TT) (t := 12) (mi := 128) (na := 1) (ci := 10) (lk := 4) (lm := 2) (L0 := eg_en (eg_mL 128) [.ref th, .int (Int32.ofNat n)]) (by decide +kernel) rfl hH k_th rfl rfl rfl rfl rfl (by rw [show eg_mL 128 = 2 from by decide +kernel]; first | done | rfl) ?_
  refine (fd_needE hH k_th h0 k_s0 h5 hec h6 k_ya hn hE).mono (fun u hu => xp_cb hu ?_)
  show et_go none _ 157 5 _ [.ref e] _ _ _ _
  refine hs_astore (i := 3) (p := 6) (by decide +kernel) (Nat.le_of_ble_eq_true rfl) ?_
  refine hs_iload (i := 2) (p := 7) (by decide +kernel) rfl ?_
  refine hs_k (x := (-1)) (p := 8) (by decide +kernel) ?_
  refine hs_br2 (c := .ne) (t := 20) (f := 11) (by decide +kernel) (fun (c8 : ¬ y = (-1)) => ?_) (fun (c8 : ¬ (¬ y = (-1))) => ?_)
  · refine hs_aload (i := 0) (p := 21) (by decide +kernel) rfl ?_
    refine hs_aload (i := 3) (p := 22) (by decide +kernel) rfl ?_
    refine hs_aload (i := 0) (p := 23) (by decide +kernel) rfl ?_
    refine hs_iload (i := 2) (p := 24) (by decide +kernel) rfl ?_
    refine ht_callv (T := et_TT) (t := 12) (mi := 129) (na := 1) (ci := 10) (lk := 4) (lm := 2) (L0 := eg_en (eg_mL 129) [.ref th, .int y]) (by decide +kernel) rfl hH k_th rfl rfl rfl rfl rfl (by rw [show eg_mL 129 = 2 from by decide +kernel]; first | done | rfl) ?_
    refine (fd_needQn hH k_th h0 k_s0 r0 hrc r1 k_ra hRn hy).mono (fun u hu => ?_)
    obtain ⟨c24, s24, rfl⟩ := hu
    refine hf_cx (by decide +kernel) ?_
    exact ⟨_, _, rfl⟩
  · exact absurd (Decidable.of_not_not c8) hy1
theorem fd_blE (hH : et_H et_TT K G) (k_th : K th = some 12) (h0 : et_pl (eg_at G th) 0 = some (.ref s0)) (k_s0 : K s0 = some 10) (h5 : et_pl (eg_at G s0) 5 = some (.int (Int32.ofNat ec))) (hec : ec ≤ 3) (h6 : et_pl (eg_at G s0) 6 = some (.ref ya)) (k_ya : K ya = some 40) (hx : ¬ xr x ec) (hd : 20 ≤ d2) : et_go none d2 157 0 (eg_en (eg_mL 157) [.ref th, .int x, .int y]) [] G 0 0 (ix_Z 1 G) := by
  obtain ⟨d, rfl⟩ : ∃ d, d2 = d + 20 := ⟨d2 - 20, by omega⟩
  rw [show eg_mL 157 = 4 from by decide +kernel]
  show et_go none (d + 20) 157 0 [some (.ref th), some (.int x), some (.int y), none] [] G 0 0 _
  have lt_th := (hH.2.2 _ _ k_th).1
  have lt_s0 := (hH.2.2 _ _ k_s0).1
  have lt_ya := (hH.2.2 _ _ k_ya).1
  refine hs_aload (i := 0) (p := 1) (by decide +kernel) rfl ?_
  refine hs_iload (i := 1) (p := 2) (by decide +kernel) rfl ?_
  refine ht_callv (T := et_TT) (t := 12) (mi := 128) (na := 1) (ci := 10) (lk := 4) (lm := 2) (L0 := eg_en (eg_mL 128) [.ref th, .int x]) (by decide +kernel) rfl hH k_th rfl rfl rfl rfl rfl (by rw [show eg_mL 128 = 2 from by decide +kernel]; first | done | rfl) ?_
  refine (fd_needEn hH k_th h0 k_s0 h5 hec h6 k_ya hx).mono (fun u hu => ?_)
  obtain ⟨c2, s2, rfl⟩ := hu
  refine hf_cx (by decide +kernel) ?_
  exact ⟨_, _, rfl⟩
theorem fh_blR (hH : et_H et_TT K G) (k_th : K th = some 12) (h0 : et_pl (eg_at G th) 0 = some (.ref s0)) (k_s0 : K s0 = some 10) (h5 : et_pl (eg_at G s0) 5 = some (.int (Int32.ofNat ec))) (hec : ec ≤ 3) (h6 : et_pl (eg_at G s0) 6 = some (.ref ya)) (k_ya : K ya = some 40) (hn : n < ec) (hE : et_pl (eg_at G ya) n = some (.ref e)) (r0 : et_pl (eg_at G s0) 0 = some (.int (Int32.ofNat rc))) (hrc : rc ≤ 4) (r1 : et_pl (eg_at G s0) 1 = some (.ref ra)) (k_ra : K ra = some 37) (hRn : ∀ n, n < rc → ∃ q, et_pl (eg_at G ra) n = some (.ref q)) (hy : ¬ xr y rc) (hy1 : ¬ y = (-1)) (hd : 21 ≤ d2) : et_go none d2 18 0 (eg_en (eg_mL 18) [.ref th, .int (Int32.ofNat n), .int y, .ref out]) [] G 0 0 (fun u => u.1 = .inl (some (.int (Int32.ofNat 1))) ∧ u.2.1 = G) := by
  obtain ⟨d, rfl⟩ : ∃ d, d2 = d + 21 := ⟨d2 - 21, by omega⟩
  rw [show eg_mL 18 = 5 from by decide +kernel]
  show et_go none (d + 21) 18 0 [some (.ref th), some (.int (Int32.ofNat n)), some (.int y), some (.ref out), none] [] G 0 0 _
  have lt_th := (hH.2.2 _ _ k_th).1
  refine hs_aload (i := 3) (p := 1) (by decide +kernel) rfl ?_
  refine hs_k (x := Int32.ofNat 0) (p := 2) (by decide +kernel) ?_
  refine hs_aload (i := 0) (p := 3) (by decide +kernel) rfl ?_
  refine hs_iload (i := 1) (p := 4) (by decide +kernel) rfl ?_
  refine hs_iload (i := 2) (p := 5) (by decide +kernel) rfl ?_
  refine ht_callv (T := et_TT) (t := 12) (mi := 157) (na := 2) (ci := 10) (lk := 5) (lm := 4) (L0 := eg_en (eg_mL 157) [.ref th, .int (Int32.ofNat n), .int y]) (by decide +kernel) rfl hH k_th rfl rfl rfl rfl rfl (by rw [show eg_mL 157 = 4 from by decide +kernel]; first | done | rfl) ?_
  refine (fd_blR hH k_th h0 k_s0 h5 hec h6 k_ya hn hE r0 hrc r1 k_ra hRn hy hy1 (by omega)).mono (fun u hu => ?_)
  obtain ⟨c5, s5, rfl⟩ := hu
  refine hs_ch (h := 13) (i := 4) (n := 2) (hh := (eg_mh 18).getD []) (by decide +kernel) ⟨by decide +kernel, by decide +kernel⟩ (Nat.le_of_ble_eq_true rfl) ?_
  show et_go none _ 18 15 [some (.ref th), some (.int (Int32.ofNat n)), some (.int y), some (.ref out), none] [] _ _ _ _
  refine hs_k (x := Int32.ofNat 1) (p := 16) (by decide +kernel) ?_
  refine hs_iret (by decide +kernel) ?_
  exact ⟨rfl, rfl⟩
theorem fh_blE (hH : et_H et_TT K G) (k_th : K th = some 12) (h0 : et_pl (eg_at G th) 0 = some (.ref s0)) (k_s0 : K s0 = some 10) (h5 : et_pl (eg_at G s0) 5 = some (.int (Int32.ofNat ec))) (hec : ec ≤ 3) (h6 : et_pl (eg_at G s0) 6 = some (.ref ya)) (k_ya : K ya = some 40) (hx : ¬ xr x ec) (hd : 21 ≤ d2) : et_go none d2 18 0 (eg_en (eg_mL 18) [.ref th, .int x, .int y, .ref out]) [] G 0 0 (fun u => u.1 = .inl (some (.int (Int32.ofNat 1))) ∧ u.2.1 = G) := by
  obtain ⟨d, rfl⟩ : ∃ d, d2 = d + 21 := ⟨d2 - 21, by omega⟩
  rw [show eg_mL 18 = 5 from by decide +kernel]
  show et_go none (d + 21) 18 0 [some (.ref th), some (.int x), some (.int y), some (.ref out), none] [] G 0 0 _
  have lt_th := (hH.2.2 _ _ k_th).1
  refine hs_aload (i := 3) (p := 1) (by decide +kernel) rfl ?_
  refine hs_k (x := Int32.ofNat 0) (p := 2) (by decide +kernel) ?_
  refine hs_aload (i := 0) (p := 3) (by decide +kernel) rfl ?_
  refine hs_iload (i := 1) (p := 4) (by decide +kernel) rfl ?_
  refine hs_iload (i := 2) (p := 5) (by decide +kernel) rfl ?_
  refine ht_callv (T := et_TT) (t := 12) (mi := 157) (na := 2) (ci := 10) (lk := 5) (lm := 4) (L0 := eg_en (eg_mL 157) [.ref th, .int x, .int y]) (by decide +kernel) rfl hH k_th rfl rfl rfl rfl rfl (by rw [show eg_mL 157 = 4 from by decide +kernel]; first | done | rfl) ?_
  refine (fd_blE hH k_th h0 k_s0 h5 hec h6 k_ya hx (by omega)).mono (fun u hu => ?_)
  obtain ⟨c5, s5, rfl⟩ := hu
  refine hs_ch (h := 13) (i := 4) (n := 2) (hh := (eg_mh 18).getD []) (by decide +kernel) ⟨by decide +kernel, by decide +kernel⟩ (Nat.le_of_ble_eq_true rfl) ?_
  show et_go none _ 18 15 [some (.ref th), some (.int x), some (.int y), some (.ref out), none] [] _ _ _ _
  refine hs_k (x := Int32.ofNat 1) (p := 16) (by decide +kernel) ?_
  refine hs_iret (by decide +kernel) ?_
  exact ⟨rfl, rfl⟩
theorem fh_blP (hH : et_H et_TT K G) (k_th : K th = some 12) (h0 : et_pl (eg_at G th) 0 = some (.ref s0)) (k_s0 : K s0 = some 10) (h5 : et_pl (eg_at G s0) 5 = some (.int (Int32.ofNat ec))) (hec : ec ≤ 3) (h6 : et_pl (eg_at G s0) 6 = some (.ref ya)) (k_ya : K ya = some 40) (hn : n < ec) (hE : et_pl (eg_at G ya) n = some (.ref e)) (t9 : evK K e ca ki kn v.1 v.2.2.1) (hv : evc G e ca ki kn v) (g2 : et_pl (eg_at G s0) 2 = some (.int (Int32.ofNat nc))) (hcc : ccP G s0 la ly nc X Y) (hnc : nc ≤ 20) (k_la : K la = some 17) (k_ly : K ly = some 27) (k_lk : K lk = some 5) (k_ks : K ks = some 23) (k_fs : K fs = some 23) (hne : ¬ ks = fs) (hlk : lkR G lk ks fs p) (k_out : K out = some 31) (hd : 22 ≤ d2) : et_go none d2 18 0 (eg_en (eg_mL 18) [.ref th, .int (Int32.ofNat n), .int (-1), .ref out]) [] G 0 0 (fun u => u.1 = .inl (some (.int (Int32.ofNat 0))) ∧ et_pl (eg_at u.2.1 out) 0 = some (.long (bpV v X Y nc).toInt64) ∧ lkR u.2.1 lk ks fs p) := by
  obtain ⟨d, rfl⟩ : ∃ d, d2 = d + 22 := ⟨d2 - 22, by omega⟩
  rw [show eg_mL 18 = 5 from by decide +kernel]
  show et_go none (d + 22) 18 0 [some (.ref th), some (.int (Int32.ofNat n)), some (.int (-1)), some (.ref out), none] [] G 0 0 _
  have lt_th := (hH.2.2 _ _ k_th).1
  have lt_out := (hH.2.2 _ _ k_out).1
  refine hs_aload (i := 3) (p := 1) (by decide +kernel) rfl ?_
  refine hs_k (x := Int32.ofNat 0) (p := 2) (by decide +kernel) ?_
  refine hs_aload (i := 0) (p := 3) (by decide +kernel) rfl ?_
  refine hs_iload (i := 1) (p := 4) (by decide +kernel) rfl ?_
  refine hs_iload (i := 2) (p := 5) (by decide +kernel) rfl ?_
  refine ht_callv (T := et_TT) (t := 12) (mi := 157) (na := 2) (ci := 10) (lk := 5) (lm := 4) (L0 := eg_en (eg_mL 157) [.ref th, .int (Int32.ofNat n), .int (-1)]) (by decide +kernel) rfl hH k_th rfl rfl rfl rfl rfl (by rw [show eg_mL 157 = 4 from by decide +kernel]; first | done | rfl) ?_
  refine (fd_blP hH k_th h0 k_s0 h5 hec h6 k_ya hn hE t9 hv g2 hcc hnc k_la k_ly (by omega)).mono (fun u hu => xp_cb hu ?_)
  show et_go none _ 18 8 _ [.int (bpV v X Y nc), .int (Int32.ofNat 0), .ref out] _ _ _ _
  refine hs_i2l (p := 9) (by decide +kernel) ?_
  have hHo := hH
  have hHo := hH
  refine hf_lst (T := et_TT) (t := 31) (N := 1) (p := 10) (by decide +kernel) rfl rfl hH k_out (by omega) (by decide) (fun G9 hH x9 e9 => ?_)
  have hlk2 := hlk.xs x9 (hHo.2.2 _ _ k_lk).1 (hHo.2.2 _ _ k_fs).1 (fun j h => hi_ne k_lk k_out (by decide) h.1) (fun j h => hi_ne k_fs k_out (by decide) h.1)
  refine hs_goto (p := 17) (by decide +kernel) ?_
  refine hs_k (x := Int32.ofNat 0) (p := 18) (by decide +kernel) ?_
  refine hs_iret (by decide +kernel) ?_
  exact ⟨rfl, e9, hlk2⟩
theorem fh_bl (hH : et_H et_TT K G) (k_th : K th = some 12) (h0 : et_pl (eg_at G th) 0 = some (.ref s0)) (k_s0 : K s0 = some 10) (h5 : et_pl (eg_at G s0) 5 = some (.int (Int32.ofNat ec))) (hec : ec ≤ 3) (h6 : et_pl (eg_at G s0) 6 = some (.ref ya)) (k_ya : K ya = some 40) (hn : n < ec) (hE : et_pl (eg_at G ya) n = some (.ref e)) (t9 : evK K e ca ki kn v.1 v.2.2.1) (hv : evc G e ca ki kn v) (r0 : et_pl (eg_at G s0) 0 = some (.int (Int32.ofNat rc))) (hrc : rc ≤ 4) (r1 : et_pl (eg_at G s0) 1 = some (.ref ra)) (k_ra : K ra = some 37) (hr : r < rc) (hR : et_pl (eg_at G ra) r = some (.ref q)) (k_q : K q = some 8) (q0 : et_pl (eg_at G q) 0 = some (.ref bb)) (k_bb : K bb = some 6) (hdn : dn G 15 lo hi bb f) (hTb : tbP G q f) (hcl : fcl f) (h4 : et_pl (eg_at G th) 4 = some (.ref fo)) (k_fo : K fo = some 4) (h11 : et_pl (eg_at G th) 11 = some (.ref lk)) (k_lk : K lk = some 5) (k_ks : K ks = some 23) (k_fs : K fs = some 23) (hne : ¬ ks = fs) (hlk : lkR G lk ks fs p) (hp : p < 32767) (k_out : K out = some 31) (hd : 35 ≤ d2) : et_go none d2 18 0 (eg_en (eg_mL 18) [.ref th, .int (Int32.ofNat n), .int (Int32.ofNat r), .ref out]) [] G 0 0 (fun u => u.1 = .inl (some (.int (Int32.ofNat 0))) ∧ et_pl (eg_at u.2.1 out) 0 = some (.long (blI (cdV v) (ruN f)).toInt64) ∧ lkR u.2.1 lk ks fs (p + 1)) := by
  obtain ⟨d, rfl⟩ : ∃ d, d2 = d + 35 := ⟨d2 - 35, by omega⟩
  rw [show eg_mL 18 = 5 from by decide +kernel]
  show et_go none (d + 35) 18 0 [some (.ref th), some (.int (Int32.ofNat n)), some (.int (Int32.ofNat r)), some (.ref out), none] [] G 0 0 _
  refine hs_aload (i := 3) (p := 1) (by decide +kernel) rfl ?_
  refine hs_k (x := Int32.ofNat 0) (p := 2) (by decide +kernel) ?_
  refine hs_aload (i := 0) (p := 3) (by decide +kernel) rfl ?_
  refine hs_iload (i := 1) (p := 4) (by decide +kernel) rfl ?_
  refine hs_iload (i := 2) (p := 5) (by decide +kernel) rfl ?_
  refine ht_callv (T := et_TT) (t := 12) (mi := 157) (na := 2) (ci := 10) (lk := 5) (lm := 4) (L0 := eg_en (eg_mL 157) [.ref th, .int (Int32.ofNat n), .int (Int32.ofNat r)]) (by decide +kernel) rfl hH k_th rfl rfl rfl rfl rfl (by rw [show eg_mL 157 = 4 from by decide +kernel]; first | done | rfl) ?_
  refine ((ek_p157_ok (K, [], G) [.ref th, .int (Int32.ofNat n), .int (Int32.ofNat r)] _ hH (by show 34 ≤ _; omega) rfl (ht_ac (.inr ⟨by decide, _, rfl, k_th⟩) (ht_ac hi_any (ht_ac hi_any ht_an)))).and (fd_bl hH k_th h0 k_s0 h5 hec h6 k_ya hn hE t9 hv r0 hrc r1 k_ra hr hR k_q q0 k_bb hdn hTb hcl h4 k_fo h11 k_lk k_ks k_fs hne hlk hp (by omega))).mono (fun u hu => ?_)
  obtain ⟨⟨es, hes, K1, hx1, hf1, hH1, hv1, -, -⟩, hz, hlk1⟩ := hu
  obtain ⟨u1, u2, u3, u4⟩ := u
  have hz : u1 = .inl (some (.int (blI (cdV v) (ruN f)))) := hz
  subst hz
  rcases List.mem_cons.mp hes with rfl | hes
  · have hH := hH1
    have k_out := hx1 _ _ k_out; have k_lk := hx1 _ _ k_lk; have k_fs := hx1 _ _ k_fs; have hlk1 : lkR u2 lk ks fs (p + 1) := hlk1
    refine hs_cb ?_
    show et_go none _ 18 8 _ [.int (blI (cdV v) (ruN f)), .int (Int32.ofNat 0), .ref out] _ _ _ _
    refine hs_i2l (p := 9) (by decide +kernel) ?_
    have hHo := hH
    refine hf_lst (T := et_TT) (t := 31) (N := 1) (p := 10) (by decide +kernel) rfl rfl hH k_out (by omega) (by decide) (fun G9 hH x9 e9 => ?_)
    have hlk2 := hlk1.xs x9 (hHo.2.2 _ _ k_lk).1 (hHo.2.2 _ _ k_fs).1 (fun j h => hi_ne k_lk k_out (by decide) h.1) (fun j h => hi_ne k_fs k_out (by decide) h.1)
    refine hs_goto (p := 17) (by decide +kernel) ?_
    refine hs_k (x := Int32.ofNat 0) (p := 18) (by decide +kernel) ?_
    refine hs_iret (by decide +kernel) ?_
    exact ⟨rfl, e9, hlk2⟩
  · obtain rfl := List.mem_singleton.mp hes
    have hv1 : (Sum.inl (some (Value.int (blI (cdV v) (ruN f)))) : eg_R) = .inr 1 := hv1
    cases hv1
end ARB
