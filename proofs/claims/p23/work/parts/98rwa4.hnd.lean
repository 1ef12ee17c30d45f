section
/-! BY HAND: constructors: which arrays hold the cards -/
section PPH
variable {K : et_K} {G : eg_G} {a : Nat}
theorem pi_state4 {d2 : Nat} (hu : puc K G a (.inr (8, [.int 0, .null, .int 0, .null, .null, .int 0, .null, .int 0, .null, .int 0, .null]))) (hd : 1 ≤ d2) : et_go none d2 101 0 (eg_en (eg_mL 101) [.ref a]) [] G 0 0 (pi_Z K G a 10 18 135 (fun K' G' => ∃ ra ca, et_pl (eg_at G' a) 1 = some (.ref ra) ∧ et_pl (eg_at G' a) 10 = some (.ref ca) ∧ G.2 ≤ ra ∧ G.2 ≤ ca ∧ K' ra = some 37 ∧ K' ca = some 39 ∧ et_pl (eg_at G' a) 0 = some (.int (Int32.ofNat 0)) ∧ et_pl (eg_at G' a) 5 = some (.int (Int32.ofNat 0)) ∧ et_pl (eg_at G' a) 9 = some (.int (Int32.ofNat 0)) ∧ et_pl (eg_at G' a) 2 = some (.int (Int32.ofNat 0)) ∧ et_pl (eg_at G' a) 7 = some (.int (Int32.ofNat 0)) ∧ ∃ la ya, et_pl (eg_at G' a) 3 = some (.ref la) ∧ et_pl (eg_at G' a) 4 = some (.ref ya) ∧ K' la = some 17 ∧ K' ya = some 27 ∧ G.2 ≤ la ∧ G.2 ≤ ya)) := by
  obtain ⟨d, rfl⟩ : ∃ d, d2 = d + 1 := ⟨d2 - 1, by omega⟩
  have hq : pq a K G K G := pq.rf
  have hua := hu.2.2.2.1
  have hq0 : G.2 ≤ G.2 := Nat.le_refl _
  rw [show eg_mL 101 = 2 from by decide +kernel]
  show et_go none (d + 1) 101 0 [some (.ref a), none] [] G 0 0 _
  refine hs_aload (i := 0) (p := 1) (by decide +kernel) rfl ?_
  refine hs_skip (lk := 2) (p := 4) (by decide +kernel) rfl rfl ?_
  refine hs_aload (i := 0) (p := 5) (by decide +kernel) rfl ?_
  refine hs_k (x := Int32.ofNat 4) (p := 6) (by decide +kernel) ?_
  have hHo := hu.1
  refine ht_nb (t := 37) (n := 4) (kd := 5) (p := 9) (by decide +kernel) rfl (by decide +kernel) ⟨by decide +kernel, by decide +kernel, by decide +kernel⟩ (by omega) (by omega) hu.1 (fun K6 G6 b6 hk hH k_b6 hg_b6 hz_b6 => ?_)
  have hg_b6 := Nat.le_trans hq.1 hg_b6
  have hu := hk.un hH hu
  have hq := hq.mo hk
  have hu0 := hu
  refine hs_puti (ci := 8) (f := 1) (ty := .array (.object "KnobEye$Rule")) (v := .ref b6) (p := 12) (by decide +kernel) hu (Nat.le_of_ble_eq_true rfl) rfl (fun G9 hu he e2 => ?_)
  have hu : puc _ _ a (.inr (8, [.int 0, .ref b6, .int 0, .null, .null, .int 0, .null, .int 0, .null, .int 0, .null])) := hu
  have hq := hq.pt he e2
  refine hs_aload (i := 0) (p := 13) (by decide +kernel) rfl ?_
  refine hs_k (x := Int32.ofNat 20) (p := 15) (by decide +kernel) ?_
  have hHo := hu.1
  refine ht_nb (t := 17) (n := 20) (kd := 0) (p := 17) (by decide +kernel) rfl (by decide +kernel) ⟨by decide +kernel, by decide +kernel, by decide +kernel⟩ (by omega) (by omega) hu.1 (fun K15 G15 b15 hk hH k_b15 hg_b15 hz_b15 => ?_)
  have hg_b15 := Nat.le_trans hq.1 hg_b15
  have hu := hk.un hH hu
  have hq := hq.mo hk
  have k_b6 := hk.ty hHo k_b6
  have hu0 := hu
  refine hs_puti (ci := 8) (f := 3) (ty := .array .int) (v := .ref b15) (p := 20) (by decide +kernel) hu (Nat.le_of_ble_eq_true rfl) rfl (fun G17 hu he e2 => ?_)
  have hu : puc _ _ a (.inr (8, [.int 0, .ref b6, .int 0, .ref b15, .null, .int 0, .null, .int 0, .null, .int 0, .null])) := hu
  have hq := hq.pt he e2
  refine hs_aload (i := 0) (p := 21) (by decide +kernel) rfl ?_
  refine hs_k (x := Int32.ofNat 20) (p := 23) (by decide +kernel) ?_
  have hHo := hu.1
  refine ht_nb (t := 27) (n := 20) (kd := 3) (p := 25) (by decide +kernel) rfl (by decide +kernel) ⟨by decide +kernel, by decide +kernel, by decide +kernel⟩ (by omega) (by omega) hu.1 (fun K23 G23 b23 hk hH k_b23 hg_b23 hz_b23 => ?_)
  have hg_b23 := Nat.le_trans hq.1 hg_b23
  have hu := hk.un hH hu
  have hq := hq.mo hk
  have k_b6 := hk.ty hHo k_b6
  have k_b15 := hk.ty hHo k_b15
  have hu0 := hu
  refine hs_puti (ci := 8) (f := 4) (ty := .array .boolean) (v := .ref b23) (p := 28) (by decide +kernel) hu (Nat.le_of_ble_eq_true rfl) rfl (fun G25 hu he e2 => ?_)
  have hu : puc _ _ a (.inr (8, [.int 0, .ref b6, .int 0, .ref b15, .ref b23, .int 0, .null, .int 0, .null, .int 0, .null])) := hu
  have hq := hq.pt he e2
  refine hs_aload (i := 0) (p := 29) (by decide +kernel) rfl ?_
  refine hs_k (x := Int32.ofNat 3) (p := 30) (by decide +kernel) ?_
  have hHo := hu.1
  refine ht_nr (n := 3) (kd := 6) (p := 33) (by decide +kernel) (by decide) ⟨by decide +kernel, by decide +kernel, by decide +kernel⟩ (by omega) (by omega) hu.1 (fun G30 b30 hk hg hv => ?_)
  have hne : ¬ b30 = a := fun e => by have h9 := hu.2.2.2.1; omega
  have hg := Nat.le_trans hq.1 hg
  have hu := hk.un hv.1 hu
  have hq := hq.mo hk
  have k_b6 := hk.ty hHo k_b6
  have k_b15 := hk.ty hHo k_b15
  have k_b23 := hk.ty hHo k_b23
  have hu0 := hu
  refine hs_puti (ci := 8) (f := 6) (ty := .array (.object "KnobEye$Eye")) (v := .ref b30) (p := 36) (by decide +kernel) hu (Nat.le_of_ble_eq_true rfl) rfl (fun G33 hu he e2 => ?_)
  have hu : puc _ _ a (.inr (8, [.int 0, .ref b6, .int 0, .ref b15, .ref b23, .int 0, .ref b30, .int 0, .null, .int 0, .null])) := hu
  have hq := hq.pt he e2
  have hv := puc_st hv hu.1 he e2 hne
  refine hs_aload (i := 0) (p := 37) (by decide +kernel) rfl ?_
  refine hs_k (x := Int32.ofNat 4) (p := 38) (by decide +kernel) ?_
  have hHo := hu.1
  refine ht_nb (t := 38) (n := 4) (kd := 7) (p := 41) (by decide +kernel) rfl (by decide +kernel) ⟨by decide +kernel, by decide +kernel, by decide +kernel⟩ (by omega) (by omega) hu.1 (fun K38 G38 b38 hk hH k_b38 hg_b38 hz_b38 => ?_)
  have hg_b38 := Nat.le_trans hq.1 hg_b38
  have hv := hk.un hH hv
  have hu := hk.un hH hu
  have hq := hq.mo hk
  have k_b6 := hk.ty hHo k_b6
  have k_b15 := hk.ty hHo k_b15
  have k_b23 := hk.ty hHo k_b23
  have hu0 := hu
  refine hs_puti (ci := 8) (f := 8) (ty := .array (.object "KnobEye$Turner")) (v := .ref b38) (p := 44) (by decide +kernel) hu (Nat.le_of_ble_eq_true rfl) rfl (fun G41 hu he e2 => ?_)
  have hu : puc _ _ a (.inr (8, [.int 0, .ref b6, .int 0, .ref b15, .ref b23, .int 0, .ref b30, .int 0, .ref b38, .int 0, .null])) := hu
  have hq := hq.pt he e2
  have hv := puc_st hv hu.1 he e2 hne
  refine hs_aload (i := 0) (p := 45) (by decide +kernel) rfl ?_
  refine hs_k (x := Int32.ofNat 6) (p := 47) (by decide +kernel) ?_
  have hHo := hu.1
  refine ht_nb (t := 39) (n := 6) (kd := 8) (p := 50) (by decide +kernel) rfl (by decide +kernel) ⟨by decide +kernel, by decide +kernel, by decide +kernel⟩ (by omega) (by omega) hu.1 (fun K47 G47 b47 hk hH k_b47 hg_b47 hz_b47 => ?_)
  have hg_b47 := Nat.le_trans hq.1 hg_b47
  have hv := hk.un hH hv
  have hu := hk.un hH hu
  have hq := hq.mo hk
  have k_b6 := hk.ty hHo k_b6
  have k_b15 := hk.ty hHo k_b15
  have k_b23 := hk.ty hHo k_b23
  have k_b38 := hk.ty hHo k_b38
  have hu0 := hu
  refine hs_puti (ci := 8) (f := 10) (ty := .array (.object "KnobEye$Claim")) (v := .ref b47) (p := 53) (by decide +kernel) hu (Nat.le_of_ble_eq_true rfl) rfl (fun G50 hu he e2 => ?_)
  have hu : puc _ _ a (.inr (8, [.int 0, .ref b6, .int 0, .ref b15, .ref b23, .int 0, .ref b30, .int 0, .ref b38, .int 0, .ref b47])) := hu
  have hq := hq.pt he e2
  have hv := puc_st hv hu.1 he e2 hne
  refine hs_k (x := Int32.ofNat 0) (p := 54) (by decide +kernel) ?_
  refine hs_istore (i := 1) (p := 55) (by decide +kernel) (Nat.le_of_ble_eq_true rfl) ?_
  refine hs_iload (i := 1) (p := 56) (by decide +kernel) rfl ?_
  refine hs_k (x := Int32.ofNat 3) (p := 57) (by decide +kernel) ?_
  refine hs_br2n (c := .ge) (t := 79) (f := 60) (by decide +kernel) (by omega) (by omega) (fun h => absurd h (show ¬ (3 ≤ 0) by decide)) (fun _ => ?_)
  refine hs_aload (i := 0) (p := 61) (by decide +kernel) rfl ?_
  refine hs_get (ci := 8) (f := 6) (p := 64) (v := .ref b30) (by decide +kernel) hu.2.2.2.2 hu.2.2.2.1 rfl ?_
  refine hs_iload (i := 1) (p := 65) (by decide +kernel) rfl ?_
  have hHo := hu.1
  refine ht_newV (ci := 1) (n := 8) (fs := [.int 0, .null, .null, .null, .int 0, .int 0, .int 0, .int 0]) (p := 68) (by decide +kernel) (by omega) (by omega) (by decide +kernel) (by decide +kernel) hu.1 (fun G65 o0 ho hge hlt he => ?_)
  refine hs_dup1 (p := 69) (by decide +kernel) ?_
  refine hs_callp (mi := 31) (na := 0) (lk := 2) (lm := 1) (L0 := eg_en (eg_mL 31) [.ref o0]) (by decide +kernel) rfl rfl rfl rfl rfl (by rw [show eg_mL 31 = 1 from by decide +kernel]; first | done | rfl) ?_
  refine (pi_eye ho (by omega)).mono (fun u hZ => pi_cb hZ (fun K69 G69 hq2 hH k_o0 hP => ?_))
  have hk := pk_of hq2 hge hlt he
  have hv := hk.un hH hv
  have hu := hk.un hH hu
  have hq := hq.mo hk
  have k_b6 := hk.ty hHo k_b6
  have k_b15 := hk.ty hHo k_b15
  have k_b23 := hk.ty hHo k_b23
  have k_b38 := hk.ty hHo k_b38
  have k_b47 := hk.ty hHo k_b47
  show et_go none _ 101 72 _ [.ref o0, .int (Int32.ofNat 0), .ref b30] _ 10 83 _
  refine ht_wri (n := 3) (kd := 6) (u := 3) (cj := 1) (p := 73) (by decide +kernel) (by decide +kernel) rfl hv (by decide) k_o0 (fun G72 hv he e2 => ?_)
  have hu := puc_st hu hv.1 he e2 (fun e => hne e.symm)
  have hq := hq.sw hg he e2
  refine hs_iinc1 (i := 1) (p := 76) (by decide +kernel) rfl (Nat.le_of_ble_eq_true rfl) ?_
  show et_go none _ 101 76 [some (.ref a), some (.int (Int32.ofNat 1))] [] _ _ _ _
  refine hs_goto (p := 55) (by decide +kernel) ?_
  refine hs_iload (i := 1) (p := 56) (by decide +kernel) rfl ?_
  refine hs_k (x := Int32.ofNat 3) (p := 57) (by decide +kernel) ?_
  refine hs_br2n (c := .ge) (t := 79) (f := 60) (by decide +kernel) (by omega) (by omega) (fun h => absurd h (show ¬ (3 ≤ 1) by decide)) (fun _ => ?_)
  refine hs_aload (i := 0) (p := 61) (by decide +kernel) rfl ?_
  refine hs_get (ci := 8) (f := 6) (p := 64) (v := .ref b30) (by decide +kernel) hu.2.2.2.2 hu.2.2.2.1 rfl ?_
  refine hs_iload (i := 1) (p := 65) (by decide +kernel) rfl ?_
  have hHo := hu.1
  refine ht_newV (ci := 1) (n := 8) (fs := [.int 0, .null, .null, .null, .int 0, .int 0, .int 0, .int 0]) (p := 68) (by decide +kernel) (by omega) (by omega) (by decide +kernel) (by decide +kernel) hu.1 (fun G65 o1 ho hge hlt he => ?_)
  refine hs_dup1 (p := 69) (by decide +kernel) ?_
  refine hs_callp (mi := 31) (na := 0) (lk := 2) (lm := 1) (L0 := eg_en (eg_mL 31) [.ref o1]) (by decide +kernel) rfl rfl rfl rfl rfl (by rw [show eg_mL 31 = 1 from by decide +kernel]; first | done | rfl) ?_
  refine (pi_eye ho (by omega)).mono (fun u hZ => pi_cb hZ (fun K69 G69 hq2 hH k_o1 hP => ?_))
  have hk := pk_of hq2 hge hlt he
  have hv := hk.un hH hv
  have hu := hk.un hH hu
  have hq := hq.mo hk
  have k_b6 := hk.ty hHo k_b6
  have k_b15 := hk.ty hHo k_b15
  have k_b23 := hk.ty hHo k_b23
  have k_b38 := hk.ty hHo k_b38
  have k_b47 := hk.ty hHo k_b47
  have k_o0 := hk.ty hHo k_o0
  show et_go none _ 101 72 _ [.ref o1, .int (Int32.ofNat 1), .ref b30] _ 14 109 _
  refine ht_wri (n := 3) (kd := 6) (u := 3) (cj := 1) (p := 73) (by decide +kernel) (by decide +kernel) rfl hv (by decide) k_o1 (fun G72 hv he e2 => ?_)
  have hu := puc_st hu hv.1 he e2 (fun e => hne e.symm)
  have hq := hq.sw hg he e2
  refine hs_iinc1 (i := 1) (p := 76) (by decide +kernel) rfl (Nat.le_of_ble_eq_true rfl) ?_
  show et_go none _ 101 76 [some (.ref a), some (.int (Int32.ofNat 2))] [] _ _ _ _
  refine hs_goto (p := 55) (by decide +kernel) ?_
  refine hs_iload (i := 1) (p := 56) (by decide +kernel) rfl ?_
  refine hs_k (x := Int32.ofNat 3) (p := 57) (by decide +kernel) ?_
  refine hs_br2n (c := .ge) (t := 79) (f := 60) (by decide +kernel) (by omega) (by omega) (fun h => absurd h (show ¬ (3 ≤ 2) by decide)) (fun _ => ?_)
  refine hs_aload (i := 0) (p := 61) (by decide +kernel) rfl ?_
  refine hs_get (ci := 8) (f := 6) (p := 64) (v := .ref b30) (by decide +kernel) hu.2.2.2.2 hu.2.2.2.1 rfl ?_
  refine hs_iload (i := 1) (p := 65) (by decide +kernel) rfl ?_
  have hHo := hu.1
  refine ht_newV (ci := 1) (n := 8) (fs := [.int 0, .null, .null, .null, .int 0, .int 0, .int 0, .int 0]) (p := 68) (by decide +kernel) (by omega) (by omega) (by decide +kernel) (by decide +kernel) hu.1 (fun G65 o2 ho hge hlt he => ?_)
  refine hs_dup1 (p := 69) (by decide +kernel) ?_
  refine hs_callp (mi := 31) (na := 0) (lk := 2) (lm := 1) (L0 := eg_en (eg_mL 31) [.ref o2]) (by decide +kernel) rfl rfl rfl rfl rfl (by rw [show eg_mL 31 = 1 from by decide +kernel]; first | done | rfl) ?_
  refine (pi_eye ho (by omega)).mono (fun u hZ => pi_cb hZ (fun K69 G69 hq2 hH k_o2 hP => ?_))
  have hk := pk_of hq2 hge hlt he
  have hv := hk.un hH hv
  have hu := hk.un hH hu
  have hq := hq.mo hk
  have k_b6 := hk.ty hHo k_b6
  have k_b15 := hk.ty hHo k_b15
  have k_b23 := hk.ty hHo k_b23
  have k_b38 := hk.ty hHo k_b38
  have k_b47 := hk.ty hHo k_b47
  have k_o0 := hk.ty hHo k_o0
  have k_o1 := hk.ty hHo k_o1
  show et_go none _ 101 72 _ [.ref o2, .int (Int32.ofNat 2), .ref b30] _ 18 135 _
  refine ht_wri (n := 3) (kd := 6) (u := 3) (cj := 1) (p := 73) (by decide +kernel) (by decide +kernel) rfl hv (by decide) k_o2 (fun G72 hv he e2 => ?_)
  have hu := puc_st hu hv.1 he e2 (fun e => hne e.symm)
  have hq := hq.sw hg he e2
  refine hs_iinc1 (i := 1) (p := 76) (by decide +kernel) rfl (Nat.le_of_ble_eq_true rfl) ?_
  show et_go none _ 101 76 [some (.ref a), some (.int (Int32.ofNat 3))] [] _ _ _ _
  refine hs_goto (p := 55) (by decide +kernel) ?_
  refine hs_iload (i := 1) (p := 56) (by decide +kernel) rfl ?_
  refine hs_k (x := Int32.ofNat 3) (p := 57) (by decide +kernel) ?_
  refine hs_br2n (c := .ge) (t := 79) (f := 60) (by decide +kernel) (by omega) (by omega) (fun _ => ?_) (fun h => absurd (show 3 ≤ 3 by decide) h)
  have hv0 := hv
  obtain ⟨hHv, k_b30⟩ := puc_typ (t := 40) hv (by decide) rfl ⟨_, rfl, rfl, fun i hi => ⟨_, rfl⟩, fun q hq i i1 i2 i3 => by
      obtain rfl := List.mem_singleton.mp hq
      match i, i3 with
      | 0, _ => exact ⟨.ref o0, rfl, .inr ⟨by decide, _, rfl, k_o0⟩⟩
      | 1, _ => exact ⟨.ref o1, rfl, .inr ⟨by decide, _, rfl, k_o1⟩⟩
      | 2, _ => exact ⟨.ref o2, rfl, .inr ⟨by decide, _, rfl, k_o2⟩⟩
      | n + 3, h => exact absurd h (by omega)⟩ (fun h => absurd h (by decide))
  have hu := puc_n hu (fun e => hne e.symm) hHv
  have hq := hq.ty (b := b30) (t := 40) (.inr hg)
  have k_b6 := et_kn_k (t := 40) hv0 k_b6
  have k_b15 := et_kn_k (t := 40) hv0 k_b15
  have k_b23 := et_kn_k (t := 40) hv0 k_b23
  have k_b38 := et_kn_k (t := 40) hv0 k_b38
  have k_b47 := et_kn_k (t := 40) hv0 k_b47
  have k_o0 := et_kn_k (t := 40) hv0 k_o0
  have k_o1 := et_kn_k (t := 40) hv0 k_o1
  have k_o2 := et_kn_k (t := 40) hv0 k_o2
  obtain ⟨hHt, kt⟩ := puc_typ (t := 10) hu (by decide) rfl ⟨_, rfl, rfl, fun k p hk => by
      match k, hk with
      | 0, hk => cases hk; exact ⟨_, rfl, .inr ⟨_, rfl, by decide, by decide⟩⟩
      | 1, hk => cases hk; exact ⟨_, rfl, .inr (.inr ⟨by decide, _, rfl, k_b6⟩)⟩
      | 2, hk => cases hk; exact ⟨_, rfl, .inr ⟨_, rfl, by decide, by decide⟩⟩
      | 3, hk => cases hk; exact ⟨_, rfl, .inr (.inr ⟨by decide, _, rfl, k_b15⟩)⟩
      | 4, hk => cases hk; exact ⟨_, rfl, .inr (.inr ⟨by decide, _, rfl, k_b23⟩)⟩
      | 5, hk => cases hk; exact ⟨_, rfl, .inr ⟨_, rfl, by decide, by decide⟩⟩
      | 6, hk => cases hk; exact ⟨_, rfl, .inr (.inr ⟨by decide, _, rfl, k_b30⟩)⟩
      | 7, hk => cases hk; exact ⟨_, rfl, .inr ⟨_, rfl, by decide, by decide⟩⟩
      | 8, hk => cases hk; exact ⟨_, rfl, .inr (.inr ⟨by decide, _, rfl, k_b38⟩)⟩
      | 9, hk => cases hk; exact ⟨_, rfl, .inr ⟨_, rfl, by decide, by decide⟩⟩
      | 10, hk => cases hk; exact ⟨_, rfl, .inr (.inr ⟨by decide, _, rfl, k_b47⟩)⟩
      | n + 11, hk => cases hk⟩ ⟨fun h => absurd h (by decide), fun h => absurd h (by decide)⟩
  refine hs_vret (by decide +kernel) ?_
  exact ⟨_, hq.ty (.inl rfl), hHt, kt, rfl, rfl, rfl, ⟨b6, b47, by rw [hu.2.2.2.2]; rfl, by rw [hu.2.2.2.2]; rfl, hg_b6, hg_b47, et_kn_k hu k_b6, et_kn_k hu k_b47, by rw [hu.2.2.2.2]; rfl, by rw [hu.2.2.2.2]; rfl, by rw [hu.2.2.2.2]; rfl, by rw [hu.2.2.2.2]; rfl, by rw [hu.2.2.2.2]; rfl, b15, b23, by rw [hu.2.2.2.2]; rfl, by rw [hu.2.2.2.2]; rfl, et_kn_k hu k_b15, et_kn_k hu k_b23, hg_b15, hg_b23⟩⟩
theorem pi_knob4 {d2 : Nat} (hu : puc K G a (.inr (10, [.null, .null, .int 0, .null, .null, .null, .int 0, .int 0, .null, .null, .int 0, .null]))) (hd : 2 ≤ d2) : et_go none d2 115 0 (eg_en (eg_mL 115) [.ref a]) [] G 0 0 (pi_Z K G a 12 79 136123 (fun K' G' => ((∃ rd, et_pl (eg_at G' a) 3 = some (.ref rd) ∧ K' rd = some 7 ∧ et_pl (eg_at G' rd) 1 = some (.int (Int32.ofNat 0)) ∧ ∃ ba na, et_pl (eg_at G' rd) 5 = some (.ref ba) ∧ et_pl (eg_at G' rd) 6 = some (.ref na) ∧ ¬ ba = na) ∧ ∃ s0 s1 ra0 ca0 ra1 ca1, K' a = some 12 ∧ (et_pl (eg_at G' a) 0 = some (.ref s0) ∧ et_pl (eg_at G' a) 1 = some (.ref s1)) ∧ (¬ s0 = s1 ∧ ¬ ra0 = ra1 ∧ ¬ ca0 = ca1) ∧ pi_T K' G' s0 ra0 ca0 ∧ pi_T K' G' s1 ra1 ca1 ∧ ∃ la0 ya0 la1 ya1, (et_pl (eg_at G' s0) 3 = some (.ref la0) ∧ et_pl (eg_at G' s0) 4 = some (.ref ya0) ∧ et_pl (eg_at G' s1) 3 = some (.ref la1) ∧ et_pl (eg_at G' s1) 4 = some (.ref ya1)) ∧ (K' la0 = some 17 ∧ K' ya0 = some 27 ∧ K' la1 = some 17 ∧ K' ya1 = some 27) ∧ ¬ la0 = la1 ∧ ¬ ya0 = ya1) ∧ et_pl (eg_at G' a) 2 = some (.int (Int32.ofNat 0)))) := by
  obtain ⟨d, rfl⟩ : ∃ d, d2 = d + 2 := ⟨d2 - 2, by omega⟩
  have hq : pq a K G K G := pq.rf
  have hua := hu.2.2.2.1
  have hq0 : G.2 ≤ G.2 := Nat.le_refl _
  rw [show eg_mL 115 = 1 from by decide +kernel]
  show et_go none (d + 2) 115 0 [some (.ref a)] [] G 0 0 _
  refine hs_aload (i := 0) (p := 1) (by decide +kernel) rfl ?_
  refine hs_skip (lk := 1) (p := 4) (by decide +kernel) rfl rfl ?_
  refine hs_aload (i := 0) (p := 5) (by decide +kernel) rfl ?_
  have hHo := hu.1
  refine ht_newV (ci := 8) (n := 11) (fs := [.int 0, .null, .int 0, .null, .null, .int 0, .null, .int 0, .null, .int 0, .null]) (p := 8) (by decide +kernel) (by omega) (by omega) (by decide +kernel) (by decide +kernel) hu.1 (fun G5 o0 ho hge hlt he => ?_)
  refine hs_dup1 (p := 9) (by decide +kernel) ?_
  refine hs_callp (mi := 101) (na := 0) (lk := 1) (lm := 2) (L0 := eg_en (eg_mL 101) [.ref o0]) (by decide +kernel) rfl rfl rfl rfl rfl (by rw [show eg_mL 101 = 2 from by decide +kernel]; first | done | rfl) ?_
  refine (pi_state4 ho (by omega)).mono (fun u hZ => pi_cb hZ (fun K9 G9 hq2 hH k_o0 hP => ?_))
  have hk := pk_of hq2 hge hlt he
  have hu := hk.un hH hu
  have hq := hq.mo hk
  obtain ⟨ra_o0, ca_o0, f1_o0, f10_o0, gr_o0, gc_o0, k_ra_o0, k_ca_o0, f0_o0, f5_o0, f9_o0, f2_o0, f7_o0, la_o0, ya_o0, f3_o0, f4_o0, k_la_o0, k_ya_o0, gl_o0, gy_o0⟩ := hP
  show et_go none _ 115 12 _ [.ref o0, .ref a] _ 19 146 _
  have hu0 := hu
  refine hs_puti (ci := 10) (f := 0) (ty := .object "KnobEye$State") (v := .ref o0) (p := 15) (by decide +kernel) hu (Nat.le_of_ble_eq_true rfl) rfl (fun G12 hu he e2 => ?_)
  have hu : puc _ _ a (.inr (10, [.ref o0, .null, .int 0, .null, .null, .null, .int 0, .int 0, .null, .null, .int 0, .null])) := hu
  have hq := hq.pt he e2
  have f0_o0 := (congrArg (et_pl · 0) (he o0 (puc_ne hu0 k_o0))).trans f0_o0
  have f1_o0 := (congrArg (et_pl · 1) (he o0 (puc_ne hu0 k_o0))).trans f1_o0
  have f2_o0 := (congrArg (et_pl · 2) (he o0 (puc_ne hu0 k_o0))).trans f2_o0
  have f3_o0 := (congrArg (et_pl · 3) (he o0 (puc_ne hu0 k_o0))).trans f3_o0
  have f4_o0 := (congrArg (et_pl · 4) (he o0 (puc_ne hu0 k_o0))).trans f4_o0
  have f5_o0 := (congrArg (et_pl · 5) (he o0 (puc_ne hu0 k_o0))).trans f5_o0
  have f7_o0 := (congrArg (et_pl · 7) (he o0 (puc_ne hu0 k_o0))).trans f7_o0
  have f9_o0 := (congrArg (et_pl · 9) (he o0 (puc_ne hu0 k_o0))).trans f9_o0
  have f10_o0 := (congrArg (et_pl · 10) (he o0 (puc_ne hu0 k_o0))).trans f10_o0
  refine hs_aload (i := 0) (p := 16) (by decide +kernel) rfl ?_
  have hHo := hu.1
  refine ht_newV (ci := 8) (n := 11) (fs := [.int 0, .null, .int 0, .null, .null, .int 0, .null, .int 0, .null, .int 0, .null]) (p := 19) (by decide +kernel) (by omega) (by omega) (by decide +kernel) (by decide +kernel) hu.1 (fun G16 o1 ho hge hlt he => ?_)
  refine hs_dup1 (p := 20) (by decide +kernel) ?_
  refine hs_callp (mi := 101) (na := 0) (lk := 1) (lm := 2) (L0 := eg_en (eg_mL 101) [.ref o1]) (by decide +kernel) rfl rfl rfl rfl rfl (by rw [show eg_mL 101 = 2 from by decide +kernel]; first | done | rfl) ?_
  refine (pi_state4 ho (by omega)).mono (fun u hZ => pi_cb hZ (fun K20 G20 hq2 hH k_o1 hP => ?_))
  have hk := pk_of hq2 hge hlt he
  have hne0 : ¬ o0 = o1 := by have := (hHo.2.2 _ _ k_o0).1; omega
  have hlr := (hHo.2.2 _ _ k_ra_o0).1
  have hll := (hHo.2.2 _ _ k_la_o0).1
  have hly := (hHo.2.2 _ _ k_ya_o0).1
  have hlc := (hHo.2.2 _ _ k_ca_o0).1
  have hu := hk.un hH hu
  have hq := hq.mo hk
  have f0_o0 := hk.fl hHo k_o0 f0_o0
  have f1_o0 := hk.fl hHo k_o0 f1_o0
  have f2_o0 := hk.fl hHo k_o0 f2_o0
  have f3_o0 := hk.fl hHo k_o0 f3_o0
  have f4_o0 := hk.fl hHo k_o0 f4_o0
  have f5_o0 := hk.fl hHo k_o0 f5_o0
  have f7_o0 := hk.fl hHo k_o0 f7_o0
  have f9_o0 := hk.fl hHo k_o0 f9_o0
  have f10_o0 := hk.fl hHo k_o0 f10_o0
  have k_o0 := hk.ty hHo k_o0
  have k_ra_o0 := hk.ty hHo k_ra_o0
  have k_ca_o0 := hk.ty hHo k_ca_o0
  have k_la_o0 := hk.ty hHo k_la_o0
  have k_ya_o0 := hk.ty hHo k_ya_o0
  obtain ⟨ra_o1, ca_o1, f1_o1, f10_o1, gr_o1, gc_o1, k_ra_o1, k_ca_o1, f0_o1, f5_o1, f9_o1, f2_o1, f7_o1, la_o1, ya_o1, f3_o1, f4_o1, k_la_o1, k_ya_o1, gl_o1, gy_o1⟩ := hP
  have hnr : ¬ ra_o0 = ra_o1 := Nat.ne_of_lt (Nat.lt_of_lt_of_le (Nat.lt_trans hlr hlt) gr_o1)
  have hnc : ¬ ca_o0 = ca_o1 := Nat.ne_of_lt (Nat.lt_of_lt_of_le (Nat.lt_trans hlc hlt) gc_o1)
  have hnl : ¬ la_o0 = la_o1 := Nat.ne_of_lt (Nat.lt_of_lt_of_le (Nat.lt_trans hll hlt) gl_o1)
  have hny : ¬ ya_o0 = ya_o1 := Nat.ne_of_lt (Nat.lt_of_lt_of_le (Nat.lt_trans hly hlt) gy_o1)
  show et_go none _ 115 23 _ [.ref o1, .ref a] _ 38 292 _
  have hu0 := hu
  refine hs_puti (ci := 10) (f := 1) (ty := .object "KnobEye$State") (v := .ref o1) (p := 26) (by decide +kernel) hu (Nat.le_of_ble_eq_true rfl) rfl (fun G23 hu he e2 => ?_)
  have hu : puc _ _ a (.inr (10, [.ref o0, .ref o1, .int 0, .null, .null, .null, .int 0, .int 0, .null, .null, .int 0, .null])) := hu
  have hq := hq.pt he e2
  have f0_o0 := (congrArg (et_pl · 0) (he o0 (puc_ne hu0 k_o0))).trans f0_o0
  have f1_o0 := (congrArg (et_pl · 1) (he o0 (puc_ne hu0 k_o0))).trans f1_o0
  have f2_o0 := (congrArg (et_pl · 2) (he o0 (puc_ne hu0 k_o0))).trans f2_o0
  have f3_o0 := (congrArg (et_pl · 3) (he o0 (puc_ne hu0 k_o0))).trans f3_o0
  have f4_o0 := (congrArg (et_pl · 4) (he o0 (puc_ne hu0 k_o0))).trans f4_o0
  have f5_o0 := (congrArg (et_pl · 5) (he o0 (puc_ne hu0 k_o0))).trans f5_o0
  have f7_o0 := (congrArg (et_pl · 7) (he o0 (puc_ne hu0 k_o0))).trans f7_o0
  have f9_o0 := (congrArg (et_pl · 9) (he o0 (puc_ne hu0 k_o0))).trans f9_o0
  have f10_o0 := (congrArg (et_pl · 10) (he o0 (puc_ne hu0 k_o0))).trans f10_o0
  have f0_o1 := (congrArg (et_pl · 0) (he o1 (puc_ne hu0 k_o1))).trans f0_o1
  have f1_o1 := (congrArg (et_pl · 1) (he o1 (puc_ne hu0 k_o1))).trans f1_o1
  have f2_o1 := (congrArg (et_pl · 2) (he o1 (puc_ne hu0 k_o1))).trans f2_o1
  have f3_o1 := (congrArg (et_pl · 3) (he o1 (puc_ne hu0 k_o1))).trans f3_o1
  have f4_o1 := (congrArg (et_pl · 4) (he o1 (puc_ne hu0 k_o1))).trans f4_o1
  have f5_o1 := (congrArg (et_pl · 5) (he o1 (puc_ne hu0 k_o1))).trans f5_o1
  have f7_o1 := (congrArg (et_pl · 7) (he o1 (puc_ne hu0 k_o1))).trans f7_o1
  have f9_o1 := (congrArg (et_pl · 9) (he o1 (puc_ne hu0 k_o1))).trans f9_o1
  have f10_o1 := (congrArg (et_pl · 10) (he o1 (puc_ne hu0 k_o1))).trans f10_o1
  refine hs_aload (i := 0) (p := 27) (by decide +kernel) rfl ?_
  have hHo := hu.1
  refine ht_newV (ci := 5) (n := 9) (fs := [.null, .int 0, .int 0, .int 0, .null, .null, .null, .int 0, .int 0]) (p := 30) (by decide +kernel) (by omega) (by omega) (by decide +kernel) (by decide +kernel) hu.1 (fun G27 o2 ho hge hlt he => ?_)
  refine hs_dup1 (p := 31) (by decide +kernel) ?_
  refine hs_callp (mi := 62) (na := 0) (lk := 1) (lm := 1) (L0 := eg_en (eg_mL 62) [.ref o2]) (by decide +kernel) rfl rfl rfl rfl rfl (by rw [show eg_mL 62 = 1 from by decide +kernel]; first | done | rfl) ?_
  refine (pi_reader2 ho (by omega)).mono (fun u hZ => pi_cb hZ (fun K31 G31 hq2 hH k_o2 hP => ?_))
  have hk := pk_of hq2 hge hlt he
  have hu := hk.un hH hu
  have hq := hq.mo hk
  have f0_o0 := hk.fl hHo k_o0 f0_o0
  have f1_o0 := hk.fl hHo k_o0 f1_o0
  have f2_o0 := hk.fl hHo k_o0 f2_o0
  have f3_o0 := hk.fl hHo k_o0 f3_o0
  have f4_o0 := hk.fl hHo k_o0 f4_o0
  have f5_o0 := hk.fl hHo k_o0 f5_o0
  have f7_o0 := hk.fl hHo k_o0 f7_o0
  have f9_o0 := hk.fl hHo k_o0 f9_o0
  have f10_o0 := hk.fl hHo k_o0 f10_o0
  have f0_o1 := hk.fl hHo k_o1 f0_o1
  have f1_o1 := hk.fl hHo k_o1 f1_o1
  have f2_o1 := hk.fl hHo k_o1 f2_o1
  have f3_o1 := hk.fl hHo k_o1 f3_o1
  have f4_o1 := hk.fl hHo k_o1 f4_o1
  have f5_o1 := hk.fl hHo k_o1 f5_o1
  have f7_o1 := hk.fl hHo k_o1 f7_o1
  have f9_o1 := hk.fl hHo k_o1 f9_o1
  have f10_o1 := hk.fl hHo k_o1 f10_o1
  have k_o0 := hk.ty hHo k_o0
  have k_ra_o0 := hk.ty hHo k_ra_o0
  have k_ca_o0 := hk.ty hHo k_ca_o0
  have k_la_o0 := hk.ty hHo k_la_o0
  have k_ya_o0 := hk.ty hHo k_ya_o0
  have k_o1 := hk.ty hHo k_o1
  have k_ra_o1 := hk.ty hHo k_ra_o1
  have k_ca_o1 := hk.ty hHo k_ca_o1
  have k_la_o1 := hk.ty hHo k_la_o1
  have k_ya_o1 := hk.ty hHo k_ya_o1
  obtain ⟨fl, ba, na, fba, fna, hbn⟩ := hP
  show et_go none _ 115 34 _ [.ref o2, .ref a] _ 43 1904 _
  have hu0 := hu
  refine hs_puti (ci := 10) (f := 3) (ty := .object "KnobEye$Reader") (v := .ref o2) (p := 37) (by decide +kernel) hu (Nat.le_of_ble_eq_true rfl) rfl (fun G34 hu he e2 => ?_)
  have hu : puc _ _ a (.inr (10, [.ref o0, .ref o1, .int 0, .ref o2, .null, .null, .int 0, .int 0, .null, .null, .int 0, .null])) := hu
  have hq := hq.pt he e2
  have f0_o0 := (congrArg (et_pl · 0) (he o0 (puc_ne hu0 k_o0))).trans f0_o0
  have f1_o0 := (congrArg (et_pl · 1) (he o0 (puc_ne hu0 k_o0))).trans f1_o0
  have f2_o0 := (congrArg (et_pl · 2) (he o0 (puc_ne hu0 k_o0))).trans f2_o0
  have f3_o0 := (congrArg (et_pl · 3) (he o0 (puc_ne hu0 k_o0))).trans f3_o0
  have f4_o0 := (congrArg (et_pl · 4) (he o0 (puc_ne hu0 k_o0))).trans f4_o0
  have f5_o0 := (congrArg (et_pl · 5) (he o0 (puc_ne hu0 k_o0))).trans f5_o0
  have f7_o0 := (congrArg (et_pl · 7) (he o0 (puc_ne hu0 k_o0))).trans f7_o0
  have f9_o0 := (congrArg (et_pl · 9) (he o0 (puc_ne hu0 k_o0))).trans f9_o0
  have f10_o0 := (congrArg (et_pl · 10) (he o0 (puc_ne hu0 k_o0))).trans f10_o0
  have f0_o1 := (congrArg (et_pl · 0) (he o1 (puc_ne hu0 k_o1))).trans f0_o1
  have f1_o1 := (congrArg (et_pl · 1) (he o1 (puc_ne hu0 k_o1))).trans f1_o1
  have f2_o1 := (congrArg (et_pl · 2) (he o1 (puc_ne hu0 k_o1))).trans f2_o1
  have f3_o1 := (congrArg (et_pl · 3) (he o1 (puc_ne hu0 k_o1))).trans f3_o1
  have f4_o1 := (congrArg (et_pl · 4) (he o1 (puc_ne hu0 k_o1))).trans f4_o1
  have f5_o1 := (congrArg (et_pl · 5) (he o1 (puc_ne hu0 k_o1))).trans f5_o1
  have f7_o1 := (congrArg (et_pl · 7) (he o1 (puc_ne hu0 k_o1))).trans f7_o1
  have f9_o1 := (congrArg (et_pl · 9) (he o1 (puc_ne hu0 k_o1))).trans f9_o1
  have f10_o1 := (congrArg (et_pl · 10) (he o1 (puc_ne hu0 k_o1))).trans f10_o1
  have fl := (congrArg (et_pl · 1) (he o2 (puc_ne hu0 k_o2))).trans fl
  have fba := (congrArg (et_pl · 5) (he o2 (puc_ne hu0 k_o2))).trans fba
  have fna := (congrArg (et_pl · 6) (he o2 (puc_ne hu0 k_o2))).trans fna
  refine hs_aload (i := 0) (p := 38) (by decide +kernel) rfl ?_
  have hHo := hu.1
  refine ht_newV (ci := 2) (n := 12) (fs := [.int 0, .int 0, .int 0, .int 0, .int 0, .int 0, .int 0, .int 0, .int 0, .int 0, .int 0, .int 0]) (p := 41) (by decide +kernel) (by omega) (by omega) (by decide +kernel) (by decide +kernel) hu.1 (fun G38 o3 ho hge hlt he => ?_)
  refine hs_dup1 (p := 42) (by decide +kernel) ?_
  refine hs_callp (mi := 51) (na := 0) (lk := 1) (lm := 1) (L0 := eg_en (eg_mL 51) [.ref o3]) (by decide +kernel) rfl rfl rfl rfl rfl (by rw [show eg_mL 51 = 1 from by decide +kernel]; first | done | rfl) ?_
  refine (pi_facts ho (by omega)).mono (fun u hZ => pi_cb hZ (fun K42 G42 hq2 hH k_o3 hP => ?_))
  have hk := pk_of hq2 hge hlt he
  have hu := hk.un hH hu
  have hq := hq.mo hk
  have f0_o0 := hk.fl hHo k_o0 f0_o0
  have f1_o0 := hk.fl hHo k_o0 f1_o0
  have f2_o0 := hk.fl hHo k_o0 f2_o0
  have f3_o0 := hk.fl hHo k_o0 f3_o0
  have f4_o0 := hk.fl hHo k_o0 f4_o0
  have f5_o0 := hk.fl hHo k_o0 f5_o0
  have f7_o0 := hk.fl hHo k_o0 f7_o0
  have f9_o0 := hk.fl hHo k_o0 f9_o0
  have f10_o0 := hk.fl hHo k_o0 f10_o0
  have f0_o1 := hk.fl hHo k_o1 f0_o1
  have f1_o1 := hk.fl hHo k_o1 f1_o1
  have f2_o1 := hk.fl hHo k_o1 f2_o1
  have f3_o1 := hk.fl hHo k_o1 f3_o1
  have f4_o1 := hk.fl hHo k_o1 f4_o1
  have f5_o1 := hk.fl hHo k_o1 f5_o1
  have f7_o1 := hk.fl hHo k_o1 f7_o1
  have f9_o1 := hk.fl hHo k_o1 f9_o1
  have f10_o1 := hk.fl hHo k_o1 f10_o1
  have fl := hk.fl hHo k_o2 fl
  have fba := hk.fl hHo k_o2 fba
  have fna := hk.fl hHo k_o2 fna
  have k_o0 := hk.ty hHo k_o0
  have k_ra_o0 := hk.ty hHo k_ra_o0
  have k_ca_o0 := hk.ty hHo k_ca_o0
  have k_la_o0 := hk.ty hHo k_la_o0
  have k_ya_o0 := hk.ty hHo k_ya_o0
  have k_o1 := hk.ty hHo k_o1
  have k_ra_o1 := hk.ty hHo k_ra_o1
  have k_ca_o1 := hk.ty hHo k_ca_o1
  have k_la_o1 := hk.ty hHo k_la_o1
  have k_ya_o1 := hk.ty hHo k_ya_o1
  have k_o2 := hk.ty hHo k_o2
  show et_go none _ 115 45 _ [.ref o3, .ref a] _ 44 1916 _
  have hu0 := hu
  refine hs_puti (ci := 10) (f := 4) (ty := .object "KnobEye$Facts") (v := .ref o3) (p := 48) (by decide +kernel) hu (Nat.le_of_ble_eq_true rfl) rfl (fun G45 hu he e2 => ?_)
  have hu : puc _ _ a (.inr (10, [.ref o0, .ref o1, .int 0, .ref o2, .ref o3, .null, .int 0, .int 0, .null, .null, .int 0, .null])) := hu
  have hq := hq.pt he e2
  have f0_o0 := (congrArg (et_pl · 0) (he o0 (puc_ne hu0 k_o0))).trans f0_o0
  have f1_o0 := (congrArg (et_pl · 1) (he o0 (puc_ne hu0 k_o0))).trans f1_o0
  have f2_o0 := (congrArg (et_pl · 2) (he o0 (puc_ne hu0 k_o0))).trans f2_o0
  have f3_o0 := (congrArg (et_pl · 3) (he o0 (puc_ne hu0 k_o0))).trans f3_o0
  have f4_o0 := (congrArg (et_pl · 4) (he o0 (puc_ne hu0 k_o0))).trans f4_o0
  have f5_o0 := (congrArg (et_pl · 5) (he o0 (puc_ne hu0 k_o0))).trans f5_o0
  have f7_o0 := (congrArg (et_pl · 7) (he o0 (puc_ne hu0 k_o0))).trans f7_o0
  have f9_o0 := (congrArg (et_pl · 9) (he o0 (puc_ne hu0 k_o0))).trans f9_o0
  have f10_o0 := (congrArg (et_pl · 10) (he o0 (puc_ne hu0 k_o0))).trans f10_o0
  have f0_o1 := (congrArg (et_pl · 0) (he o1 (puc_ne hu0 k_o1))).trans f0_o1
  have f1_o1 := (congrArg (et_pl · 1) (he o1 (puc_ne hu0 k_o1))).trans f1_o1
  have f2_o1 := (congrArg (et_pl · 2) (he o1 (puc_ne hu0 k_o1))).trans f2_o1
  have f3_o1 := (congrArg (et_pl · 3) (he o1 (puc_ne hu0 k_o1))).trans f3_o1
  have f4_o1 := (congrArg (et_pl · 4) (he o1 (puc_ne hu0 k_o1))).trans f4_o1
  have f5_o1 := (congrArg (et_pl · 5) (he o1 (puc_ne hu0 k_o1))).trans f5_o1
  have f7_o1 := (congrArg (et_pl · 7) (he o1 (puc_ne hu0 k_o1))).trans f7_o1
  have f9_o1 := (congrArg (et_pl · 9) (he o1 (puc_ne hu0 k_o1))).trans f9_o1
  have f10_o1 := (congrArg (et_pl · 10) (he o1 (puc_ne hu0 k_o1))).trans f10_o1
  have fl := (congrArg (et_pl · 1) (he o2 (puc_ne hu0 k_o2))).trans fl
  have fba := (congrArg (et_pl · 5) (he o2 (puc_ne hu0 k_o2))).trans fba
  have fna := (congrArg (et_pl · 6) (he o2 (puc_ne hu0 k_o2))).trans fna
  refine hs_aload (i := 0) (p := 49) (by decide +kernel) rfl ?_
  have hHo := hu.1
  refine ht_newV (ci := 7) (n := 18) (fs := [.null, .null, .null, .null, .int 0, .int 0, .int 0, .int 0, .int 0, .int 0, .int 0, .int 0, .int 0, .int 0, .null, .int 0, .int 0, .null]) (p := 52) (by decide +kernel) (by omega) (by omega) (by decide +kernel) (by decide +kernel) hu.1 (fun G49 o4 ho hge hlt he => ?_)
  refine hs_dup1 (p := 53) (by decide +kernel) ?_
  refine hs_callp (mi := 89) (na := 0) (lk := 1) (lm := 1) (L0 := eg_en (eg_mL 89) [.ref o4]) (by decide +kernel) rfl rfl rfl rfl rfl (by rw [show eg_mL 89 = 1 from by decide +kernel]; first | done | rfl) ?_
  refine (pi_search ho (by omega)).mono (fun u hZ => pi_cb hZ (fun K53 G53 hq2 hH k_o4 hP => ?_))
  have hk := pk_of hq2 hge hlt he
  have hu := hk.un hH hu
  have hq := hq.mo hk
  have f0_o0 := hk.fl hHo k_o0 f0_o0
  have f1_o0 := hk.fl hHo k_o0 f1_o0
  have f2_o0 := hk.fl hHo k_o0 f2_o0
  have f3_o0 := hk.fl hHo k_o0 f3_o0
  have f4_o0 := hk.fl hHo k_o0 f4_o0
  have f5_o0 := hk.fl hHo k_o0 f5_o0
  have f7_o0 := hk.fl hHo k_o0 f7_o0
  have f9_o0 := hk.fl hHo k_o0 f9_o0
  have f10_o0 := hk.fl hHo k_o0 f10_o0
  have f0_o1 := hk.fl hHo k_o1 f0_o1
  have f1_o1 := hk.fl hHo k_o1 f1_o1
  have f2_o1 := hk.fl hHo k_o1 f2_o1
  have f3_o1 := hk.fl hHo k_o1 f3_o1
  have f4_o1 := hk.fl hHo k_o1 f4_o1
  have f5_o1 := hk.fl hHo k_o1 f5_o1
  have f7_o1 := hk.fl hHo k_o1 f7_o1
  have f9_o1 := hk.fl hHo k_o1 f9_o1
  have f10_o1 := hk.fl hHo k_o1 f10_o1
  have fl := hk.fl hHo k_o2 fl
  have fba := hk.fl hHo k_o2 fba
  have fna := hk.fl hHo k_o2 fna
  have k_o0 := hk.ty hHo k_o0
  have k_ra_o0 := hk.ty hHo k_ra_o0
  have k_ca_o0 := hk.ty hHo k_ca_o0
  have k_la_o0 := hk.ty hHo k_la_o0
  have k_ya_o0 := hk.ty hHo k_ya_o0
  have k_o1 := hk.ty hHo k_o1
  have k_ra_o1 := hk.ty hHo k_ra_o1
  have k_ca_o1 := hk.ty hHo k_ca_o1
  have k_la_o1 := hk.ty hHo k_la_o1
  have k_ya_o1 := hk.ty hHo k_ya_o1
  have k_o2 := hk.ty hHo k_o2
  have k_o3 := hk.ty hHo k_o3
  show et_go none _ 115 56 _ [.ref o4, .ref a] _ 71 5017 _
  have hu0 := hu
  refine hs_puti (ci := 10) (f := 5) (ty := .object "KnobEye$Search") (v := .ref o4) (p := 59) (by decide +kernel) hu (Nat.le_of_ble_eq_true rfl) rfl (fun G56 hu he e2 => ?_)
  have hu : puc _ _ a (.inr (10, [.ref o0, .ref o1, .int 0, .ref o2, .ref o3, .ref o4, .int 0, .int 0, .null, .null, .int 0, .null])) := hu
  have hq := hq.pt he e2
  have f0_o0 := (congrArg (et_pl · 0) (he o0 (puc_ne hu0 k_o0))).trans f0_o0
  have f1_o0 := (congrArg (et_pl · 1) (he o0 (puc_ne hu0 k_o0))).trans f1_o0
  have f2_o0 := (congrArg (et_pl · 2) (he o0 (puc_ne hu0 k_o0))).trans f2_o0
  have f3_o0 := (congrArg (et_pl · 3) (he o0 (puc_ne hu0 k_o0))).trans f3_o0
  have f4_o0 := (congrArg (et_pl · 4) (he o0 (puc_ne hu0 k_o0))).trans f4_o0
  have f5_o0 := (congrArg (et_pl · 5) (he o0 (puc_ne hu0 k_o0))).trans f5_o0
  have f7_o0 := (congrArg (et_pl · 7) (he o0 (puc_ne hu0 k_o0))).trans f7_o0
  have f9_o0 := (congrArg (et_pl · 9) (he o0 (puc_ne hu0 k_o0))).trans f9_o0
  have f10_o0 := (congrArg (et_pl · 10) (he o0 (puc_ne hu0 k_o0))).trans f10_o0
  have f0_o1 := (congrArg (et_pl · 0) (he o1 (puc_ne hu0 k_o1))).trans f0_o1
  have f1_o1 := (congrArg (et_pl · 1) (he o1 (puc_ne hu0 k_o1))).trans f1_o1
  have f2_o1 := (congrArg (et_pl · 2) (he o1 (puc_ne hu0 k_o1))).trans f2_o1
  have f3_o1 := (congrArg (et_pl · 3) (he o1 (puc_ne hu0 k_o1))).trans f3_o1
  have f4_o1 := (congrArg (et_pl · 4) (he o1 (puc_ne hu0 k_o1))).trans f4_o1
  have f5_o1 := (congrArg (et_pl · 5) (he o1 (puc_ne hu0 k_o1))).trans f5_o1
  have f7_o1 := (congrArg (et_pl · 7) (he o1 (puc_ne hu0 k_o1))).trans f7_o1
  have f9_o1 := (congrArg (et_pl · 9) (he o1 (puc_ne hu0 k_o1))).trans f9_o1
  have f10_o1 := (congrArg (et_pl · 10) (he o1 (puc_ne hu0 k_o1))).trans f10_o1
  have fl := (congrArg (et_pl · 1) (he o2 (puc_ne hu0 k_o2))).trans fl
  have fba := (congrArg (et_pl · 5) (he o2 (puc_ne hu0 k_o2))).trans fba
  have fna := (congrArg (et_pl · 6) (he o2 (puc_ne hu0 k_o2))).trans fna
  refine hs_aload (i := 0) (p := 60) (by decide +kernel) rfl ?_
  refine hs_k (x := (-1)) (p := 61) (by decide +kernel) ?_
  have hu0 := hu
  refine hs_puti (ci := 10) (f := 6) (ty := .int) (v := .int (-1)) (p := 64) (by decide +kernel) hu (Nat.le_of_ble_eq_true rfl) rfl (fun G61 hu he e2 => ?_)
  have hu : puc _ _ a (.inr (10, [.ref o0, .ref o1, .int 0, .ref o2, .ref o3, .ref o4, .int (-1), .int 0, .null, .null, .int 0, .null])) := hu
  have hq := hq.pt he e2
  have f0_o0 := (congrArg (et_pl · 0) (he o0 (puc_ne hu0 k_o0))).trans f0_o0
  have f1_o0 := (congrArg (et_pl · 1) (he o0 (puc_ne hu0 k_o0))).trans f1_o0
  have f2_o0 := (congrArg (et_pl · 2) (he o0 (puc_ne hu0 k_o0))).trans f2_o0
  have f3_o0 := (congrArg (et_pl · 3) (he o0 (puc_ne hu0 k_o0))).trans f3_o0
  have f4_o0 := (congrArg (et_pl · 4) (he o0 (puc_ne hu0 k_o0))).trans f4_o0
  have f5_o0 := (congrArg (et_pl · 5) (he o0 (puc_ne hu0 k_o0))).trans f5_o0
  have f7_o0 := (congrArg (et_pl · 7) (he o0 (puc_ne hu0 k_o0))).trans f7_o0
  have f9_o0 := (congrArg (et_pl · 9) (he o0 (puc_ne hu0 k_o0))).trans f9_o0
  have f10_o0 := (congrArg (et_pl · 10) (he o0 (puc_ne hu0 k_o0))).trans f10_o0
  have f0_o1 := (congrArg (et_pl · 0) (he o1 (puc_ne hu0 k_o1))).trans f0_o1
  have f1_o1 := (congrArg (et_pl · 1) (he o1 (puc_ne hu0 k_o1))).trans f1_o1
  have f2_o1 := (congrArg (et_pl · 2) (he o1 (puc_ne hu0 k_o1))).trans f2_o1
  have f3_o1 := (congrArg (et_pl · 3) (he o1 (puc_ne hu0 k_o1))).trans f3_o1
  have f4_o1 := (congrArg (et_pl · 4) (he o1 (puc_ne hu0 k_o1))).trans f4_o1
  have f5_o1 := (congrArg (et_pl · 5) (he o1 (puc_ne hu0 k_o1))).trans f5_o1
  have f7_o1 := (congrArg (et_pl · 7) (he o1 (puc_ne hu0 k_o1))).trans f7_o1
  have f9_o1 := (congrArg (et_pl · 9) (he o1 (puc_ne hu0 k_o1))).trans f9_o1
  have f10_o1 := (congrArg (et_pl · 10) (he o1 (puc_ne hu0 k_o1))).trans f10_o1
  have fl := (congrArg (et_pl · 1) (he o2 (puc_ne hu0 k_o2))).trans fl
  have fba := (congrArg (et_pl · 5) (he o2 (puc_ne hu0 k_o2))).trans fba
  have fna := (congrArg (et_pl · 6) (he o2 (puc_ne hu0 k_o2))).trans fna
  refine hs_aload (i := 0) (p := 65) (by decide +kernel) rfl ?_
  refine hs_k (x := (-1)) (p := 66) (by decide +kernel) ?_
  have hu0 := hu
  refine hs_puti (ci := 10) (f := 7) (ty := .int) (v := .int (-1)) (p := 69) (by decide +kernel) hu (Nat.le_of_ble_eq_true rfl) rfl (fun G66 hu he e2 => ?_)
  have hu : puc _ _ a (.inr (10, [.ref o0, .ref o1, .int 0, .ref o2, .ref o3, .ref o4, .int (-1), .int (-1), .null, .null, .int 0, .null])) := hu
  have hq := hq.pt he e2
  have f0_o0 := (congrArg (et_pl · 0) (he o0 (puc_ne hu0 k_o0))).trans f0_o0
  have f1_o0 := (congrArg (et_pl · 1) (he o0 (puc_ne hu0 k_o0))).trans f1_o0
  have f2_o0 := (congrArg (et_pl · 2) (he o0 (puc_ne hu0 k_o0))).trans f2_o0
  have f3_o0 := (congrArg (et_pl · 3) (he o0 (puc_ne hu0 k_o0))).trans f3_o0
  have f4_o0 := (congrArg (et_pl · 4) (he o0 (puc_ne hu0 k_o0))).trans f4_o0
  have f5_o0 := (congrArg (et_pl · 5) (he o0 (puc_ne hu0 k_o0))).trans f5_o0
  have f7_o0 := (congrArg (et_pl · 7) (he o0 (puc_ne hu0 k_o0))).trans f7_o0
  have f9_o0 := (congrArg (et_pl · 9) (he o0 (puc_ne hu0 k_o0))).trans f9_o0
  have f10_o0 := (congrArg (et_pl · 10) (he o0 (puc_ne hu0 k_o0))).trans f10_o0
  have f0_o1 := (congrArg (et_pl · 0) (he o1 (puc_ne hu0 k_o1))).trans f0_o1
  have f1_o1 := (congrArg (et_pl · 1) (he o1 (puc_ne hu0 k_o1))).trans f1_o1
  have f2_o1 := (congrArg (et_pl · 2) (he o1 (puc_ne hu0 k_o1))).trans f2_o1
  have f3_o1 := (congrArg (et_pl · 3) (he o1 (puc_ne hu0 k_o1))).trans f3_o1
  have f4_o1 := (congrArg (et_pl · 4) (he o1 (puc_ne hu0 k_o1))).trans f4_o1
  have f5_o1 := (congrArg (et_pl · 5) (he o1 (puc_ne hu0 k_o1))).trans f5_o1
  have f7_o1 := (congrArg (et_pl · 7) (he o1 (puc_ne hu0 k_o1))).trans f7_o1
  have f9_o1 := (congrArg (et_pl · 9) (he o1 (puc_ne hu0 k_o1))).trans f9_o1
  have f10_o1 := (congrArg (et_pl · 10) (he o1 (puc_ne hu0 k_o1))).trans f10_o1
  have fl := (congrArg (et_pl · 1) (he o2 (puc_ne hu0 k_o2))).trans fl
  have fba := (congrArg (et_pl · 5) (he o2 (puc_ne hu0 k_o2))).trans fba
  have fna := (congrArg (et_pl · 6) (he o2 (puc_ne hu0 k_o2))).trans fna
  refine hs_aload (i := 0) (p := 70) (by decide +kernel) rfl ?_
  have hHo := hu.1
  refine ht_newV (ci := 1) (n := 8) (fs := [.int 0, .null, .null, .null, .int 0, .int 0, .int 0, .int 0]) (p := 73) (by decide +kernel) (by omega) (by omega) (by decide +kernel) (by decide +kernel) hu.1 (fun G70 o5 ho hge hlt he => ?_)
  refine hs_dup1 (p := 74) (by decide +kernel) ?_
  refine hs_callp (mi := 31) (na := 0) (lk := 1) (lm := 1) (L0 := eg_en (eg_mL 31) [.ref o5]) (by decide +kernel) rfl rfl rfl rfl rfl (by rw [show eg_mL 31 = 1 from by decide +kernel]; first | done | rfl) ?_
  refine (pi_eye ho (by omega)).mono (fun u hZ => pi_cb hZ (fun K74 G74 hq2 hH k_o5 hP => ?_))
  have hk := pk_of hq2 hge hlt he
  have hu := hk.un hH hu
  have hq := hq.mo hk
  have f0_o0 := hk.fl hHo k_o0 f0_o0
  have f1_o0 := hk.fl hHo k_o0 f1_o0
  have f2_o0 := hk.fl hHo k_o0 f2_o0
  have f3_o0 := hk.fl hHo k_o0 f3_o0
  have f4_o0 := hk.fl hHo k_o0 f4_o0
  have f5_o0 := hk.fl hHo k_o0 f5_o0
  have f7_o0 := hk.fl hHo k_o0 f7_o0
  have f9_o0 := hk.fl hHo k_o0 f9_o0
  have f10_o0 := hk.fl hHo k_o0 f10_o0
  have f0_o1 := hk.fl hHo k_o1 f0_o1
  have f1_o1 := hk.fl hHo k_o1 f1_o1
  have f2_o1 := hk.fl hHo k_o1 f2_o1
  have f3_o1 := hk.fl hHo k_o1 f3_o1
  have f4_o1 := hk.fl hHo k_o1 f4_o1
  have f5_o1 := hk.fl hHo k_o1 f5_o1
  have f7_o1 := hk.fl hHo k_o1 f7_o1
  have f9_o1 := hk.fl hHo k_o1 f9_o1
  have f10_o1 := hk.fl hHo k_o1 f10_o1
  have fl := hk.fl hHo k_o2 fl
  have fba := hk.fl hHo k_o2 fba
  have fna := hk.fl hHo k_o2 fna
  have k_o0 := hk.ty hHo k_o0
  have k_ra_o0 := hk.ty hHo k_ra_o0
  have k_ca_o0 := hk.ty hHo k_ca_o0
  have k_la_o0 := hk.ty hHo k_la_o0
  have k_ya_o0 := hk.ty hHo k_ya_o0
  have k_o1 := hk.ty hHo k_o1
  have k_ra_o1 := hk.ty hHo k_ra_o1
  have k_ca_o1 := hk.ty hHo k_ca_o1
  have k_la_o1 := hk.ty hHo k_la_o1
  have k_ya_o1 := hk.ty hHo k_ya_o1
  have k_o2 := hk.ty hHo k_o2
  have k_o3 := hk.ty hHo k_o3
  have k_o4 := hk.ty hHo k_o4
  show et_go none _ 115 77 _ [.ref o5, .ref a] _ 75 5043 _
  have hu0 := hu
  refine hs_puti (ci := 10) (f := 8) (ty := .object "KnobEye$Eye") (v := .ref o5) (p := 80) (by decide +kernel) hu (Nat.le_of_ble_eq_true rfl) rfl (fun G77 hu he e2 => ?_)
  have hu : puc _ _ a (.inr (10, [.ref o0, .ref o1, .int 0, .ref o2, .ref o3, .ref o4, .int (-1), .int (-1), .ref o5, .null, .int 0, .null])) := hu
  have hq := hq.pt he e2
  have f0_o0 := (congrArg (et_pl · 0) (he o0 (puc_ne hu0 k_o0))).trans f0_o0
  have f1_o0 := (congrArg (et_pl · 1) (he o0 (puc_ne hu0 k_o0))).trans f1_o0
  have f2_o0 := (congrArg (et_pl · 2) (he o0 (puc_ne hu0 k_o0))).trans f2_o0
  have f3_o0 := (congrArg (et_pl · 3) (he o0 (puc_ne hu0 k_o0))).trans f3_o0
  have f4_o0 := (congrArg (et_pl · 4) (he o0 (puc_ne hu0 k_o0))).trans f4_o0
  have f5_o0 := (congrArg (et_pl · 5) (he o0 (puc_ne hu0 k_o0))).trans f5_o0
  have f7_o0 := (congrArg (et_pl · 7) (he o0 (puc_ne hu0 k_o0))).trans f7_o0
  have f9_o0 := (congrArg (et_pl · 9) (he o0 (puc_ne hu0 k_o0))).trans f9_o0
  have f10_o0 := (congrArg (et_pl · 10) (he o0 (puc_ne hu0 k_o0))).trans f10_o0
  have f0_o1 := (congrArg (et_pl · 0) (he o1 (puc_ne hu0 k_o1))).trans f0_o1
  have f1_o1 := (congrArg (et_pl · 1) (he o1 (puc_ne hu0 k_o1))).trans f1_o1
  have f2_o1 := (congrArg (et_pl · 2) (he o1 (puc_ne hu0 k_o1))).trans f2_o1
  have f3_o1 := (congrArg (et_pl · 3) (he o1 (puc_ne hu0 k_o1))).trans f3_o1
  have f4_o1 := (congrArg (et_pl · 4) (he o1 (puc_ne hu0 k_o1))).trans f4_o1
  have f5_o1 := (congrArg (et_pl · 5) (he o1 (puc_ne hu0 k_o1))).trans f5_o1
  have f7_o1 := (congrArg (et_pl · 7) (he o1 (puc_ne hu0 k_o1))).trans f7_o1
  have f9_o1 := (congrArg (et_pl · 9) (he o1 (puc_ne hu0 k_o1))).trans f9_o1
  have f10_o1 := (congrArg (et_pl · 10) (he o1 (puc_ne hu0 k_o1))).trans f10_o1
  have fl := (congrArg (et_pl · 1) (he o2 (puc_ne hu0 k_o2))).trans fl
  have fba := (congrArg (et_pl · 5) (he o2 (puc_ne hu0 k_o2))).trans fba
  have fna := (congrArg (et_pl · 6) (he o2 (puc_ne hu0 k_o2))).trans fna
  refine hs_aload (i := 0) (p := 81) (by decide +kernel) rfl ?_
  refine hs_k (x := Int32.ofNat 5) (p := 82) (by decide +kernel) ?_
  have hHo := hu.1
  refine ht_nb (t := 32) (n := 5) (kd := 0) (p := 84) (by decide +kernel) rfl (by decide +kernel) ⟨by decide +kernel, by decide +kernel, by decide +kernel⟩ (by omega) (by omega) hu.1 (fun K82 G82 b82 hk hH k_b82 hg_b82 hz_b82 => ?_)
  have hg_b82 := Nat.le_trans hq.1 hg_b82
  have hu := hk.un hH hu
  have hq := hq.mo hk
  have f0_o0 := hk.fl hHo k_o0 f0_o0
  have f1_o0 := hk.fl hHo k_o0 f1_o0
  have f2_o0 := hk.fl hHo k_o0 f2_o0
  have f3_o0 := hk.fl hHo k_o0 f3_o0
  have f4_o0 := hk.fl hHo k_o0 f4_o0
  have f5_o0 := hk.fl hHo k_o0 f5_o0
  have f7_o0 := hk.fl hHo k_o0 f7_o0
  have f9_o0 := hk.fl hHo k_o0 f9_o0
  have f10_o0 := hk.fl hHo k_o0 f10_o0
  have f0_o1 := hk.fl hHo k_o1 f0_o1
  have f1_o1 := hk.fl hHo k_o1 f1_o1
  have f2_o1 := hk.fl hHo k_o1 f2_o1
  have f3_o1 := hk.fl hHo k_o1 f3_o1
  have f4_o1 := hk.fl hHo k_o1 f4_o1
  have f5_o1 := hk.fl hHo k_o1 f5_o1
  have f7_o1 := hk.fl hHo k_o1 f7_o1
  have f9_o1 := hk.fl hHo k_o1 f9_o1
  have f10_o1 := hk.fl hHo k_o1 f10_o1
  have fl := hk.fl hHo k_o2 fl
  have fba := hk.fl hHo k_o2 fba
  have fna := hk.fl hHo k_o2 fna
  have k_o0 := hk.ty hHo k_o0
  have k_ra_o0 := hk.ty hHo k_ra_o0
  have k_ca_o0 := hk.ty hHo k_ca_o0
  have k_la_o0 := hk.ty hHo k_la_o0
  have k_ya_o0 := hk.ty hHo k_ya_o0
  have k_o1 := hk.ty hHo k_o1
  have k_ra_o1 := hk.ty hHo k_ra_o1
  have k_ca_o1 := hk.ty hHo k_ca_o1
  have k_la_o1 := hk.ty hHo k_la_o1
  have k_ya_o1 := hk.ty hHo k_ya_o1
  have k_o2 := hk.ty hHo k_o2
  have k_o3 := hk.ty hHo k_o3
  have k_o4 := hk.ty hHo k_o4
  have k_o5 := hk.ty hHo k_o5
  have hu0 := hu
  refine hs_puti (ci := 10) (f := 9) (ty := .array .int) (v := .ref b82) (p := 87) (by decide +kernel) hu (Nat.le_of_ble_eq_true rfl) rfl (fun G84 hu he e2 => ?_)
  have hu : puc _ _ a (.inr (10, [.ref o0, .ref o1, .int 0, .ref o2, .ref o3, .ref o4, .int (-1), .int (-1), .ref o5, .ref b82, .int 0, .null])) := hu
  have hq := hq.pt he e2
  have f0_o0 := (congrArg (et_pl · 0) (he o0 (puc_ne hu0 k_o0))).trans f0_o0
  have f1_o0 := (congrArg (et_pl · 1) (he o0 (puc_ne hu0 k_o0))).trans f1_o0
  have f2_o0 := (congrArg (et_pl · 2) (he o0 (puc_ne hu0 k_o0))).trans f2_o0
  have f3_o0 := (congrArg (et_pl · 3) (he o0 (puc_ne hu0 k_o0))).trans f3_o0
  have f4_o0 := (congrArg (et_pl · 4) (he o0 (puc_ne hu0 k_o0))).trans f4_o0
  have f5_o0 := (congrArg (et_pl · 5) (he o0 (puc_ne hu0 k_o0))).trans f5_o0
  have f7_o0 := (congrArg (et_pl · 7) (he o0 (puc_ne hu0 k_o0))).trans f7_o0
  have f9_o0 := (congrArg (et_pl · 9) (he o0 (puc_ne hu0 k_o0))).trans f9_o0
  have f10_o0 := (congrArg (et_pl · 10) (he o0 (puc_ne hu0 k_o0))).trans f10_o0
  have f0_o1 := (congrArg (et_pl · 0) (he o1 (puc_ne hu0 k_o1))).trans f0_o1
  have f1_o1 := (congrArg (et_pl · 1) (he o1 (puc_ne hu0 k_o1))).trans f1_o1
  have f2_o1 := (congrArg (et_pl · 2) (he o1 (puc_ne hu0 k_o1))).trans f2_o1
  have f3_o1 := (congrArg (et_pl · 3) (he o1 (puc_ne hu0 k_o1))).trans f3_o1
  have f4_o1 := (congrArg (et_pl · 4) (he o1 (puc_ne hu0 k_o1))).trans f4_o1
  have f5_o1 := (congrArg (et_pl · 5) (he o1 (puc_ne hu0 k_o1))).trans f5_o1
  have f7_o1 := (congrArg (et_pl · 7) (he o1 (puc_ne hu0 k_o1))).trans f7_o1
  have f9_o1 := (congrArg (et_pl · 9) (he o1 (puc_ne hu0 k_o1))).trans f9_o1
  have f10_o1 := (congrArg (et_pl · 10) (he o1 (puc_ne hu0 k_o1))).trans f10_o1
  have fl := (congrArg (et_pl · 1) (he o2 (puc_ne hu0 k_o2))).trans fl
  have fba := (congrArg (et_pl · 5) (he o2 (puc_ne hu0 k_o2))).trans fba
  have fna := (congrArg (et_pl · 6) (he o2 (puc_ne hu0 k_o2))).trans fna
  refine hs_aload (i := 0) (p := 88) (by decide +kernel) rfl ?_
  have hHo := hu.1
  refine ht_newV (ci := 3) (n := 3) (fs := [.null, .null, .int 0]) (p := 91) (by decide +kernel) (by omega) (by omega) (by decide +kernel) (by decide +kernel) hu.1 (fun G88 o6 ho hge hlt he => ?_)
  refine hs_dup1 (p := 92) (by decide +kernel) ?_
  refine hs_callp (mi := 57) (na := 0) (lk := 1) (lm := 1) (L0 := eg_en (eg_mL 57) [.ref o6]) (by decide +kernel) rfl rfl rfl rfl rfl (by rw [show eg_mL 57 = 1 from by decide +kernel]; first | done | rfl) ?_
  refine (pi_likes ho (by omega)).mono (fun u hZ => pi_cb hZ (fun K92 G92 hq2 hH k_o6 hP => ?_))
  have hk := pk_of hq2 hge hlt he
  have hu := hk.un hH hu
  have hq := hq.mo hk
  have f0_o0 := hk.fl hHo k_o0 f0_o0
  have f1_o0 := hk.fl hHo k_o0 f1_o0
  have f2_o0 := hk.fl hHo k_o0 f2_o0
  have f3_o0 := hk.fl hHo k_o0 f3_o0
  have f4_o0 := hk.fl hHo k_o0 f4_o0
  have f5_o0 := hk.fl hHo k_o0 f5_o0
  have f7_o0 := hk.fl hHo k_o0 f7_o0
  have f9_o0 := hk.fl hHo k_o0 f9_o0
  have f10_o0 := hk.fl hHo k_o0 f10_o0
  have f0_o1 := hk.fl hHo k_o1 f0_o1
  have f1_o1 := hk.fl hHo k_o1 f1_o1
  have f2_o1 := hk.fl hHo k_o1 f2_o1
  have f3_o1 := hk.fl hHo k_o1 f3_o1
  have f4_o1 := hk.fl hHo k_o1 f4_o1
  have f5_o1 := hk.fl hHo k_o1 f5_o1
  have f7_o1 := hk.fl hHo k_o1 f7_o1
  have f9_o1 := hk.fl hHo k_o1 f9_o1
  have f10_o1 := hk.fl hHo k_o1 f10_o1
  have fl := hk.fl hHo k_o2 fl
  have fba := hk.fl hHo k_o2 fba
  have fna := hk.fl hHo k_o2 fna
  have k_o0 := hk.ty hHo k_o0
  have k_ra_o0 := hk.ty hHo k_ra_o0
  have k_ca_o0 := hk.ty hHo k_ca_o0
  have k_la_o0 := hk.ty hHo k_la_o0
  have k_ya_o0 := hk.ty hHo k_ya_o0
  have k_o1 := hk.ty hHo k_o1
  have k_ra_o1 := hk.ty hHo k_ra_o1
  have k_ca_o1 := hk.ty hHo k_ca_o1
  have k_la_o1 := hk.ty hHo k_la_o1
  have k_ya_o1 := hk.ty hHo k_ya_o1
  have k_o2 := hk.ty hHo k_o2
  have k_o3 := hk.ty hHo k_o3
  have k_o4 := hk.ty hHo k_o4
  have k_o5 := hk.ty hHo k_o5
  have k_b82 := hk.ty hHo k_b82
  show et_go none _ 115 95 _ [.ref o6, .ref a] _ 79 136123 _
  have hu0 := hu
  refine hs_puti (ci := 10) (f := 11) (ty := .object "KnobEye$Likes") (v := .ref o6) (p := 98) (by decide +kernel) hu (Nat.le_of_ble_eq_true rfl) rfl (fun G95 hu he e2 => ?_)
  have hu : puc _ _ a (.inr (10, [.ref o0, .ref o1, .int 0, .ref o2, .ref o3, .ref o4, .int (-1), .int (-1), .ref o5, .ref b82, .int 0, .ref o6])) := hu
  have hq := hq.pt he e2
  have f0_o0 := (congrArg (et_pl · 0) (he o0 (puc_ne hu0 k_o0))).trans f0_o0
  have f1_o0 := (congrArg (et_pl · 1) (he o0 (puc_ne hu0 k_o0))).trans f1_o0
  have f2_o0 := (congrArg (et_pl · 2) (he o0 (puc_ne hu0 k_o0))).trans f2_o0
  have f3_o0 := (congrArg (et_pl · 3) (he o0 (puc_ne hu0 k_o0))).trans f3_o0
  have f4_o0 := (congrArg (et_pl · 4) (he o0 (puc_ne hu0 k_o0))).trans f4_o0
  have f5_o0 := (congrArg (et_pl · 5) (he o0 (puc_ne hu0 k_o0))).trans f5_o0
  have f7_o0 := (congrArg (et_pl · 7) (he o0 (puc_ne hu0 k_o0))).trans f7_o0
  have f9_o0 := (congrArg (et_pl · 9) (he o0 (puc_ne hu0 k_o0))).trans f9_o0
  have f10_o0 := (congrArg (et_pl · 10) (he o0 (puc_ne hu0 k_o0))).trans f10_o0
  have f0_o1 := (congrArg (et_pl · 0) (he o1 (puc_ne hu0 k_o1))).trans f0_o1
  have f1_o1 := (congrArg (et_pl · 1) (he o1 (puc_ne hu0 k_o1))).trans f1_o1
  have f2_o1 := (congrArg (et_pl · 2) (he o1 (puc_ne hu0 k_o1))).trans f2_o1
  have f3_o1 := (congrArg (et_pl · 3) (he o1 (puc_ne hu0 k_o1))).trans f3_o1
  have f4_o1 := (congrArg (et_pl · 4) (he o1 (puc_ne hu0 k_o1))).trans f4_o1
  have f5_o1 := (congrArg (et_pl · 5) (he o1 (puc_ne hu0 k_o1))).trans f5_o1
  have f7_o1 := (congrArg (et_pl · 7) (he o1 (puc_ne hu0 k_o1))).trans f7_o1
  have f9_o1 := (congrArg (et_pl · 9) (he o1 (puc_ne hu0 k_o1))).trans f9_o1
  have f10_o1 := (congrArg (et_pl · 10) (he o1 (puc_ne hu0 k_o1))).trans f10_o1
  have fl := (congrArg (et_pl · 1) (he o2 (puc_ne hu0 k_o2))).trans fl
  have fba := (congrArg (et_pl · 5) (he o2 (puc_ne hu0 k_o2))).trans fba
  have fna := (congrArg (et_pl · 6) (he o2 (puc_ne hu0 k_o2))).trans fna
  obtain ⟨hHt, kt⟩ := puc_typ (t := 12) hu (by decide) rfl ⟨_, rfl, rfl, fun k p hk => by
      match k, hk with
      | 0, hk => cases hk; exact ⟨_, rfl, .inr (.inr ⟨by decide, _, rfl, k_o0⟩)⟩
      | 1, hk => cases hk; exact ⟨_, rfl, .inr (.inr ⟨by decide, _, rfl, k_o1⟩)⟩
      | 2, hk => cases hk; exact ⟨_, rfl, .inr ⟨_, rfl, by decide, by decide⟩⟩
      | 3, hk => cases hk; exact ⟨_, rfl, .inr (.inr ⟨by decide, _, rfl, k_o2⟩)⟩
      | 4, hk => cases hk; exact ⟨_, rfl, .inr (.inr ⟨by decide, _, rfl, k_o3⟩)⟩
      | 5, hk => cases hk; exact ⟨_, rfl, .inr (.inr ⟨by decide, _, rfl, k_o4⟩)⟩
      | 6, hk => cases hk; exact ⟨_, rfl, .inr ⟨_, rfl, by decide, by decide⟩⟩
      | 7, hk => cases hk; exact ⟨_, rfl, .inr ⟨_, rfl, by decide, by decide⟩⟩
      | 8, hk => cases hk; exact ⟨_, rfl, .inr (.inr ⟨by decide, _, rfl, k_o5⟩)⟩
      | 9, hk => cases hk; exact ⟨_, rfl, .inr (.inr ⟨by decide, _, rfl, k_b82⟩)⟩
      | 10, hk => cases hk; exact ⟨_, rfl, .inr ⟨_, rfl, by decide, by decide⟩⟩
      | 11, hk => cases hk; exact ⟨_, rfl, .inr (.inr ⟨by decide, _, rfl, k_o6⟩)⟩
      | n + 12, hk => cases hk⟩ ⟨fun h => absurd h (by decide), fun h => absurd h (by decide)⟩
  refine hs_vret (by decide +kernel) ?_
  exact ⟨_, hq.ty (.inl rfl), hHt, kt, rfl, rfl, rfl, ⟨⟨⟨o2, by rw [hu.2.2.2.2]; rfl, et_kn_k hu k_o2, fl, ba, na, fba, fna, hbn⟩, o0, o1, ra_o0, ca_o0, ra_o1, ca_o1, kt, ⟨by rw [hu.2.2.2.2]; rfl, by rw [hu.2.2.2.2]; rfl⟩, ⟨hne0, hnr, hnc⟩, ⟨⟨⟨et_kn_k hu k_o0, et_kn_k hu k_ra_o0, et_kn_k hu k_ca_o0⟩, ⟨f1_o0, f10_o0⟩, ⟨f0_o0, f5_o0, f9_o0⟩⟩, f2_o0, f7_o0⟩, ⟨⟨⟨et_kn_k hu k_o1, et_kn_k hu k_ra_o1, et_kn_k hu k_ca_o1⟩, ⟨f1_o1, f10_o1⟩, ⟨f0_o1, f5_o1, f9_o1⟩⟩, f2_o1, f7_o1⟩, la_o0, ya_o0, la_o1, ya_o1, ⟨f3_o0, f4_o0, f3_o1, f4_o1⟩, ⟨et_kn_k hu k_la_o0, et_kn_k hu k_ya_o0, et_kn_k hu k_la_o1, et_kn_k hu k_ya_o1⟩, hnl, hny⟩, by rw [hu.2.2.2.2]; rfl⟩⟩
end PPH
end
section
/-! FUNCTIONAL: along, cloud: both sides -/
section TXA
variable {K : et_K} {G : eg_G} {d d2 th st la ya am aw n v out : Nat} {x : Int32} {X : Nat → Int32} {Y : Nat → Nat}
theorem fc_needCell (hH : et_H et_TT K G) : et_go none d2 161 0 (eg_en (eg_mL 161) [.int x]) [] G 0 0 (xe_Z (fun _ _ => False) K G (fun G' r => (¬ (0 ≤ x.toInt ∧ x.toInt < 16) ∧ r = .inr 1 ∧ G' = G) ∨ ((0 ≤ x.toInt ∧ x.toInt < 16) ∧ r = .inl none ∧ G' = G))) := by
  have hz : (0 : Int32).toInt = 0 := rfl
  have h6 : (Int32.ofNat 16).toInt = 16 := rfl
  have hX : xf (fun _ _ => False) G G := xf.rf
  rw [show eg_mL 161 = 1 from by decide +kernel]
  show et_go none d2 161 0 [some (.int x)] [] G 0 0 (xe_Z _ _ _ _)
  refine hs_iload (i := 0) (p := 1) (by decide +kernel) rfl ?_
  refine hs_br1 (c := .lt) (t := 10) (f := 4) (by decide +kernel) (fun (c1 : x < 0) => ?_) (fun (c1 : ¬ (x < 0)) => ?_)
  · refine hs_thr (x := 1) (lk := 1) (by decide +kernel) rfl rfl ?_
    simp only [Int32.lt_iff_toInt_lt, Int32.le_iff_toInt_le, hz, h6] at c1
    exact ⟨_, _, _, _, rfl, hH, hX, .inl ⟨by omega, rfl, rfl⟩⟩
  · refine hs_iload (i := 0) (p := 5) (by decide +kernel) rfl ?_
    refine hs_k (x := Int32.ofNat 16) (p := 7) (by decide +kernel) ?_
    refine hs_br2 (c := .lt) (t := 18) (f := 10) (by decide +kernel) (fun (c7 : x < Int32.ofNat 16) => ?_) (fun (c7 : ¬ (x < Int32.ofNat 16)) => ?_)
    · refine hs_vret (by decide +kernel) ?_
      simp only [Int32.lt_iff_toInt_lt, Int32.le_iff_toInt_le, hz, h6] at c1 c7
      exact ⟨_, _, _, _, rfl, hH, hX, .inr ⟨by omega, rfl, rfl⟩⟩
    · refine hs_thr (x := 1) (lk := 1) (by decide +kernel) rfl rfl ?_
      simp only [Int32.lt_iff_toInt_lt, Int32.le_iff_toInt_le, hz, h6] at c1 c7
      exact ⟨_, _, _, _, rfl, hH, hX, .inl ⟨by omega, rfl, rfl⟩⟩
theorem fc_along (hH : et_H et_TT K G) (k_th : K th = some 12) (h0 : et_pl (eg_at G th) 0 = some (.ref st)) (k_st : K st = some 10) (k_la : K la = some 17) (k_ya : K ya = some 27) (h2 : et_pl (eg_at G st) 2 = some (.int (Int32.ofNat n))) (h3 : et_pl (eg_at G st) 3 = some (.ref la)) (h4 : et_pl (eg_at G st) 4 = some (.ref ya)) (hn : n ≤ 20) (hc : ∀ k, k < n → et_pl (eg_at G la) k = some (.int (X k)) ∧ et_pl (eg_at G ya) k = some (.int (Int32.ofNat (Y k))) ∧ Y k ≤ 1) (hd : 2 ≤ d2) : et_go none d2 163 0 (eg_en (eg_mL 163) [.ref th, .int x]) [] G 0 0 (fun u => (¬ (0 ≤ x.toInt ∧ x.toInt < 16) ∧ u.1 = .inr 1) ∨ ∃ v, x = Int32.ofNat v ∧ v < 16 ∧ u.1 = .inl (some (.int (Int32.ofNat (alN X Y v n))))) := by
  obtain ⟨d, rfl⟩ : ∃ d, d2 = d + 2 := ⟨d2 - 2, by omega⟩
  rw [show eg_mL 163 = 2 from by decide +kernel]
  show et_go none (d + 2) 163 0 [some (.ref th), some (.int x)] [] G 0 0 _
  refine hs_iload (i := 1) (p := 1) (by decide +kernel) rfl ?_
  refine hs_calls (mi := 161) (na := 1) (lk := 2) (lm := 1) (L0 := eg_en (eg_mL 161) [.int x]) (by decide +kernel) rfl rfl rfl rfl rfl rfl (by rw [show eg_mL 161 = 1 from by decide +kernel]; first | done | rfl) ?_
  refine (fc_needCell (K := K) (x := x) hH).mono (fun u hu => ?_)
  obtain ⟨G1, q, c1, s1, rfl, -, -, h⟩ := hu
  rcases h with ⟨hl, rfl, hg⟩ | ⟨hl, rfl, hg⟩ <;> subst hg
  · refine hf_cx (by decide +kernel) ?_
    exact .inl ⟨hl, rfl⟩
  refine hs_cb ?_
  show et_go none _ 163 4 _ [] _ _ _ _
  refine hs_aload (i := 0) (p := 5) (by decide +kernel) rfl ?_
  refine hf_get (T := et_TT) (t := 12) (ci := 10) (f := 0) (p := 8) (by decide +kernel) rfl hH k_th h0 ?_
  refine hs_iload (i := 1) (p := 9) (by decide +kernel) rfl ?_
  obtain ⟨v, hv, rfl⟩ : ∃ v, v < 16 ∧ x = Int32.ofNat v := ⟨x.toInt.toNat, by omega, hi_of (by omega) (by omega)⟩
  refine ht_callv (T := et_TT) (t := 10) (mi := 102) (na := 1) (ci := 8) (lk := 2) (lm := 4) (L0 := eg_en (eg_mL 102) [.ref st, .int (Int32.ofNat v)]) (by decide +kernel) rfl hH k_st rfl rfl rfl rfl rfl (by rw [show eg_mL 102 = 4 from by decide +kernel]; first | done | rfl) ?_
  refine (fc_ga (v := v) hH k_st k_la k_ya h2 h3 h4 hn hc (by omega)).mono (fun u hu => xp_cb hu ?_)
  refine hs_iret (by decide +kernel) ?_
  exact .inr ⟨v, rfl, hv, rfl⟩
theorem fc_cloudL {t : Nat} (hH : et_H et_TT K G) (k_th : K th = some 12) (h0 : et_pl (eg_at G th) 0 = some (.ref st)) (k_st : K st = some 10) (k_la : K la = some 17) (k_ya : K ya = some 27) (h2 : et_pl (eg_at G st) 2 = some (.int (Int32.ofNat n))) (h3 : et_pl (eg_at G st) 3 = some (.ref la)) (h4 : et_pl (eg_at G st) 4 = some (.ref ya)) (hn : n ≤ 20) (hc : ∀ k, k < n → et_pl (eg_at G la) k = some (.int (X k)) ∧ et_pl (eg_at G ya) k = some (.int (Int32.ofNat (Y k))) ∧ Y k ≤ 1) (ht1 : 1 ≤ t) (ht : t ≤ 16) : et_go none (d + 2) 121 16 [some (.ref th), some (.int (Int32.ofNat (clB (fun v => alN X Y v n) t))), some (.int (Int32.ofNat t))] [] G 0 0 (xp_Z G (some (.int (Int32.ofNat (clB (fun v => alN X Y v n) 16))))) := by
  induction hm : 16 - t using Nat.strongRecOn generalizing t with
  | _ z ih =>
    have hcl := clB_lt (f := fun v => alN X Y v n) t ht1
    have ha1 := alN_le (X := X) (Y := Y) (v := t) n
    have ha2 := alN_le (X := X) (Y := Y) (v := (clB (fun v => alN X Y v n) t)) n
    have lt_th := (hH.2.2 _ _ k_th).1
    have lt_st := (hH.2.2 _ _ k_st).1
    have lt_la := (hH.2.2 _ _ k_la).1
    have lt_ya := (hH.2.2 _ _ k_ya).1
    refine hs_iload (i := 2) (p := 17) (by decide +kernel) rfl ?_
    refine hs_k (x := Int32.ofNat 16) (p := 19) (by decide +kernel) ?_
    refine hs_br2n (c := .ge) (t := 49) (f := 22) (by decide +kernel) (by omega) (by omega) (fun (c19 : 16 ≤ t) => ?_) (fun (c19 : ¬ (16 ≤ t)) => ?_)
    · refine hs_iload (i := 1) (p := 50) (by decide +kernel) rfl ?_
      refine hs_iret (by decide +kernel) ?_
      obtain rfl : t = 16 := by omega
      rfl
    · refine hs_aload (i := 0) (p := 23) (by decide +kernel) rfl ?_
      refine hf_get (T := et_TT) (t := 12) (ci := 10) (f := 0) (p := 26) (by decide +kernel) rfl hH k_th h0 ?_
      refine hs_iload (i := 2) (p := 27) (by decide +kernel) rfl ?_
      refine ht_callv (T := et_TT) (t := 10) (mi := 102) (na := 1) (ci := 8) (lk := 3) (lm := 4) (L0 := eg_en (eg_mL 102) [.ref st, .int (Int32.ofNat t)]) (by decide +kernel) rfl hH k_st rfl rfl rfl rfl rfl (by rw [show eg_mL 102 = 4 from by decide +kernel]; first | done | rfl) ?_
      refine (fc_ga (v := t) hH k_st k_la k_ya h2 h3 h4 hn hc (by omega)).mono (fun u hu => xp_cb hu ?_)
      show et_go none _ 121 30 _ [.int (Int32.ofNat (alN X Y t n))] _ _ _ _
      refine hs_aload (i := 0) (p := 31) (by decide +kernel) rfl ?_
      refine hf_get (T := et_TT) (t := 12) (ci := 10) (f := 0) (p := 34) (by decide +kernel) rfl hH k_th h0 ?_
      refine hs_iload (i := 1) (p := 35) (by decide +kernel) rfl ?_
      refine ht_callv (T := et_TT) (t := 10) (mi := 102) (na := 1) (ci := 8) (lk := 3) (lm := 4) (L0 := eg_en (eg_mL 102) [.ref st, .int (Int32.ofNat (clB (fun v => alN X Y v n) t))]) (by decide +kernel) rfl hH k_st rfl rfl rfl rfl rfl (by rw [show eg_mL 102 = 4 from by decide +kernel]; first | done | rfl) ?_
      refine (fc_ga (v := (clB (fun v => alN X Y v n) t)) hH k_st k_la k_ya h2 h3 h4 hn hc (by omega)).mono (fun u hu => xp_cb hu ?_)
      show et_go none _ 121 38 _ [.int (Int32.ofNat (alN X Y (clB (fun v => alN X Y v n) t) n)), .int (Int32.ofNat (alN X Y t n))] _ _ _ _
      refine hs_br2n (c := .le) (t := 43) (f := 41) (by decide +kernel) (by omega) (by omega) (fun (c38 : (alN X Y t n) ≤ (alN X Y (clB (fun v => alN X Y v n) t) n)) => ?_) (fun (c38 : ¬ ((alN X Y t n) ≤ (alN X Y (clB (fun v => alN X Y v n) t) n))) => ?_)
      · refine hs_iinc1 (i := 2) (p := 46) (by decide +kernel) rfl (Nat.le_of_ble_eq_true rfl) ?_
        refine hs_goto (p := 16) (by decide +kernel) ?_
        have e9 : clB (fun v => alN X Y v n) (t + 1) = (clB (fun v => alN X Y v n) t) := if_neg (show ¬ alN X Y (clB (fun v => alN X Y v n) t) n < alN X Y t n by omega)
        show et_go none (d + 2) 121 16 [some (.ref th), some (.int (Int32.ofNat (clB (fun v => alN X Y v n) t))), some (.int (Int32.ofNat (t + 1)))] [] _ _ _ _
        have hx := ih (16 - (t + 1)) (by omega) (by omega) (by omega) rfl
        rw [e9] at hx
        exact hx
      · refine hs_iload (i := 2) (p := 42) (by decide +kernel) rfl ?_
        refine hs_istore (i := 1) (p := 43) (by decide +kernel) (Nat.le_of_ble_eq_true rfl) ?_
        refine hs_iinc1 (i := 2) (p := 46) (by decide +kernel) rfl (Nat.le_of_ble_eq_true rfl) ?_
        refine hs_goto (p := 16) (by decide +kernel) ?_
        have e9 : clB (fun v => alN X Y v n) (t + 1) = t := if_pos (show alN X Y (clB (fun v => alN X Y v n) t) n < alN X Y t n by omega)
        show et_go none (d + 2) 121 16 [some (.ref th), some (.int (Int32.ofNat t)), some (.int (Int32.ofNat (t + 1)))] [] _ _ _ _
        have hx := ih (16 - (t + 1)) (by omega) (by omega) (by omega) rfl
        rw [e9] at hx
        exact hx
theorem fm_cloudL {t : Nat} (hH : et_H et_TT K G) (k_am : K am = some 13) (k_aw : K aw = some 46) (m1 : et_pl (eg_at G am) 1 = some (.ref aw)) (w3 : et_pl (eg_at G aw) 3 = some (.int (Int32.ofNat n))) (hn : n ≤ 20) (hc : ∀ k, k < n → et_pl (eg_at G aw) (5 + 2 * k) = some (.int (X k)) ∧ et_pl (eg_at G aw) (6 + 2 * k) = some (.int (Int32.ofNat (Y k))) ∧ Y k ≤ 1) (ht1 : 1 ≤ t) (ht : t ≤ 16) : et_go none (d + 2) 278 18 [some (.ref am), some (.int (Int32.ofNat (clB (fun v => alN X Y v n) t))), some (.int (Int32.ofNat t))] [] G 0 0 (xp_Z G (some (.int (Int32.ofNat (clB (fun v => alN X Y v n) 16))))) := by
  induction hm : 16 - t using Nat.strongRecOn generalizing t with
  | _ z ih =>
    have hcl := clB_lt (f := fun v => alN X Y v n) t ht1
    have ha1 := alN_le (X := X) (Y := Y) (v := t) n
    have ha2 := alN_le (X := X) (Y := Y) (v := (clB (fun v => alN X Y v n) t)) n
    have lt_am := (hH.2.2 _ _ k_am).1
    have lt_aw := (hH.2.2 _ _ k_aw).1
    refine hs_iload (i := 2) (p := 19) (by decide +kernel) rfl ?_
    refine hs_k (x := Int32.ofNat 16) (p := 21) (by decide +kernel) ?_
    refine hs_br2n (c := .ge) (t := 45) (f := 24) (by decide +kernel) (by omega) (by omega) (fun (c21 : 16 ≤ t) => ?_) (fun (c21 : ¬ (16 ≤ t)) => ?_)
    · refine hs_iload (i := 1) (p := 46) (by decide +kernel) rfl ?_
      refine hs_iret (by decide +kernel) ?_
      obtain rfl : t = 16 := by omega
      rfl
    · refine hs_aload (i := 0) (p := 25) (by decide +kernel) rfl ?_
      refine hs_iload (i := 2) (p := 26) (by decide +kernel) rfl ?_
      refine ht_callv (T := et_TT) (t := 13) (mi := 277) (na := 1) (ci := 11) (lk := 3) (lm := 4) (L0 := eg_en (eg_mL 277) [.ref am, .int (Int32.ofNat t)]) (by decide +kernel) rfl hH k_am rfl rfl rfl rfl rfl (by rw [show eg_mL 277 = 4 from by decide +kernel]; first | done | rfl) ?_
      refine (fm_ga (v := t) hH k_am k_aw m1 w3 hn hc (by omega)).mono (fun u hu => xp_cb hu ?_)
      show et_go none _ 278 29 _ [.int (Int32.ofNat (alN X Y t n))] _ _ _ _
      refine hs_aload (i := 0) (p := 30) (by decide +kernel) rfl ?_
      refine hs_iload (i := 1) (p := 31) (by decide +kernel) rfl ?_
      refine ht_callv (T := et_TT) (t := 13) (mi := 277) (na := 1) (ci := 11) (lk := 3) (lm := 4) (L0 := eg_en (eg_mL 277) [.ref am, .int (Int32.ofNat (clB (fun v => alN X Y v n) t))]) (by decide +kernel) rfl hH k_am rfl rfl rfl rfl rfl (by rw [show eg_mL 277 = 4 from by decide +kernel]; first | done | rfl) ?_
      refine (fm_ga (v := (clB (fun v => alN X Y v n) t)) hH k_am k_aw m1 w3 hn hc (by omega)).mono (fun u hu => xp_cb hu ?_)
      show et_go none _ 278 34 _ [.int (Int32.ofNat (alN X Y (clB (fun v => alN X Y v n) t) n)), .int (Int32.ofNat (alN X Y t n))] _ _ _ _
      refine hs_br2n (c := .le) (t := 39) (f := 37) (by decide +kernel) (by omega) (by omega) (fun (c34 : (alN X Y t n) ≤ (alN X Y (clB (fun v => alN X Y v n) t) n)) => ?_) (fun (c34 : ¬ ((alN X Y t n) ≤ (alN X Y (clB (fun v => alN X Y v n) t) n))) => ?_)
      · refine hs_iinc1 (i := 2) (p := 42) (by decide +kernel) rfl (Nat.le_of_ble_eq_true rfl) ?_
        refine hs_goto (p := 18) (by decide +kernel) ?_
        have e9 : clB (fun v => alN X Y v n) (t + 1) = (clB (fun v => alN X Y v n) t) := if_neg (show ¬ alN X Y (clB (fun v => alN X Y v n) t) n < alN X Y t n by omega)
        show et_go none (d + 2) 278 18 [some (.ref am), some (.int (Int32.ofNat (clB (fun v => alN X Y v n) t))), some (.int (Int32.ofNat (t + 1)))] [] _ _ _ _
        have hx := ih (16 - (t + 1)) (by omega) (by omega) (by omega) rfl
        rw [e9] at hx
        exact hx
      · refine hs_iload (i := 2) (p := 38) (by decide +kernel) rfl ?_
        refine hs_istore (i := 1) (p := 39) (by decide +kernel) (Nat.le_of_ble_eq_true rfl) ?_
        refine hs_iinc1 (i := 2) (p := 42) (by decide +kernel) rfl (Nat.le_of_ble_eq_true rfl) ?_
        refine hs_goto (p := 18) (by decide +kernel) ?_
        have e9 : clB (fun v => alN X Y v n) (t + 1) = t := if_pos (show alN X Y (clB (fun v => alN X Y v n) t) n < alN X Y t n by omega)
        show et_go none (d + 2) 278 18 [some (.ref am), some (.int (Int32.ofNat t)), some (.int (Int32.ofNat (t + 1)))] [] _ _ _ _
        have hx := ih (16 - (t + 1)) (by omega) (by omega) (by omega) rfl
        rw [e9] at hx
        exact hx
theorem fc_cloud (hH : et_H et_TT K G) (k_th : K th = some 12) (h0 : et_pl (eg_at G th) 0 = some (.ref st)) (k_st : K st = some 10) (k_la : K la = some 17) (k_ya : K ya = some 27) (h2 : et_pl (eg_at G st) 2 = some (.int (Int32.ofNat n))) (h3 : et_pl (eg_at G st) 3 = some (.ref la)) (h4 : et_pl (eg_at G st) 4 = some (.ref ya)) (hn : n ≤ 20) (hc : ∀ k, k < n → et_pl (eg_at G la) k = some (.int (X k)) ∧ et_pl (eg_at G ya) k = some (.int (Int32.ofNat (Y k))) ∧ Y k ≤ 1) (hd : 2 ≤ d2) : et_go none d2 121 0 (eg_en (eg_mL 121) [.ref th]) [] G 0 0 (xp_Z G (some (if n = 0 then Value.int (-1) else .int (Int32.ofNat (clB (fun v => alN X Y v n) 16))))) := by
  obtain ⟨d, rfl⟩ : ∃ d, d2 = d + 2 := ⟨d2 - 2, by omega⟩
  rw [show eg_mL 121 = 3 from by decide +kernel]
  show et_go none (d + 2) 121 0 [some (.ref th), none, none] [] G 0 0 _
  have lt_th := (hH.2.2 _ _ k_th).1
  have lt_st := (hH.2.2 _ _ k_st).1
  have lt_la := (hH.2.2 _ _ k_la).1
  have lt_ya := (hH.2.2 _ _ k_ya).1
  refine hs_aload (i := 0) (p := 1) (by decide +kernel) rfl ?_
  refine hf_get (T := et_TT) (t := 12) (ci := 10) (f := 0) (p := 4) (by decide +kernel) rfl hH k_th h0 ?_
  refine hf_get (T := et_TT) (t := 10) (ci := 8) (f := 2) (p := 7) (by decide +kernel) rfl hH k_st h2 ?_
  refine hs_br1 (c := .ne) (t := 12) (f := 10) (by decide +kernel) (fun (c7 : ¬ Int32.ofNat n = 0) => ?_) (fun (c7 : ¬ (¬ Int32.ofNat n = 0)) => ?_)
  · refine hs_k (x := Int32.ofNat 0) (p := 13) (by decide +kernel) ?_
    refine hs_istore (i := 1) (p := 14) (by decide +kernel) (Nat.le_of_ble_eq_true rfl) ?_
    refine hs_k (x := Int32.ofNat 1) (p := 15) (by decide +kernel) ?_
    refine hs_istore (i := 2) (p := 16) (by decide +kernel) (Nat.le_of_ble_eq_true rfl) ?_
    have hn0 : ¬ n = 0 := fun h => by rw [h] at c7; exact c7 rfl
    rw [if_neg hn0]
    have e1 : clB (fun v => alN X Y v n) 1 = 0 := by first | (show (if _ then _ else _) = 0; split <;> rfl) | (unfold clB; split <;> rfl)
    have hx := fc_cloudL (d := d) (t := 1) hH k_th h0 k_st k_la k_ya h2 h3 h4 hn hc (by decide) (by decide)
    rw [e1] at hx
    exact hx
  · refine hs_k (x := (-1)) (p := 11) (by decide +kernel) ?_
    refine hs_iret (by decide +kernel) ?_
    have hn0 : n = 0 := by have h := Decidable.of_not_not c7; have h5 := congrArg Int32.toInt h; rw [hs_nint (by omega)] at h5; have h6 : (0 : Int32).toInt = 0 := rfl; omega
    rw [if_pos hn0]
    rfl
theorem fh_along (hH : et_H et_TT K G) (k_th : K th = some 12) (h0 : et_pl (eg_at G th) 0 = some (.ref st)) (k_st : K st = some 10) (k_la : K la = some 17) (k_ya : K ya = some 27) (h2 : et_pl (eg_at G st) 2 = some (.int (Int32.ofNat n))) (h3 : et_pl (eg_at G st) 3 = some (.ref la)) (h4 : et_pl (eg_at G st) 4 = some (.ref ya)) (hn : n ≤ 20) (hc : ∀ k, k < n → et_pl (eg_at G la) k = some (.int (X k)) ∧ et_pl (eg_at G ya) k = some (.int (Int32.ofNat (Y k))) ∧ Y k ≤ 1) (k_out : K out = some 31) (hd : 4 ≤ d2) : et_go none d2 22 0 (eg_en (eg_mL 22) [.ref th, .int x, .ref out]) [] G 0 0 (fun u => (¬ (0 ≤ x.toInt ∧ x.toInt < 16) ∧ u.1 = .inl (some (.int (Int32.ofNat 1)))) ∨ ∃ v, x = Int32.ofNat v ∧ v < 16 ∧ u.1 = .inl (some (.int (Int32.ofNat 0))) ∧ et_pl (eg_at u.2.1 out) 0 = some (.long (Int32.ofNat (alN X Y v n)).toInt64)) := by
  obtain ⟨d, rfl⟩ : ∃ d, d2 = d + 4 := ⟨d2 - 4, by omega⟩
  rw [show eg_mL 22 = 4 from by decide +kernel]
  show et_go none (d + 4) 22 0 [some (.ref th), some (.int x), some (.ref out), none] [] G 0 0 _
  refine hs_aload (i := 2) (p := 1) (by decide +kernel) rfl ?_
  refine hs_k (x := Int32.ofNat 0) (p := 2) (by decide +kernel) ?_
  refine hs_aload (i := 0) (p := 3) (by decide +kernel) rfl ?_
  refine hs_iload (i := 1) (p := 4) (by decide +kernel) rfl ?_
  refine ht_callv (T := et_TT) (t := 12) (mi := 163) (na := 1) (ci := 10) (lk := 4) (lm := 2) (L0 := eg_en (eg_mL 163) [.ref th, .int x]) (by decide +kernel) rfl hH k_th rfl rfl rfl rfl rfl (by rw [show eg_mL 163 = 2 from by decide +kernel]; first | done | rfl) ?_
  refine ((ek_p163_ok (K, [], G) [.ref th, .int x] _ hH (by show 3 ≤ _; omega) rfl (ht_ac (.inr ⟨by decide, _, rfl, k_th⟩) (ht_ac hi_any ht_an))).and (fc_along hH k_th h0 k_st k_la k_ya h2 h3 h4 hn hc (by omega))).mono (fun u hu => ?_)
  obtain ⟨⟨es, hes, K1, hx1, hf1, hH1, hv1, -, -⟩, hq⟩ := hu
  obtain ⟨u1, u2, u3, u4⟩ := u
  rcases hq with ⟨a, b⟩ | ⟨v, e1, e2, e⟩
  · have b : u1 = .inr 1 := b
    subst b
    refine hs_ch (h := 12) (i := 3) (n := 1) (hh := (eg_mh 22).getD []) (by decide +kernel) ⟨(by decide +kernel), (by decide +kernel)⟩ (Nat.le_of_ble_eq_true rfl) ?_
    show et_go none _ 22 13 [some (.ref th), some (.int x), some (.ref out), none] [] _ _ _ _
    refine hs_k (x := Int32.ofNat 1) (p := 14) (by decide +kernel) ?_
    refine hs_iret (by decide +kernel) ?_
    exact .inl ⟨a, rfl⟩
  · have e : u1 = .inl (some (.int (Int32.ofNat (alN X Y v n)))) := e
    subst e
    refine hs_cb ?_
    show et_go none _ 22 7 _ [.int (Int32.ofNat (alN X Y v n)), .int (Int32.ofNat 0), .ref out] _ _ _ _
    refine hs_st (ins := .i2l) (len := 1) (p := 8) (by decide +kernel) rfl rfl ?_
    refine hf_lst (T := et_TT) (t := 31) (N := 1) (n := 0) (p := 9) (by decide +kernel) rfl (by decide) hH1 (hx1 _ _ k_out) (by decide) (by decide) (fun G9 hH9 x9 e9 => ?_)
    refine hs_goto (p := 15) (by decide +kernel) ?_
    refine hs_k (x := Int32.ofNat 0) (p := 16) (by decide +kernel) ?_
    refine hs_iret (by decide +kernel) ?_
    exact .inr ⟨v, e1, e2, rfl, e9⟩
theorem fm_noCell : et_go none (d + 1) 273 0 (eg_en (eg_mL 273) [.int x]) [] G 0 0 (xp_Z G (some (.int (Int32.ofNat (if (0 ≤ x.toInt ∧ x.toInt < 16) then 0 else 1))))) := by
  have hz : (Int32.ofNat 0).toInt = 0 := rfl
  have h6 : (Int32.ofNat 15).toInt = 15 := rfl
  rw [show eg_mL 273 = 1 from by decide +kernel]
  show et_go none (d + 1) 273 0 [some (.int x)] [] G 0 0 _
  refine hs_iload (i := 0) (p := 1) (by decide +kernel) rfl ?_
  refine hs_k (x := Int32.ofNat 0) (p := 2) (by decide +kernel) ?_
  refine hs_k (x := Int32.ofNat 15) (p := 4) (by decide +kernel) ?_
  refine hs_calls (mi := 209) (na := 3) (lk := 1) (lm := 3) (L0 := eg_en (eg_mL 209) [.int x, .int (Int32.ofNat 0), .int (Int32.ofNat 15)]) (by decide +kernel) rfl rfl rfl rfl rfl rfl (by rw [show eg_mL 209 = 3 from by decide +kernel]; first | done | rfl) ?_
  refine (fm_in (x := x) (y := Int32.ofNat 0) (z := Int32.ofNat 15)).mono (fun u hu => xp_cb hu ?_)
  by_cases xc : (Int32.ofNat 0).toInt ≤ x.toInt ∧ x.toInt ≤ (Int32.ofNat 15).toInt
  · rw [if_pos xc]
    show et_go none _ 273 7 _ [.int (Int32.ofNat 1)] _ _ _ _
    refine hs_if1 (c := .ne) (t := 14) (f := 10) (by decide +kernel) (show ¬ Int32.ofNat 1 = 0 by decide) ?_
    refine hs_k (x := Int32.ofNat 0) (p := 15) (by decide +kernel) ?_
    refine hs_zret (by decide +kernel) (.inl rfl) ?_
    rw [hz, h6] at xc
    rw [if_pos (by omega)]
    rfl
  · rw [if_neg xc]
    show et_go none _ 273 7 _ [.int (Int32.ofNat 0)] _ _ _ _
    refine hs_if0 (c := .ne) (t := 14) (f := 10) (by decide +kernel) (show ¬ (¬ Int32.ofNat 0 = 0) by decide) ?_
    refine hs_k (x := Int32.ofNat 1) (p := 11) (by decide +kernel) ?_
    refine hs_goto (p := 15) (by decide +kernel) ?_
    refine hs_zret (by decide +kernel) (.inr rfl) ?_
    rw [hz, h6] at xc
    rw [if_neg (by omega)]
    rfl
theorem fm_along (hH : et_H et_TT K G) (k_am : K am = some 13) (k_aw : K aw = some 46) (m1 : et_pl (eg_at G am) 1 = some (.ref aw)) (w3 : et_pl (eg_at G aw) 3 = some (.int (Int32.ofNat n))) (hn : n ≤ 20) (hc : ∀ k, k < n → et_pl (eg_at G aw) (5 + 2 * k) = some (.int (X k)) ∧ et_pl (eg_at G aw) (6 + 2 * k) = some (.int (Int32.ofNat (Y k))) ∧ Y k ≤ 1) (hd : 3 ≤ d2) : et_go none d2 276 0 (eg_en (eg_mL 276) [.ref am, .int x]) [] G 0 0 (fun u => (¬ (0 ≤ x.toInt ∧ x.toInt < 16) ∧ u.1 = .inl (some (.int (Int32.ofNat 0))) ∧ et_pl (eg_at u.2.1 am) 0 = some (.int (Int32.ofNat 1))) ∨ ∃ v, x = Int32.ofNat v ∧ v < 16 ∧ u.1 = .inl (some (.int (Int32.ofNat (alN X Y v n)))) ∧ et_pl (eg_at u.2.1 am) 0 = some (.int (Int32.ofNat 0))) := by
  obtain ⟨d, rfl⟩ : ∃ d, d2 = d + 3 := ⟨d2 - 3, by omega⟩
  rw [show eg_mL 276 = 2 from by decide +kernel]
  show et_go none (d + 3) 276 0 [some (.ref am), some (.int x)] [] G 0 0 _
  have lt_am := (hH.2.2 _ _ k_am).1
  have lt_aw := (hH.2.2 _ _ k_aw).1
  refine hs_aload (i := 0) (p := 1) (by decide +kernel) rfl ?_
  refine hs_k (x := Int32.ofNat 0) (p := 2) (by decide +kernel) ?_
  refine hf_put (T := et_TT) (t := 13) (ci := 11) (f := 0) (p := 5) (ty := .int) (by decide +kernel) rfl rfl rfl rfl rfl hH k_am hi_any (fun G2 hH x2 e2 => ?_)
  have hc := fun (k : Nat) (hk : k < n) => And.intro ((x2.2 aw _ lt_aw (fun h => hi_ne k_aw k_am (by decide) h.1)).trans (hc k hk).1) (And.intro ((x2.2 aw _ lt_aw (fun h => hi_ne k_aw k_am (by decide) h.1)).trans (hc k hk).2.1) (hc k hk).2.2)
  have m1 := (x2.2 am 1 lt_am (fun h => absurd h.2 (by decide))).trans m1
  have w3 := (x2.2 aw 3 lt_aw (fun h => (hi_ne k_aw k_am (by decide)) h.1)).trans w3
  have lt_am := Nat.lt_of_lt_of_le lt_am x2.1
  have lt_aw := Nat.lt_of_lt_of_le lt_aw x2.1
  refine hs_aload (i := 0) (p := 6) (by decide +kernel) rfl ?_
  refine hs_iload (i := 1) (p := 7) (by decide +kernel) rfl ?_
  refine hs_calls (mi := 273) (na := 1) (lk := 2) (lm := 1) (L0 := eg_en (eg_mL 273) [.int x]) (by decide +kernel) rfl rfl rfl rfl rfl rfl (by rw [show eg_mL 273 = 1 from by decide +kernel]; first | done | rfl) ?_
  refine (fm_noCell (x := x)).mono (fun u hu => xp_cb hu ?_)
  by_cases xl : 0 ≤ x.toInt ∧ x.toInt < 16
  · rw [if_pos xl]
    show et_go none _ 276 10 _ [.int (Int32.ofNat 0), .ref am] _ _ _ _
    refine hs_k (x := Int32.ofNat 1) (p := 11) (by decide +kernel) ?_
    refine ht_callv (T := et_TT) (t := 13) (mi := 204) (na := 2) (ci := 11) (lk := 2) (lm := 3) (L0 := eg_en (eg_mL 204) [.ref am, .int (Int32.ofNat 0), .int (Int32.ofNat 1)]) (by decide +kernel) rfl hH k_am rfl rfl rfl rfl rfl (by rw [show eg_mL 204 = 3 from by decide +kernel]; first | done | rfl) ?_
    refine (fm_t0 hH k_am).mono (fun u hu => xp_cb hu ?_)
    show et_go none _ 276 14 _ [.int (Int32.ofNat 0)] _ _ _ _
    refine hs_if1 (c := .eq) (t := 21) (f := 17) (by decide +kernel) (show Int32.ofNat 0 = 0 by decide) ?_
    obtain ⟨v, hv, rfl⟩ : ∃ v, v < 16 ∧ x = Int32.ofNat v := ⟨x.toInt.toNat, by omega, hi_of (by omega) (by omega)⟩
    refine hs_aload (i := 0) (p := 22) (by decide +kernel) rfl ?_
    refine hs_iload (i := 1) (p := 23) (by decide +kernel) rfl ?_
    refine ht_callv (T := et_TT) (t := 13) (mi := 277) (na := 1) (ci := 11) (lk := 2) (lm := 4) (L0 := eg_en (eg_mL 277) [.ref am, .int (Int32.ofNat v)]) (by decide +kernel) rfl hH k_am rfl rfl rfl rfl rfl (by rw [show eg_mL 277 = 4 from by decide +kernel]; first | done | rfl) ?_
    refine (fm_ga (v := v) hH k_am k_aw m1 w3 hn hc (by omega)).mono (fun u hu => xp_cb hu ?_)
    show et_go none _ 276 26 _ [.int (Int32.ofNat (alN X Y v n))] _ _ _ _
    refine hs_iret (by decide +kernel) ?_
    exact .inr ⟨v, rfl, hv, rfl, e2⟩
  · rw [if_neg xl]
    show et_go none _ 276 10 _ [.int (Int32.ofNat 1), .ref am] _ _ _ _
    refine hs_k (x := Int32.ofNat 1) (p := 11) (by decide +kernel) ?_
    refine ht_callv (T := et_TT) (t := 13) (mi := 204) (na := 2) (ci := 11) (lk := 2) (lm := 3) (L0 := eg_en (eg_mL 204) [.ref am, .int (Int32.ofNat 1), .int (Int32.ofNat 1)]) (by decide +kernel) rfl hH k_am rfl rfl rfl rfl rfl (by rw [show eg_mL 204 = 3 from by decide +kernel]; first | done | rfl) ?_
    refine (fm_t1 hH k_am).mono (fun u hu => xw_cb hu (fun G11 v11 hH x11 hP11 => ?_))
    have hc := fun (k : Nat) (hk : k < n) => And.intro ((x11.2 aw _ lt_aw (fun h => hi_ne k_aw k_am (by decide) h.1)).trans (hc k hk).1) (And.intro ((x11.2 aw _ lt_aw (fun h => hi_ne k_aw k_am (by decide) h.1)).trans (hc k hk).2.1) (hc k hk).2.2)
    have m1 := (x11.2 am 1 lt_am (fun h => absurd h.2 (by decide))).trans m1
    have w3 := (x11.2 aw 3 lt_aw (fun h => (hi_ne k_aw k_am (by decide)) h.1)).trans w3
    have lt_am := Nat.lt_of_lt_of_le lt_am x11.1
    have lt_aw := Nat.lt_of_lt_of_le lt_aw x11.1
    obtain ⟨rfl, th11⟩ := hP11
    show et_go none _ 276 14 _ [.int (Int32.ofNat 1)] _ _ _ _
    refine hs_if0 (c := .eq) (t := 21) (f := 17) (by decide +kernel) (show ¬ (Int32.ofNat 1 = 0) by decide) ?_
    refine hs_k (x := Int32.ofNat 0) (p := 18) (by decide +kernel) ?_
    refine hs_goto (p := 26) (by decide +kernel) ?_
    refine hs_iret (by decide +kernel) ?_
    exact .inl ⟨xl, rfl, th11⟩
theorem fm_cloud (hH : et_H et_TT K G) (k_am : K am = some 13) (k_aw : K aw = some 46) (m1 : et_pl (eg_at G am) 1 = some (.ref aw)) (w3 : et_pl (eg_at G aw) 3 = some (.int (Int32.ofNat n))) (hn : n ≤ 20) (hc : ∀ k, k < n → et_pl (eg_at G aw) (5 + 2 * k) = some (.int (X k)) ∧ et_pl (eg_at G aw) (6 + 2 * k) = some (.int (Int32.ofNat (Y k))) ∧ Y k ≤ 1) (hd : 2 ≤ d2) : et_go none d2 278 0 (eg_en (eg_mL 278) [.ref am]) [] G 0 0 (fun u => u.1 = .inl (some (if n = 0 then Value.int (-1) else .int (Int32.ofNat (clB (fun v => alN X Y v n) 16)))) ∧ et_pl (eg_at u.2.1 am) 0 = some (.int (Int32.ofNat 0))) := by
  obtain ⟨d, rfl⟩ : ∃ d, d2 = d + 2 := ⟨d2 - 2, by omega⟩
  rw [show eg_mL 278 = 3 from by decide +kernel]
  show et_go none (d + 2) 278 0 [some (.ref am), none, none] [] G 0 0 _
  have lt_am := (hH.2.2 _ _ k_am).1
  have lt_aw := (hH.2.2 _ _ k_aw).1
  refine hs_aload (i := 0) (p := 1) (by decide +kernel) rfl ?_
  refine hs_k (x := Int32.ofNat 0) (p := 2) (by decide +kernel) ?_
  refine hf_put (T := et_TT) (t := 13) (ci := 11) (f := 0) (p := 5) (ty := .int) (by decide +kernel) rfl rfl rfl rfl rfl hH k_am hi_any (fun G2 hH x2 e2 => ?_)
  have hc := fun (k : Nat) (hk : k < n) => And.intro ((x2.2 aw _ lt_aw (fun h => hi_ne k_aw k_am (by decide) h.1)).trans (hc k hk).1) (And.intro ((x2.2 aw _ lt_aw (fun h => hi_ne k_aw k_am (by decide) h.1)).trans (hc k hk).2.1) (hc k hk).2.2)
  have m1 := (x2.2 am 1 lt_am (fun h => absurd h.2 (by decide))).trans m1
  have w3 := (x2.2 aw 3 lt_aw (fun h => (hi_ne k_aw k_am (by decide)) h.1)).trans w3
  have lt_am := Nat.lt_of_lt_of_le lt_am x2.1
  have lt_aw := Nat.lt_of_lt_of_le lt_aw x2.1
  refine hs_aload (i := 0) (p := 6) (by decide +kernel) rfl ?_
  refine ht_callv (T := et_TT) (t := 13) (mi := 218) (na := 0) (ci := 11) (lk := 3) (lm := 1) (L0 := eg_en (eg_mL 218) [.ref am]) (by decide +kernel) rfl hH k_am rfl rfl rfl rfl rfl (by rw [show eg_mL 218 = 1 from by decide +kernel]; first | done | rfl) ?_
  refine (fm_cards hH k_am k_aw m1 w3).mono (fun u hu => xp_cb hu ?_)
  show et_go none _ 278 9 _ [.int (Int32.ofNat n)] _ _ _ _
  refine hs_br1 (c := .ne) (t := 14) (f := 12) (by decide +kernel) (fun (c9 : ¬ Int32.ofNat n = 0) => ?_) (fun (c9 : ¬ (¬ Int32.ofNat n = 0)) => ?_)
  · refine hs_k (x := Int32.ofNat 0) (p := 15) (by decide +kernel) ?_
    refine hs_istore (i := 1) (p := 16) (by decide +kernel) (Nat.le_of_ble_eq_true rfl) ?_
    refine hs_k (x := Int32.ofNat 1) (p := 17) (by decide +kernel) ?_
    refine hs_istore (i := 2) (p := 18) (by decide +kernel) (Nat.le_of_ble_eq_true rfl) ?_
    have hn0 : ¬ n = 0 := fun h => by rw [h] at c9; exact c9 rfl
    rw [if_neg hn0]
    have e1 : clB (fun v => alN X Y v n) 1 = 0 := by first | (show (if _ then _ else _) = 0; split <;> rfl) | (unfold clB; split <;> rfl)
    have hx := fm_cloudL (d := d) (t := 1) hH k_am k_aw m1 w3 hn hc (by decide) (by decide)
    rw [e1] at hx
    refine hx.mono (fun u hu => ?_)
    have hu : u = _ := hu
    subst hu
    exact ⟨rfl, e2⟩
  · refine hs_k (x := (-1)) (p := 13) (by decide +kernel) ?_
    refine hs_iret (by decide +kernel) ?_
    have hn0 : n = 0 := by have h := Decidable.of_not_not c9; have h5 := congrArg Int32.toInt h; rw [hs_nint (by omega)] at h5; have h6 : (0 : Int32).toInt = 0 := rfl; omega
    exact ⟨by rw [if_pos hn0], e2⟩
end TXA
end
