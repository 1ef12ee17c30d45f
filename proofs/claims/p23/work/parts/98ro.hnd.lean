section
/-! BY HAND: constructors, with more facts -/
def pi_T (K : et_K) (G : eg_G) (s ra ca : Nat) : Prop := pi_S K G s ra ca ∧ et_pl (eg_at G s) 2 = some (.int (Int32.ofNat 0)) ∧ et_pl (eg_at G s) 7 = some (.int (Int32.ofNat 0))
section PPF2
variable {K : et_K} {G : eg_G} {a : Nat}
theorem pi_reader2 {d2 : Nat} (hu : puc K G a (.inr (5, [.null, .int 0, .int 0, .int 0, .null, .null, .null, .int 0, .int 0]))) (hd : 0 ≤ d2) : et_go none d2 62 0 (eg_en (eg_mL 62) [.ref a]) [] G 0 0 (pi_Z K G a 7 4 1603 (fun _ G' => et_pl (eg_at G' a) 1 = some (.int (Int32.ofNat 0)) ∧ ∃ ba na, et_pl (eg_at G' a) 5 = some (.ref ba) ∧ et_pl (eg_at G' a) 6 = some (.ref na) ∧ ¬ ba = na)) := by
  have hq : pq a K G K G := pq.rf
  have hua := hu.2.2.2.1
  have hq0 : G.2 ≤ G.2 := Nat.le_refl _
  rw [show eg_mL 62 = 1 from by decide +kernel]
  show et_go none d2 62 0 [some (.ref a)] [] G 0 0 _
  refine hs_aload (i := 0) (p := 1) (by decide +kernel) rfl ?_
  refine hs_skip (lk := 1) (p := 4) (by decide +kernel) rfl rfl ?_
  refine hs_aload (i := 0) (p := 5) (by decide +kernel) rfl ?_
  refine hs_k (x := Int32.ofNat 400) (p := 8) (by decide +kernel) ?_
  have hHo := hu.1
  refine ht_nb (t := 33) (n := 400) (kd := 4) (p := 10) (by decide +kernel) rfl (by decide +kernel) ⟨by decide +kernel, by decide +kernel, by decide +kernel⟩ (by omega) (by omega) hu.1 (fun K8 G8 b8 hk hH k_b8 hg_b8 hz_b8 => ?_)
  have hg_b8 := Nat.le_trans hq.1 hg_b8
  have hu := hk.un hH hu
  have hq := hq.mo hk
  have hu0 := hu
  refine hs_puti (ci := 5) (f := 0) (ty := .array .char) (v := .ref b8) (p := 13) (by decide +kernel) hu (Nat.le_of_ble_eq_true rfl) rfl (fun G10 hu he e2 => ?_)
  have hu : puc _ _ a (.inr (5, [.ref b8, .int 0, .int 0, .int 0, .null, .null, .null, .int 0, .int 0])) := hu
  have hq := hq.pt he e2
  refine hs_aload (i := 0) (p := 14) (by decide +kernel) rfl ?_
  refine hs_k (x := (-1)) (p := 15) (by decide +kernel) ?_
  have hu0 := hu
  refine hs_puti (ci := 5) (f := 2) (ty := .int) (v := .int (-1)) (p := 18) (by decide +kernel) hu (Nat.le_of_ble_eq_true rfl) rfl (fun G15 hu he e2 => ?_)
  have hu : puc _ _ a (.inr (5, [.ref b8, .int 0, .int (-1), .int 0, .null, .null, .null, .int 0, .int 0])) := hu
  have hq := hq.pt he e2
  refine hs_aload (i := 0) (p := 19) (by decide +kernel) rfl ?_
  refine hs_k (x := Int32.ofNat 401) (p := 22) (by decide +kernel) ?_
  have hHo := hu.1
  refine ht_nb (t := 41) (n := 401) (kd := 9) (p := 25) (by decide +kernel) rfl (by decide +kernel) ⟨by decide +kernel, by decide +kernel, by decide +kernel⟩ (by omega) (by omega) hu.1 (fun K22 G22 b22 hk hH k_b22 hg_b22 hz_b22 => ?_)
  have hg_b22 := Nat.le_trans hq.1 hg_b22
  have hu := hk.un hH hu
  have hq := hq.mo hk
  have k_b8 := hk.ty hHo k_b8
  have hu0 := hu
  refine hs_puti (ci := 5) (f := 4) (ty := .array (.object "KnobEye$Word")) (v := .ref b22) (p := 28) (by decide +kernel) hu (Nat.le_of_ble_eq_true rfl) rfl (fun G25 hu he e2 => ?_)
  have hu : puc _ _ a (.inr (5, [.ref b8, .int 0, .int (-1), .int 0, .ref b22, .null, .null, .int 0, .int 0])) := hu
  have hq := hq.pt he e2
  refine hs_aload (i := 0) (p := 29) (by decide +kernel) rfl ?_
  refine hs_k (x := Int32.ofNat 401) (p := 32) (by decide +kernel) ?_
  have hHo := hu.1
  refine ht_nb (t := 21) (n := 401) (kd := 0) (p := 34) (by decide +kernel) rfl (by decide +kernel) ⟨by decide +kernel, by decide +kernel, by decide +kernel⟩ (by omega) (by omega) hu.1 (fun K32 G32 b32 hk hH k_b32 hg_b32 hz_b32 => ?_)
  have hg_b32 := Nat.le_trans hq.1 hg_b32
  have hu := hk.un hH hu
  have hq := hq.mo hk
  have k_b8 := hk.ty hHo k_b8
  have k_b22 := hk.ty hHo k_b22
  have hu0 := hu
  refine hs_puti (ci := 5) (f := 5) (ty := .array .int) (v := .ref b32) (p := 37) (by decide +kernel) hu (Nat.le_of_ble_eq_true rfl) rfl (fun G34 hu he e2 => ?_)
  have hu : puc _ _ a (.inr (5, [.ref b8, .int 0, .int (-1), .int 0, .ref b22, .ref b32, .null, .int 0, .int 0])) := hu
  have hq := hq.pt he e2
  refine hs_aload (i := 0) (p := 38) (by decide +kernel) rfl ?_
  refine hs_k (x := Int32.ofNat 401) (p := 41) (by decide +kernel) ?_
  have hHo := hu.1
  refine ht_nb (t := 21) (n := 401) (kd := 0) (p := 43) (by decide +kernel) rfl (by decide +kernel) ⟨by decide +kernel, by decide +kernel, by decide +kernel⟩ (by omega) (by omega) hu.1 (fun K41 G41 b41 hk hH k_b41 hg_b41 hz_b41 => ?_)
  have hbn : ¬ b32 = b41 := Nat.ne_of_lt (Nat.lt_of_lt_of_le (hHo.2.2 _ _ k_b32).1 hg_b41)
  have hg_b41 := Nat.le_trans hq.1 hg_b41
  have hu := hk.un hH hu
  have hq := hq.mo hk
  have k_b8 := hk.ty hHo k_b8
  have k_b22 := hk.ty hHo k_b22
  have k_b32 := hk.ty hHo k_b32
  have hu0 := hu
  refine hs_puti (ci := 5) (f := 6) (ty := .array .int) (v := .ref b41) (p := 46) (by decide +kernel) hu (Nat.le_of_ble_eq_true rfl) rfl (fun G43 hu he e2 => ?_)
  have hu : puc _ _ a (.inr (5, [.ref b8, .int 0, .int (-1), .int 0, .ref b22, .ref b32, .ref b41, .int 0, .int 0])) := hu
  have hq := hq.pt he e2
  obtain ⟨hHt, kt⟩ := puc_typ (t := 7) hu (by decide) rfl ⟨_, rfl, rfl, fun k p hk => by
      match k, hk with
      | 0, hk => cases hk; exact ⟨_, rfl, .inr (.inr ⟨by decide, _, rfl, k_b8⟩)⟩
      | 1, hk => cases hk; exact ⟨_, rfl, .inr ⟨_, rfl, by decide, by decide⟩⟩
      | 2, hk => cases hk; exact ⟨_, rfl, .inr ⟨_, rfl, by decide, by decide⟩⟩
      | 3, hk => cases hk; exact ⟨_, rfl, .inr ⟨_, rfl, by decide, by decide⟩⟩
      | 4, hk => cases hk; exact ⟨_, rfl, .inr (.inr ⟨by decide, _, rfl, k_b22⟩)⟩
      | 5, hk => cases hk; exact ⟨_, rfl, .inr (.inr ⟨by decide, _, rfl, k_b32⟩)⟩
      | 6, hk => cases hk; exact ⟨_, rfl, .inr (.inr ⟨by decide, _, rfl, k_b41⟩)⟩
      | 7, hk => cases hk; exact ⟨_, rfl, .inr ⟨_, rfl, by decide, by decide⟩⟩
      | 8, hk => cases hk; exact ⟨_, rfl, .inr ⟨_, rfl, by decide, by decide⟩⟩
      | n + 9, hk => cases hk⟩ ⟨fun h => absurd h (by decide), fun h => absurd h (by decide)⟩
  refine hs_vret (by decide +kernel) ?_
  exact ⟨_, hq.ty (.inl rfl), hHt, kt, rfl, rfl, rfl, ⟨(by show et_pl (eg_at _ a) 1 = _; rw [hu.2.2.2.2]; rfl), b32, b41, (by show et_pl (eg_at _ a) 5 = _; rw [hu.2.2.2.2]; rfl), (by show et_pl (eg_at _ a) 6 = _; rw [hu.2.2.2.2]; rfl), hbn⟩⟩
theorem pi_state2 {d2 : Nat} (hu : puc K G a (.inr (8, [.int 0, .null, .int 0, .null, .null, .int 0, .null, .int 0, .null, .int 0, .null]))) (hd : 1 ≤ d2) : et_go none d2 101 0 (eg_en (eg_mL 101) [.ref a]) [] G 0 0 (pi_Z K G a 10 18 135 (fun K' G' => ∃ ra ca, et_pl (eg_at G' a) 1 = some (.ref ra) ∧ et_pl (eg_at G' a) 10 = some (.ref ca) ∧ G.2 ≤ ra ∧ G.2 ≤ ca ∧ K' ra = some 37 ∧ K' ca = some 39 ∧ et_pl (eg_at G' a) 0 = some (.int (Int32.ofNat 0)) ∧ et_pl (eg_at G' a) 5 = some (.int (Int32.ofNat 0)) ∧ et_pl (eg_at G' a) 9 = some (.int (Int32.ofNat 0)) ∧ et_pl (eg_at G' a) 2 = some (.int (Int32.ofNat 0)) ∧ et_pl (eg_at G' a) 7 = some (.int (Int32.ofNat 0)))) := by
  obtain ⟨d, rfl⟩ : ∃ d, d2 = d + 1 := ⟨d2 - 1, by omega⟩
  have hq : pq a K G K G := pq.rf
  have hua := hu.2.2.2.1
  have hq0 : G.2 ≤ G.2 := Nat.le_refl _
  rw [show eg_mL 101 = 2 from by decide +kernel]
  show et_go none (d + 1) 101 0 [some (.ref a), none] [] G 0 0 _
  refine hs_aload (i := 0) (p := 1) (by decide +kernel) rfl ?_
  refine hs_skip (lk := 2) (p := 4) (by decide +kernel) rfl rfl ?_
  refine hs_aload (i := 0) (p := 5) (by decide +kernel) rfl ?_
  refine hs_k (x := Int32.ofNat 4) (p := 6) (by decide +kernel) ?_
  have hHo := hu.1
  refine ht_nb (t := 37) (n := 4) (kd := 5) (p := 9) (by decide +kernel) rfl (by decide +kernel) ⟨by decide +kernel, by decide +kernel, by decide +kernel⟩ (by omega) (by omega) hu.1 (fun K6 G6 b6 hk hH k_b6 hg_b6 hz_b6 => ?_)
  have hg_b6 := Nat.le_trans hq.1 hg_b6
  have hu := hk.un hH hu
  have hq := hq.mo hk
  have hu0 := hu
  refine hs_puti (ci := 8) (f := 1) (ty := .array (.object "KnobEye$Rule")) (v := .ref b6) (p := 12) (by decide +kernel) hu (Nat.le_of_ble_eq_true rfl) rfl (fun G9 hu he e2 => ?_)
  have hu : puc _ _ a (.inr (8, [.int 0, .ref b6, .int 0, .null, .null, .int 0, .null, .int 0, .null, .int 0, .null])) := hu
  have hq := hq.pt he e2
  refine hs_aload (i := 0) (p := 13) (by decide +kernel) rfl ?_
  refine hs_k (x := Int32.ofNat 20) (p := 15) (by decide +kernel) ?_
  have hHo := hu.1
  refine ht_nb (t := 17) (n := 20) (kd := 0) (p := 17) (by decide +kernel) rfl (by decide +kernel) ⟨by decide +kernel, by decide +kernel, by decide +kernel⟩ (by omega) (by omega) hu.1 (fun K15 G15 b15 hk hH k_b15 hg_b15 hz_b15 => ?_)
  have hg_b15 := Nat.le_trans hq.1 hg_b15
  have hu := hk.un hH hu
  have hq := hq.mo hk
  have k_b6 := hk.ty hHo k_b6
  have hu0 := hu
  refine hs_puti (ci := 8) (f := 3) (ty := .array .int) (v := .ref b15) (p := 20) (by decide +kernel) hu (Nat.le_of_ble_eq_true rfl) rfl (fun G17 hu he e2 => ?_)
  have hu : puc _ _ a (.inr (8, [.int 0, .ref b6, .int 0, .ref b15, .null, .int 0, .null, .int 0, .null, .int 0, .null])) := hu
  have hq := hq.pt he e2
  refine hs_aload (i := 0) (p := 21) (by decide +kernel) rfl ?_
  refine hs_k (x := Int32.ofNat 20) (p := 23) (by decide +kernel) ?_
  have hHo := hu.1
  refine ht_nb (t := 27) (n := 20) (kd := 3) (p := 25) (by decide +kernel) rfl (by decide +kernel) ⟨by decide +kernel, by decide +kernel, by decide +kernel⟩ (by omega) (by omega) hu.1 (fun K23 G23 b23 hk hH k_b23 hg_b23 hz_b23 => ?_)
  have hg_b23 := Nat.le_trans hq.1 hg_b23
  have hu := hk.un hH hu
  have hq := hq.mo hk
  have k_b6 := hk.ty hHo k_b6
  have k_b15 := hk.ty hHo k_b15
  have hu0 := hu
  refine hs_puti (ci := 8) (f := 4) (ty := .array .boolean) (v := .ref b23) (p := 28) (by decide +kernel) hu (Nat.le_of_ble_eq_true rfl) rfl (fun G25 hu he e2 => ?_)
  have hu : puc _ _ a (.inr (8, [.int 0, .ref b6, .int 0, .ref b15, .ref b23, .int 0, .null, .int 0, .null, .int 0, .null])) := hu
  have hq := hq.pt he e2
  refine hs_aload (i := 0) (p := 29) (by decide +kernel) rfl ?_
  refine hs_k (x := Int32.ofNat 3) (p := 30) (by decide +kernel) ?_
  have hHo := hu.1
  refine ht_nr (n := 3) (kd := 6) (p := 33) (by decide +kernel) (by decide) ⟨by decide +kernel, by decide +kernel, by decide +kernel⟩ (by omega) (by omega) hu.1 (fun G30 b30 hk hg hv => ?_)
  have hne : ¬ b30 = a := fun e => by have h9 := hu.2.2.2.1; omega
  have hg := Nat.le_trans hq.1 hg
  have hu := hk.un hv.1 hu
  have hq := hq.mo hk
  have k_b6 := hk.ty hHo k_b6
  have k_b15 := hk.ty hHo k_b15
  have k_b23 := hk.ty hHo k_b23
  have hu0 := hu
  refine hs_puti (ci := 8) (f := 6) (ty := .array (.object "KnobEye$Eye")) (v := .ref b30) (p := 36) (by decide +kernel) hu (Nat.le_of_ble_eq_true rfl) rfl (fun G33 hu he e2 => ?_)
  have hu : puc _ _ a (.inr (8, [.int 0, .ref b6, .int 0, .ref b15, .ref b23, .int 0, .ref b30, .int 0, .null, .int 0, .null])) := hu
  have hq := hq.pt he e2
  have hv := puc_st hv hu.1 he e2 hne
  refine hs_aload (i := 0) (p := 37) (by decide +kernel) rfl ?_
  refine hs_k (x := Int32.ofNat 4) (p := 38) (by decide +kernel) ?_
  have hHo := hu.1
  refine ht_nb (t := 38) (n := 4) (kd := 7) (p := 41) (by decide +kernel) rfl (by decide +kernel) ⟨by decide +kernel, by decide +kernel, by decide +kernel⟩ (by omega) (by omega) hu.1 (fun K38 G38 b38 hk hH k_b38 hg_b38 hz_b38 => ?_)
  have hg_b38 := Nat.le_trans hq.1 hg_b38
  have hv := hk.un hH hv
  have hu := hk.un hH hu
  have hq := hq.mo hk
  have k_b6 := hk.ty hHo k_b6
  have k_b15 := hk.ty hHo k_b15
  have k_b23 := hk.ty hHo k_b23
  have hu0 := hu
  refine hs_puti (ci := 8) (f := 8) (ty := .array (.object "KnobEye$Turner")) (v := .ref b38) (p := 44) (by decide +kernel) hu (Nat.le_of_ble_eq_true rfl) rfl (fun G41 hu he e2 => ?_)
  have hu : puc _ _ a (.inr (8, [.int 0, .ref b6, .int 0, .ref b15, .ref b23, .int 0, .ref b30, .int 0, .ref b38, .int 0, .null])) := hu
  have hq := hq.pt he e2
  have hv := puc_st hv hu.1 he e2 hne
  refine hs_aload (i := 0) (p := 45) (by decide +kernel) rfl ?_
  refine hs_k (x := Int32.ofNat 6) (p := 47) (by decide +kernel) ?_
  have hHo := hu.1
  refine ht_nb (t := 39) (n := 6) (kd := 8) (p := 50) (by decide +kernel) rfl (by decide +kernel) ⟨by decide +kernel, by decide +kernel, by decide +kernel⟩ (by omega) (by omega) hu.1 (fun K47 G47 b47 hk hH k_b47 hg_b47 hz_b47 => ?_)
  have hg_b47 := Nat.le_trans hq.1 hg_b47
  have hv := hk.un hH hv
  have hu := hk.un hH hu
  have hq := hq.mo hk
  have k_b6 := hk.ty hHo k_b6
  have k_b15 := hk.ty hHo k_b15
  have k_b23 := hk.ty hHo k_b23
  have k_b38 := hk.ty hHo k_b38
  have hu0 := hu
  refine hs_puti (ci := 8) (f := 10) (ty := .array (.object "KnobEye$Claim")) (v := .ref b47) (p := 53) (by decide +kernel) hu (Nat.le_of_ble_eq_true rfl) rfl (fun G50 hu he e2 => ?_)
  have hu : puc _ _ a (.inr (8, [.int 0, .ref b6, .int 0, .ref b15, .ref b23, .int 0, .ref b30, .int 0, .ref b38, .int 0, .ref b47])) := hu
  have hq := hq.pt he e2
  have hv := puc_st hv hu.1 he e2 hne
  refine hs_k (x := Int32.ofNat 0) (p := 54) (by decide +kernel) ?_
  refine hs_istore (i := 1) (p := 55) (by decide +kernel) (Nat.le_of_ble_eq_true rfl) ?_
  refine hs_iload (i := 1) (p := 56) (by decide +kernel) rfl ?_
  refine hs_k (x := Int32.ofNat 3) (p := 57) (by decide +kernel) ?_
  refine hs_br2n (c := .ge) (t := 79) (f := 60) (by decide +kernel) (by omega) (by omega) (fun h => absurd h (show ¬ (3 ≤ 0) by decide)) (fun _ => ?_)
  refine hs_aload (i := 0) (p := 61) (by decide +kernel) rfl ?_
  refine hs_get (ci := 8) (f := 6) (p := 64) (v := .ref b30) (by decide +kernel) hu.2.2.2.2 hu.2.2.2.1 rfl ?_
  refine hs_iload (i := 1) (p := 65) (by decide +kernel) rfl ?_
  have hHo := hu.1
  refine ht_newV (ci := 1) (n := 8) (fs := [.int 0, .null, .null, .null, .int 0, .int 0, .int 0, .int 0]) (p := 68) (by decide +kernel) (by omega) (by omega) (by decide +kernel) (by decide +kernel) hu.1 (fun G65 o0 ho hge hlt he => ?_)
  refine hs_dup1 (p := 69) (by decide +kernel) ?_
  refine hs_callp (mi := 31) (na := 0) (lk := 2) (lm := 1) (L0 := eg_en (eg_mL 31) [.ref o0]) (by decide +kernel) rfl rfl rfl rfl rfl (by rw [show eg_mL 31 = 1 from by decide +kernel]; first | done | rfl) ?_
  refine (pi_eye ho (by omega)).mono (fun u hZ => pi_cb hZ (fun K69 G69 hq2 hH k_o0 hP => ?_))
  have hk := pk_of hq2 hge hlt he
  have hv := hk.un hH hv
  have hu := hk.un hH hu
  have hq := hq.mo hk
  have k_b6 := hk.ty hHo k_b6
  have k_b15 := hk.ty hHo k_b15
  have k_b23 := hk.ty hHo k_b23
  have k_b38 := hk.ty hHo k_b38
  have k_b47 := hk.ty hHo k_b47
  show et_go none _ 101 72 _ [.ref o0, .int (Int32.ofNat 0), .ref b30] _ 10 83 _
  refine ht_wri (n := 3) (kd := 6) (u := 3) (cj := 1) (p := 73) (by decide +kernel) (by decide +kernel) rfl hv (by decide) k_o0 (fun G72 hv he e2 => ?_)
  have hu := puc_st hu hv.1 he e2 (fun e => hne e.symm)
  have hq := hq.sw hg he e2
  refine hs_iinc1 (i := 1) (p := 76) (by decide +kernel) rfl (Nat.le_of_ble_eq_true rfl) ?_
  show et_go none _ 101 76 [some (.ref a), some (.int (Int32.ofNat 1))] [] _ _ _ _
  refine hs_goto (p := 55) (by decide +kernel) ?_
  refine hs_iload (i := 1) (p := 56) (by decide +kernel) rfl ?_
  refine hs_k (x := Int32.ofNat 3) (p := 57) (by decide +kernel) ?_
  refine hs_br2n (c := .ge) (t := 79) (f := 60) (by decide +kernel) (by omega) (by omega) (fun h => absurd h (show ¬ (3 ≤ 1) by decide)) (fun _ => ?_)
  refine hs_aload (i := 0) (p := 61) (by decide +kernel) rfl ?_
  refine hs_get (ci := 8) (f := 6) (p := 64) (v := .ref b30) (by decide +kernel) hu.2.2.2.2 hu.2.2.2.1 rfl ?_
  refine hs_iload (i := 1) (p := 65) (by decide +kernel) rfl ?_
  have hHo := hu.1
  refine ht_newV (ci := 1) (n := 8) (fs := [.int 0, .null, .null, .null, .int 0, .int 0, .int 0, .int 0]) (p := 68) (by decide +kernel) (by omega) (by omega) (by decide +kernel) (by decide +kernel) hu.1 (fun G65 o1 ho hge hlt he => ?_)
  refine hs_dup1 (p := 69) (by decide +kernel) ?_
  refine hs_callp (mi := 31) (na := 0) (lk := 2) (lm := 1) (L0 := eg_en (eg_mL 31) [.ref o1]) (by decide +kernel) rfl rfl rfl rfl rfl (by rw [show eg_mL 31 = 1 from by decide +kernel]; first | done | rfl) ?_
  refine (pi_eye ho (by omega)).mono (fun u hZ => pi_cb hZ (fun K69 G69 hq2 hH k_o1 hP => ?_))
  have hk := pk_of hq2 hge hlt he
  have hv := hk.un hH hv
  have hu := hk.un hH hu
  have hq := hq.mo hk
  have k_b6 := hk.ty hHo k_b6
  have k_b15 := hk.ty hHo k_b15
  have k_b23 := hk.ty hHo k_b23
  have k_b38 := hk.ty hHo k_b38
  have k_b47 := hk.ty hHo k_b47
  have k_o0 := hk.ty hHo k_o0
  show et_go none _ 101 72 _ [.ref o1, .int (Int32.ofNat 1), .ref b30] _ 14 109 _
  refine ht_wri (n := 3) (kd := 6) (u := 3) (cj := 1) (p := 73) (by decide +kernel) (by decide +kernel) rfl hv (by decide) k_o1 (fun G72 hv he e2 => ?_)
  have hu := puc_st hu hv.1 he e2 (fun e => hne e.symm)
  have hq := hq.sw hg he e2
  refine hs_iinc1 (i := 1) (p := 76) (by decide +kernel) rfl (Nat.le_of_ble_eq_true rfl) ?_
  show et_go none _ 101 76 [some (.ref a), some (.int (Int32.ofNat 2))] [] _ _ _ _
  refine hs_goto (p := 55) (by decide +kernel) ?_
  refine hs_iload (i := 1) (p := 56) (by decide +kernel) rfl ?_
  refine hs_k (x := Int32.ofNat 3) (p := 57) (by decide +kernel) ?_
  refine hs_br2n (c := .ge) (t := 79) (f := 60) (by decide +kernel) (by omega) (by omega) (fun h => absurd h (show ¬ (3 ≤ 2) by decide)) (fun _ => ?_)
  refine hs_aload (i := 0) (p := 61) (by decide +kernel) rfl ?_
  refine hs_get (ci := 8) (f := 6) (p := 64) (v := .ref b30) (by decide +kernel) hu.2.2.2.2 hu.2.2.2.1 rfl ?_
  refine hs_iload (i := 1) (p := 65) (by decide +kernel) rfl ?_
  have hHo := hu.1
  refine ht_newV (ci := 1) (n := 8) (fs := [.int 0, .null, .null, .null, .int 0, .int 0, .int 0, .int 0]) (p := 68) (by decide +kernel) (by omega) (by omega) (by decide +kernel) (by decide +kernel) hu.1 (fun G65 o2 ho hge hlt he => ?_)
  refine hs_dup1 (p := 69) (by decide +kernel) ?_
  refine hs_callp (mi := 31) (na := 0) (lk := 2) (lm := 1) (L0 := eg_en (eg_mL 31) [.ref o2]) (by decide +kernel) rfl rfl rfl rfl rfl (by rw [show eg_mL 31 = 1 from by decide +kernel]; first | done | rfl) ?_
  refine (pi_eye ho (by omega)).mono (fun u hZ => pi_cb hZ (fun K69 G69 hq2 hH k_o2 hP => ?_))
  have hk := pk_of hq2 hge hlt he
  have hv := hk.un hH hv
  have hu := hk.un hH hu
  have hq := hq.mo hk
  have k_b6 := hk.ty hHo k_b6
  have k_b15 := hk.ty hHo k_b15
  have k_b23 := hk.ty hHo k_b23
  have k_b38 := hk.ty hHo k_b38
  have k_b47 := hk.ty hHo k_b47
  have k_o0 := hk.ty hHo k_o0
  have k_o1 := hk.ty hHo k_o1
  show et_go none _ 101 72 _ [.ref o2, .int (Int32.ofNat 2), .ref b30] _ 18 135 _
  refine ht_wri (n := 3) (kd := 6) (u := 3) (cj := 1) (p := 73) (by decide +kernel) (by decide +kernel) rfl hv (by decide) k_o2 (fun G72 hv he e2 => ?_)
  have hu := puc_st hu hv.1 he e2 (fun e => hne e.symm)
  have hq := hq.sw hg he e2
  refine hs_iinc1 (i := 1) (p := 76) (by decide +kernel) rfl (Nat.le_of_ble_eq_true rfl) ?_
  show et_go none _ 101 76 [some (.ref a), some (.int (Int32.ofNat 3))] [] _ _ _ _
  refine hs_goto (p := 55) (by decide +kernel) ?_
  refine hs_iload (i := 1) (p := 56) (by decide +kernel) rfl ?_
  refine hs_k (x := Int32.ofNat 3) (p := 57) (by decide +kernel) ?_
  refine hs_br2n (c := .ge) (t := 79) (f := 60) (by decide +kernel) (by omega) (by omega) (fun _ => ?_) (fun h => absurd (show 3 ≤ 3 by decide) h)
  have hv0 := hv
  obtain ⟨hHv, k_b30⟩ := puc_typ (t := 40) hv (by decide) rfl ⟨_, rfl, rfl, fun i hi => ⟨_, rfl⟩, fun q hq i i1 i2 i3 => by
      obtain rfl := List.mem_singleton.mp hq
      match i, i3 with
      | 0, _ => exact ⟨.ref o0, rfl, .inr ⟨by decide, _, rfl, k_o0⟩⟩
      | 1, _ => exact ⟨.ref o1, rfl, .inr ⟨by decide, _, rfl, k_o1⟩⟩
      | 2, _ => exact ⟨.ref o2, rfl, .inr ⟨by decide, _, rfl, k_o2⟩⟩
      | n + 3, h => exact absurd h (by omega)⟩ (fun h => absurd h (by decide))
  have hu := puc_n hu (fun e => hne e.symm) hHv
  have hq := hq.ty (b := b30) (t := 40) (.inr hg)
  have k_b6 := et_kn_k (t := 40) hv0 k_b6
  have k_b15 := et_kn_k (t := 40) hv0 k_b15
  have k_b23 := et_kn_k (t := 40) hv0 k_b23
  have k_b38 := et_kn_k (t := 40) hv0 k_b38
  have k_b47 := et_kn_k (t := 40) hv0 k_b47
  have k_o0 := et_kn_k (t := 40) hv0 k_o0
  have k_o1 := et_kn_k (t := 40) hv0 k_o1
  have k_o2 := et_kn_k (t := 40) hv0 k_o2
  obtain ⟨hHt, kt⟩ := puc_typ (t := 10) hu (by decide) rfl ⟨_, rfl, rfl, fun k p hk => by
      match k, hk with
      | 0, hk => cases hk; exact ⟨_, rfl, .inr ⟨_, rfl, by decide, by decide⟩⟩
      | 1, hk => cases hk; exact ⟨_, rfl, .inr (.inr ⟨by decide, _, rfl, k_b6⟩)⟩
      | 2, hk => cases hk; exact ⟨_, rfl, .inr ⟨_, rfl, by decide, by decide⟩⟩
      | 3, hk => cases hk; exact ⟨_, rfl, .inr (.inr ⟨by decide, _, rfl, k_b15⟩)⟩
      | 4, hk => cases hk; exact ⟨_, rfl, .inr (.inr ⟨by decide, _, rfl, k_b23⟩)⟩
      | 5, hk => cases hk; exact ⟨_, rfl, .inr ⟨_, rfl, by decide, by decide⟩⟩
      | 6, hk => cases hk; exact ⟨_, rfl, .inr (.inr ⟨by decide, _, rfl, k_b30⟩)⟩
      | 7, hk => cases hk; exact ⟨_, rfl, .inr ⟨_, rfl, by decide, by decide⟩⟩
      | 8, hk => cases hk; exact ⟨_, rfl, .inr (.inr ⟨by decide, _, rfl, k_b38⟩)⟩
      | 9, hk => cases hk; exact ⟨_, rfl, .inr ⟨_, rfl, by decide, by decide⟩⟩
      | 10, hk => cases hk; exact ⟨_, rfl, .inr (.inr ⟨by decide, _, rfl, k_b47⟩)⟩
      | n + 11, hk => cases hk⟩ ⟨fun h => absurd h (by decide), fun h => absurd h (by decide)⟩
  refine hs_vret (by decide +kernel) ?_
  exact ⟨_, hq.ty (.inl rfl), hHt, kt, rfl, rfl, rfl, ⟨b6, b47, by rw [hu.2.2.2.2]; rfl, by rw [hu.2.2.2.2]; rfl, hg_b6, hg_b47, et_kn_k hu k_b6, et_kn_k hu k_b47, by rw [hu.2.2.2.2]; rfl, by rw [hu.2.2.2.2]; rfl, by rw [hu.2.2.2.2]; rfl, by rw [hu.2.2.2.2]; rfl, by rw [hu.2.2.2.2]; rfl⟩⟩
theorem pi_knob2 {d2 : Nat} (hu : puc K G a (.inr (10, [.null, .null, .int 0, .null, .null, .null, .int 0, .int 0, .null, .null, .int 0, .null]))) (hd : 2 ≤ d2) : et_go none d2 115 0 (eg_en (eg_mL 115) [.ref a]) [] G 0 0 (pi_Z K G a 12 79 136123 (fun K' G' => ((∃ rd, et_pl (eg_at G' a) 3 = some (.ref rd) ∧ K' rd = some 7 ∧ et_pl (eg_at G' rd) 1 = some (.int (Int32.ofNat 0)) ∧ ∃ ba na, et_pl (eg_at G' rd) 5 = some (.ref ba) ∧ et_pl (eg_at G' rd) 6 = some (.ref na) ∧ ¬ ba = na) ∧ ∃ s0 s1 ra0 ca0 ra1 ca1, K' a = some 12 ∧ (et_pl (eg_at G' a) 0 = some (.ref s0) ∧ et_pl (eg_at G' a) 1 = some (.ref s1)) ∧ (¬ s0 = s1 ∧ ¬ ra0 = ra1 ∧ ¬ ca0 = ca1) ∧ pi_T K' G' s0 ra0 ca0 ∧ pi_T K' G' s1 ra1 ca1) ∧ et_pl (eg_at G' a) 2 = some (.int (Int32.ofNat 0)))) := by
  obtain ⟨d, rfl⟩ : ∃ d, d2 = d + 2 := ⟨d2 - 2, by omega⟩
  have hq : pq a K G K G := pq.rf
  have hua := hu.2.2.2.1
  have hq0 : G.2 ≤ G.2 := Nat.le_refl _
  rw [show eg_mL 115 = 1 from by decide +kernel]
  show et_go none (d + 2) 115 0 [some (.ref a)] [] G 0 0 _
  refine hs_aload (i := 0) (p := 1) (by decide +kernel) rfl ?_
  refine hs_skip (lk := 1) (p := 4) (by decide +kernel) rfl rfl ?_
  refine hs_aload (i := 0) (p := 5) (by decide +kernel) rfl ?_
  have hHo := hu.1
  refine ht_newV (ci := 8) (n := 11) (fs := [.int 0, .null, .int 0, .null, .null, .int 0, .null, .int 0, .null, .int 0, .null]) (p := 8) (by decide +kernel) (by omega) (by omega) (by decide +kernel) (by decide +kernel) hu.1 (fun G5 o0 ho hge hlt he => ?_)
  refine hs_dup1 (p := 9) (by decide +kernel) ?_
  refine hs_callp (mi := 101) (na := 0) (lk := 1) (lm := 2) (L0 := eg_en (eg_mL 101) [.ref o0]) (by decide +kernel) rfl rfl rfl rfl rfl (by rw [show eg_mL 101 = 2 from by decide +kernel]; first | done | rfl) ?_
  refine (pi_state2 ho (by omega)).mono (fun u hZ => pi_cb hZ (fun K9 G9 hq2 hH k_o0 hP => ?_))
  have hk := pk_of hq2 hge hlt he
  have hu := hk.un hH hu
  have hq := hq.mo hk
  obtain ⟨ra_o0, ca_o0, f1_o0, f10_o0, gr_o0, gc_o0, k_ra_o0, k_ca_o0, f0_o0, f5_o0, f9_o0, f2_o0, f7_o0⟩ := hP
  show et_go none _ 115 12 _ [.ref o0, .ref a] _ 19 146 _
  have hu0 := hu
  refine hs_puti (ci := 10) (f := 0) (ty := .object "KnobEye$State") (v := .ref o0) (p := 15) (by decide +kernel) hu (Nat.le_of_ble_eq_true rfl) rfl (fun G12 hu he e2 => ?_)
  have hu : puc _ _ a (.inr (10, [.ref o0, .null, .int 0, .null, .null, .null, .int 0, .int 0, .null, .null, .int 0, .null])) := hu
  have hq := hq.pt he e2
  have f0_o0 := (congrArg (et_pl · 0) (he o0 (puc_ne hu0 k_o0))).trans f0_o0
  have f1_o0 := (congrArg (et_pl · 1) (he o0 (puc_ne hu0 k_o0))).trans f1_o0
  have f2_o0 := (congrArg (et_pl · 2) (he o0 (puc_ne hu0 k_o0))).trans f2_o0
  have f5_o0 := (congrArg (et_pl · 5) (he o0 (puc_ne hu0 k_o0))).trans f5_o0
  have f7_o0 := (congrArg (et_pl · 7) (he o0 (puc_ne hu0 k_o0))).trans f7_o0
  have f9_o0 := (congrArg (et_pl · 9) (he o0 (puc_ne hu0 k_o0))).trans f9_o0
  have f10_o0 := (congrArg (et_pl · 10) (he o0 (puc_ne hu0 k_o0))).trans f10_o0
  refine hs_aload (i := 0) (p := 16) (by decide +kernel) rfl ?_
  have hHo := hu.1
  refine ht_newV (ci := 8) (n := 11) (fs := [.int 0, .null, .int 0, .null, .null, .int 0, .null, .int 0, .null, .int 0, .null]) (p := 19) (by decide +kernel) (by omega) (by omega) (by decide +kernel) (by decide +kernel) hu.1 (fun G16 o1 ho hge hlt he => ?_)
  refine hs_dup1 (p := 20) (by decide +kernel) ?_
  refine hs_callp (mi := 101) (na := 0) (lk := 1) (lm := 2) (L0 := eg_en (eg_mL 101) [.ref o1]) (by decide +kernel) rfl rfl rfl rfl rfl (by rw [show eg_mL 101 = 2 from by decide +kernel]; first | done | rfl) ?_
  refine (pi_state2 ho (by omega)).mono (fun u hZ => pi_cb hZ (fun K20 G20 hq2 hH k_o1 hP => ?_))
  have hk := pk_of hq2 hge hlt he
  have hne0 : ¬ o0 = o1 := by have := (hHo.2.2 _ _ k_o0).1; omega
  have hlr := (hHo.2.2 _ _ k_ra_o0).1
  have hlc := (hHo.2.2 _ _ k_ca_o0).1
  have hu := hk.un hH hu
  have hq := hq.mo hk
  have f0_o0 := hk.fl hHo k_o0 f0_o0
  have f1_o0 := hk.fl hHo k_o0 f1_o0
  have f2_o0 := hk.fl hHo k_o0 f2_o0
  have f5_o0 := hk.fl hHo k_o0 f5_o0
  have f7_o0 := hk.fl hHo k_o0 f7_o0
  have f9_o0 := hk.fl hHo k_o0 f9_o0
  have f10_o0 := hk.fl hHo k_o0 f10_o0
  have k_o0 := hk.ty hHo k_o0
  have k_ra_o0 := hk.ty hHo k_ra_o0
  have k_ca_o0 := hk.ty hHo k_ca_o0
  obtain ⟨ra_o1, ca_o1, f1_o1, f10_o1, gr_o1, gc_o1, k_ra_o1, k_ca_o1, f0_o1, f5_o1, f9_o1, f2_o1, f7_o1⟩ := hP
  have hnr : ¬ ra_o0 = ra_o1 := Nat.ne_of_lt (Nat.lt_of_lt_of_le (Nat.lt_trans hlr hlt) gr_o1)
  have hnc : ¬ ca_o0 = ca_o1 := Nat.ne_of_lt (Nat.lt_of_lt_of_le (Nat.lt_trans hlc hlt) gc_o1)
  show et_go none _ 115 23 _ [.ref o1, .ref a] _ 38 292 _
  have hu0 := hu
  refine hs_puti (ci := 10) (f := 1) (ty := .object "KnobEye$State") (v := .ref o1) (p := 26) (by decide +kernel) hu (Nat.le_of_ble_eq_true rfl) rfl (fun G23 hu he e2 => ?_)
  have hu : puc _ _ a (.inr (10, [.ref o0, .ref o1, .int 0, .null, .null, .null, .int 0, .int 0, .null, .null, .int 0, .null])) := hu
  have hq := hq.pt he e2
  have f0_o0 := (congrArg (et_pl · 0) (he o0 (puc_ne hu0 k_o0))).trans f0_o0
  have f1_o0 := (congrArg (et_pl · 1) (he o0 (puc_ne hu0 k_o0))).trans f1_o0
  have f2_o0 := (congrArg (et_pl · 2) (he o0 (puc_ne hu0 k_o0))).trans f2_o0
  have f5_o0 := (congrArg (et_pl · 5) (he o0 (puc_ne hu0 k_o0))).trans f5_o0
  have f7_o0 := (congrArg (et_pl · 7) (he o0 (puc_ne hu0 k_o0))).trans f7_o0
  have f9_o0 := (congrArg (et_pl · 9) (he o0 (puc_ne hu0 k_o0))).trans f9_o0
  have f10_o0 := (congrArg (et_pl · 10) (he o0 (puc_ne hu0 k_o0))).trans f10_o0
  have f0_o1 := (congrArg (et_pl · 0) (he o1 (puc_ne hu0 k_o1))).trans f0_o1
  have f1_o1 := (congrArg (et_pl · 1) (he o1 (puc_ne hu0 k_o1))).trans f1_o1
  have f2_o1 := (congrArg (et_pl · 2) (he o1 (puc_ne hu0 k_o1))).trans f2_o1
  have f5_o1 := (congrArg (et_pl · 5) (he o1 (puc_ne hu0 k_o1))).trans f5_o1
  have f7_o1 := (congrArg (et_pl · 7) (he o1 (puc_ne hu0 k_o1))).trans f7_o1
  have f9_o1 := (congrArg (et_pl · 9) (he o1 (puc_ne hu0 k_o1))).trans f9_o1
  have f10_o1 := (congrArg (et_pl · 10) (he o1 (puc_ne hu0 k_o1))).trans f10_o1
  refine hs_aload (i := 0) (p := 27) (by decide +kernel) rfl ?_
  have hHo := hu.1
  refine ht_newV (ci := 5) (n := 9) (fs := [.null, .int 0, .int 0, .int 0, .null, .null, .null, .int 0, .int 0]) (p := 30) (by decide +kernel) (by omega) (by omega) (by decide +kernel) (by decide +kernel) hu.1 (fun G27 o2 ho hge hlt he => ?_)
  refine hs_dup1 (p := 31) (by decide +kernel) ?_
  refine hs_callp (mi := 62) (na := 0) (lk := 1) (lm := 1) (L0 := eg_en (eg_mL 62) [.ref o2]) (by decide +kernel) rfl rfl rfl rfl rfl (by rw [show eg_mL 62 = 1 from by decide +kernel]; first | done | rfl) ?_
  refine (pi_reader2 ho (by omega)).mono (fun u hZ => pi_cb hZ (fun K31 G31 hq2 hH k_o2 hP => ?_))
  have hk := pk_of hq2 hge hlt he
  have hu := hk.un hH hu
  have hq := hq.mo hk
  have f0_o0 := hk.fl hHo k_o0 f0_o0
  have f1_o0 := hk.fl hHo k_o0 f1_o0
  have f2_o0 := hk.fl hHo k_o0 f2_o0
  have f5_o0 := hk.fl hHo k_o0 f5_o0
  have f7_o0 := hk.fl hHo k_o0 f7_o0
  have f9_o0 := hk.fl hHo k_o0 f9_o0
  have f10_o0 := hk.fl hHo k_o0 f10_o0
  have f0_o1 := hk.fl hHo k_o1 f0_o1
  have f1_o1 := hk.fl hHo k_o1 f1_o1
  have f2_o1 := hk.fl hHo k_o1 f2_o1
  have f5_o1 := hk.fl hHo k_o1 f5_o1
  have f7_o1 := hk.fl hHo k_o1 f7_o1
  have f9_o1 := hk.fl hHo k_o1 f9_o1
  have f10_o1 := hk.fl hHo k_o1 f10_o1
  have k_o0 := hk.ty hHo k_o0
  have k_ra_o0 := hk.ty hHo k_ra_o0
  have k_ca_o0 := hk.ty hHo k_ca_o0
  have k_o1 := hk.ty hHo k_o1
  have k_ra_o1 := hk.ty hHo k_ra_o1
  have k_ca_o1 := hk.ty hHo k_ca_o1
  obtain ⟨fl, ba, na, fba, fna, hbn⟩ := hP
  show et_go none _ 115 34 _ [.ref o2, .ref a] _ 43 1904 _
  have hu0 := hu
  refine hs_puti (ci := 10) (f := 3) (ty := .object "KnobEye$Reader") (v := .ref o2) (p := 37) (by decide +kernel) hu (Nat.le_of_ble_eq_true rfl) rfl (fun G34 hu he e2 => ?_)
  have hu : puc _ _ a (.inr (10, [.ref o0, .ref o1, .int 0, .ref o2, .null, .null, .int 0, .int 0, .null, .null, .int 0, .null])) := hu
  have hq := hq.pt he e2
  have f0_o0 := (congrArg (et_pl · 0) (he o0 (puc_ne hu0 k_o0))).trans f0_o0
  have f1_o0 := (congrArg (et_pl · 1) (he o0 (puc_ne hu0 k_o0))).trans f1_o0
  have f2_o0 := (congrArg (et_pl · 2) (he o0 (puc_ne hu0 k_o0))).trans f2_o0
  have f5_o0 := (congrArg (et_pl · 5) (he o0 (puc_ne hu0 k_o0))).trans f5_o0
  have f7_o0 := (congrArg (et_pl · 7) (he o0 (puc_ne hu0 k_o0))).trans f7_o0
  have f9_o0 := (congrArg (et_pl · 9) (he o0 (puc_ne hu0 k_o0))).trans f9_o0
  have f10_o0 := (congrArg (et_pl · 10) (he o0 (puc_ne hu0 k_o0))).trans f10_o0
  have f0_o1 := (congrArg (et_pl · 0) (he o1 (puc_ne hu0 k_o1))).trans f0_o1
  have f1_o1 := (congrArg (et_pl · 1) (he o1 (puc_ne hu0 k_o1))).trans f1_o1
  have f2_o1 := (congrArg (et_pl · 2) (he o1 (puc_ne hu0 k_o1))).trans f2_o1
  have f5_o1 := (congrArg (et_pl · 5) (he o1 (puc_ne hu0 k_o1))).trans f5_o1
  have f7_o1 := (congrArg (et_pl · 7) (he o1 (puc_ne hu0 k_o1))).trans f7_o1
  have f9_o1 := (congrArg (et_pl · 9) (he o1 (puc_ne hu0 k_o1))).trans f9_o1
  have f10_o1 := (congrArg (et_pl · 10) (he o1 (puc_ne hu0 k_o1))).trans f10_o1
  have fl := (congrArg (et_pl · 1) (he o2 (puc_ne hu0 k_o2))).trans fl
  have fba := (congrArg (et_pl · 5) (he o2 (puc_ne hu0 k_o2))).trans fba
  have fna := (congrArg (et_pl · 6) (he o2 (puc_ne hu0 k_o2))).trans fna
  refine hs_aload (i := 0) (p := 38) (by decide +kernel) rfl ?_
  have hHo := hu.1
  refine ht_newV (ci := 2) (n := 12) (fs := [.int 0, .int 0, .int 0, .int 0, .int 0, .int 0, .int 0, .int 0, .int 0, .int 0, .int 0, .int 0]) (p := 41) (by decide +kernel) (by omega) (by omega) (by decide +kernel) (by decide +kernel) hu.1 (fun G38 o3 ho hge hlt he => ?_)
  refine hs_dup1 (p := 42) (by decide +kernel) ?_
  refine hs_callp (mi := 51) (na := 0) (lk := 1) (lm := 1) (L0 := eg_en (eg_mL 51) [.ref o3]) (by decide +kernel) rfl rfl rfl rfl rfl (by rw [show eg_mL 51 = 1 from by decide +kernel]; first | done | rfl) ?_
  refine (pi_facts ho (by omega)).mono (fun u hZ => pi_cb hZ (fun K42 G42 hq2 hH k_o3 hP => ?_))
  have hk := pk_of hq2 hge hlt he
  have hu := hk.un hH hu
  have hq := hq.mo hk
  have f0_o0 := hk.fl hHo k_o0 f0_o0
  have f1_o0 := hk.fl hHo k_o0 f1_o0
  have f2_o0 := hk.fl hHo k_o0 f2_o0
  have f5_o0 := hk.fl hHo k_o0 f5_o0
  have f7_o0 := hk.fl hHo k_o0 f7_o0
  have f9_o0 := hk.fl hHo k_o0 f9_o0
  have f10_o0 := hk.fl hHo k_o0 f10_o0
  have f0_o1 := hk.fl hHo k_o1 f0_o1
  have f1_o1 := hk.fl hHo k_o1 f1_o1
  have f2_o1 := hk.fl hHo k_o1 f2_o1
  have f5_o1 := hk.fl hHo k_o1 f5_o1
  have f7_o1 := hk.fl hHo k_o1 f7_o1
  have f9_o1 := hk.fl hHo k_o1 f9_o1
  have f10_o1 := hk.fl hHo k_o1 f10_o1
  have fl := hk.fl hHo k_o2 fl
  have fba := hk.fl hHo k_o2 fba
  have fna := hk.fl hHo k_o2 fna
  have k_o0 := hk.ty hHo k_o0
  have k_ra_o0 := hk.ty hHo k_ra_o0
  have k_ca_o0 := hk.ty hHo k_ca_o0
  have k_o1 := hk.ty hHo k_o1
  have k_ra_o1 := hk.ty hHo k_ra_o1
  have k_ca_o1 := hk.ty hHo k_ca_o1
  have k_o2 := hk.ty hHo k_o2
  show et_go none _ 115 45 _ [.ref o3, .ref a] _ 44 1916 _
  have hu0 := hu
  refine hs_puti (ci := 10) (f := 4) (ty := .object "KnobEye$Facts") (v := .ref o3) (p := 48) (by decide +kernel) hu (Nat.le_of_ble_eq_true rfl) rfl (fun G45 hu he e2 => ?_)
  have hu : puc _ _ a (.inr (10, [.ref o0, .ref o1, .int 0, .ref o2, .ref o3, .null, .int 0, .int 0, .null, .null, .int 0, .null])) := hu
  have hq := hq.pt he e2
  have f0_o0 := (congrArg (et_pl · 0) (he o0 (puc_ne hu0 k_o0))).trans f0_o0
  have f1_o0 := (congrArg (et_pl · 1) (he o0 (puc_ne hu0 k_o0))).trans f1_o0
  have f2_o0 := (congrArg (et_pl · 2) (he o0 (puc_ne hu0 k_o0))).trans f2_o0
  have f5_o0 := (congrArg (et_pl · 5) (he o0 (puc_ne hu0 k_o0))).trans f5_o0
  have f7_o0 := (congrArg (et_pl · 7) (he o0 (puc_ne hu0 k_o0))).trans f7_o0
  have f9_o0 := (congrArg (et_pl · 9) (he o0 (puc_ne hu0 k_o0))).trans f9_o0
  have f10_o0 := (congrArg (et_pl · 10) (he o0 (puc_ne hu0 k_o0))).trans f10_o0
  have f0_o1 := (congrArg (et_pl · 0) (he o1 (puc_ne hu0 k_o1))).trans f0_o1
  have f1_o1 := (congrArg (et_pl · 1) (he o1 (puc_ne hu0 k_o1))).trans f1_o1
  have f2_o1 := (congrArg (et_pl · 2) (he o1 (puc_ne hu0 k_o1))).trans f2_o1
  have f5_o1 := (congrArg (et_pl · 5) (he o1 (puc_ne hu0 k_o1))).trans f5_o1
  have f7_o1 := (congrArg (et_pl · 7) (he o1 (puc_ne hu0 k_o1))).trans f7_o1
  have f9_o1 := (congrArg (et_pl · 9) (he o1 (puc_ne hu0 k_o1))).trans f9_o1
  have f10_o1 := (congrArg (et_pl · 10) (he o1 (puc_ne hu0 k_o1))).trans f10_o1
  have fl := (congrArg (et_pl · 1) (he o2 (puc_ne hu0 k_o2))).trans fl
  have fba := (congrArg (et_pl · 5) (he o2 (puc_ne hu0 k_o2))).trans fba
  have fna := (congrArg (et_pl · 6) (he o2 (puc_ne hu0 k_o2))).trans fna
  refine hs_aload (i := 0) (p := 49) (by decide +kernel) rfl ?_
  have hHo := hu.1
  refine ht_newV (ci := 7) (n := 18) (fs := [.null, .null, .null, .null, .int 0, .int 0, .int 0, .int 0, .int 0, .int 0, .int 0, .int 0, .int 0, .int 0, .null, .int 0, .int 0, .null]) (p := 52) (by decide +kernel) (by omega) (by omega) (by decide +kernel) (by decide +kernel) hu.1 (fun G49 o4 ho hge hlt he => ?_)
  refine hs_dup1 (p := 53) (by decide +kernel) ?_
  refine hs_callp (mi := 89) (na := 0) (lk := 1) (lm := 1) (L0 := eg_en (eg_mL 89) [.ref o4]) (by decide +kernel) rfl rfl rfl rfl rfl (by rw [show eg_mL 89 = 1 from by decide +kernel]; first | done | rfl) ?_
  refine (pi_search ho (by omega)).mono (fun u hZ => pi_cb hZ (fun K53 G53 hq2 hH k_o4 hP => ?_))
  have hk := pk_of hq2 hge hlt he
  have hu := hk.un hH hu
  have hq := hq.mo hk
  have f0_o0 := hk.fl hHo k_o0 f0_o0
  have f1_o0 := hk.fl hHo k_o0 f1_o0
  have f2_o0 := hk.fl hHo k_o0 f2_o0
  have f5_o0 := hk.fl hHo k_o0 f5_o0
  have f7_o0 := hk.fl hHo k_o0 f7_o0
  have f9_o0 := hk.fl hHo k_o0 f9_o0
  have f10_o0 := hk.fl hHo k_o0 f10_o0
  have f0_o1 := hk.fl hHo k_o1 f0_o1
  have f1_o1 := hk.fl hHo k_o1 f1_o1
  have f2_o1 := hk.fl hHo k_o1 f2_o1
  have f5_o1 := hk.fl hHo k_o1 f5_o1
  have f7_o1 := hk.fl hHo k_o1 f7_o1
  have f9_o1 := hk.fl hHo k_o1 f9_o1
  have f10_o1 := hk.fl hHo k_o1 f10_o1
  have fl := hk.fl hHo k_o2 fl
  have fba := hk.fl hHo k_o2 fba
  have fna := hk.fl hHo k_o2 fna
  have k_o0 := hk.ty hHo k_o0
  have k_ra_o0 := hk.ty hHo k_ra_o0
  have k_ca_o0 := hk.ty hHo k_ca_o0
  have k_o1 := hk.ty hHo k_o1
  have k_ra_o1 := hk.ty hHo k_ra_o1
  have k_ca_o1 := hk.ty hHo k_ca_o1
  have k_o2 := hk.ty hHo k_o2
  have k_o3 := hk.ty hHo k_o3
  show et_go none _ 115 56 _ [.ref o4, .ref a] _ 71 5017 _
  have hu0 := hu
  refine hs_puti (ci := 10) (f := 5) (ty := .object "KnobEye$Search") (v := .ref o4) (p := 59) (by decide +kernel) hu (Nat.le_of_ble_eq_true rfl) rfl (fun G56 hu he e2 => ?_)
  have hu : puc _ _ a (.inr (10, [.ref o0, .ref o1, .int 0, .ref o2, .ref o3, .ref o4, .int 0, .int 0, .null, .null, .int 0, .null])) := hu
  have hq := hq.pt he e2
  have f0_o0 := (congrArg (et_pl · 0) (he o0 (puc_ne hu0 k_o0))).trans f0_o0
  have f1_o0 := (congrArg (et_pl · 1) (he o0 (puc_ne hu0 k_o0))).trans f1_o0
  have f2_o0 := (congrArg (et_pl · 2) (he o0 (puc_ne hu0 k_o0))).trans f2_o0
  have f5_o0 := (congrArg (et_pl · 5) (he o0 (puc_ne hu0 k_o0))).trans f5_o0
  have f7_o0 := (congrArg (et_pl · 7) (he o0 (puc_ne hu0 k_o0))).trans f7_o0
  have f9_o0 := (congrArg (et_pl · 9) (he o0 (puc_ne hu0 k_o0))).trans f9_o0
  have f10_o0 := (congrArg (et_pl · 10) (he o0 (puc_ne hu0 k_o0))).trans f10_o0
  have f0_o1 := (congrArg (et_pl · 0) (he o1 (puc_ne hu0 k_o1))).trans f0_o1
  have f1_o1 := (congrArg (et_pl · 1) (he o1 (puc_ne hu0 k_o1))).trans f1_o1
  have f2_o1 := (congrArg (et_pl · 2) (he o1 (puc_ne hu0 k_o1))).trans f2_o1
  have f5_o1 := (congrArg (et_pl · 5) (he o1 (puc_ne hu0 k_o1))).trans f5_o1
  have f7_o1 := (congrArg (et_pl · 7) (he o1 (puc_ne hu0 k_o1))).trans f7_o1
  have f9_o1 := (congrArg (et_pl · 9) (he o1 (puc_ne hu0 k_o1))).trans f9_o1
  have f10_o1 := (congrArg (et_pl · 10) (he o1 (puc_ne hu0 k_o1))).trans f10_o1
  have fl := (congrArg (et_pl · 1) (he o2 (puc_ne hu0 k_o2))).trans fl
  have fba := (congrArg (et_pl · 5) (he o2 (puc_ne hu0 k_o2))).trans fba
  have fna := (congrArg (et_pl · 6) (he o2 (puc_ne hu0 k_o2))).trans fna
  refine hs_aload (i := 0) (p := 60) (by decide +kernel) rfl ?_
  refine hs_k (x := (-1)) (p := 61) (by decide +kernel) ?_
  have hu0 := hu
  refine hs_puti (ci := 10) (f := 6) (ty := .int) (v := .int (-1)) (p := 64) (by decide +kernel) hu (Nat.le_of_ble_eq_true rfl) rfl (fun G61 hu he e2 => ?_)
  have hu : puc _ _ a (.inr (10, [.ref o0, .ref o1, .int 0, .ref o2, .ref o3, .ref o4, .int (-1), .int 0, .null, .null, .int 0, .null])) := hu
  have hq := hq.pt he e2
  have f0_o0 := (congrArg (et_pl · 0) (he o0 (puc_ne hu0 k_o0))).trans f0_o0
  have f1_o0 := (congrArg (et_pl · 1) (he o0 (puc_ne hu0 k_o0))).trans f1_o0
  have f2_o0 := (congrArg (et_pl · 2) (he o0 (puc_ne hu0 k_o0))).trans f2_o0
  have f5_o0 := (congrArg (et_pl · 5) (he o0 (puc_ne hu0 k_o0))).trans f5_o0
  have f7_o0 := (congrArg (et_pl · 7) (he o0 (puc_ne hu0 k_o0))).trans f7_o0
  have f9_o0 := (congrArg (et_pl · 9) (he o0 (puc_ne hu0 k_o0))).trans f9_o0
  have f10_o0 := (congrArg (et_pl · 10) (he o0 (puc_ne hu0 k_o0))).trans f10_o0
  have f0_o1 := (congrArg (et_pl · 0) (he o1 (puc_ne hu0 k_o1))).trans f0_o1
  have f1_o1 := (congrArg (et_pl · 1) (he o1 (puc_ne hu0 k_o1))).trans f1_o1
  have f2_o1 := (congrArg (et_pl · 2) (he o1 (puc_ne hu0 k_o1))).trans f2_o1
  have f5_o1 := (congrArg (et_pl · 5) (he o1 (puc_ne hu0 k_o1))).trans f5_o1
  have f7_o1 := (congrArg (et_pl · 7) (he o1 (puc_ne hu0 k_o1))).trans f7_o1
  have f9_o1 := (congrArg (et_pl · 9) (he o1 (puc_ne hu0 k_o1))).trans f9_o1
  have f10_o1 := (congrArg (et_pl · 10) (he o1 (puc_ne hu0 k_o1))).trans f10_o1
  have fl := (congrArg (et_pl · 1) (he o2 (puc_ne hu0 k_o2))).trans fl
  have fba := (congrArg (et_pl · 5) (he o2 (puc_ne hu0 k_o2))).trans fba
  have fna := (congrArg (et_pl · 6) (he o2 (puc_ne hu0 k_o2))).trans fna
  refine hs_aload (i := 0) (p := 65) (by decide +kernel) rfl ?_
  refine hs_k (x := (-1)) (p := 66) (by decide +kernel) ?_
  have hu0 := hu
  refine hs_puti (ci := 10) (f := 7) (ty := .int) (v := .int (-1)) (p := 69) (by decide +kernel) hu (Nat.le_of_ble_eq_true rfl) rfl (fun G66 hu he e2 => ?_)
  have hu : puc _ _ a (.inr (10, [.ref o0, .ref o1, .int 0, .ref o2, .ref o3, .ref o4, .int (-1), .int (-1), .null, .null, .int 0, .null])) := hu
  have hq := hq.pt he e2
  have f0_o0 := (congrArg (et_pl · 0) (he o0 (puc_ne hu0 k_o0))).trans f0_o0
  have f1_o0 := (congrArg (et_pl · 1) (he o0 (puc_ne hu0 k_o0))).trans f1_o0
  have f2_o0 := (congrArg (et_pl · 2) (he o0 (puc_ne hu0 k_o0))).trans f2_o0
  have f5_o0 := (congrArg (et_pl · 5) (he o0 (puc_ne hu0 k_o0))).trans f5_o0
  have f7_o0 := (congrArg (et_pl · 7) (he o0 (puc_ne hu0 k_o0))).trans f7_o0
  have f9_o0 := (congrArg (et_pl · 9) (he o0 (puc_ne hu0 k_o0))).trans f9_o0
  have f10_o0 := (congrArg (et_pl · 10) (he o0 (puc_ne hu0 k_o0))).trans f10_o0
  have f0_o1 := (congrArg (et_pl · 0) (he o1 (puc_ne hu0 k_o1))).trans f0_o1
  have f1_o1 := (congrArg (et_pl · 1) (he o1 (puc_ne hu0 k_o1))).trans f1_o1
  have f2_o1 := (congrArg (et_pl · 2) (he o1 (puc_ne hu0 k_o1))).trans f2_o1
  have f5_o1 := (congrArg (et_pl · 5) (he o1 (puc_ne hu0 k_o1))).trans f5_o1
  have f7_o1 := (congrArg (et_pl · 7) (he o1 (puc_ne hu0 k_o1))).trans f7_o1
  have f9_o1 := (congrArg (et_pl · 9) (he o1 (puc_ne hu0 k_o1))).trans f9_o1
  have f10_o1 := (congrArg (et_pl · 10) (he o1 (puc_ne hu0 k_o1))).trans f10_o1
  have fl := (congrArg (et_pl · 1) (he o2 (puc_ne hu0 k_o2))).trans fl
  have fba := (congrArg (et_pl · 5) (he o2 (puc_ne hu0 k_o2))).trans fba
  have fna := (congrArg (et_pl · 6) (he o2 (puc_ne hu0 k_o2))).trans fna
  refine hs_aload (i := 0) (p := 70) (by decide +kernel) rfl ?_
  have hHo := hu.1
  refine ht_newV (ci := 1) (n := 8) (fs := [.int 0, .null, .null, .null, .int 0, .int 0, .int 0, .int 0]) (p := 73) (by decide +kernel) (by omega) (by omega) (by decide +kernel) (by decide +kernel) hu.1 (fun G70 o5 ho hge hlt he => ?_)
  refine hs_dup1 (p := 74) (by decide +kernel) ?_
  refine hs_callp (mi := 31) (na := 0) (lk := 1) (lm := 1) (L0 := eg_en (eg_mL 31) [.ref o5]) (by decide +kernel) rfl rfl rfl rfl rfl (by rw [show eg_mL 31 = 1 from by decide +kernel]; first | done | rfl) ?_
  refine (pi_eye ho (by omega)).mono (fun u hZ => pi_cb hZ (fun K74 G74 hq2 hH k_o5 hP => ?_))
  have hk := pk_of hq2 hge hlt he
  have hu := hk.un hH hu
  have hq := hq.mo hk
  have f0_o0 := hk.fl hHo k_o0 f0_o0
  have f1_o0 := hk.fl hHo k_o0 f1_o0
  have f2_o0 := hk.fl hHo k_o0 f2_o0
  have f5_o0 := hk.fl hHo k_o0 f5_o0
  have f7_o0 := hk.fl hHo k_o0 f7_o0
  have f9_o0 := hk.fl hHo k_o0 f9_o0
  have f10_o0 := hk.fl hHo k_o0 f10_o0
  have f0_o1 := hk.fl hHo k_o1 f0_o1
  have f1_o1 := hk.fl hHo k_o1 f1_o1
  have f2_o1 := hk.fl hHo k_o1 f2_o1
  have f5_o1 := hk.fl hHo k_o1 f5_o1
  have f7_o1 := hk.fl hHo k_o1 f7_o1
  have f9_o1 := hk.fl hHo k_o1 f9_o1
  have f10_o1 := hk.fl hHo k_o1 f10_o1
  have fl := hk.fl hHo k_o2 fl
  have fba := hk.fl hHo k_o2 fba
  have fna := hk.fl hHo k_o2 fna
  have k_o0 := hk.ty hHo k_o0
  have k_ra_o0 := hk.ty hHo k_ra_o0
  have k_ca_o0 := hk.ty hHo k_ca_o0
  have k_o1 := hk.ty hHo k_o1
  have k_ra_o1 := hk.ty hHo k_ra_o1
  have k_ca_o1 := hk.ty hHo k_ca_o1
  have k_o2 := hk.ty hHo k_o2
  have k_o3 := hk.ty hHo k_o3
  have k_o4 := hk.ty hHo k_o4
  show et_go none _ 115 77 _ [.ref o5, .ref a] _ 75 5043 _
  have hu0 := hu
  refine hs_puti (ci := 10) (f := 8) (ty := .object "KnobEye$Eye") (v := .ref o5) (p := 80) (by decide +kernel) hu (Nat.le_of_ble_eq_true rfl) rfl (fun G77 hu he e2 => ?_)
  have hu : puc _ _ a (.inr (10, [.ref o0, .ref o1, .int 0, .ref o2, .ref o3, .ref o4, .int (-1), .int (-1), .ref o5, .null, .int 0, .null])) := hu
  have hq := hq.pt he e2
  have f0_o0 := (congrArg (et_pl · 0) (he o0 (puc_ne hu0 k_o0))).trans f0_o0
  have f1_o0 := (congrArg (et_pl · 1) (he o0 (puc_ne hu0 k_o0))).trans f1_o0
  have f2_o0 := (congrArg (et_pl · 2) (he o0 (puc_ne hu0 k_o0))).trans f2_o0
  have f5_o0 := (congrArg (et_pl · 5) (he o0 (puc_ne hu0 k_o0))).trans f5_o0
  have f7_o0 := (congrArg (et_pl · 7) (he o0 (puc_ne hu0 k_o0))).trans f7_o0
  have f9_o0 := (congrArg (et_pl · 9) (he o0 (puc_ne hu0 k_o0))).trans f9_o0
  have f10_o0 := (congrArg (et_pl · 10) (he o0 (puc_ne hu0 k_o0))).trans f10_o0
  have f0_o1 := (congrArg (et_pl · 0) (he o1 (puc_ne hu0 k_o1))).trans f0_o1
  have f1_o1 := (congrArg (et_pl · 1) (he o1 (puc_ne hu0 k_o1))).trans f1_o1
  have f2_o1 := (congrArg (et_pl · 2) (he o1 (puc_ne hu0 k_o1))).trans f2_o1
  have f5_o1 := (congrArg (et_pl · 5) (he o1 (puc_ne hu0 k_o1))).trans f5_o1
  have f7_o1 := (congrArg (et_pl · 7) (he o1 (puc_ne hu0 k_o1))).trans f7_o1
  have f9_o1 := (congrArg (et_pl · 9) (he o1 (puc_ne hu0 k_o1))).trans f9_o1
  have f10_o1 := (congrArg (et_pl · 10) (he o1 (puc_ne hu0 k_o1))).trans f10_o1
  have fl := (congrArg (et_pl · 1) (he o2 (puc_ne hu0 k_o2))).trans fl
  have fba := (congrArg (et_pl · 5) (he o2 (puc_ne hu0 k_o2))).trans fba
  have fna := (congrArg (et_pl · 6) (he o2 (puc_ne hu0 k_o2))).trans fna
  refine hs_aload (i := 0) (p := 81) (by decide +kernel) rfl ?_
  refine hs_k (x := Int32.ofNat 5) (p := 82) (by decide +kernel) ?_
  have hHo := hu.1
  refine ht_nb (t := 32) (n := 5) (kd := 0) (p := 84) (by decide +kernel) rfl (by decide +kernel) ⟨by decide +kernel, by decide +kernel, by decide +kernel⟩ (by omega) (by omega) hu.1 (fun K82 G82 b82 hk hH k_b82 hg_b82 hz_b82 => ?_)
  have hg_b82 := Nat.le_trans hq.1 hg_b82
  have hu := hk.un hH hu
  have hq := hq.mo hk
  have f0_o0 := hk.fl hHo k_o0 f0_o0
  have f1_o0 := hk.fl hHo k_o0 f1_o0
  have f2_o0 := hk.fl hHo k_o0 f2_o0
  have f5_o0 := hk.fl hHo k_o0 f5_o0
  have f7_o0 := hk.fl hHo k_o0 f7_o0
  have f9_o0 := hk.fl hHo k_o0 f9_o0
  have f10_o0 := hk.fl hHo k_o0 f10_o0
  have f0_o1 := hk.fl hHo k_o1 f0_o1
  have f1_o1 := hk.fl hHo k_o1 f1_o1
  have f2_o1 := hk.fl hHo k_o1 f2_o1
  have f5_o1 := hk.fl hHo k_o1 f5_o1
  have f7_o1 := hk.fl hHo k_o1 f7_o1
  have f9_o1 := hk.fl hHo k_o1 f9_o1
  have f10_o1 := hk.fl hHo k_o1 f10_o1
  have fl := hk.fl hHo k_o2 fl
  have fba := hk.fl hHo k_o2 fba
  have fna := hk.fl hHo k_o2 fna
  have k_o0 := hk.ty hHo k_o0
  have k_ra_o0 := hk.ty hHo k_ra_o0
  have k_ca_o0 := hk.ty hHo k_ca_o0
  have k_o1 := hk.ty hHo k_o1
  have k_ra_o1 := hk.ty hHo k_ra_o1
  have k_ca_o1 := hk.ty hHo k_ca_o1
  have k_o2 := hk.ty hHo k_o2
  have k_o3 := hk.ty hHo k_o3
  have k_o4 := hk.ty hHo k_o4
  have k_o5 := hk.ty hHo k_o5
  have hu0 := hu
  refine hs_puti (ci := 10) (f := 9) (ty := .array .int) (v := .ref b82) (p := 87) (by decide +kernel) hu (Nat.le_of_ble_eq_true rfl) rfl (fun G84 hu he e2 => ?_)
  have hu : puc _ _ a (.inr (10, [.ref o0, .ref o1, .int 0, .ref o2, .ref o3, .ref o4, .int (-1), .int (-1), .ref o5, .ref b82, .int 0, .null])) := hu
  have hq := hq.pt he e2
  have f0_o0 := (congrArg (et_pl · 0) (he o0 (puc_ne hu0 k_o0))).trans f0_o0
  have f1_o0 := (congrArg (et_pl · 1) (he o0 (puc_ne hu0 k_o0))).trans f1_o0
  have f2_o0 := (congrArg (et_pl · 2) (he o0 (puc_ne hu0 k_o0))).trans f2_o0
  have f5_o0 := (congrArg (et_pl · 5) (he o0 (puc_ne hu0 k_o0))).trans f5_o0
  have f7_o0 := (congrArg (et_pl · 7) (he o0 (puc_ne hu0 k_o0))).trans f7_o0
  have f9_o0 := (congrArg (et_pl · 9) (he o0 (puc_ne hu0 k_o0))).trans f9_o0
  have f10_o0 := (congrArg (et_pl · 10) (he o0 (puc_ne hu0 k_o0))).trans f10_o0
  have f0_o1 := (congrArg (et_pl · 0) (he o1 (puc_ne hu0 k_o1))).trans f0_o1
  have f1_o1 := (congrArg (et_pl · 1) (he o1 (puc_ne hu0 k_o1))).trans f1_o1
  have f2_o1 := (congrArg (et_pl · 2) (he o1 (puc_ne hu0 k_o1))).trans f2_o1
  have f5_o1 := (congrArg (et_pl · 5) (he o1 (puc_ne hu0 k_o1))).trans f5_o1
  have f7_o1 := (congrArg (et_pl · 7) (he o1 (puc_ne hu0 k_o1))).trans f7_o1
  have f9_o1 := (congrArg (et_pl · 9) (he o1 (puc_ne hu0 k_o1))).trans f9_o1
  have f10_o1 := (congrArg (et_pl · 10) (he o1 (puc_ne hu0 k_o1))).trans f10_o1
  have fl := (congrArg (et_pl · 1) (he o2 (puc_ne hu0 k_o2))).trans fl
  have fba := (congrArg (et_pl · 5) (he o2 (puc_ne hu0 k_o2))).trans fba
  have fna := (congrArg (et_pl · 6) (he o2 (puc_ne hu0 k_o2))).trans fna
  refine hs_aload (i := 0) (p := 88) (by decide +kernel) rfl ?_
  have hHo := hu.1
  refine ht_newV (ci := 3) (n := 3) (fs := [.null, .null, .int 0]) (p := 91) (by decide +kernel) (by omega) (by omega) (by decide +kernel) (by decide +kernel) hu.1 (fun G88 o6 ho hge hlt he => ?_)
  refine hs_dup1 (p := 92) (by decide +kernel) ?_
  refine hs_callp (mi := 57) (na := 0) (lk := 1) (lm := 1) (L0 := eg_en (eg_mL 57) [.ref o6]) (by decide +kernel) rfl rfl rfl rfl rfl (by rw [show eg_mL 57 = 1 from by decide +kernel]; first | done | rfl) ?_
  refine (pi_likes ho (by omega)).mono (fun u hZ => pi_cb hZ (fun K92 G92 hq2 hH k_o6 hP => ?_))
  have hk := pk_of hq2 hge hlt he
  have hu := hk.un hH hu
  have hq := hq.mo hk
  have f0_o0 := hk.fl hHo k_o0 f0_o0
  have f1_o0 := hk.fl hHo k_o0 f1_o0
  have f2_o0 := hk.fl hHo k_o0 f2_o0
  have f5_o0 := hk.fl hHo k_o0 f5_o0
  have f7_o0 := hk.fl hHo k_o0 f7_o0
  have f9_o0 := hk.fl hHo k_o0 f9_o0
  have f10_o0 := hk.fl hHo k_o0 f10_o0
  have f0_o1 := hk.fl hHo k_o1 f0_o1
  have f1_o1 := hk.fl hHo k_o1 f1_o1
  have f2_o1 := hk.fl hHo k_o1 f2_o1
  have f5_o1 := hk.fl hHo k_o1 f5_o1
  have f7_o1 := hk.fl hHo k_o1 f7_o1
  have f9_o1 := hk.fl hHo k_o1 f9_o1
  have f10_o1 := hk.fl hHo k_o1 f10_o1
  have fl := hk.fl hHo k_o2 fl
  have fba := hk.fl hHo k_o2 fba
  have fna := hk.fl hHo k_o2 fna
  have k_o0 := hk.ty hHo k_o0
  have k_ra_o0 := hk.ty hHo k_ra_o0
  have k_ca_o0 := hk.ty hHo k_ca_o0
  have k_o1 := hk.ty hHo k_o1
  have k_ra_o1 := hk.ty hHo k_ra_o1
  have k_ca_o1 := hk.ty hHo k_ca_o1
  have k_o2 := hk.ty hHo k_o2
  have k_o3 := hk.ty hHo k_o3
  have k_o4 := hk.ty hHo k_o4
  have k_o5 := hk.ty hHo k_o5
  have k_b82 := hk.ty hHo k_b82
  show et_go none _ 115 95 _ [.ref o6, .ref a] _ 79 136123 _
  have hu0 := hu
  refine hs_puti (ci := 10) (f := 11) (ty := .object "KnobEye$Likes") (v := .ref o6) (p := 98) (by decide +kernel) hu (Nat.le_of_ble_eq_true rfl) rfl (fun G95 hu he e2 => ?_)
  have hu : puc _ _ a (.inr (10, [.ref o0, .ref o1, .int 0, .ref o2, .ref o3, .ref o4, .int (-1), .int (-1), .ref o5, .ref b82, .int 0, .ref o6])) := hu
  have hq := hq.pt he e2
  have f0_o0 := (congrArg (et_pl · 0) (he o0 (puc_ne hu0 k_o0))).trans f0_o0
  have f1_o0 := (congrArg (et_pl · 1) (he o0 (puc_ne hu0 k_o0))).trans f1_o0
  have f2_o0 := (congrArg (et_pl · 2) (he o0 (puc_ne hu0 k_o0))).trans f2_o0
  have f5_o0 := (congrArg (et_pl · 5) (he o0 (puc_ne hu0 k_o0))).trans f5_o0
  have f7_o0 := (congrArg (et_pl · 7) (he o0 (puc_ne hu0 k_o0))).trans f7_o0
  have f9_o0 := (congrArg (et_pl · 9) (he o0 (puc_ne hu0 k_o0))).trans f9_o0
  have f10_o0 := (congrArg (et_pl · 10) (he o0 (puc_ne hu0 k_o0))).trans f10_o0
  have f0_o1 := (congrArg (et_pl · 0) (he o1 (puc_ne hu0 k_o1))).trans f0_o1
  have f1_o1 := (congrArg (et_pl · 1) (he o1 (puc_ne hu0 k_o1))).trans f1_o1
  have f2_o1 := (congrArg (et_pl · 2) (he o1 (puc_ne hu0 k_o1))).trans f2_o1
  have f5_o1 := (congrArg (et_pl · 5) (he o1 (puc_ne hu0 k_o1))).trans f5_o1
  have f7_o1 := (congrArg (et_pl · 7) (he o1 (puc_ne hu0 k_o1))).trans f7_o1
  have f9_o1 := (congrArg (et_pl · 9) (he o1 (puc_ne hu0 k_o1))).trans f9_o1
  have f10_o1 := (congrArg (et_pl · 10) (he o1 (puc_ne hu0 k_o1))).trans f10_o1
  have fl := (congrArg (et_pl · 1) (he o2 (puc_ne hu0 k_o2))).trans fl
  have fba := (congrArg (et_pl · 5) (he o2 (puc_ne hu0 k_o2))).trans fba
  have fna := (congrArg (et_pl · 6) (he o2 (puc_ne hu0 k_o2))).trans fna
  obtain ⟨hHt, kt⟩ := puc_typ (t := 12) hu (by decide) rfl ⟨_, rfl, rfl, fun k p hk => by
      match k, hk with
      | 0, hk => cases hk; exact ⟨_, rfl, .inr (.inr ⟨by decide, _, rfl, k_o0⟩)⟩
      | 1, hk => cases hk; exact ⟨_, rfl, .inr (.inr ⟨by decide, _, rfl, k_o1⟩)⟩
      | 2, hk => cases hk; exact ⟨_, rfl, .inr ⟨_, rfl, by decide, by decide⟩⟩
      | 3, hk => cases hk; exact ⟨_, rfl, .inr (.inr ⟨by decide, _, rfl, k_o2⟩)⟩
      | 4, hk => cases hk; exact ⟨_, rfl, .inr (.inr ⟨by decide, _, rfl, k_o3⟩)⟩
      | 5, hk => cases hk; exact ⟨_, rfl, .inr (.inr ⟨by decide, _, rfl, k_o4⟩)⟩
      | 6, hk => cases hk; exact ⟨_, rfl, .inr ⟨_, rfl, by decide, by decide⟩⟩
      | 7, hk => cases hk; exact ⟨_, rfl, .inr ⟨_, rfl, by decide, by decide⟩⟩
      | 8, hk => cases hk; exact ⟨_, rfl, .inr (.inr ⟨by decide, _, rfl, k_o5⟩)⟩
      | 9, hk => cases hk; exact ⟨_, rfl, .inr (.inr ⟨by decide, _, rfl, k_b82⟩)⟩
      | 10, hk => cases hk; exact ⟨_, rfl, .inr ⟨_, rfl, by decide, by decide⟩⟩
      | 11, hk => cases hk; exact ⟨_, rfl, .inr (.inr ⟨by decide, _, rfl, k_o6⟩)⟩
      | n + 12, hk => cases hk⟩ ⟨fun h => absurd h (by decide), fun h => absurd h (by decide)⟩
  refine hs_vret (by decide +kernel) ?_
  exact ⟨_, hq.ty (.inl rfl), hHt, kt, rfl, rfl, rfl, ⟨⟨⟨o2, by rw [hu.2.2.2.2]; rfl, et_kn_k hu k_o2, fl, ba, na, fba, fna, hbn⟩, o0, o1, ra_o0, ca_o0, ra_o1, ca_o1, kt, ⟨by rw [hu.2.2.2.2]; rfl, by rw [hu.2.2.2.2]; rfl⟩, ⟨hne0, hnr, hnc⟩, ⟨⟨⟨et_kn_k hu k_o0, et_kn_k hu k_ra_o0, et_kn_k hu k_ca_o0⟩, ⟨f1_o0, f10_o0⟩, ⟨f0_o0, f5_o0, f9_o0⟩⟩, f2_o0, f7_o0⟩, ⟨⟨⟨et_kn_k hu k_o1, et_kn_k hu k_ra_o1, et_kn_k hu k_ca_o1⟩, ⟨f1_o1, f10_o1⟩, ⟨f0_o1, f5_o1, f9_o1⟩⟩, f2_o1, f7_o1⟩⟩, by rw [hu.2.2.2.2]; rfl⟩⟩
end PPF2
end
section
theorem hs_cbnP {T : List et_D} {M : et_M} {d k pc ck sk c s : Nat} {L : eg_Ls} {r : List Value} {Z : eg_O → Prop} {w : et_Wd} {u : eg_O} {P : eg_G → Prop} (hu : hi_Z T w M [(.inl none, c, s)] u ∧ P u.2.1) (h : ∀ (K' : et_K) (G' : eg_G) (c' s' : Nat), et_ex w.1 K' → et_fr M w.1 w.2.2 G' → et_H T K' G' → c' ≤ c → s' ≤ s → P G' → et_go none d k (pc + 3) L r G' (ck + c') (sk + s') Z) : hs_cont d k pc L r ck sk Z u := by
  obtain ⟨⟨e, he, K', h1, h2, h3, h4, h5, h6⟩, hP⟩ := hu
  obtain rfl := List.mem_singleton.mp he
  obtain ⟨u1, u2, u3, u4⟩ := u
  have h4 : u1 = .inl none := h4
  subst h4
  exact hs_cb (h K' u2 u3 u4 h1 h2 h3 h5 h6 hP)
end
