section
/-! holds and count: what the reference knows of its RULES stays right -/
section YMA
variable {K : et_K} {G : eg_G} {d d2 am aw n cc : Nat} {x : Int32}
theorem fk_lt (h : (Int32.ofNat 0).toInt ≤ x.toInt ∧ x.toInt ≤ (Int32.ofNat cc - Int32.ofNat 1).toInt) (hcc : cc ≤ 6) : ∃ c : Nat, x = Int32.ofNat c ∧ c < cc := by
  obtain ⟨c, h1, h2⟩ := rp_lt (v := x) (e := cc) (by omega) (Int32.le_iff_toInt_le.mpr h.1) (Int32.le_iff_toInt_le.mpr h.2)
  exact ⟨c, h2, h1⟩
theorem cc_ex (hH : et_H et_TT K G) (k_aw : K aw = some 46) : ∃ cc : Nat, cc ≤ 6 ∧ et_pl (eg_at G aw) 2 = some (.int (Int32.ofNat cc)) := by
  obtain ⟨f, e, hs, -⟩ := hi_arr (kd := 0) (n := 12741) hH k_aw rfl (by decide) (.inl rfl)
  obtain ⟨q, hq, e2⟩ := hi_natW (hs _ (show (2, 2, (.inl (0, 6) : et_P)) ∈ ([(0, 1, .inl (0, 4)), (2, 2, .inl (0, 6)), (3, 3, .inl (0, 20)), (4, 4, .inl (0, 3)), (45, 45, .inl (0, 6)), (68, 68, .inl (0, 6)), (91, 91, .inl (0, 6)), (114, 114, .inl (0, 2)), (116, 116, .inl (0, 2)), (118, 118, .inl (0, 2)), (120, 120, .inl (0, 2)), (122, 122, .inl (0, 2)), (124, 124, .inl (0, 2)), (115, 115, .inl (0, 3)), (117, 117, .inl (0, 3)), (119, 119, .inl (0, 3)), (121, 121, .inl (0, 3)), (123, 123, .inl (0, 3)), (125, 125, .inl (0, 3))] : List (Nat × Nat × et_P)) from List.mem_of_getElem? (i := 1) rfl) 2 (Nat.le_refl _) (Nat.le_refl _) (by decide))
  exact ⟨q, by omega, by rw [e, hf_pl (.inl rfl), if_pos (by decide), e2]⟩
theorem fk_291 (hH : et_H et_TT K G) (k_am : K am = some 13) (k_aw : K aw = some 46) (m1 : et_pl (eg_at G am) 1 = some (.ref aw)) (hn4 : n ≤ 4) (hk : kyB G am aw n) (hd : 11 ≤ d2) : et_go none d2 291 0 (eg_en (eg_mL 291) [.ref am, .int x]) [] G 0 0 (fun u => kyB u.2.1 am aw n) := by
  obtain ⟨d, rfl⟩ : ∃ d, d2 = d + 11 := ⟨d2 - 11, by omega⟩
  obtain ⟨cc, hcc, w2⟩ := cc_ex hH k_aw
  rw [show eg_mL 291 = 2 from by decide +kernel]
  show et_go none (d + 11) 291 0 [some (.ref am), some (.int x)] [] G 0 0 _
  have lt_am := (hH.2.2 _ _ k_am).1
  have lt_aw := (hH.2.2 _ _ k_aw).1
  refine hs_aload (i := 0) (p := 1) (by decide +kernel) rfl ?_
  refine hs_k (x := Int32.ofNat 0) (p := 2) (by decide +kernel) ?_
  have hHo := hH
  refine hf_put (T := et_TT) (t := 13) (ci := 11) (f := 0) (p := 5) (ty := .int) (by decide +kernel) rfl rfl rfl rfl rfl hH k_am hi_any (fun G2 hH x2 e2 => ?_)
  have hk := hk.xs hn4 hHo k_am k_aw x2 (fun b j t kb hs => by rw [hs.1, k_am] at kb; cases kb; rw [hs.2]; exact ⟨by decide, by decide, fun _ => ⟨by decide, by decide⟩, fun h => absurd h (by decide)⟩)
  have m1 := (x2.2 am 1 lt_am (fun h => absurd h.2 (by decide))).trans m1
  have w2 := (x2.2 aw 2 lt_aw (fun h => (hi_ne k_aw k_am (by decide)) h.1)).trans w2
  have lt_am := Nat.lt_of_lt_of_le lt_am x2.1
  have lt_aw := Nat.lt_of_lt_of_le lt_aw x2.1
  refine hs_aload (i := 0) (p := 6) (by decide +kernel) rfl ?_
  refine hs_iload (i := 1) (p := 7) (by decide +kernel) rfl ?_
  refine hs_k (x := Int32.ofNat 0) (p := 8) (by decide +kernel) ?_
  refine hs_aload (i := 0) (p := 9) (by decide +kernel) rfl ?_
  refine hf_get (T := et_TT) (t := 13) (ci := 11) (f := 1) (p := 12) (by decide +kernel) rfl hH k_am m1 ?_
  refine hs_k (x := Int32.ofNat 2) (p := 13) (by decide +kernel) ?_
  refine hf_ald (ins := .iaload) (T := et_TT) (t := 46) (kd := 0) (N := 12741) (p := 14) (by decide +kernel) (fun _ _ _ _ _ _ _ _ _ _ => rfl) rfl rfl rfl hH k_aw (by decide) w2 ?_
  refine hs_k (x := Int32.ofNat 1) (p := 15) (by decide +kernel) ?_
  refine hs_isub (p := 16) (by decide +kernel) ?_
  refine hs_calls (mi := 209) (na := 3) (lk := 2) (lm := 3) (L0 := eg_en (eg_mL 209) [.int x, .int (Int32.ofNat 0), .int (Int32.ofNat cc - Int32.ofNat 1)]) (by decide +kernel) rfl rfl rfl rfl rfl rfl (by rw [show eg_mL 209 = 3 from by decide +kernel]; first | done | rfl) ?_
  refine (fm_in (x := x) (y := Int32.ofNat 0) (z := Int32.ofNat cc - Int32.ofNat 1)).mono (fun u hu => xp_cb hu ?_)
  by_cases xz : (Int32.ofNat 0).toInt ≤ x.toInt ∧ x.toInt ≤ (Int32.ofNat cc - Int32.ofNat 1).toInt
  · rw [if_pos xz]
    show et_go none _ 291 19 _ [.int (Int32.ofNat 1), .ref am] _ _ _ _
    refine hs_if1 (c := .ne) (t := 26) (f := 22) (by decide +kernel) (show ¬ Int32.ofNat 1 = 0 by decide) ?_
    refine hs_k (x := Int32.ofNat 0) (p := 27) (by decide +kernel) ?_
    refine hs_k (x := Int32.ofNat 1) (p := 28) (by decide +kernel) ?_
    refine ht_callv (T := et_TT) (t := 13) (mi := 204) (na := 2) (ci := 11) (lk := 2) (lm := 3) (L0 := eg_en (eg_mL 204) [.ref am, .int (Int32.ofNat 0), .int (Int32.ofNat 1)]) (by decide +kernel) rfl hH k_am rfl rfl rfl rfl rfl (by rw [show eg_mL 204 = 3 from by decide +kernel]; first | done | rfl) ?_
    refine (fm_t0 hH k_am).mono (fun u hu => xp_cb hu ?_)
    show et_go none _ 291 31 _ [.int (Int32.ofNat 0)] _ _ _ _
    refine hs_if0 (c := .ne) (t := 46) (f := 34) (by decide +kernel) (show ¬ (¬ Int32.ofNat 0 = 0) by decide) ?_
    obtain ⟨c, rfl, hc⟩ := fk_lt xz hcc
    show et_go none _ 291 34 [some (.ref am), some (.int (Int32.ofNat c))] [] _ _ _ _
    refine hs_aload (i := 0) (p := 35) (by decide +kernel) rfl ?_
    refine hs_iload (i := 1) (p := 36) (by decide +kernel) rfl ?_
    refine ht_callv (T := et_TT) (t := 13) (mi := 292) (na := 1) (ci := 11) (lk := 2) (lm := 6) (L0 := eg_en (eg_mL 292) [.ref am, .int (Int32.ofNat c)]) (by decide +kernel) rfl hH k_am rfl rfl rfl rfl rfl (by rw [show eg_mL 292 = 6 from by decide +kernel]; first | done | rfl) ?_
    refine ((er_c76 (K, [], G2) [.ref am, .int (Int32.ofNat c)] _ hH (by show 10 ≤ _; omega) rfl (ht_ac (.inr ⟨by decide, _, rfl, k_am⟩) (ht_ac (hi_nv (by omega) (by omega)) ht_an))).and (fk_292 hH k_am k_aw m1 hn4 hk (by omega) (by omega))).mono (fun u hu => hs_cbvP (P := fun g => kyB g am aw n) hu (fun v36 K36 G36 c36 s36 x36 f36 hH hv36 cl36 sl36 hk => ?_))
    obtain rfl : c36 = 0 := Nat.le_zero.mp cl36
    obtain rfl : s36 = 0 := Nat.le_zero.mp sl36
    have m1 := (f36.2 am 13 k_am 1 (by decide +kernel)).trans m1
    have w2 := (f36.2 aw 46 k_aw 2 (by decide +kernel)).trans w2
    have k_am := x36 _ _ k_am
    have lt_am := (hH.2.2 _ _ k_am).1
    have k_aw := x36 _ _ k_aw
    have lt_aw := (hH.2.2 _ _ k_aw).1
    obtain ⟨n36, hn36, rfl⟩ := hi_nat hv36
    show et_go none _ 291 39 _ [.int (Int32.ofNat n36)] _ _ _ _
    refine hs_br1 (c := .eq) (t := 46) (f := 42) (by decide +kernel) (fun (c39 : Int32.ofNat n36 = 0) => ?_) (fun (c39 : ¬ (Int32.ofNat n36 = 0)) => ?_)
    · refine hs_k (x := Int32.ofNat 0) (p := 47) (by decide +kernel) ?_
      refine hs_zret (by decide +kernel) (.inl rfl) ?_
      exact hk
    · refine hs_k (x := Int32.ofNat 1) (p := 43) (by decide +kernel) ?_
      refine hs_goto (p := 47) (by decide +kernel) ?_
      refine hs_zret (by decide +kernel) (.inr rfl) ?_
      exact hk
  · rw [if_neg xz]
    show et_go none _ 291 19 _ [.int (Int32.ofNat 0), .ref am] _ _ _ _
    refine hs_if0 (c := .ne) (t := 26) (f := 22) (by decide +kernel) (show ¬ (¬ Int32.ofNat 0 = 0) by decide) ?_
    refine hs_k (x := Int32.ofNat 1) (p := 23) (by decide +kernel) ?_
    refine hs_goto (p := 27) (by decide +kernel) ?_
    refine hs_k (x := Int32.ofNat 1) (p := 28) (by decide +kernel) ?_
    have hHo := hH
    refine ht_callv (T := et_TT) (t := 13) (mi := 204) (na := 2) (ci := 11) (lk := 2) (lm := 3) (L0 := eg_en (eg_mL 204) [.ref am, .int (Int32.ofNat 1), .int (Int32.ofNat 1)]) (by decide +kernel) rfl hH k_am rfl rfl rfl rfl rfl (by rw [show eg_mL 204 = 3 from by decide +kernel]; first | done | rfl) ?_
    refine (fm_t1 hH k_am).mono (fun u hu => xw_cb hu (fun G28 v28 hH x28 hP28 => ?_))
    have hk := hk.xs hn4 hHo k_am k_aw x28 (fun b j t kb hs => by rw [hs.1, k_am] at kb; cases kb; rw [hs.2]; exact ⟨by decide, by decide, fun _ => ⟨by decide, by decide⟩, fun h => absurd h (by decide)⟩)
    have m1 := (x28.2 am 1 lt_am (fun h => absurd h.2 (by decide))).trans m1
    have w2 := (x28.2 aw 2 lt_aw (fun h => (hi_ne k_aw k_am (by decide)) h.1)).trans w2
    have lt_am := Nat.lt_of_lt_of_le lt_am x28.1
    have lt_aw := Nat.lt_of_lt_of_le lt_aw x28.1
    obtain ⟨rfl, th28⟩ := hP28
    show et_go none _ 291 31 _ [.int (Int32.ofNat 1)] _ _ _ _
    refine hs_if1 (c := .ne) (t := 46) (f := 34) (by decide +kernel) (show ¬ Int32.ofNat 1 = 0 by decide) ?_
    refine hs_k (x := Int32.ofNat 0) (p := 47) (by decide +kernel) ?_
    refine hs_zret (by decide +kernel) (.inl rfl) ?_
    exact hk
theorem fk_293L (hd : 11 ≤ d2) {k : Nat} : ∀ {K : et_K} {G : eg_G} {i : Nat} {z : Int32} (hH : et_H et_TT K G) (k_am : K am = some 13) (k_aw : K aw = some 46) (m1 : et_pl (eg_at G am) 1 = some (.ref aw)) (hn4 : n ≤ 4) (hk : kyB G am aw n) (w2 : et_pl (eg_at G aw) 2 = some (.int (Int32.ofNat cc))) (hcc : cc ≤ 6) (hi : i + k = cc), et_go none d2 293 125 [some (.ref am), some (.int x), some (.int z), some (.int (Int32.ofNat i))] [] G 0 0 (fun u => kyB u.2.1 am aw n) := by
  obtain ⟨d, rfl⟩ : ∃ d, d2 = d + 11 := ⟨d2 - 11, by omega⟩
  induction k with
  | zero =>
    intro K G i z hH k_am k_aw m1 hn4 hk w2 hcc hi
    have lt_am := (hH.2.2 _ _ k_am).1
    have lt_aw := (hH.2.2 _ _ k_aw).1
    refine hs_iload (i := 3) (p := 126) (by decide +kernel) rfl ?_
    refine hs_aload (i := 0) (p := 127) (by decide +kernel) rfl ?_
    refine hf_get (T := et_TT) (t := 13) (ci := 11) (f := 1) (p := 130) (by decide +kernel) rfl hH k_am m1 ?_
    refine hs_k (x := Int32.ofNat 2) (p := 131) (by decide +kernel) ?_
    refine hf_ald (ins := .iaload) (T := et_TT) (t := 46) (kd := 0) (N := 12741) (p := 132) (by decide +kernel) (fun _ _ _ _ _ _ _ _ _ _ => rfl) rfl rfl rfl hH k_aw (by decide) w2 ?_
    refine hs_br2n (c := .ge) (t := 157) (f := 135) (by decide +kernel) (by omega) (by omega) (fun (c132 : cc ≤ i) => ?_) (fun (c132 : ¬ (cc ≤ i)) => ?_)
    · refine hs_iload (i := 2) (p := 158) (by decide +kernel) rfl ?_
      refine hs_iret (by decide +kernel) ?_
      exact hk
    · exact absurd c132 (by omega)
  | succ k ih =>
    intro K G i z hH k_am k_aw m1 hn4 hk w2 hcc hi
    have lt_am := (hH.2.2 _ _ k_am).1
    have lt_aw := (hH.2.2 _ _ k_aw).1
    refine hs_iload (i := 3) (p := 126) (by decide +kernel) rfl ?_
    refine hs_aload (i := 0) (p := 127) (by decide +kernel) rfl ?_
    refine hf_get (T := et_TT) (t := 13) (ci := 11) (f := 1) (p := 130) (by decide +kernel) rfl hH k_am m1 ?_
    refine hs_k (x := Int32.ofNat 2) (p := 131) (by decide +kernel) ?_
    refine hf_ald (ins := .iaload) (T := et_TT) (t := 46) (kd := 0) (N := 12741) (p := 132) (by decide +kernel) (fun _ _ _ _ _ _ _ _ _ _ => rfl) rfl rfl rfl hH k_aw (by decide) w2 ?_
    refine hs_br2n (c := .ge) (t := 157) (f := 135) (by decide +kernel) (by omega) (by omega) (fun (c132 : cc ≤ i) => ?_) (fun (c132 : ¬ (cc ≤ i)) => ?_)
    · exact absurd c132 (by omega)
    · refine hs_iload (i := 2) (p := 136) (by decide +kernel) rfl ?_
      refine hs_aload (i := 0) (p := 137) (by decide +kernel) rfl ?_
      refine hs_iload (i := 3) (p := 138) (by decide +kernel) rfl ?_
      refine ht_callv (T := et_TT) (t := 13) (mi := 292) (na := 1) (ci := 11) (lk := 4) (lm := 6) (L0 := eg_en (eg_mL 292) [.ref am, .int (Int32.ofNat i)]) (by decide +kernel) rfl hH k_am rfl rfl rfl rfl rfl (by rw [show eg_mL 292 = 6 from by decide +kernel]; first | done | rfl) ?_
      refine ((er_c76 (K, [], G) [.ref am, .int (Int32.ofNat i)] _ hH (by show 10 ≤ _; omega) rfl (ht_ac (.inr ⟨by decide, _, rfl, k_am⟩) (ht_ac (hi_nv (by omega) (by omega)) ht_an))).and (fk_292 hH k_am k_aw m1 hn4 hk (by omega) (by omega))).mono (fun u hu => hs_cbvP (P := fun g => kyB g am aw n) hu (fun v138 K138 G138 c138 s138 x138 f138 hH hv138 cl138 sl138 hk => ?_))
      obtain rfl : c138 = 0 := Nat.le_zero.mp cl138
      obtain rfl : s138 = 0 := Nat.le_zero.mp sl138
      have m1 := (f138.2 am 13 k_am 1 (by decide +kernel)).trans m1
      have w2 := (f138.2 aw 46 k_aw 2 (by decide +kernel)).trans w2
      have k_am := x138 _ _ k_am
      have lt_am := (hH.2.2 _ _ k_am).1
      have k_aw := x138 _ _ k_aw
      have lt_aw := (hH.2.2 _ _ k_aw).1
      obtain ⟨n138, hn138, rfl⟩ := hi_nat hv138
      show et_go none _ 293 141 _ [.int (Int32.ofNat n138), .int z] _ _ _ _
      refine hs_br1 (c := .eq) (t := 148) (f := 144) (by decide +kernel) (fun (c141 : Int32.ofNat n138 = 0) => ?_) (fun (c141 : ¬ (Int32.ofNat n138 = 0)) => ?_)
      · refine hs_k (x := Int32.ofNat 0) (p := 149) (by decide +kernel) ?_
        refine hs_iadd (p := 150) (by decide +kernel) ?_
        refine hs_istore (i := 2) (p := 151) (by decide +kernel) (Nat.le_of_ble_eq_true rfl) ?_
        refine hs_iinc1 (i := 3) (p := 154) (by decide +kernel) rfl (Nat.le_of_ble_eq_true rfl) ?_
        refine hs_goto (p := 125) (by decide +kernel) ?_
        exact ih hH k_am k_aw m1 hn4 hk w2 hcc (by omega)
      · refine hs_k (x := Int32.ofNat 1) (p := 145) (by decide +kernel) ?_
        refine hs_goto (p := 149) (by decide +kernel) ?_
        refine hs_iadd (p := 150) (by decide +kernel) ?_
        refine hs_istore (i := 2) (p := 151) (by decide +kernel) (Nat.le_of_ble_eq_true rfl) ?_
        refine hs_iinc1 (i := 3) (p := 154) (by decide +kernel) rfl (Nat.le_of_ble_eq_true rfl) ?_
        refine hs_goto (p := 125) (by decide +kernel) ?_
        exact ih hH k_am k_aw m1 hn4 hk w2 hcc (by omega)
theorem fk_293 (hH : et_H et_TT K G) (k_am : K am = some 13) (k_aw : K aw = some 46) (m1 : et_pl (eg_at G am) 1 = some (.ref aw)) (hn4 : n ≤ 4) (hk : kyB G am aw n) (hd : 11 ≤ d2) : et_go none d2 293 0 (eg_en (eg_mL 293) [.ref am, .int x]) [] G 0 0 (fun u => kyB u.2.1 am aw n) := by
  obtain ⟨d, rfl⟩ : ∃ d, d2 = d + 11 := ⟨d2 - 11, by omega⟩
  obtain ⟨cc, hcc, w2⟩ := cc_ex hH k_aw
  rw [show eg_mL 293 = 4 from by decide +kernel]
  show et_go none (d + 11) 293 0 [some (.ref am), some (.int x), none, none] [] G 0 0 _
  have lt_am := (hH.2.2 _ _ k_am).1
  have lt_aw := (hH.2.2 _ _ k_aw).1
  refine hs_aload (i := 0) (p := 1) (by decide +kernel) rfl ?_
  refine hs_k (x := Int32.ofNat 0) (p := 2) (by decide +kernel) ?_
  have hHo := hH
  refine hf_put (T := et_TT) (t := 13) (ci := 11) (f := 0) (p := 5) (ty := .int) (by decide +kernel) rfl rfl rfl rfl rfl hH k_am hi_any (fun G2 hH x2 e2 => ?_)
  have hk := hk.xs hn4 hHo k_am k_aw x2 (fun b j t kb hs => by rw [hs.1, k_am] at kb; cases kb; rw [hs.2]; exact ⟨by decide, by decide, fun _ => ⟨by decide, by decide⟩, fun h => absurd h (by decide)⟩)
  have m1 := (x2.2 am 1 lt_am (fun h => absurd h.2 (by decide))).trans m1
  have w2 := (x2.2 aw 2 lt_aw (fun h => (hi_ne k_aw k_am (by decide)) h.1)).trans w2
  have lt_am := Nat.lt_of_lt_of_le lt_am x2.1
  have lt_aw := Nat.lt_of_lt_of_le lt_aw x2.1
  refine hs_k (x := Int32.ofNat 0) (p := 6) (by decide +kernel) ?_
  refine hs_istore (i := 2) (p := 7) (by decide +kernel) (Nat.le_of_ble_eq_true rfl) ?_
  refine hs_iload (i := 1) (p := 8) (by decide +kernel) rfl ?_
  refine hs_tsw (dd := 179) (lo := 0) (hi := 7) (offs := #[48, 55, 60, 94, 101, 108, 115, 151]) (len := 48) (by decide +kernel) (by decide) ?_ (List.forall_mem_cons.mpr ⟨?_, List.forall_mem_cons.mpr ⟨?_, List.forall_mem_cons.mpr ⟨?_, List.forall_mem_cons.mpr ⟨?_, List.forall_mem_cons.mpr ⟨?_, List.forall_mem_cons.mpr ⟨?_, List.forall_mem_cons.mpr ⟨?_, List.forall_mem_cons.mpr ⟨?_, fun _ h => absurd h List.not_mem_nil⟩⟩⟩⟩⟩⟩⟩⟩)
  · show et_go none _ 293 187 [some (.ref am), some (.int x), some (.int (Int32.ofNat 0)), none] [] _ _ _ _
    have hq9 := et_pok (T := et_TT) (Ks := []) (an := er_an) (mi := 293) (pc := 187) (ps := [.inr (.inr (0, 13)), .inl (et_mn, et_mx), .inl (0, 0)]) (M := []) (es := [(.inl (some (.inl (et_mn, et_mx))), 0, 0)]) (w := (K, [], G2)) (as := [.ref am, .int x, .int (Int32.ofNat 0)]) (d := 11) (d2 := d + 11) (fun _ h => absurd h List.not_mem_nil) (by decide) (by decide +kernel) hH (by omega) rfl (ht_ac (.inr ⟨by decide, _, rfl, k_am⟩) (ht_ac hi_any (ht_ac (hi_iv (by decide) (by decide)) ht_an)))
    rw [show eg_mL 293 = 4 from by decide +kernel] at hq9
    refine et_go.mono hq9 (fun u hu => ?_)
    obtain ⟨_, _, K9, h1, h2, -⟩ := hu
    exact hk.fr hn4 hH k_am k_aw h2 (by decide +kernel)
  · show et_go none _ 293 56 [some (.ref am), some (.int x), some (.int (Int32.ofNat 0)), none] [] _ _ _ _
    have hq9 := et_pok (T := et_TT) (Ks := []) (an := er_an) (mi := 293) (pc := 56) (ps := [.inr (.inr (0, 13)), .inl (et_mn, et_mx), .inl (0, 0)]) (M := []) (es := [(.inl (some (.inl (et_mn, et_mx))), 0, 0)]) (w := (K, [], G2)) (as := [.ref am, .int x, .int (Int32.ofNat 0)]) (d := 11) (d2 := d + 11) (fun _ h => absurd h List.not_mem_nil) (by decide) (by decide +kernel) hH (by omega) rfl (ht_ac (.inr ⟨by decide, _, rfl, k_am⟩) (ht_ac hi_any (ht_ac (hi_iv (by decide) (by decide)) ht_an)))
    rw [show eg_mL 293 = 4 from by decide +kernel] at hq9
    refine et_go.mono hq9 (fun u hu => ?_)
    obtain ⟨_, _, K9, h1, h2, -⟩ := hu
    exact hk.fr hn4 hH k_am k_aw h2 (by decide +kernel)
  · show et_go none _ 293 63 [some (.ref am), some (.int x), some (.int (Int32.ofNat 0)), none] [] _ _ _ _
    have hq9 := et_pok (T := et_TT) (Ks := []) (an := er_an) (mi := 293) (pc := 63) (ps := [.inr (.inr (0, 13)), .inl (et_mn, et_mx), .inl (0, 0)]) (M := []) (es := [(.inl (some (.inl (et_mn, et_mx))), 0, 0)]) (w := (K, [], G2)) (as := [.ref am, .int x, .int (Int32.ofNat 0)]) (d := 11) (d2 := d + 11) (fun _ h => absurd h List.not_mem_nil) (by decide) (by decide +kernel) hH (by omega) rfl (ht_ac (.inr ⟨by decide, _, rfl, k_am⟩) (ht_ac hi_any (ht_ac (hi_iv (by decide) (by decide)) ht_an)))
    rw [show eg_mL 293 = 4 from by decide +kernel] at hq9
    refine et_go.mono hq9 (fun u hu => ?_)
    obtain ⟨_, _, K9, h1, h2, -⟩ := hu
    exact hk.fr hn4 hH k_am k_aw h2 (by decide +kernel)
  · show et_go none _ 293 68 [some (.ref am), some (.int x), some (.int (Int32.ofNat 0)), none] [] _ _ _ _
    have hq9 := et_pok (T := et_TT) (Ks := [er_q9, er_q41]) (an := er_an) (mi := 293) (pc := 68) (ps := [.inr (.inr (0, 13)), .inl (et_mn, et_mx), .inl (0, 0)]) (M := []) (es := [(.inl (some (.inl (et_mn, et_mx))), 0, 0)]) (w := (K, [], G2)) (as := [.ref am, .int x, .int (Int32.ofNat 0)]) (d := 11) (d2 := d + 11) (List.forall_mem_cons.mpr ⟨er_c9, (List.forall_mem_cons.mpr ⟨er_c41, (fun _ h => absurd h List.not_mem_nil)⟩)⟩) (by decide) (by decide +kernel) hH (by omega) rfl (ht_ac (.inr ⟨by decide, _, rfl, k_am⟩) (ht_ac hi_any (ht_ac (hi_iv (by decide) (by decide)) ht_an)))
    rw [show eg_mL 293 = 4 from by decide +kernel] at hq9
    refine et_go.mono hq9 (fun u hu => ?_)
    obtain ⟨_, _, K9, h1, h2, -⟩ := hu
    exact hk.fr hn4 hH k_am k_aw h2 (by decide +kernel)
  · show et_go none _ 293 102 [some (.ref am), some (.int x), some (.int (Int32.ofNat 0)), none] [] _ _ _ _
    have hq9 := et_pok (T := et_TT) (Ks := []) (an := er_an) (mi := 293) (pc := 102) (ps := [.inr (.inr (0, 13)), .inl (et_mn, et_mx), .inl (0, 0)]) (M := []) (es := [(.inl (some (.inl (et_mn, et_mx))), 0, 0)]) (w := (K, [], G2)) (as := [.ref am, .int x, .int (Int32.ofNat 0)]) (d := 11) (d2 := d + 11) (fun _ h => absurd h List.not_mem_nil) (by decide) (by decide +kernel) hH (by omega) rfl (ht_ac (.inr ⟨by decide, _, rfl, k_am⟩) (ht_ac hi_any (ht_ac (hi_iv (by decide) (by decide)) ht_an)))
    rw [show eg_mL 293 = 4 from by decide +kernel] at hq9
    refine et_go.mono hq9 (fun u hu => ?_)
    obtain ⟨_, _, K9, h1, h2, -⟩ := hu
    exact hk.fr hn4 hH k_am k_aw h2 (by decide +kernel)
  · show et_go none _ 293 109 [some (.ref am), some (.int x), some (.int (Int32.ofNat 0)), none] [] _ _ _ _
    have hq9 := et_pok (T := et_TT) (Ks := []) (an := er_an) (mi := 293) (pc := 109) (ps := [.inr (.inr (0, 13)), .inl (et_mn, et_mx), .inl (0, 0)]) (M := []) (es := [(.inl (some (.inl (et_mn, et_mx))), 0, 0)]) (w := (K, [], G2)) (as := [.ref am, .int x, .int (Int32.ofNat 0)]) (d := 11) (d2 := d + 11) (fun _ h => absurd h List.not_mem_nil) (by decide) (by decide +kernel) hH (by omega) rfl (ht_ac (.inr ⟨by decide, _, rfl, k_am⟩) (ht_ac hi_any (ht_ac (hi_iv (by decide) (by decide)) ht_an)))
    rw [show eg_mL 293 = 4 from by decide +kernel] at hq9
    refine et_go.mono hq9 (fun u hu => ?_)
    obtain ⟨_, _, K9, h1, h2, -⟩ := hu
    exact hk.fr hn4 hH k_am k_aw h2 (by decide +kernel)
  · show et_go none _ 293 116 [some (.ref am), some (.int x), some (.int (Int32.ofNat 0)), none] [] _ _ _ _
    have hq9 := et_pok (T := et_TT) (Ks := []) (an := er_an) (mi := 293) (pc := 116) (ps := [.inr (.inr (0, 13)), .inl (et_mn, et_mx), .inl (0, 0)]) (M := []) (es := [(.inl (some (.inl (et_mn, et_mx))), 0, 0)]) (w := (K, [], G2)) (as := [.ref am, .int x, .int (Int32.ofNat 0)]) (d := 11) (d2 := d + 11) (fun _ h => absurd h List.not_mem_nil) (by decide) (by decide +kernel) hH (by omega) rfl (ht_ac (.inr ⟨by decide, _, rfl, k_am⟩) (ht_ac hi_any (ht_ac (hi_iv (by decide) (by decide)) ht_an)))
    rw [show eg_mL 293 = 4 from by decide +kernel] at hq9
    refine et_go.mono hq9 (fun u hu => ?_)
    obtain ⟨_, _, K9, h1, h2, -⟩ := hu
    exact hk.fr hn4 hH k_am k_aw h2 (by decide +kernel)
  · show et_go none _ 293 123 [some (.ref am), some (.int x), some (.int (Int32.ofNat 0)), none] [] _ _ _ _
    refine hs_k (x := Int32.ofNat 0) (p := 124) (by decide +kernel) ?_
    refine hs_istore (i := 3) (p := 125) (by decide +kernel) (Nat.le_of_ble_eq_true rfl) ?_
    exact fk_293L (by omega) (k := cc) hH k_am k_aw m1 hn4 hk w2 hcc (by omega)
  · show et_go none _ 293 159 [some (.ref am), some (.int x), some (.int (Int32.ofNat 0)), none] [] _ _ _ _
    have hq9 := et_pok (T := et_TT) (Ks := []) (an := er_an) (mi := 293) (pc := 159) (ps := [.inr (.inr (0, 13)), .inl (et_mn, et_mx), .inl (0, 0)]) (M := []) (es := [(.inl (some (.inl (et_mn, et_mx))), 0, 0)]) (w := (K, [], G2)) (as := [.ref am, .int x, .int (Int32.ofNat 0)]) (d := 11) (d2 := d + 11) (fun _ h => absurd h List.not_mem_nil) (by decide) (by decide +kernel) hH (by omega) rfl (ht_ac (.inr ⟨by decide, _, rfl, k_am⟩) (ht_ac hi_any (ht_ac (hi_iv (by decide) (by decide)) ht_an)))
    rw [show eg_mL 293 = 4 from by decide +kernel] at hq9
    refine et_go.mono hq9 (fun u hu => ?_)
    obtain ⟨_, _, K9, h1, h2, -⟩ := hu
    exact hk.fr hn4 hH k_am k_aw h2 (by decide +kernel)
end YMA
end
section
section YLA
variable {K : et_K} {G G0 : eg_G} {b : Nat → Nat} {d2 d am aw ai tm n p pl k dp m i r : Nat}
theorem fm_ruleI (hH : et_H et_TT K G) (k_am : K am = some 13) (m4 : et_pl (eg_at G am) 4 = some (.ref tm)) (k_tm : K tm = some 34) (m5 : et_pl (eg_at G am) 5 = some (.int (Int32.ofNat n))) (hn : n ≤ 400) (ht : ∀ i, i < n → et_pl (eg_at G tm) i = some (.int (sx (b i)))) (hb : ∀ i, i < n → b i < 256) (k_aw : K aw = some 46) (m1 : et_pl (eg_at G am) 1 = some (.ref aw)) (m18 : et_pl (eg_at G am) 18 = some (.ref ai)) (w0 : et_pl (eg_at G aw) 0 = some (.int (Int32.ofNat r))) (hr : r ≤ 4) (hd : 35 ≤ d2) : et_go none d2 180 0 (eg_en (eg_mL 180) [.ref am]) [] G 0 0 (fun u => (∃ f, sp_one (tz_ts 0 b n 0) = some f) → r < 4 → et_pl (eg_at u.2.1 ai) r = some (.int (Int32.ofNat 0))) := by
  obtain ⟨d, rfl⟩ : ∃ d, d2 = d + 35 := ⟨d2 - 35, by omega⟩
  rw [show eg_mL 180 = 2 from by decide +kernel]
  show et_go none (d + 35) 180 0 [some (.ref am), none] [] G 0 0 _
  have hne : ¬ aw = am := hi_ne k_aw k_am (by decide)
  have lt_am := (hH.2.2 _ _ k_am).1
  have lt_tm := (hH.2.2 _ _ k_tm).1
  have lt_aw := (hH.2.2 _ _ k_aw).1
  have hX : xf (fun c j => (c = am ∧ j = 0) ∨ (c = am ∧ (5 ≤ j ∧ j ≤ 10)) ∨ (c = am ∧ (12 ≤ j ∧ j ≤ 13)) ∨ (c = aw ∧ 11900 ≤ j)) G G := xf.rf
  refine hs_aload (i := 0) (p := 1) (by decide +kernel) rfl ?_
  refine ht_callv (T := et_TT) (t := 13) (mi := 181) (na := 0) (ci := 11) (lk := 2) (lm := 1) (L0 := eg_en (eg_mL 181) [.ref am]) (by decide +kernel) rfl hH k_am rfl rfl rfl rfl rfl (by rw [show eg_mL 181 = 1 from by decide +kernel]; first | done | rfl) ?_
  refine (fm_uses hH k_am hn m5).mono (fun u hu => xw_cb hu (fun G1 v1 hH x1 hP1 => ?_))
  have x1 : xf (fun c j => (c = am ∧ j = 0) ∨ (c = am ∧ (5 ≤ j ∧ j ≤ 7)) ∨ (c = am ∧ j = 12)) _ _ := x1
  have m4 := (x1.2 am 4 lt_am (fun h => Or.elim h (fun h => absurd h.2 (by decide)) (fun h => Or.elim h (fun h => absurd h.2 (by decide)) (fun h => absurd h.2 (by decide))))).trans m4
  have m1 := (x1.2 am 1 lt_am (fun h => Or.elim h (fun h => absurd h.2 (by decide)) (fun h => Or.elim h (fun h => absurd h.2 (by decide)) (fun h => absurd h.2 (by decide))))).trans m1
  have m18 := (x1.2 am 18 lt_am (fun h => Or.elim h (fun h => absurd h.2 (by decide)) (fun h => Or.elim h (fun h => absurd h.2 (by decide)) (fun h => absurd h.2 (by decide))))).trans m18
  have w0 := (x1.2 aw 0 lt_aw (fun h => Or.elim h (fun h => hne h.1) (fun h => Or.elim h (fun h => hne h.1) (fun h => hne h.1)))).trans w0
  have ht : ∀ i, i < n → et_pl (eg_at G1 tm) i = some (.int (sx (b i))) := fun i hi => (x1.2 tm i lt_tm (fun h => Or.elim h (fun h => (hi_ne k_tm k_am (by decide)) h.1) (fun h => Or.elim h (fun h => (hi_ne k_tm k_am (by decide)) h.1) (fun h => (hi_ne k_tm k_am (by decide)) h.1)))).trans (ht i hi)
  have lt_am := Nat.lt_of_lt_of_le lt_am x1.1
  have lt_tm := Nat.lt_of_lt_of_le lt_tm x1.1
  have lt_aw := Nat.lt_of_lt_of_le lt_aw x1.1
  have hX := hX.tr x1 (fun b j hb h => by first | omega | (dsimp only at h ⊢; omega) | (dsimp only at h; omega) | (dsimp only; omega))
  obtain ⟨rfl, q0, q5, q6, q7, q12⟩ := hP1
  show et_go none _ 180 4 _ [] _ _ _ _
  refine hs_aload (i := 0) (p := 5) (by decide +kernel) rfl ?_
  refine hs_aload (i := 0) (p := 6) (by decide +kernel) rfl ?_
  refine hs_k (x := Int32.ofNat 0) (p := 7) (by decide +kernel) ?_
  refine ht_callv (T := et_TT) (t := 13) (mi := 182) (na := 1) (ci := 11) (lk := 2) (lm := 3) (L0 := eg_en (eg_mL 182) [.ref am, .int (Int32.ofNat 0)]) (by decide +kernel) rfl hH k_am rfl rfl rfl rfl rfl (by rw [show eg_mL 182 = 3 from by decide +kernel]; first | done | rfl) ?_
  refine (fr_reads_one (pl := 0) (k := 0) (p := 0) hH k_am m4 k_tm q7 hn ht hb q6 tal0 (by decide) k_aw m1 q12 rfl (by decide) (by omega)).mono (fun u hu => xw_cb hu (fun G7 v7 hH x7 hP7 => ?_))
  have x7 : xf (fun c j => (c = am ∧ j = 6) ∨ (c = am ∧ (8 ≤ j ∧ j ≤ 10)) ∨ (c = am ∧ (12 ≤ j ∧ j ≤ 13)) ∨ (c = aw ∧ 11900 ≤ j)) _ _ := x7
  have m4 := (x7.2 am 4 lt_am (fun h => Or.elim h (fun h => absurd h.2 (by decide)) (fun h => Or.elim h (fun h => absurd h.2 (by decide)) (fun h => Or.elim h (fun h => absurd h.2 (by decide)) (fun h => (hi_ne k_am k_aw (by decide)) h.1))))).trans m4
  have q5 := (x7.2 am 5 lt_am (fun h => Or.elim h (fun h => absurd h.2 (by decide)) (fun h => Or.elim h (fun h => absurd h.2 (by decide)) (fun h => Or.elim h (fun h => absurd h.2 (by decide)) (fun h => (hi_ne k_am k_aw (by decide)) h.1))))).trans q5
  have m1 := (x7.2 am 1 lt_am (fun h => Or.elim h (fun h => absurd h.2 (by decide)) (fun h => Or.elim h (fun h => absurd h.2 (by decide)) (fun h => Or.elim h (fun h => absurd h.2 (by decide)) (fun h => (hi_ne k_am k_aw (by decide)) h.1))))).trans m1
  have m18 := (x7.2 am 18 lt_am (fun h => Or.elim h (fun h => absurd h.2 (by decide)) (fun h => Or.elim h (fun h => absurd h.2 (by decide)) (fun h => Or.elim h (fun h => absurd h.2 (by decide)) (fun h => (hi_ne k_am k_aw (by decide)) h.1))))).trans m18
  have w0 := (x7.2 aw 0 lt_aw (fun h => Or.elim h (fun h => hne h.1) (fun h => Or.elim h (fun h => hne h.1) (fun h => Or.elim h (fun h => hne h.1) (fun h => by have h := h.2; omega))))).trans w0
  have q0 := (x7.2 am 0 lt_am (fun h => Or.elim h (fun h => absurd h.2 (by decide)) (fun h => Or.elim h (fun h => absurd h.2 (by decide)) (fun h => Or.elim h (fun h => absurd h.2 (by decide)) (fun h => (hi_ne k_am k_aw (by decide)) h.1))))).trans q0
  have q7 := (x7.2 am 7 lt_am (fun h => Or.elim h (fun h => absurd h.2 (by decide)) (fun h => Or.elim h (fun h => absurd h.2 (by decide)) (fun h => Or.elim h (fun h => absurd h.2 (by decide)) (fun h => (hi_ne k_am k_aw (by decide)) h.1))))).trans q7
  have ht : ∀ i, i < n → et_pl (eg_at G7 tm) i = some (.int (sx (b i))) := fun i hi => (x7.2 tm i lt_tm (fun h => Or.elim h (fun h => (hi_ne k_tm k_am (by decide)) h.1) (fun h => Or.elim h (fun h => (hi_ne k_tm k_am (by decide)) h.1) (fun h => Or.elim h (fun h => (hi_ne k_tm k_am (by decide)) h.1) (fun h => (hi_ne k_tm k_aw (by decide)) h.1))))).trans (ht i hi)
  have lt_am := Nat.lt_of_lt_of_le lt_am x7.1
  have lt_tm := Nat.lt_of_lt_of_le lt_tm x7.1
  have lt_aw := Nat.lt_of_lt_of_le lt_aw x7.1
  have hX := hX.tr x7 (fun b j hb h => by first | omega | (dsimp only at h ⊢; omega) | (dsimp only at h; omega) | (dsimp only; omega))
  rcases hP7 with ⟨sq, rfl⟩ | ⟨f_, C_, sq, rfl, g1, g2, g3, g4, g5⟩
  · have hP : P1 aw 0 (sp_one (tz_ts 0 b n 0)) G7 (some (.int (Int32.ofNat 0))) := .inl ⟨sq, rfl⟩
    show et_go none _ 180 10 _ [.int (Int32.ofNat 0), .ref am] _ _ _ _
    refine hs_if0 (c := .ne) (t := 17) (f := 13) (by decide +kernel) (show ¬ (¬ Int32.ofNat 0 = 0) by decide) ?_
    refine hs_k (x := Int32.ofNat 1) (p := 14) (by decide +kernel) ?_
    refine hs_goto (p := 18) (by decide +kernel) ?_
    refine hs_k (x := Int32.ofNat 1) (p := 19) (by decide +kernel) ?_
    refine ht_callv (T := et_TT) (t := 13) (mi := 204) (na := 2) (ci := 11) (lk := 2) (lm := 3) (L0 := eg_en (eg_mL 204) [.ref am, .int (Int32.ofNat 1), .int (Int32.ofNat 1)]) (by decide +kernel) rfl hH k_am rfl rfl rfl rfl rfl (by rw [show eg_mL 204 = 3 from by decide +kernel]; first | done | rfl) ?_
    refine (fm_t1 hH k_am).mono (fun u hu => xw_cb hu (fun G19 v19 hH x19 hP19 => ?_))
    have hP := hP.fr x19 lt_aw (fun j hs => hne hs.1)
    have m4 := (x19.2 am 4 lt_am (fun h => absurd h.2 (by decide))).trans m4
    have q5 := (x19.2 am 5 lt_am (fun h => absurd h.2 (by decide))).trans q5
    have m1 := (x19.2 am 1 lt_am (fun h => absurd h.2 (by decide))).trans m1
    have m18 := (x19.2 am 18 lt_am (fun h => absurd h.2 (by decide))).trans m18
    have w0 := (x19.2 aw 0 lt_aw (fun h => hne h.1)).trans w0
    have q7 := (x19.2 am 7 lt_am (fun h => absurd h.2 (by decide))).trans q7
    have ht : ∀ i, i < n → et_pl (eg_at G19 tm) i = some (.int (sx (b i))) := fun i hi => (x19.2 tm i lt_tm (fun h => (hi_ne k_tm k_am (by decide)) h.1)).trans (ht i hi)
    have lt_am := Nat.lt_of_lt_of_le lt_am x19.1
    have lt_tm := Nat.lt_of_lt_of_le lt_tm x19.1
    have lt_aw := Nat.lt_of_lt_of_le lt_aw x19.1
    have hX := hX.tr x19 (fun b j hb h => by first | omega | (dsimp only at h ⊢; omega) | (dsimp only at h; omega) | (dsimp only; omega))
    obtain ⟨rfl, th19⟩ := hP19
    show et_go none _ 180 22 _ [.int (Int32.ofNat 1)] _ _ _ _
    refine hs_if1 (c := .ne) (t := 48) (f := 25) (by decide +kernel) (show ¬ Int32.ofNat 1 = 0 by decide) ?_
    refine hs_k (x := Int32.ofNat 0) (p := 49) (by decide +kernel) ?_
    refine hs_iret (by decide +kernel) ?_
    rcases hP with ⟨sq, -⟩ | ⟨_, _, _, hz, _⟩
    · exact fun h _ => by
        obtain ⟨f9, h9⟩ := h
        rw [sq] at h9
        cases h9
    · cases hz
  · have hP : P1 aw 0 (sp_one (tz_ts 0 b n 0)) G7 (some (.int (Int32.ofNat 1))) := .inr ⟨f_, C_, sq, rfl, g1, g2, g3, g4, g5⟩
    show et_go none _ 180 10 _ [.int (Int32.ofNat 1), .ref am] _ _ _ _
    refine hs_if1 (c := .ne) (t := 17) (f := 13) (by decide +kernel) (show ¬ Int32.ofNat 1 = 0 by decide) ?_
    refine hs_k (x := Int32.ofNat 0) (p := 18) (by decide +kernel) ?_
    refine hs_k (x := Int32.ofNat 1) (p := 19) (by decide +kernel) ?_
    refine ht_callv (T := et_TT) (t := 13) (mi := 204) (na := 2) (ci := 11) (lk := 2) (lm := 3) (L0 := eg_en (eg_mL 204) [.ref am, .int (Int32.ofNat 0), .int (Int32.ofNat 1)]) (by decide +kernel) rfl hH k_am rfl rfl rfl rfl rfl (by rw [show eg_mL 204 = 3 from by decide +kernel]; first | done | rfl) ?_
    refine (fm_t0 hH k_am).mono (fun u hu => xp_cb hu ?_)
    show et_go none _ 180 22 _ [.int (Int32.ofNat 0)] _ _ _ _
    refine hs_if0 (c := .ne) (t := 48) (f := 25) (by decide +kernel) (show ¬ (¬ Int32.ofNat 0 = 0) by decide) ?_
    refine hs_aload (i := 0) (p := 26) (by decide +kernel) rfl ?_
    refine hs_aload (i := 0) (p := 27) (by decide +kernel) rfl ?_
    refine hf_get (T := et_TT) (t := 13) (ci := 11) (f := 1) (p := 30) (by decide +kernel) rfl hH k_am m1 ?_
    refine hs_k (x := Int32.ofNat 0) (p := 31) (by decide +kernel) ?_
    refine hf_ald (ins := .iaload) (T := et_TT) (t := 46) (kd := 0) (N := 12741) (p := 32) (by decide +kernel) (fun _ _ _ _ _ _ _ _ _ _ => rfl) rfl rfl rfl hH k_aw (by decide) w0 ?_
    refine hs_k (x := Int32.ofNat 4) (p := 33) (by decide +kernel) ?_
    refine hs_br2n (c := .ne) (t := 40) (f := 36) (by decide +kernel) (by omega) (by omega) (fun (c33 : ¬ r = 4) => ?_) (fun (c33 : ¬ (¬ r = 4)) => ?_)
    · refine hs_k (x := Int32.ofNat 0) (p := 41) (by decide +kernel) ?_
      refine hs_k (x := Int32.ofNat 2) (p := 42) (by decide +kernel) ?_
      refine ht_callv (T := et_TT) (t := 13) (mi := 204) (na := 2) (ci := 11) (lk := 2) (lm := 3) (L0 := eg_en (eg_mL 204) [.ref am, .int (Int32.ofNat 0), .int (Int32.ofNat 2)]) (by decide +kernel) rfl hH k_am rfl rfl rfl rfl rfl (by rw [show eg_mL 204 = 3 from by decide +kernel]; first | done | rfl) ?_
      refine (fm_t0 hH k_am).mono (fun u hu => xp_cb hu ?_)
      show et_go none _ 180 45 _ [.int (Int32.ofNat 0)] _ _ _ _
      refine hs_if1 (c := .eq) (t := 50) (f := 48) (by decide +kernel) (show Int32.ofNat 0 = 0 by decide) ?_
      rcases hP with ⟨-, hz⟩ | ⟨f_, C_, sq, -, g1, g2, g3, g4, g5⟩
      · cases hz
      · obtain ⟨F, W, aw2, ta, tp, pt, bg, st, dp, ai2, TP, IK, hB, -, -, ⟨hi, i1, i2, i3, i4, -, -⟩, ⟨eF, eW, -, -, -, -, -⟩, e⟩ := hi_txt hH k_am
        have ew := m1
        have ei := m18
        rw [eF, hmF_pl (by decide), hB.2.2.1] at ew
        rw [eF, hmF_pl (by decide), hi] at ei
        injection ew with ew
        injection ew with ew
        injection ei with ei
        injection ei with ei
        subst ew
        subst ei
        have hW0 := w0
        rw [eW, hmW_pl (by decide)] at hW0
        injection hW0 with hW0
        injection hW0 with hW0
        have hz : ∀ Z : eg_O → Prop, (∀ V : Nat → Int32, (∀ i, i < 841 → V (126 + 841 * r + i) = W (11900 + i)) → (∀ i, (i < 126 + 841 * r ∨ 126 + 841 * r + 841 ≤ i) → V i = W i) → Z (.inl (some (.int (Int32.ofNat r))), hm_H (eg_u G7 ai2 (.inl (3, (4, .inl (upd IK r 0))))) am aw2 F (upd V 0 (Int32.ofNat (r + 1))), 0, 0)) → et_go none (d + 35) 180 50 [some (.ref am), none] [] G7 0 0 Z := fun Z h => by
          have h1 := tl_rule (d := d + 33) (x1 := none) hB.1 hB.2.2.1 hi i1 i2 i3 i4 (by omega) hW0 h
          rw [← e] at h1
          exact h1
        refine hz _ (fun V v1 v2 => ?_)
        intro _ hr4
        dsimp only
        rw [hm_oo i1 i2, et_at_us i3.1, hf_pl (.inr (.inr (.inl rfl))), if_pos hr4, hs_us]
        rfl
    · refine hs_k (x := Int32.ofNat 1) (p := 37) (by decide +kernel) ?_
      refine hs_goto (p := 41) (by decide +kernel) ?_
      refine hs_k (x := Int32.ofNat 2) (p := 42) (by decide +kernel) ?_
      refine ht_callv (T := et_TT) (t := 13) (mi := 204) (na := 2) (ci := 11) (lk := 2) (lm := 3) (L0 := eg_en (eg_mL 204) [.ref am, .int (Int32.ofNat 1), .int (Int32.ofNat 2)]) (by decide +kernel) rfl hH k_am rfl rfl rfl rfl rfl (by rw [show eg_mL 204 = 3 from by decide +kernel]; first | done | rfl) ?_
      refine (fm_t1 hH k_am).mono (fun u hu => xw_cb hu (fun G42 v42 hH x42 hP42 => ?_))
      have hP := hP.fr x42 lt_aw (fun j hs => hne hs.1)
      have m4 := (x42.2 am 4 lt_am (fun h => absurd h.2 (by decide))).trans m4
      have q5 := (x42.2 am 5 lt_am (fun h => absurd h.2 (by decide))).trans q5
      have m1 := (x42.2 am 1 lt_am (fun h => absurd h.2 (by decide))).trans m1
      have m18 := (x42.2 am 18 lt_am (fun h => absurd h.2 (by decide))).trans m18
      have w0 := (x42.2 aw 0 lt_aw (fun h => hne h.1)).trans w0
      have q7 := (x42.2 am 7 lt_am (fun h => absurd h.2 (by decide))).trans q7
      have ht : ∀ i, i < n → et_pl (eg_at G42 tm) i = some (.int (sx (b i))) := fun i hi => (x42.2 tm i lt_tm (fun h => (hi_ne k_tm k_am (by decide)) h.1)).trans (ht i hi)
      have lt_am := Nat.lt_of_lt_of_le lt_am x42.1
      have lt_tm := Nat.lt_of_lt_of_le lt_tm x42.1
      have lt_aw := Nat.lt_of_lt_of_le lt_aw x42.1
      have hX := hX.tr x42 (fun b j hb h => by first | omega | (dsimp only at h ⊢; omega) | (dsimp only at h; omega) | (dsimp only; omega))
      obtain ⟨rfl, th42⟩ := hP42
      show et_go none _ 180 45 _ [.int (Int32.ofNat 1)] _ _ _ _
      refine hs_if0 (c := .eq) (t := 50) (f := 48) (by decide +kernel) (show ¬ (Int32.ofNat 1 = 0) by decide) ?_
      refine hs_k (x := Int32.ofNat 0) (p := 49) (by decide +kernel) ?_
      refine hs_iret (by decide +kernel) ?_
      exact fun _ h9 => absurd h9 (by omega)
end YLA
theorem kyA.rule {K : et_K} {G G' : eg_G} {am aw ai r : Nat} {sp : Option (sp_E → Bool)} {v : Option Value} (h : kyA G am aw r) (hH : et_H et_TT K G) (k_am : K am = some 13) (k_aw : K aw = some 46) (k_ai : K ai = some 25) (m18 : et_pl (eg_at G am) 18 = some (.ref ai)) (x : xf (fun c j => (c = am ∧ (j = 0 ∨ ((5 ≤ j ∧ j ≤ 10) ∨ (12 ≤ j ∧ j ≤ 13)))) ∨ ((c = ai ∧ j = r) ∨ (c = aw ∧ (j = 0 ∨ (r < 4 ∧ (126 + 841 * r ≤ j ∧ j < 126 + 841 * r + 841) ∨ 11900 ≤ j))))) G G') (hI : (∃ f, sp = some f) → r < 4 → et_pl (eg_at G' ai) r = some (.int (Int32.ofNat 0))) : kyA G' am aw r ∧ ((∃ f, sp = some f) → r < 4 → kyA G' am aw (r + 1)) := by
  have lt : ∀ a t, K a = some t → a < G.2 := fun a t ha => (hH.2.2 a t ha).1
  have g : ∀ j, j = 18 ∨ j = 19 → et_pl (eg_at G' am) j = et_pl (eg_at G am) j := fun j hj => x.2 am j (lt _ _ k_am) (fun hs => by
    rcases hs with hs | hs | hs
    · have := hs.2; omega
    · exact hi_ne k_am k_ai (by decide) hs.1
    · exact hi_ne k_am k_aw (by decide) hs.1)
  have gi : ∀ s, ¬ s = r → et_pl (eg_at G' ai) s = et_pl (eg_at G ai) s := fun s hs9 => x.2 ai s (lt _ _ k_ai) (fun hs => by
    rcases hs with hs | hs | hs
    · exact hi_ne k_ai k_am (by decide) hs.1
    · exact hs9 hs.2
    · exact hi_ne k_ai k_aw (by decide) hs.1)
  have gk : ∀ a, K a = some 30 → ∀ j, et_pl (eg_at G' a) j = et_pl (eg_at G a) j := fun a ka j => x.2 a j (lt _ _ ka) (fun hs => by
    rcases hs with hs | hs | hs
    · exact hi_ne ka k_am (by decide) hs.1
    · exact hi_ne ka k_ai (by decide) hs.1
    · exact hi_ne ka k_aw (by decide) hs.1)
  have gw : ∀ s, s < r → s < 4 → ∀ i, i < 841 → et_pl (eg_at G' aw) (126 + 841 * s + i) = et_pl (eg_at G aw) (126 + 841 * s + i) := fun s h1 h2 i hi => x.2 aw _ (lt _ _ k_aw) (fun hs => by
    rcases hs with hs | hs | hs
    · exact hi_ne k_aw k_am (by decide) hs.1
    · exact hi_ne k_aw k_ai (by decide) hs.1
    · have := hs.2; omega)
  have ga : ∀ a, et_pl (eg_at G am) 18 = some (.ref a) → a = ai := fun a e => Value.ref.inj (Option.some.inj (e.symm.trans m18))
  refine ⟨h.to hH k_am (g 18 (.inl rfl)) (g 19 (.inr rfl)) (fun a ka e s hs _ => .inr ⟨hs, by rw [ga a e]; exact gi s (by omega)⟩) gk gw, fun hf hr => h.to hH k_am (g 18 (.inl rfl)) (g 19 (.inr rfl)) (fun a ka e s hs hs4 => ?_) gk gw⟩
  rw [ga a e]
  by_cases es : s = r
  · subst es
    exact .inl (hI hf hr)
  · exact .inr ⟨by omega, gi s es⟩
end
section
/-! the law's pieces for what the reference knows of its RULES -/
section YOA
variable {K : et_K} {G G' : eg_G} {M : et_M} {am aw ai th s0 s1 n n' c i g : Nat}
theorem ry.rt (h : ry K G th s0 s1 aw ai c i) : rtx G aw c := by
  obtain ⟨D, φ, R0, R1, r0, r1, fo, t, kk, hx, ho⟩ := h
  exact fun r hr => ⟨φ (R0 r), (ho.2.1 r hr).2.2, (t.1 _ (ho.2.1 r hr).1).2⟩
theorem kyA.init (hH : et_H et_TT K G) (k_am : K am = some 13) : kyA G am aw 0 := by
  obtain ⟨ik, m18, -⟩ := hf_ref (t := 13) (f := 18) (u := 25) hH k_am rfl rfl (.inr trivial)
  obtain ⟨kw, m19, -⟩ := hf_ref (t := 13) (f := 19) (u := 30) hH k_am rfl rfl (.inr trivial)
  exact ⟨ik, kw, ⟨m18, m19⟩, fun r hr => absurd hr (Nat.not_lt_zero _)⟩
def kyb_k (M : et_M) : Bool := no_t M 30 && (!et_mm M 13 18 && !et_mm M 13 19)
theorem kyA.bk (h : kyA G am aw n) (hH : et_H et_TT K G) (k_am : K am = some 13) (hg1 : g ≤ 1) (hf : et_fr M K G G') (hk : kyb_k M = true) (hQ : ∀ k, k < 11900 → et_pl (eg_at G' aw) k = (if g = 0 then et_pl (eg_at G aw) k else et_pl (eg_at G ai) k) ∧ et_pl (eg_at G' ai) k = et_pl (eg_at G ai) k) (hI : (g = 0 → ∀ ak, K ak = some 25 → et_pl (eg_at G am) 18 = some (.ref ak) → ∀ k, k < 4 → et_pl (eg_at G' ak) k = et_pl (eg_at G ak) k) ∧ (g = 1 → ∀ ak, et_pl (eg_at G am) 18 = some (.ref ak) → ∀ k, k < 4 → et_pl (eg_at G' ak) k = some (.int (Int32.ofNat 0)))) : kyA G' am aw (if g = 0 then n else n') := by
  unfold kyb_k at hk
  rw [Bool.and_eq_true, Bool.and_eq_true] at hk
  obtain ⟨k1, k2, k3⟩ := hk
  have g18 := hf.2 am 13 k_am 18 (by simpa using k2)
  have g19 := hf.2 am 13 k_am 19 (by simpa using k3)
  by_cases e : g = 0
  · rw [if_pos e]
    exact h.to hH k_am g18 g19 (fun a ka ha r hr hr4 => .inr ⟨hr, hI.1 e a ka ha r hr4⟩) (fun a ka j => hf.2 a 30 ka j (no_mm k1)) (fun r _ hr4 i hi => by
      have h9 := (hQ (126 + 841 * r + i) (by omega)).1
      rw [if_pos e] at h9
      exact h9)
  · rw [if_neg e]
    obtain ⟨ik, kw, ⟨h3, h4⟩, -⟩ := h
    exact ⟨ik, kw, ⟨g18.trans h3, g19.trans h4⟩, fun r _ hr4 => .inl (hI.2 (by omega) ik h3 r hr4)⟩
theorem kyA.xt {S : Nat → Nat → Prop} (h : kyA G am aw n) (hH : et_H et_TT K G) (k_am : K am = some 13) (k_aw : K aw = some 46) (x : xf S G G') (hS : ∀ b j, S b j → (b = am ∧ j ≤ 13) ∨ (b = aw ∧ (j < 126 ∨ 3490 ≤ j))) : kyA G' am aw n := h.xs hH k_am k_aw x (fun b j t kb hs => by
  rcases hS b j hs with ⟨e1, e2⟩ | ⟨e1, e2⟩
  · rw [e1, k_am] at kb
    cases kb
    exact ⟨by decide, by decide, fun _ => ⟨by omega, by omega⟩, fun h => absurd h (by decide)⟩
  · rw [e1, k_aw] at kb
    cases kb
    exact ⟨by decide, by decide, fun h => absurd h (by decide), fun _ => e2⟩)
end YOA
end
