section
/-! FUNCTIONAL: takeFrom copies the counts; image, back -/
def tnP (a s n0 n2 n5 n7 n9 : Nat) (G' : eg_G) : Prop := (et_pl (eg_at G' a) 0 = some (.int (Int32.ofNat n0)) ∧ et_pl (eg_at G' s) 0 = some (.int (Int32.ofNat n0))) ∧ (et_pl (eg_at G' a) 2 = some (.int (Int32.ofNat n2)) ∧ et_pl (eg_at G' s) 2 = some (.int (Int32.ofNat n2))) ∧ (et_pl (eg_at G' a) 5 = some (.int (Int32.ofNat n5)) ∧ et_pl (eg_at G' s) 5 = some (.int (Int32.ofNat n5))) ∧ (et_pl (eg_at G' a) 7 = some (.int (Int32.ofNat n7)) ∧ et_pl (eg_at G' s) 7 = some (.int (Int32.ofNat n7))) ∧ (et_pl (eg_at G' a) 9 = some (.int (Int32.ofNat n9)) ∧ et_pl (eg_at G' s) 9 = some (.int (Int32.ofNat n9)))
theorem tn_cb {K : et_K} {G : eg_G} {d k pc ck sk a s da dc ra ca rc ec cc : Nat} {L : eg_Ls} {r : List Value} {Z : eg_O → Prop} {P : eg_G → Prop} {u : eg_O} (hu : tf_Z K G a s da dc ra ca rc ec cc u ∧ P u.2.1) (h : ∀ (K' : et_K) (G' : eg_G), et_ex K K' → et_fr tf_M K G G' → et_H et_TT K' G' → P G' → et_go none d k (pc + 3) L r G' ck sk Z) : hs_cont d k pc L r ck sk Z u := by
  obtain ⟨hu, hP⟩ := hu
  obtain ⟨K', h1, h2, h3, h4, h5, e, e3, e4⟩ := hu
  obtain ⟨u1, u2, u3, u4⟩ := u
  have e : u1 = .inl none := e
  have e3 : u3 = 0 := e3
  have e4 : u4 = 0 := e4
  subst e e3 e4
  exact hs_cb (h K' u2 h1 h2 h3 hP)
section FMA
variable {K : et_K} {G : eg_G} {d2 d a s th s0 s1 n0 n2 n5 n7 n9 m0 m2 m5 m7 m9 h : Nat}
theorem pm_t5 {i : Nat} (hH : et_H et_TT K G) (k_a : K a = some 10) (k_s : K s = some 10) (hsa : ¬ s = a) (hb : n0 ≤ 4 ∧ n2 ≤ 20 ∧ n5 ≤ 3 ∧ n7 ≤ 4 ∧ n9 ≤ 6) (hs0 : et_pl (eg_at G s) 0 = some (.int (Int32.ofNat n0))) (hs2 : et_pl (eg_at G s) 2 = some (.int (Int32.ofNat n2))) (hs5 : et_pl (eg_at G s) 5 = some (.int (Int32.ofNat n5))) (hs7 : et_pl (eg_at G s) 7 = some (.int (Int32.ofNat n7))) (hs9 : et_pl (eg_at G s) 9 = some (.int (Int32.ofNat n9))) (ha0 : et_pl (eg_at G a) 0 = some (.int (Int32.ofNat n0))) (ha2 : et_pl (eg_at G a) 2 = some (.int (Int32.ofNat n2))) (ha5 : et_pl (eg_at G a) 5 = some (.int (Int32.ofNat n5))) (ha7 : et_pl (eg_at G a) 7 = some (.int (Int32.ofNat n7))) (ha9 : et_pl (eg_at G a) 9 = some (.int (Int32.ofNat n9))) (hi : i ≤ 6) : et_go none (d + 2) 104 158 [some (.ref a), some (.ref s), some (.int (Int32.ofNat i))] [] G 0 0 (fun u => tnP a s n0 n2 n5 n7 n9 u.2.1) := by
  induction hm : 6 - i using Nat.strongRecOn generalizing i K G with
  | _ z ih =>
    obtain ⟨hb0, hb2, hb5, hb7, hb9⟩ := hb
    refine hs_iload (i := 2) (p := 159) (by decide +kernel) rfl ?_
    refine hs_k (x := Int32.ofNat 6) (p := 161) (by decide +kernel) ?_
    refine hs_br2n (c := .ge) (t := 182) (f := 164) (by decide +kernel) (by omega) (by omega) (fun (c161 : 6 ≤ i) => ?_) (fun (c161 : ¬ (6 ≤ i)) => ?_)
    · refine hs_vret (by decide +kernel) ?_
      exact ⟨⟨ha0, hs0⟩, ⟨ha2, hs2⟩, ⟨ha5, hs5⟩, ⟨ha7, hs7⟩, ⟨ha9, hs9⟩⟩
    · refine hs_aload (i := 0) (p := 165) (by decide +kernel) rfl ?_
      refine ht_getr (T := et_TT) (t := 10) (ci := 8) (f := 10) (p := 168) (by decide +kernel) rfl rfl hH k_a (fun a165 k_a165 e165 => ?_)
      refine hs_iload (i := 2) (p := 169) (by decide +kernel) rfl ?_
      refine hs_aload (i := 1) (p := 170) (by decide +kernel) rfl ?_
      refine ht_getr (T := et_TT) (t := 10) (ci := 8) (f := 10) (p := 173) (by decide +kernel) rfl rfl hH k_s (fun a170 k_a170 e170 => ?_)
      refine hs_iload (i := 2) (p := 174) (by decide +kernel) rfl ?_
      refine ht_aald (T := et_TT) (t := 39) (N := 6) (kd := 8) (m := 5) (p := 175) (by decide +kernel) rfl rfl hH k_a170 (by omega) (by omega) (by decide) (fun v174 h174 e174 => ?_)
      refine ht_aasa (t := 39) (u := 2) (N := 6) (kd := 8) (cj := 0) (p := 176) (by decide +kernel) ⟨rfl, rfl⟩ (by decide +kernel) hH k_a165 (by omega) h174 (fun G175 hH f175 e175 he => ?_)
      have hs0 := ((hb_wk f175 (by omega)).2 s 10 k_s 0 rfl).trans hs0
      have hs2 := ((hb_wk f175 (by omega)).2 s 10 k_s 2 rfl).trans hs2
      have hs5 := ((hb_wk f175 (by omega)).2 s 10 k_s 5 rfl).trans hs5
      have hs7 := ((hb_wk f175 (by omega)).2 s 10 k_s 7 rfl).trans hs7
      have hs9 := ((hb_wk f175 (by omega)).2 s 10 k_s 9 rfl).trans hs9
      have ha0 := ((hb_wk f175 (by omega)).2 a 10 k_a 0 rfl).trans ha0
      have ha2 := ((hb_wk f175 (by omega)).2 a 10 k_a 2 rfl).trans ha2
      have ha5 := ((hb_wk f175 (by omega)).2 a 10 k_a 5 rfl).trans ha5
      have ha7 := ((hb_wk f175 (by omega)).2 a 10 k_a 7 rfl).trans ha7
      have ha9 := ((hb_wk f175 (by omega)).2 a 10 k_a 9 rfl).trans ha9
      refine hs_iinc1 (i := 2) (p := 179) (by decide +kernel) rfl (Nat.le_of_ble_eq_true rfl) ?_
      refine hs_goto (p := 158) (by decide +kernel) ?_
      show et_go none (d + 2) 104 158 [some (.ref a), some (.ref s), some (.int (Int32.ofNat (i + 1)))] [] _ 0 0 _
      exact ih (6 - (i + 1)) (by omega) (i := (i + 1)) hH k_a k_s hs0 hs2 hs5 hs7 hs9 ha0 ha2 ha5 ha7 ha9 (by omega) rfl
theorem pm_t4 {i : Nat} (hH : et_H et_TT K G) (k_a : K a = some 10) (k_s : K s = some 10) (hsa : ¬ s = a) (hb : n0 ≤ 4 ∧ n2 ≤ 20 ∧ n5 ≤ 3 ∧ n7 ≤ 4 ∧ n9 ≤ 6) (hs0 : et_pl (eg_at G s) 0 = some (.int (Int32.ofNat n0))) (hs2 : et_pl (eg_at G s) 2 = some (.int (Int32.ofNat n2))) (hs5 : et_pl (eg_at G s) 5 = some (.int (Int32.ofNat n5))) (hs7 : et_pl (eg_at G s) 7 = some (.int (Int32.ofNat n7))) (hs9 : et_pl (eg_at G s) 9 = some (.int (Int32.ofNat n9))) (ha0 : et_pl (eg_at G a) 0 = some (.int (Int32.ofNat n0))) (ha2 : et_pl (eg_at G a) 2 = some (.int (Int32.ofNat n2))) (ha5 : et_pl (eg_at G a) 5 = some (.int (Int32.ofNat n5))) (ha7 : et_pl (eg_at G a) 7 = some (.int (Int32.ofNat n7))) (hi : i ≤ 4) : et_go none (d + 2) 104 125 [some (.ref a), some (.ref s), some (.int (Int32.ofNat i))] [] G 0 0 (fun u => tnP a s n0 n2 n5 n7 n9 u.2.1) := by
  induction hm : 4 - i using Nat.strongRecOn generalizing i K G with
  | _ z ih =>
    obtain ⟨hb0, hb2, hb5, hb7, hb9⟩ := hb
    refine hs_iload (i := 2) (p := 126) (by decide +kernel) rfl ?_
    refine hs_k (x := Int32.ofNat 4) (p := 127) (by decide +kernel) ?_
    refine hs_br2n (c := .ge) (t := 148) (f := 130) (by decide +kernel) (by omega) (by omega) (fun (c127 : 4 ≤ i) => ?_) (fun (c127 : ¬ (4 ≤ i)) => ?_)
    · refine hs_aload (i := 0) (p := 149) (by decide +kernel) rfl ?_
      refine hs_aload (i := 1) (p := 150) (by decide +kernel) rfl ?_
      refine ht_getn (T := et_TT) (t := 10) (ci := 8) (f := 9) (p := 153) (by decide +kernel) rfl rfl hH k_s (fun c150 h150 e150 => ?_)
      obtain rfl : n9 = c150 := hb_cc hs9 e150 (by omega) (by omega)
      refine ht_puta (T := et_TT) (t := 10) (ci := 8) (f := 9) (p := 156) (ty := .int) (by decide +kernel) rfl rfl rfl rfl (by decide +kernel) hH k_a (hi_nv (by omega) (by omega)) (fun G153 hH f153 e153 he => ?_)
      have hs0 := (f153.2 s 10 k_s 0 rfl).trans hs0
      have hs2 := (f153.2 s 10 k_s 2 rfl).trans hs2
      have hs5 := (f153.2 s 10 k_s 5 rfl).trans hs5
      have hs7 := (f153.2 s 10 k_s 7 rfl).trans hs7
      have hs9 := (congrArg (fun c => et_pl c 9) (he s hsa)).trans hs9
      have ha0 := (f153.2 a 10 k_a 0 rfl).trans ha0
      have ha2 := (f153.2 a 10 k_a 2 rfl).trans ha2
      have ha5 := (f153.2 a 10 k_a 5 rfl).trans ha5
      have ha7 := (f153.2 a 10 k_a 7 rfl).trans ha7
      have ha9 := e153
      refine hs_k (x := Int32.ofNat 0) (p := 157) (by decide +kernel) ?_
      refine hs_istore (i := 2) (p := 158) (by decide +kernel) (Nat.le_of_ble_eq_true rfl) ?_
      show et_go none (d + 2) 104 158 [some (.ref a), some (.ref s), some (.int (Int32.ofNat 0))] [] _ 0 0 _
      exact pm_t5 (i := 0) hH k_a k_s hsa ⟨hb0, hb2, hb5, hb7, hb9⟩ hs0 hs2 hs5 hs7 hs9 ha0 ha2 ha5 ha7 ha9 (by omega)
    · refine hs_aload (i := 0) (p := 131) (by decide +kernel) rfl ?_
      refine ht_getr (T := et_TT) (t := 10) (ci := 8) (f := 8) (p := 134) (by decide +kernel) rfl rfl hH k_a (fun a131 k_a131 e131 => ?_)
      refine hs_iload (i := 2) (p := 135) (by decide +kernel) rfl ?_
      refine hs_aload (i := 1) (p := 136) (by decide +kernel) rfl ?_
      refine ht_getr (T := et_TT) (t := 10) (ci := 8) (f := 8) (p := 139) (by decide +kernel) rfl rfl hH k_s (fun a136 k_a136 e136 => ?_)
      refine hs_iload (i := 2) (p := 140) (by decide +kernel) rfl ?_
      refine ht_aald (T := et_TT) (t := 38) (N := 4) (kd := 7) (m := 3) (p := 141) (by decide +kernel) rfl rfl hH k_a136 (by omega) (by omega) (by decide) (fun v140 h140 e140 => ?_)
      refine ht_aasa (t := 38) (u := 11) (N := 4) (kd := 7) (cj := 9) (p := 142) (by decide +kernel) ⟨rfl, rfl⟩ (by decide +kernel) hH k_a131 (by omega) h140 (fun G141 hH f141 e141 he => ?_)
      have hs0 := ((hb_wk f141 (by omega)).2 s 10 k_s 0 rfl).trans hs0
      have hs2 := ((hb_wk f141 (by omega)).2 s 10 k_s 2 rfl).trans hs2
      have hs5 := ((hb_wk f141 (by omega)).2 s 10 k_s 5 rfl).trans hs5
      have hs7 := ((hb_wk f141 (by omega)).2 s 10 k_s 7 rfl).trans hs7
      have hs9 := ((hb_wk f141 (by omega)).2 s 10 k_s 9 rfl).trans hs9
      have ha0 := ((hb_wk f141 (by omega)).2 a 10 k_a 0 rfl).trans ha0
      have ha2 := ((hb_wk f141 (by omega)).2 a 10 k_a 2 rfl).trans ha2
      have ha5 := ((hb_wk f141 (by omega)).2 a 10 k_a 5 rfl).trans ha5
      have ha7 := ((hb_wk f141 (by omega)).2 a 10 k_a 7 rfl).trans ha7
      refine hs_iinc1 (i := 2) (p := 145) (by decide +kernel) rfl (Nat.le_of_ble_eq_true rfl) ?_
      refine hs_goto (p := 125) (by decide +kernel) ?_
      show et_go none (d + 2) 104 125 [some (.ref a), some (.ref s), some (.int (Int32.ofNat (i + 1)))] [] _ 0 0 _
      exact ih (4 - (i + 1)) (by omega) (i := (i + 1)) hH k_a k_s hs0 hs2 hs5 hs7 hs9 ha0 ha2 ha5 ha7 (by omega) rfl
theorem pm_t3 {i : Nat} (hH : et_H et_TT K G) (k_a : K a = some 10) (k_s : K s = some 10) (hsa : ¬ s = a) (hb : n0 ≤ 4 ∧ n2 ≤ 20 ∧ n5 ≤ 3 ∧ n7 ≤ 4 ∧ n9 ≤ 6) (hs0 : et_pl (eg_at G s) 0 = some (.int (Int32.ofNat n0))) (hs2 : et_pl (eg_at G s) 2 = some (.int (Int32.ofNat n2))) (hs5 : et_pl (eg_at G s) 5 = some (.int (Int32.ofNat n5))) (hs7 : et_pl (eg_at G s) 7 = some (.int (Int32.ofNat n7))) (hs9 : et_pl (eg_at G s) 9 = some (.int (Int32.ofNat n9))) (ha0 : et_pl (eg_at G a) 0 = some (.int (Int32.ofNat n0))) (ha2 : et_pl (eg_at G a) 2 = some (.int (Int32.ofNat n2))) (ha5 : et_pl (eg_at G a) 5 = some (.int (Int32.ofNat n5))) (hi : i ≤ 3) : et_go none (d + 2) 104 89 [some (.ref a), some (.ref s), some (.int (Int32.ofNat i))] [] G 0 0 (fun u => tnP a s n0 n2 n5 n7 n9 u.2.1) := by
  induction hm : 3 - i using Nat.strongRecOn generalizing i K G with
  | _ z ih =>
    obtain ⟨hb0, hb2, hb5, hb7, hb9⟩ := hb
    refine hs_iload (i := 2) (p := 90) (by decide +kernel) rfl ?_
    refine hs_k (x := Int32.ofNat 3) (p := 91) (by decide +kernel) ?_
    refine hs_br2n (c := .ge) (t := 115) (f := 94) (by decide +kernel) (by omega) (by omega) (fun (c91 : 3 ≤ i) => ?_) (fun (c91 : ¬ (3 ≤ i)) => ?_)
    · refine hs_aload (i := 0) (p := 116) (by decide +kernel) rfl ?_
      refine hs_aload (i := 1) (p := 117) (by decide +kernel) rfl ?_
      refine ht_getn (T := et_TT) (t := 10) (ci := 8) (f := 7) (p := 120) (by decide +kernel) rfl rfl hH k_s (fun c117 h117 e117 => ?_)
      obtain rfl : n7 = c117 := hb_cc hs7 e117 (by omega) (by omega)
      refine ht_puta (T := et_TT) (t := 10) (ci := 8) (f := 7) (p := 123) (ty := .int) (by decide +kernel) rfl rfl rfl rfl (by decide +kernel) hH k_a (hi_nv (by omega) (by omega)) (fun G120 hH f120 e120 he => ?_)
      have hs0 := (f120.2 s 10 k_s 0 rfl).trans hs0
      have hs2 := (f120.2 s 10 k_s 2 rfl).trans hs2
      have hs5 := (f120.2 s 10 k_s 5 rfl).trans hs5
      have hs7 := (congrArg (fun c => et_pl c 7) (he s hsa)).trans hs7
      have hs9 := (f120.2 s 10 k_s 9 rfl).trans hs9
      have ha0 := (f120.2 a 10 k_a 0 rfl).trans ha0
      have ha2 := (f120.2 a 10 k_a 2 rfl).trans ha2
      have ha5 := (f120.2 a 10 k_a 5 rfl).trans ha5
      have ha7 := e120
      refine hs_k (x := Int32.ofNat 0) (p := 124) (by decide +kernel) ?_
      refine hs_istore (i := 2) (p := 125) (by decide +kernel) (Nat.le_of_ble_eq_true rfl) ?_
      show et_go none (d + 2) 104 125 [some (.ref a), some (.ref s), some (.int (Int32.ofNat 0))] [] _ 0 0 _
      exact pm_t4 (i := 0) hH k_a k_s hsa ⟨hb0, hb2, hb5, hb7, hb9⟩ hs0 hs2 hs5 hs7 hs9 ha0 ha2 ha5 ha7 (by omega)
    · refine hs_aload (i := 0) (p := 95) (by decide +kernel) rfl ?_
      refine ht_getr (T := et_TT) (t := 10) (ci := 8) (f := 6) (p := 98) (by decide +kernel) rfl rfl hH k_a (fun a95 k_a95 e95 => ?_)
      refine hs_iload (i := 2) (p := 99) (by decide +kernel) rfl ?_
      refine ht_aald (T := et_TT) (t := 40) (N := 3) (kd := 6) (m := 2) (p := 100) (by decide +kernel) rfl rfl hH k_a95 (by omega) (by omega) (by decide) (fun v99 h99 e99 => ?_)
      obtain ⟨a99, rfl, k_a99⟩ := hi_ref h99
      refine hs_aload (i := 1) (p := 101) (by decide +kernel) rfl ?_
      refine ht_getr (T := et_TT) (t := 10) (ci := 8) (f := 6) (p := 104) (by decide +kernel) rfl rfl hH k_s (fun a101 k_a101 e101 => ?_)
      refine hs_iload (i := 2) (p := 105) (by decide +kernel) rfl ?_
      refine ht_aald (T := et_TT) (t := 40) (N := 3) (kd := 6) (m := 2) (p := 106) (by decide +kernel) rfl rfl hH k_a101 (by omega) (by omega) (by decide) (fun v105 h105 e105 => ?_)
      obtain ⟨a105, rfl, k_a105⟩ := hi_ref h105
      refine ht_callv (T := et_TT) (t := 3) (mi := 35) (na := 1) (ci := 1) (lk := 3) (lm := 3) (L0 := eg_en (eg_mL 35) [.ref a99, .ref a105]) (by decide +kernel) rfl hH k_a99 rfl rfl rfl rfl rfl (by rw [show eg_mL 35 = 3 from by decide +kernel]; first | done | rfl) ?_
      refine (ek_c5 (K, [], G) [.ref a99, .ref a105] _ hH (by show 1 ≤ _; omega) rfl (ht_ac (.inr ⟨by decide, _, rfl, k_a99⟩) (ht_ac (.inr ⟨by decide, _, rfl, k_a105⟩) ht_an))).mono (fun u hu => hs_cbn hu (fun K106 G106 c106 s106 x106 f106 hH cl106 sl106 => ?_))
      obtain rfl : c106 = 0 := Nat.le_zero.mp cl106
      obtain rfl : s106 = 0 := Nat.le_zero.mp sl106
      have hs0 := (f106.2 s 10 k_s 0 rfl).trans hs0
      have hs2 := (f106.2 s 10 k_s 2 rfl).trans hs2
      have hs5 := (f106.2 s 10 k_s 5 rfl).trans hs5
      have hs7 := (f106.2 s 10 k_s 7 rfl).trans hs7
      have hs9 := (f106.2 s 10 k_s 9 rfl).trans hs9
      have ha0 := (f106.2 a 10 k_a 0 rfl).trans ha0
      have ha2 := (f106.2 a 10 k_a 2 rfl).trans ha2
      have ha5 := (f106.2 a 10 k_a 5 rfl).trans ha5
      have k_a := x106 _ _ k_a
      have k_s := x106 _ _ k_s
      have k_a95 := x106 _ _ k_a95
      have k_a99 := x106 _ _ k_a99
      have k_a101 := x106 _ _ k_a101
      have k_a105 := x106 _ _ k_a105
      show et_go none _ 104 109 _ [] _ 0 0 _
      refine hs_iinc1 (i := 2) (p := 112) (by decide +kernel) rfl (Nat.le_of_ble_eq_true rfl) ?_
      refine hs_goto (p := 89) (by decide +kernel) ?_
      show et_go none (d + 2) 104 89 [some (.ref a), some (.ref s), some (.int (Int32.ofNat (i + 1)))] [] _ 0 0 _
      exact ih (3 - (i + 1)) (by omega) (i := (i + 1)) hH k_a k_s hs0 hs2 hs5 hs7 hs9 ha0 ha2 ha5 (by omega) rfl
theorem pm_t2 {i : Nat} (hH : et_H et_TT K G) (k_a : K a = some 10) (k_s : K s = some 10) (hsa : ¬ s = a) (hb : n0 ≤ 4 ∧ n2 ≤ 20 ∧ n5 ≤ 3 ∧ n7 ≤ 4 ∧ n9 ≤ 6) (hs0 : et_pl (eg_at G s) 0 = some (.int (Int32.ofNat n0))) (hs2 : et_pl (eg_at G s) 2 = some (.int (Int32.ofNat n2))) (hs5 : et_pl (eg_at G s) 5 = some (.int (Int32.ofNat n5))) (hs7 : et_pl (eg_at G s) 7 = some (.int (Int32.ofNat n7))) (hs9 : et_pl (eg_at G s) 9 = some (.int (Int32.ofNat n9))) (ha0 : et_pl (eg_at G a) 0 = some (.int (Int32.ofNat n0))) (ha2 : et_pl (eg_at G a) 2 = some (.int (Int32.ofNat n2))) (hi : i ≤ 20) : et_go none (d + 2) 104 43 [some (.ref a), some (.ref s), some (.int (Int32.ofNat i))] [] G 0 0 (fun u => tnP a s n0 n2 n5 n7 n9 u.2.1) := by
  induction hm : 20 - i using Nat.strongRecOn generalizing i K G with
  | _ z ih =>
    obtain ⟨hb0, hb2, hb5, hb7, hb9⟩ := hb
    refine hs_iload (i := 2) (p := 44) (by decide +kernel) rfl ?_
    refine hs_k (x := Int32.ofNat 20) (p := 46) (by decide +kernel) ?_
    refine hs_br2n (c := .ge) (t := 79) (f := 49) (by decide +kernel) (by omega) (by omega) (fun (c46 : 20 ≤ i) => ?_) (fun (c46 : ¬ (20 ≤ i)) => ?_)
    · refine hs_aload (i := 0) (p := 80) (by decide +kernel) rfl ?_
      refine hs_aload (i := 1) (p := 81) (by decide +kernel) rfl ?_
      refine ht_getn (T := et_TT) (t := 10) (ci := 8) (f := 5) (p := 84) (by decide +kernel) rfl rfl hH k_s (fun c81 h81 e81 => ?_)
      obtain rfl : n5 = c81 := hb_cc hs5 e81 (by omega) (by omega)
      refine ht_puta (T := et_TT) (t := 10) (ci := 8) (f := 5) (p := 87) (ty := .int) (by decide +kernel) rfl rfl rfl rfl (by decide +kernel) hH k_a (hi_nv (by omega) (by omega)) (fun G84 hH f84 e84 he => ?_)
      have hs0 := (f84.2 s 10 k_s 0 rfl).trans hs0
      have hs2 := (f84.2 s 10 k_s 2 rfl).trans hs2
      have hs5 := (congrArg (fun c => et_pl c 5) (he s hsa)).trans hs5
      have hs7 := (f84.2 s 10 k_s 7 rfl).trans hs7
      have hs9 := (f84.2 s 10 k_s 9 rfl).trans hs9
      have ha0 := (f84.2 a 10 k_a 0 rfl).trans ha0
      have ha2 := (f84.2 a 10 k_a 2 rfl).trans ha2
      have ha5 := e84
      refine hs_k (x := Int32.ofNat 0) (p := 88) (by decide +kernel) ?_
      refine hs_istore (i := 2) (p := 89) (by decide +kernel) (Nat.le_of_ble_eq_true rfl) ?_
      show et_go none (d + 2) 104 89 [some (.ref a), some (.ref s), some (.int (Int32.ofNat 0))] [] _ 0 0 _
      exact pm_t3 (i := 0) hH k_a k_s hsa ⟨hb0, hb2, hb5, hb7, hb9⟩ hs0 hs2 hs5 hs7 hs9 ha0 ha2 ha5 (by omega)
    · refine hs_aload (i := 0) (p := 50) (by decide +kernel) rfl ?_
      refine ht_getr (T := et_TT) (t := 10) (ci := 8) (f := 3) (p := 53) (by decide +kernel) rfl rfl hH k_a (fun a50 k_a50 e50 => ?_)
      refine hs_iload (i := 2) (p := 54) (by decide +kernel) rfl ?_
      refine hs_aload (i := 1) (p := 55) (by decide +kernel) rfl ?_
      refine ht_getr (T := et_TT) (t := 10) (ci := 8) (f := 3) (p := 58) (by decide +kernel) rfl rfl hH k_s (fun a55 k_a55 e55 => ?_)
      refine hs_iload (i := 2) (p := 59) (by decide +kernel) rfl ?_
      refine ht_ild (T := et_TT) (t := 17) (N := 20) (p := 60) (by decide +kernel) rfl hH k_a55 (by omega) (by decide) (fun x59 s59 e59 => ?_)
      refine ht_ist (M := [(17, 0, 100000)]) (T := et_TT) (t := 17) (N := 20) (p := 61) (by decide +kernel) rfl rfl (by decide) hH k_a50 (by omega) (by decide) (fun s hs => absurd hs List.not_mem_nil) (hb_mm (by omega)) (fun G60 hH f60 => ?_)
      have hs0 := (f60.2 s 10 k_s 0 rfl).trans hs0
      have hs2 := (f60.2 s 10 k_s 2 rfl).trans hs2
      have hs5 := (f60.2 s 10 k_s 5 rfl).trans hs5
      have hs7 := (f60.2 s 10 k_s 7 rfl).trans hs7
      have hs9 := (f60.2 s 10 k_s 9 rfl).trans hs9
      have ha0 := (f60.2 a 10 k_a 0 rfl).trans ha0
      have ha2 := (f60.2 a 10 k_a 2 rfl).trans ha2
      refine hs_aload (i := 0) (p := 62) (by decide +kernel) rfl ?_
      refine ht_getr (T := et_TT) (t := 10) (ci := 8) (f := 4) (p := 65) (by decide +kernel) rfl rfl hH k_a (fun a62 k_a62 e62 => ?_)
      refine hs_iload (i := 2) (p := 66) (by decide +kernel) rfl ?_
      refine hs_aload (i := 1) (p := 67) (by decide +kernel) rfl ?_
      refine ht_getr (T := et_TT) (t := 10) (ci := 8) (f := 4) (p := 70) (by decide +kernel) rfl rfl hH k_s (fun a67 k_a67 e67 => ?_)
      refine hs_iload (i := 2) (p := 71) (by decide +kernel) rfl ?_
      refine ht_zln (t := 27) (N := 20) (m := 19) (p := 72) (by decide +kernel) rfl hH k_a67 (by omega) (by omega) (by decide) (fun c71 h71 => ?_)
      refine ht_zst (M := [(27, 0, 100000)]) (t := 27) (N := 20) (p := 73) (by decide +kernel) rfl rfl hH k_a62 (by omega) (by decide) (by omega) (hb_mm (by omega)) (fun G72 hH f72 => ?_)
      have hs0 := (f72.2 s 10 k_s 0 rfl).trans hs0
      have hs2 := (f72.2 s 10 k_s 2 rfl).trans hs2
      have hs5 := (f72.2 s 10 k_s 5 rfl).trans hs5
      have hs7 := (f72.2 s 10 k_s 7 rfl).trans hs7
      have hs9 := (f72.2 s 10 k_s 9 rfl).trans hs9
      have ha0 := (f72.2 a 10 k_a 0 rfl).trans ha0
      have ha2 := (f72.2 a 10 k_a 2 rfl).trans ha2
      refine hs_iinc1 (i := 2) (p := 76) (by decide +kernel) rfl (Nat.le_of_ble_eq_true rfl) ?_
      refine hs_goto (p := 43) (by decide +kernel) ?_
      show et_go none (d + 2) 104 43 [some (.ref a), some (.ref s), some (.int (Int32.ofNat (i + 1)))] [] _ 0 0 _
      exact ih (20 - (i + 1)) (by omega) (i := (i + 1)) hH k_a k_s hs0 hs2 hs5 hs7 hs9 ha0 ha2 (by omega) rfl
theorem pm_t1 {i : Nat} (hH : et_H et_TT K G) (k_a : K a = some 10) (k_s : K s = some 10) (hsa : ¬ s = a) (hb : n0 ≤ 4 ∧ n2 ≤ 20 ∧ n5 ≤ 3 ∧ n7 ≤ 4 ∧ n9 ≤ 6) (hs0 : et_pl (eg_at G s) 0 = some (.int (Int32.ofNat n0))) (hs2 : et_pl (eg_at G s) 2 = some (.int (Int32.ofNat n2))) (hs5 : et_pl (eg_at G s) 5 = some (.int (Int32.ofNat n5))) (hs7 : et_pl (eg_at G s) 7 = some (.int (Int32.ofNat n7))) (hs9 : et_pl (eg_at G s) 9 = some (.int (Int32.ofNat n9))) (ha0 : et_pl (eg_at G a) 0 = some (.int (Int32.ofNat n0))) (hi : i ≤ 4) : et_go none (d + 2) 104 10 [some (.ref a), some (.ref s), some (.int (Int32.ofNat i))] [] G 0 0 (fun u => tnP a s n0 n2 n5 n7 n9 u.2.1) := by
  induction hm : 4 - i using Nat.strongRecOn generalizing i K G with
  | _ z ih =>
    obtain ⟨hb0, hb2, hb5, hb7, hb9⟩ := hb
    refine hs_iload (i := 2) (p := 11) (by decide +kernel) rfl ?_
    refine hs_k (x := Int32.ofNat 4) (p := 12) (by decide +kernel) ?_
    refine hs_br2n (c := .ge) (t := 33) (f := 15) (by decide +kernel) (by omega) (by omega) (fun (c12 : 4 ≤ i) => ?_) (fun (c12 : ¬ (4 ≤ i)) => ?_)
    · refine hs_aload (i := 0) (p := 34) (by decide +kernel) rfl ?_
      refine hs_aload (i := 1) (p := 35) (by decide +kernel) rfl ?_
      refine ht_getn (T := et_TT) (t := 10) (ci := 8) (f := 2) (p := 38) (by decide +kernel) rfl rfl hH k_s (fun c35 h35 e35 => ?_)
      obtain rfl : n2 = c35 := hb_cc hs2 e35 (by omega) (by omega)
      refine ht_puta (T := et_TT) (t := 10) (ci := 8) (f := 2) (p := 41) (ty := .int) (by decide +kernel) rfl rfl rfl rfl (by decide +kernel) hH k_a (hi_nv (by omega) (by omega)) (fun G38 hH f38 e38 he => ?_)
      have hs0 := (f38.2 s 10 k_s 0 rfl).trans hs0
      have hs2 := (congrArg (fun c => et_pl c 2) (he s hsa)).trans hs2
      have hs5 := (f38.2 s 10 k_s 5 rfl).trans hs5
      have hs7 := (f38.2 s 10 k_s 7 rfl).trans hs7
      have hs9 := (f38.2 s 10 k_s 9 rfl).trans hs9
      have ha0 := (f38.2 a 10 k_a 0 rfl).trans ha0
      have ha2 := e38
      refine hs_k (x := Int32.ofNat 0) (p := 42) (by decide +kernel) ?_
      refine hs_istore (i := 2) (p := 43) (by decide +kernel) (Nat.le_of_ble_eq_true rfl) ?_
      show et_go none (d + 2) 104 43 [some (.ref a), some (.ref s), some (.int (Int32.ofNat 0))] [] _ 0 0 _
      exact pm_t2 (i := 0) hH k_a k_s hsa ⟨hb0, hb2, hb5, hb7, hb9⟩ hs0 hs2 hs5 hs7 hs9 ha0 ha2 (by omega)
    · refine hs_aload (i := 0) (p := 16) (by decide +kernel) rfl ?_
      refine ht_getr (T := et_TT) (t := 10) (ci := 8) (f := 1) (p := 19) (by decide +kernel) rfl rfl hH k_a (fun a16 k_a16 e16 => ?_)
      refine hs_iload (i := 2) (p := 20) (by decide +kernel) rfl ?_
      refine hs_aload (i := 1) (p := 21) (by decide +kernel) rfl ?_
      refine ht_getr (T := et_TT) (t := 10) (ci := 8) (f := 1) (p := 24) (by decide +kernel) rfl rfl hH k_s (fun a21 k_a21 e21 => ?_)
      refine hs_iload (i := 2) (p := 25) (by decide +kernel) rfl ?_
      refine ht_aald (T := et_TT) (t := 37) (N := 4) (kd := 5) (m := 3) (p := 26) (by decide +kernel) rfl rfl hH k_a21 (by omega) (by omega) (by decide) (fun v25 h25 e25 => ?_)
      refine ht_aasa (t := 37) (u := 8) (N := 4) (kd := 5) (cj := 6) (p := 27) (by decide +kernel) ⟨rfl, rfl⟩ (by decide +kernel) hH k_a16 (by omega) h25 (fun G26 hH f26 e26 he => ?_)
      have hs0 := ((hb_wk f26 (by omega)).2 s 10 k_s 0 rfl).trans hs0
      have hs2 := ((hb_wk f26 (by omega)).2 s 10 k_s 2 rfl).trans hs2
      have hs5 := ((hb_wk f26 (by omega)).2 s 10 k_s 5 rfl).trans hs5
      have hs7 := ((hb_wk f26 (by omega)).2 s 10 k_s 7 rfl).trans hs7
      have hs9 := ((hb_wk f26 (by omega)).2 s 10 k_s 9 rfl).trans hs9
      have ha0 := ((hb_wk f26 (by omega)).2 a 10 k_a 0 rfl).trans ha0
      refine hs_iinc1 (i := 2) (p := 30) (by decide +kernel) rfl (Nat.le_of_ble_eq_true rfl) ?_
      refine hs_goto (p := 10) (by decide +kernel) ?_
      show et_go none (d + 2) 104 10 [some (.ref a), some (.ref s), some (.int (Int32.ofNat (i + 1)))] [] _ 0 0 _
      exact ih (4 - (i + 1)) (by omega) (i := (i + 1)) hH k_a k_s hs0 hs2 hs5 hs7 hs9 ha0 (by omega) rfl
theorem hc_takeN (hH : et_H et_TT K G) (k_a : K a = some 10) (k_s : K s = some 10) (hsa : ¬ s = a) (hb : n0 ≤ 4 ∧ n2 ≤ 20 ∧ n5 ≤ 3 ∧ n7 ≤ 4 ∧ n9 ≤ 6) (hs0 : et_pl (eg_at G s) 0 = some (.int (Int32.ofNat n0))) (hs2 : et_pl (eg_at G s) 2 = some (.int (Int32.ofNat n2))) (hs5 : et_pl (eg_at G s) 5 = some (.int (Int32.ofNat n5))) (hs7 : et_pl (eg_at G s) 7 = some (.int (Int32.ofNat n7))) (hs9 : et_pl (eg_at G s) 9 = some (.int (Int32.ofNat n9))) (hd : 2 ≤ d2) : et_go none d2 104 0 (eg_en (eg_mL 104) [.ref a, .ref s]) [] G 0 0 (fun u => tnP a s n0 n2 n5 n7 n9 u.2.1) := by
  obtain ⟨d, rfl⟩ : ∃ d, d2 = d + 2 := ⟨d2 - 2, by omega⟩
  obtain ⟨hb0, hb2, hb5, hb7, hb9⟩ := hb
  rw [show eg_mL 104 = 3 from by decide +kernel]
  show et_go none (d + 2) 104 0 [some (.ref a), some (.ref s), none] [] G 0 0 _
  refine hs_aload (i := 0) (p := 1) (by decide +kernel) rfl ?_
  refine hs_aload (i := 1) (p := 2) (by decide +kernel) rfl ?_
  refine ht_getn (T := et_TT) (t := 10) (ci := 8) (f := 0) (p := 5) (by decide +kernel) rfl rfl hH k_s (fun c2 h2 e2 => ?_)
  obtain rfl : n0 = c2 := hb_cc hs0 e2 (by omega) (by omega)
  refine ht_puta (T := et_TT) (t := 10) (ci := 8) (f := 0) (p := 8) (ty := .int) (by decide +kernel) rfl rfl rfl rfl (by decide +kernel) hH k_a (hi_nv (by omega) (by omega)) (fun G5 hH f5 e5 he => ?_)
  have hs0 := (congrArg (fun c => et_pl c 0) (he s hsa)).trans hs0
  have hs2 := (f5.2 s 10 k_s 2 rfl).trans hs2
  have hs5 := (f5.2 s 10 k_s 5 rfl).trans hs5
  have hs7 := (f5.2 s 10 k_s 7 rfl).trans hs7
  have hs9 := (f5.2 s 10 k_s 9 rfl).trans hs9
  have ha0 := e5
  refine hs_k (x := Int32.ofNat 0) (p := 9) (by decide +kernel) ?_
  refine hs_istore (i := 2) (p := 10) (by decide +kernel) (Nat.le_of_ble_eq_true rfl) ?_
  show et_go none (d + 2) 104 10 [some (.ref a), some (.ref s), some (.int (Int32.ofNat 0))] [] _ 0 0 _
  exact pm_t1 (i := 0) hH k_a k_s hsa ⟨hb0, hb2, hb5, hb7, hb9⟩ hs0 hs2 hs5 hs7 hs9 ha0 (by omega)
variable {ra0 ca0 rc0 ec0 cc0 ra1 ca1 rc1 ec1 cc1 : Nat}
theorem fc_imageN (hH : et_H et_TT K G) (hC : ci_O K G th s0 s1 ra0 ca0 rc0 ec0 cc0 ra1 ca1 rc1 ec1 cc1) (hb : n0 ≤ 4 ∧ n2 ≤ 20 ∧ n5 ≤ 3 ∧ n7 ≤ 4 ∧ n9 ≤ 6) (hs0 : et_pl (eg_at G s0) 0 = some (.int (Int32.ofNat n0))) (hs2 : et_pl (eg_at G s0) 2 = some (.int (Int32.ofNat n2))) (hs5 : et_pl (eg_at G s0) 5 = some (.int (Int32.ofNat n5))) (hs7 : et_pl (eg_at G s0) 7 = some (.int (Int32.ofNat n7))) (hs9 : et_pl (eg_at G s0) 9 = some (.int (Int32.ofNat n9))) (hd : 3 ≤ d2) : et_go none d2 124 0 (eg_en (eg_mL 124) [.ref th]) [] G 0 0 (fun u => tnP s1 s0 n0 n2 n5 n7 n9 u.2.1) := by
  obtain ⟨d, rfl⟩ : ∃ d, d2 = d + 3 := ⟨d2 - 3, by omega⟩
  have k_th := hC.1
  have k_s0 := hC.2.2.2.1.1.1
  have k_s1 := hC.2.2.2.2.1.1
  have h0 := hC.2.1.1
  have h1 := hC.2.1.2
  have hne := hC.2.2.1.1
  rw [show eg_mL 124 = 1 from by decide +kernel]
  show et_go none (d + 3) 124 0 [some (.ref th)] [] G 0 0 _
  have lt_th := (hH.2.2 _ _ k_th).1
  have lt_s0 := (hH.2.2 _ _ k_s0).1
  have lt_s1 := (hH.2.2 _ _ k_s1).1
  refine hs_aload (i := 0) (p := 1) (by decide +kernel) rfl ?_
  refine hf_get (T := et_TT) (t := 12) (ci := 10) (f := 1) (p := 4) (by decide +kernel) rfl hH k_th h1 ?_
  refine hs_aload (i := 0) (p := 5) (by decide +kernel) rfl ?_
  refine hf_get (T := et_TT) (t := 12) (ci := 10) (f := 0) (p := 8) (by decide +kernel) rfl hH k_th h0 ?_
  refine ht_callv (T := et_TT) (t := 10) (mi := 104) (na := 1) (ci := 8) (lk := 1) (lm := 3) (L0 := eg_en (eg_mL 104) [.ref s1, .ref s0]) (by decide +kernel) rfl hH k_s1 rfl rfl rfl rfl rfl (by rw [show eg_mL 104 = 3 from by decide +kernel]; first | done | rfl) ?_
  refine ((hc_takeI (a := s1) (s := s0) hH hC.2.2.2.1 hC.2.2.2.2 hC.2.2.1 (by omega)).and (hc_takeN (a := s1) (s := s0) hH k_s1 k_s0 hne hb hs0 hs2 hs5 hs7 hs9 (by omega))).mono (fun u hu => tn_cb (P := tnP s1 s0 n0 n2 n5 n7 n9) hu (fun K8 G8 x8 f8 hH hP => ?_))
  obtain ⟨⟨pa0, pb0⟩, ⟨pa2, pb2⟩, ⟨pa5, pb5⟩, ⟨pa7, pb7⟩, ⟨pa9, pb9⟩⟩ := hP
  have k_th := x8 _ _ k_th
  have lt_th := (hH.2.2 _ _ k_th).1
  have k_s0 := x8 _ _ k_s0
  have lt_s0 := (hH.2.2 _ _ k_s0).1
  have k_s1 := x8 _ _ k_s1
  have lt_s1 := (hH.2.2 _ _ k_s1).1
  show et_go none _ 124 11 _ [] _ _ _ _
  refine hs_aload (i := 0) (p := 12) (by decide +kernel) rfl ?_
  refine hs_k (x := Int32.ofNat 1) (p := 13) (by decide +kernel) ?_
  refine hf_put (T := et_TT) (t := 12) (ci := 10) (f := 2) (p := 16) (ty := .boolean) (by decide +kernel) rfl rfl rfl (by decide +kernel) rfl hH k_th (hi_nv (by omega) (by omega)) (fun G13 hH x13 e13 => ?_)
  have pa0 := (x13.2 s1 0 lt_s1 (fun h => (hi_ne k_s1 k_th (by decide)) h.1)).trans pa0
  have pb0 := (x13.2 s0 0 lt_s0 (fun h => (hi_ne k_s0 k_th (by decide)) h.1)).trans pb0
  have pa2 := (x13.2 s1 2 lt_s1 (fun h => (hi_ne k_s1 k_th (by decide)) h.1)).trans pa2
  have pb2 := (x13.2 s0 2 lt_s0 (fun h => (hi_ne k_s0 k_th (by decide)) h.1)).trans pb2
  have pa5 := (x13.2 s1 5 lt_s1 (fun h => (hi_ne k_s1 k_th (by decide)) h.1)).trans pa5
  have pb5 := (x13.2 s0 5 lt_s0 (fun h => (hi_ne k_s0 k_th (by decide)) h.1)).trans pb5
  have pa7 := (x13.2 s1 7 lt_s1 (fun h => (hi_ne k_s1 k_th (by decide)) h.1)).trans pa7
  have pb7 := (x13.2 s0 7 lt_s0 (fun h => (hi_ne k_s0 k_th (by decide)) h.1)).trans pb7
  have pa9 := (x13.2 s1 9 lt_s1 (fun h => (hi_ne k_s1 k_th (by decide)) h.1)).trans pa9
  have pb9 := (x13.2 s0 9 lt_s0 (fun h => (hi_ne k_s0 k_th (by decide)) h.1)).trans pb9
  have lt_th := Nat.lt_of_lt_of_le lt_th x13.1
  have lt_s0 := Nat.lt_of_lt_of_le lt_s0 x13.1
  have lt_s1 := Nat.lt_of_lt_of_le lt_s1 x13.1
  refine hs_vret (by decide +kernel) ?_
  exact ⟨⟨pa0, pb0⟩, ⟨pa2, pb2⟩, ⟨pa5, pb5⟩, ⟨pa7, pb7⟩, ⟨pa9, pb9⟩⟩
def bkP (s0 s1 n0 n2 n5 n7 n9 m0 m2 m5 m7 m9 h : Nat) (G' : eg_G) : Prop := if h = 0 then (et_pl (eg_at G' s0) 0 = some (.int (Int32.ofNat n0)) ∧ et_pl (eg_at G' s0) 2 = some (.int (Int32.ofNat n2)) ∧ et_pl (eg_at G' s0) 5 = some (.int (Int32.ofNat n5)) ∧ et_pl (eg_at G' s0) 7 = some (.int (Int32.ofNat n7)) ∧ et_pl (eg_at G' s0) 9 = some (.int (Int32.ofNat n9))) ∧ (et_pl (eg_at G' s1) 0 = some (.int (Int32.ofNat m0)) ∧ et_pl (eg_at G' s1) 2 = some (.int (Int32.ofNat m2)) ∧ et_pl (eg_at G' s1) 5 = some (.int (Int32.ofNat m5)) ∧ et_pl (eg_at G' s1) 7 = some (.int (Int32.ofNat m7)) ∧ et_pl (eg_at G' s1) 9 = some (.int (Int32.ofNat m9))) else tnP s0 s1 m0 m2 m5 m7 m9 G'
theorem fc_backN (hH : et_H et_TT K G) (hC : ci_O K G th s0 s1 ra0 ca0 rc0 ec0 cc0 ra1 ca1 rc1 ec1 cc1) (hb : n0 ≤ 4 ∧ n2 ≤ 20 ∧ n5 ≤ 3 ∧ n7 ≤ 4 ∧ n9 ≤ 6) (hs0 : et_pl (eg_at G s0) 0 = some (.int (Int32.ofNat n0))) (hs2 : et_pl (eg_at G s0) 2 = some (.int (Int32.ofNat n2))) (hs5 : et_pl (eg_at G s0) 5 = some (.int (Int32.ofNat n5))) (hs7 : et_pl (eg_at G s0) 7 = some (.int (Int32.ofNat n7))) (hs9 : et_pl (eg_at G s0) 9 = some (.int (Int32.ofNat n9))) (hbm : m0 ≤ 4 ∧ m2 ≤ 20 ∧ m5 ≤ 3 ∧ m7 ≤ 4 ∧ m9 ≤ 6) (hm0 : et_pl (eg_at G s1) 0 = some (.int (Int32.ofNat m0))) (hm2 : et_pl (eg_at G s1) 2 = some (.int (Int32.ofNat m2))) (hm5 : et_pl (eg_at G s1) 5 = some (.int (Int32.ofNat m5))) (hm7 : et_pl (eg_at G s1) 7 = some (.int (Int32.ofNat m7))) (hm9 : et_pl (eg_at G s1) 9 = some (.int (Int32.ofNat m9))) (hp : ph_at G th h) (hh1 : h ≤ 1) (hd : 3 ≤ d2) : et_go none d2 125 0 (eg_en (eg_mL 125) [.ref th]) [] G 0 0 (fun u => bkP s0 s1 n0 n2 n5 n7 n9 m0 m2 m5 m7 m9 h u.2.1) := by
  obtain ⟨d, rfl⟩ : ∃ d, d2 = d + 3 := ⟨d2 - 3, by omega⟩
  have k_th := hC.1
  have k_s0 := hC.2.2.2.1.1.1
  have k_s1 := hC.2.2.2.2.1.1
  have h0 := hC.2.1.1
  have h1 := hC.2.1.2
  have hne := hC.2.2.1.1
  have hp : et_pl (eg_at G th) 2 = some (.int (Int32.ofNat h)) := hp
  rw [show eg_mL 125 = 1 from by decide +kernel]
  show et_go none (d + 3) 125 0 [some (.ref th)] [] G 0 0 _
  have lt_th := (hH.2.2 _ _ k_th).1
  have lt_s0 := (hH.2.2 _ _ k_s0).1
  have lt_s1 := (hH.2.2 _ _ k_s1).1
  refine hs_aload (i := 0) (p := 1) (by decide +kernel) rfl ?_
  refine hf_get (T := et_TT) (t := 12) (ci := 10) (f := 2) (p := 4) (by decide +kernel) rfl hH k_th hp ?_
  refine hs_br1 (c := .ne) (t := 9) (f := 7) (by decide +kernel) (fun (c4 : ¬ Int32.ofNat h = 0) => ?_) (fun (c4 : ¬ (¬ Int32.ofNat h = 0)) => ?_)
  · refine hs_aload (i := 0) (p := 10) (by decide +kernel) rfl ?_
    have hH0 := hH
    refine ht_callv (T := et_TT) (t := 12) (mi := 120) (na := 0) (ci := 10) (lk := 1) (lm := 1) (L0 := eg_en (eg_mL 120) [.ref th]) (by decide +kernel) rfl hH k_th rfl rfl rfl rfl rfl (by rw [show eg_mL 120 = 1 from by decide +kernel]; first | done | rfl) ?_
    refine (fc_forget hH k_th).mono (fun u hu => xw_cb hu (fun G10 v10 hH x10 hP10 => ?_))
    obtain rfl := hP10
    have hC := ci_O.fr hC et_ex.rf (x10.tfr hH0 (M := [(12, 6, 7)]) (fun a t i ha h => by obtain ⟨ea, h⟩ := h; rw [ea, k_th] at ha; cases ha; simp [et_mm]; omega)) (by decide +kernel)
    have h0 := (x10.2 th 0 lt_th (fun h => absurd h.2 (by decide))).trans h0
    have h1 := (x10.2 th 1 lt_th (fun h => absurd h.2 (by decide))).trans h1
    have hs0 := (x10.2 s0 0 lt_s0 (fun h => (hi_ne k_s0 k_th (by decide)) h.1)).trans hs0
    have hs2 := (x10.2 s0 2 lt_s0 (fun h => (hi_ne k_s0 k_th (by decide)) h.1)).trans hs2
    have hs5 := (x10.2 s0 5 lt_s0 (fun h => (hi_ne k_s0 k_th (by decide)) h.1)).trans hs5
    have hs7 := (x10.2 s0 7 lt_s0 (fun h => (hi_ne k_s0 k_th (by decide)) h.1)).trans hs7
    have hs9 := (x10.2 s0 9 lt_s0 (fun h => (hi_ne k_s0 k_th (by decide)) h.1)).trans hs9
    have hp := (x10.2 th 2 lt_th (fun h => absurd h.2 (by decide))).trans hp
    have hm0 := (x10.2 s1 0 lt_s1 (fun h => (hi_ne k_s1 k_th (by decide)) h.1)).trans hm0
    have hm2 := (x10.2 s1 2 lt_s1 (fun h => (hi_ne k_s1 k_th (by decide)) h.1)).trans hm2
    have hm5 := (x10.2 s1 5 lt_s1 (fun h => (hi_ne k_s1 k_th (by decide)) h.1)).trans hm5
    have hm7 := (x10.2 s1 7 lt_s1 (fun h => (hi_ne k_s1 k_th (by decide)) h.1)).trans hm7
    have hm9 := (x10.2 s1 9 lt_s1 (fun h => (hi_ne k_s1 k_th (by decide)) h.1)).trans hm9
    have lt_th := Nat.lt_of_lt_of_le lt_th x10.1
    have lt_s0 := Nat.lt_of_lt_of_le lt_s0 x10.1
    have lt_s1 := Nat.lt_of_lt_of_le lt_s1 x10.1
    show et_go none _ 125 13 _ [] _ _ _ _
    refine hs_aload (i := 0) (p := 14) (by decide +kernel) rfl ?_
    refine hf_get (T := et_TT) (t := 12) (ci := 10) (f := 0) (p := 17) (by decide +kernel) rfl hH k_th h0 ?_
    refine hs_aload (i := 0) (p := 18) (by decide +kernel) rfl ?_
    refine hf_get (T := et_TT) (t := 12) (ci := 10) (f := 1) (p := 21) (by decide +kernel) rfl hH k_th h1 ?_
    refine ht_callv (T := et_TT) (t := 10) (mi := 104) (na := 1) (ci := 8) (lk := 1) (lm := 3) (L0 := eg_en (eg_mL 104) [.ref s0, .ref s1]) (by decide +kernel) rfl hH k_s0 rfl rfl rfl rfl rfl (by rw [show eg_mL 104 = 3 from by decide +kernel]; first | done | rfl) ?_
    refine ((hc_takeI (a := s0) (s := s1) hH hC.2.2.2.2 hC.2.2.2.1 ⟨fun e => hC.2.2.1.1 e.symm, fun e => hC.2.2.1.2.1 e.symm, fun e => hC.2.2.1.2.2 e.symm⟩ (by omega)).and (hc_takeN (a := s0) (s := s1) hH k_s0 k_s1 (fun e => hne e.symm) hbm hm0 hm2 hm5 hm7 hm9 (by omega))).mono (fun u hu => tn_cb (P := tnP s0 s1 m0 m2 m5 m7 m9) hu (fun K21 G21 x21 f21 hH hP => ?_))
    obtain ⟨⟨pa0, pb0⟩, ⟨pa2, pb2⟩, ⟨pa5, pb5⟩, ⟨pa7, pb7⟩, ⟨pa9, pb9⟩⟩ := hP
    have k_th := x21 _ _ k_th
    have lt_th := (hH.2.2 _ _ k_th).1
    have k_s0 := x21 _ _ k_s0
    have lt_s0 := (hH.2.2 _ _ k_s0).1
    have k_s1 := x21 _ _ k_s1
    have lt_s1 := (hH.2.2 _ _ k_s1).1
    show et_go none _ 125 24 _ [] _ _ _ _
    refine hs_k (x := Int32.ofNat 1) (p := 25) (by decide +kernel) ?_
    refine hs_zret (by decide +kernel) (.inr rfl) ?_
    unfold bkP
    rw [if_neg (by have := hi_b1 hh1 c4; omega)]
    exact ⟨⟨pa0, pb0⟩, ⟨pa2, pb2⟩, ⟨pa5, pb5⟩, ⟨pa7, pb7⟩, ⟨pa9, pb9⟩⟩
  · refine hs_k (x := Int32.ofNat 0) (p := 8) (by decide +kernel) ?_
    refine hs_zret (by decide +kernel) (.inl rfl) ?_
    unfold bkP
    rw [if_pos (hi_b0 hh1 c4)]
    exact ⟨⟨hs0, hs2, hs5, hs7, hs9⟩, ⟨hm0, hm2, hm5, hm7, hm9⟩⟩
end FMA
end
section
/-! FUNCTIONAL: made on both sides; the TAPE of both sides; counts by frames -/
/-- the class's TAPE -/
def tC (K : et_K) (G : eg_G) (rd tp ba na c : Nat) (tb : Nat → Nat) : Prop := (K tp = some 33 ∧ K ba = some 21 ∧ K na = some 21) ∧ (et_pl (eg_at G rd) 0 = some (.ref tp) ∧ et_pl (eg_at G rd) 5 = some (.ref ba) ∧ et_pl (eg_at G rd) 6 = some (.ref na) ∧ ¬ ba = na) ∧ ∀ i, i < c → et_pl (eg_at G tp) i = some (.int (Int32.ofNat (tb i)))
/-- the reference's -/
def tM (K : et_K) (G : eg_G) (am tm c : Nat) (tb : Nat → Nat) : Prop := K tm = some 34 ∧ et_pl (eg_at G am) 4 = some (.ref tm) ∧ ∀ i, i < c → et_pl (eg_at G tm) i = some (.int (sx (tb i)))
def no_t (M : et_M) (t : Nat) : Bool := M.all (fun q => !(q.1 == t))
theorem no_mm {M : et_M} {t i : Nat} (h : no_t M t = true) : et_mm M t i = false := by
  cases e : et_mm M t i with
  | false => rfl
  | true =>
    exfalso
    obtain ⟨q, hq, h2⟩ := List.any_eq_true.mp e
    have h3 := List.all_eq_true.mp h q hq
    simp only [Bool.and_eq_true, beq_iff_eq] at h2
    simp only [Bool.not_eq_true', beq_eq_false_iff_ne, ne_eq] at h3
    omega
def tC_k (M : et_M) : Bool := no_t M 33 && (!et_mm M 7 0 && (!et_mm M 7 5 && !et_mm M 7 6))
def tM_k (M : et_M) : Bool := no_t M 34 && !et_mm M 13 4
theorem tC.le {K : et_K} {G : eg_G} {rd tp ba na c c' : Nat} {tb : Nat → Nat} (h : tC K G rd tp ba na c tb) (hc : c' ≤ c) : tC K G rd tp ba na c' tb := ⟨h.1, h.2.1, fun i hi => h.2.2 i (Nat.lt_of_lt_of_le hi hc)⟩
theorem tM.le {K : et_K} {G : eg_G} {am tm c c' : Nat} {tb : Nat → Nat} (h : tM K G am tm c tb) (hc : c' ≤ c) : tM K G am tm c' tb := ⟨h.1, h.2.1, fun i hi => h.2.2 i (Nat.lt_of_lt_of_le hi hc)⟩
theorem tC.fr {K K' : et_K} {G G' : eg_G} {M : et_M} {rd tp ba na c : Nat} {tb : Nat → Nat} (h : tC K G rd tp ba na c tb) (hr : K rd = some 7) (hx : et_ex K K') (hf : et_fr M K G G') (hk : tC_k M = true) : tC K' G' rd tp ba na c tb := by
  unfold tC_k at hk
  rw [Bool.and_eq_true, Bool.and_eq_true, Bool.and_eq_true] at hk
  obtain ⟨k1, k2, k3, k4⟩ := hk
  obtain ⟨⟨h1, h2, h3⟩, ⟨h4, h5, h6, h7⟩, h8⟩ := h
  exact ⟨⟨hx _ _ h1, hx _ _ h2, hx _ _ h3⟩, ⟨(hf.2 rd 7 hr 0 (by simpa using k2)).trans h4, (hf.2 rd 7 hr 5 (by simpa using k3)).trans h5, (hf.2 rd 7 hr 6 (by simpa using k4)).trans h6, h7⟩, fun i hi => (hf.2 tp 33 h1 i (no_mm k1)).trans (h8 i hi)⟩
/-- fields stay, the bytes are said anew -/
theorem tC.mk' {K K' : et_K} {G G' : eg_G} {M : et_M} {rd tp ba na c c' : Nat} {tb tb' : Nat → Nat} (h : tC K G rd tp ba na c tb) (hr : K rd = some 7) (hx : et_ex K K') (hf : et_fr M K G G') (hk : (!et_mm M 7 0 && (!et_mm M 7 5 && !et_mm M 7 6)) = true) (ht : ∀ i, i < c' → et_pl (eg_at G' tp) i = some (.int (Int32.ofNat (tb' i)))) : tC K' G' rd tp ba na c' tb' := by
  rw [Bool.and_eq_true, Bool.and_eq_true] at hk
  obtain ⟨k2, k3, k4⟩ := hk
  obtain ⟨⟨h1, h2, h3⟩, ⟨h4, h5, h6, h7⟩, h8⟩ := h
  exact ⟨⟨hx _ _ h1, hx _ _ h2, hx _ _ h3⟩, ⟨(hf.2 rd 7 hr 0 (by simpa using k2)).trans h4, (hf.2 rd 7 hr 5 (by simpa using k3)).trans h5, (hf.2 rd 7 hr 6 (by simpa using k4)).trans h6, h7⟩, ht⟩
theorem tM.fr {K K' : et_K} {G G' : eg_G} {M : et_M} {am tm c : Nat} {tb : Nat → Nat} (h : tM K G am tm c tb) (ha : K am = some 13) (hx : et_ex K K') (hf : et_fr M K G G') (hk : tM_k M = true) : tM K' G' am tm c tb := by
  unfold tM_k at hk
  rw [Bool.and_eq_true] at hk
  obtain ⟨h1, h2, h3⟩ := h
  exact ⟨hx _ _ h1, (hf.2 am 13 ha 4 (by simpa using hk.2)).trans h2, fun i hi => (hf.2 tm 34 h1 i (no_mm hk.1)).trans (h3 i hi)⟩
theorem tM.mk' {K K' : et_K} {G G' : eg_G} {M : et_M} {am tm c c' : Nat} {tb tb' : Nat → Nat} (h : tM K G am tm c tb) (ha : K am = some 13) (hx : et_ex K K') (hf : et_fr M K G G') (hk : (!et_mm M 13 4) = true) (ht : ∀ i, i < c' → et_pl (eg_at G' tm) i = some (.int (sx (tb' i)))) : tM K' G' am tm c' tb' := ⟨hx _ _ h.1, (hf.2 am 13 ha 4 (by simpa using hk)).trans h.2.1, ht⟩
/-- what feed makes of the bytes -/
def tbf (tb : Nat → Nat) (c : Nat) (y1 y2 y3 y4 y5 : Int32) : Nat → Nat := if c + 20 ≤ 400 then tb5 tb c y1 y2 y3 y4 y5 else tb
theorem tbf_lt {tb : Nat → Nat} {c i : Nat} {y1 y2 y3 y4 y5 : Int32} (h : ∀ i, i < c → tb i < 256) (hi : i < ff c) : tbf tb c y1 y2 y3 y4 y5 i < 256 := by
  unfold tbf
  unfold ff at hi
  by_cases e : c + 20 ≤ 400
  · rw [if_pos e] at hi ⊢
    unfold tb5
    exact tb4_lt (fun i hi => tb4_lt (fun i hi => tb4_lt (fun i hi => tb4_lt (fun i hi => tb4_lt h))))
  · rw [if_neg e] at hi ⊢
    exact h i hi
theorem fe_le2 {n : Int32} {c : Nat} (hc : c ≤ 400) : (fe n c).2 ≤ c := by
  unfold fe
  split
  · exact Nat.le_refl _
  · split
    · rename_i h1 h2
      rw [xi_len (by omega)] at h2
      rw [xi_lt0] at h1
      show n.toInt.toNat ≤ c
      omega
    · exact Nat.le_refl _
theorem fd_c {G' : eg_G} {rd ta c : Nat} {tb : Nat → Nat} {r : Option Value} {x1 x2 x3 x4 x5 : Int32} (h : (¬ c + 20 ≤ 400 ∧ r = some (.int (-1)) ∧ et_pl (eg_at G' rd) 1 = some (.int (Int32.ofNat c)) ∧ ∀ i, i < c → et_pl (eg_at G' ta) i = some (.int (Int32.ofNat (tb i)))) ∨ (c + 20 ≤ 400 ∧ r = some (.int (Int32.ofNat (c + 4 + 4 + 4 + 4 + 4))) ∧ et_pl (eg_at G' rd) 1 = some (.int (Int32.ofNat (c + 4 + 4 + 4 + 4 + 4))) ∧ ∀ i, i < c + 4 + 4 + 4 + 4 + 4 → et_pl (eg_at G' ta) i = some (.int (Int32.ofNat ((tb4 (tb4 (tb4 (tb4 (tb4 tb c x1) (c + 4) x2) (c + 4 + 4) x3) (c + 4 + 4 + 4) x4) (c + 4 + 4 + 4 + 4) x5) i))))) : ∀ i, i < ff c → et_pl (eg_at G' ta) i = some (.int (Int32.ofNat (tbf tb c x1 x2 x3 x4 x5 i))) := fun i hi => by
  unfold ff at hi
  unfold tbf
  rcases h with ⟨h1, -, -, h2⟩ | ⟨h1, -, -, h2⟩
  · rw [if_neg h1] at hi ⊢
    exact h2 i hi
  · rw [if_pos h1] at hi ⊢
    exact h2 i hi
theorem fd_m {G' : eg_G} {am tm c : Nat} {tb : Nat → Nat} {r : Option Value} {y1 y2 y3 y4 y5 : Int32} (h : (¬ c + 20 ≤ 400 ∧ r = some (.int (-1)) ∧ et_pl (eg_at G' am) 0 = some (.int (Int32.ofNat 0)) ∧ et_pl (eg_at G' am) 5 = some (.int (Int32.ofNat c)) ∧ ∀ i, i < c → et_pl (eg_at G' tm) i = some (.int (sx (tb i)))) ∨ (c + 20 ≤ 400 ∧ r = some (.int (Int32.ofNat (c + 20))) ∧ et_pl (eg_at G' am) 0 = some (.int (Int32.ofNat 0)) ∧ et_pl (eg_at G' am) 5 = some (.int (Int32.ofNat (c + 20))) ∧ ∀ i, i < c + 20 → et_pl (eg_at G' tm) i = some (.int (sx (tb5 tb c y1 y2 y3 y4 y5 i))))) : ∀ i, i < ff c → et_pl (eg_at G' tm) i = some (.int (sx (tbf tb c y1 y2 y3 y4 y5 i))) := fun i hi => by
  unfold ff at hi
  unfold tbf
  rcases h with ⟨h1, -, -, -, h2⟩ | ⟨h1, -, -, -, h2⟩
  · rw [if_neg h1] at hi ⊢
    exact h2 i hi
  · rw [if_pos h1] at hi ⊢
    exact h2 i hi
/-- one count of the present state becomes another, by frames -/
def rc_kf (ks : List (Nat × Nat)) (M : et_M) (f k0 : Nat) : Bool := !et_mm M 12 0 && (!et_mm M 12 1 && ks.all (fun q => (q.1 == f) == (q.2 == k0) && (q.1 == f || !et_mm M 10 q.1)))
theorem rc.upf {ks : List (Nat × Nat)} {K K' : et_K} {G G' : eg_G} {M : et_M} {th s0 s1 k0 f v : Nat} {c i : Nat → Nat} (h : rc ks K G th s0 s1 c i) (ht : K th = some 12) (hx : et_ex K K') (hf : et_fr M K G G') (hv : et_pl (eg_at G' s0) f = some (.int (Int32.ofNat v))) (hw : et_pl (eg_at G' s1) f = some (.int (Int32.ofNat (i k0)))) (hk : rc_kf ks M f k0 = true) : rc ks K' G' th s0 s1 (rc_up c k0 v) i := by
  unfold rc_kf at hk
  rw [Bool.and_eq_true, Bool.and_eq_true] at hk
  obtain ⟨k1, k2, k3⟩ := hk
  obtain ⟨⟨h1, h2, h3⟩, ⟨h4, h5⟩, h6⟩ := h
  refine ⟨⟨hx _ _ h1, hx _ _ h2, h3⟩, ⟨(hf.2 th 12 ht 0 (by simpa using k1)).trans h4, (hf.2 th 12 ht 1 (by simpa using k2)).trans h5⟩, fun q hq => ?_⟩
  have k4 := List.all_eq_true.mp k3 q hq
  rw [Bool.and_eq_true, beq_iff_eq] at k4
  obtain ⟨k5, k6⟩ := k4
  by_cases e : q.1 = f
  · rw [e, beq_self_eq_true] at k5
    have e2 : q.2 = k0 := beq_iff_eq.mp k5.symm
    rw [e, e2, show rc_up c k0 v k0 = v from if_pos rfl]
    exact ⟨hv, hw⟩
  · have e2 : ¬ q.2 = k0 := fun e2 => by
      rw [e2, beq_self_eq_true, beq_iff_eq] at k5
      exact e k5
    have k7 : et_mm M 10 q.1 = false := by
      rcases Bool.or_eq_true _ _ |>.mp k6 with k6 | k6
      · exact absurd (beq_iff_eq.mp k6) e
      · simpa using k6
    rw [show rc_up c k0 v q.2 = c q.2 from if_neg e2]
    exact ⟨(hf.2 s0 10 h1 q.1 k7).trans (h6 q hq).1, (hf.2 s1 10 h2 q.1 k7).trans (h6 q hq).2⟩
def rm_kf (ks : List (Nat × Nat)) (M : et_M) (k0 : Nat) : Bool := !et_mm M 13 1 && (!et_mm M 13 2 && ks.all (fun q => (q.2 == k0 || !et_mm M 46 q.2) && !et_mm M 47 q.2))
theorem rm.upf {ks : List (Nat × Nat)} {K K' : et_K} {G G' : eg_G} {M : et_M} {am aw ai k0 v : Nat} {c i : Nat → Nat} (h : rm ks K G am aw ai c i) (ht : K am = some 13) (hx : et_ex K K') (hf : et_fr M K G G') (hv : et_pl (eg_at G' aw) k0 = some (.int (Int32.ofNat v))) (hk : rm_kf ks M k0 = true) : rm ks K' G' am aw ai (rc_up c k0 v) i := by
  unfold rm_kf at hk
  rw [Bool.and_eq_true, Bool.and_eq_true] at hk
  obtain ⟨k1, k2, k3⟩ := hk
  obtain ⟨⟨h1, h2⟩, ⟨h4, h5⟩, h6⟩ := h
  refine ⟨⟨hx _ _ h1, hx _ _ h2⟩, ⟨(hf.2 am 13 ht 1 (by simpa using k1)).trans h4, (hf.2 am 13 ht 2 (by simpa using k2)).trans h5⟩, fun q hq => ?_⟩
  have k4 := List.all_eq_true.mp k3 q hq
  rw [Bool.and_eq_true] at k4
  obtain ⟨k5, k6⟩ := k4
  refine ⟨?_, (hf.2 ai 47 h2 q.2 (by simpa using k6)).trans (h6 q hq).2⟩
  by_cases e : q.2 = k0
  · rw [e, show rc_up c k0 v k0 = v from if_pos rfl]
    exact hv
  · have k7 : et_mm M 46 q.2 = false := by
      rcases Bool.or_eq_true _ _ |>.mp k5 with k5 | k5
      · exact absurd (beq_iff_eq.mp k5) e
      · simpa using k5
    rw [show rc_up c k0 v q.2 = c q.2 from if_neg e]
    exact (hf.2 aw 46 h1 q.2 k7).trans (h6 q hq).1
/-- made: how it ends -/
def xh_Z (K : et_K) (G : eg_G) (P : eg_G → eg_R → Prop) (u : eg_O) : Prop := ∃ (K' : et_K) (G' : eg_G) (v : eg_R) (c s : Nat), u = (v, G', c, s) ∧ et_ex K K' ∧ et_H et_TT K' G' ∧ P G' v
def hq_tells : et_Co := (87, [.inr (.inr (0, 8)), .inl (et_mn, et_mx), .inr (.inr (0, 4))], [(4, 0, 0)], [(.inl (some (.inl (0, 1))), 0, 0)], 32)
theorem hc_tells : et_cv et_TT hq_tells := et_cok_ok (Ks := [(hq_isT 0 22)]) (an := ek_an) (List.forall_mem_cons.mpr ⟨hc_isT, (fun _ h => absurd h List.not_mem_nil)⟩) (by decide +kernel)
section FNB
variable {K : et_K} {G : eg_G} {d2 d th s0 s1 ra la ya c m rc am aw out : Nat} {x ru : Int32}

theorem fc_made (hH : et_H et_TT K G) (k_th : K th = some 12) (h0 : et_pl (eg_at G th) 0 = some (.ref s0)) (k_s0 : K s0 = some 10) (k_s1 : K s1 = some 10) (hne : ¬ s0 = s1) (g0 : et_pl (eg_at G s0) 0 = some (.int (Int32.ofNat rc))) (hrc : rc ≤ 4) (g1 : et_pl (eg_at G s0) 1 = some (.ref ra)) (k_ra : K ra = some 37) (hru : ∀ i, i < rc → ∃ q, et_pl (eg_at G ra) i = some (.ref q)) (h2 : et_pl (eg_at G s0) 2 = some (.int (Int32.ofNat c))) (hc : c ≤ 20) (h3 : et_pl (eg_at G s0) 3 = some (.ref la)) (k_la : K la = some 17) (h4 : et_pl (eg_at G s0) 4 = some (.ref ya)) (k_ya : K ya = some 27) (m2 : et_pl (eg_at G s1) 2 = some (.int (Int32.ofNat m))) (hd : 33 ≤ d2) : et_go none d2 138 0 (eg_en (eg_mL 138) [.ref th, .int x, .int ru]) [] G 0 0 (xh_Z K G (fun G' v => ((¬ xr ru rc ∧ v = .inr 1 ∧ et_pl (eg_at G' s0) 2 = some (.int (Int32.ofNat c))) ∨ (xr ru rc ∧ ¬ (0 ≤ x.toInt ∧ x.toInt < 65536) ∧ v = .inr 0 ∧ et_pl (eg_at G' s0) 2 = some (.int (Int32.ofNat c))) ∨ (xr ru rc ∧ (0 ≤ x.toInt ∧ x.toInt < 65536) ∧ c = 20 ∧ v = .inr 2 ∧ et_pl (eg_at G' s0) 2 = some (.int (Int32.ofNat c))) ∨ (xr ru rc ∧ (0 ≤ x.toInt ∧ x.toInt < 65536) ∧ c < 20 ∧ v = .inl (some (.int (Int32.ofNat c))) ∧ et_pl (eg_at G' s0) 2 = some (.int (Int32.ofNat (c + 1))))) ∧ et_pl (eg_at G' s1) 2 = some (.int (Int32.ofNat m)))) := by
  obtain ⟨d, rfl⟩ : ∃ d, d2 = d + 33 := ⟨d2 - 33, by omega⟩
  rw [show eg_mL 138 = 4 from by decide +kernel]
  show et_go none (d + 33) 138 0 [some (.ref th), some (.int x), some (.int ru), none] [] G 0 0 (xh_Z _ _ _)
  have hx0 : et_ex K K := et_ex.rf
  have lt_th := (hH.2.2 _ _ k_th).1
  have lt_s0 := (hH.2.2 _ _ k_s0).1
  have lt_s1 := (hH.2.2 _ _ k_s1).1
  have lt_la := (hH.2.2 _ _ k_la).1
  have lt_ya := (hH.2.2 _ _ k_ya).1
  have lt_ra := (hH.2.2 _ _ k_ra).1
  refine hs_aload (i := 0) (p := 1) (by decide +kernel) rfl ?_
  refine hs_iload (i := 2) (p := 2) (by decide +kernel) rfl ?_
  refine ht_callv (T := et_TT) (t := 12) (mi := 129) (na := 1) (ci := 10) (lk := 4) (lm := 2) (L0 := eg_en (eg_mL 129) [.ref th, .int ru]) (by decide +kernel) rfl hH k_th rfl rfl rfl rfl rfl (by rw [show eg_mL 129 = 2 from by decide +kernel]; first | done | rfl) ?_
  refine (fc_needRule hH k_th h0 k_s0 g0 hrc g1 k_ra hru).mono (fun u hu => ?_)
  obtain ⟨g2, v2, c2, s2, rfl, -, -, eg2, hm2⟩ := hu
  have eg2 := eg2.symm
  subst eg2
  rcases hm2 with ⟨hxr, rfl⟩ | ⟨n2, q2, en2, hn2, rfl, k_q2, hq2⟩
  · refine hf_cx (by decide +kernel) ?_
    exact ⟨_, _, _, _, _, rfl, hx0, hH, .inl ⟨hxr, rfl, h2⟩, m2⟩
  · have hxr : xr ru rc := by rw [en2]; exact xr_n (by omega) hn2
    have lt_q2 := (hH.2.2 _ _ k_q2).1
    refine hs_cb ?_
    show et_go none _ 138 5 _ [.ref q2] _ _ _ _
    refine hs_astore (i := 3) (p := 6) (by decide +kernel) (Nat.le_of_ble_eq_true rfl) ?_
    refine hs_iload (i := 1) (p := 7) (by decide +kernel) rfl ?_
    refine hs_calls (mi := 135) (na := 1) (lk := 4) (lm := 1) (L0 := eg_en (eg_mL 135) [.int x]) (by decide +kernel) rfl rfl rfl rfl rfl rfl (by rw [show eg_mL 135 = 1 from by decide +kernel]; first | done | rfl) ?_
    refine (fc_needLit (K := K) (x := x) hH).mono (fun u hu => ?_)
    obtain ⟨G7, v7, c7, s7, rfl, hH, x7, hP7⟩ := hu
    rcases hP7 with ⟨xl, rfl, rfl⟩ | ⟨xl, rfl, rfl⟩
    · refine hf_cx (by decide +kernel) ?_
      exact ⟨_, _, _, _, _, rfl, hx0, hH, .inr (.inl ⟨hxr, xl, rfl, h2⟩), m2⟩
    · refine hs_cb ?_
      show et_go none _ 138 10 _ [] _ _ _ _
      refine hs_aload (i := 0) (p := 11) (by decide +kernel) rfl ?_
      refine hs_iload (i := 1) (p := 12) (by decide +kernel) rfl ?_
      refine hs_aload (i := 3) (p := 13) (by decide +kernel) rfl ?_
      refine hs_iload (i := 1) (p := 14) (by decide +kernel) rfl ?_
      refine hs_aload (i := 0) (p := 15) (by decide +kernel) rfl ?_
      refine ht_getr (T := et_TT) (t := 12) (ci := 10) (f := 4) (p := 18) (by decide +kernel) rfl rfl hH k_th (fun a15 k_a15 e15 => ?_)
      have lt_a15 := (hH.2.2 _ _ k_a15).1
      refine ht_callv (T := et_TT) (t := 8) (mi := 87) (na := 2) (ci := 6) (lk := 4) (lm := 3) (L0 := eg_en (eg_mL 87) [.ref q2, .int x, .ref a15]) (by decide +kernel) rfl hH k_q2 rfl rfl rfl rfl rfl (by rw [show eg_mL 87 = 3 from by decide +kernel]; first | done | rfl) ?_
      refine (hc_tells (K, [], _) [.ref q2, .int x, .ref a15] _ hH (by show 32 ≤ _; omega) rfl (ht_ac (.inr ⟨by decide, _, rfl, k_q2⟩) (ht_ac hi_any (ht_ac (.inr ⟨by decide, _, rfl, k_a15⟩) ht_an)))).mono (fun u hu => hs_cbv hu (fun v18 K18 G18 c18 s18 x18 f18 hH hv18 cl18 sl18 => ?_))
      obtain ⟨n18, hn18, rfl⟩ := hi_nat hv18
      obtain rfl : c18 = 0 := Nat.le_zero.mp cl18
      obtain rfl : s18 = 0 := Nat.le_zero.mp sl18
      have h0 := (f18.2 th 12 k_th 0 rfl).trans h0
      have g0 := (f18.2 s0 10 k_s0 0 rfl).trans g0
      have g1 := (f18.2 s0 10 k_s0 1 rfl).trans g1
      have h2 := (f18.2 s0 10 k_s0 2 rfl).trans h2
      have h3 := (f18.2 s0 10 k_s0 3 rfl).trans h3
      have h4 := (f18.2 s0 10 k_s0 4 rfl).trans h4
      have m2 := (f18.2 s1 10 k_s1 2 rfl).trans m2
      have e15 := (f18.2 th 12 k_th 4 rfl).trans e15
      have k_th := x18 _ _ k_th
      have lt_th := (hH.2.2 _ _ k_th).1
      have k_s0 := x18 _ _ k_s0
      have lt_s0 := (hH.2.2 _ _ k_s0).1
      have k_s1 := x18 _ _ k_s1
      have lt_s1 := (hH.2.2 _ _ k_s1).1
      have k_la := x18 _ _ k_la
      have lt_la := (hH.2.2 _ _ k_la).1
      have k_ya := x18 _ _ k_ya
      have lt_ya := (hH.2.2 _ _ k_ya).1
      have k_ra := x18 _ _ k_ra
      have lt_ra := (hH.2.2 _ _ k_ra).1
      have k_q2 := x18 _ _ k_q2
      have lt_q2 := (hH.2.2 _ _ k_q2).1
      have k_a15 := x18 _ _ k_a15
      have lt_a15 := (hH.2.2 _ _ k_a15).1
      have hx0 := hx0.tr x18
      show et_go none _ 138 21 _ [.int (Int32.ofNat n18), .int x, .ref th] _ _ _ _
      refine ht_callv (T := et_TT) (t := 12) (mi := 137) (na := 2) (ci := 10) (lk := 4) (lm := 3) (L0 := eg_en (eg_mL 137) [.ref th, .int x, .int (Int32.ofNat n18)]) (by decide +kernel) rfl hH k_th rfl rfl rfl rfl rfl (by rw [show eg_mL 137 = 3 from by decide +kernel]; first | done | rfl) ?_
      refine (fc_put hH k_th h0 k_s0 h2 hc h3 k_la h4 k_ya (y := Int32.ofNat n18) (by rcases (by omega : n18 = 0 ∨ n18 = 1) with rfl | rfl; exact .inl rfl; exact .inr rfl) (by omega)).mono (fun u hu => ?_)
      obtain ⟨G21, v21, c21, s21, rfl, hH, x21, hP21⟩ := hu
      have h0 := (x21.2 th 0 lt_th (fun h => Or.elim h (fun h => absurd h.2 (by decide)) (fun h => Or.elim h (fun h => (hi_ne k_th k_s0 (by decide)) h.1) (fun h => Or.elim h (fun h => (hi_ne k_th k_la (by decide)) h.1) (fun h => (hi_ne k_th k_ya (by decide)) h.1))))).trans h0
      have g0 := (x21.2 s0 0 lt_s0 (fun h => Or.elim h (fun h => (hi_ne k_s0 k_th (by decide)) h.1) (fun h => Or.elim h (fun h => absurd h.2 (by decide)) (fun h => Or.elim h (fun h => (hi_ne k_s0 k_la (by decide)) h.1) (fun h => (hi_ne k_s0 k_ya (by decide)) h.1))))).trans g0
      have g1 := (x21.2 s0 1 lt_s0 (fun h => Or.elim h (fun h => (hi_ne k_s0 k_th (by decide)) h.1) (fun h => Or.elim h (fun h => absurd h.2 (by decide)) (fun h => Or.elim h (fun h => (hi_ne k_s0 k_la (by decide)) h.1) (fun h => (hi_ne k_s0 k_ya (by decide)) h.1))))).trans g1
      have h3 := (x21.2 s0 3 lt_s0 (fun h => Or.elim h (fun h => (hi_ne k_s0 k_th (by decide)) h.1) (fun h => Or.elim h (fun h => absurd h.2 (by decide)) (fun h => Or.elim h (fun h => (hi_ne k_s0 k_la (by decide)) h.1) (fun h => (hi_ne k_s0 k_ya (by decide)) h.1))))).trans h3
      have h4 := (x21.2 s0 4 lt_s0 (fun h => Or.elim h (fun h => (hi_ne k_s0 k_th (by decide)) h.1) (fun h => Or.elim h (fun h => absurd h.2 (by decide)) (fun h => Or.elim h (fun h => (hi_ne k_s0 k_la (by decide)) h.1) (fun h => (hi_ne k_s0 k_ya (by decide)) h.1))))).trans h4
      have m2 := (x21.2 s1 2 lt_s1 (fun h => Or.elim h (fun h => (hi_ne k_s1 k_th (by decide)) h.1) (fun h => Or.elim h (fun h => (fun h => hne h.symm) h.1) (fun h => Or.elim h (fun h => (hi_ne k_s1 k_la (by decide)) h.1) (fun h => (hi_ne k_s1 k_ya (by decide)) h.1))))).trans m2
      have e15 := (x21.2 th 4 lt_th (fun h => Or.elim h (fun h => absurd h.2 (by decide)) (fun h => Or.elim h (fun h => (hi_ne k_th k_s0 (by decide)) h.1) (fun h => Or.elim h (fun h => (hi_ne k_th k_la (by decide)) h.1) (fun h => (hi_ne k_th k_ya (by decide)) h.1))))).trans e15
      have lt_th := Nat.lt_of_lt_of_le lt_th x21.1
      have lt_s0 := Nat.lt_of_lt_of_le lt_s0 x21.1
      have lt_s1 := Nat.lt_of_lt_of_le lt_s1 x21.1
      have lt_la := Nat.lt_of_lt_of_le lt_la x21.1
      have lt_ya := Nat.lt_of_lt_of_le lt_ya x21.1
      have lt_ra := Nat.lt_of_lt_of_le lt_ra x21.1
      have lt_q2 := Nat.lt_of_lt_of_le lt_q2 x21.1
      have lt_a15 := Nat.lt_of_lt_of_le lt_a15 x21.1
      rcases hP21 with ⟨c20, rfl, p2⟩ | ⟨c20, rfl, p2, p3, p4⟩
      · refine hf_cx (by decide +kernel) ?_
        exact ⟨_, _, _, _, _, rfl, hx0, hH, .inr (.inr (.inl ⟨hxr, xl, c20, rfl, p2⟩)), m2⟩
      · refine hs_cb ?_
        show et_go none _ 138 24 _ [.int (Int32.ofNat c)] _ _ _ _
        refine hs_iret (by decide +kernel) ?_
        exact ⟨_, _, _, _, _, rfl, hx0, hH, .inr (.inr (.inr ⟨hxr, xl, c20, rfl, p2⟩)), m2⟩
theorem fh_made (hH : et_H et_TT K G) (k_th : K th = some 12) (h0 : et_pl (eg_at G th) 0 = some (.ref s0)) (k_s0 : K s0 = some 10) (k_s1 : K s1 = some 10) (hne : ¬ s0 = s1) (g0 : et_pl (eg_at G s0) 0 = some (.int (Int32.ofNat rc))) (hrc : rc ≤ 4) (g1 : et_pl (eg_at G s0) 1 = some (.ref ra)) (k_ra : K ra = some 37) (hru : ∀ i, i < rc → ∃ q, et_pl (eg_at G ra) i = some (.ref q)) (h2 : et_pl (eg_at G s0) 2 = some (.int (Int32.ofNat c))) (hc : c ≤ 20) (h3 : et_pl (eg_at G s0) 3 = some (.ref la)) (k_la : K la = some 17) (h4 : et_pl (eg_at G s0) 4 = some (.ref ya)) (k_ya : K ya = some 27) (m2 : et_pl (eg_at G s1) 2 = some (.int (Int32.ofNat m))) (k_out : K out = some 31) (hd : 34 ≤ d2) : et_go none d2 5 0 (eg_en (eg_mL 5) [.ref th, .int x, .int ru, .ref out]) [] G 0 0 (xh_Z K G (fun G' v => ((¬ xr ru rc ∧ v = .inl (some (.int (Int32.ofNat 1))) ∧ et_pl (eg_at G' s0) 2 = some (.int (Int32.ofNat c))) ∨ (xr ru rc ∧ ¬ (0 ≤ x.toInt ∧ x.toInt < 65536) ∧ v = .inl (some (.int (Int32.ofNat 2))) ∧ et_pl (eg_at G' s0) 2 = some (.int (Int32.ofNat c))) ∨ (xr ru rc ∧ (0 ≤ x.toInt ∧ x.toInt < 65536) ∧ c = 20 ∧ v = .inl (some (.int (Int32.ofNat 3))) ∧ et_pl (eg_at G' s0) 2 = some (.int (Int32.ofNat c))) ∨ (xr ru rc ∧ (0 ≤ x.toInt ∧ x.toInt < 65536) ∧ c < 20 ∧ v = .inl (some (.int (Int32.ofNat 0))) ∧ et_pl (eg_at G' out) 0 = some (.long (Int32.ofNat c).toInt64) ∧ et_pl (eg_at G' s0) 2 = some (.int (Int32.ofNat (c + 1))))) ∧ et_pl (eg_at G' s1) 2 = some (.int (Int32.ofNat m)))) := by
  obtain ⟨d, rfl⟩ : ∃ d, d2 = d + 34 := ⟨d2 - 34, by omega⟩
  rw [show eg_mL 5 = 5 from by decide +kernel]
  show et_go none (d + 34) 5 0 [some (.ref th), some (.int x), some (.int ru), some (.ref out), none] [] G 0 0 (xh_Z _ _ _)
  have hx0 : et_ex K K := et_ex.rf
  have lt_th := (hH.2.2 _ _ k_th).1
  have lt_s0 := (hH.2.2 _ _ k_s0).1
  have lt_s1 := (hH.2.2 _ _ k_s1).1
  have lt_out := (hH.2.2 _ _ k_out).1
  refine hs_aload (i := 3) (p := 1) (by decide +kernel) rfl ?_
  refine hs_k (x := Int32.ofNat 0) (p := 2) (by decide +kernel) ?_
  refine hs_aload (i := 0) (p := 3) (by decide +kernel) rfl ?_
  refine hs_iload (i := 1) (p := 4) (by decide +kernel) rfl ?_
  refine hs_iload (i := 2) (p := 5) (by decide +kernel) rfl ?_
  refine ht_callv (T := et_TT) (t := 12) (mi := 138) (na := 2) (ci := 10) (lk := 5) (lm := 4) (L0 := eg_en (eg_mL 138) [.ref th, .int x, .int ru]) (by decide +kernel) rfl hH k_th rfl rfl rfl rfl rfl (by rw [show eg_mL 138 = 4 from by decide +kernel]; first | done | rfl) ?_
  refine (fc_made hH k_th h0 k_s0 k_s1 hne g0 hrc g1 k_ra hru h2 hc h3 k_la h4 k_ya m2 (by omega)).mono (fun u hu => ?_)
  obtain ⟨K5, G5, v5, c5, s5, rfl, x5, hH, hP, hm5⟩ := hu
  have k_th := x5 _ _ k_th
  have lt_th := (hH.2.2 _ _ k_th).1
  have k_s0 := x5 _ _ k_s0
  have lt_s0 := (hH.2.2 _ _ k_s0).1
  have k_s1 := x5 _ _ k_s1
  have lt_s1 := (hH.2.2 _ _ k_s1).1
  have k_out := x5 _ _ k_out
  have lt_out := (hH.2.2 _ _ k_out).1
  have hx0 := hx0.tr x5
  rcases hP with ⟨hxr, rfl, p2⟩ | ⟨hxr, xl, rfl, p2⟩ | ⟨hxr, xl, c20, rfl, p2⟩ | ⟨hxr, xl, c20, rfl, p2⟩
  · refine hs_ch (h := 13) (i := 4) (n := 2) (hh := (eg_mh 5).getD []) (by decide +kernel) ⟨by decide +kernel, by decide +kernel⟩ (Nat.le_of_ble_eq_true rfl) ?_
    show et_go none _ 5 15 [some (.ref th), some (.int x), some (.int ru), some (.ref out), none] [] _ _ _ _
    refine hs_k (x := Int32.ofNat 1) (p := 16) (by decide +kernel) ?_
    refine hs_iret (by decide +kernel) ?_
    exact ⟨_, _, _, _, _, rfl, hx0, hH, .inl ⟨hxr, rfl, p2⟩, hm5⟩
  · refine hs_ch (h := 17) (i := 4) (n := 2) (hh := (eg_mh 5).getD []) (by decide +kernel) ⟨by decide +kernel, by decide +kernel⟩ (Nat.le_of_ble_eq_true rfl) ?_
    show et_go none _ 5 19 [some (.ref th), some (.int x), some (.int ru), some (.ref out), none] [] _ _ _ _
    refine hs_k (x := Int32.ofNat 2) (p := 20) (by decide +kernel) ?_
    refine hs_iret (by decide +kernel) ?_
    exact ⟨_, _, _, _, _, rfl, hx0, hH, .inr (.inl ⟨hxr, xl, rfl, p2⟩), hm5⟩
  · refine hs_ch (h := 21) (i := 4) (n := 2) (hh := (eg_mh 5).getD []) (by decide +kernel) ⟨by decide +kernel, by decide +kernel⟩ (Nat.le_of_ble_eq_true rfl) ?_
    show et_go none _ 5 23 [some (.ref th), some (.int x), some (.int ru), some (.ref out), none] [] _ _ _ _
    refine hs_k (x := Int32.ofNat 3) (p := 24) (by decide +kernel) ?_
    refine hs_iret (by decide +kernel) ?_
    exact ⟨_, _, _, _, _, rfl, hx0, hH, .inr (.inr (.inl ⟨hxr, xl, c20, rfl, p2⟩)), hm5⟩
  · refine hs_cb ?_
    show et_go none _ 5 8 _ [.int (Int32.ofNat c), .int (Int32.ofNat 0), .ref out] _ _ _ _
    refine hs_i2l (p := 9) (by decide +kernel) ?_
    refine hf_lst (T := et_TT) (t := 31) (N := 1) (p := 10) (by decide +kernel) rfl rfl hH k_out (by omega) (by decide) (fun G9 hH x9 e9 => ?_)
    have p2 := (x9.2 s0 2 lt_s0 (fun h => (hi_ne k_s0 k_out (by decide)) h.1)).trans p2
    have hm5 := (x9.2 s1 2 lt_s1 (fun h => (hi_ne k_s1 k_out (by decide)) h.1)).trans hm5
    have lt_th := Nat.lt_of_lt_of_le lt_th x9.1
    have lt_s0 := Nat.lt_of_lt_of_le lt_s0 x9.1
    have lt_s1 := Nat.lt_of_lt_of_le lt_s1 x9.1
    have lt_out := Nat.lt_of_lt_of_le lt_out x9.1
    refine hs_goto (p := 25) (by decide +kernel) ?_
    refine hs_k (x := Int32.ofNat 0) (p := 26) (by decide +kernel) ?_
    refine hs_iret (by decide +kernel) ?_
    exact ⟨_, _, _, _, _, rfl, hx0, hH, .inr (.inr (.inr ⟨hxr, xl, c20, rfl, e9, p2⟩)), hm5⟩
def mdZ (am aw c rc : Nat) (x ru : Int32) (u : eg_O) : Prop := ∃ v, u.1 = .inl (some (.int v)) ∧ ((¬ xr ru rc ∧ et_pl (eg_at u.2.1 am) 0 = some (.int (Int32.ofNat 1)) ∧ et_pl (eg_at u.2.1 aw) 3 = some (.int (Int32.ofNat c))) ∨ (xr ru rc ∧ ¬ (0 ≤ x.toInt ∧ x.toInt < 65536) ∧ et_pl (eg_at u.2.1 am) 0 = some (.int (Int32.ofNat 2)) ∧ et_pl (eg_at u.2.1 aw) 3 = some (.int (Int32.ofNat c))) ∨ (xr ru rc ∧ (0 ≤ x.toInt ∧ x.toInt < 65536) ∧ c = 20 ∧ et_pl (eg_at u.2.1 am) 0 = some (.int (Int32.ofNat 3)) ∧ et_pl (eg_at u.2.1 aw) 3 = some (.int (Int32.ofNat c))) ∨ (xr ru rc ∧ (0 ≤ x.toInt ∧ x.toInt < 65536) ∧ c < 20 ∧ v = Int32.ofNat c ∧ et_pl (eg_at u.2.1 am) 0 = some (.int (Int32.ofNat 0)) ∧ et_pl (eg_at u.2.1 aw) 3 = some (.int (Int32.ofNat (c + 1)))))
theorem fm_made (hH : et_H et_TT K G) (k_am : K am = some 13) (k_aw : K aw = some 46) (m1 : et_pl (eg_at G am) 1 = some (.ref aw)) (w3 : et_pl (eg_at G aw) 3 = some (.int (Int32.ofNat c))) (hc : c ≤ 20) (w0 : et_pl (eg_at G aw) 0 = some (.int (Int32.ofNat rc))) (hrc : rc ≤ 4) (hd : 5 ≤ d2) : et_go none d2 220 0 (eg_en (eg_mL 220) [.ref am, .int x, .int ru]) [] G 0 0 (mdZ am aw c rc x ru) := by
  obtain ⟨d, rfl⟩ : ∃ d, d2 = d + 5 := ⟨d2 - 5, by omega⟩
  rw [show eg_mL 220 = 3 from by decide +kernel]
  show et_go none (d + 5) 220 0 [some (.ref am), some (.int x), some (.int ru)] [] G 0 0 _
  have lt_am := (hH.2.2 _ _ k_am).1
  have lt_aw := (hH.2.2 _ _ k_aw).1
  refine hs_aload (i := 0) (p := 1) (by decide +kernel) rfl ?_
  refine hs_k (x := Int32.ofNat 0) (p := 2) (by decide +kernel) ?_
  refine hf_put (T := et_TT) (t := 13) (ci := 11) (f := 0) (p := 5) (ty := .int) (by decide +kernel) rfl rfl rfl rfl rfl hH k_am hi_any (fun G2 hH x2 e2 => ?_)
  have m1 := (x2.2 am 1 lt_am (fun h => absurd h.2 (by decide))).trans m1
  have w3 := (x2.2 aw 3 lt_aw (fun h => (hi_ne k_aw k_am (by decide)) h.1)).trans w3
  have w0 := (x2.2 aw 0 lt_aw (fun h => (hi_ne k_aw k_am (by decide)) h.1)).trans w0
  have lt_am := Nat.lt_of_lt_of_le lt_am x2.1
  have lt_aw := Nat.lt_of_lt_of_le lt_aw x2.1
  refine hs_aload (i := 0) (p := 6) (by decide +kernel) rfl ?_
  refine hs_aload (i := 0) (p := 7) (by decide +kernel) rfl ?_
  refine hs_iload (i := 2) (p := 8) (by decide +kernel) rfl ?_
  refine ht_callv (T := et_TT) (t := 13) (mi := 210) (na := 1) (ci := 11) (lk := 3) (lm := 2) (L0 := eg_en (eg_mL 210) [.ref am, .int ru]) (by decide +kernel) rfl hH k_am rfl rfl rfl rfl rfl (by rw [show eg_mL 210 = 2 from by decide +kernel]; first | done | rfl) ?_
  refine (fm_nR (x := ru) hH k_am k_aw m1 w0 hrc (by omega)).mono (fun u hu => xp_cb hu ?_)
  by_cases xu : 0 ≤ ru.toInt ∧ ru.toInt < (rc : Int)
  · rw [if_pos xu]
    show et_go none _ 220 11 _ [.int (Int32.ofNat 0), .ref am] _ _ _ _
    refine hs_k (x := Int32.ofNat 1) (p := 12) (by decide +kernel) ?_
    refine ht_callv (T := et_TT) (t := 13) (mi := 204) (na := 2) (ci := 11) (lk := 3) (lm := 3) (L0 := eg_en (eg_mL 204) [.ref am, .int (Int32.ofNat 0), .int (Int32.ofNat 1)]) (by decide +kernel) rfl hH k_am rfl rfl rfl rfl rfl (by rw [show eg_mL 204 = 3 from by decide +kernel]; first | done | rfl) ?_
    refine (fm_t0 hH k_am).mono (fun u hu => xp_cb hu ?_)
    show et_go none _ 220 15 _ [.int (Int32.ofNat 0)] _ _ _ _
    refine hs_if0 (c := .ne) (t := 52) (f := 18) (by decide +kernel) (show ¬ (¬ Int32.ofNat 0 = 0) by decide) ?_
    refine hs_aload (i := 0) (p := 19) (by decide +kernel) rfl ?_
    refine hs_iload (i := 1) (p := 20) (by decide +kernel) rfl ?_
    refine hs_calls (mi := 212) (na := 1) (lk := 3) (lm := 1) (L0 := eg_en (eg_mL 212) [.int x]) (by decide +kernel) rfl rfl rfl rfl rfl rfl (by rw [show eg_mL 212 = 1 from by decide +kernel]; first | done | rfl) ?_
    refine (fm_noLit (x := x)).mono (fun u hu => xp_cb hu ?_)
    by_cases xl : 0 ≤ x.toInt ∧ x.toInt < 65536
    · rw [if_pos xl]
      show et_go none _ 220 23 _ [.int (Int32.ofNat 0), .ref am] _ _ _ _
      refine hs_k (x := Int32.ofNat 2) (p := 24) (by decide +kernel) ?_
      refine ht_callv (T := et_TT) (t := 13) (mi := 204) (na := 2) (ci := 11) (lk := 3) (lm := 3) (L0 := eg_en (eg_mL 204) [.ref am, .int (Int32.ofNat 0), .int (Int32.ofNat 2)]) (by decide +kernel) rfl hH k_am rfl rfl rfl rfl rfl (by rw [show eg_mL 204 = 3 from by decide +kernel]; first | done | rfl) ?_
      refine (fm_t0 hH k_am).mono (fun u hu => xp_cb hu ?_)
      show et_go none _ 220 27 _ [.int (Int32.ofNat 0)] _ _ _ _
      refine hs_if0 (c := .ne) (t := 52) (f := 30) (by decide +kernel) (show ¬ (¬ Int32.ofNat 0 = 0) by decide) ?_
      refine hs_aload (i := 0) (p := 31) (by decide +kernel) rfl ?_
      refine hs_aload (i := 0) (p := 32) (by decide +kernel) rfl ?_
      refine ht_callv (T := et_TT) (t := 13) (mi := 218) (na := 0) (ci := 11) (lk := 3) (lm := 1) (L0 := eg_en (eg_mL 218) [.ref am]) (by decide +kernel) rfl hH k_am rfl rfl rfl rfl rfl (by rw [show eg_mL 218 = 1 from by decide +kernel]; first | done | rfl) ?_
      refine (fm_cards hH k_am k_aw m1 w3).mono (fun u hu => xp_cb hu ?_)
      show et_go none _ 220 35 _ [.int (Int32.ofNat c), .ref am] _ _ _ _
      refine hs_k (x := Int32.ofNat 20) (p := 37) (by decide +kernel) ?_
      refine hs_br2n (c := .ne) (t := 44) (f := 40) (by decide +kernel) (by omega) (by omega) (fun (c37 : ¬ c = 20) => ?_) (fun (c37 : ¬ (¬ c = 20)) => ?_)
      · refine hs_k (x := Int32.ofNat 0) (p := 45) (by decide +kernel) ?_
        refine hs_k (x := Int32.ofNat 3) (p := 46) (by decide +kernel) ?_
        refine ht_callv (T := et_TT) (t := 13) (mi := 204) (na := 2) (ci := 11) (lk := 3) (lm := 3) (L0 := eg_en (eg_mL 204) [.ref am, .int (Int32.ofNat 0), .int (Int32.ofNat 3)]) (by decide +kernel) rfl hH k_am rfl rfl rfl rfl rfl (by rw [show eg_mL 204 = 3 from by decide +kernel]; first | done | rfl) ?_
        refine (fm_t0 hH k_am).mono (fun u hu => xp_cb hu ?_)
        show et_go none _ 220 49 _ [.int (Int32.ofNat 0)] _ _ _ _
        refine hs_if1 (c := .eq) (t := 56) (f := 52) (by decide +kernel) (show Int32.ofNat 0 = 0 by decide) ?_
        refine hs_aload (i := 0) (p := 57) (by decide +kernel) rfl ?_
        refine hs_iload (i := 1) (p := 58) (by decide +kernel) rfl ?_
        refine hs_aload (i := 0) (p := 59) (by decide +kernel) rfl ?_
        refine hs_iload (i := 2) (p := 60) (by decide +kernel) rfl ?_
        refine hs_iload (i := 1) (p := 61) (by decide +kernel) rfl ?_
        refine ht_callv (T := et_TT) (t := 13) (mi := 213) (na := 2) (ci := 11) (lk := 3) (lm := 4) (L0 := eg_en (eg_mL 213) [.ref am, .int ru, .int x]) (by decide +kernel) rfl hH k_am rfl rfl rfl rfl rfl (by rw [show eg_mL 213 = 4 from by decide +kernel]; first | done | rfl) ?_
        refine (er_c1 (K, [], _) [.ref am, .int ru, .int x] _ hH (by show 4 ≤ _; omega) rfl (ht_ac (.inr ⟨by decide, _, rfl, k_am⟩) (ht_ac (hi_iv (by omega) (by omega)) (ht_ac (hi_iv (by omega) (by omega)) ht_an)))).mono (fun u hu => hs_cbv hu (fun v61 K61 G61 c61 s61 x61 f61 hH hv61 cl61 sl61 => ?_))
        obtain ⟨n61, hn61, rfl⟩ := hi_nat hv61
        obtain rfl : c61 = 0 := Nat.le_zero.mp cl61
        obtain rfl : s61 = 0 := Nat.le_zero.mp sl61
        have m1 := (f61.2 am 13 k_am 1 rfl).trans m1
        have w3 := (f61.2 aw 46 k_aw 3 rfl).trans w3
        have w0 := (f61.2 aw 46 k_aw 0 rfl).trans w0
        have e2 := (f61.2 am 13 k_am 0 rfl).trans e2
        have k_am := x61 _ _ k_am
        have lt_am := (hH.2.2 _ _ k_am).1
        have k_aw := x61 _ _ k_aw
        have lt_aw := (hH.2.2 _ _ k_aw).1
        show et_go none _ 220 64 _ [.int (Int32.ofNat n61), .int x, .ref am] _ _ _ _
        refine ht_callv (T := et_TT) (t := 13) (mi := 219) (na := 2) (ci := 11) (lk := 3) (lm := 4) (L0 := eg_en (eg_mL 219) [.ref am, .int x, .int (Int32.ofNat n61)]) (by decide +kernel) rfl hH k_am rfl rfl rfl rfl rfl (by rw [show eg_mL 219 = 4 from by decide +kernel]; first | done | rfl) ?_
        refine (fm_puts (x := x) (y := Int32.ofNat n61) hH k_am k_aw m1 w3 (by omega)).mono (fun u hu => xw_cb hu (fun G64 v64 hH x64 hP64 => ?_))
        have m1 := (x64.2 am 1 lt_am (fun h => Or.elim h (fun h => (hi_ne k_am k_aw (by decide)) h.1) (fun h => (hi_ne k_am k_aw (by decide)) h.1))).trans m1
        have w0 := (x64.2 aw 0 lt_aw (fun h => Or.elim h (fun h => absurd h.2 (by decide)) (fun h => by have h := h.2; omega))).trans w0
        have e2 := (x64.2 am 0 lt_am (fun h => Or.elim h (fun h => (hi_ne k_am k_aw (by decide)) h.1) (fun h => (hi_ne k_am k_aw (by decide)) h.1))).trans e2
        have lt_am := Nat.lt_of_lt_of_le lt_am x64.1
        have lt_aw := Nat.lt_of_lt_of_le lt_aw x64.1
        obtain ⟨rfl, p3, p5, p6⟩ := hP64
        show et_go none _ 220 67 _ [.int (Int32.ofNat c)] _ _ _ _
        refine hs_iret (by decide +kernel) ?_
        exact ⟨_, rfl, .inr (.inr (.inr ⟨xu, xl, by omega, rfl, e2, p3⟩))⟩
      · refine hs_k (x := Int32.ofNat 1) (p := 41) (by decide +kernel) ?_
        refine hs_goto (p := 45) (by decide +kernel) ?_
        refine hs_k (x := Int32.ofNat 3) (p := 46) (by decide +kernel) ?_
        refine ht_callv (T := et_TT) (t := 13) (mi := 204) (na := 2) (ci := 11) (lk := 3) (lm := 3) (L0 := eg_en (eg_mL 204) [.ref am, .int (Int32.ofNat 1), .int (Int32.ofNat 3)]) (by decide +kernel) rfl hH k_am rfl rfl rfl rfl rfl (by rw [show eg_mL 204 = 3 from by decide +kernel]; first | done | rfl) ?_
        refine (fm_t1 hH k_am).mono (fun u hu => xw_cb hu (fun G46 v46 hH x46 hP46 => ?_))
        have m1 := (x46.2 am 1 lt_am (fun h => absurd h.2 (by decide))).trans m1
        have w3 := (x46.2 aw 3 lt_aw (fun h => (hi_ne k_aw k_am (by decide)) h.1)).trans w3
        have w0 := (x46.2 aw 0 lt_aw (fun h => (hi_ne k_aw k_am (by decide)) h.1)).trans w0
        have lt_am := Nat.lt_of_lt_of_le lt_am x46.1
        have lt_aw := Nat.lt_of_lt_of_le lt_aw x46.1
        obtain ⟨rfl, th46⟩ := hP46
        show et_go none _ 220 49 _ [.int (Int32.ofNat 1)] _ _ _ _
        refine hs_if0 (c := .eq) (t := 56) (f := 52) (by decide +kernel) (show ¬ (Int32.ofNat 1 = 0) by decide) ?_
        refine hs_k (x := Int32.ofNat 0) (p := 53) (by decide +kernel) ?_
        refine hs_goto (p := 67) (by decide +kernel) ?_
        refine hs_iret (by decide +kernel) ?_
        exact ⟨_, rfl, .inr (.inr (.inl ⟨xu, xl, by omega, th46, w3⟩))⟩
    · rw [if_neg xl]
      show et_go none _ 220 23 _ [.int (Int32.ofNat 1), .ref am] _ _ _ _
      refine hs_k (x := Int32.ofNat 2) (p := 24) (by decide +kernel) ?_
      refine ht_callv (T := et_TT) (t := 13) (mi := 204) (na := 2) (ci := 11) (lk := 3) (lm := 3) (L0 := eg_en (eg_mL 204) [.ref am, .int (Int32.ofNat 1), .int (Int32.ofNat 2)]) (by decide +kernel) rfl hH k_am rfl rfl rfl rfl rfl (by rw [show eg_mL 204 = 3 from by decide +kernel]; first | done | rfl) ?_
      refine (fm_t1 hH k_am).mono (fun u hu => xw_cb hu (fun G24 v24 hH x24 hP24 => ?_))
      have m1 := (x24.2 am 1 lt_am (fun h => absurd h.2 (by decide))).trans m1
      have w3 := (x24.2 aw 3 lt_aw (fun h => (hi_ne k_aw k_am (by decide)) h.1)).trans w3
      have w0 := (x24.2 aw 0 lt_aw (fun h => (hi_ne k_aw k_am (by decide)) h.1)).trans w0
      have lt_am := Nat.lt_of_lt_of_le lt_am x24.1
      have lt_aw := Nat.lt_of_lt_of_le lt_aw x24.1
      obtain ⟨rfl, th24⟩ := hP24
      show et_go none _ 220 27 _ [.int (Int32.ofNat 1)] _ _ _ _
      refine hs_if1 (c := .ne) (t := 52) (f := 30) (by decide +kernel) (show ¬ Int32.ofNat 1 = 0 by decide) ?_
      refine hs_k (x := Int32.ofNat 0) (p := 53) (by decide +kernel) ?_
      refine hs_goto (p := 67) (by decide +kernel) ?_
      refine hs_iret (by decide +kernel) ?_
      exact ⟨_, rfl, .inr (.inl ⟨xu, xl, th24, w3⟩)⟩
  · rw [if_neg xu]
    show et_go none _ 220 11 _ [.int (Int32.ofNat 1), .ref am] _ _ _ _
    refine hs_k (x := Int32.ofNat 1) (p := 12) (by decide +kernel) ?_
    refine ht_callv (T := et_TT) (t := 13) (mi := 204) (na := 2) (ci := 11) (lk := 3) (lm := 3) (L0 := eg_en (eg_mL 204) [.ref am, .int (Int32.ofNat 1), .int (Int32.ofNat 1)]) (by decide +kernel) rfl hH k_am rfl rfl rfl rfl rfl (by rw [show eg_mL 204 = 3 from by decide +kernel]; first | done | rfl) ?_
    refine (fm_t1 hH k_am).mono (fun u hu => xw_cb hu (fun G12 v12 hH x12 hP12 => ?_))
    have m1 := (x12.2 am 1 lt_am (fun h => absurd h.2 (by decide))).trans m1
    have w3 := (x12.2 aw 3 lt_aw (fun h => (hi_ne k_aw k_am (by decide)) h.1)).trans w3
    have w0 := (x12.2 aw 0 lt_aw (fun h => (hi_ne k_aw k_am (by decide)) h.1)).trans w0
    have lt_am := Nat.lt_of_lt_of_le lt_am x12.1
    have lt_aw := Nat.lt_of_lt_of_le lt_aw x12.1
    obtain ⟨rfl, th12⟩ := hP12
    show et_go none _ 220 15 _ [.int (Int32.ofNat 1)] _ _ _ _
    refine hs_if1 (c := .ne) (t := 52) (f := 18) (by decide +kernel) (show ¬ Int32.ofNat 1 = 0 by decide) ?_
    refine hs_k (x := Int32.ofNat 0) (p := 53) (by decide +kernel) ?_
    refine hs_goto (p := 67) (by decide +kernel) ?_
    refine hs_iret (by decide +kernel) ?_
    exact ⟨_, rfl, .inl ⟨(fun h => xu h), th12, w3⟩⟩
end FNB
end
