/-! FUNCTIONAL: takeFrom copies the counts; image, back -/
def tnP (a s n0 n2 n5 n7 n9 : Nat) (G' : eg_G) : Prop := (et_pl (eg_at G' a) 0 = some (.int (Int32.ofNat n0)) ∧ et_pl (eg_at G' s) 0 = some (.int (Int32.ofNat n0))) ∧ (et_pl (eg_at G' a) 2 = some (.int (Int32.ofNat n2)) ∧ et_pl (eg_at G' s) 2 = some (.int (Int32.ofNat n2))) ∧ (et_pl (eg_at G' a) 5 = some (.int (Int32.ofNat n5)) ∧ et_pl (eg_at G' s) 5 = some (.int (Int32.ofNat n5))) ∧ (et_pl (eg_at G' a) 7 = some (.int (Int32.ofNat n7)) ∧ et_pl (eg_at G' s) 7 = some (.int (Int32.ofNat n7))) ∧ (et_pl (eg_at G' a) 9 = some (.int (Int32.ofNat n9)) ∧ et_pl (eg_at G' s) 9 = some (.int (Int32.ofNat n9)))
theorem tn_cb {K : et_K} {G : eg_G} {d k pc ck sk a s da dc ra ca rc ec cc : Nat} {L : eg_Ls} {r : List Value} {Z : eg_O → Prop} {P : eg_G → Prop} {u : eg_O} (hu : tf_Z K G a s da dc ra ca rc ec cc u ∧ P u.2.1) (h : ∀ (K' : et_K) (G' : eg_G), et_ex K K' → et_fr tf_M K G G' → et_H et_TT K' G' → P G' → et_go none d k (pc + 3) L r G' ck sk Z) : hs_cont d k pc L r ck sk Z u := by
  obtain ⟨hu, hP⟩ := hu
  obtain ⟨K', h1, h2, h3, h4, h5, e, e3, e4⟩ := hu
  obtain ⟨u1, u2, u3, u4⟩ := u
  have e : u1 = .inl none := e
  have e3 : u3 = 0 := e3
  have e4 : u4 = 0 := e4
  subst e e3 e4
  exact hs_cb (h K' u2 h1 h2 h3 hP)
section FMA
variable {K : et_K} {G : eg_G} {d2 d a s th s0 s1 n0 n2 n5 n7 n9 m0 m2 m5 m7 m9 h : Nat}
theorem pm_t5 {i : Nat} (hH : et_H et_TT K G) (k_a : K a = some 10) (k_s : K s = some 10) (hsa : ¬ s = a) (hb : n0 ≤ 4 ∧ n2 ≤ 20 ∧ n5 ≤ 3 ∧ n7 ≤ 4 ∧ n9 ≤ 6) (hs0 : et_pl (eg_at G s) 0 = some (.int (Int32.ofNat n0))) (hs2 : et_pl (eg_at G s) 2 = some (.int (Int32.ofNat n2))) (hs5 : et_pl (eg_at G s) 5 = some (.int (Int32.ofNat n5))) (hs7 : et_pl (eg_at G s) 7 = some (.int (Int32.ofNat n7))) (hs9 : et_pl (eg_at G s) 9 = some (.int (Int32.ofNat n9))) (ha0 : et_pl (eg_at G a) 0 = some (.int (Int32.ofNat n0))) (ha2 : et_pl (eg_at G a) 2 = some (.int (Int32.ofNat n2))) (ha5 : et_pl (eg_at G a) 5 = some (.int (Int32.ofNat n5))) (ha7 : et_pl (eg_at G a) 7 = some (.int (Int32.ofNat n7))) (ha9 : et_pl (eg_at G a) 9 = some (.int (Int32.ofNat n9))) (hi : i ≤ 6) : et_go none (d + 2) 104 158 [some (.ref a), some (.ref s), some (.int (Int32.ofNat i))] [] G 0 0 (fun u => tnP a s n0 n2 n5 n7 n9 u.2.1) := by
  induction hm : 6 - i using Nat.strongRecOn generalizing i K G with
  | _ z ih =>
    obtain ⟨hb0, hb2, hb5, hb7, hb9⟩ := hb
    refine hs_iload (i := 2) (p := 159) (by decide +kernel) rfl ?_
    refine hs_k (x := Int32.ofNat 6) (p := 161) (by decide +kernel) ?_
    refine hs_br2n (c := .ge) (t := 182) (f := 164) (by decide +kernel) (by omega) (by omega) (fun (c161 : 6 ≤ i) => ?_) (fun (c161 : ¬ (6 ≤ i)) => ?_)
    · refine hs_vret (by decide +kernel) ?_
      exact ⟨⟨ha0, hs0⟩, ⟨ha2, hs2⟩, ⟨ha5, hs5⟩, ⟨ha7, hs7⟩, ⟨ha9, hs9⟩⟩
    · refine hs_aload (i := 0) (p := 165) (by decide +kernel) rfl ?_
      refine ht_getr (T := et_TT) (t := 10) (ci := 8) (f := 10) (p := 168) (by decide +kernel) rfl rfl hH k_a (fun a165 k_a165 e165 => ?_)
      refine hs_iload (i := 2) (p := 169) (by decide +kernel) rfl ?_
      refine hs_aload (i := 1) (p := 170) (by decide +kernel) rfl ?_
      refine ht_getr (T := et_TT) (t := 10) (ci := 8) (f := 10) (p := 173) (by decide +kernel) rfl rfl hH k_s (fun a170 k_a170 e170 => ?_)
      refine hs_iload (i := 2) (p := 174) (by decide +kernel) rfl ?_
      refine ht_aald (T := et_TT) (t := 39) (N := 6) (kd := 8) (m := 5) (p := 175) (by decide +kernel) rfl rfl hH k_a170 (by omega) (by omega) (by decide) (fun v174 h174 e174 => ?_)
      refine ht_aasa (t := 39) (u := 2) (N := 6) (kd := 8) (cj := 0) (p := 176) (by decide +kernel) ⟨rfl, rfl⟩ (by decide +kernel) hH k_a165 (by omega) h174 (fun G175 hH f175 e175 he => ?_)
      have hs0 := ((hb_wk f175 (by omega)).2 s 10 k_s 0 rfl).trans hs0
      have hs2 := ((hb_wk f175 (by omega)).2 s 10 k_s 2 rfl).trans hs2
      have hs5 := ((hb_wk f175 (by omega)).2 s 10 k_s 5 rfl).trans hs5
      have hs7 := ((hb_wk f175 (by omega)).2 s 10 k_s 7 rfl).trans hs7
      have hs9 := ((hb_wk f175 (by omega)).2 s 10 k_s 9 rfl).trans hs9
      have ha0 := ((hb_wk f175 (by omega)).2 a 10 k_a 0 rfl).trans ha0
      have ha2 := ((hb_wk f175 (by omega)).2 a 10 k_a 2 rfl).trans ha2
      have ha5 := ((hb_wk f175 (by omega)).2 a 10 k_a 5 rfl).trans ha5
      have ha7 := ((hb_wk f175 (by omega)).2 a 10 k_a 7 rfl).trans ha7
      have ha9 := ((hb_wk f175 (by omega)).2 a 10 k_a 9 rfl).trans ha9
      refine hs_iinc1 (i := 2) (p := 179) (by decide +kernel) rfl (Nat.le_of_ble_eq_true rfl) ?_
      refine hs_goto (p := 158) (by decide +kernel) ?_
      show et_go none (d + 2) 104 158 [some (.ref a), some (.ref s), some (.int (Int32.ofNat (i + 1)))] [] _ 0 0 _
      exact ih (6 - (i + 1)) (by omega) (i := (i + 1)) hH k_a k_s hs0 hs2 hs5 hs7 hs9 ha0 ha2 ha5 ha7 ha9 (by omega) rfl
theorem pm_t4 {i : Nat} (hH : et_H et_TT K G) (k_a : K a = some 10) (k_s : K s = some 10) (hsa : ¬ s = a) (hb : n0 ≤ 4 ∧ n2 ≤ 20 ∧ n5 ≤ 3 ∧ n7 ≤ 4 ∧ n9 ≤ 6) (hs0 : et_pl (eg_at G s) 0 = some (.int (Int32.ofNat n0))) (hs2 : et_pl (eg_at G s) 2 = some (.int (Int32.ofNat n2))) (hs5 : et_pl (eg_at G s) 5 = some (.int (Int32.ofNat n5))) (hs7 : et_pl (eg_at G s) 7 = some (.int (Int32.ofNat n7))) (hs9 : et_pl (eg_at G s) 9 = some (.int (Int32.ofNat n9))) (ha0 : et_pl (eg_at G a) 0 = some (.int (Int32.ofNat n0))) (ha2 : et_pl (eg_at G a) 2 = some (.int (Int32.ofNat n2))) (ha5 : et_pl (eg_at G a) 5 = some (.int (Int32.ofNat n5))) (ha7 : et_pl (eg_at G a) 7 = some (.int (Int32.ofNat n7))) (hi : i ≤ 4) : et_go none (d + 2) 104 125 [some (.ref a), some (.ref s), some (.int (Int32.ofNat i))] [] G 0 0 (fun u => tnP a s n0 n2 n5 n7 n9 u.2.1) := by
  induction hm : 4 - i using Nat.strongRecOn generalizing i K G with
  | _ z ih =>
    obtain ⟨hb0, hb2, hb5, hb7, hb9⟩ := hb
    refine hs_iload (i := 2) (p := 126) (by decide +kernel) rfl ?_
    refine hs_k (x := Int32.ofNat 4) (p := 127) (by decide +kernel) ?_
    refine hs_br2n (c := .ge) (t := 148) (f := 130) (by decide +kernel) (by omega) (by omega) (fun (c127 : 4 ≤ i) => ?_) (fun (c127 : ¬ (4 ≤ i)) => ?_)
    · refine hs_aload (i := 0) (p := 149) (by decide +kernel) rfl ?_
      refine hs_aload (i := 1) (p := 150) (by decide +kernel) rfl ?_
      refine ht_getn (T := et_TT) (t := 10) (ci := 8) (f := 9) (p := 153) (by decide +kernel) rfl rfl hH k_s (fun c150 h150 e150 => ?_)
      obtain rfl : n9 = c150 := hb_cc hs9 e150 (by omega) (by omega)
      refine ht_puta (T := et_TT) (t := 10) (ci := 8) (f := 9) (p := 156) (ty := .int) (by decide +kernel) rfl rfl rfl rfl (by decide +kernel) hH k_a (hi_nv (by omega) (by omega)) (fun G153 hH f153 e153 he => ?_)
      have hs0 := (f153.2 s 10 k_s 0 rfl).trans hs0
      have hs2 := (f153.2 s 10 k_s 2 rfl).trans hs2
      have hs5 := (f153.2 s 10 k_s 5 rfl).trans hs5
      have hs7 := (f153.2 s 10 k_s 7 rfl).trans hs7
      have hs9 := (congrArg (fun c => et_pl c 9) (he s hsa)).trans hs9
      have ha0 := (f153.2 a 10 k_a 0 rfl).trans ha0
      have ha2 := (f153.2 a 10 k_a 2 rfl).trans ha2
      have ha5 := (f153.2 a 10 k_a 5 rfl).trans ha5
      have ha7 := (f153.2 a 10 k_a 7 rfl).trans ha7
      have ha9 := e153
      refine hs_k (x := Int32.ofNat 0) (p := 157) (by decide +kernel) ?_
      refine hs_istore (i := 2) (p := 158) (by decide +kernel) (Nat.le_of_ble_eq_true rfl) ?_
      show et_go none (d + 2) 104 158 [some (.ref a), some (.ref s), some (.int (Int32.ofNat 0))] [] _ 0 0 _
      exact pm_t5 (i := 0) hH k_a k_s hsa ⟨hb0, hb2, hb5, hb7, hb9⟩ hs0 hs2 hs5 hs7 hs9 ha0 ha2 ha5 ha7 ha9 (by omega)
    · refine hs_aload (i := 0) (p := 131) (by decide +kernel) rfl ?_
      refine ht_getr (T := et_TT) (t := 10) (ci := 8) (f := 8) (p := 134) (by decide +kernel) rfl rfl hH k_a (fun a131 k_a131 e131 => ?_)
      refine hs_iload (i := 2) (p := 135) (by decide +kernel) rfl ?_
      refine hs_aload (i := 1) (p := 136) (by decide +kernel) rfl ?_
      refine ht_getr (T := et_TT) (t := 10) (ci := 8) (f := 8) (p := 139) (by decide +kernel) rfl rfl hH k_s (fun a136 k_a136 e136 => ?_)
      refine hs_iload (i := 2) (p := 140) (by decide +kernel) rfl ?_
      refine ht_aald (T := et_TT) (t := 38) (N := 4) (kd := 7) (m := 3) (p := 141) (by decide +kernel) rfl rfl hH k_a136 (by omega) (by omega) (by decide) (fun v140 h140 e140 => ?_)
      refine ht_aasa (t := 38) (u := 11) (N := 4) (kd := 7) (cj := 9) (p := 142) (by decide +kernel) ⟨rfl, rfl⟩ (by decide +kernel) hH k_a131 (by omega) h140 (fun G141 hH f141 e141 he => ?_)
      have hs0 := ((hb_wk f141 (by omega)).2 s 10 k_s 0 rfl).trans hs0
      have hs2 := ((hb_wk f141 (by omega)).2 s 10 k_s 2 rfl).trans hs2
      have hs5 := ((hb_wk f141 (by omega)).2 s 10 k_s 5 rfl).trans hs5
      have hs7 := ((hb_wk f141 (by omega)).2 s 10 k_s 7 rfl).trans hs7
      have hs9 := ((hb_wk f141 (by omega)).2 s 10 k_s 9 rfl).trans hs9
      have ha0 := ((hb_wk f141 (by omega)).2 a 10 k_a 0 rfl).trans ha0
      have ha2 := ((hb_wk f141 (by omega)).2 a 10 k_a 2 rfl).trans ha2
      have ha5 := ((hb_wk f141 (by omega)).2 a 10 k_a 5 rfl).trans ha5
      have ha7 := ((hb_wk f141 (by omega)).2 a 10 k_a 7 rfl).trans ha7
      refine hs_iinc1 (i := 2) (p := 145) (by decide +kernel) rfl (Nat.le_of_ble_eq_true rfl) ?_
      refine hs_goto (p := 125) (by decide +kernel) ?_
      show et_go none (d + 2) 104 125 [some (.ref a), some (.ref s), some (.int (Int32.ofNat (i + 1)))] [] _ 0 0 _
      exact ih (4 - (i + 1)) (by omega) (i := (i + 1)) hH k_a k_s hs0 hs2 hs5 hs7 hs9 ha0 ha2 ha5 ha7 (by omega) rfl
theorem pm_t3 {i : Nat} (hH : et_H et_TT K G) (k_a : K a = some 10) (k_s : K s = some 10) (hsa : ¬ s = a) (hb : n0 ≤ 4 ∧ n2 ≤ 20 ∧ n5 ≤ 3 ∧ n7 ≤ 4 ∧ n9 ≤ 6) (hs0 : et_pl (eg_at G s) 0 = some (.int (Int32.ofNat n0))) (hs2 : et_pl (eg_at G s) 2 = some (.int (Int32.ofNat n2))) (hs5 : et_pl (eg_at G s) 5 = some (.int (Int32.ofNat n5))) (hs7 : et_pl (eg_at G s) 7 = some (.int (Int32.ofNat n7))) (hs9 : et_pl (eg_at G s) 9 = some (.int (Int32.ofNat n9))) (ha0 : et_pl (eg_at G a) 0 = some (.int (Int32.ofNat n0))) (ha2 : et_pl (eg_at G a) 2 = some (.int (Int32.ofNat n2))) (ha5 : et_pl (eg_at G a) 5 = some (.int (Int32.ofNat n5))) (hi : i ≤ 3) : et_go none (d + 2) 104 89 [some (.ref a), some (.ref s), some (.int (Int32.ofNat i))] [] G 0 0 (fun u => tnP a s n0 n2 n5 n7 n9 u.2.1) := by
  induction hm : 3 - i using Nat.strongRecOn generalizing i K G with
  | _ z ih =>
    obtain ⟨hb0, hb2, hb5, hb7, hb9⟩ := hb
    refine hs_iload (i := 2) (p := 90) (by decide +kernel) rfl ?_
    refine hs_k (x := Int32.ofNat 3) (p := 91) (by decide +kernel) ?_
    refine hs_br2n (c := .ge) (t := 115) (f := 94) (by decide +kernel) (by omega) (by omega) (fun (c91 : 3 ≤ i) => ?_) (fun (c91 : ¬ (3 ≤ i)) => ?_)
    · refine hs_aload (i := 0) (p := 116) (by decide +kernel) rfl ?_
      refine hs_aload (i := 1) (p := 117) (by decide +kernel) rfl ?_
      refine ht_getn (T := et_TT) (t := 10) (ci := 8) (f := 7) (p := 120) (by decide +kernel) rfl rfl hH k_s (fun c117 h117 e117 => ?_)
      obtain rfl : n7 = c117 := hb_cc hs7 e117 (by omega) (by omega)
      refine ht_puta (T := et_TT) (t := 10) (ci := 8) (f := 7) (p := 123) (ty := .int) (by decide +kernel) rfl rfl rfl rfl (by decide +kernel) hH k_a (hi_nv (by omega) (by omega)) (fun G120 hH f120 e120 he => ?_)
      have hs0 := (f120.2 s 10 k_s 0 rfl).trans hs0
      have hs2 := (f120.2 s 10 k_s 2 rfl).trans hs2
      have hs5 := (f120.2 s 10 k_s 5 rfl).trans hs5
      have hs7 := (congrArg (fun c => et_pl c 7) (he s hsa)).trans hs7
      have hs9 := (f120.2 s 10 k_s 9 rfl).trans hs9
      have ha0 := (f120.2 a 10 k_a 0 rfl).trans ha0
      have ha2 := (f120.2 a 10 k_a 2 rfl).trans ha2
      have ha5 := (f120.2 a 10 k_a 5 rfl).trans ha5
      have ha7 := e120
      refine hs_k (x := Int32.ofNat 0) (p := 124) (by decide +kernel) ?_
      refine hs_istore (i := 2) (p := 125) (by decide +kernel) (Nat.le_of_ble_eq_true rfl) ?_
      show et_go none (d + 2) 104 125 [some (.ref a), some (.ref s), some (.int (Int32.ofNat 0))] [] _ 0 0 _
      exact pm_t4 (i := 0) hH k_a k_s hsa ⟨hb0, hb2, hb5, hb7, hb9⟩ hs0 hs2 hs5 hs7 hs9 ha0 ha2 ha5 ha7 (by omega)
    · refine hs_aload (i := 0) (p := 95) (by decide +kernel) rfl ?_
      refine ht_getr (T := et_TT) (t := 10) (ci := 8) (f := 6) (p := 98) (by decide +kernel) rfl rfl hH k_a (fun a95 k_a95 e95 => ?_)
      refine hs_iload (i := 2) (p := 99) (by decide +kernel) rfl ?_
      refine ht_aald (T := et_TT) (t := 40) (N := 3) (kd := 6) (m := 2) (p := 100) (by decide +kernel) rfl rfl hH k_a95 (by omega) (by omega) (by decide) (fun v99 h99 e99 => ?_)
      obtain ⟨a99, rfl, k_a99⟩ := hi_ref h99
      refine hs_aload (i := 1) (p := 101) (by decide +kernel) rfl ?_
      refine ht_getr (T := et_TT) (t := 10) (ci := 8) (f := 6) (p := 104) (by decide +kernel) rfl rfl hH k_s (fun a101 k_a101 e101 => ?_)
      refine hs_iload (i := 2) (p := 105) (by decide +kernel) rfl ?_
      refine ht_aald (T := et_TT) (t := 40) (N := 3) (kd := 6) (m := 2) (p := 106) (by decide +kernel) rfl rfl hH k_a101 (by omega) (by omega) (by decide) (fun v105 h105 e105 => ?_)
      obtain ⟨a105, rfl, k_a105⟩ := hi_ref h105
      refine ht_callv (T := et_TT) (t := 3) (mi := 35) (na := 1) (ci := 1) (lk := 3) (lm := 3) (L0 := eg_en (eg_mL 35) [.ref a99, .ref a105]) (by decide +kernel) rfl hH k_a99 rfl rfl rfl rfl rfl (by rw [show eg_mL 35 = 3 from by decide +kernel]; first | done | rfl) ?_
      refine (ek_c5 (K, [], G) [.ref a99, .ref a105] _ hH (by show 1 ≤ _; omega) rfl (ht_ac (.inr ⟨by decide, _, rfl, k_a99⟩) (ht_ac (.inr ⟨by decide, _, rfl, k_a105⟩) ht_an))).mono (fun u hu => hs_cbn hu (fun K106 G106 c106 s106 x106 f106 hH cl106 sl106 => ?_))
      obtain rfl : c106 = 0 := Nat.le_zero.mp cl106
      obtain rfl : s106 = 0 := Nat.le_zero.mp sl106
      have hs0 := (f106.2 s 10 k_s 0 rfl).trans hs0
      have hs2 := (f106.2 s 10 k_s 2 rfl).trans hs2
      have hs5 := (f106.2 s 10 k_s 5 rfl).trans hs5
      have hs7 := (f106.2 s 10 k_s 7 rfl).trans hs7
      have hs9 := (f106.2 s 10 k_s 9 rfl).trans hs9
      have ha0 := (f106.2 a 10 k_a 0 rfl).trans ha0
      have ha2 := (f106.2 a 10 k_a 2 rfl).trans ha2
      have ha5 := (f106.2 a 10 k_a 5 rfl).trans ha5
      have k_a := x106 _ _ k_a
      have k_s := x106 _ _ k_s
      have k_a95 := x106 _ _ k_a95
      have k_a99 := x106 _ _ k_a99
      have k_a101 := x106 _ _ k_a101
      have k_a105 := x106 _ _ k_a105
      show et_go none _ 104 109 _ [] _ 0 0 _
      refine hs_iinc1 (i := 2) (p := 112) (by decide +kernel) rfl (Nat.le_of_ble_eq_true rfl) ?_
      refine hs_goto (p := 89) (by decide +kernel) ?_
      show et_go none (d + 2) 104 89 [some (.ref a), some (.ref s), some (.int (Int32.ofNat (i + 1)))] [] _ 0 0 _
      exact ih (3 - (i + 1)) (by omega) (i := (i + 1)) hH k_a k_s hs0 hs2 hs5 hs7 hs9 ha0 ha2 ha5 (by omega) rfl
theorem pm_t2 {i : Nat} (hH : et_H et_TT K G) (k_a : K a = some 10) (k_s : K s = some 10) (hsa : ¬ s = a) (hb : n0 ≤ 4 ∧ n2 ≤ 20 ∧ n5 ≤ 3 ∧ n7 ≤ 4 ∧ n9 ≤ 6) (hs0 : et_pl (eg_at G s) 0 = some (.int (Int32.ofNat n0))) (hs2 : et_pl (eg_at G s) 2 = some (.int (Int32.ofNat n2))) (hs5 : et_pl (eg_at G s) 5 = some (.int (Int32.ofNat n5))) (hs7 : et_pl (eg_at G s) 7 = some (.int (Int32.ofNat n7))) (hs9 : et_pl (eg_at G s) 9 = some (.int (Int32.ofNat n9))) (ha0 : et_pl (eg_at G a) 0 = some (.int (Int32.ofNat n0))) (ha2 : et_pl (eg_at G a) 2 = some (.int (Int32.ofNat n2))) (hi : i ≤ 20) : et_go none (d + 2) 104 43 [some (.ref a), some (.ref s), some (.int (Int32.ofNat i))] [] G 0 0 (fun u => tnP a s n0 n2 n5 n7 n9 u.2.1) := by
  induction hm : 20 - i using Nat.strongRecOn generalizing i K G with
  | _ z ih =>
    obtain ⟨hb0, hb2, hb5, hb7, hb9⟩ := hb
    refine hs_iload (i := 2) (p := 44) (by decide +kernel) rfl ?_
    refine hs_k (x := Int32.ofNat 20) (p := 46) (by decide +kernel) ?_
    refine hs_br2n (c := .ge) (t := 79) (f := 49) (by decide +kernel) (by omega) (by omega) (fun (c46 : 20 ≤ i) => ?_) (fun (c46 : ¬ (20 ≤ i)) => ?_)
    · refine hs_aload (i := 0) (p := 80) (by decide +kernel) rfl ?_
      refine hs_aload (i := 1) (p := 81) (by decide +kernel) rfl ?_
      refine ht_getn (T := et_TT) (t := 10) (ci := 8) (f := 5) (p := 84) (by decide +kernel) rfl rfl hH k_s (fun c81 h81 e81 => ?_)
      obtain rfl : n5 = c81 := hb_cc hs5 e81 (by omega) (by omega)
      refine ht_puta (T := et_TT) (t := 10) (ci := 8) (f := 5) (p := 87) (ty := .int) (by decide +kernel) rfl rfl rfl rfl (by decide +kernel) hH k_a (hi_nv (by omega) (by omega)) (fun G84 hH f84 e84 he => ?_)
      have hs0 := (f84.2 s 10 k_s 0 rfl).trans hs0
      have hs2 := (f84.2 s 10 k_s 2 rfl).trans hs2
      have hs5 := (congrArg (fun c => et_pl c 5) (he s hsa)).trans hs5
      have hs7 := (f84.2 s 10 k_s 7 rfl).trans hs7
      have hs9 := (f84.2 s 10 k_s 9 rfl).trans hs9
      have ha0 := (f84.2 a 10 k_a 0 rfl).trans ha0
      have ha2 := (f84.2 a 10 k_a 2 rfl).trans ha2
      have ha5 := e84
      refine hs_k (x := Int32.ofNat 0) (p := 88) (by decide +kernel) ?_
      refine hs_istore (i := 2) (p := 89) (by decide +kernel) (Nat.le_of_ble_eq_true rfl) ?_
      show et_go none (d + 2) 104 89 [some (.ref a), some (.ref s), some (.int (Int32.ofNat 0))] [] _ 0 0 _
      exact pm_t3 (i := 0) hH k_a k_s hsa ⟨hb0, hb2, hb5, hb7, hb9⟩ hs0 hs2 hs5 hs7 hs9 ha0 ha2 ha5 (by omega)
    · refine hs_aload (i := 0) (p := 50) (by decide +kernel) rfl ?_
      refine ht_getr (T := et_TT) (t := 10) (ci := 8) (f := 3) (p := 53) (by decide +kernel) rfl rfl hH k_a (fun a50 k_a50 e50 => ?_)
      refine hs_iload (i := 2) (p := 54) (by decide +kernel) rfl ?_
      refine hs_aload (i := 1) (p := 55) (by decide +kernel) rfl ?_
      refine ht_getr (T := et_TT) (t := 10) (ci := 8) (f := 3) (p := 58) (by decide +kernel) rfl rfl hH k_s (fun a55 k_a55 e55 => ?_)
      refine hs_iload (i := 2) (p := 59) (by decide +kernel) rfl ?_
      refine ht_ild (T := et_TT) (t := 17) (N := 20) (p := 60) (by decide +kernel) rfl hH k_a55 (by omega) (by decide) (fun x59 s59 e59 => ?_)
      refine ht_ist (M := [(17, 0, 100000)]) (T := et_TT) (t := 17) (N := 20) (p := 61) (by decide +kernel) rfl rfl (by decide) hH k_a50 (by omega) (by decide) (fun s hs => absurd hs List.not_mem_nil) (hb_mm (by omega)) (fun G60 hH f60 => ?_)
      have hs0 := (f60.2 s 10 k_s 0 rfl).trans hs0
      have hs2 := (f60.2 s 10 k_s 2 rfl).trans hs2
      have hs5 := (f60.2 s 10 k_s 5 rfl).trans hs5
      have hs7 := (f60.2 s 10 k_s 7 rfl).trans hs7
      have hs9 := (f60.2 s 10 k_s 9 rfl).trans hs9
      have ha0 := (f60.2 a 10 k_a 0 rfl).trans ha0
      have ha2 := (f60.2 a 10 k_a 2 rfl).trans ha2
      refine hs_aload (i := 0) (p := 62) (by decide +kernel) rfl ?_
      refine ht_getr (T := et_TT) (t := 10) (ci := 8) (f := 4) (p := 65) (by decide +kernel) rfl rfl hH k_a (fun a62 k_a62 e62 => ?_)
      refine hs_iload (i := 2) (p := 66) (by decide +kernel) rfl ?_
      refine hs_aload (i := 1) (p := 67) (by decide +kernel) rfl ?_
      refine ht_getr (T := et_TT) (t := 10) (ci := 8) (f := 4) (p := 70) (by decide +kernel) rfl rfl hH k_s (fun a67 k_a67 e67 => ?_)
      refine hs_iload (i := 2) (p := 71) (by decide +kernel) rfl ?_
      refine ht_zln (t := 27) (N := 20) (m := 19) (p := 72) (by decide +kernel) rfl hH k_a67 (by omega) (by omega) (by decide) (fun c71 h71 => ?_)
      refine ht_zst (M := [(27, 0, 100000)]) (t := 27) (N := 20) (p := 73) (by decide +kernel) rfl rfl hH k_a62 (by omega) (by decide) (by omega) (hb_mm (by omega)) (fun G72 hH f72 => ?_)
      have hs0 := (f72.2 s 10 k_s 0 rfl).trans hs0
      have hs2 := (f72.2 s 10 k_s 2 rfl).trans hs2
      have hs5 := (f72.2 s 10 k_s 5 rfl).trans hs5
      have hs7 := (f72.2 s 10 k_s 7 rfl).trans hs7
      have hs9 := (f72.2 s 10 k_s 9 rfl).trans hs9
      have ha0 := (f72.2 a 10 k_a 0 rfl).trans ha0
      have ha2 := (f72.2 a 10 k_a 2 rfl).trans ha2
      refine hs_iinc1 (i := 2) (p := 76) (by decide +kernel) rfl (Nat.le_of_ble_eq_true rfl) ?_
      refine hs_goto (p := 43) (by decide +kernel) ?_
      show et_go none (d + 2) 104 43 [some (.ref a), some (.ref s), some (.int (Int32.ofNat (i + 1)))] [] _ 0 0 _
      exact ih (20 - (i + 1)) (by omega) (i := (i + 1)) hH k_a k_s hs0 hs2 hs5 hs7 hs9 ha0 ha2 (by omega) rfl
theorem pm_t1 {i : Nat} (hH : et_H et_TT K G) (k_a : K a = some 10) (k_s : K s = some 10) (hsa : ¬ s = a) (hb : n0 ≤ 4 ∧ n2 ≤ 20 ∧ n5 ≤ 3 ∧ n7 ≤ 4 ∧ n9 ≤ 6) (hs0 : et_pl (eg_at G s) 0 = some (.int (Int32.ofNat n0))) (hs2 : et_pl (eg_at G s) 2 = some (.int (Int32.ofNat n2))) (hs5 : et_pl (eg_at G s) 5 = some (.int (Int32.ofNat n5))) (hs7 : et_pl (eg_at G s) 7 = some (.int (Int32.ofNat n7))) (hs9 : et_pl (eg_at G s) 9 = some (.int (Int32.ofNat n9))) (ha0 : et_pl (eg_at G a) 0 = some (.int (Int32.ofNat n0))) (hi : i ≤ 4) : et_go none (d + 2) 104 10 [some (.ref a), some (.ref s), some (.int (Int32.ofNat i))] [] G 0 0 (fun u => tnP a s n0 n2 n5 n7 n9 u.2.1) := by
  induction hm : 4 - i using Nat.strongRecOn generalizing i K G with
  | _ z ih =>
    obtain ⟨hb0, hb2, hb5, hb7, hb9⟩ := hb
    refine hs_iload (i := 2) (p := 11) (by decide +kernel) rfl ?_
    refine hs_k (x := Int32.ofNat 4) (p := 12) (by decide +kernel) ?_
    refine hs_br2n (c := .ge) (t := 33) (f := 15) (by decide +kernel) (by omega) (by omega) (fun (c12 : 4 ≤ i) => ?_) (fun (c12 : ¬ (4 ≤ i)) => ?_)
    · refine hs_aload (i := 0) (p := 34) (by decide +kernel) rfl ?_
      refine hs_aload (i := 1) (p := 35) (by decide +kernel) rfl ?_
      refine ht_getn (T := et_TT) (t := 10) (ci := 8) (f := 2) (p := 38) (by decide +kernel) rfl rfl hH k_s (fun c35 h35 e35 => ?_)
      obtain rfl : n2 = c35 := hb_cc hs2 e35 (by omega) (by omega)
      refine ht_puta (T := et_TT) (t := 10) (ci := 8) (f := 2) (p := 41) (ty := .int) (by decide +kernel) rfl rfl rfl rfl (by decide +kernel) hH k_a (hi_nv (by omega) (by omega)) (fun G38 hH f38 e38 he => ?_)
      have hs0 := (f38.2 s 10 k_s 0 rfl).trans hs0
      have hs2 := (congrArg (fun c => et_pl c 2) (he s hsa)).trans hs2
      have hs5 := (f38.2 s 10 k_s 5 rfl).trans hs5
      have hs7 := (f38.2 s 10 k_s 7 rfl).trans hs7
      have hs9 := (f38.2 s 10 k_s 9 rfl).trans hs9
      have ha0 := (f38.2 a 10 k_a 0 rfl).trans ha0
      have ha2 := e38
      refine hs_k (x := Int32.ofNat 0) (p := 42) (by decide +kernel) ?_
      refine hs_istore (i := 2) (p := 43) (by decide +kernel) (Nat.le_of_ble_eq_true rfl) ?_
      show et_go none (d + 2) 104 43 [some (.ref a), some (.ref s), some (.int (Int32.ofNat 0))] [] _ 0 0 _
      exact pm_t2 (i := 0) hH k_a k_s hsa ⟨hb0, hb2, hb5, hb7, hb9⟩ hs0 hs2 hs5 hs7 hs9 ha0 ha2 (by omega)
    · refine hs_aload (i := 0) (p := 16) (by decide +kernel) rfl ?_
      refine ht_getr (T := et_TT) (t := 10) (ci := 8) (f := 1) (p := 19) (by decide +kernel) rfl rfl hH k_a (fun a16 k_a16 e16 => ?_)
      refine hs_iload (i := 2) (p := 20) (by decide +kernel) rfl ?_
      refine hs_aload (i := 1) (p := 21) (by decide +kernel) rfl ?_
      refine ht_getr (T := et_TT) (t := 10) (ci := 8) (f := 1) (p := 24) (by decide +kernel) rfl rfl hH k_s (fun a21 k_a21 e21 => ?_)
      refine hs_iload (i := 2) (p := 25) (by decide +kernel) rfl ?_
      refine ht_aald (T := et_TT) (t := 37) (N := 4) (kd := 5) (m := 3) (p := 26) (by decide +kernel) rfl rfl hH k_a21 (by omega) (by omega) (by decide) (fun v25 h25 e25 => ?_)
      refine ht_aasa (t := 37) (u := 8) (N := 4) (kd := 5) (cj := 6) (p := 27) (by decide +kernel) ⟨rfl, rfl⟩ (by decide +kernel) hH k_a16 (by omega) h25 (fun G26 hH f26 e26 he => ?_)
      have hs0 := ((hb_wk f26 (by omega)).2 s 10 k_s 0 rfl).trans hs0
      have hs2 := ((hb_wk f26 (by omega)).2 s 10 k_s 2 rfl).trans hs2
      have hs5 := ((hb_wk f26 (by omega)).2 s 10 k_s 5 rfl).trans hs5
      have hs7 := ((hb_wk f26 (by omega)).2 s 10 k_s 7 rfl).trans hs7
      have hs9 := ((hb_wk f26 (by omega)).2 s 10 k_s 9 rfl).trans hs9
      have ha0 := ((hb_wk f26 (by omega)).2 a 10 k_a 0 rfl).trans ha0
      refine hs_iinc1 (i := 2) (p := 30) (by decide +kernel) rfl (Nat.le_of_ble_eq_true rfl) ?_
      refine hs_goto (p := 10) (by decide +kernel) ?_
      show et_go none (d + 2) 104 10 [some (.ref a), some (.ref s), some (.int (Int32.ofNat (i + 1)))] [] _ 0 0 _
      exact ih (4 - (i + 1)) (by omega) (i := (i + 1)) hH k_a k_s hs0 hs2 hs5 hs7 hs9 ha0 (by omega) rfl
theorem hc_takeN (hH : et_H et_TT K G) (k_a : K a = some 10) (k_s : K s = some 10) (hsa : ¬ s = a) (hb : n0 ≤ 4 ∧ n2 ≤ 20 ∧ n5 ≤ 3 ∧ n7 ≤ 4 ∧ n9 ≤ 6) (hs0 : et_pl (eg_at G s) 0 = some (.int (Int32.ofNat n0))) (hs2 : et_pl (eg_at G s) 2 = some (.int (Int32.ofNat n2))) (hs5 : et_pl (eg_at G s) 5 = some (.int (Int32.ofNat n5))) (hs7 : et_pl (eg_at G s) 7 = some (.int (Int32.ofNat n7))) (hs9 : et_pl (eg_at G s) 9 = some (.int (Int32.ofNat n9))) (hd : 2 ≤ d2) : et_go none d2 104 0 (eg_en (eg_mL 104) [.ref a, .ref s]) [] G 0 0 (fun u => tnP a s n0 n2 n5 n7 n9 u.2.1) := by
  obtain ⟨d, rfl⟩ : ∃ d, d2 = d + 2 := ⟨d2 - 2, by omega⟩
  obtain ⟨hb0, hb2, hb5, hb7, hb9⟩ := hb
  rw [show eg_mL 104 = 3 from by decide +kernel]
  show et_go none (d + 2) 104 0 [some (.ref a), some (.ref s), none] [] G 0 0 _
  refine hs_aload (i := 0) (p := 1) (by decide +kernel) rfl ?_
  refine hs_aload (i := 1) (p := 2) (by decide +kernel) rfl ?_
  refine ht_getn (T := et_TT) (t := 10) (ci := 8) (f := 0) (p := 5) (by decide +kernel) rfl rfl hH k_s (fun c2 h2 e2 => ?_)
  obtain rfl : n0 = c2 := hb_cc hs0 e2 (by omega) (by omega)
  refine ht_puta (T := et_TT) (t := 10) (ci := 8) (f := 0) (p := 8) (ty := .int) (by decide +kernel) rfl rfl rfl rfl (by decide +kernel) hH k_a (hi_nv (by omega) (by omega)) (fun G5 hH f5 e5 he => ?_)
  have hs0 := (congrArg (fun c => et_pl c 0) (he s hsa)).trans hs0
  have hs2 := (f5.2 s 10 k_s 2 rfl).trans hs2
  have hs5 := (f5.2 s 10 k_s 5 rfl).trans hs5
  have hs7 := (f5.2 s 10 k_s 7 rfl).trans hs7
  have hs9 := (f5.2 s 10 k_s 9 rfl).trans hs9
  have ha0 := e5
  refine hs_k (x := Int32.ofNat 0) (p := 9) (by decide +kernel) ?_
  refine hs_istore (i := 2) (p := 10) (by decide +kernel) (Nat.le_of_ble_eq_true rfl) ?_
  show et_go none (d + 2) 104 10 [some (.ref a), some (.ref s), some (.int (Int32.ofNat 0))] [] _ 0 0 _
  exact pm_t1 (i := 0) hH k_a k_s hsa ⟨hb0, hb2, hb5, hb7, hb9⟩ hs0 hs2 hs5 hs7 hs9 ha0 (by omega)
variable {ra0 ca0 rc0 ec0 cc0 ra1 ca1 rc1 ec1 cc1 : Nat}
theorem fc_imageN (hH : et_H et_TT K G) (hC : ci_O K G th s0 s1 ra0 ca0 rc0 ec0 cc0 ra1 ca1 rc1 ec1 cc1) (hb : n0 ≤ 4 ∧ n2 ≤ 20 ∧ n5 ≤ 3 ∧ n7 ≤ 4 ∧ n9 ≤ 6) (hs0 : et_pl (eg_at G s0) 0 = some (.int (Int32.ofNat n0))) (hs2 : et_pl (eg_at G s0) 2 = some (.int (Int32.ofNat n2))) (hs5 : et_pl (eg_at G s0) 5 = some (.int (Int32.ofNat n5))) (hs7 : et_pl (eg_at G s0) 7 = some (.int (Int32.ofNat n7))) (hs9 : et_pl (eg_at G s0) 9 = some (.int (Int32.ofNat n9))) (hd : 3 ≤ d2) : et_go none d2 124 0 (eg_en (eg_mL 124) [.ref th]) [] G 0 0 (fun u => tnP s1 s0 n0 n2 n5 n7 n9 u.2.1) := by
  obtain ⟨d, rfl⟩ : ∃ d, d2 = d + 3 := ⟨d2 - 3, by omega⟩
  have k_th := hC.1
  have k_s0 := hC.2.2.2.1.1.1
  have k_s1 := hC.2.2.2.2.1.1
  have h0 := hC.2.1.1
  have h1 := hC.2.1.2
  have hne := hC.2.2.1.1
  rw [show eg_mL 124 = 1 from by decide +kernel]
  show et_go none (d + 3) 124 0 [some (.ref th)] [] G 0 0 _
  have lt_th := (hH.2.2 _ _ k_th).1
  have lt_s0 := (hH.2.2 _ _ k_s0).1
  have lt_s1 := (hH.2.2 _ _ k_s1).1
  refine hs_aload (i := 0) (p := 1) (by decide +kernel) rfl ?_
  refine hf_get (T := et_TT) (t := 12) (ci := 10) (f := 1) (p := 4) (by decide +kernel) rfl hH k_th h1 ?_
  refine hs_aload (i := 0) (p := 5) (by decide +kernel) rfl ?_
  refine hf_get (T := et_TT) (t := 12) (ci := 10) (f := 0) (p := 8) (by decide +kernel) rfl hH k_th h0 ?_
  refine ht_callv (T := et_TT) (t := 10) (mi := 104) (na := 1) (ci := 8) (lk := 1) (lm := 3) (L0 := eg_en (eg_mL 104) [.ref s1, .ref s0]) (by decide +kernel) rfl hH k_s1 rfl rfl rfl rfl rfl (by rw [show eg_mL 104 = 3 from by decide +kernel]; first | done | rfl) ?_
  refine ((hc_takeI (a := s1) (s := s0) hH hC.2.2.2.1 hC.2.2.2.2 hC.2.2.1 (by omega)).and (hc_takeN (a := s1) (s := s0) hH k_s1 k_s0 hne hb hs0 hs2 hs5 hs7 hs9 (by omega))).mono (fun u hu => tn_cb (P := tnP s1 s0 n0 n2 n5 n7 n9) hu (fun K8 G8 x8 f8 hH hP => ?_))
  obtain ⟨⟨pa0, pb0⟩, ⟨pa2, pb2⟩, ⟨pa5, pb5⟩, ⟨pa7, pb7⟩, ⟨pa9, pb9⟩⟩ := hP
  have k_th := x8 _ _ k_th
  have lt_th := (hH.2.2 _ _ k_th).1
  have k_s0 := x8 _ _ k_s0
  have lt_s0 := (hH.2.2 _ _ k_s0).1
  have k_s1 := x8 _ _ k_s1
  have lt_s1 := (hH.2.2 _ _ k_s1).1
  show et_go none _ 124 11 _ [] _ _ _ _
  refine hs_aload (i := 0) (p := 12) (by decide +kernel) rfl ?_
  refine hs_k (x := Int32.ofNat 1) (p := 13) (by decide +kernel) ?_
  refine hf_put (T := et_TT) (t := 12) (ci := 10) (f := 2) (p := 16) (ty := .boolean) (by decide +kernel) rfl rfl rfl (by decide +kernel) rfl hH k_th (hi_nv (by omega) (by omega)) (fun G13 hH x13 e13 => ?_)
  have pa0 := (x13.2 s1 0 lt_s1 (fun h => (hi_ne k_s1 k_th (by decide)) h.1)).trans pa0
  have pb0 := (x13.2 s0 0 lt_s0 (fun h => (hi_ne k_s0 k_th (by decide)) h.1)).trans pb0
  have pa2 := (x13.2 s1 2 lt_s1 (fun h => (hi_ne k_s1 k_th (by decide)) h.1)).trans pa2
  have pb2 := (x13.2 s0 2 lt_s0 (fun h => (hi_ne k_s0 k_th (by decide)) h.1)).trans pb2
  have pa5 := (x13.2 s1 5 lt_s1 (fun h => (hi_ne k_s1 k_th (by decide)) h.1)).trans pa5
  have pb5 := (x13.2 s0 5 lt_s0 (fun h => (hi_ne k_s0 k_th (by decide)) h.1)).trans pb5
  have pa7 := (x13.2 s1 7 lt_s1 (fun h => (hi_ne k_s1 k_th (by decide)) h.1)).trans pa7
  have pb7 := (x13.2 s0 7 lt_s0 (fun h => (hi_ne k_s0 k_th (by decide)) h.1)).trans pb7
  have pa9 := (x13.2 s1 9 lt_s1 (fun h => (hi_ne k_s1 k_th (by decide)) h.1)).trans pa9
  have pb9 := (x13.2 s0 9 lt_s0 (fun h => (hi_ne k_s0 k_th (by decide)) h.1)).trans pb9
  have lt_th := Nat.lt_of_lt_of_le lt_th x13.1
  have lt_s0 := Nat.lt_of_lt_of_le lt_s0 x13.1
  have lt_s1 := Nat.lt_of_lt_of_le lt_s1 x13.1
  refine hs_vret (by decide +kernel) ?_
  exact ⟨⟨pa0, pb0⟩, ⟨pa2, pb2⟩, ⟨pa5, pb5⟩, ⟨pa7, pb7⟩, ⟨pa9, pb9⟩⟩
def bkP (s0 s1 n0 n2 n5 n7 n9 m0 m2 m5 m7 m9 h : Nat) (G' : eg_G) : Prop := if h = 0 then (et_pl (eg_at G' s0) 0 = some (.int (Int32.ofNat n0)) ∧ et_pl (eg_at G' s0) 2 = some (.int (Int32.ofNat n2)) ∧ et_pl (eg_at G' s0) 5 = some (.int (Int32.ofNat n5)) ∧ et_pl (eg_at G' s0) 7 = some (.int (Int32.ofNat n7)) ∧ et_pl (eg_at G' s0) 9 = some (.int (Int32.ofNat n9))) ∧ (et_pl (eg_at G' s1) 0 = some (.int (Int32.ofNat m0)) ∧ et_pl (eg_at G' s1) 2 = some (.int (Int32.ofNat m2)) ∧ et_pl (eg_at G' s1) 5 = some (.int (Int32.ofNat m5)) ∧ et_pl (eg_at G' s1) 7 = some (.int (Int32.ofNat m7)) ∧ et_pl (eg_at G' s1) 9 = some (.int (Int32.ofNat m9))) else tnP s0 s1 m0 m2 m5 m7 m9 G'
theorem fc_backN (hH : et_H et_TT K G) (hC : ci_O K G th s0 s1 ra0 ca0 rc0 ec0 cc0 ra1 ca1 rc1 ec1 cc1) (hb : n0 ≤ 4 ∧ n2 ≤ 20 ∧ n5 ≤ 3 ∧ n7 ≤ 4 ∧ n9 ≤ 6) (hs0 : et_pl (eg_at G s0) 0 = some (.int (Int32.ofNat n0))) (hs2 : et_pl (eg_at G s0) 2 = some (.int (Int32.ofNat n2))) (hs5 : et_pl (eg_at G s0) 5 = some (.int (Int32.ofNat n5))) (hs7 : et_pl (eg_at G s0) 7 = some (.int (Int32.ofNat n7))) (hs9 : et_pl (eg_at G s0) 9 = some (.int (Int32.ofNat n9))) (hbm : m0 ≤ 4 ∧ m2 ≤ 20 ∧ m5 ≤ 3 ∧ m7 ≤ 4 ∧ m9 ≤ 6) (hm0 : et_pl (eg_at G s1) 0 = some (.int (Int32.ofNat m0))) (hm2 : et_pl (eg_at G s1) 2 = some (.int (Int32.ofNat m2))) (hm5 : et_pl (eg_at G s1) 5 = some (.int (Int32.ofNat m5))) (hm7 : et_pl (eg_at G s1) 7 = some (.int (Int32.ofNat m7))) (hm9 : et_pl (eg_at G s1) 9 = some (.int (Int32.ofNat m9))) (hp : ph_at G th h) (hh1 : h ≤ 1) (hd : 3 ≤ d2) : et_go none d2 125 0 (eg_en (eg_mL 125) [.ref th]) [] G 0 0 (fun u => bkP s0 s1 n0 n2 n5 n7 n9 m0 m2 m5 m7 m9 h u.2.1) := by
  obtain ⟨d, rfl⟩ : ∃ d, d2 = d + 3 := ⟨d2 - 3, by omega⟩
  have k_th := hC.1
  have k_s0 := hC.2.2.2.1.1.1
  have k_s1 := hC.2.2.2.2.1.1
  have h0 := hC.2.1.1
  have h1 := hC.2.1.2
  have hne := hC.2.2.1.1
  have hp : et_pl (eg_at G th) 2 = some (.int (Int32.ofNat h)) := hp
  rw [show eg_mL 125 = 1 from by decide +kernel]
  show et_go none (d + 3) 125 0 [some (.ref th)] [] G 0 0 _
  have lt_th := (hH.2.2 _ _ k_th).1
  have lt_s0 := (hH.2.2 _ _ k_s0).1
  have lt_s1 := (hH.2.2 _ _ k_s1).1
  refine hs_aload (i := 0) (p := 1) (by decide +kernel) rfl ?_
  refine hf_get (T := et_TT) (t := 12) (ci := 10) (f := 2) (p := 4) (by decide +kernel) rfl hH k_th hp ?_
  refine hs_br1 (c := .ne) (t := 9) (f := 7) (by decide +kernel) (fun (c4 : ¬ Int32.ofNat h = 0) => ?_) (fun (c4 : ¬ (¬ Int32.ofNat h = 0)) => ?_)
  · refine hs_aload (i := 0) (p := 10) (by decide +kernel) rfl ?_
    have hH0 := hH
    refine ht_callv (T := et_TT) (t := 12) (mi := 120) (na := 0) (ci := 10) (lk := 1) (lm := 1) (L0 := eg_en (eg_mL 120) [.ref th]) (by decide +kernel) rfl hH k_th rfl rfl rfl rfl rfl (by rw [show eg_mL 120 = 1 from by decide +kernel]; first | done | rfl) ?_
    refine (fc_forget hH k_th).mono (fun u hu => xw_cb hu (fun G10 v10 hH x10 hP10 => ?_))
    obtain rfl := hP10
    have hC := ci_O.fr hC et_ex.rf (x10.tfr hH0 (M := [(12, 6, 7)]) (fun a t i ha h => by obtain ⟨ea, h⟩ := h; rw [ea, k_th] at ha; cases ha; simp [et_mm]; omega)) (by decide +kernel)
    have h0 := (x10.2 th 0 lt_th (fun h => absurd h.2 (by decide))).trans h0
    have h1 := (x10.2 th 1 lt_th (fun h => absurd h.2 (by decide))).trans h1
    have hs0 := (x10.2 s0 0 lt_s0 (fun h => (hi_ne k_s0 k_th (by decide)) h.1)).trans hs0
    have hs2 := (x10.2 s0 2 lt_s0 (fun h => (hi_ne k_s0 k_th (by decide)) h.1)).trans hs2
    have hs5 := (x10.2 s0 5 lt_s0 (fun h => (hi_ne k_s0 k_th (by decide)) h.1)).trans hs5
    have hs7 := (x10.2 s0 7 lt_s0 (fun h => (hi_ne k_s0 k_th (by decide)) h.1)).trans hs7
    have hs9 := (x10.2 s0 9 lt_s0 (fun h => (hi_ne k_s0 k_th (by decide)) h.1)).trans hs9
    have hp := (x10.2 th 2 lt_th (fun h => absurd h.2 (by decide))).trans hp
    have hm0 := (x10.2 s1 0 lt_s1 (fun h => (hi_ne k_s1 k_th (by decide)) h.1)).trans hm0
    have hm2 := (x10.2 s1 2 lt_s1 (fun h => (hi_ne k_s1 k_th (by decide)) h.1)).trans hm2
    have hm5 := (x10.2 s1 5 lt_s1 (fun h => (hi_ne k_s1 k_th (by decide)) h.1)).trans hm5
    have hm7 := (x10.2 s1 7 lt_s1 (fun h => (hi_ne k_s1 k_th (by decide)) h.1)).trans hm7
    have hm9 := (x10.2 s1 9 lt_s1 (fun h => (hi_ne k_s1 k_th (by decide)) h.1)).trans hm9
    have lt_th := Nat.lt_of_lt_of_le lt_th x10.1
    have lt_s0 := Nat.lt_of_lt_of_le lt_s0 x10.1
    have lt_s1 := Nat.lt_of_lt_of_le lt_s1 x10.1
    show et_go none _ 125 13 _ [] _ _ _ _
    refine hs_aload (i := 0) (p := 14) (by decide +kernel) rfl ?_
    refine hf_get (T := et_TT) (t := 12) (ci := 10) (f := 0) (p := 17) (by decide +kernel) rfl hH k_th h0 ?_
    refine hs_aload (i := 0) (p := 18) (by decide +kernel) rfl ?_
    refine hf_get (T := et_TT) (t := 12) (ci := 10) (f := 1) (p := 21) (by decide +kernel) rfl hH k_th h1 ?_
    refine ht_callv (T := et_TT) (t := 10) (mi := 104) (na := 1) (ci := 8) (lk := 1) (lm := 3) (L0 := eg_en (eg_mL 104) [.ref s0, .ref s1]) (by decide +kernel) rfl hH k_s0 rfl rfl rfl rfl rfl (by rw [show eg_mL 104 = 3 from by decide +kernel]; first | done | rfl) ?_
    refine ((hc_takeI (a := s0) (s := s1) hH hC.2.2.2.2 hC.2.2.2.1 ⟨fun e => hC.2.2.1.1 e.symm, fun e => hC.2.2.1.2.1 e.symm, fun e => hC.2.2.1.2.2 e.symm⟩ (by omega)).and (hc_takeN (a := s0) (s := s1) hH k_s0 k_s1 (fun e => hne e.symm) hbm hm0 hm2 hm5 hm7 hm9 (by omega))).mono (fun u hu => tn_cb (P := tnP s0 s1 m0 m2 m5 m7 m9) hu (fun K21 G21 x21 f21 hH hP => ?_))
    obtain ⟨⟨pa0, pb0⟩, ⟨pa2, pb2⟩, ⟨pa5, pb5⟩, ⟨pa7, pb7⟩, ⟨pa9, pb9⟩⟩ := hP
    have k_th := x21 _ _ k_th
    have lt_th := (hH.2.2 _ _ k_th).1
    have k_s0 := x21 _ _ k_s0
    have lt_s0 := (hH.2.2 _ _ k_s0).1
    have k_s1 := x21 _ _ k_s1
    have lt_s1 := (hH.2.2 _ _ k_s1).1
    show et_go none _ 125 24 _ [] _ _ _ _
    refine hs_k (x := Int32.ofNat 1) (p := 25) (by decide +kernel) ?_
    refine hs_zret (by decide +kernel) (.inr rfl) ?_
    unfold bkP
    rw [if_neg (by have := hi_b1 hh1 c4; omega)]
    exact ⟨⟨pa0, pb0⟩, ⟨pa2, pb2⟩, ⟨pa5, pb5⟩, ⟨pa7, pb7⟩, ⟨pa9, pb9⟩⟩
  · refine hs_k (x := Int32.ofNat 0) (p := 8) (by decide +kernel) ?_
    refine hs_zret (by decide +kernel) (.inl rfl) ?_
    unfold bkP
    rw [if_pos (hi_b0 hh1 c4)]
    exact ⟨⟨hs0, hs2, hs5, hs7, hs9⟩, ⟨hm0, hm2, hm5, hm7, hm9⟩⟩
end FMA
