section
/-! FUNCTIONAL: takeFrom, image, back: the numbers of WIRES -/
/-- of the first k EYES the numbers are copied -/
def etk (E F : Nat → Nat) (g : Nat → Option Value) (k : Nat) (G : eg_G) : Prop := ∀ n, n < 3 → (n < k → et_pl (eg_at G (E n)) 0 = g n) ∧ et_pl (eg_at G (F n)) 0 = g n
theorem etk.fr {K : et_K} {G G' : eg_G} {M : et_M} {E F : Nat → Nat} {g : Nat → Option Value} {k : Nat} (h : etk E F g k G) (kE : ∀ n, n < 3 → K (E n) = some 3) (kF : ∀ n, n < 3 → K (F n) = some 3) (hf : et_fr M K G G') (hm : et_mm M 3 0 = false) : etk E F g k G' := fun n hn => ⟨fun hk => (hf.2 _ 3 (kE n hn) 0 hm).trans ((h n hn).1 hk), (hf.2 _ 3 (kF n hn) 0 hm).trans (h n hn).2⟩
theorem etk.st {K : et_K} {G G' : eg_G} {E F : Nat → Nat} {g : Nat → Option Value} {k : Nat} (h : etk E F g k G) (kE : ∀ n, n < 3 → K (E n) = some 3) (kF : ∀ n, n < 3 → K (F n) = some 3) (hin : ∀ n m, n < 3 → m < 3 → E n = E m → n = m) (hdj : ∀ n m, n < 3 → m < 3 → ¬ E n = F m) (hk : k < 3) (h1 : et_pl (eg_at G' (E k)) 0 = et_pl (eg_at G (F k)) 0) (hh : hole K (E k) G G') : etk E F g (k + 1) G' := fun n hn => by
  refine ⟨fun hn2 => ?_, (hh _ (kF n hn) (fun e => hdj k n hk hn e.symm)).trans (h n hn).2⟩
  by_cases e : n = k
  · subst e
    exact h1.trans (h n hn).2
  · exact (hh _ (kE n hn) (fun e2 => e (hin n k hn hk e2))).trans ((h n hn).1 (by omega))
section UDA
variable {d2 d a s ya yb th s0 s1 sp h : Nat} {E F : Nat → Nat} {g : Nat → Option Value} {c i : Nat → Nat}
theorem pm_u5 {i : Nat} {K : et_K} {G : eg_G} (hH : et_H et_TT K G) (k_a : K a = some 10) (k_s : K s = some 10) (k_ya : K ya = some 40) (k_yb : K yb = some 40) (kE : ∀ n, n < 3 → K (E n) = some 3) (kF : ∀ n, n < 3 → K (F n) = some 3) (hya : et_pl (eg_at G a) 6 = some (.ref ya)) (hyb : et_pl (eg_at G s) 6 = some (.ref yb)) (hE : ∀ n, n < 3 → et_pl (eg_at G ya) n = some (.ref (E n))) (hF : ∀ n, n < 3 → et_pl (eg_at G yb) n = some (.ref (F n))) (hin : ∀ n m, n < 3 → m < 3 → E n = E m → n = m) (hdj : ∀ n m, n < 3 → m < 3 → ¬ E n = F m) (hq : etk E F g 3 G) (hi : i ≤ 6) : et_go none (d + 2) 104 158 [some (.ref a), some (.ref s), some (.int (Int32.ofNat i))] [] G 0 0 (fun u => etk E F g 3 u.2.1) := by
  induction hm : 6 - i using Nat.strongRecOn generalizing i K G with
  | _ z ih =>
    refine hs_iload (i := 2) (p := 159) (by decide +kernel) rfl ?_
    refine hs_k (x := Int32.ofNat 6) (p := 161) (by decide +kernel) ?_
    refine hs_br2n (c := .ge) (t := 182) (f := 164) (by decide +kernel) (by omega) (by omega) (fun (c161 : 6 ≤ i) => ?_) (fun (c161 : ¬ (6 ≤ i)) => ?_)
    · refine hs_vret (by decide +kernel) ?_
      exact hq
    · refine hs_aload (i := 0) (p := 165) (by decide +kernel) rfl ?_
      refine ht_getr (T := et_TT) (t := 10) (ci := 8) (f := 10) (p := 168) (by decide +kernel) rfl rfl hH k_a (fun a165 k_a165 e165 => ?_)
      refine hs_iload (i := 2) (p := 169) (by decide +kernel) rfl ?_
      refine hs_aload (i := 1) (p := 170) (by decide +kernel) rfl ?_
      refine ht_getr (T := et_TT) (t := 10) (ci := 8) (f := 10) (p := 173) (by decide +kernel) rfl rfl hH k_s (fun a170 k_a170 e170 => ?_)
      refine hs_iload (i := 2) (p := 174) (by decide +kernel) rfl ?_
      refine ht_aald (T := et_TT) (t := 39) (N := 6) (kd := 8) (m := 5) (p := 175) (by decide +kernel) rfl rfl hH k_a170 (by omega) (by omega) (by decide) (fun v174 h174 e174 => ?_)
      refine ht_aasa (t := 39) (u := 2) (N := 6) (kd := 8) (cj := 0) (p := 176) (by decide +kernel) ⟨rfl, rfl⟩ (by decide +kernel) hH k_a165 (by omega) h174 (fun G175 hH f175 e175 he => ?_)
      have hya := ((hb_wk f175 (by omega)).2 a 10 k_a 6 rfl).trans hya
      have hyb := ((hb_wk f175 (by omega)).2 s 10 k_s 6 rfl).trans hyb
      have hE := fun (n : Nat) (hn : n < 3) => ((hb_wk f175 (by omega)).2 ya 40 k_ya n (no_mm rfl)).trans (hE n hn)
      have hF := fun (n : Nat) (hn : n < 3) => ((hb_wk f175 (by omega)).2 yb 40 k_yb n (no_mm rfl)).trans (hF n hn)
      have hq := hq.fr kE kF (hb_wk f175 (by omega)) rfl
      refine hs_iinc1 (i := 2) (p := 179) (by decide +kernel) rfl (Nat.le_of_ble_eq_true rfl) ?_
      refine hs_goto (p := 158) (by decide +kernel) ?_
      show et_go none (d + 2) 104 158 [some (.ref a), some (.ref s), some (.int (Int32.ofNat (i + 1)))] [] _ 0 0 _
      exact ih (6 - (i + 1)) (by omega) (i := (i + 1)) hH k_a k_s k_ya k_yb kE kF hya hyb hE hF hq (by omega) rfl
theorem pm_u4 {i : Nat} {K : et_K} {G : eg_G} (hH : et_H et_TT K G) (k_a : K a = some 10) (k_s : K s = some 10) (k_ya : K ya = some 40) (k_yb : K yb = some 40) (kE : ∀ n, n < 3 → K (E n) = some 3) (kF : ∀ n, n < 3 → K (F n) = some 3) (hya : et_pl (eg_at G a) 6 = some (.ref ya)) (hyb : et_pl (eg_at G s) 6 = some (.ref yb)) (hE : ∀ n, n < 3 → et_pl (eg_at G ya) n = some (.ref (E n))) (hF : ∀ n, n < 3 → et_pl (eg_at G yb) n = some (.ref (F n))) (hin : ∀ n m, n < 3 → m < 3 → E n = E m → n = m) (hdj : ∀ n m, n < 3 → m < 3 → ¬ E n = F m) (hq : etk E F g 3 G) (hi : i ≤ 4) : et_go none (d + 2) 104 125 [some (.ref a), some (.ref s), some (.int (Int32.ofNat i))] [] G 0 0 (fun u => etk E F g 3 u.2.1) := by
  induction hm : 4 - i using Nat.strongRecOn generalizing i K G with
  | _ z ih =>
    refine hs_iload (i := 2) (p := 126) (by decide +kernel) rfl ?_
    refine hs_k (x := Int32.ofNat 4) (p := 127) (by decide +kernel) ?_
    refine hs_br2n (c := .ge) (t := 148) (f := 130) (by decide +kernel) (by omega) (by omega) (fun (c127 : 4 ≤ i) => ?_) (fun (c127 : ¬ (4 ≤ i)) => ?_)
    · refine hs_aload (i := 0) (p := 149) (by decide +kernel) rfl ?_
      refine hs_aload (i := 1) (p := 150) (by decide +kernel) rfl ?_
      refine ht_getn (T := et_TT) (t := 10) (ci := 8) (f := 9) (p := 153) (by decide +kernel) rfl rfl hH k_s (fun c150 h150 e150 => ?_)
      refine ht_puta (T := et_TT) (t := 10) (ci := 8) (f := 9) (p := 156) (ty := .int) (by decide +kernel) rfl rfl rfl rfl (by decide +kernel) hH k_a (hi_nv (by omega) (by omega)) (fun G153 hH f153 e153 he => ?_)
      have hya := (f153.2 a 10 k_a 6 rfl).trans hya
      have hyb := (f153.2 s 10 k_s 6 rfl).trans hyb
      have hE := fun (n : Nat) (hn : n < 3) => (f153.2 ya 40 k_ya n (no_mm rfl)).trans (hE n hn)
      have hF := fun (n : Nat) (hn : n < 3) => (f153.2 yb 40 k_yb n (no_mm rfl)).trans (hF n hn)
      have hq := hq.fr kE kF f153 rfl
      refine hs_k (x := Int32.ofNat 0) (p := 157) (by decide +kernel) ?_
      refine hs_istore (i := 2) (p := 158) (by decide +kernel) (Nat.le_of_ble_eq_true rfl) ?_
      show et_go none (d + 2) 104 158 [some (.ref a), some (.ref s), some (.int (Int32.ofNat 0))] [] _ 0 0 _
      exact pm_u5 (i := 0) hH k_a k_s k_ya k_yb kE kF hya hyb hE hF hin hdj hq (by omega)
    · refine hs_aload (i := 0) (p := 131) (by decide +kernel) rfl ?_
      refine ht_getr (T := et_TT) (t := 10) (ci := 8) (f := 8) (p := 134) (by decide +kernel) rfl rfl hH k_a (fun a131 k_a131 e131 => ?_)
      refine hs_iload (i := 2) (p := 135) (by decide +kernel) rfl ?_
      refine hs_aload (i := 1) (p := 136) (by decide +kernel) rfl ?_
      refine ht_getr (T := et_TT) (t := 10) (ci := 8) (f := 8) (p := 139) (by decide +kernel) rfl rfl hH k_s (fun a136 k_a136 e136 => ?_)
      refine hs_iload (i := 2) (p := 140) (by decide +kernel) rfl ?_
      refine ht_aald (T := et_TT) (t := 38) (N := 4) (kd := 7) (m := 3) (p := 141) (by decide +kernel) rfl rfl hH k_a136 (by omega) (by omega) (by decide) (fun v140 h140 e140 => ?_)
      refine ht_aasa (t := 38) (u := 11) (N := 4) (kd := 7) (cj := 9) (p := 142) (by decide +kernel) ⟨rfl, rfl⟩ (by decide +kernel) hH k_a131 (by omega) h140 (fun G141 hH f141 e141 he => ?_)
      have hya := ((hb_wk f141 (by omega)).2 a 10 k_a 6 rfl).trans hya
      have hyb := ((hb_wk f141 (by omega)).2 s 10 k_s 6 rfl).trans hyb
      have hE := fun (n : Nat) (hn : n < 3) => ((hb_wk f141 (by omega)).2 ya 40 k_ya n (no_mm rfl)).trans (hE n hn)
      have hF := fun (n : Nat) (hn : n < 3) => ((hb_wk f141 (by omega)).2 yb 40 k_yb n (no_mm rfl)).trans (hF n hn)
      have hq := hq.fr kE kF (hb_wk f141 (by omega)) rfl
      refine hs_iinc1 (i := 2) (p := 145) (by decide +kernel) rfl (Nat.le_of_ble_eq_true rfl) ?_
      refine hs_goto (p := 125) (by decide +kernel) ?_
      show et_go none (d + 2) 104 125 [some (.ref a), some (.ref s), some (.int (Int32.ofNat (i + 1)))] [] _ 0 0 _
      exact ih (4 - (i + 1)) (by omega) (i := (i + 1)) hH k_a k_s k_ya k_yb kE kF hya hyb hE hF hq (by omega) rfl
theorem pm_u3 {i : Nat} {K : et_K} {G : eg_G} (hH : et_H et_TT K G) (k_a : K a = some 10) (k_s : K s = some 10) (k_ya : K ya = some 40) (k_yb : K yb = some 40) (kE : ∀ n, n < 3 → K (E n) = some 3) (kF : ∀ n, n < 3 → K (F n) = some 3) (hya : et_pl (eg_at G a) 6 = some (.ref ya)) (hyb : et_pl (eg_at G s) 6 = some (.ref yb)) (hE : ∀ n, n < 3 → et_pl (eg_at G ya) n = some (.ref (E n))) (hF : ∀ n, n < 3 → et_pl (eg_at G yb) n = some (.ref (F n))) (hin : ∀ n m, n < 3 → m < 3 → E n = E m → n = m) (hdj : ∀ n m, n < 3 → m < 3 → ¬ E n = F m) (hq : etk E F g i G) (hi : i ≤ 3) : et_go none (d + 2) 104 89 [some (.ref a), some (.ref s), some (.int (Int32.ofNat i))] [] G 0 0 (fun u => etk E F g 3 u.2.1) := by
  induction hm : 3 - i using Nat.strongRecOn generalizing i K G with
  | _ z ih =>
    refine hs_iload (i := 2) (p := 90) (by decide +kernel) rfl ?_
    refine hs_k (x := Int32.ofNat 3) (p := 91) (by decide +kernel) ?_
    refine hs_br2n (c := .ge) (t := 115) (f := 94) (by decide +kernel) (by omega) (by omega) (fun (c91 : 3 ≤ i) => ?_) (fun (c91 : ¬ (3 ≤ i)) => ?_)
    · refine hs_aload (i := 0) (p := 116) (by decide +kernel) rfl ?_
      refine hs_aload (i := 1) (p := 117) (by decide +kernel) rfl ?_
      refine ht_getn (T := et_TT) (t := 10) (ci := 8) (f := 7) (p := 120) (by decide +kernel) rfl rfl hH k_s (fun c117 h117 e117 => ?_)
      refine ht_puta (T := et_TT) (t := 10) (ci := 8) (f := 7) (p := 123) (ty := .int) (by decide +kernel) rfl rfl rfl rfl (by decide +kernel) hH k_a (hi_nv (by omega) (by omega)) (fun G120 hH f120 e120 he => ?_)
      have hya := (f120.2 a 10 k_a 6 rfl).trans hya
      have hyb := (f120.2 s 10 k_s 6 rfl).trans hyb
      have hE := fun (n : Nat) (hn : n < 3) => (f120.2 ya 40 k_ya n (no_mm rfl)).trans (hE n hn)
      have hF := fun (n : Nat) (hn : n < 3) => (f120.2 yb 40 k_yb n (no_mm rfl)).trans (hF n hn)
      have hq := hq.fr kE kF f120 rfl
      refine hs_k (x := Int32.ofNat 0) (p := 124) (by decide +kernel) ?_
      refine hs_istore (i := 2) (p := 125) (by decide +kernel) (Nat.le_of_ble_eq_true rfl) ?_
      show et_go none (d + 2) 104 125 [some (.ref a), some (.ref s), some (.int (Int32.ofNat 0))] [] _ 0 0 _
      obtain rfl : i = 3 := by omega
      exact pm_u4 (i := 0) hH k_a k_s k_ya k_yb kE kF hya hyb hE hF hin hdj hq (by omega)
    · refine hs_aload (i := 0) (p := 95) (by decide +kernel) rfl ?_
      refine ht_getr (T := et_TT) (t := 10) (ci := 8) (f := 6) (p := 98) (by decide +kernel) rfl rfl hH k_a (fun a95 k_a95 e95 => ?_)
      obtain rfl : ya = a95 := Value.ref.inj (Option.some.inj (hya.symm.trans e95))
      refine hs_iload (i := 2) (p := 99) (by decide +kernel) rfl ?_
      refine ht_aald (T := et_TT) (t := 40) (N := 3) (kd := 6) (m := 2) (p := 100) (by decide +kernel) rfl rfl hH k_ya (by omega) (by omega) (by decide) (fun v99 h99 e99 => ?_)
      obtain rfl : v99 = .ref (E i) := Option.some.inj (e99.symm.trans (hE _ (by omega)))
      refine hs_aload (i := 1) (p := 101) (by decide +kernel) rfl ?_
      refine ht_getr (T := et_TT) (t := 10) (ci := 8) (f := 6) (p := 104) (by decide +kernel) rfl rfl hH k_s (fun a101 k_a101 e101 => ?_)
      obtain rfl : yb = a101 := Value.ref.inj (Option.some.inj (hyb.symm.trans e101))
      refine hs_iload (i := 2) (p := 105) (by decide +kernel) rfl ?_
      refine ht_aald (T := et_TT) (t := 40) (N := 3) (kd := 6) (m := 2) (p := 106) (by decide +kernel) rfl rfl hH k_yb (by omega) (by omega) (by decide) (fun v105 h105 e105 => ?_)
      obtain rfl : v105 = .ref (F i) := Option.some.inj (e105.symm.trans (hF _ (by omega)))
      have k_ei := kE i (by omega)
      have k_fi := kF i (by omega)
      refine ht_callv (T := et_TT) (t := 3) (mi := 35) (na := 1) (ci := 1) (lk := 3) (lm := 3) (L0 := eg_en (eg_mL 35) [.ref (E i), .ref (F i)]) (by decide +kernel) rfl hH k_ei rfl rfl rfl rfl rfl (by rw [show eg_mL 35 = 3 from by decide +kernel]; first | done | rfl) ?_
      refine ((ek_c5 (K, [], G) [.ref (E i), .ref (F i)] _ hH (by show 1 ≤ _; omega) rfl (ht_ac (.inr ⟨by decide, _, rfl, k_ei⟩) (ht_ac (.inr ⟨by decide, _, rfl, k_fi⟩) ht_an))).and (ft_35 hH k_ei k_fi (by omega))).mono (fun u hu => hs_cbnP (P := fun g => et_pl (eg_at g (E i)) 0 = et_pl (eg_at G (F i)) 0 ∧ hole K (E i) G g) hu (fun K106 G106 c106 s106 x106 f106 hH cl106 sl106 hh106 => ?_))
      obtain rfl : c106 = 0 := Nat.le_zero.mp cl106
      obtain rfl : s106 = 0 := Nat.le_zero.mp sl106
      have hq := hq.st kE kF hin hdj (by omega) hh106.1 hh106.2
      have hya := (f106.2 a 10 k_a 6 rfl).trans hya
      have hyb := (f106.2 s 10 k_s 6 rfl).trans hyb
      have hE := fun (n : Nat) (hn : n < 3) => (f106.2 ya 40 k_ya n (no_mm rfl)).trans (hE n hn)
      have hF := fun (n : Nat) (hn : n < 3) => (f106.2 yb 40 k_yb n (no_mm rfl)).trans (hF n hn)
      have k_a := x106 _ _ k_a
      have k_s := x106 _ _ k_s
      have k_ya := x106 _ _ k_ya
      have k_yb := x106 _ _ k_yb
      have kE := fun (n : Nat) (hn : n < 3) => x106 _ _ (kE n hn)
      have kF := fun (n : Nat) (hn : n < 3) => x106 _ _ (kF n hn)
      show et_go none _ 104 109 _ [] _ 0 0 _
      refine hs_iinc1 (i := 2) (p := 112) (by decide +kernel) rfl (Nat.le_of_ble_eq_true rfl) ?_
      refine hs_goto (p := 89) (by decide +kernel) ?_
      show et_go none (d + 2) 104 89 [some (.ref a), some (.ref s), some (.int (Int32.ofNat (i + 1)))] [] _ 0 0 _
      exact ih (3 - (i + 1)) (by omega) (i := (i + 1)) hH k_a k_s k_ya k_yb kE kF hya hyb hE hF hq (by omega) rfl
theorem pm_u2 {i : Nat} {K : et_K} {G : eg_G} (hH : et_H et_TT K G) (k_a : K a = some 10) (k_s : K s = some 10) (k_ya : K ya = some 40) (k_yb : K yb = some 40) (kE : ∀ n, n < 3 → K (E n) = some 3) (kF : ∀ n, n < 3 → K (F n) = some 3) (hya : et_pl (eg_at G a) 6 = some (.ref ya)) (hyb : et_pl (eg_at G s) 6 = some (.ref yb)) (hE : ∀ n, n < 3 → et_pl (eg_at G ya) n = some (.ref (E n))) (hF : ∀ n, n < 3 → et_pl (eg_at G yb) n = some (.ref (F n))) (hin : ∀ n m, n < 3 → m < 3 → E n = E m → n = m) (hdj : ∀ n m, n < 3 → m < 3 → ¬ E n = F m) (hq : etk E F g 0 G) (hi : i ≤ 20) : et_go none (d + 2) 104 43 [some (.ref a), some (.ref s), some (.int (Int32.ofNat i))] [] G 0 0 (fun u => etk E F g 3 u.2.1) := by
  induction hm : 20 - i using Nat.strongRecOn generalizing i K G with
  | _ z ih =>
    refine hs_iload (i := 2) (p := 44) (by decide +kernel) rfl ?_
    refine hs_k (x := Int32.ofNat 20) (p := 46) (by decide +kernel) ?_
    refine hs_br2n (c := .ge) (t := 79) (f := 49) (by decide +kernel) (by omega) (by omega) (fun (c46 : 20 ≤ i) => ?_) (fun (c46 : ¬ (20 ≤ i)) => ?_)
    · refine hs_aload (i := 0) (p := 80) (by decide +kernel) rfl ?_
      refine hs_aload (i := 1) (p := 81) (by decide +kernel) rfl ?_
      refine ht_getn (T := et_TT) (t := 10) (ci := 8) (f := 5) (p := 84) (by decide +kernel) rfl rfl hH k_s (fun c81 h81 e81 => ?_)
      refine ht_puta (T := et_TT) (t := 10) (ci := 8) (f := 5) (p := 87) (ty := .int) (by decide +kernel) rfl rfl rfl rfl (by decide +kernel) hH k_a (hi_nv (by omega) (by omega)) (fun G84 hH f84 e84 he => ?_)
      have hya := (f84.2 a 10 k_a 6 rfl).trans hya
      have hyb := (f84.2 s 10 k_s 6 rfl).trans hyb
      have hE := fun (n : Nat) (hn : n < 3) => (f84.2 ya 40 k_ya n (no_mm rfl)).trans (hE n hn)
      have hF := fun (n : Nat) (hn : n < 3) => (f84.2 yb 40 k_yb n (no_mm rfl)).trans (hF n hn)
      have hq := hq.fr kE kF f84 rfl
      refine hs_k (x := Int32.ofNat 0) (p := 88) (by decide +kernel) ?_
      refine hs_istore (i := 2) (p := 89) (by decide +kernel) (Nat.le_of_ble_eq_true rfl) ?_
      show et_go none (d + 2) 104 89 [some (.ref a), some (.ref s), some (.int (Int32.ofNat 0))] [] _ 0 0 _
      exact pm_u3 (i := 0) hH k_a k_s k_ya k_yb kE kF hya hyb hE hF hin hdj hq (by omega)
    · refine hs_aload (i := 0) (p := 50) (by decide +kernel) rfl ?_
      refine ht_getr (T := et_TT) (t := 10) (ci := 8) (f := 3) (p := 53) (by decide +kernel) rfl rfl hH k_a (fun a50 k_a50 e50 => ?_)
      refine hs_iload (i := 2) (p := 54) (by decide +kernel) rfl ?_
      refine hs_aload (i := 1) (p := 55) (by decide +kernel) rfl ?_
      refine ht_getr (T := et_TT) (t := 10) (ci := 8) (f := 3) (p := 58) (by decide +kernel) rfl rfl hH k_s (fun a55 k_a55 e55 => ?_)
      refine hs_iload (i := 2) (p := 59) (by decide +kernel) rfl ?_
      refine ht_ild (T := et_TT) (t := 17) (N := 20) (p := 60) (by decide +kernel) rfl hH k_a55 (by omega) (by decide) (fun x59 s59 e59 => ?_)
      refine ht_ist (M := [(17, 0, 100000)]) (T := et_TT) (t := 17) (N := 20) (p := 61) (by decide +kernel) rfl rfl (by decide) hH k_a50 (by omega) (by decide) (fun s hs => absurd hs List.not_mem_nil) (hb_mm (by omega)) (fun G60 hH f60 => ?_)
      have hya := (f60.2 a 10 k_a 6 rfl).trans hya
      have hyb := (f60.2 s 10 k_s 6 rfl).trans hyb
      have hE := fun (n : Nat) (hn : n < 3) => (f60.2 ya 40 k_ya n (no_mm rfl)).trans (hE n hn)
      have hF := fun (n : Nat) (hn : n < 3) => (f60.2 yb 40 k_yb n (no_mm rfl)).trans (hF n hn)
      have hq := hq.fr kE kF f60 rfl
      refine hs_aload (i := 0) (p := 62) (by decide +kernel) rfl ?_
      refine ht_getr (T := et_TT) (t := 10) (ci := 8) (f := 4) (p := 65) (by decide +kernel) rfl rfl hH k_a (fun a62 k_a62 e62 => ?_)
      refine hs_iload (i := 2) (p := 66) (by decide +kernel) rfl ?_
      refine hs_aload (i := 1) (p := 67) (by decide +kernel) rfl ?_
      refine ht_getr (T := et_TT) (t := 10) (ci := 8) (f := 4) (p := 70) (by decide +kernel) rfl rfl hH k_s (fun a67 k_a67 e67 => ?_)
      refine hs_iload (i := 2) (p := 71) (by decide +kernel) rfl ?_
      refine ht_zln (t := 27) (N := 20) (m := 19) (p := 72) (by decide +kernel) rfl hH k_a67 (by omega) (by omega) (by decide) (fun c71 h71 => ?_)
      refine ht_zst (M := [(27, 0, 100000)]) (t := 27) (N := 20) (p := 73) (by decide +kernel) rfl rfl hH k_a62 (by omega) (by decide) (by omega) (hb_mm (by omega)) (fun G72 hH f72 => ?_)
      have hya := (f72.2 a 10 k_a 6 rfl).trans hya
      have hyb := (f72.2 s 10 k_s 6 rfl).trans hyb
      have hE := fun (n : Nat) (hn : n < 3) => (f72.2 ya 40 k_ya n (no_mm rfl)).trans (hE n hn)
      have hF := fun (n : Nat) (hn : n < 3) => (f72.2 yb 40 k_yb n (no_mm rfl)).trans (hF n hn)
      have hq := hq.fr kE kF f72 rfl
      refine hs_iinc1 (i := 2) (p := 76) (by decide +kernel) rfl (Nat.le_of_ble_eq_true rfl) ?_
      refine hs_goto (p := 43) (by decide +kernel) ?_
      show et_go none (d + 2) 104 43 [some (.ref a), some (.ref s), some (.int (Int32.ofNat (i + 1)))] [] _ 0 0 _
      exact ih (20 - (i + 1)) (by omega) (i := (i + 1)) hH k_a k_s k_ya k_yb kE kF hya hyb hE hF hq (by omega) rfl
theorem pm_u1 {i : Nat} {K : et_K} {G : eg_G} (hH : et_H et_TT K G) (k_a : K a = some 10) (k_s : K s = some 10) (k_ya : K ya = some 40) (k_yb : K yb = some 40) (kE : ∀ n, n < 3 → K (E n) = some 3) (kF : ∀ n, n < 3 → K (F n) = some 3) (hya : et_pl (eg_at G a) 6 = some (.ref ya)) (hyb : et_pl (eg_at G s) 6 = some (.ref yb)) (hE : ∀ n, n < 3 → et_pl (eg_at G ya) n = some (.ref (E n))) (hF : ∀ n, n < 3 → et_pl (eg_at G yb) n = some (.ref (F n))) (hin : ∀ n m, n < 3 → m < 3 → E n = E m → n = m) (hdj : ∀ n m, n < 3 → m < 3 → ¬ E n = F m) (hq : etk E F g 0 G) (hi : i ≤ 4) : et_go none (d + 2) 104 10 [some (.ref a), some (.ref s), some (.int (Int32.ofNat i))] [] G 0 0 (fun u => etk E F g 3 u.2.1) := by
  induction hm : 4 - i using Nat.strongRecOn generalizing i K G with
  | _ z ih =>
    refine hs_iload (i := 2) (p := 11) (by decide +kernel) rfl ?_
    refine hs_k (x := Int32.ofNat 4) (p := 12) (by decide +kernel) ?_
    refine hs_br2n (c := .ge) (t := 33) (f := 15) (by decide +kernel) (by omega) (by omega) (fun (c12 : 4 ≤ i) => ?_) (fun (c12 : ¬ (4 ≤ i)) => ?_)
    · refine hs_aload (i := 0) (p := 34) (by decide +kernel) rfl ?_
      refine hs_aload (i := 1) (p := 35) (by decide +kernel) rfl ?_
      refine ht_getn (T := et_TT) (t := 10) (ci := 8) (f := 2) (p := 38) (by decide +kernel) rfl rfl hH k_s (fun c35 h35 e35 => ?_)
      refine ht_puta (T := et_TT) (t := 10) (ci := 8) (f := 2) (p := 41) (ty := .int) (by decide +kernel) rfl rfl rfl rfl (by decide +kernel) hH k_a (hi_nv (by omega) (by omega)) (fun G38 hH f38 e38 he => ?_)
      have hya := (f38.2 a 10 k_a 6 rfl).trans hya
      have hyb := (f38.2 s 10 k_s 6 rfl).trans hyb
      have hE := fun (n : Nat) (hn : n < 3) => (f38.2 ya 40 k_ya n (no_mm rfl)).trans (hE n hn)
      have hF := fun (n : Nat) (hn : n < 3) => (f38.2 yb 40 k_yb n (no_mm rfl)).trans (hF n hn)
      have hq := hq.fr kE kF f38 rfl
      refine hs_k (x := Int32.ofNat 0) (p := 42) (by decide +kernel) ?_
      refine hs_istore (i := 2) (p := 43) (by decide +kernel) (Nat.le_of_ble_eq_true rfl) ?_
      show et_go none (d + 2) 104 43 [some (.ref a), some (.ref s), some (.int (Int32.ofNat 0))] [] _ 0 0 _
      exact pm_u2 (i := 0) hH k_a k_s k_ya k_yb kE kF hya hyb hE hF hin hdj hq (by omega)
    · refine hs_aload (i := 0) (p := 16) (by decide +kernel) rfl ?_
      refine ht_getr (T := et_TT) (t := 10) (ci := 8) (f := 1) (p := 19) (by decide +kernel) rfl rfl hH k_a (fun a16 k_a16 e16 => ?_)
      refine hs_iload (i := 2) (p := 20) (by decide +kernel) rfl ?_
      refine hs_aload (i := 1) (p := 21) (by decide +kernel) rfl ?_
      refine ht_getr (T := et_TT) (t := 10) (ci := 8) (f := 1) (p := 24) (by decide +kernel) rfl rfl hH k_s (fun a21 k_a21 e21 => ?_)
      refine hs_iload (i := 2) (p := 25) (by decide +kernel) rfl ?_
      refine ht_aald (T := et_TT) (t := 37) (N := 4) (kd := 5) (m := 3) (p := 26) (by decide +kernel) rfl rfl hH k_a21 (by omega) (by omega) (by decide) (fun v25 h25 e25 => ?_)
      refine ht_aasa (t := 37) (u := 8) (N := 4) (kd := 5) (cj := 6) (p := 27) (by decide +kernel) ⟨rfl, rfl⟩ (by decide +kernel) hH k_a16 (by omega) h25 (fun G26 hH f26 e26 he => ?_)
      have hya := ((hb_wk f26 (by omega)).2 a 10 k_a 6 rfl).trans hya
      have hyb := ((hb_wk f26 (by omega)).2 s 10 k_s 6 rfl).trans hyb
      have hE := fun (n : Nat) (hn : n < 3) => ((hb_wk f26 (by omega)).2 ya 40 k_ya n (no_mm rfl)).trans (hE n hn)
      have hF := fun (n : Nat) (hn : n < 3) => ((hb_wk f26 (by omega)).2 yb 40 k_yb n (no_mm rfl)).trans (hF n hn)
      have hq := hq.fr kE kF (hb_wk f26 (by omega)) rfl
      refine hs_iinc1 (i := 2) (p := 30) (by decide +kernel) rfl (Nat.le_of_ble_eq_true rfl) ?_
      refine hs_goto (p := 10) (by decide +kernel) ?_
      show et_go none (d + 2) 104 10 [some (.ref a), some (.ref s), some (.int (Int32.ofNat (i + 1)))] [] _ 0 0 _
      exact ih (4 - (i + 1)) (by omega) (i := (i + 1)) hH k_a k_s k_ya k_yb kE kF hya hyb hE hF hq (by omega) rfl
theorem ft_take {K : et_K} {G : eg_G} (hH : et_H et_TT K G) (k_a : K a = some 10) (k_s : K s = some 10) (k_ya : K ya = some 40) (k_yb : K yb = some 40) (kE : ∀ n, n < 3 → K (E n) = some 3) (kF : ∀ n, n < 3 → K (F n) = some 3) (hya : et_pl (eg_at G a) 6 = some (.ref ya)) (hyb : et_pl (eg_at G s) 6 = some (.ref yb)) (hE : ∀ n, n < 3 → et_pl (eg_at G ya) n = some (.ref (E n))) (hF : ∀ n, n < 3 → et_pl (eg_at G yb) n = some (.ref (F n))) (hin : ∀ n m, n < 3 → m < 3 → E n = E m → n = m) (hdj : ∀ n m, n < 3 → m < 3 → ¬ E n = F m) (hq : etk E F g 0 G) (hd : 2 ≤ d2) : et_go none d2 104 0 (eg_en (eg_mL 104) [.ref a, .ref s]) [] G 0 0 (fun u => etk E F g 3 u.2.1) := by
  obtain ⟨d, rfl⟩ : ∃ d, d2 = d + 2 := ⟨d2 - 2, by omega⟩
  rw [show eg_mL 104 = 3 from by decide +kernel]
  show et_go none (d + 2) 104 0 [some (.ref a), some (.ref s), none] [] G 0 0 _
  refine hs_aload (i := 0) (p := 1) (by decide +kernel) rfl ?_
  refine hs_aload (i := 1) (p := 2) (by decide +kernel) rfl ?_
  refine ht_getn (T := et_TT) (t := 10) (ci := 8) (f := 0) (p := 5) (by decide +kernel) rfl rfl hH k_s (fun c2 h2 e2 => ?_)
  refine ht_puta (T := et_TT) (t := 10) (ci := 8) (f := 0) (p := 8) (ty := .int) (by decide +kernel) rfl rfl rfl rfl (by decide +kernel) hH k_a (hi_nv (by omega) (by omega)) (fun G5 hH f5 e5 he => ?_)
  have hya := (f5.2 a 10 k_a 6 rfl).trans hya
  have hyb := (f5.2 s 10 k_s 6 rfl).trans hyb
  have hE := fun (n : Nat) (hn : n < 3) => (f5.2 ya 40 k_ya n (no_mm rfl)).trans (hE n hn)
  have hF := fun (n : Nat) (hn : n < 3) => (f5.2 yb 40 k_yb n (no_mm rfl)).trans (hF n hn)
  have hq := hq.fr kE kF f5 rfl
  refine hs_k (x := Int32.ofNat 0) (p := 9) (by decide +kernel) ?_
  refine hs_istore (i := 2) (p := 10) (by decide +kernel) (Nat.le_of_ble_eq_true rfl) ?_
  show et_go none (d + 2) 104 10 [some (.ref a), some (.ref s), some (.int (Int32.ofNat 0))] [] _ 0 0 _
  exact pm_u1 (i := 0) hH k_a k_s k_ya k_yb kE kF hya hyb hE hF hin hdj hq (by omega)
variable {ra0 ca0 rc0 ec0 cc0 ra1 ca1 rc1 ec1 cc1 : Nat}
theorem fc_imageE {K : et_K} {G : eg_G} (hH : et_H et_TT K G) (hC : ci_O K G th s0 s1 ra0 ca0 rc0 ec0 cc0 ra1 ca1 rc1 ec1 cc1) (ht : eyt K sp ya yb E F) (hp : eyp G th s0 s1 sp ya yb E F) (hv : ev G E F c i) (hd : 3 ≤ d2) : et_go none d2 124 0 (eg_en (eg_mL 124) [.ref th]) [] G 0 0 (fun u => ev u.2.1 E F c c) := by
  obtain ⟨d, rfl⟩ : ∃ d, d2 = d + 3 := ⟨d2 - 3, by omega⟩
  have k_th := hC.1
  have k_s0 := hC.2.2.2.1.1.1
  have k_s1 := hC.2.2.2.2.1.1
  have h0 := hC.2.1.1
  have h1 := hC.2.1.2
  have p0 := hp.1.1
  have p1 := hp.1.2.1
  have hy := fun (n : Nat) (hn : n < 3) => (hp.2 n hn).1
  have hz := fun (n : Nat) (hn : n < 3) => (hp.2 n hn).2
  have hH0 := hH
  rw [show eg_mL 124 = 1 from by decide +kernel]
  show et_go none (d + 3) 124 0 [some (.ref th)] [] G 0 0 _
  have lt_th := (hH.2.2 _ _ k_th).1
  have lt_s0 := (hH.2.2 _ _ k_s0).1
  have lt_s1 := (hH.2.2 _ _ k_s1).1
  refine hs_aload (i := 0) (p := 1) (by decide +kernel) rfl ?_
  refine hf_get (T := et_TT) (t := 12) (ci := 10) (f := 1) (p := 4) (by decide +kernel) rfl hH k_th h1 ?_
  refine hs_aload (i := 0) (p := 5) (by decide +kernel) rfl ?_
  refine hf_get (T := et_TT) (t := 12) (ci := 10) (f := 0) (p := 8) (by decide +kernel) rfl hH k_th h0 ?_
  have hH1 := hH
  refine ht_callv (T := et_TT) (t := 10) (mi := 104) (na := 1) (ci := 8) (lk := 1) (lm := 3) (L0 := eg_en (eg_mL 104) [.ref s1, .ref s0]) (by decide +kernel) rfl hH k_s1 rfl rfl rfl rfl rfl (by rw [show eg_mL 104 = 3 from by decide +kernel]; first | done | rfl) ?_
  refine ((hc_takeI (a := s1) (s := s0) hH hC.2.2.2.1 hC.2.2.2.2 hC.2.2.1 (by omega)).and (ft_take (a := s1) (s := s0) (E := F) (F := E) (g := (fun n => some (.int (Int32.ofNat (c (45 + 23 * n)))))) hH k_s1 k_s0 ht.1.2.1 ht.1.1 (fun n hn => (ht.2.1 n hn).2) (fun n hn => (ht.2.1 n hn).1) p1 p0 hz hy (fun n m hn hm => (ht.2.2 n m hn hm).2.1) (fun n m hn hm e => (ht.2.2 m n hm hn).2.2.1 e.symm) (fun n hn => ⟨fun h => absurd h (Nat.not_lt_zero n), (hv n hn).1⟩) (by omega))).mono (fun u hu => tn_cb (P := fun g9 => etk F E (fun n => some (.int (Int32.ofNat (c (45 + 23 * n))))) 3 g9) hu (fun K8 G8 x8 f8 hH hP => ?_))
  have hv : ev G8 E F c c := fun n hn => ⟨(hP n hn).2, (hP n hn).1 hn⟩
  have ht := ht.ex x8
  have k_th := x8 _ _ k_th
  have lt_th := (hH.2.2 _ _ k_th).1
  have k_s0 := x8 _ _ k_s0
  have lt_s0 := (hH.2.2 _ _ k_s0).1
  have k_s1 := x8 _ _ k_s1
  have lt_s1 := (hH.2.2 _ _ k_s1).1
  show et_go none _ 124 11 _ [] _ _ _ _
  refine hs_aload (i := 0) (p := 12) (by decide +kernel) rfl ?_
  refine hs_k (x := Int32.ofNat 1) (p := 13) (by decide +kernel) ?_
  have hH9 := hH
  refine hf_put (T := et_TT) (t := 12) (ci := 10) (f := 2) (p := 16) (ty := .boolean) (by decide +kernel) rfl rfl rfl (by decide +kernel) rfl hH k_th (hi_nv (by omega) (by omega)) (fun G13 hH x13 e13 => ?_)
  have lt_th := Nat.lt_of_lt_of_le lt_th x13.1
  have lt_s0 := Nat.lt_of_lt_of_le lt_s0 x13.1
  have lt_s1 := Nat.lt_of_lt_of_le lt_s1 x13.1
  have hv := hv.xs ht hH9 x13 (fun b h => by rw [h.1, k_th]; decide)
  refine hs_vret (by decide +kernel) ?_
  exact hv
theorem fc_backE {K : et_K} {G : eg_G} (hH : et_H et_TT K G) (hC : ci_O K G th s0 s1 ra0 ca0 rc0 ec0 cc0 ra1 ca1 rc1 ec1 cc1) (ht : eyt K sp ya yb E F) (hp : eyp G th s0 s1 sp ya yb E F) (hv : ev G E F c i) (hh : ph_at G th h) (hh1 : h ≤ 1) (hd : 3 ≤ d2) : et_go none d2 125 0 (eg_en (eg_mL 125) [.ref th]) [] G 0 0 (fun u => ev u.2.1 E F (fun k => if h = 0 then c k else i k) i) := by
  obtain ⟨d, rfl⟩ : ∃ d, d2 = d + 3 := ⟨d2 - 3, by omega⟩
  have k_th := hC.1
  have k_s0 := hC.2.2.2.1.1.1
  have k_s1 := hC.2.2.2.2.1.1
  have h0 := hC.2.1.1
  have h1 := hC.2.1.2
  have p0 := hp.1.1
  have p1 := hp.1.2.1
  have hy := fun (n : Nat) (hn : n < 3) => (hp.2 n hn).1
  have hz := fun (n : Nat) (hn : n < 3) => (hp.2 n hn).2
  have hH0 := hH
  have hh : et_pl (eg_at G th) 2 = some (.int (Int32.ofNat h)) := hh
  rw [show eg_mL 125 = 1 from by decide +kernel]
  show et_go none (d + 3) 125 0 [some (.ref th)] [] G 0 0 _
  have lt_th := (hH.2.2 _ _ k_th).1
  have lt_s0 := (hH.2.2 _ _ k_s0).1
  have lt_s1 := (hH.2.2 _ _ k_s1).1
  refine hs_aload (i := 0) (p := 1) (by decide +kernel) rfl ?_
  refine hf_get (T := et_TT) (t := 12) (ci := 10) (f := 2) (p := 4) (by decide +kernel) rfl hH k_th hh ?_
  refine hs_br1 (c := .ne) (t := 9) (f := 7) (by decide +kernel) (fun (c4 : ¬ Int32.ofNat h = 0) => ?_) (fun (c4 : ¬ (¬ Int32.ofNat h = 0)) => ?_)
  · refine hs_aload (i := 0) (p := 10) (by decide +kernel) rfl ?_
    refine ht_callv (T := et_TT) (t := 12) (mi := 120) (na := 0) (ci := 10) (lk := 1) (lm := 1) (L0 := eg_en (eg_mL 120) [.ref th]) (by decide +kernel) rfl hH k_th rfl rfl rfl rfl rfl (by rw [show eg_mL 120 = 1 from by decide +kernel]; first | done | rfl) ?_
    refine (fc_forget hH k_th).mono (fun u hu => xw_cb hu (fun G10 v10 hH x10 hP10 => ?_))
    obtain rfl := hP10
    have hC := ci_O.fr hC et_ex.rf (x10.tfr hH0 (M := [(12, 6, 7)]) (fun a t i ha h => by obtain ⟨ea, h⟩ := h; rw [ea, k_th] at ha; cases ha; simp [et_mm]; omega)) (by decide +kernel)
    have h0 := (x10.2 th 0 lt_th (fun h => absurd h.2 (by decide))).trans h0
    have h1 := (x10.2 th 1 lt_th (fun h => absurd h.2 (by decide))).trans h1
    have p0 := (x10.2 s0 6 lt_s0 (fun h => (hi_ne k_s0 k_th (by decide)) h.1)).trans p0
    have p1 := (x10.2 s1 6 lt_s1 (fun h => (hi_ne k_s1 k_th (by decide)) h.1)).trans p1
    have hh := (x10.2 th 2 lt_th (fun h => absurd h.2 (by decide))).trans hh
    have lt_th := Nat.lt_of_lt_of_le lt_th x10.1
    have lt_s0 := Nat.lt_of_lt_of_le lt_s0 x10.1
    have lt_s1 := Nat.lt_of_lt_of_le lt_s1 x10.1
    have hy := fun (n : Nat) (hn : n < 3) => (x10.2 ya n (hH0.2.2 _ _ ht.1.1).1 (fun h => hi_ne ht.1.1 k_th (by decide) h.1)).trans (hy n hn)
    have hz := fun (n : Nat) (hn : n < 3) => (x10.2 yb n (hH0.2.2 _ _ ht.1.2.1).1 (fun h => hi_ne ht.1.2.1 k_th (by decide) h.1)).trans (hz n hn)
    have hv := hv.xs ht hH0 x10 (fun b h => by rw [h.1, k_th]; decide)
    show et_go none _ 125 13 _ [] _ _ _ _
    refine hs_aload (i := 0) (p := 14) (by decide +kernel) rfl ?_
    refine hf_get (T := et_TT) (t := 12) (ci := 10) (f := 0) (p := 17) (by decide +kernel) rfl hH k_th h0 ?_
    refine hs_aload (i := 0) (p := 18) (by decide +kernel) rfl ?_
    refine hf_get (T := et_TT) (t := 12) (ci := 10) (f := 1) (p := 21) (by decide +kernel) rfl hH k_th h1 ?_
    have hH1 := hH
    refine ht_callv (T := et_TT) (t := 10) (mi := 104) (na := 1) (ci := 8) (lk := 1) (lm := 3) (L0 := eg_en (eg_mL 104) [.ref s0, .ref s1]) (by decide +kernel) rfl hH k_s0 rfl rfl rfl rfl rfl (by rw [show eg_mL 104 = 3 from by decide +kernel]; first | done | rfl) ?_
    refine ((hc_takeI (a := s0) (s := s1) hH hC.2.2.2.2 hC.2.2.2.1 ⟨fun e => hC.2.2.1.1 e.symm, fun e => hC.2.2.1.2.1 e.symm, fun e => hC.2.2.1.2.2 e.symm⟩ (by omega)).and (ft_take (a := s0) (s := s1) (E := E) (F := F) (g := (fun n => some (.int (Int32.ofNat (i (45 + 23 * n)))))) hH k_s0 k_s1 ht.1.1 ht.1.2.1 (fun n hn => (ht.2.1 n hn).1) (fun n hn => (ht.2.1 n hn).2) p0 p1 hy hz (fun n m hn hm => (ht.2.2 n m hn hm).1) (fun n m hn hm => (ht.2.2 n m hn hm).2.2.1) (fun n hn => ⟨fun h => absurd h (Nat.not_lt_zero n), (hv n hn).2⟩) (by omega))).mono (fun u hu => tn_cb (P := fun g9 => etk E F (fun n => some (.int (Int32.ofNat (i (45 + 23 * n))))) 3 g9) hu (fun K21 G21 x21 f21 hH hP => ?_))
    have hv : ev G21 E F i i := fun n hn => ⟨(hP n hn).1 hn, (hP n hn).2⟩
    have ht := ht.ex x21
    have k_th := x21 _ _ k_th
    have lt_th := (hH.2.2 _ _ k_th).1
    have k_s0 := x21 _ _ k_s0
    have lt_s0 := (hH.2.2 _ _ k_s0).1
    have k_s1 := x21 _ _ k_s1
    have lt_s1 := (hH.2.2 _ _ k_s1).1
    show et_go none _ 125 24 _ [] _ _ _ _
    refine hs_k (x := Int32.ofNat 1) (p := 25) (by decide +kernel) ?_
    refine hs_zret (by decide +kernel) (.inr rfl) ?_
    exact hv.co (fun n _ => if_neg (by have := hi_b1 hh1 c4; omega)) (fun _ _ => rfl)
  · refine hs_k (x := Int32.ofNat 0) (p := 8) (by decide +kernel) ?_
    refine hs_zret (by decide +kernel) (.inl rfl) ?_
    exact hv.co (fun n _ => if_pos (hi_b0 hh1 c4)) (fun _ _ => rfl)
end UDA
end
section
/-! FUNCTIONAL: the reference's eye, wire: the numbers of WIRES; both sides -/
def vz (G : eg_G) (aw : Nat) (c : Nat → Nat) : Prop := ∀ k, k < 3 → et_pl (eg_at G aw) (45 + 23 * k) = some (.int (Int32.ofNat (c (45 + 23 * k))))
theorem vz.xs {S : Nat → Nat → Prop} {G G' : eg_G} {aw : Nat} {c : Nat → Nat} (h : vz G aw c) (lt : aw < G.2) (x : xf S G G') (hs : ∀ k, k < 3 → ¬ S aw (45 + 23 * k)) : vz G' aw c := fun k hk => (x.2 aw _ lt (hs k hk)).trans (h k hk)
theorem vz.st {G G' : eg_G} {aw p n v : Nat} {c : Nat → Nat} (h : vz G aw c) (lt : aw < G.2) (x : xf (fun b j => b = aw ∧ j = p) G G') (w : et_pl (eg_at G' aw) p = some (.int (Int32.ofNat v))) (hp : p = 45 + 23 * n) : vz G' aw (rc_up c (45 + 23 * n) v) := fun k hk => by
  by_cases e : k = n
  · rw [e, show rc_up c (45 + 23 * n) v (45 + 23 * n) = v from if_pos rfl, ← hp]
    exact w
  · rw [show rc_up c (45 + 23 * n) v (45 + 23 * k) = c (45 + 23 * k) from if_neg (by omega)]
    exact (x.2 aw _ lt (fun h => by have h := h.2; omega)).trans (h k hk)
/-- a place of EYE e is set to 0, whose number of WIRES is 0 -/
theorem vz.s0 {G G' : eg_G} {aw p e i : Nat} {c : Nat → Nat} (h : vz G aw c) (lt : aw < G.2) (x : xf (fun b j => b = aw ∧ j = p) G G') (w : et_pl (eg_at G' aw) p = some (.int (Int32.ofNat 0))) (hp : p = 45 + 23 * e + i) (hi : i < 23) (hc : c (45 + 23 * e) = 0) : vz G' aw c := fun k hk => by
  by_cases ek : 45 + 23 * k = p
  · have e2 : k = e := by omega
    rw [ek, w, ← ek, e2, hc]
  · exact (x.2 aw _ lt (fun h => ek h.2)).trans (h k hk)
def vz_k (M : et_M) (t : Nat) : Bool := !et_mm M t 45 && (!et_mm M t 68 && !et_mm M t 91)
theorem vz.fr {K : et_K} {G G' : eg_G} {M : et_M} {aw t : Nat} {c : Nat → Nat} (h : vz G aw c) (ha : K aw = some t) (hf : et_fr M K G G') (hk : vz_k M t = true) : vz G' aw c := fun k hk2 => by
  unfold vz_k at hk
  rw [Bool.and_eq_true, Bool.and_eq_true] at hk
  obtain ⟨k1, k2, k3⟩ := hk
  refine (hf.2 aw t ha _ ?_).trans (h k hk2)
  match k, hk2 with
  | 0, _ => simpa using k1
  | 1, _ => simpa using k2
  | 2, _ => simpa using k3
/-- both sides have the same numbers of WIRES; EYES that are not there yet have none -/
def yw (K : et_K) (G : eg_G) (th s0 s1 aw ai e ei : Nat) : Prop := ∃ (sp ya yb : Nat) (E F cw iw : Nat → Nat), eyt K sp ya yb E F ∧ eyp G th s0 s1 sp ya yb E F ∧ ev G E F cw iw ∧ (vz G aw cw ∧ vz G ai iw) ∧ ((∀ k, cw k ≤ 400) ∧ ∀ k, iw k ≤ 400) ∧ (∀ k, k < 3 → e ≤ k → cw (45 + 23 * k) = 0) ∧ ∀ k, k < 3 → ei ≤ k → iw (45 + 23 * k) = 0
def yw_k (M : et_M) : Bool := eyp_k M && (!et_mm M 3 0 && (vz_k M 46 && vz_k M 47))
theorem yw.fr {K K' : et_K} {G G' : eg_G} {M : et_M} {th s0 s1 aw ai e ei : Nat} (h : yw K G th s0 s1 aw ai e ei) (k_th : K th = some 12) (k_s0 : K s0 = some 10) (k_s1 : K s1 = some 10) (k_aw : K aw = some 46) (k_ai : K ai = some 47) (hx : et_ex K K') (hf : et_fr M K G G') (hk : yw_k M = true) : yw K' G' th s0 s1 aw ai e ei := by
  unfold yw_k at hk
  rw [Bool.and_eq_true, Bool.and_eq_true, Bool.and_eq_true] at hk
  obtain ⟨k1, k2, k3, k4⟩ := hk
  obtain ⟨sp, ya, yb, E, F, cw, iw, h1, h2, h3, ⟨h4, h5⟩, h6⟩ := h
  exact ⟨sp, ya, yb, E, F, cw, iw, h1.ex hx, h2.fr h1 k_th k_s0 k_s1 hf k1, h3.fr h1 hf (by simpa using k2), ⟨h4.fr k_aw hf k3, h5.fr k_ai hf k4⟩, h6⟩
section UEA
variable {K : et_K} {G G0 : eg_G} {d2 d am aw e n m i : Nat} {x y z : Int32} {c : Nat → Nat}
theorem fm_eyeVL {i : Nat} {K : et_K} {G : eg_G} (hH : et_H et_TT K G) (k_am : K am = some 13) (k_aw : K aw = some 46) (m1 : et_pl (eg_at G am) 1 = some (.ref aw)) (he : e < 3) (hz : vz G aw c) (hc0 : e < 3 → c (45 + 23 * e) = 0) (hi : i ≤ 23) : et_go none d 222 49 [some (.ref am), some (.int (Int32.ofNat e)), some (.int (Int32.ofNat i))] [] G 0 0 (fun u => vz u.2.1 aw c) := by
  induction hm : 23 - i using Nat.strongRecOn generalizing i G with
  | _ z ih =>
    have lt_am := (hH.2.2 _ _ k_am).1
    have lt_aw := (hH.2.2 _ _ k_aw).1
    refine hs_iload (i := 2) (p := 50) (by decide +kernel) rfl ?_
    refine hs_k (x := Int32.ofNat 23) (p := 52) (by decide +kernel) ?_
    refine hs_br2n (c := .ge) (t := 76) (f := 55) (by decide +kernel) (by omega) (by omega) (fun (c52 : 23 ≤ i) => ?_) (fun (c52 : ¬ (23 ≤ i)) => ?_)
    · refine hs_iload (i := 1) (p := 77) (by decide +kernel) rfl ?_
      refine hs_iret (by decide +kernel) ?_
      exact hz
    · refine hs_aload (i := 0) (p := 56) (by decide +kernel) rfl ?_
      refine hf_get (T := et_TT) (t := 13) (ci := 11) (f := 1) (p := 59) (by decide +kernel) rfl hH k_am m1 ?_
      refine hs_k (x := Int32.ofNat 45) (p := 61) (by decide +kernel) ?_
      refine hs_k (x := Int32.ofNat 23) (p := 63) (by decide +kernel) ?_
      refine hs_iload (i := 1) (p := 64) (by decide +kernel) rfl ?_
      refine hs_imuln (p := 65) (by decide +kernel) ?_
      refine hs_iaddn (p := 66) (by decide +kernel) ?_
      refine hs_iload (i := 2) (p := 67) (by decide +kernel) rfl ?_
      refine hs_iaddn (p := 68) (by decide +kernel) ?_
      refine hs_k (x := Int32.ofNat 0) (p := 69) (by decide +kernel) ?_
      refine hf_wst (p := 70) (by decide +kernel) hH k_aw (by omega) hf_w0 (fun G69 hH x69 e69 => ?_)
      have hz := hz.s0 (e := e) (i := i) lt_aw x69 e69 (by omega) (by omega) (hc0 he)
      have m1 := (x69.2 am 1 lt_am (fun h => (hi_ne k_am k_aw (by decide)) h.1)).trans m1
      have lt_am := Nat.lt_of_lt_of_le lt_am x69.1
      have lt_aw := Nat.lt_of_lt_of_le lt_aw x69.1
      refine hs_iinc1 (i := 2) (p := 73) (by decide +kernel) rfl (Nat.le_of_ble_eq_true rfl) ?_
      refine hs_goto (p := 49) (by decide +kernel) ?_
      show et_go none d 222 49 [some (.ref am), some (.int (Int32.ofNat e)), some (.int (Int32.ofNat (i + 1)))] [] _ _ _ _
      exact ih (23 - (i + 1)) (by omega) hH m1 hz (by omega) rfl
theorem fm_eyeV (hH : et_H et_TT K G) (k_am : K am = some 13) (k_aw : K aw = some 46) (m1 : et_pl (eg_at G am) 1 = some (.ref aw)) (w4 : et_pl (eg_at G aw) 4 = some (.int (Int32.ofNat e))) (he : e ≤ 3) (hz : vz G aw c) (hc0 : e < 3 → c (45 + 23 * e) = 0) (hd : 1 ≤ d2) : et_go none d2 222 0 (eg_en (eg_mL 222) [.ref am]) [] G 0 0 (fun u => vz u.2.1 aw c) := by
  obtain ⟨d, rfl⟩ : ∃ d, d2 = d + 1 := ⟨d2 - 1, by omega⟩
  rw [show eg_mL 222 = 3 from by decide +kernel]
  show et_go none (d + 1) 222 0 [some (.ref am), none, none] [] G 0 0 _
  have lt_am := (hH.2.2 _ _ k_am).1
  have lt_aw := (hH.2.2 _ _ k_aw).1
  refine hs_aload (i := 0) (p := 1) (by decide +kernel) rfl ?_
  refine hs_k (x := Int32.ofNat 0) (p := 2) (by decide +kernel) ?_
  refine hf_put (T := et_TT) (t := 13) (ci := 11) (f := 0) (p := 5) (ty := .int) (by decide +kernel) rfl rfl rfl rfl rfl hH k_am hi_any (fun G2 hH x2 e2 => ?_)
  have hz := hz.xs lt_aw x2 (fun k hk h => hi_ne k_aw k_am (by decide) h.1)
  have m1 := (x2.2 am 1 lt_am (fun h => absurd h.2 (by decide))).trans m1
  have w4 := (x2.2 aw 4 lt_aw (fun h => (hi_ne k_aw k_am (by decide)) h.1)).trans w4
  have lt_am := Nat.lt_of_lt_of_le lt_am x2.1
  have lt_aw := Nat.lt_of_lt_of_le lt_aw x2.1
  refine hs_aload (i := 0) (p := 6) (by decide +kernel) rfl ?_
  refine hs_aload (i := 0) (p := 7) (by decide +kernel) rfl ?_
  refine hf_get (T := et_TT) (t := 13) (ci := 11) (f := 1) (p := 10) (by decide +kernel) rfl hH k_am m1 ?_
  refine hs_k (x := Int32.ofNat 4) (p := 11) (by decide +kernel) ?_
  refine hf_ald (ins := .iaload) (T := et_TT) (t := 46) (kd := 0) (N := 12741) (p := 12) (by decide +kernel) (fun _ _ _ _ _ _ _ _ _ _ => rfl) rfl rfl rfl hH k_aw (by decide) w4 ?_
  refine hs_k (x := Int32.ofNat 3) (p := 13) (by decide +kernel) ?_
  refine hs_br2n (c := .ne) (t := 20) (f := 16) (by decide +kernel) (by omega) (by omega) (fun (c13 : ¬ e = 3) => ?_) (fun (c13 : ¬ (¬ e = 3)) => ?_)
  · refine hs_k (x := Int32.ofNat 0) (p := 21) (by decide +kernel) ?_
    refine hs_k (x := Int32.ofNat 1) (p := 22) (by decide +kernel) ?_
    refine ht_callv (T := et_TT) (t := 13) (mi := 204) (na := 2) (ci := 11) (lk := 3) (lm := 3) (L0 := eg_en (eg_mL 204) [.ref am, .int (Int32.ofNat 0), .int (Int32.ofNat 1)]) (by decide +kernel) rfl hH k_am rfl rfl rfl rfl rfl (by rw [show eg_mL 204 = 3 from by decide +kernel]; first | done | rfl) ?_
    refine (fm_t0 hH k_am).mono (fun u hu => xp_cb hu ?_)
    show et_go none _ 222 25 _ [.int (Int32.ofNat 0)] _ _ _ _
    refine hs_if1 (c := .eq) (t := 30) (f := 28) (by decide +kernel) (show Int32.ofNat 0 = 0 by decide) ?_
    refine hs_aload (i := 0) (p := 31) (by decide +kernel) rfl ?_
    refine hf_get (T := et_TT) (t := 13) (ci := 11) (f := 1) (p := 34) (by decide +kernel) rfl hH k_am m1 ?_
    refine hs_k (x := Int32.ofNat 4) (p := 35) (by decide +kernel) ?_
    refine hf_ald (ins := .iaload) (T := et_TT) (t := 46) (kd := 0) (N := 12741) (p := 36) (by decide +kernel) (fun _ _ _ _ _ _ _ _ _ _ => rfl) rfl rfl rfl hH k_aw (by decide) w4 ?_
    refine hs_istore (i := 1) (p := 37) (by decide +kernel) (Nat.le_of_ble_eq_true rfl) ?_
    refine hs_aload (i := 0) (p := 38) (by decide +kernel) rfl ?_
    refine hf_get (T := et_TT) (t := 13) (ci := 11) (f := 1) (p := 41) (by decide +kernel) rfl hH k_am m1 ?_
    refine hs_k (x := Int32.ofNat 4) (p := 42) (by decide +kernel) ?_
    refine hs_dup2 (p := 43) (by decide +kernel) ?_
    refine hf_ald (ins := .iaload) (T := et_TT) (t := 46) (kd := 0) (N := 12741) (p := 44) (by decide +kernel) (fun _ _ _ _ _ _ _ _ _ _ => rfl) rfl rfl rfl hH k_aw (by decide) w4 ?_
    refine hs_k (x := Int32.ofNat 1) (p := 45) (by decide +kernel) ?_
    refine hs_iaddn (p := 46) (by decide +kernel) ?_
    refine hf_wst (p := 47) (by decide +kernel) hH k_aw (by omega) (hf_wk (p := .inl (0, 3)) (by decide +kernel) (hi_nv (by omega) (by omega))) (fun G46 hH x46 e46 => ?_)
    have hz := hz.xs lt_aw x46 (fun k hk h => by have h := h.2; omega)
    have m1 := (x46.2 am 1 lt_am (fun h => (hi_ne k_am k_aw (by decide)) h.1)).trans m1
    have e2 := (x46.2 am 0 lt_am (fun h => (hi_ne k_am k_aw (by decide)) h.1)).trans e2
    have lt_am := Nat.lt_of_lt_of_le lt_am x46.1
    have lt_aw := Nat.lt_of_lt_of_le lt_aw x46.1
    refine hs_k (x := Int32.ofNat 0) (p := 48) (by decide +kernel) ?_
    refine hs_istore (i := 2) (p := 49) (by decide +kernel) (Nat.le_of_ble_eq_true rfl) ?_
    show et_go none _ 222 49 [some (.ref am), some (.int (Int32.ofNat e)), some (.int (Int32.ofNat 0))] [] _ _ _ _
    exact fm_eyeVL hH k_am k_aw m1 (by omega) hz hc0 (by omega)
  · refine hs_k (x := Int32.ofNat 1) (p := 17) (by decide +kernel) ?_
    refine hs_goto (p := 21) (by decide +kernel) ?_
    refine hs_k (x := Int32.ofNat 1) (p := 22) (by decide +kernel) ?_
    refine ht_callv (T := et_TT) (t := 13) (mi := 204) (na := 2) (ci := 11) (lk := 3) (lm := 3) (L0 := eg_en (eg_mL 204) [.ref am, .int (Int32.ofNat 1), .int (Int32.ofNat 1)]) (by decide +kernel) rfl hH k_am rfl rfl rfl rfl rfl (by rw [show eg_mL 204 = 3 from by decide +kernel]; first | done | rfl) ?_
    refine (fm_t1 hH k_am).mono (fun u hu => xw_cb hu (fun G22 v22 hH x22 hP22 => ?_))
    have hz := hz.xs lt_aw x22 (fun k hk h => hi_ne k_aw k_am (by decide) h.1)
    have m1 := (x22.2 am 1 lt_am (fun h => absurd h.2 (by decide))).trans m1
    have w4 := (x22.2 aw 4 lt_aw (fun h => (hi_ne k_aw k_am (by decide)) h.1)).trans w4
    have lt_am := Nat.lt_of_lt_of_le lt_am x22.1
    have lt_aw := Nat.lt_of_lt_of_le lt_aw x22.1
    obtain ⟨rfl, th22⟩ := hP22
    show et_go none _ 222 25 _ [.int (Int32.ofNat 1)] _ _ _ _
    refine hs_if0 (c := .eq) (t := 30) (f := 28) (by decide +kernel) (show ¬ (Int32.ofNat 1 = 0) by decide) ?_
    refine hs_k (x := Int32.ofNat 0) (p := 29) (by decide +kernel) ?_
    refine hs_iret (by decide +kernel) ?_
    exact hz
theorem fm_nEy (hH : et_H et_TT K G) (k_am : K am = some 13) (k_aw : K aw = some 46) (m1 : et_pl (eg_at G am) 1 = some (.ref aw)) (w4 : et_pl (eg_at G aw) 4 = some (.int (Int32.ofNat e))) (he : e ≤ 3) (hn : n < e) (hd : 1 ≤ d2) : et_go none d2 208 0 (eg_en (eg_mL 208) [.ref am, .int (Int32.ofNat n)]) [] G 0 0 (xp_Z G (some (.int (Int32.ofNat 0)))) := by
  have h := fm_nE (x := Int32.ofNat n) hH k_am k_aw m1 w4 he hd
  rw [if_pos (by rw [hs_nint (by omega)]; omega)] at h
  exact h
theorem fm_nEn (hH : et_H et_TT K G) (k_am : K am = some 13) (k_aw : K aw = some 46) (m1 : et_pl (eg_at G am) 1 = some (.ref aw)) (w4 : et_pl (eg_at G aw) 4 = some (.int (Int32.ofNat e))) (he : e ≤ 3) (hx : ¬ xr x e) (hd : 1 ≤ d2) : et_go none d2 208 0 (eg_en (eg_mL 208) [.ref am, .int x]) [] G 0 0 (xp_Z G (some (.int (Int32.ofNat 1)))) := by
  have h := fm_nE (x := x) hH k_am k_aw m1 w4 he hd
  rw [if_neg (show ¬ (0 ≤ x.toInt ∧ x.toInt < (e : Int)) from hx)] at h
  exact h
theorem fm_of0 (hH : et_H et_TT K G) (k_am : K am = some 13) (k_aw : K aw = some 46) (m1 : et_pl (eg_at G am) 1 = some (.ref aw)) (wv : et_pl (eg_at G aw) (45 + 23 * n) = some (.int (Int32.ofNat m))) : et_go none d2 225 0 (eg_en (eg_mL 225) [.ref am, .int (Int32.ofNat n), .int (Int32.ofNat 0)]) [] G 0 0 (xp_Z G (some (.int (Int32.ofNat m)))) := by
  rw [show eg_mL 225 = 3 from by decide +kernel]
  show et_go none d2 225 0 [some (.ref am), some (.int (Int32.ofNat n)), some (.int (Int32.ofNat 0))] [] G 0 0 _
  have lt_am := (hH.2.2 _ _ k_am).1
  have lt_aw := (hH.2.2 _ _ k_aw).1
  refine hs_aload (i := 0) (p := 1) (by decide +kernel) rfl ?_
  refine hf_get (T := et_TT) (t := 13) (ci := 11) (f := 1) (p := 4) (by decide +kernel) rfl hH k_am m1 ?_
  refine hs_k (x := Int32.ofNat 45) (p := 6) (by decide +kernel) ?_
  refine hs_k (x := Int32.ofNat 23) (p := 8) (by decide +kernel) ?_
  refine hs_iload (i := 1) (p := 9) (by decide +kernel) rfl ?_
  refine hs_imuln (p := 10) (by decide +kernel) ?_
  refine hs_iaddn (p := 11) (by decide +kernel) ?_
  refine hs_iload (i := 2) (p := 12) (by decide +kernel) rfl ?_
  refine hs_iaddn (p := 13) (by decide +kernel) ?_
  refine hf_ald (ins := .iaload) (T := et_TT) (t := 46) (kd := 0) (N := 12741) (p := 14) (by decide +kernel) (fun _ _ _ _ _ _ _ _ _ _ => rfl) rfl rfl rfl hH k_aw (by decide) (pl_eq wv (by omega)) ?_
  refine hs_iret (by decide +kernel) ?_
  rfl
theorem fm_wires (hH : et_H et_TT K G) (k_am : K am = some 13) (k_aw : K aw = some 46) (m1 : et_pl (eg_at G am) 1 = some (.ref aw)) (wv : et_pl (eg_at G aw) (45 + 23 * n) = some (.int (Int32.ofNat m))) (hd : 1 ≤ d2) : et_go none d2 224 0 (eg_en (eg_mL 224) [.ref am, .int (Int32.ofNat n)]) [] G 0 0 (xp_Z G (some (.int (Int32.ofNat m)))) := by
  obtain ⟨d, rfl⟩ : ∃ d, d2 = d + 1 := ⟨d2 - 1, by omega⟩
  rw [show eg_mL 224 = 2 from by decide +kernel]
  show et_go none (d + 1) 224 0 [some (.ref am), some (.int (Int32.ofNat n))] [] G 0 0 _
  have lt_am := (hH.2.2 _ _ k_am).1
  have lt_aw := (hH.2.2 _ _ k_aw).1
  refine hs_aload (i := 0) (p := 1) (by decide +kernel) rfl ?_
  refine hs_iload (i := 1) (p := 2) (by decide +kernel) rfl ?_
  refine hs_k (x := Int32.ofNat 0) (p := 3) (by decide +kernel) ?_
  refine ht_callv (T := et_TT) (t := 13) (mi := 225) (na := 2) (ci := 11) (lk := 2) (lm := 3) (L0 := eg_en (eg_mL 225) [.ref am, .int (Int32.ofNat n), .int (Int32.ofNat 0)]) (by decide +kernel) rfl hH k_am rfl rfl rfl rfl rfl (by rw [show eg_mL 225 = 3 from by decide +kernel]; first | done | rfl) ?_
  refine (fm_of0 hH k_am k_aw m1 wv).mono (fun u hu => xp_cb hu ?_)
  show et_go none _ 224 6 _ [.int (Int32.ofNat m)] _ _ _ _
  refine hs_iret (by decide +kernel) ?_
  rfl
theorem fm_wireAt {q : Nat} : et_go none d2 226 0 (eg_en (eg_mL 226) [.int (Int32.ofNat n), .int (Int32.ofNat m), .int (Int32.ofNat q)]) [] G 0 0 (xp_Z G (some (.int (Int32.ofNat (45 + 23 * n + (1 + 3 * m + q)))))) := by
  rw [show eg_mL 226 = 3 from by decide +kernel]
  show et_go none d2 226 0 [some (.int (Int32.ofNat n)), some (.int (Int32.ofNat m)), some (.int (Int32.ofNat q))] [] G 0 0 _
  refine hs_k (x := Int32.ofNat 45) (p := 2) (by decide +kernel) ?_
  refine hs_k (x := Int32.ofNat 23) (p := 4) (by decide +kernel) ?_
  refine hs_iload (i := 0) (p := 5) (by decide +kernel) rfl ?_
  refine hs_imuln (p := 6) (by decide +kernel) ?_
  refine hs_iaddn (p := 7) (by decide +kernel) ?_
  refine hs_k (x := Int32.ofNat 1) (p := 8) (by decide +kernel) ?_
  refine hs_iaddn (p := 9) (by decide +kernel) ?_
  refine hs_k (x := Int32.ofNat 3) (p := 10) (by decide +kernel) ?_
  refine hs_iload (i := 1) (p := 11) (by decide +kernel) rfl ?_
  refine hs_imuln (p := 12) (by decide +kernel) ?_
  refine hs_iaddn (p := 13) (by decide +kernel) ?_
  refine hs_iload (i := 2) (p := 14) (by decide +kernel) rfl ?_
  refine hs_iaddn (p := 15) (by decide +kernel) ?_
  refine hs_iret (by decide +kernel) ?_
  rw [show ((((45 + (23 * n)) + 1) + (3 * m)) + q) = 45 + 23 * n + (1 + 3 * m + q) from by omega]
  rfl
theorem fm_wire (hH : et_H et_TT K G) (k_am : K am = some 13) (k_aw : K aw = some 46) (m1 : et_pl (eg_at G am) 1 = some (.ref aw)) (w4 : et_pl (eg_at G aw) 4 = some (.int (Int32.ofNat e))) (he : e ≤ 3) (hz : vz G aw c) (hn : n < e) (hm : c (45 + 23 * n) = m) (hm6 : m ≤ 6) (hd : 3 ≤ d2) : et_go none d2 223 0 (eg_en (eg_mL 223) [.ref am, .int (Int32.ofNat n), .int y, .int z]) [] G 0 0 (fun u => ((¬ (0 < y.toInt ∧ y.toInt < 65536 ∧ 0 ≤ z.toInt ∧ z.toInt ≤ 2) ∧ u.1 = .inl (some (.int (Int32.ofNat 0))) ∧ et_pl (eg_at u.2.1 am) 0 = some (.int (Int32.ofNat 2)) ∧ vz u.2.1 aw c) ∨ ((0 < y.toInt ∧ y.toInt < 65536 ∧ 0 ≤ z.toInt ∧ z.toInt ≤ 2) ∧ m = 6 ∧ u.1 = .inl (some (.int (Int32.ofNat 0))) ∧ et_pl (eg_at u.2.1 am) 0 = some (.int (Int32.ofNat 3)) ∧ vz u.2.1 aw c) ∨ ((0 < y.toInt ∧ y.toInt < 65536 ∧ 0 ≤ z.toInt ∧ z.toInt ≤ 2) ∧ m < 6 ∧ u.1 = .inl (some (.int (Int32.ofNat m))) ∧ et_pl (eg_at u.2.1 am) 0 = some (.int (Int32.ofNat 0)) ∧ vz u.2.1 aw (rc_up c (45 + 23 * n) (m + 1))))) := by
  obtain ⟨d, rfl⟩ : ∃ d, d2 = d + 3 := ⟨d2 - 3, by omega⟩
  have wv : et_pl (eg_at G aw) (45 + 23 * n) = some (.int (Int32.ofNat m)) := by rw [← hm]; exact hz n (by omega)
  have o1 : (Int32.ofNat 1).toInt = 1 := rfl
  have o6 : (65535 : Int32).toInt = 65535 := rfl
  have o0 : (Int32.ofNat 0).toInt = 0 := rfl
  have o2 : (Int32.ofNat 2).toInt = 2 := rfl
  rw [show eg_mL 223 = 5 from by decide +kernel]
  show et_go none (d + 3) 223 0 [some (.ref am), some (.int (Int32.ofNat n)), some (.int y), some (.int z), none] [] G 0 0 _
  have lt_am := (hH.2.2 _ _ k_am).1
  have lt_aw := (hH.2.2 _ _ k_aw).1
  refine hs_aload (i := 0) (p := 1) (by decide +kernel) rfl ?_
  refine hs_k (x := Int32.ofNat 0) (p := 2) (by decide +kernel) ?_
  refine hf_put (T := et_TT) (t := 13) (ci := 11) (f := 0) (p := 5) (ty := .int) (by decide +kernel) rfl rfl rfl rfl rfl hH k_am hi_any (fun G2 hH x2 e2 => ?_)
  have hz := hz.xs lt_aw x2 (fun k hk h => hi_ne k_aw k_am (by decide) h.1)
  have m1 := (x2.2 am 1 lt_am (fun h => absurd h.2 (by decide))).trans m1
  have w4 := (x2.2 aw 4 lt_aw (fun h => (hi_ne k_aw k_am (by decide)) h.1)).trans w4
  have wv := (x2.2 aw (45 + 23 * n) lt_aw (fun h => (hi_ne k_aw k_am (by decide)) h.1)).trans wv
  have lt_am := Nat.lt_of_lt_of_le lt_am x2.1
  have lt_aw := Nat.lt_of_lt_of_le lt_aw x2.1
  refine hs_aload (i := 0) (p := 6) (by decide +kernel) rfl ?_
  refine hs_aload (i := 0) (p := 7) (by decide +kernel) rfl ?_
  refine hs_iload (i := 1) (p := 8) (by decide +kernel) rfl ?_
  refine ht_callv (T := et_TT) (t := 13) (mi := 208) (na := 1) (ci := 11) (lk := 5) (lm := 2) (L0 := eg_en (eg_mL 208) [.ref am, .int (Int32.ofNat n)]) (by decide +kernel) rfl hH k_am rfl rfl rfl rfl rfl (by rw [show eg_mL 208 = 2 from by decide +kernel]; first | done | rfl) ?_
  refine (fm_nEy hH k_am k_aw m1 w4 he hn (by omega)).mono (fun u hu => xp_cb hu ?_)
  show et_go none _ 223 11 _ [.int (Int32.ofNat 0), .ref am] _ _ _ _
  refine hs_k (x := Int32.ofNat 1) (p := 12) (by decide +kernel) ?_
  refine ht_callv (T := et_TT) (t := 13) (mi := 204) (na := 2) (ci := 11) (lk := 5) (lm := 3) (L0 := eg_en (eg_mL 204) [.ref am, .int (Int32.ofNat 0), .int (Int32.ofNat 1)]) (by decide +kernel) rfl hH k_am rfl rfl rfl rfl rfl (by rw [show eg_mL 204 = 3 from by decide +kernel]; first | done | rfl) ?_
  refine (fm_t0 hH k_am).mono (fun u hu => xp_cb hu ?_)
  show et_go none _ 223 15 _ [.int (Int32.ofNat 0)] _ _ _ _
  refine hs_if0 (c := .ne) (t := 73) (f := 18) (by decide +kernel) (show ¬ (¬ Int32.ofNat 0 = 0) by decide) ?_
  refine hs_aload (i := 0) (p := 19) (by decide +kernel) rfl ?_
  refine hs_iload (i := 2) (p := 20) (by decide +kernel) rfl ?_
  refine hs_k (x := Int32.ofNat 1) (p := 21) (by decide +kernel) ?_
  refine hs_kld (v := .int 65535) (p := 23) (by decide +kernel) ?_
  refine hs_calls (mi := 209) (na := 3) (lk := 5) (lm := 3) (L0 := eg_en (eg_mL 209) [.int y, .int (Int32.ofNat 1), .int 65535]) (by decide +kernel) rfl rfl rfl rfl rfl rfl (by rw [show eg_mL 209 = 3 from by decide +kernel]; first | done | rfl) ?_
  refine (fm_in (x := y) (y := Int32.ofNat 1) (z := 65535)).mono (fun u hu => xp_cb hu ?_)
  by_cases xy : (Int32.ofNat 1).toInt ≤ y.toInt ∧ y.toInt ≤ (65535 : Int32).toInt
  · rw [if_pos xy]
    show et_go none _ 223 26 _ [.int (Int32.ofNat 1), .ref am] _ _ _ _
    refine hs_if0 (c := .eq) (t := 38) (f := 29) (by decide +kernel) (show ¬ (Int32.ofNat 1 = 0) by decide) ?_
    refine hs_iload (i := 3) (p := 30) (by decide +kernel) rfl ?_
    refine hs_k (x := Int32.ofNat 0) (p := 31) (by decide +kernel) ?_
    refine hs_k (x := Int32.ofNat 2) (p := 32) (by decide +kernel) ?_
    refine hs_calls (mi := 209) (na := 3) (lk := 5) (lm := 3) (L0 := eg_en (eg_mL 209) [.int z, .int (Int32.ofNat 0), .int (Int32.ofNat 2)]) (by decide +kernel) rfl rfl rfl rfl rfl rfl (by rw [show eg_mL 209 = 3 from by decide +kernel]; first | done | rfl) ?_
    refine (fm_in (x := z) (y := Int32.ofNat 0) (z := Int32.ofNat 2)).mono (fun u hu => xp_cb hu ?_)
    by_cases xz : (Int32.ofNat 0).toInt ≤ z.toInt ∧ z.toInt ≤ (Int32.ofNat 2).toInt
    · rw [if_pos xz]
      show et_go none _ 223 35 _ [.int (Int32.ofNat 1), .ref am] _ _ _ _
      refine hs_if1 (c := .ne) (t := 42) (f := 38) (by decide +kernel) (show ¬ Int32.ofNat 1 = 0 by decide) ?_
      refine hs_k (x := Int32.ofNat 0) (p := 43) (by decide +kernel) ?_
      refine hs_k (x := Int32.ofNat 2) (p := 44) (by decide +kernel) ?_
      refine ht_callv (T := et_TT) (t := 13) (mi := 204) (na := 2) (ci := 11) (lk := 5) (lm := 3) (L0 := eg_en (eg_mL 204) [.ref am, .int (Int32.ofNat 0), .int (Int32.ofNat 2)]) (by decide +kernel) rfl hH k_am rfl rfl rfl rfl rfl (by rw [show eg_mL 204 = 3 from by decide +kernel]; first | done | rfl) ?_
      refine (fm_t0 hH k_am).mono (fun u hu => xp_cb hu ?_)
      show et_go none _ 223 47 _ [.int (Int32.ofNat 0)] _ _ _ _
      refine hs_if0 (c := .ne) (t := 73) (f := 50) (by decide +kernel) (show ¬ (¬ Int32.ofNat 0 = 0) by decide) ?_
      refine hs_aload (i := 0) (p := 51) (by decide +kernel) rfl ?_
      refine hs_aload (i := 0) (p := 52) (by decide +kernel) rfl ?_
      refine hs_iload (i := 1) (p := 53) (by decide +kernel) rfl ?_
      refine ht_callv (T := et_TT) (t := 13) (mi := 224) (na := 1) (ci := 11) (lk := 5) (lm := 2) (L0 := eg_en (eg_mL 224) [.ref am, .int (Int32.ofNat n)]) (by decide +kernel) rfl hH k_am rfl rfl rfl rfl rfl (by rw [show eg_mL 224 = 2 from by decide +kernel]; first | done | rfl) ?_
      refine (fm_wires hH k_am k_aw m1 wv (by omega)).mono (fun u hu => xp_cb hu ?_)
      show et_go none _ 223 56 _ [.int (Int32.ofNat m), .ref am] _ _ _ _
      refine hs_k (x := Int32.ofNat 6) (p := 58) (by decide +kernel) ?_
      refine hs_br2n (c := .ne) (t := 65) (f := 61) (by decide +kernel) (by omega) (by omega) (fun (c58 : ¬ m = 6) => ?_) (fun (c58 : ¬ (¬ m = 6)) => ?_)
      · refine hs_k (x := Int32.ofNat 0) (p := 66) (by decide +kernel) ?_
        refine hs_k (x := Int32.ofNat 3) (p := 67) (by decide +kernel) ?_
        refine ht_callv (T := et_TT) (t := 13) (mi := 204) (na := 2) (ci := 11) (lk := 5) (lm := 3) (L0 := eg_en (eg_mL 204) [.ref am, .int (Int32.ofNat 0), .int (Int32.ofNat 3)]) (by decide +kernel) rfl hH k_am rfl rfl rfl rfl rfl (by rw [show eg_mL 204 = 3 from by decide +kernel]; first | done | rfl) ?_
        refine (fm_t0 hH k_am).mono (fun u hu => xp_cb hu ?_)
        show et_go none _ 223 70 _ [.int (Int32.ofNat 0)] _ _ _ _
        refine hs_if1 (c := .eq) (t := 75) (f := 73) (by decide +kernel) (show Int32.ofNat 0 = 0 by decide) ?_
        refine hs_aload (i := 0) (p := 76) (by decide +kernel) rfl ?_
        refine hs_iload (i := 1) (p := 77) (by decide +kernel) rfl ?_
        refine ht_callv (T := et_TT) (t := 13) (mi := 224) (na := 1) (ci := 11) (lk := 5) (lm := 2) (L0 := eg_en (eg_mL 224) [.ref am, .int (Int32.ofNat n)]) (by decide +kernel) rfl hH k_am rfl rfl rfl rfl rfl (by rw [show eg_mL 224 = 2 from by decide +kernel]; first | done | rfl) ?_
        refine (fm_wires hH k_am k_aw m1 wv (by omega)).mono (fun u hu => xp_cb hu ?_)
        show et_go none _ 223 80 _ [.int (Int32.ofNat m)] _ _ _ _
        refine hs_istore (i := 4) (p := 82) (by decide +kernel) (Nat.le_of_ble_eq_true rfl) ?_
        refine hs_aload (i := 0) (p := 83) (by decide +kernel) rfl ?_
        refine hf_get (T := et_TT) (t := 13) (ci := 11) (f := 1) (p := 86) (by decide +kernel) rfl hH k_am m1 ?_
        refine hs_iload (i := 1) (p := 87) (by decide +kernel) rfl ?_
        refine hs_iload (i := 4) (p := 89) (by decide +kernel) rfl ?_
        refine hs_k (x := Int32.ofNat 0) (p := 90) (by decide +kernel) ?_
        refine hs_calls (mi := 226) (na := 3) (lk := 5) (lm := 3) (L0 := eg_en (eg_mL 226) [.int (Int32.ofNat n), .int (Int32.ofNat m), .int (Int32.ofNat 0)]) (by decide +kernel) rfl rfl rfl rfl rfl rfl (by rw [show eg_mL 226 = 3 from by decide +kernel]; first | done | rfl) ?_
        refine (fm_wireAt).mono (fun u hu => xp_cb hu ?_)
        show et_go none _ 223 93 _ [.int (Int32.ofNat (45 + 23 * n + (1 + 3 * m + 0))), .ref aw] _ _ _ _
        refine hs_iload (i := 2) (p := 94) (by decide +kernel) rfl ?_
        refine hf_wst (p := 95) (by decide +kernel) hH k_aw (by omega) (wx_ok (e := n) (k := 1 + 3 * m + 0) (by omega) (by omega) (fun h => absurd h (by omega))) (fun G94 hH x94 e94 => ?_)
        have hz := hz.xs lt_aw x94 (fun k hk h => by have h := h.2; omega)
        have m1 := (x94.2 am 1 lt_am (fun h => (hi_ne k_am k_aw (by decide)) h.1)).trans m1
        have w4 := (x94.2 aw 4 lt_aw (fun h => by have h := h.2; omega)).trans w4
        have wv := (x94.2 aw (45 + 23 * n) lt_aw (fun h => by have h := h.2; omega)).trans wv
        have e2 := (x94.2 am 0 lt_am (fun h => (hi_ne k_am k_aw (by decide)) h.1)).trans e2
        have lt_am := Nat.lt_of_lt_of_le lt_am x94.1
        have lt_aw := Nat.lt_of_lt_of_le lt_aw x94.1
        refine hs_aload (i := 0) (p := 96) (by decide +kernel) rfl ?_
        refine hf_get (T := et_TT) (t := 13) (ci := 11) (f := 1) (p := 99) (by decide +kernel) rfl hH k_am m1 ?_
        refine hs_iload (i := 1) (p := 100) (by decide +kernel) rfl ?_
        refine hs_iload (i := 4) (p := 102) (by decide +kernel) rfl ?_
        refine hs_k (x := Int32.ofNat 1) (p := 103) (by decide +kernel) ?_
        refine hs_calls (mi := 226) (na := 3) (lk := 5) (lm := 3) (L0 := eg_en (eg_mL 226) [.int (Int32.ofNat n), .int (Int32.ofNat m), .int (Int32.ofNat 1)]) (by decide +kernel) rfl rfl rfl rfl rfl rfl (by rw [show eg_mL 226 = 3 from by decide +kernel]; first | done | rfl) ?_
        refine (fm_wireAt).mono (fun u hu => xp_cb hu ?_)
        show et_go none _ 223 106 _ [.int (Int32.ofNat (45 + 23 * n + (1 + 3 * m + 1))), .ref aw] _ _ _ _
        refine hs_iload (i := 3) (p := 107) (by decide +kernel) rfl ?_
        refine hf_wst (p := 108) (by decide +kernel) hH k_aw (by omega) (wx_ok (e := n) (k := 1 + 3 * m + 1) (by omega) (by omega) (fun h => absurd h (by omega))) (fun G107 hH x107 e107 => ?_)
        have hz := hz.xs lt_aw x107 (fun k hk h => by have h := h.2; omega)
        have m1 := (x107.2 am 1 lt_am (fun h => (hi_ne k_am k_aw (by decide)) h.1)).trans m1
        have w4 := (x107.2 aw 4 lt_aw (fun h => by have h := h.2; omega)).trans w4
        have wv := (x107.2 aw (45 + 23 * n) lt_aw (fun h => by have h := h.2; omega)).trans wv
        have e2 := (x107.2 am 0 lt_am (fun h => (hi_ne k_am k_aw (by decide)) h.1)).trans e2
        have e94 := (x107.2 aw (45 + 23 * n + (1 + 3 * m + 0)) lt_aw (fun h => by have h := h.2; omega)).trans e94
        have lt_am := Nat.lt_of_lt_of_le lt_am x107.1
        have lt_aw := Nat.lt_of_lt_of_le lt_aw x107.1
        refine hs_aload (i := 0) (p := 109) (by decide +kernel) rfl ?_
        refine hf_get (T := et_TT) (t := 13) (ci := 11) (f := 1) (p := 112) (by decide +kernel) rfl hH k_am m1 ?_
        refine hs_iload (i := 1) (p := 113) (by decide +kernel) rfl ?_
        refine hs_iload (i := 4) (p := 115) (by decide +kernel) rfl ?_
        refine hs_k (x := Int32.ofNat 2) (p := 116) (by decide +kernel) ?_
        refine hs_calls (mi := 226) (na := 3) (lk := 5) (lm := 3) (L0 := eg_en (eg_mL 226) [.int (Int32.ofNat n), .int (Int32.ofNat m), .int (Int32.ofNat 2)]) (by decide +kernel) rfl rfl rfl rfl rfl rfl (by rw [show eg_mL 226 = 3 from by decide +kernel]; first | done | rfl) ?_
        refine (fm_wireAt).mono (fun u hu => xp_cb hu ?_)
        show et_go none _ 223 119 _ [.int (Int32.ofNat (45 + 23 * n + (1 + 3 * m + 2))), .ref aw] _ _ _ _
        refine hs_k (x := Int32.ofNat 0) (p := 120) (by decide +kernel) ?_
        refine hf_wst (p := 121) (by decide +kernel) hH k_aw (by omega) (wx_ok (e := n) (k := 1 + 3 * m + 2) (by omega) (by omega) (fun h => absurd h (by omega))) (fun G120 hH x120 e120 => ?_)
        have hz := hz.xs lt_aw x120 (fun k hk h => by have h := h.2; omega)
        have m1 := (x120.2 am 1 lt_am (fun h => (hi_ne k_am k_aw (by decide)) h.1)).trans m1
        have w4 := (x120.2 aw 4 lt_aw (fun h => by have h := h.2; omega)).trans w4
        have wv := (x120.2 aw (45 + 23 * n) lt_aw (fun h => by have h := h.2; omega)).trans wv
        have e2 := (x120.2 am 0 lt_am (fun h => (hi_ne k_am k_aw (by decide)) h.1)).trans e2
        have e94 := (x120.2 aw (45 + 23 * n + (1 + 3 * m + 0)) lt_aw (fun h => by have h := h.2; omega)).trans e94
        have e107 := (x120.2 aw (45 + 23 * n + (1 + 3 * m + 1)) lt_aw (fun h => by have h := h.2; omega)).trans e107
        have lt_am := Nat.lt_of_lt_of_le lt_am x120.1
        have lt_aw := Nat.lt_of_lt_of_le lt_aw x120.1
        refine hs_aload (i := 0) (p := 122) (by decide +kernel) rfl ?_
        refine hf_get (T := et_TT) (t := 13) (ci := 11) (f := 1) (p := 125) (by decide +kernel) rfl hH k_am m1 ?_
        refine hs_k (x := Int32.ofNat 45) (p := 127) (by decide +kernel) ?_
        refine hs_k (x := Int32.ofNat 23) (p := 129) (by decide +kernel) ?_
        refine hs_iload (i := 1) (p := 130) (by decide +kernel) rfl ?_
        refine hs_imuln (p := 131) (by decide +kernel) ?_
        refine hs_iaddn (p := 132) (by decide +kernel) ?_
        refine hs_k (x := Int32.ofNat 0) (p := 133) (by decide +kernel) ?_
        refine hs_iaddn (p := 134) (by decide +kernel) ?_
        refine hs_dup2 (p := 135) (by decide +kernel) ?_
        refine hf_ald (ins := .iaload) (T := et_TT) (t := 46) (kd := 0) (N := 12741) (p := 136) (by decide +kernel) (fun _ _ _ _ _ _ _ _ _ _ => rfl) rfl rfl rfl hH k_aw (by decide) (pl_eq wv (by omega)) ?_
        refine hs_k (x := Int32.ofNat 1) (p := 137) (by decide +kernel) ?_
        refine hs_iaddn (p := 138) (by decide +kernel) ?_
        refine hf_wst (p := 139) (by decide +kernel) hH k_aw (by omega) (wx_ok (e := n) (k := 0) (by omega) (by decide) (fun _ => ⟨m + 1, by omega, rfl⟩)) (fun G138 hH x138 e138 => ?_)
        have hz := hz.st (n := n) lt_aw x138 e138 (by omega)
        have m1 := (x138.2 am 1 lt_am (fun h => (hi_ne k_am k_aw (by decide)) h.1)).trans m1
        have w4 := (x138.2 aw 4 lt_aw (fun h => by have h := h.2; omega)).trans w4
        have e2 := (x138.2 am 0 lt_am (fun h => (hi_ne k_am k_aw (by decide)) h.1)).trans e2
        have e94 := (x138.2 aw (45 + 23 * n + (1 + 3 * m + 0)) lt_aw (fun h => by have h := h.2; omega)).trans e94
        have e107 := (x138.2 aw (45 + 23 * n + (1 + 3 * m + 1)) lt_aw (fun h => by have h := h.2; omega)).trans e107
        have e120 := (x138.2 aw (45 + 23 * n + (1 + 3 * m + 2)) lt_aw (fun h => by have h := h.2; omega)).trans e120
        have lt_am := Nat.lt_of_lt_of_le lt_am x138.1
        have lt_aw := Nat.lt_of_lt_of_le lt_aw x138.1
        refine hs_iload (i := 4) (p := 141) (by decide +kernel) rfl ?_
        refine hs_iret (by decide +kernel) ?_
        rw [o1, o6] at xy
        rw [o0, o2] at xz
        exact .inr (.inr ⟨by omega, by omega, rfl, e2, hz⟩)
      · refine hs_k (x := Int32.ofNat 1) (p := 62) (by decide +kernel) ?_
        refine hs_goto (p := 66) (by decide +kernel) ?_
        refine hs_k (x := Int32.ofNat 3) (p := 67) (by decide +kernel) ?_
        refine ht_callv (T := et_TT) (t := 13) (mi := 204) (na := 2) (ci := 11) (lk := 5) (lm := 3) (L0 := eg_en (eg_mL 204) [.ref am, .int (Int32.ofNat 1), .int (Int32.ofNat 3)]) (by decide +kernel) rfl hH k_am rfl rfl rfl rfl rfl (by rw [show eg_mL 204 = 3 from by decide +kernel]; first | done | rfl) ?_
        refine (fm_t1 hH k_am).mono (fun u hu => xw_cb hu (fun G67 v67 hH x67 hP67 => ?_))
        have hz := hz.xs lt_aw x67 (fun k hk h => hi_ne k_aw k_am (by decide) h.1)
        have m1 := (x67.2 am 1 lt_am (fun h => absurd h.2 (by decide))).trans m1
        have w4 := (x67.2 aw 4 lt_aw (fun h => (hi_ne k_aw k_am (by decide)) h.1)).trans w4
        have wv := (x67.2 aw (45 + 23 * n) lt_aw (fun h => (hi_ne k_aw k_am (by decide)) h.1)).trans wv
        have lt_am := Nat.lt_of_lt_of_le lt_am x67.1
        have lt_aw := Nat.lt_of_lt_of_le lt_aw x67.1
        obtain ⟨rfl, th67⟩ := hP67
        show et_go none _ 223 70 _ [.int (Int32.ofNat 1)] _ _ _ _
        refine hs_if0 (c := .eq) (t := 75) (f := 73) (by decide +kernel) (show ¬ (Int32.ofNat 1 = 0) by decide) ?_
        refine hs_k (x := Int32.ofNat 0) (p := 74) (by decide +kernel) ?_
        refine hs_iret (by decide +kernel) ?_
        rw [o1, o6] at xy
        rw [o0, o2] at xz
        exact .inr (.inl ⟨by omega, by omega, rfl, th67, hz⟩)
    · rw [if_neg xz]
      show et_go none _ 223 35 _ [.int (Int32.ofNat 0), .ref am] _ _ _ _
      refine hs_if0 (c := .ne) (t := 42) (f := 38) (by decide +kernel) (show ¬ (¬ Int32.ofNat 0 = 0) by decide) ?_
      refine hs_k (x := Int32.ofNat 1) (p := 39) (by decide +kernel) ?_
      refine hs_goto (p := 43) (by decide +kernel) ?_
      refine hs_k (x := Int32.ofNat 2) (p := 44) (by decide +kernel) ?_
      refine ht_callv (T := et_TT) (t := 13) (mi := 204) (na := 2) (ci := 11) (lk := 5) (lm := 3) (L0 := eg_en (eg_mL 204) [.ref am, .int (Int32.ofNat 1), .int (Int32.ofNat 2)]) (by decide +kernel) rfl hH k_am rfl rfl rfl rfl rfl (by rw [show eg_mL 204 = 3 from by decide +kernel]; first | done | rfl) ?_
      refine (fm_t1 hH k_am).mono (fun u hu => xw_cb hu (fun G44 v44 hH x44 hP44 => ?_))
      have hz := hz.xs lt_aw x44 (fun k hk h => hi_ne k_aw k_am (by decide) h.1)
      have m1 := (x44.2 am 1 lt_am (fun h => absurd h.2 (by decide))).trans m1
      have w4 := (x44.2 aw 4 lt_aw (fun h => (hi_ne k_aw k_am (by decide)) h.1)).trans w4
      have wv := (x44.2 aw (45 + 23 * n) lt_aw (fun h => (hi_ne k_aw k_am (by decide)) h.1)).trans wv
      have lt_am := Nat.lt_of_lt_of_le lt_am x44.1
      have lt_aw := Nat.lt_of_lt_of_le lt_aw x44.1
      obtain ⟨rfl, th44⟩ := hP44
      show et_go none _ 223 47 _ [.int (Int32.ofNat 1)] _ _ _ _
      refine hs_if1 (c := .ne) (t := 73) (f := 50) (by decide +kernel) (show ¬ Int32.ofNat 1 = 0 by decide) ?_
      refine hs_k (x := Int32.ofNat 0) (p := 74) (by decide +kernel) ?_
      refine hs_iret (by decide +kernel) ?_
      rw [o1, o6] at xy
      rw [o0, o2] at xz
      exact .inl ⟨by omega, rfl, th44, hz⟩
  · rw [if_neg xy]
    show et_go none _ 223 26 _ [.int (Int32.ofNat 0), .ref am] _ _ _ _
    refine hs_if1 (c := .eq) (t := 38) (f := 29) (by decide +kernel) (show Int32.ofNat 0 = 0 by decide) ?_
    refine hs_k (x := Int32.ofNat 1) (p := 39) (by decide +kernel) ?_
    refine hs_goto (p := 43) (by decide +kernel) ?_
    refine hs_k (x := Int32.ofNat 2) (p := 44) (by decide +kernel) ?_
    refine ht_callv (T := et_TT) (t := 13) (mi := 204) (na := 2) (ci := 11) (lk := 5) (lm := 3) (L0 := eg_en (eg_mL 204) [.ref am, .int (Int32.ofNat 1), .int (Int32.ofNat 2)]) (by decide +kernel) rfl hH k_am rfl rfl rfl rfl rfl (by rw [show eg_mL 204 = 3 from by decide +kernel]; first | done | rfl) ?_
    refine (fm_t1 hH k_am).mono (fun u hu => xw_cb hu (fun G44 v44 hH x44 hP44 => ?_))
    have hz := hz.xs lt_aw x44 (fun k hk h => hi_ne k_aw k_am (by decide) h.1)
    have m1 := (x44.2 am 1 lt_am (fun h => absurd h.2 (by decide))).trans m1
    have w4 := (x44.2 aw 4 lt_aw (fun h => (hi_ne k_aw k_am (by decide)) h.1)).trans w4
    have wv := (x44.2 aw (45 + 23 * n) lt_aw (fun h => (hi_ne k_aw k_am (by decide)) h.1)).trans wv
    have lt_am := Nat.lt_of_lt_of_le lt_am x44.1
    have lt_aw := Nat.lt_of_lt_of_le lt_aw x44.1
    obtain ⟨rfl, th44⟩ := hP44
    show et_go none _ 223 47 _ [.int (Int32.ofNat 1)] _ _ _ _
    refine hs_if1 (c := .ne) (t := 73) (f := 50) (by decide +kernel) (show ¬ Int32.ofNat 1 = 0 by decide) ?_
    refine hs_k (x := Int32.ofNat 0) (p := 74) (by decide +kernel) ?_
    refine hs_iret (by decide +kernel) ?_
    rw [o1, o6] at xy
    exact .inl ⟨by omega, rfl, th44, hz⟩
theorem fm_wireN (hH : et_H et_TT K G) (k_am : K am = some 13) (k_aw : K aw = some 46) (m1 : et_pl (eg_at G am) 1 = some (.ref aw)) (w4 : et_pl (eg_at G aw) 4 = some (.int (Int32.ofNat e))) (he : e ≤ 3) (hx : ¬ xr x e) (hz : vz G aw c) (hd : 3 ≤ d2) : et_go none d2 223 0 (eg_en (eg_mL 223) [.ref am, .int x, .int y, .int z]) [] G 0 0 (fun u => u.1 = .inl (some (.int (Int32.ofNat 0))) ∧ et_pl (eg_at u.2.1 am) 0 = some (.int (Int32.ofNat 1)) ∧ vz u.2.1 aw c) := by
  obtain ⟨d, rfl⟩ : ∃ d, d2 = d + 3 := ⟨d2 - 3, by omega⟩
  rw [show eg_mL 223 = 5 from by decide +kernel]
  show et_go none (d + 3) 223 0 [some (.ref am), some (.int x), some (.int y), some (.int z), none] [] G 0 0 _
  have lt_am := (hH.2.2 _ _ k_am).1
  have lt_aw := (hH.2.2 _ _ k_aw).1
  refine hs_aload (i := 0) (p := 1) (by decide +kernel) rfl ?_
  refine hs_k (x := Int32.ofNat 0) (p := 2) (by decide +kernel) ?_
  refine hf_put (T := et_TT) (t := 13) (ci := 11) (f := 0) (p := 5) (ty := .int) (by decide +kernel) rfl rfl rfl rfl rfl hH k_am hi_any (fun G2 hH x2 e2 => ?_)
  have hz := hz.xs lt_aw x2 (fun k hk h => hi_ne k_aw k_am (by decide) h.1)
  have m1 := (x2.2 am 1 lt_am (fun h => absurd h.2 (by decide))).trans m1
  have w4 := (x2.2 aw 4 lt_aw (fun h => (hi_ne k_aw k_am (by decide)) h.1)).trans w4
  have lt_am := Nat.lt_of_lt_of_le lt_am x2.1
  have lt_aw := Nat.lt_of_lt_of_le lt_aw x2.1
  refine hs_aload (i := 0) (p := 6) (by decide +kernel) rfl ?_
  refine hs_aload (i := 0) (p := 7) (by decide +kernel) rfl ?_
  refine hs_iload (i := 1) (p := 8) (by decide +kernel) rfl ?_
  refine ht_callv (T := et_TT) (t := 13) (mi := 208) (na := 1) (ci := 11) (lk := 5) (lm := 2) (L0 := eg_en (eg_mL 208) [.ref am, .int x]) (by decide +kernel) rfl hH k_am rfl rfl rfl rfl rfl (by rw [show eg_mL 208 = 2 from by decide +kernel]; first | done | rfl) ?_
  refine (fm_nEn hH k_am k_aw m1 w4 he hx (by omega)).mono (fun u hu => xp_cb hu ?_)
  show et_go none _ 223 11 _ [.int (Int32.ofNat 1), .ref am] _ _ _ _
  refine hs_k (x := Int32.ofNat 1) (p := 12) (by decide +kernel) ?_
  refine ht_callv (T := et_TT) (t := 13) (mi := 204) (na := 2) (ci := 11) (lk := 5) (lm := 3) (L0 := eg_en (eg_mL 204) [.ref am, .int (Int32.ofNat 1), .int (Int32.ofNat 1)]) (by decide +kernel) rfl hH k_am rfl rfl rfl rfl rfl (by rw [show eg_mL 204 = 3 from by decide +kernel]; first | done | rfl) ?_
  refine (fm_t1 hH k_am).mono (fun u hu => xw_cb hu (fun G12 v12 hH x12 hP12 => ?_))
  have hz := hz.xs lt_aw x12 (fun k hk h => hi_ne k_aw k_am (by decide) h.1)
  have m1 := (x12.2 am 1 lt_am (fun h => absurd h.2 (by decide))).trans m1
  have w4 := (x12.2 aw 4 lt_aw (fun h => (hi_ne k_aw k_am (by decide)) h.1)).trans w4
  have lt_am := Nat.lt_of_lt_of_le lt_am x12.1
  have lt_aw := Nat.lt_of_lt_of_le lt_aw x12.1
  obtain ⟨rfl, th12⟩ := hP12
  show et_go none _ 223 15 _ [.int (Int32.ofNat 1)] _ _ _ _
  refine hs_if1 (c := .ne) (t := 73) (f := 18) (by decide +kernel) (show ¬ Int32.ofNat 1 = 0 by decide) ?_
  refine hs_k (x := Int32.ofNat 0) (p := 74) (by decide +kernel) ?_
  refine hs_iret (by decide +kernel) ?_
  exact ⟨rfl, th12, hz⟩
end UEA
end
