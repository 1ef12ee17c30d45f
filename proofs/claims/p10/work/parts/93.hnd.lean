/-! BY HAND: boundOf -/
theorem bd_i (x : Int32) : x.toInt64.toInt = x.toInt := by simp
def bd_lo (a : Int64) : Prop := -2147483648 ≤ a.toInt ∧ a.toInt ≤ 1073741824
def bd_hi (a : Int64) : Prop := -1073741824 ≤ a.toInt ∧ a.toInt ≤ 2147483647
theorem bd_min {a : Int64} {x : Int32} (h : bd_lo a) : bd_lo (if x.toInt64 < a then x.toInt64 else a) := by
  have h1 := x.le_toInt
  have h2 := x.toInt_lt
  have h3 := bd_i x
  unfold bd_lo at h ⊢
  split
  · rename_i hl
    have hl := Int64.lt_iff_toInt_lt.mp hl
    omega
  · exact h
theorem bd_max {a : Int64} {x : Int32} (h : bd_hi a) : bd_hi (if x.toInt64 < a then a else x.toInt64) := by
  have h1 := x.le_toInt
  have h2 := x.toInt_lt
  have h3 := bd_i x
  unfold bd_hi at h ⊢
  split
  · exact h
  · rename_i hl
    have hl : ¬ x.toInt64.toInt < a.toInt := fun q => hl (Int64.lt_iff_toInt_lt.mpr q)
    omega
theorem bd_d {a b : Int64} (ha : bd_lo a) (hb : bd_hi b) (h : 0 < lg_cmp (a - b) (Int64.ofNat 0)) : ¬ (a - b) * (a - b) = 0 := fun e => by
  unfold bd_lo at ha
  unfold bd_hi at hb
  have s : (a - b).toInt = a.toInt - b.toInt := by
    rw [Int64.toInt_sub]
    exact Int.bmod_eq_of_le (by omega) (by omega)
  have p : 0 < (a - b).toInt := by
    unfold lg_cmp at h
    split at h
    · rename_i h1
      have q1 := Int64.lt_iff_toInt_lt.mp h1
      have q3 : (Int64.ofNat 0).toInt = 0 := rfl
      omega
    · split at h <;> exact absurd h (by decide)
  have m := congrArg Int64.toInt e
  have m0 : (0 : Int64).toInt = 0 := rfl
  have k1 : (a - b).toInt ≤ 2147483648 := by omega
  rw [Int64.toInt_mul, m0] at m
  have k2 := Int.mul_le_mul k1 k1 (by omega) (by omega)
  have k3 := Int.mul_pos p p
  rw [Int.bmod_eq_of_le (by omega) (by omega)] at m
  omega
def bd_an (k pc : Nat) : Option et_A := if k = 33 then es_an k pc else if k = 48 then (if pc = 4 then some ([(2, .inl (et_mn, et_mx)), (3, .inl (0, 6))], 2, [], []) else none) else none
def hq_sw : et_Co := (33, [.inr (.inr (0, 3)), .inr (.inr (0, 15)), .inl (et_mn, et_mx)], [], [(.inl (some (.inl (et_mn, et_mx))), 0, 0)], 3)
def hq_vs : et_Co := (48, [.inr (.inr (0, 3)), .inl (et_mn, et_mx)], [], [(.inl (some (.inl (et_mn, et_mx))), 0, 0)], 2)
theorem hc_sw : et_cv et_TT hq_sw := es_c17
theorem hc_vs : et_cv et_TT hq_vs := et_cok_ok (Ks := []) (an := bd_an) (fun _ h => absurd h List.not_mem_nil) (by decide +kernel)
section RBO
variable {w : et_Wd} {K : et_K} {G : eg_G} {d th ey : Nat}
theorem hn_o2 (hH : et_H et_TT K G) (hx0 : et_ex w.1 K) (hf : et_fr [] w.1 w.2.2 G) (k_th : K th = some 12) (k_ey : K ey = some 3) {lo hi mo kq : Int64} {c : Nat} {x11 x12 x13 : Option Value} (hlo : bd_lo lo) (hhi : bd_hi hi) (hc : c ≤ 6) : et_go none (d + 4) 156 120 [some (.ref th), some (.ref ey), some (.long lo), none, some (.long hi), none, some (.long mo), none, some (.long kq), none, some (.int (Int32.ofNat c)), x11, x12, x13] [] G 0 0 (hi_Z et_TT w [] [(.inl (some (.inl (et_mn, et_mx))), 0, 0)]) := by
  induction hm : 6 - c using Nat.strongRecOn generalizing c kq K G with
  | _ z ih =>
    refine hs_iload (i := 10) (p := 122) (by decide +kernel) rfl ?_
    refine hs_aload (i := 1) (p := 123) (by decide +kernel) rfl ?_
    refine ht_getn (T := et_TT) (t := 3) (ci := 1) (f := 0) (p := 126) (by decide +kernel) rfl rfl hH k_ey (fun c123 h123 e123 => ?_)
    refine hs_br2n (c := .ge) (t := 162) (f := 129) (by decide +kernel) (by omega) (by omega) (fun (c126 : c123 ≤ c) => ?_) (fun (c126 : ¬ (c123 ≤ c)) => ?_)
    · refine hs_lload (i := 2) (p := 163) (by decide +kernel) rfl ?_
      refine hs_lload (i := 4) (p := 165) (by decide +kernel) rfl ?_
      refine hs_lsub (p := 166) (by decide +kernel) ?_
      refine hs_lstore (i := 10) (p := 168) (by decide +kernel) (Nat.le_of_ble_eq_true rfl) ?_
      refine hs_lload (i := 2) (p := 169) (by decide +kernel) rfl ?_
      refine hs_lload (i := 4) (p := 171) (by decide +kernel) rfl ?_
      refine hs_ladd (p := 172) (by decide +kernel) ?_
      refine hs_lstore (i := 12) (p := 174) (by decide +kernel) (Nat.le_of_ble_eq_true rfl) ?_
      refine hs_lload (i := 10) (p := 176) (by decide +kernel) rfl ?_
      refine hs_lcon (x := (Int64.ofNat 0)) (p := 177) (by decide +kernel) ?_
      refine hs_lcmp (p := 178) (by decide +kernel) ?_
      refine hs_br1 (c := .gt) (t := 183) (f := 181) (by decide +kernel) (fun (c178 : 0 < (lg_cmp (lo - hi) (Int64.ofNat 0))) => ?_) (fun (c178 : ¬ (0 < (lg_cmp (lo - hi) (Int64.ofNat 0)))) => ?_)
      · have hdiv := bd_d hlo hhi c178
        refine hs_lload (i := 6) (p := 185) (by decide +kernel) rfl ?_
        refine hs_lcon (x := 4) (p := 188) (by decide +kernel) ?_
        refine hs_lload (i := 8) (p := 190) (by decide +kernel) rfl ?_
        refine hs_lmul (p := 191) (by decide +kernel) ?_
        refine hs_lload (i := 12) (p := 193) (by decide +kernel) rfl ?_
        refine hs_lload (i := 12) (p := 195) (by decide +kernel) rfl ?_
        refine hs_lmul (p := 196) (by decide +kernel) ?_
        refine hs_ladd (p := 197) (by decide +kernel) ?_
        refine hs_lmul (p := 198) (by decide +kernel) ?_
        refine hs_lload (i := 10) (p := 200) (by decide +kernel) rfl ?_
        refine hs_lload (i := 10) (p := 202) (by decide +kernel) rfl ?_
        refine hs_lmul (p := 203) (by decide +kernel) ?_
        refine hs_ldiv (p := 204) (by decide +kernel) hdiv ?_
        refine hs_l2i (p := 205) (by decide +kernel) ?_
        refine hs_iret (by decide +kernel) ?_
        exact ⟨_, List.mem_cons_self, _, hx0, hf, hH, ⟨_, rfl, hi_any⟩, Nat.le_refl _, Nat.le_refl _⟩
      · refine hs_k (x := (-1)) (p := 182) (by decide +kernel) ?_
        refine hs_iret (by decide +kernel) ?_
        exact ⟨_, List.mem_cons_self, _, hx0, hf, hH, ⟨_, rfl, hi_any⟩, Nat.le_refl _, Nat.le_refl _⟩
    · refine hs_lload (i := 8) (p := 131) (by decide +kernel) rfl ?_
      refine hs_aload (i := 0) (p := 132) (by decide +kernel) rfl ?_
      refine ht_getr (T := et_TT) (t := 12) (ci := 10) (f := 5) (p := 135) (by decide +kernel) rfl rfl hH k_th (fun a132 k_a132 e132 => ?_)
      refine ht_getr (T := et_TT) (t := 9) (ci := 7) (f := 14) (p := 138) (by decide +kernel) rfl rfl hH k_a132 (fun a135 k_a135 e135 => ?_)
      refine hs_iload (i := 10) (p := 140) (by decide +kernel) rfl ?_
      refine ht_ild (T := et_TT) (t := 15) (N := 6) (p := 141) (by decide +kernel) rfl hH k_a135 (by omega) (by decide) (fun x140 s140 e140 => ?_)
      refine hs_aload (i := 0) (p := 142) (by decide +kernel) rfl ?_
      refine ht_getr (T := et_TT) (t := 12) (ci := 10) (f := 5) (p := 145) (by decide +kernel) rfl rfl hH k_th (fun a142 k_a142 e142 => ?_)
      refine ht_getr (T := et_TT) (t := 9) (ci := 7) (f := 14) (p := 148) (by decide +kernel) rfl rfl hH k_a142 (fun a145 k_a145 e145 => ?_)
      refine hs_iload (i := 10) (p := 150) (by decide +kernel) rfl ?_
      refine ht_ild (T := et_TT) (t := 15) (N := 6) (p := 151) (by decide +kernel) rfl hH k_a145 (by omega) (by decide) (fun x150 s150 e150 => ?_)
      refine hs_imul (p := 152) (by decide +kernel) ?_
      refine hs_i2l (p := 153) (by decide +kernel) ?_
      refine hs_ladd (p := 154) (by decide +kernel) ?_
      refine hs_lstore (i := 8) (p := 156) (by decide +kernel) (Nat.le_of_ble_eq_true rfl) ?_
      refine hs_iinc1 (i := 10) (p := 159) (by decide +kernel) rfl (Nat.le_of_ble_eq_true rfl) ?_
      refine hs_goto (p := 120) (by decide +kernel) ?_
      show et_go none (d + 4) 156 120 [some (.ref th), some (.ref ey), some (.long lo), none, some (.long hi), none, some (.long mo), none, some (.long (kq + ((x140 * x150)).toInt64)), none, some (.int (Int32.ofNat (c + 1))), x11, x12, x13] [] _ 0 0 _
      exact ih (6 - (c + 1)) (by omega) hH hx0 hf k_th k_ey (by omega) rfl
theorem hn_o1 (hH : et_H et_TT K G) (hx0 : et_ex w.1 K) (hf : et_fr [] w.1 w.2.2 G) (k_th : K th = some 12) (k_ey : K ey = some 3) {lo hi mo : Int64} {c : Nat} {x9 x10 x11 x12 x13 : Option Value} (hlo : bd_lo lo) (hhi : bd_hi hi) (hc : c ≤ 20) : et_go none (d + 4) 156 15 [some (.ref th), some (.ref ey), some (.long lo), none, some (.long hi), none, some (.long mo), none, some (.int (Int32.ofNat c)), x9, x10, x11, x12, x13] [] G 0 0 (hi_Z et_TT w [] [(.inl (some (.inl (et_mn, et_mx))), 0, 0)]) := by
  induction hm : 20 - c using Nat.strongRecOn generalizing c lo hi mo x9 K G with
  | _ z ih =>
    refine hs_iload (i := 8) (p := 17) (by decide +kernel) rfl ?_
    refine hs_aload (i := 0) (p := 18) (by decide +kernel) rfl ?_
    refine ht_getr (T := et_TT) (t := 12) (ci := 10) (f := 0) (p := 21) (by decide +kernel) rfl rfl hH k_th (fun a18 k_a18 e18 => ?_)
    refine ht_getn (T := et_TT) (t := 10) (ci := 8) (f := 2) (p := 24) (by decide +kernel) rfl rfl hH k_a18 (fun c21 h21 e21 => ?_)
    refine hs_br2n (c := .ge) (t := 114) (f := 27) (by decide +kernel) (by omega) (by omega) (fun (c24 : c21 ≤ c) => ?_) (fun (c24 : ¬ (c21 ≤ c)) => ?_)
    · refine hs_lcon (x := (Int64.ofNat 0)) (p := 115) (by decide +kernel) ?_
      refine hs_lstore (i := 8) (p := 117) (by decide +kernel) (Nat.le_of_ble_eq_true rfl) ?_
      refine hs_k (x := Int32.ofNat 0) (p := 118) (by decide +kernel) ?_
      refine hs_istore (i := 10) (p := 120) (by decide +kernel) (Nat.le_of_ble_eq_true rfl) ?_
      show et_go none (d + 4) 156 120 [some (.ref th), some (.ref ey), some (.long lo), none, some (.long hi), none, some (.long mo), none, some (.long (Int64.ofNat 0)), none, some (.int (Int32.ofNat 0)), x11, x12, x13] [] _ 0 0 _
      exact hn_o2 hH hx0 hf k_th k_ey hlo hhi (Nat.zero_le _)
    · refine hs_aload (i := 1) (p := 28) (by decide +kernel) rfl ?_
      refine hs_aload (i := 0) (p := 29) (by decide +kernel) rfl ?_
      refine ht_getr (T := et_TT) (t := 12) (ci := 10) (f := 5) (p := 32) (by decide +kernel) rfl rfl hH k_th (fun a29 k_a29 e29 => ?_)
      refine ht_getr (T := et_TT) (t := 9) (ci := 7) (f := 14) (p := 35) (by decide +kernel) rfl rfl hH k_a29 (fun a32 k_a32 e32 => ?_)
      refine hs_aload (i := 0) (p := 36) (by decide +kernel) rfl ?_
      refine ht_getr (T := et_TT) (t := 12) (ci := 10) (f := 0) (p := 39) (by decide +kernel) rfl rfl hH k_th (fun a36 k_a36 e36 => ?_)
      refine ht_getr (T := et_TT) (t := 10) (ci := 8) (f := 3) (p := 42) (by decide +kernel) rfl rfl hH k_a36 (fun a39 k_a39 e39 => ?_)
      refine hs_iload (i := 8) (p := 44) (by decide +kernel) rfl ?_
      refine ht_ild (T := et_TT) (t := 17) (N := 20) (p := 45) (by decide +kernel) rfl hH k_a39 (by omega) (by decide) (fun x44 s44 e44 => ?_)
      refine ht_callv (T := et_TT) (t := 3) (mi := 33) (na := 2) (ci := 1) (lk := 14) (lm := 5) (L0 := eg_en (eg_mL 33) [.ref ey, .ref a32, .int x44]) (by decide +kernel) rfl hH k_ey rfl rfl rfl rfl rfl (by rw [show eg_mL 33 = 5 from by decide +kernel]; first | done | rfl) ?_
      refine (hc_sw (K, [], G) [.ref ey, .ref a32, .int x44] _ hH (by omega) rfl (ht_ac (.inr ⟨by decide, _, rfl, k_ey⟩) (ht_ac (.inr ⟨by decide, _, rfl, k_a32⟩) (ht_ac hi_any ht_an)))).mono (fun u hu => hs_cbv hu (fun v45 K45 G45 c45 s45 x45 f45 hH hv45 cl45 sl45 => ?_))
      have k_th := x45 _ _ k_th
      have k_ey := x45 _ _ k_ey
      have k_a18 := x45 _ _ k_a18
      have k_a29 := x45 _ _ k_a29
      have k_a32 := x45 _ _ k_a32
      have k_a36 := x45 _ _ k_a36
      have k_a39 := x45 _ _ k_a39
      have hf := hf.tr hx0 (f45.wk (by decide +kernel))
      have hx0 := hx0.tr x45
      obtain rfl : c45 = 0 := Nat.le_zero.mp cl45
      obtain rfl : s45 = 0 := Nat.le_zero.mp sl45
      obtain ⟨n45, rfl, hn45, hm45⟩ := hi_int hv45
      show et_go none _ 156 48 _ [.int n45] _ 0 _ _
      refine hs_istore (i := 9) (p := 50) (by decide +kernel) (Nat.le_of_ble_eq_true rfl) ?_
      refine hs_aload (i := 0) (p := 51) (by decide +kernel) rfl ?_
      refine ht_getr (T := et_TT) (t := 12) (ci := 10) (f := 0) (p := 54) (by decide +kernel) rfl rfl hH k_th (fun a51 k_a51 e51 => ?_)
      refine ht_getr (T := et_TT) (t := 10) (ci := 8) (f := 4) (p := 57) (by decide +kernel) rfl rfl hH k_a51 (fun a54 k_a54 e54 => ?_)
      refine hs_iload (i := 8) (p := 59) (by decide +kernel) rfl ?_
      refine ht_zld (T := et_TT) (t := 27) (N := 20) (p := 60) (by decide +kernel) rfl hH k_a54 (by omega) (by decide) (fun x59 s59 => ?_)
      refine hs_br1 (c := .eq) (t := 74) (f := 63) (by decide +kernel) (fun (c60 : x59 = 0) => ?_) (fun (c60 : ¬ (x59 = 0)) => ?_)
      · refine hs_lload (i := 4) (p := 76) (by decide +kernel) rfl ?_
        refine hs_iload (i := 9) (p := 78) (by decide +kernel) rfl ?_
        refine hs_i2l (p := 79) (by decide +kernel) ?_
        refine hs_math (mi := 313) (lk := 14) (p := 82) (by decide +kernel) rfl rfl rfl rfl ?_
        refine hs_lstore (i := 4) (p := 84) (by decide +kernel) (Nat.le_of_ble_eq_true rfl) ?_
        refine hs_lload (i := 6) (p := 86) (by decide +kernel) rfl ?_
        refine hs_aload (i := 1) (p := 87) (by decide +kernel) rfl ?_
        refine hs_aload (i := 0) (p := 88) (by decide +kernel) rfl ?_
        refine ht_getr (T := et_TT) (t := 12) (ci := 10) (f := 0) (p := 91) (by decide +kernel) rfl rfl hH k_th (fun a88 k_a88 e88 => ?_)
        refine ht_getr (T := et_TT) (t := 10) (ci := 8) (f := 3) (p := 94) (by decide +kernel) rfl rfl hH k_a88 (fun a91 k_a91 e91 => ?_)
        refine hs_iload (i := 8) (p := 96) (by decide +kernel) rfl ?_
        refine ht_ild (T := et_TT) (t := 17) (N := 20) (p := 97) (by decide +kernel) rfl hH k_a91 (by omega) (by decide) (fun x96 s96 e96 => ?_)
        refine ht_callv (T := et_TT) (t := 3) (mi := 48) (na := 1) (ci := 1) (lk := 14) (lm := 5) (L0 := eg_en (eg_mL 48) [.ref ey, .int x96]) (by decide +kernel) rfl hH k_ey rfl rfl rfl rfl rfl (by rw [show eg_mL 48 = 5 from by decide +kernel]; first | done | rfl) ?_
        refine (hc_vs (K45, [], G45) [.ref ey, .int x96] _ hH (by omega) rfl (ht_ac (.inr ⟨by decide, _, rfl, k_ey⟩) (ht_ac hi_any ht_an))).mono (fun u hu => hs_cbv hu (fun v97 K97 G97 c97 s97 x97 f97 hH hv97 cl97 sl97 => ?_))
        have k_th := x97 _ _ k_th
        have k_ey := x97 _ _ k_ey
        have k_a18 := x97 _ _ k_a18
        have k_a29 := x97 _ _ k_a29
        have k_a32 := x97 _ _ k_a32
        have k_a36 := x97 _ _ k_a36
        have k_a39 := x97 _ _ k_a39
        have k_a51 := x97 _ _ k_a51
        have k_a54 := x97 _ _ k_a54
        have k_a88 := x97 _ _ k_a88
        have k_a91 := x97 _ _ k_a91
        have hf := hf.tr hx0 (f97.wk (by decide +kernel))
        have hx0 := hx0.tr x97
        obtain rfl : c97 = 0 := Nat.le_zero.mp cl97
        obtain rfl : s97 = 0 := Nat.le_zero.mp sl97
        obtain ⟨n97, rfl, hn97, hm97⟩ := hi_int hv97
        show et_go none _ 156 100 _ [.int n97, .long mo] _ 0 _ _
        refine hs_k (x := Int32.ofNat 1) (p := 101) (by decide +kernel) ?_
        refine hs_iadd (p := 102) (by decide +kernel) ?_
        refine hs_i2l (p := 103) (by decide +kernel) ?_
        refine hs_math (mi := 313) (lk := 14) (p := 106) (by decide +kernel) rfl rfl rfl rfl ?_
        refine hs_lstore (i := 6) (p := 108) (by decide +kernel) (Nat.le_of_ble_eq_true rfl) ?_
        refine hs_iinc1 (i := 8) (p := 111) (by decide +kernel) rfl (Nat.le_of_ble_eq_true rfl) ?_
        refine hs_goto (p := 15) (by decide +kernel) ?_
        show et_go none (d + 4) 156 15 [some (.ref th), some (.ref ey), some (.long lo), none, some (.long (if (n45).toInt64 < hi then hi else (n45).toInt64)), none, some (.long (if ((n97 + Int32.ofNat 1)).toInt64 < mo then mo else ((n97 + Int32.ofNat 1)).toInt64)), none, some (.int (Int32.ofNat (c + 1))), some (.int n45), x10, x11, x12, x13] [] _ 0 0 _
        exact ih (20 - (c + 1)) (by omega) hH hx0 hf k_th k_ey hlo (bd_max hhi) (by omega) rfl
      · refine hs_lload (i := 2) (p := 64) (by decide +kernel) rfl ?_
        refine hs_iload (i := 9) (p := 66) (by decide +kernel) rfl ?_
        refine hs_i2l (p := 67) (by decide +kernel) ?_
        refine hs_math (mi := 312) (lk := 14) (p := 70) (by decide +kernel) rfl rfl rfl rfl ?_
        refine hs_lstore (i := 2) (p := 71) (by decide +kernel) (Nat.le_of_ble_eq_true rfl) ?_
        refine hs_goto (p := 84) (by decide +kernel) ?_
        refine hs_lload (i := 6) (p := 86) (by decide +kernel) rfl ?_
        refine hs_aload (i := 1) (p := 87) (by decide +kernel) rfl ?_
        refine hs_aload (i := 0) (p := 88) (by decide +kernel) rfl ?_
        refine ht_getr (T := et_TT) (t := 12) (ci := 10) (f := 0) (p := 91) (by decide +kernel) rfl rfl hH k_th (fun a88 k_a88 e88 => ?_)
        refine ht_getr (T := et_TT) (t := 10) (ci := 8) (f := 3) (p := 94) (by decide +kernel) rfl rfl hH k_a88 (fun a91 k_a91 e91 => ?_)
        refine hs_iload (i := 8) (p := 96) (by decide +kernel) rfl ?_
        refine ht_ild (T := et_TT) (t := 17) (N := 20) (p := 97) (by decide +kernel) rfl hH k_a91 (by omega) (by decide) (fun x96 s96 e96 => ?_)
        refine ht_callv (T := et_TT) (t := 3) (mi := 48) (na := 1) (ci := 1) (lk := 14) (lm := 5) (L0 := eg_en (eg_mL 48) [.ref ey, .int x96]) (by decide +kernel) rfl hH k_ey rfl rfl rfl rfl rfl (by rw [show eg_mL 48 = 5 from by decide +kernel]; first | done | rfl) ?_
        refine (hc_vs (K45, [], G45) [.ref ey, .int x96] _ hH (by omega) rfl (ht_ac (.inr ⟨by decide, _, rfl, k_ey⟩) (ht_ac hi_any ht_an))).mono (fun u hu => hs_cbv hu (fun v97 K97 G97 c97 s97 x97 f97 hH hv97 cl97 sl97 => ?_))
        have k_th := x97 _ _ k_th
        have k_ey := x97 _ _ k_ey
        have k_a18 := x97 _ _ k_a18
        have k_a29 := x97 _ _ k_a29
        have k_a32 := x97 _ _ k_a32
        have k_a36 := x97 _ _ k_a36
        have k_a39 := x97 _ _ k_a39
        have k_a51 := x97 _ _ k_a51
        have k_a54 := x97 _ _ k_a54
        have k_a88 := x97 _ _ k_a88
        have k_a91 := x97 _ _ k_a91
        have hf := hf.tr hx0 (f97.wk (by decide +kernel))
        have hx0 := hx0.tr x97
        obtain rfl : c97 = 0 := Nat.le_zero.mp cl97
        obtain rfl : s97 = 0 := Nat.le_zero.mp sl97
        obtain ⟨n97, rfl, hn97, hm97⟩ := hi_int hv97
        show et_go none _ 156 100 _ [.int n97, .long mo] _ 0 _ _
        refine hs_k (x := Int32.ofNat 1) (p := 101) (by decide +kernel) ?_
        refine hs_iadd (p := 102) (by decide +kernel) ?_
        refine hs_i2l (p := 103) (by decide +kernel) ?_
        refine hs_math (mi := 313) (lk := 14) (p := 106) (by decide +kernel) rfl rfl rfl rfl ?_
        refine hs_lstore (i := 6) (p := 108) (by decide +kernel) (Nat.le_of_ble_eq_true rfl) ?_
        refine hs_iinc1 (i := 8) (p := 111) (by decide +kernel) rfl (Nat.le_of_ble_eq_true rfl) ?_
        refine hs_goto (p := 15) (by decide +kernel) ?_
        show et_go none (d + 4) 156 15 [some (.ref th), some (.ref ey), some (.long (if (n45).toInt64 < lo then (n45).toInt64 else lo)), none, some (.long hi), none, some (.long (if ((n97 + Int32.ofNat 1)).toInt64 < mo then mo else ((n97 + Int32.ofNat 1)).toInt64)), none, some (.int (Int32.ofNat (c + 1))), some (.int n45), x10, x11, x12, x13] [] _ 0 0 _
        exact ih (20 - (c + 1)) (by omega) hH hx0 hf k_th k_ey (bd_min hlo) hhi (by omega) rfl
theorem hc_boundOf : et_cv et_TT hq_boundOf := by
  intro w as d2 hH hd hl hv
  obtain ⟨v, v1, rfl⟩ := hi_len2 (show as.length = 2 from hl)
  obtain ⟨th, rfl, k_th⟩ := hi_ref (hv 0 _ _ rfl rfl)
  obtain ⟨ey, rfl, k_ey⟩ := hi_ref (hv 1 _ _ rfl rfl)
  obtain ⟨d, rfl⟩ : ∃ d, d2 = d + 4 := ⟨d2 - 4, by have : 4 ≤ d2 := hd; omega⟩
  have hx0 : et_ex w.1 w.1 := et_ex.rf
  have hf : et_fr [] w.1 w.2.2 w.2.2 := et_fr.rf
  rw [show eg_mL 156 = 14 from by decide +kernel]
  show et_go none (d + 4) 156 0 [some (.ref th), some (.ref ey), none, none, none, none, none, none, none, none, none, none, none, none] [] w.2.2 0 0 (hi_Z et_TT w [] [(.inl (some (.inl (et_mn, et_mx))), 0, 0)])
  refine hs_lcon (x := 1073741824) (p := 3) (by decide +kernel) ?_
  refine hs_lstore (i := 2) (p := 4) (by decide +kernel) (Nat.le_of_ble_eq_true rfl) ?_
  refine hs_lcon (x := -1073741824) (p := 7) (by decide +kernel) ?_
  refine hs_lstore (i := 4) (p := 9) (by decide +kernel) (Nat.le_of_ble_eq_true rfl) ?_
  refine hs_lcon (x := (Int64.ofNat 0)) (p := 10) (by decide +kernel) ?_
  refine hs_lstore (i := 6) (p := 12) (by decide +kernel) (Nat.le_of_ble_eq_true rfl) ?_
  refine hs_k (x := Int32.ofNat 0) (p := 13) (by decide +kernel) ?_
  refine hs_istore (i := 8) (p := 15) (by decide +kernel) (Nat.le_of_ble_eq_true rfl) ?_
  show et_go none (d + 4) 156 15 [some (.ref th), some (.ref ey), some (.long 1073741824), none, some (.long (-1073741824)), none, some (.long (Int64.ofNat 0)), none, some (.int (Int32.ofNat 0)), none, none, none, none, none] [] _ 0 0 _
  exact hn_o1 hH hx0 hf k_th k_ey ⟨by decide, by decide⟩ ⟨by decide, by decide⟩ (Nat.zero_le _)
end RBO
