/-! CLAIMS: what they say now -/
def cE (R C U S N : Int32) (B : Bool) : sp_E := (fun w => if w = 15 then R.toInt64 else if w = 16 then C.toInt64 else if w = 17 then U.toInt64 else if w = 18 then S.toInt64 else N.toInt64, (fun _ => B, fun _ => false))
theorem w1519 {w : Nat} (h1 : 15 ≤ w) (h2 : w ≤ 19) : w = 15 ∨ w = 16 ∨ w = 17 ∨ w = 18 ∨ w = 19 := by omega
theorem ce_fe {f : sp_E → Bool} {F : Nat → Int32} {R C U S N : Int32} {B : Bool} (h : cl02 f) (h7 : F 7 = R) (h8 : F 8 = C) (h9 : F 9 = U) (h6 : F 6 = S) (h10 : F 10 = N) (h11 : decide (¬ F 11 = 0) = B) : f (feE F) = f (cE R C U S N B) := by
  refine h _ _ (fun w w1 w2 => ?_) (fun w w1 w2 => ?_) trivial
  · rcases w1519 w1 w2 with rfl | rfl | rfl | rfl | rfl
    · show (F 7).toInt64 = R.toInt64
      rw [h7]
    · show (F 8).toInt64 = C.toInt64
      rw [h8]
    · show (F 9).toInt64 = U.toInt64
      rw [h9]
    · show (F 6).toInt64 = S.toInt64
      rw [h6]
    · show (F 10).toInt64 = N.toInt64
      rw [h10]
  · obtain rfl : w = 14 := by omega
    show decide (¬ F 11 = 0) = B
    exact h11
theorem ce_nu {f : sp_E → Bool} {R C U V S N : Int32} {B : Bool} (h : nu17 f) : f (cE R C U S N B) = f (cE R C V S N B) := by
  refine h _ _ (fun w hw => ?_) rfl
  show (if w = 15 then R.toInt64 else if w = 16 then C.toInt64 else if w = 17 then U.toInt64 else if w = 18 then S.toInt64 else N.toInt64) = (if w = 15 then R.toInt64 else if w = 16 then C.toInt64 else if w = 17 then V.toInt64 else if w = 18 then S.toInt64 else N.toInt64)
  rw [if_neg hw, if_neg hw]
def knI (N : Nat → Int32) : Nat → Int32
  | 0 => Int32.ofNat 0
  | m + 1 => knI N m + (if 0 ≤ N m then N m else 0 - N m)
def unI (fr : sp_E → Bool) (v : evT) : Int32 := Int32.ofNat (odN fr v (-1) 65536) / Int32.ofNat 656
/-- whether a CLAIM holds -/
def clV (f fr : sp_E → Bool) (v : evT) (X : Nat → Int32) (Y : Nat → Nat) (nc : Nat) : Bool := f (cE (Int32.ofNat (rtE v X Y nc)) (Int32.ofNat nc) (unI fr v) v.2.2.2.2.2.1 (knI v.2.2.2.1 v.1) (decide (¬ bpV v X Y nc = (-1))))
section AZA
variable {K : et_K} {G : eg_G} {d d2 th s0 s1 ya yb e q fo bb lo hi ca ki kn ec rc ra r n la ly nc out m cl cm cc fl bb2 lo2 hi2 k ck sk : Nat} {v : evT} {f f2 : sp_E → Bool} {x z9 : Int32} {X : Nat → Int32} {Y : Nat → Nat} {x3 : Option Value}
theorem fd_knL (hH : et_H et_TT K G) (t9 : evK K e ca ki kn v.1 v.2.2.1) (hv : evc G e ca ki kn v) (hm : m ≤ v.1) : et_go none d2 36 4 [some (.ref e), some (.int (knI v.2.2.2.1 m)), some (.int (Int32.ofNat m))] [] G 0 0 (xp_Z G (some (.int (knI v.2.2.2.1 v.1)))) := by
  have t90 := t9
  have hv0 := hv
  obtain ⟨⟨k_e, k_ca, k_ki, k_kn⟩, hw6, hkd⟩ := t9
  obtain ⟨⟨p0, p1, p2, p3⟩, hN, hCK, p4, p5, p6, p7⟩ := hv
  induction hq9 : v.1 - m using Nat.strongRecOn generalizing m with
  | _ q9 ih =>
    have lt_e := (hH.2.2 _ _ k_e).1
    have lt_ca := (hH.2.2 _ _ k_ca).1
    have lt_ki := (hH.2.2 _ _ k_ki).1
    have lt_kn := (hH.2.2 _ _ k_kn).1
    refine hs_iload (i := 2) (p := 5) (by decide +kernel) rfl ?_
    refine hs_aload (i := 0) (p := 6) (by decide +kernel) rfl ?_
    refine hf_get (T := et_TT) (t := 3) (ci := 1) (f := 0) (p := 9) (by decide +kernel) rfl hH k_e p0 ?_
    refine hs_br2n (c := .ge) (t := 30) (f := 12) (by decide +kernel) (by omega) (by omega) (fun (c9 : v.1 ≤ m) => ?_) (fun (c9 : ¬ (v.1 ≤ m)) => ?_)
    · refine hs_iload (i := 1) (p := 31) (by decide +kernel) rfl ?_
      refine hs_iret (by decide +kernel) ?_
      obtain rfl : m = v.1 := by omega
      rfl
    · refine hs_iload (i := 1) (p := 13) (by decide +kernel) rfl ?_
      refine hs_aload (i := 0) (p := 14) (by decide +kernel) rfl ?_
      refine hf_get (T := et_TT) (t := 3) (ci := 1) (f := 3) (p := 17) (by decide +kernel) rfl hH k_e p3 ?_
      refine hs_iload (i := 2) (p := 18) (by decide +kernel) rfl ?_
      refine hf_ald (ins := .iaload) (T := et_TT) (t := 15) (kd := 0) (N := 6) (p := 19) (by decide +kernel) (fun _ _ _ _ _ _ _ _ _ _ => rfl) rfl rfl rfl hH k_kn (by decide) (hN m (by omega)) ?_
      refine hs_math (mi := 309) (lk := 3) (p := 22) (by decide +kernel) rfl rfl rfl rfl ?_
      refine hs_iadd (p := 23) (by decide +kernel) ?_
      refine hs_istore (i := 1) (p := 24) (by decide +kernel) (Nat.le_of_ble_eq_true rfl) ?_
      refine hs_iinc1 (i := 2) (p := 27) (by decide +kernel) rfl (Nat.le_of_ble_eq_true rfl) ?_
      refine hs_goto (p := 4) (by decide +kernel) ?_
      exact ih (v.1 - (m + 1)) (by omega) (by omega) rfl
theorem fd_kn9 (hH : et_H et_TT K G) (t9 : evK K e ca ki kn v.1 v.2.2.1) (hv : evc G e ca ki kn v) : et_go none d2 36 0 (eg_en (eg_mL 36) [.ref e]) [] G 0 0 (xp_Z G (some (.int (knI v.2.2.2.1 v.1)))) := by
  have k_e := t9.1.1
  rw [show eg_mL 36 = 3 from by decide +kernel]
  show et_go none d2 36 0 [some (.ref e), none, none] [] G 0 0 _
  refine hs_k (x := Int32.ofNat 0) (p := 1) (by decide +kernel) ?_
  refine hs_istore (i := 1) (p := 2) (by decide +kernel) (Nat.le_of_ble_eq_true rfl) ?_
  refine hs_k (x := Int32.ofNat 0) (p := 3) (by decide +kernel) ?_
  refine hs_istore (i := 2) (p := 4) (by decide +kernel) (Nat.le_of_ble_eq_true rfl) ?_
  exact fd_knL (m := 0) hH t9 hv (Nat.zero_le _)
theorem fd_ctT (hH : et_H et_TT K G) (k_th : K th = some 12) (h0 : et_pl (eg_at G th) 0 = some (.ref s0)) (k_s0 : K s0 = some 10) (h4 : et_pl (eg_at G th) 4 = some (.ref fo)) (k_fo : K fo = some 4) (t9 : evK K e ca ki kn v.1 v.2.2.1) (hv : evc G e ca ki kn v) (g2 : et_pl (eg_at G s0) 2 = some (.int (Int32.ofNat nc))) (hnc : nc ≤ 20) (hcc : ccP G s0 la ly nc X Y) (k_la : K la = some 17) (k_ly : K ly = some 27) (k_cl : K cl = some 2) (c0 : et_pl (eg_at G cl) 0 = some (.ref bb2)) (k_bb2 : K bb2 = some 6) (hdc : dn G 15 lo2 hi2 bb2 f2) (hcl2 : cl02 f2) : et_go none (d + 19) 127 38 [some (.ref th), some (.ref cl), some (.ref e), x3] [.int z9] G ck sk (fun u => u.1 = .inl (some (.int (Int32.ofNat (if (f2 (cE (Int32.ofNat (rtE v X Y nc)) (Int32.ofNat nc) z9 v.2.2.2.2.2.1 (knI v.2.2.2.1 v.1) (decide (¬ bpV v X Y nc = (-1))))) = true then 1 else 0))))) := by
  have k_e := t9.1.1
  have lt_th := (hH.2.2 _ _ k_th).1
  have lt_s0 := (hH.2.2 _ _ k_s0).1
  have lt_fo := (hH.2.2 _ _ k_fo).1
  have lt_e := (hH.2.2 _ _ k_e).1
  have lt_la := (hH.2.2 _ _ k_la).1
  have lt_ly := (hH.2.2 _ _ k_ly).1
  have lt_cl := (hH.2.2 _ _ k_cl).1
  have lt_bb2 := (hH.2.2 _ _ k_bb2).1
  refine hs_istore (i := 3) (p := 39) (by decide +kernel) (Nat.le_of_ble_eq_true rfl) ?_
  refine hs_aload (i := 0) (p := 40) (by decide +kernel) rfl ?_
  refine hf_get (T := et_TT) (t := 12) (ci := 10) (f := 4) (p := 43) (by decide +kernel) rfl hH k_th h4 ?_
  refine hs_iload (i := 3) (p := 44) (by decide +kernel) rfl ?_
  have hHo := hH
  refine hf_put (T := et_TT) (t := 4) (ci := 2) (f := 9) (p := 47) (ty := .int) (by decide +kernel) rfl rfl rfl rfl rfl hH k_fo hi_any (fun G44 hH x44 e44 => ?_)
  have hdc := hdc.k6 hHo (n6.xs hHo x44 (fun b j h => by rw [h.1, k_fo]; decide)) k_bb2
  have hv : evc G44 e ca ki kn v := evC.xs hv t9 hHo x44 (fun b j h => by rw [h.1, k_fo]; exact ⟨by decide, by decide⟩)
  have hcc : ccP G44 s0 la ly nc X Y := ⟨⟨(x44.2 s0 3 lt_s0 (fun h => hi_ne k_s0 k_fo (by decide) h.1)).trans hcc.1.1, (x44.2 s0 4 lt_s0 (fun h => hi_ne k_s0 k_fo (by decide) h.1)).trans hcc.1.2⟩, fun k hk => ⟨(x44.2 la k lt_la (fun h => hi_ne k_la k_fo (by decide) h.1)).trans (hcc.2 k hk).1, (x44.2 ly k lt_ly (fun h => hi_ne k_ly k_fo (by decide) h.1)).trans (hcc.2 k hk).2.1, (hcc.2 k hk).2.2⟩⟩
  have h0 := (x44.2 th 0 lt_th (fun h => (hi_ne k_th k_fo (by decide)) h.1)).trans h0
  have h4 := (x44.2 th 4 lt_th (fun h => (hi_ne k_th k_fo (by decide)) h.1)).trans h4
  have g2 := (x44.2 s0 2 lt_s0 (fun h => (hi_ne k_s0 k_fo (by decide)) h.1)).trans g2
  have c0 := (x44.2 cl 0 lt_cl (fun h => (hi_ne k_cl k_fo (by decide)) h.1)).trans c0
  have lt_th := Nat.lt_of_lt_of_le lt_th x44.1
  have lt_s0 := Nat.lt_of_lt_of_le lt_s0 x44.1
  have lt_fo := Nat.lt_of_lt_of_le lt_fo x44.1
  have lt_e := Nat.lt_of_lt_of_le lt_e x44.1
  have lt_la := Nat.lt_of_lt_of_le lt_la x44.1
  have lt_ly := Nat.lt_of_lt_of_le lt_ly x44.1
  have lt_cl := Nat.lt_of_lt_of_le lt_cl x44.1
  have lt_bb2 := Nat.lt_of_lt_of_le lt_bb2 x44.1
  refine hs_aload (i := 0) (p := 48) (by decide +kernel) rfl ?_
  refine hf_get (T := et_TT) (t := 12) (ci := 10) (f := 4) (p := 51) (by decide +kernel) rfl hH k_th h4 ?_
  refine hs_aload (i := 0) (p := 52) (by decide +kernel) rfl ?_
  refine hf_get (T := et_TT) (t := 12) (ci := 10) (f := 0) (p := 55) (by decide +kernel) rfl hH k_th h0 ?_
  refine hs_aload (i := 2) (p := 56) (by decide +kernel) rfl ?_
  refine ht_callv (T := et_TT) (t := 10) (mi := 106) (na := 1) (ci := 8) (lk := 4) (lm := 4) (L0 := eg_en (eg_mL 106) [.ref s0, .ref e]) (by decide +kernel) rfl hH k_s0 rfl rfl rfl rfl rfl (by rw [show eg_mL 106 = 4 from by decide +kernel]; first | done | rfl) ?_
  refine (fc_rt hH k_s0 k_e t9 hv g2 hnc hcc k_la k_ly (by omega)).mono (fun u hu => xp_cb hu ?_)
  show et_go none _ 127 59 _ [.int (Int32.ofNat (rtE v X Y nc)), .ref fo] _ _ _ _
  have hHo := hH
  refine hf_put (T := et_TT) (t := 4) (ci := 2) (f := 7) (p := 62) (ty := .int) (by decide +kernel) rfl rfl rfl rfl rfl hH k_fo hi_any (fun G59 hH x59 e59 => ?_)
  have hdc := hdc.k6 hHo (n6.xs hHo x59 (fun b j h => by rw [h.1, k_fo]; decide)) k_bb2
  have hv : evc G59 e ca ki kn v := evC.xs hv t9 hHo x59 (fun b j h => by rw [h.1, k_fo]; exact ⟨by decide, by decide⟩)
  have hcc : ccP G59 s0 la ly nc X Y := ⟨⟨(x59.2 s0 3 lt_s0 (fun h => hi_ne k_s0 k_fo (by decide) h.1)).trans hcc.1.1, (x59.2 s0 4 lt_s0 (fun h => hi_ne k_s0 k_fo (by decide) h.1)).trans hcc.1.2⟩, fun k hk => ⟨(x59.2 la k lt_la (fun h => hi_ne k_la k_fo (by decide) h.1)).trans (hcc.2 k hk).1, (x59.2 ly k lt_ly (fun h => hi_ne k_ly k_fo (by decide) h.1)).trans (hcc.2 k hk).2.1, (hcc.2 k hk).2.2⟩⟩
  have h0 := (x59.2 th 0 lt_th (fun h => (hi_ne k_th k_fo (by decide)) h.1)).trans h0
  have h4 := (x59.2 th 4 lt_th (fun h => (hi_ne k_th k_fo (by decide)) h.1)).trans h4
  have g2 := (x59.2 s0 2 lt_s0 (fun h => (hi_ne k_s0 k_fo (by decide)) h.1)).trans g2
  have c0 := (x59.2 cl 0 lt_cl (fun h => (hi_ne k_cl k_fo (by decide)) h.1)).trans c0
  have e44 := (x59.2 fo 9 lt_fo (fun h => absurd h.2 (by decide))).trans e44
  have lt_th := Nat.lt_of_lt_of_le lt_th x59.1
  have lt_s0 := Nat.lt_of_lt_of_le lt_s0 x59.1
  have lt_fo := Nat.lt_of_lt_of_le lt_fo x59.1
  have lt_e := Nat.lt_of_lt_of_le lt_e x59.1
  have lt_la := Nat.lt_of_lt_of_le lt_la x59.1
  have lt_ly := Nat.lt_of_lt_of_le lt_ly x59.1
  have lt_cl := Nat.lt_of_lt_of_le lt_cl x59.1
  have lt_bb2 := Nat.lt_of_lt_of_le lt_bb2 x59.1
  refine hs_aload (i := 0) (p := 63) (by decide +kernel) rfl ?_
  refine hf_get (T := et_TT) (t := 12) (ci := 10) (f := 4) (p := 66) (by decide +kernel) rfl hH k_th h4 ?_
  refine hs_aload (i := 0) (p := 67) (by decide +kernel) rfl ?_
  refine hf_get (T := et_TT) (t := 12) (ci := 10) (f := 0) (p := 70) (by decide +kernel) rfl hH k_th h0 ?_
  refine hf_get (T := et_TT) (t := 10) (ci := 8) (f := 2) (p := 73) (by decide +kernel) rfl hH k_s0 g2 ?_
  have hHo := hH
  refine hf_put (T := et_TT) (t := 4) (ci := 2) (f := 8) (p := 76) (ty := .int) (by decide +kernel) rfl rfl rfl rfl rfl hH k_fo hi_any (fun G73 hH x73 e73 => ?_)
  have hdc := hdc.k6 hHo (n6.xs hHo x73 (fun b j h => by rw [h.1, k_fo]; decide)) k_bb2
  have hv : evc G73 e ca ki kn v := evC.xs hv t9 hHo x73 (fun b j h => by rw [h.1, k_fo]; exact ⟨by decide, by decide⟩)
  have hcc : ccP G73 s0 la ly nc X Y := ⟨⟨(x73.2 s0 3 lt_s0 (fun h => hi_ne k_s0 k_fo (by decide) h.1)).trans hcc.1.1, (x73.2 s0 4 lt_s0 (fun h => hi_ne k_s0 k_fo (by decide) h.1)).trans hcc.1.2⟩, fun k hk => ⟨(x73.2 la k lt_la (fun h => hi_ne k_la k_fo (by decide) h.1)).trans (hcc.2 k hk).1, (x73.2 ly k lt_ly (fun h => hi_ne k_ly k_fo (by decide) h.1)).trans (hcc.2 k hk).2.1, (hcc.2 k hk).2.2⟩⟩
  have h0 := (x73.2 th 0 lt_th (fun h => (hi_ne k_th k_fo (by decide)) h.1)).trans h0
  have h4 := (x73.2 th 4 lt_th (fun h => (hi_ne k_th k_fo (by decide)) h.1)).trans h4
  have g2 := (x73.2 s0 2 lt_s0 (fun h => (hi_ne k_s0 k_fo (by decide)) h.1)).trans g2
  have c0 := (x73.2 cl 0 lt_cl (fun h => (hi_ne k_cl k_fo (by decide)) h.1)).trans c0
  have e44 := (x73.2 fo 9 lt_fo (fun h => absurd h.2 (by decide))).trans e44
  have e59 := (x73.2 fo 7 lt_fo (fun h => absurd h.2 (by decide))).trans e59
  have lt_th := Nat.lt_of_lt_of_le lt_th x73.1
  have lt_s0 := Nat.lt_of_lt_of_le lt_s0 x73.1
  have lt_fo := Nat.lt_of_lt_of_le lt_fo x73.1
  have lt_e := Nat.lt_of_lt_of_le lt_e x73.1
  have lt_la := Nat.lt_of_lt_of_le lt_la x73.1
  have lt_ly := Nat.lt_of_lt_of_le lt_ly x73.1
  have lt_cl := Nat.lt_of_lt_of_le lt_cl x73.1
  have lt_bb2 := Nat.lt_of_lt_of_le lt_bb2 x73.1
  refine hs_aload (i := 0) (p := 77) (by decide +kernel) rfl ?_
  refine hf_get (T := et_TT) (t := 12) (ci := 10) (f := 4) (p := 80) (by decide +kernel) rfl hH k_th h4 ?_
  refine hs_aload (i := 2) (p := 81) (by decide +kernel) rfl ?_
  refine hf_get (T := et_TT) (t := 3) (ci := 1) (f := 5) (p := 84) (by decide +kernel) rfl hH k_e hv.2.2.2.2.1 ?_
  have hHo := hH
  refine hf_put (T := et_TT) (t := 4) (ci := 2) (f := 6) (p := 87) (ty := .int) (by decide +kernel) rfl rfl rfl rfl rfl hH k_fo hi_any (fun G84 hH x84 e84 => ?_)
  have hdc := hdc.k6 hHo (n6.xs hHo x84 (fun b j h => by rw [h.1, k_fo]; decide)) k_bb2
  have hv : evc G84 e ca ki kn v := evC.xs hv t9 hHo x84 (fun b j h => by rw [h.1, k_fo]; exact ⟨by decide, by decide⟩)
  have hcc : ccP G84 s0 la ly nc X Y := ⟨⟨(x84.2 s0 3 lt_s0 (fun h => hi_ne k_s0 k_fo (by decide) h.1)).trans hcc.1.1, (x84.2 s0 4 lt_s0 (fun h => hi_ne k_s0 k_fo (by decide) h.1)).trans hcc.1.2⟩, fun k hk => ⟨(x84.2 la k lt_la (fun h => hi_ne k_la k_fo (by decide) h.1)).trans (hcc.2 k hk).1, (x84.2 ly k lt_ly (fun h => hi_ne k_ly k_fo (by decide) h.1)).trans (hcc.2 k hk).2.1, (hcc.2 k hk).2.2⟩⟩
  have h0 := (x84.2 th 0 lt_th (fun h => (hi_ne k_th k_fo (by decide)) h.1)).trans h0
  have h4 := (x84.2 th 4 lt_th (fun h => (hi_ne k_th k_fo (by decide)) h.1)).trans h4
  have g2 := (x84.2 s0 2 lt_s0 (fun h => (hi_ne k_s0 k_fo (by decide)) h.1)).trans g2
  have c0 := (x84.2 cl 0 lt_cl (fun h => (hi_ne k_cl k_fo (by decide)) h.1)).trans c0
  have e44 := (x84.2 fo 9 lt_fo (fun h => absurd h.2 (by decide))).trans e44
  have e59 := (x84.2 fo 7 lt_fo (fun h => absurd h.2 (by decide))).trans e59
  have e73 := (x84.2 fo 8 lt_fo (fun h => absurd h.2 (by decide))).trans e73
  have lt_th := Nat.lt_of_lt_of_le lt_th x84.1
  have lt_s0 := Nat.lt_of_lt_of_le lt_s0 x84.1
  have lt_fo := Nat.lt_of_lt_of_le lt_fo x84.1
  have lt_e := Nat.lt_of_lt_of_le lt_e x84.1
  have lt_la := Nat.lt_of_lt_of_le lt_la x84.1
  have lt_ly := Nat.lt_of_lt_of_le lt_ly x84.1
  have lt_cl := Nat.lt_of_lt_of_le lt_cl x84.1
  have lt_bb2 := Nat.lt_of_lt_of_le lt_bb2 x84.1
  refine hs_aload (i := 0) (p := 88) (by decide +kernel) rfl ?_
  refine hf_get (T := et_TT) (t := 12) (ci := 10) (f := 4) (p := 91) (by decide +kernel) rfl hH k_th h4 ?_
  refine hs_aload (i := 2) (p := 92) (by decide +kernel) rfl ?_
  refine ht_callv (T := et_TT) (t := 3) (mi := 36) (na := 0) (ci := 1) (lk := 4) (lm := 3) (L0 := eg_en (eg_mL 36) [.ref e]) (by decide +kernel) rfl hH k_e rfl rfl rfl rfl rfl (by rw [show eg_mL 36 = 3 from by decide +kernel]; first | done | rfl) ?_
  refine (fd_kn9 hH t9 hv).mono (fun u hu => xp_cb hu ?_)
  show et_go none _ 127 95 _ [.int (knI v.2.2.2.1 v.1), .ref fo] _ _ _ _
  have hHo := hH
  refine hf_put (T := et_TT) (t := 4) (ci := 2) (f := 10) (p := 98) (ty := .int) (by decide +kernel) rfl rfl rfl rfl rfl hH k_fo hi_any (fun G95 hH x95 e95 => ?_)
  have hdc := hdc.k6 hHo (n6.xs hHo x95 (fun b j h => by rw [h.1, k_fo]; decide)) k_bb2
  have hv : evc G95 e ca ki kn v := evC.xs hv t9 hHo x95 (fun b j h => by rw [h.1, k_fo]; exact ⟨by decide, by decide⟩)
  have hcc : ccP G95 s0 la ly nc X Y := ⟨⟨(x95.2 s0 3 lt_s0 (fun h => hi_ne k_s0 k_fo (by decide) h.1)).trans hcc.1.1, (x95.2 s0 4 lt_s0 (fun h => hi_ne k_s0 k_fo (by decide) h.1)).trans hcc.1.2⟩, fun k hk => ⟨(x95.2 la k lt_la (fun h => hi_ne k_la k_fo (by decide) h.1)).trans (hcc.2 k hk).1, (x95.2 ly k lt_ly (fun h => hi_ne k_ly k_fo (by decide) h.1)).trans (hcc.2 k hk).2.1, (hcc.2 k hk).2.2⟩⟩
  have h0 := (x95.2 th 0 lt_th (fun h => (hi_ne k_th k_fo (by decide)) h.1)).trans h0
  have h4 := (x95.2 th 4 lt_th (fun h => (hi_ne k_th k_fo (by decide)) h.1)).trans h4
  have g2 := (x95.2 s0 2 lt_s0 (fun h => (hi_ne k_s0 k_fo (by decide)) h.1)).trans g2
  have c0 := (x95.2 cl 0 lt_cl (fun h => (hi_ne k_cl k_fo (by decide)) h.1)).trans c0
  have e44 := (x95.2 fo 9 lt_fo (fun h => absurd h.2 (by decide))).trans e44
  have e59 := (x95.2 fo 7 lt_fo (fun h => absurd h.2 (by decide))).trans e59
  have e73 := (x95.2 fo 8 lt_fo (fun h => absurd h.2 (by decide))).trans e73
  have e84 := (x95.2 fo 6 lt_fo (fun h => absurd h.2 (by decide))).trans e84
  have lt_th := Nat.lt_of_lt_of_le lt_th x95.1
  have lt_s0 := Nat.lt_of_lt_of_le lt_s0 x95.1
  have lt_fo := Nat.lt_of_lt_of_le lt_fo x95.1
  have lt_e := Nat.lt_of_lt_of_le lt_e x95.1
  have lt_la := Nat.lt_of_lt_of_le lt_la x95.1
  have lt_ly := Nat.lt_of_lt_of_le lt_ly x95.1
  have lt_cl := Nat.lt_of_lt_of_le lt_cl x95.1
  have lt_bb2 := Nat.lt_of_lt_of_le lt_bb2 x95.1
  refine hs_aload (i := 0) (p := 99) (by decide +kernel) rfl ?_
  refine hf_get (T := et_TT) (t := 12) (ci := 10) (f := 4) (p := 102) (by decide +kernel) rfl hH k_th h4 ?_
  refine hs_aload (i := 0) (p := 103) (by decide +kernel) rfl ?_
  refine hf_get (T := et_TT) (t := 12) (ci := 10) (f := 0) (p := 106) (by decide +kernel) rfl hH k_th h0 ?_
  refine hs_aload (i := 2) (p := 107) (by decide +kernel) rfl ?_
  refine ht_callv (T := et_TT) (t := 10) (mi := 107) (na := 1) (ci := 8) (lk := 4) (lm := 5) (L0 := eg_en (eg_mL 107) [.ref s0, .ref e]) (by decide +kernel) rfl hH k_s0 rfl rfl rfl rfl rfl (by rw [show eg_mL 107 = 5 from by decide +kernel]; first | done | rfl) ?_
  refine (fd_bp hH t9 hv k_s0 k_la k_ly g2 hcc hnc (by omega)).mono (fun u hu => xp_cb hu ?_)
  show et_go none _ 127 110 _ [.int (bpV v X Y nc), .ref fo] _ _ _ _
  refine hs_k (x := (-1)) (p := 111) (by decide +kernel) ?_
  refine hs_br2 (c := .eq) (t := 118) (f := 114) (by decide +kernel) (fun (c111 : (bpV v X Y nc) = (-1)) => ?_) (fun (c111 : ¬ ((bpV v X Y nc) = (-1))) => ?_)
  · refine hs_k (x := Int32.ofNat 0) (p := 119) (by decide +kernel) ?_
    have hHo := hH
    refine hf_put (T := et_TT) (t := 4) (ci := 2) (f := 11) (p := 122) (ty := .boolean) (by decide +kernel) rfl rfl rfl (by decide +kernel) rfl hH k_fo (hi_nv (by omega) (by omega)) (fun G119 hH x119 e119 => ?_)
    have hdc := hdc.k6 hHo (n6.xs hHo x119 (fun b j h => by rw [h.1, k_fo]; decide)) k_bb2
    have hv : evc G119 e ca ki kn v := evC.xs hv t9 hHo x119 (fun b j h => by rw [h.1, k_fo]; exact ⟨by decide, by decide⟩)
    have hcc : ccP G119 s0 la ly nc X Y := ⟨⟨(x119.2 s0 3 lt_s0 (fun h => hi_ne k_s0 k_fo (by decide) h.1)).trans hcc.1.1, (x119.2 s0 4 lt_s0 (fun h => hi_ne k_s0 k_fo (by decide) h.1)).trans hcc.1.2⟩, fun k hk => ⟨(x119.2 la k lt_la (fun h => hi_ne k_la k_fo (by decide) h.1)).trans (hcc.2 k hk).1, (x119.2 ly k lt_ly (fun h => hi_ne k_ly k_fo (by decide) h.1)).trans (hcc.2 k hk).2.1, (hcc.2 k hk).2.2⟩⟩
    have h0 := (x119.2 th 0 lt_th (fun h => (hi_ne k_th k_fo (by decide)) h.1)).trans h0
    have h4 := (x119.2 th 4 lt_th (fun h => (hi_ne k_th k_fo (by decide)) h.1)).trans h4
    have g2 := (x119.2 s0 2 lt_s0 (fun h => (hi_ne k_s0 k_fo (by decide)) h.1)).trans g2
    have c0 := (x119.2 cl 0 lt_cl (fun h => (hi_ne k_cl k_fo (by decide)) h.1)).trans c0
    have e44 := (x119.2 fo 9 lt_fo (fun h => absurd h.2 (by decide))).trans e44
    have e59 := (x119.2 fo 7 lt_fo (fun h => absurd h.2 (by decide))).trans e59
    have e73 := (x119.2 fo 8 lt_fo (fun h => absurd h.2 (by decide))).trans e73
    have e84 := (x119.2 fo 6 lt_fo (fun h => absurd h.2 (by decide))).trans e84
    have e95 := (x119.2 fo 10 lt_fo (fun h => absurd h.2 (by decide))).trans e95
    have lt_th := Nat.lt_of_lt_of_le lt_th x119.1
    have lt_s0 := Nat.lt_of_lt_of_le lt_s0 x119.1
    have lt_fo := Nat.lt_of_lt_of_le lt_fo x119.1
    have lt_e := Nat.lt_of_lt_of_le lt_e x119.1
    have lt_la := Nat.lt_of_lt_of_le lt_la x119.1
    have lt_ly := Nat.lt_of_lt_of_le lt_ly x119.1
    have lt_cl := Nat.lt_of_lt_of_le lt_cl x119.1
    have lt_bb2 := Nat.lt_of_lt_of_le lt_bb2 x119.1
    refine hs_aload (i := 1) (p := 123) (by decide +kernel) rfl ?_
    refine hf_get (T := et_TT) (t := 2) (ci := 0) (f := 0) (p := 126) (by decide +kernel) rfl hH k_cl c0 ?_
    refine hs_aload (i := 0) (p := 127) (by decide +kernel) rfl ?_
    refine hf_get (T := et_TT) (t := 12) (ci := 10) (f := 4) (p := 130) (by decide +kernel) rfl hH k_th h4 ?_
    refine hs_k (x := Int32.ofNat 0) (p := 131) (by decide +kernel) ?_
    obtain ⟨F, hF⟩ := foR_of hH k_fo
    have f6 : F 6 = v.2.2.2.2.2.1 := Value.int.inj (Option.some.inj ((hF.2.1 6 (by decide)).symm.trans e84))
    have f7 : F 7 = Int32.ofNat (rtE v X Y nc) := Value.int.inj (Option.some.inj ((hF.2.1 7 (by decide)).symm.trans e59))
    have f8 : F 8 = Int32.ofNat nc := Value.int.inj (Option.some.inj ((hF.2.1 8 (by decide)).symm.trans e73))
    have f9 : F 9 = z9 := Value.int.inj (Option.some.inj ((hF.2.1 9 (by decide)).symm.trans e44))
    have f10 : F 10 = (knI v.2.2.2.1 v.1) := Value.int.inj (Option.some.inj ((hF.2.1 10 (by decide)).symm.trans e95))
    have f11 : F 11 = Int32.ofNat 0 := Value.int.inj (Option.some.inj ((hF.2.1 11 (by decide)).symm.trans e119))
    have f11b : decide (¬ F 11 = 0) = decide (¬ bpV v X Y nc = (-1)) := by rw [f11]; exact decide_eq_decide.mpr ⟨fun h => absurd rfl h, fun h => absurd c111 h⟩
    have e9 := ce_fe hcl2 f7 f8 f9 f6 f10 f11b
    refine ht_callv (T := et_TT) (t := 6) (mi := 60) (na := 2) (ci := 4) (lk := 4) (lm := 4) (L0 := eg_en (eg_mL 60) [.ref bb2, .ref fo, .int (Int32.ofNat 0)]) (by decide +kernel) rfl hH k_bb2 rfl rfl rfl rfl rfl (by rw [show eg_mL 60 = 4 from by decide +kernel]; first | done | rfl) ?_
    refine (fx_true hH hF 15 hdc k_bb2 (by omega) (by omega)).mono (fun u hu => xp_cb hu ?_)
    show et_go none _ 127 134 _ [.int (Int32.ofNat (if f2 (feE F) = true then 1 else 0))] _ _ _ _
    refine hs_zret (by decide +kernel) (by first | (split; exact .inr rfl; exact .inl rfl) | (split; exact .inl rfl; exact .inr rfl)) ?_
    rw [e9]
  · refine hs_k (x := Int32.ofNat 1) (p := 115) (by decide +kernel) ?_
    refine hs_goto (p := 119) (by decide +kernel) ?_
    have hHo := hH
    refine hf_put (T := et_TT) (t := 4) (ci := 2) (f := 11) (p := 122) (ty := .boolean) (by decide +kernel) rfl rfl rfl (by decide +kernel) rfl hH k_fo (hi_nv (by omega) (by omega)) (fun G119 hH x119 e119 => ?_)
    have hdc := hdc.k6 hHo (n6.xs hHo x119 (fun b j h => by rw [h.1, k_fo]; decide)) k_bb2
    have hv : evc G119 e ca ki kn v := evC.xs hv t9 hHo x119 (fun b j h => by rw [h.1, k_fo]; exact ⟨by decide, by decide⟩)
    have hcc : ccP G119 s0 la ly nc X Y := ⟨⟨(x119.2 s0 3 lt_s0 (fun h => hi_ne k_s0 k_fo (by decide) h.1)).trans hcc.1.1, (x119.2 s0 4 lt_s0 (fun h => hi_ne k_s0 k_fo (by decide) h.1)).trans hcc.1.2⟩, fun k hk => ⟨(x119.2 la k lt_la (fun h => hi_ne k_la k_fo (by decide) h.1)).trans (hcc.2 k hk).1, (x119.2 ly k lt_ly (fun h => hi_ne k_ly k_fo (by decide) h.1)).trans (hcc.2 k hk).2.1, (hcc.2 k hk).2.2⟩⟩
    have h0 := (x119.2 th 0 lt_th (fun h => (hi_ne k_th k_fo (by decide)) h.1)).trans h0
    have h4 := (x119.2 th 4 lt_th (fun h => (hi_ne k_th k_fo (by decide)) h.1)).trans h4
    have g2 := (x119.2 s0 2 lt_s0 (fun h => (hi_ne k_s0 k_fo (by decide)) h.1)).trans g2
    have c0 := (x119.2 cl 0 lt_cl (fun h => (hi_ne k_cl k_fo (by decide)) h.1)).trans c0
    have e44 := (x119.2 fo 9 lt_fo (fun h => absurd h.2 (by decide))).trans e44
    have e59 := (x119.2 fo 7 lt_fo (fun h => absurd h.2 (by decide))).trans e59
    have e73 := (x119.2 fo 8 lt_fo (fun h => absurd h.2 (by decide))).trans e73
    have e84 := (x119.2 fo 6 lt_fo (fun h => absurd h.2 (by decide))).trans e84
    have e95 := (x119.2 fo 10 lt_fo (fun h => absurd h.2 (by decide))).trans e95
    have lt_th := Nat.lt_of_lt_of_le lt_th x119.1
    have lt_s0 := Nat.lt_of_lt_of_le lt_s0 x119.1
    have lt_fo := Nat.lt_of_lt_of_le lt_fo x119.1
    have lt_e := Nat.lt_of_lt_of_le lt_e x119.1
    have lt_la := Nat.lt_of_lt_of_le lt_la x119.1
    have lt_ly := Nat.lt_of_lt_of_le lt_ly x119.1
    have lt_cl := Nat.lt_of_lt_of_le lt_cl x119.1
    have lt_bb2 := Nat.lt_of_lt_of_le lt_bb2 x119.1
    refine hs_aload (i := 1) (p := 123) (by decide +kernel) rfl ?_
    refine hf_get (T := et_TT) (t := 2) (ci := 0) (f := 0) (p := 126) (by decide +kernel) rfl hH k_cl c0 ?_
    refine hs_aload (i := 0) (p := 127) (by decide +kernel) rfl ?_
    refine hf_get (T := et_TT) (t := 12) (ci := 10) (f := 4) (p := 130) (by decide +kernel) rfl hH k_th h4 ?_
    refine hs_k (x := Int32.ofNat 0) (p := 131) (by decide +kernel) ?_
    obtain ⟨F, hF⟩ := foR_of hH k_fo
    have f6 : F 6 = v.2.2.2.2.2.1 := Value.int.inj (Option.some.inj ((hF.2.1 6 (by decide)).symm.trans e84))
    have f7 : F 7 = Int32.ofNat (rtE v X Y nc) := Value.int.inj (Option.some.inj ((hF.2.1 7 (by decide)).symm.trans e59))
    have f8 : F 8 = Int32.ofNat nc := Value.int.inj (Option.some.inj ((hF.2.1 8 (by decide)).symm.trans e73))
    have f9 : F 9 = z9 := Value.int.inj (Option.some.inj ((hF.2.1 9 (by decide)).symm.trans e44))
    have f10 : F 10 = (knI v.2.2.2.1 v.1) := Value.int.inj (Option.some.inj ((hF.2.1 10 (by decide)).symm.trans e95))
    have f11 : F 11 = Int32.ofNat 1 := Value.int.inj (Option.some.inj ((hF.2.1 11 (by decide)).symm.trans e119))
    have f11b : decide (¬ F 11 = 0) = decide (¬ bpV v X Y nc = (-1)) := by rw [f11]; exact decide_eq_decide.mpr ⟨fun h => c111, fun h => (by decide)⟩
    have e9 := ce_fe hcl2 f7 f8 f9 f6 f10 f11b
    refine ht_callv (T := et_TT) (t := 6) (mi := 60) (na := 2) (ci := 4) (lk := 4) (lm := 4) (L0 := eg_en (eg_mL 60) [.ref bb2, .ref fo, .int (Int32.ofNat 0)]) (by decide +kernel) rfl hH k_bb2 rfl rfl rfl rfl rfl (by rw [show eg_mL 60 = 4 from by decide +kernel]; first | done | rfl) ?_
    refine (fx_true hH hF 15 hdc k_bb2 (by omega) (by omega)).mono (fun u hu => xp_cb hu ?_)
    show et_go none _ 127 134 _ [.int (Int32.ofNat (if f2 (feE F) = true then 1 else 0))] _ _ _ _
    refine hs_zret (by decide +kernel) (by first | (split; exact .inr rfl; exact .inl rfl) | (split; exact .inl rfl; exact .inr rfl)) ?_
    rw [e9]
theorem fd_ct (hH : et_H et_TT K G) (k_th : K th = some 12) (h0 : et_pl (eg_at G th) 0 = some (.ref s0)) (k_s0 : K s0 = some 10) (h5 : et_pl (eg_at G s0) 5 = some (.int (Int32.ofNat ec))) (hec : ec ≤ 3) (h6 : et_pl (eg_at G s0) 6 = some (.ref ya)) (k_ya : K ya = some 40) (hn : n < ec) (hE : et_pl (eg_at G ya) n = some (.ref e)) (t9 : evK K e ca ki kn v.1 v.2.2.1) (hv : evc G e ca ki kn v) (r0 : et_pl (eg_at G s0) 0 = some (.int (Int32.ofNat rc))) (hrc : rc ≤ 4) (r1 : et_pl (eg_at G s0) 1 = some (.ref ra)) (k_ra : K ra = some 37) (hr : r < rc) (hR : et_pl (eg_at G ra) r = some (.ref q)) (k_q : K q = some 8) (q0 : et_pl (eg_at G q) 0 = some (.ref bb)) (k_bb : K bb = some 6) (hdn : dn G 15 lo hi bb f) (hTb : tbP G q f) (hcl : fcl f) (h4 : et_pl (eg_at G th) 4 = some (.ref fo)) (k_fo : K fo = some 4) (g2 : et_pl (eg_at G s0) 2 = some (.int (Int32.ofNat nc))) (hnc : nc ≤ 20) (hcc : ccP G s0 la ly nc X Y) (k_la : K la = some 17) (k_ly : K ly = some 27) (k_cl : K cl = some 2) (c0 : et_pl (eg_at G cl) 0 = some (.ref bb2)) (k_bb2 : K bb2 = some 6) (hdc : dn G 15 lo2 hi2 bb2 f2) (hcl2 : cl02 f2) (c1 : et_pl (eg_at G cl) 1 = some (.int (Int32.ofNat n))) (c2 : et_pl (eg_at G cl) 2 = some (.int (Int32.ofNat r))) (c3 : et_pl (eg_at G cl) 3 = some (.int (Int32.ofNat fl))) (hfl : fl ≤ 1) (hnu : fl = 0 → nu17 f2) (hd : 34 ≤ d2) : et_go none d2 127 0 (eg_en (eg_mL 127) [.ref th, .ref cl]) [] G 0 0 (fun u => u.1 = .inl (some (.int (Int32.ofNat (if (clV f2 f v X Y nc) = true then 1 else 0))))) := by
  obtain ⟨d, rfl⟩ : ∃ d, d2 = d + 34 := ⟨d2 - 34, by omega⟩
  have k_e := t9.1.1
  rw [show eg_mL 127 = 4 from by decide +kernel]
  show et_go none (d + 34) 127 0 [some (.ref th), some (.ref cl), none, none] [] G 0 0 _
  have lt_th := (hH.2.2 _ _ k_th).1
  have lt_s0 := (hH.2.2 _ _ k_s0).1
  have lt_ya := (hH.2.2 _ _ k_ya).1
  have lt_ra := (hH.2.2 _ _ k_ra).1
  have lt_cl := (hH.2.2 _ _ k_cl).1
  have lt_fo := (hH.2.2 _ _ k_fo).1
  have lt_q := (hH.2.2 _ _ k_q).1
  refine hs_aload (i := 0) (p := 1) (by decide +kernel) rfl ?_
  refine hs_aload (i := 1) (p := 2) (by decide +kernel) rfl ?_
  refine hf_get (T := et_TT) (t := 2) (ci := 0) (f := 1) (p := 5) (by decide +kernel) rfl hH k_cl c1 ?_
  refine ht_callv (T := et_TT) (t := 12) (mi := 128) (na := 1) (ci := 10) (lk := 4) (lm := 2) (L0 := eg_en (eg_mL 128) [.ref th, .int (Int32.ofNat n)]) (by decide +kernel) rfl hH k_th rfl rfl rfl rfl rfl (by rw [show eg_mL 128 = 2 from by decide +kernel]; first | done | rfl) ?_
  refine (fd_needE hH k_th h0 k_s0 h5 hec h6 k_ya hn hE).mono (fun u hu => xp_cb hu ?_)
  show et_go none _ 127 8 _ [.ref e] _ _ _ _
  refine hs_astore (i := 2) (p := 9) (by decide +kernel) (Nat.le_of_ble_eq_true rfl) ?_
  refine hs_aload (i := 1) (p := 10) (by decide +kernel) rfl ?_
  refine hf_get (T := et_TT) (t := 2) (ci := 0) (f := 3) (p := 13) (by decide +kernel) rfl hH k_cl c3 ?_
  refine hs_br1 (c := .eq) (t := 37) (f := 16) (by decide +kernel) (fun (c13 : Int32.ofNat fl = 0) => ?_) (fun (c13 : ¬ (Int32.ofNat fl = 0)) => ?_)
  · have c13 : fl = 0 := (hs_neq (b := 0) (by omega) (by decide)).mp c13
    refine hs_k (x := Int32.ofNat 0) (p := 38) (by decide +kernel) ?_
    refine (fd_ctT (z9 := Int32.ofNat 0) hH k_th h0 k_s0 h4 k_fo t9 hv g2 hnc hcc k_la k_ly k_cl c0 k_bb2 hdc hcl2).mono (fun u hu => ?_)
    have e9 : (f2 (cE (Int32.ofNat (rtE v X Y nc)) (Int32.ofNat nc) (Int32.ofNat 0) v.2.2.2.2.2.1 (knI v.2.2.2.1 v.1) (decide (¬ bpV v X Y nc = (-1))))) = (clV f2 f v X Y nc) := ce_nu (hnu c13)
    rw [← e9]
    exact hu
  · refine hs_aload (i := 0) (p := 17) (by decide +kernel) rfl ?_
    refine hs_aload (i := 2) (p := 18) (by decide +kernel) rfl ?_
    refine hs_aload (i := 0) (p := 19) (by decide +kernel) rfl ?_
    refine hs_aload (i := 1) (p := 20) (by decide +kernel) rfl ?_
    refine hf_get (T := et_TT) (t := 2) (ci := 0) (f := 2) (p := 23) (by decide +kernel) rfl hH k_cl c2 ?_
    refine ht_callv (T := et_TT) (t := 12) (mi := 129) (na := 1) (ci := 10) (lk := 4) (lm := 2) (L0 := eg_en (eg_mL 129) [.ref th, .int (Int32.ofNat r)]) (by decide +kernel) rfl hH k_th rfl rfl rfl rfl rfl (by rw [show eg_mL 129 = 2 from by decide +kernel]; first | done | rfl) ?_
    refine (fd_needQ hH k_th h0 k_s0 r0 hrc r1 k_ra hr hR).mono (fun u hu => xp_cb hu ?_)
    show et_go none _ 127 26 _ [.ref q, .ref e, .ref th] _ _ _ _
    refine hs_k (x := (-1)) (p := 27) (by decide +kernel) ?_
    have hHo := hH
    refine ht_callv (T := et_TT) (t := 12) (mi := 130) (na := 3) (ci := 10) (lk := 4) (lm := 7) (L0 := eg_en (eg_mL 130) [.ref th, .ref e, .ref q, .int (-1)]) (by decide +kernel) rfl hH k_th rfl rfl rfl rfl rfl (by rw [show eg_mL 130 = 7 from by decide +kernel]; first | done | rfl) ?_
    refine ((ek_c19 (K, [], G) [.ref th, .ref e, .ref q, .int (-1)] _ hH (by show 33 ≤ _; omega) rfl (ht_ac (.inr ⟨by decide, _, rfl, k_th⟩) (ht_ac (.inr ⟨by decide, _, rfl, k_e⟩) (ht_ac (.inr ⟨by decide, _, rfl, k_q⟩) (ht_ac hi_any ht_an))))).and (fc_od hH k_th t9 hv k_q q0 k_bb hdn hTb hcl h4 k_fo (by omega))).mono (fun u hu => ?_)
    obtain ⟨⟨es, hes, K1, hx1, hf1, hH, hv1, -, -⟩, hz⟩ := hu
    obtain ⟨u1, u2, u3, u4⟩ := u
    have hz : u1 = .inl (some (.int (Int32.ofNat (odN f v (-1) 65536)))) := hz
    subst hz
    have h0 := (hf1.2 th 12 k_th 0 (by decide +kernel)).trans h0
    have h4 := (hf1.2 th 12 k_th 4 (by decide +kernel)).trans h4
    have g2 := (hf1.2 s0 10 k_s0 2 (by decide +kernel)).trans g2
    have c0 := (hf1.2 cl 2 k_cl 0 (by decide +kernel)).trans c0
    have hv : evc u2 e ca ki kn v := evC.fr hv t9 hf1 (by decide +kernel) (by decide +kernel)
    have hcc := hcc.fr k_s0 k_la k_ly hf1 (by decide +kernel)
    have hdc := hdc.k6 hHo (n6.fr hf1 (by decide +kernel)) k_bb2
    have t9 := t9.ex hx1
    have k_th := hx1 _ _ k_th
    have k_s0 := hx1 _ _ k_s0
    have k_fo := hx1 _ _ k_fo
    have k_la := hx1 _ _ k_la
    have k_ly := hx1 _ _ k_ly
    have k_cl := hx1 _ _ k_cl
    have k_bb2 := hx1 _ _ k_bb2
    refine hs_cb ?_
    show et_go none _ 127 30 _ [.int (Int32.ofNat (odN f v (-1) 65536))] _ _ _ _
    refine hs_k (x := Int32.ofNat 656) (p := 33) (by decide +kernel) ?_
    refine hs_idiv (p := 34) (by decide +kernel) (by decide) ?_
    refine hs_goto (p := 38) (by decide +kernel) ?_
    exact fd_ctT (z9 := unI f v) hH k_th h0 k_s0 h4 k_fo t9 hv g2 hnc hcc k_la k_ly k_cl c0 k_bb2 hdc hcl2
theorem fd_ho (hH : et_H et_TT K G) (k_th : K th = some 12) (h0 : et_pl (eg_at G th) 0 = some (.ref s0)) (k_s0 : K s0 = some 10) (h5 : et_pl (eg_at G s0) 5 = some (.int (Int32.ofNat ec))) (hec : ec ≤ 3) (h6 : et_pl (eg_at G s0) 6 = some (.ref ya)) (k_ya : K ya = some 40) (hn : n < ec) (hE : et_pl (eg_at G ya) n = some (.ref e)) (t9 : evK K e ca ki kn v.1 v.2.2.1) (hv : evc G e ca ki kn v) (r0 : et_pl (eg_at G s0) 0 = some (.int (Int32.ofNat rc))) (hrc : rc ≤ 4) (r1 : et_pl (eg_at G s0) 1 = some (.ref ra)) (k_ra : K ra = some 37) (hr : r < rc) (hR : et_pl (eg_at G ra) r = some (.ref q)) (k_q : K q = some 8) (q0 : et_pl (eg_at G q) 0 = some (.ref bb)) (k_bb : K bb = some 6) (hdn : dn G 15 lo hi bb f) (hTb : tbP G q f) (hcl : fcl f) (h4 : et_pl (eg_at G th) 4 = some (.ref fo)) (k_fo : K fo = some 4) (g2 : et_pl (eg_at G s0) 2 = some (.int (Int32.ofNat nc))) (hnc : nc ≤ 20) (hcc : ccP G s0 la ly nc X Y) (k_la : K la = some 17) (k_ly : K ly = some 27) (k_cl : K cl = some 2) (c0 : et_pl (eg_at G cl) 0 = some (.ref bb2)) (k_bb2 : K bb2 = some 6) (hdc : dn G 15 lo2 hi2 bb2 f2) (hcl2 : cl02 f2) (c1 : et_pl (eg_at G cl) 1 = some (.int (Int32.ofNat n))) (c2 : et_pl (eg_at G cl) 2 = some (.int (Int32.ofNat r))) (c3 : et_pl (eg_at G cl) 3 = some (.int (Int32.ofNat fl))) (hfl : fl ≤ 1) (hnu : fl = 0 → nu17 f2) (g9 : et_pl (eg_at G s0) 9 = some (.int (Int32.ofNat cc))) (hcc6 : cc ≤ 6) (g10 : et_pl (eg_at G s0) 10 = some (.ref cm)) (k_cm : K cm = some 39) (hk : k < cc) (hC : et_pl (eg_at G cm) k = some (.ref cl)) (hd : 35 ≤ d2) : et_go none d2 173 0 (eg_en (eg_mL 173) [.ref th, .int (Int32.ofNat k)]) [] G 0 0 (fun u => u.1 = .inl (some (.int (Int32.ofNat (if (clV f2 f v X Y nc) = true then 1 else 0))))) := by
  obtain ⟨d, rfl⟩ : ∃ d, d2 = d + 35 := ⟨d2 - 35, by omega⟩
  rw [show eg_mL 173 = 2 from by decide +kernel]
  show et_go none (d + 35) 173 0 [some (.ref th), some (.int (Int32.ofNat k))] [] G 0 0 _
  have lt_th := (hH.2.2 _ _ k_th).1
  have lt_s0 := (hH.2.2 _ _ k_s0).1
  have lt_cm := (hH.2.2 _ _ k_cm).1
  have lt_cl := (hH.2.2 _ _ k_cl).1
  refine hs_iload (i := 1) (p := 1) (by decide +kernel) rfl ?_
  refine hs_if0 (c := .lt) (t := 27) (f := 4) (by decide +kernel) (rs_nn (by omega)) ?_
  refine hs_iload (i := 1) (p := 5) (by decide +kernel) rfl ?_
  refine hs_aload (i := 0) (p := 6) (by decide +kernel) rfl ?_
  refine hf_get (T := et_TT) (t := 12) (ci := 10) (f := 0) (p := 9) (by decide +kernel) rfl hH k_th h0 ?_
  refine hf_get (T := et_TT) (t := 10) (ci := 8) (f := 9) (p := 12) (by decide +kernel) rfl hH k_s0 g9 ?_
  refine hs_br2n (c := .ge) (t := 27) (f := 15) (by decide +kernel) (by omega) (by omega) (fun (c12 : cc ≤ k) => ?_) (fun (c12 : ¬ (cc ≤ k)) => ?_)
  · exact absurd hk (by omega)
  · refine hs_aload (i := 0) (p := 16) (by decide +kernel) rfl ?_
    refine hf_get (T := et_TT) (t := 12) (ci := 10) (f := 0) (p := 19) (by decide +kernel) rfl hH k_th h0 ?_
    refine hf_get (T := et_TT) (t := 10) (ci := 8) (f := 10) (p := 22) (by decide +kernel) rfl hH k_s0 g10 ?_
    refine hs_iload (i := 1) (p := 23) (by decide +kernel) rfl ?_
    refine hf_ald (ins := .aaload) (T := et_TT) (t := 39) (kd := 8) (N := 6) (p := 24) (by decide +kernel) (fun _ _ _ _ _ _ _ _ _ _ => rfl) rfl rfl rfl hH k_cm (by decide) hC ?_
    refine hs_ifnonnull1 (p := 35) (by decide +kernel) ?_
    refine hs_aload (i := 0) (p := 36) (by decide +kernel) rfl ?_
    refine hs_aload (i := 0) (p := 37) (by decide +kernel) rfl ?_
    refine hf_get (T := et_TT) (t := 12) (ci := 10) (f := 0) (p := 40) (by decide +kernel) rfl hH k_th h0 ?_
    refine hf_get (T := et_TT) (t := 10) (ci := 8) (f := 10) (p := 43) (by decide +kernel) rfl hH k_s0 g10 ?_
    refine hs_iload (i := 1) (p := 44) (by decide +kernel) rfl ?_
    refine hf_ald (ins := .aaload) (T := et_TT) (t := 39) (kd := 8) (N := 6) (p := 45) (by decide +kernel) (fun _ _ _ _ _ _ _ _ _ _ => rfl) rfl rfl rfl hH k_cm (by decide) hC ?_
    refine ht_callv (T := et_TT) (t := 12) (mi := 127) (na := 1) (ci := 10) (lk := 2) (lm := 4) (L0 := eg_en (eg_mL 127) [.ref th, .ref cl]) (by decide +kernel) rfl hH k_th rfl rfl rfl rfl rfl (by rw [show eg_mL 127 = 4 from by decide +kernel]; first | done | rfl) ?_
    refine (fd_ct hH k_th h0 k_s0 h5 hec h6 k_ya hn hE t9 hv r0 hrc r1 k_ra hr hR k_q q0 k_bb hdn hTb hcl h4 k_fo g2 hnc hcc k_la k_ly k_cl c0 k_bb2 hdc hcl2 c1 c2 c3 hfl hnu (by omega)).mono (fun u hu => ?_)
    obtain ⟨u1, u2, u3, u4⟩ := u
    have hu : u1 = .inl (some (.int (Int32.ofNat (if (clV f2 f v X Y nc) = true then 1 else 0)))) := hu
    subst hu
    refine hs_cb ?_
    show et_go none _ 173 48 _ [.int (Int32.ofNat (if (clV f2 f v X Y nc) = true then 1 else 0))] _ _ _ _
    refine hs_zret (by decide +kernel) (by first | (split; exact .inr rfl; exact .inl rfl) | (split; exact .inl rfl; exact .inr rfl)) ?_
    rfl
theorem fd_hoN (hH : et_H et_TT K G) (k_th : K th = some 12) (h0 : et_pl (eg_at G th) 0 = some (.ref s0)) (k_s0 : K s0 = some 10) (g9 : et_pl (eg_at G s0) 9 = some (.int (Int32.ofNat cc))) (hcc6 : cc ≤ 6) (g10 : et_pl (eg_at G s0) 10 = some (.ref cm)) (k_cm : K cm = some 39) (hx : ¬ xr x cc) : et_go none d2 173 0 (eg_en (eg_mL 173) [.ref th, .int x]) [] G 0 0 (ix_Z 1 G) := by
  rw [show eg_mL 173 = 2 from by decide +kernel]
  show et_go none d2 173 0 [some (.ref th), some (.int x)] [] G 0 0 _
  have lt_th := (hH.2.2 _ _ k_th).1
  have lt_s0 := (hH.2.2 _ _ k_s0).1
  have lt_cm := (hH.2.2 _ _ k_cm).1
  refine hs_iload (i := 1) (p := 1) (by decide +kernel) rfl ?_
  refine hs_br1 (c := .lt) (t := 27) (f := 4) (by decide +kernel) (fun (c1 : x < 0) => ?_) (fun (c1 : ¬ (x < 0)) => ?_)
  · refine hs_thr (x := 1) (lk := 2) (by decide +kernel) rfl rfl ?_
    exact ⟨_, _, rfl⟩
  · refine hs_iload (i := 1) (p := 5) (by decide +kernel) rfl ?_
    refine hs_aload (i := 0) (p := 6) (by decide +kernel) rfl ?_
    refine hf_get (T := et_TT) (t := 12) (ci := 10) (f := 0) (p := 9) (by decide +kernel) rfl hH k_th h0 ?_
    refine hf_get (T := et_TT) (t := 10) (ci := 8) (f := 9) (p := 12) (by decide +kernel) rfl hH k_s0 g9 ?_
    refine hs_br2 (c := .ge) (t := 27) (f := 15) (by decide +kernel) (fun (c12 : Int32.ofNat cc ≤ x) => ?_) (fun (c12 : ¬ (Int32.ofNat cc ≤ x)) => ?_)
    · refine hs_thr (x := 1) (lk := 2) (by decide +kernel) rfl rfl ?_
      exact ⟨_, _, rfl⟩
    · exact absurd (by unfold xr; rw [xi_lt0] at c1; rw [xi_nle (k := cc) (by omega)] at c12; omega) hx
theorem fh_hoN (hH : et_H et_TT K G) (k_th : K th = some 12) (h0 : et_pl (eg_at G th) 0 = some (.ref s0)) (k_s0 : K s0 = some 10) (g9 : et_pl (eg_at G s0) 9 = some (.int (Int32.ofNat cc))) (hcc6 : cc ≤ 6) (g10 : et_pl (eg_at G s0) 10 = some (.ref cm)) (k_cm : K cm = some 39) (hx : ¬ xr x cc) (hd : 2 ≤ d2) : et_go none d2 29 0 (eg_en (eg_mL 29) [.ref th, .int x, .ref out]) [] G 0 0 (fun u => u.1 = .inl (some (.int (Int32.ofNat 1))) ∧ u.2.1 = G) := by
  obtain ⟨d, rfl⟩ : ∃ d, d2 = d + 2 := ⟨d2 - 2, by omega⟩
  rw [show eg_mL 29 = 4 from by decide +kernel]
  show et_go none (d + 2) 29 0 [some (.ref th), some (.int x), some (.ref out), none] [] G 0 0 _
  have lt_th := (hH.2.2 _ _ k_th).1
  refine hs_aload (i := 2) (p := 1) (by decide +kernel) rfl ?_
  refine hs_k (x := Int32.ofNat 0) (p := 2) (by decide +kernel) ?_
  refine hs_aload (i := 0) (p := 3) (by decide +kernel) rfl ?_
  refine hs_iload (i := 1) (p := 4) (by decide +kernel) rfl ?_
  refine ht_callv (T := et_TT) (t := 12) (mi := 173) (na := 1) (ci := 10) (lk := 4) (lm := 2) (L0 := eg_en (eg_mL 173) [.ref th, .int x]) (by decide +kernel) rfl hH k_th rfl rfl rfl rfl rfl (by rw [show eg_mL 173 = 2 from by decide +kernel]; first | done | rfl) ?_
  refine (fd_hoN hH k_th h0 k_s0 g9 hcc6 g10 k_cm hx).mono (fun u hu => ?_)
  obtain ⟨c4, s4, rfl⟩ := hu
  refine hs_ch (h := 19) (i := 3) (n := 1) (hh := (eg_mh 29).getD []) (by decide +kernel) ⟨by decide +kernel, by decide +kernel⟩ (Nat.le_of_ble_eq_true rfl) ?_
  show et_go none _ 29 20 [some (.ref th), some (.int x), some (.ref out), none] [] _ _ _ _
  refine hs_k (x := Int32.ofNat 1) (p := 21) (by decide +kernel) ?_
  refine hs_iret (by decide +kernel) ?_
  exact ⟨rfl, rfl⟩
theorem fh_ho (hH : et_H et_TT K G) (k_th : K th = some 12) (h0 : et_pl (eg_at G th) 0 = some (.ref s0)) (k_s0 : K s0 = some 10) (h5 : et_pl (eg_at G s0) 5 = some (.int (Int32.ofNat ec))) (hec : ec ≤ 3) (h6 : et_pl (eg_at G s0) 6 = some (.ref ya)) (k_ya : K ya = some 40) (hn : n < ec) (hE : et_pl (eg_at G ya) n = some (.ref e)) (t9 : evK K e ca ki kn v.1 v.2.2.1) (hv : evc G e ca ki kn v) (r0 : et_pl (eg_at G s0) 0 = some (.int (Int32.ofNat rc))) (hrc : rc ≤ 4) (r1 : et_pl (eg_at G s0) 1 = some (.ref ra)) (k_ra : K ra = some 37) (hr : r < rc) (hR : et_pl (eg_at G ra) r = some (.ref q)) (k_q : K q = some 8) (q0 : et_pl (eg_at G q) 0 = some (.ref bb)) (k_bb : K bb = some 6) (hdn : dn G 15 lo hi bb f) (hTb : tbP G q f) (hcl : fcl f) (h4 : et_pl (eg_at G th) 4 = some (.ref fo)) (k_fo : K fo = some 4) (g2 : et_pl (eg_at G s0) 2 = some (.int (Int32.ofNat nc))) (hnc : nc ≤ 20) (hcc : ccP G s0 la ly nc X Y) (k_la : K la = some 17) (k_ly : K ly = some 27) (k_cl : K cl = some 2) (c0 : et_pl (eg_at G cl) 0 = some (.ref bb2)) (k_bb2 : K bb2 = some 6) (hdc : dn G 15 lo2 hi2 bb2 f2) (hcl2 : cl02 f2) (c1 : et_pl (eg_at G cl) 1 = some (.int (Int32.ofNat n))) (c2 : et_pl (eg_at G cl) 2 = some (.int (Int32.ofNat r))) (c3 : et_pl (eg_at G cl) 3 = some (.int (Int32.ofNat fl))) (hfl : fl ≤ 1) (hnu : fl = 0 → nu17 f2) (g9 : et_pl (eg_at G s0) 9 = some (.int (Int32.ofNat cc))) (hcc6 : cc ≤ 6) (g10 : et_pl (eg_at G s0) 10 = some (.ref cm)) (k_cm : K cm = some 39) (hk : k < cc) (hC : et_pl (eg_at G cm) k = some (.ref cl)) (k_out : K out = some 31) (hd : 36 ≤ d2) : et_go none d2 29 0 (eg_en (eg_mL 29) [.ref th, .int (Int32.ofNat k), .ref out]) [] G 0 0 (fun u => u.1 = .inl (some (.int (Int32.ofNat 0))) ∧ et_pl (eg_at u.2.1 out) 0 = some (.long (Int64.ofNat (if (clV f2 f v X Y nc) = true then 1 else 0)))) := by
  obtain ⟨d, rfl⟩ : ∃ d, d2 = d + 36 := ⟨d2 - 36, by omega⟩
  rw [show eg_mL 29 = 4 from by decide +kernel]
  show et_go none (d + 36) 29 0 [some (.ref th), some (.int (Int32.ofNat k)), some (.ref out), none] [] G 0 0 _
  refine hs_aload (i := 2) (p := 1) (by decide +kernel) rfl ?_
  refine hs_k (x := Int32.ofNat 0) (p := 2) (by decide +kernel) ?_
  refine hs_aload (i := 0) (p := 3) (by decide +kernel) rfl ?_
  refine hs_iload (i := 1) (p := 4) (by decide +kernel) rfl ?_
  refine ht_callv (T := et_TT) (t := 12) (mi := 173) (na := 1) (ci := 10) (lk := 4) (lm := 2) (L0 := eg_en (eg_mL 173) [.ref th, .int (Int32.ofNat k)]) (by decide +kernel) rfl hH k_th rfl rfl rfl rfl rfl (by rw [show eg_mL 173 = 2 from by decide +kernel]; first | done | rfl) ?_
  refine ((ek_p173_ok (K, [], G) [.ref th, .int (Int32.ofNat k)] _ hH (by show 35 ≤ _; omega) rfl (ht_ac (.inr ⟨by decide, _, rfl, k_th⟩) (ht_ac hi_any ht_an))).and (fd_ho hH k_th h0 k_s0 h5 hec h6 k_ya hn hE t9 hv r0 hrc r1 k_ra hr hR k_q q0 k_bb hdn hTb hcl h4 k_fo g2 hnc hcc k_la k_ly k_cl c0 k_bb2 hdc hcl2 c1 c2 c3 hfl hnu g9 hcc6 g10 k_cm hk hC (by omega))).mono (fun u hu => ?_)
  obtain ⟨⟨es, hes, K1, hx1, hf1, hH1, hv1, -, -⟩, hz⟩ := hu
  obtain ⟨u1, u2, u3, u4⟩ := u
  have hz : u1 = .inl (some (.int (Int32.ofNat (if (clV f2 f v X Y nc) = true then 1 else 0)))) := hz
  subst hz
  rcases List.mem_cons.mp hes with rfl | hes
  · have hH := hH1
    have k_out := hx1 _ _ k_out
    by_cases hb : (clV f2 f v X Y nc) = true
    · rw [if_pos hb]
      refine hs_cb ?_
      show et_go none _ 29 7 _ [.int (Int32.ofNat 1), .int (Int32.ofNat 0), .ref out] _ _ _ _
      refine hs_if0 (c := .eq) (t := 14) (f := 10) (by decide +kernel) (show ¬ (Int32.ofNat 1 = 0) by decide) ?_
      refine hs_st (ins := .lconst 1) (len := 1) (p := 11) (by decide +kernel) rfl rfl ?_
      refine hs_goto (p := 15) (by decide +kernel) ?_
      have hHo := hH
      refine hf_lst (T := et_TT) (t := 31) (N := 1) (p := 16) (by decide +kernel) rfl rfl hH k_out (by omega) (by decide) (fun G15 hH x15 e15 => ?_)
      refine hs_goto (p := 22) (by decide +kernel) ?_
      refine hs_k (x := Int32.ofNat 0) (p := 23) (by decide +kernel) ?_
      refine hs_iret (by decide +kernel) ?_
      exact ⟨rfl, e15⟩
    · rw [if_neg hb]
      refine hs_cb ?_
      show et_go none _ 29 7 _ [.int (Int32.ofNat 0), .int (Int32.ofNat 0), .ref out] _ _ _ _
      refine hs_if1 (c := .eq) (t := 14) (f := 10) (by decide +kernel) (show Int32.ofNat 0 = 0 by decide) ?_
      refine hs_st (ins := .lconst 0) (len := 1) (p := 15) (by decide +kernel) rfl rfl ?_
      have hHo := hH
      refine hf_lst (T := et_TT) (t := 31) (N := 1) (p := 16) (by decide +kernel) rfl rfl hH k_out (by omega) (by decide) (fun G15 hH x15 e15 => ?_)
      refine hs_goto (p := 22) (by decide +kernel) ?_
      refine hs_k (x := Int32.ofNat 0) (p := 23) (by decide +kernel) ?_
      refine hs_iret (by decide +kernel) ?_
      exact ⟨rfl, e15⟩
  · obtain rfl := List.mem_singleton.mp hes
    have hv1 : (Sum.inl (some (Value.int (Int32.ofNat (if (clV f2 f v X Y nc) = true then 1 else 0)))) : eg_R) = .inr 1 := hv1
    cases hv1
end AZA
