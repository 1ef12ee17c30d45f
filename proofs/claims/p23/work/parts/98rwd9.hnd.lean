/-! PHASE D: look -/
/-- what look tells of an EYE -/
def lkV (v : evT) (X : Nat → Int32) (Y : Nat → Nat) (nc q : Nat) : Int32 := if q < 6 then v.2.2.2.1 q else if q = 6 then v.2.2.2.2.1 else if q = 7 then Int32.ofNat v.1 else if q = 8 then v.2.2.2.2.2.1 else if q = 9 then v.2.2.2.2.2.2.1 else if q = 10 then v.2.2.2.2.2.2.2 else if q = 11 then Int32.ofNat (rtE v X Y nc) else Int32.ofNat (neN v.2.1 v.1)
section YEX
variable {d k pc ck sk : Nat} {L : eg_Ls} {r : List Value} {G : eg_G} {Z : eg_O → Prop}
theorem hs_tsd {dd lo hi : Int} {offs : Array Int} {len : Nat} {x : Int32} (hc : eg_cd k pc = some (.tableswitch dd lo hi offs, len)) (a1 : 0 ≤ (pc : Int) + dd) (hx : x.toInt < lo ∨ hi < x.toInt) (h1 : et_go none d k (eg_tg pc dd) L r G ck sk Z) : et_go none d k pc L (.int x :: r) G ck sk Z := hs_st hc rfl (by
  show (if x.toInt < lo ∨ hi < x.toInt then _ else _) = _
  rw [if_pos hx, if_pos a1]) h1
end YEX
section YEA
variable {K : et_K} {G : eg_G} {d d2 th s0 s1 ya yb ec nc la ly out e ca ki kn am aw n m k c q a b : Nat} {O : Nat → Nat} {A : Nat → Nat → Nat} {v : evT} {V : Nat → evT} {X : Nat → Int32} {Y : Nat → Nat} {x y z : Int32}
theorem fd_look (hH : et_H et_TT K G) (k_th : K th = some 12) (h0 : et_pl (eg_at G th) 0 = some (.ref s0)) (k_s0 : K s0 = some 10) (h5 : et_pl (eg_at G s0) 5 = some (.int (Int32.ofNat ec))) (hec : ec ≤ 3) (h6 : et_pl (eg_at G s0) 6 = some (.ref ya)) (k_ya : K ya = some 40) (hn : n < ec) (hE : et_pl (eg_at G ya) n = some (.ref e)) (t9 : evK K e ca ki kn v.1 v.2.2.1) (hv : evc G e ca ki kn v) (g2 : et_pl (eg_at G s0) 2 = some (.int (Int32.ofNat nc))) (hnc : nc ≤ 20) (hcc : ccP G s0 la ly nc X Y) (k_la : K la = some 17) (k_ly : K ly = some 27) (hq : q ≤ 12) (hd : 5 ≤ d2) : et_go none d2 144 0 (eg_en (eg_mL 144) [.ref th, .int (Int32.ofNat n), .int (Int32.ofNat q)]) [] G 0 0 (xp_Z G (some (.int (lkV v X Y nc q)))) := by
  obtain ⟨d, rfl⟩ : ∃ d, d2 = d + 5 := ⟨d2 - 5, by omega⟩
  have t90 := t9
  have hv0 := hv
  obtain ⟨⟨k_e, k_ca, k_ki, k_kn⟩, hw6, hkd⟩ := t9
  obtain ⟨⟨p0, p1, p2, p3⟩, hN, hCK, p4, p5, p6, p7⟩ := hv
  by_cases hq6 : q < 6
  · rw [show eg_mL 144 = 4 from by decide +kernel]
    show et_go none (d + 5) 144 0 [some (.ref th), some (.int (Int32.ofNat n)), some (.int (Int32.ofNat q)), none] [] G 0 0 _
    have lt_th := (hH.2.2 _ _ k_th).1
    have lt_s0 := (hH.2.2 _ _ k_s0).1
    have lt_ya := (hH.2.2 _ _ k_ya).1
    have lt_e := (hH.2.2 _ _ k_e).1
    have lt_ca := (hH.2.2 _ _ k_ca).1
    have lt_ki := (hH.2.2 _ _ k_ki).1
    have lt_kn := (hH.2.2 _ _ k_kn).1
    have lt_la := (hH.2.2 _ _ k_la).1
    have lt_ly := (hH.2.2 _ _ k_ly).1
    refine hs_aload (i := 0) (p := 1) (by decide +kernel) rfl ?_
    refine hs_iload (i := 1) (p := 2) (by decide +kernel) rfl ?_
    refine ht_callv (T := et_TT) (t := 12) (mi := 128) (na := 1) (ci := 10) (lk := 4) (lm := 2) (L0 := eg_en (eg_mL 128) [.ref th, .int (Int32.ofNat n)]) (by decide +kernel) rfl hH k_th rfl rfl rfl rfl rfl (by rw [show eg_mL 128 = 2 from by decide +kernel]; first | done | rfl) ?_
    refine (fd_needE hH k_th h0 k_s0 h5 hec h6 k_ya hn hE).mono (fun u hu => xp_cb hu ?_)
    show et_go none _ 144 5 _ [.ref e] _ _ _ _
    refine hs_astore (i := 3) (p := 6) (by decide +kernel) (Nat.le_of_ble_eq_true rfl) ?_
    refine hs_iload (i := 2) (p := 7) (by decide +kernel) rfl ?_
    refine hs_if0 (c := .lt) (t := 23) (f := 10) (by decide +kernel) (rs_nn (by omega)) ?_
    refine hs_iload (i := 2) (p := 11) (by decide +kernel) rfl ?_
    refine hs_k (x := Int32.ofNat 6) (p := 13) (by decide +kernel) ?_
    refine hs_br2n (c := .ge) (t := 23) (f := 16) (by decide +kernel) (by omega) (by omega) (fun (c13 : 6 ≤ q) => ?_) (fun (c13 : ¬ (6 ≤ q)) => ?_)
    · exact absurd hq6 (by omega)
    · refine hs_aload (i := 3) (p := 17) (by decide +kernel) rfl ?_
      refine hf_get (T := et_TT) (t := 3) (ci := 1) (f := 3) (p := 20) (by decide +kernel) rfl hH k_e p3 ?_
      refine hs_iload (i := 2) (p := 21) (by decide +kernel) rfl ?_
      refine hf_ald (ins := .iaload) (T := et_TT) (t := 15) (kd := 0) (N := 6) (p := 22) (by decide +kernel) (fun _ _ _ _ _ _ _ _ _ _ => rfl) rfl rfl rfl hH k_kn (by decide) (hN q (by omega)) ?_
      refine hs_iret (by decide +kernel) ?_
      rw [show (lkV v X Y nc q) = v.2.2.2.1 q from if_pos hq6]
      rfl
  · rcases (show q = 6 ∨ q = 7 ∨ q = 8 ∨ q = 9 ∨ q = 10 ∨ q = 11 ∨ q = 12 by omega) with rfl | rfl | rfl | rfl | rfl | rfl | rfl
    · rw [show eg_mL 144 = 4 from by decide +kernel]
      show et_go none (d + 5) 144 0 [some (.ref th), some (.int (Int32.ofNat n)), some (.int (Int32.ofNat 6)), none] [] G 0 0 _
      have lt_th := (hH.2.2 _ _ k_th).1
      have lt_s0 := (hH.2.2 _ _ k_s0).1
      have lt_ya := (hH.2.2 _ _ k_ya).1
      have lt_e := (hH.2.2 _ _ k_e).1
      have lt_ca := (hH.2.2 _ _ k_ca).1
      have lt_ki := (hH.2.2 _ _ k_ki).1
      have lt_kn := (hH.2.2 _ _ k_kn).1
      have lt_la := (hH.2.2 _ _ k_la).1
      have lt_ly := (hH.2.2 _ _ k_ly).1
      refine hs_aload (i := 0) (p := 1) (by decide +kernel) rfl ?_
      refine hs_iload (i := 1) (p := 2) (by decide +kernel) rfl ?_
      refine ht_callv (T := et_TT) (t := 12) (mi := 128) (na := 1) (ci := 10) (lk := 4) (lm := 2) (L0 := eg_en (eg_mL 128) [.ref th, .int (Int32.ofNat n)]) (by decide +kernel) rfl hH k_th rfl rfl rfl rfl rfl (by rw [show eg_mL 128 = 2 from by decide +kernel]; first | done | rfl) ?_
      refine (fd_needE hH k_th h0 k_s0 h5 hec h6 k_ya hn hE).mono (fun u hu => xp_cb hu ?_)
      show et_go none _ 144 5 _ [.ref e] _ _ _ _
      refine hs_astore (i := 3) (p := 6) (by decide +kernel) (Nat.le_of_ble_eq_true rfl) ?_
      refine hs_iload (i := 2) (p := 7) (by decide +kernel) rfl ?_
      refine hs_if0 (c := .lt) (t := 23) (f := 10) (by decide +kernel) (show ¬ (Int32.ofNat 6 < 0) by decide) ?_
      refine hs_iload (i := 2) (p := 11) (by decide +kernel) rfl ?_
      refine hs_k (x := Int32.ofNat 6) (p := 13) (by decide +kernel) ?_
      refine hs_br2n (c := .ge) (t := 23) (f := 16) (by decide +kernel) (by omega) (by omega) (fun _ => ?_) (fun h => absurd (show 6 ≤ 6 by decide) h)
      refine hs_iload (i := 2) (p := 24) (by decide +kernel) rfl ?_
      refine hs_st (ins := .tableswitch 83 6 12 #[44, 49, 54, 59, 64, 69, 78]) (len := 44) (by decide +kernel) rfl (by rfl) (?_ : et_go none _ 144 68 _ _ _ _ _ _)
      refine hs_aload (i := 3) (p := 69) (by decide +kernel) rfl ?_
      refine hf_get (T := et_TT) (t := 3) (ci := 1) (f := 4) (p := 72) (by decide +kernel) rfl hH k_e p4 ?_
      refine hs_iret (by decide +kernel) ?_
      rfl
    · rw [show eg_mL 144 = 4 from by decide +kernel]
      show et_go none (d + 5) 144 0 [some (.ref th), some (.int (Int32.ofNat n)), some (.int (Int32.ofNat 7)), none] [] G 0 0 _
      have lt_th := (hH.2.2 _ _ k_th).1
      have lt_s0 := (hH.2.2 _ _ k_s0).1
      have lt_ya := (hH.2.2 _ _ k_ya).1
      have lt_e := (hH.2.2 _ _ k_e).1
      have lt_ca := (hH.2.2 _ _ k_ca).1
      have lt_ki := (hH.2.2 _ _ k_ki).1
      have lt_kn := (hH.2.2 _ _ k_kn).1
      have lt_la := (hH.2.2 _ _ k_la).1
      have lt_ly := (hH.2.2 _ _ k_ly).1
      refine hs_aload (i := 0) (p := 1) (by decide +kernel) rfl ?_
      refine hs_iload (i := 1) (p := 2) (by decide +kernel) rfl ?_
      refine ht_callv (T := et_TT) (t := 12) (mi := 128) (na := 1) (ci := 10) (lk := 4) (lm := 2) (L0 := eg_en (eg_mL 128) [.ref th, .int (Int32.ofNat n)]) (by decide +kernel) rfl hH k_th rfl rfl rfl rfl rfl (by rw [show eg_mL 128 = 2 from by decide +kernel]; first | done | rfl) ?_
      refine (fd_needE hH k_th h0 k_s0 h5 hec h6 k_ya hn hE).mono (fun u hu => xp_cb hu ?_)
      show et_go none _ 144 5 _ [.ref e] _ _ _ _
      refine hs_astore (i := 3) (p := 6) (by decide +kernel) (Nat.le_of_ble_eq_true rfl) ?_
      refine hs_iload (i := 2) (p := 7) (by decide +kernel) rfl ?_
      refine hs_if0 (c := .lt) (t := 23) (f := 10) (by decide +kernel) (show ¬ (Int32.ofNat 7 < 0) by decide) ?_
      refine hs_iload (i := 2) (p := 11) (by decide +kernel) rfl ?_
      refine hs_k (x := Int32.ofNat 6) (p := 13) (by decide +kernel) ?_
      refine hs_br2n (c := .ge) (t := 23) (f := 16) (by decide +kernel) (by omega) (by omega) (fun _ => ?_) (fun h => absurd (show 6 ≤ 7 by decide) h)
      refine hs_iload (i := 2) (p := 24) (by decide +kernel) rfl ?_
      refine hs_st (ins := .tableswitch 83 6 12 #[44, 49, 54, 59, 64, 69, 78]) (len := 44) (by decide +kernel) rfl (by rfl) (?_ : et_go none _ 144 73 _ _ _ _ _ _)
      refine hs_aload (i := 3) (p := 74) (by decide +kernel) rfl ?_
      refine hf_get (T := et_TT) (t := 3) (ci := 1) (f := 0) (p := 77) (by decide +kernel) rfl hH k_e p0 ?_
      refine hs_iret (by decide +kernel) ?_
      rfl
    · rw [show eg_mL 144 = 4 from by decide +kernel]
      show et_go none (d + 5) 144 0 [some (.ref th), some (.int (Int32.ofNat n)), some (.int (Int32.ofNat 8)), none] [] G 0 0 _
      have lt_th := (hH.2.2 _ _ k_th).1
      have lt_s0 := (hH.2.2 _ _ k_s0).1
      have lt_ya := (hH.2.2 _ _ k_ya).1
      have lt_e := (hH.2.2 _ _ k_e).1
      have lt_ca := (hH.2.2 _ _ k_ca).1
      have lt_ki := (hH.2.2 _ _ k_ki).1
      have lt_kn := (hH.2.2 _ _ k_kn).1
      have lt_la := (hH.2.2 _ _ k_la).1
      have lt_ly := (hH.2.2 _ _ k_ly).1
      refine hs_aload (i := 0) (p := 1) (by decide +kernel) rfl ?_
      refine hs_iload (i := 1) (p := 2) (by decide +kernel) rfl ?_
      refine ht_callv (T := et_TT) (t := 12) (mi := 128) (na := 1) (ci := 10) (lk := 4) (lm := 2) (L0 := eg_en (eg_mL 128) [.ref th, .int (Int32.ofNat n)]) (by decide +kernel) rfl hH k_th rfl rfl rfl rfl rfl (by rw [show eg_mL 128 = 2 from by decide +kernel]; first | done | rfl) ?_
      refine (fd_needE hH k_th h0 k_s0 h5 hec h6 k_ya hn hE).mono (fun u hu => xp_cb hu ?_)
      show et_go none _ 144 5 _ [.ref e] _ _ _ _
      refine hs_astore (i := 3) (p := 6) (by decide +kernel) (Nat.le_of_ble_eq_true rfl) ?_
      refine hs_iload (i := 2) (p := 7) (by decide +kernel) rfl ?_
      refine hs_if0 (c := .lt) (t := 23) (f := 10) (by decide +kernel) (show ¬ (Int32.ofNat 8 < 0) by decide) ?_
      refine hs_iload (i := 2) (p := 11) (by decide +kernel) rfl ?_
      refine hs_k (x := Int32.ofNat 6) (p := 13) (by decide +kernel) ?_
      refine hs_br2n (c := .ge) (t := 23) (f := 16) (by decide +kernel) (by omega) (by omega) (fun _ => ?_) (fun h => absurd (show 6 ≤ 8 by decide) h)
      refine hs_iload (i := 2) (p := 24) (by decide +kernel) rfl ?_
      refine hs_st (ins := .tableswitch 83 6 12 #[44, 49, 54, 59, 64, 69, 78]) (len := 44) (by decide +kernel) rfl (by rfl) (?_ : et_go none _ 144 78 _ _ _ _ _ _)
      refine hs_aload (i := 3) (p := 79) (by decide +kernel) rfl ?_
      refine hf_get (T := et_TT) (t := 3) (ci := 1) (f := 5) (p := 82) (by decide +kernel) rfl hH k_e p5 ?_
      refine hs_iret (by decide +kernel) ?_
      rfl
    · rw [show eg_mL 144 = 4 from by decide +kernel]
      show et_go none (d + 5) 144 0 [some (.ref th), some (.int (Int32.ofNat n)), some (.int (Int32.ofNat 9)), none] [] G 0 0 _
      have lt_th := (hH.2.2 _ _ k_th).1
      have lt_s0 := (hH.2.2 _ _ k_s0).1
      have lt_ya := (hH.2.2 _ _ k_ya).1
      have lt_e := (hH.2.2 _ _ k_e).1
      have lt_ca := (hH.2.2 _ _ k_ca).1
      have lt_ki := (hH.2.2 _ _ k_ki).1
      have lt_kn := (hH.2.2 _ _ k_kn).1
      have lt_la := (hH.2.2 _ _ k_la).1
      have lt_ly := (hH.2.2 _ _ k_ly).1
      refine hs_aload (i := 0) (p := 1) (by decide +kernel) rfl ?_
      refine hs_iload (i := 1) (p := 2) (by decide +kernel) rfl ?_
      refine ht_callv (T := et_TT) (t := 12) (mi := 128) (na := 1) (ci := 10) (lk := 4) (lm := 2) (L0 := eg_en (eg_mL 128) [.ref th, .int (Int32.ofNat n)]) (by decide +kernel) rfl hH k_th rfl rfl rfl rfl rfl (by rw [show eg_mL 128 = 2 from by decide +kernel]; first | done | rfl) ?_
      refine (fd_needE hH k_th h0 k_s0 h5 hec h6 k_ya hn hE).mono (fun u hu => xp_cb hu ?_)
      show et_go none _ 144 5 _ [.ref e] _ _ _ _
      refine hs_astore (i := 3) (p := 6) (by decide +kernel) (Nat.le_of_ble_eq_true rfl) ?_
      refine hs_iload (i := 2) (p := 7) (by decide +kernel) rfl ?_
      refine hs_if0 (c := .lt) (t := 23) (f := 10) (by decide +kernel) (show ¬ (Int32.ofNat 9 < 0) by decide) ?_
      refine hs_iload (i := 2) (p := 11) (by decide +kernel) rfl ?_
      refine hs_k (x := Int32.ofNat 6) (p := 13) (by decide +kernel) ?_
      refine hs_br2n (c := .ge) (t := 23) (f := 16) (by decide +kernel) (by omega) (by omega) (fun _ => ?_) (fun h => absurd (show 6 ≤ 9 by decide) h)
      refine hs_iload (i := 2) (p := 24) (by decide +kernel) rfl ?_
      refine hs_st (ins := .tableswitch 83 6 12 #[44, 49, 54, 59, 64, 69, 78]) (len := 44) (by decide +kernel) rfl (by rfl) (?_ : et_go none _ 144 83 _ _ _ _ _ _)
      refine hs_aload (i := 3) (p := 84) (by decide +kernel) rfl ?_
      refine hf_get (T := et_TT) (t := 3) (ci := 1) (f := 6) (p := 87) (by decide +kernel) rfl hH k_e p6 ?_
      refine hs_iret (by decide +kernel) ?_
      rfl
    · rw [show eg_mL 144 = 4 from by decide +kernel]
      show et_go none (d + 5) 144 0 [some (.ref th), some (.int (Int32.ofNat n)), some (.int (Int32.ofNat 10)), none] [] G 0 0 _
      have lt_th := (hH.2.2 _ _ k_th).1
      have lt_s0 := (hH.2.2 _ _ k_s0).1
      have lt_ya := (hH.2.2 _ _ k_ya).1
      have lt_e := (hH.2.2 _ _ k_e).1
      have lt_ca := (hH.2.2 _ _ k_ca).1
      have lt_ki := (hH.2.2 _ _ k_ki).1
      have lt_kn := (hH.2.2 _ _ k_kn).1
      have lt_la := (hH.2.2 _ _ k_la).1
      have lt_ly := (hH.2.2 _ _ k_ly).1
      refine hs_aload (i := 0) (p := 1) (by decide +kernel) rfl ?_
      refine hs_iload (i := 1) (p := 2) (by decide +kernel) rfl ?_
      refine ht_callv (T := et_TT) (t := 12) (mi := 128) (na := 1) (ci := 10) (lk := 4) (lm := 2) (L0 := eg_en (eg_mL 128) [.ref th, .int (Int32.ofNat n)]) (by decide +kernel) rfl hH k_th rfl rfl rfl rfl rfl (by rw [show eg_mL 128 = 2 from by decide +kernel]; first | done | rfl) ?_
      refine (fd_needE hH k_th h0 k_s0 h5 hec h6 k_ya hn hE).mono (fun u hu => xp_cb hu ?_)
      show et_go none _ 144 5 _ [.ref e] _ _ _ _
      refine hs_astore (i := 3) (p := 6) (by decide +kernel) (Nat.le_of_ble_eq_true rfl) ?_
      refine hs_iload (i := 2) (p := 7) (by decide +kernel) rfl ?_
      refine hs_if0 (c := .lt) (t := 23) (f := 10) (by decide +kernel) (show ¬ (Int32.ofNat 10 < 0) by decide) ?_
      refine hs_iload (i := 2) (p := 11) (by decide +kernel) rfl ?_
      refine hs_k (x := Int32.ofNat 6) (p := 13) (by decide +kernel) ?_
      refine hs_br2n (c := .ge) (t := 23) (f := 16) (by decide +kernel) (by omega) (by omega) (fun _ => ?_) (fun h => absurd (show 6 ≤ 10 by decide) h)
      refine hs_iload (i := 2) (p := 24) (by decide +kernel) rfl ?_
      refine hs_st (ins := .tableswitch 83 6 12 #[44, 49, 54, 59, 64, 69, 78]) (len := 44) (by decide +kernel) rfl (by rfl) (?_ : et_go none _ 144 88 _ _ _ _ _ _)
      refine hs_aload (i := 3) (p := 89) (by decide +kernel) rfl ?_
      refine hf_get (T := et_TT) (t := 3) (ci := 1) (f := 7) (p := 92) (by decide +kernel) rfl hH k_e p7 ?_
      refine hs_iret (by decide +kernel) ?_
      rfl
    · rw [show eg_mL 144 = 4 from by decide +kernel]
      show et_go none (d + 5) 144 0 [some (.ref th), some (.int (Int32.ofNat n)), some (.int (Int32.ofNat 11)), none] [] G 0 0 _
      have lt_th := (hH.2.2 _ _ k_th).1
      have lt_s0 := (hH.2.2 _ _ k_s0).1
      have lt_ya := (hH.2.2 _ _ k_ya).1
      have lt_e := (hH.2.2 _ _ k_e).1
      have lt_ca := (hH.2.2 _ _ k_ca).1
      have lt_ki := (hH.2.2 _ _ k_ki).1
      have lt_kn := (hH.2.2 _ _ k_kn).1
      have lt_la := (hH.2.2 _ _ k_la).1
      have lt_ly := (hH.2.2 _ _ k_ly).1
      refine hs_aload (i := 0) (p := 1) (by decide +kernel) rfl ?_
      refine hs_iload (i := 1) (p := 2) (by decide +kernel) rfl ?_
      refine ht_callv (T := et_TT) (t := 12) (mi := 128) (na := 1) (ci := 10) (lk := 4) (lm := 2) (L0 := eg_en (eg_mL 128) [.ref th, .int (Int32.ofNat n)]) (by decide +kernel) rfl hH k_th rfl rfl rfl rfl rfl (by rw [show eg_mL 128 = 2 from by decide +kernel]; first | done | rfl) ?_
      refine (fd_needE hH k_th h0 k_s0 h5 hec h6 k_ya hn hE).mono (fun u hu => xp_cb hu ?_)
      show et_go none _ 144 5 _ [.ref e] _ _ _ _
      refine hs_astore (i := 3) (p := 6) (by decide +kernel) (Nat.le_of_ble_eq_true rfl) ?_
      refine hs_iload (i := 2) (p := 7) (by decide +kernel) rfl ?_
      refine hs_if0 (c := .lt) (t := 23) (f := 10) (by decide +kernel) (show ¬ (Int32.ofNat 11 < 0) by decide) ?_
      refine hs_iload (i := 2) (p := 11) (by decide +kernel) rfl ?_
      refine hs_k (x := Int32.ofNat 6) (p := 13) (by decide +kernel) ?_
      refine hs_br2n (c := .ge) (t := 23) (f := 16) (by decide +kernel) (by omega) (by omega) (fun _ => ?_) (fun h => absurd (show 6 ≤ 11 by decide) h)
      refine hs_iload (i := 2) (p := 24) (by decide +kernel) rfl ?_
      refine hs_st (ins := .tableswitch 83 6 12 #[44, 49, 54, 59, 64, 69, 78]) (len := 44) (by decide +kernel) rfl (by rfl) (?_ : et_go none _ 144 93 _ _ _ _ _ _)
      refine hs_aload (i := 0) (p := 94) (by decide +kernel) rfl ?_
      refine hf_get (T := et_TT) (t := 12) (ci := 10) (f := 0) (p := 97) (by decide +kernel) rfl hH k_th h0 ?_
      refine hs_aload (i := 3) (p := 98) (by decide +kernel) rfl ?_
      refine ht_callv (T := et_TT) (t := 10) (mi := 106) (na := 1) (ci := 8) (lk := 4) (lm := 4) (L0 := eg_en (eg_mL 106) [.ref s0, .ref e]) (by decide +kernel) rfl hH k_s0 rfl rfl rfl rfl rfl (by rw [show eg_mL 106 = 4 from by decide +kernel]; first | done | rfl) ?_
      refine (fc_rt hH k_s0 k_e t90 hv0 g2 hnc hcc k_la k_ly (by omega)).mono (fun u hu => xp_cb hu ?_)
      show et_go none _ 144 101 _ [.int (Int32.ofNat (rtE v X Y nc))] _ _ _ _
      refine hs_iret (by decide +kernel) ?_
      rfl
    · rw [show eg_mL 144 = 4 from by decide +kernel]
      show et_go none (d + 5) 144 0 [some (.ref th), some (.int (Int32.ofNat n)), some (.int (Int32.ofNat 12)), none] [] G 0 0 _
      have lt_th := (hH.2.2 _ _ k_th).1
      have lt_s0 := (hH.2.2 _ _ k_s0).1
      have lt_ya := (hH.2.2 _ _ k_ya).1
      have lt_e := (hH.2.2 _ _ k_e).1
      have lt_ca := (hH.2.2 _ _ k_ca).1
      have lt_ki := (hH.2.2 _ _ k_ki).1
      have lt_kn := (hH.2.2 _ _ k_kn).1
      have lt_la := (hH.2.2 _ _ k_la).1
      have lt_ly := (hH.2.2 _ _ k_ly).1
      refine hs_aload (i := 0) (p := 1) (by decide +kernel) rfl ?_
      refine hs_iload (i := 1) (p := 2) (by decide +kernel) rfl ?_
      refine ht_callv (T := et_TT) (t := 12) (mi := 128) (na := 1) (ci := 10) (lk := 4) (lm := 2) (L0 := eg_en (eg_mL 128) [.ref th, .int (Int32.ofNat n)]) (by decide +kernel) rfl hH k_th rfl rfl rfl rfl rfl (by rw [show eg_mL 128 = 2 from by decide +kernel]; first | done | rfl) ?_
      refine (fd_needE hH k_th h0 k_s0 h5 hec h6 k_ya hn hE).mono (fun u hu => xp_cb hu ?_)
      show et_go none _ 144 5 _ [.ref e] _ _ _ _
      refine hs_astore (i := 3) (p := 6) (by decide +kernel) (Nat.le_of_ble_eq_true rfl) ?_
      refine hs_iload (i := 2) (p := 7) (by decide +kernel) rfl ?_
      refine hs_if0 (c := .lt) (t := 23) (f := 10) (by decide +kernel) (show ¬ (Int32.ofNat 12 < 0) by decide) ?_
      refine hs_iload (i := 2) (p := 11) (by decide +kernel) rfl ?_
      refine hs_k (x := Int32.ofNat 6) (p := 13) (by decide +kernel) ?_
      refine hs_br2n (c := .ge) (t := 23) (f := 16) (by decide +kernel) (by omega) (by omega) (fun _ => ?_) (fun h => absurd (show 6 ≤ 12 by decide) h)
      refine hs_iload (i := 2) (p := 24) (by decide +kernel) rfl ?_
      refine hs_st (ins := .tableswitch 83 6 12 #[44, 49, 54, 59, 64, 69, 78]) (len := 44) (by decide +kernel) rfl (by rfl) (?_ : et_go none _ 144 102 _ _ _ _ _ _)
      refine hs_aload (i := 3) (p := 103) (by decide +kernel) rfl ?_
      refine ht_callv (T := et_TT) (t := 3) (mi := 41) (na := 0) (ci := 1) (lk := 4) (lm := 3) (L0 := eg_en (eg_mL 41) [.ref e]) (by decide +kernel) rfl hH k_e rfl rfl rfl rfl rfl (by rw [show eg_mL 41 = 3 from by decide +kernel]; first | done | rfl) ?_
      refine (fc_near hH t90 hv0 (by omega)).mono (fun u hu => xp_cb hu ?_)
      show et_go none _ 144 106 _ [.int (Int32.ofNat (neN v.2.1 v.1))] _ _ _ _
      refine hs_iret (by decide +kernel) ?_
      rfl
theorem fd_lookR (hH : et_H et_TT K G) (k_th : K th = some 12) (h0 : et_pl (eg_at G th) 0 = some (.ref s0)) (k_s0 : K s0 = some 10) (h5 : et_pl (eg_at G s0) 5 = some (.int (Int32.ofNat ec))) (hec : ec ≤ 3) (h6 : et_pl (eg_at G s0) 6 = some (.ref ya)) (k_ya : K ya = some 40) (hn : n < ec) (hE : et_pl (eg_at G ya) n = some (.ref e)) (hne : ¬ (0 ≤ y.toInt ∧ y.toInt ≤ 12)) (hd : 5 ≤ d2) : et_go none d2 144 0 (eg_en (eg_mL 144) [.ref th, .int (Int32.ofNat n), .int y]) [] G 0 0 (ix_Z 3 G) := by
  obtain ⟨d, rfl⟩ : ∃ d, d2 = d + 5 := ⟨d2 - 5, by omega⟩
  rw [show eg_mL 144 = 4 from by decide +kernel]
  show et_go none (d + 5) 144 0 [some (.ref th), some (.int (Int32.ofNat n)), some (.int y), none] [] G 0 0 _
  have lt_th := (hH.2.2 _ _ k_th).1
  have lt_s0 := (hH.2.2 _ _ k_s0).1
  have lt_ya := (hH.2.2 _ _ k_ya).1
  refine hs_aload (i := 0) (p := 1) (by decide +kernel) rfl ?_
  refine hs_iload (i := 1) (p := 2) (by decide +kernel) rfl ?_
  refine ht_callv (T := et_TT) (t := 12) (mi := 128) (na := 1) (ci := 10) (lk := 4) (lm := 2) (L0 := eg_en (eg_mL 128) [.ref th, .int (Int32.ofNat n)]) (by decide +kernel) rfl hH k_th rfl rfl rfl rfl rfl (by rw [show eg_mL 128 = 2 from by decide +kernel]; first | done | rfl) ?_
  refine (fd_needE hH k_th h0 k_s0 h5 hec h6 k_ya hn hE).mono (fun u hu => xp_cb hu ?_)
  show et_go none _ 144 5 _ [.ref e] _ _ _ _
  refine hs_astore (i := 3) (p := 6) (by decide +kernel) (Nat.le_of_ble_eq_true rfl) ?_
  refine hs_iload (i := 2) (p := 7) (by decide +kernel) rfl ?_
  refine hs_br1 (c := .lt) (t := 23) (f := 10) (by decide +kernel) (fun (c7 : y < 0) => ?_) (fun (c7 : ¬ (y < 0)) => ?_)
  · refine hs_iload (i := 2) (p := 24) (by decide +kernel) rfl ?_
    refine hs_tsd (dd := 83) (lo := 6) (hi := 12) (offs := #[44, 49, 54, 59, 64, 69, 78]) (len := 44) (by decide +kernel) (by decide) (by first | (rw [xi_lt0] at c7; omega) | (rw [xi_nle (k := 6) (by decide)] at c13; rw [xi_lt0] at c7; omega)) (?_ : et_go none _ 144 107 _ _ _ _ _ _)
    refine hs_thr (x := 3) (lk := 4) (by decide +kernel) rfl rfl ?_
    exact ⟨_, _, rfl⟩
  · refine hs_iload (i := 2) (p := 11) (by decide +kernel) rfl ?_
    refine hs_k (x := Int32.ofNat 6) (p := 13) (by decide +kernel) ?_
    refine hs_br2 (c := .ge) (t := 23) (f := 16) (by decide +kernel) (fun (c13 : Int32.ofNat 6 ≤ y) => ?_) (fun (c13 : ¬ (Int32.ofNat 6 ≤ y)) => ?_)
    · refine hs_iload (i := 2) (p := 24) (by decide +kernel) rfl ?_
      refine hs_tsd (dd := 83) (lo := 6) (hi := 12) (offs := #[44, 49, 54, 59, 64, 69, 78]) (len := 44) (by decide +kernel) (by decide) (by first | (rw [xi_lt0] at c7; omega) | (rw [xi_nle (k := 6) (by decide)] at c13; rw [xi_lt0] at c7; omega)) (?_ : et_go none _ 144 107 _ _ _ _ _ _)
      refine hs_thr (x := 3) (lk := 4) (by decide +kernel) rfl rfl ?_
      exact ⟨_, _, rfl⟩
    · exact absurd ⟨by rw [xi_lt0] at c7; omega, by rw [xi_nle (k := 6) (by decide)] at c13; omega⟩ hne
theorem fd_lookE (hH : et_H et_TT K G) (k_th : K th = some 12) (h0 : et_pl (eg_at G th) 0 = some (.ref s0)) (k_s0 : K s0 = some 10) (h5 : et_pl (eg_at G s0) 5 = some (.int (Int32.ofNat ec))) (hec : ec ≤ 3) (h6 : et_pl (eg_at G s0) 6 = some (.ref ya)) (k_ya : K ya = some 40) (hx : ¬ xr x ec) (hd : 5 ≤ d2) : et_go none d2 144 0 (eg_en (eg_mL 144) [.ref th, .int x, .int y]) [] G 0 0 (ix_Z 1 G) := by
  obtain ⟨d, rfl⟩ : ∃ d, d2 = d + 5 := ⟨d2 - 5, by omega⟩
  rw [show eg_mL 144 = 4 from by decide +kernel]
  show et_go none (d + 5) 144 0 [some (.ref th), some (.int x), some (.int y), none] [] G 0 0 _
  have lt_th := (hH.2.2 _ _ k_th).1
  have lt_s0 := (hH.2.2 _ _ k_s0).1
  have lt_ya := (hH.2.2 _ _ k_ya).1
  refine hs_aload (i := 0) (p := 1) (by decide +kernel) rfl ?_
  refine hs_iload (i := 1) (p := 2) (by decide +kernel) rfl ?_
  refine ht_callv (T := et_TT) (t := 12) (mi := 128) (na := 1) (ci := 10) (lk := 4) (lm := 2) (L0 := eg_en (eg_mL 128) [.ref th, .int x]) (by decide +kernel) rfl hH k_th rfl rfl rfl rfl rfl (by rw [show eg_mL 128 = 2 from by decide +kernel]; first | done | rfl) ?_
  refine (fd_needEn hH k_th h0 k_s0 h5 hec h6 k_ya hx).mono (fun u hu => ?_)
  obtain ⟨c2, s2, rfl⟩ := hu
  refine hf_cx (by decide +kernel) ?_
  exact ⟨_, _, rfl⟩
theorem fh_look (hH : et_H et_TT K G) (k_th : K th = some 12) (h0 : et_pl (eg_at G th) 0 = some (.ref s0)) (k_s0 : K s0 = some 10) (h5 : et_pl (eg_at G s0) 5 = some (.int (Int32.ofNat ec))) (hec : ec ≤ 3) (h6 : et_pl (eg_at G s0) 6 = some (.ref ya)) (k_ya : K ya = some 40) (hn : n < ec) (hE : et_pl (eg_at G ya) n = some (.ref e)) (t9 : evK K e ca ki kn v.1 v.2.2.1) (hv : evc G e ca ki kn v) (g2 : et_pl (eg_at G s0) 2 = some (.int (Int32.ofNat nc))) (hnc : nc ≤ 20) (hcc : ccP G s0 la ly nc X Y) (k_la : K la = some 17) (k_ly : K ly = some 27) (hq : q ≤ 12) (k_out : K out = some 31) (hd : 6 ≤ d2) : et_go none d2 10 0 (eg_en (eg_mL 10) [.ref th, .int (Int32.ofNat n), .int (Int32.ofNat q), .ref out]) [] G 0 0 (fun u => u.1 = .inl (some (.int (Int32.ofNat 0))) ∧ et_pl (eg_at u.2.1 out) 0 = some (.long (lkV v X Y nc q).toInt64)) := by
  obtain ⟨d, rfl⟩ : ∃ d, d2 = d + 6 := ⟨d2 - 6, by omega⟩
  rw [show eg_mL 10 = 5 from by decide +kernel]
  show et_go none (d + 6) 10 0 [some (.ref th), some (.int (Int32.ofNat n)), some (.int (Int32.ofNat q)), some (.ref out), none] [] G 0 0 _
  have lt_th := (hH.2.2 _ _ k_th).1
  have lt_out := (hH.2.2 _ _ k_out).1
  refine hs_aload (i := 3) (p := 1) (by decide +kernel) rfl ?_
  refine hs_k (x := Int32.ofNat 0) (p := 2) (by decide +kernel) ?_
  refine hs_aload (i := 0) (p := 3) (by decide +kernel) rfl ?_
  refine hs_iload (i := 1) (p := 4) (by decide +kernel) rfl ?_
  refine hs_iload (i := 2) (p := 5) (by decide +kernel) rfl ?_
  refine ht_callv (T := et_TT) (t := 12) (mi := 144) (na := 2) (ci := 10) (lk := 5) (lm := 4) (L0 := eg_en (eg_mL 144) [.ref th, .int (Int32.ofNat n), .int (Int32.ofNat q)]) (by decide +kernel) rfl hH k_th rfl rfl rfl rfl rfl (by rw [show eg_mL 144 = 4 from by decide +kernel]; first | done | rfl) ?_
  refine (fd_look hH k_th h0 k_s0 h5 hec h6 k_ya hn hE t9 hv g2 hnc hcc k_la k_ly hq (by omega)).mono (fun u hu => xp_cb hu ?_)
  show et_go none _ 10 8 _ [.int (lkV v X Y nc q), .int (Int32.ofNat 0), .ref out] _ _ _ _
  refine hs_i2l (p := 9) (by decide +kernel) ?_
  have hHo := hH
  refine hf_lst (T := et_TT) (t := 31) (N := 1) (p := 10) (by decide +kernel) rfl rfl hH k_out (by omega) (by decide) (fun G9 hH x9 e9 => ?_)
  refine hs_goto (p := 21) (by decide +kernel) ?_
  refine hs_k (x := Int32.ofNat 0) (p := 22) (by decide +kernel) ?_
  refine hs_iret (by decide +kernel) ?_
  exact ⟨rfl, e9⟩
theorem fh_lookR (hH : et_H et_TT K G) (k_th : K th = some 12) (h0 : et_pl (eg_at G th) 0 = some (.ref s0)) (k_s0 : K s0 = some 10) (h5 : et_pl (eg_at G s0) 5 = some (.int (Int32.ofNat ec))) (hec : ec ≤ 3) (h6 : et_pl (eg_at G s0) 6 = some (.ref ya)) (k_ya : K ya = some 40) (hn : n < ec) (hE : et_pl (eg_at G ya) n = some (.ref e)) (hne : ¬ (0 ≤ y.toInt ∧ y.toInt ≤ 12)) (hd : 6 ≤ d2) : et_go none d2 10 0 (eg_en (eg_mL 10) [.ref th, .int (Int32.ofNat n), .int y, .ref out]) [] G 0 0 (fun u => u.1 = .inl (some (.int (Int32.ofNat 2))) ∧ u.2.1 = G) := by
  obtain ⟨d, rfl⟩ : ∃ d, d2 = d + 6 := ⟨d2 - 6, by omega⟩
  rw [show eg_mL 10 = 5 from by decide +kernel]
  show et_go none (d + 6) 10 0 [some (.ref th), some (.int (Int32.ofNat n)), some (.int y), some (.ref out), none] [] G 0 0 _
  have lt_th := (hH.2.2 _ _ k_th).1
  refine hs_aload (i := 3) (p := 1) (by decide +kernel) rfl ?_
  refine hs_k (x := Int32.ofNat 0) (p := 2) (by decide +kernel) ?_
  refine hs_aload (i := 0) (p := 3) (by decide +kernel) rfl ?_
  refine hs_iload (i := 1) (p := 4) (by decide +kernel) rfl ?_
  refine hs_iload (i := 2) (p := 5) (by decide +kernel) rfl ?_
  refine ht_callv (T := et_TT) (t := 12) (mi := 144) (na := 2) (ci := 10) (lk := 5) (lm := 4) (L0 := eg_en (eg_mL 144) [.ref th, .int (Int32.ofNat n), .int y]) (by decide +kernel) rfl hH k_th rfl rfl rfl rfl rfl (by rw [show eg_mL 144 = 4 from by decide +kernel]; first | done | rfl) ?_
  refine (fd_lookR hH k_th h0 k_s0 h5 hec h6 k_ya hn hE hne (by omega)).mono (fun u hu => ?_)
  obtain ⟨c5, s5, rfl⟩ := hu
  refine hs_ch (h := 17) (i := 4) (n := 2) (hh := (eg_mh 10).getD []) (by decide +kernel) ⟨by decide +kernel, by decide +kernel⟩ (Nat.le_of_ble_eq_true rfl) ?_
  show et_go none _ 10 19 [some (.ref th), some (.int (Int32.ofNat n)), some (.int y), some (.ref out), none] [] _ _ _ _
  refine hs_k (x := Int32.ofNat 2) (p := 20) (by decide +kernel) ?_
  refine hs_iret (by decide +kernel) ?_
  exact ⟨rfl, rfl⟩
theorem fh_lookE (hH : et_H et_TT K G) (k_th : K th = some 12) (h0 : et_pl (eg_at G th) 0 = some (.ref s0)) (k_s0 : K s0 = some 10) (h5 : et_pl (eg_at G s0) 5 = some (.int (Int32.ofNat ec))) (hec : ec ≤ 3) (h6 : et_pl (eg_at G s0) 6 = some (.ref ya)) (k_ya : K ya = some 40) (hx : ¬ xr x ec) (hd : 6 ≤ d2) : et_go none d2 10 0 (eg_en (eg_mL 10) [.ref th, .int x, .int y, .ref out]) [] G 0 0 (fun u => u.1 = .inl (some (.int (Int32.ofNat 1))) ∧ u.2.1 = G) := by
  obtain ⟨d, rfl⟩ : ∃ d, d2 = d + 6 := ⟨d2 - 6, by omega⟩
  rw [show eg_mL 10 = 5 from by decide +kernel]
  show et_go none (d + 6) 10 0 [some (.ref th), some (.int x), some (.int y), some (.ref out), none] [] G 0 0 _
  have lt_th := (hH.2.2 _ _ k_th).1
  refine hs_aload (i := 3) (p := 1) (by decide +kernel) rfl ?_
  refine hs_k (x := Int32.ofNat 0) (p := 2) (by decide +kernel) ?_
  refine hs_aload (i := 0) (p := 3) (by decide +kernel) rfl ?_
  refine hs_iload (i := 1) (p := 4) (by decide +kernel) rfl ?_
  refine hs_iload (i := 2) (p := 5) (by decide +kernel) rfl ?_
  refine ht_callv (T := et_TT) (t := 12) (mi := 144) (na := 2) (ci := 10) (lk := 5) (lm := 4) (L0 := eg_en (eg_mL 144) [.ref th, .int x, .int y]) (by decide +kernel) rfl hH k_th rfl rfl rfl rfl rfl (by rw [show eg_mL 144 = 4 from by decide +kernel]; first | done | rfl) ?_
  refine (fd_lookE hH k_th h0 k_s0 h5 hec h6 k_ya hx (by omega)).mono (fun u hu => ?_)
  obtain ⟨c5, s5, rfl⟩ := hu
  refine hs_ch (h := 13) (i := 4) (n := 2) (hh := (eg_mh 10).getD []) (by decide +kernel) ⟨by decide +kernel, by decide +kernel⟩ (Nat.le_of_ble_eq_true rfl) ?_
  show et_go none _ 10 15 [some (.ref th), some (.int x), some (.int y), some (.ref out), none] [] _ _ _ _
  refine hs_k (x := Int32.ofNat 1) (p := 16) (by decide +kernel) ?_
  refine hs_iret (by decide +kernel) ?_
  exact ⟨rfl, rfl⟩
theorem fz_look (hH : et_H et_TT K G) (k_th : K th = some 12) (h0 : et_pl (eg_at G th) 0 = some (.ref s0)) (k_s0 : K s0 = some 10) (k_s1 : K s1 = some 10) (h5 : et_pl (eg_at G s0) 5 = some (.int (Int32.ofNat ec))) (hec : ec ≤ 3) (t : ezK K ya yb O A) (hz : ez G th s0 s1 ya yb O A V) (ho : ∀ n, n < 6 → evo (V n)) (g2 : et_pl (eg_at G s0) 2 = some (.int (Int32.ofNat nc))) (hnc : nc ≤ 20) (hcc : ccP G s0 la ly nc X Y) (k_la : K la = some 17) (k_ly : K ly = some 27) (k_out : K out = some 31) (hd : 6 ≤ d2) : et_go none d2 10 0 (eg_en (eg_mL 10) [.ref th, .int x, .int y, .ref out]) [] G 0 0 (fun u => (¬ xr x ec ∧ u.1 = .inl (some (.int (Int32.ofNat 1)))) ∨ ∃ n, (x = Int32.ofNat n ∧ n < ec) ∧ ((¬ (0 ≤ y.toInt ∧ y.toInt ≤ 12) ∧ u.1 = .inl (some (.int (Int32.ofNat 2)))) ∨ ∃ q, (y = Int32.ofNat q ∧ q ≤ 12) ∧ u.1 = .inl (some (.int (Int32.ofNat 0))) ∧ et_pl (eg_at u.2.1 out) 0 = some (.long (lkV (V n) X Y nc q).toInt64))) := by
  by_cases hx : xr x ec
  · obtain ⟨n, rfl, hn⟩ := xr_nat hx (by omega)
    by_cases hs3 : (0 ≤ y.toInt ∧ y.toInt ≤ 12)
    · obtain ⟨q, rfl, q2, q3⟩ := hs_toN (x := y) (by omega)
      exact (fh_look hH k_th h0 k_s0 h5 hec hz.1.1 t.1.1 hn (hz.2.1 n (by omega)).1 (t.ev (ho n (by omega)) (by omega)) (hz.2.2.1 n (by omega)) g2 hnc hcc k_la k_ly (by omega) k_out hd).mono (fun u hu => .inr ⟨n, ⟨rfl, hn⟩, .inr ⟨q, ⟨rfl, by omega⟩, hu.1, hu.2⟩⟩)
    · exact (fh_lookR hH k_th h0 k_s0 h5 hec hz.1.1 t.1.1 hn (hz.2.1 n (by omega)).1 hs3 hd).mono (fun u hu => .inr ⟨n, ⟨rfl, hn⟩, .inl ⟨hs3, hu.1⟩⟩)
  · exact (fh_lookE hH k_th h0 k_s0 h5 hec hz.1.1 t.1.1 hx hd).mono (fun u hu => .inl ⟨hx, hu.1⟩)
theorem fn_look (hH : et_H et_TT K G) (k_am : K am = some 13) (k_aw : K aw = some 46) (m1 : et_pl (eg_at G am) 1 = some (.ref aw)) (w4 : et_pl (eg_at G aw) 4 = some (.int (Int32.ofNat ec))) (hec : ec ≤ 3) (hm : zyM G aw ec V) (ho : ∀ n, n < 3 → evo (V n)) (w3 : et_pl (eg_at G aw) 3 = some (.int (Int32.ofNat nc))) (hnc : nc ≤ 20) (hcr : crP G aw nc X Y) (hn : n < ec) (hq : q ≤ 12) (hd : 10 ≤ d2) : et_go none d2 230 0 (eg_en (eg_mL 230) [.ref am, .int (Int32.ofNat n), .int (Int32.ofNat q)]) [] G 0 0 (fun u => u.1 = .inl (some (.int (lkV (V n) X Y nc q))) ∧ et_pl (eg_at u.2.1 am) 0 = some (.int (Int32.ofNat 0))) := by
  obtain ⟨d, rfl⟩ : ∃ d, d2 = d + 10 := ⟨d2 - 10, by omega⟩
  have hv := (hm n (by omega)).1 hn
  have o0 : (Int32.ofNat 0).toInt = 0 := rfl
  have o12 : (Int32.ofNat 12).toInt = 12 := rfl
  have hw6 := (ho n (by omega)).1.1
  have oq : (Int32.ofNat q).toInt = q := hs_nint (by omega)
  by_cases hq6 : q < 6
  · rw [show eg_mL 230 = 3 from by decide +kernel]
    show et_go none (d + 10) 230 0 [some (.ref am), some (.int (Int32.ofNat n)), some (.int (Int32.ofNat q))] [] G 0 0 _
    have lt_am := (hH.2.2 _ _ k_am).1
    have lt_aw := (hH.2.2 _ _ k_aw).1
    refine hs_aload (i := 0) (p := 1) (by decide +kernel) rfl ?_
    refine hs_k (x := Int32.ofNat 0) (p := 2) (by decide +kernel) ?_
    refine hf_put (T := et_TT) (t := 13) (ci := 11) (f := 0) (p := 5) (ty := .int) (by decide +kernel) rfl rfl rfl rfl rfl hH k_am hi_any (fun G2 hH x2 e2 => ?_)
    have hm := hm.mv ho (fun j _ _ => x2.2 aw j lt_aw (fun h => hi_ne k_aw k_am (by decide) h.1))
    have hcr : crP G2 aw nc X Y := fun k hk => ⟨(x2.2 aw _ lt_aw (fun h => hi_ne k_aw k_am (by decide) h.1)).trans (hcr k hk).1, (x2.2 aw _ lt_aw (fun h => hi_ne k_aw k_am (by decide) h.1)).trans (hcr k hk).2.1, (hcr k hk).2.2⟩
    have w3 := (x2.2 aw 3 lt_aw (fun h => hi_ne k_aw k_am (by decide) h.1)).trans w3
    have m1 := (x2.2 am 1 lt_am (fun h => absurd h.2 (by decide))).trans m1
    have w4 := (x2.2 aw 4 lt_aw (fun h => (hi_ne k_aw k_am (by decide)) h.1)).trans w4
    have lt_am := Nat.lt_of_lt_of_le lt_am x2.1
    have lt_aw := Nat.lt_of_lt_of_le lt_aw x2.1
    have hv := (hm n (by omega)).1 hn
    refine hs_aload (i := 0) (p := 6) (by decide +kernel) rfl ?_
    refine hs_aload (i := 0) (p := 7) (by decide +kernel) rfl ?_
    refine hs_iload (i := 1) (p := 8) (by decide +kernel) rfl ?_
    refine ht_callv (T := et_TT) (t := 13) (mi := 208) (na := 1) (ci := 11) (lk := 3) (lm := 2) (L0 := eg_en (eg_mL 208) [.ref am, .int (Int32.ofNat n)]) (by decide +kernel) rfl hH k_am rfl rfl rfl rfl rfl (by rw [show eg_mL 208 = 2 from by decide +kernel]; first | done | rfl) ?_
    refine (fm_nEy hH k_am k_aw m1 w4 hec hn (by omega)).mono (fun u hu => xp_cb hu ?_)
    show et_go none _ 230 11 _ [.int (Int32.ofNat 0), .ref am] _ _ _ _
    refine hs_k (x := Int32.ofNat 1) (p := 12) (by decide +kernel) ?_
    refine ht_callv (T := et_TT) (t := 13) (mi := 204) (na := 2) (ci := 11) (lk := 3) (lm := 3) (L0 := eg_en (eg_mL 204) [.ref am, .int (Int32.ofNat 0), .int (Int32.ofNat 1)]) (by decide +kernel) rfl hH k_am rfl rfl rfl rfl rfl (by rw [show eg_mL 204 = 3 from by decide +kernel]; first | done | rfl) ?_
    refine (fm_t0 hH k_am).mono (fun u hu => xp_cb hu ?_)
    show et_go none _ 230 15 _ [.int (Int32.ofNat 0)] _ _ _ _
    refine hs_if0 (c := .ne) (t := 41) (f := 18) (by decide +kernel) (show ¬ (¬ Int32.ofNat 0 = 0) by decide) ?_
    refine hs_aload (i := 0) (p := 19) (by decide +kernel) rfl ?_
    refine hs_iload (i := 2) (p := 20) (by decide +kernel) rfl ?_
    refine hs_k (x := Int32.ofNat 0) (p := 21) (by decide +kernel) ?_
    refine hs_k (x := Int32.ofNat 12) (p := 23) (by decide +kernel) ?_
    refine hs_calls (mi := 209) (na := 3) (lk := 3) (lm := 3) (L0 := eg_en (eg_mL 209) [.int (Int32.ofNat q), .int (Int32.ofNat 0), .int (Int32.ofNat 12)]) (by decide +kernel) rfl rfl rfl rfl rfl rfl (by rw [show eg_mL 209 = 3 from by decide +kernel]; first | done | rfl) ?_
    refine (fm_in (x := Int32.ofNat q) (y := Int32.ofNat 0) (z := Int32.ofNat 12)).mono (fun u hu => xp_cb hu ?_)
    by_cases xw : (Int32.ofNat 0).toInt ≤ (Int32.ofNat q).toInt ∧ (Int32.ofNat q).toInt ≤ (Int32.ofNat 12).toInt
    · rw [if_pos xw]
      show et_go none _ 230 26 _ [.int (Int32.ofNat 1), .ref am] _ _ _ _
      refine hs_if1 (c := .ne) (t := 33) (f := 29) (by decide +kernel) (show ¬ Int32.ofNat 1 = 0 by decide) ?_
      refine hs_k (x := Int32.ofNat 0) (p := 34) (by decide +kernel) ?_
      refine hs_k (x := Int32.ofNat 2) (p := 35) (by decide +kernel) ?_
      refine ht_callv (T := et_TT) (t := 13) (mi := 204) (na := 2) (ci := 11) (lk := 3) (lm := 3) (L0 := eg_en (eg_mL 204) [.ref am, .int (Int32.ofNat 0), .int (Int32.ofNat 2)]) (by decide +kernel) rfl hH k_am rfl rfl rfl rfl rfl (by rw [show eg_mL 204 = 3 from by decide +kernel]; first | done | rfl) ?_
      refine (fm_t0 hH k_am).mono (fun u hu => xp_cb hu ?_)
      show et_go none _ 230 38 _ [.int (Int32.ofNat 0)] _ _ _ _
      refine hs_if1 (c := .eq) (t := 43) (f := 41) (by decide +kernel) (show Int32.ofNat 0 = 0 by decide) ?_
      refine hs_iload (i := 2) (p := 44) (by decide +kernel) rfl ?_
      refine hs_k (x := Int32.ofNat 6) (p := 46) (by decide +kernel) ?_
      refine hs_br2n (c := .ge) (t := 69) (f := 49) (by decide +kernel) (by omega) (by omega) (fun (c46 : 6 ≤ q) => ?_) (fun (c46 : ¬ (6 ≤ q)) => ?_)
      · exact absurd hq6 (by omega)
      · refine hs_iload (i := 2) (p := 50) (by decide +kernel) rfl ?_
        refine hs_aload (i := 0) (p := 51) (by decide +kernel) rfl ?_
        refine hs_iload (i := 1) (p := 52) (by decide +kernel) rfl ?_
        refine ht_callv (T := et_TT) (t := 13) (mi := 224) (na := 1) (ci := 11) (lk := 3) (lm := 2) (L0 := eg_en (eg_mL 224) [.ref am, .int (Int32.ofNat n)]) (by decide +kernel) rfl hH k_am rfl rfl rfl rfl rfl (by rw [show eg_mL 224 = 2 from by decide +kernel]; first | done | rfl) ?_
        refine (fn_wires hH k_am k_aw m1 (by omega) hv.1 (by omega)).mono (fun u hu => xp_cb hu ?_)
        show et_go none _ 230 55 _ [.int (Int32.ofNat ((V n).1)), .int (Int32.ofNat q)] _ _ _ _
        refine hs_br2n (c := .ge) (t := 67) (f := 58) (by decide +kernel) (by omega) (by omega) (fun (c55 : (V n).1 ≤ q) => ?_) (fun (c55 : ¬ ((V n).1 ≤ q)) => ?_)
        · refine hs_k (x := Int32.ofNat 0) (p := 68) (by decide +kernel) ?_
          refine hs_iret (by decide +kernel) ?_
          refine ⟨?_, e2⟩
          rw [show (lkV (V n) X Y nc q) = (V n).2.2.2.1 q from if_pos hq6, (ho n (by omega)).2 q (by omega) (by omega)]
        · refine hs_aload (i := 0) (p := 59) (by decide +kernel) rfl ?_
          refine hs_iload (i := 1) (p := 60) (by decide +kernel) rfl ?_
          refine hs_iload (i := 2) (p := 61) (by decide +kernel) rfl ?_
          refine ht_callv (T := et_TT) (t := 13) (mi := 231) (na := 2) (ci := 11) (lk := 3) (lm := 3) (L0 := eg_en (eg_mL 231) [.ref am, .int (Int32.ofNat n), .int (Int32.ofNat q)]) (by decide +kernel) rfl hH k_am rfl rfl rfl rfl rfl (by rw [show eg_mL 231 = 3 from by decide +kernel]; first | done | rfl) ?_
          refine (fn_knob hH k_am k_aw m1 (by omega) (ho n (by omega)).1.1 (ho n (by omega)).1.2 hv (by omega) (by omega)).mono (fun u hu => xp_cb hu ?_)
          show et_go none _ 230 64 _ [.int ((V n).2.2.2.1 q)] _ _ _ _
          refine hs_goto (p := 68) (by decide +kernel) ?_
          refine hs_iret (by decide +kernel) ?_
          refine ⟨?_, e2⟩
          rw [show (lkV (V n) X Y nc q) = (V n).2.2.2.1 q from if_pos hq6]
    · exact absurd ⟨by omega, by omega⟩ xw
  · rcases (show q = 6 ∨ q = 7 ∨ q = 8 ∨ q = 9 ∨ q = 10 ∨ q = 11 ∨ q = 12 by omega) with rfl | rfl | rfl | rfl | rfl | rfl | rfl
    · rw [show eg_mL 230 = 3 from by decide +kernel]
      show et_go none (d + 10) 230 0 [some (.ref am), some (.int (Int32.ofNat n)), some (.int (Int32.ofNat 6))] [] G 0 0 _
      have lt_am := (hH.2.2 _ _ k_am).1
      have lt_aw := (hH.2.2 _ _ k_aw).1
      refine hs_aload (i := 0) (p := 1) (by decide +kernel) rfl ?_
      refine hs_k (x := Int32.ofNat 0) (p := 2) (by decide +kernel) ?_
      refine hf_put (T := et_TT) (t := 13) (ci := 11) (f := 0) (p := 5) (ty := .int) (by decide +kernel) rfl rfl rfl rfl rfl hH k_am hi_any (fun G2 hH x2 e2 => ?_)
      have hm := hm.mv ho (fun j _ _ => x2.2 aw j lt_aw (fun h => hi_ne k_aw k_am (by decide) h.1))
      have hcr : crP G2 aw nc X Y := fun k hk => ⟨(x2.2 aw _ lt_aw (fun h => hi_ne k_aw k_am (by decide) h.1)).trans (hcr k hk).1, (x2.2 aw _ lt_aw (fun h => hi_ne k_aw k_am (by decide) h.1)).trans (hcr k hk).2.1, (hcr k hk).2.2⟩
      have w3 := (x2.2 aw 3 lt_aw (fun h => hi_ne k_aw k_am (by decide) h.1)).trans w3
      have m1 := (x2.2 am 1 lt_am (fun h => absurd h.2 (by decide))).trans m1
      have w4 := (x2.2 aw 4 lt_aw (fun h => (hi_ne k_aw k_am (by decide)) h.1)).trans w4
      have lt_am := Nat.lt_of_lt_of_le lt_am x2.1
      have lt_aw := Nat.lt_of_lt_of_le lt_aw x2.1
      have hv := (hm n (by omega)).1 hn
      refine hs_aload (i := 0) (p := 6) (by decide +kernel) rfl ?_
      refine hs_aload (i := 0) (p := 7) (by decide +kernel) rfl ?_
      refine hs_iload (i := 1) (p := 8) (by decide +kernel) rfl ?_
      refine ht_callv (T := et_TT) (t := 13) (mi := 208) (na := 1) (ci := 11) (lk := 3) (lm := 2) (L0 := eg_en (eg_mL 208) [.ref am, .int (Int32.ofNat n)]) (by decide +kernel) rfl hH k_am rfl rfl rfl rfl rfl (by rw [show eg_mL 208 = 2 from by decide +kernel]; first | done | rfl) ?_
      refine (fm_nEy hH k_am k_aw m1 w4 hec hn (by omega)).mono (fun u hu => xp_cb hu ?_)
      show et_go none _ 230 11 _ [.int (Int32.ofNat 0), .ref am] _ _ _ _
      refine hs_k (x := Int32.ofNat 1) (p := 12) (by decide +kernel) ?_
      refine ht_callv (T := et_TT) (t := 13) (mi := 204) (na := 2) (ci := 11) (lk := 3) (lm := 3) (L0 := eg_en (eg_mL 204) [.ref am, .int (Int32.ofNat 0), .int (Int32.ofNat 1)]) (by decide +kernel) rfl hH k_am rfl rfl rfl rfl rfl (by rw [show eg_mL 204 = 3 from by decide +kernel]; first | done | rfl) ?_
      refine (fm_t0 hH k_am).mono (fun u hu => xp_cb hu ?_)
      show et_go none _ 230 15 _ [.int (Int32.ofNat 0)] _ _ _ _
      refine hs_if0 (c := .ne) (t := 41) (f := 18) (by decide +kernel) (show ¬ (¬ Int32.ofNat 0 = 0) by decide) ?_
      refine hs_aload (i := 0) (p := 19) (by decide +kernel) rfl ?_
      refine hs_iload (i := 2) (p := 20) (by decide +kernel) rfl ?_
      refine hs_k (x := Int32.ofNat 0) (p := 21) (by decide +kernel) ?_
      refine hs_k (x := Int32.ofNat 12) (p := 23) (by decide +kernel) ?_
      refine hs_calls (mi := 209) (na := 3) (lk := 3) (lm := 3) (L0 := eg_en (eg_mL 209) [.int (Int32.ofNat 6), .int (Int32.ofNat 0), .int (Int32.ofNat 12)]) (by decide +kernel) rfl rfl rfl rfl rfl rfl (by rw [show eg_mL 209 = 3 from by decide +kernel]; first | done | rfl) ?_
      refine (fm_in (x := Int32.ofNat 6) (y := Int32.ofNat 0) (z := Int32.ofNat 12)).mono (fun u hu => xp_cb hu ?_)
      by_cases xw : (Int32.ofNat 0).toInt ≤ (Int32.ofNat 6).toInt ∧ (Int32.ofNat 6).toInt ≤ (Int32.ofNat 12).toInt
      · rw [if_pos xw]
        show et_go none _ 230 26 _ [.int (Int32.ofNat 1), .ref am] _ _ _ _
        refine hs_if1 (c := .ne) (t := 33) (f := 29) (by decide +kernel) (show ¬ Int32.ofNat 1 = 0 by decide) ?_
        refine hs_k (x := Int32.ofNat 0) (p := 34) (by decide +kernel) ?_
        refine hs_k (x := Int32.ofNat 2) (p := 35) (by decide +kernel) ?_
        refine ht_callv (T := et_TT) (t := 13) (mi := 204) (na := 2) (ci := 11) (lk := 3) (lm := 3) (L0 := eg_en (eg_mL 204) [.ref am, .int (Int32.ofNat 0), .int (Int32.ofNat 2)]) (by decide +kernel) rfl hH k_am rfl rfl rfl rfl rfl (by rw [show eg_mL 204 = 3 from by decide +kernel]; first | done | rfl) ?_
        refine (fm_t0 hH k_am).mono (fun u hu => xp_cb hu ?_)
        show et_go none _ 230 38 _ [.int (Int32.ofNat 0)] _ _ _ _
        refine hs_if1 (c := .eq) (t := 43) (f := 41) (by decide +kernel) (show Int32.ofNat 0 = 0 by decide) ?_
        refine hs_iload (i := 2) (p := 44) (by decide +kernel) rfl ?_
        refine hs_k (x := Int32.ofNat 6) (p := 46) (by decide +kernel) ?_
        refine hs_br2n (c := .ge) (t := 69) (f := 49) (by decide +kernel) (by omega) (by omega) (fun _ => ?_) (fun h => absurd (show 6 ≤ 6 by decide) h)
        refine hs_iload (i := 2) (p := 70) (by decide +kernel) rfl ?_
        refine hs_st (ins := .tableswitch 82 6 11 #[38, 46, 52, 60, 68, 76]) (len := 38) (by decide +kernel) rfl (by rfl) (?_ : et_go none _ 230 108 _ _ _ _ _ _)
        refine hs_aload (i := 0) (p := 109) (by decide +kernel) rfl ?_
        refine hs_iload (i := 1) (p := 110) (by decide +kernel) rfl ?_
        refine hs_k (x := Int32.ofNat 19) (p := 112) (by decide +kernel) ?_
        refine ht_callv (T := et_TT) (t := 13) (mi := 225) (na := 2) (ci := 11) (lk := 3) (lm := 3) (L0 := eg_en (eg_mL 225) [.ref am, .int (Int32.ofNat n), .int (Int32.ofNat 19)]) (by decide +kernel) rfl hH k_am rfl rfl rfl rfl rfl (by rw [show eg_mL 225 = 3 from by decide +kernel]; first | done | rfl) ?_
        refine (fn_of hH k_am k_aw m1 (by omega) hv.2.2.1).mono (fun u hu => xp_cb hu ?_)
        show et_go none _ 230 115 _ [.int ((V n).2.2.2.2.1)] _ _ _ _
        refine hs_iret (by decide +kernel) ?_
        exact ⟨rfl, e2⟩
      · exact absurd ⟨by omega, by omega⟩ xw
    · rw [show eg_mL 230 = 3 from by decide +kernel]
      show et_go none (d + 10) 230 0 [some (.ref am), some (.int (Int32.ofNat n)), some (.int (Int32.ofNat 7))] [] G 0 0 _
      have lt_am := (hH.2.2 _ _ k_am).1
      have lt_aw := (hH.2.2 _ _ k_aw).1
      refine hs_aload (i := 0) (p := 1) (by decide +kernel) rfl ?_
      refine hs_k (x := Int32.ofNat 0) (p := 2) (by decide +kernel) ?_
      refine hf_put (T := et_TT) (t := 13) (ci := 11) (f := 0) (p := 5) (ty := .int) (by decide +kernel) rfl rfl rfl rfl rfl hH k_am hi_any (fun G2 hH x2 e2 => ?_)
      have hm := hm.mv ho (fun j _ _ => x2.2 aw j lt_aw (fun h => hi_ne k_aw k_am (by decide) h.1))
      have hcr : crP G2 aw nc X Y := fun k hk => ⟨(x2.2 aw _ lt_aw (fun h => hi_ne k_aw k_am (by decide) h.1)).trans (hcr k hk).1, (x2.2 aw _ lt_aw (fun h => hi_ne k_aw k_am (by decide) h.1)).trans (hcr k hk).2.1, (hcr k hk).2.2⟩
      have w3 := (x2.2 aw 3 lt_aw (fun h => hi_ne k_aw k_am (by decide) h.1)).trans w3
      have m1 := (x2.2 am 1 lt_am (fun h => absurd h.2 (by decide))).trans m1
      have w4 := (x2.2 aw 4 lt_aw (fun h => (hi_ne k_aw k_am (by decide)) h.1)).trans w4
      have lt_am := Nat.lt_of_lt_of_le lt_am x2.1
      have lt_aw := Nat.lt_of_lt_of_le lt_aw x2.1
      have hv := (hm n (by omega)).1 hn
      refine hs_aload (i := 0) (p := 6) (by decide +kernel) rfl ?_
      refine hs_aload (i := 0) (p := 7) (by decide +kernel) rfl ?_
      refine hs_iload (i := 1) (p := 8) (by decide +kernel) rfl ?_
      refine ht_callv (T := et_TT) (t := 13) (mi := 208) (na := 1) (ci := 11) (lk := 3) (lm := 2) (L0 := eg_en (eg_mL 208) [.ref am, .int (Int32.ofNat n)]) (by decide +kernel) rfl hH k_am rfl rfl rfl rfl rfl (by rw [show eg_mL 208 = 2 from by decide +kernel]; first | done | rfl) ?_
      refine (fm_nEy hH k_am k_aw m1 w4 hec hn (by omega)).mono (fun u hu => xp_cb hu ?_)
      show et_go none _ 230 11 _ [.int (Int32.ofNat 0), .ref am] _ _ _ _
      refine hs_k (x := Int32.ofNat 1) (p := 12) (by decide +kernel) ?_
      refine ht_callv (T := et_TT) (t := 13) (mi := 204) (na := 2) (ci := 11) (lk := 3) (lm := 3) (L0 := eg_en (eg_mL 204) [.ref am, .int (Int32.ofNat 0), .int (Int32.ofNat 1)]) (by decide +kernel) rfl hH k_am rfl rfl rfl rfl rfl (by rw [show eg_mL 204 = 3 from by decide +kernel]; first | done | rfl) ?_
      refine (fm_t0 hH k_am).mono (fun u hu => xp_cb hu ?_)
      show et_go none _ 230 15 _ [.int (Int32.ofNat 0)] _ _ _ _
      refine hs_if0 (c := .ne) (t := 41) (f := 18) (by decide +kernel) (show ¬ (¬ Int32.ofNat 0 = 0) by decide) ?_
      refine hs_aload (i := 0) (p := 19) (by decide +kernel) rfl ?_
      refine hs_iload (i := 2) (p := 20) (by decide +kernel) rfl ?_
      refine hs_k (x := Int32.ofNat 0) (p := 21) (by decide +kernel) ?_
      refine hs_k (x := Int32.ofNat 12) (p := 23) (by decide +kernel) ?_
      refine hs_calls (mi := 209) (na := 3) (lk := 3) (lm := 3) (L0 := eg_en (eg_mL 209) [.int (Int32.ofNat 7), .int (Int32.ofNat 0), .int (Int32.ofNat 12)]) (by decide +kernel) rfl rfl rfl rfl rfl rfl (by rw [show eg_mL 209 = 3 from by decide +kernel]; first | done | rfl) ?_
      refine (fm_in (x := Int32.ofNat 7) (y := Int32.ofNat 0) (z := Int32.ofNat 12)).mono (fun u hu => xp_cb hu ?_)
      by_cases xw : (Int32.ofNat 0).toInt ≤ (Int32.ofNat 7).toInt ∧ (Int32.ofNat 7).toInt ≤ (Int32.ofNat 12).toInt
      · rw [if_pos xw]
        show et_go none _ 230 26 _ [.int (Int32.ofNat 1), .ref am] _ _ _ _
        refine hs_if1 (c := .ne) (t := 33) (f := 29) (by decide +kernel) (show ¬ Int32.ofNat 1 = 0 by decide) ?_
        refine hs_k (x := Int32.ofNat 0) (p := 34) (by decide +kernel) ?_
        refine hs_k (x := Int32.ofNat 2) (p := 35) (by decide +kernel) ?_
        refine ht_callv (T := et_TT) (t := 13) (mi := 204) (na := 2) (ci := 11) (lk := 3) (lm := 3) (L0 := eg_en (eg_mL 204) [.ref am, .int (Int32.ofNat 0), .int (Int32.ofNat 2)]) (by decide +kernel) rfl hH k_am rfl rfl rfl rfl rfl (by rw [show eg_mL 204 = 3 from by decide +kernel]; first | done | rfl) ?_
        refine (fm_t0 hH k_am).mono (fun u hu => xp_cb hu ?_)
        show et_go none _ 230 38 _ [.int (Int32.ofNat 0)] _ _ _ _
        refine hs_if1 (c := .eq) (t := 43) (f := 41) (by decide +kernel) (show Int32.ofNat 0 = 0 by decide) ?_
        refine hs_iload (i := 2) (p := 44) (by decide +kernel) rfl ?_
        refine hs_k (x := Int32.ofNat 6) (p := 46) (by decide +kernel) ?_
        refine hs_br2n (c := .ge) (t := 69) (f := 49) (by decide +kernel) (by omega) (by omega) (fun _ => ?_) (fun h => absurd (show 6 ≤ 7 by decide) h)
        refine hs_iload (i := 2) (p := 70) (by decide +kernel) rfl ?_
        refine hs_st (ins := .tableswitch 82 6 11 #[38, 46, 52, 60, 68, 76]) (len := 38) (by decide +kernel) rfl (by rfl) (?_ : et_go none _ 230 116 _ _ _ _ _ _)
        refine hs_aload (i := 0) (p := 117) (by decide +kernel) rfl ?_
        refine hs_iload (i := 1) (p := 118) (by decide +kernel) rfl ?_
        refine ht_callv (T := et_TT) (t := 13) (mi := 224) (na := 1) (ci := 11) (lk := 3) (lm := 2) (L0 := eg_en (eg_mL 224) [.ref am, .int (Int32.ofNat n)]) (by decide +kernel) rfl hH k_am rfl rfl rfl rfl rfl (by rw [show eg_mL 224 = 2 from by decide +kernel]; first | done | rfl) ?_
        refine (fn_wires hH k_am k_aw m1 (by omega) hv.1 (by omega)).mono (fun u hu => xp_cb hu ?_)
        show et_go none _ 230 121 _ [.int (Int32.ofNat ((V n).1))] _ _ _ _
        refine hs_iret (by decide +kernel) ?_
        exact ⟨rfl, e2⟩
      · exact absurd ⟨by omega, by omega⟩ xw
    · rw [show eg_mL 230 = 3 from by decide +kernel]
      show et_go none (d + 10) 230 0 [some (.ref am), some (.int (Int32.ofNat n)), some (.int (Int32.ofNat 8))] [] G 0 0 _
      have lt_am := (hH.2.2 _ _ k_am).1
      have lt_aw := (hH.2.2 _ _ k_aw).1
      refine hs_aload (i := 0) (p := 1) (by decide +kernel) rfl ?_
      refine hs_k (x := Int32.ofNat 0) (p := 2) (by decide +kernel) ?_
      refine hf_put (T := et_TT) (t := 13) (ci := 11) (f := 0) (p := 5) (ty := .int) (by decide +kernel) rfl rfl rfl rfl rfl hH k_am hi_any (fun G2 hH x2 e2 => ?_)
      have hm := hm.mv ho (fun j _ _ => x2.2 aw j lt_aw (fun h => hi_ne k_aw k_am (by decide) h.1))
      have hcr : crP G2 aw nc X Y := fun k hk => ⟨(x2.2 aw _ lt_aw (fun h => hi_ne k_aw k_am (by decide) h.1)).trans (hcr k hk).1, (x2.2 aw _ lt_aw (fun h => hi_ne k_aw k_am (by decide) h.1)).trans (hcr k hk).2.1, (hcr k hk).2.2⟩
      have w3 := (x2.2 aw 3 lt_aw (fun h => hi_ne k_aw k_am (by decide) h.1)).trans w3
      have m1 := (x2.2 am 1 lt_am (fun h => absurd h.2 (by decide))).trans m1
      have w4 := (x2.2 aw 4 lt_aw (fun h => (hi_ne k_aw k_am (by decide)) h.1)).trans w4
      have lt_am := Nat.lt_of_lt_of_le lt_am x2.1
      have lt_aw := Nat.lt_of_lt_of_le lt_aw x2.1
      have hv := (hm n (by omega)).1 hn
      refine hs_aload (i := 0) (p := 6) (by decide +kernel) rfl ?_
      refine hs_aload (i := 0) (p := 7) (by decide +kernel) rfl ?_
      refine hs_iload (i := 1) (p := 8) (by decide +kernel) rfl ?_
      refine ht_callv (T := et_TT) (t := 13) (mi := 208) (na := 1) (ci := 11) (lk := 3) (lm := 2) (L0 := eg_en (eg_mL 208) [.ref am, .int (Int32.ofNat n)]) (by decide +kernel) rfl hH k_am rfl rfl rfl rfl rfl (by rw [show eg_mL 208 = 2 from by decide +kernel]; first | done | rfl) ?_
      refine (fm_nEy hH k_am k_aw m1 w4 hec hn (by omega)).mono (fun u hu => xp_cb hu ?_)
      show et_go none _ 230 11 _ [.int (Int32.ofNat 0), .ref am] _ _ _ _
      refine hs_k (x := Int32.ofNat 1) (p := 12) (by decide +kernel) ?_
      refine ht_callv (T := et_TT) (t := 13) (mi := 204) (na := 2) (ci := 11) (lk := 3) (lm := 3) (L0 := eg_en (eg_mL 204) [.ref am, .int (Int32.ofNat 0), .int (Int32.ofNat 1)]) (by decide +kernel) rfl hH k_am rfl rfl rfl rfl rfl (by rw [show eg_mL 204 = 3 from by decide +kernel]; first | done | rfl) ?_
      refine (fm_t0 hH k_am).mono (fun u hu => xp_cb hu ?_)
      show et_go none _ 230 15 _ [.int (Int32.ofNat 0)] _ _ _ _
      refine hs_if0 (c := .ne) (t := 41) (f := 18) (by decide +kernel) (show ¬ (¬ Int32.ofNat 0 = 0) by decide) ?_
      refine hs_aload (i := 0) (p := 19) (by decide +kernel) rfl ?_
      refine hs_iload (i := 2) (p := 20) (by decide +kernel) rfl ?_
      refine hs_k (x := Int32.ofNat 0) (p := 21) (by decide +kernel) ?_
      refine hs_k (x := Int32.ofNat 12) (p := 23) (by decide +kernel) ?_
      refine hs_calls (mi := 209) (na := 3) (lk := 3) (lm := 3) (L0 := eg_en (eg_mL 209) [.int (Int32.ofNat 8), .int (Int32.ofNat 0), .int (Int32.ofNat 12)]) (by decide +kernel) rfl rfl rfl rfl rfl rfl (by rw [show eg_mL 209 = 3 from by decide +kernel]; first | done | rfl) ?_
      refine (fm_in (x := Int32.ofNat 8) (y := Int32.ofNat 0) (z := Int32.ofNat 12)).mono (fun u hu => xp_cb hu ?_)
      by_cases xw : (Int32.ofNat 0).toInt ≤ (Int32.ofNat 8).toInt ∧ (Int32.ofNat 8).toInt ≤ (Int32.ofNat 12).toInt
      · rw [if_pos xw]
        show et_go none _ 230 26 _ [.int (Int32.ofNat 1), .ref am] _ _ _ _
        refine hs_if1 (c := .ne) (t := 33) (f := 29) (by decide +kernel) (show ¬ Int32.ofNat 1 = 0 by decide) ?_
        refine hs_k (x := Int32.ofNat 0) (p := 34) (by decide +kernel) ?_
        refine hs_k (x := Int32.ofNat 2) (p := 35) (by decide +kernel) ?_
        refine ht_callv (T := et_TT) (t := 13) (mi := 204) (na := 2) (ci := 11) (lk := 3) (lm := 3) (L0 := eg_en (eg_mL 204) [.ref am, .int (Int32.ofNat 0), .int (Int32.ofNat 2)]) (by decide +kernel) rfl hH k_am rfl rfl rfl rfl rfl (by rw [show eg_mL 204 = 3 from by decide +kernel]; first | done | rfl) ?_
        refine (fm_t0 hH k_am).mono (fun u hu => xp_cb hu ?_)
        show et_go none _ 230 38 _ [.int (Int32.ofNat 0)] _ _ _ _
        refine hs_if1 (c := .eq) (t := 43) (f := 41) (by decide +kernel) (show Int32.ofNat 0 = 0 by decide) ?_
        refine hs_iload (i := 2) (p := 44) (by decide +kernel) rfl ?_
        refine hs_k (x := Int32.ofNat 6) (p := 46) (by decide +kernel) ?_
        refine hs_br2n (c := .ge) (t := 69) (f := 49) (by decide +kernel) (by omega) (by omega) (fun _ => ?_) (fun h => absurd (show 6 ≤ 8 by decide) h)
        refine hs_iload (i := 2) (p := 70) (by decide +kernel) rfl ?_
        refine hs_st (ins := .tableswitch 82 6 11 #[38, 46, 52, 60, 68, 76]) (len := 38) (by decide +kernel) rfl (by rfl) (?_ : et_go none _ 230 122 _ _ _ _ _ _)
        refine hs_aload (i := 0) (p := 123) (by decide +kernel) rfl ?_
        refine hs_iload (i := 1) (p := 124) (by decide +kernel) rfl ?_
        refine hs_k (x := Int32.ofNat 22) (p := 126) (by decide +kernel) ?_
        refine ht_callv (T := et_TT) (t := 13) (mi := 225) (na := 2) (ci := 11) (lk := 3) (lm := 3) (L0 := eg_en (eg_mL 225) [.ref am, .int (Int32.ofNat n), .int (Int32.ofNat 22)]) (by decide +kernel) rfl hH k_am rfl rfl rfl rfl rfl (by rw [show eg_mL 225 = 3 from by decide +kernel]; first | done | rfl) ?_
        refine (fn_of hH k_am k_aw m1 (by omega) hv.2.2.2.1).mono (fun u hu => xp_cb hu ?_)
        show et_go none _ 230 129 _ [.int ((V n).2.2.2.2.2.1)] _ _ _ _
        refine hs_iret (by decide +kernel) ?_
        exact ⟨rfl, e2⟩
      · exact absurd ⟨by omega, by omega⟩ xw
    · rw [show eg_mL 230 = 3 from by decide +kernel]
      show et_go none (d + 10) 230 0 [some (.ref am), some (.int (Int32.ofNat n)), some (.int (Int32.ofNat 9))] [] G 0 0 _
      have lt_am := (hH.2.2 _ _ k_am).1
      have lt_aw := (hH.2.2 _ _ k_aw).1
      refine hs_aload (i := 0) (p := 1) (by decide +kernel) rfl ?_
      refine hs_k (x := Int32.ofNat 0) (p := 2) (by decide +kernel) ?_
      refine hf_put (T := et_TT) (t := 13) (ci := 11) (f := 0) (p := 5) (ty := .int) (by decide +kernel) rfl rfl rfl rfl rfl hH k_am hi_any (fun G2 hH x2 e2 => ?_)
      have hm := hm.mv ho (fun j _ _ => x2.2 aw j lt_aw (fun h => hi_ne k_aw k_am (by decide) h.1))
      have hcr : crP G2 aw nc X Y := fun k hk => ⟨(x2.2 aw _ lt_aw (fun h => hi_ne k_aw k_am (by decide) h.1)).trans (hcr k hk).1, (x2.2 aw _ lt_aw (fun h => hi_ne k_aw k_am (by decide) h.1)).trans (hcr k hk).2.1, (hcr k hk).2.2⟩
      have w3 := (x2.2 aw 3 lt_aw (fun h => hi_ne k_aw k_am (by decide) h.1)).trans w3
      have m1 := (x2.2 am 1 lt_am (fun h => absurd h.2 (by decide))).trans m1
      have w4 := (x2.2 aw 4 lt_aw (fun h => (hi_ne k_aw k_am (by decide)) h.1)).trans w4
      have lt_am := Nat.lt_of_lt_of_le lt_am x2.1
      have lt_aw := Nat.lt_of_lt_of_le lt_aw x2.1
      have hv := (hm n (by omega)).1 hn
      refine hs_aload (i := 0) (p := 6) (by decide +kernel) rfl ?_
      refine hs_aload (i := 0) (p := 7) (by decide +kernel) rfl ?_
      refine hs_iload (i := 1) (p := 8) (by decide +kernel) rfl ?_
      refine ht_callv (T := et_TT) (t := 13) (mi := 208) (na := 1) (ci := 11) (lk := 3) (lm := 2) (L0 := eg_en (eg_mL 208) [.ref am, .int (Int32.ofNat n)]) (by decide +kernel) rfl hH k_am rfl rfl rfl rfl rfl (by rw [show eg_mL 208 = 2 from by decide +kernel]; first | done | rfl) ?_
      refine (fm_nEy hH k_am k_aw m1 w4 hec hn (by omega)).mono (fun u hu => xp_cb hu ?_)
      show et_go none _ 230 11 _ [.int (Int32.ofNat 0), .ref am] _ _ _ _
      refine hs_k (x := Int32.ofNat 1) (p := 12) (by decide +kernel) ?_
      refine ht_callv (T := et_TT) (t := 13) (mi := 204) (na := 2) (ci := 11) (lk := 3) (lm := 3) (L0 := eg_en (eg_mL 204) [.ref am, .int (Int32.ofNat 0), .int (Int32.ofNat 1)]) (by decide +kernel) rfl hH k_am rfl rfl rfl rfl rfl (by rw [show eg_mL 204 = 3 from by decide +kernel]; first | done | rfl) ?_
      refine (fm_t0 hH k_am).mono (fun u hu => xp_cb hu ?_)
      show et_go none _ 230 15 _ [.int (Int32.ofNat 0)] _ _ _ _
      refine hs_if0 (c := .ne) (t := 41) (f := 18) (by decide +kernel) (show ¬ (¬ Int32.ofNat 0 = 0) by decide) ?_
      refine hs_aload (i := 0) (p := 19) (by decide +kernel) rfl ?_
      refine hs_iload (i := 2) (p := 20) (by decide +kernel) rfl ?_
      refine hs_k (x := Int32.ofNat 0) (p := 21) (by decide +kernel) ?_
      refine hs_k (x := Int32.ofNat 12) (p := 23) (by decide +kernel) ?_
      refine hs_calls (mi := 209) (na := 3) (lk := 3) (lm := 3) (L0 := eg_en (eg_mL 209) [.int (Int32.ofNat 9), .int (Int32.ofNat 0), .int (Int32.ofNat 12)]) (by decide +kernel) rfl rfl rfl rfl rfl rfl (by rw [show eg_mL 209 = 3 from by decide +kernel]; first | done | rfl) ?_
      refine (fm_in (x := Int32.ofNat 9) (y := Int32.ofNat 0) (z := Int32.ofNat 12)).mono (fun u hu => xp_cb hu ?_)
      by_cases xw : (Int32.ofNat 0).toInt ≤ (Int32.ofNat 9).toInt ∧ (Int32.ofNat 9).toInt ≤ (Int32.ofNat 12).toInt
      · rw [if_pos xw]
        show et_go none _ 230 26 _ [.int (Int32.ofNat 1), .ref am] _ _ _ _
        refine hs_if1 (c := .ne) (t := 33) (f := 29) (by decide +kernel) (show ¬ Int32.ofNat 1 = 0 by decide) ?_
        refine hs_k (x := Int32.ofNat 0) (p := 34) (by decide +kernel) ?_
        refine hs_k (x := Int32.ofNat 2) (p := 35) (by decide +kernel) ?_
        refine ht_callv (T := et_TT) (t := 13) (mi := 204) (na := 2) (ci := 11) (lk := 3) (lm := 3) (L0 := eg_en (eg_mL 204) [.ref am, .int (Int32.ofNat 0), .int (Int32.ofNat 2)]) (by decide +kernel) rfl hH k_am rfl rfl rfl rfl rfl (by rw [show eg_mL 204 = 3 from by decide +kernel]; first | done | rfl) ?_
        refine (fm_t0 hH k_am).mono (fun u hu => xp_cb hu ?_)
        show et_go none _ 230 38 _ [.int (Int32.ofNat 0)] _ _ _ _
        refine hs_if1 (c := .eq) (t := 43) (f := 41) (by decide +kernel) (show Int32.ofNat 0 = 0 by decide) ?_
        refine hs_iload (i := 2) (p := 44) (by decide +kernel) rfl ?_
        refine hs_k (x := Int32.ofNat 6) (p := 46) (by decide +kernel) ?_
        refine hs_br2n (c := .ge) (t := 69) (f := 49) (by decide +kernel) (by omega) (by omega) (fun _ => ?_) (fun h => absurd (show 6 ≤ 9 by decide) h)
        refine hs_iload (i := 2) (p := 70) (by decide +kernel) rfl ?_
        refine hs_st (ins := .tableswitch 82 6 11 #[38, 46, 52, 60, 68, 76]) (len := 38) (by decide +kernel) rfl (by rfl) (?_ : et_go none _ 230 130 _ _ _ _ _ _)
        refine hs_aload (i := 0) (p := 131) (by decide +kernel) rfl ?_
        refine hs_iload (i := 1) (p := 132) (by decide +kernel) rfl ?_
        refine hs_k (x := Int32.ofNat 20) (p := 134) (by decide +kernel) ?_
        refine ht_callv (T := et_TT) (t := 13) (mi := 225) (na := 2) (ci := 11) (lk := 3) (lm := 3) (L0 := eg_en (eg_mL 225) [.ref am, .int (Int32.ofNat n), .int (Int32.ofNat 20)]) (by decide +kernel) rfl hH k_am rfl rfl rfl rfl rfl (by rw [show eg_mL 225 = 3 from by decide +kernel]; first | done | rfl) ?_
        refine (fn_of hH k_am k_aw m1 (by omega) hv.2.2.2.2.1).mono (fun u hu => xp_cb hu ?_)
        show et_go none _ 230 137 _ [.int ((V n).2.2.2.2.2.2.1)] _ _ _ _
        refine hs_iret (by decide +kernel) ?_
        exact ⟨rfl, e2⟩
      · exact absurd ⟨by omega, by omega⟩ xw
    · rw [show eg_mL 230 = 3 from by decide +kernel]
      show et_go none (d + 10) 230 0 [some (.ref am), some (.int (Int32.ofNat n)), some (.int (Int32.ofNat 10))] [] G 0 0 _
      have lt_am := (hH.2.2 _ _ k_am).1
      have lt_aw := (hH.2.2 _ _ k_aw).1
      refine hs_aload (i := 0) (p := 1) (by decide +kernel) rfl ?_
      refine hs_k (x := Int32.ofNat 0) (p := 2) (by decide +kernel) ?_
      refine hf_put (T := et_TT) (t := 13) (ci := 11) (f := 0) (p := 5) (ty := .int) (by decide +kernel) rfl rfl rfl rfl rfl hH k_am hi_any (fun G2 hH x2 e2 => ?_)
      have hm := hm.mv ho (fun j _ _ => x2.2 aw j lt_aw (fun h => hi_ne k_aw k_am (by decide) h.1))
      have hcr : crP G2 aw nc X Y := fun k hk => ⟨(x2.2 aw _ lt_aw (fun h => hi_ne k_aw k_am (by decide) h.1)).trans (hcr k hk).1, (x2.2 aw _ lt_aw (fun h => hi_ne k_aw k_am (by decide) h.1)).trans (hcr k hk).2.1, (hcr k hk).2.2⟩
      have w3 := (x2.2 aw 3 lt_aw (fun h => hi_ne k_aw k_am (by decide) h.1)).trans w3
      have m1 := (x2.2 am 1 lt_am (fun h => absurd h.2 (by decide))).trans m1
      have w4 := (x2.2 aw 4 lt_aw (fun h => (hi_ne k_aw k_am (by decide)) h.1)).trans w4
      have lt_am := Nat.lt_of_lt_of_le lt_am x2.1
      have lt_aw := Nat.lt_of_lt_of_le lt_aw x2.1
      have hv := (hm n (by omega)).1 hn
      refine hs_aload (i := 0) (p := 6) (by decide +kernel) rfl ?_
      refine hs_aload (i := 0) (p := 7) (by decide +kernel) rfl ?_
      refine hs_iload (i := 1) (p := 8) (by decide +kernel) rfl ?_
      refine ht_callv (T := et_TT) (t := 13) (mi := 208) (na := 1) (ci := 11) (lk := 3) (lm := 2) (L0 := eg_en (eg_mL 208) [.ref am, .int (Int32.ofNat n)]) (by decide +kernel) rfl hH k_am rfl rfl rfl rfl rfl (by rw [show eg_mL 208 = 2 from by decide +kernel]; first | done | rfl) ?_
      refine (fm_nEy hH k_am k_aw m1 w4 hec hn (by omega)).mono (fun u hu => xp_cb hu ?_)
      show et_go none _ 230 11 _ [.int (Int32.ofNat 0), .ref am] _ _ _ _
      refine hs_k (x := Int32.ofNat 1) (p := 12) (by decide +kernel) ?_
      refine ht_callv (T := et_TT) (t := 13) (mi := 204) (na := 2) (ci := 11) (lk := 3) (lm := 3) (L0 := eg_en (eg_mL 204) [.ref am, .int (Int32.ofNat 0), .int (Int32.ofNat 1)]) (by decide +kernel) rfl hH k_am rfl rfl rfl rfl rfl (by rw [show eg_mL 204 = 3 from by decide +kernel]; first | done | rfl) ?_
      refine (fm_t0 hH k_am).mono (fun u hu => xp_cb hu ?_)
      show et_go none _ 230 15 _ [.int (Int32.ofNat 0)] _ _ _ _
      refine hs_if0 (c := .ne) (t := 41) (f := 18) (by decide +kernel) (show ¬ (¬ Int32.ofNat 0 = 0) by decide) ?_
      refine hs_aload (i := 0) (p := 19) (by decide +kernel) rfl ?_
      refine hs_iload (i := 2) (p := 20) (by decide +kernel) rfl ?_
      refine hs_k (x := Int32.ofNat 0) (p := 21) (by decide +kernel) ?_
      refine hs_k (x := Int32.ofNat 12) (p := 23) (by decide +kernel) ?_
      refine hs_calls (mi := 209) (na := 3) (lk := 3) (lm := 3) (L0 := eg_en (eg_mL 209) [.int (Int32.ofNat 10), .int (Int32.ofNat 0), .int (Int32.ofNat 12)]) (by decide +kernel) rfl rfl rfl rfl rfl rfl (by rw [show eg_mL 209 = 3 from by decide +kernel]; first | done | rfl) ?_
      refine (fm_in (x := Int32.ofNat 10) (y := Int32.ofNat 0) (z := Int32.ofNat 12)).mono (fun u hu => xp_cb hu ?_)
      by_cases xw : (Int32.ofNat 0).toInt ≤ (Int32.ofNat 10).toInt ∧ (Int32.ofNat 10).toInt ≤ (Int32.ofNat 12).toInt
      · rw [if_pos xw]
        show et_go none _ 230 26 _ [.int (Int32.ofNat 1), .ref am] _ _ _ _
        refine hs_if1 (c := .ne) (t := 33) (f := 29) (by decide +kernel) (show ¬ Int32.ofNat 1 = 0 by decide) ?_
        refine hs_k (x := Int32.ofNat 0) (p := 34) (by decide +kernel) ?_
        refine hs_k (x := Int32.ofNat 2) (p := 35) (by decide +kernel) ?_
        refine ht_callv (T := et_TT) (t := 13) (mi := 204) (na := 2) (ci := 11) (lk := 3) (lm := 3) (L0 := eg_en (eg_mL 204) [.ref am, .int (Int32.ofNat 0), .int (Int32.ofNat 2)]) (by decide +kernel) rfl hH k_am rfl rfl rfl rfl rfl (by rw [show eg_mL 204 = 3 from by decide +kernel]; first | done | rfl) ?_
        refine (fm_t0 hH k_am).mono (fun u hu => xp_cb hu ?_)
        show et_go none _ 230 38 _ [.int (Int32.ofNat 0)] _ _ _ _
        refine hs_if1 (c := .eq) (t := 43) (f := 41) (by decide +kernel) (show Int32.ofNat 0 = 0 by decide) ?_
        refine hs_iload (i := 2) (p := 44) (by decide +kernel) rfl ?_
        refine hs_k (x := Int32.ofNat 6) (p := 46) (by decide +kernel) ?_
        refine hs_br2n (c := .ge) (t := 69) (f := 49) (by decide +kernel) (by omega) (by omega) (fun _ => ?_) (fun h => absurd (show 6 ≤ 10 by decide) h)
        refine hs_iload (i := 2) (p := 70) (by decide +kernel) rfl ?_
        refine hs_st (ins := .tableswitch 82 6 11 #[38, 46, 52, 60, 68, 76]) (len := 38) (by decide +kernel) rfl (by rfl) (?_ : et_go none _ 230 138 _ _ _ _ _ _)
        refine hs_aload (i := 0) (p := 139) (by decide +kernel) rfl ?_
        refine hs_iload (i := 1) (p := 140) (by decide +kernel) rfl ?_
        refine hs_k (x := Int32.ofNat 21) (p := 142) (by decide +kernel) ?_
        refine ht_callv (T := et_TT) (t := 13) (mi := 225) (na := 2) (ci := 11) (lk := 3) (lm := 3) (L0 := eg_en (eg_mL 225) [.ref am, .int (Int32.ofNat n), .int (Int32.ofNat 21)]) (by decide +kernel) rfl hH k_am rfl rfl rfl rfl rfl (by rw [show eg_mL 225 = 3 from by decide +kernel]; first | done | rfl) ?_
        refine (fn_of hH k_am k_aw m1 (by omega) hv.2.2.2.2.2).mono (fun u hu => xp_cb hu ?_)
        show et_go none _ 230 145 _ [.int ((V n).2.2.2.2.2.2.2)] _ _ _ _
        refine hs_iret (by decide +kernel) ?_
        exact ⟨rfl, e2⟩
      · exact absurd ⟨by omega, by omega⟩ xw
    · rw [show eg_mL 230 = 3 from by decide +kernel]
      show et_go none (d + 10) 230 0 [some (.ref am), some (.int (Int32.ofNat n)), some (.int (Int32.ofNat 11))] [] G 0 0 _
      have lt_am := (hH.2.2 _ _ k_am).1
      have lt_aw := (hH.2.2 _ _ k_aw).1
      refine hs_aload (i := 0) (p := 1) (by decide +kernel) rfl ?_
      refine hs_k (x := Int32.ofNat 0) (p := 2) (by decide +kernel) ?_
      refine hf_put (T := et_TT) (t := 13) (ci := 11) (f := 0) (p := 5) (ty := .int) (by decide +kernel) rfl rfl rfl rfl rfl hH k_am hi_any (fun G2 hH x2 e2 => ?_)
      have hm := hm.mv ho (fun j _ _ => x2.2 aw j lt_aw (fun h => hi_ne k_aw k_am (by decide) h.1))
      have hcr : crP G2 aw nc X Y := fun k hk => ⟨(x2.2 aw _ lt_aw (fun h => hi_ne k_aw k_am (by decide) h.1)).trans (hcr k hk).1, (x2.2 aw _ lt_aw (fun h => hi_ne k_aw k_am (by decide) h.1)).trans (hcr k hk).2.1, (hcr k hk).2.2⟩
      have w3 := (x2.2 aw 3 lt_aw (fun h => hi_ne k_aw k_am (by decide) h.1)).trans w3
      have m1 := (x2.2 am 1 lt_am (fun h => absurd h.2 (by decide))).trans m1
      have w4 := (x2.2 aw 4 lt_aw (fun h => (hi_ne k_aw k_am (by decide)) h.1)).trans w4
      have lt_am := Nat.lt_of_lt_of_le lt_am x2.1
      have lt_aw := Nat.lt_of_lt_of_le lt_aw x2.1
      have hv := (hm n (by omega)).1 hn
      refine hs_aload (i := 0) (p := 6) (by decide +kernel) rfl ?_
      refine hs_aload (i := 0) (p := 7) (by decide +kernel) rfl ?_
      refine hs_iload (i := 1) (p := 8) (by decide +kernel) rfl ?_
      refine ht_callv (T := et_TT) (t := 13) (mi := 208) (na := 1) (ci := 11) (lk := 3) (lm := 2) (L0 := eg_en (eg_mL 208) [.ref am, .int (Int32.ofNat n)]) (by decide +kernel) rfl hH k_am rfl rfl rfl rfl rfl (by rw [show eg_mL 208 = 2 from by decide +kernel]; first | done | rfl) ?_
      refine (fm_nEy hH k_am k_aw m1 w4 hec hn (by omega)).mono (fun u hu => xp_cb hu ?_)
      show et_go none _ 230 11 _ [.int (Int32.ofNat 0), .ref am] _ _ _ _
      refine hs_k (x := Int32.ofNat 1) (p := 12) (by decide +kernel) ?_
      refine ht_callv (T := et_TT) (t := 13) (mi := 204) (na := 2) (ci := 11) (lk := 3) (lm := 3) (L0 := eg_en (eg_mL 204) [.ref am, .int (Int32.ofNat 0), .int (Int32.ofNat 1)]) (by decide +kernel) rfl hH k_am rfl rfl rfl rfl rfl (by rw [show eg_mL 204 = 3 from by decide +kernel]; first | done | rfl) ?_
      refine (fm_t0 hH k_am).mono (fun u hu => xp_cb hu ?_)
      show et_go none _ 230 15 _ [.int (Int32.ofNat 0)] _ _ _ _
      refine hs_if0 (c := .ne) (t := 41) (f := 18) (by decide +kernel) (show ¬ (¬ Int32.ofNat 0 = 0) by decide) ?_
      refine hs_aload (i := 0) (p := 19) (by decide +kernel) rfl ?_
      refine hs_iload (i := 2) (p := 20) (by decide +kernel) rfl ?_
      refine hs_k (x := Int32.ofNat 0) (p := 21) (by decide +kernel) ?_
      refine hs_k (x := Int32.ofNat 12) (p := 23) (by decide +kernel) ?_
      refine hs_calls (mi := 209) (na := 3) (lk := 3) (lm := 3) (L0 := eg_en (eg_mL 209) [.int (Int32.ofNat 11), .int (Int32.ofNat 0), .int (Int32.ofNat 12)]) (by decide +kernel) rfl rfl rfl rfl rfl rfl (by rw [show eg_mL 209 = 3 from by decide +kernel]; first | done | rfl) ?_
      refine (fm_in (x := Int32.ofNat 11) (y := Int32.ofNat 0) (z := Int32.ofNat 12)).mono (fun u hu => xp_cb hu ?_)
      by_cases xw : (Int32.ofNat 0).toInt ≤ (Int32.ofNat 11).toInt ∧ (Int32.ofNat 11).toInt ≤ (Int32.ofNat 12).toInt
      · rw [if_pos xw]
        show et_go none _ 230 26 _ [.int (Int32.ofNat 1), .ref am] _ _ _ _
        refine hs_if1 (c := .ne) (t := 33) (f := 29) (by decide +kernel) (show ¬ Int32.ofNat 1 = 0 by decide) ?_
        refine hs_k (x := Int32.ofNat 0) (p := 34) (by decide +kernel) ?_
        refine hs_k (x := Int32.ofNat 2) (p := 35) (by decide +kernel) ?_
        refine ht_callv (T := et_TT) (t := 13) (mi := 204) (na := 2) (ci := 11) (lk := 3) (lm := 3) (L0 := eg_en (eg_mL 204) [.ref am, .int (Int32.ofNat 0), .int (Int32.ofNat 2)]) (by decide +kernel) rfl hH k_am rfl rfl rfl rfl rfl (by rw [show eg_mL 204 = 3 from by decide +kernel]; first | done | rfl) ?_
        refine (fm_t0 hH k_am).mono (fun u hu => xp_cb hu ?_)
        show et_go none _ 230 38 _ [.int (Int32.ofNat 0)] _ _ _ _
        refine hs_if1 (c := .eq) (t := 43) (f := 41) (by decide +kernel) (show Int32.ofNat 0 = 0 by decide) ?_
        refine hs_iload (i := 2) (p := 44) (by decide +kernel) rfl ?_
        refine hs_k (x := Int32.ofNat 6) (p := 46) (by decide +kernel) ?_
        refine hs_br2n (c := .ge) (t := 69) (f := 49) (by decide +kernel) (by omega) (by omega) (fun _ => ?_) (fun h => absurd (show 6 ≤ 11 by decide) h)
        refine hs_iload (i := 2) (p := 70) (by decide +kernel) rfl ?_
        refine hs_st (ins := .tableswitch 82 6 11 #[38, 46, 52, 60, 68, 76]) (len := 38) (by decide +kernel) rfl (by rfl) (?_ : et_go none _ 230 146 _ _ _ _ _ _)
        refine hs_aload (i := 0) (p := 147) (by decide +kernel) rfl ?_
        refine hs_iload (i := 1) (p := 148) (by decide +kernel) rfl ?_
        refine ht_callv (T := et_TT) (t := 13) (mi := 232) (na := 1) (ci := 11) (lk := 3) (lm := 4) (L0 := eg_en (eg_mL 232) [.ref am, .int (Int32.ofNat n)]) (by decide +kernel) rfl hH k_am rfl rfl rfl rfl rfl (by rw [show eg_mL 232 = 4 from by decide +kernel]; first | done | rfl) ?_
        refine (fn_rt hH k_am k_aw m1 (by omega) (ho n (by omega)) hv w3 hnc hcr (by omega)).mono (fun u hu => xp_cb hu ?_)
        show et_go none _ 230 151 _ [.int (Int32.ofNat (rtE (V n) X Y nc))] _ _ _ _
        refine hs_iret (by decide +kernel) ?_
        exact ⟨rfl, e2⟩
      · exact absurd ⟨by omega, by omega⟩ xw
    · rw [show eg_mL 230 = 3 from by decide +kernel]
      show et_go none (d + 10) 230 0 [some (.ref am), some (.int (Int32.ofNat n)), some (.int (Int32.ofNat 12))] [] G 0 0 _
      have lt_am := (hH.2.2 _ _ k_am).1
      have lt_aw := (hH.2.2 _ _ k_aw).1
      refine hs_aload (i := 0) (p := 1) (by decide +kernel) rfl ?_
      refine hs_k (x := Int32.ofNat 0) (p := 2) (by decide +kernel) ?_
      refine hf_put (T := et_TT) (t := 13) (ci := 11) (f := 0) (p := 5) (ty := .int) (by decide +kernel) rfl rfl rfl rfl rfl hH k_am hi_any (fun G2 hH x2 e2 => ?_)
      have hm := hm.mv ho (fun j _ _ => x2.2 aw j lt_aw (fun h => hi_ne k_aw k_am (by decide) h.1))
      have hcr : crP G2 aw nc X Y := fun k hk => ⟨(x2.2 aw _ lt_aw (fun h => hi_ne k_aw k_am (by decide) h.1)).trans (hcr k hk).1, (x2.2 aw _ lt_aw (fun h => hi_ne k_aw k_am (by decide) h.1)).trans (hcr k hk).2.1, (hcr k hk).2.2⟩
      have w3 := (x2.2 aw 3 lt_aw (fun h => hi_ne k_aw k_am (by decide) h.1)).trans w3
      have m1 := (x2.2 am 1 lt_am (fun h => absurd h.2 (by decide))).trans m1
      have w4 := (x2.2 aw 4 lt_aw (fun h => (hi_ne k_aw k_am (by decide)) h.1)).trans w4
      have lt_am := Nat.lt_of_lt_of_le lt_am x2.1
      have lt_aw := Nat.lt_of_lt_of_le lt_aw x2.1
      have hv := (hm n (by omega)).1 hn
      refine hs_aload (i := 0) (p := 6) (by decide +kernel) rfl ?_
      refine hs_aload (i := 0) (p := 7) (by decide +kernel) rfl ?_
      refine hs_iload (i := 1) (p := 8) (by decide +kernel) rfl ?_
      refine ht_callv (T := et_TT) (t := 13) (mi := 208) (na := 1) (ci := 11) (lk := 3) (lm := 2) (L0 := eg_en (eg_mL 208) [.ref am, .int (Int32.ofNat n)]) (by decide +kernel) rfl hH k_am rfl rfl rfl rfl rfl (by rw [show eg_mL 208 = 2 from by decide +kernel]; first | done | rfl) ?_
      refine (fm_nEy hH k_am k_aw m1 w4 hec hn (by omega)).mono (fun u hu => xp_cb hu ?_)
      show et_go none _ 230 11 _ [.int (Int32.ofNat 0), .ref am] _ _ _ _
      refine hs_k (x := Int32.ofNat 1) (p := 12) (by decide +kernel) ?_
      refine ht_callv (T := et_TT) (t := 13) (mi := 204) (na := 2) (ci := 11) (lk := 3) (lm := 3) (L0 := eg_en (eg_mL 204) [.ref am, .int (Int32.ofNat 0), .int (Int32.ofNat 1)]) (by decide +kernel) rfl hH k_am rfl rfl rfl rfl rfl (by rw [show eg_mL 204 = 3 from by decide +kernel]; first | done | rfl) ?_
      refine (fm_t0 hH k_am).mono (fun u hu => xp_cb hu ?_)
      show et_go none _ 230 15 _ [.int (Int32.ofNat 0)] _ _ _ _
      refine hs_if0 (c := .ne) (t := 41) (f := 18) (by decide +kernel) (show ¬ (¬ Int32.ofNat 0 = 0) by decide) ?_
      refine hs_aload (i := 0) (p := 19) (by decide +kernel) rfl ?_
      refine hs_iload (i := 2) (p := 20) (by decide +kernel) rfl ?_
      refine hs_k (x := Int32.ofNat 0) (p := 21) (by decide +kernel) ?_
      refine hs_k (x := Int32.ofNat 12) (p := 23) (by decide +kernel) ?_
      refine hs_calls (mi := 209) (na := 3) (lk := 3) (lm := 3) (L0 := eg_en (eg_mL 209) [.int (Int32.ofNat 12), .int (Int32.ofNat 0), .int (Int32.ofNat 12)]) (by decide +kernel) rfl rfl rfl rfl rfl rfl (by rw [show eg_mL 209 = 3 from by decide +kernel]; first | done | rfl) ?_
      refine (fm_in (x := Int32.ofNat 12) (y := Int32.ofNat 0) (z := Int32.ofNat 12)).mono (fun u hu => xp_cb hu ?_)
      by_cases xw : (Int32.ofNat 0).toInt ≤ (Int32.ofNat 12).toInt ∧ (Int32.ofNat 12).toInt ≤ (Int32.ofNat 12).toInt
      · rw [if_pos xw]
        show et_go none _ 230 26 _ [.int (Int32.ofNat 1), .ref am] _ _ _ _
        refine hs_if1 (c := .ne) (t := 33) (f := 29) (by decide +kernel) (show ¬ Int32.ofNat 1 = 0 by decide) ?_
        refine hs_k (x := Int32.ofNat 0) (p := 34) (by decide +kernel) ?_
        refine hs_k (x := Int32.ofNat 2) (p := 35) (by decide +kernel) ?_
        refine ht_callv (T := et_TT) (t := 13) (mi := 204) (na := 2) (ci := 11) (lk := 3) (lm := 3) (L0 := eg_en (eg_mL 204) [.ref am, .int (Int32.ofNat 0), .int (Int32.ofNat 2)]) (by decide +kernel) rfl hH k_am rfl rfl rfl rfl rfl (by rw [show eg_mL 204 = 3 from by decide +kernel]; first | done | rfl) ?_
        refine (fm_t0 hH k_am).mono (fun u hu => xp_cb hu ?_)
        show et_go none _ 230 38 _ [.int (Int32.ofNat 0)] _ _ _ _
        refine hs_if1 (c := .eq) (t := 43) (f := 41) (by decide +kernel) (show Int32.ofNat 0 = 0 by decide) ?_
        refine hs_iload (i := 2) (p := 44) (by decide +kernel) rfl ?_
        refine hs_k (x := Int32.ofNat 6) (p := 46) (by decide +kernel) ?_
        refine hs_br2n (c := .ge) (t := 69) (f := 49) (by decide +kernel) (by omega) (by omega) (fun _ => ?_) (fun h => absurd (show 6 ≤ 12 by decide) h)
        refine hs_iload (i := 2) (p := 70) (by decide +kernel) rfl ?_
        refine hs_st (ins := .tableswitch 82 6 11 #[38, 46, 52, 60, 68, 76]) (len := 38) (by decide +kernel) rfl (by rfl) (?_ : et_go none _ 230 152 _ _ _ _ _ _)
        refine hs_aload (i := 0) (p := 153) (by decide +kernel) rfl ?_
        refine hs_iload (i := 1) (p := 154) (by decide +kernel) rfl ?_
        refine ht_callv (T := et_TT) (t := 13) (mi := 241) (na := 1) (ci := 11) (lk := 3) (lm := 8) (L0 := eg_en (eg_mL 241) [.ref am, .int (Int32.ofNat n)]) (by decide +kernel) rfl hH k_am rfl rfl rfl rfl rfl (by rw [show eg_mL 241 = 8 from by decide +kernel]; first | done | rfl) ?_
        refine (fn_near hH k_am k_aw m1 (by omega) (ho n (by omega)) hv (by omega)).mono (fun u hu => xp_cb hu ?_)
        show et_go none _ 230 157 _ [.int (Int32.ofNat (neN (V n).2.1 (V n).1))] _ _ _ _
        refine hs_iret (by decide +kernel) ?_
        exact ⟨rfl, e2⟩
      · exact absurd ⟨by omega, by omega⟩ xw
theorem fn_lookR (hH : et_H et_TT K G) (k_am : K am = some 13) (k_aw : K aw = some 46) (m1 : et_pl (eg_at G am) 1 = some (.ref aw)) (w4 : et_pl (eg_at G aw) 4 = some (.int (Int32.ofNat ec))) (hec : ec ≤ 3) (hm : zyM G aw ec V) (ho : ∀ n, n < 3 → evo (V n)) (hn : n < ec) (hne : ¬ (0 ≤ y.toInt ∧ y.toInt ≤ 12)) (hd : 2 ≤ d2) : et_go none d2 230 0 (eg_en (eg_mL 230) [.ref am, .int (Int32.ofNat n), .int y]) [] G 0 0 (fun u => u.1 = .inl (some (.int (Int32.ofNat 0))) ∧ et_pl (eg_at u.2.1 am) 0 = some (.int (Int32.ofNat 2))) := by
  obtain ⟨d, rfl⟩ : ∃ d, d2 = d + 2 := ⟨d2 - 2, by omega⟩
  have hv := (hm n (by omega)).1 hn
  have o0 : (Int32.ofNat 0).toInt = 0 := rfl
  have o12 : (Int32.ofNat 12).toInt = 12 := rfl
  have hw6 := (ho n (by omega)).1.1
  rw [show eg_mL 230 = 3 from by decide +kernel]
  show et_go none (d + 2) 230 0 [some (.ref am), some (.int (Int32.ofNat n)), some (.int y)] [] G 0 0 _
  have lt_am := (hH.2.2 _ _ k_am).1
  have lt_aw := (hH.2.2 _ _ k_aw).1
  refine hs_aload (i := 0) (p := 1) (by decide +kernel) rfl ?_
  refine hs_k (x := Int32.ofNat 0) (p := 2) (by decide +kernel) ?_
  refine hf_put (T := et_TT) (t := 13) (ci := 11) (f := 0) (p := 5) (ty := .int) (by decide +kernel) rfl rfl rfl rfl rfl hH k_am hi_any (fun G2 hH x2 e2 => ?_)
  have hm := hm.mv ho (fun j _ _ => x2.2 aw j lt_aw (fun h => hi_ne k_aw k_am (by decide) h.1))
  have m1 := (x2.2 am 1 lt_am (fun h => absurd h.2 (by decide))).trans m1
  have w4 := (x2.2 aw 4 lt_aw (fun h => (hi_ne k_aw k_am (by decide)) h.1)).trans w4
  have lt_am := Nat.lt_of_lt_of_le lt_am x2.1
  have lt_aw := Nat.lt_of_lt_of_le lt_aw x2.1
  refine hs_aload (i := 0) (p := 6) (by decide +kernel) rfl ?_
  refine hs_aload (i := 0) (p := 7) (by decide +kernel) rfl ?_
  refine hs_iload (i := 1) (p := 8) (by decide +kernel) rfl ?_
  refine ht_callv (T := et_TT) (t := 13) (mi := 208) (na := 1) (ci := 11) (lk := 3) (lm := 2) (L0 := eg_en (eg_mL 208) [.ref am, .int (Int32.ofNat n)]) (by decide +kernel) rfl hH k_am rfl rfl rfl rfl rfl (by rw [show eg_mL 208 = 2 from by decide +kernel]; first | done | rfl) ?_
  refine (fm_nEy hH k_am k_aw m1 w4 hec hn (by omega)).mono (fun u hu => xp_cb hu ?_)
  show et_go none _ 230 11 _ [.int (Int32.ofNat 0), .ref am] _ _ _ _
  refine hs_k (x := Int32.ofNat 1) (p := 12) (by decide +kernel) ?_
  refine ht_callv (T := et_TT) (t := 13) (mi := 204) (na := 2) (ci := 11) (lk := 3) (lm := 3) (L0 := eg_en (eg_mL 204) [.ref am, .int (Int32.ofNat 0), .int (Int32.ofNat 1)]) (by decide +kernel) rfl hH k_am rfl rfl rfl rfl rfl (by rw [show eg_mL 204 = 3 from by decide +kernel]; first | done | rfl) ?_
  refine (fm_t0 hH k_am).mono (fun u hu => xp_cb hu ?_)
  show et_go none _ 230 15 _ [.int (Int32.ofNat 0)] _ _ _ _
  refine hs_if0 (c := .ne) (t := 41) (f := 18) (by decide +kernel) (show ¬ (¬ Int32.ofNat 0 = 0) by decide) ?_
  refine hs_aload (i := 0) (p := 19) (by decide +kernel) rfl ?_
  refine hs_iload (i := 2) (p := 20) (by decide +kernel) rfl ?_
  refine hs_k (x := Int32.ofNat 0) (p := 21) (by decide +kernel) ?_
  refine hs_k (x := Int32.ofNat 12) (p := 23) (by decide +kernel) ?_
  refine hs_calls (mi := 209) (na := 3) (lk := 3) (lm := 3) (L0 := eg_en (eg_mL 209) [.int y, .int (Int32.ofNat 0), .int (Int32.ofNat 12)]) (by decide +kernel) rfl rfl rfl rfl rfl rfl (by rw [show eg_mL 209 = 3 from by decide +kernel]; first | done | rfl) ?_
  refine (fm_in (x := y) (y := Int32.ofNat 0) (z := Int32.ofNat 12)).mono (fun u hu => xp_cb hu ?_)
  by_cases xw : (Int32.ofNat 0).toInt ≤ (y).toInt ∧ (y).toInt ≤ (Int32.ofNat 12).toInt
  · exact absurd ⟨by omega, by omega⟩ hne
  · rw [if_neg xw]
    show et_go none _ 230 26 _ [.int (Int32.ofNat 0), .ref am] _ _ _ _
    refine hs_if0 (c := .ne) (t := 33) (f := 29) (by decide +kernel) (show ¬ (¬ Int32.ofNat 0 = 0) by decide) ?_
    refine hs_k (x := Int32.ofNat 1) (p := 30) (by decide +kernel) ?_
    refine hs_goto (p := 34) (by decide +kernel) ?_
    refine hs_k (x := Int32.ofNat 2) (p := 35) (by decide +kernel) ?_
    refine ht_callv (T := et_TT) (t := 13) (mi := 204) (na := 2) (ci := 11) (lk := 3) (lm := 3) (L0 := eg_en (eg_mL 204) [.ref am, .int (Int32.ofNat 1), .int (Int32.ofNat 2)]) (by decide +kernel) rfl hH k_am rfl rfl rfl rfl rfl (by rw [show eg_mL 204 = 3 from by decide +kernel]; first | done | rfl) ?_
    refine (fm_t1 hH k_am).mono (fun u hu => xw_cb hu (fun G35 v35 hH x35 hP35 => ?_))
    have hm := hm.mv ho (fun j _ _ => x35.2 aw j lt_aw (fun h => hi_ne k_aw k_am (by decide) h.1))
    have m1 := (x35.2 am 1 lt_am (fun h => absurd h.2 (by decide))).trans m1
    have w4 := (x35.2 aw 4 lt_aw (fun h => (hi_ne k_aw k_am (by decide)) h.1)).trans w4
    have lt_am := Nat.lt_of_lt_of_le lt_am x35.1
    have lt_aw := Nat.lt_of_lt_of_le lt_aw x35.1
    obtain ⟨rfl, th35⟩ := hP35
    show et_go none _ 230 38 _ [.int (Int32.ofNat 1)] _ _ _ _
    refine hs_if0 (c := .eq) (t := 43) (f := 41) (by decide +kernel) (show ¬ (Int32.ofNat 1 = 0) by decide) ?_
    refine hs_k (x := Int32.ofNat 0) (p := 42) (by decide +kernel) ?_
    refine hs_iret (by decide +kernel) ?_
    exact ⟨rfl, th35⟩
theorem fn_lookE (hH : et_H et_TT K G) (k_am : K am = some 13) (k_aw : K aw = some 46) (m1 : et_pl (eg_at G am) 1 = some (.ref aw)) (w4 : et_pl (eg_at G aw) 4 = some (.int (Int32.ofNat ec))) (hec : ec ≤ 3) (hm : zyM G aw ec V) (ho : ∀ n, n < 3 → evo (V n)) (hx : ¬ xr x ec) (hd : 2 ≤ d2) : et_go none d2 230 0 (eg_en (eg_mL 230) [.ref am, .int x, .int y]) [] G 0 0 (fun u => u.1 = .inl (some (.int (Int32.ofNat 0))) ∧ et_pl (eg_at u.2.1 am) 0 = some (.int (Int32.ofNat 1))) := by
  obtain ⟨d, rfl⟩ : ∃ d, d2 = d + 2 := ⟨d2 - 2, by omega⟩
  rw [show eg_mL 230 = 3 from by decide +kernel]
  show et_go none (d + 2) 230 0 [some (.ref am), some (.int x), some (.int y)] [] G 0 0 _
  have lt_am := (hH.2.2 _ _ k_am).1
  have lt_aw := (hH.2.2 _ _ k_aw).1
  refine hs_aload (i := 0) (p := 1) (by decide +kernel) rfl ?_
  refine hs_k (x := Int32.ofNat 0) (p := 2) (by decide +kernel) ?_
  refine hf_put (T := et_TT) (t := 13) (ci := 11) (f := 0) (p := 5) (ty := .int) (by decide +kernel) rfl rfl rfl rfl rfl hH k_am hi_any (fun G2 hH x2 e2 => ?_)
  have hm := hm.mv ho (fun j _ _ => x2.2 aw j lt_aw (fun h => hi_ne k_aw k_am (by decide) h.1))
  have m1 := (x2.2 am 1 lt_am (fun h => absurd h.2 (by decide))).trans m1
  have w4 := (x2.2 aw 4 lt_aw (fun h => (hi_ne k_aw k_am (by decide)) h.1)).trans w4
  have lt_am := Nat.lt_of_lt_of_le lt_am x2.1
  have lt_aw := Nat.lt_of_lt_of_le lt_aw x2.1
  refine hs_aload (i := 0) (p := 6) (by decide +kernel) rfl ?_
  refine hs_aload (i := 0) (p := 7) (by decide +kernel) rfl ?_
  refine hs_iload (i := 1) (p := 8) (by decide +kernel) rfl ?_
  refine ht_callv (T := et_TT) (t := 13) (mi := 208) (na := 1) (ci := 11) (lk := 3) (lm := 2) (L0 := eg_en (eg_mL 208) [.ref am, .int x]) (by decide +kernel) rfl hH k_am rfl rfl rfl rfl rfl (by rw [show eg_mL 208 = 2 from by decide +kernel]; first | done | rfl) ?_
  refine (fm_nEn hH k_am k_aw m1 w4 hec hx (by omega)).mono (fun u hu => xp_cb hu ?_)
  show et_go none _ 230 11 _ [.int (Int32.ofNat 1), .ref am] _ _ _ _
  refine hs_k (x := Int32.ofNat 1) (p := 12) (by decide +kernel) ?_
  refine ht_callv (T := et_TT) (t := 13) (mi := 204) (na := 2) (ci := 11) (lk := 3) (lm := 3) (L0 := eg_en (eg_mL 204) [.ref am, .int (Int32.ofNat 1), .int (Int32.ofNat 1)]) (by decide +kernel) rfl hH k_am rfl rfl rfl rfl rfl (by rw [show eg_mL 204 = 3 from by decide +kernel]; first | done | rfl) ?_
  refine (fm_t1 hH k_am).mono (fun u hu => xw_cb hu (fun G12 v12 hH x12 hP12 => ?_))
  have hm := hm.mv ho (fun j _ _ => x12.2 aw j lt_aw (fun h => hi_ne k_aw k_am (by decide) h.1))
  have m1 := (x12.2 am 1 lt_am (fun h => absurd h.2 (by decide))).trans m1
  have w4 := (x12.2 aw 4 lt_aw (fun h => (hi_ne k_aw k_am (by decide)) h.1)).trans w4
  have lt_am := Nat.lt_of_lt_of_le lt_am x12.1
  have lt_aw := Nat.lt_of_lt_of_le lt_aw x12.1
  obtain ⟨rfl, th12⟩ := hP12
  show et_go none _ 230 15 _ [.int (Int32.ofNat 1)] _ _ _ _
  refine hs_if1 (c := .ne) (t := 41) (f := 18) (by decide +kernel) (show ¬ Int32.ofNat 1 = 0 by decide) ?_
  refine hs_k (x := Int32.ofNat 0) (p := 42) (by decide +kernel) ?_
  refine hs_iret (by decide +kernel) ?_
  exact ⟨rfl, th12⟩
theorem gz_look (hH : et_H et_TT K G) (k_am : K am = some 13) (k_aw : K aw = some 46) (m1 : et_pl (eg_at G am) 1 = some (.ref aw)) (w4 : et_pl (eg_at G aw) 4 = some (.int (Int32.ofNat ec))) (hec : ec ≤ 3) (hm : zyM G aw ec V) (ho : ∀ n, n < 3 → evo (V n)) (w3 : et_pl (eg_at G aw) 3 = some (.int (Int32.ofNat nc))) (hnc : nc ≤ 20) (hcr : crP G aw nc X Y) (hd : 10 ≤ d2) : et_go none d2 230 0 (eg_en (eg_mL 230) [.ref am, .int x, .int y]) [] G 0 0 (fun u => (¬ xr x ec ∧ u.1 = .inl (some (.int (Int32.ofNat 0))) ∧ et_pl (eg_at u.2.1 am) 0 = some (.int (Int32.ofNat 1))) ∨ ∃ n, (x = Int32.ofNat n ∧ n < ec) ∧ ((¬ (0 ≤ y.toInt ∧ y.toInt ≤ 12) ∧ u.1 = .inl (some (.int (Int32.ofNat 0))) ∧ et_pl (eg_at u.2.1 am) 0 = some (.int (Int32.ofNat 2))) ∨ ∃ q, (y = Int32.ofNat q ∧ q ≤ 12) ∧ u.1 = .inl (some (.int (lkV (V n) X Y nc q))) ∧ et_pl (eg_at u.2.1 am) 0 = some (.int (Int32.ofNat 0)))) := by
  by_cases hx : xr x ec
  · obtain ⟨n, rfl, hn⟩ := xr_nat hx (by omega)
    by_cases hs3 : (0 ≤ y.toInt ∧ y.toInt ≤ 12)
    · obtain ⟨q, rfl, q2, q3⟩ := hs_toN (x := y) (by omega)
      exact (fn_look hH k_am k_aw m1 w4 hec hm ho w3 hnc hcr hn (by omega) hd).mono (fun u hu => .inr ⟨n, ⟨rfl, hn⟩, .inr ⟨q, ⟨rfl, by omega⟩, hu.1, hu.2⟩⟩)
    · exact (fn_lookR hH k_am k_aw m1 w4 hec hm ho hn hs3 (by omega)).mono (fun u hu => .inr ⟨n, ⟨rfl, hn⟩, .inl ⟨hs3, hu.1, hu.2⟩⟩)
  · exact (fn_lookE hH k_am k_aw m1 w4 hec hm ho hx (by omega)).mono (fun u hu => .inl ⟨hx, hu.1, hu.2⟩)
end YEA
