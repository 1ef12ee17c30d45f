/-! BY HAND, for p2: feed's answers -/
def et_kb (f : Nat) (o : et_O) : Bool := match o.2.2.1 with
  | .inl (some (.float k)) => o.2.1.any (fun e => decide (e.1 = 0) && decide (e.2.1 = f) && (match e.2.2 with
    | .float q => decide (q = k)
    | _ => false))
  | _ => false
/-- et_kok, whose end answers what the field has become -/
theorem et_kva {T : List et_D} {Ks : List et_Co} {an : Nat → Nat → Option et_A} {mi d f a d2 : Nat} {ps : List et_P} {M : et_M} {lo hi : Int} {w : et_Wd} {as : List Value} {x : Int32} (hK : ∀ q ∈ Ks, et_cv T q) (hl0 : ps.length < 100)
    (h : (match et_rn T M Ks an 100000 [] none ((ps ++ [(.inl (lo, hi) : et_P)]).map (fun p => (p, none))) [(0, f, .float (UInt32.ofNat ps.length))] d mi 0 (eg_en (eg_mL mi) (et_ar 0 ps)) [] 0 0 with
      | none => false
      | some os => os.all (fun o => et_kb f o)) = true)
    (hH : et_H T w.1 w.2.2) (hd : d ≤ d2) (hl : as.length = ps.length) (hv : ∀ (i : Nat) (p : et_P) (v : Value), ps[i]? = some p → as[i]? = some v → et_v w.1 p v) (ha : as[0]? = some (.ref a)) (hlt : a < w.2.2.2) (hp : et_pl (eg_at w.2.2 a) f = some (.int x)) (h1 : lo ≤ x.toInt) (h2 : x.toInt ≤ hi) : et_go none d2 mi 0 (eg_en (eg_mL mi) as) [] w.2.2 0 0 (fun u => ∃ y : Int32, et_pl (eg_at u.2.1 a) f = some (.int y) ∧ u.1 = .inl (some (.int y))) := by
  split at h
  · cases h
  · rename_i os hos
    refine et_go_c (os := os) (M := M) (Z := fun u => ∃ y : Int32, et_pl (eg_at u.2.1 a) f = some (.int y) ∧ u.1 = .inl (some (.int y))) hK hl0 hos hH hd hl hv ha hlt hp h1 h2 (fun o ho w' u hle hen => ?_)
    have h4 := List.all_eq_true.mp h o ho
    obtain ⟨b1, b2, b3, b4, b5, b6, b7⟩ := hen
    obtain ⟨a1, ⟨R1, aR⟩, a3⟩ := hle
    unfold et_kb at h4
    split at h4
    · rename_i k hk
      obtain ⟨e', he', h5⟩ := List.any_eq_true.mp h4
      rw [Bool.and_eq_true, Bool.and_eq_true] at h5
      obtain ⟨⟨i1, i2⟩, i3⟩ := h5
      have i1 := of_decide_eq_true i1
      have i2 := of_decide_eq_true i2
      obtain ⟨a', v, q1, q2, q3, q4⟩ := b4 e' he'
      have h0 : w'.2.1[0]? = some (.ref a) := by
        rw [aR]
        have g : (as ++ [Value.int x])[0]? = some (.ref a) := et_get_mono ha
        rw [List.getElem?_append_left (List.getElem?_eq_some_iff.mp g).1]
        exact g
      rw [i1, h0] at q1
      cases q1
      rw [i2] at q3
      rw [hk] at b5
      obtain ⟨v2, b8, b9⟩ := b5
      obtain ⟨y2, rfl, g2⟩ := b9
      split at i3
      · rename_i k' ek
        have i3 := of_decide_eq_true i3
        rw [ek, i3] at q4
        obtain ⟨y, rfl, q5⟩ := q4
        rw [g2] at q5
        cases q5
        exact ⟨y2, by rw [b1]; exact q3, b8⟩
      · cases i3
    · cases h4
/-- two things that hold of the one end -/
theorem et_go.an {sc : eg_Sc} {d k pc ck sk : Nat} {L : eg_Ls} {st : List Value} {G : eg_G} {Z Z' : eg_O → Prop} (h : et_go sc d k pc L st G ck sk Z) (h' : et_go sc d k pc L st G ck sk Z') : et_go sc d k pc L st G ck sk (fun u => Z u ∧ Z' u) := by
  obtain ⟨o, ⟨g, hg⟩, hZ⟩ := h
  obtain ⟨o', ⟨g', hg'⟩, hZ'⟩ := h'
  have e := (hg (g + g') (by omega)).symm.trans (hg' (g + g') (by omega))
  cases e
  exact ⟨o, ⟨g, hg⟩, hZ, hZ'⟩
/-- feed's answer -/
def fa (c : Nat) : Int32 := if c + 20 ≤ 400 then Int32.ofNat (c + 20) else -1
section PFA
variable {w : et_Wd} {d2 d rd th am c : Nat}
theorem hc_feedMA {x1 x2 x3 x4 x5 : Int32} (hH : et_H et_TT w.1 w.2.2) (k_am : w.1 am = some 13) (hm : pm_at w.2.2 am c) (hc : c ≤ 400) (hd : 1 ≤ d2) : et_go none d2 177 0 (eg_en (eg_mL 177) [.ref am, .int x1, .int x2, .int x3, .int x4, .int x5]) [] w.2.2 0 0 (pz_Z mf_M w.1 w.2.2 (fun _ G' v => v = .int (fa c) ∧ pm_at G' am (ff c))) := by
  have h0 := hc_feedM (x1 := x1) (x2 := x2) (x3 := x3) (x4 := x4) (x5 := x5) hH k_am hm hc hd
  by_cases h : c + 20 ≤ 400
  · have h1 := et_kva (mi := 177) (d2 := d2) (T := et_TT) (Ks := []) (an := er_an) (d := 1) (f := 5) (ps := [.inr (.inr (0, 13)), .inl (et_mn, et_mx), .inl (et_mn, et_mx), .inl (et_mn, et_mx), .inl (et_mn, et_mx), .inl (et_mn, et_mx)]) (M := mf_M) (lo := 0) (hi := 380) (w := w) (as := [.ref am, .int x1, .int x2, .int x3, .int x4, .int x5]) (a := am) (x := Int32.ofNat c) (fun _ h => absurd h List.not_mem_nil) (by decide) (by decide +kernel) hH hd rfl (ht_ac (.inr ⟨by decide, _, rfl, k_am⟩) (ht_ac hi_any (ht_ac hi_any (ht_ac hi_any (ht_ac hi_any (ht_ac hi_any ht_an)))))) rfl (hH.2.2 _ _ k_am).1 hm (by rw [hs_nint (by omega)]; omega) (by rw [hs_nint (by omega)]; omega)
    refine (h0.an h1).mono (fun u hu => ?_)
    obtain ⟨⟨⟨e, he, K', g1, g2, g3, g4, g5, g6⟩, g7⟩, y, g8, g9⟩ := hu
    obtain rfl := List.mem_singleton.mp he
    have g7' : et_pl (eg_at u.2.1 am) 5 = some (.int (Int32.ofNat (ff c))) := g7
    have ey : y = Int32.ofNat (ff c) := Value.int.inj (Option.some.inj (g8.symm.trans g7'))
    refine ⟨K', _, g9, g1, g2, g3, Nat.le_zero.mp g5, Nat.le_zero.mp g6, ?_, g7⟩
    rw [ey, show ff c = c + 20 from if_pos h, show fa c = Int32.ofNat (c + 20) from if_pos h]
  · have h2 := et_kok (mi := 177) (d2 := d2) (T := et_TT) (Ks := []) (an := er_an) (d := 1) (f := 5) (ps := [.inr (.inr (0, 13)), .inl (et_mn, et_mx), .inl (et_mn, et_mx), .inl (et_mn, et_mx), .inl (et_mn, et_mx), .inl (et_mn, et_mx)]) (M := mf_M) (es := [(.inl (some (.inl (-1, -1))), 0, 0)]) (lo := 381) (hi := 400) (k := 0) (w := w) (as := [.ref am, .int x1, .int x2, .int x3, .int x4, .int x5]) (a := am) (x := Int32.ofNat c) (fun _ h => absurd h List.not_mem_nil) (by decide) (by decide +kernel) hH hd rfl (ht_ac (.inr ⟨by decide, _, rfl, k_am⟩) (ht_ac hi_any (ht_ac hi_any (ht_ac hi_any (ht_ac hi_any (ht_ac hi_any ht_an)))))) rfl (hH.2.2 _ _ k_am).1 hm (by rw [hs_nint (by omega)]; omega) (by rw [hs_nint (by omega)]; omega)
    refine h2.mono (fun u hu => ?_)
    obtain ⟨⟨e, he, K', g1, g2, g3, g4, g5, g6⟩, y, g7, g8⟩ := hu
    obtain rfl := List.mem_singleton.mp he
    obtain ⟨v, g9, n, rfl, n1, n2⟩ := g4
    rw [hs_nint (by omega)] at g8
    obtain rfl := hi_of (y := y) (n := c) (by omega) (by omega)
    have en : n = -1 := Int32.toInt_inj.mp (by
      have : (-1 : Int32).toInt = -1 := rfl
      omega)
    refine ⟨K', _, g9, g1, g2, g3, Nat.le_zero.mp g5, Nat.le_zero.mp g6, ?_, ?_⟩
    · rw [en, show fa c = -1 from if_neg h]
    · rw [show ff c = c from if_neg h]
      exact g7

theorem hc_feedCA {x1 x2 x3 x4 x5 : Int32} (hH : et_H et_TT w.1 w.2.2) (k_th : w.1 th = some 12) (h3 : et_pl (eg_at w.2.2 th) 3 = some (.ref rd)) (k_rd : w.1 rd = some 7) (hl : pl_at w.2.2 rd c) (hc : c ≤ 400) (hd : 2 ≤ d2) : et_go none d2 116 0 (eg_en (eg_mL 116) [.ref th, .int x1, .int x2, .int x3, .int x4, .int x5]) [] w.2.2 0 0 (pz_Z [(7, 1, 1), (33, 0, 100000)] w.1 w.2.2 (fun _ G' v => v = .int (fa c) ∧ pl_at G' rd (ff c))) := by
  obtain ⟨d, rfl⟩ : ∃ d, d2 = d + 2 := ⟨d2 - 2, by omega⟩
  have hx0 : et_ex w.1 w.1 := et_ex.rf
  have hf : et_fr [(7, 1, 1), (33, 0, 100000)] w.1 w.2.2 w.2.2 := et_fr.rf
  rw [show eg_mL 116 = 6 from by decide +kernel]
  show et_go none (d + 2) 116 0 [some (.ref th), some (.int x1), some (.int x2), some (.int x3), some (.int x4), some (.int x5)] [] w.2.2 0 0 _
  refine hs_aload (i := 0) (p := 1) (by decide +kernel) rfl ?_
  refine ht_getr (T := et_TT) (t := 12) (ci := 10) (f := 3) (p := 4) (by decide +kernel) rfl rfl hH k_th (fun a1 k_a1 e1 => ?_)
  obtain rfl : rd = a1 := Value.ref.inj (Option.some.inj (h3.symm.trans e1))
  refine hs_k (x := Int32.ofNat 20) (p := 6) (by decide +kernel) ?_
  have hfo := hf
  refine ht_callv (T := et_TT) (t := 7) (mi := 63) (na := 1) (ci := 5) (lk := 6) (lm := 2) (L0 := eg_en (eg_mL 63) [.ref rd, .int (Int32.ofNat 20)]) (by decide +kernel) rfl hH k_rd rfl rfl rfl rfl rfl (by rw [show eg_mL 63 = 2 from by decide +kernel]; first | done | rfl) ?_
  refine (hc_room (w := (w.1, [], w.2.2)) hH k_rd hl (by omega)).mono (fun u hu => pz_cb hu (fun K6 G6 v6 x6 f6 hH hA => ?_))
  have h3 := (f6.2 th 12 k_th 3 rfl).trans h3
  have hl := (f6.2 rd 7 k_rd 1 rfl).trans hl
  have k_th := x6 _ _ k_th
  have k_rd := x6 _ _ k_rd
  have hf := hf.tr hx0 (f6.wk (by decide +kernel))
  have hx0 := hx0.tr x6
  rcases hA with ⟨rfl, hi6⟩ | ⟨rfl, hi6⟩
  · show et_go none _ 116 9 _ [.int (Int32.ofNat 0)] _ 0 0 _
    refine hs_if0 (c := .ne) (t := 14) (f := 12) (by decide +kernel) (show ¬ (¬ Int32.ofNat 0 = 0) by decide) ?_
    refine hs_k (x := (-1)) (p := 13) (by decide +kernel) ?_
    refine hs_iret (by decide +kernel) ?_
    have e9 : ff c = c := if_neg (by omega)
    rw [← e9] at hl
    exact ⟨_, _, rfl, hx0, hf, hH, rfl, rfl, by rw [show fa c = -1 from if_neg (by omega)], hl⟩
  · show et_go none _ 116 9 _ [.int (Int32.ofNat 1)] _ 0 0 _
    refine hs_if1 (c := .ne) (t := 14) (f := 12) (by decide +kernel) (show ¬ Int32.ofNat 1 = 0 by decide) ?_
    refine hs_aload (i := 0) (p := 15) (by decide +kernel) rfl ?_
    refine ht_getr (T := et_TT) (t := 12) (ci := 10) (f := 3) (p := 18) (by decide +kernel) rfl rfl hH k_th (fun a15 k_a15 e15 => ?_)
    obtain rfl : rd = a15 := Value.ref.inj (Option.some.inj (h3.symm.trans e15))
    refine hs_iload (i := 1) (p := 19) (by decide +kernel) rfl ?_
    have hfo := hf
    refine ht_callv (T := et_TT) (t := 7) (mi := 64) (na := 1) (ci := 5) (lk := 6) (lm := 3) (L0 := eg_en (eg_mL 64) [.ref rd, .int x1]) (by decide +kernel) rfl hH k_rd rfl rfl rfl rfl rfl (by rw [show eg_mL 64 = 3 from by decide +kernel]; first | done | rfl) ?_
    refine (hc_add4 (w := (K6, [], G6)) hH k_rd hl (by omega) (by omega)).mono (fun u hu => hs_cbc (P := fun G' => pl_at G' rd (c + 4)) hu (fun K19 G19 x19 f19 hH hP => ?_))
    have h3 := (f19.2 th 12 k_th 3 rfl).trans h3
    have k_th := x19 _ _ k_th
    have k_rd := x19 _ _ k_rd
    have hf := hf.tr hx0 (f19.wk (by decide +kernel))
    have hx0 := hx0.tr x19
    have hl := hP
    show et_go none _ 116 22 _ [] _ 0 0 _
    refine hs_aload (i := 0) (p := 23) (by decide +kernel) rfl ?_
    refine ht_getr (T := et_TT) (t := 12) (ci := 10) (f := 3) (p := 26) (by decide +kernel) rfl rfl hH k_th (fun a23 k_a23 e23 => ?_)
    obtain rfl : rd = a23 := Value.ref.inj (Option.some.inj (h3.symm.trans e23))
    refine hs_iload (i := 2) (p := 27) (by decide +kernel) rfl ?_
    have hfo := hf
    refine ht_callv (T := et_TT) (t := 7) (mi := 64) (na := 1) (ci := 5) (lk := 6) (lm := 3) (L0 := eg_en (eg_mL 64) [.ref rd, .int x2]) (by decide +kernel) rfl hH k_rd rfl rfl rfl rfl rfl (by rw [show eg_mL 64 = 3 from by decide +kernel]; first | done | rfl) ?_
    refine (hc_add4 (w := (K19, [], G19)) hH k_rd hl (by omega) (by omega)).mono (fun u hu => hs_cbc (P := fun G' => pl_at G' rd ((c + 4) + 4)) hu (fun K27 G27 x27 f27 hH hP => ?_))
    have h3 := (f27.2 th 12 k_th 3 rfl).trans h3
    have k_th := x27 _ _ k_th
    have k_rd := x27 _ _ k_rd
    have hf := hf.tr hx0 (f27.wk (by decide +kernel))
    have hx0 := hx0.tr x27
    have hl := hP
    show et_go none _ 116 30 _ [] _ 0 0 _
    refine hs_aload (i := 0) (p := 31) (by decide +kernel) rfl ?_
    refine ht_getr (T := et_TT) (t := 12) (ci := 10) (f := 3) (p := 34) (by decide +kernel) rfl rfl hH k_th (fun a31 k_a31 e31 => ?_)
    obtain rfl : rd = a31 := Value.ref.inj (Option.some.inj (h3.symm.trans e31))
    refine hs_iload (i := 3) (p := 35) (by decide +kernel) rfl ?_
    have hfo := hf
    refine ht_callv (T := et_TT) (t := 7) (mi := 64) (na := 1) (ci := 5) (lk := 6) (lm := 3) (L0 := eg_en (eg_mL 64) [.ref rd, .int x3]) (by decide +kernel) rfl hH k_rd rfl rfl rfl rfl rfl (by rw [show eg_mL 64 = 3 from by decide +kernel]; first | done | rfl) ?_
    refine (hc_add4 (w := (K27, [], G27)) hH k_rd hl (by omega) (by omega)).mono (fun u hu => hs_cbc (P := fun G' => pl_at G' rd (((c + 4) + 4) + 4)) hu (fun K35 G35 x35 f35 hH hP => ?_))
    have h3 := (f35.2 th 12 k_th 3 rfl).trans h3
    have k_th := x35 _ _ k_th
    have k_rd := x35 _ _ k_rd
    have hf := hf.tr hx0 (f35.wk (by decide +kernel))
    have hx0 := hx0.tr x35
    have hl := hP
    show et_go none _ 116 38 _ [] _ 0 0 _
    refine hs_aload (i := 0) (p := 39) (by decide +kernel) rfl ?_
    refine ht_getr (T := et_TT) (t := 12) (ci := 10) (f := 3) (p := 42) (by decide +kernel) rfl rfl hH k_th (fun a39 k_a39 e39 => ?_)
    obtain rfl : rd = a39 := Value.ref.inj (Option.some.inj (h3.symm.trans e39))
    refine hs_iload (i := 4) (p := 44) (by decide +kernel) rfl ?_
    have hfo := hf
    refine ht_callv (T := et_TT) (t := 7) (mi := 64) (na := 1) (ci := 5) (lk := 6) (lm := 3) (L0 := eg_en (eg_mL 64) [.ref rd, .int x4]) (by decide +kernel) rfl hH k_rd rfl rfl rfl rfl rfl (by rw [show eg_mL 64 = 3 from by decide +kernel]; first | done | rfl) ?_
    refine (hc_add4 (w := (K35, [], G35)) hH k_rd hl (by omega) (by omega)).mono (fun u hu => hs_cbc (P := fun G' => pl_at G' rd ((((c + 4) + 4) + 4) + 4)) hu (fun K44 G44 x44 f44 hH hP => ?_))
    have h3 := (f44.2 th 12 k_th 3 rfl).trans h3
    have k_th := x44 _ _ k_th
    have k_rd := x44 _ _ k_rd
    have hf := hf.tr hx0 (f44.wk (by decide +kernel))
    have hx0 := hx0.tr x44
    have hl := hP
    show et_go none _ 116 47 _ [] _ 0 0 _
    refine hs_aload (i := 0) (p := 48) (by decide +kernel) rfl ?_
    refine ht_getr (T := et_TT) (t := 12) (ci := 10) (f := 3) (p := 51) (by decide +kernel) rfl rfl hH k_th (fun a48 k_a48 e48 => ?_)
    obtain rfl : rd = a48 := Value.ref.inj (Option.some.inj (h3.symm.trans e48))
    refine hs_iload (i := 5) (p := 53) (by decide +kernel) rfl ?_
    have hfo := hf
    refine ht_callv (T := et_TT) (t := 7) (mi := 64) (na := 1) (ci := 5) (lk := 6) (lm := 3) (L0 := eg_en (eg_mL 64) [.ref rd, .int x5]) (by decide +kernel) rfl hH k_rd rfl rfl rfl rfl rfl (by rw [show eg_mL 64 = 3 from by decide +kernel]; first | done | rfl) ?_
    refine (hc_add4 (w := (K44, [], G44)) hH k_rd hl (by omega) (by omega)).mono (fun u hu => hs_cbc (P := fun G' => pl_at G' rd (((((c + 4) + 4) + 4) + 4) + 4)) hu (fun K53 G53 x53 f53 hH hP => ?_))
    have h3 := (f53.2 th 12 k_th 3 rfl).trans h3
    have k_th := x53 _ _ k_th
    have k_rd := x53 _ _ k_rd
    have hf := hf.tr hx0 (f53.wk (by decide +kernel))
    have hx0 := hx0.tr x53
    have hl := hP
    show et_go none _ 116 56 _ [] _ 0 0 _
    refine hs_aload (i := 0) (p := 57) (by decide +kernel) rfl ?_
    refine ht_getr (T := et_TT) (t := 12) (ci := 10) (f := 3) (p := 60) (by decide +kernel) rfl rfl hH k_th (fun a57 k_a57 e57 => ?_)
    obtain rfl : rd = a57 := Value.ref.inj (Option.some.inj (h3.symm.trans e57))
    refine ht_getn (T := et_TT) (t := 7) (ci := 5) (f := 1) (p := 63) (by decide +kernel) rfl rfl hH k_rd (fun c60 h60 e60 => ?_)
    have q60 : c60 = (((((c + 4) + 4) + 4) + 4) + 4) := hb_cc e60 hl (by omega) (by omega)
    refine hs_iret (by decide +kernel) ?_
    have e9 : ff c = (((((c + 4) + 4) + 4) + 4) + 4) := if_pos (by omega)
    rw [← e9] at hl
    exact ⟨_, _, rfl, hx0, hf, hH, rfl, rfl, by rw [show fa c = Int32.ofNat (c + 20) from if_pos (by omega), q60], hl⟩
end PFA
