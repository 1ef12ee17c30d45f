/-! BY HAND: a word into the things -/
theorem ht_aast {K : et_K} {d k pc ck sk a b n p : Nat} {L : eg_Ls} {r : List Value} {G : eg_G} {Z : eg_O → Prop} {M : et_M} (hc : hs_o k pc = some (.aastore, p)) (hH : et_H et_TT K G) (ha : K a = some 41) (hn : n < 401) (hb : K b = some 0) (hM : et_mm M 41 n = true) (h : ∀ G', et_H et_TT K G' → et_fr M K G G' → et_go none d k p L r G' ck sk Z) : et_go none d k pc L (.ref b :: .int (Int32.ofNat n) :: .ref a :: r) G ck sk Z := by
  obtain ⟨g1, -, g3, dd, hd, hcell, hcx⟩ := hH.2.2 a 41 ha
  cases hd
  obtain ⟨⟨N, y⟩, e, ey, er, es⟩ := hcell
  obtain rfl : N = 401 := ey
  obtain ⟨v0, hv0⟩ := er 0 (by decide)
  obtain ⟨f, rfl⟩ : ∃ f, y = .inr (.inr (.inr (.inr f))) := by
    rcases y with g | g | g | g | f
    · exact absurd (show none = some v0 from hv0) (fun h => nomatch h)
    · exact absurd (show none = some v0 from hv0) (fun h => nomatch h)
    · exact absurd (show none = some v0 from hv0) (fun h => nomatch h)
    · exact absurd (show none = some v0 from hv0) (fun h => nomatch h)
    · exact ⟨f, rfl⟩
  obtain ⟨q1, -, -, dd, hd, hcb, -⟩ := hH.2.2 b 0 hb
  cases hd
  obtain ⟨fs, eb, -, -⟩ := hcb
  have h3 := hs_nint (a := n) (by omega)
  obtain ⟨e0, rfl⟩ := hs_oc hc
  have hrd : ∀ i, eg_rd 9 (401, .inr (.inr (.inr (.inr (va_up f n (some b)))))) i = if i = n then some (.ref b) else eg_rd 9 (401, .inr (.inr (.inr (.inr f)))) i := fun i => by
    unfold eg_rd
    dsimp only
    rw [if_pos (by decide)]
    unfold va_up
    split <;> rfl
  refine hs_st e0 rfl (?_ : _ = some (pc + 1, L, r, eg_u G a (.inl (9, (401, .inr (.inr (.inr (.inr (va_up f n (some b)))))))), ck, sk)) (h _ (et_H_u hH ha (by decide) rfl ⟨_, rfl, rfl, fun i hi => ?_, fun s hs i i1 i2 i3 => ?_⟩ (fun e1 => absurd e1 (by decide))) (hi_frM hH ha (by decide) (fun i hi => ?_)))
  · show eg_aw .aastore pc L (.ref b :: .int (Int32.ofNat n) :: .ref a :: r) G ck sk = _
    unfold eg_aw
    dsimp only
    rw [e]
    dsimp only
    rw [if_pos ⟨g3 (by decide), g1, by decide, by omega, by show (Int32.ofNat n).toInt < (401 : Int); omega⟩, hs_nnat (by omega)]
    unfold eg_wr
    dsimp only
    rw [if_pos ⟨q1, by decide, by decide, by rw [eb]; rfl⟩]
  · rw [hrd]
    by_cases ei : i = n
    · exact ⟨_, if_pos ei⟩
    · rw [if_neg ei]
      exact er i hi
  · rw [hrd]
    by_cases ei : i = n
    · obtain rfl := List.mem_singleton.mp hs
      exact ⟨_, if_pos ei, .inr ⟨by decide, _, rfl, hb⟩⟩
    · rw [if_neg ei]
      exact es s hs i i1 i2 i3
  · rw [e]
    have ei : i ≠ n := fun h => by
      rw [h, hM] at hi
      cases hi
    show (if i < 401 then eg_rd 9 _ i else none) = (if i < 401 then eg_rd 9 _ i else none)
    rw [hrd, if_neg ei]

theorem hb_mm {t n : Nat} (h : n ≤ 100000) : et_mm [(t, 0, 100000)] t n = true := by
  unfold et_mm
  simp
  omega
def sp_M : et_M := [(7, 1, 1), (7, 2, 2), (7, 3, 3), (7, 7, 7), (7, 8, 8), (21, 0, 100000), (41, 0, 100000)]
def hq_split : et_Co := (67, [.inr (.inr (0, 7)), .inl (et_mn, et_mx)], sp_M, [(.inl none, 0, 0)], 8)
section RSP
variable {w : et_Wd} {K : et_K} {G : eg_G} {d rd : Nat} {pl : Int32}
theorem hn_sp {c i : Nat} {x3 : Option Value} (hH : et_H et_TT K G) (hx0 : et_ex w.1 K) (hf : et_fr sp_M w.1 w.2.2 G) (k_rd : K rd = some 7) (hc7 : et_pl (eg_at G rd) 7 = some (.int (Int32.ofNat c))) (hc : c ≤ 400) (hi : i ≤ 400) : et_go none (d + 8) 67 22 [some (.ref rd), some (.int pl), some (.int (Int32.ofNat i)), x3] [] G 0 0 (hi_Z et_TT w sp_M [(.inl none, 0, 0)]) := by
  induction hm : 400 - i using Nat.strongRecOn generalizing i c x3 K G with
  | _ z ih =>
    refine hs_iload (i := 2) (p := 23) (by decide +kernel) rfl ?_
    refine hs_aload (i := 0) (p := 24) (by decide +kernel) rfl ?_
    refine ht_getn (T := et_TT) (t := 7) (ci := 5) (f := 1) (p := 27) (by decide +kernel) rfl rfl hH k_rd (fun c24 h24 e24 => ?_)
    refine hs_br2n (c := .ge) (t := 122) (f := 30) (by decide +kernel) (by omega) (by omega) (fun (c27 : c24 ≤ i) => ?_) (fun (c27 : ¬ (c24 ≤ i)) => ?_)
    · refine hs_aload (i := 0) (p := 123) (by decide +kernel) rfl ?_
      refine ht_getr (T := et_TT) (t := 7) (ci := 5) (f := 4) (p := 126) (by decide +kernel) rfl rfl hH k_rd (fun a123 k_a123 e123 => ?_)
      refine hs_aload (i := 0) (p := 127) (by decide +kernel) rfl ?_
      refine ht_getn (T := et_TT) (t := 7) (ci := 5) (f := 7) (p := 130) (by decide +kernel) rfl rfl hH k_rd (fun c127 h127 e127 => ?_)
      have q127 : c127 = c := hb_cc e127 hc7 (by omega) (by omega)
      refine hs_gst (v := Value.ref 34) (p := 133) (by decide +kernel) ?_
      refine ht_aast (M := [(41, 0, 100000)]) (p := 134) (by decide +kernel) hH k_a123 (by omega) (hH.2.1 _ (by decide)) (hb_mm (by omega)) (fun G133 hH f133 => ?_)
      have hf := hf.tr hx0 (f133.wk (by decide +kernel))
      have hc7 := (f133.2 rd 7 k_rd 7 rfl).trans hc7
      refine hs_aload (i := 0) (p := 135) (by decide +kernel) rfl ?_
      refine ht_getr (T := et_TT) (t := 7) (ci := 5) (f := 5) (p := 138) (by decide +kernel) rfl rfl hH k_rd (fun a135 k_a135 e135 => ?_)
      refine hs_aload (i := 0) (p := 139) (by decide +kernel) rfl ?_
      refine ht_getn (T := et_TT) (t := 7) (ci := 5) (f := 7) (p := 142) (by decide +kernel) rfl rfl hH k_rd (fun c139 h139 e139 => ?_)
      have q139 : c139 = c := hb_cc e139 hc7 (by omega) (by omega)
      refine hs_aload (i := 0) (p := 143) (by decide +kernel) rfl ?_
      refine ht_getn (T := et_TT) (t := 7) (ci := 5) (f := 1) (p := 146) (by decide +kernel) rfl rfl hH k_rd (fun c143 h143 e143 => ?_)
      refine ht_ist (M := [(21, 0, 100000)]) (T := et_TT) (t := 21) (N := 401) (p := 147) (by decide +kernel) rfl rfl (by decide) hH k_a135 (by omega) (by decide) (fun s hs => absurd hs List.not_mem_nil) (hb_mm (by omega)) (fun G146 hH f146 => ?_)
      have hf := hf.tr hx0 (f146.wk (by decide +kernel))
      have hc7 := (f146.2 rd 7 k_rd 7 rfl).trans hc7
      refine hs_aload (i := 0) (p := 148) (by decide +kernel) rfl ?_
      refine hs_dup1 (p := 149) (by decide +kernel) ?_
      refine ht_getn (T := et_TT) (t := 7) (ci := 5) (f := 7) (p := 152) (by decide +kernel) rfl rfl hH k_rd (fun c149 h149 e149 => ?_)
      have q149 : c149 = c := hb_cc e149 hc7 (by omega) (by omega)
      refine hs_k (x := Int32.ofNat 1) (p := 153) (by decide +kernel) ?_
      refine hs_iaddn (p := 154) (by decide +kernel) ?_
      refine ht_put (M := [(7, 7, 7)]) (T := et_TT) (t := 7) (ci := 5) (f := 7) (p := 157) (ty := .int) (by decide +kernel) rfl rfl rfl rfl rfl (by decide +kernel) hH k_rd (hi_nv (by omega) (by omega)) (fun G154 hH f154 e154 => ?_)
      have hf := hf.tr hx0 (f154.wk (by decide +kernel))
      have hc7 := e154
      refine hs_aload (i := 0) (p := 158) (by decide +kernel) rfl ?_
      refine hs_k (x := Int32.ofNat 0) (p := 159) (by decide +kernel) ?_
      refine ht_put (M := [(7, 1, 1)]) (T := et_TT) (t := 7) (ci := 5) (f := 1) (p := 162) (ty := .int) (by decide +kernel) rfl rfl rfl rfl rfl (by decide +kernel) hH k_rd (hi_nv (by omega) (by omega)) (fun G159 hH f159 e159 => ?_)
      have hf := hf.tr hx0 (f159.wk (by decide +kernel))
      have hc7 := (f159.2 rd 7 k_rd 7 rfl).trans hc7
      refine hs_vret (by decide +kernel) ?_
      exact ⟨_, List.mem_cons_self, _, hx0, hf, hH, rfl, Nat.le_refl _, Nat.le_refl _⟩
    · refine hs_aload (i := 0) (p := 31) (by decide +kernel) rfl ?_
      refine ht_getn (T := et_TT) (t := 7) (ci := 5) (f := 7) (p := 34) (by decide +kernel) rfl rfl hH k_rd (fun c31 h31 e31 => ?_)
      have q31 : c31 = c := hb_cc e31 hc7 (by omega) (by omega)
      refine hs_k (x := Int32.ofNat 400) (p := 37) (by decide +kernel) ?_
      refine hs_br2n (c := .ge) (t := 122) (f := 40) (by decide +kernel) (by omega) (by omega) (fun (c37 : 400 ≤ c31) => ?_) (fun (c37 : ¬ (400 ≤ c31)) => ?_)
      · refine hs_aload (i := 0) (p := 123) (by decide +kernel) rfl ?_
        refine ht_getr (T := et_TT) (t := 7) (ci := 5) (f := 4) (p := 126) (by decide +kernel) rfl rfl hH k_rd (fun a123 k_a123 e123 => ?_)
        refine hs_aload (i := 0) (p := 127) (by decide +kernel) rfl ?_
        refine ht_getn (T := et_TT) (t := 7) (ci := 5) (f := 7) (p := 130) (by decide +kernel) rfl rfl hH k_rd (fun c127 h127 e127 => ?_)
        have q127 : c127 = c := hb_cc e127 hc7 (by omega) (by omega)
        refine hs_gst (v := Value.ref 34) (p := 133) (by decide +kernel) ?_
        refine ht_aast (M := [(41, 0, 100000)]) (p := 134) (by decide +kernel) hH k_a123 (by omega) (hH.2.1 _ (by decide)) (hb_mm (by omega)) (fun G133 hH f133 => ?_)
        have hf := hf.tr hx0 (f133.wk (by decide +kernel))
        have hc7 := (f133.2 rd 7 k_rd 7 rfl).trans hc7
        refine hs_aload (i := 0) (p := 135) (by decide +kernel) rfl ?_
        refine ht_getr (T := et_TT) (t := 7) (ci := 5) (f := 5) (p := 138) (by decide +kernel) rfl rfl hH k_rd (fun a135 k_a135 e135 => ?_)
        refine hs_aload (i := 0) (p := 139) (by decide +kernel) rfl ?_
        refine ht_getn (T := et_TT) (t := 7) (ci := 5) (f := 7) (p := 142) (by decide +kernel) rfl rfl hH k_rd (fun c139 h139 e139 => ?_)
        have q139 : c139 = c := hb_cc e139 hc7 (by omega) (by omega)
        refine hs_aload (i := 0) (p := 143) (by decide +kernel) rfl ?_
        refine ht_getn (T := et_TT) (t := 7) (ci := 5) (f := 1) (p := 146) (by decide +kernel) rfl rfl hH k_rd (fun c143 h143 e143 => ?_)
        refine ht_ist (M := [(21, 0, 100000)]) (T := et_TT) (t := 21) (N := 401) (p := 147) (by decide +kernel) rfl rfl (by decide) hH k_a135 (by omega) (by decide) (fun s hs => absurd hs List.not_mem_nil) (hb_mm (by omega)) (fun G146 hH f146 => ?_)
        have hf := hf.tr hx0 (f146.wk (by decide +kernel))
        have hc7 := (f146.2 rd 7 k_rd 7 rfl).trans hc7
        refine hs_aload (i := 0) (p := 148) (by decide +kernel) rfl ?_
        refine hs_dup1 (p := 149) (by decide +kernel) ?_
        refine ht_getn (T := et_TT) (t := 7) (ci := 5) (f := 7) (p := 152) (by decide +kernel) rfl rfl hH k_rd (fun c149 h149 e149 => ?_)
        have q149 : c149 = c := hb_cc e149 hc7 (by omega) (by omega)
        refine hs_k (x := Int32.ofNat 1) (p := 153) (by decide +kernel) ?_
        refine hs_iaddn (p := 154) (by decide +kernel) ?_
        refine ht_put (M := [(7, 7, 7)]) (T := et_TT) (t := 7) (ci := 5) (f := 7) (p := 157) (ty := .int) (by decide +kernel) rfl rfl rfl rfl rfl (by decide +kernel) hH k_rd (hi_nv (by omega) (by omega)) (fun G154 hH f154 e154 => ?_)
        have hf := hf.tr hx0 (f154.wk (by decide +kernel))
        have hc7 := e154
        refine hs_aload (i := 0) (p := 158) (by decide +kernel) rfl ?_
        refine hs_k (x := Int32.ofNat 0) (p := 159) (by decide +kernel) ?_
        refine ht_put (M := [(7, 1, 1)]) (T := et_TT) (t := 7) (ci := 5) (f := 1) (p := 162) (ty := .int) (by decide +kernel) rfl rfl rfl rfl rfl (by decide +kernel) hH k_rd (hi_nv (by omega) (by omega)) (fun G159 hH f159 e159 => ?_)
        have hf := hf.tr hx0 (f159.wk (by decide +kernel))
        have hc7 := (f159.2 rd 7 k_rd 7 rfl).trans hc7
        refine hs_vret (by decide +kernel) ?_
        exact ⟨_, List.mem_cons_self, _, hx0, hf, hH, rfl, Nat.le_refl _, Nat.le_refl _⟩
      · refine hs_aload (i := 0) (p := 41) (by decide +kernel) rfl ?_
        refine ht_getr (T := et_TT) (t := 7) (ci := 5) (f := 0) (p := 44) (by decide +kernel) rfl rfl hH k_rd (fun a41 k_a41 e41 => ?_)
        refine hs_iload (i := 2) (p := 45) (by decide +kernel) rfl ?_
        refine ht_cld (T := et_TT) (t := 33) (N := 400) (p := 46) (by decide +kernel) rfl hH k_a41 (by omega) (by decide) (fun x45 => ?_)
        refine hs_k (x := Int32.ofNat 32) (p := 48) (by decide +kernel) ?_
        refine hs_br2 (c := .eq) (t := 116) (f := 51) (by decide +kernel) (fun (c48 : x45 = Int32.ofNat 32) => ?_) (fun (c48 : ¬ (x45 = Int32.ofNat 32)) => ?_)
        · refine hs_iinc1 (i := 2) (p := 119) (by decide +kernel) rfl (Nat.le_of_ble_eq_true rfl) ?_
          refine hs_goto (p := 22) (by decide +kernel) ?_
          show et_go none (d + 8) 67 22 [some (.ref rd), some (.int pl), some (.int (Int32.ofNat (i + 1))), x3] [] _ 0 0 _
          exact ih (400 - (i + 1)) (by omega) hH hx0 hf k_rd hc7 (by omega) (by omega) rfl
        · refine hs_aload (i := 0) (p := 52) (by decide +kernel) rfl ?_
          refine hs_iload (i := 2) (p := 53) (by decide +kernel) rfl ?_
          have o_rd := k_rd
          refine ht_callv (T := et_TT) (t := 7) (mi := 68) (na := 1) (ci := 5) (lk := 4) (lm := 2) (L0 := eg_en (eg_mL 68) [.ref rd, .int (Int32.ofNat i)]) (by decide +kernel) rfl hH k_rd rfl rfl rfl rfl rfl (by rw [show eg_mL 68 = 2 from by decide +kernel]; first | done | rfl) ?_
          refine (ep_c1 (K, [], G) [.ref rd, .int (Int32.ofNat i)] _ hH (by omega) rfl (ht_ac (.inr ⟨by decide, _, rfl, k_rd⟩) (ht_ac hi_any ht_an))).mono (fun u hu => hs_cbv hu (fun v53 K53 G53 c53 s53 x53 f53 hH hv53 cl53 sl53 => ?_))
          have k_rd := x53 _ _ k_rd
          have k_a41 := x53 _ _ k_a41
          have hf := hf.tr hx0 (f53.wk (by decide +kernel))
          have hx0 := hx0.tr x53
          have hc7 := (f53.2 rd 7 o_rd 7 rfl).trans hc7
          obtain rfl : c53 = 0 := Nat.le_zero.mp cl53
          obtain rfl : s53 = 0 := Nat.le_zero.mp sl53
          obtain ⟨n53, hn53, rfl⟩ := hi_nat hv53
          show et_go none _ 67 56 _ [.int (Int32.ofNat n53)] _ 0 _ _
          refine hs_br1 (c := .ne) (t := 116) (f := 59) (by decide +kernel) (fun (c56 : ¬ Int32.ofNat n53 = 0) => ?_) (fun (c56 : ¬ (¬ Int32.ofNat n53 = 0)) => ?_)
          · refine hs_iinc1 (i := 2) (p := 119) (by decide +kernel) rfl (Nat.le_of_ble_eq_true rfl) ?_
            refine hs_goto (p := 22) (by decide +kernel) ?_
            show et_go none (d + 8) 67 22 [some (.ref rd), some (.int pl), some (.int (Int32.ofNat (i + 1))), x3] [] _ 0 0 _
            exact ih (400 - (i + 1)) (by omega) hH hx0 hf k_rd hc7 (by omega) (by omega) rfl
          · refine hs_aload (i := 0) (p := 60) (by decide +kernel) rfl ?_
            refine hs_iload (i := 2) (p := 61) (by decide +kernel) rfl ?_
            have o_rd := k_rd
            refine ht_callv (T := et_TT) (t := 7) (mi := 71) (na := 1) (ci := 5) (lk := 4) (lm := 3) (L0 := eg_en (eg_mL 71) [.ref rd, .int (Int32.ofNat i)]) (by decide +kernel) rfl hH k_rd rfl rfl rfl rfl rfl (by rw [show eg_mL 71 = 3 from by decide +kernel]; first | done | rfl) ?_
            refine (ep_c2 (K53, [], G53) [.ref rd, .int (Int32.ofNat i)] _ hH (by omega) rfl (ht_ac (.inr ⟨by decide, _, rfl, k_rd⟩) (ht_ac (hi_nv (by omega) (by omega)) ht_an))).mono (fun u hu => hs_cbv hu (fun v61 K61 G61 c61 s61 x61 f61 hH hv61 cl61 sl61 => ?_))
            have k_rd := x61 _ _ k_rd
            have k_a41 := x61 _ _ k_a41
            have hf := hf.tr hx0 (f61.wk (by decide +kernel))
            have hx0 := hx0.tr x61
            have hc7 := (f61.2 rd 7 o_rd 7 rfl).trans hc7
            obtain rfl : c61 = 0 := Nat.le_zero.mp cl61
            obtain rfl : s61 = 0 := Nat.le_zero.mp sl61
            obtain ⟨n61, hn61, rfl⟩ := hi_nat hv61
            show et_go none _ 67 64 _ [.int (Int32.ofNat n61)] _ 0 _ _
            refine hs_istore (i := 3) (p := 65) (by decide +kernel) (Nat.le_of_ble_eq_true rfl) ?_
            refine hs_aload (i := 0) (p := 66) (by decide +kernel) rfl ?_
            refine ht_getr (T := et_TT) (t := 7) (ci := 5) (f := 4) (p := 69) (by decide +kernel) rfl rfl hH k_rd (fun a66 k_a66 e66 => ?_)
            refine hs_aload (i := 0) (p := 70) (by decide +kernel) rfl ?_
            refine ht_getn (T := et_TT) (t := 7) (ci := 5) (f := 7) (p := 73) (by decide +kernel) rfl rfl hH k_rd (fun c70 h70 e70 => ?_)
            have q70 : c70 = c := hb_cc e70 hc7 (by omega) (by omega)
            refine hs_aload (i := 0) (p := 74) (by decide +kernel) rfl ?_
            refine hs_iload (i := 2) (p := 75) (by decide +kernel) rfl ?_
            refine hs_iload (i := 3) (p := 76) (by decide +kernel) rfl ?_
            refine hs_iload (i := 1) (p := 77) (by decide +kernel) rfl ?_
            have o_rd := k_rd
            refine ht_callv (T := et_TT) (t := 7) (mi := 72) (na := 3) (ci := 5) (lk := 4) (lm := 6) (L0 := eg_en (eg_mL 72) [.ref rd, .int (Int32.ofNat i), .int (Int32.ofNat n61), .int pl]) (by decide +kernel) rfl hH k_rd rfl rfl rfl rfl rfl (by rw [show eg_mL 72 = 6 from by decide +kernel]; first | done | rfl) ?_
            refine (hc_wordOf (K61, [], G61) [.ref rd, .int (Int32.ofNat i), .int (Int32.ofNat n61), .int pl] _ hH (by omega) rfl (ht_ac (.inr ⟨by decide, _, rfl, k_rd⟩) (ht_ac (hi_nv (by omega) (by omega)) (ht_ac hi_any (ht_ac hi_any ht_an))))).mono (fun u hu => hs_cbv hu (fun v77 K77 G77 c77 s77 x77 f77 hH hv77 cl77 sl77 => ?_))
            have k_rd := x77 _ _ k_rd
            have k_a41 := x77 _ _ k_a41
            have k_a66 := x77 _ _ k_a66
            have hf := hf.tr hx0 (f77.wk (by decide +kernel))
            have hx0 := hx0.tr x77
            have hc7 := (f77.2 rd 7 o_rd 7 rfl).trans hc7
            obtain rfl : c77 = 0 := Nat.le_zero.mp cl77
            obtain rfl : s77 = 0 := Nat.le_zero.mp sl77
            obtain ⟨b77, rfl, k_b77⟩ := hi_ref hv77
            show et_go none _ 67 80 _ [.ref b77, .int (Int32.ofNat c70), .ref a66] _ 0 _ _
            refine ht_aast (M := [(41, 0, 100000)]) (p := 81) (by decide +kernel) hH k_a66 (by omega) k_b77 (hb_mm (by omega)) (fun G80 hH f80 => ?_)
            have hf := hf.tr hx0 (f80.wk (by decide +kernel))
            have hc7 := (f80.2 rd 7 k_rd 7 rfl).trans hc7
            refine hs_aload (i := 0) (p := 82) (by decide +kernel) rfl ?_
            refine ht_getr (T := et_TT) (t := 7) (ci := 5) (f := 5) (p := 85) (by decide +kernel) rfl rfl hH k_rd (fun a82 k_a82 e82 => ?_)
            refine hs_aload (i := 0) (p := 86) (by decide +kernel) rfl ?_
            refine ht_getn (T := et_TT) (t := 7) (ci := 5) (f := 7) (p := 89) (by decide +kernel) rfl rfl hH k_rd (fun c86 h86 e86 => ?_)
            have q86 : c86 = c := hb_cc e86 hc7 (by omega) (by omega)
            refine hs_iload (i := 2) (p := 90) (by decide +kernel) rfl ?_
            refine ht_ist (M := [(21, 0, 100000)]) (T := et_TT) (t := 21) (N := 401) (p := 91) (by decide +kernel) rfl rfl (by decide) hH k_a82 (by omega) (by decide) (fun s hs => absurd hs List.not_mem_nil) (hb_mm (by omega)) (fun G90 hH f90 => ?_)
            have hf := hf.tr hx0 (f90.wk (by decide +kernel))
            have hc7 := (f90.2 rd 7 k_rd 7 rfl).trans hc7
            refine hs_aload (i := 0) (p := 92) (by decide +kernel) rfl ?_
            refine ht_getr (T := et_TT) (t := 7) (ci := 5) (f := 6) (p := 95) (by decide +kernel) rfl rfl hH k_rd (fun a92 k_a92 e92 => ?_)
            refine hs_aload (i := 0) (p := 96) (by decide +kernel) rfl ?_
            refine ht_getn (T := et_TT) (t := 7) (ci := 5) (f := 7) (p := 99) (by decide +kernel) rfl rfl hH k_rd (fun c96 h96 e96 => ?_)
            have q96 : c96 = c := hb_cc e96 hc7 (by omega) (by omega)
            refine hs_aload (i := 0) (p := 100) (by decide +kernel) rfl ?_
            refine hs_iload (i := 2) (p := 101) (by decide +kernel) rfl ?_
            refine hs_iload (i := 3) (p := 102) (by decide +kernel) rfl ?_
            have o_rd := k_rd
            refine ht_callv (T := et_TT) (t := 7) (mi := 74) (na := 2) (ci := 5) (lk := 4) (lm := 5) (L0 := eg_en (eg_mL 74) [.ref rd, .int (Int32.ofNat i), .int (Int32.ofNat n61)]) (by decide +kernel) rfl hH k_rd rfl rfl rfl rfl rfl (by rw [show eg_mL 74 = 5 from by decide +kernel]; first | done | rfl) ?_
            refine (ep_c3 (K77, [], G90) [.ref rd, .int (Int32.ofNat i), .int (Int32.ofNat n61)] _ hH (by omega) rfl (ht_ac (.inr ⟨by decide, _, rfl, k_rd⟩) (ht_ac (hi_nv (by omega) (by omega)) (ht_ac (hi_nv (by omega) (by omega)) ht_an)))).mono (fun u hu => hs_cbv hu (fun v102 K102 G102 c102 s102 x102 f102 hH hv102 cl102 sl102 => ?_))
            have k_rd := x102 _ _ k_rd
            have k_a41 := x102 _ _ k_a41
            have k_a66 := x102 _ _ k_a66
            have k_b77 := x102 _ _ k_b77
            have k_a82 := x102 _ _ k_a82
            have k_a92 := x102 _ _ k_a92
            have hf := hf.tr hx0 (f102.wk (by decide +kernel))
            have hx0 := hx0.tr x102
            have hc7 := (f102.2 rd 7 o_rd 7 rfl).trans hc7
            obtain rfl : c102 = 0 := Nat.le_zero.mp cl102
            obtain rfl : s102 = 0 := Nat.le_zero.mp sl102
            obtain ⟨n102, rfl, hn102, hm102⟩ := hi_int hv102
            show et_go none _ 67 105 _ [.int n102, .int (Int32.ofNat c96), .ref a92] _ 0 _ _
            refine ht_ist (M := [(21, 0, 100000)]) (T := et_TT) (t := 21) (N := 401) (p := 106) (by decide +kernel) rfl rfl (by decide) hH k_a92 (by omega) (by decide) (fun s hs => absurd hs List.not_mem_nil) (hb_mm (by omega)) (fun G105 hH f105 => ?_)
            have hf := hf.tr hx0 (f105.wk (by decide +kernel))
            have hc7 := (f105.2 rd 7 k_rd 7 rfl).trans hc7
            refine hs_aload (i := 0) (p := 107) (by decide +kernel) rfl ?_
            refine hs_dup1 (p := 108) (by decide +kernel) ?_
            refine ht_getn (T := et_TT) (t := 7) (ci := 5) (f := 7) (p := 111) (by decide +kernel) rfl rfl hH k_rd (fun c108 h108 e108 => ?_)
            have q108 : c108 = c := hb_cc e108 hc7 (by omega) (by omega)
            refine hs_k (x := Int32.ofNat 1) (p := 112) (by decide +kernel) ?_
            refine hs_iaddn (p := 113) (by decide +kernel) ?_
            refine ht_put (M := [(7, 7, 7)]) (T := et_TT) (t := 7) (ci := 5) (f := 7) (p := 116) (ty := .int) (by decide +kernel) rfl rfl rfl rfl rfl (by decide +kernel) hH k_rd (hi_nv (by omega) (by omega)) (fun G113 hH f113 e113 => ?_)
            have hf := hf.tr hx0 (f113.wk (by decide +kernel))
            have hc7 := e113
            refine hs_iinc1 (i := 2) (p := 119) (by decide +kernel) rfl (Nat.le_of_ble_eq_true rfl) ?_
            refine hs_goto (p := 22) (by decide +kernel) ?_
            show et_go none (d + 8) 67 22 [some (.ref rd), some (.int pl), some (.int (Int32.ofNat (i + 1))), some (.int (Int32.ofNat n61))] [] _ 0 0 _
            exact ih (400 - (i + 1)) (by omega) hH hx0 hf k_rd hc7 (by omega) (by omega) rfl
theorem hc_split : et_cv et_TT hq_split := by
  intro w as d2 hH hd hl hv
  obtain ⟨v, v1, rfl⟩ := hi_len2 (show as.length = 2 from hl)
  obtain ⟨rd, rfl, k_rd⟩ := hi_ref (hv 0 _ _ rfl rfl)
  obtain ⟨pl, rfl, -, -⟩ := hi_int (hv 1 _ _ rfl rfl)
  obtain ⟨d, rfl⟩ : ∃ d, d2 = d + 8 := ⟨d2 - 8, by have : 8 ≤ d2 := hd; omega⟩
  have hx0 : et_ex w.1 w.1 := et_ex.rf
  have hf : et_fr sp_M w.1 w.2.2 w.2.2 := et_fr.rf
  rw [show eg_mL 67 = 4 from by decide +kernel]
  show et_go none (d + 8) 67 0 [some (.ref rd), some (.int pl), none, none] [] w.2.2 0 0 (hi_Z et_TT w sp_M [(.inl none, 0, 0)])
  refine hs_aload (i := 0) (p := 1) (by decide +kernel) rfl ?_
  refine hs_k (x := (-1)) (p := 2) (by decide +kernel) ?_
  refine ht_put (M := [(7, 2, 2)]) (T := et_TT) (t := 7) (ci := 5) (f := 2) (p := 5) (ty := .int) (by decide +kernel) rfl rfl rfl rfl rfl (by decide +kernel) hH k_rd hi_any (fun G2 hH f2 e2 => ?_)
  have hf := hf.tr hx0 (f2.wk (by decide +kernel))
  refine hs_aload (i := 0) (p := 6) (by decide +kernel) rfl ?_
  refine hs_k (x := Int32.ofNat 0) (p := 7) (by decide +kernel) ?_
  refine ht_put (M := [(7, 3, 3)]) (T := et_TT) (t := 7) (ci := 5) (f := 3) (p := 10) (ty := .boolean) (by decide +kernel) rfl rfl rfl (by decide +kernel) rfl (by decide +kernel) hH k_rd (hi_nv (by omega) (by omega)) (fun G7 hH f7 e7 => ?_)
  have hf := hf.tr hx0 (f7.wk (by decide +kernel))
  refine hs_aload (i := 0) (p := 11) (by decide +kernel) rfl ?_
  refine hs_k (x := Int32.ofNat 0) (p := 12) (by decide +kernel) ?_
  refine ht_put (M := [(7, 7, 7)]) (T := et_TT) (t := 7) (ci := 5) (f := 7) (p := 15) (ty := .int) (by decide +kernel) rfl rfl rfl rfl rfl (by decide +kernel) hH k_rd (hi_nv (by omega) (by omega)) (fun G12 hH f12 e12 => ?_)
  have hf := hf.tr hx0 (f12.wk (by decide +kernel))
  have hc7 := e12
  refine hs_aload (i := 0) (p := 16) (by decide +kernel) rfl ?_
  refine hs_k (x := Int32.ofNat 0) (p := 17) (by decide +kernel) ?_
  refine ht_put (M := [(7, 8, 8)]) (T := et_TT) (t := 7) (ci := 5) (f := 8) (p := 20) (ty := .int) (by decide +kernel) rfl rfl rfl rfl rfl (by decide +kernel) hH k_rd (hi_nv (by omega) (by omega)) (fun G17 hH f17 e17 => ?_)
  have hf := hf.tr hx0 (f17.wk (by decide +kernel))
  have hc7 := (f17.2 rd 7 k_rd 7 rfl).trans hc7
  refine hs_k (x := Int32.ofNat 0) (p := 21) (by decide +kernel) ?_
  refine hs_istore (i := 2) (p := 22) (by decide +kernel) (Nat.le_of_ble_eq_true rfl) ?_
  show et_go none (d + 8) 67 22 [some (.ref rd), some (.int pl), some (.int (Int32.ofNat 0)), none] [] _ 0 0 _
  exact hn_sp (c := 0) hH hx0 hf k_rd hc7 (by omega) (by omega)
end RSP
