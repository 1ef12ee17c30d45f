/-! BY HAND: count -/
theorem ht_aald {T : List et_D} {K : et_K} {d k pc ck sk a t n N p kd m : Nat} {L : eg_Ls} {r : List Value} {G : eg_G} {Z : eg_O → Prop} {q : et_P} (hc : hs_o k pc = some (.aaload, p)) (hT : T[t]? = some (.inr (kd, N, [(0, m, q)]))) (hk : eg_ak .aaload kd = true) (hH : et_H T K G) (ha : K a = some t) (hn : n < N) (hm : n ≤ m) (hN : N < 2147483648) (h : ∀ v : Value, et_v K q v → et_pl (eg_at G a) n = some v → et_go none d k p L (v :: r) G ck sk Z) : et_go none d k pc L (.int (Int32.ofNat n) :: .ref a :: r) G ck sk Z := by
  obtain ⟨g1, -, -, dd, hd, hc', -⟩ := hH.2.2 a t ha
  rw [hT] at hd
  cases hd
  obtain ⟨x, e, xn, h1, h2⟩ := hc'
  obtain ⟨v, v1, v2⟩ := h2 (0, m, q) List.mem_cons_self n (Nat.zero_le _) hm hn
  obtain ⟨e0, rfl⟩ := hs_oc hc
  refine hs_st e0 rfl ?_ (h v v2 ?_)
  · show eg_ar .aaload pc L (.int (Int32.ofNat n) :: .ref a :: r) G ck sk = _
    unfold eg_ar
    dsimp only
    rw [e]
    dsimp only
    have h3 := hs_nint (a := n) (by omega)
    rw [if_pos ⟨g1, hk, by omega, by omega⟩, hs_nnat (by omega), v1]
  · rw [e]
    show (if n < x.1 then eg_rd kd x n else none) = some v
    rw [if_pos (by omega), v1]
theorem hs_cbx {T : List et_D} {M : et_M} {d k pc ck sk x cx sx c s : Nat} {L : eg_Ls} {r : List Value} {Z : eg_O → Prop} {w : et_Wd} {q : et_P} {u : eg_O} (hm : eg_mh k = none) (hu : hi_Z T w M [(.inr x, cx, sx), (.inl (some q), c, s)] u) (h : ∀ (v : Value) (K' : et_K) (G' : eg_G) (c' s' : Nat), et_ex w.1 K' → et_fr M w.1 w.2.2 G' → et_H T K' G' → et_v K' q v → c' ≤ c → s' ≤ s → et_go none d k (pc + 3) L (v :: r) G' (ck + c') (sk + s') Z) (hx : ∀ (K' : et_K) (G' : eg_G) (c' s' : Nat), et_ex w.1 K' → et_fr M w.1 w.2.2 G' → et_H T K' G' → c' ≤ cx → s' ≤ sx → Z (.inr x, G', ck + c', sk + s')) : hs_cont d k pc L r ck sk Z u := by
  obtain ⟨e, he, K', h1, h2, h3, h4, h5, h6⟩ := hu
  obtain ⟨u1, u2, u3, u4⟩ := u
  rcases List.mem_cons.mp he with rfl | he
  · have h4 : u1 = .inr x := h4
    subst h4
    refine ⟨_, ⟨0, fun q _ => ?_⟩, hx K' u2 u3 u4 h1 h2 h3 h5 h6⟩
    unfold eg_bk
    dsimp only
    rw [hm]
  · obtain rfl := List.mem_singleton.mp he
    obtain ⟨v, hv1, hv2⟩ := h4
    have hv1 : u1 = .inl (some v) := hv1
    subst hv1
    exact hs_cb (h v K' u2 u3 u4 h1 h2 h3 hv2 h5 h6)
def ct_M : et_M := [(4, 0, 0), (4, 6, 6), (4, 7, 7), (4, 8, 8), (4, 9, 9), (4, 10, 10), (4, 11, 11), (8, 1, 1), (28, 0, 100000)]
def hq_ct (lo hi : Int) : et_Co := (126, [.inr (.inr (0, 12)), .inl (lo, hi)], ct_M, [(.inl (some (.inl (et_mn, et_mx))), 6, 6144), (.inr 1, 7, 7168)], 36)
def ct_an (k pc : Nat) : Option et_A := if k = 105 then (if pc = 4 then some ([(1, .inl (et_mn, et_mx)), (2, .inl (0, 20))], 2, [], []) else none) else if k = 108 then (if pc = 4 then some ([(1, .inl (et_mn, et_mx)), (2, .inl (0, 6))], 2, [], []) else none) else none
theorem hc_ctA : et_cv et_TT (hq_ct et_mn 5) := et_cok_ok (Ks := []) (an := ct_an) (fun _ h => absurd h List.not_mem_nil) (by decide +kernel)
theorem hc_ctC : et_cv et_TT (hq_ct 7 et_mx) := et_cok_ok (Ks := []) (an := ct_an) (fun _ h => absurd h List.not_mem_nil) (by decide +kernel)
section RCT
variable {w : et_Wd} {K : et_K} {G : eg_G} {d th : Nat}
theorem hn_ct (hH : et_H et_TT K G) (hx0 : et_ex w.1 K) (hf : et_fr ct_M w.1 w.2.2 G) (k_th : K th = some 12) {x y : Int32} {c ck sk : Nat} (hc : c ≤ 6) (hck : ck ≤ c) (hsk : sk ≤ 1024 * c) : et_go none (d + 36) 126 98 [some (.ref th), some (.int x), some (.int y), some (.int (Int32.ofNat c))] [] G ck sk (hi_Z et_TT w ct_M [(.inl (some (.inl (et_mn, et_mx))), 6, 6144), (.inr 1, 7, 7168)]) := by
  induction hm : 6 - c using Nat.strongRecOn generalizing c y ck sk K G with
  | _ z ih =>
    refine hs_iload (i := 3) (p := 99) (by decide +kernel) rfl ?_
    refine hs_aload (i := 0) (p := 100) (by decide +kernel) rfl ?_
    refine ht_getr (T := et_TT) (t := 12) (ci := 10) (f := 0) (p := 103) (by decide +kernel) rfl rfl hH k_th (fun a100 k_a100 e100 => ?_)
    refine ht_getn (T := et_TT) (t := 10) (ci := 8) (f := 9) (p := 106) (by decide +kernel) rfl rfl hH k_a100 (fun c103 h103 e103 => ?_)
    refine hs_br2n (c := .ge) (t := 151) (f := 109) (by decide +kernel) (by omega) (by omega) (fun (c106 : c103 ≤ c) => ?_) (fun (c106 : ¬ (c103 ≤ c)) => ?_)
    · refine hs_iload (i := 2) (p := 152) (by decide +kernel) rfl ?_
      refine hs_iret (by decide +kernel) ?_
      exact ⟨_, List.mem_cons_self, _, hx0, hf, hH, ⟨_, rfl, hi_any⟩, by show ck ≤ 6; omega, by show sk ≤ 6144; omega⟩
    · refine hs_iload (i := 2) (p := 110) (by decide +kernel) rfl ?_
      refine hs_aload (i := 0) (p := 111) (by decide +kernel) rfl ?_
      refine ht_getr (T := et_TT) (t := 12) (ci := 10) (f := 0) (p := 114) (by decide +kernel) rfl rfl hH k_th (fun a111 k_a111 e111 => ?_)
      refine ht_getr (T := et_TT) (t := 10) (ci := 8) (f := 10) (p := 117) (by decide +kernel) rfl rfl hH k_a111 (fun a114 k_a114 e114 => ?_)
      refine hs_iload (i := 3) (p := 118) (by decide +kernel) rfl ?_
      refine ht_aald (T := et_TT) (t := 39) (N := 6) (kd := 8) (m := 5) (p := 119) (by decide +kernel) rfl rfl hH k_a114 (by omega) (by omega) (by decide) (fun v118 h118 e118 => ?_)
      rcases hi_q h118 with rfl | ⟨a118, rfl, k_a118⟩
      · refine hs_ifnull0 (p := 142) (by decide +kernel) ?_
        refine hs_k (x := Int32.ofNat 0) (p := 143) (by decide +kernel) ?_
        refine hs_iadd (p := 144) (by decide +kernel) ?_
        refine hs_istore (i := 2) (p := 145) (by decide +kernel) (Nat.le_of_ble_eq_true rfl) ?_
        refine hs_iinc1 (i := 3) (p := 148) (by decide +kernel) rfl (Nat.le_of_ble_eq_true rfl) ?_
        refine hs_goto (p := 98) (by decide +kernel) ?_
        show et_go none (d + 36) 126 98 [some (.ref th), some (.int x), some (.int (y + Int32.ofNat 0)), some (.int (Int32.ofNat (c + 1)))] [] _ ck sk _
        exact ih (6 - (c + 1)) (by omega) hH hx0 hf k_th (by omega) (by omega) (by omega) rfl
      · refine hs_ifnull1 (p := 122) (by decide +kernel) ?_
        refine hs_aload (i := 0) (p := 123) (by decide +kernel) rfl ?_
        refine hs_aload (i := 0) (p := 124) (by decide +kernel) rfl ?_
        refine ht_getr (T := et_TT) (t := 12) (ci := 10) (f := 0) (p := 127) (by decide +kernel) rfl rfl hH k_th (fun a124 k_a124 e124 => ?_)
        refine ht_getr (T := et_TT) (t := 10) (ci := 8) (f := 10) (p := 130) (by decide +kernel) rfl rfl hH k_a124 (fun a127 k_a127 e127 => ?_)
        refine hs_iload (i := 3) (p := 131) (by decide +kernel) rfl ?_
        refine ht_aald (T := et_TT) (t := 39) (N := 6) (kd := 8) (m := 5) (p := 132) (by decide +kernel) rfl rfl hH k_a127 (by omega) (by omega) (by decide) (fun v131 h131 e131 => ?_)
        have q124 : a124 = a111 := Value.ref.inj (Option.some.inj (e124.symm.trans e111))
        rw [q124] at e127
        have q127 : a127 = a114 := Value.ref.inj (Option.some.inj (e127.symm.trans e114))
        rw [q127] at e131
        obtain rfl : v131 = .ref a118 := Option.some.inj (e131.symm.trans e118)
        refine ht_callv (T := et_TT) (t := 12) (mi := 127) (na := 1) (ci := 10) (lk := 4) (lm := 4) (L0 := eg_en (eg_mL 127) [.ref th, .ref a118]) (by decide +kernel) rfl hH k_th rfl rfl rfl rfl rfl (by rw [show eg_mL 127 = 4 from by decide +kernel]; first | done | rfl) ?_
        refine (ek_c27 (K, [], G) [.ref th, .ref a118] _ hH (by show 34 ≤ _; omega) rfl (ht_ac (.inr ⟨by decide, _, rfl, k_th⟩) (ht_ac (.inr ⟨by decide, _, rfl, k_a118⟩) ht_an))).mono (fun u hu => hs_cbx (by decide +kernel) hu (fun v132 K132 G132 c132 s132 x132 f132 hH hv132 cl132 sl132 => ?_) (fun K132 G132 c132 s132 x132 f132 hH cl132 sl132 => ?_))
        · have k_th := x132 _ _ k_th
          have hf := hf.tr hx0 (f132.wk (by decide +kernel))
          have hx0 := hx0.tr x132
          obtain ⟨n132, hn132, rfl⟩ := hi_nat hv132
          show et_go none _ 126 135 _ [.int (Int32.ofNat n132), .int y] _ (ck + c132) (sk + s132) _
          refine hs_br1 (c := .eq) (t := 142) (f := 138) (by decide +kernel) (fun (c135 : Int32.ofNat n132 = 0) => ?_) (fun (c135 : ¬ (Int32.ofNat n132 = 0)) => ?_)
          · refine hs_k (x := Int32.ofNat 0) (p := 143) (by decide +kernel) ?_
            refine hs_iadd (p := 144) (by decide +kernel) ?_
            refine hs_istore (i := 2) (p := 145) (by decide +kernel) (Nat.le_of_ble_eq_true rfl) ?_
            refine hs_iinc1 (i := 3) (p := 148) (by decide +kernel) rfl (Nat.le_of_ble_eq_true rfl) ?_
            refine hs_goto (p := 98) (by decide +kernel) ?_
            show et_go none (d + 36) 126 98 [some (.ref th), some (.int x), some (.int (y + Int32.ofNat 0)), some (.int (Int32.ofNat (c + 1)))] [] _ (ck + c132) (sk + s132) _
            exact ih (6 - (c + 1)) (by omega) hH hx0 hf k_th (by omega) (by omega) (by omega) rfl
          · refine hs_k (x := Int32.ofNat 1) (p := 139) (by decide +kernel) ?_
            refine hs_goto (p := 143) (by decide +kernel) ?_
            refine hs_iadd (p := 144) (by decide +kernel) ?_
            refine hs_istore (i := 2) (p := 145) (by decide +kernel) (Nat.le_of_ble_eq_true rfl) ?_
            refine hs_iinc1 (i := 3) (p := 148) (by decide +kernel) rfl (Nat.le_of_ble_eq_true rfl) ?_
            refine hs_goto (p := 98) (by decide +kernel) ?_
            show et_go none (d + 36) 126 98 [some (.ref th), some (.int x), some (.int (y + Int32.ofNat 1)), some (.int (Int32.ofNat (c + 1)))] [] _ (ck + c132) (sk + s132) _
            exact ih (6 - (c + 1)) (by omega) hH hx0 hf k_th (by omega) (by omega) (by omega) rfl
        · exact ⟨_, List.mem_cons_of_mem _ List.mem_cons_self, K132, hx0.tr x132, hf.tr hx0 (f132.wk (by decide +kernel)), hH, rfl, by show ck + c132 ≤ 7; omega, by show sk + s132 ≤ 7168; omega⟩
theorem hc_ctB : et_cv et_TT (hq_ct 6 6) := by
  intro w as d2 hH hd hl hv
  obtain ⟨v, v1, rfl⟩ := hi_len2 (show as.length = 2 from hl)
  obtain ⟨th, rfl, k_th⟩ := hi_ref (hv 0 _ _ rfl rfl)
  obtain ⟨x, rfl, x1, x2⟩ := hi_int (hv 1 _ _ rfl rfl)
  obtain rfl : x = Int32.ofNat 6 := Int32.toInt_inj.mp (by rw [hs_nint (by decide)]; omega)
  obtain ⟨d, rfl⟩ : ∃ d, d2 = d + 36 := ⟨d2 - 36, by have : 36 ≤ d2 := hd; omega⟩
  rw [show eg_mL 126 = 4 from by decide +kernel]
  show et_go none (d + 36) 126 0 [some (.ref th), some (.int (Int32.ofNat 6)), none, none] [] w.2.2 0 0 (hi_Z et_TT w ct_M [(.inl (some (.inl (et_mn, et_mx))), 6, 6144), (.inr 1, 7, 7168)])
  refine hs_k (x := Int32.ofNat 0) (p := 1) (by decide +kernel) ?_
  refine hs_istore (i := 2) (p := 2) (by decide +kernel) (Nat.le_of_ble_eq_true rfl) ?_
  refine hs_iload (i := 1) (p := 3) (by decide +kernel) rfl ?_
  refine hs_st (ins := .tableswitch 158 0 7 #[45, 53, 61, 69, 77, 85, 93, 150]) (len := 45) (by decide +kernel) rfl (by rfl) (?_ : et_go none (d + 36) 126 96 _ _ _ _ _ _)
  refine hs_k (x := Int32.ofNat 0) (p := 97) (by decide +kernel) ?_
  refine hs_istore (i := 3) (p := 98) (by decide +kernel) (Nat.le_of_ble_eq_true rfl) ?_
  exact hn_ct hH et_ex.rf et_fr.rf k_th (Nat.zero_le _) (Nat.zero_le _) (Nat.zero_le _)
theorem hc_count : et_cv et_TT (hq_ct et_mn et_mx) := et_cv_sp (by decide) (et_cv_sp (m := 5) (n := 6) (by decide) hc_ctA hc_ctB) hc_ctC
end RCT
