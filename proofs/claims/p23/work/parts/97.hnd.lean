section
/-! BY HAND: Reader.isText -/
theorem ht_cld {T : List et_D} {K : et_K} {d k pc ck sk a t n N p : Nat} {L : eg_Ls} {r : List Value} {G : eg_G} {Z : eg_O → Prop} {ss : List (Nat × Nat × et_P)} (hc : hs_o k pc = some (.caload, p)) (hT : T[t]? = some (.inr (4, N, ss))) (hH : et_H T K G) (ha : K a = some t) (hn : n < N) (hN : N < 2147483648) (h : ∀ x : Int32, et_go none d k p L (.int x :: r) G ck sk Z) : et_go none d k pc L (.int (Int32.ofNat n) :: .ref a :: r) G ck sk Z := by
  obtain ⟨f, e, h1, -⟩ := hi_arr hH ha hT (by omega) (.inr (.inr (.inr rfl)))
  obtain ⟨e0, rfl⟩ := hs_oc hc
  exact hs_st e0 rfl (hs_ari ⟨rfl, .inr (.inr (.inr rfl))⟩ e (hH.2.2 a t ha).1 hn hN) (h _)
section RTX
variable {w : et_Wd} {d rd j b : Nat} {e : Int32}
theorem hn_tx (hH : et_H et_TT w.1 w.2.2) (k_rd : w.1 rd = some 7) (hj : j < 56) (hb : b ≤ 399) {i : Nat} (hi : i ≤ rs_n j) : et_go none (d + 5) 73 15 [some (.ref rd), some (.ref (36 + j)), some (.int (Int32.ofNat b)), some (.int e), some (.int (Int32.ofNat i))] [] w.2.2 0 0 (hi_Z et_TT w [] [(.inl (some (.inl (0, 1))), 0, 0)]) := by
  have hG : 152 ≤ w.2.2.2 := hH.1
  have hn := rs_nlt (j := j)
  induction hm : rs_n j - i using Nat.strongRecOn generalizing i with
  | _ z ih =>
    refine hs_iload (i := 4) (p := 17) (by decide +kernel) rfl ?_
    refine hs_aload (i := 1) (p := 18) (by decide +kernel) rfl ?_
    refine hs_callv (mi := 294) (na := 0) (ci := 13) (lk := 5) (lm := 1) (by decide +kernel) rfl rfl rfl rfl rfl rfl (by omega) (by rw [rs_con hj]; rfl) (rs_len hG hj (hs_cb ?_))
    show et_go none _ 73 21 _ [.int (Int32.ofNat (rs_n j)), .int (Int32.ofNat i)] _ 0 0 _
    refine hs_br2n (c := .ge) (t := 61) (f := 24) (by decide +kernel) (by omega) (by omega) (fun (c21 : (rs_n j) ≤ i) => ?_) (fun (c21 : ¬ ((rs_n j) ≤ i)) => ?_)
    · refine hs_k (x := Int32.ofNat 1) (p := 62) (by decide +kernel) ?_
      refine hs_zret (by decide +kernel) (.inr rfl) ?_
      exact ⟨_, List.mem_cons_self, _, et_ex.rf, et_fr.rf, hH, ⟨_, rfl, hi_iv (by decide) (by decide)⟩, Nat.le_refl _, Nat.le_refl _⟩
    · refine hs_iload (i := 2) (p := 25) (by decide +kernel) rfl ?_
      refine hs_iload (i := 4) (p := 27) (by decide +kernel) rfl ?_
      refine hs_iaddn (p := 28) (by decide +kernel) ?_
      refine hs_aload (i := 0) (p := 29) (by decide +kernel) rfl ?_
      refine ht_getn (T := et_TT) (t := 7) (ci := 5) (f := 1) (p := 32) (by decide +kernel) rfl rfl hH k_rd (fun c29 h29 e29 => ?_)
      refine hs_br2n (c := .ge) (t := 61) (f := 35) (by decide +kernel) (by omega) (by omega) (fun (c32 : c29 ≤ (b + i)) => ?_) (fun (c32 : ¬ (c29 ≤ (b + i))) => ?_)
      · refine hs_k (x := Int32.ofNat 1) (p := 62) (by decide +kernel) ?_
        refine hs_zret (by decide +kernel) (.inr rfl) ?_
        exact ⟨_, List.mem_cons_self, _, et_ex.rf, et_fr.rf, hH, ⟨_, rfl, hi_iv (by decide) (by decide)⟩, Nat.le_refl _, Nat.le_refl _⟩
      · refine hs_aload (i := 0) (p := 36) (by decide +kernel) rfl ?_
        refine ht_getr (T := et_TT) (t := 7) (ci := 5) (f := 0) (p := 39) (by decide +kernel) rfl rfl hH k_rd (fun a36 k_a36 e36 => ?_)
        refine hs_iload (i := 2) (p := 40) (by decide +kernel) rfl ?_
        refine hs_iload (i := 4) (p := 42) (by decide +kernel) rfl ?_
        refine hs_iaddn (p := 43) (by decide +kernel) ?_
        refine ht_cld (T := et_TT) (t := 33) (N := 400) (p := 44) (by decide +kernel) rfl hH k_a36 (by omega) (by decide) (fun x43 => ?_)
        refine hs_aload (i := 1) (p := 45) (by decide +kernel) rfl ?_
        refine hs_iload (i := 4) (p := 47) (by decide +kernel) rfl ?_
        refine hs_callv (mi := 296) (na := 1) (ci := 13) (lk := 5) (lm := 2) (by decide +kernel) rfl rfl rfl rfl rfl rfl (by omega) (by rw [rs_con hj]; rfl) (rs_chr hG hj (by omega) (fun x47 => hs_cb ?_))
        show et_go none _ 73 50 _ [.int x47, .int x43] _ 0 0 _
        refine hs_br2 (c := .eq) (t := 55) (f := 53) (by decide +kernel) (fun (c50 : x43 = x47) => ?_) (fun (c50 : ¬ (x43 = x47)) => ?_)
        · refine hs_iinc1 (i := 4) (p := 58) (by decide +kernel) rfl (Nat.le_of_ble_eq_true rfl) ?_
          refine hs_goto (p := 15) (by decide +kernel) ?_
          show et_go none (d + 5) 73 15 [some (.ref rd), some (.ref (36 + j)), some (.int (Int32.ofNat b)), some (.int e), some (.int (Int32.ofNat (i + 1)))] [] _ 0 0 _
          exact ih (rs_n j - (i + 1)) (by omega) (by omega) rfl
        · refine hs_k (x := Int32.ofNat 0) (p := 54) (by decide +kernel) ?_
          refine hs_zret (by decide +kernel) (.inl rfl) ?_
          exact ⟨_, List.mem_cons_self, _, et_ex.rf, et_fr.rf, hH, ⟨_, rfl, hi_iv (by decide) (by decide)⟩, Nat.le_refl _, Nat.le_refl _⟩
theorem hc_isText (hH : et_H et_TT w.1 w.2.2) (k_rd : w.1 rd = some 7) (hj : j < 56) (hb : b ≤ 399) {d2 : Nat} (hd : 5 ≤ d2) : et_go none d2 73 0 (eg_en (eg_mL 73) [.ref rd, .ref (36 + j), .int (Int32.ofNat b), .int e]) [] w.2.2 0 0 (hi_Z et_TT w [] [(.inl (some (.inl (0, 1))), 0, 0)]) := by
  obtain ⟨d, rfl⟩ : ∃ d, d2 = d + 5 := ⟨d2 - 5, by omega⟩
  have hG : 152 ≤ w.2.2.2 := hH.1
  have hn := rs_nlt (j := j)
  rw [show eg_mL 73 = 5 from by decide +kernel]
  show et_go none (d + 5) 73 0 [some (.ref rd), some (.ref (36 + j)), some (.int (Int32.ofNat b)), some (.int e), none] [] w.2.2 0 0 (hi_Z et_TT w [] [(.inl (some (.inl (0, 1))), 0, 0)])
  refine hs_aload (i := 1) (p := 1) (by decide +kernel) rfl ?_
  refine hs_callv (mi := 294) (na := 0) (ci := 13) (lk := 5) (lm := 1) (by decide +kernel) rfl rfl rfl rfl rfl rfl (by omega) (by rw [rs_con hj]; rfl) (rs_len hG hj (hs_cb ?_))
  show et_go none _ 73 4 _ [.int (Int32.ofNat (rs_n j))] _ 0 0 _
  refine hs_iload (i := 3) (p := 5) (by decide +kernel) rfl ?_
  refine hs_iload (i := 2) (p := 6) (by decide +kernel) rfl ?_
  refine hs_isub (p := 7) (by decide +kernel) ?_
  refine hs_br2 (c := .eq) (t := 12) (f := 10) (by decide +kernel) (fun (c7 : Int32.ofNat (rs_n j) = (e - Int32.ofNat b)) => ?_) (fun (c7 : ¬ (Int32.ofNat (rs_n j) = (e - Int32.ofNat b))) => ?_)
  · refine hs_k (x := Int32.ofNat 0) (p := 13) (by decide +kernel) ?_
    refine hs_istore (i := 4) (p := 15) (by decide +kernel) (Nat.le_of_ble_eq_true rfl) ?_
    show et_go none (d + 5) 73 15 [some (.ref rd), some (.ref (36 + j)), some (.int (Int32.ofNat b)), some (.int e), some (.int (Int32.ofNat 0))] [] _ 0 0 _
    exact hn_tx hH k_rd hj hb (Nat.zero_le _)
  · refine hs_k (x := Int32.ofNat 0) (p := 11) (by decide +kernel) ?_
    refine hs_zret (by decide +kernel) (.inl rfl) ?_
    exact ⟨_, List.mem_cons_self, _, et_ex.rf, et_fr.rf, hH, ⟨_, rfl, hi_iv (by decide) (by decide)⟩, Nat.le_refl _, Nat.le_refl _⟩
end RTX
end
section
/-! BY HAND: Reader.wordOf -/
section HWA
variable {d k pc ck sk : Nat} {L : eg_Ls} {st r : List Value} {G : eg_G} {Z : eg_O → Prop}
theorem hw_148 : eg_at G 148 = .inl (9, (36, .inr (.inr (.inr (.inr (fun j => some j)))))) := by
  unfold eg_at
  rw [if_pos (by decide)]
  unfold eg_con
  rw [if_neg (by decide), if_neg (by decide), if_neg (by decide), if_pos (by decide)]
theorem hw_at {i : Nat} (hi : i < 36) : eg_at G i = .inr (12, [.int (Int32.ofNat i), .ref (36 + (eg_wf.getD i (0, 0, 0)).1), .int (eg_wf.getD i (0, 0, 0)).2.1, .int (eg_wf.getD i (0, 0, 0)).2.2]) := by
  unfold eg_at
  rw [if_pos (show i < eg_NC from Nat.lt_of_lt_of_le hi (by decide))]
  unfold eg_con
  rw [if_pos hi]
theorem hw_j : ∀ i ∈ List.range 36, (eg_wf.getD i (0, 0, 0)).1 < 56 := by decide +kernel
theorem hw_ald {p i : Nat} (hc : hs_o k pc = some (.aaload, p)) (hG : 152 ≤ G.2) (hi : i < 36) (h : et_go none d k p L (.ref i :: r) G ck sk Z) : et_go none d k pc L (.int (Int32.ofNat i) :: .ref 148 :: r) G ck sk Z := by
  obtain ⟨e0, rfl⟩ := hs_oc hc
  refine hs_st e0 rfl ?_ h
  show eg_ar .aaload pc L (.int (Int32.ofNat i) :: .ref 148 :: r) G ck sk = _
  unfold eg_ar
  dsimp only
  rw [hw_148]
  dsimp only
  have h3 := hs_nint (a := i) (by omega)
  rw [if_pos ⟨Nat.lt_of_lt_of_le (by decide) hG, by decide, by omega, by show (Int32.ofNat i).toInt < (36 : Int); omega⟩, hs_nnat (by omega)]
  rfl
theorem hi_len4 {as : List Value} (h : as.length = 4) : ∃ a b c d, as = [a, b, c, d] := by
  match as, h with
  | [a, b, c, d], _ => exact ⟨a, b, c, d, rfl⟩
theorem hs_aret {a : Nat} {cn : String} (hc : eg_cd k pc = some (.areturn, 1) ∧ eg_mr k = some (.object cn)) (h : Z (.inl (some (.ref a)), G, ck, sk)) : et_go none d k pc L [.ref a] G ck sk Z := by
  refine et_goR (u := (.inl (some (.ref a)), G, ck, sk)) (fun q => ?_) h
  unfold eg_one
  rw [hc.1]
  dsimp only
  rw [hc.2]
  rfl
end HWA
def hq_dig : et_Co := (70, [.inl (et_mn, et_mx)], [], [(.inl (some (.inl (0, 1))), 0, 0)], 1)
theorem hc_dig : et_cv et_TT hq_dig := et_cok_ok (Ks := []) (an := an_no) (fun _ h => absurd h List.not_mem_nil) (by decide +kernel)
def hq_word : et_Co := (72, [.inr (.inr (0, 7)), .inl (0, 399), .inl (et_mn, et_mx), .inl (et_mn, et_mx)], [], [(.inl (some (.inr (.inr (0, 0)))), 0, 0)], 7)
section RWO
variable {w : et_Wd} {K : et_K} {G : eg_G} {d rd b : Nat} {e pl : Int32}
theorem hn_wo (hH : et_H et_TT K G) (hx0 : et_ex w.1 K) (hf : et_fr [] w.1 w.2.2 G) (k_rd : K rd = some 7) (hb : b ≤ 399) {i : Nat} {x5 : Option Value} (hi : i ≤ 36) : et_go none (d + 7) 72 19 [some (.ref rd), some (.int (Int32.ofNat b)), some (.int e), some (.int pl), some (.int (Int32.ofNat i)), x5] [] G 0 0 (hi_Z et_TT w [] [(.inl (some (.inr (.inr (0, 0)))), 0, 0)]) := by
  induction hm : 36 - i using Nat.strongRecOn generalizing i x5 K G with
  | _ z ih =>
    have hG : 152 ≤ G.2 := hH.1
    refine hs_iload (i := 4) (p := 21) (by decide +kernel) rfl ?_
    refine hs_gst (v := Value.ref 148) (p := 24) (by decide +kernel) ?_
    refine hs_alen (p := 25) (by decide +kernel) hw_148 (by omega) (by decide) ?_
    refine hs_br2n (c := .ge) (t := 77) (f := 28) (by decide +kernel) (by omega) (by omega) (fun (c25 : 36 ≤ i) => ?_) (fun (c25 : ¬ (36 ≤ i)) => ?_)
    · refine hs_gst (v := Value.ref 35) (p := 80) (by decide +kernel) ?_
      refine hs_aret (cn := "KnobEye$Word") (by decide +kernel) ?_
      exact ⟨_, List.mem_cons_self, _, hx0, hf, hH, ⟨_, rfl, .inr ⟨by decide, _, rfl, (hH.2.1 _ (by decide))⟩⟩, Nat.le_refl _, Nat.le_refl _⟩
    · refine hs_gst (v := Value.ref 148) (p := 31) (by decide +kernel) ?_
      refine hs_iload (i := 4) (p := 33) (by decide +kernel) rfl ?_
      refine hw_ald (p := 34) (by decide +kernel) hG (by omega) ?_
      have k_i := hH.2.1 i (by omega)
      have h36 : i < 36 := by omega
      refine hs_astore (i := 5) (p := 36) (by decide +kernel) (Nat.le_of_ble_eq_true rfl) ?_
      refine hs_aload (i := 5) (p := 38) (by decide +kernel) rfl ?_
      refine ht_getn (T := et_TT) (t := 0) (ci := 12) (f := 2) (p := 41) (by decide +kernel) rfl rfl hH k_i (fun c38 h38 e38 => ?_)
      refine hs_iload (i := 3) (p := 42) (by decide +kernel) rfl ?_
      refine hs_br2 (c := .eq) (t := 54) (f := 45) (by decide +kernel) (fun (c42 : Int32.ofNat c38 = pl) => ?_) (fun (c42 : ¬ (Int32.ofNat c38 = pl)) => ?_)
      · refine hs_aload (i := 0) (p := 55) (by decide +kernel) rfl ?_
        refine hs_aload (i := 5) (p := 57) (by decide +kernel) rfl ?_
        refine hs_get (ci := 12) (f := 1) (p := 60) (by decide +kernel) (hw_at h36) (by omega) rfl ?_
        refine hs_iload (i := 1) (p := 61) (by decide +kernel) rfl ?_
        refine hs_iload (i := 2) (p := 62) (by decide +kernel) rfl ?_
        refine ht_callv (T := et_TT) (t := 7) (mi := 73) (na := 3) (ci := 5) (lk := 6) (lm := 5) (L0 := eg_en (eg_mL 73) [.ref rd, .ref (36 + (eg_wf.getD i (0, 0, 0)).1), .int (Int32.ofNat b), .int e]) (by decide +kernel) rfl hH k_rd rfl rfl rfl rfl rfl (by rw [show eg_mL 73 = 5 from by decide +kernel]; first | done | rfl) ?_
        refine (hc_isText (w := (K, [], G)) (e := e) hH k_rd (hw_j i (List.mem_range.mpr h36)) (by omega) (d2 := d + 6) (by omega)).mono (fun u hu => hs_cbv hu (fun v62 K62 G62 c62 s62 x62 f62 hH hv62 cl62 sl62 => ?_))
        have k_rd := x62 _ _ k_rd
        have k_i := x62 _ _ k_i
        have hf := hf.tr hx0 (f62.wk (by decide +kernel))
        have hx0 := hx0.tr x62
        have hG : 152 ≤ G62.2 := hH.1
        obtain rfl : c62 = 0 := Nat.le_zero.mp cl62
        obtain rfl : s62 = 0 := Nat.le_zero.mp sl62
        obtain ⟨n62, hn62, rfl⟩ := hi_nat hv62
        show et_go none _ 72 65 _ [.int (Int32.ofNat n62)] _ 0 _ _
        refine hs_br1 (c := .eq) (t := 71) (f := 68) (by decide +kernel) (fun (c65 : Int32.ofNat n62 = 0) => ?_) (fun (c65 : ¬ (Int32.ofNat n62 = 0)) => ?_)
        · refine hs_iinc1 (i := 4) (p := 74) (by decide +kernel) rfl (Nat.le_of_ble_eq_true rfl) ?_
          refine hs_goto (p := 19) (by decide +kernel) ?_
          show et_go none (d + 7) 72 19 [some (.ref rd), some (.int (Int32.ofNat b)), some (.int e), some (.int pl), some (.int (Int32.ofNat (i + 1))), some (.ref i)] [] _ 0 0 _
          exact ih (36 - (i + 1)) (by omega) hH hx0 hf k_rd (by omega) rfl
        · refine hs_aload (i := 5) (p := 70) (by decide +kernel) rfl ?_
          refine hs_aret (cn := "KnobEye$Word") (by decide +kernel) ?_
          exact ⟨_, List.mem_cons_self, _, hx0, hf, hH, ⟨_, rfl, .inr ⟨by decide, _, rfl, k_i⟩⟩, Nat.le_refl _, Nat.le_refl _⟩
      · refine hs_aload (i := 5) (p := 47) (by decide +kernel) rfl ?_
        refine ht_getn (T := et_TT) (t := 0) (ci := 12) (f := 2) (p := 50) (by decide +kernel) rfl rfl hH k_i (fun c47 h47 e47 => ?_)
        refine hs_k (x := Int32.ofNat 3) (p := 51) (by decide +kernel) ?_
        refine hs_br2n (c := .ne) (t := 71) (f := 54) (by decide +kernel) (by omega) (by omega) (fun (c51 : ¬ c47 = 3) => ?_) (fun (c51 : ¬ (¬ c47 = 3)) => ?_)
        · refine hs_iinc1 (i := 4) (p := 74) (by decide +kernel) rfl (Nat.le_of_ble_eq_true rfl) ?_
          refine hs_goto (p := 19) (by decide +kernel) ?_
          show et_go none (d + 7) 72 19 [some (.ref rd), some (.int (Int32.ofNat b)), some (.int e), some (.int pl), some (.int (Int32.ofNat (i + 1))), some (.ref i)] [] _ 0 0 _
          exact ih (36 - (i + 1)) (by omega) hH hx0 hf k_rd (by omega) rfl
        · refine hs_aload (i := 0) (p := 55) (by decide +kernel) rfl ?_
          refine hs_aload (i := 5) (p := 57) (by decide +kernel) rfl ?_
          refine hs_get (ci := 12) (f := 1) (p := 60) (by decide +kernel) (hw_at h36) (by omega) rfl ?_
          refine hs_iload (i := 1) (p := 61) (by decide +kernel) rfl ?_
          refine hs_iload (i := 2) (p := 62) (by decide +kernel) rfl ?_
          refine ht_callv (T := et_TT) (t := 7) (mi := 73) (na := 3) (ci := 5) (lk := 6) (lm := 5) (L0 := eg_en (eg_mL 73) [.ref rd, .ref (36 + (eg_wf.getD i (0, 0, 0)).1), .int (Int32.ofNat b), .int e]) (by decide +kernel) rfl hH k_rd rfl rfl rfl rfl rfl (by rw [show eg_mL 73 = 5 from by decide +kernel]; first | done | rfl) ?_
          refine (hc_isText (w := (K, [], G)) (e := e) hH k_rd (hw_j i (List.mem_range.mpr h36)) (by omega) (d2 := d + 6) (by omega)).mono (fun u hu => hs_cbv hu (fun v62 K62 G62 c62 s62 x62 f62 hH hv62 cl62 sl62 => ?_))
          have k_rd := x62 _ _ k_rd
          have k_i := x62 _ _ k_i
          have hf := hf.tr hx0 (f62.wk (by decide +kernel))
          have hx0 := hx0.tr x62
          have hG : 152 ≤ G62.2 := hH.1
          obtain rfl : c62 = 0 := Nat.le_zero.mp cl62
          obtain rfl : s62 = 0 := Nat.le_zero.mp sl62
          obtain ⟨n62, hn62, rfl⟩ := hi_nat hv62
          show et_go none _ 72 65 _ [.int (Int32.ofNat n62)] _ 0 _ _
          refine hs_br1 (c := .eq) (t := 71) (f := 68) (by decide +kernel) (fun (c65 : Int32.ofNat n62 = 0) => ?_) (fun (c65 : ¬ (Int32.ofNat n62 = 0)) => ?_)
          · refine hs_iinc1 (i := 4) (p := 74) (by decide +kernel) rfl (Nat.le_of_ble_eq_true rfl) ?_
            refine hs_goto (p := 19) (by decide +kernel) ?_
            show et_go none (d + 7) 72 19 [some (.ref rd), some (.int (Int32.ofNat b)), some (.int e), some (.int pl), some (.int (Int32.ofNat (i + 1))), some (.ref i)] [] _ 0 0 _
            exact ih (36 - (i + 1)) (by omega) hH hx0 hf k_rd (by omega) rfl
          · refine hs_aload (i := 5) (p := 70) (by decide +kernel) rfl ?_
            refine hs_aret (cn := "KnobEye$Word") (by decide +kernel) ?_
            exact ⟨_, List.mem_cons_self, _, hx0, hf, hH, ⟨_, rfl, .inr ⟨by decide, _, rfl, k_i⟩⟩, Nat.le_refl _, Nat.le_refl _⟩
theorem hc_wordOf : et_cv et_TT hq_word := by
  intro w as d2 hH hd hl hv
  obtain ⟨v, v1, v2, v3, rfl⟩ := hi_len4 (show as.length = 4 from hl)
  obtain ⟨rd, rfl, k_rd⟩ := hi_ref (hv 0 _ _ rfl rfl)
  obtain ⟨b, hb, rfl⟩ := hi_nat (hv 1 _ _ rfl rfl)
  obtain ⟨e, rfl, -, -⟩ := hi_int (hv 2 _ _ rfl rfl)
  obtain ⟨pl, rfl, -, -⟩ := hi_int (hv 3 _ _ rfl rfl)
  obtain ⟨d, rfl⟩ : ∃ d, d2 = d + 7 := ⟨d2 - 7, by have : 7 ≤ d2 := hd; omega⟩
  have hG : 152 ≤ w.2.2.2 := hH.1
  have hx0 : et_ex w.1 w.1 := et_ex.rf
  have hf : et_fr [] w.1 w.2.2 w.2.2 := et_fr.rf
  rw [show eg_mL 72 = 6 from by decide +kernel]
  show et_go none (d + 7) 72 0 [some (.ref rd), some (.int (Int32.ofNat b)), some (.int e), some (.int pl), none, none] [] w.2.2 0 0 (hi_Z et_TT w [] [(.inl (some (.inr (.inr (0, 0)))), 0, 0)])
  refine hs_aload (i := 0) (p := 1) (by decide +kernel) rfl ?_
  refine ht_getr (T := et_TT) (t := 7) (ci := 5) (f := 0) (p := 4) (by decide +kernel) rfl rfl hH k_rd (fun a1 k_a1 e1 => ?_)
  refine hs_iload (i := 1) (p := 5) (by decide +kernel) rfl ?_
  refine ht_cld (T := et_TT) (t := 33) (N := 400) (p := 6) (by decide +kernel) rfl hH k_a1 (by omega) (by decide) (fun x5 => ?_)
  refine hs_calls (mi := 70) (na := 1) (lk := 6) (lm := 1) (L0 := eg_en (eg_mL 70) [.int x5]) (by decide +kernel) rfl rfl rfl rfl rfl rfl (by rw [show eg_mL 70 = 1 from by decide +kernel]; first | done | rfl) ?_
  refine (hc_dig (w.1, [], w.2.2) [.int x5] _ hH (by omega) rfl (ht_ac hi_any ht_an)).mono (fun u hu => hs_cbv hu (fun v6 K6 G6 c6 s6 x6 f6 hH hv6 cl6 sl6 => ?_))
  have k_rd := x6 _ _ k_rd
  have k_a1 := x6 _ _ k_a1
  have hf := hf.tr hx0 (f6.wk (by decide +kernel))
  have hx0 := hx0.tr x6
  have hG : 152 ≤ G6.2 := hH.1
  obtain rfl : c6 = 0 := Nat.le_zero.mp cl6
  obtain rfl : s6 = 0 := Nat.le_zero.mp sl6
  obtain ⟨n6, hn6, rfl⟩ := hi_nat hv6
  show et_go none _ 72 9 _ [.int (Int32.ofNat n6)] _ 0 _ _
  refine hs_br1 (c := .eq) (t := 16) (f := 12) (by decide +kernel) (fun (c9 : Int32.ofNat n6 = 0) => ?_) (fun (c9 : ¬ (Int32.ofNat n6 = 0)) => ?_)
  · refine hs_k (x := Int32.ofNat 0) (p := 17) (by decide +kernel) ?_
    refine hs_istore (i := 4) (p := 19) (by decide +kernel) (Nat.le_of_ble_eq_true rfl) ?_
    show et_go none (d + 7) 72 19 [some (.ref rd), some (.int (Int32.ofNat b)), some (.int e), some (.int pl), some (.int (Int32.ofNat 0)), none] [] _ 0 0 _
    exact hn_wo hH hx0 hf k_rd (by omega) (Nat.zero_le _)
  · refine hs_gst (v := Value.ref 33) (p := 15) (by decide +kernel) ?_
    refine hs_aret (cn := "KnobEye$Word") (by decide +kernel) ?_
    exact ⟨_, List.mem_cons_self, _, hx0, hf, hH, ⟨_, rfl, .inr ⟨by decide, _, rfl, (hH.2.1 _ (by decide))⟩⟩, Nat.le_refl _, Nat.le_refl _⟩
end RWO
end
section
/-! BY HAND: Reader.wordHere -/
theorem hs_aretN {d k pc ck sk : Nat} {L : eg_Ls} {G : eg_G} {Z : eg_O → Prop} {cn : String} (hc : eg_cd k pc = some (.areturn, 1) ∧ eg_mr k = some (.object cn)) (h : Z (.inl (some .null), G, ck, sk)) : et_go none d k pc L [.null] G ck sk Z := by
  refine et_goR (u := (.inl (some .null), G, ck, sk)) (fun q => ?_) h
  unfold eg_one
  rw [hc.1]
  dsimp only
  rw [hc.2]
  rfl
theorem hs_nul {d k pc ck sk p : Nat} {L : eg_Ls} {st : List Value} {G : eg_G} {Z : eg_O → Prop} (hc : hs_o k pc = some (.aconst_null, p)) (h : et_go none d k p L (.null :: st) G ck sk Z) : et_go none d k pc L st G ck sk Z := by
  obtain ⟨e, rfl⟩ := hs_oc hc
  exact hs_st e rfl rfl h
def hq_here : et_Co := (79, [.inr (.inr (0, 7)), .inl (et_mn, et_mx)], [], [(.inl (some (.inr (.inr (1, 0)))), 0, 0)], 1)
section RWH
variable {w : et_Wd} {d rd : Nat} {kd : Int32}
theorem hc_here : et_cv et_TT hq_here := by
  intro w as d2 hH hd hl hv
  obtain ⟨v, v1, rfl⟩ := hi_len2 (show as.length = 2 from hl)
  obtain ⟨rd, rfl, k_rd⟩ := hi_ref (hv 0 _ _ rfl rfl)
  obtain ⟨kd, rfl, -, -⟩ := hi_int (hv 1 _ _ rfl rfl)
  rw [show eg_mL 79 = 2 from by decide +kernel]
  show et_go none d2 79 0 [some (.ref rd), some (.int kd)] [] w.2.2 0 0 (hi_Z et_TT w [] [(.inl (some (.inr (.inr (1, 0)))), 0, 0)])
  refine hs_aload (i := 0) (p := 1) (by decide +kernel) rfl ?_
  refine ht_getn (T := et_TT) (t := 7) (ci := 5) (f := 8) (p := 4) (by decide +kernel) rfl rfl hH k_rd (fun c1 h1 e1 => ?_)
  refine hs_aload (i := 0) (p := 5) (by decide +kernel) rfl ?_
  refine ht_getn (T := et_TT) (t := 7) (ci := 5) (f := 7) (p := 8) (by decide +kernel) rfl rfl hH k_rd (fun c5 h5 e5 => ?_)
  refine hs_br2n (c := .ge) (t := 51) (f := 11) (by decide +kernel) (by omega) (by omega) (fun (c8 : c5 ≤ c1) => ?_) (fun (c8 : ¬ (c5 ≤ c1)) => ?_)
  · refine hs_nul (p := 52) (by decide +kernel) ?_
    refine hs_aretN (cn := "KnobEye$Word") (by decide +kernel) ?_
    exact ⟨_, List.mem_cons_self, _, et_ex.rf, et_fr.rf, hH, ⟨_, rfl, .inl ⟨by decide, rfl⟩⟩, Nat.le_refl _, Nat.le_refl _⟩
  · refine hs_aload (i := 0) (p := 12) (by decide +kernel) rfl ?_
    refine ht_getr (T := et_TT) (t := 7) (ci := 5) (f := 4) (p := 15) (by decide +kernel) rfl rfl hH k_rd (fun a12 k_a12 e12 => ?_)
    refine hs_aload (i := 0) (p := 16) (by decide +kernel) rfl ?_
    refine ht_getn (T := et_TT) (t := 7) (ci := 5) (f := 8) (p := 19) (by decide +kernel) rfl rfl hH k_rd (fun c16 h16 e16 => ?_)
    have q16 : c16 = c1 := hb_cc e16 e1 (by omega) (by omega)
    refine ht_aald (T := et_TT) (t := 41) (N := 401) (kd := 9) (m := 400) (p := 20) (by decide +kernel) rfl rfl hH k_a12 (by omega) (by omega) (by decide) (fun v19 h19 e19 => ?_)
    rcases hi_q h19 with rfl | ⟨a19, rfl, k_a19⟩
    · refine hs_ifnull0 (p := 51) (by decide +kernel) ?_
      refine hs_nul (p := 52) (by decide +kernel) ?_
      refine hs_aretN (cn := "KnobEye$Word") (by decide +kernel) ?_
      exact ⟨_, List.mem_cons_self, _, et_ex.rf, et_fr.rf, hH, ⟨_, rfl, .inl ⟨by decide, rfl⟩⟩, Nat.le_refl _, Nat.le_refl _⟩
    · refine hs_ifnull1 (p := 23) (by decide +kernel) ?_
      refine hs_aload (i := 0) (p := 24) (by decide +kernel) rfl ?_
      refine ht_getr (T := et_TT) (t := 7) (ci := 5) (f := 4) (p := 27) (by decide +kernel) rfl rfl hH k_rd (fun a24 k_a24 e24 => ?_)
      refine hs_aload (i := 0) (p := 28) (by decide +kernel) rfl ?_
      refine ht_getn (T := et_TT) (t := 7) (ci := 5) (f := 8) (p := 31) (by decide +kernel) rfl rfl hH k_rd (fun c28 h28 e28 => ?_)
      have q28 : c28 = c1 := hb_cc e28 e1 (by omega) (by omega)
      refine ht_aald (T := et_TT) (t := 41) (N := 401) (kd := 9) (m := 400) (p := 32) (by decide +kernel) rfl rfl hH k_a24 (by omega) (by omega) (by decide) (fun v31 h31 e31 => ?_)
      have q24 : a24 = a12 := Value.ref.inj (Option.some.inj (e24.symm.trans e12))
      have q28 : c28 = c16 := hb_cc e28 e16 (by omega) (by omega)
      rw [q24, q28] at e31
      obtain rfl : v31 = .ref a19 := Option.some.inj (e31.symm.trans e19)
      refine ht_getn (T := et_TT) (t := 0) (ci := 12) (f := 3) (p := 35) (by decide +kernel) rfl rfl hH k_a19 (fun c32 h32 e32 => ?_)
      refine hs_iload (i := 1) (p := 36) (by decide +kernel) rfl ?_
      refine hs_br2 (c := .ne) (t := 51) (f := 39) (by decide +kernel) (fun (c36 : ¬ Int32.ofNat c32 = kd) => ?_) (fun (c36 : ¬ (¬ Int32.ofNat c32 = kd)) => ?_)
      · refine hs_nul (p := 52) (by decide +kernel) ?_
        refine hs_aretN (cn := "KnobEye$Word") (by decide +kernel) ?_
        exact ⟨_, List.mem_cons_self, _, et_ex.rf, et_fr.rf, hH, ⟨_, rfl, .inl ⟨by decide, rfl⟩⟩, Nat.le_refl _, Nat.le_refl _⟩
      · refine hs_aload (i := 0) (p := 40) (by decide +kernel) rfl ?_
        refine ht_getr (T := et_TT) (t := 7) (ci := 5) (f := 4) (p := 43) (by decide +kernel) rfl rfl hH k_rd (fun a40 k_a40 e40 => ?_)
        refine hs_aload (i := 0) (p := 44) (by decide +kernel) rfl ?_
        refine ht_getn (T := et_TT) (t := 7) (ci := 5) (f := 8) (p := 47) (by decide +kernel) rfl rfl hH k_rd (fun c44 h44 e44 => ?_)
        have q44 : c44 = c1 := hb_cc e44 e1 (by omega) (by omega)
        refine ht_aald (T := et_TT) (t := 41) (N := 401) (kd := 9) (m := 400) (p := 48) (by decide +kernel) rfl rfl hH k_a40 (by omega) (by omega) (by decide) (fun v47 h47 e47 => ?_)
        rcases hi_q h47 with rfl | ⟨a47, rfl, k_a47⟩
        · refine hs_goto (p := 52) (by decide +kernel) ?_
          refine hs_aretN (cn := "KnobEye$Word") (by decide +kernel) ?_
          exact ⟨_, List.mem_cons_self, _, et_ex.rf, et_fr.rf, hH, ⟨_, rfl, .inl ⟨by decide, rfl⟩⟩, Nat.le_refl _, Nat.le_refl _⟩
        · refine hs_goto (p := 52) (by decide +kernel) ?_
          refine hs_aret (cn := "KnobEye$Word") (by decide +kernel) ?_
          exact ⟨_, List.mem_cons_self, _, et_ex.rf, et_fr.rf, hH, ⟨_, rfl, .inr ⟨by decide, _, rfl, k_a47⟩⟩, Nat.le_refl _, Nat.le_refl _⟩
end RWH
end
section
/-! BY HAND: a word into the things -/
theorem ht_aast {K : et_K} {d k pc ck sk a b n p : Nat} {L : eg_Ls} {r : List Value} {G : eg_G} {Z : eg_O → Prop} {M : et_M} (hc : hs_o k pc = some (.aastore, p)) (hH : et_H et_TT K G) (ha : K a = some 41) (hn : n < 401) (hb : K b = some 0) (hM : et_mm M 41 n = true) (h : ∀ G', et_H et_TT K G' → et_fr M K G G' → et_go none d k p L r G' ck sk Z) : et_go none d k pc L (.ref b :: .int (Int32.ofNat n) :: .ref a :: r) G ck sk Z := by
  obtain ⟨g1, -, g3, dd, hd, hcell, hcx⟩ := hH.2.2 a 41 ha
  cases hd
  obtain ⟨⟨N, y⟩, e, ey, er, es⟩ := hcell
  obtain rfl : N = 401 := ey
  obtain ⟨v0, hv0⟩ := er 0 (by decide)
  obtain ⟨f, rfl⟩ : ∃ f, y = .inr (.inr (.inr (.inr f))) := by
    rcases y with g | g | g | g | f
    · exact absurd (show none = some v0 from hv0) (fun h => nomatch h)
    · exact absurd (show none = some v0 from hv0) (fun h => nomatch h)
    · exact absurd (show none = some v0 from hv0) (fun h => nomatch h)
    · exact absurd (show none = some v0 from hv0) (fun h => nomatch h)
    · exact ⟨f, rfl⟩
  obtain ⟨q1, -, -, dd, hd, hcb, -⟩ := hH.2.2 b 0 hb
  cases hd
  obtain ⟨fs, eb, -, -⟩ := hcb
  have h3 := hs_nint (a := n) (by omega)
  obtain ⟨e0, rfl⟩ := hs_oc hc
  have hrd : ∀ i, eg_rd 9 (401, .inr (.inr (.inr (.inr (va_up f n (some b)))))) i = if i = n then some (.ref b) else eg_rd 9 (401, .inr (.inr (.inr (.inr f)))) i := fun i => by
    unfold eg_rd
    dsimp only
    rw [if_pos (by decide)]
    unfold va_up
    split <;> rfl
  refine hs_st e0 rfl (?_ : _ = some (pc + 1, L, r, eg_u G a (.inl (9, (401, .inr (.inr (.inr (.inr (va_up f n (some b)))))))), ck, sk)) (h _ (et_H_u hH ha (by decide) rfl ⟨_, rfl, rfl, fun i hi => ?_, fun s hs i i1 i2 i3 => ?_⟩ (fun e1 => absurd e1 (by decide))) (hi_frM hH ha (by decide) (fun i hi => ?_)))
  · show eg_aw .aastore pc L (.ref b :: .int (Int32.ofNat n) :: .ref a :: r) G ck sk = _
    unfold eg_aw
    dsimp only
    rw [e]
    dsimp only
    rw [if_pos ⟨g3 (by decide), g1, by decide, by omega, by show (Int32.ofNat n).toInt < (401 : Int); omega⟩, hs_nnat (by omega)]
    unfold eg_wr
    dsimp only
    rw [if_pos ⟨q1, by decide, by decide, by rw [eb]; rfl⟩]
  · rw [hrd]
    by_cases ei : i = n
    · exact ⟨_, if_pos ei⟩
    · rw [if_neg ei]
      exact er i hi
  · rw [hrd]
    by_cases ei : i = n
    · obtain rfl := List.mem_singleton.mp hs
      exact ⟨_, if_pos ei, .inr ⟨by decide, _, rfl, hb⟩⟩
    · rw [if_neg ei]
      exact es s hs i i1 i2 i3
  · rw [e]
    have ei : i ≠ n := fun h => by
      rw [h, hM] at hi
      cases hi
    show (if i < 401 then eg_rd 9 _ i else none) = (if i < 401 then eg_rd 9 _ i else none)
    rw [hrd, if_neg ei]

theorem hb_mm {t n : Nat} (h : n ≤ 100000) : et_mm [(t, 0, 100000)] t n = true := by
  unfold et_mm
  simp
  omega
def sp_M : et_M := [(7, 1, 1), (7, 2, 2), (7, 3, 3), (7, 7, 7), (7, 8, 8), (21, 0, 100000), (41, 0, 100000)]
def hq_split : et_Co := (67, [.inr (.inr (0, 7)), .inl (et_mn, et_mx)], sp_M, [(.inl none, 0, 0)], 8)
section RSP
variable {w : et_Wd} {K : et_K} {G : eg_G} {d rd : Nat} {pl : Int32}
theorem hn_sp {c i : Nat} {x3 : Option Value} (hH : et_H et_TT K G) (hx0 : et_ex w.1 K) (hf : et_fr sp_M w.1 w.2.2 G) (k_rd : K rd = some 7) (hc7 : et_pl (eg_at G rd) 7 = some (.int (Int32.ofNat c))) (hc : c ≤ 400) (hi : i ≤ 400) : et_go none (d + 8) 67 22 [some (.ref rd), some (.int pl), some (.int (Int32.ofNat i)), x3] [] G 0 0 (hi_Z et_TT w sp_M [(.inl none, 0, 0)]) := by
  induction hm : 400 - i using Nat.strongRecOn generalizing i c x3 K G with
  | _ z ih =>
    refine hs_iload (i := 2) (p := 23) (by decide +kernel) rfl ?_
    refine hs_aload (i := 0) (p := 24) (by decide +kernel) rfl ?_
    refine ht_getn (T := et_TT) (t := 7) (ci := 5) (f := 1) (p := 27) (by decide +kernel) rfl rfl hH k_rd (fun c24 h24 e24 => ?_)
    refine hs_br2n (c := .ge) (t := 122) (f := 30) (by decide +kernel) (by omega) (by omega) (fun (c27 : c24 ≤ i) => ?_) (fun (c27 : ¬ (c24 ≤ i)) => ?_)
    · refine hs_aload (i := 0) (p := 123) (by decide +kernel) rfl ?_
      refine ht_getr (T := et_TT) (t := 7) (ci := 5) (f := 4) (p := 126) (by decide +kernel) rfl rfl hH k_rd (fun a123 k_a123 e123 => ?_)
      refine hs_aload (i := 0) (p := 127) (by decide +kernel) rfl ?_
      refine ht_getn (T := et_TT) (t := 7) (ci := 5) (f := 7) (p := 130) (by decide +kernel) rfl rfl hH k_rd (fun c127 h127 e127 => ?_)
      have q127 : c127 = c := hb_cc e127 hc7 (by omega) (by omega)
      refine hs_gst (v := Value.ref 34) (p := 133) (by decide +kernel) ?_
      refine ht_aast (M := [(41, 0, 100000)]) (p := 134) (by decide +kernel) hH k_a123 (by omega) (hH.2.1 _ (by decide)) (hb_mm (by omega)) (fun G133 hH f133 => ?_)
      have hf := hf.tr hx0 (f133.wk (by decide +kernel))
      have hc7 := (f133.2 rd 7 k_rd 7 rfl).trans hc7
      refine hs_aload (i := 0) (p := 135) (by decide +kernel) rfl ?_
      refine ht_getr (T := et_TT) (t := 7) (ci := 5) (f := 5) (p := 138) (by decide +kernel) rfl rfl hH k_rd (fun a135 k_a135 e135 => ?_)
      refine hs_aload (i := 0) (p := 139) (by decide +kernel) rfl ?_
      refine ht_getn (T := et_TT) (t := 7) (ci := 5) (f := 7) (p := 142) (by decide +kernel) rfl rfl hH k_rd (fun c139 h139 e139 => ?_)
      have q139 : c139 = c := hb_cc e139 hc7 (by omega) (by omega)
      refine hs_aload (i := 0) (p := 143) (by decide +kernel) rfl ?_
      refine ht_getn (T := et_TT) (t := 7) (ci := 5) (f := 1) (p := 146) (by decide +kernel) rfl rfl hH k_rd (fun c143 h143 e143 => ?_)
      refine ht_ist (M := [(21, 0, 100000)]) (T := et_TT) (t := 21) (N := 401) (p := 147) (by decide +kernel) rfl rfl (by decide) hH k_a135 (by omega) (by decide) (fun s hs => absurd hs List.not_mem_nil) (hb_mm (by omega)) (fun G146 hH f146 => ?_)
      have hf := hf.tr hx0 (f146.wk (by decide +kernel))
      have hc7 := (f146.2 rd 7 k_rd 7 rfl).trans hc7
      refine hs_aload (i := 0) (p := 148) (by decide +kernel) rfl ?_
      refine hs_dup1 (p := 149) (by decide +kernel) ?_
      refine ht_getn (T := et_TT) (t := 7) (ci := 5) (f := 7) (p := 152) (by decide +kernel) rfl rfl hH k_rd (fun c149 h149 e149 => ?_)
      have q149 : c149 = c := hb_cc e149 hc7 (by omega) (by omega)
      refine hs_k (x := Int32.ofNat 1) (p := 153) (by decide +kernel) ?_
      refine hs_iaddn (p := 154) (by decide +kernel) ?_
      refine ht_put (M := [(7, 7, 7)]) (T := et_TT) (t := 7) (ci := 5) (f := 7) (p := 157) (ty := .int) (by decide +kernel) rfl rfl rfl rfl rfl (by decide +kernel) hH k_rd (hi_nv (by omega) (by omega)) (fun G154 hH f154 e154 => ?_)
      have hf := hf.tr hx0 (f154.wk (by decide +kernel))
      have hc7 := e154
      refine hs_aload (i := 0) (p := 158) (by decide +kernel) rfl ?_
      refine hs_k (x := Int32.ofNat 0) (p := 159) (by decide +kernel) ?_
      refine ht_put (M := [(7, 1, 1)]) (T := et_TT) (t := 7) (ci := 5) (f := 1) (p := 162) (ty := .int) (by decide +kernel) rfl rfl rfl rfl rfl (by decide +kernel) hH k_rd (hi_nv (by omega) (by omega)) (fun G159 hH f159 e159 => ?_)
      have hf := hf.tr hx0 (f159.wk (by decide +kernel))
      have hc7 := (f159.2 rd 7 k_rd 7 rfl).trans hc7
      refine hs_vret (by decide +kernel) ?_
      exact ⟨_, List.mem_cons_self, _, hx0, hf, hH, rfl, Nat.le_refl _, Nat.le_refl _⟩
    · refine hs_aload (i := 0) (p := 31) (by decide +kernel) rfl ?_
      refine ht_getn (T := et_TT) (t := 7) (ci := 5) (f := 7) (p := 34) (by decide +kernel) rfl rfl hH k_rd (fun c31 h31 e31 => ?_)
      have q31 : c31 = c := hb_cc e31 hc7 (by omega) (by omega)
      refine hs_k (x := Int32.ofNat 400) (p := 37) (by decide +kernel) ?_
      refine hs_br2n (c := .ge) (t := 122) (f := 40) (by decide +kernel) (by omega) (by omega) (fun (c37 : 400 ≤ c31) => ?_) (fun (c37 : ¬ (400 ≤ c31)) => ?_)
      · refine hs_aload (i := 0) (p := 123) (by decide +kernel) rfl ?_
        refine ht_getr (T := et_TT) (t := 7) (ci := 5) (f := 4) (p := 126) (by decide +kernel) rfl rfl hH k_rd (fun a123 k_a123 e123 => ?_)
        refine hs_aload (i := 0) (p := 127) (by decide +kernel) rfl ?_
        refine ht_getn (T := et_TT) (t := 7) (ci := 5) (f := 7) (p := 130) (by decide +kernel) rfl rfl hH k_rd (fun c127 h127 e127 => ?_)
        have q127 : c127 = c := hb_cc e127 hc7 (by omega) (by omega)
        refine hs_gst (v := Value.ref 34) (p := 133) (by decide +kernel) ?_
        refine ht_aast (M := [(41, 0, 100000)]) (p := 134) (by decide +kernel) hH k_a123 (by omega) (hH.2.1 _ (by decide)) (hb_mm (by omega)) (fun G133 hH f133 => ?_)
        have hf := hf.tr hx0 (f133.wk (by decide +kernel))
        have hc7 := (f133.2 rd 7 k_rd 7 rfl).trans hc7
        refine hs_aload (i := 0) (p := 135) (by decide +kernel) rfl ?_
        refine ht_getr (T := et_TT) (t := 7) (ci := 5) (f := 5) (p := 138) (by decide +kernel) rfl rfl hH k_rd (fun a135 k_a135 e135 => ?_)
        refine hs_aload (i := 0) (p := 139) (by decide +kernel) rfl ?_
        refine ht_getn (T := et_TT) (t := 7) (ci := 5) (f := 7) (p := 142) (by decide +kernel) rfl rfl hH k_rd (fun c139 h139 e139 => ?_)
        have q139 : c139 = c := hb_cc e139 hc7 (by omega) (by omega)
        refine hs_aload (i := 0) (p := 143) (by decide +kernel) rfl ?_
        refine ht_getn (T := et_TT) (t := 7) (ci := 5) (f := 1) (p := 146) (by decide +kernel) rfl rfl hH k_rd (fun c143 h143 e143 => ?_)
        refine ht_ist (M := [(21, 0, 100000)]) (T := et_TT) (t := 21) (N := 401) (p := 147) (by decide +kernel) rfl rfl (by decide) hH k_a135 (by omega) (by decide) (fun s hs => absurd hs List.not_mem_nil) (hb_mm (by omega)) (fun G146 hH f146 => ?_)
        have hf := hf.tr hx0 (f146.wk (by decide +kernel))
        have hc7 := (f146.2 rd 7 k_rd 7 rfl).trans hc7
        refine hs_aload (i := 0) (p := 148) (by decide +kernel) rfl ?_
        refine hs_dup1 (p := 149) (by decide +kernel) ?_
        refine ht_getn (T := et_TT) (t := 7) (ci := 5) (f := 7) (p := 152) (by decide +kernel) rfl rfl hH k_rd (fun c149 h149 e149 => ?_)
        have q149 : c149 = c := hb_cc e149 hc7 (by omega) (by omega)
        refine hs_k (x := Int32.ofNat 1) (p := 153) (by decide +kernel) ?_
        refine hs_iaddn (p := 154) (by decide +kernel) ?_
        refine ht_put (M := [(7, 7, 7)]) (T := et_TT) (t := 7) (ci := 5) (f := 7) (p := 157) (ty := .int) (by decide +kernel) rfl rfl rfl rfl rfl (by decide +kernel) hH k_rd (hi_nv (by omega) (by omega)) (fun G154 hH f154 e154 => ?_)
        have hf := hf.tr hx0 (f154.wk (by decide +kernel))
        have hc7 := e154
        refine hs_aload (i := 0) (p := 158) (by decide +kernel) rfl ?_
        refine hs_k (x := Int32.ofNat 0) (p := 159) (by decide +kernel) ?_
        refine ht_put (M := [(7, 1, 1)]) (T := et_TT) (t := 7) (ci := 5) (f := 1) (p := 162) (ty := .int) (by decide +kernel) rfl rfl rfl rfl rfl (by decide +kernel) hH k_rd (hi_nv (by omega) (by omega)) (fun G159 hH f159 e159 => ?_)
        have hf := hf.tr hx0 (f159.wk (by decide +kernel))
        have hc7 := (f159.2 rd 7 k_rd 7 rfl).trans hc7
        refine hs_vret (by decide +kernel) ?_
        exact ⟨_, List.mem_cons_self, _, hx0, hf, hH, rfl, Nat.le_refl _, Nat.le_refl _⟩
      · refine hs_aload (i := 0) (p := 41) (by decide +kernel) rfl ?_
        refine ht_getr (T := et_TT) (t := 7) (ci := 5) (f := 0) (p := 44) (by decide +kernel) rfl rfl hH k_rd (fun a41 k_a41 e41 => ?_)
        refine hs_iload (i := 2) (p := 45) (by decide +kernel) rfl ?_
        refine ht_cld (T := et_TT) (t := 33) (N := 400) (p := 46) (by decide +kernel) rfl hH k_a41 (by omega) (by decide) (fun x45 => ?_)
        refine hs_k (x := Int32.ofNat 32) (p := 48) (by decide +kernel) ?_
        refine hs_br2 (c := .eq) (t := 116) (f := 51) (by decide +kernel) (fun (c48 : x45 = Int32.ofNat 32) => ?_) (fun (c48 : ¬ (x45 = Int32.ofNat 32)) => ?_)
        · refine hs_iinc1 (i := 2) (p := 119) (by decide +kernel) rfl (Nat.le_of_ble_eq_true rfl) ?_
          refine hs_goto (p := 22) (by decide +kernel) ?_
          show et_go none (d + 8) 67 22 [some (.ref rd), some (.int pl), some (.int (Int32.ofNat (i + 1))), x3] [] _ 0 0 _
          exact ih (400 - (i + 1)) (by omega) hH hx0 hf k_rd hc7 (by omega) (by omega) rfl
        · refine hs_aload (i := 0) (p := 52) (by decide +kernel) rfl ?_
          refine hs_iload (i := 2) (p := 53) (by decide +kernel) rfl ?_
          have o_rd := k_rd
          refine ht_callv (T := et_TT) (t := 7) (mi := 68) (na := 1) (ci := 5) (lk := 4) (lm := 2) (L0 := eg_en (eg_mL 68) [.ref rd, .int (Int32.ofNat i)]) (by decide +kernel) rfl hH k_rd rfl rfl rfl rfl rfl (by rw [show eg_mL 68 = 2 from by decide +kernel]; first | done | rfl) ?_
          refine (ep_c1 (K, [], G) [.ref rd, .int (Int32.ofNat i)] _ hH (by omega) rfl (ht_ac (.inr ⟨by decide, _, rfl, k_rd⟩) (ht_ac hi_any ht_an))).mono (fun u hu => hs_cbv hu (fun v53 K53 G53 c53 s53 x53 f53 hH hv53 cl53 sl53 => ?_))
          have k_rd := x53 _ _ k_rd
          have k_a41 := x53 _ _ k_a41
          have hf := hf.tr hx0 (f53.wk (by decide +kernel))
          have hx0 := hx0.tr x53
          have hc7 := (f53.2 rd 7 o_rd 7 rfl).trans hc7
          obtain rfl : c53 = 0 := Nat.le_zero.mp cl53
          obtain rfl : s53 = 0 := Nat.le_zero.mp sl53
          obtain ⟨n53, hn53, rfl⟩ := hi_nat hv53
          show et_go none _ 67 56 _ [.int (Int32.ofNat n53)] _ 0 _ _
          refine hs_br1 (c := .ne) (t := 116) (f := 59) (by decide +kernel) (fun (c56 : ¬ Int32.ofNat n53 = 0) => ?_) (fun (c56 : ¬ (¬ Int32.ofNat n53 = 0)) => ?_)
          · refine hs_iinc1 (i := 2) (p := 119) (by decide +kernel) rfl (Nat.le_of_ble_eq_true rfl) ?_
            refine hs_goto (p := 22) (by decide +kernel) ?_
            show et_go none (d + 8) 67 22 [some (.ref rd), some (.int pl), some (.int (Int32.ofNat (i + 1))), x3] [] _ 0 0 _
            exact ih (400 - (i + 1)) (by omega) hH hx0 hf k_rd hc7 (by omega) (by omega) rfl
          · refine hs_aload (i := 0) (p := 60) (by decide +kernel) rfl ?_
            refine hs_iload (i := 2) (p := 61) (by decide +kernel) rfl ?_
            have o_rd := k_rd
            refine ht_callv (T := et_TT) (t := 7) (mi := 71) (na := 1) (ci := 5) (lk := 4) (lm := 3) (L0 := eg_en (eg_mL 71) [.ref rd, .int (Int32.ofNat i)]) (by decide +kernel) rfl hH k_rd rfl rfl rfl rfl rfl (by rw [show eg_mL 71 = 3 from by decide +kernel]; first | done | rfl) ?_
            refine (ep_c2 (K53, [], G53) [.ref rd, .int (Int32.ofNat i)] _ hH (by omega) rfl (ht_ac (.inr ⟨by decide, _, rfl, k_rd⟩) (ht_ac (hi_nv (by omega) (by omega)) ht_an))).mono (fun u hu => hs_cbv hu (fun v61 K61 G61 c61 s61 x61 f61 hH hv61 cl61 sl61 => ?_))
            have k_rd := x61 _ _ k_rd
            have k_a41 := x61 _ _ k_a41
            have hf := hf.tr hx0 (f61.wk (by decide +kernel))
            have hx0 := hx0.tr x61
            have hc7 := (f61.2 rd 7 o_rd 7 rfl).trans hc7
            obtain rfl : c61 = 0 := Nat.le_zero.mp cl61
            obtain rfl : s61 = 0 := Nat.le_zero.mp sl61
            obtain ⟨n61, hn61, rfl⟩ := hi_nat hv61
            show et_go none _ 67 64 _ [.int (Int32.ofNat n61)] _ 0 _ _
            refine hs_istore (i := 3) (p := 65) (by decide +kernel) (Nat.le_of_ble_eq_true rfl) ?_
            refine hs_aload (i := 0) (p := 66) (by decide +kernel) rfl ?_
            refine ht_getr (T := et_TT) (t := 7) (ci := 5) (f := 4) (p := 69) (by decide +kernel) rfl rfl hH k_rd (fun a66 k_a66 e66 => ?_)
            refine hs_aload (i := 0) (p := 70) (by decide +kernel) rfl ?_
            refine ht_getn (T := et_TT) (t := 7) (ci := 5) (f := 7) (p := 73) (by decide +kernel) rfl rfl hH k_rd (fun c70 h70 e70 => ?_)
            have q70 : c70 = c := hb_cc e70 hc7 (by omega) (by omega)
            refine hs_aload (i := 0) (p := 74) (by decide +kernel) rfl ?_
            refine hs_iload (i := 2) (p := 75) (by decide +kernel) rfl ?_
            refine hs_iload (i := 3) (p := 76) (by decide +kernel) rfl ?_
            refine hs_iload (i := 1) (p := 77) (by decide +kernel) rfl ?_
            have o_rd := k_rd
            refine ht_callv (T := et_TT) (t := 7) (mi := 72) (na := 3) (ci := 5) (lk := 4) (lm := 6) (L0 := eg_en (eg_mL 72) [.ref rd, .int (Int32.ofNat i), .int (Int32.ofNat n61), .int pl]) (by decide +kernel) rfl hH k_rd rfl rfl rfl rfl rfl (by rw [show eg_mL 72 = 6 from by decide +kernel]; first | done | rfl) ?_
            refine (hc_wordOf (K61, [], G61) [.ref rd, .int (Int32.ofNat i), .int (Int32.ofNat n61), .int pl] _ hH (by omega) rfl (ht_ac (.inr ⟨by decide, _, rfl, k_rd⟩) (ht_ac (hi_nv (by omega) (by omega)) (ht_ac hi_any (ht_ac hi_any ht_an))))).mono (fun u hu => hs_cbv hu (fun v77 K77 G77 c77 s77 x77 f77 hH hv77 cl77 sl77 => ?_))
            have k_rd := x77 _ _ k_rd
            have k_a41 := x77 _ _ k_a41
            have k_a66 := x77 _ _ k_a66
            have hf := hf.tr hx0 (f77.wk (by decide +kernel))
            have hx0 := hx0.tr x77
            have hc7 := (f77.2 rd 7 o_rd 7 rfl).trans hc7
            obtain rfl : c77 = 0 := Nat.le_zero.mp cl77
            obtain rfl : s77 = 0 := Nat.le_zero.mp sl77
            obtain ⟨b77, rfl, k_b77⟩ := hi_ref hv77
            show et_go none _ 67 80 _ [.ref b77, .int (Int32.ofNat c70), .ref a66] _ 0 _ _
            refine ht_aast (M := [(41, 0, 100000)]) (p := 81) (by decide +kernel) hH k_a66 (by omega) k_b77 (hb_mm (by omega)) (fun G80 hH f80 => ?_)
            have hf := hf.tr hx0 (f80.wk (by decide +kernel))
            have hc7 := (f80.2 rd 7 k_rd 7 rfl).trans hc7
            refine hs_aload (i := 0) (p := 82) (by decide +kernel) rfl ?_
            refine ht_getr (T := et_TT) (t := 7) (ci := 5) (f := 5) (p := 85) (by decide +kernel) rfl rfl hH k_rd (fun a82 k_a82 e82 => ?_)
            refine hs_aload (i := 0) (p := 86) (by decide +kernel) rfl ?_
            refine ht_getn (T := et_TT) (t := 7) (ci := 5) (f := 7) (p := 89) (by decide +kernel) rfl rfl hH k_rd (fun c86 h86 e86 => ?_)
            have q86 : c86 = c := hb_cc e86 hc7 (by omega) (by omega)
            refine hs_iload (i := 2) (p := 90) (by decide +kernel) rfl ?_
            refine ht_ist (M := [(21, 0, 100000)]) (T := et_TT) (t := 21) (N := 401) (p := 91) (by decide +kernel) rfl rfl (by decide) hH k_a82 (by omega) (by decide) (fun s hs => absurd hs List.not_mem_nil) (hb_mm (by omega)) (fun G90 hH f90 => ?_)
            have hf := hf.tr hx0 (f90.wk (by decide +kernel))
            have hc7 := (f90.2 rd 7 k_rd 7 rfl).trans hc7
            refine hs_aload (i := 0) (p := 92) (by decide +kernel) rfl ?_
            refine ht_getr (T := et_TT) (t := 7) (ci := 5) (f := 6) (p := 95) (by decide +kernel) rfl rfl hH k_rd (fun a92 k_a92 e92 => ?_)
            refine hs_aload (i := 0) (p := 96) (by decide +kernel) rfl ?_
            refine ht_getn (T := et_TT) (t := 7) (ci := 5) (f := 7) (p := 99) (by decide +kernel) rfl rfl hH k_rd (fun c96 h96 e96 => ?_)
            have q96 : c96 = c := hb_cc e96 hc7 (by omega) (by omega)
            refine hs_aload (i := 0) (p := 100) (by decide +kernel) rfl ?_
            refine hs_iload (i := 2) (p := 101) (by decide +kernel) rfl ?_
            refine hs_iload (i := 3) (p := 102) (by decide +kernel) rfl ?_
            have o_rd := k_rd
            refine ht_callv (T := et_TT) (t := 7) (mi := 74) (na := 2) (ci := 5) (lk := 4) (lm := 5) (L0 := eg_en (eg_mL 74) [.ref rd, .int (Int32.ofNat i), .int (Int32.ofNat n61)]) (by decide +kernel) rfl hH k_rd rfl rfl rfl rfl rfl (by rw [show eg_mL 74 = 5 from by decide +kernel]; first | done | rfl) ?_
            refine (ep_c3 (K77, [], G90) [.ref rd, .int (Int32.ofNat i), .int (Int32.ofNat n61)] _ hH (by omega) rfl (ht_ac (.inr ⟨by decide, _, rfl, k_rd⟩) (ht_ac (hi_nv (by omega) (by omega)) (ht_ac (hi_nv (by omega) (by omega)) ht_an)))).mono (fun u hu => hs_cbv hu (fun v102 K102 G102 c102 s102 x102 f102 hH hv102 cl102 sl102 => ?_))
            have k_rd := x102 _ _ k_rd
            have k_a41 := x102 _ _ k_a41
            have k_a66 := x102 _ _ k_a66
            have k_b77 := x102 _ _ k_b77
            have k_a82 := x102 _ _ k_a82
            have k_a92 := x102 _ _ k_a92
            have hf := hf.tr hx0 (f102.wk (by decide +kernel))
            have hx0 := hx0.tr x102
            have hc7 := (f102.2 rd 7 o_rd 7 rfl).trans hc7
            obtain rfl : c102 = 0 := Nat.le_zero.mp cl102
            obtain rfl : s102 = 0 := Nat.le_zero.mp sl102
            obtain ⟨n102, rfl, hn102, hm102⟩ := hi_int hv102
            show et_go none _ 67 105 _ [.int n102, .int (Int32.ofNat c96), .ref a92] _ 0 _ _
            refine ht_ist (M := [(21, 0, 100000)]) (T := et_TT) (t := 21) (N := 401) (p := 106) (by decide +kernel) rfl rfl (by decide) hH k_a92 (by omega) (by decide) (fun s hs => absurd hs List.not_mem_nil) (hb_mm (by omega)) (fun G105 hH f105 => ?_)
            have hf := hf.tr hx0 (f105.wk (by decide +kernel))
            have hc7 := (f105.2 rd 7 k_rd 7 rfl).trans hc7
            refine hs_aload (i := 0) (p := 107) (by decide +kernel) rfl ?_
            refine hs_dup1 (p := 108) (by decide +kernel) ?_
            refine ht_getn (T := et_TT) (t := 7) (ci := 5) (f := 7) (p := 111) (by decide +kernel) rfl rfl hH k_rd (fun c108 h108 e108 => ?_)
            have q108 : c108 = c := hb_cc e108 hc7 (by omega) (by omega)
            refine hs_k (x := Int32.ofNat 1) (p := 112) (by decide +kernel) ?_
            refine hs_iaddn (p := 113) (by decide +kernel) ?_
            refine ht_put (M := [(7, 7, 7)]) (T := et_TT) (t := 7) (ci := 5) (f := 7) (p := 116) (ty := .int) (by decide +kernel) rfl rfl rfl rfl rfl (by decide +kernel) hH k_rd (hi_nv (by omega) (by omega)) (fun G113 hH f113 e113 => ?_)
            have hf := hf.tr hx0 (f113.wk (by decide +kernel))
            have hc7 := e113
            refine hs_iinc1 (i := 2) (p := 119) (by decide +kernel) rfl (Nat.le_of_ble_eq_true rfl) ?_
            refine hs_goto (p := 22) (by decide +kernel) ?_
            show et_go none (d + 8) 67 22 [some (.ref rd), some (.int pl), some (.int (Int32.ofNat (i + 1))), some (.int (Int32.ofNat n61))] [] _ 0 0 _
            exact ih (400 - (i + 1)) (by omega) hH hx0 hf k_rd hc7 (by omega) (by omega) rfl
theorem hc_split : et_cv et_TT hq_split := by
  intro w as d2 hH hd hl hv
  obtain ⟨v, v1, rfl⟩ := hi_len2 (show as.length = 2 from hl)
  obtain ⟨rd, rfl, k_rd⟩ := hi_ref (hv 0 _ _ rfl rfl)
  obtain ⟨pl, rfl, -, -⟩ := hi_int (hv 1 _ _ rfl rfl)
  obtain ⟨d, rfl⟩ : ∃ d, d2 = d + 8 := ⟨d2 - 8, by have : 8 ≤ d2 := hd; omega⟩
  have hx0 : et_ex w.1 w.1 := et_ex.rf
  have hf : et_fr sp_M w.1 w.2.2 w.2.2 := et_fr.rf
  rw [show eg_mL 67 = 4 from by decide +kernel]
  show et_go none (d + 8) 67 0 [some (.ref rd), some (.int pl), none, none] [] w.2.2 0 0 (hi_Z et_TT w sp_M [(.inl none, 0, 0)])
  refine hs_aload (i := 0) (p := 1) (by decide +kernel) rfl ?_
  refine hs_k (x := (-1)) (p := 2) (by decide +kernel) ?_
  refine ht_put (M := [(7, 2, 2)]) (T := et_TT) (t := 7) (ci := 5) (f := 2) (p := 5) (ty := .int) (by decide +kernel) rfl rfl rfl rfl rfl (by decide +kernel) hH k_rd hi_any (fun G2 hH f2 e2 => ?_)
  have hf := hf.tr hx0 (f2.wk (by decide +kernel))
  refine hs_aload (i := 0) (p := 6) (by decide +kernel) rfl ?_
  refine hs_k (x := Int32.ofNat 0) (p := 7) (by decide +kernel) ?_
  refine ht_put (M := [(7, 3, 3)]) (T := et_TT) (t := 7) (ci := 5) (f := 3) (p := 10) (ty := .boolean) (by decide +kernel) rfl rfl rfl (by decide +kernel) rfl (by decide +kernel) hH k_rd (hi_nv (by omega) (by omega)) (fun G7 hH f7 e7 => ?_)
  have hf := hf.tr hx0 (f7.wk (by decide +kernel))
  refine hs_aload (i := 0) (p := 11) (by decide +kernel) rfl ?_
  refine hs_k (x := Int32.ofNat 0) (p := 12) (by decide +kernel) ?_
  refine ht_put (M := [(7, 7, 7)]) (T := et_TT) (t := 7) (ci := 5) (f := 7) (p := 15) (ty := .int) (by decide +kernel) rfl rfl rfl rfl rfl (by decide +kernel) hH k_rd (hi_nv (by omega) (by omega)) (fun G12 hH f12 e12 => ?_)
  have hf := hf.tr hx0 (f12.wk (by decide +kernel))
  have hc7 := e12
  refine hs_aload (i := 0) (p := 16) (by decide +kernel) rfl ?_
  refine hs_k (x := Int32.ofNat 0) (p := 17) (by decide +kernel) ?_
  refine ht_put (M := [(7, 8, 8)]) (T := et_TT) (t := 7) (ci := 5) (f := 8) (p := 20) (ty := .int) (by decide +kernel) rfl rfl rfl rfl rfl (by decide +kernel) hH k_rd (hi_nv (by omega) (by omega)) (fun G17 hH f17 e17 => ?_)
  have hf := hf.tr hx0 (f17.wk (by decide +kernel))
  have hc7 := (f17.2 rd 7 k_rd 7 rfl).trans hc7
  refine hs_k (x := Int32.ofNat 0) (p := 21) (by decide +kernel) ?_
  refine hs_istore (i := 2) (p := 22) (by decide +kernel) (Nat.le_of_ble_eq_true rfl) ?_
  show et_go none (d + 8) 67 22 [some (.ref rd), some (.int pl), some (.int (Int32.ofNat 0)), none] [] _ 0 0 _
  exact hn_sp (c := 0) hH hx0 hf k_rd hc7 (by omega) (by omega)
end RSP
end
section
/-! BY HAND: the parser, what it is made of -/
section HPA
variable {d k pc ck sk : Nat} {L : eg_Ls} {st r : List Value} {G : eg_G} {Z : eg_O → Prop}
def hs_nw (k pc : Nat) : Option (Nat × Nat) := match eg_cd k pc with
  | some (.new i, 3) => (match (eg_cT.getD (eg_mo k) []).lookup i with
    | some ci => if ci < 12 ∧ (eg_th k pc (.new i)).isNone = true then some (ci, pc + 3) else none
    | none => none)
  | _ => none
def hs_cl (ci : Nat) : Nat := (eg_cl.getD ci ("", eg_T0, 0)).2.2
theorem hs_new {ci p : Nat} (hc : hs_nw k pc = some (ci, p)) (h1 : ck + 1 ≤ eg_MC) (h2 : sk + hs_cl ci ≤ eg_MS) (h : et_go none d k p L (.ref G.2 :: st) (eg_p G (.inr (ci, eg_nc (hs_cl ci) ci))) (ck + 1) (sk + hs_cl ci) Z) : et_go none d k pc L st G ck sk Z := by
  unfold hs_nw at hc
  split at hc
  · rename_i i e
    split at hc
    · rename_i cj hl
      split at hc
      · rename_i h0
        cases hc
        have e2 : eg_st (eg_mo k) (eg_in k) eg_MC eg_MS pc 3 (.new i) L st G ck sk = some (pc + 3, L, .ref G.2 :: st, eg_p G (.inr (ci, eg_nc (hs_cl ci) ci)), ck + 1, sk + hs_cl ci) := by
          show (match (eg_cT.getD (eg_mo k) []).lookup i with
            | some ci => if ci < 12 then eg_al eg_MC eg_MS pc 3 L st G ck sk (eg_cl.getD ci ("", eg_T0, 0)).2.2 (.inr (ci, eg_nc (eg_cl.getD ci ("", eg_T0, 0)).2.2 ci)) else none
            | none => none) = _
          rw [hl]
          dsimp only
          rw [if_pos h0.1]
          unfold eg_al
          exact if_pos ⟨h1, h2⟩
        refine et_goS (fun q => ?_) h
        unfold eg_one
        rw [e]
        dsimp only
        rw [et_rr_no (ins := .new i) (fun h => nomatch (show false = true from h))]
        dsimp only
        rw [hs_sc]
        dsimp only
        rw [Option.isNone_iff_eq_none.mp h0.2]
        dsimp only
        rw [show eg_ik (.new i) = none from rfl]
        dsimp only
        rw [e2]
        rfl
      · cases hc
    · cases hc
  · cases hc
def hs_cp (k pc : Nat) : Option (Nat × Nat × Nat × Nat) := match eg_cd k pc with
  | some (.invokespecial i, _) => (match (eg_mT.getD (eg_mo k) []).lookup i with
    | some (mi, kd, _) => if (kd = 2 ∨ kd = 5) ∧ mi < 316 ∧ ¬ eg_mo mi = 20 then some (mi, eg_ma mi, eg_mL k, eg_mL mi) else none
    | none => none)
  | _ => none
theorem hs_callp {mi na lk lm a : Nat} {as : List Value} {L0 : eg_Ls} (hc : hs_cp k pc = some (mi, na, lk, lm)) (hdr : st.drop na = .ref a :: r) (has : (st.take na).reverse = as) (hL : L.length = lk) (hr : Nat.ble (eg_cat r) 8 = true) (hn : Nat.ble (eg_en0 (.ref a :: as)).length lm = true) (hL0 : eg_en lm (.ref a :: as) = L0) (h : et_go none d mi 0 L0 [] G 0 0 (hs_cont (d + 1) k pc L r ck sk Z)) : et_go none (d + 1) k pc L st G ck sk Z := by
  unfold hs_cp at hc
  split at hc
  · rename_i i _ e
    split at hc
    · rename_i mi' kd x hm
      split at hc
      · rename_i h0
        cases hc
        subst has hL0
        refine et_goC (fun q => ?_) h
        unfold eg_one
        rw [e]
        dsimp only
        rw [et_rr_no (ins := .invokespecial i) (fun h => nomatch (show false = true from h))]
        dsimp only
        rw [hs_sc]
        dsimp only
        show eg_iv (eg_rn q) none (d + 1) k pc (0 + 2) i L st G ck sk = _
        rw [et_v2 hm, if_neg (by omega), hdr]
        dsimp only
        rw [if_pos h0.1]
        unfold eg_cl1
        rw [if_pos ⟨Nat.le_of_ble_eq_true hr, hL, Nat.le_of_ble_eq_true hn, h0.2.1, h0.2.2⟩]
      · cases hc
    · cases hc
  · cases hc
def hs_ax (k pc : Nat) : Option (ClassFile.ACond × Nat × Nat) := match eg_cd k pc with
  | some (.if_acmp c off, _) => if 0 ≤ (pc : Int) + off then some (c, eg_tg pc off, pc + 3) else none
  | _ => none
theorem hs_acm {c : ClassFile.ACond} {t f : Nat} {v u : Value} (hc : hs_ax k pc = some (c, t, f)) (hv : eg_ca v = true) (hu : eg_ca u = true) (h1 : et_go none d k t L r G ck sk Z) (h2 : et_go none d k f L r G ck sk Z) : et_go none d k pc L (u :: v :: r) G ck sk Z := by
  unfold hs_ax at hc
  split at hc
  · rename_i c' off _ e
    split at hc
    · rename_i h0
      cases hc
      have h3 : 0 ≤ (pc : Int) + off ∧ eg_ca v = true ∧ eg_ca u = true := ⟨h0, hv, hu⟩
      cases c with
      | eq =>
        by_cases hh : v = u
        · refine hs_st e rfl ?_ h1
          show (if 0 ≤ (pc : Int) + off ∧ eg_ca v = true ∧ eg_ca u = true then some ((if v = u then eg_tg pc off else pc + 3), L, r, G, ck, sk) else none) = _
          rw [if_pos h3, if_pos hh]
        · refine hs_st e rfl ?_ h2
          show (if 0 ≤ (pc : Int) + off ∧ eg_ca v = true ∧ eg_ca u = true then some ((if v = u then eg_tg pc off else pc + 3), L, r, G, ck, sk) else none) = _
          rw [if_pos h3, if_neg hh]
      | ne =>
        by_cases hh : v = u
        · refine hs_st e rfl ?_ h2
          show (if 0 ≤ (pc : Int) + off ∧ eg_ca v = true ∧ eg_ca u = true then some ((if ¬ v = u then eg_tg pc off else pc + 3), L, r, G, ck, sk) else none) = _
          rw [if_pos h3, if_neg (fun h => h hh)]
        · refine hs_st e rfl ?_ h1
          show (if 0 ≤ (pc : Int) + off ∧ eg_ca v = true ∧ eg_ca u = true then some ((if ¬ v = u then eg_tg pc off else pc + 3), L, r, G, ck, sk) else none) = _
          rw [if_pos h3, if_pos hh]
    · cases hc
  · cases hc
theorem hs_popn {p : Nat} (hc : hs_o k pc = some (.pop, p)) (h : et_go none d k p L r G ck sk Z) : et_go none d k pc L (.null :: r) G ck sk Z := by
  obtain ⟨e, rfl⟩ := hs_oc hc
  exact hs_st e rfl rfl h
end HPA
section HPB
variable {T : List et_D} {M : et_M} {K : et_K} {d k pc ck sk : Nat} {L : eg_Ls} {st r : List Value} {G : eg_G} {Z : eg_O → Prop} {a b t p : Nat}
theorem hi_ca (hH : et_H T K G) (ha : K a = some t) (ht : t = 0 ∨ 2 ≤ t) : eg_ca (.ref a) = true := by
  obtain ⟨g1, g2, g3, -⟩ := hH.2.2 a t ha
  show (decide (a < 36) || decide (eg_NC ≤ a)) = true
  rcases ht with h | h
  · rw [decide_eq_true (g2 h)]
    rfl
  · rw [decide_eq_true (g3 h), Bool.or_true]
/-- one address more -/
def et_kn (K : et_K) (n t : Nat) : et_K := fun a => if a = n then some t else K a
theorem et_H1 {d : et_D} {c : eg_C} (hH : et_H T K G) (ht : 2 ≤ t) (hd : T[t]? = some d) (hc : et_c K d c) (hcx : et_cx d G.2 c) : et_ex K (et_kn K G.2 t) ∧ et_fr M K G (eg_p G c) ∧ et_H T (et_kn K G.2 t) (eg_p G c) := by
  have hx : et_ex K (et_kn K G.2 t) := fun a u h => by
    show (if a = G.2 then some t else K a) = some u
    rw [if_neg (Nat.ne_of_lt (hH.2.2 a u h).1)]
    exact h
  refine ⟨hx, ⟨Nat.le_succ _, fun a u h i _ => by rw [et_at_p (hH.2.2 a u h).1]⟩, Nat.le_succ_of_le hH.1, fun a ha => hx _ _ (hH.2.1 a ha), fun a u h => ?_⟩
  have h : (if a = G.2 then some t else K a) = some u := h
  by_cases e : a = G.2
  · subst e
    rw [if_pos rfl] at h
    cases h
    exact ⟨Nat.lt_succ_self _, fun e => absurd e (by omega), fun _ => hH.1, d, hd, by rw [et_at_ps hH.1]; exact et_c_ex hx hc, by rw [et_at_ps hH.1]; exact hcx⟩
  · rw [if_neg e] at h
    obtain ⟨g1, g2, g3, d', hd', hc', hx'⟩ := hH.2.2 a u h
    exact ⟨Nat.lt_succ_of_lt g1, g2, g3, d', hd', by rw [et_at_p g1]; exact et_c_ex hx hc', by rw [et_at_p g1]; exact hx'⟩
theorem et_nc4 : eg_nc (hs_cl 4) 4 = [.int 0, .null, .null, .null, .null, .int 0] := by decide +kernel
theorem et_c4 : et_c K (.inl (4, [.inl ((-2147483648), 2147483647), .inr (.inr (1, 6)), .inr (.inr (1, 6)), .inr (.inr (1, 6)), .inr (.inr (1, 0)), .inl ((-2147483648), 2147483647)])) (.inr (4, [.int 0, .null, .null, .null, .null, .int 0])) := by
  refine ⟨_, rfl, rfl, fun k p hk => ?_⟩
  match k, hk with
  | 0, hk => cases hk; exact ⟨_, rfl, .inr ⟨0, rfl, by decide, by decide⟩⟩
  | 1, hk => cases hk; exact ⟨_, rfl, .inr (.inl ⟨by decide, rfl⟩)⟩
  | 2, hk => cases hk; exact ⟨_, rfl, .inr (.inl ⟨by decide, rfl⟩)⟩
  | 3, hk => cases hk; exact ⟨_, rfl, .inr (.inl ⟨by decide, rfl⟩)⟩
  | 4, hk => cases hk; exact ⟨_, rfl, .inr (.inl ⟨by decide, rfl⟩)⟩
  | 5, hk => cases hk; exact ⟨_, rfl, .inr ⟨0, rfl, by decide, by decide⟩⟩
  | n + 6, hk => cases hk
/-- a new piece of a condition -/
theorem ht_newN (hc : hs_nw k pc = some (4, p)) (h1 : ck + 1 ≤ 600002) (h2 : sk + 6 ≤ 7302232) (hH : et_H et_TT K G) (h : ∀ (K' : et_K) (G' : eg_G) (b : Nat), et_ex K K' → et_fr [] K G G' → et_H et_TT K' G' → K' b = some 6 → G.2 ≤ b → (∀ a t, K a = some t → a < b) → et_go none d k p L (.ref b :: st) G' (ck + 1) (sk + 6) Z) : et_go none d k pc L st G ck sk Z := by
  have e6 : hs_cl 4 = 6 := by decide +kernel
  have h3 := et_H1 (M := []) (t := 6) hH (by decide) rfl (et_c4 (K := K)) ⟨fun _ b hb => (by cases hb), fun h => absurd h (by decide)⟩
  refine hs_new hc h1 (by rw [e6]; exact h2) ?_
  rw [et_nc4, e6]
  exact h (et_kn K G.2 6) _ G.2 h3.1 h3.2.1 h3.2.2 (if_pos rfl) (Nat.le_refl _) (fun a t ha => (hH.2.2 a t ha).1)
/-- `next` is written: a promised place -/
theorem ht_next {ty : FieldType} (hc : hs_pi k pc = some (4, 1, ty, p)) (hf : eg_fit ty (.ref b) = true) (hM : et_mm M 6 1 = true) (hH : et_H et_TT K G) (ha : K a = some 6) (hb : K b = some 6) (hlt : a < b) (h : ∀ G', et_H et_TT K G' → et_fr M K G G' → et_go none d k p L r G' ck sk Z) : et_go none d k pc L (.ref b :: .ref a :: r) G ck sk Z := by
  obtain ⟨g1, -, g3, dd, hd, hcc, hcx⟩ := hH.2.2 a 6 ha
  cases hd
  obtain ⟨fs, e, el, ef⟩ := hcc
  have el6 : fs.length = 6 := el
  have hlt1 : 1 < fs.length := by omega
  have hpl : ∀ i, ¬ i = 1 → et_pl (.inr (4, fs.set 1 (.ref b))) i = et_pl (eg_at G a) i := fun i hi => by
    rw [e]
    show (fs.set 1 (.ref b))[i]? = fs[i]?
    rw [List.getElem?_set_ne (fun h => hi h.symm)]
  refine hs_put hc e ⟨g3 (by decide), g1⟩ hlt1 hf (h _ (et_H_u hH ha (by decide) rfl ⟨_, rfl, by rw [List.length_set]; exact el, fun j p2 hj => ?_⟩ ⟨fun _ b' hb' => ?_, fun h => absurd h (by decide)⟩) (hi_frM hH ha (by decide) (fun i hi => hpl i (fun h => by
    rw [h, hM] at hi
    cases hi))))
  · by_cases e2 : 1 = j
    · subst e2
      cases hj
      exact ⟨_, List.getElem?_set_self hlt1, .inr (.inr ⟨by decide, _, rfl, hb⟩)⟩
    · rw [List.getElem?_set_ne e2]
      exact ef j p2 hj
  · have hb' : (fs.set 1 (.ref b))[1]? = some (.ref b') := hb'
    rw [List.getElem?_set_self hlt1] at hb'
    cases hb'
    exact hlt
theorem hi_or {a b : Nat} (ha : a ≤ 1) (hb : b ≤ 1) : ∃ c, c ≤ 1 ∧ Int32.ofNat a ||| Int32.ofNat b = Int32.ofNat c := by
  have h : ∀ x ∈ List.range 2, ∀ y ∈ List.range 2, ∃ c ∈ List.range 2, Int32.ofNat x ||| Int32.ofNat y = Int32.ofNat c := by decide +kernel
  obtain ⟨c, hc, e⟩ := h a (List.mem_range.mpr (by omega)) b (List.mem_range.mpr (by omega))
  exact ⟨c, by have := List.mem_range.mp hc; omega, e⟩
theorem hi_fz {c : Nat} (h : c ≤ 1) : eg_fit .boolean (.int (Int32.ofNat c)) = true := by
  have h0 : ∀ x ∈ List.range 2, eg_fit .boolean (.int (Int32.ofNat x)) = true := by decide +kernel
  exact h0 c (List.mem_range.mpr (by omega))
/-- where the reader stands -/
def pp_at (G : eg_G) (rd x : Nat) : Prop := et_pl (eg_at G rd) 8 = some (.int (Int32.ofNat x))
theorem pp_at0 {rd : Nat} (hH : et_H et_TT K G) (k_rd : K rd = some 7) : ∃ x, x ≤ 401 ∧ pp_at G rd x := by
  obtain ⟨-, -, -, dd, hd, hcc, -⟩ := hH.2.2 rd 7 k_rd
  cases hd
  obtain ⟨fs, e, el, ef⟩ := hcc
  obtain ⟨v, h1, h2⟩ := ef 8 _ rfl
  obtain ⟨c, h3, rfl⟩ := hi_nat (h2.resolve_left (by decide))
  exact ⟨c, by omega, by show et_pl (eg_at G rd) 8 = _; rw [e]; exact h1⟩
def pp_M : et_M := [(6, 0, 5), (7, 2, 2), (7, 3, 3), (7, 8, 8)]
/-- how a call ends that makes nothing -/
def pz_Z (M : et_M) (K : et_K) (G : eg_G) (A : et_K → eg_G → Value → Prop) (u : eg_O) : Prop := ∃ (K' : et_K) (v : Value), u.1 = .inl (some v) ∧ et_ex K K' ∧ et_fr M K G u.2.1 ∧ et_H et_TT K' u.2.1 ∧ u.2.2.1 = 0 ∧ u.2.2.2 = 0 ∧ A K' u.2.1 v
theorem pz_cb {A : et_K → eg_G → Value → Prop} {u : eg_O} (hu : pz_Z M K G A u) (h : ∀ (K' : et_K) (G' : eg_G) (v : Value), et_ex K K' → et_fr M K G G' → et_H et_TT K' G' → A K' G' v → et_go none d k (pc + 3) L (v :: r) G' ck sk Z) : hs_cont d k pc L r ck sk Z u := by
  obtain ⟨K', v, e, h1, h2, h3, h4, h5, h6⟩ := hu
  obtain ⟨u1, u2, u3, u4⟩ := u
  have e : u1 = .inl (some v) := e
  have h4 : u3 = 0 := h4
  have h5 : u4 = 0 := h5
  subst e h4 h5
  exact hs_cb (h K' u2 v h1 h2 h3 h6)
def pz_is (x : Nat) (v : Value) : Prop := v = .int (Int32.ofNat 0) ∨ (v = .int (Int32.ofNat 1) ∧ x ≤ 400)
def pz_wh (x : Nat) (K : et_K) (v : Value) : Prop := v = .null ∨ ∃ b, v = .ref b ∧ K b = some 0 ∧ x ≤ 400
def pz_tn (rd x : Nat) (G : eg_G) (v : Value) : Prop := ∃ (y : Nat) (n : Int32), v = .int n ∧ pp_at G rd y ∧ x ≤ y ∧ y ≤ x + 1 ∧ y ≤ 401
/-- how a call ends that makes pieces: t: 0 atom, 1 ALL, 2 ANY -/
def pp_Z (t : Nat) (K : et_K) (G : eg_G) (rd x : Nat) (u : eg_O) : Prop := ∃ (K' : et_K) (v : Value) (y : Nat), u.1 = .inl (some v) ∧ et_ex K K' ∧ et_fr pp_M K G u.2.1 ∧ et_H et_TT K' u.2.1 ∧ pp_at u.2.1 rd y ∧ x ≤ y ∧ y ≤ 401 ∧ u.2.2.2 ≤ 6 * u.2.2.1 ∧ ((v = .null ∧ u.2.2.1 + 2 * x ≤ 2 * y + 1 + t) ∨ ∃ b, v = .ref b ∧ K' b = some 6 ∧ G.2 ≤ b ∧ u.2.2.1 + 1 + 2 * x ≤ 2 * y + t)
theorem pp_cb {rd x t : Nat} {u : eg_O} (hu : pp_Z t K G rd x u) (h : ∀ (K' : et_K) (G' : eg_G) (v : Value) (y c s : Nat), et_ex K K' → et_fr pp_M K G G' → et_H et_TT K' G' → pp_at G' rd y → x ≤ y → y ≤ 401 → s ≤ 6 * c → ((v = .null ∧ c + 2 * x ≤ 2 * y + 1 + t) ∨ ∃ b, v = .ref b ∧ K' b = some 6 ∧ G.2 ≤ b ∧ c + 1 + 2 * x ≤ 2 * y + t) → et_go none d k (pc + 3) L (v :: r) G' (ck + c) (sk + s) Z) : hs_cont d k pc L r ck sk Z u := by
  obtain ⟨K', v, y, e, h1, h2, h3, h4, h5, h6, h7, h8⟩ := hu
  obtain ⟨u1, u2, u3, u4⟩ := u
  have e : u1 = .inl (some v) := e
  subst e
  exact hs_cb (h K' u2 v y u3 u4 h1 h2 h3 h4 h5 h6 h7 h8)
end HPB
def hq_nod : et_Co := (61, [.inr (.inr (0, 6)), .inl (et_mn, et_mx)], [(6, 0, 0)], [(.inl none, 0, 0)], 1)
theorem hc_nod : et_cv et_TT hq_nod := et_cok_ok (Ks := []) (an := an_no) (fun _ h => absurd h List.not_mem_nil) (by decide +kernel)

section PPA
variable {K : et_K} {G : eg_G} {d2 d rd wd x : Nat} {kd mo : Int32}
theorem pp_is (hH : et_H et_TT K G) (k_rd : K rd = some 7) (hx : pp_at G rd x) (hxl : x ≤ 401) (hw : K wd = some 0) (hd : 1 ≤ d2) : et_go none d2 78 0 (eg_en (eg_mL 78) [.ref rd, .ref wd]) [] G 0 0 (pz_Z [] K G (fun _ _ v => pz_is x v)) := by
  have k_wd := hw
  have hx0 : et_ex K K := et_ex.rf
  have hf : et_fr [] K G G := et_fr.rf
  rw [show eg_mL 78 = 2 from by decide +kernel]
  show et_go none d2 78 0 [some (.ref rd), some (.ref wd)] [] G 0 0 _
  refine hs_aload (i := 0) (p := 1) (by decide +kernel) rfl ?_
  refine ht_getn (T := et_TT) (t := 7) (ci := 5) (f := 8) (p := 4) (by decide +kernel) rfl rfl hH k_rd (fun c1 h1 e1 => ?_)
  have q1 : c1 = x := hb_cc e1 hx (by omega) (by omega)
  refine hs_aload (i := 0) (p := 5) (by decide +kernel) rfl ?_
  refine ht_getn (T := et_TT) (t := 7) (ci := 5) (f := 7) (p := 8) (by decide +kernel) rfl rfl hH k_rd (fun c5 h5 e5 => ?_)
  refine hs_br2n (c := .ge) (t := 28) (f := 11) (by decide +kernel) (by omega) (by omega) (fun (c8 : c5 ≤ c1) => ?_) (fun (c8 : ¬ (c5 ≤ c1)) => ?_)
  · refine hs_k (x := Int32.ofNat 0) (p := 29) (by decide +kernel) ?_
    refine hs_zret (by decide +kernel) (.inl rfl) ?_
    exact ⟨_, _, rfl, hx0, hf, hH, rfl, rfl, .inl rfl⟩
  · refine hs_aload (i := 0) (p := 12) (by decide +kernel) rfl ?_
    refine ht_getr (T := et_TT) (t := 7) (ci := 5) (f := 4) (p := 15) (by decide +kernel) rfl rfl hH k_rd (fun a12 k_a12 e12 => ?_)
    refine hs_aload (i := 0) (p := 16) (by decide +kernel) rfl ?_
    refine ht_getn (T := et_TT) (t := 7) (ci := 5) (f := 8) (p := 19) (by decide +kernel) rfl rfl hH k_rd (fun c16 h16 e16 => ?_)
    have q16 : c16 = x := hb_cc e16 hx (by omega) (by omega)
    refine ht_aald (T := et_TT) (t := 41) (N := 401) (kd := 9) (m := 400) (p := 20) (by decide +kernel) rfl rfl hH k_a12 (by omega) (by omega) (by decide) (fun v19 h19 e19 => ?_)
    rcases hi_q h19 with rfl | ⟨a19, rfl, k_a19⟩
    · refine hs_aload (i := 1) (p := 21) (by decide +kernel) rfl ?_
      refine hs_acm (c := .ne) (t := 28) (f := 24) (by decide +kernel) rfl (hi_ca hH k_wd (by decide)) ?_ ?_
      · refine hs_k (x := Int32.ofNat 0) (p := 29) (by decide +kernel) ?_
        refine hs_zret (by decide +kernel) (.inl rfl) ?_
        exact ⟨_, _, rfl, hx0, hf, hH, rfl, rfl, .inl rfl⟩
      · refine hs_k (x := Int32.ofNat 1) (p := 25) (by decide +kernel) ?_
        refine hs_goto (p := 29) (by decide +kernel) ?_
        refine hs_zret (by decide +kernel) (.inr rfl) ?_
        exact ⟨_, _, rfl, hx0, hf, hH, rfl, rfl, .inr ⟨rfl, by omega⟩⟩
    · refine hs_aload (i := 1) (p := 21) (by decide +kernel) rfl ?_
      refine hs_acm (c := .ne) (t := 28) (f := 24) (by decide +kernel) (hi_ca hH k_a19 (by decide)) (hi_ca hH k_wd (by decide)) ?_ ?_
      · refine hs_k (x := Int32.ofNat 0) (p := 29) (by decide +kernel) ?_
        refine hs_zret (by decide +kernel) (.inl rfl) ?_
        exact ⟨_, _, rfl, hx0, hf, hH, rfl, rfl, .inl rfl⟩
      · refine hs_k (x := Int32.ofNat 1) (p := 25) (by decide +kernel) ?_
        refine hs_goto (p := 29) (by decide +kernel) ?_
        refine hs_zret (by decide +kernel) (.inr rfl) ?_
        exact ⟨_, _, rfl, hx0, hf, hH, rfl, rfl, .inr ⟨rfl, by omega⟩⟩
theorem pp_wh (hH : et_H et_TT K G) (k_rd : K rd = some 7) (hx : pp_at G rd x) (hxl : x ≤ 401) (hd : 1 ≤ d2) : et_go none d2 79 0 (eg_en (eg_mL 79) [.ref rd, .int kd]) [] G 0 0 (pz_Z [] K G (fun K' _ v => pz_wh x K' v)) := by
  have hx0 : et_ex K K := et_ex.rf
  have hf : et_fr [] K G G := et_fr.rf
  rw [show eg_mL 79 = 2 from by decide +kernel]
  show et_go none d2 79 0 [some (.ref rd), some (.int kd)] [] G 0 0 _
  refine hs_aload (i := 0) (p := 1) (by decide +kernel) rfl ?_
  refine ht_getn (T := et_TT) (t := 7) (ci := 5) (f := 8) (p := 4) (by decide +kernel) rfl rfl hH k_rd (fun c1 h1 e1 => ?_)
  have q1 : c1 = x := hb_cc e1 hx (by omega) (by omega)
  refine hs_aload (i := 0) (p := 5) (by decide +kernel) rfl ?_
  refine ht_getn (T := et_TT) (t := 7) (ci := 5) (f := 7) (p := 8) (by decide +kernel) rfl rfl hH k_rd (fun c5 h5 e5 => ?_)
  refine hs_br2n (c := .ge) (t := 51) (f := 11) (by decide +kernel) (by omega) (by omega) (fun (c8 : c5 ≤ c1) => ?_) (fun (c8 : ¬ (c5 ≤ c1)) => ?_)
  · refine hs_nul (p := 52) (by decide +kernel) ?_
    refine hs_aretN (cn := "KnobEye$Word") (by decide +kernel) ?_
    exact ⟨_, _, rfl, hx0, hf, hH, rfl, rfl, .inl rfl⟩
  · refine hs_aload (i := 0) (p := 12) (by decide +kernel) rfl ?_
    refine ht_getr (T := et_TT) (t := 7) (ci := 5) (f := 4) (p := 15) (by decide +kernel) rfl rfl hH k_rd (fun a12 k_a12 e12 => ?_)
    refine hs_aload (i := 0) (p := 16) (by decide +kernel) rfl ?_
    refine ht_getn (T := et_TT) (t := 7) (ci := 5) (f := 8) (p := 19) (by decide +kernel) rfl rfl hH k_rd (fun c16 h16 e16 => ?_)
    have q16 : c16 = x := hb_cc e16 hx (by omega) (by omega)
    refine ht_aald (T := et_TT) (t := 41) (N := 401) (kd := 9) (m := 400) (p := 20) (by decide +kernel) rfl rfl hH k_a12 (by omega) (by omega) (by decide) (fun v19 h19 e19 => ?_)
    rcases hi_q h19 with rfl | ⟨a19, rfl, k_a19⟩
    · refine hs_ifnull0 (p := 51) (by decide +kernel) ?_
      refine hs_nul (p := 52) (by decide +kernel) ?_
      refine hs_aretN (cn := "KnobEye$Word") (by decide +kernel) ?_
      exact ⟨_, _, rfl, hx0, hf, hH, rfl, rfl, .inl rfl⟩
    · refine hs_ifnull1 (p := 23) (by decide +kernel) ?_
      refine hs_aload (i := 0) (p := 24) (by decide +kernel) rfl ?_
      refine ht_getr (T := et_TT) (t := 7) (ci := 5) (f := 4) (p := 27) (by decide +kernel) rfl rfl hH k_rd (fun a24 k_a24 e24 => ?_)
      refine hs_aload (i := 0) (p := 28) (by decide +kernel) rfl ?_
      refine ht_getn (T := et_TT) (t := 7) (ci := 5) (f := 8) (p := 31) (by decide +kernel) rfl rfl hH k_rd (fun c28 h28 e28 => ?_)
      have q28 : c28 = x := hb_cc e28 hx (by omega) (by omega)
      refine ht_aald (T := et_TT) (t := 41) (N := 401) (kd := 9) (m := 400) (p := 32) (by decide +kernel) rfl rfl hH k_a24 (by omega) (by omega) (by decide) (fun v31 h31 e31 => ?_)
      have q24 : a24 = a12 := Value.ref.inj (Option.some.inj (e24.symm.trans e12))
      have q28b : c28 = c16 := hb_cc e28 e16 (by omega) (by omega)
      rw [q24, q28b] at e31
      obtain rfl : v31 = .ref a19 := Option.some.inj (e31.symm.trans e19)
      refine ht_getn (T := et_TT) (t := 0) (ci := 12) (f := 3) (p := 35) (by decide +kernel) rfl rfl hH k_a19 (fun c32 h32 e32 => ?_)
      refine hs_iload (i := 1) (p := 36) (by decide +kernel) rfl ?_
      refine hs_br2 (c := .ne) (t := 51) (f := 39) (by decide +kernel) (fun (c36 : ¬ Int32.ofNat c32 = kd) => ?_) (fun (c36 : ¬ (¬ Int32.ofNat c32 = kd)) => ?_)
      · refine hs_nul (p := 52) (by decide +kernel) ?_
        refine hs_aretN (cn := "KnobEye$Word") (by decide +kernel) ?_
        exact ⟨_, _, rfl, hx0, hf, hH, rfl, rfl, .inl rfl⟩
      · refine hs_aload (i := 0) (p := 40) (by decide +kernel) rfl ?_
        refine ht_getr (T := et_TT) (t := 7) (ci := 5) (f := 4) (p := 43) (by decide +kernel) rfl rfl hH k_rd (fun a40 k_a40 e40 => ?_)
        refine hs_aload (i := 0) (p := 44) (by decide +kernel) rfl ?_
        refine ht_getn (T := et_TT) (t := 7) (ci := 5) (f := 8) (p := 47) (by decide +kernel) rfl rfl hH k_rd (fun c44 h44 e44 => ?_)
        have q44 : c44 = x := hb_cc e44 hx (by omega) (by omega)
        refine ht_aald (T := et_TT) (t := 41) (N := 401) (kd := 9) (m := 400) (p := 48) (by decide +kernel) rfl rfl hH k_a40 (by omega) (by omega) (by decide) (fun v47 h47 e47 => ?_)
        rcases hi_q h47 with rfl | ⟨a47, rfl, k_a47⟩
        · refine hs_goto (p := 52) (by decide +kernel) ?_
          refine hs_aretN (cn := "KnobEye$Word") (by decide +kernel) ?_
          exact ⟨_, _, rfl, hx0, hf, hH, rfl, rfl, .inl rfl⟩
        · refine hs_goto (p := 52) (by decide +kernel) ?_
          refine hs_aret (cn := "KnobEye$Word") (by decide +kernel) ?_
          exact ⟨_, _, rfl, hx0, hf, hH, rfl, rfl, .inr ⟨_, rfl, k_a47, by omega⟩⟩
theorem pp_tn (hH : et_H et_TT K G) (k_rd : K rd = some 7) (hx : pp_at G rd x) (hxl : x ≤ 401) (hd : 2 ≤ d2) : et_go none d2 83 0 (eg_en (eg_mL 83) [.ref rd, .int mo]) [] G 0 0 (pz_Z pp_M K G (fun _ G' v => pz_tn rd x G' v)) := by
  obtain ⟨d, rfl⟩ : ∃ d, d2 = d + 2 := ⟨d2 - 2, by omega⟩
  have hx0 : et_ex K K := et_ex.rf
  have hf : et_fr pp_M K G G := et_fr.rf
  rw [show eg_mL 83 = 3 from by decide +kernel]
  show et_go none (d + 2) 83 0 [some (.ref rd), some (.int mo), none] [] G 0 0 _
  refine hs_aload (i := 0) (p := 1) (by decide +kernel) rfl ?_
  refine ht_getn (T := et_TT) (t := 7) (ci := 5) (f := 8) (p := 4) (by decide +kernel) rfl rfl hH k_rd (fun c1 h1 e1 => ?_)
  have q1 : c1 = x := hb_cc e1 hx (by omega) (by omega)
  refine hs_aload (i := 0) (p := 5) (by decide +kernel) rfl ?_
  refine ht_getn (T := et_TT) (t := 7) (ci := 5) (f := 7) (p := 8) (by decide +kernel) rfl rfl hH k_rd (fun c5 h5 e5 => ?_)
  refine hs_br2n (c := .ge) (t := 33) (f := 11) (by decide +kernel) (by omega) (by omega) (fun (c8 : c5 ≤ c1) => ?_) (fun (c8 : ¬ (c5 ≤ c1)) => ?_)
  · refine hs_k (x := (-1)) (p := 34) (by decide +kernel) ?_
    refine hs_istore (i := 2) (p := 35) (by decide +kernel) (Nat.le_of_ble_eq_true rfl) ?_
    refine hs_iload (i := 2) (p := 36) (by decide +kernel) rfl ?_
    refine hs_if1 (c := .lt) (t := 44) (f := 39) (by decide +kernel) (show (-1 : Int32) < 0 by decide) ?_
    refine hs_aload (i := 0) (p := 45) (by decide +kernel) rfl ?_
    have hfo := hf
    refine ht_callv (T := et_TT) (t := 7) (mi := 76) (na := 0) (ci := 5) (lk := 3) (lm := 1) (L0 := eg_en (eg_mL 76) [.ref rd]) (by decide +kernel) rfl hH k_rd rfl rfl rfl rfl rfl (by rw [show eg_mL 76 = 1 from by decide +kernel]; first | done | rfl) ?_
    refine (ep_c4 (K, [], G) [.ref rd] _ hH (by omega) rfl (ht_ac (.inr ⟨by decide, _, rfl, k_rd⟩) ht_an)).mono (fun u hu => hs_cbv hu (fun v45 K45 G45 c45 s45 x45 f45 hH hv45 cl45 sl45 => ?_))
    have hx := (f45.2 rd 7 k_rd 8 rfl).trans hx
    have k_rd := x45 _ _ k_rd
    have hf := hf.tr hx0 (f45.wk (by decide +kernel))
    have hx0 := hx0.tr x45
    obtain rfl : c45 = 0 := Nat.le_zero.mp cl45
    obtain rfl : s45 = 0 := Nat.le_zero.mp sl45
    obtain rfl : v45 = .null := hv45.elim (fun h => h.2) (fun h => absurd h.1 (by decide))
    show et_go none _ 83 48 _ [.null] _ 0 0 _
    refine hs_popn (p := 49) (by decide +kernel) ?_
    refine hs_k (x := (-1)) (p := 50) (by decide +kernel) ?_
    refine hs_iret (by decide +kernel) ?_
    exact ⟨_, _, rfl, hx0, hf, hH, rfl, rfl, _, _, rfl, hx, by omega, by omega, by omega⟩
  · refine hs_aload (i := 0) (p := 12) (by decide +kernel) rfl ?_
    refine hs_gst (v := Value.ref 33) (p := 15) (by decide +kernel) ?_
    have hfo := hf
    refine ht_callv (T := et_TT) (t := 7) (mi := 78) (na := 1) (ci := 5) (lk := 3) (lm := 2) (L0 := eg_en (eg_mL 78) [.ref rd, .ref 33]) (by decide +kernel) rfl hH k_rd rfl rfl rfl rfl rfl (by rw [show eg_mL 78 = 2 from by decide +kernel]; first | done | rfl) ?_
    refine (pp_is hH k_rd hx (by omega) (hH.2.1 _ (by decide)) (by omega)).mono (fun u hu => pz_cb hu (fun K15 G15 v15 x15 f15 hH hA => ?_))
    have hx := (f15.2 rd 7 k_rd 8 rfl).trans hx
    have k_rd := x15 _ _ k_rd
    have hf := hf.tr hx0 (f15.wk (by decide +kernel))
    have hx0 := hx0.tr x15
    rcases hA with rfl | ⟨rfl, hi15⟩
    · show et_go none _ 83 18 _ [.int (Int32.ofNat 0)] _ 0 0 _
      refine hs_if1 (c := .eq) (t := 33) (f := 21) (by decide +kernel) (show Int32.ofNat 0 = 0 by decide) ?_
      refine hs_k (x := (-1)) (p := 34) (by decide +kernel) ?_
      refine hs_istore (i := 2) (p := 35) (by decide +kernel) (Nat.le_of_ble_eq_true rfl) ?_
      refine hs_iload (i := 2) (p := 36) (by decide +kernel) rfl ?_
      refine hs_if1 (c := .lt) (t := 44) (f := 39) (by decide +kernel) (show (-1 : Int32) < 0 by decide) ?_
      refine hs_aload (i := 0) (p := 45) (by decide +kernel) rfl ?_
      have hfo := hf
      refine ht_callv (T := et_TT) (t := 7) (mi := 76) (na := 0) (ci := 5) (lk := 3) (lm := 1) (L0 := eg_en (eg_mL 76) [.ref rd]) (by decide +kernel) rfl hH k_rd rfl rfl rfl rfl rfl (by rw [show eg_mL 76 = 1 from by decide +kernel]; first | done | rfl) ?_
      refine (ep_c4 (K15, [], G15) [.ref rd] _ hH (by omega) rfl (ht_ac (.inr ⟨by decide, _, rfl, k_rd⟩) ht_an)).mono (fun u hu => hs_cbv hu (fun v45 K45 G45 c45 s45 x45 f45 hH hv45 cl45 sl45 => ?_))
      have hx := (f45.2 rd 7 k_rd 8 rfl).trans hx
      have k_rd := x45 _ _ k_rd
      have hf := hf.tr hx0 (f45.wk (by decide +kernel))
      have hx0 := hx0.tr x45
      obtain rfl : c45 = 0 := Nat.le_zero.mp cl45
      obtain rfl : s45 = 0 := Nat.le_zero.mp sl45
      obtain rfl : v45 = .null := hv45.elim (fun h => h.2) (fun h => absurd h.1 (by decide))
      show et_go none _ 83 48 _ [.null] _ 0 0 _
      refine hs_popn (p := 49) (by decide +kernel) ?_
      refine hs_k (x := (-1)) (p := 50) (by decide +kernel) ?_
      refine hs_iret (by decide +kernel) ?_
      exact ⟨_, _, rfl, hx0, hf, hH, rfl, rfl, _, _, rfl, hx, by omega, by omega, by omega⟩
    · show et_go none _ 83 18 _ [.int (Int32.ofNat 1)] _ 0 0 _
      refine hs_if0 (c := .eq) (t := 33) (f := 21) (by decide +kernel) (show ¬ (Int32.ofNat 1 = 0) by decide) ?_
      refine hs_aload (i := 0) (p := 22) (by decide +kernel) rfl ?_
      refine ht_getr (T := et_TT) (t := 7) (ci := 5) (f := 6) (p := 25) (by decide +kernel) rfl rfl hH k_rd (fun a22 k_a22 e22 => ?_)
      refine hs_aload (i := 0) (p := 26) (by decide +kernel) rfl ?_
      refine ht_getn (T := et_TT) (t := 7) (ci := 5) (f := 8) (p := 29) (by decide +kernel) rfl rfl hH k_rd (fun c26 h26 e26 => ?_)
      have q26 : c26 = x := hb_cc e26 hx (by omega) (by omega)
      refine ht_ild (T := et_TT) (t := 21) (N := 401) (p := 30) (by decide +kernel) rfl hH k_a22 (by omega) (by decide) (fun x29 s29 e29 => ?_)
      refine hs_goto (p := 34) (by decide +kernel) ?_
      refine hs_istore (i := 2) (p := 35) (by decide +kernel) (Nat.le_of_ble_eq_true rfl) ?_
      refine hs_iload (i := 2) (p := 36) (by decide +kernel) rfl ?_
      refine hs_br1 (c := .lt) (t := 44) (f := 39) (by decide +kernel) (fun (c36 : x29 < 0) => ?_) (fun (c36 : ¬ (x29 < 0)) => ?_)
      · refine hs_aload (i := 0) (p := 45) (by decide +kernel) rfl ?_
        have hfo := hf
        refine ht_callv (T := et_TT) (t := 7) (mi := 76) (na := 0) (ci := 5) (lk := 3) (lm := 1) (L0 := eg_en (eg_mL 76) [.ref rd]) (by decide +kernel) rfl hH k_rd rfl rfl rfl rfl rfl (by rw [show eg_mL 76 = 1 from by decide +kernel]; first | done | rfl) ?_
        refine (ep_c4 (K15, [], G15) [.ref rd] _ hH (by omega) rfl (ht_ac (.inr ⟨by decide, _, rfl, k_rd⟩) ht_an)).mono (fun u hu => hs_cbv hu (fun v45 K45 G45 c45 s45 x45 f45 hH hv45 cl45 sl45 => ?_))
        have hx := (f45.2 rd 7 k_rd 8 rfl).trans hx
        have k_rd := x45 _ _ k_rd
        have k_a22 := x45 _ _ k_a22
        have hf := hf.tr hx0 (f45.wk (by decide +kernel))
        have hx0 := hx0.tr x45
        obtain rfl : c45 = 0 := Nat.le_zero.mp cl45
        obtain rfl : s45 = 0 := Nat.le_zero.mp sl45
        obtain rfl : v45 = .null := hv45.elim (fun h => h.2) (fun h => absurd h.1 (by decide))
        show et_go none _ 83 48 _ [.null] _ 0 0 _
        refine hs_popn (p := 49) (by decide +kernel) ?_
        refine hs_k (x := (-1)) (p := 50) (by decide +kernel) ?_
        refine hs_iret (by decide +kernel) ?_
        exact ⟨_, _, rfl, hx0, hf, hH, rfl, rfl, _, _, rfl, hx, by omega, by omega, by omega⟩
      · refine hs_iload (i := 2) (p := 40) (by decide +kernel) rfl ?_
        refine hs_iload (i := 1) (p := 41) (by decide +kernel) rfl ?_
        refine hs_br2 (c := .le) (t := 51) (f := 44) (by decide +kernel) (fun (c41 : x29 ≤ mo) => ?_) (fun (c41 : ¬ (x29 ≤ mo)) => ?_)
        · refine hs_aload (i := 0) (p := 52) (by decide +kernel) rfl ?_
          refine hs_dup1 (p := 53) (by decide +kernel) ?_
          refine ht_getn (T := et_TT) (t := 7) (ci := 5) (f := 8) (p := 56) (by decide +kernel) rfl rfl hH k_rd (fun c53 h53 e53 => ?_)
          have q53 : c53 = x := hb_cc e53 hx (by omega) (by omega)
          refine hs_k (x := Int32.ofNat 1) (p := 57) (by decide +kernel) ?_
          refine hs_iaddn (p := 58) (by decide +kernel) ?_
          refine ht_put (M := [(7, 8, 8)]) (T := et_TT) (t := 7) (ci := 5) (f := 8) (p := 61) (ty := .int) (by decide +kernel) rfl rfl rfl rfl rfl (by decide +kernel) hH k_rd (hi_nv (by omega) (by omega)) (fun G58 hH f58 e58 => ?_)
          have hf := hf.tr hx0 (f58.wk (by decide +kernel))
          have hx := e58
          refine hs_iload (i := 2) (p := 62) (by decide +kernel) rfl ?_
          refine hs_iret (by decide +kernel) ?_
          exact ⟨_, _, rfl, hx0, hf, hH, rfl, rfl, _, _, rfl, hx, by omega, by omega, by omega⟩
        · refine hs_aload (i := 0) (p := 45) (by decide +kernel) rfl ?_
          have hfo := hf
          refine ht_callv (T := et_TT) (t := 7) (mi := 76) (na := 0) (ci := 5) (lk := 3) (lm := 1) (L0 := eg_en (eg_mL 76) [.ref rd]) (by decide +kernel) rfl hH k_rd rfl rfl rfl rfl rfl (by rw [show eg_mL 76 = 1 from by decide +kernel]; first | done | rfl) ?_
          refine (ep_c4 (K15, [], G15) [.ref rd] _ hH (by omega) rfl (ht_ac (.inr ⟨by decide, _, rfl, k_rd⟩) ht_an)).mono (fun u hu => hs_cbv hu (fun v45 K45 G45 c45 s45 x45 f45 hH hv45 cl45 sl45 => ?_))
          have hx := (f45.2 rd 7 k_rd 8 rfl).trans hx
          have k_rd := x45 _ _ k_rd
          have k_a22 := x45 _ _ k_a22
          have hf := hf.tr hx0 (f45.wk (by decide +kernel))
          have hx0 := hx0.tr x45
          obtain rfl : c45 = 0 := Nat.le_zero.mp cl45
          obtain rfl : s45 = 0 := Nat.le_zero.mp sl45
          obtain rfl : v45 = .null := hv45.elim (fun h => h.2) (fun h => absurd h.1 (by decide))
          show et_go none _ 83 48 _ [.null] _ 0 0 _
          refine hs_popn (p := 49) (by decide +kernel) ?_
          refine hs_k (x := (-1)) (p := 50) (by decide +kernel) ?_
          refine hs_iret (by decide +kernel) ?_
          exact ⟨_, _, rfl, hx0, hf, hH, rfl, rfl, _, _, rfl, hx, by omega, by omega, by omega⟩
end PPA
end
