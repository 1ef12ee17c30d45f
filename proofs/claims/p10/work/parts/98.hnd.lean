/-! BY HAND: Reader.wordOf -/
section HWA
variable {d k pc ck sk : Nat} {L : eg_Ls} {st r : List Value} {G : eg_G} {Z : eg_O → Prop}
theorem hw_148 : eg_at G 148 = .inl (9, (36, .inr (.inr (.inr (.inr (fun j => some j)))))) := by
  unfold eg_at
  rw [if_pos (by decide)]
  unfold eg_con
  rw [if_neg (by decide), if_neg (by decide), if_neg (by decide), if_pos (by decide)]
theorem hw_at {i : Nat} (hi : i < 36) : eg_at G i = .inr (12, [.int (Int32.ofNat i), .ref (36 + (eg_wf.getD i (0, 0, 0)).1), .int (eg_wf.getD i (0, 0, 0)).2.1, .int (eg_wf.getD i (0, 0, 0)).2.2]) := by
  unfold eg_at
  rw [if_pos (show i < eg_NC from Nat.lt_of_lt_of_le hi (by decide))]
  unfold eg_con
  rw [if_pos hi]
theorem hw_j : ∀ i ∈ List.range 36, (eg_wf.getD i (0, 0, 0)).1 < 56 := by decide +kernel
theorem hw_ald {p i : Nat} (hc : hs_o k pc = some (.aaload, p)) (hG : 152 ≤ G.2) (hi : i < 36) (h : et_go none d k p L (.ref i :: r) G ck sk Z) : et_go none d k pc L (.int (Int32.ofNat i) :: .ref 148 :: r) G ck sk Z := by
  obtain ⟨e0, rfl⟩ := hs_oc hc
  refine hs_st e0 rfl ?_ h
  show eg_ar .aaload pc L (.int (Int32.ofNat i) :: .ref 148 :: r) G ck sk = _
  unfold eg_ar
  dsimp only
  rw [hw_148]
  dsimp only
  have h3 := hs_nint (a := i) (by omega)
  rw [if_pos ⟨Nat.lt_of_lt_of_le (by decide) hG, by decide, by omega, by show (Int32.ofNat i).toInt < (36 : Int); omega⟩, hs_nnat (by omega)]
  rfl
theorem hi_len4 {as : List Value} (h : as.length = 4) : ∃ a b c d, as = [a, b, c, d] := by
  match as, h with
  | [a, b, c, d], _ => exact ⟨a, b, c, d, rfl⟩
theorem hs_aret {a : Nat} {cn : String} (hc : eg_cd k pc = some (.areturn, 1) ∧ eg_mr k = some (.object cn)) (h : Z (.inl (some (.ref a)), G, ck, sk)) : et_go none d k pc L [.ref a] G ck sk Z := by
  refine et_goR (u := (.inl (some (.ref a)), G, ck, sk)) (fun q => ?_) h
  unfold eg_one
  rw [hc.1]
  dsimp only
  rw [hc.2]
  rfl
end HWA
def hq_dig : et_Co := (70, [.inl (et_mn, et_mx)], [], [(.inl (some (.inl (0, 1))), 0, 0)], 1)
theorem hc_dig : et_cv et_TT hq_dig := et_cok_ok (Ks := []) (an := an_no) (fun _ h => absurd h List.not_mem_nil) (by decide +kernel)
def hq_word : et_Co := (72, [.inr (.inr (0, 7)), .inl (0, 399), .inl (et_mn, et_mx), .inl (et_mn, et_mx)], [], [(.inl (some (.inr (.inr (0, 0)))), 0, 0)], 7)
section RWO
variable {w : et_Wd} {K : et_K} {G : eg_G} {d rd b : Nat} {e pl : Int32}
theorem hn_wo (hH : et_H et_TT K G) (hx0 : et_ex w.1 K) (hf : et_fr [] w.1 w.2.2 G) (k_rd : K rd = some 7) (hb : b ≤ 399) {i : Nat} {x5 : Option Value} (hi : i ≤ 36) : et_go none (d + 7) 72 19 [some (.ref rd), some (.int (Int32.ofNat b)), some (.int e), some (.int pl), some (.int (Int32.ofNat i)), x5] [] G 0 0 (hi_Z et_TT w [] [(.inl (some (.inr (.inr (0, 0)))), 0, 0)]) := by
  induction hm : 36 - i using Nat.strongRecOn generalizing i x5 K G with
  | _ z ih =>
    have hG : 152 ≤ G.2 := hH.1
    refine hs_iload (i := 4) (p := 21) (by decide +kernel) rfl ?_
    refine hs_gst (v := Value.ref 148) (p := 24) (by decide +kernel) ?_
    refine hs_alen (p := 25) (by decide +kernel) hw_148 (by omega) (by decide) ?_
    refine hs_br2n (c := .ge) (t := 77) (f := 28) (by decide +kernel) (by omega) (by omega) (fun (c25 : 36 ≤ i) => ?_) (fun (c25 : ¬ (36 ≤ i)) => ?_)
    · refine hs_gst (v := Value.ref 35) (p := 80) (by decide +kernel) ?_
      refine hs_aret (cn := "KnobEye$Word") (by decide +kernel) ?_
      exact ⟨_, List.mem_cons_self, _, hx0, hf, hH, ⟨_, rfl, .inr ⟨by decide, _, rfl, (hH.2.1 _ (by decide))⟩⟩, Nat.le_refl _, Nat.le_refl _⟩
    · refine hs_gst (v := Value.ref 148) (p := 31) (by decide +kernel) ?_
      refine hs_iload (i := 4) (p := 33) (by decide +kernel) rfl ?_
      refine hw_ald (p := 34) (by decide +kernel) hG (by omega) ?_
      have k_i := hH.2.1 i (by omega)
      have h36 : i < 36 := by omega
      refine hs_astore (i := 5) (p := 36) (by decide +kernel) (Nat.le_of_ble_eq_true rfl) ?_
      refine hs_aload (i := 5) (p := 38) (by decide +kernel) rfl ?_
      refine ht_getn (T := et_TT) (t := 0) (ci := 12) (f := 2) (p := 41) (by decide +kernel) rfl rfl hH k_i (fun c38 h38 e38 => ?_)
      refine hs_iload (i := 3) (p := 42) (by decide +kernel) rfl ?_
      refine hs_br2 (c := .eq) (t := 54) (f := 45) (by decide +kernel) (fun (c42 : Int32.ofNat c38 = pl) => ?_) (fun (c42 : ¬ (Int32.ofNat c38 = pl)) => ?_)
      · refine hs_aload (i := 0) (p := 55) (by decide +kernel) rfl ?_
        refine hs_aload (i := 5) (p := 57) (by decide +kernel) rfl ?_
        refine hs_get (ci := 12) (f := 1) (p := 60) (by decide +kernel) (hw_at h36) (by omega) rfl ?_
        refine hs_iload (i := 1) (p := 61) (by decide +kernel) rfl ?_
        refine hs_iload (i := 2) (p := 62) (by decide +kernel) rfl ?_
        refine ht_callv (T := et_TT) (t := 7) (mi := 73) (na := 3) (ci := 5) (lk := 6) (lm := 5) (L0 := eg_en (eg_mL 73) [.ref rd, .ref (36 + (eg_wf.getD i (0, 0, 0)).1), .int (Int32.ofNat b), .int e]) (by decide +kernel) rfl hH k_rd rfl rfl rfl rfl rfl (by rw [show eg_mL 73 = 5 from by decide +kernel]; first | done | rfl) ?_
        refine (hc_isText (w := (K, [], G)) (e := e) hH k_rd (hw_j i (List.mem_range.mpr h36)) (by omega) (d2 := d + 6) (by omega)).mono (fun u hu => hs_cbv hu (fun v62 K62 G62 c62 s62 x62 f62 hH hv62 cl62 sl62 => ?_))
        have k_rd := x62 _ _ k_rd
        have k_i := x62 _ _ k_i
        have hf := hf.tr hx0 (f62.wk (by decide +kernel))
        have hx0 := hx0.tr x62
        have hG : 152 ≤ G62.2 := hH.1
        obtain rfl : c62 = 0 := Nat.le_zero.mp cl62
        obtain rfl : s62 = 0 := Nat.le_zero.mp sl62
        obtain ⟨n62, hn62, rfl⟩ := hi_nat hv62
        show et_go none _ 72 65 _ [.int (Int32.ofNat n62)] _ 0 _ _
        refine hs_br1 (c := .eq) (t := 71) (f := 68) (by decide +kernel) (fun (c65 : Int32.ofNat n62 = 0) => ?_) (fun (c65 : ¬ (Int32.ofNat n62 = 0)) => ?_)
        · refine hs_iinc1 (i := 4) (p := 74) (by decide +kernel) rfl (Nat.le_of_ble_eq_true rfl) ?_
          refine hs_goto (p := 19) (by decide +kernel) ?_
          show et_go none (d + 7) 72 19 [some (.ref rd), some (.int (Int32.ofNat b)), some (.int e), some (.int pl), some (.int (Int32.ofNat (i + 1))), some (.ref i)] [] _ 0 0 _
          exact ih (36 - (i + 1)) (by omega) hH hx0 hf k_rd (by omega) rfl
        · refine hs_aload (i := 5) (p := 70) (by decide +kernel) rfl ?_
          refine hs_aret (cn := "KnobEye$Word") (by decide +kernel) ?_
          exact ⟨_, List.mem_cons_self, _, hx0, hf, hH, ⟨_, rfl, .inr ⟨by decide, _, rfl, k_i⟩⟩, Nat.le_refl _, Nat.le_refl _⟩
      · refine hs_aload (i := 5) (p := 47) (by decide +kernel) rfl ?_
        refine ht_getn (T := et_TT) (t := 0) (ci := 12) (f := 2) (p := 50) (by decide +kernel) rfl rfl hH k_i (fun c47 h47 e47 => ?_)
        refine hs_k (x := Int32.ofNat 3) (p := 51) (by decide +kernel) ?_
        refine hs_br2n (c := .ne) (t := 71) (f := 54) (by decide +kernel) (by omega) (by omega) (fun (c51 : ¬ c47 = 3) => ?_) (fun (c51 : ¬ (¬ c47 = 3)) => ?_)
        · refine hs_iinc1 (i := 4) (p := 74) (by decide +kernel) rfl (Nat.le_of_ble_eq_true rfl) ?_
          refine hs_goto (p := 19) (by decide +kernel) ?_
          show et_go none (d + 7) 72 19 [some (.ref rd), some (.int (Int32.ofNat b)), some (.int e), some (.int pl), some (.int (Int32.ofNat (i + 1))), some (.ref i)] [] _ 0 0 _
          exact ih (36 - (i + 1)) (by omega) hH hx0 hf k_rd (by omega) rfl
        · refine hs_aload (i := 0) (p := 55) (by decide +kernel) rfl ?_
          refine hs_aload (i := 5) (p := 57) (by decide +kernel) rfl ?_
          refine hs_get (ci := 12) (f := 1) (p := 60) (by decide +kernel) (hw_at h36) (by omega) rfl ?_
          refine hs_iload (i := 1) (p := 61) (by decide +kernel) rfl ?_
          refine hs_iload (i := 2) (p := 62) (by decide +kernel) rfl ?_
          refine ht_callv (T := et_TT) (t := 7) (mi := 73) (na := 3) (ci := 5) (lk := 6) (lm := 5) (L0 := eg_en (eg_mL 73) [.ref rd, .ref (36 + (eg_wf.getD i (0, 0, 0)).1), .int (Int32.ofNat b), .int e]) (by decide +kernel) rfl hH k_rd rfl rfl rfl rfl rfl (by rw [show eg_mL 73 = 5 from by decide +kernel]; first | done | rfl) ?_
          refine (hc_isText (w := (K, [], G)) (e := e) hH k_rd (hw_j i (List.mem_range.mpr h36)) (by omega) (d2 := d + 6) (by omega)).mono (fun u hu => hs_cbv hu (fun v62 K62 G62 c62 s62 x62 f62 hH hv62 cl62 sl62 => ?_))
          have k_rd := x62 _ _ k_rd
          have k_i := x62 _ _ k_i
          have hf := hf.tr hx0 (f62.wk (by decide +kernel))
          have hx0 := hx0.tr x62
          have hG : 152 ≤ G62.2 := hH.1
          obtain rfl : c62 = 0 := Nat.le_zero.mp cl62
          obtain rfl : s62 = 0 := Nat.le_zero.mp sl62
          obtain ⟨n62, hn62, rfl⟩ := hi_nat hv62
          show et_go none _ 72 65 _ [.int (Int32.ofNat n62)] _ 0 _ _
          refine hs_br1 (c := .eq) (t := 71) (f := 68) (by decide +kernel) (fun (c65 : Int32.ofNat n62 = 0) => ?_) (fun (c65 : ¬ (Int32.ofNat n62 = 0)) => ?_)
          · refine hs_iinc1 (i := 4) (p := 74) (by decide +kernel) rfl (Nat.le_of_ble_eq_true rfl) ?_
            refine hs_goto (p := 19) (by decide +kernel) ?_
            show et_go none (d + 7) 72 19 [some (.ref rd), some (.int (Int32.ofNat b)), some (.int e), some (.int pl), some (.int (Int32.ofNat (i + 1))), some (.ref i)] [] _ 0 0 _
            exact ih (36 - (i + 1)) (by omega) hH hx0 hf k_rd (by omega) rfl
          · refine hs_aload (i := 5) (p := 70) (by decide +kernel) rfl ?_
            refine hs_aret (cn := "KnobEye$Word") (by decide +kernel) ?_
            exact ⟨_, List.mem_cons_self, _, hx0, hf, hH, ⟨_, rfl, .inr ⟨by decide, _, rfl, k_i⟩⟩, Nat.le_refl _, Nat.le_refl _⟩
theorem hc_wordOf : et_cv et_TT hq_word := by
  intro w as d2 hH hd hl hv
  obtain ⟨v, v1, v2, v3, rfl⟩ := hi_len4 (show as.length = 4 from hl)
  obtain ⟨rd, rfl, k_rd⟩ := hi_ref (hv 0 _ _ rfl rfl)
  obtain ⟨b, hb, rfl⟩ := hi_nat (hv 1 _ _ rfl rfl)
  obtain ⟨e, rfl, -, -⟩ := hi_int (hv 2 _ _ rfl rfl)
  obtain ⟨pl, rfl, -, -⟩ := hi_int (hv 3 _ _ rfl rfl)
  obtain ⟨d, rfl⟩ : ∃ d, d2 = d + 7 := ⟨d2 - 7, by have : 7 ≤ d2 := hd; omega⟩
  have hG : 152 ≤ w.2.2.2 := hH.1
  have hx0 : et_ex w.1 w.1 := et_ex.rf
  have hf : et_fr [] w.1 w.2.2 w.2.2 := et_fr.rf
  rw [show eg_mL 72 = 6 from by decide +kernel]
  show et_go none (d + 7) 72 0 [some (.ref rd), some (.int (Int32.ofNat b)), some (.int e), some (.int pl), none, none] [] w.2.2 0 0 (hi_Z et_TT w [] [(.inl (some (.inr (.inr (0, 0)))), 0, 0)])
  refine hs_aload (i := 0) (p := 1) (by decide +kernel) rfl ?_
  refine ht_getr (T := et_TT) (t := 7) (ci := 5) (f := 0) (p := 4) (by decide +kernel) rfl rfl hH k_rd (fun a1 k_a1 e1 => ?_)
  refine hs_iload (i := 1) (p := 5) (by decide +kernel) rfl ?_
  refine ht_cld (T := et_TT) (t := 33) (N := 400) (p := 6) (by decide +kernel) rfl hH k_a1 (by omega) (by decide) (fun x5 => ?_)
  refine hs_calls (mi := 70) (na := 1) (lk := 6) (lm := 1) (L0 := eg_en (eg_mL 70) [.int x5]) (by decide +kernel) rfl rfl rfl rfl rfl rfl (by rw [show eg_mL 70 = 1 from by decide +kernel]; first | done | rfl) ?_
  refine (hc_dig (w.1, [], w.2.2) [.int x5] _ hH (by omega) rfl (ht_ac hi_any ht_an)).mono (fun u hu => hs_cbv hu (fun v6 K6 G6 c6 s6 x6 f6 hH hv6 cl6 sl6 => ?_))
  have k_rd := x6 _ _ k_rd
  have k_a1 := x6 _ _ k_a1
  have hf := hf.tr hx0 (f6.wk (by decide +kernel))
  have hx0 := hx0.tr x6
  have hG : 152 ≤ G6.2 := hH.1
  obtain rfl : c6 = 0 := Nat.le_zero.mp cl6
  obtain rfl : s6 = 0 := Nat.le_zero.mp sl6
  obtain ⟨n6, hn6, rfl⟩ := hi_nat hv6
  show et_go none _ 72 9 _ [.int (Int32.ofNat n6)] _ 0 _ _
  refine hs_br1 (c := .eq) (t := 16) (f := 12) (by decide +kernel) (fun (c9 : Int32.ofNat n6 = 0) => ?_) (fun (c9 : ¬ (Int32.ofNat n6 = 0)) => ?_)
  · refine hs_k (x := Int32.ofNat 0) (p := 17) (by decide +kernel) ?_
    refine hs_istore (i := 4) (p := 19) (by decide +kernel) (Nat.le_of_ble_eq_true rfl) ?_
    show et_go none (d + 7) 72 19 [some (.ref rd), some (.int (Int32.ofNat b)), some (.int e), some (.int pl), some (.int (Int32.ofNat 0)), none] [] _ 0 0 _
    exact hn_wo hH hx0 hf k_rd (by omega) (Nat.zero_le _)
  · refine hs_gst (v := Value.ref 33) (p := 15) (by decide +kernel) ?_
    refine hs_aret (cn := "KnobEye$Word") (by decide +kernel) ?_
    exact ⟨_, List.mem_cons_self, _, hx0, hf, hH, ⟨_, rfl, .inr ⟨by decide, _, rfl, (hH.2.1 _ (by decide))⟩⟩, Nat.le_refl _, Nat.le_refl _⟩
end RWO
