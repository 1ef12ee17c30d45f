/-! BY HAND, OVER A TYPED HEAP: turnBy -/
def hi_MTB : et_M := [(14, 0, 4), (29, 0, 399)]
def hq_turnBy : et_Co := (249, [.inr (.inr (0, 13)), .inl (0, 3), .inl (et_mn, et_mx), .inl (et_mn, et_mx), .inl (et_mn, et_mx)], hi_MTB, [(.inl (some (.inl (et_mn, et_mx))), 0, 0)], 6)
theorem hi_lines {K : et_K} {d am t : Nat} {G : eg_G} {Z : eg_O → Prop} (hH : et_H et_TT K G) (ha : K am = some 13) (ht : t < 14) (h : ∀ l : Nat, l ≤ 10 → (∀ (W : Nat → Int32) (aw : Nat), et_pl (eg_at G am) 1 = some (.ref aw) → eg_at G aw = hm_W W → gq_G W → ∀ n, n < l → gq_L W (126 + 841 * t) n 400) → Z (.inl (some (.int (Int32.ofNat l))), G, 0, 0)) : et_go none (d + 1) 250 0 [some (.ref am), some (.int (Int32.ofNat t))] [] G 0 0 Z := by
  obtain ⟨F, W, aw, hA, eF, eW, hw, hKw, hF, hX, hW, hG, e⟩ := hi_mod hH ha
  obtain ⟨l, h1, h2, h3⟩ := hG t ht
  have h9 := h l h2 (fun W' aw' e1 e2 _ n hn => by
    rw [eF, hi_pF (by decide), hw] at e1
    cases e1
    rw [eW] at e2
    cases e2
    exact h3 n (.inl hn))
  rw [e] at h9 ⊢
  refine hs_aload (i := 0) (p := 1) (by decide +kernel) rfl ?_
  refine hm_get hA (f := 1) (p := 4) (by decide +kernel) rfl hw ?_
  refine hs_iload (i := 1) (p := 5) (by decide +kernel) rfl ?_
  refine hs_calls (mi := 186) (na := 1) (lk := 2) (lm := 1) (by decide +kernel) rfl rfl rfl rfl rfl rfl rfl (rp_textAt (hs_cb ?_))
  show et_go none _ 250 8 _ [.int (Int32.ofNat (126 + 841 * t)), .ref aw] _ _ _ _
  refine hm_rwv hA (p := 9) (x := Int32.ofNat l) (by decide +kernel) (by omega) h1 ?_
  refine hs_iret (by decide +kernel) ?_
  exact h9
theorem hi_turnL {w : et_Wd} {K : et_K} {G : eg_G} {d am t n : Nat} {so va kn : Int32} (hH : et_H et_TT K G) (k_am : K am = some 13) (ht : t ≤ 3) (hn : n ≤ 10) (hx0 : et_ex w.1 K) (hf : et_fr hi_MTB w.1 w.2.2 G) : et_go none (d + 4) 249 26 [some (.ref am), some (.int (Int32.ofNat t)), some (.int so), some (.int va), some (.int kn), some (.int (Int32.ofNat (4 + t))), some (.int (Int32.ofNat n))] [] G 0 0 (hi_Z et_TT w hi_MTB [(.inl (some (.inl (et_mn, et_mx))), 0, 0)]) := by
  induction hm : 10 - n using Nat.strongRecOn generalizing n K G with
  | _ z ih =>
    refine hs_iload (i := 6) (p := 28) (by decide +kernel) rfl ?_
    refine hs_aload (i := 0) (p := 29) (by decide +kernel) rfl ?_
    refine hs_iload (i := 5) (p := 31) (by decide +kernel) rfl ?_
    refine ht_callv (T := et_TT) (t := 13) (mi := 250) (na := 1) (ci := 11) (lk := 7) (lm := 2) (by decide +kernel) rfl hH k_am rfl rfl rfl rfl rfl rfl ?_
    refine hi_lines hH k_am (by omega) (fun l hl0 hl => hs_cb ?_)
    show et_go none _ 249 34 _ [.int (Int32.ofNat l), .int (Int32.ofNat n)] _ _ _ _
    refine hs_br2n (c := .ge) (t := 85) (f := 37) (by decide +kernel) (by omega) (by omega) (fun (c34 : l ≤ n) => ?_) (fun (c34 : ¬ (l ≤ n)) => ?_)
    · refine hs_k (x := Int32.ofNat 0) (p := 86) (by decide +kernel) ?_
      refine hs_iret (by decide +kernel) ?_
      exact ⟨_, List.mem_cons_self, _, hx0, hf, hH, ⟨_, rfl, hi_any⟩, Nat.le_refl _, Nat.le_refl _⟩
    · refine hs_aload (i := 0) (p := 38) (by decide +kernel) rfl ?_
      refine ht_getr (T := et_TT) (t := 13) (ci := 11) (f := 1) (p := 41) (by decide +kernel) rfl rfl hH k_am (fun a38 k_a38 e38 => ?_)
      refine hs_iload (i := 5) (p := 43) (by decide +kernel) rfl ?_
      refine hs_iload (i := 6) (p := 45) (by decide +kernel) rfl ?_
      refine hs_calls (mi := 189) (na := 2) (lk := 7) (lm := 2) (by decide +kernel) rfl rfl rfl rfl rfl rfl rfl (rp_lineAt (hs_cb ?_))
      show et_go none _ 249 48 _ [.int (Int32.ofNat (126 + 841 * (4 + t) + 1 + 4 * n)), .ref a38] _ _ _ _
      refine ht_ild (T := et_TT) (t := 46) (N := 12741) (p := 49) (by decide +kernel) rfl hH k_a38 (by omega) (by decide) (fun x48 s48 e48 => ?_)
      refine hs_iload (i := 2) (p := 50) (by decide +kernel) rfl ?_
      refine hs_br2 (c := .ne) (t := 79) (f := 53) (by decide +kernel) (fun (c50 : ¬ x48 = so) => ?_) (fun (c50 : ¬ (¬ x48 = so)) => ?_)
      · refine hs_iinc1 (i := 6) (p := 82) (by decide +kernel) rfl (Nat.le_of_ble_eq_true rfl) ?_
        refine hs_goto (p := 26) (by decide +kernel) ?_
        exact ih (10 - (n + 1)) (by omega) hH k_am (by omega) hx0 hf rfl
      · refine hs_aload (i := 0) (p := 54) (by decide +kernel) rfl ?_
        refine hs_iload (i := 5) (p := 56) (by decide +kernel) rfl ?_
        refine hs_iload (i := 6) (p := 58) (by decide +kernel) rfl ?_
        refine ht_callv (T := et_TT) (t := 13) (mi := 216) (na := 2) (ci := 11) (lk := 7) (lm := 13) (L0 := eg_en (eg_mL 216) [.ref am, .int (Int32.ofNat (4 + t)), .int (Int32.ofNat n)]) (by decide +kernel) rfl hH k_am rfl rfl rfl rfl rfl (by rw [show eg_mL 216 = 13 from by decide +kernel]; first | done | rfl) ?_
        refine (hi_holds (w := (K, [], G)) hH k_am (by omega) (by omega) (by omega) (fun F W aw q1 q2 q3 q4 => hl W aw (by rw [q1, hi_pF (by decide)]; exact congrArg some q2) q3 q4 n (by omega))).mono (fun u hu => hs_cbv hu (fun v58 K2 G2 c2 s2 x2 f2 hH hv2 cl2 sl2 => ?_))
        have k_am := x2 _ _ k_am
        have hf := hf.tr hx0 (f2.wk (by decide +kernel))
        have hx0 := hx0.tr x2
        obtain rfl : c2 = 0 := Nat.le_zero.mp cl2
        obtain rfl : s2 = 0 := Nat.le_zero.mp sl2
        obtain ⟨b2, hb2, rfl⟩ := hi_nat hv2
        show et_go none _ 249 61 _ [.int (Int32.ofNat b2)] _ 0 0 _
        refine hs_br1 (c := .eq) (t := 79) (f := 64) (by decide +kernel) (fun (c61 : Int32.ofNat b2 = 0) => ?_) (fun (c61 : ¬ (Int32.ofNat b2 = 0)) => ?_)
        · refine hs_iinc1 (i := 6) (p := 82) (by decide +kernel) rfl (Nat.le_of_ble_eq_true rfl) ?_
          refine hs_goto (p := 26) (by decide +kernel) ?_
          exact ih (10 - (n + 1)) (by omega) hH k_am (by omega) hx0 hf rfl
        · refine hs_aload (i := 0) (p := 65) (by decide +kernel) rfl ?_
          refine ht_getr (T := et_TT) (t := 13) (ci := 11) (f := 1) (p := 68) (by decide +kernel) rfl rfl hH k_am (fun a65 k_a65 e65 => ?_)
          refine hs_iload (i := 5) (p := 70) (by decide +kernel) rfl ?_
          refine hs_iload (i := 6) (p := 72) (by decide +kernel) rfl ?_
          refine hs_calls (mi := 189) (na := 2) (lk := 7) (lm := 2) (by decide +kernel) rfl rfl rfl rfl rfl rfl rfl (rp_lineAt (hs_cb ?_))
          show et_go none _ 249 75 _ [.int (Int32.ofNat (126 + 841 * (4 + t) + 1 + 4 * n)), .ref a65] _ _ _ _
          refine hs_k (x := Int32.ofNat 1) (p := 76) (by decide +kernel) ?_
          refine hs_iaddn (p := 77) (by decide +kernel) ?_
          refine ht_ild (T := et_TT) (t := 46) (N := 12741) (p := 78) (by decide +kernel) rfl hH k_a65 (by omega) (by decide) (fun x77 s77 e77 => ?_)
          refine hs_iret (by decide +kernel) ?_
          exact ⟨_, List.mem_cons_self, _, hx0, hf, hH, ⟨_, rfl, hi_any⟩, Nat.le_refl _, Nat.le_refl _⟩
theorem hc_turnBy : et_cv et_TT hq_turnBy := by
  intro w as d2 hH hd hl hv
  obtain ⟨v, v1, v2, v3, v4, rfl⟩ := hi_len5 (show as.length = 5 from hl)
  obtain ⟨am, rfl, k_am⟩ := hi_ref (hv 0 _ _ rfl rfl)
  obtain ⟨t, ht, rfl⟩ := hi_nat (hv 1 _ _ rfl rfl)
  obtain ⟨so, rfl, -⟩ := hi_int (hv 2 _ _ rfl rfl)
  obtain ⟨va, rfl, -⟩ := hi_int (hv 3 _ _ rfl rfl)
  obtain ⟨kn, rfl, -⟩ := hi_int (hv 4 _ _ rfl rfl)
  obtain ⟨d, rfl⟩ : ∃ d, d2 = d + 4 := ⟨d2 - 4, by have : 6 ≤ d2 := hd; omega⟩
  have hx0 : et_ex w.1 w.1 := et_ex.rf
  have hf : et_fr hi_MTB w.1 w.2.2 w.2.2 := et_fr.rf
  rw [show eg_mL 249 = 7 from by decide +kernel]
  show et_go none (d + 4) 249 0 [some (.ref am), some (.int (Int32.ofNat t)), some (.int so), some (.int va), some (.int kn), none, none] [] w.2.2 0 0 (hi_Z et_TT w hi_MTB [(.inl (some (.inl (et_mn, et_mx))), 0, 0)])
  refine hs_k (x := Int32.ofNat 4) (p := 1) (by decide +kernel) ?_
  refine hs_iload (i := 1) (p := 2) (by decide +kernel) rfl ?_
  refine hs_iaddn (p := 3) (by decide +kernel) ?_
  refine hs_istore (i := 5) (p := 5) (by decide +kernel) (Nat.le_of_ble_eq_true rfl) ?_
  refine hs_aload (i := 0) (p := 6) (by decide +kernel) rfl ?_
  refine ht_getr (T := et_TT) (t := 13) (ci := 11) (f := 14) (p := 9) (by decide +kernel) rfl rfl hH k_am (fun a6 k_a6 e6 => ?_)
  refine hs_k (x := Int32.ofNat 1) (p := 10) (by decide +kernel) ?_
  refine hs_iload (i := 3) (p := 11) (by decide +kernel) rfl ?_
  refine ht_ist (M := hi_MTB) (T := et_TT) (t := 14) (N := 5) (p := 12) (by decide +kernel) rfl rfl (by decide) hH k_a6 (by omega) (by decide) (fun s hs => absurd hs List.not_mem_nil) (by decide +kernel) (fun G11 hH f11 => ?_)
  have hf := hf.tr hx0 f11
  refine hs_aload (i := 0) (p := 13) (by decide +kernel) rfl ?_
  refine ht_getr (T := et_TT) (t := 13) (ci := 11) (f := 14) (p := 16) (by decide +kernel) rfl rfl hH k_am (fun a13 k_a13 e13 => ?_)
  refine hs_k (x := Int32.ofNat 2) (p := 17) (by decide +kernel) ?_
  refine hs_iload (i := 4) (p := 19) (by decide +kernel) rfl ?_
  refine hs_math (mi := 309) (lk := 7) (p := 22) (by decide +kernel) rfl rfl rfl rfl ?_
  refine ht_ist (M := hi_MTB) (T := et_TT) (t := 14) (N := 5) (p := 23) (by decide +kernel) rfl rfl (by decide) hH k_a13 (by omega) (by decide) (fun s hs => absurd hs List.not_mem_nil) (by decide +kernel) (fun G22 hH f22 => ?_)
  have hf := hf.tr hx0 f22
  refine hs_k (x := Int32.ofNat 0) (p := 24) (by decide +kernel) ?_
  refine hs_istore (i := 6) (p := 26) (by decide +kernel) (Nat.le_of_ble_eq_true rfl) ?_
  exact hi_turnL hH k_am (by omega) (n := 0) (by omega) hx0 hf
