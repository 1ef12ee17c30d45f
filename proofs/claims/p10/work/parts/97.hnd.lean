/-! BY HAND: Reader.isText -/
theorem ht_cld {T : List et_D} {K : et_K} {d k pc ck sk a t n N p : Nat} {L : eg_Ls} {r : List Value} {G : eg_G} {Z : eg_O → Prop} {ss : List (Nat × Nat × et_P)} (hc : hs_o k pc = some (.caload, p)) (hT : T[t]? = some (.inr (4, N, ss))) (hH : et_H T K G) (ha : K a = some t) (hn : n < N) (hN : N < 2147483648) (h : ∀ x : Int32, et_go none d k p L (.int x :: r) G ck sk Z) : et_go none d k pc L (.int (Int32.ofNat n) :: .ref a :: r) G ck sk Z := by
  obtain ⟨f, e, h1, -⟩ := hi_arr hH ha hT (by omega) (.inr (.inr (.inr rfl)))
  obtain ⟨e0, rfl⟩ := hs_oc hc
  exact hs_st e0 rfl (hs_ari ⟨rfl, .inr (.inr (.inr rfl))⟩ e (hH.2.2 a t ha).1 hn hN) (h _)
section RTX
variable {w : et_Wd} {d rd j b : Nat} {e : Int32}
theorem hn_tx (hH : et_H et_TT w.1 w.2.2) (k_rd : w.1 rd = some 7) (hj : j < 56) (hb : b ≤ 399) {i : Nat} (hi : i ≤ rs_n j) : et_go none (d + 5) 73 15 [some (.ref rd), some (.ref (36 + j)), some (.int (Int32.ofNat b)), some (.int e), some (.int (Int32.ofNat i))] [] w.2.2 0 0 (hi_Z et_TT w [] [(.inl (some (.inl (0, 1))), 0, 0)]) := by
  have hG : 152 ≤ w.2.2.2 := hH.1
  have hn := rs_nlt (j := j)
  induction hm : rs_n j - i using Nat.strongRecOn generalizing i with
  | _ z ih =>
    refine hs_iload (i := 4) (p := 17) (by decide +kernel) rfl ?_
    refine hs_aload (i := 1) (p := 18) (by decide +kernel) rfl ?_
    refine hs_callv (mi := 294) (na := 0) (ci := 13) (lk := 5) (lm := 1) (by decide +kernel) rfl rfl rfl rfl rfl rfl (by omega) (by rw [rs_con hj]; rfl) (rs_len hG hj (hs_cb ?_))
    show et_go none _ 73 21 _ [.int (Int32.ofNat (rs_n j)), .int (Int32.ofNat i)] _ 0 0 _
    refine hs_br2n (c := .ge) (t := 61) (f := 24) (by decide +kernel) (by omega) (by omega) (fun (c21 : (rs_n j) ≤ i) => ?_) (fun (c21 : ¬ ((rs_n j) ≤ i)) => ?_)
    · refine hs_k (x := Int32.ofNat 1) (p := 62) (by decide +kernel) ?_
      refine hs_zret (by decide +kernel) (.inr rfl) ?_
      exact ⟨_, List.mem_cons_self, _, et_ex.rf, et_fr.rf, hH, ⟨_, rfl, hi_iv (by decide) (by decide)⟩, Nat.le_refl _, Nat.le_refl _⟩
    · refine hs_iload (i := 2) (p := 25) (by decide +kernel) rfl ?_
      refine hs_iload (i := 4) (p := 27) (by decide +kernel) rfl ?_
      refine hs_iaddn (p := 28) (by decide +kernel) ?_
      refine hs_aload (i := 0) (p := 29) (by decide +kernel) rfl ?_
      refine ht_getn (T := et_TT) (t := 7) (ci := 5) (f := 1) (p := 32) (by decide +kernel) rfl rfl hH k_rd (fun c29 h29 e29 => ?_)
      refine hs_br2n (c := .ge) (t := 61) (f := 35) (by decide +kernel) (by omega) (by omega) (fun (c32 : c29 ≤ (b + i)) => ?_) (fun (c32 : ¬ (c29 ≤ (b + i))) => ?_)
      · refine hs_k (x := Int32.ofNat 1) (p := 62) (by decide +kernel) ?_
        refine hs_zret (by decide +kernel) (.inr rfl) ?_
        exact ⟨_, List.mem_cons_self, _, et_ex.rf, et_fr.rf, hH, ⟨_, rfl, hi_iv (by decide) (by decide)⟩, Nat.le_refl _, Nat.le_refl _⟩
      · refine hs_aload (i := 0) (p := 36) (by decide +kernel) rfl ?_
        refine ht_getr (T := et_TT) (t := 7) (ci := 5) (f := 0) (p := 39) (by decide +kernel) rfl rfl hH k_rd (fun a36 k_a36 e36 => ?_)
        refine hs_iload (i := 2) (p := 40) (by decide +kernel) rfl ?_
        refine hs_iload (i := 4) (p := 42) (by decide +kernel) rfl ?_
        refine hs_iaddn (p := 43) (by decide +kernel) ?_
        refine ht_cld (T := et_TT) (t := 33) (N := 400) (p := 44) (by decide +kernel) rfl hH k_a36 (by omega) (by decide) (fun x43 => ?_)
        refine hs_aload (i := 1) (p := 45) (by decide +kernel) rfl ?_
        refine hs_iload (i := 4) (p := 47) (by decide +kernel) rfl ?_
        refine hs_callv (mi := 296) (na := 1) (ci := 13) (lk := 5) (lm := 2) (by decide +kernel) rfl rfl rfl rfl rfl rfl (by omega) (by rw [rs_con hj]; rfl) (rs_chr hG hj (by omega) (fun x47 => hs_cb ?_))
        show et_go none _ 73 50 _ [.int x47, .int x43] _ 0 0 _
        refine hs_br2 (c := .eq) (t := 55) (f := 53) (by decide +kernel) (fun (c50 : x43 = x47) => ?_) (fun (c50 : ¬ (x43 = x47)) => ?_)
        · refine hs_iinc1 (i := 4) (p := 58) (by decide +kernel) rfl (Nat.le_of_ble_eq_true rfl) ?_
          refine hs_goto (p := 15) (by decide +kernel) ?_
          show et_go none (d + 5) 73 15 [some (.ref rd), some (.ref (36 + j)), some (.int (Int32.ofNat b)), some (.int e), some (.int (Int32.ofNat (i + 1)))] [] _ 0 0 _
          exact ih (rs_n j - (i + 1)) (by omega) (by omega) rfl
        · refine hs_k (x := Int32.ofNat 0) (p := 54) (by decide +kernel) ?_
          refine hs_zret (by decide +kernel) (.inl rfl) ?_
          exact ⟨_, List.mem_cons_self, _, et_ex.rf, et_fr.rf, hH, ⟨_, rfl, hi_iv (by decide) (by decide)⟩, Nat.le_refl _, Nat.le_refl _⟩
theorem hc_isText (hH : et_H et_TT w.1 w.2.2) (k_rd : w.1 rd = some 7) (hj : j < 56) (hb : b ≤ 399) {d2 : Nat} (hd : 5 ≤ d2) : et_go none d2 73 0 (eg_en (eg_mL 73) [.ref rd, .ref (36 + j), .int (Int32.ofNat b), .int e]) [] w.2.2 0 0 (hi_Z et_TT w [] [(.inl (some (.inl (0, 1))), 0, 0)]) := by
  obtain ⟨d, rfl⟩ : ∃ d, d2 = d + 5 := ⟨d2 - 5, by omega⟩
  have hG : 152 ≤ w.2.2.2 := hH.1
  have hn := rs_nlt (j := j)
  rw [show eg_mL 73 = 5 from by decide +kernel]
  show et_go none (d + 5) 73 0 [some (.ref rd), some (.ref (36 + j)), some (.int (Int32.ofNat b)), some (.int e), none] [] w.2.2 0 0 (hi_Z et_TT w [] [(.inl (some (.inl (0, 1))), 0, 0)])
  refine hs_aload (i := 1) (p := 1) (by decide +kernel) rfl ?_
  refine hs_callv (mi := 294) (na := 0) (ci := 13) (lk := 5) (lm := 1) (by decide +kernel) rfl rfl rfl rfl rfl rfl (by omega) (by rw [rs_con hj]; rfl) (rs_len hG hj (hs_cb ?_))
  show et_go none _ 73 4 _ [.int (Int32.ofNat (rs_n j))] _ 0 0 _
  refine hs_iload (i := 3) (p := 5) (by decide +kernel) rfl ?_
  refine hs_iload (i := 2) (p := 6) (by decide +kernel) rfl ?_
  refine hs_isub (p := 7) (by decide +kernel) ?_
  refine hs_br2 (c := .eq) (t := 12) (f := 10) (by decide +kernel) (fun (c7 : Int32.ofNat (rs_n j) = (e - Int32.ofNat b)) => ?_) (fun (c7 : ¬ (Int32.ofNat (rs_n j) = (e - Int32.ofNat b))) => ?_)
  · refine hs_k (x := Int32.ofNat 0) (p := 13) (by decide +kernel) ?_
    refine hs_istore (i := 4) (p := 15) (by decide +kernel) (Nat.le_of_ble_eq_true rfl) ?_
    show et_go none (d + 5) 73 15 [some (.ref rd), some (.ref (36 + j)), some (.int (Int32.ofNat b)), some (.int e), some (.int (Int32.ofNat 0))] [] _ 0 0 _
    exact hn_tx hH k_rd hj hb (Nat.zero_le _)
  · refine hs_k (x := Int32.ofNat 0) (p := 11) (by decide +kernel) ?_
    refine hs_zret (by decide +kernel) (.inl rfl) ?_
    exact ⟨_, List.mem_cons_self, _, et_ex.rf, et_fr.rf, hH, ⟨_, rfl, hi_iv (by decide) (by decide)⟩, Nat.le_refl _, Nat.le_refl _⟩
end RTX
