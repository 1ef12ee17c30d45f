section
/-! BY HAND, OVER A TYPED HEAP: turnBy -/
def hi_MTB : et_M := [(14, 0, 4), (29, 0, 399)]
def hq_turnBy : et_Co := (249, [.inr (.inr (0, 13)), .inl (0, 3), .inl (et_mn, et_mx), .inl (et_mn, et_mx), .inl (et_mn, et_mx)], hi_MTB, [(.inl (some (.inl (et_mn, et_mx))), 0, 0)], 6)
theorem hi_lines {K : et_K} {d am t : Nat} {G : eg_G} {Z : eg_O → Prop} (hH : et_H et_TT K G) (ha : K am = some 13) (ht : t < 14) (h : ∀ l : Nat, l ≤ 10 → (∀ (W : Nat → Int32) (aw : Nat), et_pl (eg_at G am) 1 = some (.ref aw) → eg_at G aw = hm_W W → gq_G W → ∀ n, n < l → gq_L W (126 + 841 * t) n 400) → Z (.inl (some (.int (Int32.ofNat l))), G, 0, 0)) : et_go none (d + 1) 250 0 [some (.ref am), some (.int (Int32.ofNat t))] [] G 0 0 Z := by
  obtain ⟨F, W, aw, hA, eF, eW, hw, hKw, hF, hX, hW, hG, e⟩ := hi_mod hH ha
  obtain ⟨l, h1, h2, h3⟩ := hG t ht
  have h9 := h l h2 (fun W' aw' e1 e2 _ n hn => by
    rw [eF, hi_pF (by decide), hw] at e1
    cases e1
    rw [eW] at e2
    cases e2
    exact h3 n (.inl hn))
  rw [e] at h9 ⊢
  refine hs_aload (i := 0) (p := 1) (by decide +kernel) rfl ?_
  refine hm_get hA (f := 1) (p := 4) (by decide +kernel) rfl hw ?_
  refine hs_iload (i := 1) (p := 5) (by decide +kernel) rfl ?_
  refine hs_calls (mi := 186) (na := 1) (lk := 2) (lm := 1) (by decide +kernel) rfl rfl rfl rfl rfl rfl rfl (rp_textAt (hs_cb ?_))
  show et_go none _ 250 8 _ [.int (Int32.ofNat (126 + 841 * t)), .ref aw] _ _ _ _
  refine hm_rwv hA (p := 9) (x := Int32.ofNat l) (by decide +kernel) (by omega) h1 ?_
  refine hs_iret (by decide +kernel) ?_
  exact h9
theorem hi_turnL {w : et_Wd} {K : et_K} {G : eg_G} {d am t n : Nat} {so va kn : Int32} (hH : et_H et_TT K G) (k_am : K am = some 13) (ht : t ≤ 3) (hn : n ≤ 10) (hx0 : et_ex w.1 K) (hf : et_fr hi_MTB w.1 w.2.2 G) : et_go none (d + 4) 249 26 [some (.ref am), some (.int (Int32.ofNat t)), some (.int so), some (.int va), some (.int kn), some (.int (Int32.ofNat (4 + t))), some (.int (Int32.ofNat n))] [] G 0 0 (hi_Z et_TT w hi_MTB [(.inl (some (.inl (et_mn, et_mx))), 0, 0)]) := by
  induction hm : 10 - n using Nat.strongRecOn generalizing n K G with
  | _ z ih =>
    refine hs_iload (i := 6) (p := 28) (by decide +kernel) rfl ?_
    refine hs_aload (i := 0) (p := 29) (by decide +kernel) rfl ?_
    refine hs_iload (i := 5) (p := 31) (by decide +kernel) rfl ?_
    refine ht_callv (T := et_TT) (t := 13) (mi := 250) (na := 1) (ci := 11) (lk := 7) (lm := 2) (by decide +kernel) rfl hH k_am rfl rfl rfl rfl rfl rfl ?_
    refine hi_lines hH k_am (by omega) (fun l hl0 hl => hs_cb ?_)
    show et_go none _ 249 34 _ [.int (Int32.ofNat l), .int (Int32.ofNat n)] _ _ _ _
    refine hs_br2n (c := .ge) (t := 85) (f := 37) (by decide +kernel) (by omega) (by omega) (fun (c34 : l ≤ n) => ?_) (fun (c34 : ¬ (l ≤ n)) => ?_)
    · refine hs_k (x := Int32.ofNat 0) (p := 86) (by decide +kernel) ?_
      refine hs_iret (by decide +kernel) ?_
      exact ⟨_, List.mem_cons_self, _, hx0, hf, hH, ⟨_, rfl, hi_any⟩, Nat.le_refl _, Nat.le_refl _⟩
    · refine hs_aload (i := 0) (p := 38) (by decide +kernel) rfl ?_
      refine ht_getr (T := et_TT) (t := 13) (ci := 11) (f := 1) (p := 41) (by decide +kernel) rfl rfl hH k_am (fun a38 k_a38 e38 => ?_)
      refine hs_iload (i := 5) (p := 43) (by decide +kernel) rfl ?_
      refine hs_iload (i := 6) (p := 45) (by decide +kernel) rfl ?_
      refine hs_calls (mi := 189) (na := 2) (lk := 7) (lm := 2) (by decide +kernel) rfl rfl rfl rfl rfl rfl rfl (rp_lineAt (hs_cb ?_))
      show et_go none _ 249 48 _ [.int (Int32.ofNat (126 + 841 * (4 + t) + 1 + 4 * n)), .ref a38] _ _ _ _
      refine ht_ild (T := et_TT) (t := 46) (N := 12741) (p := 49) (by decide +kernel) rfl hH k_a38 (by omega) (by decide) (fun x48 s48 e48 => ?_)
      refine hs_iload (i := 2) (p := 50) (by decide +kernel) rfl ?_
      refine hs_br2 (c := .ne) (t := 79) (f := 53) (by decide +kernel) (fun (c50 : ¬ x48 = so) => ?_) (fun (c50 : ¬ (¬ x48 = so)) => ?_)
      · refine hs_iinc1 (i := 6) (p := 82) (by decide +kernel) rfl (Nat.le_of_ble_eq_true rfl) ?_
        refine hs_goto (p := 26) (by decide +kernel) ?_
        exact ih (10 - (n + 1)) (by omega) hH k_am (by omega) hx0 hf rfl
      · refine hs_aload (i := 0) (p := 54) (by decide +kernel) rfl ?_
        refine hs_iload (i := 5) (p := 56) (by decide +kernel) rfl ?_
        refine hs_iload (i := 6) (p := 58) (by decide +kernel) rfl ?_
        refine ht_callv (T := et_TT) (t := 13) (mi := 216) (na := 2) (ci := 11) (lk := 7) (lm := 13) (L0 := eg_en (eg_mL 216) [.ref am, .int (Int32.ofNat (4 + t)), .int (Int32.ofNat n)]) (by decide +kernel) rfl hH k_am rfl rfl rfl rfl rfl (by rw [show eg_mL 216 = 13 from by decide +kernel]; first | done | rfl) ?_
        refine (hi_holds (w := (K, [], G)) hH k_am (by omega) (by omega) (by omega) (fun F W aw q1 q2 q3 q4 => hl W aw (by rw [q1, hi_pF (by decide)]; exact congrArg some q2) q3 q4 n (by omega))).mono (fun u hu => hs_cbv hu (fun v58 K2 G2 c2 s2 x2 f2 hH hv2 cl2 sl2 => ?_))
        have k_am := x2 _ _ k_am
        have hf := hf.tr hx0 (f2.wk (by decide +kernel))
        have hx0 := hx0.tr x2
        obtain rfl : c2 = 0 := Nat.le_zero.mp cl2
        obtain rfl : s2 = 0 := Nat.le_zero.mp sl2
        obtain ⟨b2, hb2, rfl⟩ := hi_nat hv2
        show et_go none _ 249 61 _ [.int (Int32.ofNat b2)] _ 0 0 _
        refine hs_br1 (c := .eq) (t := 79) (f := 64) (by decide +kernel) (fun (c61 : Int32.ofNat b2 = 0) => ?_) (fun (c61 : ¬ (Int32.ofNat b2 = 0)) => ?_)
        · refine hs_iinc1 (i := 6) (p := 82) (by decide +kernel) rfl (Nat.le_of_ble_eq_true rfl) ?_
          refine hs_goto (p := 26) (by decide +kernel) ?_
          exact ih (10 - (n + 1)) (by omega) hH k_am (by omega) hx0 hf rfl
        · refine hs_aload (i := 0) (p := 65) (by decide +kernel) rfl ?_
          refine ht_getr (T := et_TT) (t := 13) (ci := 11) (f := 1) (p := 68) (by decide +kernel) rfl rfl hH k_am (fun a65 k_a65 e65 => ?_)
          refine hs_iload (i := 5) (p := 70) (by decide +kernel) rfl ?_
          refine hs_iload (i := 6) (p := 72) (by decide +kernel) rfl ?_
          refine hs_calls (mi := 189) (na := 2) (lk := 7) (lm := 2) (by decide +kernel) rfl rfl rfl rfl rfl rfl rfl (rp_lineAt (hs_cb ?_))
          show et_go none _ 249 75 _ [.int (Int32.ofNat (126 + 841 * (4 + t) + 1 + 4 * n)), .ref a65] _ _ _ _
          refine hs_k (x := Int32.ofNat 1) (p := 76) (by decide +kernel) ?_
          refine hs_iaddn (p := 77) (by decide +kernel) ?_
          refine ht_ild (T := et_TT) (t := 46) (N := 12741) (p := 78) (by decide +kernel) rfl hH k_a65 (by omega) (by decide) (fun x77 s77 e77 => ?_)
          refine hs_iret (by decide +kernel) ?_
          exact ⟨_, List.mem_cons_self, _, hx0, hf, hH, ⟨_, rfl, hi_any⟩, Nat.le_refl _, Nat.le_refl _⟩
theorem hc_turnBy : et_cv et_TT hq_turnBy := by
  intro w as d2 hH hd hl hv
  obtain ⟨v, v1, v2, v3, v4, rfl⟩ := hi_len5 (show as.length = 5 from hl)
  obtain ⟨am, rfl, k_am⟩ := hi_ref (hv 0 _ _ rfl rfl)
  obtain ⟨t, ht, rfl⟩ := hi_nat (hv 1 _ _ rfl rfl)
  obtain ⟨so, rfl, -⟩ := hi_int (hv 2 _ _ rfl rfl)
  obtain ⟨va, rfl, -⟩ := hi_int (hv 3 _ _ rfl rfl)
  obtain ⟨kn, rfl, -⟩ := hi_int (hv 4 _ _ rfl rfl)
  obtain ⟨d, rfl⟩ : ∃ d, d2 = d + 4 := ⟨d2 - 4, by have : 6 ≤ d2 := hd; omega⟩
  have hx0 : et_ex w.1 w.1 := et_ex.rf
  have hf : et_fr hi_MTB w.1 w.2.2 w.2.2 := et_fr.rf
  rw [show eg_mL 249 = 7 from by decide +kernel]
  show et_go none (d + 4) 249 0 [some (.ref am), some (.int (Int32.ofNat t)), some (.int so), some (.int va), some (.int kn), none, none] [] w.2.2 0 0 (hi_Z et_TT w hi_MTB [(.inl (some (.inl (et_mn, et_mx))), 0, 0)])
  refine hs_k (x := Int32.ofNat 4) (p := 1) (by decide +kernel) ?_
  refine hs_iload (i := 1) (p := 2) (by decide +kernel) rfl ?_
  refine hs_iaddn (p := 3) (by decide +kernel) ?_
  refine hs_istore (i := 5) (p := 5) (by decide +kernel) (Nat.le_of_ble_eq_true rfl) ?_
  refine hs_aload (i := 0) (p := 6) (by decide +kernel) rfl ?_
  refine ht_getr (T := et_TT) (t := 13) (ci := 11) (f := 14) (p := 9) (by decide +kernel) rfl rfl hH k_am (fun a6 k_a6 e6 => ?_)
  refine hs_k (x := Int32.ofNat 1) (p := 10) (by decide +kernel) ?_
  refine hs_iload (i := 3) (p := 11) (by decide +kernel) rfl ?_
  refine ht_ist (M := hi_MTB) (T := et_TT) (t := 14) (N := 5) (p := 12) (by decide +kernel) rfl rfl (by decide) hH k_a6 (by omega) (by decide) (fun s hs => absurd hs List.not_mem_nil) (by decide +kernel) (fun G11 hH f11 => ?_)
  have hf := hf.tr hx0 f11
  refine hs_aload (i := 0) (p := 13) (by decide +kernel) rfl ?_
  refine ht_getr (T := et_TT) (t := 13) (ci := 11) (f := 14) (p := 16) (by decide +kernel) rfl rfl hH k_am (fun a13 k_a13 e13 => ?_)
  refine hs_k (x := Int32.ofNat 2) (p := 17) (by decide +kernel) ?_
  refine hs_iload (i := 4) (p := 19) (by decide +kernel) rfl ?_
  refine hs_math (mi := 309) (lk := 7) (p := 22) (by decide +kernel) rfl rfl rfl rfl ?_
  refine ht_ist (M := hi_MTB) (T := et_TT) (t := 14) (N := 5) (p := 23) (by decide +kernel) rfl rfl (by decide) hH k_a13 (by omega) (by decide) (fun s hs => absurd hs List.not_mem_nil) (by decide +kernel) (fun G22 hH f22 => ?_)
  have hf := hf.tr hx0 f22
  refine hs_k (x := Int32.ofNat 0) (p := 24) (by decide +kernel) ?_
  refine hs_istore (i := 6) (p := 26) (by decide +kernel) (Nat.le_of_ble_eq_true rfl) ?_
  exact hi_turnL hH k_am (by omega) (n := 0) (by omega) hx0 hf
end
section
/-! CONTRACTS BY HAND: the counting sort -/
def hq_sorts (a b : Nat) : et_Co := (267, [.inr (.inr (0, 13)), .inl (0, 2), .inr (.inr (0, a)), .inr (.inr (0, b)), .inl (et_mn, et_mx)], [(22, 0, 32768), (b, 0, 65535)], [(.inl none, 0, 0)], 6)
theorem hi_w45 : ∀ e, e < 3 → (45 + 23 * e, 45 + 23 * e, (.inl (0, 6) : et_P)) ∈ et_w46 := by
  intro e he
  have : e = 0 ∨ e = 1 ∨ e = 2 := by omega
  rcases this with rfl | rfl | rfl
  · exact List.mem_of_getElem? (i := 4) rfl
  · exact List.mem_of_getElem? (i := 5) rfl
  · exact List.mem_of_getElem? (i := 6) rfl
theorem hc_sorts {a b : Nat} (hab : (a = 35 ∧ b = 48) ∨ (a = 48 ∧ b = 35)) : et_cv et_TT (hq_sorts a b) := by
  intro w as d2 hH hd hl hv
  obtain ⟨v, v1, v2, v3, v4, rfl⟩ := hi_len5 (show as.length = 5 from hl)
  obtain ⟨am, rfl, ha⟩ := hi_ref (hv 0 _ _ rfl rfl)
  obtain ⟨e, he, rfl⟩ := hi_nat (hv 1 _ _ rfl rfl)
  obtain ⟨fr, rfl, kf⟩ := hi_ref (hv 2 _ _ rfl rfl)
  obtain ⟨tt, rfl, kt⟩ := hi_ref (hv 3 _ _ rfl rfl)
  obtain ⟨sh, rfl, -⟩ := hi_int (hv 4 _ _ rfl rfl)
  obtain ⟨F, W, aw, hA, eF, eW, hw, hKw, hF, hX, hW, hG, e0⟩ := hi_mod hH ha
  obtain ⟨mn, hmn, km⟩ := hi_ref (hF 32 _ rfl)
  have hTa : et_TT[a]? = some (.inr (0, 65536, [(0, 65535, .inl (0, 65535))])) := by rcases hab with ⟨rfl, -⟩ | ⟨rfl, -⟩ <;> rfl
  have hTb : et_TT[b]? = some (.inr (0, 65536, [(0, 65535, .inl (0, 65535))])) := by rcases hab with ⟨-, rfl⟩ | ⟨-, rfl⟩ <;> rfl
  obtain ⟨AA, eA, hAA, -⟩ := hi_arr hH kf hTa (by decide) (.inl rfl)
  obtain ⟨TB, eB, hTB, -⟩ := hi_arr hH kt hTb (by decide) (.inl rfl)
  obtain ⟨MM, eM, -⟩ := hi_arr (t := 22) (kd := 0) (n := 32769) (ss := []) hH km rfl (by decide) (.inl rfl)
  obtain ⟨d, rfl⟩ : ∃ d, d2 = d + 6 := ⟨d2 - 6, by have : 6 ≤ d2 := hd; omega⟩
  obtain ⟨wn, hwn, hwn2⟩ := hi_natW (hW _ (hi_w45 e (by omega)) (45 + 23 * e) (Nat.le_refl _) (Nat.le_refl _))
  have hb2 : 2 ≤ b := by omega
  have gm := hi_at hH km (by decide)
  have gt := hi_at hH kt hb2
  have hne : mn ≠ tt := hi_ne km kt (by omega)
  have hV : ss_V w.2.2 am aw mn tt fr F AA := ⟨hA, hw, ⟨hmn, hi_ne km ha (by decide), hi_ne km hKw (by decide), gm⟩, ⟨hi_ne kt ha (by omega), hi_ne kt hKw (by omega), gt.1, gt.2, hne⟩, hi_ne kf ha (by omega), hi_ne kf hKw (by omega), hi_ne kf km (by omega), hi_ne kf kt (by omega), (hi_at hH kf (by omega)).2, eA⟩
  rw [show eg_mL 267 = 7 from by decide +kernel]
  have h0 := rp_sorts (d := d) (Z := hi_Z et_TT w [(22, 0, 32768), (b, 0, 65535)] [(.inl none, 0, 0)]) hV (W := W) (M := MM) (T := TB) (sh := sh) (e := e) (wn := wn) (by omega) hwn2 (by omega) (fun M' T' hT' => by
    have g1 : et_H et_TT w.1 (eg_u w.2.2 mn (ss_m M')) := hi_uarr (t := 22) (kd := 0) (n := 32769) (ss := []) hH km (by decide) rfl (.inl rfl) (fun s hs => absurd hs List.not_mem_nil) (fun _ h => by omega)
    have f1 : et_fr [(22, 0, 32768), (b, 0, 65535)] w.1 w.2.2 (eg_u w.2.2 mn (ss_m M')) := hi_frM hH km (by decide) (fun i hi => by
      rw [eM]
      show (if i < 32769 then some (Value.int (M' i)) else none) = (if i < 32769 then some (Value.int (MM i)) else none)
      by_cases h : i < 32769
      · exfalso
        unfold et_mm at hi
        simp at hi
        omega
      · rw [if_neg h, if_neg h])
    have g2 : et_H et_TT w.1 (eg_u (eg_u w.2.2 mn (ss_m M')) tt (ss_t T')) := hi_uarr (kd := 0) (n := 65536) g1 kt hb2 hTb (.inl rfl) (fun s hs i i1 i2 i3 => by
      obtain rfl : s = (0, 65535, .inl (0, 65535)) := by simpa using hs
      rcases hT' i with h | ⟨j, hj, h⟩
      · rw [h]; exact hTB _ List.mem_cons_self i i1 i2 i3
      · rw [h]; exact hAA _ List.mem_cons_self j (Nat.zero_le _) (by show j ≤ 65535; omega) hj) (fun _ h => by omega)
    have f2 : et_fr [(22, 0, 32768), (b, 0, 65535)] w.1 (eg_u w.2.2 mn (ss_m M')) (eg_u (eg_u w.2.2 mn (ss_m M')) tt (ss_t T')) := hi_frM g1 kt hb2 (fun i hi => by
      rw [et_at_u hne.symm, eB]
      show (if i < 65536 then some (Value.int (T' i)) else none) = (if i < 65536 then some (Value.int (TB i)) else none)
      by_cases h : i < 65536
      · exfalso
        unfold et_mm at hi
        simp at hi
        omega
      · rw [if_neg h, if_neg h])
    have n1 : am ≠ mn := hi_ne ha km (by decide)
    have n2 : aw ≠ mn := hi_ne hKw km (by decide)
    have n3 : am ≠ tt := hi_ne ha kt (by omega)
    have n4 : aw ≠ tt := hi_ne hKw kt (by omega)
    exact ⟨_, List.mem_cons_self, w.1, et_ex.rf, (f1.tr et_ex.rf f2).tr et_ex.rf (hi_fr g2 ha hKw ((hi_uc n3).trans ((hi_uc n1).trans eF)) ((hi_uc n4).trans ((hi_uc n2).trans eW)) (fun _ _ => rfl) (fun _ _ _ => rfl)), hi_fin g2 ha hKw hF hX hW hG, rfl, Nat.le_refl _, Nat.le_refl _⟩)
  unfold ss_H at h0
  rw [show eg_u w.2.2 mn (ss_m MM) = w.2.2 from hm_same eM gm.1, show eg_u w.2.2 tt (ss_t TB) = w.2.2 from hm_same eB gt.1, ← e0] at h0
  exact h0
end
section
/-! BY HAND: looksAt -/
def rl_b (B : Nat → Int32) : eg_C := .inl (0, (6, .inl B))
section RPL
variable {d am aw td vs bs : Nat} {G : eg_G} {F : Nat → Value} {W B TD VS : Nat → Int32} {Z : eg_O → Prop}
def rl_V (G : eg_G) (am aw td vs bs : Nat) (F : Nat → Value) (TD VS : Nat → Int32) : Prop := hm_ok G am aw ∧ F 1 = .ref aw ∧ (F 21 = .ref td ∧ td ≠ am ∧ td ≠ aw ∧ td ≠ bs ∧ td < G.2 ∧ eg_at G td = .inl (0, (6, .inl TD))) ∧ (F 20 = .ref vs ∧ vs ≠ am ∧ vs ≠ aw ∧ vs ≠ bs ∧ vs < G.2 ∧ eg_at G vs = .inl (0, (120, .inl VS))) ∧ (F 22 = .ref bs ∧ bs ≠ am ∧ bs ≠ aw ∧ eg_NC ≤ bs ∧ bs < G.2)
def rl_H (G : eg_G) (am aw bs : Nat) (F : Nat → Value) (W B : Nat → Int32) : eg_G := hm_H (eg_u G bs (rl_b B)) am aw F W
theorem rl_ok (hV : rl_V G am aw td vs bs F TD VS) : hm_ok (eg_u G bs (rl_b B)) am aw := hV.1
theorem rl_td {F' : Nat → Value} {k pc ck sk p n : Nat} {L : eg_Ls} {r : List Value} (hV : rl_V G am aw td vs bs F TD VS) (hc : hs_o k pc = some (.iaload, p)) (hn : n < 6) (h : et_go none d k p L (.int (TD n) :: r) (rl_H G am aw bs F' W B) ck sk Z) : et_go none d k pc L (.int (Int32.ofNat n) :: .ref td :: r) (rl_H G am aw bs F' W B) ck sk Z := by
  obtain ⟨-, -, ⟨-, h1, h2, h3, h4, h5⟩, -⟩ := hV
  exact hs_iald hc ((hm_o h1 h2).trans ((et_at_u h3).trans h5)) h4 (by decide) hn h
theorem rl_vs {F' : Nat → Value} {k pc ck sk p n : Nat} {L : eg_Ls} {r : List Value} (hV : rl_V G am aw td vs bs F TD VS) (hc : hs_o k pc = some (.iaload, p)) (hn : n < 120) (h : et_go none d k p L (.int (VS n) :: r) (rl_H G am aw bs F' W B) ck sk Z) : et_go none d k pc L (.int (Int32.ofNat n) :: .ref vs :: r) (rl_H G am aw bs F' W B) ck sk Z := by
  obtain ⟨-, -, -, ⟨-, h1, h2, h3, h4, h5⟩, -⟩ := hV
  exact hs_iald hc ((hm_o h1 h2).trans ((et_at_u h3).trans h5)) h4 (by decide) hn h
theorem rl_bs {F' : Nat → Value} {k pc ck sk p n : Nat} {x : Int32} {L : eg_Ls} {r : List Value} (hV : rl_V G am aw td vs bs F TD VS) (hc : hs_o k pc = some (.iastore, p)) (hn : n < 6) (h : et_go none d k p L r (rl_H G am aw bs F' W (upd B n x)) ck sk Z) : et_go none d k pc L (.int x :: .int (Int32.ofNat n) :: .ref bs :: r) (rl_H G am aw bs F' W B) ck sk Z := by
  obtain ⟨-, -, -, -, -, h1, h2, h3, h4⟩ := hV
  refine hs_iast hc ((hm_o h1 h2).trans (et_at_us h3)) ⟨h3, h4⟩ (by decide) hn ?_
  unfold rl_H
  rw [hm_ex h1 h2, hm_uu]
  exact h
theorem rl_cards {c : Nat} {F W} (hA : hm_ok G am aw) (hw : F 1 = .ref aw) (hc : W 3 = Int32.ofNat c) (h : Z (.inl (some (.int (Int32.ofNat c))), hm_H G am aw F W, 0, 0)) : et_go none d 218 0 [some (.ref am)] [] (hm_H G am aw F W) 0 0 Z := by
  refine hs_aload (i := 0) (p := 1) (by decide +kernel) rfl ?_
  refine hm_get hA (f := 1) (p := 4) (by decide +kernel) rfl hw ?_
  refine hs_k (x := Int32.ofNat 3) (p := 5) (by decide +kernel) ?_
  refine hm_rwv hA (p := 6) (x := Int32.ofNat c) (by decide +kernel) (by decide) hc ?_
  refine hs_iret (by decide +kernel) ?_
  exact h
theorem rl_yes {c : Nat} {F W} (hA : hm_ok G am aw) (hw : F 1 = .ref aw) (hc : c < 20) (h : ∀ y, y ≤ 1 → Z (.inl (some (.int (Int32.ofNat y))), hm_H G am aw F W, 0, 0)) : et_go none d 240 0 [some (.ref am), some (.int (Int32.ofNat c))] [] (hm_H G am aw F W) 0 0 Z := by
  refine hs_aload (i := 0) (p := 1) (by decide +kernel) rfl ?_
  refine hm_get hA (f := 1) (p := 4) (by decide +kernel) rfl hw ?_
  refine hs_k (x := Int32.ofNat 5) (p := 5) (by decide +kernel) ?_
  refine hs_k (x := Int32.ofNat 2) (p := 6) (by decide +kernel) ?_
  refine hs_iload (i := 1) (p := 7) (by decide +kernel) rfl ?_
  refine hs_imuln (p := 8) (by decide +kernel) ?_
  refine hs_iaddn (p := 9) (by decide +kernel) ?_
  refine hs_k (x := Int32.ofNat 1) (p := 10) (by decide +kernel) ?_
  refine hs_iaddn (p := 11) (by decide +kernel) ?_
  refine hm_rw hA (p := 12) (by decide +kernel) (by omega) ?_
  refine hs_k (x := Int32.ofNat 1) (p := 13) (by decide +kernel) ?_
  refine hs_br2 (c := .ne) (t := 20) (f := 16) (by decide +kernel) (fun (c13 : ¬ (W ((5 + (2 * c)) + 1)) = Int32.ofNat 1) => ?_) (fun (c13 : ¬ (¬ (W ((5 + (2 * c)) + 1)) = Int32.ofNat 1)) => ?_)
  · refine hs_k (x := Int32.ofNat 0) (p := 21) (by decide +kernel) ?_
    refine hs_zret (by decide +kernel) (.inl rfl) ?_
    exact h _ (by decide)
  · refine hs_k (x := Int32.ofNat 1) (p := 17) (by decide +kernel) ?_
    refine hs_goto (p := 21) (by decide +kernel) ?_
    refine hs_zret (by decide +kernel) (.inr rfl) ?_
    exact h _ (by decide)
theorem rl_trL (hV : rl_V G am aw td vs bs F TD VS) {e wn : Nat} (he : e ≤ 2) (hw : W (45 + 23 * e + 0) = Int32.ofNat wn) (hwn : wn ≤ 6) {c i : Nat} {su : Int32} (hc : c < 20) (hi : i ≤ 6) (h : ∀ x, Z (.inl (some (.int x)), (rl_H G am aw bs F W B), 0, 0)) : et_go none (d + 2) 258 5 [some (.ref am), some (.int (Int32.ofNat e)), some (.int (Int32.ofNat c)), some (.int su), some (.int (Int32.ofNat i))] [] (rl_H G am aw bs F W B) 0 0 Z := by
  induction hm : wn - i using Nat.strongRecOn generalizing i su with
  | _ z ih =>
    refine hs_iload (i := 4) (p := 7) (by decide +kernel) rfl ?_
    refine hs_aload (i := 0) (p := 8) (by decide +kernel) rfl ?_
    refine hs_iload (i := 1) (p := 9) (by decide +kernel) rfl ?_
    refine hm_call (rl_ok hV) (mi := 224) (na := 1) (lk := 5) (lm := 2) (by decide +kernel) rfl rfl rfl rfl rfl rfl (rp_wires (rl_ok hV) hV.2.1 (by omega) (hs_cb ?_))
    rw [hw]
    show et_go none _ 258 12 _ [.int (Int32.ofNat wn), .int (Int32.ofNat i)] _ 0 0 _
    refine hs_br2n (c := .ge) (t := 44) (f := 15) (by decide +kernel) (by omega) (by omega) (fun (c12 : wn ≤ i) => ?_) (fun (c12 : ¬ (wn ≤ i)) => ?_)
    · refine hs_iload (i := 3) (p := 45) (by decide +kernel) rfl ?_
      refine hs_iret (by decide +kernel) ?_
      exact h _
    · refine hs_iload (i := 3) (p := 16) (by decide +kernel) rfl ?_
      refine hs_aload (i := 0) (p := 17) (by decide +kernel) rfl ?_
      refine hm_get (rl_ok hV) (f := 21) (p := 20) (by decide +kernel) rfl hV.2.2.1.1 ?_
      refine hs_iload (i := 4) (p := 22) (by decide +kernel) rfl ?_
      refine rl_td hV (p := 23) (by decide +kernel) (by omega) ?_
      refine hs_aload (i := 0) (p := 24) (by decide +kernel) rfl ?_
      refine hm_get (rl_ok hV) (f := 20) (p := 27) (by decide +kernel) rfl hV.2.2.2.1.1 ?_
      refine hs_k (x := Int32.ofNat 6) (p := 29) (by decide +kernel) ?_
      refine hs_iload (i := 2) (p := 30) (by decide +kernel) rfl ?_
      refine hs_imuln (p := 31) (by decide +kernel) ?_
      refine hs_iload (i := 4) (p := 33) (by decide +kernel) rfl ?_
      refine hs_iaddn (p := 34) (by decide +kernel) ?_
      refine rl_vs hV (p := 35) (by decide +kernel) (by omega) ?_
      refine hs_imul (p := 36) (by decide +kernel) ?_
      refine hs_iadd (p := 37) (by decide +kernel) ?_
      refine hs_istore (i := 3) (p := 38) (by decide +kernel) (Nat.le_of_ble_eq_true rfl) ?_
      refine hs_iinc1 (i := 4) (p := 41) (by decide +kernel) rfl (Nat.le_of_ble_eq_true rfl) ?_
      refine hs_goto (p := 5) (by decide +kernel) ?_
      exact ih (wn - (i + 1)) (by omega) (by omega) rfl
theorem rl_tried (hV : rl_V G am aw td vs bs F TD VS) {e wn : Nat} (he : e ≤ 2) (hw : W (45 + 23 * e + 0) = Int32.ofNat wn) (hwn : wn ≤ 6) {c : Nat} (hc : c < 20) (h : ∀ x, Z (.inl (some (.int x)), (rl_H G am aw bs F W B), 0, 0)) : et_go none (d + 2) 258 0 [some (.ref am), some (.int (Int32.ofNat e)), some (.int (Int32.ofNat c)), none, none] [] (rl_H G am aw bs F W B) 0 0 Z := by
  refine hs_k (x := Int32.ofNat 0) (p := 1) (by decide +kernel) ?_
  refine hs_istore (i := 3) (p := 2) (by decide +kernel) (Nat.le_of_ble_eq_true rfl) ?_
  refine hs_k (x := Int32.ofNat 0) (p := 3) (by decide +kernel) ?_
  refine hs_istore (i := 4) (p := 5) (by decide +kernel) (Nat.le_of_ble_eq_true rfl) ?_
  exact rl_trL hV he hw hwn hc (by omega) h
theorem rl_A (hV : rl_V G am aw td vs bs F TD VS) {e wn : Nat} (he : e ≤ 2) (hw : W (45 + 23 * e + 0) = Int32.ofNat wn) (hwn : wn ≤ 6) {c : Nat} (hc : W 3 = Int32.ofNat c) (hc20 : c ≤ 20) {n : Nat} {le gr lo : Int32} {x6 x7 : Option Value} (hn : n ≤ c) (hlt : gr < le) (h : ∀ (n : Nat) (le gr lo : Int32) (x6 x7 : Option Value), n ≤ c → (n < c ∨ gr < le) → et_go none (d + 4) 257 83 [some (.ref am), some (.int (Int32.ofNat e)), some (.int le), some (.int gr), some (.int (Int32.ofNat n)), some (.int lo), x6, x7] [] (rl_H G am aw bs F W B) 0 0 Z) : et_go none (d + 4) 257 16 [some (.ref am), some (.int (Int32.ofNat e)), some (.int le), some (.int gr), some (.int (Int32.ofNat n)), some (.int lo), x6, x7] [] (rl_H G am aw bs F W B) 0 0 Z := by
  induction hm : c - n using Nat.strongRecOn generalizing n le gr lo x6 x7 with
  | _ z ih =>
    refine hs_iload (i := 4) (p := 18) (by decide +kernel) rfl ?_
    refine hs_aload (i := 0) (p := 19) (by decide +kernel) rfl ?_
    refine hm_call (rl_ok hV) (mi := 218) (na := 0) (lk := 8) (lm := 1) (by decide +kernel) rfl rfl rfl rfl rfl rfl (rl_cards (rl_ok hV) hV.2.1 hc (hs_cb ?_))
    show et_go none _ 257 22 _ [.int (Int32.ofNat c), .int (Int32.ofNat n)] _ 0 0 _
    refine hs_br2n (c := .ge) (t := 83) (f := 25) (by decide +kernel) (by omega) (by omega) (fun (c22 : c ≤ n) => ?_) (fun (c22 : ¬ (c ≤ n)) => ?_)
    · exact h n _ _ _ _ _ hn (.inr hlt)
    · refine hs_aload (i := 0) (p := 26) (by decide +kernel) rfl ?_
      refine hs_iload (i := 1) (p := 27) (by decide +kernel) rfl ?_
      refine hs_iload (i := 4) (p := 29) (by decide +kernel) rfl ?_
      refine hm_call (rl_ok hV) (mi := 258) (na := 2) (lk := 8) (lm := 5) (by decide +kernel) rfl rfl rfl rfl rfl rfl (rl_tried hV he hw hwn (by omega) (fun x258 => hs_cb ?_))
      show et_go none _ 257 32 _ [.int x258] _ 0 0 _
      refine hs_istore (i := 6) (p := 34) (by decide +kernel) (Nat.le_of_ble_eq_true rfl) ?_
      refine hs_iload (i := 5) (p := 36) (by decide +kernel) rfl ?_
      refine hs_iload (i := 6) (p := 38) (by decide +kernel) rfl ?_
      refine hs_math (mi := 311) (lk := 8) (p := 41) (by decide +kernel) rfl rfl rfl rfl ?_
      refine hs_istore (i := 5) (p := 43) (by decide +kernel) (Nat.le_of_ble_eq_true rfl) ?_
      refine hs_aload (i := 0) (p := 44) (by decide +kernel) rfl ?_
      refine hs_iload (i := 4) (p := 46) (by decide +kernel) rfl ?_
      refine hm_call (rl_ok hV) (mi := 240) (na := 1) (lk := 8) (lm := 2) (by decide +kernel) rfl rfl rfl rfl rfl rfl (rl_yes (rl_ok hV) hV.2.1 (by omega) (fun y hy => hs_cb ?_))
      show et_go none _ 257 49 _ [.int (Int32.ofNat y)] _ 0 0 _
      refine hs_br1 (c := .eq) (t := 62) (f := 52) (by decide +kernel) (fun (c49 : Int32.ofNat y = 0) => ?_) (fun (c49 : ¬ (Int32.ofNat y = 0)) => ?_)
      · refine hs_iload (i := 3) (p := 63) (by decide +kernel) rfl ?_
        refine hs_iload (i := 6) (p := 65) (by decide +kernel) rfl ?_
        refine hs_math (mi := 310) (lk := 8) (p := 68) (by decide +kernel) rfl rfl rfl rfl ?_
        refine hs_istore (i := 3) (p := 69) (by decide +kernel) (Nat.le_of_ble_eq_true rfl) ?_
        refine hs_iload (i := 2) (p := 70) (by decide +kernel) rfl ?_
        refine hs_iload (i := 3) (p := 71) (by decide +kernel) rfl ?_
        refine hs_br2 (c := .gt) (t := 77) (f := 74) (by decide +kernel) (fun (c71 : (if gr < x258 then x258 else gr) < le) => ?_) (fun (c71 : ¬ ((if gr < x258 then x258 else gr) < le)) => ?_)
        · refine hs_iinc1 (i := 4) (p := 80) (by decide +kernel) rfl (Nat.le_of_ble_eq_true rfl) ?_
          refine hs_goto (p := 16) (by decide +kernel) ?_
          exact ih (c - (n + 1)) (by omega) (by omega) c71 rfl
        · refine hs_goto (p := 83) (by decide +kernel) ?_
          exact h n _ _ _ _ _ hn (.inl (by omega))
      · refine hs_iload (i := 2) (p := 53) (by decide +kernel) rfl ?_
        refine hs_iload (i := 6) (p := 55) (by decide +kernel) rfl ?_
        refine hs_math (mi := 311) (lk := 8) (p := 58) (by decide +kernel) rfl rfl rfl rfl ?_
        refine hs_istore (i := 2) (p := 59) (by decide +kernel) (Nat.le_of_ble_eq_true rfl) ?_
        refine hs_goto (p := 69) (by decide +kernel) ?_
        refine hs_iload (i := 2) (p := 70) (by decide +kernel) rfl ?_
        refine hs_iload (i := 3) (p := 71) (by decide +kernel) rfl ?_
        refine hs_br2 (c := .gt) (t := 77) (f := 74) (by decide +kernel) (fun (c71 : gr < (if x258 < le then x258 else le)) => ?_) (fun (c71 : ¬ (gr < (if x258 < le then x258 else le))) => ?_)
        · refine hs_iinc1 (i := 4) (p := 80) (by decide +kernel) rfl (Nat.le_of_ble_eq_true rfl) ?_
          refine hs_goto (p := 16) (by decide +kernel) ?_
          exact ih (c - (n + 1)) (by omega) (by omega) c71 rfl
        · refine hs_goto (p := 83) (by decide +kernel) ?_
          exact h n _ _ _ _ _ hn (.inl (by omega))
def rl_Q (F F' : Nat → Value) : Prop := (∀ j, (j < 23 ∨ 27 < j) → j ≠ 29 → F' j = F j) ∧ (∃ x, F' 23 = .int x) ∧ (∃ x, F' 24 = .int x) ∧ (∃ x, F' 27 = .int x) ∧ ((F' 29 = F 29 ∧ F' 25 = F 25 ∧ F' 26 = F 26) ∨ ∃ x y, F' 29 = .int (Int32.ofNat 1) ∧ F' 25 = .int x ∧ F' 26 = .int y ∧ ¬ x = y)
theorem rl_set {F : Nat → Value} {f : Nat} {v : Value} (hV : rl_V G am aw td vs bs F TD VS) (h1 : f ≠ 1) (h2 : f ≠ 21) (h3 : f ≠ 20) (h4 : f ≠ 22) : rl_V G am aw td vs bs (updV F f v) TD VS := by
  obtain ⟨a, b, ⟨c1, c2⟩, ⟨e1, e2⟩, g1, g2⟩ := hV
  exact ⟨a, (if_neg h1.symm).trans b, ⟨(if_neg h2.symm).trans c1, c2⟩, ⟨(if_neg h3.symm).trans e1, e2⟩, (if_neg h4.symm).trans g1, g2⟩
theorem rl_C (hV : rl_V G am aw td vs bs F TD VS) {e wn : Nat} (he : e ≤ 2) (hw : W (45 + 23 * e + 0) = Int32.ofNat wn) (hwn : wn ≤ 6) {i n : Nat} {le gr lo sm : Int32} (hi : i ≤ 6) (h : ∀ (B : Nat → Int32) (i : Nat), et_go none (d + 4) 257 204 [some (.ref am), some (.int (Int32.ofNat e)), some (.int le), some (.int gr), some (.int (Int32.ofNat n)), some (.int lo), some (.int sm), some (.int (Int32.ofNat i))] [] (rl_H G am aw bs F W B) 0 0 Z) : et_go none (d + 4) 257 174 [some (.ref am), some (.int (Int32.ofNat e)), some (.int le), some (.int gr), some (.int (Int32.ofNat n)), some (.int lo), some (.int sm), some (.int (Int32.ofNat i))] [] (rl_H G am aw bs F W B) 0 0 Z := by
  induction hm : wn - i using Nat.strongRecOn generalizing i B with
  | _ z ih =>
    refine hs_iload (i := 7) (p := 176) (by decide +kernel) rfl ?_
    refine hs_aload (i := 0) (p := 177) (by decide +kernel) rfl ?_
    refine hs_iload (i := 1) (p := 178) (by decide +kernel) rfl ?_
    refine hm_call (rl_ok hV) (mi := 224) (na := 1) (lk := 8) (lm := 2) (by decide +kernel) rfl rfl rfl rfl rfl rfl (rp_wires (rl_ok hV) hV.2.1 (by omega) (hs_cb ?_))
    rw [hw]
    show et_go none _ 257 181 _ [.int (Int32.ofNat wn), .int (Int32.ofNat i)] _ 0 0 _
    refine hs_br2n (c := .ge) (t := 204) (f := 184) (by decide +kernel) (by omega) (by omega) (fun (c181 : wn ≤ i) => ?_) (fun (c181 : ¬ (wn ≤ i)) => ?_)
    · exact h _ _
    · refine hs_aload (i := 0) (p := 185) (by decide +kernel) rfl ?_
      refine hm_get (rl_ok hV) (f := 22) (p := 188) (by decide +kernel) rfl hV.2.2.2.2.1 ?_
      refine hs_iload (i := 7) (p := 190) (by decide +kernel) rfl ?_
      refine hs_aload (i := 0) (p := 191) (by decide +kernel) rfl ?_
      refine hm_get (rl_ok hV) (f := 21) (p := 194) (by decide +kernel) rfl hV.2.2.1.1 ?_
      refine hs_iload (i := 7) (p := 196) (by decide +kernel) rfl ?_
      refine rl_td hV (p := 197) (by decide +kernel) (by omega) ?_
      refine rl_bs hV (p := 198) (by decide +kernel) (by omega) ?_
      refine hs_iinc1 (i := 7) (p := 201) (by decide +kernel) rfl (Nat.le_of_ble_eq_true rfl) ?_
      refine hs_goto (p := 174) (by decide +kernel) ?_
      exact ih (wn - (i + 1)) (by omega) (by omega) rfl
theorem rl_B (hV : rl_V G am aw td vs bs F TD VS) {e wn : Nat} (he : e ≤ 2) (hw : W (45 + 23 * e + 0) = Int32.ofNat wn) (hwn : wn ≤ 6) {i n : Nat} {le gr lo sm : Int32} (hi : i ≤ 6) (h : ∀ (sm : Int32) (i : Nat), et_go none (d + 4) 257 143 [some (.ref am), some (.int (Int32.ofNat e)), some (.int le), some (.int gr), some (.int (Int32.ofNat n)), some (.int lo), some (.int sm), some (.int (Int32.ofNat i))] [] (rl_H G am aw bs F W B) 0 0 Z) : et_go none (d + 4) 257 112 [some (.ref am), some (.int (Int32.ofNat e)), some (.int le), some (.int gr), some (.int (Int32.ofNat n)), some (.int lo), some (.int sm), some (.int (Int32.ofNat i))] [] (rl_H G am aw bs F W B) 0 0 Z := by
  induction hm : wn - i using Nat.strongRecOn generalizing i sm with
  | _ z ih =>
    refine hs_iload (i := 7) (p := 114) (by decide +kernel) rfl ?_
    refine hs_aload (i := 0) (p := 115) (by decide +kernel) rfl ?_
    refine hs_iload (i := 1) (p := 116) (by decide +kernel) rfl ?_
    refine hm_call (rl_ok hV) (mi := 224) (na := 1) (lk := 8) (lm := 2) (by decide +kernel) rfl rfl rfl rfl rfl rfl (rp_wires (rl_ok hV) hV.2.1 (by omega) (hs_cb ?_))
    rw [hw]
    show et_go none _ 257 119 _ [.int (Int32.ofNat wn), .int (Int32.ofNat i)] _ 0 0 _
    refine hs_br2n (c := .ge) (t := 143) (f := 122) (by decide +kernel) (by omega) (by omega) (fun (c119 : wn ≤ i) => ?_) (fun (c119 : ¬ (wn ≤ i)) => ?_)
    · exact h _ _
    · refine hs_iload (i := 6) (p := 124) (by decide +kernel) rfl ?_
      refine hs_aload (i := 0) (p := 125) (by decide +kernel) rfl ?_
      refine hm_get (rl_ok hV) (f := 21) (p := 128) (by decide +kernel) rfl hV.2.2.1.1 ?_
      refine hs_iload (i := 7) (p := 130) (by decide +kernel) rfl ?_
      refine rl_td hV (p := 131) (by decide +kernel) (by omega) ?_
      refine hs_math (mi := 309) (lk := 8) (p := 134) (by decide +kernel) rfl rfl rfl rfl ?_
      refine hs_iadd (p := 135) (by decide +kernel) ?_
      refine hs_istore (i := 6) (p := 137) (by decide +kernel) (Nat.le_of_ble_eq_true rfl) ?_
      refine hs_iinc1 (i := 7) (p := 140) (by decide +kernel) rfl (Nat.le_of_ble_eq_true rfl) ?_
      refine hs_goto (p := 112) (by decide +kernel) ?_
      exact ih (wn - (i + 1)) (by omega) (by omega) rfl
theorem rl_D (hV : rl_V G am aw td vs bs F TD VS) {e wn : Nat} (he : e ≤ 2) (hw : W (45 + 23 * e + 0) = Int32.ofNat wn) (hwn : wn ≤ 6) {c : Nat} (hc : W 3 = Int32.ofNat c) (hc20 : c ≤ 20) {lg so bsm : Int32} (hlg : F 27 = .int lg) (hso : F 29 = .int so) (hbm : F 23 = .int bsm) (h24 : ∃ x, F 24 = .int x) {n : Nat} {le gr lo : Int32} {x6 x7 : Option Value} (hn : n ≤ c) (hlt : n < c ∨ gr < le) (h : ∀ F' B', rl_Q F F' → Z (.inl none, (rl_H G am aw bs F' W B'), 0, 0)) : et_go none (d + 4) 257 83 [some (.ref am), some (.int (Int32.ofNat e)), some (.int le), some (.int gr), some (.int (Int32.ofNat n)), some (.int lo), x6, x7] [] (rl_H G am aw bs F W B) 0 0 Z := by
  obtain ⟨z24, hz24⟩ := h24
  refine hs_aload (i := 0) (p := 84) (by decide +kernel) rfl ?_
  refine hs_aload (i := 0) (p := 85) (by decide +kernel) rfl ?_
  refine hm_get (rl_ok hV) (f := 27) (p := 88) (by decide +kernel) rfl hlg ?_
  refine hs_iload (i := 4) (p := 90) (by decide +kernel) rfl ?_
  refine hs_math (mi := 310) (lk := 8) (p := 93) (by decide +kernel) rfl rfl rfl rfl ?_
  refine hm_put (rl_ok hV) (f := 27) (ty := .int) (p := 96) (by decide +kernel) rfl rfl rfl ?_
  have hV := rl_set (f := 27) (v := .int (if lg < Int32.ofNat n then Int32.ofNat n else lg)) hV (by decide) (by decide) (by decide) (by decide)
  refine hs_iload (i := 4) (p := 98) (by decide +kernel) rfl ?_
  refine hs_aload (i := 0) (p := 99) (by decide +kernel) rfl ?_
  refine hm_call (rl_ok hV) (mi := 218) (na := 0) (lk := 8) (lm := 1) (by decide +kernel) rfl rfl rfl rfl rfl rfl (rl_cards (rl_ok hV) hV.2.1 hc (hs_cb ?_))
  show et_go none _ 257 102 _ [.int (Int32.ofNat c), .int (Int32.ofNat n)] _ 0 0 _
  refine hs_br2n (c := .ge) (t := 106) (f := 105) (by decide +kernel) (by omega) (by omega) (fun (c102 : c ≤ n) => ?_) (fun (c102 : ¬ (c ≤ n)) => ?_)
  · refine hs_k (x := Int32.ofNat 0) (p := 107) (by decide +kernel) ?_
    refine hs_istore (i := 6) (p := 109) (by decide +kernel) (Nat.le_of_ble_eq_true rfl) ?_
    refine hs_k (x := Int32.ofNat 0) (p := 110) (by decide +kernel) ?_
    refine hs_istore (i := 7) (p := 112) (by decide +kernel) (Nat.le_of_ble_eq_true rfl) ?_
    refine rl_B hV he hw hwn (by omega) (fun sm i => ?_)
    refine hs_aload (i := 0) (p := 144) (by decide +kernel) rfl ?_
    refine hm_get (rl_ok hV) (f := 29) (p := 147) (by decide +kernel) rfl hso ?_
    refine hs_br1 (c := .eq) (t := 160) (f := 150) (by decide +kernel) (fun (c147 : so = 0) => ?_) (fun (c147 : ¬ (so = 0)) => ?_)
    · refine hs_aload (i := 0) (p := 161) (by decide +kernel) rfl ?_
      refine hs_k (x := Int32.ofNat 1) (p := 162) (by decide +kernel) ?_
      refine hm_put (rl_ok hV) (f := 29) (ty := .boolean) (p := 165) (by decide +kernel) rfl (by decide +kernel) rfl ?_
      have hV := rl_set (f := 29) (v := .int (Int32.ofNat 1)) hV (by decide) (by decide) (by decide) (by decide)
      refine hs_aload (i := 0) (p := 166) (by decide +kernel) rfl ?_
      refine hs_iload (i := 6) (p := 168) (by decide +kernel) rfl ?_
      refine hm_put (rl_ok hV) (f := 23) (ty := .int) (p := 171) (by decide +kernel) rfl rfl rfl ?_
      have hV := rl_set (f := 23) (v := .int sm) hV (by decide) (by decide) (by decide) (by decide)
      refine hs_k (x := Int32.ofNat 0) (p := 172) (by decide +kernel) ?_
      refine hs_istore (i := 7) (p := 174) (by decide +kernel) (Nat.le_of_ble_eq_true rfl) ?_
      refine rl_C hV he hw hwn (by omega) (fun B2 i2 => ?_)
      refine hs_aload (i := 0) (p := 205) (by decide +kernel) rfl ?_
      refine hs_iload (i := 2) (p := 206) (by decide +kernel) rfl ?_
      refine hm_put (rl_ok hV) (f := 25) (ty := .int) (p := 209) (by decide +kernel) rfl rfl rfl ?_
      have hV := rl_set (f := 25) (v := .int le) hV (by decide) (by decide) (by decide) (by decide)
      refine hs_aload (i := 0) (p := 210) (by decide +kernel) rfl ?_
      refine hs_iload (i := 3) (p := 211) (by decide +kernel) rfl ?_
      refine hm_put (rl_ok hV) (f := 26) (ty := .int) (p := 214) (by decide +kernel) rfl rfl rfl ?_
      have hV := rl_set (f := 26) (v := .int gr) hV (by decide) (by decide) (by decide) (by decide)
      refine hs_aload (i := 0) (p := 215) (by decide +kernel) rfl ?_
      refine hs_aload (i := 0) (p := 216) (by decide +kernel) rfl ?_
      refine hm_call (rl_ok hV) (mi := 218) (na := 0) (lk := 8) (lm := 1) (by decide +kernel) rfl rfl rfl rfl rfl rfl (rl_cards (rl_ok hV) hV.2.1 hc (hs_cb ?_))
      show et_go none _ 257 219 _ [.int (Int32.ofNat c), .ref am] _ 0 0 _
      refine hs_br1 (c := .ne) (t := 226) (f := 222) (by decide +kernel) (fun (c219 : ¬ Int32.ofNat c = 0) => ?_) (fun (c219 : ¬ (¬ Int32.ofNat c = 0)) => ?_)
      · refine hs_iload (i := 3) (p := 227) (by decide +kernel) rfl ?_
        refine hs_kld (v := Value.int (-1000000)) (p := 230) (by decide +kernel) ?_
        refine hs_br2 (c := .le) (t := 237) (f := 233) (by decide +kernel) (fun (c230 : gr ≤ (-1000000)) => ?_) (fun (c230 : ¬ (gr ≤ (-1000000))) => ?_)
        · refine hs_iload (i := 5) (p := 239) (by decide +kernel) rfl ?_
          refine hs_k (x := Int32.ofNat 1) (p := 240) (by decide +kernel) ?_
          refine hs_isub (p := 241) (by decide +kernel) ?_
          refine hm_put (rl_ok hV) (f := 24) (ty := .int) (p := 244) (by decide +kernel) rfl rfl rfl ?_
          have hV := rl_set (f := 24) (v := .int (lo - Int32.ofNat 1)) hV (by decide) (by decide) (by decide) (by decide)
          refine hs_vret (by decide +kernel) ?_
          refine h _ _ ⟨fun j h1 h2 => ?_, ⟨_, rfl⟩, ⟨_, rfl⟩, ⟨_, rfl⟩, .inr ⟨_, _, rfl, rfl, rfl, fun e => ?_⟩⟩
          · unfold updV
            simp only [if_neg (show ¬ j = 24 by omega), if_neg (show ¬ j = 26 by omega), if_neg (show ¬ j = 25 by omega), if_neg (show ¬ j = 23 by omega), if_neg h2, if_neg (show ¬ j = 27 by omega)]
          · rcases hlt with hlt | hlt
            · omega
            · rw [e] at hlt
              exact Int32.lt_irrefl hlt
        · refine hs_iload (i := 3) (p := 234) (by decide +kernel) rfl ?_
          refine hs_goto (p := 241) (by decide +kernel) ?_
          refine hm_put (rl_ok hV) (f := 24) (ty := .int) (p := 244) (by decide +kernel) rfl rfl rfl ?_
          have hV := rl_set (f := 24) (v := .int gr) hV (by decide) (by decide) (by decide) (by decide)
          refine hs_vret (by decide +kernel) ?_
          refine h _ _ ⟨fun j h1 h2 => ?_, ⟨_, rfl⟩, ⟨_, rfl⟩, ⟨_, rfl⟩, .inr ⟨_, _, rfl, rfl, rfl, fun e => ?_⟩⟩
          · unfold updV
            simp only [if_neg (show ¬ j = 24 by omega), if_neg (show ¬ j = 26 by omega), if_neg (show ¬ j = 25 by omega), if_neg (show ¬ j = 23 by omega), if_neg h2, if_neg (show ¬ j = 27 by omega)]
          · rcases hlt with hlt | hlt
            · omega
            · rw [e] at hlt
              exact Int32.lt_irrefl hlt
      · refine hs_k (x := Int32.ofNat 0) (p := 223) (by decide +kernel) ?_
        refine hs_goto (p := 241) (by decide +kernel) ?_
        refine hm_put (rl_ok hV) (f := 24) (ty := .int) (p := 244) (by decide +kernel) rfl rfl rfl ?_
        have hV := rl_set (f := 24) (v := .int (Int32.ofNat 0)) hV (by decide) (by decide) (by decide) (by decide)
        refine hs_vret (by decide +kernel) ?_
        refine h _ _ ⟨fun j h1 h2 => ?_, ⟨_, rfl⟩, ⟨_, rfl⟩, ⟨_, rfl⟩, .inr ⟨_, _, rfl, rfl, rfl, fun e => ?_⟩⟩
        · unfold updV
          simp only [if_neg (show ¬ j = 24 by omega), if_neg (show ¬ j = 26 by omega), if_neg (show ¬ j = 25 by omega), if_neg (show ¬ j = 23 by omega), if_neg h2, if_neg (show ¬ j = 27 by omega)]
        · rcases hlt with hlt | hlt
          · omega
          · rw [e] at hlt
            exact Int32.lt_irrefl hlt
    · refine hs_iload (i := 6) (p := 152) (by decide +kernel) rfl ?_
      refine hs_aload (i := 0) (p := 153) (by decide +kernel) rfl ?_
      refine hm_get (rl_ok hV) (f := 23) (p := 156) (by decide +kernel) rfl hbm ?_
      refine hs_br2 (c := .lt) (t := 160) (f := 159) (by decide +kernel) (fun (c156 : sm < bsm) => ?_) (fun (c156 : ¬ (sm < bsm)) => ?_)
      · refine hs_aload (i := 0) (p := 161) (by decide +kernel) rfl ?_
        refine hs_k (x := Int32.ofNat 1) (p := 162) (by decide +kernel) ?_
        refine hm_put (rl_ok hV) (f := 29) (ty := .boolean) (p := 165) (by decide +kernel) rfl (by decide +kernel) rfl ?_
        have hV := rl_set (f := 29) (v := .int (Int32.ofNat 1)) hV (by decide) (by decide) (by decide) (by decide)
        refine hs_aload (i := 0) (p := 166) (by decide +kernel) rfl ?_
        refine hs_iload (i := 6) (p := 168) (by decide +kernel) rfl ?_
        refine hm_put (rl_ok hV) (f := 23) (ty := .int) (p := 171) (by decide +kernel) rfl rfl rfl ?_
        have hV := rl_set (f := 23) (v := .int sm) hV (by decide) (by decide) (by decide) (by decide)
        refine hs_k (x := Int32.ofNat 0) (p := 172) (by decide +kernel) ?_
        refine hs_istore (i := 7) (p := 174) (by decide +kernel) (Nat.le_of_ble_eq_true rfl) ?_
        refine rl_C hV he hw hwn (by omega) (fun B2 i2 => ?_)
        refine hs_aload (i := 0) (p := 205) (by decide +kernel) rfl ?_
        refine hs_iload (i := 2) (p := 206) (by decide +kernel) rfl ?_
        refine hm_put (rl_ok hV) (f := 25) (ty := .int) (p := 209) (by decide +kernel) rfl rfl rfl ?_
        have hV := rl_set (f := 25) (v := .int le) hV (by decide) (by decide) (by decide) (by decide)
        refine hs_aload (i := 0) (p := 210) (by decide +kernel) rfl ?_
        refine hs_iload (i := 3) (p := 211) (by decide +kernel) rfl ?_
        refine hm_put (rl_ok hV) (f := 26) (ty := .int) (p := 214) (by decide +kernel) rfl rfl rfl ?_
        have hV := rl_set (f := 26) (v := .int gr) hV (by decide) (by decide) (by decide) (by decide)
        refine hs_aload (i := 0) (p := 215) (by decide +kernel) rfl ?_
        refine hs_aload (i := 0) (p := 216) (by decide +kernel) rfl ?_
        refine hm_call (rl_ok hV) (mi := 218) (na := 0) (lk := 8) (lm := 1) (by decide +kernel) rfl rfl rfl rfl rfl rfl (rl_cards (rl_ok hV) hV.2.1 hc (hs_cb ?_))
        show et_go none _ 257 219 _ [.int (Int32.ofNat c), .ref am] _ 0 0 _
        refine hs_br1 (c := .ne) (t := 226) (f := 222) (by decide +kernel) (fun (c219 : ¬ Int32.ofNat c = 0) => ?_) (fun (c219 : ¬ (¬ Int32.ofNat c = 0)) => ?_)
        · refine hs_iload (i := 3) (p := 227) (by decide +kernel) rfl ?_
          refine hs_kld (v := Value.int (-1000000)) (p := 230) (by decide +kernel) ?_
          refine hs_br2 (c := .le) (t := 237) (f := 233) (by decide +kernel) (fun (c230 : gr ≤ (-1000000)) => ?_) (fun (c230 : ¬ (gr ≤ (-1000000))) => ?_)
          · refine hs_iload (i := 5) (p := 239) (by decide +kernel) rfl ?_
            refine hs_k (x := Int32.ofNat 1) (p := 240) (by decide +kernel) ?_
            refine hs_isub (p := 241) (by decide +kernel) ?_
            refine hm_put (rl_ok hV) (f := 24) (ty := .int) (p := 244) (by decide +kernel) rfl rfl rfl ?_
            have hV := rl_set (f := 24) (v := .int (lo - Int32.ofNat 1)) hV (by decide) (by decide) (by decide) (by decide)
            refine hs_vret (by decide +kernel) ?_
            refine h _ _ ⟨fun j h1 h2 => ?_, ⟨_, rfl⟩, ⟨_, rfl⟩, ⟨_, rfl⟩, .inr ⟨_, _, rfl, rfl, rfl, fun e => ?_⟩⟩
            · unfold updV
              simp only [if_neg (show ¬ j = 24 by omega), if_neg (show ¬ j = 26 by omega), if_neg (show ¬ j = 25 by omega), if_neg (show ¬ j = 23 by omega), if_neg h2, if_neg (show ¬ j = 27 by omega)]
            · rcases hlt with hlt | hlt
              · omega
              · rw [e] at hlt
                exact Int32.lt_irrefl hlt
          · refine hs_iload (i := 3) (p := 234) (by decide +kernel) rfl ?_
            refine hs_goto (p := 241) (by decide +kernel) ?_
            refine hm_put (rl_ok hV) (f := 24) (ty := .int) (p := 244) (by decide +kernel) rfl rfl rfl ?_
            have hV := rl_set (f := 24) (v := .int gr) hV (by decide) (by decide) (by decide) (by decide)
            refine hs_vret (by decide +kernel) ?_
            refine h _ _ ⟨fun j h1 h2 => ?_, ⟨_, rfl⟩, ⟨_, rfl⟩, ⟨_, rfl⟩, .inr ⟨_, _, rfl, rfl, rfl, fun e => ?_⟩⟩
            · unfold updV
              simp only [if_neg (show ¬ j = 24 by omega), if_neg (show ¬ j = 26 by omega), if_neg (show ¬ j = 25 by omega), if_neg (show ¬ j = 23 by omega), if_neg h2, if_neg (show ¬ j = 27 by omega)]
            · rcases hlt with hlt | hlt
              · omega
              · rw [e] at hlt
                exact Int32.lt_irrefl hlt
        · refine hs_k (x := Int32.ofNat 0) (p := 223) (by decide +kernel) ?_
          refine hs_goto (p := 241) (by decide +kernel) ?_
          refine hm_put (rl_ok hV) (f := 24) (ty := .int) (p := 244) (by decide +kernel) rfl rfl rfl ?_
          have hV := rl_set (f := 24) (v := .int (Int32.ofNat 0)) hV (by decide) (by decide) (by decide) (by decide)
          refine hs_vret (by decide +kernel) ?_
          refine h _ _ ⟨fun j h1 h2 => ?_, ⟨_, rfl⟩, ⟨_, rfl⟩, ⟨_, rfl⟩, .inr ⟨_, _, rfl, rfl, rfl, fun e => ?_⟩⟩
          · unfold updV
            simp only [if_neg (show ¬ j = 24 by omega), if_neg (show ¬ j = 26 by omega), if_neg (show ¬ j = 25 by omega), if_neg (show ¬ j = 23 by omega), if_neg h2, if_neg (show ¬ j = 27 by omega)]
          · rcases hlt with hlt | hlt
            · omega
            · rw [e] at hlt
              exact Int32.lt_irrefl hlt
      · refine hs_vret (by decide +kernel) ?_
        exact h _ _ ⟨fun j h1 h2 => if_neg (by omega), ⟨_, hbm⟩, ⟨_, hz24⟩, ⟨_, rfl⟩, .inl ⟨rfl, rfl, rfl⟩⟩
  · refine hs_vret (by decide +kernel) ?_
    exact h _ _ ⟨fun j h1 h2 => if_neg (by omega), ⟨_, hbm⟩, ⟨_, hz24⟩, ⟨_, rfl⟩, .inl ⟨rfl, rfl, rfl⟩⟩
theorem rl_looks (hV : rl_V G am aw td vs bs F TD VS) {e wn : Nat} (he : e ≤ 2) (hw : W (45 + 23 * e + 0) = Int32.ofNat wn) (hwn : wn ≤ 6) {c : Nat} (hc : W 3 = Int32.ofNat c) (hc20 : c ≤ 20) {lg so bsm : Int32} (hlg : F 27 = .int lg) (hso : F 29 = .int so) (hbm : F 23 = .int bsm) (h24 : ∃ x, F 24 = .int x) (h : ∀ F' B', rl_Q F F' → Z (.inl none, (rl_H G am aw bs F' W B'), 0, 0)) : et_go none (d + 4) 257 0 [some (.ref am), some (.int (Int32.ofNat e)), none, none, none, none, none, none] [] (rl_H G am aw bs F W B) 0 0 Z := by
  refine hs_kld (v := Value.int (Int32.ofNat 1000000)) (p := 3) (by decide +kernel) ?_
  refine hs_istore (i := 2) (p := 4) (by decide +kernel) (Nat.le_of_ble_eq_true rfl) ?_
  refine hs_kld (v := Value.int (-1000000)) (p := 7) (by decide +kernel) ?_
  refine hs_istore (i := 3) (p := 8) (by decide +kernel) (Nat.le_of_ble_eq_true rfl) ?_
  refine hs_k (x := Int32.ofNat 0) (p := 9) (by decide +kernel) ?_
  refine hs_istore (i := 4) (p := 11) (by decide +kernel) (Nat.le_of_ble_eq_true rfl) ?_
  refine hs_kld (v := Value.int (Int32.ofNat 1000000)) (p := 14) (by decide +kernel) ?_
  refine hs_istore (i := 5) (p := 16) (by decide +kernel) (Nat.le_of_ble_eq_true rfl) ?_
  exact rl_A hV he hw hwn hc hc20 (Nat.zero_le _) (by decide) (fun n le gr lo x6 x7 h1 h2 => rl_D hV he hw hwn hc hc20 hlg hso hbm h24 h1 h2 h)
end RPL
end
section
/-! CONTRACT BY HAND: looksAt -/
def hi_ML : et_M := [(13, 23, 23), (13, 24, 24), (13, 25, 25), (13, 26, 26), (13, 27, 27), (13, 29, 29), (50, 0, 5)]
def hq_looks : et_Co := (257, [.inr (.inr (0, 13)), .inl (0, 2)], hi_ML, [(.inl none, 0, 0)], 8)
theorem hi_QlF {K : et_K} {F F' : Nat → Value} (h : hi_F K F) (hQ : rl_Q F F') : hi_F K F' := by
  obtain ⟨h1, ⟨x, hx⟩, ⟨y, hy⟩, ⟨z, hz⟩, h2⟩ := hQ
  refine hi_Fi (fun k hk => ?_)
  have hc : ((k < 23 ∨ 27 < k) ∧ k ≠ 29) ∨ k = 23 ∨ k = 24 ∨ k = 25 ∨ k = 26 ∨ k = 27 ∨ k = 29 := by omega
  rcases hc with ⟨c1, c2⟩ | rfl | rfl | rfl | rfl | rfl | rfl
  · rw [h1 k c1 c2]; exact hi_Fe h k hk
  · rw [hx]; exact hi_any
  · rw [hy]; exact hi_any
  · rcases h2 with ⟨-, e, -⟩ | ⟨a, b, -, e, -⟩
    · rw [e]; exact hi_Fe h 25 (by decide)
    · rw [e]; exact hi_any
  · rcases h2 with ⟨-, -, e⟩ | ⟨a, b, -, -, e, -⟩
    · rw [e]; exact hi_Fe h 26 (by decide)
    · rw [e]; exact hi_any
  · rw [hz]; exact hi_any
  · rcases h2 with ⟨e, -, -⟩ | ⟨a, b, e, -⟩
    · rw [e]; exact hi_Fe h 29 (by decide)
    · rw [e]; exact hi_iv (by decide) (by decide)
theorem hi_QlX {F F' : Nat → Value} (h : hi_X F) (hQ : rl_Q F F') : hi_X F' := fun s x y e1 e2 e3 hs => by
  obtain ⟨-, -, -, -, h2⟩ := hQ
  rcases h2 with ⟨a1, a2, a3⟩ | ⟨a, b, a1, a2, a3, a4⟩
  · exact h s x y (a1.symm.trans e1) (a2.symm.trans e2) (a3.symm.trans e3) hs
  · rw [a2] at e2
    rw [a3] at e3
    cases e2
    cases e3
    exact a4
theorem hc_looks : et_cv et_TT hq_looks := by
  intro w as d2 hH hd hl hv
  obtain ⟨v, v1, rfl⟩ := hi_len2 (show as.length = 2 from hl)
  obtain ⟨am, rfl, ha⟩ := hi_ref (hv 0 _ _ rfl rfl)
  obtain ⟨e, he, rfl⟩ := hi_nat (hv 1 _ _ rfl rfl)
  obtain ⟨F, W, aw, hA, eF, eW, hw, hKw, hF, hX, hW, hG, e0⟩ := hi_mod hH ha
  obtain ⟨td, htd, kt⟩ := hi_ref (hF 21 _ rfl)
  obtain ⟨vs, hvs, kv⟩ := hi_ref (hF 20 _ rfl)
  obtain ⟨bs, hbs, kb⟩ := hi_ref (hF 22 _ rfl)
  obtain ⟨lg, hlg, -⟩ := hi_int (hF 27 _ rfl)
  obtain ⟨so, hso, -⟩ := hi_int (hF 29 _ rfl)
  obtain ⟨bm, hbm, -⟩ := hi_int (hF 23 _ rfl)
  obtain ⟨z24, h24, -⟩ := hi_int (hF 24 _ rfl)
  obtain ⟨TD, eT, -⟩ := hi_arr (t := 49) (kd := 0) (n := 6) (ss := []) hH kt rfl (by decide) (.inl rfl)
  obtain ⟨VS, eV, -⟩ := hi_arr (t := 20) (kd := 0) (n := 120) (ss := []) hH kv rfl (by decide) (.inl rfl)
  obtain ⟨B, eB, -⟩ := hi_arr (t := 50) (kd := 0) (n := 6) (ss := []) hH kb rfl (by decide) (.inl rfl)
  obtain ⟨c, hc, hc2⟩ := hi_natW (hW (3, 3, .inl (0, 20)) (List.mem_of_getElem? (i := 2) rfl) 3 (by decide) (by decide))
  obtain ⟨wn, hwn, hwn2⟩ := hi_natW (hW _ (hi_w45 e (by omega)) (45 + 23 * e) (Nat.le_refl _) (Nat.le_refl _))
  obtain ⟨d, rfl⟩ : ∃ d, d2 = d + 4 := ⟨d2 - 4, by have : 8 ≤ d2 := hd; omega⟩
  have gb := hi_at hH kb (by decide)
  have hV : rl_V w.2.2 am aw td vs bs F TD VS := ⟨hA, hw, ⟨htd, hi_ne kt ha (by decide), hi_ne kt hKw (by decide), hi_ne kt kb (by decide), (hi_at hH kt (by decide)).2, eT⟩, ⟨hvs, hi_ne kv ha (by decide), hi_ne kv hKw (by decide), hi_ne kv kb (by decide), (hi_at hH kv (by decide)).2, eV⟩, hbs, hi_ne kb ha (by decide), hi_ne kb hKw (by decide), gb⟩
  rw [show eg_mL 257 = 8 from by decide +kernel]
  have h0 := rl_looks (d := d) (Z := hi_Z et_TT w hi_ML [(.inl none, 0, 0)]) (B := B) hV (e := e) (by omega) hwn2 (by omega) hc2 (by omega) hlg hso hbm ⟨z24, h24⟩ (fun F' B' hQ => by
    have g1 : et_H et_TT w.1 (eg_u w.2.2 bs (rl_b B')) := hi_uarr (t := 50) (kd := 0) (n := 6) (ss := []) hH kb (by decide) rfl (.inl rfl) (fun s hs => absurd hs List.not_mem_nil) (fun _ h => by omega)
    have f1 : et_fr hi_ML w.1 w.2.2 (eg_u w.2.2 bs (rl_b B')) := hi_frM hH kb (by decide) (fun i hi => by
      rw [eB]
      show (if i < 6 then some (Value.int (B' i)) else none) = (if i < 6 then some (Value.int (B i)) else none)
      by_cases h : i < 6
      · exfalso
        unfold et_mm hi_ML at hi
        simp at hi
        omega
      · rw [if_neg h, if_neg h])
    have n1 : am ≠ bs := hi_ne ha kb (by decide)
    have n2 : aw ≠ bs := hi_ne hKw kb (by decide)
    refine ⟨_, List.mem_cons_self, w.1, et_ex.rf, f1.tr et_ex.rf (hi_fr g1 ha hKw ((hi_uc n1).trans eF) ((hi_uc n2).trans eW) (fun i hi => ?_) (fun _ _ _ => rfl)), hi_fin g1 ha hKw (hi_QlF hF hQ) (hi_QlX hX hQ) hW hG, rfl, Nat.le_refl _, Nat.le_refl _⟩
    unfold et_mm hi_ML at hi
    simp at hi
    exact hQ.1 i (by omega) (by omega))
  unfold rl_H at h0
  rw [show eg_u w.2.2 bs (rl_b B) = w.2.2 from hm_same eB gb.1, ← e0] at h0
  exact h0
end
