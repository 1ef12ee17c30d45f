/-! BY HAND: soonest -/
def hi_MS : et_M := [(13, 0, 0), (14, 0, 100000), (18, 0, 22), (24, 0, 100000), (29, 0, 100000), (36, 0, 4), (46, 45, 113)]
def bt (l c : Nat) : Nat := l / 2 ^ c % 2
def sp (l c : Nat) : Nat := (List.range 5).foldr (fun j s => if c ≤ j then bt l j + s else s) 0
theorem sp_all : ∀ l ∈ List.range 32, ∀ c ∈ List.range 5, (sp l c = bt l c + sp l (c + 1)) ∧ ((Int32.ofNat l >>> (Int32.ofNat c &&& 31)) &&& Int32.ofNat 1 = Int32.ofNat (bt l c)) ∧ bt l c ≤ 1 ∧ (bt l c = 1 → 2 ^ c ≤ l ∧ (Int32.ofNat l &&& ((Int32.ofNat 1 <<< (Int32.ofNat c &&& 31)) ^^^ (-1)) = Int32.ofNat (l - 2 ^ c)) ∧ sp (l - 2 ^ c) 0 + 1 = sp l 0) := by decide +kernel
theorem sp_5 : ∀ l ∈ List.range 32, sp l 5 = 0 := by decide +kernel
theorem sp_full : ∀ n ∈ List.range 6, (Int32.ofNat 1 <<< (Int32.ofNat n &&& 31)) - Int32.ofNat 1 = Int32.ofNat (2 ^ n - 1) ∧ sp (2 ^ n - 1) 0 = n ∧ 2 ^ n - 1 < 32 := by decide +kernel
theorem sp_le : ∀ l ∈ List.range 32, ∀ c ∈ List.range 6, sp l c ≤ 5 := by decide +kernel
theorem hs_idiv {d k pc ck sk : Nat} {L : eg_Ls} {r : List Value} {G : eg_G} {Z : eg_O → Prop} {p : Nat} {x y : Int32} (hc : hs_o k pc = some (.idiv, p)) (hy : ¬ y = 0) (h : et_go none d k p L (.int (x / y) :: r) G ck sk Z) : et_go none d k pc L (.int y :: .int x :: r) G ck sk Z := by
  obtain ⟨e, rfl⟩ := hs_oc hc
  exact hs_st e rfl (by
    show (if y = 0 then none else _) = _
    rw [if_neg hy]) h
theorem hs_toN {x : Int32} (h : 0 ≤ x.toInt) : ∃ n : Nat, x = Int32.ofNat n ∧ n < 2147483648 ∧ x.toInt = n := by
  have h3 := x.toInt_lt
  refine ⟨x.toInt.toNat, ?_, by omega, by omega⟩
  apply Int32.toInt_inj.mp
  rw [hs_nint (by omega)]
  omega
theorem hs_rq {r m : Nat} (hr : r < 2147483648) (hm : 1 ≤ m) (hm2 : m < 2147483648) : (∃ n : Nat, Int32.ofNat r - Int32.ofNat r / Int32.ofNat m * Int32.ofNat m = Int32.ofNat n ∧ n < m) ∧ ∃ n : Nat, Int32.ofNat r / Int32.ofNat m = Int32.ofNat n ∧ n < 2147483648 := by
  have a1 := hs_nint hr
  have a2 := hs_nint hm2
  obtain ⟨b1, b2, b3⟩ := et_rem (Int32.ofNat r) (Int32.ofNat m) (by omega) (by omega)
  obtain ⟨c1, c2⟩ := et_div1 (Int32.ofNat r) (Int32.ofNat m) (by omega) (by omega)
  obtain ⟨n, n1, n2, n3⟩ := hs_toN b1
  obtain ⟨q, q1, q2, q3⟩ := hs_toN c1
  exact ⟨⟨n, n1, by omega⟩, q, q1, q2⟩
theorem hs_nz {m : Nat} (h : 1 ≤ m) (h2 : m < 2147483648) : ¬ Int32.ofNat m = 0 := fun e => by
  rw [show (0 : Int32) = Int32.ofNat 0 from rfl, hs_neq h2 (by decide)] at e
  omega
section HTS
variable {K : et_K} {d k pc ck sk am : Nat} {L : eg_Ls} {r : List Value} {G : eg_G} {Z : eg_O → Prop}
theorem ht_wst {n p a : Nat} {x : Int32} (hc : hs_o k pc = some (.iastore, p)) (hH : et_H et_TT K G) (ha : K a = some 46) (hn : 45 ≤ n ∧ n ≤ 113) (hs : ∀ s ∈ et_w46, s.1 ≤ n → n ≤ s.2.1 → et_v K s.2.2 (.int x)) (h : ∀ G', et_H et_TT K G' → et_fr [(46, 45, 113)] K G G' → et_go none d k p L r G' ck sk Z) : et_go none d k pc L (.int x :: .int (Int32.ofNat n) :: .ref a :: r) G ck sk Z := by
  obtain ⟨f, e, h1, hx⟩ := hi_arr hH ha et_t46 (by decide) (.inl rfl)
  have g := hi_at hH ha (by decide)
  refine hs_iast hc e g (by decide) (by have := hn.2; omega) (h _ (hi_uarr hH ha (by decide) et_t46 (.inl rfl) (fun s hs' i i1 i2 i3 => ?_) (fun _ _ => (hx rfl (.inl rfl) _ _ e).lo (fun i i1 _ => hs_un (by omega)))) (hi_frM hH ha (by decide) (fun i hi => ?_)))
  · by_cases ei : i = n
    · subst ei
      rw [hs_us]
      exact hs s hs' i1 i2
    · rw [hs_un ei]
      exact h1 s hs' i i1 i2 i3
  · rw [e]
    have ei : i ≠ n := fun h => by
      subst h
      unfold et_mm at hi
      simp at hi
      omega
    show (if i < 12741 then some (Value.int (upd f n x i)) else none) = (if i < 12741 then some (Value.int (f i)) else none)
    rw [hs_un ei]
theorem ht_est {n p a : Nat} {x : Int32} (hc : hs_o k pc = some (.iastore, p)) (hH : et_H et_TT K G) (ha : K a = some 18) (hn : n < 23) (h : ∀ G', et_H et_TT K G' → et_fr [(18, 0, 22)] K G G' → (∀ i, i ≠ n → et_pl (eg_at G' a) i = et_pl (eg_at G a) i) → et_pl (eg_at G' a) n = some (.int x) → et_go none d k p L r G' ck sk Z) : et_go none d k pc L (.int x :: .int (Int32.ofNat n) :: .ref a :: r) G ck sk Z := by
  obtain ⟨f, e, -⟩ := hi_arr (t := 18) (kd := 0) (n := 23) (ss := []) hH ha rfl (by decide) (.inl rfl)
  have g := hi_at hH ha (by decide)
  refine hs_iast hc e g (by decide) hn (h _ (hi_uarr (t := 18) (kd := 0) (n := 23) (ss := []) hH ha (by decide) rfl (.inl rfl) (fun s hs => absurd hs List.not_mem_nil) (fun _ h => by omega)) (hi_frM hH ha (by decide) (fun i hi => ?_)) (fun i hi => ?_) ?_)
  · rw [e]
    have ei : ¬ i < 23 := fun h => by
      unfold et_mm at hi
      simp at hi
      omega
    show (if i < 23 then _ else none) = (if i < 23 then _ else none)
    rw [if_neg ei, if_neg ei]
  · rw [et_at_us g.1, e]
    show (if i < 23 then some (Value.int (upd f n x i)) else none) = (if i < 23 then some (Value.int (f i)) else none)
    rw [hs_un hi]
  · rw [et_at_us g.1]
    show (if n < 23 then some (Value.int (upd f n x n)) else none) = _
    rw [if_pos hn, hs_us]
theorem hi_cards (hH : et_H et_TT K G) (ha : K am = some 13) (h : ∀ c : Nat, c ≤ 20 → Z (.inl (some (.int (Int32.ofNat c))), G, 0, 0)) : et_go none d 218 0 [some (.ref am)] [] G 0 0 Z := by
  obtain ⟨F, W, aw, hA, eF, eW, hw, hKw, hF, hX, hW, hG, e⟩ := hi_mod hH ha
  obtain ⟨c, hc, hc2⟩ := hi_natW (hW (3, 3, .inl (0, 20)) (List.mem_of_getElem? (i := 2) rfl) 3 (by decide) (by decide))
  have h9 := h c (by omega)
  rw [e] at h9 ⊢
  exact rl_cards hA hw hc2 h9
theorem hi_thr0 {x : Int32} (hH : et_H et_TT K G) (ha : K am = some 13) (h : Z (.inl (some (.int (Int32.ofNat 0))), G, 0, 0)) : et_go none d 204 0 [some (.ref am), some (.int (Int32.ofNat 0)), some (.int x)] [] G 0 0 Z := by
  obtain ⟨F, W, aw, hA, eF, eW, hw, hKw, hF, hX, hW, hG, e⟩ := hi_mod hH ha
  rw [e] at h ⊢
  exact rp_thr0 hA h
theorem hi_thr1 {x : Int32} (hH : et_H et_TT K G) (ha : K am = some 13) (h : ∀ G', et_H et_TT K G' → et_fr [(13, 0, 0)] K G G' → Z (.inl (some (.int (Int32.ofNat 1))), G', 0, 0)) : et_go none d 204 0 [some (.ref am), some (.int (Int32.ofNat 1)), some (.int x)] [] G 0 0 Z := by
  obtain ⟨F, W, aw, hA, eF, eW, hw, hKw, hF, hX, hW, hG, e⟩ := hi_mod hH ha
  have h9 := h (hm_H G am aw (updV F 0 (.int x)) W) (hi_fin hH ha hKw (hi_set hF hi_any) (hi_setX hX (by decide) (by decide) (by decide)) hW hG) (hi_fr hH ha hKw eF eW (fun i hi => by
    unfold et_mm at hi
    simp at hi
    exact if_neg (by omega)) (fun _ _ _ => rfl))
  rw [e]
  exact rp_thr1 hA h9
theorem rp_noTur {F : Nat → Value} {W : Nat → Int32} {aw : Nat} (hA : hm_ok G am aw) (hw : F 1 = .ref aw) {e : Nat} (he : e < 1000) (hW : W 1 = Int32.ofNat e) {v : Int32} (h0 : ∀ n, n < e → v = Int32.ofNat n → Z (.inl (some (.int (Int32.ofNat 0))), hm_H G am aw F W, 0, 0)) (h1 : Z (.inl (some (.int (Int32.ofNat 1))), hm_H G am aw F W, 0, 0)) : et_go none (d + 1) 246 0 [some (.ref am), some (.int v)] [] (hm_H G am aw F W) 0 0 Z := by
  refine hs_iload (i := 1) (p := 1) (by decide +kernel) rfl ?_
  refine hs_k (x := Int32.ofNat 0) (p := 2) (by decide +kernel) ?_
  refine hs_aload (i := 0) (p := 3) (by decide +kernel) rfl ?_
  refine hm_get hA (f := 1) (p := 6) (by decide +kernel) rfl hw ?_
  refine hs_k (x := Int32.ofNat 1) (p := 7) (by decide +kernel) ?_
  refine hm_rwv hA (p := 8) (x := Int32.ofNat e) (by decide +kernel) (by omega) hW ?_
  refine hs_k (x := Int32.ofNat 1) (p := 9) (by decide +kernel) ?_
  refine hs_isub (p := 10) (by decide +kernel) ?_
  refine hs_calls (mi := 209) (na := 3) (lk := 2) (lm := 3) (by decide +kernel) rfl rfl rfl rfl rfl rfl rfl (rp_in (fun a10 b10 => hs_cb ?_) (hs_cb ?_))
  · show et_go none _ 246 13 _ [.int (Int32.ofNat 1)] _ _ _ _
    refine hs_if1 (c := .ne) (t := 20) (f := 16) (by decide +kernel) (show ¬ Int32.ofNat 1 = 0 by decide) ?_
    refine hs_k (x := Int32.ofNat 0) (p := 21) (by decide +kernel) ?_
    refine hs_zret (by decide +kernel) (.inl rfl) ?_
    obtain ⟨n, g1, g2⟩ := rp_lt he a10 b10
    exact h0 n g1 g2
  · show et_go none _ 246 13 _ [.int (Int32.ofNat 0)] _ _ _ _
    refine hs_if0 (c := .ne) (t := 20) (f := 16) (by decide +kernel) (show ¬ (¬ Int32.ofNat 0 = 0) by decide) ?_
    refine hs_k (x := Int32.ofNat 1) (p := 17) (by decide +kernel) ?_
    refine hs_goto (p := 21) (by decide +kernel) ?_
    refine hs_zret (by decide +kernel) (.inr rfl) ?_
    exact h1
theorem hi_noT {tu : Int32} (hH : et_H et_TT K G) (ha : K am = some 13) (h0 : ∀ n, n ≤ 3 → tu = Int32.ofNat n → Z (.inl (some (.int (Int32.ofNat 0))), G, 0, 0)) (h1 : Z (.inl (some (.int (Int32.ofNat 1))), G, 0, 0)) : et_go none (d + 1) 246 0 [some (.ref am), some (.int tu)] [] G 0 0 Z := by
  obtain ⟨F, W, aw, hA, eF, eW, hw, hKw, hF, hX, hW, hG, e⟩ := hi_mod hH ha
  obtain ⟨c, hc, hc2⟩ := hi_natW (hW (0, 1, .inl (0, 4)) (List.mem_of_getElem? (i := 0) rfl) 1 (by decide) (by decide))
  have h0' : ∀ n, n < c → tu = Int32.ofNat n → Z (.inl (some (.int (Int32.ofNat 0))), hm_H G am aw F W, 0, 0) := fun n hn hm => by
    rw [← e]
    exact h0 n (by omega) hm
  rw [e] at h1 ⊢
  exact rp_noTur hA hw (by omega) hc2 h0' h1
end HTS
def hq_ne : et_Co := (208, [.inr (.inr (0, 13)), .inl (0, 2)], [], [(.inl (some (.inl (0, 1))), 0, 0)], 3)
theorem hc_ne : et_cv et_TT hq_ne := et_cok_ok (Ks := []) (an := er_an) (fun _ h => absurd h List.not_mem_nil) (by decide +kernel)
def hq_sb (e : Int) : et_Co := (283, [.inr (.inr (0, 13)), .inl (e, e), .inl (0, 3), .inl (0, 5)], [(14, 0, 100000), (24, 0, 100000), (29, 0, 100000), (46, 45, 113)], [(.inl (some (.inl (et_mn, et_mx))), 0, 0)], 10)
theorem wx_1 : ∀ e ∈ List.range 3, ∀ s ∈ et_w46, s.1 ≤ 45 + 23 * e → 45 + 23 * e ≤ s.2.1 → s.2.2 = .inl (0, 6) := by decide +kernel
theorem wx_2 : ∀ e ∈ List.range 3, ∀ k ∈ List.range 23, ¬ k = 0 → ∀ s ∈ et_w46, ¬ (s.1 ≤ 45 + 23 * e + k ∧ 45 + 23 * e + k ≤ s.2.1) := by decide +kernel
theorem wx_ok {K : et_K} {e k : Nat} {x : Int32} (he : e ≤ 2) (hk : k < 23) (hx : k = 0 → ∃ q : Nat, q ≤ 6 ∧ x = Int32.ofNat q) : ∀ s ∈ et_w46, s.1 ≤ 45 + 23 * e + k → 45 + 23 * e + k ≤ s.2.1 → et_v K s.2.2 (.int x) := fun s hs i1 i2 => by
  by_cases hk0 : k = 0
  · obtain ⟨q, q1, rfl⟩ := hx hk0
    subst hk0
    rw [wx_1 e (List.mem_range.mpr (by omega)) s hs i1 i2]
    exact hi_nv (by omega) (by omega)
  · exact absurd ⟨i1, i2⟩ (wx_2 e (List.mem_range.mpr (by omega)) k (List.mem_range.mpr hk) hk0 s hs)
theorem t5_ok {K : et_K} {c n : Nat} (hc : c ≤ 4) : ∀ s ∈ ([(0, 4, .inl (0, 4))] : List (Nat × Nat × et_P)), s.1 ≤ n → n ≤ s.2.1 → et_v K s.2.2 (.int (Int32.ofNat c)) := fun s hs _ _ => by
  obtain rfl := List.mem_singleton.mp hs
  exact hi_nv (by omega) (by omega)
section RPZ
variable {w : et_Wd} {K : et_K} {G : eg_G} {d am ea e n : Nat} {tu fw or : Int32}
theorem rz_R (hH : et_H et_TT K G) (k_am : K am = some 13) (k_ea : K ea = some 18) (he34 : et_pl (eg_at G am) 34 = some (.ref ea)) (hx0 : et_ex w.1 K) (hf : et_fr hi_MS w.1 w.2.2 G) (hP : ∃ q : Nat, q ≤ 6 ∧ et_pl (eg_at G ea) 0 = some (.int (Int32.ofNat q))) {t i k : Nat} {re : Int32} {x8 x9 x12 : Option Value} (he : e ≤ 2) (hk : k ≤ 23) (h : ∀ {K : et_K} {G : eg_G} (k : Nat), et_H et_TT K G → K am = some 13 → K ea = some 18 → et_pl (eg_at G am) 34 = some (.ref ea) → et_ex w.1 K → et_fr hi_MS w.1 w.2.2 G → (∃ q : Nat, q ≤ 6 ∧ et_pl (eg_at G ea) 0 = some (.int (Int32.ofNat q))) → et_go none (d + 11) 282 291 [some (.ref am), some (.int (Int32.ofNat e)), some (.int (Int32.ofNat t)), some (.int (Int32.ofNat n)), some (.int (Int32.ofNat (45 + 23 * e))), some (.int or), some (.int fw), some (.int (Int32.ofNat i)), x8, x9, some (.int re), some (.int (Int32.ofNat k)), x12] [] G 0 0 (hi_Z et_TT w hi_MS [(.inl (some (.inl (et_mn, et_mx))), 0, 0)])) : et_go none (d + 11) 282 261 [some (.ref am), some (.int (Int32.ofNat e)), some (.int (Int32.ofNat t)), some (.int (Int32.ofNat n)), some (.int (Int32.ofNat (45 + 23 * e))), some (.int or), some (.int fw), some (.int (Int32.ofNat i)), x8, x9, some (.int re), some (.int (Int32.ofNat k)), x12] [] G 0 0 (hi_Z et_TT w hi_MS [(.inl (some (.inl (et_mn, et_mx))), 0, 0)]) := by
  induction hm : 23 - k using Nat.strongRecOn generalizing k K G with
  | _ z ih =>
    refine hs_iload (i := 11) (p := 263) (by decide +kernel) rfl ?_
    refine hs_k (x := Int32.ofNat 23) (p := 265) (by decide +kernel) ?_
    refine hs_br2n (c := .ge) (t := 291) (f := 268) (by decide +kernel) (by omega) (by omega) (fun (c265 : 23 ≤ k) => ?_) (fun (c265 : ¬ (23 ≤ k)) => ?_)
    · exact h _ hH k_am k_ea he34 hx0 hf hP
    · refine hs_aload (i := 0) (p := 269) (by decide +kernel) rfl ?_
      refine ht_getr (T := et_TT) (t := 13) (ci := 11) (f := 1) (p := 272) (by decide +kernel) rfl rfl hH k_am (fun a269 k_a269 e269 => ?_)
      refine hs_iload (i := 4) (p := 274) (by decide +kernel) rfl ?_
      refine hs_iload (i := 11) (p := 276) (by decide +kernel) rfl ?_
      refine hs_iaddn (p := 277) (by decide +kernel) ?_
      refine hs_aload (i := 0) (p := 278) (by decide +kernel) rfl ?_
      refine ht_getr (T := et_TT) (t := 13) (ci := 11) (f := 34) (p := 281) (by decide +kernel) rfl rfl hH k_am (fun a278 k_a278 e278 => ?_)
      obtain rfl : ea = a278 := (Value.ref.inj (Option.some.inj (e278.symm.trans he34))).symm
      refine hs_iload (i := 11) (p := 283) (by decide +kernel) rfl ?_
      refine ht_ild (T := et_TT) (t := 18) (N := 23) (p := 284) (by decide +kernel) rfl hH k_ea (by omega) (by decide) (fun x283 s283 e283 => ?_)
      refine ht_wst (p := 285) (by decide +kernel) hH k_a269 (by omega) (wx_ok he (by omega) (fun hk0 => by subst hk0; obtain ⟨q, q1, q2⟩ := hP; cases e283.symm.trans q2; exact ⟨q, q1, rfl⟩)) (fun G284 hH f284 => ?_)
      have he34 := (f284.2 am 13 k_am 34 (by decide +kernel)).trans he34
      have hP : ∃ q : Nat, q ≤ 6 ∧ et_pl (eg_at G284 ea) 0 = some (.int (Int32.ofNat q)) := by
        obtain ⟨q, q1, q2⟩ := hP
        exact ⟨q, q1, (f284.2 ea 18 k_ea 0 (by decide +kernel)).trans q2⟩
      have hf := hf.tr hx0 (f284.wk (by decide +kernel))
      refine hs_iinc1 (i := 11) (p := 288) (by decide +kernel) rfl (Nat.le_of_ble_eq_true rfl) ?_
      refine hs_goto (p := 261) (by decide +kernel) ?_
      exact ih (23 - (k + 1)) (by omega) hH k_am k_ea he34 hx0 hf hP (by omega) rfl
theorem rz_W {i t r l k w0 c : Nat} (hl : l < 32) (hw : w0 < sp l c) (hc : c ≤ 5) (h : ∀ w0 c : Nat, c < 5 → bt l c = 1 → et_go none (d + 11) 282 199 [some (.ref am), some (.int (Int32.ofNat e)), some (.int (Int32.ofNat t)), some (.int (Int32.ofNat n)), some (.int (Int32.ofNat (45 + 23 * e))), some (.int or), some (.int fw), some (.int (Int32.ofNat i)), some (.int (Int32.ofNat r)), some (.int (Int32.ofNat l)), some (.int (Int32.ofNat k)), some (.int (Int32.ofNat w0)), some (.int (Int32.ofNat c))] [] G 0 0 (hi_Z et_TT w hi_MS [(.inl (some (.inl (et_mn, et_mx))), 0, 0)])) : et_go none (d + 11) 282 166 [some (.ref am), some (.int (Int32.ofNat e)), some (.int (Int32.ofNat t)), some (.int (Int32.ofNat n)), some (.int (Int32.ofNat (45 + 23 * e))), some (.int or), some (.int fw), some (.int (Int32.ofNat i)), some (.int (Int32.ofNat r)), some (.int (Int32.ofNat l)), some (.int (Int32.ofNat k)), some (.int (Int32.ofNat w0)), some (.int (Int32.ofNat c))] [] G 0 0 (hi_Z et_TT w hi_MS [(.inl (some (.inl (et_mn, et_mx))), 0, 0)]) := by
  induction hm : 5 - c using Nat.strongRecOn generalizing c w0 with
  | _ z ih =>
    have hc5 : c < 5 := by
      rcases Nat.lt_or_ge c 5 with h | h
      · exact h
      · obtain rfl : c = 5 := by omega
        rw [sp_5 l (List.mem_range.mpr hl)] at hw
        omega
    obtain ⟨b1, b2, b3, b4⟩ := sp_all l (List.mem_range.mpr hl) c (List.mem_range.mpr hc5)
    have hsl := sp_le l (List.mem_range.mpr hl) c (List.mem_range.mpr (by omega))
    refine hs_iload (i := 9) (p := 168) (by decide +kernel) rfl ?_
    refine hs_iload (i := 12) (p := 170) (by decide +kernel) rfl ?_
    refine hs_ishr (p := 171) (by decide +kernel) ?_
    refine hs_k (x := Int32.ofNat 1) (p := 172) (by decide +kernel) ?_
    refine hs_iand (p := 173) (by decide +kernel) ?_
    rw [b2]
    refine hs_br1 (c := .eq) (t := 181) (f := 176) (by decide +kernel) (fun (c173 : Int32.ofNat (bt l c) = 0) => ?_) (fun (c173 : ¬ (Int32.ofNat (bt l c) = 0)) => ?_)
    · have hb0 : bt l c = 0 := by
        rw [show (0 : Int32) = Int32.ofNat 0 from rfl, hs_neq (by omega) (by decide)] at c173
        exact c173
      refine hs_iload (i := 11) (p := 183) (by decide +kernel) rfl ?_
      refine hs_iload (i := 9) (p := 185) (by decide +kernel) rfl ?_
      refine hs_iload (i := 12) (p := 187) (by decide +kernel) rfl ?_
      refine hs_ishr (p := 188) (by decide +kernel) ?_
      refine hs_k (x := Int32.ofNat 1) (p := 189) (by decide +kernel) ?_
      refine hs_iand (p := 190) (by decide +kernel) ?_
      rw [b2]
      refine hs_isubn (p := 191) (by decide +kernel) (by omega) ?_
      refine hs_istore (i := 11) (p := 193) (by decide +kernel) (Nat.le_of_ble_eq_true rfl) ?_
      refine hs_iinc1 (i := 12) (p := 196) (by decide +kernel) rfl (Nat.le_of_ble_eq_true rfl) ?_
      refine hs_goto (p := 166) (by decide +kernel) ?_
      exact ih (5 - (c + 1)) (by omega) (by omega) (by omega) rfl
    · have hb0 : ¬ bt l c = 0 := fun h9 => c173 (by rw [h9]; rfl)
      refine hs_iload (i := 11) (p := 178) (by decide +kernel) rfl ?_
      refine hs_br1 (c := .le) (t := 199) (f := 181) (by decide +kernel) (fun (c178 : Int32.ofNat w0 ≤ 0) => ?_) (fun (c178 : ¬ (Int32.ofNat w0 ≤ 0)) => ?_)
      · exact h _ _ hc5 (by omega)
      · have hw0 : 1 ≤ w0 := by
          rcases Nat.eq_zero_or_pos w0 with h9 | h9
          · exact absurd (by rw [h9]; decide) c178
          · exact h9
        refine hs_iload (i := 11) (p := 183) (by decide +kernel) rfl ?_
        refine hs_iload (i := 9) (p := 185) (by decide +kernel) rfl ?_
        refine hs_iload (i := 12) (p := 187) (by decide +kernel) rfl ?_
        refine hs_ishr (p := 188) (by decide +kernel) ?_
        refine hs_k (x := Int32.ofNat 1) (p := 189) (by decide +kernel) ?_
        refine hs_iand (p := 190) (by decide +kernel) ?_
        rw [b2]
        refine hs_isubn (p := 191) (by decide +kernel) (by omega) ?_
        refine hs_istore (i := 11) (p := 193) (by decide +kernel) (Nat.le_of_ble_eq_true rfl) ?_
        refine hs_iinc1 (i := 12) (p := 196) (by decide +kernel) rfl (Nat.le_of_ble_eq_true rfl) ?_
        refine hs_goto (p := 166) (by decide +kernel) ?_
        exact ih (5 - (c + 1)) (by omega) (by omega) (by omega) rfl
theorem rz_D (hH : et_H et_TT K G) (k_am : K am = some 13) (k_ea : K ea = some 18) (he34 : et_pl (eg_at G am) 34 = some (.ref ea)) (hx0 : et_ex w.1 K) (hf : et_fr hi_MS w.1 w.2.2 G) (hP : ∃ q : Nat, q ≤ 6 ∧ et_pl (eg_at G ea) 0 = some (.int (Int32.ofNat q))) {t i r l k : Nat} {x11 x12 : Option Value} (hn : n ≤ 5) (hk : k ≤ n) (hr : r < 2147483648) (hl : l < 32) (hs : sp l 0 + k = n) (h : ∀ {G : eg_G} (x8 x9 x10 x11 x12 : Option Value), et_H et_TT K G → et_pl (eg_at G am) 34 = some (.ref ea) → et_fr hi_MS w.1 w.2.2 G → (∃ q : Nat, q ≤ 6 ∧ et_pl (eg_at G ea) 0 = some (.int (Int32.ofNat q))) → et_go none (d + 11) 282 225 [some (.ref am), some (.int (Int32.ofNat e)), some (.int (Int32.ofNat t)), some (.int (Int32.ofNat n)), some (.int (Int32.ofNat (45 + 23 * e))), some (.int or), some (.int fw), some (.int (Int32.ofNat i)), x8, x9, x10, x11, x12] [] G 0 0 (hi_Z et_TT w hi_MS [(.inl (some (.inl (et_mn, et_mx))), 0, 0)])) : et_go none (d + 11) 282 139 [some (.ref am), some (.int (Int32.ofNat e)), some (.int (Int32.ofNat t)), some (.int (Int32.ofNat n)), some (.int (Int32.ofNat (45 + 23 * e))), some (.int or), some (.int fw), some (.int (Int32.ofNat i)), some (.int (Int32.ofNat r)), some (.int (Int32.ofNat l)), some (.int (Int32.ofNat k)), x11, x12] [] G 0 0 (hi_Z et_TT w hi_MS [(.inl (some (.inl (et_mn, et_mx))), 0, 0)]) := by
  induction hm : n - k using Nat.strongRecOn generalizing k r l G x11 x12 with
  | _ z ih =>
    refine hs_iload (i := 10) (p := 141) (by decide +kernel) rfl ?_
    refine hs_iload (i := 3) (p := 142) (by decide +kernel) rfl ?_
    refine hs_br2n (c := .ge) (t := 225) (f := 145) (by decide +kernel) (by omega) (by omega) (fun (c142 : n ≤ k) => ?_) (fun (c142 : ¬ (n ≤ k)) => ?_)
    · exact h _ _ _ _ _ hH he34 hf hP
    · refine hs_iload (i := 8) (p := 147) (by decide +kernel) rfl ?_
      refine hs_iload (i := 3) (p := 148) (by decide +kernel) rfl ?_
      refine hs_iload (i := 10) (p := 150) (by decide +kernel) rfl ?_
      refine hs_isubn (p := 151) (by decide +kernel) (by omega) ?_
      refine hs_irem (p := 152) (by decide +kernel) (hs_nz (by omega) (by omega)) ?_
      obtain ⟨⟨w0, w1, w2⟩, r2, r3, r4⟩ := hs_rq (r := r) (m := n - k) hr (by omega) (by omega)
      rw [w1]
      refine hs_istore (i := 11) (p := 154) (by decide +kernel) (Nat.le_of_ble_eq_true rfl) ?_
      refine hs_iload (i := 8) (p := 156) (by decide +kernel) rfl ?_
      refine hs_iload (i := 3) (p := 157) (by decide +kernel) rfl ?_
      refine hs_iload (i := 10) (p := 159) (by decide +kernel) rfl ?_
      refine hs_isubn (p := 160) (by decide +kernel) (by omega) ?_
      refine hs_idiv (p := 161) (by decide +kernel) (hs_nz (by omega) (by omega)) ?_
      rw [r3]
      refine hs_istore (i := 8) (p := 163) (by decide +kernel) (Nat.le_of_ble_eq_true rfl) ?_
      refine hs_k (x := Int32.ofNat 0) (p := 164) (by decide +kernel) ?_
      refine hs_istore (i := 12) (p := 166) (by decide +kernel) (Nat.le_of_ble_eq_true rfl) ?_
      refine rz_W hl (w0 := w0) (c := 0) (by omega) (by omega) (fun w3 c hc5 hb1 => ?_)
      obtain ⟨b1, b2, b3, b4⟩ := sp_all l (List.mem_range.mpr hl) c (List.mem_range.mpr hc5)
      have b5 := b4 hb1
      have b6 : l - 2 ^ c < 32 := Nat.lt_of_le_of_lt (Nat.sub_le _ _) hl
      refine hs_aload (i := 0) (p := 200) (by decide +kernel) rfl ?_
      refine ht_getr (T := et_TT) (t := 13) (ci := 11) (f := 33) (p := 203) (by decide +kernel) rfl rfl hH k_am (fun a200 k_a200 e200 => ?_)
      refine hs_iload (i := 10) (p := 205) (by decide +kernel) rfl ?_
      refine hs_iload (i := 12) (p := 207) (by decide +kernel) rfl ?_
      refine ht_ist (M := [(36, 0, 4)]) (T := et_TT) (t := 36) (N := 5) (p := 208) (by decide +kernel) rfl rfl (by decide) hH k_a200 (by omega) (by decide) (t5_ok (by omega)) (by unfold et_mm; simp; omega) (fun G207 hH f207 => ?_)
      have he34 := (f207.2 am 13 k_am 34 (by decide +kernel)).trans he34
      have hP : ∃ q : Nat, q ≤ 6 ∧ et_pl (eg_at G207 ea) 0 = some (.int (Int32.ofNat q)) := by
        obtain ⟨q, q1, q2⟩ := hP
        exact ⟨q, q1, (f207.2 ea 18 k_ea 0 (by decide +kernel)).trans q2⟩
      have hf := hf.tr hx0 (f207.wk (by decide +kernel))
      refine hs_iload (i := 9) (p := 210) (by decide +kernel) rfl ?_
      refine hs_k (x := Int32.ofNat 1) (p := 211) (by decide +kernel) ?_
      refine hs_iload (i := 12) (p := 213) (by decide +kernel) rfl ?_
      refine hs_ishl (p := 214) (by decide +kernel) ?_
      refine hs_k (x := (-1)) (p := 215) (by decide +kernel) ?_
      refine hs_ixor (p := 216) (by decide +kernel) ?_
      refine hs_iand (p := 217) (by decide +kernel) ?_
      rw [b5.2.1]
      refine hs_istore (i := 9) (p := 219) (by decide +kernel) (Nat.le_of_ble_eq_true rfl) ?_
      refine hs_iinc1 (i := 10) (p := 222) (by decide +kernel) rfl (Nat.le_of_ble_eq_true rfl) ?_
      refine hs_goto (p := 139) (by decide +kernel) ?_
      exact ih (n - (k + 1)) (by omega) hH he34 hf hP (by omega) (by omega) b6 (by omega) rfl
theorem rz_M (hH : et_H et_TT K G) (k_am : K am = some 13) (k_ea : K ea = some 18) (he34 : et_pl (eg_at G am) 34 = some (.ref ea)) (hx0 : et_ex w.1 K) (hf : et_fr hi_MS w.1 w.2.2 G) (hP : ∃ q : Nat, q ≤ 6 ∧ et_pl (eg_at G ea) 0 = some (.int (Int32.ofNat q))) (hsb : et_cv et_TT (hq_sb e)) {t i : Nat} {x8 x9 x10 x11 x12 : Option Value} (he : e ≤ 2) (ht : t ≤ 3) (hn : n ≤ 5) (hi : i < 2147483648) : et_go none (d + 11) 282 118 [some (.ref am), some (.int (Int32.ofNat e)), some (.int (Int32.ofNat t)), some (.int (Int32.ofNat n)), some (.int (Int32.ofNat (45 + 23 * e))), some (.int or), some (.int fw), some (.int (Int32.ofNat i)), x8, x9, x10, x11, x12] [] G 0 0 (hi_Z et_TT w hi_MS [(.inl (some (.inl (et_mn, et_mx))), 0, 0)]) := by
  induction hm : 2147483647 - i using Nat.strongRecOn generalizing i fw K G x8 x9 x10 x11 x12 with
  | _ z ih =>
    refine hs_iload (i := 7) (p := 120) (by decide +kernel) rfl ?_
    refine hs_iload (i := 5) (p := 122) (by decide +kernel) rfl ?_
    refine hs_br2 (c := .ge) (t := 297) (f := 125) (by decide +kernel) (fun (c122 : or ≤ Int32.ofNat i) => ?_) (fun (c122 : ¬ (or ≤ Int32.ofNat i)) => ?_)
    · refine hs_iload (i := 6) (p := 299) (by decide +kernel) rfl ?_
      refine hs_iret (by decide +kernel) ?_
      exact ⟨_, List.mem_cons_self, _, hx0, hf, hH, ⟨_, rfl, hi_any⟩, Nat.le_refl _, Nat.le_refl _⟩
    · have hi2 : i < 2147483647 := by
        have h9 := Int32.not_le.mp c122
        rw [Int32.lt_iff_toInt_lt, hs_nint hi] at h9
        have := or.toInt_lt
        omega
      refine hs_iload (i := 7) (p := 127) (by decide +kernel) rfl ?_
      refine hs_istore (i := 8) (p := 129) (by decide +kernel) (Nat.le_of_ble_eq_true rfl) ?_
      refine hs_k (x := Int32.ofNat 1) (p := 130) (by decide +kernel) ?_
      refine hs_iload (i := 3) (p := 131) (by decide +kernel) rfl ?_
      refine hs_ishl (p := 132) (by decide +kernel) ?_
      refine hs_k (x := Int32.ofNat 1) (p := 133) (by decide +kernel) ?_
      refine hs_isub (p := 134) (by decide +kernel) ?_
      rw [(sp_full n (List.mem_range.mpr (by omega))).1]
      refine hs_istore (i := 9) (p := 136) (by decide +kernel) (Nat.le_of_ble_eq_true rfl) ?_
      refine hs_k (x := Int32.ofNat 0) (p := 137) (by decide +kernel) ?_
      refine hs_istore (i := 10) (p := 139) (by decide +kernel) (Nat.le_of_ble_eq_true rfl) ?_
      obtain ⟨p1, p2, p3⟩ := sp_full n (List.mem_range.mpr (by omega))
      refine rz_D hH k_am k_ea he34 hx0 hf hP (r := i) (l := 2 ^ n - 1) (k := 0) hn (by omega) hi p3 (by omega) (fun {G2} x8 x9 x10 x11 x12 hH he34 hf hP => ?_)
      refine hs_aload (i := 0) (p := 226) (by decide +kernel) rfl ?_
      refine hs_iload (i := 1) (p := 227) (by decide +kernel) rfl ?_
      refine hs_iload (i := 2) (p := 228) (by decide +kernel) rfl ?_
      refine hs_iload (i := 3) (p := 229) (by decide +kernel) rfl ?_
      refine ht_callv (T := et_TT) (t := 13) (mi := 283) (na := 3) (ci := 11) (lk := 13) (lm := 5) (L0 := eg_en (eg_mL 283) [.ref am, .int (Int32.ofNat e), .int (Int32.ofNat t), .int (Int32.ofNat n)]) (by decide +kernel) rfl hH k_am rfl rfl rfl rfl rfl (by rw [show eg_mL 283 = 5 from by decide +kernel]; first | done | rfl) ?_
      refine (hsb (K, [], G2) [.ref am, .int (Int32.ofNat e), .int (Int32.ofNat t), .int (Int32.ofNat n)] _ hH (by omega) rfl (ht_ac (.inr ⟨by decide, _, rfl, k_am⟩) (ht_ac (hi_iv (by rw [hs_nint (by omega)]; omega) (by rw [hs_nint (by omega)]; omega)) (ht_ac (hi_nv (by omega) (by omega)) (ht_ac (hi_nv (by omega) (by omega)) ht_an))))).mono (fun u hu => hs_cbv hu (fun v229 K229 G229 c229 s229 x229 f229 hH hv229 cl229 sl229 => ?_))
      have he34 := (f229.2 am 13 k_am 34 (by decide +kernel)).trans he34
      have hP : ∃ q : Nat, q ≤ 6 ∧ et_pl (eg_at G229 ea) 0 = some (.int (Int32.ofNat q)) := by
        obtain ⟨q, q1, q2⟩ := hP
        exact ⟨q, q1, (f229.2 ea 18 k_ea 0 (by decide +kernel)).trans q2⟩
      have k_am := x229 _ _ k_am
      have k_ea := x229 _ _ k_ea
      have hf := hf.tr hx0 (f229.wk (by decide +kernel))
      have hx0 := hx0.tr x229
      obtain rfl : c229 = 0 := Nat.le_zero.mp cl229
      obtain rfl : s229 = 0 := Nat.le_zero.mp sl229
      obtain ⟨n229, rfl, hn229, hm229⟩ := hi_int hv229
      show et_go none _ 282 232 _ [.int n229] _ 0 _ _
      refine hs_istore (i := 10) (p := 234) (by decide +kernel) (Nat.le_of_ble_eq_true rfl) ?_
      refine hs_iload (i := 10) (p := 236) (by decide +kernel) rfl ?_
      refine hs_br1 (c := .lt) (t := 258) (f := 239) (by decide +kernel) (fun (c236 : n229 < 0) => ?_) (fun (c236 : ¬ (n229 < 0)) => ?_)
      · refine hs_k (x := Int32.ofNat 0) (p := 259) (by decide +kernel) ?_
        refine hs_istore (i := 11) (p := 261) (by decide +kernel) (Nat.le_of_ble_eq_true rfl) ?_
        refine rz_R hH k_am k_ea he34 hx0 hf hP he (k := 0) (by omega) (fun {K5} {G5} k hH k_am k_ea he34 hx0 hf hP => ?_)
        refine hs_iinc1 (i := 7) (p := 294) (by decide +kernel) rfl (Nat.le_of_ble_eq_true rfl) ?_
        refine hs_goto (p := 118) (by decide +kernel) ?_
        exact ih (2147483647 - (i + 1)) (by omega) hH k_am k_ea he34 hx0 hf hP (by omega) rfl
      · refine hs_iload (i := 6) (p := 241) (by decide +kernel) rfl ?_
        refine hs_br1 (c := .ge) (t := 249) (f := 244) (by decide +kernel) (fun (c241 : 0 ≤ fw) => ?_) (fun (c241 : ¬ (0 ≤ fw)) => ?_)
        · refine hs_iload (i := 6) (p := 251) (by decide +kernel) rfl ?_
          refine hs_iload (i := 10) (p := 253) (by decide +kernel) rfl ?_
          refine hs_math (mi := 311) (lk := 13) (p := 256) (by decide +kernel) rfl rfl rfl rfl ?_
          refine hs_istore (i := 6) (p := 258) (by decide +kernel) (Nat.le_of_ble_eq_true rfl) ?_
          refine hs_k (x := Int32.ofNat 0) (p := 259) (by decide +kernel) ?_
          refine hs_istore (i := 11) (p := 261) (by decide +kernel) (Nat.le_of_ble_eq_true rfl) ?_
          refine rz_R hH k_am k_ea he34 hx0 hf hP he (k := 0) (by omega) (fun {K5} {G5} k hH k_am k_ea he34 hx0 hf hP => ?_)
          refine hs_iinc1 (i := 7) (p := 294) (by decide +kernel) rfl (Nat.le_of_ble_eq_true rfl) ?_
          refine hs_goto (p := 118) (by decide +kernel) ?_
          exact ih (2147483647 - (i + 1)) (by omega) hH k_am k_ea he34 hx0 hf hP (by omega) rfl
        · refine hs_iload (i := 10) (p := 246) (by decide +kernel) rfl ?_
          refine hs_goto (p := 256) (by decide +kernel) ?_
          refine hs_istore (i := 6) (p := 258) (by decide +kernel) (Nat.le_of_ble_eq_true rfl) ?_
          refine hs_k (x := Int32.ofNat 0) (p := 259) (by decide +kernel) ?_
          refine hs_istore (i := 11) (p := 261) (by decide +kernel) (Nat.le_of_ble_eq_true rfl) ?_
          refine rz_R hH k_am k_ea he34 hx0 hf hP he (k := 0) (by omega) (fun {K5} {G5} k hH k_am k_ea he34 hx0 hf hP => ?_)
          refine hs_iinc1 (i := 7) (p := 294) (by decide +kernel) rfl (Nat.le_of_ble_eq_true rfl) ?_
          refine hs_goto (p := 118) (by decide +kernel) ?_
          exact ih (2147483647 - (i + 1)) (by omega) hH k_am k_ea he34 hx0 hf hP (by omega) rfl
theorem rz_O {t k : Nat} {x7 x8 x9 x10 x11 x12 : Option Value} (hn : n ≤ 5) (hk : k ≤ 6) (h : ∀ (or : Int32) (k : Nat), et_go none (d + 11) 282 112 [some (.ref am), some (.int (Int32.ofNat e)), some (.int (Int32.ofNat t)), some (.int (Int32.ofNat n)), some (.int (Int32.ofNat (45 + 23 * e))), some (.int or), some (.int (Int32.ofNat k)), x7, x8, x9, x10, x11, x12] [] G 0 0 (hi_Z et_TT w hi_MS [(.inl (some (.inl (et_mn, et_mx))), 0, 0)])) : et_go none (d + 11) 282 93 [some (.ref am), some (.int (Int32.ofNat e)), some (.int (Int32.ofNat t)), some (.int (Int32.ofNat n)), some (.int (Int32.ofNat (45 + 23 * e))), some (.int or), some (.int (Int32.ofNat k)), x7, x8, x9, x10, x11, x12] [] G 0 0 (hi_Z et_TT w hi_MS [(.inl (some (.inl (et_mn, et_mx))), 0, 0)]) := by
  induction hm : 6 - k using Nat.strongRecOn generalizing k or with
  | _ z ih =>
    refine hs_iload (i := 6) (p := 95) (by decide +kernel) rfl ?_
    refine hs_iload (i := 3) (p := 96) (by decide +kernel) rfl ?_
    refine hs_br2n (c := .gt) (t := 112) (f := 99) (by decide +kernel) (by omega) (by omega) (fun (c96 : n < k) => ?_) (fun (c96 : ¬ (n < k)) => ?_)
    · exact h _ _
    · refine hs_iload (i := 5) (p := 101) (by decide +kernel) rfl ?_
      refine hs_iload (i := 6) (p := 103) (by decide +kernel) rfl ?_
      refine hs_imul (p := 104) (by decide +kernel) ?_
      refine hs_istore (i := 5) (p := 106) (by decide +kernel) (Nat.le_of_ble_eq_true rfl) ?_
      refine hs_iinc1 (i := 6) (p := 109) (by decide +kernel) rfl (Nat.le_of_ble_eq_true rfl) ?_
      refine hs_goto (p := 93) (by decide +kernel) ?_
      exact ih (6 - (k + 1)) (by omega) (by omega) rfl
theorem rz_C (hH : et_H et_TT K G) (k_am : K am = some 13) (k_ea : K ea = some 18) (he34 : et_pl (eg_at G am) 34 = some (.ref ea)) (hx0 : et_ex w.1 K) (hf : et_fr hi_MS w.1 w.2.2 G) {t k : Nat} {x6 x7 x8 x9 x10 x11 x12 : Option Value} (he : e ≤ 2) (hk : k ≤ 23) (hP : 1 ≤ k → ∃ q : Nat, q ≤ 6 ∧ et_pl (eg_at G ea) 0 = some (.int (Int32.ofNat q))) (h : ∀ {G : eg_G} (k : Nat), et_H et_TT K G → et_pl (eg_at G am) 34 = some (.ref ea) → et_fr hi_MS w.1 w.2.2 G → (∃ q : Nat, q ≤ 6 ∧ et_pl (eg_at G ea) 0 = some (.int (Int32.ofNat q))) → et_go none (d + 11) 282 87 [some (.ref am), some (.int (Int32.ofNat e)), some (.int (Int32.ofNat t)), some (.int (Int32.ofNat n)), some (.int (Int32.ofNat (45 + 23 * e))), some (.int (Int32.ofNat k)), x6, x7, x8, x9, x10, x11, x12] [] G 0 0 (hi_Z et_TT w hi_MS [(.inl (some (.inl (et_mn, et_mx))), 0, 0)])) : et_go none (d + 11) 282 57 [some (.ref am), some (.int (Int32.ofNat e)), some (.int (Int32.ofNat t)), some (.int (Int32.ofNat n)), some (.int (Int32.ofNat (45 + 23 * e))), some (.int (Int32.ofNat k)), x6, x7, x8, x9, x10, x11, x12] [] G 0 0 (hi_Z et_TT w hi_MS [(.inl (some (.inl (et_mn, et_mx))), 0, 0)]) := by
  induction hm : 23 - k using Nat.strongRecOn generalizing k G with
  | _ z ih =>
    refine hs_iload (i := 5) (p := 59) (by decide +kernel) rfl ?_
    refine hs_k (x := Int32.ofNat 23) (p := 61) (by decide +kernel) ?_
    refine hs_br2n (c := .ge) (t := 87) (f := 64) (by decide +kernel) (by omega) (by omega) (fun (c61 : 23 ≤ k) => ?_) (fun (c61 : ¬ (23 ≤ k)) => ?_)
    · exact h _ hH he34 hf (hP (by omega))
    · refine hs_aload (i := 0) (p := 65) (by decide +kernel) rfl ?_
      refine ht_getr (T := et_TT) (t := 13) (ci := 11) (f := 34) (p := 68) (by decide +kernel) rfl rfl hH k_am (fun a65 k_a65 e65 => ?_)
      obtain rfl : ea = a65 := (Value.ref.inj (Option.some.inj (e65.symm.trans he34))).symm
      refine hs_iload (i := 5) (p := 70) (by decide +kernel) rfl ?_
      refine hs_aload (i := 0) (p := 71) (by decide +kernel) rfl ?_
      refine ht_getr (T := et_TT) (t := 13) (ci := 11) (f := 1) (p := 74) (by decide +kernel) rfl rfl hH k_am (fun a71 k_a71 e71 => ?_)
      refine hs_iload (i := 4) (p := 76) (by decide +kernel) rfl ?_
      refine hs_iload (i := 5) (p := 78) (by decide +kernel) rfl ?_
      refine hs_iaddn (p := 79) (by decide +kernel) ?_
      refine ht_ild (T := et_TT) (t := 46) (N := 12741) (p := 80) (by decide +kernel) rfl hH k_a71 (by omega) (by decide) (fun x79 s79 e79 => ?_)
      refine ht_est (p := 81) (by decide +kernel) hH k_ea (by omega) (fun G80 hH f80 q80 r80 => ?_)
      have he34 := (f80.2 am 13 k_am 34 (by decide +kernel)).trans he34
      have hf := hf.tr hx0 (f80.wk (by decide +kernel))
      have hP : 1 ≤ k + 1 → ∃ q : Nat, q ≤ 6 ∧ et_pl (eg_at G80 ea) 0 = some (.int (Int32.ofNat q)) := fun _ => by
        by_cases hk0 : k = 0
        · subst hk0
          obtain ⟨q, q1, q2⟩ := hi_natW (s79 _ (hi_w45 e (by omega)) (Nat.le_refl _) (Nat.le_refl _))
          rw [q2] at r80
          exact ⟨q, by omega, r80⟩
        · obtain ⟨q, q1, q2⟩ := hP (by omega)
          exact ⟨q, q1, (q80 0 (fun h => hk0 h.symm)).trans q2⟩
      refine hs_iinc1 (i := 5) (p := 84) (by decide +kernel) rfl (Nat.le_of_ble_eq_true rfl) ?_
      refine hs_goto (p := 57) (by decide +kernel) ?_
      exact ih (23 - (k + 1)) (by omega) hH he34 hf (by omega) hP rfl
def hq_so (lo hi : Int) : et_Co := (282, [.inr (.inr (0, 13)), .inl (lo, hi), .inl (et_mn, et_mx)], hi_MS, [(.inl (some (.inl (et_mn, et_mx))), 0, 0)], 13)
theorem hc_so1 {e : Nat} (he : e ≤ 2) (hsb : et_cv et_TT (hq_sb e)) : et_cv et_TT (hq_so e e) := by
  intro w as d2 hH hd hl hv
  obtain ⟨v, v1, v2, rfl⟩ := hi_len3 (show as.length = 3 from hl)
  obtain ⟨am, rfl, k_am⟩ := hi_ref (hv 0 _ _ rfl rfl)
  obtain ⟨x, rfl, x1, x2⟩ := hi_int (hv 1 _ _ rfl rfl)
  obtain ⟨tu, rfl, -⟩ := hi_int (hv 2 _ _ rfl rfl)
  obtain rfl : x = Int32.ofNat e := Int32.toInt_inj.mp (by rw [hs_nint (by omega)]; omega)
  obtain ⟨d, rfl⟩ : ∃ d, d2 = d + 11 := ⟨d2 - 11, by have : 13 ≤ d2 := hd; omega⟩
  have hx0 : et_ex w.1 w.1 := et_ex.rf
  have hf : et_fr hi_MS w.1 w.2.2 w.2.2 := et_fr.rf
  rw [show eg_mL 282 = 13 from by decide +kernel]
  show et_go none (d + 11) 282 0 [some (.ref am), some (.int (Int32.ofNat e)), some (.int tu), none, none, none, none, none, none, none, none, none, none] [] w.2.2 0 0 (hi_Z et_TT w hi_MS [(.inl (some (.inl (et_mn, et_mx))), 0, 0)])
  refine hs_aload (i := 0) (p := 1) (by decide +kernel) rfl ?_
  refine hs_k (x := Int32.ofNat 0) (p := 2) (by decide +kernel) ?_
  refine ht_put (M := hi_MS) (T := et_TT) (t := 13) (ci := 11) (f := 0) (p := 5) (ty := .int) (by decide +kernel) rfl rfl rfl rfl rfl (by decide +kernel) hH k_am hi_any (fun G2 hH f2 e2 => ?_)
  have hf := hf.tr hx0 f2
  refine hs_aload (i := 0) (p := 6) (by decide +kernel) rfl ?_
  refine hs_aload (i := 0) (p := 7) (by decide +kernel) rfl ?_
  refine hs_iload (i := 1) (p := 8) (by decide +kernel) rfl ?_
  refine ht_callv (T := et_TT) (t := 13) (mi := 208) (na := 1) (ci := 11) (lk := 13) (lm := 2) (L0 := eg_en (eg_mL 208) [.ref am, .int (Int32.ofNat e)]) (by decide +kernel) rfl hH k_am rfl rfl rfl rfl rfl (by rw [show eg_mL 208 = 2 from by decide +kernel]; first | done | rfl) ?_
  refine (hc_ne (w.1, [], G2) [.ref am, .int (Int32.ofNat e)] _ hH (by omega) rfl (ht_ac (.inr ⟨by decide, _, rfl, k_am⟩) (ht_ac (hi_nv (by omega) (by omega)) ht_an))).mono (fun u hu => hs_cbv hu (fun v8 K8 G8 c8 s8 x8 f8 hH hv8 cl8 sl8 => ?_))
  have k_am := x8 _ _ k_am
  have hf := hf.tr hx0 (f8.wk (by decide +kernel))
  have hx0 := hx0.tr x8
  obtain rfl : c8 = 0 := Nat.le_zero.mp cl8
  obtain rfl : s8 = 0 := Nat.le_zero.mp sl8
  obtain ⟨n8, hn8, rfl⟩ := hi_nat hv8
  show et_go none _ 282 11 _ [.int (Int32.ofNat n8), .ref am] _ 0 _ _
  refine hs_br1 (c := .ne) (t := 22) (f := 14) (by decide +kernel) (fun (c11 : ¬ Int32.ofNat n8 = 0) => ?_) (fun (c11 : ¬ (¬ Int32.ofNat n8 = 0)) => ?_)
  · refine hs_k (x := Int32.ofNat 1) (p := 23) (by decide +kernel) ?_
    refine hs_goto (p := 27) (by decide +kernel) ?_
    refine hs_k (x := Int32.ofNat 1) (p := 28) (by decide +kernel) ?_
    refine ht_callv (T := et_TT) (t := 13) (mi := 204) (na := 2) (ci := 11) (lk := 13) (lm := 3) (by decide +kernel) rfl hH k_am rfl rfl rfl rfl rfl rfl ?_
    refine hi_thr1 hH k_am (fun G28 hH f28 => hs_cb ?_)
    have hf := hf.tr hx0 (f28.wk (by decide +kernel))
    show et_go none _ 282 31 _ [.int (Int32.ofNat 1)] _ _ _ _
    refine hs_if0 (c := .eq) (t := 36) (f := 34) (by decide +kernel) (show ¬ (Int32.ofNat 1 = 0) by decide) ?_
    refine hs_k (x := Int32.ofNat 0) (p := 35) (by decide +kernel) ?_
    refine hs_iret (by decide +kernel) ?_
    exact ⟨_, List.mem_cons_self, _, hx0, hf, hH, ⟨_, rfl, hi_any⟩, Nat.le_refl _, Nat.le_refl _⟩
  · refine hs_aload (i := 0) (p := 15) (by decide +kernel) rfl ?_
    refine hs_iload (i := 2) (p := 16) (by decide +kernel) rfl ?_
    refine ht_callv (T := et_TT) (t := 13) (mi := 246) (na := 1) (ci := 11) (lk := 13) (lm := 2) (by decide +kernel) rfl hH k_am rfl rfl rfl rfl rfl rfl ?_
    refine hi_noT hH k_am (fun t ht htu => hs_cb ?_) (hs_cb ?_)
    · show et_go none _ 282 19 _ [.int (Int32.ofNat 0), .ref am] _ _ _ _
      subst htu
      refine hs_if1 (c := .eq) (t := 26) (f := 22) (by decide +kernel) (show Int32.ofNat 0 = 0 by decide) ?_
      refine hs_k (x := Int32.ofNat 0) (p := 27) (by decide +kernel) ?_
      refine hs_k (x := Int32.ofNat 1) (p := 28) (by decide +kernel) ?_
      refine ht_callv (T := et_TT) (t := 13) (mi := 204) (na := 2) (ci := 11) (lk := 13) (lm := 3) (by decide +kernel) rfl hH k_am rfl rfl rfl rfl rfl rfl ?_
      refine hi_thr0 hH k_am (hs_cb ?_)
      show et_go none _ 282 31 _ [.int (Int32.ofNat 0)] _ _ _ _
      refine hs_if1 (c := .eq) (t := 36) (f := 34) (by decide +kernel) (show Int32.ofNat 0 = 0 by decide) ?_
      refine hs_k (x := Int32.ofNat 5) (p := 37) (by decide +kernel) ?_
      refine hs_aload (i := 0) (p := 38) (by decide +kernel) rfl ?_
      refine ht_callv (T := et_TT) (t := 13) (mi := 218) (na := 0) (ci := 11) (lk := 13) (lm := 1) (by decide +kernel) rfl hH k_am rfl rfl rfl rfl rfl rfl ?_
      refine hi_cards hH k_am (fun c hc => hs_cb ?_)
      show et_go none _ 282 41 _ [.int (Int32.ofNat c), .int (Int32.ofNat 5)] _ _ _ _
      refine hs_math (mi := 311) (lk := 13) (p := 44) (by decide +kernel) rfl rfl rfl rfl ?_
      obtain ⟨n, hn, en⟩ : ∃ n : Nat, n ≤ 5 ∧ (if Int32.ofNat c < Int32.ofNat 5 then Int32.ofNat c else Int32.ofNat 5) = Int32.ofNat n := by
        by_cases h : c < 5
        · exact ⟨c, by omega, if_pos ((hs_nlt (by omega) (by decide)).mpr h)⟩
        · exact ⟨5, Nat.le_refl _, if_neg (fun h9 => h ((hs_nlt (by omega) (by decide)).mp h9))⟩
      rw [en]
      refine hs_istore (i := 3) (p := 45) (by decide +kernel) (Nat.le_of_ble_eq_true rfl) ?_
      refine hs_k (x := Int32.ofNat 45) (p := 47) (by decide +kernel) ?_
      refine hs_k (x := Int32.ofNat 23) (p := 49) (by decide +kernel) ?_
      refine hs_iload (i := 1) (p := 50) (by decide +kernel) rfl ?_
      refine hs_imuln (p := 51) (by decide +kernel) ?_
      refine hs_iaddn (p := 52) (by decide +kernel) ?_
      refine hs_istore (i := 4) (p := 54) (by decide +kernel) (Nat.le_of_ble_eq_true rfl) ?_
      refine hs_k (x := Int32.ofNat 0) (p := 55) (by decide +kernel) ?_
      refine hs_istore (i := 5) (p := 57) (by decide +kernel) (Nat.le_of_ble_eq_true rfl) ?_
      obtain ⟨F9, W9, aw9, -, eF9, -, -, -, hF9, -⟩ := hi_mod hH k_am
      obtain ⟨ea, hea, k_ea⟩ := hi_ref (hF9 34 _ rfl)
      have he34 : et_pl (eg_at G8 am) 34 = some (.ref ea) := by rw [eF9, hi_pF (by decide), hea]
      refine rz_C hH k_am k_ea he34 hx0 hf he (k := 0) (by omega) (fun h => absurd h (by decide)) (fun {G7} k hH he34 hf hP => ?_)
      refine hs_k (x := Int32.ofNat 1) (p := 88) (by decide +kernel) ?_
      refine hs_istore (i := 5) (p := 90) (by decide +kernel) (Nat.le_of_ble_eq_true rfl) ?_
      refine hs_k (x := Int32.ofNat 2) (p := 91) (by decide +kernel) ?_
      refine hs_istore (i := 6) (p := 93) (by decide +kernel) (Nat.le_of_ble_eq_true rfl) ?_
      refine rz_O hn (by omega) (fun or k2 => ?_)
      refine hs_k (x := (-1)) (p := 113) (by decide +kernel) ?_
      refine hs_istore (i := 6) (p := 115) (by decide +kernel) (Nat.le_of_ble_eq_true rfl) ?_
      refine hs_k (x := Int32.ofNat 0) (p := 116) (by decide +kernel) ?_
      refine hs_istore (i := 7) (p := 118) (by decide +kernel) (Nat.le_of_ble_eq_true rfl) ?_
      exact rz_M hH k_am k_ea he34 hx0 hf hP hsb he ht hn (by decide)
    · show et_go none _ 282 19 _ [.int (Int32.ofNat 1), .ref am] _ _ _ _
      refine hs_if0 (c := .eq) (t := 26) (f := 22) (by decide +kernel) (show ¬ (Int32.ofNat 1 = 0) by decide) ?_
      refine hs_k (x := Int32.ofNat 1) (p := 23) (by decide +kernel) ?_
      refine hs_goto (p := 27) (by decide +kernel) ?_
      refine hs_k (x := Int32.ofNat 1) (p := 28) (by decide +kernel) ?_
      refine ht_callv (T := et_TT) (t := 13) (mi := 204) (na := 2) (ci := 11) (lk := 13) (lm := 3) (by decide +kernel) rfl hH k_am rfl rfl rfl rfl rfl rfl ?_
      refine hi_thr1 hH k_am (fun G28 hH f28 => hs_cb ?_)
      have hf := hf.tr hx0 (f28.wk (by decide +kernel))
      show et_go none _ 282 31 _ [.int (Int32.ofNat 1)] _ _ _ _
      refine hs_if0 (c := .eq) (t := 36) (f := 34) (by decide +kernel) (show ¬ (Int32.ofNat 1 = 0) by decide) ?_
      refine hs_k (x := Int32.ofNat 0) (p := 35) (by decide +kernel) ?_
      refine hs_iret (by decide +kernel) ?_
      exact ⟨_, List.mem_cons_self, _, hx0, hf, hH, ⟨_, rfl, hi_any⟩, Nat.le_refl _, Nat.le_refl _⟩
end RPZ
theorem hc_so : et_cv et_TT (hq_so et_mn et_mx) := et_cv_sp (by decide) (et_cv_sp (by decide) (et_cv_sp (by decide) (et_cv_sp (by decide)
  (show et_cv et_TT (hq_so et_mn (-1)) from et_cok_ok (Ks := []) (an := er_an) (fun _ h => absurd h List.not_mem_nil) (by decide +kernel))
  (hc_so1 (e := 0) (by decide) er_sbc0)) (hc_so1 (e := 1) (by decide) er_sbc1)) (hc_so1 (e := 2) (by decide) er_sbc2))
  (show et_cv et_TT (hq_so 3 et_mx) from et_cok_ok (Ks := []) (an := er_an) (fun _ h => absurd h List.not_mem_nil) (by decide +kernel))
