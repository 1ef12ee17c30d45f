/-! BY HAND: State.takeFrom, image, back; isTrueNow, count without a throw -/
section TFA
variable {K K' : et_K} {G G' : eg_G} {M : et_M} {d k pc ck sk a s da dc ra ca rc ec cc i5 i9 n1 n5 p n N t : Nat} {L : eg_Ls} {r : List Value} {Z : eg_O → Prop}
theorem hs_zast {f : Nat → Int32} {x : Int32} (hc : hs_o k pc = some (.bastore, p)) (hg : eg_at G a = .inl (3, (N, .inl f))) (ha : eg_NC ≤ a ∧ a < G.2) (hN : N < 2147483648) (hn : n < N) (h : et_go none d k p L r (eg_u G a (.inl (3, (N, .inl (upd f n (vp_nar .boolean x)))))) ck sk Z) : et_go none d k pc L (.int x :: .int (Int32.ofNat n) :: .ref a :: r) G ck sk Z := by
  obtain ⟨e0, rfl⟩ := hs_oc hc
  have h3 := hs_nint (a := n) (by omega)
  refine hs_st e0 rfl ?_ h
  show eg_aw .bastore pc L (.int x :: .int (Int32.ofNat n) :: .ref a :: r) G ck sk = _
  unfold eg_aw
  dsimp only
  rw [hg]
  dsimp only
  rw [if_pos ⟨ha.1, ha.2, rfl, by omega, by omega⟩, hs_nnat (by omega)]
  rfl
theorem vp_n01 {c : Nat} (h : c ≤ 1) : vp_nar .boolean (Int32.ofNat c) = Int32.ofNat c := by
  have h0 : ∀ x ∈ List.range 2, vp_nar .boolean (Int32.ofNat x) = Int32.ofNat x := by decide +kernel
  exact h0 c (List.mem_range.mpr (by omega))
theorem ht_zst {c m : Nat} (hc : hs_o k pc = some (.bastore, p)) (hT : et_TT[t]? = some (.inr (3, N, [(0, m, .inl (0, 1))]))) (ht : Nat.ble 2 t = true) (hH : et_H et_TT K G) (ha : K a = some t) (hn : n < N) (hN : N < 2147483648) (hv : c ≤ 1) (hM : et_mm M t n = true) (h : ∀ G', et_H et_TT K G' → et_fr M K G G' → et_go none d k p L r G' ck sk Z) : et_go none d k pc L (.int (Int32.ofNat c) :: .int (Int32.ofNat n) :: .ref a :: r) G ck sk Z := by
  have ht := Nat.le_of_ble_eq_true ht
  obtain ⟨f, e, h1, -⟩ := hi_arr hH ha hT (by omega) (.inr (.inr (.inl rfl)))
  have g := hi_at hH ha ht
  refine hs_zast hc e g hN hn (h _ (hi_uarr hH ha ht hT (.inr (.inr (.inl rfl))) (fun s hs' i i1 i2 i3 => ?_) (fun h => absurd h (by decide))) (hi_frM hH ha ht (fun i hi => ?_)))
  · by_cases ei : i = n
    · subst ei
      obtain rfl := List.mem_singleton.mp hs'
      rw [hs_us, vp_n01 hv]
      exact hi_nv (by omega) (by omega)
    · rw [hs_un ei]
      exact h1 s hs' i i1 i2 i3
  · rw [e]
    have ei : i ≠ n := fun h => by
      rw [h, hM] at hi
      cases hi
    show (if i < N then some (Value.int (upd f n _ i)) else none) = (if i < N then some (Value.int (f i)) else none)
    rw [hs_un ei]
theorem ht_zln {m : Nat} (hc : hs_o k pc = some (.baload, p)) (hT : et_TT[t]? = some (.inr (3, N, [(0, m, .inl (0, 1))]))) (hH : et_H et_TT K G) (ha : K a = some t) (hn : n < N) (hm : n ≤ m) (hN : N < 2147483648) (h : ∀ c : Nat, c ≤ 1 → et_go none d k p L (.int (Int32.ofNat c) :: r) G ck sk Z) : et_go none d k pc L (.int (Int32.ofNat n) :: .ref a :: r) G ck sk Z := by
  refine ht_zld hc hT hH ha hn hN (fun x ex => ?_)
  obtain ⟨f, e, h1, -⟩ := hi_arr hH ha hT (by omega) (.inr (.inr (.inl rfl)))
  rw [e] at ex
  have ex : (if n < N then some (Value.int (f n)) else none) = some (.int x) := ex
  rw [if_pos hn] at ex
  have h2 := h1 _ List.mem_cons_self n (Nat.zero_le _) hm hn
  obtain ⟨c, h3, h4⟩ := hi_natW h2
  cases ex
  rw [h4]
  exact h c (by omega)
/-- what was copied of s into a -/
def tf (K : et_K) (G : eg_G) (a s da dc ra ca rc ec cc i5 i9 n1 n5 : Nat) : Prop := ci_S K G s ra ca rc ec cc ∧ (K a = some 10 ∧ K da = some 37 ∧ K dc = some 39) ∧ (¬ s = a ∧ ¬ ra = da ∧ ¬ ca = dc) ∧ (et_pl (eg_at G a) 1 = some (.ref da) ∧ et_pl (eg_at G a) 10 = some (.ref dc)) ∧ (et_pl (eg_at G a) 0 = some (.int (Int32.ofNat rc)) ∧ (1 ≤ i5 → et_pl (eg_at G a) 5 = some (.int (Int32.ofNat ec))) ∧ (1 ≤ i9 → et_pl (eg_at G a) 9 = some (.int (Int32.ofNat cc)))) ∧ (∀ j, j < n1 → et_pl (eg_at G da) j = et_pl (eg_at G ra) j) ∧ (∀ j, j < n5 → et_pl (eg_at G dc) j = et_pl (eg_at G ca) j)
theorem tf.fr (h : tf K G a s da dc ra ca rc ec cc i5 i9 n1 n5) (hx : et_ex K K') (hf : et_fr M K G G') (hM : ci_k M = true) : tf K' G' a s da dc ra ca rc ec cc i5 i9 n1 n5 := by
  obtain ⟨h1, ⟨k1, k2, k3⟩, hn, ⟨a1, a2⟩, ⟨b1, b2, b3⟩, c1, c2⟩ := h
  have ha : ∀ i, ci_p 10 i = true → et_pl (eg_at G' a) i = et_pl (eg_at G a) i := fun i hi => hf.2 a 10 k1 i (ci_mm hM hi)
  exact ⟨h1.fr hx hf hM, ⟨hx _ _ k1, hx _ _ k2, hx _ _ k3⟩, hn, ⟨(ha 1 rfl).trans a1, (ha 10 rfl).trans a2⟩, ⟨(ha 0 rfl).trans b1, fun i => (ha 5 rfl).trans (b2 i), fun i => (ha 9 rfl).trans (b3 i)⟩,
    fun j hj => by rw [hf.2 da 37 k2 j (ci_mm hM rfl), hf.2 ra 37 h1.1.2.1 j (ci_mm hM rfl)]; exact c1 j hj,
    fun j hj => by rw [hf.2 dc 39 k3 j (ci_mm hM rfl), hf.2 ca 39 h1.1.2.2 j (ci_mm hM rfl)]; exact c2 j hj⟩
theorem tf.ru (h : tf K G a s da dc ra ca rc ec cc i5 i9 n1 n5) {v : Value} (hf : et_fr [(37, n1, n1)] K G G') (e : et_pl (eg_at G' da) n1 = some v) (e0 : et_pl (eg_at G ra) n1 = some v) (he : ∀ b, ¬ b = da → eg_at G' b = eg_at G b) : tf K G' a s da dc ra ca rc ec cc i5 i9 (n1 + 1) n5 := by
  obtain ⟨h1, ⟨k1, k2, k3⟩, ⟨q1, q2, q3⟩, ⟨a1, a2⟩, ⟨b1, b2, b3⟩, c1, c2⟩ := h
  have ha := he a (hi_dif (T := et_TT) k1 k2 (by decide))
  refine ⟨h1.o ⟨hi_dif (T := et_TT) h1.1.1 k2 (by decide), q2, hi_dif (T := et_TT) h1.1.2.2 k2 (by decide), ci_dif2 k2 (by decide)⟩ he, ⟨k1, k2, k3⟩, ⟨q1, q2, q3⟩, ⟨by rw [ha]; exact a1, by rw [ha]; exact a2⟩, ⟨by rw [ha]; exact b1, by rw [ha]; exact b2, by rw [ha]; exact b3⟩, fun j hj => ?_, fun j hj => ?_⟩
  · rw [he ra q2]
    by_cases ej : j = n1
    · subst ej
      rw [e, e0]
    · rw [hf.2 da 37 k2 j (hb_n1 (by omega))]
      exact c1 j (by omega)
  · rw [he dc (hi_dif (T := et_TT) k3 k2 (by decide)), he ca (hi_dif (T := et_TT) h1.1.2.2 k2 (by decide))]
    exact c2 j hj
theorem tf.cl (h : tf K G a s da dc ra ca rc ec cc i5 i9 n1 n5) {v : Value} (hf : et_fr [(39, n5, n5)] K G G') (e : et_pl (eg_at G' dc) n5 = some v) (e0 : et_pl (eg_at G ca) n5 = some v) (he : ∀ b, ¬ b = dc → eg_at G' b = eg_at G b) : tf K G' a s da dc ra ca rc ec cc i5 i9 n1 (n5 + 1) := by
  obtain ⟨h1, ⟨k1, k2, k3⟩, ⟨q1, q2, q3⟩, ⟨a1, a2⟩, ⟨b1, b2, b3⟩, c1, c2⟩ := h
  have ha := he a (hi_dif (T := et_TT) k1 k3 (by decide))
  refine ⟨h1.o ⟨hi_dif (T := et_TT) h1.1.1 k3 (by decide), hi_dif (T := et_TT) h1.1.2.1 k3 (by decide), q3, ci_dif2 k3 (by decide)⟩ he, ⟨k1, k2, k3⟩, ⟨q1, q2, q3⟩, ⟨by rw [ha]; exact a1, by rw [ha]; exact a2⟩, ⟨by rw [ha]; exact b1, by rw [ha]; exact b2, by rw [ha]; exact b3⟩, fun j hj => ?_, fun j hj => ?_⟩
  · rw [he da (hi_dif (T := et_TT) k2 k3 (by decide)), he ra (hi_dif (T := et_TT) h1.1.2.1 k3 (by decide))]
    exact c1 j hj
  · rw [he ca q3]
    by_cases ej : j = n5
    · subst ej
      rw [e, e0]
    · rw [hf.2 dc 39 k3 j (hb_n1 (by omega))]
      exact c2 j (by omega)
/-- a field of a is written -/
theorem tf.put (h : tf K G a s da dc ra ca rc ec cc i5 i9 n1 n5) {f : Nat} (hf : et_fr [(10, f, f)] K G G') (he : ∀ b, ¬ b = a → eg_at G' b = eg_at G b) (h0 : ¬ f = 0 ∧ ¬ f = 1 ∧ ¬ f = 10) {j5 j9 : Nat} (h5 : 1 ≤ j5 → et_pl (eg_at G' a) 5 = some (.int (Int32.ofNat ec))) (h9 : 1 ≤ j9 → et_pl (eg_at G' a) 9 = some (.int (Int32.ofNat cc))) : tf K G' a s da dc ra ca rc ec cc j5 j9 n1 n5 := by
  obtain ⟨h1, ⟨k1, k2, k3⟩, ⟨q1, q2, q3⟩, ⟨a1, a2⟩, ⟨b1, b2, b3⟩, c1, c2⟩ := h
  have ha : ∀ i, ¬ i = f → et_pl (eg_at G' a) i = et_pl (eg_at G a) i := fun i hi => hf.2 a 10 k1 i (hb_n1 (by omega))
  refine ⟨h1.o ⟨q1, hi_dif (T := et_TT) h1.1.2.1 k1 (by decide), hi_dif (T := et_TT) h1.1.2.2 k1 (by decide), ci_dif2 k1 (by decide)⟩ he, ⟨k1, k2, k3⟩, ⟨q1, q2, q3⟩, ⟨(ha 1 (by omega)).trans a1, (ha 10 (by omega)).trans a2⟩, ⟨(ha 0 (by omega)).trans b1, h5, h9⟩, fun j hj => ?_, fun j hj => ?_⟩
  · rw [he da (hi_dif (T := et_TT) k2 k1 (by decide)), he ra (hi_dif (T := et_TT) h1.1.2.1 k1 (by decide))]
    exact c1 j hj
  · rw [he dc (hi_dif (T := et_TT) k3 k1 (by decide)), he ca (hi_dif (T := et_TT) h1.1.2.2 k1 (by decide))]
    exact c2 j hj
theorem tf.p5 (h : tf K G a s da dc ra ca rc ec cc i5 i9 n1 n5) (hf : et_fr [(10, 5, 5)] K G G') (he : ∀ b, ¬ b = a → eg_at G' b = eg_at G b) (e : et_pl (eg_at G' a) 5 = some (.int (Int32.ofNat ec))) : tf K G' a s da dc ra ca rc ec cc 1 i9 n1 n5 := h.put hf he (by decide) (fun _ => e) (fun i => (hf.2 a 10 h.2.1.1 9 rfl).trans (h.2.2.2.2.1.2.2 i))
theorem tf.p9 (h : tf K G a s da dc ra ca rc ec cc i5 i9 n1 n5) (hf : et_fr [(10, 9, 9)] K G G') (he : ∀ b, ¬ b = a → eg_at G' b = eg_at G b) (e : et_pl (eg_at G' a) 9 = some (.int (Int32.ofNat cc))) : tf K G' a s da dc ra ca rc ec cc i5 1 n1 n5 := h.put hf he (by decide) (fun i => (hf.2 a 10 h.2.1.1 5 rfl).trans (h.2.2.2.2.1.2.1 i)) (fun _ => e)
theorem tf.beg {rc' ec' cc' : Nat} (h : ci_S K G s ra ca rc ec cc) (h' : ci_S K G a da dc rc' ec' cc') (hn : ¬ s = a ∧ ¬ ra = da ∧ ¬ ca = dc) (hf : et_fr [(10, 0, 0)] K G G') (he : ∀ b, ¬ b = a → eg_at G' b = eg_at G b) (e : et_pl (eg_at G' a) 0 = some (.int (Int32.ofNat rc))) : tf K G' a s da dc ra ca rc ec cc 0 0 0 0 := by
  obtain ⟨⟨k1, k2, k3⟩, ⟨a1, a2⟩, -, -, -, -⟩ := h'
  have ha : ∀ i, ¬ i = 0 → et_pl (eg_at G' a) i = et_pl (eg_at G a) i := fun i hi => hf.2 a 10 k1 i (hb_n1 (by omega))
  exact ⟨h.o ⟨hn.1, hi_dif (T := et_TT) h.1.2.1 k1 (by decide), hi_dif (T := et_TT) h.1.2.2 k1 (by decide), ci_dif2 k1 (by decide)⟩ he, ⟨k1, k2, k3⟩, hn, ⟨(ha 1 (by decide)).trans a1, (ha 10 (by decide)).trans a2⟩, ⟨e, fun h => absurd h (by decide), fun h => absurd h (by decide)⟩, fun j hj => absurd hj (Nat.not_lt_zero _), fun j hj => absurd hj (Nat.not_lt_zero _)⟩
theorem tf.fin (h : tf K G a s da dc ra ca rc ec cc 1 1 4 6) : ci_S K G a da dc rc ec cc := by
  obtain ⟨h1, hk, -, ha, ⟨b1, b2, b3⟩, c1, c2⟩ := h
  obtain ⟨-, -, -, ⟨d1, d2, d3⟩, hr, hc⟩ := h1
  exact ⟨hk, ha, ⟨b1, b2 (Nat.le_refl _), b3 (Nat.le_refl _)⟩, ⟨d1, d2, d3⟩, fun n hn => by rw [c1 n (by omega)]; exact hr n hn, fun n hn => by rw [c2 n (by omega)]; exact hc n hn⟩
def tf_M : et_M := [(3, 0, 0), (3, 4, 4), (3, 5, 5), (3, 6, 6), (3, 7, 7), (10, 0, 0), (10, 2, 2), (10, 5, 5), (10, 7, 7), (10, 9, 9), (15, 0, 100000), (17, 0, 100000), (27, 0, 100000), (37, 0, 100000), (38, 0, 100000), (39, 0, 100000)]
/-- how it ends -/
def tf_Z (K : et_K) (G : eg_G) (a s da dc ra ca rc ec cc : Nat) (u : eg_O) : Prop := ∃ K' : et_K, et_ex K K' ∧ et_fr tf_M K G u.2.1 ∧ et_H et_TT K' u.2.1 ∧ ci_S K' u.2.1 s ra ca rc ec cc ∧ ci_S K' u.2.1 a da dc rc ec cc ∧ u.1 = .inl none ∧ u.2.2.1 = 0 ∧ u.2.2.2 = 0
theorem tf_cb {u : eg_O} (hu : tf_Z K G a s da dc ra ca rc ec cc u) (h : ∀ (K' : et_K) (G' : eg_G), et_ex K K' → et_fr tf_M K G G' → et_H et_TT K' G' → ci_S K' G' s ra ca rc ec cc → ci_S K' G' a da dc rc ec cc → et_go none d k (pc + 3) L r G' ck sk Z) : hs_cont d k pc L r ck sk Z u := by
  obtain ⟨K', h1, h2, h3, h4, h5, e, e3, e4⟩ := hu
  obtain ⟨u1, u2, u3, u4⟩ := u
  have e : u1 = .inl none := e
  have e3 : u3 = 0 := e3
  have e4 : u4 = 0 := e4
  subst e e3 e4
  exact hs_cb (h K' u2 h1 h2 h3 h4 h5)
end TFA

section PPK
variable {w : et_Wd} {K K0 : et_K} {G G0 : eg_G} {d2 d th a s da dc ra ca rc ec cc s0 s1 ra0 ca0 rc0 ec0 cc0 ra1 ca1 rc1 ec1 cc1 : Nat} {x pl n : Int32}
theorem pn_t5 {i : Nat} (hH : et_H et_TT K G) (hx0 : et_ex K0 K) (hf : et_fr tf_M K0 G0 G) (hb : rc ≤ 4 ∧ ec ≤ 3 ∧ cc ≤ 6) (hT : tf K G a s da dc ra ca rc ec cc 1 1 4 i) (hi : i ≤ 6) : et_go none (d + 2) 104 158 [some (.ref a), some (.ref s), some (.int (Int32.ofNat i))] [] G 0 0 (tf_Z K0 G0 a s da dc ra ca rc ec cc) := by
  induction hm : 6 - i using Nat.strongRecOn generalizing i K G with
  | _ z ih =>
    have k_a := hT.2.1.1
    have k_da := hT.2.1.2.1
    have k_dc := hT.2.1.2.2
    have k_s := hT.1.1.1
    have k_ra := hT.1.1.2.1
    have k_ca := hT.1.1.2.2
    obtain ⟨hb4, hb3, hb6⟩ := hb
    refine hs_iload (i := 2) (p := 159) (by decide +kernel) rfl ?_
    refine hs_k (x := Int32.ofNat 6) (p := 161) (by decide +kernel) ?_
    refine hs_br2n (c := .ge) (t := 182) (f := 164) (by decide +kernel) (by omega) (by omega) (fun (c161 : 6 ≤ i) => ?_) (fun (c161 : ¬ (6 ≤ i)) => ?_)
    · obtain rfl : i = 6 := by omega
      refine hs_vret (by decide +kernel) ?_
      exact ⟨_, hx0, hf, hH, hT.1, hT.fin, rfl, rfl, rfl⟩
    · refine hs_aload (i := 0) (p := 165) (by decide +kernel) rfl ?_
      refine ht_getr (T := et_TT) (t := 10) (ci := 8) (f := 10) (p := 168) (by decide +kernel) rfl rfl hH k_a (fun a165 k_a165 e165 => ?_)
      obtain rfl : dc = a165 := Value.ref.inj (Option.some.inj ((hT.2.2.2.1.2).symm.trans e165))
      refine hs_iload (i := 2) (p := 169) (by decide +kernel) rfl ?_
      refine hs_aload (i := 1) (p := 170) (by decide +kernel) rfl ?_
      refine ht_getr (T := et_TT) (t := 10) (ci := 8) (f := 10) (p := 173) (by decide +kernel) rfl rfl hH k_s (fun a170 k_a170 e170 => ?_)
      obtain rfl : ca = a170 := Value.ref.inj (Option.some.inj ((hT.1.2.1.2).symm.trans e170))
      refine hs_iload (i := 2) (p := 174) (by decide +kernel) rfl ?_
      refine ht_aald (T := et_TT) (t := 39) (N := 6) (kd := 8) (m := 5) (p := 175) (by decide +kernel) rfl rfl hH k_ca (by omega) (by omega) (by decide) (fun v174 h174 e174 => ?_)
      refine ht_aasa (t := 39) (u := 2) (N := 6) (kd := 8) (cj := 0) (p := 176) (by decide +kernel) ⟨rfl, rfl⟩ (by decide +kernel) hH k_dc (by omega) h174 (fun G175 hH f175 e175 he => ?_)
      have hT := hT.cl f175 e175 e174 he
      have hf := hf.tr hx0 ((hb_wk f175 (by omega)).wk (by decide +kernel))
      refine hs_iinc1 (i := 2) (p := 179) (by decide +kernel) rfl (Nat.le_of_ble_eq_true rfl) ?_
      refine hs_goto (p := 158) (by decide +kernel) ?_
      show et_go none (d + 2) 104 158 [some (.ref a), some (.ref s), some (.int (Int32.ofNat (i + 1)))] [] _ 0 0 _
      exact ih (6 - (i + 1)) (by omega) (i := (i + 1)) hH hx0 hf hT (by omega) rfl
theorem pn_t4 {i : Nat} (hH : et_H et_TT K G) (hx0 : et_ex K0 K) (hf : et_fr tf_M K0 G0 G) (hb : rc ≤ 4 ∧ ec ≤ 3 ∧ cc ≤ 6) (hT : tf K G a s da dc ra ca rc ec cc 1 0 4 0) (hi : i ≤ 4) : et_go none (d + 2) 104 125 [some (.ref a), some (.ref s), some (.int (Int32.ofNat i))] [] G 0 0 (tf_Z K0 G0 a s da dc ra ca rc ec cc) := by
  induction hm : 4 - i using Nat.strongRecOn generalizing i K G with
  | _ z ih =>
    have k_a := hT.2.1.1
    have k_da := hT.2.1.2.1
    have k_dc := hT.2.1.2.2
    have k_s := hT.1.1.1
    have k_ra := hT.1.1.2.1
    have k_ca := hT.1.1.2.2
    obtain ⟨hb4, hb3, hb6⟩ := hb
    refine hs_iload (i := 2) (p := 126) (by decide +kernel) rfl ?_
    refine hs_k (x := Int32.ofNat 4) (p := 127) (by decide +kernel) ?_
    refine hs_br2n (c := .ge) (t := 148) (f := 130) (by decide +kernel) (by omega) (by omega) (fun (c127 : 4 ≤ i) => ?_) (fun (c127 : ¬ (4 ≤ i)) => ?_)
    · refine hs_aload (i := 0) (p := 149) (by decide +kernel) rfl ?_
      refine hs_aload (i := 1) (p := 150) (by decide +kernel) rfl ?_
      refine ht_getn (T := et_TT) (t := 10) (ci := 8) (f := 9) (p := 153) (by decide +kernel) rfl rfl hH k_s (fun c150 h150 e150 => ?_)
      obtain rfl : cc = c150 := hb_cc (hT.1.2.2.1.2.2) e150 (by omega) (by omega)
      refine ht_puta (T := et_TT) (t := 10) (ci := 8) (f := 9) (p := 156) (ty := .int) (by decide +kernel) rfl rfl rfl rfl (by decide +kernel) hH k_a (hi_nv (by omega) (by omega)) (fun G153 hH f153 e153 he => ?_)
      have hT := hT.p9 f153 he e153
      have hf := hf.tr hx0 (f153.wk (by decide +kernel))
      refine hs_k (x := Int32.ofNat 0) (p := 157) (by decide +kernel) ?_
      refine hs_istore (i := 2) (p := 158) (by decide +kernel) (Nat.le_of_ble_eq_true rfl) ?_
      show et_go none (d + 2) 104 158 [some (.ref a), some (.ref s), some (.int (Int32.ofNat 0))] [] _ 0 0 _
      exact pn_t5 (i := 0) hH hx0 hf ⟨hb4, hb3, hb6⟩ hT (by omega)
    · refine hs_aload (i := 0) (p := 131) (by decide +kernel) rfl ?_
      refine ht_getr (T := et_TT) (t := 10) (ci := 8) (f := 8) (p := 134) (by decide +kernel) rfl rfl hH k_a (fun a131 k_a131 e131 => ?_)
      refine hs_iload (i := 2) (p := 135) (by decide +kernel) rfl ?_
      refine hs_aload (i := 1) (p := 136) (by decide +kernel) rfl ?_
      refine ht_getr (T := et_TT) (t := 10) (ci := 8) (f := 8) (p := 139) (by decide +kernel) rfl rfl hH k_s (fun a136 k_a136 e136 => ?_)
      refine hs_iload (i := 2) (p := 140) (by decide +kernel) rfl ?_
      refine ht_aald (T := et_TT) (t := 38) (N := 4) (kd := 7) (m := 3) (p := 141) (by decide +kernel) rfl rfl hH k_a136 (by omega) (by omega) (by decide) (fun v140 h140 e140 => ?_)
      refine ht_aasa (t := 38) (u := 11) (N := 4) (kd := 7) (cj := 9) (p := 142) (by decide +kernel) ⟨rfl, rfl⟩ (by decide +kernel) hH k_a131 (by omega) h140 (fun G141 hH f141 e141 he => ?_)
      have hT := hT.fr et_ex.rf (hb_wk f141 (by omega)) (by decide +kernel)
      have hf := hf.tr hx0 ((hb_wk f141 (by omega)).wk (by decide +kernel))
      refine hs_iinc1 (i := 2) (p := 145) (by decide +kernel) rfl (Nat.le_of_ble_eq_true rfl) ?_
      refine hs_goto (p := 125) (by decide +kernel) ?_
      show et_go none (d + 2) 104 125 [some (.ref a), some (.ref s), some (.int (Int32.ofNat (i + 1)))] [] _ 0 0 _
      exact ih (4 - (i + 1)) (by omega) (i := (i + 1)) hH hx0 hf hT (by omega) rfl
theorem pn_t3 {i : Nat} (hH : et_H et_TT K G) (hx0 : et_ex K0 K) (hf : et_fr tf_M K0 G0 G) (hb : rc ≤ 4 ∧ ec ≤ 3 ∧ cc ≤ 6) (hT : tf K G a s da dc ra ca rc ec cc 1 0 4 0) (hi : i ≤ 3) : et_go none (d + 2) 104 89 [some (.ref a), some (.ref s), some (.int (Int32.ofNat i))] [] G 0 0 (tf_Z K0 G0 a s da dc ra ca rc ec cc) := by
  induction hm : 3 - i using Nat.strongRecOn generalizing i K G with
  | _ z ih =>
    have k_a := hT.2.1.1
    have k_da := hT.2.1.2.1
    have k_dc := hT.2.1.2.2
    have k_s := hT.1.1.1
    have k_ra := hT.1.1.2.1
    have k_ca := hT.1.1.2.2
    obtain ⟨hb4, hb3, hb6⟩ := hb
    refine hs_iload (i := 2) (p := 90) (by decide +kernel) rfl ?_
    refine hs_k (x := Int32.ofNat 3) (p := 91) (by decide +kernel) ?_
    refine hs_br2n (c := .ge) (t := 115) (f := 94) (by decide +kernel) (by omega) (by omega) (fun (c91 : 3 ≤ i) => ?_) (fun (c91 : ¬ (3 ≤ i)) => ?_)
    · refine hs_aload (i := 0) (p := 116) (by decide +kernel) rfl ?_
      refine hs_aload (i := 1) (p := 117) (by decide +kernel) rfl ?_
      refine ht_getn (T := et_TT) (t := 10) (ci := 8) (f := 7) (p := 120) (by decide +kernel) rfl rfl hH k_s (fun c117 h117 e117 => ?_)
      refine ht_puta (T := et_TT) (t := 10) (ci := 8) (f := 7) (p := 123) (ty := .int) (by decide +kernel) rfl rfl rfl rfl (by decide +kernel) hH k_a (hi_nv (by omega) (by omega)) (fun G120 hH f120 e120 he => ?_)
      have hT := hT.fr et_ex.rf f120 (by decide +kernel)
      have hf := hf.tr hx0 (f120.wk (by decide +kernel))
      refine hs_k (x := Int32.ofNat 0) (p := 124) (by decide +kernel) ?_
      refine hs_istore (i := 2) (p := 125) (by decide +kernel) (Nat.le_of_ble_eq_true rfl) ?_
      show et_go none (d + 2) 104 125 [some (.ref a), some (.ref s), some (.int (Int32.ofNat 0))] [] _ 0 0 _
      exact pn_t4 (i := 0) hH hx0 hf ⟨hb4, hb3, hb6⟩ hT (by omega)
    · refine hs_aload (i := 0) (p := 95) (by decide +kernel) rfl ?_
      refine ht_getr (T := et_TT) (t := 10) (ci := 8) (f := 6) (p := 98) (by decide +kernel) rfl rfl hH k_a (fun a95 k_a95 e95 => ?_)
      refine hs_iload (i := 2) (p := 99) (by decide +kernel) rfl ?_
      refine ht_aald (T := et_TT) (t := 40) (N := 3) (kd := 6) (m := 2) (p := 100) (by decide +kernel) rfl rfl hH k_a95 (by omega) (by omega) (by decide) (fun v99 h99 e99 => ?_)
      obtain ⟨a99, rfl, k_a99⟩ := hi_ref h99
      refine hs_aload (i := 1) (p := 101) (by decide +kernel) rfl ?_
      refine ht_getr (T := et_TT) (t := 10) (ci := 8) (f := 6) (p := 104) (by decide +kernel) rfl rfl hH k_s (fun a101 k_a101 e101 => ?_)
      refine hs_iload (i := 2) (p := 105) (by decide +kernel) rfl ?_
      refine ht_aald (T := et_TT) (t := 40) (N := 3) (kd := 6) (m := 2) (p := 106) (by decide +kernel) rfl rfl hH k_a101 (by omega) (by omega) (by decide) (fun v105 h105 e105 => ?_)
      obtain ⟨a105, rfl, k_a105⟩ := hi_ref h105
      refine ht_callv (T := et_TT) (t := 3) (mi := 35) (na := 1) (ci := 1) (lk := 3) (lm := 3) (L0 := eg_en (eg_mL 35) [.ref a99, .ref a105]) (by decide +kernel) rfl hH k_a99 rfl rfl rfl rfl rfl (by rw [show eg_mL 35 = 3 from by decide +kernel]; first | done | rfl) ?_
      refine (ek_c5 (K, [], G) [.ref a99, .ref a105] _ hH (by show 1 ≤ _; omega) rfl (ht_ac (.inr ⟨by decide, _, rfl, k_a99⟩) (ht_ac (.inr ⟨by decide, _, rfl, k_a105⟩) ht_an))).mono (fun u hu => hs_cbn hu (fun K106 G106 c106 s106 x106 f106 hH cl106 sl106 => ?_))
      obtain rfl : c106 = 0 := Nat.le_zero.mp cl106
      obtain rfl : s106 = 0 := Nat.le_zero.mp sl106
      have hT := hT.fr x106 f106 (by decide +kernel)
      have k_a := x106 _ _ k_a
      have k_s := x106 _ _ k_s
      have k_da := x106 _ _ k_da
      have k_dc := x106 _ _ k_dc
      have k_ra := x106 _ _ k_ra
      have k_ca := x106 _ _ k_ca
      have k_a95 := x106 _ _ k_a95
      have k_a99 := x106 _ _ k_a99
      have k_a101 := x106 _ _ k_a101
      have k_a105 := x106 _ _ k_a105
      have hf := hf.tr hx0 (f106.wk (by decide +kernel))
      have hx0 := hx0.tr x106
      show et_go none _ 104 109 _ [] _ 0 0 _
      refine hs_iinc1 (i := 2) (p := 112) (by decide +kernel) rfl (Nat.le_of_ble_eq_true rfl) ?_
      refine hs_goto (p := 89) (by decide +kernel) ?_
      show et_go none (d + 2) 104 89 [some (.ref a), some (.ref s), some (.int (Int32.ofNat (i + 1)))] [] _ 0 0 _
      exact ih (3 - (i + 1)) (by omega) (i := (i + 1)) hH hx0 hf hT (by omega) rfl
theorem pn_t2 {i : Nat} (hH : et_H et_TT K G) (hx0 : et_ex K0 K) (hf : et_fr tf_M K0 G0 G) (hb : rc ≤ 4 ∧ ec ≤ 3 ∧ cc ≤ 6) (hT : tf K G a s da dc ra ca rc ec cc 0 0 4 0) (hi : i ≤ 20) : et_go none (d + 2) 104 43 [some (.ref a), some (.ref s), some (.int (Int32.ofNat i))] [] G 0 0 (tf_Z K0 G0 a s da dc ra ca rc ec cc) := by
  induction hm : 20 - i using Nat.strongRecOn generalizing i K G with
  | _ z ih =>
    have k_a := hT.2.1.1
    have k_da := hT.2.1.2.1
    have k_dc := hT.2.1.2.2
    have k_s := hT.1.1.1
    have k_ra := hT.1.1.2.1
    have k_ca := hT.1.1.2.2
    obtain ⟨hb4, hb3, hb6⟩ := hb
    refine hs_iload (i := 2) (p := 44) (by decide +kernel) rfl ?_
    refine hs_k (x := Int32.ofNat 20) (p := 46) (by decide +kernel) ?_
    refine hs_br2n (c := .ge) (t := 79) (f := 49) (by decide +kernel) (by omega) (by omega) (fun (c46 : 20 ≤ i) => ?_) (fun (c46 : ¬ (20 ≤ i)) => ?_)
    · refine hs_aload (i := 0) (p := 80) (by decide +kernel) rfl ?_
      refine hs_aload (i := 1) (p := 81) (by decide +kernel) rfl ?_
      refine ht_getn (T := et_TT) (t := 10) (ci := 8) (f := 5) (p := 84) (by decide +kernel) rfl rfl hH k_s (fun c81 h81 e81 => ?_)
      obtain rfl : ec = c81 := hb_cc (hT.1.2.2.1.2.1) e81 (by omega) (by omega)
      refine ht_puta (T := et_TT) (t := 10) (ci := 8) (f := 5) (p := 87) (ty := .int) (by decide +kernel) rfl rfl rfl rfl (by decide +kernel) hH k_a (hi_nv (by omega) (by omega)) (fun G84 hH f84 e84 he => ?_)
      have hT := hT.p5 f84 he e84
      have hf := hf.tr hx0 (f84.wk (by decide +kernel))
      refine hs_k (x := Int32.ofNat 0) (p := 88) (by decide +kernel) ?_
      refine hs_istore (i := 2) (p := 89) (by decide +kernel) (Nat.le_of_ble_eq_true rfl) ?_
      show et_go none (d + 2) 104 89 [some (.ref a), some (.ref s), some (.int (Int32.ofNat 0))] [] _ 0 0 _
      exact pn_t3 (i := 0) hH hx0 hf ⟨hb4, hb3, hb6⟩ hT (by omega)
    · refine hs_aload (i := 0) (p := 50) (by decide +kernel) rfl ?_
      refine ht_getr (T := et_TT) (t := 10) (ci := 8) (f := 3) (p := 53) (by decide +kernel) rfl rfl hH k_a (fun a50 k_a50 e50 => ?_)
      refine hs_iload (i := 2) (p := 54) (by decide +kernel) rfl ?_
      refine hs_aload (i := 1) (p := 55) (by decide +kernel) rfl ?_
      refine ht_getr (T := et_TT) (t := 10) (ci := 8) (f := 3) (p := 58) (by decide +kernel) rfl rfl hH k_s (fun a55 k_a55 e55 => ?_)
      refine hs_iload (i := 2) (p := 59) (by decide +kernel) rfl ?_
      refine ht_ild (T := et_TT) (t := 17) (N := 20) (p := 60) (by decide +kernel) rfl hH k_a55 (by omega) (by decide) (fun x59 s59 e59 => ?_)
      refine ht_ist (M := [(17, 0, 100000)]) (T := et_TT) (t := 17) (N := 20) (p := 61) (by decide +kernel) rfl rfl (by decide) hH k_a50 (by omega) (by decide) (fun s hs => absurd hs List.not_mem_nil) (hb_mm (by omega)) (fun G60 hH f60 => ?_)
      have hT := hT.fr et_ex.rf f60 (by decide +kernel)
      have hf := hf.tr hx0 (f60.wk (by decide +kernel))
      refine hs_aload (i := 0) (p := 62) (by decide +kernel) rfl ?_
      refine ht_getr (T := et_TT) (t := 10) (ci := 8) (f := 4) (p := 65) (by decide +kernel) rfl rfl hH k_a (fun a62 k_a62 e62 => ?_)
      refine hs_iload (i := 2) (p := 66) (by decide +kernel) rfl ?_
      refine hs_aload (i := 1) (p := 67) (by decide +kernel) rfl ?_
      refine ht_getr (T := et_TT) (t := 10) (ci := 8) (f := 4) (p := 70) (by decide +kernel) rfl rfl hH k_s (fun a67 k_a67 e67 => ?_)
      refine hs_iload (i := 2) (p := 71) (by decide +kernel) rfl ?_
      refine ht_zln (t := 27) (N := 20) (m := 19) (p := 72) (by decide +kernel) rfl hH k_a67 (by omega) (by omega) (by decide) (fun c71 h71 => ?_)
      refine ht_zst (M := [(27, 0, 100000)]) (t := 27) (N := 20) (p := 73) (by decide +kernel) rfl rfl hH k_a62 (by omega) (by decide) (by omega) (hb_mm (by omega)) (fun G72 hH f72 => ?_)
      have hT := hT.fr et_ex.rf f72 (by decide +kernel)
      have hf := hf.tr hx0 (f72.wk (by decide +kernel))
      refine hs_iinc1 (i := 2) (p := 76) (by decide +kernel) rfl (Nat.le_of_ble_eq_true rfl) ?_
      refine hs_goto (p := 43) (by decide +kernel) ?_
      show et_go none (d + 2) 104 43 [some (.ref a), some (.ref s), some (.int (Int32.ofNat (i + 1)))] [] _ 0 0 _
      exact ih (20 - (i + 1)) (by omega) (i := (i + 1)) hH hx0 hf hT (by omega) rfl
theorem pn_t1 {i : Nat} (hH : et_H et_TT K G) (hx0 : et_ex K0 K) (hf : et_fr tf_M K0 G0 G) (hb : rc ≤ 4 ∧ ec ≤ 3 ∧ cc ≤ 6) (hT : tf K G a s da dc ra ca rc ec cc 0 0 i 0) (hi : i ≤ 4) : et_go none (d + 2) 104 10 [some (.ref a), some (.ref s), some (.int (Int32.ofNat i))] [] G 0 0 (tf_Z K0 G0 a s da dc ra ca rc ec cc) := by
  induction hm : 4 - i using Nat.strongRecOn generalizing i K G with
  | _ z ih =>
    have k_a := hT.2.1.1
    have k_da := hT.2.1.2.1
    have k_dc := hT.2.1.2.2
    have k_s := hT.1.1.1
    have k_ra := hT.1.1.2.1
    have k_ca := hT.1.1.2.2
    obtain ⟨hb4, hb3, hb6⟩ := hb
    refine hs_iload (i := 2) (p := 11) (by decide +kernel) rfl ?_
    refine hs_k (x := Int32.ofNat 4) (p := 12) (by decide +kernel) ?_
    refine hs_br2n (c := .ge) (t := 33) (f := 15) (by decide +kernel) (by omega) (by omega) (fun (c12 : 4 ≤ i) => ?_) (fun (c12 : ¬ (4 ≤ i)) => ?_)
    · obtain rfl : i = 4 := by omega
      refine hs_aload (i := 0) (p := 34) (by decide +kernel) rfl ?_
      refine hs_aload (i := 1) (p := 35) (by decide +kernel) rfl ?_
      refine ht_getn (T := et_TT) (t := 10) (ci := 8) (f := 2) (p := 38) (by decide +kernel) rfl rfl hH k_s (fun c35 h35 e35 => ?_)
      refine ht_puta (T := et_TT) (t := 10) (ci := 8) (f := 2) (p := 41) (ty := .int) (by decide +kernel) rfl rfl rfl rfl (by decide +kernel) hH k_a (hi_nv (by omega) (by omega)) (fun G38 hH f38 e38 he => ?_)
      have hT := hT.fr et_ex.rf f38 (by decide +kernel)
      have hf := hf.tr hx0 (f38.wk (by decide +kernel))
      refine hs_k (x := Int32.ofNat 0) (p := 42) (by decide +kernel) ?_
      refine hs_istore (i := 2) (p := 43) (by decide +kernel) (Nat.le_of_ble_eq_true rfl) ?_
      show et_go none (d + 2) 104 43 [some (.ref a), some (.ref s), some (.int (Int32.ofNat 0))] [] _ 0 0 _
      exact pn_t2 (i := 0) hH hx0 hf ⟨hb4, hb3, hb6⟩ hT (by omega)
    · refine hs_aload (i := 0) (p := 16) (by decide +kernel) rfl ?_
      refine ht_getr (T := et_TT) (t := 10) (ci := 8) (f := 1) (p := 19) (by decide +kernel) rfl rfl hH k_a (fun a16 k_a16 e16 => ?_)
      obtain rfl : da = a16 := Value.ref.inj (Option.some.inj ((hT.2.2.2.1.1).symm.trans e16))
      refine hs_iload (i := 2) (p := 20) (by decide +kernel) rfl ?_
      refine hs_aload (i := 1) (p := 21) (by decide +kernel) rfl ?_
      refine ht_getr (T := et_TT) (t := 10) (ci := 8) (f := 1) (p := 24) (by decide +kernel) rfl rfl hH k_s (fun a21 k_a21 e21 => ?_)
      obtain rfl : ra = a21 := Value.ref.inj (Option.some.inj ((hT.1.2.1.1).symm.trans e21))
      refine hs_iload (i := 2) (p := 25) (by decide +kernel) rfl ?_
      refine ht_aald (T := et_TT) (t := 37) (N := 4) (kd := 5) (m := 3) (p := 26) (by decide +kernel) rfl rfl hH k_ra (by omega) (by omega) (by decide) (fun v25 h25 e25 => ?_)
      refine ht_aasa (t := 37) (u := 8) (N := 4) (kd := 5) (cj := 6) (p := 27) (by decide +kernel) ⟨rfl, rfl⟩ (by decide +kernel) hH k_da (by omega) h25 (fun G26 hH f26 e26 he => ?_)
      have hT := hT.ru f26 e26 e25 he
      have hf := hf.tr hx0 ((hb_wk f26 (by omega)).wk (by decide +kernel))
      refine hs_iinc1 (i := 2) (p := 30) (by decide +kernel) rfl (Nat.le_of_ble_eq_true rfl) ?_
      refine hs_goto (p := 10) (by decide +kernel) ?_
      show et_go none (d + 2) 104 10 [some (.ref a), some (.ref s), some (.int (Int32.ofNat (i + 1)))] [] _ 0 0 _
      exact ih (4 - (i + 1)) (by omega) (i := (i + 1)) hH hx0 hf hT (by omega) rfl
theorem hc_takeI {rc' ec' cc' : Nat} (hH : et_H et_TT K G) (hS : ci_S K G s ra ca rc ec cc) (hD : ci_S K G a da dc rc' ec' cc') (hne : ¬ s = a ∧ ¬ ra = da ∧ ¬ ca = dc) (hd : 2 ≤ d2) : et_go none d2 104 0 (eg_en (eg_mL 104) [.ref a, .ref s]) [] G 0 0 (tf_Z K G a s da dc ra ca rc ec cc) := by
  obtain ⟨d, rfl⟩ : ∃ d, d2 = d + 2 := ⟨d2 - 2, by omega⟩
  have hx0 : et_ex K K := et_ex.rf
  have hf : et_fr tf_M K G G := et_fr.rf
  have k_a := hD.1.1
  have k_s := hS.1.1
  obtain ⟨hb4, hb3, hb6⟩ := hS.2.2.2.1
  rw [show eg_mL 104 = 3 from by decide +kernel]
  show et_go none (d + 2) 104 0 [some (.ref a), some (.ref s), none] [] G 0 0 _
  refine hs_aload (i := 0) (p := 1) (by decide +kernel) rfl ?_
  refine hs_aload (i := 1) (p := 2) (by decide +kernel) rfl ?_
  refine ht_getn (T := et_TT) (t := 10) (ci := 8) (f := 0) (p := 5) (by decide +kernel) rfl rfl hH k_s (fun c2 h2 e2 => ?_)
  obtain rfl : rc = c2 := hb_cc (hS.2.2.1.1) e2 (by omega) (by omega)
  refine ht_puta (T := et_TT) (t := 10) (ci := 8) (f := 0) (p := 8) (ty := .int) (by decide +kernel) rfl rfl rfl rfl (by decide +kernel) hH k_a (hi_nv (by omega) (by omega)) (fun G5 hH f5 e5 he => ?_)
  have hT := tf.beg hS hD hne f5 he e5
  have hf := hf.tr hx0 (f5.wk (by decide +kernel))
  refine hs_k (x := Int32.ofNat 0) (p := 9) (by decide +kernel) ?_
  refine hs_istore (i := 2) (p := 10) (by decide +kernel) (Nat.le_of_ble_eq_true rfl) ?_
  show et_go none (d + 2) 104 10 [some (.ref a), some (.ref s), some (.int (Int32.ofNat 0))] [] _ 0 0 _
  exact pn_t1 (i := 0) hH hx0 hf ⟨hb4, hb3, hb6⟩ hT (by omega)
end PPK
