/-! BY HAND: the constructors: what they make, address by address -/
section HPW
variable {K K' K0 : et_K} {d k pc ck sk : Nat} {L : eg_Ls} {st r : List Value} {G G' G0 : eg_G} {Z : eg_O → Prop} {a b t p ci n m : Nat} {fs : List Value} {c c' : eg_C}
/-- a cell without a type -/
def puc (K : et_K) (G : eg_G) (a : Nat) (c : eg_C) : Prop := et_H et_TT K G ∧ (∀ t, ¬ K a = some t) ∧ eg_NC ≤ a ∧ a < G.2 ∧ eg_at G a = c
/-- more was made, nothing was changed -/
def pk (K : et_K) (G : eg_G) (K' : et_K) (G' : eg_G) : Prop := G.2 < G'.2 ∧ ∀ b, b < G.2 → K' b = K b ∧ eg_at G' b = eg_at G b
theorem pk.ty (h : pk K G K' G') (hH : et_H et_TT K G) (hb : K b = some t) : K' b = some t := ((h.2 b (hH.2.2 b t hb).1).1).trans hb
theorem pk.un (h : pk K G K' G') (hH : et_H et_TT K' G') (hu : puc K G a c) : puc K' G' a c := by
  obtain ⟨-, hn, h1, h2, h3⟩ := hu
  exact ⟨hH, fun t e => hn t ((h.2 a h2).1 ▸ e), h1, Nat.lt_trans h2 h.1, (h.2 a h2).2.trans h3⟩
theorem pk.fl (h : pk K G K' G') (hH : et_H et_TT K G) (hb : K b = some t) {f : Nat} {v : Option Value} (e : et_pl (eg_at G b) f = v) : et_pl (eg_at G' b) f = v := by
  rw [(h.2 b (hH.2.2 b t hb).1).2]
  exact e
theorem puc_ne (h : puc K G a c) (hb : K b = some t) : ¬ b = a := fun e => h.2.1 _ (e ▸ hb)
theorem puc_H (h : puc K G a c) : et_H et_TT K (eg_u G a c') := by
  obtain ⟨hH, hn, h1, h2, h3⟩ := h
  have hne : ∀ {a' u : Nat}, K a' = some u → ¬ a' = a := fun h e => hn _ (e ▸ h)
  refine ⟨hH.1, hH.2.1, fun a' u h => ?_⟩
  obtain ⟨g1, g2, g3, d', hd', hc', hx'⟩ := hH.2.2 a' u h
  exact ⟨g1, g2, g3, d', hd', by rw [et_at_u (hne h)]; exact hc', by rw [et_at_u (hne h)]; exact hx'⟩
theorem puc_u (h : puc K G a c) (c' : eg_C) : puc K (eg_u G a c') a c' := ⟨puc_H h, h.2.1, h.2.2.1, h.2.2.2.1, et_at_us h.2.2.1⟩
theorem puc_o {c2 : eg_C} (h : puc K G a c) (ho : puc K G b c2) (hne : ¬ b = a) (c' : eg_C) : puc K (eg_u G a c') b c2 := ⟨puc_H h, ho.2.1, ho.2.2.1, ho.2.2.2.1, by rw [et_at_u hne]; exact ho.2.2.2.2⟩
theorem puc_typ {dd : et_D} (h : puc K G a c) (ht : 2 ≤ t) (hd : et_TT[t]? = some dd) (hc : et_c K dd c) (hcx : et_cx dd a c) : et_H et_TT (et_kn K a t) G ∧ et_kn K a t a = some t := by
  obtain ⟨hH, hn, h1, h2, h3⟩ := h
  have hx : et_ex K (et_kn K a t) := fun a' u h => by
    show (if a' = a then some t else K a') = some u
    rw [if_neg (fun e => hn _ (e ▸ h))]
    exact h
  refine ⟨⟨hH.1, fun a ha => hx _ _ (hH.2.1 a ha), fun a' u h => ?_⟩, if_pos rfl⟩
  have h : (if a' = a then some t else K a') = some u := h
  by_cases e : a' = a
  · subst e
    rw [if_pos rfl] at h
    cases h
    refine ⟨h2, fun e => absurd e (by omega), fun _ => h1, _, hd, ?_, ?_⟩
    · rw [h3]
      exact et_c_ex hx hc
    · rw [h3]
      exact hcx
  · rw [if_neg e] at h
    obtain ⟨g1, g2, g3, d', hd', hc', hx'⟩ := hH.2.2 a' u h
    exact ⟨g1, g2, g3, d', hd', et_c_ex hx hc', hx'⟩
theorem puc_n {c2 : eg_C} (ho : puc K G b c2) (hne : ¬ b = a) (hH : et_H et_TT (et_kn K a t) G) : puc (et_kn K a t) G b c2 := ⟨hH, fun u e => ho.2.1 u (by
  have e : (if b = a then some t else K b) = some u := e
  rw [if_neg hne] at e
  exact e), ho.2.2.1, ho.2.2.2.1, ho.2.2.2.2⟩
theorem et_kn_k {u : Nat} (h : puc K G a c) (hb : K b = some u) : et_kn K a t b = some u := by
  show (if b = a then some t else K b) = some u
  rw [if_neg (puc_ne h hb)]
  exact hb
/-- but the object a, nothing old was changed -/
def pq (a : Nat) (K0 : et_K) (G0 : eg_G) (K : et_K) (G : eg_G) : Prop := G0.2 ≤ G.2 ∧ ∀ b, b < G0.2 → ¬ b = a → K b = K0 b ∧ eg_at G b = eg_at G0 b
theorem pq.rf : pq a K G K G := ⟨Nat.le_refl _, fun _ _ _ => ⟨rfl, rfl⟩⟩
theorem pq.mo (h : pq a K0 G0 K G) (hk : pk K G K' G') : pq a K0 G0 K' G' := ⟨Nat.le_of_lt (Nat.lt_of_le_of_lt h.1 hk.1), fun b hb hne =>
  have h1 := hk.2 b (Nat.lt_of_lt_of_le hb h.1)
  have h2 := h.2 b hb hne
  ⟨h1.1.trans h2.1, h1.2.trans h2.2⟩⟩
theorem pq.up (h : pq a K0 G0 K G) : pq a K0 G0 K (eg_u G a c) := ⟨h.1, fun b hb hne => ⟨(h.2 b hb hne).1, by rw [et_at_u hne]; exact (h.2 b hb hne).2⟩⟩
theorem pq.wr (h : pq a K0 G0 K G) (hb : G0.2 ≤ b) : pq a K0 G0 K (eg_u G b c) := ⟨h.1, fun b' hb' hne => ⟨(h.2 b' hb' hne).1, by rw [et_at_u (by omega)]; exact (h.2 b' hb' hne).2⟩⟩
theorem pq.ty (h : pq a K0 G0 K G) (hb : b = a ∨ G0.2 ≤ b) : pq a K0 G0 (et_kn K b t) G := ⟨h.1, fun b' hb' hne => ⟨by
  show (if b' = b then some t else K b') = K0 b'
  rw [if_neg (by omega)]
  exact (h.2 b' hb' hne).1, (h.2 b' hb' hne).2⟩⟩
theorem pk_of (hq : pq a K G0 K' G') (ha : G.2 ≤ a) (hl : G.2 < G0.2) (h0 : ∀ b, b < G.2 → eg_at G0 b = eg_at G b) : pk K G K' G' := ⟨Nat.lt_of_lt_of_le hl hq.1, fun b hb =>
  have h1 := hq.2 b (Nat.lt_trans hb hl) (by omega)
  ⟨h1.1, h1.2.trans (h0 b hb)⟩⟩
theorem ht_newV (hc : hs_nw k pc = some (ci, p)) (h1 : ck + 1 ≤ 600002) (h2 : sk + n ≤ 7302232) (hn : hs_cl ci = n) (hfs : eg_nc n ci = fs) (hH : et_H et_TT K G) (h : ∀ (G' : eg_G) (a : Nat), puc K G' a (.inr (ci, fs)) → G.2 ≤ a → G.2 < G'.2 → (∀ b, b < G.2 → eg_at G' b = eg_at G b) → et_go none d k p L (.ref a :: st) G' (ck + 1) (sk + n) Z) : et_go none d k pc L st G ck sk Z := by
  subst hn
  refine hs_new hc h1 h2 ?_
  exact h _ _ (pu_new (fs := fs) (c := .inr (ci, eg_nc (hs_cl ci) ci)) hH (by rw [hfs])).1 (Nat.le_refl _) (Nat.lt_succ_self _) (fun b hb => et_at_p hb)
theorem gq_zero : gq_G (fun _ => 0) := fun t _ => ⟨0, rfl, by decide, fun n _ => ⟨0, 0, rfl, rfl, by decide, .inl rfl⟩⟩
theorem ht_nb {kd : Nat} {ss : List (Nat × Nat × et_P)} (hc : hs_na k pc = some (kd, p)) (hT : et_TT[t]? = some (.inr (kd, n, ss))) (hs : (Nat.ble 2 t && ss.all (fun s => et_df0 s.2.2 (et_dv0 kd))) = true) (hn : (Int32.ofNat n).toNatClampNeg = n ∧ 0 ≤ (Int32.ofNat n).toInt ∧ (Int32.ofNat n).toInt ≤ 65536) (h1 : ck + 1 ≤ 600002) (h2 : sk + n ≤ 7302232) (hH : et_H et_TT K G) (h : ∀ (K' : et_K) (G' : eg_G) (b : Nat), pk K G K' G' → et_H et_TT K' G' → K' b = some t → G.2 ≤ b → (kd = 0 → eg_at G' b = .inl (0, (n, .inl (fun _ => 0)))) → et_go none d k p L (.ref b :: r) G' (ck + 1) (sk + n) Z) : et_go none d k pc L (.int (Int32.ofNat n) :: r) G ck sk Z := by
  rw [Bool.and_eq_true] at hs
  have ht := Nat.le_of_ble_eq_true hs.1
  have hnf : et_nf (et_dv0 kd) = true := by
    unfold et_dv0
    split
    · rfl
    · split <;> rfl
  have key : ∀ (x : vp_A), x.1 = n → (∀ i, eg_rd kd x i = some (et_dv0 kd)) → (kd = 0 → x.2 = .inl (fun _ => 0)) → et_go none d k p L (.ref G.2 :: r) (eg_p G (.inl (kd, x))) (ck + 1) (sk + n) Z := fun x e1 e2 e3 => by
    have h3 := et_H1 (M := []) (c := .inl (kd, x)) hH ht hT ⟨x, rfl, e1, fun i _ => ⟨_, e2 i⟩, fun s hm i _ _ _ => ⟨_, e2 i, et_df0_ok hnf (List.all_eq_true.mp hs.2 s hm) hH.2.1⟩⟩ (fun h0 _ m W e => by
      have e4 := e3 h0
      have e : (Sum.inl (kd, x) : eg_C) = .inl (0, (m, .inl W)) := e
      have e5 : x = (m, .inl W) := by
        injection e with e
        injection e
      rw [e5] at e4
      have e4 : (Sum.inl W : (Nat → Int32) ⊕ _) = .inl (fun _ => 0) := e4
      injection e4 with e4
      rw [e4]
      exact gq_zero)
    exact h _ _ G.2 ⟨Nat.lt_succ_self _, fun a ha => ⟨if_neg (Nat.ne_of_lt ha), et_at_p ha⟩⟩ h3.2.2 (if_pos rfl) (Nat.le_refl _) (fun h0 => by
      rw [et_at_ps hH.1]
      obtain ⟨x1, x2⟩ := x
      have e1 : x1 = n := e1
      have e4 : x2 = .inl (fun _ => 0) := e3 h0
      rw [e1, e4, h0])
  have h12 : ck + 1 ≤ eg_MC ∧ sk + n ≤ eg_MS := ⟨h1, h2⟩
  unfold hs_na at hc
  split at hc
  · rename_i t e
    split at hc
    · rename_i kd' f hna
      cases hc
      refine hs_st e rfl ?_ (key (f n) ?_ ?_ ?_)
      · dsimp only [eg_st]
        rw [hna]
        dsimp only
        rw [if_pos hn.2, hn.1]
        unfold eg_al
        rw [if_pos h12]
      · unfold eg_na at hna
        split at hna <;> cases hna <;> rfl
      · intro i
        unfold eg_na at hna
        split at hna <;> cases hna <;> rfl
      · intro h0
        unfold eg_na at hna
        split at hna <;> cases hna <;> first | rfl | (exact absurd h0 (by decide))
    · cases hc
  · rename_i i e
    split at hc
    · rename_i cj hcj
      split at hc
      · rename_i h0
        cases hc
        refine hs_st e rfl ?_ (key (n, .inr (.inr (.inr (.inr (fun _ => none))))) rfl (fun i => ?_) (fun h9 => absurd h0.1 (by omega)))
        · dsimp only [eg_st]
          rw [hcj]
          dsimp only
          rw [if_pos ⟨hn.2.1, hn.2.2, h0⟩, hn.1]
          unfold eg_al
          rw [if_pos h12]
        · unfold eg_rd et_dv0
          dsimp only
          rw [if_pos h0.1, if_neg (by omega), if_pos h0.1]
          rfl
      · cases hc
    · cases hc
  · cases hc
/-- an array of references that has no type yet: made, written -/
theorem ht_nr {kd : Nat} (hc : hs_na k pc = some (kd, p)) (hk : 5 ≤ kd) (hn : (Int32.ofNat n).toNatClampNeg = n ∧ 0 ≤ (Int32.ofNat n).toInt ∧ (Int32.ofNat n).toInt ≤ 65536) (h1 : ck + 1 ≤ 600002) (h2 : sk + n ≤ 7302232) (hH : et_H et_TT K G) (h : ∀ (G' : eg_G) (b : Nat), pk K G K G' → G.2 ≤ b → puc K G' b (.inl (kd, (n, .inr (.inr (.inr (.inr (fun _ => none))))))) → et_go none d k p L (.ref b :: r) G' (ck + 1) (sk + n) Z) : et_go none d k pc L (.int (Int32.ofNat n) :: r) G ck sk Z := by
  have h12 : ck + 1 ≤ eg_MC ∧ sk + n ≤ eg_MS := ⟨h1, h2⟩
  unfold hs_na at hc
  split at hc
  · rename_i t e
    split at hc
    · rename_i kd' f hna
      cases hc
      unfold eg_na at hna
      split at hna <;> cases hna <;> exact absurd hk (by decide)
    · cases hc
  · rename_i i e
    split at hc
    · rename_i cj hcj
      split at hc
      · rename_i h0
        cases hc
        have hp := hH
        have hH2 : et_H et_TT K (eg_p G (.inl (eg_ek cj, (n, .inr (.inr (.inr (.inr (fun _ => none)))))))) := ⟨Nat.le_succ_of_le hH.1, hH.2.1, fun a u h => by
          obtain ⟨g1, g2, g3, d', hd', hc', hx'⟩ := hH.2.2 a u h
          exact ⟨Nat.lt_succ_of_lt g1, g2, g3, d', hd', by rw [et_at_p g1]; exact hc', by rw [et_at_p g1]; exact hx'⟩⟩
        refine hs_st e rfl ?_ (h _ G.2 ⟨Nat.lt_succ_self _, fun b hb => ⟨rfl, et_at_p hb⟩⟩ (Nat.le_refl _) ⟨hH2, fun t h => absurd (hH.2.2 _ t h).1 (Nat.lt_irrefl _), hH.1, Nat.lt_succ_self _, et_at_ps hH.1⟩)
        dsimp only [eg_st]
        rw [hcj]
        dsimp only
        rw [if_pos ⟨hn.2.1, hn.2.2, h0⟩, hn.1]
        unfold eg_al
        rw [if_pos h12]
      · cases hc
    · cases hc
  · cases hc
theorem ht_wr {kd i u cj : Nat} {ps : List et_P} {f : Nat → Option Nat} (hc : hs_o k pc = some (.aastore, p)) (hk : (5 ≤ kd ∧ kd < 11) ∧ eg_el kd = cj ∧ n ≤ 400) (hT : et_TT[u]? = some (.inl (cj, ps))) (hu : puc K G a (.inl (kd, (n, .inr (.inr (.inr (.inr f))))))) (hi : i < n) (hb : K b = some u) (h : et_go none d k p L r (eg_u G a (.inl (kd, (n, .inr (.inr (.inr (.inr (va_up f i (some b))))))))) ck sk Z) : et_go none d k pc L (.ref b :: .int (Int32.ofNat i) :: .ref a :: r) G ck sk Z := by
  obtain ⟨hH, hn, h1, h2, h3⟩ := hu
  obtain ⟨q1, -, -, dd, hd, hcb, -⟩ := hH.2.2 b u hb
  rw [hT] at hd
  cases hd
  obtain ⟨fs, eb, -, -⟩ := hcb
  have h4 := hs_nint (a := i) (by omega)
  obtain ⟨e0, rfl⟩ := hs_oc hc
  have hak : eg_ak .aastore kd = true := by
    show (decide (5 ≤ kd) && decide (kd < 11)) = true
    rw [decide_eq_true hk.1.1, decide_eq_true hk.1.2]
    rfl
  refine hs_st e0 rfl ?_ h
  show eg_aw .aastore pc L (.ref b :: .int (Int32.ofNat i) :: .ref a :: r) G ck sk = _
  unfold eg_aw
  dsimp only
  rw [h3]
  dsimp only
  rw [if_pos ⟨h1, h2, hak, by omega, by omega⟩, hs_nnat (by omega)]
  unfold eg_wr
  dsimp only
  rw [if_pos ⟨q1, hk.1.1, hk.1.2, by rw [eb, hk.2.1]; exact beq_self_eq_true cj⟩]
/-- rows of an array of arrays -/
def hs_ma (k pc : Nat) : Option Nat := match eg_cd k pc with
  | some (.multianewarray i 2, 4) => if (eg_cT.getD (eg_mo k) []).lookup i = some 30 then some (pc + 4) else none
  | _ => none
theorem ht_ma {hi : Nat} (hc : hs_ma k pc = some p) (hT : et_TT[t]? = some (.inr (11, n, [(0, hi, .inr (.inr (0, 45)))]))) (ht : 2 ≤ t ∧ n ≤ 100) (h1 : ck + 1 + n ≤ 600002) (h2 : sk + n + n * 151 ≤ 7302232) (hH : et_H et_TT K G) (h : ∀ (K' : et_K) (G' : eg_G) (b : Nat), pk K G K' G' → et_H et_TT K' G' → K' b = some t → et_go none d k p L (.ref b :: r) G' (ck + 1 + n) (sk + n + n * 151) Z) : et_go none d k pc L (.int (Int32.ofNat 151) :: .int (Int32.ofNat n) :: r) G ck sk Z := by
  have hNC := hH.1
  have a0 : ∀ b, b < G.2 → eg_at (eg_mg G n 151) b = eg_at G b := fun b hb => by
    unfold eg_at
    split
    · rfl
    · show (if b < G.2 then G.1 b else _) = G.1 b
      rw [if_pos hb]
  have a1 : eg_at (eg_mg G n 151) G.2 = .inl (11, (n, .inr (.inr (.inr (.inr (fun i => if i < n then some (G.2 + 1 + i) else none)))))) := by
    unfold eg_at
    rw [if_neg (Nat.not_lt.mpr hNC)]
    show (if G.2 < G.2 then _ else if G.2 = G.2 then _ else _) = _
    rw [if_neg (Nat.lt_irrefl _), if_pos rfl]
  have a2 : ∀ b, G.2 < b → b < G.2 + 1 + n → eg_at (eg_mg G n 151) b = .inl (0, (151, .inl (fun _ => 0))) := fun b hb hb2 => by
    unfold eg_at
    rw [if_neg (by omega)]
    show (if b < G.2 then _ else if b = G.2 then _ else if b < G.2 + 1 + n then _ else _) = _
    rw [if_neg (by omega), if_neg (by omega), if_pos hb2]
  have hx : ∀ b u, K b = some u → (fun b => if b = G.2 then some t else if G.2 < b ∧ b < G.2 + 1 + n then some 45 else K b : et_K) b = some u := fun b u hb => by
    have := (hH.2.2 b u hb).1
    dsimp only
    rw [if_neg (by omega), if_neg (by omega)]
    exact hb
  have hH2 : et_H et_TT (fun b => if b = G.2 then some t else if G.2 < b ∧ b < G.2 + 1 + n then some 45 else K b) (eg_mg G n 151) := by
    have e2 : (eg_mg G n 151).2 = G.2 + 1 + n := rfl
    refine ⟨by rw [e2]; omega, fun a ha => hx _ _ (hH.2.1 a ha), fun a u h => ?_⟩
    dsimp only at h
    rw [e2]
    by_cases e : a = G.2
    · rw [if_pos e] at h
      cases h
      subst e
      refine ⟨by omega, fun h => by omega, fun _ => hNC, _, hT, ?_, ?_⟩
      · rw [a1]
        refine ⟨_, rfl, rfl, fun i hi => ⟨_, rfl⟩, fun s hs i i1 i2 i3 => ?_⟩
        obtain rfl := List.mem_singleton.mp hs
        refine ⟨.ref (G.2 + 1 + i), ?_, .inr ⟨by decide, _, rfl, ?_⟩⟩
        · show some (va_rf (if i < n then some (G.2 + 1 + i) else none)) = _
          rw [if_pos i3]
          rfl
        · show (if G.2 + 1 + i = G.2 then some t else if G.2 < G.2 + 1 + i ∧ G.2 + 1 + i < G.2 + 1 + n then some 45 else K _) = _
          rw [if_neg (by omega), if_pos (by omega)]
      · rw [a1]
        exact fun h => absurd h (by decide)
    · rw [if_neg e] at h
      by_cases e3 : G.2 < a ∧ a < G.2 + 1 + n
      · rw [if_pos e3] at h
        cases h
        refine ⟨by omega, fun h => by omega, fun _ => by omega, _, rfl, ?_, ?_⟩
        · rw [a2 a e3.1 e3.2]
          exact ⟨_, rfl, rfl, fun i hi => ⟨_, rfl⟩, fun s hs => absurd hs List.not_mem_nil⟩
        · rw [a2 a e3.1 e3.2]
          exact fun _ h => absurd h (by decide)
      · rw [if_neg e3] at h
        obtain ⟨g1, g2, g3, d', hd', hc', hx'⟩ := hH.2.2 a u h
        exact ⟨by omega, g2, g3, d', hd', by rw [a0 a g1]; exact et_c_ex hx hc', by rw [a0 a g1]; exact hx'⟩
  unfold hs_ma at hc
  split at hc
  · rename_i i e
    split at hc
    · rename_i hci
      cases hc
      refine hs_st e rfl ?_ (h _ _ G.2 ⟨by show G.2 < G.2 + 1 + n; omega, fun b hb => ⟨?_, a0 b hb⟩⟩ hH2 (if_pos rfl))
      · dsimp only [eg_st]
        rw [hci]
        have g1 := hs_nint (a := n) (by omega)
        have g2 := hs_nint (a := 151) (by omega)
        have g3 : (Int32.ofNat n).toNatClampNeg = n := hs_nnat (by omega)
        have g4 : (Int32.ofNat 151).toNatClampNeg = 151 := hs_nnat (by omega)
        show (if 2 = 2 ∧ 0 ≤ (Int32.ofNat n).toInt ∧ (Int32.ofNat n).toInt ≤ 65536 ∧ 0 ≤ (Int32.ofNat 151).toInt ∧ (Int32.ofNat 151).toInt ≤ 65536 ∧ ck + (1 + (Int32.ofNat n).toNatClampNeg) ≤ eg_MC ∧ sk + ((Int32.ofNat n).toNatClampNeg + (Int32.ofNat n).toNatClampNeg * (Int32.ofNat 151).toNatClampNeg) ≤ eg_MS then some (pc + 4, L, Value.ref G.2 :: r, eg_mg G (Int32.ofNat n).toNatClampNeg (Int32.ofNat 151).toNatClampNeg, ck + 1 + (Int32.ofNat n).toNatClampNeg, sk + (Int32.ofNat n).toNatClampNeg + (Int32.ofNat n).toNatClampNeg * (Int32.ofNat 151).toNatClampNeg) else none) = _
        rw [g3, g4, if_pos ⟨rfl, by omega, by omega, by omega, by omega, by show _ ≤ 600002; omega, by show _ ≤ 7302232; omega⟩]
      · show (if b = G.2 then some t else if G.2 < b ∧ b < G.2 + 1 + n then some 45 else K b) = _
        rw [if_neg (by omega), if_neg (by omega)]
    · cases hc
  · cases hc
/-- how a constructor ends -/
def pi_Z (K : et_K) (G : eg_G) (a t c s : Nat) (P : et_K → eg_G → Prop) (u : eg_O) : Prop := ∃ K' : et_K, pq a K G K' u.2.1 ∧ et_H et_TT K' u.2.1 ∧ K' a = some t ∧ u.1 = .inl none ∧ u.2.2.1 = c ∧ u.2.2.2 = s ∧ P K' u.2.1
theorem pi_cb {c s : Nat} {P : et_K → eg_G → Prop} {u : eg_O} (hu : pi_Z K G a t c s P u) (h : ∀ (K' : et_K) (G' : eg_G), pq a K G K' G' → et_H et_TT K' G' → K' a = some t → P K' G' → et_go none d k (pc + 3) L r G' (ck + c) (sk + s) Z) : hs_cont d k pc L r ck sk Z u := by
  obtain ⟨K', h1, h2, h3, e, h5, h6, h7⟩ := hu
  obtain ⟨u1, u2, u3, u4⟩ := u
  have e : u1 = .inl none := e
  have h5 : u3 = c := h5
  have h6 : u4 = s := h6
  subst e h5 h6
  exact hs_cb (h K' u2 h1 h2 h3 h7)
end HPW
section HPX
variable {K K' K0 : et_K} {d k pc ck sk : Nat} {L : eg_Ls} {st r : List Value} {G G' G0 : eg_G} {Z : eg_O → Prop} {a b t p ci n m : Nat} {fs : List Value} {c c2 : eg_C}
theorem hs_puti {f : Nat} {ty : FieldType} {v : Value} (hc : hs_pj k pc = some (ci, f, ty, p)) (hu : puc K G a (.inr (ci, fs))) (hl : f < fs.length) (ht : eg_fit ty v = true) (h : ∀ (G' : eg_G), puc K G' a (.inr (ci, fs.set f v)) → (∀ b, ¬ b = a → eg_at G' b = eg_at G b) → G'.2 = G.2 → et_go none d k p L r G' ck sk Z) : et_go none d k pc L (v :: .ref a :: r) G ck sk Z :=
  hs_putj hc hu.2.2.2.2 ⟨hu.2.2.1, hu.2.2.2.1⟩ hl ht (h _ (puc_u hu _) (fun _ hb => et_at_u hb) rfl)
theorem ht_wri {kd i u cj : Nat} {ps : List et_P} {f : Nat → Option Nat} (hc : hs_o k pc = some (.aastore, p)) (hk : (5 ≤ kd ∧ kd < 11) ∧ eg_el kd = cj ∧ n ≤ 400) (hT : et_TT[u]? = some (.inl (cj, ps))) (hu : puc K G a (.inl (kd, (n, .inr (.inr (.inr (.inr f))))))) (hi : i < n) (hb : K b = some u) (h : ∀ (G' : eg_G), puc K G' a (.inl (kd, (n, .inr (.inr (.inr (.inr (va_up f i (some b)))))))) → (∀ b, ¬ b = a → eg_at G' b = eg_at G b) → G'.2 = G.2 → et_go none d k p L r G' ck sk Z) : et_go none d k pc L (.ref b :: .int (Int32.ofNat i) :: .ref a :: r) G ck sk Z :=
  ht_wr hc hk hT hu hi hb (h _ (puc_u hu _) (fun _ hb => et_at_u hb) rfl)
theorem pq.pt (h : pq a K0 G0 K G) (he : ∀ b, ¬ b = a → eg_at G' b = eg_at G b) (e2 : G'.2 = G.2) : pq a K0 G0 K G' := ⟨by rw [e2]; exact h.1, fun b hb hne => ⟨(h.2 b hb hne).1, (he b hne).trans (h.2 b hb hne).2⟩⟩
theorem pq.sw (h : pq a K0 G0 K G) (hb0 : G0.2 ≤ b) (he : ∀ b', ¬ b' = b → eg_at G' b' = eg_at G b') (e2 : G'.2 = G.2) : pq a K0 G0 K G' := ⟨by rw [e2]; exact h.1, fun b' hb hne => ⟨(h.2 b' hb hne).1, (he b' (by omega)).trans (h.2 b' hb hne).2⟩⟩
theorem puc_st (ho : puc K G b c2) (hH : et_H et_TT K G') (he : ∀ b, ¬ b = a → eg_at G' b = eg_at G b) (e2 : G'.2 = G.2) (hne : ¬ b = a) : puc K G' b c2 := ⟨hH, ho.2.1, ho.2.2.1, by rw [e2]; exact ho.2.2.2.1, (he b hne).trans ho.2.2.2.2⟩
end HPX

def pi_S (K : et_K) (G : eg_G) (s ra ca : Nat) : Prop := (K s = some 10 ∧ K ra = some 37 ∧ K ca = some 39) ∧ (et_pl (eg_at G s) 1 = some (.ref ra) ∧ et_pl (eg_at G s) 10 = some (.ref ca)) ∧ (et_pl (eg_at G s) 0 = some (.int (Int32.ofNat 0)) ∧ et_pl (eg_at G s) 5 = some (.int (Int32.ofNat 0)) ∧ et_pl (eg_at G s) 9 = some (.int (Int32.ofNat 0)))
section PPF
variable {K : et_K} {G : eg_G} {a : Nat}
theorem pi_eye {d2 : Nat} (hu : puc K G a (.inr (1, [.int 0, .null, .null, .null, .int 0, .int 0, .int 0, .int 0]))) (hd : 0 ≤ d2) : et_go none d2 31 0 (eg_en (eg_mL 31) [.ref a]) [] G 0 0 (pi_Z K G a 3 3 18 (fun _ _ => True)) := by
  have hq : pq a K G K G := pq.rf
  have hua := hu.2.2.2.1
  have hq0 : G.2 ≤ G.2 := Nat.le_refl _
  rw [show eg_mL 31 = 1 from by decide +kernel]
  show et_go none d2 31 0 [some (.ref a)] [] G 0 0 _
  refine hs_aload (i := 0) (p := 1) (by decide +kernel) rfl ?_
  refine hs_skip (lk := 1) (p := 4) (by decide +kernel) rfl rfl ?_
  refine hs_aload (i := 0) (p := 5) (by decide +kernel) rfl ?_
  refine hs_k (x := Int32.ofNat 6) (p := 7) (by decide +kernel) ?_
  have hHo := hu.1
  refine ht_nb (t := 15) (n := 6) (kd := 0) (p := 9) (by decide +kernel) rfl (by decide +kernel) ⟨by decide +kernel, by decide +kernel, by decide +kernel⟩ (by omega) (by omega) hu.1 (fun K7 G7 b7 hk hH k_b7 hg_b7 hz_b7 => ?_)
  have hg_b7 := Nat.le_trans hq.1 hg_b7
  have hu := hk.un hH hu
  have hq := hq.mo hk
  have hu0 := hu
  refine hs_puti (ci := 1) (f := 1) (ty := .array .int) (v := .ref b7) (p := 12) (by decide +kernel) hu (Nat.le_of_ble_eq_true rfl) rfl (fun G9 hu he e2 => ?_)
  have hu : puc _ _ a (.inr (1, [.int 0, .ref b7, .null, .null, .int 0, .int 0, .int 0, .int 0])) := hu
  have hq := hq.pt he e2
  refine hs_aload (i := 0) (p := 13) (by decide +kernel) rfl ?_
  refine hs_k (x := Int32.ofNat 6) (p := 15) (by decide +kernel) ?_
  have hHo := hu.1
  refine ht_nb (t := 15) (n := 6) (kd := 0) (p := 17) (by decide +kernel) rfl (by decide +kernel) ⟨by decide +kernel, by decide +kernel, by decide +kernel⟩ (by omega) (by omega) hu.1 (fun K15 G15 b15 hk hH k_b15 hg_b15 hz_b15 => ?_)
  have hg_b15 := Nat.le_trans hq.1 hg_b15
  have hu := hk.un hH hu
  have hq := hq.mo hk
  have k_b7 := hk.ty hHo k_b7
  have hu0 := hu
  refine hs_puti (ci := 1) (f := 2) (ty := .array .int) (v := .ref b15) (p := 20) (by decide +kernel) hu (Nat.le_of_ble_eq_true rfl) rfl (fun G17 hu he e2 => ?_)
  have hu : puc _ _ a (.inr (1, [.int 0, .ref b7, .ref b15, .null, .int 0, .int 0, .int 0, .int 0])) := hu
  have hq := hq.pt he e2
  refine hs_aload (i := 0) (p := 21) (by decide +kernel) rfl ?_
  refine hs_k (x := Int32.ofNat 6) (p := 23) (by decide +kernel) ?_
  have hHo := hu.1
  refine ht_nb (t := 15) (n := 6) (kd := 0) (p := 25) (by decide +kernel) rfl (by decide +kernel) ⟨by decide +kernel, by decide +kernel, by decide +kernel⟩ (by omega) (by omega) hu.1 (fun K23 G23 b23 hk hH k_b23 hg_b23 hz_b23 => ?_)
  have hg_b23 := Nat.le_trans hq.1 hg_b23
  have hu := hk.un hH hu
  have hq := hq.mo hk
  have k_b7 := hk.ty hHo k_b7
  have k_b15 := hk.ty hHo k_b15
  have hu0 := hu
  refine hs_puti (ci := 1) (f := 3) (ty := .array .int) (v := .ref b23) (p := 28) (by decide +kernel) hu (Nat.le_of_ble_eq_true rfl) rfl (fun G25 hu he e2 => ?_)
  have hu : puc _ _ a (.inr (1, [.int 0, .ref b7, .ref b15, .ref b23, .int 0, .int 0, .int 0, .int 0])) := hu
  have hq := hq.pt he e2
  obtain ⟨hHt, kt⟩ := puc_typ (t := 3) hu (by decide) rfl ⟨_, rfl, rfl, fun k p hk => by
      match k, hk with
      | 0, hk => cases hk; exact ⟨_, rfl, .inr ⟨_, rfl, by decide, by decide⟩⟩
      | 1, hk => cases hk; exact ⟨_, rfl, .inr (.inr ⟨by decide, _, rfl, k_b7⟩)⟩
      | 2, hk => cases hk; exact ⟨_, rfl, .inr (.inr ⟨by decide, _, rfl, k_b15⟩)⟩
      | 3, hk => cases hk; exact ⟨_, rfl, .inr (.inr ⟨by decide, _, rfl, k_b23⟩)⟩
      | 4, hk => cases hk; exact ⟨_, rfl, .inr ⟨_, rfl, by decide, by decide⟩⟩
      | 5, hk => cases hk; exact ⟨_, rfl, .inr ⟨_, rfl, by decide, by decide⟩⟩
      | 6, hk => cases hk; exact ⟨_, rfl, .inr ⟨_, rfl, by decide, by decide⟩⟩
      | 7, hk => cases hk; exact ⟨_, rfl, .inr ⟨_, rfl, by decide, by decide⟩⟩
      | n + 8, hk => cases hk⟩ ⟨fun h => absurd h (by decide), fun h => absurd h (by decide)⟩
  refine hs_vret (by decide +kernel) ?_
  exact ⟨_, hq.ty (.inl rfl), hHt, kt, rfl, rfl, rfl, trivial⟩
theorem pi_facts {d2 : Nat} (hu : puc K G a (.inr (2, [.int 0, .int 0, .int 0, .int 0, .int 0, .int 0, .int 0, .int 0, .int 0, .int 0, .int 0, .int 0]))) (hd : 0 ≤ d2) : et_go none d2 51 0 (eg_en (eg_mL 51) [.ref a]) [] G 0 0 (pi_Z K G a 4 0 0 (fun _ _ => True)) := by
  have hq : pq a K G K G := pq.rf
  have hua := hu.2.2.2.1
  have hq0 : G.2 ≤ G.2 := Nat.le_refl _
  rw [show eg_mL 51 = 1 from by decide +kernel]
  show et_go none d2 51 0 [some (.ref a)] [] G 0 0 _
  refine hs_aload (i := 0) (p := 1) (by decide +kernel) rfl ?_
  refine hs_skip (lk := 1) (p := 4) (by decide +kernel) rfl rfl ?_
  obtain ⟨hHt, kt⟩ := puc_typ (t := 4) hu (by decide) rfl ⟨_, rfl, rfl, fun k p hk => by
      match k, hk with
      | 0, hk => cases hk; exact ⟨_, rfl, .inr ⟨_, rfl, by decide, by decide⟩⟩
      | 1, hk => cases hk; exact ⟨_, rfl, .inr ⟨_, rfl, by decide, by decide⟩⟩
      | 2, hk => cases hk; exact ⟨_, rfl, .inr ⟨_, rfl, by decide, by decide⟩⟩
      | 3, hk => cases hk; exact ⟨_, rfl, .inr ⟨_, rfl, by decide, by decide⟩⟩
      | 4, hk => cases hk; exact ⟨_, rfl, .inr ⟨_, rfl, by decide, by decide⟩⟩
      | 5, hk => cases hk; exact ⟨_, rfl, .inr ⟨_, rfl, by decide, by decide⟩⟩
      | 6, hk => cases hk; exact ⟨_, rfl, .inr ⟨_, rfl, by decide, by decide⟩⟩
      | 7, hk => cases hk; exact ⟨_, rfl, .inr ⟨_, rfl, by decide, by decide⟩⟩
      | 8, hk => cases hk; exact ⟨_, rfl, .inr ⟨_, rfl, by decide, by decide⟩⟩
      | 9, hk => cases hk; exact ⟨_, rfl, .inr ⟨_, rfl, by decide, by decide⟩⟩
      | 10, hk => cases hk; exact ⟨_, rfl, .inr ⟨_, rfl, by decide, by decide⟩⟩
      | 11, hk => cases hk; exact ⟨_, rfl, .inr ⟨_, rfl, by decide, by decide⟩⟩
      | n + 12, hk => cases hk⟩ ⟨fun h => absurd h (by decide), fun h => absurd h (by decide)⟩
  refine hs_vret (by decide +kernel) ?_
  exact ⟨_, hq.ty (.inl rfl), hHt, kt, rfl, rfl, rfl, trivial⟩
theorem pi_likes {d2 : Nat} (hu : puc K G a (.inr (3, [.null, .null, .int 0]))) (hd : 0 ≤ d2) : et_go none d2 57 0 (eg_en (eg_mL 57) [.ref a]) [] G 0 0 (pi_Z K G a 5 2 131072 (fun _ _ => True)) := by
  have hq : pq a K G K G := pq.rf
  have hua := hu.2.2.2.1
  have hq0 : G.2 ≤ G.2 := Nat.le_refl _
  rw [show eg_mL 57 = 1 from by decide +kernel]
  show et_go none d2 57 0 [some (.ref a)] [] G 0 0 _
  refine hs_aload (i := 0) (p := 1) (by decide +kernel) rfl ?_
  refine hs_skip (lk := 1) (p := 4) (by decide +kernel) rfl rfl ?_
  refine hs_aload (i := 0) (p := 5) (by decide +kernel) rfl ?_
  refine hs_kld (v := .int (Int32.ofNat 65536)) (p := 7) (by decide +kernel) ?_
  have hHo := hu.1
  refine ht_nb (t := 23) (n := 65536) (kd := 0) (p := 9) (by decide +kernel) rfl (by decide +kernel) ⟨by decide +kernel, by decide +kernel, by decide +kernel⟩ (by omega) (by omega) hu.1 (fun K7 G7 b7 hk hH k_b7 hg_b7 hz_b7 => ?_)
  have hg_b7 := Nat.le_trans hq.1 hg_b7
  have hu := hk.un hH hu
  have hq := hq.mo hk
  have hu0 := hu
  refine hs_puti (ci := 3) (f := 0) (ty := .array .int) (v := .ref b7) (p := 12) (by decide +kernel) hu (Nat.le_of_ble_eq_true rfl) rfl (fun G9 hu he e2 => ?_)
  have hu : puc _ _ a (.inr (3, [.ref b7, .null, .int 0])) := hu
  have hq := hq.pt he e2
  refine hs_aload (i := 0) (p := 13) (by decide +kernel) rfl ?_
  refine hs_kld (v := .int (Int32.ofNat 65536)) (p := 15) (by decide +kernel) ?_
  have hHo := hu.1
  refine ht_nb (t := 23) (n := 65536) (kd := 0) (p := 17) (by decide +kernel) rfl (by decide +kernel) ⟨by decide +kernel, by decide +kernel, by decide +kernel⟩ (by omega) (by omega) hu.1 (fun K15 G15 b15 hk hH k_b15 hg_b15 hz_b15 => ?_)
  have hg_b15 := Nat.le_trans hq.1 hg_b15
  have hu := hk.un hH hu
  have hq := hq.mo hk
  have k_b7 := hk.ty hHo k_b7
  have hu0 := hu
  refine hs_puti (ci := 3) (f := 1) (ty := .array .int) (v := .ref b15) (p := 20) (by decide +kernel) hu (Nat.le_of_ble_eq_true rfl) rfl (fun G17 hu he e2 => ?_)
  have hu : puc _ _ a (.inr (3, [.ref b7, .ref b15, .int 0])) := hu
  have hq := hq.pt he e2
  obtain ⟨hHt, kt⟩ := puc_typ (t := 5) hu (by decide) rfl ⟨_, rfl, rfl, fun k p hk => by
      match k, hk with
      | 0, hk => cases hk; exact ⟨_, rfl, .inr (.inr ⟨by decide, _, rfl, k_b7⟩)⟩
      | 1, hk => cases hk; exact ⟨_, rfl, .inr (.inr ⟨by decide, _, rfl, k_b15⟩)⟩
      | 2, hk => cases hk; exact ⟨_, rfl, .inr ⟨_, rfl, by decide, by decide⟩⟩
      | n + 3, hk => cases hk⟩ ⟨fun h => absurd h (by decide), fun h => absurd h (by decide)⟩
  refine hs_vret (by decide +kernel) ?_
  exact ⟨_, hq.ty (.inl rfl), hHt, kt, rfl, rfl, rfl, trivial⟩
theorem pi_reader {d2 : Nat} (hu : puc K G a (.inr (5, [.null, .int 0, .int 0, .int 0, .null, .null, .null, .int 0, .int 0]))) (hd : 0 ≤ d2) : et_go none d2 62 0 (eg_en (eg_mL 62) [.ref a]) [] G 0 0 (pi_Z K G a 7 4 1603 (fun _ G' => et_pl (eg_at G' a) 1 = some (.int (Int32.ofNat 0)))) := by
  have hq : pq a K G K G := pq.rf
  have hua := hu.2.2.2.1
  have hq0 : G.2 ≤ G.2 := Nat.le_refl _
  rw [show eg_mL 62 = 1 from by decide +kernel]
  show et_go none d2 62 0 [some (.ref a)] [] G 0 0 _
  refine hs_aload (i := 0) (p := 1) (by decide +kernel) rfl ?_
  refine hs_skip (lk := 1) (p := 4) (by decide +kernel) rfl rfl ?_
  refine hs_aload (i := 0) (p := 5) (by decide +kernel) rfl ?_
  refine hs_k (x := Int32.ofNat 400) (p := 8) (by decide +kernel) ?_
  have hHo := hu.1
  refine ht_nb (t := 33) (n := 400) (kd := 4) (p := 10) (by decide +kernel) rfl (by decide +kernel) ⟨by decide +kernel, by decide +kernel, by decide +kernel⟩ (by omega) (by omega) hu.1 (fun K8 G8 b8 hk hH k_b8 hg_b8 hz_b8 => ?_)
  have hg_b8 := Nat.le_trans hq.1 hg_b8
  have hu := hk.un hH hu
  have hq := hq.mo hk
  have hu0 := hu
  refine hs_puti (ci := 5) (f := 0) (ty := .array .char) (v := .ref b8) (p := 13) (by decide +kernel) hu (Nat.le_of_ble_eq_true rfl) rfl (fun G10 hu he e2 => ?_)
  have hu : puc _ _ a (.inr (5, [.ref b8, .int 0, .int 0, .int 0, .null, .null, .null, .int 0, .int 0])) := hu
  have hq := hq.pt he e2
  refine hs_aload (i := 0) (p := 14) (by decide +kernel) rfl ?_
  refine hs_k (x := (-1)) (p := 15) (by decide +kernel) ?_
  have hu0 := hu
  refine hs_puti (ci := 5) (f := 2) (ty := .int) (v := .int (-1)) (p := 18) (by decide +kernel) hu (Nat.le_of_ble_eq_true rfl) rfl (fun G15 hu he e2 => ?_)
  have hu : puc _ _ a (.inr (5, [.ref b8, .int 0, .int (-1), .int 0, .null, .null, .null, .int 0, .int 0])) := hu
  have hq := hq.pt he e2
  refine hs_aload (i := 0) (p := 19) (by decide +kernel) rfl ?_
  refine hs_k (x := Int32.ofNat 401) (p := 22) (by decide +kernel) ?_
  have hHo := hu.1
  refine ht_nb (t := 41) (n := 401) (kd := 9) (p := 25) (by decide +kernel) rfl (by decide +kernel) ⟨by decide +kernel, by decide +kernel, by decide +kernel⟩ (by omega) (by omega) hu.1 (fun K22 G22 b22 hk hH k_b22 hg_b22 hz_b22 => ?_)
  have hg_b22 := Nat.le_trans hq.1 hg_b22
  have hu := hk.un hH hu
  have hq := hq.mo hk
  have k_b8 := hk.ty hHo k_b8
  have hu0 := hu
  refine hs_puti (ci := 5) (f := 4) (ty := .array (.object "KnobEye$Word")) (v := .ref b22) (p := 28) (by decide +kernel) hu (Nat.le_of_ble_eq_true rfl) rfl (fun G25 hu he e2 => ?_)
  have hu : puc _ _ a (.inr (5, [.ref b8, .int 0, .int (-1), .int 0, .ref b22, .null, .null, .int 0, .int 0])) := hu
  have hq := hq.pt he e2
  refine hs_aload (i := 0) (p := 29) (by decide +kernel) rfl ?_
  refine hs_k (x := Int32.ofNat 401) (p := 32) (by decide +kernel) ?_
  have hHo := hu.1
  refine ht_nb (t := 21) (n := 401) (kd := 0) (p := 34) (by decide +kernel) rfl (by decide +kernel) ⟨by decide +kernel, by decide +kernel, by decide +kernel⟩ (by omega) (by omega) hu.1 (fun K32 G32 b32 hk hH k_b32 hg_b32 hz_b32 => ?_)
  have hg_b32 := Nat.le_trans hq.1 hg_b32
  have hu := hk.un hH hu
  have hq := hq.mo hk
  have k_b8 := hk.ty hHo k_b8
  have k_b22 := hk.ty hHo k_b22
  have hu0 := hu
  refine hs_puti (ci := 5) (f := 5) (ty := .array .int) (v := .ref b32) (p := 37) (by decide +kernel) hu (Nat.le_of_ble_eq_true rfl) rfl (fun G34 hu he e2 => ?_)
  have hu : puc _ _ a (.inr (5, [.ref b8, .int 0, .int (-1), .int 0, .ref b22, .ref b32, .null, .int 0, .int 0])) := hu
  have hq := hq.pt he e2
  refine hs_aload (i := 0) (p := 38) (by decide +kernel) rfl ?_
  refine hs_k (x := Int32.ofNat 401) (p := 41) (by decide +kernel) ?_
  have hHo := hu.1
  refine ht_nb (t := 21) (n := 401) (kd := 0) (p := 43) (by decide +kernel) rfl (by decide +kernel) ⟨by decide +kernel, by decide +kernel, by decide +kernel⟩ (by omega) (by omega) hu.1 (fun K41 G41 b41 hk hH k_b41 hg_b41 hz_b41 => ?_)
  have hg_b41 := Nat.le_trans hq.1 hg_b41
  have hu := hk.un hH hu
  have hq := hq.mo hk
  have k_b8 := hk.ty hHo k_b8
  have k_b22 := hk.ty hHo k_b22
  have k_b32 := hk.ty hHo k_b32
  have hu0 := hu
  refine hs_puti (ci := 5) (f := 6) (ty := .array .int) (v := .ref b41) (p := 46) (by decide +kernel) hu (Nat.le_of_ble_eq_true rfl) rfl (fun G43 hu he e2 => ?_)
  have hu : puc _ _ a (.inr (5, [.ref b8, .int 0, .int (-1), .int 0, .ref b22, .ref b32, .ref b41, .int 0, .int 0])) := hu
  have hq := hq.pt he e2
  obtain ⟨hHt, kt⟩ := puc_typ (t := 7) hu (by decide) rfl ⟨_, rfl, rfl, fun k p hk => by
      match k, hk with
      | 0, hk => cases hk; exact ⟨_, rfl, .inr (.inr ⟨by decide, _, rfl, k_b8⟩)⟩
      | 1, hk => cases hk; exact ⟨_, rfl, .inr ⟨_, rfl, by decide, by decide⟩⟩
      | 2, hk => cases hk; exact ⟨_, rfl, .inr ⟨_, rfl, by decide, by decide⟩⟩
      | 3, hk => cases hk; exact ⟨_, rfl, .inr ⟨_, rfl, by decide, by decide⟩⟩
      | 4, hk => cases hk; exact ⟨_, rfl, .inr (.inr ⟨by decide, _, rfl, k_b22⟩)⟩
      | 5, hk => cases hk; exact ⟨_, rfl, .inr (.inr ⟨by decide, _, rfl, k_b32⟩)⟩
      | 6, hk => cases hk; exact ⟨_, rfl, .inr (.inr ⟨by decide, _, rfl, k_b41⟩)⟩
      | 7, hk => cases hk; exact ⟨_, rfl, .inr ⟨_, rfl, by decide, by decide⟩⟩
      | 8, hk => cases hk; exact ⟨_, rfl, .inr ⟨_, rfl, by decide, by decide⟩⟩
      | n + 9, hk => cases hk⟩ ⟨fun h => absurd h (by decide), fun h => absurd h (by decide)⟩
  refine hs_vret (by decide +kernel) ?_
  exact ⟨_, hq.ty (.inl rfl), hHt, kt, rfl, rfl, rfl, (by show et_pl (eg_at _ a) 1 = _; rw [hu.2.2.2.2]; rfl)⟩
theorem pi_search {d2 : Nat} (hu : puc K G a (.inr (7, [.null, .null, .null, .null, .int 0, .int 0, .int 0, .int 0, .int 0, .int 0, .int 0, .int 0, .int 0, .int 0, .null, .int 0, .int 0, .null]))) (hd : 0 ≤ d2) : et_go none d2 89 0 (eg_en (eg_mL 89) [.ref a]) [] G 0 0 (pi_Z K G a 9 26 3083 (fun _ _ => True)) := by
  have hq : pq a K G K G := pq.rf
  have hua := hu.2.2.2.1
  have hq0 : G.2 ≤ G.2 := Nat.le_refl _
  rw [show eg_mL 89 = 1 from by decide +kernel]
  show et_go none d2 89 0 [some (.ref a)] [] G 0 0 _
  refine hs_aload (i := 0) (p := 1) (by decide +kernel) rfl ?_
  refine hs_skip (lk := 1) (p := 4) (by decide +kernel) rfl rfl ?_
  refine hs_aload (i := 0) (p := 5) (by decide +kernel) rfl ?_
  refine hs_k (x := Int32.ofNat 6) (p := 7) (by decide +kernel) ?_
  refine hs_k (x := Int32.ofNat 151) (p := 10) (by decide +kernel) ?_
  have hHo := hu.1
  refine ht_ma (t := 43) (n := 6) (p := 14) (by decide +kernel) rfl (by decide) (by omega) (by omega) hu.1 (fun K10 G10 b10 hk hH k_b10 => ?_)
  have hu := hk.un hH hu
  have hq := hq.mo hk
  have hu0 := hu
  refine hs_puti (ci := 7) (f := 0) (ty := .array (.array .int)) (v := .ref b10) (p := 17) (by decide +kernel) hu (Nat.le_of_ble_eq_true rfl) rfl (fun G14 hu he e2 => ?_)
  have hu : puc _ _ a (.inr (7, [.ref b10, .null, .null, .null, .int 0, .int 0, .int 0, .int 0, .int 0, .int 0, .int 0, .int 0, .int 0, .int 0, .null, .int 0, .int 0, .null])) := hu
  have hq := hq.pt he e2
  refine hs_aload (i := 0) (p := 18) (by decide +kernel) rfl ?_
  refine hs_k (x := Int32.ofNat 7) (p := 20) (by decide +kernel) ?_
  refine hs_k (x := Int32.ofNat 151) (p := 23) (by decide +kernel) ?_
  have hHo := hu.1
  refine ht_ma (t := 44) (n := 7) (p := 27) (by decide +kernel) rfl (by decide) (by omega) (by omega) hu.1 (fun K23 G23 b23 hk hH k_b23 => ?_)
  have hu := hk.un hH hu
  have hq := hq.mo hk
  have k_b10 := hk.ty hHo k_b10
  have hu0 := hu
  refine hs_puti (ci := 7) (f := 1) (ty := .array (.array .int)) (v := .ref b23) (p := 30) (by decide +kernel) hu (Nat.le_of_ble_eq_true rfl) rfl (fun G27 hu he e2 => ?_)
  have hu : puc _ _ a (.inr (7, [.ref b10, .ref b23, .null, .null, .int 0, .int 0, .int 0, .int 0, .int 0, .int 0, .int 0, .int 0, .int 0, .int 0, .null, .int 0, .int 0, .null])) := hu
  have hq := hq.pt he e2
  refine hs_aload (i := 0) (p := 31) (by decide +kernel) rfl ?_
  refine hs_k (x := Int32.ofNat 7) (p := 33) (by decide +kernel) ?_
  refine hs_k (x := Int32.ofNat 151) (p := 36) (by decide +kernel) ?_
  have hHo := hu.1
  refine ht_ma (t := 44) (n := 7) (p := 40) (by decide +kernel) rfl (by decide) (by omega) (by omega) hu.1 (fun K36 G36 b36 hk hH k_b36 => ?_)
  have hu := hk.un hH hu
  have hq := hq.mo hk
  have k_b10 := hk.ty hHo k_b10
  have k_b23 := hk.ty hHo k_b23
  have hu0 := hu
  refine hs_puti (ci := 7) (f := 2) (ty := .array (.array .int)) (v := .ref b36) (p := 43) (by decide +kernel) hu (Nat.le_of_ble_eq_true rfl) rfl (fun G40 hu he e2 => ?_)
  have hu : puc _ _ a (.inr (7, [.ref b10, .ref b23, .ref b36, .null, .int 0, .int 0, .int 0, .int 0, .int 0, .int 0, .int 0, .int 0, .int 0, .int 0, .null, .int 0, .int 0, .null])) := hu
  have hq := hq.pt he e2
  refine hs_aload (i := 0) (p := 44) (by decide +kernel) rfl ?_
  refine hs_k (x := Int32.ofNat 6) (p := 46) (by decide +kernel) ?_
  have hHo := hu.1
  refine ht_nb (t := 51) (n := 6) (kd := 0) (p := 48) (by decide +kernel) rfl (by decide +kernel) ⟨by decide +kernel, by decide +kernel, by decide +kernel⟩ (by omega) (by omega) hu.1 (fun K46 G46 b46 hk hH k_b46 hg_b46 hz_b46 => ?_)
  have hg_b46 := Nat.le_trans hq.1 hg_b46
  have hu := hk.un hH hu
  have hq := hq.mo hk
  have k_b10 := hk.ty hHo k_b10
  have k_b23 := hk.ty hHo k_b23
  have k_b36 := hk.ty hHo k_b36
  have hu0 := hu
  refine hs_puti (ci := 7) (f := 3) (ty := .array .int) (v := .ref b46) (p := 51) (by decide +kernel) hu (Nat.le_of_ble_eq_true rfl) rfl (fun G48 hu he e2 => ?_)
  have hu : puc _ _ a (.inr (7, [.ref b10, .ref b23, .ref b36, .ref b46, .int 0, .int 0, .int 0, .int 0, .int 0, .int 0, .int 0, .int 0, .int 0, .int 0, .null, .int 0, .int 0, .null])) := hu
  have hq := hq.pt he e2
  refine hs_aload (i := 0) (p := 52) (by decide +kernel) rfl ?_
  refine hs_k (x := Int32.ofNat 6) (p := 54) (by decide +kernel) ?_
  have hHo := hu.1
  refine ht_nb (t := 51) (n := 6) (kd := 0) (p := 56) (by decide +kernel) rfl (by decide +kernel) ⟨by decide +kernel, by decide +kernel, by decide +kernel⟩ (by omega) (by omega) hu.1 (fun K54 G54 b54 hk hH k_b54 hg_b54 hz_b54 => ?_)
  have hg_b54 := Nat.le_trans hq.1 hg_b54
  have hu := hk.un hH hu
  have hq := hq.mo hk
  have k_b10 := hk.ty hHo k_b10
  have k_b23 := hk.ty hHo k_b23
  have k_b36 := hk.ty hHo k_b36
  have k_b46 := hk.ty hHo k_b46
  have hu0 := hu
  refine hs_puti (ci := 7) (f := 14) (ty := .array .int) (v := .ref b54) (p := 59) (by decide +kernel) hu (Nat.le_of_ble_eq_true rfl) rfl (fun G56 hu he e2 => ?_)
  have hu : puc _ _ a (.inr (7, [.ref b10, .ref b23, .ref b36, .ref b46, .int 0, .int 0, .int 0, .int 0, .int 0, .int 0, .int 0, .int 0, .int 0, .int 0, .ref b54, .int 0, .int 0, .null])) := hu
  have hq := hq.pt he e2
  refine hs_aload (i := 0) (p := 60) (by decide +kernel) rfl ?_
  refine hs_k (x := Int32.ofNat 31) (p := 62) (by decide +kernel) ?_
  have hHo := hu.1
  refine ht_nb (t := 19) (n := 31) (kd := 0) (p := 64) (by decide +kernel) rfl (by decide +kernel) ⟨by decide +kernel, by decide +kernel, by decide +kernel⟩ (by omega) (by omega) hu.1 (fun K62 G62 b62 hk hH k_b62 hg_b62 hz_b62 => ?_)
  have hg_b62 := Nat.le_trans hq.1 hg_b62
  have hu := hk.un hH hu
  have hq := hq.mo hk
  have k_b10 := hk.ty hHo k_b10
  have k_b23 := hk.ty hHo k_b23
  have k_b36 := hk.ty hHo k_b36
  have k_b46 := hk.ty hHo k_b46
  have k_b54 := hk.ty hHo k_b54
  have hu0 := hu
  refine hs_puti (ci := 7) (f := 17) (ty := .array .int) (v := .ref b62) (p := 67) (by decide +kernel) hu (Nat.le_of_ble_eq_true rfl) rfl (fun G64 hu he e2 => ?_)
  have hu : puc _ _ a (.inr (7, [.ref b10, .ref b23, .ref b36, .ref b46, .int 0, .int 0, .int 0, .int 0, .int 0, .int 0, .int 0, .int 0, .int 0, .int 0, .ref b54, .int 0, .int 0, .ref b62])) := hu
  have hq := hq.pt he e2
  obtain ⟨hHt, kt⟩ := puc_typ (t := 9) hu (by decide) rfl ⟨_, rfl, rfl, fun k p hk => by
      match k, hk with
      | 0, hk => cases hk; exact ⟨_, rfl, .inr (.inr ⟨by decide, _, rfl, k_b10⟩)⟩
      | 1, hk => cases hk; exact ⟨_, rfl, .inr (.inr ⟨by decide, _, rfl, k_b23⟩)⟩
      | 2, hk => cases hk; exact ⟨_, rfl, .inr (.inr ⟨by decide, _, rfl, k_b36⟩)⟩
      | 3, hk => cases hk; exact ⟨_, rfl, .inr (.inr ⟨by decide, _, rfl, k_b46⟩)⟩
      | 4, hk => cases hk; exact ⟨_, rfl, .inr ⟨_, rfl, by decide, by decide⟩⟩
      | 5, hk => cases hk; exact ⟨_, rfl, .inr ⟨_, rfl, by decide, by decide⟩⟩
      | 6, hk => cases hk; exact ⟨_, rfl, .inr ⟨_, rfl, by decide, by decide⟩⟩
      | 7, hk => cases hk; exact ⟨_, rfl, .inr ⟨_, rfl, by decide, by decide⟩⟩
      | 8, hk => cases hk; exact ⟨_, rfl, .inr ⟨_, rfl, by decide, by decide⟩⟩
      | 9, hk => cases hk; exact ⟨_, rfl, .inr ⟨_, rfl, by decide, by decide⟩⟩
      | 10, hk => cases hk; exact ⟨_, rfl, .inr ⟨_, rfl, by decide, by decide⟩⟩
      | 11, hk => cases hk; exact ⟨_, rfl, .inr ⟨_, rfl, by decide, by decide⟩⟩
      | 12, hk => cases hk; exact ⟨_, rfl, .inr ⟨_, rfl, by decide, by decide⟩⟩
      | 13, hk => cases hk; exact ⟨_, rfl, .inr ⟨_, rfl, by decide, by decide⟩⟩
      | 14, hk => cases hk; exact ⟨_, rfl, .inr (.inr ⟨by decide, _, rfl, k_b54⟩)⟩
      | 15, hk => cases hk; exact ⟨_, rfl, .inr ⟨_, rfl, by decide, by decide⟩⟩
      | 16, hk => cases hk; exact ⟨_, rfl, .inr ⟨_, rfl, by decide, by decide⟩⟩
      | 17, hk => cases hk; exact ⟨_, rfl, .inr (.inr ⟨by decide, _, rfl, k_b62⟩)⟩
      | n + 18, hk => cases hk⟩ ⟨fun h => absurd h (by decide), fun h => absurd h (by decide)⟩
  refine hs_vret (by decide +kernel) ?_
  exact ⟨_, hq.ty (.inl rfl), hHt, kt, rfl, rfl, rfl, trivial⟩
theorem pi_state {d2 : Nat} (hu : puc K G a (.inr (8, [.int 0, .null, .int 0, .null, .null, .int 0, .null, .int 0, .null, .int 0, .null]))) (hd : 1 ≤ d2) : et_go none d2 101 0 (eg_en (eg_mL 101) [.ref a]) [] G 0 0 (pi_Z K G a 10 18 135 (fun K' G' => ∃ ra ca, et_pl (eg_at G' a) 1 = some (.ref ra) ∧ et_pl (eg_at G' a) 10 = some (.ref ca) ∧ G.2 ≤ ra ∧ G.2 ≤ ca ∧ K' ra = some 37 ∧ K' ca = some 39 ∧ et_pl (eg_at G' a) 0 = some (.int (Int32.ofNat 0)) ∧ et_pl (eg_at G' a) 5 = some (.int (Int32.ofNat 0)) ∧ et_pl (eg_at G' a) 9 = some (.int (Int32.ofNat 0)))) := by
  obtain ⟨d, rfl⟩ : ∃ d, d2 = d + 1 := ⟨d2 - 1, by omega⟩
  have hq : pq a K G K G := pq.rf
  have hua := hu.2.2.2.1
  have hq0 : G.2 ≤ G.2 := Nat.le_refl _
  rw [show eg_mL 101 = 2 from by decide +kernel]
  show et_go none (d + 1) 101 0 [some (.ref a), none] [] G 0 0 _
  refine hs_aload (i := 0) (p := 1) (by decide +kernel) rfl ?_
  refine hs_skip (lk := 2) (p := 4) (by decide +kernel) rfl rfl ?_
  refine hs_aload (i := 0) (p := 5) (by decide +kernel) rfl ?_
  refine hs_k (x := Int32.ofNat 4) (p := 6) (by decide +kernel) ?_
  have hHo := hu.1
  refine ht_nb (t := 37) (n := 4) (kd := 5) (p := 9) (by decide +kernel) rfl (by decide +kernel) ⟨by decide +kernel, by decide +kernel, by decide +kernel⟩ (by omega) (by omega) hu.1 (fun K6 G6 b6 hk hH k_b6 hg_b6 hz_b6 => ?_)
  have hg_b6 := Nat.le_trans hq.1 hg_b6
  have hu := hk.un hH hu
  have hq := hq.mo hk
  have hu0 := hu
  refine hs_puti (ci := 8) (f := 1) (ty := .array (.object "KnobEye$Rule")) (v := .ref b6) (p := 12) (by decide +kernel) hu (Nat.le_of_ble_eq_true rfl) rfl (fun G9 hu he e2 => ?_)
  have hu : puc _ _ a (.inr (8, [.int 0, .ref b6, .int 0, .null, .null, .int 0, .null, .int 0, .null, .int 0, .null])) := hu
  have hq := hq.pt he e2
  refine hs_aload (i := 0) (p := 13) (by decide +kernel) rfl ?_
  refine hs_k (x := Int32.ofNat 20) (p := 15) (by decide +kernel) ?_
  have hHo := hu.1
  refine ht_nb (t := 17) (n := 20) (kd := 0) (p := 17) (by decide +kernel) rfl (by decide +kernel) ⟨by decide +kernel, by decide +kernel, by decide +kernel⟩ (by omega) (by omega) hu.1 (fun K15 G15 b15 hk hH k_b15 hg_b15 hz_b15 => ?_)
  have hg_b15 := Nat.le_trans hq.1 hg_b15
  have hu := hk.un hH hu
  have hq := hq.mo hk
  have k_b6 := hk.ty hHo k_b6
  have hu0 := hu
  refine hs_puti (ci := 8) (f := 3) (ty := .array .int) (v := .ref b15) (p := 20) (by decide +kernel) hu (Nat.le_of_ble_eq_true rfl) rfl (fun G17 hu he e2 => ?_)
  have hu : puc _ _ a (.inr (8, [.int 0, .ref b6, .int 0, .ref b15, .null, .int 0, .null, .int 0, .null, .int 0, .null])) := hu
  have hq := hq.pt he e2
  refine hs_aload (i := 0) (p := 21) (by decide +kernel) rfl ?_
  refine hs_k (x := Int32.ofNat 20) (p := 23) (by decide +kernel) ?_
  have hHo := hu.1
  refine ht_nb (t := 27) (n := 20) (kd := 3) (p := 25) (by decide +kernel) rfl (by decide +kernel) ⟨by decide +kernel, by decide +kernel, by decide +kernel⟩ (by omega) (by omega) hu.1 (fun K23 G23 b23 hk hH k_b23 hg_b23 hz_b23 => ?_)
  have hg_b23 := Nat.le_trans hq.1 hg_b23
  have hu := hk.un hH hu
  have hq := hq.mo hk
  have k_b6 := hk.ty hHo k_b6
  have k_b15 := hk.ty hHo k_b15
  have hu0 := hu
  refine hs_puti (ci := 8) (f := 4) (ty := .array .boolean) (v := .ref b23) (p := 28) (by decide +kernel) hu (Nat.le_of_ble_eq_true rfl) rfl (fun G25 hu he e2 => ?_)
  have hu : puc _ _ a (.inr (8, [.int 0, .ref b6, .int 0, .ref b15, .ref b23, .int 0, .null, .int 0, .null, .int 0, .null])) := hu
  have hq := hq.pt he e2
  refine hs_aload (i := 0) (p := 29) (by decide +kernel) rfl ?_
  refine hs_k (x := Int32.ofNat 3) (p := 30) (by decide +kernel) ?_
  have hHo := hu.1
  refine ht_nr (n := 3) (kd := 6) (p := 33) (by decide +kernel) (by decide) ⟨by decide +kernel, by decide +kernel, by decide +kernel⟩ (by omega) (by omega) hu.1 (fun G30 b30 hk hg hv => ?_)
  have hne : ¬ b30 = a := fun e => by have h9 := hu.2.2.2.1; omega
  have hg := Nat.le_trans hq.1 hg
  have hu := hk.un hv.1 hu
  have hq := hq.mo hk
  have k_b6 := hk.ty hHo k_b6
  have k_b15 := hk.ty hHo k_b15
  have k_b23 := hk.ty hHo k_b23
  have hu0 := hu
  refine hs_puti (ci := 8) (f := 6) (ty := .array (.object "KnobEye$Eye")) (v := .ref b30) (p := 36) (by decide +kernel) hu (Nat.le_of_ble_eq_true rfl) rfl (fun G33 hu he e2 => ?_)
  have hu : puc _ _ a (.inr (8, [.int 0, .ref b6, .int 0, .ref b15, .ref b23, .int 0, .ref b30, .int 0, .null, .int 0, .null])) := hu
  have hq := hq.pt he e2
  have hv := puc_st hv hu.1 he e2 hne
  refine hs_aload (i := 0) (p := 37) (by decide +kernel) rfl ?_
  refine hs_k (x := Int32.ofNat 4) (p := 38) (by decide +kernel) ?_
  have hHo := hu.1
  refine ht_nb (t := 38) (n := 4) (kd := 7) (p := 41) (by decide +kernel) rfl (by decide +kernel) ⟨by decide +kernel, by decide +kernel, by decide +kernel⟩ (by omega) (by omega) hu.1 (fun K38 G38 b38 hk hH k_b38 hg_b38 hz_b38 => ?_)
  have hg_b38 := Nat.le_trans hq.1 hg_b38
  have hv := hk.un hH hv
  have hu := hk.un hH hu
  have hq := hq.mo hk
  have k_b6 := hk.ty hHo k_b6
  have k_b15 := hk.ty hHo k_b15
  have k_b23 := hk.ty hHo k_b23
  have hu0 := hu
  refine hs_puti (ci := 8) (f := 8) (ty := .array (.object "KnobEye$Turner")) (v := .ref b38) (p := 44) (by decide +kernel) hu (Nat.le_of_ble_eq_true rfl) rfl (fun G41 hu he e2 => ?_)
  have hu : puc _ _ a (.inr (8, [.int 0, .ref b6, .int 0, .ref b15, .ref b23, .int 0, .ref b30, .int 0, .ref b38, .int 0, .null])) := hu
  have hq := hq.pt he e2
  have hv := puc_st hv hu.1 he e2 hne
  refine hs_aload (i := 0) (p := 45) (by decide +kernel) rfl ?_
  refine hs_k (x := Int32.ofNat 6) (p := 47) (by decide +kernel) ?_
  have hHo := hu.1
  refine ht_nb (t := 39) (n := 6) (kd := 8) (p := 50) (by decide +kernel) rfl (by decide +kernel) ⟨by decide +kernel, by decide +kernel, by decide +kernel⟩ (by omega) (by omega) hu.1 (fun K47 G47 b47 hk hH k_b47 hg_b47 hz_b47 => ?_)
  have hg_b47 := Nat.le_trans hq.1 hg_b47
  have hv := hk.un hH hv
  have hu := hk.un hH hu
  have hq := hq.mo hk
  have k_b6 := hk.ty hHo k_b6
  have k_b15 := hk.ty hHo k_b15
  have k_b23 := hk.ty hHo k_b23
  have k_b38 := hk.ty hHo k_b38
  have hu0 := hu
  refine hs_puti (ci := 8) (f := 10) (ty := .array (.object "KnobEye$Claim")) (v := .ref b47) (p := 53) (by decide +kernel) hu (Nat.le_of_ble_eq_true rfl) rfl (fun G50 hu he e2 => ?_)
  have hu : puc _ _ a (.inr (8, [.int 0, .ref b6, .int 0, .ref b15, .ref b23, .int 0, .ref b30, .int 0, .ref b38, .int 0, .ref b47])) := hu
  have hq := hq.pt he e2
  have hv := puc_st hv hu.1 he e2 hne
  refine hs_k (x := Int32.ofNat 0) (p := 54) (by decide +kernel) ?_
  refine hs_istore (i := 1) (p := 55) (by decide +kernel) (Nat.le_of_ble_eq_true rfl) ?_
  refine hs_iload (i := 1) (p := 56) (by decide +kernel) rfl ?_
  refine hs_k (x := Int32.ofNat 3) (p := 57) (by decide +kernel) ?_
  refine hs_br2n (c := .ge) (t := 79) (f := 60) (by decide +kernel) (by omega) (by omega) (fun h => absurd h (show ¬ (3 ≤ 0) by decide)) (fun _ => ?_)
  refine hs_aload (i := 0) (p := 61) (by decide +kernel) rfl ?_
  refine hs_get (ci := 8) (f := 6) (p := 64) (v := .ref b30) (by decide +kernel) hu.2.2.2.2 hu.2.2.2.1 rfl ?_
  refine hs_iload (i := 1) (p := 65) (by decide +kernel) rfl ?_
  have hHo := hu.1
  refine ht_newV (ci := 1) (n := 8) (fs := [.int 0, .null, .null, .null, .int 0, .int 0, .int 0, .int 0]) (p := 68) (by decide +kernel) (by omega) (by omega) (by decide +kernel) (by decide +kernel) hu.1 (fun G65 o0 ho hge hlt he => ?_)
  refine hs_dup1 (p := 69) (by decide +kernel) ?_
  refine hs_callp (mi := 31) (na := 0) (lk := 2) (lm := 1) (L0 := eg_en (eg_mL 31) [.ref o0]) (by decide +kernel) rfl rfl rfl rfl rfl (by rw [show eg_mL 31 = 1 from by decide +kernel]; first | done | rfl) ?_
  refine (pi_eye ho (by omega)).mono (fun u hZ => pi_cb hZ (fun K69 G69 hq2 hH k_o0 hP => ?_))
  have hk := pk_of hq2 hge hlt he
  have hv := hk.un hH hv
  have hu := hk.un hH hu
  have hq := hq.mo hk
  have k_b6 := hk.ty hHo k_b6
  have k_b15 := hk.ty hHo k_b15
  have k_b23 := hk.ty hHo k_b23
  have k_b38 := hk.ty hHo k_b38
  have k_b47 := hk.ty hHo k_b47
  show et_go none _ 101 72 _ [.ref o0, .int (Int32.ofNat 0), .ref b30] _ 10 83 _
  refine ht_wri (n := 3) (kd := 6) (u := 3) (cj := 1) (p := 73) (by decide +kernel) (by decide +kernel) rfl hv (by decide) k_o0 (fun G72 hv he e2 => ?_)
  have hu := puc_st hu hv.1 he e2 (fun e => hne e.symm)
  have hq := hq.sw hg he e2
  refine hs_iinc1 (i := 1) (p := 76) (by decide +kernel) rfl (Nat.le_of_ble_eq_true rfl) ?_
  show et_go none _ 101 76 [some (.ref a), some (.int (Int32.ofNat 1))] [] _ _ _ _
  refine hs_goto (p := 55) (by decide +kernel) ?_
  refine hs_iload (i := 1) (p := 56) (by decide +kernel) rfl ?_
  refine hs_k (x := Int32.ofNat 3) (p := 57) (by decide +kernel) ?_
  refine hs_br2n (c := .ge) (t := 79) (f := 60) (by decide +kernel) (by omega) (by omega) (fun h => absurd h (show ¬ (3 ≤ 1) by decide)) (fun _ => ?_)
  refine hs_aload (i := 0) (p := 61) (by decide +kernel) rfl ?_
  refine hs_get (ci := 8) (f := 6) (p := 64) (v := .ref b30) (by decide +kernel) hu.2.2.2.2 hu.2.2.2.1 rfl ?_
  refine hs_iload (i := 1) (p := 65) (by decide +kernel) rfl ?_
  have hHo := hu.1
  refine ht_newV (ci := 1) (n := 8) (fs := [.int 0, .null, .null, .null, .int 0, .int 0, .int 0, .int 0]) (p := 68) (by decide +kernel) (by omega) (by omega) (by decide +kernel) (by decide +kernel) hu.1 (fun G65 o1 ho hge hlt he => ?_)
  refine hs_dup1 (p := 69) (by decide +kernel) ?_
  refine hs_callp (mi := 31) (na := 0) (lk := 2) (lm := 1) (L0 := eg_en (eg_mL 31) [.ref o1]) (by decide +kernel) rfl rfl rfl rfl rfl (by rw [show eg_mL 31 = 1 from by decide +kernel]; first | done | rfl) ?_
  refine (pi_eye ho (by omega)).mono (fun u hZ => pi_cb hZ (fun K69 G69 hq2 hH k_o1 hP => ?_))
  have hk := pk_of hq2 hge hlt he
  have hv := hk.un hH hv
  have hu := hk.un hH hu
  have hq := hq.mo hk
  have k_b6 := hk.ty hHo k_b6
  have k_b15 := hk.ty hHo k_b15
  have k_b23 := hk.ty hHo k_b23
  have k_b38 := hk.ty hHo k_b38
  have k_b47 := hk.ty hHo k_b47
  have k_o0 := hk.ty hHo k_o0
  show et_go none _ 101 72 _ [.ref o1, .int (Int32.ofNat 1), .ref b30] _ 14 109 _
  refine ht_wri (n := 3) (kd := 6) (u := 3) (cj := 1) (p := 73) (by decide +kernel) (by decide +kernel) rfl hv (by decide) k_o1 (fun G72 hv he e2 => ?_)
  have hu := puc_st hu hv.1 he e2 (fun e => hne e.symm)
  have hq := hq.sw hg he e2
  refine hs_iinc1 (i := 1) (p := 76) (by decide +kernel) rfl (Nat.le_of_ble_eq_true rfl) ?_
  show et_go none _ 101 76 [some (.ref a), some (.int (Int32.ofNat 2))] [] _ _ _ _
  refine hs_goto (p := 55) (by decide +kernel) ?_
  refine hs_iload (i := 1) (p := 56) (by decide +kernel) rfl ?_
  refine hs_k (x := Int32.ofNat 3) (p := 57) (by decide +kernel) ?_
  refine hs_br2n (c := .ge) (t := 79) (f := 60) (by decide +kernel) (by omega) (by omega) (fun h => absurd h (show ¬ (3 ≤ 2) by decide)) (fun _ => ?_)
  refine hs_aload (i := 0) (p := 61) (by decide +kernel) rfl ?_
  refine hs_get (ci := 8) (f := 6) (p := 64) (v := .ref b30) (by decide +kernel) hu.2.2.2.2 hu.2.2.2.1 rfl ?_
  refine hs_iload (i := 1) (p := 65) (by decide +kernel) rfl ?_
  have hHo := hu.1
  refine ht_newV (ci := 1) (n := 8) (fs := [.int 0, .null, .null, .null, .int 0, .int 0, .int 0, .int 0]) (p := 68) (by decide +kernel) (by omega) (by omega) (by decide +kernel) (by decide +kernel) hu.1 (fun G65 o2 ho hge hlt he => ?_)
  refine hs_dup1 (p := 69) (by decide +kernel) ?_
  refine hs_callp (mi := 31) (na := 0) (lk := 2) (lm := 1) (L0 := eg_en (eg_mL 31) [.ref o2]) (by decide +kernel) rfl rfl rfl rfl rfl (by rw [show eg_mL 31 = 1 from by decide +kernel]; first | done | rfl) ?_
  refine (pi_eye ho (by omega)).mono (fun u hZ => pi_cb hZ (fun K69 G69 hq2 hH k_o2 hP => ?_))
  have hk := pk_of hq2 hge hlt he
  have hv := hk.un hH hv
  have hu := hk.un hH hu
  have hq := hq.mo hk
  have k_b6 := hk.ty hHo k_b6
  have k_b15 := hk.ty hHo k_b15
  have k_b23 := hk.ty hHo k_b23
  have k_b38 := hk.ty hHo k_b38
  have k_b47 := hk.ty hHo k_b47
  have k_o0 := hk.ty hHo k_o0
  have k_o1 := hk.ty hHo k_o1
  show et_go none _ 101 72 _ [.ref o2, .int (Int32.ofNat 2), .ref b30] _ 18 135 _
  refine ht_wri (n := 3) (kd := 6) (u := 3) (cj := 1) (p := 73) (by decide +kernel) (by decide +kernel) rfl hv (by decide) k_o2 (fun G72 hv he e2 => ?_)
  have hu := puc_st hu hv.1 he e2 (fun e => hne e.symm)
  have hq := hq.sw hg he e2
  refine hs_iinc1 (i := 1) (p := 76) (by decide +kernel) rfl (Nat.le_of_ble_eq_true rfl) ?_
  show et_go none _ 101 76 [some (.ref a), some (.int (Int32.ofNat 3))] [] _ _ _ _
  refine hs_goto (p := 55) (by decide +kernel) ?_
  refine hs_iload (i := 1) (p := 56) (by decide +kernel) rfl ?_
  refine hs_k (x := Int32.ofNat 3) (p := 57) (by decide +kernel) ?_
  refine hs_br2n (c := .ge) (t := 79) (f := 60) (by decide +kernel) (by omega) (by omega) (fun _ => ?_) (fun h => absurd (show 3 ≤ 3 by decide) h)
  have hv0 := hv
  obtain ⟨hHv, k_b30⟩ := puc_typ (t := 40) hv (by decide) rfl ⟨_, rfl, rfl, fun i hi => ⟨_, rfl⟩, fun q hq i i1 i2 i3 => by
      obtain rfl := List.mem_singleton.mp hq
      match i, i3 with
      | 0, _ => exact ⟨.ref o0, rfl, .inr ⟨by decide, _, rfl, k_o0⟩⟩
      | 1, _ => exact ⟨.ref o1, rfl, .inr ⟨by decide, _, rfl, k_o1⟩⟩
      | 2, _ => exact ⟨.ref o2, rfl, .inr ⟨by decide, _, rfl, k_o2⟩⟩
      | n + 3, h => exact absurd h (by omega)⟩ (fun h => absurd h (by decide))
  have hu := puc_n hu (fun e => hne e.symm) hHv
  have hq := hq.ty (b := b30) (t := 40) (.inr hg)
  have k_b6 := et_kn_k (t := 40) hv0 k_b6
  have k_b15 := et_kn_k (t := 40) hv0 k_b15
  have k_b23 := et_kn_k (t := 40) hv0 k_b23
  have k_b38 := et_kn_k (t := 40) hv0 k_b38
  have k_b47 := et_kn_k (t := 40) hv0 k_b47
  have k_o0 := et_kn_k (t := 40) hv0 k_o0
  have k_o1 := et_kn_k (t := 40) hv0 k_o1
  have k_o2 := et_kn_k (t := 40) hv0 k_o2
  obtain ⟨hHt, kt⟩ := puc_typ (t := 10) hu (by decide) rfl ⟨_, rfl, rfl, fun k p hk => by
      match k, hk with
      | 0, hk => cases hk; exact ⟨_, rfl, .inr ⟨_, rfl, by decide, by decide⟩⟩
      | 1, hk => cases hk; exact ⟨_, rfl, .inr (.inr ⟨by decide, _, rfl, k_b6⟩)⟩
      | 2, hk => cases hk; exact ⟨_, rfl, .inr ⟨_, rfl, by decide, by decide⟩⟩
      | 3, hk => cases hk; exact ⟨_, rfl, .inr (.inr ⟨by decide, _, rfl, k_b15⟩)⟩
      | 4, hk => cases hk; exact ⟨_, rfl, .inr (.inr ⟨by decide, _, rfl, k_b23⟩)⟩
      | 5, hk => cases hk; exact ⟨_, rfl, .inr ⟨_, rfl, by decide, by decide⟩⟩
      | 6, hk => cases hk; exact ⟨_, rfl, .inr (.inr ⟨by decide, _, rfl, k_b30⟩)⟩
      | 7, hk => cases hk; exact ⟨_, rfl, .inr ⟨_, rfl, by decide, by decide⟩⟩
      | 8, hk => cases hk; exact ⟨_, rfl, .inr (.inr ⟨by decide, _, rfl, k_b38⟩)⟩
      | 9, hk => cases hk; exact ⟨_, rfl, .inr ⟨_, rfl, by decide, by decide⟩⟩
      | 10, hk => cases hk; exact ⟨_, rfl, .inr (.inr ⟨by decide, _, rfl, k_b47⟩)⟩
      | n + 11, hk => cases hk⟩ ⟨fun h => absurd h (by decide), fun h => absurd h (by decide)⟩
  refine hs_vret (by decide +kernel) ?_
  exact ⟨_, hq.ty (.inl rfl), hHt, kt, rfl, rfl, rfl, ⟨b6, b47, by rw [hu.2.2.2.2]; rfl, by rw [hu.2.2.2.2]; rfl, hg_b6, hg_b47, et_kn_k hu k_b6, et_kn_k hu k_b47, by rw [hu.2.2.2.2]; rfl, by rw [hu.2.2.2.2]; rfl, by rw [hu.2.2.2.2]; rfl⟩⟩
theorem pi_knob {d2 : Nat} (hu : puc K G a (.inr (10, [.null, .null, .int 0, .null, .null, .null, .int 0, .int 0, .null, .null, .int 0, .null]))) (hd : 2 ≤ d2) : et_go none d2 115 0 (eg_en (eg_mL 115) [.ref a]) [] G 0 0 (pi_Z K G a 12 79 136123 (fun K' G' => ((∃ rd, et_pl (eg_at G' a) 3 = some (.ref rd) ∧ K' rd = some 7 ∧ et_pl (eg_at G' rd) 1 = some (.int (Int32.ofNat 0))) ∧ ∃ s0 s1 ra0 ca0 ra1 ca1, K' a = some 12 ∧ (et_pl (eg_at G' a) 0 = some (.ref s0) ∧ et_pl (eg_at G' a) 1 = some (.ref s1)) ∧ (¬ s0 = s1 ∧ ¬ ra0 = ra1 ∧ ¬ ca0 = ca1) ∧ pi_S K' G' s0 ra0 ca0 ∧ pi_S K' G' s1 ra1 ca1) ∧ et_pl (eg_at G' a) 2 = some (.int (Int32.ofNat 0)))) := by
  obtain ⟨d, rfl⟩ : ∃ d, d2 = d + 2 := ⟨d2 - 2, by omega⟩
  have hq : pq a K G K G := pq.rf
  have hua := hu.2.2.2.1
  have hq0 : G.2 ≤ G.2 := Nat.le_refl _
  rw [show eg_mL 115 = 1 from by decide +kernel]
  show et_go none (d + 2) 115 0 [some (.ref a)] [] G 0 0 _
  refine hs_aload (i := 0) (p := 1) (by decide +kernel) rfl ?_
  refine hs_skip (lk := 1) (p := 4) (by decide +kernel) rfl rfl ?_
  refine hs_aload (i := 0) (p := 5) (by decide +kernel) rfl ?_
  have hHo := hu.1
  refine ht_newV (ci := 8) (n := 11) (fs := [.int 0, .null, .int 0, .null, .null, .int 0, .null, .int 0, .null, .int 0, .null]) (p := 8) (by decide +kernel) (by omega) (by omega) (by decide +kernel) (by decide +kernel) hu.1 (fun G5 o0 ho hge hlt he => ?_)
  refine hs_dup1 (p := 9) (by decide +kernel) ?_
  refine hs_callp (mi := 101) (na := 0) (lk := 1) (lm := 2) (L0 := eg_en (eg_mL 101) [.ref o0]) (by decide +kernel) rfl rfl rfl rfl rfl (by rw [show eg_mL 101 = 2 from by decide +kernel]; first | done | rfl) ?_
  refine (pi_state ho (by omega)).mono (fun u hZ => pi_cb hZ (fun K9 G9 hq2 hH k_o0 hP => ?_))
  have hk := pk_of hq2 hge hlt he
  have hu := hk.un hH hu
  have hq := hq.mo hk
  obtain ⟨ra_o0, ca_o0, f1_o0, f10_o0, gr_o0, gc_o0, k_ra_o0, k_ca_o0, f0_o0, f5_o0, f9_o0⟩ := hP
  show et_go none _ 115 12 _ [.ref o0, .ref a] _ 19 146 _
  have hu0 := hu
  refine hs_puti (ci := 10) (f := 0) (ty := .object "KnobEye$State") (v := .ref o0) (p := 15) (by decide +kernel) hu (Nat.le_of_ble_eq_true rfl) rfl (fun G12 hu he e2 => ?_)
  have hu : puc _ _ a (.inr (10, [.ref o0, .null, .int 0, .null, .null, .null, .int 0, .int 0, .null, .null, .int 0, .null])) := hu
  have hq := hq.pt he e2
  have f0_o0 := (congrArg (et_pl · 0) (he o0 (puc_ne hu0 k_o0))).trans f0_o0
  have f1_o0 := (congrArg (et_pl · 1) (he o0 (puc_ne hu0 k_o0))).trans f1_o0
  have f5_o0 := (congrArg (et_pl · 5) (he o0 (puc_ne hu0 k_o0))).trans f5_o0
  have f9_o0 := (congrArg (et_pl · 9) (he o0 (puc_ne hu0 k_o0))).trans f9_o0
  have f10_o0 := (congrArg (et_pl · 10) (he o0 (puc_ne hu0 k_o0))).trans f10_o0
  refine hs_aload (i := 0) (p := 16) (by decide +kernel) rfl ?_
  have hHo := hu.1
  refine ht_newV (ci := 8) (n := 11) (fs := [.int 0, .null, .int 0, .null, .null, .int 0, .null, .int 0, .null, .int 0, .null]) (p := 19) (by decide +kernel) (by omega) (by omega) (by decide +kernel) (by decide +kernel) hu.1 (fun G16 o1 ho hge hlt he => ?_)
  refine hs_dup1 (p := 20) (by decide +kernel) ?_
  refine hs_callp (mi := 101) (na := 0) (lk := 1) (lm := 2) (L0 := eg_en (eg_mL 101) [.ref o1]) (by decide +kernel) rfl rfl rfl rfl rfl (by rw [show eg_mL 101 = 2 from by decide +kernel]; first | done | rfl) ?_
  refine (pi_state ho (by omega)).mono (fun u hZ => pi_cb hZ (fun K20 G20 hq2 hH k_o1 hP => ?_))
  have hk := pk_of hq2 hge hlt he
  have hne0 : ¬ o0 = o1 := by have := (hHo.2.2 _ _ k_o0).1; omega
  have hlr := (hHo.2.2 _ _ k_ra_o0).1
  have hlc := (hHo.2.2 _ _ k_ca_o0).1
  have hu := hk.un hH hu
  have hq := hq.mo hk
  have f0_o0 := hk.fl hHo k_o0 f0_o0
  have f1_o0 := hk.fl hHo k_o0 f1_o0
  have f5_o0 := hk.fl hHo k_o0 f5_o0
  have f9_o0 := hk.fl hHo k_o0 f9_o0
  have f10_o0 := hk.fl hHo k_o0 f10_o0
  have k_o0 := hk.ty hHo k_o0
  have k_ra_o0 := hk.ty hHo k_ra_o0
  have k_ca_o0 := hk.ty hHo k_ca_o0
  obtain ⟨ra_o1, ca_o1, f1_o1, f10_o1, gr_o1, gc_o1, k_ra_o1, k_ca_o1, f0_o1, f5_o1, f9_o1⟩ := hP
  have hnr : ¬ ra_o0 = ra_o1 := Nat.ne_of_lt (Nat.lt_of_lt_of_le (Nat.lt_trans hlr hlt) gr_o1)
  have hnc : ¬ ca_o0 = ca_o1 := Nat.ne_of_lt (Nat.lt_of_lt_of_le (Nat.lt_trans hlc hlt) gc_o1)
  show et_go none _ 115 23 _ [.ref o1, .ref a] _ 38 292 _
  have hu0 := hu
  refine hs_puti (ci := 10) (f := 1) (ty := .object "KnobEye$State") (v := .ref o1) (p := 26) (by decide +kernel) hu (Nat.le_of_ble_eq_true rfl) rfl (fun G23 hu he e2 => ?_)
  have hu : puc _ _ a (.inr (10, [.ref o0, .ref o1, .int 0, .null, .null, .null, .int 0, .int 0, .null, .null, .int 0, .null])) := hu
  have hq := hq.pt he e2
  have f0_o0 := (congrArg (et_pl · 0) (he o0 (puc_ne hu0 k_o0))).trans f0_o0
  have f1_o0 := (congrArg (et_pl · 1) (he o0 (puc_ne hu0 k_o0))).trans f1_o0
  have f5_o0 := (congrArg (et_pl · 5) (he o0 (puc_ne hu0 k_o0))).trans f5_o0
  have f9_o0 := (congrArg (et_pl · 9) (he o0 (puc_ne hu0 k_o0))).trans f9_o0
  have f10_o0 := (congrArg (et_pl · 10) (he o0 (puc_ne hu0 k_o0))).trans f10_o0
  have f0_o1 := (congrArg (et_pl · 0) (he o1 (puc_ne hu0 k_o1))).trans f0_o1
  have f1_o1 := (congrArg (et_pl · 1) (he o1 (puc_ne hu0 k_o1))).trans f1_o1
  have f5_o1 := (congrArg (et_pl · 5) (he o1 (puc_ne hu0 k_o1))).trans f5_o1
  have f9_o1 := (congrArg (et_pl · 9) (he o1 (puc_ne hu0 k_o1))).trans f9_o1
  have f10_o1 := (congrArg (et_pl · 10) (he o1 (puc_ne hu0 k_o1))).trans f10_o1
  refine hs_aload (i := 0) (p := 27) (by decide +kernel) rfl ?_
  have hHo := hu.1
  refine ht_newV (ci := 5) (n := 9) (fs := [.null, .int 0, .int 0, .int 0, .null, .null, .null, .int 0, .int 0]) (p := 30) (by decide +kernel) (by omega) (by omega) (by decide +kernel) (by decide +kernel) hu.1 (fun G27 o2 ho hge hlt he => ?_)
  refine hs_dup1 (p := 31) (by decide +kernel) ?_
  refine hs_callp (mi := 62) (na := 0) (lk := 1) (lm := 1) (L0 := eg_en (eg_mL 62) [.ref o2]) (by decide +kernel) rfl rfl rfl rfl rfl (by rw [show eg_mL 62 = 1 from by decide +kernel]; first | done | rfl) ?_
  refine (pi_reader ho (by omega)).mono (fun u hZ => pi_cb hZ (fun K31 G31 hq2 hH k_o2 hP => ?_))
  have hk := pk_of hq2 hge hlt he
  have hu := hk.un hH hu
  have hq := hq.mo hk
  have f0_o0 := hk.fl hHo k_o0 f0_o0
  have f1_o0 := hk.fl hHo k_o0 f1_o0
  have f5_o0 := hk.fl hHo k_o0 f5_o0
  have f9_o0 := hk.fl hHo k_o0 f9_o0
  have f10_o0 := hk.fl hHo k_o0 f10_o0
  have f0_o1 := hk.fl hHo k_o1 f0_o1
  have f1_o1 := hk.fl hHo k_o1 f1_o1
  have f5_o1 := hk.fl hHo k_o1 f5_o1
  have f9_o1 := hk.fl hHo k_o1 f9_o1
  have f10_o1 := hk.fl hHo k_o1 f10_o1
  have k_o0 := hk.ty hHo k_o0
  have k_ra_o0 := hk.ty hHo k_ra_o0
  have k_ca_o0 := hk.ty hHo k_ca_o0
  have k_o1 := hk.ty hHo k_o1
  have k_ra_o1 := hk.ty hHo k_ra_o1
  have k_ca_o1 := hk.ty hHo k_ca_o1
  have fl := hP
  show et_go none _ 115 34 _ [.ref o2, .ref a] _ 43 1904 _
  have hu0 := hu
  refine hs_puti (ci := 10) (f := 3) (ty := .object "KnobEye$Reader") (v := .ref o2) (p := 37) (by decide +kernel) hu (Nat.le_of_ble_eq_true rfl) rfl (fun G34 hu he e2 => ?_)
  have hu : puc _ _ a (.inr (10, [.ref o0, .ref o1, .int 0, .ref o2, .null, .null, .int 0, .int 0, .null, .null, .int 0, .null])) := hu
  have hq := hq.pt he e2
  have f0_o0 := (congrArg (et_pl · 0) (he o0 (puc_ne hu0 k_o0))).trans f0_o0
  have f1_o0 := (congrArg (et_pl · 1) (he o0 (puc_ne hu0 k_o0))).trans f1_o0
  have f5_o0 := (congrArg (et_pl · 5) (he o0 (puc_ne hu0 k_o0))).trans f5_o0
  have f9_o0 := (congrArg (et_pl · 9) (he o0 (puc_ne hu0 k_o0))).trans f9_o0
  have f10_o0 := (congrArg (et_pl · 10) (he o0 (puc_ne hu0 k_o0))).trans f10_o0
  have f0_o1 := (congrArg (et_pl · 0) (he o1 (puc_ne hu0 k_o1))).trans f0_o1
  have f1_o1 := (congrArg (et_pl · 1) (he o1 (puc_ne hu0 k_o1))).trans f1_o1
  have f5_o1 := (congrArg (et_pl · 5) (he o1 (puc_ne hu0 k_o1))).trans f5_o1
  have f9_o1 := (congrArg (et_pl · 9) (he o1 (puc_ne hu0 k_o1))).trans f9_o1
  have f10_o1 := (congrArg (et_pl · 10) (he o1 (puc_ne hu0 k_o1))).trans f10_o1
  have fl := (congrArg (et_pl · 1) (he o2 (puc_ne hu0 k_o2))).trans fl
  refine hs_aload (i := 0) (p := 38) (by decide +kernel) rfl ?_
  have hHo := hu.1
  refine ht_newV (ci := 2) (n := 12) (fs := [.int 0, .int 0, .int 0, .int 0, .int 0, .int 0, .int 0, .int 0, .int 0, .int 0, .int 0, .int 0]) (p := 41) (by decide +kernel) (by omega) (by omega) (by decide +kernel) (by decide +kernel) hu.1 (fun G38 o3 ho hge hlt he => ?_)
  refine hs_dup1 (p := 42) (by decide +kernel) ?_
  refine hs_callp (mi := 51) (na := 0) (lk := 1) (lm := 1) (L0 := eg_en (eg_mL 51) [.ref o3]) (by decide +kernel) rfl rfl rfl rfl rfl (by rw [show eg_mL 51 = 1 from by decide +kernel]; first | done | rfl) ?_
  refine (pi_facts ho (by omega)).mono (fun u hZ => pi_cb hZ (fun K42 G42 hq2 hH k_o3 hP => ?_))
  have hk := pk_of hq2 hge hlt he
  have hu := hk.un hH hu
  have hq := hq.mo hk
  have f0_o0 := hk.fl hHo k_o0 f0_o0
  have f1_o0 := hk.fl hHo k_o0 f1_o0
  have f5_o0 := hk.fl hHo k_o0 f5_o0
  have f9_o0 := hk.fl hHo k_o0 f9_o0
  have f10_o0 := hk.fl hHo k_o0 f10_o0
  have f0_o1 := hk.fl hHo k_o1 f0_o1
  have f1_o1 := hk.fl hHo k_o1 f1_o1
  have f5_o1 := hk.fl hHo k_o1 f5_o1
  have f9_o1 := hk.fl hHo k_o1 f9_o1
  have f10_o1 := hk.fl hHo k_o1 f10_o1
  have fl := hk.fl hHo k_o2 fl
  have k_o0 := hk.ty hHo k_o0
  have k_ra_o0 := hk.ty hHo k_ra_o0
  have k_ca_o0 := hk.ty hHo k_ca_o0
  have k_o1 := hk.ty hHo k_o1
  have k_ra_o1 := hk.ty hHo k_ra_o1
  have k_ca_o1 := hk.ty hHo k_ca_o1
  have k_o2 := hk.ty hHo k_o2
  show et_go none _ 115 45 _ [.ref o3, .ref a] _ 44 1916 _
  have hu0 := hu
  refine hs_puti (ci := 10) (f := 4) (ty := .object "KnobEye$Facts") (v := .ref o3) (p := 48) (by decide +kernel) hu (Nat.le_of_ble_eq_true rfl) rfl (fun G45 hu he e2 => ?_)
  have hu : puc _ _ a (.inr (10, [.ref o0, .ref o1, .int 0, .ref o2, .ref o3, .null, .int 0, .int 0, .null, .null, .int 0, .null])) := hu
  have hq := hq.pt he e2
  have f0_o0 := (congrArg (et_pl · 0) (he o0 (puc_ne hu0 k_o0))).trans f0_o0
  have f1_o0 := (congrArg (et_pl · 1) (he o0 (puc_ne hu0 k_o0))).trans f1_o0
  have f5_o0 := (congrArg (et_pl · 5) (he o0 (puc_ne hu0 k_o0))).trans f5_o0
  have f9_o0 := (congrArg (et_pl · 9) (he o0 (puc_ne hu0 k_o0))).trans f9_o0
  have f10_o0 := (congrArg (et_pl · 10) (he o0 (puc_ne hu0 k_o0))).trans f10_o0
  have f0_o1 := (congrArg (et_pl · 0) (he o1 (puc_ne hu0 k_o1))).trans f0_o1
  have f1_o1 := (congrArg (et_pl · 1) (he o1 (puc_ne hu0 k_o1))).trans f1_o1
  have f5_o1 := (congrArg (et_pl · 5) (he o1 (puc_ne hu0 k_o1))).trans f5_o1
  have f9_o1 := (congrArg (et_pl · 9) (he o1 (puc_ne hu0 k_o1))).trans f9_o1
  have f10_o1 := (congrArg (et_pl · 10) (he o1 (puc_ne hu0 k_o1))).trans f10_o1
  have fl := (congrArg (et_pl · 1) (he o2 (puc_ne hu0 k_o2))).trans fl
  refine hs_aload (i := 0) (p := 49) (by decide +kernel) rfl ?_
  have hHo := hu.1
  refine ht_newV (ci := 7) (n := 18) (fs := [.null, .null, .null, .null, .int 0, .int 0, .int 0, .int 0, .int 0, .int 0, .int 0, .int 0, .int 0, .int 0, .null, .int 0, .int 0, .null]) (p := 52) (by decide +kernel) (by omega) (by omega) (by decide +kernel) (by decide +kernel) hu.1 (fun G49 o4 ho hge hlt he => ?_)
  refine hs_dup1 (p := 53) (by decide +kernel) ?_
  refine hs_callp (mi := 89) (na := 0) (lk := 1) (lm := 1) (L0 := eg_en (eg_mL 89) [.ref o4]) (by decide +kernel) rfl rfl rfl rfl rfl (by rw [show eg_mL 89 = 1 from by decide +kernel]; first | done | rfl) ?_
  refine (pi_search ho (by omega)).mono (fun u hZ => pi_cb hZ (fun K53 G53 hq2 hH k_o4 hP => ?_))
  have hk := pk_of hq2 hge hlt he
  have hu := hk.un hH hu
  have hq := hq.mo hk
  have f0_o0 := hk.fl hHo k_o0 f0_o0
  have f1_o0 := hk.fl hHo k_o0 f1_o0
  have f5_o0 := hk.fl hHo k_o0 f5_o0
  have f9_o0 := hk.fl hHo k_o0 f9_o0
  have f10_o0 := hk.fl hHo k_o0 f10_o0
  have f0_o1 := hk.fl hHo k_o1 f0_o1
  have f1_o1 := hk.fl hHo k_o1 f1_o1
  have f5_o1 := hk.fl hHo k_o1 f5_o1
  have f9_o1 := hk.fl hHo k_o1 f9_o1
  have f10_o1 := hk.fl hHo k_o1 f10_o1
  have fl := hk.fl hHo k_o2 fl
  have k_o0 := hk.ty hHo k_o0
  have k_ra_o0 := hk.ty hHo k_ra_o0
  have k_ca_o0 := hk.ty hHo k_ca_o0
  have k_o1 := hk.ty hHo k_o1
  have k_ra_o1 := hk.ty hHo k_ra_o1
  have k_ca_o1 := hk.ty hHo k_ca_o1
  have k_o2 := hk.ty hHo k_o2
  have k_o3 := hk.ty hHo k_o3
  show et_go none _ 115 56 _ [.ref o4, .ref a] _ 71 5017 _
  have hu0 := hu
  refine hs_puti (ci := 10) (f := 5) (ty := .object "KnobEye$Search") (v := .ref o4) (p := 59) (by decide +kernel) hu (Nat.le_of_ble_eq_true rfl) rfl (fun G56 hu he e2 => ?_)
  have hu : puc _ _ a (.inr (10, [.ref o0, .ref o1, .int 0, .ref o2, .ref o3, .ref o4, .int 0, .int 0, .null, .null, .int 0, .null])) := hu
  have hq := hq.pt he e2
  have f0_o0 := (congrArg (et_pl · 0) (he o0 (puc_ne hu0 k_o0))).trans f0_o0
  have f1_o0 := (congrArg (et_pl · 1) (he o0 (puc_ne hu0 k_o0))).trans f1_o0
  have f5_o0 := (congrArg (et_pl · 5) (he o0 (puc_ne hu0 k_o0))).trans f5_o0
  have f9_o0 := (congrArg (et_pl · 9) (he o0 (puc_ne hu0 k_o0))).trans f9_o0
  have f10_o0 := (congrArg (et_pl · 10) (he o0 (puc_ne hu0 k_o0))).trans f10_o0
  have f0_o1 := (congrArg (et_pl · 0) (he o1 (puc_ne hu0 k_o1))).trans f0_o1
  have f1_o1 := (congrArg (et_pl · 1) (he o1 (puc_ne hu0 k_o1))).trans f1_o1
  have f5_o1 := (congrArg (et_pl · 5) (he o1 (puc_ne hu0 k_o1))).trans f5_o1
  have f9_o1 := (congrArg (et_pl · 9) (he o1 (puc_ne hu0 k_o1))).trans f9_o1
  have f10_o1 := (congrArg (et_pl · 10) (he o1 (puc_ne hu0 k_o1))).trans f10_o1
  have fl := (congrArg (et_pl · 1) (he o2 (puc_ne hu0 k_o2))).trans fl
  refine hs_aload (i := 0) (p := 60) (by decide +kernel) rfl ?_
  refine hs_k (x := (-1)) (p := 61) (by decide +kernel) ?_
  have hu0 := hu
  refine hs_puti (ci := 10) (f := 6) (ty := .int) (v := .int (-1)) (p := 64) (by decide +kernel) hu (Nat.le_of_ble_eq_true rfl) rfl (fun G61 hu he e2 => ?_)
  have hu : puc _ _ a (.inr (10, [.ref o0, .ref o1, .int 0, .ref o2, .ref o3, .ref o4, .int (-1), .int 0, .null, .null, .int 0, .null])) := hu
  have hq := hq.pt he e2
  have f0_o0 := (congrArg (et_pl · 0) (he o0 (puc_ne hu0 k_o0))).trans f0_o0
  have f1_o0 := (congrArg (et_pl · 1) (he o0 (puc_ne hu0 k_o0))).trans f1_o0
  have f5_o0 := (congrArg (et_pl · 5) (he o0 (puc_ne hu0 k_o0))).trans f5_o0
  have f9_o0 := (congrArg (et_pl · 9) (he o0 (puc_ne hu0 k_o0))).trans f9_o0
  have f10_o0 := (congrArg (et_pl · 10) (he o0 (puc_ne hu0 k_o0))).trans f10_o0
  have f0_o1 := (congrArg (et_pl · 0) (he o1 (puc_ne hu0 k_o1))).trans f0_o1
  have f1_o1 := (congrArg (et_pl · 1) (he o1 (puc_ne hu0 k_o1))).trans f1_o1
  have f5_o1 := (congrArg (et_pl · 5) (he o1 (puc_ne hu0 k_o1))).trans f5_o1
  have f9_o1 := (congrArg (et_pl · 9) (he o1 (puc_ne hu0 k_o1))).trans f9_o1
  have f10_o1 := (congrArg (et_pl · 10) (he o1 (puc_ne hu0 k_o1))).trans f10_o1
  have fl := (congrArg (et_pl · 1) (he o2 (puc_ne hu0 k_o2))).trans fl
  refine hs_aload (i := 0) (p := 65) (by decide +kernel) rfl ?_
  refine hs_k (x := (-1)) (p := 66) (by decide +kernel) ?_
  have hu0 := hu
  refine hs_puti (ci := 10) (f := 7) (ty := .int) (v := .int (-1)) (p := 69) (by decide +kernel) hu (Nat.le_of_ble_eq_true rfl) rfl (fun G66 hu he e2 => ?_)
  have hu : puc _ _ a (.inr (10, [.ref o0, .ref o1, .int 0, .ref o2, .ref o3, .ref o4, .int (-1), .int (-1), .null, .null, .int 0, .null])) := hu
  have hq := hq.pt he e2
  have f0_o0 := (congrArg (et_pl · 0) (he o0 (puc_ne hu0 k_o0))).trans f0_o0
  have f1_o0 := (congrArg (et_pl · 1) (he o0 (puc_ne hu0 k_o0))).trans f1_o0
  have f5_o0 := (congrArg (et_pl · 5) (he o0 (puc_ne hu0 k_o0))).trans f5_o0
  have f9_o0 := (congrArg (et_pl · 9) (he o0 (puc_ne hu0 k_o0))).trans f9_o0
  have f10_o0 := (congrArg (et_pl · 10) (he o0 (puc_ne hu0 k_o0))).trans f10_o0
  have f0_o1 := (congrArg (et_pl · 0) (he o1 (puc_ne hu0 k_o1))).trans f0_o1
  have f1_o1 := (congrArg (et_pl · 1) (he o1 (puc_ne hu0 k_o1))).trans f1_o1
  have f5_o1 := (congrArg (et_pl · 5) (he o1 (puc_ne hu0 k_o1))).trans f5_o1
  have f9_o1 := (congrArg (et_pl · 9) (he o1 (puc_ne hu0 k_o1))).trans f9_o1
  have f10_o1 := (congrArg (et_pl · 10) (he o1 (puc_ne hu0 k_o1))).trans f10_o1
  have fl := (congrArg (et_pl · 1) (he o2 (puc_ne hu0 k_o2))).trans fl
  refine hs_aload (i := 0) (p := 70) (by decide +kernel) rfl ?_
  have hHo := hu.1
  refine ht_newV (ci := 1) (n := 8) (fs := [.int 0, .null, .null, .null, .int 0, .int 0, .int 0, .int 0]) (p := 73) (by decide +kernel) (by omega) (by omega) (by decide +kernel) (by decide +kernel) hu.1 (fun G70 o5 ho hge hlt he => ?_)
  refine hs_dup1 (p := 74) (by decide +kernel) ?_
  refine hs_callp (mi := 31) (na := 0) (lk := 1) (lm := 1) (L0 := eg_en (eg_mL 31) [.ref o5]) (by decide +kernel) rfl rfl rfl rfl rfl (by rw [show eg_mL 31 = 1 from by decide +kernel]; first | done | rfl) ?_
  refine (pi_eye ho (by omega)).mono (fun u hZ => pi_cb hZ (fun K74 G74 hq2 hH k_o5 hP => ?_))
  have hk := pk_of hq2 hge hlt he
  have hu := hk.un hH hu
  have hq := hq.mo hk
  have f0_o0 := hk.fl hHo k_o0 f0_o0
  have f1_o0 := hk.fl hHo k_o0 f1_o0
  have f5_o0 := hk.fl hHo k_o0 f5_o0
  have f9_o0 := hk.fl hHo k_o0 f9_o0
  have f10_o0 := hk.fl hHo k_o0 f10_o0
  have f0_o1 := hk.fl hHo k_o1 f0_o1
  have f1_o1 := hk.fl hHo k_o1 f1_o1
  have f5_o1 := hk.fl hHo k_o1 f5_o1
  have f9_o1 := hk.fl hHo k_o1 f9_o1
  have f10_o1 := hk.fl hHo k_o1 f10_o1
  have fl := hk.fl hHo k_o2 fl
  have k_o0 := hk.ty hHo k_o0
  have k_ra_o0 := hk.ty hHo k_ra_o0
  have k_ca_o0 := hk.ty hHo k_ca_o0
  have k_o1 := hk.ty hHo k_o1
  have k_ra_o1 := hk.ty hHo k_ra_o1
  have k_ca_o1 := hk.ty hHo k_ca_o1
  have k_o2 := hk.ty hHo k_o2
  have k_o3 := hk.ty hHo k_o3
  have k_o4 := hk.ty hHo k_o4
  show et_go none _ 115 77 _ [.ref o5, .ref a] _ 75 5043 _
  have hu0 := hu
  refine hs_puti (ci := 10) (f := 8) (ty := .object "KnobEye$Eye") (v := .ref o5) (p := 80) (by decide +kernel) hu (Nat.le_of_ble_eq_true rfl) rfl (fun G77 hu he e2 => ?_)
  have hu : puc _ _ a (.inr (10, [.ref o0, .ref o1, .int 0, .ref o2, .ref o3, .ref o4, .int (-1), .int (-1), .ref o5, .null, .int 0, .null])) := hu
  have hq := hq.pt he e2
  have f0_o0 := (congrArg (et_pl · 0) (he o0 (puc_ne hu0 k_o0))).trans f0_o0
  have f1_o0 := (congrArg (et_pl · 1) (he o0 (puc_ne hu0 k_o0))).trans f1_o0
  have f5_o0 := (congrArg (et_pl · 5) (he o0 (puc_ne hu0 k_o0))).trans f5_o0
  have f9_o0 := (congrArg (et_pl · 9) (he o0 (puc_ne hu0 k_o0))).trans f9_o0
  have f10_o0 := (congrArg (et_pl · 10) (he o0 (puc_ne hu0 k_o0))).trans f10_o0
  have f0_o1 := (congrArg (et_pl · 0) (he o1 (puc_ne hu0 k_o1))).trans f0_o1
  have f1_o1 := (congrArg (et_pl · 1) (he o1 (puc_ne hu0 k_o1))).trans f1_o1
  have f5_o1 := (congrArg (et_pl · 5) (he o1 (puc_ne hu0 k_o1))).trans f5_o1
  have f9_o1 := (congrArg (et_pl · 9) (he o1 (puc_ne hu0 k_o1))).trans f9_o1
  have f10_o1 := (congrArg (et_pl · 10) (he o1 (puc_ne hu0 k_o1))).trans f10_o1
  have fl := (congrArg (et_pl · 1) (he o2 (puc_ne hu0 k_o2))).trans fl
  refine hs_aload (i := 0) (p := 81) (by decide +kernel) rfl ?_
  refine hs_k (x := Int32.ofNat 5) (p := 82) (by decide +kernel) ?_
  have hHo := hu.1
  refine ht_nb (t := 32) (n := 5) (kd := 0) (p := 84) (by decide +kernel) rfl (by decide +kernel) ⟨by decide +kernel, by decide +kernel, by decide +kernel⟩ (by omega) (by omega) hu.1 (fun K82 G82 b82 hk hH k_b82 hg_b82 hz_b82 => ?_)
  have hg_b82 := Nat.le_trans hq.1 hg_b82
  have hu := hk.un hH hu
  have hq := hq.mo hk
  have f0_o0 := hk.fl hHo k_o0 f0_o0
  have f1_o0 := hk.fl hHo k_o0 f1_o0
  have f5_o0 := hk.fl hHo k_o0 f5_o0
  have f9_o0 := hk.fl hHo k_o0 f9_o0
  have f10_o0 := hk.fl hHo k_o0 f10_o0
  have f0_o1 := hk.fl hHo k_o1 f0_o1
  have f1_o1 := hk.fl hHo k_o1 f1_o1
  have f5_o1 := hk.fl hHo k_o1 f5_o1
  have f9_o1 := hk.fl hHo k_o1 f9_o1
  have f10_o1 := hk.fl hHo k_o1 f10_o1
  have fl := hk.fl hHo k_o2 fl
  have k_o0 := hk.ty hHo k_o0
  have k_ra_o0 := hk.ty hHo k_ra_o0
  have k_ca_o0 := hk.ty hHo k_ca_o0
  have k_o1 := hk.ty hHo k_o1
  have k_ra_o1 := hk.ty hHo k_ra_o1
  have k_ca_o1 := hk.ty hHo k_ca_o1
  have k_o2 := hk.ty hHo k_o2
  have k_o3 := hk.ty hHo k_o3
  have k_o4 := hk.ty hHo k_o4
  have k_o5 := hk.ty hHo k_o5
  have hu0 := hu
  refine hs_puti (ci := 10) (f := 9) (ty := .array .int) (v := .ref b82) (p := 87) (by decide +kernel) hu (Nat.le_of_ble_eq_true rfl) rfl (fun G84 hu he e2 => ?_)
  have hu : puc _ _ a (.inr (10, [.ref o0, .ref o1, .int 0, .ref o2, .ref o3, .ref o4, .int (-1), .int (-1), .ref o5, .ref b82, .int 0, .null])) := hu
  have hq := hq.pt he e2
  have f0_o0 := (congrArg (et_pl · 0) (he o0 (puc_ne hu0 k_o0))).trans f0_o0
  have f1_o0 := (congrArg (et_pl · 1) (he o0 (puc_ne hu0 k_o0))).trans f1_o0
  have f5_o0 := (congrArg (et_pl · 5) (he o0 (puc_ne hu0 k_o0))).trans f5_o0
  have f9_o0 := (congrArg (et_pl · 9) (he o0 (puc_ne hu0 k_o0))).trans f9_o0
  have f10_o0 := (congrArg (et_pl · 10) (he o0 (puc_ne hu0 k_o0))).trans f10_o0
  have f0_o1 := (congrArg (et_pl · 0) (he o1 (puc_ne hu0 k_o1))).trans f0_o1
  have f1_o1 := (congrArg (et_pl · 1) (he o1 (puc_ne hu0 k_o1))).trans f1_o1
  have f5_o1 := (congrArg (et_pl · 5) (he o1 (puc_ne hu0 k_o1))).trans f5_o1
  have f9_o1 := (congrArg (et_pl · 9) (he o1 (puc_ne hu0 k_o1))).trans f9_o1
  have f10_o1 := (congrArg (et_pl · 10) (he o1 (puc_ne hu0 k_o1))).trans f10_o1
  have fl := (congrArg (et_pl · 1) (he o2 (puc_ne hu0 k_o2))).trans fl
  refine hs_aload (i := 0) (p := 88) (by decide +kernel) rfl ?_
  have hHo := hu.1
  refine ht_newV (ci := 3) (n := 3) (fs := [.null, .null, .int 0]) (p := 91) (by decide +kernel) (by omega) (by omega) (by decide +kernel) (by decide +kernel) hu.1 (fun G88 o6 ho hge hlt he => ?_)
  refine hs_dup1 (p := 92) (by decide +kernel) ?_
  refine hs_callp (mi := 57) (na := 0) (lk := 1) (lm := 1) (L0 := eg_en (eg_mL 57) [.ref o6]) (by decide +kernel) rfl rfl rfl rfl rfl (by rw [show eg_mL 57 = 1 from by decide +kernel]; first | done | rfl) ?_
  refine (pi_likes ho (by omega)).mono (fun u hZ => pi_cb hZ (fun K92 G92 hq2 hH k_o6 hP => ?_))
  have hk := pk_of hq2 hge hlt he
  have hu := hk.un hH hu
  have hq := hq.mo hk
  have f0_o0 := hk.fl hHo k_o0 f0_o0
  have f1_o0 := hk.fl hHo k_o0 f1_o0
  have f5_o0 := hk.fl hHo k_o0 f5_o0
  have f9_o0 := hk.fl hHo k_o0 f9_o0
  have f10_o0 := hk.fl hHo k_o0 f10_o0
  have f0_o1 := hk.fl hHo k_o1 f0_o1
  have f1_o1 := hk.fl hHo k_o1 f1_o1
  have f5_o1 := hk.fl hHo k_o1 f5_o1
  have f9_o1 := hk.fl hHo k_o1 f9_o1
  have f10_o1 := hk.fl hHo k_o1 f10_o1
  have fl := hk.fl hHo k_o2 fl
  have k_o0 := hk.ty hHo k_o0
  have k_ra_o0 := hk.ty hHo k_ra_o0
  have k_ca_o0 := hk.ty hHo k_ca_o0
  have k_o1 := hk.ty hHo k_o1
  have k_ra_o1 := hk.ty hHo k_ra_o1
  have k_ca_o1 := hk.ty hHo k_ca_o1
  have k_o2 := hk.ty hHo k_o2
  have k_o3 := hk.ty hHo k_o3
  have k_o4 := hk.ty hHo k_o4
  have k_o5 := hk.ty hHo k_o5
  have k_b82 := hk.ty hHo k_b82
  show et_go none _ 115 95 _ [.ref o6, .ref a] _ 79 136123 _
  have hu0 := hu
  refine hs_puti (ci := 10) (f := 11) (ty := .object "KnobEye$Likes") (v := .ref o6) (p := 98) (by decide +kernel) hu (Nat.le_of_ble_eq_true rfl) rfl (fun G95 hu he e2 => ?_)
  have hu : puc _ _ a (.inr (10, [.ref o0, .ref o1, .int 0, .ref o2, .ref o3, .ref o4, .int (-1), .int (-1), .ref o5, .ref b82, .int 0, .ref o6])) := hu
  have hq := hq.pt he e2
  have f0_o0 := (congrArg (et_pl · 0) (he o0 (puc_ne hu0 k_o0))).trans f0_o0
  have f1_o0 := (congrArg (et_pl · 1) (he o0 (puc_ne hu0 k_o0))).trans f1_o0
  have f5_o0 := (congrArg (et_pl · 5) (he o0 (puc_ne hu0 k_o0))).trans f5_o0
  have f9_o0 := (congrArg (et_pl · 9) (he o0 (puc_ne hu0 k_o0))).trans f9_o0
  have f10_o0 := (congrArg (et_pl · 10) (he o0 (puc_ne hu0 k_o0))).trans f10_o0
  have f0_o1 := (congrArg (et_pl · 0) (he o1 (puc_ne hu0 k_o1))).trans f0_o1
  have f1_o1 := (congrArg (et_pl · 1) (he o1 (puc_ne hu0 k_o1))).trans f1_o1
  have f5_o1 := (congrArg (et_pl · 5) (he o1 (puc_ne hu0 k_o1))).trans f5_o1
  have f9_o1 := (congrArg (et_pl · 9) (he o1 (puc_ne hu0 k_o1))).trans f9_o1
  have f10_o1 := (congrArg (et_pl · 10) (he o1 (puc_ne hu0 k_o1))).trans f10_o1
  have fl := (congrArg (et_pl · 1) (he o2 (puc_ne hu0 k_o2))).trans fl
  obtain ⟨hHt, kt⟩ := puc_typ (t := 12) hu (by decide) rfl ⟨_, rfl, rfl, fun k p hk => by
      match k, hk with
      | 0, hk => cases hk; exact ⟨_, rfl, .inr (.inr ⟨by decide, _, rfl, k_o0⟩)⟩
      | 1, hk => cases hk; exact ⟨_, rfl, .inr (.inr ⟨by decide, _, rfl, k_o1⟩)⟩
      | 2, hk => cases hk; exact ⟨_, rfl, .inr ⟨_, rfl, by decide, by decide⟩⟩
      | 3, hk => cases hk; exact ⟨_, rfl, .inr (.inr ⟨by decide, _, rfl, k_o2⟩)⟩
      | 4, hk => cases hk; exact ⟨_, rfl, .inr (.inr ⟨by decide, _, rfl, k_o3⟩)⟩
      | 5, hk => cases hk; exact ⟨_, rfl, .inr (.inr ⟨by decide, _, rfl, k_o4⟩)⟩
      | 6, hk => cases hk; exact ⟨_, rfl, .inr ⟨_, rfl, by decide, by decide⟩⟩
      | 7, hk => cases hk; exact ⟨_, rfl, .inr ⟨_, rfl, by decide, by decide⟩⟩
      | 8, hk => cases hk; exact ⟨_, rfl, .inr (.inr ⟨by decide, _, rfl, k_o5⟩)⟩
      | 9, hk => cases hk; exact ⟨_, rfl, .inr (.inr ⟨by decide, _, rfl, k_b82⟩)⟩
      | 10, hk => cases hk; exact ⟨_, rfl, .inr ⟨_, rfl, by decide, by decide⟩⟩
      | 11, hk => cases hk; exact ⟨_, rfl, .inr (.inr ⟨by decide, _, rfl, k_o6⟩)⟩
      | n + 12, hk => cases hk⟩ ⟨fun h => absurd h (by decide), fun h => absurd h (by decide)⟩
  refine hs_vret (by decide +kernel) ?_
  exact ⟨_, hq.ty (.inl rfl), hHt, kt, rfl, rfl, rfl, ⟨⟨⟨o2, by rw [hu.2.2.2.2]; rfl, et_kn_k hu k_o2, fl⟩, o0, o1, ra_o0, ca_o0, ra_o1, ca_o1, kt, ⟨by rw [hu.2.2.2.2]; rfl, by rw [hu.2.2.2.2]; rfl⟩, ⟨hne0, hnr, hnc⟩, ⟨⟨et_kn_k hu k_o0, et_kn_k hu k_ra_o0, et_kn_k hu k_ca_o0⟩, ⟨f1_o0, f10_o0⟩, ⟨f0_o0, f5_o0, f9_o0⟩⟩, ⟨⟨et_kn_k hu k_o1, et_kn_k hu k_ra_o1, et_kn_k hu k_ca_o1⟩, ⟨f1_o1, f10_o1⟩, ⟨f0_o1, f5_o1, f9_o1⟩⟩⟩, by rw [hu.2.2.2.2]; rfl⟩⟩
theorem pi_model {d2 : Nat} (hu : puc K G a (.inr (11, [.int 0, .null, .null, .int 0, .null, .int 0, .int 0, .int 0, .int 0, .int 0, .int 0, .null, .int 0, .int 0, .null, .null, .int 0, .null, .null, .null, .null, .null, .null, .int 0, .int 0, .int 0, .int 0, .int 0, .int 0, .int 0, .null, .null, .null, .null, .null, .null]))) (hd : 0 ≤ d2) : et_go none d2 174 0 (eg_en (eg_mL 174) [.ref a]) [] G 0 0 (pi_Z K G a 13 18 193585 (fun K' G' => et_pl (eg_at G' a) 5 = some (.int (Int32.ofNat 0)) ∧ et_pl (eg_at G' a) 3 = some (.int (Int32.ofNat 0)) ∧ ∃ aw ia, et_pl (eg_at G' a) 1 = some (.ref aw) ∧ et_pl (eg_at G' a) 2 = some (.ref ia) ∧ K' aw = some 46 ∧ K' ia = some 47 ∧ eg_at G' aw = .inl (0, (12741, .inl (fun _ => 0))) ∧ eg_at G' ia = .inl (0, (11900, .inl (fun _ => 0))))) := by
  have hq : pq a K G K G := pq.rf
  have hua := hu.2.2.2.1
  have hq0 : G.2 ≤ G.2 := Nat.le_refl _
  rw [show eg_mL 174 = 1 from by decide +kernel]
  show et_go none d2 174 0 [some (.ref a)] [] G 0 0 _
  refine hs_aload (i := 0) (p := 1) (by decide +kernel) rfl ?_
  refine hs_skip (lk := 1) (p := 4) (by decide +kernel) rfl rfl ?_
  refine hs_aload (i := 0) (p := 5) (by decide +kernel) rfl ?_
  refine hs_k (x := Int32.ofNat 12741) (p := 8) (by decide +kernel) ?_
  have hHo := hu.1
  refine ht_nb (t := 46) (n := 12741) (kd := 0) (p := 10) (by decide +kernel) rfl (by decide +kernel) ⟨by decide +kernel, by decide +kernel, by decide +kernel⟩ (by omega) (by omega) hu.1 (fun K8 G8 b8 hk hH k_b8 hg_b8 hz_b8 => ?_)
  have hg_b8 := Nat.le_trans hq.1 hg_b8
  have hu := hk.un hH hu
  have hq := hq.mo hk
  have cz_b8 := hz_b8 rfl
  have hu0 := hu
  refine hs_puti (ci := 11) (f := 1) (ty := .array .int) (v := .ref b8) (p := 13) (by decide +kernel) hu (Nat.le_of_ble_eq_true rfl) rfl (fun G10 hu he e2 => ?_)
  have hu : puc _ _ a (.inr (11, [.int 0, .ref b8, .null, .int 0, .null, .int 0, .int 0, .int 0, .int 0, .int 0, .int 0, .null, .int 0, .int 0, .null, .null, .int 0, .null, .null, .null, .null, .null, .null, .int 0, .int 0, .int 0, .int 0, .int 0, .int 0, .int 0, .null, .null, .null, .null, .null, .null])) := hu
  have hq := hq.pt he e2
  have cz_b8 := (he b8 (puc_ne hu0 k_b8)).trans cz_b8
  refine hs_aload (i := 0) (p := 14) (by decide +kernel) rfl ?_
  refine hs_k (x := Int32.ofNat 11900) (p := 17) (by decide +kernel) ?_
  have hHo := hu.1
  refine ht_nb (t := 47) (n := 11900) (kd := 0) (p := 19) (by decide +kernel) rfl (by decide +kernel) ⟨by decide +kernel, by decide +kernel, by decide +kernel⟩ (by omega) (by omega) hu.1 (fun K17 G17 b17 hk hH k_b17 hg_b17 hz_b17 => ?_)
  have hg_b17 := Nat.le_trans hq.1 hg_b17
  have hu := hk.un hH hu
  have hq := hq.mo hk
  have cz_b8 := ((hk.2 b8 (hHo.2.2 _ _ k_b8).1).2).trans cz_b8
  have k_b8 := hk.ty hHo k_b8
  have cz_b17 := hz_b17 rfl
  have hu0 := hu
  refine hs_puti (ci := 11) (f := 2) (ty := .array .int) (v := .ref b17) (p := 22) (by decide +kernel) hu (Nat.le_of_ble_eq_true rfl) rfl (fun G19 hu he e2 => ?_)
  have hu : puc _ _ a (.inr (11, [.int 0, .ref b8, .ref b17, .int 0, .null, .int 0, .int 0, .int 0, .int 0, .int 0, .int 0, .null, .int 0, .int 0, .null, .null, .int 0, .null, .null, .null, .null, .null, .null, .int 0, .int 0, .int 0, .int 0, .int 0, .int 0, .int 0, .null, .null, .null, .null, .null, .null])) := hu
  have hq := hq.pt he e2
  have cz_b8 := (he b8 (puc_ne hu0 k_b8)).trans cz_b8
  have cz_b17 := (he b17 (puc_ne hu0 k_b17)).trans cz_b17
  refine hs_aload (i := 0) (p := 23) (by decide +kernel) rfl ?_
  refine hs_k (x := Int32.ofNat 400) (p := 26) (by decide +kernel) ?_
  have hHo := hu.1
  refine ht_nb (t := 34) (n := 400) (kd := 1) (p := 28) (by decide +kernel) rfl (by decide +kernel) ⟨by decide +kernel, by decide +kernel, by decide +kernel⟩ (by omega) (by omega) hu.1 (fun K26 G26 b26 hk hH k_b26 hg_b26 hz_b26 => ?_)
  have hg_b26 := Nat.le_trans hq.1 hg_b26
  have hu := hk.un hH hu
  have hq := hq.mo hk
  have cz_b8 := ((hk.2 b8 (hHo.2.2 _ _ k_b8).1).2).trans cz_b8
  have cz_b17 := ((hk.2 b17 (hHo.2.2 _ _ k_b17).1).2).trans cz_b17
  have k_b8 := hk.ty hHo k_b8
  have k_b17 := hk.ty hHo k_b17
  have hu0 := hu
  refine hs_puti (ci := 11) (f := 4) (ty := .array .byte) (v := .ref b26) (p := 31) (by decide +kernel) hu (Nat.le_of_ble_eq_true rfl) rfl (fun G28 hu he e2 => ?_)
  have hu : puc _ _ a (.inr (11, [.int 0, .ref b8, .ref b17, .int 0, .ref b26, .int 0, .int 0, .int 0, .int 0, .int 0, .int 0, .null, .int 0, .int 0, .null, .null, .int 0, .null, .null, .null, .null, .null, .null, .int 0, .int 0, .int 0, .int 0, .int 0, .int 0, .int 0, .null, .null, .null, .null, .null, .null])) := hu
  have hq := hq.pt he e2
  have cz_b8 := (he b8 (puc_ne hu0 k_b8)).trans cz_b8
  have cz_b17 := (he b17 (puc_ne hu0 k_b17)).trans cz_b17
  refine hs_aload (i := 0) (p := 32) (by decide +kernel) rfl ?_
  refine hs_k (x := (-1)) (p := 33) (by decide +kernel) ?_
  have hu0 := hu
  refine hs_puti (ci := 11) (f := 10) (ty := .int) (v := .int (-1)) (p := 36) (by decide +kernel) hu (Nat.le_of_ble_eq_true rfl) rfl (fun G33 hu he e2 => ?_)
  have hu : puc _ _ a (.inr (11, [.int 0, .ref b8, .ref b17, .int 0, .ref b26, .int 0, .int 0, .int 0, .int 0, .int 0, .int (-1), .null, .int 0, .int 0, .null, .null, .int 0, .null, .null, .null, .null, .null, .null, .int 0, .int 0, .int 0, .int 0, .int 0, .int 0, .int 0, .null, .null, .null, .null, .null, .null])) := hu
  have hq := hq.pt he e2
  have cz_b8 := (he b8 (puc_ne hu0 k_b8)).trans cz_b8
  have cz_b17 := (he b17 (puc_ne hu0 k_b17)).trans cz_b17
  refine hs_aload (i := 0) (p := 37) (by decide +kernel) rfl ?_
  refine hs_k (x := Int32.ofNat 5) (p := 38) (by decide +kernel) ?_
  have hHo := hu.1
  refine ht_nb (t := 14) (n := 5) (kd := 0) (p := 40) (by decide +kernel) rfl (by decide +kernel) ⟨by decide +kernel, by decide +kernel, by decide +kernel⟩ (by omega) (by omega) hu.1 (fun K38 G38 b38 hk hH k_b38 hg_b38 hz_b38 => ?_)
  have hg_b38 := Nat.le_trans hq.1 hg_b38
  have hu := hk.un hH hu
  have hq := hq.mo hk
  have cz_b8 := ((hk.2 b8 (hHo.2.2 _ _ k_b8).1).2).trans cz_b8
  have cz_b17 := ((hk.2 b17 (hHo.2.2 _ _ k_b17).1).2).trans cz_b17
  have k_b8 := hk.ty hHo k_b8
  have k_b17 := hk.ty hHo k_b17
  have k_b26 := hk.ty hHo k_b26
  have hu0 := hu
  refine hs_puti (ci := 11) (f := 11) (ty := .array .int) (v := .ref b38) (p := 43) (by decide +kernel) hu (Nat.le_of_ble_eq_true rfl) rfl (fun G40 hu he e2 => ?_)
  have hu : puc _ _ a (.inr (11, [.int 0, .ref b8, .ref b17, .int 0, .ref b26, .int 0, .int 0, .int 0, .int 0, .int 0, .int (-1), .ref b38, .int 0, .int 0, .null, .null, .int 0, .null, .null, .null, .null, .null, .null, .int 0, .int 0, .int 0, .int 0, .int 0, .int 0, .int 0, .null, .null, .null, .null, .null, .null])) := hu
  have hq := hq.pt he e2
  have cz_b8 := (he b8 (puc_ne hu0 k_b8)).trans cz_b8
  have cz_b17 := (he b17 (puc_ne hu0 k_b17)).trans cz_b17
  refine hs_aload (i := 0) (p := 44) (by decide +kernel) rfl ?_
  refine hs_k (x := Int32.ofNat 5) (p := 45) (by decide +kernel) ?_
  have hHo := hu.1
  refine ht_nb (t := 14) (n := 5) (kd := 0) (p := 47) (by decide +kernel) rfl (by decide +kernel) ⟨by decide +kernel, by decide +kernel, by decide +kernel⟩ (by omega) (by omega) hu.1 (fun K45 G45 b45 hk hH k_b45 hg_b45 hz_b45 => ?_)
  have hg_b45 := Nat.le_trans hq.1 hg_b45
  have hu := hk.un hH hu
  have hq := hq.mo hk
  have cz_b8 := ((hk.2 b8 (hHo.2.2 _ _ k_b8).1).2).trans cz_b8
  have cz_b17 := ((hk.2 b17 (hHo.2.2 _ _ k_b17).1).2).trans cz_b17
  have k_b8 := hk.ty hHo k_b8
  have k_b17 := hk.ty hHo k_b17
  have k_b26 := hk.ty hHo k_b26
  have k_b38 := hk.ty hHo k_b38
  have hu0 := hu
  refine hs_puti (ci := 11) (f := 14) (ty := .array .int) (v := .ref b45) (p := 50) (by decide +kernel) hu (Nat.le_of_ble_eq_true rfl) rfl (fun G47 hu he e2 => ?_)
  have hu : puc _ _ a (.inr (11, [.int 0, .ref b8, .ref b17, .int 0, .ref b26, .int 0, .int 0, .int 0, .int 0, .int 0, .int (-1), .ref b38, .int 0, .int 0, .ref b45, .null, .int 0, .null, .null, .null, .null, .null, .null, .int 0, .int 0, .int 0, .int 0, .int 0, .int 0, .int 0, .null, .null, .null, .null, .null, .null])) := hu
  have hq := hq.pt he e2
  have cz_b8 := (he b8 (puc_ne hu0 k_b8)).trans cz_b8
  have cz_b17 := (he b17 (puc_ne hu0 k_b17)).trans cz_b17
  refine hs_aload (i := 0) (p := 51) (by decide +kernel) rfl ?_
  refine hs_k (x := Int32.ofNat 2) (p := 52) (by decide +kernel) ?_
  have hHo := hu.1
  refine ht_nb (t := 24) (n := 2) (kd := 3) (p := 54) (by decide +kernel) rfl (by decide +kernel) ⟨by decide +kernel, by decide +kernel, by decide +kernel⟩ (by omega) (by omega) hu.1 (fun K52 G52 b52 hk hH k_b52 hg_b52 hz_b52 => ?_)
  have hg_b52 := Nat.le_trans hq.1 hg_b52
  have hu := hk.un hH hu
  have hq := hq.mo hk
  have cz_b8 := ((hk.2 b8 (hHo.2.2 _ _ k_b8).1).2).trans cz_b8
  have cz_b17 := ((hk.2 b17 (hHo.2.2 _ _ k_b17).1).2).trans cz_b17
  have k_b8 := hk.ty hHo k_b8
  have k_b17 := hk.ty hHo k_b17
  have k_b26 := hk.ty hHo k_b26
  have k_b38 := hk.ty hHo k_b38
  have k_b45 := hk.ty hHo k_b45
  have hu0 := hu
  refine hs_puti (ci := 11) (f := 15) (ty := .array .boolean) (v := .ref b52) (p := 57) (by decide +kernel) hu (Nat.le_of_ble_eq_true rfl) rfl (fun G54 hu he e2 => ?_)
  have hu : puc _ _ a (.inr (11, [.int 0, .ref b8, .ref b17, .int 0, .ref b26, .int 0, .int 0, .int 0, .int 0, .int 0, .int (-1), .ref b38, .int 0, .int 0, .ref b45, .ref b52, .int 0, .null, .null, .null, .null, .null, .null, .int 0, .int 0, .int 0, .int 0, .int 0, .int 0, .int 0, .null, .null, .null, .null, .null, .null])) := hu
  have hq := hq.pt he e2
  have cz_b8 := (he b8 (puc_ne hu0 k_b8)).trans cz_b8
  have cz_b17 := (he b17 (puc_ne hu0 k_b17)).trans cz_b17
  refine hs_aload (i := 0) (p := 58) (by decide +kernel) rfl ?_
  refine hs_k (x := Int32.ofNat 400) (p := 61) (by decide +kernel) ?_
  have hHo := hu.1
  refine ht_nb (t := 29) (n := 400) (kd := 2) (p := 63) (by decide +kernel) rfl (by decide +kernel) ⟨by decide +kernel, by decide +kernel, by decide +kernel⟩ (by omega) (by omega) hu.1 (fun K61 G61 b61 hk hH k_b61 hg_b61 hz_b61 => ?_)
  have hg_b61 := Nat.le_trans hq.1 hg_b61
  have hu := hk.un hH hu
  have hq := hq.mo hk
  have cz_b8 := ((hk.2 b8 (hHo.2.2 _ _ k_b8).1).2).trans cz_b8
  have cz_b17 := ((hk.2 b17 (hHo.2.2 _ _ k_b17).1).2).trans cz_b17
  have k_b8 := hk.ty hHo k_b8
  have k_b17 := hk.ty hHo k_b17
  have k_b26 := hk.ty hHo k_b26
  have k_b38 := hk.ty hHo k_b38
  have k_b45 := hk.ty hHo k_b45
  have k_b52 := hk.ty hHo k_b52
  have hu0 := hu
  refine hs_puti (ci := 11) (f := 17) (ty := .array .long) (v := .ref b61) (p := 66) (by decide +kernel) hu (Nat.le_of_ble_eq_true rfl) rfl (fun G63 hu he e2 => ?_)
  have hu : puc _ _ a (.inr (11, [.int 0, .ref b8, .ref b17, .int 0, .ref b26, .int 0, .int 0, .int 0, .int 0, .int 0, .int (-1), .ref b38, .int 0, .int 0, .ref b45, .ref b52, .int 0, .ref b61, .null, .null, .null, .null, .null, .int 0, .int 0, .int 0, .int 0, .int 0, .int 0, .int 0, .null, .null, .null, .null, .null, .null])) := hu
  have hq := hq.pt he e2
  have cz_b8 := (he b8 (puc_ne hu0 k_b8)).trans cz_b8
  have cz_b17 := (he b17 (puc_ne hu0 k_b17)).trans cz_b17
  refine hs_aload (i := 0) (p := 67) (by decide +kernel) rfl ?_
  refine hs_k (x := Int32.ofNat 4) (p := 68) (by decide +kernel) ?_
  have hHo := hu.1
  refine ht_nb (t := 25) (n := 4) (kd := 3) (p := 70) (by decide +kernel) rfl (by decide +kernel) ⟨by decide +kernel, by decide +kernel, by decide +kernel⟩ (by omega) (by omega) hu.1 (fun K68 G68 b68 hk hH k_b68 hg_b68 hz_b68 => ?_)
  have hg_b68 := Nat.le_trans hq.1 hg_b68
  have hu := hk.un hH hu
  have hq := hq.mo hk
  have cz_b8 := ((hk.2 b8 (hHo.2.2 _ _ k_b8).1).2).trans cz_b8
  have cz_b17 := ((hk.2 b17 (hHo.2.2 _ _ k_b17).1).2).trans cz_b17
  have k_b8 := hk.ty hHo k_b8
  have k_b17 := hk.ty hHo k_b17
  have k_b26 := hk.ty hHo k_b26
  have k_b38 := hk.ty hHo k_b38
  have k_b45 := hk.ty hHo k_b45
  have k_b52 := hk.ty hHo k_b52
  have k_b61 := hk.ty hHo k_b61
  have hu0 := hu
  refine hs_puti (ci := 11) (f := 18) (ty := .array .boolean) (v := .ref b68) (p := 73) (by decide +kernel) hu (Nat.le_of_ble_eq_true rfl) rfl (fun G70 hu he e2 => ?_)
  have hu : puc _ _ a (.inr (11, [.int 0, .ref b8, .ref b17, .int 0, .ref b26, .int 0, .int 0, .int 0, .int 0, .int 0, .int (-1), .ref b38, .int 0, .int 0, .ref b45, .ref b52, .int 0, .ref b61, .ref b68, .null, .null, .null, .null, .int 0, .int 0, .int 0, .int 0, .int 0, .int 0, .int 0, .null, .null, .null, .null, .null, .null])) := hu
  have hq := hq.pt he e2
  have cz_b8 := (he b8 (puc_ne hu0 k_b8)).trans cz_b8
  have cz_b17 := (he b17 (puc_ne hu0 k_b17)).trans cz_b17
  refine hs_aload (i := 0) (p := 74) (by decide +kernel) rfl ?_
  refine hs_k (x := Int32.ofNat 4096) (p := 77) (by decide +kernel) ?_
  have hHo := hu.1
  refine ht_nb (t := 30) (n := 4096) (kd := 2) (p := 79) (by decide +kernel) rfl (by decide +kernel) ⟨by decide +kernel, by decide +kernel, by decide +kernel⟩ (by omega) (by omega) hu.1 (fun K77 G77 b77 hk hH k_b77 hg_b77 hz_b77 => ?_)
  have hg_b77 := Nat.le_trans hq.1 hg_b77
  have hu := hk.un hH hu
  have hq := hq.mo hk
  have cz_b8 := ((hk.2 b8 (hHo.2.2 _ _ k_b8).1).2).trans cz_b8
  have cz_b17 := ((hk.2 b17 (hHo.2.2 _ _ k_b17).1).2).trans cz_b17
  have k_b8 := hk.ty hHo k_b8
  have k_b17 := hk.ty hHo k_b17
  have k_b26 := hk.ty hHo k_b26
  have k_b38 := hk.ty hHo k_b38
  have k_b45 := hk.ty hHo k_b45
  have k_b52 := hk.ty hHo k_b52
  have k_b61 := hk.ty hHo k_b61
  have k_b68 := hk.ty hHo k_b68
  have hu0 := hu
  refine hs_puti (ci := 11) (f := 19) (ty := .array .long) (v := .ref b77) (p := 82) (by decide +kernel) hu (Nat.le_of_ble_eq_true rfl) rfl (fun G79 hu he e2 => ?_)
  have hu : puc _ _ a (.inr (11, [.int 0, .ref b8, .ref b17, .int 0, .ref b26, .int 0, .int 0, .int 0, .int 0, .int 0, .int (-1), .ref b38, .int 0, .int 0, .ref b45, .ref b52, .int 0, .ref b61, .ref b68, .ref b77, .null, .null, .null, .int 0, .int 0, .int 0, .int 0, .int 0, .int 0, .int 0, .null, .null, .null, .null, .null, .null])) := hu
  have hq := hq.pt he e2
  have cz_b8 := (he b8 (puc_ne hu0 k_b8)).trans cz_b8
  have cz_b17 := (he b17 (puc_ne hu0 k_b17)).trans cz_b17
  refine hs_aload (i := 0) (p := 83) (by decide +kernel) rfl ?_
  refine hs_k (x := Int32.ofNat 120) (p := 85) (by decide +kernel) ?_
  have hHo := hu.1
  refine ht_nb (t := 20) (n := 120) (kd := 0) (p := 87) (by decide +kernel) rfl (by decide +kernel) ⟨by decide +kernel, by decide +kernel, by decide +kernel⟩ (by omega) (by omega) hu.1 (fun K85 G85 b85 hk hH k_b85 hg_b85 hz_b85 => ?_)
  have hg_b85 := Nat.le_trans hq.1 hg_b85
  have hu := hk.un hH hu
  have hq := hq.mo hk
  have cz_b8 := ((hk.2 b8 (hHo.2.2 _ _ k_b8).1).2).trans cz_b8
  have cz_b17 := ((hk.2 b17 (hHo.2.2 _ _ k_b17).1).2).trans cz_b17
  have k_b8 := hk.ty hHo k_b8
  have k_b17 := hk.ty hHo k_b17
  have k_b26 := hk.ty hHo k_b26
  have k_b38 := hk.ty hHo k_b38
  have k_b45 := hk.ty hHo k_b45
  have k_b52 := hk.ty hHo k_b52
  have k_b61 := hk.ty hHo k_b61
  have k_b68 := hk.ty hHo k_b68
  have k_b77 := hk.ty hHo k_b77
  have hu0 := hu
  refine hs_puti (ci := 11) (f := 20) (ty := .array .int) (v := .ref b85) (p := 90) (by decide +kernel) hu (Nat.le_of_ble_eq_true rfl) rfl (fun G87 hu he e2 => ?_)
  have hu : puc _ _ a (.inr (11, [.int 0, .ref b8, .ref b17, .int 0, .ref b26, .int 0, .int 0, .int 0, .int 0, .int 0, .int (-1), .ref b38, .int 0, .int 0, .ref b45, .ref b52, .int 0, .ref b61, .ref b68, .ref b77, .ref b85, .null, .null, .int 0, .int 0, .int 0, .int 0, .int 0, .int 0, .int 0, .null, .null, .null, .null, .null, .null])) := hu
  have hq := hq.pt he e2
  have cz_b8 := (he b8 (puc_ne hu0 k_b8)).trans cz_b8
  have cz_b17 := (he b17 (puc_ne hu0 k_b17)).trans cz_b17
  refine hs_aload (i := 0) (p := 91) (by decide +kernel) rfl ?_
  refine hs_k (x := Int32.ofNat 6) (p := 93) (by decide +kernel) ?_
  have hHo := hu.1
  refine ht_nb (t := 49) (n := 6) (kd := 0) (p := 95) (by decide +kernel) rfl (by decide +kernel) ⟨by decide +kernel, by decide +kernel, by decide +kernel⟩ (by omega) (by omega) hu.1 (fun K93 G93 b93 hk hH k_b93 hg_b93 hz_b93 => ?_)
  have hg_b93 := Nat.le_trans hq.1 hg_b93
  have hu := hk.un hH hu
  have hq := hq.mo hk
  have cz_b8 := ((hk.2 b8 (hHo.2.2 _ _ k_b8).1).2).trans cz_b8
  have cz_b17 := ((hk.2 b17 (hHo.2.2 _ _ k_b17).1).2).trans cz_b17
  have k_b8 := hk.ty hHo k_b8
  have k_b17 := hk.ty hHo k_b17
  have k_b26 := hk.ty hHo k_b26
  have k_b38 := hk.ty hHo k_b38
  have k_b45 := hk.ty hHo k_b45
  have k_b52 := hk.ty hHo k_b52
  have k_b61 := hk.ty hHo k_b61
  have k_b68 := hk.ty hHo k_b68
  have k_b77 := hk.ty hHo k_b77
  have k_b85 := hk.ty hHo k_b85
  have hu0 := hu
  refine hs_puti (ci := 11) (f := 21) (ty := .array .int) (v := .ref b93) (p := 98) (by decide +kernel) hu (Nat.le_of_ble_eq_true rfl) rfl (fun G95 hu he e2 => ?_)
  have hu : puc _ _ a (.inr (11, [.int 0, .ref b8, .ref b17, .int 0, .ref b26, .int 0, .int 0, .int 0, .int 0, .int 0, .int (-1), .ref b38, .int 0, .int 0, .ref b45, .ref b52, .int 0, .ref b61, .ref b68, .ref b77, .ref b85, .ref b93, .null, .int 0, .int 0, .int 0, .int 0, .int 0, .int 0, .int 0, .null, .null, .null, .null, .null, .null])) := hu
  have hq := hq.pt he e2
  have cz_b8 := (he b8 (puc_ne hu0 k_b8)).trans cz_b8
  have cz_b17 := (he b17 (puc_ne hu0 k_b17)).trans cz_b17
  refine hs_aload (i := 0) (p := 99) (by decide +kernel) rfl ?_
  refine hs_k (x := Int32.ofNat 6) (p := 101) (by decide +kernel) ?_
  have hHo := hu.1
  refine ht_nb (t := 50) (n := 6) (kd := 0) (p := 103) (by decide +kernel) rfl (by decide +kernel) ⟨by decide +kernel, by decide +kernel, by decide +kernel⟩ (by omega) (by omega) hu.1 (fun K101 G101 b101 hk hH k_b101 hg_b101 hz_b101 => ?_)
  have hg_b101 := Nat.le_trans hq.1 hg_b101
  have hu := hk.un hH hu
  have hq := hq.mo hk
  have cz_b8 := ((hk.2 b8 (hHo.2.2 _ _ k_b8).1).2).trans cz_b8
  have cz_b17 := ((hk.2 b17 (hHo.2.2 _ _ k_b17).1).2).trans cz_b17
  have k_b8 := hk.ty hHo k_b8
  have k_b17 := hk.ty hHo k_b17
  have k_b26 := hk.ty hHo k_b26
  have k_b38 := hk.ty hHo k_b38
  have k_b45 := hk.ty hHo k_b45
  have k_b52 := hk.ty hHo k_b52
  have k_b61 := hk.ty hHo k_b61
  have k_b68 := hk.ty hHo k_b68
  have k_b77 := hk.ty hHo k_b77
  have k_b85 := hk.ty hHo k_b85
  have k_b93 := hk.ty hHo k_b93
  have hu0 := hu
  refine hs_puti (ci := 11) (f := 22) (ty := .array .int) (v := .ref b101) (p := 106) (by decide +kernel) hu (Nat.le_of_ble_eq_true rfl) rfl (fun G103 hu he e2 => ?_)
  have hu : puc _ _ a (.inr (11, [.int 0, .ref b8, .ref b17, .int 0, .ref b26, .int 0, .int 0, .int 0, .int 0, .int 0, .int (-1), .ref b38, .int 0, .int 0, .ref b45, .ref b52, .int 0, .ref b61, .ref b68, .ref b77, .ref b85, .ref b93, .ref b101, .int 0, .int 0, .int 0, .int 0, .int 0, .int 0, .int 0, .null, .null, .null, .null, .null, .null])) := hu
  have hq := hq.pt he e2
  have cz_b8 := (he b8 (puc_ne hu0 k_b8)).trans cz_b8
  have cz_b17 := (he b17 (puc_ne hu0 k_b17)).trans cz_b17
  refine hs_aload (i := 0) (p := 107) (by decide +kernel) rfl ?_
  refine hs_kld (v := .int (Int32.ofNat 65536)) (p := 109) (by decide +kernel) ?_
  have hHo := hu.1
  refine ht_nb (t := 35) (n := 65536) (kd := 0) (p := 111) (by decide +kernel) rfl (by decide +kernel) ⟨by decide +kernel, by decide +kernel, by decide +kernel⟩ (by omega) (by omega) hu.1 (fun K109 G109 b109 hk hH k_b109 hg_b109 hz_b109 => ?_)
  have hg_b109 := Nat.le_trans hq.1 hg_b109
  have hu := hk.un hH hu
  have hq := hq.mo hk
  have cz_b8 := ((hk.2 b8 (hHo.2.2 _ _ k_b8).1).2).trans cz_b8
  have cz_b17 := ((hk.2 b17 (hHo.2.2 _ _ k_b17).1).2).trans cz_b17
  have k_b8 := hk.ty hHo k_b8
  have k_b17 := hk.ty hHo k_b17
  have k_b26 := hk.ty hHo k_b26
  have k_b38 := hk.ty hHo k_b38
  have k_b45 := hk.ty hHo k_b45
  have k_b52 := hk.ty hHo k_b52
  have k_b61 := hk.ty hHo k_b61
  have k_b68 := hk.ty hHo k_b68
  have k_b77 := hk.ty hHo k_b77
  have k_b85 := hk.ty hHo k_b85
  have k_b93 := hk.ty hHo k_b93
  have k_b101 := hk.ty hHo k_b101
  have hu0 := hu
  refine hs_puti (ci := 11) (f := 30) (ty := .array .int) (v := .ref b109) (p := 114) (by decide +kernel) hu (Nat.le_of_ble_eq_true rfl) rfl (fun G111 hu he e2 => ?_)
  have hu : puc _ _ a (.inr (11, [.int 0, .ref b8, .ref b17, .int 0, .ref b26, .int 0, .int 0, .int 0, .int 0, .int 0, .int (-1), .ref b38, .int 0, .int 0, .ref b45, .ref b52, .int 0, .ref b61, .ref b68, .ref b77, .ref b85, .ref b93, .ref b101, .int 0, .int 0, .int 0, .int 0, .int 0, .int 0, .int 0, .ref b109, .null, .null, .null, .null, .null])) := hu
  have hq := hq.pt he e2
  have cz_b8 := (he b8 (puc_ne hu0 k_b8)).trans cz_b8
  have cz_b17 := (he b17 (puc_ne hu0 k_b17)).trans cz_b17
  refine hs_aload (i := 0) (p := 115) (by decide +kernel) rfl ?_
  refine hs_kld (v := .int (Int32.ofNat 65536)) (p := 117) (by decide +kernel) ?_
  have hHo := hu.1
  refine ht_nb (t := 48) (n := 65536) (kd := 0) (p := 119) (by decide +kernel) rfl (by decide +kernel) ⟨by decide +kernel, by decide +kernel, by decide +kernel⟩ (by omega) (by omega) hu.1 (fun K117 G117 b117 hk hH k_b117 hg_b117 hz_b117 => ?_)
  have hg_b117 := Nat.le_trans hq.1 hg_b117
  have hu := hk.un hH hu
  have hq := hq.mo hk
  have cz_b8 := ((hk.2 b8 (hHo.2.2 _ _ k_b8).1).2).trans cz_b8
  have cz_b17 := ((hk.2 b17 (hHo.2.2 _ _ k_b17).1).2).trans cz_b17
  have k_b8 := hk.ty hHo k_b8
  have k_b17 := hk.ty hHo k_b17
  have k_b26 := hk.ty hHo k_b26
  have k_b38 := hk.ty hHo k_b38
  have k_b45 := hk.ty hHo k_b45
  have k_b52 := hk.ty hHo k_b52
  have k_b61 := hk.ty hHo k_b61
  have k_b68 := hk.ty hHo k_b68
  have k_b77 := hk.ty hHo k_b77
  have k_b85 := hk.ty hHo k_b85
  have k_b93 := hk.ty hHo k_b93
  have k_b101 := hk.ty hHo k_b101
  have k_b109 := hk.ty hHo k_b109
  have hu0 := hu
  refine hs_puti (ci := 11) (f := 31) (ty := .array .int) (v := .ref b117) (p := 122) (by decide +kernel) hu (Nat.le_of_ble_eq_true rfl) rfl (fun G119 hu he e2 => ?_)
  have hu : puc _ _ a (.inr (11, [.int 0, .ref b8, .ref b17, .int 0, .ref b26, .int 0, .int 0, .int 0, .int 0, .int 0, .int (-1), .ref b38, .int 0, .int 0, .ref b45, .ref b52, .int 0, .ref b61, .ref b68, .ref b77, .ref b85, .ref b93, .ref b101, .int 0, .int 0, .int 0, .int 0, .int 0, .int 0, .int 0, .ref b109, .ref b117, .null, .null, .null, .null])) := hu
  have hq := hq.pt he e2
  have cz_b8 := (he b8 (puc_ne hu0 k_b8)).trans cz_b8
  have cz_b17 := (he b17 (puc_ne hu0 k_b17)).trans cz_b17
  refine hs_aload (i := 0) (p := 123) (by decide +kernel) rfl ?_
  refine hs_kld (v := .int (Int32.ofNat 32769)) (p := 125) (by decide +kernel) ?_
  have hHo := hu.1
  refine ht_nb (t := 22) (n := 32769) (kd := 0) (p := 127) (by decide +kernel) rfl (by decide +kernel) ⟨by decide +kernel, by decide +kernel, by decide +kernel⟩ (by omega) (by omega) hu.1 (fun K125 G125 b125 hk hH k_b125 hg_b125 hz_b125 => ?_)
  have hg_b125 := Nat.le_trans hq.1 hg_b125
  have hu := hk.un hH hu
  have hq := hq.mo hk
  have cz_b8 := ((hk.2 b8 (hHo.2.2 _ _ k_b8).1).2).trans cz_b8
  have cz_b17 := ((hk.2 b17 (hHo.2.2 _ _ k_b17).1).2).trans cz_b17
  have k_b8 := hk.ty hHo k_b8
  have k_b17 := hk.ty hHo k_b17
  have k_b26 := hk.ty hHo k_b26
  have k_b38 := hk.ty hHo k_b38
  have k_b45 := hk.ty hHo k_b45
  have k_b52 := hk.ty hHo k_b52
  have k_b61 := hk.ty hHo k_b61
  have k_b68 := hk.ty hHo k_b68
  have k_b77 := hk.ty hHo k_b77
  have k_b85 := hk.ty hHo k_b85
  have k_b93 := hk.ty hHo k_b93
  have k_b101 := hk.ty hHo k_b101
  have k_b109 := hk.ty hHo k_b109
  have k_b117 := hk.ty hHo k_b117
  have hu0 := hu
  refine hs_puti (ci := 11) (f := 32) (ty := .array .int) (v := .ref b125) (p := 130) (by decide +kernel) hu (Nat.le_of_ble_eq_true rfl) rfl (fun G127 hu he e2 => ?_)
  have hu : puc _ _ a (.inr (11, [.int 0, .ref b8, .ref b17, .int 0, .ref b26, .int 0, .int 0, .int 0, .int 0, .int 0, .int (-1), .ref b38, .int 0, .int 0, .ref b45, .ref b52, .int 0, .ref b61, .ref b68, .ref b77, .ref b85, .ref b93, .ref b101, .int 0, .int 0, .int 0, .int 0, .int 0, .int 0, .int 0, .ref b109, .ref b117, .ref b125, .null, .null, .null])) := hu
  have hq := hq.pt he e2
  have cz_b8 := (he b8 (puc_ne hu0 k_b8)).trans cz_b8
  have cz_b17 := (he b17 (puc_ne hu0 k_b17)).trans cz_b17
  refine hs_aload (i := 0) (p := 131) (by decide +kernel) rfl ?_
  refine hs_k (x := Int32.ofNat 5) (p := 132) (by decide +kernel) ?_
  have hHo := hu.1
  refine ht_nb (t := 36) (n := 5) (kd := 0) (p := 134) (by decide +kernel) rfl (by decide +kernel) ⟨by decide +kernel, by decide +kernel, by decide +kernel⟩ (by omega) (by omega) hu.1 (fun K132 G132 b132 hk hH k_b132 hg_b132 hz_b132 => ?_)
  have hg_b132 := Nat.le_trans hq.1 hg_b132
  have hu := hk.un hH hu
  have hq := hq.mo hk
  have cz_b8 := ((hk.2 b8 (hHo.2.2 _ _ k_b8).1).2).trans cz_b8
  have cz_b17 := ((hk.2 b17 (hHo.2.2 _ _ k_b17).1).2).trans cz_b17
  have k_b8 := hk.ty hHo k_b8
  have k_b17 := hk.ty hHo k_b17
  have k_b26 := hk.ty hHo k_b26
  have k_b38 := hk.ty hHo k_b38
  have k_b45 := hk.ty hHo k_b45
  have k_b52 := hk.ty hHo k_b52
  have k_b61 := hk.ty hHo k_b61
  have k_b68 := hk.ty hHo k_b68
  have k_b77 := hk.ty hHo k_b77
  have k_b85 := hk.ty hHo k_b85
  have k_b93 := hk.ty hHo k_b93
  have k_b101 := hk.ty hHo k_b101
  have k_b109 := hk.ty hHo k_b109
  have k_b117 := hk.ty hHo k_b117
  have k_b125 := hk.ty hHo k_b125
  have hu0 := hu
  refine hs_puti (ci := 11) (f := 33) (ty := .array .int) (v := .ref b132) (p := 137) (by decide +kernel) hu (Nat.le_of_ble_eq_true rfl) rfl (fun G134 hu he e2 => ?_)
  have hu : puc _ _ a (.inr (11, [.int 0, .ref b8, .ref b17, .int 0, .ref b26, .int 0, .int 0, .int 0, .int 0, .int 0, .int (-1), .ref b38, .int 0, .int 0, .ref b45, .ref b52, .int 0, .ref b61, .ref b68, .ref b77, .ref b85, .ref b93, .ref b101, .int 0, .int 0, .int 0, .int 0, .int 0, .int 0, .int 0, .ref b109, .ref b117, .ref b125, .ref b132, .null, .null])) := hu
  have hq := hq.pt he e2
  have cz_b8 := (he b8 (puc_ne hu0 k_b8)).trans cz_b8
  have cz_b17 := (he b17 (puc_ne hu0 k_b17)).trans cz_b17
  refine hs_aload (i := 0) (p := 138) (by decide +kernel) rfl ?_
  refine hs_k (x := Int32.ofNat 23) (p := 140) (by decide +kernel) ?_
  have hHo := hu.1
  refine ht_nb (t := 18) (n := 23) (kd := 0) (p := 142) (by decide +kernel) rfl (by decide +kernel) ⟨by decide +kernel, by decide +kernel, by decide +kernel⟩ (by omega) (by omega) hu.1 (fun K140 G140 b140 hk hH k_b140 hg_b140 hz_b140 => ?_)
  have hg_b140 := Nat.le_trans hq.1 hg_b140
  have hu := hk.un hH hu
  have hq := hq.mo hk
  have cz_b8 := ((hk.2 b8 (hHo.2.2 _ _ k_b8).1).2).trans cz_b8
  have cz_b17 := ((hk.2 b17 (hHo.2.2 _ _ k_b17).1).2).trans cz_b17
  have k_b8 := hk.ty hHo k_b8
  have k_b17 := hk.ty hHo k_b17
  have k_b26 := hk.ty hHo k_b26
  have k_b38 := hk.ty hHo k_b38
  have k_b45 := hk.ty hHo k_b45
  have k_b52 := hk.ty hHo k_b52
  have k_b61 := hk.ty hHo k_b61
  have k_b68 := hk.ty hHo k_b68
  have k_b77 := hk.ty hHo k_b77
  have k_b85 := hk.ty hHo k_b85
  have k_b93 := hk.ty hHo k_b93
  have k_b101 := hk.ty hHo k_b101
  have k_b109 := hk.ty hHo k_b109
  have k_b117 := hk.ty hHo k_b117
  have k_b125 := hk.ty hHo k_b125
  have k_b132 := hk.ty hHo k_b132
  have hu0 := hu
  refine hs_puti (ci := 11) (f := 34) (ty := .array .int) (v := .ref b140) (p := 145) (by decide +kernel) hu (Nat.le_of_ble_eq_true rfl) rfl (fun G142 hu he e2 => ?_)
  have hu : puc _ _ a (.inr (11, [.int 0, .ref b8, .ref b17, .int 0, .ref b26, .int 0, .int 0, .int 0, .int 0, .int 0, .int (-1), .ref b38, .int 0, .int 0, .ref b45, .ref b52, .int 0, .ref b61, .ref b68, .ref b77, .ref b85, .ref b93, .ref b101, .int 0, .int 0, .int 0, .int 0, .int 0, .int 0, .int 0, .ref b109, .ref b117, .ref b125, .ref b132, .ref b140, .null])) := hu
  have hq := hq.pt he e2
  have cz_b8 := (he b8 (puc_ne hu0 k_b8)).trans cz_b8
  have cz_b17 := (he b17 (puc_ne hu0 k_b17)).trans cz_b17
  refine hs_aload (i := 0) (p := 146) (by decide +kernel) rfl ?_
  refine hs_k (x := Int32.ofNat 31) (p := 148) (by decide +kernel) ?_
  have hHo := hu.1
  refine ht_nb (t := 19) (n := 31) (kd := 0) (p := 150) (by decide +kernel) rfl (by decide +kernel) ⟨by decide +kernel, by decide +kernel, by decide +kernel⟩ (by omega) (by omega) hu.1 (fun K148 G148 b148 hk hH k_b148 hg_b148 hz_b148 => ?_)
  have hg_b148 := Nat.le_trans hq.1 hg_b148
  have hu := hk.un hH hu
  have hq := hq.mo hk
  have cz_b8 := ((hk.2 b8 (hHo.2.2 _ _ k_b8).1).2).trans cz_b8
  have cz_b17 := ((hk.2 b17 (hHo.2.2 _ _ k_b17).1).2).trans cz_b17
  have k_b8 := hk.ty hHo k_b8
  have k_b17 := hk.ty hHo k_b17
  have k_b26 := hk.ty hHo k_b26
  have k_b38 := hk.ty hHo k_b38
  have k_b45 := hk.ty hHo k_b45
  have k_b52 := hk.ty hHo k_b52
  have k_b61 := hk.ty hHo k_b61
  have k_b68 := hk.ty hHo k_b68
  have k_b77 := hk.ty hHo k_b77
  have k_b85 := hk.ty hHo k_b85
  have k_b93 := hk.ty hHo k_b93
  have k_b101 := hk.ty hHo k_b101
  have k_b109 := hk.ty hHo k_b109
  have k_b117 := hk.ty hHo k_b117
  have k_b125 := hk.ty hHo k_b125
  have k_b132 := hk.ty hHo k_b132
  have k_b140 := hk.ty hHo k_b140
  have hu0 := hu
  refine hs_puti (ci := 11) (f := 35) (ty := .array .int) (v := .ref b148) (p := 153) (by decide +kernel) hu (Nat.le_of_ble_eq_true rfl) rfl (fun G150 hu he e2 => ?_)
  have hu : puc _ _ a (.inr (11, [.int 0, .ref b8, .ref b17, .int 0, .ref b26, .int 0, .int 0, .int 0, .int 0, .int 0, .int (-1), .ref b38, .int 0, .int 0, .ref b45, .ref b52, .int 0, .ref b61, .ref b68, .ref b77, .ref b85, .ref b93, .ref b101, .int 0, .int 0, .int 0, .int 0, .int 0, .int 0, .int 0, .ref b109, .ref b117, .ref b125, .ref b132, .ref b140, .ref b148])) := hu
  have hq := hq.pt he e2
  have cz_b8 := (he b8 (puc_ne hu0 k_b8)).trans cz_b8
  have cz_b17 := (he b17 (puc_ne hu0 k_b17)).trans cz_b17
  obtain ⟨hHt, kt⟩ := puc_typ (t := 13) hu (by decide) rfl ⟨_, rfl, rfl, fun k p hk => by
      match k, hk with
      | 0, hk => cases hk; exact ⟨_, rfl, .inr ⟨_, rfl, by decide, by decide⟩⟩
      | 1, hk => cases hk; exact ⟨_, rfl, .inr (.inr ⟨by decide, _, rfl, k_b8⟩)⟩
      | 2, hk => cases hk; exact ⟨_, rfl, .inr (.inr ⟨by decide, _, rfl, k_b17⟩)⟩
      | 3, hk => cases hk; exact ⟨_, rfl, .inr ⟨_, rfl, by decide, by decide⟩⟩
      | 4, hk => cases hk; exact ⟨_, rfl, .inr (.inr ⟨by decide, _, rfl, k_b26⟩)⟩
      | 5, hk => cases hk; exact ⟨_, rfl, .inr ⟨_, rfl, by decide, by decide⟩⟩
      | 6, hk => cases hk; exact ⟨_, rfl, .inr ⟨_, rfl, by decide, by decide⟩⟩
      | 7, hk => cases hk; exact ⟨_, rfl, .inr ⟨_, rfl, by decide, by decide⟩⟩
      | 8, hk => cases hk; exact ⟨_, rfl, .inr ⟨_, rfl, by decide, by decide⟩⟩
      | 9, hk => cases hk; exact ⟨_, rfl, .inr ⟨_, rfl, by decide, by decide⟩⟩
      | 10, hk => cases hk; exact ⟨_, rfl, .inr ⟨_, rfl, by decide, by decide⟩⟩
      | 11, hk => cases hk; exact ⟨_, rfl, .inr (.inr ⟨by decide, _, rfl, k_b38⟩)⟩
      | 12, hk => cases hk; exact ⟨_, rfl, .inr ⟨_, rfl, by decide, by decide⟩⟩
      | 13, hk => cases hk; exact ⟨_, rfl, .inr ⟨_, rfl, by decide, by decide⟩⟩
      | 14, hk => cases hk; exact ⟨_, rfl, .inr (.inr ⟨by decide, _, rfl, k_b45⟩)⟩
      | 15, hk => cases hk; exact ⟨_, rfl, .inr (.inr ⟨by decide, _, rfl, k_b52⟩)⟩
      | 16, hk => cases hk; exact ⟨_, rfl, .inr ⟨_, rfl, by decide, by decide⟩⟩
      | 17, hk => cases hk; exact ⟨_, rfl, .inr (.inr ⟨by decide, _, rfl, k_b61⟩)⟩
      | 18, hk => cases hk; exact ⟨_, rfl, .inr (.inr ⟨by decide, _, rfl, k_b68⟩)⟩
      | 19, hk => cases hk; exact ⟨_, rfl, .inr (.inr ⟨by decide, _, rfl, k_b77⟩)⟩
      | 20, hk => cases hk; exact ⟨_, rfl, .inr (.inr ⟨by decide, _, rfl, k_b85⟩)⟩
      | 21, hk => cases hk; exact ⟨_, rfl, .inr (.inr ⟨by decide, _, rfl, k_b93⟩)⟩
      | 22, hk => cases hk; exact ⟨_, rfl, .inr (.inr ⟨by decide, _, rfl, k_b101⟩)⟩
      | 23, hk => cases hk; exact ⟨_, rfl, .inr ⟨_, rfl, by decide, by decide⟩⟩
      | 24, hk => cases hk; exact ⟨_, rfl, .inr ⟨_, rfl, by decide, by decide⟩⟩
      | 25, hk => cases hk; exact ⟨_, rfl, .inr ⟨_, rfl, by decide, by decide⟩⟩
      | 26, hk => cases hk; exact ⟨_, rfl, .inr ⟨_, rfl, by decide, by decide⟩⟩
      | 27, hk => cases hk; exact ⟨_, rfl, .inr ⟨_, rfl, by decide, by decide⟩⟩
      | 28, hk => cases hk; exact ⟨_, rfl, .inr ⟨_, rfl, by decide, by decide⟩⟩
      | 29, hk => cases hk; exact ⟨_, rfl, .inr ⟨_, rfl, by decide, by decide⟩⟩
      | 30, hk => cases hk; exact ⟨_, rfl, .inr (.inr ⟨by decide, _, rfl, k_b109⟩)⟩
      | 31, hk => cases hk; exact ⟨_, rfl, .inr (.inr ⟨by decide, _, rfl, k_b117⟩)⟩
      | 32, hk => cases hk; exact ⟨_, rfl, .inr (.inr ⟨by decide, _, rfl, k_b125⟩)⟩
      | 33, hk => cases hk; exact ⟨_, rfl, .inr (.inr ⟨by decide, _, rfl, k_b132⟩)⟩
      | 34, hk => cases hk; exact ⟨_, rfl, .inr (.inr ⟨by decide, _, rfl, k_b140⟩)⟩
      | 35, hk => cases hk; exact ⟨_, rfl, .inr (.inr ⟨by decide, _, rfl, k_b148⟩)⟩
      | n + 36, hk => cases hk⟩ ⟨fun h => absurd h (by decide), fun _ s x y h1 _ _ h4 => by
      have h1 : some (Value.int 0) = some (.int s) := h1
      cases h1
      exact absurd rfl h4⟩
  refine hs_vret (by decide +kernel) ?_
  exact ⟨_, hq.ty (.inl rfl), hHt, kt, rfl, rfl, rfl, ⟨by rw [hu.2.2.2.2]; rfl, by rw [hu.2.2.2.2]; rfl, b8, b17, by rw [hu.2.2.2.2]; rfl, by rw [hu.2.2.2.2]; rfl, et_kn_k hu k_b8, et_kn_k hu k_b17, cz_b8, cz_b17⟩⟩
end PPF
