/-! BY HAND, OVER A TYPED HEAP: steps that keep the types -/
section HTA
variable {d k pc ck sk : Nat} {L : eg_Ls} {st r : List Value} {G : eg_G} {Z : eg_O → Prop}
def hs_cm (k pc : Nat) : Option (Nat × Nat) := match eg_cd k pc with
  | some (.invokestatic i, _) => (match (eg_mT.getD (eg_mo k) []).lookup i with
    | some (mi, kd, _) => if kd = 0 ∧ 309 ≤ mi ∧ mi ≤ 313 then some (mi, eg_mL k) else none
    | none => none)
  | _ => none
theorem hs_math {mi lk p : Nat} {v : Value} (hc : hs_cm k pc = some (mi, lk)) (hm : eg_mt mi st = some (v, r)) (hL : L.length = lk) (hr : Nat.ble (eg_cat r) 8 = true) (hp : p = pc + 3) (h : et_go none d k p L (v :: r) G ck sk Z) : et_go none d k pc L st G ck sk Z := by
  subst hp
  unfold hs_cm at hc
  split at hc
  · rename_i i _ e
    split at hc
    · rename_i mi' kd x hmt
      split at hc
      · rename_i h0
        cases hc
        refine et_goS (fun q => ?_) h
        unfold eg_one
        rw [e]
        dsimp only
        rw [et_rr_no (ins := .invokestatic i) (fun h => nomatch (show false = true from h))]
        dsimp only
        rw [hs_sc]
        dsimp only
        show eg_iv (eg_rn q) none d k pc 0 i L st G ck sk = _
        rw [et_v0 hmt, if_pos h0, hm]
        dsimp only
        rw [if_pos ⟨Nat.le_of_ble_eq_true hr, hL⟩]
      · cases hc
    · cases hc
  · cases hc
end HTA
section HTB
variable {T : List et_D} {M : et_M} {K : et_K} {d k pc ck sk : Nat} {L : eg_Ls} {st r : List Value} {G : eg_G} {Z : eg_O → Prop} {a t ci f p : Nat} {ps : List et_P}
theorem ht_get {q : et_P} (hc : hs_fi k pc = some (ci, f, p)) (hT : T[t]? = some (.inl (ci, ps))) (hp : ps[f]? = some q) (hs : et_sk q = false) (hH : et_H T K G) (ha : K a = some t) (h : ∀ v, et_v K q v → et_pl (eg_at G a) f = some v → et_go none d k p L (v :: r) G ck sk Z) : et_go none d k pc L (.ref a :: r) G ck sk Z := by
  obtain ⟨g1, -, -, dd, hd, hcc, -⟩ := hH.2.2 a t ha
  rw [hT] at hd
  cases hd
  obtain ⟨fs, e, el, ef⟩ := hcc
  obtain ⟨v, h1, h2⟩ := ef f q hp
  have h2 : et_v K q v := h2.resolve_left (fun h => by rw [hs] at h; cases h)
  exact hs_get hc e g1 h1 (h v h2 (by rw [e]; exact h1))
theorem ht_geti {lo hi : Int} (hc : hs_fi k pc = some (ci, f, p)) (hT : T[t]? = some (.inl (ci, ps))) (hp : ps[f]? = some (.inl (lo, hi))) (hH : et_H T K G) (ha : K a = some t) (h : ∀ x : Int32, lo ≤ x.toInt → x.toInt ≤ hi → et_pl (eg_at G a) f = some (.int x) → et_go none d k p L (.int x :: r) G ck sk Z) : et_go none d k pc L (.ref a :: r) G ck sk Z :=
  ht_get hc hT hp rfl hH ha (fun v hv e => by
    obtain ⟨x, rfl, h1, h2⟩ := hv
    exact h x h1 h2 e)
theorem ht_getn {hi : Int} (hc : hs_fi k pc = some (ci, f, p)) (hT : T[t]? = some (.inl (ci, ps))) (hp : ps[f]? = some (.inl (0, hi))) (hH : et_H T K G) (ha : K a = some t) (h : ∀ c : Nat, (c : Int) ≤ hi → et_pl (eg_at G a) f = some (.int (Int32.ofNat c)) → et_go none d k p L (.int (Int32.ofNat c) :: r) G ck sk Z) : et_go none d k pc L (.ref a :: r) G ck sk Z :=
  ht_get hc hT hp rfl hH ha (fun v hv e => by
    obtain ⟨c, h1, rfl⟩ := hi_nat hv
    exact h c h1 e)
theorem ht_getr {u : Nat} (hc : hs_fi k pc = some (ci, f, p)) (hT : T[t]? = some (.inl (ci, ps))) (hp : ps[f]? = some (.inr (.inr (0, u)))) (hH : et_H T K G) (ha : K a = some t) (h : ∀ b, K b = some u → et_pl (eg_at G a) f = some (.ref b) → et_go none d k p L (.ref b :: r) G ck sk Z) : et_go none d k pc L (.ref a :: r) G ck sk Z :=
  ht_get hc hT hp rfl hH ha (fun v hv e => by
    obtain ⟨b, rfl, h1⟩ := hi_ref hv
    exact h b h1 e)
theorem ht_put {q : et_P} {ty : FieldType} {v : Value} (hc : hs_pi k pc = some (ci, f, ty, p)) (hT : T[t]? = some (.inl (ci, ps))) (hp : ps[f]? = some q) (ht : Nat.ble 2 t = true) (hf : eg_fit ty v = true) (hx : et_px (.inl (ci, ps)) f = false) (hM : et_mm M t f = true) (hH : et_H T K G) (ha : K a = some t) (hv : et_v K q v) (h : ∀ G', et_H T K G' → et_fr M K G G' → et_pl (eg_at G' a) f = some v → et_go none d k p L r G' ck sk Z) : et_go none d k pc L (v :: .ref a :: r) G ck sk Z := by
  have ht := Nat.le_of_ble_eq_true ht
  obtain ⟨g1, -, g3, dd, hd, hcc, hcx⟩ := hH.2.2 a t ha
  rw [hT] at hd
  cases hd
  obtain ⟨fs, e, el, ef⟩ := hcc
  have hlt : f < fs.length := by rw [el]; exact (List.getElem?_eq_some_iff.mp hp).1
  have hpl : ∀ i, ¬ i = f → et_pl (.inr (ci, fs.set f v)) i = et_pl (eg_at G a) i := fun i hi => by
    rw [e]
    show (fs.set f v)[i]? = fs[i]?
    rw [List.getElem?_set_ne (fun h => hi h.symm)]
  refine hs_put hc e ⟨g3 ht, g1⟩ hlt hf (h _ (et_H_u hH ha ht hT ⟨_, rfl, by rw [List.length_set]; exact el, fun j p2 hj => ?_⟩ (et_cx_u (K := K) hcx ⟨fs, e, el, ef⟩ (fun i hi => hpl i (fun h => by
    rw [h, hx] at hi
    cases hi)))) (hi_frM hH ha ht (fun i hi => hpl i (fun h => by
    rw [h, hM] at hi
    cases hi))) ?_)
  · by_cases e2 : f = j
    · subst e2
      rw [hp] at hj
      cases hj
      exact ⟨v, List.getElem?_set_self hlt, .inr hv⟩
    · rw [List.getElem?_set_ne e2]
      exact ef j p2 hj
  · rw [et_at_us (g3 ht)]
    exact List.getElem?_set_self hlt
/-- int arrays -/
theorem ht_ild {n N : Nat} {ss : List (Nat × Nat × et_P)} (hc : hs_o k pc = some (.iaload, p)) (hT : T[t]? = some (.inr (0, N, ss))) (hH : et_H T K G) (ha : K a = some t) (hn : n < N) (hN : N < 2147483648) (h : ∀ x : Int32, (∀ s ∈ ss, s.1 ≤ n → n ≤ s.2.1 → et_v K s.2.2 (.int x)) → et_pl (eg_at G a) n = some (.int x) → et_go none d k p L (.int x :: r) G ck sk Z) : et_go none d k pc L (.int (Int32.ofNat n) :: .ref a :: r) G ck sk Z := by
  obtain ⟨f, e, h1, -⟩ := hi_arr hH ha hT (by omega) (.inl rfl)
  refine hs_iald hc e (hH.2.2 a t ha).1 hN hn (h _ (fun s hs i1 i2 => h1 s hs n i1 i2 hn) ?_)
  rw [e]
  show (if n < N then some (Value.int (f n)) else none) = _
  rw [if_pos hn]
theorem ht_ist {n N : Nat} {x : Int32} {ss : List (Nat × Nat × et_P)} (hc : hs_o k pc = some (.iastore, p)) (hT : T[t]? = some (.inr (0, N, ss))) (ht : Nat.ble 2 t = true) (hpx : N ≠ 12741 ∧ N ≠ 11900) (hH : et_H T K G) (ha : K a = some t) (hn : n < N) (hN : N < 2147483648) (hs : ∀ s ∈ ss, s.1 ≤ n → n ≤ s.2.1 → et_v K s.2.2 (.int x)) (hM : et_mm M t n = true) (h : ∀ G', et_H T K G' → et_fr M K G G' → et_go none d k p L r G' ck sk Z) : et_go none d k pc L (.int x :: .int (Int32.ofNat n) :: .ref a :: r) G ck sk Z := by
  have ht := Nat.le_of_ble_eq_true ht
  obtain ⟨f, e, h1, -⟩ := hi_arr hH ha hT (by omega) (.inl rfl)
  have g := hi_at hH ha ht
  refine hs_iast hc e g hN hn (h _ (hi_uarr hH ha ht hT (.inl rfl) (fun s hs' i i1 i2 i3 => ?_) (fun _ h => by omega)) (hi_frM hH ha ht (fun i hi => ?_)))
  · by_cases ei : i = n
    · subst ei
      rw [hs_us]
      exact hs s hs' i1 i2
    · rw [hs_un ei]
      exact h1 s hs' i i1 i2 i3
  · rw [e]
    have ei : i ≠ n := fun h => by
      rw [h, hM] at hi
      cases hi
    show (if i < N then some (Value.int (upd f n x i)) else none) = (if i < N then some (Value.int (f i)) else none)
    rw [hs_un ei]
/-- a call by its contract, that answers a value -/
theorem hs_cbv {w : et_Wd} {q : et_P} {u : eg_O} {c s : Nat} (hu : hi_Z T w M [(.inl (some q), c, s)] u) (h : ∀ (v : Value) (K' : et_K) (G' : eg_G) (c' s' : Nat), et_ex w.1 K' → et_fr M w.1 w.2.2 G' → et_H T K' G' → et_v K' q v → c' ≤ c → s' ≤ s → et_go none d k (pc + 3) L (v :: r) G' (ck + c') (sk + s') Z) : hs_cont d k pc L r ck sk Z u := by
  obtain ⟨e, he, K', h1, h2, h3, h4, h5, h6⟩ := hu
  obtain rfl := List.mem_singleton.mp he
  obtain ⟨v, hv1, hv2⟩ := h4
  obtain ⟨u1, u2, u3, u4⟩ := u
  have hv1 : u1 = .inl (some v) := hv1
  subst hv1
  exact hs_cb (h v K' u2 u3 u4 h1 h2 h3 hv2 h5 h6)
theorem hs_cbn {w : et_Wd} {u : eg_O} {c s : Nat} (hu : hi_Z T w M [(.inl none, c, s)] u) (h : ∀ (K' : et_K) (G' : eg_G) (c' s' : Nat), et_ex w.1 K' → et_fr M w.1 w.2.2 G' → et_H T K' G' → c' ≤ c → s' ≤ s → et_go none d k (pc + 3) L r G' (ck + c') (sk + s') Z) : hs_cont d k pc L r ck sk Z u := by
  obtain ⟨e, he, K', h1, h2, h3, h4, h5, h6⟩ := hu
  obtain rfl := List.mem_singleton.mp he
  obtain ⟨u1, u2, u3, u4⟩ := u
  have h4 : u1 = .inl none := h4
  subst h4
  exact hs_cb (h K' u2 u3 u4 h1 h2 h3 h5 h6)
theorem et_fr.wk {N : et_M} {G' : eg_G} (h : et_fr M K G G') (hs : et_ss M N = true) : et_fr N K G G' := ⟨h.1, fun a t ha i hi => h.2 a t ha i (by
  cases e : et_mm M t i with
  | false => rfl
  | true =>
    exfalso
    obtain ⟨q, hq, hq2⟩ := List.any_eq_true.mp e
    obtain ⟨q', hq', h3⟩ := List.any_eq_true.mp (List.all_eq_true.mp hs q hq)
    rw [Bool.and_eq_true, Bool.and_eq_true] at hq2 h3
    have e1 : et_mm N t i = true := by
      refine List.any_eq_true.mpr ⟨q', hq', ?_⟩
      rw [Bool.and_eq_true, Bool.and_eq_true]
      have a1 := of_decide_eq_true hq2.2.1
      have a2 := of_decide_eq_true hq2.2.2
      have a3 := of_decide_eq_true h3.2.1
      have a4 := of_decide_eq_true h3.2.2
      have a5 := beq_iff_eq.mp hq2.1
      have a6 := beq_iff_eq.mp h3.1
      exact ⟨beq_iff_eq.mpr (a6.trans a5), decide_eq_true (by omega), decide_eq_true (by omega)⟩
    rw [e1] at hi
    cases hi)⟩
end HTB
theorem ht_callv {T : List et_D} {K : et_K} {d k pc ck sk mi na ci lk lm a t : Nat} {L L0 : eg_Ls} {st r as : List Value} {G : eg_G} {Z : eg_O → Prop} {ps : List et_P} (hc : hs_cv k pc = some (mi, na, ci, lk, lm)) (hT : T[t]? = some (.inl (ci, ps))) (hH : et_H T K G) (ha : K a = some t) (hdr : st.drop na = .ref a :: r) (has : (st.take na).reverse = as) (hL : L.length = lk) (hr : Nat.ble (eg_cat r) 8 = true) (hn : Nat.ble (eg_en0 (.ref a :: as)).length lm = true) (hL0 : eg_en lm (.ref a :: as) = L0) (h : et_go none d mi 0 L0 [] G 0 0 (hs_cont (d + 1) k pc L r ck sk Z)) : et_go none (d + 1) k pc L st G ck sk Z := by
  obtain ⟨g1, -, -, dd, hd, hcc, -⟩ := hH.2.2 a t ha
  rw [hT] at hd
  cases hd
  obtain ⟨fs, e, -⟩ := hcc
  exact hs_callv hc hdr has hL hr hn hL0 g1 (by rw [e]; exact beq_self_eq_true ci) h
theorem ht_an {K : et_K} : ∀ (i : Nat) (p : et_P) (v : Value), ([] : List et_P)[i]? = some p → ([] : List Value)[i]? = some v → et_v K p v := fun _ _ _ h => by cases h
theorem ht_ac {K : et_K} {p : et_P} {v : Value} {ps : List et_P} {vs : List Value} (h : et_v K p v) (ht : ∀ (i : Nat) (p : et_P) (v : Value), ps[i]? = some p → vs[i]? = some v → et_v K p v) : ∀ (i : Nat) (q : et_P) (u : Value), (p :: ps)[i]? = some q → (v :: vs)[i]? = some u → et_v K q u := fun i q u h1 h2 => by
  cases i with
  | zero =>
    cases h1
    cases h2
    exact h
  | succ i => exact ht i q u h1 h2
