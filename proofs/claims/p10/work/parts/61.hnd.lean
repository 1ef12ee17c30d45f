/-! BY HAND: the heap, calls, answers -/
section HSB
variable {d k pc ck sk : Nat} {L : eg_Ls} {st r : List Value} {G : eg_G} {Z : eg_O → Prop}
theorem hs_get {ci f p a : Nat} {fs : List Value} {v : Value} (hc : hs_fi k pc = some (ci, f, p)) (hg : eg_at G a = .inr (ci, fs)) (ha : a < G.2) (hv : fs[f]? = some v) (h : et_go none d k p L (v :: r) G ck sk Z) : et_go none d k pc L (.ref a :: r) G ck sk Z := by
  unfold hs_fi at hc
  split at hc
  · rename_i i _ e
    split at hc
    · rename_i ci' f' x hf
      cases hc
      exact hs_st e rfl (by
        show eg_gf (eg_mo k) i pc L (.ref a :: r) G ck sk = _
        unfold eg_gf
        rw [hf]
        dsimp only
        rw [hg]
        dsimp only
        rw [if_pos ⟨ha, rfl⟩, hv]) h
    · cases hc
  · cases hc
theorem hs_put {ci f p a : Nat} {ty : FieldType} {fs : List Value} {v : Value} (hc : hs_pi k pc = some (ci, f, ty, p)) (hg : eg_at G a = .inr (ci, fs)) (ha : eg_NC ≤ a ∧ a < G.2) (hl : f < fs.length) (ht : eg_fit ty v = true) (h : et_go none d k p L r (eg_u G a (.inr (ci, fs.set f v))) ck sk Z) : et_go none d k pc L (v :: .ref a :: r) G ck sk Z := by
  unfold hs_pi at hc
  split at hc
  · rename_i i _ e
    split at hc
    · rename_i ci' f' x hf
      split at hc
      · rename_i h0
        cases hc
        exact hs_st e rfl (by
          show eg_pf (eg_mo k) (eg_in k) i pc L (v :: .ref a :: r) G ck sk = _
          unfold eg_pf
          rw [hf]
          dsimp only
          rw [hg]
          dsimp only
          rw [if_pos ⟨ha.1, ha.2, rfl, hl, ht, .inl h0⟩]) h
      · cases hc
    · cases hc
  · cases hc
theorem hs_ari {ins : Instr} {t a N p n : Nat} {f : Nat → Int32} (hk : eg_ak ins t = true ∧ (t = 0 ∨ t = 1 ∨ t = 3 ∨ t = 4)) (hg : eg_at G a = .inl (t, (N, .inl f))) (ha : a < G.2) (hn : n < N) (hN : N < 2147483648) : eg_ar ins p L (.int (Int32.ofNat n) :: .ref a :: r) G ck sk = some (p + 1, L, .int (f n) :: r, G, ck, sk) := by
  unfold eg_ar
  dsimp only
  rw [hg]
  dsimp only
  have h1 := hs_nint (a := n) (by omega)
  rw [if_pos ⟨ha, hk.1, by omega, by omega⟩, hs_nnat (by omega)]
  unfold eg_rd
  dsimp only
  rw [if_pos hk.2]
theorem hs_iald {a N p n : Nat} {f : Nat → Int32} (hc : hs_o k pc = some (.iaload, p)) (hg : eg_at G a = .inl (0, (N, .inl f))) (ha : a < G.2) (hN : N < 2147483648) (hn : n < N) (h : et_go none d k p L (.int (f n) :: r) G ck sk Z) : et_go none d k pc L (.int (Int32.ofNat n) :: .ref a :: r) G ck sk Z := by
  obtain ⟨e, rfl⟩ := hs_oc hc
  exact hs_st e rfl (hs_ari ⟨rfl, .inl rfl⟩ hg ha hn hN) h
theorem hs_bald {a N p n : Nat} {f : Nat → Int32} (hc : hs_o k pc = some (.baload, p)) (hg : eg_at G a = .inl (1, (N, .inl f))) (ha : a < G.2) (hN : N < 2147483648) (hn : n < N) (h : et_go none d k p L (.int (f n) :: r) G ck sk Z) : et_go none d k pc L (.int (Int32.ofNat n) :: .ref a :: r) G ck sk Z := by
  obtain ⟨e, rfl⟩ := hs_oc hc
  exact hs_st e rfl (hs_ari ⟨rfl, .inr (.inl rfl)⟩ hg ha hn hN) h
theorem hs_zald {a N p n : Nat} {f : Nat → Int32} (hc : hs_o k pc = some (.baload, p)) (hg : eg_at G a = .inl (3, (N, .inl f))) (ha : a < G.2) (hN : N < 2147483648) (hn : n < N) (h : et_go none d k p L (.int (f n) :: r) G ck sk Z) : et_go none d k pc L (.int (Int32.ofNat n) :: .ref a :: r) G ck sk Z := by
  obtain ⟨e, rfl⟩ := hs_oc hc
  exact hs_st e rfl (hs_ari ⟨rfl, .inr (.inr (.inl rfl))⟩ hg ha hn hN) h
theorem hs_iast {a N p n : Nat} {x : Int32} {f : Nat → Int32} (hc : hs_o k pc = some (.iastore, p)) (hg : eg_at G a = .inl (0, (N, .inl f))) (ha : eg_NC ≤ a ∧ a < G.2) (hN : N < 2147483648) (hn : n < N) (h : et_go none d k p L r (eg_u G a (.inl (0, (N, .inl (upd f n x))))) ck sk Z) : et_go none d k pc L (.int x :: .int (Int32.ofNat n) :: .ref a :: r) G ck sk Z := by
  obtain ⟨e, rfl⟩ := hs_oc hc
  refine hs_st e rfl ?_ h
  show eg_aw .iastore pc L (.int x :: .int (Int32.ofNat n) :: .ref a :: r) G ck sk = _
  unfold eg_aw
  dsimp only
  rw [hg]
  dsimp only
  have h1 := hs_nint (a := n) (by omega)
  rw [if_pos ⟨ha.1, ha.2, rfl, by omega, by omega⟩, hs_nnat (by omega)]
  rfl
theorem hs_lald {a N p n : Nat} {f : Nat → Int64} (hc : hs_o k pc = some (.laload, p)) (hg : eg_at G a = .inl (2, (N, .inr (.inl f)))) (ha : a < G.2) (hN : N < 2147483648) (hn : n < N) (h : et_go none d k p L (.long (f n) :: r) G ck sk Z) : et_go none d k pc L (.int (Int32.ofNat n) :: .ref a :: r) G ck sk Z := by
  obtain ⟨e, rfl⟩ := hs_oc hc
  refine hs_st e rfl ?_ h
  show eg_ar .laload pc L (.int (Int32.ofNat n) :: .ref a :: r) G ck sk = _
  unfold eg_ar
  dsimp only
  rw [hg]
  dsimp only
  have h1 := hs_nint (a := n) (by omega)
  rw [if_pos ⟨ha, rfl, by omega, by omega⟩, hs_nnat (by omega)]
  rfl
theorem hs_last {a N p n : Nat} {x : Int64} {f : Nat → Int64} (hc : hs_o k pc = some (.lastore, p)) (hg : eg_at G a = .inl (2, (N, .inr (.inl f)))) (ha : eg_NC ≤ a ∧ a < G.2) (hN : N < 2147483648) (hn : n < N) (h : et_go none d k p L r (eg_u G a (.inl (2, (N, .inr (.inl (vp_updL f n x)))))) ck sk Z) : et_go none d k pc L (.long x :: .int (Int32.ofNat n) :: .ref a :: r) G ck sk Z := by
  obtain ⟨e, rfl⟩ := hs_oc hc
  refine hs_st e rfl ?_ h
  show eg_aw .lastore pc L (.long x :: .int (Int32.ofNat n) :: .ref a :: r) G ck sk = _
  unfold eg_aw
  dsimp only
  rw [hg]
  dsimp only
  have h1 := hs_nint (a := n) (by omega)
  rw [if_pos ⟨ha.1, ha.2, rfl, by omega, by omega⟩, hs_nnat (by omega)]
  rfl
/-! answers -/
def hs_re (k pc : Nat) : Option (Option FieldType) := match eg_cd k pc with
  | some (.ireturn, _) => some (eg_mr k)
  | _ => none
def hs_rv (k pc : Nat) : Option (Option FieldType) := match eg_cd k pc with
  | some (.return_, _) => some (eg_mr k)
  | _ => none
theorem hs_iret {x : Int32} (hc : hs_re k pc = some (some .int)) (h : Z (.inl (some (.int x)), G, ck, sk)) : et_go none d k pc L [.int x] G ck sk Z := by
  unfold hs_re at hc
  split at hc
  · rename_i e
    refine et_goR (u := (.inl (some (.int x)), G, ck, sk)) (fun q => ?_) h
    unfold eg_one
    rw [e]
    dsimp only
    rw [show eg_mr k = some .int from Option.some.inj hc]
    unfold eg_rr
    dsimp only
    rw [if_pos (show eg_nr .int x = true from decide_eq_true rfl)]
  · cases hc
theorem hs_nr0 : eg_nr .boolean 0 = true := by decide +kernel
theorem hs_nr1 : eg_nr .boolean 1 = true := by decide +kernel
theorem hs_zret {x : Int32} (hc : hs_re k pc = some (some .boolean)) (hx : x = 0 ∨ x = 1) (h : Z (.inl (some (.int x)), G, ck, sk)) : et_go none d k pc L [.int x] G ck sk Z := by
  unfold hs_re at hc
  split at hc
  · rename_i e
    refine et_goR (u := (.inl (some (.int x)), G, ck, sk)) (fun q => ?_) h
    unfold eg_one
    rw [e]
    dsimp only
    rw [show eg_mr k = some .boolean from Option.some.inj hc]
    unfold eg_rr
    dsimp only
    rcases hx with rfl | rfl
    · rw [if_pos hs_nr0]
    · rw [if_pos hs_nr1]
  · cases hc
theorem hs_vret (hc : hs_rv k pc = some none) (h : Z (.inl none, G, ck, sk)) : et_go none d k pc L [] G ck sk Z := by
  unfold hs_rv at hc
  split at hc
  · rename_i e
    refine et_goR (u := (.inl none, G, ck, sk)) (fun q => ?_) h
    unfold eg_one
    rw [e]
    dsimp only
    rw [show eg_mr k = none from Option.some.inj hc]
    rfl
  · cases hc
/-! calls -/
def hs_cont (d k pc : Nat) (L : eg_Ls) (r : List Value) (ck sk : Nat) (Z : eg_O → Prop) : eg_O → Prop := fun u => ∃ o, (∃ g, ∀ q, g ≤ q → eg_bk (eg_rn q) none d k pc L r ck sk (some u) = some o) ∧ Z o
theorem hs_cb {v : Option Value} {G' : eg_G} {c s : Nat} (h : et_go none d k (pc + 3) L (v.toList ++ r) G' (ck + c) (sk + s) Z) : hs_cont d k pc L r ck sk Z (.inl v, G', c, s) := by
  obtain ⟨o, ⟨g, hg⟩, hZ⟩ := h
  exact ⟨o, ⟨g, fun q hq => hg q hq⟩, hZ⟩
def hs_cv (k pc : Nat) : Option (Nat × Nat × Nat × Nat × Nat) := match eg_cd k pc with
  | some (.invokevirtual i, _) => (match (eg_mT.getD (eg_mo k) []).lookup i with
    | some (mi, kd, _) => if (kd = 1 ∨ kd = 4 ∨ kd = 7) ∧ mi < 316 ∧ ¬ eg_mo mi = 20 then some (mi, eg_ma mi, eg_oc kd mi, eg_mL k, eg_mL mi) else none
    | none => none)
  | _ => none
def hs_cs (k pc : Nat) : Option (Nat × Nat × Nat × Nat) := match eg_cd k pc with
  | some (.invokestatic i, _) => (match (eg_mT.getD (eg_mo k) []).lookup i with
    | some (mi, kd, _) => if (kd = 0 ∨ kd = 3) ∧ (mi < 309 ∨ 313 < mi) ∧ mi < 316 ∧ ¬ eg_mo mi = 20 then some (mi, eg_ma mi, eg_mL k, eg_mL mi) else none
    | none => none)
  | _ => none
theorem hs_callv {mi na ci lk lm a : Nat} {as : List Value} {L0 : eg_Ls} (hc : hs_cv k pc = some (mi, na, ci, lk, lm)) (hdr : st.drop na = .ref a :: r) (has : (st.take na).reverse = as) (hL : L.length = lk) (hr : Nat.ble (eg_cat r) 8 = true) (hn : Nat.ble (eg_en0 (.ref a :: as)).length lm = true) (hL0 : eg_en lm (.ref a :: as) = L0) (ha : a < G.2) (hg : eg_is (eg_at G a) ci = true) (h : et_go none d mi 0 L0 [] G 0 0 (hs_cont (d + 1) k pc L r ck sk Z)) : et_go none (d + 1) k pc L st G ck sk Z := by
  unfold hs_cv at hc
  split at hc
  · rename_i i _ e
    split at hc
    · rename_i mi' kd x hm
      split at hc
      · rename_i h0
        cases hc
        subst has hL0
        refine et_goC (fun q => ?_) h
        unfold eg_one
        rw [e]
        dsimp only
        rw [et_rr_no (ins := .invokevirtual i) (fun h => nomatch (show false = true from h))]
        dsimp only
        rw [hs_sc]
        dsimp only
        show eg_iv (eg_rn q) none (d + 1) k pc 1 i L st G ck sk = _
        rw [et_v1 hm, hdr]
        dsimp only
        rw [if_pos ⟨h0.1, ha, hg⟩]
        unfold eg_cl1
        rw [if_pos ⟨Nat.le_of_ble_eq_true hr, hL, Nat.le_of_ble_eq_true hn, h0.2.1, h0.2.2⟩]
      · cases hc
    · cases hc
  · cases hc
theorem hs_calls {mi na lk lm : Nat} {as : List Value} {L0 : eg_Ls} (hc : hs_cs k pc = some (mi, na, lk, lm)) (hln : Nat.ble na st.length = true) (hdr : st.drop na = r) (has : (st.take na).reverse = as) (hL : L.length = lk) (hr : Nat.ble (eg_cat r) 8 = true) (hn : Nat.ble (eg_en0 as).length lm = true) (hL0 : eg_en lm as = L0) (h : et_go none d mi 0 L0 [] G 0 0 (hs_cont (d + 1) k pc L r ck sk Z)) : et_go none (d + 1) k pc L st G ck sk Z := by
  unfold hs_cs at hc
  split at hc
  · rename_i i _ e
    split at hc
    · rename_i mi' kd x hm
      split at hc
      · rename_i h0
        cases hc
        subst has hL0 hdr
        refine et_goC (fun q => ?_) h
        unfold eg_one
        rw [e]
        dsimp only
        rw [et_rr_no (ins := .invokestatic i) (fun h => nomatch (show false = true from h))]
        dsimp only
        rw [hs_sc]
        dsimp only
        show eg_iv (eg_rn q) none (d + 1) k pc 0 i L st G ck sk = _
        rw [et_v0 hm]
        rw [if_neg (by omega), if_pos ⟨h0.1, Nat.le_of_ble_eq_true hln⟩]
        unfold eg_cl1
        rw [if_pos ⟨Nat.le_of_ble_eq_true hr, hL, Nat.le_of_ble_eq_true hn, h0.2.2.1, h0.2.2.2⟩]
      · cases hc
    · cases hc
  · cases hc
end HSB
/-! THE MODEL'S OBJECT AND ITS WORLD -/
def hm_F (F : Nat → Value) : eg_C := .inr (11, (List.range 36).map F)
def hm_W (W : Nat → Int32) : eg_C := .inl (0, (12741, .inl W))
def hm_H (G : eg_G) (am aw : Nat) (F : Nat → Value) (W : Nat → Int32) : eg_G := eg_u (eg_u G am (hm_F F)) aw (hm_W W)
def hm_ok (G : eg_G) (am aw : Nat) : Prop := (eg_NC ≤ am ∧ am < G.2) ∧ (eg_NC ≤ aw ∧ aw < G.2) ∧ am ≠ aw
section HSM
variable {d k pc ck sk am aw : Nat} {L : eg_Ls} {st r : List Value} {G : eg_G} {Z : eg_O → Prop} {F : Nat → Value} {W : Nat → Int32}
theorem hm_m (h : hm_ok G am aw) : eg_at (hm_H G am aw F W) am = hm_F F := by
  unfold hm_H
  rw [et_at_u h.2.2, et_at_us h.1.1]
theorem hm_w (h : hm_ok G am aw) : eg_at (hm_H G am aw F W) aw = hm_W W := by
  unfold hm_H
  rw [et_at_us h.2.1.1]
theorem hm_o {a : Nat} (h1 : a ≠ am) (h2 : a ≠ aw) : eg_at (hm_H G am aw F W) a = eg_at G a := by
  unfold hm_H
  rw [et_at_u h2, et_at_u h1]
theorem hm_uu {G : eg_G} {a : Nat} {c c' : eg_C} : eg_u (eg_u G a c) a c' = eg_u G a c' := by
  unfold eg_u
  dsimp only
  congr 1
  funext j
  by_cases h : j = a
  · rw [if_pos h, if_pos h]
  · rw [if_neg h, if_neg h, if_neg h]
theorem hm_uc {G : eg_G} {a b : Nat} {c c' : eg_C} (h : a ≠ b) : eg_u (eg_u G a c) b c' = eg_u (eg_u G b c') a c := by
  unfold eg_u
  dsimp only
  congr 1
  funext j
  by_cases h1 : j = a
  · rw [if_pos h1, if_pos h1, if_neg (fun e => h (h1.symm.trans e))]
  · rw [if_neg h1, if_neg h1]
theorem hm_set {F : Nat → Value} {f : Nat} {v : Value} : ((List.range 36).map F).set f v = (List.range 36).map (updV F f v) := by
  apply List.ext_getElem?
  intro j
  rw [List.getElem?_set, List.getElem?_map, List.getElem?_map, List.length_map, List.length_range]
  by_cases h : f = j
  · subst h
    rw [if_pos rfl]
    by_cases h2 : f < 36
    · rw [if_pos h2, List.getElem?_range h2]
      show some v = some (updV F f v f)
      unfold updV
      rw [if_pos rfl]
    · rw [if_neg h2, List.getElem?_eq_none (by rw [List.length_range]; omega)]
      rfl
  · rw [if_neg h]
    cases hj : (List.range 36)[j]? with
    | none => rfl
    | some x =>
      have e : x = j := by
        obtain ⟨h1, h2⟩ := List.getElem?_eq_some_iff.mp hj
        rw [← h2, List.getElem_range]
      subst e
      show some (F x) = some (updV F f v x)
      unfold updV
      rw [if_neg (fun e => h e.symm)]
theorem hm_get {f p : Nat} {v : Value} (hA : hm_ok G am aw) (hc : hs_fi k pc = some (11, f, p)) (hf : Nat.ble f 35 = true) (hv : F f = v) (h : et_go none d k p L (v :: r) (hm_H G am aw F W) ck sk Z) : et_go none d k pc L (.ref am :: r) (hm_H G am aw F W) ck sk Z := by
  subst hv
  have hf := Nat.le_of_ble_eq_true hf
  refine hs_get hc (hm_m hA) hA.1.2 ?_ h
  rw [List.getElem?_map, List.getElem?_range (by omega)]
  rfl
theorem hm_put {f p : Nat} {ty : FieldType} {v : Value} {F' : Nat → Value} (hA : hm_ok G am aw) (hc : hs_pi k pc = some (11, f, ty, p)) (hf : Nat.ble f 35 = true) (ht : eg_fit ty v = true) (hF : updV F f v = F') (h : et_go none d k p L r (hm_H G am aw F' W) ck sk Z) : et_go none d k pc L (v :: .ref am :: r) (hm_H G am aw F W) ck sk Z := by
  subst hF
  have hf := Nat.le_of_ble_eq_true hf
  refine hs_put hc (hm_m hA) ⟨hA.1.1, hA.1.2⟩ (by rw [List.length_map, List.length_range]; omega) ht ?_
  rw [hm_set]
  show et_go none d k p L r (eg_u (eg_u (eg_u G am (hm_F F)) aw (hm_W W)) am (hm_F (updV F f v))) ck sk Z
  rw [hm_uc hA.2.2.symm, hm_uu]
  exact h
theorem hm_rw {p n : Nat} (hA : hm_ok G am aw) (hc : hs_o k pc = some (.iaload, p)) (hn : n < 12741) (h : et_go none d k p L (.int (W n) :: r) (hm_H G am aw F W) ck sk Z) : et_go none d k pc L (.int (Int32.ofNat n) :: .ref aw :: r) (hm_H G am aw F W) ck sk Z :=
  hs_iald hc (hm_w hA) hA.2.1.2 (by omega) hn h
theorem hm_ww {p n : Nat} {x : Int32} (hA : hm_ok G am aw) (hc : hs_o k pc = some (.iastore, p)) (hn : n < 12741) (h : et_go none d k p L r (hm_H G am aw F (upd W n x)) ck sk Z) : et_go none d k pc L (.int x :: .int (Int32.ofNat n) :: .ref aw :: r) (hm_H G am aw F W) ck sk Z := by
  refine hs_iast hc (hm_w hA) ⟨hA.2.1.1, hA.2.1.2⟩ (by omega) hn ?_
  unfold hm_H
  rw [hm_uu]
  exact h
theorem hm_call {mi na lk lm : Nat} {as : List Value} {L0 : eg_Ls} (hA : hm_ok G am aw) (hc : hs_cv k pc = some (mi, na, 11, lk, lm)) (hdr : st.drop na = .ref am :: r) (has : (st.take na).reverse = as) (hL : L.length = lk) (hr : Nat.ble (eg_cat r) 8 = true) (hn : Nat.ble (eg_en0 (.ref am :: as)).length lm = true) (hL0 : eg_en lm (.ref am :: as) = L0) (h : et_go none d mi 0 L0 [] (hm_H G am aw F W) 0 0 (hs_cont (d + 1) k pc L r ck sk Z)) : et_go none (d + 1) k pc L st (hm_H G am aw F W) ck sk Z :=
  hs_callv hc hdr has hL hr hn hL0 hA.1.2 (by rw [hm_m hA]; rfl) h
end HSM
