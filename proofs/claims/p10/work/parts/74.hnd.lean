/-! BY HAND, AND THE TYPES: what a typed heap holds -/
section HIA
variable {T : List et_D} {K : et_K} {G : eg_G} {a t : Nat}
theorem hi_int {lo hi : Int} {v : Value} (h : et_v K (.inl (lo, hi)) v) : ∃ x : Int32, v = .int x ∧ lo ≤ x.toInt ∧ x.toInt ≤ hi := h
theorem hi_nat {hi : Int} {v : Value} (h : et_v K (.inl (0, hi)) v) : ∃ c : Nat, (c : Int) ≤ hi ∧ v = .int (Int32.ofNat c) := by
  obtain ⟨x, rfl, h1, h2⟩ := h
  have h3 := x.toInt_lt
  refine ⟨x.toInt.toNat, by omega, ?_⟩
  congr 1
  apply Int32.toInt_inj.mp
  rw [hs_nint (by omega)]
  omega
theorem hi_natW {hi : Int} {x : Int32} (h : et_v K (.inl (0, hi)) (.int x)) : ∃ c : Nat, (c : Int) ≤ hi ∧ x = Int32.ofNat c := by
  obtain ⟨c, h1, h2⟩ := hi_nat h
  exact ⟨c, h1, Value.int.inj h2⟩
theorem hi_iv {lo hi : Int} {x : Int32} (h1 : lo ≤ x.toInt) (h2 : x.toInt ≤ hi) : et_v K (.inl (lo, hi)) (.int x) := ⟨x, rfl, h1, h2⟩
theorem hi_nv {hi : Int} {c : Nat} (h : (c : Int) ≤ hi) (hc : c < 2147483648) : et_v K (.inl (0, hi)) (.int (Int32.ofNat c)) := ⟨_, rfl, by rw [hs_nint hc]; omega, by rw [hs_nint hc]; exact h⟩
theorem hi_any {x : Int32} : et_v K (.inl (-2147483648, 2147483647)) (.int x) := ⟨x, rfl, x.le_toInt, by have := x.toInt_lt; omega⟩
theorem hi_ref {t : Nat} {v : Value} (h : et_v K (.inr (.inr (0, t))) v) : ∃ a, v = .ref a ∧ K a = some t := by
  rcases h with ⟨h, -⟩ | ⟨-, a, e, h⟩
  · exact absurd h (by decide)
  · exact ⟨a, e, h⟩
theorem hi_at (hH : et_H T K G) (ha : K a = some t) (ht : 2 ≤ t) : eg_NC ≤ a ∧ a < G.2 := ⟨(hH.2.2 a t ha).2.2.1 ht, (hH.2.2 a t ha).1⟩
theorem hi_ne {b u : Nat} (ha : K a = some t) (hb : K b = some u) (h : t ≠ u) : a ≠ b := fun e => by
  subst e
  rw [ha] at hb
  exact h (Option.some.inj hb)
theorem hi_obj {ci n : Nat} {ps : List et_P} (hH : et_H T K G) (ha : K a = some t) (hT : T[t]? = some (.inl (ci, ps))) (hn : ps.length = n) : (∃ F : Nat → Value, eg_at G a = .inr (ci, (List.range n).map F) ∧ ∀ k p, ps[k]? = some p → et_sk p = true ∨ et_v K p (F k)) ∧ et_cx (.inl (ci, ps)) a (eg_at G a) := by
  obtain ⟨-, -, -, d, hd, hc, hx⟩ := hH.2.2 a t ha
  rw [hT] at hd
  cases hd
  refine ⟨?_, hx⟩
  obtain ⟨fs, e, el, ef⟩ := hc
  refine ⟨fun k => fs.getD k .null, ?_, fun k p hk => ?_⟩
  · rw [e]
    congr 2
    apply List.ext_getElem?
    intro j
    rw [List.getElem?_map]
    by_cases hj : j < n
    · rw [List.getElem?_range hj]
      show fs[j]? = some (fs.getD j .null)
      rw [List.getD_eq_getElem?_getD, List.getElem?_eq_getElem (by omega)]
      rfl
    · rw [List.getElem?_eq_none (by omega), List.getElem?_eq_none (by rw [List.length_range]; omega)]
      rfl
  · obtain ⟨v, h1, h2⟩ := ef k p hk
    show et_sk p = true ∨ et_v K p (fs.getD k .null)
    rw [List.getD_eq_getElem?_getD, h1]
    exact h2
theorem hi_arr {kd n : Nat} {ss : List (Nat × Nat × et_P)} (hH : et_H T K G) (ha : K a = some t) (hT : T[t]? = some (.inr (kd, n, ss))) (hn : 0 < n) (hk : kd = 0 ∨ kd = 1 ∨ kd = 3 ∨ kd = 4) : ∃ f : Nat → Int32, eg_at G a = .inl (kd, (n, .inl f)) ∧ (∀ s ∈ ss, ∀ i, s.1 ≤ i → i ≤ s.2.1 → i < n → et_v K s.2.2 (.int (f i))) ∧ et_cx (.inr (kd, n, ss)) a (eg_at G a) := by
  obtain ⟨-, -, -, d, hd, hc, hx⟩ := hH.2.2 a t ha
  rw [hT] at hd
  cases hd
  obtain ⟨y, e, ey, er, es⟩ := hc
  obtain ⟨v, hv⟩ := er 0 hn
  obtain ⟨f, h1, -⟩ := et_rd_i hv hk
  obtain ⟨y1, y2⟩ := y
  have h1 : y2 = .inl f := h1
  have ey : y1 = n := ey
  subst h1 ey
  refine ⟨f, e, fun s hs i i1 i2 i3 => ?_, hx⟩
  obtain ⟨u, u1, u2⟩ := es s hs i i1 i2 i3
  obtain ⟨f', h2, h3⟩ := et_rd_i u1 hk
  cases h2
  rw [← h3]
  exact u2
theorem hi_arrL {n : Nat} {ss : List (Nat × Nat × et_P)} (hH : et_H T K G) (ha : K a = some t) (hT : T[t]? = some (.inr (2, n, ss))) (hn : 0 < n) : ∃ f : Nat → Int64, eg_at G a = .inl (2, (n, .inr (.inl f))) := by
  obtain ⟨-, -, -, d, hd, hc, hx⟩ := hH.2.2 a t ha
  rw [hT] at hd
  cases hd
  obtain ⟨y, e, ey, er, es⟩ := hc
  obtain ⟨v, hv⟩ := er 0 hn
  obtain ⟨f, h1, -⟩ := et_rd_l hv
  obtain ⟨y1, y2⟩ := y
  have h1 : y2 = .inr (.inl f) := h1
  have ey : y1 = n := ey
  subst h1 ey
  exact ⟨f, e⟩
/-- an int array goes on being typed -/
theorem hi_uarr {kd n : Nat} {ss : List (Nat × Nat × et_P)} {f : Nat → Int32} (hH : et_H T K G) (ha : K a = some t) (ht : 2 ≤ t) (hT : T[t]? = some (.inr (kd, n, ss))) (hk : kd = 0 ∨ kd = 1 ∨ kd = 3 ∨ kd = 4) (hs : ∀ s ∈ ss, ∀ i, s.1 ≤ i → i ≤ s.2.1 → i < n → et_v K s.2.2 (.int (f i))) (hx : kd = 0 → (n = 12741 ∨ n = 11900) → gq_G f) : et_H T K (eg_u G a (.inl (kd, (n, .inl f)))) := by
  have hrd : ∀ i, eg_rd kd (n, .inl f) i = some (.int (f i)) := fun i => by
    unfold eg_rd
    dsimp only
    rw [if_pos hk]
  refine et_H_u hH ha ht hT ⟨_, rfl, rfl, fun i _ => ⟨_, hrd i⟩, fun s h i i1 i2 i3 => ⟨_, hrd i, hs s h i i1 i2 i3⟩⟩ (fun e hn m W e2 => ?_)
  subst e
  cases e2
  exact hx rfl hn
theorem hi_uarrL {n : Nat} {f : Nat → Int64} (hH : et_H T K G) (ha : K a = some t) (ht : 2 ≤ t) (hT : T[t]? = some (.inr (2, n, []))) : et_H T K (eg_u G a (.inl (2, (n, .inr (.inl f))))) :=
  et_H_u hH ha ht hT ⟨_, rfl, rfl, fun i _ => ⟨.long (f i), rfl⟩, fun s h => absurd h List.not_mem_nil⟩ (fun e => absurd e (by decide))
theorem hi_frM {M : et_M} {c : eg_C} (hH : et_H T K G) (ha : K a = some t) (ht : 2 ≤ t) (hc : ∀ i, et_mm M t i = false → et_pl c i = et_pl (eg_at G a) i) : et_fr M K G (eg_u G a c) := by
  refine ⟨Nat.le_refl _, fun a' t' ha' i hi' => ?_⟩
  by_cases e : a' = a
  · subst e
    rw [ha] at ha'
    cases ha'
    rw [et_at_us ((hH.2.2 a' t ha).2.2.1 ht)]
    exact hc i hi'
  · rw [et_at_u e]
end HIA
/-! the reference's object -/
def et_tps (d : Option et_D) : List et_P := match d with
  | some (.inl (_, ps)) => ps
  | _ => []
def et_tss (d : Option et_D) : List (Nat × Nat × et_P) := match d with
  | some (.inr (_, _, ss)) => ss
  | _ => []
def et_m13 : List et_P := et_tps et_TT[13]?
def et_w46 : List (Nat × Nat × et_P) := et_tss et_TT[46]?
theorem et_t13 : et_TT[13]? = some (.inl (11, et_m13)) := rfl
theorem et_t46 : et_TT[46]? = some (.inr (0, 12741, et_w46)) := rfl
theorem et_t47 : et_TT[47]? = some (.inr (0, 11900, et_w46)) := rfl
def hi_F (K : et_K) (F : Nat → Value) : Prop := ∀ k p, et_m13[k]? = some p → et_v K p (F k)
def hi_X (F : Nat → Value) : Prop := ∀ s x y : Int32, F 29 = .int s → F 25 = .int x → F 26 = .int y → ¬ s = 0 → ¬ x = y
def hi_W (K : et_K) (W : Nat → Int32) : Prop := ∀ s ∈ et_w46, ∀ i, s.1 ≤ i → i ≤ s.2.1 → et_v K s.2.2 (.int (W i))
section HIB
variable {K : et_K} {G : eg_G} {am aw : Nat} {F : Nat → Value} {W : Nat → Int32}
theorem hi_pF {F : Nat → Value} {k : Nat} (hk : k < 36) : et_pl (hm_F F) k = some (F k) := by
  show ((List.range 36).map F)[k]? = _
  rw [List.getElem?_map, List.getElem?_range hk]
  rfl
theorem hi_pF0 {F : Nat → Value} {k : Nat} (hk : ¬ k < 36) : et_pl (hm_F F) k = none := by
  show ((List.range 36).map F)[k]? = _
  exact List.getElem?_eq_none (by rw [List.length_map, List.length_range]; omega)
theorem hi_pW {W : Nat → Int32} {k : Nat} (hk : k < 12741) : et_pl (hm_W W) k = some (.int (W k)) := by
  show (if k < 12741 then some (Value.int (W k)) else none) = _
  rw [if_pos hk]
theorem hi_w46 : ∀ s ∈ et_w46, s.2.1 < 126 := by decide +kernel
theorem hi_m13 : et_m13.all (fun p => !et_sk p) = true := by decide +kernel
theorem hi_mod (hH : et_H et_TT K G) (ha : K am = some 13) : ∃ (F : Nat → Value) (W : Nat → Int32) (aw : Nat), hm_ok G am aw ∧ eg_at G am = hm_F F ∧ eg_at G aw = hm_W W ∧ F 1 = .ref aw ∧ K aw = some 46 ∧ hi_F K F ∧ hi_X F ∧ hi_W K W ∧ gq_G W ∧ G = hm_H G am aw F W := by
  obtain ⟨⟨F, hF, hFt⟩, hFx⟩ := hi_obj (n := 36) hH ha et_t13 rfl
  have hFt : hi_F K F := fun k p hk => (hFt k p hk).resolve_left (fun h => by
    have := List.all_eq_true.mp hi_m13 p (List.mem_of_getElem? hk)
    rw [h] at this
    cases this)
  obtain ⟨aw, hw, hKw⟩ := hi_ref (hFt 1 _ rfl)
  obtain ⟨W, hW, hWt, hWx⟩ := hi_arr hH hKw et_t46 (by decide) (.inl rfl)
  have h1 := hi_at hH ha (by decide)
  have h2 := hi_at hH hKw (by decide)
  have hne : am ≠ aw := hi_ne ha hKw (by decide)
  refine ⟨F, W, aw, ⟨h1, h2, hne⟩, hF, hW, hw, hKw, hFt, ?_, fun s hs i i1 i2 => hWt s hs i i1 i2 (Nat.lt_of_le_of_lt i2 (Nat.lt_of_lt_of_le (hi_w46 s hs) (by decide))), hWx rfl (.inl rfl) _ _ hW, ?_⟩
  · intro s x y e1 e2 e3
    rw [hF] at hFx
    exact hFx.2 rfl s x y ((hi_pF (by decide)).trans (congrArg some e1)) ((hi_pF (by decide)).trans (congrArg some e2)) ((hi_pF (by decide)).trans (congrArg some e3))
  · unfold hm_H
    rw [hm_same (show eg_at G am = hm_F F from hF) h1.1, hm_same (show eg_at G aw = hm_W W from hW) h2.1]
theorem hi_fin {F' : Nat → Value} {W' : Nat → Int32} (hH : et_H et_TT K G) (ha : K am = some 13) (hw : K aw = some 46) (hF : hi_F K F') (hX : hi_X F') (hW : hi_W K W') (hG : gq_G W') : et_H et_TT K (hm_H G am aw F' W') := by
  unfold hm_H
  refine hi_uarr (t := 46) ?_ hw (by decide) et_t46 (.inl rfl) (fun s hs i i1 i2 _ => hW s hs i i1 i2) (fun _ _ => hG)
  refine et_H_u hH ha (by decide) et_t13 ⟨_, rfl, ?_, fun k p hk => ?_⟩ ⟨fun h => absurd h (by decide), fun _ s x y e1 e2 e3 => ?_⟩
  · rw [List.length_map, List.length_range]
    rfl
  · have hk36 : k < 36 := (List.getElem?_eq_some_iff.mp hk).1
    exact ⟨F' k, hi_pF hk36, .inr (hF k p hk)⟩
  · rw [hi_pF (by decide)] at e1 e2 e3
    exact hX s x y (Option.some.inj e1) (Option.some.inj e2) (Option.some.inj e3)
theorem hi_fr {M : et_M} {F' : Nat → Value} {W' : Nat → Int32} (hH : et_H et_TT K G) (ha : K am = some 13) (hw : K aw = some 46) (eF : eg_at G am = hm_F F) (eW : eg_at G aw = hm_W W) (hF : ∀ i, et_mm M 13 i = false → F' i = F i) (hW : ∀ i, i < 12741 → et_mm M 46 i = false → W' i = W i) : et_fr M K G (hm_H G am aw F' W') := by
  have hne : aw ≠ am := hi_ne hw ha (by decide)
  have f1 : et_fr M K G (eg_u G am (hm_F F')) := hi_frM hH ha (by decide) (fun i hi => by
    rw [eF]
    by_cases h : i < 36
    · rw [hi_pF h, hi_pF h, hF i hi]
    · rw [hi_pF0 h, hi_pF0 h])
  refine ⟨Nat.le_refl _, fun a t ht i hi => ?_⟩
  unfold hm_H
  by_cases e : a = aw
  · subst e
    rw [hw] at ht
    cases ht
    rw [et_at_us (hi_at hH hw (by decide)).1, eW]
    by_cases h : i < 12741
    · rw [hi_pW h, hi_pW h, hW i h hi]
    · show (if i < 12741 then some (Value.int (W' i)) else none) = (if i < 12741 then some (Value.int (W i)) else none)
      rw [if_neg h, if_neg h]
  · rw [et_at_u e]
    exact f1.2 a t ht i hi
end HIB
theorem et_go.mono {sc : eg_Sc} {d k pc ck sk : Nat} {L : eg_Ls} {st : List Value} {G : eg_G} {Z Z' : eg_O → Prop} (h : et_go sc d k pc L st G ck sk Z) (hz : ∀ u, Z u → Z' u) : et_go sc d k pc L st G ck sk Z' := by
  obtain ⟨o, h1, h2⟩ := h
  exact ⟨o, h1, hz o h2⟩
