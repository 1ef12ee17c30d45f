/-! FUNCTIONAL: the reference's readOne, readLine, readLines -/
theorem pl_eq {c : eg_C} {x y : Nat} {v : Option Value} (h : et_pl c x = v) (e : x = y) : et_pl c y = v := e ▸ h
theorem ln_0 {T : List sp_T} (h : ¬ wat T 0 = 29) (h2 : ¬ wat T 0 = 30) : sp_line T = none := by
  unfold sp_line
  split
  · exact if_neg (fun h3 => h3.1.elim h h2)
  · rfl
theorem ln_n {T r : List sp_T} (hT : T.drop 1 = r) (hn : ∀ x q, r = (33, some x) :: q → ¬ x ≤ 50) : sp_line T = none := by
  unfold sp_line
  split
  · rename_i w x w2 v q
    refine if_neg (fun h3 => ?_)
    obtain ⟨-, h4, h5⟩ := h3
    have hT : (w2, some v) :: q = r := hT
    subst h4
    exact hn v q hT.symm h5
  · rfl
section LN
variable {T r r4 : List sp_T} {w v : Nat} {f : sp_E → Bool}
theorem ln_s (hw : wat T 0 = w) (h : w = 29 ∨ w = 30) (hT : T.drop 1 = (33, some v) :: r) (hv : v ≤ 50) : sp_line T = (match (generalizing := false) r with
    | (w3, _) :: r3 => if w3 = 31 then (match sp_C 6 r3 with
      | some (f, r4) => some ((w == 29, v, some f), r4)
      | none => none) else some ((w == 29, v, none), r)
    | [] => some ((w == 29, v, none), r)) := by
  cases T with
  | nil => cases hT
  | cons t q =>
    obtain ⟨w', x⟩ := t
    have hw : w' = w := hw
    have hT : q = (33, some v) :: r := hT
    subst hw hT
    unfold sp_line
    dsimp only
    rw [if_pos ⟨h, rfl, hv⟩]
    cases r <;> rfl
theorem ln_1 (hw : wat T 0 = w) (h : w = 29 ∨ w = 30) (hT : T.drop 1 = (33, some v) :: r) (hv : v ≤ 50) (hi : ¬ wat r 0 = 31) : sp_line T = some ((w == 29, v, none), r) := by
  rw [ln_s hw h hT hv]
  cases r with
  | nil => rfl
  | cons t q =>
    obtain ⟨w', x⟩ := t
    exact if_neg hi
theorem ln_c (hw : wat T 0 = w) (h : w = 29 ∨ w = 30) (hT : T.drop 1 = (33, some v) :: r) (hv : v ≤ 50) (hi : wat r 0 = 31) (hC : sp_C 6 (r.drop 1) = some (f, r4)) : sp_line T = some ((w == 29, v, some f), r4) := by
  rw [ln_s hw h hT hv]
  cases r with
  | nil => exact absurd hi (by decide)
  | cons t q =>
    obtain ⟨w', x⟩ := t
    have hC : sp_C 6 q = some (f, r4) := hC
    have hi : w' = 31 := hi
    show (if w' = 31 then _ else _) = _
    rw [if_pos hi, hC]
theorem ln_cn (hw : wat T 0 = w) (h : w = 29 ∨ w = 30) (hT : T.drop 1 = (33, some v) :: r) (hv : v ≤ 50) (hi : wat r 0 = 31) (hC : sp_C 6 (r.drop 1) = none) : sp_line T = none := by
  rw [ln_s hw h hT hv]
  cases r with
  | nil => exact absurd hi (by decide)
  | cons t q =>
    obtain ⟨w', x⟩ := t
    have hC : sp_C 6 q = none := hC
    have hi : w' = 31 := hi
    show (if w' = 31 then _ else _) = _
    rw [if_pos hi, hC]
end LN
theorem one_n {T : List sp_T} (h : sp_C 6 T = none) : sp_one T = none := by
  unfold sp_one
  rw [h]
theorem one_y {T r : List sp_T} {f : sp_E → Bool} (h : sp_C 6 T = some (f, r)) (hr : r = []) : sp_one T = some f := by
  unfold sp_one
  rw [h, hr]
theorem one_x {T r : List sp_T} {f : sp_E → Bool} (h : sp_C 6 T = some (f, r)) (hr : ¬ r = []) : sp_one T = none := by
  unfold sp_one
  rw [h]
  cases r with
  | nil => exact absurd rfl hr
  | cons t r => rfl
theorem ts_end {b : Nat → Nat} {pl n p : Nat} (ha : tal b n p) : tz_ts pl b n p = [] ↔ skp b n p = n := by
  have h1 := skp_le (b := b) (n := n) (p := p) ha.1
  constructor
  · intro h
    refine Decidable.by_contra (fun hc => ?_)
    rw [tok_c ha (by omega)] at h
    cases h
  · intro h
    exact tok_e ha.1 (by omega)
theorem tal0 {b : Nat → Nat} {n : Nat} : tal b n 0 := ⟨Nat.zero_le _, rfl⟩
/-- a line of the draft -/
def lnP (G : eg_G) (aw pl i hi : Nat) (l : sp_L) : Prop := ∃ s e : Nat, et_pl (eg_at G aw) (11901 + 4 * i) = some (.int (Int32.ofNat (if l.1 = true then 0 else 1))) ∧ et_pl (eg_at G aw) (11901 + 4 * i + 1) = some (.int (Int32.ofNat l.2.1)) ∧ et_pl (eg_at G aw) (11901 + 4 * i + 2) = some (.int (Int32.ofNat s)) ∧ et_pl (eg_at G aw) (11901 + 4 * i + 3) = some (.int (Int32.ofNat e)) ∧ e ≤ hi ∧ s ≤ e ∧ match l.2.2 with
  | none => e = s
  | some f => ∃ C : List (Nat × Nat), e = s + C.length ∧ hasC G aw s C ∧ dnB pl f C
theorem lnP.fr {S : Nat → Nat → Prop} {G G' : eg_G} {aw pl i hi : Nat} {l : sp_L} (h : lnP G aw pl i hi l) (hx : xf S G G') (ha : aw < G.2) (h1 : ∀ j, 11901 + 4 * i ≤ j → j < 11905 + 4 * i → ¬ S aw j) (h2 : ∀ j, 11941 ≤ j → j < 11941 + 2 * hi → ¬ S aw j) : lnP G' aw pl i hi l := by
  obtain ⟨s, e, e0, e1, e2, e3, he, hs, hm⟩ := h
  have g : ∀ j, 11901 + 4 * i ≤ j → j < 11905 + 4 * i → et_pl (eg_at G' aw) j = et_pl (eg_at G aw) j := fun j j1 j2 => hx.2 aw j ha (h1 j j1 j2)
  refine ⟨s, e, (g _ (by omega) (by omega)).trans e0, (g _ (by omega) (by omega)).trans e1, (g _ (by omega) (by omega)).trans e2, (g _ (by omega) (by omega)).trans e3, he, hs, ?_⟩
  cases hl : l.2.2 with
  | none =>
    rw [hl] at hm
    exact hm
  | some f =>
    rw [hl] at hm
    obtain ⟨C, hC, hc, hd⟩ := hm
    exact ⟨C, hC, hc.fr hx ha (fun j j1 j2 => h2 j (by omega) (by omega)), hd⟩
theorem lnP.up {G : eg_G} {aw pl i hi hi' : Nat} {l : sp_L} (h : lnP G aw pl i hi l) (h1 : hi ≤ hi') : lnP G aw pl i hi' l := by
  obtain ⟨s, e, e0, e1, e2, e3, he, hs, hm⟩ := h
  exact ⟨s, e, e0, e1, e2, e3, Nat.le_trans he h1, hs, hm⟩
def lnsP (G : eg_G) (aw pl hi : Nat) (ls : List sp_L) : Prop := ∀ i l, ls[i]? = some l → lnP G aw pl i hi l
theorem lnsP.fr {S : Nat → Nat → Prop} {G G' : eg_G} {aw pl hi : Nat} {ls : List sp_L} (h : lnsP G aw pl hi ls) (hl : ls.length ≤ 10) (hx : xf S G G') (ha : aw < G.2) (h1 : ∀ j, 11901 ≤ j → j < 11901 + 4 * ls.length → ¬ S aw j) (h2 : ∀ j, 11941 ≤ j → j < 11941 + 2 * hi → ¬ S aw j) : lnsP G' aw pl hi ls := fun i l hi => by
  have := (List.getElem?_eq_some_iff.mp hi).1
  exact (h i l hi).fr hx ha (fun j j1 j2 => h1 j (by omega) (by omega)) h2
theorem lnsP.snoc {G : eg_G} {aw pl hi i : Nat} {ls : List sp_L} {l : sp_L} (h : lnsP G aw pl hi ls) (hl : ls.length = i) (h1 : lnP G aw pl i hi l) : lnsP G aw pl hi (ls ++ [l]) := fun j x hj => by
  by_cases e : j < ls.length
  · rw [List.getElem?_append_left e] at hj
    exact h j x hj
  · rw [List.getElem?_append_right (by omega)] at hj
    have h0 : j - ls.length = 0 := by
      have := (List.getElem?_eq_some_iff.mp hj).1
      simpa using this
    rw [h0] at hj
    cases hj
    rw [show j = i by omega]
    exact h1
theorem lns_0 {nf : Nat} {ls : List sp_L} {T : List sp_T} (h : sp_line T = none) : sp_lines (nf + 1) ls T = none := by
  unfold sp_lines
  rw [h]
theorem lns_e {nf : Nat} {ls : List sp_L} {T r : List sp_T} {l : sp_L} (h : sp_line T = some (l, r)) (hr : r = []) : sp_lines (nf + 1) ls T = some (ls ++ [l]) := by
  unfold sp_lines
  rw [h, hr]
theorem lns_x {nf : Nat} {ls : List sp_L} {T r : List sp_T} {l : sp_L} (h : sp_line T = some (l, r)) (hr : ¬ r = []) (hw : ¬ wat r 0 = 32) : sp_lines (nf + 1) ls T = none := by
  unfold sp_lines
  rw [h]
  cases r with
  | nil => exact absurd rfl hr
  | cons t q =>
    obtain ⟨w, x⟩ := t
    exact if_neg hw
theorem lns_s {nf : Nat} {ls : List sp_L} {T r : List sp_T} {l : sp_L} (h : sp_line T = some (l, r)) (hw : wat r 0 = 32) : sp_lines (nf + 1) ls T = sp_lines nf (ls ++ [l]) (r.drop 1) := by
  conv => lhs; unfold sp_lines
  rw [h]
  cases r with
  | nil => exact absurd hw (by decide)
  | cons t q =>
    obtain ⟨w, x⟩ := t
    exact if_pos hw

section FXA2
variable {K : et_K} {G G0 : eg_G} {b : Nat → Nat} {d2 d am aw tm n p pl k dp m i : Nat}
theorem fr_one (hH : et_H et_TT K G) (k_am : K am = some 13) (m4 : et_pl (eg_at G am) 4 = some (.ref tm)) (k_tm : K tm = some 34) (m7 : et_pl (eg_at G am) 7 = some (.int (Int32.ofNat n))) (hn : n ≤ 400) (ht : ∀ i, i < n → et_pl (eg_at G tm) i = some (.int (sx (b i)))) (hb : ∀ i, i < n → b i < 256) (m6 : et_pl (eg_at G am) 6 = some (.int (Int32.ofNat p))) (ha : tal b n p) (hpl : pl ≤ 2) (m13 : et_pl (eg_at G am) 13 = some (.int (Int32.ofNat pl))) (k_aw : K aw = some 46) (m1 : et_pl (eg_at G am) 1 = some (.ref aw)) (m12 : et_pl (eg_at G am) 12 = some (.int (Int32.ofNat k))) (hk0 : k = 0) (hd : 32 ≤ d2) : et_go none d2 203 0 (eg_en (eg_mL 203) [.ref am]) [] G 0 0 (xw_Z (fun c j => (c = am ∧ j = 6) ∨ (c = am ∧ j = 8) ∨ (c = am ∧ j = 9) ∨ (c = am ∧ j = 12) ∨ (c = aw ∧ 11900 ≤ j)) K G (fun G' v => (sp_one (tz_ts pl b n p) = none ∧ v = some (.int (Int32.ofNat 0))) ∨ ∃ f C, sp_one (tz_ts pl b n p) = some f ∧ v = some (.int (Int32.ofNat 1)) ∧ et_pl (eg_at G' aw) 11900 = some (.int (Int32.ofNat 1)) ∧ et_pl (eg_at G' aw) 11903 = some (.int (Int32.ofNat 0)) ∧ et_pl (eg_at G' aw) 11904 = some (.int (Int32.ofNat C.length)) ∧ hasC G' aw 0 C ∧ dnB pl f C)) := by
  subst hk0
  have htn := ts_len (b := b) (pl := pl) (n := n) (p := p)
  obtain ⟨d, rfl⟩ : ∃ d, d2 = d + 32 := ⟨d2 - 32, by omega⟩
  rw [show eg_mL 203 = 2 from by decide +kernel]
  show et_go none (d + 32) 203 0 [some (.ref am), none] [] G 0 0 (xw_Z _ _ _ _)
  have hne : ¬ aw = am := hi_ne k_aw k_am (by decide)
  have lt_am := (hH.2.2 _ _ k_am).1
  have lt_tm := (hH.2.2 _ _ k_tm).1
  have lt_aw := (hH.2.2 _ _ k_aw).1
  have hX : xf (fun c j => (c = am ∧ j = 6) ∨ (c = am ∧ j = 8) ∨ (c = am ∧ j = 9) ∨ (c = am ∧ j = 12) ∨ (c = aw ∧ 11900 ≤ j)) G G := xf.rf
  refine hs_aload (i := 0) (p := 1) (by decide +kernel) rfl ?_
  refine hs_k (x := Int32.ofNat 0) (p := 2) (by decide +kernel) ?_
  refine hf_put (T := et_TT) (t := 13) (ci := 11) (f := 9) (p := 5) (ty := .int) (by decide +kernel) rfl rfl rfl rfl rfl hH k_am (hi_nv (by omega) (by omega)) (fun G2 hH x2 e2 => ?_)
  have m4 := (x2.2 am 4 lt_am (fun h => absurd h.2 (by decide))).trans m4
  have m7 := (x2.2 am 7 lt_am (fun h => absurd h.2 (by decide))).trans m7
  have m6 := (x2.2 am 6 lt_am (fun h => absurd h.2 (by decide))).trans m6
  have m13 := (x2.2 am 13 lt_am (fun h => absurd h.2 (by decide))).trans m13
  have m1 := (x2.2 am 1 lt_am (fun h => absurd h.2 (by decide))).trans m1
  have m12 := (x2.2 am 12 lt_am (fun h => absurd h.2 (by decide))).trans m12
  have ht : ∀ i, i < n → et_pl (eg_at G2 tm) i = some (.int (sx (b i))) := fun i hi => (x2.2 tm i lt_tm (fun h => (hi_ne k_tm k_am (by decide)) h.1)).trans (ht i hi)
  have lt_am := Nat.lt_of_lt_of_le lt_am x2.1
  have lt_tm := Nat.lt_of_lt_of_le lt_tm x2.1
  have lt_aw := Nat.lt_of_lt_of_le lt_aw x2.1
  have hX := hX.tr x2 (fun b j hb h => by first | omega | (dsimp only at h ⊢; omega) | (dsimp only at h; omega) | (dsimp only; omega))
  refine hs_k (x := Int32.ofNat 14) (p := 7) (by decide +kernel) ?_
  refine hs_k (x := Int32.ofNat 0) (p := 8) (by decide +kernel) ?_
  refine hs_calls (mi := 189) (na := 2) (lk := 2) (lm := 2) (L0 := eg_en (eg_mL 189) [.int (Int32.ofNat 14), .int (Int32.ofNat 0)]) (by decide +kernel) rfl rfl rfl rfl rfl rfl (by rw [show eg_mL 189 = 2 from by decide +kernel]; first | done | rfl) ?_
  refine (fm_line (by omega)).mono (fun u hu => xp_cb hu ?_)
  show et_go none _ 203 11 _ [.int (Int32.ofNat (126 + 841 * 14 + 1 + 4 * 0))] _ _ _ _
  refine hs_istore (i := 1) (p := 12) (by decide +kernel) (Nat.le_of_ble_eq_true rfl) ?_
  refine hs_aload (i := 0) (p := 13) (by decide +kernel) rfl ?_
  refine hf_get (T := et_TT) (t := 13) (ci := 11) (f := 1) (p := 16) (by decide +kernel) rfl hH k_am m1 ?_
  refine hs_k (x := Int32.ofNat 14) (p := 18) (by decide +kernel) ?_
  refine hs_calls (mi := 186) (na := 1) (lk := 2) (lm := 1) (L0 := eg_en (eg_mL 186) [.int (Int32.ofNat 14)]) (by decide +kernel) rfl rfl rfl rfl rfl rfl (by rw [show eg_mL 186 = 1 from by decide +kernel]; first | done | rfl) ?_
  refine (fm_text).mono (fun u hu => xp_cb hu ?_)
  show et_go none _ 203 21 _ [.int (Int32.ofNat (126 + 841 * 14)), .ref aw] _ _ _ _
  refine hs_k (x := Int32.ofNat 1) (p := 22) (by decide +kernel) ?_
  refine hf_wsd (p := 23) (by decide +kernel) hH k_aw (by omega) (by omega) (fun G22 hH x22 e22 => ?_)
  have m4 := (x22.2 am 4 lt_am (fun h => (hi_ne k_am k_aw (by decide)) h.1)).trans m4
  have m7 := (x22.2 am 7 lt_am (fun h => (hi_ne k_am k_aw (by decide)) h.1)).trans m7
  have m6 := (x22.2 am 6 lt_am (fun h => (hi_ne k_am k_aw (by decide)) h.1)).trans m6
  have m13 := (x22.2 am 13 lt_am (fun h => (hi_ne k_am k_aw (by decide)) h.1)).trans m13
  have m1 := (x22.2 am 1 lt_am (fun h => (hi_ne k_am k_aw (by decide)) h.1)).trans m1
  have m12 := (x22.2 am 12 lt_am (fun h => (hi_ne k_am k_aw (by decide)) h.1)).trans m12
  have e2 := (x22.2 am 9 lt_am (fun h => (hi_ne k_am k_aw (by decide)) h.1)).trans e2
  have ht : ∀ i, i < n → et_pl (eg_at G22 tm) i = some (.int (sx (b i))) := fun i hi => (x22.2 tm i lt_tm (fun h => (hi_ne k_tm k_aw (by decide)) h.1)).trans (ht i hi)
  have lt_am := Nat.lt_of_lt_of_le lt_am x22.1
  have lt_tm := Nat.lt_of_lt_of_le lt_tm x22.1
  have lt_aw := Nat.lt_of_lt_of_le lt_aw x22.1
  have hX := hX.tr x22 (fun b j hb h => by first | omega | (dsimp only at h ⊢; omega) | (dsimp only at h; omega) | (dsimp only; omega))
  refine hs_aload (i := 0) (p := 24) (by decide +kernel) rfl ?_
  refine hf_get (T := et_TT) (t := 13) (ci := 11) (f := 1) (p := 27) (by decide +kernel) rfl hH k_am m1 ?_
  refine hs_iload (i := 1) (p := 28) (by decide +kernel) rfl ?_
  refine hs_k (x := Int32.ofNat 2) (p := 29) (by decide +kernel) ?_
  refine hs_iaddn (p := 30) (by decide +kernel) ?_
  refine hs_k (x := Int32.ofNat 0) (p := 31) (by decide +kernel) ?_
  refine hf_wsd (p := 32) (by decide +kernel) hH k_aw (by omega) (by omega) (fun G31 hH x31 e31 => ?_)
  have m4 := (x31.2 am 4 lt_am (fun h => (hi_ne k_am k_aw (by decide)) h.1)).trans m4
  have m7 := (x31.2 am 7 lt_am (fun h => (hi_ne k_am k_aw (by decide)) h.1)).trans m7
  have m6 := (x31.2 am 6 lt_am (fun h => (hi_ne k_am k_aw (by decide)) h.1)).trans m6
  have m13 := (x31.2 am 13 lt_am (fun h => (hi_ne k_am k_aw (by decide)) h.1)).trans m13
  have m1 := (x31.2 am 1 lt_am (fun h => (hi_ne k_am k_aw (by decide)) h.1)).trans m1
  have m12 := (x31.2 am 12 lt_am (fun h => (hi_ne k_am k_aw (by decide)) h.1)).trans m12
  have e2 := (x31.2 am 9 lt_am (fun h => (hi_ne k_am k_aw (by decide)) h.1)).trans e2
  have e22 := (x31.2 aw (126 + 841 * 14) lt_aw (fun h => by have h := h.2; omega)).trans e22
  have ht : ∀ i, i < n → et_pl (eg_at G31 tm) i = some (.int (sx (b i))) := fun i hi => (x31.2 tm i lt_tm (fun h => (hi_ne k_tm k_aw (by decide)) h.1)).trans (ht i hi)
  have lt_am := Nat.lt_of_lt_of_le lt_am x31.1
  have lt_tm := Nat.lt_of_lt_of_le lt_tm x31.1
  have lt_aw := Nat.lt_of_lt_of_le lt_aw x31.1
  have hX := hX.tr x31 (fun b j hb h => by first | omega | (dsimp only at h ⊢; omega) | (dsimp only at h; omega) | (dsimp only; omega))
  refine hs_aload (i := 0) (p := 33) (by decide +kernel) rfl ?_
  refine ht_callv (T := et_TT) (t := 13) (mi := 193) (na := 0) (ci := 11) (lk := 2) (lm := 1) (L0 := eg_en (eg_mL 193) [.ref am]) (by decide +kernel) rfl hH k_am rfl rfl rfl rfl rfl (by rw [show eg_mL 193 = 1 from by decide +kernel]; first | done | rfl) ?_
  refine ((fr_cond 6).2 _ _ _ _ _ _ _ _ _ _ _ _ hH k_am m4 k_tm m7 hn ht hb m6 ha hpl m13 k_aw m1 m12 e2 (by omega) (by omega) (by omega)).mono (fun u hu => xw_cb hu (fun G33 v33 hH x33 hP33 => ?_))
  have x33 : xf (fun c j => (c = am ∧ j = 6) ∨ (c = am ∧ j = 8) ∨ (c = am ∧ j = 9) ∨ (c = am ∧ j = 12) ∨ (c = aw ∧ (11941 + 2 * 0) ≤ j)) _ _ := x33
  have m4 := (x33.2 am 4 lt_am (fun h => Or.elim h (fun h => absurd h.2 (by decide)) (fun h => Or.elim h (fun h => absurd h.2 (by decide)) (fun h => Or.elim h (fun h => absurd h.2 (by decide)) (fun h => Or.elim h (fun h => absurd h.2 (by decide)) (fun h => (hi_ne k_am k_aw (by decide)) h.1)))))).trans m4
  have m7 := (x33.2 am 7 lt_am (fun h => Or.elim h (fun h => absurd h.2 (by decide)) (fun h => Or.elim h (fun h => absurd h.2 (by decide)) (fun h => Or.elim h (fun h => absurd h.2 (by decide)) (fun h => Or.elim h (fun h => absurd h.2 (by decide)) (fun h => (hi_ne k_am k_aw (by decide)) h.1)))))).trans m7
  have m13 := (x33.2 am 13 lt_am (fun h => Or.elim h (fun h => absurd h.2 (by decide)) (fun h => Or.elim h (fun h => absurd h.2 (by decide)) (fun h => Or.elim h (fun h => absurd h.2 (by decide)) (fun h => Or.elim h (fun h => absurd h.2 (by decide)) (fun h => (hi_ne k_am k_aw (by decide)) h.1)))))).trans m13
  have m1 := (x33.2 am 1 lt_am (fun h => Or.elim h (fun h => absurd h.2 (by decide)) (fun h => Or.elim h (fun h => absurd h.2 (by decide)) (fun h => Or.elim h (fun h => absurd h.2 (by decide)) (fun h => Or.elim h (fun h => absurd h.2 (by decide)) (fun h => (hi_ne k_am k_aw (by decide)) h.1)))))).trans m1
  have e22 := (x33.2 aw (126 + 841 * 14) lt_aw (fun h => Or.elim h (fun h => hne h.1) (fun h => Or.elim h (fun h => hne h.1) (fun h => Or.elim h (fun h => hne h.1) (fun h => Or.elim h (fun h => hne h.1) (fun h => by have h := h.2; omega)))))).trans e22
  have e31 := (x33.2 aw ((126 + 841 * 14 + 1 + 4 * 0) + 2) lt_aw (fun h => Or.elim h (fun h => hne h.1) (fun h => Or.elim h (fun h => hne h.1) (fun h => Or.elim h (fun h => hne h.1) (fun h => Or.elim h (fun h => hne h.1) (fun h => by have h := h.2; omega)))))).trans e31
  have ht : ∀ i, i < n → et_pl (eg_at G33 tm) i = some (.int (sx (b i))) := fun i hi => (x33.2 tm i lt_tm (fun h => Or.elim h (fun h => (hi_ne k_tm k_am (by decide)) h.1) (fun h => Or.elim h (fun h => (hi_ne k_tm k_am (by decide)) h.1) (fun h => Or.elim h (fun h => (hi_ne k_tm k_am (by decide)) h.1) (fun h => Or.elim h (fun h => (hi_ne k_tm k_am (by decide)) h.1) (fun h => (hi_ne k_tm k_aw (by decide)) h.1)))))).trans (ht i hi)
  have lt_am := Nat.lt_of_lt_of_le lt_am x33.1
  have lt_tm := Nat.lt_of_lt_of_le lt_tm x33.1
  have lt_aw := Nat.lt_of_lt_of_le lt_aw x33.1
  have hX := hX.tr x33 (fun b j hb h => by first | omega | (dsimp only at h ⊢; omega) | (dsimp only at h; omega) | (dsimp only; omega))
  rcases hP33 with ⟨sp33, rfl⟩ | ⟨f33, p33, C33, sp33, rfl, q6_33, ha33, q12_33, q9_33, hC33, hR33, hl33⟩
  · show et_go none _ 203 36 _ [.int (Int32.ofNat 0)] _ _ _ _
    refine hs_if0 (c := .ne) (t := 41) (f := 39) (by decide +kernel) (show ¬ (¬ Int32.ofNat 0 = 0) by decide) ?_
    refine hs_k (x := Int32.ofNat 0) (p := 40) (by decide +kernel) ?_
    refine hs_zret (by decide +kernel) (.inl rfl) ?_
    exact ⟨_, _, rfl, hH, hX, .inl ⟨one_n sp33, rfl⟩⟩
  · show et_go none _ 203 36 _ [.int (Int32.ofNat 1)] _ _ _ _
    refine hs_if1 (c := .ne) (t := 41) (f := 39) (by decide +kernel) (show ¬ Int32.ofNat 1 = 0 by decide) ?_
    refine hs_aload (i := 0) (p := 42) (by decide +kernel) rfl ?_
    refine hf_get (T := et_TT) (t := 13) (ci := 11) (f := 1) (p := 45) (by decide +kernel) rfl hH k_am m1 ?_
    refine hs_iload (i := 1) (p := 46) (by decide +kernel) rfl ?_
    refine hs_k (x := Int32.ofNat 3) (p := 47) (by decide +kernel) ?_
    refine hs_iaddn (p := 48) (by decide +kernel) ?_
    refine hs_aload (i := 0) (p := 49) (by decide +kernel) rfl ?_
    refine hf_get (T := et_TT) (t := 13) (ci := 11) (f := 12) (p := 52) (by decide +kernel) rfl hH k_am q12_33 ?_
    refine hf_wsd (p := 53) (by decide +kernel) hH k_aw (by omega) (by omega) (fun G52 hH x52 e52 => ?_)
    have hC33 := hC33.fr x52 lt_aw (fun j h1 h2 hs => by first | omega | (dsimp only at hs h2; omega))
    have m4 := (x52.2 am 4 lt_am (fun h => (hi_ne k_am k_aw (by decide)) h.1)).trans m4
    have m7 := (x52.2 am 7 lt_am (fun h => (hi_ne k_am k_aw (by decide)) h.1)).trans m7
    have q6_33 := (x52.2 am 6 lt_am (fun h => (hi_ne k_am k_aw (by decide)) h.1)).trans q6_33
    have m13 := (x52.2 am 13 lt_am (fun h => (hi_ne k_am k_aw (by decide)) h.1)).trans m13
    have m1 := (x52.2 am 1 lt_am (fun h => (hi_ne k_am k_aw (by decide)) h.1)).trans m1
    have q12_33 := (x52.2 am 12 lt_am (fun h => (hi_ne k_am k_aw (by decide)) h.1)).trans q12_33
    have q9_33 := (x52.2 am 9 lt_am (fun h => (hi_ne k_am k_aw (by decide)) h.1)).trans q9_33
    have e22 := (x52.2 aw (126 + 841 * 14) lt_aw (fun h => by have h := h.2; omega)).trans e22
    have e31 := (x52.2 aw ((126 + 841 * 14 + 1 + 4 * 0) + 2) lt_aw (fun h => by have h := h.2; omega)).trans e31
    have ht : ∀ i, i < n → et_pl (eg_at G52 tm) i = some (.int (sx (b i))) := fun i hi => (x52.2 tm i lt_tm (fun h => (hi_ne k_tm k_aw (by decide)) h.1)).trans (ht i hi)
    have lt_am := Nat.lt_of_lt_of_le lt_am x52.1
    have lt_tm := Nat.lt_of_lt_of_le lt_tm x52.1
    have lt_aw := Nat.lt_of_lt_of_le lt_aw x52.1
    have hX := hX.tr x52 (fun b j hb h => by first | omega | (dsimp only at h ⊢; omega) | (dsimp only at h; omega) | (dsimp only; omega))
    refine hs_aload (i := 0) (p := 54) (by decide +kernel) rfl ?_
    refine ht_callv (T := et_TT) (t := 13) (mi := 184) (na := 0) (ci := 11) (lk := 2) (lm := 1) (L0 := eg_en (eg_mL 184) [.ref am]) (by decide +kernel) rfl hH k_am rfl rfl rfl rfl rfl (by rw [show eg_mL 184 = 1 from by decide +kernel]; first | done | rfl) ?_
    refine (fm_bl hH k_am m4 k_tm m7 hn ht hb q6_33 ha33.1 (by omega)).mono (fun u hu => xw_cb hu (fun G54 v54 hH x54 hP54 => ?_))
    have hC33 := hC33.fr x54 lt_aw (fun j h1 h2 hs => by first | omega | (dsimp only at hs h2; omega))
    have m4 := (x54.2 am 4 lt_am (fun h => Or.elim h (fun h => absurd h.2 (by decide)) (fun h => absurd h.2 (by decide)))).trans m4
    have m7 := (x54.2 am 7 lt_am (fun h => Or.elim h (fun h => absurd h.2 (by decide)) (fun h => absurd h.2 (by decide)))).trans m7
    have m13 := (x54.2 am 13 lt_am (fun h => Or.elim h (fun h => absurd h.2 (by decide)) (fun h => absurd h.2 (by decide)))).trans m13
    have m1 := (x54.2 am 1 lt_am (fun h => Or.elim h (fun h => absurd h.2 (by decide)) (fun h => absurd h.2 (by decide)))).trans m1
    have q12_33 := (x54.2 am 12 lt_am (fun h => Or.elim h (fun h => absurd h.2 (by decide)) (fun h => absurd h.2 (by decide)))).trans q12_33
    have q9_33 := (x54.2 am 9 lt_am (fun h => Or.elim h (fun h => absurd h.2 (by decide)) (fun h => absurd h.2 (by decide)))).trans q9_33
    have e22 := (x54.2 aw (126 + 841 * 14) lt_aw (fun h => Or.elim h (fun h => hne h.1) (fun h => hne h.1))).trans e22
    have e31 := (x54.2 aw ((126 + 841 * 14 + 1 + 4 * 0) + 2) lt_aw (fun h => Or.elim h (fun h => hne h.1) (fun h => hne h.1))).trans e31
    have e52 := (x54.2 aw ((126 + 841 * 14 + 1 + 4 * 0) + 3) lt_aw (fun h => Or.elim h (fun h => hne h.1) (fun h => hne h.1))).trans e52
    have ht : ∀ i, i < n → et_pl (eg_at G54 tm) i = some (.int (sx (b i))) := fun i hi => (x54.2 tm i lt_tm (fun h => Or.elim h (fun h => (hi_ne k_tm k_am (by decide)) h.1) (fun h => (hi_ne k_tm k_am (by decide)) h.1))).trans (ht i hi)
    have lt_am := Nat.lt_of_lt_of_le lt_am x54.1
    have lt_tm := Nat.lt_of_lt_of_le lt_tm x54.1
    have lt_aw := Nat.lt_of_lt_of_le lt_aw x54.1
    have hX := hX.tr x54 (fun b j hb h => by first | omega | (dsimp only at h ⊢; omega) | (dsimp only at h; omega) | (dsimp only; omega))
    obtain ⟨rfl, q6_54, q8_54⟩ := hP54
    have hsk := skp_le (b := b) (n := n) (p := p33) ha33.1
    have tk54 := tok_al (pl := pl) ha33
    have tn54 := congrArg List.length tk54.2
    show et_go none _ 203 57 _ [] _ _ _ _
    refine hs_aload (i := 0) (p := 58) (by decide +kernel) rfl ?_
    refine hf_get (T := et_TT) (t := 13) (ci := 11) (f := 6) (p := 61) (by decide +kernel) rfl hH k_am q6_54 ?_
    refine hs_aload (i := 0) (p := 62) (by decide +kernel) rfl ?_
    refine hf_get (T := et_TT) (t := 13) (ci := 11) (f := 7) (p := 65) (by decide +kernel) rfl hH k_am m7 ?_
    refine hs_br2n (c := .ne) (t := 72) (f := 68) (by decide +kernel) (by omega) (by omega) (fun (c65 : ¬ (skp b n p33) = n) => ?_) (fun (c65 : ¬ (¬ (skp b n p33) = n)) => ?_)
    · refine hs_k (x := Int32.ofNat 0) (p := 73) (by decide +kernel) ?_
      refine hs_zret (by decide +kernel) (.inl rfl) ?_
      exact ⟨_, _, rfl, hH, hX, .inl ⟨one_x sp33 (fun h => absurd ((ts_end ha33).mp h) (by omega)), rfl⟩⟩
    · refine hs_k (x := Int32.ofNat 1) (p := 69) (by decide +kernel) ?_
      refine hs_goto (p := 73) (by decide +kernel) ?_
      refine hs_zret (by decide +kernel) (.inr rfl) ?_
      have c65 : skp b n p33 = n := by omega
      exact ⟨_, _, rfl, hH, hX, .inr ⟨_, C33, one_y sp33 ((ts_end (pl := pl) ha33).mpr c65), rfl, pl_eq e22 (by omega), pl_eq e31 (by omega), pl_eq e52 (by omega) |>.trans (by rw [Nat.zero_add]), hC33, hR33⟩⟩
theorem fr_line (hH : et_H et_TT K G) (k_am : K am = some 13) (m4 : et_pl (eg_at G am) 4 = some (.ref tm)) (k_tm : K tm = some 34) (m7 : et_pl (eg_at G am) 7 = some (.int (Int32.ofNat n))) (hn : n ≤ 400) (ht : ∀ i, i < n → et_pl (eg_at G tm) i = some (.int (sx (b i)))) (hb : ∀ i, i < n → b i < 256) (m6 : et_pl (eg_at G am) 6 = some (.int (Int32.ofNat p))) (ha : tal b n p) (hpl : pl ≤ 2) (m13 : et_pl (eg_at G am) 13 = some (.int (Int32.ofNat pl))) (k_aw : K aw = some 46) (m1 : et_pl (eg_at G am) 1 = some (.ref aw)) (m12 : et_pl (eg_at G am) 12 = some (.int (Int32.ofNat k))) (hp1 : pl = 1) (hk : k + (tz_ts pl b n p).length ≤ 400) (hi : i ≤ 9) (hd : 32 ≤ d2) : et_go none d2 187 0 (eg_en (eg_mL 187) [.ref am, .int (Int32.ofNat i)]) [] G 0 0 (xw_Z (fun c j => (c = am ∧ j = 6) ∨ (c = am ∧ j = 8) ∨ (c = am ∧ j = 9) ∨ (c = am ∧ j = 12) ∨ (c = aw ∧ ((11901 + 4 * i) ≤ j ∧ j ≤ (11904 + 4 * i))) ∨ (c = aw ∧ (11941 + 2 * k) ≤ j)) K G (fun G' v => (sp_line (tz_ts pl b n p) = none ∧ v = some (.int (Int32.ofNat 0))) ∨ ∃ l p' k', sp_line (tz_ts pl b n p) = some (l, tz_ts pl b n p') ∧ v = some (.int (Int32.ofNat 1)) ∧ et_pl (eg_at G' am) 6 = some (.int (Int32.ofNat p')) ∧ tal b n p' ∧ et_pl (eg_at G' am) 12 = some (.int (Int32.ofNat k')) ∧ k ≤ k' ∧ k' + (tz_ts pl b n p').length + 2 ≤ k + (tz_ts pl b n p).length ∧ lnP G' aw pl i k' l)) := by
  obtain ⟨d, rfl⟩ : ∃ d, d2 = d + 32 := ⟨d2 - 32, by omega⟩
  rw [show eg_mL 187 = 3 from by decide +kernel]
  show et_go none (d + 32) 187 0 [some (.ref am), some (.int (Int32.ofNat i)), none] [] G 0 0 (xw_Z _ _ _ _)
  have hne : ¬ aw = am := hi_ne k_aw k_am (by decide)
  have lt_am := (hH.2.2 _ _ k_am).1
  have lt_tm := (hH.2.2 _ _ k_tm).1
  have lt_aw := (hH.2.2 _ _ k_aw).1
  have hX : xf (fun c j => (c = am ∧ j = 6) ∨ (c = am ∧ j = 8) ∨ (c = am ∧ j = 9) ∨ (c = am ∧ j = 12) ∨ (c = aw ∧ ((11901 + 4 * i) ≤ j ∧ j ≤ (11904 + 4 * i))) ∨ (c = aw ∧ (11941 + 2 * k) ≤ j)) G G := xf.rf
  refine hs_aload (i := 0) (p := 1) (by decide +kernel) rfl ?_
  refine ht_callv (T := et_TT) (t := 13) (mi := 188) (na := 0) (ci := 11) (lk := 3) (lm := 1) (L0 := eg_en (eg_mL 188) [.ref am]) (by decide +kernel) rfl hH k_am rfl rfl rfl rfl rfl (by rw [show eg_mL 188 = 1 from by decide +kernel]; first | done | rfl) ?_
  refine (fm_let hH k_am m4 k_tm m7 hn ht hb m6 ha.1 (by omega)).mono (fun u hu => xw_cb hu (fun G1 v1 hH x1 hP1 => ?_))
  have m4 := (x1.2 am 4 lt_am (fun h => Or.elim h (fun h => absurd h.2 (by decide)) (fun h => absurd h.2 (by decide)))).trans m4
  have m7 := (x1.2 am 7 lt_am (fun h => Or.elim h (fun h => absurd h.2 (by decide)) (fun h => absurd h.2 (by decide)))).trans m7
  have m13 := (x1.2 am 13 lt_am (fun h => Or.elim h (fun h => absurd h.2 (by decide)) (fun h => absurd h.2 (by decide)))).trans m13
  have m1 := (x1.2 am 1 lt_am (fun h => Or.elim h (fun h => absurd h.2 (by decide)) (fun h => absurd h.2 (by decide)))).trans m1
  have m12 := (x1.2 am 12 lt_am (fun h => Or.elim h (fun h => absurd h.2 (by decide)) (fun h => absurd h.2 (by decide)))).trans m12
  have ht : ∀ i, i < n → et_pl (eg_at G1 tm) i = some (.int (sx (b i))) := fun i hi => (x1.2 tm i lt_tm (fun h => Or.elim h (fun h => (hi_ne k_tm k_am (by decide)) h.1) (fun h => (hi_ne k_tm k_am (by decide)) h.1))).trans (ht i hi)
  have lt_am := Nat.lt_of_lt_of_le lt_am x1.1
  have lt_tm := Nat.lt_of_lt_of_le lt_tm x1.1
  have lt_aw := Nat.lt_of_lt_of_le lt_aw x1.1
  have hX := hX.tr x1 (fun b j hb h => by first | omega | (dsimp only at h ⊢; omega) | (dsimp only at h; omega) | (dsimp only; omega))
  obtain ⟨rfl, q6_1, q8_1⟩ := hP1
  have hsk := skp_le (b := b) (n := n) (p := p) ha.1
  have hls := lst_le (b := b) hsk.2
  have tk1 := tok_al (pl := pl) ha
  have tn1 := congrArg List.length tk1.2
  show et_go none _ 187 4 _ [] _ _ _ _
  refine hs_iload (i := 1) (p := 5) (by decide +kernel) rfl ?_
  refine hs_k (x := Int32.ofNat 10) (p := 7) (by decide +kernel) ?_
  refine hs_br2n (c := .ne) (t := 12) (f := 10) (by decide +kernel) (by omega) (by omega) (fun (c7 : ¬ i = 10) => ?_) (fun (c7 : ¬ (¬ i = 10)) => ?_)
  · refine hs_k (x := Int32.ofNat 14) (p := 14) (by decide +kernel) ?_
    refine hs_iload (i := 1) (p := 15) (by decide +kernel) rfl ?_
    refine hs_calls (mi := 189) (na := 2) (lk := 3) (lm := 2) (L0 := eg_en (eg_mL 189) [.int (Int32.ofNat 14), .int (Int32.ofNat i)]) (by decide +kernel) rfl rfl rfl rfl rfl rfl (by rw [show eg_mL 189 = 2 from by decide +kernel]; first | done | rfl) ?_
    refine (fm_line (by omega)).mono (fun u hu => xp_cb hu ?_)
    show et_go none _ 187 18 _ [.int (Int32.ofNat (126 + 841 * 14 + 1 + 4 * i))] _ _ _ _
    refine hs_istore (i := 2) (p := 19) (by decide +kernel) (Nat.le_of_ble_eq_true rfl) ?_
    refine hs_aload (i := 0) (p := 20) (by decide +kernel) rfl ?_
    refine hf_get (T := et_TT) (t := 13) (ci := 11) (f := 1) (p := 23) (by decide +kernel) rfl hH k_am m1 ?_
    refine hs_iload (i := 2) (p := 24) (by decide +kernel) rfl ?_
    refine hs_aload (i := 0) (p := 25) (by decide +kernel) rfl ?_
    refine hs_kld (v := .ref 36) (p := 27) (by decide +kernel) ?_
    refine ht_callv (T := et_TT) (t := 13) (mi := 190) (na := 1) (ci := 11) (lk := 3) (lm := 4) (L0 := eg_en (eg_mL 190) [.ref am, .ref 36]) (by decide +kernel) rfl hH k_am rfl rfl rfl rfl rfl (by rw [show eg_mL 190 = 4 from by decide +kernel]; first | done | rfl) ?_
    refine (pa_isW (pl := pl) (w := 29) (j := 0) hH k_am m4 k_tm m7 hn ht hb q6_1 q8_1 ha hpl (by decide) (by decide) (okp (by rw [hp1]; decide +kernel)) (by decide +kernel) (by decide +kernel) (by omega)).mono (fun u hu => xp_cb hu ?_)
    by_cases i29 : wat (tz_ts pl b n p) 0 = 29
    · rw [if_pos i29]
      have wt29 := tok_ly (pl := pl) ha (show 29 < 33 by decide) (by decide +kernel) i29
      have wm29 := wt29.2.2
      show et_go none _ 187 30 _ [.int (Int32.ofNat 1), .int (Int32.ofNat (126 + 841 * 14 + 1 + 4 * i)), .ref aw] _ _ _ _
      refine hs_if0 (c := .eq) (t := 37) (f := 33) (by decide +kernel) (show ¬ (Int32.ofNat 1 = 0) by decide) ?_
      refine hs_k (x := Int32.ofNat 0) (p := 34) (by decide +kernel) ?_
      refine hs_goto (p := 51) (by decide +kernel) ?_
      refine hf_wsd (p := 52) (by decide +kernel) hH k_aw (by omega) (by omega) (fun G51 hH x51 e51 => ?_)
      have m4 := (x51.2 am 4 lt_am (fun h => (hi_ne k_am k_aw (by decide)) h.1)).trans m4
      have m7 := (x51.2 am 7 lt_am (fun h => (hi_ne k_am k_aw (by decide)) h.1)).trans m7
      have q6_1 := (x51.2 am 6 lt_am (fun h => (hi_ne k_am k_aw (by decide)) h.1)).trans q6_1
      have m13 := (x51.2 am 13 lt_am (fun h => (hi_ne k_am k_aw (by decide)) h.1)).trans m13
      have m1 := (x51.2 am 1 lt_am (fun h => (hi_ne k_am k_aw (by decide)) h.1)).trans m1
      have m12 := (x51.2 am 12 lt_am (fun h => (hi_ne k_am k_aw (by decide)) h.1)).trans m12
      have q8_1 := (x51.2 am 8 lt_am (fun h => (hi_ne k_am k_aw (by decide)) h.1)).trans q8_1
      have ht : ∀ i, i < n → et_pl (eg_at G51 tm) i = some (.int (sx (b i))) := fun i hi => (x51.2 tm i lt_tm (fun h => (hi_ne k_tm k_aw (by decide)) h.1)).trans (ht i hi)
      have lt_am := Nat.lt_of_lt_of_le lt_am x51.1
      have lt_tm := Nat.lt_of_lt_of_le lt_tm x51.1
      have lt_aw := Nat.lt_of_lt_of_le lt_aw x51.1
      have hX := hX.tr x51 (fun b j hb h => by first | omega | (dsimp only at h ⊢; omega) | (dsimp only at h; omega) | (dsimp only; omega))
      refine hs_aload (i := 0) (p := 53) (by decide +kernel) rfl ?_
      refine hf_get (T := et_TT) (t := 13) (ci := 11) (f := 1) (p := 56) (by decide +kernel) rfl hH k_am m1 ?_
      refine hs_iload (i := 2) (p := 57) (by decide +kernel) rfl ?_
      refine hf_ald (ins := .iaload) (T := et_TT) (t := 46) (kd := 0) (N := 12741) (p := 58) (by decide +kernel) (fun _ _ _ _ _ _ _ _ _ _ => rfl) rfl rfl rfl hH k_aw (by decide) e51 ?_
      refine hs_if1 (c := .ge) (t := 63) (f := 61) (by decide +kernel) (show 0 ≤ Int32.ofNat 0 by decide) ?_
      refine hs_aload (i := 0) (p := 64) (by decide +kernel) rfl ?_
      refine hf_get (T := et_TT) (t := 13) (ci := 11) (f := 1) (p := 67) (by decide +kernel) rfl hH k_am m1 ?_
      refine hs_iload (i := 2) (p := 68) (by decide +kernel) rfl ?_
      refine hs_k (x := Int32.ofNat 1) (p := 69) (by decide +kernel) ?_
      refine hs_iaddn (p := 70) (by decide +kernel) ?_
      refine hs_aload (i := 0) (p := 71) (by decide +kernel) rfl ?_
      refine hs_k (x := Int32.ofNat 50) (p := 73) (by decide +kernel) ?_
      refine ht_callv (T := et_TT) (t := 13) (mi := 191) (na := 1) (ci := 11) (lk := 3) (lm := 3) (L0 := eg_en (eg_mL 191) [.ref am, .int (Int32.ofNat 50)]) (by decide +kernel) rfl hH k_am rfl rfl rfl rfl rfl (by rw [show eg_mL 191 = 3 from by decide +kernel]; first | done | rfl) ?_
      refine (pa_num (pl := pl) hH k_am m4 k_tm m7 hn ht hb q6_1 wt29.1 (by decide) (by omega)).mono (fun u hu => xw_cb hu (fun G73 v73 hH x73 hP73 => ?_))
      have m4 := (x73.2 am 4 lt_am (fun h => Or.elim h (fun h => absurd h.2 (by decide)) (fun h => absurd h.2 (by decide)))).trans m4
      have m7 := (x73.2 am 7 lt_am (fun h => Or.elim h (fun h => absurd h.2 (by decide)) (fun h => absurd h.2 (by decide)))).trans m7
      have m13 := (x73.2 am 13 lt_am (fun h => Or.elim h (fun h => absurd h.2 (by decide)) (fun h => absurd h.2 (by decide)))).trans m13
      have m1 := (x73.2 am 1 lt_am (fun h => Or.elim h (fun h => absurd h.2 (by decide)) (fun h => absurd h.2 (by decide)))).trans m1
      have m12 := (x73.2 am 12 lt_am (fun h => Or.elim h (fun h => absurd h.2 (by decide)) (fun h => absurd h.2 (by decide)))).trans m12
      have e51 := (x73.2 aw (126 + 841 * 14 + 1 + 4 * i) lt_aw (fun h => Or.elim h (fun h => hne h.1) (fun h => hne h.1))).trans e51
      have ht : ∀ i, i < n → et_pl (eg_at G73 tm) i = some (.int (sx (b i))) := fun i hi => (x73.2 tm i lt_tm (fun h => Or.elim h (fun h => (hi_ne k_tm k_am (by decide)) h.1) (fun h => (hi_ne k_tm k_am (by decide)) h.1))).trans (ht i hi)
      have lt_am := Nat.lt_of_lt_of_le lt_am x73.1
      have lt_tm := Nat.lt_of_lt_of_le lt_tm x73.1
      have lt_aw := Nat.lt_of_lt_of_le lt_aw x73.1
      have hX := hX.tr x73 (fun b j hb h => by first | omega | (dsimp only at h ⊢; omega) | (dsimp only at h; omega) | (dsimp only; omega))
      rcases hP73 with ⟨v73x, p73, te73, vl73, rfl, q6_73, ha73⟩ | ⟨no73, rfl⟩
      · have tn73 := congrArg List.length te73
        rw [List.length_cons] at tn73
        show et_go none _ 187 76 _ [.int (Int32.ofNat v73x), .int (Int32.ofNat ((126 + 841 * 14 + 1 + 4 * i) + 1)), .ref aw] _ _ _ _
        refine hf_wsd (p := 77) (by decide +kernel) hH k_aw (by omega) (by omega) (fun G76 hH x76 e76 => ?_)
        have m4 := (x76.2 am 4 lt_am (fun h => (hi_ne k_am k_aw (by decide)) h.1)).trans m4
        have m7 := (x76.2 am 7 lt_am (fun h => (hi_ne k_am k_aw (by decide)) h.1)).trans m7
        have q6_73 := (x76.2 am 6 lt_am (fun h => (hi_ne k_am k_aw (by decide)) h.1)).trans q6_73
        have m13 := (x76.2 am 13 lt_am (fun h => (hi_ne k_am k_aw (by decide)) h.1)).trans m13
        have m1 := (x76.2 am 1 lt_am (fun h => (hi_ne k_am k_aw (by decide)) h.1)).trans m1
        have m12 := (x76.2 am 12 lt_am (fun h => (hi_ne k_am k_aw (by decide)) h.1)).trans m12
        have e51 := (x76.2 aw (126 + 841 * 14 + 1 + 4 * i) lt_aw (fun h => by have h := h.2; omega)).trans e51
        have ht : ∀ i, i < n → et_pl (eg_at G76 tm) i = some (.int (sx (b i))) := fun i hi => (x76.2 tm i lt_tm (fun h => (hi_ne k_tm k_aw (by decide)) h.1)).trans (ht i hi)
        have lt_am := Nat.lt_of_lt_of_le lt_am x76.1
        have lt_tm := Nat.lt_of_lt_of_le lt_tm x76.1
        have lt_aw := Nat.lt_of_lt_of_le lt_aw x76.1
        have hX := hX.tr x76 (fun b j hb h => by first | omega | (dsimp only at h ⊢; omega) | (dsimp only at h; omega) | (dsimp only; omega))
        refine hs_aload (i := 0) (p := 78) (by decide +kernel) rfl ?_
        refine hf_get (T := et_TT) (t := 13) (ci := 11) (f := 1) (p := 81) (by decide +kernel) rfl hH k_am m1 ?_
        refine hs_iload (i := 2) (p := 82) (by decide +kernel) rfl ?_
        refine hs_k (x := Int32.ofNat 2) (p := 83) (by decide +kernel) ?_
        refine hs_iaddn (p := 84) (by decide +kernel) ?_
        refine hs_aload (i := 0) (p := 85) (by decide +kernel) rfl ?_
        refine hf_get (T := et_TT) (t := 13) (ci := 11) (f := 12) (p := 88) (by decide +kernel) rfl hH k_am m12 ?_
        refine hf_wsd (p := 89) (by decide +kernel) hH k_aw (by omega) (by omega) (fun G88 hH x88 e88 => ?_)
        have m4 := (x88.2 am 4 lt_am (fun h => (hi_ne k_am k_aw (by decide)) h.1)).trans m4
        have m7 := (x88.2 am 7 lt_am (fun h => (hi_ne k_am k_aw (by decide)) h.1)).trans m7
        have q6_73 := (x88.2 am 6 lt_am (fun h => (hi_ne k_am k_aw (by decide)) h.1)).trans q6_73
        have m13 := (x88.2 am 13 lt_am (fun h => (hi_ne k_am k_aw (by decide)) h.1)).trans m13
        have m1 := (x88.2 am 1 lt_am (fun h => (hi_ne k_am k_aw (by decide)) h.1)).trans m1
        have m12 := (x88.2 am 12 lt_am (fun h => (hi_ne k_am k_aw (by decide)) h.1)).trans m12
        have e51 := (x88.2 aw (126 + 841 * 14 + 1 + 4 * i) lt_aw (fun h => by have h := h.2; omega)).trans e51
        have e76 := (x88.2 aw ((126 + 841 * 14 + 1 + 4 * i) + 1) lt_aw (fun h => by have h := h.2; omega)).trans e76
        have ht : ∀ i, i < n → et_pl (eg_at G88 tm) i = some (.int (sx (b i))) := fun i hi => (x88.2 tm i lt_tm (fun h => (hi_ne k_tm k_aw (by decide)) h.1)).trans (ht i hi)
        have lt_am := Nat.lt_of_lt_of_le lt_am x88.1
        have lt_tm := Nat.lt_of_lt_of_le lt_tm x88.1
        have lt_aw := Nat.lt_of_lt_of_le lt_aw x88.1
        have hX := hX.tr x88 (fun b j hb h => by first | omega | (dsimp only at h ⊢; omega) | (dsimp only at h; omega) | (dsimp only; omega))
        refine hs_aload (i := 0) (p := 90) (by decide +kernel) rfl ?_
        refine hf_get (T := et_TT) (t := 13) (ci := 11) (f := 1) (p := 93) (by decide +kernel) rfl hH k_am m1 ?_
        refine hs_iload (i := 2) (p := 94) (by decide +kernel) rfl ?_
        refine hs_k (x := Int32.ofNat 1) (p := 95) (by decide +kernel) ?_
        refine hs_iaddn (p := 96) (by decide +kernel) ?_
        refine hf_ald (ins := .iaload) (T := et_TT) (t := 46) (kd := 0) (N := 12741) (p := 97) (by decide +kernel) (fun _ _ _ _ _ _ _ _ _ _ => rfl) rfl rfl rfl hH k_aw (by decide) e76 ?_
        refine hs_if1 (c := .ge) (t := 102) (f := 100) (by decide +kernel) (rs_ng (by omega)) ?_
        refine hs_aload (i := 0) (p := 103) (by decide +kernel) rfl ?_
        refine hs_k (x := Int32.ofNat 0) (p := 104) (by decide +kernel) ?_
        refine hf_put (T := et_TT) (t := 13) (ci := 11) (f := 9) (p := 107) (ty := .int) (by decide +kernel) rfl rfl rfl rfl rfl hH k_am (hi_nv (by omega) (by omega)) (fun G104 hH x104 e104 => ?_)
        have m4 := (x104.2 am 4 lt_am (fun h => absurd h.2 (by decide))).trans m4
        have m7 := (x104.2 am 7 lt_am (fun h => absurd h.2 (by decide))).trans m7
        have q6_73 := (x104.2 am 6 lt_am (fun h => absurd h.2 (by decide))).trans q6_73
        have m13 := (x104.2 am 13 lt_am (fun h => absurd h.2 (by decide))).trans m13
        have m1 := (x104.2 am 1 lt_am (fun h => absurd h.2 (by decide))).trans m1
        have m12 := (x104.2 am 12 lt_am (fun h => absurd h.2 (by decide))).trans m12
        have e51 := (x104.2 aw (126 + 841 * 14 + 1 + 4 * i) lt_aw (fun h => hne h.1)).trans e51
        have e76 := (x104.2 aw ((126 + 841 * 14 + 1 + 4 * i) + 1) lt_aw (fun h => hne h.1)).trans e76
        have e88 := (x104.2 aw ((126 + 841 * 14 + 1 + 4 * i) + 2) lt_aw (fun h => hne h.1)).trans e88
        have ht : ∀ i, i < n → et_pl (eg_at G104 tm) i = some (.int (sx (b i))) := fun i hi => (x104.2 tm i lt_tm (fun h => (hi_ne k_tm k_am (by decide)) h.1)).trans (ht i hi)
        have lt_am := Nat.lt_of_lt_of_le lt_am x104.1
        have lt_tm := Nat.lt_of_lt_of_le lt_tm x104.1
        have lt_aw := Nat.lt_of_lt_of_le lt_aw x104.1
        have hX := hX.tr x104 (fun b j hb h => by first | omega | (dsimp only at h ⊢; omega) | (dsimp only at h; omega) | (dsimp only; omega))
        refine hs_aload (i := 0) (p := 108) (by decide +kernel) rfl ?_
        refine hs_kld (v := .ref 38) (p := 110) (by decide +kernel) ?_
        refine ht_callv (T := et_TT) (t := 13) (mi := 192) (na := 1) (ci := 11) (lk := 3) (lm := 2) (L0 := eg_en (eg_mL 192) [.ref am, .ref 38]) (by decide +kernel) rfl hH k_am rfl rfl rfl rfl rfl (by rw [show eg_mL 192 = 2 from by decide +kernel]; first | done | rfl) ?_
        refine (pa_pass (w := 31) (j := 2) hH k_am m4 k_tm m7 hn ht hb q6_73 ha73 hpl (by decide) (by decide) (okp (by rw [hp1]; decide +kernel)) (by decide +kernel) (by decide +kernel) (by omega)).mono (fun u hu => xw_cb hu (fun G110 v110 hH x110 hP110 => ?_))
        have m4 := (x110.2 am 4 lt_am (fun h => Or.elim h (fun h => absurd h.2 (by decide)) (fun h => absurd h.2 (by decide)))).trans m4
        have m7 := (x110.2 am 7 lt_am (fun h => Or.elim h (fun h => absurd h.2 (by decide)) (fun h => absurd h.2 (by decide)))).trans m7
        have m13 := (x110.2 am 13 lt_am (fun h => Or.elim h (fun h => absurd h.2 (by decide)) (fun h => absurd h.2 (by decide)))).trans m13
        have m1 := (x110.2 am 1 lt_am (fun h => Or.elim h (fun h => absurd h.2 (by decide)) (fun h => absurd h.2 (by decide)))).trans m1
        have m12 := (x110.2 am 12 lt_am (fun h => Or.elim h (fun h => absurd h.2 (by decide)) (fun h => absurd h.2 (by decide)))).trans m12
        have e51 := (x110.2 aw (126 + 841 * 14 + 1 + 4 * i) lt_aw (fun h => Or.elim h (fun h => hne h.1) (fun h => hne h.1))).trans e51
        have e76 := (x110.2 aw ((126 + 841 * 14 + 1 + 4 * i) + 1) lt_aw (fun h => Or.elim h (fun h => hne h.1) (fun h => hne h.1))).trans e76
        have e88 := (x110.2 aw ((126 + 841 * 14 + 1 + 4 * i) + 2) lt_aw (fun h => Or.elim h (fun h => hne h.1) (fun h => hne h.1))).trans e88
        have e104 := (x110.2 am 9 lt_am (fun h => Or.elim h (fun h => absurd h.2 (by decide)) (fun h => absurd h.2 (by decide)))).trans e104
        have ht : ∀ i, i < n → et_pl (eg_at G110 tm) i = some (.int (sx (b i))) := fun i hi => (x110.2 tm i lt_tm (fun h => Or.elim h (fun h => (hi_ne k_tm k_am (by decide)) h.1) (fun h => (hi_ne k_tm k_am (by decide)) h.1))).trans (ht i hi)
        have lt_am := Nat.lt_of_lt_of_le lt_am x110.1
        have lt_tm := Nat.lt_of_lt_of_le lt_tm x110.1
        have lt_aw := Nat.lt_of_lt_of_le lt_aw x110.1
        have hX := hX.tr x110 (fun b j hb h => by first | omega | (dsimp only at h ⊢; omega) | (dsimp only at h; omega) | (dsimp only; omega))
        rcases hP110 with ⟨p110, i110, rfl, q6_110, ha110, te110, tn110⟩ | ⟨p110, i110, rfl, q6_110, ha110, te110⟩
        · show et_go none _ 187 113 _ [.int (Int32.ofNat 1)] _ _ _ _
          refine hs_if0 (c := .eq) (t := 125) (f := 116) (by decide +kernel) (show ¬ (Int32.ofNat 1 = 0) by decide) ?_
          refine hs_aload (i := 0) (p := 117) (by decide +kernel) rfl ?_
          refine ht_callv (T := et_TT) (t := 13) (mi := 193) (na := 0) (ci := 11) (lk := 3) (lm := 1) (L0 := eg_en (eg_mL 193) [.ref am]) (by decide +kernel) rfl hH k_am rfl rfl rfl rfl rfl (by rw [show eg_mL 193 = 1 from by decide +kernel]; first | done | rfl) ?_
          refine ((fr_cond 6).2 _ _ _ _ _ _ _ _ _ _ _ _ hH k_am m4 k_tm m7 hn ht hb q6_110 ha110 hpl m13 k_aw m1 m12 e104 (by omega) (by omega) (by omega)).mono (fun u hu => xw_cb hu (fun G117 v117 hH x117 hP117 => ?_))
          have x117 : xf (fun c j => (c = am ∧ j = 6) ∨ (c = am ∧ j = 8) ∨ (c = am ∧ j = 9) ∨ (c = am ∧ j = 12) ∨ (c = aw ∧ (11941 + 2 * k) ≤ j)) _ _ := x117
          have m4 := (x117.2 am 4 lt_am (fun h => Or.elim h (fun h => absurd h.2 (by decide)) (fun h => Or.elim h (fun h => absurd h.2 (by decide)) (fun h => Or.elim h (fun h => absurd h.2 (by decide)) (fun h => Or.elim h (fun h => absurd h.2 (by decide)) (fun h => (hi_ne k_am k_aw (by decide)) h.1)))))).trans m4
          have m7 := (x117.2 am 7 lt_am (fun h => Or.elim h (fun h => absurd h.2 (by decide)) (fun h => Or.elim h (fun h => absurd h.2 (by decide)) (fun h => Or.elim h (fun h => absurd h.2 (by decide)) (fun h => Or.elim h (fun h => absurd h.2 (by decide)) (fun h => (hi_ne k_am k_aw (by decide)) h.1)))))).trans m7
          have m13 := (x117.2 am 13 lt_am (fun h => Or.elim h (fun h => absurd h.2 (by decide)) (fun h => Or.elim h (fun h => absurd h.2 (by decide)) (fun h => Or.elim h (fun h => absurd h.2 (by decide)) (fun h => Or.elim h (fun h => absurd h.2 (by decide)) (fun h => (hi_ne k_am k_aw (by decide)) h.1)))))).trans m13
          have m1 := (x117.2 am 1 lt_am (fun h => Or.elim h (fun h => absurd h.2 (by decide)) (fun h => Or.elim h (fun h => absurd h.2 (by decide)) (fun h => Or.elim h (fun h => absurd h.2 (by decide)) (fun h => Or.elim h (fun h => absurd h.2 (by decide)) (fun h => (hi_ne k_am k_aw (by decide)) h.1)))))).trans m1
          have e51 := (x117.2 aw (126 + 841 * 14 + 1 + 4 * i) lt_aw (fun h => Or.elim h (fun h => hne h.1) (fun h => Or.elim h (fun h => hne h.1) (fun h => Or.elim h (fun h => hne h.1) (fun h => Or.elim h (fun h => hne h.1) (fun h => by have h := h.2; omega)))))).trans e51
          have e76 := (x117.2 aw ((126 + 841 * 14 + 1 + 4 * i) + 1) lt_aw (fun h => Or.elim h (fun h => hne h.1) (fun h => Or.elim h (fun h => hne h.1) (fun h => Or.elim h (fun h => hne h.1) (fun h => Or.elim h (fun h => hne h.1) (fun h => by have h := h.2; omega)))))).trans e76
          have e88 := (x117.2 aw ((126 + 841 * 14 + 1 + 4 * i) + 2) lt_aw (fun h => Or.elim h (fun h => hne h.1) (fun h => Or.elim h (fun h => hne h.1) (fun h => Or.elim h (fun h => hne h.1) (fun h => Or.elim h (fun h => hne h.1) (fun h => by have h := h.2; omega)))))).trans e88
          have ht : ∀ i, i < n → et_pl (eg_at G117 tm) i = some (.int (sx (b i))) := fun i hi => (x117.2 tm i lt_tm (fun h => Or.elim h (fun h => (hi_ne k_tm k_am (by decide)) h.1) (fun h => Or.elim h (fun h => (hi_ne k_tm k_am (by decide)) h.1) (fun h => Or.elim h (fun h => (hi_ne k_tm k_am (by decide)) h.1) (fun h => Or.elim h (fun h => (hi_ne k_tm k_am (by decide)) h.1) (fun h => (hi_ne k_tm k_aw (by decide)) h.1)))))).trans (ht i hi)
          have lt_am := Nat.lt_of_lt_of_le lt_am x117.1
          have lt_tm := Nat.lt_of_lt_of_le lt_tm x117.1
          have lt_aw := Nat.lt_of_lt_of_le lt_aw x117.1
          have hX := hX.tr x117 (fun b j hb h => by first | omega | (dsimp only at h ⊢; omega) | (dsimp only at h; omega) | (dsimp only; omega))
          rcases hP117 with ⟨sp117, rfl⟩ | ⟨f117, p117, C117, sp117, rfl, q6_117, ha117, q12_117, q9_117, hC117, hR117, hl117⟩
          · show et_go none _ 187 120 _ [.int (Int32.ofNat 0)] _ _ _ _
            refine hs_if0 (c := .ne) (t := 125) (f := 123) (by decide +kernel) (show ¬ (¬ Int32.ofNat 0 = 0) by decide) ?_
            refine hs_k (x := Int32.ofNat 0) (p := 124) (by decide +kernel) ?_
            refine hs_zret (by decide +kernel) (.inl rfl) ?_
            exact ⟨_, _, rfl, hH, hX, .inl ⟨ln_cn i29 (.inl rfl) (wt29.2.1.symm.trans te73) vl73 i110 (by rw [← te110]; exact sp117), rfl⟩⟩
          · show et_go none _ 187 120 _ [.int (Int32.ofNat 1)] _ _ _ _
            refine hs_if1 (c := .ne) (t := 125) (f := 123) (by decide +kernel) (show ¬ Int32.ofNat 1 = 0 by decide) ?_
            refine hs_aload (i := 0) (p := 126) (by decide +kernel) rfl ?_
            refine hf_get (T := et_TT) (t := 13) (ci := 11) (f := 1) (p := 129) (by decide +kernel) rfl hH k_am m1 ?_
            refine hs_iload (i := 2) (p := 130) (by decide +kernel) rfl ?_
            refine hs_k (x := Int32.ofNat 3) (p := 131) (by decide +kernel) ?_
            refine hs_iaddn (p := 132) (by decide +kernel) ?_
            refine hs_aload (i := 0) (p := 133) (by decide +kernel) rfl ?_
            refine hf_get (T := et_TT) (t := 13) (ci := 11) (f := 12) (p := 136) (by decide +kernel) rfl hH k_am q12_117 ?_
            refine hf_wsd (p := 137) (by decide +kernel) hH k_aw (by omega) (by omega) (fun G136 hH x136 e136 => ?_)
            have hC117 := hC117.fr x136 lt_aw (fun j h1 h2 hs => by first | omega | (dsimp only at hs h2; omega))
            have m4 := (x136.2 am 4 lt_am (fun h => (hi_ne k_am k_aw (by decide)) h.1)).trans m4
            have m7 := (x136.2 am 7 lt_am (fun h => (hi_ne k_am k_aw (by decide)) h.1)).trans m7
            have q6_117 := (x136.2 am 6 lt_am (fun h => (hi_ne k_am k_aw (by decide)) h.1)).trans q6_117
            have m13 := (x136.2 am 13 lt_am (fun h => (hi_ne k_am k_aw (by decide)) h.1)).trans m13
            have m1 := (x136.2 am 1 lt_am (fun h => (hi_ne k_am k_aw (by decide)) h.1)).trans m1
            have q12_117 := (x136.2 am 12 lt_am (fun h => (hi_ne k_am k_aw (by decide)) h.1)).trans q12_117
            have e51 := (x136.2 aw (126 + 841 * 14 + 1 + 4 * i) lt_aw (fun h => by have h := h.2; omega)).trans e51
            have e76 := (x136.2 aw ((126 + 841 * 14 + 1 + 4 * i) + 1) lt_aw (fun h => by have h := h.2; omega)).trans e76
            have e88 := (x136.2 aw ((126 + 841 * 14 + 1 + 4 * i) + 2) lt_aw (fun h => by have h := h.2; omega)).trans e88
            have q9_117 := (x136.2 am 9 lt_am (fun h => (hi_ne k_am k_aw (by decide)) h.1)).trans q9_117
            have ht : ∀ i, i < n → et_pl (eg_at G136 tm) i = some (.int (sx (b i))) := fun i hi => (x136.2 tm i lt_tm (fun h => (hi_ne k_tm k_aw (by decide)) h.1)).trans (ht i hi)
            have lt_am := Nat.lt_of_lt_of_le lt_am x136.1
            have lt_tm := Nat.lt_of_lt_of_le lt_tm x136.1
            have lt_aw := Nat.lt_of_lt_of_le lt_aw x136.1
            have hX := hX.tr x136 (fun b j hb h => by first | omega | (dsimp only at h ⊢; omega) | (dsimp only at h; omega) | (dsimp only; omega))
            refine hs_k (x := Int32.ofNat 1) (p := 138) (by decide +kernel) ?_
            refine hs_zret (by decide +kernel) (.inr rfl) ?_
            refine ⟨_, _, rfl, hH, hX, .inr ⟨_, p117, _, ln_c i29 (.inl rfl) (wt29.2.1.symm.trans te73) vl73 i110 (by rw [← te110]; exact sp117), rfl, q6_117, ha117, q12_117, (by omega), (by omega), k, _, pl_eq e51 (by omega), pl_eq e76 (by omega), pl_eq e88 (by omega), pl_eq e136 (by omega), (by omega), (by omega), C117, rfl, hC117, hR117⟩⟩
        · have tn110 := congrArg List.length te110
          show et_go none _ 187 113 _ [.int (Int32.ofNat 0)] _ _ _ _
          refine hs_if1 (c := .eq) (t := 125) (f := 116) (by decide +kernel) (show Int32.ofNat 0 = 0 by decide) ?_
          refine hs_aload (i := 0) (p := 126) (by decide +kernel) rfl ?_
          refine hf_get (T := et_TT) (t := 13) (ci := 11) (f := 1) (p := 129) (by decide +kernel) rfl hH k_am m1 ?_
          refine hs_iload (i := 2) (p := 130) (by decide +kernel) rfl ?_
          refine hs_k (x := Int32.ofNat 3) (p := 131) (by decide +kernel) ?_
          refine hs_iaddn (p := 132) (by decide +kernel) ?_
          refine hs_aload (i := 0) (p := 133) (by decide +kernel) rfl ?_
          refine hf_get (T := et_TT) (t := 13) (ci := 11) (f := 12) (p := 136) (by decide +kernel) rfl hH k_am m12 ?_
          refine hf_wsd (p := 137) (by decide +kernel) hH k_aw (by omega) (by omega) (fun G136 hH x136 e136 => ?_)
          have m4 := (x136.2 am 4 lt_am (fun h => (hi_ne k_am k_aw (by decide)) h.1)).trans m4
          have m7 := (x136.2 am 7 lt_am (fun h => (hi_ne k_am k_aw (by decide)) h.1)).trans m7
          have q6_110 := (x136.2 am 6 lt_am (fun h => (hi_ne k_am k_aw (by decide)) h.1)).trans q6_110
          have m13 := (x136.2 am 13 lt_am (fun h => (hi_ne k_am k_aw (by decide)) h.1)).trans m13
          have m1 := (x136.2 am 1 lt_am (fun h => (hi_ne k_am k_aw (by decide)) h.1)).trans m1
          have m12 := (x136.2 am 12 lt_am (fun h => (hi_ne k_am k_aw (by decide)) h.1)).trans m12
          have e51 := (x136.2 aw (126 + 841 * 14 + 1 + 4 * i) lt_aw (fun h => by have h := h.2; omega)).trans e51
          have e76 := (x136.2 aw ((126 + 841 * 14 + 1 + 4 * i) + 1) lt_aw (fun h => by have h := h.2; omega)).trans e76
          have e88 := (x136.2 aw ((126 + 841 * 14 + 1 + 4 * i) + 2) lt_aw (fun h => by have h := h.2; omega)).trans e88
          have e104 := (x136.2 am 9 lt_am (fun h => (hi_ne k_am k_aw (by decide)) h.1)).trans e104
          have ht : ∀ i, i < n → et_pl (eg_at G136 tm) i = some (.int (sx (b i))) := fun i hi => (x136.2 tm i lt_tm (fun h => (hi_ne k_tm k_aw (by decide)) h.1)).trans (ht i hi)
          have lt_am := Nat.lt_of_lt_of_le lt_am x136.1
          have lt_tm := Nat.lt_of_lt_of_le lt_tm x136.1
          have lt_aw := Nat.lt_of_lt_of_le lt_aw x136.1
          have hX := hX.tr x136 (fun b j hb h => by first | omega | (dsimp only at h ⊢; omega) | (dsimp only at h; omega) | (dsimp only; omega))
          refine hs_k (x := Int32.ofNat 1) (p := 138) (by decide +kernel) ?_
          refine hs_zret (by decide +kernel) (.inr rfl) ?_
          refine ⟨_, _, rfl, hH, hX, .inr ⟨(29 == 29, v73x, none), p110, _, (by rw [te110]; exact ln_1 i29 (.inl rfl) (wt29.2.1.symm.trans te73) vl73 i110), rfl, q6_110, ha110, m12, (by omega), (by omega), k, _, pl_eq e51 (by omega), pl_eq e76 (by omega), pl_eq e88 (by omega), pl_eq e136 (by omega), (by omega), (by omega), rfl⟩⟩
      · show et_go none _ 187 76 _ [.int (-1), .int (Int32.ofNat ((126 + 841 * 14 + 1 + 4 * i) + 1)), .ref aw] _ _ _ _
        refine hf_wsd (p := 77) (by decide +kernel) hH k_aw (by omega) (by omega) (fun G76 hH x76 e76 => ?_)
        have m4 := (x76.2 am 4 lt_am (fun h => (hi_ne k_am k_aw (by decide)) h.1)).trans m4
        have m7 := (x76.2 am 7 lt_am (fun h => (hi_ne k_am k_aw (by decide)) h.1)).trans m7
        have m13 := (x76.2 am 13 lt_am (fun h => (hi_ne k_am k_aw (by decide)) h.1)).trans m13
        have m1 := (x76.2 am 1 lt_am (fun h => (hi_ne k_am k_aw (by decide)) h.1)).trans m1
        have m12 := (x76.2 am 12 lt_am (fun h => (hi_ne k_am k_aw (by decide)) h.1)).trans m12
        have e51 := (x76.2 aw (126 + 841 * 14 + 1 + 4 * i) lt_aw (fun h => by have h := h.2; omega)).trans e51
        have ht : ∀ i, i < n → et_pl (eg_at G76 tm) i = some (.int (sx (b i))) := fun i hi => (x76.2 tm i lt_tm (fun h => (hi_ne k_tm k_aw (by decide)) h.1)).trans (ht i hi)
        have lt_am := Nat.lt_of_lt_of_le lt_am x76.1
        have lt_tm := Nat.lt_of_lt_of_le lt_tm x76.1
        have lt_aw := Nat.lt_of_lt_of_le lt_aw x76.1
        have hX := hX.tr x76 (fun b j hb h => by first | omega | (dsimp only at h ⊢; omega) | (dsimp only at h; omega) | (dsimp only; omega))
        refine hs_aload (i := 0) (p := 78) (by decide +kernel) rfl ?_
        refine hf_get (T := et_TT) (t := 13) (ci := 11) (f := 1) (p := 81) (by decide +kernel) rfl hH k_am m1 ?_
        refine hs_iload (i := 2) (p := 82) (by decide +kernel) rfl ?_
        refine hs_k (x := Int32.ofNat 2) (p := 83) (by decide +kernel) ?_
        refine hs_iaddn (p := 84) (by decide +kernel) ?_
        refine hs_aload (i := 0) (p := 85) (by decide +kernel) rfl ?_
        refine hf_get (T := et_TT) (t := 13) (ci := 11) (f := 12) (p := 88) (by decide +kernel) rfl hH k_am m12 ?_
        refine hf_wsd (p := 89) (by decide +kernel) hH k_aw (by omega) (by omega) (fun G88 hH x88 e88 => ?_)
        have m4 := (x88.2 am 4 lt_am (fun h => (hi_ne k_am k_aw (by decide)) h.1)).trans m4
        have m7 := (x88.2 am 7 lt_am (fun h => (hi_ne k_am k_aw (by decide)) h.1)).trans m7
        have m13 := (x88.2 am 13 lt_am (fun h => (hi_ne k_am k_aw (by decide)) h.1)).trans m13
        have m1 := (x88.2 am 1 lt_am (fun h => (hi_ne k_am k_aw (by decide)) h.1)).trans m1
        have m12 := (x88.2 am 12 lt_am (fun h => (hi_ne k_am k_aw (by decide)) h.1)).trans m12
        have e51 := (x88.2 aw (126 + 841 * 14 + 1 + 4 * i) lt_aw (fun h => by have h := h.2; omega)).trans e51
        have e76 := (x88.2 aw ((126 + 841 * 14 + 1 + 4 * i) + 1) lt_aw (fun h => by have h := h.2; omega)).trans e76
        have ht : ∀ i, i < n → et_pl (eg_at G88 tm) i = some (.int (sx (b i))) := fun i hi => (x88.2 tm i lt_tm (fun h => (hi_ne k_tm k_aw (by decide)) h.1)).trans (ht i hi)
        have lt_am := Nat.lt_of_lt_of_le lt_am x88.1
        have lt_tm := Nat.lt_of_lt_of_le lt_tm x88.1
        have lt_aw := Nat.lt_of_lt_of_le lt_aw x88.1
        have hX := hX.tr x88 (fun b j hb h => by first | omega | (dsimp only at h ⊢; omega) | (dsimp only at h; omega) | (dsimp only; omega))
        refine hs_aload (i := 0) (p := 90) (by decide +kernel) rfl ?_
        refine hf_get (T := et_TT) (t := 13) (ci := 11) (f := 1) (p := 93) (by decide +kernel) rfl hH k_am m1 ?_
        refine hs_iload (i := 2) (p := 94) (by decide +kernel) rfl ?_
        refine hs_k (x := Int32.ofNat 1) (p := 95) (by decide +kernel) ?_
        refine hs_iaddn (p := 96) (by decide +kernel) ?_
        refine hf_ald (ins := .iaload) (T := et_TT) (t := 46) (kd := 0) (N := 12741) (p := 97) (by decide +kernel) (fun _ _ _ _ _ _ _ _ _ _ => rfl) rfl rfl rfl hH k_aw (by decide) e76 ?_
        refine hs_if0 (c := .ge) (t := 102) (f := 100) (by decide +kernel) (show ¬ (0 ≤ (-1 : Int32)) by decide) ?_
        refine hs_k (x := Int32.ofNat 0) (p := 101) (by decide +kernel) ?_
        refine hs_zret (by decide +kernel) (.inl rfl) ?_
        exact ⟨_, _, rfl, hH, hX, .inl ⟨ln_n (wt29.2.1.symm) no73, rfl⟩⟩
    · rw [if_neg i29]
      show et_go none _ 187 30 _ [.int (Int32.ofNat 0), .int (Int32.ofNat (126 + 841 * 14 + 1 + 4 * i)), .ref aw] _ _ _ _
      refine hs_if1 (c := .eq) (t := 37) (f := 33) (by decide +kernel) (show Int32.ofNat 0 = 0 by decide) ?_
      refine hs_aload (i := 0) (p := 38) (by decide +kernel) rfl ?_
      refine hs_kld (v := .ref 37) (p := 40) (by decide +kernel) ?_
      refine ht_callv (T := et_TT) (t := 13) (mi := 190) (na := 1) (ci := 11) (lk := 3) (lm := 4) (L0 := eg_en (eg_mL 190) [.ref am, .ref 37]) (by decide +kernel) rfl hH k_am rfl rfl rfl rfl rfl (by rw [show eg_mL 190 = 4 from by decide +kernel]; first | done | rfl) ?_
      refine (pa_isW (pl := pl) (w := 30) (j := 1) hH k_am m4 k_tm m7 hn ht hb q6_1 q8_1 ha hpl (by decide) (by decide) (okp (by rw [hp1]; decide +kernel)) (by decide +kernel) (by decide +kernel) (by omega)).mono (fun u hu => xp_cb hu ?_)
      by_cases i30 : wat (tz_ts pl b n p) 0 = 30
      · rw [if_pos i30]
        have wt30 := tok_ly (pl := pl) ha (show 30 < 33 by decide) (by decide +kernel) i30
        have wm30 := wt30.2.2
        show et_go none _ 187 43 _ [.int (Int32.ofNat 1), .int (Int32.ofNat (126 + 841 * 14 + 1 + 4 * i)), .ref aw] _ _ _ _
        refine hs_if0 (c := .eq) (t := 50) (f := 46) (by decide +kernel) (show ¬ (Int32.ofNat 1 = 0) by decide) ?_
        refine hs_k (x := Int32.ofNat 1) (p := 47) (by decide +kernel) ?_
        refine hs_goto (p := 51) (by decide +kernel) ?_
        refine hf_wsd (p := 52) (by decide +kernel) hH k_aw (by omega) (by omega) (fun G51 hH x51 e51 => ?_)
        have m4 := (x51.2 am 4 lt_am (fun h => (hi_ne k_am k_aw (by decide)) h.1)).trans m4
        have m7 := (x51.2 am 7 lt_am (fun h => (hi_ne k_am k_aw (by decide)) h.1)).trans m7
        have q6_1 := (x51.2 am 6 lt_am (fun h => (hi_ne k_am k_aw (by decide)) h.1)).trans q6_1
        have m13 := (x51.2 am 13 lt_am (fun h => (hi_ne k_am k_aw (by decide)) h.1)).trans m13
        have m1 := (x51.2 am 1 lt_am (fun h => (hi_ne k_am k_aw (by decide)) h.1)).trans m1
        have m12 := (x51.2 am 12 lt_am (fun h => (hi_ne k_am k_aw (by decide)) h.1)).trans m12
        have q8_1 := (x51.2 am 8 lt_am (fun h => (hi_ne k_am k_aw (by decide)) h.1)).trans q8_1
        have ht : ∀ i, i < n → et_pl (eg_at G51 tm) i = some (.int (sx (b i))) := fun i hi => (x51.2 tm i lt_tm (fun h => (hi_ne k_tm k_aw (by decide)) h.1)).trans (ht i hi)
        have lt_am := Nat.lt_of_lt_of_le lt_am x51.1
        have lt_tm := Nat.lt_of_lt_of_le lt_tm x51.1
        have lt_aw := Nat.lt_of_lt_of_le lt_aw x51.1
        have hX := hX.tr x51 (fun b j hb h => by first | omega | (dsimp only at h ⊢; omega) | (dsimp only at h; omega) | (dsimp only; omega))
        refine hs_aload (i := 0) (p := 53) (by decide +kernel) rfl ?_
        refine hf_get (T := et_TT) (t := 13) (ci := 11) (f := 1) (p := 56) (by decide +kernel) rfl hH k_am m1 ?_
        refine hs_iload (i := 2) (p := 57) (by decide +kernel) rfl ?_
        refine hf_ald (ins := .iaload) (T := et_TT) (t := 46) (kd := 0) (N := 12741) (p := 58) (by decide +kernel) (fun _ _ _ _ _ _ _ _ _ _ => rfl) rfl rfl rfl hH k_aw (by decide) e51 ?_
        refine hs_if1 (c := .ge) (t := 63) (f := 61) (by decide +kernel) (show 0 ≤ Int32.ofNat 1 by decide) ?_
        refine hs_aload (i := 0) (p := 64) (by decide +kernel) rfl ?_
        refine hf_get (T := et_TT) (t := 13) (ci := 11) (f := 1) (p := 67) (by decide +kernel) rfl hH k_am m1 ?_
        refine hs_iload (i := 2) (p := 68) (by decide +kernel) rfl ?_
        refine hs_k (x := Int32.ofNat 1) (p := 69) (by decide +kernel) ?_
        refine hs_iaddn (p := 70) (by decide +kernel) ?_
        refine hs_aload (i := 0) (p := 71) (by decide +kernel) rfl ?_
        refine hs_k (x := Int32.ofNat 50) (p := 73) (by decide +kernel) ?_
        refine ht_callv (T := et_TT) (t := 13) (mi := 191) (na := 1) (ci := 11) (lk := 3) (lm := 3) (L0 := eg_en (eg_mL 191) [.ref am, .int (Int32.ofNat 50)]) (by decide +kernel) rfl hH k_am rfl rfl rfl rfl rfl (by rw [show eg_mL 191 = 3 from by decide +kernel]; first | done | rfl) ?_
        refine (pa_num (pl := pl) hH k_am m4 k_tm m7 hn ht hb q6_1 wt30.1 (by decide) (by omega)).mono (fun u hu => xw_cb hu (fun G73 v73 hH x73 hP73 => ?_))
        have m4 := (x73.2 am 4 lt_am (fun h => Or.elim h (fun h => absurd h.2 (by decide)) (fun h => absurd h.2 (by decide)))).trans m4
        have m7 := (x73.2 am 7 lt_am (fun h => Or.elim h (fun h => absurd h.2 (by decide)) (fun h => absurd h.2 (by decide)))).trans m7
        have m13 := (x73.2 am 13 lt_am (fun h => Or.elim h (fun h => absurd h.2 (by decide)) (fun h => absurd h.2 (by decide)))).trans m13
        have m1 := (x73.2 am 1 lt_am (fun h => Or.elim h (fun h => absurd h.2 (by decide)) (fun h => absurd h.2 (by decide)))).trans m1
        have m12 := (x73.2 am 12 lt_am (fun h => Or.elim h (fun h => absurd h.2 (by decide)) (fun h => absurd h.2 (by decide)))).trans m12
        have e51 := (x73.2 aw (126 + 841 * 14 + 1 + 4 * i) lt_aw (fun h => Or.elim h (fun h => hne h.1) (fun h => hne h.1))).trans e51
        have ht : ∀ i, i < n → et_pl (eg_at G73 tm) i = some (.int (sx (b i))) := fun i hi => (x73.2 tm i lt_tm (fun h => Or.elim h (fun h => (hi_ne k_tm k_am (by decide)) h.1) (fun h => (hi_ne k_tm k_am (by decide)) h.1))).trans (ht i hi)
        have lt_am := Nat.lt_of_lt_of_le lt_am x73.1
        have lt_tm := Nat.lt_of_lt_of_le lt_tm x73.1
        have lt_aw := Nat.lt_of_lt_of_le lt_aw x73.1
        have hX := hX.tr x73 (fun b j hb h => by first | omega | (dsimp only at h ⊢; omega) | (dsimp only at h; omega) | (dsimp only; omega))
        rcases hP73 with ⟨v73x, p73, te73, vl73, rfl, q6_73, ha73⟩ | ⟨no73, rfl⟩
        · have tn73 := congrArg List.length te73
          rw [List.length_cons] at tn73
          show et_go none _ 187 76 _ [.int (Int32.ofNat v73x), .int (Int32.ofNat ((126 + 841 * 14 + 1 + 4 * i) + 1)), .ref aw] _ _ _ _
          refine hf_wsd (p := 77) (by decide +kernel) hH k_aw (by omega) (by omega) (fun G76 hH x76 e76 => ?_)
          have m4 := (x76.2 am 4 lt_am (fun h => (hi_ne k_am k_aw (by decide)) h.1)).trans m4
          have m7 := (x76.2 am 7 lt_am (fun h => (hi_ne k_am k_aw (by decide)) h.1)).trans m7
          have q6_73 := (x76.2 am 6 lt_am (fun h => (hi_ne k_am k_aw (by decide)) h.1)).trans q6_73
          have m13 := (x76.2 am 13 lt_am (fun h => (hi_ne k_am k_aw (by decide)) h.1)).trans m13
          have m1 := (x76.2 am 1 lt_am (fun h => (hi_ne k_am k_aw (by decide)) h.1)).trans m1
          have m12 := (x76.2 am 12 lt_am (fun h => (hi_ne k_am k_aw (by decide)) h.1)).trans m12
          have e51 := (x76.2 aw (126 + 841 * 14 + 1 + 4 * i) lt_aw (fun h => by have h := h.2; omega)).trans e51
          have ht : ∀ i, i < n → et_pl (eg_at G76 tm) i = some (.int (sx (b i))) := fun i hi => (x76.2 tm i lt_tm (fun h => (hi_ne k_tm k_aw (by decide)) h.1)).trans (ht i hi)
          have lt_am := Nat.lt_of_lt_of_le lt_am x76.1
          have lt_tm := Nat.lt_of_lt_of_le lt_tm x76.1
          have lt_aw := Nat.lt_of_lt_of_le lt_aw x76.1
          have hX := hX.tr x76 (fun b j hb h => by first | omega | (dsimp only at h ⊢; omega) | (dsimp only at h; omega) | (dsimp only; omega))
          refine hs_aload (i := 0) (p := 78) (by decide +kernel) rfl ?_
          refine hf_get (T := et_TT) (t := 13) (ci := 11) (f := 1) (p := 81) (by decide +kernel) rfl hH k_am m1 ?_
          refine hs_iload (i := 2) (p := 82) (by decide +kernel) rfl ?_
          refine hs_k (x := Int32.ofNat 2) (p := 83) (by decide +kernel) ?_
          refine hs_iaddn (p := 84) (by decide +kernel) ?_
          refine hs_aload (i := 0) (p := 85) (by decide +kernel) rfl ?_
          refine hf_get (T := et_TT) (t := 13) (ci := 11) (f := 12) (p := 88) (by decide +kernel) rfl hH k_am m12 ?_
          refine hf_wsd (p := 89) (by decide +kernel) hH k_aw (by omega) (by omega) (fun G88 hH x88 e88 => ?_)
          have m4 := (x88.2 am 4 lt_am (fun h => (hi_ne k_am k_aw (by decide)) h.1)).trans m4
          have m7 := (x88.2 am 7 lt_am (fun h => (hi_ne k_am k_aw (by decide)) h.1)).trans m7
          have q6_73 := (x88.2 am 6 lt_am (fun h => (hi_ne k_am k_aw (by decide)) h.1)).trans q6_73
          have m13 := (x88.2 am 13 lt_am (fun h => (hi_ne k_am k_aw (by decide)) h.1)).trans m13
          have m1 := (x88.2 am 1 lt_am (fun h => (hi_ne k_am k_aw (by decide)) h.1)).trans m1
          have m12 := (x88.2 am 12 lt_am (fun h => (hi_ne k_am k_aw (by decide)) h.1)).trans m12
          have e51 := (x88.2 aw (126 + 841 * 14 + 1 + 4 * i) lt_aw (fun h => by have h := h.2; omega)).trans e51
          have e76 := (x88.2 aw ((126 + 841 * 14 + 1 + 4 * i) + 1) lt_aw (fun h => by have h := h.2; omega)).trans e76
          have ht : ∀ i, i < n → et_pl (eg_at G88 tm) i = some (.int (sx (b i))) := fun i hi => (x88.2 tm i lt_tm (fun h => (hi_ne k_tm k_aw (by decide)) h.1)).trans (ht i hi)
          have lt_am := Nat.lt_of_lt_of_le lt_am x88.1
          have lt_tm := Nat.lt_of_lt_of_le lt_tm x88.1
          have lt_aw := Nat.lt_of_lt_of_le lt_aw x88.1
          have hX := hX.tr x88 (fun b j hb h => by first | omega | (dsimp only at h ⊢; omega) | (dsimp only at h; omega) | (dsimp only; omega))
          refine hs_aload (i := 0) (p := 90) (by decide +kernel) rfl ?_
          refine hf_get (T := et_TT) (t := 13) (ci := 11) (f := 1) (p := 93) (by decide +kernel) rfl hH k_am m1 ?_
          refine hs_iload (i := 2) (p := 94) (by decide +kernel) rfl ?_
          refine hs_k (x := Int32.ofNat 1) (p := 95) (by decide +kernel) ?_
          refine hs_iaddn (p := 96) (by decide +kernel) ?_
          refine hf_ald (ins := .iaload) (T := et_TT) (t := 46) (kd := 0) (N := 12741) (p := 97) (by decide +kernel) (fun _ _ _ _ _ _ _ _ _ _ => rfl) rfl rfl rfl hH k_aw (by decide) e76 ?_
          refine hs_if1 (c := .ge) (t := 102) (f := 100) (by decide +kernel) (rs_ng (by omega)) ?_
          refine hs_aload (i := 0) (p := 103) (by decide +kernel) rfl ?_
          refine hs_k (x := Int32.ofNat 0) (p := 104) (by decide +kernel) ?_
          refine hf_put (T := et_TT) (t := 13) (ci := 11) (f := 9) (p := 107) (ty := .int) (by decide +kernel) rfl rfl rfl rfl rfl hH k_am (hi_nv (by omega) (by omega)) (fun G104 hH x104 e104 => ?_)
          have m4 := (x104.2 am 4 lt_am (fun h => absurd h.2 (by decide))).trans m4
          have m7 := (x104.2 am 7 lt_am (fun h => absurd h.2 (by decide))).trans m7
          have q6_73 := (x104.2 am 6 lt_am (fun h => absurd h.2 (by decide))).trans q6_73
          have m13 := (x104.2 am 13 lt_am (fun h => absurd h.2 (by decide))).trans m13
          have m1 := (x104.2 am 1 lt_am (fun h => absurd h.2 (by decide))).trans m1
          have m12 := (x104.2 am 12 lt_am (fun h => absurd h.2 (by decide))).trans m12
          have e51 := (x104.2 aw (126 + 841 * 14 + 1 + 4 * i) lt_aw (fun h => hne h.1)).trans e51
          have e76 := (x104.2 aw ((126 + 841 * 14 + 1 + 4 * i) + 1) lt_aw (fun h => hne h.1)).trans e76
          have e88 := (x104.2 aw ((126 + 841 * 14 + 1 + 4 * i) + 2) lt_aw (fun h => hne h.1)).trans e88
          have ht : ∀ i, i < n → et_pl (eg_at G104 tm) i = some (.int (sx (b i))) := fun i hi => (x104.2 tm i lt_tm (fun h => (hi_ne k_tm k_am (by decide)) h.1)).trans (ht i hi)
          have lt_am := Nat.lt_of_lt_of_le lt_am x104.1
          have lt_tm := Nat.lt_of_lt_of_le lt_tm x104.1
          have lt_aw := Nat.lt_of_lt_of_le lt_aw x104.1
          have hX := hX.tr x104 (fun b j hb h => by first | omega | (dsimp only at h ⊢; omega) | (dsimp only at h; omega) | (dsimp only; omega))
          refine hs_aload (i := 0) (p := 108) (by decide +kernel) rfl ?_
          refine hs_kld (v := .ref 38) (p := 110) (by decide +kernel) ?_
          refine ht_callv (T := et_TT) (t := 13) (mi := 192) (na := 1) (ci := 11) (lk := 3) (lm := 2) (L0 := eg_en (eg_mL 192) [.ref am, .ref 38]) (by decide +kernel) rfl hH k_am rfl rfl rfl rfl rfl (by rw [show eg_mL 192 = 2 from by decide +kernel]; first | done | rfl) ?_
          refine (pa_pass (w := 31) (j := 2) hH k_am m4 k_tm m7 hn ht hb q6_73 ha73 hpl (by decide) (by decide) (okp (by rw [hp1]; decide +kernel)) (by decide +kernel) (by decide +kernel) (by omega)).mono (fun u hu => xw_cb hu (fun G110 v110 hH x110 hP110 => ?_))
          have m4 := (x110.2 am 4 lt_am (fun h => Or.elim h (fun h => absurd h.2 (by decide)) (fun h => absurd h.2 (by decide)))).trans m4
          have m7 := (x110.2 am 7 lt_am (fun h => Or.elim h (fun h => absurd h.2 (by decide)) (fun h => absurd h.2 (by decide)))).trans m7
          have m13 := (x110.2 am 13 lt_am (fun h => Or.elim h (fun h => absurd h.2 (by decide)) (fun h => absurd h.2 (by decide)))).trans m13
          have m1 := (x110.2 am 1 lt_am (fun h => Or.elim h (fun h => absurd h.2 (by decide)) (fun h => absurd h.2 (by decide)))).trans m1
          have m12 := (x110.2 am 12 lt_am (fun h => Or.elim h (fun h => absurd h.2 (by decide)) (fun h => absurd h.2 (by decide)))).trans m12
          have e51 := (x110.2 aw (126 + 841 * 14 + 1 + 4 * i) lt_aw (fun h => Or.elim h (fun h => hne h.1) (fun h => hne h.1))).trans e51
          have e76 := (x110.2 aw ((126 + 841 * 14 + 1 + 4 * i) + 1) lt_aw (fun h => Or.elim h (fun h => hne h.1) (fun h => hne h.1))).trans e76
          have e88 := (x110.2 aw ((126 + 841 * 14 + 1 + 4 * i) + 2) lt_aw (fun h => Or.elim h (fun h => hne h.1) (fun h => hne h.1))).trans e88
          have e104 := (x110.2 am 9 lt_am (fun h => Or.elim h (fun h => absurd h.2 (by decide)) (fun h => absurd h.2 (by decide)))).trans e104
          have ht : ∀ i, i < n → et_pl (eg_at G110 tm) i = some (.int (sx (b i))) := fun i hi => (x110.2 tm i lt_tm (fun h => Or.elim h (fun h => (hi_ne k_tm k_am (by decide)) h.1) (fun h => (hi_ne k_tm k_am (by decide)) h.1))).trans (ht i hi)
          have lt_am := Nat.lt_of_lt_of_le lt_am x110.1
          have lt_tm := Nat.lt_of_lt_of_le lt_tm x110.1
          have lt_aw := Nat.lt_of_lt_of_le lt_aw x110.1
          have hX := hX.tr x110 (fun b j hb h => by first | omega | (dsimp only at h ⊢; omega) | (dsimp only at h; omega) | (dsimp only; omega))
          rcases hP110 with ⟨p110, i110, rfl, q6_110, ha110, te110, tn110⟩ | ⟨p110, i110, rfl, q6_110, ha110, te110⟩
          · show et_go none _ 187 113 _ [.int (Int32.ofNat 1)] _ _ _ _
            refine hs_if0 (c := .eq) (t := 125) (f := 116) (by decide +kernel) (show ¬ (Int32.ofNat 1 = 0) by decide) ?_
            refine hs_aload (i := 0) (p := 117) (by decide +kernel) rfl ?_
            refine ht_callv (T := et_TT) (t := 13) (mi := 193) (na := 0) (ci := 11) (lk := 3) (lm := 1) (L0 := eg_en (eg_mL 193) [.ref am]) (by decide +kernel) rfl hH k_am rfl rfl rfl rfl rfl (by rw [show eg_mL 193 = 1 from by decide +kernel]; first | done | rfl) ?_
            refine ((fr_cond 6).2 _ _ _ _ _ _ _ _ _ _ _ _ hH k_am m4 k_tm m7 hn ht hb q6_110 ha110 hpl m13 k_aw m1 m12 e104 (by omega) (by omega) (by omega)).mono (fun u hu => xw_cb hu (fun G117 v117 hH x117 hP117 => ?_))
            have x117 : xf (fun c j => (c = am ∧ j = 6) ∨ (c = am ∧ j = 8) ∨ (c = am ∧ j = 9) ∨ (c = am ∧ j = 12) ∨ (c = aw ∧ (11941 + 2 * k) ≤ j)) _ _ := x117
            have m4 := (x117.2 am 4 lt_am (fun h => Or.elim h (fun h => absurd h.2 (by decide)) (fun h => Or.elim h (fun h => absurd h.2 (by decide)) (fun h => Or.elim h (fun h => absurd h.2 (by decide)) (fun h => Or.elim h (fun h => absurd h.2 (by decide)) (fun h => (hi_ne k_am k_aw (by decide)) h.1)))))).trans m4
            have m7 := (x117.2 am 7 lt_am (fun h => Or.elim h (fun h => absurd h.2 (by decide)) (fun h => Or.elim h (fun h => absurd h.2 (by decide)) (fun h => Or.elim h (fun h => absurd h.2 (by decide)) (fun h => Or.elim h (fun h => absurd h.2 (by decide)) (fun h => (hi_ne k_am k_aw (by decide)) h.1)))))).trans m7
            have m13 := (x117.2 am 13 lt_am (fun h => Or.elim h (fun h => absurd h.2 (by decide)) (fun h => Or.elim h (fun h => absurd h.2 (by decide)) (fun h => Or.elim h (fun h => absurd h.2 (by decide)) (fun h => Or.elim h (fun h => absurd h.2 (by decide)) (fun h => (hi_ne k_am k_aw (by decide)) h.1)))))).trans m13
            have m1 := (x117.2 am 1 lt_am (fun h => Or.elim h (fun h => absurd h.2 (by decide)) (fun h => Or.elim h (fun h => absurd h.2 (by decide)) (fun h => Or.elim h (fun h => absurd h.2 (by decide)) (fun h => Or.elim h (fun h => absurd h.2 (by decide)) (fun h => (hi_ne k_am k_aw (by decide)) h.1)))))).trans m1
            have e51 := (x117.2 aw (126 + 841 * 14 + 1 + 4 * i) lt_aw (fun h => Or.elim h (fun h => hne h.1) (fun h => Or.elim h (fun h => hne h.1) (fun h => Or.elim h (fun h => hne h.1) (fun h => Or.elim h (fun h => hne h.1) (fun h => by have h := h.2; omega)))))).trans e51
            have e76 := (x117.2 aw ((126 + 841 * 14 + 1 + 4 * i) + 1) lt_aw (fun h => Or.elim h (fun h => hne h.1) (fun h => Or.elim h (fun h => hne h.1) (fun h => Or.elim h (fun h => hne h.1) (fun h => Or.elim h (fun h => hne h.1) (fun h => by have h := h.2; omega)))))).trans e76
            have e88 := (x117.2 aw ((126 + 841 * 14 + 1 + 4 * i) + 2) lt_aw (fun h => Or.elim h (fun h => hne h.1) (fun h => Or.elim h (fun h => hne h.1) (fun h => Or.elim h (fun h => hne h.1) (fun h => Or.elim h (fun h => hne h.1) (fun h => by have h := h.2; omega)))))).trans e88
            have ht : ∀ i, i < n → et_pl (eg_at G117 tm) i = some (.int (sx (b i))) := fun i hi => (x117.2 tm i lt_tm (fun h => Or.elim h (fun h => (hi_ne k_tm k_am (by decide)) h.1) (fun h => Or.elim h (fun h => (hi_ne k_tm k_am (by decide)) h.1) (fun h => Or.elim h (fun h => (hi_ne k_tm k_am (by decide)) h.1) (fun h => Or.elim h (fun h => (hi_ne k_tm k_am (by decide)) h.1) (fun h => (hi_ne k_tm k_aw (by decide)) h.1)))))).trans (ht i hi)
            have lt_am := Nat.lt_of_lt_of_le lt_am x117.1
            have lt_tm := Nat.lt_of_lt_of_le lt_tm x117.1
            have lt_aw := Nat.lt_of_lt_of_le lt_aw x117.1
            have hX := hX.tr x117 (fun b j hb h => by first | omega | (dsimp only at h ⊢; omega) | (dsimp only at h; omega) | (dsimp only; omega))
            rcases hP117 with ⟨sp117, rfl⟩ | ⟨f117, p117, C117, sp117, rfl, q6_117, ha117, q12_117, q9_117, hC117, hR117, hl117⟩
            · show et_go none _ 187 120 _ [.int (Int32.ofNat 0)] _ _ _ _
              refine hs_if0 (c := .ne) (t := 125) (f := 123) (by decide +kernel) (show ¬ (¬ Int32.ofNat 0 = 0) by decide) ?_
              refine hs_k (x := Int32.ofNat 0) (p := 124) (by decide +kernel) ?_
              refine hs_zret (by decide +kernel) (.inl rfl) ?_
              exact ⟨_, _, rfl, hH, hX, .inl ⟨ln_cn i30 (.inr rfl) (wt30.2.1.symm.trans te73) vl73 i110 (by rw [← te110]; exact sp117), rfl⟩⟩
            · show et_go none _ 187 120 _ [.int (Int32.ofNat 1)] _ _ _ _
              refine hs_if1 (c := .ne) (t := 125) (f := 123) (by decide +kernel) (show ¬ Int32.ofNat 1 = 0 by decide) ?_
              refine hs_aload (i := 0) (p := 126) (by decide +kernel) rfl ?_
              refine hf_get (T := et_TT) (t := 13) (ci := 11) (f := 1) (p := 129) (by decide +kernel) rfl hH k_am m1 ?_
              refine hs_iload (i := 2) (p := 130) (by decide +kernel) rfl ?_
              refine hs_k (x := Int32.ofNat 3) (p := 131) (by decide +kernel) ?_
              refine hs_iaddn (p := 132) (by decide +kernel) ?_
              refine hs_aload (i := 0) (p := 133) (by decide +kernel) rfl ?_
              refine hf_get (T := et_TT) (t := 13) (ci := 11) (f := 12) (p := 136) (by decide +kernel) rfl hH k_am q12_117 ?_
              refine hf_wsd (p := 137) (by decide +kernel) hH k_aw (by omega) (by omega) (fun G136 hH x136 e136 => ?_)
              have hC117 := hC117.fr x136 lt_aw (fun j h1 h2 hs => by first | omega | (dsimp only at hs h2; omega))
              have m4 := (x136.2 am 4 lt_am (fun h => (hi_ne k_am k_aw (by decide)) h.1)).trans m4
              have m7 := (x136.2 am 7 lt_am (fun h => (hi_ne k_am k_aw (by decide)) h.1)).trans m7
              have q6_117 := (x136.2 am 6 lt_am (fun h => (hi_ne k_am k_aw (by decide)) h.1)).trans q6_117
              have m13 := (x136.2 am 13 lt_am (fun h => (hi_ne k_am k_aw (by decide)) h.1)).trans m13
              have m1 := (x136.2 am 1 lt_am (fun h => (hi_ne k_am k_aw (by decide)) h.1)).trans m1
              have q12_117 := (x136.2 am 12 lt_am (fun h => (hi_ne k_am k_aw (by decide)) h.1)).trans q12_117
              have e51 := (x136.2 aw (126 + 841 * 14 + 1 + 4 * i) lt_aw (fun h => by have h := h.2; omega)).trans e51
              have e76 := (x136.2 aw ((126 + 841 * 14 + 1 + 4 * i) + 1) lt_aw (fun h => by have h := h.2; omega)).trans e76
              have e88 := (x136.2 aw ((126 + 841 * 14 + 1 + 4 * i) + 2) lt_aw (fun h => by have h := h.2; omega)).trans e88
              have q9_117 := (x136.2 am 9 lt_am (fun h => (hi_ne k_am k_aw (by decide)) h.1)).trans q9_117
              have ht : ∀ i, i < n → et_pl (eg_at G136 tm) i = some (.int (sx (b i))) := fun i hi => (x136.2 tm i lt_tm (fun h => (hi_ne k_tm k_aw (by decide)) h.1)).trans (ht i hi)
              have lt_am := Nat.lt_of_lt_of_le lt_am x136.1
              have lt_tm := Nat.lt_of_lt_of_le lt_tm x136.1
              have lt_aw := Nat.lt_of_lt_of_le lt_aw x136.1
              have hX := hX.tr x136 (fun b j hb h => by first | omega | (dsimp only at h ⊢; omega) | (dsimp only at h; omega) | (dsimp only; omega))
              refine hs_k (x := Int32.ofNat 1) (p := 138) (by decide +kernel) ?_
              refine hs_zret (by decide +kernel) (.inr rfl) ?_
              refine ⟨_, _, rfl, hH, hX, .inr ⟨_, p117, _, ln_c i30 (.inr rfl) (wt30.2.1.symm.trans te73) vl73 i110 (by rw [← te110]; exact sp117), rfl, q6_117, ha117, q12_117, (by omega), (by omega), k, _, pl_eq e51 (by omega), pl_eq e76 (by omega), pl_eq e88 (by omega), pl_eq e136 (by omega), (by omega), (by omega), C117, rfl, hC117, hR117⟩⟩
          · have tn110 := congrArg List.length te110
            show et_go none _ 187 113 _ [.int (Int32.ofNat 0)] _ _ _ _
            refine hs_if1 (c := .eq) (t := 125) (f := 116) (by decide +kernel) (show Int32.ofNat 0 = 0 by decide) ?_
            refine hs_aload (i := 0) (p := 126) (by decide +kernel) rfl ?_
            refine hf_get (T := et_TT) (t := 13) (ci := 11) (f := 1) (p := 129) (by decide +kernel) rfl hH k_am m1 ?_
            refine hs_iload (i := 2) (p := 130) (by decide +kernel) rfl ?_
            refine hs_k (x := Int32.ofNat 3) (p := 131) (by decide +kernel) ?_
            refine hs_iaddn (p := 132) (by decide +kernel) ?_
            refine hs_aload (i := 0) (p := 133) (by decide +kernel) rfl ?_
            refine hf_get (T := et_TT) (t := 13) (ci := 11) (f := 12) (p := 136) (by decide +kernel) rfl hH k_am m12 ?_
            refine hf_wsd (p := 137) (by decide +kernel) hH k_aw (by omega) (by omega) (fun G136 hH x136 e136 => ?_)
            have m4 := (x136.2 am 4 lt_am (fun h => (hi_ne k_am k_aw (by decide)) h.1)).trans m4
            have m7 := (x136.2 am 7 lt_am (fun h => (hi_ne k_am k_aw (by decide)) h.1)).trans m7
            have q6_110 := (x136.2 am 6 lt_am (fun h => (hi_ne k_am k_aw (by decide)) h.1)).trans q6_110
            have m13 := (x136.2 am 13 lt_am (fun h => (hi_ne k_am k_aw (by decide)) h.1)).trans m13
            have m1 := (x136.2 am 1 lt_am (fun h => (hi_ne k_am k_aw (by decide)) h.1)).trans m1
            have m12 := (x136.2 am 12 lt_am (fun h => (hi_ne k_am k_aw (by decide)) h.1)).trans m12
            have e51 := (x136.2 aw (126 + 841 * 14 + 1 + 4 * i) lt_aw (fun h => by have h := h.2; omega)).trans e51
            have e76 := (x136.2 aw ((126 + 841 * 14 + 1 + 4 * i) + 1) lt_aw (fun h => by have h := h.2; omega)).trans e76
            have e88 := (x136.2 aw ((126 + 841 * 14 + 1 + 4 * i) + 2) lt_aw (fun h => by have h := h.2; omega)).trans e88
            have e104 := (x136.2 am 9 lt_am (fun h => (hi_ne k_am k_aw (by decide)) h.1)).trans e104
            have ht : ∀ i, i < n → et_pl (eg_at G136 tm) i = some (.int (sx (b i))) := fun i hi => (x136.2 tm i lt_tm (fun h => (hi_ne k_tm k_aw (by decide)) h.1)).trans (ht i hi)
            have lt_am := Nat.lt_of_lt_of_le lt_am x136.1
            have lt_tm := Nat.lt_of_lt_of_le lt_tm x136.1
            have lt_aw := Nat.lt_of_lt_of_le lt_aw x136.1
            have hX := hX.tr x136 (fun b j hb h => by first | omega | (dsimp only at h ⊢; omega) | (dsimp only at h; omega) | (dsimp only; omega))
            refine hs_k (x := Int32.ofNat 1) (p := 138) (by decide +kernel) ?_
            refine hs_zret (by decide +kernel) (.inr rfl) ?_
            refine ⟨_, _, rfl, hH, hX, .inr ⟨(30 == 29, v73x, none), p110, _, (by rw [te110]; exact ln_1 i30 (.inr rfl) (wt30.2.1.symm.trans te73) vl73 i110), rfl, q6_110, ha110, m12, (by omega), (by omega), k, _, pl_eq e51 (by omega), pl_eq e76 (by omega), pl_eq e88 (by omega), pl_eq e136 (by omega), (by omega), (by omega), rfl⟩⟩
        · show et_go none _ 187 76 _ [.int (-1), .int (Int32.ofNat ((126 + 841 * 14 + 1 + 4 * i) + 1)), .ref aw] _ _ _ _
          refine hf_wsd (p := 77) (by decide +kernel) hH k_aw (by omega) (by omega) (fun G76 hH x76 e76 => ?_)
          have m4 := (x76.2 am 4 lt_am (fun h => (hi_ne k_am k_aw (by decide)) h.1)).trans m4
          have m7 := (x76.2 am 7 lt_am (fun h => (hi_ne k_am k_aw (by decide)) h.1)).trans m7
          have m13 := (x76.2 am 13 lt_am (fun h => (hi_ne k_am k_aw (by decide)) h.1)).trans m13
          have m1 := (x76.2 am 1 lt_am (fun h => (hi_ne k_am k_aw (by decide)) h.1)).trans m1
          have m12 := (x76.2 am 12 lt_am (fun h => (hi_ne k_am k_aw (by decide)) h.1)).trans m12
          have e51 := (x76.2 aw (126 + 841 * 14 + 1 + 4 * i) lt_aw (fun h => by have h := h.2; omega)).trans e51
          have ht : ∀ i, i < n → et_pl (eg_at G76 tm) i = some (.int (sx (b i))) := fun i hi => (x76.2 tm i lt_tm (fun h => (hi_ne k_tm k_aw (by decide)) h.1)).trans (ht i hi)
          have lt_am := Nat.lt_of_lt_of_le lt_am x76.1
          have lt_tm := Nat.lt_of_lt_of_le lt_tm x76.1
          have lt_aw := Nat.lt_of_lt_of_le lt_aw x76.1
          have hX := hX.tr x76 (fun b j hb h => by first | omega | (dsimp only at h ⊢; omega) | (dsimp only at h; omega) | (dsimp only; omega))
          refine hs_aload (i := 0) (p := 78) (by decide +kernel) rfl ?_
          refine hf_get (T := et_TT) (t := 13) (ci := 11) (f := 1) (p := 81) (by decide +kernel) rfl hH k_am m1 ?_
          refine hs_iload (i := 2) (p := 82) (by decide +kernel) rfl ?_
          refine hs_k (x := Int32.ofNat 2) (p := 83) (by decide +kernel) ?_
          refine hs_iaddn (p := 84) (by decide +kernel) ?_
          refine hs_aload (i := 0) (p := 85) (by decide +kernel) rfl ?_
          refine hf_get (T := et_TT) (t := 13) (ci := 11) (f := 12) (p := 88) (by decide +kernel) rfl hH k_am m12 ?_
          refine hf_wsd (p := 89) (by decide +kernel) hH k_aw (by omega) (by omega) (fun G88 hH x88 e88 => ?_)
          have m4 := (x88.2 am 4 lt_am (fun h => (hi_ne k_am k_aw (by decide)) h.1)).trans m4
          have m7 := (x88.2 am 7 lt_am (fun h => (hi_ne k_am k_aw (by decide)) h.1)).trans m7
          have m13 := (x88.2 am 13 lt_am (fun h => (hi_ne k_am k_aw (by decide)) h.1)).trans m13
          have m1 := (x88.2 am 1 lt_am (fun h => (hi_ne k_am k_aw (by decide)) h.1)).trans m1
          have m12 := (x88.2 am 12 lt_am (fun h => (hi_ne k_am k_aw (by decide)) h.1)).trans m12
          have e51 := (x88.2 aw (126 + 841 * 14 + 1 + 4 * i) lt_aw (fun h => by have h := h.2; omega)).trans e51
          have e76 := (x88.2 aw ((126 + 841 * 14 + 1 + 4 * i) + 1) lt_aw (fun h => by have h := h.2; omega)).trans e76
          have ht : ∀ i, i < n → et_pl (eg_at G88 tm) i = some (.int (sx (b i))) := fun i hi => (x88.2 tm i lt_tm (fun h => (hi_ne k_tm k_aw (by decide)) h.1)).trans (ht i hi)
          have lt_am := Nat.lt_of_lt_of_le lt_am x88.1
          have lt_tm := Nat.lt_of_lt_of_le lt_tm x88.1
          have lt_aw := Nat.lt_of_lt_of_le lt_aw x88.1
          have hX := hX.tr x88 (fun b j hb h => by first | omega | (dsimp only at h ⊢; omega) | (dsimp only at h; omega) | (dsimp only; omega))
          refine hs_aload (i := 0) (p := 90) (by decide +kernel) rfl ?_
          refine hf_get (T := et_TT) (t := 13) (ci := 11) (f := 1) (p := 93) (by decide +kernel) rfl hH k_am m1 ?_
          refine hs_iload (i := 2) (p := 94) (by decide +kernel) rfl ?_
          refine hs_k (x := Int32.ofNat 1) (p := 95) (by decide +kernel) ?_
          refine hs_iaddn (p := 96) (by decide +kernel) ?_
          refine hf_ald (ins := .iaload) (T := et_TT) (t := 46) (kd := 0) (N := 12741) (p := 97) (by decide +kernel) (fun _ _ _ _ _ _ _ _ _ _ => rfl) rfl rfl rfl hH k_aw (by decide) e76 ?_
          refine hs_if0 (c := .ge) (t := 102) (f := 100) (by decide +kernel) (show ¬ (0 ≤ (-1 : Int32)) by decide) ?_
          refine hs_k (x := Int32.ofNat 0) (p := 101) (by decide +kernel) ?_
          refine hs_zret (by decide +kernel) (.inl rfl) ?_
          exact ⟨_, _, rfl, hH, hX, .inl ⟨ln_n (wt30.2.1.symm) no73, rfl⟩⟩
      · rw [if_neg i30]
        show et_go none _ 187 43 _ [.int (Int32.ofNat 0), .int (Int32.ofNat (126 + 841 * 14 + 1 + 4 * i)), .ref aw] _ _ _ _
        refine hs_if1 (c := .eq) (t := 50) (f := 46) (by decide +kernel) (show Int32.ofNat 0 = 0 by decide) ?_
        refine hs_k (x := (-1)) (p := 51) (by decide +kernel) ?_
        refine hf_wsd (p := 52) (by decide +kernel) hH k_aw (by omega) (by omega) (fun G51 hH x51 e51 => ?_)
        have m4 := (x51.2 am 4 lt_am (fun h => (hi_ne k_am k_aw (by decide)) h.1)).trans m4
        have m7 := (x51.2 am 7 lt_am (fun h => (hi_ne k_am k_aw (by decide)) h.1)).trans m7
        have q6_1 := (x51.2 am 6 lt_am (fun h => (hi_ne k_am k_aw (by decide)) h.1)).trans q6_1
        have m13 := (x51.2 am 13 lt_am (fun h => (hi_ne k_am k_aw (by decide)) h.1)).trans m13
        have m1 := (x51.2 am 1 lt_am (fun h => (hi_ne k_am k_aw (by decide)) h.1)).trans m1
        have m12 := (x51.2 am 12 lt_am (fun h => (hi_ne k_am k_aw (by decide)) h.1)).trans m12
        have q8_1 := (x51.2 am 8 lt_am (fun h => (hi_ne k_am k_aw (by decide)) h.1)).trans q8_1
        have ht : ∀ i, i < n → et_pl (eg_at G51 tm) i = some (.int (sx (b i))) := fun i hi => (x51.2 tm i lt_tm (fun h => (hi_ne k_tm k_aw (by decide)) h.1)).trans (ht i hi)
        have lt_am := Nat.lt_of_lt_of_le lt_am x51.1
        have lt_tm := Nat.lt_of_lt_of_le lt_tm x51.1
        have lt_aw := Nat.lt_of_lt_of_le lt_aw x51.1
        have hX := hX.tr x51 (fun b j hb h => by first | omega | (dsimp only at h ⊢; omega) | (dsimp only at h; omega) | (dsimp only; omega))
        refine hs_aload (i := 0) (p := 53) (by decide +kernel) rfl ?_
        refine hf_get (T := et_TT) (t := 13) (ci := 11) (f := 1) (p := 56) (by decide +kernel) rfl hH k_am m1 ?_
        refine hs_iload (i := 2) (p := 57) (by decide +kernel) rfl ?_
        refine hf_ald (ins := .iaload) (T := et_TT) (t := 46) (kd := 0) (N := 12741) (p := 58) (by decide +kernel) (fun _ _ _ _ _ _ _ _ _ _ => rfl) rfl rfl rfl hH k_aw (by decide) e51 ?_
        refine hs_if0 (c := .ge) (t := 63) (f := 61) (by decide +kernel) (show ¬ (0 ≤ (-1 : Int32)) by decide) ?_
        refine hs_k (x := Int32.ofNat 0) (p := 62) (by decide +kernel) ?_
        refine hs_zret (by decide +kernel) (.inl rfl) ?_
        exact ⟨_, _, rfl, hH, hX, .inl ⟨ln_0 i29 i30, rfl⟩⟩
  · exact absurd (by omega : ¬ i = 10) c7
theorem fr_line10 (hH : et_H et_TT K G) (k_am : K am = some 13) (m4 : et_pl (eg_at G am) 4 = some (.ref tm)) (k_tm : K tm = some 34) (m7 : et_pl (eg_at G am) 7 = some (.int (Int32.ofNat n))) (hn : n ≤ 400) (ht : ∀ i, i < n → et_pl (eg_at G tm) i = some (.int (sx (b i)))) (hb : ∀ i, i < n → b i < 256) (m6 : et_pl (eg_at G am) 6 = some (.int (Int32.ofNat p))) (ha : tal b n p) (hpl : pl ≤ 2) (m13 : et_pl (eg_at G am) 13 = some (.int (Int32.ofNat pl))) (k_aw : K aw = some 46) (m1 : et_pl (eg_at G am) 1 = some (.ref aw)) (m12 : et_pl (eg_at G am) 12 = some (.int (Int32.ofNat k))) (hd : 32 ≤ d2) : et_go none d2 187 0 (eg_en (eg_mL 187) [.ref am, .int (Int32.ofNat 10)]) [] G 0 0 (xw_Z (fun c j => (c = am ∧ j = 6) ∨ (c = am ∧ j = 8)) K G (fun _ v => v = some (.int (Int32.ofNat 0)))) := by
  obtain ⟨d, rfl⟩ : ∃ d, d2 = d + 32 := ⟨d2 - 32, by omega⟩
  rw [show eg_mL 187 = 3 from by decide +kernel]
  show et_go none (d + 32) 187 0 [some (.ref am), some (.int (Int32.ofNat 10)), none] [] G 0 0 (xw_Z _ _ _ _)
  have hne : ¬ aw = am := hi_ne k_aw k_am (by decide)
  have lt_am := (hH.2.2 _ _ k_am).1
  have lt_tm := (hH.2.2 _ _ k_tm).1
  have lt_aw := (hH.2.2 _ _ k_aw).1
  have hX : xf (fun c j => (c = am ∧ j = 6) ∨ (c = am ∧ j = 8)) G G := xf.rf
  refine hs_aload (i := 0) (p := 1) (by decide +kernel) rfl ?_
  refine ht_callv (T := et_TT) (t := 13) (mi := 188) (na := 0) (ci := 11) (lk := 3) (lm := 1) (L0 := eg_en (eg_mL 188) [.ref am]) (by decide +kernel) rfl hH k_am rfl rfl rfl rfl rfl (by rw [show eg_mL 188 = 1 from by decide +kernel]; first | done | rfl) ?_
  refine (fm_let hH k_am m4 k_tm m7 hn ht hb m6 ha.1 (by omega)).mono (fun u hu => xw_cb hu (fun G1 v1 hH x1 hP1 => ?_))
  have m4 := (x1.2 am 4 lt_am (fun h => Or.elim h (fun h => absurd h.2 (by decide)) (fun h => absurd h.2 (by decide)))).trans m4
  have m7 := (x1.2 am 7 lt_am (fun h => Or.elim h (fun h => absurd h.2 (by decide)) (fun h => absurd h.2 (by decide)))).trans m7
  have m13 := (x1.2 am 13 lt_am (fun h => Or.elim h (fun h => absurd h.2 (by decide)) (fun h => absurd h.2 (by decide)))).trans m13
  have m1 := (x1.2 am 1 lt_am (fun h => Or.elim h (fun h => absurd h.2 (by decide)) (fun h => absurd h.2 (by decide)))).trans m1
  have m12 := (x1.2 am 12 lt_am (fun h => Or.elim h (fun h => absurd h.2 (by decide)) (fun h => absurd h.2 (by decide)))).trans m12
  have ht : ∀ i, i < n → et_pl (eg_at G1 tm) i = some (.int (sx (b i))) := fun i hi => (x1.2 tm i lt_tm (fun h => Or.elim h (fun h => (hi_ne k_tm k_am (by decide)) h.1) (fun h => (hi_ne k_tm k_am (by decide)) h.1))).trans (ht i hi)
  have lt_am := Nat.lt_of_lt_of_le lt_am x1.1
  have lt_tm := Nat.lt_of_lt_of_le lt_tm x1.1
  have lt_aw := Nat.lt_of_lt_of_le lt_aw x1.1
  have hX := hX.tr x1 (fun b j hb h => by first | omega | (dsimp only at h ⊢; omega) | (dsimp only at h; omega) | (dsimp only; omega))
  obtain ⟨rfl, q6_1, q8_1⟩ := hP1
  have hsk := skp_le (b := b) (n := n) (p := p) ha.1
  have hls := lst_le (b := b) hsk.2
  have tk1 := tok_al (pl := pl) ha
  have tn1 := congrArg List.length tk1.2
  show et_go none _ 187 4 _ [] _ _ _ _
  refine hs_iload (i := 1) (p := 5) (by decide +kernel) rfl ?_
  refine hs_k (x := Int32.ofNat 10) (p := 7) (by decide +kernel) ?_
  refine hs_br2n (c := .ne) (t := 12) (f := 10) (by decide +kernel) (by omega) (by omega) (fun h => absurd h (show ¬ (¬ 10 = 10) by decide)) (fun _ => ?_)
  refine hs_k (x := Int32.ofNat 0) (p := 11) (by decide +kernel) ?_
  refine hs_zret (by decide +kernel) (.inl rfl) ?_
  exact ⟨_, _, rfl, hH, hX, rfl⟩
end FXA2
