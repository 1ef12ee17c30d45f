section
/-! FUNCTIONAL: the reference's tokens and steps -/
theorem tz_eq_in {b : Nat → Nat} : ∀ {s s' : List Nat} {i : Nat}, s.length = s'.length → tz_eq b i s = true → tz_eq b i s' = true → s = s'
  | [], [], _, _, _, _ => rfl
  | [], _ :: _, _, h, _, _ => by cases h
  | _ :: _, [], _, h, _, _ => by cases h
  | x :: s, y :: s', i, h, h1, h2 => by
    have h1 : (b i == x && tz_eq b (i + 1) s) = true := h1
    have h2 : (b i == y && tz_eq b (i + 1) s') = true := h2
    rw [Bool.and_eq_true, beq_iff_eq] at h1 h2
    rw [← h1.1, ← h2.1, tz_eq_in (Nat.succ.inj h) h1.2 h2.2]
theorem tz_is_in {b : Nat → Nat} {s s' : List Nat} {i e : Nat} (h1 : tz_is b s i e = true) (h2 : tz_is b s' i e = true) : s = s' := by
  unfold tz_is at h1 h2
  rw [Bool.and_eq_true, beq_iff_eq] at h1 h2
  exact tz_eq_in (h1.1.trans h2.1.symm) h1.2 h2.2
theorem tz_fd_of {pl i e w : Nat} {b : Nat → Nat} (h : (tz_ok pl w && tz_is b (tz_tx w) i e) = true) : ∀ (k w0 : Nat), w0 ≤ w → w < w0 + k → (∀ w', w0 ≤ w' → w' < w → ¬ (tz_ok pl w' && tz_is b (tz_tx w') i e) = true) → tz_fd pl b i e k w0 = w
  | 0, w0, h1, h2, _ => by omega
  | k + 1, w0, h1, h2, h3 => by
    show (if (tz_ok pl w0 && tz_is b (tz_tx w0) i e) = true then w0 else _) = w
    by_cases he : w0 = w
    · rw [he, if_pos h]
    · rw [if_neg (h3 w0 (Nat.le_refl _) (by omega))]
      exact tz_fd_of h k (w0 + 1) (by omega) (by omega) (fun w' a1 a2 => h3 w' (by omega) a2)
theorem tz_fd_is {pl i e : Nat} {b : Nat → Nat} : ∀ (k w0 : Nat), ¬ tz_fd pl b i e k w0 = 35 → (tz_ok pl (tz_fd pl b i e k w0) && tz_is b (tz_tx (tz_fd pl b i e k w0)) i e) = true
  | 0, _, h => absurd rfl h
  | k + 1, w0, h => by
    by_cases hc : (tz_ok pl w0 && tz_is b (tz_tx w0) i e) = true
    · have h1 : tz_fd pl b i e (k + 1) w0 = w0 := if_pos hc
      rw [h1]
      exact hc
    · have h1 : tz_fd pl b i e (k + 1) w0 = tz_fd pl b i e k (w0 + 1) := if_neg hc
      rw [h1] at h ⊢
      exact tz_fd_is k (w0 + 1) h
theorem tz_un : ∀ pl ∈ List.range 3, ∀ w ∈ List.range 33, ∀ w' ∈ List.range 33, tz_ok pl w = true → tz_ok pl w' = true → tz_tx w = tz_tx w' → w = w' := by decide +kernel
/-- a word's text: its first byte -/
def tz_f (w : Nat) : Nat := (tz_tx w).headD 0
theorem tz_ne : ∀ w ∈ List.range 33, tz_tx w = tz_f w :: (tz_tx w).tail ∧ tz_d (tz_f w) = false := by decide +kernel
section TOK
variable {b : Nat → Nat} {pl n p q w j c : Nat}
theorem is_first (hw : w < 33) {e : Nat} (h : tz_is b (tz_tx w) q e = true) : b q = tz_f w := by
  have h1 := (tz_ne w (List.mem_range.mpr hw)).1
  unfold tz_is at h
  rw [Bool.and_eq_true, h1] at h
  have h2 : (b q == tz_f w && tz_eq b (q + 1) (tz_tx w).tail) = true := h.2
  rw [Bool.and_eq_true, beq_iff_eq] at h2
  exact h2.1
theorem wd_of (hpl : pl ≤ 2) (hw : w < 33) (hok : tz_ok pl w = true) (h : tz_is b (tz_tx w) q (tz_end b n q) = true) : tz_wd pl b n q = w := by
  have hd : tz_d (b q) = false := by
    rw [is_first hw h]
    exact (tz_ne w (List.mem_range.mpr hw)).2
  have h1 : tz_wd pl b n q = tz_fd pl b q (tz_end b n q) 36 0 := if_neg (by rw [hd]; decide)
  rw [h1]
  refine tz_fd_of (by rw [hok, h]; rfl) 36 0 (Nat.zero_le _) (by omega) (fun w' _ a2 a3 => ?_)
  rw [Bool.and_eq_true] at a3
  have := tz_un pl (List.mem_range.mpr (by omega)) w' (List.mem_range.mpr (by omega)) w (List.mem_range.mpr hw) a3.1 hok (tz_is_in a3.2 h)
  omega
theorem wd_is (hw : w < 33) (h : tz_wd pl b n q = w) : tz_ok pl w = true ∧ tz_is b (tz_tx w) q (tz_end b n q) = true := by
  unfold tz_wd at h
  split at h
  · omega
  · have h1 := tz_fd_is (pl := pl) (i := q) (e := tz_end b n q) (b := b) 36 0 (by omega)
    rw [h, Bool.and_eq_true] at h1
    exact h1
theorem wd_33 : tz_wd pl b n q = 33 ↔ tz_d (b q) = true := by
  constructor
  · intro h
    refine Decidable.by_contra (fun hd => ?_)
    have h1 : tz_wd pl b n q = tz_fd pl b q (tz_end b n q) 36 0 := if_neg hd
    rw [h1] at h
    have h2 := tz_fd_is (pl := pl) (i := q) (e := tz_end b n q) (b := b) 36 0 (by omega)
    rw [h, Bool.and_eq_true] at h2
    have h3 := h2.2
    unfold tz_is at h3
    rw [Bool.and_eq_true, beq_iff_eq, show (tz_tx 33).length = 0 from by decide +kernel] at h3
    by_cases hq : q < n
    · have := tz_end_le (b := b) hq
      omega
    · have := tz_en_le (b := b) (n := n) (n - (q + 1)) (q + 1)
      have h4 : tz_end b n q = tz_en b n (n - (q + 1)) (q + 1) := rfl
      omega
  · intro h
    exact if_pos h
/-- what stands before the place p -/
theorem tok_e (hp : p ≤ n) (h : ¬ skp b n p < n) : tz_ts pl b n p = [] := by
  rw [ts_sk rfl]
  exact ts_n (by omega)
theorem tok_c (ha : tal b n p) (h : skp b n p < n) : tz_ts pl b n p = tz_tk pl b n (skp b n p) :: tz_ts pl b n (tz_end b n (skp b n p)) := by
  have h1 := skp_al rfl ha
  rw [ts_sk rfl]
  exact ts_c h h1.2.1.2 (h1.2.2 h)
theorem tok_w0 (ha : tal b n p) (h : skp b n p < n) : wat (tz_ts pl b n p) 0 = tz_wd pl b n (skp b n p) := by
  rw [tok_c ha h]
  rfl
theorem tok_34 (hp : p ≤ n) (h : ¬ skp b n p < n) : wat (tz_ts pl b n p) 0 = 34 := by
  rw [tok_e hp h]
  rfl
/-- words of letters -/
theorem tok_l (hpl : pl ≤ 2) (ha : tal b n p) (hw : w < 33) (hok : tz_ok pl w = true) (hl : tz_l (tz_f w) = true) : tz_is b (tz_tx w) (skp b n p) (lst b n (skp b n p)) = true ↔ wat (tz_ts pl b n p) 0 = w := by
  have h1 := skp_al rfl ha
  constructor
  · intro h
    have hb := is_first hw h
    have hlen : 0 < lst b n (skp b n p) - skp b n p := by
      unfold tz_is at h
      rw [Bool.and_eq_true, beq_iff_eq, (tz_ne w (List.mem_range.mpr hw)).1] at h
      have := h.1
      rw [List.length_cons] at this
      omega
    have hq : skp b n p < n ∧ tz_l (b (skp b n p)) = true := Decidable.by_contra (fun hq => by
      have : lst b n (skp b n p) = skp b n p := if_neg hq
      omega)
    have he : lst b n (skp b n p) = tz_end b n (skp b n p) := if_pos hq
    rw [he] at h
    rw [tok_w0 ha hq.1]
    exact wd_of hpl hw hok h
  · intro h
    have hq : skp b n p < n := Decidable.by_contra (fun hq => by
      rw [tok_34 ha.1 hq] at h
      omega)
    rw [tok_w0 ha hq] at h
    have h2 := (wd_is hw h).2
    have hb := is_first hw h2
    have he : lst b n (skp b n p) = tz_end b n (skp b n p) := if_pos ⟨hq, by rw [hb]; exact hl⟩
    rw [he]
    exact h2
theorem tok_ly (ha : tal b n p) (hw : w < 33) (hl : tz_l (tz_f w) = true) (h : wat (tz_ts pl b n p) 0 = w) : tal b n (lst b n (skp b n p)) ∧ tz_ts pl b n (lst b n (skp b n p)) = (tz_ts pl b n p).drop 1 ∧ (tz_ts pl b n (lst b n (skp b n p))).length + 1 = (tz_ts pl b n p).length := by
  have hq : skp b n p < n := Decidable.by_contra (fun hq => by
    rw [tok_34 ha.1 hq] at h
    omega)
  rw [tok_w0 ha hq] at h
  have hb := is_first hw (wd_is hw h).2
  have he : lst b n (skp b n p) = tz_end b n (skp b n p) := if_pos ⟨hq, by rw [hb]; exact hl⟩
  rw [he, tok_c ha hq]
  exact ⟨tal_end hq, rfl, rfl⟩
theorem tok_al (ha : tal b n p) : tal b n (skp b n p) ∧ tz_ts pl b n (skp b n p) = tz_ts pl b n p := ⟨(skp_al rfl ha).2.1, (ts_sk rfl).symm⟩
/-- signs -/
theorem tok_s (hpl : pl ≤ 2) (ha : tal b n p) (hw : w < 33) (hok : tz_ok pl w = true) (ht : tz_tx w = [c]) (hl : tz_l c = false) (hd : tz_d c = false) : (skp b n p < n ∧ b (skp b n p) = c) ↔ wat (tz_ts pl b n p) 0 = w := by
  constructor
  · rintro ⟨hq, hb⟩
    rw [tok_w0 ha hq]
    refine wd_of hpl hw hok ?_
    rw [end_s (by rw [hb]; exact hl) (by rw [hb]; exact hd), ht]
    unfold tz_is
    rw [show skp b n p + 1 - skp b n p = 1 by omega]
    show (true && (b (skp b n p) == c && true)) = true
    rw [hb]
    simp
  · intro h
    have hq : skp b n p < n := Decidable.by_contra (fun hq => by
      rw [tok_34 ha.1 hq] at h
      omega)
    rw [tok_w0 ha hq] at h
    have hb := is_first hw (wd_is hw h).2
    refine ⟨hq, hb.trans ?_⟩
    unfold tz_f
    rw [ht]
    rfl
theorem tok_sy (ha : tal b n p) (hl : tz_l c = false) (hd : tz_d c = false) (h : skp b n p < n ∧ b (skp b n p) = c) : tal b n (skp b n p + 1) ∧ tz_ts pl b n (skp b n p + 1) = (tz_ts pl b n p).drop 1 ∧ (tz_ts pl b n (skp b n p + 1)).length + 1 = (tz_ts pl b n p).length := by
  have he : tz_end b n (skp b n p) = skp b n p + 1 := end_s (by rw [h.2]; exact hl) (by rw [h.2]; exact hd)
  have ht := tal_end (b := b) h.1
  rw [tok_c ha h.1]
  rw [he] at ht ⊢
  exact ⟨ht, rfl, rfl⟩
/-- NUMBERS -/
theorem tok_d (ha : tal b n p) : (skp b n p < n ∧ tz_d (b (skp b n p)) = true) ↔ wat (tz_ts pl b n p) 0 = 33 := by
  constructor
  · rintro ⟨hq, hd⟩
    rw [tok_w0 ha hq]
    exact wd_33.mpr hd
  · intro h
    have hq : skp b n p < n := Decidable.by_contra (fun hq => by
      rw [tok_34 ha.1 hq] at h
      omega)
    rw [tok_w0 ha hq] at h
    exact ⟨hq, wd_33.mp h⟩
theorem tok_dy (ha : tal b n p) (h : skp b n p < n ∧ tz_d (b (skp b n p)) = true) : tal b n (dst b n (skp b n p)) ∧ tz_ts pl b n p = (33, tz_nm b n (skp b n p)) :: tz_ts pl b n (dst b n (skp b n p)) := by
  have he : dst b n (skp b n p) = tz_end b n (skp b n p) := if_pos h
  rw [he, tok_c ha h.1]
  refine ⟨tal_end h.1, ?_⟩
  unfold tz_tk
  rw [wd_33.mpr h.2]
theorem ts_len {p : Nat} : (tz_ts pl b n p).length ≤ n - p := by
  unfold tz_ts
  rw [List.length_map]
  exact tz_bg_len _ _
end TOK
/-! steps -/
def fbw (pl : Nat) : Nat := if pl = 0 then 3 else if pl = 1 then 10 else 15
def tbw (pl : Nat) : Nat := if pl = 0 then 0 else if pl = 1 then 8 else 14
def b01 (x : Bool) : Int64 := if x = true then 1 else 0
def sk1 (pl : Nat) (E : sp_E) (o v : Nat) : Int64 := if o = 13 then Int64.ofNat v else if o < 10 then E.1 (fbw pl + o) else b01 (if o = 12 then E.2.2 v else E.2.1 (tbw pl + (o - 10)))
def sk2 (o : Nat) (x y : Int64) : Int64 := if o = 15 then x + y else if o = 14 then x * y else b01 (if o = 16 then decide (x < y) else if o = 17 then decide (y < x) else if o = 19 then decide (x + y = 2) else decide (0 < x + y))
def skS (pl : Nat) (E : sp_E) (s : Nat × Nat) (st : List Int64) : List Int64 := if s.1 ≤ 13 then sk1 pl E s.1 s.2 :: st else if s.1 = 18 then (match st with
  | x :: r => (1 - x) :: r
  | [] => []) else (match st with
  | y :: x :: r => sk2 s.1 x y :: r
  | _ => [])
def skR (pl : Nat) (E : sp_E) : List (Nat × Nat) → List Int64 → List Int64
  | [], st => st
  | s :: C, st => skR pl E C (skS pl E s st)
theorem skR_app {pl : Nat} {E : sp_E} : ∀ {C D : List (Nat × Nat)} {st : List Int64}, skR pl E (C ++ D) st = skR pl E D (skR pl E C st)
  | [], _, _ => rfl
  | _ :: C, D, st => skR_app (C := C)
/-- the draft's steps from the k-th on -/
def hasC (G : eg_G) (aw k : Nat) (C : List (Nat × Nat)) : Prop := ∀ j s, C[j]? = some s → et_pl (eg_at G aw) (11941 + 2 * (k + j)) = some (.int (Int32.ofNat s.1)) ∧ et_pl (eg_at G aw) (11941 + 2 * (k + j) + 1) = some (.int (Int32.ofNat s.2)) ∧ (s.1 < 10000 ∧ s.2 < 10000)
theorem hasC.nil {G : eg_G} {aw k : Nat} : hasC G aw k [] := fun j s h => by cases h
theorem hasC.app {G : eg_G} {aw k : Nat} {C D : List (Nat × Nat)} (h1 : hasC G aw k C) (h2 : hasC G aw (k + C.length) D) : hasC G aw k (C ++ D) := fun j s h => by
  by_cases hj : j < C.length
  · rw [List.getElem?_append_left hj] at h
    exact h1 j s h
  · rw [List.getElem?_append_right (by omega)] at h
    have h3 := h2 (j - C.length) s h
    rw [show k + C.length + (j - C.length) = k + j by omega] at h3
    exact h3
theorem hasC.fr {S : Nat → Nat → Prop} {G G' : eg_G} {aw k : Nat} {C : List (Nat × Nat)} (h : hasC G aw k C) (hx : xf S G G') (ha : aw < G.2) (hS : ∀ j, 11941 + 2 * k ≤ j → j < 11941 + 2 * (k + C.length) → ¬ S aw j) : hasC G' aw k C := fun j s hj => by
  have hl := (List.getElem?_eq_some_iff.mp hj).1
  exact ⟨(hx.2 aw _ ha (hS _ (by omega) (by omega))).trans (h j s hj).1, (hx.2 aw _ ha (hS _ (by omega) (by omega))).trans (h j s hj).2.1, (h j s hj).2.2⟩
/-- what steps say: a sum, a condition -/
def dnS (pl : Nat) (f : sp_E → Int64) (C : List (Nat × Nat)) : Prop := ∀ E st, skR pl E C st = f E :: st
def dnB (pl : Nat) (f : sp_E → Bool) (C : List (Nat × Nat)) : Prop := ∀ E st, skR pl E C st = b01 (f E) :: st
abbrev rS (am aw k : Nat) (c j : Nat) : Prop := (c = am ∧ j = 6) ∨ ((c = am ∧ j = 8) ∨ ((c = am ∧ j = 9) ∨ ((c = am ∧ j = 12) ∨ (c = aw ∧ 11941 + 2 * k ≤ j))))
/-- how a call of the reference's parser ends -/
def frP {α : Type} (b : Nat → Nat) (n pl am aw k dp : Nat) (T : List sp_T) (R : α → List (Nat × Nat) → Prop) (sp : Option (α × List sp_T)) (G' : eg_G) (v : Option Value) : Prop := (sp = none ∧ v = some (.int (Int32.ofNat 0))) ∨ ∃ (f : α) (p' : Nat) (C : List (Nat × Nat)), sp = some (f, tz_ts pl b n p') ∧ v = some (.int (Int32.ofNat 1)) ∧ et_pl (eg_at G' am) 6 = some (.int (Int32.ofNat p')) ∧ tal b n p' ∧ et_pl (eg_at G' am) 12 = some (.int (Int32.ofNat (k + C.length))) ∧ et_pl (eg_at G' am) 9 = some (.int (Int32.ofNat dp)) ∧ hasC G' aw k C ∧ R f C ∧ C.length + (tz_ts pl b n p').length ≤ T.length
def fr {α : Type} (b : Nat → Nat) (n pl am aw k dp : Nat) (T : List sp_T) (K : et_K) (G : eg_G) (R : α → List (Nat × Nat) → Prop) (sp : Option (α × List sp_T)) (u : eg_O) : Prop := xw_Z (rS am aw k) K G (frP b n pl am aw k dp T R sp) u
end
section
/-! FUNCTIONAL: the reference's parser, token by token -/
theorem ok3 {pl w : Nat} (h : tz_pl w = 3) : tz_ok pl w = true := by
  unfold tz_ok
  rw [h]
  simp
theorem okp {pl w : Nat} (h : tz_pl w = pl) : tz_ok pl w = true := by
  unfold tz_ok
  rw [h]
  simp
theorem xw_Z.mono {S S1 : Nat → Nat → Prop} {K : et_K} {G : eg_G} {P Q : eg_G → Option Value → Prop} {u : eg_O} (h : xw_Z S1 K G P u) (hS : ∀ a j, S1 a j → S a j) (hP : ∀ G' v, P G' v → Q G' v) : xw_Z S K G Q u := by
  obtain ⟨G', v, e, g1, g2, g3⟩ := h
  exact ⟨G', v, e, g1, g2.wk (fun a i _ hs => hS a i hs), hP _ _ g3⟩
theorem fm_text {d t : Nat} {G : eg_G} : et_go none d 186 0 (eg_en (eg_mL 186) [.int (Int32.ofNat t)]) [] G 0 0 (xp_Z G (some (.int (Int32.ofNat (126 + 841 * t))))) := by
  rw [show eg_mL 186 = 1 from by decide +kernel]
  exact rp_textAt rfl
theorem fm_line {d2 t n : Nat} {G : eg_G} (hd : 1 ≤ d2) : et_go none d2 189 0 (eg_en (eg_mL 189) [.int (Int32.ofNat t), .int (Int32.ofNat n)]) [] G 0 0 (xp_Z G (some (.int (Int32.ofNat (126 + 841 * t + 1 + 4 * n))))) := by
  obtain ⟨d, rfl⟩ : ∃ d, d2 = d + 1 := ⟨d2 - 1, by omega⟩
  rw [show eg_mL 189 = 2 from by decide +kernel]
  exact rp_lineAt rfl
theorem hf_wsd {K : et_K} {d k pc ck sk a n p : Nat} {x : Int32} {L : eg_Ls} {r : List Value} {G : eg_G} {Z : eg_O → Prop} (hc : hs_o k pc = some (.iastore, p)) (hH : et_H et_TT K G) (ha : K a = some 46) (hl : 11900 ≤ n) (hn : n < 12741) (h : ∀ G', et_H et_TT K G' → xf (fun b j => b = a ∧ j = n) G G' → et_pl (eg_at G' a) n = some (.int x) → et_go none d k p L r G' ck sk Z) : et_go none d k pc L (.int x :: .int (Int32.ofNat n) :: .ref a :: r) G ck sk Z := by
  obtain ⟨f, e, h1, hx⟩ := hi_arr hH ha et_t46 (by decide) (.inl rfl)
  have g := hi_at hH ha (by decide)
  have hle : ∀ s ∈ et_w46, s.2.1 < 126 := by decide +kernel
  refine hs_iast hc e g (by decide) (by omega) (h _ (hi_uarr hH ha (by decide) et_t46 (.inl rfl) (fun s hs' i i1 i2 i3 => ?_) (fun _ _ => (hx rfl (.inl rfl) _ _ e).lo (fun i i1 i2 => hs_un (by omega)))) ⟨Nat.le_refl _, fun b i hb hi => ?_⟩ ?_)
  · have := hle s hs'
    rw [hs_un (by omega)]
    exact h1 s hs' i i1 i2 i3
  · by_cases e3 : b = a
    · subst e3
      rw [et_at_us g.1, e]
      exact hf_plu (.inl rfl) (fun h => hi ⟨rfl, h⟩)
    · rw [et_at_u e3]
  · rw [et_at_us g.1, hf_pl (.inl rfl), if_pos (by omega), hs_us]
theorem wat_ts {b : Nat → Nat} {pl n p w : Nat} (ha : tal b n p) (hw : w < 33) (h : wat (tz_ts pl b n p) 0 = w) : skp b n p < n ∧ tz_ok pl w = true ∧ b (skp b n p) = tz_f w := by
  have hq : skp b n p < n := Decidable.by_contra (fun hq => by
    rw [tok_34 ha.1 hq] at h
    omega)
  rw [tok_w0 ha hq] at h
  have h2 := wd_is hw h
  exact ⟨hq, h2.1, is_first hw h2.2⟩
theorem fw_lt : ∀ {w : Nat}, sp_fw w = true → w < 33 ∧ 3 ≤ w := by
  intro w h
  unfold sp_fw at h
  simp only [Bool.or_eq_true, Bool.and_eq_true, Nat.ble_eq] at h
  omega
theorem tw_lt : ∀ {w : Nat}, sp_tw w = true → w < 33 := by
  intro w h
  unfold sp_tw at h
  simp only [Bool.or_eq_true, Nat.ble_eq, beq_iff_eq] at h
  omega
theorem fw_in : ∀ pl ∈ List.range 3, ∀ w ∈ List.range 33, sp_fw w = true → tz_ok pl w = true → fbw pl ≤ w ∧ w - fbw pl ≤ 4 := by decide +kernel
theorem tw_in : ∀ pl ∈ List.range 3, ∀ w ∈ List.range 33, sp_tw w = true → tz_ok pl w = true → tbw pl ≤ w ∧ w - tbw pl ≤ 2 ∧ (w - tbw pl = 2 ↔ w = 2) := by decide +kernel
theorem fw_l : ∀ w ∈ List.range 33, (sp_fw w = true ∨ sp_tw w = true) → tz_l (tz_f w) = true := by decide +kernel
section FUA
variable {K : et_K} {G G0 : eg_G} {b : Nat → Nat} {d2 d am aw tm n p pl hi q e j c k w : Nat}

theorem pa_pass (hH : et_H et_TT K G) (k_am : K am = some 13) (m4 : et_pl (eg_at G am) 4 = some (.ref tm)) (k_tm : K tm = some 34) (m7 : et_pl (eg_at G am) 7 = some (.int (Int32.ofNat n))) (hn : n ≤ 400) (ht : ∀ i, i < n → et_pl (eg_at G tm) i = some (.int (sx (b i)))) (hb : ∀ i, i < n → b i < 256) (m6 : et_pl (eg_at G am) 6 = some (.int (Int32.ofNat p))) (ha : tal b n p) (hpl : pl ≤ 2) (hj : j < 56) (hw : w < 33) (hok : tz_ok pl w = true) (hl : tz_l (tz_f w) = true) (hjt : tz_tx w = tz_by j) (hd : 6 ≤ d2) : et_go none d2 192 0 (eg_en (eg_mL 192) [.ref am, .ref (36 + j)]) [] G 0 0 (xw_Z (fun c j => (c = am ∧ j = 6) ∨ (c = am ∧ j = 8)) K G (fun G' v => (∃ p', wat (tz_ts pl b n p) 0 = w ∧ v = some (.int (Int32.ofNat 1)) ∧ et_pl (eg_at G' am) 6 = some (.int (Int32.ofNat p')) ∧ tal b n p' ∧ tz_ts pl b n p' = (tz_ts pl b n p).drop 1 ∧ (tz_ts pl b n p').length + 1 = (tz_ts pl b n p).length) ∨ (∃ p', ¬ wat (tz_ts pl b n p) 0 = w ∧ v = some (.int (Int32.ofNat 0)) ∧ et_pl (eg_at G' am) 6 = some (.int (Int32.ofNat p')) ∧ tal b n p' ∧ tz_ts pl b n p' = tz_ts pl b n p))) := by
  refine (fm_pass hH k_am m4 k_tm m7 hn ht hb m6 hj ha.1 hd).mono (fun u hu => hu.mono (fun _ _ h => h) (fun G' v hP => ?_))
  rw [← hjt] at hP
  rcases hP with ⟨-, ⟨h1, h2, h3⟩ | ⟨h1, h2, h3⟩⟩
  · have h4 := (tok_l hpl ha hw hok hl).mp h1
    exact .inl ⟨_, h4, h2, h3, tok_ly ha hw hl h4⟩
  · exact .inr ⟨_, fun h => h1 ((tok_l hpl ha hw hok hl).mpr h), h2, h3, tok_al ha⟩
theorem pa_sign (hH : et_H et_TT K G) (k_am : K am = some 13) (m4 : et_pl (eg_at G am) 4 = some (.ref tm)) (k_tm : K tm = some 34) (m7 : et_pl (eg_at G am) 7 = some (.int (Int32.ofNat n))) (hn : n ≤ 400) (ht : ∀ i, i < n → et_pl (eg_at G tm) i = some (.int (sx (b i)))) (hb : ∀ i, i < n → b i < 256) (m6 : et_pl (eg_at G am) 6 = some (.int (Int32.ofNat p))) (ha : tal b n p) (hpl : pl ≤ 2) (hw : w < 33) (hok : tz_ok pl w = true) (htx : tz_tx w = [c]) (hl : tz_l c = false) (hdg : tz_d c = false) (hc1 : 1 ≤ c) (hc2 : c < 128) (hd : 2 ≤ d2) : et_go none d2 196 0 (eg_en (eg_mL 196) [.ref am, .int (Int32.ofNat c)]) [] G 0 0 (xw_Z (fun c j => (c = am ∧ j = 6) ∨ (c = am ∧ j = 8)) K G (fun G' v => (∃ p', wat (tz_ts pl b n p) 0 = w ∧ v = some (.int (Int32.ofNat 1)) ∧ et_pl (eg_at G' am) 6 = some (.int (Int32.ofNat p')) ∧ tal b n p' ∧ tz_ts pl b n p' = (tz_ts pl b n p).drop 1 ∧ (tz_ts pl b n p').length + 1 = (tz_ts pl b n p).length) ∨ (∃ p', ¬ wat (tz_ts pl b n p) 0 = w ∧ v = some (.int (Int32.ofNat 0)) ∧ et_pl (eg_at G' am) 6 = some (.int (Int32.ofNat p')) ∧ tal b n p' ∧ tz_ts pl b n p' = tz_ts pl b n p))) := by
  refine (fm_sign hH k_am m4 k_tm m7 hn ht hb m6 ha.1 hc1 hc2 hd).mono (fun u hu => hu.mono (fun _ _ h => h) (fun G' v hP => ?_))
  rcases hP with ⟨-, ⟨h1, h2, h3⟩ | ⟨h1, h2, h3⟩⟩
  · have h4 := (tok_s hpl ha hw hok htx hl hdg).mp h1
    exact .inl ⟨_, h4, h2, h3, tok_sy ha hl hdg h1⟩
  · exact .inr ⟨_, fun h => h1 ((tok_s hpl ha hw hok htx hl hdg).mpr h), h2, h3, tok_al ha⟩
theorem pa_num (hH : et_H et_TT K G) (k_am : K am = some 13) (m4 : et_pl (eg_at G am) 4 = some (.ref tm)) (k_tm : K tm = some 34) (m7 : et_pl (eg_at G am) 7 = some (.int (Int32.ofNat n))) (hn : n ≤ 400) (ht : ∀ i, i < n → et_pl (eg_at G tm) i = some (.int (sx (b i)))) (hb : ∀ i, i < n → b i < 256) (m6 : et_pl (eg_at G am) 6 = some (.int (Int32.ofNat p))) (ha : tal b n p) (hhi : hi ≤ 9999) (hd : 2 ≤ d2) : et_go none d2 191 0 (eg_en (eg_mL 191) [.ref am, .int (Int32.ofNat hi)]) [] G 0 0 (xw_Z (fun c j => (c = am ∧ j = 6) ∨ (c = am ∧ j = 8)) K G (fun G' v => (∃ x p', tz_ts pl b n p = (33, some x) :: tz_ts pl b n p' ∧ x ≤ hi ∧ v = some (.int (Int32.ofNat x)) ∧ et_pl (eg_at G' am) 6 = some (.int (Int32.ofNat p')) ∧ tal b n p') ∨ ((∀ x r, tz_ts pl b n p = (33, some x) :: r → ¬ x ≤ hi) ∧ v = some (.int (-1))))) := by
  refine (fm_num hH k_am m4 k_tm m7 hn ht hb m6 ha.1 hhi hd).mono (fun u hu => hu.mono (fun _ _ h => h) (fun G' v hP => ?_))
  rcases hP with ⟨-, h6, ⟨x, h1, h2, h3, h4⟩ | ⟨h1, h2⟩⟩
  · have h5 := tok_dy (pl := pl) ha h1
    rw [h2] at h5
    exact .inl ⟨x, _, h5.2, h3, h4, h6, h5.1⟩
  · refine .inr ⟨fun x r hx => ?_, h2⟩
    have h3 := (tok_d (pl := pl) ha).mpr (by rw [hx]; rfl)
    have h5 := tok_dy (pl := pl) ha h3
    rw [hx] at h5
    have h6 := h5.2
    injection h6 with h6 _
    exact h1 h3 x (congrArg Prod.snd h6).symm
theorem pa_isW (hH : et_H et_TT K G) (k_am : K am = some 13) (m4 : et_pl (eg_at G am) 4 = some (.ref tm)) (k_tm : K tm = some 34) (m7 : et_pl (eg_at G am) 7 = some (.int (Int32.ofNat n))) (hn : n ≤ 400) (ht : ∀ i, i < n → et_pl (eg_at G tm) i = some (.int (sx (b i)))) (hb : ∀ i, i < n → b i < 256) (m6 : et_pl (eg_at G am) 6 = some (.int (Int32.ofNat (lst b n (skp b n p))))) (m8 : et_pl (eg_at G am) 8 = some (.int (Int32.ofNat (skp b n p)))) (ha : tal b n p) (hpl : pl ≤ 2) (hj : j < 56) (hw : w < 33) (hok : tz_ok pl w = true) (hl : tz_l (tz_f w) = true) (hjt : tz_tx w = tz_by j) (hd : 5 ≤ d2) : et_go none d2 190 0 (eg_en (eg_mL 190) [.ref am, .ref (36 + j)]) [] G 0 0 (xp_Z G (some (.int (Int32.ofNat (if wat (tz_ts pl b n p) 0 = w then 1 else 0))))) := by
  have h1 := skp_le (b := b) (n := n) (p := p) ha.1
  have h2 := lst_le (b := b) h1.2
  refine (fm_isW hH k_am m4 k_tm m7 hn ht hb m6 m8 hj h2.1 h2.2 hd).mono (fun u hu => ?_)
  rw [← hjt] at hu
  by_cases h : wat (tz_ts pl b n p) 0 = w
  · rw [if_pos h]
    rw [if_pos ((tok_l hpl ha hw hok hl).mpr h)] at hu
    exact hu
  · rw [if_neg h]
    rw [if_neg (fun h3 => h ((tok_l hpl ha hw hok hl).mp h3))] at hu
    exact hu
theorem fw_only0 : ∀ w ∈ List.range 33, sp_fw w = true → tz_ok 0 w = true → w = 3 ∨ w = 4 ∨ w = 5 ∨ w = 6 ∨ w = 7 := by decide +kernel
theorem pa_fact0 (hH : et_H et_TT K G) (k_am : K am = some 13) (m4 : et_pl (eg_at G am) 4 = some (.ref tm)) (k_tm : K tm = some 34) (m7 : et_pl (eg_at G am) 7 = some (.int (Int32.ofNat n))) (hn : n ≤ 400) (ht : ∀ i, i < n → et_pl (eg_at G tm) i = some (.int (sx (b i)))) (hb : ∀ i, i < n → b i < 256) (m6 : et_pl (eg_at G am) 6 = some (.int (Int32.ofNat (lst b n (skp b n p))))) (m8 : et_pl (eg_at G am) 8 = some (.int (Int32.ofNat (skp b n p)))) (m13 : et_pl (eg_at G am) 13 = some (.int (Int32.ofNat 0))) (ha : tal b n p) (hd : 6 ≤ d2) : et_go none d2 202 0 (eg_en (eg_mL 202) [.ref am]) [] G 0 0 (xp_Z G (some (.int (if sp_fw (wat (tz_ts 0 b n p) 0) = true then Int32.ofNat (wat (tz_ts 0 b n p) 0 - 3) else (-1))))) := by
  obtain ⟨d, rfl⟩ : ∃ d, d2 = d + 6 := ⟨d2 - 6, by omega⟩
  rw [show eg_mL 202 = 1 from by decide +kernel]
  show et_go none (d + 6) 202 0 [some (.ref am)] [] G 0 0 _
  refine hs_aload (i := 0) (p := 1) (by decide +kernel) rfl ?_
  refine hf_get (T := et_TT) (t := 13) (ci := 11) (f := 13) (p := 4) (by decide +kernel) rfl hH k_am m13 ?_
  refine hs_if0 (c := .ne) (t := 74) (f := 7) (by decide +kernel) (show ¬ (¬ Int32.ofNat 0 = 0) by decide) ?_
  refine hs_aload (i := 0) (p := 8) (by decide +kernel) rfl ?_
  refine hs_kld (v := .ref 46) (p := 10) (by decide +kernel) ?_
  refine ht_callv (T := et_TT) (t := 13) (mi := 190) (na := 1) (ci := 11) (lk := 1) (lm := 4) (L0 := eg_en (eg_mL 190) [.ref am, .ref 46]) (by decide +kernel) rfl hH k_am rfl rfl rfl rfl rfl (by rw [show eg_mL 190 = 4 from by decide +kernel]; first | done | rfl) ?_
  refine (pa_isW (pl := 0) (w := 3) (j := 10) hH k_am m4 k_tm m7 hn ht hb m6 m8 ha (by decide) (by decide) (by decide) (by decide +kernel) (by decide +kernel) (by decide +kernel) (by omega)).mono (fun u hu => xp_cb hu ?_)
  by_cases i3 : wat (tz_ts 0 b n p) 0 = 3
  · rw [if_pos i3]
    show et_go none _ 202 13 _ [.int (Int32.ofNat 1)] _ _ _ _
    refine hs_if0 (c := .eq) (t := 20) (f := 16) (by decide +kernel) (show ¬ (Int32.ofNat 1 = 0) by decide) ?_
    refine hs_k (x := Int32.ofNat 0) (p := 17) (by decide +kernel) ?_
    refine hs_goto (p := 73) (by decide +kernel) ?_
    refine hs_iret (by decide +kernel) ?_
    rw [i3, if_pos (by decide)]
    rfl
  · rw [if_neg i3]
    show et_go none _ 202 13 _ [.int (Int32.ofNat 0)] _ _ _ _
    refine hs_if1 (c := .eq) (t := 20) (f := 16) (by decide +kernel) (show Int32.ofNat 0 = 0 by decide) ?_
    refine hs_aload (i := 0) (p := 21) (by decide +kernel) rfl ?_
    refine hs_kld (v := .ref 47) (p := 23) (by decide +kernel) ?_
    refine ht_callv (T := et_TT) (t := 13) (mi := 190) (na := 1) (ci := 11) (lk := 1) (lm := 4) (L0 := eg_en (eg_mL 190) [.ref am, .ref 47]) (by decide +kernel) rfl hH k_am rfl rfl rfl rfl rfl (by rw [show eg_mL 190 = 4 from by decide +kernel]; first | done | rfl) ?_
    refine (pa_isW (pl := 0) (w := 4) (j := 11) hH k_am m4 k_tm m7 hn ht hb m6 m8 ha (by decide) (by decide) (by decide) (by decide +kernel) (by decide +kernel) (by decide +kernel) (by omega)).mono (fun u hu => xp_cb hu ?_)
    by_cases i4 : wat (tz_ts 0 b n p) 0 = 4
    · rw [if_pos i4]
      show et_go none _ 202 26 _ [.int (Int32.ofNat 1)] _ _ _ _
      refine hs_if0 (c := .eq) (t := 33) (f := 29) (by decide +kernel) (show ¬ (Int32.ofNat 1 = 0) by decide) ?_
      refine hs_k (x := Int32.ofNat 1) (p := 30) (by decide +kernel) ?_
      refine hs_goto (p := 73) (by decide +kernel) ?_
      refine hs_iret (by decide +kernel) ?_
      rw [i4, if_pos (by decide)]
      rfl
    · rw [if_neg i4]
      show et_go none _ 202 26 _ [.int (Int32.ofNat 0)] _ _ _ _
      refine hs_if1 (c := .eq) (t := 33) (f := 29) (by decide +kernel) (show Int32.ofNat 0 = 0 by decide) ?_
      refine hs_aload (i := 0) (p := 34) (by decide +kernel) rfl ?_
      refine hs_kld (v := .ref 48) (p := 36) (by decide +kernel) ?_
      refine ht_callv (T := et_TT) (t := 13) (mi := 190) (na := 1) (ci := 11) (lk := 1) (lm := 4) (L0 := eg_en (eg_mL 190) [.ref am, .ref 48]) (by decide +kernel) rfl hH k_am rfl rfl rfl rfl rfl (by rw [show eg_mL 190 = 4 from by decide +kernel]; first | done | rfl) ?_
      refine (pa_isW (pl := 0) (w := 5) (j := 12) hH k_am m4 k_tm m7 hn ht hb m6 m8 ha (by decide) (by decide) (by decide) (by decide +kernel) (by decide +kernel) (by decide +kernel) (by omega)).mono (fun u hu => xp_cb hu ?_)
      by_cases i5 : wat (tz_ts 0 b n p) 0 = 5
      · rw [if_pos i5]
        show et_go none _ 202 39 _ [.int (Int32.ofNat 1)] _ _ _ _
        refine hs_if0 (c := .eq) (t := 46) (f := 42) (by decide +kernel) (show ¬ (Int32.ofNat 1 = 0) by decide) ?_
        refine hs_k (x := Int32.ofNat 2) (p := 43) (by decide +kernel) ?_
        refine hs_goto (p := 73) (by decide +kernel) ?_
        refine hs_iret (by decide +kernel) ?_
        rw [i5, if_pos (by decide)]
        rfl
      · rw [if_neg i5]
        show et_go none _ 202 39 _ [.int (Int32.ofNat 0)] _ _ _ _
        refine hs_if1 (c := .eq) (t := 46) (f := 42) (by decide +kernel) (show Int32.ofNat 0 = 0 by decide) ?_
        refine hs_aload (i := 0) (p := 47) (by decide +kernel) rfl ?_
        refine hs_kld (v := .ref 49) (p := 49) (by decide +kernel) ?_
        refine ht_callv (T := et_TT) (t := 13) (mi := 190) (na := 1) (ci := 11) (lk := 1) (lm := 4) (L0 := eg_en (eg_mL 190) [.ref am, .ref 49]) (by decide +kernel) rfl hH k_am rfl rfl rfl rfl rfl (by rw [show eg_mL 190 = 4 from by decide +kernel]; first | done | rfl) ?_
        refine (pa_isW (pl := 0) (w := 6) (j := 13) hH k_am m4 k_tm m7 hn ht hb m6 m8 ha (by decide) (by decide) (by decide) (by decide +kernel) (by decide +kernel) (by decide +kernel) (by omega)).mono (fun u hu => xp_cb hu ?_)
        by_cases i6 : wat (tz_ts 0 b n p) 0 = 6
        · rw [if_pos i6]
          show et_go none _ 202 52 _ [.int (Int32.ofNat 1)] _ _ _ _
          refine hs_if0 (c := .eq) (t := 59) (f := 55) (by decide +kernel) (show ¬ (Int32.ofNat 1 = 0) by decide) ?_
          refine hs_k (x := Int32.ofNat 3) (p := 56) (by decide +kernel) ?_
          refine hs_goto (p := 73) (by decide +kernel) ?_
          refine hs_iret (by decide +kernel) ?_
          rw [i6, if_pos (by decide)]
          rfl
        · rw [if_neg i6]
          show et_go none _ 202 52 _ [.int (Int32.ofNat 0)] _ _ _ _
          refine hs_if1 (c := .eq) (t := 59) (f := 55) (by decide +kernel) (show Int32.ofNat 0 = 0 by decide) ?_
          refine hs_aload (i := 0) (p := 60) (by decide +kernel) rfl ?_
          refine hs_kld (v := .ref 50) (p := 62) (by decide +kernel) ?_
          refine ht_callv (T := et_TT) (t := 13) (mi := 190) (na := 1) (ci := 11) (lk := 1) (lm := 4) (L0 := eg_en (eg_mL 190) [.ref am, .ref 50]) (by decide +kernel) rfl hH k_am rfl rfl rfl rfl rfl (by rw [show eg_mL 190 = 4 from by decide +kernel]; first | done | rfl) ?_
          refine (pa_isW (pl := 0) (w := 7) (j := 14) hH k_am m4 k_tm m7 hn ht hb m6 m8 ha (by decide) (by decide) (by decide) (by decide +kernel) (by decide +kernel) (by decide +kernel) (by omega)).mono (fun u hu => xp_cb hu ?_)
          by_cases i7 : wat (tz_ts 0 b n p) 0 = 7
          · rw [if_pos i7]
            show et_go none _ 202 65 _ [.int (Int32.ofNat 1)] _ _ _ _
            refine hs_if0 (c := .eq) (t := 72) (f := 68) (by decide +kernel) (show ¬ (Int32.ofNat 1 = 0) by decide) ?_
            refine hs_k (x := Int32.ofNat 4) (p := 69) (by decide +kernel) ?_
            refine hs_goto (p := 73) (by decide +kernel) ?_
            refine hs_iret (by decide +kernel) ?_
            rw [i7, if_pos (by decide)]
            rfl
          · rw [if_neg i7]
            show et_go none _ 202 65 _ [.int (Int32.ofNat 0)] _ _ _ _
            refine hs_if1 (c := .eq) (t := 72) (f := 68) (by decide +kernel) (show Int32.ofNat 0 = 0 by decide) ?_
            refine hs_k (x := (-1)) (p := 73) (by decide +kernel) ?_
            refine hs_iret (by decide +kernel) ?_
            have hno : ¬ sp_fw (wat (tz_ts 0 b n p) 0) = true := fun h => by
              have h1 := wat_ts ha (fw_lt h |>.1) rfl
              have h2 := fw_only0 _ (List.mem_range.mpr (fw_lt h |>.1)) h h1.2.1
              omega
            rw [if_neg hno]
            rfl
theorem fw_only1 : ∀ w ∈ List.range 33, sp_fw w = true → tz_ok 1 w = true → w = 10 ∨ w = 11 ∨ w = 12 ∨ w = 13 := by decide +kernel
theorem pa_fact1 (hH : et_H et_TT K G) (k_am : K am = some 13) (m4 : et_pl (eg_at G am) 4 = some (.ref tm)) (k_tm : K tm = some 34) (m7 : et_pl (eg_at G am) 7 = some (.int (Int32.ofNat n))) (hn : n ≤ 400) (ht : ∀ i, i < n → et_pl (eg_at G tm) i = some (.int (sx (b i)))) (hb : ∀ i, i < n → b i < 256) (m6 : et_pl (eg_at G am) 6 = some (.int (Int32.ofNat (lst b n (skp b n p))))) (m8 : et_pl (eg_at G am) 8 = some (.int (Int32.ofNat (skp b n p)))) (m13 : et_pl (eg_at G am) 13 = some (.int (Int32.ofNat 1))) (ha : tal b n p) (hd : 6 ≤ d2) : et_go none d2 202 0 (eg_en (eg_mL 202) [.ref am]) [] G 0 0 (xp_Z G (some (.int (if sp_fw (wat (tz_ts 1 b n p) 0) = true then Int32.ofNat (wat (tz_ts 1 b n p) 0 - 10) else (-1))))) := by
  obtain ⟨d, rfl⟩ : ∃ d, d2 = d + 6 := ⟨d2 - 6, by omega⟩
  rw [show eg_mL 202 = 1 from by decide +kernel]
  show et_go none (d + 6) 202 0 [some (.ref am)] [] G 0 0 _
  refine hs_aload (i := 0) (p := 1) (by decide +kernel) rfl ?_
  refine hf_get (T := et_TT) (t := 13) (ci := 11) (f := 13) (p := 4) (by decide +kernel) rfl hH k_am m13 ?_
  refine hs_if1 (c := .ne) (t := 74) (f := 7) (by decide +kernel) (show ¬ Int32.ofNat 1 = 0 by decide) ?_
  refine hs_aload (i := 0) (p := 75) (by decide +kernel) rfl ?_
  refine hf_get (T := et_TT) (t := 13) (ci := 11) (f := 13) (p := 78) (by decide +kernel) rfl hH k_am m13 ?_
  refine hs_k (x := Int32.ofNat 1) (p := 79) (by decide +kernel) ?_
  refine hs_br2n (c := .ne) (t := 136) (f := 82) (by decide +kernel) (by omega) (by omega) (fun h => absurd h (show ¬ (¬ 1 = 1) by decide)) (fun _ => ?_)
  refine hs_aload (i := 0) (p := 83) (by decide +kernel) rfl ?_
  refine hs_kld (v := .ref 51) (p := 85) (by decide +kernel) ?_
  refine ht_callv (T := et_TT) (t := 13) (mi := 190) (na := 1) (ci := 11) (lk := 1) (lm := 4) (L0 := eg_en (eg_mL 190) [.ref am, .ref 51]) (by decide +kernel) rfl hH k_am rfl rfl rfl rfl rfl (by rw [show eg_mL 190 = 4 from by decide +kernel]; first | done | rfl) ?_
  refine (pa_isW (pl := 1) (w := 10) (j := 15) hH k_am m4 k_tm m7 hn ht hb m6 m8 ha (by decide) (by decide) (by decide) (by decide +kernel) (by decide +kernel) (by decide +kernel) (by omega)).mono (fun u hu => xp_cb hu ?_)
  by_cases i10 : wat (tz_ts 1 b n p) 0 = 10
  · rw [if_pos i10]
    show et_go none _ 202 88 _ [.int (Int32.ofNat 1)] _ _ _ _
    refine hs_if0 (c := .eq) (t := 95) (f := 91) (by decide +kernel) (show ¬ (Int32.ofNat 1 = 0) by decide) ?_
    refine hs_k (x := Int32.ofNat 0) (p := 92) (by decide +kernel) ?_
    refine hs_goto (p := 135) (by decide +kernel) ?_
    refine hs_iret (by decide +kernel) ?_
    rw [i10, if_pos (by decide)]
    rfl
  · rw [if_neg i10]
    show et_go none _ 202 88 _ [.int (Int32.ofNat 0)] _ _ _ _
    refine hs_if1 (c := .eq) (t := 95) (f := 91) (by decide +kernel) (show Int32.ofNat 0 = 0 by decide) ?_
    refine hs_aload (i := 0) (p := 96) (by decide +kernel) rfl ?_
    refine hs_kld (v := .ref 52) (p := 98) (by decide +kernel) ?_
    refine ht_callv (T := et_TT) (t := 13) (mi := 190) (na := 1) (ci := 11) (lk := 1) (lm := 4) (L0 := eg_en (eg_mL 190) [.ref am, .ref 52]) (by decide +kernel) rfl hH k_am rfl rfl rfl rfl rfl (by rw [show eg_mL 190 = 4 from by decide +kernel]; first | done | rfl) ?_
    refine (pa_isW (pl := 1) (w := 11) (j := 16) hH k_am m4 k_tm m7 hn ht hb m6 m8 ha (by decide) (by decide) (by decide) (by decide +kernel) (by decide +kernel) (by decide +kernel) (by omega)).mono (fun u hu => xp_cb hu ?_)
    by_cases i11 : wat (tz_ts 1 b n p) 0 = 11
    · rw [if_pos i11]
      show et_go none _ 202 101 _ [.int (Int32.ofNat 1)] _ _ _ _
      refine hs_if0 (c := .eq) (t := 108) (f := 104) (by decide +kernel) (show ¬ (Int32.ofNat 1 = 0) by decide) ?_
      refine hs_k (x := Int32.ofNat 1) (p := 105) (by decide +kernel) ?_
      refine hs_goto (p := 135) (by decide +kernel) ?_
      refine hs_iret (by decide +kernel) ?_
      rw [i11, if_pos (by decide)]
      rfl
    · rw [if_neg i11]
      show et_go none _ 202 101 _ [.int (Int32.ofNat 0)] _ _ _ _
      refine hs_if1 (c := .eq) (t := 108) (f := 104) (by decide +kernel) (show Int32.ofNat 0 = 0 by decide) ?_
      refine hs_aload (i := 0) (p := 109) (by decide +kernel) rfl ?_
      refine hs_kld (v := .ref 53) (p := 111) (by decide +kernel) ?_
      refine ht_callv (T := et_TT) (t := 13) (mi := 190) (na := 1) (ci := 11) (lk := 1) (lm := 4) (L0 := eg_en (eg_mL 190) [.ref am, .ref 53]) (by decide +kernel) rfl hH k_am rfl rfl rfl rfl rfl (by rw [show eg_mL 190 = 4 from by decide +kernel]; first | done | rfl) ?_
      refine (pa_isW (pl := 1) (w := 12) (j := 17) hH k_am m4 k_tm m7 hn ht hb m6 m8 ha (by decide) (by decide) (by decide) (by decide +kernel) (by decide +kernel) (by decide +kernel) (by omega)).mono (fun u hu => xp_cb hu ?_)
      by_cases i12 : wat (tz_ts 1 b n p) 0 = 12
      · rw [if_pos i12]
        show et_go none _ 202 114 _ [.int (Int32.ofNat 1)] _ _ _ _
        refine hs_if0 (c := .eq) (t := 121) (f := 117) (by decide +kernel) (show ¬ (Int32.ofNat 1 = 0) by decide) ?_
        refine hs_k (x := Int32.ofNat 2) (p := 118) (by decide +kernel) ?_
        refine hs_goto (p := 135) (by decide +kernel) ?_
        refine hs_iret (by decide +kernel) ?_
        rw [i12, if_pos (by decide)]
        rfl
      · rw [if_neg i12]
        show et_go none _ 202 114 _ [.int (Int32.ofNat 0)] _ _ _ _
        refine hs_if1 (c := .eq) (t := 121) (f := 117) (by decide +kernel) (show Int32.ofNat 0 = 0 by decide) ?_
        refine hs_aload (i := 0) (p := 122) (by decide +kernel) rfl ?_
        refine hs_kld (v := .ref 54) (p := 124) (by decide +kernel) ?_
        refine ht_callv (T := et_TT) (t := 13) (mi := 190) (na := 1) (ci := 11) (lk := 1) (lm := 4) (L0 := eg_en (eg_mL 190) [.ref am, .ref 54]) (by decide +kernel) rfl hH k_am rfl rfl rfl rfl rfl (by rw [show eg_mL 190 = 4 from by decide +kernel]; first | done | rfl) ?_
        refine (pa_isW (pl := 1) (w := 13) (j := 18) hH k_am m4 k_tm m7 hn ht hb m6 m8 ha (by decide) (by decide) (by decide) (by decide +kernel) (by decide +kernel) (by decide +kernel) (by omega)).mono (fun u hu => xp_cb hu ?_)
        by_cases i13 : wat (tz_ts 1 b n p) 0 = 13
        · rw [if_pos i13]
          show et_go none _ 202 127 _ [.int (Int32.ofNat 1)] _ _ _ _
          refine hs_if0 (c := .eq) (t := 134) (f := 130) (by decide +kernel) (show ¬ (Int32.ofNat 1 = 0) by decide) ?_
          refine hs_k (x := Int32.ofNat 3) (p := 131) (by decide +kernel) ?_
          refine hs_goto (p := 135) (by decide +kernel) ?_
          refine hs_iret (by decide +kernel) ?_
          rw [i13, if_pos (by decide)]
          rfl
        · rw [if_neg i13]
          show et_go none _ 202 127 _ [.int (Int32.ofNat 0)] _ _ _ _
          refine hs_if1 (c := .eq) (t := 134) (f := 130) (by decide +kernel) (show Int32.ofNat 0 = 0 by decide) ?_
          refine hs_k (x := (-1)) (p := 135) (by decide +kernel) ?_
          refine hs_iret (by decide +kernel) ?_
          have hno : ¬ sp_fw (wat (tz_ts 1 b n p) 0) = true := fun h => by
            have h1 := wat_ts ha (fw_lt h |>.1) rfl
            have h2 := fw_only1 _ (List.mem_range.mpr (fw_lt h |>.1)) h h1.2.1
            omega
          rw [if_neg hno]
          rfl
theorem fw_only2 : ∀ w ∈ List.range 33, sp_fw w = true → tz_ok 2 w = true → w = 15 ∨ w = 16 ∨ w = 17 ∨ w = 18 ∨ w = 19 := by decide +kernel
theorem pa_fact2 (hH : et_H et_TT K G) (k_am : K am = some 13) (m4 : et_pl (eg_at G am) 4 = some (.ref tm)) (k_tm : K tm = some 34) (m7 : et_pl (eg_at G am) 7 = some (.int (Int32.ofNat n))) (hn : n ≤ 400) (ht : ∀ i, i < n → et_pl (eg_at G tm) i = some (.int (sx (b i)))) (hb : ∀ i, i < n → b i < 256) (m6 : et_pl (eg_at G am) 6 = some (.int (Int32.ofNat (lst b n (skp b n p))))) (m8 : et_pl (eg_at G am) 8 = some (.int (Int32.ofNat (skp b n p)))) (m13 : et_pl (eg_at G am) 13 = some (.int (Int32.ofNat 2))) (ha : tal b n p) (hd : 6 ≤ d2) : et_go none d2 202 0 (eg_en (eg_mL 202) [.ref am]) [] G 0 0 (xp_Z G (some (.int (if sp_fw (wat (tz_ts 2 b n p) 0) = true then Int32.ofNat (wat (tz_ts 2 b n p) 0 - 15) else (-1))))) := by
  obtain ⟨d, rfl⟩ : ∃ d, d2 = d + 6 := ⟨d2 - 6, by omega⟩
  rw [show eg_mL 202 = 1 from by decide +kernel]
  show et_go none (d + 6) 202 0 [some (.ref am)] [] G 0 0 _
  refine hs_aload (i := 0) (p := 1) (by decide +kernel) rfl ?_
  refine hf_get (T := et_TT) (t := 13) (ci := 11) (f := 13) (p := 4) (by decide +kernel) rfl hH k_am m13 ?_
  refine hs_if1 (c := .ne) (t := 74) (f := 7) (by decide +kernel) (show ¬ Int32.ofNat 2 = 0 by decide) ?_
  refine hs_aload (i := 0) (p := 75) (by decide +kernel) rfl ?_
  refine hf_get (T := et_TT) (t := 13) (ci := 11) (f := 13) (p := 78) (by decide +kernel) rfl hH k_am m13 ?_
  refine hs_k (x := Int32.ofNat 1) (p := 79) (by decide +kernel) ?_
  refine hs_br2n (c := .ne) (t := 136) (f := 82) (by decide +kernel) (by omega) (by omega) (fun _ => ?_) (fun h => absurd (show ¬ 2 = 1 by decide) h)
  refine hs_aload (i := 0) (p := 137) (by decide +kernel) rfl ?_
  refine hs_kld (v := .ref 48) (p := 139) (by decide +kernel) ?_
  refine ht_callv (T := et_TT) (t := 13) (mi := 190) (na := 1) (ci := 11) (lk := 1) (lm := 4) (L0 := eg_en (eg_mL 190) [.ref am, .ref 48]) (by decide +kernel) rfl hH k_am rfl rfl rfl rfl rfl (by rw [show eg_mL 190 = 4 from by decide +kernel]; first | done | rfl) ?_
  refine (pa_isW (pl := 2) (w := 15) (j := 12) hH k_am m4 k_tm m7 hn ht hb m6 m8 ha (by decide) (by decide) (by decide) (by decide +kernel) (by decide +kernel) (by decide +kernel) (by omega)).mono (fun u hu => xp_cb hu ?_)
  by_cases i15 : wat (tz_ts 2 b n p) 0 = 15
  · rw [if_pos i15]
    show et_go none _ 202 142 _ [.int (Int32.ofNat 1)] _ _ _ _
    refine hs_if0 (c := .eq) (t := 149) (f := 145) (by decide +kernel) (show ¬ (Int32.ofNat 1 = 0) by decide) ?_
    refine hs_k (x := Int32.ofNat 0) (p := 146) (by decide +kernel) ?_
    refine hs_goto (p := 202) (by decide +kernel) ?_
    refine hs_iret (by decide +kernel) ?_
    rw [i15, if_pos (by decide)]
    rfl
  · rw [if_neg i15]
    show et_go none _ 202 142 _ [.int (Int32.ofNat 0)] _ _ _ _
    refine hs_if1 (c := .eq) (t := 149) (f := 145) (by decide +kernel) (show Int32.ofNat 0 = 0 by decide) ?_
    refine hs_aload (i := 0) (p := 150) (by decide +kernel) rfl ?_
    refine hs_kld (v := .ref 55) (p := 152) (by decide +kernel) ?_
    refine ht_callv (T := et_TT) (t := 13) (mi := 190) (na := 1) (ci := 11) (lk := 1) (lm := 4) (L0 := eg_en (eg_mL 190) [.ref am, .ref 55]) (by decide +kernel) rfl hH k_am rfl rfl rfl rfl rfl (by rw [show eg_mL 190 = 4 from by decide +kernel]; first | done | rfl) ?_
    refine (pa_isW (pl := 2) (w := 16) (j := 19) hH k_am m4 k_tm m7 hn ht hb m6 m8 ha (by decide) (by decide) (by decide) (by decide +kernel) (by decide +kernel) (by decide +kernel) (by omega)).mono (fun u hu => xp_cb hu ?_)
    by_cases i16 : wat (tz_ts 2 b n p) 0 = 16
    · rw [if_pos i16]
      show et_go none _ 202 155 _ [.int (Int32.ofNat 1)] _ _ _ _
      refine hs_if0 (c := .eq) (t := 162) (f := 158) (by decide +kernel) (show ¬ (Int32.ofNat 1 = 0) by decide) ?_
      refine hs_k (x := Int32.ofNat 1) (p := 159) (by decide +kernel) ?_
      refine hs_goto (p := 202) (by decide +kernel) ?_
      refine hs_iret (by decide +kernel) ?_
      rw [i16, if_pos (by decide)]
      rfl
    · rw [if_neg i16]
      show et_go none _ 202 155 _ [.int (Int32.ofNat 0)] _ _ _ _
      refine hs_if1 (c := .eq) (t := 162) (f := 158) (by decide +kernel) (show Int32.ofNat 0 = 0 by decide) ?_
      refine hs_aload (i := 0) (p := 163) (by decide +kernel) rfl ?_
      refine hs_kld (v := .ref 56) (p := 165) (by decide +kernel) ?_
      refine ht_callv (T := et_TT) (t := 13) (mi := 190) (na := 1) (ci := 11) (lk := 1) (lm := 4) (L0 := eg_en (eg_mL 190) [.ref am, .ref 56]) (by decide +kernel) rfl hH k_am rfl rfl rfl rfl rfl (by rw [show eg_mL 190 = 4 from by decide +kernel]; first | done | rfl) ?_
      refine (pa_isW (pl := 2) (w := 17) (j := 20) hH k_am m4 k_tm m7 hn ht hb m6 m8 ha (by decide) (by decide) (by decide) (by decide +kernel) (by decide +kernel) (by decide +kernel) (by omega)).mono (fun u hu => xp_cb hu ?_)
      by_cases i17 : wat (tz_ts 2 b n p) 0 = 17
      · rw [if_pos i17]
        show et_go none _ 202 168 _ [.int (Int32.ofNat 1)] _ _ _ _
        refine hs_if0 (c := .eq) (t := 175) (f := 171) (by decide +kernel) (show ¬ (Int32.ofNat 1 = 0) by decide) ?_
        refine hs_k (x := Int32.ofNat 2) (p := 172) (by decide +kernel) ?_
        refine hs_goto (p := 202) (by decide +kernel) ?_
        refine hs_iret (by decide +kernel) ?_
        rw [i17, if_pos (by decide)]
        rfl
      · rw [if_neg i17]
        show et_go none _ 202 168 _ [.int (Int32.ofNat 0)] _ _ _ _
        refine hs_if1 (c := .eq) (t := 175) (f := 171) (by decide +kernel) (show Int32.ofNat 0 = 0 by decide) ?_
        refine hs_aload (i := 0) (p := 176) (by decide +kernel) rfl ?_
        refine hs_kld (v := .ref 54) (p := 178) (by decide +kernel) ?_
        refine ht_callv (T := et_TT) (t := 13) (mi := 190) (na := 1) (ci := 11) (lk := 1) (lm := 4) (L0 := eg_en (eg_mL 190) [.ref am, .ref 54]) (by decide +kernel) rfl hH k_am rfl rfl rfl rfl rfl (by rw [show eg_mL 190 = 4 from by decide +kernel]; first | done | rfl) ?_
        refine (pa_isW (pl := 2) (w := 18) (j := 18) hH k_am m4 k_tm m7 hn ht hb m6 m8 ha (by decide) (by decide) (by decide) (by decide +kernel) (by decide +kernel) (by decide +kernel) (by omega)).mono (fun u hu => xp_cb hu ?_)
        by_cases i18 : wat (tz_ts 2 b n p) 0 = 18
        · rw [if_pos i18]
          show et_go none _ 202 181 _ [.int (Int32.ofNat 1)] _ _ _ _
          refine hs_if0 (c := .eq) (t := 188) (f := 184) (by decide +kernel) (show ¬ (Int32.ofNat 1 = 0) by decide) ?_
          refine hs_k (x := Int32.ofNat 3) (p := 185) (by decide +kernel) ?_
          refine hs_goto (p := 202) (by decide +kernel) ?_
          refine hs_iret (by decide +kernel) ?_
          rw [i18, if_pos (by decide)]
          rfl
        · rw [if_neg i18]
          show et_go none _ 202 181 _ [.int (Int32.ofNat 0)] _ _ _ _
          refine hs_if1 (c := .eq) (t := 188) (f := 184) (by decide +kernel) (show Int32.ofNat 0 = 0 by decide) ?_
          refine hs_aload (i := 0) (p := 189) (by decide +kernel) rfl ?_
          refine hs_kld (v := .ref 57) (p := 191) (by decide +kernel) ?_
          refine ht_callv (T := et_TT) (t := 13) (mi := 190) (na := 1) (ci := 11) (lk := 1) (lm := 4) (L0 := eg_en (eg_mL 190) [.ref am, .ref 57]) (by decide +kernel) rfl hH k_am rfl rfl rfl rfl rfl (by rw [show eg_mL 190 = 4 from by decide +kernel]; first | done | rfl) ?_
          refine (pa_isW (pl := 2) (w := 19) (j := 21) hH k_am m4 k_tm m7 hn ht hb m6 m8 ha (by decide) (by decide) (by decide) (by decide +kernel) (by decide +kernel) (by decide +kernel) (by omega)).mono (fun u hu => xp_cb hu ?_)
          by_cases i19 : wat (tz_ts 2 b n p) 0 = 19
          · rw [if_pos i19]
            show et_go none _ 202 194 _ [.int (Int32.ofNat 1)] _ _ _ _
            refine hs_if0 (c := .eq) (t := 201) (f := 197) (by decide +kernel) (show ¬ (Int32.ofNat 1 = 0) by decide) ?_
            refine hs_k (x := Int32.ofNat 4) (p := 198) (by decide +kernel) ?_
            refine hs_goto (p := 202) (by decide +kernel) ?_
            refine hs_iret (by decide +kernel) ?_
            rw [i19, if_pos (by decide)]
            rfl
          · rw [if_neg i19]
            show et_go none _ 202 194 _ [.int (Int32.ofNat 0)] _ _ _ _
            refine hs_if1 (c := .eq) (t := 201) (f := 197) (by decide +kernel) (show Int32.ofNat 0 = 0 by decide) ?_
            refine hs_k (x := (-1)) (p := 202) (by decide +kernel) ?_
            refine hs_iret (by decide +kernel) ?_
            have hno : ¬ sp_fw (wat (tz_ts 2 b n p) 0) = true := fun h => by
              have h1 := wat_ts ha (fw_lt h |>.1) rfl
              have h2 := fw_only2 _ (List.mem_range.mpr (fw_lt h |>.1)) h h1.2.1
              omega
            rw [if_neg hno]
            rfl
theorem pa_fact (hH : et_H et_TT K G) (k_am : K am = some 13) (m4 : et_pl (eg_at G am) 4 = some (.ref tm)) (k_tm : K tm = some 34) (m7 : et_pl (eg_at G am) 7 = some (.int (Int32.ofNat n))) (hn : n ≤ 400) (ht : ∀ i, i < n → et_pl (eg_at G tm) i = some (.int (sx (b i)))) (hb : ∀ i, i < n → b i < 256) (m6 : et_pl (eg_at G am) 6 = some (.int (Int32.ofNat (lst b n (skp b n p))))) (m8 : et_pl (eg_at G am) 8 = some (.int (Int32.ofNat (skp b n p)))) (m13 : et_pl (eg_at G am) 13 = some (.int (Int32.ofNat pl))) (ha : tal b n p) (hpl : pl ≤ 2) (hd : 6 ≤ d2) : et_go none d2 202 0 (eg_en (eg_mL 202) [.ref am]) [] G 0 0 (xp_Z G (some (.int (if sp_fw (wat (tz_ts pl b n p) 0) = true then Int32.ofNat (wat (tz_ts pl b n p) 0 - fbw pl) else (-1))))) := by
  rcases (by omega : pl = 0 ∨ pl = 1 ∨ pl = 2) with rfl | rfl | rfl
  · exact pa_fact0 hH k_am m4 k_tm m7 hn ht hb m6 m8 m13 ha hd
  · exact pa_fact1 hH k_am m4 k_tm m7 hn ht hb m6 m8 m13 ha hd
  · exact pa_fact2 hH k_am m4 k_tm m7 hn ht hb m6 m8 m13 ha hd
theorem tw_only0 : ∀ w ∈ List.range 33, sp_tw w = true → tz_ok 0 w = true → w = 0 ∨ w = 1 ∨ w = 2 := by decide +kernel
theorem pa_tag0 (hH : et_H et_TT K G) (k_am : K am = some 13) (m4 : et_pl (eg_at G am) 4 = some (.ref tm)) (k_tm : K tm = some 34) (m7 : et_pl (eg_at G am) 7 = some (.int (Int32.ofNat n))) (hn : n ≤ 400) (ht : ∀ i, i < n → et_pl (eg_at G tm) i = some (.int (sx (b i)))) (hb : ∀ i, i < n → b i < 256) (m6 : et_pl (eg_at G am) 6 = some (.int (Int32.ofNat (lst b n (skp b n p))))) (m8 : et_pl (eg_at G am) 8 = some (.int (Int32.ofNat (skp b n p)))) (m13 : et_pl (eg_at G am) 13 = some (.int (Int32.ofNat 0))) (ha : tal b n p) (hd : 6 ≤ d2) : et_go none d2 198 0 (eg_en (eg_mL 198) [.ref am]) [] G 0 0 (xp_Z G (some (.int (if sp_tw (wat (tz_ts 0 b n p) 0) = true then Int32.ofNat (wat (tz_ts 0 b n p) 0 - 0) else (-1))))) := by
  obtain ⟨d, rfl⟩ : ∃ d, d2 = d + 6 := ⟨d2 - 6, by omega⟩
  rw [show eg_mL 198 = 1 from by decide +kernel]
  show et_go none (d + 6) 198 0 [some (.ref am)] [] G 0 0 _
  refine hs_aload (i := 0) (p := 1) (by decide +kernel) rfl ?_
  refine hf_get (T := et_TT) (t := 13) (ci := 11) (f := 13) (p := 4) (by decide +kernel) rfl hH k_am m13 ?_
  refine hs_if0 (c := .ne) (t := 48) (f := 7) (by decide +kernel) (show ¬ (¬ Int32.ofNat 0 = 0) by decide) ?_
  refine hs_aload (i := 0) (p := 8) (by decide +kernel) rfl ?_
  refine hs_kld (v := .ref 40) (p := 10) (by decide +kernel) ?_
  refine ht_callv (T := et_TT) (t := 13) (mi := 190) (na := 1) (ci := 11) (lk := 1) (lm := 4) (L0 := eg_en (eg_mL 190) [.ref am, .ref 40]) (by decide +kernel) rfl hH k_am rfl rfl rfl rfl rfl (by rw [show eg_mL 190 = 4 from by decide +kernel]; first | done | rfl) ?_
  refine (pa_isW (pl := 0) (w := 0) (j := 4) hH k_am m4 k_tm m7 hn ht hb m6 m8 ha (by decide) (by decide) (by decide) (by decide +kernel) (by decide +kernel) (by decide +kernel) (by omega)).mono (fun u hu => xp_cb hu ?_)
  by_cases i0 : wat (tz_ts 0 b n p) 0 = 0
  · rw [if_pos i0]
    show et_go none _ 198 13 _ [.int (Int32.ofNat 1)] _ _ _ _
    refine hs_if0 (c := .eq) (t := 20) (f := 16) (by decide +kernel) (show ¬ (Int32.ofNat 1 = 0) by decide) ?_
    refine hs_k (x := Int32.ofNat 0) (p := 17) (by decide +kernel) ?_
    refine hs_goto (p := 47) (by decide +kernel) ?_
    refine hs_iret (by decide +kernel) ?_
    rw [i0, if_pos (by decide)]
    rfl
  · rw [if_neg i0]
    show et_go none _ 198 13 _ [.int (Int32.ofNat 0)] _ _ _ _
    refine hs_if1 (c := .eq) (t := 20) (f := 16) (by decide +kernel) (show Int32.ofNat 0 = 0 by decide) ?_
    refine hs_aload (i := 0) (p := 21) (by decide +kernel) rfl ?_
    refine hs_kld (v := .ref 41) (p := 23) (by decide +kernel) ?_
    refine ht_callv (T := et_TT) (t := 13) (mi := 190) (na := 1) (ci := 11) (lk := 1) (lm := 4) (L0 := eg_en (eg_mL 190) [.ref am, .ref 41]) (by decide +kernel) rfl hH k_am rfl rfl rfl rfl rfl (by rw [show eg_mL 190 = 4 from by decide +kernel]; first | done | rfl) ?_
    refine (pa_isW (pl := 0) (w := 1) (j := 5) hH k_am m4 k_tm m7 hn ht hb m6 m8 ha (by decide) (by decide) (by decide) (by decide +kernel) (by decide +kernel) (by decide +kernel) (by omega)).mono (fun u hu => xp_cb hu ?_)
    by_cases i1 : wat (tz_ts 0 b n p) 0 = 1
    · rw [if_pos i1]
      show et_go none _ 198 26 _ [.int (Int32.ofNat 1)] _ _ _ _
      refine hs_if0 (c := .eq) (t := 33) (f := 29) (by decide +kernel) (show ¬ (Int32.ofNat 1 = 0) by decide) ?_
      refine hs_k (x := Int32.ofNat 1) (p := 30) (by decide +kernel) ?_
      refine hs_goto (p := 47) (by decide +kernel) ?_
      refine hs_iret (by decide +kernel) ?_
      rw [i1, if_pos (by decide)]
      rfl
    · rw [if_neg i1]
      show et_go none _ 198 26 _ [.int (Int32.ofNat 0)] _ _ _ _
      refine hs_if1 (c := .eq) (t := 33) (f := 29) (by decide +kernel) (show Int32.ofNat 0 = 0 by decide) ?_
      refine hs_aload (i := 0) (p := 34) (by decide +kernel) rfl ?_
      refine hs_kld (v := .ref 42) (p := 36) (by decide +kernel) ?_
      refine ht_callv (T := et_TT) (t := 13) (mi := 190) (na := 1) (ci := 11) (lk := 1) (lm := 4) (L0 := eg_en (eg_mL 190) [.ref am, .ref 42]) (by decide +kernel) rfl hH k_am rfl rfl rfl rfl rfl (by rw [show eg_mL 190 = 4 from by decide +kernel]; first | done | rfl) ?_
      refine (pa_isW (pl := 0) (w := 2) (j := 6) hH k_am m4 k_tm m7 hn ht hb m6 m8 ha (by decide) (by decide) (by decide) (by decide +kernel) (by decide +kernel) (by decide +kernel) (by omega)).mono (fun u hu => xp_cb hu ?_)
      by_cases i2 : wat (tz_ts 0 b n p) 0 = 2
      · rw [if_pos i2]
        show et_go none _ 198 39 _ [.int (Int32.ofNat 1)] _ _ _ _
        refine hs_if0 (c := .eq) (t := 46) (f := 42) (by decide +kernel) (show ¬ (Int32.ofNat 1 = 0) by decide) ?_
        refine hs_k (x := Int32.ofNat 2) (p := 43) (by decide +kernel) ?_
        refine hs_goto (p := 47) (by decide +kernel) ?_
        refine hs_iret (by decide +kernel) ?_
        rw [i2, if_pos (by decide)]
        rfl
      · rw [if_neg i2]
        show et_go none _ 198 39 _ [.int (Int32.ofNat 0)] _ _ _ _
        refine hs_if1 (c := .eq) (t := 46) (f := 42) (by decide +kernel) (show Int32.ofNat 0 = 0 by decide) ?_
        refine hs_k (x := (-1)) (p := 47) (by decide +kernel) ?_
        refine hs_iret (by decide +kernel) ?_
        have hno : ¬ sp_tw (wat (tz_ts 0 b n p) 0) = true := fun h => by
          have h1 := wat_ts ha (tw_lt h) rfl
          have h2 := tw_only0 _ (List.mem_range.mpr (tw_lt h)) h h1.2.1
          omega
        rw [if_neg hno]
        rfl
theorem tw_only1 : ∀ w ∈ List.range 33, sp_tw w = true → tz_ok 1 w = true → w = 8 ∨ w = 9 := by decide +kernel
theorem pa_tag1 (hH : et_H et_TT K G) (k_am : K am = some 13) (m4 : et_pl (eg_at G am) 4 = some (.ref tm)) (k_tm : K tm = some 34) (m7 : et_pl (eg_at G am) 7 = some (.int (Int32.ofNat n))) (hn : n ≤ 400) (ht : ∀ i, i < n → et_pl (eg_at G tm) i = some (.int (sx (b i)))) (hb : ∀ i, i < n → b i < 256) (m6 : et_pl (eg_at G am) 6 = some (.int (Int32.ofNat (lst b n (skp b n p))))) (m8 : et_pl (eg_at G am) 8 = some (.int (Int32.ofNat (skp b n p)))) (m13 : et_pl (eg_at G am) 13 = some (.int (Int32.ofNat 1))) (ha : tal b n p) (hd : 6 ≤ d2) : et_go none d2 198 0 (eg_en (eg_mL 198) [.ref am]) [] G 0 0 (xp_Z G (some (.int (if sp_tw (wat (tz_ts 1 b n p) 0) = true then Int32.ofNat (wat (tz_ts 1 b n p) 0 - 8) else (-1))))) := by
  obtain ⟨d, rfl⟩ : ∃ d, d2 = d + 6 := ⟨d2 - 6, by omega⟩
  rw [show eg_mL 198 = 1 from by decide +kernel]
  show et_go none (d + 6) 198 0 [some (.ref am)] [] G 0 0 _
  refine hs_aload (i := 0) (p := 1) (by decide +kernel) rfl ?_
  refine hf_get (T := et_TT) (t := 13) (ci := 11) (f := 13) (p := 4) (by decide +kernel) rfl hH k_am m13 ?_
  refine hs_if1 (c := .ne) (t := 48) (f := 7) (by decide +kernel) (show ¬ Int32.ofNat 1 = 0 by decide) ?_
  refine hs_aload (i := 0) (p := 49) (by decide +kernel) rfl ?_
  refine hf_get (T := et_TT) (t := 13) (ci := 11) (f := 13) (p := 52) (by decide +kernel) rfl hH k_am m13 ?_
  refine hs_k (x := Int32.ofNat 1) (p := 53) (by decide +kernel) ?_
  refine hs_br2n (c := .ne) (t := 84) (f := 56) (by decide +kernel) (by omega) (by omega) (fun h => absurd h (show ¬ (¬ 1 = 1) by decide)) (fun _ => ?_)
  refine hs_aload (i := 0) (p := 57) (by decide +kernel) rfl ?_
  refine hs_kld (v := .ref 43) (p := 59) (by decide +kernel) ?_
  refine ht_callv (T := et_TT) (t := 13) (mi := 190) (na := 1) (ci := 11) (lk := 1) (lm := 4) (L0 := eg_en (eg_mL 190) [.ref am, .ref 43]) (by decide +kernel) rfl hH k_am rfl rfl rfl rfl rfl (by rw [show eg_mL 190 = 4 from by decide +kernel]; first | done | rfl) ?_
  refine (pa_isW (pl := 1) (w := 8) (j := 7) hH k_am m4 k_tm m7 hn ht hb m6 m8 ha (by decide) (by decide) (by decide) (by decide +kernel) (by decide +kernel) (by decide +kernel) (by omega)).mono (fun u hu => xp_cb hu ?_)
  by_cases i8 : wat (tz_ts 1 b n p) 0 = 8
  · rw [if_pos i8]
    show et_go none _ 198 62 _ [.int (Int32.ofNat 1)] _ _ _ _
    refine hs_if0 (c := .eq) (t := 69) (f := 65) (by decide +kernel) (show ¬ (Int32.ofNat 1 = 0) by decide) ?_
    refine hs_k (x := Int32.ofNat 0) (p := 66) (by decide +kernel) ?_
    refine hs_goto (p := 83) (by decide +kernel) ?_
    refine hs_iret (by decide +kernel) ?_
    rw [i8, if_pos (by decide)]
    rfl
  · rw [if_neg i8]
    show et_go none _ 198 62 _ [.int (Int32.ofNat 0)] _ _ _ _
    refine hs_if1 (c := .eq) (t := 69) (f := 65) (by decide +kernel) (show Int32.ofNat 0 = 0 by decide) ?_
    refine hs_aload (i := 0) (p := 70) (by decide +kernel) rfl ?_
    refine hs_kld (v := .ref 44) (p := 72) (by decide +kernel) ?_
    refine ht_callv (T := et_TT) (t := 13) (mi := 190) (na := 1) (ci := 11) (lk := 1) (lm := 4) (L0 := eg_en (eg_mL 190) [.ref am, .ref 44]) (by decide +kernel) rfl hH k_am rfl rfl rfl rfl rfl (by rw [show eg_mL 190 = 4 from by decide +kernel]; first | done | rfl) ?_
    refine (pa_isW (pl := 1) (w := 9) (j := 8) hH k_am m4 k_tm m7 hn ht hb m6 m8 ha (by decide) (by decide) (by decide) (by decide +kernel) (by decide +kernel) (by decide +kernel) (by omega)).mono (fun u hu => xp_cb hu ?_)
    by_cases i9 : wat (tz_ts 1 b n p) 0 = 9
    · rw [if_pos i9]
      show et_go none _ 198 75 _ [.int (Int32.ofNat 1)] _ _ _ _
      refine hs_if0 (c := .eq) (t := 82) (f := 78) (by decide +kernel) (show ¬ (Int32.ofNat 1 = 0) by decide) ?_
      refine hs_k (x := Int32.ofNat 1) (p := 79) (by decide +kernel) ?_
      refine hs_goto (p := 83) (by decide +kernel) ?_
      refine hs_iret (by decide +kernel) ?_
      rw [i9, if_pos (by decide)]
      rfl
    · rw [if_neg i9]
      show et_go none _ 198 75 _ [.int (Int32.ofNat 0)] _ _ _ _
      refine hs_if1 (c := .eq) (t := 82) (f := 78) (by decide +kernel) (show Int32.ofNat 0 = 0 by decide) ?_
      refine hs_k (x := (-1)) (p := 83) (by decide +kernel) ?_
      refine hs_iret (by decide +kernel) ?_
      have hno : ¬ sp_tw (wat (tz_ts 1 b n p) 0) = true := fun h => by
        have h1 := wat_ts ha (tw_lt h) rfl
        have h2 := tw_only1 _ (List.mem_range.mpr (tw_lt h)) h h1.2.1
        omega
      rw [if_neg hno]
      rfl
theorem tw_only2 : ∀ w ∈ List.range 33, sp_tw w = true → tz_ok 2 w = true → w = 14 := by decide +kernel
theorem pa_tag2 (hH : et_H et_TT K G) (k_am : K am = some 13) (m4 : et_pl (eg_at G am) 4 = some (.ref tm)) (k_tm : K tm = some 34) (m7 : et_pl (eg_at G am) 7 = some (.int (Int32.ofNat n))) (hn : n ≤ 400) (ht : ∀ i, i < n → et_pl (eg_at G tm) i = some (.int (sx (b i)))) (hb : ∀ i, i < n → b i < 256) (m6 : et_pl (eg_at G am) 6 = some (.int (Int32.ofNat (lst b n (skp b n p))))) (m8 : et_pl (eg_at G am) 8 = some (.int (Int32.ofNat (skp b n p)))) (m13 : et_pl (eg_at G am) 13 = some (.int (Int32.ofNat 2))) (ha : tal b n p) (hd : 6 ≤ d2) : et_go none d2 198 0 (eg_en (eg_mL 198) [.ref am]) [] G 0 0 (xp_Z G (some (.int (if sp_tw (wat (tz_ts 2 b n p) 0) = true then Int32.ofNat (wat (tz_ts 2 b n p) 0 - 14) else (-1))))) := by
  obtain ⟨d, rfl⟩ : ∃ d, d2 = d + 6 := ⟨d2 - 6, by omega⟩
  rw [show eg_mL 198 = 1 from by decide +kernel]
  show et_go none (d + 6) 198 0 [some (.ref am)] [] G 0 0 _
  refine hs_aload (i := 0) (p := 1) (by decide +kernel) rfl ?_
  refine hf_get (T := et_TT) (t := 13) (ci := 11) (f := 13) (p := 4) (by decide +kernel) rfl hH k_am m13 ?_
  refine hs_if1 (c := .ne) (t := 48) (f := 7) (by decide +kernel) (show ¬ Int32.ofNat 2 = 0 by decide) ?_
  refine hs_aload (i := 0) (p := 49) (by decide +kernel) rfl ?_
  refine hf_get (T := et_TT) (t := 13) (ci := 11) (f := 13) (p := 52) (by decide +kernel) rfl hH k_am m13 ?_
  refine hs_k (x := Int32.ofNat 1) (p := 53) (by decide +kernel) ?_
  refine hs_br2n (c := .ne) (t := 84) (f := 56) (by decide +kernel) (by omega) (by omega) (fun _ => ?_) (fun h => absurd (show ¬ 2 = 1 by decide) h)
  refine hs_aload (i := 0) (p := 85) (by decide +kernel) rfl ?_
  refine hs_kld (v := .ref 45) (p := 87) (by decide +kernel) ?_
  refine ht_callv (T := et_TT) (t := 13) (mi := 190) (na := 1) (ci := 11) (lk := 1) (lm := 4) (L0 := eg_en (eg_mL 190) [.ref am, .ref 45]) (by decide +kernel) rfl hH k_am rfl rfl rfl rfl rfl (by rw [show eg_mL 190 = 4 from by decide +kernel]; first | done | rfl) ?_
  refine (pa_isW (pl := 2) (w := 14) (j := 9) hH k_am m4 k_tm m7 hn ht hb m6 m8 ha (by decide) (by decide) (by decide) (by decide +kernel) (by decide +kernel) (by decide +kernel) (by omega)).mono (fun u hu => xp_cb hu ?_)
  by_cases i14 : wat (tz_ts 2 b n p) 0 = 14
  · rw [if_pos i14]
    show et_go none _ 198 90 _ [.int (Int32.ofNat 1)] _ _ _ _
    refine hs_if0 (c := .eq) (t := 97) (f := 93) (by decide +kernel) (show ¬ (Int32.ofNat 1 = 0) by decide) ?_
    refine hs_k (x := Int32.ofNat 0) (p := 94) (by decide +kernel) ?_
    refine hs_goto (p := 98) (by decide +kernel) ?_
    refine hs_iret (by decide +kernel) ?_
    rw [i14, if_pos (by decide)]
    rfl
  · rw [if_neg i14]
    show et_go none _ 198 90 _ [.int (Int32.ofNat 0)] _ _ _ _
    refine hs_if1 (c := .eq) (t := 97) (f := 93) (by decide +kernel) (show Int32.ofNat 0 = 0 by decide) ?_
    refine hs_k (x := (-1)) (p := 98) (by decide +kernel) ?_
    refine hs_iret (by decide +kernel) ?_
    have hno : ¬ sp_tw (wat (tz_ts 2 b n p) 0) = true := fun h => by
      have h1 := wat_ts ha (tw_lt h) rfl
      have h2 := tw_only2 _ (List.mem_range.mpr (tw_lt h)) h h1.2.1
      omega
    rw [if_neg hno]
    rfl
theorem pa_tag (hH : et_H et_TT K G) (k_am : K am = some 13) (m4 : et_pl (eg_at G am) 4 = some (.ref tm)) (k_tm : K tm = some 34) (m7 : et_pl (eg_at G am) 7 = some (.int (Int32.ofNat n))) (hn : n ≤ 400) (ht : ∀ i, i < n → et_pl (eg_at G tm) i = some (.int (sx (b i)))) (hb : ∀ i, i < n → b i < 256) (m6 : et_pl (eg_at G am) 6 = some (.int (Int32.ofNat (lst b n (skp b n p))))) (m8 : et_pl (eg_at G am) 8 = some (.int (Int32.ofNat (skp b n p)))) (m13 : et_pl (eg_at G am) 13 = some (.int (Int32.ofNat pl))) (ha : tal b n p) (hpl : pl ≤ 2) (hd : 6 ≤ d2) : et_go none d2 198 0 (eg_en (eg_mL 198) [.ref am]) [] G 0 0 (xp_Z G (some (.int (if sp_tw (wat (tz_ts pl b n p) 0) = true then Int32.ofNat (wat (tz_ts pl b n p) 0 - tbw pl) else (-1))))) := by
  rcases (by omega : pl = 0 ∨ pl = 1 ∨ pl = 2) with rfl | rfl | rfl
  · exact pa_tag0 hH k_am m4 k_tm m7 hn ht hb m6 m8 m13 ha hd
  · exact pa_tag1 hH k_am m4 k_tm m7 hn ht hb m6 m8 m13 ha hd
  · exact pa_tag2 hH k_am m4 k_tm m7 hn ht hb m6 m8 m13 ha hd
theorem pa_emit {o v : Nat} (hov : o < 10000 ∧ v < 10000) (hH : et_H et_TT K G) (k_am : K am = some 13) (k_aw : K aw = some 46) (m1 : et_pl (eg_at G am) 1 = some (.ref aw)) (m12 : et_pl (eg_at G am) 12 = some (.int (Int32.ofNat k))) (hk : k < 400) (hd : 1 ≤ d2) : et_go none d2 197 0 (eg_en (eg_mL 197) [.ref am, .int (Int32.ofNat o), .int (Int32.ofNat v)]) [] G 0 0 (xw_Z (fun c j => (c = am ∧ j = 12) ∨ (c = aw ∧ (11941 + 2 * k ≤ j ∧ j ≤ 11941 + 2 * k + 1))) K G (fun G' r => r = none ∧ ∃ C, C = [(o, v)] ∧ C.length = 1 ∧ et_pl (eg_at G' am) 12 = some (.int (Int32.ofNat (k + C.length))) ∧ hasC G' aw k C)) := by
  obtain ⟨d, rfl⟩ : ∃ d, d2 = d + 1 := ⟨d2 - 1, by omega⟩
  rw [show eg_mL 197 = 4 from by decide +kernel]
  show et_go none (d + 1) 197 0 [some (.ref am), some (.int (Int32.ofNat o)), some (.int (Int32.ofNat v)), none] [] G 0 0 _
  have lt_am := (hH.2.2 _ _ k_am).1
  have lt_aw := (hH.2.2 _ _ k_aw).1
  have hX : xf (fun c j => (c = am ∧ j = 12) ∨ (c = aw ∧ (11941 + 2 * k ≤ j ∧ j ≤ 11941 + 2 * k + 1))) G G := xf.rf
  refine hs_k (x := Int32.ofNat 14) (p := 2) (by decide +kernel) ?_
  refine hs_calls (mi := 186) (na := 1) (lk := 4) (lm := 1) (L0 := eg_en (eg_mL 186) [.int (Int32.ofNat 14)]) (by decide +kernel) rfl rfl rfl rfl rfl rfl (by rw [show eg_mL 186 = 1 from by decide +kernel]; first | done | rfl) ?_
  refine (fm_text).mono (fun u hu => xp_cb hu ?_)
  show et_go none _ 197 5 _ [.int (Int32.ofNat (126 + 841 * 14))] _ _ _ _
  refine hs_k (x := Int32.ofNat 41) (p := 7) (by decide +kernel) ?_
  refine hs_iaddn (p := 8) (by decide +kernel) ?_
  refine hs_k (x := Int32.ofNat 2) (p := 9) (by decide +kernel) ?_
  refine hs_aload (i := 0) (p := 10) (by decide +kernel) rfl ?_
  refine hf_get (T := et_TT) (t := 13) (ci := 11) (f := 12) (p := 13) (by decide +kernel) rfl hH k_am m12 ?_
  refine hs_imuln (p := 14) (by decide +kernel) ?_
  refine hs_iaddn (p := 15) (by decide +kernel) ?_
  refine hs_istore (i := 3) (p := 16) (by decide +kernel) (Nat.le_of_ble_eq_true rfl) ?_
  refine hs_aload (i := 0) (p := 17) (by decide +kernel) rfl ?_
  refine hf_get (T := et_TT) (t := 13) (ci := 11) (f := 1) (p := 20) (by decide +kernel) rfl hH k_am m1 ?_
  refine hs_iload (i := 3) (p := 21) (by decide +kernel) rfl ?_
  refine hs_iload (i := 1) (p := 22) (by decide +kernel) rfl ?_
  refine hf_wsd (p := 23) (by decide +kernel) hH k_aw (by omega) (by omega) (fun G22 hH x22 e22 => ?_)
  have m1 := (x22.2 am 1 lt_am (fun h => (hi_ne k_am k_aw (by decide)) h.1)).trans m1
  have m12 := (x22.2 am 12 lt_am (fun h => (hi_ne k_am k_aw (by decide)) h.1)).trans m12
  have lt_am := Nat.lt_of_lt_of_le lt_am x22.1
  have lt_aw := Nat.lt_of_lt_of_le lt_aw x22.1
  have hX := hX.tr x22 (fun b j hb h => by first | omega | (dsimp only at h ⊢; omega) | (dsimp only at h; omega) | (dsimp only; omega))
  refine hs_aload (i := 0) (p := 24) (by decide +kernel) rfl ?_
  refine hf_get (T := et_TT) (t := 13) (ci := 11) (f := 1) (p := 27) (by decide +kernel) rfl hH k_am m1 ?_
  refine hs_iload (i := 3) (p := 28) (by decide +kernel) rfl ?_
  refine hs_k (x := Int32.ofNat 1) (p := 29) (by decide +kernel) ?_
  refine hs_iaddn (p := 30) (by decide +kernel) ?_
  refine hs_iload (i := 2) (p := 31) (by decide +kernel) rfl ?_
  refine hf_wsd (p := 32) (by decide +kernel) hH k_aw (by omega) (by omega) (fun G31 hH x31 e31 => ?_)
  have m1 := (x31.2 am 1 lt_am (fun h => (hi_ne k_am k_aw (by decide)) h.1)).trans m1
  have m12 := (x31.2 am 12 lt_am (fun h => (hi_ne k_am k_aw (by decide)) h.1)).trans m12
  have e22 := (x31.2 aw (((126 + 841 * 14) + 41) + (2 * k)) lt_aw (fun h => by have h := h.2; omega)).trans e22
  have lt_am := Nat.lt_of_lt_of_le lt_am x31.1
  have lt_aw := Nat.lt_of_lt_of_le lt_aw x31.1
  have hX := hX.tr x31 (fun b j hb h => by first | omega | (dsimp only at h ⊢; omega) | (dsimp only at h; omega) | (dsimp only; omega))
  refine hs_aload (i := 0) (p := 33) (by decide +kernel) rfl ?_
  refine hs_dup1 (p := 34) (by decide +kernel) ?_
  refine hf_get (T := et_TT) (t := 13) (ci := 11) (f := 12) (p := 37) (by decide +kernel) rfl hH k_am m12 ?_
  refine hs_k (x := Int32.ofNat 1) (p := 38) (by decide +kernel) ?_
  refine hs_iaddn (p := 39) (by decide +kernel) ?_
  refine hf_put (T := et_TT) (t := 13) (ci := 11) (f := 12) (p := 42) (ty := .int) (by decide +kernel) rfl rfl rfl rfl rfl hH k_am (hi_nv (by omega) (by omega)) (fun G39 hH x39 e39 => ?_)
  have m1 := (x39.2 am 1 lt_am (fun h => absurd h.2 (by decide))).trans m1
  have e22 := (x39.2 aw (((126 + 841 * 14) + 41) + (2 * k)) lt_aw (fun h => (hi_ne k_aw k_am (by decide)) h.1)).trans e22
  have e31 := (x39.2 aw ((((126 + 841 * 14) + 41) + (2 * k)) + 1) lt_aw (fun h => (hi_ne k_aw k_am (by decide)) h.1)).trans e31
  have lt_am := Nat.lt_of_lt_of_le lt_am x39.1
  have lt_aw := Nat.lt_of_lt_of_le lt_aw x39.1
  have hX := hX.tr x39 (fun b j hb h => by first | omega | (dsimp only at h ⊢; omega) | (dsimp only at h; omega) | (dsimp only; omega))
  refine hs_vret (by decide +kernel) ?_
  refine ⟨_, _, rfl, hH, hX, rfl, [(o, v)], rfl, rfl, e39, fun j s hj => ?_⟩
  have hj0 : j = 0 := by have := (List.getElem?_eq_some_iff.mp hj).1; simpa using this
  subst hj0
  cases hj
  rw [show 11941 + 2 * (k + 0) = (((126 + 841 * 14) + 41) + (2 * k)) by omega]
  exact ⟨e22, e31, hov⟩
end FUA
end
