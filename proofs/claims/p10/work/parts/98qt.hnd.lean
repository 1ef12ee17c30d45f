/-! FUNCTIONAL: the reference's tokens and steps -/
theorem tz_eq_in {b : Nat → Nat} : ∀ {s s' : List Nat} {i : Nat}, s.length = s'.length → tz_eq b i s = true → tz_eq b i s' = true → s = s'
  | [], [], _, _, _, _ => rfl
  | [], _ :: _, _, h, _, _ => by cases h
  | _ :: _, [], _, h, _, _ => by cases h
  | x :: s, y :: s', i, h, h1, h2 => by
    have h1 : (b i == x && tz_eq b (i + 1) s) = true := h1
    have h2 : (b i == y && tz_eq b (i + 1) s') = true := h2
    rw [Bool.and_eq_true, beq_iff_eq] at h1 h2
    rw [← h1.1, ← h2.1, tz_eq_in (Nat.succ.inj h) h1.2 h2.2]
theorem tz_is_in {b : Nat → Nat} {s s' : List Nat} {i e : Nat} (h1 : tz_is b s i e = true) (h2 : tz_is b s' i e = true) : s = s' := by
  unfold tz_is at h1 h2
  rw [Bool.and_eq_true, beq_iff_eq] at h1 h2
  exact tz_eq_in (h1.1.trans h2.1.symm) h1.2 h2.2
theorem tz_fd_of {pl i e w : Nat} {b : Nat → Nat} (h : (tz_ok pl w && tz_is b (tz_tx w) i e) = true) : ∀ (k w0 : Nat), w0 ≤ w → w < w0 + k → (∀ w', w0 ≤ w' → w' < w → ¬ (tz_ok pl w' && tz_is b (tz_tx w') i e) = true) → tz_fd pl b i e k w0 = w
  | 0, w0, h1, h2, _ => by omega
  | k + 1, w0, h1, h2, h3 => by
    show (if (tz_ok pl w0 && tz_is b (tz_tx w0) i e) = true then w0 else _) = w
    by_cases he : w0 = w
    · rw [he, if_pos h]
    · rw [if_neg (h3 w0 (Nat.le_refl _) (by omega))]
      exact tz_fd_of h k (w0 + 1) (by omega) (by omega) (fun w' a1 a2 => h3 w' (by omega) a2)
theorem tz_fd_is {pl i e : Nat} {b : Nat → Nat} : ∀ (k w0 : Nat), ¬ tz_fd pl b i e k w0 = 35 → (tz_ok pl (tz_fd pl b i e k w0) && tz_is b (tz_tx (tz_fd pl b i e k w0)) i e) = true
  | 0, _, h => absurd rfl h
  | k + 1, w0, h => by
    by_cases hc : (tz_ok pl w0 && tz_is b (tz_tx w0) i e) = true
    · have h1 : tz_fd pl b i e (k + 1) w0 = w0 := if_pos hc
      rw [h1]
      exact hc
    · have h1 : tz_fd pl b i e (k + 1) w0 = tz_fd pl b i e k (w0 + 1) := if_neg hc
      rw [h1] at h ⊢
      exact tz_fd_is k (w0 + 1) h
theorem tz_un : ∀ pl ∈ List.range 3, ∀ w ∈ List.range 33, ∀ w' ∈ List.range 33, tz_ok pl w = true → tz_ok pl w' = true → tz_tx w = tz_tx w' → w = w' := by decide +kernel
/-- a word's text: its first byte -/
def tz_f (w : Nat) : Nat := (tz_tx w).headD 0
theorem tz_ne : ∀ w ∈ List.range 33, tz_tx w = tz_f w :: (tz_tx w).tail ∧ tz_d (tz_f w) = false := by decide +kernel
section TOK
variable {b : Nat → Nat} {pl n p q w j c : Nat}
theorem is_first (hw : w < 33) {e : Nat} (h : tz_is b (tz_tx w) q e = true) : b q = tz_f w := by
  have h1 := (tz_ne w (List.mem_range.mpr hw)).1
  unfold tz_is at h
  rw [Bool.and_eq_true, h1] at h
  have h2 : (b q == tz_f w && tz_eq b (q + 1) (tz_tx w).tail) = true := h.2
  rw [Bool.and_eq_true, beq_iff_eq] at h2
  exact h2.1
theorem wd_of (hpl : pl ≤ 2) (hw : w < 33) (hok : tz_ok pl w = true) (h : tz_is b (tz_tx w) q (tz_end b n q) = true) : tz_wd pl b n q = w := by
  have hd : tz_d (b q) = false := by
    rw [is_first hw h]
    exact (tz_ne w (List.mem_range.mpr hw)).2
  have h1 : tz_wd pl b n q = tz_fd pl b q (tz_end b n q) 36 0 := if_neg (by rw [hd]; decide)
  rw [h1]
  refine tz_fd_of (by rw [hok, h]; rfl) 36 0 (Nat.zero_le _) (by omega) (fun w' _ a2 a3 => ?_)
  rw [Bool.and_eq_true] at a3
  have := tz_un pl (List.mem_range.mpr (by omega)) w' (List.mem_range.mpr (by omega)) w (List.mem_range.mpr hw) a3.1 hok (tz_is_in a3.2 h)
  omega
theorem wd_is (hw : w < 33) (h : tz_wd pl b n q = w) : tz_ok pl w = true ∧ tz_is b (tz_tx w) q (tz_end b n q) = true := by
  unfold tz_wd at h
  split at h
  · omega
  · have h1 := tz_fd_is (pl := pl) (i := q) (e := tz_end b n q) (b := b) 36 0 (by omega)
    rw [h, Bool.and_eq_true] at h1
    exact h1
theorem wd_33 : tz_wd pl b n q = 33 ↔ tz_d (b q) = true := by
  constructor
  · intro h
    refine Decidable.by_contra (fun hd => ?_)
    have h1 : tz_wd pl b n q = tz_fd pl b q (tz_end b n q) 36 0 := if_neg hd
    rw [h1] at h
    have h2 := tz_fd_is (pl := pl) (i := q) (e := tz_end b n q) (b := b) 36 0 (by omega)
    rw [h, Bool.and_eq_true] at h2
    have h3 := h2.2
    unfold tz_is at h3
    rw [Bool.and_eq_true, beq_iff_eq, show (tz_tx 33).length = 0 from by decide +kernel] at h3
    by_cases hq : q < n
    · have := tz_end_le (b := b) hq
      omega
    · have := tz_en_le (b := b) (n := n) (n - (q + 1)) (q + 1)
      have h4 : tz_end b n q = tz_en b n (n - (q + 1)) (q + 1) := rfl
      omega
  · intro h
    exact if_pos h
/-- what stands before the place p -/
theorem tok_e (hp : p ≤ n) (h : ¬ skp b n p < n) : tz_ts pl b n p = [] := by
  rw [ts_sk rfl]
  exact ts_n (by omega)
theorem tok_c (ha : tal b n p) (h : skp b n p < n) : tz_ts pl b n p = tz_tk pl b n (skp b n p) :: tz_ts pl b n (tz_end b n (skp b n p)) := by
  have h1 := skp_al rfl ha
  rw [ts_sk rfl]
  exact ts_c h h1.2.1.2 (h1.2.2 h)
theorem tok_w0 (ha : tal b n p) (h : skp b n p < n) : wat (tz_ts pl b n p) 0 = tz_wd pl b n (skp b n p) := by
  rw [tok_c ha h]
  rfl
theorem tok_34 (hp : p ≤ n) (h : ¬ skp b n p < n) : wat (tz_ts pl b n p) 0 = 34 := by
  rw [tok_e hp h]
  rfl
/-- words of letters -/
theorem tok_l (hpl : pl ≤ 2) (ha : tal b n p) (hw : w < 33) (hok : tz_ok pl w = true) (hl : tz_l (tz_f w) = true) : tz_is b (tz_tx w) (skp b n p) (lst b n (skp b n p)) = true ↔ wat (tz_ts pl b n p) 0 = w := by
  have h1 := skp_al rfl ha
  constructor
  · intro h
    have hb := is_first hw h
    have hlen : 0 < lst b n (skp b n p) - skp b n p := by
      unfold tz_is at h
      rw [Bool.and_eq_true, beq_iff_eq, (tz_ne w (List.mem_range.mpr hw)).1] at h
      have := h.1
      rw [List.length_cons] at this
      omega
    have hq : skp b n p < n ∧ tz_l (b (skp b n p)) = true := Decidable.by_contra (fun hq => by
      have : lst b n (skp b n p) = skp b n p := if_neg hq
      omega)
    have he : lst b n (skp b n p) = tz_end b n (skp b n p) := if_pos hq
    rw [he] at h
    rw [tok_w0 ha hq.1]
    exact wd_of hpl hw hok h
  · intro h
    have hq : skp b n p < n := Decidable.by_contra (fun hq => by
      rw [tok_34 ha.1 hq] at h
      omega)
    rw [tok_w0 ha hq] at h
    have h2 := (wd_is hw h).2
    have hb := is_first hw h2
    have he : lst b n (skp b n p) = tz_end b n (skp b n p) := if_pos ⟨hq, by rw [hb]; exact hl⟩
    rw [he]
    exact h2
theorem tok_ly (ha : tal b n p) (hw : w < 33) (hl : tz_l (tz_f w) = true) (h : wat (tz_ts pl b n p) 0 = w) : tal b n (lst b n (skp b n p)) ∧ tz_ts pl b n (lst b n (skp b n p)) = (tz_ts pl b n p).drop 1 ∧ (tz_ts pl b n (lst b n (skp b n p))).length + 1 = (tz_ts pl b n p).length := by
  have hq : skp b n p < n := Decidable.by_contra (fun hq => by
    rw [tok_34 ha.1 hq] at h
    omega)
  rw [tok_w0 ha hq] at h
  have hb := is_first hw (wd_is hw h).2
  have he : lst b n (skp b n p) = tz_end b n (skp b n p) := if_pos ⟨hq, by rw [hb]; exact hl⟩
  rw [he, tok_c ha hq]
  exact ⟨tal_end hq, rfl, rfl⟩
theorem tok_al (ha : tal b n p) : tal b n (skp b n p) ∧ tz_ts pl b n (skp b n p) = tz_ts pl b n p := ⟨(skp_al rfl ha).2.1, (ts_sk rfl).symm⟩
/-- signs -/
theorem tok_s (hpl : pl ≤ 2) (ha : tal b n p) (hw : w < 33) (hok : tz_ok pl w = true) (ht : tz_tx w = [c]) (hl : tz_l c = false) (hd : tz_d c = false) : (skp b n p < n ∧ b (skp b n p) = c) ↔ wat (tz_ts pl b n p) 0 = w := by
  constructor
  · rintro ⟨hq, hb⟩
    rw [tok_w0 ha hq]
    refine wd_of hpl hw hok ?_
    rw [end_s (by rw [hb]; exact hl) (by rw [hb]; exact hd), ht]
    unfold tz_is
    rw [show skp b n p + 1 - skp b n p = 1 by omega]
    show (true && (b (skp b n p) == c && true)) = true
    rw [hb]
    simp
  · intro h
    have hq : skp b n p < n := Decidable.by_contra (fun hq => by
      rw [tok_34 ha.1 hq] at h
      omega)
    rw [tok_w0 ha hq] at h
    have hb := is_first hw (wd_is hw h).2
    refine ⟨hq, hb.trans ?_⟩
    unfold tz_f
    rw [ht]
    rfl
theorem tok_sy (ha : tal b n p) (hl : tz_l c = false) (hd : tz_d c = false) (h : skp b n p < n ∧ b (skp b n p) = c) : tal b n (skp b n p + 1) ∧ tz_ts pl b n (skp b n p + 1) = (tz_ts pl b n p).drop 1 ∧ (tz_ts pl b n (skp b n p + 1)).length + 1 = (tz_ts pl b n p).length := by
  have he : tz_end b n (skp b n p) = skp b n p + 1 := end_s (by rw [h.2]; exact hl) (by rw [h.2]; exact hd)
  have ht := tal_end (b := b) h.1
  rw [tok_c ha h.1]
  rw [he] at ht ⊢
  exact ⟨ht, rfl, rfl⟩
/-- NUMBERS -/
theorem tok_d (ha : tal b n p) : (skp b n p < n ∧ tz_d (b (skp b n p)) = true) ↔ wat (tz_ts pl b n p) 0 = 33 := by
  constructor
  · rintro ⟨hq, hd⟩
    rw [tok_w0 ha hq]
    exact wd_33.mpr hd
  · intro h
    have hq : skp b n p < n := Decidable.by_contra (fun hq => by
      rw [tok_34 ha.1 hq] at h
      omega)
    rw [tok_w0 ha hq] at h
    exact ⟨hq, wd_33.mp h⟩
theorem tok_dy (ha : tal b n p) (h : skp b n p < n ∧ tz_d (b (skp b n p)) = true) : tal b n (dst b n (skp b n p)) ∧ tz_ts pl b n p = (33, tz_nm b n (skp b n p)) :: tz_ts pl b n (dst b n (skp b n p)) := by
  have he : dst b n (skp b n p) = tz_end b n (skp b n p) := if_pos h
  rw [he, tok_c ha h.1]
  refine ⟨tal_end h.1, ?_⟩
  unfold tz_tk
  rw [wd_33.mpr h.2]
theorem ts_len {p : Nat} : (tz_ts pl b n p).length ≤ n - p := by
  unfold tz_ts
  rw [List.length_map]
  exact tz_bg_len _ _
end TOK
/-! steps -/
def fbw (pl : Nat) : Nat := if pl = 0 then 3 else if pl = 1 then 10 else 15
def tbw (pl : Nat) : Nat := if pl = 0 then 0 else if pl = 1 then 8 else 14
def b01 (x : Bool) : Int64 := if x = true then 1 else 0
def sk1 (pl : Nat) (E : sp_E) (o v : Nat) : Int64 := if o = 13 then Int64.ofNat v else if o < 10 then E.1 (fbw pl + o) else b01 (if o = 12 then E.2.2 v else E.2.1 (tbw pl + (o - 10)))
def sk2 (o : Nat) (x y : Int64) : Int64 := if o = 15 then x + y else if o = 14 then x * y else b01 (if o = 16 then decide (x < y) else if o = 17 then decide (y < x) else if o = 19 then decide (x + y = 2) else decide (0 < x + y))
def skS (pl : Nat) (E : sp_E) (s : Nat × Nat) (st : List Int64) : List Int64 := if s.1 ≤ 13 then sk1 pl E s.1 s.2 :: st else if s.1 = 18 then (match st with
  | x :: r => (1 - x) :: r
  | [] => []) else (match st with
  | y :: x :: r => sk2 s.1 x y :: r
  | _ => [])
def skR (pl : Nat) (E : sp_E) : List (Nat × Nat) → List Int64 → List Int64
  | [], st => st
  | s :: C, st => skR pl E C (skS pl E s st)
theorem skR_app {pl : Nat} {E : sp_E} : ∀ {C D : List (Nat × Nat)} {st : List Int64}, skR pl E (C ++ D) st = skR pl E D (skR pl E C st)
  | [], _, _ => rfl
  | _ :: C, D, st => skR_app (C := C)
/-- the draft's steps from the k-th on -/
def hasC (G : eg_G) (aw k : Nat) (C : List (Nat × Nat)) : Prop := ∀ j s, C[j]? = some s → et_pl (eg_at G aw) (11941 + 2 * (k + j)) = some (.int (Int32.ofNat s.1)) ∧ et_pl (eg_at G aw) (11941 + 2 * (k + j) + 1) = some (.int (Int32.ofNat s.2))
theorem hasC.nil {G : eg_G} {aw k : Nat} : hasC G aw k [] := fun j s h => by cases h
theorem hasC.app {G : eg_G} {aw k : Nat} {C D : List (Nat × Nat)} (h1 : hasC G aw k C) (h2 : hasC G aw (k + C.length) D) : hasC G aw k (C ++ D) := fun j s h => by
  by_cases hj : j < C.length
  · rw [List.getElem?_append_left hj] at h
    exact h1 j s h
  · rw [List.getElem?_append_right (by omega)] at h
    have h3 := h2 (j - C.length) s h
    rw [show k + C.length + (j - C.length) = k + j by omega] at h3
    exact h3
theorem hasC.fr {S : Nat → Nat → Prop} {G G' : eg_G} {aw k : Nat} {C : List (Nat × Nat)} (h : hasC G aw k C) (hx : xf S G G') (ha : aw < G.2) (hS : ∀ j, 11941 + 2 * k ≤ j → j < 11941 + 2 * (k + C.length) → ¬ S aw j) : hasC G' aw k C := fun j s hj => by
  have hl := (List.getElem?_eq_some_iff.mp hj).1
  exact ⟨(hx.2 aw _ ha (hS _ (by omega) (by omega))).trans (h j s hj).1, (hx.2 aw _ ha (hS _ (by omega) (by omega))).trans (h j s hj).2⟩
/-- what steps say: a sum, a condition -/
def dnS (pl : Nat) (f : sp_E → Int64) (C : List (Nat × Nat)) : Prop := ∀ E st, skR pl E C st = f E :: st
def dnB (pl : Nat) (f : sp_E → Bool) (C : List (Nat × Nat)) : Prop := ∀ E st, skR pl E C st = b01 (f E) :: st
abbrev rS (am aw k : Nat) (c j : Nat) : Prop := (c = am ∧ j = 6) ∨ ((c = am ∧ j = 8) ∨ ((c = am ∧ j = 9) ∨ ((c = am ∧ j = 12) ∨ (c = aw ∧ 11941 + 2 * k ≤ j))))
/-- how a call of the reference's parser ends -/
def frP {α : Type} (b : Nat → Nat) (n pl am aw k dp : Nat) (T : List sp_T) (R : α → List (Nat × Nat) → Prop) (sp : Option (α × List sp_T)) (G' : eg_G) (v : Option Value) : Prop := (sp = none ∧ v = some (.int (Int32.ofNat 0))) ∨ ∃ (f : α) (p' : Nat) (C : List (Nat × Nat)), sp = some (f, tz_ts pl b n p') ∧ v = some (.int (Int32.ofNat 1)) ∧ et_pl (eg_at G' am) 6 = some (.int (Int32.ofNat p')) ∧ tal b n p' ∧ et_pl (eg_at G' am) 12 = some (.int (Int32.ofNat (k + C.length))) ∧ et_pl (eg_at G' am) 9 = some (.int (Int32.ofNat dp)) ∧ hasC G' aw k C ∧ R f C ∧ C.length + (tz_ts pl b n p').length ≤ T.length
def fr {α : Type} (b : Nat → Nat) (n pl am aw k dp : Nat) (T : List sp_T) (K : et_K) (G : eg_G) (R : α → List (Nat × Nat) → Prop) (sp : Option (α × List sp_T)) (u : eg_O) : Prop := xw_Z (rS am aw k) K G (frP b n pl am aw k dp T R sp) u
