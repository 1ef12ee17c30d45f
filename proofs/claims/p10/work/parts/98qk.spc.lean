/-! THE TEXTS: tokens (word's number, NUMBER), what they say -/
abbrev sp_T : Type := Nat × Option Nat
/-- facts by the word's number, tags by the word's number, cells -/
abbrev sp_E : Type := (Nat → Int64) × ((Nat → Bool) × (Nat → Bool))
abbrev sp_P (α : Type) : Type := List sp_T → Option (α × List sp_T)
def sp_fw (w : Nat) : Bool := (Nat.ble 3 w && Nat.ble w 7) || ((Nat.ble 10 w && Nat.ble w 13) || (Nat.ble 15 w && Nat.ble w 19))
def sp_tw (w : Nat) : Bool := Nat.ble w 2 || (w == 8 || (w == 9 || w == 14))
def sp_fact : sp_P (sp_E → Int64) := fun ts => match ts with
  | (w, _) :: r => if sp_fw w = true then some (fun e => e.1 w, r) else none
  | [] => none
/-- behind a NUMBER -/
def sp_times (v : Nat) : sp_P (sp_E → Int64) := fun r => match r with
  | (w, _) :: r2 => if w = 28 then (match sp_fact r2 with
    | some (f, r3) => some (fun e => Int64.ofNat v * f e, r3)
    | none => none) else some (fun _ => Int64.ofNat v, r)
  | [] => some (fun _ => Int64.ofNat v, r)
def sp_part : sp_P (sp_E → Int64) := fun ts => match ts with
  | (w, n) :: r => if w = 33 then (match n with
    | none => none
    | some v => sp_times v r) else sp_fact ts
  | [] => none
def sp_loop {α : Type} (sub : sp_P α) (sep : Nat) (op : α → α → α) : Nat → α → sp_P α
  | 0, a, ts => some (a, ts)
  | n + 1, a, ts => match ts with
    | (w, _) :: r => if w = sep then (match sub r with
      | some (b, r2) => sp_loop sub sep op n (op a b) r2
      | none => none) else some (a, ts)
    | [] => some (a, ts)
def sp_many {α : Type} (sub : sp_P α) (sep : Nat) (op : α → α → α) : sp_P α := fun ts => match sub ts with
  | some (a, r) => sp_loop sub sep op 500 a r
  | none => none
def sp_sum : sp_P (sp_E → Int64) := sp_many sp_part 27 (fun f g e => f e + g e)
def sp_cmp : sp_P (sp_E → Bool) := fun ts => match sp_sum ts with
  | some (a, (w, _) :: r2) => if w = 25 ∨ w = 26 then (match sp_sum r2 with
    | some (b, r3) => some (fun e => if w = 25 then decide (a e < b e) else decide (b e < a e), r3)
    | none => none) else none
  | _ => none
def sp_tag (w : Nat) : sp_P (sp_E → Bool) := fun r => if w = 2 then (match r with
    | (w2, some v) :: r2 => if w2 = 33 ∧ v ≤ 15 then some (fun e => e.2.2 v, r2) else none
    | _ => none) else some (fun e => e.2.1 w, r)
/-- an atom, where so many ( and not may still come; A, C: what stands behind not, inside ( -/
def sp_at (m : Nat) (A C : sp_P (sp_E → Bool)) : sp_P (sp_E → Bool) := fun ts => match ts with
  | (w, _) :: r => if w = 22 then (if m = 0 then none else (match A r with
      | some (f, r2) => some (fun e => !f e, r2)
      | none => none))
    else if w = 23 then (if m = 0 then none else (match C r with
      | some (f, (w2, _) :: r2) => if w2 = 24 then some (f, r2) else none
      | _ => none))
    else if sp_tw w = true then sp_tag w r else sp_cmp ts
  | [] => none
def spx_all (A : sp_P (sp_E → Bool)) : sp_P (sp_E → Bool) := sp_many A 20 (fun f g e => f e && g e)
def spx_any (A : sp_P (sp_E → Bool)) : sp_P (sp_E → Bool) := sp_many (spx_all A) 21 (fun f g e => f e || g e)
def sp_A : Nat → sp_P (sp_E → Bool)
  | 0 => sp_at 0 (fun _ => none) (fun _ => none)
  | m + 1 => sp_at (m + 1) (sp_A m) (spx_any (sp_A m))
def sp_C (m : Nat) : sp_P (sp_E → Bool) := spx_any (sp_A m)
/-- a text of a RULE or a CLAIM -/
def sp_one (ts : List sp_T) : Option (sp_E → Bool) := match sp_C 6 ts with
  | some (f, []) => some f
  | _ => none
abbrev sp_L : Type := Bool × (Nat × Option (sp_E → Bool))
def sp_line : sp_P sp_L := fun ts => match ts with
  | (w, _) :: (w2, some v) :: r => if (w = 29 ∨ w = 30) ∧ (w2 = 33 ∧ v ≤ 50) then (match r with
    | (w3, _) :: r3 => if w3 = 31 then (match sp_C 6 r3 with
      | some (f, r4) => some ((w == 29, v, some f), r4)
      | none => none) else some ((w == 29, v, none), r)
    | [] => some ((w == 29, v, none), r)) else none
  | _ => none
def sp_lines : Nat → List sp_L → List sp_T → Option (List sp_L)
  | 0, _, _ => none
  | n + 1, ls, ts => match sp_line ts with
    | some (l, []) => some (ls ++ [l])
    | some (l, (w, _) :: r) => if w = 32 then sp_lines n (ls ++ [l]) r else none
    | none => none
def sp_turner (ts : List sp_T) : Option (List sp_L) := match ts with
  | [] => some []
  | _ => sp_lines 10 [] ts
/-! bytes: b what stands there, n how many -/
def tz_l (x : Nat) : Bool := Nat.ble 97 x && Nat.ble x 122
def tz_d (x : Nat) : Bool := Nat.ble 48 x && Nat.ble x 57
def tz_go (b : Nat → Nat) (n i : Nat) : Bool := (Nat.blt 0 i && Nat.blt i n) && ((tz_l (b (i - 1)) && tz_l (b i)) || (tz_d (b (i - 1)) && tz_d (b i)))
def tz_en (b : Nat → Nat) (n : Nat) : Nat → Nat → Nat
  | 0, e => e
  | k + 1, e => if tz_go b n e = true then tz_en b n k (e + 1) else e
def tz_end (b : Nat → Nat) (n i : Nat) : Nat := tz_en b n (n - (i + 1)) (i + 1)
def tz_tx (w : Nat) : List Nat := (eg_by.getD (eg_wf.getD w (0, 0, 0)).1 []).map (fun x => x.toNatClampNeg)
def tz_pl (w : Nat) : Nat := (eg_wf.getD w (0, 0, 0)).2.1.toNatClampNeg
/-- does this text stand there, from the k-th byte on -/
def tz_eq (b : Nat → Nat) (i : Nat) : List Nat → Bool
  | [] => true
  | x :: s => b i == x && tz_eq b (i + 1) s
def tz_is (b : Nat → Nat) (s : List Nat) (i e : Nat) : Bool := s.length == e - i && tz_eq b i s
def tz_ok (pl w : Nat) : Bool := tz_pl w == pl || tz_pl w == 3
def tz_fd (pl : Nat) (b : Nat → Nat) (i e : Nat) : Nat → Nat → Nat
  | 0, _ => 35
  | k + 1, w => if (tz_ok pl w && tz_is b (tz_tx w) i e) = true then w else tz_fd pl b i e k (w + 1)
def tz_wd (pl : Nat) (b : Nat → Nat) (n i : Nat) : Nat := if tz_d (b i) = true then 33 else tz_fd pl b i (tz_end b n i) 36 0
def tz_nu (b : Nat → Nat) : Nat → Nat → Nat → Nat
  | 0, _, v => v
  | k + 1, i, v => tz_nu b k (i + 1) (10 * v + b i - 48)
def tz_nm (b : Nat → Nat) (n i : Nat) : Option Nat := if 4 < tz_end b n i - i ∨ tz_d (b i) = false then none else some (tz_nu b (tz_end b n i - i) i 0)
def tz_st (b : Nat → Nat) (n i : Nat) : Bool := !(b i == 32) && !tz_go b n i
/-- where tokens begin, among k places from p on -/
def tz_bg (b : Nat → Nat) (n : Nat) : Nat → Nat → List Nat
  | 0, _ => []
  | k + 1, p => if tz_st b n p = true then p :: tz_bg b n k (p + 1) else tz_bg b n k (p + 1)
def tz_tk (pl : Nat) (b : Nat → Nat) (n i : Nat) : sp_T := (tz_wd pl b n i, tz_nm b n i)
def tz_ts (pl : Nat) (b : Nat → Nat) (n p : Nat) : List sp_T := (tz_bg b n (n - p) p).map (tz_tk pl b n)
theorem tz_en_le {b : Nat → Nat} {n : Nat} : ∀ (k e : Nat), e ≤ tz_en b n k e ∧ tz_en b n k e ≤ e + k
  | 0, e => ⟨Nat.le_refl _, Nat.le_refl _⟩
  | k + 1, e => by
    unfold tz_en
    split
    · have := tz_en_le (b := b) (n := n) k (e + 1)
      omega
    · omega
theorem tz_end_le {b : Nat → Nat} {n i : Nat} (hi : i < n) : i < tz_end b n i ∧ tz_end b n i ≤ n := by
  have := tz_en_le (b := b) (n := n) (n - (i + 1)) (i + 1)
  unfold tz_end
  omega
theorem tz_bg_snoc {b : Nat → Nat} {n : Nat} : ∀ (k p : Nat), tz_bg b n (k + 1) p = tz_bg b n k p ++ (if tz_st b n (p + k) = true then [p + k] else [])
  | 0, p => by
    unfold tz_bg tz_bg
    rfl
  | k + 1, p => by
    have h := tz_bg_snoc (b := b) (n := n) k (p + 1)
    rw [show p + 1 + k = p + (k + 1) by omega] at h
    rw [tz_bg]
    rw [h]
    conv => rhs; rw [tz_bg]
    split <;> rfl
theorem tz_bg_len {b : Nat → Nat} {n : Nat} : ∀ (k p : Nat), (tz_bg b n k p).length ≤ k
  | 0, _ => Nat.le_refl _
  | k + 1, p => by
    have := tz_bg_len (b := b) (n := n) k (p + 1)
    unfold tz_bg
    split
    · rw [List.length_cons]
      omega
    · omega
/-- loops' fuel -/
theorem sp_loop_fu {α : Type} {sub : sp_P α} {sep : Nat} {op : α → α → α} (hs : ∀ ts a r, sub ts = some (a, r) → r.length ≤ ts.length) : ∀ (n m : Nat) (a : α) (ts : List sp_T), ts.length < n → ts.length < m → sp_loop sub sep op n a ts = sp_loop sub sep op m a ts
  | 0, _, _, _, h, _ => absurd h (Nat.not_lt_zero _)
  | _ + 1, 0, _, _, _, h => absurd h (Nat.not_lt_zero _)
  | n + 1, m + 1, a, [], _, _ => rfl
  | n + 1, m + 1, a, (w, x) :: r, h1, h2 => by
    rw [List.length_cons] at h1 h2
    unfold sp_loop
    dsimp only
    split
    · split
      · rename_i b r2 e
        have := hs _ _ _ e
        exact sp_loop_fu hs n m _ r2 (by omega) (by omega)
      · rfl
    · rfl
theorem sp_loop_le {α : Type} {sub : sp_P α} {sep : Nat} {op : α → α → α} (hs : ∀ ts a r, sub ts = some (a, r) → r.length ≤ ts.length) : ∀ (n : Nat) (a : α) (ts : List sp_T) (b : α) (r : List sp_T), sp_loop sub sep op n a ts = some (b, r) → r.length ≤ ts.length
  | 0, a, ts, b, r, h => by
    cases h
    exact Nat.le_refl _
  | n + 1, a, [], b, r, h => by
    cases h
    exact Nat.le_refl _
  | n + 1, a, (w, x) :: q, b, r, h => by
    unfold sp_loop at h
    dsimp only at h
    split at h
    · split at h
      · rename_i c r2 e
        have h1 := hs _ _ _ e
        have h2 := sp_loop_le hs n _ r2 b r h
        rw [List.length_cons]
        omega
      · cases h
    · cases h
      exact Nat.le_refl _
theorem sp_many_le {α : Type} {sub : sp_P α} {sep : Nat} {op : α → α → α} (hs : ∀ ts a r, sub ts = some (a, r) → r.length ≤ ts.length) : ∀ (ts : List sp_T) (b : α) (r : List sp_T), sp_many sub sep op ts = some (b, r) → r.length ≤ ts.length := by
  intro ts b r h
  unfold sp_many at h
  split at h
  · rename_i a q e
    have h1 := hs _ _ _ e
    have h2 := sp_loop_le hs _ _ _ _ _ h
    omega
  · cases h
theorem sp_fact_le : ∀ (ts : List sp_T) (a : sp_E → Int64) (r : List sp_T), sp_fact ts = some (a, r) → r.length ≤ ts.length := by
  intro ts a r h
  unfold sp_fact at h
  split at h
  · split at h
    · cases h
      exact Nat.le_succ _
    · cases h
  · cases h
theorem sp_part_le : ∀ (ts : List sp_T) (a : sp_E → Int64) (r : List sp_T), sp_part ts = some (a, r) → r.length ≤ ts.length := by
  intro ts a r h
  unfold sp_part at h
  split at h
  · rename_i w n q
    split at h
    · split at h
      · cases h
      · unfold sp_times at h
        split at h
        · rename_i w2 x2 r2
          split at h
          · split at h
            · rename_i f r3 e
              cases h
              have := sp_fact_le _ _ _ e
              simp only [List.length_cons]
              omega
            · cases h
          · cases h
            simp only [List.length_cons]
            omega
        · cases h
          simp only [List.length_cons, List.length_nil]
          omega
    · exact sp_fact_le _ _ _ h
  · cases h
theorem sp_sum_le : ∀ (ts : List sp_T) (a : sp_E → Int64) (r : List sp_T), sp_sum ts = some (a, r) → r.length ≤ ts.length := sp_many_le sp_part_le
theorem sp_cmp_le : ∀ (ts : List sp_T) (a : sp_E → Bool) (r : List sp_T), sp_cmp ts = some (a, r) → r.length ≤ ts.length := by
  intro ts a r h
  unfold sp_cmp at h
  split at h
  · rename_i f w x r2 e
    have h1 := sp_sum_le _ _ _ e
    rw [List.length_cons] at h1
    split at h
    · split at h
      · rename_i g r3 e3
        cases h
        have h2 := sp_sum_le _ _ _ e3
        omega
      · cases h
    · cases h
  · cases h
theorem sp_tag_le {w : Nat} : ∀ (ts : List sp_T) (a : sp_E → Bool) (r : List sp_T), sp_tag w ts = some (a, r) → r.length ≤ ts.length := by
  intro ts a r h
  unfold sp_tag at h
  split at h
  · split at h
    · split at h
      · cases h
        exact Nat.le_succ _
      · cases h
    · cases h
  · cases h
    exact Nat.le_refl _
theorem sp_at_le {m : Nat} {A C : sp_P (sp_E → Bool)} (hA : ∀ ts a r, A ts = some (a, r) → r.length ≤ ts.length) (hC : ∀ ts a r, C ts = some (a, r) → r.length ≤ ts.length) : ∀ (ts : List sp_T) (a : sp_E → Bool) (r : List sp_T), sp_at m A C ts = some (a, r) → r.length ≤ ts.length := by
  intro ts a r h
  unfold sp_at at h
  split at h
  · rename_i w x q
    split at h
    · split at h
      · cases h
      · split at h
        · rename_i f r2 e
          cases h
          have := hA _ _ _ e
          rw [List.length_cons]
          omega
        · cases h
    · split at h
      · split at h
        · cases h
        · split at h
          · rename_i f w2 x2 r2 e
            have := hC _ _ _ e
            rw [List.length_cons] at this
            split at h
            · cases h
              rw [List.length_cons]
              omega
            · cases h
          · cases h
      · split at h
        · have := sp_tag_le _ _ _ h
          rw [List.length_cons]
          omega
        · exact sp_cmp_le _ _ _ h
  · cases h
theorem sp_A_le : ∀ (m : Nat) (ts : List sp_T) (a : sp_E → Bool) (r : List sp_T), sp_A m ts = some (a, r) → r.length ≤ ts.length
  | 0 => sp_at_le (fun _ _ _ h => by cases h) (fun _ _ _ h => by cases h)
  | m + 1 => sp_at_le (sp_A_le m) (sp_many_le (sp_many_le (sp_A_le m)))
theorem spx_all_le (m : Nat) : ∀ (ts : List sp_T) (a : sp_E → Bool) (r : List sp_T), spx_all (sp_A m) ts = some (a, r) → r.length ≤ ts.length := sp_many_le (sp_A_le m)
theorem sp_C_le (m : Nat) : ∀ (ts : List sp_T) (a : sp_E → Bool) (r : List sp_T), sp_C m ts = some (a, r) → r.length ≤ ts.length := sp_many_le (spx_all_le m)
