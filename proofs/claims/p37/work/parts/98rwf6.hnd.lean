section
/-! CLAIMS: a tree in which no PART has the word unseen says the same whatever is unseen -/
def nu17 {α : Type} (f : sp_E → α) : Prop := ∀ E E' : sp_E, (∀ w, ¬ w = 17 → E.1 w = E'.1 w) → E.2 = E'.2 → f E = f E'
section AWA
variable {K : et_K} {G : eg_G} {lo0 : Nat}
theorem fold_eq {E E' : sp_E} : ∀ (ps : List (Nat × (sp_E → Int64))) (s : Int64), (∀ p ∈ ps, p.2 E = p.2 E') → ps.foldl (fun s p => s + p.2 E) s = ps.foldl (fun s p => s + p.2 E') s
  | [], _, _ => rfl
  | p :: ps, s, h => by
    show ps.foldl (fun s p => s + p.2 E) (s + p.2 E) = ps.foldl (fun s p => s + p.2 E') (s + p.2 E')
    rw [h p List.mem_cons_self]
    exact fold_eq ps _ (fun q hq => h q (List.mem_cons_of_mem _ hq))
theorem sm.nu {lo hi : Nat} {v : Value} {f : sp_E → Int64} (hH : et_H et_TT K G) (h : sm G lo hi v f) (hv : r6 K v) (hl : lo0 ≤ lo) (hu : ∀ a, lo0 ≤ a → K a = some 6 → ¬ et_pl (eg_at G a) 4 = some (.ref 17)) : nu17 f := by
  obtain ⟨ps, h1, h2, h3⟩ := h
  have hk := h1.k6 hH hv
  intro E E' q1 q2
  rw [h3]
  refine fold_eq ps 0 (fun p hp => ?_)
  have kp : K p.1 = some 6 := hk p.1 (List.mem_map.mpr ⟨p, hp, rfl⟩)
  obtain ⟨b1, b2, n, hn, -, hw⟩ := h2 p hp
  rcases hw with ⟨-, e⟩ | ⟨w, -, h4, e⟩
  · rw [e]
  · rw [e]
    show Int64.ofNat n * E.1 w = Int64.ofNat n * E'.1 w
    rw [q1 w (fun ew => hu p.1 (by omega) kp (by rw [← ew]; exact h4))]
theorem any_eq {α : Type} {f g : α → Bool} : ∀ (cs : List α), (∀ c ∈ cs, f c = g c) → cs.any f = cs.any g ∧ cs.all f = cs.all g
  | [], _ => ⟨rfl, rfl⟩
  | c :: cs, h => by
    obtain ⟨h1, h2⟩ := any_eq cs (fun q hq => h q (List.mem_cons_of_mem _ hq))
    have h3 := h c List.mem_cons_self
    refine ⟨?_, ?_⟩
    · show (f c || cs.any f) = (g c || cs.any g)
      rw [h3, h1]
    · show (f c && cs.all f) = (g c && cs.all g)
      rw [h3, h2]
theorem dn.nu (hH : et_H et_TT K G) (hu : ∀ a, lo0 ≤ a → K a = some 6 → ¬ et_pl (eg_at G a) 4 = some (.ref 17)) : ∀ {n lo hi b : Nat} {f : sp_E → Bool}, dn G n lo hi b f → K b = some 6 → lo0 ≤ lo → nu17 f
  | 0, _, _, _, _, h, _, _ => absurd h id
  | n + 1, lo, hi, b, f, ⟨hb, h⟩, kb, hl => by
    rcases h with ⟨w, v, h1, h2, h3, h4, h5, h6⟩ | ⟨k, A, B, p, q, h1, h2, h3, h4, h5, h6, h7⟩ | ⟨k, cs, p, h1, h2, h3, h4, h5, h6, h7, h8⟩
    · intro E E' _ q2
      rw [h6]
      show (if w = 2 then E.2.2 v else E.2.1 w) = (if w = 2 then E'.2.2 v else E'.2.1 w)
      rw [q2]
    · have nA := h5.nu hH (hn_fld (.inl rfl) hH kb h3) hl hu
      have nB := h6.nu hH (hn_fld (.inr rfl) hH kb h4) (by omega) hu
      intro E E' q1 q2
      rw [h7]
      show (if k = 4 then decide (A E < B E) else decide (B E < A E)) = (if k = 4 then decide (A E' < B E') else decide (B E' < A E'))
      rw [nA E E' q1 q2, nB E E' q1 q2]
    · have hk := h4.k6 hH (hn_fld (.inl rfl) hH kb h3)
      intro E E' q1 q2
      rw [h8]
      have hc : ∀ c ∈ cs, c.2.2 E = c.2.2 E' := fun c hc => (h5 c hc).2.2.nu hH hu (hk c.1 (List.mem_map.mpr ⟨c, hc, rfl⟩)) (by have := (h5 c hc).1; omega) E E' q1 q2
      obtain ⟨e1, e2⟩ := any_eq cs hc
      show (if k = 0 then cs.any (fun c => c.2.2 E) else if k = 1 then cs.all (fun c => c.2.2 E) else !(cs.all (fun c => c.2.2 E))) = (if k = 0 then cs.any (fun c => c.2.2 E') else if k = 1 then cs.all (fun c => c.2.2 E') else !(cs.all (fun c => c.2.2 E')))
      rw [e1, e2]
end AWA
/-! a CLAIM's text speaks of right, cards, unseen, shown, knobs, blind alone -/
def cl02 {α : Type} (f : sp_E → α) : Prop := ∀ E E' : sp_E, (∀ w, 15 ≤ w → w ≤ 19 → E.1 w = E'.1 w) → (∀ w, 14 ≤ w → w ≤ 14 → E.2.1 w = E'.2.1 w) → True → f E = f E'
def okT2 (ts : List sp_T) : Prop := ∀ t ∈ ts, (14 ≤ t.1 ∧ t.1 ≤ 19) ∨ 20 ≤ t.1
def pcl2 {α : Type} (P : sp_P (sp_E → α)) : Prop := ∀ ts f r, okT2 ts → P ts = some (f, r) → cl02 f ∧ okT2 r
theorem okT2.tl {t : sp_T} {r : List sp_T} (h : okT2 (t :: r)) : okT2 r := fun x hx => h x (List.mem_cons_of_mem _ hx)
theorem okT2.hd {w : Nat} {n : Option Nat} {r : List sp_T} (h : okT2 ((w, n) :: r)) : (14 ≤ w ∧ w ≤ 19) ∨ 20 ≤ w := h (w, n) List.mem_cons_self
theorem fact_cl2 : pcl2 sp_fact := fun ts f r h e => by
  cases ts with
  | nil => cases e
  | cons t ts =>
    obtain ⟨w, n⟩ := t
    unfold sp_fact at e
    dsimp only at e
    by_cases hw : sp_fw w = true
    · rw [if_pos hw] at e
      cases e
      have h1 := h.hd
      unfold sp_fw at hw
      simp only [Bool.or_eq_true, Bool.and_eq_true, Nat.ble_eq] at hw
      exact ⟨fun E E' a _ _ => a w (by omega) (by omega), h.tl⟩
    · rw [if_neg hw] at e
      cases e
theorem times_cl2 {v : Nat} : pcl2 (sp_times v) := fun ts f r h e => by
  cases ts with
  | nil =>
    cases e
    exact ⟨fun _ _ _ _ _ => rfl, h⟩
  | cons t ts =>
    obtain ⟨w, n⟩ := t
    unfold sp_times at e
    dsimp only at e
    by_cases hw : w = 28
    · rw [if_pos hw] at e
      cases hs : sp_fact ts with
      | none =>
        rw [hs] at e
        cases e
      | some p =>
        obtain ⟨g, r3⟩ := p
        rw [hs] at e
        cases e
        obtain ⟨h1, h2⟩ := fact_cl2 _ _ _ h.tl hs
        exact ⟨fun E E' a b c => congrArg (fun z => Int64.ofNat v * z) (h1 E E' a b c), h2⟩
    · rw [if_neg hw] at e
      cases e
      exact ⟨fun _ _ _ _ _ => rfl, h⟩
theorem part_cl2 : pcl2 sp_part := fun ts f r h e => by
  cases ts with
  | nil => cases e
  | cons t ts =>
    obtain ⟨w, n⟩ := t
    unfold sp_part at e
    dsimp only at e
    by_cases hw : w = 33
    · rw [if_pos hw] at e
      cases n with
      | none => cases e
      | some v => exact times_cl2 _ _ _ h.tl e
    · rw [if_neg hw] at e
      exact fact_cl2 _ _ _ h e
theorem loop_cl2 {α : Type} {sub : sp_P (sp_E → α)} {sep : Nat} {op : (sp_E → α) → (sp_E → α) → (sp_E → α)} (hs : pcl2 sub) (hop : ∀ a b, cl02 a → cl02 b → cl02 (op a b)) : ∀ (n : Nat) (a : sp_E → α) (ts : List sp_T) (f : sp_E → α) (r : List sp_T), cl02 a → okT2 ts → sp_loop sub sep op n a ts = some (f, r) → cl02 f ∧ okT2 r
  | 0, a, ts, f, r, ha, h, e => by
    unfold sp_loop at e
    cases e
    exact ⟨ha, h⟩
  | n + 1, a, ts, f, r, ha, h, e => by
    cases ts with
    | nil =>
      unfold sp_loop at e
      cases e
      exact ⟨ha, h⟩
    | cons t ts =>
      obtain ⟨w, o⟩ := t
      unfold sp_loop at e
      dsimp only at e
      by_cases hw : w = sep
      · rw [if_pos hw] at e
        cases hq : sub ts with
        | none =>
          rw [hq] at e
          cases e
        | some p =>
          obtain ⟨g, r3⟩ := p
          rw [hq] at e
          obtain ⟨h1, h2⟩ := hs _ _ _ h.tl hq
          exact loop_cl2 hs hop n _ _ _ _ (hop _ _ ha h1) h2 e
      · rw [if_neg hw] at e
        cases e
        exact ⟨ha, h⟩
theorem many_cl2 {α : Type} {sub : sp_P (sp_E → α)} {sep : Nat} {op : (sp_E → α) → (sp_E → α) → (sp_E → α)} (hs : pcl2 sub) (hop : ∀ a b, cl02 a → cl02 b → cl02 (op a b)) : pcl2 (sp_many sub sep op) := fun ts f r h e => by
  unfold sp_many at e
  cases hq : sub ts with
  | none =>
    rw [hq] at e
    cases e
  | some p =>
    obtain ⟨g, r3⟩ := p
    rw [hq] at e
    obtain ⟨h1, h2⟩ := hs _ _ _ h hq
    exact loop_cl2 hs hop 500 _ _ _ _ h1 h2 e
theorem sum_cl2 : pcl2 sp_sum := many_cl2 part_cl2 (fun a b ha hb E E' x y z => by
  show a E + b E = a E' + b E'
  rw [ha E E' x y z, hb E E' x y z])
theorem cmp_cl2 : pcl2 sp_cmp := fun ts f r h e => by
  unfold sp_cmp at e
  cases hq : sp_sum ts with
  | none =>
    rw [hq] at e
    cases e
  | some p =>
    obtain ⟨a, l⟩ := p
    rw [hq] at e
    obtain ⟨h1, h2⟩ := sum_cl2 _ _ _ h hq
    cases l with
    | nil => cases e
    | cons t r2 =>
      obtain ⟨w, o⟩ := t
      dsimp only at e
      by_cases hw : w = 25 ∨ w = 26
      · rw [if_pos hw] at e
        cases hq2 : sp_sum r2 with
        | none =>
          rw [hq2] at e
          cases e
        | some p2 =>
          obtain ⟨b, r3⟩ := p2
          rw [hq2] at e
          cases e
          obtain ⟨h3, h4⟩ := sum_cl2 _ _ _ h2.tl hq2
          refine ⟨fun E E' x y z => ?_, h4⟩
          show (if w = 25 then decide (a E < b E) else decide (b E < a E)) = (if w = 25 then decide (a E' < b E') else decide (b E' < a E'))
          rw [h1 E E' x y z, h3 E E' x y z]
      · rw [if_neg hw] at e
        cases e
theorem tag_cl2 {w : Nat} (hw : 14 ≤ w ∧ w ≤ 14) : pcl2 (sp_tag w) := fun ts f r h e => by
  unfold sp_tag at e
  have h2 : ¬ w = 2 := by omega
  rw [if_neg h2] at e
  cases e
  exact ⟨fun E E' _ y _ => y w hw.1 hw.2, h⟩
theorem at_cl2 {m : Nat} {A C : sp_P (sp_E → Bool)} (hA : pcl2 A) (hC : pcl2 C) : pcl2 (sp_at m A C) := fun ts f r h e => by
  cases ts with
  | nil => cases e
  | cons t ts =>
    obtain ⟨w, o⟩ := t
    unfold sp_at at e
    dsimp only at e
    by_cases w22 : w = 22
    · rw [if_pos w22] at e
      by_cases hm : m = 0
      · rw [if_pos hm] at e
        cases e
      · rw [if_neg hm] at e
        cases hq : A ts with
        | none =>
          rw [hq] at e
          cases e
        | some p =>
          obtain ⟨g, r2⟩ := p
          rw [hq] at e
          cases e
          obtain ⟨h1, h2⟩ := hA _ _ _ h.tl hq
          exact ⟨fun E E' x y z => congrArg (fun q => !q) (h1 E E' x y z), h2⟩
    · rw [if_neg w22] at e
      by_cases w23 : w = 23
      · rw [if_pos w23] at e
        by_cases hm : m = 0
        · rw [if_pos hm] at e
          cases e
        · rw [if_neg hm] at e
          cases hq : C ts with
          | none =>
            rw [hq] at e
            cases e
          | some p =>
            obtain ⟨g, l⟩ := p
            rw [hq] at e
            obtain ⟨h1, h2⟩ := hC _ _ _ h.tl hq
            cases l with
            | nil => cases e
            | cons t2 r2 =>
              obtain ⟨w2, o2⟩ := t2
              dsimp only at e
              by_cases w24 : w2 = 24
              · rw [if_pos w24] at e
                cases e
                exact ⟨h1, h2.tl⟩
              · rw [if_neg w24] at e
                cases e
      · rw [if_neg w23] at e
        by_cases hw : sp_tw w = true
        · rw [if_pos hw] at e
          have h1 := h.hd
          have hw2 : 14 ≤ w ∧ w ≤ 14 := by
            unfold sp_tw at hw
            simp only [Bool.or_eq_true, Nat.ble_eq, beq_iff_eq] at hw
            omega
          exact tag_cl2 hw2 _ _ _ h.tl e
        · rw [if_neg hw] at e
          exact cmp_cl2 _ _ _ h e
theorem and_cl2 (a b : sp_E → Bool) (ha : cl02 a) (hb : cl02 b) : cl02 (fun e => a e && b e) := fun E E' x y z => by
  show (a E && b E) = (a E' && b E')
  rw [ha E E' x y z, hb E E' x y z]
theorem or_cl2 (a b : sp_E → Bool) (ha : cl02 a) (hb : cl02 b) : cl02 (fun e => a e || b e) := fun E E' x y z => by
  show (a E || b E) = (a E' || b E')
  rw [ha E E' x y z, hb E E' x y z]
theorem any_cl2 {A : sp_P (sp_E → Bool)} (hA : pcl2 A) : pcl2 (spx_any A) := many_cl2 (many_cl2 hA and_cl2) or_cl2
theorem none_cl2 : pcl2 (fun _ => none : sp_P (sp_E → Bool)) := fun _ _ _ _ e => by cases e
theorem A_cl2 : ∀ m, pcl2 (sp_A m)
  | 0 => at_cl2 none_cl2 none_cl2
  | m + 1 => at_cl2 (A_cl2 m) (any_cl2 (A_cl2 m))
theorem one_cl2 {ts : List sp_T} {f : sp_E → Bool} (h : okT2 ts) (e : sp_one ts = some f) : cl02 f := by
  unfold sp_one at e
  cases hq : sp_C 6 ts with
  | none =>
    rw [hq] at e
    cases e
  | some p =>
    obtain ⟨g, l⟩ := p
    rw [hq] at e
    cases l with
    | nil =>
      cases e
      exact (any_cl2 (A_cl2 6) _ _ _ h hq).1
    | cons _ _ => cases e
theorem ok02 : ∀ w ∈ List.range 36, tz_ok 2 w = true → (14 ≤ w ∧ w ≤ 19) ∨ 20 ≤ w := by decide +kernel
theorem ts_ok2 {b : Nat → Nat} {n p : Nat} : okT2 (tz_ts 2 b n p) := fun t ht => by
  unfold tz_ts at ht
  obtain ⟨i, -, rfl⟩ := List.mem_map.mp ht
  show (14 ≤ tz_wd 2 b n i ∧ tz_wd 2 b n i ≤ 19) ∨ 20 ≤ tz_wd 2 b n i
  unfold tz_wd
  by_cases h : tz_d (b i) = true
  · rw [if_pos h]
    exact .inr (by decide)
  · rw [if_neg h]
    rcases fd_ok (pl := 2) (b := b) (i := i) (e := tz_end b n i) 36 0 with h1 | ⟨h1, h2⟩
    · rw [h1]
      exact .inr (by decide)
    · exact ok02 _ (List.mem_range.mpr (by omega)) h1
end
section
/-! CLAIMS of both sides, as the law keeps them -/
/-- a CLAIM: its EYE, its RULE, what its text says -/
abbrev clT := Nat × (Nat × (sp_E → Bool))
def clC (K : et_K) (G : eg_G) (q : Nat) (L : clT) : Prop := K q = some 2 ∧ ∃ bb fl : Nat, (et_pl (eg_at G q) 0 = some (.ref bb) ∧ K bb = some 6 ∧ ∃ lo hi, dn G 15 lo hi bb L.2.2) ∧ (et_pl (eg_at G q) 1 = some (.int (Int32.ofNat L.1)) ∧ et_pl (eg_at G q) 2 = some (.int (Int32.ofNat L.2.1)) ∧ et_pl (eg_at G q) 3 = some (.int (Int32.ofNat fl))) ∧ fl ≤ 1 ∧ (fl = 0 → nu17 L.2.2)
def cm_k (M : et_M) : Bool := no_t M 6 && no_t M 2
def cqE (K : et_K) (G : eg_G) (ca c e0 r0 : Nat) (T : Nat → Nat) (L : Nat → clT) : Prop := ∀ k, k < c → (et_pl (eg_at G ca) k = some (.ref (T k)) ∧ clC K G (T k) (L k)) ∧ cl02 (L k).2.2 ∧ (L k).1 < e0 ∧ (L k).2.1 < r0
def cqX (G : eg_G) (a c : Nat) (L : Nat → clT) : Prop := ∀ k, k < c → (et_pl (eg_at G a) (114 + 2 * k) = some (.int (Int32.ofNat (L k).1)) ∧ et_pl (eg_at G a) (115 + 2 * k) = some (.int (Int32.ofNat (L k).2.1))) ∧ txP G a (126 + 841 * (8 + k)) 2 (L k).2.2
def cqK (K : et_K) (s0 s1 t0 t1 aw ai : Nat) : Prop := (K s0 = some 10 ∧ K s1 = some 10 ∧ K t0 = some 39 ∧ K t1 = some 39) ∧ (K aw = some 46 ∧ K ai = some 47) ∧ ¬ t0 = t1 ∧ ¬ s0 = s1
def cq (K : et_K) (G : eg_G) (s0 s1 aw ai c i e0 r0 e1 r1 : Nat) : Prop := ∃ (t0 t1 : Nat) (T0 T1 : Nat → Nat) (L0 L1 : Nat → clT), cqK K s0 s1 t0 t1 aw ai ∧ (et_pl (eg_at G s0) 10 = some (.ref t0) ∧ et_pl (eg_at G s1) 10 = some (.ref t1)) ∧ (c ≤ 6 ∧ i ≤ 6) ∧ (cqE K G t0 c e0 r0 T0 L0 ∧ cqX G aw c L0) ∧ cqE K G t1 i e1 r1 T1 L1 ∧ cqX G ai i L1
/-- the class has a new CLAIM, the reference not yet -/
def cqA (K : et_K) (G : eg_G) (s0 s1 aw ai c i e0 r0 e1 r1 : Nat) (ls : clT) : Prop := ∃ (t0 t1 : Nat) (T0 T1 : Nat → Nat) (L0 L1 : Nat → clT), cqK K s0 s1 t0 t1 aw ai ∧ (et_pl (eg_at G s0) 10 = some (.ref t0) ∧ et_pl (eg_at G s1) 10 = some (.ref t1)) ∧ (c + 1 ≤ 6 ∧ i ≤ 6) ∧ (cqE K G t0 (c + 1) e0 r0 T0 L0 ∧ cqX G aw c L0) ∧ (cqE K G t1 i e1 r1 T1 L1 ∧ cqX G ai i L1) ∧ L0 c = ls
/-- what a call may touch while c CLAIMS stay -/
def cqS (G : eg_G) (s0 c b j t : Nat) : Prop := (¬ t = 6 ∧ ¬ t = 2) ∧ (t = 10 → ¬ j = 10) ∧ (t = 39 → et_pl (eg_at G s0) 10 = some (.ref b) ∧ c ≤ j) ∧ (t = 46 → (j < 114 ∨ 114 + 2 * c ≤ j) ∧ (j < 6854 ∨ 6854 + 841 * c ≤ j)) ∧ (t = 47 → j < 114 ∨ (126 ≤ j ∧ j < 6854) ∨ 11900 ≤ j)
def cq_k (M : et_M) : Bool := cm_k M && (no_t M 39 && (!et_mm M 10 10 && ((rg_k M 46 114 125 && rg_k M 46 6854 11899) && (rg_k M 47 114 125 && rg_k M 47 6854 11899))))
def cr_k (M : et_M) : Bool := cm_k M && (!et_mm M 10 10 && ((rg_k M 46 114 125 && rg_k M 46 6854 11899) && (rg_k M 47 114 125 && rg_k M 47 6854 11899)))
def cs_k (M : et_M) : Bool := cm_k M && (no_t M 39 && !et_mm M 10 10)
section AXA
variable {K K' : et_K} {G G' : eg_G} {M : et_M} {S : Nat → Nat → Prop} {s0 s1 aw ai t0 t1 ta a a' c i h t n q th tn e0 r0 e1 r1 : Nat} {T : Nat → Nat} {L : Nat → clT} {ls : clT}
theorem clC.fr (h : clC K G q ls) (hx : et_ex K K') (hH : et_H et_TT K G) (hf : et_fr M K G G') (hk : cm_k M = true) : clC K' G' q ls := by
  unfold cm_k at hk
  rw [Bool.and_eq_true] at hk
  obtain ⟨kq, bb, fl, ⟨h0, kb, lo, hi, hd⟩, ⟨h1, h2, h3⟩, h4⟩ := h
  exact ⟨hx _ _ kq, bb, fl, ⟨(hf.2 q 2 kq 0 (no_mm hk.2)).trans h0, hx _ _ kb, lo, hi, hd.k6 hH (n6.fr hf hk.1) kb⟩, ⟨(hf.2 q 2 kq 1 (no_mm hk.2)).trans h1, (hf.2 q 2 kq 2 (no_mm hk.2)).trans h2, (hf.2 q 2 kq 3 (no_mm hk.2)).trans h3⟩, h4⟩
theorem clC.xs (h : clC K G q ls) (hx : et_ex K K') (hH : et_H et_TT K G) (x : xf S G G') (hS : ∀ b j t, K b = some t → S b j → ¬ t = 6 ∧ ¬ t = 2) : clC K' G' q ls := by
  obtain ⟨kq, bb, fl, ⟨h0, kb, lo, hi, hd⟩, ⟨h1, h2, h3⟩, h4⟩ := h
  have lt := (hH.2.2 _ _ kq).1
  have ns : ∀ j, ¬ S q j := fun j hs => (hS _ _ _ kq hs).2 rfl
  exact ⟨hx _ _ kq, bb, fl, ⟨(x.2 q 0 lt (ns 0)).trans h0, hx _ _ kb, lo, hi, hd.k6 hH (n6.xs hH x (fun b j hs k6 => (hS _ _ _ k6 hs).1 rfl)) kb⟩, ⟨(x.2 q 1 lt (ns 1)).trans h1, (x.2 q 2 lt (ns 2)).trans h2, (x.2 q 3 lt (ns 3)).trans h3⟩, h4⟩
theorem cqS.r (t : Nat) {b j : Nat} (h1 : ¬ t = 6 ∧ ¬ t = 2) (h2 : ¬ t = 10 ∧ ¬ t = 39 ∧ ¬ t = 46 ∧ ¬ t = 47) : cqS G s0 c b j t := ⟨h1, fun h => absurd h h2.1, fun h => absurd h h2.2.1, fun h => absurd h h2.2.2.1, fun h => absurd h h2.2.2.2⟩
theorem cqK.ex (h : cqK K s0 s1 t0 t1 aw ai) (hx : et_ex K K') : cqK K' s0 s1 t0 t1 aw ai := ⟨⟨hx _ _ h.1.1, hx _ _ h.1.2.1, hx _ _ h.1.2.2.1, hx _ _ h.1.2.2.2⟩, ⟨hx _ _ h.2.1.1, hx _ _ h.2.1.2⟩, h.2.2⟩
theorem cqE.fr (h : cqE K G ta c e0 r0 T L) (kt : K ta = some 39) (hx : et_ex K K') (hH : et_H et_TT K G) (hf : et_fr M K G G') (h1 : cm_k M = true) (h2 : no_t M 39 = true) : cqE K' G' ta c e0 r0 T L := fun k hk => ⟨⟨(hf.2 ta 39 kt k (no_mm h2)).trans (h k hk).1.1, (h k hk).1.2.fr hx hH hf h1⟩, (h k hk).2⟩
theorem cqE.mv (h : cqE K G ta c e0 r0 T L) (hx : et_ex K K') (hH : et_H et_TT K G) (hf : et_fr M K G G') (h1 : cm_k M = true) (hg : ∀ k, k < c → et_pl (eg_at G' a) k = et_pl (eg_at G ta) k) : cqE K' G' a c e0 r0 T L := fun k hk => ⟨⟨(hg k hk).trans (h k hk).1.1, (h k hk).1.2.fr hx hH hf h1⟩, (h k hk).2⟩
theorem cqE.le (h : cqE K G ta c e0 r0 T L) (he : e0 ≤ e1) (hr : r0 ≤ r1) : cqE K G ta c e1 r1 T L := fun k hk => ⟨(h k hk).1, (h k hk).2.1, Nat.lt_of_lt_of_le (h k hk).2.2.1 he, Nat.lt_of_lt_of_le (h k hk).2.2.2 hr⟩
theorem cqX.fr (h : cqX G a c L) (ka : K a = some t) (hc : c ≤ 6) (hf : et_fr M K G G') (hM : rg_k M t 114 125 = true) (hN : rg_k M t 6854 11899 = true) : cqX G' a c L := fun k hk => ⟨⟨(hf.2 a t ka _ (rg_mm hM (by omega) (by omega))).trans (h k hk).1.1, (hf.2 a t ka _ (rg_mm hM (by omega) (by omega))).trans (h k hk).1.2⟩, (h k hk).2.mp (fun j hj => hf.2 a t ka _ (rg_mm hN (by omega) (by omega)))⟩
theorem cqX.mv (h : cqX G a c L) (hc : c ≤ 6) (hg : ∀ k, k < 11900 → et_pl (eg_at G' a') k = et_pl (eg_at G a) k) : cqX G' a' c L := fun k hk => ⟨⟨(hg _ (by omega)).trans (h k hk).1.1, (hg _ (by omega)).trans (h k hk).1.2⟩, (h k hk).2.mp (fun j hj => hg _ (by omega))⟩
theorem cqX.xs (h : cqX G a c L) (hg : ∀ j, 114 ≤ j → j < 114 + 2 * c → et_pl (eg_at G' a) j = et_pl (eg_at G a) j) (hg2 : ∀ j, 6854 ≤ j → j < 6854 + 841 * c → et_pl (eg_at G' a) j = et_pl (eg_at G a) j) : cqX G' a c L := fun k hk => ⟨⟨(hg _ (by omega) (by omega)).trans (h k hk).1.1, (hg _ (by omega) (by omega)).trans (h k hk).1.2⟩, (h k hk).2.mp (fun j hj => hg2 _ (by omega) (by omega))⟩
theorem cq.fr (h : cq K G s0 s1 aw ai c i e0 r0 e1 r1) (hx : et_ex K K') (hH : et_H et_TT K G) (hf : et_fr M K G G') (hk : cq_k M = true) : cq K' G' s0 s1 aw ai c i e0 r0 e1 r1 := by
  unfold cq_k at hk
  rw [Bool.and_eq_true, Bool.and_eq_true, Bool.and_eq_true, Bool.and_eq_true, Bool.and_eq_true, Bool.and_eq_true] at hk
  obtain ⟨q1, q2, q3, ⟨q4, q5⟩, q6, q7⟩ := hk
  obtain ⟨t0, t1, T0, T1, L0, L1, hK, ⟨p0, p1⟩, ⟨c4, i4⟩, ⟨g0, w0⟩, g1, w1⟩ := h
  exact ⟨t0, t1, T0, T1, L0, L1, hK.ex hx, ⟨(hf.2 s0 10 hK.1.1 10 (by simpa using q3)).trans p0, (hf.2 s1 10 hK.1.2.1 10 (by simpa using q3)).trans p1⟩, ⟨c4, i4⟩, ⟨g0.fr hK.1.2.2.1 hx hH hf q1 q2, w0.fr hK.2.1.1 c4 hf q4 q5⟩, g1.fr hK.1.2.2.2 hx hH hf q1 q2, w1.fr hK.2.1.2 i4 hf q6 q7⟩
theorem cq.le {e9 r9 : Nat} (h : cq K G s0 s1 aw ai c i e0 r0 e1 r1) (he : e0 ≤ e9) (hr : r0 ≤ r9) : cq K G s0 s1 aw ai c i e9 r9 e1 r1 := by
  obtain ⟨t0, t1, T0, T1, L0, L1, hK, p, cc, ⟨g0, w0⟩, g1⟩ := h
  exact ⟨t0, t1, T0, T1, L0, L1, hK, p, cc, ⟨g0.le he hr, w0⟩, g1⟩
theorem cqE.xs (h : cqE K G ta c e0 r0 T L) (hx : et_ex K K') (hH : et_H et_TT K G) (x : xf S G G') (hS : ∀ b j t, K b = some t → S b j → cqS G s0 n b j t) (hg : ∀ k, k < c → et_pl (eg_at G' ta) k = et_pl (eg_at G ta) k) : cqE K' G' ta c e0 r0 T L := fun k hk => ⟨⟨(hg k hk).trans (h k hk).1.1, (h k hk).1.2.xs hx hH x (fun b j t kb hs => (hS b j t kb hs).1)⟩, (h k hk).2⟩
theorem cq.xs (h : cq K G s0 s1 aw ai c i e0 r0 e1 r1) (hH : et_H et_TT K G) (hx : et_ex K K') (x : xf S G G') (hS : ∀ b j t, K b = some t → S b j → cqS G s0 c b j t) : cq K' G' s0 s1 aw ai c i e0 r0 e1 r1 := by
  obtain ⟨t0, t1, T0, T1, L0, L1, hK, ⟨p0, p1⟩, ⟨c4, i4⟩, ⟨g0, w0⟩, g1, w1⟩ := h
  have lt : ∀ a t, K a = some t → a < G.2 := fun a t ha => (hH.2.2 a t ha).1
  obtain ⟨⟨k0, k1, k2, k3⟩, ⟨k4, k5⟩, n1, n2⟩ := hK
  refine ⟨t0, t1, T0, T1, L0, L1, cqK.ex ⟨⟨k0, k1, k2, k3⟩, ⟨k4, k5⟩, n1, n2⟩ hx, ⟨(x.2 s0 10 (lt _ _ k0) (fun hs => (hS _ _ _ k0 hs).2.1 rfl rfl)).trans p0, (x.2 s1 10 (lt _ _ k1) (fun hs => (hS _ _ _ k1 hs).2.1 rfl rfl)).trans p1⟩, ⟨c4, i4⟩, ⟨g0.xs hx hH x hS (fun k hk => x.2 t0 k (lt _ _ k2) (fun hs => ?_)), w0.xs (fun j j1 j2 => x.2 aw j (lt _ _ k4) (fun hs => ?_)) (fun j j1 j2 => x.2 aw j (lt _ _ k4) (fun hs => ?_))⟩, g1.xs hx hH x hS (fun k hk => x.2 t1 k (lt _ _ k3) (fun hs => ?_)), w1.xs (fun j j1 j2 => x.2 ai j (lt _ _ k5) (fun hs => ?_)) (fun j j1 j2 => x.2 ai j (lt _ _ k5) (fun hs => ?_))⟩
  · have := ((hS _ _ _ k2 hs).2.2.1 rfl).2
    omega
  · have := (hS _ _ _ k4 hs).2.2.2.1 rfl
    omega
  · have := (hS _ _ _ k4 hs).2.2.2.1 rfl
    omega
  · exact n1 (Value.ref.inj (Option.some.inj (p0.symm.trans ((hS _ _ _ k3 hs).2.2.1 rfl).1)))
  · have := (hS _ _ _ k5 hs).2.2.2.2 rfl
    omega
  · have := (hS _ _ _ k5 hs).2.2.2.2 rfl
    omega
theorem cq.cl1 {t9 : Nat} (h : cq K G s0 s1 aw ai c i e0 r0 e1 r1) (hH : et_H et_TT K G) (hx : et_ex K K') (x : xf S G G') (hS : ∀ b j t, K b = some t → S b j → cqS G s0 c b j t) (hc : c < 6) (h9 : et_pl (eg_at G s0) 10 = some (.ref t9)) (q1 : et_pl (eg_at G' t9) c = some (.ref tn)) (ht : clC K' G' tn ls) (hl : cl02 ls.2.2) (he : ls.1 < e0) (hr : ls.2.1 < r0) : cqA K' G' s0 s1 aw ai c i e0 r0 e1 r1 ls := by
  obtain ⟨t0, t1, T0, T1, L0, L1, hK, ⟨p0, p1⟩, ⟨c4, i4⟩, ⟨g0, w0⟩, g1, w1⟩ := cq.xs h hH hx x hS
  obtain ⟨u0, u1, -, -, -, -, hK2, -⟩ := h
  have e9 : et_pl (eg_at G' s0) 10 = some (.ref t9) := (x.2 s0 10 (hH.2.2 _ _ hK2.1.1).1 (fun hs => (hS _ _ _ hK2.1.1 hs).2.1 rfl rfl)).trans h9
  obtain rfl : t9 = t0 := Value.ref.inj (Option.some.inj (e9.symm.trans p0))
  refine ⟨t9, t1, fun k => if k = c then tn else T0 k, T1, fun k => if k = c then ls else L0 k, L1, hK, ⟨p0, p1⟩, ⟨by omega, i4⟩, ⟨fun k hk => ?_, fun k hk => ?_⟩, ⟨g1, w1⟩, if_pos rfl⟩
  · dsimp only
    by_cases e : k = c
    · rw [if_pos e, if_pos e, e]
      exact ⟨⟨q1, ht⟩, hl, he, hr⟩
    · rw [if_neg e, if_neg e]
      exact g0 k (by omega)
  · dsimp only
    rw [if_neg (show ¬ k = c by omega)]
    exact w0 k hk
theorem cqA.cl2 (h : cqA K G s0 s1 aw ai c i e0 r0 e1 r1 ls) (hH : et_H et_TT K G) (hx : et_ex K K') (x : xf S G G') (hS : ∀ b j t, K b = some t → S b j → cqS G s0 c b j t) (hS3 : ∀ b j, S b j → ¬ K b = some 39) (h1 : et_pl (eg_at G' aw) (114 + 2 * c) = some (.int (Int32.ofNat ls.1))) (h2 : et_pl (eg_at G' aw) (115 + 2 * c) = some (.int (Int32.ofNat ls.2.1))) (tx : txP G' aw (126 + 841 * (8 + c)) 2 ls.2.2) : cq K' G' s0 s1 aw ai (c + 1) i e0 r0 e1 r1 := by
  obtain ⟨t0, t1, T0, T1, L0, L1, hK, ⟨p0, p1⟩, ⟨c4, i4⟩, ⟨g0, w0⟩, ⟨g1, w1⟩, e9⟩ := h
  have lt : ∀ a t, K a = some t → a < G.2 := fun a t ha => (hH.2.2 a t ha).1
  obtain ⟨⟨k0, k1, k2, k3⟩, ⟨k4, k5⟩, n1, n2⟩ := hK
  refine ⟨t0, t1, T0, T1, L0, L1, cqK.ex ⟨⟨k0, k1, k2, k3⟩, ⟨k4, k5⟩, n1, n2⟩ hx, ⟨(x.2 s0 10 (lt _ _ k0) (fun hs => (hS _ _ _ k0 hs).2.1 rfl rfl)).trans p0, (x.2 s1 10 (lt _ _ k1) (fun hs => (hS _ _ _ k1 hs).2.1 rfl rfl)).trans p1⟩, ⟨c4, i4⟩, ⟨g0.xs hx hH x hS (fun k hk => x.2 t0 k (lt _ _ k2) (fun hs => hS3 _ _ hs k2)), fun k hk => ?_⟩, g1.xs hx hH x hS (fun k hk => x.2 t1 k (lt _ _ k3) (fun hs => hS3 _ _ hs k3)), w1.xs (fun j j1 j2 => x.2 ai j (lt _ _ k5) (fun hs => ?_)) (fun j j1 j2 => x.2 ai j (lt _ _ k5) (fun hs => ?_))⟩
  · by_cases e : k = c
    · rw [e, e9]
      exact ⟨⟨h1, h2⟩, tx⟩
    · exact cqX.xs w0 (fun j j1 j2 => x.2 aw j (lt _ _ k4) (fun hs => by have := (hS _ _ _ k4 hs).2.2.2.1 rfl; omega)) (fun j j1 j2 => x.2 aw j (lt _ _ k4) (fun hs => by have := (hS _ _ _ k4 hs).2.2.2.1 rfl; omega)) k (by omega)
  · have := (hS _ _ _ k5 hs).2.2.2.2 rfl
    omega
  · have := (hS _ _ _ k5 hs).2.2.2.2 rfl
    omega
/-- the class has kept the image, the reference not yet -/
def cqI (K : et_K) (G : eg_G) (s0 s1 aw ai c e0 r0 : Nat) : Prop := ∃ (t0 t1 : Nat) (T : Nat → Nat) (L : Nat → clT), cqK K s0 s1 t0 t1 aw ai ∧ (et_pl (eg_at G s0) 10 = some (.ref t0) ∧ et_pl (eg_at G s1) 10 = some (.ref t1)) ∧ c ≤ 6 ∧ (cqE K G t0 c e0 r0 T L ∧ cqE K G t1 c e0 r0 T L) ∧ cqX G aw c L
theorem cq.im1 (h : cq K G s0 s1 aw ai c i e0 r0 e1 r1) (hH : et_H et_TT K G) (hx : et_ex K K') (hf : et_fr M K G G') (hk : cr_k M = true) (hR : ∀ t0 t1, et_pl (eg_at G s0) 10 = some (.ref t0) → et_pl (eg_at G s1) 10 = some (.ref t1) → K t0 = some 39 → K t1 = some 39 → ¬ t0 = t1 → ∀ j, j < 6 → et_pl (eg_at G' t0) j = et_pl (eg_at G t0) j ∧ et_pl (eg_at G' t1) j = et_pl (eg_at G t0) j) : cqI K' G' s0 s1 aw ai c e0 r0 := by
  unfold cr_k at hk
  rw [Bool.and_eq_true, Bool.and_eq_true, Bool.and_eq_true, Bool.and_eq_true, Bool.and_eq_true] at hk
  obtain ⟨q1, q3, ⟨q4, q5⟩, q6, q7⟩ := hk
  obtain ⟨t0, t1, T0, T1, L0, L1, hK, ⟨p0, p1⟩, ⟨c4, i4⟩, ⟨g0, w0⟩, g1, w1⟩ := h
  have hR := hR t0 t1 p0 p1 hK.1.2.2.1 hK.1.2.2.2 hK.2.2.1
  exact ⟨t0, t1, T0, L0, hK.ex hx, ⟨(hf.2 s0 10 hK.1.1 10 (by simpa using q3)).trans p0, (hf.2 s1 10 hK.1.2.1 10 (by simpa using q3)).trans p1⟩, c4, ⟨g0.mv hx hH hf q1 (fun k hk => (hR k (by omega)).1), g0.mv hx hH hf q1 (fun k hk => (hR k (by omega)).2)⟩, w0.fr hK.2.1.1 c4 hf q4 q5⟩
theorem cqI.im2 (h : cqI K G s0 s1 aw ai c e0 r0) (hH : et_H et_TT K G) (hx : et_ex K K') (hf : et_fr M K G G') (hk : cs_k M = true) (hQ : ∀ k, k < 11900 → et_pl (eg_at G' aw) k = et_pl (eg_at G aw) k ∧ et_pl (eg_at G' ai) k = et_pl (eg_at G aw) k) : cq K' G' s0 s1 aw ai c c e0 r0 e0 r0 := by
  unfold cs_k at hk
  rw [Bool.and_eq_true, Bool.and_eq_true] at hk
  obtain ⟨q1, q2, q3⟩ := hk
  obtain ⟨t0, t1, T, L, hK, ⟨p0, p1⟩, c4, ⟨g0, g1⟩, w0⟩ := h
  exact ⟨t0, t1, T, T, L, L, hK.ex hx, ⟨(hf.2 s0 10 hK.1.1 10 (by simpa using q3)).trans p0, (hf.2 s1 10 hK.1.2.1 10 (by simpa using q3)).trans p1⟩, ⟨c4, c4⟩, ⟨g0.fr hK.1.2.2.1 hx hH hf q1 q2, w0.mv c4 (fun k hk => (hQ k hk).1)⟩, g1.fr hK.1.2.2.2 hx hH hf q1 q2, w0.mv c4 (fun k hk => (hQ k hk).2)⟩
/-- the class has gone back, the reference not yet -/
def cqB (K : et_K) (G : eg_G) (s0 s1 aw ai c i h e0 r0 e1 r1 : Nat) : Prop := ∃ (t0 t1 : Nat) (T0 T1 : Nat → Nat) (L0 L1 : Nat → clT), cqK K s0 s1 t0 t1 aw ai ∧ (et_pl (eg_at G s0) 10 = some (.ref t0) ∧ et_pl (eg_at G s1) 10 = some (.ref t1)) ∧ ((if h = 0 then c else i) ≤ 6 ∧ i ≤ 6) ∧ (cqE K G t0 (if h = 0 then c else i) (if h = 0 then e0 else e1) (if h = 0 then r0 else r1) T0 L0 ∧ cqX G (if h = 0 then aw else ai) (if h = 0 then c else i) L0) ∧ cqE K G t1 i e1 r1 T1 L1 ∧ cqX G ai i L1
theorem cq.bk1 (hy : cq K G s0 s1 aw ai c i e0 r0 e1 r1) (hH : et_H et_TT K G) (hx : et_ex K K') (hf : et_fr M K G G') (hk : cr_k M = true) (hR : ∀ t0 t1, et_pl (eg_at G s0) 10 = some (.ref t0) → et_pl (eg_at G s1) 10 = some (.ref t1) → K t0 = some 39 → K t1 = some 39 → ¬ t0 = t1 → ∀ j, j < 6 → et_pl (eg_at G' t0) j = (if h = 0 then et_pl (eg_at G t0) j else et_pl (eg_at G t1) j) ∧ et_pl (eg_at G' t1) j = et_pl (eg_at G t1) j) : cqB K' G' s0 s1 aw ai c i h e0 r0 e1 r1 := by
  unfold cr_k at hk
  rw [Bool.and_eq_true, Bool.and_eq_true, Bool.and_eq_true, Bool.and_eq_true, Bool.and_eq_true] at hk
  obtain ⟨q1, q3, ⟨q4, q5⟩, q6, q7⟩ := hk
  obtain ⟨t0, t1, T0, T1, L0, L1, hK, ⟨p0, p1⟩, ⟨c4, i4⟩, ⟨g0, w0⟩, g1, w1⟩ := hy
  have hR := hR t0 t1 p0 p1 hK.1.2.2.1 hK.1.2.2.2 hK.2.2.1
  have a0 := (hf.2 s0 10 hK.1.1 10 (by simpa using q3)).trans p0
  have a1 := (hf.2 s1 10 hK.1.2.1 10 (by simpa using q3)).trans p1
  have b1 := g1.mv hx hH hf q1 (fun k hk => (hR k (by omega)).2)
  have b2 := w1.fr hK.2.1.2 i4 hf q6 q7
  by_cases h0 : h = 0
  · subst h0
    exact ⟨t0, t1, T0, T1, L0, L1, hK.ex hx, ⟨a0, a1⟩, ⟨c4, i4⟩, ⟨g0.mv hx hH hf q1 (fun k hk => (hR k (by omega)).1), w0.fr hK.2.1.1 c4 hf q4 q5⟩, b1, b2⟩
  · have e9 : (if h = 0 then c else i) = i := if_neg h0
    have e8 : (if h = 0 then aw else ai) = ai := if_neg h0
    have e7 : (if h = 0 then e0 else e1) = e1 := if_neg h0
    have e6 : (if h = 0 then r0 else r1) = r1 := if_neg h0
    refine ⟨t0, t1, T1, T1, L1, L1, hK.ex hx, ⟨a0, a1⟩, ⟨by rw [e9]; exact i4, i4⟩, ⟨by rw [e9, e7, e6]; exact g1.mv hx hH hf q1 (fun k hk => ((hR k (by omega)).1.trans (if_neg h0))), by rw [e9, e8]; exact b2⟩, b1, b2⟩
theorem cqB.bk2 (hy : cqB K G s0 s1 aw ai c i h e0 r0 e1 r1) (hH : et_H et_TT K G) (hx : et_ex K K') (hf : et_fr M K G G') (hk : cs_k M = true) (hQ : ∀ k, k < 11900 → et_pl (eg_at G' aw) k = (if h = 0 then et_pl (eg_at G aw) k else et_pl (eg_at G ai) k) ∧ et_pl (eg_at G' ai) k = et_pl (eg_at G ai) k) : cq K' G' s0 s1 aw ai (if h = 0 then c else i) i (if h = 0 then e0 else e1) (if h = 0 then r0 else r1) e1 r1 := by
  unfold cs_k at hk
  rw [Bool.and_eq_true, Bool.and_eq_true] at hk
  obtain ⟨q1, q2, q3⟩ := hk
  obtain ⟨t0, t1, T0, T1, L0, L1, hK, ⟨p0, p1⟩, ⟨c4, i4⟩, ⟨g0, w0⟩, g1, w1⟩ := hy
  refine ⟨t0, t1, T0, T1, L0, L1, hK.ex hx, ⟨(hf.2 s0 10 hK.1.1 10 (by simpa using q3)).trans p0, (hf.2 s1 10 hK.1.2.1 10 (by simpa using q3)).trans p1⟩, ⟨c4, i4⟩, ⟨g0.fr hK.1.2.2.1 hx hH hf q1 q2, w0.mv c4 (fun k hk => (hQ k hk).1.trans ?_)⟩, g1.fr hK.1.2.2.2 hx hH hf q1 q2, w1.mv i4 (fun k hk => (hQ k hk).2)⟩
  by_cases h0 : h = 0
  · rw [if_pos h0, if_pos h0]
  · rw [if_neg h0, if_neg h0]
theorem cq.init (hK : cqK K s0 s1 t0 t1 aw ai) (p0 : et_pl (eg_at G s0) 10 = some (.ref t0)) (p1 : et_pl (eg_at G s1) 10 = some (.ref t1)) : cq K G s0 s1 aw ai 0 0 0 0 0 0 := ⟨t0, t1, fun _ => 0, fun _ => 0, fun _ => (0, 0, fun _ => true), fun _ => (0, 0, fun _ => true), hK, ⟨p0, p1⟩, ⟨by decide, by decide⟩, ⟨fun k hk => absurd hk (Nat.not_lt_zero k), fun k hk => absurd hk (Nat.not_lt_zero k)⟩, fun k hk => absurd hk (Nat.not_lt_zero k), fun k hk => absurd hk (Nat.not_lt_zero k)⟩
end AXA
end
section
/-! CLAIMS: the class makes one, with its flag -/
section AYA
variable {K : et_K} {G : eg_G} {L : List sp_T} {d2 d rd x th s0 ra ca c ec rc : Nat} {b : Nat → Nat} {ey ru : Int32}
theorem fj_tcc {ta ba na tp n pl : Nat} (hH : et_H et_TT K G) (k_rd : K rd = some 7) (r0 : et_pl (eg_at G rd) 0 = some (.ref tp)) (k_tp : K tp = some 33) (r1 : et_pl (eg_at G rd) 1 = some (.int (Int32.ofNat n))) (hn : n ≤ 400) (ht : ∀ i, i < n → et_pl (eg_at G tp) i = some (.int (Int32.ofNat (b i)))) (hb : ∀ i, i < n → b i < 256) (k_ta : K ta = some 41) (k_ba : K ba = some 21) (k_na : K na = some 21) (hne : ¬ ba = na) (r4 : et_pl (eg_at G rd) 4 = some (.ref ta)) (r5 : et_pl (eg_at G rd) 5 = some (.ref ba)) (r6 : et_pl (eg_at G rd) 6 = some (.ref na)) (hpl : pl ≤ 3) (hd : 26 ≤ d2) : et_go none d2 66 0 (eg_en (eg_mL 66) [.ref rd, .int (Int32.ofNat pl)]) [] G 0 0 (fun u => tcJ (fun b j => (b = rd ∧ 1 ≤ j) ∨ ((b = ta ∧ 0 ≤ j) ∨ ((b = ba ∧ 0 ≤ j) ∨ ((b = na ∧ 0 ≤ j))))) (sp_one (tz_ts pl b n 0)) K G rd G.2 u ∧ (u.2.2.1 ≤ 805 ∧ u.2.2.2 ≤ 4830)) := by
  refine ((fj_tc hH k_rd r0 k_tp r1 hn ht hb k_ta k_ba k_na hne r4 r5 r6 hpl hd).and (hc_tcL (w := (K, [], G)) (pl := Int32.ofNat pl) hH k_rd (by omega))).mono (fun u hu => ?_)
  obtain ⟨⟨K', G', v, c, s, e, g1, g2, g3, g4, g5⟩, ⟨es, hes, -, -, -, -, -, h1, h2⟩, -⟩ := hu
  obtain rfl := List.mem_singleton.mp hes
  refine ⟨⟨K', G', v, c, s, e, g1, g2, g3.wk (fun a j _ h => ?_), g4, g5⟩, h1, h2⟩
  first | omega | (dsimp only at h ⊢; omega)
theorem fj_claim {ta ba na tp n ea : Nat} (hH : et_H et_TT K G) (k_rd : K rd = some 7) (r0 : et_pl (eg_at G rd) 0 = some (.ref tp)) (k_tp : K tp = some 33) (r1 : et_pl (eg_at G rd) 1 = some (.int (Int32.ofNat n))) (hn : n ≤ 400) (ht : ∀ i, i < n → et_pl (eg_at G tp) i = some (.int (Int32.ofNat (b i)))) (hb : ∀ i, i < n → b i < 256) (k_ta : K ta = some 41) (k_ba : K ba = some 21) (k_na : K na = some 21) (hne : ¬ ba = na) (r4 : et_pl (eg_at G rd) 4 = some (.ref ta)) (r5 : et_pl (eg_at G rd) 5 = some (.ref ba)) (r6 : et_pl (eg_at G rd) 6 = some (.ref na)) (k_th : K th = some 12) (h3 : et_pl (eg_at G th) 3 = some (.ref rd)) (h0 : et_pl (eg_at G th) 0 = some (.ref s0)) (k_s0 : K s0 = some 10) (g0 : et_pl (eg_at G s0) 0 = some (.int (Int32.ofNat rc))) (hrc : rc ≤ 4) (g1 : et_pl (eg_at G s0) 1 = some (.ref ra)) (k_ra : K ra = some 37) (hru : ∀ i, i < rc → ∃ q, et_pl (eg_at G ra) i = some (.ref q)) (g5 : et_pl (eg_at G s0) 5 = some (.int (Int32.ofNat ec))) (hec : ec ≤ 3) (g6 : et_pl (eg_at G s0) 6 = some (.ref ea)) (k_ea : K ea = some 40) (g9 : et_pl (eg_at G s0) 9 = some (.int (Int32.ofNat c))) (hc : c ≤ 6) (g10 : et_pl (eg_at G s0) 10 = some (.ref ca)) (k_ca : K ca = some 39) (hd : 27 ≤ d2) : et_go none d2 133 0 (eg_en (eg_mL 133) [.ref th, .int ey, .int ru]) [] G 0 0 (xk_Z (fun b j => (b = rd ∧ 1 ≤ j) ∨ ((b = ta ∧ 0 ≤ j) ∨ ((b = ba ∧ 0 ≤ j) ∨ ((b = na ∧ 0 ≤ j) ∨ ((b = s0 ∧ j = 9) ∨ ((b = ca ∧ j = c))))))) K G (fun K' G' v => (¬ (xr ey ec ∧ xr ru rc) ∧ v = .inr 1 ∧ et_pl (eg_at G' s0) 9 = some (.int (Int32.ofNat c))) ∨ ((xr ey ec ∧ xr ru rc) ∧ sp_one (tz_ts 2 b n 0) = none ∧ v = .inr 0 ∧ et_pl (eg_at G' s0) 9 = some (.int (Int32.ofNat c))) ∨ ((xr ey ec ∧ xr ru rc) ∧ c = 6 ∧ ¬ sp_one (tz_ts 2 b n 0) = none ∧ v = .inr 2 ∧ et_pl (eg_at G' s0) 9 = some (.int (Int32.ofNat c))) ∨ ((xr ey ec ∧ xr ru rc) ∧ c < 6 ∧ v = .inl (some (.int (Int32.ofNat c))) ∧ et_pl (eg_at G' s0) 9 = some (.int (Int32.ofNat (c + 1))) ∧ ∃ f q bb, sp_one (tz_ts 2 b n 0) = some f ∧ et_pl (eg_at G' ca) c = some (.ref q) ∧ K' q = some 2 ∧ et_pl (eg_at G' q) 0 = some (.ref bb) ∧ et_pl (eg_at G' q) 1 = some (.int ey) ∧ et_pl (eg_at G' q) 2 = some (.int ru) ∧ K' bb = some 6 ∧ G.2 ≤ bb ∧ G.2 ≤ q ∧ (∃ fl : Nat, et_pl (eg_at G' q) 3 = some (.int (Int32.ofNat fl)) ∧ fl ≤ 1 ∧ (fl = 0 → nu17 f)) ∧ ∃ hi, hi ≤ G'.2 ∧ dn G' 15 G.2 hi bb f))) := by
  obtain ⟨d, rfl⟩ : ∃ d, d2 = d + 27 := ⟨d2 - 27, by omega⟩
  rw [show eg_mL 133 = 4 from by decide +kernel]
  show et_go none (d + 27) 133 0 [some (.ref th), some (.int ey), some (.int ru), none] [] G 0 0 (xk_Z _ _ _ _)
  have lt_th := (hH.2.2 _ _ k_th).1
  have lt_s0 := (hH.2.2 _ _ k_s0).1
  have lt_rd := (hH.2.2 _ _ k_rd).1
  have lt_ta := (hH.2.2 _ _ k_ta).1
  have lt_ba := (hH.2.2 _ _ k_ba).1
  have lt_na := (hH.2.2 _ _ k_na).1
  have lt_tp := (hH.2.2 _ _ k_tp).1
  have lt_ra := (hH.2.2 _ _ k_ra).1
  have lt_ca := (hH.2.2 _ _ k_ca).1
  have lt_ea := (hH.2.2 _ _ k_ea).1
  have hX : xf (fun b j => (b = rd ∧ 1 ≤ j) ∨ ((b = ta ∧ 0 ≤ j) ∨ ((b = ba ∧ 0 ≤ j) ∨ ((b = na ∧ 0 ≤ j) ∨ ((b = s0 ∧ j = 9) ∨ ((b = ca ∧ j = c))))))) G G := xf.rf
  have hx0 : et_ex K K := et_ex.rf
  have lr_th := lt_th
  have lr_s0 := lt_s0
  have lr_rd := lt_rd
  have lr_ta := lt_ta
  have lr_ba := lt_ba
  have lr_na := lt_na
  have lr_tp := lt_tp
  have lr_ra := lt_ra
  have lr_ca := lt_ca
  have lr_ea := lt_ea
  refine hs_aload (i := 0) (p := 1) (by decide +kernel) rfl ?_
  refine hf_get (T := et_TT) (t := 12) (ci := 10) (f := 3) (p := 4) (by decide +kernel) rfl hH k_th h3 ?_
  refine hs_k (x := Int32.ofNat 2) (p := 5) (by decide +kernel) ?_
  refine ht_callv (T := et_TT) (t := 7) (mi := 66) (na := 1) (ci := 5) (lk := 4) (lm := 3) (L0 := eg_en (eg_mL 66) [.ref rd, .int (Int32.ofNat 2)]) (by decide +kernel) rfl hH k_rd rfl rfl rfl rfl rfl (by rw [show eg_mL 66 = 3 from by decide +kernel]; first | done | rfl) ?_
  refine (fj_tcc hH k_rd r0 k_tp r1 hn ht hb k_ta k_ba k_na hne r4 r5 r6 (by decide) (by omega)).mono (fun u hu => ?_)
  obtain ⟨⟨K5, G5, v5, c5, s5, rfl, hxx5, hH, x5, hm5, hJ⟩, hc5, hs5⟩ := hu
  dsimp only at hc5 hs5
  have hru : ∀ i, i < rc → ∃ q, et_pl (eg_at G5 ra) i = some (.ref q) := fun i hi => (hru i hi).elim (fun q hq => ⟨q, (x5.2 ra i lt_ra (fun h => Or.elim h (fun h => (hi_ne k_ra k_rd (by decide)) h.1) (fun h => Or.elim h (fun h => (hi_ne k_ra k_ta (by decide)) h.1) (fun h => Or.elim h (fun h => (hi_ne k_ra k_ba (by decide)) h.1) (fun h => (hi_ne k_ra k_na (by decide)) h.1))))).trans hq⟩)
  have h3 := (x5.2 th 3 lt_th (fun h => Or.elim h (fun h => (hi_ne k_th k_rd (by decide)) h.1) (fun h => Or.elim h (fun h => (hi_ne k_th k_ta (by decide)) h.1) (fun h => Or.elim h (fun h => (hi_ne k_th k_ba (by decide)) h.1) (fun h => (hi_ne k_th k_na (by decide)) h.1))))).trans h3
  have h0 := (x5.2 th 0 lt_th (fun h => Or.elim h (fun h => (hi_ne k_th k_rd (by decide)) h.1) (fun h => Or.elim h (fun h => (hi_ne k_th k_ta (by decide)) h.1) (fun h => Or.elim h (fun h => (hi_ne k_th k_ba (by decide)) h.1) (fun h => (hi_ne k_th k_na (by decide)) h.1))))).trans h0
  have r0 := (x5.2 rd 0 lt_rd (fun h => Or.elim h (fun h => by have h := h.2; omega) (fun h => Or.elim h (fun h => (hi_ne k_rd k_ta (by decide)) h.1) (fun h => Or.elim h (fun h => (hi_ne k_rd k_ba (by decide)) h.1) (fun h => (hi_ne k_rd k_na (by decide)) h.1))))).trans r0
  have g0 := (x5.2 s0 0 lt_s0 (fun h => Or.elim h (fun h => (hi_ne k_s0 k_rd (by decide)) h.1) (fun h => Or.elim h (fun h => (hi_ne k_s0 k_ta (by decide)) h.1) (fun h => Or.elim h (fun h => (hi_ne k_s0 k_ba (by decide)) h.1) (fun h => (hi_ne k_s0 k_na (by decide)) h.1))))).trans g0
  have g1 := (x5.2 s0 1 lt_s0 (fun h => Or.elim h (fun h => (hi_ne k_s0 k_rd (by decide)) h.1) (fun h => Or.elim h (fun h => (hi_ne k_s0 k_ta (by decide)) h.1) (fun h => Or.elim h (fun h => (hi_ne k_s0 k_ba (by decide)) h.1) (fun h => (hi_ne k_s0 k_na (by decide)) h.1))))).trans g1
  have g5 := (x5.2 s0 5 lt_s0 (fun h => Or.elim h (fun h => (hi_ne k_s0 k_rd (by decide)) h.1) (fun h => Or.elim h (fun h => (hi_ne k_s0 k_ta (by decide)) h.1) (fun h => Or.elim h (fun h => (hi_ne k_s0 k_ba (by decide)) h.1) (fun h => (hi_ne k_s0 k_na (by decide)) h.1))))).trans g5
  have g6 := (x5.2 s0 6 lt_s0 (fun h => Or.elim h (fun h => (hi_ne k_s0 k_rd (by decide)) h.1) (fun h => Or.elim h (fun h => (hi_ne k_s0 k_ta (by decide)) h.1) (fun h => Or.elim h (fun h => (hi_ne k_s0 k_ba (by decide)) h.1) (fun h => (hi_ne k_s0 k_na (by decide)) h.1))))).trans g6
  have g9 := (x5.2 s0 9 lt_s0 (fun h => Or.elim h (fun h => (hi_ne k_s0 k_rd (by decide)) h.1) (fun h => Or.elim h (fun h => (hi_ne k_s0 k_ta (by decide)) h.1) (fun h => Or.elim h (fun h => (hi_ne k_s0 k_ba (by decide)) h.1) (fun h => (hi_ne k_s0 k_na (by decide)) h.1))))).trans g9
  have g10 := (x5.2 s0 10 lt_s0 (fun h => Or.elim h (fun h => (hi_ne k_s0 k_rd (by decide)) h.1) (fun h => Or.elim h (fun h => (hi_ne k_s0 k_ta (by decide)) h.1) (fun h => Or.elim h (fun h => (hi_ne k_s0 k_ba (by decide)) h.1) (fun h => (hi_ne k_s0 k_na (by decide)) h.1))))).trans g10
  have lt_th := Nat.lt_of_lt_of_le lt_th x5.1
  have lt_s0 := Nat.lt_of_lt_of_le lt_s0 x5.1
  have lt_rd := Nat.lt_of_lt_of_le lt_rd x5.1
  have lt_ta := Nat.lt_of_lt_of_le lt_ta x5.1
  have lt_ba := Nat.lt_of_lt_of_le lt_ba x5.1
  have lt_na := Nat.lt_of_lt_of_le lt_na x5.1
  have lt_tp := Nat.lt_of_lt_of_le lt_tp x5.1
  have lt_ra := Nat.lt_of_lt_of_le lt_ra x5.1
  have lt_ca := Nat.lt_of_lt_of_le lt_ca x5.1
  have lt_ea := Nat.lt_of_lt_of_le lt_ea x5.1
  have hX := hX.tr x5 (fun b j hb h => by first | omega | (dsimp only at h ⊢; omega) | (dsimp only at h; omega) | (dsimp only; omega))
  have m_x5 := x5.1
  have k_th := hxx5 _ _ k_th
  have k_s0 := hxx5 _ _ k_s0
  have k_rd := hxx5 _ _ k_rd
  have k_ta := hxx5 _ _ k_ta
  have k_ba := hxx5 _ _ k_ba
  have k_na := hxx5 _ _ k_na
  have k_tp := hxx5 _ _ k_tp
  have k_ra := hxx5 _ _ k_ra
  have k_ca := hxx5 _ _ k_ca
  have k_ea := hxx5 _ _ k_ea
  have hx0 := hx0.tr hxx5
  rcases hm5 with ⟨sq, rfl⟩ | ⟨f_, bb, sq, rfl, k_bb, lo, R⟩
  · refine hs_cb ?_
    show et_go none _ 133 8 _ [.null] _ _ _ _
    refine hs_astore0 (i := 3) (p := 9) (by decide +kernel) (Nat.le_of_ble_eq_true rfl) ?_
    refine hs_aload (i := 0) (p := 10) (by decide +kernel) rfl ?_
    refine hs_iload (i := 1) (p := 11) (by decide +kernel) rfl ?_
    refine ht_callv (T := et_TT) (t := 12) (mi := 128) (na := 1) (ci := 10) (lk := 4) (lm := 2) (L0 := eg_en (eg_mL 128) [.ref th, .int ey]) (by decide +kernel) rfl hH k_th rfl rfl rfl rfl rfl (by rw [show eg_mL 128 = 2 from by decide +kernel]; first | done | rfl) ?_
    refine ((fc_needEye hH k_th h0 k_s0 g5 hec g6 k_ea).and (hc_needE (K5, [], G5) [.ref th, .int ey] _ hH (by show 0 ≤ _; omega) rfl (ht_ac (.inr ⟨by decide, _, rfl, k_th⟩) (ht_ac hi_any ht_an)))).mono (fun u hu => ?_)
    obtain ⟨⟨g11, v11, c11, s11, rfl, -, -, eg11, hm11⟩, ⟨ez11, hez11, -, -, -, -, -, hcn11, hsn11⟩⟩ := hu
    have eg11 := eg11.symm
    subst eg11
    have hcn11 : c11 ≤ 1 := by rcases List.mem_cons.mp hez11 with rfl | hez; exact hcn11; obtain rfl := List.mem_singleton.mp hez; exact Nat.le_trans hcn11 (by decide)
    have hsn11 : s11 ≤ 6 := by rcases List.mem_cons.mp hez11 with rfl | hez; exact hsn11; obtain rfl := List.mem_singleton.mp hez; exact Nat.le_trans hsn11 (by decide)
    rcases hm11 with ⟨hx11, rfl⟩ | ⟨n11, q11, en11, hn11, rfl, k_q11, hq11⟩
    · refine hf_cx (by decide +kernel) ?_
      exact ⟨_, _, _, _, _, rfl, hx0, hH, hX, .inl ⟨(fun h => hx11 h.1), rfl, g9⟩⟩
    · have hx11 : xr ey ec := by rw [en11]; exact xr_n (by omega) hn11
      refine hs_cb ?_
      show et_go none _ 133 14 _ [.ref q11] _ _ _ _
      refine hs_popr (p := 15) (by decide +kernel) ?_
      refine hs_aload (i := 0) (p := 16) (by decide +kernel) rfl ?_
      refine hs_iload (i := 2) (p := 17) (by decide +kernel) rfl ?_
      refine ht_callv (T := et_TT) (t := 12) (mi := 129) (na := 1) (ci := 10) (lk := 4) (lm := 2) (L0 := eg_en (eg_mL 129) [.ref th, .int ru]) (by decide +kernel) rfl hH k_th rfl rfl rfl rfl rfl (by rw [show eg_mL 129 = 2 from by decide +kernel]; first | done | rfl) ?_
      refine ((fc_needRule hH k_th h0 k_s0 g0 hrc g1 k_ra hru).and (hc_needR (K5, [], G5) [.ref th, .int ru] _ hH (by show 0 ≤ _; omega) rfl (ht_ac (.inr ⟨by decide, _, rfl, k_th⟩) (ht_ac hi_any ht_an)))).mono (fun u hu => ?_)
      obtain ⟨⟨g17, v17, c17, s17, rfl, -, -, eg17, hm17⟩, ⟨ez17, hez17, -, -, -, -, -, hcn17, hsn17⟩⟩ := hu
      have eg17 := eg17.symm
      subst eg17
      have hcn17 : c17 ≤ 1 := by rcases List.mem_cons.mp hez17 with rfl | hez; exact hcn17; obtain rfl := List.mem_singleton.mp hez; exact Nat.le_trans hcn17 (by decide)
      have hsn17 : s17 ≤ 6 := by rcases List.mem_cons.mp hez17 with rfl | hez; exact hsn17; obtain rfl := List.mem_singleton.mp hez; exact Nat.le_trans hsn17 (by decide)
      rcases hm17 with ⟨hx17, rfl⟩ | ⟨n17, q17, en17, hn17, rfl, k_q17, hq17⟩
      · refine hf_cx (by decide +kernel) ?_
        exact ⟨_, _, _, _, _, rfl, hx0, hH, hX, .inl ⟨(fun h => hx17 h.2), rfl, g9⟩⟩
      · have hx17 : xr ru rc := by rw [en17]; exact xr_n (by omega) hn17
        refine hs_cb ?_
        show et_go none _ 133 20 _ [.ref q17] _ _ _ _
        refine hs_popr (p := 21) (by decide +kernel) ?_
        refine hs_aload0 (i := 3) (p := 22) (by decide +kernel) rfl ?_
        refine hs_ifnonnull0 (p := 25) (by decide +kernel) ?_
        refine hs_thr (x := 0) (lk := 4) (by decide +kernel) rfl rfl ?_
        exact ⟨_, _, _, _, _, rfl, hx0, hH, hX, .inr (.inl ⟨⟨hx11, hx17⟩, sq, rfl, g9⟩)⟩
  · have lt_bb := (hH.2.2 _ _ k_bb).1
    obtain ⟨k9, hk9, r3, hj9⟩ := hJ
    have hnu : k9 = 0 → nu17 f_ := fun hk => R.nu hH (fun a a1 ka => hj9 hk a a1 ka) k_bb (Nat.le_refl _)
    refine hs_cb ?_
    show et_go none _ 133 8 _ [.ref bb] _ _ _ _
    refine hs_astore (i := 3) (p := 9) (by decide +kernel) (Nat.le_of_ble_eq_true rfl) ?_
    refine hs_aload (i := 0) (p := 10) (by decide +kernel) rfl ?_
    refine hs_iload (i := 1) (p := 11) (by decide +kernel) rfl ?_
    refine ht_callv (T := et_TT) (t := 12) (mi := 128) (na := 1) (ci := 10) (lk := 4) (lm := 2) (L0 := eg_en (eg_mL 128) [.ref th, .int ey]) (by decide +kernel) rfl hH k_th rfl rfl rfl rfl rfl (by rw [show eg_mL 128 = 2 from by decide +kernel]; first | done | rfl) ?_
    refine ((fc_needEye hH k_th h0 k_s0 g5 hec g6 k_ea).and (hc_needE (K5, [], G5) [.ref th, .int ey] _ hH (by show 0 ≤ _; omega) rfl (ht_ac (.inr ⟨by decide, _, rfl, k_th⟩) (ht_ac hi_any ht_an)))).mono (fun u hu => ?_)
    obtain ⟨⟨g11, v11, c11, s11, rfl, -, -, eg11, hm11⟩, ⟨ez11, hez11, -, -, -, -, -, hcn11, hsn11⟩⟩ := hu
    have eg11 := eg11.symm
    subst eg11
    have hcn11 : c11 ≤ 1 := by rcases List.mem_cons.mp hez11 with rfl | hez; exact hcn11; obtain rfl := List.mem_singleton.mp hez; exact Nat.le_trans hcn11 (by decide)
    have hsn11 : s11 ≤ 6 := by rcases List.mem_cons.mp hez11 with rfl | hez; exact hsn11; obtain rfl := List.mem_singleton.mp hez; exact Nat.le_trans hsn11 (by decide)
    rcases hm11 with ⟨hx11, rfl⟩ | ⟨n11, q11, en11, hn11, rfl, k_q11, hq11⟩
    · refine hf_cx (by decide +kernel) ?_
      exact ⟨_, _, _, _, _, rfl, hx0, hH, hX, .inl ⟨(fun h => hx11 h.1), rfl, g9⟩⟩
    · have hx11 : xr ey ec := by rw [en11]; exact xr_n (by omega) hn11
      refine hs_cb ?_
      show et_go none _ 133 14 _ [.ref q11] _ _ _ _
      refine hs_popr (p := 15) (by decide +kernel) ?_
      refine hs_aload (i := 0) (p := 16) (by decide +kernel) rfl ?_
      refine hs_iload (i := 2) (p := 17) (by decide +kernel) rfl ?_
      refine ht_callv (T := et_TT) (t := 12) (mi := 129) (na := 1) (ci := 10) (lk := 4) (lm := 2) (L0 := eg_en (eg_mL 129) [.ref th, .int ru]) (by decide +kernel) rfl hH k_th rfl rfl rfl rfl rfl (by rw [show eg_mL 129 = 2 from by decide +kernel]; first | done | rfl) ?_
      refine ((fc_needRule hH k_th h0 k_s0 g0 hrc g1 k_ra hru).and (hc_needR (K5, [], G5) [.ref th, .int ru] _ hH (by show 0 ≤ _; omega) rfl (ht_ac (.inr ⟨by decide, _, rfl, k_th⟩) (ht_ac hi_any ht_an)))).mono (fun u hu => ?_)
      obtain ⟨⟨g17, v17, c17, s17, rfl, -, -, eg17, hm17⟩, ⟨ez17, hez17, -, -, -, -, -, hcn17, hsn17⟩⟩ := hu
      have eg17 := eg17.symm
      subst eg17
      have hcn17 : c17 ≤ 1 := by rcases List.mem_cons.mp hez17 with rfl | hez; exact hcn17; obtain rfl := List.mem_singleton.mp hez; exact Nat.le_trans hcn17 (by decide)
      have hsn17 : s17 ≤ 6 := by rcases List.mem_cons.mp hez17 with rfl | hez; exact hsn17; obtain rfl := List.mem_singleton.mp hez; exact Nat.le_trans hsn17 (by decide)
      rcases hm17 with ⟨hx17, rfl⟩ | ⟨n17, q17, en17, hn17, rfl, k_q17, hq17⟩
      · refine hf_cx (by decide +kernel) ?_
        exact ⟨_, _, _, _, _, rfl, hx0, hH, hX, .inl ⟨(fun h => hx17 h.2), rfl, g9⟩⟩
      · have hx17 : xr ru rc := by rw [en17]; exact xr_n (by omega) hn17
        refine hs_cb ?_
        show et_go none _ 133 20 _ [.ref q17] _ _ _ _
        refine hs_popr (p := 21) (by decide +kernel) ?_
        refine hs_aload (i := 3) (p := 22) (by decide +kernel) rfl ?_
        refine hs_ifnonnull1 (p := 33) (by decide +kernel) ?_
        refine hs_aload (i := 0) (p := 34) (by decide +kernel) rfl ?_
        refine hf_get (T := et_TT) (t := 12) (ci := 10) (f := 0) (p := 37) (by decide +kernel) rfl hH k_th h0 ?_
        refine hf_get (T := et_TT) (t := 10) (ci := 8) (f := 9) (p := 40) (by decide +kernel) rfl hH k_s0 g9 ?_
        refine hs_k (x := Int32.ofNat 6) (p := 42) (by decide +kernel) ?_
        refine hs_br2n (c := .lt) (t := 53) (f := 45) (by decide +kernel) (by omega) (by omega) (fun (c42 : c < 6) => ?_) (fun (c42 : ¬ (c < 6)) => ?_)
        · refine hs_aload (i := 0) (p := 54) (by decide +kernel) rfl ?_
          refine hf_get (T := et_TT) (t := 12) (ci := 10) (f := 0) (p := 57) (by decide +kernel) rfl hH k_th h0 ?_
          refine hf_get (T := et_TT) (t := 10) (ci := 8) (f := 10) (p := 60) (by decide +kernel) rfl hH k_s0 g10 ?_
          refine hs_aload (i := 0) (p := 61) (by decide +kernel) rfl ?_
          refine hf_get (T := et_TT) (t := 12) (ci := 10) (f := 0) (p := 64) (by decide +kernel) rfl hH k_th h0 ?_
          refine hf_get (T := et_TT) (t := 10) (ci := 8) (f := 9) (p := 67) (by decide +kernel) rfl hH k_s0 g9 ?_
          refine hf_newU (ci := 0) (n := 4) (fs := [.null, .int 0, .int 0, .int 0]) (p := 70) (by decide +kernel) (by omega) (by omega) (by decide +kernel) (by decide +kernel) hH (fun GN67 hu67 x67 mm67 => ?_)
          have hH := hu67.1
          have h3 := (x67.2 th 3 lt_th (fun h => h)).trans h3
          have h0 := (x67.2 th 0 lt_th (fun h => h)).trans h0
          have r0 := (x67.2 rd 0 lt_rd (fun h => h)).trans r0
          have g0 := (x67.2 s0 0 lt_s0 (fun h => h)).trans g0
          have g1 := (x67.2 s0 1 lt_s0 (fun h => h)).trans g1
          have g5 := (x67.2 s0 5 lt_s0 (fun h => h)).trans g5
          have g6 := (x67.2 s0 6 lt_s0 (fun h => h)).trans g6
          have g9 := (x67.2 s0 9 lt_s0 (fun h => h)).trans g9
          have g10 := (x67.2 s0 10 lt_s0 (fun h => h)).trans g10
          have r3 := (x67.2 rd 3 lt_rd (fun h => h)).trans r3
          have lt_th := Nat.lt_of_lt_of_le lt_th x67.1
          have lt_s0 := Nat.lt_of_lt_of_le lt_s0 x67.1
          have lt_rd := Nat.lt_of_lt_of_le lt_rd x67.1
          have lt_ta := Nat.lt_of_lt_of_le lt_ta x67.1
          have lt_ba := Nat.lt_of_lt_of_le lt_ba x67.1
          have lt_na := Nat.lt_of_lt_of_le lt_na x67.1
          have lt_tp := Nat.lt_of_lt_of_le lt_tp x67.1
          have lt_ra := Nat.lt_of_lt_of_le lt_ra x67.1
          have lt_ca := Nat.lt_of_lt_of_le lt_ca x67.1
          have lt_ea := Nat.lt_of_lt_of_le lt_ea x67.1
          have lt_bb := Nat.lt_of_lt_of_le lt_bb x67.1
          have hX := hX.tr x67 (fun b j hb h => h.elim)
          have m_x67 := x67.1
          have R := R.fr (x67.agf (lo := G.2) (hi := G5.2) (by omega) (fun a j h1 h2 hs => by exact hs)).ag
          refine hs_dup1 (p := 71) (by decide +kernel) ?_
          refine hs_aload (i := 3) (p := 72) (by decide +kernel) rfl ?_
          refine hs_iload (i := 1) (p := 73) (by decide +kernel) rfl ?_
          refine hs_iload (i := 2) (p := 74) (by decide +kernel) rfl ?_
          refine hs_aload (i := 0) (p := 75) (by decide +kernel) rfl ?_
          refine hf_get (T := et_TT) (t := 12) (ci := 10) (f := 3) (p := 78) (by decide +kernel) rfl hH k_th h3 ?_
          refine hf_get (T := et_TT) (t := 7) (ci := 5) (f := 3) (p := 81) (by decide +kernel) rfl hH k_rd r3 ?_
          refine hs_callp (mi := 30) (na := 4) (lk := 4) (lm := 5) (L0 := eg_en (eg_mL 30) [.ref G5.2, .ref bb, .int ey, .int ru, .int (Int32.ofNat k9)]) (by decide +kernel) rfl rfl rfl rfl rfl (by rw [show eg_mL 30 = 5 from by decide +kernel]; first | done | rfl) ?_
          refine (fu_claim hu67 k_bb (by omega)).mono (fun u hu => fuZ_cb hu (fun K81 G81 hxx81 hH k_n81 x81 hn81 => ?_))
          have lb81 : G5.2 < GN67.2 := by omega
          have h3 := (x81.2 th 3 lt_th (fun h => absurd h (Nat.ne_of_lt (by omega)))).trans h3
          have h0 := (x81.2 th 0 lt_th (fun h => absurd h (Nat.ne_of_lt (by omega)))).trans h0
          have r0 := (x81.2 rd 0 lt_rd (fun h => absurd h (Nat.ne_of_lt (by omega)))).trans r0
          have g0 := (x81.2 s0 0 lt_s0 (fun h => absurd h (Nat.ne_of_lt (by omega)))).trans g0
          have g1 := (x81.2 s0 1 lt_s0 (fun h => absurd h (Nat.ne_of_lt (by omega)))).trans g1
          have g5 := (x81.2 s0 5 lt_s0 (fun h => absurd h (Nat.ne_of_lt (by omega)))).trans g5
          have g6 := (x81.2 s0 6 lt_s0 (fun h => absurd h (Nat.ne_of_lt (by omega)))).trans g6
          have g9 := (x81.2 s0 9 lt_s0 (fun h => absurd h (Nat.ne_of_lt (by omega)))).trans g9
          have g10 := (x81.2 s0 10 lt_s0 (fun h => absurd h (Nat.ne_of_lt (by omega)))).trans g10
          have r3 := (x81.2 rd 3 lt_rd (fun h => absurd h (Nat.ne_of_lt (by omega)))).trans r3
          have hX := hX.tr x81 (fun b j hb h => by first | omega | (dsimp only at h ⊢; omega))
          have m_x81 := x81.1
          have R := R.fr (x81.agf (lo := G.2) (hi := G5.2) (by omega) (fun a j h1 h2 hs => by omega)).ag
          have lt_th := Nat.lt_of_lt_of_le lt_th x81.1
          have lt_s0 := Nat.lt_of_lt_of_le lt_s0 x81.1
          have lt_rd := Nat.lt_of_lt_of_le lt_rd x81.1
          have lt_ta := Nat.lt_of_lt_of_le lt_ta x81.1
          have lt_ba := Nat.lt_of_lt_of_le lt_ba x81.1
          have lt_na := Nat.lt_of_lt_of_le lt_na x81.1
          have lt_tp := Nat.lt_of_lt_of_le lt_tp x81.1
          have lt_ra := Nat.lt_of_lt_of_le lt_ra x81.1
          have lt_ca := Nat.lt_of_lt_of_le lt_ca x81.1
          have lt_ea := Nat.lt_of_lt_of_le lt_ea x81.1
          have lt_bb := Nat.lt_of_lt_of_le lt_bb x81.1
          have k_th := hxx81 _ _ k_th
          have k_s0 := hxx81 _ _ k_s0
          have k_rd := hxx81 _ _ k_rd
          have k_ta := hxx81 _ _ k_ta
          have k_ba := hxx81 _ _ k_ba
          have k_na := hxx81 _ _ k_na
          have k_tp := hxx81 _ _ k_tp
          have k_ra := hxx81 _ _ k_ra
          have k_ca := hxx81 _ _ k_ca
          have k_ea := hxx81 _ _ k_ea
          have k_bb := hxx81 _ _ k_bb
          have hx0 := hx0.tr hxx81
          have k_G5_2 := k_n81
          have lt_G5_2 := (hH.2.2 _ _ k_G5_2).1
          obtain ⟨n0, n1, n2, n3⟩ := hn81
          show et_go none _ 133 84 _ [.ref G5.2, .int (Int32.ofNat c), .ref ca] _ _ _ _
          refine hf_aas1 (t := 39) (u := 2) (N := 6) (kd := 8) (cj := 0) (p := 85) (by decide +kernel) ⟨rfl, rfl⟩ (by decide +kernel) hH k_ca (by omega) k_G5_2 (fun G84 hH x84 e84 => ?_)
          have h3 := (x84.2 th 3 lt_th (fun h => (hi_ne k_th k_ca (by decide)) h.1)).trans h3
          have h0 := (x84.2 th 0 lt_th (fun h => (hi_ne k_th k_ca (by decide)) h.1)).trans h0
          have r0 := (x84.2 rd 0 lt_rd (fun h => (hi_ne k_rd k_ca (by decide)) h.1)).trans r0
          have g0 := (x84.2 s0 0 lt_s0 (fun h => (hi_ne k_s0 k_ca (by decide)) h.1)).trans g0
          have g1 := (x84.2 s0 1 lt_s0 (fun h => (hi_ne k_s0 k_ca (by decide)) h.1)).trans g1
          have g5 := (x84.2 s0 5 lt_s0 (fun h => (hi_ne k_s0 k_ca (by decide)) h.1)).trans g5
          have g6 := (x84.2 s0 6 lt_s0 (fun h => (hi_ne k_s0 k_ca (by decide)) h.1)).trans g6
          have g9 := (x84.2 s0 9 lt_s0 (fun h => (hi_ne k_s0 k_ca (by decide)) h.1)).trans g9
          have g10 := (x84.2 s0 10 lt_s0 (fun h => (hi_ne k_s0 k_ca (by decide)) h.1)).trans g10
          have r3 := (x84.2 rd 3 lt_rd (fun h => (hi_ne k_rd k_ca (by decide)) h.1)).trans r3
          have n0 := (x84.2 G5.2 0 lt_G5_2 (fun h => (hi_ne k_G5_2 k_ca (by decide)) h.1)).trans n0
          have n1 := (x84.2 G5.2 1 lt_G5_2 (fun h => (hi_ne k_G5_2 k_ca (by decide)) h.1)).trans n1
          have n2 := (x84.2 G5.2 2 lt_G5_2 (fun h => (hi_ne k_G5_2 k_ca (by decide)) h.1)).trans n2
          have n3 := (x84.2 G5.2 3 lt_G5_2 (fun h => (hi_ne k_G5_2 k_ca (by decide)) h.1)).trans n3
          have lt_th := Nat.lt_of_lt_of_le lt_th x84.1
          have lt_s0 := Nat.lt_of_lt_of_le lt_s0 x84.1
          have lt_rd := Nat.lt_of_lt_of_le lt_rd x84.1
          have lt_ta := Nat.lt_of_lt_of_le lt_ta x84.1
          have lt_ba := Nat.lt_of_lt_of_le lt_ba x84.1
          have lt_na := Nat.lt_of_lt_of_le lt_na x84.1
          have lt_tp := Nat.lt_of_lt_of_le lt_tp x84.1
          have lt_ra := Nat.lt_of_lt_of_le lt_ra x84.1
          have lt_ca := Nat.lt_of_lt_of_le lt_ca x84.1
          have lt_ea := Nat.lt_of_lt_of_le lt_ea x84.1
          have lt_bb := Nat.lt_of_lt_of_le lt_bb x84.1
          have lt_G5_2 := Nat.lt_of_lt_of_le lt_G5_2 x84.1
          have hX := hX.tr x84 (fun b j hb h => by first | omega | (dsimp only at h ⊢; omega) | (dsimp only at h; omega) | (dsimp only; omega))
          have m_x84 := x84.1
          have R := R.fr (x84.agf (lo := G.2) (hi := G5.2) (by omega) (fun a j h1 h2 hs => by first | omega | (dsimp only at hs; omega))).ag
          refine hs_aload (i := 0) (p := 86) (by decide +kernel) rfl ?_
          refine hf_get (T := et_TT) (t := 12) (ci := 10) (f := 0) (p := 89) (by decide +kernel) rfl hH k_th h0 ?_
          refine hs_dup1 (p := 90) (by decide +kernel) ?_
          refine hf_get (T := et_TT) (t := 10) (ci := 8) (f := 9) (p := 93) (by decide +kernel) rfl hH k_s0 g9 ?_
          refine hs_k (x := Int32.ofNat 1) (p := 94) (by decide +kernel) ?_
          refine hs_iaddn (p := 95) (by decide +kernel) ?_
          refine hf_put (T := et_TT) (t := 10) (ci := 8) (f := 9) (p := 98) (ty := .int) (by decide +kernel) rfl rfl rfl rfl rfl hH k_s0 (hi_nv (by omega) (by omega)) (fun G95 hH x95 e95 => ?_)
          have h3 := (x95.2 th 3 lt_th (fun h => (hi_ne k_th k_s0 (by decide)) h.1)).trans h3
          have h0 := (x95.2 th 0 lt_th (fun h => (hi_ne k_th k_s0 (by decide)) h.1)).trans h0
          have r0 := (x95.2 rd 0 lt_rd (fun h => (hi_ne k_rd k_s0 (by decide)) h.1)).trans r0
          have g0 := (x95.2 s0 0 lt_s0 (fun h => absurd h.2 (by decide))).trans g0
          have g1 := (x95.2 s0 1 lt_s0 (fun h => absurd h.2 (by decide))).trans g1
          have g5 := (x95.2 s0 5 lt_s0 (fun h => absurd h.2 (by decide))).trans g5
          have g6 := (x95.2 s0 6 lt_s0 (fun h => absurd h.2 (by decide))).trans g6
          have g10 := (x95.2 s0 10 lt_s0 (fun h => absurd h.2 (by decide))).trans g10
          have r3 := (x95.2 rd 3 lt_rd (fun h => (hi_ne k_rd k_s0 (by decide)) h.1)).trans r3
          have n0 := (x95.2 G5.2 0 lt_G5_2 (fun h => (hi_ne k_G5_2 k_s0 (by decide)) h.1)).trans n0
          have n1 := (x95.2 G5.2 1 lt_G5_2 (fun h => (hi_ne k_G5_2 k_s0 (by decide)) h.1)).trans n1
          have n2 := (x95.2 G5.2 2 lt_G5_2 (fun h => (hi_ne k_G5_2 k_s0 (by decide)) h.1)).trans n2
          have n3 := (x95.2 G5.2 3 lt_G5_2 (fun h => (hi_ne k_G5_2 k_s0 (by decide)) h.1)).trans n3
          have e84 := (x95.2 ca c lt_ca (fun h => (hi_ne k_ca k_s0 (by decide)) h.1)).trans e84
          have lt_th := Nat.lt_of_lt_of_le lt_th x95.1
          have lt_s0 := Nat.lt_of_lt_of_le lt_s0 x95.1
          have lt_rd := Nat.lt_of_lt_of_le lt_rd x95.1
          have lt_ta := Nat.lt_of_lt_of_le lt_ta x95.1
          have lt_ba := Nat.lt_of_lt_of_le lt_ba x95.1
          have lt_na := Nat.lt_of_lt_of_le lt_na x95.1
          have lt_tp := Nat.lt_of_lt_of_le lt_tp x95.1
          have lt_ra := Nat.lt_of_lt_of_le lt_ra x95.1
          have lt_ca := Nat.lt_of_lt_of_le lt_ca x95.1
          have lt_ea := Nat.lt_of_lt_of_le lt_ea x95.1
          have lt_bb := Nat.lt_of_lt_of_le lt_bb x95.1
          have lt_G5_2 := Nat.lt_of_lt_of_le lt_G5_2 x95.1
          have hX := hX.tr x95 (fun b j hb h => by first | omega | (dsimp only at h ⊢; omega) | (dsimp only at h; omega) | (dsimp only; omega))
          have m_x95 := x95.1
          have R := R.fr (x95.agf (lo := G.2) (hi := G5.2) (by omega) (fun a j h1 h2 hs => by first | omega | (dsimp only at hs; omega))).ag
          refine hs_aload (i := 0) (p := 99) (by decide +kernel) rfl ?_
          refine hf_get (T := et_TT) (t := 12) (ci := 10) (f := 0) (p := 102) (by decide +kernel) rfl hH k_th h0 ?_
          refine hf_get (T := et_TT) (t := 10) (ci := 8) (f := 9) (p := 105) (by decide +kernel) rfl hH k_s0 e95 ?_
          refine hs_k (x := Int32.ofNat 1) (p := 106) (by decide +kernel) ?_
          refine hs_isubn (p := 107) (by decide +kernel) (by omega) ?_
          refine hs_iret (by decide +kernel) ?_
          rw [Nat.add_sub_cancel]
          exact ⟨_, _, _, _, _, rfl, hx0, hH, hX, .inr (.inr (.inr ⟨⟨hx11, hx17⟩, by omega, rfl, e95, f_, _, bb, sq, e84, k_G5_2, n0, n1, n2, k_bb, lo, by omega, ⟨k9, n3, hk9, hnu⟩, _, by omega, R⟩))⟩
        · refine hs_thr (x := 2) (lk := 4) (by decide +kernel) rfl rfl ?_
          exact ⟨_, _, _, _, _, rfl, hx0, hH, hX, .inr (.inr (.inl ⟨⟨hx11, hx17⟩, by omega, (by rw [sq]; intro h; cases h), rfl, g9⟩))⟩
theorem fj_hclaim {ta ba na tp n out ea : Nat} (hH : et_H et_TT K G) (k_rd : K rd = some 7) (r0 : et_pl (eg_at G rd) 0 = some (.ref tp)) (k_tp : K tp = some 33) (r1 : et_pl (eg_at G rd) 1 = some (.int (Int32.ofNat n))) (hn : n ≤ 400) (ht : ∀ i, i < n → et_pl (eg_at G tp) i = some (.int (Int32.ofNat (b i)))) (hb : ∀ i, i < n → b i < 256) (k_ta : K ta = some 41) (k_ba : K ba = some 21) (k_na : K na = some 21) (hne : ¬ ba = na) (r4 : et_pl (eg_at G rd) 4 = some (.ref ta)) (r5 : et_pl (eg_at G rd) 5 = some (.ref ba)) (r6 : et_pl (eg_at G rd) 6 = some (.ref na)) (k_th : K th = some 12) (h3 : et_pl (eg_at G th) 3 = some (.ref rd)) (h0 : et_pl (eg_at G th) 0 = some (.ref s0)) (k_s0 : K s0 = some 10) (g0 : et_pl (eg_at G s0) 0 = some (.int (Int32.ofNat rc))) (hrc : rc ≤ 4) (g1 : et_pl (eg_at G s0) 1 = some (.ref ra)) (k_ra : K ra = some 37) (hru : ∀ i, i < rc → ∃ q, et_pl (eg_at G ra) i = some (.ref q)) (g5 : et_pl (eg_at G s0) 5 = some (.int (Int32.ofNat ec))) (hec : ec ≤ 3) (g6 : et_pl (eg_at G s0) 6 = some (.ref ea)) (k_ea : K ea = some 40) (g9 : et_pl (eg_at G s0) 9 = some (.int (Int32.ofNat c))) (hc : c ≤ 6) (g10 : et_pl (eg_at G s0) 10 = some (.ref ca)) (k_ca : K ca = some 39) (k_out : K out = some 31) (hd : 28 ≤ d2) : et_go none d2 2 0 (eg_en (eg_mL 2) [.ref th, .int ey, .int ru, .ref out]) [] G 0 0 (xk_Z (fun b j => (b = rd ∧ 1 ≤ j) ∨ ((b = ta ∧ 0 ≤ j) ∨ ((b = ba ∧ 0 ≤ j) ∨ ((b = na ∧ 0 ≤ j) ∨ ((b = s0 ∧ j = 9) ∨ ((b = ca ∧ j = c) ∨ ((b = out ∧ j = 0)))))))) K G (fun K' G' v => (¬ (xr ey ec ∧ xr ru rc) ∧ v = .inl (some (.int (Int32.ofNat 1))) ∧ et_pl (eg_at G' s0) 9 = some (.int (Int32.ofNat c))) ∨ ((xr ey ec ∧ xr ru rc) ∧ sp_one (tz_ts 2 b n 0) = none ∧ v = .inl (some (.int (Int32.ofNat 2))) ∧ et_pl (eg_at G' s0) 9 = some (.int (Int32.ofNat c))) ∨ ((xr ey ec ∧ xr ru rc) ∧ c = 6 ∧ ¬ sp_one (tz_ts 2 b n 0) = none ∧ v = .inl (some (.int (Int32.ofNat 3))) ∧ et_pl (eg_at G' s0) 9 = some (.int (Int32.ofNat c))) ∨ ((xr ey ec ∧ xr ru rc) ∧ c < 6 ∧ v = .inl (some (.int (Int32.ofNat 0))) ∧ et_pl (eg_at G' out) 0 = some (.long (Int32.ofNat c).toInt64) ∧ et_pl (eg_at G' s0) 9 = some (.int (Int32.ofNat (c + 1))) ∧ ∃ f q bb, sp_one (tz_ts 2 b n 0) = some f ∧ et_pl (eg_at G' ca) c = some (.ref q) ∧ K' q = some 2 ∧ et_pl (eg_at G' q) 0 = some (.ref bb) ∧ et_pl (eg_at G' q) 1 = some (.int ey) ∧ et_pl (eg_at G' q) 2 = some (.int ru) ∧ K' bb = some 6 ∧ G.2 ≤ bb ∧ G.2 ≤ q ∧ (∃ fl : Nat, et_pl (eg_at G' q) 3 = some (.int (Int32.ofNat fl)) ∧ fl ≤ 1 ∧ (fl = 0 → nu17 f)) ∧ ∃ hi, hi ≤ G'.2 ∧ dn G' 15 G.2 hi bb f))) := by
  obtain ⟨d, rfl⟩ : ∃ d, d2 = d + 28 := ⟨d2 - 28, by omega⟩
  have lo0 := hH.1
  rw [show eg_mL 2 = 5 from by decide +kernel]
  show et_go none (d + 28) 2 0 [some (.ref th), some (.int ey), some (.int ru), some (.ref out), none] [] G 0 0 (xk_Z _ _ _ _)
  have lt_th := (hH.2.2 _ _ k_th).1
  have lt_rd := (hH.2.2 _ _ k_rd).1
  have lt_s0 := (hH.2.2 _ _ k_s0).1
  have lt_ta := (hH.2.2 _ _ k_ta).1
  have lt_ba := (hH.2.2 _ _ k_ba).1
  have lt_na := (hH.2.2 _ _ k_na).1
  have lt_out := (hH.2.2 _ _ k_out).1
  have lt_ra := (hH.2.2 _ _ k_ra).1
  have lt_ca := (hH.2.2 _ _ k_ca).1
  have lt_ea := (hH.2.2 _ _ k_ea).1
  have hX : xf (fun b j => (b = rd ∧ 1 ≤ j) ∨ ((b = ta ∧ 0 ≤ j) ∨ ((b = ba ∧ 0 ≤ j) ∨ ((b = na ∧ 0 ≤ j) ∨ ((b = s0 ∧ j = 9) ∨ ((b = ca ∧ j = c) ∨ ((b = out ∧ j = 0)))))))) G G := xf.rf
  have hx0 : et_ex K K := et_ex.rf
  have lr_th := lt_th
  have lr_rd := lt_rd
  have lr_s0 := lt_s0
  have lr_ta := lt_ta
  have lr_ba := lt_ba
  have lr_na := lt_na
  have lr_out := lt_out
  have lr_ra := lt_ra
  have lr_ca := lt_ca
  have lr_ea := lt_ea
  refine hs_aload (i := 3) (p := 1) (by decide +kernel) rfl ?_
  refine hs_k (x := Int32.ofNat 0) (p := 2) (by decide +kernel) ?_
  refine hs_aload (i := 0) (p := 3) (by decide +kernel) rfl ?_
  refine hs_iload (i := 1) (p := 4) (by decide +kernel) rfl ?_
  refine hs_iload (i := 2) (p := 5) (by decide +kernel) rfl ?_
  refine ht_callv (T := et_TT) (t := 12) (mi := 133) (na := 2) (ci := 10) (lk := 5) (lm := 4) (L0 := eg_en (eg_mL 133) [.ref th, .int ey, .int ru]) (by decide +kernel) rfl hH k_th rfl rfl rfl rfl rfl (by rw [show eg_mL 133 = 4 from by decide +kernel]; first | done | rfl) ?_
  refine (fj_claim (ea := ea) hH k_rd r0 k_tp r1 hn ht hb k_ta k_ba k_na hne r4 r5 r6 k_th h3 h0 k_s0 g0 hrc g1 k_ra hru g5 hec g6 k_ea g9 hc g10 k_ca (by omega)).mono (fun u hu => ?_)
  obtain ⟨K5, G5, v5, c5, s5, rfl, hxx5, hH, x5, hm5⟩ := hu
  have lt_th := Nat.lt_of_lt_of_le lt_th x5.1
  have lt_rd := Nat.lt_of_lt_of_le lt_rd x5.1
  have lt_s0 := Nat.lt_of_lt_of_le lt_s0 x5.1
  have lt_ta := Nat.lt_of_lt_of_le lt_ta x5.1
  have lt_ba := Nat.lt_of_lt_of_le lt_ba x5.1
  have lt_na := Nat.lt_of_lt_of_le lt_na x5.1
  have lt_out := Nat.lt_of_lt_of_le lt_out x5.1
  have lt_ra := Nat.lt_of_lt_of_le lt_ra x5.1
  have lt_ca := Nat.lt_of_lt_of_le lt_ca x5.1
  have lt_ea := Nat.lt_of_lt_of_le lt_ea x5.1
  have hX := hX.tr x5 (fun b j hb h => by first | omega | (dsimp only at h ⊢; omega) | (dsimp only at h; omega) | (dsimp only; omega))
  have m_x5 := x5.1
  have k_th := hxx5 _ _ k_th
  have k_rd := hxx5 _ _ k_rd
  have k_s0 := hxx5 _ _ k_s0
  have k_ta := hxx5 _ _ k_ta
  have k_ba := hxx5 _ _ k_ba
  have k_na := hxx5 _ _ k_na
  have k_out := hxx5 _ _ k_out
  have k_ra := hxx5 _ _ k_ra
  have k_ca := hxx5 _ _ k_ca
  have k_ea := hxx5 _ _ k_ea
  have hx0 := hx0.tr hxx5
  rcases hm5 with ⟨hxr, rfl, q0⟩ | ⟨hxr, sq, rfl, q0⟩ | ⟨hxr, c4, sq, rfl, q0⟩ | ⟨hxr, c4, rfl, q0, f_, q, bb, sq, q1, k_q, q2, q3, q4, k_bb, lo, loq, ⟨fl, q5, hfl, hnu⟩, hi, hhi, R⟩
  · refine hs_ch (h := 13) (i := 4) (n := 2) (hh := (eg_mh 2).getD []) (by decide +kernel) ⟨by decide +kernel, by decide +kernel⟩ (Nat.le_of_ble_eq_true rfl) ?_
    show et_go none _ 2 15 [some (.ref th), some (.int ey), some (.int ru), some (.ref out), none] [] _ _ _ _
    refine hs_k (x := Int32.ofNat 1) (p := 16) (by decide +kernel) ?_
    refine hs_iret (by decide +kernel) ?_
    exact ⟨_, _, _, _, _, rfl, hx0, hH, hX, .inl ⟨hxr, rfl, q0⟩⟩
  · refine hs_ch (h := 17) (i := 4) (n := 2) (hh := (eg_mh 2).getD []) (by decide +kernel) ⟨by decide +kernel, by decide +kernel⟩ (Nat.le_of_ble_eq_true rfl) ?_
    show et_go none _ 2 19 [some (.ref th), some (.int ey), some (.int ru), some (.ref out), none] [] _ _ _ _
    refine hs_k (x := Int32.ofNat 2) (p := 20) (by decide +kernel) ?_
    refine hs_iret (by decide +kernel) ?_
    exact ⟨_, _, _, _, _, rfl, hx0, hH, hX, .inr (.inl ⟨hxr, sq, rfl, q0⟩)⟩
  · refine hs_ch (h := 21) (i := 4) (n := 2) (hh := (eg_mh 2).getD []) (by decide +kernel) ⟨by decide +kernel, by decide +kernel⟩ (Nat.le_of_ble_eq_true rfl) ?_
    show et_go none _ 2 23 [some (.ref th), some (.int ey), some (.int ru), some (.ref out), none] [] _ _ _ _
    refine hs_k (x := Int32.ofNat 3) (p := 24) (by decide +kernel) ?_
    refine hs_iret (by decide +kernel) ?_
    exact ⟨_, _, _, _, _, rfl, hx0, hH, hX, .inr (.inr (.inl ⟨hxr, c4, sq, rfl, q0⟩))⟩
  · have lt_q := (hH.2.2 _ _ k_q).1
    have lt_bb := (hH.2.2 _ _ k_bb).1
    refine hs_cb ?_
    show et_go none _ 2 8 _ [.int (Int32.ofNat c), .int (Int32.ofNat 0), .ref out] _ _ _ _
    refine hs_i2l (p := 9) (by decide +kernel) ?_
    refine hf_lst (T := et_TT) (t := 31) (N := 1) (p := 10) (by decide +kernel) rfl rfl hH k_out (by omega) (by decide) (fun G9 hH x9 e9 => ?_)
    have q0 := (x9.2 s0 9 lt_s0 (fun h => (hi_ne k_s0 k_out (by decide)) h.1)).trans q0
    have q1 := (x9.2 ca c lt_ca (fun h => (hi_ne k_ca k_out (by decide)) h.1)).trans q1
    have q2 := (x9.2 q 0 lt_q (fun h => (hi_ne k_q k_out (by decide)) h.1)).trans q2
    have q3 := (x9.2 q 1 lt_q (fun h => (hi_ne k_q k_out (by decide)) h.1)).trans q3
    have q4 := (x9.2 q 2 lt_q (fun h => (hi_ne k_q k_out (by decide)) h.1)).trans q4
    have q5 := (x9.2 q 3 lt_q (fun h => (hi_ne k_q k_out (by decide)) h.1)).trans q5
    have lt_th := Nat.lt_of_lt_of_le lt_th x9.1
    have lt_rd := Nat.lt_of_lt_of_le lt_rd x9.1
    have lt_s0 := Nat.lt_of_lt_of_le lt_s0 x9.1
    have lt_ta := Nat.lt_of_lt_of_le lt_ta x9.1
    have lt_ba := Nat.lt_of_lt_of_le lt_ba x9.1
    have lt_na := Nat.lt_of_lt_of_le lt_na x9.1
    have lt_out := Nat.lt_of_lt_of_le lt_out x9.1
    have lt_ra := Nat.lt_of_lt_of_le lt_ra x9.1
    have lt_ca := Nat.lt_of_lt_of_le lt_ca x9.1
    have lt_ea := Nat.lt_of_lt_of_le lt_ea x9.1
    have lt_q := Nat.lt_of_lt_of_le lt_q x9.1
    have lt_bb := Nat.lt_of_lt_of_le lt_bb x9.1
    have hX := hX.tr x9 (fun b j hb h => by first | omega | (dsimp only at h ⊢; omega) | (dsimp only at h; omega) | (dsimp only; omega))
    have m_x9 := x9.1
    have R := R.fr (x9.agf (lo := G.2) (hi := hi) (by omega) (fun a j h1 h2 hs => by first | omega | (dsimp only at hs; omega))).ag
    refine hs_goto (p := 25) (by decide +kernel) ?_
    refine hs_k (x := Int32.ofNat 0) (p := 26) (by decide +kernel) ?_
    refine hs_iret (by decide +kernel) ?_
    exact ⟨_, _, _, _, _, rfl, hx0, hH, hX, .inr (.inr (.inr ⟨hxr, c4, rfl, e9, q0, f_, q, bb, sq, q1, k_q, q2, q3, q4, k_bb, lo, loq, ⟨fl, q5, hfl, hnu⟩, hi, by omega, R⟩))⟩
end AYA
end
