/-! FUNCTIONAL: the class's parser, its small calls -/
/-- the word that stands at x (34: the end) -/
def wat (L : List sp_T) (x : Nat) : Nat := match L[x]? with
  | some t => t.1
  | none => 34
def tl (L : List sp_T) : Prop := ∀ t ∈ L, t.1 < 36 ∧ ∀ v, t.2 = some v → v < 10000
theorem wat_lt {L : List sp_T} (h : tl L) {x : Nat} : wat L x < 36 := by
  unfold wat
  split
  · rename_i t e
    exact (h t (List.mem_of_getElem? e)).1
  · decide
def rxS (rd : Nat) (c j : Nat) : Prop := c = rd ∧ (j = 2 ∨ j = 3 ∨ j = 8)
theorem tk.w {K : et_K} {G : eg_G} {rd x ta : Nat} {L : List sp_T} (h : tk K G rd L) (hx : x ≤ L.length) (h4 : et_pl (eg_at G rd) 4 = some (.ref ta)) : et_pl (eg_at G ta) x = some (.ref (wat L x)) := by
  obtain ⟨ta', ba, na, -, ⟨r4, -⟩, -, h9, h10, -⟩ := h
  obtain rfl : ta = ta' := Value.ref.inj (Option.some.inj (h4.symm.trans r4))
  unfold wat
  by_cases e : x < L.length
  · rw [List.getElem?_eq_getElem e]
    exact (h9 x _ (List.getElem?_eq_getElem e)).1
  · obtain rfl : x = L.length := by omega
    rw [List.getElem?_eq_none (Nat.le_refl _)]
    exact h10
theorem tk.n {K : et_K} {G : eg_G} {rd x na : Nat} {L : List sp_T} {t : sp_T} (h : tk K G rd L) (hx : L[x]? = some t) (h6 : et_pl (eg_at G rd) 6 = some (.ref na)) : et_pl (eg_at G na) x = some (.int (tz_i t.2)) := by
  obtain ⟨ta, ba, na', -, ⟨-, -, r6, -⟩, -, h9, -⟩ := h
  obtain rfl : na = na' := Value.ref.inj (Option.some.inj (h6.symm.trans r6))
  exact (h9 x t hx).2
theorem tk.b {K : et_K} {G : eg_G} {rd x ba : Nat} {L : List sp_T} (h : tk K G rd L) (hx : x ≤ L.length) (h5 : et_pl (eg_at G rd) 5 = some (.ref ba)) : ∃ q, q ≤ 400 ∧ et_pl (eg_at G ba) x = some (.int (Int32.ofNat q)) := by
  obtain ⟨ta, ba', na, -, ⟨-, r5, -⟩, -, -, -, h11⟩ := h
  obtain rfl : ba = ba' := Value.ref.inj (Option.some.inj (h5.symm.trans r5))
  exact h11 x hx
/-- tokens stay under steps that write the reader's place or pieces -/
theorem tk.xf {S : Nat → Nat → Prop} {K K' : et_K} {G G' : eg_G} {rd : Nat} {L : List sp_T} (h : tk K G rd L) (hH : et_H et_TT K G) (k_rd : K rd = some 7) (hx : et_ex K K') (hf : xf S G G') (hS : ∀ a j, S a j → (a = rd ∧ (j = 2 ∨ j = 3 ∨ j = 8)) ∨ K a = some 6 ∨ G.2 ≤ a) : tk K' G' rd L := by
  obtain ⟨ta, ba, na, ⟨h1, h2, h3⟩, ⟨h4, h5, h6, h7⟩, h8, h9, h10, h11⟩ := h
  have lr := (hH.2.2 _ _ k_rd).1
  have nn : ∀ a t, K a = some t → ¬ t = 7 → ¬ t = 6 → ∀ j, ¬ S a j := fun a t ha h7 h6 j hs => by
    rcases hS a j hs with ⟨e, -⟩ | e | e
    · rw [e, k_rd] at ha
      cases ha
      exact h7 rfl
    · rw [e] at ha
      cases ha
      exact h6 rfl
    · have := (hH.2.2 _ _ ha).1
      omega
  have nr : ∀ j, 4 ≤ j → j ≤ 7 → ¬ S rd j := fun j j1 j2 hs => by
    rcases hS rd j hs with ⟨-, e⟩ | e | e
    · omega
    · rw [k_rd] at e
      cases e
    · omega
  refine ⟨ta, ba, na, ⟨hx _ _ h1, hx _ _ h2, hx _ _ h3⟩, ⟨(hf.2 rd 4 lr (nr 4 (by decide) (by decide))).trans h4, (hf.2 rd 5 lr (nr 5 (by decide) (by decide))).trans h5, (hf.2 rd 6 lr (nr 6 (by decide) (by decide))).trans h6, (hf.2 rd 7 lr (nr 7 (by decide) (by decide))).trans h7⟩, h8, fun j x hj => ⟨(hf.2 ta j (hH.2.2 _ _ h1).1 (nn ta 41 h1 (by decide) (by decide) j)).trans (h9 j x hj).1, (hf.2 na j (hH.2.2 _ _ h3).1 (nn na 21 h3 (by decide) (by decide) j)).trans (h9 j x hj).2⟩, (hf.2 ta _ (hH.2.2 _ _ h1).1 (nn ta 41 h1 (by decide) (by decide) _)).trans h10, fun j hj => ?_⟩
  obtain ⟨q, q1, q2⟩ := h11 j hj
  exact ⟨q, q1, (hf.2 ba j (hH.2.2 _ _ h2).1 (nn ba 21 h2 (by decide) (by decide) j)).trans q2⟩
theorem tk_kd {w : Nat} (hw : w < 36) : ([.int (Int32.ofNat w), .ref (36 + (eg_wf.getD w (0, 0, 0)).1), .int (eg_wf.getD w (0, 0, 0)).2.1, .int (eg_wf.getD w (0, 0, 0)).2.2] : List Value)[3]? = some (.int (Int32.ofNat (if sp_tw w = true then 1 else if sp_fw w = true then 2 else 0))) := by
  have h : ∀ w ∈ List.range 36, (eg_wf.getD w (0, 0, 0)).2.2 = Int32.ofNat (if sp_tw w = true then 1 else if sp_fw w = true then 2 else 0) := by decide +kernel
  show some (Value.int (eg_wf.getD w (0, 0, 0)).2.2) = _
  rw [h w (List.mem_range.mpr hw)]
theorem tk_tf {w : Nat} (h : sp_fw w = true) : sp_tw w = false := by
  refine Bool.eq_false_iff.mpr (fun h2 => ?_)
  unfold sp_fw at h
  unfold sp_tw at h2
  simp only [Bool.or_eq_true, Bool.and_eq_true, Nat.ble_eq, beq_iff_eq] at h h2
  omega
theorem wat_t {L : List sp_T} {x w : Nat} (h : wat L x = w) (hw : ¬ w = 34) : ∃ n, L[x]? = some (w, n) ∧ x < L.length := by
  unfold wat at h
  split at h
  · rename_i t e
    subst h
    exact ⟨t.2, e, (List.getElem?_eq_some_iff.mp e).1⟩
  · exact absurd h.symm hw
theorem xi_nm1 {q : Nat} (h : q < 2147483648) : ¬ Int32.ofNat q = -1 := fun e => by
  have h1 := congrArg Int32.toInt e
  rw [hs_nint h] at h1
  have h2 : (-1 : Int32).toInt = -1 := by decide
  rw [h2] at h1
  omega

section FNA
variable {K : et_K} {G : eg_G} {L : List sp_T} {d2 d rd x wd mo : Nat}
theorem fc_is (hH : et_H et_TT K G) (k_rd : K rd = some 7) (htk : tk K G rd L) (htl : tl L) (r8 : et_pl (eg_at G rd) 8 = some (.int (Int32.ofNat x))) (hx : x ≤ L.length) (hw : wd < 36) : et_go none d2 78 0 (eg_en (eg_mL 78) [.ref rd, .ref wd]) [] G 0 0 (xp_Z G (some (.int (Int32.ofNat (if wat L x = wd then 1 else 0))))) := by
  obtain ⟨ta, ba, na, ⟨k_ta, k_ba, k_na⟩, ⟨r4, r5, r6, r7⟩, hl4, -⟩ := id htk
  have k_wd : K wd = some 0 := hH.2.1 _ hw
  rw [show eg_mL 78 = 2 from by decide +kernel]
  show et_go none d2 78 0 [some (.ref rd), some (.ref wd)] [] G 0 0 _
  refine hs_aload (i := 0) (p := 1) (by decide +kernel) rfl ?_
  refine hf_get (T := et_TT) (t := 7) (ci := 5) (f := 8) (p := 4) (by decide +kernel) rfl hH k_rd r8 ?_
  refine hs_aload (i := 0) (p := 5) (by decide +kernel) rfl ?_
  refine hf_get (T := et_TT) (t := 7) (ci := 5) (f := 7) (p := 8) (by decide +kernel) rfl hH k_rd r7 ?_
  refine hs_br2n (c := .ge) (t := 28) (f := 11) (by decide +kernel) (by omega) (by omega) (fun (c8 : (L.length + 1) ≤ x) => ?_) (fun (c8 : ¬ ((L.length + 1) ≤ x)) => ?_)
  · exact absurd c8 (by omega)
  · refine hs_aload (i := 0) (p := 12) (by decide +kernel) rfl ?_
    refine hf_get (T := et_TT) (t := 7) (ci := 5) (f := 4) (p := 15) (by decide +kernel) rfl hH k_rd r4 ?_
    refine hs_aload (i := 0) (p := 16) (by decide +kernel) rfl ?_
    refine hf_get (T := et_TT) (t := 7) (ci := 5) (f := 8) (p := 19) (by decide +kernel) rfl hH k_rd r8 ?_
    refine hf_ald (ins := .aaload) (T := et_TT) (t := 41) (kd := 9) (N := 401) (p := 20) (by decide +kernel) (fun _ _ _ _ _ _ _ _ _ _ => rfl) rfl rfl rfl hH k_ta (by decide) (htk.w hx r4) ?_
    refine hs_aload (i := 1) (p := 21) (by decide +kernel) rfl ?_
    refine hf_acm (c := .ne) (tt := 28) (ff := 24) (by decide +kernel) (hi_ca hH (hH.2.1 _ (wat_lt htl)) (.inl rfl)) (hi_ca hH k_wd (by decide)) (fun (q21 : ¬ Value.ref (wat L x) = .ref wd) => ?_) (fun (q21 : ¬ ¬ Value.ref (wat L x) = .ref wd) => ?_)
    · have q21 : ¬ (wat L x) = wd := fun h => q21 (by rw [h])
      refine hs_k (x := Int32.ofNat 0) (p := 29) (by decide +kernel) ?_
      refine hs_zret (by decide +kernel) (.inl rfl) ?_
      rw [if_neg q21]
      rfl
    · have q21 : (wat L x) = wd := Value.ref.inj (Decidable.of_not_not q21)
      refine hs_k (x := Int32.ofNat 1) (p := 25) (by decide +kernel) ?_
      refine hs_goto (p := 29) (by decide +kernel) ?_
      refine hs_zret (by decide +kernel) (.inr rfl) ?_
      rw [if_pos q21]
      rfl
theorem fc_wh1 (hH : et_H et_TT K G) (k_rd : K rd = some 7) (htk : tk K G rd L) (htl : tl L) (r8 : et_pl (eg_at G rd) 8 = some (.int (Int32.ofNat x))) (hx : x ≤ L.length) : et_go none d2 79 0 (eg_en (eg_mL 79) [.ref rd, .int (Int32.ofNat 1)]) [] G 0 0 (xp_Z G (some (if sp_tw (wat L x) = true then .ref (wat L x) else .null))) := by
  obtain ⟨ta, ba, na, ⟨k_ta, k_ba, k_na⟩, ⟨r4, r5, r6, r7⟩, hl4, -⟩ := id htk
  rw [show eg_mL 79 = 2 from by decide +kernel]
  show et_go none d2 79 0 [some (.ref rd), some (.int (Int32.ofNat 1))] [] G 0 0 _
  refine hs_aload (i := 0) (p := 1) (by decide +kernel) rfl ?_
  refine hf_get (T := et_TT) (t := 7) (ci := 5) (f := 8) (p := 4) (by decide +kernel) rfl hH k_rd r8 ?_
  refine hs_aload (i := 0) (p := 5) (by decide +kernel) rfl ?_
  refine hf_get (T := et_TT) (t := 7) (ci := 5) (f := 7) (p := 8) (by decide +kernel) rfl hH k_rd r7 ?_
  refine hs_br2n (c := .ge) (t := 51) (f := 11) (by decide +kernel) (by omega) (by omega) (fun (c8 : (L.length + 1) ≤ x) => ?_) (fun (c8 : ¬ ((L.length + 1) ≤ x)) => ?_)
  · exact absurd c8 (by omega)
  · refine hs_aload (i := 0) (p := 12) (by decide +kernel) rfl ?_
    refine hf_get (T := et_TT) (t := 7) (ci := 5) (f := 4) (p := 15) (by decide +kernel) rfl hH k_rd r4 ?_
    refine hs_aload (i := 0) (p := 16) (by decide +kernel) rfl ?_
    refine hf_get (T := et_TT) (t := 7) (ci := 5) (f := 8) (p := 19) (by decide +kernel) rfl hH k_rd r8 ?_
    refine hf_ald (ins := .aaload) (T := et_TT) (t := 41) (kd := 9) (N := 401) (p := 20) (by decide +kernel) (fun _ _ _ _ _ _ _ _ _ _ => rfl) rfl rfl rfl hH k_ta (by decide) (htk.w hx r4) ?_
    refine hs_ifnull1 (p := 23) (by decide +kernel) ?_
    refine hs_aload (i := 0) (p := 24) (by decide +kernel) rfl ?_
    refine hf_get (T := et_TT) (t := 7) (ci := 5) (f := 4) (p := 27) (by decide +kernel) rfl hH k_rd r4 ?_
    refine hs_aload (i := 0) (p := 28) (by decide +kernel) rfl ?_
    refine hf_get (T := et_TT) (t := 7) (ci := 5) (f := 8) (p := 31) (by decide +kernel) rfl hH k_rd r8 ?_
    refine hf_ald (ins := .aaload) (T := et_TT) (t := 41) (kd := 9) (N := 401) (p := 32) (by decide +kernel) (fun _ _ _ _ _ _ _ _ _ _ => rfl) rfl rfl rfl hH k_ta (by decide) (htk.w hx r4) ?_
    refine hs_get (ci := 12) (f := 3) (p := 35) (by decide +kernel) (hw_at (wat_lt htl)) (by have := (wat_lt htl (x := x)); have := hH.1; have hNC : eg_NC = 152 := rfl; omega) (tk_kd (wat_lt htl)) ?_
    have hkd : (if sp_tw (wat L x) = true then 1 else if sp_fw (wat L x) = true then 2 else 0) ≤ 2 := by split; decide; split <;> decide
    refine hs_iload (i := 1) (p := 36) (by decide +kernel) rfl ?_
    refine hs_br2n (c := .ne) (t := 51) (f := 39) (by decide +kernel) (by omega) (by omega) (fun (c36 : ¬ (if sp_tw (wat L x) = true then 1 else if sp_fw (wat L x) = true then 2 else 0) = 1) => ?_) (fun (c36 : ¬ (¬ (if sp_tw (wat L x) = true then 1 else if sp_fw (wat L x) = true then 2 else 0) = 1)) => ?_)
    · refine hs_nul (p := 52) (by decide +kernel) ?_
      refine hs_aretN (cn := "KnobEye$Word") (by decide +kernel) ?_
      rw [if_neg (fun h => by rw [if_pos h] at c36; exact c36 rfl)]
      rfl
    · refine hs_aload (i := 0) (p := 40) (by decide +kernel) rfl ?_
      refine hf_get (T := et_TT) (t := 7) (ci := 5) (f := 4) (p := 43) (by decide +kernel) rfl hH k_rd r4 ?_
      refine hs_aload (i := 0) (p := 44) (by decide +kernel) rfl ?_
      refine hf_get (T := et_TT) (t := 7) (ci := 5) (f := 8) (p := 47) (by decide +kernel) rfl hH k_rd r8 ?_
      refine hf_ald (ins := .aaload) (T := et_TT) (t := 41) (kd := 9) (N := 401) (p := 48) (by decide +kernel) (fun _ _ _ _ _ _ _ _ _ _ => rfl) rfl rfl rfl hH k_ta (by decide) (htk.w hx r4) ?_
      refine hs_goto (p := 52) (by decide +kernel) ?_
      refine hs_aret (cn := "KnobEye$Word") (by decide +kernel) ?_
      rw [if_pos (Decidable.by_contra (fun h => by rw [if_neg h] at c36; split at c36 <;> exact c36 (by decide)))]
      rfl
theorem fc_wh2 (hH : et_H et_TT K G) (k_rd : K rd = some 7) (htk : tk K G rd L) (htl : tl L) (r8 : et_pl (eg_at G rd) 8 = some (.int (Int32.ofNat x))) (hx : x ≤ L.length) : et_go none d2 79 0 (eg_en (eg_mL 79) [.ref rd, .int (Int32.ofNat 2)]) [] G 0 0 (xp_Z G (some (if sp_fw (wat L x) = true then .ref (wat L x) else .null))) := by
  obtain ⟨ta, ba, na, ⟨k_ta, k_ba, k_na⟩, ⟨r4, r5, r6, r7⟩, hl4, -⟩ := id htk
  rw [show eg_mL 79 = 2 from by decide +kernel]
  show et_go none d2 79 0 [some (.ref rd), some (.int (Int32.ofNat 2))] [] G 0 0 _
  refine hs_aload (i := 0) (p := 1) (by decide +kernel) rfl ?_
  refine hf_get (T := et_TT) (t := 7) (ci := 5) (f := 8) (p := 4) (by decide +kernel) rfl hH k_rd r8 ?_
  refine hs_aload (i := 0) (p := 5) (by decide +kernel) rfl ?_
  refine hf_get (T := et_TT) (t := 7) (ci := 5) (f := 7) (p := 8) (by decide +kernel) rfl hH k_rd r7 ?_
  refine hs_br2n (c := .ge) (t := 51) (f := 11) (by decide +kernel) (by omega) (by omega) (fun (c8 : (L.length + 1) ≤ x) => ?_) (fun (c8 : ¬ ((L.length + 1) ≤ x)) => ?_)
  · exact absurd c8 (by omega)
  · refine hs_aload (i := 0) (p := 12) (by decide +kernel) rfl ?_
    refine hf_get (T := et_TT) (t := 7) (ci := 5) (f := 4) (p := 15) (by decide +kernel) rfl hH k_rd r4 ?_
    refine hs_aload (i := 0) (p := 16) (by decide +kernel) rfl ?_
    refine hf_get (T := et_TT) (t := 7) (ci := 5) (f := 8) (p := 19) (by decide +kernel) rfl hH k_rd r8 ?_
    refine hf_ald (ins := .aaload) (T := et_TT) (t := 41) (kd := 9) (N := 401) (p := 20) (by decide +kernel) (fun _ _ _ _ _ _ _ _ _ _ => rfl) rfl rfl rfl hH k_ta (by decide) (htk.w hx r4) ?_
    refine hs_ifnull1 (p := 23) (by decide +kernel) ?_
    refine hs_aload (i := 0) (p := 24) (by decide +kernel) rfl ?_
    refine hf_get (T := et_TT) (t := 7) (ci := 5) (f := 4) (p := 27) (by decide +kernel) rfl hH k_rd r4 ?_
    refine hs_aload (i := 0) (p := 28) (by decide +kernel) rfl ?_
    refine hf_get (T := et_TT) (t := 7) (ci := 5) (f := 8) (p := 31) (by decide +kernel) rfl hH k_rd r8 ?_
    refine hf_ald (ins := .aaload) (T := et_TT) (t := 41) (kd := 9) (N := 401) (p := 32) (by decide +kernel) (fun _ _ _ _ _ _ _ _ _ _ => rfl) rfl rfl rfl hH k_ta (by decide) (htk.w hx r4) ?_
    refine hs_get (ci := 12) (f := 3) (p := 35) (by decide +kernel) (hw_at (wat_lt htl)) (by have := (wat_lt htl (x := x)); have := hH.1; have hNC : eg_NC = 152 := rfl; omega) (tk_kd (wat_lt htl)) ?_
    have hkd : (if sp_tw (wat L x) = true then 1 else if sp_fw (wat L x) = true then 2 else 0) ≤ 2 := by split; decide; split <;> decide
    refine hs_iload (i := 1) (p := 36) (by decide +kernel) rfl ?_
    refine hs_br2n (c := .ne) (t := 51) (f := 39) (by decide +kernel) (by omega) (by omega) (fun (c36 : ¬ (if sp_tw (wat L x) = true then 1 else if sp_fw (wat L x) = true then 2 else 0) = 2) => ?_) (fun (c36 : ¬ (¬ (if sp_tw (wat L x) = true then 1 else if sp_fw (wat L x) = true then 2 else 0) = 2)) => ?_)
    · refine hs_nul (p := 52) (by decide +kernel) ?_
      refine hs_aretN (cn := "KnobEye$Word") (by decide +kernel) ?_
      rw [if_neg (fun h => by rw [if_neg (by rw [tk_tf h]; decide), if_pos h] at c36; exact c36 rfl)]
      rfl
    · refine hs_aload (i := 0) (p := 40) (by decide +kernel) rfl ?_
      refine hf_get (T := et_TT) (t := 7) (ci := 5) (f := 4) (p := 43) (by decide +kernel) rfl hH k_rd r4 ?_
      refine hs_aload (i := 0) (p := 44) (by decide +kernel) rfl ?_
      refine hf_get (T := et_TT) (t := 7) (ci := 5) (f := 8) (p := 47) (by decide +kernel) rfl hH k_rd r8 ?_
      refine hf_ald (ins := .aaload) (T := et_TT) (t := 41) (kd := 9) (N := 401) (p := 48) (by decide +kernel) (fun _ _ _ _ _ _ _ _ _ _ => rfl) rfl rfl rfl hH k_ta (by decide) (htk.w hx r4) ?_
      refine hs_goto (p := 52) (by decide +kernel) ?_
      refine hs_aret (cn := "KnobEye$Word") (by decide +kernel) ?_
      rw [if_pos (Decidable.by_contra (fun h => by rw [if_neg h] at c36; split at c36 <;> exact c36 (by decide)))]
      rfl
theorem fc_fail (hH : et_H et_TT K G) (k_rd : K rd = some 7) (htk : tk K G rd L) (htl : tl L) (r8 : et_pl (eg_at G rd) 8 = some (.int (Int32.ofNat x))) (hx : x ≤ L.length) (r2 : et_pl (eg_at G rd) 2 = some (.int (-1))) : et_go none d2 76 0 (eg_en (eg_mL 76) [.ref rd]) [] G 0 0 (xw_Z (fun b j => (b = rd ∧ j = 2)) K G (fun G' v => v = some .null ∧ ∃ q, q ≤ 400 ∧ et_pl (eg_at G' rd) 2 = some (.int (Int32.ofNat q)))) := by
  obtain ⟨ta, ba, na, ⟨k_ta, k_ba, k_na⟩, ⟨r4, r5, r6, r7⟩, hl4, -⟩ := id htk
  obtain ⟨z, hz, hbz⟩ := htk.b hx r5
  rw [show eg_mL 76 = 1 from by decide +kernel]
  show et_go none d2 76 0 [some (.ref rd)] [] G 0 0 _
  have lt_rd := (hH.2.2 _ _ k_rd).1
  have lt_ta := (hH.2.2 _ _ k_ta).1
  have lt_ba := (hH.2.2 _ _ k_ba).1
  have lt_na := (hH.2.2 _ _ k_na).1
  have hX : xf (fun b j => (b = rd ∧ j = 2)) G G := xf.rf
  refine hs_aload (i := 0) (p := 1) (by decide +kernel) rfl ?_
  refine hf_get (T := et_TT) (t := 7) (ci := 5) (f := 2) (p := 4) (by decide +kernel) rfl hH k_rd r2 ?_
  refine hs_k (x := (-1)) (p := 5) (by decide +kernel) ?_
  refine hs_br2 (c := .ne) (t := 32) (f := 8) (by decide +kernel) (fun (c5 : ¬ (-1) = (-1)) => ?_) (fun (c5 : ¬ (¬ (-1) = (-1))) => ?_)
  · exact absurd rfl c5
  · refine hs_aload (i := 0) (p := 9) (by decide +kernel) rfl ?_
    refine hf_get (T := et_TT) (t := 7) (ci := 5) (f := 8) (p := 12) (by decide +kernel) rfl hH k_rd r8 ?_
    refine hs_aload (i := 0) (p := 13) (by decide +kernel) rfl ?_
    refine hf_get (T := et_TT) (t := 7) (ci := 5) (f := 7) (p := 16) (by decide +kernel) rfl hH k_rd r7 ?_
    refine hs_br2n (c := .ge) (t := 32) (f := 19) (by decide +kernel) (by omega) (by omega) (fun (c16 : (L.length + 1) ≤ x) => ?_) (fun (c16 : ¬ ((L.length + 1) ≤ x)) => ?_)
    · exact absurd c16 (by omega)
    · refine hs_aload (i := 0) (p := 20) (by decide +kernel) rfl ?_
      refine hs_aload (i := 0) (p := 21) (by decide +kernel) rfl ?_
      refine hf_get (T := et_TT) (t := 7) (ci := 5) (f := 5) (p := 24) (by decide +kernel) rfl hH k_rd r5 ?_
      refine hs_aload (i := 0) (p := 25) (by decide +kernel) rfl ?_
      refine hf_get (T := et_TT) (t := 7) (ci := 5) (f := 8) (p := 28) (by decide +kernel) rfl hH k_rd r8 ?_
      refine hf_ald (ins := .iaload) (T := et_TT) (t := 21) (kd := 0) (N := 401) (p := 29) (by decide +kernel) (fun _ _ _ _ _ _ _ _ _ _ => rfl) rfl rfl rfl hH k_ba (by decide) hbz ?_
      refine hf_put (T := et_TT) (t := 7) (ci := 5) (f := 2) (p := 32) (ty := .int) (by decide +kernel) rfl rfl rfl rfl rfl hH k_rd hi_any (fun G29 hH x29 e29 => ?_)
      have r4 := (x29.2 rd 4 lt_rd (fun h => absurd h.2 (by decide))).trans r4
      have r5 := (x29.2 rd 5 lt_rd (fun h => absurd h.2 (by decide))).trans r5
      have r6 := (x29.2 rd 6 lt_rd (fun h => absurd h.2 (by decide))).trans r6
      have r7 := (x29.2 rd 7 lt_rd (fun h => absurd h.2 (by decide))).trans r7
      have r8 := (x29.2 rd 8 lt_rd (fun h => absurd h.2 (by decide))).trans r8
      have lt_rd := Nat.lt_of_lt_of_le lt_rd x29.1
      have lt_ta := Nat.lt_of_lt_of_le lt_ta x29.1
      have lt_ba := Nat.lt_of_lt_of_le lt_ba x29.1
      have lt_na := Nat.lt_of_lt_of_le lt_na x29.1
      have hX := hX.tr x29 (fun b j hb h => by first | omega | (dsimp only at h ⊢; omega) | (dsimp only at h; omega) | (dsimp only; omega))
      refine hs_nul (p := 33) (by decide +kernel) ?_
      refine hs_aretN (cn := "KnobEye$Node") (by decide +kernel) ?_
      exact ⟨_, _, rfl, hH, hX, rfl, _, hz, e29⟩
theorem fc_failq (hH : et_H et_TT K G) (k_rd : K rd = some 7) (htk : tk K G rd L) (htl : tl L) (r8 : et_pl (eg_at G rd) 8 = some (.int (Int32.ofNat x))) (hx : x ≤ L.length) {q : Nat} (hq : q ≤ 400) (r2 : et_pl (eg_at G rd) 2 = some (.int (Int32.ofNat q))) : et_go none d2 76 0 (eg_en (eg_mL 76) [.ref rd]) [] G 0 0 (xw_Z (fun b j => (b = rd ∧ j = 2)) K G (fun G' v => v = some .null ∧ ∃ q, q ≤ 400 ∧ et_pl (eg_at G' rd) 2 = some (.int (Int32.ofNat q)))) := by
  obtain ⟨ta, ba, na, ⟨k_ta, k_ba, k_na⟩, ⟨r4, r5, r6, r7⟩, hl4, -⟩ := id htk
  obtain ⟨z, hz, hbz⟩ := htk.b hx r5
  rw [show eg_mL 76 = 1 from by decide +kernel]
  show et_go none d2 76 0 [some (.ref rd)] [] G 0 0 _
  have lt_rd := (hH.2.2 _ _ k_rd).1
  have lt_ta := (hH.2.2 _ _ k_ta).1
  have lt_ba := (hH.2.2 _ _ k_ba).1
  have lt_na := (hH.2.2 _ _ k_na).1
  have hX : xf (fun b j => (b = rd ∧ j = 2)) G G := xf.rf
  refine hs_aload (i := 0) (p := 1) (by decide +kernel) rfl ?_
  refine hf_get (T := et_TT) (t := 7) (ci := 5) (f := 2) (p := 4) (by decide +kernel) rfl hH k_rd r2 ?_
  refine hs_k (x := (-1)) (p := 5) (by decide +kernel) ?_
  refine hs_br2 (c := .ne) (t := 32) (f := 8) (by decide +kernel) (fun (c5 : ¬ Int32.ofNat q = (-1)) => ?_) (fun (c5 : ¬ (¬ Int32.ofNat q = (-1))) => ?_)
  · refine hs_nul (p := 33) (by decide +kernel) ?_
    refine hs_aretN (cn := "KnobEye$Node") (by decide +kernel) ?_
    exact ⟨_, _, rfl, hH, hX, rfl, _, hq, r2⟩
  · exact absurd (Decidable.of_not_not c5) (xi_nm1 (by omega))
theorem xi_m1 {v : Nat} (h : v < 2147483648) : ¬ Int32.ofNat v < 0 := rs_nn h
theorem fc_tn (hH : et_H et_TT K G) (k_rd : K rd = some 7) (htk : tk K G rd L) (htl : tl L) (r8 : et_pl (eg_at G rd) 8 = some (.int (Int32.ofNat x))) (hx : x ≤ L.length) (r2 : et_pl (eg_at G rd) 2 = some (.int (-1))) (hmo : mo ≤ 100) (hd : 1 ≤ d2) : et_go none d2 83 0 (eg_en (eg_mL 83) [.ref rd, .int (Int32.ofNat mo)]) [] G 0 0 (xw_Z (fun b j => (b = rd ∧ j = 2) ∨ (b = rd ∧ j = 8)) K G (fun G' r => (∃ v, L[x]? = some (33, some v) ∧ v ≤ mo ∧ r = some (.int (Int32.ofNat v)) ∧ et_pl (eg_at G' rd) 8 = some (.int (Int32.ofNat (x + 1))) ∧ et_pl (eg_at G' rd) 2 = some (.int (-1))) ∨ ((∀ v, L[x]? = some (33, some v) → ¬ v ≤ mo) ∧ r = some (.int (-1)) ∧ et_pl (eg_at G' rd) 8 = some (.int (Int32.ofNat x)) ∧ ∃ q, q ≤ 400 ∧ et_pl (eg_at G' rd) 2 = some (.int (Int32.ofNat q))))) := by
  obtain ⟨d, rfl⟩ : ∃ d, d2 = d + 1 := ⟨d2 - 1, by omega⟩
  obtain ⟨ta, ba, na, ⟨k_ta, k_ba, k_na⟩, ⟨r4, r5, r6, r7⟩, hl4, -⟩ := id htk
  rw [show eg_mL 83 = 3 from by decide +kernel]
  show et_go none (d + 1) 83 0 [some (.ref rd), some (.int (Int32.ofNat mo)), none] [] G 0 0 _
  have lt_rd := (hH.2.2 _ _ k_rd).1
  have lt_ta := (hH.2.2 _ _ k_ta).1
  have lt_ba := (hH.2.2 _ _ k_ba).1
  have lt_na := (hH.2.2 _ _ k_na).1
  have hX : xf (fun b j => (b = rd ∧ j = 2) ∨ (b = rd ∧ j = 8)) G G := xf.rf
  refine hs_aload (i := 0) (p := 1) (by decide +kernel) rfl ?_
  refine hf_get (T := et_TT) (t := 7) (ci := 5) (f := 8) (p := 4) (by decide +kernel) rfl hH k_rd r8 ?_
  refine hs_aload (i := 0) (p := 5) (by decide +kernel) rfl ?_
  refine hf_get (T := et_TT) (t := 7) (ci := 5) (f := 7) (p := 8) (by decide +kernel) rfl hH k_rd r7 ?_
  refine hs_br2n (c := .ge) (t := 33) (f := 11) (by decide +kernel) (by omega) (by omega) (fun (c8 : (L.length + 1) ≤ x) => ?_) (fun (c8 : ¬ ((L.length + 1) ≤ x)) => ?_)
  · exact absurd c8 (by omega)
  · refine hs_aload (i := 0) (p := 12) (by decide +kernel) rfl ?_
    refine hs_gst (v := Value.ref 33) (p := 15) (by decide +kernel) ?_
    refine ht_callv (T := et_TT) (t := 7) (mi := 78) (na := 1) (ci := 5) (lk := 3) (lm := 2) (L0 := eg_en (eg_mL 78) [.ref rd, .ref 33]) (by decide +kernel) rfl hH k_rd rfl rfl rfl rfl rfl (by rw [show eg_mL 78 = 2 from by decide +kernel]; first | done | rfl) ?_
    refine (fc_is hH k_rd htk htl r8 hx (wd := 33) (by decide)).mono (fun u hu => xp_cb hu ?_)
    by_cases i15 : wat L x = 33
    · rw [if_pos i15]
      show et_go none _ 83 18 _ [.int (Int32.ofNat 1)] _ _ _ _
      refine hs_if0 (c := .eq) (t := 33) (f := 21) (by decide +kernel) (show ¬ (Int32.ofNat 1 = 0) by decide) ?_
      refine hs_aload (i := 0) (p := 22) (by decide +kernel) rfl ?_
      refine hf_get (T := et_TT) (t := 7) (ci := 5) (f := 6) (p := 25) (by decide +kernel) rfl hH k_rd r6 ?_
      refine hs_aload (i := 0) (p := 26) (by decide +kernel) rfl ?_
      refine hf_get (T := et_TT) (t := 7) (ci := 5) (f := 8) (p := 29) (by decide +kernel) rfl hH k_rd r8 ?_
      obtain ⟨nn, hnn, hxl⟩ := wat_t i15 (by decide)
      have htn := htk.n hnn r6
      cases nn with
      | none =>
        have htn : et_pl (eg_at G na) x = some (.int (-1)) := htn
        refine hf_ald (ins := .iaload) (T := et_TT) (t := 21) (kd := 0) (N := 401) (p := 30) (by decide +kernel) (fun _ _ _ _ _ _ _ _ _ _ => rfl) rfl rfl rfl hH k_na (by decide) htn ?_
        refine hs_goto (p := 34) (by decide +kernel) ?_
        refine hs_istore (i := 2) (p := 35) (by decide +kernel) (Nat.le_of_ble_eq_true rfl) ?_
        refine hs_iload (i := 2) (p := 36) (by decide +kernel) rfl ?_
        refine hs_if1 (c := .lt) (t := 44) (f := 39) (by decide +kernel) (show (-1 : Int32) < 0 by decide) ?_
        refine hs_aload (i := 0) (p := 45) (by decide +kernel) rfl ?_
        refine ht_callv (T := et_TT) (t := 7) (mi := 76) (na := 0) (ci := 5) (lk := 3) (lm := 1) (L0 := eg_en (eg_mL 76) [.ref rd]) (by decide +kernel) rfl hH k_rd rfl rfl rfl rfl rfl (by rw [show eg_mL 76 = 1 from by decide +kernel]; first | done | rfl) ?_
        refine (fc_fail hH k_rd htk htl r8 hx r2).mono (fun u hu => xw_cb hu (fun G45 v45 hH x45 hP45 => ?_))
        have r4 := (x45.2 rd 4 lt_rd (fun h => absurd h.2 (by decide))).trans r4
        have r5 := (x45.2 rd 5 lt_rd (fun h => absurd h.2 (by decide))).trans r5
        have r6 := (x45.2 rd 6 lt_rd (fun h => absurd h.2 (by decide))).trans r6
        have r7 := (x45.2 rd 7 lt_rd (fun h => absurd h.2 (by decide))).trans r7
        have r8 := (x45.2 rd 8 lt_rd (fun h => absurd h.2 (by decide))).trans r8
        have lt_rd := Nat.lt_of_lt_of_le lt_rd x45.1
        have lt_ta := Nat.lt_of_lt_of_le lt_ta x45.1
        have lt_ba := Nat.lt_of_lt_of_le lt_ba x45.1
        have lt_na := Nat.lt_of_lt_of_le lt_na x45.1
        have hX := hX.tr x45 (fun b j hb h => by first | omega | (dsimp only at h ⊢; omega) | (dsimp only at h; omega) | (dsimp only; omega))
        obtain ⟨rfl, q, hq, hqq⟩ := hP45
        show et_go none _ 83 48 _ [.null] _ _ _ _
        refine hs_popn (p := 49) (by decide +kernel) ?_
        refine hs_k (x := (-1)) (p := 50) (by decide +kernel) ?_
        refine hs_iret (by decide +kernel) ?_
        exact ⟨_, _, rfl, hH, hX, .inr ⟨(fun v hv => by rw [hnn] at hv; cases hv), rfl, r8, q, hq, hqq⟩⟩
      | some vv =>
        have htn : et_pl (eg_at G na) x = some (.int (Int32.ofNat vv)) := htn
        have hvv := (htl _ (List.mem_of_getElem? hnn)).2 vv rfl
        refine hf_ald (ins := .iaload) (T := et_TT) (t := 21) (kd := 0) (N := 401) (p := 30) (by decide +kernel) (fun _ _ _ _ _ _ _ _ _ _ => rfl) rfl rfl rfl hH k_na (by decide) htn ?_
        refine hs_goto (p := 34) (by decide +kernel) ?_
        refine hs_istore (i := 2) (p := 35) (by decide +kernel) (Nat.le_of_ble_eq_true rfl) ?_
        refine hs_iload (i := 2) (p := 36) (by decide +kernel) rfl ?_
        refine hs_if0 (c := .lt) (t := 44) (f := 39) (by decide +kernel) (rs_nn (by omega)) ?_
        refine hs_iload (i := 2) (p := 40) (by decide +kernel) rfl ?_
        refine hs_iload (i := 1) (p := 41) (by decide +kernel) rfl ?_
        refine hs_br2n (c := .le) (t := 51) (f := 44) (by decide +kernel) (by omega) (by omega) (fun (c41 : vv ≤ mo) => ?_) (fun (c41 : ¬ (vv ≤ mo)) => ?_)
        · refine hs_aload (i := 0) (p := 52) (by decide +kernel) rfl ?_
          refine hs_dup1 (p := 53) (by decide +kernel) ?_
          refine hf_get (T := et_TT) (t := 7) (ci := 5) (f := 8) (p := 56) (by decide +kernel) rfl hH k_rd r8 ?_
          refine hs_k (x := Int32.ofNat 1) (p := 57) (by decide +kernel) ?_
          refine hs_iaddn (p := 58) (by decide +kernel) ?_
          refine hf_put (T := et_TT) (t := 7) (ci := 5) (f := 8) (p := 61) (ty := .int) (by decide +kernel) rfl rfl rfl rfl rfl hH k_rd (hi_nv (by omega) (by omega)) (fun G58 hH x58 e58 => ?_)
          have r4 := (x58.2 rd 4 lt_rd (fun h => absurd h.2 (by decide))).trans r4
          have r5 := (x58.2 rd 5 lt_rd (fun h => absurd h.2 (by decide))).trans r5
          have r6 := (x58.2 rd 6 lt_rd (fun h => absurd h.2 (by decide))).trans r6
          have r7 := (x58.2 rd 7 lt_rd (fun h => absurd h.2 (by decide))).trans r7
          have r2 := (x58.2 rd 2 lt_rd (fun h => absurd h.2 (by decide))).trans r2
          have lt_rd := Nat.lt_of_lt_of_le lt_rd x58.1
          have lt_ta := Nat.lt_of_lt_of_le lt_ta x58.1
          have lt_ba := Nat.lt_of_lt_of_le lt_ba x58.1
          have lt_na := Nat.lt_of_lt_of_le lt_na x58.1
          have hX := hX.tr x58 (fun b j hb h => by first | omega | (dsimp only at h ⊢; omega) | (dsimp only at h; omega) | (dsimp only; omega))
          refine hs_iload (i := 2) (p := 62) (by decide +kernel) rfl ?_
          refine hs_iret (by decide +kernel) ?_
          exact ⟨_, _, rfl, hH, hX, .inl ⟨vv, hnn, by omega, rfl, e58, r2⟩⟩
        · refine hs_aload (i := 0) (p := 45) (by decide +kernel) rfl ?_
          refine ht_callv (T := et_TT) (t := 7) (mi := 76) (na := 0) (ci := 5) (lk := 3) (lm := 1) (L0 := eg_en (eg_mL 76) [.ref rd]) (by decide +kernel) rfl hH k_rd rfl rfl rfl rfl rfl (by rw [show eg_mL 76 = 1 from by decide +kernel]; first | done | rfl) ?_
          refine (fc_fail hH k_rd htk htl r8 hx r2).mono (fun u hu => xw_cb hu (fun G45 v45 hH x45 hP45 => ?_))
          have r4 := (x45.2 rd 4 lt_rd (fun h => absurd h.2 (by decide))).trans r4
          have r5 := (x45.2 rd 5 lt_rd (fun h => absurd h.2 (by decide))).trans r5
          have r6 := (x45.2 rd 6 lt_rd (fun h => absurd h.2 (by decide))).trans r6
          have r7 := (x45.2 rd 7 lt_rd (fun h => absurd h.2 (by decide))).trans r7
          have r8 := (x45.2 rd 8 lt_rd (fun h => absurd h.2 (by decide))).trans r8
          have lt_rd := Nat.lt_of_lt_of_le lt_rd x45.1
          have lt_ta := Nat.lt_of_lt_of_le lt_ta x45.1
          have lt_ba := Nat.lt_of_lt_of_le lt_ba x45.1
          have lt_na := Nat.lt_of_lt_of_le lt_na x45.1
          have hX := hX.tr x45 (fun b j hb h => by first | omega | (dsimp only at h ⊢; omega) | (dsimp only at h; omega) | (dsimp only; omega))
          obtain ⟨rfl, q, hq, hqq⟩ := hP45
          show et_go none _ 83 48 _ [.null] _ _ _ _
          refine hs_popn (p := 49) (by decide +kernel) ?_
          refine hs_k (x := (-1)) (p := 50) (by decide +kernel) ?_
          refine hs_iret (by decide +kernel) ?_
          exact ⟨_, _, rfl, hH, hX, .inr ⟨(fun v hv => by rw [hnn] at hv; cases hv; omega), rfl, r8, q, hq, hqq⟩⟩
    · rw [if_neg i15]
      show et_go none _ 83 18 _ [.int (Int32.ofNat 0)] _ _ _ _
      refine hs_if1 (c := .eq) (t := 33) (f := 21) (by decide +kernel) (show Int32.ofNat 0 = 0 by decide) ?_
      refine hs_k (x := (-1)) (p := 34) (by decide +kernel) ?_
      refine hs_istore (i := 2) (p := 35) (by decide +kernel) (Nat.le_of_ble_eq_true rfl) ?_
      refine hs_iload (i := 2) (p := 36) (by decide +kernel) rfl ?_
      refine hs_if1 (c := .lt) (t := 44) (f := 39) (by decide +kernel) (show (-1 : Int32) < 0 by decide) ?_
      refine hs_aload (i := 0) (p := 45) (by decide +kernel) rfl ?_
      refine ht_callv (T := et_TT) (t := 7) (mi := 76) (na := 0) (ci := 5) (lk := 3) (lm := 1) (L0 := eg_en (eg_mL 76) [.ref rd]) (by decide +kernel) rfl hH k_rd rfl rfl rfl rfl rfl (by rw [show eg_mL 76 = 1 from by decide +kernel]; first | done | rfl) ?_
      refine (fc_fail hH k_rd htk htl r8 hx r2).mono (fun u hu => xw_cb hu (fun G45 v45 hH x45 hP45 => ?_))
      have r4 := (x45.2 rd 4 lt_rd (fun h => absurd h.2 (by decide))).trans r4
      have r5 := (x45.2 rd 5 lt_rd (fun h => absurd h.2 (by decide))).trans r5
      have r6 := (x45.2 rd 6 lt_rd (fun h => absurd h.2 (by decide))).trans r6
      have r7 := (x45.2 rd 7 lt_rd (fun h => absurd h.2 (by decide))).trans r7
      have r8 := (x45.2 rd 8 lt_rd (fun h => absurd h.2 (by decide))).trans r8
      have lt_rd := Nat.lt_of_lt_of_le lt_rd x45.1
      have lt_ta := Nat.lt_of_lt_of_le lt_ta x45.1
      have lt_ba := Nat.lt_of_lt_of_le lt_ba x45.1
      have lt_na := Nat.lt_of_lt_of_le lt_na x45.1
      have hX := hX.tr x45 (fun b j hb h => by first | omega | (dsimp only at h ⊢; omega) | (dsimp only at h; omega) | (dsimp only; omega))
      obtain ⟨rfl, q, hq, hqq⟩ := hP45
      show et_go none _ 83 48 _ [.null] _ _ _ _
      refine hs_popn (p := 49) (by decide +kernel) ?_
      refine hs_k (x := (-1)) (p := 50) (by decide +kernel) ?_
      refine hs_iret (by decide +kernel) ?_
      exact ⟨_, _, rfl, hH, hX, .inr ⟨(fun v hv => absurd (by unfold wat; rw [hv]) i15), rfl, r8, q, hq, hqq⟩⟩
end FNA
