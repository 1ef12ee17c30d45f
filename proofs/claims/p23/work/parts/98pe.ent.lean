/-! the entry -/
theorem eg_fs {l : List Cond} {ps : List Nat} {args : Array Value} {s : State} (hs : ∀ c ∈ eg_fl, c.before args s = true) (h : l = ps.filterMap (fun i => eg_fl[i]?)) : ∀ w ∈ l, w.before args s = true := by
  intro w hw
  rw [h] at hw
  obtain ⟨i, -, hi⟩ := List.mem_filterMap.mp hw
  exact hs w (List.mem_of_getElem? hi)
theorem eg_mr1 {f : Nat → Cond} {n : Nat} {args : Array Value} {s : State} (h : ∀ w ∈ (List.range n).map f, w.before args s = true) : ∀ i, i < n → (f i).before args s = true := fun i hi => h _ (List.mem_map.mpr ⟨i, List.mem_range.mpr hi, rfl⟩)
theorem eg_arr {args : Array Value} {s : State} (hO : ∀ w ∈ eg_W9, w.before args s = true) (hN : ∀ w ∈ (((["KnobEye$Rule", "KnobEye$Eye", "KnobEye$Turner", "KnobEye$Claim", "KnobEye$Word", "KnobEye$Node"] : List String).map (fun c => Cond.arrayOver (.object c))) ++ [Cond.arrayOver (.array .int)]), w.before args s = true) :
    ∀ t : Nat, ∃ cA : ClassId, t < 12 → ArrOfT s cA (eg_tt t) ∧ va_RA s cA (eg_tt t) := by
  have hp : ∀ ty : FieldType, (Cond.arrayClass ty).before args s = true → (∀ C, ty ≠ .object C) → ∃ cA : ClassId, ArrOfT s cA ty ∧ va_RA s cA ty := fun ty h hno => by
    obtain ⟨c, k, comp, h1, h2, h3⟩ := Cond.arrayClass_spec h
    refine ⟨c, fun N z => ⟨(fun q hq => by cases hq), k, h2, comp, h3⟩, ?_⟩
    cases ty with
    | object C => exact absurd rfl (hno C)
    | _ => exact h1
  have ho : ∀ C : String, (Cond.arrayOver (.object C)).before args s = true → ∃ cA : ClassId, ArrOfT s cA (.object C) ∧ va_RA s cA (.object C) := fun C h => by
    obtain ⟨comp, c, k, h1, h2, h3, h4, h5⟩ := Cond.arrayOver_spec h
    exact ⟨c, fun N z => ⟨(fun q hq => by cases hq), k, h3, comp, h4⟩, k, comp, h3, h4, h1, h5⟩
  have ha : (Cond.arrayOver (.array .int)).before args s = true → ∃ cA : ClassId, ArrOfT s cA (.array .int) ∧ va_RA s cA (.array .int) := fun h => by
    obtain ⟨comp, c, k, h1, h2, h3, h4, h5⟩ := arrayOver_specB h
    exact ⟨c, fun N z => ⟨(fun q hq => by cases hq), k, h3, comp, h4⟩, h5⟩
  have go : ∀ {ty : FieldType} {P : Prop}, (∃ cA : ClassId, ArrOfT s cA ty ∧ va_RA s cA ty) → ∃ cA : ClassId, P → ArrOfT s cA ty ∧ va_RA s cA ty := fun ⟨c, h⟩ => ⟨c, fun _ => h⟩
  intro t
  match t with
  | 0 => exact go (hp .int (hO _ (by simp [eg_W9])) (fun C h => by cases h))
  | 1 => exact go (hp .byte (hO _ (by simp [eg_W9])) (fun C h => by cases h))
  | 2 => exact go (hp .long (hO _ (by simp [eg_W9])) (fun C h => by cases h))
  | 3 => exact go (hp .boolean (hO _ (by simp [eg_W9])) (fun C h => by cases h))
  | 4 => exact go (hp .char (hO _ (by simp [eg_W9])) (fun C h => by cases h))
  | 5 => exact go (ho "KnobEye$Rule" (hN _ (by simp)))
  | 6 => exact go (ho "KnobEye$Eye" (hN _ (by simp)))
  | 7 => exact go (ho "KnobEye$Turner" (hN _ (by simp)))
  | 8 => exact go (ho "KnobEye$Claim" (hN _ (by simp)))
  | 9 => exact go (ho "KnobEye$Word" (hN _ (by simp)))
  | 10 => exact go (ho "KnobEye$Node" (hN _ (by simp)))
  | 11 => exact go (ha (hN _ (by simp)))
  | n + 12 => exact ⟨0, fun h => absurd h (by omega)⟩
theorem eg_vaK {args : Array Value} {s : State} (hW : ∀ w ∈ eg_W, w.before args s = true) (hN : ∀ w ∈ (((["KnobEye$Rule", "KnobEye$Eye", "KnobEye$Turner", "KnobEye$Claim", "KnobEye$Word", "KnobEye$Node"] : List String).map (fun c => Cond.arrayOver (.object c))) ++ [Cond.arrayOver (.array .int)]), w.before args s = true) :
    ∃ (D : va_G) (dA : Nat → ClassId), va_K D eg_cl (eg_tys dA) s := by
  have h0 : ∀ ci : Nat, ∃ r : ClassId × (Nat → Nat), ∀ q, eg_cl[ci]? = some q → u_Kn s q.1 q.2.1 q.2.2 r.1 r.2 := fun ci => by
    cases hq : eg_cl[ci]? with
    | none => exact ⟨(0, fun _ => 0), fun q h => nomatch h⟩
    | some q =>
      have hm := List.mem_of_getElem? hq
      obtain ⟨cC, iS, h⟩ := u_known hW (eg_w7 hm) (hW _ (eg_w8 hm).1)
      exact ⟨(cC, iS), fun q' h' => by cases h'; exact h⟩
  obtain ⟨f, hf⟩ := Classical.axiomOfChoice h0
  obtain ⟨dA, hdA⟩ := Classical.axiomOfChoice (eg_arr (fun w h => hW w (eg_w9 h)) hN)
  refine ⟨(fun c => (f c).1, fun c => (f c).2), dA, fun c q hq => hf c q hq, fun k q hk => ?_⟩
  have hlt : k < 12 := by
    have := (List.getElem?_eq_some_iff.mp hk).1
    simpa [eg_tys] using this
  have h1 := eg_tys_at (dA := dA) hlt
  rw [h1] at hk
  cases hk
  exact hdA k hlt
theorem eg_iof {i j : Nat} (hi : i < 36) (hj : j < 36) (h : Int32.ofNat i = Int32.ofNat j) : i = j := by
  have h9 : (List.range 36).all (fun i => (List.range 36).all (fun j => decide (Int32.ofNat i ≠ Int32.ofNat j) || decide (i = j))) = true := by decide +kernel
  have h1 := List.all_eq_true.mp (List.all_eq_true.mp h9 i (List.mem_range.mpr hi)) j (List.mem_range.mpr hj)
  rcases (Bool.or_eq_true _ _ ▸ h1 : _ ∨ _) with h2 | h2
  · exact absurd h (of_decide_eq_true h2)
  · exact of_decide_eq_true h2
theorem eg_OF_inj {o n d : String} {v w : Value} {t : Nat} {A : Nat → Prop} {U : State} {H : Heap} (h1 : va_OF o n d v t A U H) (h2 : va_OF o n d w t A U H) : v = w := by
  obtain ⟨cf, k, i, f, cell, a1, a2, a3, a4, a5, -⟩ := h1
  obtain ⟨cf', k', i', f', cell', b1, b2, b3, b4, b5, -⟩ := h2
  cases a1.symm.trans b1
  cases a3.symm.trans b3
  exact Option.some.inj (a5.symm.trans b5)
def eg_ad0 (aw : Nat → Nat) (st : Nat → Nat × Nat) (tA tM b z i : Nat) : Nat := if i < 36 then aw i else if i < 92 then (st (i - 36)).1 else if i < 148 then (st (i - 92)).2 else if i = 148 then tA else if i = 149 then tM else if i = 150 then b else z
theorem eg_entry {p : Program} {s : State} {m : MethodId} {meth : Method} {c : Code} {b L : Nat} {xs : Nat → Int32} (C0 : lw_At p s m meth c b L xs) : ∃ (D : va_G) (dA : Nat → ClassId) (adc : Nat → Nat), eg_F s s.heap.size D dA adc ∧ adc 150 = b := by
  obtain ⟨hx, hcd, hr, hml, hown, hts, hX, hbl, hlocks, hpre⟩ := C0
  generalize hargs : #[Value.ref b] = args at hts hpre
  have hA : ∀ a : Nat, a < s.heap.size → ¬ eg_A s.heap.size a := fun a h => Nat.not_le.mpr h
  have hs : ∀ c ∈ eg_fl, c.before args s = true := flat_of_before _ hpre
  have hW : ∀ w ∈ eg_W, w.before args s = true := fun w h => hts w (eg_W_in w h)
  have hW10 : ∀ w ∈ eg_W10, w.before args s = true := fun w h => hts w (eg_W10_in w h)
  have ht : ∀ {l : List Cond} {ps : List Nat}, l = ps.filterMap (fun i => lw_tbl[i]?) → ∀ w ∈ l, w.before args s = true := fun h w hw => hts w (eg_pin h w hw)
  have h1 := eg_mr1 (eg_fs hs eg_n1)
  have h2 := eg_mr1 (eg_fs hs eg_n2)
  have h3 := eg_mr1 (eg_fs hs eg_n3)
  have h4 := eg_mr1 (eg_fs hs eg_n4)
  have h5 := eg_mr1 (eg_fs hs eg_n5)
  have h6 := eg_mr1 (eg_fs hs eg_n6)
  have h7 := eg_mr1 (eg_fs hs eg_n7)
  have h8 := eg_mr1 (eg_fs hs eg_n8)
  have h9 := eg_mr1 (eg_fs hs eg_n9)
  have h10 := eg_mr1 (eg_fs hs eg_n10)
  have h11 := eg_mr1 (eg_fs hs eg_n11)
  have h12 : ∀ j, j < 56 → ∀ k, k < (eg_by.getD j []).length → (Cond.eq (.elem (eg_tV j) (.int (Int32.ofNat k))) (.int ((eg_by.getD j []).getD k 0))).before args s = true := fun j hj k hk =>
    eg_fs hs eg_n12 _ (List.mem_flatMap.mpr ⟨j, List.mem_range.mpr hj, List.mem_map.mpr ⟨k, List.mem_range.mpr hk, rfl⟩⟩)
  have hN0 := eg_fs hs eg_n0
  have w0 : ∀ i : Nat, ∃ a : Nat, i < 36 → (eg_tW i).eval args s none [] s = some (.ref a) := fun i => by
    by_cases hi : i < 36
    · obtain ⟨a, c, cA, kA, q1, -⟩ := Cond.exactly_spec (args := args) (first := s) (o := none) (s := s) (idx := []) (h2 i hi)
      exact ⟨a, fun _ => q1⟩
    · exact ⟨0, fun h => absurd h hi⟩
  obtain ⟨aw, haw⟩ := Classical.axiomOfChoice w0
  have s0 : ∀ j : Nat, ∃ q : Nat × Nat, j < 56 → (eg_tS j).eval args s none [] s = some (.ref q.1) ∧ (eg_tV j).eval args s none [] s = some (.ref q.2) ∧ va_T .byte q.2 (eg_by.getD j []).length (fun k => .int ((eg_by.getD j []).getD k 0)) (eg_A s.heap.size) s s.heap := fun j => by
    by_cases hj : j < 56
    · obtain ⟨a, c, cA, kA, q1, -⟩ := Cond.exactly_spec (args := args) (first := s) (o := none) (s := s) (idx := []) (h8 j hj)
      have hlen : (eg_by.getD j []).length < 2 ^ 31 := of_decide_eq_true (List.all_eq_true.mp eg_blen j (List.mem_range.mpr hj))
      obtain ⟨t, g1, g2⟩ := va_Tof (f := fun k => .int ((eg_by.getD j []).getD k 0)) hlen (h10 j hj) (va_eqt (h11 j hj)) (fun k hk => va_eqt (h12 j hj k hk)) hA
      exact ⟨(a, t), fun _ => ⟨q1, g1, g2⟩⟩
    · exact ⟨(0, 0), fun h => absurd h hj⟩
  obtain ⟨st, hst⟩ := Classical.axiomOfChoice s0
  obtain ⟨tM, hM1, hM2⟩ := va_Tof (N := 36) (f := fun j => .int (eg_sw.getD j 0)) (by decide) (hN0 (.arrayOf eg_tM .int) (by simp)) (va_eqt (hN0 (.eq (.length eg_tM) (.int (Int32.ofNat 36))) (by simp))) (fun j hj => va_eqt (h1 j hj)) hA
  obtain ⟨tA, hA1, hA2⟩ := va_Tof (N := 36) (f := fun j => .ref (aw j)) (by decide) (hN0 (.arrayOf eg_tA (.object "KnobEye$Word")) (by simp)) (va_eqt (hN0 (.eq (.length eg_tA) (.int (Int32.ofNat 36))) (by simp))) (fun j hj => va_eqv (h7 j hj) (haw j hj)) hA
  obtain ⟨D, dA, hK⟩ := eg_vaK hW (ht eg_n19)
  obtain ⟨z, hz⟩ : ∃ z : Nat, va_Z "jdk/internal/util/Preconditions" "SIOOBE_FORMATTER" "Ljava/util/function/BiFunction;" (.ref z) (eg_A s.heap.size) s s.heap ∨ va_Z "jdk/internal/util/Preconditions" "SIOOBE_FORMATTER" "Ljava/util/function/BiFunction;" .null (eg_A s.heap.size) s s.heap := by
    have hls := ht eg_n15 (.laysStatic "jdk/internal/util/Preconditions" "SIOOBE_FORMATTER" "Ljava/util/function/BiFunction;") (by simp [eg_sv])
    have hin := ht eg_n16 (.initialized "jdk/internal/util/Preconditions") (by simp [eg_sv])
    rcases va_Zqof hls hin (hs (.isRef (.static "jdk/internal/util/Preconditions" "SIOOBE_FORMATTER" "Ljava/util/function/BiFunction;")) (by decide +kernel)) hA with h | ⟨q, h⟩
    · exact ⟨0, .inr h⟩
    · exact ⟨q, .inl h⟩
  have e1 : ∀ i, i < 36 → eg_ad0 aw st tA tM b z i = aw i := fun i hi => if_pos hi
  have e2 : ∀ j, j < 56 → eg_ad0 aw st tA tM b z (36 + j) = (st j).1 := fun j hj => by
    unfold eg_ad0
    rw [if_neg (by omega), if_pos (by omega), show 36 + j - 36 = j by omega]
  have e3 : ∀ j, j < 56 → eg_ad0 aw st tA tM b z (92 + j) = (st j).2 := fun j hj => by
    unfold eg_ad0
    rw [if_neg (by omega), if_neg (by omega), if_pos (by omega), show 92 + j - 92 = j by omega]
  have e4 : eg_ad0 aw st tA tM b z 148 = tA := rfl
  have e5 : eg_ad0 aw st tA tM b z 149 = tM := rfl
  have e6 : eg_ad0 aw st tA tM b z 150 = b := rfl
  have e7 : eg_ad0 aw st tA tM b z 151 = z := rfl
  generalize eg_ad0 aw st tA tM b z = adc at e1 e2 e3 e4 e5 e6 e7
  have hord : ∀ i, i < 36 → va_OF "java/lang/Enum" "ordinal" "I" (.int (Int32.ofNat i)) (adc i) (eg_A s.heap.size) s s.heap := fun i hi => by
    rw [e1 i hi]
    exact vk_OFof (haw i hi) (va_eqt (h3 i hi)) hA
  have hwfb : ∀ i, i < 36 → (eg_wf.getD i (0, 0, 0)).1 < 56 := by decide +kernel
  have hO : ∀ i, i < 36 → va_O "KnobEye$Word" (adc i) (eg_A s.heap.size) s s.heap := fun i hi => by
    rw [e1 i hi]
    exact va_Oof (h2 i hi) (haw i hi) hA
  have hSO : ∀ j, j < 56 → va_O "java/lang/String" (adc (36 + j)) (eg_A s.heap.size) s s.heap := fun j hj => by
    rw [e2 j hj]
    exact va_Oof (h8 j hj) (hst j hj).1 hA
  have hlow : ∀ {a : Nat} {ty : FieldType} {N : Nat} {f : Nat → Value}, va_T ty a N f (eg_A s.heap.size) s s.heap → a < s.heap.size := fun h => by
    obtain ⟨cell, h1, -⟩ := h
    exact (Array.getElem?_eq_some_iff.mp h1).1
  have hlowO : ∀ {E : String} {a : Nat}, va_O E a (eg_A s.heap.size) s s.heap → a < s.heap.size := fun h => by
    obtain ⟨cell, h1, -⟩ := h
    exact (Array.getElem?_eq_some_iff.mp h1).1
  have hNC : eg_NC = 152 := rfl
  have hNS : eg_NS = 56 := rfl
  have hKK : eg_K s s.heap.size adc := by
    refine ⟨fun C n d v hv => ?_, fun i ci fs hi hcon k v hv => ?_, fun i t x hi hcon => ?_, fun i j hi hj h => ?_, fun i hi => ?_, hO, fun j hj => hSO j hj, fun o idx j hj => ?_⟩
    · have hls := ht eg_n15 _ (List.mem_map.mpr ⟨(C, n, d, v), hv, rfl⟩)
      have hin := ht eg_n16 _ (List.mem_map.mpr ⟨(C, n, d, v), hv, rfl⟩)
      have hsv : ∀ q ∈ eg_sv, (Term.static q.1 q.2.1 q.2.2.1).eval args s none [] s = some (eg_v adc q.2.2.2) ∨ q = ("jdk/internal/util/Preconditions", "SIOOBE_FORMATTER", "Ljava/util/function/BiFunction;", Value.ref 151) := by
        unfold eg_sv
        exact List.forall_mem_cons.mpr ⟨Or.inl (hA1.trans (congrArg (fun z => some (Value.ref z)) e4.symm)), List.forall_mem_cons.mpr ⟨Or.inl (hM1.trans (congrArg (fun z => some (Value.ref z)) e5.symm)), List.forall_mem_cons.mpr ⟨Or.inl ((haw 20 (by decide)).trans (congrArg (fun z => some (Value.ref z)) (e1 20 (by decide)).symm)), List.forall_mem_cons.mpr ⟨Or.inl ((haw 32 (by decide)).trans (congrArg (fun z => some (Value.ref z)) (e1 32 (by decide)).symm)), List.forall_mem_cons.mpr ⟨Or.inl ((haw 2 (by decide)).trans (congrArg (fun z => some (Value.ref z)) (e1 2 (by decide)).symm)), List.forall_mem_cons.mpr ⟨Or.inl ((haw 24 (by decide)).trans (congrArg (fun z => some (Value.ref z)) (e1 24 (by decide)).symm)), List.forall_mem_cons.mpr ⟨Or.inl ((haw 34 (by decide)).trans (congrArg (fun z => some (Value.ref z)) (e1 34 (by decide)).symm)), List.forall_mem_cons.mpr ⟨Or.inl ((haw 31 (by decide)).trans (congrArg (fun z => some (Value.ref z)) (e1 31 (by decide)).symm)), List.forall_mem_cons.mpr ⟨Or.inl ((haw 25 (by decide)).trans (congrArg (fun z => some (Value.ref z)) (e1 25 (by decide)).symm)), List.forall_mem_cons.mpr ⟨Or.inl ((haw 30 (by decide)).trans (congrArg (fun z => some (Value.ref z)) (e1 30 (by decide)).symm)), List.forall_mem_cons.mpr ⟨Or.inl ((haw 26 (by decide)).trans (congrArg (fun z => some (Value.ref z)) (e1 26 (by decide)).symm)), List.forall_mem_cons.mpr ⟨Or.inl ((haw 22 (by decide)).trans (congrArg (fun z => some (Value.ref z)) (e1 22 (by decide)).symm)), List.forall_mem_cons.mpr ⟨Or.inl ((haw 33 (by decide)).trans (congrArg (fun z => some (Value.ref z)) (e1 33 (by decide)).symm)), List.forall_mem_cons.mpr ⟨Or.inl ((haw 23 (by decide)).trans (congrArg (fun z => some (Value.ref z)) (e1 23 (by decide)).symm)), List.forall_mem_cons.mpr ⟨Or.inl ((haw 21 (by decide)).trans (congrArg (fun z => some (Value.ref z)) (e1 21 (by decide)).symm)), List.forall_mem_cons.mpr ⟨Or.inl ((haw 27 (by decide)).trans (congrArg (fun z => some (Value.ref z)) (e1 27 (by decide)).symm)), List.forall_mem_cons.mpr ⟨Or.inl ((haw 35 (by decide)).trans (congrArg (fun z => some (Value.ref z)) (e1 35 (by decide)).symm)), List.forall_mem_cons.mpr ⟨Or.inl ((haw 28 (by decide)).trans (congrArg (fun z => some (Value.ref z)) (e1 28 (by decide)).symm)), List.forall_mem_cons.mpr ⟨Or.inl ((haw 29 (by decide)).trans (congrArg (fun z => some (Value.ref z)) (e1 29 (by decide)).symm)), List.forall_mem_cons.mpr ⟨Or.inl ((haw 17 (by decide)).trans (congrArg (fun z => some (Value.ref z)) (e1 17 (by decide)).symm)), List.forall_mem_cons.mpr ⟨Or.inl (va_eqt (eg_fs hs eg_n14 _ (List.mem_map.mpr ⟨("java/lang/String", "COMPACT_STRINGS", "Z", .int 1), by decide +kernel, rfl⟩)) : (Term.static "java/lang/String" "COMPACT_STRINGS" "Z").eval args s none [] s = some (.int 1)), List.forall_mem_cons.mpr ⟨Or.inl (va_eqt (eg_fs hs eg_n14 _ (List.mem_map.mpr ⟨("java/lang/StringUTF16", "HI_BYTE_SHIFT", "I", .int 0), by decide +kernel, rfl⟩)) : (Term.static "java/lang/StringUTF16" "HI_BYTE_SHIFT" "I").eval args s none [] s = some (.int 0)), List.forall_mem_cons.mpr ⟨Or.inl (va_eqt (eg_fs hs eg_n14 _ (List.mem_map.mpr ⟨("java/lang/StringUTF16", "LO_BYTE_SHIFT", "I", .int 8), by decide +kernel, rfl⟩)) : (Term.static "java/lang/StringUTF16" "LO_BYTE_SHIFT" "I").eval args s none [] s = some (.int 8)), List.forall_mem_cons.mpr ⟨Or.inr rfl, fun _ h => nomatch h⟩⟩⟩⟩⟩⟩⟩⟩⟩⟩⟩⟩⟩⟩⟩⟩⟩⟩⟩⟩⟩⟩⟩⟩
      rcases hsv (C, n, d, v) hv with h | h
      · exact .inl (va_Zof hls hin h hA)
      · cases h
        rcases hz with h | h
        · refine .inl ?_
          show va_Z _ _ _ (.ref (adc 151)) _ _ _
          rw [e7]
          exact h
        · exact .inr ⟨rfl, h⟩
    · rcases eg_con_obj hcon with ⟨rfl, h36⟩ | ⟨rfl, h36, hns⟩ | ⟨-, rfl⟩
      · unfold eg_con at hcon
        rw [if_pos h36] at hcon
        have ef := (Prod.mk.inj (Sum.inr.inj hcon)).2
        subst ef
        match k, hv with
        | 0, hv => cases hv; exact hord i h36
        | 1, hv =>
          cases hv
          show va_OF "KnobEye$Word" "text" "Ljava/lang/String;" (.ref (adc (36 + (eg_wf.getD i (0, 0, 0)).1))) (adc i) (eg_A s.heap.size) s s.heap
          rw [e2 _ (hwfb i h36), e1 i h36]
          exact vk_OFof (haw i h36) (va_eqv (h4 i h36) (hst _ (hwfb i h36)).1) hA
        | 2, hv =>
          cases hv
          show va_OF "KnobEye$Word" "place" "I" (.int (eg_wf.getD i (0, 0, 0)).2.1) (adc i) (eg_A s.heap.size) s s.heap
          rw [e1 i h36]
          exact vk_OFof (haw i h36) (va_eqt (h5 i h36)) hA
        | 3, hv =>
          cases hv
          show va_OF "KnobEye$Word" "kind" "I" (.int (eg_wf.getD i (0, 0, 0)).2.2) (adc i) (eg_A s.heap.size) s s.heap
          rw [e1 i h36]
          exact vk_OFof (haw i h36) (va_eqt (h6 i h36)) hA
        | k + 4, hv => simp at hv
      · obtain ⟨j, rfl⟩ : ∃ j, i = 36 + j := ⟨i - 36, by omega⟩
        have hj : j < 56 := by omega
        unfold eg_con at hcon
        rw [if_neg (by omega), if_pos hns] at hcon
        have ef := (Prod.mk.inj (Sum.inr.inj hcon)).2
        subst ef
        match k, hv with
        | 0, hv =>
          cases hv
          show va_OF "java/lang/String" "value" "[B" (.ref (adc (36 + j + eg_NS))) (adc (36 + j)) (eg_A s.heap.size) s s.heap
          rw [show 36 + j + eg_NS = 92 + j by omega, e3 j hj, e2 j hj]
          exact vk_OFof (hst j hj).1 (hst j hj).2.1 hA
        | 1, hv =>
          cases hv
          show va_OF "java/lang/String" "coder" "B" (.int 0) (adc (36 + j)) (eg_A s.heap.size) s s.heap
          rw [e2 j hj]
          exact vk_OFof (hst j hj).1 (va_eqt (h9 j hj)) hA
        | k + 2, hv => simp at hv
      · simp at hv
    · unfold eg_con at hcon
      split at hcon
      · cases hcon
      · split at hcon
        · cases hcon
        · split at hcon
          · rename_i g1 g2 g3
            obtain ⟨j, rfl⟩ : ∃ j, i = 92 + j := ⟨i - 92, by omega⟩
            have hj : j < 56 := by omega
            cases hcon
            rw [e3 j hj]
            have hT := (hst j hj).2.2
            rw [show 92 + j - 36 - eg_NS = j by omega]
            exact hT
          · split at hcon
            · rename_i g4
              have hi8 : i = 148 := by omega
              subst hi8
              cases hcon
              rw [e4]
              obtain ⟨cell, t1, t2, t3, t4, t5, t6, t7⟩ := hA2
              exact ⟨cell, t1, t2, t3, t4, t5, fun j hj => (t6 j hj).trans (congrArg (fun z => some (Value.ref z)) (e1 j hj).symm), t7⟩
            · split at hcon
              · rename_i g5
                have hi9 : i = 149 := by omega
                subst hi9
                cases hcon
                rw [e5]
                exact hM2
              · cases hcon
    · have g1 := hord i hi
      have g2 := hord j hj
      rw [h] at g1
      exact eg_iof hi hj (Value.int.inj (eg_OF_inj g1 g2))
    · exact hlowO (hO i hi)
    · have ho : o < 22 := by
        rcases Nat.lt_or_ge o 22 with q | q
        · exact q
        · have : eg_kT.getD o [] = [] := by
            rw [List.getD_eq_getElem?_getD, List.getElem?_eq_none (by exact q)]
            rfl
          rw [this] at hj
          exact nomatch hj
      have hk := List.all_eq_true.mp (List.all_eq_true.mp eg_kT_ok o (List.mem_range.mpr ho)) _ hj
      simp only [Bool.and_eq_true, decide_eq_true_eq] at hk
      obtain ⟨-, hk2, hk3⟩ := hk
      have hk2 : 36 + j < 92 := hk2
      have hj56 : j < 56 := by omega
      rw [show 36 + j - 36 = j by omega] at hk3
      have hw := ht eg_n17 (.stringRef (eg_sl.getD j ("", 0, "")).1 (eg_sl.getD j ("", 0, "")).2.1 (eg_sl.getD j ("", 0, "")).2.2) (List.mem_map.mpr ⟨eg_sl.getD j ("", 0, ""), by
        rw [List.getD_eq_getElem?_getD, List.getElem?_eq_getElem (by rw [eg_slen]; exact hj56)]
        exact List.getElem_mem _, rfl⟩)
      have hev := (hst j hj56).1
      unfold eg_tS at hev
      obtain ⟨k1, k2⟩ := Prod.mk.inj hk3
      rw [k1, k2] at hw hev
      refine ⟨(eg_sl.getD j ("", 0, "")).2.2, ?_⟩
      rw [e2 j hj56]
      exact vk_R.of hw hev
  refine ⟨D, dA, adc, ⟨eg_kp_s eg_kp_W hW, eg_kp_s eg_kp_W10 hW10, hK, hKK, fun ci hci => ?_, va_AOA.of (ht eg_n19 _ (by simp)), fun x y hx hy hxy => ?_, ?_, ?_, Nat.le_refl _⟩, e6⟩
  · have hO2 := ht eg_n19
    unfold eg_ek at hci
    split at hci <;> first | omega | skip
    · exact va_AO.of (hO2 (.arrayOver (.object "KnobEye$Rule")) (by simp))
    · exact va_AO.of (hO2 (.arrayOver (.object "KnobEye$Eye")) (by simp))
    · exact va_AO.of (hO2 (.arrayOver (.object "KnobEye$Turner")) (by simp))
    · exact va_AO.of (hO2 (.arrayOver (.object "KnobEye$Claim")) (by simp))
    · exact va_AO.of (hO2 (.arrayOver (.object "KnobEye$Word")) (by simp))
    · exact va_AO.of (hO2 (.arrayOver (.object "KnobEye$Node")) (by simp))
  · have hm := eg_fs hs eg_n13
    refine va_Nc.of (hm _ (List.mem_map.mpr ⟨(x, y), ?_, rfl⟩))
    have h9 : (List.range 4).all (fun x => (List.range 4).all (fun y => decide (x = y) || decide ((x, y) ∈ ([(0, 1), (0, 2), (0, 3), (1, 0), (1, 2), (1, 3), (2, 0), (2, 1), (2, 3), (3, 0), (3, 1), (3, 2)] : List (Nat × Nat))))) = true := by decide
    have h8 := List.all_eq_true.mp (List.all_eq_true.mp h9 x (List.mem_range.mpr hx)) y (List.mem_range.mpr hy)
    rcases (Bool.or_eq_true _ _ ▸ h8 : _ ∨ _) with h7 | h7
    · exact absurd (of_decide_eq_true h7) hxy
    · exact of_decide_eq_true h7
  · have h18 := ht eg_n18
    exact vx_Zqof (h18 _ (by simp)) (h18 (.initialized Bundle.tN) (by simp)) (hN0 _ (by simp)) hA
  · have h18 := ht eg_n18
    exact vx_Zqof (h18 _ (by simp)) (h18 (.initialized Bundle.tN) (by simp)) (hN0 _ (by simp)) hA
