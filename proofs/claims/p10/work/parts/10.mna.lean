/-! rows of ints, at once -/
section EGA
variable {p : Program} {l : Launch} {e : Env} {R : Room} {s : State} {m : MethodId} {args : Array Value} {below : List Frame} {meth : Method} {c : Code} {Q : State → Prop} {b0 : Nat} {D : va_G} {dA : Nat → ClassId} {adc : Nat → Nat} {n0 : Nat} {ad0 : Nat → Nat} {o : Nat} {ini : Bool} {mc ms : Nat} {cc : ByteArray}
variable {pc pc' len : Nat} {L L' : eg_Ls} {st st' r : List Value} {G G' : eg_G} {ck sk ck' sk' : Nat} {ins : Instr}
theorem eg_mws {ad : Nat → Nat} {q N K : Nat} {rr : Nat → Nat} {f0 : Nat → va_E} (h : eg_ok G) :
    (eg_ws ad dA G ++ [(q, .inl (dA 11, N, .inr (.inr (.inr (.inr (fun i => if i < N then some (rr i) else none))))))]) ++ va_pl ([] ++ (List.range N).map rr) (vr_up f0 ((List.range N).map rr) (.inl (dA 0, (K, .inl (fun _ => 0))))) =
    eg_ws (fun i => if i < G.2 then ad i else if i = G.2 then q else rr (i - G.2 - 1)) dA (eg_mg G N K) := by
  generalize hadd : (fun i => if i < G.2 then ad i else if i = G.2 then q else rr (i - G.2 - 1)) = ad'
  have ha : eg_ag G.2 ad ad' := fun i hi => by rw [← hadd]; exact if_pos hi
  have h1 := h.1
  have hlen : (eg_ws ad dA G).length = G.2 - eg_NC := by simp [eg_ws]
  have hg2 : (eg_mg G N K).2 = G.2 + 1 + N := rfl
  apply List.ext_getElem?
  intro k
  rw [List.append_assoc, List.getElem?_append, hlen]
  by_cases hk : k < G.2 - eg_NC
  · rw [if_pos hk]
    have e1 := eg_ws_at (ad := ad) (dA := dA) (G := G) (a := eg_NC + k) (by omega) (by omega)
    have e2 := eg_ws_at (ad := ad') (dA := dA) (G := eg_mg G N K) (a := eg_NC + k) (by omega) (by rw [hg2]; omega)
    rw [show eg_NC + k - eg_NC = k by omega] at e1 e2
    have e3 : (eg_mg G N K).1 (eg_NC + k) = G.1 (eg_NC + k) := if_pos (by omega)
    rw [e1, e2, e3, eg_ag_e ha (h.2 _ (by omega) (by omega)), ha (eg_NC + k) (by omega)]
  · rw [if_neg hk]
    obtain ⟨j, rfl⟩ : ∃ j, k = G.2 - eg_NC + j := ⟨k - (G.2 - eg_NC), by omega⟩
    rw [show G.2 - eg_NC + j - (G.2 - eg_NC) = j by omega]
    cases j with
    | zero =>
      have e2 := eg_ws_at (ad := ad') (dA := dA) (G := eg_mg G N K) (a := G.2) h1 (by rw [hg2]; omega)
      have e3 : (eg_mg G N K).1 G.2 = .inl (11, (N, .inr (.inr (.inr (.inr (fun i => if i < N then some (G.2 + 1 + i) else none)))))) := (if_neg (Nat.lt_irrefl _)).trans (if_pos rfl)
      have e4 : ad' G.2 = q := by rw [← hadd]; exact (if_neg (Nat.lt_irrefl _)).trans (if_pos rfl)
      rw [Nat.add_zero, e2, e3, e4]
      have e5 : (fun i => (if i < N then some (G.2 + 1 + i) else none).map ad') = fun i => if i < N then some (rr i) else none := by
        funext i
        by_cases hi : i < N
        · rw [if_pos hi, if_pos hi]
          have : ad' (G.2 + 1 + i) = rr i := by
            rw [← hadd]
            show (if G.2 + 1 + i < G.2 then _ else if G.2 + 1 + i = G.2 then q else rr (G.2 + 1 + i - G.2 - 1)) = _
            rw [if_neg (by omega), if_neg (by omega), show G.2 + 1 + i - G.2 - 1 = i by omega]
          exact congrArg some this
        · rw [if_neg hi, if_neg hi]
          rfl
      show some (q, Sum.inl (dA 11, N, Sum.inr (Sum.inr (Sum.inr (Sum.inr (fun i => if i < N then some (rr i) else none)))))) = some (q, Sum.inl (dA 11, N, Sum.inr (Sum.inr (Sum.inr (Sum.inr (fun i => (if i < N then some (G.2 + 1 + i) else none).map ad'))))))
      rw [e5]
    | succ j =>
      rw [List.cons_append, List.nil_append, List.getElem?_cons_succ]
      by_cases hj : j < N
      · have e2 := eg_ws_at (ad := ad') (dA := dA) (G := eg_mg G N K) (a := G.2 + 1 + j) (by omega) (by rw [hg2]; omega)
        have e3 : (eg_mg G N K).1 (G.2 + 1 + j) = .inl (0, (K, .inl (fun _ => 0))) := (if_neg (by omega)).trans ((if_neg (by omega)).trans (if_pos (by omega)))
        have e4 : ad' (G.2 + 1 + j) = rr j := by
          rw [← hadd]
          show (if G.2 + 1 + j < G.2 then _ else if G.2 + 1 + j = G.2 then q else rr (G.2 + 1 + j - G.2 - 1)) = _
          rw [if_neg (by omega), if_neg (by omega), show G.2 + 1 + j - G.2 - 1 = j by omega]
        rw [show G.2 - eg_NC + (j + 1) = G.2 + 1 + j - eg_NC by omega, e2, e3, e4]
        unfold va_pl
        rw [List.nil_append, List.getElem?_map, List.getElem?_map, List.getElem?_range hj]
        have hin : rr j ∈ (List.range N).map rr := List.mem_map.mpr ⟨j, List.mem_range.mpr hj, rfl⟩
        show some (rr j, vr_up f0 ((List.range N).map rr) _ (rr j)) = _
        rw [vr_up_in hin]
        rfl
      · rw [List.getElem?_eq_none (by simp [va_pl]; omega), List.getElem?_eq_none (by simp [eg_ws, hg2]; omega)]
theorem eg_mok {N K : Nat} (h : eg_ok G) : eg_ok (eg_mg G N K) := by
  refine ⟨by have := h.1; show eg_NC ≤ G.2 + 1 + N; omega, fun i h1 h2 => ?_⟩
  have h2' : i < G.2 + 1 + N := h2
  show eg_okc (G.2 + 1 + N) (if i < G.2 then G.1 i else if i = G.2 then _ else if i < G.2 + 1 + N then _ else G.1 i)
  split
  · exact (h.2 i h1 (by assumption)).up (by omega)
  · split
    · intro f hf j z hz
      cases hf
      dsimp only at hz
      split at hz
      · cases hz
        omega
      · cases hz
    · intro f hf
      cases hf
set_option maxRecDepth 4000 in
theorem sh_mna {idx : Nat} {n k : Int32} (X : eg_X p s m args meth c R b0 D dA adc o ini mc ms cc) (d : decode cc pc = .ok (.multianewarray idx 2, 4)) (he : (idx, 30) ∈ eg_cT.getD o []) (h0 : 0 ≤ n.toInt) (h1 : n.toInt ≤ 65536) (h3 : 0 ≤ k.toInt) (h4 : k.toInt ≤ 65536) (hck : ck + (1 + n.toNatClampNeg) ≤ mc) (hsk : sk + (n.toNatClampNeg + n.toNatClampNeg * k.toNatClampNeg) ≤ ms)
    (kk : eg_J p l e R s m args below meth c Q b0 D dA adc n0 ad0 (pc + 4) L (.ref G.2 :: r) (eg_mg G n.toNatClampNeg k.toNatClampNeg) (ck + 1 + n.toNatClampNeg) (sk + n.toNatClampNeg + n.toNatClampNeg * k.toNatClampNeg)) : eg_J p l e R s m args below meth c Q b0 D dA adc n0 ad0 pc L (.int k :: .int n :: r) G ck sk := by
  obtain ⟨hx, hb, hown, hts, hK, hC, hAO, hAOA, hRc, hRs, hini, hb0⟩ := X
  intro ad H locs ls hR hL hS
  obtain ⟨hP, hD, hS0, hok, hag⟩ := id hR
  obtain ⟨-, h2⟩ := List.forall_mem_cons.mp hS
  obtain ⟨-, h2⟩ := List.forall_mem_cons.mp h2
  have h65 := eg_clampN h1
  have h66 := eg_clampN h4
  have hnm : ("[" ++ (FieldType.array .int).toString) = eg_cn 30 := by decide +kernel
  have hcl : (Cond.classLink (eg_on o) idx ("[" ++ (FieldType.array .int).toString)).before args s = true := by
    rw [hnm]
    exact hts _ (eg_w4 he)
  have hcy : s.vm.findClass (FieldType.array .int).toString = some (dA 0) := (hK.2 0 _ (eg_tys_at (by decide))).2
  refine va_mna (X := eg_ws ad dA G) (L := []) (f := fun _ => .inr (0, [])) (ty := .int) (cy := dA 0) (z := (k.toNatClampNeg, .inl (fun _ => 0))) hx hb hown hcl hAOA (hts _ (eg_w9 (by simp [eg_W9]))) hcy hK (by simpa [va_pl] using hP) (by simpa [va_pl] using hD) hS0 (fun z hz => Nat.le_trans hb0 hz) (eg_clampI h0) (eg_clampI h3) rfl rfl
    (Nat.le_trans (Nat.mul_le_mul_right 4 h65) (by decide)) (Nat.le_trans (Nat.mul_le_mul_right 4 h66) (by decide)) (Nat.le_trans h66 (by decide)) rfl rfl (by rw [hRc]; exact hck) (by rw [hRs]; exact hsk) (fun c9 => ?_) d (fun q rr cA H1 hinj hnl hK1 hP1 hD1 hS1 => ?_)
  · rw [vp_cell_i, ← arrV_new]
    rfl
  · have ec : cA = dA 11 := eg_dAt hK hK1 (by decide)
    subst ec
    rw [eg_mws hok] at hP1 hD1
    have hagp : eg_ag G.2 ad (fun i => if i < G.2 then ad i else if i = G.2 then q else rr (i - G.2 - 1)) := fun i hi => if_pos hi
    have hle : G.2 ≤ (eg_mg G n.toNatClampNeg k.toNatClampNeg).2 := by show G.2 ≤ G.2 + 1 + _; omega
    have hkk := kk _ H1 locs ls ⟨hP1, hD1, hS1, eg_mok hok, fun i hi => by
      exact (hagp i (by have := hok.1; omega)).trans (hag.1 i hi), Nat.le_trans hag.2.1 hle, fun i hi => (hagp i (by have := hag.2.1; omega)).trans (hag.2.2 i hi)⟩ (hL.up hagp hle) (List.forall_mem_cons.mpr ⟨eg_okr (by show G.2 < G.2 + 1 + _; omega), fun v hv => (h2 v hv).up hle⟩)
    have e1 : (Value.ref G.2 :: r).map (eg_v (fun i => if i < G.2 then ad i else if i = G.2 then q else rr (i - G.2 - 1))) = .ref q :: r.map (eg_v ad) := by
      rw [List.map_cons, eg_ag_st hagp h2]
      show Value.ref (if G.2 < G.2 then _ else if G.2 = G.2 then q else _) :: _ = _
      rw [if_neg (Nat.lt_irrefl _), if_pos rfl]
    rw [e1] at hkk
    exact hkk
end EGA
