/-! FUNCTIONAL: the reference's rule, turner, claim -/
theorem fm_t0 {d2 am : Nat} {c : Int32} {K : et_K} {G : eg_G} (hH : et_H et_TT K G) (k_am : K am = some 13) : et_go none d2 204 0 (eg_en (eg_mL 204) [.ref am, .int (Int32.ofNat 0), .int c]) [] G 0 0 (xp_Z G (some (.int (Int32.ofNat 0)))) := by
  refine (fm_thr (x := Int32.ofNat 0) hH k_am (.inl rfl)).mono (fun u hu => ?_)
  obtain ⟨G', v, e, -, -, rfl, ⟨-, rfl⟩ | ⟨hz, -⟩⟩ := hu
  · exact e
  · exact absurd rfl hz
theorem fm_t1 {d2 am : Nat} {c : Int32} {K : et_K} {G : eg_G} (hH : et_H et_TT K G) (k_am : K am = some 13) : et_go none d2 204 0 (eg_en (eg_mL 204) [.ref am, .int (Int32.ofNat 1), .int c]) [] G 0 0 (xw_Z (fun b j => (b = am ∧ j = 0)) K G (fun G' v => v = some (.int (Int32.ofNat 1)) ∧ et_pl (eg_at G' am) 0 = some (.int c))) := by
  refine (fm_thr (x := Int32.ofNat 1) hH k_am (.inr rfl)).mono (fun u hu => ?_)
  obtain ⟨G', v, e, g1, g2, g3, ⟨hz, -⟩ | ⟨-, g4⟩⟩ := hu
  · exact absurd hz (by decide)
  · exact ⟨G', v, e, g1, g2, g3, g4⟩
theorem hmF_pl {F : Nat → Value} {i : Nat} (h : i < 36) : et_pl (hm_F F) i = some (F i) := by
  show ((List.range 36).map F)[i]? = some (F i)
  rw [List.getElem?_map, List.getElem?_range h]
  rfl
theorem hmW_pl {W : Nat → Int32} {i : Nat} (h : i < 12741) : et_pl (hm_W W) i = some (.int (W i)) := by
  show et_pl (.inl (0, (12741, .inl W))) i = _
  rw [hf_pl (.inl rfl), if_pos h]
/-- ends without a promise of the heap -/
def xn_Z (S : Nat → Nat → Prop) (G : eg_G) (P : eg_G → Option Value → Prop) (u : eg_O) : Prop := ∃ (G' : eg_G) (v : Option Value), u = (.inl v, G', 0, 0) ∧ xf S G G' ∧ P G' v
theorem xw_Z.xn {S : Nat → Nat → Prop} {K : et_K} {G : eg_G} {P : eg_G → Option Value → Prop} {u : eg_O} (h : xw_Z S K G P u) : xn_Z S G P u := by
  obtain ⟨G', v, e, -, g2, g3⟩ := h
  exact ⟨G', v, e, g2, g3⟩
/-- the world alone changes, and one cell of ai's -/
theorem hm_xf {G : eg_G} {am aw ai n : Nat} {F : Nat → Value} {W W1 : Nat → Int32} {IK : Nat → Int32} (hA : hm_ok G am aw) (e : G = hm_H G am aw F W) (i1 : ai ≠ am) (i2 : ai ≠ aw) (i3 : eg_NC ≤ ai ∧ ai < G.2) (i4 : eg_at G ai = .inl (3, (4, .inl IK))) {x : Int32} : xf (fun c j => (c = ai ∧ j = n) ∨ (c = aw ∧ ¬ W1 j = W j)) G (hm_H (eg_u G ai (.inl (3, (4, .inl (upd IK n x))))) am aw F W1) := by
  have eF : eg_at G am = hm_F F := by rw [e]; exact hm_m hA
  have eW : eg_at G aw = hm_W W := by rw [e]; exact hm_w hA
  have hA1 : hm_ok (eg_u G ai (.inl (3, (4, .inl (upd IK n x))))) am aw := hA
  refine ⟨Nat.le_refl _, fun a i ha hi => ?_⟩
  by_cases h1 : a = am
  · subst h1
    rw [hm_m hA1, eF]
  · by_cases h2 : a = aw
    · subst h2
      rw [hm_w hA1, eW]
      by_cases hi2 : i < 12741
      · rw [hmW_pl hi2, hmW_pl hi2]
        exact congrArg (fun z => some (Value.int z)) (Decidable.of_not_not (fun h => hi (.inr ⟨rfl, h⟩)))
      · show et_pl (.inl (0, (12741, .inl W1))) i = et_pl (.inl (0, (12741, .inl W))) i
        rw [hf_pl (.inl rfl), hf_pl (.inl rfl), if_neg hi2, if_neg hi2]
    · rw [hm_o h1 h2]
      by_cases h3 : a = ai
      · subst h3
        rw [et_at_us i3.1, i4]
        exact hf_plu (.inr (.inr (.inl rfl))) (fun h => hi (.inl ⟨rfl, h⟩))
      · rw [et_at_u h3]
theorem hm_xf0 {G : eg_G} {am aw : Nat} {F : Nat → Value} {W W1 : Nat → Int32} (hA : hm_ok G am aw) (e : G = hm_H G am aw F W) : xf (fun c j => c = aw ∧ ¬ W1 j = W j) G (hm_H G am aw F W1) := by
  have eF : eg_at G am = hm_F F := by rw [e]; exact hm_m hA
  have eW : eg_at G aw = hm_W W := by rw [e]; exact hm_w hA
  refine ⟨Nat.le_refl _, fun a i ha hi => ?_⟩
  by_cases h1 : a = am
  · subst h1
    rw [hm_m hA, eF]
  · by_cases h2 : a = aw
    · subst h2
      rw [hm_w hA, eW]
      by_cases hi2 : i < 12741
      · rw [hmW_pl hi2, hmW_pl hi2]
        exact congrArg (fun z => some (Value.int z)) (Decidable.of_not_not (fun h => hi ⟨rfl, h⟩))
      · show et_pl (.inl (0, (12741, .inl W1))) i = et_pl (.inl (0, (12741, .inl W))) i
        rw [hf_pl (.inl rfl), hf_pl (.inl rfl), if_neg hi2, if_neg hi2]
    · rw [hm_o h1 h2]
section FZA
variable {K : et_K} {G G0 : eg_G} {b : Nat → Nat} {d2 d am aw ai tm n p pl k dp m i r : Nat} {F : Nat → Value} {W : Nat → Int32} {Z : eg_O → Prop}

theorem tl_rule {IK : Nat → Int32} (hA : hm_ok G am aw) (hw : F 1 = .ref aw) (hai : F 18 = .ref ai) (i1 : ai ≠ am) (i2 : ai ≠ aw) (i3 : eg_NC ≤ ai ∧ ai < G.2) (i4 : eg_at G ai = .inl (3, (4, .inl IK))) (hr : r < 4) (hW : W 0 = Int32.ofNat r) {x1 : Option Value} (h : ∀ V : Nat → Int32, (∀ i, i < 841 → V (126 + 841 * r + i) = W (11900 + i)) → (∀ i, (i < 126 + 841 * r ∨ 126 + 841 * r + 841 ≤ i) → V i = W i) → Z (.inl (some (.int (Int32.ofNat r))), hm_H (eg_u G ai (.inl (3, (4, .inl (upd IK r 0))))) am aw F (upd V 0 (Int32.ofNat (r + 1))), 0, 0)) : et_go none (d + 2) 180 50 [some (.ref am), x1] [] (hm_H G am aw F W) 0 0 Z := by
  refine hs_aload (i := 0) (p := 51) (by decide +kernel) rfl ?_
  refine hm_get hA (f := 1) (p := 54) (by decide +kernel) rfl hw ?_
  refine hs_k (x := Int32.ofNat 0) (p := 55) (by decide +kernel) ?_
  refine hm_rwv hA (p := 56) (x := Int32.ofNat r) (by decide +kernel) (by omega) hW ?_
  refine hs_istore (i := 1) (p := 57) (by decide +kernel) (Nat.le_of_ble_eq_true rfl) ?_
  refine hs_aload (i := 0) (p := 58) (by decide +kernel) rfl ?_
  refine hs_iload (i := 1) (p := 59) (by decide +kernel) rfl ?_
  refine hm_call hA (mi := 205) (na := 1) (lk := 2) (lm := 3) (by decide +kernel) rfl rfl rfl rfl rfl rfl (rp_keeps hA hw (t := r) (by omega) (fun V g1 g2 => hs_cb ?_))
  show et_go none _ 180 62 _ [] _ _ _ _
  refine hs_aload (i := 0) (p := 63) (by decide +kernel) rfl ?_
  refine hm_get hA (f := 18) (p := 66) (by decide +kernel) rfl hai ?_
  refine hs_iload (i := 1) (p := 67) (by decide +kernel) rfl ?_
  refine hs_k (x := Int32.ofNat 0) (p := 68) (by decide +kernel) ?_
  refine hm_bast (p := 69) (by decide +kernel) i1 i2 i4 i3 (by omega) ?_
  refine hs_aload (i := 0) (p := 70) (by decide +kernel) rfl ?_
  refine hm_get hA (f := 1) (p := 73) (by decide +kernel) rfl hw ?_
  refine hs_k (x := Int32.ofNat 0) (p := 74) (by decide +kernel) ?_
  refine hs_dup2 (p := 75) (by decide +kernel) ?_
  refine hm_rwv hA (p := 76) (x := Int32.ofNat r) (by decide +kernel) (by omega) ((g2 0 (.inl (by omega))).trans hW) ?_
  refine hs_k (x := Int32.ofNat 1) (p := 77) (by decide +kernel) ?_
  refine hs_iaddn (p := 78) (by decide +kernel) ?_
  refine hm_ww hA (p := 79) (by decide +kernel) (by omega) ?_
  refine hs_iload (i := 1) (p := 80) (by decide +kernel) rfl ?_
  refine hs_iret (by decide +kernel) ?_
  exact h _ g1 g2
theorem tl_turner (hA : hm_ok G am aw) (hw : F 1 = .ref aw) (hr : r < 4) (hW : W 1 = Int32.ofNat r) (h : ∀ V : Nat → Int32, (∀ i, i < 841 → V (126 + 841 * (4 + r) + i) = W (11900 + i)) → (∀ i, (i < 126 + 841 * (4 + r) ∨ 126 + 841 * (4 + r) + 841 ≤ i) → V i = W i) → Z (.inl (some (.int (Int32.ofNat r))), hm_H G am aw F (upd V 1 (Int32.ofNat (r + 1))), 0, 0)) : et_go none (d + 2) 206 50 [some (.ref am)] [] (hm_H G am aw F W) 0 0 Z := by
  refine hs_aload (i := 0) (p := 51) (by decide +kernel) rfl ?_
  refine hs_k (x := Int32.ofNat 4) (p := 52) (by decide +kernel) ?_
  refine hs_aload (i := 0) (p := 53) (by decide +kernel) rfl ?_
  refine hm_get hA (f := 1) (p := 56) (by decide +kernel) rfl hw ?_
  refine hs_k (x := Int32.ofNat 1) (p := 57) (by decide +kernel) ?_
  refine hm_rwv hA (p := 58) (x := Int32.ofNat r) (by decide +kernel) (by omega) hW ?_
  refine hs_iaddn (p := 59) (by decide +kernel) ?_
  refine hm_call hA (mi := 205) (na := 1) (lk := 1) (lm := 3) (by decide +kernel) rfl rfl rfl rfl rfl rfl (rp_keeps hA hw (t := (4 + r)) (by omega) (fun V g1 g2 => hs_cb ?_))
  show et_go none _ 206 62 _ [] _ _ _ _
  refine hs_aload (i := 0) (p := 63) (by decide +kernel) rfl ?_
  refine hm_get hA (f := 1) (p := 66) (by decide +kernel) rfl hw ?_
  refine hs_k (x := Int32.ofNat 1) (p := 67) (by decide +kernel) ?_
  refine hs_dup2 (p := 68) (by decide +kernel) ?_
  refine hm_rwv hA (p := 69) (x := Int32.ofNat r) (by decide +kernel) (by omega) ((g2 1 (.inl (by omega))).trans hW) ?_
  refine hs_k (x := Int32.ofNat 1) (p := 70) (by decide +kernel) ?_
  refine hs_iaddn (p := 71) (by decide +kernel) ?_
  refine hm_ww hA (p := 72) (by decide +kernel) (by omega) ?_
  refine hs_aload (i := 0) (p := 73) (by decide +kernel) rfl ?_
  refine hm_get hA (f := 1) (p := 76) (by decide +kernel) rfl hw ?_
  refine hs_k (x := Int32.ofNat 1) (p := 77) (by decide +kernel) ?_
  refine hm_rwv hA (p := 78) (x := Int32.ofNat (r + 1)) (by decide +kernel) (by omega) hs_us ?_
  refine hs_k (x := Int32.ofNat 1) (p := 79) (by decide +kernel) ?_
  refine hs_isubn (p := 80) (by decide +kernel) (by omega) ?_
  refine hs_iret (by decide +kernel) ?_
  exact h _ g1 g2
end FZA
