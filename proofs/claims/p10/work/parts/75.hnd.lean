/-! CONTRACTS BY HAND: the reference's texts -/
section HJA
variable {K : et_K} {G : eg_G} {am aw : Nat} {F F1 : Nat → Value} {W W1 : Nat → Int32}
theorem hi_Fi (h : ∀ k, k < 36 → et_v K (et_m13.getD k (.inl (0, 0))) (F k)) : hi_F K F := fun k p hk => by
  have hk36 : k < 36 := (List.getElem?_eq_some_iff.mp hk).1
  have h1 := h k hk36
  rw [List.getD_eq_getElem?_getD, hk] at h1
  exact h1
theorem hi_Fe (h : hi_F K F) (k : Nat) (hk : k < 36) : et_v K (et_m13.getD k (.inl (0, 0))) (F k) := by
  have h1 : et_m13[k]? = some (et_m13[k]'(show k < et_m13.length from hk)) := List.getElem?_eq_getElem _
  have h2 := h k _ h1
  rw [List.getD_eq_getElem?_getD, h1]
  exact h2
theorem hi_QF (h : hi_F K F) (hQ : rp_Q F F1) : hi_F K F1 := by
  obtain ⟨h1, h2, ⟨a, b, c, e, q, ⟨a1, b1, c1, e1, q1⟩, h3, h4, h5, h6, h7⟩, x, y, z, h8, h9, h10⟩ := hQ
  refine hi_Fi (fun k hk => ?_)
  have hc : (13 < k ∨ k = 1 ∨ k = 2 ∨ k = 3 ∨ k = 4 ∨ k = 11) ∨ k = 0 ∨ k = 5 ∨ k = 6 ∨ k = 7 ∨ k = 8 ∨ k = 9 ∨ k = 10 ∨ k = 12 ∨ k = 13 := by omega
  rcases hc with hc | rfl | rfl | rfl | rfl | rfl | rfl | rfl | rfl | rfl
  · rw [h1 k hc]
    exact hi_Fe h k hk
  · rw [h8]; exact hi_any
  · rw [h2]; exact hi_nv (hi := 400) (by omega) (by omega)
  · rw [h3]; exact hi_nv (hi := 400) (by omega) (by omega)
  · rw [h6]; exact hi_nv (hi := 400) (by omega) (by omega)
  · rw [h4]; exact hi_nv (hi := 400) (by omega) (by omega)
  · rw [h7]; exact hi_nv (hi := 6) (by omega) (by omega)
  · rw [h9]; exact hi_any
  · rw [h5]; exact hi_nv (hi := 400) (by omega) (by omega)
  · rw [h10]; exact hi_any
theorem hi_QX (h : hi_X F) (hQ : rp_Q F F1) : hi_X F1 := fun s x y e1 e2 e3 => h s x y ((hQ.1 29 (by decide)).symm.trans e1) ((hQ.1 25 (by decide)).symm.trans e2) ((hQ.1 26 (by decide)).symm.trans e3)
def hi_MP : et_M := [(13, 0, 0), (13, 5, 10), (13, 12, 13), (46, 0, 2), (46, 114, 12740), (25, 0, 3)]
theorem hi_MPF {i : Nat} (h : et_mm hi_MP 13 i = false) : i ≠ 0 ∧ ¬ (5 ≤ i ∧ i ≤ 10) ∧ ¬ (12 ≤ i ∧ i ≤ 13) := by
  unfold et_mm hi_MP at h
  simp only [List.any_cons, List.any_nil, Bool.or_eq_false_iff, Bool.and_eq_false_iff, decide_eq_false_iff_not] at h
  simp at h
  omega
theorem hi_MPW {i : Nat} (h : et_mm hi_MP 46 i = false) : ¬ i ≤ 2 ∧ ¬ (114 ≤ i ∧ i ≤ 12740) := by
  unfold et_mm hi_MP at h
  simp at h
  omega
theorem hi_QfF (hQ : rp_Q F F1) (i : Nat) (h : et_mm hi_MP 13 i = false) : F1 i = F i := by
  have := hi_MPF h
  exact hQ.1 i (by omega)
/-- what the texts' calls start from -/
theorem hi_txt (hH : et_H et_TT K G) (ha : K am = some 13) : ∃ (F : Nat → Value) (W : Nat → Int32) (aw ta tp pt bg st dp ai : Nat) (TP IK : Nat → Int32), rp_B G am aw ta F tp TP ∧ (pt ≤ 400 ∧ bg ≤ 400 ∧ st ≤ 400 ∧ dp ≤ 6) ∧ F = rp_F F pt bg st dp ∧ (F 18 = .ref ai ∧ ai ≠ am ∧ ai ≠ aw ∧ (eg_NC ≤ ai ∧ ai < G.2) ∧ eg_at G ai = .inl (3, (4, .inl IK)) ∧ K ai = some 25 ∧ (∀ i, i < 4 → et_v K (.inl (0, 1)) (.int (IK i)))) ∧ (eg_at G am = hm_F F ∧ eg_at G aw = hm_W W ∧ K aw = some 46 ∧ hi_F K F ∧ hi_X F ∧ hi_W K W ∧ gq_G W) ∧ G = hm_H G am aw F W := by
  obtain ⟨F, W, aw, hA, eF, eW, hw, hKw, hF, hX, hW, hG, e⟩ := hi_mod hH ha
  obtain ⟨ta, ht, hKt⟩ := hi_ref (hF 4 _ rfl)
  obtain ⟨TP, eT, -⟩ := hi_arr (kd := 1) (n := 400) hH hKt rfl (by decide) (.inr (.inl rfl))
  obtain ⟨ai, hi, hKi⟩ := hi_ref (hF 18 _ rfl)
  obtain ⟨IK, eI, hI, -⟩ := hi_arr (kd := 3) (n := 4) hH hKi rfl (by decide) (.inr (.inr (.inl rfl)))
  obtain ⟨tp, t1, t2⟩ := hi_nat (hF 5 _ rfl)
  obtain ⟨pt, p1, p2⟩ := hi_nat (hF 6 _ rfl)
  obtain ⟨bg, b1, b2⟩ := hi_nat (hF 8 _ rfl)
  obtain ⟨st, s1, s2⟩ := hi_nat (hF 12 _ rfl)
  obtain ⟨dp, d1, d2⟩ := hi_nat (hF 9 _ rfl)
  refine ⟨F, W, aw, ta, tp, pt, bg, st, dp, ai, TP, IK, ⟨hA, ⟨(hi_at hH hKt (by decide)).2, hi_ne hKt ha (by decide), hi_ne hKt hKw (by decide), eT⟩, hw, ht, t2, by omega⟩, ⟨by omega, by omega, by omega, by omega⟩, ?_, ⟨hi, hi_ne hKi ha (by decide), hi_ne hKi hKw (by decide), hi_at hH hKi (by decide), eI, hKi, fun i h => hI _ List.mem_cons_self i (Nat.zero_le _) (by show i ≤ 3; omega) h⟩, ⟨eF, eW, hKw, hF, hX, hW, hG⟩, e⟩
  funext j
  unfold rp_F
  by_cases h6 : j = 6
  · rw [if_pos h6, h6]; exact p2
  · by_cases h8 : j = 8
    · rw [if_neg h6, if_pos h8, h8]; exact b2
    · by_cases h12 : j = 12
      · rw [if_neg h6, if_neg h8, if_pos h12, h12]; exact s2
      · by_cases h9 : j = 9
        · rw [if_neg h6, if_neg h8, if_neg h12, if_pos h9, h9]; exact d2
        · rw [if_neg h6, if_neg h8, if_neg h12, if_neg h9]
theorem hi_KH {ai : Nat} {IK : Nat → Int32} {G1 : eg_G} (hH : et_H et_TT K G) (hKi : K ai = some 25) (hI : ∀ i, i < 4 → et_v K (.inl (0, 1)) (.int (IK i))) (eI : eg_at G ai = .inl (3, (4, .inl IK))) (hK : rp_K G ai G1) : et_H et_TT K G1 ∧ et_fr hi_MP K G G1 ∧ ∀ b, b ≠ ai → eg_at G1 b = eg_at G b := by
  rcases hK with rfl | ⟨n, hn, K', e1, rfl⟩
  · exact ⟨hH, et_fr.rf, fun _ _ => rfl⟩
  · rw [eI] at e1
    cases e1
    refine ⟨hi_uarr (t := 25) (kd := 3) (n := 4) hH hKi (by decide) rfl (.inr (.inr (.inl rfl))) (fun s hs i i1 i2 i3 => ?_) (fun h => absurd h (by decide)), hi_frM hH hKi (by decide) (fun i hi => ?_), fun b hb => et_at_u hb⟩
    · obtain rfl : s = (0, 3, .inl (0, 1)) := by simpa using hs
      show et_v K (.inl (0, 1)) (.int (upd IK n 0 i))
      by_cases e : i = n
      · rw [e, hs_us]; exact hi_iv (by decide) (by decide)
      · rw [hs_un e]; exact hI i i3
    · rw [eI]
      show (if i < 4 then eg_rd 3 (4, .inl (upd IK n 0)) i else none) = (if i < 4 then eg_rd 3 (4, .inl IK) i else none)
      by_cases h4 : i < 4
      · exfalso
        unfold et_mm hi_MP at hi
        simp at hi
        omega
      · rw [if_neg h4, if_neg h4]
/-- the end of a text's call -/
theorem hi_end {ai : Nat} {IK : Nat → Int32} {G1 : eg_G} {v : Int32} (hH : et_H et_TT K G) (ha : K am = some 13) (hKw : K aw = some 46) (eF : eg_at G am = hm_F F) (eW : eg_at G aw = hm_W W) (hF : hi_F K F) (hX : hi_X F) (hKi : K ai = some 25) (hI : ∀ i, i < 4 → et_v K (.inl (0, 1)) (.int (IK i))) (eI : eg_at G ai = .inl (3, (4, .inl IK))) (hK : rp_K G ai G1) (hQ : rp_Q F F1) (hW1 : hi_W K W1) (hG1 : gq_G W1) (hfr : ∀ i, 2 < i → i < 114 → W1 i = W i) : ∃ e ∈ [((.inl (some (.inl (et_mn, et_mx))) : Option et_P ⊕ Nat), 0, 0)], ∃ K' : et_K, et_ex K K' ∧ et_fr hi_MP K G (hm_H G1 am aw F1 W1) ∧ et_H et_TT K' (hm_H G1 am aw F1 W1) ∧ (match e.1 with
    | .inl (some p) => ∃ u, (.inl (some (.int v)) : eg_R) = .inl (some u) ∧ et_v K' p u
    | .inl none => (.inl (some (.int v)) : eg_R) = .inl none
    | .inr x => (.inl (some (.int v)) : eg_R) = .inr x) ∧ 0 ≤ e.2.1 ∧ 0 ≤ e.2.2 := by
  obtain ⟨g1, g2, g3⟩ := hi_KH hH hKi hI eI hK
  have n1 : am ≠ ai := hi_ne ha hKi (by decide)
  have n2 : aw ≠ ai := hi_ne hKw hKi (by decide)
  refine ⟨_, List.mem_cons_self, K, et_ex.rf, g2.tr et_ex.rf (hi_fr g1 ha hKw ((g3 am n1).trans eF) ((g3 aw n2).trans eW) (hi_QfF hQ) (fun i h h' => ?_)), hi_fin g1 ha hKw (hi_QF hF hQ) (hi_QX hX hQ) hW1 hG1, ⟨_, rfl, hi_any⟩, Nat.le_refl _, Nat.le_refl _⟩
  have := hi_MPW h'
  exact hfr i (by omega) (by omega)
theorem hi_W1 {p m : Nat} (hm : m < 1000) (hp : ∀ s ∈ et_w46, s.1 ≤ p → p ≤ s.2.1 → s.2.2 = .inl (0, (m : Int))) (hW : hi_W K W) (h1 : ∀ i, i < 126 → i ≠ p → W1 i = W i) (h2 : ∃ c, c ≤ m ∧ W1 p = Int32.ofNat c) : hi_W K W1 := fun s hs i i1 i2 => by
  by_cases e : i = p
  · subst e
    obtain ⟨c, c1, c2⟩ := h2
    rw [hp s hs i1 i2, c2]
    exact hi_nv (by omega) (by omega)
  · rw [h1 i (Nat.lt_of_le_of_lt i2 (hi_w46 s hs)) e]
    exact hW s hs i i1 i2
end HJA
theorem hi_len2 {as : List Value} (h : as.length = 2) : ∃ a b, as = [a, b] := by
  match as, h with
  | [a, b], _ => exact ⟨a, b, rfl⟩
theorem hi_len3 {as : List Value} (h : as.length = 3) : ∃ a b c, as = [a, b, c] := by
  match as, h with
  | [a, b, c], _ => exact ⟨a, b, c, rfl⟩
theorem hi_len5 {as : List Value} (h : as.length = 5) : ∃ a b c d e, as = [a, b, c, d, e] := by
  match as, h with
  | [a, b, c, d, e], _ => exact ⟨a, b, c, d, e, rfl⟩
def hq_rule : et_Co := (180, [.inr (.inr (0, 13))], hi_MP, [(.inl (some (.inl (et_mn, et_mx))), 0, 0)], 40)
def hq_turner : et_Co := (206, [.inr (.inr (0, 13))], hi_MP, [(.inl (some (.inl (et_mn, et_mx))), 0, 0)], 40)
def hq_claim : et_Co := (207, [.inr (.inr (0, 13)), .inl (et_mn, et_mx), .inl (et_mn, et_mx)], hi_MP, [(.inl (some (.inl (et_mn, et_mx))), 0, 0)], 40)
theorem hi_mL180 : eg_mL 180 = 2 := by decide +kernel
theorem hi_mL206 : eg_mL 206 = 1 := by decide +kernel
theorem hi_mL207 : eg_mL 207 = 4 := by decide +kernel
theorem hc_rule : et_cv et_TT hq_rule := by
  intro w as d2 hH hd hl hv
  obtain ⟨v, rfl⟩ := List.length_eq_one_iff.mp (show as.length = 1 from hl)
  obtain ⟨am, rfl, ha⟩ := hi_ref (hv 0 _ _ rfl rfl)
  obtain ⟨F, W, aw, ta, tp, pt, bg, st, dp, ai, TP, IK, hB, ⟨b1, b2, b3, b4⟩, eFF, ⟨hi, i1, i2, i3, i4, hKi, hI⟩, ⟨eF, eW, hKw, hF, hX, hW, hG⟩, e⟩ := hi_txt hH ha
  obtain ⟨r, r1, r2⟩ := hi_natW (hW (0, 1, .inl (0, 4)) (List.mem_of_getElem? (i := 0) rfl) 0 (by decide) (by decide))
  obtain ⟨d, rfl⟩ : ∃ d, d2 = d + 33 := ⟨d2 - 33, by have : 40 ≤ d2 := hd; omega⟩
  rw [hi_mL180]
  have h0 := rp_rule (d := d) (Z := fun u => ∃ e ∈ hq_rule.2.2.2.1, ∃ K' : et_K, et_ex w.1 K' ∧ et_fr hi_MP w.1 w.2.2 u.2.1 ∧ et_H et_TT K' u.2.1 ∧ (match e.1 with
    | .inl (some p) => ∃ v, u.1 = .inl (some v) ∧ et_v K' p v
    | .inl none => u.1 = .inl none
    | .inr x => u.1 = .inr x) ∧ u.2.2.1 ≤ e.2.1 ∧ u.2.2.2 ≤ e.2.2) hB (pt := pt) (bg := bg) (st := st) b4 (r := r) (by omega) r2 hi i1 i2 i3 i4 (fun v F1 W1 G1 hQ hK h1 h2 h3 => hi_end hH ha hKw eF eW hF hX hKi hI i4 hK hQ (hi_W1 (p := 0) (m := 4) (by decide) (by decide +kernel) hW h1 h2) (h3 hG) (fun i j1 j2 => h1 i (by omega) (by omega)))
  rw [← eFF, ← e] at h0
  exact h0
theorem hc_turner : et_cv et_TT hq_turner := by
  intro w as d2 hH hd hl hv
  obtain ⟨v, rfl⟩ := List.length_eq_one_iff.mp (show as.length = 1 from hl)
  obtain ⟨am, rfl, ha⟩ := hi_ref (hv 0 _ _ rfl rfl)
  obtain ⟨F, W, aw, ta, tp, pt, bg, st, dp, ai, TP, IK, hB, ⟨b1, b2, b3, b4⟩, eFF, ⟨hi, i1, i2, i3, i4, hKi, hI⟩, ⟨eF, eW, hKw, hF, hX, hW, hG⟩, e⟩ := hi_txt hH ha
  obtain ⟨r, r1, r2⟩ := hi_natW (hW (0, 1, .inl (0, 4)) (List.mem_of_getElem? (i := 0) rfl) 1 (by decide) (by decide))
  obtain ⟨d, rfl⟩ : ∃ d, d2 = d + 33 := ⟨d2 - 33, by have : 40 ≤ d2 := hd; omega⟩
  rw [hi_mL206]
  have h0 := rp_turner (d := d) (Z := fun u => ∃ e ∈ hq_turner.2.2.2.1, ∃ K' : et_K, et_ex w.1 K' ∧ et_fr hi_MP w.1 w.2.2 u.2.1 ∧ et_H et_TT K' u.2.1 ∧ (match e.1 with
    | .inl (some p) => ∃ v, u.1 = .inl (some v) ∧ et_v K' p v
    | .inl none => u.1 = .inl none
    | .inr x => u.1 = .inr x) ∧ u.2.2.1 ≤ e.2.1 ∧ u.2.2.2 ≤ e.2.2) hB (pt := pt) (bg := bg) (st := st) b4 (r := r) (by omega) r2 hi i1 i2 i3 i4 (fun v F1 W1 G1 hQ hK h1 h2 h3 => hi_end hH ha hKw eF eW hF hX hKi hI i4 hK hQ (hi_W1 (p := 1) (m := 4) (by decide) (by decide +kernel) hW h1 h2) (h3 hG) (fun i j1 j2 => h1 i (by omega) (by omega)))
  rw [← eFF, ← e] at h0
  exact h0
theorem hc_claim : et_cv et_TT hq_claim := by
  intro w as d2 hH hd hl hv
  obtain ⟨v, v1, v2, rfl⟩ := hi_len3 (show as.length = 3 from hl)
  obtain ⟨am, rfl, ha⟩ := hi_ref (hv 0 _ _ rfl rfl)
  obtain ⟨ey, rfl, -⟩ := hi_int (hv 1 _ _ rfl rfl)
  obtain ⟨ru, rfl, -⟩ := hi_int (hv 2 _ _ rfl rfl)
  obtain ⟨F, W, aw, ta, tp, pt, bg, st, dp, ai, TP, IK, hB, ⟨b1, b2, b3, b4⟩, eFF, ⟨hi, i1, i2, i3, i4, hKi, hI⟩, ⟨eF, eW, hKw, hF, hX, hW, hG⟩, e⟩ := hi_txt hH ha
  obtain ⟨r, r1, r2⟩ := hi_natW (hW (2, 2, .inl (0, 6)) (List.mem_of_getElem? (i := 1) rfl) 2 (by decide) (by decide))
  obtain ⟨ec, e1, e2⟩ := hi_natW (hW (4, 4, .inl (0, 3)) (List.mem_of_getElem? (i := 3) rfl) 4 (by decide) (by decide))
  obtain ⟨rc, c1, c2⟩ := hi_natW (hW (0, 1, .inl (0, 4)) (List.mem_of_getElem? (i := 0) rfl) 0 (by decide) (by decide))
  obtain ⟨d, rfl⟩ : ∃ d, d2 = d + 33 := ⟨d2 - 33, by have : 40 ≤ d2 := hd; omega⟩
  obtain ⟨z1, hz1, -⟩ := hi_int (hF 13 _ rfl)
  obtain ⟨z2, hz2, -⟩ := hi_int (hF 10 _ rfl)
  rw [hi_mL207]
  have h0 := rp_claim (d := d) (Z := fun u => ∃ e ∈ hq_claim.2.2.2.1, ∃ K' : et_K, et_ex w.1 K' ∧ et_fr hi_MP w.1 w.2.2 u.2.1 ∧ et_H et_TT K' u.2.1 ∧ (match e.1 with
    | .inl (some p) => ∃ v, u.1 = .inl (some v) ∧ et_v K' p v
    | .inl none => u.1 = .inl none
    | .inr x => u.1 = .inr x) ∧ u.2.2.1 ≤ e.2.1 ∧ u.2.2.2 ≤ e.2.2) hB (pt := pt) (bg := bg) (st := st) b4 (r := r) (ey := ey) (ru := ru) (by omega) r2 (by omega) e2 (by omega) c2 ⟨⟨z1, hz1⟩, z2, hz2⟩ hi i1 i2 i3 i4 (fun v F1 W1 G1 hQ hK h1 h2 h3 h4 => hi_end hH ha hKw eF eW hF hX hKi hI i4 hK hQ (fun s hs i j1 j2 => ?_) (h4 hG) (fun i j1 j2 => h1 i (by omega) (by omega))) b2
  · rw [← eFF, ← e] at h0
    exact h0
  · have hlt := hi_w46 s hs
    by_cases h5 : i < 114
    · by_cases h6 : i = 2
      · subst h6
        obtain ⟨c, g1, g2⟩ := h2
        rw [(by decide +kernel : ∀ s ∈ et_w46, s.1 ≤ 2 → 2 ≤ s.2.1 → s.2.2 = .inl (0, 6)) s hs j1 j2, g2]
        exact hi_nv (by omega) (by omega)
      · rw [h1 i h5 h6]
        exact hW s hs i j1 j2
    · obtain ⟨c, hc⟩ : ∃ c, i = 114 + 2 * c ∨ i = 114 + 2 * c + 1 := ⟨(i - 114) / 2, by omega⟩
      have hc6 : c < 6 := by omega
      rcases hc with rfl | rfl
      · rcases (h3 c hc6).1 with h7 | ⟨n, n1, n2⟩
        · rw [h7]
          exact hW s hs _ j1 j2
        · rw [(by decide +kernel : ∀ c ∈ List.range 6, ∀ s ∈ et_w46, s.1 ≤ 114 + 2 * c → 114 + 2 * c ≤ s.2.1 → s.2.2 = .inl (0, 2)) c (List.mem_range.mpr hc6) s hs j1 j2, n2]
          exact hi_nv (by omega) (by omega)
      · rcases (h3 c hc6).2 with h7 | ⟨n, n1, n2⟩
        · rw [h7]
          exact hW s hs _ j1 j2
        · rw [(by decide +kernel : ∀ c ∈ List.range 6, ∀ s ∈ et_w46, s.1 ≤ 114 + 2 * c + 1 → 114 + 2 * c + 1 ≤ s.2.1 → s.2.2 = .inl (0, 3)) c (List.mem_range.mpr hc6) s hs j1 j2, n2]
          exact hi_nv (by omega) (by omega)
