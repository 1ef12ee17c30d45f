/-! CONTRACTS BY HAND: image, back, holdsLine -/
section HKA
variable {K : et_K} {G : eg_G} {am aw : Nat} {F F1 : Nat → Value} {W W1 : Nat → Int32}
abbrev hi_Z (T : List et_D) (w : et_Wd) (M : et_M) (es : List ((Option et_P ⊕ Nat) × Nat × Nat)) : eg_O → Prop := fun u => ∃ e ∈ es, ∃ K' : et_K, et_ex w.1 K' ∧ et_fr M w.1 w.2.2 u.2.1 ∧ et_H T K' u.2.1 ∧ (match e.1 with
    | .inl (some p) => ∃ v, u.1 = .inl (some v) ∧ et_v K' p v
    | .inl none => u.1 = .inl none
    | .inr x => u.1 = .inr x) ∧ u.2.2.1 ≤ e.2.1 ∧ u.2.2.2 ≤ e.2.2
theorem hi_set {k : Nat} {v : Value} (h : hi_F K F) (hv : et_v K (et_m13.getD k (.inl (0, 0))) v) : hi_F K (updV F k v) := hi_Fi (fun j hj => by
  unfold updV
  by_cases e : j = k
  · rw [if_pos e, e]; exact hv
  · rw [if_neg e]; exact hi_Fe h j hj)
theorem hi_setX {k : Nat} {v : Value} (h : hi_X F) (h1 : k ≠ 29) (h2 : k ≠ 25) (h3 : k ≠ 26) : hi_X (updV F k v) := fun s x y e1 e2 e3 => h s x y ((if_neg h1.symm).symm.trans e1) ((if_neg h2.symm).symm.trans e2) ((if_neg h3.symm).symm.trans e3)
theorem hi_uc {a b : Nat} {c : eg_C} (h : b ≠ a) : eg_at (eg_u G a c) b = eg_at G b := et_at_u h
end HKA
def hi_MI : et_M := [(13, 0, 0), (13, 3, 3), (47, 0, 11899)]
def hq_image : et_Co := (175, [.inr (.inr (0, 13))], hi_MI, [(.inl none, 0, 0)], 1)
theorem hi_mL175 : eg_mL 175 = 2 := by decide +kernel
theorem hi_mL176 : eg_mL 176 = 2 := by decide +kernel
theorem hc_image : et_cv et_TT hq_image := by
  intro w as d2 hH hd hl hv
  obtain ⟨v, rfl⟩ := List.length_eq_one_iff.mp (show as.length = 1 from hl)
  obtain ⟨am, rfl, ha⟩ := hi_ref (hv 0 _ _ rfl rfl)
  obtain ⟨F, W, aw, hA, eF, eW, hw, hKw, hF, hX, hW, hG, e⟩ := hi_mod hH ha
  obtain ⟨ia, hi, hKi⟩ := hi_ref (hF 2 _ rfl)
  obtain ⟨I, eI, hI, -⟩ := hi_arr hH hKi et_t47 (by decide) (.inl rfl)
  rw [hi_mL175]
  have h0 := rp_image (d := d2) (Z := hi_Z et_TT w hi_MI [(.inl none, 0, 0)]) hA hw hi (hi_ne hKi ha (by decide)) (hi_ne hKi hKw (by decide)) (hi_at hH hKi (by decide)) eI (fun I' h1 => by
    have g1 : et_H et_TT w.1 (eg_u w.2.2 ia (.inl (0, (11900, .inl I')))) := hi_uarr hH hKi (by decide) et_t47 (.inl rfl) (fun s hs i i1 i2 i3 => by
      rw [h1 i i3]
      exact hW s hs i i1 i2) (fun _ _ => hG.lo (fun i _ h => h1 i h))
    have g2 : et_fr hi_MI w.1 w.2.2 (eg_u w.2.2 ia (.inl (0, (11900, .inl I')))) := hi_frM hH hKi (by decide) (fun i hi => by
      rw [eI]
      show (if i < 11900 then some (Value.int (I' i)) else none) = (if i < 11900 then some (Value.int (I i)) else none)
      by_cases h : i < 11900
      · exfalso
        unfold et_mm hi_MI at hi
        simp at hi
        omega
      · rw [if_neg h, if_neg h])
    refine ⟨_, List.mem_cons_self, w.1, et_ex.rf, g2.tr et_ex.rf (hi_fr g1 ha hKw ((hi_uc (hi_ne ha hKi (by decide))).trans eF) ((hi_uc (hi_ne hKw hKi (by decide))).trans eW) (fun i hi => ?_) (fun _ _ _ => rfl)), hi_fin g1 ha hKw (hi_set (hi_set hF hi_any) (hi_iv (by decide) (by decide))) (hi_setX (hi_setX hX (by decide) (by decide) (by decide)) (by decide) (by decide) (by decide)) hW hG, rfl, Nat.le_refl _, Nat.le_refl _⟩
    unfold et_mm hi_MI at hi
    simp at hi
    exact (if_neg (by omega)).trans (if_neg (by omega)))
  rw [← e] at h0
  exact h0
def hi_MB : et_M := [(13, 0, 0), (46, 0, 12740), (25, 0, 3)]
def hq_back : et_Co := (176, [.inr (.inr (0, 13))], hi_MB, [(.inl (some (.inl (0, 1))), 0, 0)], 1)
theorem hc_back : et_cv et_TT hq_back := by
  intro w as d2 hH hd hl hv
  obtain ⟨v, rfl⟩ := List.length_eq_one_iff.mp (show as.length = 1 from hl)
  obtain ⟨am, rfl, ha⟩ := hi_ref (hv 0 _ _ rfl rfl)
  obtain ⟨F, W, aw, hA, eF, eW, hw, hKw, hF, hX, hW, hG, e⟩ := hi_mod hH ha
  obtain ⟨ia, hi, hKi⟩ := hi_ref (hF 2 _ rfl)
  obtain ⟨I, eI, hI, hIx⟩ := hi_arr hH hKi et_t47 (by decide) (.inl rfl)
  obtain ⟨ai, hai, hKa⟩ := hi_ref (hF 18 _ rfl)
  obtain ⟨IK, eA, hIK, -⟩ := hi_arr (kd := 3) (n := 4) hH hKa rfl (by decide) (.inr (.inr (.inl rfl)))
  obtain ⟨hm, hh, -⟩ := hi_int (hF 3 _ rfl)
  have n1 : am ≠ ai := hi_ne ha hKa (by decide)
  have n2 : aw ≠ ai := hi_ne hKw hKa (by decide)
  have hF2 : hi_F w.1 (updV F 0 (.int (Int32.ofNat 0))) := hi_set hF hi_any
  have hX2 : hi_X (updV F 0 (.int (Int32.ofNat 0))) := hi_setX hX (by decide) (by decide) (by decide)
  have hM0 : ∀ i, et_mm hi_MB 13 i = false → updV F 0 (.int (Int32.ofNat 0)) i = F i := fun i hi => by
    unfold et_mm hi_MB at hi
    simp at hi
    exact if_neg (by omega)
  rw [hi_mL176]
  have h0 := rp_back (d := d2) (Z := hi_Z et_TT w hi_MB [(.inl (some (.inl (0, 1))), 0, 0)]) hA hw hi hh (hi_ne hKi ha (by decide)) (hi_ne hKi hKw (by decide)) (hi_at hH hKi (by decide)) eI hai (hi_ne hKa ha (by decide)) (hi_ne hKa hKw (by decide)) (hi_at hH hKa (by decide)) eA
    (fun _ => ⟨_, List.mem_cons_self, w.1, et_ex.rf, hi_fr hH ha hKw eF eW hM0 (fun _ _ _ => rfl), hi_fin hH ha hKw hF2 hX2 hW hG, ⟨_, rfl, hi_iv (by decide) (by decide)⟩, Nat.le_refl _, Nat.le_refl _⟩)
    (fun _ V K' h1 h2 h3 => by
    have g1 : et_H et_TT w.1 (eg_u w.2.2 ai (.inl (3, (4, .inl K')))) := hi_uarr (t := 25) (kd := 3) (n := 4) hH hKa (by decide) rfl (.inr (.inr (.inl rfl))) (fun s hs i i1 i2 i3 => by
      obtain rfl : s = (0, 3, .inl (0, 1)) := by simpa using hs
      show et_v w.1 (.inl (0, 1)) (.int (K' i))
      rcases h3 i with h3 | h3
      · rw [h3]; exact hIK _ List.mem_cons_self i (Nat.zero_le _) (by show i ≤ 3; omega) i3
      · rw [h3]; exact hi_iv (by decide) (by decide)) (fun h => absurd h (by decide))
    have g2 : et_fr hi_MB w.1 w.2.2 (eg_u w.2.2 ai (.inl (3, (4, .inl K')))) := hi_frM hH hKa (by decide) (fun i hi => by
      rw [eA]
      show (if i < 4 then eg_rd 3 (4, .inl K') i else none) = (if i < 4 then eg_rd 3 (4, .inl IK) i else none)
      by_cases h : i < 4
      · exfalso
        unfold et_mm hi_MB at hi
        simp at hi
        omega
      · rw [if_neg h, if_neg h])
    refine ⟨_, List.mem_cons_self, w.1, et_ex.rf, g2.tr et_ex.rf (hi_fr g1 ha hKw ((hi_uc n1).trans eF) ((hi_uc n2).trans eW) hM0 (fun i i1 i2 => ?_)), hi_fin g1 ha hKw hF2 hX2 (fun s hs i i1 i2 => ?_) ((hIx rfl (.inr rfl) _ _ eI).lo (fun i _ h => h1 i h)), ⟨_, rfl, hi_iv (by decide) (by decide)⟩, Nat.le_refl _, Nat.le_refl _⟩
    · unfold et_mm hi_MB at i2
      simp at i2
      omega
    · have := hi_w46 s hs
      rw [h1 i (by omega)]
      exact hI s hs i i1 i2 (by omega))
  rw [← e] at h0
  exact h0
/-! holdsLine -/
def hi_MV : et_M := [(29, 0, 399)]
theorem hi_mL216 : eg_mL 216 = 13 := by decide +kernel
theorem hi_V {K : et_K} {G : eg_G} {am aw : Nat} {F : Nat → Value} (hH : et_H et_TT K G) (ha : K am = some 13) (hA : hm_ok G am aw) (hw : F 1 = .ref aw) (hKw : K aw = some 46) (hF : hi_F K F) : ∃ va fa tg V FA TG, rp_V G am aw va fa tg F FA TG ∧ eg_at G va = hv_c V ∧ K va = some 29 ∧ K fa = some 14 ∧ K tg = some 24 := by
  obtain ⟨va, h1, k1⟩ := hi_ref (hF 17 _ rfl)
  obtain ⟨fa, h2, k2⟩ := hi_ref (hF 14 _ rfl)
  obtain ⟨tg, h3, k3⟩ := hi_ref (hF 15 _ rfl)
  obtain ⟨li, h4, -⟩ := hi_int (hF 16 _ rfl)
  obtain ⟨V, eV⟩ := hi_arrL (t := 29) (n := 400) (ss := []) hH k1 rfl (by decide)
  obtain ⟨FA, eFA, -⟩ := hi_arr (t := 14) (kd := 0) (n := 5) (ss := []) hH k2 rfl (by decide) (.inl rfl)
  obtain ⟨TG, eTG, -⟩ := hi_arr (t := 24) (kd := 3) (n := 2) hH k3 rfl (by decide) (.inr (.inr (.inl rfl)))
  exact ⟨va, fa, tg, V, FA, TG, ⟨hA, hw, ⟨h1, hi_ne k1 ha (by decide), hi_ne k1 hKw (by decide), hi_at hH k1 (by decide)⟩, ⟨h2, hi_ne k2 ha (by decide), hi_ne k2 hKw (by decide), hi_ne k2 k1 (by decide), (hi_at hH k2 (by decide)).2, eFA⟩, ⟨h3, hi_ne k3 ha (by decide), hi_ne k3 hKw (by decide), hi_ne k3 k1 (by decide), (hi_at hH k3 (by decide)).2, eTG⟩, li, h4⟩, eV, k1, k2, k3⟩
theorem hi_uV {K : et_K} {G : eg_G} {va : Nat} {V V' : Nat → Int64} {M : et_M} (hM : ∀ i, i < 400 → et_mm M 29 i = true) (hH : et_H et_TT K G) (k1 : K va = some 29) (eV : eg_at G va = hv_c V) : et_H et_TT K (eg_u G va (hv_c V')) ∧ et_fr M K G (eg_u G va (hv_c V')) := ⟨hi_uarrL hH k1 (by decide) rfl, hi_frM hH k1 (by decide) (fun i hi => by
    rw [eV]
    show (if i < 400 then eg_rd 2 (400, .inr (.inl V')) i else none) = (if i < 400 then eg_rd 2 (400, .inr (.inl V)) i else none)
    by_cases h : i < 400
    · rw [hM i h] at hi
      cases hi
    · rw [if_neg h, if_neg h])⟩
/-- a line of a text, by its place -/
theorem hi_holds {t n d2 : Nat} {w : et_Wd} {am : Nat} (hH : et_H et_TT w.1 w.2.2) (ha : w.1 am = some 13) (hd : 3 ≤ d2) (ht : t < 14) (hn : n < 10) (hL : ∀ F W aw, eg_at w.2.2 am = hm_F F → F 1 = .ref aw → eg_at w.2.2 aw = hm_W W → gq_G W → gq_L W (126 + 841 * t) n 400) : et_go none d2 216 0 (eg_en (eg_mL 216) [.ref am, .int (Int32.ofNat t), .int (Int32.ofNat n)]) [] w.2.2 0 0 (hi_Z et_TT w hi_MV [(.inl (some (.inl (0, 1))), 0, 0)]) := by
  obtain ⟨F, W, aw, hA, eF, eW, hw, hKw, hF, hX, hW, hG, e⟩ := hi_mod hH ha
  obtain ⟨va, fa, tg, V, FA, TG, hV, eV, k1, k2, k3⟩ := hi_V hH ha hA hw hKw hF
  obtain ⟨d, rfl⟩ : ∃ d, d2 = d + 2 := ⟨d2 - 2, by omega⟩
  rw [hi_mL216]
  have h0 := rp_holds (d := d) (Z := hi_Z et_TT w hi_MV [(.inl (some (.inl (0, 1))), 0, 0)]) hV ht hn (hL F W aw eF hw eW hG) (V := V) (fun x V' hx => by
    obtain ⟨g1, g2⟩ := hi_uV (V' := V') (M := hi_MV) (fun i h => by unfold et_mm hi_MV; simp; omega) hH k1 eV
    have n1 : am ≠ va := hi_ne ha k1 (by decide)
    have n2 : aw ≠ va := hi_ne hKw k1 (by decide)
    exact ⟨_, List.mem_cons_self, w.1, et_ex.rf, g2.tr et_ex.rf (hi_fr g1 ha hKw ((hi_uc n1).trans eF) ((hi_uc n2).trans eW) (fun _ _ => rfl) (fun _ _ _ => rfl)), hi_fin g1 ha hKw hF hX hW hG, ⟨_, rfl, hi_nv (by omega) (by omega)⟩, Nat.le_refl _, Nat.le_refl _⟩)
  rw [show eg_u w.2.2 va (hv_c V) = w.2.2 from hm_same eV hV.2.2.1.2.2.2.1, ← e] at h0
  exact h0
def hq_holdsA : et_Co := (216, [.inr (.inr (0, 13)), .inl (0, 3), .inl (0, 0)], hi_MV, [(.inl (some (.inl (0, 1))), 0, 0)], 3)
def hq_holdsB : et_Co := (216, [.inr (.inr (0, 13)), .inl (8, 13), .inl (0, 0)], hi_MV, [(.inl (some (.inl (0, 1))), 0, 0)], 3)
theorem hc_holdsA : et_cv et_TT hq_holdsA := by
  intro w as d2 hH hd hl hv
  obtain ⟨v, v1, v2, rfl⟩ := hi_len3 (show as.length = 3 from hl)
  obtain ⟨am, rfl, ha⟩ := hi_ref (hv 0 _ _ rfl rfl)
  obtain ⟨t, ht, rfl⟩ := hi_nat (hv 1 _ _ rfl rfl)
  obtain ⟨n, hn, rfl⟩ := hi_nat (hv 2 _ _ rfl rfl)
  obtain rfl : n = 0 := by omega
  refine hi_holds hH ha hd (by omega) (by omega) (fun F W aw _ _ _ hG => ?_)
  obtain ⟨l, -, -, h⟩ := hG t (by omega)
  exact h 0 (.inr ⟨rfl, by omega⟩)
theorem hc_holdsB : et_cv et_TT hq_holdsB := by
  intro w as d2 hH hd hl hv
  obtain ⟨v, v1, v2, rfl⟩ := hi_len3 (show as.length = 3 from hl)
  obtain ⟨am, rfl, ha⟩ := hi_ref (hv 0 _ _ rfl rfl)
  obtain ⟨x, rfl, x1, x2⟩ := hi_int (hv 1 _ _ rfl rfl)
  obtain ⟨n, hn, rfl⟩ := hi_nat (hv 2 _ _ rfl rfl)
  obtain rfl : n = 0 := by omega
  obtain ⟨t, rfl, t1, t2⟩ : ∃ t : Nat, x = Int32.ofNat t ∧ 8 ≤ t ∧ t ≤ 13 := ⟨x.toInt.toNat, by
    apply Int32.toInt_inj.mp
    rw [hs_nint (by omega)]
    omega, by omega, by omega⟩
  refine hi_holds hH ha hd (by omega) (by omega) (fun F W aw _ _ _ hG => ?_)
  obtain ⟨l, -, -, h⟩ := hG t (by omega)
  exact h 0 (.inr ⟨rfl, by omega⟩)
