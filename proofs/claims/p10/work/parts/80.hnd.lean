/-! CONTRACT BY HAND: looksAt -/
def hi_ML : et_M := [(13, 23, 23), (13, 24, 24), (13, 25, 25), (13, 26, 26), (13, 27, 27), (13, 29, 29), (50, 0, 5)]
def hq_looks : et_Co := (257, [.inr (.inr (0, 13)), .inl (0, 2)], hi_ML, [(.inl none, 0, 0)], 8)
theorem hi_QlF {K : et_K} {F F' : Nat → Value} (h : hi_F K F) (hQ : rl_Q F F') : hi_F K F' := by
  obtain ⟨h1, ⟨x, hx⟩, ⟨y, hy⟩, ⟨z, hz⟩, h2⟩ := hQ
  refine hi_Fi (fun k hk => ?_)
  have hc : ((k < 23 ∨ 27 < k) ∧ k ≠ 29) ∨ k = 23 ∨ k = 24 ∨ k = 25 ∨ k = 26 ∨ k = 27 ∨ k = 29 := by omega
  rcases hc with ⟨c1, c2⟩ | rfl | rfl | rfl | rfl | rfl | rfl
  · rw [h1 k c1 c2]; exact hi_Fe h k hk
  · rw [hx]; exact hi_any
  · rw [hy]; exact hi_any
  · rcases h2 with ⟨-, e, -⟩ | ⟨a, b, -, e, -⟩
    · rw [e]; exact hi_Fe h 25 (by decide)
    · rw [e]; exact hi_any
  · rcases h2 with ⟨-, -, e⟩ | ⟨a, b, -, -, e, -⟩
    · rw [e]; exact hi_Fe h 26 (by decide)
    · rw [e]; exact hi_any
  · rw [hz]; exact hi_any
  · rcases h2 with ⟨e, -, -⟩ | ⟨a, b, e, -⟩
    · rw [e]; exact hi_Fe h 29 (by decide)
    · rw [e]; exact hi_iv (by decide) (by decide)
theorem hi_QlX {F F' : Nat → Value} (h : hi_X F) (hQ : rl_Q F F') : hi_X F' := fun s x y e1 e2 e3 hs => by
  obtain ⟨-, -, -, -, h2⟩ := hQ
  rcases h2 with ⟨a1, a2, a3⟩ | ⟨a, b, a1, a2, a3, a4⟩
  · exact h s x y (a1.symm.trans e1) (a2.symm.trans e2) (a3.symm.trans e3) hs
  · rw [a2] at e2
    rw [a3] at e3
    cases e2
    cases e3
    exact a4
theorem hc_looks : et_cv et_TT hq_looks := by
  intro w as d2 hH hd hl hv
  obtain ⟨v, v1, rfl⟩ := hi_len2 (show as.length = 2 from hl)
  obtain ⟨am, rfl, ha⟩ := hi_ref (hv 0 _ _ rfl rfl)
  obtain ⟨e, he, rfl⟩ := hi_nat (hv 1 _ _ rfl rfl)
  obtain ⟨F, W, aw, hA, eF, eW, hw, hKw, hF, hX, hW, hG, e0⟩ := hi_mod hH ha
  obtain ⟨td, htd, kt⟩ := hi_ref (hF 21 _ rfl)
  obtain ⟨vs, hvs, kv⟩ := hi_ref (hF 20 _ rfl)
  obtain ⟨bs, hbs, kb⟩ := hi_ref (hF 22 _ rfl)
  obtain ⟨lg, hlg, -⟩ := hi_int (hF 27 _ rfl)
  obtain ⟨so, hso, -⟩ := hi_int (hF 29 _ rfl)
  obtain ⟨bm, hbm, -⟩ := hi_int (hF 23 _ rfl)
  obtain ⟨z24, h24, -⟩ := hi_int (hF 24 _ rfl)
  obtain ⟨TD, eT, -⟩ := hi_arr (t := 49) (kd := 0) (n := 6) (ss := []) hH kt rfl (by decide) (.inl rfl)
  obtain ⟨VS, eV, -⟩ := hi_arr (t := 20) (kd := 0) (n := 120) (ss := []) hH kv rfl (by decide) (.inl rfl)
  obtain ⟨B, eB, -⟩ := hi_arr (t := 50) (kd := 0) (n := 6) (ss := []) hH kb rfl (by decide) (.inl rfl)
  obtain ⟨c, hc, hc2⟩ := hi_natW (hW (3, 3, .inl (0, 20)) (List.mem_of_getElem? (i := 2) rfl) 3 (by decide) (by decide))
  obtain ⟨wn, hwn, hwn2⟩ := hi_natW (hW _ (hi_w45 e (by omega)) (45 + 23 * e) (Nat.le_refl _) (Nat.le_refl _))
  obtain ⟨d, rfl⟩ : ∃ d, d2 = d + 4 := ⟨d2 - 4, by have : 8 ≤ d2 := hd; omega⟩
  have gb := hi_at hH kb (by decide)
  have hV : rl_V w.2.2 am aw td vs bs F TD VS := ⟨hA, hw, ⟨htd, hi_ne kt ha (by decide), hi_ne kt hKw (by decide), hi_ne kt kb (by decide), (hi_at hH kt (by decide)).2, eT⟩, ⟨hvs, hi_ne kv ha (by decide), hi_ne kv hKw (by decide), hi_ne kv kb (by decide), (hi_at hH kv (by decide)).2, eV⟩, hbs, hi_ne kb ha (by decide), hi_ne kb hKw (by decide), gb⟩
  rw [show eg_mL 257 = 8 from by decide +kernel]
  have h0 := rl_looks (d := d) (Z := hi_Z et_TT w hi_ML [(.inl none, 0, 0)]) (B := B) hV (e := e) (by omega) hwn2 (by omega) hc2 (by omega) hlg hso hbm ⟨z24, h24⟩ (fun F' B' hQ => by
    have g1 : et_H et_TT w.1 (eg_u w.2.2 bs (rl_b B')) := hi_uarr (t := 50) (kd := 0) (n := 6) (ss := []) hH kb (by decide) rfl (.inl rfl) (fun s hs => absurd hs List.not_mem_nil) (fun _ h => by omega)
    have f1 : et_fr hi_ML w.1 w.2.2 (eg_u w.2.2 bs (rl_b B')) := hi_frM hH kb (by decide) (fun i hi => by
      rw [eB]
      show (if i < 6 then some (Value.int (B' i)) else none) = (if i < 6 then some (Value.int (B i)) else none)
      by_cases h : i < 6
      · exfalso
        unfold et_mm hi_ML at hi
        simp at hi
        omega
      · rw [if_neg h, if_neg h])
    have n1 : am ≠ bs := hi_ne ha kb (by decide)
    have n2 : aw ≠ bs := hi_ne hKw kb (by decide)
    refine ⟨_, List.mem_cons_self, w.1, et_ex.rf, f1.tr et_ex.rf (hi_fr g1 ha hKw ((hi_uc n1).trans eF) ((hi_uc n2).trans eW) (fun i hi => ?_) (fun _ _ _ => rfl)), hi_fin g1 ha hKw (hi_QlF hF hQ) (hi_QlX hX hQ) hW hG, rfl, Nat.le_refl _, Nat.le_refl _⟩
    unfold et_mm hi_ML at hi
    simp at hi
    exact hQ.1 i (by omega) (by omega))
  unfold rl_H at h0
  rw [show eg_u w.2.2 bs (rl_b B) = w.2.2 from hm_same eB gb.1, ← e0] at h0
  exact h0
