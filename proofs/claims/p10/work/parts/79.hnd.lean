/-! CONTRACTS BY HAND: the counting sort -/
def hq_sorts (a b : Nat) : et_Co := (267, [.inr (.inr (0, 13)), .inl (0, 2), .inr (.inr (0, a)), .inr (.inr (0, b)), .inl (et_mn, et_mx)], [(22, 0, 32768), (b, 0, 65535)], [(.inl none, 0, 0)], 6)
theorem hi_w45 : ∀ e, e < 3 → (45 + 23 * e, 45 + 23 * e, (.inl (0, 6) : et_P)) ∈ et_w46 := by
  intro e he
  have : e = 0 ∨ e = 1 ∨ e = 2 := by omega
  rcases this with rfl | rfl | rfl
  · exact List.mem_of_getElem? (i := 4) rfl
  · exact List.mem_of_getElem? (i := 5) rfl
  · exact List.mem_of_getElem? (i := 6) rfl
theorem hc_sorts {a b : Nat} (hab : (a = 35 ∧ b = 48) ∨ (a = 48 ∧ b = 35)) : et_cv et_TT (hq_sorts a b) := by
  intro w as d2 hH hd hl hv
  obtain ⟨v, v1, v2, v3, v4, rfl⟩ := hi_len5 (show as.length = 5 from hl)
  obtain ⟨am, rfl, ha⟩ := hi_ref (hv 0 _ _ rfl rfl)
  obtain ⟨e, he, rfl⟩ := hi_nat (hv 1 _ _ rfl rfl)
  obtain ⟨fr, rfl, kf⟩ := hi_ref (hv 2 _ _ rfl rfl)
  obtain ⟨tt, rfl, kt⟩ := hi_ref (hv 3 _ _ rfl rfl)
  obtain ⟨sh, rfl, -⟩ := hi_int (hv 4 _ _ rfl rfl)
  obtain ⟨F, W, aw, hA, eF, eW, hw, hKw, hF, hX, hW, hG, e0⟩ := hi_mod hH ha
  obtain ⟨mn, hmn, km⟩ := hi_ref (hF 32 _ rfl)
  have hTa : et_TT[a]? = some (.inr (0, 65536, [(0, 65535, .inl (0, 65535))])) := by rcases hab with ⟨rfl, -⟩ | ⟨rfl, -⟩ <;> rfl
  have hTb : et_TT[b]? = some (.inr (0, 65536, [(0, 65535, .inl (0, 65535))])) := by rcases hab with ⟨-, rfl⟩ | ⟨-, rfl⟩ <;> rfl
  obtain ⟨AA, eA, hAA, -⟩ := hi_arr hH kf hTa (by decide) (.inl rfl)
  obtain ⟨TB, eB, hTB, -⟩ := hi_arr hH kt hTb (by decide) (.inl rfl)
  obtain ⟨MM, eM, -⟩ := hi_arr (t := 22) (kd := 0) (n := 32769) (ss := []) hH km rfl (by decide) (.inl rfl)
  obtain ⟨d, rfl⟩ : ∃ d, d2 = d + 6 := ⟨d2 - 6, by have : 6 ≤ d2 := hd; omega⟩
  obtain ⟨wn, hwn, hwn2⟩ := hi_natW (hW _ (hi_w45 e (by omega)) (45 + 23 * e) (Nat.le_refl _) (Nat.le_refl _))
  have hb2 : 2 ≤ b := by omega
  have gm := hi_at hH km (by decide)
  have gt := hi_at hH kt hb2
  have hne : mn ≠ tt := hi_ne km kt (by omega)
  have hV : ss_V w.2.2 am aw mn tt fr F AA := ⟨hA, hw, ⟨hmn, hi_ne km ha (by decide), hi_ne km hKw (by decide), gm⟩, ⟨hi_ne kt ha (by omega), hi_ne kt hKw (by omega), gt.1, gt.2, hne⟩, hi_ne kf ha (by omega), hi_ne kf hKw (by omega), hi_ne kf km (by omega), hi_ne kf kt (by omega), (hi_at hH kf (by omega)).2, eA⟩
  rw [show eg_mL 267 = 7 from by decide +kernel]
  have h0 := rp_sorts (d := d) (Z := hi_Z et_TT w [(22, 0, 32768), (b, 0, 65535)] [(.inl none, 0, 0)]) hV (W := W) (M := MM) (T := TB) (sh := sh) (e := e) (wn := wn) (by omega) hwn2 (by omega) (fun M' T' hT' => by
    have g1 : et_H et_TT w.1 (eg_u w.2.2 mn (ss_m M')) := hi_uarr (t := 22) (kd := 0) (n := 32769) (ss := []) hH km (by decide) rfl (.inl rfl) (fun s hs => absurd hs List.not_mem_nil) (fun _ h => by omega)
    have f1 : et_fr [(22, 0, 32768), (b, 0, 65535)] w.1 w.2.2 (eg_u w.2.2 mn (ss_m M')) := hi_frM hH km (by decide) (fun i hi => by
      rw [eM]
      show (if i < 32769 then some (Value.int (M' i)) else none) = (if i < 32769 then some (Value.int (MM i)) else none)
      by_cases h : i < 32769
      · exfalso
        unfold et_mm at hi
        simp at hi
        omega
      · rw [if_neg h, if_neg h])
    have g2 : et_H et_TT w.1 (eg_u (eg_u w.2.2 mn (ss_m M')) tt (ss_t T')) := hi_uarr (kd := 0) (n := 65536) g1 kt hb2 hTb (.inl rfl) (fun s hs i i1 i2 i3 => by
      obtain rfl : s = (0, 65535, .inl (0, 65535)) := by simpa using hs
      rcases hT' i with h | ⟨j, hj, h⟩
      · rw [h]; exact hTB _ List.mem_cons_self i i1 i2 i3
      · rw [h]; exact hAA _ List.mem_cons_self j (Nat.zero_le _) (by show j ≤ 65535; omega) hj) (fun _ h => by omega)
    have f2 : et_fr [(22, 0, 32768), (b, 0, 65535)] w.1 (eg_u w.2.2 mn (ss_m M')) (eg_u (eg_u w.2.2 mn (ss_m M')) tt (ss_t T')) := hi_frM g1 kt hb2 (fun i hi => by
      rw [et_at_u hne.symm, eB]
      show (if i < 65536 then some (Value.int (T' i)) else none) = (if i < 65536 then some (Value.int (TB i)) else none)
      by_cases h : i < 65536
      · exfalso
        unfold et_mm at hi
        simp at hi
        omega
      · rw [if_neg h, if_neg h])
    have n1 : am ≠ mn := hi_ne ha km (by decide)
    have n2 : aw ≠ mn := hi_ne hKw km (by decide)
    have n3 : am ≠ tt := hi_ne ha kt (by omega)
    have n4 : aw ≠ tt := hi_ne hKw kt (by omega)
    exact ⟨_, List.mem_cons_self, w.1, et_ex.rf, (f1.tr et_ex.rf f2).tr et_ex.rf (hi_fr g2 ha hKw ((hi_uc n3).trans ((hi_uc n1).trans eF)) ((hi_uc n4).trans ((hi_uc n2).trans eW)) (fun _ _ => rfl) (fun _ _ _ => rfl)), hi_fin g2 ha hKw hF hX hW hG, rfl, Nat.le_refl _, Nat.le_refl _⟩)
  unfold ss_H at h0
  rw [show eg_u w.2.2 mn (ss_m MM) = w.2.2 from hm_same eM gm.1, show eg_u w.2.2 tt (ss_t TB) = w.2.2 from hm_same eB gt.1, ← e0] at h0
  exact h0
