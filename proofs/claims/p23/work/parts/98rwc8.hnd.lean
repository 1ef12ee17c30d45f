/-! PHASE D: the reference's soonest leaves the whole world alone -/
def sw (w : et_Wd) (aw : Nat) (u : eg_O) : Prop := ∀ i, et_pl (eg_at u.2.1 aw) i = et_pl (eg_at w.2.2 aw) i
/-- c of the EYE's places are kept in ea; r of them are as they were -/
def sy (w : et_Wd) (e am aw ea c r : Nat) (G : eg_G) : Prop := (w.1 am = some 13 ∧ et_pl (eg_at w.2.2 am) 1 = some (.ref aw) ∧ w.1 aw = some 46) ∧ (0 < c → ∃ q : Nat, q ≤ 6 ∧ et_pl (eg_at w.2.2 aw) (45 + 23 * e) = some (.int (Int32.ofNat q))) ∧ (∀ j, j < c → et_pl (eg_at G ea) j = et_pl (eg_at w.2.2 aw) (45 + 23 * e + j)) ∧ ∀ i, (i < 45 + 23 * e + r ∨ 45 + 23 * e + 23 ≤ i) → et_pl (eg_at G aw) i = et_pl (eg_at w.2.2 aw) i
def sy_M (e : Nat) : et_M := [(14, 0, 100000), (24, 0, 100000), (29, 0, 100000), (46, 46 + 23 * e, 67 + 23 * e)]
theorem sy_wk : ∀ e ∈ List.range 3, et_ss (sy_M e) hi_MS = true := by decide +kernel
theorem sy_mm {e i : Nat} (h : i < 45 + 23 * e ∨ 45 + 23 * e + 23 ≤ i) : et_mm (sy_M e) 46 i = false := by
  unfold et_mm sy_M
  simp
  omega
theorem sy_46 {i : Nat} (h1 : 45 ≤ i) (h : i ≤ 113) : et_mm hi_MS 46 i = true := by
  unfold et_mm hi_MS
  simp
  omega
theorem sy_18 {i : Nat} (h : i < 23) : et_mm hi_MS 18 i = true := by
  unfold et_mm hi_MS
  simp
  omega
def sy_k (M : et_M) : Bool := no_t M 18 && no_t M 46
section SYA
variable {w : et_Wd} {K : et_K} {G G' : eg_G} {M : et_M} {e am aw ea c r : Nat}
theorem sy.fr (h : sy w e am aw ea c r G) (hx : et_ex w.1 K) (k_ea : K ea = some 18) (hf : et_fr M K G G') (hm : sy_k M = true) : sy w e am aw ea c r G' := by
  unfold sy_k at hm
  rw [Bool.and_eq_true] at hm
  exact ⟨h.1, h.2.1, fun j hj => (hf.2 ea 18 k_ea j (no_mm hm.1)).trans (h.2.2.1 j hj), fun i hi => (hf.2 aw 46 (hx _ _ h.1.2.2) i (no_mm hm.2)).trans (h.2.2.2 i hi)⟩
theorem sy.fe (h : sy w e am aw ea c 23 G) (hx : et_ex w.1 K) (k_ea : K ea = some 18) (hf : et_fr (sy_M e) K G G') : sy w e am aw ea c 0 G' := ⟨h.1, h.2.1, fun j hj => (hf.2 ea 18 k_ea j rfl).trans (h.2.2.1 j hj), fun i hi => (hf.2 aw 46 (hx _ _ h.1.2.2) i (sy_mm (by omega))).trans (h.2.2.2 i (by omega))⟩
theorem sy.rs (h : sy w e am aw ea c r G) (hH : et_H et_TT K G) (hx : et_ex w.1 K) (k_ea : K ea = some 18) (hr : r < 23) (x : xf (fun b j => b = aw ∧ j = 45 + 23 * e + r) G G') (v : et_pl (eg_at G' aw) (45 + 23 * e + r) = et_pl (eg_at w.2.2 aw) (45 + 23 * e + r)) : sy w e am aw ea c (r + 1) G' := by
  have k_aw := hx _ _ h.1.2.2
  refine ⟨h.1, h.2.1, fun j hj => (x.2 ea j (hH.2.2 _ _ k_ea).1 (fun hs => hi_ne k_ea k_aw (by decide) hs.1)).trans (h.2.2.1 j hj), fun i hi => ?_⟩
  by_cases ei : i = 45 + 23 * e + r
  · rw [ei]
    exact v
  · exact (x.2 aw i (hH.2.2 _ _ k_aw).1 (fun hs => ei hs.2)).trans (h.2.2.2 i (by omega))
theorem sy.cs (h : sy w e am aw ea c r G) (hH : et_H et_TT K G) (k_aw : K aw = some 46) (k_ea : K ea = some 18) (x : xf (fun b j => b = ea ∧ j = c) G G') (v : et_pl (eg_at G' ea) c = et_pl (eg_at w.2.2 aw) (45 + 23 * e + c)) (hq : c = 0 → ∃ q : Nat, q ≤ 6 ∧ et_pl (eg_at w.2.2 aw) (45 + 23 * e) = some (.int (Int32.ofNat q))) : sy w e am aw ea (c + 1) r G' := by
  refine ⟨h.1, fun _ => ?_, fun j hj => ?_, fun i hi => (x.2 aw i (hH.2.2 _ _ k_aw).1 (fun hs => hi_ne k_aw k_ea (by decide) hs.1)).trans (h.2.2.2 i hi)⟩
  · by_cases hc : c = 0
    · exact hq hc
    · exact h.2.1 (by omega)
  · by_cases ej : j = c
    · rw [ej]
      exact v
    · exact (x.2 ea j (hH.2.2 _ _ k_ea).1 (fun hs => ej hs.2)).trans (h.2.2.1 j (by omega))
end SYA
def hq_se (e : Nat) : et_Co := (283, [.inr (.inr (0, 13)), .inl (e, e), .inl (0, 3), .inl (0, 5)], sy_M e, [(.inl (some (.inl (et_mn, et_mx))), 0, 0)], 10)
theorem er_sec0 : et_cv et_TT (hq_se 0) := et_cok_ok (Ks := [er_ar0_0, er_ar0_1, er_ar0_2, er_ar0_3, er_ar0_4, er_ar0_5, er_q28]) (an := er_an2) (List.forall_mem_cons.mpr ⟨er_arc0_0, (List.forall_mem_cons.mpr ⟨er_arc0_1, (List.forall_mem_cons.mpr ⟨er_arc0_2, (List.forall_mem_cons.mpr ⟨er_arc0_3, (List.forall_mem_cons.mpr ⟨er_arc0_4, (List.forall_mem_cons.mpr ⟨er_arc0_5, (List.forall_mem_cons.mpr ⟨er_c28, (fun _ h => absurd h List.not_mem_nil)⟩)⟩)⟩)⟩)⟩)⟩)⟩) (by decide +kernel)
theorem er_sec1 : et_cv et_TT (hq_se 1) := et_cok_ok (Ks := [er_ar1_0, er_ar1_1, er_ar1_2, er_ar1_3, er_ar1_4, er_ar1_5, er_q29]) (an := er_an2) (List.forall_mem_cons.mpr ⟨er_arc1_0, (List.forall_mem_cons.mpr ⟨er_arc1_1, (List.forall_mem_cons.mpr ⟨er_arc1_2, (List.forall_mem_cons.mpr ⟨er_arc1_3, (List.forall_mem_cons.mpr ⟨er_arc1_4, (List.forall_mem_cons.mpr ⟨er_arc1_5, (List.forall_mem_cons.mpr ⟨er_c29, (fun _ h => absurd h List.not_mem_nil)⟩)⟩)⟩)⟩)⟩)⟩)⟩) (by decide +kernel)
theorem er_sec2 : et_cv et_TT (hq_se 2) := et_cok_ok (Ks := [er_ar2_0, er_ar2_1, er_ar2_2, er_ar2_3, er_ar2_4, er_ar2_5, er_q31]) (an := er_an2) (List.forall_mem_cons.mpr ⟨er_arc2_0, (List.forall_mem_cons.mpr ⟨er_arc2_1, (List.forall_mem_cons.mpr ⟨er_arc2_2, (List.forall_mem_cons.mpr ⟨er_arc2_3, (List.forall_mem_cons.mpr ⟨er_arc2_4, (List.forall_mem_cons.mpr ⟨er_arc2_5, (List.forall_mem_cons.mpr ⟨er_c31, (fun _ h => absurd h List.not_mem_nil)⟩)⟩)⟩)⟩)⟩)⟩)⟩) (by decide +kernel)
section RPZ
variable {w : et_Wd} {K : et_K} {G : eg_G} {d am aw ea e n : Nat} {tu fw or : Int32}
theorem su_R (hH : et_H et_TT K G) (k_am : K am = some 13) (k_ea : K ea = some 18) (he34 : et_pl (eg_at G am) 34 = some (.ref ea)) (hx0 : et_ex w.1 K) (hf : et_fr hi_MS w.1 w.2.2 G) {k : Nat} (hP : sy w e am aw ea 23 k G) {t i : Nat} {re : Int32} {x8 x9 x12 : Option Value} (he : e ≤ 2) (hk : k ≤ 23) (h : ∀ {K : et_K} {G : eg_G} (k : Nat), et_H et_TT K G → K am = some 13 → K ea = some 18 → et_pl (eg_at G am) 34 = some (.ref ea) → et_ex w.1 K → et_fr hi_MS w.1 w.2.2 G → (sy w e am aw ea 23 23 G) → et_go none (d + 11) 282 291 [some (.ref am), some (.int (Int32.ofNat e)), some (.int (Int32.ofNat t)), some (.int (Int32.ofNat n)), some (.int (Int32.ofNat (45 + 23 * e))), some (.int or), some (.int fw), some (.int (Int32.ofNat i)), x8, x9, some (.int re), some (.int (Int32.ofNat k)), x12] [] G 0 0 (sw w aw)) : et_go none (d + 11) 282 261 [some (.ref am), some (.int (Int32.ofNat e)), some (.int (Int32.ofNat t)), some (.int (Int32.ofNat n)), some (.int (Int32.ofNat (45 + 23 * e))), some (.int or), some (.int fw), some (.int (Int32.ofNat i)), x8, x9, some (.int re), some (.int (Int32.ofNat k)), x12] [] G 0 0 (sw w aw) := by
  induction hm : 23 - k using Nat.strongRecOn generalizing k K G with
  | _ z ih =>
    refine hs_iload (i := 11) (p := 263) (by decide +kernel) rfl ?_
    refine hs_k (x := Int32.ofNat 23) (p := 265) (by decide +kernel) ?_
    refine hs_br2n (c := .ge) (t := 291) (f := 268) (by decide +kernel) (by omega) (by omega) (fun (c265 : 23 ≤ k) => ?_) (fun (c265 : ¬ (23 ≤ k)) => ?_)
    · obtain rfl : k = 23 := by omega
      exact h _ hH k_am k_ea he34 hx0 hf hP
    · refine hs_aload (i := 0) (p := 269) (by decide +kernel) rfl ?_
      refine ht_getr (T := et_TT) (t := 13) (ci := 11) (f := 1) (p := 272) (by decide +kernel) rfl rfl hH k_am (fun a269 k_a269 e269 => ?_)
      refine hs_iload (i := 4) (p := 274) (by decide +kernel) rfl ?_
      refine hs_iload (i := 11) (p := 276) (by decide +kernel) rfl ?_
      refine hs_iaddn (p := 277) (by decide +kernel) ?_
      refine hs_aload (i := 0) (p := 278) (by decide +kernel) rfl ?_
      refine ht_getr (T := et_TT) (t := 13) (ci := 11) (f := 34) (p := 281) (by decide +kernel) rfl rfl hH k_am (fun a278 k_a278 e278 => ?_)
      obtain rfl : ea = a278 := (Value.ref.inj (Option.some.inj (e278.symm.trans he34))).symm
      refine hs_iload (i := 11) (p := 283) (by decide +kernel) rfl ?_
      refine ht_ild (T := et_TT) (t := 18) (N := 23) (p := 284) (by decide +kernel) rfl hH k_ea (by omega) (by decide) (fun x283 s283 e283 => ?_)
      obtain rfl : aw = a269 := Value.ref.inj (Option.some.inj (hP.1.2.1.symm.trans ((hf.2 am 13 hP.1.1 1 (by decide +kernel)).symm.trans e269)))
      have hH0 := hH
      refine hf_wst (p := 285) (by decide +kernel) hH k_a269 (by omega) (wx_ok he (by omega) (fun hk0 => by subst hk0; obtain ⟨-, h1, h2, -⟩ := hP; obtain ⟨q, q1, q2⟩ := h1 (by decide); cases e283.symm.trans ((h2 0 (by decide)).trans q2); exact ⟨q, q1, rfl⟩)) (fun G284 hH x284 v284 => ?_)
      have he34 := (x284.2 am 34 (hH0.2.2 _ _ k_am).1 (fun hs => hi_ne k_am k_a269 (by decide) hs.1)).trans he34
      have hP := hP.rs hH0 hx0 k_ea (by omega) x284 (v284.trans (e283.symm.trans (hP.2.2.1 k (by omega))))
      have hf := hf.tr hx0 (x284.tfr hH0 (fun b t i kb hs => by obtain ⟨h1, h2⟩ := hs; subst h1; cases k_a269.symm.trans kb; exact sy_46 (by omega) (by omega)))
      refine hs_iinc1 (i := 11) (p := 288) (by decide +kernel) rfl (Nat.le_of_ble_eq_true rfl) ?_
      refine hs_goto (p := 261) (by decide +kernel) ?_
      exact ih (23 - (k + 1)) (by omega) hH k_am k_ea he34 hx0 hf hP (by omega) rfl
theorem su_W {i t r l k w0 c : Nat} (hl : l < 32) (hw : w0 < sp l c) (hc : c ≤ 5) (h : ∀ w0 c : Nat, c < 5 → bt l c = 1 → et_go none (d + 11) 282 199 [some (.ref am), some (.int (Int32.ofNat e)), some (.int (Int32.ofNat t)), some (.int (Int32.ofNat n)), some (.int (Int32.ofNat (45 + 23 * e))), some (.int or), some (.int fw), some (.int (Int32.ofNat i)), some (.int (Int32.ofNat r)), some (.int (Int32.ofNat l)), some (.int (Int32.ofNat k)), some (.int (Int32.ofNat w0)), some (.int (Int32.ofNat c))] [] G 0 0 (sw w aw)) : et_go none (d + 11) 282 166 [some (.ref am), some (.int (Int32.ofNat e)), some (.int (Int32.ofNat t)), some (.int (Int32.ofNat n)), some (.int (Int32.ofNat (45 + 23 * e))), some (.int or), some (.int fw), some (.int (Int32.ofNat i)), some (.int (Int32.ofNat r)), some (.int (Int32.ofNat l)), some (.int (Int32.ofNat k)), some (.int (Int32.ofNat w0)), some (.int (Int32.ofNat c))] [] G 0 0 (sw w aw) := by
  induction hm : 5 - c using Nat.strongRecOn generalizing c w0 with
  | _ z ih =>
    have hc5 : c < 5 := by
      rcases Nat.lt_or_ge c 5 with h | h
      · exact h
      · obtain rfl : c = 5 := by omega
        rw [sp_5 l (List.mem_range.mpr hl)] at hw
        omega
    obtain ⟨b1, b2, b3, b4⟩ := sp_all l (List.mem_range.mpr hl) c (List.mem_range.mpr hc5)
    have hsl := sp_le l (List.mem_range.mpr hl) c (List.mem_range.mpr (by omega))
    refine hs_iload (i := 9) (p := 168) (by decide +kernel) rfl ?_
    refine hs_iload (i := 12) (p := 170) (by decide +kernel) rfl ?_
    refine hs_ishr (p := 171) (by decide +kernel) ?_
    refine hs_k (x := Int32.ofNat 1) (p := 172) (by decide +kernel) ?_
    refine hs_iand (p := 173) (by decide +kernel) ?_
    rw [b2]
    refine hs_br1 (c := .eq) (t := 181) (f := 176) (by decide +kernel) (fun (c173 : Int32.ofNat (bt l c) = 0) => ?_) (fun (c173 : ¬ (Int32.ofNat (bt l c) = 0)) => ?_)
    · have hb0 : bt l c = 0 := by
        rw [show (0 : Int32) = Int32.ofNat 0 from rfl, hs_neq (by omega) (by decide)] at c173
        exact c173
      refine hs_iload (i := 11) (p := 183) (by decide +kernel) rfl ?_
      refine hs_iload (i := 9) (p := 185) (by decide +kernel) rfl ?_
      refine hs_iload (i := 12) (p := 187) (by decide +kernel) rfl ?_
      refine hs_ishr (p := 188) (by decide +kernel) ?_
      refine hs_k (x := Int32.ofNat 1) (p := 189) (by decide +kernel) ?_
      refine hs_iand (p := 190) (by decide +kernel) ?_
      rw [b2]
      refine hs_isubn (p := 191) (by decide +kernel) (by omega) ?_
      refine hs_istore (i := 11) (p := 193) (by decide +kernel) (Nat.le_of_ble_eq_true rfl) ?_
      refine hs_iinc1 (i := 12) (p := 196) (by decide +kernel) rfl (Nat.le_of_ble_eq_true rfl) ?_
      refine hs_goto (p := 166) (by decide +kernel) ?_
      exact ih (5 - (c + 1)) (by omega) (by omega) (by omega) rfl
    · have hb0 : ¬ bt l c = 0 := fun h9 => c173 (by rw [h9]; rfl)
      refine hs_iload (i := 11) (p := 178) (by decide +kernel) rfl ?_
      refine hs_br1 (c := .le) (t := 199) (f := 181) (by decide +kernel) (fun (c178 : Int32.ofNat w0 ≤ 0) => ?_) (fun (c178 : ¬ (Int32.ofNat w0 ≤ 0)) => ?_)
      · exact h _ _ hc5 (by omega)
      · have hw0 : 1 ≤ w0 := by
          rcases Nat.eq_zero_or_pos w0 with h9 | h9
          · exact absurd (by rw [h9]; decide) c178
          · exact h9
        refine hs_iload (i := 11) (p := 183) (by decide +kernel) rfl ?_
        refine hs_iload (i := 9) (p := 185) (by decide +kernel) rfl ?_
        refine hs_iload (i := 12) (p := 187) (by decide +kernel) rfl ?_
        refine hs_ishr (p := 188) (by decide +kernel) ?_
        refine hs_k (x := Int32.ofNat 1) (p := 189) (by decide +kernel) ?_
        refine hs_iand (p := 190) (by decide +kernel) ?_
        rw [b2]
        refine hs_isubn (p := 191) (by decide +kernel) (by omega) ?_
        refine hs_istore (i := 11) (p := 193) (by decide +kernel) (Nat.le_of_ble_eq_true rfl) ?_
        refine hs_iinc1 (i := 12) (p := 196) (by decide +kernel) rfl (Nat.le_of_ble_eq_true rfl) ?_
        refine hs_goto (p := 166) (by decide +kernel) ?_
        exact ih (5 - (c + 1)) (by omega) (by omega) (by omega) rfl
theorem su_D (hH : et_H et_TT K G) (k_am : K am = some 13) (k_ea : K ea = some 18) (he34 : et_pl (eg_at G am) 34 = some (.ref ea)) (hx0 : et_ex w.1 K) (hf : et_fr hi_MS w.1 w.2.2 G) (hP : sy w e am aw ea 23 23 G) {t i r l k : Nat} {x11 x12 : Option Value} (hn : n ≤ 5) (hk : k ≤ n) (hr : r < 2147483648) (hl : l < 32) (hs : sp l 0 + k = n) (h : ∀ {G : eg_G} (x8 x9 x10 x11 x12 : Option Value), et_H et_TT K G → et_pl (eg_at G am) 34 = some (.ref ea) → et_fr hi_MS w.1 w.2.2 G → (sy w e am aw ea 23 23 G) → et_go none (d + 11) 282 225 [some (.ref am), some (.int (Int32.ofNat e)), some (.int (Int32.ofNat t)), some (.int (Int32.ofNat n)), some (.int (Int32.ofNat (45 + 23 * e))), some (.int or), some (.int fw), some (.int (Int32.ofNat i)), x8, x9, x10, x11, x12] [] G 0 0 (sw w aw)) : et_go none (d + 11) 282 139 [some (.ref am), some (.int (Int32.ofNat e)), some (.int (Int32.ofNat t)), some (.int (Int32.ofNat n)), some (.int (Int32.ofNat (45 + 23 * e))), some (.int or), some (.int fw), some (.int (Int32.ofNat i)), some (.int (Int32.ofNat r)), some (.int (Int32.ofNat l)), some (.int (Int32.ofNat k)), x11, x12] [] G 0 0 (sw w aw) := by
  induction hm : n - k using Nat.strongRecOn generalizing k r l G x11 x12 with
  | _ z ih =>
    refine hs_iload (i := 10) (p := 141) (by decide +kernel) rfl ?_
    refine hs_iload (i := 3) (p := 142) (by decide +kernel) rfl ?_
    refine hs_br2n (c := .ge) (t := 225) (f := 145) (by decide +kernel) (by omega) (by omega) (fun (c142 : n ≤ k) => ?_) (fun (c142 : ¬ (n ≤ k)) => ?_)
    · exact h _ _ _ _ _ hH he34 hf hP
    · refine hs_iload (i := 8) (p := 147) (by decide +kernel) rfl ?_
      refine hs_iload (i := 3) (p := 148) (by decide +kernel) rfl ?_
      refine hs_iload (i := 10) (p := 150) (by decide +kernel) rfl ?_
      refine hs_isubn (p := 151) (by decide +kernel) (by omega) ?_
      refine hs_irem (p := 152) (by decide +kernel) (hs_nz (by omega) (by omega)) ?_
      obtain ⟨⟨w0, w1, w2⟩, r2, r3, r4⟩ := hs_rq (r := r) (m := n - k) hr (by omega) (by omega)
      rw [w1]
      refine hs_istore (i := 11) (p := 154) (by decide +kernel) (Nat.le_of_ble_eq_true rfl) ?_
      refine hs_iload (i := 8) (p := 156) (by decide +kernel) rfl ?_
      refine hs_iload (i := 3) (p := 157) (by decide +kernel) rfl ?_
      refine hs_iload (i := 10) (p := 159) (by decide +kernel) rfl ?_
      refine hs_isubn (p := 160) (by decide +kernel) (by omega) ?_
      refine hs_idiv (p := 161) (by decide +kernel) (hs_nz (by omega) (by omega)) ?_
      rw [r3]
      refine hs_istore (i := 8) (p := 163) (by decide +kernel) (Nat.le_of_ble_eq_true rfl) ?_
      refine hs_k (x := Int32.ofNat 0) (p := 164) (by decide +kernel) ?_
      refine hs_istore (i := 12) (p := 166) (by decide +kernel) (Nat.le_of_ble_eq_true rfl) ?_
      refine su_W hl (w0 := w0) (c := 0) (by omega) (by omega) (fun w3 c hc5 hb1 => ?_)
      obtain ⟨b1, b2, b3, b4⟩ := sp_all l (List.mem_range.mpr hl) c (List.mem_range.mpr hc5)
      have b5 := b4 hb1
      have b6 : l - 2 ^ c < 32 := Nat.lt_of_le_of_lt (Nat.sub_le _ _) hl
      refine hs_aload (i := 0) (p := 200) (by decide +kernel) rfl ?_
      refine ht_getr (T := et_TT) (t := 13) (ci := 11) (f := 33) (p := 203) (by decide +kernel) rfl rfl hH k_am (fun a200 k_a200 e200 => ?_)
      refine hs_iload (i := 10) (p := 205) (by decide +kernel) rfl ?_
      refine hs_iload (i := 12) (p := 207) (by decide +kernel) rfl ?_
      refine ht_ist (M := [(36, 0, 4)]) (T := et_TT) (t := 36) (N := 5) (p := 208) (by decide +kernel) rfl rfl (by decide) hH k_a200 (by omega) (by decide) (t5_ok (by omega)) (by unfold et_mm; simp; omega) (fun G207 hH f207 => ?_)
      have he34 := (f207.2 am 13 k_am 34 (by decide +kernel)).trans he34
      have hP := hP.fr hx0 k_ea f207 (by decide +kernel)
      have hf := hf.tr hx0 (f207.wk (by decide +kernel))
      refine hs_iload (i := 9) (p := 210) (by decide +kernel) rfl ?_
      refine hs_k (x := Int32.ofNat 1) (p := 211) (by decide +kernel) ?_
      refine hs_iload (i := 12) (p := 213) (by decide +kernel) rfl ?_
      refine hs_ishl (p := 214) (by decide +kernel) ?_
      refine hs_k (x := (-1)) (p := 215) (by decide +kernel) ?_
      refine hs_ixor (p := 216) (by decide +kernel) ?_
      refine hs_iand (p := 217) (by decide +kernel) ?_
      rw [b5.2.1]
      refine hs_istore (i := 9) (p := 219) (by decide +kernel) (Nat.le_of_ble_eq_true rfl) ?_
      refine hs_iinc1 (i := 10) (p := 222) (by decide +kernel) rfl (Nat.le_of_ble_eq_true rfl) ?_
      refine hs_goto (p := 139) (by decide +kernel) ?_
      exact ih (n - (k + 1)) (by omega) hH he34 hf hP (by omega) (by omega) b6 (by omega) rfl
theorem su_M (hH : et_H et_TT K G) (k_am : K am = some 13) (k_ea : K ea = some 18) (he34 : et_pl (eg_at G am) 34 = some (.ref ea)) (hx0 : et_ex w.1 K) (hf : et_fr hi_MS w.1 w.2.2 G) (hP : sy w e am aw ea 23 23 G) (hsb : et_cv et_TT (hq_se e)) {t i : Nat} {x8 x9 x10 x11 x12 : Option Value} (he : e ≤ 2) (ht : t ≤ 3) (hn : n ≤ 5) (hi : i < 2147483648) : et_go none (d + 11) 282 118 [some (.ref am), some (.int (Int32.ofNat e)), some (.int (Int32.ofNat t)), some (.int (Int32.ofNat n)), some (.int (Int32.ofNat (45 + 23 * e))), some (.int or), some (.int fw), some (.int (Int32.ofNat i)), x8, x9, x10, x11, x12] [] G 0 0 (sw w aw) := by
  induction hm : 2147483647 - i using Nat.strongRecOn generalizing i fw K G x8 x9 x10 x11 x12 with
  | _ z ih =>
    refine hs_iload (i := 7) (p := 120) (by decide +kernel) rfl ?_
    refine hs_iload (i := 5) (p := 122) (by decide +kernel) rfl ?_
    refine hs_br2 (c := .ge) (t := 297) (f := 125) (by decide +kernel) (fun (c122 : or ≤ Int32.ofNat i) => ?_) (fun (c122 : ¬ (or ≤ Int32.ofNat i)) => ?_)
    · refine hs_iload (i := 6) (p := 299) (by decide +kernel) rfl ?_
      refine hs_iret (by decide +kernel) ?_
      exact fun i => hP.2.2.2 i (by omega)
    · have hi2 : i < 2147483647 := by
        have h9 := Int32.not_le.mp c122
        rw [Int32.lt_iff_toInt_lt, hs_nint hi] at h9
        have := or.toInt_lt
        omega
      refine hs_iload (i := 7) (p := 127) (by decide +kernel) rfl ?_
      refine hs_istore (i := 8) (p := 129) (by decide +kernel) (Nat.le_of_ble_eq_true rfl) ?_
      refine hs_k (x := Int32.ofNat 1) (p := 130) (by decide +kernel) ?_
      refine hs_iload (i := 3) (p := 131) (by decide +kernel) rfl ?_
      refine hs_ishl (p := 132) (by decide +kernel) ?_
      refine hs_k (x := Int32.ofNat 1) (p := 133) (by decide +kernel) ?_
      refine hs_isub (p := 134) (by decide +kernel) ?_
      rw [(sp_full n (List.mem_range.mpr (by omega))).1]
      refine hs_istore (i := 9) (p := 136) (by decide +kernel) (Nat.le_of_ble_eq_true rfl) ?_
      refine hs_k (x := Int32.ofNat 0) (p := 137) (by decide +kernel) ?_
      refine hs_istore (i := 10) (p := 139) (by decide +kernel) (Nat.le_of_ble_eq_true rfl) ?_
      obtain ⟨p1, p2, p3⟩ := sp_full n (List.mem_range.mpr (by omega))
      refine su_D hH k_am k_ea he34 hx0 hf hP (r := i) (l := 2 ^ n - 1) (k := 0) hn (by omega) hi p3 (by omega) (fun {G2} x8 x9 x10 x11 x12 hH he34 hf hP => ?_)
      refine hs_aload (i := 0) (p := 226) (by decide +kernel) rfl ?_
      refine hs_iload (i := 1) (p := 227) (by decide +kernel) rfl ?_
      refine hs_iload (i := 2) (p := 228) (by decide +kernel) rfl ?_
      refine hs_iload (i := 3) (p := 229) (by decide +kernel) rfl ?_
      refine ht_callv (T := et_TT) (t := 13) (mi := 283) (na := 3) (ci := 11) (lk := 13) (lm := 5) (L0 := eg_en (eg_mL 283) [.ref am, .int (Int32.ofNat e), .int (Int32.ofNat t), .int (Int32.ofNat n)]) (by decide +kernel) rfl hH k_am rfl rfl rfl rfl rfl (by rw [show eg_mL 283 = 5 from by decide +kernel]; first | done | rfl) ?_
      refine (hsb (K, [], G2) [.ref am, .int (Int32.ofNat e), .int (Int32.ofNat t), .int (Int32.ofNat n)] _ hH (by omega) rfl (ht_ac (.inr ⟨by decide, _, rfl, k_am⟩) (ht_ac (hi_iv (by rw [hs_nint (by omega)]; omega) (by rw [hs_nint (by omega)]; omega)) (ht_ac (hi_nv (by omega) (by omega)) (ht_ac (hi_nv (by omega) (by omega)) ht_an))))).mono (fun u hu => hs_cbv hu (fun v229 K229 G229 c229 s229 x229 f229 hH hv229 cl229 sl229 => ?_))
      have he34 := (f229.2 am 13 k_am 34 (no_mm rfl)).trans he34
      have hP := hP.fe hx0 k_ea f229
      have k_am := x229 _ _ k_am
      have k_ea := x229 _ _ k_ea
      have hf := hf.tr hx0 (f229.wk (sy_wk e (List.mem_range.mpr (by omega))))
      have hx0 := hx0.tr x229
      obtain rfl : c229 = 0 := Nat.le_zero.mp cl229
      obtain rfl : s229 = 0 := Nat.le_zero.mp sl229
      obtain ⟨n229, rfl, hn229, hm229⟩ := hi_int hv229
      show et_go none _ 282 232 _ [.int n229] _ 0 _ _
      refine hs_istore (i := 10) (p := 234) (by decide +kernel) (Nat.le_of_ble_eq_true rfl) ?_
      refine hs_iload (i := 10) (p := 236) (by decide +kernel) rfl ?_
      refine hs_br1 (c := .lt) (t := 258) (f := 239) (by decide +kernel) (fun (c236 : n229 < 0) => ?_) (fun (c236 : ¬ (n229 < 0)) => ?_)
      · refine hs_k (x := Int32.ofNat 0) (p := 259) (by decide +kernel) ?_
        refine hs_istore (i := 11) (p := 261) (by decide +kernel) (Nat.le_of_ble_eq_true rfl) ?_
        refine su_R hH k_am k_ea he34 hx0 hf hP he (k := 0) (by omega) (fun {K5} {G5} k hH k_am k_ea he34 hx0 hf hP => ?_)
        refine hs_iinc1 (i := 7) (p := 294) (by decide +kernel) rfl (Nat.le_of_ble_eq_true rfl) ?_
        refine hs_goto (p := 118) (by decide +kernel) ?_
        exact ih (2147483647 - (i + 1)) (by omega) hH k_am k_ea he34 hx0 hf hP (by omega) rfl
      · refine hs_iload (i := 6) (p := 241) (by decide +kernel) rfl ?_
        refine hs_br1 (c := .ge) (t := 249) (f := 244) (by decide +kernel) (fun (c241 : 0 ≤ fw) => ?_) (fun (c241 : ¬ (0 ≤ fw)) => ?_)
        · refine hs_iload (i := 6) (p := 251) (by decide +kernel) rfl ?_
          refine hs_iload (i := 10) (p := 253) (by decide +kernel) rfl ?_
          refine hs_math (mi := 311) (lk := 13) (p := 256) (by decide +kernel) rfl rfl rfl rfl ?_
          refine hs_istore (i := 6) (p := 258) (by decide +kernel) (Nat.le_of_ble_eq_true rfl) ?_
          refine hs_k (x := Int32.ofNat 0) (p := 259) (by decide +kernel) ?_
          refine hs_istore (i := 11) (p := 261) (by decide +kernel) (Nat.le_of_ble_eq_true rfl) ?_
          refine su_R hH k_am k_ea he34 hx0 hf hP he (k := 0) (by omega) (fun {K5} {G5} k hH k_am k_ea he34 hx0 hf hP => ?_)
          refine hs_iinc1 (i := 7) (p := 294) (by decide +kernel) rfl (Nat.le_of_ble_eq_true rfl) ?_
          refine hs_goto (p := 118) (by decide +kernel) ?_
          exact ih (2147483647 - (i + 1)) (by omega) hH k_am k_ea he34 hx0 hf hP (by omega) rfl
        · refine hs_iload (i := 10) (p := 246) (by decide +kernel) rfl ?_
          refine hs_goto (p := 256) (by decide +kernel) ?_
          refine hs_istore (i := 6) (p := 258) (by decide +kernel) (Nat.le_of_ble_eq_true rfl) ?_
          refine hs_k (x := Int32.ofNat 0) (p := 259) (by decide +kernel) ?_
          refine hs_istore (i := 11) (p := 261) (by decide +kernel) (Nat.le_of_ble_eq_true rfl) ?_
          refine su_R hH k_am k_ea he34 hx0 hf hP he (k := 0) (by omega) (fun {K5} {G5} k hH k_am k_ea he34 hx0 hf hP => ?_)
          refine hs_iinc1 (i := 7) (p := 294) (by decide +kernel) rfl (Nat.le_of_ble_eq_true rfl) ?_
          refine hs_goto (p := 118) (by decide +kernel) ?_
          exact ih (2147483647 - (i + 1)) (by omega) hH k_am k_ea he34 hx0 hf hP (by omega) rfl
theorem su_O {t k : Nat} {x7 x8 x9 x10 x11 x12 : Option Value} (hn : n ≤ 5) (hk : k ≤ 6) (h : ∀ (or : Int32) (k : Nat), et_go none (d + 11) 282 112 [some (.ref am), some (.int (Int32.ofNat e)), some (.int (Int32.ofNat t)), some (.int (Int32.ofNat n)), some (.int (Int32.ofNat (45 + 23 * e))), some (.int or), some (.int (Int32.ofNat k)), x7, x8, x9, x10, x11, x12] [] G 0 0 (sw w aw)) : et_go none (d + 11) 282 93 [some (.ref am), some (.int (Int32.ofNat e)), some (.int (Int32.ofNat t)), some (.int (Int32.ofNat n)), some (.int (Int32.ofNat (45 + 23 * e))), some (.int or), some (.int (Int32.ofNat k)), x7, x8, x9, x10, x11, x12] [] G 0 0 (sw w aw) := by
  induction hm : 6 - k using Nat.strongRecOn generalizing k or with
  | _ z ih =>
    refine hs_iload (i := 6) (p := 95) (by decide +kernel) rfl ?_
    refine hs_iload (i := 3) (p := 96) (by decide +kernel) rfl ?_
    refine hs_br2n (c := .gt) (t := 112) (f := 99) (by decide +kernel) (by omega) (by omega) (fun (c96 : n < k) => ?_) (fun (c96 : ¬ (n < k)) => ?_)
    · exact h _ _
    · refine hs_iload (i := 5) (p := 101) (by decide +kernel) rfl ?_
      refine hs_iload (i := 6) (p := 103) (by decide +kernel) rfl ?_
      refine hs_imul (p := 104) (by decide +kernel) ?_
      refine hs_istore (i := 5) (p := 106) (by decide +kernel) (Nat.le_of_ble_eq_true rfl) ?_
      refine hs_iinc1 (i := 6) (p := 109) (by decide +kernel) rfl (Nat.le_of_ble_eq_true rfl) ?_
      refine hs_goto (p := 93) (by decide +kernel) ?_
      exact ih (6 - (k + 1)) (by omega) (by omega) rfl
theorem su_C (hH : et_H et_TT K G) (k_am : K am = some 13) (k_ea : K ea = some 18) (he34 : et_pl (eg_at G am) 34 = some (.ref ea)) (hx0 : et_ex w.1 K) (hf : et_fr hi_MS w.1 w.2.2 G) {t k : Nat} {x6 x7 x8 x9 x10 x11 x12 : Option Value} (he : e ≤ 2) (hk : k ≤ 23) (r0 : w.1 am = some 13) (r1 : et_pl (eg_at w.2.2 am) 1 = some (.ref aw)) (r2 : w.1 aw = some 46) (hP : sy w e am aw ea k 23 G) (h : ∀ {G : eg_G} (k : Nat), et_H et_TT K G → et_pl (eg_at G am) 34 = some (.ref ea) → et_fr hi_MS w.1 w.2.2 G → (sy w e am aw ea 23 23 G) → et_go none (d + 11) 282 87 [some (.ref am), some (.int (Int32.ofNat e)), some (.int (Int32.ofNat t)), some (.int (Int32.ofNat n)), some (.int (Int32.ofNat (45 + 23 * e))), some (.int (Int32.ofNat k)), x6, x7, x8, x9, x10, x11, x12] [] G 0 0 (sw w aw)) : et_go none (d + 11) 282 57 [some (.ref am), some (.int (Int32.ofNat e)), some (.int (Int32.ofNat t)), some (.int (Int32.ofNat n)), some (.int (Int32.ofNat (45 + 23 * e))), some (.int (Int32.ofNat k)), x6, x7, x8, x9, x10, x11, x12] [] G 0 0 (sw w aw) := by
  induction hm : 23 - k using Nat.strongRecOn generalizing k G with
  | _ z ih =>
    refine hs_iload (i := 5) (p := 59) (by decide +kernel) rfl ?_
    refine hs_k (x := Int32.ofNat 23) (p := 61) (by decide +kernel) ?_
    refine hs_br2n (c := .ge) (t := 87) (f := 64) (by decide +kernel) (by omega) (by omega) (fun (c61 : 23 ≤ k) => ?_) (fun (c61 : ¬ (23 ≤ k)) => ?_)
    · obtain rfl : k = 23 := by omega
      exact h _ hH he34 hf hP
    · refine hs_aload (i := 0) (p := 65) (by decide +kernel) rfl ?_
      refine ht_getr (T := et_TT) (t := 13) (ci := 11) (f := 34) (p := 68) (by decide +kernel) rfl rfl hH k_am (fun a65 k_a65 e65 => ?_)
      obtain rfl : ea = a65 := (Value.ref.inj (Option.some.inj (e65.symm.trans he34))).symm
      refine hs_iload (i := 5) (p := 70) (by decide +kernel) rfl ?_
      refine hs_aload (i := 0) (p := 71) (by decide +kernel) rfl ?_
      refine ht_getr (T := et_TT) (t := 13) (ci := 11) (f := 1) (p := 74) (by decide +kernel) rfl rfl hH k_am (fun a71 k_a71 e71 => ?_)
      refine hs_iload (i := 4) (p := 76) (by decide +kernel) rfl ?_
      refine hs_iload (i := 5) (p := 78) (by decide +kernel) rfl ?_
      refine hs_iaddn (p := 79) (by decide +kernel) ?_
      refine ht_ild (T := et_TT) (t := 46) (N := 12741) (p := 80) (by decide +kernel) rfl hH k_a71 (by omega) (by decide) (fun x79 s79 e79 => ?_)
      obtain rfl : aw = a71 := Value.ref.inj (Option.some.inj (r1.symm.trans ((hf.2 am 13 r0 1 (by decide +kernel)).symm.trans e71)))
      have hH0 := hH
      refine hf_ist (T := et_TT) (t := 18) (N := 23) (ss := []) (p := 81) (by decide +kernel) rfl (by decide) (by decide) hH k_ea (by omega) (by decide) (fun s hs => absurd hs List.not_mem_nil) (fun G80 hH x80 v80 => ?_)
      have he34 := (x80.2 am 34 (hH0.2.2 _ _ k_am).1 (fun hs => hi_ne k_am k_ea (by decide) hs.1)).trans he34
      have hP : sy w e am aw ea (k + 1) 23 G80 := hP.cs hH0 k_a71 k_ea x80 (v80.trans (e79.symm.trans (hP.2.2.2 _ (by omega)))) (fun hk0 => by subst hk0; obtain ⟨q, q1, q2⟩ := hi_natW (s79 _ (hi_w45 e (by omega)) (Nat.le_refl _) (Nat.le_refl _)); rw [q2] at e79; exact ⟨q, by omega, (hP.2.2.2 _ (by omega)).symm.trans e79⟩)
      have hf := hf.tr hx0 (x80.tfr hH0 (fun b t i kb hs => by obtain ⟨h1, h2⟩ := hs; subst h1; cases k_ea.symm.trans kb; exact sy_18 (by omega)))
      refine hs_iinc1 (i := 5) (p := 84) (by decide +kernel) rfl (Nat.le_of_ble_eq_true rfl) ?_
      refine hs_goto (p := 57) (by decide +kernel) ?_
      exact ih (23 - (k + 1)) (by omega) hH he34 hf (by omega) hP rfl
theorem fm_soon1 {d2 : Nat} (he : e ≤ 2) (hsb : et_cv et_TT (hq_se e)) (hH : et_H et_TT w.1 w.2.2) (k_am : w.1 am = some 13) (r1 : et_pl (eg_at w.2.2 am) 1 = some (.ref aw)) (r2 : w.1 aw = some 46) (hd : 13 ≤ d2) : et_go none d2 282 0 (eg_en (eg_mL 282) [.ref am, .int (Int32.ofNat e), .int tu]) [] w.2.2 0 0 (sw w aw) := by
  obtain ⟨d, rfl⟩ : ∃ d, d2 = d + 11 := ⟨d2 - 11, by omega⟩
  have hg : et_fr [(13, 0, 0)] w.1 w.2.2 w.2.2 := et_fr.rf
  have r0 := k_am
  have hx0 : et_ex w.1 w.1 := et_ex.rf
  have hf : et_fr hi_MS w.1 w.2.2 w.2.2 := et_fr.rf
  rw [show eg_mL 282 = 13 from by decide +kernel]
  show et_go none (d + 11) 282 0 [some (.ref am), some (.int (Int32.ofNat e)), some (.int tu), none, none, none, none, none, none, none, none, none, none] [] w.2.2 0 0 (sw w aw)
  refine hs_aload (i := 0) (p := 1) (by decide +kernel) rfl ?_
  refine hs_k (x := Int32.ofNat 0) (p := 2) (by decide +kernel) ?_
  refine ht_put (M := [(13, 0, 0)]) (T := et_TT) (t := 13) (ci := 11) (f := 0) (p := 5) (ty := .int) (by decide +kernel) rfl rfl rfl rfl rfl (by decide +kernel) hH k_am hi_any (fun G2 hH f2 e2 => ?_)
  have hg := hg.tr hx0 (f2.wk (by decide +kernel))
  have hf := hf.tr hx0 (f2.wk (by decide +kernel))
  refine hs_aload (i := 0) (p := 6) (by decide +kernel) rfl ?_
  refine hs_aload (i := 0) (p := 7) (by decide +kernel) rfl ?_
  refine hs_iload (i := 1) (p := 8) (by decide +kernel) rfl ?_
  refine ht_callv (T := et_TT) (t := 13) (mi := 208) (na := 1) (ci := 11) (lk := 13) (lm := 2) (L0 := eg_en (eg_mL 208) [.ref am, .int (Int32.ofNat e)]) (by decide +kernel) rfl hH k_am rfl rfl rfl rfl rfl (by rw [show eg_mL 208 = 2 from by decide +kernel]; first | done | rfl) ?_
  refine (hc_ne (w.1, [], G2) [.ref am, .int (Int32.ofNat e)] _ hH (by omega) rfl (ht_ac (.inr ⟨by decide, _, rfl, k_am⟩) (ht_ac (hi_nv (by omega) (by omega)) ht_an))).mono (fun u hu => hs_cbv hu (fun v8 K8 G8 c8 s8 x8 f8 hH hv8 cl8 sl8 => ?_))
  have k_am := x8 _ _ k_am
  have hg := hg.tr hx0 (f8.wk (by decide +kernel))
  have hf := hf.tr hx0 (f8.wk (by decide +kernel))
  have hx0 := hx0.tr x8
  obtain rfl : c8 = 0 := Nat.le_zero.mp cl8
  obtain rfl : s8 = 0 := Nat.le_zero.mp sl8
  obtain ⟨n8, hn8, rfl⟩ := hi_nat hv8
  show et_go none _ 282 11 _ [.int (Int32.ofNat n8), .ref am] _ 0 _ _
  refine hs_br1 (c := .ne) (t := 22) (f := 14) (by decide +kernel) (fun (c11 : ¬ Int32.ofNat n8 = 0) => ?_) (fun (c11 : ¬ (¬ Int32.ofNat n8 = 0)) => ?_)
  · refine hs_k (x := Int32.ofNat 1) (p := 23) (by decide +kernel) ?_
    refine hs_goto (p := 27) (by decide +kernel) ?_
    refine hs_k (x := Int32.ofNat 1) (p := 28) (by decide +kernel) ?_
    refine ht_callv (T := et_TT) (t := 13) (mi := 204) (na := 2) (ci := 11) (lk := 13) (lm := 3) (by decide +kernel) rfl hH k_am rfl rfl rfl rfl rfl rfl ?_
    refine hi_thr1 hH k_am (fun G28 hH f28 => hs_cb ?_)
    have hg := hg.tr hx0 (f28.wk (by decide +kernel))
    have hf := hf.tr hx0 (f28.wk (by decide +kernel))
    show et_go none _ 282 31 _ [.int (Int32.ofNat 1)] _ _ _ _
    refine hs_if0 (c := .eq) (t := 36) (f := 34) (by decide +kernel) (show ¬ (Int32.ofNat 1 = 0) by decide) ?_
    refine hs_k (x := Int32.ofNat 0) (p := 35) (by decide +kernel) ?_
    refine hs_iret (by decide +kernel) ?_
    exact fun i => hg.2 aw 46 r2 i (no_mm (by decide +kernel))
  · refine hs_aload (i := 0) (p := 15) (by decide +kernel) rfl ?_
    refine hs_iload (i := 2) (p := 16) (by decide +kernel) rfl ?_
    refine ht_callv (T := et_TT) (t := 13) (mi := 246) (na := 1) (ci := 11) (lk := 13) (lm := 2) (by decide +kernel) rfl hH k_am rfl rfl rfl rfl rfl rfl ?_
    refine hi_noT hH k_am (fun t ht htu => hs_cb ?_) (hs_cb ?_)
    · show et_go none _ 282 19 _ [.int (Int32.ofNat 0), .ref am] _ _ _ _
      subst htu
      refine hs_if1 (c := .eq) (t := 26) (f := 22) (by decide +kernel) (show Int32.ofNat 0 = 0 by decide) ?_
      refine hs_k (x := Int32.ofNat 0) (p := 27) (by decide +kernel) ?_
      refine hs_k (x := Int32.ofNat 1) (p := 28) (by decide +kernel) ?_
      refine ht_callv (T := et_TT) (t := 13) (mi := 204) (na := 2) (ci := 11) (lk := 13) (lm := 3) (by decide +kernel) rfl hH k_am rfl rfl rfl rfl rfl rfl ?_
      refine hi_thr0 hH k_am (hs_cb ?_)
      show et_go none _ 282 31 _ [.int (Int32.ofNat 0)] _ _ _ _
      refine hs_if1 (c := .eq) (t := 36) (f := 34) (by decide +kernel) (show Int32.ofNat 0 = 0 by decide) ?_
      refine hs_k (x := Int32.ofNat 5) (p := 37) (by decide +kernel) ?_
      refine hs_aload (i := 0) (p := 38) (by decide +kernel) rfl ?_
      refine ht_callv (T := et_TT) (t := 13) (mi := 218) (na := 0) (ci := 11) (lk := 13) (lm := 1) (by decide +kernel) rfl hH k_am rfl rfl rfl rfl rfl rfl ?_
      refine hi_cards hH k_am (fun c hc => hs_cb ?_)
      show et_go none _ 282 41 _ [.int (Int32.ofNat c), .int (Int32.ofNat 5)] _ _ _ _
      refine hs_math (mi := 311) (lk := 13) (p := 44) (by decide +kernel) rfl rfl rfl rfl ?_
      obtain ⟨n, hn, en⟩ : ∃ n : Nat, n ≤ 5 ∧ (if Int32.ofNat c < Int32.ofNat 5 then Int32.ofNat c else Int32.ofNat 5) = Int32.ofNat n := by
        by_cases h : c < 5
        · exact ⟨c, by omega, if_pos ((hs_nlt (by omega) (by decide)).mpr h)⟩
        · exact ⟨5, Nat.le_refl _, if_neg (fun h9 => h ((hs_nlt (by omega) (by decide)).mp h9))⟩
      rw [en]
      refine hs_istore (i := 3) (p := 45) (by decide +kernel) (Nat.le_of_ble_eq_true rfl) ?_
      refine hs_k (x := Int32.ofNat 45) (p := 47) (by decide +kernel) ?_
      refine hs_k (x := Int32.ofNat 23) (p := 49) (by decide +kernel) ?_
      refine hs_iload (i := 1) (p := 50) (by decide +kernel) rfl ?_
      refine hs_imuln (p := 51) (by decide +kernel) ?_
      refine hs_iaddn (p := 52) (by decide +kernel) ?_
      refine hs_istore (i := 4) (p := 54) (by decide +kernel) (Nat.le_of_ble_eq_true rfl) ?_
      refine hs_k (x := Int32.ofNat 0) (p := 55) (by decide +kernel) ?_
      refine hs_istore (i := 5) (p := 57) (by decide +kernel) (Nat.le_of_ble_eq_true rfl) ?_
      obtain ⟨F9, W9, aw9, -, eF9, -, -, -, hF9, -⟩ := hi_mod hH k_am
      obtain ⟨ea, hea, k_ea⟩ := hi_ref (hF9 34 _ rfl)
      have he34 : et_pl (eg_at G8 am) 34 = some (.ref ea) := by rw [eF9, hi_pF (by decide), hea]
      refine su_C hH k_am k_ea he34 hx0 hf he (k := 0) (by omega) r0 r1 r2 ⟨⟨r0, r1, r2⟩, fun h => absurd h (by decide), fun j h => absurd h (Nat.not_lt_zero j), fun i _ => hg.2 aw 46 r2 i (no_mm (by decide +kernel))⟩ (fun {G7} k hH he34 hf hP => ?_)
      refine hs_k (x := Int32.ofNat 1) (p := 88) (by decide +kernel) ?_
      refine hs_istore (i := 5) (p := 90) (by decide +kernel) (Nat.le_of_ble_eq_true rfl) ?_
      refine hs_k (x := Int32.ofNat 2) (p := 91) (by decide +kernel) ?_
      refine hs_istore (i := 6) (p := 93) (by decide +kernel) (Nat.le_of_ble_eq_true rfl) ?_
      refine su_O hn (by omega) (fun or k2 => ?_)
      refine hs_k (x := (-1)) (p := 113) (by decide +kernel) ?_
      refine hs_istore (i := 6) (p := 115) (by decide +kernel) (Nat.le_of_ble_eq_true rfl) ?_
      refine hs_k (x := Int32.ofNat 0) (p := 116) (by decide +kernel) ?_
      refine hs_istore (i := 7) (p := 118) (by decide +kernel) (Nat.le_of_ble_eq_true rfl) ?_
      exact su_M hH k_am k_ea he34 hx0 hf hP hsb he ht hn (by decide)
    · show et_go none _ 282 19 _ [.int (Int32.ofNat 1), .ref am] _ _ _ _
      refine hs_if0 (c := .eq) (t := 26) (f := 22) (by decide +kernel) (show ¬ (Int32.ofNat 1 = 0) by decide) ?_
      refine hs_k (x := Int32.ofNat 1) (p := 23) (by decide +kernel) ?_
      refine hs_goto (p := 27) (by decide +kernel) ?_
      refine hs_k (x := Int32.ofNat 1) (p := 28) (by decide +kernel) ?_
      refine ht_callv (T := et_TT) (t := 13) (mi := 204) (na := 2) (ci := 11) (lk := 13) (lm := 3) (by decide +kernel) rfl hH k_am rfl rfl rfl rfl rfl rfl ?_
      refine hi_thr1 hH k_am (fun G28 hH f28 => hs_cb ?_)
      have hg := hg.tr hx0 (f28.wk (by decide +kernel))
      have hf := hf.tr hx0 (f28.wk (by decide +kernel))
      show et_go none _ 282 31 _ [.int (Int32.ofNat 1)] _ _ _ _
      refine hs_if0 (c := .eq) (t := 36) (f := 34) (by decide +kernel) (show ¬ (Int32.ofNat 1 = 0) by decide) ?_
      refine hs_k (x := Int32.ofNat 0) (p := 35) (by decide +kernel) ?_
      refine hs_iret (by decide +kernel) ?_
      exact fun i => hg.2 aw 46 r2 i (no_mm (by decide +kernel))
end RPZ
def hq_sx (lo hi : Int) : et_Co := (282, [.inr (.inr (0, 13)), .inl (lo, hi), .inl (et_mn, et_mx)], [(13, 0, 0)], [(.inl (some (.inl (et_mn, et_mx))), 0, 0)], 13)
theorem hc_sx1 : et_cv et_TT (hq_sx et_mn (-1)) := et_cok_ok (Ks := []) (an := er_an) (fun _ h => absurd h List.not_mem_nil) (by decide +kernel)
theorem hc_sx2 : et_cv et_TT (hq_sx 3 et_mx) := et_cok_ok (Ks := []) (an := er_an) (fun _ h => absurd h List.not_mem_nil) (by decide +kernel)
theorem fm_soon {w : et_Wd} {am aw d2 : Nat} {x tu : Int32} (hH : et_H et_TT w.1 w.2.2) (k_am : w.1 am = some 13) (r1 : et_pl (eg_at w.2.2 am) 1 = some (.ref aw)) (r2 : w.1 aw = some 46) (hd : 13 ≤ d2) : et_go none d2 282 0 (eg_en (eg_mL 282) [.ref am, .int x, .int tu]) [] w.2.2 0 0 (sw w aw) := by
  have out : ∀ lo hi : Int, et_cv et_TT (hq_sx lo hi) → lo ≤ x.toInt → x.toInt ≤ hi → et_go none d2 282 0 (eg_en (eg_mL 282) [.ref am, .int x, .int tu]) [] w.2.2 0 0 (sw w aw) := fun lo hi hc h1 h2 => by
    refine (hc w [.ref am, .int x, .int tu] d2 hH hd rfl (ht_ac (.inr ⟨by decide, _, rfl, k_am⟩) (ht_ac (hi_iv h1 h2) (ht_ac hi_any ht_an)))).mono (fun u hu => ?_)
    obtain ⟨_, _, K', -, h2, -⟩ := hu
    exact fun i => h2.2 aw 46 r2 i (no_mm (by decide +kernel))
  have b1 := x.toInt_lt
  have b2 := x.le_toInt
  by_cases h0 : x.toInt < 0
  · exact out _ _ hc_sx1 (show (-2147483648 : Int) ≤ _ by omega) (by omega)
  · by_cases h3 : 3 ≤ x.toInt
    · exact out _ _ hc_sx2 h3 (show _ ≤ (2147483647 : Int) by omega)
    · obtain ⟨e, rfl, e1, e2⟩ := hs_toN (x := x) (by omega)
      rcases (show e = 0 ∨ e = 1 ∨ e = 2 by omega) with rfl | rfl | rfl
      · exact fm_soon1 (by decide) er_sec0 hH k_am r1 r2 hd
      · exact fm_soon1 (by decide) er_sec1 hH k_am r1 r2 hd
      · exact fm_soon1 (by decide) er_sec2 hH k_am r1 r2 hd
