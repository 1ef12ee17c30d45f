section
/-! BY HAND: soonest leaves the number of WIRES alone -/
def sz_M : et_M := [(13, 0, 0), (14, 0, 100000), (18, 0, 22), (24, 0, 100000), (29, 0, 100000), (36, 0, 4), (46, 46, 67), (46, 69, 90), (46, 92, 113)]
theorem sz_m : ∀ e ∈ List.range 3, et_mm sz_M 46 (45 + 23 * e) = false := by decide +kernel
def sz (w : et_Wd) (e am aw ea : Nat) (G : eg_G) : Prop := w.1 am = some 13 ∧ et_pl (eg_at w.2.2 am) 1 = some (.ref aw) ∧ w.1 aw = some 46 ∧ ∃ q : Nat, q ≤ 6 ∧ et_pl (eg_at w.2.2 aw) (45 + 23 * e) = some (.int (Int32.ofNat q)) ∧ et_pl (eg_at G ea) 0 = some (.int (Int32.ofNat q))
theorem ht_wsu {K : et_K} {d k pc ck sk : Nat} {L : eg_Ls} {r : List Value} {G : eg_G} {Z : eg_O → Prop} {e j p a : Nat} {x : Int32} (hc : hs_o k pc = some (.iastore, p)) (hH : et_H et_TT K G) (ha : K a = some 46) (he : e ≤ 2) (hj : j < 23) (hs : ∀ s ∈ et_w46, s.1 ≤ 45 + 23 * e + j → 45 + 23 * e + j ≤ s.2.1 → et_v K s.2.2 (.int x)) (h0 : j = 0 → et_pl (eg_at G a) (45 + 23 * e) = some (.int x)) (h : ∀ G', et_H et_TT K G' → et_fr [(46, 46, 67), (46, 69, 90), (46, 92, 113)] K G G' → et_go none d k p L r G' ck sk Z) : et_go none d k pc L (.int x :: .int (Int32.ofNat (45 + 23 * e + j)) :: .ref a :: r) G ck sk Z := by
  obtain ⟨f, e1, h1, hx⟩ := hi_arr hH ha et_t46 (by decide) (.inl rfl)
  have g := hi_at hH ha (by decide)
  refine hs_iast hc e1 g (by decide) (by omega) (h _ (hi_uarr hH ha (by decide) et_t46 (.inl rfl) (fun s hs' i i1 i2 i3 => ?_) (fun _ _ => (hx rfl (.inl rfl) _ _ e1).lo (fun i i1 _ => hs_un (by omega)))) (hi_frM hH ha (by decide) (fun i hi => ?_)))
  · by_cases ei : i = 45 + 23 * e + j
    · subst ei
      rw [hs_us]
      exact hs s hs' i1 i2
    · rw [hs_un ei]
      exact h1 s hs' i i1 i2 i3
  · by_cases ei : i = 45 + 23 * e + j
    · by_cases hj0 : j = 0
      · have h2 := h0 hj0
        have e9 : i = 45 + 23 * e := by omega
        rw [e9, h2]
        show (if 45 + 23 * e < 12741 then some (Value.int (upd f (45 + 23 * e + j) x (45 + 23 * e))) else none) = _
        rw [if_pos (by omega), hj0, Nat.add_zero, hs_us]
      · exfalso
        subst ei
        unfold et_mm at hi
        simp at hi
        omega
    · rw [e1]
      show (if i < 12741 then some (Value.int (upd f (45 + 23 * e + j) x i)) else none) = (if i < 12741 then some (Value.int (f i)) else none)
      rw [hs_un ei]
def hq_sd (e : Int) : et_Co := (283, [.inr (.inr (0, 13)), .inl (e, e), .inl (0, 3), .inl (0, 5)], [(14, 0, 100000), (24, 0, 100000), (29, 0, 100000), (46, 46, 67), (46, 69, 90), (46, 92, 113)], [(.inl (some (.inl (et_mn, et_mx))), 0, 0)], 10)
theorem er_sdc0 : et_cv et_TT (hq_sd 0) := et_cok_ok (Ks := [er_ar0_0, er_ar0_1, er_ar0_2, er_ar0_3, er_ar0_4, er_ar0_5, er_q28]) (an := er_an2) (List.forall_mem_cons.mpr ⟨er_arc0_0, (List.forall_mem_cons.mpr ⟨er_arc0_1, (List.forall_mem_cons.mpr ⟨er_arc0_2, (List.forall_mem_cons.mpr ⟨er_arc0_3, (List.forall_mem_cons.mpr ⟨er_arc0_4, (List.forall_mem_cons.mpr ⟨er_arc0_5, (List.forall_mem_cons.mpr ⟨er_c28, (fun _ h => absurd h List.not_mem_nil)⟩)⟩)⟩)⟩)⟩)⟩)⟩) (by decide +kernel)
theorem er_sdc1 : et_cv et_TT (hq_sd 1) := et_cok_ok (Ks := [er_ar1_0, er_ar1_1, er_ar1_2, er_ar1_3, er_ar1_4, er_ar1_5, er_q29]) (an := er_an2) (List.forall_mem_cons.mpr ⟨er_arc1_0, (List.forall_mem_cons.mpr ⟨er_arc1_1, (List.forall_mem_cons.mpr ⟨er_arc1_2, (List.forall_mem_cons.mpr ⟨er_arc1_3, (List.forall_mem_cons.mpr ⟨er_arc1_4, (List.forall_mem_cons.mpr ⟨er_arc1_5, (List.forall_mem_cons.mpr ⟨er_c29, (fun _ h => absurd h List.not_mem_nil)⟩)⟩)⟩)⟩)⟩)⟩)⟩) (by decide +kernel)
theorem er_sdc2 : et_cv et_TT (hq_sd 2) := et_cok_ok (Ks := [er_ar2_0, er_ar2_1, er_ar2_2, er_ar2_3, er_ar2_4, er_ar2_5, er_q31]) (an := er_an2) (List.forall_mem_cons.mpr ⟨er_arc2_0, (List.forall_mem_cons.mpr ⟨er_arc2_1, (List.forall_mem_cons.mpr ⟨er_arc2_2, (List.forall_mem_cons.mpr ⟨er_arc2_3, (List.forall_mem_cons.mpr ⟨er_arc2_4, (List.forall_mem_cons.mpr ⟨er_arc2_5, (List.forall_mem_cons.mpr ⟨er_c31, (fun _ h => absurd h List.not_mem_nil)⟩)⟩)⟩)⟩)⟩)⟩)⟩) (by decide +kernel)
section RPY
variable {w : et_Wd} {K : et_K} {G : eg_G} {d am aw ea e n : Nat} {tu fw or : Int32}
theorem ry_R (hH : et_H et_TT K G) (k_am : K am = some 13) (k_ea : K ea = some 18) (he34 : et_pl (eg_at G am) 34 = some (.ref ea)) (hx0 : et_ex w.1 K) (hf : et_fr sz_M w.1 w.2.2 G) (hP : sz w e am aw ea G) {t i k : Nat} {re : Int32} {x8 x9 x12 : Option Value} (he : e ≤ 2) (hk : k ≤ 23) (h : ∀ {K : et_K} {G : eg_G} (k : Nat), et_H et_TT K G → K am = some 13 → K ea = some 18 → et_pl (eg_at G am) 34 = some (.ref ea) → et_ex w.1 K → et_fr sz_M w.1 w.2.2 G → (sz w e am aw ea G) → et_go none (d + 11) 282 291 [some (.ref am), some (.int (Int32.ofNat e)), some (.int (Int32.ofNat t)), some (.int (Int32.ofNat n)), some (.int (Int32.ofNat (45 + 23 * e))), some (.int or), some (.int fw), some (.int (Int32.ofNat i)), x8, x9, some (.int re), some (.int (Int32.ofNat k)), x12] [] G 0 0 (hi_Z et_TT w sz_M [(.inl (some (.inl (et_mn, et_mx))), 0, 0)])) : et_go none (d + 11) 282 261 [some (.ref am), some (.int (Int32.ofNat e)), some (.int (Int32.ofNat t)), some (.int (Int32.ofNat n)), some (.int (Int32.ofNat (45 + 23 * e))), some (.int or), some (.int fw), some (.int (Int32.ofNat i)), x8, x9, some (.int re), some (.int (Int32.ofNat k)), x12] [] G 0 0 (hi_Z et_TT w sz_M [(.inl (some (.inl (et_mn, et_mx))), 0, 0)]) := by
  induction hm : 23 - k using Nat.strongRecOn generalizing k K G with
  | _ z ih =>
    refine hs_iload (i := 11) (p := 263) (by decide +kernel) rfl ?_
    refine hs_k (x := Int32.ofNat 23) (p := 265) (by decide +kernel) ?_
    refine hs_br2n (c := .ge) (t := 291) (f := 268) (by decide +kernel) (by omega) (by omega) (fun (c265 : 23 ≤ k) => ?_) (fun (c265 : ¬ (23 ≤ k)) => ?_)
    · exact h _ hH k_am k_ea he34 hx0 hf hP
    · refine hs_aload (i := 0) (p := 269) (by decide +kernel) rfl ?_
      refine ht_getr (T := et_TT) (t := 13) (ci := 11) (f := 1) (p := 272) (by decide +kernel) rfl rfl hH k_am (fun a269 k_a269 e269 => ?_)
      refine hs_iload (i := 4) (p := 274) (by decide +kernel) rfl ?_
      refine hs_iload (i := 11) (p := 276) (by decide +kernel) rfl ?_
      refine hs_iaddn (p := 277) (by decide +kernel) ?_
      refine hs_aload (i := 0) (p := 278) (by decide +kernel) rfl ?_
      refine ht_getr (T := et_TT) (t := 13) (ci := 11) (f := 34) (p := 281) (by decide +kernel) rfl rfl hH k_am (fun a278 k_a278 e278 => ?_)
      obtain rfl : ea = a278 := (Value.ref.inj (Option.some.inj (e278.symm.trans he34))).symm
      refine hs_iload (i := 11) (p := 283) (by decide +kernel) rfl ?_
      refine ht_ild (T := et_TT) (t := 18) (N := 23) (p := 284) (by decide +kernel) rfl hH k_ea (by omega) (by decide) (fun x283 s283 e283 => ?_)
      refine ht_wsu (p := 285) (by decide +kernel) hH k_a269 he (by omega) (wx_ok he (by omega) (fun hk0 => by subst hk0; obtain ⟨-, -, -, q, q1, -, q2⟩ := hP; cases e283.symm.trans q2; exact ⟨q, q1, rfl⟩)) (fun hk0 => by subst hk0; obtain ⟨r0, r1, r2, q, q1, r3, q2⟩ := hP; cases e283.symm.trans q2; obtain rfl : aw = a269 := Value.ref.inj (Option.some.inj (r1.symm.trans ((hf.2 am 13 r0 1 (by decide +kernel)).symm.trans e269))); exact (hf.2 aw 46 r2 _ (sz_m e (List.mem_range.mpr (by omega)))).trans r3) (fun G284 hH f284 => ?_)
      have he34 := (f284.2 am 13 k_am 34 (by decide +kernel)).trans he34
      have hP : sz w e am aw ea G284 := by
        obtain ⟨r0, r1, r2, q, q1, r3, q2⟩ := hP
        exact ⟨r0, r1, r2, q, q1, r3, (f284.2 ea 18 k_ea 0 (by decide +kernel)).trans q2⟩
      have hf := hf.tr hx0 (f284.wk (by decide +kernel))
      refine hs_iinc1 (i := 11) (p := 288) (by decide +kernel) rfl (Nat.le_of_ble_eq_true rfl) ?_
      refine hs_goto (p := 261) (by decide +kernel) ?_
      exact ih (23 - (k + 1)) (by omega) hH k_am k_ea he34 hx0 hf hP (by omega) rfl
theorem ry_W {i t r l k w0 c : Nat} (hl : l < 32) (hw : w0 < sp l c) (hc : c ≤ 5) (h : ∀ w0 c : Nat, c < 5 → bt l c = 1 → et_go none (d + 11) 282 199 [some (.ref am), some (.int (Int32.ofNat e)), some (.int (Int32.ofNat t)), some (.int (Int32.ofNat n)), some (.int (Int32.ofNat (45 + 23 * e))), some (.int or), some (.int fw), some (.int (Int32.ofNat i)), some (.int (Int32.ofNat r)), some (.int (Int32.ofNat l)), some (.int (Int32.ofNat k)), some (.int (Int32.ofNat w0)), some (.int (Int32.ofNat c))] [] G 0 0 (hi_Z et_TT w sz_M [(.inl (some (.inl (et_mn, et_mx))), 0, 0)])) : et_go none (d + 11) 282 166 [some (.ref am), some (.int (Int32.ofNat e)), some (.int (Int32.ofNat t)), some (.int (Int32.ofNat n)), some (.int (Int32.ofNat (45 + 23 * e))), some (.int or), some (.int fw), some (.int (Int32.ofNat i)), some (.int (Int32.ofNat r)), some (.int (Int32.ofNat l)), some (.int (Int32.ofNat k)), some (.int (Int32.ofNat w0)), some (.int (Int32.ofNat c))] [] G 0 0 (hi_Z et_TT w sz_M [(.inl (some (.inl (et_mn, et_mx))), 0, 0)]) := by
  induction hm : 5 - c using Nat.strongRecOn generalizing c w0 with
  | _ z ih =>
    have hc5 : c < 5 := by
      rcases Nat.lt_or_ge c 5 with h | h
      · exact h
      · obtain rfl : c = 5 := by omega
        rw [sp_5 l (List.mem_range.mpr hl)] at hw
        omega
    obtain ⟨b1, b2, b3, b4⟩ := sp_all l (List.mem_range.mpr hl) c (List.mem_range.mpr hc5)
    have hsl := sp_le l (List.mem_range.mpr hl) c (List.mem_range.mpr (by omega))
    refine hs_iload (i := 9) (p := 168) (by decide +kernel) rfl ?_
    refine hs_iload (i := 12) (p := 170) (by decide +kernel) rfl ?_
    refine hs_ishr (p := 171) (by decide +kernel) ?_
    refine hs_k (x := Int32.ofNat 1) (p := 172) (by decide +kernel) ?_
    refine hs_iand (p := 173) (by decide +kernel) ?_
    rw [b2]
    refine hs_br1 (c := .eq) (t := 181) (f := 176) (by decide +kernel) (fun (c173 : Int32.ofNat (bt l c) = 0) => ?_) (fun (c173 : ¬ (Int32.ofNat (bt l c) = 0)) => ?_)
    · have hb0 : bt l c = 0 := by
        rw [show (0 : Int32) = Int32.ofNat 0 from rfl, hs_neq (by omega) (by decide)] at c173
        exact c173
      refine hs_iload (i := 11) (p := 183) (by decide +kernel) rfl ?_
      refine hs_iload (i := 9) (p := 185) (by decide +kernel) rfl ?_
      refine hs_iload (i := 12) (p := 187) (by decide +kernel) rfl ?_
      refine hs_ishr (p := 188) (by decide +kernel) ?_
      refine hs_k (x := Int32.ofNat 1) (p := 189) (by decide +kernel) ?_
      refine hs_iand (p := 190) (by decide +kernel) ?_
      rw [b2]
      refine hs_isubn (p := 191) (by decide +kernel) (by omega) ?_
      refine hs_istore (i := 11) (p := 193) (by decide +kernel) (Nat.le_of_ble_eq_true rfl) ?_
      refine hs_iinc1 (i := 12) (p := 196) (by decide +kernel) rfl (Nat.le_of_ble_eq_true rfl) ?_
      refine hs_goto (p := 166) (by decide +kernel) ?_
      exact ih (5 - (c + 1)) (by omega) (by omega) (by omega) rfl
    · have hb0 : ¬ bt l c = 0 := fun h9 => c173 (by rw [h9]; rfl)
      refine hs_iload (i := 11) (p := 178) (by decide +kernel) rfl ?_
      refine hs_br1 (c := .le) (t := 199) (f := 181) (by decide +kernel) (fun (c178 : Int32.ofNat w0 ≤ 0) => ?_) (fun (c178 : ¬ (Int32.ofNat w0 ≤ 0)) => ?_)
      · exact h _ _ hc5 (by omega)
      · have hw0 : 1 ≤ w0 := by
          rcases Nat.eq_zero_or_pos w0 with h9 | h9
          · exact absurd (by rw [h9]; decide) c178
          · exact h9
        refine hs_iload (i := 11) (p := 183) (by decide +kernel) rfl ?_
        refine hs_iload (i := 9) (p := 185) (by decide +kernel) rfl ?_
        refine hs_iload (i := 12) (p := 187) (by decide +kernel) rfl ?_
        refine hs_ishr (p := 188) (by decide +kernel) ?_
        refine hs_k (x := Int32.ofNat 1) (p := 189) (by decide +kernel) ?_
        refine hs_iand (p := 190) (by decide +kernel) ?_
        rw [b2]
        refine hs_isubn (p := 191) (by decide +kernel) (by omega) ?_
        refine hs_istore (i := 11) (p := 193) (by decide +kernel) (Nat.le_of_ble_eq_true rfl) ?_
        refine hs_iinc1 (i := 12) (p := 196) (by decide +kernel) rfl (Nat.le_of_ble_eq_true rfl) ?_
        refine hs_goto (p := 166) (by decide +kernel) ?_
        exact ih (5 - (c + 1)) (by omega) (by omega) (by omega) rfl
theorem ry_D (hH : et_H et_TT K G) (k_am : K am = some 13) (k_ea : K ea = some 18) (he34 : et_pl (eg_at G am) 34 = some (.ref ea)) (hx0 : et_ex w.1 K) (hf : et_fr sz_M w.1 w.2.2 G) (hP : sz w e am aw ea G) {t i r l k : Nat} {x11 x12 : Option Value} (hn : n ≤ 5) (hk : k ≤ n) (hr : r < 2147483648) (hl : l < 32) (hs : sp l 0 + k = n) (h : ∀ {G : eg_G} (x8 x9 x10 x11 x12 : Option Value), et_H et_TT K G → et_pl (eg_at G am) 34 = some (.ref ea) → et_fr sz_M w.1 w.2.2 G → (sz w e am aw ea G) → et_go none (d + 11) 282 225 [some (.ref am), some (.int (Int32.ofNat e)), some (.int (Int32.ofNat t)), some (.int (Int32.ofNat n)), some (.int (Int32.ofNat (45 + 23 * e))), some (.int or), some (.int fw), some (.int (Int32.ofNat i)), x8, x9, x10, x11, x12] [] G 0 0 (hi_Z et_TT w sz_M [(.inl (some (.inl (et_mn, et_mx))), 0, 0)])) : et_go none (d + 11) 282 139 [some (.ref am), some (.int (Int32.ofNat e)), some (.int (Int32.ofNat t)), some (.int (Int32.ofNat n)), some (.int (Int32.ofNat (45 + 23 * e))), some (.int or), some (.int fw), some (.int (Int32.ofNat i)), some (.int (Int32.ofNat r)), some (.int (Int32.ofNat l)), some (.int (Int32.ofNat k)), x11, x12] [] G 0 0 (hi_Z et_TT w sz_M [(.inl (some (.inl (et_mn, et_mx))), 0, 0)]) := by
  induction hm : n - k using Nat.strongRecOn generalizing k r l G x11 x12 with
  | _ z ih =>
    refine hs_iload (i := 10) (p := 141) (by decide +kernel) rfl ?_
    refine hs_iload (i := 3) (p := 142) (by decide +kernel) rfl ?_
    refine hs_br2n (c := .ge) (t := 225) (f := 145) (by decide +kernel) (by omega) (by omega) (fun (c142 : n ≤ k) => ?_) (fun (c142 : ¬ (n ≤ k)) => ?_)
    · exact h _ _ _ _ _ hH he34 hf hP
    · refine hs_iload (i := 8) (p := 147) (by decide +kernel) rfl ?_
      refine hs_iload (i := 3) (p := 148) (by decide +kernel) rfl ?_
      refine hs_iload (i := 10) (p := 150) (by decide +kernel) rfl ?_
      refine hs_isubn (p := 151) (by decide +kernel) (by omega) ?_
      refine hs_irem (p := 152) (by decide +kernel) (hs_nz (by omega) (by omega)) ?_
      obtain ⟨⟨w0, w1, w2⟩, r2, r3, r4⟩ := hs_rq (r := r) (m := n - k) hr (by omega) (by omega)
      rw [w1]
      refine hs_istore (i := 11) (p := 154) (by decide +kernel) (Nat.le_of_ble_eq_true rfl) ?_
      refine hs_iload (i := 8) (p := 156) (by decide +kernel) rfl ?_
      refine hs_iload (i := 3) (p := 157) (by decide +kernel) rfl ?_
      refine hs_iload (i := 10) (p := 159) (by decide +kernel) rfl ?_
      refine hs_isubn (p := 160) (by decide +kernel) (by omega) ?_
      refine hs_idiv (p := 161) (by decide +kernel) (hs_nz (by omega) (by omega)) ?_
      rw [r3]
      refine hs_istore (i := 8) (p := 163) (by decide +kernel) (Nat.le_of_ble_eq_true rfl) ?_
      refine hs_k (x := Int32.ofNat 0) (p := 164) (by decide +kernel) ?_
      refine hs_istore (i := 12) (p := 166) (by decide +kernel) (Nat.le_of_ble_eq_true rfl) ?_
      refine ry_W hl (w0 := w0) (c := 0) (by omega) (by omega) (fun w3 c hc5 hb1 => ?_)
      obtain ⟨b1, b2, b3, b4⟩ := sp_all l (List.mem_range.mpr hl) c (List.mem_range.mpr hc5)
      have b5 := b4 hb1
      have b6 : l - 2 ^ c < 32 := Nat.lt_of_le_of_lt (Nat.sub_le _ _) hl
      refine hs_aload (i := 0) (p := 200) (by decide +kernel) rfl ?_
      refine ht_getr (T := et_TT) (t := 13) (ci := 11) (f := 33) (p := 203) (by decide +kernel) rfl rfl hH k_am (fun a200 k_a200 e200 => ?_)
      refine hs_iload (i := 10) (p := 205) (by decide +kernel) rfl ?_
      refine hs_iload (i := 12) (p := 207) (by decide +kernel) rfl ?_
      refine ht_ist (M := [(36, 0, 4)]) (T := et_TT) (t := 36) (N := 5) (p := 208) (by decide +kernel) rfl rfl (by decide) hH k_a200 (by omega) (by decide) (t5_ok (by omega)) (by unfold et_mm; simp; omega) (fun G207 hH f207 => ?_)
      have he34 := (f207.2 am 13 k_am 34 (by decide +kernel)).trans he34
      have hP : sz w e am aw ea G207 := by
        obtain ⟨r0, r1, r2, q, q1, r3, q2⟩ := hP
        exact ⟨r0, r1, r2, q, q1, r3, (f207.2 ea 18 k_ea 0 (by decide +kernel)).trans q2⟩
      have hf := hf.tr hx0 (f207.wk (by decide +kernel))
      refine hs_iload (i := 9) (p := 210) (by decide +kernel) rfl ?_
      refine hs_k (x := Int32.ofNat 1) (p := 211) (by decide +kernel) ?_
      refine hs_iload (i := 12) (p := 213) (by decide +kernel) rfl ?_
      refine hs_ishl (p := 214) (by decide +kernel) ?_
      refine hs_k (x := (-1)) (p := 215) (by decide +kernel) ?_
      refine hs_ixor (p := 216) (by decide +kernel) ?_
      refine hs_iand (p := 217) (by decide +kernel) ?_
      rw [b5.2.1]
      refine hs_istore (i := 9) (p := 219) (by decide +kernel) (Nat.le_of_ble_eq_true rfl) ?_
      refine hs_iinc1 (i := 10) (p := 222) (by decide +kernel) rfl (Nat.le_of_ble_eq_true rfl) ?_
      refine hs_goto (p := 139) (by decide +kernel) ?_
      exact ih (n - (k + 1)) (by omega) hH he34 hf hP (by omega) (by omega) b6 (by omega) rfl
theorem ry_M (hH : et_H et_TT K G) (k_am : K am = some 13) (k_ea : K ea = some 18) (he34 : et_pl (eg_at G am) 34 = some (.ref ea)) (hx0 : et_ex w.1 K) (hf : et_fr sz_M w.1 w.2.2 G) (hP : sz w e am aw ea G) (hsb : et_cv et_TT (hq_sd e)) {t i : Nat} {x8 x9 x10 x11 x12 : Option Value} (he : e ≤ 2) (ht : t ≤ 3) (hn : n ≤ 5) (hi : i < 2147483648) : et_go none (d + 11) 282 118 [some (.ref am), some (.int (Int32.ofNat e)), some (.int (Int32.ofNat t)), some (.int (Int32.ofNat n)), some (.int (Int32.ofNat (45 + 23 * e))), some (.int or), some (.int fw), some (.int (Int32.ofNat i)), x8, x9, x10, x11, x12] [] G 0 0 (hi_Z et_TT w sz_M [(.inl (some (.inl (et_mn, et_mx))), 0, 0)]) := by
  induction hm : 2147483647 - i using Nat.strongRecOn generalizing i fw K G x8 x9 x10 x11 x12 with
  | _ z ih =>
    refine hs_iload (i := 7) (p := 120) (by decide +kernel) rfl ?_
    refine hs_iload (i := 5) (p := 122) (by decide +kernel) rfl ?_
    refine hs_br2 (c := .ge) (t := 297) (f := 125) (by decide +kernel) (fun (c122 : or ≤ Int32.ofNat i) => ?_) (fun (c122 : ¬ (or ≤ Int32.ofNat i)) => ?_)
    · refine hs_iload (i := 6) (p := 299) (by decide +kernel) rfl ?_
      refine hs_iret (by decide +kernel) ?_
      exact ⟨_, List.mem_cons_self, _, hx0, hf, hH, ⟨_, rfl, hi_any⟩, Nat.le_refl _, Nat.le_refl _⟩
    · have hi2 : i < 2147483647 := by
        have h9 := Int32.not_le.mp c122
        rw [Int32.lt_iff_toInt_lt, hs_nint hi] at h9
        have := or.toInt_lt
        omega
      refine hs_iload (i := 7) (p := 127) (by decide +kernel) rfl ?_
      refine hs_istore (i := 8) (p := 129) (by decide +kernel) (Nat.le_of_ble_eq_true rfl) ?_
      refine hs_k (x := Int32.ofNat 1) (p := 130) (by decide +kernel) ?_
      refine hs_iload (i := 3) (p := 131) (by decide +kernel) rfl ?_
      refine hs_ishl (p := 132) (by decide +kernel) ?_
      refine hs_k (x := Int32.ofNat 1) (p := 133) (by decide +kernel) ?_
      refine hs_isub (p := 134) (by decide +kernel) ?_
      rw [(sp_full n (List.mem_range.mpr (by omega))).1]
      refine hs_istore (i := 9) (p := 136) (by decide +kernel) (Nat.le_of_ble_eq_true rfl) ?_
      refine hs_k (x := Int32.ofNat 0) (p := 137) (by decide +kernel) ?_
      refine hs_istore (i := 10) (p := 139) (by decide +kernel) (Nat.le_of_ble_eq_true rfl) ?_
      obtain ⟨p1, p2, p3⟩ := sp_full n (List.mem_range.mpr (by omega))
      refine ry_D hH k_am k_ea he34 hx0 hf hP (r := i) (l := 2 ^ n - 1) (k := 0) hn (by omega) hi p3 (by omega) (fun {G2} x8 x9 x10 x11 x12 hH he34 hf hP => ?_)
      refine hs_aload (i := 0) (p := 226) (by decide +kernel) rfl ?_
      refine hs_iload (i := 1) (p := 227) (by decide +kernel) rfl ?_
      refine hs_iload (i := 2) (p := 228) (by decide +kernel) rfl ?_
      refine hs_iload (i := 3) (p := 229) (by decide +kernel) rfl ?_
      refine ht_callv (T := et_TT) (t := 13) (mi := 283) (na := 3) (ci := 11) (lk := 13) (lm := 5) (L0 := eg_en (eg_mL 283) [.ref am, .int (Int32.ofNat e), .int (Int32.ofNat t), .int (Int32.ofNat n)]) (by decide +kernel) rfl hH k_am rfl rfl rfl rfl rfl (by rw [show eg_mL 283 = 5 from by decide +kernel]; first | done | rfl) ?_
      refine (hsb (K, [], G2) [.ref am, .int (Int32.ofNat e), .int (Int32.ofNat t), .int (Int32.ofNat n)] _ hH (by omega) rfl (ht_ac (.inr ⟨by decide, _, rfl, k_am⟩) (ht_ac (hi_iv (by rw [hs_nint (by omega)]; omega) (by rw [hs_nint (by omega)]; omega)) (ht_ac (hi_nv (by omega) (by omega)) (ht_ac (hi_nv (by omega) (by omega)) ht_an))))).mono (fun u hu => hs_cbv hu (fun v229 K229 G229 c229 s229 x229 f229 hH hv229 cl229 sl229 => ?_))
      have he34 := (f229.2 am 13 k_am 34 (by decide +kernel)).trans he34
      have hP : sz w e am aw ea G229 := by
        obtain ⟨r0, r1, r2, q, q1, r3, q2⟩ := hP
        exact ⟨r0, r1, r2, q, q1, r3, (f229.2 ea 18 k_ea 0 (by decide +kernel)).trans q2⟩
      have k_am := x229 _ _ k_am
      have k_ea := x229 _ _ k_ea
      have hf := hf.tr hx0 (f229.wk (by decide +kernel))
      have hx0 := hx0.tr x229
      obtain rfl : c229 = 0 := Nat.le_zero.mp cl229
      obtain rfl : s229 = 0 := Nat.le_zero.mp sl229
      obtain ⟨n229, rfl, hn229, hm229⟩ := hi_int hv229
      show et_go none _ 282 232 _ [.int n229] _ 0 _ _
      refine hs_istore (i := 10) (p := 234) (by decide +kernel) (Nat.le_of_ble_eq_true rfl) ?_
      refine hs_iload (i := 10) (p := 236) (by decide +kernel) rfl ?_
      refine hs_br1 (c := .lt) (t := 258) (f := 239) (by decide +kernel) (fun (c236 : n229 < 0) => ?_) (fun (c236 : ¬ (n229 < 0)) => ?_)
      · refine hs_k (x := Int32.ofNat 0) (p := 259) (by decide +kernel) ?_
        refine hs_istore (i := 11) (p := 261) (by decide +kernel) (Nat.le_of_ble_eq_true rfl) ?_
        refine ry_R hH k_am k_ea he34 hx0 hf hP he (k := 0) (by omega) (fun {K5} {G5} k hH k_am k_ea he34 hx0 hf hP => ?_)
        refine hs_iinc1 (i := 7) (p := 294) (by decide +kernel) rfl (Nat.le_of_ble_eq_true rfl) ?_
        refine hs_goto (p := 118) (by decide +kernel) ?_
        exact ih (2147483647 - (i + 1)) (by omega) hH k_am k_ea he34 hx0 hf hP (by omega) rfl
      · refine hs_iload (i := 6) (p := 241) (by decide +kernel) rfl ?_
        refine hs_br1 (c := .ge) (t := 249) (f := 244) (by decide +kernel) (fun (c241 : 0 ≤ fw) => ?_) (fun (c241 : ¬ (0 ≤ fw)) => ?_)
        · refine hs_iload (i := 6) (p := 251) (by decide +kernel) rfl ?_
          refine hs_iload (i := 10) (p := 253) (by decide +kernel) rfl ?_
          refine hs_math (mi := 311) (lk := 13) (p := 256) (by decide +kernel) rfl rfl rfl rfl ?_
          refine hs_istore (i := 6) (p := 258) (by decide +kernel) (Nat.le_of_ble_eq_true rfl) ?_
          refine hs_k (x := Int32.ofNat 0) (p := 259) (by decide +kernel) ?_
          refine hs_istore (i := 11) (p := 261) (by decide +kernel) (Nat.le_of_ble_eq_true rfl) ?_
          refine ry_R hH k_am k_ea he34 hx0 hf hP he (k := 0) (by omega) (fun {K5} {G5} k hH k_am k_ea he34 hx0 hf hP => ?_)
          refine hs_iinc1 (i := 7) (p := 294) (by decide +kernel) rfl (Nat.le_of_ble_eq_true rfl) ?_
          refine hs_goto (p := 118) (by decide +kernel) ?_
          exact ih (2147483647 - (i + 1)) (by omega) hH k_am k_ea he34 hx0 hf hP (by omega) rfl
        · refine hs_iload (i := 10) (p := 246) (by decide +kernel) rfl ?_
          refine hs_goto (p := 256) (by decide +kernel) ?_
          refine hs_istore (i := 6) (p := 258) (by decide +kernel) (Nat.le_of_ble_eq_true rfl) ?_
          refine hs_k (x := Int32.ofNat 0) (p := 259) (by decide +kernel) ?_
          refine hs_istore (i := 11) (p := 261) (by decide +kernel) (Nat.le_of_ble_eq_true rfl) ?_
          refine ry_R hH k_am k_ea he34 hx0 hf hP he (k := 0) (by omega) (fun {K5} {G5} k hH k_am k_ea he34 hx0 hf hP => ?_)
          refine hs_iinc1 (i := 7) (p := 294) (by decide +kernel) rfl (Nat.le_of_ble_eq_true rfl) ?_
          refine hs_goto (p := 118) (by decide +kernel) ?_
          exact ih (2147483647 - (i + 1)) (by omega) hH k_am k_ea he34 hx0 hf hP (by omega) rfl
theorem ry_O {t k : Nat} {x7 x8 x9 x10 x11 x12 : Option Value} (hn : n ≤ 5) (hk : k ≤ 6) (h : ∀ (or : Int32) (k : Nat), et_go none (d + 11) 282 112 [some (.ref am), some (.int (Int32.ofNat e)), some (.int (Int32.ofNat t)), some (.int (Int32.ofNat n)), some (.int (Int32.ofNat (45 + 23 * e))), some (.int or), some (.int (Int32.ofNat k)), x7, x8, x9, x10, x11, x12] [] G 0 0 (hi_Z et_TT w sz_M [(.inl (some (.inl (et_mn, et_mx))), 0, 0)])) : et_go none (d + 11) 282 93 [some (.ref am), some (.int (Int32.ofNat e)), some (.int (Int32.ofNat t)), some (.int (Int32.ofNat n)), some (.int (Int32.ofNat (45 + 23 * e))), some (.int or), some (.int (Int32.ofNat k)), x7, x8, x9, x10, x11, x12] [] G 0 0 (hi_Z et_TT w sz_M [(.inl (some (.inl (et_mn, et_mx))), 0, 0)]) := by
  induction hm : 6 - k using Nat.strongRecOn generalizing k or with
  | _ z ih =>
    refine hs_iload (i := 6) (p := 95) (by decide +kernel) rfl ?_
    refine hs_iload (i := 3) (p := 96) (by decide +kernel) rfl ?_
    refine hs_br2n (c := .gt) (t := 112) (f := 99) (by decide +kernel) (by omega) (by omega) (fun (c96 : n < k) => ?_) (fun (c96 : ¬ (n < k)) => ?_)
    · exact h _ _
    · refine hs_iload (i := 5) (p := 101) (by decide +kernel) rfl ?_
      refine hs_iload (i := 6) (p := 103) (by decide +kernel) rfl ?_
      refine hs_imul (p := 104) (by decide +kernel) ?_
      refine hs_istore (i := 5) (p := 106) (by decide +kernel) (Nat.le_of_ble_eq_true rfl) ?_
      refine hs_iinc1 (i := 6) (p := 109) (by decide +kernel) rfl (Nat.le_of_ble_eq_true rfl) ?_
      refine hs_goto (p := 93) (by decide +kernel) ?_
      exact ih (6 - (k + 1)) (by omega) (by omega) rfl
theorem ry_C (hH : et_H et_TT K G) (k_am : K am = some 13) (k_ea : K ea = some 18) (he34 : et_pl (eg_at G am) 34 = some (.ref ea)) (hx0 : et_ex w.1 K) (hf : et_fr sz_M w.1 w.2.2 G) {t k : Nat} {x6 x7 x8 x9 x10 x11 x12 : Option Value} (he : e ≤ 2) (hk : k ≤ 23) (r0 : w.1 am = some 13) (r1 : et_pl (eg_at w.2.2 am) 1 = some (.ref aw)) (r2 : w.1 aw = some 46) (hP : 1 ≤ k → sz w e am aw ea G) (h : ∀ {G : eg_G} (k : Nat), et_H et_TT K G → et_pl (eg_at G am) 34 = some (.ref ea) → et_fr sz_M w.1 w.2.2 G → (sz w e am aw ea G) → et_go none (d + 11) 282 87 [some (.ref am), some (.int (Int32.ofNat e)), some (.int (Int32.ofNat t)), some (.int (Int32.ofNat n)), some (.int (Int32.ofNat (45 + 23 * e))), some (.int (Int32.ofNat k)), x6, x7, x8, x9, x10, x11, x12] [] G 0 0 (hi_Z et_TT w sz_M [(.inl (some (.inl (et_mn, et_mx))), 0, 0)])) : et_go none (d + 11) 282 57 [some (.ref am), some (.int (Int32.ofNat e)), some (.int (Int32.ofNat t)), some (.int (Int32.ofNat n)), some (.int (Int32.ofNat (45 + 23 * e))), some (.int (Int32.ofNat k)), x6, x7, x8, x9, x10, x11, x12] [] G 0 0 (hi_Z et_TT w sz_M [(.inl (some (.inl (et_mn, et_mx))), 0, 0)]) := by
  induction hm : 23 - k using Nat.strongRecOn generalizing k G with
  | _ z ih =>
    refine hs_iload (i := 5) (p := 59) (by decide +kernel) rfl ?_
    refine hs_k (x := Int32.ofNat 23) (p := 61) (by decide +kernel) ?_
    refine hs_br2n (c := .ge) (t := 87) (f := 64) (by decide +kernel) (by omega) (by omega) (fun (c61 : 23 ≤ k) => ?_) (fun (c61 : ¬ (23 ≤ k)) => ?_)
    · exact h _ hH he34 hf (hP (by omega))
    · refine hs_aload (i := 0) (p := 65) (by decide +kernel) rfl ?_
      refine ht_getr (T := et_TT) (t := 13) (ci := 11) (f := 34) (p := 68) (by decide +kernel) rfl rfl hH k_am (fun a65 k_a65 e65 => ?_)
      obtain rfl : ea = a65 := (Value.ref.inj (Option.some.inj (e65.symm.trans he34))).symm
      refine hs_iload (i := 5) (p := 70) (by decide +kernel) rfl ?_
      refine hs_aload (i := 0) (p := 71) (by decide +kernel) rfl ?_
      refine ht_getr (T := et_TT) (t := 13) (ci := 11) (f := 1) (p := 74) (by decide +kernel) rfl rfl hH k_am (fun a71 k_a71 e71 => ?_)
      refine hs_iload (i := 4) (p := 76) (by decide +kernel) rfl ?_
      refine hs_iload (i := 5) (p := 78) (by decide +kernel) rfl ?_
      refine hs_iaddn (p := 79) (by decide +kernel) ?_
      refine ht_ild (T := et_TT) (t := 46) (N := 12741) (p := 80) (by decide +kernel) rfl hH k_a71 (by omega) (by decide) (fun x79 s79 e79 => ?_)
      refine ht_est (p := 81) (by decide +kernel) hH k_ea (by omega) (fun G80 hH f80 q80 r80 => ?_)
      have hf0 := hf
      have he34 := (f80.2 am 13 k_am 34 (by decide +kernel)).trans he34
      have hf := hf.tr hx0 (f80.wk (by decide +kernel))
      have hP : 1 ≤ k + 1 → sz w e am aw ea G80 := fun _ => by
        by_cases hk0 : k = 0
        · subst hk0
          obtain ⟨q, q1, q2⟩ := hi_natW (s79 _ (hi_w45 e (by omega)) (Nat.le_refl _) (Nat.le_refl _))
          obtain rfl : aw = a71 := Value.ref.inj (Option.some.inj (r1.symm.trans ((hf0.2 am 13 r0 1 (by decide +kernel)).symm.trans e71)))
          rw [q2] at r80 e79
          exact ⟨r0, r1, r2, q, by omega, (hf0.2 aw 46 r2 _ (sz_m e (List.mem_range.mpr (by omega)))).symm.trans e79, r80⟩
        · obtain ⟨-, -, -, q, q1, r3, q2⟩ := hP (by omega)
          exact ⟨r0, r1, r2, q, q1, r3, (q80 0 (fun h => hk0 h.symm)).trans q2⟩
      refine hs_iinc1 (i := 5) (p := 84) (by decide +kernel) rfl (Nat.le_of_ble_eq_true rfl) ?_
      refine hs_goto (p := 57) (by decide +kernel) ?_
      exact ih (23 - (k + 1)) (by omega) hH he34 hf (by omega) hP rfl
def hq_sp (lo hi : Int) : et_Co := (282, [.inr (.inr (0, 13)), .inl (lo, hi), .inl (et_mn, et_mx)], sz_M, [(.inl (some (.inl (et_mn, et_mx))), 0, 0)], 13)
theorem hc_sp1 {e : Nat} (he : e ≤ 2) (hsb : et_cv et_TT (hq_sd e)) : et_cv et_TT (hq_sp e e) := by
  intro w as d2 hH hd hl hv
  obtain ⟨v, v1, v2, rfl⟩ := hi_len3 (show as.length = 3 from hl)
  obtain ⟨am, rfl, k_am⟩ := hi_ref (hv 0 _ _ rfl rfl)
  obtain ⟨x, rfl, x1, x2⟩ := hi_int (hv 1 _ _ rfl rfl)
  obtain ⟨tu, rfl, -⟩ := hi_int (hv 2 _ _ rfl rfl)
  obtain rfl : x = Int32.ofNat e := Int32.toInt_inj.mp (by rw [hs_nint (by omega)]; omega)
  obtain ⟨d, rfl⟩ : ∃ d, d2 = d + 11 := ⟨d2 - 11, by have : 13 ≤ d2 := hd; omega⟩
  obtain ⟨aw, r1, r2⟩ := hf_ref (t := 13) (f := 1) (u := 46) hH k_am rfl rfl (.inr trivial)
  have r0 := k_am
  have hx0 : et_ex w.1 w.1 := et_ex.rf
  have hf : et_fr sz_M w.1 w.2.2 w.2.2 := et_fr.rf
  rw [show eg_mL 282 = 13 from by decide +kernel]
  show et_go none (d + 11) 282 0 [some (.ref am), some (.int (Int32.ofNat e)), some (.int tu), none, none, none, none, none, none, none, none, none, none] [] w.2.2 0 0 (hi_Z et_TT w sz_M [(.inl (some (.inl (et_mn, et_mx))), 0, 0)])
  refine hs_aload (i := 0) (p := 1) (by decide +kernel) rfl ?_
  refine hs_k (x := Int32.ofNat 0) (p := 2) (by decide +kernel) ?_
  refine ht_put (M := sz_M) (T := et_TT) (t := 13) (ci := 11) (f := 0) (p := 5) (ty := .int) (by decide +kernel) rfl rfl rfl rfl rfl (by decide +kernel) hH k_am hi_any (fun G2 hH f2 e2 => ?_)
  have hf := hf.tr hx0 f2
  refine hs_aload (i := 0) (p := 6) (by decide +kernel) rfl ?_
  refine hs_aload (i := 0) (p := 7) (by decide +kernel) rfl ?_
  refine hs_iload (i := 1) (p := 8) (by decide +kernel) rfl ?_
  refine ht_callv (T := et_TT) (t := 13) (mi := 208) (na := 1) (ci := 11) (lk := 13) (lm := 2) (L0 := eg_en (eg_mL 208) [.ref am, .int (Int32.ofNat e)]) (by decide +kernel) rfl hH k_am rfl rfl rfl rfl rfl (by rw [show eg_mL 208 = 2 from by decide +kernel]; first | done | rfl) ?_
  refine (hc_ne (w.1, [], G2) [.ref am, .int (Int32.ofNat e)] _ hH (by omega) rfl (ht_ac (.inr ⟨by decide, _, rfl, k_am⟩) (ht_ac (hi_nv (by omega) (by omega)) ht_an))).mono (fun u hu => hs_cbv hu (fun v8 K8 G8 c8 s8 x8 f8 hH hv8 cl8 sl8 => ?_))
  have k_am := x8 _ _ k_am
  have hf := hf.tr hx0 (f8.wk (by decide +kernel))
  have hx0 := hx0.tr x8
  obtain rfl : c8 = 0 := Nat.le_zero.mp cl8
  obtain rfl : s8 = 0 := Nat.le_zero.mp sl8
  obtain ⟨n8, hn8, rfl⟩ := hi_nat hv8
  show et_go none _ 282 11 _ [.int (Int32.ofNat n8), .ref am] _ 0 _ _
  refine hs_br1 (c := .ne) (t := 22) (f := 14) (by decide +kernel) (fun (c11 : ¬ Int32.ofNat n8 = 0) => ?_) (fun (c11 : ¬ (¬ Int32.ofNat n8 = 0)) => ?_)
  · refine hs_k (x := Int32.ofNat 1) (p := 23) (by decide +kernel) ?_
    refine hs_goto (p := 27) (by decide +kernel) ?_
    refine hs_k (x := Int32.ofNat 1) (p := 28) (by decide +kernel) ?_
    refine ht_callv (T := et_TT) (t := 13) (mi := 204) (na := 2) (ci := 11) (lk := 13) (lm := 3) (by decide +kernel) rfl hH k_am rfl rfl rfl rfl rfl rfl ?_
    refine hi_thr1 hH k_am (fun G28 hH f28 => hs_cb ?_)
    have hf := hf.tr hx0 (f28.wk (by decide +kernel))
    show et_go none _ 282 31 _ [.int (Int32.ofNat 1)] _ _ _ _
    refine hs_if0 (c := .eq) (t := 36) (f := 34) (by decide +kernel) (show ¬ (Int32.ofNat 1 = 0) by decide) ?_
    refine hs_k (x := Int32.ofNat 0) (p := 35) (by decide +kernel) ?_
    refine hs_iret (by decide +kernel) ?_
    exact ⟨_, List.mem_cons_self, _, hx0, hf, hH, ⟨_, rfl, hi_any⟩, Nat.le_refl _, Nat.le_refl _⟩
  · refine hs_aload (i := 0) (p := 15) (by decide +kernel) rfl ?_
    refine hs_iload (i := 2) (p := 16) (by decide +kernel) rfl ?_
    refine ht_callv (T := et_TT) (t := 13) (mi := 246) (na := 1) (ci := 11) (lk := 13) (lm := 2) (by decide +kernel) rfl hH k_am rfl rfl rfl rfl rfl rfl ?_
    refine hi_noT hH k_am (fun t ht htu => hs_cb ?_) (hs_cb ?_)
    · show et_go none _ 282 19 _ [.int (Int32.ofNat 0), .ref am] _ _ _ _
      subst htu
      refine hs_if1 (c := .eq) (t := 26) (f := 22) (by decide +kernel) (show Int32.ofNat 0 = 0 by decide) ?_
      refine hs_k (x := Int32.ofNat 0) (p := 27) (by decide +kernel) ?_
      refine hs_k (x := Int32.ofNat 1) (p := 28) (by decide +kernel) ?_
      refine ht_callv (T := et_TT) (t := 13) (mi := 204) (na := 2) (ci := 11) (lk := 13) (lm := 3) (by decide +kernel) rfl hH k_am rfl rfl rfl rfl rfl rfl ?_
      refine hi_thr0 hH k_am (hs_cb ?_)
      show et_go none _ 282 31 _ [.int (Int32.ofNat 0)] _ _ _ _
      refine hs_if1 (c := .eq) (t := 36) (f := 34) (by decide +kernel) (show Int32.ofNat 0 = 0 by decide) ?_
      refine hs_k (x := Int32.ofNat 5) (p := 37) (by decide +kernel) ?_
      refine hs_aload (i := 0) (p := 38) (by decide +kernel) rfl ?_
      refine ht_callv (T := et_TT) (t := 13) (mi := 218) (na := 0) (ci := 11) (lk := 13) (lm := 1) (by decide +kernel) rfl hH k_am rfl rfl rfl rfl rfl rfl ?_
      refine hi_cards hH k_am (fun c hc => hs_cb ?_)
      show et_go none _ 282 41 _ [.int (Int32.ofNat c), .int (Int32.ofNat 5)] _ _ _ _
      refine hs_math (mi := 311) (lk := 13) (p := 44) (by decide +kernel) rfl rfl rfl rfl ?_
      obtain ⟨n, hn, en⟩ : ∃ n : Nat, n ≤ 5 ∧ (if Int32.ofNat c < Int32.ofNat 5 then Int32.ofNat c else Int32.ofNat 5) = Int32.ofNat n := by
        by_cases h : c < 5
        · exact ⟨c, by omega, if_pos ((hs_nlt (by omega) (by decide)).mpr h)⟩
        · exact ⟨5, Nat.le_refl _, if_neg (fun h9 => h ((hs_nlt (by omega) (by decide)).mp h9))⟩
      rw [en]
      refine hs_istore (i := 3) (p := 45) (by decide +kernel) (Nat.le_of_ble_eq_true rfl) ?_
      refine hs_k (x := Int32.ofNat 45) (p := 47) (by decide +kernel) ?_
      refine hs_k (x := Int32.ofNat 23) (p := 49) (by decide +kernel) ?_
      refine hs_iload (i := 1) (p := 50) (by decide +kernel) rfl ?_
      refine hs_imuln (p := 51) (by decide +kernel) ?_
      refine hs_iaddn (p := 52) (by decide +kernel) ?_
      refine hs_istore (i := 4) (p := 54) (by decide +kernel) (Nat.le_of_ble_eq_true rfl) ?_
      refine hs_k (x := Int32.ofNat 0) (p := 55) (by decide +kernel) ?_
      refine hs_istore (i := 5) (p := 57) (by decide +kernel) (Nat.le_of_ble_eq_true rfl) ?_
      obtain ⟨F9, W9, aw9, -, eF9, -, -, -, hF9, -⟩ := hi_mod hH k_am
      obtain ⟨ea, hea, k_ea⟩ := hi_ref (hF9 34 _ rfl)
      have he34 : et_pl (eg_at G8 am) 34 = some (.ref ea) := by rw [eF9, hi_pF (by decide), hea]
      refine ry_C hH k_am k_ea he34 hx0 hf he (k := 0) (by omega) r0 r1 r2 (fun h => absurd h (by decide)) (fun {G7} k hH he34 hf hP => ?_)
      refine hs_k (x := Int32.ofNat 1) (p := 88) (by decide +kernel) ?_
      refine hs_istore (i := 5) (p := 90) (by decide +kernel) (Nat.le_of_ble_eq_true rfl) ?_
      refine hs_k (x := Int32.ofNat 2) (p := 91) (by decide +kernel) ?_
      refine hs_istore (i := 6) (p := 93) (by decide +kernel) (Nat.le_of_ble_eq_true rfl) ?_
      refine ry_O hn (by omega) (fun or k2 => ?_)
      refine hs_k (x := (-1)) (p := 113) (by decide +kernel) ?_
      refine hs_istore (i := 6) (p := 115) (by decide +kernel) (Nat.le_of_ble_eq_true rfl) ?_
      refine hs_k (x := Int32.ofNat 0) (p := 116) (by decide +kernel) ?_
      refine hs_istore (i := 7) (p := 118) (by decide +kernel) (Nat.le_of_ble_eq_true rfl) ?_
      exact ry_M hH k_am k_ea he34 hx0 hf hP hsb he ht hn (by decide)
    · show et_go none _ 282 19 _ [.int (Int32.ofNat 1), .ref am] _ _ _ _
      refine hs_if0 (c := .eq) (t := 26) (f := 22) (by decide +kernel) (show ¬ (Int32.ofNat 1 = 0) by decide) ?_
      refine hs_k (x := Int32.ofNat 1) (p := 23) (by decide +kernel) ?_
      refine hs_goto (p := 27) (by decide +kernel) ?_
      refine hs_k (x := Int32.ofNat 1) (p := 28) (by decide +kernel) ?_
      refine ht_callv (T := et_TT) (t := 13) (mi := 204) (na := 2) (ci := 11) (lk := 13) (lm := 3) (by decide +kernel) rfl hH k_am rfl rfl rfl rfl rfl rfl ?_
      refine hi_thr1 hH k_am (fun G28 hH f28 => hs_cb ?_)
      have hf := hf.tr hx0 (f28.wk (by decide +kernel))
      show et_go none _ 282 31 _ [.int (Int32.ofNat 1)] _ _ _ _
      refine hs_if0 (c := .eq) (t := 36) (f := 34) (by decide +kernel) (show ¬ (Int32.ofNat 1 = 0) by decide) ?_
      refine hs_k (x := Int32.ofNat 0) (p := 35) (by decide +kernel) ?_
      refine hs_iret (by decide +kernel) ?_
      exact ⟨_, List.mem_cons_self, _, hx0, hf, hH, ⟨_, rfl, hi_any⟩, Nat.le_refl _, Nat.le_refl _⟩
end RPY
theorem hc_sp : et_cv et_TT (hq_sp et_mn et_mx) := et_cv_sp (by decide) (et_cv_sp (by decide) (et_cv_sp (by decide) (et_cv_sp (by decide)
  (show et_cv et_TT (hq_sp et_mn (-1)) from et_cok_ok (Ks := []) (an := er_an) (fun _ h => absurd h List.not_mem_nil) (by decide +kernel))
  (hc_sp1 (e := 0) (by decide) er_sdc0)) (hc_sp1 (e := 1) (by decide) er_sdc1)) (hc_sp1 (e := 2) (by decide) er_sdc2))
  (show et_cv et_TT (hq_sp 3 et_mx) from et_cok_ok (Ks := []) (an := er_an) (fun _ h => absurd h List.not_mem_nil) (by decide +kernel))
end
section
/-! EYES: which object stands for which EYE, how many WIRES each has -/
/-- no EYE's number of WIRES changes but that of a -/
def hole (K : et_K) (a : Nat) (G G' : eg_G) : Prop := ∀ x, K x = some 3 → ¬ x = a → et_pl (eg_at G' x) 0 = et_pl (eg_at G x) 0
theorem hole.rf {K : et_K} {a : Nat} {G : eg_G} : hole K a G G := fun _ _ _ => rfl
theorem hole.fr {K K1 : et_K} {a : Nat} {G G1 G2 : eg_G} {M : et_M} (h : hole K a G G1) (hx : et_ex K K1) (hf : et_fr M K1 G1 G2) (hm : et_mm M 3 0 = false) : hole K a G G2 := fun x kx hn => (hf.2 x 3 (hx _ _ kx) 0 hm).trans (h x kx hn)
theorem hole.tr {K K1 : et_K} {a : Nat} {G G1 G2 : eg_G} (h : hole K a G G1) (hx : et_ex K K1) (h2 : hole K1 a G1 G2) : hole K a G G2 := fun x kx hn => (h2 x (hx _ _ kx) hn).trans (h x kx hn)
def eyt (K : et_K) (sp ya yb : Nat) (E F : Nat → Nat) : Prop := (K ya = some 40 ∧ K yb = some 40 ∧ K sp = some 3) ∧ (∀ n, n < 3 → K (E n) = some 3 ∧ K (F n) = some 3) ∧ ∀ n m, n < 3 → m < 3 → (E n = E m → n = m) ∧ (F n = F m → n = m) ∧ ¬ E n = F m ∧ ¬ E n = sp ∧ ¬ F n = sp
def eyp (G : eg_G) (th s0 s1 sp ya yb : Nat) (E F : Nat → Nat) : Prop := (et_pl (eg_at G s0) 6 = some (.ref ya) ∧ et_pl (eg_at G s1) 6 = some (.ref yb) ∧ et_pl (eg_at G th) 8 = some (.ref sp)) ∧ ∀ n, n < 3 → et_pl (eg_at G ya) n = some (.ref (E n)) ∧ et_pl (eg_at G yb) n = some (.ref (F n))
def ev (G : eg_G) (E F : Nat → Nat) (c i : Nat → Nat) : Prop := ∀ n, n < 3 → et_pl (eg_at G (E n)) 0 = some (.int (Int32.ofNat (c (45 + 23 * n)))) ∧ et_pl (eg_at G (F n)) 0 = some (.int (Int32.ofNat (i (45 + 23 * n))))
def eyp_k (M : et_M) : Bool := !et_mm M 10 6 && (!et_mm M 12 8 && no_t M 40)
theorem eyt.ex {K K' : et_K} {sp ya yb : Nat} {E F : Nat → Nat} (h : eyt K sp ya yb E F) (hx : et_ex K K') : eyt K' sp ya yb E F := ⟨⟨hx _ _ h.1.1, hx _ _ h.1.2.1, hx _ _ h.1.2.2⟩, fun n hn => ⟨hx _ _ (h.2.1 n hn).1, hx _ _ (h.2.1 n hn).2⟩, h.2.2⟩
theorem eyp.fr {K : et_K} {G G' : eg_G} {M : et_M} {th s0 s1 sp ya yb : Nat} {E F : Nat → Nat} (h : eyp G th s0 s1 sp ya yb E F) (ht : eyt K sp ya yb E F) (k_th : K th = some 12) (k_s0 : K s0 = some 10) (k_s1 : K s1 = some 10) (hf : et_fr M K G G') (hk : eyp_k M = true) : eyp G' th s0 s1 sp ya yb E F := by
  unfold eyp_k at hk
  rw [Bool.and_eq_true, Bool.and_eq_true] at hk
  obtain ⟨k1, k2, k3⟩ := hk
  obtain ⟨⟨h1, h2, h3⟩, h4⟩ := h
  exact ⟨⟨(hf.2 s0 10 k_s0 6 (by simpa using k1)).trans h1, (hf.2 s1 10 k_s1 6 (by simpa using k1)).trans h2, (hf.2 th 12 k_th 8 (by simpa using k2)).trans h3⟩, fun n hn => ⟨(hf.2 ya 40 ht.1.1 n (no_mm k3)).trans (h4 n hn).1, (hf.2 yb 40 ht.1.2.1 n (no_mm k3)).trans (h4 n hn).2⟩⟩
theorem ev.fr {K : et_K} {G G' : eg_G} {M : et_M} {sp ya yb : Nat} {E F c i : Nat → Nat} (h : ev G E F c i) (ht : eyt K sp ya yb E F) (hf : et_fr M K G G') (hk : et_mm M 3 0 = false) : ev G' E F c i := fun n hn => ⟨(hf.2 _ 3 (ht.2.1 n hn).1 0 hk).trans (h n hn).1, (hf.2 _ 3 (ht.2.1 n hn).2 0 hk).trans (h n hn).2⟩
theorem ev.ho {K : et_K} {G G' : eg_G} {sp ya yb : Nat} {E F c i : Nat → Nat} (h : ev G E F c i) (ht : eyt K sp ya yb E F) (hh : hole K sp G G') : ev G' E F c i := fun n hn => ⟨(hh _ (ht.2.1 n hn).1 (ht.2.2 n n hn hn).2.2.2.1).trans (h n hn).1, (hh _ (ht.2.1 n hn).2 (ht.2.2 n n hn hn).2.2.2.2).trans (h n hn).2⟩
theorem ev.xs {S : Nat → Nat → Prop} {K : et_K} {G G' : eg_G} {sp ya yb : Nat} {E F c i : Nat → Nat} (h : ev G E F c i) (ht : eyt K sp ya yb E F) (hH : et_H et_TT K G) (hf : xf S G G') (hS : ∀ b, S b 0 → ¬ K b = some 3) : ev G' E F c i := fun n hn => ⟨(hf.2 _ 0 (hH.2.2 _ _ (ht.2.1 n hn).1).1 (fun hs => hS _ hs (ht.2.1 n hn).1)).trans (h n hn).1, (hf.2 _ 0 (hH.2.2 _ _ (ht.2.1 n hn).2).1 (fun hs => hS _ hs (ht.2.1 n hn).2)).trans (h n hn).2⟩
theorem ev.up {S : Nat → Nat → Prop} {K : et_K} {G G' : eg_G} {sp ya yb n v : Nat} {E F c i : Nat → Nat} (h : ev G E F c i) (ht : eyt K sp ya yb E F) (hH : et_H et_TT K G) (hf : xf S G G') (hn : n < 3) (hS : ∀ b, S b 0 → ¬ b = E n → ¬ K b = some 3) (hv : et_pl (eg_at G' (E n)) 0 = some (.int (Int32.ofNat v))) : ev G' E F (rc_up c (45 + 23 * n) v) i := fun k hk => by
  refine ⟨?_, (hf.2 _ 0 (hH.2.2 _ _ (ht.2.1 k hk).2).1 (fun hs => hS _ hs (fun e => (ht.2.2 n k hn hk).2.2.1 e.symm) (ht.2.1 k hk).2)).trans (h k hk).2⟩
  by_cases e : k = n
  · rw [e, show rc_up c (45 + 23 * n) v (45 + 23 * n) = v from if_pos rfl]
    exact hv
  · rw [show rc_up c (45 + 23 * n) v (45 + 23 * k) = c (45 + 23 * k) from if_neg (by omega)]
    exact (hf.2 _ 0 (hH.2.2 _ _ (ht.2.1 k hk).1).1 (fun hs => hS _ hs (fun e2 => e ((ht.2.2 k n hk hn).1 e2)) (ht.2.1 k hk).1)).trans (h k hk).1
theorem ev.co {G : eg_G} {E F c i c' i' : Nat → Nat} (h : ev G E F c i) (h1 : ∀ n, n < 3 → c' (45 + 23 * n) = c (45 + 23 * n)) (h2 : ∀ n, n < 3 → i' (45 + 23 * n) = i (45 + 23 * n)) : ev G E F c' i' := fun n hn => by
  rw [h1 n hn, h2 n hn]
  exact h n hn
theorem hs_cbnP {T : List et_D} {M : et_M} {d k pc ck sk c s : Nat} {L : eg_Ls} {r : List Value} {Z : eg_O → Prop} {w : et_Wd} {u : eg_O} {P : eg_G → Prop} (hu : hi_Z T w M [(.inl none, c, s)] u ∧ P u.2.1) (h : ∀ (K' : et_K) (G' : eg_G) (c' s' : Nat), et_ex w.1 K' → et_fr M w.1 w.2.2 G' → et_H T K' G' → c' ≤ c → s' ≤ s → P G' → et_go none d k (pc + 3) L r G' (ck + c') (sk + s') Z) : hs_cont d k pc L r ck sk Z u := by
  obtain ⟨⟨e, he, K', h1, h2, h3, h4, h5, h6⟩, hP⟩ := hu
  obtain rfl := List.mem_singleton.mp he
  obtain ⟨u1, u2, u3, u4⟩ := u
  have h4 : u1 = .inl none := h4
  subst h4
  exact hs_cb (h K' u2 u3 u4 h1 h2 h3 h5 h6 hP)
theorem hs_cbxn {T : List et_D} {M : et_M} {d k pc ck sk x cx sx c s : Nat} {L : eg_Ls} {r : List Value} {Z : eg_O → Prop} {w : et_Wd} {u : eg_O} (hm : eg_mh k = none) (hu : hi_Z T w M [(.inr x, cx, sx), (.inl none, c, s)] u) (h : ∀ (K' : et_K) (G' : eg_G) (c' s' : Nat), et_ex w.1 K' → et_fr M w.1 w.2.2 G' → et_H T K' G' → c' ≤ c → s' ≤ s → et_go none d k (pc + 3) L r G' (ck + c') (sk + s') Z) (hx : ∀ (K' : et_K) (G' : eg_G) (c' s' : Nat), et_ex w.1 K' → et_fr M w.1 w.2.2 G' → et_H T K' G' → c' ≤ cx → s' ≤ sx → Z (.inr x, G', ck + c', sk + s')) : hs_cont d k pc L r ck sk Z u := by
  obtain ⟨e, he, K', h1, h2, h3, h4, h5, h6⟩ := hu
  obtain ⟨u1, u2, u3, u4⟩ := u
  rcases List.mem_cons.mp he with rfl | he
  · have h4 : u1 = .inr x := h4
    subst h4
    refine ⟨_, ⟨0, fun q _ => ?_⟩, hx K' u2 u3 u4 h1 h2 h3 h5 h6⟩
    unfold eg_bk
    dsimp only
    rw [hm]
  · obtain rfl := List.mem_singleton.mp he
    have h4 : u1 = .inl none := h4
    subst h4
    exact hs_cb (h K' u2 u3 u4 h1 h2 h3 h5 h6)
def hq_needT : et_Co := (147, [.inr (.inr (0, 12)), .inl (et_mn, et_mx)], [], [(.inr 1, 1, 6), (.inl (some (.inr (.inr (0, 11)))), 0, 0)], 0)
theorem hc_needT : et_cv et_TT hq_needT := et_cok_ok (Ks := []) (an := ek_an) (fun _ h => absurd h List.not_mem_nil) (by decide +kernel)
def hq_needW : et_Co := (142, [.inr (.inr (0, 3)), .inl (et_mn, et_mx)], [], [(.inr 1, 1, 6), (.inl none, 0, 0)], 0)
theorem hc_needW : et_cv et_TT hq_needW := et_cok_ok (Ks := []) (an := an_no) (fun _ h => absurd h List.not_mem_nil) (by decide +kernel)
def ey_M : et_M := [(3, 0, 7), (4, 0, 30), (12, 10, 10), (15, 0, 100000), (32, 0, 100000)]
theorem ft_35 {K : et_K} {G : eg_G} {d2 a s : Nat} (hH : et_H et_TT K G) (k_a : K a = some 3) (k_s : K s = some 3) (hd : 1 ≤ d2) : et_go none d2 35 0 (eg_en (eg_mL 35) [.ref a, .ref s]) [] G 0 0 (fun u => et_pl (eg_at u.2.1 a) 0 = et_pl (eg_at G s) 0 ∧ hole K a G u.2.1) := by
  have hH0 := hH
  rw [show eg_mL 35 = 3 from by decide +kernel]
  show et_go none d2 35 0 [some (.ref a), some (.ref s), none] [] G 0 0 _
  refine hs_aload (i := 0) (p := 1) (by decide +kernel) rfl ?_
  refine hs_aload (i := 1) (p := 2) (by decide +kernel) rfl ?_
  refine ht_getn (T := et_TT) (t := 3) (ci := 1) (f := 0) (p := 5) (by decide +kernel) rfl rfl hH k_s (fun c2 h2 e2 => ?_)
  refine hf_put (T := et_TT) (t := 3) (ci := 1) (f := 0) (p := 8) (ty := .int) (by decide +kernel) rfl rfl rfl rfl rfl hH k_a (hi_nv (by omega) (by omega)) (fun G5 hH x5 e5 => ?_)
  have hq := et_pok (T := et_TT) (Ks := []) (an := ek_an) (mi := 35) (pc := 8) (ps := [.inr (.inr (0, 3)), .inr (.inr (0, 3))]) (M := [(3, 4, 4), (3, 5, 5), (3, 6, 6), (3, 7, 7), (15, 0, 100000)]) (es := [(.inl none, 0, 0)]) (w := (K, [], G5)) (as := [.ref a, .ref s]) (d := 1) (d2 := d2) (fun _ h => absurd h List.not_mem_nil) (by decide) (by decide +kernel) hH hd rfl (ht_ac (.inr ⟨by decide, _, rfl, k_a⟩) (ht_ac (.inr ⟨by decide, _, rfl, k_s⟩) ht_an))
  rw [show eg_mL 35 = 3 from by decide +kernel] at hq
  refine et_go.mono hq (fun u hu => ?_)
  obtain ⟨_, _, K', h1, h2, -⟩ := hu
  exact ⟨(h2.2 a 3 k_a 0 (by decide +kernel)).trans (e5.trans e2.symm), fun x kx hn => (h2.2 x 3 kx 0 (by decide +kernel)).trans (x5.2 x 0 (hH0.2.2 _ _ kx).1 (fun h => hn h.1))⟩
section EYB
variable {w : et_Wd} {d d2 th sp e t n row : Nat} {x y z rows : Int32}
theorem ft_166 (hH : et_H et_TT w.1 w.2.2) (k_th0 : w.1 th = some 12) (h80 : et_pl (eg_at w.2.2 th) 8 = some (.ref sp)) (k_sp0 : w.1 sp = some 3) (hd : 5 ≤ d2) : et_go none d2 166 0 (eg_en (eg_mL 166) [.ref th, .int x, .int y, .int z]) [] w.2.2 0 0 (fun u => hole w.1 sp w.2.2 u.2.1) := by
  obtain ⟨d, rfl⟩ : ∃ d, d2 = d + 5 := ⟨d2 - 5, by omega⟩
  have hx0 : et_ex w.1 w.1 := et_ex.rf
  have hf : et_fr ey_M w.1 w.2.2 w.2.2 := et_fr.rf
  have hZ : hole w.1 sp w.2.2 w.2.2 := hole.rf
  have k_th := k_th0
  have k_sp := k_sp0
  rw [show eg_mL 166 = 7 from by decide +kernel]
  show et_go none (d + 5) 166 0 [some (.ref th), some (.int x), some (.int y), some (.int z), none, none, none] [] w.2.2 0 0 _
  refine hs_aload (i := 0) (p := 1) (by decide +kernel) rfl ?_
  refine hs_iload (i := 1) (p := 2) (by decide +kernel) rfl ?_
  refine ht_callv (T := et_TT) (t := 12) (mi := 128) (na := 1) (ci := 10) (lk := 7) (lm := 2) (L0 := eg_en (eg_mL 128) [.ref th, .int x]) (by decide +kernel) rfl hH k_th rfl rfl rfl rfl rfl (by rw [show eg_mL 128 = 2 from by decide +kernel]; first | done | rfl) ?_
  refine (hc_needE (w.1, [], w.2.2) [.ref th, .int x] _ hH (by show 0 ≤ _; omega) rfl (ht_ac (.inr ⟨by decide, _, rfl, k_th⟩) (ht_ac hi_any ht_an))).mono (fun u hu => hs_cbx (by decide +kernel) hu (fun v2 K2 G2 c2 s2 x2 f2 hH hv2 cl2 sl2 => ?_) (fun K2 G2 c2 s2 x2 f2 hH cl2 sl2 => hZ.fr hx0 f2 (by decide +kernel)))
  have hZ := hZ.fr hx0 f2 (by decide +kernel)
  have k_th := x2 _ _ k_th
  have k_sp := x2 _ _ k_sp
  have hf := hf.tr hx0 (f2.wk (by decide +kernel))
  have hx0 := hx0.tr x2
  obtain rfl : c2 = 0 := Nat.le_zero.mp cl2
  obtain rfl : s2 = 0 := Nat.le_zero.mp sl2
  obtain ⟨b2, rfl, k_b2⟩ := hi_ref hv2
  show et_go none _ 166 5 _ [.ref b2] _ 0 _ _
  refine hs_astore (i := 4) (p := 7) (by decide +kernel) (Nat.le_of_ble_eq_true rfl) ?_
  refine hs_aload (i := 4) (p := 9) (by decide +kernel) rfl ?_
  refine hs_iload (i := 2) (p := 10) (by decide +kernel) rfl ?_
  refine hs_calls (mi := 142) (na := 2) (lk := 7) (lm := 2) (L0 := eg_en (eg_mL 142) [.ref b2, .int y]) (by decide +kernel) rfl rfl rfl rfl rfl rfl (by rw [show eg_mL 142 = 2 from by decide +kernel]; first | done | rfl) ?_
  refine (hc_needW (K2, [], G2) [.ref b2, .int y] _ hH (by show 0 ≤ _; omega) rfl (ht_ac (.inr ⟨by decide, _, rfl, k_b2⟩) (ht_ac hi_any ht_an))).mono (fun u hu => hs_cbxn (by decide +kernel) hu (fun K10 G10 c10 s10 x10 f10 hH cl10 sl10 => ?_) (fun K10 G10 c10 s10 x10 f10 hH cl10 sl10 => hZ.fr hx0 f10 (by decide +kernel)))
  have hZ := hZ.fr hx0 f10 (by decide +kernel)
  have k_th := x10 _ _ k_th
  have k_sp := x10 _ _ k_sp
  have k_b2 := x10 _ _ k_b2
  have hf := hf.tr hx0 (f10.wk (by decide +kernel))
  have hx0 := hx0.tr x10
  obtain rfl : c10 = 0 := Nat.le_zero.mp cl10
  obtain rfl : s10 = 0 := Nat.le_zero.mp sl10
  show et_go none _ 166 13 _ [] _ 0 _ _
  refine hs_aload (i := 4) (p := 15) (by decide +kernel) rfl ?_
  refine hs_iload (i := 3) (p := 16) (by decide +kernel) rfl ?_
  refine hs_calls (mi := 142) (na := 2) (lk := 7) (lm := 2) (L0 := eg_en (eg_mL 142) [.ref b2, .int z]) (by decide +kernel) rfl rfl rfl rfl rfl rfl (by rw [show eg_mL 142 = 2 from by decide +kernel]; first | done | rfl) ?_
  refine (hc_needW (K10, [], G10) [.ref b2, .int z] _ hH (by show 0 ≤ _; omega) rfl (ht_ac (.inr ⟨by decide, _, rfl, k_b2⟩) (ht_ac hi_any ht_an))).mono (fun u hu => hs_cbxn (by decide +kernel) hu (fun K16 G16 c16 s16 x16 f16 hH cl16 sl16 => ?_) (fun K16 G16 c16 s16 x16 f16 hH cl16 sl16 => hZ.fr hx0 f16 (by decide +kernel)))
  have hZ := hZ.fr hx0 f16 (by decide +kernel)
  have k_th := x16 _ _ k_th
  have k_sp := x16 _ _ k_sp
  have k_b2 := x16 _ _ k_b2
  have hf := hf.tr hx0 (f16.wk (by decide +kernel))
  have hx0 := hx0.tr x16
  obtain rfl : c16 = 0 := Nat.le_zero.mp cl16
  obtain rfl : s16 = 0 := Nat.le_zero.mp sl16
  show et_go none _ 166 19 _ [] _ 0 _ _
  refine hs_aload (i := 0) (p := 20) (by decide +kernel) rfl ?_
  refine ht_getr (T := et_TT) (t := 12) (ci := 10) (f := 8) (p := 23) (by decide +kernel) rfl rfl hH k_th (fun a20 k_a20 e20 => ?_)
  obtain rfl : sp = a20 := (Value.ref.inj (Option.some.inj (e20.symm.trans ((hf.2 th 12 k_th0 8 (by decide +kernel)).trans h80)))).symm
  refine hs_aload (i := 4) (p := 25) (by decide +kernel) rfl ?_
  refine ht_callv (T := et_TT) (t := 3) (mi := 35) (na := 1) (ci := 1) (lk := 7) (lm := 3) (L0 := eg_en (eg_mL 35) [.ref sp, .ref b2]) (by decide +kernel) rfl hH k_sp rfl rfl rfl rfl rfl (by rw [show eg_mL 35 = 3 from by decide +kernel]; first | done | rfl) ?_
  refine ((ek_c5 (K16, [], G16) [.ref sp, .ref b2] _ hH (by show 1 ≤ _; omega) rfl (ht_ac (.inr ⟨by decide, _, rfl, k_sp⟩) (ht_ac (.inr ⟨by decide, _, rfl, k_b2⟩) ht_an))).and (ft_35 hH k_sp k_b2 (by omega))).mono (fun u hu => hs_cbnP (P := fun g => hole K16 sp G16 g) ⟨hu.1, hu.2.2⟩ (fun K25 G25 c25 s25 x25 f25 hH cl25 sl25 hh25 => ?_))
  have hZ := hZ.tr hx0 hh25
  have k_th := x25 _ _ k_th
  have k_sp := x25 _ _ k_sp
  have k_b2 := x25 _ _ k_b2
  have hf := hf.tr hx0 (f25.wk (by decide +kernel))
  have hx0 := hx0.tr x25
  obtain rfl : c25 = 0 := Nat.le_zero.mp cl25
  obtain rfl : s25 = 0 := Nat.le_zero.mp sl25
  show et_go none _ 166 28 _ [] _ 0 _ _
  have hq := et_pok (T := et_TT) (Ks := [ek_q2, ek_q3, ek_q5]) (an := ek_an) (mi := 166) (pc := 28) (ps := [.inr (.inr (0, 12)), .inl (et_mn, et_mx), .inl (et_mn, et_mx), .inl (et_mn, et_mx), .inr (.inr (0, 3))]) (M := [(15, 0, 100000)]) (es := [(.inl (some (.inl (et_mn, et_mx))), 2, 2048)]) (w := (K25, [], G25)) (as := [.ref th, .int x, .int y, .int z, .ref b2]) (d := 5) (d2 := d + 5) (List.forall_mem_cons.mpr ⟨ek_c2, (List.forall_mem_cons.mpr ⟨ek_c3, (List.forall_mem_cons.mpr ⟨ek_c5, (fun _ h => absurd h List.not_mem_nil)⟩)⟩)⟩) (by decide) (by decide +kernel) hH (by omega) rfl (ht_ac (.inr ⟨by decide, _, rfl, k_th⟩) (ht_ac hi_any (ht_ac hi_any (ht_ac hi_any (ht_ac (.inr ⟨by decide, _, rfl, k_b2⟩) ht_an)))))
  rw [show eg_mL 166 = 7 from by decide +kernel] at hq
  refine et_go.mono hq (fun u hu => ?_)
  obtain ⟨_, _, K9, h1, h2, -⟩ := hu
  exact hZ.fr hx0 h2 (by decide +kernel)
theorem ft_169 (hH : et_H et_TT w.1 w.2.2) (k_th0 : w.1 th = some 12) (h80 : et_pl (eg_at w.2.2 th) 8 = some (.ref sp)) (k_sp0 : w.1 sp = some 3) (k_e : w.1 e = some 3) (k_t : w.1 t = some 11) (hc : n ≤ 5) (hd : 34 ≤ d2) : et_go none d2 169 0 (eg_en (eg_mL 169) [.ref th, .ref e, .ref t, .int (Int32.ofNat n)]) [] w.2.2 0 0 (fun u => hole w.1 sp w.2.2 u.2.1) := by
  obtain ⟨d, rfl⟩ : ∃ d, d2 = d + 34 := ⟨d2 - 34, by omega⟩
  have hx0 : et_ex w.1 w.1 := et_ex.rf
  have hf : et_fr ey_M w.1 w.2.2 w.2.2 := et_fr.rf
  have hZ : hole w.1 sp w.2.2 w.2.2 := hole.rf
  have k_th := k_th0
  have k_sp := k_sp0
  rw [show eg_mL 169 = 8 from by decide +kernel]
  show et_go none (d + 34) 169 0 [some (.ref th), some (.ref e), some (.ref t), some (.int (Int32.ofNat n)), none, none, none, none] [] w.2.2 0 0 _
  refine hs_aload (i := 0) (p := 1) (by decide +kernel) rfl ?_
  refine ht_getr (T := et_TT) (t := 12) (ci := 10) (f := 8) (p := 4) (by decide +kernel) rfl rfl hH k_th (fun a1 k_a1 e1 => ?_)
  obtain rfl : sp = a1 := (Value.ref.inj (Option.some.inj (e1.symm.trans ((hf.2 th 12 k_th0 8 (by decide +kernel)).trans h80)))).symm
  refine hs_aload (i := 1) (p := 5) (by decide +kernel) rfl ?_
  refine ht_callv (T := et_TT) (t := 3) (mi := 35) (na := 1) (ci := 1) (lk := 8) (lm := 3) (L0 := eg_en (eg_mL 35) [.ref sp, .ref e]) (by decide +kernel) rfl hH k_sp rfl rfl rfl rfl rfl (by rw [show eg_mL 35 = 3 from by decide +kernel]; first | done | rfl) ?_
  refine ((ek_c5 (w.1, [], w.2.2) [.ref sp, .ref e] _ hH (by show 1 ≤ _; omega) rfl (ht_ac (.inr ⟨by decide, _, rfl, k_sp⟩) (ht_ac (.inr ⟨by decide, _, rfl, k_e⟩) ht_an))).and (ft_35 hH k_sp k_e (by omega))).mono (fun u hu => hs_cbnP (P := fun g => hole w.1 sp w.2.2 g) ⟨hu.1, hu.2.2⟩ (fun K5 G5 c5 s5 x5 f5 hH cl5 sl5 hh5 => ?_))
  have hZ := hZ.tr hx0 hh5
  have k_th := x5 _ _ k_th
  have k_sp := x5 _ _ k_sp
  have k_e := x5 _ _ k_e
  have k_t := x5 _ _ k_t
  have hf := hf.tr hx0 (f5.wk (by decide +kernel))
  have hx0 := hx0.tr x5
  obtain rfl : c5 = 0 := Nat.le_zero.mp cl5
  obtain rfl : s5 = 0 := Nat.le_zero.mp sl5
  show et_go none _ 169 8 _ [] _ 0 _ _
  have hq := et_pok (T := et_TT) (Ks := [ek_q13, ek_q5, ek_q24, (hq_isT 0 22)]) (an := ek_an) (mi := 169) (pc := 8) (ps := [.inr (.inr (0, 12)), .inr (.inr (0, 3)), .inr (.inr (0, 11)), .inl (0, 5)]) (M := [(3, 4, 4), (3, 5, 5), (4, 1, 1), (4, 2, 2), (4, 3, 3), (4, 4, 4), (4, 5, 5), (4, 6, 6), (12, 10, 10), (15, 0, 100000)]) (es := [(.inl none, 0, 0)]) (w := (K5, [], G5)) (as := [.ref th, .ref e, .ref t, .int (Int32.ofNat n)]) (d := 34) (d2 := d + 34) (List.forall_mem_cons.mpr ⟨ek_c13, (List.forall_mem_cons.mpr ⟨ek_c5, (List.forall_mem_cons.mpr ⟨ek_c24, (List.forall_mem_cons.mpr ⟨hc_isT, (fun _ h => absurd h List.not_mem_nil)⟩)⟩)⟩)⟩) (by decide) (by decide +kernel) hH (by omega) rfl (ht_ac (.inr ⟨by decide, _, rfl, k_th⟩) (ht_ac (.inr ⟨by decide, _, rfl, k_e⟩) (ht_ac (.inr ⟨by decide, _, rfl, k_t⟩) (ht_ac (hi_nv (by omega) (by omega)) ht_an))))
  rw [show eg_mL 169 = 8 from by decide +kernel] at hq
  refine et_go.mono hq (fun u hu => ?_)
  obtain ⟨_, _, K9, h1, h2, -⟩ := hu
  exact hZ.fr hx0 h2 (by decide +kernel)
theorem ft_167L {K : et_K} {G : eg_G} (hH : et_H et_TT K G) (hx0 : et_ex w.1 K) (hf : et_fr ey_M w.1 w.2.2 G) (hZ : hole w.1 sp w.2.2 G) (k_th0 : w.1 th = some 12) (h80 : et_pl (eg_at w.2.2 th) 8 = some (.ref sp)) (k_th : K th = some 12) (k_sp : K sp = some 3) (k_e : K e = some 3) (k_t : K t = some 11) (hc : n ≤ 5) (hr : row < 2147483648) : et_go none (d + 35) 167 61 [some (.ref th), some (.int x), some (.int y), some (.ref e), some (.ref t), some (.int (Int32.ofNat n)), some (.int rows), some (.int (Int32.ofNat row))] [] G 0 0 (fun u => hole w.1 sp w.2.2 u.2.1) := by
  induction hm : 2147483648 - row using Nat.strongRecOn generalizing row K G with
  | _ z ih =>
    refine hs_iload (i := 7) (p := 63) (by decide +kernel) rfl ?_
    refine hs_iload (i := 6) (p := 65) (by decide +kernel) rfl ?_
    refine hs_br2 (c := .ge) (t := 94) (f := 68) (by decide +kernel) (fun (c65 : rows ≤ Int32.ofNat row) => ?_) (fun (c65 : ¬ (rows ≤ Int32.ofNat row)) => ?_)
    · refine hs_aload (i := 0) (p := 95) (by decide +kernel) rfl ?_
      refine ht_geti (T := et_TT) (t := 12) (ci := 10) (f := 10) (p := 98) (by decide +kernel) rfl rfl hH k_th (fun c95 h95 g95 e95 => ?_)
      refine hs_k (x := Int32.ofNat 50) (p := 100) (by decide +kernel) ?_
      refine hs_br2 (c := .le) (t := 107) (f := 103) (by decide +kernel) (fun (c100 : c95 ≤ Int32.ofNat 50) => ?_) (fun (c100 : ¬ (c95 ≤ Int32.ofNat 50)) => ?_)
      · refine hs_aload (i := 0) (p := 108) (by decide +kernel) rfl ?_
        refine ht_geti (T := et_TT) (t := 12) (ci := 10) (f := 10) (p := 111) (by decide +kernel) rfl rfl hH k_th (fun c108 h108 g108 e108 => ?_)
        refine hs_iret (by decide +kernel) ?_
        exact hZ
      · refine hs_k (x := (-1)) (p := 104) (by decide +kernel) ?_
        refine hs_goto (p := 111) (by decide +kernel) ?_
        refine hs_iret (by decide +kernel) ?_
        exact hZ
    · have h65 : row + 1 < 2147483648 := by
        have h9 := Int32.toInt_lt rows
        rw [Int32.le_iff_toInt_le, hs_nint hr] at c65
        omega
      refine hs_aload (i := 0) (p := 69) (by decide +kernel) rfl ?_
      refine hs_iload (i := 7) (p := 71) (by decide +kernel) rfl ?_
      refine hs_iload (i := 5) (p := 73) (by decide +kernel) rfl ?_
      refine ht_callv (T := et_TT) (t := 12) (mi := 168) (na := 2) (ci := 10) (lk := 8) (lm := 6) (L0 := eg_en (eg_mL 168) [.ref th, .int (Int32.ofNat row), .int (Int32.ofNat n)]) (by decide +kernel) rfl hH k_th rfl rfl rfl rfl rfl (by rw [show eg_mL 168 = 6 from by decide +kernel]; first | done | rfl) ?_
      refine (ek_c23 (K, [], G) [.ref th, .int (Int32.ofNat row), .int (Int32.ofNat n)] _ hH (by show 1 ≤ _; omega) rfl (ht_ac (.inr ⟨by decide, _, rfl, k_th⟩) (ht_ac hi_any (ht_ac hi_any ht_an)))).mono (fun u hu => hs_cbv hu (fun v73 K73 G73 c73 s73 x73 f73 hH hv73 cl73 sl73 => ?_))
      have hZ := hZ.fr hx0 f73 (by decide +kernel)
      have k_th := x73 _ _ k_th
      have k_sp := x73 _ _ k_sp
      have k_e := x73 _ _ k_e
      have k_t := x73 _ _ k_t
      have hf := hf.tr hx0 (f73.wk (by decide +kernel))
      have hx0 := hx0.tr x73
      obtain rfl : c73 = 0 := Nat.le_zero.mp cl73
      obtain rfl : s73 = 0 := Nat.le_zero.mp sl73
      obtain ⟨n73, hn73, rfl⟩ := hi_nat hv73
      show et_go none _ 167 76 _ [.int (Int32.ofNat n73)] _ 0 _ _
      refine hs_br1 (c := .eq) (t := 88) (f := 79) (by decide +kernel) (fun (c76 : Int32.ofNat n73 = 0) => ?_) (fun (c76 : ¬ (Int32.ofNat n73 = 0)) => ?_)
      · refine hs_iinc1 (i := 7) (p := 91) (by decide +kernel) rfl (Nat.le_of_ble_eq_true rfl) ?_
        refine hs_goto (p := 61) (by decide +kernel) ?_
        show et_go none _ 167 61 [some (.ref th), some (.int x), some (.int y), some (.ref e), some (.ref t), some (.int (Int32.ofNat n)), some (.int rows), some (.int (Int32.ofNat (row + 1)))] [] _ _ _ _
        exact ih (2147483648 - (row + 1)) (by omega) hH hx0 hf hZ k_th k_sp k_e k_t (by omega) rfl
      · refine hs_aload (i := 0) (p := 80) (by decide +kernel) rfl ?_
        refine hs_aload (i := 3) (p := 81) (by decide +kernel) rfl ?_
        refine hs_aload (i := 4) (p := 83) (by decide +kernel) rfl ?_
        refine hs_iload (i := 5) (p := 85) (by decide +kernel) rfl ?_
        refine ht_callv (T := et_TT) (t := 12) (mi := 169) (na := 3) (ci := 10) (lk := 8) (lm := 8) (L0 := eg_en (eg_mL 169) [.ref th, .ref e, .ref t, .int (Int32.ofNat n)]) (by decide +kernel) rfl hH k_th rfl rfl rfl rfl rfl (by rw [show eg_mL 169 = 8 from by decide +kernel]; first | done | rfl) ?_
        refine ((ek_c25 (K73, [], G73) [.ref th, .ref e, .ref t, .int (Int32.ofNat n)] _ hH (by show 34 ≤ _; omega) rfl (ht_ac (.inr ⟨by decide, _, rfl, k_th⟩) (ht_ac (.inr ⟨by decide, _, rfl, k_e⟩) (ht_ac (.inr ⟨by decide, _, rfl, k_t⟩) (ht_ac (hi_nv (by omega) (by omega)) ht_an))))).and (ft_169 (w := (K73, [], G73)) hH k_th ((hf.2 th 12 k_th0 8 (by decide +kernel)).trans h80) k_sp k_e k_t hc (by omega))).mono (fun u hu => hs_cbnP (P := fun g => hole K73 sp G73 g) hu (fun K85 G85 c85 s85 x85 f85 hH cl85 sl85 hh85 => ?_))
        have hZ := hZ.tr hx0 hh85
        have k_th := x85 _ _ k_th
        have k_sp := x85 _ _ k_sp
        have k_e := x85 _ _ k_e
        have k_t := x85 _ _ k_t
        have hf := hf.tr hx0 (f85.wk (by decide +kernel))
        have hx0 := hx0.tr x85
        obtain rfl : c85 = 0 := Nat.le_zero.mp cl85
        obtain rfl : s85 = 0 := Nat.le_zero.mp sl85
        show et_go none _ 167 88 _ [] _ 0 _ _
        refine hs_iinc1 (i := 7) (p := 91) (by decide +kernel) rfl (Nat.le_of_ble_eq_true rfl) ?_
        refine hs_goto (p := 61) (by decide +kernel) ?_
        show et_go none _ 167 61 [some (.ref th), some (.int x), some (.int y), some (.ref e), some (.ref t), some (.int (Int32.ofNat n)), some (.int rows), some (.int (Int32.ofNat (row + 1)))] [] _ _ _ _
        exact ih (2147483648 - (row + 1)) (by omega) hH hx0 hf hZ k_th k_sp k_e k_t (by omega) rfl
theorem ft_167P {K : et_K} {G : eg_G} (hH : et_H et_TT K G) (hx0 : et_ex w.1 K) (hf : et_fr ey_M w.1 w.2.2 G) (hZ : hole w.1 sp w.2.2 G) (k_th0 : w.1 th = some 12) (h80 : et_pl (eg_at w.2.2 th) 8 = some (.ref sp)) (k_th : K th = some 12) (k_sp : K sp = some 3) (k_e : K e = some 3) (k_t : K t = some 11) (hc : n ≤ 5) (hr : row ≤ 5) : et_go none (d + 35) 167 38 [some (.ref th), some (.int x), some (.int y), some (.ref e), some (.ref t), some (.int (Int32.ofNat n)), some (.int rows), some (.int (Int32.ofNat row))] [] G 0 0 (fun u => hole w.1 sp w.2.2 u.2.1) := by
  induction hm : 5 - row using Nat.strongRecOn generalizing row rows with
  | _ z ih =>
    refine hs_iload (i := 7) (p := 40) (by decide +kernel) rfl ?_
    refine hs_iload (i := 5) (p := 42) (by decide +kernel) rfl ?_
    refine hs_br2n (c := .ge) (t := 58) (f := 45) (by decide +kernel) (by omega) (by omega) (fun (c42 : n ≤ row) => ?_) (fun (c42 : ¬ (n ≤ row)) => ?_)
    · refine hs_k (x := Int32.ofNat 0) (p := 59) (by decide +kernel) ?_
      refine hs_istore (i := 7) (p := 61) (by decide +kernel) (Nat.le_of_ble_eq_true rfl) ?_
      show et_go none _ 167 61 [some (.ref th), some (.int x), some (.int y), some (.ref e), some (.ref t), some (.int (Int32.ofNat n)), some (.int rows), some (.int (Int32.ofNat 0))] [] _ _ _ _
      exact ft_167L hH hx0 hf hZ k_th0 h80 k_th k_sp k_e k_t hc (by decide)
    · refine hs_iload (i := 6) (p := 47) (by decide +kernel) rfl ?_
      refine hs_iload (i := 5) (p := 49) (by decide +kernel) rfl ?_
      refine hs_imul (p := 50) (by decide +kernel) ?_
      refine hs_istore (i := 6) (p := 52) (by decide +kernel) (Nat.le_of_ble_eq_true rfl) ?_
      refine hs_iinc1 (i := 7) (p := 55) (by decide +kernel) rfl (Nat.le_of_ble_eq_true rfl) ?_
      refine hs_goto (p := 38) (by decide +kernel) ?_
      show et_go none _ 167 38 [some (.ref th), some (.int x), some (.int y), some (.ref e), some (.ref t), some (.int (Int32.ofNat n)), some (.int (rows * Int32.ofNat n)), some (.int (Int32.ofNat (row + 1)))] [] _ _ _ _
      exact ih (5 - (row + 1)) (by omega) (by omega) rfl
theorem ft_167 (hH : et_H et_TT w.1 w.2.2) (k_th0 : w.1 th = some 12) (h80 : et_pl (eg_at w.2.2 th) 8 = some (.ref sp)) (k_sp0 : w.1 sp = some 3) (hd : 35 ≤ d2) : et_go none d2 167 0 (eg_en (eg_mL 167) [.ref th, .int x, .int y]) [] w.2.2 0 0 (fun u => hole w.1 sp w.2.2 u.2.1) := by
  obtain ⟨d, rfl⟩ : ∃ d, d2 = d + 35 := ⟨d2 - 35, by omega⟩
  have hx0 : et_ex w.1 w.1 := et_ex.rf
  have hf : et_fr ey_M w.1 w.2.2 w.2.2 := et_fr.rf
  have hZ : hole w.1 sp w.2.2 w.2.2 := hole.rf
  have k_th := k_th0
  have k_sp := k_sp0
  rw [show eg_mL 167 = 8 from by decide +kernel]
  show et_go none (d + 35) 167 0 [some (.ref th), some (.int x), some (.int y), none, none, none, none, none] [] w.2.2 0 0 _
  refine hs_aload (i := 0) (p := 1) (by decide +kernel) rfl ?_
  refine hs_iload (i := 1) (p := 2) (by decide +kernel) rfl ?_
  refine ht_callv (T := et_TT) (t := 12) (mi := 128) (na := 1) (ci := 10) (lk := 8) (lm := 2) (L0 := eg_en (eg_mL 128) [.ref th, .int x]) (by decide +kernel) rfl hH k_th rfl rfl rfl rfl rfl (by rw [show eg_mL 128 = 2 from by decide +kernel]; first | done | rfl) ?_
  refine (hc_needE (w.1, [], w.2.2) [.ref th, .int x] _ hH (by show 0 ≤ _; omega) rfl (ht_ac (.inr ⟨by decide, _, rfl, k_th⟩) (ht_ac hi_any ht_an))).mono (fun u hu => hs_cbx (by decide +kernel) hu (fun v2 K2 G2 c2 s2 x2 f2 hH hv2 cl2 sl2 => ?_) (fun K2 G2 c2 s2 x2 f2 hH cl2 sl2 => hZ.fr hx0 f2 (by decide +kernel)))
  have hZ := hZ.fr hx0 f2 (by decide +kernel)
  have k_th := x2 _ _ k_th
  have k_sp := x2 _ _ k_sp
  have hf := hf.tr hx0 (f2.wk (by decide +kernel))
  have hx0 := hx0.tr x2
  obtain rfl : c2 = 0 := Nat.le_zero.mp cl2
  obtain rfl : s2 = 0 := Nat.le_zero.mp sl2
  obtain ⟨b2, rfl, k_b2⟩ := hi_ref hv2
  show et_go none _ 167 5 _ [.ref b2] _ 0 _ _
  refine hs_astore (i := 3) (p := 6) (by decide +kernel) (Nat.le_of_ble_eq_true rfl) ?_
  refine hs_aload (i := 0) (p := 7) (by decide +kernel) rfl ?_
  refine hs_iload (i := 2) (p := 8) (by decide +kernel) rfl ?_
  refine ht_callv (T := et_TT) (t := 12) (mi := 147) (na := 1) (ci := 10) (lk := 8) (lm := 2) (L0 := eg_en (eg_mL 147) [.ref th, .int y]) (by decide +kernel) rfl hH k_th rfl rfl rfl rfl rfl (by rw [show eg_mL 147 = 2 from by decide +kernel]; first | done | rfl) ?_
  refine (hc_needT (K2, [], G2) [.ref th, .int y] _ hH (by show 0 ≤ _; omega) rfl (ht_ac (.inr ⟨by decide, _, rfl, k_th⟩) (ht_ac hi_any ht_an))).mono (fun u hu => hs_cbx (by decide +kernel) hu (fun v8 K8 G8 c8 s8 x8 f8 hH hv8 cl8 sl8 => ?_) (fun K8 G8 c8 s8 x8 f8 hH cl8 sl8 => hZ.fr hx0 f8 (by decide +kernel)))
  have hZ := hZ.fr hx0 f8 (by decide +kernel)
  have k_th := x8 _ _ k_th
  have k_sp := x8 _ _ k_sp
  have k_b2 := x8 _ _ k_b2
  have hf := hf.tr hx0 (f8.wk (by decide +kernel))
  have hx0 := hx0.tr x8
  obtain rfl : c8 = 0 := Nat.le_zero.mp cl8
  obtain rfl : s8 = 0 := Nat.le_zero.mp sl8
  obtain ⟨b8, rfl, k_b8⟩ := hi_ref hv8
  show et_go none _ 167 11 _ [.ref b8] _ 0 _ _
  refine hs_astore (i := 4) (p := 13) (by decide +kernel) (Nat.le_of_ble_eq_true rfl) ?_
  refine hs_aload (i := 0) (p := 14) (by decide +kernel) rfl ?_
  refine hs_k (x := Int32.ofNat 51) (p := 16) (by decide +kernel) ?_
  refine ht_put (M := [(12, 10, 10)]) (T := et_TT) (t := 12) (ci := 10) (f := 10) (p := 19) (ty := .int) (by decide +kernel) rfl rfl rfl rfl rfl (by decide +kernel) hH k_th hi_any (fun G16 hH f16 e16 => ?_)
  have hZ := hZ.fr hx0 f16 (by decide +kernel)
  have hf := hf.tr hx0 (f16.wk (by decide +kernel))
  refine hs_aload (i := 0) (p := 20) (by decide +kernel) rfl ?_
  refine ht_getr (T := et_TT) (t := 12) (ci := 10) (f := 0) (p := 23) (by decide +kernel) rfl rfl hH k_th (fun a20 k_a20 e20 => ?_)
  refine ht_getn (T := et_TT) (t := 10) (ci := 8) (f := 2) (p := 26) (by decide +kernel) rfl rfl hH k_a20 (fun c23 h23 e23 => ?_)
  refine hs_k (x := Int32.ofNat 5) (p := 27) (by decide +kernel) ?_
  refine hs_math (mi := 311) (lk := 8) (p := 30) (by decide +kernel) rfl rfl rfl rfl ?_
  obtain ⟨n, hn, en⟩ : ∃ n : Nat, n ≤ 5 ∧ (if Int32.ofNat 5 < Int32.ofNat c23 then Int32.ofNat 5 else Int32.ofNat c23) = Int32.ofNat n := by
    by_cases h : 5 < c23
    · exact ⟨5, Nat.le_refl _, if_pos ((hs_nlt (by decide) (by omega)).mpr h)⟩
    · exact ⟨c23, by omega, if_neg (fun h9 => h ((hs_nlt (by decide) (by omega)).mp h9))⟩
  rw [en]
  refine hs_istore (i := 5) (p := 32) (by decide +kernel) (Nat.le_of_ble_eq_true rfl) ?_
  refine hs_k (x := Int32.ofNat 1) (p := 33) (by decide +kernel) ?_
  refine hs_istore (i := 6) (p := 35) (by decide +kernel) (Nat.le_of_ble_eq_true rfl) ?_
  refine hs_k (x := Int32.ofNat 0) (p := 36) (by decide +kernel) ?_
  refine hs_istore (i := 7) (p := 38) (by decide +kernel) (Nat.le_of_ble_eq_true rfl) ?_
  show et_go none _ 167 38 [some (.ref th), some (.int x), some (.int y), some (.ref b2), some (.ref b8), some (.int (Int32.ofNat n)), some (.int (Int32.ofNat 1)), some (.int (Int32.ofNat 0))] [] _ _ _ _
  exact ft_167P hH hx0 hf hZ k_th0 h80 k_th k_sp k_b2 k_b8 hn (by decide)
end EYB
end
