section
/-! FUNCTIONAL: made: both sides -/
section TTA
variable {K : et_K} {G : eg_G} {D : Nat → Prop} {φ : Nat → sp_E → Bool} {R0 : Nat → Nat} {d d2 th s0 ra rc fo out am aw la ya c : Nat} {x ru : Int32} {g : Nat → sp_E → Bool}
def mdC (la ya rc c : Nat) (ru x : Int32) (P : Nat → Bool) (G : eg_G) : Prop := ∀ n, ru = Int32.ofNat n → n < rc → (0 ≤ x.toInt ∧ x.toInt < 65536) → c < 20 → et_pl (eg_at G la) c = some (.int x) ∧ et_pl (eg_at G ya) c = some (.int (Int32.ofNat (if P n = true then 1 else 0)))
theorem fc_madeY (t : rxK K D φ th s0 ra fo) (hH : et_H et_TT K G) (hz : rx D φ th s0 ra rc fo G) (hR : ∀ k, k < rc → D (R0 k) ∧ et_pl (eg_at G ra) k = some (.ref (R0 k))) (h2 : et_pl (eg_at G s0) 2 = some (.int (Int32.ofNat c))) (hc : c ≤ 20) (h3 : et_pl (eg_at G s0) 3 = some (.ref la)) (k_la : K la = some 17) (h4 : et_pl (eg_at G s0) 4 = some (.ref ya)) (k_ya : K ya = some 27) (hd : 21 ≤ d2) : et_go none d2 138 0 (eg_en (eg_mL 138) [.ref th, .int x, .int ru]) [] G 0 0 (fun u => xf (fun b j => (b = fo ∧ j = 0) ∨ ((b = th ∧ (6 ≤ j ∧ j ≤ 7)) ∨ ((b = s0 ∧ j = 2) ∨ ((b = la ∧ j = c) ∨ (b = ya ∧ j = c))))) G u.2.1 ∧ mdC la ya rc c ru x (fun n => φ (R0 n) (feE (fun _ => x))) u.2.1) := by
  obtain ⟨d, rfl⟩ : ∃ d, d2 = d + 21 := ⟨d2 - 21, by omega⟩
  have h_rc := hz.2.2.1.2.2
  rw [show eg_mL 138 = 4 from by decide +kernel]
  show et_go none (d + 21) 138 0 [some (.ref th), some (.int x), some (.int ru), none] [] G 0 0 _
  refine hs_aload (i := 0) (p := 1) (by decide +kernel) rfl ?_
  refine hs_iload (i := 2) (p := 2) (by decide +kernel) rfl ?_
  refine ht_callv (T := et_TT) (t := 12) (mi := 129) (na := 1) (ci := 10) (lk := 4) (lm := 2) (L0 := eg_en (eg_mL 129) [.ref th, .int ru]) (by decide +kernel) rfl hH t.2.1 rfl rfl rfl rfl rfl (by rw [show eg_mL 129 = 2 from by decide +kernel]; first | done | rfl) ?_
  refine (fc_needRule (ru := ru) hH t.2.1 hz.2.1.1 t.2.2.1 hz.2.2.1.1 hz.2.2.1.2.2 hz.2.2.1.2.1 t.2.2.2.1 (fun i hi => ⟨R0 i, (hR i hi).2⟩)).mono (fun u hu => ?_)
  obtain ⟨G1, v, c1, s1, rfl, -, -, rfl, h⟩ := hu
  rcases h with ⟨hn, rfl⟩ | ⟨n, q, rfl, hn, rfl, kq, hq⟩
  · refine hf_cx (by decide +kernel) ?_
    exact ⟨xf.rf, fun n e1 e2 _ _ => absurd (by rw [e1]; unfold xr; rw [hs_nint (by omega)]; omega) hn⟩
  refine hs_cb ?_
  show et_go none _ 138 5 _ [.ref q] _ _ _ _
  refine hs_astore (i := 3) (p := 6) (by decide +kernel) (Nat.le_of_ble_eq_true rfl) ?_
  refine hs_iload (i := 1) (p := 7) (by decide +kernel) rfl ?_
  refine hs_calls (mi := 135) (na := 1) (lk := 4) (lm := 1) (L0 := eg_en (eg_mL 135) [.int x]) (by decide +kernel) rfl rfl rfl rfl rfl rfl (by rw [show eg_mL 135 = 1 from by decide +kernel]; first | done | rfl) ?_
  refine (fc_needLit (K := K) (x := x) hH).mono (fun u hu => ?_)
  obtain ⟨G1, v, c1, s1, rfl, -, -, h⟩ := hu
  rcases h with ⟨hl, rfl, rfl⟩ | ⟨hl, rfl, rfl⟩
  · refine hf_cx (by decide +kernel) ?_
    exact ⟨xf.rf, fun _ _ _ h _ => absurd h hl⟩
  refine hs_cb ?_
  show et_go none _ 138 10 _ [] _ _ _ _
  refine hs_aload (i := 0) (p := 11) (by decide +kernel) rfl ?_
  refine hs_iload (i := 1) (p := 12) (by decide +kernel) rfl ?_
  refine hs_aload (i := 3) (p := 13) (by decide +kernel) rfl ?_
  refine hs_iload (i := 1) (p := 14) (by decide +kernel) rfl ?_
  refine hs_aload (i := 0) (p := 15) (by decide +kernel) rfl ?_
  refine hf_get (T := et_TT) (t := 12) (ci := 10) (f := 4) (p := 18) (by decide +kernel) rfl hH t.2.1 hz.2.1.2 ?_
  obtain ⟨m, hm, rfl⟩ : ∃ m, m < 65536 ∧ x = Int32.ofNat m := ⟨x.toInt.toNat, by omega, hi_of (by omega) (by omega)⟩
  refine ht_callv (T := et_TT) (t := 8) (mi := 87) (na := 2) (ci := 6) (lk := 4) (lm := 3) (L0 := eg_en (eg_mL 87) [.ref q, .int (Int32.ofNat m), .ref fo]) (by decide +kernel) rfl hH kq rfl rfl rfl rfl rfl (by rw [show eg_mL 87 = 3 from by decide +kernel]; first | done | rfl) ?_
  obtain ⟨hD, hq2⟩ := hR n hn
  rw [hq] at hq2
  obtain rfl : q = R0 n := Value.ref.inj (Option.some.inj hq2)
  obtain ⟨bb, lo, hi, h5, h6, h7⟩ := hz.1 _ hD
  obtain ⟨F, hF⟩ := foR_of hH t.2.2.2.2
  refine (fx_tells hH kq h5 (cond_ty hH kq h5) h6 h7 hF hm (by omega)).mono (fun u hu => ?_)
  obtain ⟨G1, v, rfl, hH1, hX1, rfl⟩ := hu
  have hv : ∀ a ty, K a = some ty → ¬ ty = 4 → ∀ j, et_pl (eg_at G1 a) j = et_pl (eg_at _ a) j := fun a ty ha n4 j => hX1.2 a j (hH.2.2 _ _ ha).1 (fun hs => hi_ne ha t.2.2.2.2 n4 hs.1)
  refine hs_cb ?_
  show et_go none _ 138 21 _ [.int (Int32.ofNat (if φ (R0 n) (feE (fup F (Int32.ofNat m))) = true then 1 else 0)), .int (Int32.ofNat m), .ref th] _ _ _ _
  refine ht_callv (T := et_TT) (t := 12) (mi := 137) (na := 2) (ci := 10) (lk := 4) (lm := 3) (L0 := eg_en (eg_mL 137) [.ref th, .int (Int32.ofNat m), .int (Int32.ofNat (if φ (R0 n) (feE (fup F (Int32.ofNat m))) = true then 1 else 0))]) (by decide +kernel) rfl hH1 t.2.1 rfl rfl rfl rfl rfl (by rw [show eg_mL 137 = 3 from by decide +kernel]; first | done | rfl) ?_
  refine (fc_put hH1 t.2.1 ((hv th 12 t.2.1 (by decide) 0).trans hz.2.1.1) t.2.2.1 ((hv s0 10 t.2.2.1 (by decide) 2).trans h2) hc ((hv s0 10 t.2.2.1 (by decide) 3).trans h3) k_la ((hv s0 10 t.2.2.1 (by decide) 4).trans h4) k_ya (y := Int32.ofNat (if φ (R0 n) (feE (fup F (Int32.ofNat m))) = true then 1 else 0)) (by split; exact .inr rfl; exact .inl rfl) (by omega)).mono (fun u hu => ?_)
  obtain ⟨G2, v, c1, s1, rfl, -, hX2, h⟩ := hu
  have hXX := (hX1.wk (S := (fun b j => (b = fo ∧ j = 0) ∨ ((b = th ∧ (6 ≤ j ∧ j ≤ 7)) ∨ ((b = s0 ∧ j = 2) ∨ ((b = la ∧ j = c) ∨ (b = ya ∧ j = c)))))) (fun _ _ _ h => .inl h)).tr hX2 (fun b j hb h => .inr h)
  rcases h with ⟨c20, rfl, p2⟩ | ⟨c20, rfl, p2, p3, p4⟩
  · refine hf_cx (by decide +kernel) ?_
    exact ⟨hXX, fun _ _ _ _ h => absurd h (by omega)⟩
  refine hs_cb ?_
  refine hs_iret (by decide +kernel) ?_
  refine ⟨hXX, ?_⟩
  intro n2 e1 e2 _ _
  obtain rfl : n = n2 := (hs_neq (by omega) (by omega)).mp e1
  exact ⟨p3, p4.trans (congrArg (fun z : Bool => some (Value.int (Int32.ofNat (if z = true then 1 else 0)))) ((t.1 _ hD).2 (fup F (Int32.ofNat m)) (fun _ => Int32.ofNat m) rfl))⟩
theorem fh_madeY (t : rxK K D φ th s0 ra fo) (hH : et_H et_TT K G) (hz : rx D φ th s0 ra rc fo G) (hR : ∀ k, k < rc → D (R0 k) ∧ et_pl (eg_at G ra) k = some (.ref (R0 k))) (h2 : et_pl (eg_at G s0) 2 = some (.int (Int32.ofNat c))) (hc : c ≤ 20) (h3 : et_pl (eg_at G s0) 3 = some (.ref la)) (k_la : K la = some 17) (h4 : et_pl (eg_at G s0) 4 = some (.ref ya)) (k_ya : K ya = some 27) (k_out : K out = some 31) (hd : 34 ≤ d2) : et_go none d2 5 0 (eg_en (eg_mL 5) [.ref th, .int x, .int ru, .ref out]) [] G 0 0 (fun u => xf (fun b j => (b = fo ∧ j = 0) ∨ ((b = th ∧ (6 ≤ j ∧ j ≤ 7)) ∨ ((b = s0 ∧ j = 2) ∨ ((b = la ∧ j = c) ∨ ((b = ya ∧ j = c) ∨ (b = out ∧ j = 0)))))) G u.2.1 ∧ mdC la ya rc c ru x (fun n => φ (R0 n) (feE (fun _ => x))) u.2.1) := by
  obtain ⟨d, rfl⟩ : ∃ d, d2 = d + 34 := ⟨d2 - 34, by omega⟩
  rw [show eg_mL 5 = 5 from by decide +kernel]
  show et_go none (d + 34) 5 0 [some (.ref th), some (.int x), some (.int ru), some (.ref out), none] [] G 0 0 _
  refine hs_aload (i := 3) (p := 1) (by decide +kernel) rfl ?_
  refine hs_k (x := Int32.ofNat 0) (p := 2) (by decide +kernel) ?_
  refine hs_aload (i := 0) (p := 3) (by decide +kernel) rfl ?_
  refine hs_iload (i := 1) (p := 4) (by decide +kernel) rfl ?_
  refine hs_iload (i := 2) (p := 5) (by decide +kernel) rfl ?_
  refine ht_callv (T := et_TT) (t := 12) (mi := 138) (na := 2) (ci := 10) (lk := 5) (lm := 4) (L0 := eg_en (eg_mL 138) [.ref th, .int x, .int ru]) (by decide +kernel) rfl hH t.2.1 rfl rfl rfl rfl rfl (by rw [show eg_mL 138 = 4 from by decide +kernel]; first | done | rfl) ?_
  refine ((ek_p138_ok (K, [], G) [.ref th, .int x, .int ru] _ hH (by show 33 ≤ _; omega) rfl (ht_ac (.inr ⟨by decide, _, rfl, t.2.1⟩) (ht_ac hi_any (ht_ac hi_any ht_an)))).and (fc_madeY t hH hz hR h2 hc h3 k_la h4 k_ya (by omega))).mono (fun u hu => ?_)
  obtain ⟨⟨es, hes, K1, hx1, hf1, hH1, hv1, -, -⟩, hq⟩ := hu
  obtain ⟨u1, u2, u3, u4⟩ := u
  obtain ⟨hxo, hqo⟩ := hq
  have hxq : xf (fun b j => (b = fo ∧ j = 0) ∨ ((b = th ∧ (6 ≤ j ∧ j ≤ 7)) ∨ ((b = s0 ∧ j = 2) ∨ ((b = la ∧ j = c) ∨ ((b = ya ∧ j = c) ∨ (b = out ∧ j = 0)))))) G u2 := hxo.wk (fun b j _ h => by first | omega | (dsimp only at h ⊢; omega))
  have hq : mdC la ya rc c ru x (fun n => φ (R0 n) (feE (fun _ => x))) u2 := hqo
  clear hxo hqo
  rcases List.mem_cons.mp hes with rfl | hes
  · obtain ⟨v, hv2, hv3⟩ := hv1
    have hv2 : u1 = .inl (some v) := hv2
    subst hv2
    obtain ⟨n, rfl, -, -⟩ := hi_int hv3
    refine hs_cb ?_
    show et_go none _ 5 8 _ [.int n, .int (Int32.ofNat 0), .ref out] _ _ _ _
    refine hs_st (ins := .i2l) (len := 1) (p := 9) (by decide +kernel) rfl rfl ?_
    refine hf_lst (T := et_TT) (t := 31) (N := 1) (n := 0) (p := 10) (by decide +kernel) rfl (by decide) hH1 (hx1 _ _ k_out) (by decide) (by decide) (fun G9 hH9 x9 e9 => ?_)
    refine hs_goto (p := 25) (by decide +kernel) ?_
    refine hs_k (x := Int32.ofNat 0) (p := 26) (by decide +kernel) ?_
    refine hs_iret (by decide +kernel) ?_
    refine ⟨hxq.tr x9 (fun b j hb h => by first | omega | (dsimp only at h ⊢; omega)), fun n e1 e2 e3 e4 => ?_⟩
    exact ⟨(x9.2 la c (hH1.2.2 _ _ (hx1 _ _ k_la)).1 (fun h => hi_ne k_la k_out (by decide) h.1)).trans (hq n e1 e2 e3 e4).1, (x9.2 ya c (hH1.2.2 _ _ (hx1 _ _ k_ya)).1 (fun h => hi_ne k_ya k_out (by decide) h.1)).trans (hq n e1 e2 e3 e4).2⟩
  rcases List.mem_cons.mp hes with rfl | hes
  · have hv1 := hv1
    have hv1 : u1 = .inr 0 := hv1
    subst hv1
    refine hs_ch (h := 17) (i := 4) (n := 2) (hh := (eg_mh 5).getD []) (by decide +kernel) ⟨(by decide +kernel), (by decide +kernel)⟩ (Nat.le_of_ble_eq_true rfl) ?_
    show et_go none _ 5 19 [some (.ref th), some (.int x), some (.int ru), some (.ref out), none] [] _ _ _ _
    refine hs_k (x := Int32.ofNat 2) (p := 20) (by decide +kernel) ?_
    refine hs_iret (by decide +kernel) ?_
    exact ⟨hxq, hq⟩
  rcases List.mem_cons.mp hes with rfl | hes
  · have hv1 := hv1
    have hv1 : u1 = .inr 1 := hv1
    subst hv1
    refine hs_ch (h := 13) (i := 4) (n := 2) (hh := (eg_mh 5).getD []) (by decide +kernel) ⟨(by decide +kernel), (by decide +kernel)⟩ (Nat.le_of_ble_eq_true rfl) ?_
    show et_go none _ 5 15 [some (.ref th), some (.int x), some (.int ru), some (.ref out), none] [] _ _ _ _
    refine hs_k (x := Int32.ofNat 1) (p := 16) (by decide +kernel) ?_
    refine hs_iret (by decide +kernel) ?_
    exact ⟨hxq, hq⟩
  · obtain rfl := List.mem_singleton.mp hes
    have hv1 : u1 = .inr 2 := hv1
    subst hv1
    refine hs_ch (h := 21) (i := 4) (n := 2) (hh := (eg_mh 5).getD []) (by decide +kernel) ⟨(by decide +kernel), (by decide +kernel)⟩ (Nat.le_of_ble_eq_true rfl) ?_
    show et_go none _ 5 23 [some (.ref th), some (.int x), some (.int ru), some (.ref out), none] [] _ _ _ _
    refine hs_k (x := Int32.ofNat 3) (p := 24) (by decide +kernel) ?_
    refine hs_iret (by decide +kernel) ?_
    exact ⟨hxq, hq⟩
def mdM (aw rc c : Nat) (ru x : Int32) (P : Nat → Bool) (G : eg_G) : Prop := ∀ n, ru = Int32.ofNat n → n < rc → (0 ≤ x.toInt ∧ x.toInt < 65536) → c < 20 → et_pl (eg_at G aw) (5 + 2 * c) = some (.int x) ∧ et_pl (eg_at G aw) (6 + 2 * c) = some (.int (Int32.ofNat (if P n = true then 1 else 0)))
/-- of the world, the image only the card's places, the count *and what is no part of them may change -/
def mdF (K : et_K) (G : eg_G) (aw c : Nat) (G' : eg_G) : Prop := G.2 ≤ G'.2 ∧ ∀ a j, (K a = some 46 ∨ K a = some 47) → (a = aw → ¬ j = 3 ∧ (j < 5 + 2 * c ∨ 6 + 2 * c < j)) → et_pl (eg_at G' a) j = et_pl (eg_at G a) j
theorem mdF.rf {K : et_K} {G : eg_G} {aw c : Nat} : mdF K G aw c G := ⟨Nat.le_refl _, fun _ _ _ _ => rfl⟩
theorem mdF.xs {S : Nat → Nat → Prop} {K K1 : et_K} {G G1 G2 : eg_G} {aw c : Nat} (h : mdF K G aw c G1) (hH : et_H et_TT K G) (hx : et_ex K K1) (x : xf S G1 G2) (hS : ∀ b j t, K1 b = some t → S b j → (t = 46 ∨ t = 47) → b = aw ∧ (j = 3 ∨ (5 + 2 * c ≤ j ∧ j ≤ 6 + 2 * c))) : mdF K G aw c G2 := by
  refine ⟨Nat.le_trans h.1 x.1, fun a j ha hj => ?_⟩
  have lt : a < G.2 := by rcases ha with ha | ha <;> exact (hH.2.2 _ _ ha).1
  refine (x.2 a j (Nat.lt_of_lt_of_le lt h.1) (fun hs => ?_)).trans (h.2 a j ha hj)
  have hc : a = aw ∧ (j = 3 ∨ (5 + 2 * c ≤ j ∧ j ≤ 6 + 2 * c)) := by
    rcases ha with ha | ha
    · exact hS _ _ _ (hx _ _ ha) hs (.inl rfl)
    · exact hS _ _ _ (hx _ _ ha) hs (.inr rfl)
  have := hj hc.1
  omega
theorem mdF.fr {K K1 : et_K} {G G1 G2 : eg_G} {aw c : Nat} {M : et_M} (h : mdF K G aw c G1) (hx : et_ex K K1) (hf : et_fr M K1 G1 G2) (h6 : no_t M 46 = true) (h7 : no_t M 47 = true) : mdF K G aw c G2 := by
  refine ⟨Nat.le_trans h.1 hf.1, fun a j ha hj => ?_⟩
  rcases ha with ha | ha
  · exact (hf.2 a 46 (hx _ _ ha) j (no_mm h6)).trans (h.2 a j (.inl ha) hj)
  · exact (hf.2 a 47 (hx _ _ ha) j (no_mm h7)).trans (h.2 a j (.inr ha) hj)
theorem fm_madeY (hH : et_H et_TT K G) (k_am : K am = some 13) (k_aw : K aw = some 46) (m1 : et_pl (eg_at G am) 1 = some (.ref aw)) (w3 : et_pl (eg_at G aw) 3 = some (.int (Int32.ofNat c))) (hc : c ≤ 20) (w0 : et_pl (eg_at G aw) 0 = some (.int (Int32.ofNat rc))) (hrc : rc ≤ 4) (hT : ∀ k, k < rc → txP G aw (126 + 841 * k) 0 (g k)) (hd : 5 ≤ d2) : et_go none d2 220 0 (eg_en (eg_mL 220) [.ref am, .int x, .int ru]) [] G 0 0 (fun u => mdF K G aw c u.2.1 ∧ mdM aw rc c ru x (fun n => g n (feE (fun _ => x))) u.2.1) := by
  have hH00 := hH
  have hF_ : mdF K G aw c G := mdF.rf
  obtain ⟨d, rfl⟩ : ∃ d, d2 = d + 5 := ⟨d2 - 5, by omega⟩
  have hxm : et_ex K K := et_ex.rf
  rw [show eg_mL 220 = 3 from by decide +kernel]
  show et_go none (d + 5) 220 0 [some (.ref am), some (.int x), some (.int ru)] [] G 0 0 _
  have lt_am := (hH.2.2 _ _ k_am).1
  have lt_aw := (hH.2.2 _ _ k_aw).1
  refine hs_aload (i := 0) (p := 1) (by decide +kernel) rfl ?_
  refine hs_k (x := Int32.ofNat 0) (p := 2) (by decide +kernel) ?_
  refine hf_put (T := et_TT) (t := 13) (ci := 11) (f := 0) (p := 5) (ty := .int) (by decide +kernel) rfl rfl rfl rfl rfl hH k_am hi_any (fun G2 hH x2 e2 => ?_)
  have hF_ := hF_.xs hH00 hxm x2 (fun b j t kb hs ht => by first | (rcases hs with ⟨e, e2⟩ | ⟨e, e2⟩ <;> exact ⟨e, by omega⟩) | (obtain ⟨e, e2⟩ := hs; rw [e, k_am] at kb; cases kb; rcases ht with ht | ht <;> cases ht))
  have hT := fun (k : Nat) (hk : k < rc) => (hT k hk).xs lt_aw x2 (fun j h => hi_ne k_aw k_am (by decide) h.1)
  have m1 := (x2.2 am 1 lt_am (fun h => absurd h.2 (by decide))).trans m1
  have w3 := (x2.2 aw 3 lt_aw (fun h => (hi_ne k_aw k_am (by decide)) h.1)).trans w3
  have w0 := (x2.2 aw 0 lt_aw (fun h => (hi_ne k_aw k_am (by decide)) h.1)).trans w0
  have lt_am := Nat.lt_of_lt_of_le lt_am x2.1
  have lt_aw := Nat.lt_of_lt_of_le lt_aw x2.1
  refine hs_aload (i := 0) (p := 6) (by decide +kernel) rfl ?_
  refine hs_aload (i := 0) (p := 7) (by decide +kernel) rfl ?_
  refine hs_iload (i := 2) (p := 8) (by decide +kernel) rfl ?_
  refine ht_callv (T := et_TT) (t := 13) (mi := 210) (na := 1) (ci := 11) (lk := 3) (lm := 2) (L0 := eg_en (eg_mL 210) [.ref am, .int ru]) (by decide +kernel) rfl hH k_am rfl rfl rfl rfl rfl (by rw [show eg_mL 210 = 2 from by decide +kernel]; first | done | rfl) ?_
  refine (fm_nR (x := ru) hH k_am k_aw m1 w0 hrc (by omega)).mono (fun u hu => xp_cb hu ?_)
  by_cases xu : 0 ≤ ru.toInt ∧ ru.toInt < (rc : Int)
  · rw [if_pos xu]
    show et_go none _ 220 11 _ [.int (Int32.ofNat 0), .ref am] _ _ _ _
    refine hs_k (x := Int32.ofNat 1) (p := 12) (by decide +kernel) ?_
    refine ht_callv (T := et_TT) (t := 13) (mi := 204) (na := 2) (ci := 11) (lk := 3) (lm := 3) (L0 := eg_en (eg_mL 204) [.ref am, .int (Int32.ofNat 0), .int (Int32.ofNat 1)]) (by decide +kernel) rfl hH k_am rfl rfl rfl rfl rfl (by rw [show eg_mL 204 = 3 from by decide +kernel]; first | done | rfl) ?_
    refine (fm_t0 hH k_am).mono (fun u hu => xp_cb hu ?_)
    show et_go none _ 220 15 _ [.int (Int32.ofNat 0)] _ _ _ _
    refine hs_if0 (c := .ne) (t := 52) (f := 18) (by decide +kernel) (show ¬ (¬ Int32.ofNat 0 = 0) by decide) ?_
    refine hs_aload (i := 0) (p := 19) (by decide +kernel) rfl ?_
    refine hs_iload (i := 1) (p := 20) (by decide +kernel) rfl ?_
    refine hs_calls (mi := 212) (na := 1) (lk := 3) (lm := 1) (L0 := eg_en (eg_mL 212) [.int x]) (by decide +kernel) rfl rfl rfl rfl rfl rfl (by rw [show eg_mL 212 = 1 from by decide +kernel]; first | done | rfl) ?_
    refine (fm_noLit (x := x)).mono (fun u hu => xp_cb hu ?_)
    by_cases xl : 0 ≤ x.toInt ∧ x.toInt < 65536
    · rw [if_pos xl]
      show et_go none _ 220 23 _ [.int (Int32.ofNat 0), .ref am] _ _ _ _
      refine hs_k (x := Int32.ofNat 2) (p := 24) (by decide +kernel) ?_
      refine ht_callv (T := et_TT) (t := 13) (mi := 204) (na := 2) (ci := 11) (lk := 3) (lm := 3) (L0 := eg_en (eg_mL 204) [.ref am, .int (Int32.ofNat 0), .int (Int32.ofNat 2)]) (by decide +kernel) rfl hH k_am rfl rfl rfl rfl rfl (by rw [show eg_mL 204 = 3 from by decide +kernel]; first | done | rfl) ?_
      refine (fm_t0 hH k_am).mono (fun u hu => xp_cb hu ?_)
      show et_go none _ 220 27 _ [.int (Int32.ofNat 0)] _ _ _ _
      refine hs_if0 (c := .ne) (t := 52) (f := 30) (by decide +kernel) (show ¬ (¬ Int32.ofNat 0 = 0) by decide) ?_
      refine hs_aload (i := 0) (p := 31) (by decide +kernel) rfl ?_
      refine hs_aload (i := 0) (p := 32) (by decide +kernel) rfl ?_
      refine ht_callv (T := et_TT) (t := 13) (mi := 218) (na := 0) (ci := 11) (lk := 3) (lm := 1) (L0 := eg_en (eg_mL 218) [.ref am]) (by decide +kernel) rfl hH k_am rfl rfl rfl rfl rfl (by rw [show eg_mL 218 = 1 from by decide +kernel]; first | done | rfl) ?_
      refine (fm_cards hH k_am k_aw m1 w3).mono (fun u hu => xp_cb hu ?_)
      show et_go none _ 220 35 _ [.int (Int32.ofNat c), .ref am] _ _ _ _
      refine hs_k (x := Int32.ofNat 20) (p := 37) (by decide +kernel) ?_
      refine hs_br2n (c := .ne) (t := 44) (f := 40) (by decide +kernel) (by omega) (by omega) (fun (c37 : ¬ c = 20) => ?_) (fun (c37 : ¬ (¬ c = 20)) => ?_)
      · refine hs_k (x := Int32.ofNat 0) (p := 45) (by decide +kernel) ?_
        refine hs_k (x := Int32.ofNat 3) (p := 46) (by decide +kernel) ?_
        refine ht_callv (T := et_TT) (t := 13) (mi := 204) (na := 2) (ci := 11) (lk := 3) (lm := 3) (L0 := eg_en (eg_mL 204) [.ref am, .int (Int32.ofNat 0), .int (Int32.ofNat 3)]) (by decide +kernel) rfl hH k_am rfl rfl rfl rfl rfl (by rw [show eg_mL 204 = 3 from by decide +kernel]; first | done | rfl) ?_
        refine (fm_t0 hH k_am).mono (fun u hu => xp_cb hu ?_)
        show et_go none _ 220 49 _ [.int (Int32.ofNat 0)] _ _ _ _
        refine hs_if1 (c := .eq) (t := 56) (f := 52) (by decide +kernel) (show Int32.ofNat 0 = 0 by decide) ?_
        refine hs_aload (i := 0) (p := 57) (by decide +kernel) rfl ?_
        refine hs_iload (i := 1) (p := 58) (by decide +kernel) rfl ?_
        refine hs_aload (i := 0) (p := 59) (by decide +kernel) rfl ?_
        refine hs_iload (i := 2) (p := 60) (by decide +kernel) rfl ?_
        refine hs_iload (i := 1) (p := 61) (by decide +kernel) rfl ?_
        obtain ⟨n, hn, rfl⟩ : ∃ n, n < rc ∧ ru = Int32.ofNat n := ⟨ru.toInt.toNat, by omega, hi_of (by omega) (by omega)⟩
        refine ht_callv (T := et_TT) (t := 13) (mi := 213) (na := 2) (ci := 11) (lk := 3) (lm := 4) (L0 := eg_en (eg_mL 213) [.ref am, .int (Int32.ofNat n), .int x]) (by decide +kernel) rfl hH k_am rfl rfl rfl rfl rfl (by rw [show eg_mL 213 = 4 from by decide +kernel]; first | done | rfl) ?_
        refine ((er_c1 (K, [], _) [.ref am, .int (Int32.ofNat n), .int x] _ hH (by show 4 ≤ _; omega) rfl (ht_ac (.inr ⟨by decide, _, rfl, k_am⟩) (ht_ac (hi_nv (by omega) (by omega)) (ht_ac (hi_iv (by omega) (by omega)) ht_an)))).and (fm_ruled (F := fun _ => x) hH k_am k_aw m1 rfl (by omega) (hT n hn) (by omega))).mono (fun u hu => hs_cbvE hu (fun K61 G61 c61 s61 x61 f61 hH cl61 sl61 => ?_))
        obtain rfl : c61 = 0 := Nat.le_zero.mp cl61
        obtain rfl : s61 = 0 := Nat.le_zero.mp sl61
        have m1 := (f61.2 am 13 k_am 1 rfl).trans m1
        have w3 := (f61.2 aw 46 k_aw 3 rfl).trans w3
        have w0 := (f61.2 aw 46 k_aw 0 rfl).trans w0
        have e2 := (f61.2 am 13 k_am 0 rfl).trans e2
        have hF_ := hF_.fr hxm f61 (by decide +kernel) (by decide +kernel)
        have hxm := hxm.tr x61
        have k_am := x61 _ _ k_am
        have lt_am := (hH.2.2 _ _ k_am).1
        have k_aw := x61 _ _ k_aw
        have lt_aw := (hH.2.2 _ _ k_aw).1
        show et_go none _ 220 64 _ [.int (Int32.ofNat (if g n (feE (fun _ => x)) = true then 1 else 0)), .int x, .ref am] _ _ _ _
        refine ht_callv (T := et_TT) (t := 13) (mi := 219) (na := 2) (ci := 11) (lk := 3) (lm := 4) (L0 := eg_en (eg_mL 219) [.ref am, .int x, .int (Int32.ofNat (if g n (feE (fun _ => x)) = true then 1 else 0))]) (by decide +kernel) rfl hH k_am rfl rfl rfl rfl rfl (by rw [show eg_mL 219 = 4 from by decide +kernel]; first | done | rfl) ?_
        refine (fm_puts (x := x) (y := Int32.ofNat (if g n (feE (fun _ => x)) = true then 1 else 0)) hH k_am k_aw m1 w3 (by omega)).mono (fun u hu => xw_cb hu (fun G64 v64 hH x64 hP64 => ?_))
        have hF_ := hF_.xs hH00 hxm x64 (fun b j t kb hs ht => by first | (rcases hs with ⟨e, e2⟩ | ⟨e, e2⟩ <;> exact ⟨e, by omega⟩) | (obtain ⟨e, e2⟩ := hs; rw [e, k_am] at kb; cases kb; rcases ht with ht | ht <;> cases ht))
        have m1 := (x64.2 am 1 lt_am (fun h => Or.elim h (fun h => (hi_ne k_am k_aw (by decide)) h.1) (fun h => (hi_ne k_am k_aw (by decide)) h.1))).trans m1
        have w0 := (x64.2 aw 0 lt_aw (fun h => Or.elim h (fun h => absurd h.2 (by decide)) (fun h => by have h := h.2; omega))).trans w0
        have e2 := (x64.2 am 0 lt_am (fun h => Or.elim h (fun h => (hi_ne k_am k_aw (by decide)) h.1) (fun h => (hi_ne k_am k_aw (by decide)) h.1))).trans e2
        have lt_am := Nat.lt_of_lt_of_le lt_am x64.1
        have lt_aw := Nat.lt_of_lt_of_le lt_aw x64.1
        obtain ⟨rfl, p3, p5, p6⟩ := hP64
        show et_go none _ 220 67 _ [.int (Int32.ofNat c)] _ _ _ _
        refine hs_iret (by decide +kernel) ?_
        refine ⟨hF_, ?_⟩
        intro n2 e1 e2 _ _
        obtain rfl : n = n2 := (hs_neq (by omega) (by omega)).mp e1
        refine ⟨p5, (pl_eq p6 (by omega)).trans ?_⟩
        dsimp only
        by_cases hb : g n (feE (fun _ => x)) = true
        · rw [if_pos hb]
          rfl
        · rw [if_neg hb]
          rfl
      · refine hs_k (x := Int32.ofNat 1) (p := 41) (by decide +kernel) ?_
        refine hs_goto (p := 45) (by decide +kernel) ?_
        refine hs_k (x := Int32.ofNat 3) (p := 46) (by decide +kernel) ?_
        refine ht_callv (T := et_TT) (t := 13) (mi := 204) (na := 2) (ci := 11) (lk := 3) (lm := 3) (L0 := eg_en (eg_mL 204) [.ref am, .int (Int32.ofNat 1), .int (Int32.ofNat 3)]) (by decide +kernel) rfl hH k_am rfl rfl rfl rfl rfl (by rw [show eg_mL 204 = 3 from by decide +kernel]; first | done | rfl) ?_
        refine (fm_t1 hH k_am).mono (fun u hu => xw_cb hu (fun G46 v46 hH x46 hP46 => ?_))
        have hF_ := hF_.xs hH00 hxm x46 (fun b j t kb hs ht => by first | (rcases hs with ⟨e, e2⟩ | ⟨e, e2⟩ <;> exact ⟨e, by omega⟩) | (obtain ⟨e, e2⟩ := hs; rw [e, k_am] at kb; cases kb; rcases ht with ht | ht <;> cases ht))
        have hT := fun (k : Nat) (hk : k < rc) => (hT k hk).xs lt_aw x46 (fun j h => hi_ne k_aw k_am (by decide) h.1)
        have m1 := (x46.2 am 1 lt_am (fun h => absurd h.2 (by decide))).trans m1
        have w3 := (x46.2 aw 3 lt_aw (fun h => (hi_ne k_aw k_am (by decide)) h.1)).trans w3
        have w0 := (x46.2 aw 0 lt_aw (fun h => (hi_ne k_aw k_am (by decide)) h.1)).trans w0
        have lt_am := Nat.lt_of_lt_of_le lt_am x46.1
        have lt_aw := Nat.lt_of_lt_of_le lt_aw x46.1
        obtain ⟨rfl, th46⟩ := hP46
        show et_go none _ 220 49 _ [.int (Int32.ofNat 1)] _ _ _ _
        refine hs_if0 (c := .eq) (t := 56) (f := 52) (by decide +kernel) (show ¬ (Int32.ofNat 1 = 0) by decide) ?_
        refine hs_k (x := Int32.ofNat 0) (p := 53) (by decide +kernel) ?_
        refine hs_goto (p := 67) (by decide +kernel) ?_
        refine hs_iret (by decide +kernel) ?_
        exact ⟨hF_, fun _ _ _ _ h => absurd h (by omega)⟩
    · rw [if_neg xl]
      show et_go none _ 220 23 _ [.int (Int32.ofNat 1), .ref am] _ _ _ _
      refine hs_k (x := Int32.ofNat 2) (p := 24) (by decide +kernel) ?_
      refine ht_callv (T := et_TT) (t := 13) (mi := 204) (na := 2) (ci := 11) (lk := 3) (lm := 3) (L0 := eg_en (eg_mL 204) [.ref am, .int (Int32.ofNat 1), .int (Int32.ofNat 2)]) (by decide +kernel) rfl hH k_am rfl rfl rfl rfl rfl (by rw [show eg_mL 204 = 3 from by decide +kernel]; first | done | rfl) ?_
      refine (fm_t1 hH k_am).mono (fun u hu => xw_cb hu (fun G24 v24 hH x24 hP24 => ?_))
      have hF_ := hF_.xs hH00 hxm x24 (fun b j t kb hs ht => by first | (rcases hs with ⟨e, e2⟩ | ⟨e, e2⟩ <;> exact ⟨e, by omega⟩) | (obtain ⟨e, e2⟩ := hs; rw [e, k_am] at kb; cases kb; rcases ht with ht | ht <;> cases ht))
      have hT := fun (k : Nat) (hk : k < rc) => (hT k hk).xs lt_aw x24 (fun j h => hi_ne k_aw k_am (by decide) h.1)
      have m1 := (x24.2 am 1 lt_am (fun h => absurd h.2 (by decide))).trans m1
      have w3 := (x24.2 aw 3 lt_aw (fun h => (hi_ne k_aw k_am (by decide)) h.1)).trans w3
      have w0 := (x24.2 aw 0 lt_aw (fun h => (hi_ne k_aw k_am (by decide)) h.1)).trans w0
      have lt_am := Nat.lt_of_lt_of_le lt_am x24.1
      have lt_aw := Nat.lt_of_lt_of_le lt_aw x24.1
      obtain ⟨rfl, th24⟩ := hP24
      show et_go none _ 220 27 _ [.int (Int32.ofNat 1)] _ _ _ _
      refine hs_if1 (c := .ne) (t := 52) (f := 30) (by decide +kernel) (show ¬ Int32.ofNat 1 = 0 by decide) ?_
      refine hs_k (x := Int32.ofNat 0) (p := 53) (by decide +kernel) ?_
      refine hs_goto (p := 67) (by decide +kernel) ?_
      refine hs_iret (by decide +kernel) ?_
      exact ⟨hF_, fun _ _ _ h _ => absurd h xl⟩
  · rw [if_neg xu]
    show et_go none _ 220 11 _ [.int (Int32.ofNat 1), .ref am] _ _ _ _
    refine hs_k (x := Int32.ofNat 1) (p := 12) (by decide +kernel) ?_
    refine ht_callv (T := et_TT) (t := 13) (mi := 204) (na := 2) (ci := 11) (lk := 3) (lm := 3) (L0 := eg_en (eg_mL 204) [.ref am, .int (Int32.ofNat 1), .int (Int32.ofNat 1)]) (by decide +kernel) rfl hH k_am rfl rfl rfl rfl rfl (by rw [show eg_mL 204 = 3 from by decide +kernel]; first | done | rfl) ?_
    refine (fm_t1 hH k_am).mono (fun u hu => xw_cb hu (fun G12 v12 hH x12 hP12 => ?_))
    have hF_ := hF_.xs hH00 hxm x12 (fun b j t kb hs ht => by first | (rcases hs with ⟨e, e2⟩ | ⟨e, e2⟩ <;> exact ⟨e, by omega⟩) | (obtain ⟨e, e2⟩ := hs; rw [e, k_am] at kb; cases kb; rcases ht with ht | ht <;> cases ht))
    have hT := fun (k : Nat) (hk : k < rc) => (hT k hk).xs lt_aw x12 (fun j h => hi_ne k_aw k_am (by decide) h.1)
    have m1 := (x12.2 am 1 lt_am (fun h => absurd h.2 (by decide))).trans m1
    have w3 := (x12.2 aw 3 lt_aw (fun h => (hi_ne k_aw k_am (by decide)) h.1)).trans w3
    have w0 := (x12.2 aw 0 lt_aw (fun h => (hi_ne k_aw k_am (by decide)) h.1)).trans w0
    have lt_am := Nat.lt_of_lt_of_le lt_am x12.1
    have lt_aw := Nat.lt_of_lt_of_le lt_aw x12.1
    obtain ⟨rfl, th12⟩ := hP12
    show et_go none _ 220 15 _ [.int (Int32.ofNat 1)] _ _ _ _
    refine hs_if1 (c := .ne) (t := 52) (f := 18) (by decide +kernel) (show ¬ Int32.ofNat 1 = 0 by decide) ?_
    refine hs_k (x := Int32.ofNat 0) (p := 53) (by decide +kernel) ?_
    refine hs_goto (p := 67) (by decide +kernel) ?_
    refine hs_iret (by decide +kernel) ?_
    exact ⟨hF_, fun n e1 e2 _ _ => absurd (by rw [e1, hs_nint (by omega)]; omega) xu⟩
end TTA
end
section
/-! FUNCTIONAL: both sides' cards -/
section TUA
variable {K K' : et_K} {G G' : eg_G} {M : et_M} {S : Nat → Nat → Prop} {st la ya aw n t : Nat} {X : Nat → Int32} {Y : Nat → Nat}
/-- the class's cards -/
def ccP (G : eg_G) (st la ya n : Nat) (X : Nat → Int32) (Y : Nat → Nat) : Prop := (et_pl (eg_at G st) 3 = some (.ref la) ∧ et_pl (eg_at G st) 4 = some (.ref ya)) ∧ ∀ k, k < n → et_pl (eg_at G la) k = some (.int (X k)) ∧ et_pl (eg_at G ya) k = some (.int (Int32.ofNat (Y k))) ∧ Y k ≤ 1
/-- the reference's -/
def crP (G : eg_G) (aw n : Nat) (X : Nat → Int32) (Y : Nat → Nat) : Prop := ∀ k, k < n → et_pl (eg_at G aw) (5 + 2 * k) = some (.int (X k)) ∧ et_pl (eg_at G aw) (6 + 2 * k) = some (.int (Int32.ofNat (Y k))) ∧ Y k ≤ 1
def cc_k (M : et_M) : Bool := !et_mm M 10 3 && (!et_mm M 10 4 && (no_t M 17 && no_t M 27))
theorem ccP.fr (h : ccP G st la ya n X Y) (k_st : K st = some 10) (k_la : K la = some 17) (k_ya : K ya = some 27) (hf : et_fr M K G G') (hk : cc_k M = true) : ccP G' st la ya n X Y := by
  unfold cc_k at hk
  rw [Bool.and_eq_true, Bool.and_eq_true, Bool.and_eq_true] at hk
  obtain ⟨k1, k2, k3, k4⟩ := hk
  exact ⟨⟨(hf.2 st 10 k_st 3 (by simpa using k1)).trans h.1.1, (hf.2 st 10 k_st 4 (by simpa using k2)).trans h.1.2⟩, fun k hk => ⟨(hf.2 la 17 k_la k (no_mm k3)).trans (h.2 k hk).1, (hf.2 ya 27 k_ya k (no_mm k4)).trans (h.2 k hk).2.1, (h.2 k hk).2.2⟩⟩
theorem crP.fr (h : crP G aw n X Y) (hn : n ≤ 20) (ha : K aw = some t) (hf : et_fr M K G G') (hk : rg_k M t 5 44 = true) : crP G' aw n X Y := fun k hk2 => ⟨(hf.2 aw t ha _ (rg_mm hk (by omega) (by omega))).trans (h k hk2).1, (hf.2 aw t ha _ (rg_mm hk (by omega) (by omega))).trans (h k hk2).2.1, (h k hk2).2.2⟩
def cup {α : Type} (X : Nat → α) (c : Nat) (x : α) : Nat → α := fun k => if k = c then x else X k
theorem ccP.up {x : Int32} {y : Nat} (h : ccP G st la ya n X Y) (hy : y ≤ 1) (x3 : et_pl (eg_at G' st) 3 = some (.ref la)) (x4 : et_pl (eg_at G' st) 4 = some (.ref ya)) (hl : ∀ k, k < n → et_pl (eg_at G' la) k = et_pl (eg_at G la) k) (hm : ∀ k, k < n → et_pl (eg_at G' ya) k = et_pl (eg_at G ya) k) (l1 : et_pl (eg_at G' la) n = some (.int x)) (l2 : et_pl (eg_at G' ya) n = some (.int (Int32.ofNat y))) : ccP G' st la ya (n + 1) (cup X n x) (cup Y n y) := by
  refine ⟨⟨x3, x4⟩, fun k hk => ?_⟩
  unfold cup
  by_cases e : k = n
  · rw [if_pos e, if_pos e, e]
    exact ⟨l1, l2, hy⟩
  · rw [if_neg e, if_neg e]
    obtain ⟨h1, h2, h3⟩ := h.2 k (by omega)
    exact ⟨(hl k (by omega)).trans h1, (hm k (by omega)).trans h2, h3⟩
theorem crP.cu {x : Int32} {y : Nat} (h : crP G aw n X Y) : crP G aw n (cup X n x) (cup Y n y) := fun k hk => by
  unfold cup
  rw [if_neg (show ¬ k = n by omega), if_neg (show ¬ k = n by omega)]
  exact h k hk
theorem crP.up {x : Int32} {y : Nat} (h : crP G aw n (cup X n x) (cup Y n y)) (hy : y ≤ 1) (hl : ∀ k, k < n → et_pl (eg_at G' aw) (5 + 2 * k) = et_pl (eg_at G aw) (5 + 2 * k) ∧ et_pl (eg_at G' aw) (6 + 2 * k) = et_pl (eg_at G aw) (6 + 2 * k)) (l1 : et_pl (eg_at G' aw) (5 + 2 * n) = some (.int x)) (l2 : et_pl (eg_at G' aw) (6 + 2 * n) = some (.int (Int32.ofNat y))) : crP G' aw (n + 1) (cup X n x) (cup Y n y) := fun k hk => by
  by_cases e : k = n
  · unfold cup
    rw [if_pos e, if_pos e, e]
    exact ⟨l1, l2, hy⟩
  · obtain ⟨h1, h2, h3⟩ := h k (by omega)
    exact ⟨(hl k (by omega)).1.trans h1, (hl k (by omega)).2.trans h2, h3⟩
theorem ccP.le {m : Nat} (h : ccP G st la ya n X Y) (hm : m ≤ n) : ccP G st la ya m X Y := ⟨h.1, fun k hk => h.2 k (by omega)⟩
theorem crP.le {m : Nat} (h : crP G aw n X Y) (hm : m ≤ n) : crP G aw m X Y := fun k hk => h k (by omega)
/-- all of it -/
def cyK (K : et_K) (s0 s1 la0 ya0 la1 ya1 aw ai : Nat) : Prop := (K s0 = some 10 ∧ K s1 = some 10) ∧ (K la0 = some 17 ∧ K ya0 = some 27 ∧ K la1 = some 17 ∧ K ya1 = some 27) ∧ (K aw = some 46 ∧ K ai = some 47) ∧ ¬ la0 = la1 ∧ ¬ ya0 = ya1
theorem cyK.ex {s0 s1 la0 ya0 la1 ya1 aw ai : Nat} (h : cyK K s0 s1 la0 ya0 la1 ya1 aw ai) (hx : et_ex K K') : cyK K' s0 s1 la0 ya0 la1 ya1 aw ai := ⟨⟨hx _ _ h.1.1, hx _ _ h.1.2⟩, ⟨hx _ _ h.2.1.1, hx _ _ h.2.1.2.1, hx _ _ h.2.1.2.2.1, hx _ _ h.2.1.2.2.2⟩, ⟨hx _ _ h.2.2.1.1, hx _ _ h.2.2.1.2⟩, h.2.2.2⟩
def cy (K : et_K) (G : eg_G) (s0 s1 aw ai c i : Nat) : Prop := ∃ (la0 ya0 la1 ya1 : Nat) (X X' : Nat → Int32) (Y Y' : Nat → Nat), cyK K s0 s1 la0 ya0 la1 ya1 aw ai ∧ (c ≤ 20 ∧ i ≤ 20) ∧ (ccP G s0 la0 ya0 c X Y ∧ crP G aw c X Y) ∧ ccP G s1 la1 ya1 i X' Y' ∧ crP G ai i X' Y'
def cy_k (M : et_M) : Bool := cc_k M && (rg_k M 46 5 44 && rg_k M 47 5 44)
theorem cy.fr {s0 s1 ai c i : Nat} (h : cy K G s0 s1 aw ai c i) (hx : et_ex K K') (hf : et_fr M K G G') (hk : cy_k M = true) : cy K' G' s0 s1 aw ai c i := by
  unfold cy_k at hk
  rw [Bool.and_eq_true, Bool.and_eq_true] at hk
  obtain ⟨k1, k2, k3⟩ := hk
  obtain ⟨la0, ya0, la1, ya1, X, X', Y, Y', t, ⟨b1, b2⟩, ⟨h1, h2⟩, h3, h4⟩ := h
  exact ⟨la0, ya0, la1, ya1, X, X', Y, Y', t.ex hx, ⟨b1, b2⟩, ⟨h1.fr t.1.1 t.2.1.1 t.2.1.2.1 hf k1, h2.fr b1 t.2.2.1.1 hf k2⟩, h3.fr t.1.2 t.2.1.2.2.1 t.2.1.2.2.2 hf k1, h4.fr b2 t.2.2.1.2 hf k3⟩
theorem cy.le {s0 s1 ai c i m : Nat} (h : cy K G s0 s1 aw ai c i) (hm : m ≤ c) : cy K G s0 s1 aw ai m i := by
  obtain ⟨la0, ya0, la1, ya1, X, X', Y, Y', t, ⟨b1, b2⟩, ⟨h1, h2⟩, h3⟩ := h
  exact ⟨la0, ya0, la1, ya1, X, X', Y, Y', t, ⟨Nat.le_trans hm b1, b2⟩, ⟨h1.le hm, h2.le hm⟩, h3⟩
/-- what a call of the class may touch while c cards stay -/
def cyS (G : eg_G) (s0 c b j t : Nat) : Prop := (t = 10 → b = s0 ∧ j = 2) ∧ (t = 17 → et_pl (eg_at G s0) 3 = some (.ref b) ∧ j = c) ∧ (t = 27 → et_pl (eg_at G s0) 4 = some (.ref b) ∧ j = c) ∧ ¬ t = 46 ∧ ¬ t = 47
theorem cyS.r (t : Nat) {s0 c b j : Nat} (h : ¬ t = 10 ∧ ¬ t = 17 ∧ ¬ t = 27 ∧ ¬ t = 46 ∧ ¬ t = 47) : cyS G s0 c b j t := ⟨fun e => absurd e h.1, fun e => absurd e h.2.1, fun e => absurd e h.2.2.1, h.2.2.2⟩
/-- the class has a new card, the reference not yet -/
def cyA (K : et_K) (G : eg_G) (s0 s1 aw ai c i : Nat) (x : Int32) (y : Nat) : Prop := ∃ (la0 ya0 la1 ya1 : Nat) (X X' : Nat → Int32) (Y Y' : Nat → Nat), cyK K s0 s1 la0 ya0 la1 ya1 aw ai ∧ (c < 20 ∧ i ≤ 20 ∧ y ≤ 1) ∧ (ccP G s0 la0 ya0 (c + 1) (cup X c x) (cup Y c y) ∧ crP G aw c (cup X c x) (cup Y c y)) ∧ ccP G s1 la1 ya1 i X' Y' ∧ crP G ai i X' Y'
section TUB
variable {s0 s1 ai c i h la0 ya0 la1 ya1 : Nat} {X' : Nat → Int32} {Y' : Nat → Nat} {x : Int32} {y : Nat}
/-- all the class's places but the new card's -/
theorem cyS.all (t : cyK K s0 s1 la0 ya0 la1 ya1 aw ai) (hs : ¬ s0 = s1) (h1 : ccP G s0 la0 ya0 c X Y) (hH : et_H et_TT K G) (x : xf S G G') (hS : ∀ b j t, K b = some t → S b j → cyS G s0 c b j t) : (∀ j, ¬ j = 2 → et_pl (eg_at G' s0) j = et_pl (eg_at G s0) j) ∧ (∀ j, et_pl (eg_at G' s1) j = et_pl (eg_at G s1) j) ∧ (∀ j, ¬ j = c → et_pl (eg_at G' la0) j = et_pl (eg_at G la0) j ∧ et_pl (eg_at G' ya0) j = et_pl (eg_at G ya0) j) ∧ (∀ j, et_pl (eg_at G' la1) j = et_pl (eg_at G la1) j ∧ et_pl (eg_at G' ya1) j = et_pl (eg_at G ya1) j) ∧ ∀ j, et_pl (eg_at G' aw) j = et_pl (eg_at G aw) j ∧ et_pl (eg_at G' ai) j = et_pl (eg_at G ai) j := by
  have lt : ∀ a t, K a = some t → a < G.2 := fun a t ha => (hH.2.2 a t ha).1
  obtain ⟨⟨k0, k1⟩, ⟨k2, k3, k4, k5⟩, ⟨k6, k7⟩, n1, n2⟩ := t
  refine ⟨fun j hj => x.2 _ _ (lt _ _ k0) (fun e => hj ((hS _ _ _ k0 e).1 rfl).2), fun j => x.2 _ _ (lt _ _ k1) (fun e => hs ((hS _ _ _ k1 e).1 rfl).1.symm), fun j hj => ⟨x.2 _ _ (lt _ _ k2) (fun e => hj ((hS _ _ _ k2 e).2.1 rfl).2), x.2 _ _ (lt _ _ k3) (fun e => hj ((hS _ _ _ k3 e).2.2.1 rfl).2)⟩, fun j => ⟨x.2 _ _ (lt _ _ k4) (fun e => ?_), x.2 _ _ (lt _ _ k5) (fun e => ?_)⟩, fun j => ⟨x.2 _ _ (lt _ _ k6) (fun e => (hS _ _ _ k6 e).2.2.2.1 rfl), x.2 _ _ (lt _ _ k7) (fun e => (hS _ _ _ k7 e).2.2.2.2 rfl)⟩⟩
  · exact n1 (Value.ref.inj (Option.some.inj (h1.1.1.symm.trans ((hS _ _ _ k4 e).2.1 rfl).1)))
  · exact n2 (Value.ref.inj (Option.some.inj (h1.1.2.symm.trans ((hS _ _ _ k5 e).2.2.1 rfl).1)))
theorem ccP.mv (h : ccP G st la ya n X Y) (h3 : et_pl (eg_at G' st) 3 = et_pl (eg_at G st) 3) (h4 : et_pl (eg_at G' st) 4 = et_pl (eg_at G st) 4) (hl : ∀ k, k < n → et_pl (eg_at G' la) k = et_pl (eg_at G la) k ∧ et_pl (eg_at G' ya) k = et_pl (eg_at G ya) k) : ccP G' st la ya n X Y := ⟨⟨h3.trans h.1.1, h4.trans h.1.2⟩, fun k hk => ⟨(hl k hk).1.trans (h.2 k hk).1, (hl k hk).2.trans (h.2 k hk).2.1, (h.2 k hk).2.2⟩⟩
theorem crP.mv {G' : eg_G} {aw' : Nat} (h : crP G aw n X Y) (hl : ∀ k, k < n → et_pl (eg_at G' aw') (5 + 2 * k) = et_pl (eg_at G aw) (5 + 2 * k) ∧ et_pl (eg_at G' aw') (6 + 2 * k) = et_pl (eg_at G aw) (6 + 2 * k)) : crP G' aw' n X Y := fun k hk => ⟨(hl k hk).1.trans (h k hk).1, (hl k hk).2.trans (h k hk).2.1, (h k hk).2.2⟩
/-- the class refuses a card -/
theorem cy.c0 (hy : cy K G s0 s1 aw ai c i) (hs : ¬ s0 = s1) (hH : et_H et_TT K G) (hx : et_ex K K') (xx : xf S G G') (hS : ∀ b j t, K b = some t → S b j → cyS G s0 c b j t) : cy K' G' s0 s1 aw ai c i := by
  obtain ⟨la0, ya0, la1, ya1, X, X', Y, Y', t, b, ⟨h1, h2⟩, h3, h4⟩ := hy
  obtain ⟨a1, a2, a3, a4, a5⟩ := cyS.all t hs h1 hH xx hS
  exact ⟨la0, ya0, la1, ya1, X, X', Y, Y', t.ex hx, b, ⟨h1.mv (a1 3 (by decide)) (a1 4 (by decide)) (fun k hk => a3 k (by omega)), h2.mv (fun k hk => ⟨(a5 _).1, (a5 _).1⟩)⟩, h3.mv (a2 3) (a2 4) (fun k hk => a4 k), h4.mv (fun k hk => ⟨(a5 _).2, (a5 _).2⟩)⟩
/-- the class has a new one -/
theorem cy.c1 {la ya : Nat} (hy : cy K G s0 s1 aw ai c i) (hs : ¬ s0 = s1) (hH : et_H et_TT K G) (hx : et_ex K K') (xx : xf S G G') (hS : ∀ b j t, K b = some t → S b j → cyS G s0 c b j t) (hc : c < 20) (hy1 : y ≤ 1) (hla : et_pl (eg_at G s0) 3 = some (.ref la)) (hya : et_pl (eg_at G s0) 4 = some (.ref ya)) (l1 : et_pl (eg_at G' la) c = some (.int x)) (l2 : et_pl (eg_at G' ya) c = some (.int (Int32.ofNat y))) : cyA K' G' s0 s1 aw ai c i x y := by
  obtain ⟨la0, ya0, la1, ya1, X, X', Y, Y', t, b, ⟨h1, h2⟩, h3, h4⟩ := hy
  obtain ⟨a1, a2, a3, a4, a5⟩ := cyS.all t hs h1 hH xx hS
  obtain rfl : la = la0 := Value.ref.inj (Option.some.inj (hla.symm.trans h1.1.1))
  obtain rfl : ya = ya0 := Value.ref.inj (Option.some.inj (hya.symm.trans h1.1.2))
  exact ⟨la, ya, la1, ya1, X, X', Y, Y', t.ex hx, ⟨hc, b.2, hy1⟩, ⟨h1.up hy1 ((a1 3 (by decide)).trans h1.1.1) ((a1 4 (by decide)).trans h1.1.2) (fun k hk => (a3 k (by omega)).1) (fun k hk => (a3 k (by omega)).2) l1 l2, (h2.mv (fun k hk => ⟨(a5 _).1, (a5 _).1⟩)).cu⟩, h3.mv (a2 3) (a2 4) (fun k hk => a4 k), h4.mv (fun k hk => ⟨(a5 _).2, (a5 _).2⟩)⟩
/-- the reference's side: a function's frames -/
theorem cy.m0 (hy : cy K G s0 s1 aw ai c i) (hx : et_ex K K') (hf : et_fr M K G G') (hk : cc_k M = true) (hF : mdF K G aw c G') (hne : ¬ aw = ai) : cy K' G' s0 s1 aw ai c i := by
  obtain ⟨la0, ya0, la1, ya1, X, X', Y, Y', t, b, ⟨h1, h2⟩, h3, h4⟩ := hy
  exact ⟨la0, ya0, la1, ya1, X, X', Y, Y', t.ex hx, b, ⟨h1.fr t.1.1 t.2.1.1 t.2.1.2.1 hf hk, h2.mv (fun k hk2 => ⟨hF.2 _ _ (.inl t.2.2.1.1) (fun _ => by omega), hF.2 _ _ (.inl t.2.2.1.1) (fun _ => by omega)⟩)⟩, h3.fr t.1.2 t.2.1.2.2.1 t.2.1.2.2.2 hf hk, h4.mv (fun k hk2 => ⟨hF.2 _ _ (.inr t.2.2.1.2) (fun e => absurd e.symm hne), hF.2 _ _ (.inr t.2.2.1.2) (fun e => absurd e.symm hne)⟩)⟩
theorem cyA.m1 (hy : cyA K G s0 s1 aw ai c i x y) (hx : et_ex K K') (hf : et_fr M K G G') (hk : cc_k M = true) (hF : mdF K G aw c G') (hne : ¬ aw = ai) (l1 : et_pl (eg_at G' aw) (5 + 2 * c) = some (.int x)) (l2 : et_pl (eg_at G' aw) (6 + 2 * c) = some (.int (Int32.ofNat y))) : cy K' G' s0 s1 aw ai (c + 1) i := by
  obtain ⟨la0, ya0, la1, ya1, X, X', Y, Y', t, ⟨b1, b2, b3⟩, ⟨h1, h2⟩, h3, h4⟩ := hy
  exact ⟨la0, ya0, la1, ya1, _, X', _, Y', t.ex hx, ⟨by omega, b2⟩, ⟨h1.fr t.1.1 t.2.1.1 t.2.1.2.1 hf hk, h2.up b3 (fun k hk2 => ⟨hF.2 _ _ (.inl t.2.2.1.1) (fun _ => by omega), hF.2 _ _ (.inl t.2.2.1.1) (fun _ => by omega)⟩) l1 l2⟩, h3.fr t.1.2 t.2.1.2.2.1 t.2.1.2.2.2 hf hk, h4.mv (fun k hk2 => ⟨hF.2 _ _ (.inr t.2.2.1.2) (fun e => absurd e.symm hne), hF.2 _ _ (.inr t.2.2.1.2) (fun e => absurd e.symm hne)⟩)⟩
def cz_k (M : et_M) : Bool := !et_mm M 10 3 && (!et_mm M 10 4 && (rg_k M 46 5 44 && rg_k M 47 5 44))
/-- the image: the class, then the reference -/
def cyI (K : et_K) (G : eg_G) (s0 s1 aw ai c : Nat) : Prop := ∃ (la0 ya0 la1 ya1 : Nat) (X : Nat → Int32) (Y : Nat → Nat), cyK K s0 s1 la0 ya0 la1 ya1 aw ai ∧ c ≤ 20 ∧ (ccP G s0 la0 ya0 c X Y ∧ crP G aw c X Y) ∧ ccP G s1 la1 ya1 c X Y
theorem cy.im1 (hy : cy K G s0 s1 aw ai c i) (hx : et_ex K K') (hf : et_fr M K G G') (hk : cz_k M = true) (hR : ∀ la0 ya0 la1 ya1, cyK K s0 s1 la0 ya0 la1 ya1 aw ai → (et_pl (eg_at G s0) 3 = some (.ref la0) ∧ et_pl (eg_at G s0) 4 = some (.ref ya0) ∧ et_pl (eg_at G s1) 3 = some (.ref la1) ∧ et_pl (eg_at G s1) 4 = some (.ref ya1)) → ∀ j, j < 20 → (et_pl (eg_at G' la0) j = et_pl (eg_at G la0) j ∧ et_pl (eg_at G' ya0) j = et_pl (eg_at G ya0) j) ∧ (et_pl (eg_at G' la1) j = et_pl (eg_at G la0) j ∧ et_pl (eg_at G' ya1) j = et_pl (eg_at G ya0) j)) : cyI K' G' s0 s1 aw ai c := by
  unfold cz_k at hk
  rw [Bool.and_eq_true, Bool.and_eq_true, Bool.and_eq_true] at hk
  obtain ⟨k1, k2, k3, k4⟩ := hk
  obtain ⟨la0, ya0, la1, ya1, X, X', Y, Y', t, ⟨b1, b2⟩, ⟨h1, h2⟩, h3, h4⟩ := hy
  have hR := hR _ _ _ _ t ⟨h1.1.1, h1.1.2, h3.1.1, h3.1.2⟩
  have f3 : ∀ a, K a = some 10 → et_pl (eg_at G' a) 3 = et_pl (eg_at G a) 3 := fun a ha => hf.2 a 10 ha 3 (by simpa using k1)
  have f4 : ∀ a, K a = some 10 → et_pl (eg_at G' a) 4 = et_pl (eg_at G a) 4 := fun a ha => hf.2 a 10 ha 4 (by simpa using k2)
  exact ⟨la0, ya0, la1, ya1, X, Y, t.ex hx, b1, ⟨h1.mv (f3 _ t.1.1) (f4 _ t.1.1) (fun k hk => (hR k (by omega)).1), h2.fr b1 t.2.2.1.1 hf k3⟩, ⟨(f3 _ t.1.2).trans h3.1.1, (f4 _ t.1.2).trans h3.1.2⟩, fun k hk => ⟨(hR k (by omega)).2.1.trans (h1.2 k hk).1, (hR k (by omega)).2.2.trans (h1.2 k hk).2.1, (h1.2 k hk).2.2⟩⟩
theorem cyI.im2 (hy : cyI K G s0 s1 aw ai c) (hx : et_ex K K') (hf : et_fr M K G G') (hk : cc_k M = true) (hQ : ∀ k, k < 11900 → et_pl (eg_at G' aw) k = et_pl (eg_at G aw) k ∧ et_pl (eg_at G' ai) k = et_pl (eg_at G aw) k) : cy K' G' s0 s1 aw ai c c := by
  obtain ⟨la0, ya0, la1, ya1, X, Y, t, b1, ⟨h1, h2⟩, h3⟩ := hy
  exact ⟨la0, ya0, la1, ya1, X, X, Y, Y, t.ex hx, ⟨b1, b1⟩, ⟨h1.fr t.1.1 t.2.1.1 t.2.1.2.1 hf hk, h2.mv (fun k hk2 => ⟨(hQ _ (by omega)).1, (hQ _ (by omega)).1⟩)⟩, h3.fr t.1.2 t.2.1.2.2.1 t.2.1.2.2.2 hf hk, h2.mv (fun k hk2 => ⟨(hQ _ (by omega)).2, (hQ _ (by omega)).2⟩)⟩
/-- back: the class, then the reference -/
def cyB (K : et_K) (G : eg_G) (s0 s1 aw ai c i h : Nat) : Prop := ∃ (la0 ya0 la1 ya1 : Nat) (X X' : Nat → Int32) (Y Y' : Nat → Nat), cyK K s0 s1 la0 ya0 la1 ya1 aw ai ∧ (c ≤ 20 ∧ i ≤ 20) ∧ (ccP G s0 la0 ya0 (if h = 0 then c else i) X Y ∧ crP G (if h = 0 then aw else ai) (if h = 0 then c else i) X Y) ∧ ccP G s1 la1 ya1 i X' Y' ∧ crP G ai i X' Y'
theorem cy.bk1 (hy : cy K G s0 s1 aw ai c i) (hx : et_ex K K') (hf : et_fr M K G G') (hk : cz_k M = true) (hR : ∀ la0 ya0 la1 ya1, cyK K s0 s1 la0 ya0 la1 ya1 aw ai → (et_pl (eg_at G s0) 3 = some (.ref la0) ∧ et_pl (eg_at G s0) 4 = some (.ref ya0) ∧ et_pl (eg_at G s1) 3 = some (.ref la1) ∧ et_pl (eg_at G s1) 4 = some (.ref ya1)) → ∀ j, j < 20 → (et_pl (eg_at G' la0) j = (if h = 0 then et_pl (eg_at G la0) j else et_pl (eg_at G la1) j) ∧ et_pl (eg_at G' ya0) j = (if h = 0 then et_pl (eg_at G ya0) j else et_pl (eg_at G ya1) j)) ∧ (et_pl (eg_at G' la1) j = et_pl (eg_at G la1) j ∧ et_pl (eg_at G' ya1) j = et_pl (eg_at G ya1) j)) : cyB K' G' s0 s1 aw ai c i h := by
  unfold cz_k at hk
  rw [Bool.and_eq_true, Bool.and_eq_true, Bool.and_eq_true] at hk
  obtain ⟨k1, k2, k3, k4⟩ := hk
  obtain ⟨la0, ya0, la1, ya1, X, X', Y, Y', t, ⟨b1, b2⟩, ⟨h1, h2⟩, h3, h4⟩ := hy
  have hR := hR _ _ _ _ t ⟨h1.1.1, h1.1.2, h3.1.1, h3.1.2⟩
  have f3 : ∀ a, K a = some 10 → et_pl (eg_at G' a) 3 = et_pl (eg_at G a) 3 := fun a ha => hf.2 a 10 ha 3 (by simpa using k1)
  have f4 : ∀ a, K a = some 10 → et_pl (eg_at G' a) 4 = et_pl (eg_at G a) 4 := fun a ha => hf.2 a 10 ha 4 (by simpa using k2)
  have g3 := h3.mv (f3 _ t.1.2) (f4 _ t.1.2) (fun k hk => (hR k (by omega)).2)
  have g4 := h4.fr b2 t.2.2.1.2 hf k4
  by_cases h0 : h = 0
  · subst h0
    refine ⟨la0, ya0, la1, ya1, X, X', Y, Y', t.ex hx, ⟨b1, b2⟩, ?_, g3, g4⟩
    rw [if_pos rfl, if_pos rfl]
    exact ⟨h1.mv (f3 _ t.1.1) (f4 _ t.1.1) (fun k hk => by have h9 := (hR k (by omega)).1; rw [if_pos rfl, if_pos rfl] at h9; exact h9), h2.fr b1 t.2.2.1.1 hf k3⟩
  · refine ⟨la0, ya0, la1, ya1, X', X', Y', Y', t.ex hx, ⟨b1, b2⟩, ?_, g3, g4⟩
    rw [if_neg h0, if_neg h0]
    refine ⟨⟨⟨(f3 _ t.1.1).trans h1.1.1, (f4 _ t.1.1).trans h1.1.2⟩, fun k hk => ?_⟩, g4⟩
    have h9 := (hR k (by omega)).1
    rw [if_neg h0, if_neg h0] at h9
    exact ⟨h9.1.trans (h3.2 k hk).1, h9.2.trans (h3.2 k hk).2.1, (h3.2 k hk).2.2⟩
theorem cyB.bk2 (hy : cyB K G s0 s1 aw ai c i h) (hx : et_ex K K') (hf : et_fr M K G G') (hk : cc_k M = true) (hQ : ∀ k, k < 11900 → et_pl (eg_at G' aw) k = (if h = 0 then et_pl (eg_at G aw) k else et_pl (eg_at G ai) k) ∧ et_pl (eg_at G' ai) k = et_pl (eg_at G ai) k) : cy K' G' s0 s1 aw ai (if h = 0 then c else i) i := by
  obtain ⟨la0, ya0, la1, ya1, X, X', Y, Y', t, ⟨b1, b2⟩, ⟨h1, h2⟩, h3, h4⟩ := hy
  have hb : (if h = 0 then c else i) ≤ 20 := by split <;> omega
  refine ⟨la0, ya0, la1, ya1, X, X', Y, Y', t.ex hx, ⟨hb, b2⟩, ⟨h1.fr t.1.1 t.2.1.1 t.2.1.2.1 hf hk, h2.mv (fun k hk2 => ?_)⟩, h3.fr t.1.2 t.2.1.2.2.1 t.2.1.2.2.2 hf hk, h4.mv (fun k hk2 => ⟨(hQ _ (by omega)).2, (hQ _ (by omega)).2⟩)⟩
  by_cases h0 : h = 0
  · rw [if_pos h0]
    exact ⟨by rw [(hQ _ (by omega)).1, if_pos h0], by rw [(hQ _ (by omega)).1, if_pos h0]⟩
  · rw [if_neg h0]
    exact ⟨by rw [(hQ _ (by omega)).1, if_neg h0], by rw [(hQ _ (by omega)).1, if_neg h0]⟩
theorem cy.init (k0 : K s0 = some 10) (k1 : K s1 = some 10) (kc : K la0 = some 17 ∧ K ya0 = some 27 ∧ K la1 = some 17 ∧ K ya1 = some 27) (ka : K aw = some 46) (ki : K ai = some 47) (nl : ¬ la0 = la1) (ny : ¬ ya0 = ya1) (m03 : et_pl (eg_at G s0) 3 = some (.ref la0)) (m04 : et_pl (eg_at G s0) 4 = some (.ref ya0)) (m13 : et_pl (eg_at G s1) 3 = some (.ref la1)) (m14 : et_pl (eg_at G s1) 4 = some (.ref ya1)) : cy K G s0 s1 aw ai 0 0 := ⟨la0, ya0, la1, ya1, fun _ => 0, fun _ => 0, fun _ => 0, fun _ => 0, ⟨⟨k0, k1⟩, kc, ⟨ka, ki⟩, nl, ny⟩, ⟨by decide, by decide⟩, ⟨⟨⟨m03, m04⟩, fun k hk => absurd hk (Nat.not_lt_zero k)⟩, fun k hk => absurd hk (Nat.not_lt_zero k)⟩, ⟨⟨m13, m14⟩, fun k hk => absurd hk (Nat.not_lt_zero k)⟩, fun k hk => absurd hk (Nat.not_lt_zero k)⟩
end TUB
end TUA
end
