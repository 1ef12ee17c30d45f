/-! what the reference knows of its RULES -/
theorem dnB_u {pl : Nat} {f g : sp_E → Bool} {C : List (Nat × Nat)} (h : dnB pl f C) (k : dnB pl g C) : f = g := by
  funext E
  have e := (List.cons.inj ((h E []).symm.trans (k E []))).1
  cases hf : f E <;> cases hg : g E <;> rw [hf, hg] at e <;> first | rfl | exact absurd e (by decide)
theorem txP.u {G : eg_G} {aw X pl : Nat} {f g : sp_E → Bool} (h : txP G aw X pl f) (k : txP G aw X pl g) : f = g := by
  obtain ⟨C, hl, -, -, c4, hC, hd⟩ := h
  obtain ⟨C', hl', -, -, c4', hC', hd'⟩ := k
  have e1 : C.length = C'.length := (hs_neq (by omega) (by omega)).mp (Value.int.inj (Option.some.inj (c4.symm.trans c4')))
  have e2 : C = C' := by
    apply List.ext_getElem e1
    intro j h1 h2
    obtain ⟨a1, a2, a3⟩ := hC j _ (List.getElem?_eq_getElem h1)
    obtain ⟨b1, b2, b3⟩ := hC' j _ (List.getElem?_eq_getElem h2)
    have q1 := (hs_neq (by omega) (by omega)).mp (Value.int.inj (Option.some.inj (a1.symm.trans b1)))
    have q2 := (hs_neq (by omega) (by omega)).mp (Value.int.inj (Option.some.inj (a2.symm.trans b2)))
    exact Prod.ext q1 q2
  subst e2
  exact dnB_u hd hd'
theorem txP.co {G G' : eg_G} {aw X pl : Nat} {f : sp_E → Bool} (h : txP G' aw X pl f) (g : ∀ i, i < 841 → et_pl (eg_at G' aw) (X + i) = et_pl (eg_at G aw) (X + i)) : txP G aw X pl f := h.mp (fun i hi => (g i hi).symm)
/-- the table of a RULE is right -/
def knP (G : eg_G) (aw kw r : Nat) : Prop := ∃ b : Nat → Int64, (∀ i, i < 1024 → et_pl (eg_at G kw) (1024 * r + i) = some (.long (b i))) ∧ ∀ f : sp_E → Bool, txP G aw (126 + 841 * r) 0 f → fcl f → ∀ (m : Nat) (F : Nat → Int32), m < 65536 → F 0 = Int32.ofNat m → btL (b (m / 64)) m = f (feE F)
def kyA (G : eg_G) (am aw n : Nat) : Prop := ∃ ik kw : Nat, (et_pl (eg_at G am) 18 = some (.ref ik) ∧ et_pl (eg_at G am) 19 = some (.ref kw)) ∧ ∀ r, r < n → r < 4 → et_pl (eg_at G ik) r = some (.int (Int32.ofNat 0)) ∨ knP G aw kw r
theorem knP.co {G G' : eg_G} {aw kw r : Nat} (h : knP G aw kw r) (gk : ∀ j, et_pl (eg_at G' kw) j = et_pl (eg_at G kw) j) (gw : ∀ i, i < 841 → et_pl (eg_at G' aw) (126 + 841 * r + i) = et_pl (eg_at G aw) (126 + 841 * r + i)) : knP G' aw kw r := by
  obtain ⟨b, h1, h2⟩ := h
  exact ⟨b, fun i hi => (gk _).trans (h1 i hi), fun f hf hc => h2 f (hf.co gw) hc⟩
/-- from state to state -/
theorem kyA.to {K : et_K} {G G' : eg_G} {am aw n n' : Nat} (h : kyA G am aw n) (hH : et_H et_TT K G) (k_am : K am = some 13) (g18 : et_pl (eg_at G' am) 18 = et_pl (eg_at G am) 18) (g19 : et_pl (eg_at G' am) 19 = et_pl (eg_at G am) 19) (gi : ∀ a, K a = some 25 → et_pl (eg_at G am) 18 = some (.ref a) → ∀ r, r < n' → r < 4 → et_pl (eg_at G' a) r = some (.int (Int32.ofNat 0)) ∨ (r < n ∧ et_pl (eg_at G' a) r = et_pl (eg_at G a) r)) (gk : ∀ a, K a = some 30 → ∀ j, et_pl (eg_at G' a) j = et_pl (eg_at G a) j) (gw : ∀ r, r < n → r < 4 → ∀ i, i < 841 → et_pl (eg_at G' aw) (126 + 841 * r + i) = et_pl (eg_at G aw) (126 + 841 * r + i)) : kyA G' am aw n' := by
  obtain ⟨ik, kw, ⟨h3, h4⟩, h5⟩ := h
  obtain ⟨ik', e1, h1⟩ := hf_ref (t := 13) (f := 18) (u := 25) hH k_am rfl rfl (.inr trivial)
  obtain ⟨kw', e2, h2⟩ := hf_ref (t := 13) (f := 19) (u := 30) hH k_am rfl rfl (.inr trivial)
  obtain rfl : ik' = ik := Value.ref.inj (Option.some.inj (e1.symm.trans h3))
  obtain rfl : kw' = kw := Value.ref.inj (Option.some.inj (e2.symm.trans h4))
  refine ⟨ik', kw', ⟨g18.trans h3, g19.trans h4⟩, fun r hr hr4 => ?_⟩
  rcases gi ik' h1 h3 r hr hr4 with e | ⟨hn, e⟩
  · exact .inl e
  · rcases h5 r hn hr4 with q | q
    · exact .inl (e.trans q)
    · exact .inr (q.co (gk kw' h2) (gw r hn hr4))
def ky_k (M : et_M) : Bool := no_t M 25 && (no_t M 30 && (!et_mm M 13 18 && (!et_mm M 13 19 && rg_k M 46 126 3489)))
theorem kyA.fr {K : et_K} {G G' : eg_G} {M : et_M} {am aw n : Nat} (h : kyA G am aw n) (hH : et_H et_TT K G) (k_am : K am = some 13) (k_aw : K aw = some 46) (hf : et_fr M K G G') (hk : ky_k M = true) : kyA G' am aw n := by
  unfold ky_k at hk
  rw [Bool.and_eq_true, Bool.and_eq_true, Bool.and_eq_true, Bool.and_eq_true] at hk
  obtain ⟨k1, k2, k3, k4, k5⟩ := hk
  exact h.to hH k_am (hf.2 am 13 k_am 18 (by simpa using k3)) (hf.2 am 13 k_am 19 (by simpa using k4)) (fun a ka _ r hr _ => .inr ⟨hr, hf.2 a 25 ka r (no_mm k1)⟩) (fun a ka j => hf.2 a 30 ka j (no_mm k2)) (fun r _ hr4 i hi => hf.2 aw 46 k_aw _ (rg_mm k5 (by omega) (by omega)))
/-- what may be touched -/
def kyq (t j : Nat) : Prop := ¬ t = 25 ∧ ¬ t = 30 ∧ (t = 13 → ¬ j = 18 ∧ ¬ j = 19) ∧ (t = 46 → j < 126 ∨ 3490 ≤ j)
theorem kyA.xs {K : et_K} {G G' : eg_G} {S : Nat → Nat → Prop} {am aw n : Nat} (h : kyA G am aw n) (hH : et_H et_TT K G) (k_am : K am = some 13) (k_aw : K aw = some 46) (x : xf S G G') (hS : ∀ b j t, K b = some t → S b j → kyq t j) : kyA G' am aw n := by
  have lt : ∀ a t, K a = some t → a < G.2 := fun a t ha => (hH.2.2 a t ha).1
  exact h.to hH k_am (x.2 am 18 (lt _ _ k_am) (fun hs => ((hS _ _ _ k_am hs).2.2.1 rfl).1 rfl)) (x.2 am 19 (lt _ _ k_am) (fun hs => ((hS _ _ _ k_am hs).2.2.1 rfl).2 rfl)) (fun a ka _ r hr _ => .inr ⟨hr, x.2 a r (lt _ _ ka) (fun hs => (hS _ _ _ ka hs).1 rfl)⟩) (fun a ka j => x.2 a j (lt _ _ ka) (fun hs => (hS _ _ _ ka hs).2.1 rfl)) (fun r _ hr4 i hi => x.2 aw _ (lt _ _ k_aw) (fun hs => by
    have h9 := (hS _ _ _ k_aw hs).2.2.2 rfl
    omega))
theorem ik_ex {K : et_K} {G : eg_G} {ik r : Nat} (hH : et_H et_TT K G) (k : K ik = some 25) (hr : r < 4) : ∃ y : Nat, y ≤ 1 ∧ et_pl (eg_at G ik) r = some (.int (Int32.ofNat y)) := by
  obtain ⟨f, e, hs, -⟩ := hi_arr (kd := 3) (n := 4) hH k rfl (by decide) (.inr (.inr (.inl rfl)))
  have h2 := hs _ List.mem_cons_self r (Nat.zero_le _) (show r ≤ 3 by omega) hr
  obtain ⟨y, hy, e2⟩ := hi_natW h2
  refine ⟨y, by omega, ?_⟩
  rw [e, hf_pl (.inr (.inr (.inl rfl))), if_pos hr, e2]
theorem kn_at : ∀ r ∈ List.range 4, Int32.ofNat (r * 65536) / Int32.ofNat 64 = Int32.ofNat (1024 * r) := by decide +kernel
theorem kn_dv {m : Nat} (hm : m < 65536) : Int32.ofNat m / Int32.ofNat 64 = Int32.ofNat (m / 64) := by
  apply Int32.toInt_inj.mp
  rw [Int32.toInt_div, hs_nint (by omega), hs_nint (by decide), hs_nint (by omega), Int.tdiv_eq_ediv_of_nonneg (by omega)]
  rw [et_bm (by unfold et_mn; omega) (by unfold et_mx; omega)]
  omega
theorem kn_rm {m : Nat} (hm : m < 65536) : Int32.ofNat m - Int32.ofNat m / Int32.ofNat 64 * Int32.ofNat 64 = Int32.ofNat (m % 64) := by
  rw [kn_dv hm]
  have e1 : (Int32.ofNat (m / 64) * Int32.ofNat 64).toInt = ((m / 64 * 64 : Nat) : Int) := by
    rw [et_mul _ _ (by rw [hs_nint (by omega), hs_nint (by decide)]; unfold et_mn; omega) (by rw [hs_nint (by omega), hs_nint (by decide)]; unfold et_mx; omega), hs_nint (by omega), hs_nint (by decide)]
    omega
  apply Int32.toInt_inj.mp
  rw [et_sub _ _ (by rw [e1, hs_nint (by omega)]; unfold et_mn; omega) (by rw [e1, hs_nint (by omega)]; unfold et_mx; omega), e1, hs_nint (by omega), hs_nint (by omega)]
  omega
theorem shI_e {m : Nat} : ((Int32.ofNat (m % 64)).toInt64 &&& 63) = shI m := by
  unfold shI
  rw [sh_and]
theorem one_bitL {t : Int64} : t &&& Int64.ofNat 1 = Int64.ofNat 0 ∨ t &&& Int64.ofNat 1 = Int64.ofNat 1 := by
  rw [← Int64.toBitVec_inj, ← Int64.toBitVec_inj]
  show (t.toBitVec &&& 1#64 = 0#64) ∨ (t.toBitVec &&& 1#64 = 1#64)
  rw [BitVec.and_one_eq_setWidth_ofBool_getLsbD]
  cases t.toBitVec.getLsbD 0 <;> decide
theorem kn_bt {x : Int64} {m : Nat} (h : ((x >>> ((Int32.ofNat (m % 64)).toInt64 &&& 63)) &&& (Int64.ofNat 1)) = Int64.ofNat 1) : btL x m = true := by
  rw [shI_e] at h
  exact decide_eq_true (fun h2 => by
    rw [h] at h2
    exact absurd h2 (by decide))
theorem kn_bf {x : Int64} {m : Nat} (h : ¬ ((x >>> ((Int32.ofNat (m % 64)).toInt64 &&& 63)) &&& (Int64.ofNat 1)) = Int64.ofNat 1) : btL x m = false := by
  rw [shI_e] at h
  rcases one_bitL (t := x >>> shI m) with h2 | h2
  · exact decide_eq_false (fun h3 => h3 h2)
  · exact absurd h2 h
/-- behind knows nothing else is touched -/
def knF (G0 G : eg_G) (am aw ik kw r : Nat) : Prop := (et_pl (eg_at G am) 18 = some (.ref ik) ∧ et_pl (eg_at G am) 19 = some (.ref kw)) ∧ (∀ j, ¬ j = r → et_pl (eg_at G ik) j = et_pl (eg_at G0 ik) j) ∧ (∀ j, (j < 1024 * r ∨ 1024 * r + 1024 ≤ j) → et_pl (eg_at G kw) j = et_pl (eg_at G0 kw) j) ∧ ∀ j, et_pl (eg_at G aw) j = et_pl (eg_at G0 aw) j
/-- .. and the table of RULE r says what its text says -/
def knR (G0 G : eg_G) (am aw ik kw r : Nat) (f : sp_E → Bool) : Prop := (∃ b : Nat → Int64, (∀ i, i < 1024 → et_pl (eg_at G kw) (1024 * r + i) = some (.long (b i))) ∧ ∀ (m : Nat) (F : Nat → Int32), m < 65536 → F 0 = Int32.ofNat m → btL (b (m / 64)) m = f (feE F)) ∧ et_pl (eg_at G ik) r = some (.int (Int32.ofNat 1)) ∧ knF G0 G am aw ik kw r
theorem knF.ky {G0 G : eg_G} {am aw ik kw r n : Nat} (h : knF G0 G am aw ik kw r) (hk : kyA G0 am aw n) (m18 : et_pl (eg_at G0 am) 18 = some (.ref ik)) (m19 : et_pl (eg_at G0 am) 19 = some (.ref kw)) (hr : r < n → knP G aw kw r) : kyA G am aw n := by
  obtain ⟨⟨g18, g19⟩, h2, h3, h4⟩ := h
  obtain ⟨ik', kw', ⟨q1, q2⟩, q3⟩ := hk
  obtain rfl : ik' = ik := Value.ref.inj (Option.some.inj (q1.symm.trans m18))
  obtain rfl : kw' = kw := Value.ref.inj (Option.some.inj (q2.symm.trans m19))
  refine ⟨ik', kw', ⟨g18, g19⟩, fun s hs hs4 => ?_⟩
  by_cases e : s = r
  · subst e
    exact .inr (hr hs)
  · rcases q3 s hs hs4 with q | ⟨b', c1, c2⟩
    · exact .inl ((h2 s e).trans q)
    · exact .inr ⟨b', fun i hi => (h3 _ (by omega)).trans (c1 i hi), fun g hg hc => c2 g (hg.co (fun i _ => h4 _)) hc⟩
theorem knR.ky {G0 G : eg_G} {am aw ik kw r n : Nat} {f : sp_E → Bool} (h : knR G0 G am aw ik kw r f) (hT : txP G0 aw (126 + 841 * r) 0 f) (hk : kyA G0 am aw n) (m18 : et_pl (eg_at G0 am) 18 = some (.ref ik)) (m19 : et_pl (eg_at G0 am) 19 = some (.ref kw)) : kyA G am aw n := by
  obtain ⟨⟨b, b1, b2⟩, h1, h2⟩ := h
  refine h2.ky hk m18 m19 (fun _ => ⟨b, b1, fun g hg _ m F hm hF => ?_⟩)
  have e9 : f = g := hT.u (hg.co (fun i _ => h2.2.2.2 _))
  rw [← e9]
  exact b2 m F hm hF
section YIA
variable {K : et_K} {G G0 : eg_G} {d d2 am aw ik kw r m k : Nat} {f : sp_E → Bool} {b : Nat → Int64}
theorem fm_isR (hH : et_H et_TT K G) (k_am : K am = some 13) (k_kw : K kw = some 30) (m19 : et_pl (eg_at G am) 19 = some (.ref kw)) (hr : r < 4) (hm : m < 65536) (hb : ∀ i, i < 1024 → et_pl (eg_at G kw) (1024 * r + i) = some (.long (b i))) : et_go none d2 269 0 (eg_en (eg_mL 269) [.ref am, .int (Int32.ofNat r), .int (Int32.ofNat m)]) [] G 0 0 (xp_Z G (some (.int (Int32.ofNat (if btL (b (m / 64)) m = true then 1 else 0))))) := by
  rw [show eg_mL 269 = 3 from by decide +kernel]
  show et_go none d2 269 0 [some (.ref am), some (.int (Int32.ofNat r)), some (.int (Int32.ofNat m))] [] G 0 0 _
  have lt_am := (hH.2.2 _ _ k_am).1
  have lt_kw := (hH.2.2 _ _ k_kw).1
  refine hs_aload (i := 0) (p := 1) (by decide +kernel) rfl ?_
  refine hf_get (T := et_TT) (t := 13) (ci := 11) (f := 19) (p := 4) (by decide +kernel) rfl hH k_am m19 ?_
  refine hs_iload (i := 1) (p := 5) (by decide +kernel) rfl ?_
  refine hs_kld (v := Value.int (Int32.ofNat 65536)) (p := 7) (by decide +kernel) ?_
  refine hs_imuln (p := 8) (by decide +kernel) ?_
  refine hs_k (x := Int32.ofNat 64) (p := 10) (by decide +kernel) ?_
  refine hs_idiv (p := 11) (by decide +kernel) (by decide) ?_
  rw [kn_at r (List.mem_range.mpr hr)]
  refine hs_iload (i := 2) (p := 12) (by decide +kernel) rfl ?_
  refine hs_k (x := Int32.ofNat 64) (p := 14) (by decide +kernel) ?_
  refine hs_idiv (p := 15) (by decide +kernel) (by decide) ?_
  rw [kn_dv (m := m) (by omega)]
  refine hs_iaddn (p := 16) (by decide +kernel) ?_
  refine hf_ald (ins := .laload) (T := et_TT) (t := 30) (kd := 2) (N := 4096) (p := 17) (by decide +kernel) (fun _ _ _ _ _ _ _ _ _ _ => rfl) rfl rfl rfl hH k_kw (by decide) (hb _ (by omega)) ?_
  refine hs_iload (i := 2) (p := 18) (by decide +kernel) rfl ?_
  refine hs_k (x := Int32.ofNat 64) (p := 20) (by decide +kernel) ?_
  refine hs_irem (p := 21) (by decide +kernel) (by decide) ?_
  rw [kn_rm (m := m) (by omega)]
  refine hs_st (ins := .lshr) (len := 1) (p := 22) (by decide +kernel) rfl rfl ?_
  refine hs_lcon (x := Int64.ofNat 1) (p := 23) (by decide +kernel) ?_
  refine hs_st (ins := .land) (len := 1) (p := 24) (by decide +kernel) rfl rfl ?_
  refine hs_lcon (x := Int64.ofNat 1) (p := 25) (by decide +kernel) ?_
  refine hs_lcmp (p := 26) (by decide +kernel) ?_
  refine hs_br1 (c := .ne) (t := 33) (f := 29) (by decide +kernel) (fun (c26 : ¬ (lg_cmp (((b (m / 64)) >>> ((Int32.ofNat (m % 64)).toInt64 &&& 63)) &&& (Int64.ofNat 1)) (Int64.ofNat 1)) = 0) => ?_) (fun (c26 : ¬ (¬ (lg_cmp (((b (m / 64)) >>> ((Int32.ofNat (m % 64)).toInt64 &&& 63)) &&& (Int64.ofNat 1)) (Int64.ofNat 1)) = 0)) => ?_)
  · refine hs_k (x := Int32.ofNat 0) (p := 34) (by decide +kernel) ?_
    refine hs_zret (by decide +kernel) (.inl rfl) ?_
    rw [if_neg (by rw [kn_bf (fun h => c26 (lgc_eq.mpr h))]; decide)]
    rfl
  · refine hs_k (x := Int32.ofNat 1) (p := 30) (by decide +kernel) ?_
    refine hs_goto (p := 34) (by decide +kernel) ?_
    refine hs_zret (by decide +kernel) (.inr rfl) ?_
    rw [if_pos (kn_bt (lgc_eq.mp (Decidable.of_not_not c26)))]
    rfl
theorem kw_ex {kw j : Nat} (hH : et_H et_TT K G) (k : K kw = some 30) (hj : j < 4096) : ∃ y : Int64, et_pl (eg_at G kw) j = some (.long y) := by
  obtain ⟨f, e⟩ := hi_arrL (n := 4096) hH k rfl (by decide)
  refine ⟨f j, ?_⟩
  rw [e]
  show (if j < 4096 then some (Value.long (f j)) else none) = _
  rw [if_pos hj]
theorem kn_L2 (hH : et_H et_TT K G) (k_am : K am = some 13) (k_aw : K aw = some 46) (k_ik : K ik = some 25) (k_kw : K kw = some 30) (m1 : et_pl (eg_at G am) 1 = some (.ref aw)) (m18 : et_pl (eg_at G am) 18 = some (.ref ik)) (m19 : et_pl (eg_at G am) 19 = some (.ref kw)) (hr : r < 4) (hT0 : txP G0 aw (126 + 841 * r) 0 f) (hcl : fcl f) (hw9 : ∀ j, et_pl (eg_at G aw) j = et_pl (eg_at G0 aw) j) (hi9 : ∀ j, ¬ j = r → et_pl (eg_at G ik) j = et_pl (eg_at G0 ik) j) (hk9 : ∀ j, (j < 1024 * r ∨ 1024 * r + 1024 ≤ j) → et_pl (eg_at G kw) j = et_pl (eg_at G0 kw) j) (hik : et_pl (eg_at G ik) r = some (.int (Int32.ofNat 1))) (hb : ∀ i, i < 1024 → et_pl (eg_at G kw) (1024 * r + i) = some (.long (b i))) (hbi : ∀ k, k < 65536 → btL (b (k / 64)) k = (decide (k < m) && f (feE (fun _ => Int32.ofNat k)))) (hm : m ≤ 65536) : et_go none (d + 5) 266 51 [some (.ref am), some (.int (Int32.ofNat r)), some (.int (Int32.ofNat (1024 * r))), some (.int (Int32.ofNat m))] [] G 0 0 (fun u => u.1 = .inl none ∧ knR G0 u.2.1 am aw ik kw r f) := by
  induction hq9 : 65536 - m using Nat.strongRecOn generalizing m b K G with
  | _ q9 ih =>
    have lt_am := (hH.2.2 _ _ k_am).1
    have lt_aw := (hH.2.2 _ _ k_aw).1
    have lt_ik := (hH.2.2 _ _ k_ik).1
    have lt_kw := (hH.2.2 _ _ k_kw).1
    refine hs_iload (i := 3) (p := 52) (by decide +kernel) rfl ?_
    refine hs_kld (v := Value.int (Int32.ofNat 65536)) (p := 54) (by decide +kernel) ?_
    refine hs_br2n (c := .ge) (t := 92) (f := 57) (by decide +kernel) (by omega) (by omega) (fun (c54 : 65536 ≤ m) => ?_) (fun (c54 : ¬ (65536 ≤ m)) => ?_)
    · refine hs_vret (by decide +kernel) ?_
      obtain rfl : m = 65536 := by omega
      exact ⟨rfl, ⟨b, hb, fun m F hm hF => by rw [hbi m hm, decide_eq_true hm, Bool.true_and]; exact hcl _ _ hF.symm⟩, hik, ⟨m18, m19⟩, hi9, hk9, hw9⟩
    · refine hs_aload (i := 0) (p := 58) (by decide +kernel) rfl ?_
      refine hs_iload (i := 1) (p := 59) (by decide +kernel) rfl ?_
      refine hs_iload (i := 3) (p := 60) (by decide +kernel) rfl ?_
      refine ht_callv (T := et_TT) (t := 13) (mi := 213) (na := 2) (ci := 11) (lk := 4) (lm := 4) (L0 := eg_en (eg_mL 213) [.ref am, .int (Int32.ofNat r), .int (Int32.ofNat m)]) (by decide +kernel) rfl hH k_am rfl rfl rfl rfl rfl (by rw [show eg_mL 213 = 4 from by decide +kernel]; first | done | rfl) ?_
      refine ((er_c1 (K, [], G) [.ref am, .int (Int32.ofNat r), .int (Int32.ofNat m)] _ hH (by show 4 ≤ _; omega) rfl (ht_ac (.inr ⟨by decide, _, rfl, k_am⟩) (ht_ac (hi_nv (by omega) (by omega)) (ht_ac (hi_nv (by omega) (by omega)) ht_an)))).and (fm_ruled (F := fun _ => Int32.ofNat m) hH k_am k_aw m1 rfl hr (hT0.mp (fun i _ => hw9 _)) (by omega))).mono (fun u hu => hs_cbvE hu (fun K60 G60 c60 s60 x60 f60 hH cl60 sl60 => ?_))
      obtain rfl : c60 = 0 := Nat.le_zero.mp cl60
      obtain rfl : s60 = 0 := Nat.le_zero.mp sl60
      have hw9 : ∀ j, et_pl (eg_at G60 aw) j = et_pl (eg_at G0 aw) j := fun j => (f60.2 aw 46 k_aw j (no_mm (by decide +kernel))).trans (hw9 j)
      have hi9 : ∀ j, ¬ j = r → et_pl (eg_at G60 ik) j = et_pl (eg_at G0 ik) j := fun j hj => (f60.2 ik 25 k_ik j (no_mm (by decide +kernel))).trans (hi9 j hj)
      have hk9 : ∀ j, (j < 1024 * r ∨ 1024 * r + 1024 ≤ j) → et_pl (eg_at G60 kw) j = et_pl (eg_at G0 kw) j := fun j hj => (f60.2 kw 30 k_kw j (no_mm (by decide +kernel))).trans (hk9 j hj)
      have hb : ∀ i, i < 1024 → et_pl (eg_at G60 kw) (1024 * r + i) = some (.long (b i)) := fun i hi => (f60.2 kw 30 k_kw _ (no_mm (by decide +kernel))).trans (hb i hi)
      have m1 := (f60.2 am 13 k_am 1 rfl).trans m1
      have m18 := (f60.2 am 13 k_am 18 rfl).trans m18
      have m19 := (f60.2 am 13 k_am 19 rfl).trans m19
      have hik := (f60.2 ik 25 k_ik r (no_mm (by decide +kernel))).trans hik
      have k_am := x60 _ _ k_am
      have lt_am := (hH.2.2 _ _ k_am).1
      have k_aw := x60 _ _ k_aw
      have lt_aw := (hH.2.2 _ _ k_aw).1
      have k_ik := x60 _ _ k_ik
      have lt_ik := (hH.2.2 _ _ k_ik).1
      have k_kw := x60 _ _ k_kw
      have lt_kw := (hH.2.2 _ _ k_kw).1
      by_cases qs : f (feE (fun _ => Int32.ofNat m)) = true
      · rw [if_pos qs]
        show et_go none _ 266 63 _ [.int (Int32.ofNat 1)] _ _ _ _
        refine hs_if0 (c := .eq) (t := 86) (f := 66) (by decide +kernel) (show ¬ (Int32.ofNat 1 = 0) by decide) ?_
        refine hs_aload (i := 0) (p := 67) (by decide +kernel) rfl ?_
        refine hf_get (T := et_TT) (t := 13) (ci := 11) (f := 19) (p := 70) (by decide +kernel) rfl hH k_am m19 ?_
        refine hs_iload (i := 2) (p := 71) (by decide +kernel) rfl ?_
        refine hs_iload (i := 3) (p := 72) (by decide +kernel) rfl ?_
        refine hs_k (x := Int32.ofNat 64) (p := 74) (by decide +kernel) ?_
        refine hs_idiv (p := 75) (by decide +kernel) (by decide) ?_
        rw [kn_dv (m := m) (by omega)]
        refine hs_iaddn (p := 76) (by decide +kernel) ?_
        refine hs_dup2 (p := 77) (by decide +kernel) ?_
        refine hf_ald (ins := .laload) (T := et_TT) (t := 30) (kd := 2) (N := 4096) (p := 78) (by decide +kernel) (fun _ _ _ _ _ _ _ _ _ _ => rfl) rfl rfl rfl hH k_kw (by decide) (hb _ (by omega)) ?_
        refine hs_lcon (x := Int64.ofNat 1) (p := 79) (by decide +kernel) ?_
        refine hs_iload (i := 3) (p := 80) (by decide +kernel) rfl ?_
        refine hs_k (x := Int32.ofNat 64) (p := 82) (by decide +kernel) ?_
        refine hs_irem (p := 83) (by decide +kernel) (by decide) ?_
        rw [kn_rm (m := m) (by omega)]
        refine hs_st (ins := .lshl) (len := 1) (p := 84) (by decide +kernel) rfl rfl ?_
        refine hs_st (ins := .lor) (len := 1) (p := 85) (by decide +kernel) rfl rfl ?_
        have lt9_kw := lt_kw
        have hHo := hH
        refine hf_lst (T := et_TT) (t := 30) (N := 4096) (p := 86) (by decide +kernel) rfl rfl hH k_kw (by omega) (by decide) (fun G85 hH x85 e85 => ?_)
        have hw9 : ∀ j, et_pl (eg_at G85 aw) j = et_pl (eg_at G0 aw) j := fun j => (x85.2 aw j lt_aw (fun h => hi_ne k_aw k_kw (by decide) h.1)).trans (hw9 j)
        have hi9 : ∀ j, ¬ j = r → et_pl (eg_at G85 ik) j = et_pl (eg_at G0 ik) j := fun j hj => (x85.2 ik j lt_ik (fun h => hi_ne k_ik k_kw (by decide) h.1)).trans (hi9 j hj)
        have hk9 : ∀ j, (j < 1024 * r ∨ 1024 * r + 1024 ≤ j) → et_pl (eg_at G85 kw) j = et_pl (eg_at G0 kw) j := fun j hj => (x85.2 kw j lt_kw (fun h => by have h := h.2; omega)).trans (hk9 j hj)
        have m1 := (x85.2 am 1 lt_am (fun h => (hi_ne k_am k_kw (by decide)) h.1)).trans m1
        have m18 := (x85.2 am 18 lt_am (fun h => (hi_ne k_am k_kw (by decide)) h.1)).trans m18
        have m19 := (x85.2 am 19 lt_am (fun h => (hi_ne k_am k_kw (by decide)) h.1)).trans m19
        have hik := (x85.2 ik r lt_ik (fun h => (hi_ne k_ik k_kw (by decide)) h.1)).trans hik
        have lt_am := Nat.lt_of_lt_of_le lt_am x85.1
        have lt_aw := Nat.lt_of_lt_of_le lt_aw x85.1
        have lt_ik := Nat.lt_of_lt_of_le lt_ik x85.1
        have lt_kw := Nat.lt_of_lt_of_le lt_kw x85.1
        refine hs_iinc1 (i := 3) (p := 89) (by decide +kernel) rfl (Nat.le_of_ble_eq_true rfl) ?_
        refine hs_goto (p := 51) (by decide +kernel) ?_
        show et_go none (d + 5) 266 51 [some (.ref am), some (.int (Int32.ofNat r)), some (.int (Int32.ofNat (1024 * r))), some (.int (Int32.ofNat (m + 1)))] [] _ _ _ _
        refine ih (65536 - (m + 1)) (by omega) hH k_am k_aw k_ik k_kw m1 m18 m19 hw9 hi9 hk9 hik (b := fun i => if i = m / 64 then b (m / 64) ||| (Int64.ofNat 1 <<< shI m) else b i) (fun i hi => ?_) (bt_true (g := fun k => f (feE (fun _ => Int32.ofNat k))) hbi qs) (by omega) rfl
        try dsimp only
        by_cases ei : i = m / 64
        · rw [ei, if_pos rfl, ← shI_e]
          exact e85
        · rw [if_neg ei]
          exact (x85.2 kw _ lt9_kw (fun h => ei (by have h := h.2; omega))).trans (hb i hi)
      · rw [if_neg qs]
        show et_go none _ 266 63 _ [.int (Int32.ofNat 0)] _ _ _ _
        refine hs_if1 (c := .eq) (t := 86) (f := 66) (by decide +kernel) (show Int32.ofNat 0 = 0 by decide) ?_
        refine hs_iinc1 (i := 3) (p := 89) (by decide +kernel) rfl (Nat.le_of_ble_eq_true rfl) ?_
        refine hs_goto (p := 51) (by decide +kernel) ?_
        show et_go none (d + 5) 266 51 [some (.ref am), some (.int (Int32.ofNat r)), some (.int (Int32.ofNat (1024 * r))), some (.int (Int32.ofNat (m + 1)))] [] _ _ _ _
        exact ih (65536 - (m + 1)) (by omega) hH k_am k_aw k_ik k_kw m1 m18 m19 hw9 hi9 hk9 hik (b := b) hb (bt_false (g := fun k => f (feE (fun _ => Int32.ofNat k))) hbi (Bool.eq_false_iff.mpr qs)) (by omega) rfl
theorem kn_L1 (hH : et_H et_TT K G) (k_am : K am = some 13) (k_aw : K aw = some 46) (k_ik : K ik = some 25) (k_kw : K kw = some 30) (m1 : et_pl (eg_at G am) 1 = some (.ref aw)) (m18 : et_pl (eg_at G am) 18 = some (.ref ik)) (m19 : et_pl (eg_at G am) 19 = some (.ref kw)) (hr : r < 4) (hT0 : txP G0 aw (126 + 841 * r) 0 f) (hcl : fcl f) (hw9 : ∀ j, et_pl (eg_at G aw) j = et_pl (eg_at G0 aw) j) (hi9 : ∀ j, ¬ j = r → et_pl (eg_at G ik) j = et_pl (eg_at G0 ik) j) (hk9 : ∀ j, (j < 1024 * r ∨ 1024 * r + 1024 ≤ j) → et_pl (eg_at G kw) j = et_pl (eg_at G0 kw) j) (hik : et_pl (eg_at G ik) r = some (.int (Int32.ofNat 1))) (hz9 : ∀ i, i < k → et_pl (eg_at G kw) (1024 * r + i) = some (.long (Int64.ofNat 0))) (hk : k ≤ 1024) : et_go none (d + 5) 266 27 [some (.ref am), some (.int (Int32.ofNat r)), some (.int (Int32.ofNat (1024 * r))), some (.int (Int32.ofNat k))] [] G 0 0 (fun u => u.1 = .inl none ∧ knR G0 u.2.1 am aw ik kw r f) := by
  induction hq9 : 1024 - k using Nat.strongRecOn generalizing k G with
  | _ q9 ih =>
    have lt_am := (hH.2.2 _ _ k_am).1
    have lt_aw := (hH.2.2 _ _ k_aw).1
    have lt_ik := (hH.2.2 _ _ k_ik).1
    have lt_kw := (hH.2.2 _ _ k_kw).1
    refine hs_iload (i := 3) (p := 28) (by decide +kernel) rfl ?_
    refine hs_k (x := Int32.ofNat 1024) (p := 31) (by decide +kernel) ?_
    refine hs_br2n (c := .ge) (t := 49) (f := 34) (by decide +kernel) (by omega) (by omega) (fun (c31 : 1024 ≤ k) => ?_) (fun (c31 : ¬ (1024 ≤ k)) => ?_)
    · refine hs_k (x := Int32.ofNat 0) (p := 50) (by decide +kernel) ?_
      refine hs_istore (i := 3) (p := 51) (by decide +kernel) (Nat.le_of_ble_eq_true rfl) ?_
      exact kn_L2 (m := 0) hH k_am k_aw k_ik k_kw m1 m18 m19 hr hT0 hcl hw9 hi9 hk9 hik (b := fun _ => Int64.ofNat 0) (fun i hi => hz9 i (by omega)) (fun k hk => by rw [btL_0, decide_eq_false (Nat.not_lt_zero k), Bool.false_and]) (Nat.zero_le _)
    · refine hs_aload (i := 0) (p := 35) (by decide +kernel) rfl ?_
      refine hf_get (T := et_TT) (t := 13) (ci := 11) (f := 19) (p := 38) (by decide +kernel) rfl hH k_am m19 ?_
      refine hs_iload (i := 2) (p := 39) (by decide +kernel) rfl ?_
      refine hs_iload (i := 3) (p := 40) (by decide +kernel) rfl ?_
      refine hs_iaddn (p := 41) (by decide +kernel) ?_
      refine hs_lcon (x := Int64.ofNat 0) (p := 42) (by decide +kernel) ?_
      have hHo := hH
      refine hf_lst (T := et_TT) (t := 30) (N := 4096) (p := 43) (by decide +kernel) rfl rfl hH k_kw (by omega) (by decide) (fun G42 hH x42 e42 => ?_)
      have hw9 : ∀ j, et_pl (eg_at G42 aw) j = et_pl (eg_at G0 aw) j := fun j => (x42.2 aw j lt_aw (fun h => hi_ne k_aw k_kw (by decide) h.1)).trans (hw9 j)
      have hi9 : ∀ j, ¬ j = r → et_pl (eg_at G42 ik) j = et_pl (eg_at G0 ik) j := fun j hj => (x42.2 ik j lt_ik (fun h => hi_ne k_ik k_kw (by decide) h.1)).trans (hi9 j hj)
      have hk9 : ∀ j, (j < 1024 * r ∨ 1024 * r + 1024 ≤ j) → et_pl (eg_at G42 kw) j = et_pl (eg_at G0 kw) j := fun j hj => (x42.2 kw j lt_kw (fun h => by have h := h.2; omega)).trans (hk9 j hj)
      have hz9 : ∀ i, i < k + 1 → et_pl (eg_at G42 kw) (1024 * r + i) = some (.long (Int64.ofNat 0)) := fun i hi => by
        by_cases ei : i = k
        · rw [ei]; exact e42
        · exact (x42.2 kw _ lt_kw (fun h => ei (by have h := h.2; omega))).trans (hz9 i (by omega))
      have m1 := (x42.2 am 1 lt_am (fun h => (hi_ne k_am k_kw (by decide)) h.1)).trans m1
      have m18 := (x42.2 am 18 lt_am (fun h => (hi_ne k_am k_kw (by decide)) h.1)).trans m18
      have m19 := (x42.2 am 19 lt_am (fun h => (hi_ne k_am k_kw (by decide)) h.1)).trans m19
      have hik := (x42.2 ik r lt_ik (fun h => (hi_ne k_ik k_kw (by decide)) h.1)).trans hik
      have lt_am := Nat.lt_of_lt_of_le lt_am x42.1
      have lt_aw := Nat.lt_of_lt_of_le lt_aw x42.1
      have lt_ik := Nat.lt_of_lt_of_le lt_ik x42.1
      have lt_kw := Nat.lt_of_lt_of_le lt_kw x42.1
      refine hs_iinc1 (i := 3) (p := 46) (by decide +kernel) rfl (Nat.le_of_ble_eq_true rfl) ?_
      refine hs_goto (p := 27) (by decide +kernel) ?_
      exact ih (1024 - (k + 1)) (by omega) hH m1 m18 m19 hw9 hi9 hk9 hik hz9 (by omega) rfl
theorem fm_knows (hH : et_H et_TT K G) (k_am : K am = some 13) (k_aw : K aw = some 46) (k_ik : K ik = some 25) (k_kw : K kw = some 30) (m1 : et_pl (eg_at G am) 1 = some (.ref aw)) (m18 : et_pl (eg_at G am) 18 = some (.ref ik)) (m19 : et_pl (eg_at G am) 19 = some (.ref kw)) (hr : r < 4) (hT0 : txP G aw (126 + 841 * r) 0 f) (hcl : fcl f) (hkn : et_pl (eg_at G ik) r = some (.int (Int32.ofNat 0)) ∨ knP G aw kw r) (hd : 5 ≤ d2) : et_go none d2 266 0 (eg_en (eg_mL 266) [.ref am, .int (Int32.ofNat r)]) [] G 0 0 (fun u => u.1 = .inl none ∧ knR G u.2.1 am aw ik kw r f) := by
  obtain ⟨d, rfl⟩ : ∃ d, d2 = d + 5 := ⟨d2 - 5, by omega⟩
  obtain ⟨y, hy, hik⟩ := ik_ex hH k_ik hr
  have hw9 : ∀ j, et_pl (eg_at G aw) j = et_pl (eg_at G aw) j := fun _ => rfl
  have hi9 : ∀ j, ¬ j = r → et_pl (eg_at G ik) j = et_pl (eg_at G ik) j := fun _ _ => rfl
  have hk9 : ∀ j, (j < 1024 * r ∨ 1024 * r + 1024 ≤ j) → et_pl (eg_at G kw) j = et_pl (eg_at G kw) j := fun _ _ => rfl
  rcases (show y = 0 ∨ y = 1 by omega) with rfl | rfl
  · rw [show eg_mL 266 = 4 from by decide +kernel]
    show et_go none (d + 5) 266 0 [some (.ref am), some (.int (Int32.ofNat r)), none, none] [] G 0 0 _
    have lt_am := (hH.2.2 _ _ k_am).1
    have lt_aw := (hH.2.2 _ _ k_aw).1
    have lt_ik := (hH.2.2 _ _ k_ik).1
    have lt_kw := (hH.2.2 _ _ k_kw).1
    refine hs_aload (i := 0) (p := 1) (by decide +kernel) rfl ?_
    refine hf_get (T := et_TT) (t := 13) (ci := 11) (f := 18) (p := 4) (by decide +kernel) rfl hH k_am m18 ?_
    refine hs_iload (i := 1) (p := 5) (by decide +kernel) rfl ?_
    refine hf_ald (ins := .baload) (T := et_TT) (t := 25) (kd := 3) (N := 4) (p := 6) (by decide +kernel) (fun _ _ _ _ _ _ _ _ _ _ => rfl) rfl rfl rfl hH k_ik (by decide) hik ?_
    refine hs_if1 (c := .eq) (t := 10) (f := 9) (by decide +kernel) (show Int32.ofNat 0 = 0 by decide) ?_
    refine hs_aload (i := 0) (p := 11) (by decide +kernel) rfl ?_
    refine hf_get (T := et_TT) (t := 13) (ci := 11) (f := 18) (p := 14) (by decide +kernel) rfl hH k_am m18 ?_
    refine hs_iload (i := 1) (p := 15) (by decide +kernel) rfl ?_
    refine hs_k (x := Int32.ofNat 1) (p := 16) (by decide +kernel) ?_
    have hHo := hH
    refine hf_zst (T := et_TT) (t := 25) (N := 4) (p := 17) (by decide +kernel) rfl rfl (show vp_nar .boolean (Int32.ofNat 1) = Int32.ofNat 1 from by decide +kernel) hH k_ik (by omega) (by decide) (fun s hs _ _ => by rw [List.mem_singleton] at hs; subst hs; exact hi_nv (by decide) (by decide)) (fun G16 hH x16 e16 => ?_)
    have hw9 : ∀ j, et_pl (eg_at G16 aw) j = et_pl (eg_at G aw) j := fun j => (x16.2 aw j lt_aw (fun h => hi_ne k_aw k_ik (by decide) h.1)).trans (hw9 j)
    have hi9 : ∀ j, ¬ j = r → et_pl (eg_at G16 ik) j = et_pl (eg_at G ik) j := fun j hj => (x16.2 ik j lt_ik (fun h => hj h.2)).trans (hi9 j hj)
    have hk9 : ∀ j, (j < 1024 * r ∨ 1024 * r + 1024 ≤ j) → et_pl (eg_at G16 kw) j = et_pl (eg_at G kw) j := fun j hj => (x16.2 kw j lt_kw (fun h => hi_ne k_kw k_ik (by decide) h.1)).trans (hk9 j hj)
    have m1 := (x16.2 am 1 lt_am (fun h => (hi_ne k_am k_ik (by decide)) h.1)).trans m1
    have m18 := (x16.2 am 18 lt_am (fun h => (hi_ne k_am k_ik (by decide)) h.1)).trans m18
    have m19 := (x16.2 am 19 lt_am (fun h => (hi_ne k_am k_ik (by decide)) h.1)).trans m19
    have lt_am := Nat.lt_of_lt_of_le lt_am x16.1
    have lt_aw := Nat.lt_of_lt_of_le lt_aw x16.1
    have lt_ik := Nat.lt_of_lt_of_le lt_ik x16.1
    have lt_kw := Nat.lt_of_lt_of_le lt_kw x16.1
    refine hs_iload (i := 1) (p := 18) (by decide +kernel) rfl ?_
    refine hs_kld (v := Value.int (Int32.ofNat 65536)) (p := 20) (by decide +kernel) ?_
    refine hs_imuln (p := 21) (by decide +kernel) ?_
    refine hs_k (x := Int32.ofNat 64) (p := 23) (by decide +kernel) ?_
    refine hs_idiv (p := 24) (by decide +kernel) (by decide) ?_
    rw [kn_at r (List.mem_range.mpr hr)]
    refine hs_istore (i := 2) (p := 25) (by decide +kernel) (Nat.le_of_ble_eq_true rfl) ?_
    refine hs_k (x := Int32.ofNat 0) (p := 26) (by decide +kernel) ?_
    refine hs_istore (i := 3) (p := 27) (by decide +kernel) (Nat.le_of_ble_eq_true rfl) ?_
    exact kn_L1 (k := 0) hH k_am k_aw k_ik k_kw m1 m18 m19 hr hT0 hcl hw9 hi9 hk9 e16 (fun i hi => absurd hi (Nat.not_lt_zero i)) (Nat.zero_le _)
  · rw [show eg_mL 266 = 4 from by decide +kernel]
    show et_go none (d + 5) 266 0 [some (.ref am), some (.int (Int32.ofNat r)), none, none] [] G 0 0 _
    have lt_am := (hH.2.2 _ _ k_am).1
    have lt_aw := (hH.2.2 _ _ k_aw).1
    have lt_ik := (hH.2.2 _ _ k_ik).1
    have lt_kw := (hH.2.2 _ _ k_kw).1
    refine hs_aload (i := 0) (p := 1) (by decide +kernel) rfl ?_
    refine hf_get (T := et_TT) (t := 13) (ci := 11) (f := 18) (p := 4) (by decide +kernel) rfl hH k_am m18 ?_
    refine hs_iload (i := 1) (p := 5) (by decide +kernel) rfl ?_
    refine hf_ald (ins := .baload) (T := et_TT) (t := 25) (kd := 3) (N := 4) (p := 6) (by decide +kernel) (fun _ _ _ _ _ _ _ _ _ _ => rfl) rfl rfl rfl hH k_ik (by decide) hik ?_
    refine hs_if0 (c := .eq) (t := 10) (f := 9) (by decide +kernel) (show ¬ (Int32.ofNat 1 = 0) by decide) ?_
    refine hs_vret (by decide +kernel) ?_
    rcases hkn with hkn | ⟨b, b1, b2⟩
    · exact absurd (Value.int.inj (Option.some.inj (hik.symm.trans hkn))) (by decide)
    · exact ⟨rfl, ⟨b, b1, fun m F hm hF => b2 f hT0 hcl m F hm hF⟩, hik, ⟨m18, m19⟩, hi9, hk9, hw9⟩
theorem kn0_L2 (hH : et_H et_TT K G) (k_am : K am = some 13) (k_aw : K aw = some 46) (k_ik : K ik = some 25) (k_kw : K kw = some 30) (m1 : et_pl (eg_at G am) 1 = some (.ref aw)) (m18 : et_pl (eg_at G am) 18 = some (.ref ik)) (m19 : et_pl (eg_at G am) 19 = some (.ref kw)) (hr : r < 4)  (hw9 : ∀ j, et_pl (eg_at G aw) j = et_pl (eg_at G0 aw) j) (hi9 : ∀ j, ¬ j = r → et_pl (eg_at G ik) j = et_pl (eg_at G0 ik) j) (hk9 : ∀ j, (j < 1024 * r ∨ 1024 * r + 1024 ≤ j) → et_pl (eg_at G kw) j = et_pl (eg_at G0 kw) j) (hik : et_pl (eg_at G ik) r = some (.int (Int32.ofNat 1)))  (hm : m ≤ 65536) : et_go none (d + 5) 266 51 [some (.ref am), some (.int (Int32.ofNat r)), some (.int (Int32.ofNat (1024 * r))), some (.int (Int32.ofNat m))] [] G 0 0 (fun u => u.1 = .inl none ∧ knF G0 u.2.1 am aw ik kw r) := by
  induction hq9 : 65536 - m using Nat.strongRecOn generalizing m K G with
  | _ q9 ih =>
    have lt_am := (hH.2.2 _ _ k_am).1
    have lt_aw := (hH.2.2 _ _ k_aw).1
    have lt_ik := (hH.2.2 _ _ k_ik).1
    have lt_kw := (hH.2.2 _ _ k_kw).1
    refine hs_iload (i := 3) (p := 52) (by decide +kernel) rfl ?_
    refine hs_kld (v := Value.int (Int32.ofNat 65536)) (p := 54) (by decide +kernel) ?_
    refine hs_br2n (c := .ge) (t := 92) (f := 57) (by decide +kernel) (by omega) (by omega) (fun (c54 : 65536 ≤ m) => ?_) (fun (c54 : ¬ (65536 ≤ m)) => ?_)
    · refine hs_vret (by decide +kernel) ?_
      exact ⟨rfl, ⟨m18, m19⟩, hi9, hk9, hw9⟩
    · refine hs_aload (i := 0) (p := 58) (by decide +kernel) rfl ?_
      refine hs_iload (i := 1) (p := 59) (by decide +kernel) rfl ?_
      refine hs_iload (i := 3) (p := 60) (by decide +kernel) rfl ?_
      refine ht_callv (T := et_TT) (t := 13) (mi := 213) (na := 2) (ci := 11) (lk := 4) (lm := 4) (L0 := eg_en (eg_mL 213) [.ref am, .int (Int32.ofNat r), .int (Int32.ofNat m)]) (by decide +kernel) rfl hH k_am rfl rfl rfl rfl rfl (by rw [show eg_mL 213 = 4 from by decide +kernel]; first | done | rfl) ?_
      refine (er_c1 (K, [], G) [.ref am, .int (Int32.ofNat r), .int (Int32.ofNat m)] _ hH (by show 4 ≤ _; omega) rfl (ht_ac (.inr ⟨by decide, _, rfl, k_am⟩) (ht_ac (hi_nv (by omega) (by omega)) (ht_ac (hi_nv (by omega) (by omega)) ht_an)))).mono (fun u hu => hs_cbv hu (fun v60 K60 G60 c60 s60 x60 f60 hH hv60 cl60 sl60 => ?_))
      obtain rfl : c60 = 0 := Nat.le_zero.mp cl60
      obtain rfl : s60 = 0 := Nat.le_zero.mp sl60
      have hw9 : ∀ j, et_pl (eg_at G60 aw) j = et_pl (eg_at G0 aw) j := fun j => (f60.2 aw 46 k_aw j (no_mm (by decide +kernel))).trans (hw9 j)
      have hi9 : ∀ j, ¬ j = r → et_pl (eg_at G60 ik) j = et_pl (eg_at G0 ik) j := fun j hj => (f60.2 ik 25 k_ik j (no_mm (by decide +kernel))).trans (hi9 j hj)
      have hk9 : ∀ j, (j < 1024 * r ∨ 1024 * r + 1024 ≤ j) → et_pl (eg_at G60 kw) j = et_pl (eg_at G0 kw) j := fun j hj => (f60.2 kw 30 k_kw j (no_mm (by decide +kernel))).trans (hk9 j hj)
      have m1 := (f60.2 am 13 k_am 1 rfl).trans m1
      have m18 := (f60.2 am 13 k_am 18 rfl).trans m18
      have m19 := (f60.2 am 13 k_am 19 rfl).trans m19
      have hik := (f60.2 ik 25 k_ik r (no_mm (by decide +kernel))).trans hik
      have k_am := x60 _ _ k_am
      have lt_am := (hH.2.2 _ _ k_am).1
      have k_aw := x60 _ _ k_aw
      have lt_aw := (hH.2.2 _ _ k_aw).1
      have k_ik := x60 _ _ k_ik
      have lt_ik := (hH.2.2 _ _ k_ik).1
      have k_kw := x60 _ _ k_kw
      have lt_kw := (hH.2.2 _ _ k_kw).1
      obtain ⟨n9, hn9, rfl⟩ := hi_nat hv60
      rcases (show n9 = 1 ∨ n9 = 0 by omega) with rfl | rfl
      · obtain ⟨y9, hy9⟩ := kw_ex (j := 1024 * r + m / 64) hH k_kw (by omega)
        show et_go none _ 266 63 _ [.int (Int32.ofNat 1)] _ _ _ _
        refine hs_if0 (c := .eq) (t := 86) (f := 66) (by decide +kernel) (show ¬ (Int32.ofNat 1 = 0) by decide) ?_
        refine hs_aload (i := 0) (p := 67) (by decide +kernel) rfl ?_
        refine hf_get (T := et_TT) (t := 13) (ci := 11) (f := 19) (p := 70) (by decide +kernel) rfl hH k_am m19 ?_
        refine hs_iload (i := 2) (p := 71) (by decide +kernel) rfl ?_
        refine hs_iload (i := 3) (p := 72) (by decide +kernel) rfl ?_
        refine hs_k (x := Int32.ofNat 64) (p := 74) (by decide +kernel) ?_
        refine hs_idiv (p := 75) (by decide +kernel) (by decide) ?_
        rw [kn_dv (m := m) (by omega)]
        refine hs_iaddn (p := 76) (by decide +kernel) ?_
        refine hs_dup2 (p := 77) (by decide +kernel) ?_
        refine hf_ald (ins := .laload) (T := et_TT) (t := 30) (kd := 2) (N := 4096) (p := 78) (by decide +kernel) (fun _ _ _ _ _ _ _ _ _ _ => rfl) rfl rfl rfl hH k_kw (by decide) hy9 ?_
        refine hs_lcon (x := Int64.ofNat 1) (p := 79) (by decide +kernel) ?_
        refine hs_iload (i := 3) (p := 80) (by decide +kernel) rfl ?_
        refine hs_k (x := Int32.ofNat 64) (p := 82) (by decide +kernel) ?_
        refine hs_irem (p := 83) (by decide +kernel) (by decide) ?_
        rw [kn_rm (m := m) (by omega)]
        refine hs_st (ins := .lshl) (len := 1) (p := 84) (by decide +kernel) rfl rfl ?_
        refine hs_st (ins := .lor) (len := 1) (p := 85) (by decide +kernel) rfl rfl ?_
        have lt9_kw := lt_kw
        have hHo := hH
        refine hf_lst (T := et_TT) (t := 30) (N := 4096) (p := 86) (by decide +kernel) rfl rfl hH k_kw (by omega) (by decide) (fun G85 hH x85 e85 => ?_)
        have hw9 : ∀ j, et_pl (eg_at G85 aw) j = et_pl (eg_at G0 aw) j := fun j => (x85.2 aw j lt_aw (fun h => hi_ne k_aw k_kw (by decide) h.1)).trans (hw9 j)
        have hi9 : ∀ j, ¬ j = r → et_pl (eg_at G85 ik) j = et_pl (eg_at G0 ik) j := fun j hj => (x85.2 ik j lt_ik (fun h => hi_ne k_ik k_kw (by decide) h.1)).trans (hi9 j hj)
        have hk9 : ∀ j, (j < 1024 * r ∨ 1024 * r + 1024 ≤ j) → et_pl (eg_at G85 kw) j = et_pl (eg_at G0 kw) j := fun j hj => (x85.2 kw j lt_kw (fun h => by have h := h.2; omega)).trans (hk9 j hj)
        have m1 := (x85.2 am 1 lt_am (fun h => (hi_ne k_am k_kw (by decide)) h.1)).trans m1
        have m18 := (x85.2 am 18 lt_am (fun h => (hi_ne k_am k_kw (by decide)) h.1)).trans m18
        have m19 := (x85.2 am 19 lt_am (fun h => (hi_ne k_am k_kw (by decide)) h.1)).trans m19
        have hik := (x85.2 ik r lt_ik (fun h => (hi_ne k_ik k_kw (by decide)) h.1)).trans hik
        have lt_am := Nat.lt_of_lt_of_le lt_am x85.1
        have lt_aw := Nat.lt_of_lt_of_le lt_aw x85.1
        have lt_ik := Nat.lt_of_lt_of_le lt_ik x85.1
        have lt_kw := Nat.lt_of_lt_of_le lt_kw x85.1
        refine hs_iinc1 (i := 3) (p := 89) (by decide +kernel) rfl (Nat.le_of_ble_eq_true rfl) ?_
        refine hs_goto (p := 51) (by decide +kernel) ?_
        show et_go none (d + 5) 266 51 [some (.ref am), some (.int (Int32.ofNat r)), some (.int (Int32.ofNat (1024 * r))), some (.int (Int32.ofNat (m + 1)))] [] _ _ _ _
        exact ih (65536 - (m + 1)) (by omega) hH k_am k_aw k_ik k_kw m1 m18 m19 hw9 hi9 hk9 hik (by omega) rfl
      · show et_go none _ 266 63 _ [.int (Int32.ofNat 0)] _ _ _ _
        refine hs_if1 (c := .eq) (t := 86) (f := 66) (by decide +kernel) (show Int32.ofNat 0 = 0 by decide) ?_
        refine hs_iinc1 (i := 3) (p := 89) (by decide +kernel) rfl (Nat.le_of_ble_eq_true rfl) ?_
        refine hs_goto (p := 51) (by decide +kernel) ?_
        show et_go none (d + 5) 266 51 [some (.ref am), some (.int (Int32.ofNat r)), some (.int (Int32.ofNat (1024 * r))), some (.int (Int32.ofNat (m + 1)))] [] _ _ _ _
        exact ih (65536 - (m + 1)) (by omega) hH k_am k_aw k_ik k_kw m1 m18 m19 hw9 hi9 hk9 hik (by omega) rfl
theorem kn0_L1 (hH : et_H et_TT K G) (k_am : K am = some 13) (k_aw : K aw = some 46) (k_ik : K ik = some 25) (k_kw : K kw = some 30) (m1 : et_pl (eg_at G am) 1 = some (.ref aw)) (m18 : et_pl (eg_at G am) 18 = some (.ref ik)) (m19 : et_pl (eg_at G am) 19 = some (.ref kw)) (hr : r < 4)  (hw9 : ∀ j, et_pl (eg_at G aw) j = et_pl (eg_at G0 aw) j) (hi9 : ∀ j, ¬ j = r → et_pl (eg_at G ik) j = et_pl (eg_at G0 ik) j) (hk9 : ∀ j, (j < 1024 * r ∨ 1024 * r + 1024 ≤ j) → et_pl (eg_at G kw) j = et_pl (eg_at G0 kw) j) (hik : et_pl (eg_at G ik) r = some (.int (Int32.ofNat 1)))  (hk : k ≤ 1024) : et_go none (d + 5) 266 27 [some (.ref am), some (.int (Int32.ofNat r)), some (.int (Int32.ofNat (1024 * r))), some (.int (Int32.ofNat k))] [] G 0 0 (fun u => u.1 = .inl none ∧ knF G0 u.2.1 am aw ik kw r) := by
  induction hq9 : 1024 - k using Nat.strongRecOn generalizing k G with
  | _ q9 ih =>
    have lt_am := (hH.2.2 _ _ k_am).1
    have lt_aw := (hH.2.2 _ _ k_aw).1
    have lt_ik := (hH.2.2 _ _ k_ik).1
    have lt_kw := (hH.2.2 _ _ k_kw).1
    refine hs_iload (i := 3) (p := 28) (by decide +kernel) rfl ?_
    refine hs_k (x := Int32.ofNat 1024) (p := 31) (by decide +kernel) ?_
    refine hs_br2n (c := .ge) (t := 49) (f := 34) (by decide +kernel) (by omega) (by omega) (fun (c31 : 1024 ≤ k) => ?_) (fun (c31 : ¬ (1024 ≤ k)) => ?_)
    · refine hs_k (x := Int32.ofNat 0) (p := 50) (by decide +kernel) ?_
      refine hs_istore (i := 3) (p := 51) (by decide +kernel) (Nat.le_of_ble_eq_true rfl) ?_
      exact kn0_L2 (m := 0) hH k_am k_aw k_ik k_kw m1 m18 m19 hr  hw9 hi9 hk9 hik (Nat.zero_le _)
    · refine hs_aload (i := 0) (p := 35) (by decide +kernel) rfl ?_
      refine hf_get (T := et_TT) (t := 13) (ci := 11) (f := 19) (p := 38) (by decide +kernel) rfl hH k_am m19 ?_
      refine hs_iload (i := 2) (p := 39) (by decide +kernel) rfl ?_
      refine hs_iload (i := 3) (p := 40) (by decide +kernel) rfl ?_
      refine hs_iaddn (p := 41) (by decide +kernel) ?_
      refine hs_lcon (x := Int64.ofNat 0) (p := 42) (by decide +kernel) ?_
      have hHo := hH
      refine hf_lst (T := et_TT) (t := 30) (N := 4096) (p := 43) (by decide +kernel) rfl rfl hH k_kw (by omega) (by decide) (fun G42 hH x42 e42 => ?_)
      have hw9 : ∀ j, et_pl (eg_at G42 aw) j = et_pl (eg_at G0 aw) j := fun j => (x42.2 aw j lt_aw (fun h => hi_ne k_aw k_kw (by decide) h.1)).trans (hw9 j)
      have hi9 : ∀ j, ¬ j = r → et_pl (eg_at G42 ik) j = et_pl (eg_at G0 ik) j := fun j hj => (x42.2 ik j lt_ik (fun h => hi_ne k_ik k_kw (by decide) h.1)).trans (hi9 j hj)
      have hk9 : ∀ j, (j < 1024 * r ∨ 1024 * r + 1024 ≤ j) → et_pl (eg_at G42 kw) j = et_pl (eg_at G0 kw) j := fun j hj => (x42.2 kw j lt_kw (fun h => by have h := h.2; omega)).trans (hk9 j hj)
      have m1 := (x42.2 am 1 lt_am (fun h => (hi_ne k_am k_kw (by decide)) h.1)).trans m1
      have m18 := (x42.2 am 18 lt_am (fun h => (hi_ne k_am k_kw (by decide)) h.1)).trans m18
      have m19 := (x42.2 am 19 lt_am (fun h => (hi_ne k_am k_kw (by decide)) h.1)).trans m19
      have hik := (x42.2 ik r lt_ik (fun h => (hi_ne k_ik k_kw (by decide)) h.1)).trans hik
      have lt_am := Nat.lt_of_lt_of_le lt_am x42.1
      have lt_aw := Nat.lt_of_lt_of_le lt_aw x42.1
      have lt_ik := Nat.lt_of_lt_of_le lt_ik x42.1
      have lt_kw := Nat.lt_of_lt_of_le lt_kw x42.1
      refine hs_iinc1 (i := 3) (p := 46) (by decide +kernel) rfl (Nat.le_of_ble_eq_true rfl) ?_
      refine hs_goto (p := 27) (by decide +kernel) ?_
      exact ih (1024 - (k + 1)) (by omega) hH m1 m18 m19 hw9 hi9 hk9 hik (by omega) rfl
theorem fm_knows0 (hH : et_H et_TT K G) (k_am : K am = some 13) (k_aw : K aw = some 46) (k_ik : K ik = some 25) (k_kw : K kw = some 30) (m1 : et_pl (eg_at G am) 1 = some (.ref aw)) (m18 : et_pl (eg_at G am) 18 = some (.ref ik)) (m19 : et_pl (eg_at G am) 19 = some (.ref kw)) (hr : r < 4) (hd : 5 ≤ d2) : et_go none d2 266 0 (eg_en (eg_mL 266) [.ref am, .int (Int32.ofNat r)]) [] G 0 0 (fun u => u.1 = .inl none ∧ knF G u.2.1 am aw ik kw r) := by
  obtain ⟨d, rfl⟩ : ∃ d, d2 = d + 5 := ⟨d2 - 5, by omega⟩
  obtain ⟨y, hy, hik⟩ := ik_ex hH k_ik hr
  have hw9 : ∀ j, et_pl (eg_at G aw) j = et_pl (eg_at G aw) j := fun _ => rfl
  have hi9 : ∀ j, ¬ j = r → et_pl (eg_at G ik) j = et_pl (eg_at G ik) j := fun _ _ => rfl
  have hk9 : ∀ j, (j < 1024 * r ∨ 1024 * r + 1024 ≤ j) → et_pl (eg_at G kw) j = et_pl (eg_at G kw) j := fun _ _ => rfl
  rcases (show y = 0 ∨ y = 1 by omega) with rfl | rfl
  · rw [show eg_mL 266 = 4 from by decide +kernel]
    show et_go none (d + 5) 266 0 [some (.ref am), some (.int (Int32.ofNat r)), none, none] [] G 0 0 _
    have lt_am := (hH.2.2 _ _ k_am).1
    have lt_aw := (hH.2.2 _ _ k_aw).1
    have lt_ik := (hH.2.2 _ _ k_ik).1
    have lt_kw := (hH.2.2 _ _ k_kw).1
    refine hs_aload (i := 0) (p := 1) (by decide +kernel) rfl ?_
    refine hf_get (T := et_TT) (t := 13) (ci := 11) (f := 18) (p := 4) (by decide +kernel) rfl hH k_am m18 ?_
    refine hs_iload (i := 1) (p := 5) (by decide +kernel) rfl ?_
    refine hf_ald (ins := .baload) (T := et_TT) (t := 25) (kd := 3) (N := 4) (p := 6) (by decide +kernel) (fun _ _ _ _ _ _ _ _ _ _ => rfl) rfl rfl rfl hH k_ik (by decide) hik ?_
    refine hs_if1 (c := .eq) (t := 10) (f := 9) (by decide +kernel) (show Int32.ofNat 0 = 0 by decide) ?_
    refine hs_aload (i := 0) (p := 11) (by decide +kernel) rfl ?_
    refine hf_get (T := et_TT) (t := 13) (ci := 11) (f := 18) (p := 14) (by decide +kernel) rfl hH k_am m18 ?_
    refine hs_iload (i := 1) (p := 15) (by decide +kernel) rfl ?_
    refine hs_k (x := Int32.ofNat 1) (p := 16) (by decide +kernel) ?_
    have hHo := hH
    refine hf_zst (T := et_TT) (t := 25) (N := 4) (p := 17) (by decide +kernel) rfl rfl (show vp_nar .boolean (Int32.ofNat 1) = Int32.ofNat 1 from by decide +kernel) hH k_ik (by omega) (by decide) (fun s hs _ _ => by rw [List.mem_singleton] at hs; subst hs; exact hi_nv (by decide) (by decide)) (fun G16 hH x16 e16 => ?_)
    have hw9 : ∀ j, et_pl (eg_at G16 aw) j = et_pl (eg_at G aw) j := fun j => (x16.2 aw j lt_aw (fun h => hi_ne k_aw k_ik (by decide) h.1)).trans (hw9 j)
    have hi9 : ∀ j, ¬ j = r → et_pl (eg_at G16 ik) j = et_pl (eg_at G ik) j := fun j hj => (x16.2 ik j lt_ik (fun h => hj h.2)).trans (hi9 j hj)
    have hk9 : ∀ j, (j < 1024 * r ∨ 1024 * r + 1024 ≤ j) → et_pl (eg_at G16 kw) j = et_pl (eg_at G kw) j := fun j hj => (x16.2 kw j lt_kw (fun h => hi_ne k_kw k_ik (by decide) h.1)).trans (hk9 j hj)
    have m1 := (x16.2 am 1 lt_am (fun h => (hi_ne k_am k_ik (by decide)) h.1)).trans m1
    have m18 := (x16.2 am 18 lt_am (fun h => (hi_ne k_am k_ik (by decide)) h.1)).trans m18
    have m19 := (x16.2 am 19 lt_am (fun h => (hi_ne k_am k_ik (by decide)) h.1)).trans m19
    have lt_am := Nat.lt_of_lt_of_le lt_am x16.1
    have lt_aw := Nat.lt_of_lt_of_le lt_aw x16.1
    have lt_ik := Nat.lt_of_lt_of_le lt_ik x16.1
    have lt_kw := Nat.lt_of_lt_of_le lt_kw x16.1
    refine hs_iload (i := 1) (p := 18) (by decide +kernel) rfl ?_
    refine hs_kld (v := Value.int (Int32.ofNat 65536)) (p := 20) (by decide +kernel) ?_
    refine hs_imuln (p := 21) (by decide +kernel) ?_
    refine hs_k (x := Int32.ofNat 64) (p := 23) (by decide +kernel) ?_
    refine hs_idiv (p := 24) (by decide +kernel) (by decide) ?_
    rw [kn_at r (List.mem_range.mpr hr)]
    refine hs_istore (i := 2) (p := 25) (by decide +kernel) (Nat.le_of_ble_eq_true rfl) ?_
    refine hs_k (x := Int32.ofNat 0) (p := 26) (by decide +kernel) ?_
    refine hs_istore (i := 3) (p := 27) (by decide +kernel) (Nat.le_of_ble_eq_true rfl) ?_
    exact kn0_L1 (k := 0) hH k_am k_aw k_ik k_kw m1 m18 m19 hr  hw9 hi9 hk9 e16 (Nat.zero_le _)
  · rw [show eg_mL 266 = 4 from by decide +kernel]
    show et_go none (d + 5) 266 0 [some (.ref am), some (.int (Int32.ofNat r)), none, none] [] G 0 0 _
    have lt_am := (hH.2.2 _ _ k_am).1
    have lt_aw := (hH.2.2 _ _ k_aw).1
    have lt_ik := (hH.2.2 _ _ k_ik).1
    have lt_kw := (hH.2.2 _ _ k_kw).1
    refine hs_aload (i := 0) (p := 1) (by decide +kernel) rfl ?_
    refine hf_get (T := et_TT) (t := 13) (ci := 11) (f := 18) (p := 4) (by decide +kernel) rfl hH k_am m18 ?_
    refine hs_iload (i := 1) (p := 5) (by decide +kernel) rfl ?_
    refine hf_ald (ins := .baload) (T := et_TT) (t := 25) (kd := 3) (N := 4) (p := 6) (by decide +kernel) (fun _ _ _ _ _ _ _ _ _ _ => rfl) rfl rfl rfl hH k_ik (by decide) hik ?_
    refine hs_if0 (c := .eq) (t := 10) (f := 9) (by decide +kernel) (show ¬ (Int32.ofNat 1 = 0) by decide) ?_
    refine hs_vret (by decide +kernel) ?_
    exact ⟨rfl, ⟨m18, m19⟩, hi9, hk9, hw9⟩
end YIA
section RQI
variable {d am aw ta en tp pt bg st dp ai ia : Nat} {G : eg_G} {F0 F : Nat → Value} {TP W : Nat → Int32} {Z : eg_O → Prop}
theorem rq_backK (hA : hm_ok G am aw) (hai : F 18 = .ref ai) {K : Nat → Int32} (j1 : ai ≠ am) (j2 : ai ≠ aw) (j3 : eg_NC ≤ ai ∧ ai < G.2) (j4 : eg_at G ai = .inl (3, (4, .inl K))) {k : Nat} (hk : k ≤ 4) (h : ∀ K' : Nat → Int32, ((∀ i, k ≤ i → i < 4 → K' i = 0) ∧ ∀ i, i < k → K' i = K i) → Z (.inl (some (.int (Int32.ofNat 1))), hm_H (eg_u G ai (.inl (3, (4, .inl K')))) am aw F W, 0, 0)) (hu : eg_u G ai (.inl (3, (4, .inl K))) = G) : et_go none d 176 43 [some (.ref am), some (.int (Int32.ofNat k))] [] (hm_H G am aw F W) 0 0 Z := by
  induction hm : 4 - k using Nat.strongRecOn generalizing k G K with
  | _ n ih =>
    refine hs_iload (i := 1) (p := 44) (by decide +kernel) rfl ?_
    refine hs_k (x := Int32.ofNat 4) (p := 45) (by decide +kernel) ?_
    refine hs_br2n (c := .ge) (t := 61) (f := 48) (by decide +kernel) (by omega) (by omega) (fun (c45 : 4 ≤ k) => ?_) (fun (c45 : ¬ (4 ≤ k)) => ?_)
    · refine hs_k (x := Int32.ofNat 1) (p := 62) (by decide +kernel) ?_
      refine hs_zret (by decide +kernel) (.inr rfl) ?_
      have h9 := h K ⟨fun i h1 h2 => by omega, fun _ _ => rfl⟩
      rw [hu] at h9
      exact h9
    · refine hs_aload (i := 0) (p := 49) (by decide +kernel) rfl ?_
      refine hm_get hA (f := 18) (p := 52) (by decide +kernel) rfl hai ?_
      refine hs_iload (i := 1) (p := 53) (by decide +kernel) rfl ?_
      refine hs_k (x := Int32.ofNat 0) (p := 54) (by decide +kernel) ?_
      refine hm_bast (p := 55) (by decide +kernel) j1 j2 j4 j3 (by omega) ?_
      refine hs_iinc1 (i := 1) (p := 58) (by decide +kernel) rfl (Nat.le_of_ble_eq_true rfl) ?_
      refine hs_goto (p := 43) (by decide +kernel) ?_
      refine ih (4 - (k + 1)) (by omega) (G := eg_u G ai (.inl (3, (4, .inl (upd K k 0))))) (K := upd K k 0) hA j3 (et_at_us j3.1) (by omega) (fun K' h1 => ?_) hm_uu rfl
      rw [hm_uu]
      refine h K' ⟨fun i a b => ?_, fun i a => (h1.2 i (by omega)).trans (hs_un (by omega))⟩
      by_cases e : i = k
      · subst e
        exact (h1.2 i (by omega)).trans hs_us
      · exact h1.1 i (by omega) b
theorem rq_backL (hA : hm_ok G am aw) (hw : F 1 = .ref aw) (hi : F 2 = .ref ia) {I : Nat → Int32} (i1 : ia ≠ am) (i2 : ia ≠ aw) (i3 : eg_NC ≤ ia ∧ ia < G.2) (i4 : eg_at G ia = .inl (0, (11900, .inl I))) (hai : F 18 = .ref ai) {K : Nat → Int32} (j1 : ai ≠ am) (j2 : ai ≠ aw) (j3 : eg_NC ≤ ai ∧ ai < G.2) (j4 : eg_at G ai = .inl (3, (4, .inl K))) {k : Nat} (hk : k ≤ 11900) (h : ∀ (V K' : Nat → Int32), (∀ i, k ≤ i → i < 11900 → V i = I i) → (∀ i, (i < k ∨ 11900 ≤ i) → V i = W i) → (∀ i, i < 4 → K' i = 0) → Z (.inl (some (.int (Int32.ofNat 1))), hm_H (eg_u G ai (.inl (3, (4, .inl K')))) am aw F V, 0, 0)) : et_go none d 176 16 [some (.ref am), some (.int (Int32.ofNat k))] [] (hm_H G am aw F W) 0 0 Z := by
  induction hm : 11900 - k using Nat.strongRecOn generalizing k W with
  | _ n ih =>
    refine hs_iload (i := 1) (p := 17) (by decide +kernel) rfl ?_
    refine hs_k (x := Int32.ofNat 11900) (p := 20) (by decide +kernel) ?_
    refine hs_br2n (c := .ge) (t := 41) (f := 23) (by decide +kernel) (by omega) (by omega) (fun (c20 : 11900 ≤ k) => ?_) (fun (c20 : ¬ (11900 ≤ k)) => ?_)
    · refine hs_k (x := Int32.ofNat 0) (p := 42) (by decide +kernel) ?_
      refine hs_istore (i := 1) (p := 43) (by decide +kernel) (Nat.le_of_ble_eq_true rfl) ?_
      exact rq_backK hA hai j1 j2 j3 j4 (k := 0) (by omega) (fun K' h1 => h W K' (fun i h1 h2 => by omega) (fun _ _ => rfl) (fun i hi => h1.1 i (Nat.zero_le _) hi)) (hm_same j4 j3.1)
    · refine hs_aload (i := 0) (p := 24) (by decide +kernel) rfl ?_
      refine hm_get hA (f := 1) (p := 27) (by decide +kernel) rfl hw ?_
      refine hs_iload (i := 1) (p := 28) (by decide +kernel) rfl ?_
      refine hs_aload (i := 0) (p := 29) (by decide +kernel) rfl ?_
      refine hm_get hA (f := 2) (p := 32) (by decide +kernel) rfl hi ?_
      refine hs_iload (i := 1) (p := 33) (by decide +kernel) rfl ?_
      refine hs_iald (p := 34) (by decide +kernel) ((hm_o i1 i2).trans i4) i3.2 (by decide) (by omega) ?_
      refine hm_ww hA (p := 35) (by decide +kernel) (by omega) ?_
      refine hs_iinc1 (i := 1) (p := 38) (by decide +kernel) rfl (Nat.le_of_ble_eq_true rfl) ?_
      refine hs_goto (p := 16) (by decide +kernel) ?_
      refine ih (11900 - (k + 1)) (by omega) (by omega) (fun V K' h1 h2 h3 => h V K' (fun i h4 h5 => ?_) (fun i h4 => (h2 i (by omega)).trans (hs_un (by omega))) h3) rfl
      by_cases e : i = k
      · subst e
        exact (h2 i (by omega)).trans hs_us
      · exact h1 i (by omega) h5
theorem rq_back (hA : hm_ok G am aw) (hw : F 1 = .ref aw) (hi : F 2 = .ref ia) {hm : Int32} (hh : F 3 = .int hm) {I : Nat → Int32} (i1 : ia ≠ am) (i2 : ia ≠ aw) (i3 : eg_NC ≤ ia ∧ ia < G.2) (i4 : eg_at G ia = .inl (0, (11900, .inl I))) (hai : F 18 = .ref ai) {K : Nat → Int32} (j1 : ai ≠ am) (j2 : ai ≠ aw) (j3 : eg_NC ≤ ai ∧ ai < G.2) (j4 : eg_at G ai = .inl (3, (4, .inl K))) (h0 : hm = 0 → Z (.inl (some (.int (Int32.ofNat 0))), hm_H G am aw (updV F 0 (.int (Int32.ofNat 0))) W, 0, 0)) (h : hm ≠ 0 → ∀ (V K' : Nat → Int32), (∀ i, i < 11900 → V i = I i) → (∀ i, 11900 ≤ i → V i = W i) → (∀ i, i < 4 → K' i = 0) → Z (.inl (some (.int (Int32.ofNat 1))), hm_H (eg_u G ai (.inl (3, (4, .inl K')))) am aw (updV F 0 (.int (Int32.ofNat 0))) V, 0, 0)) : et_go none d 176 0 [some (.ref am), none] [] (hm_H G am aw F W) 0 0 Z := by
  refine hs_aload (i := 0) (p := 1) (by decide +kernel) rfl ?_
  refine hs_k (x := Int32.ofNat 0) (p := 2) (by decide +kernel) ?_
  refine hm_put hA (f := 0) (ty := .int) (p := 5) (by decide +kernel) rfl rfl rfl ?_
  refine hs_aload (i := 0) (p := 6) (by decide +kernel) rfl ?_
  refine hm_get hA (f := 3) (p := 9) (by decide +kernel) rfl hh ?_
  refine hs_br1 (c := .ne) (t := 14) (f := 12) (by decide +kernel) (fun (c9 : ¬ hm = 0) => ?_) (fun (c9 : ¬ (¬ hm = 0)) => ?_)
  · refine hs_k (x := Int32.ofNat 0) (p := 15) (by decide +kernel) ?_
    refine hs_istore (i := 1) (p := 16) (by decide +kernel) (Nat.le_of_ble_eq_true rfl) ?_
    exact rq_backL (F := updV F 0 (.int (Int32.ofNat 0))) (Z := Z) hA hw hi i1 i2 i3 i4 hai j1 j2 j3 j4 (k := 0) (by omega) (fun V K' h1 h2 h3 => h c9 V K' (fun i hi => h1 i (Nat.zero_le _) hi) (fun i hi => h2 i (.inr hi)) h3)
  · refine hs_k (x := Int32.ofNat 0) (p := 13) (by decide +kernel) ?_
    refine hs_zret (by decide +kernel) (.inl rfl) ?_
    exact h0 (Classical.not_not.mp c9)
end RQI
section RQJ
variable {K : et_K} {G : eg_G} {d2 am aw ai h : Nat}
theorem fm_backI (hH : et_H et_TT K G) (k_am : K am = some 13) (h1 : et_pl (eg_at G am) 1 = some (.ref aw)) (h2 : et_pl (eg_at G am) 2 = some (.ref ai)) (hg : pg_at G am h) (hh1 : h ≤ 1) : et_go none d2 176 0 (eg_en (eg_mL 176) [.ref am]) [] G 0 0 (fun u => (h = 0 → ∀ ak, K ak = some 25 → et_pl (eg_at G am) 18 = some (.ref ak) → ∀ k, k < 4 → et_pl (eg_at u.2.1 ak) k = et_pl (eg_at G ak) k) ∧ (h = 1 → ∀ ak, et_pl (eg_at G am) 18 = some (.ref ak) → ∀ k, k < 4 → et_pl (eg_at u.2.1 ak) k = some (.int (Int32.ofNat 0)))) := by
  obtain ⟨F, W, aw', hA, eF, eW, hw, hKw, hF, hX, hW, hG, e⟩ := hi_mod hH k_am
  obtain rfl : aw' = aw := by
    rw [eF, hi_pF (by decide), hw] at h1
    exact Value.ref.inj (Option.some.inj h1)
  obtain ⟨ia, hi, hKi⟩ := hi_ref (hF 2 _ rfl)
  obtain rfl : ia = ai := by
    rw [eF, hi_pF (by decide), hi] at h2
    exact Value.ref.inj (Option.some.inj h2)
  obtain ⟨I, eI, -, -⟩ := hi_arr hH hKi et_t47 (by decide) (.inl rfl)
  obtain ⟨ak, hai, hKa⟩ := hi_ref (hF 18 _ rfl)
  obtain ⟨IK, eA, -, -⟩ := hi_arr (kd := 3) (n := 4) hH hKa rfl (by decide) (.inr (.inr (.inl rfl)))
  have hh := hi_h3 eF hg
  have n1 := hi_ne hKi k_am (by decide)
  have n2 := hi_ne hKi hKw (by decide)
  have g3 := hi_at hH hKi (by decide)
  have n4 : am ≠ ak := hi_ne k_am hKa (by decide)
  have n5 : aw' ≠ ak := hi_ne hKw hKa (by decide)
  have n6 : ia ≠ ak := hi_ne hKi hKa (by decide)
  rw [hi_mL176]
  have hq18 : ∀ q, et_pl (eg_at G am) 18 = some (.ref q) → q = ak := fun q h9 => by
    rw [eF, hi_pF (by decide), hai] at h9
    exact (Value.ref.inj (Option.some.inj h9)).symm
  have h0 := rq_back (d := d2) (W := W) (Z := fun u => (h = 0 → ∀ ak, K ak = some 25 → et_pl (eg_at G am) 18 = some (.ref ak) → ∀ k, k < 4 → et_pl (eg_at u.2.1 ak) k = et_pl (eg_at G ak) k) ∧ (h = 1 → ∀ ak, et_pl (eg_at G am) 18 = some (.ref ak) → ∀ k, k < 4 → et_pl (eg_at u.2.1 ak) k = some (.int (Int32.ofNat 0)))) hA hw hi hh n1 n2 g3 eI hai (fun h => n4 h.symm) (fun h => n5 h.symm) (hi_at hH hKa (by decide)) eA
    (fun z => ⟨fun _ q hq e k hk => by
      obtain rfl := hq18 q e
      dsimp only
      rw [hm_oo (fun h => n4 h.symm) (fun h => n5 h.symm)], fun h1 => by
      rw [h1] at z
      exact absurd z (by decide)⟩)
    (fun z V K' v1 v2 v3 => ⟨fun h9 => by
      rw [h9] at z
      exact absurd rfl z, fun _ q e k hk => by
      obtain rfl := hq18 q e
      have hA2 : hm_ok (eg_u G q (.inl (3, (4, .inl K')))) am aw' := hA
      dsimp only
      rw [hm_oo (fun h => n4 h.symm) (fun h => n5 h.symm), et_at_us (hi_at hH hKa (by decide)).1, hf_pl (.inr (.inr (.inl rfl))), if_pos hk, v3 k hk]
      rfl⟩)
  rw [← e] at h0
  exact h0
end RQJ
