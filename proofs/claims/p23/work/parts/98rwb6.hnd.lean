/-! PHASE D: SHOW, the reference's side -/
theorem tuE_te {FA TG : Nat → Int32} {li fa va kn sh : Int32} {wr ye : Bool} (h0 : FA 0 = fa) (h1 : FA 1 = va) (h2 : FA 2 = kn) (h3 : FA 3 = sh) (t0 : TG 0 = Int32.ofNat (if wr = true then 1 else 0)) (t1 : TG 1 = Int32.ofNat (if ye = true then 1 else 0)) {ls : List sp_L} (hl : ∀ l ∈ ls, lcl1 l) (b : Bool) : nuL b (teM FA TG li) ls = nuL b (tuE fa va kn sh wr ye) ls := by
  refine nuL_cl (fun w ha hb => ?_) (fun w ha hb => ?_) ls hl
  · rcases (show w = 10 ∨ w = 11 ∨ w = 12 ∨ w = 13 by omega) with rfl | rfl | rfl | rfl
    · show (FA 0).toInt64 = fa.toInt64
      rw [h0]
    · show (FA 1).toInt64 = va.toInt64
      rw [h1]
    · show (FA 2).toInt64 = kn.toInt64
      rw [h2]
    · show (FA 3).toInt64 = sh.toInt64
      rw [h3]
  · rcases (show w = 8 ∨ w = 9 by omega) with rfl | rfl
    · show decide (¬ TG 0 = 0) = wr
      rw [t0]
      cases wr <;> decide
    · show decide (¬ TG 1 = 0) = ye
      rw [t1]
      cases ye <;> decide
theorem fa_ex {K : et_K} {G : eg_G} {fa : Nat} (hH : et_H et_TT K G) (k_fa : K fa = some 14) : ∃ FA : Nat → Int32, ∀ o, o ≤ 4 → et_pl (eg_at G fa) o = some (.int (FA o)) := by
  obtain ⟨f, e, -, -⟩ := hi_arr hH k_fa rfl (by decide) (.inl rfl)
  exact ⟨f, fun o ho => by rw [e, hf_pl (.inl rfl), if_pos (by omega)]⟩
theorem tg_ex {K : et_K} {G : eg_G} {tg : Nat} (hH : et_H et_TT K G) (k_tg : K tg = some 24) : ∃ TG : Nat → Int32, ∀ o, o < 2 → et_pl (eg_at G tg) o = some (.int (TG o)) := by
  obtain ⟨f, e, -, -⟩ := hi_arr hH k_tg rfl (by decide) (.inr (.inr (.inl rfl)))
  exact ⟨f, fun o ho => by rw [e, hf_pl (.inr (.inr (.inl rfl))), if_pos ho]⟩
theorem at_eq {G : eg_G} {a i : Nat} {x y : Int32} (h : et_pl (eg_at G a) i = some (.int x)) (h2 : et_pl (eg_at G a) i = some (.int y)) : x = y := Value.int.inj (Option.some.inj (h.symm.trans h2))
/-- the other cells of the world stay -/
def owt (aw n : Nat) (G0 G : eg_G) : Prop := ∀ j, (j < 45 + 23 * n ∨ 68 + 23 * n ≤ j) → et_pl (eg_at G aw) j = et_pl (eg_at G0 aw) j
theorem owt.rf {aw n : Nat} {G : eg_G} : owt aw n G G := fun _ _ => rfl
theorem owt.tr {aw n : Nat} {G0 G G' : eg_G} (h : owt aw n G0 G) (h2 : owt aw n G G') : owt aw n G0 G' := fun j hj => (h2 j hj).trans (h j hj)
theorem owt.fr {K : et_K} {M : et_M} {aw n : Nat} {G0 G G' : eg_G} (h : owt aw n G0 G) (ka : K aw = some 46) (hf : et_fr M K G G') (hm : no_t M 46 = true) : owt aw n G0 G' := fun j hj => (hf.2 aw 46 ka j (no_mm hm)).trans (h j hj)
theorem owt.xs {S : Nat → Nat → Prop} {K : et_K} {aw n : Nat} {G0 G G' : eg_G} (h : owt aw n G0 G) (hH : et_H et_TT K G) (ka : K aw = some 46) (x : xf S G G') (hS : ∀ j, ¬ S aw j) : owt aw n G0 G' := fun j hj => (x.2 aw j (hH.2.2 _ _ ka).1 (hS j)).trans (h j hj)
theorem owt.w {K : et_K} {aw n p : Nat} {G0 G G' : eg_G} (h : owt aw n G0 G) (hH : et_H et_TT K G) (ka : K aw = some 46) (x : xf (fun b j => b = aw ∧ j = p) G G') (hp : 45 + 23 * n ≤ p ∧ p < 68 + 23 * n) : owt aw n G0 G' := fun j hj => (x.2 aw j (hH.2.2 _ _ ka).1 (fun hs => by have h9 := hs.2; omega)).trans (h j hj)
def shM : et_M := [(14, 0, 100000), (24, 0, 100000), (29, 0, 100000), (46, 45, 113)]
theorem shM_46 {i : Nat} (h1 : 45 ≤ i) (h2 : i ≤ 113) : et_mm shM 46 i = true := by
  simp [et_mm, shM]
  omega
theorem shM_14 {i : Nat} (h : i ≤ 4) : et_mm shM 14 i = true := by
  simp [et_mm, shM]
  omega
theorem shM_24 {i : Nat} (h : i ≤ 1) : et_mm shM 24 i = true := by
  simp [et_mm, shM]
  omega
theorem sh_x {K : et_K} {G G' : eg_G} {a t p : Nat} (hH : et_H et_TT K G) (ka : K a = some t) (x : xf (fun b j => b = a ∧ j = p) G G') (hm : et_mm shM t p = true) : et_fr shM K G G' := x.tfr hH (fun b u i hb h => by
  rw [h.1, ka] at hb
  cases hb
  rw [h.2]
  exact hm)
theorem evM.at {G G' : eg_G} {aw n w : Nat} {C N N' : Nat → Int32} {Kd : Nat → Nat} {l s t f l' s' t' f' : Int32} (h : evM G aw n w C Kd N l s t f) (g0 : et_pl (eg_at G' aw) (45 + 23 * n) = et_pl (eg_at G aw) (45 + 23 * n)) (gc : ∀ m, m < w → et_pl (eg_at G' aw) (45 + 23 * n + (1 + 3 * m + 0)) = et_pl (eg_at G aw) (45 + 23 * n + (1 + 3 * m + 0)) ∧ et_pl (eg_at G' aw) (45 + 23 * n + (1 + 3 * m + 1)) = et_pl (eg_at G aw) (45 + 23 * n + (1 + 3 * m + 1))) (gn : ∀ m, m < w → et_pl (eg_at G' aw) (45 + 23 * n + (1 + 3 * m + 2)) = some (.int (N' m))) (h1 : et_pl (eg_at G' aw) (45 + 23 * n + 19) = some (.int l')) (h2 : et_pl (eg_at G' aw) (45 + 23 * n + 22) = some (.int s')) (h3 : et_pl (eg_at G' aw) (45 + 23 * n + 20) = some (.int t')) (h4 : et_pl (eg_at G' aw) (45 + 23 * n + 21) = some (.int f')) : evM G' aw n w C Kd N' l' s' t' f' := ⟨g0.trans h.1, fun m hm => ⟨(gc m hm).1.trans (h.2.1 m hm).1, (gc m hm).2.trans (h.2.1 m hm).2.1, gn m hm⟩, h1, h2, h3, h4⟩
section VGM
variable {S : Nat → Nat → Prop} {M : et_M} {K : et_K} {G G' : eg_G} {d d2 aw am fa tg n w m k c q : Nat} {C N N' : Nat → Int32} {Kd : Nat → Nat} {l s t f x z z2 far sh v kv : Int32} {wr ye tb : Bool} {ls : List sp_L}
theorem evM.co (h : evM G aw n w C Kd N l s t f) (hn : ∀ k, k < w → N k = N' k) : evM G aw n w C Kd N' l s t f := ⟨h.1, fun m hm => by rw [← hn m hm]; exact h.2.1 m hm, h.2.2⟩
theorem evM.mv {aw' n' : Nat} (h : evM G aw n w C Kd N l s t f) (g : ∀ j, j < 23 → et_pl (eg_at G' aw') (45 + 23 * n' + j) = et_pl (eg_at G aw) (45 + 23 * n + j)) (hw : w ≤ 6) : evM G' aw' n' w C Kd N l s t f := ⟨(g 0 (by decide)).trans h.1, fun m hm => ⟨(g (1 + 3 * m + 0) (by omega)).trans (h.2.1 m hm).1, (g (1 + 3 * m + 1) (by omega)).trans (h.2.1 m hm).2.1, (g (1 + 3 * m + 2) (by omega)).trans (h.2.1 m hm).2.2⟩, (g 19 (by decide)).trans h.2.2.1, (g 22 (by decide)).trans h.2.2.2.1, (g 20 (by decide)).trans h.2.2.2.2.1, (g 21 (by decide)).trans h.2.2.2.2.2⟩
theorem evM.fr (h : evM G aw n w C Kd N l s t f) (ka : K aw = some 46) (hf : et_fr M K G G') (hm : no_t M 46 = true) (hw : w ≤ 6) : evM G' aw n w C Kd N l s t f := h.mv (fun j _ => hf.2 aw 46 ka _ (no_mm hm)) hw
theorem evM.xs (h : evM G aw n w C Kd N l s t f) (hH : et_H et_TT K G) (ka : K aw = some 46) (x : xf S G G') (hS : ∀ j, ¬ S aw j) (hw : w ≤ 6) : evM G' aw n w C Kd N l s t f := h.mv (fun j _ => x.2 aw _ (hH.2.2 _ _ ka).1 (hS _)) hw
/-- a KNOB is set -/
theorem evM.kp (h : evM G aw n w C Kd N l s t f) (hH : et_H et_TT K G) (ka : K aw = some 46) (x : xf (fun b j => b = aw ∧ j = q) G G') (hq : q = 45 + 23 * n + (1 + 3 * m + 2)) (hm : m < 6) (e : et_pl (eg_at G' aw) q = some (.int z)) : evM G' aw n w C Kd (kup N m z) l s t f := by
  have g : ∀ j, ¬ j = q → et_pl (eg_at G' aw) j = et_pl (eg_at G aw) j := fun j hj => x.2 aw j (hH.2.2 _ _ ka).1 (fun hs => hj hs.2)
  refine h.at (g _ (by omega)) (fun k hk => ⟨g _ (by omega), g _ (by omega)⟩) (fun k hk => ?_) ((g _ (by omega)).trans h.2.2.1) ((g _ (by omega)).trans h.2.2.2.1) ((g _ (by omega)).trans h.2.2.2.2.1) ((g _ (by omega)).trans h.2.2.2.2.2)
  unfold kup
  by_cases ek : k = m
  · rw [if_pos ek, ek, ← hq]
    exact e
  · rw [if_neg ek]
    exact (g _ (by omega)).trans (h.2.1 k hk).2.2
theorem evM.pl (h : evM G aw n w C Kd N l s t f) (hH : et_H et_TT K G) (ka : K aw = some 46) (x : xf (fun b j => b = aw ∧ j = q) G G') (hq : q = 45 + 23 * n + 19) (hw : w ≤ 6) (e : et_pl (eg_at G' aw) q = some (.int z)) : evM G' aw n w C Kd N z s t f := by
  have g : ∀ j, ¬ j = q → et_pl (eg_at G' aw) j = et_pl (eg_at G aw) j := fun j hj => x.2 aw j (hH.2.2 _ _ ka).1 (fun hs => hj hs.2)
  exact h.at (g _ (by omega)) (fun k hk => ⟨g _ (by omega), g _ (by omega)⟩) (fun k hk => (g _ (by omega)).trans (h.2.1 k hk).2.2) (by rw [← hq]; exact e) ((g _ (by omega)).trans h.2.2.2.1) ((g _ (by omega)).trans h.2.2.2.2.1) ((g _ (by omega)).trans h.2.2.2.2.2)
theorem evM.ps (h : evM G aw n w C Kd N l s t f) (hH : et_H et_TT K G) (ka : K aw = some 46) (x : xf (fun b j => b = aw ∧ j = q) G G') (hq : q = 45 + 23 * n + 22) (hw : w ≤ 6) (e : et_pl (eg_at G' aw) q = some (.int z)) : evM G' aw n w C Kd N l z t f := by
  have g : ∀ j, ¬ j = q → et_pl (eg_at G' aw) j = et_pl (eg_at G aw) j := fun j hj => x.2 aw j (hH.2.2 _ _ ka).1 (fun hs => hj hs.2)
  exact h.at (g _ (by omega)) (fun k hk => ⟨g _ (by omega), g _ (by omega)⟩) (fun k hk => (g _ (by omega)).trans (h.2.1 k hk).2.2) ((g _ (by omega)).trans h.2.2.1) (by rw [← hq]; exact e) ((g _ (by omega)).trans h.2.2.2.2.1) ((g _ (by omega)).trans h.2.2.2.2.2)
theorem sg_a {z : Int32} : (z >>> (Int32.ofNat 31 &&& 31)).toInt = z.toInt / 2147483648 := by
  have h1 : (z >>> (Int32.ofNat 31 &&& 31)).toInt = (z.toBitVec.sshiftRight ((Int32.ofNat 31 &&& 31).toBitVec.smod 32).toNat).toInt := rfl
  rw [h1, show ((Int32.ofNat 31 &&& 31).toBitVec.smod 32).toNat = 31 from by decide +kernel, BitVec.toInt_sshiftRight, Int.shiftRight_eq_div_pow]
  rfl
theorem sg_b {y : Int32} : ∃ q : Nat, q ≤ 1 ∧ q = y.toUInt32.toNat / 2147483648 ∧ (y.toUInt32 >>> ((Int32.ofNat 31).toUInt32 &&& Int32.toUInt32 31)).toInt32 = Int32.ofNat q := by
  have e2 : ((Int32.ofNat 31).toUInt32 &&& Int32.toUInt32 31).toNat = 31 := by decide +kernel
  have e3 : (y.toUInt32 >>> ((Int32.ofNat 31).toUInt32 &&& Int32.toUInt32 31)).toNat = y.toUInt32.toNat / 2147483648 := by
    rw [UInt32.toNat_shiftRight, e2, Nat.shiftRight_eq_div_pow]
  have h3 : y.toUInt32.toNat ≤ 4294967295 := Nat.le_of_lt_succ y.toUInt32.toNat_lt
  have hl : y.toUInt32.toNat / 2147483648 ≤ 1 := by omega
  refine ⟨_, hl, rfl, ?_⟩
  generalize (y.toUInt32 >>> ((Int32.ofNat 31).toUInt32 &&& Int32.toUInt32 31)) = x at e3
  have hx : x = UInt32.ofNat (y.toUInt32.toNat / 2147483648) := UInt32.toNat_inj.mp (by rw [e3, UInt32.toNat_ofNat_of_lt' (by show _ < 4294967296; omega)])
  rw [hx]
  have h0 : ∀ k ∈ List.range 2, (UInt32.ofNat k).toInt32 = Int32.ofNat k := by decide +kernel
  exact h0 _ (List.mem_range.mpr (by omega))
theorem sgn_eq {z : Int32} : ((z >>> (Int32.ofNat 31 &&& 31)) ||| ((-z).toUInt32 >>> ((Int32.ofNat 31).toUInt32 &&& Int32.toUInt32 31)).toInt32) = sgI z := by
  obtain ⟨q, hq, hq2, e⟩ := sg_b (y := -z)
  have hb := by_i (v := -z)
  have hlt := z.toInt_lt
  have hle := Int32.le_toInt z
  have h3 : (-z).toUInt32.toNat ≤ 4294967295 := Nat.le_of_lt_succ (-z).toUInt32.toNat_lt
  rw [e]
  by_cases h : 0 < z.toInt
  · have ea : z >>> (Int32.ofNat 31 &&& 31) = 0 := Int32.toInt_inj.mp (by rw [sg_a, show (0 : Int32).toInt = 0 from rfl]; omega)
    have en : (-z).toInt = -z.toInt := by
      rw [Int32.toInt_neg, Int.bmod_def]
      simp only [Nat.reducePow]
      omega
    have h1 : q = 1 := by omega
    rw [ea, h1, sg_p (xi_gt0.mpr h)]
    decide
  · by_cases h0 : z.toInt = 0
    · have ez : z = 0 := Int32.toInt_inj.mp (by rw [h0]; rfl)
      have h1 : q = 0 := by
        rw [hq2, ez]
        decide
      rw [h1, ez]
      decide
    · have ea : z >>> (Int32.ofNat 31 &&& 31) = (-1) := Int32.toInt_inj.mp (by rw [sg_a, show (-1 : Int32).toInt = -1 from rfl]; omega)
      rw [ea, sg_n (xi_le0.mpr (by omega)) (xi_lt0.mpr (by omega))]
      rcases (show q = 0 ∨ q = 1 by omega) with h1 | h1 <;> rw [h1] <;> decide
theorem fn_held : et_go none d2 251 0 (eg_en (eg_mL 251) [.int z, .int z2]) [] G 0 0 (xp_Z G (some (.int (wiI z z2)))) := by
  rw [show eg_mL 251 = 2 from by decide +kernel]
  show et_go none d2 251 0 [some (.int z), some (.int z2)] [] G 0 0 _
  refine hs_iload (i := 1) (p := 1) (by decide +kernel) rfl ?_
  refine hs_st (ins := .ineg) (len := 1) (p := 2) (by decide +kernel) rfl rfl ?_
  refine hs_iload (i := 1) (p := 3) (by decide +kernel) rfl ?_
  refine hs_iload (i := 0) (p := 4) (by decide +kernel) rfl ?_
  refine hs_math (mi := 311) (lk := 2) (p := 7) (by decide +kernel) rfl rfl rfl rfl ?_
  refine hs_math (mi := 310) (lk := 2) (p := 10) (by decide +kernel) rfl rfl rfl rfl ?_
  refine hs_iret (by decide +kernel) ?_
  rfl
theorem fn_sg : et_go none d2 308 0 (eg_en (eg_mL 308) [.int z]) [] G 0 0 (xp_Z G (some (.int (sgI z)))) := by
  rw [show eg_mL 308 = 1 from by decide +kernel]
  show et_go none d2 308 0 [some (.int z)] [] G 0 0 _
  refine hs_iload (i := 0) (p := 1) (by decide +kernel) rfl ?_
  refine hs_k (x := Int32.ofNat 31) (p := 3) (by decide +kernel) ?_
  refine hs_st (ins := .ishr) (len := 1) (p := 4) (by decide +kernel) rfl rfl ?_
  refine hs_iload (i := 0) (p := 5) (by decide +kernel) rfl ?_
  refine hs_st (ins := .ineg) (len := 1) (p := 6) (by decide +kernel) rfl rfl ?_
  refine hs_k (x := Int32.ofNat 31) (p := 8) (by decide +kernel) ?_
  refine hs_st (ins := .iushr) (len := 1) (p := 9) (by decide +kernel) rfl rfl ?_
  refine hs_st (ins := .ior) (len := 1) (p := 10) (by decide +kernel) rfl rfl ?_
  refine hs_iret (by decide +kernel) ?_
  dsimp only
  rw [sgn_eq]
  rfl
theorem fn_stk (hH : et_H et_TT K G) (k_am : K am = some 13) (k_aw : K aw = some 46) (m1 : et_pl (eg_at G am) 1 = some (.ref aw)) (hn : n < 3) (h6 : et_pl (eg_at G aw) (45 + 23 * n + 20) = some (.int t)) (hd : 1 ≤ d2) : et_go none d2 248 0 (eg_en (eg_mL 248) [.ref am, .int (Int32.ofNat n), .int (Int32.ofNat m)]) [] G 0 0 (xp_Z G (some (.int (Int32.ofNat (if stB t m = true then 1 else 0))))) := by
  obtain ⟨d, rfl⟩ : ∃ d, d2 = d + 1 := ⟨d2 - 1, by omega⟩
  rw [show eg_mL 248 = 3 from by decide +kernel]
  show et_go none (d + 1) 248 0 [some (.ref am), some (.int (Int32.ofNat n)), some (.int (Int32.ofNat m))] [] G 0 0 _
  refine hs_aload (i := 0) (p := 1) (by decide +kernel) rfl ?_
  refine hs_iload (i := 1) (p := 2) (by decide +kernel) rfl ?_
  refine hs_k (x := Int32.ofNat 20) (p := 4) (by decide +kernel) ?_
  refine ht_callv (T := et_TT) (t := 13) (mi := 225) (na := 2) (ci := 11) (lk := 3) (lm := 3) (L0 := eg_en (eg_mL 225) [.ref am, .int (Int32.ofNat n), .int (Int32.ofNat 20)]) (by decide +kernel) rfl hH k_am rfl rfl rfl rfl rfl (by rw [show eg_mL 225 = 3 from by decide +kernel]; first | done | rfl) ?_
  refine (fn_of hH k_am k_aw m1 (by omega) h6).mono (fun u hu => xp_cb hu ?_)
  show et_go none _ 248 7 _ [.int t] _ _ _ _
  refine hs_iload (i := 2) (p := 8) (by decide +kernel) rfl ?_
  refine hs_st (ins := .ishr) (len := 1) (p := 9) (by decide +kernel) rfl rfl ?_
  refine hs_k (x := Int32.ofNat 1) (p := 10) (by decide +kernel) ?_
  refine hs_st (ins := .iand) (len := 1) (p := 11) (by decide +kernel) rfl rfl ?_
  refine hs_k (x := Int32.ofNat 1) (p := 12) (by decide +kernel) ?_
  refine hs_br2 (c := .ne) (t := 19) (f := 15) (by decide +kernel) (fun (c12 : ¬ ((t >>> ((Int32.ofNat m) &&& 31)) &&& (Int32.ofNat 1)) = Int32.ofNat 1) => ?_) (fun (c12 : ¬ (¬ ((t >>> ((Int32.ofNat m) &&& 31)) &&& (Int32.ofNat 1)) = Int32.ofNat 1)) => ?_)
  · refine hs_k (x := Int32.ofNat 0) (p := 20) (by decide +kernel) ?_
    refine hs_zret (by decide +kernel) (.inl rfl) ?_
    rw [if_neg (show ¬ stB t m = true from fun h => (one_bit.elim (fun h1 => of_decide_eq_true h h1) (fun h1 => c12 h1)))]
    rfl
  · refine hs_k (x := Int32.ofNat 1) (p := 16) (by decide +kernel) ?_
    refine hs_goto (p := 20) (by decide +kernel) ?_
    refine hs_zret (by decide +kernel) (.inr rfl) ?_
    have c12 := Decidable.of_not_not c12
    rw [if_pos (show stB t m = true from decide_eq_true (fun h => by rw [h] at c12; exact absurd c12 (by decide)))]
    rfl
theorem fn_num {Z : eg_O → Prop} {kd : Nat} {t : Bool} (hH : et_H et_TT K G) (k_am : K am = some 13) (k_aw : K aw = some 46) (m1 : et_pl (eg_at G am) 1 = some (.ref aw)) (k_fa : K fa = some 14) (k_tg : K tg = some 24) (m14 : et_pl (eg_at G am) 14 = some (.ref fa)) (m15 : et_pl (eg_at G am) 15 = some (.ref tg)) (hk : k < 4) (hT : tuT G aw (126 + 841 * (4 + k)) 1 ls) (hcl : ∀ l ∈ ls, lcl1 l) (hkd : kd = if t = true then 0 else 1) (g0 : et_pl (eg_at G fa) 0 = some (.int far)) (g3 : et_pl (eg_at G fa) 3 = some (.int sh)) (t0 : et_pl (eg_at G tg) 0 = some (.int (Int32.ofNat (if wr = true then 1 else 0)))) (t1 : et_pl (eg_at G tg) 1 = some (.int (Int32.ofNat (if ye = true then 1 else 0)))) (hd : 4 ≤ d2) (h : ∀ (K' : et_K) (G' : eg_G), et_ex K K' → et_H et_TT K' G' → et_fr [(14, 1, 2), (29, 0, 399)] K G G' → Z (.inl (some (.int (Int32.ofNat (nuL t (tuE far v (abI kv) sh wr ye) ls)))), G', 0, 0)) : et_go none d2 249 0 (eg_en (eg_mL 249) [.ref am, .int (Int32.ofNat k), .int (Int32.ofNat kd), .int v, .int kv]) [] G 0 0 Z := by
  obtain ⟨d, rfl⟩ : ∃ d, d2 = d + 4 := ⟨d2 - 4, by omega⟩
  have hH0 := hH
  rw [show eg_mL 249 = 7 from by decide +kernel]
  show et_go none (d + 4) 249 0 [some (.ref am), some (.int (Int32.ofNat k)), some (.int (Int32.ofNat kd)), some (.int v), some (.int kv), none, none] [] G 0 0 _
  have lt_am := (hH.2.2 _ _ k_am).1
  have lt_aw := (hH.2.2 _ _ k_aw).1
  have lt_fa := (hH.2.2 _ _ k_fa).1
  have lt_tg := (hH.2.2 _ _ k_tg).1
  have hX : xf (fun b j => (b = fa ∧ (1 ≤ j ∧ j ≤ 2))) G G := xf.rf
  refine hs_k (x := Int32.ofNat 4) (p := 1) (by decide +kernel) ?_
  refine hs_iload (i := 1) (p := 2) (by decide +kernel) rfl ?_
  refine hs_iaddn (p := 3) (by decide +kernel) ?_
  refine hs_istore (i := 5) (p := 5) (by decide +kernel) (Nat.le_of_ble_eq_true rfl) ?_
  refine hs_aload (i := 0) (p := 6) (by decide +kernel) rfl ?_
  refine hf_get (T := et_TT) (t := 13) (ci := 11) (f := 14) (p := 9) (by decide +kernel) rfl hH k_am m14 ?_
  refine hs_k (x := Int32.ofNat 1) (p := 10) (by decide +kernel) ?_
  refine hs_iload (i := 3) (p := 11) (by decide +kernel) rfl ?_
  refine hf_ist (T := et_TT) (t := 14) (N := 5) (p := 12) (by decide +kernel) rfl rfl (by decide) hH k_fa (by omega) (by decide) (fun s hs => absurd hs List.not_mem_nil) (fun G11 hH x11 e11 => ?_)
  have m1 := (x11.2 am 1 lt_am (fun h => (hi_ne k_am k_fa (by decide)) h.1)).trans m1
  have m14 := (x11.2 am 14 lt_am (fun h => (hi_ne k_am k_fa (by decide)) h.1)).trans m14
  have m15 := (x11.2 am 15 lt_am (fun h => (hi_ne k_am k_fa (by decide)) h.1)).trans m15
  have g0 := (x11.2 fa 0 lt_fa (fun h => absurd h.2 (by decide))).trans g0
  have g3 := (x11.2 fa 3 lt_fa (fun h => absurd h.2 (by decide))).trans g3
  have t0 := (x11.2 tg 0 lt_tg (fun h => (hi_ne k_tg k_fa (by decide)) h.1)).trans t0
  have t1 := (x11.2 tg 1 lt_tg (fun h => (hi_ne k_tg k_fa (by decide)) h.1)).trans t1
  have lt_am := Nat.lt_of_lt_of_le lt_am x11.1
  have lt_aw := Nat.lt_of_lt_of_le lt_aw x11.1
  have lt_fa := Nat.lt_of_lt_of_le lt_fa x11.1
  have lt_tg := Nat.lt_of_lt_of_le lt_tg x11.1
  have hX := hX.tr x11 (fun b j hb h => by first | omega | (dsimp only at h ⊢; omega) | (dsimp only at h; omega) | (dsimp only; omega))
  refine hs_aload (i := 0) (p := 13) (by decide +kernel) rfl ?_
  refine hf_get (T := et_TT) (t := 13) (ci := 11) (f := 14) (p := 16) (by decide +kernel) rfl hH k_am m14 ?_
  refine hs_k (x := Int32.ofNat 2) (p := 17) (by decide +kernel) ?_
  refine hs_iload (i := 4) (p := 19) (by decide +kernel) rfl ?_
  refine hs_math (mi := 309) (lk := 7) (p := 22) (by decide +kernel) rfl rfl rfl rfl ?_
  refine hf_ist (T := et_TT) (t := 14) (N := 5) (p := 23) (by decide +kernel) rfl rfl (by decide) hH k_fa (by omega) (by decide) (fun s hs => absurd hs List.not_mem_nil) (fun G22 hH x22 e22 => ?_)
  have m1 := (x22.2 am 1 lt_am (fun h => (hi_ne k_am k_fa (by decide)) h.1)).trans m1
  have m14 := (x22.2 am 14 lt_am (fun h => (hi_ne k_am k_fa (by decide)) h.1)).trans m14
  have m15 := (x22.2 am 15 lt_am (fun h => (hi_ne k_am k_fa (by decide)) h.1)).trans m15
  have g0 := (x22.2 fa 0 lt_fa (fun h => absurd h.2 (by decide))).trans g0
  have g3 := (x22.2 fa 3 lt_fa (fun h => absurd h.2 (by decide))).trans g3
  have t0 := (x22.2 tg 0 lt_tg (fun h => (hi_ne k_tg k_fa (by decide)) h.1)).trans t0
  have t1 := (x22.2 tg 1 lt_tg (fun h => (hi_ne k_tg k_fa (by decide)) h.1)).trans t1
  have e11 := (x22.2 fa 1 lt_fa (fun h => absurd h.2 (by decide))).trans e11
  have lt_am := Nat.lt_of_lt_of_le lt_am x22.1
  have lt_aw := Nat.lt_of_lt_of_le lt_aw x22.1
  have lt_fa := Nat.lt_of_lt_of_le lt_fa x22.1
  have lt_tg := Nat.lt_of_lt_of_le lt_tg x22.1
  have hX := hX.tr x22 (fun b j hb h => by first | omega | (dsimp only at h ⊢; omega) | (dsimp only at h; omega) | (dsimp only; omega))
  refine hs_k (x := Int32.ofNat 0) (p := 24) (by decide +kernel) ?_
  refine hs_istore (i := 6) (p := 26) (by decide +kernel) (Nat.le_of_ble_eq_true rfl) ?_
  show et_go none (d + 4) 249 26 [some (.ref am), some (.int (Int32.ofNat k)), some (.int (Int32.ofNat kd)), some (.int v), some (.int kv), some (.int (Int32.ofNat (4 + k))), some (.int (Int32.ofNat 0))] [] _ _ _ _
  obtain ⟨FA, hfa⟩ := fa_ex hH k_fa
  obtain ⟨TG, htg⟩ := tg_ex hH k_tg
  obtain ⟨li, m16, -, -⟩ := hf_iv (f := 16) hH k_am rfl rfl
  have hT2 := hT.mp (fun j hj => hX.2 aw _ (hH0.2.2 _ _ k_aw).1 (fun h => hi_ne k_aw k_fa (by decide) h.1))
  refine fn_numL (FA := FA) (TG := TG) (li := li) hH k_am k_aw k_fa k_tg m1 m14 m15 m16 hfa htg hk hT2 hkd (Nat.zero_le _) (fun K9 G9 h1 h2 h3 => ?_)
  have h9 := h K9 G9 h1 h2 ((hX.tfr hH0 (M := [(14, 1, 2), (29, 0, 399)]) (fun a t i ha h => by rw [h.1, k_fa] at ha; cases ha; have h8 := h.2; simp [et_mm]; omega)).tr et_ex.rf (h3.wk (by decide +kernel)))
  rw [List.drop_zero, tuE_te (at_eq (hfa 0 (by decide)) g0) (at_eq (hfa 1 (by decide)) e11) (at_eq (hfa 2 (by decide)) e22) (at_eq (hfa 3 (by decide)) g3) (at_eq (htg 0 (by decide)) t0) (at_eq (htg 1 (by decide)) t1) hcl]
  exact h9
theorem fn_knobU (hH : et_H et_TT K G) (k_am : K am = some 13) (k_aw : K aw = some 46) (m1 : et_pl (eg_at G am) 1 = some (.ref aw)) (hn : n < 3) (hw : w ≤ 6) (hkd : ∀ m, m < w → Kd m ≤ 2) (hv : evM G aw n w C Kd N l s t f) (hm : m < w) (e : N m = z) (hd : 1 ≤ d2) : et_go none d2 231 0 (eg_en (eg_mL 231) [.ref am, .int (Int32.ofNat n), .int (Int32.ofNat m)]) [] G 0 0 (xp_Z G (some (.int z))) := by
  rw [← e]
  exact fn_knob hH k_am k_aw m1 hn hw hkd hv hm hd
theorem fn_fallL {Z : eg_O → Prop} {x9 : Option Value} {K0 : et_K} {G0 : eg_G} (hH : et_H et_TT K G) (k_am : K am = some 13) (k_aw : K aw = some 46) (m1 : et_pl (eg_at G am) 1 = some (.ref aw)) (k_fa : K fa = some 14) (k_tg : K tg = some 24) (hn : n < 3) (hw : w ≤ 6) (hkd : ∀ m, m < w → Kd m ≤ 2) (hv : evM G aw n w C Kd (upU t (nwf N) N m) l s t f) (hx0 : et_ex K0 K) (hf : et_fr shM K0 G0 G) (ho : owt aw n G0 G) (hm : m ≤ w) (h : ∀ (K' : et_K) (G' : eg_G), et_ex K0 K' → et_H et_TT K' G' → et_fr shM K0 G0 G' → owt aw n G0 G' → evM G' aw n w C Kd (upU t (nwf N) N w) l s t f → Z (.inl (some (.int (Int32.ofNat (if wr = true then 1 else 0)))), G', 0, 0)) : et_go none (d + 9) 247 289 [some (.ref am), some (.int (Int32.ofNat n)), some (.int (Int32.ofNat c)), some (.int (Int32.ofNat k)), some (.int (Int32.ofNat (45 + 23 * n))), some (.int x), some (.int (Int32.ofNat (if wr = true then 1 else 0))), some (.int z), some (.int (Int32.ofNat m)), x9] [] G 0 0 Z := by
  induction hz : w - m using Nat.strongRecOn generalizing m G with
  | _ q9 ih =>
    have lt_am := (hH.2.2 _ _ k_am).1
    have lt_aw := (hH.2.2 _ _ k_aw).1
    have lt_fa := (hH.2.2 _ _ k_fa).1
    have lt_tg := (hH.2.2 _ _ k_tg).1
    refine hs_iload (i := 8) (p := 291) (by decide +kernel) rfl ?_
    refine hs_aload (i := 0) (p := 292) (by decide +kernel) rfl ?_
    refine hs_iload (i := 1) (p := 293) (by decide +kernel) rfl ?_
    refine ht_callv (T := et_TT) (t := 13) (mi := 224) (na := 1) (ci := 11) (lk := 10) (lm := 2) (L0 := eg_en (eg_mL 224) [.ref am, .int (Int32.ofNat n)]) (by decide +kernel) rfl hH k_am rfl rfl rfl rfl rfl (by rw [show eg_mL 224 = 2 from by decide +kernel]; first | done | rfl) ?_
    refine (fn_wires hH k_am k_aw m1 hn hv.1 (by omega)).mono (fun u hu => xp_cb hu ?_)
    show et_go none _ 247 296 _ [.int (Int32.ofNat w), .int (Int32.ofNat m)] _ _ _ _
    refine hs_br2n (c := .ge) (t := 340) (f := 299) (by decide +kernel) (by omega) (by omega) (fun (c296 : w ≤ m) => ?_) (fun (c296 : ¬ (w ≤ m)) => ?_)
    · refine hs_iload (i := 6) (p := 342) (by decide +kernel) rfl ?_
      refine hs_zret (by decide +kernel) (by split; exact .inr rfl; exact .inl rfl) ?_
      obtain rfl : w = m := by omega
      exact h _ _ hx0 hH hf ho hv
    · refine hs_aload (i := 0) (p := 300) (by decide +kernel) rfl ?_
      refine hs_iload (i := 1) (p := 301) (by decide +kernel) rfl ?_
      refine hs_iload (i := 8) (p := 303) (by decide +kernel) rfl ?_
      refine ht_callv (T := et_TT) (t := 13) (mi := 248) (na := 2) (ci := 11) (lk := 10) (lm := 3) (L0 := eg_en (eg_mL 248) [.ref am, .int (Int32.ofNat n), .int (Int32.ofNat m)]) (by decide +kernel) rfl hH k_am rfl rfl rfl rfl rfl (by rw [show eg_mL 248 = 3 from by decide +kernel]; first | done | rfl) ?_
      refine (fn_stk hH k_am k_aw m1 hn hv.2.2.2.2.1 (by omega)).mono (fun u hu => xp_cb hu ?_)
      by_cases qs : stB t m = true
      · rw [if_pos qs]
        show et_go none _ 247 306 _ [.int (Int32.ofNat 1)] _ _ _ _
        refine hs_if1 (c := .ne) (t := 334) (f := 309) (by decide +kernel) (show ¬ Int32.ofNat 1 = 0 by decide) ?_
        refine hs_iinc1 (i := 8) (p := 337) (by decide +kernel) rfl (Nat.le_of_ble_eq_true rfl) ?_
        refine hs_goto (p := 289) (by decide +kernel) ?_
        show et_go none (d + 9) 247 289 [some (.ref am), some (.int (Int32.ofNat n)), some (.int (Int32.ofNat c)), some (.int (Int32.ofNat k)), some (.int (Int32.ofNat (45 + 23 * n))), some (.int x), some (.int (Int32.ofNat (if wr = true then 1 else 0))), some (.int z), some (.int (Int32.ofNat (m + 1))), x9] [] _ _ _ _
        have hv := hv.co (N' := upU t (nwf N) N (m + 1)) (fun k _ => upU_n qs k)
        exact ih (w - (m + 1)) (by omega) hH m1 hv hf ho (by omega) rfl
      · rw [if_neg qs]
        show et_go none _ 247 306 _ [.int (Int32.ofNat 0)] _ _ _ _
        refine hs_if0 (c := .ne) (t := 334) (f := 309) (by decide +kernel) (show ¬ (¬ Int32.ofNat 0 = 0) by decide) ?_
        refine hs_aload (i := 0) (p := 310) (by decide +kernel) rfl ?_
        refine hf_get (T := et_TT) (t := 13) (ci := 11) (f := 1) (p := 313) (by decide +kernel) rfl hH k_am m1 ?_
        refine hs_iload (i := 1) (p := 314) (by decide +kernel) rfl ?_
        refine hs_iload (i := 8) (p := 316) (by decide +kernel) rfl ?_
        refine hs_k (x := Int32.ofNat 2) (p := 317) (by decide +kernel) ?_
        refine hs_calls (mi := 226) (na := 3) (lk := 10) (lm := 3) (L0 := eg_en (eg_mL 226) [.int (Int32.ofNat n), .int (Int32.ofNat m), .int (Int32.ofNat 2)]) (by decide +kernel) rfl rfl rfl rfl rfl rfl (by rw [show eg_mL 226 = 3 from by decide +kernel]; first | done | rfl) ?_
        refine (fn_wireAt).mono (fun u hu => xp_cb hu ?_)
        show et_go none _ 247 320 _ [.int (Int32.ofNat (45 + 23 * n + (1 + 3 * m + 2))), .ref aw] _ _ _ _
        refine hs_dup2 (p := 321) (by decide +kernel) ?_
        refine hf_ald (ins := .iaload) (T := et_TT) (t := 46) (kd := 0) (N := 12741) (p := 322) (by decide +kernel) (fun _ _ _ _ _ _ _ _ _ _ => rfl) rfl rfl rfl hH k_aw (by decide) ((hv.2.1 m (by omega)).2.2.trans (by rw [upU_s])) ?_
        refine hs_aload (i := 0) (p := 323) (by decide +kernel) rfl ?_
        refine hs_iload (i := 1) (p := 324) (by decide +kernel) rfl ?_
        refine hs_iload (i := 8) (p := 326) (by decide +kernel) rfl ?_
        refine ht_callv (T := et_TT) (t := 13) (mi := 231) (na := 2) (ci := 11) (lk := 10) (lm := 3) (L0 := eg_en (eg_mL 231) [.ref am, .int (Int32.ofNat n), .int (Int32.ofNat m)]) (by decide +kernel) rfl hH k_am rfl rfl rfl rfl rfl (by rw [show eg_mL 231 = 3 from by decide +kernel]; first | done | rfl) ?_
        refine (fn_knobU hH k_am k_aw m1 hn hw hkd hv (by omega) upU_s (by omega)).mono (fun u hu => xp_cb hu ?_)
        show et_go none _ 247 329 _ [.int (N m), .int (N m), .int (Int32.ofNat (45 + 23 * n + (1 + 3 * m + 2))), .ref aw] _ _ _ _
        refine hs_calls (mi := 308) (na := 1) (lk := 10) (lm := 1) (L0 := eg_en (eg_mL 308) [.int (N m)]) (by decide +kernel) rfl rfl rfl rfl rfl rfl (by rw [show eg_mL 308 = 1 from by decide +kernel]; first | done | rfl) ?_
        refine (fn_sg).mono (fun u hu => xp_cb hu ?_)
        show et_go none _ 247 332 _ [.int (sgI (N m)), .int (N m), .int (Int32.ofNat (45 + 23 * n + (1 + 3 * m + 2))), .ref aw] _ _ _ _
        refine hs_isub (p := 333) (by decide +kernel) ?_
        have hHo := hH
        refine hf_wst (p := 334) (by decide +kernel) hH k_aw (by omega) (wx_ok (e := n) (k := 1 + 3 * m + 2) (by omega) (by omega) (fun h => absurd h (by omega))) (fun G333 hH x333 e333 => ?_)
        have hv := hv.kp (m := m) hHo k_aw x333 (by omega) (by omega) e333
        have ho := ho.w hHo k_aw x333 (by omega)
        have hf := hf.tr hx0 (sh_x hHo k_aw x333 (shM_46 (by omega) (by omega)))
        have m1 := (x333.2 am 1 lt_am (fun h => (hi_ne k_am k_aw (by decide)) h.1)).trans m1
        have lt_am := Nat.lt_of_lt_of_le lt_am x333.1
        have lt_aw := Nat.lt_of_lt_of_le lt_aw x333.1
        have lt_fa := Nat.lt_of_lt_of_le lt_fa x333.1
        have lt_tg := Nat.lt_of_lt_of_le lt_tg x333.1
        refine hs_iinc1 (i := 8) (p := 337) (by decide +kernel) rfl (Nat.le_of_ble_eq_true rfl) ?_
        refine hs_goto (p := 289) (by decide +kernel) ?_
        show et_go none (d + 9) 247 289 [some (.ref am), some (.int (Int32.ofNat n)), some (.int (Int32.ofNat c)), some (.int (Int32.ofNat k)), some (.int (Int32.ofNat (45 + 23 * n))), some (.int x), some (.int (Int32.ofNat (if wr = true then 1 else 0))), some (.int z), some (.int (Int32.ofNat (m + 1))), x9] [] _ _ _ _
        have hv := hv.co (N' := upU t (nwf N) N (m + 1)) (fun k _ => upU_y (nw := nwf N) (stB_f qs) k)
        exact ih (w - (m + 1)) (by omega) hH m1 hv hf ho (by omega) rfl
theorem fn_fl {Z : eg_O → Prop} {x8 x9 : Option Value} {K0 : et_K} {G0 : eg_G} (hH : et_H et_TT K G) (k_am : K am = some 13) (k_aw : K aw = some 46) (m1 : et_pl (eg_at G am) 1 = some (.ref aw)) (k_fa : K fa = some 14) (k_tg : K tg = some 24) (hn : n < 3) (hw : w ≤ 6) (hkd : ∀ m, m < w → Kd m ≤ 2) (hv : evM G aw n w C Kd N l s t f) (hx0 : et_ex K0 K) (hf : et_fr shM K0 G0 G) (ho : owt aw n G0 G) (h : ∀ (K' : et_K) (G' : eg_G), et_ex K0 K' → et_H et_TT K' G' → et_fr shM K0 G0 G' → owt aw n G0 G' → evM G' aw n w C Kd (if flB s f = true then upU t (nwf N) N w else N) l s t f → Z (.inl (some (.int (Int32.ofNat (if wr = true then 1 else 0)))), G', 0, 0)) : et_go none (d + 9) 247 258 [some (.ref am), some (.int (Int32.ofNat n)), some (.int (Int32.ofNat c)), some (.int (Int32.ofNat k)), some (.int (Int32.ofNat (45 + 23 * n))), some (.int x), some (.int (Int32.ofNat (if wr = true then 1 else 0))), some (.int z), x8, x9] [] G 0 0 Z := by
  have lt_am := (hH.2.2 _ _ k_am).1
  have lt_aw := (hH.2.2 _ _ k_aw).1
  have lt_fa := (hH.2.2 _ _ k_fa).1
  have lt_tg := (hH.2.2 _ _ k_tg).1
  refine hs_aload (i := 0) (p := 259) (by decide +kernel) rfl ?_
  refine hs_iload (i := 1) (p := 260) (by decide +kernel) rfl ?_
  refine hs_k (x := Int32.ofNat 21) (p := 262) (by decide +kernel) ?_
  refine ht_callv (T := et_TT) (t := 13) (mi := 225) (na := 2) (ci := 11) (lk := 10) (lm := 3) (L0 := eg_en (eg_mL 225) [.ref am, .int (Int32.ofNat n), .int (Int32.ofNat 21)]) (by decide +kernel) rfl hH k_am rfl rfl rfl rfl rfl (by rw [show eg_mL 225 = 3 from by decide +kernel]; first | done | rfl) ?_
  refine (fn_of hH k_am k_aw m1 (by omega) hv.2.2.2.2.2).mono (fun u hu => xp_cb hu ?_)
  show et_go none _ 247 265 _ [.int f] _ _ _ _
  refine hs_br1 (c := .le) (t := 340) (f := 268) (by decide +kernel) (fun (c265 : f ≤ 0) => ?_) (fun (c265 : ¬ (f ≤ 0)) => ?_)
  · refine hs_iload (i := 6) (p := 342) (by decide +kernel) rfl ?_
    refine hs_zret (by decide +kernel) (by split; exact .inr rfl; exact .inl rfl) ?_
    have hb : ¬ flB s f = true := fun hb => by
      unfold flB at hb
      rw [Bool.and_eq_true] at hb
      exact absurd (of_decide_eq_true hb.1) (Int32.not_lt.mpr c265)
    exact h _ _ hx0 hH hf ho (by rw [if_neg hb]; exact hv)
  · refine hs_aload (i := 0) (p := 269) (by decide +kernel) rfl ?_
    refine hs_iload (i := 1) (p := 270) (by decide +kernel) rfl ?_
    refine hs_k (x := Int32.ofNat 22) (p := 272) (by decide +kernel) ?_
    refine ht_callv (T := et_TT) (t := 13) (mi := 225) (na := 2) (ci := 11) (lk := 10) (lm := 3) (L0 := eg_en (eg_mL 225) [.ref am, .int (Int32.ofNat n), .int (Int32.ofNat 22)]) (by decide +kernel) rfl hH k_am rfl rfl rfl rfl rfl (by rw [show eg_mL 225 = 3 from by decide +kernel]; first | done | rfl) ?_
    refine (fn_of hH k_am k_aw m1 (by omega) hv.2.2.2.1).mono (fun u hu => xp_cb hu ?_)
    show et_go none _ 247 275 _ [.int s] _ _ _ _
    refine hs_aload (i := 0) (p := 276) (by decide +kernel) rfl ?_
    refine hs_iload (i := 1) (p := 277) (by decide +kernel) rfl ?_
    refine hs_k (x := Int32.ofNat 21) (p := 279) (by decide +kernel) ?_
    refine ht_callv (T := et_TT) (t := 13) (mi := 225) (na := 2) (ci := 11) (lk := 10) (lm := 3) (L0 := eg_en (eg_mL 225) [.ref am, .int (Int32.ofNat n), .int (Int32.ofNat 21)]) (by decide +kernel) rfl hH k_am rfl rfl rfl rfl rfl (by rw [show eg_mL 225 = 3 from by decide +kernel]; first | done | rfl) ?_
    refine (fn_of hH k_am k_aw m1 (by omega) hv.2.2.2.2.2).mono (fun u hu => xp_cb hu ?_)
    show et_go none _ 247 282 _ [.int f, .int s] _ _ _ _
    refine hs_irem (p := 283) (by decide +kernel) (by intro h9; rw [h9] at c265; exact absurd c265 (by decide)) ?_
    refine hs_br1 (c := .ne) (t := 340) (f := 286) (by decide +kernel) (fun (c283 : ¬ (s - s / f * f) = 0) => ?_) (fun (c283 : ¬ (¬ (s - s / f * f) = 0)) => ?_)
    · refine hs_iload (i := 6) (p := 342) (by decide +kernel) rfl ?_
      refine hs_zret (by decide +kernel) (by split; exact .inr rfl; exact .inl rfl) ?_
      have hb : ¬ flB s f = true := fun hb => by
        unfold flB at hb
        rw [Bool.and_eq_true] at hb
        exact c283 (of_decide_eq_true hb.2)
      exact h _ _ hx0 hH hf ho (by rw [if_neg hb]; exact hv)
    · refine hs_k (x := Int32.ofNat 0) (p := 287) (by decide +kernel) ?_
      refine hs_istore (i := 8) (p := 289) (by decide +kernel) (Nat.le_of_ble_eq_true rfl) ?_
      have hb : flB s f = true := by
        unfold flB
        rw [Bool.and_eq_true]
        exact ⟨decide_eq_true (Int32.not_le.mp c265), decide_eq_true (Decidable.of_not_not c283)⟩
      show et_go none (d + 9) 247 289 [some (.ref am), some (.int (Int32.ofNat n)), some (.int (Int32.ofNat c)), some (.int (Int32.ofNat k)), some (.int (Int32.ofNat (45 + 23 * n))), some (.int x), some (.int (Int32.ofNat (if wr = true then 1 else 0))), some (.int z), some (.int (Int32.ofNat 0)), x9] [] _ _ _ _
      exact fn_fallL hH k_am k_aw m1 k_fa k_tg hn hw hkd (hv.co (fun k _ => upU_0)) hx0 hf ho (Nat.zero_le _) (fun K9 G9 h1 h2 h3 h4 h5 => h K9 G9 h1 h2 h3 h4 (by rw [if_pos hb]; exact h5))
theorem fn_showL {Z : eg_O → Prop} {x9 : Option Value} {K0 : et_K} {G0 : eg_G} (hH : et_H et_TT K G) (k_am : K am = some 13) (k_aw : K aw = some 46) (m1 : et_pl (eg_at G am) 1 = some (.ref aw)) (k_fa : K fa = some 14) (k_tg : K tg = some 24) (hn : n < 3) (hw : w ≤ 6) (hkd : ∀ m, m < w → Kd m ≤ 2) (hv : evM G aw n w C Kd (upU t (tnw C Kd x far s wr ye ls N) N m) l s t f) (hx0 : et_ex K0 K) (hf : et_fr shM K0 G0 G) (ho : owt aw n G0 G) (hk : k < 4) (hT : tuT G0 aw (126 + 841 * (4 + k)) 1 ls) (hcl : ∀ l ∈ ls, lcl1 l) (m14 : et_pl (eg_at G am) 14 = some (.ref fa)) (m15 : et_pl (eg_at G am) 15 = some (.ref tg)) (g0 : et_pl (eg_at G fa) 0 = some (.int far)) (g3 : et_pl (eg_at G fa) 3 = some (.int s)) (t0 : et_pl (eg_at G tg) 0 = some (.int (Int32.ofNat (if wr = true then 1 else 0)))) (t1 : et_pl (eg_at G tg) 1 = some (.int (Int32.ofNat (if ye = true then 1 else 0)))) (hm : m ≤ w) (h : ∀ (K' : et_K) (G' : eg_G), et_ex K0 K' → et_H et_TT K' G' → et_fr shM K0 G0 G' → owt aw n G0 G' → evM G' aw n w C Kd (if flB s f = true then upU t (nwf (upU t (tnw C Kd x far s wr ye ls N) N w)) (upU t (tnw C Kd x far s wr ye ls N) N w) w else upU t (tnw C Kd x far s wr ye ls N) N w) (if stB t 6 = true then l else tnl far s wr ye ls l) s t f → Z (.inl (some (.int (Int32.ofNat (if wr = true then 1 else 0)))), G', 0, 0)) : et_go none (d + 9) 247 120 [some (.ref am), some (.int (Int32.ofNat n)), some (.int (Int32.ofNat c)), some (.int (Int32.ofNat k)), some (.int (Int32.ofNat (45 + 23 * n))), some (.int x), some (.int (Int32.ofNat (if wr = true then 1 else 0))), some (.int (upI ye)), some (.int (Int32.ofNat m)), x9] [] G 0 0 Z := by
  induction hz : w - m using Nat.strongRecOn generalizing m K G x9 with
  | _ q9 ih =>
    have lt_am := (hH.2.2 _ _ k_am).1
    have lt_aw := (hH.2.2 _ _ k_aw).1
    have lt_fa := (hH.2.2 _ _ k_fa).1
    have lt_tg := (hH.2.2 _ _ k_tg).1
    refine hs_iload (i := 8) (p := 122) (by decide +kernel) rfl ?_
    refine hs_aload (i := 0) (p := 123) (by decide +kernel) rfl ?_
    refine hs_iload (i := 1) (p := 124) (by decide +kernel) rfl ?_
    refine ht_callv (T := et_TT) (t := 13) (mi := 224) (na := 1) (ci := 11) (lk := 10) (lm := 2) (L0 := eg_en (eg_mL 224) [.ref am, .int (Int32.ofNat n)]) (by decide +kernel) rfl hH k_am rfl rfl rfl rfl rfl (by rw [show eg_mL 224 = 2 from by decide +kernel]; first | done | rfl) ?_
    refine (fn_wires hH k_am k_aw m1 hn hv.1 (by omega)).mono (fun u hu => xp_cb hu ?_)
    show et_go none _ 247 127 _ [.int (Int32.ofNat w), .int (Int32.ofNat m)] _ _ _ _
    refine hs_br2n (c := .ge) (t := 207) (f := 130) (by decide +kernel) (by omega) (by omega) (fun (c127 : w ≤ m) => ?_) (fun (c127 : ¬ (w ≤ m)) => ?_)
    · obtain rfl : w = m := by omega
      refine hs_aload (i := 0) (p := 208) (by decide +kernel) rfl ?_
      refine hs_iload (i := 1) (p := 209) (by decide +kernel) rfl ?_
      refine hs_k (x := Int32.ofNat 6) (p := 211) (by decide +kernel) ?_
      refine ht_callv (T := et_TT) (t := 13) (mi := 248) (na := 2) (ci := 11) (lk := 10) (lm := 3) (L0 := eg_en (eg_mL 248) [.ref am, .int (Int32.ofNat n), .int (Int32.ofNat 6)]) (by decide +kernel) rfl hH k_am rfl rfl rfl rfl rfl (by rw [show eg_mL 248 = 3 from by decide +kernel]; first | done | rfl) ?_
      refine (fn_stk hH k_am k_aw m1 hn hv.2.2.2.2.1 (by omega)).mono (fun u hu => xp_cb hu ?_)
      by_cases qs6 : stB t 6 = true
      · rw [if_pos qs6]
        show et_go none _ 247 214 _ [.int (Int32.ofNat 1)] _ _ _ _
        refine hs_if1 (c := .ne) (t := 258) (f := 217) (by decide +kernel) (show ¬ Int32.ofNat 1 = 0 by decide) ?_
        show et_go none (d + 9) 247 258 [some (.ref am), some (.int (Int32.ofNat n)), some (.int (Int32.ofNat c)), some (.int (Int32.ofNat k)), some (.int (Int32.ofNat (45 + 23 * n))), some (.int x), some (.int (Int32.ofNat (if wr = true then 1 else 0))), some (.int (upI ye)), some (.int (Int32.ofNat w)), x9] [] _ _ _ _
        exact fn_fl hH k_am k_aw m1 k_fa k_tg hn hw hkd hv hx0 hf ho (fun K9 G9 h1 h2 h3 h4 h5 => h K9 G9 h1 h2 h3 h4 (by rw [if_pos qs6]; exact h5))
      · rw [if_neg qs6]
        show et_go none _ 247 214 _ [.int (Int32.ofNat 0)] _ _ _ _
        refine hs_if0 (c := .ne) (t := 258) (f := 217) (by decide +kernel) (show ¬ (¬ Int32.ofNat 0 = 0) by decide) ?_
        refine hs_aload (i := 0) (p := 218) (by decide +kernel) rfl ?_
        refine hf_get (T := et_TT) (t := 13) (ci := 11) (f := 1) (p := 221) (by decide +kernel) rfl hH k_am m1 ?_
        refine hs_iload (i := 4) (p := 223) (by decide +kernel) rfl ?_
        refine hs_k (x := Int32.ofNat 19) (p := 225) (by decide +kernel) ?_
        refine hs_iaddn (p := 226) (by decide +kernel) ?_
        refine hs_aload (i := 0) (p := 227) (by decide +kernel) rfl ?_
        refine hs_iload (i := 1) (p := 228) (by decide +kernel) rfl ?_
        refine hs_k (x := Int32.ofNat 19) (p := 230) (by decide +kernel) ?_
        refine ht_callv (T := et_TT) (t := 13) (mi := 225) (na := 2) (ci := 11) (lk := 10) (lm := 3) (L0 := eg_en (eg_mL 225) [.ref am, .int (Int32.ofNat n), .int (Int32.ofNat 19)]) (by decide +kernel) rfl hH k_am rfl rfl rfl rfl rfl (by rw [show eg_mL 225 = 3 from by decide +kernel]; first | done | rfl) ?_
        refine (fn_of hH k_am k_aw m1 (by omega) hv.2.2.1).mono (fun u hu => xp_cb hu ?_)
        show et_go none _ 247 233 _ [.int l, .int (Int32.ofNat ((45 + 23 * n) + 19)), .ref aw] _ _ _ _
        refine hs_iload (i := 7) (p := 235) (by decide +kernel) rfl ?_
        refine hs_aload (i := 0) (p := 236) (by decide +kernel) rfl ?_
        refine hs_iload (i := 3) (p := 237) (by decide +kernel) rfl ?_
        refine hs_k (x := Int32.ofNat 1) (p := 238) (by decide +kernel) ?_
        refine hs_k (x := Int32.ofNat 0) (p := 239) (by decide +kernel) ?_
        refine hs_aload (i := 0) (p := 240) (by decide +kernel) rfl ?_
        refine hs_iload (i := 1) (p := 241) (by decide +kernel) rfl ?_
        refine hs_k (x := Int32.ofNat 19) (p := 243) (by decide +kernel) ?_
        refine ht_callv (T := et_TT) (t := 13) (mi := 225) (na := 2) (ci := 11) (lk := 10) (lm := 3) (L0 := eg_en (eg_mL 225) [.ref am, .int (Int32.ofNat n), .int (Int32.ofNat 19)]) (by decide +kernel) rfl hH k_am rfl rfl rfl rfl rfl (by rw [show eg_mL 225 = 3 from by decide +kernel]; first | done | rfl) ?_
        refine (fn_of hH k_am k_aw m1 (by omega) hv.2.2.1).mono (fun u hu => xp_cb hu ?_)
        show et_go none _ 247 246 _ [.int l, .int (Int32.ofNat 0), .int (Int32.ofNat 1), .int (Int32.ofNat k), .ref am, .int (upI ye), .int l, .int (Int32.ofNat ((45 + 23 * n) + 19)), .ref aw] _ _ _ _
        refine ht_callv (T := et_TT) (t := 13) (mi := 249) (na := 4) (ci := 11) (lk := 10) (lm := 7) (L0 := eg_en (eg_mL 249) [.ref am, .int (Int32.ofNat k), .int (Int32.ofNat 1), .int (Int32.ofNat 0), .int l]) (by decide +kernel) rfl hH k_am rfl rfl rfl rfl rfl (by rw [show eg_mL 249 = 7 from by decide +kernel]; first | done | rfl) ?_
        refine fn_num (wr := wr) (ye := ye) (t := false) hH k_am k_aw m1 k_fa k_tg m14 m15 hk (hT.mp (fun j hj => ho _ (.inr (by omega)))) hcl rfl g0 g3 t0 t1 (by omega) (fun K246 G246 x246 hH f246 => ?_)
        have m1 := (f246.2 am 13 k_am 1 rfl).trans m1
        have m14 := (f246.2 am 13 k_am 14 rfl).trans m14
        have m15 := (f246.2 am 13 k_am 15 rfl).trans m15
        have g0 := (f246.2 fa 14 k_fa 0 rfl).trans g0
        have g3 := (f246.2 fa 14 k_fa 3 rfl).trans g3
        have t0 := (f246.2 tg 24 k_tg 0 rfl).trans t0
        have t1 := (f246.2 tg 24 k_tg 1 rfl).trans t1
        have hv := hv.fr k_aw f246 rfl hw
        have ho := ho.fr k_aw f246 rfl
        have hf := hf.tr hx0 (f246.wk (by decide +kernel))
        have hx0 := hx0.tr x246
        have k_am := x246 _ _ k_am
        have lt_am := (hH.2.2 _ _ k_am).1
        have k_aw := x246 _ _ k_aw
        have lt_aw := (hH.2.2 _ _ k_aw).1
        have k_fa := x246 _ _ k_fa
        have lt_fa := (hH.2.2 _ _ k_fa).1
        have k_tg := x246 _ _ k_tg
        have lt_tg := (hH.2.2 _ _ k_tg).1
        refine hs_cb ?_
        show et_go none _ 247 249 _ [.int (Int32.ofNat (nuL false (tuE far (Int32.ofNat 0) (abI l) s wr ye) ls)), .int (upI ye), .int l, .int (Int32.ofNat ((45 + 23 * n) + 19)), .ref aw] _ _ _ _
        refine hs_imul (p := 250) (by decide +kernel) ?_
        refine hs_isub (p := 251) (by decide +kernel) ?_
        refine hs_k (x := Int32.ofNat 2000) (p := 254) (by decide +kernel) ?_
        refine hs_calls (mi := 251) (na := 2) (lk := 10) (lm := 2) (L0 := eg_en (eg_mL 251) [.int (l - ((upI ye) * Int32.ofNat (nuL false (tuE far (Int32.ofNat 0) (abI l) s wr ye) ls))), .int (Int32.ofNat 2000)]) (by decide +kernel) rfl rfl rfl rfl rfl rfl (by rw [show eg_mL 251 = 2 from by decide +kernel]; first | done | rfl) ?_
        refine (fn_held).mono (fun u hu => xp_cb hu ?_)
        show et_go none _ 247 257 _ [.int (wiI (l - ((upI ye) * Int32.ofNat (nuL false (tuE far (Int32.ofNat 0) (abI l) s wr ye) ls))) (Int32.ofNat 2000)), .int (Int32.ofNat ((45 + 23 * n) + 19)), .ref aw] _ _ _ _
        have hHo := hH
        refine hf_wst (p := 258) (by decide +kernel) hH k_aw (by omega) (wx_ok (e := n) (k := 19) (by omega) (by decide) (fun h => absurd h (by decide))) (fun G257 hH x257 e257 => ?_)
        have hv := hv.pl hHo k_aw x257 (by omega) hw e257
        have ho := ho.w hHo k_aw x257 (by omega)
        have hf := hf.tr hx0 (sh_x hHo k_aw x257 (shM_46 (by omega) (by omega)))
        have m1 := (x257.2 am 1 lt_am (fun h => (hi_ne k_am k_aw (by decide)) h.1)).trans m1
        have m14 := (x257.2 am 14 lt_am (fun h => (hi_ne k_am k_aw (by decide)) h.1)).trans m14
        have m15 := (x257.2 am 15 lt_am (fun h => (hi_ne k_am k_aw (by decide)) h.1)).trans m15
        have g0 := (x257.2 fa 0 lt_fa (fun h => (hi_ne k_fa k_aw (by decide)) h.1)).trans g0
        have g3 := (x257.2 fa 3 lt_fa (fun h => (hi_ne k_fa k_aw (by decide)) h.1)).trans g3
        have t0 := (x257.2 tg 0 lt_tg (fun h => (hi_ne k_tg k_aw (by decide)) h.1)).trans t0
        have t1 := (x257.2 tg 1 lt_tg (fun h => (hi_ne k_tg k_aw (by decide)) h.1)).trans t1
        have lt_am := Nat.lt_of_lt_of_le lt_am x257.1
        have lt_aw := Nat.lt_of_lt_of_le lt_aw x257.1
        have lt_fa := Nat.lt_of_lt_of_le lt_fa x257.1
        have lt_tg := Nat.lt_of_lt_of_le lt_tg x257.1
        show et_go none (d + 9) 247 258 [some (.ref am), some (.int (Int32.ofNat n)), some (.int (Int32.ofNat c)), some (.int (Int32.ofNat k)), some (.int (Int32.ofNat (45 + 23 * n))), some (.int x), some (.int (Int32.ofNat (if wr = true then 1 else 0))), some (.int (upI ye)), some (.int (Int32.ofNat w)), x9] [] _ _ _ _
        exact fn_fl hH k_am k_aw m1 k_fa k_tg hn hw hkd hv hx0 hf ho (fun K9 G9 h1 h2 h3 h4 h5 => h K9 G9 h1 h2 h3 h4 (by rw [if_neg qs6]; exact h5))
    · refine hs_aload (i := 0) (p := 131) (by decide +kernel) rfl ?_
      refine hs_iload (i := 1) (p := 132) (by decide +kernel) rfl ?_
      refine hs_iload (i := 8) (p := 134) (by decide +kernel) rfl ?_
      refine ht_callv (T := et_TT) (t := 13) (mi := 248) (na := 2) (ci := 11) (lk := 10) (lm := 3) (L0 := eg_en (eg_mL 248) [.ref am, .int (Int32.ofNat n), .int (Int32.ofNat m)]) (by decide +kernel) rfl hH k_am rfl rfl rfl rfl rfl (by rw [show eg_mL 248 = 3 from by decide +kernel]; first | done | rfl) ?_
      refine (fn_stk hH k_am k_aw m1 hn hv.2.2.2.2.1 (by omega)).mono (fun u hu => xp_cb hu ?_)
      by_cases qs : stB t m = true
      · rw [if_pos qs]
        show et_go none _ 247 137 _ [.int (Int32.ofNat 1)] _ _ _ _
        refine hs_if0 (c := .eq) (t := 143) (f := 140) (by decide +kernel) (show ¬ (Int32.ofNat 1 = 0) by decide) ?_
        refine hs_goto (p := 201) (by decide +kernel) ?_
        refine hs_iinc1 (i := 8) (p := 204) (by decide +kernel) rfl (Nat.le_of_ble_eq_true rfl) ?_
        refine hs_goto (p := 120) (by decide +kernel) ?_
        show et_go none (d + 9) 247 120 [some (.ref am), some (.int (Int32.ofNat n)), some (.int (Int32.ofNat c)), some (.int (Int32.ofNat k)), some (.int (Int32.ofNat (45 + 23 * n))), some (.int x), some (.int (Int32.ofNat (if wr = true then 1 else 0))), some (.int (upI ye)), some (.int (Int32.ofNat (m + 1))), x9] [] _ _ _ _
        have hv := hv.co (N' := upU t (tnw C Kd x far s wr ye ls N) N (m + 1)) (fun k _ => upU_n qs k)
        exact ih (w - (m + 1)) (by omega) hH k_am k_aw m1 k_fa k_tg hv hx0 hf ho m14 m15 g0 g3 t0 t1 (by omega) rfl
      · rw [if_neg qs]
        show et_go none _ 247 137 _ [.int (Int32.ofNat 0)] _ _ _ _
        refine hs_if1 (c := .eq) (t := 143) (f := 140) (by decide +kernel) (show Int32.ofNat 0 = 0 by decide) ?_
        refine hs_aload (i := 0) (p := 144) (by decide +kernel) rfl ?_
        refine hs_iload (i := 1) (p := 145) (by decide +kernel) rfl ?_
        refine hs_iload (i := 8) (p := 147) (by decide +kernel) rfl ?_
        refine hs_iload (i := 5) (p := 149) (by decide +kernel) rfl ?_
        refine ht_callv (T := et_TT) (t := 13) (mi := 238) (na := 3) (ci := 11) (lk := 10) (lm := 4) (L0 := eg_en (eg_mL 238) [.ref am, .int (Int32.ofNat n), .int (Int32.ofNat m), .int x]) (by decide +kernel) rfl hH k_am rfl rfl rfl rfl rfl (by rw [show eg_mL 238 = 4 from by decide +kernel]; first | done | rfl) ?_
        refine (fn_val hH k_am k_aw m1 hn hw hkd hv (by omega) (by omega)).mono (fun u hu => xp_cb hu ?_)
        show et_go none _ 247 152 _ [.int (vaI (C m) (Kd m) x)] _ _ _ _
        refine hs_istore (i := 9) (p := 154) (by decide +kernel) (Nat.le_of_ble_eq_true rfl) ?_
        refine hs_aload (i := 0) (p := 155) (by decide +kernel) rfl ?_
        refine hf_get (T := et_TT) (t := 13) (ci := 11) (f := 1) (p := 158) (by decide +kernel) rfl hH k_am m1 ?_
        refine hs_iload (i := 1) (p := 159) (by decide +kernel) rfl ?_
        refine hs_iload (i := 8) (p := 161) (by decide +kernel) rfl ?_
        refine hs_k (x := Int32.ofNat 2) (p := 162) (by decide +kernel) ?_
        refine hs_calls (mi := 226) (na := 3) (lk := 10) (lm := 3) (L0 := eg_en (eg_mL 226) [.int (Int32.ofNat n), .int (Int32.ofNat m), .int (Int32.ofNat 2)]) (by decide +kernel) rfl rfl rfl rfl rfl rfl (by rw [show eg_mL 226 = 3 from by decide +kernel]; first | done | rfl) ?_
        refine (fn_wireAt).mono (fun u hu => xp_cb hu ?_)
        show et_go none _ 247 165 _ [.int (Int32.ofNat (45 + 23 * n + (1 + 3 * m + 2))), .ref aw] _ _ _ _
        refine hs_aload (i := 0) (p := 166) (by decide +kernel) rfl ?_
        refine hs_iload (i := 1) (p := 167) (by decide +kernel) rfl ?_
        refine hs_iload (i := 8) (p := 169) (by decide +kernel) rfl ?_
        refine ht_callv (T := et_TT) (t := 13) (mi := 231) (na := 2) (ci := 11) (lk := 10) (lm := 3) (L0 := eg_en (eg_mL 231) [.ref am, .int (Int32.ofNat n), .int (Int32.ofNat m)]) (by decide +kernel) rfl hH k_am rfl rfl rfl rfl rfl (by rw [show eg_mL 231 = 3 from by decide +kernel]; first | done | rfl) ?_
        refine (fn_knobU hH k_am k_aw m1 hn hw hkd hv (by omega) upU_s (by omega)).mono (fun u hu => xp_cb hu ?_)
        show et_go none _ 247 172 _ [.int (N m), .int (Int32.ofNat (45 + 23 * n + (1 + 3 * m + 2))), .ref aw] _ _ _ _
        refine hs_iload (i := 7) (p := 174) (by decide +kernel) rfl ?_
        refine hs_iload (i := 9) (p := 176) (by decide +kernel) rfl ?_
        refine hs_imul (p := 177) (by decide +kernel) ?_
        refine hs_aload (i := 0) (p := 178) (by decide +kernel) rfl ?_
        refine hs_iload (i := 3) (p := 179) (by decide +kernel) rfl ?_
        refine hs_k (x := Int32.ofNat 0) (p := 180) (by decide +kernel) ?_
        refine hs_iload (i := 9) (p := 182) (by decide +kernel) rfl ?_
        refine hs_aload (i := 0) (p := 183) (by decide +kernel) rfl ?_
        refine hs_iload (i := 1) (p := 184) (by decide +kernel) rfl ?_
        refine hs_iload (i := 8) (p := 186) (by decide +kernel) rfl ?_
        refine ht_callv (T := et_TT) (t := 13) (mi := 231) (na := 2) (ci := 11) (lk := 10) (lm := 3) (L0 := eg_en (eg_mL 231) [.ref am, .int (Int32.ofNat n), .int (Int32.ofNat m)]) (by decide +kernel) rfl hH k_am rfl rfl rfl rfl rfl (by rw [show eg_mL 231 = 3 from by decide +kernel]; first | done | rfl) ?_
        refine (fn_knobU hH k_am k_aw m1 hn hw hkd hv (by omega) upU_s (by omega)).mono (fun u hu => xp_cb hu ?_)
        show et_go none _ 247 189 _ [.int (N m), .int (vaI (C m) (Kd m) x), .int (Int32.ofNat 0), .int (Int32.ofNat k), .ref am, .int ((upI ye) * (vaI (C m) (Kd m) x)), .int (N m), .int (Int32.ofNat (45 + 23 * n + (1 + 3 * m + 2))), .ref aw] _ _ _ _
        refine ht_callv (T := et_TT) (t := 13) (mi := 249) (na := 4) (ci := 11) (lk := 10) (lm := 7) (L0 := eg_en (eg_mL 249) [.ref am, .int (Int32.ofNat k), .int (Int32.ofNat 0), .int (vaI (C m) (Kd m) x), .int (N m)]) (by decide +kernel) rfl hH k_am rfl rfl rfl rfl rfl (by rw [show eg_mL 249 = 7 from by decide +kernel]; first | done | rfl) ?_
        refine fn_num (wr := wr) (ye := ye) (t := true) hH k_am k_aw m1 k_fa k_tg m14 m15 hk (hT.mp (fun j hj => ho _ (.inr (by omega)))) hcl rfl g0 g3 t0 t1 (by omega) (fun K189 G189 x189 hH f189 => ?_)
        have m1 := (f189.2 am 13 k_am 1 rfl).trans m1
        have m14 := (f189.2 am 13 k_am 14 rfl).trans m14
        have m15 := (f189.2 am 13 k_am 15 rfl).trans m15
        have g0 := (f189.2 fa 14 k_fa 0 rfl).trans g0
        have g3 := (f189.2 fa 14 k_fa 3 rfl).trans g3
        have t0 := (f189.2 tg 24 k_tg 0 rfl).trans t0
        have t1 := (f189.2 tg 24 k_tg 1 rfl).trans t1
        have hv := hv.fr k_aw f189 rfl hw
        have ho := ho.fr k_aw f189 rfl
        have hf := hf.tr hx0 (f189.wk (by decide +kernel))
        have hx0 := hx0.tr x189
        have k_am := x189 _ _ k_am
        have lt_am := (hH.2.2 _ _ k_am).1
        have k_aw := x189 _ _ k_aw
        have lt_aw := (hH.2.2 _ _ k_aw).1
        have k_fa := x189 _ _ k_fa
        have lt_fa := (hH.2.2 _ _ k_fa).1
        have k_tg := x189 _ _ k_tg
        have lt_tg := (hH.2.2 _ _ k_tg).1
        refine hs_cb ?_
        show et_go none _ 247 192 _ [.int (Int32.ofNat (nuL true (tuE far (vaI (C m) (Kd m) x) (abI (N m)) s wr ye) ls)), .int ((upI ye) * (vaI (C m) (Kd m) x)), .int (N m), .int (Int32.ofNat (45 + 23 * n + (1 + 3 * m + 2))), .ref aw] _ _ _ _
        refine hs_imul (p := 193) (by decide +kernel) ?_
        refine hs_iadd (p := 194) (by decide +kernel) ?_
        refine hs_k (x := Int32.ofNat 200) (p := 197) (by decide +kernel) ?_
        refine hs_calls (mi := 251) (na := 2) (lk := 10) (lm := 2) (L0 := eg_en (eg_mL 251) [.int ((N m) + (((upI ye) * (vaI (C m) (Kd m) x)) * Int32.ofNat (nuL true (tuE far (vaI (C m) (Kd m) x) (abI (N m)) s wr ye) ls))), .int (Int32.ofNat 200)]) (by decide +kernel) rfl rfl rfl rfl rfl rfl (by rw [show eg_mL 251 = 2 from by decide +kernel]; first | done | rfl) ?_
        refine (fn_held).mono (fun u hu => xp_cb hu ?_)
        show et_go none _ 247 200 _ [.int (wiI ((N m) + (((upI ye) * (vaI (C m) (Kd m) x)) * Int32.ofNat (nuL true (tuE far (vaI (C m) (Kd m) x) (abI (N m)) s wr ye) ls))) (Int32.ofNat 200)), .int (Int32.ofNat (45 + 23 * n + (1 + 3 * m + 2))), .ref aw] _ _ _ _
        have hHo := hH
        refine hf_wst (p := 201) (by decide +kernel) hH k_aw (by omega) (wx_ok (e := n) (k := 1 + 3 * m + 2) (by omega) (by omega) (fun h => absurd h (by omega))) (fun G200 hH x200 e200 => ?_)
        have hv := hv.kp (m := m) hHo k_aw x200 (by omega) (by omega) e200
        have ho := ho.w hHo k_aw x200 (by omega)
        have hf := hf.tr hx0 (sh_x hHo k_aw x200 (shM_46 (by omega) (by omega)))
        have m1 := (x200.2 am 1 lt_am (fun h => (hi_ne k_am k_aw (by decide)) h.1)).trans m1
        have m14 := (x200.2 am 14 lt_am (fun h => (hi_ne k_am k_aw (by decide)) h.1)).trans m14
        have m15 := (x200.2 am 15 lt_am (fun h => (hi_ne k_am k_aw (by decide)) h.1)).trans m15
        have g0 := (x200.2 fa 0 lt_fa (fun h => (hi_ne k_fa k_aw (by decide)) h.1)).trans g0
        have g3 := (x200.2 fa 3 lt_fa (fun h => (hi_ne k_fa k_aw (by decide)) h.1)).trans g3
        have t0 := (x200.2 tg 0 lt_tg (fun h => (hi_ne k_tg k_aw (by decide)) h.1)).trans t0
        have t1 := (x200.2 tg 1 lt_tg (fun h => (hi_ne k_tg k_aw (by decide)) h.1)).trans t1
        have lt_am := Nat.lt_of_lt_of_le lt_am x200.1
        have lt_aw := Nat.lt_of_lt_of_le lt_aw x200.1
        have lt_fa := Nat.lt_of_lt_of_le lt_fa x200.1
        have lt_tg := Nat.lt_of_lt_of_le lt_tg x200.1
        refine hs_iinc1 (i := 8) (p := 204) (by decide +kernel) rfl (Nat.le_of_ble_eq_true rfl) ?_
        refine hs_goto (p := 120) (by decide +kernel) ?_
        show et_go none (d + 9) 247 120 [some (.ref am), some (.int (Int32.ofNat n)), some (.int (Int32.ofNat c)), some (.int (Int32.ofNat k)), some (.int (Int32.ofNat (45 + 23 * n))), some (.int x), some (.int (Int32.ofNat (if wr = true then 1 else 0))), some (.int (upI ye)), some (.int (Int32.ofNat (m + 1))), some (.int (vaI (C m) (Kd m) x))] [] _ _ _ _
        have hv := hv.co (N' := upU t (tnw C Kd x far s wr ye ls N) N (m + 1)) (fun k _ => upU_y (nw := (tnw C Kd x far s wr ye ls N)) (stB_f qs) k)
        exact ih (w - (m + 1)) (by omega) hH k_am k_aw m1 k_fa k_tg hv hx0 hf ho m14 m15 g0 g3 t0 t1 (by omega) rfl
theorem fn_ron (hH : et_H et_TT K G) (k_am : K am = some 13) (k_aw : K aw = some 46) (m1 : et_pl (eg_at G am) 1 = some (.ref aw)) (hn : n < 3) (hw : w ≤ 6) (hkd : ∀ m, m < w → Kd m ≤ 2) (hv : evM G aw n w C Kd N l s t f) (hc : c < 20) (cx : et_pl (eg_at G aw) (5 + 2 * c) = some (.int x)) (cy : et_pl (eg_at G aw) (6 + 2 * c) = some (.int (Int32.ofNat (if ye = true then 1 else 0)))) (hd : 7 ≤ d2) : et_go none d2 233 0 (eg_en (eg_mL 233) [.ref am, .int (Int32.ofNat n), .int (Int32.ofNat c)]) [] G 0 0 (xp_Z G (some (.int (Int32.ofNat (if (decide (l < suN C Kd N x w) != ye) = true then 0 else 1))))) := by
  obtain ⟨d, rfl⟩ : ∃ d, d2 = d + 7 := ⟨d2 - 7, by omega⟩
  rw [show eg_mL 233 = 3 from by decide +kernel]
  cases ye with
  | true =>
    show et_go none (d + 7) 233 0 [some (.ref am), some (.int (Int32.ofNat n)), some (.int (Int32.ofNat c))] [] G 0 0 _
    refine hs_aload (i := 0) (p := 1) (by decide +kernel) rfl ?_
    refine hs_iload (i := 1) (p := 2) (by decide +kernel) rfl ?_
    refine hs_aload (i := 0) (p := 3) (by decide +kernel) rfl ?_
    refine hs_iload (i := 2) (p := 4) (by decide +kernel) rfl ?_
    refine ht_callv (T := et_TT) (t := 13) (mi := 234) (na := 1) (ci := 11) (lk := 3) (lm := 2) (L0 := eg_en (eg_mL 234) [.ref am, .int (Int32.ofNat c)]) (by decide +kernel) rfl hH k_am rfl rfl rfl rfl rfl (by rw [show eg_mL 234 = 2 from by decide +kernel]; first | done | rfl) ?_
    refine (fm_litOf hH k_am k_aw m1 hc cx).mono (fun u hu => xp_cb hu ?_)
    show et_go none _ 233 7 _ [.int x, .int (Int32.ofNat n), .ref am] _ _ _ _
    refine ht_callv (T := et_TT) (t := 13) (mi := 235) (na := 2) (ci := 11) (lk := 3) (lm := 3) (L0 := eg_en (eg_mL 235) [.ref am, .int (Int32.ofNat n), .int x]) (by decide +kernel) rfl hH k_am rfl rfl rfl rfl rfl (by rw [show eg_mL 235 = 3 from by decide +kernel]; first | done | rfl) ?_
    refine (fn_says hH k_am k_aw m1 hn hw hkd hv (by omega)).mono (fun u hu => xp_cb hu ?_)
    by_cases hl : l < suN C Kd N x w
    · rw [if_pos hl]
      show et_go none _ 233 10 _ [.int (Int32.ofNat 1)] _ _ _ _
      refine hs_aload (i := 0) (p := 11) (by decide +kernel) rfl ?_
      refine hs_iload (i := 2) (p := 12) (by decide +kernel) rfl ?_
      refine ht_callv (T := et_TT) (t := 13) (mi := 240) (na := 1) (ci := 11) (lk := 3) (lm := 2) (L0 := eg_en (eg_mL 240) [.ref am, .int (Int32.ofNat c)]) (by decide +kernel) rfl hH k_am rfl rfl rfl rfl rfl (by rw [show eg_mL 240 = 2 from by decide +kernel]; first | done | rfl) ?_
      refine (fm_isYes (y := 1) hH k_am k_aw m1 hc (by decide) cy).mono (fun u hu => xp_cb hu ?_)
      show et_go none _ 233 15 _ [.int (Int32.ofNat 1), .int (Int32.ofNat 1)] _ _ _ _
      refine hs_br2n (c := .ne) (t := 22) (f := 18) (by decide +kernel) (by omega) (by omega) (fun h => absurd h (show ¬ (¬ 1 = 1) by decide)) (fun _ => ?_)
      refine hs_k (x := Int32.ofNat 1) (p := 19) (by decide +kernel) ?_
      refine hs_goto (p := 23) (by decide +kernel) ?_
      refine hs_zret (by decide +kernel) (.inr rfl) ?_
      rw [show decide (l < suN C Kd N x w) = true from decide_eq_true hl]
      rfl
    · rw [if_neg hl]
      show et_go none _ 233 10 _ [.int (Int32.ofNat 0)] _ _ _ _
      refine hs_aload (i := 0) (p := 11) (by decide +kernel) rfl ?_
      refine hs_iload (i := 2) (p := 12) (by decide +kernel) rfl ?_
      refine ht_callv (T := et_TT) (t := 13) (mi := 240) (na := 1) (ci := 11) (lk := 3) (lm := 2) (L0 := eg_en (eg_mL 240) [.ref am, .int (Int32.ofNat c)]) (by decide +kernel) rfl hH k_am rfl rfl rfl rfl rfl (by rw [show eg_mL 240 = 2 from by decide +kernel]; first | done | rfl) ?_
      refine (fm_isYes (y := 1) hH k_am k_aw m1 hc (by decide) cy).mono (fun u hu => xp_cb hu ?_)
      show et_go none _ 233 15 _ [.int (Int32.ofNat 1), .int (Int32.ofNat 0)] _ _ _ _
      refine hs_br2n (c := .ne) (t := 22) (f := 18) (by decide +kernel) (by omega) (by omega) (fun _ => ?_) (fun h => absurd (show ¬ 0 = 1 by decide) h)
      refine hs_k (x := Int32.ofNat 0) (p := 23) (by decide +kernel) ?_
      refine hs_zret (by decide +kernel) (.inl rfl) ?_
      rw [show decide (l < suN C Kd N x w) = false from decide_eq_false hl]
      rfl
  | false =>
    show et_go none (d + 7) 233 0 [some (.ref am), some (.int (Int32.ofNat n)), some (.int (Int32.ofNat c))] [] G 0 0 _
    refine hs_aload (i := 0) (p := 1) (by decide +kernel) rfl ?_
    refine hs_iload (i := 1) (p := 2) (by decide +kernel) rfl ?_
    refine hs_aload (i := 0) (p := 3) (by decide +kernel) rfl ?_
    refine hs_iload (i := 2) (p := 4) (by decide +kernel) rfl ?_
    refine ht_callv (T := et_TT) (t := 13) (mi := 234) (na := 1) (ci := 11) (lk := 3) (lm := 2) (L0 := eg_en (eg_mL 234) [.ref am, .int (Int32.ofNat c)]) (by decide +kernel) rfl hH k_am rfl rfl rfl rfl rfl (by rw [show eg_mL 234 = 2 from by decide +kernel]; first | done | rfl) ?_
    refine (fm_litOf hH k_am k_aw m1 hc cx).mono (fun u hu => xp_cb hu ?_)
    show et_go none _ 233 7 _ [.int x, .int (Int32.ofNat n), .ref am] _ _ _ _
    refine ht_callv (T := et_TT) (t := 13) (mi := 235) (na := 2) (ci := 11) (lk := 3) (lm := 3) (L0 := eg_en (eg_mL 235) [.ref am, .int (Int32.ofNat n), .int x]) (by decide +kernel) rfl hH k_am rfl rfl rfl rfl rfl (by rw [show eg_mL 235 = 3 from by decide +kernel]; first | done | rfl) ?_
    refine (fn_says hH k_am k_aw m1 hn hw hkd hv (by omega)).mono (fun u hu => xp_cb hu ?_)
    by_cases hl : l < suN C Kd N x w
    · rw [if_pos hl]
      show et_go none _ 233 10 _ [.int (Int32.ofNat 1)] _ _ _ _
      refine hs_aload (i := 0) (p := 11) (by decide +kernel) rfl ?_
      refine hs_iload (i := 2) (p := 12) (by decide +kernel) rfl ?_
      refine ht_callv (T := et_TT) (t := 13) (mi := 240) (na := 1) (ci := 11) (lk := 3) (lm := 2) (L0 := eg_en (eg_mL 240) [.ref am, .int (Int32.ofNat c)]) (by decide +kernel) rfl hH k_am rfl rfl rfl rfl rfl (by rw [show eg_mL 240 = 2 from by decide +kernel]; first | done | rfl) ?_
      refine (fm_isYes (y := 0) hH k_am k_aw m1 hc (by decide) cy).mono (fun u hu => xp_cb hu ?_)
      show et_go none _ 233 15 _ [.int (Int32.ofNat 0), .int (Int32.ofNat 1)] _ _ _ _
      refine hs_br2n (c := .ne) (t := 22) (f := 18) (by decide +kernel) (by omega) (by omega) (fun _ => ?_) (fun h => absurd (show ¬ 1 = 0 by decide) h)
      refine hs_k (x := Int32.ofNat 0) (p := 23) (by decide +kernel) ?_
      refine hs_zret (by decide +kernel) (.inl rfl) ?_
      rw [show decide (l < suN C Kd N x w) = true from decide_eq_true hl]
      rfl
    · rw [if_neg hl]
      show et_go none _ 233 10 _ [.int (Int32.ofNat 0)] _ _ _ _
      refine hs_aload (i := 0) (p := 11) (by decide +kernel) rfl ?_
      refine hs_iload (i := 2) (p := 12) (by decide +kernel) rfl ?_
      refine ht_callv (T := et_TT) (t := 13) (mi := 240) (na := 1) (ci := 11) (lk := 3) (lm := 2) (L0 := eg_en (eg_mL 240) [.ref am, .int (Int32.ofNat c)]) (by decide +kernel) rfl hH k_am rfl rfl rfl rfl rfl (by rw [show eg_mL 240 = 2 from by decide +kernel]; first | done | rfl) ?_
      refine (fm_isYes (y := 0) hH k_am k_aw m1 hc (by decide) cy).mono (fun u hu => xp_cb hu ?_)
      show et_go none _ 233 15 _ [.int (Int32.ofNat 0), .int (Int32.ofNat 0)] _ _ _ _
      refine hs_br2n (c := .ne) (t := 22) (f := 18) (by decide +kernel) (by omega) (by omega) (fun h => absurd h (show ¬ (¬ 0 = 0) by decide)) (fun _ => ?_)
      refine hs_k (x := Int32.ofNat 1) (p := 19) (by decide +kernel) ?_
      refine hs_goto (p := 23) (by decide +kernel) ?_
      refine hs_zret (by decide +kernel) (.inr rfl) ?_
      rw [show decide (l < suN C Kd N x w) = false from decide_eq_false hl]
      rfl
theorem fn_shows {Z : eg_O → Prop} (hH : et_H et_TT K G) (k_am : K am = some 13) (k_aw : K aw = some 46) (m1 : et_pl (eg_at G am) 1 = some (.ref aw)) (k_fa : K fa = some 14) (k_tg : K tg = some 24) (m14 : et_pl (eg_at G am) 14 = some (.ref fa)) (m15 : et_pl (eg_at G am) 15 = some (.ref tg)) (hn : n < 3) (hw : w ≤ 6) (hkd : ∀ m, m < w → Kd m ≤ 2) (hv : evM G aw n w C Kd N l s t f) (hk : k < 4) (hT : tuT G aw (126 + 841 * (4 + k)) 1 ls) (hcl : ∀ l ∈ ls, lcl1 l) (hc : c < 20) (cx : et_pl (eg_at G aw) (5 + 2 * c) = some (.int x)) (cy : et_pl (eg_at G aw) (6 + 2 * c) = some (.int (Int32.ofNat (if ye = true then 1 else 0)))) (hd : 9 ≤ d2) (h : ∀ (K' : et_K) (G' : eg_G), et_ex K K' → et_H et_TT K' G' → et_fr shM K G G' → owt aw n G G' → evM G' aw n w C Kd (nxN C Kd x w t f ls ye (N, l, s)).1 (nxN C Kd x w t f ls ye (N, l, s)).2.1 (nxN C Kd x w t f ls ye (N, l, s)).2.2 t f → Z (.inl (some (.int (Int32.ofNat (if shW C Kd x w ye (N, l, s) = true then 1 else 0)))), G', 0, 0)) : et_go none d2 247 0 (eg_en (eg_mL 247) [.ref am, .int (Int32.ofNat n), .int (Int32.ofNat c), .int (Int32.ofNat k)]) [] G 0 0 Z := by
  obtain ⟨d, rfl⟩ : ∃ d, d2 = d + 9 := ⟨d2 - 9, by omega⟩
  rw [show eg_mL 247 = 10 from by decide +kernel]
  have hx0 : et_ex K K := et_ex.rf
  have hf : et_fr shM K G G := et_fr.rf
  have ho : owt aw n G G := owt.rf
  cases ye with
  | true =>
    show et_go none (d + 9) 247 0 [some (.ref am), some (.int (Int32.ofNat n)), some (.int (Int32.ofNat c)), some (.int (Int32.ofNat k)), none, none, none, none, none, none] [] G 0 0 _
    have lt_am := (hH.2.2 _ _ k_am).1
    have lt_aw := (hH.2.2 _ _ k_aw).1
    have lt_fa := (hH.2.2 _ _ k_fa).1
    have lt_tg := (hH.2.2 _ _ k_tg).1
    refine hs_k (x := Int32.ofNat 45) (p := 2) (by decide +kernel) ?_
    refine hs_k (x := Int32.ofNat 23) (p := 4) (by decide +kernel) ?_
    refine hs_iload (i := 1) (p := 5) (by decide +kernel) rfl ?_
    refine hs_imuln (p := 6) (by decide +kernel) ?_
    refine hs_iaddn (p := 7) (by decide +kernel) ?_
    refine hs_istore (i := 4) (p := 9) (by decide +kernel) (Nat.le_of_ble_eq_true rfl) ?_
    refine hs_aload (i := 0) (p := 10) (by decide +kernel) rfl ?_
    refine hs_iload (i := 2) (p := 11) (by decide +kernel) rfl ?_
    refine ht_callv (T := et_TT) (t := 13) (mi := 234) (na := 1) (ci := 11) (lk := 10) (lm := 2) (L0 := eg_en (eg_mL 234) [.ref am, .int (Int32.ofNat c)]) (by decide +kernel) rfl hH k_am rfl rfl rfl rfl rfl (by rw [show eg_mL 234 = 2 from by decide +kernel]; first | done | rfl) ?_
    refine (fm_litOf hH k_am k_aw m1 hc ((ho _ (.inl (by omega))).trans cx)).mono (fun u hu => xp_cb hu ?_)
    show et_go none _ 247 14 _ [.int x] _ _ _ _
    refine hs_istore (i := 5) (p := 16) (by decide +kernel) (Nat.le_of_ble_eq_true rfl) ?_
    refine hs_aload (i := 0) (p := 17) (by decide +kernel) rfl ?_
    refine hf_get (T := et_TT) (t := 13) (ci := 11) (f := 1) (p := 20) (by decide +kernel) rfl hH k_am m1 ?_
    refine hs_iload (i := 4) (p := 22) (by decide +kernel) rfl ?_
    refine hs_k (x := Int32.ofNat 22) (p := 24) (by decide +kernel) ?_
    refine hs_iaddn (p := 25) (by decide +kernel) ?_
    refine hs_dup2 (p := 26) (by decide +kernel) ?_
    refine hf_ald (ins := .iaload) (T := et_TT) (t := 46) (kd := 0) (N := 12741) (p := 27) (by decide +kernel) (fun _ _ _ _ _ _ _ _ _ _ => rfl) rfl rfl rfl hH k_aw (by decide) hv.2.2.2.1 ?_
    refine hs_k (x := Int32.ofNat 1) (p := 28) (by decide +kernel) ?_
    refine hs_iadd (p := 29) (by decide +kernel) ?_
    have hHo := hH
    refine hf_wst (p := 30) (by decide +kernel) hH k_aw (by omega) (wx_ok (e := n) (k := 22) (by omega) (by decide) (fun h => absurd h (by decide))) (fun G29 hH x29 e29 => ?_)
    have hv := hv.ps hHo k_aw x29 (by omega) hw e29
    have ho := ho.w hHo k_aw x29 (by omega)
    have hf := hf.tr hx0 (sh_x hHo k_aw x29 (shM_46 (by omega) (by omega)))
    have m1 := (x29.2 am 1 lt_am (fun h => (hi_ne k_am k_aw (by decide)) h.1)).trans m1
    have m14 := (x29.2 am 14 lt_am (fun h => (hi_ne k_am k_aw (by decide)) h.1)).trans m14
    have m15 := (x29.2 am 15 lt_am (fun h => (hi_ne k_am k_aw (by decide)) h.1)).trans m15
    have lt_am := Nat.lt_of_lt_of_le lt_am x29.1
    have lt_aw := Nat.lt_of_lt_of_le lt_aw x29.1
    have lt_fa := Nat.lt_of_lt_of_le lt_fa x29.1
    have lt_tg := Nat.lt_of_lt_of_le lt_tg x29.1
    refine hs_aload (i := 0) (p := 31) (by decide +kernel) rfl ?_
    refine hs_iload (i := 1) (p := 32) (by decide +kernel) rfl ?_
    refine hs_iload (i := 2) (p := 33) (by decide +kernel) rfl ?_
    refine ht_callv (T := et_TT) (t := 13) (mi := 233) (na := 2) (ci := 11) (lk := 10) (lm := 3) (L0 := eg_en (eg_mL 233) [.ref am, .int (Int32.ofNat n), .int (Int32.ofNat c)]) (by decide +kernel) rfl hH k_am rfl rfl rfl rfl rfl (by rw [show eg_mL 233 = 3 from by decide +kernel]; first | done | rfl) ?_
    refine (fn_ron (ye := true) hH k_am k_aw m1 hn hw hkd hv hc ((ho _ (.inl (by omega))).trans cx) ((ho _ (.inl (by omega))).trans cy) (by omega)).mono (fun u hu => xp_cb hu ?_)
    by_cases hw9 : (decide (l < suN C Kd N x w) != true) = true
    · rw [if_pos hw9]
      show et_go none _ 247 36 _ [.int (Int32.ofNat 0)] _ _ _ _
      refine hs_if0 (c := .ne) (t := 43) (f := 39) (by decide +kernel) (show ¬ (¬ Int32.ofNat 0 = 0) by decide) ?_
      refine hs_k (x := Int32.ofNat 1) (p := 40) (by decide +kernel) ?_
      refine hs_goto (p := 44) (by decide +kernel) ?_
      refine hs_istore (i := 6) (p := 46) (by decide +kernel) (Nat.le_of_ble_eq_true rfl) ?_
      refine hs_aload (i := 0) (p := 47) (by decide +kernel) rfl ?_
      refine hf_get (T := et_TT) (t := 13) (ci := 11) (f := 15) (p := 50) (by decide +kernel) rfl hH k_am m15 ?_
      refine hs_k (x := Int32.ofNat 0) (p := 51) (by decide +kernel) ?_
      refine hs_iload (i := 6) (p := 53) (by decide +kernel) rfl ?_
      have hHo := hH
      refine hf_zst (T := et_TT) (t := 24) (N := 2) (p := 54) (by decide +kernel) rfl rfl (show vp_nar .boolean (Int32.ofNat 1) = Int32.ofNat 1 from by decide +kernel) hH k_tg (by omega) (by decide) (fun s hs _ _ => by rw [List.mem_singleton] at hs; subst hs; exact hi_nv (by decide) (by decide)) (fun G53 hH x53 e53 => ?_)
      have hv := hv.xs hHo k_aw x53 (fun j h => hi_ne k_aw k_tg (by decide) h.1) hw
      have ho := ho.xs hHo k_aw x53 (fun j h => hi_ne k_aw k_tg (by decide) h.1)
      have hf := hf.tr hx0 (sh_x hHo k_tg x53 (shM_24 (by decide)))
      have m1 := (x53.2 am 1 lt_am (fun h => (hi_ne k_am k_tg (by decide)) h.1)).trans m1
      have m14 := (x53.2 am 14 lt_am (fun h => (hi_ne k_am k_tg (by decide)) h.1)).trans m14
      have m15 := (x53.2 am 15 lt_am (fun h => (hi_ne k_am k_tg (by decide)) h.1)).trans m15
      have lt_am := Nat.lt_of_lt_of_le lt_am x53.1
      have lt_aw := Nat.lt_of_lt_of_le lt_aw x53.1
      have lt_fa := Nat.lt_of_lt_of_le lt_fa x53.1
      have lt_tg := Nat.lt_of_lt_of_le lt_tg x53.1
      refine hs_aload (i := 0) (p := 55) (by decide +kernel) rfl ?_
      refine hf_get (T := et_TT) (t := 13) (ci := 11) (f := 15) (p := 58) (by decide +kernel) rfl hH k_am m15 ?_
      refine hs_k (x := Int32.ofNat 1) (p := 59) (by decide +kernel) ?_
      refine hs_aload (i := 0) (p := 60) (by decide +kernel) rfl ?_
      refine hs_iload (i := 2) (p := 61) (by decide +kernel) rfl ?_
      refine ht_callv (T := et_TT) (t := 13) (mi := 240) (na := 1) (ci := 11) (lk := 10) (lm := 2) (L0 := eg_en (eg_mL 240) [.ref am, .int (Int32.ofNat c)]) (by decide +kernel) rfl hH k_am rfl rfl rfl rfl rfl (by rw [show eg_mL 240 = 2 from by decide +kernel]; first | done | rfl) ?_
      refine (fm_isYes (y := 1) hH k_am k_aw m1 hc (by decide) ((ho _ (.inl (by omega))).trans cy)).mono (fun u hu => xp_cb hu ?_)
      show et_go none _ 247 64 _ [.int (Int32.ofNat 1), .int (Int32.ofNat 1), .ref tg] _ _ _ _
      have hHo := hH
      refine hf_zst (T := et_TT) (t := 24) (N := 2) (p := 65) (by decide +kernel) rfl rfl (show vp_nar .boolean (Int32.ofNat 1) = Int32.ofNat 1 from by decide +kernel) hH k_tg (by omega) (by decide) (fun s hs _ _ => by rw [List.mem_singleton] at hs; subst hs; exact hi_nv (by decide) (by decide)) (fun G64 hH x64 e64 => ?_)
      have hv := hv.xs hHo k_aw x64 (fun j h => hi_ne k_aw k_tg (by decide) h.1) hw
      have ho := ho.xs hHo k_aw x64 (fun j h => hi_ne k_aw k_tg (by decide) h.1)
      have hf := hf.tr hx0 (sh_x hHo k_tg x64 (shM_24 (by decide)))
      have m1 := (x64.2 am 1 lt_am (fun h => (hi_ne k_am k_tg (by decide)) h.1)).trans m1
      have m14 := (x64.2 am 14 lt_am (fun h => (hi_ne k_am k_tg (by decide)) h.1)).trans m14
      have m15 := (x64.2 am 15 lt_am (fun h => (hi_ne k_am k_tg (by decide)) h.1)).trans m15
      have e53 := (x64.2 tg 0 lt_tg (fun h => absurd h.2 (by decide))).trans e53
      have lt_am := Nat.lt_of_lt_of_le lt_am x64.1
      have lt_aw := Nat.lt_of_lt_of_le lt_aw x64.1
      have lt_fa := Nat.lt_of_lt_of_le lt_fa x64.1
      have lt_tg := Nat.lt_of_lt_of_le lt_tg x64.1
      refine hs_aload (i := 0) (p := 66) (by decide +kernel) rfl ?_
      refine hf_get (T := et_TT) (t := 13) (ci := 11) (f := 14) (p := 69) (by decide +kernel) rfl hH k_am m14 ?_
      refine hs_k (x := Int32.ofNat 0) (p := 70) (by decide +kernel) ?_
      refine hs_aload (i := 0) (p := 71) (by decide +kernel) rfl ?_
      refine hs_iload (i := 1) (p := 72) (by decide +kernel) rfl ?_
      refine hs_iload (i := 5) (p := 74) (by decide +kernel) rfl ?_
      refine ht_callv (T := et_TT) (t := 13) (mi := 236) (na := 2) (ci := 11) (lk := 10) (lm := 3) (L0 := eg_en (eg_mL 236) [.ref am, .int (Int32.ofNat n), .int x]) (by decide +kernel) rfl hH k_am rfl rfl rfl rfl rfl (by rw [show eg_mL 236 = 3 from by decide +kernel]; first | done | rfl) ?_
      refine (fn_seen hH k_am k_aw m1 hn hw hkd hv (by omega)).mono (fun u hu => xp_cb hu ?_)
      show et_go none _ 247 77 _ [.int (suN C Kd N x w), .int (Int32.ofNat 0), .ref fa] _ _ _ _
      refine hs_aload (i := 0) (p := 78) (by decide +kernel) rfl ?_
      refine hs_iload (i := 1) (p := 79) (by decide +kernel) rfl ?_
      refine hs_k (x := Int32.ofNat 19) (p := 81) (by decide +kernel) ?_
      refine ht_callv (T := et_TT) (t := 13) (mi := 225) (na := 2) (ci := 11) (lk := 10) (lm := 3) (L0 := eg_en (eg_mL 225) [.ref am, .int (Int32.ofNat n), .int (Int32.ofNat 19)]) (by decide +kernel) rfl hH k_am rfl rfl rfl rfl rfl (by rw [show eg_mL 225 = 3 from by decide +kernel]; first | done | rfl) ?_
      refine (fn_of hH k_am k_aw m1 (by omega) hv.2.2.1).mono (fun u hu => xp_cb hu ?_)
      show et_go none _ 247 84 _ [.int l, .int (suN C Kd N x w), .int (Int32.ofNat 0), .ref fa] _ _ _ _
      refine hs_isub (p := 85) (by decide +kernel) ?_
      refine hs_math (mi := 309) (lk := 10) (p := 88) (by decide +kernel) rfl rfl rfl rfl ?_
      have hHo := hH
      refine hf_ist (T := et_TT) (t := 14) (N := 5) (p := 89) (by decide +kernel) rfl rfl (by decide) hH k_fa (by omega) (by decide) (fun s hs => absurd hs List.not_mem_nil) (fun G88 hH x88 e88 => ?_)
      have hv := hv.xs hHo k_aw x88 (fun j h => hi_ne k_aw k_fa (by decide) h.1) hw
      have ho := ho.xs hHo k_aw x88 (fun j h => hi_ne k_aw k_fa (by decide) h.1)
      have hf := hf.tr hx0 (sh_x hHo k_fa x88 (shM_14 (by decide)))
      have m1 := (x88.2 am 1 lt_am (fun h => (hi_ne k_am k_fa (by decide)) h.1)).trans m1
      have m14 := (x88.2 am 14 lt_am (fun h => (hi_ne k_am k_fa (by decide)) h.1)).trans m14
      have m15 := (x88.2 am 15 lt_am (fun h => (hi_ne k_am k_fa (by decide)) h.1)).trans m15
      have e53 := (x88.2 tg 0 lt_tg (fun h => (hi_ne k_tg k_fa (by decide)) h.1)).trans e53
      have e64 := (x88.2 tg 1 lt_tg (fun h => (hi_ne k_tg k_fa (by decide)) h.1)).trans e64
      have lt_am := Nat.lt_of_lt_of_le lt_am x88.1
      have lt_aw := Nat.lt_of_lt_of_le lt_aw x88.1
      have lt_fa := Nat.lt_of_lt_of_le lt_fa x88.1
      have lt_tg := Nat.lt_of_lt_of_le lt_tg x88.1
      refine hs_aload (i := 0) (p := 90) (by decide +kernel) rfl ?_
      refine hf_get (T := et_TT) (t := 13) (ci := 11) (f := 14) (p := 93) (by decide +kernel) rfl hH k_am m14 ?_
      refine hs_k (x := Int32.ofNat 3) (p := 94) (by decide +kernel) ?_
      refine hs_aload (i := 0) (p := 95) (by decide +kernel) rfl ?_
      refine hs_iload (i := 1) (p := 96) (by decide +kernel) rfl ?_
      refine hs_k (x := Int32.ofNat 22) (p := 98) (by decide +kernel) ?_
      refine ht_callv (T := et_TT) (t := 13) (mi := 225) (na := 2) (ci := 11) (lk := 10) (lm := 3) (L0 := eg_en (eg_mL 225) [.ref am, .int (Int32.ofNat n), .int (Int32.ofNat 22)]) (by decide +kernel) rfl hH k_am rfl rfl rfl rfl rfl (by rw [show eg_mL 225 = 3 from by decide +kernel]; first | done | rfl) ?_
      refine (fn_of hH k_am k_aw m1 (by omega) hv.2.2.2.1).mono (fun u hu => xp_cb hu ?_)
      show et_go none _ 247 101 _ [.int (s + Int32.ofNat 1), .int (Int32.ofNat 3), .ref fa] _ _ _ _
      have hHo := hH
      refine hf_ist (T := et_TT) (t := 14) (N := 5) (p := 102) (by decide +kernel) rfl rfl (by decide) hH k_fa (by omega) (by decide) (fun s hs => absurd hs List.not_mem_nil) (fun G101 hH x101 e101 => ?_)
      have hv := hv.xs hHo k_aw x101 (fun j h => hi_ne k_aw k_fa (by decide) h.1) hw
      have ho := ho.xs hHo k_aw x101 (fun j h => hi_ne k_aw k_fa (by decide) h.1)
      have hf := hf.tr hx0 (sh_x hHo k_fa x101 (shM_14 (by decide)))
      have m1 := (x101.2 am 1 lt_am (fun h => (hi_ne k_am k_fa (by decide)) h.1)).trans m1
      have m14 := (x101.2 am 14 lt_am (fun h => (hi_ne k_am k_fa (by decide)) h.1)).trans m14
      have m15 := (x101.2 am 15 lt_am (fun h => (hi_ne k_am k_fa (by decide)) h.1)).trans m15
      have e53 := (x101.2 tg 0 lt_tg (fun h => (hi_ne k_tg k_fa (by decide)) h.1)).trans e53
      have e64 := (x101.2 tg 1 lt_tg (fun h => (hi_ne k_tg k_fa (by decide)) h.1)).trans e64
      have e88 := (x101.2 fa 0 lt_fa (fun h => absurd h.2 (by decide))).trans e88
      have lt_am := Nat.lt_of_lt_of_le lt_am x101.1
      have lt_aw := Nat.lt_of_lt_of_le lt_aw x101.1
      have lt_fa := Nat.lt_of_lt_of_le lt_fa x101.1
      have lt_tg := Nat.lt_of_lt_of_le lt_tg x101.1
      refine hs_aload (i := 0) (p := 103) (by decide +kernel) rfl ?_
      refine hs_iload (i := 2) (p := 104) (by decide +kernel) rfl ?_
      refine ht_callv (T := et_TT) (t := 13) (mi := 240) (na := 1) (ci := 11) (lk := 10) (lm := 2) (L0 := eg_en (eg_mL 240) [.ref am, .int (Int32.ofNat c)]) (by decide +kernel) rfl hH k_am rfl rfl rfl rfl rfl (by rw [show eg_mL 240 = 2 from by decide +kernel]; first | done | rfl) ?_
      refine (fm_isYes (y := 1) hH k_am k_aw m1 hc (by decide) ((ho _ (.inl (by omega))).trans cy)).mono (fun u hu => xp_cb hu ?_)
      show et_go none _ 247 107 _ [.int (Int32.ofNat 1)] _ _ _ _
      refine hs_if0 (c := .eq) (t := 114) (f := 110) (by decide +kernel) (show ¬ (Int32.ofNat 1 = 0) by decide) ?_
      refine hs_k (x := Int32.ofNat 1) (p := 111) (by decide +kernel) ?_
      refine hs_goto (p := 115) (by decide +kernel) ?_
      refine hs_istore (i := 7) (p := 117) (by decide +kernel) (Nat.le_of_ble_eq_true rfl) ?_
      refine hs_k (x := Int32.ofNat 0) (p := 118) (by decide +kernel) ?_
      refine hs_istore (i := 8) (p := 120) (by decide +kernel) (Nat.le_of_ble_eq_true rfl) ?_
      have hw8 : shW C Kd x w true (N, l, s) = true := hw9
      show et_go none (d + 9) 247 120 [some (.ref am), some (.int (Int32.ofNat n)), some (.int (Int32.ofNat c)), some (.int (Int32.ofNat k)), some (.int (Int32.ofNat (45 + 23 * n))), some (.int x), some (.int (Int32.ofNat (if true = true then 1 else 0))), some (.int (upI true)), some (.int (Int32.ofNat 0)), none] [] _ _ _ _
      refine fn_showL (C := C) (N := N) (wr := true) (ye := true) (m := 0) hH k_am k_aw m1 k_fa k_tg hn hw hkd (hv.co (fun k _ => upU_0)) hx0 hf ho hk hT hcl m14 m15 e88 e101 e53 e64 (Nat.zero_le _) (fun K9 G9 h1 h2 h3 h4 h5 => ?_)
      have h8 := h K9 G9 h1 h2 h3 h4
      unfold nxN shU at h8
      rw [hw8] at h8
      exact h8 h5
    · rw [if_neg hw9]
      show et_go none _ 247 36 _ [.int (Int32.ofNat 1)] _ _ _ _
      refine hs_if1 (c := .ne) (t := 43) (f := 39) (by decide +kernel) (show ¬ Int32.ofNat 1 = 0 by decide) ?_
      refine hs_k (x := Int32.ofNat 0) (p := 44) (by decide +kernel) ?_
      refine hs_istore (i := 6) (p := 46) (by decide +kernel) (Nat.le_of_ble_eq_true rfl) ?_
      refine hs_aload (i := 0) (p := 47) (by decide +kernel) rfl ?_
      refine hf_get (T := et_TT) (t := 13) (ci := 11) (f := 15) (p := 50) (by decide +kernel) rfl hH k_am m15 ?_
      refine hs_k (x := Int32.ofNat 0) (p := 51) (by decide +kernel) ?_
      refine hs_iload (i := 6) (p := 53) (by decide +kernel) rfl ?_
      have hHo := hH
      refine hf_zst (T := et_TT) (t := 24) (N := 2) (p := 54) (by decide +kernel) rfl rfl (show vp_nar .boolean (Int32.ofNat 0) = Int32.ofNat 0 from by decide +kernel) hH k_tg (by omega) (by decide) (fun s hs _ _ => by rw [List.mem_singleton] at hs; subst hs; exact hi_nv (by decide) (by decide)) (fun G53 hH x53 e53 => ?_)
      have hv := hv.xs hHo k_aw x53 (fun j h => hi_ne k_aw k_tg (by decide) h.1) hw
      have ho := ho.xs hHo k_aw x53 (fun j h => hi_ne k_aw k_tg (by decide) h.1)
      have hf := hf.tr hx0 (sh_x hHo k_tg x53 (shM_24 (by decide)))
      have m1 := (x53.2 am 1 lt_am (fun h => (hi_ne k_am k_tg (by decide)) h.1)).trans m1
      have m14 := (x53.2 am 14 lt_am (fun h => (hi_ne k_am k_tg (by decide)) h.1)).trans m14
      have m15 := (x53.2 am 15 lt_am (fun h => (hi_ne k_am k_tg (by decide)) h.1)).trans m15
      have lt_am := Nat.lt_of_lt_of_le lt_am x53.1
      have lt_aw := Nat.lt_of_lt_of_le lt_aw x53.1
      have lt_fa := Nat.lt_of_lt_of_le lt_fa x53.1
      have lt_tg := Nat.lt_of_lt_of_le lt_tg x53.1
      refine hs_aload (i := 0) (p := 55) (by decide +kernel) rfl ?_
      refine hf_get (T := et_TT) (t := 13) (ci := 11) (f := 15) (p := 58) (by decide +kernel) rfl hH k_am m15 ?_
      refine hs_k (x := Int32.ofNat 1) (p := 59) (by decide +kernel) ?_
      refine hs_aload (i := 0) (p := 60) (by decide +kernel) rfl ?_
      refine hs_iload (i := 2) (p := 61) (by decide +kernel) rfl ?_
      refine ht_callv (T := et_TT) (t := 13) (mi := 240) (na := 1) (ci := 11) (lk := 10) (lm := 2) (L0 := eg_en (eg_mL 240) [.ref am, .int (Int32.ofNat c)]) (by decide +kernel) rfl hH k_am rfl rfl rfl rfl rfl (by rw [show eg_mL 240 = 2 from by decide +kernel]; first | done | rfl) ?_
      refine (fm_isYes (y := 1) hH k_am k_aw m1 hc (by decide) ((ho _ (.inl (by omega))).trans cy)).mono (fun u hu => xp_cb hu ?_)
      show et_go none _ 247 64 _ [.int (Int32.ofNat 1), .int (Int32.ofNat 1), .ref tg] _ _ _ _
      have hHo := hH
      refine hf_zst (T := et_TT) (t := 24) (N := 2) (p := 65) (by decide +kernel) rfl rfl (show vp_nar .boolean (Int32.ofNat 1) = Int32.ofNat 1 from by decide +kernel) hH k_tg (by omega) (by decide) (fun s hs _ _ => by rw [List.mem_singleton] at hs; subst hs; exact hi_nv (by decide) (by decide)) (fun G64 hH x64 e64 => ?_)
      have hv := hv.xs hHo k_aw x64 (fun j h => hi_ne k_aw k_tg (by decide) h.1) hw
      have ho := ho.xs hHo k_aw x64 (fun j h => hi_ne k_aw k_tg (by decide) h.1)
      have hf := hf.tr hx0 (sh_x hHo k_tg x64 (shM_24 (by decide)))
      have m1 := (x64.2 am 1 lt_am (fun h => (hi_ne k_am k_tg (by decide)) h.1)).trans m1
      have m14 := (x64.2 am 14 lt_am (fun h => (hi_ne k_am k_tg (by decide)) h.1)).trans m14
      have m15 := (x64.2 am 15 lt_am (fun h => (hi_ne k_am k_tg (by decide)) h.1)).trans m15
      have e53 := (x64.2 tg 0 lt_tg (fun h => absurd h.2 (by decide))).trans e53
      have lt_am := Nat.lt_of_lt_of_le lt_am x64.1
      have lt_aw := Nat.lt_of_lt_of_le lt_aw x64.1
      have lt_fa := Nat.lt_of_lt_of_le lt_fa x64.1
      have lt_tg := Nat.lt_of_lt_of_le lt_tg x64.1
      refine hs_aload (i := 0) (p := 66) (by decide +kernel) rfl ?_
      refine hf_get (T := et_TT) (t := 13) (ci := 11) (f := 14) (p := 69) (by decide +kernel) rfl hH k_am m14 ?_
      refine hs_k (x := Int32.ofNat 0) (p := 70) (by decide +kernel) ?_
      refine hs_aload (i := 0) (p := 71) (by decide +kernel) rfl ?_
      refine hs_iload (i := 1) (p := 72) (by decide +kernel) rfl ?_
      refine hs_iload (i := 5) (p := 74) (by decide +kernel) rfl ?_
      refine ht_callv (T := et_TT) (t := 13) (mi := 236) (na := 2) (ci := 11) (lk := 10) (lm := 3) (L0 := eg_en (eg_mL 236) [.ref am, .int (Int32.ofNat n), .int x]) (by decide +kernel) rfl hH k_am rfl rfl rfl rfl rfl (by rw [show eg_mL 236 = 3 from by decide +kernel]; first | done | rfl) ?_
      refine (fn_seen hH k_am k_aw m1 hn hw hkd hv (by omega)).mono (fun u hu => xp_cb hu ?_)
      show et_go none _ 247 77 _ [.int (suN C Kd N x w), .int (Int32.ofNat 0), .ref fa] _ _ _ _
      refine hs_aload (i := 0) (p := 78) (by decide +kernel) rfl ?_
      refine hs_iload (i := 1) (p := 79) (by decide +kernel) rfl ?_
      refine hs_k (x := Int32.ofNat 19) (p := 81) (by decide +kernel) ?_
      refine ht_callv (T := et_TT) (t := 13) (mi := 225) (na := 2) (ci := 11) (lk := 10) (lm := 3) (L0 := eg_en (eg_mL 225) [.ref am, .int (Int32.ofNat n), .int (Int32.ofNat 19)]) (by decide +kernel) rfl hH k_am rfl rfl rfl rfl rfl (by rw [show eg_mL 225 = 3 from by decide +kernel]; first | done | rfl) ?_
      refine (fn_of hH k_am k_aw m1 (by omega) hv.2.2.1).mono (fun u hu => xp_cb hu ?_)
      show et_go none _ 247 84 _ [.int l, .int (suN C Kd N x w), .int (Int32.ofNat 0), .ref fa] _ _ _ _
      refine hs_isub (p := 85) (by decide +kernel) ?_
      refine hs_math (mi := 309) (lk := 10) (p := 88) (by decide +kernel) rfl rfl rfl rfl ?_
      have hHo := hH
      refine hf_ist (T := et_TT) (t := 14) (N := 5) (p := 89) (by decide +kernel) rfl rfl (by decide) hH k_fa (by omega) (by decide) (fun s hs => absurd hs List.not_mem_nil) (fun G88 hH x88 e88 => ?_)
      have hv := hv.xs hHo k_aw x88 (fun j h => hi_ne k_aw k_fa (by decide) h.1) hw
      have ho := ho.xs hHo k_aw x88 (fun j h => hi_ne k_aw k_fa (by decide) h.1)
      have hf := hf.tr hx0 (sh_x hHo k_fa x88 (shM_14 (by decide)))
      have m1 := (x88.2 am 1 lt_am (fun h => (hi_ne k_am k_fa (by decide)) h.1)).trans m1
      have m14 := (x88.2 am 14 lt_am (fun h => (hi_ne k_am k_fa (by decide)) h.1)).trans m14
      have m15 := (x88.2 am 15 lt_am (fun h => (hi_ne k_am k_fa (by decide)) h.1)).trans m15
      have e53 := (x88.2 tg 0 lt_tg (fun h => (hi_ne k_tg k_fa (by decide)) h.1)).trans e53
      have e64 := (x88.2 tg 1 lt_tg (fun h => (hi_ne k_tg k_fa (by decide)) h.1)).trans e64
      have lt_am := Nat.lt_of_lt_of_le lt_am x88.1
      have lt_aw := Nat.lt_of_lt_of_le lt_aw x88.1
      have lt_fa := Nat.lt_of_lt_of_le lt_fa x88.1
      have lt_tg := Nat.lt_of_lt_of_le lt_tg x88.1
      refine hs_aload (i := 0) (p := 90) (by decide +kernel) rfl ?_
      refine hf_get (T := et_TT) (t := 13) (ci := 11) (f := 14) (p := 93) (by decide +kernel) rfl hH k_am m14 ?_
      refine hs_k (x := Int32.ofNat 3) (p := 94) (by decide +kernel) ?_
      refine hs_aload (i := 0) (p := 95) (by decide +kernel) rfl ?_
      refine hs_iload (i := 1) (p := 96) (by decide +kernel) rfl ?_
      refine hs_k (x := Int32.ofNat 22) (p := 98) (by decide +kernel) ?_
      refine ht_callv (T := et_TT) (t := 13) (mi := 225) (na := 2) (ci := 11) (lk := 10) (lm := 3) (L0 := eg_en (eg_mL 225) [.ref am, .int (Int32.ofNat n), .int (Int32.ofNat 22)]) (by decide +kernel) rfl hH k_am rfl rfl rfl rfl rfl (by rw [show eg_mL 225 = 3 from by decide +kernel]; first | done | rfl) ?_
      refine (fn_of hH k_am k_aw m1 (by omega) hv.2.2.2.1).mono (fun u hu => xp_cb hu ?_)
      show et_go none _ 247 101 _ [.int (s + Int32.ofNat 1), .int (Int32.ofNat 3), .ref fa] _ _ _ _
      have hHo := hH
      refine hf_ist (T := et_TT) (t := 14) (N := 5) (p := 102) (by decide +kernel) rfl rfl (by decide) hH k_fa (by omega) (by decide) (fun s hs => absurd hs List.not_mem_nil) (fun G101 hH x101 e101 => ?_)
      have hv := hv.xs hHo k_aw x101 (fun j h => hi_ne k_aw k_fa (by decide) h.1) hw
      have ho := ho.xs hHo k_aw x101 (fun j h => hi_ne k_aw k_fa (by decide) h.1)
      have hf := hf.tr hx0 (sh_x hHo k_fa x101 (shM_14 (by decide)))
      have m1 := (x101.2 am 1 lt_am (fun h => (hi_ne k_am k_fa (by decide)) h.1)).trans m1
      have m14 := (x101.2 am 14 lt_am (fun h => (hi_ne k_am k_fa (by decide)) h.1)).trans m14
      have m15 := (x101.2 am 15 lt_am (fun h => (hi_ne k_am k_fa (by decide)) h.1)).trans m15
      have e53 := (x101.2 tg 0 lt_tg (fun h => (hi_ne k_tg k_fa (by decide)) h.1)).trans e53
      have e64 := (x101.2 tg 1 lt_tg (fun h => (hi_ne k_tg k_fa (by decide)) h.1)).trans e64
      have e88 := (x101.2 fa 0 lt_fa (fun h => absurd h.2 (by decide))).trans e88
      have lt_am := Nat.lt_of_lt_of_le lt_am x101.1
      have lt_aw := Nat.lt_of_lt_of_le lt_aw x101.1
      have lt_fa := Nat.lt_of_lt_of_le lt_fa x101.1
      have lt_tg := Nat.lt_of_lt_of_le lt_tg x101.1
      refine hs_aload (i := 0) (p := 103) (by decide +kernel) rfl ?_
      refine hs_iload (i := 2) (p := 104) (by decide +kernel) rfl ?_
      refine ht_callv (T := et_TT) (t := 13) (mi := 240) (na := 1) (ci := 11) (lk := 10) (lm := 2) (L0 := eg_en (eg_mL 240) [.ref am, .int (Int32.ofNat c)]) (by decide +kernel) rfl hH k_am rfl rfl rfl rfl rfl (by rw [show eg_mL 240 = 2 from by decide +kernel]; first | done | rfl) ?_
      refine (fm_isYes (y := 1) hH k_am k_aw m1 hc (by decide) ((ho _ (.inl (by omega))).trans cy)).mono (fun u hu => xp_cb hu ?_)
      show et_go none _ 247 107 _ [.int (Int32.ofNat 1)] _ _ _ _
      refine hs_if0 (c := .eq) (t := 114) (f := 110) (by decide +kernel) (show ¬ (Int32.ofNat 1 = 0) by decide) ?_
      refine hs_k (x := Int32.ofNat 1) (p := 111) (by decide +kernel) ?_
      refine hs_goto (p := 115) (by decide +kernel) ?_
      refine hs_istore (i := 7) (p := 117) (by decide +kernel) (Nat.le_of_ble_eq_true rfl) ?_
      refine hs_k (x := Int32.ofNat 0) (p := 118) (by decide +kernel) ?_
      refine hs_istore (i := 8) (p := 120) (by decide +kernel) (Nat.le_of_ble_eq_true rfl) ?_
      have hw8 : shW C Kd x w true (N, l, s) = false := Bool.eq_false_iff.mpr hw9
      show et_go none (d + 9) 247 120 [some (.ref am), some (.int (Int32.ofNat n)), some (.int (Int32.ofNat c)), some (.int (Int32.ofNat k)), some (.int (Int32.ofNat (45 + 23 * n))), some (.int x), some (.int (Int32.ofNat (if false = true then 1 else 0))), some (.int (upI true)), some (.int (Int32.ofNat 0)), none] [] _ _ _ _
      refine fn_showL (C := C) (N := N) (wr := false) (ye := true) (m := 0) hH k_am k_aw m1 k_fa k_tg hn hw hkd (hv.co (fun k _ => upU_0)) hx0 hf ho hk hT hcl m14 m15 e88 e101 e53 e64 (Nat.zero_le _) (fun K9 G9 h1 h2 h3 h4 h5 => ?_)
      have h8 := h K9 G9 h1 h2 h3 h4
      unfold nxN shU at h8
      rw [hw8] at h8
      exact h8 h5
  | false =>
    show et_go none (d + 9) 247 0 [some (.ref am), some (.int (Int32.ofNat n)), some (.int (Int32.ofNat c)), some (.int (Int32.ofNat k)), none, none, none, none, none, none] [] G 0 0 _
    have lt_am := (hH.2.2 _ _ k_am).1
    have lt_aw := (hH.2.2 _ _ k_aw).1
    have lt_fa := (hH.2.2 _ _ k_fa).1
    have lt_tg := (hH.2.2 _ _ k_tg).1
    refine hs_k (x := Int32.ofNat 45) (p := 2) (by decide +kernel) ?_
    refine hs_k (x := Int32.ofNat 23) (p := 4) (by decide +kernel) ?_
    refine hs_iload (i := 1) (p := 5) (by decide +kernel) rfl ?_
    refine hs_imuln (p := 6) (by decide +kernel) ?_
    refine hs_iaddn (p := 7) (by decide +kernel) ?_
    refine hs_istore (i := 4) (p := 9) (by decide +kernel) (Nat.le_of_ble_eq_true rfl) ?_
    refine hs_aload (i := 0) (p := 10) (by decide +kernel) rfl ?_
    refine hs_iload (i := 2) (p := 11) (by decide +kernel) rfl ?_
    refine ht_callv (T := et_TT) (t := 13) (mi := 234) (na := 1) (ci := 11) (lk := 10) (lm := 2) (L0 := eg_en (eg_mL 234) [.ref am, .int (Int32.ofNat c)]) (by decide +kernel) rfl hH k_am rfl rfl rfl rfl rfl (by rw [show eg_mL 234 = 2 from by decide +kernel]; first | done | rfl) ?_
    refine (fm_litOf hH k_am k_aw m1 hc ((ho _ (.inl (by omega))).trans cx)).mono (fun u hu => xp_cb hu ?_)
    show et_go none _ 247 14 _ [.int x] _ _ _ _
    refine hs_istore (i := 5) (p := 16) (by decide +kernel) (Nat.le_of_ble_eq_true rfl) ?_
    refine hs_aload (i := 0) (p := 17) (by decide +kernel) rfl ?_
    refine hf_get (T := et_TT) (t := 13) (ci := 11) (f := 1) (p := 20) (by decide +kernel) rfl hH k_am m1 ?_
    refine hs_iload (i := 4) (p := 22) (by decide +kernel) rfl ?_
    refine hs_k (x := Int32.ofNat 22) (p := 24) (by decide +kernel) ?_
    refine hs_iaddn (p := 25) (by decide +kernel) ?_
    refine hs_dup2 (p := 26) (by decide +kernel) ?_
    refine hf_ald (ins := .iaload) (T := et_TT) (t := 46) (kd := 0) (N := 12741) (p := 27) (by decide +kernel) (fun _ _ _ _ _ _ _ _ _ _ => rfl) rfl rfl rfl hH k_aw (by decide) hv.2.2.2.1 ?_
    refine hs_k (x := Int32.ofNat 1) (p := 28) (by decide +kernel) ?_
    refine hs_iadd (p := 29) (by decide +kernel) ?_
    have hHo := hH
    refine hf_wst (p := 30) (by decide +kernel) hH k_aw (by omega) (wx_ok (e := n) (k := 22) (by omega) (by decide) (fun h => absurd h (by decide))) (fun G29 hH x29 e29 => ?_)
    have hv := hv.ps hHo k_aw x29 (by omega) hw e29
    have ho := ho.w hHo k_aw x29 (by omega)
    have hf := hf.tr hx0 (sh_x hHo k_aw x29 (shM_46 (by omega) (by omega)))
    have m1 := (x29.2 am 1 lt_am (fun h => (hi_ne k_am k_aw (by decide)) h.1)).trans m1
    have m14 := (x29.2 am 14 lt_am (fun h => (hi_ne k_am k_aw (by decide)) h.1)).trans m14
    have m15 := (x29.2 am 15 lt_am (fun h => (hi_ne k_am k_aw (by decide)) h.1)).trans m15
    have lt_am := Nat.lt_of_lt_of_le lt_am x29.1
    have lt_aw := Nat.lt_of_lt_of_le lt_aw x29.1
    have lt_fa := Nat.lt_of_lt_of_le lt_fa x29.1
    have lt_tg := Nat.lt_of_lt_of_le lt_tg x29.1
    refine hs_aload (i := 0) (p := 31) (by decide +kernel) rfl ?_
    refine hs_iload (i := 1) (p := 32) (by decide +kernel) rfl ?_
    refine hs_iload (i := 2) (p := 33) (by decide +kernel) rfl ?_
    refine ht_callv (T := et_TT) (t := 13) (mi := 233) (na := 2) (ci := 11) (lk := 10) (lm := 3) (L0 := eg_en (eg_mL 233) [.ref am, .int (Int32.ofNat n), .int (Int32.ofNat c)]) (by decide +kernel) rfl hH k_am rfl rfl rfl rfl rfl (by rw [show eg_mL 233 = 3 from by decide +kernel]; first | done | rfl) ?_
    refine (fn_ron (ye := false) hH k_am k_aw m1 hn hw hkd hv hc ((ho _ (.inl (by omega))).trans cx) ((ho _ (.inl (by omega))).trans cy) (by omega)).mono (fun u hu => xp_cb hu ?_)
    by_cases hw9 : (decide (l < suN C Kd N x w) != false) = true
    · rw [if_pos hw9]
      show et_go none _ 247 36 _ [.int (Int32.ofNat 0)] _ _ _ _
      refine hs_if0 (c := .ne) (t := 43) (f := 39) (by decide +kernel) (show ¬ (¬ Int32.ofNat 0 = 0) by decide) ?_
      refine hs_k (x := Int32.ofNat 1) (p := 40) (by decide +kernel) ?_
      refine hs_goto (p := 44) (by decide +kernel) ?_
      refine hs_istore (i := 6) (p := 46) (by decide +kernel) (Nat.le_of_ble_eq_true rfl) ?_
      refine hs_aload (i := 0) (p := 47) (by decide +kernel) rfl ?_
      refine hf_get (T := et_TT) (t := 13) (ci := 11) (f := 15) (p := 50) (by decide +kernel) rfl hH k_am m15 ?_
      refine hs_k (x := Int32.ofNat 0) (p := 51) (by decide +kernel) ?_
      refine hs_iload (i := 6) (p := 53) (by decide +kernel) rfl ?_
      have hHo := hH
      refine hf_zst (T := et_TT) (t := 24) (N := 2) (p := 54) (by decide +kernel) rfl rfl (show vp_nar .boolean (Int32.ofNat 1) = Int32.ofNat 1 from by decide +kernel) hH k_tg (by omega) (by decide) (fun s hs _ _ => by rw [List.mem_singleton] at hs; subst hs; exact hi_nv (by decide) (by decide)) (fun G53 hH x53 e53 => ?_)
      have hv := hv.xs hHo k_aw x53 (fun j h => hi_ne k_aw k_tg (by decide) h.1) hw
      have ho := ho.xs hHo k_aw x53 (fun j h => hi_ne k_aw k_tg (by decide) h.1)
      have hf := hf.tr hx0 (sh_x hHo k_tg x53 (shM_24 (by decide)))
      have m1 := (x53.2 am 1 lt_am (fun h => (hi_ne k_am k_tg (by decide)) h.1)).trans m1
      have m14 := (x53.2 am 14 lt_am (fun h => (hi_ne k_am k_tg (by decide)) h.1)).trans m14
      have m15 := (x53.2 am 15 lt_am (fun h => (hi_ne k_am k_tg (by decide)) h.1)).trans m15
      have lt_am := Nat.lt_of_lt_of_le lt_am x53.1
      have lt_aw := Nat.lt_of_lt_of_le lt_aw x53.1
      have lt_fa := Nat.lt_of_lt_of_le lt_fa x53.1
      have lt_tg := Nat.lt_of_lt_of_le lt_tg x53.1
      refine hs_aload (i := 0) (p := 55) (by decide +kernel) rfl ?_
      refine hf_get (T := et_TT) (t := 13) (ci := 11) (f := 15) (p := 58) (by decide +kernel) rfl hH k_am m15 ?_
      refine hs_k (x := Int32.ofNat 1) (p := 59) (by decide +kernel) ?_
      refine hs_aload (i := 0) (p := 60) (by decide +kernel) rfl ?_
      refine hs_iload (i := 2) (p := 61) (by decide +kernel) rfl ?_
      refine ht_callv (T := et_TT) (t := 13) (mi := 240) (na := 1) (ci := 11) (lk := 10) (lm := 2) (L0 := eg_en (eg_mL 240) [.ref am, .int (Int32.ofNat c)]) (by decide +kernel) rfl hH k_am rfl rfl rfl rfl rfl (by rw [show eg_mL 240 = 2 from by decide +kernel]; first | done | rfl) ?_
      refine (fm_isYes (y := 0) hH k_am k_aw m1 hc (by decide) ((ho _ (.inl (by omega))).trans cy)).mono (fun u hu => xp_cb hu ?_)
      show et_go none _ 247 64 _ [.int (Int32.ofNat 0), .int (Int32.ofNat 1), .ref tg] _ _ _ _
      have hHo := hH
      refine hf_zst (T := et_TT) (t := 24) (N := 2) (p := 65) (by decide +kernel) rfl rfl (show vp_nar .boolean (Int32.ofNat 0) = Int32.ofNat 0 from by decide +kernel) hH k_tg (by omega) (by decide) (fun s hs _ _ => by rw [List.mem_singleton] at hs; subst hs; exact hi_nv (by decide) (by decide)) (fun G64 hH x64 e64 => ?_)
      have hv := hv.xs hHo k_aw x64 (fun j h => hi_ne k_aw k_tg (by decide) h.1) hw
      have ho := ho.xs hHo k_aw x64 (fun j h => hi_ne k_aw k_tg (by decide) h.1)
      have hf := hf.tr hx0 (sh_x hHo k_tg x64 (shM_24 (by decide)))
      have m1 := (x64.2 am 1 lt_am (fun h => (hi_ne k_am k_tg (by decide)) h.1)).trans m1
      have m14 := (x64.2 am 14 lt_am (fun h => (hi_ne k_am k_tg (by decide)) h.1)).trans m14
      have m15 := (x64.2 am 15 lt_am (fun h => (hi_ne k_am k_tg (by decide)) h.1)).trans m15
      have e53 := (x64.2 tg 0 lt_tg (fun h => absurd h.2 (by decide))).trans e53
      have lt_am := Nat.lt_of_lt_of_le lt_am x64.1
      have lt_aw := Nat.lt_of_lt_of_le lt_aw x64.1
      have lt_fa := Nat.lt_of_lt_of_le lt_fa x64.1
      have lt_tg := Nat.lt_of_lt_of_le lt_tg x64.1
      refine hs_aload (i := 0) (p := 66) (by decide +kernel) rfl ?_
      refine hf_get (T := et_TT) (t := 13) (ci := 11) (f := 14) (p := 69) (by decide +kernel) rfl hH k_am m14 ?_
      refine hs_k (x := Int32.ofNat 0) (p := 70) (by decide +kernel) ?_
      refine hs_aload (i := 0) (p := 71) (by decide +kernel) rfl ?_
      refine hs_iload (i := 1) (p := 72) (by decide +kernel) rfl ?_
      refine hs_iload (i := 5) (p := 74) (by decide +kernel) rfl ?_
      refine ht_callv (T := et_TT) (t := 13) (mi := 236) (na := 2) (ci := 11) (lk := 10) (lm := 3) (L0 := eg_en (eg_mL 236) [.ref am, .int (Int32.ofNat n), .int x]) (by decide +kernel) rfl hH k_am rfl rfl rfl rfl rfl (by rw [show eg_mL 236 = 3 from by decide +kernel]; first | done | rfl) ?_
      refine (fn_seen hH k_am k_aw m1 hn hw hkd hv (by omega)).mono (fun u hu => xp_cb hu ?_)
      show et_go none _ 247 77 _ [.int (suN C Kd N x w), .int (Int32.ofNat 0), .ref fa] _ _ _ _
      refine hs_aload (i := 0) (p := 78) (by decide +kernel) rfl ?_
      refine hs_iload (i := 1) (p := 79) (by decide +kernel) rfl ?_
      refine hs_k (x := Int32.ofNat 19) (p := 81) (by decide +kernel) ?_
      refine ht_callv (T := et_TT) (t := 13) (mi := 225) (na := 2) (ci := 11) (lk := 10) (lm := 3) (L0 := eg_en (eg_mL 225) [.ref am, .int (Int32.ofNat n), .int (Int32.ofNat 19)]) (by decide +kernel) rfl hH k_am rfl rfl rfl rfl rfl (by rw [show eg_mL 225 = 3 from by decide +kernel]; first | done | rfl) ?_
      refine (fn_of hH k_am k_aw m1 (by omega) hv.2.2.1).mono (fun u hu => xp_cb hu ?_)
      show et_go none _ 247 84 _ [.int l, .int (suN C Kd N x w), .int (Int32.ofNat 0), .ref fa] _ _ _ _
      refine hs_isub (p := 85) (by decide +kernel) ?_
      refine hs_math (mi := 309) (lk := 10) (p := 88) (by decide +kernel) rfl rfl rfl rfl ?_
      have hHo := hH
      refine hf_ist (T := et_TT) (t := 14) (N := 5) (p := 89) (by decide +kernel) rfl rfl (by decide) hH k_fa (by omega) (by decide) (fun s hs => absurd hs List.not_mem_nil) (fun G88 hH x88 e88 => ?_)
      have hv := hv.xs hHo k_aw x88 (fun j h => hi_ne k_aw k_fa (by decide) h.1) hw
      have ho := ho.xs hHo k_aw x88 (fun j h => hi_ne k_aw k_fa (by decide) h.1)
      have hf := hf.tr hx0 (sh_x hHo k_fa x88 (shM_14 (by decide)))
      have m1 := (x88.2 am 1 lt_am (fun h => (hi_ne k_am k_fa (by decide)) h.1)).trans m1
      have m14 := (x88.2 am 14 lt_am (fun h => (hi_ne k_am k_fa (by decide)) h.1)).trans m14
      have m15 := (x88.2 am 15 lt_am (fun h => (hi_ne k_am k_fa (by decide)) h.1)).trans m15
      have e53 := (x88.2 tg 0 lt_tg (fun h => (hi_ne k_tg k_fa (by decide)) h.1)).trans e53
      have e64 := (x88.2 tg 1 lt_tg (fun h => (hi_ne k_tg k_fa (by decide)) h.1)).trans e64
      have lt_am := Nat.lt_of_lt_of_le lt_am x88.1
      have lt_aw := Nat.lt_of_lt_of_le lt_aw x88.1
      have lt_fa := Nat.lt_of_lt_of_le lt_fa x88.1
      have lt_tg := Nat.lt_of_lt_of_le lt_tg x88.1
      refine hs_aload (i := 0) (p := 90) (by decide +kernel) rfl ?_
      refine hf_get (T := et_TT) (t := 13) (ci := 11) (f := 14) (p := 93) (by decide +kernel) rfl hH k_am m14 ?_
      refine hs_k (x := Int32.ofNat 3) (p := 94) (by decide +kernel) ?_
      refine hs_aload (i := 0) (p := 95) (by decide +kernel) rfl ?_
      refine hs_iload (i := 1) (p := 96) (by decide +kernel) rfl ?_
      refine hs_k (x := Int32.ofNat 22) (p := 98) (by decide +kernel) ?_
      refine ht_callv (T := et_TT) (t := 13) (mi := 225) (na := 2) (ci := 11) (lk := 10) (lm := 3) (L0 := eg_en (eg_mL 225) [.ref am, .int (Int32.ofNat n), .int (Int32.ofNat 22)]) (by decide +kernel) rfl hH k_am rfl rfl rfl rfl rfl (by rw [show eg_mL 225 = 3 from by decide +kernel]; first | done | rfl) ?_
      refine (fn_of hH k_am k_aw m1 (by omega) hv.2.2.2.1).mono (fun u hu => xp_cb hu ?_)
      show et_go none _ 247 101 _ [.int (s + Int32.ofNat 1), .int (Int32.ofNat 3), .ref fa] _ _ _ _
      have hHo := hH
      refine hf_ist (T := et_TT) (t := 14) (N := 5) (p := 102) (by decide +kernel) rfl rfl (by decide) hH k_fa (by omega) (by decide) (fun s hs => absurd hs List.not_mem_nil) (fun G101 hH x101 e101 => ?_)
      have hv := hv.xs hHo k_aw x101 (fun j h => hi_ne k_aw k_fa (by decide) h.1) hw
      have ho := ho.xs hHo k_aw x101 (fun j h => hi_ne k_aw k_fa (by decide) h.1)
      have hf := hf.tr hx0 (sh_x hHo k_fa x101 (shM_14 (by decide)))
      have m1 := (x101.2 am 1 lt_am (fun h => (hi_ne k_am k_fa (by decide)) h.1)).trans m1
      have m14 := (x101.2 am 14 lt_am (fun h => (hi_ne k_am k_fa (by decide)) h.1)).trans m14
      have m15 := (x101.2 am 15 lt_am (fun h => (hi_ne k_am k_fa (by decide)) h.1)).trans m15
      have e53 := (x101.2 tg 0 lt_tg (fun h => (hi_ne k_tg k_fa (by decide)) h.1)).trans e53
      have e64 := (x101.2 tg 1 lt_tg (fun h => (hi_ne k_tg k_fa (by decide)) h.1)).trans e64
      have e88 := (x101.2 fa 0 lt_fa (fun h => absurd h.2 (by decide))).trans e88
      have lt_am := Nat.lt_of_lt_of_le lt_am x101.1
      have lt_aw := Nat.lt_of_lt_of_le lt_aw x101.1
      have lt_fa := Nat.lt_of_lt_of_le lt_fa x101.1
      have lt_tg := Nat.lt_of_lt_of_le lt_tg x101.1
      refine hs_aload (i := 0) (p := 103) (by decide +kernel) rfl ?_
      refine hs_iload (i := 2) (p := 104) (by decide +kernel) rfl ?_
      refine ht_callv (T := et_TT) (t := 13) (mi := 240) (na := 1) (ci := 11) (lk := 10) (lm := 2) (L0 := eg_en (eg_mL 240) [.ref am, .int (Int32.ofNat c)]) (by decide +kernel) rfl hH k_am rfl rfl rfl rfl rfl (by rw [show eg_mL 240 = 2 from by decide +kernel]; first | done | rfl) ?_
      refine (fm_isYes (y := 0) hH k_am k_aw m1 hc (by decide) ((ho _ (.inl (by omega))).trans cy)).mono (fun u hu => xp_cb hu ?_)
      show et_go none _ 247 107 _ [.int (Int32.ofNat 0)] _ _ _ _
      refine hs_if1 (c := .eq) (t := 114) (f := 110) (by decide +kernel) (show Int32.ofNat 0 = 0 by decide) ?_
      refine hs_k (x := (-1)) (p := 115) (by decide +kernel) ?_
      refine hs_istore (i := 7) (p := 117) (by decide +kernel) (Nat.le_of_ble_eq_true rfl) ?_
      refine hs_k (x := Int32.ofNat 0) (p := 118) (by decide +kernel) ?_
      refine hs_istore (i := 8) (p := 120) (by decide +kernel) (Nat.le_of_ble_eq_true rfl) ?_
      have hw8 : shW C Kd x w false (N, l, s) = true := hw9
      show et_go none (d + 9) 247 120 [some (.ref am), some (.int (Int32.ofNat n)), some (.int (Int32.ofNat c)), some (.int (Int32.ofNat k)), some (.int (Int32.ofNat (45 + 23 * n))), some (.int x), some (.int (Int32.ofNat (if true = true then 1 else 0))), some (.int (upI false)), some (.int (Int32.ofNat 0)), none] [] _ _ _ _
      refine fn_showL (C := C) (N := N) (wr := true) (ye := false) (m := 0) hH k_am k_aw m1 k_fa k_tg hn hw hkd (hv.co (fun k _ => upU_0)) hx0 hf ho hk hT hcl m14 m15 e88 e101 e53 e64 (Nat.zero_le _) (fun K9 G9 h1 h2 h3 h4 h5 => ?_)
      have h8 := h K9 G9 h1 h2 h3 h4
      unfold nxN shU at h8
      rw [hw8] at h8
      exact h8 h5
    · rw [if_neg hw9]
      show et_go none _ 247 36 _ [.int (Int32.ofNat 1)] _ _ _ _
      refine hs_if1 (c := .ne) (t := 43) (f := 39) (by decide +kernel) (show ¬ Int32.ofNat 1 = 0 by decide) ?_
      refine hs_k (x := Int32.ofNat 0) (p := 44) (by decide +kernel) ?_
      refine hs_istore (i := 6) (p := 46) (by decide +kernel) (Nat.le_of_ble_eq_true rfl) ?_
      refine hs_aload (i := 0) (p := 47) (by decide +kernel) rfl ?_
      refine hf_get (T := et_TT) (t := 13) (ci := 11) (f := 15) (p := 50) (by decide +kernel) rfl hH k_am m15 ?_
      refine hs_k (x := Int32.ofNat 0) (p := 51) (by decide +kernel) ?_
      refine hs_iload (i := 6) (p := 53) (by decide +kernel) rfl ?_
      have hHo := hH
      refine hf_zst (T := et_TT) (t := 24) (N := 2) (p := 54) (by decide +kernel) rfl rfl (show vp_nar .boolean (Int32.ofNat 0) = Int32.ofNat 0 from by decide +kernel) hH k_tg (by omega) (by decide) (fun s hs _ _ => by rw [List.mem_singleton] at hs; subst hs; exact hi_nv (by decide) (by decide)) (fun G53 hH x53 e53 => ?_)
      have hv := hv.xs hHo k_aw x53 (fun j h => hi_ne k_aw k_tg (by decide) h.1) hw
      have ho := ho.xs hHo k_aw x53 (fun j h => hi_ne k_aw k_tg (by decide) h.1)
      have hf := hf.tr hx0 (sh_x hHo k_tg x53 (shM_24 (by decide)))
      have m1 := (x53.2 am 1 lt_am (fun h => (hi_ne k_am k_tg (by decide)) h.1)).trans m1
      have m14 := (x53.2 am 14 lt_am (fun h => (hi_ne k_am k_tg (by decide)) h.1)).trans m14
      have m15 := (x53.2 am 15 lt_am (fun h => (hi_ne k_am k_tg (by decide)) h.1)).trans m15
      have lt_am := Nat.lt_of_lt_of_le lt_am x53.1
      have lt_aw := Nat.lt_of_lt_of_le lt_aw x53.1
      have lt_fa := Nat.lt_of_lt_of_le lt_fa x53.1
      have lt_tg := Nat.lt_of_lt_of_le lt_tg x53.1
      refine hs_aload (i := 0) (p := 55) (by decide +kernel) rfl ?_
      refine hf_get (T := et_TT) (t := 13) (ci := 11) (f := 15) (p := 58) (by decide +kernel) rfl hH k_am m15 ?_
      refine hs_k (x := Int32.ofNat 1) (p := 59) (by decide +kernel) ?_
      refine hs_aload (i := 0) (p := 60) (by decide +kernel) rfl ?_
      refine hs_iload (i := 2) (p := 61) (by decide +kernel) rfl ?_
      refine ht_callv (T := et_TT) (t := 13) (mi := 240) (na := 1) (ci := 11) (lk := 10) (lm := 2) (L0 := eg_en (eg_mL 240) [.ref am, .int (Int32.ofNat c)]) (by decide +kernel) rfl hH k_am rfl rfl rfl rfl rfl (by rw [show eg_mL 240 = 2 from by decide +kernel]; first | done | rfl) ?_
      refine (fm_isYes (y := 0) hH k_am k_aw m1 hc (by decide) ((ho _ (.inl (by omega))).trans cy)).mono (fun u hu => xp_cb hu ?_)
      show et_go none _ 247 64 _ [.int (Int32.ofNat 0), .int (Int32.ofNat 1), .ref tg] _ _ _ _
      have hHo := hH
      refine hf_zst (T := et_TT) (t := 24) (N := 2) (p := 65) (by decide +kernel) rfl rfl (show vp_nar .boolean (Int32.ofNat 0) = Int32.ofNat 0 from by decide +kernel) hH k_tg (by omega) (by decide) (fun s hs _ _ => by rw [List.mem_singleton] at hs; subst hs; exact hi_nv (by decide) (by decide)) (fun G64 hH x64 e64 => ?_)
      have hv := hv.xs hHo k_aw x64 (fun j h => hi_ne k_aw k_tg (by decide) h.1) hw
      have ho := ho.xs hHo k_aw x64 (fun j h => hi_ne k_aw k_tg (by decide) h.1)
      have hf := hf.tr hx0 (sh_x hHo k_tg x64 (shM_24 (by decide)))
      have m1 := (x64.2 am 1 lt_am (fun h => (hi_ne k_am k_tg (by decide)) h.1)).trans m1
      have m14 := (x64.2 am 14 lt_am (fun h => (hi_ne k_am k_tg (by decide)) h.1)).trans m14
      have m15 := (x64.2 am 15 lt_am (fun h => (hi_ne k_am k_tg (by decide)) h.1)).trans m15
      have e53 := (x64.2 tg 0 lt_tg (fun h => absurd h.2 (by decide))).trans e53
      have lt_am := Nat.lt_of_lt_of_le lt_am x64.1
      have lt_aw := Nat.lt_of_lt_of_le lt_aw x64.1
      have lt_fa := Nat.lt_of_lt_of_le lt_fa x64.1
      have lt_tg := Nat.lt_of_lt_of_le lt_tg x64.1
      refine hs_aload (i := 0) (p := 66) (by decide +kernel) rfl ?_
      refine hf_get (T := et_TT) (t := 13) (ci := 11) (f := 14) (p := 69) (by decide +kernel) rfl hH k_am m14 ?_
      refine hs_k (x := Int32.ofNat 0) (p := 70) (by decide +kernel) ?_
      refine hs_aload (i := 0) (p := 71) (by decide +kernel) rfl ?_
      refine hs_iload (i := 1) (p := 72) (by decide +kernel) rfl ?_
      refine hs_iload (i := 5) (p := 74) (by decide +kernel) rfl ?_
      refine ht_callv (T := et_TT) (t := 13) (mi := 236) (na := 2) (ci := 11) (lk := 10) (lm := 3) (L0 := eg_en (eg_mL 236) [.ref am, .int (Int32.ofNat n), .int x]) (by decide +kernel) rfl hH k_am rfl rfl rfl rfl rfl (by rw [show eg_mL 236 = 3 from by decide +kernel]; first | done | rfl) ?_
      refine (fn_seen hH k_am k_aw m1 hn hw hkd hv (by omega)).mono (fun u hu => xp_cb hu ?_)
      show et_go none _ 247 77 _ [.int (suN C Kd N x w), .int (Int32.ofNat 0), .ref fa] _ _ _ _
      refine hs_aload (i := 0) (p := 78) (by decide +kernel) rfl ?_
      refine hs_iload (i := 1) (p := 79) (by decide +kernel) rfl ?_
      refine hs_k (x := Int32.ofNat 19) (p := 81) (by decide +kernel) ?_
      refine ht_callv (T := et_TT) (t := 13) (mi := 225) (na := 2) (ci := 11) (lk := 10) (lm := 3) (L0 := eg_en (eg_mL 225) [.ref am, .int (Int32.ofNat n), .int (Int32.ofNat 19)]) (by decide +kernel) rfl hH k_am rfl rfl rfl rfl rfl (by rw [show eg_mL 225 = 3 from by decide +kernel]; first | done | rfl) ?_
      refine (fn_of hH k_am k_aw m1 (by omega) hv.2.2.1).mono (fun u hu => xp_cb hu ?_)
      show et_go none _ 247 84 _ [.int l, .int (suN C Kd N x w), .int (Int32.ofNat 0), .ref fa] _ _ _ _
      refine hs_isub (p := 85) (by decide +kernel) ?_
      refine hs_math (mi := 309) (lk := 10) (p := 88) (by decide +kernel) rfl rfl rfl rfl ?_
      have hHo := hH
      refine hf_ist (T := et_TT) (t := 14) (N := 5) (p := 89) (by decide +kernel) rfl rfl (by decide) hH k_fa (by omega) (by decide) (fun s hs => absurd hs List.not_mem_nil) (fun G88 hH x88 e88 => ?_)
      have hv := hv.xs hHo k_aw x88 (fun j h => hi_ne k_aw k_fa (by decide) h.1) hw
      have ho := ho.xs hHo k_aw x88 (fun j h => hi_ne k_aw k_fa (by decide) h.1)
      have hf := hf.tr hx0 (sh_x hHo k_fa x88 (shM_14 (by decide)))
      have m1 := (x88.2 am 1 lt_am (fun h => (hi_ne k_am k_fa (by decide)) h.1)).trans m1
      have m14 := (x88.2 am 14 lt_am (fun h => (hi_ne k_am k_fa (by decide)) h.1)).trans m14
      have m15 := (x88.2 am 15 lt_am (fun h => (hi_ne k_am k_fa (by decide)) h.1)).trans m15
      have e53 := (x88.2 tg 0 lt_tg (fun h => (hi_ne k_tg k_fa (by decide)) h.1)).trans e53
      have e64 := (x88.2 tg 1 lt_tg (fun h => (hi_ne k_tg k_fa (by decide)) h.1)).trans e64
      have lt_am := Nat.lt_of_lt_of_le lt_am x88.1
      have lt_aw := Nat.lt_of_lt_of_le lt_aw x88.1
      have lt_fa := Nat.lt_of_lt_of_le lt_fa x88.1
      have lt_tg := Nat.lt_of_lt_of_le lt_tg x88.1
      refine hs_aload (i := 0) (p := 90) (by decide +kernel) rfl ?_
      refine hf_get (T := et_TT) (t := 13) (ci := 11) (f := 14) (p := 93) (by decide +kernel) rfl hH k_am m14 ?_
      refine hs_k (x := Int32.ofNat 3) (p := 94) (by decide +kernel) ?_
      refine hs_aload (i := 0) (p := 95) (by decide +kernel) rfl ?_
      refine hs_iload (i := 1) (p := 96) (by decide +kernel) rfl ?_
      refine hs_k (x := Int32.ofNat 22) (p := 98) (by decide +kernel) ?_
      refine ht_callv (T := et_TT) (t := 13) (mi := 225) (na := 2) (ci := 11) (lk := 10) (lm := 3) (L0 := eg_en (eg_mL 225) [.ref am, .int (Int32.ofNat n), .int (Int32.ofNat 22)]) (by decide +kernel) rfl hH k_am rfl rfl rfl rfl rfl (by rw [show eg_mL 225 = 3 from by decide +kernel]; first | done | rfl) ?_
      refine (fn_of hH k_am k_aw m1 (by omega) hv.2.2.2.1).mono (fun u hu => xp_cb hu ?_)
      show et_go none _ 247 101 _ [.int (s + Int32.ofNat 1), .int (Int32.ofNat 3), .ref fa] _ _ _ _
      have hHo := hH
      refine hf_ist (T := et_TT) (t := 14) (N := 5) (p := 102) (by decide +kernel) rfl rfl (by decide) hH k_fa (by omega) (by decide) (fun s hs => absurd hs List.not_mem_nil) (fun G101 hH x101 e101 => ?_)
      have hv := hv.xs hHo k_aw x101 (fun j h => hi_ne k_aw k_fa (by decide) h.1) hw
      have ho := ho.xs hHo k_aw x101 (fun j h => hi_ne k_aw k_fa (by decide) h.1)
      have hf := hf.tr hx0 (sh_x hHo k_fa x101 (shM_14 (by decide)))
      have m1 := (x101.2 am 1 lt_am (fun h => (hi_ne k_am k_fa (by decide)) h.1)).trans m1
      have m14 := (x101.2 am 14 lt_am (fun h => (hi_ne k_am k_fa (by decide)) h.1)).trans m14
      have m15 := (x101.2 am 15 lt_am (fun h => (hi_ne k_am k_fa (by decide)) h.1)).trans m15
      have e53 := (x101.2 tg 0 lt_tg (fun h => (hi_ne k_tg k_fa (by decide)) h.1)).trans e53
      have e64 := (x101.2 tg 1 lt_tg (fun h => (hi_ne k_tg k_fa (by decide)) h.1)).trans e64
      have e88 := (x101.2 fa 0 lt_fa (fun h => absurd h.2 (by decide))).trans e88
      have lt_am := Nat.lt_of_lt_of_le lt_am x101.1
      have lt_aw := Nat.lt_of_lt_of_le lt_aw x101.1
      have lt_fa := Nat.lt_of_lt_of_le lt_fa x101.1
      have lt_tg := Nat.lt_of_lt_of_le lt_tg x101.1
      refine hs_aload (i := 0) (p := 103) (by decide +kernel) rfl ?_
      refine hs_iload (i := 2) (p := 104) (by decide +kernel) rfl ?_
      refine ht_callv (T := et_TT) (t := 13) (mi := 240) (na := 1) (ci := 11) (lk := 10) (lm := 2) (L0 := eg_en (eg_mL 240) [.ref am, .int (Int32.ofNat c)]) (by decide +kernel) rfl hH k_am rfl rfl rfl rfl rfl (by rw [show eg_mL 240 = 2 from by decide +kernel]; first | done | rfl) ?_
      refine (fm_isYes (y := 0) hH k_am k_aw m1 hc (by decide) ((ho _ (.inl (by omega))).trans cy)).mono (fun u hu => xp_cb hu ?_)
      show et_go none _ 247 107 _ [.int (Int32.ofNat 0)] _ _ _ _
      refine hs_if1 (c := .eq) (t := 114) (f := 110) (by decide +kernel) (show Int32.ofNat 0 = 0 by decide) ?_
      refine hs_k (x := (-1)) (p := 115) (by decide +kernel) ?_
      refine hs_istore (i := 7) (p := 117) (by decide +kernel) (Nat.le_of_ble_eq_true rfl) ?_
      refine hs_k (x := Int32.ofNat 0) (p := 118) (by decide +kernel) ?_
      refine hs_istore (i := 8) (p := 120) (by decide +kernel) (Nat.le_of_ble_eq_true rfl) ?_
      have hw8 : shW C Kd x w false (N, l, s) = false := Bool.eq_false_iff.mpr hw9
      show et_go none (d + 9) 247 120 [some (.ref am), some (.int (Int32.ofNat n)), some (.int (Int32.ofNat c)), some (.int (Int32.ofNat k)), some (.int (Int32.ofNat (45 + 23 * n))), some (.int x), some (.int (Int32.ofNat (if false = true then 1 else 0))), some (.int (upI false)), some (.int (Int32.ofNat 0)), none] [] _ _ _ _
      refine fn_showL (C := C) (N := N) (wr := false) (ye := false) (m := 0) hH k_am k_aw m1 k_fa k_tg hn hw hkd (hv.co (fun k _ => upU_0)) hx0 hf ho hk hT hcl m14 m15 e88 e101 e53 e64 (Nat.zero_le _) (fun K9 G9 h1 h2 h3 h4 h5 => ?_)
      have h8 := h K9 G9 h1 h2 h3 h4
      unfold nxN shU at h8
      rw [hw8] at h8
      exact h8 h5
end VGM
