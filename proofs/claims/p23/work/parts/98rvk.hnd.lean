/-! FUNCTIONAL: a RULE on a card, the reference's side (typed) -/
theorem pc_sh (r : Int32) : ((r &&& 61166) >>> (Int32.ofNat 1 &&& 31)) = ((r >>> (Int32.ofNat 1 &&& 31)) &&& Int32.ofNat 30583) := by
  apply Int32.toBitVec_inj.mp
  show (r.toBitVec &&& (61166 : Int32).toBitVec).sshiftRight ((Int32.ofNat 1 &&& 31).toBitVec.smod 32).toNat = (r.toBitVec.sshiftRight ((Int32.ofNat 1 &&& 31).toBitVec.smod 32).toNat) &&& (Int32.ofNat 30583).toBitVec
  rw [BitVec.sshiftRight_and_distrib]
  exact congrArg (fun z => r.toBitVec.sshiftRight ((Int32.ofNat 1 &&& 31).toBitVec.smod 32).toNat &&& z) (by decide)
/-- the reference's step -/
def pcR (x r : Int32) : Int32 := (((((r ||| (r <<< (Int32.ofNat 4 &&& 31))) ||| (r >>> (Int32.ofNat 4 &&& 31))) ||| ((r &&& Int32.ofNat 30583) <<< (Int32.ofNat 1 &&& 31))) ||| ((r >>> (Int32.ofNat 1 &&& 31)) &&& Int32.ofNat 30583)) &&& x)
theorem pcR_eq {x r : Int32} : pcR x r = pcS x r := by
  unfold pcR pcS
  rw [pc_sh]
  have h : ∀ a b c d e : Int32, ((((a ||| b) ||| c) ||| d) ||| e) = (a ||| (((d ||| e) ||| b) ||| c)) := fun a b c d e => by ac_rfl
  rw [h]
theorem pc_and {t : Int32} {k : Nat} (hk : k < 2147483648) : 0 ≤ (t &&& Int32.ofNat k).toInt ∧ (t &&& Int32.ofNat k).toInt ≤ k := by
  have h := et_and1 t (Int32.ofNat k) (by rw [hs_nint hk]; omega)
  rw [hs_nint hk] at h
  exact h
theorem bc_nat {x : Int32} : ∃ k : Nat, k < 64 ∧ rp_bc x = Int32.ofNat k := by
  have h : 0 ≤ (rp_bc x).toInt ∧ (rp_bc x).toInt ≤ 63 := by
    unfold rp_bc
    exact pc_and (by decide)
  refine ⟨(rp_bc x).toInt.toNat, by omega, Int32.toInt_inj.mp ?_⟩
  rw [hs_nint (by omega)]
  omega
theorem even_all : ∀ k ∈ List.range 64, ((Int32.ofNat k &&& Int32.ofNat 1 = 0) ↔ (Int32.ofNat k - Int32.ofNat k / Int32.ofNat 2 * Int32.ofNat 2 = 0)) := by decide +kernel
theorem one_bit {t : Int32} : t &&& Int32.ofNat 1 = 0 ∨ t &&& Int32.ofNat 1 = Int32.ofNat 1 := by
  have h := pc_and (t := t) (k := 1) (by decide)
  rcases (show (t &&& Int32.ofNat 1).toInt = 0 ∨ (t &&& Int32.ofNat 1).toInt = 1 by omega) with h1 | h1
  · exact .inl (Int32.toInt_inj.mp h1)
  · exact .inr (Int32.toInt_inj.mp h1)
theorem row_le {t : Int32} : (t &&& Int32.ofNat 15 ≤ 0) ↔ t &&& Int32.ofNat 15 = 0 := by
  have h := pc_and (t := t) (k := 15) (by decide)
  have hz : (0 : Int32).toInt = 0 := rfl
  rw [xi_le0]
  constructor
  · intro h1
    exact Int32.toInt_inj.mp (by omega)
  · intro h1
    rw [h1]
    decide
theorem txP.xs {S : Nat → Nat → Prop} {G G' : eg_G} {aw X pl : Nat} {f : sp_E → Bool} (h : txP G aw X pl f) (lt : aw < G.2) (x : xf S G G') (hs : ∀ j, ¬ S aw j) : txP G' aw X pl f := by
  obtain ⟨C, h0, h1, h2, h3, h4, h5⟩ := h
  exact ⟨C, h0, (x.2 aw _ lt (hs _)).trans h1, (x.2 aw _ lt (hs _)).trans h2, (x.2 aw _ lt (hs _)).trans h3, fun j s hj => ⟨(x.2 aw _ lt (hs _)).trans (h4 j s hj).1, (x.2 aw _ lt (hs _)).trans (h4 j s hj).2.1, (h4 j s hj).2.2⟩, h5⟩
section TIA
variable {K : et_K} {G : eg_G} {d d2 am aw fa tg t : Nat} {x li : Int32}
/-- holdsLine of the only line of a text -/
theorem fm_holds {pl : Nat} {E : sp_E} {f : sp_E → Bool} {FA TG : Nat → Int32} (hH : et_H et_TT K G) (k_am : K am = some 13) (m1 : et_pl (eg_at G am) 1 = some (.ref aw)) (m14 : et_pl (eg_at G am) 14 = some (.ref fa)) (m15 : et_pl (eg_at G am) 15 = some (.ref tg)) (m16 : et_pl (eg_at G am) 16 = some (.int li)) (hfa : ∀ o, o ≤ 4 → et_pl (eg_at G fa) o = some (.int (FA o))) (htg : ∀ o, o < 2 → et_pl (eg_at G tg) o = some (.int (TG o))) (hE : erR FA TG li pl E) (ht : t < 14) (ht2 : ¬ (4 ≤ t ∧ t < 8)) (hT : txP G aw (126 + 841 * t) pl f) (hd : 3 ≤ d2) : et_go none d2 216 0 (eg_en (eg_mL 216) [.ref am, .int (Int32.ofNat t), .int (Int32.ofNat 0)]) [] G 0 0 (fun u => u.1 = .inl (some (.int (Int32.ofNat (if f E = true then 1 else 0))))) := by
  obtain ⟨F, W, aw', hA, eF, eW, hw, hKw, hF, hX, hW, hG, e⟩ := hi_mod hH k_am
  obtain rfl : aw' = aw := by
    rw [eF, hi_pF (by decide), hw] at m1
    exact Value.ref.inj (Option.some.inj m1)
  obtain ⟨va, fa', tg', V, FA', TG', hV, eV, k1, k2, k3⟩ := hi_V hH k_am hA hw hKw hF
  have hV0 := hV
  obtain ⟨-, -, -, ⟨f14, -, -, -, -, eFA⟩, ⟨f15, -, -, -, -, eTG⟩, li', f16⟩ := hV0
  obtain rfl : fa' = fa := by
    rw [eF, hi_pF (by decide), f14] at m14
    exact Value.ref.inj (Option.some.inj m14)
  obtain rfl : tg' = tg := by
    rw [eF, hi_pF (by decide), f15] at m15
    exact Value.ref.inj (Option.some.inj m15)
  obtain rfl : li' = li := by
    rw [eF, hi_pF (by decide), f16] at m16
    exact Value.int.inj (Option.some.inj m16)
  have e1 : ∀ o, o ≤ 4 → FA' o = FA o := fun o ho => by
    have h := hfa o ho
    rw [eFA, hf_pl (.inl rfl), if_pos (by omega)] at h
    exact Value.int.inj (Option.some.inj h)
  have e2 : ∀ o, o < 2 → TG' o = TG o := fun o ho => by
    have h := htg o ho
    rw [eTG, hf_pl (.inr (.inr (.inl rfl))), if_pos (by omega)] at h
    exact Value.int.inj (Option.some.inj h)
  have hE2 : erR FA' TG' li' pl E := ⟨fun o ho => by rw [e1 o ho]; exact hE.1 o ho, fun o ho => by rw [e2 o ho]; exact hE.2.1 o ho, hE.2.2⟩
  obtain ⟨d, rfl⟩ : ∃ d, d2 = d + 2 := ⟨d2 - 2, by omega⟩
  obtain ⟨C, hCl, hx0, hx3, hx4, hC, hdn⟩ := hT
  have pw : ∀ k n, k < 12741 → et_pl (eg_at G aw') k = some (.int (Int32.ofNat n)) → W k = Int32.ofNat n := fun k n hk h => by
    rw [eW, hi_pW hk] at h
    exact Value.int.inj (Option.some.inj h)
  obtain ⟨l, hl1, hl2, hl3⟩ := hG t ht
  obtain ⟨a, b, ha, hb, hb4, hab⟩ := hl3 0 (.inr ⟨rfl, ht2⟩)
  have haW : W (126 + 841 * t + 1 + 4 * 0 + 2) = Int32.ofNat 0 := pw _ _ (by omega) (pl_eq hx3 (by omega))
  have hbW : W (126 + 841 * t + 1 + 4 * 0 + 3) = Int32.ofNat C.length := pw _ _ (by omega) (pl_eq hx4 (by omega))
  have hab0 : Int32.ofNat a = Int32.ofNat 0 := ha.symm.trans haW
  have hbl : Int32.ofNat b = Int32.ofNat C.length := hb.symm.trans hbW
  obtain rfl : b = C.length := (hs_neq (by omega) (by omega)).mp hbl
  have hq : C = [] ∨ (gq (126 + 841 * t + 41) W 0 (C.length - 0) 0).isSome = true := by
    rcases hab with rfl | ⟨hle, hg⟩
    · have := (hs_neq (by omega) (by decide)).mp hab0
      exact .inl (List.eq_nil_of_length_eq_zero this)
    · obtain rfl : a = 0 := (hs_neq (by omega) (by decide)).mp hab0
      exact .inr (by rw [hg 0]; rfl)
  rw [hi_mL216]
  have h0 := rf_holds (V := V) (d := d) (Z := fun u => u.1 = .inl (some (.int (Int32.ofNat (if f E = true then 1 else 0))))) hV f16 hE2 ht (n := 0) (by decide) haW hbW (by omega) hCl (fun j x hj => ⟨pw _ _ (by have := (List.getElem?_eq_some_iff.mp hj).1; omega) (hC j x hj).1, pw _ _ (by have := (List.getElem?_eq_some_iff.mp hj).1; omega) (hC j x hj).2.1, (hC j x hj).2.2⟩) hq hdn (fun V2 => rfl)
  rw [show eg_u G va (hv_c V) = G from hm_same eV hV.2.2.1.2.2.2.1, ← e] at h0
  exact h0
theorem fm_bits (hd : 1 ≤ d2) : et_go none d2 214 0 (eg_en (eg_mL 214) [.int x]) [] G 0 0 (xp_Z G (some (.int (rp_bc x)))) := by
  obtain ⟨d, rfl⟩ : ∃ d, d2 = d + 1 := ⟨d2 - 1, by omega⟩
  rw [show eg_mL 214 = 1 from by decide +kernel]
  exact rp_bits rfl
theorem fm_pieceL {i : Nat} {y : Int32} {x3 : Option Value} (hi : i ≤ 16) : et_go none d2 215 7 [some (.int x), some (.int y), some (.int (Int32.ofNat i)), x3] [] G 0 0 (xp_Z G (some (.int (Int32.ofNat (if (decide (¬ x = 0) && decide (pcN x (16 - i) y = x)) = true then 1 else 0))))) := by
  induction hm : 16 - i using Nat.strongRecOn generalizing i y x3 with
  | _ z ih =>
    refine hs_iload (i := 2) (p := 8) (by decide +kernel) rfl ?_
    refine hs_k (x := Int32.ofNat 16) (p := 10) (by decide +kernel) ?_
    refine hs_br2n (c := .ge) (t := 49) (f := 13) (by decide +kernel) (by omega) (by omega) (fun (c10 : 16 ≤ i) => ?_) (fun (c10 : ¬ (16 ≤ i)) => ?_)
    · refine hs_iload (i := 0) (p := 50) (by decide +kernel) rfl ?_
      refine hs_br1 (c := .eq) (t := 62) (f := 53) (by decide +kernel) (fun (c50 : x = 0) => ?_) (fun (c50 : ¬ (x = 0)) => ?_)
      · refine hs_k (x := Int32.ofNat 0) (p := 63) (by decide +kernel) ?_
        refine hs_zret (by decide +kernel) (.inl rfl) ?_
        have hz : pcN x z y = y := by rw [show z = 0 by omega]; rfl
        rw [hz]
        rw [show (decide (¬ x = 0) && decide (y = x)) = false from by rw [decide_eq_false (fun h => h c50)]; rfl]
        rfl
      · refine hs_iload (i := 1) (p := 54) (by decide +kernel) rfl ?_
        refine hs_iload (i := 0) (p := 55) (by decide +kernel) rfl ?_
        refine hs_br2 (c := .ne) (t := 62) (f := 58) (by decide +kernel) (fun (c55 : ¬ y = x) => ?_) (fun (c55 : ¬ (¬ y = x)) => ?_)
        · refine hs_k (x := Int32.ofNat 0) (p := 63) (by decide +kernel) ?_
          refine hs_zret (by decide +kernel) (.inl rfl) ?_
          have hz : pcN x z y = y := by rw [show z = 0 by omega]; rfl
          rw [hz]
          rw [show (decide (¬ x = 0) && decide (y = x)) = false from by rw [decide_eq_false (show ¬ y = x from c55), Bool.and_false]]
          rfl
        · refine hs_k (x := Int32.ofNat 1) (p := 59) (by decide +kernel) ?_
          refine hs_goto (p := 63) (by decide +kernel) ?_
          refine hs_zret (by decide +kernel) (.inr rfl) ?_
          have hz : pcN x z y = y := by rw [show z = 0 by omega]; rfl
          rw [hz]
          rw [show (decide (¬ x = 0) && decide (y = x)) = true from by rw [decide_eq_true c50, decide_eq_true (show y = x from Decidable.of_not_not c55)]; rfl]
          rfl
    · refine hs_iload (i := 1) (p := 14) (by decide +kernel) rfl ?_
      refine hs_iload (i := 1) (p := 15) (by decide +kernel) rfl ?_
      refine hs_k (x := Int32.ofNat 4) (p := 16) (by decide +kernel) ?_
      refine hs_st (ins := .ishl) (len := 1) (p := 17) (by decide +kernel) rfl rfl ?_
      refine hs_st (ins := .ior) (len := 1) (p := 18) (by decide +kernel) rfl rfl ?_
      refine hs_iload (i := 1) (p := 19) (by decide +kernel) rfl ?_
      refine hs_k (x := Int32.ofNat 4) (p := 20) (by decide +kernel) ?_
      refine hs_st (ins := .ishr) (len := 1) (p := 21) (by decide +kernel) rfl rfl ?_
      refine hs_st (ins := .ior) (len := 1) (p := 22) (by decide +kernel) rfl rfl ?_
      refine hs_iload (i := 1) (p := 23) (by decide +kernel) rfl ?_
      refine hs_k (x := Int32.ofNat 30583) (p := 26) (by decide +kernel) ?_
      refine hs_st (ins := .iand) (len := 1) (p := 27) (by decide +kernel) rfl rfl ?_
      refine hs_k (x := Int32.ofNat 1) (p := 28) (by decide +kernel) ?_
      refine hs_st (ins := .ishl) (len := 1) (p := 29) (by decide +kernel) rfl rfl ?_
      refine hs_st (ins := .ior) (len := 1) (p := 30) (by decide +kernel) rfl rfl ?_
      refine hs_iload (i := 1) (p := 31) (by decide +kernel) rfl ?_
      refine hs_k (x := Int32.ofNat 1) (p := 32) (by decide +kernel) ?_
      refine hs_st (ins := .ishr) (len := 1) (p := 33) (by decide +kernel) rfl rfl ?_
      refine hs_k (x := Int32.ofNat 30583) (p := 36) (by decide +kernel) ?_
      refine hs_st (ins := .iand) (len := 1) (p := 37) (by decide +kernel) rfl rfl ?_
      refine hs_st (ins := .ior) (len := 1) (p := 38) (by decide +kernel) rfl rfl ?_
      refine hs_istore (i := 3) (p := 39) (by decide +kernel) (Nat.le_of_ble_eq_true rfl) ?_
      refine hs_iload (i := 3) (p := 40) (by decide +kernel) rfl ?_
      refine hs_iload (i := 0) (p := 41) (by decide +kernel) rfl ?_
      refine hs_st (ins := .iand) (len := 1) (p := 42) (by decide +kernel) rfl rfl ?_
      refine hs_istore (i := 1) (p := 43) (by decide +kernel) (Nat.le_of_ble_eq_true rfl) ?_
      refine hs_iinc1 (i := 2) (p := 46) (by decide +kernel) rfl (Nat.le_of_ble_eq_true rfl) ?_
      refine hs_goto (p := 7) (by decide +kernel) ?_
      dsimp only
      rw [show ((((((y ||| (y <<< ((Int32.ofNat 4) &&& 31))) ||| (y >>> ((Int32.ofNat 4) &&& 31))) ||| ((y &&& (Int32.ofNat 30583)) <<< ((Int32.ofNat 1) &&& 31))) ||| ((y >>> ((Int32.ofNat 1) &&& 31)) &&& (Int32.ofNat 30583))) &&& x) : Int32) = pcS x y from pcR_eq]
      have h := ih (16 - (i + 1)) (by omega) (i := i + 1) (y := pcS x y) (x3 := some (.int ((((y ||| (y <<< ((Int32.ofNat 4) &&& 31))) ||| (y >>> ((Int32.ofNat 4) &&& 31))) ||| ((y &&& (Int32.ofNat 30583)) <<< ((Int32.ofNat 1) &&& 31))) ||| ((y >>> ((Int32.ofNat 1) &&& 31)) &&& (Int32.ofNat 30583))))) (by omega) rfl
      rw [show z = 16 - (i + 1) + 1 by omega]
      exact h
theorem fm_piece : et_go none d2 215 0 (eg_en (eg_mL 215) [.int x]) [] G 0 0 (xp_Z G (some (.int (Int32.ofNat (if pcI x = true then 1 else 0))))) := by
  rw [show eg_mL 215 = 4 from by decide +kernel]
  show et_go none d2 215 0 [some (.int x), none, none, none] [] G 0 0 _
  refine hs_iload (i := 0) (p := 1) (by decide +kernel) rfl ?_
  refine hs_iload (i := 0) (p := 2) (by decide +kernel) rfl ?_
  refine hs_st (ins := .ineg) (len := 1) (p := 3) (by decide +kernel) rfl rfl ?_
  refine hs_st (ins := .iand) (len := 1) (p := 4) (by decide +kernel) rfl rfl ?_
  refine hs_istore (i := 1) (p := 5) (by decide +kernel) (Nat.le_of_ble_eq_true rfl) ?_
  refine hs_k (x := Int32.ofNat 0) (p := 6) (by decide +kernel) ?_
  refine hs_istore (i := 2) (p := 7) (by decide +kernel) (Nat.le_of_ble_eq_true rfl) ?_
  show et_go none _ 215 7 [some (.int x), some (.int (x &&& (-x))), some (.int (Int32.ofNat 0)), none] [] _ _ _ _
  exact fm_pieceL (i := 0) (Nat.zero_le _)
theorem fm_ruledT {r : Nat} {f : sp_E → Bool} {F : Nat → Int32} (hH : et_H et_TT K G) (k_am : K am = some 13) (k_aw : K aw = some 46) (m1 : et_pl (eg_at G am) 1 = some (.ref aw)) (hF : F 0 = x) (ht : t < 4) (hT : txP G aw (126 + 841 * t) 0 f) (k_fa : K fa = some 14) (k_tg : K tg = some 24) (m14 : et_pl (eg_at G am) 14 = some (.ref fa)) (m15 : et_pl (eg_at G am) 15 = some (.ref tg)) (g0 : et_pl (eg_at G fa) 0 = some (.int (rp_bc x))) (g1 : et_pl (eg_at G fa) 1 = some (.int (rp_bc (x &&& Int32.ofNat 13107)))) (g2 : et_pl (eg_at G fa) 2 = some (.int (rp_bc (x &&& 52428)))) (g3 : et_pl (eg_at G fa) 3 = some (.int (rp_bc (x &&& Int32.ofNat 255)))) (g4 : et_pl (eg_at G fa) 4 = some (.int (Int32.ofNat r))) (hr : rowI x = r) : et_go none (d + 4) 213 97 [some (.ref am), some (.int (Int32.ofNat t)), some (.int x), some (.int (Int32.ofNat 4))] [] G 0 0 (fun u => u.1 = .inl (some (.int (Int32.ofNat (if f (feE F) = true then 1 else 0))))) := by
  obtain ⟨k9, hk9, hbk⟩ := bc_nat (x := x)
  have lt_am := (hH.2.2 _ _ k_am).1
  have lt_aw := (hH.2.2 _ _ k_aw).1
  have lt_fa := (hH.2.2 _ _ k_fa).1
  have lt_tg := (hH.2.2 _ _ k_tg).1
  refine hs_aload (i := 0) (p := 98) (by decide +kernel) rfl ?_
  refine hf_get (T := et_TT) (t := 13) (ci := 11) (f := 15) (p := 101) (by decide +kernel) rfl hH k_am m15 ?_
  refine hs_k (x := Int32.ofNat 0) (p := 102) (by decide +kernel) ?_
  refine hs_iload (i := 2) (p := 103) (by decide +kernel) rfl ?_
  refine hs_calls (mi := 215) (na := 1) (lk := 4) (lm := 4) (L0 := eg_en (eg_mL 215) [.int x]) (by decide +kernel) rfl rfl rfl rfl rfl rfl (by rw [show eg_mL 215 = 4 from by decide +kernel]; first | done | rfl) ?_
  refine (fm_piece (x := x)).mono (fun u hu => xp_cb hu ?_)
  show et_go none _ 213 106 _ [.int (Int32.ofNat (if pcI x = true then 1 else 0)), .int (Int32.ofNat 0), .ref tg] _ _ _ _
  refine hf_zst (T := et_TT) (t := 24) (N := 2) (p := 107) (by decide +kernel) rfl rfl (show vp_nar .boolean (Int32.ofNat (if pcI x = true then 1 else 0)) = Int32.ofNat (if pcI x = true then 1 else 0) from by split <;> decide +kernel) hH k_tg (by omega) (by decide) (fun s hs _ _ => by rw [List.mem_singleton] at hs; subst hs; first | exact hi_nv (by decide) (by decide) | (split <;> exact hi_nv (by decide) (by decide))) (fun G106 hH x106 e106 => ?_)
  have hT := hT.xs lt_aw x106 (fun j h => hi_ne k_aw k_tg (by decide) h.1)
  have m1 := (x106.2 am 1 lt_am (fun h => (hi_ne k_am k_tg (by decide)) h.1)).trans m1
  have m14 := (x106.2 am 14 lt_am (fun h => (hi_ne k_am k_tg (by decide)) h.1)).trans m14
  have m15 := (x106.2 am 15 lt_am (fun h => (hi_ne k_am k_tg (by decide)) h.1)).trans m15
  have g0 := (x106.2 fa 0 lt_fa (fun h => (hi_ne k_fa k_tg (by decide)) h.1)).trans g0
  have g1 := (x106.2 fa 1 lt_fa (fun h => (hi_ne k_fa k_tg (by decide)) h.1)).trans g1
  have g2 := (x106.2 fa 2 lt_fa (fun h => (hi_ne k_fa k_tg (by decide)) h.1)).trans g2
  have g3 := (x106.2 fa 3 lt_fa (fun h => (hi_ne k_fa k_tg (by decide)) h.1)).trans g3
  have g4 := (x106.2 fa 4 lt_fa (fun h => (hi_ne k_fa k_tg (by decide)) h.1)).trans g4
  have lt_am := Nat.lt_of_lt_of_le lt_am x106.1
  have lt_aw := Nat.lt_of_lt_of_le lt_aw x106.1
  have lt_fa := Nat.lt_of_lt_of_le lt_fa x106.1
  have lt_tg := Nat.lt_of_lt_of_le lt_tg x106.1
  refine hs_aload (i := 0) (p := 108) (by decide +kernel) rfl ?_
  refine hf_get (T := et_TT) (t := 13) (ci := 11) (f := 15) (p := 111) (by decide +kernel) rfl hH k_am m15 ?_
  refine hs_k (x := Int32.ofNat 1) (p := 112) (by decide +kernel) ?_
  refine hs_iload (i := 2) (p := 113) (by decide +kernel) rfl ?_
  refine hs_calls (mi := 214) (na := 1) (lk := 4) (lm := 1) (L0 := eg_en (eg_mL 214) [.int x]) (by decide +kernel) rfl rfl rfl rfl rfl rfl (by rw [show eg_mL 214 = 1 from by decide +kernel]; first | done | rfl) ?_
  refine (fm_bits (x := x) (by omega)).mono (fun u hu => xp_cb hu ?_)
  show et_go none _ 213 116 _ [.int (rp_bc x), .int (Int32.ofNat 1), .ref tg] _ _ _ _
  refine hs_k (x := Int32.ofNat 2) (p := 117) (by decide +kernel) ?_
  refine hs_irem (p := 118) (by decide +kernel) (by decide) ?_
  refine hs_br1 (c := .ne) (t := 125) (f := 121) (by decide +kernel) (fun (c118 : ¬ ((rp_bc x) - (rp_bc x) / Int32.ofNat 2 * Int32.ofNat 2) = 0) => ?_) (fun (c118 : ¬ (¬ ((rp_bc x) - (rp_bc x) / Int32.ofNat 2 * Int32.ofNat 2) = 0)) => ?_)
  · refine hs_k (x := Int32.ofNat 0) (p := 126) (by decide +kernel) ?_
    refine hf_zst (T := et_TT) (t := 24) (N := 2) (p := 127) (by decide +kernel) rfl rfl (show vp_nar .boolean (Int32.ofNat 0) = Int32.ofNat 0 from by decide +kernel) hH k_tg (by omega) (by decide) (fun s hs _ _ => by rw [List.mem_singleton] at hs; subst hs; first | exact hi_nv (by decide) (by decide) | (split <;> exact hi_nv (by decide) (by decide))) (fun G126 hH x126 e126 => ?_)
    have hT := hT.xs lt_aw x126 (fun j h => hi_ne k_aw k_tg (by decide) h.1)
    have m1 := (x126.2 am 1 lt_am (fun h => (hi_ne k_am k_tg (by decide)) h.1)).trans m1
    have m14 := (x126.2 am 14 lt_am (fun h => (hi_ne k_am k_tg (by decide)) h.1)).trans m14
    have m15 := (x126.2 am 15 lt_am (fun h => (hi_ne k_am k_tg (by decide)) h.1)).trans m15
    have g0 := (x126.2 fa 0 lt_fa (fun h => (hi_ne k_fa k_tg (by decide)) h.1)).trans g0
    have g1 := (x126.2 fa 1 lt_fa (fun h => (hi_ne k_fa k_tg (by decide)) h.1)).trans g1
    have g2 := (x126.2 fa 2 lt_fa (fun h => (hi_ne k_fa k_tg (by decide)) h.1)).trans g2
    have g3 := (x126.2 fa 3 lt_fa (fun h => (hi_ne k_fa k_tg (by decide)) h.1)).trans g3
    have g4 := (x126.2 fa 4 lt_fa (fun h => (hi_ne k_fa k_tg (by decide)) h.1)).trans g4
    have e106 := (x126.2 tg 0 lt_tg (fun h => absurd h.2 (by decide))).trans e106
    have lt_am := Nat.lt_of_lt_of_le lt_am x126.1
    have lt_aw := Nat.lt_of_lt_of_le lt_aw x126.1
    have lt_fa := Nat.lt_of_lt_of_le lt_fa x126.1
    have lt_tg := Nat.lt_of_lt_of_le lt_tg x126.1
    refine hs_aload (i := 0) (p := 128) (by decide +kernel) rfl ?_
    refine hs_iload (i := 2) (p := 129) (by decide +kernel) rfl ?_
    refine hf_put (T := et_TT) (t := 13) (ci := 11) (f := 16) (p := 132) (ty := .int) (by decide +kernel) rfl rfl rfl rfl rfl hH k_am hi_any (fun G129 hH x129 e129 => ?_)
    have hT := hT.xs lt_aw x129 (fun j h => hi_ne k_aw k_am (by decide) h.1)
    have m1 := (x129.2 am 1 lt_am (fun h => absurd h.2 (by decide))).trans m1
    have m14 := (x129.2 am 14 lt_am (fun h => absurd h.2 (by decide))).trans m14
    have m15 := (x129.2 am 15 lt_am (fun h => absurd h.2 (by decide))).trans m15
    have g0 := (x129.2 fa 0 lt_fa (fun h => (hi_ne k_fa k_am (by decide)) h.1)).trans g0
    have g1 := (x129.2 fa 1 lt_fa (fun h => (hi_ne k_fa k_am (by decide)) h.1)).trans g1
    have g2 := (x129.2 fa 2 lt_fa (fun h => (hi_ne k_fa k_am (by decide)) h.1)).trans g2
    have g3 := (x129.2 fa 3 lt_fa (fun h => (hi_ne k_fa k_am (by decide)) h.1)).trans g3
    have g4 := (x129.2 fa 4 lt_fa (fun h => (hi_ne k_fa k_am (by decide)) h.1)).trans g4
    have e106 := (x129.2 tg 0 lt_tg (fun h => (hi_ne k_tg k_am (by decide)) h.1)).trans e106
    have e126 := (x129.2 tg 1 lt_tg (fun h => (hi_ne k_tg k_am (by decide)) h.1)).trans e126
    have lt_am := Nat.lt_of_lt_of_le lt_am x129.1
    have lt_aw := Nat.lt_of_lt_of_le lt_aw x129.1
    have lt_fa := Nat.lt_of_lt_of_le lt_fa x129.1
    have lt_tg := Nat.lt_of_lt_of_le lt_tg x129.1
    refine hs_aload (i := 0) (p := 133) (by decide +kernel) rfl ?_
    refine hs_iload (i := 1) (p := 134) (by decide +kernel) rfl ?_
    refine hs_k (x := Int32.ofNat 0) (p := 135) (by decide +kernel) ?_
    refine ht_callv (T := et_TT) (t := 13) (mi := 216) (na := 2) (ci := 11) (lk := 4) (lm := 13) (L0 := eg_en (eg_mL 216) [.ref am, .int (Int32.ofNat t), .int (Int32.ofNat 0)]) (by decide +kernel) rfl hH k_am rfl rfl rfl rfl rfl (by rw [show eg_mL 216 = 13 from by decide +kernel]; first | done | rfl) ?_
    have hfa : ∀ o, o ≤ 4 → et_pl (eg_at G129 fa) o = some (.int ((fun o => if o = 0 then (rp_bc x) else if o = 1 then (rp_bc (x &&& Int32.ofNat 13107)) else if o = 2 then (rp_bc (x &&& 52428)) else if o = 3 then (rp_bc (x &&& Int32.ofNat 255)) else Int32.ofNat r) o)) := fun o ho => by
      match o, ho with
      | 0, _ => exact g0
      | 1, _ => exact g1
      | 2, _ => exact g2
      | 3, _ => exact g3
      | 4, _ => exact g4
    have htg : ∀ o, o < 2 → et_pl (eg_at G129 tg) o = some (.int ((fun o => if o = 0 then Int32.ofNat (if pcI x = true then 1 else 0) else Int32.ofNat 0) o)) := fun o ho => by
      match o, ho with
      | 0, _ => exact e106
      | 1, _ => exact e126
    have c9 := c118
    rw [hbk] at c9
    have hE : erR (fun o => if o = 0 then (rp_bc x) else if o = 1 then (rp_bc (x &&& Int32.ofNat 13107)) else if o = 2 then (rp_bc (x &&& 52428)) else if o = 3 then (rp_bc (x &&& Int32.ofNat 255)) else Int32.ofNat r) (fun o => if o = 0 then Int32.ofNat (if pcI x = true then 1 else 0) else Int32.ofNat 0) x 0 (feE F) := by
      refine ⟨fun o ho => ?_, fun o ho => ?_, fun v => ?_⟩
      · match o, ho with
        | 0, _ => show (rp_bc (F 0)).toInt64 = _; rw [hF]; rfl
        | 1, _ => show (rp_bc (F 0 &&& Int32.ofNat 13107)).toInt64 = _; rw [hF]; rfl
        | 2, _ => show (rp_bc (F 0 &&& 52428)).toInt64 = _; rw [hF]; rfl
        | 3, _ => show (rp_bc (F 0 &&& Int32.ofNat 255)).toInt64 = _; rw [hF]; rfl
        | 4, _ => show (Int32.ofNat (rowI (F 0))).toInt64 = _; rw [hF, hr]; rfl
      · match o, ho with
        | 0, _ => show pcI (F 0) = decide (¬ Int32.ofNat (if pcI x = true then 1 else 0) = 0); rw [hF]; cases pcI x <;> rfl
        | 1, _ => show decide (rp_bc (F 0) &&& Int32.ofNat 1 = 0) = decide (¬ Int32.ofNat 0 = 0); rw [hF, hbk, decide_eq_false (fun h => c9 ((even_all k9 (List.mem_range.mpr hk9)).mp h))]; rfl
      · show decide (¬ (F 0 >>> (Int32.ofNat v &&& 31)) &&& Int32.ofNat 1 = 0) = _
        rw [hF]
        rcases one_bit (t := x >>> (Int32.ofNat v &&& 31)) with h | h <;> rw [h] <;> decide
    refine (fm_holds hH k_am m1 m14 m15 e129 hfa htg hE (by omega) (by omega) hT (by omega)).mono (fun u hu => ?_)
    obtain ⟨u1, u2, u3, u4⟩ := u
    have hu : u1 = .inl (some (.int (Int32.ofNat (if f (feE F) = true then 1 else 0)))) := hu
    subst hu
    refine hs_cb ?_
    show et_go none _ 213 138 _ [.int (Int32.ofNat (if f (feE F) = true then 1 else 0))] _ _ _ _
    refine hs_zret (by decide +kernel) (by split; exact .inr rfl; exact .inl rfl) ?_
    rfl
  · refine hs_k (x := Int32.ofNat 1) (p := 122) (by decide +kernel) ?_
    refine hs_goto (p := 126) (by decide +kernel) ?_
    refine hf_zst (T := et_TT) (t := 24) (N := 2) (p := 127) (by decide +kernel) rfl rfl (show vp_nar .boolean (Int32.ofNat 1) = Int32.ofNat 1 from by decide +kernel) hH k_tg (by omega) (by decide) (fun s hs _ _ => by rw [List.mem_singleton] at hs; subst hs; first | exact hi_nv (by decide) (by decide) | (split <;> exact hi_nv (by decide) (by decide))) (fun G126 hH x126 e126 => ?_)
    have hT := hT.xs lt_aw x126 (fun j h => hi_ne k_aw k_tg (by decide) h.1)
    have m1 := (x126.2 am 1 lt_am (fun h => (hi_ne k_am k_tg (by decide)) h.1)).trans m1
    have m14 := (x126.2 am 14 lt_am (fun h => (hi_ne k_am k_tg (by decide)) h.1)).trans m14
    have m15 := (x126.2 am 15 lt_am (fun h => (hi_ne k_am k_tg (by decide)) h.1)).trans m15
    have g0 := (x126.2 fa 0 lt_fa (fun h => (hi_ne k_fa k_tg (by decide)) h.1)).trans g0
    have g1 := (x126.2 fa 1 lt_fa (fun h => (hi_ne k_fa k_tg (by decide)) h.1)).trans g1
    have g2 := (x126.2 fa 2 lt_fa (fun h => (hi_ne k_fa k_tg (by decide)) h.1)).trans g2
    have g3 := (x126.2 fa 3 lt_fa (fun h => (hi_ne k_fa k_tg (by decide)) h.1)).trans g3
    have g4 := (x126.2 fa 4 lt_fa (fun h => (hi_ne k_fa k_tg (by decide)) h.1)).trans g4
    have e106 := (x126.2 tg 0 lt_tg (fun h => absurd h.2 (by decide))).trans e106
    have lt_am := Nat.lt_of_lt_of_le lt_am x126.1
    have lt_aw := Nat.lt_of_lt_of_le lt_aw x126.1
    have lt_fa := Nat.lt_of_lt_of_le lt_fa x126.1
    have lt_tg := Nat.lt_of_lt_of_le lt_tg x126.1
    refine hs_aload (i := 0) (p := 128) (by decide +kernel) rfl ?_
    refine hs_iload (i := 2) (p := 129) (by decide +kernel) rfl ?_
    refine hf_put (T := et_TT) (t := 13) (ci := 11) (f := 16) (p := 132) (ty := .int) (by decide +kernel) rfl rfl rfl rfl rfl hH k_am hi_any (fun G129 hH x129 e129 => ?_)
    have hT := hT.xs lt_aw x129 (fun j h => hi_ne k_aw k_am (by decide) h.1)
    have m1 := (x129.2 am 1 lt_am (fun h => absurd h.2 (by decide))).trans m1
    have m14 := (x129.2 am 14 lt_am (fun h => absurd h.2 (by decide))).trans m14
    have m15 := (x129.2 am 15 lt_am (fun h => absurd h.2 (by decide))).trans m15
    have g0 := (x129.2 fa 0 lt_fa (fun h => (hi_ne k_fa k_am (by decide)) h.1)).trans g0
    have g1 := (x129.2 fa 1 lt_fa (fun h => (hi_ne k_fa k_am (by decide)) h.1)).trans g1
    have g2 := (x129.2 fa 2 lt_fa (fun h => (hi_ne k_fa k_am (by decide)) h.1)).trans g2
    have g3 := (x129.2 fa 3 lt_fa (fun h => (hi_ne k_fa k_am (by decide)) h.1)).trans g3
    have g4 := (x129.2 fa 4 lt_fa (fun h => (hi_ne k_fa k_am (by decide)) h.1)).trans g4
    have e106 := (x129.2 tg 0 lt_tg (fun h => (hi_ne k_tg k_am (by decide)) h.1)).trans e106
    have e126 := (x129.2 tg 1 lt_tg (fun h => (hi_ne k_tg k_am (by decide)) h.1)).trans e126
    have lt_am := Nat.lt_of_lt_of_le lt_am x129.1
    have lt_aw := Nat.lt_of_lt_of_le lt_aw x129.1
    have lt_fa := Nat.lt_of_lt_of_le lt_fa x129.1
    have lt_tg := Nat.lt_of_lt_of_le lt_tg x129.1
    refine hs_aload (i := 0) (p := 133) (by decide +kernel) rfl ?_
    refine hs_iload (i := 1) (p := 134) (by decide +kernel) rfl ?_
    refine hs_k (x := Int32.ofNat 0) (p := 135) (by decide +kernel) ?_
    refine ht_callv (T := et_TT) (t := 13) (mi := 216) (na := 2) (ci := 11) (lk := 4) (lm := 13) (L0 := eg_en (eg_mL 216) [.ref am, .int (Int32.ofNat t), .int (Int32.ofNat 0)]) (by decide +kernel) rfl hH k_am rfl rfl rfl rfl rfl (by rw [show eg_mL 216 = 13 from by decide +kernel]; first | done | rfl) ?_
    have hfa : ∀ o, o ≤ 4 → et_pl (eg_at G129 fa) o = some (.int ((fun o => if o = 0 then (rp_bc x) else if o = 1 then (rp_bc (x &&& Int32.ofNat 13107)) else if o = 2 then (rp_bc (x &&& 52428)) else if o = 3 then (rp_bc (x &&& Int32.ofNat 255)) else Int32.ofNat r) o)) := fun o ho => by
      match o, ho with
      | 0, _ => exact g0
      | 1, _ => exact g1
      | 2, _ => exact g2
      | 3, _ => exact g3
      | 4, _ => exact g4
    have htg : ∀ o, o < 2 → et_pl (eg_at G129 tg) o = some (.int ((fun o => if o = 0 then Int32.ofNat (if pcI x = true then 1 else 0) else Int32.ofNat 1) o)) := fun o ho => by
      match o, ho with
      | 0, _ => exact e106
      | 1, _ => exact e126
    have c9 := c118
    rw [hbk] at c9
    have hE : erR (fun o => if o = 0 then (rp_bc x) else if o = 1 then (rp_bc (x &&& Int32.ofNat 13107)) else if o = 2 then (rp_bc (x &&& 52428)) else if o = 3 then (rp_bc (x &&& Int32.ofNat 255)) else Int32.ofNat r) (fun o => if o = 0 then Int32.ofNat (if pcI x = true then 1 else 0) else Int32.ofNat 1) x 0 (feE F) := by
      refine ⟨fun o ho => ?_, fun o ho => ?_, fun v => ?_⟩
      · match o, ho with
        | 0, _ => show (rp_bc (F 0)).toInt64 = _; rw [hF]; rfl
        | 1, _ => show (rp_bc (F 0 &&& Int32.ofNat 13107)).toInt64 = _; rw [hF]; rfl
        | 2, _ => show (rp_bc (F 0 &&& 52428)).toInt64 = _; rw [hF]; rfl
        | 3, _ => show (rp_bc (F 0 &&& Int32.ofNat 255)).toInt64 = _; rw [hF]; rfl
        | 4, _ => show (Int32.ofNat (rowI (F 0))).toInt64 = _; rw [hF, hr]; rfl
      · match o, ho with
        | 0, _ => show pcI (F 0) = decide (¬ Int32.ofNat (if pcI x = true then 1 else 0) = 0); rw [hF]; cases pcI x <;> rfl
        | 1, _ => show decide (rp_bc (F 0) &&& Int32.ofNat 1 = 0) = decide (¬ Int32.ofNat 1 = 0); rw [hF, hbk, decide_eq_true ((even_all k9 (List.mem_range.mpr hk9)).mpr (Decidable.of_not_not c9))]; rfl
      · show decide (¬ (F 0 >>> (Int32.ofNat v &&& 31)) &&& Int32.ofNat 1 = 0) = _
        rw [hF]
        rcases one_bit (t := x >>> (Int32.ofNat v &&& 31)) with h | h <;> rw [h] <;> decide
    refine (fm_holds hH k_am m1 m14 m15 e129 hfa htg hE (by omega) (by omega) hT (by omega)).mono (fun u hu => ?_)
    obtain ⟨u1, u2, u3, u4⟩ := u
    have hu : u1 = .inl (some (.int (Int32.ofNat (if f (feE F) = true then 1 else 0)))) := hu
    subst hu
    refine hs_cb ?_
    show et_go none _ 213 138 _ [.int (Int32.ofNat (if f (feE F) = true then 1 else 0))] _ _ _ _
    refine hs_zret (by decide +kernel) (by split; exact .inr rfl; exact .inl rfl) ?_
    rfl
theorem fm_ruled {f : sp_E → Bool} {F : Nat → Int32} (hH : et_H et_TT K G) (k_am : K am = some 13) (k_aw : K aw = some 46) (m1 : et_pl (eg_at G am) 1 = some (.ref aw)) (hF : F 0 = x) (ht : t < 4) (hT : txP G aw (126 + 841 * t) 0 f) (hd : 4 ≤ d2) : et_go none d2 213 0 (eg_en (eg_mL 213) [.ref am, .int (Int32.ofNat t), .int x]) [] G 0 0 (fun u => u.1 = .inl (some (.int (Int32.ofNat (if f (feE F) = true then 1 else 0))))) := by
  obtain ⟨d, rfl⟩ : ∃ d, d2 = d + 4 := ⟨d2 - 4, by omega⟩
  obtain ⟨fa, m14, k_fa⟩ := hf_ref (t := 13) (f := 14) (u := 14) hH k_am rfl rfl (.inr trivial)
  obtain ⟨tg, m15, k_tg⟩ := hf_ref (t := 13) (f := 15) (u := 24) hH k_am rfl rfl (.inr trivial)
  rw [show eg_mL 213 = 4 from by decide +kernel]
  show et_go none (d + 4) 213 0 [some (.ref am), some (.int (Int32.ofNat t)), some (.int x), none] [] G 0 0 _
  have lt_am := (hH.2.2 _ _ k_am).1
  have lt_aw := (hH.2.2 _ _ k_aw).1
  have lt_fa := (hH.2.2 _ _ k_fa).1
  have lt_tg := (hH.2.2 _ _ k_tg).1
  refine hs_aload (i := 0) (p := 1) (by decide +kernel) rfl ?_
  refine hf_get (T := et_TT) (t := 13) (ci := 11) (f := 14) (p := 4) (by decide +kernel) rfl hH k_am m14 ?_
  refine hs_k (x := Int32.ofNat 0) (p := 5) (by decide +kernel) ?_
  refine hs_iload (i := 2) (p := 6) (by decide +kernel) rfl ?_
  refine hs_calls (mi := 214) (na := 1) (lk := 4) (lm := 1) (L0 := eg_en (eg_mL 214) [.int x]) (by decide +kernel) rfl rfl rfl rfl rfl rfl (by rw [show eg_mL 214 = 1 from by decide +kernel]; first | done | rfl) ?_
  refine (fm_bits (x := x) (by omega)).mono (fun u hu => xp_cb hu ?_)
  show et_go none _ 213 9 _ [.int (rp_bc x), .int (Int32.ofNat 0), .ref fa] _ _ _ _
  refine hf_ist (T := et_TT) (t := 14) (N := 5) (p := 10) (by decide +kernel) rfl rfl (by decide) hH k_fa (by omega) (by decide) (fun s hs => absurd hs List.not_mem_nil) (fun G9 hH x9 e9 => ?_)
  have hT := hT.xs lt_aw x9 (fun j h => hi_ne k_aw k_fa (by decide) h.1)
  have m1 := (x9.2 am 1 lt_am (fun h => (hi_ne k_am k_fa (by decide)) h.1)).trans m1
  have m14 := (x9.2 am 14 lt_am (fun h => (hi_ne k_am k_fa (by decide)) h.1)).trans m14
  have m15 := (x9.2 am 15 lt_am (fun h => (hi_ne k_am k_fa (by decide)) h.1)).trans m15
  have lt_am := Nat.lt_of_lt_of_le lt_am x9.1
  have lt_aw := Nat.lt_of_lt_of_le lt_aw x9.1
  have lt_fa := Nat.lt_of_lt_of_le lt_fa x9.1
  have lt_tg := Nat.lt_of_lt_of_le lt_tg x9.1
  refine hs_aload (i := 0) (p := 11) (by decide +kernel) rfl ?_
  refine hf_get (T := et_TT) (t := 13) (ci := 11) (f := 14) (p := 14) (by decide +kernel) rfl hH k_am m14 ?_
  refine hs_k (x := Int32.ofNat 1) (p := 15) (by decide +kernel) ?_
  refine hs_iload (i := 2) (p := 16) (by decide +kernel) rfl ?_
  refine hs_k (x := Int32.ofNat 13107) (p := 19) (by decide +kernel) ?_
  refine hs_st (ins := .iand) (len := 1) (p := 20) (by decide +kernel) rfl rfl ?_
  refine hs_calls (mi := 214) (na := 1) (lk := 4) (lm := 1) (L0 := eg_en (eg_mL 214) [.int (x &&& (Int32.ofNat 13107))]) (by decide +kernel) rfl rfl rfl rfl rfl rfl (by rw [show eg_mL 214 = 1 from by decide +kernel]; first | done | rfl) ?_
  refine (fm_bits (x := (x &&& (Int32.ofNat 13107))) (by omega)).mono (fun u hu => xp_cb hu ?_)
  show et_go none _ 213 23 _ [.int (rp_bc (x &&& (Int32.ofNat 13107))), .int (Int32.ofNat 1), .ref fa] _ _ _ _
  refine hf_ist (T := et_TT) (t := 14) (N := 5) (p := 24) (by decide +kernel) rfl rfl (by decide) hH k_fa (by omega) (by decide) (fun s hs => absurd hs List.not_mem_nil) (fun G23 hH x23 e23 => ?_)
  have hT := hT.xs lt_aw x23 (fun j h => hi_ne k_aw k_fa (by decide) h.1)
  have m1 := (x23.2 am 1 lt_am (fun h => (hi_ne k_am k_fa (by decide)) h.1)).trans m1
  have m14 := (x23.2 am 14 lt_am (fun h => (hi_ne k_am k_fa (by decide)) h.1)).trans m14
  have m15 := (x23.2 am 15 lt_am (fun h => (hi_ne k_am k_fa (by decide)) h.1)).trans m15
  have e9 := (x23.2 fa 0 lt_fa (fun h => absurd h.2 (by decide))).trans e9
  have lt_am := Nat.lt_of_lt_of_le lt_am x23.1
  have lt_aw := Nat.lt_of_lt_of_le lt_aw x23.1
  have lt_fa := Nat.lt_of_lt_of_le lt_fa x23.1
  have lt_tg := Nat.lt_of_lt_of_le lt_tg x23.1
  refine hs_aload (i := 0) (p := 25) (by decide +kernel) rfl ?_
  refine hf_get (T := et_TT) (t := 13) (ci := 11) (f := 14) (p := 28) (by decide +kernel) rfl hH k_am m14 ?_
  refine hs_k (x := Int32.ofNat 2) (p := 29) (by decide +kernel) ?_
  refine hs_iload (i := 2) (p := 30) (by decide +kernel) rfl ?_
  refine hs_kld (v := .int 52428) (p := 33) (by decide +kernel) ?_
  refine hs_st (ins := .iand) (len := 1) (p := 34) (by decide +kernel) rfl rfl ?_
  refine hs_calls (mi := 214) (na := 1) (lk := 4) (lm := 1) (L0 := eg_en (eg_mL 214) [.int (x &&& 52428)]) (by decide +kernel) rfl rfl rfl rfl rfl rfl (by rw [show eg_mL 214 = 1 from by decide +kernel]; first | done | rfl) ?_
  refine (fm_bits (x := (x &&& 52428)) (by omega)).mono (fun u hu => xp_cb hu ?_)
  show et_go none _ 213 37 _ [.int (rp_bc (x &&& 52428)), .int (Int32.ofNat 2), .ref fa] _ _ _ _
  refine hf_ist (T := et_TT) (t := 14) (N := 5) (p := 38) (by decide +kernel) rfl rfl (by decide) hH k_fa (by omega) (by decide) (fun s hs => absurd hs List.not_mem_nil) (fun G37 hH x37 e37 => ?_)
  have hT := hT.xs lt_aw x37 (fun j h => hi_ne k_aw k_fa (by decide) h.1)
  have m1 := (x37.2 am 1 lt_am (fun h => (hi_ne k_am k_fa (by decide)) h.1)).trans m1
  have m14 := (x37.2 am 14 lt_am (fun h => (hi_ne k_am k_fa (by decide)) h.1)).trans m14
  have m15 := (x37.2 am 15 lt_am (fun h => (hi_ne k_am k_fa (by decide)) h.1)).trans m15
  have e9 := (x37.2 fa 0 lt_fa (fun h => absurd h.2 (by decide))).trans e9
  have e23 := (x37.2 fa 1 lt_fa (fun h => absurd h.2 (by decide))).trans e23
  have lt_am := Nat.lt_of_lt_of_le lt_am x37.1
  have lt_aw := Nat.lt_of_lt_of_le lt_aw x37.1
  have lt_fa := Nat.lt_of_lt_of_le lt_fa x37.1
  have lt_tg := Nat.lt_of_lt_of_le lt_tg x37.1
  refine hs_aload (i := 0) (p := 39) (by decide +kernel) rfl ?_
  refine hf_get (T := et_TT) (t := 13) (ci := 11) (f := 14) (p := 42) (by decide +kernel) rfl hH k_am m14 ?_
  refine hs_k (x := Int32.ofNat 3) (p := 43) (by decide +kernel) ?_
  refine hs_iload (i := 2) (p := 44) (by decide +kernel) rfl ?_
  refine hs_k (x := Int32.ofNat 255) (p := 47) (by decide +kernel) ?_
  refine hs_st (ins := .iand) (len := 1) (p := 48) (by decide +kernel) rfl rfl ?_
  refine hs_calls (mi := 214) (na := 1) (lk := 4) (lm := 1) (L0 := eg_en (eg_mL 214) [.int (x &&& (Int32.ofNat 255))]) (by decide +kernel) rfl rfl rfl rfl rfl rfl (by rw [show eg_mL 214 = 1 from by decide +kernel]; first | done | rfl) ?_
  refine (fm_bits (x := (x &&& (Int32.ofNat 255))) (by omega)).mono (fun u hu => xp_cb hu ?_)
  show et_go none _ 213 51 _ [.int (rp_bc (x &&& (Int32.ofNat 255))), .int (Int32.ofNat 3), .ref fa] _ _ _ _
  refine hf_ist (T := et_TT) (t := 14) (N := 5) (p := 52) (by decide +kernel) rfl rfl (by decide) hH k_fa (by omega) (by decide) (fun s hs => absurd hs List.not_mem_nil) (fun G51 hH x51 e51 => ?_)
  have hT := hT.xs lt_aw x51 (fun j h => hi_ne k_aw k_fa (by decide) h.1)
  have m1 := (x51.2 am 1 lt_am (fun h => (hi_ne k_am k_fa (by decide)) h.1)).trans m1
  have m14 := (x51.2 am 14 lt_am (fun h => (hi_ne k_am k_fa (by decide)) h.1)).trans m14
  have m15 := (x51.2 am 15 lt_am (fun h => (hi_ne k_am k_fa (by decide)) h.1)).trans m15
  have e9 := (x51.2 fa 0 lt_fa (fun h => absurd h.2 (by decide))).trans e9
  have e23 := (x51.2 fa 1 lt_fa (fun h => absurd h.2 (by decide))).trans e23
  have e37 := (x51.2 fa 2 lt_fa (fun h => absurd h.2 (by decide))).trans e37
  have lt_am := Nat.lt_of_lt_of_le lt_am x51.1
  have lt_aw := Nat.lt_of_lt_of_le lt_aw x51.1
  have lt_fa := Nat.lt_of_lt_of_le lt_fa x51.1
  have lt_tg := Nat.lt_of_lt_of_le lt_tg x51.1
  refine hs_aload (i := 0) (p := 53) (by decide +kernel) rfl ?_
  refine hf_get (T := et_TT) (t := 13) (ci := 11) (f := 14) (p := 56) (by decide +kernel) rfl hH k_am m14 ?_
  refine hs_k (x := Int32.ofNat 4) (p := 57) (by decide +kernel) ?_
  refine hs_k (x := Int32.ofNat 0) (p := 58) (by decide +kernel) ?_
  refine hf_ist (T := et_TT) (t := 14) (N := 5) (p := 59) (by decide +kernel) rfl rfl (by decide) hH k_fa (by omega) (by decide) (fun s hs => absurd hs List.not_mem_nil) (fun G58 hH x58 e58 => ?_)
  have hT := hT.xs lt_aw x58 (fun j h => hi_ne k_aw k_fa (by decide) h.1)
  have m1 := (x58.2 am 1 lt_am (fun h => (hi_ne k_am k_fa (by decide)) h.1)).trans m1
  have m14 := (x58.2 am 14 lt_am (fun h => (hi_ne k_am k_fa (by decide)) h.1)).trans m14
  have m15 := (x58.2 am 15 lt_am (fun h => (hi_ne k_am k_fa (by decide)) h.1)).trans m15
  have e9 := (x58.2 fa 0 lt_fa (fun h => absurd h.2 (by decide))).trans e9
  have e23 := (x58.2 fa 1 lt_fa (fun h => absurd h.2 (by decide))).trans e23
  have e37 := (x58.2 fa 2 lt_fa (fun h => absurd h.2 (by decide))).trans e37
  have e51 := (x58.2 fa 3 lt_fa (fun h => absurd h.2 (by decide))).trans e51
  have lt_am := Nat.lt_of_lt_of_le lt_am x58.1
  have lt_aw := Nat.lt_of_lt_of_le lt_aw x58.1
  have lt_fa := Nat.lt_of_lt_of_le lt_fa x58.1
  have lt_tg := Nat.lt_of_lt_of_le lt_tg x58.1
  refine hs_k (x := Int32.ofNat 0) (p := 60) (by decide +kernel) ?_
  refine hs_istore (i := 3) (p := 61) (by decide +kernel) (Nat.le_of_ble_eq_true rfl) ?_
  show et_go none _ 213 61 [some (.ref am), some (.int (Int32.ofNat t)), some (.int x), some (.int (Int32.ofNat 0))] [] _ _ _ _
  refine hs_iload (i := 3) (p := 62) (by decide +kernel) rfl ?_
  refine hs_k (x := Int32.ofNat 4) (p := 63) (by decide +kernel) ?_
  refine hs_br2n (c := .ge) (t := 97) (f := 66) (by decide +kernel) (by omega) (by omega) (fun h => absurd h (show ¬ (4 ≤ 0) by decide)) (fun _ => ?_)
  refine hs_aload (i := 0) (p := 67) (by decide +kernel) rfl ?_
  refine hf_get (T := et_TT) (t := 13) (ci := 11) (f := 14) (p := 70) (by decide +kernel) rfl hH k_am m14 ?_
  refine hs_k (x := Int32.ofNat 4) (p := 71) (by decide +kernel) ?_
  refine hs_dup2 (p := 72) (by decide +kernel) ?_
  refine hf_ald (ins := .iaload) (T := et_TT) (t := 14) (kd := 0) (N := 5) (p := 73) (by decide +kernel) (fun _ _ _ _ _ _ _ _ _ _ => rfl) rfl rfl rfl hH k_fa (by decide) e58 ?_
  refine hs_iload (i := 2) (p := 74) (by decide +kernel) rfl ?_
  refine hs_k (x := Int32.ofNat 4) (p := 75) (by decide +kernel) ?_
  refine hs_iload (i := 3) (p := 76) (by decide +kernel) rfl ?_
  refine hs_imuln (p := 77) (by decide +kernel) ?_
  refine hs_st (ins := .ishr) (len := 1) (p := 78) (by decide +kernel) rfl rfl ?_
  refine hs_k (x := Int32.ofNat 15) (p := 80) (by decide +kernel) ?_
  refine hs_st (ins := .iand) (len := 1) (p := 81) (by decide +kernel) rfl rfl ?_
  refine hs_br1 (c := .le) (t := 88) (f := 84) (by decide +kernel) (fun (c81_1 : ((x >>> ((Int32.ofNat (4 * 0)) &&& 31)) &&& (Int32.ofNat 15)) ≤ 0) => ?_) (fun (c81_1 : ¬ (((x >>> ((Int32.ofNat (4 * 0)) &&& 31)) &&& (Int32.ofNat 15)) ≤ 0)) => ?_)
  · refine hs_k (x := Int32.ofNat 0) (p := 89) (by decide +kernel) ?_
    refine hs_iaddn (p := 90) (by decide +kernel) ?_
    refine hf_ist (T := et_TT) (t := 14) (N := 5) (p := 91) (by decide +kernel) rfl rfl (by decide) hH k_fa (by omega) (by decide) (fun s hs => absurd hs List.not_mem_nil) (fun G90 hH x90 e90 => ?_)
    have hT := hT.xs lt_aw x90 (fun j h => hi_ne k_aw k_fa (by decide) h.1)
    have m1 := (x90.2 am 1 lt_am (fun h => (hi_ne k_am k_fa (by decide)) h.1)).trans m1
    have m14 := (x90.2 am 14 lt_am (fun h => (hi_ne k_am k_fa (by decide)) h.1)).trans m14
    have m15 := (x90.2 am 15 lt_am (fun h => (hi_ne k_am k_fa (by decide)) h.1)).trans m15
    have e9 := (x90.2 fa 0 lt_fa (fun h => absurd h.2 (by decide))).trans e9
    have e23 := (x90.2 fa 1 lt_fa (fun h => absurd h.2 (by decide))).trans e23
    have e37 := (x90.2 fa 2 lt_fa (fun h => absurd h.2 (by decide))).trans e37
    have e51 := (x90.2 fa 3 lt_fa (fun h => absurd h.2 (by decide))).trans e51
    have lt_am := Nat.lt_of_lt_of_le lt_am x90.1
    have lt_aw := Nat.lt_of_lt_of_le lt_aw x90.1
    have lt_fa := Nat.lt_of_lt_of_le lt_fa x90.1
    have lt_tg := Nat.lt_of_lt_of_le lt_tg x90.1
    refine hs_iinc1 (i := 3) (p := 94) (by decide +kernel) rfl (Nat.le_of_ble_eq_true rfl) ?_
    refine hs_goto (p := 61) (by decide +kernel) ?_
    show et_go none _ 213 61 [some (.ref am), some (.int (Int32.ofNat t)), some (.int x), some (.int (Int32.ofNat 1))] [] _ _ _ _
    refine hs_iload (i := 3) (p := 62) (by decide +kernel) rfl ?_
    refine hs_k (x := Int32.ofNat 4) (p := 63) (by decide +kernel) ?_
    refine hs_br2n (c := .ge) (t := 97) (f := 66) (by decide +kernel) (by omega) (by omega) (fun h => absurd h (show ¬ (4 ≤ 1) by decide)) (fun _ => ?_)
    refine hs_aload (i := 0) (p := 67) (by decide +kernel) rfl ?_
    refine hf_get (T := et_TT) (t := 13) (ci := 11) (f := 14) (p := 70) (by decide +kernel) rfl hH k_am m14 ?_
    refine hs_k (x := Int32.ofNat 4) (p := 71) (by decide +kernel) ?_
    refine hs_dup2 (p := 72) (by decide +kernel) ?_
    refine hf_ald (ins := .iaload) (T := et_TT) (t := 14) (kd := 0) (N := 5) (p := 73) (by decide +kernel) (fun _ _ _ _ _ _ _ _ _ _ => rfl) rfl rfl rfl hH k_fa (by decide) e90 ?_
    refine hs_iload (i := 2) (p := 74) (by decide +kernel) rfl ?_
    refine hs_k (x := Int32.ofNat 4) (p := 75) (by decide +kernel) ?_
    refine hs_iload (i := 3) (p := 76) (by decide +kernel) rfl ?_
    refine hs_imuln (p := 77) (by decide +kernel) ?_
    refine hs_st (ins := .ishr) (len := 1) (p := 78) (by decide +kernel) rfl rfl ?_
    refine hs_k (x := Int32.ofNat 15) (p := 80) (by decide +kernel) ?_
    refine hs_st (ins := .iand) (len := 1) (p := 81) (by decide +kernel) rfl rfl ?_
    refine hs_br1 (c := .le) (t := 88) (f := 84) (by decide +kernel) (fun (c81_2 : ((x >>> ((Int32.ofNat (4 * 1)) &&& 31)) &&& (Int32.ofNat 15)) ≤ 0) => ?_) (fun (c81_2 : ¬ (((x >>> ((Int32.ofNat (4 * 1)) &&& 31)) &&& (Int32.ofNat 15)) ≤ 0)) => ?_)
    · refine hs_k (x := Int32.ofNat 0) (p := 89) (by decide +kernel) ?_
      refine hs_iaddn (p := 90) (by decide +kernel) ?_
      refine hf_ist (T := et_TT) (t := 14) (N := 5) (p := 91) (by decide +kernel) rfl rfl (by decide) hH k_fa (by omega) (by decide) (fun s hs => absurd hs List.not_mem_nil) (fun G90 hH x90 e90 => ?_)
      have hT := hT.xs lt_aw x90 (fun j h => hi_ne k_aw k_fa (by decide) h.1)
      have m1 := (x90.2 am 1 lt_am (fun h => (hi_ne k_am k_fa (by decide)) h.1)).trans m1
      have m14 := (x90.2 am 14 lt_am (fun h => (hi_ne k_am k_fa (by decide)) h.1)).trans m14
      have m15 := (x90.2 am 15 lt_am (fun h => (hi_ne k_am k_fa (by decide)) h.1)).trans m15
      have e9 := (x90.2 fa 0 lt_fa (fun h => absurd h.2 (by decide))).trans e9
      have e23 := (x90.2 fa 1 lt_fa (fun h => absurd h.2 (by decide))).trans e23
      have e37 := (x90.2 fa 2 lt_fa (fun h => absurd h.2 (by decide))).trans e37
      have e51 := (x90.2 fa 3 lt_fa (fun h => absurd h.2 (by decide))).trans e51
      have lt_am := Nat.lt_of_lt_of_le lt_am x90.1
      have lt_aw := Nat.lt_of_lt_of_le lt_aw x90.1
      have lt_fa := Nat.lt_of_lt_of_le lt_fa x90.1
      have lt_tg := Nat.lt_of_lt_of_le lt_tg x90.1
      refine hs_iinc1 (i := 3) (p := 94) (by decide +kernel) rfl (Nat.le_of_ble_eq_true rfl) ?_
      refine hs_goto (p := 61) (by decide +kernel) ?_
      show et_go none _ 213 61 [some (.ref am), some (.int (Int32.ofNat t)), some (.int x), some (.int (Int32.ofNat 2))] [] _ _ _ _
      refine hs_iload (i := 3) (p := 62) (by decide +kernel) rfl ?_
      refine hs_k (x := Int32.ofNat 4) (p := 63) (by decide +kernel) ?_
      refine hs_br2n (c := .ge) (t := 97) (f := 66) (by decide +kernel) (by omega) (by omega) (fun h => absurd h (show ¬ (4 ≤ 2) by decide)) (fun _ => ?_)
      refine hs_aload (i := 0) (p := 67) (by decide +kernel) rfl ?_
      refine hf_get (T := et_TT) (t := 13) (ci := 11) (f := 14) (p := 70) (by decide +kernel) rfl hH k_am m14 ?_
      refine hs_k (x := Int32.ofNat 4) (p := 71) (by decide +kernel) ?_
      refine hs_dup2 (p := 72) (by decide +kernel) ?_
      refine hf_ald (ins := .iaload) (T := et_TT) (t := 14) (kd := 0) (N := 5) (p := 73) (by decide +kernel) (fun _ _ _ _ _ _ _ _ _ _ => rfl) rfl rfl rfl hH k_fa (by decide) e90 ?_
      refine hs_iload (i := 2) (p := 74) (by decide +kernel) rfl ?_
      refine hs_k (x := Int32.ofNat 4) (p := 75) (by decide +kernel) ?_
      refine hs_iload (i := 3) (p := 76) (by decide +kernel) rfl ?_
      refine hs_imuln (p := 77) (by decide +kernel) ?_
      refine hs_st (ins := .ishr) (len := 1) (p := 78) (by decide +kernel) rfl rfl ?_
      refine hs_k (x := Int32.ofNat 15) (p := 80) (by decide +kernel) ?_
      refine hs_st (ins := .iand) (len := 1) (p := 81) (by decide +kernel) rfl rfl ?_
      refine hs_br1 (c := .le) (t := 88) (f := 84) (by decide +kernel) (fun (c81_3 : ((x >>> ((Int32.ofNat (4 * 2)) &&& 31)) &&& (Int32.ofNat 15)) ≤ 0) => ?_) (fun (c81_3 : ¬ (((x >>> ((Int32.ofNat (4 * 2)) &&& 31)) &&& (Int32.ofNat 15)) ≤ 0)) => ?_)
      · refine hs_k (x := Int32.ofNat 0) (p := 89) (by decide +kernel) ?_
        refine hs_iaddn (p := 90) (by decide +kernel) ?_
        refine hf_ist (T := et_TT) (t := 14) (N := 5) (p := 91) (by decide +kernel) rfl rfl (by decide) hH k_fa (by omega) (by decide) (fun s hs => absurd hs List.not_mem_nil) (fun G90 hH x90 e90 => ?_)
        have hT := hT.xs lt_aw x90 (fun j h => hi_ne k_aw k_fa (by decide) h.1)
        have m1 := (x90.2 am 1 lt_am (fun h => (hi_ne k_am k_fa (by decide)) h.1)).trans m1
        have m14 := (x90.2 am 14 lt_am (fun h => (hi_ne k_am k_fa (by decide)) h.1)).trans m14
        have m15 := (x90.2 am 15 lt_am (fun h => (hi_ne k_am k_fa (by decide)) h.1)).trans m15
        have e9 := (x90.2 fa 0 lt_fa (fun h => absurd h.2 (by decide))).trans e9
        have e23 := (x90.2 fa 1 lt_fa (fun h => absurd h.2 (by decide))).trans e23
        have e37 := (x90.2 fa 2 lt_fa (fun h => absurd h.2 (by decide))).trans e37
        have e51 := (x90.2 fa 3 lt_fa (fun h => absurd h.2 (by decide))).trans e51
        have lt_am := Nat.lt_of_lt_of_le lt_am x90.1
        have lt_aw := Nat.lt_of_lt_of_le lt_aw x90.1
        have lt_fa := Nat.lt_of_lt_of_le lt_fa x90.1
        have lt_tg := Nat.lt_of_lt_of_le lt_tg x90.1
        refine hs_iinc1 (i := 3) (p := 94) (by decide +kernel) rfl (Nat.le_of_ble_eq_true rfl) ?_
        refine hs_goto (p := 61) (by decide +kernel) ?_
        show et_go none _ 213 61 [some (.ref am), some (.int (Int32.ofNat t)), some (.int x), some (.int (Int32.ofNat 3))] [] _ _ _ _
        refine hs_iload (i := 3) (p := 62) (by decide +kernel) rfl ?_
        refine hs_k (x := Int32.ofNat 4) (p := 63) (by decide +kernel) ?_
        refine hs_br2n (c := .ge) (t := 97) (f := 66) (by decide +kernel) (by omega) (by omega) (fun h => absurd h (show ¬ (4 ≤ 3) by decide)) (fun _ => ?_)
        refine hs_aload (i := 0) (p := 67) (by decide +kernel) rfl ?_
        refine hf_get (T := et_TT) (t := 13) (ci := 11) (f := 14) (p := 70) (by decide +kernel) rfl hH k_am m14 ?_
        refine hs_k (x := Int32.ofNat 4) (p := 71) (by decide +kernel) ?_
        refine hs_dup2 (p := 72) (by decide +kernel) ?_
        refine hf_ald (ins := .iaload) (T := et_TT) (t := 14) (kd := 0) (N := 5) (p := 73) (by decide +kernel) (fun _ _ _ _ _ _ _ _ _ _ => rfl) rfl rfl rfl hH k_fa (by decide) e90 ?_
        refine hs_iload (i := 2) (p := 74) (by decide +kernel) rfl ?_
        refine hs_k (x := Int32.ofNat 4) (p := 75) (by decide +kernel) ?_
        refine hs_iload (i := 3) (p := 76) (by decide +kernel) rfl ?_
        refine hs_imuln (p := 77) (by decide +kernel) ?_
        refine hs_st (ins := .ishr) (len := 1) (p := 78) (by decide +kernel) rfl rfl ?_
        refine hs_k (x := Int32.ofNat 15) (p := 80) (by decide +kernel) ?_
        refine hs_st (ins := .iand) (len := 1) (p := 81) (by decide +kernel) rfl rfl ?_
        refine hs_br1 (c := .le) (t := 88) (f := 84) (by decide +kernel) (fun (c81_4 : ((x >>> ((Int32.ofNat (4 * 3)) &&& 31)) &&& (Int32.ofNat 15)) ≤ 0) => ?_) (fun (c81_4 : ¬ (((x >>> ((Int32.ofNat (4 * 3)) &&& 31)) &&& (Int32.ofNat 15)) ≤ 0)) => ?_)
        · refine hs_k (x := Int32.ofNat 0) (p := 89) (by decide +kernel) ?_
          refine hs_iaddn (p := 90) (by decide +kernel) ?_
          refine hf_ist (T := et_TT) (t := 14) (N := 5) (p := 91) (by decide +kernel) rfl rfl (by decide) hH k_fa (by omega) (by decide) (fun s hs => absurd hs List.not_mem_nil) (fun G90 hH x90 e90 => ?_)
          have hT := hT.xs lt_aw x90 (fun j h => hi_ne k_aw k_fa (by decide) h.1)
          have m1 := (x90.2 am 1 lt_am (fun h => (hi_ne k_am k_fa (by decide)) h.1)).trans m1
          have m14 := (x90.2 am 14 lt_am (fun h => (hi_ne k_am k_fa (by decide)) h.1)).trans m14
          have m15 := (x90.2 am 15 lt_am (fun h => (hi_ne k_am k_fa (by decide)) h.1)).trans m15
          have e9 := (x90.2 fa 0 lt_fa (fun h => absurd h.2 (by decide))).trans e9
          have e23 := (x90.2 fa 1 lt_fa (fun h => absurd h.2 (by decide))).trans e23
          have e37 := (x90.2 fa 2 lt_fa (fun h => absurd h.2 (by decide))).trans e37
          have e51 := (x90.2 fa 3 lt_fa (fun h => absurd h.2 (by decide))).trans e51
          have lt_am := Nat.lt_of_lt_of_le lt_am x90.1
          have lt_aw := Nat.lt_of_lt_of_le lt_aw x90.1
          have lt_fa := Nat.lt_of_lt_of_le lt_fa x90.1
          have lt_tg := Nat.lt_of_lt_of_le lt_tg x90.1
          refine hs_iinc1 (i := 3) (p := 94) (by decide +kernel) rfl (Nat.le_of_ble_eq_true rfl) ?_
          refine hs_goto (p := 61) (by decide +kernel) ?_
          show et_go none _ 213 61 [some (.ref am), some (.int (Int32.ofNat t)), some (.int x), some (.int (Int32.ofNat 4))] [] _ _ _ _
          refine hs_iload (i := 3) (p := 62) (by decide +kernel) rfl ?_
          refine hs_k (x := Int32.ofNat 4) (p := 63) (by decide +kernel) ?_
          refine hs_br2n (c := .ge) (t := 97) (f := 66) (by decide +kernel) (by omega) (by omega) (fun _ => ?_) (fun h => absurd (show 4 ≤ 4 by decide) h)
          show et_go none _ 213 97 [some (.ref am), some (.int (Int32.ofNat t)), some (.int x), some (.int (Int32.ofNat 4))] [] _ _ _ _
          exact fm_ruledT (r := 0) hH k_am k_aw m1 hF ht hT k_fa k_tg m14 m15 e9 e23 e37 e51 e90 (by unfold rowI; rw [if_pos (row_le.mp c81_1), if_pos (row_le.mp c81_2), if_pos (row_le.mp c81_3), if_pos (row_le.mp c81_4)])
        · refine hs_k (x := Int32.ofNat 1) (p := 85) (by decide +kernel) ?_
          refine hs_goto (p := 89) (by decide +kernel) ?_
          refine hs_iaddn (p := 90) (by decide +kernel) ?_
          refine hf_ist (T := et_TT) (t := 14) (N := 5) (p := 91) (by decide +kernel) rfl rfl (by decide) hH k_fa (by omega) (by decide) (fun s hs => absurd hs List.not_mem_nil) (fun G90 hH x90 e90 => ?_)
          have hT := hT.xs lt_aw x90 (fun j h => hi_ne k_aw k_fa (by decide) h.1)
          have m1 := (x90.2 am 1 lt_am (fun h => (hi_ne k_am k_fa (by decide)) h.1)).trans m1
          have m14 := (x90.2 am 14 lt_am (fun h => (hi_ne k_am k_fa (by decide)) h.1)).trans m14
          have m15 := (x90.2 am 15 lt_am (fun h => (hi_ne k_am k_fa (by decide)) h.1)).trans m15
          have e9 := (x90.2 fa 0 lt_fa (fun h => absurd h.2 (by decide))).trans e9
          have e23 := (x90.2 fa 1 lt_fa (fun h => absurd h.2 (by decide))).trans e23
          have e37 := (x90.2 fa 2 lt_fa (fun h => absurd h.2 (by decide))).trans e37
          have e51 := (x90.2 fa 3 lt_fa (fun h => absurd h.2 (by decide))).trans e51
          have lt_am := Nat.lt_of_lt_of_le lt_am x90.1
          have lt_aw := Nat.lt_of_lt_of_le lt_aw x90.1
          have lt_fa := Nat.lt_of_lt_of_le lt_fa x90.1
          have lt_tg := Nat.lt_of_lt_of_le lt_tg x90.1
          refine hs_iinc1 (i := 3) (p := 94) (by decide +kernel) rfl (Nat.le_of_ble_eq_true rfl) ?_
          refine hs_goto (p := 61) (by decide +kernel) ?_
          show et_go none _ 213 61 [some (.ref am), some (.int (Int32.ofNat t)), some (.int x), some (.int (Int32.ofNat 4))] [] _ _ _ _
          refine hs_iload (i := 3) (p := 62) (by decide +kernel) rfl ?_
          refine hs_k (x := Int32.ofNat 4) (p := 63) (by decide +kernel) ?_
          refine hs_br2n (c := .ge) (t := 97) (f := 66) (by decide +kernel) (by omega) (by omega) (fun _ => ?_) (fun h => absurd (show 4 ≤ 4 by decide) h)
          show et_go none _ 213 97 [some (.ref am), some (.int (Int32.ofNat t)), some (.int x), some (.int (Int32.ofNat 4))] [] _ _ _ _
          exact fm_ruledT (r := 1) hH k_am k_aw m1 hF ht hT k_fa k_tg m14 m15 e9 e23 e37 e51 e90 (by unfold rowI; rw [if_pos (row_le.mp c81_1), if_pos (row_le.mp c81_2), if_pos (row_le.mp c81_3), if_neg (fun h => c81_4 (row_le.mpr h))])
      · refine hs_k (x := Int32.ofNat 1) (p := 85) (by decide +kernel) ?_
        refine hs_goto (p := 89) (by decide +kernel) ?_
        refine hs_iaddn (p := 90) (by decide +kernel) ?_
        refine hf_ist (T := et_TT) (t := 14) (N := 5) (p := 91) (by decide +kernel) rfl rfl (by decide) hH k_fa (by omega) (by decide) (fun s hs => absurd hs List.not_mem_nil) (fun G90 hH x90 e90 => ?_)
        have hT := hT.xs lt_aw x90 (fun j h => hi_ne k_aw k_fa (by decide) h.1)
        have m1 := (x90.2 am 1 lt_am (fun h => (hi_ne k_am k_fa (by decide)) h.1)).trans m1
        have m14 := (x90.2 am 14 lt_am (fun h => (hi_ne k_am k_fa (by decide)) h.1)).trans m14
        have m15 := (x90.2 am 15 lt_am (fun h => (hi_ne k_am k_fa (by decide)) h.1)).trans m15
        have e9 := (x90.2 fa 0 lt_fa (fun h => absurd h.2 (by decide))).trans e9
        have e23 := (x90.2 fa 1 lt_fa (fun h => absurd h.2 (by decide))).trans e23
        have e37 := (x90.2 fa 2 lt_fa (fun h => absurd h.2 (by decide))).trans e37
        have e51 := (x90.2 fa 3 lt_fa (fun h => absurd h.2 (by decide))).trans e51
        have lt_am := Nat.lt_of_lt_of_le lt_am x90.1
        have lt_aw := Nat.lt_of_lt_of_le lt_aw x90.1
        have lt_fa := Nat.lt_of_lt_of_le lt_fa x90.1
        have lt_tg := Nat.lt_of_lt_of_le lt_tg x90.1
        refine hs_iinc1 (i := 3) (p := 94) (by decide +kernel) rfl (Nat.le_of_ble_eq_true rfl) ?_
        refine hs_goto (p := 61) (by decide +kernel) ?_
        show et_go none _ 213 61 [some (.ref am), some (.int (Int32.ofNat t)), some (.int x), some (.int (Int32.ofNat 3))] [] _ _ _ _
        refine hs_iload (i := 3) (p := 62) (by decide +kernel) rfl ?_
        refine hs_k (x := Int32.ofNat 4) (p := 63) (by decide +kernel) ?_
        refine hs_br2n (c := .ge) (t := 97) (f := 66) (by decide +kernel) (by omega) (by omega) (fun h => absurd h (show ¬ (4 ≤ 3) by decide)) (fun _ => ?_)
        refine hs_aload (i := 0) (p := 67) (by decide +kernel) rfl ?_
        refine hf_get (T := et_TT) (t := 13) (ci := 11) (f := 14) (p := 70) (by decide +kernel) rfl hH k_am m14 ?_
        refine hs_k (x := Int32.ofNat 4) (p := 71) (by decide +kernel) ?_
        refine hs_dup2 (p := 72) (by decide +kernel) ?_
        refine hf_ald (ins := .iaload) (T := et_TT) (t := 14) (kd := 0) (N := 5) (p := 73) (by decide +kernel) (fun _ _ _ _ _ _ _ _ _ _ => rfl) rfl rfl rfl hH k_fa (by decide) e90 ?_
        refine hs_iload (i := 2) (p := 74) (by decide +kernel) rfl ?_
        refine hs_k (x := Int32.ofNat 4) (p := 75) (by decide +kernel) ?_
        refine hs_iload (i := 3) (p := 76) (by decide +kernel) rfl ?_
        refine hs_imuln (p := 77) (by decide +kernel) ?_
        refine hs_st (ins := .ishr) (len := 1) (p := 78) (by decide +kernel) rfl rfl ?_
        refine hs_k (x := Int32.ofNat 15) (p := 80) (by decide +kernel) ?_
        refine hs_st (ins := .iand) (len := 1) (p := 81) (by decide +kernel) rfl rfl ?_
        refine hs_br1 (c := .le) (t := 88) (f := 84) (by decide +kernel) (fun (c81_5 : ((x >>> ((Int32.ofNat (4 * 3)) &&& 31)) &&& (Int32.ofNat 15)) ≤ 0) => ?_) (fun (c81_5 : ¬ (((x >>> ((Int32.ofNat (4 * 3)) &&& 31)) &&& (Int32.ofNat 15)) ≤ 0)) => ?_)
        · refine hs_k (x := Int32.ofNat 0) (p := 89) (by decide +kernel) ?_
          refine hs_iaddn (p := 90) (by decide +kernel) ?_
          refine hf_ist (T := et_TT) (t := 14) (N := 5) (p := 91) (by decide +kernel) rfl rfl (by decide) hH k_fa (by omega) (by decide) (fun s hs => absurd hs List.not_mem_nil) (fun G90 hH x90 e90 => ?_)
          have hT := hT.xs lt_aw x90 (fun j h => hi_ne k_aw k_fa (by decide) h.1)
          have m1 := (x90.2 am 1 lt_am (fun h => (hi_ne k_am k_fa (by decide)) h.1)).trans m1
          have m14 := (x90.2 am 14 lt_am (fun h => (hi_ne k_am k_fa (by decide)) h.1)).trans m14
          have m15 := (x90.2 am 15 lt_am (fun h => (hi_ne k_am k_fa (by decide)) h.1)).trans m15
          have e9 := (x90.2 fa 0 lt_fa (fun h => absurd h.2 (by decide))).trans e9
          have e23 := (x90.2 fa 1 lt_fa (fun h => absurd h.2 (by decide))).trans e23
          have e37 := (x90.2 fa 2 lt_fa (fun h => absurd h.2 (by decide))).trans e37
          have e51 := (x90.2 fa 3 lt_fa (fun h => absurd h.2 (by decide))).trans e51
          have lt_am := Nat.lt_of_lt_of_le lt_am x90.1
          have lt_aw := Nat.lt_of_lt_of_le lt_aw x90.1
          have lt_fa := Nat.lt_of_lt_of_le lt_fa x90.1
          have lt_tg := Nat.lt_of_lt_of_le lt_tg x90.1
          refine hs_iinc1 (i := 3) (p := 94) (by decide +kernel) rfl (Nat.le_of_ble_eq_true rfl) ?_
          refine hs_goto (p := 61) (by decide +kernel) ?_
          show et_go none _ 213 61 [some (.ref am), some (.int (Int32.ofNat t)), some (.int x), some (.int (Int32.ofNat 4))] [] _ _ _ _
          refine hs_iload (i := 3) (p := 62) (by decide +kernel) rfl ?_
          refine hs_k (x := Int32.ofNat 4) (p := 63) (by decide +kernel) ?_
          refine hs_br2n (c := .ge) (t := 97) (f := 66) (by decide +kernel) (by omega) (by omega) (fun _ => ?_) (fun h => absurd (show 4 ≤ 4 by decide) h)
          show et_go none _ 213 97 [some (.ref am), some (.int (Int32.ofNat t)), some (.int x), some (.int (Int32.ofNat 4))] [] _ _ _ _
          exact fm_ruledT (r := 1) hH k_am k_aw m1 hF ht hT k_fa k_tg m14 m15 e9 e23 e37 e51 e90 (by unfold rowI; rw [if_pos (row_le.mp c81_1), if_pos (row_le.mp c81_2), if_neg (fun h => c81_3 (row_le.mpr h)), if_pos (row_le.mp c81_5)])
        · refine hs_k (x := Int32.ofNat 1) (p := 85) (by decide +kernel) ?_
          refine hs_goto (p := 89) (by decide +kernel) ?_
          refine hs_iaddn (p := 90) (by decide +kernel) ?_
          refine hf_ist (T := et_TT) (t := 14) (N := 5) (p := 91) (by decide +kernel) rfl rfl (by decide) hH k_fa (by omega) (by decide) (fun s hs => absurd hs List.not_mem_nil) (fun G90 hH x90 e90 => ?_)
          have hT := hT.xs lt_aw x90 (fun j h => hi_ne k_aw k_fa (by decide) h.1)
          have m1 := (x90.2 am 1 lt_am (fun h => (hi_ne k_am k_fa (by decide)) h.1)).trans m1
          have m14 := (x90.2 am 14 lt_am (fun h => (hi_ne k_am k_fa (by decide)) h.1)).trans m14
          have m15 := (x90.2 am 15 lt_am (fun h => (hi_ne k_am k_fa (by decide)) h.1)).trans m15
          have e9 := (x90.2 fa 0 lt_fa (fun h => absurd h.2 (by decide))).trans e9
          have e23 := (x90.2 fa 1 lt_fa (fun h => absurd h.2 (by decide))).trans e23
          have e37 := (x90.2 fa 2 lt_fa (fun h => absurd h.2 (by decide))).trans e37
          have e51 := (x90.2 fa 3 lt_fa (fun h => absurd h.2 (by decide))).trans e51
          have lt_am := Nat.lt_of_lt_of_le lt_am x90.1
          have lt_aw := Nat.lt_of_lt_of_le lt_aw x90.1
          have lt_fa := Nat.lt_of_lt_of_le lt_fa x90.1
          have lt_tg := Nat.lt_of_lt_of_le lt_tg x90.1
          refine hs_iinc1 (i := 3) (p := 94) (by decide +kernel) rfl (Nat.le_of_ble_eq_true rfl) ?_
          refine hs_goto (p := 61) (by decide +kernel) ?_
          show et_go none _ 213 61 [some (.ref am), some (.int (Int32.ofNat t)), some (.int x), some (.int (Int32.ofNat 4))] [] _ _ _ _
          refine hs_iload (i := 3) (p := 62) (by decide +kernel) rfl ?_
          refine hs_k (x := Int32.ofNat 4) (p := 63) (by decide +kernel) ?_
          refine hs_br2n (c := .ge) (t := 97) (f := 66) (by decide +kernel) (by omega) (by omega) (fun _ => ?_) (fun h => absurd (show 4 ≤ 4 by decide) h)
          show et_go none _ 213 97 [some (.ref am), some (.int (Int32.ofNat t)), some (.int x), some (.int (Int32.ofNat 4))] [] _ _ _ _
          exact fm_ruledT (r := 2) hH k_am k_aw m1 hF ht hT k_fa k_tg m14 m15 e9 e23 e37 e51 e90 (by unfold rowI; rw [if_pos (row_le.mp c81_1), if_pos (row_le.mp c81_2), if_neg (fun h => c81_3 (row_le.mpr h)), if_neg (fun h => c81_5 (row_le.mpr h))])
    · refine hs_k (x := Int32.ofNat 1) (p := 85) (by decide +kernel) ?_
      refine hs_goto (p := 89) (by decide +kernel) ?_
      refine hs_iaddn (p := 90) (by decide +kernel) ?_
      refine hf_ist (T := et_TT) (t := 14) (N := 5) (p := 91) (by decide +kernel) rfl rfl (by decide) hH k_fa (by omega) (by decide) (fun s hs => absurd hs List.not_mem_nil) (fun G90 hH x90 e90 => ?_)
      have hT := hT.xs lt_aw x90 (fun j h => hi_ne k_aw k_fa (by decide) h.1)
      have m1 := (x90.2 am 1 lt_am (fun h => (hi_ne k_am k_fa (by decide)) h.1)).trans m1
      have m14 := (x90.2 am 14 lt_am (fun h => (hi_ne k_am k_fa (by decide)) h.1)).trans m14
      have m15 := (x90.2 am 15 lt_am (fun h => (hi_ne k_am k_fa (by decide)) h.1)).trans m15
      have e9 := (x90.2 fa 0 lt_fa (fun h => absurd h.2 (by decide))).trans e9
      have e23 := (x90.2 fa 1 lt_fa (fun h => absurd h.2 (by decide))).trans e23
      have e37 := (x90.2 fa 2 lt_fa (fun h => absurd h.2 (by decide))).trans e37
      have e51 := (x90.2 fa 3 lt_fa (fun h => absurd h.2 (by decide))).trans e51
      have lt_am := Nat.lt_of_lt_of_le lt_am x90.1
      have lt_aw := Nat.lt_of_lt_of_le lt_aw x90.1
      have lt_fa := Nat.lt_of_lt_of_le lt_fa x90.1
      have lt_tg := Nat.lt_of_lt_of_le lt_tg x90.1
      refine hs_iinc1 (i := 3) (p := 94) (by decide +kernel) rfl (Nat.le_of_ble_eq_true rfl) ?_
      refine hs_goto (p := 61) (by decide +kernel) ?_
      show et_go none _ 213 61 [some (.ref am), some (.int (Int32.ofNat t)), some (.int x), some (.int (Int32.ofNat 2))] [] _ _ _ _
      refine hs_iload (i := 3) (p := 62) (by decide +kernel) rfl ?_
      refine hs_k (x := Int32.ofNat 4) (p := 63) (by decide +kernel) ?_
      refine hs_br2n (c := .ge) (t := 97) (f := 66) (by decide +kernel) (by omega) (by omega) (fun h => absurd h (show ¬ (4 ≤ 2) by decide)) (fun _ => ?_)
      refine hs_aload (i := 0) (p := 67) (by decide +kernel) rfl ?_
      refine hf_get (T := et_TT) (t := 13) (ci := 11) (f := 14) (p := 70) (by decide +kernel) rfl hH k_am m14 ?_
      refine hs_k (x := Int32.ofNat 4) (p := 71) (by decide +kernel) ?_
      refine hs_dup2 (p := 72) (by decide +kernel) ?_
      refine hf_ald (ins := .iaload) (T := et_TT) (t := 14) (kd := 0) (N := 5) (p := 73) (by decide +kernel) (fun _ _ _ _ _ _ _ _ _ _ => rfl) rfl rfl rfl hH k_fa (by decide) e90 ?_
      refine hs_iload (i := 2) (p := 74) (by decide +kernel) rfl ?_
      refine hs_k (x := Int32.ofNat 4) (p := 75) (by decide +kernel) ?_
      refine hs_iload (i := 3) (p := 76) (by decide +kernel) rfl ?_
      refine hs_imuln (p := 77) (by decide +kernel) ?_
      refine hs_st (ins := .ishr) (len := 1) (p := 78) (by decide +kernel) rfl rfl ?_
      refine hs_k (x := Int32.ofNat 15) (p := 80) (by decide +kernel) ?_
      refine hs_st (ins := .iand) (len := 1) (p := 81) (by decide +kernel) rfl rfl ?_
      refine hs_br1 (c := .le) (t := 88) (f := 84) (by decide +kernel) (fun (c81_6 : ((x >>> ((Int32.ofNat (4 * 2)) &&& 31)) &&& (Int32.ofNat 15)) ≤ 0) => ?_) (fun (c81_6 : ¬ (((x >>> ((Int32.ofNat (4 * 2)) &&& 31)) &&& (Int32.ofNat 15)) ≤ 0)) => ?_)
      · refine hs_k (x := Int32.ofNat 0) (p := 89) (by decide +kernel) ?_
        refine hs_iaddn (p := 90) (by decide +kernel) ?_
        refine hf_ist (T := et_TT) (t := 14) (N := 5) (p := 91) (by decide +kernel) rfl rfl (by decide) hH k_fa (by omega) (by decide) (fun s hs => absurd hs List.not_mem_nil) (fun G90 hH x90 e90 => ?_)
        have hT := hT.xs lt_aw x90 (fun j h => hi_ne k_aw k_fa (by decide) h.1)
        have m1 := (x90.2 am 1 lt_am (fun h => (hi_ne k_am k_fa (by decide)) h.1)).trans m1
        have m14 := (x90.2 am 14 lt_am (fun h => (hi_ne k_am k_fa (by decide)) h.1)).trans m14
        have m15 := (x90.2 am 15 lt_am (fun h => (hi_ne k_am k_fa (by decide)) h.1)).trans m15
        have e9 := (x90.2 fa 0 lt_fa (fun h => absurd h.2 (by decide))).trans e9
        have e23 := (x90.2 fa 1 lt_fa (fun h => absurd h.2 (by decide))).trans e23
        have e37 := (x90.2 fa 2 lt_fa (fun h => absurd h.2 (by decide))).trans e37
        have e51 := (x90.2 fa 3 lt_fa (fun h => absurd h.2 (by decide))).trans e51
        have lt_am := Nat.lt_of_lt_of_le lt_am x90.1
        have lt_aw := Nat.lt_of_lt_of_le lt_aw x90.1
        have lt_fa := Nat.lt_of_lt_of_le lt_fa x90.1
        have lt_tg := Nat.lt_of_lt_of_le lt_tg x90.1
        refine hs_iinc1 (i := 3) (p := 94) (by decide +kernel) rfl (Nat.le_of_ble_eq_true rfl) ?_
        refine hs_goto (p := 61) (by decide +kernel) ?_
        show et_go none _ 213 61 [some (.ref am), some (.int (Int32.ofNat t)), some (.int x), some (.int (Int32.ofNat 3))] [] _ _ _ _
        refine hs_iload (i := 3) (p := 62) (by decide +kernel) rfl ?_
        refine hs_k (x := Int32.ofNat 4) (p := 63) (by decide +kernel) ?_
        refine hs_br2n (c := .ge) (t := 97) (f := 66) (by decide +kernel) (by omega) (by omega) (fun h => absurd h (show ¬ (4 ≤ 3) by decide)) (fun _ => ?_)
        refine hs_aload (i := 0) (p := 67) (by decide +kernel) rfl ?_
        refine hf_get (T := et_TT) (t := 13) (ci := 11) (f := 14) (p := 70) (by decide +kernel) rfl hH k_am m14 ?_
        refine hs_k (x := Int32.ofNat 4) (p := 71) (by decide +kernel) ?_
        refine hs_dup2 (p := 72) (by decide +kernel) ?_
        refine hf_ald (ins := .iaload) (T := et_TT) (t := 14) (kd := 0) (N := 5) (p := 73) (by decide +kernel) (fun _ _ _ _ _ _ _ _ _ _ => rfl) rfl rfl rfl hH k_fa (by decide) e90 ?_
        refine hs_iload (i := 2) (p := 74) (by decide +kernel) rfl ?_
        refine hs_k (x := Int32.ofNat 4) (p := 75) (by decide +kernel) ?_
        refine hs_iload (i := 3) (p := 76) (by decide +kernel) rfl ?_
        refine hs_imuln (p := 77) (by decide +kernel) ?_
        refine hs_st (ins := .ishr) (len := 1) (p := 78) (by decide +kernel) rfl rfl ?_
        refine hs_k (x := Int32.ofNat 15) (p := 80) (by decide +kernel) ?_
        refine hs_st (ins := .iand) (len := 1) (p := 81) (by decide +kernel) rfl rfl ?_
        refine hs_br1 (c := .le) (t := 88) (f := 84) (by decide +kernel) (fun (c81_7 : ((x >>> ((Int32.ofNat (4 * 3)) &&& 31)) &&& (Int32.ofNat 15)) ≤ 0) => ?_) (fun (c81_7 : ¬ (((x >>> ((Int32.ofNat (4 * 3)) &&& 31)) &&& (Int32.ofNat 15)) ≤ 0)) => ?_)
        · refine hs_k (x := Int32.ofNat 0) (p := 89) (by decide +kernel) ?_
          refine hs_iaddn (p := 90) (by decide +kernel) ?_
          refine hf_ist (T := et_TT) (t := 14) (N := 5) (p := 91) (by decide +kernel) rfl rfl (by decide) hH k_fa (by omega) (by decide) (fun s hs => absurd hs List.not_mem_nil) (fun G90 hH x90 e90 => ?_)
          have hT := hT.xs lt_aw x90 (fun j h => hi_ne k_aw k_fa (by decide) h.1)
          have m1 := (x90.2 am 1 lt_am (fun h => (hi_ne k_am k_fa (by decide)) h.1)).trans m1
          have m14 := (x90.2 am 14 lt_am (fun h => (hi_ne k_am k_fa (by decide)) h.1)).trans m14
          have m15 := (x90.2 am 15 lt_am (fun h => (hi_ne k_am k_fa (by decide)) h.1)).trans m15
          have e9 := (x90.2 fa 0 lt_fa (fun h => absurd h.2 (by decide))).trans e9
          have e23 := (x90.2 fa 1 lt_fa (fun h => absurd h.2 (by decide))).trans e23
          have e37 := (x90.2 fa 2 lt_fa (fun h => absurd h.2 (by decide))).trans e37
          have e51 := (x90.2 fa 3 lt_fa (fun h => absurd h.2 (by decide))).trans e51
          have lt_am := Nat.lt_of_lt_of_le lt_am x90.1
          have lt_aw := Nat.lt_of_lt_of_le lt_aw x90.1
          have lt_fa := Nat.lt_of_lt_of_le lt_fa x90.1
          have lt_tg := Nat.lt_of_lt_of_le lt_tg x90.1
          refine hs_iinc1 (i := 3) (p := 94) (by decide +kernel) rfl (Nat.le_of_ble_eq_true rfl) ?_
          refine hs_goto (p := 61) (by decide +kernel) ?_
          show et_go none _ 213 61 [some (.ref am), some (.int (Int32.ofNat t)), some (.int x), some (.int (Int32.ofNat 4))] [] _ _ _ _
          refine hs_iload (i := 3) (p := 62) (by decide +kernel) rfl ?_
          refine hs_k (x := Int32.ofNat 4) (p := 63) (by decide +kernel) ?_
          refine hs_br2n (c := .ge) (t := 97) (f := 66) (by decide +kernel) (by omega) (by omega) (fun _ => ?_) (fun h => absurd (show 4 ≤ 4 by decide) h)
          show et_go none _ 213 97 [some (.ref am), some (.int (Int32.ofNat t)), some (.int x), some (.int (Int32.ofNat 4))] [] _ _ _ _
          exact fm_ruledT (r := 1) hH k_am k_aw m1 hF ht hT k_fa k_tg m14 m15 e9 e23 e37 e51 e90 (by unfold rowI; rw [if_pos (row_le.mp c81_1), if_neg (fun h => c81_2 (row_le.mpr h)), if_pos (row_le.mp c81_6), if_pos (row_le.mp c81_7)])
        · refine hs_k (x := Int32.ofNat 1) (p := 85) (by decide +kernel) ?_
          refine hs_goto (p := 89) (by decide +kernel) ?_
          refine hs_iaddn (p := 90) (by decide +kernel) ?_
          refine hf_ist (T := et_TT) (t := 14) (N := 5) (p := 91) (by decide +kernel) rfl rfl (by decide) hH k_fa (by omega) (by decide) (fun s hs => absurd hs List.not_mem_nil) (fun G90 hH x90 e90 => ?_)
          have hT := hT.xs lt_aw x90 (fun j h => hi_ne k_aw k_fa (by decide) h.1)
          have m1 := (x90.2 am 1 lt_am (fun h => (hi_ne k_am k_fa (by decide)) h.1)).trans m1
          have m14 := (x90.2 am 14 lt_am (fun h => (hi_ne k_am k_fa (by decide)) h.1)).trans m14
          have m15 := (x90.2 am 15 lt_am (fun h => (hi_ne k_am k_fa (by decide)) h.1)).trans m15
          have e9 := (x90.2 fa 0 lt_fa (fun h => absurd h.2 (by decide))).trans e9
          have e23 := (x90.2 fa 1 lt_fa (fun h => absurd h.2 (by decide))).trans e23
          have e37 := (x90.2 fa 2 lt_fa (fun h => absurd h.2 (by decide))).trans e37
          have e51 := (x90.2 fa 3 lt_fa (fun h => absurd h.2 (by decide))).trans e51
          have lt_am := Nat.lt_of_lt_of_le lt_am x90.1
          have lt_aw := Nat.lt_of_lt_of_le lt_aw x90.1
          have lt_fa := Nat.lt_of_lt_of_le lt_fa x90.1
          have lt_tg := Nat.lt_of_lt_of_le lt_tg x90.1
          refine hs_iinc1 (i := 3) (p := 94) (by decide +kernel) rfl (Nat.le_of_ble_eq_true rfl) ?_
          refine hs_goto (p := 61) (by decide +kernel) ?_
          show et_go none _ 213 61 [some (.ref am), some (.int (Int32.ofNat t)), some (.int x), some (.int (Int32.ofNat 4))] [] _ _ _ _
          refine hs_iload (i := 3) (p := 62) (by decide +kernel) rfl ?_
          refine hs_k (x := Int32.ofNat 4) (p := 63) (by decide +kernel) ?_
          refine hs_br2n (c := .ge) (t := 97) (f := 66) (by decide +kernel) (by omega) (by omega) (fun _ => ?_) (fun h => absurd (show 4 ≤ 4 by decide) h)
          show et_go none _ 213 97 [some (.ref am), some (.int (Int32.ofNat t)), some (.int x), some (.int (Int32.ofNat 4))] [] _ _ _ _
          exact fm_ruledT (r := 2) hH k_am k_aw m1 hF ht hT k_fa k_tg m14 m15 e9 e23 e37 e51 e90 (by unfold rowI; rw [if_pos (row_le.mp c81_1), if_neg (fun h => c81_2 (row_le.mpr h)), if_pos (row_le.mp c81_6), if_neg (fun h => c81_7 (row_le.mpr h))])
      · refine hs_k (x := Int32.ofNat 1) (p := 85) (by decide +kernel) ?_
        refine hs_goto (p := 89) (by decide +kernel) ?_
        refine hs_iaddn (p := 90) (by decide +kernel) ?_
        refine hf_ist (T := et_TT) (t := 14) (N := 5) (p := 91) (by decide +kernel) rfl rfl (by decide) hH k_fa (by omega) (by decide) (fun s hs => absurd hs List.not_mem_nil) (fun G90 hH x90 e90 => ?_)
        have hT := hT.xs lt_aw x90 (fun j h => hi_ne k_aw k_fa (by decide) h.1)
        have m1 := (x90.2 am 1 lt_am (fun h => (hi_ne k_am k_fa (by decide)) h.1)).trans m1
        have m14 := (x90.2 am 14 lt_am (fun h => (hi_ne k_am k_fa (by decide)) h.1)).trans m14
        have m15 := (x90.2 am 15 lt_am (fun h => (hi_ne k_am k_fa (by decide)) h.1)).trans m15
        have e9 := (x90.2 fa 0 lt_fa (fun h => absurd h.2 (by decide))).trans e9
        have e23 := (x90.2 fa 1 lt_fa (fun h => absurd h.2 (by decide))).trans e23
        have e37 := (x90.2 fa 2 lt_fa (fun h => absurd h.2 (by decide))).trans e37
        have e51 := (x90.2 fa 3 lt_fa (fun h => absurd h.2 (by decide))).trans e51
        have lt_am := Nat.lt_of_lt_of_le lt_am x90.1
        have lt_aw := Nat.lt_of_lt_of_le lt_aw x90.1
        have lt_fa := Nat.lt_of_lt_of_le lt_fa x90.1
        have lt_tg := Nat.lt_of_lt_of_le lt_tg x90.1
        refine hs_iinc1 (i := 3) (p := 94) (by decide +kernel) rfl (Nat.le_of_ble_eq_true rfl) ?_
        refine hs_goto (p := 61) (by decide +kernel) ?_
        show et_go none _ 213 61 [some (.ref am), some (.int (Int32.ofNat t)), some (.int x), some (.int (Int32.ofNat 3))] [] _ _ _ _
        refine hs_iload (i := 3) (p := 62) (by decide +kernel) rfl ?_
        refine hs_k (x := Int32.ofNat 4) (p := 63) (by decide +kernel) ?_
        refine hs_br2n (c := .ge) (t := 97) (f := 66) (by decide +kernel) (by omega) (by omega) (fun h => absurd h (show ¬ (4 ≤ 3) by decide)) (fun _ => ?_)
        refine hs_aload (i := 0) (p := 67) (by decide +kernel) rfl ?_
        refine hf_get (T := et_TT) (t := 13) (ci := 11) (f := 14) (p := 70) (by decide +kernel) rfl hH k_am m14 ?_
        refine hs_k (x := Int32.ofNat 4) (p := 71) (by decide +kernel) ?_
        refine hs_dup2 (p := 72) (by decide +kernel) ?_
        refine hf_ald (ins := .iaload) (T := et_TT) (t := 14) (kd := 0) (N := 5) (p := 73) (by decide +kernel) (fun _ _ _ _ _ _ _ _ _ _ => rfl) rfl rfl rfl hH k_fa (by decide) e90 ?_
        refine hs_iload (i := 2) (p := 74) (by decide +kernel) rfl ?_
        refine hs_k (x := Int32.ofNat 4) (p := 75) (by decide +kernel) ?_
        refine hs_iload (i := 3) (p := 76) (by decide +kernel) rfl ?_
        refine hs_imuln (p := 77) (by decide +kernel) ?_
        refine hs_st (ins := .ishr) (len := 1) (p := 78) (by decide +kernel) rfl rfl ?_
        refine hs_k (x := Int32.ofNat 15) (p := 80) (by decide +kernel) ?_
        refine hs_st (ins := .iand) (len := 1) (p := 81) (by decide +kernel) rfl rfl ?_
        refine hs_br1 (c := .le) (t := 88) (f := 84) (by decide +kernel) (fun (c81_8 : ((x >>> ((Int32.ofNat (4 * 3)) &&& 31)) &&& (Int32.ofNat 15)) ≤ 0) => ?_) (fun (c81_8 : ¬ (((x >>> ((Int32.ofNat (4 * 3)) &&& 31)) &&& (Int32.ofNat 15)) ≤ 0)) => ?_)
        · refine hs_k (x := Int32.ofNat 0) (p := 89) (by decide +kernel) ?_
          refine hs_iaddn (p := 90) (by decide +kernel) ?_
          refine hf_ist (T := et_TT) (t := 14) (N := 5) (p := 91) (by decide +kernel) rfl rfl (by decide) hH k_fa (by omega) (by decide) (fun s hs => absurd hs List.not_mem_nil) (fun G90 hH x90 e90 => ?_)
          have hT := hT.xs lt_aw x90 (fun j h => hi_ne k_aw k_fa (by decide) h.1)
          have m1 := (x90.2 am 1 lt_am (fun h => (hi_ne k_am k_fa (by decide)) h.1)).trans m1
          have m14 := (x90.2 am 14 lt_am (fun h => (hi_ne k_am k_fa (by decide)) h.1)).trans m14
          have m15 := (x90.2 am 15 lt_am (fun h => (hi_ne k_am k_fa (by decide)) h.1)).trans m15
          have e9 := (x90.2 fa 0 lt_fa (fun h => absurd h.2 (by decide))).trans e9
          have e23 := (x90.2 fa 1 lt_fa (fun h => absurd h.2 (by decide))).trans e23
          have e37 := (x90.2 fa 2 lt_fa (fun h => absurd h.2 (by decide))).trans e37
          have e51 := (x90.2 fa 3 lt_fa (fun h => absurd h.2 (by decide))).trans e51
          have lt_am := Nat.lt_of_lt_of_le lt_am x90.1
          have lt_aw := Nat.lt_of_lt_of_le lt_aw x90.1
          have lt_fa := Nat.lt_of_lt_of_le lt_fa x90.1
          have lt_tg := Nat.lt_of_lt_of_le lt_tg x90.1
          refine hs_iinc1 (i := 3) (p := 94) (by decide +kernel) rfl (Nat.le_of_ble_eq_true rfl) ?_
          refine hs_goto (p := 61) (by decide +kernel) ?_
          show et_go none _ 213 61 [some (.ref am), some (.int (Int32.ofNat t)), some (.int x), some (.int (Int32.ofNat 4))] [] _ _ _ _
          refine hs_iload (i := 3) (p := 62) (by decide +kernel) rfl ?_
          refine hs_k (x := Int32.ofNat 4) (p := 63) (by decide +kernel) ?_
          refine hs_br2n (c := .ge) (t := 97) (f := 66) (by decide +kernel) (by omega) (by omega) (fun _ => ?_) (fun h => absurd (show 4 ≤ 4 by decide) h)
          show et_go none _ 213 97 [some (.ref am), some (.int (Int32.ofNat t)), some (.int x), some (.int (Int32.ofNat 4))] [] _ _ _ _
          exact fm_ruledT (r := 2) hH k_am k_aw m1 hF ht hT k_fa k_tg m14 m15 e9 e23 e37 e51 e90 (by unfold rowI; rw [if_pos (row_le.mp c81_1), if_neg (fun h => c81_2 (row_le.mpr h)), if_neg (fun h => c81_6 (row_le.mpr h)), if_pos (row_le.mp c81_8)])
        · refine hs_k (x := Int32.ofNat 1) (p := 85) (by decide +kernel) ?_
          refine hs_goto (p := 89) (by decide +kernel) ?_
          refine hs_iaddn (p := 90) (by decide +kernel) ?_
          refine hf_ist (T := et_TT) (t := 14) (N := 5) (p := 91) (by decide +kernel) rfl rfl (by decide) hH k_fa (by omega) (by decide) (fun s hs => absurd hs List.not_mem_nil) (fun G90 hH x90 e90 => ?_)
          have hT := hT.xs lt_aw x90 (fun j h => hi_ne k_aw k_fa (by decide) h.1)
          have m1 := (x90.2 am 1 lt_am (fun h => (hi_ne k_am k_fa (by decide)) h.1)).trans m1
          have m14 := (x90.2 am 14 lt_am (fun h => (hi_ne k_am k_fa (by decide)) h.1)).trans m14
          have m15 := (x90.2 am 15 lt_am (fun h => (hi_ne k_am k_fa (by decide)) h.1)).trans m15
          have e9 := (x90.2 fa 0 lt_fa (fun h => absurd h.2 (by decide))).trans e9
          have e23 := (x90.2 fa 1 lt_fa (fun h => absurd h.2 (by decide))).trans e23
          have e37 := (x90.2 fa 2 lt_fa (fun h => absurd h.2 (by decide))).trans e37
          have e51 := (x90.2 fa 3 lt_fa (fun h => absurd h.2 (by decide))).trans e51
          have lt_am := Nat.lt_of_lt_of_le lt_am x90.1
          have lt_aw := Nat.lt_of_lt_of_le lt_aw x90.1
          have lt_fa := Nat.lt_of_lt_of_le lt_fa x90.1
          have lt_tg := Nat.lt_of_lt_of_le lt_tg x90.1
          refine hs_iinc1 (i := 3) (p := 94) (by decide +kernel) rfl (Nat.le_of_ble_eq_true rfl) ?_
          refine hs_goto (p := 61) (by decide +kernel) ?_
          show et_go none _ 213 61 [some (.ref am), some (.int (Int32.ofNat t)), some (.int x), some (.int (Int32.ofNat 4))] [] _ _ _ _
          refine hs_iload (i := 3) (p := 62) (by decide +kernel) rfl ?_
          refine hs_k (x := Int32.ofNat 4) (p := 63) (by decide +kernel) ?_
          refine hs_br2n (c := .ge) (t := 97) (f := 66) (by decide +kernel) (by omega) (by omega) (fun _ => ?_) (fun h => absurd (show 4 ≤ 4 by decide) h)
          show et_go none _ 213 97 [some (.ref am), some (.int (Int32.ofNat t)), some (.int x), some (.int (Int32.ofNat 4))] [] _ _ _ _
          exact fm_ruledT (r := 3) hH k_am k_aw m1 hF ht hT k_fa k_tg m14 m15 e9 e23 e37 e51 e90 (by unfold rowI; rw [if_pos (row_le.mp c81_1), if_neg (fun h => c81_2 (row_le.mpr h)), if_neg (fun h => c81_6 (row_le.mpr h)), if_neg (fun h => c81_8 (row_le.mpr h))])
  · refine hs_k (x := Int32.ofNat 1) (p := 85) (by decide +kernel) ?_
    refine hs_goto (p := 89) (by decide +kernel) ?_
    refine hs_iaddn (p := 90) (by decide +kernel) ?_
    refine hf_ist (T := et_TT) (t := 14) (N := 5) (p := 91) (by decide +kernel) rfl rfl (by decide) hH k_fa (by omega) (by decide) (fun s hs => absurd hs List.not_mem_nil) (fun G90 hH x90 e90 => ?_)
    have hT := hT.xs lt_aw x90 (fun j h => hi_ne k_aw k_fa (by decide) h.1)
    have m1 := (x90.2 am 1 lt_am (fun h => (hi_ne k_am k_fa (by decide)) h.1)).trans m1
    have m14 := (x90.2 am 14 lt_am (fun h => (hi_ne k_am k_fa (by decide)) h.1)).trans m14
    have m15 := (x90.2 am 15 lt_am (fun h => (hi_ne k_am k_fa (by decide)) h.1)).trans m15
    have e9 := (x90.2 fa 0 lt_fa (fun h => absurd h.2 (by decide))).trans e9
    have e23 := (x90.2 fa 1 lt_fa (fun h => absurd h.2 (by decide))).trans e23
    have e37 := (x90.2 fa 2 lt_fa (fun h => absurd h.2 (by decide))).trans e37
    have e51 := (x90.2 fa 3 lt_fa (fun h => absurd h.2 (by decide))).trans e51
    have lt_am := Nat.lt_of_lt_of_le lt_am x90.1
    have lt_aw := Nat.lt_of_lt_of_le lt_aw x90.1
    have lt_fa := Nat.lt_of_lt_of_le lt_fa x90.1
    have lt_tg := Nat.lt_of_lt_of_le lt_tg x90.1
    refine hs_iinc1 (i := 3) (p := 94) (by decide +kernel) rfl (Nat.le_of_ble_eq_true rfl) ?_
    refine hs_goto (p := 61) (by decide +kernel) ?_
    show et_go none _ 213 61 [some (.ref am), some (.int (Int32.ofNat t)), some (.int x), some (.int (Int32.ofNat 1))] [] _ _ _ _
    refine hs_iload (i := 3) (p := 62) (by decide +kernel) rfl ?_
    refine hs_k (x := Int32.ofNat 4) (p := 63) (by decide +kernel) ?_
    refine hs_br2n (c := .ge) (t := 97) (f := 66) (by decide +kernel) (by omega) (by omega) (fun h => absurd h (show ¬ (4 ≤ 1) by decide)) (fun _ => ?_)
    refine hs_aload (i := 0) (p := 67) (by decide +kernel) rfl ?_
    refine hf_get (T := et_TT) (t := 13) (ci := 11) (f := 14) (p := 70) (by decide +kernel) rfl hH k_am m14 ?_
    refine hs_k (x := Int32.ofNat 4) (p := 71) (by decide +kernel) ?_
    refine hs_dup2 (p := 72) (by decide +kernel) ?_
    refine hf_ald (ins := .iaload) (T := et_TT) (t := 14) (kd := 0) (N := 5) (p := 73) (by decide +kernel) (fun _ _ _ _ _ _ _ _ _ _ => rfl) rfl rfl rfl hH k_fa (by decide) e90 ?_
    refine hs_iload (i := 2) (p := 74) (by decide +kernel) rfl ?_
    refine hs_k (x := Int32.ofNat 4) (p := 75) (by decide +kernel) ?_
    refine hs_iload (i := 3) (p := 76) (by decide +kernel) rfl ?_
    refine hs_imuln (p := 77) (by decide +kernel) ?_
    refine hs_st (ins := .ishr) (len := 1) (p := 78) (by decide +kernel) rfl rfl ?_
    refine hs_k (x := Int32.ofNat 15) (p := 80) (by decide +kernel) ?_
    refine hs_st (ins := .iand) (len := 1) (p := 81) (by decide +kernel) rfl rfl ?_
    refine hs_br1 (c := .le) (t := 88) (f := 84) (by decide +kernel) (fun (c81_9 : ((x >>> ((Int32.ofNat (4 * 1)) &&& 31)) &&& (Int32.ofNat 15)) ≤ 0) => ?_) (fun (c81_9 : ¬ (((x >>> ((Int32.ofNat (4 * 1)) &&& 31)) &&& (Int32.ofNat 15)) ≤ 0)) => ?_)
    · refine hs_k (x := Int32.ofNat 0) (p := 89) (by decide +kernel) ?_
      refine hs_iaddn (p := 90) (by decide +kernel) ?_
      refine hf_ist (T := et_TT) (t := 14) (N := 5) (p := 91) (by decide +kernel) rfl rfl (by decide) hH k_fa (by omega) (by decide) (fun s hs => absurd hs List.not_mem_nil) (fun G90 hH x90 e90 => ?_)
      have hT := hT.xs lt_aw x90 (fun j h => hi_ne k_aw k_fa (by decide) h.1)
      have m1 := (x90.2 am 1 lt_am (fun h => (hi_ne k_am k_fa (by decide)) h.1)).trans m1
      have m14 := (x90.2 am 14 lt_am (fun h => (hi_ne k_am k_fa (by decide)) h.1)).trans m14
      have m15 := (x90.2 am 15 lt_am (fun h => (hi_ne k_am k_fa (by decide)) h.1)).trans m15
      have e9 := (x90.2 fa 0 lt_fa (fun h => absurd h.2 (by decide))).trans e9
      have e23 := (x90.2 fa 1 lt_fa (fun h => absurd h.2 (by decide))).trans e23
      have e37 := (x90.2 fa 2 lt_fa (fun h => absurd h.2 (by decide))).trans e37
      have e51 := (x90.2 fa 3 lt_fa (fun h => absurd h.2 (by decide))).trans e51
      have lt_am := Nat.lt_of_lt_of_le lt_am x90.1
      have lt_aw := Nat.lt_of_lt_of_le lt_aw x90.1
      have lt_fa := Nat.lt_of_lt_of_le lt_fa x90.1
      have lt_tg := Nat.lt_of_lt_of_le lt_tg x90.1
      refine hs_iinc1 (i := 3) (p := 94) (by decide +kernel) rfl (Nat.le_of_ble_eq_true rfl) ?_
      refine hs_goto (p := 61) (by decide +kernel) ?_
      show et_go none _ 213 61 [some (.ref am), some (.int (Int32.ofNat t)), some (.int x), some (.int (Int32.ofNat 2))] [] _ _ _ _
      refine hs_iload (i := 3) (p := 62) (by decide +kernel) rfl ?_
      refine hs_k (x := Int32.ofNat 4) (p := 63) (by decide +kernel) ?_
      refine hs_br2n (c := .ge) (t := 97) (f := 66) (by decide +kernel) (by omega) (by omega) (fun h => absurd h (show ¬ (4 ≤ 2) by decide)) (fun _ => ?_)
      refine hs_aload (i := 0) (p := 67) (by decide +kernel) rfl ?_
      refine hf_get (T := et_TT) (t := 13) (ci := 11) (f := 14) (p := 70) (by decide +kernel) rfl hH k_am m14 ?_
      refine hs_k (x := Int32.ofNat 4) (p := 71) (by decide +kernel) ?_
      refine hs_dup2 (p := 72) (by decide +kernel) ?_
      refine hf_ald (ins := .iaload) (T := et_TT) (t := 14) (kd := 0) (N := 5) (p := 73) (by decide +kernel) (fun _ _ _ _ _ _ _ _ _ _ => rfl) rfl rfl rfl hH k_fa (by decide) e90 ?_
      refine hs_iload (i := 2) (p := 74) (by decide +kernel) rfl ?_
      refine hs_k (x := Int32.ofNat 4) (p := 75) (by decide +kernel) ?_
      refine hs_iload (i := 3) (p := 76) (by decide +kernel) rfl ?_
      refine hs_imuln (p := 77) (by decide +kernel) ?_
      refine hs_st (ins := .ishr) (len := 1) (p := 78) (by decide +kernel) rfl rfl ?_
      refine hs_k (x := Int32.ofNat 15) (p := 80) (by decide +kernel) ?_
      refine hs_st (ins := .iand) (len := 1) (p := 81) (by decide +kernel) rfl rfl ?_
      refine hs_br1 (c := .le) (t := 88) (f := 84) (by decide +kernel) (fun (c81_10 : ((x >>> ((Int32.ofNat (4 * 2)) &&& 31)) &&& (Int32.ofNat 15)) ≤ 0) => ?_) (fun (c81_10 : ¬ (((x >>> ((Int32.ofNat (4 * 2)) &&& 31)) &&& (Int32.ofNat 15)) ≤ 0)) => ?_)
      · refine hs_k (x := Int32.ofNat 0) (p := 89) (by decide +kernel) ?_
        refine hs_iaddn (p := 90) (by decide +kernel) ?_
        refine hf_ist (T := et_TT) (t := 14) (N := 5) (p := 91) (by decide +kernel) rfl rfl (by decide) hH k_fa (by omega) (by decide) (fun s hs => absurd hs List.not_mem_nil) (fun G90 hH x90 e90 => ?_)
        have hT := hT.xs lt_aw x90 (fun j h => hi_ne k_aw k_fa (by decide) h.1)
        have m1 := (x90.2 am 1 lt_am (fun h => (hi_ne k_am k_fa (by decide)) h.1)).trans m1
        have m14 := (x90.2 am 14 lt_am (fun h => (hi_ne k_am k_fa (by decide)) h.1)).trans m14
        have m15 := (x90.2 am 15 lt_am (fun h => (hi_ne k_am k_fa (by decide)) h.1)).trans m15
        have e9 := (x90.2 fa 0 lt_fa (fun h => absurd h.2 (by decide))).trans e9
        have e23 := (x90.2 fa 1 lt_fa (fun h => absurd h.2 (by decide))).trans e23
        have e37 := (x90.2 fa 2 lt_fa (fun h => absurd h.2 (by decide))).trans e37
        have e51 := (x90.2 fa 3 lt_fa (fun h => absurd h.2 (by decide))).trans e51
        have lt_am := Nat.lt_of_lt_of_le lt_am x90.1
        have lt_aw := Nat.lt_of_lt_of_le lt_aw x90.1
        have lt_fa := Nat.lt_of_lt_of_le lt_fa x90.1
        have lt_tg := Nat.lt_of_lt_of_le lt_tg x90.1
        refine hs_iinc1 (i := 3) (p := 94) (by decide +kernel) rfl (Nat.le_of_ble_eq_true rfl) ?_
        refine hs_goto (p := 61) (by decide +kernel) ?_
        show et_go none _ 213 61 [some (.ref am), some (.int (Int32.ofNat t)), some (.int x), some (.int (Int32.ofNat 3))] [] _ _ _ _
        refine hs_iload (i := 3) (p := 62) (by decide +kernel) rfl ?_
        refine hs_k (x := Int32.ofNat 4) (p := 63) (by decide +kernel) ?_
        refine hs_br2n (c := .ge) (t := 97) (f := 66) (by decide +kernel) (by omega) (by omega) (fun h => absurd h (show ¬ (4 ≤ 3) by decide)) (fun _ => ?_)
        refine hs_aload (i := 0) (p := 67) (by decide +kernel) rfl ?_
        refine hf_get (T := et_TT) (t := 13) (ci := 11) (f := 14) (p := 70) (by decide +kernel) rfl hH k_am m14 ?_
        refine hs_k (x := Int32.ofNat 4) (p := 71) (by decide +kernel) ?_
        refine hs_dup2 (p := 72) (by decide +kernel) ?_
        refine hf_ald (ins := .iaload) (T := et_TT) (t := 14) (kd := 0) (N := 5) (p := 73) (by decide +kernel) (fun _ _ _ _ _ _ _ _ _ _ => rfl) rfl rfl rfl hH k_fa (by decide) e90 ?_
        refine hs_iload (i := 2) (p := 74) (by decide +kernel) rfl ?_
        refine hs_k (x := Int32.ofNat 4) (p := 75) (by decide +kernel) ?_
        refine hs_iload (i := 3) (p := 76) (by decide +kernel) rfl ?_
        refine hs_imuln (p := 77) (by decide +kernel) ?_
        refine hs_st (ins := .ishr) (len := 1) (p := 78) (by decide +kernel) rfl rfl ?_
        refine hs_k (x := Int32.ofNat 15) (p := 80) (by decide +kernel) ?_
        refine hs_st (ins := .iand) (len := 1) (p := 81) (by decide +kernel) rfl rfl ?_
        refine hs_br1 (c := .le) (t := 88) (f := 84) (by decide +kernel) (fun (c81_11 : ((x >>> ((Int32.ofNat (4 * 3)) &&& 31)) &&& (Int32.ofNat 15)) ≤ 0) => ?_) (fun (c81_11 : ¬ (((x >>> ((Int32.ofNat (4 * 3)) &&& 31)) &&& (Int32.ofNat 15)) ≤ 0)) => ?_)
        · refine hs_k (x := Int32.ofNat 0) (p := 89) (by decide +kernel) ?_
          refine hs_iaddn (p := 90) (by decide +kernel) ?_
          refine hf_ist (T := et_TT) (t := 14) (N := 5) (p := 91) (by decide +kernel) rfl rfl (by decide) hH k_fa (by omega) (by decide) (fun s hs => absurd hs List.not_mem_nil) (fun G90 hH x90 e90 => ?_)
          have hT := hT.xs lt_aw x90 (fun j h => hi_ne k_aw k_fa (by decide) h.1)
          have m1 := (x90.2 am 1 lt_am (fun h => (hi_ne k_am k_fa (by decide)) h.1)).trans m1
          have m14 := (x90.2 am 14 lt_am (fun h => (hi_ne k_am k_fa (by decide)) h.1)).trans m14
          have m15 := (x90.2 am 15 lt_am (fun h => (hi_ne k_am k_fa (by decide)) h.1)).trans m15
          have e9 := (x90.2 fa 0 lt_fa (fun h => absurd h.2 (by decide))).trans e9
          have e23 := (x90.2 fa 1 lt_fa (fun h => absurd h.2 (by decide))).trans e23
          have e37 := (x90.2 fa 2 lt_fa (fun h => absurd h.2 (by decide))).trans e37
          have e51 := (x90.2 fa 3 lt_fa (fun h => absurd h.2 (by decide))).trans e51
          have lt_am := Nat.lt_of_lt_of_le lt_am x90.1
          have lt_aw := Nat.lt_of_lt_of_le lt_aw x90.1
          have lt_fa := Nat.lt_of_lt_of_le lt_fa x90.1
          have lt_tg := Nat.lt_of_lt_of_le lt_tg x90.1
          refine hs_iinc1 (i := 3) (p := 94) (by decide +kernel) rfl (Nat.le_of_ble_eq_true rfl) ?_
          refine hs_goto (p := 61) (by decide +kernel) ?_
          show et_go none _ 213 61 [some (.ref am), some (.int (Int32.ofNat t)), some (.int x), some (.int (Int32.ofNat 4))] [] _ _ _ _
          refine hs_iload (i := 3) (p := 62) (by decide +kernel) rfl ?_
          refine hs_k (x := Int32.ofNat 4) (p := 63) (by decide +kernel) ?_
          refine hs_br2n (c := .ge) (t := 97) (f := 66) (by decide +kernel) (by omega) (by omega) (fun _ => ?_) (fun h => absurd (show 4 ≤ 4 by decide) h)
          show et_go none _ 213 97 [some (.ref am), some (.int (Int32.ofNat t)), some (.int x), some (.int (Int32.ofNat 4))] [] _ _ _ _
          exact fm_ruledT (r := 1) hH k_am k_aw m1 hF ht hT k_fa k_tg m14 m15 e9 e23 e37 e51 e90 (by unfold rowI; rw [if_neg (fun h => c81_1 (row_le.mpr h)), if_pos (row_le.mp c81_9), if_pos (row_le.mp c81_10), if_pos (row_le.mp c81_11)])
        · refine hs_k (x := Int32.ofNat 1) (p := 85) (by decide +kernel) ?_
          refine hs_goto (p := 89) (by decide +kernel) ?_
          refine hs_iaddn (p := 90) (by decide +kernel) ?_
          refine hf_ist (T := et_TT) (t := 14) (N := 5) (p := 91) (by decide +kernel) rfl rfl (by decide) hH k_fa (by omega) (by decide) (fun s hs => absurd hs List.not_mem_nil) (fun G90 hH x90 e90 => ?_)
          have hT := hT.xs lt_aw x90 (fun j h => hi_ne k_aw k_fa (by decide) h.1)
          have m1 := (x90.2 am 1 lt_am (fun h => (hi_ne k_am k_fa (by decide)) h.1)).trans m1
          have m14 := (x90.2 am 14 lt_am (fun h => (hi_ne k_am k_fa (by decide)) h.1)).trans m14
          have m15 := (x90.2 am 15 lt_am (fun h => (hi_ne k_am k_fa (by decide)) h.1)).trans m15
          have e9 := (x90.2 fa 0 lt_fa (fun h => absurd h.2 (by decide))).trans e9
          have e23 := (x90.2 fa 1 lt_fa (fun h => absurd h.2 (by decide))).trans e23
          have e37 := (x90.2 fa 2 lt_fa (fun h => absurd h.2 (by decide))).trans e37
          have e51 := (x90.2 fa 3 lt_fa (fun h => absurd h.2 (by decide))).trans e51
          have lt_am := Nat.lt_of_lt_of_le lt_am x90.1
          have lt_aw := Nat.lt_of_lt_of_le lt_aw x90.1
          have lt_fa := Nat.lt_of_lt_of_le lt_fa x90.1
          have lt_tg := Nat.lt_of_lt_of_le lt_tg x90.1
          refine hs_iinc1 (i := 3) (p := 94) (by decide +kernel) rfl (Nat.le_of_ble_eq_true rfl) ?_
          refine hs_goto (p := 61) (by decide +kernel) ?_
          show et_go none _ 213 61 [some (.ref am), some (.int (Int32.ofNat t)), some (.int x), some (.int (Int32.ofNat 4))] [] _ _ _ _
          refine hs_iload (i := 3) (p := 62) (by decide +kernel) rfl ?_
          refine hs_k (x := Int32.ofNat 4) (p := 63) (by decide +kernel) ?_
          refine hs_br2n (c := .ge) (t := 97) (f := 66) (by decide +kernel) (by omega) (by omega) (fun _ => ?_) (fun h => absurd (show 4 ≤ 4 by decide) h)
          show et_go none _ 213 97 [some (.ref am), some (.int (Int32.ofNat t)), some (.int x), some (.int (Int32.ofNat 4))] [] _ _ _ _
          exact fm_ruledT (r := 2) hH k_am k_aw m1 hF ht hT k_fa k_tg m14 m15 e9 e23 e37 e51 e90 (by unfold rowI; rw [if_neg (fun h => c81_1 (row_le.mpr h)), if_pos (row_le.mp c81_9), if_pos (row_le.mp c81_10), if_neg (fun h => c81_11 (row_le.mpr h))])
      · refine hs_k (x := Int32.ofNat 1) (p := 85) (by decide +kernel) ?_
        refine hs_goto (p := 89) (by decide +kernel) ?_
        refine hs_iaddn (p := 90) (by decide +kernel) ?_
        refine hf_ist (T := et_TT) (t := 14) (N := 5) (p := 91) (by decide +kernel) rfl rfl (by decide) hH k_fa (by omega) (by decide) (fun s hs => absurd hs List.not_mem_nil) (fun G90 hH x90 e90 => ?_)
        have hT := hT.xs lt_aw x90 (fun j h => hi_ne k_aw k_fa (by decide) h.1)
        have m1 := (x90.2 am 1 lt_am (fun h => (hi_ne k_am k_fa (by decide)) h.1)).trans m1
        have m14 := (x90.2 am 14 lt_am (fun h => (hi_ne k_am k_fa (by decide)) h.1)).trans m14
        have m15 := (x90.2 am 15 lt_am (fun h => (hi_ne k_am k_fa (by decide)) h.1)).trans m15
        have e9 := (x90.2 fa 0 lt_fa (fun h => absurd h.2 (by decide))).trans e9
        have e23 := (x90.2 fa 1 lt_fa (fun h => absurd h.2 (by decide))).trans e23
        have e37 := (x90.2 fa 2 lt_fa (fun h => absurd h.2 (by decide))).trans e37
        have e51 := (x90.2 fa 3 lt_fa (fun h => absurd h.2 (by decide))).trans e51
        have lt_am := Nat.lt_of_lt_of_le lt_am x90.1
        have lt_aw := Nat.lt_of_lt_of_le lt_aw x90.1
        have lt_fa := Nat.lt_of_lt_of_le lt_fa x90.1
        have lt_tg := Nat.lt_of_lt_of_le lt_tg x90.1
        refine hs_iinc1 (i := 3) (p := 94) (by decide +kernel) rfl (Nat.le_of_ble_eq_true rfl) ?_
        refine hs_goto (p := 61) (by decide +kernel) ?_
        show et_go none _ 213 61 [some (.ref am), some (.int (Int32.ofNat t)), some (.int x), some (.int (Int32.ofNat 3))] [] _ _ _ _
        refine hs_iload (i := 3) (p := 62) (by decide +kernel) rfl ?_
        refine hs_k (x := Int32.ofNat 4) (p := 63) (by decide +kernel) ?_
        refine hs_br2n (c := .ge) (t := 97) (f := 66) (by decide +kernel) (by omega) (by omega) (fun h => absurd h (show ¬ (4 ≤ 3) by decide)) (fun _ => ?_)
        refine hs_aload (i := 0) (p := 67) (by decide +kernel) rfl ?_
        refine hf_get (T := et_TT) (t := 13) (ci := 11) (f := 14) (p := 70) (by decide +kernel) rfl hH k_am m14 ?_
        refine hs_k (x := Int32.ofNat 4) (p := 71) (by decide +kernel) ?_
        refine hs_dup2 (p := 72) (by decide +kernel) ?_
        refine hf_ald (ins := .iaload) (T := et_TT) (t := 14) (kd := 0) (N := 5) (p := 73) (by decide +kernel) (fun _ _ _ _ _ _ _ _ _ _ => rfl) rfl rfl rfl hH k_fa (by decide) e90 ?_
        refine hs_iload (i := 2) (p := 74) (by decide +kernel) rfl ?_
        refine hs_k (x := Int32.ofNat 4) (p := 75) (by decide +kernel) ?_
        refine hs_iload (i := 3) (p := 76) (by decide +kernel) rfl ?_
        refine hs_imuln (p := 77) (by decide +kernel) ?_
        refine hs_st (ins := .ishr) (len := 1) (p := 78) (by decide +kernel) rfl rfl ?_
        refine hs_k (x := Int32.ofNat 15) (p := 80) (by decide +kernel) ?_
        refine hs_st (ins := .iand) (len := 1) (p := 81) (by decide +kernel) rfl rfl ?_
        refine hs_br1 (c := .le) (t := 88) (f := 84) (by decide +kernel) (fun (c81_12 : ((x >>> ((Int32.ofNat (4 * 3)) &&& 31)) &&& (Int32.ofNat 15)) ≤ 0) => ?_) (fun (c81_12 : ¬ (((x >>> ((Int32.ofNat (4 * 3)) &&& 31)) &&& (Int32.ofNat 15)) ≤ 0)) => ?_)
        · refine hs_k (x := Int32.ofNat 0) (p := 89) (by decide +kernel) ?_
          refine hs_iaddn (p := 90) (by decide +kernel) ?_
          refine hf_ist (T := et_TT) (t := 14) (N := 5) (p := 91) (by decide +kernel) rfl rfl (by decide) hH k_fa (by omega) (by decide) (fun s hs => absurd hs List.not_mem_nil) (fun G90 hH x90 e90 => ?_)
          have hT := hT.xs lt_aw x90 (fun j h => hi_ne k_aw k_fa (by decide) h.1)
          have m1 := (x90.2 am 1 lt_am (fun h => (hi_ne k_am k_fa (by decide)) h.1)).trans m1
          have m14 := (x90.2 am 14 lt_am (fun h => (hi_ne k_am k_fa (by decide)) h.1)).trans m14
          have m15 := (x90.2 am 15 lt_am (fun h => (hi_ne k_am k_fa (by decide)) h.1)).trans m15
          have e9 := (x90.2 fa 0 lt_fa (fun h => absurd h.2 (by decide))).trans e9
          have e23 := (x90.2 fa 1 lt_fa (fun h => absurd h.2 (by decide))).trans e23
          have e37 := (x90.2 fa 2 lt_fa (fun h => absurd h.2 (by decide))).trans e37
          have e51 := (x90.2 fa 3 lt_fa (fun h => absurd h.2 (by decide))).trans e51
          have lt_am := Nat.lt_of_lt_of_le lt_am x90.1
          have lt_aw := Nat.lt_of_lt_of_le lt_aw x90.1
          have lt_fa := Nat.lt_of_lt_of_le lt_fa x90.1
          have lt_tg := Nat.lt_of_lt_of_le lt_tg x90.1
          refine hs_iinc1 (i := 3) (p := 94) (by decide +kernel) rfl (Nat.le_of_ble_eq_true rfl) ?_
          refine hs_goto (p := 61) (by decide +kernel) ?_
          show et_go none _ 213 61 [some (.ref am), some (.int (Int32.ofNat t)), some (.int x), some (.int (Int32.ofNat 4))] [] _ _ _ _
          refine hs_iload (i := 3) (p := 62) (by decide +kernel) rfl ?_
          refine hs_k (x := Int32.ofNat 4) (p := 63) (by decide +kernel) ?_
          refine hs_br2n (c := .ge) (t := 97) (f := 66) (by decide +kernel) (by omega) (by omega) (fun _ => ?_) (fun h => absurd (show 4 ≤ 4 by decide) h)
          show et_go none _ 213 97 [some (.ref am), some (.int (Int32.ofNat t)), some (.int x), some (.int (Int32.ofNat 4))] [] _ _ _ _
          exact fm_ruledT (r := 2) hH k_am k_aw m1 hF ht hT k_fa k_tg m14 m15 e9 e23 e37 e51 e90 (by unfold rowI; rw [if_neg (fun h => c81_1 (row_le.mpr h)), if_pos (row_le.mp c81_9), if_neg (fun h => c81_10 (row_le.mpr h)), if_pos (row_le.mp c81_12)])
        · refine hs_k (x := Int32.ofNat 1) (p := 85) (by decide +kernel) ?_
          refine hs_goto (p := 89) (by decide +kernel) ?_
          refine hs_iaddn (p := 90) (by decide +kernel) ?_
          refine hf_ist (T := et_TT) (t := 14) (N := 5) (p := 91) (by decide +kernel) rfl rfl (by decide) hH k_fa (by omega) (by decide) (fun s hs => absurd hs List.not_mem_nil) (fun G90 hH x90 e90 => ?_)
          have hT := hT.xs lt_aw x90 (fun j h => hi_ne k_aw k_fa (by decide) h.1)
          have m1 := (x90.2 am 1 lt_am (fun h => (hi_ne k_am k_fa (by decide)) h.1)).trans m1
          have m14 := (x90.2 am 14 lt_am (fun h => (hi_ne k_am k_fa (by decide)) h.1)).trans m14
          have m15 := (x90.2 am 15 lt_am (fun h => (hi_ne k_am k_fa (by decide)) h.1)).trans m15
          have e9 := (x90.2 fa 0 lt_fa (fun h => absurd h.2 (by decide))).trans e9
          have e23 := (x90.2 fa 1 lt_fa (fun h => absurd h.2 (by decide))).trans e23
          have e37 := (x90.2 fa 2 lt_fa (fun h => absurd h.2 (by decide))).trans e37
          have e51 := (x90.2 fa 3 lt_fa (fun h => absurd h.2 (by decide))).trans e51
          have lt_am := Nat.lt_of_lt_of_le lt_am x90.1
          have lt_aw := Nat.lt_of_lt_of_le lt_aw x90.1
          have lt_fa := Nat.lt_of_lt_of_le lt_fa x90.1
          have lt_tg := Nat.lt_of_lt_of_le lt_tg x90.1
          refine hs_iinc1 (i := 3) (p := 94) (by decide +kernel) rfl (Nat.le_of_ble_eq_true rfl) ?_
          refine hs_goto (p := 61) (by decide +kernel) ?_
          show et_go none _ 213 61 [some (.ref am), some (.int (Int32.ofNat t)), some (.int x), some (.int (Int32.ofNat 4))] [] _ _ _ _
          refine hs_iload (i := 3) (p := 62) (by decide +kernel) rfl ?_
          refine hs_k (x := Int32.ofNat 4) (p := 63) (by decide +kernel) ?_
          refine hs_br2n (c := .ge) (t := 97) (f := 66) (by decide +kernel) (by omega) (by omega) (fun _ => ?_) (fun h => absurd (show 4 ≤ 4 by decide) h)
          show et_go none _ 213 97 [some (.ref am), some (.int (Int32.ofNat t)), some (.int x), some (.int (Int32.ofNat 4))] [] _ _ _ _
          exact fm_ruledT (r := 3) hH k_am k_aw m1 hF ht hT k_fa k_tg m14 m15 e9 e23 e37 e51 e90 (by unfold rowI; rw [if_neg (fun h => c81_1 (row_le.mpr h)), if_pos (row_le.mp c81_9), if_neg (fun h => c81_10 (row_le.mpr h)), if_neg (fun h => c81_12 (row_le.mpr h))])
    · refine hs_k (x := Int32.ofNat 1) (p := 85) (by decide +kernel) ?_
      refine hs_goto (p := 89) (by decide +kernel) ?_
      refine hs_iaddn (p := 90) (by decide +kernel) ?_
      refine hf_ist (T := et_TT) (t := 14) (N := 5) (p := 91) (by decide +kernel) rfl rfl (by decide) hH k_fa (by omega) (by decide) (fun s hs => absurd hs List.not_mem_nil) (fun G90 hH x90 e90 => ?_)
      have hT := hT.xs lt_aw x90 (fun j h => hi_ne k_aw k_fa (by decide) h.1)
      have m1 := (x90.2 am 1 lt_am (fun h => (hi_ne k_am k_fa (by decide)) h.1)).trans m1
      have m14 := (x90.2 am 14 lt_am (fun h => (hi_ne k_am k_fa (by decide)) h.1)).trans m14
      have m15 := (x90.2 am 15 lt_am (fun h => (hi_ne k_am k_fa (by decide)) h.1)).trans m15
      have e9 := (x90.2 fa 0 lt_fa (fun h => absurd h.2 (by decide))).trans e9
      have e23 := (x90.2 fa 1 lt_fa (fun h => absurd h.2 (by decide))).trans e23
      have e37 := (x90.2 fa 2 lt_fa (fun h => absurd h.2 (by decide))).trans e37
      have e51 := (x90.2 fa 3 lt_fa (fun h => absurd h.2 (by decide))).trans e51
      have lt_am := Nat.lt_of_lt_of_le lt_am x90.1
      have lt_aw := Nat.lt_of_lt_of_le lt_aw x90.1
      have lt_fa := Nat.lt_of_lt_of_le lt_fa x90.1
      have lt_tg := Nat.lt_of_lt_of_le lt_tg x90.1
      refine hs_iinc1 (i := 3) (p := 94) (by decide +kernel) rfl (Nat.le_of_ble_eq_true rfl) ?_
      refine hs_goto (p := 61) (by decide +kernel) ?_
      show et_go none _ 213 61 [some (.ref am), some (.int (Int32.ofNat t)), some (.int x), some (.int (Int32.ofNat 2))] [] _ _ _ _
      refine hs_iload (i := 3) (p := 62) (by decide +kernel) rfl ?_
      refine hs_k (x := Int32.ofNat 4) (p := 63) (by decide +kernel) ?_
      refine hs_br2n (c := .ge) (t := 97) (f := 66) (by decide +kernel) (by omega) (by omega) (fun h => absurd h (show ¬ (4 ≤ 2) by decide)) (fun _ => ?_)
      refine hs_aload (i := 0) (p := 67) (by decide +kernel) rfl ?_
      refine hf_get (T := et_TT) (t := 13) (ci := 11) (f := 14) (p := 70) (by decide +kernel) rfl hH k_am m14 ?_
      refine hs_k (x := Int32.ofNat 4) (p := 71) (by decide +kernel) ?_
      refine hs_dup2 (p := 72) (by decide +kernel) ?_
      refine hf_ald (ins := .iaload) (T := et_TT) (t := 14) (kd := 0) (N := 5) (p := 73) (by decide +kernel) (fun _ _ _ _ _ _ _ _ _ _ => rfl) rfl rfl rfl hH k_fa (by decide) e90 ?_
      refine hs_iload (i := 2) (p := 74) (by decide +kernel) rfl ?_
      refine hs_k (x := Int32.ofNat 4) (p := 75) (by decide +kernel) ?_
      refine hs_iload (i := 3) (p := 76) (by decide +kernel) rfl ?_
      refine hs_imuln (p := 77) (by decide +kernel) ?_
      refine hs_st (ins := .ishr) (len := 1) (p := 78) (by decide +kernel) rfl rfl ?_
      refine hs_k (x := Int32.ofNat 15) (p := 80) (by decide +kernel) ?_
      refine hs_st (ins := .iand) (len := 1) (p := 81) (by decide +kernel) rfl rfl ?_
      refine hs_br1 (c := .le) (t := 88) (f := 84) (by decide +kernel) (fun (c81_13 : ((x >>> ((Int32.ofNat (4 * 2)) &&& 31)) &&& (Int32.ofNat 15)) ≤ 0) => ?_) (fun (c81_13 : ¬ (((x >>> ((Int32.ofNat (4 * 2)) &&& 31)) &&& (Int32.ofNat 15)) ≤ 0)) => ?_)
      · refine hs_k (x := Int32.ofNat 0) (p := 89) (by decide +kernel) ?_
        refine hs_iaddn (p := 90) (by decide +kernel) ?_
        refine hf_ist (T := et_TT) (t := 14) (N := 5) (p := 91) (by decide +kernel) rfl rfl (by decide) hH k_fa (by omega) (by decide) (fun s hs => absurd hs List.not_mem_nil) (fun G90 hH x90 e90 => ?_)
        have hT := hT.xs lt_aw x90 (fun j h => hi_ne k_aw k_fa (by decide) h.1)
        have m1 := (x90.2 am 1 lt_am (fun h => (hi_ne k_am k_fa (by decide)) h.1)).trans m1
        have m14 := (x90.2 am 14 lt_am (fun h => (hi_ne k_am k_fa (by decide)) h.1)).trans m14
        have m15 := (x90.2 am 15 lt_am (fun h => (hi_ne k_am k_fa (by decide)) h.1)).trans m15
        have e9 := (x90.2 fa 0 lt_fa (fun h => absurd h.2 (by decide))).trans e9
        have e23 := (x90.2 fa 1 lt_fa (fun h => absurd h.2 (by decide))).trans e23
        have e37 := (x90.2 fa 2 lt_fa (fun h => absurd h.2 (by decide))).trans e37
        have e51 := (x90.2 fa 3 lt_fa (fun h => absurd h.2 (by decide))).trans e51
        have lt_am := Nat.lt_of_lt_of_le lt_am x90.1
        have lt_aw := Nat.lt_of_lt_of_le lt_aw x90.1
        have lt_fa := Nat.lt_of_lt_of_le lt_fa x90.1
        have lt_tg := Nat.lt_of_lt_of_le lt_tg x90.1
        refine hs_iinc1 (i := 3) (p := 94) (by decide +kernel) rfl (Nat.le_of_ble_eq_true rfl) ?_
        refine hs_goto (p := 61) (by decide +kernel) ?_
        show et_go none _ 213 61 [some (.ref am), some (.int (Int32.ofNat t)), some (.int x), some (.int (Int32.ofNat 3))] [] _ _ _ _
        refine hs_iload (i := 3) (p := 62) (by decide +kernel) rfl ?_
        refine hs_k (x := Int32.ofNat 4) (p := 63) (by decide +kernel) ?_
        refine hs_br2n (c := .ge) (t := 97) (f := 66) (by decide +kernel) (by omega) (by omega) (fun h => absurd h (show ¬ (4 ≤ 3) by decide)) (fun _ => ?_)
        refine hs_aload (i := 0) (p := 67) (by decide +kernel) rfl ?_
        refine hf_get (T := et_TT) (t := 13) (ci := 11) (f := 14) (p := 70) (by decide +kernel) rfl hH k_am m14 ?_
        refine hs_k (x := Int32.ofNat 4) (p := 71) (by decide +kernel) ?_
        refine hs_dup2 (p := 72) (by decide +kernel) ?_
        refine hf_ald (ins := .iaload) (T := et_TT) (t := 14) (kd := 0) (N := 5) (p := 73) (by decide +kernel) (fun _ _ _ _ _ _ _ _ _ _ => rfl) rfl rfl rfl hH k_fa (by decide) e90 ?_
        refine hs_iload (i := 2) (p := 74) (by decide +kernel) rfl ?_
        refine hs_k (x := Int32.ofNat 4) (p := 75) (by decide +kernel) ?_
        refine hs_iload (i := 3) (p := 76) (by decide +kernel) rfl ?_
        refine hs_imuln (p := 77) (by decide +kernel) ?_
        refine hs_st (ins := .ishr) (len := 1) (p := 78) (by decide +kernel) rfl rfl ?_
        refine hs_k (x := Int32.ofNat 15) (p := 80) (by decide +kernel) ?_
        refine hs_st (ins := .iand) (len := 1) (p := 81) (by decide +kernel) rfl rfl ?_
        refine hs_br1 (c := .le) (t := 88) (f := 84) (by decide +kernel) (fun (c81_14 : ((x >>> ((Int32.ofNat (4 * 3)) &&& 31)) &&& (Int32.ofNat 15)) ≤ 0) => ?_) (fun (c81_14 : ¬ (((x >>> ((Int32.ofNat (4 * 3)) &&& 31)) &&& (Int32.ofNat 15)) ≤ 0)) => ?_)
        · refine hs_k (x := Int32.ofNat 0) (p := 89) (by decide +kernel) ?_
          refine hs_iaddn (p := 90) (by decide +kernel) ?_
          refine hf_ist (T := et_TT) (t := 14) (N := 5) (p := 91) (by decide +kernel) rfl rfl (by decide) hH k_fa (by omega) (by decide) (fun s hs => absurd hs List.not_mem_nil) (fun G90 hH x90 e90 => ?_)
          have hT := hT.xs lt_aw x90 (fun j h => hi_ne k_aw k_fa (by decide) h.1)
          have m1 := (x90.2 am 1 lt_am (fun h => (hi_ne k_am k_fa (by decide)) h.1)).trans m1
          have m14 := (x90.2 am 14 lt_am (fun h => (hi_ne k_am k_fa (by decide)) h.1)).trans m14
          have m15 := (x90.2 am 15 lt_am (fun h => (hi_ne k_am k_fa (by decide)) h.1)).trans m15
          have e9 := (x90.2 fa 0 lt_fa (fun h => absurd h.2 (by decide))).trans e9
          have e23 := (x90.2 fa 1 lt_fa (fun h => absurd h.2 (by decide))).trans e23
          have e37 := (x90.2 fa 2 lt_fa (fun h => absurd h.2 (by decide))).trans e37
          have e51 := (x90.2 fa 3 lt_fa (fun h => absurd h.2 (by decide))).trans e51
          have lt_am := Nat.lt_of_lt_of_le lt_am x90.1
          have lt_aw := Nat.lt_of_lt_of_le lt_aw x90.1
          have lt_fa := Nat.lt_of_lt_of_le lt_fa x90.1
          have lt_tg := Nat.lt_of_lt_of_le lt_tg x90.1
          refine hs_iinc1 (i := 3) (p := 94) (by decide +kernel) rfl (Nat.le_of_ble_eq_true rfl) ?_
          refine hs_goto (p := 61) (by decide +kernel) ?_
          show et_go none _ 213 61 [some (.ref am), some (.int (Int32.ofNat t)), some (.int x), some (.int (Int32.ofNat 4))] [] _ _ _ _
          refine hs_iload (i := 3) (p := 62) (by decide +kernel) rfl ?_
          refine hs_k (x := Int32.ofNat 4) (p := 63) (by decide +kernel) ?_
          refine hs_br2n (c := .ge) (t := 97) (f := 66) (by decide +kernel) (by omega) (by omega) (fun _ => ?_) (fun h => absurd (show 4 ≤ 4 by decide) h)
          show et_go none _ 213 97 [some (.ref am), some (.int (Int32.ofNat t)), some (.int x), some (.int (Int32.ofNat 4))] [] _ _ _ _
          exact fm_ruledT (r := 2) hH k_am k_aw m1 hF ht hT k_fa k_tg m14 m15 e9 e23 e37 e51 e90 (by unfold rowI; rw [if_neg (fun h => c81_1 (row_le.mpr h)), if_neg (fun h => c81_9 (row_le.mpr h)), if_pos (row_le.mp c81_13), if_pos (row_le.mp c81_14)])
        · refine hs_k (x := Int32.ofNat 1) (p := 85) (by decide +kernel) ?_
          refine hs_goto (p := 89) (by decide +kernel) ?_
          refine hs_iaddn (p := 90) (by decide +kernel) ?_
          refine hf_ist (T := et_TT) (t := 14) (N := 5) (p := 91) (by decide +kernel) rfl rfl (by decide) hH k_fa (by omega) (by decide) (fun s hs => absurd hs List.not_mem_nil) (fun G90 hH x90 e90 => ?_)
          have hT := hT.xs lt_aw x90 (fun j h => hi_ne k_aw k_fa (by decide) h.1)
          have m1 := (x90.2 am 1 lt_am (fun h => (hi_ne k_am k_fa (by decide)) h.1)).trans m1
          have m14 := (x90.2 am 14 lt_am (fun h => (hi_ne k_am k_fa (by decide)) h.1)).trans m14
          have m15 := (x90.2 am 15 lt_am (fun h => (hi_ne k_am k_fa (by decide)) h.1)).trans m15
          have e9 := (x90.2 fa 0 lt_fa (fun h => absurd h.2 (by decide))).trans e9
          have e23 := (x90.2 fa 1 lt_fa (fun h => absurd h.2 (by decide))).trans e23
          have e37 := (x90.2 fa 2 lt_fa (fun h => absurd h.2 (by decide))).trans e37
          have e51 := (x90.2 fa 3 lt_fa (fun h => absurd h.2 (by decide))).trans e51
          have lt_am := Nat.lt_of_lt_of_le lt_am x90.1
          have lt_aw := Nat.lt_of_lt_of_le lt_aw x90.1
          have lt_fa := Nat.lt_of_lt_of_le lt_fa x90.1
          have lt_tg := Nat.lt_of_lt_of_le lt_tg x90.1
          refine hs_iinc1 (i := 3) (p := 94) (by decide +kernel) rfl (Nat.le_of_ble_eq_true rfl) ?_
          refine hs_goto (p := 61) (by decide +kernel) ?_
          show et_go none _ 213 61 [some (.ref am), some (.int (Int32.ofNat t)), some (.int x), some (.int (Int32.ofNat 4))] [] _ _ _ _
          refine hs_iload (i := 3) (p := 62) (by decide +kernel) rfl ?_
          refine hs_k (x := Int32.ofNat 4) (p := 63) (by decide +kernel) ?_
          refine hs_br2n (c := .ge) (t := 97) (f := 66) (by decide +kernel) (by omega) (by omega) (fun _ => ?_) (fun h => absurd (show 4 ≤ 4 by decide) h)
          show et_go none _ 213 97 [some (.ref am), some (.int (Int32.ofNat t)), some (.int x), some (.int (Int32.ofNat 4))] [] _ _ _ _
          exact fm_ruledT (r := 3) hH k_am k_aw m1 hF ht hT k_fa k_tg m14 m15 e9 e23 e37 e51 e90 (by unfold rowI; rw [if_neg (fun h => c81_1 (row_le.mpr h)), if_neg (fun h => c81_9 (row_le.mpr h)), if_pos (row_le.mp c81_13), if_neg (fun h => c81_14 (row_le.mpr h))])
      · refine hs_k (x := Int32.ofNat 1) (p := 85) (by decide +kernel) ?_
        refine hs_goto (p := 89) (by decide +kernel) ?_
        refine hs_iaddn (p := 90) (by decide +kernel) ?_
        refine hf_ist (T := et_TT) (t := 14) (N := 5) (p := 91) (by decide +kernel) rfl rfl (by decide) hH k_fa (by omega) (by decide) (fun s hs => absurd hs List.not_mem_nil) (fun G90 hH x90 e90 => ?_)
        have hT := hT.xs lt_aw x90 (fun j h => hi_ne k_aw k_fa (by decide) h.1)
        have m1 := (x90.2 am 1 lt_am (fun h => (hi_ne k_am k_fa (by decide)) h.1)).trans m1
        have m14 := (x90.2 am 14 lt_am (fun h => (hi_ne k_am k_fa (by decide)) h.1)).trans m14
        have m15 := (x90.2 am 15 lt_am (fun h => (hi_ne k_am k_fa (by decide)) h.1)).trans m15
        have e9 := (x90.2 fa 0 lt_fa (fun h => absurd h.2 (by decide))).trans e9
        have e23 := (x90.2 fa 1 lt_fa (fun h => absurd h.2 (by decide))).trans e23
        have e37 := (x90.2 fa 2 lt_fa (fun h => absurd h.2 (by decide))).trans e37
        have e51 := (x90.2 fa 3 lt_fa (fun h => absurd h.2 (by decide))).trans e51
        have lt_am := Nat.lt_of_lt_of_le lt_am x90.1
        have lt_aw := Nat.lt_of_lt_of_le lt_aw x90.1
        have lt_fa := Nat.lt_of_lt_of_le lt_fa x90.1
        have lt_tg := Nat.lt_of_lt_of_le lt_tg x90.1
        refine hs_iinc1 (i := 3) (p := 94) (by decide +kernel) rfl (Nat.le_of_ble_eq_true rfl) ?_
        refine hs_goto (p := 61) (by decide +kernel) ?_
        show et_go none _ 213 61 [some (.ref am), some (.int (Int32.ofNat t)), some (.int x), some (.int (Int32.ofNat 3))] [] _ _ _ _
        refine hs_iload (i := 3) (p := 62) (by decide +kernel) rfl ?_
        refine hs_k (x := Int32.ofNat 4) (p := 63) (by decide +kernel) ?_
        refine hs_br2n (c := .ge) (t := 97) (f := 66) (by decide +kernel) (by omega) (by omega) (fun h => absurd h (show ¬ (4 ≤ 3) by decide)) (fun _ => ?_)
        refine hs_aload (i := 0) (p := 67) (by decide +kernel) rfl ?_
        refine hf_get (T := et_TT) (t := 13) (ci := 11) (f := 14) (p := 70) (by decide +kernel) rfl hH k_am m14 ?_
        refine hs_k (x := Int32.ofNat 4) (p := 71) (by decide +kernel) ?_
        refine hs_dup2 (p := 72) (by decide +kernel) ?_
        refine hf_ald (ins := .iaload) (T := et_TT) (t := 14) (kd := 0) (N := 5) (p := 73) (by decide +kernel) (fun _ _ _ _ _ _ _ _ _ _ => rfl) rfl rfl rfl hH k_fa (by decide) e90 ?_
        refine hs_iload (i := 2) (p := 74) (by decide +kernel) rfl ?_
        refine hs_k (x := Int32.ofNat 4) (p := 75) (by decide +kernel) ?_
        refine hs_iload (i := 3) (p := 76) (by decide +kernel) rfl ?_
        refine hs_imuln (p := 77) (by decide +kernel) ?_
        refine hs_st (ins := .ishr) (len := 1) (p := 78) (by decide +kernel) rfl rfl ?_
        refine hs_k (x := Int32.ofNat 15) (p := 80) (by decide +kernel) ?_
        refine hs_st (ins := .iand) (len := 1) (p := 81) (by decide +kernel) rfl rfl ?_
        refine hs_br1 (c := .le) (t := 88) (f := 84) (by decide +kernel) (fun (c81_15 : ((x >>> ((Int32.ofNat (4 * 3)) &&& 31)) &&& (Int32.ofNat 15)) ≤ 0) => ?_) (fun (c81_15 : ¬ (((x >>> ((Int32.ofNat (4 * 3)) &&& 31)) &&& (Int32.ofNat 15)) ≤ 0)) => ?_)
        · refine hs_k (x := Int32.ofNat 0) (p := 89) (by decide +kernel) ?_
          refine hs_iaddn (p := 90) (by decide +kernel) ?_
          refine hf_ist (T := et_TT) (t := 14) (N := 5) (p := 91) (by decide +kernel) rfl rfl (by decide) hH k_fa (by omega) (by decide) (fun s hs => absurd hs List.not_mem_nil) (fun G90 hH x90 e90 => ?_)
          have hT := hT.xs lt_aw x90 (fun j h => hi_ne k_aw k_fa (by decide) h.1)
          have m1 := (x90.2 am 1 lt_am (fun h => (hi_ne k_am k_fa (by decide)) h.1)).trans m1
          have m14 := (x90.2 am 14 lt_am (fun h => (hi_ne k_am k_fa (by decide)) h.1)).trans m14
          have m15 := (x90.2 am 15 lt_am (fun h => (hi_ne k_am k_fa (by decide)) h.1)).trans m15
          have e9 := (x90.2 fa 0 lt_fa (fun h => absurd h.2 (by decide))).trans e9
          have e23 := (x90.2 fa 1 lt_fa (fun h => absurd h.2 (by decide))).trans e23
          have e37 := (x90.2 fa 2 lt_fa (fun h => absurd h.2 (by decide))).trans e37
          have e51 := (x90.2 fa 3 lt_fa (fun h => absurd h.2 (by decide))).trans e51
          have lt_am := Nat.lt_of_lt_of_le lt_am x90.1
          have lt_aw := Nat.lt_of_lt_of_le lt_aw x90.1
          have lt_fa := Nat.lt_of_lt_of_le lt_fa x90.1
          have lt_tg := Nat.lt_of_lt_of_le lt_tg x90.1
          refine hs_iinc1 (i := 3) (p := 94) (by decide +kernel) rfl (Nat.le_of_ble_eq_true rfl) ?_
          refine hs_goto (p := 61) (by decide +kernel) ?_
          show et_go none _ 213 61 [some (.ref am), some (.int (Int32.ofNat t)), some (.int x), some (.int (Int32.ofNat 4))] [] _ _ _ _
          refine hs_iload (i := 3) (p := 62) (by decide +kernel) rfl ?_
          refine hs_k (x := Int32.ofNat 4) (p := 63) (by decide +kernel) ?_
          refine hs_br2n (c := .ge) (t := 97) (f := 66) (by decide +kernel) (by omega) (by omega) (fun _ => ?_) (fun h => absurd (show 4 ≤ 4 by decide) h)
          show et_go none _ 213 97 [some (.ref am), some (.int (Int32.ofNat t)), some (.int x), some (.int (Int32.ofNat 4))] [] _ _ _ _
          exact fm_ruledT (r := 3) hH k_am k_aw m1 hF ht hT k_fa k_tg m14 m15 e9 e23 e37 e51 e90 (by unfold rowI; rw [if_neg (fun h => c81_1 (row_le.mpr h)), if_neg (fun h => c81_9 (row_le.mpr h)), if_neg (fun h => c81_13 (row_le.mpr h)), if_pos (row_le.mp c81_15)])
        · refine hs_k (x := Int32.ofNat 1) (p := 85) (by decide +kernel) ?_
          refine hs_goto (p := 89) (by decide +kernel) ?_
          refine hs_iaddn (p := 90) (by decide +kernel) ?_
          refine hf_ist (T := et_TT) (t := 14) (N := 5) (p := 91) (by decide +kernel) rfl rfl (by decide) hH k_fa (by omega) (by decide) (fun s hs => absurd hs List.not_mem_nil) (fun G90 hH x90 e90 => ?_)
          have hT := hT.xs lt_aw x90 (fun j h => hi_ne k_aw k_fa (by decide) h.1)
          have m1 := (x90.2 am 1 lt_am (fun h => (hi_ne k_am k_fa (by decide)) h.1)).trans m1
          have m14 := (x90.2 am 14 lt_am (fun h => (hi_ne k_am k_fa (by decide)) h.1)).trans m14
          have m15 := (x90.2 am 15 lt_am (fun h => (hi_ne k_am k_fa (by decide)) h.1)).trans m15
          have e9 := (x90.2 fa 0 lt_fa (fun h => absurd h.2 (by decide))).trans e9
          have e23 := (x90.2 fa 1 lt_fa (fun h => absurd h.2 (by decide))).trans e23
          have e37 := (x90.2 fa 2 lt_fa (fun h => absurd h.2 (by decide))).trans e37
          have e51 := (x90.2 fa 3 lt_fa (fun h => absurd h.2 (by decide))).trans e51
          have lt_am := Nat.lt_of_lt_of_le lt_am x90.1
          have lt_aw := Nat.lt_of_lt_of_le lt_aw x90.1
          have lt_fa := Nat.lt_of_lt_of_le lt_fa x90.1
          have lt_tg := Nat.lt_of_lt_of_le lt_tg x90.1
          refine hs_iinc1 (i := 3) (p := 94) (by decide +kernel) rfl (Nat.le_of_ble_eq_true rfl) ?_
          refine hs_goto (p := 61) (by decide +kernel) ?_
          show et_go none _ 213 61 [some (.ref am), some (.int (Int32.ofNat t)), some (.int x), some (.int (Int32.ofNat 4))] [] _ _ _ _
          refine hs_iload (i := 3) (p := 62) (by decide +kernel) rfl ?_
          refine hs_k (x := Int32.ofNat 4) (p := 63) (by decide +kernel) ?_
          refine hs_br2n (c := .ge) (t := 97) (f := 66) (by decide +kernel) (by omega) (by omega) (fun _ => ?_) (fun h => absurd (show 4 ≤ 4 by decide) h)
          show et_go none _ 213 97 [some (.ref am), some (.int (Int32.ofNat t)), some (.int x), some (.int (Int32.ofNat 4))] [] _ _ _ _
          exact fm_ruledT (r := 4) hH k_am k_aw m1 hF ht hT k_fa k_tg m14 m15 e9 e23 e37 e51 e90 (by unfold rowI; rw [if_neg (fun h => c81_1 (row_le.mpr h)), if_neg (fun h => c81_9 (row_le.mpr h)), if_neg (fun h => c81_13 (row_le.mpr h)), if_neg (fun h => c81_15 (row_le.mpr h))])
end TIA
