section
/-! A TABLE: a bit for each card, 64 of them in a long -/
theorem sh_and {m : Nat} : (Int32.ofNat m &&& Int32.ofNat 63) = Int32.ofNat (m % 64) := by
  apply Int32.toBitVec_inj.mp
  show (BitVec.ofNat 32 m &&& BitVec.ofNat 32 63) = BitVec.ofNat 32 (m % 64)
  apply BitVec.eq_of_toNat_eq
  rw [BitVec.toNat_and, BitVec.toNat_ofNat, BitVec.toNat_ofNat, BitVec.toNat_ofNat]
  show m % 4294967296 &&& (2 ^ 6 - 1) = m % 64 % 4294967296
  rw [Nat.and_two_pow_sub_one_eq_mod]
  omega
theorem sh_div {m : Nat} (hm : m < 65536) : (Int32.ofNat m >>> (Int32.ofNat 6 &&& 31)) = Int32.ofNat (m / 64) := by
  apply Int32.toInt_inj.mp
  have e : (Int32.ofNat m >>> (Int32.ofNat 6 &&& 31)).toInt = (Int32.ofNat m).toInt >>> 6 := by
    show ((Int32.ofNat m).toBitVec.sshiftRight ((Int32.ofNat 6 &&& 31).toBitVec.smod 32).toNat).toInt = _
    rw [BitVec.toInt_sshiftRight]
    rfl
  rw [e, hs_nint (by omega), hs_nint (by omega), Int.shiftRight_eq_div_pow]
  show (m : Int) / 64 = ((m / 64 : Nat) : Int)
  omega
/-- the place of a card's bit -/
def shI (m : Nat) : Int64 := (Int32.ofNat m &&& Int32.ofNat 63).toInt64 &&& 63
theorem shI_all : ∀ k ∈ List.range 64, (((Int32.ofNat k).toInt64 &&& 63).toBitVec.smod 64).toNat = k := by decide +kernel
theorem shI_n {m : Nat} : ((shI m).toBitVec.smod 64).toNat = m % 64 := by
  unfold shI
  rw [sh_and]
  exact shI_all (m % 64) (List.mem_range.mpr (Nat.mod_lt _ (by decide)))
/-- a card's bit -/
def btL (x : Int64) (m : Nat) : Bool := decide (¬ (x >>> shI m) &&& Int64.ofNat 1 = Int64.ofNat 0)
theorem bit_and {b : BitVec 64} : (b &&& 1#64 = 0#64) ↔ b.getLsbD 0 = false := by
  rw [BitVec.and_one_eq_setWidth_ofBool_getLsbD]
  cases b.getLsbD 0 <;> decide
theorem btL_eq {x : Int64} {m : Nat} : btL x m = x.toBitVec.getLsbD (m % 64) := by
  have e1 : ((x >>> shI m) &&& Int64.ofNat 1 = Int64.ofNat 0) ↔ x.toBitVec.getLsbD (m % 64) = false := by
    rw [← Int64.toBitVec_inj]
    show ((x.toBitVec.sshiftRight ((shI m).toBitVec.smod 64).toNat) &&& 1#64 = 0#64) ↔ _
    rw [bit_and, shI_n, BitVec.getLsbD_sshiftRight]
    have h := Nat.mod_lt m (show 64 > 0 by decide)
    rw [show m % 64 + 0 = m % 64 from rfl, if_pos h]
    simp
  unfold btL
  cases hb : x.toBitVec.getLsbD (m % 64) with
  | false => exact decide_eq_false (fun h => h (e1.mpr hb))
  | true => exact decide_eq_true (fun h => by rw [e1.mp h] at hb; cases hb)
theorem btL_0 {m : Nat} : btL (Int64.ofNat 0) m = false := by
  rw [btL_eq]
  show (0#64).getLsbD (m % 64) = false
  exact BitVec.getLsbD_zero
/-- a card's bit is set: no other card's is -/
theorem btL_set {x : Int64} {m k : Nat} : btL (x ||| (Int64.ofNat 1 <<< shI m)) k = (btL x k || decide (k % 64 = m % 64)) := by
  rw [btL_eq, btL_eq]
  show (x.toBitVec ||| ((1#64) <<< ((shI m).toBitVec.smod 64))).getLsbD (k % 64) = _
  rw [BitVec.getLsbD_or, BitVec.shiftLeft_eq', shI_n, BitVec.getLsbD_shiftLeft, BitVec.getLsbD_one]
  have h := Nat.mod_lt k (show 64 > 0 by decide)
  have h2 := Nat.mod_lt m (show 64 > 0 by decide)
  congr 1
  by_cases e : k % 64 = m % 64
  · rw [e]
    simp [h2]
  · rw [decide_eq_false e]
    by_cases e2 : k % 64 < m % 64
    · simp [e2]
    · simp
      omega
end
section
/-! FUNCTIONAL: a RULE's tree stays; its table -/
/-- all nodes stay -/
def n6 (K : et_K) (G G' : eg_G) : Prop := ∀ a, K a = some 6 → ∀ i, et_pl (eg_at G' a) i = et_pl (eg_at G a) i
theorem n6.fr {K : et_K} {G G' : eg_G} {M : et_M} (hf : et_fr M K G G') (hk : no_t M 6 = true) : n6 K G G' := fun a ha i => hf.2 a 6 ha i (no_mm hk)
theorem n6.xs {S : Nat → Nat → Prop} {K : et_K} {G G' : eg_G} (hH : et_H et_TT K G) (hx : xf S G G') (hS : ∀ b j, S b j → ¬ K b = some 6) : n6 K G G' := fun a ha i => hx.2 a i (hH.2.2 _ _ ha).1 (fun h => hS _ _ h ha)
def r6 (K : et_K) (v : Value) : Prop := v = .null ∨ ∃ a, v = .ref a ∧ K a = some 6
theorem ch.k6 {K : et_K} {G : eg_G} (hH : et_H et_TT K G) : ∀ {cs : List Nat} {v : Value}, ch G v cs → r6 K v → ∀ c ∈ cs, K c = some 6
  | [], _, _, _, c, hc => absurd hc List.not_mem_nil
  | c0 :: cs, v, ⟨e, v', h1, h2⟩, hv, c, hc => by
    have k0 : K c0 = some 6 := by
      rcases hv with h | ⟨a, h, h3⟩
      · rw [e] at h
        cases h
      · rw [e] at h
        cases h
        exact h3
    rcases List.mem_cons.mp hc with rfl | hc
    · exact k0
    · exact h2.k6 hH ((hn_next hH k0 h1).elim .inl (fun ⟨a, q1, q2, _⟩ => .inr ⟨a, q1, q2⟩)) c hc
theorem sm.k6 {K : et_K} {G G' : eg_G} {lo hi : Nat} {v : Value} {f : sp_E → Int64} (hH : et_H et_TT K G) (hn : n6 K G G') (h : sm G lo hi v f) (hv : r6 K v) : sm G' lo hi v f := by
  obtain ⟨ps, h1, h2, h3⟩ := h
  have hk := h1.k6 hH hv
  have hk2 : ∀ p ∈ ps, K p.1 = some 6 := fun p hp => hk p.1 (List.mem_map.mpr ⟨p, hp, rfl⟩)
  exact ⟨ps, h1.fr (fun c hc => hn c (hk c hc) 1), fun p hp => ⟨(h2 p hp).1, (h2 p hp).2.1, (h2 p hp).2.2.fr (hn _ (hk2 p hp) 4) (hn _ (hk2 p hp) 5)⟩, h3⟩
/-- a tree stays where its nodes stay -/
theorem dn.k6 {K : et_K} {G G' : eg_G} (hH : et_H et_TT K G) (hn : n6 K G G') : ∀ {n lo hi b : Nat} {f : sp_E → Bool}, dn G n lo hi b f → K b = some 6 → dn G' n lo hi b f
  | 0, _, _, _, _, h, _ => h
  | n + 1, lo, hi, b, f, ⟨hb, h⟩, kb => by
    refine ⟨hb, ?_⟩
    rcases h with ⟨w, v, h1, h2, h3, h4, h5, h6⟩ | ⟨k, A, B, p, q, h1, h2, h3, h4, h5, h6, h7⟩ | ⟨k, cs, p, h1, h2, h3, h4, h5, h6, h7, h8⟩
    · exact .inl ⟨w, v, h1, h2, (hn b kb 0).trans h3, (hn b kb 4).trans h4, (hn b kb 5).trans h5, h6⟩
    · exact .inr (.inl ⟨k, A, B, p, q, h1, (hn b kb 0).trans h2, (hn b kb 2).trans h3, (hn b kb 3).trans h4, h5.k6 hH hn (hn_fld (.inl rfl) hH kb h3), h6.k6 hH hn (hn_fld (.inr rfl) hH kb h4), h7⟩)
    · have hk := h4.k6 hH (hn_fld (.inl rfl) hH kb h3)
      exact .inr (.inr ⟨k, cs, p, h1, (hn b kb 0).trans h2, (hn b kb 2).trans h3, h4.fr (fun c hc => hn c (hk c hc) 1), fun c hc => ⟨(h5 c hc).1, (h5 c hc).2.1, (h5 c hc).2.2.k6 hH hn (hk c.1 (List.mem_map.mpr ⟨c, hc, rfl⟩))⟩, h6, h7, h8⟩)
/-- the facts with a card's cells -/
def fup (F : Nat → Int32) (x : Int32) : Nat → Int32 := fun i => if i = 0 then x else F i
/-- what a text says on card m -/
def fsay (f : sp_E → Bool) (F : Nat → Int32) (m : Nat) : Bool := f (feE (fup F (Int32.ofNat m)))
/-- a text says the same whatever is known beside the card -/
def fcl (f : sp_E → Bool) : Prop := ∀ F F' : Nat → Int32, F 0 = F' 0 → f (feE F) = f (feE F')
theorem foR.put {K : et_K} {G G' : eg_G} {fo : Nat} {F : Nat → Int32} {x : Int32} (h : foR K G fo F) (hH : et_H et_TT K G) (hx : xf (fun b j => b = fo ∧ j = 0) G G') (hv : et_pl (eg_at G' fo) 0 = some (.int x)) : foR K G' fo (fup F x) := by
  refine ⟨h.1, fun i hi => ?_, h.2.2⟩
  unfold fup
  by_cases e : i = 0
  · rw [e, if_pos rfl]
    exact hv
  · rw [if_neg e]
    exact (hx.2 fo i (hH.2.2 _ _ h.1).1 (fun q => e q.2)).trans (h.2.1 i hi)
theorem foR.xs {S : Nat → Nat → Prop} {K K' : et_K} {G G' : eg_G} {fo : Nat} {F : Nat → Int32} (h : foR K G fo F) (hH : et_H et_TT K G) (hk : K' fo = some 4) (hx : xf S G G') (hS : ∀ j, ¬ S fo j) : foR K' G' fo F := ⟨hk, fun i hi => (hx.2 fo i (hH.2.2 _ _ h.1).1 (hS i)).trans (h.2.1 i hi), h.2.2⟩
/-- a table: null, or the bits of what its text says -/
def tbP (G : eg_G) (q : Nat) (f : sp_E → Bool) : Prop := et_pl (eg_at G q) 1 = some .null ∨ ∃ (tb : Nat) (b : Nat → Int64), et_pl (eg_at G q) 1 = some (.ref tb) ∧ (∀ i, i < 1024 → et_pl (eg_at G tb) i = some (.long (b i))) ∧ ∀ (m : Nat) (F : Nat → Int32), m < 65536 → F 0 = Int32.ofNat m → btL (b (m / 64)) m = f (feE F)
theorem tb_ty {K : et_K} {G : eg_G} {q tb : Nat} (hH : et_H et_TT K G) (k_q : K q = some 8) (h : et_pl (eg_at G q) 1 = some (.ref tb)) : K tb = some 28 := by
  obtain ⟨-, -, -, dd, hd, hcc, -⟩ := hH.2.2 q 8 k_q
  cases hd
  obtain ⟨fs, e1, el, ef⟩ := hcc
  obtain ⟨v, h1, h2⟩ := ef 1 _ rfl
  rw [e1] at h
  have h : fs[1]? = some (.ref tb) := h
  rw [h1] at h
  cases h
  rcases h2 with h2 | h2 | ⟨-, a, e2, h2⟩
  · exact absurd h2 (by decide)
  · cases h2.2
  · cases e2
    exact h2
theorem tbP.fr {K : et_K} {G G' : eg_G} {M : et_M} {q : Nat} {f : sp_E → Bool} (h : tbP G q f) (hH : et_H et_TT K G) (k_q : K q = some 8) (hf : et_fr M K G G') (h1 : et_mm M 8 1 = false) (h2 : no_t M 28 = true) : tbP G' q f := by
  rcases h with h | ⟨tb, b, h3, h4, h5⟩
  · exact .inl ((hf.2 q 8 k_q 1 h1).trans h)
  · exact .inr ⟨tb, b, (hf.2 q 8 k_q 1 h1).trans h3, fun i hi => (hf.2 tb 28 (tb_ty hH k_q h3) i (no_mm h2)).trans (h4 i hi), h5⟩
theorem tbP.xs {S : Nat → Nat → Prop} {K : et_K} {G G' : eg_G} {q : Nat} {f : sp_E → Bool} (h : tbP G q f) (hH : et_H et_TT K G) (k_q : K q = some 8) (hx : xf S G G') (h1 : ¬ S q 1) (h2 : ∀ b j, S b j → ¬ K b = some 28) : tbP G' q f := by
  rcases h with h | ⟨tb, b, h3, h4, h5⟩
  · exact .inl ((hx.2 q 1 (hH.2.2 _ _ k_q).1 h1).trans h)
  · have kt := tb_ty hH k_q h3
    exact .inr ⟨tb, b, (hx.2 q 1 (hH.2.2 _ _ k_q).1 h1).trans h3, fun i hi => (hx.2 tb i (hH.2.2 _ _ kt).1 (fun hs => h2 _ _ hs kt)).trans (h4 i hi), h5⟩
theorem h65 {m : Nat} (hm : m < 65536) : ¬ (65536 : Int32) ≤ Int32.ofNat m := fun h => by
  rw [Int32.le_iff_toInt_le, hs_nint (by omega)] at h
  have h2 : (65536 : Int32).toInt = 65536 := rfl
  omega
section TJA
variable {K : et_K} {G : eg_G} {d d2 q fo bb lo hi m : Nat} {f : sp_E → Bool} {F : Nat → Int32}
theorem fx_tells (hH : et_H et_TT K G) (k_q : K q = some 8) (q0 : et_pl (eg_at G q) 0 = some (.ref bb)) (k_bb : K bb = some 6) (hdn : dn G 15 lo hi bb f) (hT : tbP G q f) (hF : foR K G fo F) (hm : m < 65536) (hd : 19 ≤ d2) : et_go none d2 87 0 (eg_en (eg_mL 87) [.ref q, .int (Int32.ofNat m), .ref fo]) [] G 0 0 (xw_Z (fun b j => (b = fo ∧ j = 0)) K G (fun _ r => r = some (.int (Int32.ofNat (if f (feE (fup F (Int32.ofNat m))) = true then 1 else 0))))) := by
  obtain ⟨d, rfl⟩ : ∃ d, d2 = d + 19 := ⟨d2 - 19, by omega⟩
  have k_fo := hF.1
  rw [show eg_mL 87 = 3 from by decide +kernel]
  show et_go none (d + 19) 87 0 [some (.ref q), some (.int (Int32.ofNat m)), some (.ref fo)] [] G 0 0 (xw_Z _ _ _ _)
  rcases hT with hT | ⟨tb, b, q1, hb, hbit⟩
  · have lt_q := (hH.2.2 _ _ k_q).1
    have lt_fo := (hH.2.2 _ _ k_fo).1
    have lt_bb := (hH.2.2 _ _ k_bb).1
    have hX : xf (fun b j => (b = fo ∧ j = 0)) G G := xf.rf
    refine hs_aload (i := 0) (p := 1) (by decide +kernel) rfl ?_
    refine hf_get (T := et_TT) (t := 8) (ci := 6) (f := 1) (p := 4) (by decide +kernel) rfl hH k_q hT ?_
    refine hs_ifnull0 (p := 44) (by decide +kernel) ?_
    refine hs_aload (i := 2) (p := 45) (by decide +kernel) rfl ?_
    refine hs_iload (i := 1) (p := 46) (by decide +kernel) rfl ?_
    have hHo := hH
    refine hf_put (T := et_TT) (t := 4) (ci := 2) (f := 0) (p := 49) (ty := .int) (by decide +kernel) rfl rfl rfl rfl rfl hH k_fo hi_any (fun G46 hH x46 e46 => ?_)
    have q0 := (x46.2 q 0 lt_q (fun h => (hi_ne k_q k_fo (by decide)) h.1)).trans q0
    have hT := (x46.2 q 1 lt_q (fun h => (hi_ne k_q k_fo (by decide)) h.1)).trans hT
    have lt_q := Nat.lt_of_lt_of_le lt_q x46.1
    have lt_fo := Nat.lt_of_lt_of_le lt_fo x46.1
    have lt_bb := Nat.lt_of_lt_of_le lt_bb x46.1
    have hX := hX.tr x46 (fun b j hb h => by first | omega | (dsimp only at h ⊢; omega) | (dsimp only at h; omega) | (dsimp only; omega))
    have hF := hF.put hHo x46 e46
    have hdn := hdn.k6 hHo (n6.xs hHo x46 (fun b j h => by rw [h.1, k_fo]; decide)) k_bb
    refine hs_aload (i := 0) (p := 50) (by decide +kernel) rfl ?_
    refine hf_get (T := et_TT) (t := 8) (ci := 6) (f := 0) (p := 53) (by decide +kernel) rfl hH k_q q0 ?_
    refine hs_aload (i := 2) (p := 54) (by decide +kernel) rfl ?_
    refine hs_k (x := Int32.ofNat 0) (p := 55) (by decide +kernel) ?_
    refine ht_callv (T := et_TT) (t := 6) (mi := 60) (na := 2) (ci := 4) (lk := 3) (lm := 4) (L0 := eg_en (eg_mL 60) [.ref bb, .ref fo, .int (Int32.ofNat 0)]) (by decide +kernel) rfl hH k_bb rfl rfl rfl rfl rfl (by rw [show eg_mL 60 = 4 from by decide +kernel]; first | done | rfl) ?_
    refine (fx_true hH hF 15 hdn k_bb (by omega) (by omega)).mono (fun u hu => xp_cb hu ?_)
    show et_go none _ 87 58 _ [.int (Int32.ofNat (if f (feE (fup F (Int32.ofNat m))) = true then 1 else 0))] _ _ _ _
    refine hs_zret (by decide +kernel) (by split; exact .inr rfl; exact .inl rfl) ?_
    exact ⟨_, _, rfl, hH, hX, rfl⟩
  · have k_tb := tb_ty hH k_q q1
    have lt_q := (hH.2.2 _ _ k_q).1
    have lt_fo := (hH.2.2 _ _ k_fo).1
    have lt_bb := (hH.2.2 _ _ k_bb).1
    have lt_tb := (hH.2.2 _ _ k_tb).1
    have hX : xf (fun b j => (b = fo ∧ j = 0)) G G := xf.rf
    refine hs_aload (i := 0) (p := 1) (by decide +kernel) rfl ?_
    refine hf_get (T := et_TT) (t := 8) (ci := 6) (f := 1) (p := 4) (by decide +kernel) rfl hH k_q q1 ?_
    refine hs_ifnull1 (p := 7) (by decide +kernel) ?_
    refine hs_iload (i := 1) (p := 8) (by decide +kernel) rfl ?_
    refine hs_if0 (c := .lt) (t := 44) (f := 11) (by decide +kernel) (rs_nn (by omega)) ?_
    refine hs_iload (i := 1) (p := 12) (by decide +kernel) rfl ?_
    refine hs_kld (v := .int 65536) (p := 14) (by decide +kernel) ?_
    refine hs_br2 (c := .ge) (t := 44) (f := 17) (by decide +kernel) (fun (c14 : 65536 ≤ Int32.ofNat m) => ?_) (fun (c14 : ¬ (65536 ≤ Int32.ofNat m)) => ?_)
    · exact absurd c14 (h65 hm)
    · refine hs_aload (i := 0) (p := 18) (by decide +kernel) rfl ?_
      refine hf_get (T := et_TT) (t := 8) (ci := 6) (f := 1) (p := 21) (by decide +kernel) rfl hH k_q q1 ?_
      refine hs_iload (i := 1) (p := 22) (by decide +kernel) rfl ?_
      refine hs_k (x := Int32.ofNat 6) (p := 24) (by decide +kernel) ?_
      refine hs_st (ins := .ishr) (len := 1) (p := 25) (by decide +kernel) rfl rfl ?_
      dsimp only
      rw [sh_div hm]
      refine hf_ald (ins := .laload) (T := et_TT) (t := 28) (kd := 2) (N := 1024) (p := 26) (by decide +kernel) (fun _ _ _ _ _ _ _ _ _ _ => rfl) rfl rfl rfl hH k_tb (by decide) (hb _ (by omega)) ?_
      refine hs_iload (i := 1) (p := 27) (by decide +kernel) rfl ?_
      refine hs_k (x := Int32.ofNat 63) (p := 29) (by decide +kernel) ?_
      refine hs_st (ins := .iand) (len := 1) (p := 30) (by decide +kernel) rfl rfl ?_
      refine hs_st (ins := .lshr) (len := 1) (p := 31) (by decide +kernel) rfl rfl ?_
      refine hs_lcon (x := Int64.ofNat 1) (p := 32) (by decide +kernel) ?_
      refine hs_st (ins := .land) (len := 1) (p := 33) (by decide +kernel) rfl rfl ?_
      refine hs_lcon (x := Int64.ofNat 0) (p := 34) (by decide +kernel) ?_
      refine hs_lcmp (p := 35) (by decide +kernel) ?_
      refine hs_br1 (c := .eq) (t := 42) (f := 38) (by decide +kernel) (fun (c35 : (lg_cmp (((b (m / 64)) >>> (((Int32.ofNat m) &&& (Int32.ofNat 63)).toInt64 &&& 63)) &&& (Int64.ofNat 1)) (Int64.ofNat 0)) = 0) => ?_) (fun (c35 : ¬ ((lg_cmp (((b (m / 64)) >>> (((Int32.ofNat m) &&& (Int32.ofNat 63)).toInt64 &&& 63)) &&& (Int64.ofNat 1)) (Int64.ofNat 0)) = 0)) => ?_)
      · refine hs_k (x := Int32.ofNat 0) (p := 43) (by decide +kernel) ?_
        refine hs_zret (by decide +kernel) (.inl rfl) ?_
        have h9 : btL (b (m / 64)) m = false := by unfold btL shI; exact decide_eq_false (fun h => h (lgc_eq.mp c35))
        rw [hbit m (fup F (Int32.ofNat m)) hm rfl] at h9
        exact ⟨_, _, rfl, hH, hX, by rw [if_neg (by rw [h9]; decide)]⟩
      · refine hs_k (x := Int32.ofNat 1) (p := 39) (by decide +kernel) ?_
        refine hs_goto (p := 43) (by decide +kernel) ?_
        refine hs_zret (by decide +kernel) (.inr rfl) ?_
        have h9 : btL (b (m / 64)) m = true := by unfold btL shI; exact decide_eq_true (fun h => c35 (lgc_eq.mpr h))
        rw [hbit m (fup F (Int32.ofNat m)) hm rfl] at h9
        exact ⟨_, _, rfl, hH, hX, by rw [if_pos h9]⟩
end TJA
end
section
/-! FUNCTIONAL: makeReady -/
section TLZ
variable {K K' : et_K} {d k pc ck sk : Nat} {L : eg_Ls} {st r : List Value} {G G' : eg_G} {Z : eg_O → Prop} {a b t p ci n m : Nat} {fs : List Value}
theorem ht_nbz {kd : Nat} {ss : List (Nat × Nat × et_P)} (hc : hs_na k pc = some (kd, p)) (hT : et_TT[t]? = some (.inr (kd, n, ss))) (hs : (Nat.ble 2 t && ss.all (fun s => et_df0 s.2.2 (et_dv0 kd))) = true) (hn : (Int32.ofNat n).toNatClampNeg = n ∧ 0 ≤ (Int32.ofNat n).toInt ∧ (Int32.ofNat n).toInt ≤ 65536) (h1 : ck + 1 ≤ 600002) (h2 : sk + n ≤ 7302232) (hH : et_H et_TT K G) (h : ∀ (K' : et_K) (G' : eg_G) (b : Nat), pk K G K' G' → et_H et_TT K' G' → K' b = some t → G.2 ≤ b → (kd = 0 → eg_at G' b = .inl (0, (n, .inl (fun _ => 0)))) → (∀ i, i < n → et_pl (eg_at G' b) i = some (et_dv0 kd)) → et_go none d k p L (.ref b :: r) G' (ck + 1) (sk + n) Z) : et_go none d k pc L (.int (Int32.ofNat n) :: r) G ck sk Z := by
  rw [Bool.and_eq_true] at hs
  have ht := Nat.le_of_ble_eq_true hs.1
  have hnf : et_nf (et_dv0 kd) = true := by
    unfold et_dv0
    split
    · rfl
    · split <;> rfl
  have key : ∀ (x : vp_A), x.1 = n → (∀ i, eg_rd kd x i = some (et_dv0 kd)) → (kd = 0 → x.2 = .inl (fun _ => 0)) → et_go none d k p L (.ref G.2 :: r) (eg_p G (.inl (kd, x))) (ck + 1) (sk + n) Z := fun x e1 e2 e3 => by
    have h3 := et_H1 (M := []) (c := .inl (kd, x)) hH ht hT ⟨x, rfl, e1, fun i _ => ⟨_, e2 i⟩, fun s hm i _ _ _ => ⟨_, e2 i, et_df0_ok hnf (List.all_eq_true.mp hs.2 s hm) hH.2.1⟩⟩ (fun h0 _ m W e => by
      have e4 := e3 h0
      have e : (Sum.inl (kd, x) : eg_C) = .inl (0, (m, .inl W)) := e
      have e5 : x = (m, .inl W) := by
        injection e with e
        injection e
      rw [e5] at e4
      have e4 : (Sum.inl W : (Nat → Int32) ⊕ _) = .inl (fun _ => 0) := e4
      injection e4 with e4
      rw [e4]
      exact gq_zero)
    exact h _ _ G.2 ⟨Nat.lt_succ_self _, fun a ha => ⟨if_neg (Nat.ne_of_lt ha), et_at_p ha⟩⟩ h3.2.2 (if_pos rfl) (Nat.le_refl _) (fun h0 => by
      rw [et_at_ps hH.1]
      obtain ⟨x1, x2⟩ := x
      have e1 : x1 = n := e1
      have e4 : x2 = .inl (fun _ => 0) := e3 h0
      rw [e1, e4, h0]) (fun i hi => by
      rw [et_at_ps hH.1]
      show (if i < x.1 then eg_rd kd x i else none) = _
      rw [if_pos (by rw [e1]; exact hi)]
      exact e2 i)
  have h12 : ck + 1 ≤ eg_MC ∧ sk + n ≤ eg_MS := ⟨h1, h2⟩
  unfold hs_na at hc
  split at hc
  · rename_i t e
    split at hc
    · rename_i kd' f hna
      cases hc
      refine hs_st e rfl ?_ (key (f n) ?_ ?_ ?_)
      · dsimp only [eg_st]
        rw [hna]
        dsimp only
        rw [if_pos hn.2, hn.1]
        unfold eg_al
        rw [if_pos h12]
      · unfold eg_na at hna
        split at hna <;> cases hna <;> rfl
      · intro i
        unfold eg_na at hna
        split at hna <;> cases hna <;> rfl
      · intro h0
        unfold eg_na at hna
        split at hna <;> cases hna <;> first | rfl | (exact absurd h0 (by decide))
    · cases hc
  · rename_i i e
    split at hc
    · rename_i cj hcj
      split at hc
      · rename_i h0
        cases hc
        refine hs_st e rfl ?_ (key (n, .inr (.inr (.inr (.inr (fun _ => none))))) rfl (fun i => ?_) (fun h9 => absurd h0.1 (by omega)))
        · dsimp only [eg_st]
          rw [hcj]
          dsimp only
          rw [if_pos ⟨hn.2.1, hn.2.2, h0⟩, hn.1]
          unfold eg_al
          rw [if_pos h12]
        · unfold eg_rd et_dv0
          dsimp only
          rw [if_pos h0.1, if_neg (by omega), if_pos h0.1]
          rfl
      · cases hc
    · cases hc
  · cases hc
end TLZ
theorem pk_ex {K K' : et_K} {G G' : eg_G} (h : pk K G K' G') (hH : et_H et_TT K G) : et_ex K K' := fun _ _ hb => h.ty hH hb
theorem pk_xf {K K' : et_K} {G G' : eg_G} (h : pk K G K' G') : xf (fun _ _ => False) G G' := ⟨Nat.le_of_lt h.1, fun a i ha _ => by rw [(h.2 a ha).2]⟩
theorem fup_fup {F : Nat → Int32} {x y : Int32} : fup (fup F x) y = fup F y := by
  funext i
  unfold fup
  by_cases h : i = 0
  · rw [if_pos h, if_pos h]
  · rw [if_neg h, if_neg h, if_neg h]
theorem fup_0 {F : Nat → Int32} : fup F (F 0) = F := by
  funext i
  unfold fup
  by_cases h : i = 0
  · rw [if_pos h, h]
  · rw [if_neg h]
theorem bt_true {b : Nat → Int64} {g : Nat → Bool} {m : Nat} (hi : ∀ k, k < 65536 → btL (b (k / 64)) k = (decide (k < m) && g k)) (hg : g m = true) : ∀ k, k < 65536 → btL (if k / 64 = m / 64 then b (m / 64) ||| (Int64.ofNat 1 <<< shI m) else b (k / 64)) k = (decide (k < m + 1) && g k) := fun k hk => by
  by_cases e : k / 64 = m / 64
  · rw [if_pos e, btL_set, ← e, hi k hk]
    by_cases e2 : k % 64 = m % 64
    · have e3 : k = m := by omega
      subst e3
      rw [hg, decide_eq_true (show k % 64 = k % 64 from rfl), decide_eq_true (show k < k + 1 from Nat.lt_succ_self k), Bool.or_true, Bool.and_true]
    · rw [decide_eq_false e2, Bool.or_false, decide_eq_decide.mpr (show k < m ↔ k < m + 1 by omega)]
  · rw [if_neg e, hi k hk, decide_eq_decide.mpr (show k < m ↔ k < m + 1 by omega)]
theorem bt_false {b : Nat → Int64} {g : Nat → Bool} {m : Nat} (hi : ∀ k, k < 65536 → btL (b (k / 64)) k = (decide (k < m) && g k)) (hg : g m = false) : ∀ k, k < 65536 → btL (b (k / 64)) k = (decide (k < m + 1) && g k) := fun k hk => by
  rw [hi k hk]
  by_cases e : k = m
  · subst e
    rw [hg, Bool.and_false, Bool.and_false]
  · rw [decide_eq_decide.mpr (show k < m ↔ k < m + 1 by omega)]
def rlZ (K : et_K) (G : eg_G) (q fo tb c s : Nat) (g : Nat → Bool) (u : eg_O) : Prop := ∃ G' : eg_G, u = (.inl none, G', c, s) ∧ et_H et_TT K G' ∧ xf (fun a j => (a = fo ∧ j = 0) ∨ (a = tb ∨ (a = q ∧ j = 1))) G G' ∧ et_pl (eg_at G' q) 1 = some (.ref tb) ∧ ∃ b : Nat → Int64, (∀ i, i < 1024 → et_pl (eg_at G' tb) i = some (.long (b i))) ∧ ∀ k, k < 65536 → btL (b (k / 64)) k = g k
theorem rlZ.tr {K : et_K} {G G1 : eg_G} {q fo tb c s : Nat} {g : Nat → Bool} {u : eg_O} (hx : xf (fun a j => (a = fo ∧ j = 0) ∨ (a = tb ∨ (a = q ∧ j = 1))) G G1) (h : rlZ K G1 q fo tb c s g u) : rlZ K G q fo tb c s g u := by
  obtain ⟨G', h1, h2, h3, h4⟩ := h
  exact ⟨G', h1, h2, hx.tr h3 (fun _ _ _ h => h), h4⟩
section TLA
variable {d d2 q fo tb bb lo hi ck sk : Nat} {f : sp_E → Bool} {F : Nat → Int32}
theorem fn_ready {K : et_K} {G : eg_G} {m : Nat} {b : Nat → Int64} {x0 : Int32} (hH : et_H et_TT K G) (k_q : K q = some 8) (q0 : et_pl (eg_at G q) 0 = some (.ref bb)) (k_bb : K bb = some 6) (hdn : dn G 15 lo hi bb f) (hF : foR K G fo (fup F x0)) (k_tb : K tb = some 28) (hb : ∀ i, i < 1024 → et_pl (eg_at G tb) i = some (.long (b i))) (hbi : ∀ k, k < 65536 → btL (b (k / 64)) k = (decide (k < m) && fsay f F k)) (hm : m ≤ 65536) : et_go none (d + 19) 86 16 [some (.ref q), some (.ref fo), some (.ref tb), some (.int (Int32.ofNat m))] [] G ck sk (rlZ K G q fo tb ck sk (fsay f F)) := by
  induction hz : 65536 - m using Nat.strongRecOn generalizing m b x0 G with
  | _ z ih =>
    have k_fo := hF.1
    have hX0 : xf (fun a j => (a = fo ∧ j = 0) ∨ (a = tb ∨ (a = q ∧ j = 1))) G G := xf.rf
    have lt_q := (hH.2.2 _ _ k_q).1
    have lt_fo := (hH.2.2 _ _ k_fo).1
    have lt_bb := (hH.2.2 _ _ k_bb).1
    have lt_tb := (hH.2.2 _ _ k_tb).1
    refine hs_iload (i := 3) (p := 17) (by decide +kernel) rfl ?_
    refine hs_kld (v := .int 65536) (p := 19) (by decide +kernel) ?_
    refine hs_br2 (c := .ge) (t := 60) (f := 22) (by decide +kernel) (fun (c19 : 65536 ≤ Int32.ofNat m) => ?_) (fun (c19 : ¬ (65536 ≤ Int32.ofNat m)) => ?_)
    · have h19 : 65536 ≤ m := by rw [Int32.le_iff_toInt_le, hs_nint (by omega)] at c19; have h2 : (65536 : Int32).toInt = 65536 := rfl; omega
      refine hs_aload (i := 0) (p := 61) (by decide +kernel) rfl ?_
      refine hs_aload (i := 2) (p := 62) (by decide +kernel) rfl ?_
      have hHo := hH
      refine hf_put (T := et_TT) (t := 8) (ci := 6) (f := 1) (p := 65) (ty := (.array .long)) (by decide +kernel) rfl rfl rfl rfl rfl hH k_q (.inr ⟨by decide, _, rfl, k_tb⟩) (fun G62 hH x62 e62 => ?_)
      have q0 := (x62.2 q 0 lt_q (fun h => absurd h.2 (by decide))).trans q0
      have lt_q := Nat.lt_of_lt_of_le lt_q x62.1
      have lt_fo := Nat.lt_of_lt_of_le lt_fo x62.1
      have lt_bb := Nat.lt_of_lt_of_le lt_bb x62.1
      have lt_tb := Nat.lt_of_lt_of_le lt_tb x62.1
      refine hs_vret (by decide +kernel) ?_
      exact ⟨_, rfl, hH, xf.rf.tr x62 (fun _ _ _ h => .inr (.inr h)), e62, b, fun i hi => (x62.2 tb i (hHo.2.2 _ _ k_tb).1 (fun h => hi_ne k_tb k_q (by decide) h.1)).trans (hb i hi), fun k hk => by rw [hbi k hk, decide_eq_true (show k < m by omega), Bool.true_and]⟩
    · have h19 : m < 65536 := by rw [Int32.le_iff_toInt_le, hs_nint (by omega)] at c19; have h2 : (65536 : Int32).toInt = 65536 := rfl; omega
      refine hs_aload (i := 1) (p := 23) (by decide +kernel) rfl ?_
      refine hs_iload (i := 3) (p := 24) (by decide +kernel) rfl ?_
      have hHo := hH
      refine hf_put (T := et_TT) (t := 4) (ci := 2) (f := 0) (p := 27) (ty := .int) (by decide +kernel) rfl rfl rfl rfl rfl hH k_fo hi_any (fun G24 hH x24 e24 => ?_)
      have q0 := (x24.2 q 0 lt_q (fun h => (hi_ne k_q k_fo (by decide)) h.1)).trans q0
      have lt_q := Nat.lt_of_lt_of_le lt_q x24.1
      have lt_fo := Nat.lt_of_lt_of_le lt_fo x24.1
      have lt_bb := Nat.lt_of_lt_of_le lt_bb x24.1
      have lt_tb := Nat.lt_of_lt_of_le lt_tb x24.1
      have hF := hF.put hHo x24 e24
      rw [fup_fup] at hF
      have hdn := hdn.k6 hHo (n6.xs hHo x24 (fun b j h => by rw [h.1, k_fo]; decide)) k_bb
      have hb := fun (i : Nat) (hi : i < 1024) => (x24.2 tb i (hHo.2.2 _ _ k_tb).1 (fun h => hi_ne k_tb k_fo (by decide) h.1)).trans (hb i hi)
      have hX0 := hX0.tr x24 (fun _ _ _ h => .inl h)
      refine hs_aload (i := 0) (p := 28) (by decide +kernel) rfl ?_
      refine hf_get (T := et_TT) (t := 8) (ci := 6) (f := 0) (p := 31) (by decide +kernel) rfl hH k_q q0 ?_
      refine hs_aload (i := 1) (p := 32) (by decide +kernel) rfl ?_
      refine hs_k (x := Int32.ofNat 0) (p := 33) (by decide +kernel) ?_
      refine ht_callv (T := et_TT) (t := 6) (mi := 60) (na := 2) (ci := 4) (lk := 4) (lm := 4) (L0 := eg_en (eg_mL 60) [.ref bb, .ref fo, .int (Int32.ofNat 0)]) (by decide +kernel) rfl hH k_bb rfl rfl rfl rfl rfl (by rw [show eg_mL 60 = 4 from by decide +kernel]; first | done | rfl) ?_
      refine (fx_true hH hF 15 hdn k_bb (by omega) (by omega)).mono (fun u hu => xp_cb hu ?_)
      by_cases qs : f (feE (fup F (Int32.ofNat m))) = true
      · rw [if_pos qs]
        show et_go none _ 86 36 _ [.int (Int32.ofNat 1)] _ _ _ _
        refine hs_if0 (c := .eq) (t := 54) (f := 39) (by decide +kernel) (show ¬ (Int32.ofNat 1 = 0) by decide) ?_
        refine hs_aload (i := 2) (p := 40) (by decide +kernel) rfl ?_
        refine hs_iload (i := 3) (p := 41) (by decide +kernel) rfl ?_
        refine hs_k (x := Int32.ofNat 6) (p := 43) (by decide +kernel) ?_
        refine hs_st (ins := .ishr) (len := 1) (p := 44) (by decide +kernel) rfl rfl ?_
        dsimp only
        rw [sh_div (m := m) (by omega)]
        refine hs_dup2 (p := 45) (by decide +kernel) ?_
        refine hf_ald (ins := .laload) (T := et_TT) (t := 28) (kd := 2) (N := 1024) (p := 46) (by decide +kernel) (fun _ _ _ _ _ _ _ _ _ _ => rfl) rfl rfl rfl hH k_tb (by decide) (hb _ (by omega)) ?_
        refine hs_lcon (x := Int64.ofNat 1) (p := 47) (by decide +kernel) ?_
        refine hs_iload (i := 3) (p := 48) (by decide +kernel) rfl ?_
        refine hs_k (x := Int32.ofNat 63) (p := 50) (by decide +kernel) ?_
        refine hs_st (ins := .iand) (len := 1) (p := 51) (by decide +kernel) rfl rfl ?_
        refine hs_st (ins := .lshl) (len := 1) (p := 52) (by decide +kernel) rfl rfl ?_
        refine hs_st (ins := .lor) (len := 1) (p := 53) (by decide +kernel) rfl rfl ?_
        have hHo := hH
        refine hf_lst (T := et_TT) (t := 28) (N := 1024) (p := 54) (by decide +kernel) rfl rfl hH k_tb (by omega) (by decide) (fun G53 hH x53 e53 => ?_)
        have q0 := (x53.2 q 0 lt_q (fun h => (hi_ne k_q k_tb (by decide)) h.1)).trans q0
        have e24 := (x53.2 fo 0 lt_fo (fun h => (hi_ne k_fo k_tb (by decide)) h.1)).trans e24
        have lt_q := Nat.lt_of_lt_of_le lt_q x53.1
        have lt_fo := Nat.lt_of_lt_of_le lt_fo x53.1
        have lt_bb := Nat.lt_of_lt_of_le lt_bb x53.1
        have lt_tb := Nat.lt_of_lt_of_le lt_tb x53.1
        have hdn := hdn.k6 hHo (n6.xs hHo x53 (fun b j h => by rw [h.1, k_tb]; decide)) k_bb
        have hF := hF.xs hHo k_fo x53 (fun j h => hi_ne k_fo k_tb (by decide) h.1)
        have hX0 := hX0.tr x53 (fun _ _ _ h => .inr (.inl h.1))
        refine hs_iinc1 (i := 3) (p := 57) (by decide +kernel) rfl (Nat.le_of_ble_eq_true rfl) ?_
        refine hs_goto (p := 16) (by decide +kernel) ?_
        show et_go none _ 86 16 [some (.ref q), some (.ref fo), some (.ref tb), some (.int (Int32.ofNat (m + 1)))] [] _ _ _ _
        refine (ih (65536 - (m + 1)) (by omega) hH q0 hdn hF (b := fun i => if i = m / 64 then b (m / 64) ||| (Int64.ofNat 1 <<< shI m) else b i) (fun i hi => ?_) (bt_true hbi qs) (by omega) rfl).mono (fun u hu => hu.tr hX0)
        by_cases ei : i = m / 64
        · rw [ei, if_pos rfl]
          exact e53
        · rw [if_neg ei]
          exact (x53.2 tb i (hHo.2.2 _ _ k_tb).1 (fun h => ei h.2)).trans (hb i hi)
      · rw [if_neg qs]
        show et_go none _ 86 36 _ [.int (Int32.ofNat 0)] _ _ _ _
        refine hs_if1 (c := .eq) (t := 54) (f := 39) (by decide +kernel) (show Int32.ofNat 0 = 0 by decide) ?_
        refine hs_iinc1 (i := 3) (p := 57) (by decide +kernel) rfl (Nat.le_of_ble_eq_true rfl) ?_
        refine hs_goto (p := 16) (by decide +kernel) ?_
        show et_go none _ 86 16 [some (.ref q), some (.ref fo), some (.ref tb), some (.int (Int32.ofNat (m + 1)))] [] _ _ _ _
        exact (ih (65536 - (m + 1)) (by omega) hH q0 hdn hF hb (bt_false hbi (Bool.eq_false_iff.mpr qs)) (by omega) rfl).mono (fun u hu => hu.tr hX0)
/-- the table is made, nothing else is touched *but the facts' card -/
def rdZ (K : et_K) (G : eg_G) (q fo : Nat) (f : sp_E → Bool) (u : eg_O) : Prop := ∃ (K' : et_K) (G' : eg_G) (c s : Nat), u = (.inl none, G', c, s) ∧ et_ex K K' ∧ et_H et_TT K' G' ∧ xf (fun a j => (a = fo ∧ j = 0) ∨ (a = q ∧ j = 1)) G G' ∧ tbP G' q f
theorem fx_ready {K : et_K} {G : eg_G} (hH : et_H et_TT K G) (k_q : K q = some 8) (q0 : et_pl (eg_at G q) 0 = some (.ref bb)) (k_bb : K bb = some 6) (hdn : dn G 15 lo hi bb f) (hT : tbP G q f) (hF : foR K G fo F) (hcl : fcl f) (hd : 19 ≤ d2) : et_go none d2 86 0 (eg_en (eg_mL 86) [.ref q, .ref fo]) [] G 0 0 (rdZ K G q fo f) := by
  obtain ⟨d, rfl⟩ : ∃ d, d2 = d + 19 := ⟨d2 - 19, by omega⟩
  have hH0 := hH
  rw [show eg_mL 86 = 4 from by decide +kernel]
  show et_go none (d + 19) 86 0 [some (.ref q), some (.ref fo), none, none] [] G 0 0 _
  have hT0 := hT
  rcases hT with hT | ⟨tb, b, q1, hb, hbit⟩
  · refine hs_aload (i := 0) (p := 1) (by decide +kernel) rfl ?_
    refine hf_get (T := et_TT) (t := 8) (ci := 6) (f := 1) (p := 4) (by decide +kernel) rfl hH k_q hT ?_
    refine hs_ifnull0 (p := 8) (by decide +kernel) ?_
    refine hs_k (x := Int32.ofNat 1024) (p := 11) (by decide +kernel) ?_
    refine ht_nbz (t := 28) (n := 1024) (kd := 2) (p := 13) (by decide +kernel) rfl (by decide +kernel) ⟨by decide +kernel, by decide +kernel, by decide +kernel⟩ (by omega) (by omega) hH (fun K1 G1 tb hk hH k_tb hg _ hz => ?_)
    have hx := pk_ex hk hH0
    have hxf := pk_xf hk
    refine hs_astore (i := 2) (p := 14) (by decide +kernel) (Nat.le_of_ble_eq_true rfl) ?_
    refine hs_k (x := Int32.ofNat 0) (p := 15) (by decide +kernel) ?_
    refine hs_istore (i := 3) (p := 16) (by decide +kernel) (Nat.le_of_ble_eq_true rfl) ?_
    show et_go none _ 86 16 [some (.ref q), some (.ref fo), some (.ref tb), some (.int (Int32.ofNat 0))] [] _ _ _ _
    have hF1 : foR K1 G1 fo (fup F (F 0)) := by rw [fup_0]; exact hF.xs hH0 (hx _ _ hF.1) hxf (fun j h => h)
    refine (fn_ready (F := F) hH (hx _ _ k_q) ((hxf.2 q 0 (hH0.2.2 _ _ k_q).1 (fun h => h)).trans q0) (hx _ _ k_bb) (hdn.k6 hH0 (n6.xs hH0 hxf (fun b j h => h.elim)) k_bb) hF1 k_tb (b := fun _ => Int64.ofNat 0) (fun i hi => hz i hi) (fun k hk => by rw [btL_0, decide_eq_false (Nat.not_lt_zero k), Bool.false_and]) (by decide)).mono (fun u hu => ?_)
    obtain ⟨G', h1, h2, h3, h4, b, h5, h6⟩ := hu
    refine ⟨K1, G', _, _, h1, hx, h2, ?_, .inr ⟨tb, b, h4, h5, fun m F' hm hF' => ?_⟩⟩
    · refine (hxf.wk (fun _ _ _ h => absurd h id)).tr h3 (fun a j ha h => ?_)
      rcases h with h | h | h
      · exact .inl h
      · exact absurd h (Nat.ne_of_lt (Nat.lt_of_lt_of_le ha hg))
      · exact .inr h
    · rw [h6 m hm]
      exact hcl _ _ (by rw [hF']; rfl)
  · refine hs_aload (i := 0) (p := 1) (by decide +kernel) rfl ?_
    refine hf_get (T := et_TT) (t := 8) (ci := 6) (f := 1) (p := 4) (by decide +kernel) rfl hH k_q q1 ?_
    refine hs_ifnull1 (p := 7) (by decide +kernel) ?_
    refine hs_vret (by decide +kernel) ?_
    exact ⟨_, _, _, _, rfl, et_ex.rf, hH, xf.rf, hT0⟩
end TLA
end
