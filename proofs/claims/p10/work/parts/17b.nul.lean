/-! THE STATIC THAT MAY BE NULL: only checkIndex is given it, and what it does is the same -/
def nu_P (rec : eg_Rec) : Prop := ∀ scr d L st G ck sk o, rec scr d 298 5 L (.ref 151 :: st) G ck sk = some o → rec scr d 298 5 L (.null :: st) G ck sk = some o
section NUL
variable {d : Nat} {w w' : Value} {G : eg_G}
theorem nu_c0 : eg_cd 314 0 = some (.iload_n 0, 1) := by decide +kernel
theorem nu_c1 : eg_cd 314 1 = some (.ifCond .lt 8, 3) := by decide +kernel
theorem nu_c4 : eg_cd 314 4 = some (.iload_n 0, 1) := by decide +kernel
theorem nu_c5 : eg_cd 314 5 = some (.iload_n 1, 1) := by decide +kernel
theorem nu_c6 : eg_cd 314 6 = some (.if_icmp .lt 10, 3) := by decide +kernel
theorem nu_c9 : eg_cd 314 9 = some (.aload_n 2, 1) := by decide +kernel
theorem nu_c10 : eg_cd 314 10 = some (.iload_n 0, 1) := by decide +kernel
theorem nu_c11 : eg_cd 314 11 = some (.iload_n 1, 1) := by decide +kernel
theorem nu_c12 : eg_cd 314 12 = some (.invokestatic 95, 3) := by decide +kernel
theorem nu_c16 : eg_cd 314 16 = some (.iload_n 0, 1) := by decide +kernel
theorem nu_c17 : eg_cd 314 17 = some (.ireturn, 1) := by decide +kernel
def nu_pl (ins : Instr) : Bool := match ins with
  | .return_ => false
  | .ireturn => false
  | .lreturn => false
  | .areturn => false
  | .new _ => false
  | ins => (eg_ik ins).isNone
theorem nu_st {k pc pc' len : Nat} {ins : Instr} {L L' : eg_Ls} {st st' : List Value} (hc : eg_cd k pc = some (ins, len)) (h1 : nu_pl ins = true) (h2 : eg_st (eg_mo k) (eg_in k) eg_MC eg_MS pc len ins L st G 0 0 = some (pc', L', st', G, 0, 0)) (f : Nat) : eg_rn (f + 1) none d k pc L st G 0 0 = eg_rn f none d k pc' L' st' G 0 0 := by
  show eg_one (eg_rn f) none d k pc L st G 0 0 = _
  unfold eg_one
  rw [hc]
  dsimp only
  have h3 : eg_rr ins (eg_mr k) st = none := by
    cases ins <;> first | (exact nomatch (show false = true from h1)) | rfl
  have h4 : eg_th k pc ins = none := by
    cases ins <;> first | (exact nomatch (show false = true from h1)) | rfl
  have h5 : eg_ik ins = none := by
    cases ins <;> first | rfl | (exact absurd h1 (by simp [nu_pl, eg_ik]))
  have h6 : eg_sc none ins pc L st G 0 0 = none := by
    unfold eg_sc
    rfl
  rw [h3]
  dsimp only
  rw [h6]
  dsimp only
  rw [h4]
  dsimp only
  rw [h5]
  dsimp only
  rw [h2]
  rfl
theorem nu_no {k pc len : Nat} {ins : Instr} {L : eg_Ls} {st : List Value} (hc : eg_cd k pc = some (ins, len)) (h1 : nu_pl ins = true) (h2 : eg_st (eg_mo k) (eg_in k) eg_MC eg_MS pc len ins L st G 0 0 = none) (f : Nat) : eg_rn f none d k pc L st G 0 0 = none := by
  cases f with
  | zero => rfl
  | succ f =>
    show eg_one (eg_rn f) none d k pc L st G 0 0 = _
    unfold eg_one
    rw [hc]
    dsimp only
    have h3 : eg_rr ins (eg_mr k) st = none := by
      cases ins <;> first | (exact nomatch (show false = true from h1)) | rfl
    have h4 : eg_th k pc ins = none := by
      cases ins <;> first | (exact nomatch (show false = true from h1)) | rfl
    have h5 : eg_ik ins = none := by
      cases ins <;> first | rfl | (exact absurd h1 (by simp [nu_pl, eg_ik]))
    have h6 : eg_sc none ins pc L st G 0 0 = none := by
      unfold eg_sc
      rfl
    rw [h3]
    dsimp only
    rw [h6]
    dsimp only
    rw [h4]
    dsimp only
    rw [h5]
    dsimp only
    rw [h2]
    rfl
/-- 314's locals -/
abbrev nu_L (b a w : Value) : eg_Ls := [some b, some a, some w]
theorem nu_12 {L : eg_Ls} {st : List Value} : ∀ f, eg_rn f none d 314 12 L st G 0 0 = none
  | 0 => rfl
  | f + 1 => by
    show eg_one (eg_rn f) none d 314 12 L st G 0 0 = none
    unfold eg_one
    rw [nu_c12]
    dsimp only
    have h3 : eg_rr (.invokestatic 95) (eg_mr 314) st = none := rfl
    have h6 : eg_sc none (.invokestatic 95) 12 L st G 0 0 = none := by
      unfold eg_sc
      rfl
    rw [h3]
    dsimp only
    rw [h6]
    dsimp only
    show eg_iv (eg_rn f) none d 314 12 0 95 L st G 0 0 = none
    unfold eg_iv
    rw [show (eg_mT.getD (eg_mo 314) []).lookup 95 = none from by decide +kernel]
variable {b a : Value}
theorem nu_11 {st : List Value} (hw : w = .null ∨ w = .ref 151) : ∀ f, eg_rn f none d 314 11 (nu_L b a w) st G 0 0 = none := fun f => by
  cases f with
  | zero => rfl
  | succ f =>
    cases a with
    | int y => exact (nu_st nu_c11 rfl rfl f).trans (nu_12 f)
    | _ => exact nu_no nu_c11 rfl rfl (f + 1)
theorem nu_10 {st : List Value} (hw : w = .null ∨ w = .ref 151) : ∀ f, eg_rn f none d 314 10 (nu_L b a w) st G 0 0 = none := fun f => by
  cases f with
  | zero => rfl
  | succ f =>
    cases b with
    | int y => exact (nu_st nu_c10 rfl rfl f).trans (nu_11 hw f)
    | _ => exact nu_no nu_c10 rfl rfl (f + 1)
theorem nu_9 {st : List Value} (hw : w = .null ∨ w = .ref 151) : ∀ f, eg_rn f none d 314 9 (nu_L b a w) st G 0 0 = none := fun f => by
  cases f with
  | zero => rfl
  | succ f =>
    rcases hw with rfl | rfl
    · exact (nu_st nu_c9 rfl rfl f).trans (nu_10 (.inl rfl) f)
    · exact (nu_st nu_c9 rfl rfl f).trans (nu_10 (.inr rfl) f)
theorem nu_17 {L L' : eg_Ls} {x : Int32} : ∀ f, eg_rn f none d 314 17 L [.int x] G 0 0 = eg_rn f none d 314 17 L' [.int x] G 0 0
  | 0 => rfl
  | f + 1 => by
    show eg_one (eg_rn f) none d 314 17 L [.int x] G 0 0 = eg_one (eg_rn f) none d 314 17 L' [.int x] G 0 0
    unfold eg_one
    rw [nu_c17]
    dsimp only
    have h3 : eg_rr .ireturn (eg_mr 314) [.int x] = some (some (.int x)) := by
      rw [show eg_mr 314 = some .int from by decide +kernel]
      show (if eg_nr .int x = true then _ else _) = _
      exact if_pos (by simp [eg_nr, narrow])
    rw [h3]
theorem nu_16 (hw : w = .null ∨ w = .ref 151) (hw' : w' = .null ∨ w' = .ref 151) : ∀ f, eg_rn f none d 314 16 (nu_L b a w) [] G 0 0 = eg_rn f none d 314 16 (nu_L b a w') [] G 0 0 := fun f => by
  cases f with
  | zero => rfl
  | succ f =>
    cases b with
    | int x => exact ((nu_st nu_c16 rfl rfl f).trans (nu_17 f)).trans (nu_st nu_c16 rfl rfl f).symm
    | _ => exact (nu_no nu_c16 rfl rfl (f + 1)).trans (nu_no nu_c16 rfl rfl (f + 1)).symm
theorem nu_6 {x y : Int32} (hw : w = .null ∨ w = .ref 151) (hw' : w' = .null ∨ w' = .ref 151) : ∀ f, eg_rn f none d 314 6 (nu_L b a w) [.int y, .int x] G 0 0 = eg_rn f none d 314 6 (nu_L b a w') [.int y, .int x] G 0 0 := fun f => by
  cases f with
  | zero => rfl
  | succ f =>
    by_cases h : x < y
    · have e : ∀ L : eg_Ls, eg_st (eg_mo 314) (eg_in 314) eg_MC eg_MS 6 3 (.if_icmp .lt 10) L [.int y, .int x] G 0 0 = some (16, L, [], G, 0, 0) := fun L => by
        show (if 0 ≤ ((6 : Nat) : Int) + 10 then some ((if x < y then eg_tg 6 10 else 6 + 3), L, [], G, 0, 0) else none) = _
        rw [if_pos (by decide), if_pos h]
        rfl
      exact ((nu_st nu_c6 rfl (e _) f).trans (nu_16 hw hw' f)).trans (nu_st nu_c6 rfl (e _) f).symm
    · have e : ∀ L : eg_Ls, eg_st (eg_mo 314) (eg_in 314) eg_MC eg_MS 6 3 (.if_icmp .lt 10) L [.int y, .int x] G 0 0 = some (9, L, [], G, 0, 0) := fun L => by
        show (if 0 ≤ ((6 : Nat) : Int) + 10 then some ((if x < y then eg_tg 6 10 else 6 + 3), L, [], G, 0, 0) else none) = _
        rw [if_pos (by decide), if_neg h]
      exact ((nu_st nu_c6 rfl (e _) f).trans (nu_9 hw f)).trans ((nu_st nu_c6 rfl (e _) f).trans (nu_9 hw' f)).symm
theorem nu_5 {x : Int32} (hw : w = .null ∨ w = .ref 151) (hw' : w' = .null ∨ w' = .ref 151) : ∀ f, eg_rn f none d 314 5 (nu_L b a w) [.int x] G 0 0 = eg_rn f none d 314 5 (nu_L b a w') [.int x] G 0 0 := fun f => by
  cases f with
  | zero => rfl
  | succ f =>
    cases a with
    | int y => exact ((nu_st nu_c5 rfl rfl f).trans (nu_6 hw hw' f)).trans (nu_st nu_c5 rfl rfl f).symm
    | _ => exact (nu_no nu_c5 rfl rfl (f + 1)).trans (nu_no nu_c5 rfl rfl (f + 1)).symm
theorem nu_4 (hw : w = .null ∨ w = .ref 151) (hw' : w' = .null ∨ w' = .ref 151) : ∀ f, eg_rn f none d 314 4 (nu_L b a w) [] G 0 0 = eg_rn f none d 314 4 (nu_L b a w') [] G 0 0 := fun f => by
  cases f with
  | zero => rfl
  | succ f =>
    cases b with
    | int x => exact ((nu_st nu_c4 rfl rfl f).trans (nu_5 hw hw' f)).trans (nu_st nu_c4 rfl rfl f).symm
    | _ => exact (nu_no nu_c4 rfl rfl (f + 1)).trans (nu_no nu_c4 rfl rfl (f + 1)).symm
theorem nu_1 {x : Int32} (hw : w = .null ∨ w = .ref 151) (hw' : w' = .null ∨ w' = .ref 151) : ∀ f, eg_rn f none d 314 1 (nu_L b a w) [.int x] G 0 0 = eg_rn f none d 314 1 (nu_L b a w') [.int x] G 0 0 := fun f => by
  cases f with
  | zero => rfl
  | succ f =>
    by_cases h : x < 0
    · have e : ∀ L : eg_Ls, eg_st (eg_mo 314) (eg_in 314) eg_MC eg_MS 1 3 (.ifCond .lt 8) L [.int x] G 0 0 = some (9, L, [], G, 0, 0) := fun L => by
        show (if 0 ≤ ((1 : Nat) : Int) + 8 then some ((if x < 0 then eg_tg 1 8 else 1 + 3), L, [], G, 0, 0) else none) = _
        rw [if_pos (by decide), if_pos h]
        rfl
      exact ((nu_st nu_c1 rfl (e _) f).trans (nu_9 hw f)).trans ((nu_st nu_c1 rfl (e _) f).trans (nu_9 hw' f)).symm
    · have e : ∀ L : eg_Ls, eg_st (eg_mo 314) (eg_in 314) eg_MC eg_MS 1 3 (.ifCond .lt 8) L [.int x] G 0 0 = some (4, L, [], G, 0, 0) := fun L => by
        show (if 0 ≤ ((1 : Nat) : Int) + 8 then some ((if x < 0 then eg_tg 1 8 else 1 + 3), L, [], G, 0, 0) else none) = _
        rw [if_pos (by decide), if_neg h]
      exact ((nu_st nu_c1 rfl (e _) f).trans (nu_4 hw hw' f)).trans (nu_st nu_c1 rfl (e _) f).symm
theorem nu_0 (hw : w = .null ∨ w = .ref 151) (hw' : w' = .null ∨ w' = .ref 151) : ∀ f, eg_rn f none d 314 0 (nu_L b a w) [] G 0 0 = eg_rn f none d 314 0 (nu_L b a w') [] G 0 0 := fun f => by
  cases f with
  | zero => rfl
  | succ f =>
    cases b with
    | int x => exact ((nu_st nu_c0 rfl rfl f).trans (nu_1 hw hw' f)).trans (nu_st nu_c0 rfl rfl f).symm
    | _ => exact (nu_no nu_c0 rfl rfl (f + 1)).trans (nu_no nu_c0 rfl rfl (f + 1)).symm
end NUL
theorem nu_c298 : eg_cd 298 5 = some (.invokestatic 1059, 3) := by decide +kernel
theorem nu_m298 : (eg_mT.getD (eg_mo 298) []).lookup 1059 = some (314, 0, none) := by decide +kernel
theorem nu_en {b a w : Value} (h : (eg_en0 [b, a, w]).length ≤ 3) : eg_en 3 [b, a, w] = [some b, some a, some w] ∧ (eg_en0 [b, a, w]).length = 3 := by
  unfold eg_en0 eg_en0 eg_en0 eg_en0 at h
  unfold eg_en eg_en0 eg_en0 eg_en0 eg_en0
  split at h <;> split at h <;> split at h <;> simp at h <;> simp_all
theorem eg_rn_nl : ∀ f, nu_P (eg_rn f)
  | 0 => fun _ _ _ _ _ _ _ _ h => nomatch h
  | f + 1 => fun scr d L st G ck sk o h => by
    have key : ∀ w : Value, eg_rn (f + 1) scr d 298 5 L (w :: st) G ck sk = eg_iv (eg_rn f) scr d 298 5 0 1059 L (w :: st) G ck sk := fun w => by
      show eg_one (eg_rn f) scr d 298 5 L (w :: st) G ck sk = _
      unfold eg_one
      rw [nu_c298]
      dsimp only
      have h3 : eg_rr (.invokestatic 1059) (eg_mr 298) (w :: st) = none := rfl
      have h6 : eg_sc scr (.invokestatic 1059) 5 L (w :: st) G ck sk = none := by
        unfold eg_sc
        split
        · rename_i e _
          cases e
        · rename_i e _
          cases e
        · rfl
      rw [h3]
      dsimp only
      rw [h6]
      rfl
    have kv : ∀ w : Value, eg_iv (eg_rn f) scr d 298 5 0 1059 L (w :: st) G ck sk = (if (0 = 0 ∨ 0 = 3) ∧ eg_ma 314 ≤ (w :: st).length then eg_cl1 (eg_rn f) scr d 298 5 314 ((w :: st).take (eg_ma 314)).reverse ((w :: st).drop (eg_ma 314)) L G ck sk else none) := fun w => by
      unfold eg_iv
      rw [nu_m298]
      show (if 0 = 0 ∧ 309 ≤ 314 ∧ 314 ≤ 313 then (match eg_mt 314 (w :: st) with
        | some (v, r) => if eg_cat r ≤ 8 ∧ L.length = eg_mL 298 then eg_rn f scr d 298 (5 + 3) L (v :: r) G ck sk else none
        | none => none)
      else if (0 = 0 ∨ 0 = 3) ∧ eg_ma 314 ≤ (w :: st).length then eg_cl1 (eg_rn f) scr d 298 5 314 ((w :: st).take (eg_ma 314)).reverse ((w :: st).drop (eg_ma 314)) L G ck sk else none) = _
      rw [if_neg (by decide)]
    rw [key, kv] at h ⊢
    rw [show eg_ma 314 = 3 from by decide +kernel] at h ⊢
    split at h
    · rename_i hc
      have hc2 : ((0 : Nat) = 0 ∨ (0 : Nat) = 3) ∧ 3 ≤ ((Value.null : Value) :: st).length := hc
      rw [if_pos hc2]
      obtain ⟨a, b, r, rfl⟩ : ∃ a b r, st = a :: b :: r := by
        match st, hc with
        | a :: b :: r, _ => exact ⟨a, b, r, rfl⟩
        | [], hc => exact absurd hc.2 (by simp)
        | [a], hc => exact absurd hc.2 (by simp)
      have h : eg_cl1 (eg_rn f) scr d 298 5 314 [b, a, .ref 151] r L G ck sk = some o := h
      show eg_cl1 (eg_rn f) scr d 298 5 314 [b, a, .null] r L G ck sk = some o
      unfold eg_cl1 at h ⊢
      rw [show eg_mL 314 = 3 from by decide +kernel] at h ⊢
      split at h
      · rename_i hc
        obtain ⟨c1, c2, c3, c4, c5⟩ := hc
        obtain ⟨e1, e2⟩ := nu_en c3
        have c3n : (eg_en0 [b, a, Value.null]).length ≤ 3 := by
          rw [show (eg_en0 [b, a, Value.null]).length = (eg_en0 [b, a, Value.ref 151]).length from by
            unfold eg_en0 eg_en0 eg_en0
            split <;> split <;> rfl]
          exact c3
        rw [if_pos ⟨c1, c2, c3n, c4, c5⟩]
        split at h
        · cases h
        · rename_i d'
          rw [e1, nu_0 (.inr rfl) (.inl rfl) f] at h
          rw [(nu_en c3n).1]
          exact h
      · cases h
    · cases h
/-- where it is read -/
theorem nu_site0 : eg_MM.all (fun l => l.all (fun q => q.2.all (fun e => !eg_s151 q.1.2.2.2.2.2.1 e.2.1 || (decide (q.1.1 = eg_mn 298) && decide (e.1 = 2))))) = true := by decide +kernel
theorem nu_site1 : eg_lw.all (fun e => !eg_s151 0 e.2.1) = true := by decide +kernel
theorem nu_nm : (List.range 316).all (fun k => decide (eg_mn k = eg_mn 298 → k = 298)) = true := by decide +kernel
theorem nu_site {k pc len : Nat} {ins : Instr} (h : eg_cd k pc = some (ins, len)) (hs : eg_s151 (eg_mo k) ins = true) : k = 298 ∧ pc = 2 := by
  unfold eg_cd at h
  by_cases hk : k = eg_LK
  · rw [if_pos hk] at h
    have h1 := List.all_eq_true.mp nu_site1 _ (eg_lk h)
    have e : eg_mo k = 0 := by
      subst hk
      rfl
    rw [e] at hs
    dsimp only at h1
    rw [hs] at h1
    cases h1
  · rw [if_neg hk] at h
    by_cases h315 : k < 316
    · obtain ⟨l, h1, h2⟩ := eg_me_at h315
      have h3 := List.all_eq_true.mp (List.all_eq_true.mp (List.all_eq_true.mp nu_site0 l h1) _ h2) _ (eg_lk h)
      unfold eg_mo at hs
      rw [eg_mi_k h315] at hs
      dsimp only at h3
      rw [hs, Bool.not_true, Bool.false_or, Bool.and_eq_true] at h3
      have h4 := of_decide_eq_true h3.1
      have h5 : eg_mn k = eg_mn 298 := by
        show (eg_mi k).1 = _
        rw [eg_mi_k h315]
        exact h4
      exact ⟨of_decide_eq_true (List.all_eq_true.mp nu_nm k (List.mem_range.mpr h315)) h5, of_decide_eq_true h3.2⟩
    · have e : (eg_me k).2 = [] := by
        have hl := eg_MM_len
        by_cases h320 : 320 ≤ k
        · unfold eg_me
          rw [show eg_MM.getD (k / 16) [] = [] from by
            rw [List.getD_eq_getElem?_getD, List.getElem?_eq_none (by rw [hl.1]; omega)]
            rfl]
          rfl
        · have : k = 316 ∨ k = 317 ∨ k = 318 ∨ k = 319 := by omega
          rcases this with rfl | rfl | rfl | rfl <;> decide +kernel
      rw [e] at h
      cases h
