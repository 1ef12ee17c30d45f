section
/-! PHASE D: the reference's turnBy -/
/-- what the facts and tags of the reference say to a TURNER's text -/
def teM (FA TG : Nat → Int32) (li : Int32) : sp_E := (fun w => (FA (w - 10)).toInt64, (fun w => decide (¬ TG (w - 8) = 0), fun v => decide ((li >>> (Int32.ofNat v &&& 31)) &&& Int32.ofNat 1 = Int32.ofNat 1)))
theorem teM_R {FA TG : Nat → Int32} {li : Int32} : erR FA TG li 1 (teM FA TG li) := by
  refine ⟨fun o ho => ?_, fun o ho => ?_, fun v => rfl⟩
  · show (FA (fbw 1 + o - 10)).toInt64 = _
    rw [show fbw 1 + o - 10 = o from by show 10 + o - 10 = o; omega]
  · show decide (¬ TG (tbw 1 + o - 8) = 0) = _
    rw [show tbw 1 + o - 8 = o from by show 8 + o - 8 = o; omega]
theorem hoL_cl {l : sp_L} {E E' : sp_E} (h : lcl1 l) (h1 : ∀ w, 10 ≤ w → w ≤ 13 → E.1 w = E'.1 w) (h2 : ∀ w, 8 ≤ w → w ≤ 9 → E.2.1 w = E'.2.1 w) : hoL l E = hoL l E' := by
  unfold hoL
  cases hl : l.2.2 with
  | none => rfl
  | some f => exact h f hl E E' h1 h2 trivial
theorem nuL_cl {t : Bool} {E E' : sp_E} (h1 : ∀ w, 10 ≤ w → w ≤ 13 → E.1 w = E'.1 w) (h2 : ∀ w, 8 ≤ w → w ≤ 9 → E.2.1 w = E'.2.1 w) : ∀ ls : List sp_L, (∀ l ∈ ls, lcl1 l) → nuL t E ls = nuL t E' ls
  | [], _ => rfl
  | l :: r, h => by
    show (if (l.1 == t && hoL l E) = true then l.2.1 else nuL t E r) = (if (l.1 == t && hoL l E') = true then l.2.1 else nuL t E' r)
    rw [hoL_cl (h l List.mem_cons_self) h1 h2, nuL_cl h1 h2 r (fun x hx => h x (List.mem_cons_of_mem _ hx))]
theorem nuL_le {t : Bool} {E : sp_E} : ∀ ls : List sp_L, (∀ l ∈ ls, l.2.1 ≤ 50) → nuL t E ls ≤ 50
  | [], _ => Nat.zero_le _
  | l :: r, h => by
    show (if (l.1 == t && hoL l E) = true then l.2.1 else nuL t E r) ≤ 50
    split
    · exact h l List.mem_cons_self
    · exact nuL_le r (fun x hx => h x (List.mem_cons_of_mem _ hx))
theorem b10_inj {a b : Bool} (h : (if a = true then 0 else 1) = (if b = true then 0 else 1)) : (a == b) = true := by
  cases a <;> cases b <;> first | rfl | exact absurd h (by decide)
theorem b10_ne {a b : Bool} (h : ¬ (if a = true then 0 else 1) = (if b = true then 0 else 1)) : (a == b) = false := by
  cases a <;> cases b <;> first | rfl | exact absurd rfl h
section VEA
variable {K : et_K} {G : eg_G} {d d2 am aw fa tg k i kd : Nat} {li v kv : Int32} {FA TG : Nat → Int32} {t : Bool} {ls : List sp_L}
theorem fm_holdsTT {l : sp_L} (hH : et_H et_TT K G) (k_am : K am = some 13) (k_aw : K aw = some 46) (k_fa : K fa = some 14) (k_tg : K tg = some 24) (m1 : et_pl (eg_at G am) 1 = some (.ref aw)) (m14 : et_pl (eg_at G am) 14 = some (.ref fa)) (m15 : et_pl (eg_at G am) 15 = some (.ref tg)) (m16 : et_pl (eg_at G am) 16 = some (.int li)) (hfa : ∀ o, o ≤ 4 → et_pl (eg_at G fa) o = some (.int (FA o))) (htg : ∀ o, o < 2 → et_pl (eg_at G tg) o = some (.int (TG o))) (hk : k < 4) (hT : tuT G aw (126 + 841 * (4 + k)) 1 ls) (hl : ls[i]? = some l) (hd : 3 ≤ d2) : et_go none d2 216 0 (eg_en (eg_mL 216) [.ref am, .int (Int32.ofNat (4 + k)), .int (Int32.ofNat i)]) [] G 0 0 (fun u => hi_Z et_TT (K, [], G) hi_MV [(.inl (some (.inl (0, 1))), 0, 0)] u ∧ u.1 = .inl (some (.int (Int32.ofNat (if hoL l (teM FA TG li) = true then 1 else 0))))) := by
  have hi := (List.getElem?_eq_some_iff.mp hl).1
  have hll := hT.2.1
  refine (hi_holds (w := (K, [], G)) hH k_am hd (by omega) (by omega) (fun F W aw' eF hw eW hG => ?_)).and (fm_holdsT (t := 4 + k) hH k_am m1 m14 m15 m16 hfa htg teM_R (by omega) hT hl hd)
  obtain ⟨n9, hn1, hn2, hn3⟩ := hG (4 + k) (by omega)
  have eaw : aw' = aw := by
    have h9 := m1
    rw [show eg_at G am = hm_F F from eF, hi_pF (by decide), hw] at h9
    exact Value.ref.inj (Option.some.inj h9)
  have h8 := hT.1
  rw [← eaw, show eg_at G aw' = hm_W W from eW, hi_pW (by omega)] at h8
  have h7 : W (126 + 841 * (4 + k)) = Int32.ofNat ls.length := Value.int.inj (Option.some.inj h8)
  have hn0 : n9 = ls.length := (hs_neq (by omega) (by omega)).mp (hn1.symm.trans h7)
  exact hn3 i (.inl (by omega))
theorem tuT.mp {G G' : eg_G} {aw aw' X pl : Nat} {ls : List sp_L} (h : tuT G aw X pl ls) (hc : ∀ i, i < 841 → et_pl (eg_at G' aw') (X + i) = et_pl (eg_at G aw) (X + i)) : tuT G' aw' X pl ls := by
  obtain ⟨h0, h1, h2⟩ := h
  refine ⟨(hc 0 (by decide)).trans h0, h1, fun i l hl => ?_⟩
  have hi := (List.getElem?_eq_some_iff.mp hl).1
  obtain ⟨s, e, e0, e1, e2, e3, he, hse, hm⟩ := h2 i l hl
  refine ⟨s, e, pl_eq ((hc (1 + 4 * i) (by omega)).trans (pl_eq e0 (by omega))) (by omega), pl_eq ((hc (1 + 4 * i + 1) (by omega)).trans (pl_eq e1 (by omega))) (by omega), pl_eq ((hc (1 + 4 * i + 2) (by omega)).trans (pl_eq e2 (by omega))) (by omega), pl_eq ((hc (1 + 4 * i + 3) (by omega)).trans (pl_eq e3 (by omega))) (by omega), he, hse, ?_⟩
  cases hl2 : l.2.2 with
  | none =>
    rw [hl2] at hm
    exact hm
  | some f =>
    rw [hl2] at hm
    obtain ⟨C, hC, hc2, hd⟩ := hm
    refine ⟨C, hC, fun j x hj => ?_, hd⟩
    have hj2 := (List.getElem?_eq_some_iff.mp hj).1
    obtain ⟨a1, a2, a3⟩ := hc2 j x hj
    exact ⟨pl_eq ((hc (41 + 2 * (s + j)) (by omega)).trans (pl_eq a1 (by omega))) (by omega), pl_eq ((hc (41 + 2 * (s + j) + 1) (by omega)).trans (pl_eq a2 (by omega))) (by omega), a3⟩
theorem fn_textAt {q : Nat} : et_go none d2 186 0 (eg_en (eg_mL 186) [.int (Int32.ofNat q)]) [] G 0 0 (xp_Z G (some (.int (Int32.ofNat (126 + 841 * q))))) := by
  rw [show eg_mL 186 = 1 from by decide +kernel]
  show et_go none d2 186 0 [some (.int (Int32.ofNat q))] [] G 0 0 _
  refine hs_k (x := Int32.ofNat 126) (p := 2) (by decide +kernel) ?_
  refine hs_k (x := Int32.ofNat 841) (p := 5) (by decide +kernel) ?_
  refine hs_iload (i := 0) (p := 6) (by decide +kernel) rfl ?_
  refine hs_imuln (p := 7) (by decide +kernel) ?_
  refine hs_iaddn (p := 8) (by decide +kernel) ?_
  refine hs_iret (by decide +kernel) ?_
  rfl
theorem fn_lineAt {q n : Nat} : et_go none (d + 1) 189 0 (eg_en (eg_mL 189) [.int (Int32.ofNat q), .int (Int32.ofNat n)]) [] G 0 0 (xp_Z G (some (.int (Int32.ofNat (126 + 841 * q + 1 + 4 * n))))) := by
  rw [show eg_mL 189 = 2 from by decide +kernel]
  show et_go none (d + 1) 189 0 [some (.int (Int32.ofNat q)), some (.int (Int32.ofNat n))] [] G 0 0 _
  refine hs_iload (i := 0) (p := 1) (by decide +kernel) rfl ?_
  refine hs_calls (mi := 186) (na := 1) (lk := 2) (lm := 1) (L0 := eg_en (eg_mL 186) [.int (Int32.ofNat q)]) (by decide +kernel) rfl rfl rfl rfl rfl rfl (by rw [show eg_mL 186 = 1 from by decide +kernel]; first | done | rfl) ?_
  refine (fn_textAt).mono (fun u hu => xp_cb hu ?_)
  show et_go none _ 189 4 _ [.int (Int32.ofNat (126 + 841 * q))] _ _ _ _
  refine hs_k (x := Int32.ofNat 1) (p := 5) (by decide +kernel) ?_
  refine hs_iaddn (p := 6) (by decide +kernel) ?_
  refine hs_k (x := Int32.ofNat 4) (p := 7) (by decide +kernel) ?_
  refine hs_iload (i := 1) (p := 8) (by decide +kernel) rfl ?_
  refine hs_imuln (p := 9) (by decide +kernel) ?_
  refine hs_iaddn (p := 10) (by decide +kernel) ?_
  refine hs_iret (by decide +kernel) ?_
  rfl
theorem fn_lines (hH : et_H et_TT K G) (k_am : K am = some 13) (k_aw : K aw = some 46) (m1 : et_pl (eg_at G am) 1 = some (.ref aw)) (hk : k < 4) (hT : tuT G aw (126 + 841 * (4 + k)) 1 ls) (hd : 1 ≤ d2) : et_go none d2 250 0 (eg_en (eg_mL 250) [.ref am, .int (Int32.ofNat (4 + k))]) [] G 0 0 (xp_Z G (some (.int (Int32.ofNat ls.length)))) := by
  obtain ⟨d, rfl⟩ : ∃ d, d2 = d + 1 := ⟨d2 - 1, by omega⟩
  rw [show eg_mL 250 = 2 from by decide +kernel]
  show et_go none (d + 1) 250 0 [some (.ref am), some (.int (Int32.ofNat (4 + k)))] [] G 0 0 _
  have lt_am := (hH.2.2 _ _ k_am).1
  have lt_aw := (hH.2.2 _ _ k_aw).1
  refine hs_aload (i := 0) (p := 1) (by decide +kernel) rfl ?_
  refine hf_get (T := et_TT) (t := 13) (ci := 11) (f := 1) (p := 4) (by decide +kernel) rfl hH k_am m1 ?_
  refine hs_iload (i := 1) (p := 5) (by decide +kernel) rfl ?_
  refine hs_calls (mi := 186) (na := 1) (lk := 2) (lm := 1) (L0 := eg_en (eg_mL 186) [.int (Int32.ofNat (4 + k))]) (by decide +kernel) rfl rfl rfl rfl rfl rfl (by rw [show eg_mL 186 = 1 from by decide +kernel]; first | done | rfl) ?_
  refine (fn_textAt).mono (fun u hu => xp_cb hu ?_)
  show et_go none _ 250 8 _ [.int (Int32.ofNat (126 + 841 * (4 + k))), .ref aw] _ _ _ _
  refine hf_ald (ins := .iaload) (T := et_TT) (t := 46) (kd := 0) (N := 12741) (p := 9) (by decide +kernel) (fun _ _ _ _ _ _ _ _ _ _ => rfl) rfl rfl rfl hH k_aw (by decide) hT.1 ?_
  refine hs_iret (by decide +kernel) ?_
  rfl
theorem fn_numL {Z : eg_O → Prop} (hH : et_H et_TT K G) (k_am : K am = some 13) (k_aw : K aw = some 46) (k_fa : K fa = some 14) (k_tg : K tg = some 24) (m1 : et_pl (eg_at G am) 1 = some (.ref aw)) (m14 : et_pl (eg_at G am) 14 = some (.ref fa)) (m15 : et_pl (eg_at G am) 15 = some (.ref tg)) (m16 : et_pl (eg_at G am) 16 = some (.int li)) (hfa : ∀ o, o ≤ 4 → et_pl (eg_at G fa) o = some (.int (FA o))) (htg : ∀ o, o < 2 → et_pl (eg_at G tg) o = some (.int (TG o))) (hk : k < 4) (hT : tuT G aw (126 + 841 * (4 + k)) 1 ls) (hkd : kd = if t = true then 0 else 1) (hi : i ≤ ls.length) (h : ∀ (K' : et_K) (G' : eg_G), et_ex K K' → et_H et_TT K' G' → et_fr hi_MV K G G' → Z (.inl (some (.int (Int32.ofNat (nuL t (teM FA TG li) (ls.drop i))))), G', 0, 0)) : et_go none (d + 4) 249 26 [some (.ref am), some (.int (Int32.ofNat k)), some (.int (Int32.ofNat kd)), some (.int v), some (.int kv), some (.int (Int32.ofNat (4 + k))), some (.int (Int32.ofNat i))] [] G 0 0 Z := by
  have hkd1 : kd ≤ 1 := by
    rw [hkd]
    split <;> decide
  induction hz : ls.length - i using Nat.strongRecOn generalizing i K G with
  | _ z ih =>
    have hll := hT.2.1
    have hx0 : et_ex K K := et_ex.rf
    have hf : et_fr hi_MV K G G := et_fr.rf
    have lt_am := (hH.2.2 _ _ k_am).1
    have lt_aw := (hH.2.2 _ _ k_aw).1
    have lt_fa := (hH.2.2 _ _ k_fa).1
    have lt_tg := (hH.2.2 _ _ k_tg).1
    refine hs_iload (i := 6) (p := 28) (by decide +kernel) rfl ?_
    refine hs_aload (i := 0) (p := 29) (by decide +kernel) rfl ?_
    refine hs_iload (i := 5) (p := 31) (by decide +kernel) rfl ?_
    refine ht_callv (T := et_TT) (t := 13) (mi := 250) (na := 1) (ci := 11) (lk := 7) (lm := 2) (L0 := eg_en (eg_mL 250) [.ref am, .int (Int32.ofNat (4 + k))]) (by decide +kernel) rfl hH k_am rfl rfl rfl rfl rfl (by rw [show eg_mL 250 = 2 from by decide +kernel]; first | done | rfl) ?_
    refine (fn_lines hH k_am k_aw m1 hk hT (by omega)).mono (fun u hu => xp_cb hu ?_)
    show et_go none _ 249 34 _ [.int (Int32.ofNat ls.length), .int (Int32.ofNat i)] _ _ _ _
    refine hs_br2n (c := .ge) (t := 85) (f := 37) (by decide +kernel) (by omega) (by omega) (fun (c34 : ls.length ≤ i) => ?_) (fun (c34 : ¬ (ls.length ≤ i)) => ?_)
    · refine hs_k (x := Int32.ofNat 0) (p := 86) (by decide +kernel) ?_
      refine hs_iret (by decide +kernel) ?_
      have h9 := h _ _ hx0 hH hf
      rw [List.drop_eq_nil_of_le c34] at h9
      exact h9
    · have hn7 : i < ls.length := by omega
      have hll := hT.2.1
      obtain ⟨l, hl9⟩ : ∃ l, ls[i]? = some l := ⟨_, List.getElem?_eq_getElem hn7⟩
      have hdr : ls.drop i = l :: ls.drop (i + 1) := by
        rw [List.drop_eq_getElem_cons hn7]
        congr 1
        exact Option.some.inj ((List.getElem?_eq_getElem hn7).symm.trans hl9)
      obtain ⟨_, _, t1, t2, -⟩ := hT.2.2 i l hl9
      have tv1 : (if l.1 = true then 0 else 1) ≤ 1 := by split <;> decide
      refine hs_aload (i := 0) (p := 38) (by decide +kernel) rfl ?_
      refine hf_get (T := et_TT) (t := 13) (ci := 11) (f := 1) (p := 41) (by decide +kernel) rfl hH k_am m1 ?_
      refine hs_iload (i := 5) (p := 43) (by decide +kernel) rfl ?_
      refine hs_iload (i := 6) (p := 45) (by decide +kernel) rfl ?_
      refine hs_calls (mi := 189) (na := 2) (lk := 7) (lm := 2) (L0 := eg_en (eg_mL 189) [.int (Int32.ofNat (4 + k)), .int (Int32.ofNat i)]) (by decide +kernel) rfl rfl rfl rfl rfl rfl (by rw [show eg_mL 189 = 2 from by decide +kernel]; first | done | rfl) ?_
      refine (fn_lineAt).mono (fun u hu => xp_cb hu ?_)
      show et_go none _ 249 48 _ [.int (Int32.ofNat (126 + 841 * (4 + k) + 1 + 4 * i)), .ref aw] _ _ _ _
      refine hf_ald (ins := .iaload) (T := et_TT) (t := 46) (kd := 0) (N := 12741) (p := 49) (by decide +kernel) (fun _ _ _ _ _ _ _ _ _ _ => rfl) rfl rfl rfl hH k_aw (by decide) t1 ?_
      refine hs_iload (i := 2) (p := 50) (by decide +kernel) rfl ?_
      refine hs_br2n (c := .ne) (t := 79) (f := 53) (by decide +kernel) (by omega) (by omega) (fun (c50 : ¬ (if l.1 = true then 0 else 1) = kd) => ?_) (fun (c50 : ¬ (¬ (if l.1 = true then 0 else 1) = kd)) => ?_)
      · refine hs_iinc1 (i := 6) (p := 82) (by decide +kernel) rfl (Nat.le_of_ble_eq_true rfl) ?_
        refine hs_goto (p := 26) (by decide +kernel) ?_
        show et_go none (d + 4) 249 26 [some (.ref am), some (.int (Int32.ofNat k)), some (.int (Int32.ofNat kd)), some (.int v), some (.int kv), some (.int (Int32.ofNat (4 + k))), some (.int (Int32.ofNat (i + 1)))] [] _ _ _ _
        refine ih (ls.length - (i + 1)) (by omega) hH k_am k_aw k_fa k_tg m1 m14 m15 m16 hfa htg hT (by omega) (fun K9 G9 h1 h2 h3 => ?_) rfl
        have h9 := h K9 G9 (hx0.tr h1) h2 (hf.tr hx0 h3)
        rw [hdr, nuL_n1 (b10_ne (by rw [← hkd]; exact c50))] at h9
        exact h9
      · refine hs_aload (i := 0) (p := 54) (by decide +kernel) rfl ?_
        refine hs_iload (i := 5) (p := 56) (by decide +kernel) rfl ?_
        refine hs_iload (i := 6) (p := 58) (by decide +kernel) rfl ?_
        refine ht_callv (T := et_TT) (t := 13) (mi := 216) (na := 2) (ci := 11) (lk := 7) (lm := 13) (L0 := eg_en (eg_mL 216) [.ref am, .int (Int32.ofNat (4 + k)), .int (Int32.ofNat i)]) (by decide +kernel) rfl hH k_am rfl rfl rfl rfl rfl (by rw [show eg_mL 216 = 13 from by decide +kernel]; first | done | rfl) ?_
        refine (fm_holdsTT hH k_am k_aw k_fa k_tg m1 m14 m15 m16 hfa htg hk hT hl9 (by omega)).mono (fun u hu => hs_cbvE hu (fun K58 G58 c58 s58 x58 f58 hH cl58 sl58 => ?_))
        have m1 := (f58.2 am 13 k_am 1 rfl).trans m1
        have m14 := (f58.2 am 13 k_am 14 rfl).trans m14
        have m15 := (f58.2 am 13 k_am 15 rfl).trans m15
        have m16 := (f58.2 am 13 k_am 16 rfl).trans m16
        have hfa := fun (o : Nat) (ho : o ≤ 4) => (f58.2 fa 14 k_fa o rfl).trans (hfa o ho)
        have htg := fun (o : Nat) (ho : o < 2) => (f58.2 tg 24 k_tg o rfl).trans (htg o ho)
        have hT := hT.mp (fun j hj => f58.2 aw 46 k_aw _ rfl)
        have k_am := x58 _ _ k_am
        have lt_am := (hH.2.2 _ _ k_am).1
        have k_aw := x58 _ _ k_aw
        have lt_aw := (hH.2.2 _ _ k_aw).1
        have k_fa := x58 _ _ k_fa
        have lt_fa := (hH.2.2 _ _ k_fa).1
        have k_tg := x58 _ _ k_tg
        have lt_tg := (hH.2.2 _ _ k_tg).1
        obtain ⟨t1, t2, -⟩ : et_pl (eg_at G58 aw) (126 + 841 * (4 + k) + 1 + 4 * i) = some (.int (Int32.ofNat (if l.1 = true then 0 else 1))) ∧ et_pl (eg_at G58 aw) (126 + 841 * (4 + k) + 1 + 4 * i + 1) = some (.int (Int32.ofNat l.2.1)) ∧ True := by obtain ⟨_, _, a1, a2, -⟩ := hT.2.2 i l hl9; exact ⟨a1, a2, trivial⟩
        have hx0 := x58
        have hf := f58
        obtain rfl : c58 = 0 := Nat.le_zero.mp cl58
        obtain rfl : s58 = 0 := Nat.le_zero.mp sl58
        by_cases qh : hoL l (teM FA TG li) = true
        · rw [if_pos qh]
          show et_go none _ 249 61 _ [.int (Int32.ofNat 1)] _ _ _ _
          refine hs_if0 (c := .eq) (t := 79) (f := 64) (by decide +kernel) (show ¬ (Int32.ofNat 1 = 0) by decide) ?_
          refine hs_aload (i := 0) (p := 65) (by decide +kernel) rfl ?_
          refine hf_get (T := et_TT) (t := 13) (ci := 11) (f := 1) (p := 68) (by decide +kernel) rfl hH k_am m1 ?_
          refine hs_iload (i := 5) (p := 70) (by decide +kernel) rfl ?_
          refine hs_iload (i := 6) (p := 72) (by decide +kernel) rfl ?_
          refine hs_calls (mi := 189) (na := 2) (lk := 7) (lm := 2) (L0 := eg_en (eg_mL 189) [.int (Int32.ofNat (4 + k)), .int (Int32.ofNat i)]) (by decide +kernel) rfl rfl rfl rfl rfl rfl (by rw [show eg_mL 189 = 2 from by decide +kernel]; first | done | rfl) ?_
          refine (fn_lineAt).mono (fun u hu => xp_cb hu ?_)
          show et_go none _ 249 75 _ [.int (Int32.ofNat (126 + 841 * (4 + k) + 1 + 4 * i)), .ref aw] _ _ _ _
          refine hs_k (x := Int32.ofNat 1) (p := 76) (by decide +kernel) ?_
          refine hs_iaddn (p := 77) (by decide +kernel) ?_
          refine hf_ald (ins := .iaload) (T := et_TT) (t := 46) (kd := 0) (N := 12741) (p := 78) (by decide +kernel) (fun _ _ _ _ _ _ _ _ _ _ => rfl) rfl rfl rfl hH k_aw (by decide) t2 ?_
          refine hs_iret (by decide +kernel) ?_
          have h9 := h _ _ hx0 hH hf
          rw [hdr, nuL_y (b10_inj (by rw [← hkd]; exact Decidable.of_not_not c50)) qh] at h9
          exact h9
        · rw [if_neg qh]
          show et_go none _ 249 61 _ [.int (Int32.ofNat 0)] _ _ _ _
          refine hs_if1 (c := .eq) (t := 79) (f := 64) (by decide +kernel) (show Int32.ofNat 0 = 0 by decide) ?_
          refine hs_iinc1 (i := 6) (p := 82) (by decide +kernel) rfl (Nat.le_of_ble_eq_true rfl) ?_
          refine hs_goto (p := 26) (by decide +kernel) ?_
          show et_go none (d + 4) 249 26 [some (.ref am), some (.int (Int32.ofNat k)), some (.int (Int32.ofNat kd)), some (.int v), some (.int kv), some (.int (Int32.ofNat (4 + k))), some (.int (Int32.ofNat (i + 1)))] [] _ _ _ _
          refine ih (ls.length - (i + 1)) (by omega) hH k_am k_aw k_fa k_tg m1 m14 m15 m16 hfa htg hT (by omega) (fun K9 G9 h1 h2 h3 => ?_) rfl
          have h9 := h K9 G9 (hx0.tr h1) h2 (hf.tr hx0 h3)
          rw [hdr, nuL_n2 (Bool.eq_false_iff.mpr qh)] at h9
          exact h9
end VEA
end
section
/-! EYES: which object stands for which EYE, how many WIRES each has -/
/-- no EYE's number of WIRES changes but that of a -/
def hole (K : et_K) (a : Nat) (G G' : eg_G) : Prop := ∀ x, K x = some 3 → ¬ x = a → et_pl (eg_at G' x) 0 = et_pl (eg_at G x) 0
theorem hole.rf {K : et_K} {a : Nat} {G : eg_G} : hole K a G G := fun _ _ _ => rfl
theorem hole.fr {K K1 : et_K} {a : Nat} {G G1 G2 : eg_G} {M : et_M} (h : hole K a G G1) (hx : et_ex K K1) (hf : et_fr M K1 G1 G2) (hm : et_mm M 3 0 = false) : hole K a G G2 := fun x kx hn => (hf.2 x 3 (hx _ _ kx) 0 hm).trans (h x kx hn)
theorem hole.tr {K K1 : et_K} {a : Nat} {G G1 G2 : eg_G} (h : hole K a G G1) (hx : et_ex K K1) (h2 : hole K1 a G1 G2) : hole K a G G2 := fun x kx hn => (h2 x (hx _ _ kx) hn).trans (h x kx hn)
def eyt (K : et_K) (sp ya yb : Nat) (E F : Nat → Nat) : Prop := (K ya = some 40 ∧ K yb = some 40 ∧ K sp = some 3) ∧ (∀ n, n < 3 → K (E n) = some 3 ∧ K (F n) = some 3) ∧ ∀ n m, n < 3 → m < 3 → (E n = E m → n = m) ∧ (F n = F m → n = m) ∧ ¬ E n = F m ∧ ¬ E n = sp ∧ ¬ F n = sp
def eyp (G : eg_G) (th s0 s1 sp ya yb : Nat) (E F : Nat → Nat) : Prop := (et_pl (eg_at G s0) 6 = some (.ref ya) ∧ et_pl (eg_at G s1) 6 = some (.ref yb) ∧ et_pl (eg_at G th) 8 = some (.ref sp)) ∧ ∀ n, n < 3 → et_pl (eg_at G ya) n = some (.ref (E n)) ∧ et_pl (eg_at G yb) n = some (.ref (F n))
def ev (G : eg_G) (E F : Nat → Nat) (c i : Nat → Nat) : Prop := ∀ n, n < 3 → et_pl (eg_at G (E n)) 0 = some (.int (Int32.ofNat (c (45 + 23 * n)))) ∧ et_pl (eg_at G (F n)) 0 = some (.int (Int32.ofNat (i (45 + 23 * n))))
def eyp_k (M : et_M) : Bool := !et_mm M 10 6 && (!et_mm M 12 8 && no_t M 40)
theorem eyt.ex {K K' : et_K} {sp ya yb : Nat} {E F : Nat → Nat} (h : eyt K sp ya yb E F) (hx : et_ex K K') : eyt K' sp ya yb E F := ⟨⟨hx _ _ h.1.1, hx _ _ h.1.2.1, hx _ _ h.1.2.2⟩, fun n hn => ⟨hx _ _ (h.2.1 n hn).1, hx _ _ (h.2.1 n hn).2⟩, h.2.2⟩
theorem eyp.fr {K : et_K} {G G' : eg_G} {M : et_M} {th s0 s1 sp ya yb : Nat} {E F : Nat → Nat} (h : eyp G th s0 s1 sp ya yb E F) (ht : eyt K sp ya yb E F) (k_th : K th = some 12) (k_s0 : K s0 = some 10) (k_s1 : K s1 = some 10) (hf : et_fr M K G G') (hk : eyp_k M = true) : eyp G' th s0 s1 sp ya yb E F := by
  unfold eyp_k at hk
  rw [Bool.and_eq_true, Bool.and_eq_true] at hk
  obtain ⟨k1, k2, k3⟩ := hk
  obtain ⟨⟨h1, h2, h3⟩, h4⟩ := h
  exact ⟨⟨(hf.2 s0 10 k_s0 6 (by simpa using k1)).trans h1, (hf.2 s1 10 k_s1 6 (by simpa using k1)).trans h2, (hf.2 th 12 k_th 8 (by simpa using k2)).trans h3⟩, fun n hn => ⟨(hf.2 ya 40 ht.1.1 n (no_mm k3)).trans (h4 n hn).1, (hf.2 yb 40 ht.1.2.1 n (no_mm k3)).trans (h4 n hn).2⟩⟩
theorem ev.fr {K : et_K} {G G' : eg_G} {M : et_M} {sp ya yb : Nat} {E F c i : Nat → Nat} (h : ev G E F c i) (ht : eyt K sp ya yb E F) (hf : et_fr M K G G') (hk : et_mm M 3 0 = false) : ev G' E F c i := fun n hn => ⟨(hf.2 _ 3 (ht.2.1 n hn).1 0 hk).trans (h n hn).1, (hf.2 _ 3 (ht.2.1 n hn).2 0 hk).trans (h n hn).2⟩
theorem ev.ho {K : et_K} {G G' : eg_G} {sp ya yb : Nat} {E F c i : Nat → Nat} (h : ev G E F c i) (ht : eyt K sp ya yb E F) (hh : hole K sp G G') : ev G' E F c i := fun n hn => ⟨(hh _ (ht.2.1 n hn).1 (ht.2.2 n n hn hn).2.2.2.1).trans (h n hn).1, (hh _ (ht.2.1 n hn).2 (ht.2.2 n n hn hn).2.2.2.2).trans (h n hn).2⟩
theorem ev.xs {S : Nat → Nat → Prop} {K : et_K} {G G' : eg_G} {sp ya yb : Nat} {E F c i : Nat → Nat} (h : ev G E F c i) (ht : eyt K sp ya yb E F) (hH : et_H et_TT K G) (hf : xf S G G') (hS : ∀ b, S b 0 → ¬ K b = some 3) : ev G' E F c i := fun n hn => ⟨(hf.2 _ 0 (hH.2.2 _ _ (ht.2.1 n hn).1).1 (fun hs => hS _ hs (ht.2.1 n hn).1)).trans (h n hn).1, (hf.2 _ 0 (hH.2.2 _ _ (ht.2.1 n hn).2).1 (fun hs => hS _ hs (ht.2.1 n hn).2)).trans (h n hn).2⟩
theorem ev.up {S : Nat → Nat → Prop} {K : et_K} {G G' : eg_G} {sp ya yb n v : Nat} {E F c i : Nat → Nat} (h : ev G E F c i) (ht : eyt K sp ya yb E F) (hH : et_H et_TT K G) (hf : xf S G G') (hn : n < 3) (hS : ∀ b, S b 0 → ¬ b = E n → ¬ K b = some 3) (hv : et_pl (eg_at G' (E n)) 0 = some (.int (Int32.ofNat v))) : ev G' E F (rc_up c (45 + 23 * n) v) i := fun k hk => by
  refine ⟨?_, (hf.2 _ 0 (hH.2.2 _ _ (ht.2.1 k hk).2).1 (fun hs => hS _ hs (fun e => (ht.2.2 n k hn hk).2.2.1 e.symm) (ht.2.1 k hk).2)).trans (h k hk).2⟩
  by_cases e : k = n
  · rw [e, show rc_up c (45 + 23 * n) v (45 + 23 * n) = v from if_pos rfl]
    exact hv
  · rw [show rc_up c (45 + 23 * n) v (45 + 23 * k) = c (45 + 23 * k) from if_neg (by omega)]
    exact (hf.2 _ 0 (hH.2.2 _ _ (ht.2.1 k hk).1).1 (fun hs => hS _ hs (fun e2 => e ((ht.2.2 k n hk hn).1 e2)) (ht.2.1 k hk).1)).trans (h k hk).1
theorem ev.co {G : eg_G} {E F c i c' i' : Nat → Nat} (h : ev G E F c i) (h1 : ∀ n, n < 3 → c' (45 + 23 * n) = c (45 + 23 * n)) (h2 : ∀ n, n < 3 → i' (45 + 23 * n) = i (45 + 23 * n)) : ev G E F c' i' := fun n hn => by
  rw [h1 n hn, h2 n hn]
  exact h n hn
theorem hs_cbxn {T : List et_D} {M : et_M} {d k pc ck sk x cx sx c s : Nat} {L : eg_Ls} {r : List Value} {Z : eg_O → Prop} {w : et_Wd} {u : eg_O} (hm : eg_mh k = none) (hu : hi_Z T w M [(.inr x, cx, sx), (.inl none, c, s)] u) (h : ∀ (K' : et_K) (G' : eg_G) (c' s' : Nat), et_ex w.1 K' → et_fr M w.1 w.2.2 G' → et_H T K' G' → c' ≤ c → s' ≤ s → et_go none d k (pc + 3) L r G' (ck + c') (sk + s') Z) (hx : ∀ (K' : et_K) (G' : eg_G) (c' s' : Nat), et_ex w.1 K' → et_fr M w.1 w.2.2 G' → et_H T K' G' → c' ≤ cx → s' ≤ sx → Z (.inr x, G', ck + c', sk + s')) : hs_cont d k pc L r ck sk Z u := by
  obtain ⟨e, he, K', h1, h2, h3, h4, h5, h6⟩ := hu
  obtain ⟨u1, u2, u3, u4⟩ := u
  rcases List.mem_cons.mp he with rfl | he
  · have h4 : u1 = .inr x := h4
    subst h4
    refine ⟨_, ⟨0, fun q _ => ?_⟩, hx K' u2 u3 u4 h1 h2 h3 h5 h6⟩
    unfold eg_bk
    dsimp only
    rw [hm]
  · obtain rfl := List.mem_singleton.mp he
    have h4 : u1 = .inl none := h4
    subst h4
    exact hs_cb (h K' u2 u3 u4 h1 h2 h3 h5 h6)
def hq_needT : et_Co := (147, [.inr (.inr (0, 12)), .inl (et_mn, et_mx)], [], [(.inr 1, 1, 6), (.inl (some (.inr (.inr (0, 11)))), 0, 0)], 0)
theorem hc_needT : et_cv et_TT hq_needT := et_cok_ok (Ks := []) (an := ek_an) (fun _ h => absurd h List.not_mem_nil) (by decide +kernel)
def hq_needW : et_Co := (142, [.inr (.inr (0, 3)), .inl (et_mn, et_mx)], [], [(.inr 1, 1, 6), (.inl none, 0, 0)], 0)
theorem hc_needW : et_cv et_TT hq_needW := et_cok_ok (Ks := []) (an := an_no) (fun _ h => absurd h List.not_mem_nil) (by decide +kernel)
def ey_M : et_M := [(3, 0, 7), (4, 0, 30), (12, 10, 10), (15, 0, 100000), (32, 0, 100000)]
theorem ft_35 {K : et_K} {G : eg_G} {d2 a s : Nat} (hH : et_H et_TT K G) (k_a : K a = some 3) (k_s : K s = some 3) (hd : 1 ≤ d2) : et_go none d2 35 0 (eg_en (eg_mL 35) [.ref a, .ref s]) [] G 0 0 (fun u => et_pl (eg_at u.2.1 a) 0 = et_pl (eg_at G s) 0 ∧ hole K a G u.2.1) := by
  have hH0 := hH
  rw [show eg_mL 35 = 3 from by decide +kernel]
  show et_go none d2 35 0 [some (.ref a), some (.ref s), none] [] G 0 0 _
  refine hs_aload (i := 0) (p := 1) (by decide +kernel) rfl ?_
  refine hs_aload (i := 1) (p := 2) (by decide +kernel) rfl ?_
  refine ht_getn (T := et_TT) (t := 3) (ci := 1) (f := 0) (p := 5) (by decide +kernel) rfl rfl hH k_s (fun c2 h2 e2 => ?_)
  refine hf_put (T := et_TT) (t := 3) (ci := 1) (f := 0) (p := 8) (ty := .int) (by decide +kernel) rfl rfl rfl rfl rfl hH k_a (hi_nv (by omega) (by omega)) (fun G5 hH x5 e5 => ?_)
  have hq := et_pok (T := et_TT) (Ks := []) (an := ek_an) (mi := 35) (pc := 8) (ps := [.inr (.inr (0, 3)), .inr (.inr (0, 3))]) (M := [(3, 4, 4), (3, 5, 5), (3, 6, 6), (3, 7, 7), (15, 0, 100000)]) (es := [(.inl none, 0, 0)]) (w := (K, [], G5)) (as := [.ref a, .ref s]) (d := 1) (d2 := d2) (fun _ h => absurd h List.not_mem_nil) (by decide) (by decide +kernel) hH hd rfl (ht_ac (.inr ⟨by decide, _, rfl, k_a⟩) (ht_ac (.inr ⟨by decide, _, rfl, k_s⟩) ht_an))
  rw [show eg_mL 35 = 3 from by decide +kernel] at hq
  refine et_go.mono hq (fun u hu => ?_)
  obtain ⟨_, _, K', h1, h2, -⟩ := hu
  exact ⟨(h2.2 a 3 k_a 0 (by decide +kernel)).trans (e5.trans e2.symm), fun x kx hn => (h2.2 x 3 kx 0 (by decide +kernel)).trans (x5.2 x 0 (hH0.2.2 _ _ kx).1 (fun h => hn h.1))⟩
section EYB
variable {w : et_Wd} {d d2 th sp e t n row : Nat} {x y z rows : Int32}
theorem ft_166 (hH : et_H et_TT w.1 w.2.2) (k_th0 : w.1 th = some 12) (h80 : et_pl (eg_at w.2.2 th) 8 = some (.ref sp)) (k_sp0 : w.1 sp = some 3) (hd : 5 ≤ d2) : et_go none d2 166 0 (eg_en (eg_mL 166) [.ref th, .int x, .int y, .int z]) [] w.2.2 0 0 (fun u => hole w.1 sp w.2.2 u.2.1) := by
  obtain ⟨d, rfl⟩ : ∃ d, d2 = d + 5 := ⟨d2 - 5, by omega⟩
  have hx0 : et_ex w.1 w.1 := et_ex.rf
  have hf : et_fr ey_M w.1 w.2.2 w.2.2 := et_fr.rf
  have hZ : hole w.1 sp w.2.2 w.2.2 := hole.rf
  have k_th := k_th0
  have k_sp := k_sp0
  rw [show eg_mL 166 = 7 from by decide +kernel]
  show et_go none (d + 5) 166 0 [some (.ref th), some (.int x), some (.int y), some (.int z), none, none, none] [] w.2.2 0 0 _
  refine hs_aload (i := 0) (p := 1) (by decide +kernel) rfl ?_
  refine hs_iload (i := 1) (p := 2) (by decide +kernel) rfl ?_
  refine ht_callv (T := et_TT) (t := 12) (mi := 128) (na := 1) (ci := 10) (lk := 7) (lm := 2) (L0 := eg_en (eg_mL 128) [.ref th, .int x]) (by decide +kernel) rfl hH k_th rfl rfl rfl rfl rfl (by rw [show eg_mL 128 = 2 from by decide +kernel]; first | done | rfl) ?_
  refine (hc_needE (w.1, [], w.2.2) [.ref th, .int x] _ hH (by show 0 ≤ _; omega) rfl (ht_ac (.inr ⟨by decide, _, rfl, k_th⟩) (ht_ac hi_any ht_an))).mono (fun u hu => hs_cbx (by decide +kernel) hu (fun v2 K2 G2 c2 s2 x2 f2 hH hv2 cl2 sl2 => ?_) (fun K2 G2 c2 s2 x2 f2 hH cl2 sl2 => hZ.fr hx0 f2 (by decide +kernel)))
  have hZ := hZ.fr hx0 f2 (by decide +kernel)
  have k_th := x2 _ _ k_th
  have k_sp := x2 _ _ k_sp
  have hf := hf.tr hx0 (f2.wk (by decide +kernel))
  have hx0 := hx0.tr x2
  obtain rfl : c2 = 0 := Nat.le_zero.mp cl2
  obtain rfl : s2 = 0 := Nat.le_zero.mp sl2
  obtain ⟨b2, rfl, k_b2⟩ := hi_ref hv2
  show et_go none _ 166 5 _ [.ref b2] _ 0 _ _
  refine hs_astore (i := 4) (p := 7) (by decide +kernel) (Nat.le_of_ble_eq_true rfl) ?_
  refine hs_aload (i := 4) (p := 9) (by decide +kernel) rfl ?_
  refine hs_iload (i := 2) (p := 10) (by decide +kernel) rfl ?_
  refine hs_calls (mi := 142) (na := 2) (lk := 7) (lm := 2) (L0 := eg_en (eg_mL 142) [.ref b2, .int y]) (by decide +kernel) rfl rfl rfl rfl rfl rfl (by rw [show eg_mL 142 = 2 from by decide +kernel]; first | done | rfl) ?_
  refine (hc_needW (K2, [], G2) [.ref b2, .int y] _ hH (by show 0 ≤ _; omega) rfl (ht_ac (.inr ⟨by decide, _, rfl, k_b2⟩) (ht_ac hi_any ht_an))).mono (fun u hu => hs_cbxn (by decide +kernel) hu (fun K10 G10 c10 s10 x10 f10 hH cl10 sl10 => ?_) (fun K10 G10 c10 s10 x10 f10 hH cl10 sl10 => hZ.fr hx0 f10 (by decide +kernel)))
  have hZ := hZ.fr hx0 f10 (by decide +kernel)
  have k_th := x10 _ _ k_th
  have k_sp := x10 _ _ k_sp
  have k_b2 := x10 _ _ k_b2
  have hf := hf.tr hx0 (f10.wk (by decide +kernel))
  have hx0 := hx0.tr x10
  obtain rfl : c10 = 0 := Nat.le_zero.mp cl10
  obtain rfl : s10 = 0 := Nat.le_zero.mp sl10
  show et_go none _ 166 13 _ [] _ 0 _ _
  refine hs_aload (i := 4) (p := 15) (by decide +kernel) rfl ?_
  refine hs_iload (i := 3) (p := 16) (by decide +kernel) rfl ?_
  refine hs_calls (mi := 142) (na := 2) (lk := 7) (lm := 2) (L0 := eg_en (eg_mL 142) [.ref b2, .int z]) (by decide +kernel) rfl rfl rfl rfl rfl rfl (by rw [show eg_mL 142 = 2 from by decide +kernel]; first | done | rfl) ?_
  refine (hc_needW (K10, [], G10) [.ref b2, .int z] _ hH (by show 0 ≤ _; omega) rfl (ht_ac (.inr ⟨by decide, _, rfl, k_b2⟩) (ht_ac hi_any ht_an))).mono (fun u hu => hs_cbxn (by decide +kernel) hu (fun K16 G16 c16 s16 x16 f16 hH cl16 sl16 => ?_) (fun K16 G16 c16 s16 x16 f16 hH cl16 sl16 => hZ.fr hx0 f16 (by decide +kernel)))
  have hZ := hZ.fr hx0 f16 (by decide +kernel)
  have k_th := x16 _ _ k_th
  have k_sp := x16 _ _ k_sp
  have k_b2 := x16 _ _ k_b2
  have hf := hf.tr hx0 (f16.wk (by decide +kernel))
  have hx0 := hx0.tr x16
  obtain rfl : c16 = 0 := Nat.le_zero.mp cl16
  obtain rfl : s16 = 0 := Nat.le_zero.mp sl16
  show et_go none _ 166 19 _ [] _ 0 _ _
  refine hs_aload (i := 0) (p := 20) (by decide +kernel) rfl ?_
  refine ht_getr (T := et_TT) (t := 12) (ci := 10) (f := 8) (p := 23) (by decide +kernel) rfl rfl hH k_th (fun a20 k_a20 e20 => ?_)
  obtain rfl : sp = a20 := (Value.ref.inj (Option.some.inj (e20.symm.trans ((hf.2 th 12 k_th0 8 (by decide +kernel)).trans h80)))).symm
  refine hs_aload (i := 4) (p := 25) (by decide +kernel) rfl ?_
  refine ht_callv (T := et_TT) (t := 3) (mi := 35) (na := 1) (ci := 1) (lk := 7) (lm := 3) (L0 := eg_en (eg_mL 35) [.ref sp, .ref b2]) (by decide +kernel) rfl hH k_sp rfl rfl rfl rfl rfl (by rw [show eg_mL 35 = 3 from by decide +kernel]; first | done | rfl) ?_
  refine ((ek_c5 (K16, [], G16) [.ref sp, .ref b2] _ hH (by show 1 ≤ _; omega) rfl (ht_ac (.inr ⟨by decide, _, rfl, k_sp⟩) (ht_ac (.inr ⟨by decide, _, rfl, k_b2⟩) ht_an))).and (ft_35 hH k_sp k_b2 (by omega))).mono (fun u hu => hs_cbnP (P := fun g => hole K16 sp G16 g) ⟨hu.1, hu.2.2⟩ (fun K25 G25 c25 s25 x25 f25 hH cl25 sl25 hh25 => ?_))
  have hZ := hZ.tr hx0 hh25
  have k_th := x25 _ _ k_th
  have k_sp := x25 _ _ k_sp
  have k_b2 := x25 _ _ k_b2
  have hf := hf.tr hx0 (f25.wk (by decide +kernel))
  have hx0 := hx0.tr x25
  obtain rfl : c25 = 0 := Nat.le_zero.mp cl25
  obtain rfl : s25 = 0 := Nat.le_zero.mp sl25
  show et_go none _ 166 28 _ [] _ 0 _ _
  have hq := et_pok (T := et_TT) (Ks := [ek_q2, ek_q3, ek_q5]) (an := ek_an) (mi := 166) (pc := 28) (ps := [.inr (.inr (0, 12)), .inl (et_mn, et_mx), .inl (et_mn, et_mx), .inl (et_mn, et_mx), .inr (.inr (0, 3))]) (M := [(15, 0, 100000)]) (es := [(.inl (some (.inl (et_mn, et_mx))), 2, 2048)]) (w := (K25, [], G25)) (as := [.ref th, .int x, .int y, .int z, .ref b2]) (d := 5) (d2 := d + 5) (List.forall_mem_cons.mpr ⟨ek_c2, (List.forall_mem_cons.mpr ⟨ek_c3, (List.forall_mem_cons.mpr ⟨ek_c5, (fun _ h => absurd h List.not_mem_nil)⟩)⟩)⟩) (by decide) (by decide +kernel) hH (by omega) rfl (ht_ac (.inr ⟨by decide, _, rfl, k_th⟩) (ht_ac hi_any (ht_ac hi_any (ht_ac hi_any (ht_ac (.inr ⟨by decide, _, rfl, k_b2⟩) ht_an)))))
  rw [show eg_mL 166 = 7 from by decide +kernel] at hq
  refine et_go.mono hq (fun u hu => ?_)
  obtain ⟨_, _, K9, h1, h2, -⟩ := hu
  exact hZ.fr hx0 h2 (by decide +kernel)
theorem ft_169 (hH : et_H et_TT w.1 w.2.2) (k_th0 : w.1 th = some 12) (h80 : et_pl (eg_at w.2.2 th) 8 = some (.ref sp)) (k_sp0 : w.1 sp = some 3) (k_e : w.1 e = some 3) (k_t : w.1 t = some 11) (hc : n ≤ 5) (hd : 34 ≤ d2) : et_go none d2 169 0 (eg_en (eg_mL 169) [.ref th, .ref e, .ref t, .int (Int32.ofNat n)]) [] w.2.2 0 0 (fun u => hole w.1 sp w.2.2 u.2.1) := by
  obtain ⟨d, rfl⟩ : ∃ d, d2 = d + 34 := ⟨d2 - 34, by omega⟩
  have hx0 : et_ex w.1 w.1 := et_ex.rf
  have hf : et_fr ey_M w.1 w.2.2 w.2.2 := et_fr.rf
  have hZ : hole w.1 sp w.2.2 w.2.2 := hole.rf
  have k_th := k_th0
  have k_sp := k_sp0
  rw [show eg_mL 169 = 8 from by decide +kernel]
  show et_go none (d + 34) 169 0 [some (.ref th), some (.ref e), some (.ref t), some (.int (Int32.ofNat n)), none, none, none, none] [] w.2.2 0 0 _
  refine hs_aload (i := 0) (p := 1) (by decide +kernel) rfl ?_
  refine ht_getr (T := et_TT) (t := 12) (ci := 10) (f := 8) (p := 4) (by decide +kernel) rfl rfl hH k_th (fun a1 k_a1 e1 => ?_)
  obtain rfl : sp = a1 := (Value.ref.inj (Option.some.inj (e1.symm.trans ((hf.2 th 12 k_th0 8 (by decide +kernel)).trans h80)))).symm
  refine hs_aload (i := 1) (p := 5) (by decide +kernel) rfl ?_
  refine ht_callv (T := et_TT) (t := 3) (mi := 35) (na := 1) (ci := 1) (lk := 8) (lm := 3) (L0 := eg_en (eg_mL 35) [.ref sp, .ref e]) (by decide +kernel) rfl hH k_sp rfl rfl rfl rfl rfl (by rw [show eg_mL 35 = 3 from by decide +kernel]; first | done | rfl) ?_
  refine ((ek_c5 (w.1, [], w.2.2) [.ref sp, .ref e] _ hH (by show 1 ≤ _; omega) rfl (ht_ac (.inr ⟨by decide, _, rfl, k_sp⟩) (ht_ac (.inr ⟨by decide, _, rfl, k_e⟩) ht_an))).and (ft_35 hH k_sp k_e (by omega))).mono (fun u hu => hs_cbnP (P := fun g => hole w.1 sp w.2.2 g) ⟨hu.1, hu.2.2⟩ (fun K5 G5 c5 s5 x5 f5 hH cl5 sl5 hh5 => ?_))
  have hZ := hZ.tr hx0 hh5
  have k_th := x5 _ _ k_th
  have k_sp := x5 _ _ k_sp
  have k_e := x5 _ _ k_e
  have k_t := x5 _ _ k_t
  have hf := hf.tr hx0 (f5.wk (by decide +kernel))
  have hx0 := hx0.tr x5
  obtain rfl : c5 = 0 := Nat.le_zero.mp cl5
  obtain rfl : s5 = 0 := Nat.le_zero.mp sl5
  show et_go none _ 169 8 _ [] _ 0 _ _
  have hq := et_pok (T := et_TT) (Ks := [ek_q13, ek_q5, ek_q24, (hq_isT 0 22)]) (an := ek_an) (mi := 169) (pc := 8) (ps := [.inr (.inr (0, 12)), .inr (.inr (0, 3)), .inr (.inr (0, 11)), .inl (0, 5)]) (M := [(3, 4, 4), (3, 5, 5), (4, 1, 1), (4, 2, 2), (4, 3, 3), (4, 4, 4), (4, 5, 5), (4, 6, 6), (12, 10, 10), (15, 0, 100000)]) (es := [(.inl none, 0, 0)]) (w := (K5, [], G5)) (as := [.ref th, .ref e, .ref t, .int (Int32.ofNat n)]) (d := 34) (d2 := d + 34) (List.forall_mem_cons.mpr ⟨ek_c13, (List.forall_mem_cons.mpr ⟨ek_c5, (List.forall_mem_cons.mpr ⟨ek_c24, (List.forall_mem_cons.mpr ⟨hc_isT, (fun _ h => absurd h List.not_mem_nil)⟩)⟩)⟩)⟩) (by decide) (by decide +kernel) hH (by omega) rfl (ht_ac (.inr ⟨by decide, _, rfl, k_th⟩) (ht_ac (.inr ⟨by decide, _, rfl, k_e⟩) (ht_ac (.inr ⟨by decide, _, rfl, k_t⟩) (ht_ac (hi_nv (by omega) (by omega)) ht_an))))
  rw [show eg_mL 169 = 8 from by decide +kernel] at hq
  refine et_go.mono hq (fun u hu => ?_)
  obtain ⟨_, _, K9, h1, h2, -⟩ := hu
  exact hZ.fr hx0 h2 (by decide +kernel)
theorem ft_167L {K : et_K} {G : eg_G} (hH : et_H et_TT K G) (hx0 : et_ex w.1 K) (hf : et_fr ey_M w.1 w.2.2 G) (hZ : hole w.1 sp w.2.2 G) (k_th0 : w.1 th = some 12) (h80 : et_pl (eg_at w.2.2 th) 8 = some (.ref sp)) (k_th : K th = some 12) (k_sp : K sp = some 3) (k_e : K e = some 3) (k_t : K t = some 11) (hc : n ≤ 5) (hr : row < 2147483648) : et_go none (d + 35) 167 61 [some (.ref th), some (.int x), some (.int y), some (.ref e), some (.ref t), some (.int (Int32.ofNat n)), some (.int rows), some (.int (Int32.ofNat row))] [] G 0 0 (fun u => hole w.1 sp w.2.2 u.2.1) := by
  induction hm : 2147483648 - row using Nat.strongRecOn generalizing row K G with
  | _ z ih =>
    refine hs_iload (i := 7) (p := 63) (by decide +kernel) rfl ?_
    refine hs_iload (i := 6) (p := 65) (by decide +kernel) rfl ?_
    refine hs_br2 (c := .ge) (t := 94) (f := 68) (by decide +kernel) (fun (c65 : rows ≤ Int32.ofNat row) => ?_) (fun (c65 : ¬ (rows ≤ Int32.ofNat row)) => ?_)
    · refine hs_aload (i := 0) (p := 95) (by decide +kernel) rfl ?_
      refine ht_geti (T := et_TT) (t := 12) (ci := 10) (f := 10) (p := 98) (by decide +kernel) rfl rfl hH k_th (fun c95 h95 g95 e95 => ?_)
      refine hs_k (x := Int32.ofNat 50) (p := 100) (by decide +kernel) ?_
      refine hs_br2 (c := .le) (t := 107) (f := 103) (by decide +kernel) (fun (c100 : c95 ≤ Int32.ofNat 50) => ?_) (fun (c100 : ¬ (c95 ≤ Int32.ofNat 50)) => ?_)
      · refine hs_aload (i := 0) (p := 108) (by decide +kernel) rfl ?_
        refine ht_geti (T := et_TT) (t := 12) (ci := 10) (f := 10) (p := 111) (by decide +kernel) rfl rfl hH k_th (fun c108 h108 g108 e108 => ?_)
        refine hs_iret (by decide +kernel) ?_
        exact hZ
      · refine hs_k (x := (-1)) (p := 104) (by decide +kernel) ?_
        refine hs_goto (p := 111) (by decide +kernel) ?_
        refine hs_iret (by decide +kernel) ?_
        exact hZ
    · have h65 : row + 1 < 2147483648 := by
        have h9 := Int32.toInt_lt rows
        rw [Int32.le_iff_toInt_le, hs_nint hr] at c65
        omega
      refine hs_aload (i := 0) (p := 69) (by decide +kernel) rfl ?_
      refine hs_iload (i := 7) (p := 71) (by decide +kernel) rfl ?_
      refine hs_iload (i := 5) (p := 73) (by decide +kernel) rfl ?_
      refine ht_callv (T := et_TT) (t := 12) (mi := 168) (na := 2) (ci := 10) (lk := 8) (lm := 6) (L0 := eg_en (eg_mL 168) [.ref th, .int (Int32.ofNat row), .int (Int32.ofNat n)]) (by decide +kernel) rfl hH k_th rfl rfl rfl rfl rfl (by rw [show eg_mL 168 = 6 from by decide +kernel]; first | done | rfl) ?_
      refine (ek_c23 (K, [], G) [.ref th, .int (Int32.ofNat row), .int (Int32.ofNat n)] _ hH (by show 1 ≤ _; omega) rfl (ht_ac (.inr ⟨by decide, _, rfl, k_th⟩) (ht_ac hi_any (ht_ac hi_any ht_an)))).mono (fun u hu => hs_cbv hu (fun v73 K73 G73 c73 s73 x73 f73 hH hv73 cl73 sl73 => ?_))
      have hZ := hZ.fr hx0 f73 (by decide +kernel)
      have k_th := x73 _ _ k_th
      have k_sp := x73 _ _ k_sp
      have k_e := x73 _ _ k_e
      have k_t := x73 _ _ k_t
      have hf := hf.tr hx0 (f73.wk (by decide +kernel))
      have hx0 := hx0.tr x73
      obtain rfl : c73 = 0 := Nat.le_zero.mp cl73
      obtain rfl : s73 = 0 := Nat.le_zero.mp sl73
      obtain ⟨n73, hn73, rfl⟩ := hi_nat hv73
      show et_go none _ 167 76 _ [.int (Int32.ofNat n73)] _ 0 _ _
      refine hs_br1 (c := .eq) (t := 88) (f := 79) (by decide +kernel) (fun (c76 : Int32.ofNat n73 = 0) => ?_) (fun (c76 : ¬ (Int32.ofNat n73 = 0)) => ?_)
      · refine hs_iinc1 (i := 7) (p := 91) (by decide +kernel) rfl (Nat.le_of_ble_eq_true rfl) ?_
        refine hs_goto (p := 61) (by decide +kernel) ?_
        show et_go none _ 167 61 [some (.ref th), some (.int x), some (.int y), some (.ref e), some (.ref t), some (.int (Int32.ofNat n)), some (.int rows), some (.int (Int32.ofNat (row + 1)))] [] _ _ _ _
        exact ih (2147483648 - (row + 1)) (by omega) hH hx0 hf hZ k_th k_sp k_e k_t (by omega) rfl
      · refine hs_aload (i := 0) (p := 80) (by decide +kernel) rfl ?_
        refine hs_aload (i := 3) (p := 81) (by decide +kernel) rfl ?_
        refine hs_aload (i := 4) (p := 83) (by decide +kernel) rfl ?_
        refine hs_iload (i := 5) (p := 85) (by decide +kernel) rfl ?_
        refine ht_callv (T := et_TT) (t := 12) (mi := 169) (na := 3) (ci := 10) (lk := 8) (lm := 8) (L0 := eg_en (eg_mL 169) [.ref th, .ref e, .ref t, .int (Int32.ofNat n)]) (by decide +kernel) rfl hH k_th rfl rfl rfl rfl rfl (by rw [show eg_mL 169 = 8 from by decide +kernel]; first | done | rfl) ?_
        refine ((ek_c25 (K73, [], G73) [.ref th, .ref e, .ref t, .int (Int32.ofNat n)] _ hH (by show 34 ≤ _; omega) rfl (ht_ac (.inr ⟨by decide, _, rfl, k_th⟩) (ht_ac (.inr ⟨by decide, _, rfl, k_e⟩) (ht_ac (.inr ⟨by decide, _, rfl, k_t⟩) (ht_ac (hi_nv (by omega) (by omega)) ht_an))))).and (ft_169 (w := (K73, [], G73)) hH k_th ((hf.2 th 12 k_th0 8 (by decide +kernel)).trans h80) k_sp k_e k_t hc (by omega))).mono (fun u hu => hs_cbnP (P := fun g => hole K73 sp G73 g) hu (fun K85 G85 c85 s85 x85 f85 hH cl85 sl85 hh85 => ?_))
        have hZ := hZ.tr hx0 hh85
        have k_th := x85 _ _ k_th
        have k_sp := x85 _ _ k_sp
        have k_e := x85 _ _ k_e
        have k_t := x85 _ _ k_t
        have hf := hf.tr hx0 (f85.wk (by decide +kernel))
        have hx0 := hx0.tr x85
        obtain rfl : c85 = 0 := Nat.le_zero.mp cl85
        obtain rfl : s85 = 0 := Nat.le_zero.mp sl85
        show et_go none _ 167 88 _ [] _ 0 _ _
        refine hs_iinc1 (i := 7) (p := 91) (by decide +kernel) rfl (Nat.le_of_ble_eq_true rfl) ?_
        refine hs_goto (p := 61) (by decide +kernel) ?_
        show et_go none _ 167 61 [some (.ref th), some (.int x), some (.int y), some (.ref e), some (.ref t), some (.int (Int32.ofNat n)), some (.int rows), some (.int (Int32.ofNat (row + 1)))] [] _ _ _ _
        exact ih (2147483648 - (row + 1)) (by omega) hH hx0 hf hZ k_th k_sp k_e k_t (by omega) rfl
theorem ft_167P {K : et_K} {G : eg_G} (hH : et_H et_TT K G) (hx0 : et_ex w.1 K) (hf : et_fr ey_M w.1 w.2.2 G) (hZ : hole w.1 sp w.2.2 G) (k_th0 : w.1 th = some 12) (h80 : et_pl (eg_at w.2.2 th) 8 = some (.ref sp)) (k_th : K th = some 12) (k_sp : K sp = some 3) (k_e : K e = some 3) (k_t : K t = some 11) (hc : n ≤ 5) (hr : row ≤ 5) : et_go none (d + 35) 167 38 [some (.ref th), some (.int x), some (.int y), some (.ref e), some (.ref t), some (.int (Int32.ofNat n)), some (.int rows), some (.int (Int32.ofNat row))] [] G 0 0 (fun u => hole w.1 sp w.2.2 u.2.1) := by
  induction hm : 5 - row using Nat.strongRecOn generalizing row rows with
  | _ z ih =>
    refine hs_iload (i := 7) (p := 40) (by decide +kernel) rfl ?_
    refine hs_iload (i := 5) (p := 42) (by decide +kernel) rfl ?_
    refine hs_br2n (c := .ge) (t := 58) (f := 45) (by decide +kernel) (by omega) (by omega) (fun (c42 : n ≤ row) => ?_) (fun (c42 : ¬ (n ≤ row)) => ?_)
    · refine hs_k (x := Int32.ofNat 0) (p := 59) (by decide +kernel) ?_
      refine hs_istore (i := 7) (p := 61) (by decide +kernel) (Nat.le_of_ble_eq_true rfl) ?_
      show et_go none _ 167 61 [some (.ref th), some (.int x), some (.int y), some (.ref e), some (.ref t), some (.int (Int32.ofNat n)), some (.int rows), some (.int (Int32.ofNat 0))] [] _ _ _ _
      exact ft_167L hH hx0 hf hZ k_th0 h80 k_th k_sp k_e k_t hc (by decide)
    · refine hs_iload (i := 6) (p := 47) (by decide +kernel) rfl ?_
      refine hs_iload (i := 5) (p := 49) (by decide +kernel) rfl ?_
      refine hs_imul (p := 50) (by decide +kernel) ?_
      refine hs_istore (i := 6) (p := 52) (by decide +kernel) (Nat.le_of_ble_eq_true rfl) ?_
      refine hs_iinc1 (i := 7) (p := 55) (by decide +kernel) rfl (Nat.le_of_ble_eq_true rfl) ?_
      refine hs_goto (p := 38) (by decide +kernel) ?_
      show et_go none _ 167 38 [some (.ref th), some (.int x), some (.int y), some (.ref e), some (.ref t), some (.int (Int32.ofNat n)), some (.int (rows * Int32.ofNat n)), some (.int (Int32.ofNat (row + 1)))] [] _ _ _ _
      exact ih (5 - (row + 1)) (by omega) (by omega) rfl
theorem ft_167 (hH : et_H et_TT w.1 w.2.2) (k_th0 : w.1 th = some 12) (h80 : et_pl (eg_at w.2.2 th) 8 = some (.ref sp)) (k_sp0 : w.1 sp = some 3) (hd : 35 ≤ d2) : et_go none d2 167 0 (eg_en (eg_mL 167) [.ref th, .int x, .int y]) [] w.2.2 0 0 (fun u => hole w.1 sp w.2.2 u.2.1) := by
  obtain ⟨d, rfl⟩ : ∃ d, d2 = d + 35 := ⟨d2 - 35, by omega⟩
  have hx0 : et_ex w.1 w.1 := et_ex.rf
  have hf : et_fr ey_M w.1 w.2.2 w.2.2 := et_fr.rf
  have hZ : hole w.1 sp w.2.2 w.2.2 := hole.rf
  have k_th := k_th0
  have k_sp := k_sp0
  rw [show eg_mL 167 = 8 from by decide +kernel]
  show et_go none (d + 35) 167 0 [some (.ref th), some (.int x), some (.int y), none, none, none, none, none] [] w.2.2 0 0 _
  refine hs_aload (i := 0) (p := 1) (by decide +kernel) rfl ?_
  refine hs_iload (i := 1) (p := 2) (by decide +kernel) rfl ?_
  refine ht_callv (T := et_TT) (t := 12) (mi := 128) (na := 1) (ci := 10) (lk := 8) (lm := 2) (L0 := eg_en (eg_mL 128) [.ref th, .int x]) (by decide +kernel) rfl hH k_th rfl rfl rfl rfl rfl (by rw [show eg_mL 128 = 2 from by decide +kernel]; first | done | rfl) ?_
  refine (hc_needE (w.1, [], w.2.2) [.ref th, .int x] _ hH (by show 0 ≤ _; omega) rfl (ht_ac (.inr ⟨by decide, _, rfl, k_th⟩) (ht_ac hi_any ht_an))).mono (fun u hu => hs_cbx (by decide +kernel) hu (fun v2 K2 G2 c2 s2 x2 f2 hH hv2 cl2 sl2 => ?_) (fun K2 G2 c2 s2 x2 f2 hH cl2 sl2 => hZ.fr hx0 f2 (by decide +kernel)))
  have hZ := hZ.fr hx0 f2 (by decide +kernel)
  have k_th := x2 _ _ k_th
  have k_sp := x2 _ _ k_sp
  have hf := hf.tr hx0 (f2.wk (by decide +kernel))
  have hx0 := hx0.tr x2
  obtain rfl : c2 = 0 := Nat.le_zero.mp cl2
  obtain rfl : s2 = 0 := Nat.le_zero.mp sl2
  obtain ⟨b2, rfl, k_b2⟩ := hi_ref hv2
  show et_go none _ 167 5 _ [.ref b2] _ 0 _ _
  refine hs_astore (i := 3) (p := 6) (by decide +kernel) (Nat.le_of_ble_eq_true rfl) ?_
  refine hs_aload (i := 0) (p := 7) (by decide +kernel) rfl ?_
  refine hs_iload (i := 2) (p := 8) (by decide +kernel) rfl ?_
  refine ht_callv (T := et_TT) (t := 12) (mi := 147) (na := 1) (ci := 10) (lk := 8) (lm := 2) (L0 := eg_en (eg_mL 147) [.ref th, .int y]) (by decide +kernel) rfl hH k_th rfl rfl rfl rfl rfl (by rw [show eg_mL 147 = 2 from by decide +kernel]; first | done | rfl) ?_
  refine (hc_needT (K2, [], G2) [.ref th, .int y] _ hH (by show 0 ≤ _; omega) rfl (ht_ac (.inr ⟨by decide, _, rfl, k_th⟩) (ht_ac hi_any ht_an))).mono (fun u hu => hs_cbx (by decide +kernel) hu (fun v8 K8 G8 c8 s8 x8 f8 hH hv8 cl8 sl8 => ?_) (fun K8 G8 c8 s8 x8 f8 hH cl8 sl8 => hZ.fr hx0 f8 (by decide +kernel)))
  have hZ := hZ.fr hx0 f8 (by decide +kernel)
  have k_th := x8 _ _ k_th
  have k_sp := x8 _ _ k_sp
  have k_b2 := x8 _ _ k_b2
  have hf := hf.tr hx0 (f8.wk (by decide +kernel))
  have hx0 := hx0.tr x8
  obtain rfl : c8 = 0 := Nat.le_zero.mp cl8
  obtain rfl : s8 = 0 := Nat.le_zero.mp sl8
  obtain ⟨b8, rfl, k_b8⟩ := hi_ref hv8
  show et_go none _ 167 11 _ [.ref b8] _ 0 _ _
  refine hs_astore (i := 4) (p := 13) (by decide +kernel) (Nat.le_of_ble_eq_true rfl) ?_
  refine hs_aload (i := 0) (p := 14) (by decide +kernel) rfl ?_
  refine hs_k (x := Int32.ofNat 51) (p := 16) (by decide +kernel) ?_
  refine ht_put (M := [(12, 10, 10)]) (T := et_TT) (t := 12) (ci := 10) (f := 10) (p := 19) (ty := .int) (by decide +kernel) rfl rfl rfl rfl rfl (by decide +kernel) hH k_th hi_any (fun G16 hH f16 e16 => ?_)
  have hZ := hZ.fr hx0 f16 (by decide +kernel)
  have hf := hf.tr hx0 (f16.wk (by decide +kernel))
  refine hs_aload (i := 0) (p := 20) (by decide +kernel) rfl ?_
  refine ht_getr (T := et_TT) (t := 12) (ci := 10) (f := 0) (p := 23) (by decide +kernel) rfl rfl hH k_th (fun a20 k_a20 e20 => ?_)
  refine ht_getn (T := et_TT) (t := 10) (ci := 8) (f := 2) (p := 26) (by decide +kernel) rfl rfl hH k_a20 (fun c23 h23 e23 => ?_)
  refine hs_k (x := Int32.ofNat 5) (p := 27) (by decide +kernel) ?_
  refine hs_math (mi := 311) (lk := 8) (p := 30) (by decide +kernel) rfl rfl rfl rfl ?_
  obtain ⟨n, hn, en⟩ : ∃ n : Nat, n ≤ 5 ∧ (if Int32.ofNat 5 < Int32.ofNat c23 then Int32.ofNat 5 else Int32.ofNat c23) = Int32.ofNat n := by
    by_cases h : 5 < c23
    · exact ⟨5, Nat.le_refl _, if_pos ((hs_nlt (by decide) (by omega)).mpr h)⟩
    · exact ⟨c23, by omega, if_neg (fun h9 => h ((hs_nlt (by decide) (by omega)).mp h9))⟩
  rw [en]
  refine hs_istore (i := 5) (p := 32) (by decide +kernel) (Nat.le_of_ble_eq_true rfl) ?_
  refine hs_k (x := Int32.ofNat 1) (p := 33) (by decide +kernel) ?_
  refine hs_istore (i := 6) (p := 35) (by decide +kernel) (Nat.le_of_ble_eq_true rfl) ?_
  refine hs_k (x := Int32.ofNat 0) (p := 36) (by decide +kernel) ?_
  refine hs_istore (i := 7) (p := 38) (by decide +kernel) (Nat.le_of_ble_eq_true rfl) ?_
  show et_go none _ 167 38 [some (.ref th), some (.int x), some (.int y), some (.ref b2), some (.ref b8), some (.int (Int32.ofNat n)), some (.int (Int32.ofNat 1)), some (.int (Int32.ofNat 0))] [] _ _ _ _
  exact ft_167P hH hx0 hf hZ k_th0 h80 k_th k_sp k_b2 k_b8 hn (by decide)
end EYB
end
section
/-! FUNCTIONAL: the class's wire -/
theorem xi_eq0 {x : Int32} : x = 0 ↔ x.toInt = 0 := by
  rw [show (x.toInt = 0) = (x.toInt = (0 : Int32).toInt) from rfl, Int32.toInt_inj]
section UCA
variable {K : et_K} {G : eg_G} {d d2 th s0 s1 sp ya yb ea b e n m out : Nat} {x y z : Int32} {E F : Nat → Nat} {c i : Nat → Nat}
theorem fc_needEyeY (hH : et_H et_TT K G) (k_th : K th = some 12) (h0 : et_pl (eg_at G th) 0 = some (.ref s0)) (k_s0 : K s0 = some 10) (h5 : et_pl (eg_at G s0) 5 = some (.int (Int32.ofNat e))) (he : e ≤ 3) (h6 : et_pl (eg_at G s0) 6 = some (.ref ea)) (k_ea : K ea = some 40) (hn : n < e) (hE : et_pl (eg_at G ea) n = some (.ref b)) : et_go none d2 128 0 (eg_en (eg_mL 128) [.ref th, .int (Int32.ofNat n)]) [] G 0 0 (xe_Z (fun _ _ => False) K G (fun G' r => G' = G ∧ r = .inl (some (.ref b)))) := by
  refine (fc_needEye hH k_th h0 k_s0 h5 he h6 k_ea).mono (fun u hu => ?_)
  obtain ⟨G', v, c, s, e1, h1, h2, h3, h4⟩ := hu
  refine ⟨G', v, c, s, e1, h1, h2, h3, ?_⟩
  rcases h4 with ⟨h4, -⟩ | ⟨n', b', h4, h7, h8, -, h9⟩
  · exact absurd (xr_n (by omega) hn) h4
  · have e2 : n = n' := (hs_neq (by omega) (by omega)).mp h4
    subst e2
    rw [hE] at h9
    cases h9
    exact h8
theorem fc_needEyeN (hH : et_H et_TT K G) (k_th : K th = some 12) (h0 : et_pl (eg_at G th) 0 = some (.ref s0)) (k_s0 : K s0 = some 10) (h5 : et_pl (eg_at G s0) 5 = some (.int (Int32.ofNat e))) (he : e ≤ 3) (h6 : et_pl (eg_at G s0) 6 = some (.ref ea)) (k_ea : K ea = some 40) (hx : ¬ xr x e) : et_go none d2 128 0 (eg_en (eg_mL 128) [.ref th, .int x]) [] G 0 0 (xe_Z (fun _ _ => False) K G (fun G' r => G' = G ∧ r = .inr 1)) := by
  refine (fc_needEye hH k_th h0 k_s0 h5 he h6 k_ea).mono (fun u hu => ?_)
  obtain ⟨G', v, c, s, e1, h1, h2, h3, h4⟩ := hu
  refine ⟨G', v, c, s, e1, h1, h2, h3, ?_⟩
  rcases h4 with ⟨-, h4⟩ | ⟨n', b', h4, h7, -⟩
  · exact h4
  · exact absurd (by rw [h4]; exact xr_n (by omega) h7) hx
theorem fc_join (hH : et_H et_TT K G) (k_b : K b = some 3) (hb : et_pl (eg_at G b) 0 = some (.int (Int32.ofNat m))) (hm : m < 6) : et_go none d2 38 0 (eg_en (eg_mL 38) [.ref b, .int y, .int z]) [] G 0 0 (xw_Z (fun a j => (a = b ∧ j = 0) ∨ K a = some 15) K G (fun G' r => r = none ∧ et_pl (eg_at G' b) 0 = some (.int (Int32.ofNat (m + 1))))) := by
  rw [show eg_mL 38 = 3 from by decide +kernel]
  show et_go none d2 38 0 [some (.ref b), some (.int y), some (.int z)] [] G 0 0 (xw_Z _ _ _ _)
  have lt_b := (hH.2.2 _ _ k_b).1
  have hX : xf (fun a j => (a = b ∧ j = 0) ∨ K a = some 15) G G := xf.rf
  refine hs_aload (i := 0) (p := 1) (by decide +kernel) rfl ?_
  refine hf_get (T := et_TT) (t := 3) (ci := 1) (f := 0) (p := 4) (by decide +kernel) rfl hH k_b hb ?_
  refine hs_k (x := Int32.ofNat 6) (p := 6) (by decide +kernel) ?_
  refine hs_br2n (c := .ge) (t := 39) (f := 9) (by decide +kernel) (by omega) (by omega) (fun (c6 : 6 ≤ m) => ?_) (fun (c6 : ¬ (6 ≤ m)) => ?_)
  · exact absurd c6 (by omega)
  · refine hs_aload (i := 0) (p := 10) (by decide +kernel) rfl ?_
    refine ht_getr (T := et_TT) (t := 3) (ci := 1) (f := 1) (p := 13) (by decide +kernel) rfl rfl hH k_b (fun a10 k_a10 e10 => ?_)
    have lt_a10 := (hH.2.2 _ _ k_a10).1
    refine hs_aload (i := 0) (p := 14) (by decide +kernel) rfl ?_
    refine hf_get (T := et_TT) (t := 3) (ci := 1) (f := 0) (p := 17) (by decide +kernel) rfl hH k_b hb ?_
    refine hs_iload (i := 1) (p := 18) (by decide +kernel) rfl ?_
    refine hf_ist (T := et_TT) (t := 15) (N := 6) (p := 19) (by decide +kernel) rfl rfl (by decide) hH k_a10 (by omega) (by decide) (fun s hs => absurd hs List.not_mem_nil) (fun G18 hH x18 e18 => ?_)
    have hb := (x18.2 b 0 lt_b (fun h => (hi_ne k_b k_a10 (by decide)) h.1)).trans hb
    have e10 := (x18.2 b 1 lt_b (fun h => (hi_ne k_b k_a10 (by decide)) h.1)).trans e10
    have lt_b := Nat.lt_of_lt_of_le lt_b x18.1
    have lt_a10 := Nat.lt_of_lt_of_le lt_a10 x18.1
    have hX := hX.tr x18 (fun q j hq h => .inr (by rw [h.1]; exact k_a10))
    refine hs_aload (i := 0) (p := 20) (by decide +kernel) rfl ?_
    refine ht_getr (T := et_TT) (t := 3) (ci := 1) (f := 2) (p := 23) (by decide +kernel) rfl rfl hH k_b (fun a20 k_a20 e20 => ?_)
    have lt_a20 := (hH.2.2 _ _ k_a20).1
    refine hs_aload (i := 0) (p := 24) (by decide +kernel) rfl ?_
    refine hf_get (T := et_TT) (t := 3) (ci := 1) (f := 0) (p := 27) (by decide +kernel) rfl hH k_b hb ?_
    refine hs_iload (i := 2) (p := 28) (by decide +kernel) rfl ?_
    refine hf_ist (T := et_TT) (t := 15) (N := 6) (p := 29) (by decide +kernel) rfl rfl (by decide) hH k_a20 (by omega) (by decide) (fun s hs => absurd hs List.not_mem_nil) (fun G28 hH x28 e28 => ?_)
    have hb := (x28.2 b 0 lt_b (fun h => (hi_ne k_b k_a20 (by decide)) h.1)).trans hb
    have e10 := (x28.2 b 1 lt_b (fun h => (hi_ne k_b k_a20 (by decide)) h.1)).trans e10
    have e20 := (x28.2 b 2 lt_b (fun h => (hi_ne k_b k_a20 (by decide)) h.1)).trans e20
    have lt_b := Nat.lt_of_lt_of_le lt_b x28.1
    have lt_a10 := Nat.lt_of_lt_of_le lt_a10 x28.1
    have lt_a20 := Nat.lt_of_lt_of_le lt_a20 x28.1
    have hX := hX.tr x28 (fun q j hq h => .inr (by rw [h.1]; exact k_a20))
    refine hs_aload (i := 0) (p := 30) (by decide +kernel) rfl ?_
    refine hs_dup1 (p := 31) (by decide +kernel) ?_
    refine hf_get (T := et_TT) (t := 3) (ci := 1) (f := 0) (p := 34) (by decide +kernel) rfl hH k_b hb ?_
    refine hs_k (x := Int32.ofNat 1) (p := 35) (by decide +kernel) ?_
    refine hs_iaddn (p := 36) (by decide +kernel) ?_
    refine hf_put (T := et_TT) (t := 3) (ci := 1) (f := 0) (p := 39) (ty := .int) (by decide +kernel) rfl rfl rfl rfl rfl hH k_b (hi_nv (by omega) (by omega)) (fun G36 hH x36 e36 => ?_)
    have e10 := (x36.2 b 1 lt_b (fun h => absurd h.2 (by decide))).trans e10
    have e20 := (x36.2 b 2 lt_b (fun h => absurd h.2 (by decide))).trans e20
    have lt_b := Nat.lt_of_lt_of_le lt_b x36.1
    have lt_a10 := Nat.lt_of_lt_of_le lt_a10 x36.1
    have lt_a20 := Nat.lt_of_lt_of_le lt_a20 x36.1
    have hX := hX.tr x36 (fun q j hq h => .inl h)
    refine hs_vret (by decide +kernel) ?_
    exact ⟨_, _, rfl, hH, hX, rfl, e36⟩
theorem fc_wire (hH : et_H et_TT K G) (k_th : K th = some 12) (h0 : et_pl (eg_at G th) 0 = some (.ref s0)) (k_s0 : K s0 = some 10) (h5 : et_pl (eg_at G s0) 5 = some (.int (Int32.ofNat e))) (he : e ≤ 3) (h6 : et_pl (eg_at G s0) 6 = some (.ref ea)) (k_ea : K ea = some 40) (hn : n < e) (hE : et_pl (eg_at G ea) n = some (.ref b)) (k_b : K b = some 3) (hb : et_pl (eg_at G b) 0 = some (.int (Int32.ofNat m))) (hm : m ≤ 6) (hd : 1 ≤ d2) : et_go none d2 140 0 (eg_en (eg_mL 140) [.ref th, .int (Int32.ofNat n), .int y, .int z]) [] G 0 0 (xe_Z (fun a j => (a = th ∧ (6 ≤ j ∧ j ≤ 7)) ∨ ((a = b ∧ j = 0) ∨ K a = some 15)) K G (fun G' r => (¬ (0 < y.toInt ∧ y.toInt < 65536 ∧ 0 ≤ z.toInt ∧ z.toInt ≤ 2) ∧ r = .inr 0 ∧ et_pl (eg_at G' b) 0 = some (.int (Int32.ofNat m))) ∨ ((0 < y.toInt ∧ y.toInt < 65536 ∧ 0 ≤ z.toInt ∧ z.toInt ≤ 2) ∧ m = 6 ∧ r = .inr 2 ∧ et_pl (eg_at G' b) 0 = some (.int (Int32.ofNat m))) ∨ ((0 < y.toInt ∧ y.toInt < 65536 ∧ 0 ≤ z.toInt ∧ z.toInt ≤ 2) ∧ m < 6 ∧ r = .inl (some (.int (Int32.ofNat m))) ∧ et_pl (eg_at G' b) 0 = some (.int (Int32.ofNat (m + 1)))))) := by
  obtain ⟨d, rfl⟩ : ∃ d, d2 = d + 1 := ⟨d2 - 1, by omega⟩
  have h2 : (Int32.ofNat 2).toInt = 2 := rfl
  rw [show eg_mL 140 = 5 from by decide +kernel]
  show et_go none (d + 1) 140 0 [some (.ref th), some (.int (Int32.ofNat n)), some (.int y), some (.int z), none] [] G 0 0 (xe_Z _ _ _ _)
  have lt_th := (hH.2.2 _ _ k_th).1
  have lt_s0 := (hH.2.2 _ _ k_s0).1
  have lt_ea := (hH.2.2 _ _ k_ea).1
  have lt_b := (hH.2.2 _ _ k_b).1
  have hX : xf (fun a j => (a = th ∧ (6 ≤ j ∧ j ≤ 7)) ∨ ((a = b ∧ j = 0) ∨ K a = some 15)) G G := xf.rf
  refine hs_aload (i := 0) (p := 1) (by decide +kernel) rfl ?_
  refine hs_iload (i := 1) (p := 2) (by decide +kernel) rfl ?_
  refine ht_callv (T := et_TT) (t := 12) (mi := 128) (na := 1) (ci := 10) (lk := 5) (lm := 2) (L0 := eg_en (eg_mL 128) [.ref th, .int (Int32.ofNat n)]) (by decide +kernel) rfl hH k_th rfl rfl rfl rfl rfl (by rw [show eg_mL 128 = 2 from by decide +kernel]; first | done | rfl) ?_
  refine (fc_needEyeY hH k_th h0 k_s0 h5 he h6 k_ea hn hE).mono (fun u hu => ?_)
  obtain ⟨G2, v2, c2, s2, rfl, hH, x2, hP2⟩ := hu
  obtain ⟨rfl, rfl⟩ := hP2
  refine hs_cb ?_
  show et_go none _ 140 5 _ [.ref b] _ _ _ _
  refine hs_astore (i := 4) (p := 7) (by decide +kernel) (Nat.le_of_ble_eq_true rfl) ?_
  refine hs_iload (i := 2) (p := 8) (by decide +kernel) rfl ?_
  refine hs_calls (mi := 135) (na := 1) (lk := 5) (lm := 1) (L0 := eg_en (eg_mL 135) [.int y]) (by decide +kernel) rfl rfl rfl rfl rfl rfl (by rw [show eg_mL 135 = 1 from by decide +kernel]; first | done | rfl) ?_
  refine (fc_needLit hH).mono (fun u hu => ?_)
  obtain ⟨G8, v8, c8, s8, rfl, hH, x8, hP8⟩ := hu
  rcases hP8 with ⟨xl, rfl, rfl⟩ | ⟨xl, rfl, rfl⟩
  · refine hf_cx (by decide +kernel) ?_
    exact ⟨_, _, _, _, rfl, hH, hX, .inl ⟨by omega, rfl, hb⟩⟩
  · refine hs_cb ?_
    show et_go none _ 140 11 _ [] _ _ _ _
    refine hs_iload (i := 2) (p := 12) (by decide +kernel) rfl ?_
    refine hs_br1 (c := .eq) (t := 24) (f := 15) (by decide +kernel) (fun (c12 : y = 0) => ?_) (fun (c12 : ¬ (y = 0)) => ?_)
    · refine hs_thr (x := 0) (lk := 5) (by decide +kernel) rfl rfl ?_
      try simp only [xi_eq0, xi_lt0, xi_ge0, xi_gt0, xi_le0, xi_ltn (k := 1) (by decide), xi_len (k := 1) (by decide), xi_nle (k := 1) (by decide), xi_nlt (k := 1) (by decide), xi_ltn (k := 2) (by decide), xi_len (k := 2) (by decide), xi_nle (k := 2) (by decide), xi_nlt (k := 2) (by decide), xi_ltn (k := 3) (by decide), xi_len (k := 3) (by decide), xi_nle (k := 3) (by decide), xi_nlt (k := 3) (by decide), xi_ltn (k := 6) (by decide), xi_len (k := 6) (by decide), xi_nle (k := 6) (by decide), xi_nlt (k := 6) (by decide), xi_ltn (k := 7) (by decide), xi_len (k := 7) (by decide), xi_nle (k := 7) (by decide), xi_nlt (k := 7) (by decide), xi_ltn (k := 15) (by decide), xi_len (k := 15) (by decide), xi_nle (k := 15) (by decide), xi_nlt (k := 15) (by decide), xi_ltn (k := 16) (by decide), xi_len (k := 16) (by decide), xi_nle (k := 16) (by decide), xi_nlt (k := 16) (by decide), xi_ltn (k := 20) (by decide), xi_len (k := 20) (by decide), xi_nle (k := 20) (by decide), xi_nlt (k := 20) (by decide), xi_ltn (k := 50) (by decide), xi_len (k := 50) (by decide), xi_nle (k := 50) (by decide), xi_nlt (k := 50) (by decide), xi_ltn (k := 60) (by decide), xi_len (k := 60) (by decide), xi_nle (k := 60) (by decide), xi_nlt (k := 60) (by decide), xi_ltn (k := 127) (by decide), xi_len (k := 127) (by decide), xi_nle (k := 127) (by decide), xi_nlt (k := 127) (by decide), xi_ltn (k := 128) (by decide), xi_len (k := 128) (by decide), xi_nle (k := 128) (by decide), xi_nlt (k := 128) (by decide), xi_ltn (k := 200) (by decide), xi_len (k := 200) (by decide), xi_nle (k := 200) (by decide), xi_nlt (k := 200) (by decide), xi_ltn (k := 2000) (by decide), xi_len (k := 2000) (by decide), xi_nle (k := 2000) (by decide), xi_nlt (k := 2000) (by decide), xi_ltn (k := 65535) (by decide), xi_len (k := 65535) (by decide), xi_nle (k := 65535) (by decide), xi_nlt (k := 65535) (by decide), xi_ltn (k := 65536) (by decide), xi_len (k := 65536) (by decide), xi_nle (k := 65536) (by decide), xi_nlt (k := 65536) (by decide)] at c12
      exact ⟨_, _, _, _, rfl, hH, hX, .inl ⟨by omega, rfl, hb⟩⟩
    · refine hs_iload (i := 3) (p := 16) (by decide +kernel) rfl ?_
      refine hs_br1 (c := .lt) (t := 24) (f := 19) (by decide +kernel) (fun (c16 : z < 0) => ?_) (fun (c16 : ¬ (z < 0)) => ?_)
      · refine hs_thr (x := 0) (lk := 5) (by decide +kernel) rfl rfl ?_
        try simp only [xi_eq0, xi_lt0, xi_ge0, xi_gt0, xi_le0, xi_ltn (k := 1) (by decide), xi_len (k := 1) (by decide), xi_nle (k := 1) (by decide), xi_nlt (k := 1) (by decide), xi_ltn (k := 2) (by decide), xi_len (k := 2) (by decide), xi_nle (k := 2) (by decide), xi_nlt (k := 2) (by decide), xi_ltn (k := 3) (by decide), xi_len (k := 3) (by decide), xi_nle (k := 3) (by decide), xi_nlt (k := 3) (by decide), xi_ltn (k := 6) (by decide), xi_len (k := 6) (by decide), xi_nle (k := 6) (by decide), xi_nlt (k := 6) (by decide), xi_ltn (k := 7) (by decide), xi_len (k := 7) (by decide), xi_nle (k := 7) (by decide), xi_nlt (k := 7) (by decide), xi_ltn (k := 15) (by decide), xi_len (k := 15) (by decide), xi_nle (k := 15) (by decide), xi_nlt (k := 15) (by decide), xi_ltn (k := 16) (by decide), xi_len (k := 16) (by decide), xi_nle (k := 16) (by decide), xi_nlt (k := 16) (by decide), xi_ltn (k := 20) (by decide), xi_len (k := 20) (by decide), xi_nle (k := 20) (by decide), xi_nlt (k := 20) (by decide), xi_ltn (k := 50) (by decide), xi_len (k := 50) (by decide), xi_nle (k := 50) (by decide), xi_nlt (k := 50) (by decide), xi_ltn (k := 60) (by decide), xi_len (k := 60) (by decide), xi_nle (k := 60) (by decide), xi_nlt (k := 60) (by decide), xi_ltn (k := 127) (by decide), xi_len (k := 127) (by decide), xi_nle (k := 127) (by decide), xi_nlt (k := 127) (by decide), xi_ltn (k := 128) (by decide), xi_len (k := 128) (by decide), xi_nle (k := 128) (by decide), xi_nlt (k := 128) (by decide), xi_ltn (k := 200) (by decide), xi_len (k := 200) (by decide), xi_nle (k := 200) (by decide), xi_nlt (k := 200) (by decide), xi_ltn (k := 2000) (by decide), xi_len (k := 2000) (by decide), xi_nle (k := 2000) (by decide), xi_nlt (k := 2000) (by decide), xi_ltn (k := 65535) (by decide), xi_len (k := 65535) (by decide), xi_nle (k := 65535) (by decide), xi_nlt (k := 65535) (by decide), xi_ltn (k := 65536) (by decide), xi_len (k := 65536) (by decide), xi_nle (k := 65536) (by decide), xi_nlt (k := 65536) (by decide)] at c12 c16
        exact ⟨_, _, _, _, rfl, hH, hX, .inl ⟨by omega, rfl, hb⟩⟩
      · refine hs_iload (i := 3) (p := 20) (by decide +kernel) rfl ?_
        refine hs_k (x := Int32.ofNat 2) (p := 21) (by decide +kernel) ?_
        refine hs_br2 (c := .le) (t := 32) (f := 24) (by decide +kernel) (fun (c21 : z ≤ Int32.ofNat 2) => ?_) (fun (c21 : ¬ (z ≤ Int32.ofNat 2)) => ?_)
        · refine hs_aload (i := 4) (p := 34) (by decide +kernel) rfl ?_
          refine hf_get (T := et_TT) (t := 3) (ci := 1) (f := 0) (p := 37) (by decide +kernel) rfl hH k_b hb ?_
          refine hs_k (x := Int32.ofNat 6) (p := 39) (by decide +kernel) ?_
          refine hs_br2n (c := .lt) (t := 50) (f := 42) (by decide +kernel) (by omega) (by omega) (fun (c39 : m < 6) => ?_) (fun (c39 : ¬ (m < 6)) => ?_)
          · refine hs_aload (i := 0) (p := 51) (by decide +kernel) rfl ?_
            refine ht_callv (T := et_TT) (t := 12) (mi := 120) (na := 0) (ci := 10) (lk := 5) (lm := 1) (L0 := eg_en (eg_mL 120) [.ref th]) (by decide +kernel) rfl hH k_th rfl rfl rfl rfl rfl (by rw [show eg_mL 120 = 1 from by decide +kernel]; first | done | rfl) ?_
            refine (fc_forget hH k_th).mono (fun u hu => xw_cb hu (fun G51 v51 hH x51 hP51 => ?_))
            have h0 := (x51.2 th 0 lt_th (fun h => absurd h.2 (by decide))).trans h0
            have h5 := (x51.2 s0 5 lt_s0 (fun h => (hi_ne k_s0 k_th (by decide)) h.1)).trans h5
            have h6 := (x51.2 s0 6 lt_s0 (fun h => (hi_ne k_s0 k_th (by decide)) h.1)).trans h6
            have hb := (x51.2 b 0 lt_b (fun h => (hi_ne k_b k_th (by decide)) h.1)).trans hb
            have lt_th := Nat.lt_of_lt_of_le lt_th x51.1
            have lt_s0 := Nat.lt_of_lt_of_le lt_s0 x51.1
            have lt_ea := Nat.lt_of_lt_of_le lt_ea x51.1
            have lt_b := Nat.lt_of_lt_of_le lt_b x51.1
            have hX := hX.tr x51 (fun q j hq h => .inl h)
            obtain rfl := hP51
            show et_go none _ 140 54 _ [] _ _ _ _
            refine hs_aload (i := 4) (p := 56) (by decide +kernel) rfl ?_
            refine hs_iload (i := 2) (p := 57) (by decide +kernel) rfl ?_
            refine hs_iload (i := 3) (p := 58) (by decide +kernel) rfl ?_
            refine ht_callv (T := et_TT) (t := 3) (mi := 38) (na := 2) (ci := 1) (lk := 5) (lm := 3) (L0 := eg_en (eg_mL 38) [.ref b, .int y, .int z]) (by decide +kernel) rfl hH k_b rfl rfl rfl rfl rfl (by rw [show eg_mL 38 = 3 from by decide +kernel]; first | done | rfl) ?_
            refine (fc_join hH k_b hb (by omega)).mono (fun u hu => xw_cb hu (fun G58 v58 hH x58 hP58 => ?_))
            have lt_th := Nat.lt_of_lt_of_le lt_th x58.1
            have lt_s0 := Nat.lt_of_lt_of_le lt_s0 x58.1
            have lt_ea := Nat.lt_of_lt_of_le lt_ea x58.1
            have lt_b := Nat.lt_of_lt_of_le lt_b x58.1
            have hX := hX.tr x58 (fun q j hq h => .inr h)
            obtain ⟨rfl, p1⟩ := hP58
            show et_go none _ 140 61 _ [] _ _ _ _
            refine hs_aload (i := 4) (p := 63) (by decide +kernel) rfl ?_
            refine hf_get (T := et_TT) (t := 3) (ci := 1) (f := 0) (p := 66) (by decide +kernel) rfl hH k_b p1 ?_
            refine hs_k (x := Int32.ofNat 1) (p := 67) (by decide +kernel) ?_
            refine hs_isubn (p := 68) (by decide +kernel) (by omega) ?_
            refine hs_iret (by decide +kernel) ?_
            try simp only [xi_eq0, xi_lt0, xi_ge0, xi_gt0, xi_le0, xi_ltn (k := 1) (by decide), xi_len (k := 1) (by decide), xi_nle (k := 1) (by decide), xi_nlt (k := 1) (by decide), xi_ltn (k := 2) (by decide), xi_len (k := 2) (by decide), xi_nle (k := 2) (by decide), xi_nlt (k := 2) (by decide), xi_ltn (k := 3) (by decide), xi_len (k := 3) (by decide), xi_nle (k := 3) (by decide), xi_nlt (k := 3) (by decide), xi_ltn (k := 6) (by decide), xi_len (k := 6) (by decide), xi_nle (k := 6) (by decide), xi_nlt (k := 6) (by decide), xi_ltn (k := 7) (by decide), xi_len (k := 7) (by decide), xi_nle (k := 7) (by decide), xi_nlt (k := 7) (by decide), xi_ltn (k := 15) (by decide), xi_len (k := 15) (by decide), xi_nle (k := 15) (by decide), xi_nlt (k := 15) (by decide), xi_ltn (k := 16) (by decide), xi_len (k := 16) (by decide), xi_nle (k := 16) (by decide), xi_nlt (k := 16) (by decide), xi_ltn (k := 20) (by decide), xi_len (k := 20) (by decide), xi_nle (k := 20) (by decide), xi_nlt (k := 20) (by decide), xi_ltn (k := 50) (by decide), xi_len (k := 50) (by decide), xi_nle (k := 50) (by decide), xi_nlt (k := 50) (by decide), xi_ltn (k := 60) (by decide), xi_len (k := 60) (by decide), xi_nle (k := 60) (by decide), xi_nlt (k := 60) (by decide), xi_ltn (k := 127) (by decide), xi_len (k := 127) (by decide), xi_nle (k := 127) (by decide), xi_nlt (k := 127) (by decide), xi_ltn (k := 128) (by decide), xi_len (k := 128) (by decide), xi_nle (k := 128) (by decide), xi_nlt (k := 128) (by decide), xi_ltn (k := 200) (by decide), xi_len (k := 200) (by decide), xi_nle (k := 200) (by decide), xi_nlt (k := 200) (by decide), xi_ltn (k := 2000) (by decide), xi_len (k := 2000) (by decide), xi_nle (k := 2000) (by decide), xi_nlt (k := 2000) (by decide), xi_ltn (k := 65535) (by decide), xi_len (k := 65535) (by decide), xi_nle (k := 65535) (by decide), xi_nlt (k := 65535) (by decide), xi_ltn (k := 65536) (by decide), xi_len (k := 65536) (by decide), xi_nle (k := 65536) (by decide), xi_nlt (k := 65536) (by decide)] at c12 c16 c21 c39
            rw [Nat.add_sub_cancel]
            exact ⟨_, _, _, _, rfl, hH, hX, .inr (.inr ⟨by omega, by omega, rfl, p1⟩)⟩
          · refine hs_thr (x := 2) (lk := 5) (by decide +kernel) rfl rfl ?_
            try simp only [xi_eq0, xi_lt0, xi_ge0, xi_gt0, xi_le0, xi_ltn (k := 1) (by decide), xi_len (k := 1) (by decide), xi_nle (k := 1) (by decide), xi_nlt (k := 1) (by decide), xi_ltn (k := 2) (by decide), xi_len (k := 2) (by decide), xi_nle (k := 2) (by decide), xi_nlt (k := 2) (by decide), xi_ltn (k := 3) (by decide), xi_len (k := 3) (by decide), xi_nle (k := 3) (by decide), xi_nlt (k := 3) (by decide), xi_ltn (k := 6) (by decide), xi_len (k := 6) (by decide), xi_nle (k := 6) (by decide), xi_nlt (k := 6) (by decide), xi_ltn (k := 7) (by decide), xi_len (k := 7) (by decide), xi_nle (k := 7) (by decide), xi_nlt (k := 7) (by decide), xi_ltn (k := 15) (by decide), xi_len (k := 15) (by decide), xi_nle (k := 15) (by decide), xi_nlt (k := 15) (by decide), xi_ltn (k := 16) (by decide), xi_len (k := 16) (by decide), xi_nle (k := 16) (by decide), xi_nlt (k := 16) (by decide), xi_ltn (k := 20) (by decide), xi_len (k := 20) (by decide), xi_nle (k := 20) (by decide), xi_nlt (k := 20) (by decide), xi_ltn (k := 50) (by decide), xi_len (k := 50) (by decide), xi_nle (k := 50) (by decide), xi_nlt (k := 50) (by decide), xi_ltn (k := 60) (by decide), xi_len (k := 60) (by decide), xi_nle (k := 60) (by decide), xi_nlt (k := 60) (by decide), xi_ltn (k := 127) (by decide), xi_len (k := 127) (by decide), xi_nle (k := 127) (by decide), xi_nlt (k := 127) (by decide), xi_ltn (k := 128) (by decide), xi_len (k := 128) (by decide), xi_nle (k := 128) (by decide), xi_nlt (k := 128) (by decide), xi_ltn (k := 200) (by decide), xi_len (k := 200) (by decide), xi_nle (k := 200) (by decide), xi_nlt (k := 200) (by decide), xi_ltn (k := 2000) (by decide), xi_len (k := 2000) (by decide), xi_nle (k := 2000) (by decide), xi_nlt (k := 2000) (by decide), xi_ltn (k := 65535) (by decide), xi_len (k := 65535) (by decide), xi_nle (k := 65535) (by decide), xi_nlt (k := 65535) (by decide), xi_ltn (k := 65536) (by decide), xi_len (k := 65536) (by decide), xi_nle (k := 65536) (by decide), xi_nlt (k := 65536) (by decide)] at c12 c16 c21 c39
            exact ⟨_, _, _, _, rfl, hH, hX, .inr (.inl ⟨by omega, by omega, rfl, hb⟩)⟩
        · refine hs_thr (x := 0) (lk := 5) (by decide +kernel) rfl rfl ?_
          try simp only [xi_eq0, xi_lt0, xi_ge0, xi_gt0, xi_le0, xi_ltn (k := 1) (by decide), xi_len (k := 1) (by decide), xi_nle (k := 1) (by decide), xi_nlt (k := 1) (by decide), xi_ltn (k := 2) (by decide), xi_len (k := 2) (by decide), xi_nle (k := 2) (by decide), xi_nlt (k := 2) (by decide), xi_ltn (k := 3) (by decide), xi_len (k := 3) (by decide), xi_nle (k := 3) (by decide), xi_nlt (k := 3) (by decide), xi_ltn (k := 6) (by decide), xi_len (k := 6) (by decide), xi_nle (k := 6) (by decide), xi_nlt (k := 6) (by decide), xi_ltn (k := 7) (by decide), xi_len (k := 7) (by decide), xi_nle (k := 7) (by decide), xi_nlt (k := 7) (by decide), xi_ltn (k := 15) (by decide), xi_len (k := 15) (by decide), xi_nle (k := 15) (by decide), xi_nlt (k := 15) (by decide), xi_ltn (k := 16) (by decide), xi_len (k := 16) (by decide), xi_nle (k := 16) (by decide), xi_nlt (k := 16) (by decide), xi_ltn (k := 20) (by decide), xi_len (k := 20) (by decide), xi_nle (k := 20) (by decide), xi_nlt (k := 20) (by decide), xi_ltn (k := 50) (by decide), xi_len (k := 50) (by decide), xi_nle (k := 50) (by decide), xi_nlt (k := 50) (by decide), xi_ltn (k := 60) (by decide), xi_len (k := 60) (by decide), xi_nle (k := 60) (by decide), xi_nlt (k := 60) (by decide), xi_ltn (k := 127) (by decide), xi_len (k := 127) (by decide), xi_nle (k := 127) (by decide), xi_nlt (k := 127) (by decide), xi_ltn (k := 128) (by decide), xi_len (k := 128) (by decide), xi_nle (k := 128) (by decide), xi_nlt (k := 128) (by decide), xi_ltn (k := 200) (by decide), xi_len (k := 200) (by decide), xi_nle (k := 200) (by decide), xi_nlt (k := 200) (by decide), xi_ltn (k := 2000) (by decide), xi_len (k := 2000) (by decide), xi_nle (k := 2000) (by decide), xi_nlt (k := 2000) (by decide), xi_ltn (k := 65535) (by decide), xi_len (k := 65535) (by decide), xi_nle (k := 65535) (by decide), xi_nlt (k := 65535) (by decide), xi_ltn (k := 65536) (by decide), xi_len (k := 65536) (by decide), xi_nle (k := 65536) (by decide), xi_nlt (k := 65536) (by decide)] at c12 c16 c21
          exact ⟨_, _, _, _, rfl, hH, hX, .inl ⟨by omega, rfl, hb⟩⟩
theorem fc_wireN (hH : et_H et_TT K G) (k_th : K th = some 12) (h0 : et_pl (eg_at G th) 0 = some (.ref s0)) (k_s0 : K s0 = some 10) (h5 : et_pl (eg_at G s0) 5 = some (.int (Int32.ofNat e))) (he : e ≤ 3) (h6 : et_pl (eg_at G s0) 6 = some (.ref ea)) (k_ea : K ea = some 40) (hx : ¬ xr x e) (hd : 1 ≤ d2) : et_go none d2 140 0 (eg_en (eg_mL 140) [.ref th, .int x, .int y, .int z]) [] G 0 0 (xe_Z (fun _ _ => False) K G (fun _ r => r = .inr 1)) := by
  obtain ⟨d, rfl⟩ : ∃ d, d2 = d + 1 := ⟨d2 - 1, by omega⟩
  rw [show eg_mL 140 = 5 from by decide +kernel]
  show et_go none (d + 1) 140 0 [some (.ref th), some (.int x), some (.int y), some (.int z), none] [] G 0 0 (xe_Z _ _ _ _)
  have lt_th := (hH.2.2 _ _ k_th).1
  have lt_s0 := (hH.2.2 _ _ k_s0).1
  have lt_ea := (hH.2.2 _ _ k_ea).1
  have hX : xf (fun _ _ => False) G G := xf.rf
  refine hs_aload (i := 0) (p := 1) (by decide +kernel) rfl ?_
  refine hs_iload (i := 1) (p := 2) (by decide +kernel) rfl ?_
  refine ht_callv (T := et_TT) (t := 12) (mi := 128) (na := 1) (ci := 10) (lk := 5) (lm := 2) (L0 := eg_en (eg_mL 128) [.ref th, .int x]) (by decide +kernel) rfl hH k_th rfl rfl rfl rfl rfl (by rw [show eg_mL 128 = 2 from by decide +kernel]; first | done | rfl) ?_
  refine (fc_needEyeN hH k_th h0 k_s0 h5 he h6 k_ea hx).mono (fun u hu => ?_)
  obtain ⟨G2, v2, c2, s2, rfl, hH, x2, hP2⟩ := hu
  obtain ⟨rfl, rfl⟩ := hP2
  refine hf_cx (by decide +kernel) ?_
  exact ⟨_, _, _, _, rfl, hH, hX, rfl⟩
theorem fh_wire (hH : et_H et_TT K G) (k_th : K th = some 12) (h0 : et_pl (eg_at G th) 0 = some (.ref s0)) (k_s0 : K s0 = some 10) (h5 : et_pl (eg_at G s0) 5 = some (.int (Int32.ofNat e))) (he : e ≤ 3) (h6 : et_pl (eg_at G s0) 6 = some (.ref ea)) (k_ea : K ea = some 40) (hn : n < e) (hE : et_pl (eg_at G ea) n = some (.ref b)) (k_b : K b = some 3) (hb : et_pl (eg_at G b) 0 = some (.int (Int32.ofNat m))) (hm : m ≤ 6) (k_out : K out = some 31) (hd : 2 ≤ d2) : et_go none d2 7 0 (eg_en (eg_mL 7) [.ref th, .int (Int32.ofNat n), .int y, .int z, .ref out]) [] G 0 0 (xe_Z (fun a j => ((a = th ∧ (6 ≤ j ∧ j ≤ 7)) ∨ ((a = b ∧ j = 0) ∨ K a = some 15)) ∨ (a = out ∧ j = 0)) K G (fun G' r => (¬ (0 < y.toInt ∧ y.toInt < 65536 ∧ 0 ≤ z.toInt ∧ z.toInt ≤ 2) ∧ r = .inl (some (.int (Int32.ofNat 2))) ∧ et_pl (eg_at G' b) 0 = some (.int (Int32.ofNat m))) ∨ ((0 < y.toInt ∧ y.toInt < 65536 ∧ 0 ≤ z.toInt ∧ z.toInt ≤ 2) ∧ m = 6 ∧ r = .inl (some (.int (Int32.ofNat 3))) ∧ et_pl (eg_at G' b) 0 = some (.int (Int32.ofNat m))) ∨ ((0 < y.toInt ∧ y.toInt < 65536 ∧ 0 ≤ z.toInt ∧ z.toInt ≤ 2) ∧ m < 6 ∧ r = .inl (some (.int (Int32.ofNat 0))) ∧ et_pl (eg_at G' out) 0 = some (.long (Int32.ofNat m).toInt64) ∧ et_pl (eg_at G' b) 0 = some (.int (Int32.ofNat (m + 1)))))) := by
  obtain ⟨d, rfl⟩ : ∃ d, d2 = d + 2 := ⟨d2 - 2, by omega⟩
  rw [show eg_mL 7 = 6 from by decide +kernel]
  show et_go none (d + 2) 7 0 [some (.ref th), some (.int (Int32.ofNat n)), some (.int y), some (.int z), some (.ref out), none] [] G 0 0 (xe_Z _ _ _ _)
  have lt_th := (hH.2.2 _ _ k_th).1
  have lt_s0 := (hH.2.2 _ _ k_s0).1
  have lt_ea := (hH.2.2 _ _ k_ea).1
  have lt_b := (hH.2.2 _ _ k_b).1
  have lt_out := (hH.2.2 _ _ k_out).1
  have hX : xf (fun a j => ((a = th ∧ (6 ≤ j ∧ j ≤ 7)) ∨ ((a = b ∧ j = 0) ∨ K a = some 15)) ∨ (a = out ∧ j = 0)) G G := xf.rf
  refine hs_aload (i := 4) (p := 2) (by decide +kernel) rfl ?_
  refine hs_k (x := Int32.ofNat 0) (p := 3) (by decide +kernel) ?_
  refine hs_aload (i := 0) (p := 4) (by decide +kernel) rfl ?_
  refine hs_iload (i := 1) (p := 5) (by decide +kernel) rfl ?_
  refine hs_iload (i := 2) (p := 6) (by decide +kernel) rfl ?_
  refine hs_iload (i := 3) (p := 7) (by decide +kernel) rfl ?_
  refine ht_callv (T := et_TT) (t := 12) (mi := 140) (na := 3) (ci := 10) (lk := 6) (lm := 5) (L0 := eg_en (eg_mL 140) [.ref th, .int (Int32.ofNat n), .int y, .int z]) (by decide +kernel) rfl hH k_th rfl rfl rfl rfl rfl (by rw [show eg_mL 140 = 5 from by decide +kernel]; first | done | rfl) ?_
  refine (fc_wire hH k_th h0 k_s0 h5 he h6 k_ea hn hE k_b hb hm (by omega)).mono (fun u hu => ?_)
  obtain ⟨G7, v7, c7, s7, rfl, hH, x7, hP7⟩ := hu
  have lt_th := Nat.lt_of_lt_of_le lt_th x7.1
  have lt_s0 := Nat.lt_of_lt_of_le lt_s0 x7.1
  have lt_ea := Nat.lt_of_lt_of_le lt_ea x7.1
  have lt_b := Nat.lt_of_lt_of_le lt_b x7.1
  have lt_out := Nat.lt_of_lt_of_le lt_out x7.1
  have hX := hX.tr x7 (fun q j hq h => .inl h)
  rcases hP7 with ⟨xl, rfl, p2⟩ | ⟨xl, m6, rfl, p2⟩ | ⟨xl, m6, rfl, p2⟩
  · refine hs_ch (h := 19) (i := 5) (n := 2) (hh := (eg_mh 7).getD []) (by decide +kernel) ⟨by decide +kernel, by decide +kernel⟩ (Nat.le_of_ble_eq_true rfl) ?_
    show et_go none _ 7 21 [some (.ref th), some (.int (Int32.ofNat n)), some (.int y), some (.int z), some (.ref out), none] [] _ _ _ _
    refine hs_k (x := Int32.ofNat 2) (p := 22) (by decide +kernel) ?_
    refine hs_iret (by decide +kernel) ?_
    exact ⟨_, _, _, _, rfl, hH, hX, .inl ⟨xl, rfl, p2⟩⟩
  · refine hs_ch (h := 23) (i := 5) (n := 2) (hh := (eg_mh 7).getD []) (by decide +kernel) ⟨by decide +kernel, by decide +kernel⟩ (Nat.le_of_ble_eq_true rfl) ?_
    show et_go none _ 7 25 [some (.ref th), some (.int (Int32.ofNat n)), some (.int y), some (.int z), some (.ref out), none] [] _ _ _ _
    refine hs_k (x := Int32.ofNat 3) (p := 26) (by decide +kernel) ?_
    refine hs_iret (by decide +kernel) ?_
    exact ⟨_, _, _, _, rfl, hH, hX, .inr (.inl ⟨xl, m6, rfl, p2⟩)⟩
  · refine hs_cb ?_
    show et_go none _ 7 10 _ [.int (Int32.ofNat m), .int (Int32.ofNat 0), .ref out] _ _ _ _
    refine hs_i2l (p := 11) (by decide +kernel) ?_
    refine hf_lst (T := et_TT) (t := 31) (N := 1) (p := 12) (by decide +kernel) rfl rfl hH k_out (by omega) (by decide) (fun G11 hH x11 e11 => ?_)
    have p2 := (x11.2 b 0 lt_b (fun h => (hi_ne k_b k_out (by decide)) h.1)).trans p2
    have lt_th := Nat.lt_of_lt_of_le lt_th x11.1
    have lt_s0 := Nat.lt_of_lt_of_le lt_s0 x11.1
    have lt_ea := Nat.lt_of_lt_of_le lt_ea x11.1
    have lt_b := Nat.lt_of_lt_of_le lt_b x11.1
    have lt_out := Nat.lt_of_lt_of_le lt_out x11.1
    have hX := hX.tr x11 (fun q j hq h => .inr h)
    refine hs_goto (p := 27) (by decide +kernel) ?_
    refine hs_k (x := Int32.ofNat 0) (p := 28) (by decide +kernel) ?_
    refine hs_iret (by decide +kernel) ?_
    exact ⟨_, _, _, _, rfl, hH, hX, .inr (.inr ⟨xl, m6, rfl, e11, p2⟩)⟩
theorem fh_wireN (hH : et_H et_TT K G) (k_th : K th = some 12) (h0 : et_pl (eg_at G th) 0 = some (.ref s0)) (k_s0 : K s0 = some 10) (h5 : et_pl (eg_at G s0) 5 = some (.int (Int32.ofNat e))) (he : e ≤ 3) (h6 : et_pl (eg_at G s0) 6 = some (.ref ea)) (k_ea : K ea = some 40) (hx : ¬ xr x e) (k_out : K out = some 31) (hd : 2 ≤ d2) : et_go none d2 7 0 (eg_en (eg_mL 7) [.ref th, .int x, .int y, .int z, .ref out]) [] G 0 0 (xe_Z (fun _ _ => False) K G (fun _ r => r = .inl (some (.int (Int32.ofNat 1))))) := by
  obtain ⟨d, rfl⟩ : ∃ d, d2 = d + 2 := ⟨d2 - 2, by omega⟩
  rw [show eg_mL 7 = 6 from by decide +kernel]
  show et_go none (d + 2) 7 0 [some (.ref th), some (.int x), some (.int y), some (.int z), some (.ref out), none] [] G 0 0 (xe_Z _ _ _ _)
  have lt_th := (hH.2.2 _ _ k_th).1
  have lt_s0 := (hH.2.2 _ _ k_s0).1
  have lt_ea := (hH.2.2 _ _ k_ea).1
  have lt_out := (hH.2.2 _ _ k_out).1
  have hX : xf (fun _ _ => False) G G := xf.rf
  refine hs_aload (i := 4) (p := 2) (by decide +kernel) rfl ?_
  refine hs_k (x := Int32.ofNat 0) (p := 3) (by decide +kernel) ?_
  refine hs_aload (i := 0) (p := 4) (by decide +kernel) rfl ?_
  refine hs_iload (i := 1) (p := 5) (by decide +kernel) rfl ?_
  refine hs_iload (i := 2) (p := 6) (by decide +kernel) rfl ?_
  refine hs_iload (i := 3) (p := 7) (by decide +kernel) rfl ?_
  refine ht_callv (T := et_TT) (t := 12) (mi := 140) (na := 3) (ci := 10) (lk := 6) (lm := 5) (L0 := eg_en (eg_mL 140) [.ref th, .int x, .int y, .int z]) (by decide +kernel) rfl hH k_th rfl rfl rfl rfl rfl (by rw [show eg_mL 140 = 5 from by decide +kernel]; first | done | rfl) ?_
  refine (fc_wireN hH k_th h0 k_s0 h5 he h6 k_ea hx (by omega)).mono (fun u hu => ?_)
  obtain ⟨G7, v7, c7, s7, rfl, hH, x7, hP7⟩ := hu
  obtain rfl := hP7
  have hX := hX.tr x7 (fun q j hq h => h)
  refine hs_ch (h := 15) (i := 5) (n := 2) (hh := (eg_mh 7).getD []) (by decide +kernel) ⟨by decide +kernel, by decide +kernel⟩ (Nat.le_of_ble_eq_true rfl) ?_
  show et_go none _ 7 17 [some (.ref th), some (.int x), some (.int y), some (.int z), some (.ref out), none] [] _ _ _ _
  refine hs_k (x := Int32.ofNat 1) (p := 18) (by decide +kernel) ?_
  refine hs_iret (by decide +kernel) ?_
  exact ⟨_, _, _, _, rfl, hH, hX, rfl⟩
theorem fh_wireE (hH : et_H et_TT K G) (k_th : K th = some 12) (k_out : K out = some 31) (h0 : et_pl (eg_at G th) 0 = some (.ref s0)) (k_s0 : K s0 = some 10) (h5 : et_pl (eg_at G s0) 5 = some (.int (Int32.ofNat e))) (he : e ≤ 3) (ht : eyt K sp ya yb E F) (hp : eyp G th s0 s1 sp ya yb E F) (hv : ev G E F c i) (hc : ∀ k, c k ≤ 400) (hd : 2 ≤ d2) : et_go none d2 7 0 (eg_en (eg_mL 7) [.ref th, .int x, .int y, .int z, .ref out]) [] G 0 0 (fun u => (¬ xr x e ∧ u.1 = .inl (some (.int (Int32.ofNat 1))) ∧ ev u.2.1 E F c i) ∨ ∃ n, x = Int32.ofNat n ∧ n < e ∧ c (45 + 23 * n) ≤ 6 ∧ ((¬ (0 < y.toInt ∧ y.toInt < 65536 ∧ 0 ≤ z.toInt ∧ z.toInt ≤ 2) ∧ u.1 = .inl (some (.int (Int32.ofNat 2))) ∧ ev u.2.1 E F c i) ∨ ((0 < y.toInt ∧ y.toInt < 65536 ∧ 0 ≤ z.toInt ∧ z.toInt ≤ 2) ∧ c (45 + 23 * n) = 6 ∧ u.1 = .inl (some (.int (Int32.ofNat 3))) ∧ ev u.2.1 E F c i) ∨ ((0 < y.toInt ∧ y.toInt < 65536 ∧ 0 ≤ z.toInt ∧ z.toInt ≤ 2) ∧ c (45 + 23 * n) < 6 ∧ u.1 = .inl (some (.int (Int32.ofNat 0))) ∧ et_pl (eg_at u.2.1 out) 0 = some (.long (Int32.ofNat (c (45 + 23 * n))).toInt64) ∧ ev u.2.1 E F (rc_up c (45 + 23 * n) (c (45 + 23 * n) + 1)) i))) := by
  by_cases hx : xr x e
  · obtain ⟨n, rfl, hn⟩ : ∃ n : Nat, x = Int32.ofNat n ∧ n < e := by
      obtain ⟨n, e1, e2⟩ := xi_nn (x := x) (by rw [xi_lt0]; have := hx.1; omega)
      refine ⟨n, e1, ?_⟩
      have := hx.2
      rw [e1, hs_nint e2] at this
      omega
    have hn3 : n < 3 := by omega
    have k_b := (ht.2.1 n hn3).1
    have hm : c (45 + 23 * n) ≤ 6 := Int.ofNat_le.mp (hf_bd (t := 3) hH k_b rfl rfl (hv n hn3).1 (hc _))
    refine (fh_wire (b := E n) (m := c (45 + 23 * n)) (y := y) (z := z) hH k_th h0 k_s0 h5 he hp.1.1 ht.1.1 hn (hp.2 n hn3).1 k_b (hv n hn3).1 hm k_out hd).mono (fun u hu => ?_)
    obtain ⟨G', v, c1, s1, rfl, hH2, hxf, hP⟩ := hu
    have hS : ∀ a, (((a = th ∧ (6 ≤ 0 ∧ 0 ≤ 7)) ∨ ((a = E n ∧ 0 = 0) ∨ K a = some 15)) ∨ (a = out ∧ 0 = 0)) → ¬ a = E n → ¬ K a = some 3 := fun a h hne => by
      rcases h with (h | h | h) | h
      · exact absurd h.2.1 (by decide)
      · exact absurd h.1 hne
      · rw [h]; decide
      · rw [h.1, k_out]; decide
    have key : ∀ v, et_pl (eg_at G' (E n)) 0 = some (.int (Int32.ofNat v)) → ev G' E F (rc_up c (45 + 23 * n) v) i := fun v hv2 => hv.up ht hH hxf hn3 hS hv2
    refine .inr ⟨n, rfl, hn, hm, ?_⟩
    have co : ev G' E F (rc_up c (45 + 23 * n) (c (45 + 23 * n))) i → ev G' E F c i := fun h => h.co (fun k hk => by
      unfold rc_up
      split
      · rename_i e1; rw [e1]
      · rfl) (fun _ _ => rfl)
    rcases hP with ⟨h1, h2, h3⟩ | ⟨h1, h2, h3, h4⟩ | ⟨h1, h2, h3, h4, h7⟩
    · exact .inl ⟨h1, h2, co (key _ h3)⟩
    · exact .inr (.inl ⟨h1, h2, h3, co (key _ h4)⟩)
    · exact .inr (.inr ⟨h1, h2, h3, h4, key _ h7⟩)
  · refine (fh_wireN (y := y) (z := z) hH k_th h0 k_s0 h5 he hp.1.1 ht.1.1 hx k_out hd).mono (fun u hu => ?_)
    obtain ⟨G', v, c1, s1, rfl, hH2, hxf, hP⟩ := hu
    exact .inl ⟨hx, hP, hv.xs ht hH hxf (fun _ h => h.elim)⟩
end UCA
end
