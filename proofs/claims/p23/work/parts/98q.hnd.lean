section
/-! BY HAND: the law's steps: as hs_, with the script -/
def hs_np (ins : Instr) : Bool := match ins with
  | .iaload => false
  | .arraylength => false
  | _ => true
theorem ls_sc {sc : eg_Sc} {ins : Instr} {pc : Nat} {L : eg_Ls} {st : List Value} {G : eg_G} {ck sk : Nat} (h : hs_np ins = true) : eg_sc sc ins pc L st G ck sk = none := by
  unfold eg_sc
  split
  · exact absurd h (by decide)
  · exact absurd h (by decide)
  · rfl
section LSA
variable {sc : eg_Sc} {d k pc ck sk : Nat} {L : eg_Ls} {st r : List Value} {G : eg_G} {Z : eg_O → Prop}
theorem ls_st {ins : Instr} {len p ck' sk' : Nat} {L' : eg_Ls} {st' : List Value} {G' : eg_G} (hc : eg_cd k pc = some (ins, len)) (hn : hs_np ins = true) (hp : hs_pl ins = true) (e : eg_st (eg_mo k) (eg_in k) eg_MC eg_MS pc len ins L st G ck sk = some (p, L', st', G', ck', sk')) (h : et_go sc d k p L' st' G' ck' sk' Z) : et_go sc d k pc L st G ck sk Z := by
  refine et_goS (fun q => ?_) h
  have hp2 := hp
  unfold hs_pl at hp2
  rw [Bool.and_eq_true, Bool.and_eq_true] at hp2
  have hrt : ¬ et_rt ins = true := by
    intro h
    rw [h] at hp2
    exact absurd hp2.1 (by decide)
  unfold eg_one
  rw [hc]
  dsimp only
  rw [et_rr_no hrt]
  dsimp only
  rw [ls_sc hn]
  dsimp only
  rw [hs_th hp]
  dsimp only
  rw [Option.isNone_iff_eq_none.mp hp2.2.1]
  dsimp only
  rw [e]
  rfl

theorem ls_iload {i p : Nat} {x : Int32} (hc : hs_il k pc = some (i, p)) (hv : eg_ld L i = some (.int x)) (h : et_go sc d k p L (.int x :: st) G ck sk Z) : et_go sc d k pc L st G ck sk Z := by
  unfold hs_il at hc
  split at hc
  · rename_i e
    cases hc
    exact ls_st e rfl rfl (by show eg_li pc L st G ck sk _ 2 = _; unfold eg_li; rw [hv]) h
  · rename_i e
    cases hc
    exact ls_st e rfl rfl (by show eg_li pc L st G ck sk _ 1 = _; unfold eg_li; rw [hv]) h
  · cases hc

theorem ls_aload {i p a : Nat} (hc : hs_al k pc = some (i, p)) (hv : eg_ld L i = some (.ref a)) (h : et_go sc d k p L (.ref a :: st) G ck sk Z) : et_go sc d k pc L st G ck sk Z := by
  unfold hs_al at hc
  split at hc
  · rename_i e
    cases hc
    exact ls_st e rfl rfl (by show eg_la pc L st G ck sk _ 2 = _; unfold eg_la; rw [hv]) h
  · rename_i e
    cases hc
    exact ls_st e rfl rfl (by show eg_la pc L st G ck sk _ 1 = _; unfold eg_la; rw [hv]) h
  · cases hc

theorem ls_istore {i p : Nat} {x : Int32} (hc : hs_is k pc = some (i, p)) (hl : i < L.length) (h : et_go sc d k p (eg_s1 L i (.int x)) st G ck sk Z) : et_go sc d k pc L (.int x :: st) G ck sk Z := by
  unfold hs_is at hc
  split at hc
  · rename_i e
    cases hc
    exact ls_st e rfl rfl (by show eg_si pc L (.int x :: st) G ck sk _ 2 = _; unfold eg_si; dsimp only; rw [if_pos hl]) h
  · rename_i e
    cases hc
    exact ls_st e rfl rfl (by show eg_si pc L (.int x :: st) G ck sk _ 1 = _; unfold eg_si; dsimp only; rw [if_pos hl]) h
  · cases hc

theorem ls_k {x : Int32} {p : Nat} (hc : hs_kc k pc = some (x, p)) (h : et_go sc d k p L (.int x :: st) G ck sk Z) : et_go sc d k pc L st G ck sk Z := by
  unfold hs_kc at hc
  split at hc
  · rename_i e
    cases hc
    exact ls_st e rfl rfl rfl h
  · rename_i e
    cases hc
    exact ls_st e rfl rfl rfl h
  · rename_i e
    cases hc
    exact ls_st e rfl rfl rfl h
  · cases hc

theorem ls_goto {p : Nat} (hc : hs_gt k pc = some p) (h : et_go sc d k p L st G ck sk Z) : et_go sc d k pc L st G ck sk Z := by
  unfold hs_gt at hc
  split at hc
  · rename_i off _ e
    split at hc
    · rename_i h0
      cases hc
      exact ls_st e rfl rfl (by show (if 0 ≤ (pc : Int) + off then _ else _) = _; rw [if_pos h0]) h
    · cases hc
  · cases hc

theorem ls_pop {p : Nat} {x : Int32} (hc : hs_o k pc = some (.pop, p)) (h : et_go sc d k p L r G ck sk Z) : et_go sc d k pc L (.int x :: r) G ck sk Z := by
  obtain ⟨e, rfl⟩ := hs_oc hc
  exact ls_st e rfl rfl rfl h

theorem ls_iinc {i p : Nat} {n : Int} {x : Int32} (hc : hs_ii k pc = some (i, n, p)) (hv : eg_ld L i = some (.int x)) (hl : i < L.length) (h : et_go sc d k p (eg_s1 L i (.int (x + Int32.ofInt n))) st G ck sk Z) : et_go sc d k pc L st G ck sk Z := by
  unfold hs_ii at hc
  split at hc
  · rename_i e
    cases hc
    exact ls_st e rfl rfl (by
      show (match eg_ld L i with
        | some (.int x) => if 3 = 3 ∧ i < L.length then _ else none
        | _ => none) = _
      rw [hv]
      dsimp only
      rw [if_pos ⟨rfl, hl⟩]) h
  · cases hc

theorem ls_br2 {c : ClassFile.Cond} {t f : Nat} {x y : Int32} (hc : hs_ic k pc = some (c, t, f)) (h1 : hs_c2 c x y → et_go sc d k t L r G ck sk Z) (h2 : ¬ hs_c2 c x y → et_go sc d k f L r G ck sk Z) : et_go sc d k pc L (.int y :: .int x :: r) G ck sk Z := by
  unfold hs_ic at hc
  split at hc
  · rename_i off _ e
    split at hc
    · rename_i h0
      cases hc
      by_cases hx : hs_c2 c x y
      · exact ls_st e rfl rfl (by
          show (if 0 ≤ (pc : Int) + off then _ else _) = _
          rw [if_pos h0]
          cases c <;> (dsimp only [hs_c2] at hx ⊢; rw [if_pos hx])) (h1 hx)
      · exact ls_st e rfl rfl (by
          show (if 0 ≤ (pc : Int) + off then _ else _) = _
          rw [if_pos h0]
          cases c <;> (dsimp only [hs_c2] at hx ⊢; rw [if_neg hx])) (h2 hx)
    · cases hc
  · cases hc

theorem ls_br1 {c : ClassFile.Cond} {t f : Nat} {x : Int32} (hc : hs_if k pc = some (c, t, f)) (h1 : hs_c1 c x → et_go sc d k t L r G ck sk Z) (h2 : ¬ hs_c1 c x → et_go sc d k f L r G ck sk Z) : et_go sc d k pc L (.int x :: r) G ck sk Z := by
  unfold hs_if at hc
  split at hc
  · rename_i off _ e
    split at hc
    · rename_i h0
      cases hc
      by_cases hx : hs_c1 c x
      · exact ls_st e rfl rfl (by
          show (if 0 ≤ (pc : Int) + off then _ else _) = _
          rw [if_pos h0]
          cases c <;> (dsimp only [hs_c1] at hx ⊢; rw [if_pos hx])) (h1 hx)
      · exact ls_st e rfl rfl (by
          show (if 0 ≤ (pc : Int) + off then _ else _) = _
          rw [if_pos h0]
          cases c <;> (dsimp only [hs_c1] at hx ⊢; rw [if_neg hx])) (h2 hx)
    · cases hc
  · cases hc

theorem ls_isub {p : Nat} {x y : Int32} (hc : hs_o k pc = some (.isub, p)) (h : et_go sc d k p L (.int (x - y) :: r) G ck sk Z) : et_go sc d k pc L (.int y :: .int x :: r) G ck sk Z := by
  obtain ⟨e, rfl⟩ := hs_oc hc
  exact ls_st e rfl rfl rfl h

theorem ls_iadd {p : Nat} {x y : Int32} (hc : hs_o k pc = some (.iadd, p)) (h : et_go sc d k p L (.int (x + y) :: r) G ck sk Z) : et_go sc d k pc L (.int y :: .int x :: r) G ck sk Z := by
  obtain ⟨e, rfl⟩ := hs_oc hc
  exact ls_st e rfl rfl rfl h

theorem ls_iaddn {p a b : Nat} (hc : hs_o k pc = some (.iadd, p)) (h : et_go sc d k p L (.int (Int32.ofNat (a + b)) :: r) G ck sk Z) : et_go sc d k pc L (.int (Int32.ofNat b) :: .int (Int32.ofNat a) :: r) G ck sk Z := by
  rw [← hs_nadd] at h
  exact ls_iadd hc h

theorem ls_iand {p : Nat} {x y : Int32} (hc : hs_o k pc = some (.iand, p)) (h : et_go sc d k p L (.int (x &&& y) :: r) G ck sk Z) : et_go sc d k pc L (.int y :: .int x :: r) G ck sk Z := by
  obtain ⟨e, rfl⟩ := hs_oc hc
  exact ls_st e rfl rfl rfl h

theorem ls_tsw {dd lo hi : Int} {offs : Array Int} {len : Nat} {x : Int32} (hc : eg_cd k pc = some (.tableswitch dd lo hi offs, len)) (h0 : (decide (0 ≤ (pc : Int) + dd) && (offs.toList.all (fun off => decide (0 ≤ (pc : Int) + off)) && decide (hi - lo < offs.size))) = true) (h1 : et_go sc d k (eg_tg pc dd) L r G ck sk Z) (h2 : ∀ off ∈ offs.toList, et_go sc d k (eg_tg pc off) L r G ck sk Z) : et_go sc d k pc L (.int x :: r) G ck sk Z := by
  rw [Bool.and_eq_true, Bool.and_eq_true] at h0
  have a1 := of_decide_eq_true h0.1
  have a2 := of_decide_eq_true h0.2.2
  by_cases hx : x.toInt < lo ∨ hi < x.toInt
  · exact ls_st hc rfl rfl (by
      show (if x.toInt < lo ∨ hi < x.toInt then _ else _) = _
      rw [if_pos hx, if_pos a1]) h1
  · have hlt : (x.toInt - lo).toNat < offs.size := by omega
    have hm : offs[(x.toInt - lo).toNat]? = some offs[(x.toInt - lo).toNat] := Array.getElem?_eq_getElem hlt
    have hin : offs[(x.toInt - lo).toNat] ∈ offs.toList := Array.getElem_mem_toList hlt
    exact ls_st hc rfl rfl (by
      show (if x.toInt < lo ∨ hi < x.toInt then _ else (match offs[(x.toInt - lo).toNat]? with
        | some off => if 0 ≤ (pc : Int) + off then some (eg_tg pc off, L, r, G, ck, sk) else none
        | none => none)) = _
      rw [if_neg hx, hm]
      dsimp only
      rw [if_pos (of_decide_eq_true (List.all_eq_true.mp h0.2.1 _ hin))]) (h2 _ hin)

theorem ls_iret {x : Int32} (hc : hs_re k pc = some (some .int)) (h : Z (.inl (some (.int x)), G, ck, sk)) : et_go sc d k pc L [.int x] G ck sk Z := by
  unfold hs_re at hc
  split at hc
  · rename_i e
    refine et_goR (u := (.inl (some (.int x)), G, ck, sk)) (fun q => ?_) h
    unfold eg_one
    rw [e]
    dsimp only
    rw [show eg_mr k = some .int from Option.some.inj hc]
    unfold eg_rr
    dsimp only
    rw [if_pos (show eg_nr .int x = true from decide_eq_true rfl)]
  · cases hc

def ls_cont (sc : eg_Sc) (d k pc : Nat) (L : eg_Ls) (r : List Value) (ck sk : Nat) (Z : eg_O → Prop) : eg_O → Prop := fun u => ∃ o, (∃ g, ∀ q, g ≤ q → eg_bk (eg_rn q) sc d k pc L r ck sk (some u) = some o) ∧ Z o
theorem ls_cb {v : Option Value} {G' : eg_G} {c s : Nat} (h : et_go sc d k (pc + 3) L (v.toList ++ r) G' (ck + c) (sk + s) Z) : ls_cont sc d k pc L r ck sk Z (.inl v, G', c, s) := by
  obtain ⟨o, ⟨g, hg⟩, hZ⟩ := h
  exact ⟨o, ⟨g, fun q hq => hg q hq⟩, hZ⟩
theorem ls_callv {mi na ci lk lm a : Nat} {as : List Value} {L0 : eg_Ls} (hc : hs_cv k pc = some (mi, na, ci, lk, lm)) (hdr : st.drop na = .ref a :: r) (has : (st.take na).reverse = as) (hL : L.length = lk) (hr : Nat.ble (eg_cat r) 8 = true) (hn : Nat.ble (eg_en0 (.ref a :: as)).length lm = true) (hL0 : eg_en lm (.ref a :: as) = L0) (ha : a < G.2) (hg : eg_is (eg_at G a) ci = true) (h : et_go none d mi 0 L0 [] G 0 0 (ls_cont sc (d + 1) k pc L r ck sk Z)) : et_go sc (d + 1) k pc L st G ck sk Z := by
  unfold hs_cv at hc
  split at hc
  · rename_i i _ e
    split at hc
    · rename_i mi' kd x hm
      split at hc
      · rename_i h0
        cases hc
        subst has hL0
        refine et_goC (fun q => ?_) h
        unfold eg_one
        rw [e]
        dsimp only
        rw [et_rr_no (ins := .invokevirtual i) (fun h => nomatch (show false = true from h))]
        dsimp only
        rw [ls_sc rfl]
        dsimp only
        show eg_iv (eg_rn q) sc (d + 1) k pc 1 i L st G ck sk = _
        rw [et_v1 hm, hdr]
        dsimp only
        rw [if_pos ⟨h0.1, ha, hg⟩]
        unfold eg_cl1
        rw [if_pos ⟨Nat.le_of_ble_eq_true hr, hL, Nat.le_of_ble_eq_true hn, h0.2.1, h0.2.2⟩]
      · cases hc
    · cases hc
  · cases hc

theorem ls_calls {mi na lk lm : Nat} {as : List Value} {L0 : eg_Ls} (hc : hs_cs k pc = some (mi, na, lk, lm)) (hln : Nat.ble na st.length = true) (hdr : st.drop na = r) (has : (st.take na).reverse = as) (hL : L.length = lk) (hr : Nat.ble (eg_cat r) 8 = true) (hn : Nat.ble (eg_en0 as).length lm = true) (hL0 : eg_en lm as = L0) (h : et_go none d mi 0 L0 [] G 0 0 (ls_cont sc (d + 1) k pc L r ck sk Z)) : et_go sc (d + 1) k pc L st G ck sk Z := by
  unfold hs_cs at hc
  split at hc
  · rename_i i _ e
    split at hc
    · rename_i mi' kd x hm
      split at hc
      · rename_i h0
        cases hc
        subst has hL0 hdr
        refine et_goC (fun q => ?_) h
        unfold eg_one
        rw [e]
        dsimp only
        rw [et_rr_no (ins := .invokestatic i) (fun h => nomatch (show false = true from h))]
        dsimp only
        rw [ls_sc rfl]
        dsimp only
        show eg_iv (eg_rn q) sc (d + 1) k pc 0 i L st G ck sk = _
        rw [et_v0 hm]
        rw [if_neg (by omega), if_pos ⟨h0.1, Nat.le_of_ble_eq_true hln⟩]
        unfold eg_cl1
        rw [if_pos ⟨Nat.le_of_ble_eq_true hr, hL, Nat.le_of_ble_eq_true hn, h0.2.2.1, h0.2.2.2⟩]
      · cases hc
    · cases hc
  · cases hc

end LSA
theorem lt_callv {sc : eg_Sc} {T : List et_D} {K : et_K} {d k pc ck sk mi na ci lk lm a t : Nat} {L L0 : eg_Ls} {st r as : List Value} {G : eg_G} {Z : eg_O → Prop} {ps : List et_P} (hc : hs_cv k pc = some (mi, na, ci, lk, lm)) (hT : T[t]? = some (.inl (ci, ps))) (hH : et_H T K G) (ha : K a = some t) (hdr : st.drop na = .ref a :: r) (has : (st.take na).reverse = as) (hL : L.length = lk) (hr : Nat.ble (eg_cat r) 8 = true) (hn : Nat.ble (eg_en0 (.ref a :: as)).length lm = true) (hL0 : eg_en lm (.ref a :: as) = L0) (h : et_go none d mi 0 L0 [] G 0 0 (ls_cont sc (d + 1) k pc L r ck sk Z)) : et_go sc (d + 1) k pc L st G ck sk Z := by
  obtain ⟨g1, -, -, dd, hd, hcc, -⟩ := hH.2.2 a t ha
  rw [hT] at hd
  cases hd
  obtain ⟨fs, e, -⟩ := hcc
  exact ls_callv hc hdr has hL hr hn hL0 g1 (by rw [e]; exact beq_self_eq_true ci) h

section LSB
variable {T : List et_D} {M : et_M} {sc : eg_Sc} {d k pc ck sk : Nat} {L : eg_Ls} {st r : List Value} {G : eg_G} {Z : eg_O → Prop} {w : et_Wd} {u : eg_O} {c s : Nat} {P : eg_G → Prop} {K : et_K} {th : Nat}
theorem ls_cbv {q : et_P} (hu : hi_Z T w M [(.inl (some q), c, s)] u) (h : ∀ (v : Value) (K' : et_K) (G' : eg_G) (c' s' : Nat), et_ex w.1 K' → et_fr M w.1 w.2.2 G' → et_H T K' G' → et_v K' q v → c' ≤ c → s' ≤ s → et_go sc d k (pc + 3) L (v :: r) G' (ck + c') (sk + s') Z) : ls_cont sc d k pc L r ck sk Z u := by
  obtain ⟨e, he, K', h1, h2, h3, h4, h5, h6⟩ := hu
  obtain rfl := List.mem_singleton.mp he
  obtain ⟨v, hv1, hv2⟩ := h4
  obtain ⟨u1, u2, u3, u4⟩ := u
  have hv1 : u1 = .inl (some v) := hv1
  subst hv1
  exact ls_cb (h v K' u2 u3 u4 h1 h2 h3 hv2 h5 h6)
theorem ls_cbn (hu : hi_Z T w M [(.inl none, c, s)] u) (h : ∀ (K' : et_K) (G' : eg_G) (c' s' : Nat), et_ex w.1 K' → et_fr M w.1 w.2.2 G' → et_H T K' G' → c' ≤ c → s' ≤ s → et_go sc d k (pc + 3) L r G' (ck + c') (sk + s') Z) : ls_cont sc d k pc L r ck sk Z u := by
  obtain ⟨e, he, K', h1, h2, h3, h4, h5, h6⟩ := hu
  obtain rfl := List.mem_singleton.mp he
  obtain ⟨u1, u2, u3, u4⟩ := u
  have h4 : u1 = .inl none := h4
  subst h4
  exact ls_cb (h K' u2 u3 u4 h1 h2 h3 h5 h6)
theorem ls_cbp {q : et_P} (hu : hi_Z T w M [(.inl (some q), c, s)] u ∧ P u.2.1) (h : ∀ (v : Value) (K' : et_K) (G' : eg_G) (c' s' : Nat), et_ex w.1 K' → et_fr M w.1 w.2.2 G' → et_H T K' G' → P G' → et_v K' q v → c' ≤ c → s' ≤ s → et_go sc d k (pc + 3) L (v :: r) G' (ck + c') (sk + s') Z) : ls_cont sc d k pc L r ck sk Z u := by
  obtain ⟨⟨e, he, K', h1, h2, h3, h4, h5, h6⟩, hP⟩ := hu
  obtain rfl := List.mem_singleton.mp he
  obtain ⟨v, hv1, hv2⟩ := h4
  obtain ⟨u1, u2, u3, u4⟩ := u
  have hv1 : u1 = .inl (some v) := hv1
  subst hv1
  exact ls_cb (h v K' u2 u3 u4 h1 h2 h3 hP hv2 h5 h6)
theorem ls_cbr (hu : pr_Z M K G th [] c s P u) (h : ∀ (n : Int32) (K' : et_K) (G' : eg_G) (c' s' : Nat), et_ex K K' → et_fr M K G G' → et_H et_TT K' G' → ci K' G' th → P G' → c' ≤ c → s' ≤ s → et_go sc d k (pc + 3) L (.int n :: r) G' (ck + c') (sk + s') Z) : ls_cont sc d k pc L r ck sk Z u := by
  obtain ⟨K', h1, h2, h3, h4, h5, h6, h7, h8⟩ := hu
  obtain ⟨u1, u2, u3, u4⟩ := u
  rcases h6 with ⟨n, e⟩ | ⟨x, hx, -⟩
  · have e : u1 = .inl (some (.int n)) := e
    subst e
    exact ls_cb (h n K' u2 u3 u4 h1 h2 h3 h4 h5 h7 h8)
  · exact absurd hx List.not_mem_nil
theorem ls_cbw (hu : pv_Z M K G th u) (h : ∀ (K' : et_K) (G' : eg_G), et_ex K K' → et_fr M K G G' → et_H et_TT K' G' → ci K' G' th → et_go sc d k (pc + 3) L r G' ck sk Z) : ls_cont sc d k pc L r ck sk Z u := by
  obtain ⟨K', h1, h2, h3, h4, e, h7, h8⟩ := hu
  obtain ⟨u1, u2, u3, u4⟩ := u
  have e : u1 = .inl none := e
  have h7 : u3 = 0 := h7
  have h8 : u4 = 0 := h8
  subst e h7 h8
  exact ls_cb (h K' u2 h1 h2 h3 h4)
theorem ls_cbz {A : et_K → eg_G → Value → Prop} (hu : pz_Z M K G A u) (h : ∀ (K' : et_K) (G' : eg_G) (v : Value), et_ex K K' → et_fr M K G G' → et_H et_TT K' G' → A K' G' v → et_go sc d k (pc + 3) L (v :: r) G' ck sk Z) : ls_cont sc d k pc L r ck sk Z u := by
  obtain ⟨K', v, e, h1, h2, h3, h4, h5, h6⟩ := hu
  obtain ⟨u1, u2, u3, u4⟩ := u
  have e : u1 = .inl (some v) := e
  have h4 : u3 = 0 := h4
  have h5 : u4 = 0 := h5
  subst e h4 h5
  exact ls_cb (h K' u2 v h1 h2 h3 h6)
end LSB
section LSC
variable {d pc ck sk i j n p : Nat} {f : Nat → Int32} {L : eg_Ls} {st r : List Value} {G : eg_G} {Z : eg_O → Prop}
theorem ls_scr (hc : hs_o 1000 pc = some (.iaload, p)) (hi : i < n) (hn : n ≤ 3072) (h : et_go (some (n, f)) d 1000 p L (.int (f i) :: r) G ck sk Z) : et_go (some (n, f)) d 1000 pc L (.int (Int32.ofNat i) :: .ref 150 :: r) G ck sk Z := by
  obtain ⟨e, rfl⟩ := hs_oc hc
  refine et_goS (fun q => ?_) h
  unfold eg_one
  rw [e]
  dsimp only
  rw [et_rr_no (ins := .iaload) (fun h => nomatch (show false = true from h))]
  dsimp only
  have h3 := hs_nint (a := i) (by omega)
  have e2 : eg_sc (some (n, f)) .iaload pc L (.int (Int32.ofNat i) :: .ref 150 :: r) G ck sk = some (pc + 1, L, .int (f i) :: r, G, ck, sk) := by
    unfold eg_sc
    dsimp only
    rw [if_pos ⟨rfl, by omega, by omega⟩, hs_nnat (by omega)]
  rw [e2]
theorem ls_len (hc : hs_o 1000 pc = some (.arraylength, p)) (h : et_go (some (n, f)) d 1000 p L (.int (Int32.ofNat n) :: r) G ck sk Z) : et_go (some (n, f)) d 1000 pc L (.ref 150 :: r) G ck sk Z := by
  obtain ⟨e, rfl⟩ := hs_oc hc
  refine et_goS (fun q => ?_) h
  unfold eg_one
  rw [e]
  dsimp only
  rw [et_rr_no (ins := .arraylength) (fun h => nomatch (show false = true from h))]
  dsimp only
  have e2 : eg_sc (some (n, f)) .arraylength pc L (.ref 150 :: r) G ck sk = some (pc + 1, L, .int (Int32.ofNat n) :: r, G, ck, sk) := by
    unfold eg_sc
    dsimp only
    rw [if_pos rfl]
  rw [e2]
/-- script[i + j] -/
def ls_ag (pc : Nat) : Option (Nat × Nat) := match hs_al 1000 pc, hs_il 1000 (pc + 1), hs_kc 1000 (pc + 3), hs_o 1000 (pc + 4), hs_o 1000 (pc + 5) with
  | some (0, _), some (4, _), some (x, _), some (.iadd, _), some (.iaload, _) => some (x.toNatClampNeg, pc + 6)
  | _, _, _, _, _ => none
end LSC
end
section
/-! BY HAND, for p39: whether there is an image -/
/-- the class's flag, the reference's -/
def ph_at (G : eg_G) (th h : Nat) : Prop := et_pl (eg_at G th) 2 = some (.int (Int32.ofNat h))
def pg_at (G : eg_G) (am h : Nat) : Prop := et_pl (eg_at G am) 3 = some (.int (Int32.ofNat h))
section PPN
variable {w : et_Wd} {K : et_K} {G : eg_G} {d2 d th am h s0 s1 ra0 ca0 rc0 ec0 cc0 ra1 ca1 rc1 ec1 cc1 : Nat}
theorem hi_im {F : Nat → Value} {W : Nat → Int32} {aw : Nat} {G1 : eg_G} (g1 : et_H et_TT K G1) (ha : K am = some 13) (hKw : K aw = some 46) : et_pl (eg_at (hm_H G1 am aw F W) am) 3 = some (F 3) := by
  rw [hm_m ⟨hi_at g1 ha (by decide), hi_at g1 hKw (by decide), hi_ne ha hKw (by decide)⟩, hi_pF (by decide)]
theorem hi_b1 (h1 : h ≤ 1) (c : ¬ Int32.ofNat h = 0) : h = 1 := by
  have hcs : h = 0 ∨ h = 1 := by omega
  rcases hcs with e | e
  · subst e
    exact absurd rfl c
  · exact e
theorem hi_b0 (h1 : h ≤ 1) (c : ¬ ¬ Int32.ofNat h = 0) : h = 0 := by
  have hcs : h = 0 ∨ h = 1 := by omega
  rcases hcs with e | e
  · exact e
  · subst e
    exact absurd (show ¬ Int32.ofNat 1 = 0 by decide) c
theorem hi_h3 {F : Nat → Value} (eF : eg_at G am = hm_F F) (hg : pg_at G am h) : F 3 = .int (Int32.ofNat h) := by
  have hg : et_pl (eg_at G am) 3 = some (.int (Int32.ofNat h)) := hg
  rw [eF, hi_pF (by decide)] at hg
  exact Option.some.inj hg
theorem hc_imageM (hH : et_H et_TT w.1 w.2.2) (ha : w.1 am = some 13) : et_go none d2 175 0 (eg_en (eg_mL 175) [.ref am]) [] w.2.2 0 0 (fun u => hi_Z et_TT w hi_MI [(.inl none, 0, 0)] u ∧ pg_at u.2.1 am 1) := by
  obtain ⟨F, W, aw, hA, eF, eW, hw, hKw, hF, hX, hW, hG, e⟩ := hi_mod hH ha
  obtain ⟨ia, hi, hKi⟩ := hi_ref (hF 2 _ rfl)
  obtain ⟨I, eI, hI, -⟩ := hi_arr hH hKi et_t47 (by decide) (.inl rfl)
  rw [hi_mL175]
  have h0 := rp_image (d := d2) (Z := fun u => hi_Z et_TT w hi_MI [(.inl none, 0, 0)] u ∧ pg_at u.2.1 am 1) hA hw hi (hi_ne hKi ha (by decide)) (hi_ne hKi hKw (by decide)) (hi_at hH hKi (by decide)) eI (fun I' h1 => by
    have g1 : et_H et_TT w.1 (eg_u w.2.2 ia (.inl (0, (11900, .inl I')))) := hi_uarr hH hKi (by decide) et_t47 (.inl rfl) (fun s hs i i1 i2 i3 => by
      rw [h1 i i3]
      exact hW s hs i i1 i2) (fun _ _ => hG.lo (fun i _ h => h1 i h))
    have g2 : et_fr hi_MI w.1 w.2.2 (eg_u w.2.2 ia (.inl (0, (11900, .inl I')))) := hi_frM hH hKi (by decide) (fun i hi => by
      rw [eI]
      show (if i < 11900 then some (Value.int (I' i)) else none) = (if i < 11900 then some (Value.int (I i)) else none)
      by_cases h : i < 11900
      · exfalso
        unfold et_mm hi_MI at hi
        simp at hi
        omega
      · rw [if_neg h, if_neg h])
    refine ⟨⟨_, List.mem_cons_self, w.1, et_ex.rf, g2.tr et_ex.rf (hi_fr g1 ha hKw ((hi_uc (hi_ne ha hKi (by decide))).trans eF) ((hi_uc (hi_ne hKw hKi (by decide))).trans eW) (fun i hi => ?_) (fun _ _ _ => rfl)), hi_fin g1 ha hKw (hi_set (hi_set hF hi_any) (hi_iv (by decide) (by decide))) (hi_setX (hi_setX hX (by decide) (by decide) (by decide)) (by decide) (by decide) (by decide)) hW hG, rfl, Nat.le_refl _, Nat.le_refl _⟩, hi_im g1 ha hKw⟩
    unfold et_mm hi_MI at hi
    simp at hi
    exact (if_neg (by omega)).trans (if_neg (by omega)))
  rw [← e] at h0
  exact h0

theorem hc_backM (hH : et_H et_TT w.1 w.2.2) (ha : w.1 am = some 13) (hg : pg_at w.2.2 am h) (h1 : h ≤ 1) : et_go none d2 176 0 (eg_en (eg_mL 176) [.ref am]) [] w.2.2 0 0 (fun u => hi_Z et_TT w hi_MB [(.inl (some (.inl (0, 1))), 0, 0)] u ∧ u.1 = .inl (some (.int (Int32.ofNat h)))) := by
  obtain ⟨F, W, aw, hA, eF, eW, hw, hKw, hF, hX, hW, hG, e⟩ := hi_mod hH ha
  obtain ⟨ia, hi, hKi⟩ := hi_ref (hF 2 _ rfl)
  obtain ⟨I, eI, hI, hIx⟩ := hi_arr hH hKi et_t47 (by decide) (.inl rfl)
  obtain ⟨ai, hai, hKa⟩ := hi_ref (hF 18 _ rfl)
  obtain ⟨IK, eA, hIK, -⟩ := hi_arr (kd := 3) (n := 4) hH hKa rfl (by decide) (.inr (.inr (.inl rfl)))
  have hh := hi_h3 eF hg
  have hcs : h = 0 ∨ h = 1 := by omega
  have n1 : am ≠ ai := hi_ne ha hKa (by decide)
  have n2 : aw ≠ ai := hi_ne hKw hKa (by decide)
  have hF2 : hi_F w.1 (updV F 0 (.int (Int32.ofNat 0))) := hi_set hF hi_any
  have hX2 : hi_X (updV F 0 (.int (Int32.ofNat 0))) := hi_setX hX (by decide) (by decide) (by decide)
  have hM0 : ∀ i, et_mm hi_MB 13 i = false → updV F 0 (.int (Int32.ofNat 0)) i = F i := fun i hi => by
    unfold et_mm hi_MB at hi
    simp at hi
    exact if_neg (by omega)
  rw [hi_mL176]
  have h0 := rp_back (d := d2) (Z := fun u => hi_Z et_TT w hi_MB [(.inl (some (.inl (0, 1))), 0, 0)] u ∧ u.1 = .inl (some (.int (Int32.ofNat h)))) hA hw hi hh (hi_ne hKi ha (by decide)) (hi_ne hKi hKw (by decide)) (hi_at hH hKi (by decide)) eI hai (hi_ne hKa ha (by decide)) (hi_ne hKa hKw (by decide)) (hi_at hH hKa (by decide)) eA
    (fun h0 => ⟨⟨_, List.mem_cons_self, w.1, et_ex.rf, hi_fr hH ha hKw eF eW hM0 (fun _ _ _ => rfl), hi_fin hH ha hKw hF2 hX2 hW hG, ⟨_, rfl, hi_iv (by decide) (by decide)⟩, Nat.le_refl _, Nat.le_refl _⟩, by rcases hcs with rfl | rfl <;> first | rfl | exact absurd h0 (by decide)⟩)
    (fun hn0 V K' h1 h2 h3 => by
    have g1 : et_H et_TT w.1 (eg_u w.2.2 ai (.inl (3, (4, .inl K')))) := hi_uarr (t := 25) (kd := 3) (n := 4) hH hKa (by decide) rfl (.inr (.inr (.inl rfl))) (fun s hs i i1 i2 i3 => by
      obtain rfl : s = (0, 3, .inl (0, 1)) := by simpa using hs
      show et_v w.1 (.inl (0, 1)) (.int (K' i))
      rcases h3 i with h3 | h3
      · rw [h3]; exact hIK _ List.mem_cons_self i (Nat.zero_le _) (by show i ≤ 3; omega) i3
      · rw [h3]; exact hi_iv (by decide) (by decide)) (fun h => absurd h (by decide))
    have g2 : et_fr hi_MB w.1 w.2.2 (eg_u w.2.2 ai (.inl (3, (4, .inl K')))) := hi_frM hH hKa (by decide) (fun i hi => by
      rw [eA]
      show (if i < 4 then eg_rd 3 (4, .inl K') i else none) = (if i < 4 then eg_rd 3 (4, .inl IK) i else none)
      by_cases h : i < 4
      · exfalso
        unfold et_mm hi_MB at hi
        simp at hi
        omega
      · rw [if_neg h, if_neg h])
    refine ⟨⟨_, List.mem_cons_self, w.1, et_ex.rf, g2.tr et_ex.rf (hi_fr g1 ha hKw ((hi_uc n1).trans eF) ((hi_uc n2).trans eW) hM0 (fun i i1 i2 => ?_)), hi_fin g1 ha hKw hF2 hX2 (fun s hs i i1 i2 => ?_) ((hIx rfl (.inr rfl) _ _ eI).lo (fun i _ h => h1 i h)), ⟨_, rfl, hi_iv (by decide) (by decide)⟩, Nat.le_refl _, Nat.le_refl _⟩, by rcases hcs with rfl | rfl <;> first | rfl | exact absurd rfl hn0⟩
    · unfold et_mm hi_MB at i2
      simp at i2
      omega
    · have := hi_w46 s hs
      rw [h1 i (by omega)]
      exact hI s hs i i1 i2 (by omega))
  rw [← e] at h0
  exact h0

theorem hc_imageX (hH : et_H et_TT K G) (hci : ci K G th) (hd : 3 ≤ d2) : et_go none d2 124 0 (eg_en (eg_mL 124) [.ref th]) [] G 0 0 (fun u => pv_Z im_M K G th u ∧ ph_at u.2.1 th 1) := by
  obtain ⟨s0, s1, ra0, ca0, rc0, ec0, cc0, ra1, ca1, rc1, ec1, cc1, hC⟩ := hci
  obtain ⟨d, rfl⟩ : ∃ d, d2 = d + 3 := ⟨d2 - 3, by omega⟩
  have hx0 : et_ex K K := et_ex.rf
  have hf : et_fr im_M K G G := et_fr.rf
  have hs0 := hC.2.1.1
  have hrc := hC.2.2.2.1.2.2.1.1
  have hec := hC.2.2.2.1.2.2.1.2.1
  have hcc := hC.2.2.2.1.2.2.1.2.2
  have hra := hC.2.2.2.1.2.1.1
  have hca := hC.2.2.2.1.2.1.2
  have k_th := hC.1
  have k_s0 := hC.2.2.2.1.1.1
  have k_ra0 := hC.2.2.2.1.1.2.1
  have k_ca0 := hC.2.2.2.1.1.2.2
  obtain ⟨hr4, he3, hc6⟩ := hC.2.2.2.1.2.2.2.1
  have h1s := hC.2.1.2
  have k_s1 := hC.2.2.2.2.1.1
  rw [show eg_mL 124 = 1 from by decide +kernel]
  show et_go none (d + 3) 124 0 [some (.ref th)] [] G 0 0 _
  refine hs_aload (i := 0) (p := 1) (by decide +kernel) rfl ?_
  refine ht_getr (T := et_TT) (t := 12) (ci := 10) (f := 1) (p := 4) (by decide +kernel) rfl rfl hH k_th (fun a1 k_a1 e1 => ?_)
  obtain rfl : s1 = a1 := Value.ref.inj (Option.some.inj (h1s.symm.trans e1))
  refine hs_aload (i := 0) (p := 5) (by decide +kernel) rfl ?_
  refine ht_getr (T := et_TT) (t := 12) (ci := 10) (f := 0) (p := 8) (by decide +kernel) rfl rfl hH k_th (fun a5 k_a5 e5 => ?_)
  obtain rfl : s0 = a5 := Value.ref.inj (Option.some.inj (hs0.symm.trans e5))
  have hfo := hf
  refine ht_callv (T := et_TT) (t := 10) (mi := 104) (na := 1) (ci := 8) (lk := 1) (lm := 3) (L0 := eg_en (eg_mL 104) [.ref s1, .ref s0]) (by decide +kernel) rfl hH k_s1 rfl rfl rfl rfl rfl (by rw [show eg_mL 104 = 3 from by decide +kernel]; first | done | rfl) ?_
  refine (hc_takeI (a := s1) (s := s0) hH hC.2.2.2.1 hC.2.2.2.2 hC.2.2.1 (by omega)).mono (fun u hu => tf_cb hu (fun K8 G8 x8 f8 hH hS1 hS0 => ?_))
  have hC : ci_O _ _ th s0 s1 ra0 ca0 rc0 ec0 cc0 ra1 ca1 rc0 ec0 cc0 := ⟨x8 _ _ hC.1, ⟨(f8.2 th 12 hC.1 0 rfl).trans hC.2.1.1, (f8.2 th 12 hC.1 1 rfl).trans hC.2.1.2⟩, hC.2.2.1, hS1, hS0⟩
  have hs0 := (f8.2 th 12 k_th 0 rfl).trans hs0
  have h1s := (f8.2 th 12 k_th 1 rfl).trans h1s
  have k_th := x8 _ _ k_th
  have k_s0 := x8 _ _ k_s0
  have k_ra0 := x8 _ _ k_ra0
  have k_ca0 := x8 _ _ k_ca0
  have k_s1 := x8 _ _ k_s1
  have hf := hf.tr hx0 (f8.wk (by decide +kernel))
  have hx0 := hx0.tr x8
  show et_go none _ 124 11 _ [] _ 0 0 _
  refine hs_aload (i := 0) (p := 12) (by decide +kernel) rfl ?_
  refine hs_k (x := Int32.ofNat 1) (p := 13) (by decide +kernel) ?_
  refine ht_put (M := [(12, 2, 2)]) (T := et_TT) (t := 12) (ci := 10) (f := 2) (p := 16) (ty := .boolean) (by decide +kernel) rfl rfl rfl (by decide +kernel) rfl (by decide +kernel) hH k_th (hi_nv (by omega) (by omega)) (fun G13 hH f13 e13 => ?_)
  have hC := hC.fr et_ex.rf f13 (by decide +kernel)
  have hs0 := (f13.2 th 12 k_th 0 rfl).trans hs0
  have h1s := (f13.2 th 12 k_th 1 rfl).trans h1s
  have hf := hf.tr hx0 (f13.wk (by decide +kernel))
  refine hs_vret (by decide +kernel) ?_
  exact ⟨⟨_, hx0, hf, hH, hC.i, rfl, rfl, rfl⟩, e13⟩
theorem hc_backX (hH : et_H et_TT K G) (hci : ci K G th) (hp : ph_at G th h) (hh1 : h ≤ 1) (hd : 3 ≤ d2) : et_go none d2 125 0 (eg_en (eg_mL 125) [.ref th]) [] G 0 0 (fun u => pr_Z im_M K G th [] 0 0 (fun _ => True) u ∧ u.1 = .inl (some (.int (Int32.ofNat h))) ∧ ph_at u.2.1 th h) := by
  obtain ⟨s0, s1, ra0, ca0, rc0, ec0, cc0, ra1, ca1, rc1, ec1, cc1, hC⟩ := hci
  obtain ⟨d, rfl⟩ : ∃ d, d2 = d + 3 := ⟨d2 - 3, by omega⟩
  have hx0 : et_ex K K := et_ex.rf
  have hf : et_fr im_M K G G := et_fr.rf
  have hs0 := hC.2.1.1
  have hrc := hC.2.2.2.1.2.2.1.1
  have hec := hC.2.2.2.1.2.2.1.2.1
  have hcc := hC.2.2.2.1.2.2.1.2.2
  have hra := hC.2.2.2.1.2.1.1
  have hca := hC.2.2.2.1.2.1.2
  have k_th := hC.1
  have k_s0 := hC.2.2.2.1.1.1
  have k_ra0 := hC.2.2.2.1.1.2.1
  have k_ca0 := hC.2.2.2.1.1.2.2
  obtain ⟨hr4, he3, hc6⟩ := hC.2.2.2.1.2.2.2.1
  have h1s := hC.2.1.2
  have k_s1 := hC.2.2.2.2.1.1
  rw [show eg_mL 125 = 1 from by decide +kernel]
  show et_go none (d + 3) 125 0 [some (.ref th)] [] G 0 0 _
  refine hs_aload (i := 0) (p := 1) (by decide +kernel) rfl ?_
  refine ht_getn (T := et_TT) (t := 12) (ci := 10) (f := 2) (p := 4) (by decide +kernel) rfl rfl hH k_th (fun c1 h1 e1 => ?_)
  obtain rfl : h = c1 := hb_cc hp e1 (by omega) (by omega)
  refine hs_br1 (c := .ne) (t := 9) (f := 7) (by decide +kernel) (fun (c4 : ¬ Int32.ofNat h = 0) => ?_) (fun (c4 : ¬ (¬ Int32.ofNat h = 0)) => ?_)
  · have hone : h = 1 := hi_b1 hh1 c4
    refine hs_aload (i := 0) (p := 10) (by decide +kernel) rfl ?_
    have hfo := hf
    refine ht_callv (T := et_TT) (t := 12) (mi := 120) (na := 0) (ci := 10) (lk := 1) (lm := 1) (L0 := eg_en (eg_mL 120) [.ref th]) (by decide +kernel) rfl hH k_th rfl rfl rfl rfl rfl (by rw [show eg_mL 120 = 1 from by decide +kernel]; first | done | rfl) ?_
    refine (hc_fgt (K, [], G) [.ref th] _ hH (by omega) rfl (ht_ac (.inr ⟨by decide, _, rfl, k_th⟩) ht_an)).mono (fun u hu => hs_cbn hu (fun K10 G10 c10 s10 x10 f10 hH cl10 sl10 => ?_))
    have hC := hC.fr x10 f10 (by decide +kernel)
    have hs0 := (f10.2 th 12 k_th 0 rfl).trans hs0
    have h1s := (f10.2 th 12 k_th 1 rfl).trans h1s
    have hp := (f10.2 th 12 k_th 2 rfl).trans hp
    have k_th := x10 _ _ k_th
    have k_s0 := x10 _ _ k_s0
    have k_ra0 := x10 _ _ k_ra0
    have k_ca0 := x10 _ _ k_ca0
    have k_s1 := x10 _ _ k_s1
    have hf := hf.tr hx0 (f10.wk (by decide +kernel))
    have hx0 := hx0.tr x10
    obtain rfl : c10 = 0 := Nat.le_zero.mp cl10
    obtain rfl : s10 = 0 := Nat.le_zero.mp sl10
    show et_go none _ 125 13 _ [] _ 0 0 _
    refine hs_aload (i := 0) (p := 14) (by decide +kernel) rfl ?_
    refine ht_getr (T := et_TT) (t := 12) (ci := 10) (f := 0) (p := 17) (by decide +kernel) rfl rfl hH k_th (fun a14 k_a14 e14 => ?_)
    obtain rfl : s0 = a14 := Value.ref.inj (Option.some.inj (hs0.symm.trans e14))
    refine hs_aload (i := 0) (p := 18) (by decide +kernel) rfl ?_
    refine ht_getr (T := et_TT) (t := 12) (ci := 10) (f := 1) (p := 21) (by decide +kernel) rfl rfl hH k_th (fun a18 k_a18 e18 => ?_)
    obtain rfl : s1 = a18 := Value.ref.inj (Option.some.inj (h1s.symm.trans e18))
    have hfo := hf
    refine ht_callv (T := et_TT) (t := 10) (mi := 104) (na := 1) (ci := 8) (lk := 1) (lm := 3) (L0 := eg_en (eg_mL 104) [.ref s0, .ref s1]) (by decide +kernel) rfl hH k_s0 rfl rfl rfl rfl rfl (by rw [show eg_mL 104 = 3 from by decide +kernel]; first | done | rfl) ?_
    refine (hc_takeI (a := s0) (s := s1) hH hC.2.2.2.2 hC.2.2.2.1 ⟨fun e => hC.2.2.1.1 e.symm, fun e => hC.2.2.1.2.1 e.symm, fun e => hC.2.2.1.2.2 e.symm⟩ (by omega)).mono (fun u hu => tf_cb hu (fun K21 G21 x21 f21 hH hS1 hS0 => ?_))
    have hC : ci_O _ _ th s0 s1 ra0 ca0 rc1 ec1 cc1 ra1 ca1 rc1 ec1 cc1 := ⟨x21 _ _ hC.1, ⟨(f21.2 th 12 hC.1 0 rfl).trans hC.2.1.1, (f21.2 th 12 hC.1 1 rfl).trans hC.2.1.2⟩, hC.2.2.1, hS0, hS1⟩
    have hs0 := (f21.2 th 12 k_th 0 rfl).trans hs0
    have h1s := (f21.2 th 12 k_th 1 rfl).trans h1s
    have hp := (f21.2 th 12 k_th 2 rfl).trans hp
    have k_th := x21 _ _ k_th
    have k_s0 := x21 _ _ k_s0
    have k_ra0 := x21 _ _ k_ra0
    have k_ca0 := x21 _ _ k_ca0
    have k_s1 := x21 _ _ k_s1
    have hf := hf.tr hx0 (f21.wk (by decide +kernel))
    have hx0 := hx0.tr x21
    show et_go none _ 125 24 _ [] _ 0 0 _
    refine hs_k (x := Int32.ofNat 1) (p := 25) (by decide +kernel) ?_
    refine hs_zret (by decide +kernel) (.inr rfl) ?_
    obtain rfl : h = 1 := by omega
    exact ⟨⟨_, hx0, hf, hH, hC.i, trivial, .inl ⟨_, rfl⟩, (by dsimp only; omega), (by dsimp only; omega)⟩, rfl, hp⟩
  · have hzero : h = 0 := hi_b0 hh1 c4
    refine hs_k (x := Int32.ofNat 0) (p := 8) (by decide +kernel) ?_
    refine hs_zret (by decide +kernel) (.inl rfl) ?_
    obtain rfl : h = 0 := by omega
    exact ⟨⟨_, hx0, hf, hH, hC.i, trivial, .inl ⟨_, rfl⟩, (by dsimp only; omega), (by dsimp only; omega)⟩, rfl, hp⟩
end PPN
section LSE
variable {T : List et_D} {M : et_M} {sc : eg_Sc} {d k pc ck sk : Nat} {L : eg_Ls} {st r : List Value} {G : eg_G} {Z : eg_O → Prop} {w : et_Wd} {u : eg_O} {c s : Nat} {P : eg_G → Prop} {K : et_K} {th : Nat} {v : Value}
theorem ls_cbw2 (hu : pv_Z M K G th u ∧ P u.2.1) (h : ∀ (K' : et_K) (G' : eg_G), et_ex K K' → et_fr M K G G' → et_H et_TT K' G' → ci K' G' th → P G' → et_go sc d k (pc + 3) L r G' ck sk Z) : ls_cont sc d k pc L r ck sk Z u := by
  obtain ⟨⟨K', h1, h2, h3, h4, e, h7, h8⟩, hP⟩ := hu
  obtain ⟨u1, u2, u3, u4⟩ := u
  have e : u1 = .inl none := e
  have h7 : u3 = 0 := h7
  have h8 : u4 = 0 := h8
  subst e h7 h8
  exact ls_cb (h K' u2 h1 h2 h3 h4 hP)
theorem ls_cbn2 (hu : hi_Z T w M [(.inl none, c, s)] u ∧ P u.2.1) (h : ∀ (K' : et_K) (G' : eg_G) (c' s' : Nat), et_ex w.1 K' → et_fr M w.1 w.2.2 G' → et_H T K' G' → c' ≤ c → s' ≤ s → P G' → et_go sc d k (pc + 3) L r G' (ck + c') (sk + s') Z) : ls_cont sc d k pc L r ck sk Z u := by
  obtain ⟨⟨e, he, K', h1, h2, h3, h4, h5, h6⟩, hP⟩ := hu
  obtain rfl := List.mem_singleton.mp he
  obtain ⟨u1, u2, u3, u4⟩ := u
  have h4 : u1 = .inl none := h4
  subst h4
  exact ls_cb (h K' u2 u3 u4 h1 h2 h3 h5 h6 hP)
theorem ls_cbr2 {Q : eg_G → Prop} (hu : pr_Z M K G th [] 0 0 Q u ∧ u.1 = .inl (some v) ∧ P u.2.1) (h : ∀ (K' : et_K) (G' : eg_G), et_ex K K' → et_fr M K G G' → et_H et_TT K' G' → ci K' G' th → P G' → et_go sc d k (pc + 3) L (v :: r) G' ck sk Z) : ls_cont sc d k pc L r ck sk Z u := by
  obtain ⟨⟨K', h1, h2, h3, h4, -, -, h7, h8⟩, e, hP⟩ := hu
  obtain ⟨u1, u2, u3, u4⟩ := u
  have e : u1 = .inl (some v) := e
  have h7 : u3 ≤ 0 := h7
  have h8 : u4 ≤ 0 := h8
  obtain rfl : u3 = 0 := Nat.le_zero.mp h7
  obtain rfl : u4 = 0 := Nat.le_zero.mp h8
  subst e
  exact ls_cb (h K' u2 h1 h2 h3 h4 hP)
theorem ls_cbv2 {q : et_P} (hu : hi_Z T w M [(.inl (some q), 0, 0)] u ∧ u.1 = .inl (some v)) (h : ∀ (K' : et_K) (G' : eg_G), et_ex w.1 K' → et_fr M w.1 w.2.2 G' → et_H T K' G' → et_go sc d k (pc + 3) L (v :: r) G' ck sk Z) : ls_cont sc d k pc L r ck sk Z u := by
  obtain ⟨⟨e, he, K', h1, h2, h3, h4, h5, h6⟩, e1⟩ := hu
  obtain rfl := List.mem_singleton.mp he
  obtain ⟨u1, u2, u3, u4⟩ := u
  have e1 : u1 = .inl (some v) := e1
  have h5 : u3 ≤ 0 := h5
  have h6 : u4 ≤ 0 := h6
  obtain rfl : u3 = 0 := Nat.le_zero.mp h5
  obtain rfl : u4 = 0 := Nat.le_zero.mp h6
  subst e1
  exact ls_cb (h K' u2 h1 h2 h3)
end LSE
end
section
/-! FUNCTIONAL RUNS: exact frames (which places of which objects may change), steps that know what is there -/
theorem et_go.and {sc : eg_Sc} {d k pc ck sk : Nat} {L : eg_Ls} {st : List Value} {G : eg_G} {Z Z' : eg_O → Prop} (h : et_go sc d k pc L st G ck sk Z) (h' : et_go sc d k pc L st G ck sk Z') : et_go sc d k pc L st G ck sk (fun u => Z u ∧ Z' u) := by
  obtain ⟨o, ⟨g, hg⟩, hz⟩ := h
  obtain ⟨o', ⟨g', hg'⟩, hz'⟩ := h'
  have e := (hg (max g g') (Nat.le_max_left _ _)).symm.trans (hg' (max g g') (Nat.le_max_right _ _))
  cases e
  exact ⟨o, ⟨g, hg⟩, hz, hz'⟩
def xf (S : Nat → Nat → Prop) (G G' : eg_G) : Prop := G.2 ≤ G'.2 ∧ ∀ a i, a < G.2 → ¬ S a i → et_pl (eg_at G' a) i = et_pl (eg_at G a) i
theorem xf.rf {S : Nat → Nat → Prop} {G : eg_G} : xf S G G := ⟨Nat.le_refl _, fun _ _ _ _ => rfl⟩
theorem xf.tr {S S1 : Nat → Nat → Prop} {G G1 G2 : eg_G} (h : xf S G G1) (h1 : xf S1 G1 G2) (hs : ∀ a i, a < G.2 → S1 a i → S a i) : xf S G G2 := ⟨Nat.le_trans h.1 h1.1, fun a i ha hi => (h1.2 a i (Nat.lt_of_lt_of_le ha h.1) (fun h2 => hi (hs a i ha h2))).trans (h.2 a i ha hi)⟩
theorem xf.wk {S S1 : Nat → Nat → Prop} {G G1 : eg_G} (h : xf S1 G G1) (hs : ∀ a i, a < G.2 → S1 a i → S a i) : xf S G G1 := ⟨h.1, fun a i ha hi => h.2 a i ha (fun h2 => hi (hs a i ha h2))⟩
theorem xf.tfr {S : Nat → Nat → Prop} {T : List et_D} {K : et_K} {G G' : eg_G} {M : et_M} (h : xf S G G') (hH : et_H T K G) (hs : ∀ a t i, K a = some t → S a i → et_mm M t i = true) : et_fr M K G G' := ⟨h.1, fun a t ha i hi => h.2 a i (hH.2.2 a t ha).1 (fun h2 => by
  rw [hs a t i ha h2] at hi
  cases hi)⟩
/-- what a call leaves that changes these places alone, and makes nothing -/
def xw_Z (S : Nat → Nat → Prop) (K : et_K) (G : eg_G) (P : eg_G → Option Value → Prop) (u : eg_O) : Prop := ∃ (G' : eg_G) (v : Option Value), u = (.inl v, G', 0, 0) ∧ et_H et_TT K G' ∧ xf S G G' ∧ P G' v
/-- the same, it may throw too -/
def xe_Z (S : Nat → Nat → Prop) (K : et_K) (G : eg_G) (P : eg_G → eg_R → Prop) (u : eg_O) : Prop := ∃ (G' : eg_G) (v : eg_R) (c s : Nat), u = (v, G', c, s) ∧ et_H et_TT K G' ∧ xf S G G' ∧ P G' v
/-- a call that changes nothing -/
def xp_Z (G : eg_G) (v : Option Value) (u : eg_O) : Prop := u = (.inl v, G, 0, 0)
section FXA
variable {T : List et_D} {K : et_K} {d k pc ck sk : Nat} {L : eg_Ls} {st r : List Value} {G : eg_G} {Z : eg_O → Prop} {a t ci f p : Nat} {ps : List et_P}
theorem xw_cb {S : Nat → Nat → Prop} {P : eg_G → Option Value → Prop} {u : eg_O} (hu : xw_Z S K G P u) (h : ∀ (G' : eg_G) (v : Option Value), et_H et_TT K G' → xf S G G' → P G' v → et_go none d k (pc + 3) L (v.toList ++ r) G' ck sk Z) : hs_cont d k pc L r ck sk Z u := by
  obtain ⟨G', v, rfl, h1, h2, h3⟩ := hu
  exact hs_cb (h G' v h1 h2 h3)
theorem xp_cb {v : Option Value} {u : eg_O} (hu : xp_Z G v u) (h : et_go none d k (pc + 3) L (v.toList ++ r) G ck sk Z) : hs_cont d k pc L r ck sk Z u := by
  have hu : u = (.inl v, G, 0, 0) := hu
  subst hu
  exact hs_cb h
theorem hf_get {v : Value} (hc : hs_fi k pc = some (ci, f, p)) (hT : T[t]? = some (.inl (ci, ps))) (hH : et_H T K G) (ha : K a = some t) (hv : et_pl (eg_at G a) f = some v) (h : et_go none d k p L (v :: r) G ck sk Z) : et_go none d k pc L (.ref a :: r) G ck sk Z := by
  obtain ⟨g1, -, -, dd, hd, hcc, -⟩ := hH.2.2 a t ha
  rw [hT] at hd
  cases hd
  obtain ⟨fs, e, el, ef⟩ := hcc
  exact hs_get hc e g1 (by rw [e] at hv; exact hv) h
theorem hf_put {q : et_P} {ty : FieldType} {v : Value} (hc : hs_pi k pc = some (ci, f, ty, p)) (hT : T[t]? = some (.inl (ci, ps))) (hp : ps[f]? = some q) (ht : Nat.ble 2 t = true) (hf : eg_fit ty v = true) (hx : et_px (.inl (ci, ps)) f = false) (hH : et_H T K G) (ha : K a = some t) (hv : et_v K q v) (h : ∀ G', et_H T K G' → xf (fun b j => b = a ∧ j = f) G G' → et_pl (eg_at G' a) f = some v → et_go none d k p L r G' ck sk Z) : et_go none d k pc L (v :: .ref a :: r) G ck sk Z := by
  have ht := Nat.le_of_ble_eq_true ht
  obtain ⟨g1, -, g3, dd, hd, hcc, hcx⟩ := hH.2.2 a t ha
  rw [hT] at hd
  cases hd
  obtain ⟨fs, e, el, ef⟩ := hcc
  have hlt : f < fs.length := by rw [el]; exact (List.getElem?_eq_some_iff.mp hp).1
  have hpl : ∀ i, ¬ i = f → et_pl (.inr (ci, fs.set f v)) i = et_pl (eg_at G a) i := fun i hi => by
    rw [e]
    show (fs.set f v)[i]? = fs[i]?
    rw [List.getElem?_set_ne (fun h => hi h.symm)]
  refine hs_put hc e ⟨g3 ht, g1⟩ hlt hf (h _ (et_H_u hH ha ht hT ⟨_, rfl, by rw [List.length_set]; exact el, fun j p2 hj => ?_⟩ (et_cx_u (K := K) hcx ⟨fs, e, el, ef⟩ (fun i hi => hpl i (fun h => by
    rw [h, hx] at hi
    cases hi)))) ⟨Nat.le_refl _, fun b i hb hi => ?_⟩ ?_)
  · by_cases e2 : f = j
    · subst e2
      rw [hp] at hj
      cases hj
      exact ⟨v, List.getElem?_set_self hlt, .inr hv⟩
    · rw [List.getElem?_set_ne e2]
      exact ef j p2 hj
  · by_cases e3 : b = a
    · subst e3
      rw [et_at_us (g3 ht)]
      exact hpl i (fun h => hi ⟨rfl, h⟩)
    · rw [et_at_u e3]
  · rw [et_at_us (g3 ht)]
    exact List.getElem?_set_self hlt
theorem hf_cell {kd N : Nat} {ss : List (Nat × Nat × et_P)} (hT : T[t]? = some (.inr (kd, N, ss))) (hH : et_H T K G) (ha : K a = some t) : ∃ x : vp_A, eg_at G a = .inl (kd, x) ∧ x.1 = N ∧ (∀ i, i < N → ∃ v, eg_rd kd x i = some v) := by
  obtain ⟨g1, -, -, dd, hd, hcc, -⟩ := hH.2.2 a t ha
  rw [hT] at hd
  cases hd
  obtain ⟨x, e, el, er, -⟩ := hcc
  exact ⟨x, e, el, er⟩
/-- an element that is known -/
theorem hf_ald {ins : Instr} {kd N n : Nat} {v : Value} {ss : List (Nat × Nat × et_P)} (hc : hs_o k pc = some (ins, p)) (hs : ∀ o ini mc ms pc L st G ck sk, eg_st o ini mc ms pc 1 ins L st G ck sk = eg_ar ins pc L st G ck sk) (hp : hs_pl ins = true) (hT : T[t]? = some (.inr (kd, N, ss))) (hk : eg_ak ins kd = true) (hH : et_H T K G) (ha : K a = some t) (hN : N < 2147483648) (hv : et_pl (eg_at G a) n = some v) (h : et_go none d k p L (v :: r) G ck sk Z) : et_go none d k pc L (.int (Int32.ofNat n) :: .ref a :: r) G ck sk Z := by
  obtain ⟨e, rfl⟩ := hs_oc hc
  obtain ⟨x, ec, el, -⟩ := hf_cell hT hH ha
  rw [ec] at hv
  have hv : (if n < x.1 then eg_rd kd x n else none) = some v := hv
  have hn : n < x.1 := by
    by_cases hn : n < x.1
    · exact hn
    · rw [if_neg hn] at hv
      cases hv
  rw [if_pos hn] at hv
  refine hs_st e hp ?_ h
  rw [hs]
  unfold eg_ar
  dsimp only
  rw [ec]
  dsimp only
  rw [if_pos ⟨(hH.2.2 a t ha).1, hk, by rw [hs_nint (by omega)]; omega, by rw [hs_nint (by omega)]; omega⟩, hs_nnat (by omega), hv]
theorem hf_pl {kd N : Nat} {f : Nat → Int32} {n : Nat} (hk : kd = 0 ∨ kd = 1 ∨ kd = 3 ∨ kd = 4) : et_pl (.inl (kd, (N, .inl f))) n = if n < N then some (.int (f n)) else none := by
  show (if n < N then eg_rd kd (N, .inl f) n else none) = _
  rcases hk with rfl | rfl | rfl | rfl <;> rfl
theorem hf_plu {kd N : Nat} {f : Nat → Int32} {n i : Nat} {z : Int32} (hk : kd = 0 ∨ kd = 1 ∨ kd = 3 ∨ kd = 4) (h : ¬ i = n) : et_pl (.inl (kd, (N, .inl (upd f n z)))) i = et_pl (.inl (kd, (N, .inl f))) i := by
  rw [hf_pl hk, hf_pl hk, hs_un h]
theorem hf_ar {kd N n : Nat} {f : Nat → Int32} {z : Int32} {ss : List (Nat × Nat × et_P)} (hk : kd = 0 ∨ kd = 1 ∨ kd = 3 ∨ kd = 4) (hT : T[t]? = some (.inr (kd, N, ss))) (ht : 2 ≤ t) (hpx : kd = 0 → ¬ (N = 12741 ∨ N = 11900)) (hH : et_H T K G) (ha : K a = some t) (hn : n < N) (hs : ∀ s ∈ ss, s.1 ≤ n → n ≤ s.2.1 → et_v K s.2.2 (.int z)) (e : eg_at G a = .inl (kd, (N, .inl f))) : et_H T K (eg_u G a (.inl (kd, (N, .inl (upd f n z))))) ∧ xf (fun b j => b = a ∧ j = n) G (eg_u G a (.inl (kd, (N, .inl (upd f n z))))) ∧ et_pl (eg_at (eg_u G a (.inl (kd, (N, .inl (upd f n z))))) a) n = some (.int z) := by
  have g := hi_at hH ha ht
  obtain ⟨f', e', h1, -⟩ := hi_arr hH ha hT (by omega) hk
  rw [e] at e'
  cases e'
  refine ⟨hi_uarr hH ha ht hT hk (fun s hs' i i1 i2 i3 => ?_) (fun h0 hN => absurd hN (hpx h0)), ⟨Nat.le_refl _, fun b i hb hi => ?_⟩, ?_⟩
  · by_cases ei : i = n
    · subst ei
      rw [hs_us]
      exact hs s hs' i1 i2
    · rw [hs_un ei]
      exact h1 s hs' i i1 i2 i3
  · by_cases e3 : b = a
    · subst e3
      rw [et_at_us g.1, e]
      exact hf_plu hk (fun h => hi ⟨rfl, h⟩)
    · rw [et_at_u e3]
  · rw [et_at_us g.1, hf_pl hk, if_pos hn, hs_us]
/-- a write into an array of ints, chars, booleans -/
theorem hf_ist {N n : Nat} {x : Int32} {ss : List (Nat × Nat × et_P)} (hc : hs_o k pc = some (.iastore, p)) (hT : T[t]? = some (.inr (0, N, ss))) (ht : Nat.ble 2 t = true) (hpx : ¬ (N = 12741 ∨ N = 11900)) (hH : et_H T K G) (ha : K a = some t) (hn : n < N) (hN : N < 2147483648) (hs : ∀ s ∈ ss, s.1 ≤ n → n ≤ s.2.1 → et_v K s.2.2 (.int x)) (h : ∀ G', et_H T K G' → xf (fun b j => b = a ∧ j = n) G G' → et_pl (eg_at G' a) n = some (.int x) → et_go none d k p L r G' ck sk Z) : et_go none d k pc L (.int x :: .int (Int32.ofNat n) :: .ref a :: r) G ck sk Z := by
  have ht := Nat.le_of_ble_eq_true ht
  obtain ⟨f, e, -, -⟩ := hi_arr hH ha hT (by omega) (.inl rfl)
  obtain ⟨h1, h2, h3⟩ := hf_ar (z := x) (.inl rfl) hT ht (fun _ => hpx) hH ha hn hs e
  exact hs_iast hc e (hi_at hH ha ht) hN hn (h _ h1 h2 h3)
theorem hf_aw {ins : Instr} {kd N n : Nat} {v : Value} {x y : vp_A} (hc : hs_o k pc = some (ins, p)) (hs : ∀ o ini mc ms pc L st G ck sk, eg_st o ini mc ms pc 1 ins L st G ck sk = eg_aw ins pc L st G ck sk) (hp : hs_pl ins = true) (hk : eg_ak ins kd = true) (ha : eg_NC ≤ a ∧ a < G.2) (e : eg_at G a = .inl (kd, x)) (el : x.1 = N) (hn : n < N) (hN : N < 2147483648) (hw : eg_wr G kd x n v = some y) (h : et_go none d k p L r (eg_u G a (.inl (kd, y))) ck sk Z) : et_go none d k pc L (v :: .int (Int32.ofNat n) :: .ref a :: r) G ck sk Z := by
  obtain ⟨e1, rfl⟩ := hs_oc hc
  refine hs_st e1 hp ?_ h
  rw [hs]
  unfold eg_aw
  dsimp only
  rw [e]
  dsimp only
  rw [if_pos ⟨ha.1, ha.2, hk, by rw [hs_nint (by omega)]; omega, by rw [hs_nint (by omega)]; omega⟩, hs_nnat (by omega), hw]
theorem hf_zst {N n : Nat} {x z : Int32} {ss : List (Nat × Nat × et_P)} (hc : hs_o k pc = some (.bastore, p)) (hT : T[t]? = some (.inr (3, N, ss))) (ht : Nat.ble 2 t = true) (hz : vp_nar .boolean x = z) (hH : et_H T K G) (ha : K a = some t) (hn : n < N) (hN : N < 2147483648) (hs : ∀ s ∈ ss, s.1 ≤ n → n ≤ s.2.1 → et_v K s.2.2 (.int z)) (h : ∀ G', et_H T K G' → xf (fun b j => b = a ∧ j = n) G G' → et_pl (eg_at G' a) n = some (.int z) → et_go none d k p L r G' ck sk Z) : et_go none d k pc L (.int x :: .int (Int32.ofNat n) :: .ref a :: r) G ck sk Z := by
  have ht := Nat.le_of_ble_eq_true ht
  obtain ⟨f, e, -, -⟩ := hi_arr hH ha hT (by omega) (.inr (.inr (.inl rfl)))
  obtain ⟨h1, h2, h3⟩ := hf_ar (z := z) (.inr (.inr (.inl rfl))) hT ht (fun h => absurd h (by decide)) hH ha hn hs e
  refine hf_aw hc (fun _ _ _ _ _ _ _ _ _ _ => rfl) rfl rfl (hi_at hH ha ht) e rfl hn hN (y := (N, .inl (upd f n z))) ?_ (h _ h1 h2 h3)
  subst hz
  rfl
theorem hf_bst {N n : Nat} {x z : Int32} {ss : List (Nat × Nat × et_P)} (hc : hs_o k pc = some (.bastore, p)) (hT : T[t]? = some (.inr (1, N, ss))) (ht : Nat.ble 2 t = true) (hz : vp_nar .byte x = z) (hH : et_H T K G) (ha : K a = some t) (hn : n < N) (hN : N < 2147483648) (hs : ∀ s ∈ ss, s.1 ≤ n → n ≤ s.2.1 → et_v K s.2.2 (.int z)) (h : ∀ G', et_H T K G' → xf (fun b j => b = a ∧ j = n) G G' → et_pl (eg_at G' a) n = some (.int z) → et_go none d k p L r G' ck sk Z) : et_go none d k pc L (.int x :: .int (Int32.ofNat n) :: .ref a :: r) G ck sk Z := by
  have ht := Nat.le_of_ble_eq_true ht
  obtain ⟨f, e, -, -⟩ := hi_arr hH ha hT (by omega) (.inr (.inl rfl))
  obtain ⟨h1, h2, h3⟩ := hf_ar (z := z) (.inr (.inl rfl)) hT ht (fun h => absurd h (by decide)) hH ha hn hs e
  refine hf_aw hc (fun _ _ _ _ _ _ _ _ _ _ => rfl) rfl rfl (hi_at hH ha ht) e rfl hn hN (y := (N, .inl (upd f n z))) ?_ (h _ h1 h2 h3)
  subst hz
  rfl
theorem hf_cst {N n : Nat} {x z : Int32} {ss : List (Nat × Nat × et_P)} (hc : hs_o k pc = some (.castore, p)) (hT : T[t]? = some (.inr (4, N, ss))) (ht : Nat.ble 2 t = true) (hz : vp_nar .char x = z) (hH : et_H T K G) (ha : K a = some t) (hn : n < N) (hN : N < 2147483648) (hs : ∀ s ∈ ss, s.1 ≤ n → n ≤ s.2.1 → et_v K s.2.2 (.int z)) (h : ∀ G', et_H T K G' → xf (fun b j => b = a ∧ j = n) G G' → et_pl (eg_at G' a) n = some (.int z) → et_go none d k p L r G' ck sk Z) : et_go none d k pc L (.int x :: .int (Int32.ofNat n) :: .ref a :: r) G ck sk Z := by
  have ht := Nat.le_of_ble_eq_true ht
  obtain ⟨f, e, -, -⟩ := hi_arr hH ha hT (by omega) (.inr (.inr (.inr rfl)))
  obtain ⟨h1, h2, h3⟩ := hf_ar (z := z) (.inr (.inr (.inr rfl))) hT ht (fun h => absurd h (by decide)) hH ha hn hs e
  refine hf_aw hc (fun _ _ _ _ _ _ _ _ _ _ => rfl) rfl rfl (hi_at hH ha ht) e rfl hn hN (y := (N, .inl (upd f n z))) ?_ (h _ h1 h2 h3)
  subst hz
  rfl
theorem hf_lst {N n : Nat} {x : Int64} (hc : hs_o k pc = some (.lastore, p)) (hT : T[t]? = some (.inr (2, N, []))) (ht : Nat.ble 2 t = true) (hH : et_H T K G) (ha : K a = some t) (hn : n < N) (hN : N < 2147483648) (h : ∀ G', et_H T K G' → xf (fun b j => b = a ∧ j = n) G G' → et_pl (eg_at G' a) n = some (.long x) → et_go none d k p L r G' ck sk Z) : et_go none d k pc L (.long x :: .int (Int32.ofNat n) :: .ref a :: r) G ck sk Z := by
  have ht := Nat.le_of_ble_eq_true ht
  obtain ⟨f, e⟩ := hi_arrL hH ha hT (by omega)
  have g := hi_at hH ha ht
  refine hs_last hc e g hN hn (h _ (hi_uarrL hH ha ht hT) ⟨Nat.le_refl _, fun b i hb hi => ?_⟩ ?_)
  · by_cases e3 : b = a
    · subst e3
      rw [et_at_us g.1, e]
      have ei : ¬ i = n := fun h => hi ⟨rfl, h⟩
      show (if i < N then some (Value.long (vp_updL f n x i)) else none) = (if i < N then some (Value.long (f i)) else none)
      unfold vp_updL
      rw [if_neg ei]
    · rw [et_at_u e3]
  · rw [et_at_us g.1]
    show (if n < N then some (Value.long (vp_updL f n x n)) else none) = _
    unfold vp_updL
    rw [if_pos hn, if_pos rfl]
theorem hf_cx {x c s : Nat} {G' : eg_G} (hm : eg_mh k = none) (h : Z (.inr x, G', ck + c, sk + s)) : hs_cont d k pc L r ck sk Z (.inr x, G', c, s) := by
  refine ⟨_, ⟨0, fun q _ => ?_⟩, h⟩
  unfold eg_bk
  rw [hm]
/-- which two references are the same is told -/
theorem hf_acm {c : ClassFile.ACond} {tt ff : Nat} {v u : Value} (hc : hs_ax k pc = some (c, tt, ff)) (hv : eg_ca v = true) (hu : eg_ca u = true) (h1 : (match c with | .eq => v = u | .ne => ¬ v = u) → et_go none d k tt L r G ck sk Z) (h2 : ¬ (match c with | .eq => v = u | .ne => ¬ v = u) → et_go none d k ff L r G ck sk Z) : et_go none d k pc L (u :: v :: r) G ck sk Z := by
  unfold hs_ax at hc
  split at hc
  · rename_i c' off _ e
    split at hc
    · rename_i h0
      cases hc
      have h3 : 0 ≤ (pc : Int) + off ∧ eg_ca v = true ∧ eg_ca u = true := ⟨h0, hv, hu⟩
      cases c with
      | eq =>
        by_cases hh : v = u
        · refine hs_st e rfl ?_ (h1 hh)
          show (if 0 ≤ (pc : Int) + off ∧ eg_ca v = true ∧ eg_ca u = true then some ((if v = u then eg_tg pc off else pc + 3), L, r, G, ck, sk) else none) = _
          rw [if_pos h3, if_pos hh]
        · refine hs_st e rfl ?_ (h2 hh)
          show (if 0 ≤ (pc : Int) + off ∧ eg_ca v = true ∧ eg_ca u = true then some ((if v = u then eg_tg pc off else pc + 3), L, r, G, ck, sk) else none) = _
          rw [if_pos h3, if_neg hh]
      | ne =>
        by_cases hh : v = u
        · refine hs_st e rfl ?_ (h2 (fun h => h hh))
          show (if 0 ≤ (pc : Int) + off ∧ eg_ca v = true ∧ eg_ca u = true then some ((if ¬ v = u then eg_tg pc off else pc + 3), L, r, G, ck, sk) else none) = _
          rw [if_pos h3, if_neg (fun h => h hh)]
        · refine hs_st e rfl ?_ (h1 hh)
          show (if 0 ≤ (pc : Int) + off ∧ eg_ca v = true ∧ eg_ca u = true then some ((if ¬ v = u then eg_tg pc off else pc + 3), L, r, G, ck, sk) else none) = _
          rw [if_pos h3, if_pos hh]
    · cases hc
  · cases hc
end FXA
theorem xi_inj {x y : Nat} (hx : x < 2147483648) (hy : y < 2147483648) (h : some (Value.int (Int32.ofNat x)) = some (Value.int (Int32.ofNat y))) : x = y := (hs_neq hx hy).mp (Value.int.inj (Option.some.inj h))
end
section
/-! FUNCTIONAL: eye -/
theorem hf_wst {K : et_K} {d k pc ck sk a n p : Nat} {x : Int32} {L : eg_Ls} {r : List Value} {G : eg_G} {Z : eg_O → Prop} (hc : hs_o k pc = some (.iastore, p)) (hH : et_H et_TT K G) (ha : K a = some 46) (hn : n < 126) (hs : ∀ s ∈ et_w46, s.1 ≤ n → n ≤ s.2.1 → et_v K s.2.2 (.int x)) (h : ∀ G', et_H et_TT K G' → xf (fun b j => b = a ∧ j = n) G G' → et_pl (eg_at G' a) n = some (.int x) → et_go none d k p L r G' ck sk Z) : et_go none d k pc L (.int x :: .int (Int32.ofNat n) :: .ref a :: r) G ck sk Z := by
  obtain ⟨f, e, h1, hx⟩ := hi_arr hH ha et_t46 (by decide) (.inl rfl)
  have g := hi_at hH ha (by decide)
  refine hs_iast hc e g (by decide) (by omega) (h _ (hi_uarr hH ha (by decide) et_t46 (.inl rfl) (fun s hs' i i1 i2 i3 => ?_) (fun _ _ => (hx rfl (.inl rfl) _ _ e).lo (fun i i1 i2 => hs_un (by omega)))) ⟨Nat.le_refl _, fun b i hb hi => ?_⟩ ?_)
  · by_cases ei : i = n
    · subst ei
      rw [hs_us]
      exact hs s hs' i1 i2
    · rw [hs_un ei]
      exact h1 s hs' i i1 i2 i3
  · by_cases e3 : b = a
    · subst e3
      rw [et_at_us g.1, e]
      exact hf_plu (.inl rfl) (fun h => hi ⟨rfl, h⟩)
    · rw [et_at_u e3]
  · rw [et_at_us g.1, hf_pl (.inl rfl), if_pos (by omega), hs_us]
theorem hf_w0 {K : et_K} {n : Nat} : ∀ s ∈ et_w46, s.1 ≤ n → n ≤ s.2.1 → et_v K s.2.2 (.int (Int32.ofNat 0)) := by
  intro s hs _ _
  have h : et_w46.all (fun s => match s.2.2 with
    | .inl (lo, hi) => decide (lo = 0) && decide (0 ≤ hi)
    | _ => false) = true := by decide +kernel
  have h1 := List.all_eq_true.mp h s hs
  split at h1
  · rename_i lo hi e
    rw [Bool.and_eq_true] at h1
    rw [e, of_decide_eq_true h1.1]
    exact hi_nv (of_decide_eq_true h1.2) (by decide)
  · cases h1
theorem hf_wk {K : et_K} {n : Nat} {p : et_P} {x : Int32} (hc : et_w46.all (fun s => !(Nat.ble s.1 n && Nat.ble n s.2.1) || decide (s.2.2 = p)) = true) (h : et_v K p (.int x)) : ∀ s ∈ et_w46, s.1 ≤ n → n ≤ s.2.1 → et_v K s.2.2 (.int x) := by
  intro s hs h1 h2
  have h3 := List.all_eq_true.mp hc s hs
  rw [Nat.ble_eq_true_of_le h1, Nat.ble_eq_true_of_le h2] at h3
  have h4 : s.2.2 = p := by simpa using h3
  rw [h4]
  exact h
section FGA
variable {K : et_K} {G : eg_G} {d2 d th am aw out s0 e : Nat} {x c : Int32}
theorem xi_s1 {e : Nat} : Int32.ofNat (e + 1) - Int32.ofNat 1 = Int32.ofNat e := by
  rw [Int32.ofNat_add]
  exact Int32.add_sub_cancel _ _
theorem fc_eye (hH : et_H et_TT K G) (k_th : K th = some 12) (h0 : et_pl (eg_at G th) 0 = some (.ref s0)) (k_s0 : K s0 = some 10) (h5 : et_pl (eg_at G s0) 5 = some (.int (Int32.ofNat e))) (he : e ≤ 3) : et_go none d2 139 0 (eg_en (eg_mL 139) [.ref th]) [] G 0 0 (xe_Z (fun b j => (b = s0 ∧ j = 5)) K G (fun G' r => (e < 3 ∧ r = .inl (some (.int (Int32.ofNat e))) ∧ et_pl (eg_at G' s0) 5 = some (.int (Int32.ofNat (e + 1)))) ∨ (¬ e < 3 ∧ r = .inr 2 ∧ et_pl (eg_at G' s0) 5 = some (.int (Int32.ofNat e))))) := by
  rw [show eg_mL 139 = 1 from by decide +kernel]
  show et_go none d2 139 0 [some (.ref th)] [] G 0 0 _
  have lt_th := (hH.2.2 _ _ k_th).1
  have lt_s0 := (hH.2.2 _ _ k_s0).1
  have hX : xf (fun b j => (b = s0 ∧ j = 5)) G G := xf.rf
  refine hs_aload (i := 0) (p := 1) (by decide +kernel) rfl ?_
  refine hf_get (T := et_TT) (t := 12) (ci := 10) (f := 0) (p := 4) (by decide +kernel) rfl hH k_th h0 ?_
  refine hf_get (T := et_TT) (t := 10) (ci := 8) (f := 5) (p := 7) (by decide +kernel) rfl hH k_s0 h5 ?_
  refine hs_k (x := Int32.ofNat 3) (p := 8) (by decide +kernel) ?_
  refine hs_br2n (c := .lt) (t := 19) (f := 11) (by decide +kernel) (by omega) (by omega) (fun (c8 : e < 3) => ?_) (fun (c8 : ¬ (e < 3)) => ?_)
  · refine hs_aload (i := 0) (p := 20) (by decide +kernel) rfl ?_
    refine hf_get (T := et_TT) (t := 12) (ci := 10) (f := 0) (p := 23) (by decide +kernel) rfl hH k_th h0 ?_
    refine hs_dup1 (p := 24) (by decide +kernel) ?_
    refine hf_get (T := et_TT) (t := 10) (ci := 8) (f := 5) (p := 27) (by decide +kernel) rfl hH k_s0 h5 ?_
    refine hs_k (x := Int32.ofNat 1) (p := 28) (by decide +kernel) ?_
    refine hs_iaddn (p := 29) (by decide +kernel) ?_
    refine hf_put (T := et_TT) (t := 10) (ci := 8) (f := 5) (p := 32) (ty := .int) (by decide +kernel) rfl rfl rfl rfl rfl hH k_s0 (hi_nv (by omega) (by omega)) (fun G29 hH x29 e29 => ?_)
    have h0 := (x29.2 th 0 lt_th (fun h => (hi_ne k_th k_s0 (by decide)) h.1)).trans h0
    have lt_th := Nat.lt_of_lt_of_le lt_th x29.1
    have lt_s0 := Nat.lt_of_lt_of_le lt_s0 x29.1
    have hX := hX.tr x29 (fun b j hb h => by first | omega | (dsimp only at h ⊢; omega) | (dsimp only at h; omega) | (dsimp only; omega))
    refine hs_aload (i := 0) (p := 33) (by decide +kernel) rfl ?_
    refine hf_get (T := et_TT) (t := 12) (ci := 10) (f := 0) (p := 36) (by decide +kernel) rfl hH k_th h0 ?_
    refine hf_get (T := et_TT) (t := 10) (ci := 8) (f := 5) (p := 39) (by decide +kernel) rfl hH k_s0 e29 ?_
    refine hs_k (x := Int32.ofNat 1) (p := 40) (by decide +kernel) ?_
    refine hs_isub (p := 41) (by decide +kernel) ?_
    refine hs_iret (by decide +kernel) ?_
    exact ⟨_, _, _, _, rfl, hH, hX, .inl ⟨by omega, by rw [xi_s1], e29⟩⟩
  · refine hs_thr (x := 2) (lk := 1) (by decide +kernel) rfl rfl ?_
    exact ⟨_, _, _, _, rfl, hH, hX, .inr ⟨by omega, rfl, h5⟩⟩
theorem fm_thr (hH : et_H et_TT K G) (k_am : K am = some 13) (hx : x = 0 ∨ x = 1) : et_go none d2 204 0 (eg_en (eg_mL 204) [.ref am, .int x, .int c]) [] G 0 0 (xw_Z (fun b j => (b = am ∧ j = 0)) K G (fun G' v => v = some (.int x) ∧ ((x = 0 ∧ G' = G) ∨ (¬ x = 0 ∧ et_pl (eg_at G' am) 0 = some (.int c))))) := by
  rw [show eg_mL 204 = 3 from by decide +kernel]
  show et_go none d2 204 0 [some (.ref am), some (.int x), some (.int c)] [] G 0 0 _
  have lt_am := (hH.2.2 _ _ k_am).1
  have hX : xf (fun b j => (b = am ∧ j = 0)) G G := xf.rf
  refine hs_iload (i := 1) (p := 1) (by decide +kernel) rfl ?_
  refine hs_br1 (c := .eq) (t := 9) (f := 4) (by decide +kernel) (fun (c1 : x = 0) => ?_) (fun (c1 : ¬ (x = 0)) => ?_)
  · refine hs_iload (i := 1) (p := 10) (by decide +kernel) rfl ?_
    refine hs_zret (by decide +kernel) hx ?_
    exact ⟨_, _, rfl, hH, hX, rfl, .inl ⟨c1, rfl⟩⟩
  · refine hs_aload (i := 0) (p := 5) (by decide +kernel) rfl ?_
    refine hs_iload (i := 2) (p := 6) (by decide +kernel) rfl ?_
    refine hf_put (T := et_TT) (t := 13) (ci := 11) (f := 0) (p := 9) (ty := .int) (by decide +kernel) rfl rfl rfl rfl rfl hH k_am hi_any (fun G6 hH x6 e6 => ?_)
    have lt_am := Nat.lt_of_lt_of_le lt_am x6.1
    have hX := hX.tr x6 (fun b j hb h => by first | omega | (dsimp only at h ⊢; omega) | (dsimp only at h; omega) | (dsimp only; omega))
    refine hs_iload (i := 1) (p := 10) (by decide +kernel) rfl ?_
    refine hs_zret (by decide +kernel) hx ?_
    exact ⟨_, _, rfl, hH, hX, rfl, .inr ⟨c1, e6⟩⟩
theorem fm_eyeL {i : Nat} {G0 : eg_G} (hH : et_H et_TT K G) (hX : xf (fun b j => (b = am ∧ j = 0) ∨ (b = aw ∧ j = 4) ∨ (b = aw ∧ 45 ≤ j ∧ j ≤ 113)) G0 G) (k_am : K am = some 13) (k_aw : K aw = some 46) (h1 : et_pl (eg_at G am) 1 = some (.ref aw)) (ht : et_pl (eg_at G am) 0 = some (.int (Int32.ofNat 0))) (h4 : et_pl (eg_at G aw) 4 = some (.int (Int32.ofNat (e + 1)))) (he : e < 3) (hi : i ≤ 23) : et_go none d 222 49 [some (.ref am), some (.int (Int32.ofNat e)), some (.int (Int32.ofNat i))] [] G 0 0 (xw_Z (fun b j => (b = am ∧ j = 0) ∨ (b = aw ∧ j = 4) ∨ (b = aw ∧ 45 ≤ j ∧ j ≤ 113)) K G0 (fun G' v => (e < 3 ∧ v = some (.int (Int32.ofNat e)) ∧ et_pl (eg_at G' am) 0 = some (.int (Int32.ofNat 0)) ∧ et_pl (eg_at G' aw) 4 = some (.int (Int32.ofNat (e + 1)))) ∨ (¬ e < 3 ∧ et_pl (eg_at G' am) 0 = some (.int (Int32.ofNat 1)) ∧ et_pl (eg_at G' aw) 4 = some (.int (Int32.ofNat e))))) := by
  induction hm : 23 - i using Nat.strongRecOn generalizing i G with
  | _ z ih =>
    have lt_am := (hH.2.2 _ _ k_am).1
    have lt_aw := (hH.2.2 _ _ k_aw).1
    refine hs_iload (i := 2) (p := 50) (by decide +kernel) rfl ?_
    refine hs_k (x := Int32.ofNat 23) (p := 52) (by decide +kernel) ?_
    refine hs_br2n (c := .ge) (t := 76) (f := 55) (by decide +kernel) (by omega) (by omega) (fun (c52 : 23 ≤ i) => ?_) (fun (c52 : ¬ (23 ≤ i)) => ?_)
    · refine hs_iload (i := 1) (p := 77) (by decide +kernel) rfl ?_
      refine hs_iret (by decide +kernel) ?_
      exact ⟨_, _, rfl, hH, hX, .inl ⟨by omega, rfl, ht, h4⟩⟩
    · refine hs_aload (i := 0) (p := 56) (by decide +kernel) rfl ?_
      refine hf_get (T := et_TT) (t := 13) (ci := 11) (f := 1) (p := 59) (by decide +kernel) rfl hH k_am h1 ?_
      refine hs_k (x := Int32.ofNat 45) (p := 61) (by decide +kernel) ?_
      refine hs_k (x := Int32.ofNat 23) (p := 63) (by decide +kernel) ?_
      refine hs_iload (i := 1) (p := 64) (by decide +kernel) rfl ?_
      refine hs_imuln (p := 65) (by decide +kernel) ?_
      refine hs_iaddn (p := 66) (by decide +kernel) ?_
      refine hs_iload (i := 2) (p := 67) (by decide +kernel) rfl ?_
      refine hs_iaddn (p := 68) (by decide +kernel) ?_
      refine hs_k (x := Int32.ofNat 0) (p := 69) (by decide +kernel) ?_
      refine hf_wst (p := 70) (by decide +kernel) hH k_aw (by omega) hf_w0 (fun G69 hH x69 e69 => ?_)
      have h1 := (x69.2 am 1 lt_am (fun h => (hi_ne k_am k_aw (by decide)) h.1)).trans h1
      have ht := (x69.2 am 0 lt_am (fun h => (hi_ne k_am k_aw (by decide)) h.1)).trans ht
      have h4 := (x69.2 aw 4 lt_aw (fun h => by have h := h.2; omega)).trans h4
      have lt_am := Nat.lt_of_lt_of_le lt_am x69.1
      have lt_aw := Nat.lt_of_lt_of_le lt_aw x69.1
      have hX := hX.tr x69 (fun b j hb h => by first | omega | (dsimp only at h ⊢; omega) | (dsimp only at h; omega) | (dsimp only; omega))
      refine hs_iinc1 (i := 2) (p := 73) (by decide +kernel) rfl (Nat.le_of_ble_eq_true rfl) ?_
      refine hs_goto (p := 49) (by decide +kernel) ?_
      show et_go none d 222 49 [some (.ref am), some (.int (Int32.ofNat e)), some (.int (Int32.ofNat (i + 1)))] [] _ _ _ _
      exact ih (23 - (i + 1)) (by omega) hH hX h1 ht h4 (by omega) rfl
theorem fm_eye (hH : et_H et_TT K G) (k_am : K am = some 13) (k_aw : K aw = some 46) (h1 : et_pl (eg_at G am) 1 = some (.ref aw)) (h4 : et_pl (eg_at G aw) 4 = some (.int (Int32.ofNat e))) (he : e ≤ 3) (hd : 1 ≤ d2) : et_go none d2 222 0 (eg_en (eg_mL 222) [.ref am]) [] G 0 0 (xw_Z (fun b j => (b = am ∧ j = 0) ∨ (b = aw ∧ j = 4) ∨ (b = aw ∧ 45 ≤ j ∧ j ≤ 113)) K G (fun G' v => (e < 3 ∧ v = some (.int (Int32.ofNat e)) ∧ et_pl (eg_at G' am) 0 = some (.int (Int32.ofNat 0)) ∧ et_pl (eg_at G' aw) 4 = some (.int (Int32.ofNat (e + 1)))) ∨ (¬ e < 3 ∧ et_pl (eg_at G' am) 0 = some (.int (Int32.ofNat 1)) ∧ et_pl (eg_at G' aw) 4 = some (.int (Int32.ofNat e))))) := by
  obtain ⟨d, rfl⟩ : ∃ d, d2 = d + 1 := ⟨d2 - 1, by omega⟩
  rw [show eg_mL 222 = 3 from by decide +kernel]
  show et_go none (d + 1) 222 0 [some (.ref am), none, none] [] G 0 0 _
  have lt_am := (hH.2.2 _ _ k_am).1
  have lt_aw := (hH.2.2 _ _ k_aw).1
  have hX : xf (fun b j => (b = am ∧ j = 0) ∨ (b = aw ∧ j = 4) ∨ (b = aw ∧ (45 ≤ j ∧ j ≤ 113))) G G := xf.rf
  refine hs_aload (i := 0) (p := 1) (by decide +kernel) rfl ?_
  refine hs_k (x := Int32.ofNat 0) (p := 2) (by decide +kernel) ?_
  refine hf_put (T := et_TT) (t := 13) (ci := 11) (f := 0) (p := 5) (ty := .int) (by decide +kernel) rfl rfl rfl rfl rfl hH k_am hi_any (fun G2 hH x2 e2 => ?_)
  have h1 := (x2.2 am 1 lt_am (fun h => absurd h.2 (by decide))).trans h1
  have h4 := (x2.2 aw 4 lt_aw (fun h => (hi_ne k_aw k_am (by decide)) h.1)).trans h4
  have lt_am := Nat.lt_of_lt_of_le lt_am x2.1
  have lt_aw := Nat.lt_of_lt_of_le lt_aw x2.1
  have hX := hX.tr x2 (fun b j hb h => by first | omega | (dsimp only at h ⊢; omega) | (dsimp only at h; omega) | (dsimp only; omega))
  refine hs_aload (i := 0) (p := 6) (by decide +kernel) rfl ?_
  refine hs_aload (i := 0) (p := 7) (by decide +kernel) rfl ?_
  refine hf_get (T := et_TT) (t := 13) (ci := 11) (f := 1) (p := 10) (by decide +kernel) rfl hH k_am h1 ?_
  refine hs_k (x := Int32.ofNat 4) (p := 11) (by decide +kernel) ?_
  refine hf_ald (ins := .iaload) (T := et_TT) (t := 46) (kd := 0) (N := 12741) (p := 12) (by decide +kernel) (fun _ _ _ _ _ _ _ _ _ _ => rfl) rfl rfl rfl hH k_aw (by decide) h4 ?_
  refine hs_k (x := Int32.ofNat 3) (p := 13) (by decide +kernel) ?_
  refine hs_br2n (c := .ne) (t := 20) (f := 16) (by decide +kernel) (by omega) (by omega) (fun (c13 : ¬ e = 3) => ?_) (fun (c13 : ¬ (¬ e = 3)) => ?_)
  · refine hs_k (x := Int32.ofNat 0) (p := 21) (by decide +kernel) ?_
    refine hs_k (x := Int32.ofNat 1) (p := 22) (by decide +kernel) ?_
    refine ht_callv (T := et_TT) (t := 13) (mi := 204) (na := 2) (ci := 11) (lk := 3) (lm := 3) (L0 := eg_en (eg_mL 204) [.ref am, .int (Int32.ofNat 0), .int (Int32.ofNat 1)]) (by decide +kernel) rfl hH k_am rfl rfl rfl rfl rfl (by rw [show eg_mL 204 = 3 from by decide +kernel]; first | done | rfl) ?_
    refine (fm_thr (x := Int32.ofNat 0) hH k_am (.inl rfl)).mono (fun u hu => xw_cb hu (fun G22 v22 hH x22 hP22 => ?_))
    obtain ⟨rfl, ⟨-, rfl⟩ | ⟨hz, -⟩⟩ := hP22
    rotate_left
    · exact absurd rfl hz
    show et_go none _ 222 25 _ [.int (Int32.ofNat 0)] _ _ _ _
    refine hs_if1 (c := .eq) (t := 30) (f := 28) (by decide +kernel) (show Int32.ofNat 0 = 0 by decide) ?_
    refine hs_aload (i := 0) (p := 31) (by decide +kernel) rfl ?_
    refine hf_get (T := et_TT) (t := 13) (ci := 11) (f := 1) (p := 34) (by decide +kernel) rfl hH k_am h1 ?_
    refine hs_k (x := Int32.ofNat 4) (p := 35) (by decide +kernel) ?_
    refine hf_ald (ins := .iaload) (T := et_TT) (t := 46) (kd := 0) (N := 12741) (p := 36) (by decide +kernel) (fun _ _ _ _ _ _ _ _ _ _ => rfl) rfl rfl rfl hH k_aw (by decide) h4 ?_
    refine hs_istore (i := 1) (p := 37) (by decide +kernel) (Nat.le_of_ble_eq_true rfl) ?_
    refine hs_aload (i := 0) (p := 38) (by decide +kernel) rfl ?_
    refine hf_get (T := et_TT) (t := 13) (ci := 11) (f := 1) (p := 41) (by decide +kernel) rfl hH k_am h1 ?_
    refine hs_k (x := Int32.ofNat 4) (p := 42) (by decide +kernel) ?_
    refine hs_dup2 (p := 43) (by decide +kernel) ?_
    refine hf_ald (ins := .iaload) (T := et_TT) (t := 46) (kd := 0) (N := 12741) (p := 44) (by decide +kernel) (fun _ _ _ _ _ _ _ _ _ _ => rfl) rfl rfl rfl hH k_aw (by decide) h4 ?_
    refine hs_k (x := Int32.ofNat 1) (p := 45) (by decide +kernel) ?_
    refine hs_iaddn (p := 46) (by decide +kernel) ?_
    refine hf_wst (p := 47) (by decide +kernel) hH k_aw (by omega) (hf_wk (p := .inl (0, 3)) (by decide +kernel) (hi_nv (by omega) (by omega))) (fun G46 hH x46 e46 => ?_)
    have h1 := (x46.2 am 1 lt_am (fun h => (hi_ne k_am k_aw (by decide)) h.1)).trans h1
    have e2 := (x46.2 am 0 lt_am (fun h => (hi_ne k_am k_aw (by decide)) h.1)).trans e2
    have lt_am := Nat.lt_of_lt_of_le lt_am x46.1
    have lt_aw := Nat.lt_of_lt_of_le lt_aw x46.1
    have hX := hX.tr x46 (fun b j hb h => by first | omega | (dsimp only at h ⊢; omega) | (dsimp only at h; omega) | (dsimp only; omega))
    refine hs_k (x := Int32.ofNat 0) (p := 48) (by decide +kernel) ?_
    refine hs_istore (i := 2) (p := 49) (by decide +kernel) (Nat.le_of_ble_eq_true rfl) ?_
    show et_go none _ 222 49 [some (.ref am), some (.int (Int32.ofNat e)), some (.int (Int32.ofNat 0))] [] _ _ _ _
    exact fm_eyeL hH hX k_am k_aw h1 e2 e46 (by omega) (by omega)
  · refine hs_k (x := Int32.ofNat 1) (p := 17) (by decide +kernel) ?_
    refine hs_goto (p := 21) (by decide +kernel) ?_
    refine hs_k (x := Int32.ofNat 1) (p := 22) (by decide +kernel) ?_
    refine ht_callv (T := et_TT) (t := 13) (mi := 204) (na := 2) (ci := 11) (lk := 3) (lm := 3) (L0 := eg_en (eg_mL 204) [.ref am, .int (Int32.ofNat 1), .int (Int32.ofNat 1)]) (by decide +kernel) rfl hH k_am rfl rfl rfl rfl rfl (by rw [show eg_mL 204 = 3 from by decide +kernel]; first | done | rfl) ?_
    refine (fm_thr (x := Int32.ofNat 1) hH k_am (.inr rfl)).mono (fun u hu => xw_cb hu (fun G22 v22 hH x22 hP22 => ?_))
    have h1 := (x22.2 am 1 lt_am (fun h => absurd h.2 (by decide))).trans h1
    have h4 := (x22.2 aw 4 lt_aw (fun h => (hi_ne k_aw k_am (by decide)) h.1)).trans h4
    have lt_am := Nat.lt_of_lt_of_le lt_am x22.1
    have lt_aw := Nat.lt_of_lt_of_le lt_aw x22.1
    have hX := hX.tr x22 (fun b j hb h => by first | omega | (dsimp only at h ⊢; omega) | (dsimp only at h; omega) | (dsimp only; omega))
    obtain ⟨rfl, ⟨hz, -⟩ | ⟨-, e22⟩⟩ := hP22
    · exact absurd hz (by decide)
    show et_go none _ 222 25 _ [.int (Int32.ofNat 1)] _ _ _ _
    refine hs_if0 (c := .eq) (t := 30) (f := 28) (by decide +kernel) (show ¬ (Int32.ofNat 1 = 0) by decide) ?_
    refine hs_k (x := Int32.ofNat 0) (p := 29) (by decide +kernel) ?_
    refine hs_iret (by decide +kernel) ?_
    exact ⟨_, _, rfl, hH, hX, .inr ⟨by omega, e22, h4⟩⟩
end FGA
end
