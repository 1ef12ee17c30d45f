/-! BY HAND: the law's steps: as hs_, with the script -/
def hs_np (ins : Instr) : Bool := match ins with
  | .iaload => false
  | .arraylength => false
  | _ => true
theorem ls_sc {sc : eg_Sc} {ins : Instr} {pc : Nat} {L : eg_Ls} {st : List Value} {G : eg_G} {ck sk : Nat} (h : hs_np ins = true) : eg_sc sc ins pc L st G ck sk = none := by
  unfold eg_sc
  split
  · exact absurd h (by decide)
  · exact absurd h (by decide)
  · rfl
section LSA
variable {sc : eg_Sc} {d k pc ck sk : Nat} {L : eg_Ls} {st r : List Value} {G : eg_G} {Z : eg_O → Prop}
theorem ls_st {ins : Instr} {len p ck' sk' : Nat} {L' : eg_Ls} {st' : List Value} {G' : eg_G} (hc : eg_cd k pc = some (ins, len)) (hn : hs_np ins = true) (hp : hs_pl ins = true) (e : eg_st (eg_mo k) (eg_in k) eg_MC eg_MS pc len ins L st G ck sk = some (p, L', st', G', ck', sk')) (h : et_go sc d k p L' st' G' ck' sk' Z) : et_go sc d k pc L st G ck sk Z := by
  refine et_goS (fun q => ?_) h
  have hp2 := hp
  unfold hs_pl at hp2
  rw [Bool.and_eq_true, Bool.and_eq_true] at hp2
  have hrt : ¬ et_rt ins = true := by
    intro h
    rw [h] at hp2
    exact absurd hp2.1 (by decide)
  unfold eg_one
  rw [hc]
  dsimp only
  rw [et_rr_no hrt]
  dsimp only
  rw [ls_sc hn]
  dsimp only
  rw [hs_th hp]
  dsimp only
  rw [Option.isNone_iff_eq_none.mp hp2.2.1]
  dsimp only
  rw [e]
  rfl

theorem ls_iload {i p : Nat} {x : Int32} (hc : hs_il k pc = some (i, p)) (hv : eg_ld L i = some (.int x)) (h : et_go sc d k p L (.int x :: st) G ck sk Z) : et_go sc d k pc L st G ck sk Z := by
  unfold hs_il at hc
  split at hc
  · rename_i e
    cases hc
    exact ls_st e rfl rfl (by show eg_li pc L st G ck sk _ 2 = _; unfold eg_li; rw [hv]) h
  · rename_i e
    cases hc
    exact ls_st e rfl rfl (by show eg_li pc L st G ck sk _ 1 = _; unfold eg_li; rw [hv]) h
  · cases hc

theorem ls_aload {i p a : Nat} (hc : hs_al k pc = some (i, p)) (hv : eg_ld L i = some (.ref a)) (h : et_go sc d k p L (.ref a :: st) G ck sk Z) : et_go sc d k pc L st G ck sk Z := by
  unfold hs_al at hc
  split at hc
  · rename_i e
    cases hc
    exact ls_st e rfl rfl (by show eg_la pc L st G ck sk _ 2 = _; unfold eg_la; rw [hv]) h
  · rename_i e
    cases hc
    exact ls_st e rfl rfl (by show eg_la pc L st G ck sk _ 1 = _; unfold eg_la; rw [hv]) h
  · cases hc

theorem ls_istore {i p : Nat} {x : Int32} (hc : hs_is k pc = some (i, p)) (hl : i < L.length) (h : et_go sc d k p (eg_s1 L i (.int x)) st G ck sk Z) : et_go sc d k pc L (.int x :: st) G ck sk Z := by
  unfold hs_is at hc
  split at hc
  · rename_i e
    cases hc
    exact ls_st e rfl rfl (by show eg_si pc L (.int x :: st) G ck sk _ 2 = _; unfold eg_si; dsimp only; rw [if_pos hl]) h
  · rename_i e
    cases hc
    exact ls_st e rfl rfl (by show eg_si pc L (.int x :: st) G ck sk _ 1 = _; unfold eg_si; dsimp only; rw [if_pos hl]) h
  · cases hc

theorem ls_k {x : Int32} {p : Nat} (hc : hs_kc k pc = some (x, p)) (h : et_go sc d k p L (.int x :: st) G ck sk Z) : et_go sc d k pc L st G ck sk Z := by
  unfold hs_kc at hc
  split at hc
  · rename_i e
    cases hc
    exact ls_st e rfl rfl rfl h
  · rename_i e
    cases hc
    exact ls_st e rfl rfl rfl h
  · rename_i e
    cases hc
    exact ls_st e rfl rfl rfl h
  · cases hc

theorem ls_goto {p : Nat} (hc : hs_gt k pc = some p) (h : et_go sc d k p L st G ck sk Z) : et_go sc d k pc L st G ck sk Z := by
  unfold hs_gt at hc
  split at hc
  · rename_i off _ e
    split at hc
    · rename_i h0
      cases hc
      exact ls_st e rfl rfl (by show (if 0 ≤ (pc : Int) + off then _ else _) = _; rw [if_pos h0]) h
    · cases hc
  · cases hc

theorem ls_pop {p : Nat} {x : Int32} (hc : hs_o k pc = some (.pop, p)) (h : et_go sc d k p L r G ck sk Z) : et_go sc d k pc L (.int x :: r) G ck sk Z := by
  obtain ⟨e, rfl⟩ := hs_oc hc
  exact ls_st e rfl rfl rfl h

theorem ls_iinc {i p : Nat} {n : Int} {x : Int32} (hc : hs_ii k pc = some (i, n, p)) (hv : eg_ld L i = some (.int x)) (hl : i < L.length) (h : et_go sc d k p (eg_s1 L i (.int (x + Int32.ofInt n))) st G ck sk Z) : et_go sc d k pc L st G ck sk Z := by
  unfold hs_ii at hc
  split at hc
  · rename_i e
    cases hc
    exact ls_st e rfl rfl (by
      show (match eg_ld L i with
        | some (.int x) => if 3 = 3 ∧ i < L.length then _ else none
        | _ => none) = _
      rw [hv]
      dsimp only
      rw [if_pos ⟨rfl, hl⟩]) h
  · cases hc

theorem ls_br2 {c : ClassFile.Cond} {t f : Nat} {x y : Int32} (hc : hs_ic k pc = some (c, t, f)) (h1 : hs_c2 c x y → et_go sc d k t L r G ck sk Z) (h2 : ¬ hs_c2 c x y → et_go sc d k f L r G ck sk Z) : et_go sc d k pc L (.int y :: .int x :: r) G ck sk Z := by
  unfold hs_ic at hc
  split at hc
  · rename_i off _ e
    split at hc
    · rename_i h0
      cases hc
      by_cases hx : hs_c2 c x y
      · exact ls_st e rfl rfl (by
          show (if 0 ≤ (pc : Int) + off then _ else _) = _
          rw [if_pos h0]
          cases c <;> (dsimp only [hs_c2] at hx ⊢; rw [if_pos hx])) (h1 hx)
      · exact ls_st e rfl rfl (by
          show (if 0 ≤ (pc : Int) + off then _ else _) = _
          rw [if_pos h0]
          cases c <;> (dsimp only [hs_c2] at hx ⊢; rw [if_neg hx])) (h2 hx)
    · cases hc
  · cases hc

theorem ls_br1 {c : ClassFile.Cond} {t f : Nat} {x : Int32} (hc : hs_if k pc = some (c, t, f)) (h1 : hs_c1 c x → et_go sc d k t L r G ck sk Z) (h2 : ¬ hs_c1 c x → et_go sc d k f L r G ck sk Z) : et_go sc d k pc L (.int x :: r) G ck sk Z := by
  unfold hs_if at hc
  split at hc
  · rename_i off _ e
    split at hc
    · rename_i h0
      cases hc
      by_cases hx : hs_c1 c x
      · exact ls_st e rfl rfl (by
          show (if 0 ≤ (pc : Int) + off then _ else _) = _
          rw [if_pos h0]
          cases c <;> (dsimp only [hs_c1] at hx ⊢; rw [if_pos hx])) (h1 hx)
      · exact ls_st e rfl rfl (by
          show (if 0 ≤ (pc : Int) + off then _ else _) = _
          rw [if_pos h0]
          cases c <;> (dsimp only [hs_c1] at hx ⊢; rw [if_neg hx])) (h2 hx)
    · cases hc
  · cases hc

theorem ls_isub {p : Nat} {x y : Int32} (hc : hs_o k pc = some (.isub, p)) (h : et_go sc d k p L (.int (x - y) :: r) G ck sk Z) : et_go sc d k pc L (.int y :: .int x :: r) G ck sk Z := by
  obtain ⟨e, rfl⟩ := hs_oc hc
  exact ls_st e rfl rfl rfl h

theorem ls_iadd {p : Nat} {x y : Int32} (hc : hs_o k pc = some (.iadd, p)) (h : et_go sc d k p L (.int (x + y) :: r) G ck sk Z) : et_go sc d k pc L (.int y :: .int x :: r) G ck sk Z := by
  obtain ⟨e, rfl⟩ := hs_oc hc
  exact ls_st e rfl rfl rfl h

theorem ls_iaddn {p a b : Nat} (hc : hs_o k pc = some (.iadd, p)) (h : et_go sc d k p L (.int (Int32.ofNat (a + b)) :: r) G ck sk Z) : et_go sc d k pc L (.int (Int32.ofNat b) :: .int (Int32.ofNat a) :: r) G ck sk Z := by
  rw [← hs_nadd] at h
  exact ls_iadd hc h

theorem ls_iand {p : Nat} {x y : Int32} (hc : hs_o k pc = some (.iand, p)) (h : et_go sc d k p L (.int (x &&& y) :: r) G ck sk Z) : et_go sc d k pc L (.int y :: .int x :: r) G ck sk Z := by
  obtain ⟨e, rfl⟩ := hs_oc hc
  exact ls_st e rfl rfl rfl h

theorem ls_tsw {dd lo hi : Int} {offs : Array Int} {len : Nat} {x : Int32} (hc : eg_cd k pc = some (.tableswitch dd lo hi offs, len)) (h0 : (decide (0 ≤ (pc : Int) + dd) && (offs.toList.all (fun off => decide (0 ≤ (pc : Int) + off)) && decide (hi - lo < offs.size))) = true) (h1 : et_go sc d k (eg_tg pc dd) L r G ck sk Z) (h2 : ∀ off ∈ offs.toList, et_go sc d k (eg_tg pc off) L r G ck sk Z) : et_go sc d k pc L (.int x :: r) G ck sk Z := by
  rw [Bool.and_eq_true, Bool.and_eq_true] at h0
  have a1 := of_decide_eq_true h0.1
  have a2 := of_decide_eq_true h0.2.2
  by_cases hx : x.toInt < lo ∨ hi < x.toInt
  · exact ls_st hc rfl rfl (by
      show (if x.toInt < lo ∨ hi < x.toInt then _ else _) = _
      rw [if_pos hx, if_pos a1]) h1
  · have hlt : (x.toInt - lo).toNat < offs.size := by omega
    have hm : offs[(x.toInt - lo).toNat]? = some offs[(x.toInt - lo).toNat] := Array.getElem?_eq_getElem hlt
    have hin : offs[(x.toInt - lo).toNat] ∈ offs.toList := Array.getElem_mem_toList hlt
    exact ls_st hc rfl rfl (by
      show (if x.toInt < lo ∨ hi < x.toInt then _ else (match offs[(x.toInt - lo).toNat]? with
        | some off => if 0 ≤ (pc : Int) + off then some (eg_tg pc off, L, r, G, ck, sk) else none
        | none => none)) = _
      rw [if_neg hx, hm]
      dsimp only
      rw [if_pos (of_decide_eq_true (List.all_eq_true.mp h0.2.1 _ hin))]) (h2 _ hin)

theorem ls_iret {x : Int32} (hc : hs_re k pc = some (some .int)) (h : Z (.inl (some (.int x)), G, ck, sk)) : et_go sc d k pc L [.int x] G ck sk Z := by
  unfold hs_re at hc
  split at hc
  · rename_i e
    refine et_goR (u := (.inl (some (.int x)), G, ck, sk)) (fun q => ?_) h
    unfold eg_one
    rw [e]
    dsimp only
    rw [show eg_mr k = some .int from Option.some.inj hc]
    unfold eg_rr
    dsimp only
    rw [if_pos (show eg_nr .int x = true from decide_eq_true rfl)]
  · cases hc

def ls_cont (sc : eg_Sc) (d k pc : Nat) (L : eg_Ls) (r : List Value) (ck sk : Nat) (Z : eg_O → Prop) : eg_O → Prop := fun u => ∃ o, (∃ g, ∀ q, g ≤ q → eg_bk (eg_rn q) sc d k pc L r ck sk (some u) = some o) ∧ Z o
theorem ls_cb {v : Option Value} {G' : eg_G} {c s : Nat} (h : et_go sc d k (pc + 3) L (v.toList ++ r) G' (ck + c) (sk + s) Z) : ls_cont sc d k pc L r ck sk Z (.inl v, G', c, s) := by
  obtain ⟨o, ⟨g, hg⟩, hZ⟩ := h
  exact ⟨o, ⟨g, fun q hq => hg q hq⟩, hZ⟩
theorem ls_callv {mi na ci lk lm a : Nat} {as : List Value} {L0 : eg_Ls} (hc : hs_cv k pc = some (mi, na, ci, lk, lm)) (hdr : st.drop na = .ref a :: r) (has : (st.take na).reverse = as) (hL : L.length = lk) (hr : Nat.ble (eg_cat r) 8 = true) (hn : Nat.ble (eg_en0 (.ref a :: as)).length lm = true) (hL0 : eg_en lm (.ref a :: as) = L0) (ha : a < G.2) (hg : eg_is (eg_at G a) ci = true) (h : et_go none d mi 0 L0 [] G 0 0 (ls_cont sc (d + 1) k pc L r ck sk Z)) : et_go sc (d + 1) k pc L st G ck sk Z := by
  unfold hs_cv at hc
  split at hc
  · rename_i i _ e
    split at hc
    · rename_i mi' kd x hm
      split at hc
      · rename_i h0
        cases hc
        subst has hL0
        refine et_goC (fun q => ?_) h
        unfold eg_one
        rw [e]
        dsimp only
        rw [et_rr_no (ins := .invokevirtual i) (fun h => nomatch (show false = true from h))]
        dsimp only
        rw [ls_sc rfl]
        dsimp only
        show eg_iv (eg_rn q) sc (d + 1) k pc 1 i L st G ck sk = _
        rw [et_v1 hm, hdr]
        dsimp only
        rw [if_pos ⟨h0.1, ha, hg⟩]
        unfold eg_cl1
        rw [if_pos ⟨Nat.le_of_ble_eq_true hr, hL, Nat.le_of_ble_eq_true hn, h0.2.1, h0.2.2⟩]
      · cases hc
    · cases hc
  · cases hc

theorem ls_calls {mi na lk lm : Nat} {as : List Value} {L0 : eg_Ls} (hc : hs_cs k pc = some (mi, na, lk, lm)) (hln : Nat.ble na st.length = true) (hdr : st.drop na = r) (has : (st.take na).reverse = as) (hL : L.length = lk) (hr : Nat.ble (eg_cat r) 8 = true) (hn : Nat.ble (eg_en0 as).length lm = true) (hL0 : eg_en lm as = L0) (h : et_go none d mi 0 L0 [] G 0 0 (ls_cont sc (d + 1) k pc L r ck sk Z)) : et_go sc (d + 1) k pc L st G ck sk Z := by
  unfold hs_cs at hc
  split at hc
  · rename_i i _ e
    split at hc
    · rename_i mi' kd x hm
      split at hc
      · rename_i h0
        cases hc
        subst has hL0 hdr
        refine et_goC (fun q => ?_) h
        unfold eg_one
        rw [e]
        dsimp only
        rw [et_rr_no (ins := .invokestatic i) (fun h => nomatch (show false = true from h))]
        dsimp only
        rw [ls_sc rfl]
        dsimp only
        show eg_iv (eg_rn q) sc (d + 1) k pc 0 i L st G ck sk = _
        rw [et_v0 hm]
        rw [if_neg (by omega), if_pos ⟨h0.1, Nat.le_of_ble_eq_true hln⟩]
        unfold eg_cl1
        rw [if_pos ⟨Nat.le_of_ble_eq_true hr, hL, Nat.le_of_ble_eq_true hn, h0.2.2.1, h0.2.2.2⟩]
      · cases hc
    · cases hc
  · cases hc

end LSA
theorem lt_callv {sc : eg_Sc} {T : List et_D} {K : et_K} {d k pc ck sk mi na ci lk lm a t : Nat} {L L0 : eg_Ls} {st r as : List Value} {G : eg_G} {Z : eg_O → Prop} {ps : List et_P} (hc : hs_cv k pc = some (mi, na, ci, lk, lm)) (hT : T[t]? = some (.inl (ci, ps))) (hH : et_H T K G) (ha : K a = some t) (hdr : st.drop na = .ref a :: r) (has : (st.take na).reverse = as) (hL : L.length = lk) (hr : Nat.ble (eg_cat r) 8 = true) (hn : Nat.ble (eg_en0 (.ref a :: as)).length lm = true) (hL0 : eg_en lm (.ref a :: as) = L0) (h : et_go none d mi 0 L0 [] G 0 0 (ls_cont sc (d + 1) k pc L r ck sk Z)) : et_go sc (d + 1) k pc L st G ck sk Z := by
  obtain ⟨g1, -, -, dd, hd, hcc, -⟩ := hH.2.2 a t ha
  rw [hT] at hd
  cases hd
  obtain ⟨fs, e, -⟩ := hcc
  exact ls_callv hc hdr has hL hr hn hL0 g1 (by rw [e]; exact beq_self_eq_true ci) h

section LSB
variable {T : List et_D} {M : et_M} {sc : eg_Sc} {d k pc ck sk : Nat} {L : eg_Ls} {st r : List Value} {G : eg_G} {Z : eg_O → Prop} {w : et_Wd} {u : eg_O} {c s : Nat} {P : eg_G → Prop} {K : et_K} {th : Nat}
theorem ls_cbv {q : et_P} (hu : hi_Z T w M [(.inl (some q), c, s)] u) (h : ∀ (v : Value) (K' : et_K) (G' : eg_G) (c' s' : Nat), et_ex w.1 K' → et_fr M w.1 w.2.2 G' → et_H T K' G' → et_v K' q v → c' ≤ c → s' ≤ s → et_go sc d k (pc + 3) L (v :: r) G' (ck + c') (sk + s') Z) : ls_cont sc d k pc L r ck sk Z u := by
  obtain ⟨e, he, K', h1, h2, h3, h4, h5, h6⟩ := hu
  obtain rfl := List.mem_singleton.mp he
  obtain ⟨v, hv1, hv2⟩ := h4
  obtain ⟨u1, u2, u3, u4⟩ := u
  have hv1 : u1 = .inl (some v) := hv1
  subst hv1
  exact ls_cb (h v K' u2 u3 u4 h1 h2 h3 hv2 h5 h6)
theorem ls_cbn (hu : hi_Z T w M [(.inl none, c, s)] u) (h : ∀ (K' : et_K) (G' : eg_G) (c' s' : Nat), et_ex w.1 K' → et_fr M w.1 w.2.2 G' → et_H T K' G' → c' ≤ c → s' ≤ s → et_go sc d k (pc + 3) L r G' (ck + c') (sk + s') Z) : ls_cont sc d k pc L r ck sk Z u := by
  obtain ⟨e, he, K', h1, h2, h3, h4, h5, h6⟩ := hu
  obtain rfl := List.mem_singleton.mp he
  obtain ⟨u1, u2, u3, u4⟩ := u
  have h4 : u1 = .inl none := h4
  subst h4
  exact ls_cb (h K' u2 u3 u4 h1 h2 h3 h5 h6)
theorem ls_cbp {q : et_P} (hu : hi_Z T w M [(.inl (some q), c, s)] u ∧ P u.2.1) (h : ∀ (v : Value) (K' : et_K) (G' : eg_G) (c' s' : Nat), et_ex w.1 K' → et_fr M w.1 w.2.2 G' → et_H T K' G' → P G' → et_v K' q v → c' ≤ c → s' ≤ s → et_go sc d k (pc + 3) L (v :: r) G' (ck + c') (sk + s') Z) : ls_cont sc d k pc L r ck sk Z u := by
  obtain ⟨⟨e, he, K', h1, h2, h3, h4, h5, h6⟩, hP⟩ := hu
  obtain rfl := List.mem_singleton.mp he
  obtain ⟨v, hv1, hv2⟩ := h4
  obtain ⟨u1, u2, u3, u4⟩ := u
  have hv1 : u1 = .inl (some v) := hv1
  subst hv1
  exact ls_cb (h v K' u2 u3 u4 h1 h2 h3 hP hv2 h5 h6)
theorem ls_cbr (hu : pr_Z M K G th [] c s P u) (h : ∀ (n : Int32) (K' : et_K) (G' : eg_G) (c' s' : Nat), et_ex K K' → et_fr M K G G' → et_H et_TT K' G' → ci K' G' th → P G' → c' ≤ c → s' ≤ s → et_go sc d k (pc + 3) L (.int n :: r) G' (ck + c') (sk + s') Z) : ls_cont sc d k pc L r ck sk Z u := by
  obtain ⟨K', h1, h2, h3, h4, h5, h6, h7, h8⟩ := hu
  obtain ⟨u1, u2, u3, u4⟩ := u
  rcases h6 with ⟨n, e⟩ | ⟨x, hx, -⟩
  · have e : u1 = .inl (some (.int n)) := e
    subst e
    exact ls_cb (h n K' u2 u3 u4 h1 h2 h3 h4 h5 h7 h8)
  · exact absurd hx List.not_mem_nil
theorem ls_cbw (hu : pv_Z M K G th u) (h : ∀ (K' : et_K) (G' : eg_G), et_ex K K' → et_fr M K G G' → et_H et_TT K' G' → ci K' G' th → et_go sc d k (pc + 3) L r G' ck sk Z) : ls_cont sc d k pc L r ck sk Z u := by
  obtain ⟨K', h1, h2, h3, h4, e, h7, h8⟩ := hu
  obtain ⟨u1, u2, u3, u4⟩ := u
  have e : u1 = .inl none := e
  have h7 : u3 = 0 := h7
  have h8 : u4 = 0 := h8
  subst e h7 h8
  exact ls_cb (h K' u2 h1 h2 h3 h4)
theorem ls_cbz {A : et_K → eg_G → Value → Prop} (hu : pz_Z M K G A u) (h : ∀ (K' : et_K) (G' : eg_G) (v : Value), et_ex K K' → et_fr M K G G' → et_H et_TT K' G' → A K' G' v → et_go sc d k (pc + 3) L (v :: r) G' ck sk Z) : ls_cont sc d k pc L r ck sk Z u := by
  obtain ⟨K', v, e, h1, h2, h3, h4, h5, h6⟩ := hu
  obtain ⟨u1, u2, u3, u4⟩ := u
  have e : u1 = .inl (some v) := e
  have h4 : u3 = 0 := h4
  have h5 : u4 = 0 := h5
  subst e h4 h5
  exact ls_cb (h K' u2 v h1 h2 h3 h6)
end LSB
section LSC
variable {d pc ck sk i j n p : Nat} {f : Nat → Int32} {L : eg_Ls} {st r : List Value} {G : eg_G} {Z : eg_O → Prop}
theorem ls_scr (hc : hs_o 1000 pc = some (.iaload, p)) (hi : i < n) (hn : n ≤ 3072) (h : et_go (some (n, f)) d 1000 p L (.int (f i) :: r) G ck sk Z) : et_go (some (n, f)) d 1000 pc L (.int (Int32.ofNat i) :: .ref 150 :: r) G ck sk Z := by
  obtain ⟨e, rfl⟩ := hs_oc hc
  refine et_goS (fun q => ?_) h
  unfold eg_one
  rw [e]
  dsimp only
  rw [et_rr_no (ins := .iaload) (fun h => nomatch (show false = true from h))]
  dsimp only
  have h3 := hs_nint (a := i) (by omega)
  have e2 : eg_sc (some (n, f)) .iaload pc L (.int (Int32.ofNat i) :: .ref 150 :: r) G ck sk = some (pc + 1, L, .int (f i) :: r, G, ck, sk) := by
    unfold eg_sc
    dsimp only
    rw [if_pos ⟨rfl, by omega, by omega⟩, hs_nnat (by omega)]
  rw [e2]
theorem ls_len (hc : hs_o 1000 pc = some (.arraylength, p)) (h : et_go (some (n, f)) d 1000 p L (.int (Int32.ofNat n) :: r) G ck sk Z) : et_go (some (n, f)) d 1000 pc L (.ref 150 :: r) G ck sk Z := by
  obtain ⟨e, rfl⟩ := hs_oc hc
  refine et_goS (fun q => ?_) h
  unfold eg_one
  rw [e]
  dsimp only
  rw [et_rr_no (ins := .arraylength) (fun h => nomatch (show false = true from h))]
  dsimp only
  have e2 : eg_sc (some (n, f)) .arraylength pc L (.ref 150 :: r) G ck sk = some (pc + 1, L, .int (Int32.ofNat n) :: r, G, ck, sk) := by
    unfold eg_sc
    dsimp only
    rw [if_pos rfl]
  rw [e2]
/-- script[i + j] -/
def ls_ag (pc : Nat) : Option (Nat × Nat) := match hs_al 1000 pc, hs_il 1000 (pc + 1), hs_kc 1000 (pc + 3), hs_o 1000 (pc + 4), hs_o 1000 (pc + 5) with
  | some (0, _), some (4, _), some (x, _), some (.iadd, _), some (.iaload, _) => some (x.toNatClampNeg, pc + 6)
  | _, _, _, _, _ => none
end LSC
