/-! THE HEAP: new objects and arrays; constants -/
def et_df0 (p : et_P) (v : Value) : Bool := et_ft [] p v
/-- the type of a new object of a class: the first that its default fields fit -/
def et_tn (T : List et_D) (ci : Nat) : Option Nat := (List.range T.length).find? (fun t => match T[t]? with
  | some (.inl (cj, ps)) => decide (cj = ci ∧ ¬ ci = 4 ∧ ¬ ci = 11) && (decide (2 ≤ t) && (decide (ps.length = (eg_cl.getD ci ("", eg_T0, 0)).2.2) && (List.range ps.length).all (fun k => match ps[k]?, (eg_nc (eg_cl.getD ci ("", eg_T0, 0)).2.2 ci)[k]? with
    | some p, some v => et_df0 p v
    | _, _ => false)))
  | _ => false)
def et_dv0 (kd : Nat) : Value := if kd = 2 then .long 0 else if 5 ≤ kd then .null else .int 0
def et_ta (T : List et_D) (kd n : Nat) : Option Nat := (List.range T.length).find? (fun t => match T[t]? with
  | some (.inr (kx, m, ss)) => decide (kx = kd ∧ ¬ m = 12741 ∧ ¬ m = 11900) && (decide (m = n) && (decide (2 ≤ t) && ss.all (fun s => et_df0 s.2.2 (et_dv0 kd))))
  | _ => false)
def et_al1 (E : List et_N) (C : et_C) (pc len : Nat) (L : eg_Ls) (r : List Value) (ck sk n : Nat) (t : Option Nat) : Option (List et_Y) := match t with
  | some t => if E.length < 4294967296 ∧ ck + 1 ≤ eg_MC ∧ sk + n ≤ eg_MS then some [(E ++ [(.inr (.inr (0, t)), none)], C, pc + len, L, .retAddr E.length :: r, ck + 1, sk + n)] else none
  | none => none
def et_nw1 (T : List et_D) (ins : Instr) (E : List et_N) (C : et_C) (o pc : Nat) (L : eg_Ls) (st : List Value) (ck sk : Nat) : Option (List et_Y) := match ins with
  | .new i => (match (eg_cT.getD o []).lookup i with
    | some ci => if ci < 12 then et_al1 E C pc 3 L st ck sk (eg_cl.getD ci ("", eg_T0, 0)).2.2 (et_tn T ci) else none
    | none => none)
  | .newarray t => (match st, eg_na t with
    | .int n :: r, some (k, _) => if 0 ≤ n.toInt ∧ n.toInt ≤ 65536 then et_al1 E C pc 2 L r ck sk n.toNatClampNeg (et_ta T k n.toNatClampNeg) else none
    | _, _ => none)
  | .anewarray i => (match st, (eg_cT.getD o []).lookup i with
    | .int n :: r, some ci => if 0 ≤ n.toInt ∧ n.toInt ≤ 65536 ∧ 5 ≤ eg_ek ci ∧ eg_ek ci < 11 then et_al1 E C pc 3 L r ck sk n.toNatClampNeg (et_ta T (eg_ek ci) n.toNatClampNeg) else none
    | _, _ => none)
  | .arraylength => (match st with
    | .retAddr k :: r => (match et_rb E (.retAddr k) with
      | some (nl, t) => if nl = 0 then (match T[t]? with
        | some (.inr (kd, n, _)) => if kd < 12 then some [(E, C, pc + 1, L, .int (Int32.ofNat n) :: r, ck, sk)] else none
        | _ => none) else none
      | none => none)
    | _ => none)
  | _ => none
section ETK
variable {T : List et_D} {M : et_M} {K : et_K} {R : List Value} {E : List et_N} {C : et_C} {o idx pc len ck sk i c0 s0 mc ms : Nat} {ini : Bool} {L L2 : eg_Ls} {st st2 : List Value} {G : eg_G} {l : List et_Y}
theorem et_c_ex {K' : et_K} (hx : et_ex K K') {d : et_D} {c : eg_C} (h : et_c K d c) : et_c K' d c := by
  obtain ⟨ci, ps⟩ | ⟨t, n, ss⟩ := d
  · obtain ⟨fs, e, el, ef⟩ := h
    refine ⟨fs, e, el, fun k p hk => ?_⟩
    obtain ⟨v, h1, h2⟩ := ef k p hk
    exact ⟨v, h1, h2.imp_right (et_v_ex hx)⟩
  · obtain ⟨x, e, ex, er, es⟩ := h
    refine ⟨x, e, ex, er, fun s hs i i1 i2 i3 => ?_⟩
    obtain ⟨v, h1, h2⟩ := es s hs i i1 i2 i3
    exact ⟨v, h1, et_v_ex hx h2⟩
theorem et_eo_ex {K' : et_K} (hx : et_ex K K') (h : et_eo K R E) : et_eo K' R E := ⟨h.1, fun k p d hk => by
  obtain ⟨v, h1, h2, h3⟩ := h.2 k p d hk
  exact ⟨v, h1, et_v_ex hx h2, h3⟩⟩
theorem et_at_p {c : eg_C} {a : Nat} (h : a < G.2) : eg_at (eg_p G c) a = eg_at G a := by
  unfold eg_at
  split
  · rfl
  · show (if a = G.2 then c else G.1 a) = G.1 a
    rw [if_neg (by omega)]
theorem et_at_ps {c : eg_C} (h : eg_NC ≤ G.2) : eg_at (eg_p G c) G.2 = c := by
  unfold eg_at
  rw [if_neg (Nat.not_lt.mpr h)]
  show (if G.2 = G.2 then c else G.1 G.2) = c
  rw [if_pos rfl]
theorem et_ja {pc n t : Nat} {d : et_D} {c : eg_C} {r r2 : List Value} (hI : et_I T K R E C L r G L2 r2) (hn : E.length < 4294967296) (ht : 2 ≤ t) (hd : T[t]? = some d) (hc : et_c K d c) (hcx : et_cx d G.2 c) (h1 : c0 ≤ ck) (h2 : s0 ≤ sk) :
    et_J T M K R G (some (pc, L2, .ref G.2 :: r2, eg_p G c, c0 + 1, s0 + n)) (E ++ [(.inr (.inr (0, t)), none)], C, pc, L, .retAddr E.length :: r, ck + 1, sk + n) := by
  obtain ⟨hH, hE, hC, hL, hs⟩ := hI
  have hx : et_ex K (fun a => if a = G.2 then some t else K a) := fun a u h => by
    dsimp only
    rw [if_neg (Nat.ne_of_lt (hH.2.2 a u h).1)]
    exact h
  have hH2 : et_H T (fun a => if a = G.2 then some t else K a) (eg_p G c) := by
    refine ⟨Nat.le_succ_of_le hH.1, fun a ha => hx _ _ (hH.2.1 a ha), fun a u h => ?_⟩
    by_cases e : a = G.2
    · subst e
      dsimp only at h
      rw [if_pos rfl] at h
      cases h
      exact ⟨Nat.lt_succ_self _, fun e => absurd e (by omega), fun _ => hH.1, d, hd, by rw [et_at_ps hH.1]; exact et_c_ex hx hc, by rw [et_at_ps hH.1]; exact hcx⟩
    · dsimp only at h
      rw [if_neg e] at h
      obtain ⟨g1, g2, g3, d', hd', hc', hx'⟩ := hH.2.2 a u h
      exact ⟨Nat.lt_succ_of_lt g1, g2, g3, d', hd', by rw [et_at_p g1]; exact et_c_ex hx hc', by rw [et_at_p g1]; exact hx'⟩
  refine ⟨_, [.ref G.2], L2, _, _, _, _, rfl, hx, ⟨Nat.le_succ _, fun a u h i _ => by rw [et_at_p (hH.2.2 a u h).1]⟩, ⟨hH2, et_eo_mono (et_eo_ex hx hE) (.inr ⟨by decide, G.2, rfl, if_pos rfl⟩), fun e he => ?_, et_lr_mono hL, ⟨_, _, rfl, ⟨.inr ⟨_, rfl⟩, et_new hE.1⟩, et_sr_mono hs⟩⟩, Nat.succ_le_succ h1, Nat.add_le_add_right h2 n⟩
  obtain ⟨a, w, q1, q0, q2, q3⟩ := et_co_mono (x := .ref G.2) hC e he
  exact ⟨a, w, q1, Nat.lt_succ_of_lt q0, by rw [et_at_p q0]; exact q2, q3⟩
theorem et_df0_ok {p : et_P} {v : Value} (hn : et_nf v = true) (h : et_df0 p v = true) (hW : ∀ a, a < 36 → K a = some 0) : et_v K p v := et_ft_ok (R := []) (E := []) h ⟨rfl, fun _ _ _ h => by cases h⟩ hW (et_vr_nf hn)
theorem et_nc_nf : ∀ ci, ci < 12 → (eg_nc (eg_cl.getD ci ("", eg_T0, 0)).2.2 ci).all et_nf = true := by decide +kernel
theorem et_tn_ok {ci t : Nat} (h : et_tn T ci = some t) (hci : ci < 12) (hW : ∀ a, a < 36 → K a = some 0) : 2 ≤ t ∧ ∃ d, T[t]? = some d ∧ et_c K d (.inr (ci, eg_nc (eg_cl.getD ci ("", eg_T0, 0)).2.2 ci)) ∧ ∀ a, et_cx d a (.inr (ci, eg_nc (eg_cl.getD ci ("", eg_T0, 0)).2.2 ci)) := by
  have h1 := List.find?_some h
  split at h1
  · rename_i cj ps hT
    rw [Bool.and_eq_true, Bool.and_eq_true, Bool.and_eq_true] at h1
    obtain ⟨a1, a2, a3, a4⟩ := h1
    obtain ⟨a1, n1, n2⟩ := of_decide_eq_true a1
    have a3 := of_decide_eq_true a3
    subst a1
    refine ⟨of_decide_eq_true a2, _, hT, ⟨_, rfl, ?_, fun k p hp => ?_⟩, fun a => ⟨fun h => absurd h n1, fun h => absurd h n2⟩⟩
    · rw [a3]
      unfold eg_nc
      rw [List.length_map, List.length_range]
    · have hk : k < ps.length := (List.getElem?_eq_some_iff.mp hp).1
      have h2 := List.all_eq_true.mp a4 k (List.mem_range.mpr hk)
      rw [hp] at h2
      split at h2
      · rename_i p' v e1 e2
        cases e1
        exact ⟨v, e2, .inr (et_df0_ok (List.all_eq_true.mp (et_nc_nf _ hci) v (List.mem_of_getElem? e2)) h2 hW)⟩
      · cases h2
  · cases h1
theorem et_ta_ok {kd n t : Nat} {x : vp_A} (h : et_ta T kd n = some t) (hW : ∀ a, a < 36 → K a = some 0) (hx : x.1 = n) (hr : ∀ i, eg_rd kd x i = some (et_dv0 kd)) : 2 ≤ t ∧ ∃ d, T[t]? = some d ∧ et_c K d (.inl (kd, x)) ∧ ∀ a, et_cx d a (.inl (kd, x)) := by
  have h1 := List.find?_some h
  split at h1
  · rename_i kx m ss hT
    rw [Bool.and_eq_true, Bool.and_eq_true, Bool.and_eq_true] at h1
    obtain ⟨a1, a2, a3, a4⟩ := h1
    obtain ⟨a1, n1, n2⟩ := of_decide_eq_true a1
    have a2 := of_decide_eq_true a2
    subst a1
    subst a2
    have hnf : et_nf (et_dv0 kx) = true := by
      unfold et_dv0
      split
      · rfl
      · split <;> rfl
    exact ⟨of_decide_eq_true a3, _, hT, ⟨x, rfl, hx, fun i _ => ⟨_, hr i⟩, fun s hs i _ _ _ => ⟨_, hr i, et_df0_ok hnf (List.all_eq_true.mp a4 s hs) hW⟩⟩, fun a _ h => by rcases h with h | h <;> contradiction⟩
  · cases h1
theorem et_al1_ok {n t0 : Nat} {r r2 : List Value} {c : eg_C} {t : Option Nat} (h : et_al1 E C pc len L r ck sk n t = some l) (hI : et_I T K R E C L r G L2 r2) (ht : ∀ t0, t = some t0 → 2 ≤ t0 ∧ ∃ d, T[t0]? = some d ∧ et_c K d c ∧ ∀ a, et_cx d a c) (h1 : c0 ≤ ck) (h2 : s0 ≤ sk) : ∃ Y ∈ l, et_J T M K R G (eg_al eg_MC eg_MS pc len L2 r2 G c0 s0 n c) Y := by
  unfold et_al1 at h
  split at h
  · rename_i t1
    split at h
    · rename_i hc
      cases h
      obtain ⟨a1, d, a2, a3, a4⟩ := ht t1 rfl
      unfold eg_al
      rw [if_pos ⟨by omega, by omega⟩]
      exact ⟨_, List.mem_cons_self, et_ja hI hc.1 a1 a2 a3 (a4 _) h1 h2⟩
    · cases h
  · cases h
theorem et_nw1_ok {ins : Instr} (h : et_nw1 T ins E C o pc L st ck sk = some l) (hI : et_I T K R E C L st G L2 st2) (h1 : c0 ≤ ck) (h2 : s0 ≤ sk) : ∃ Y ∈ l, et_J T M K R G (eg_st o ini eg_MC eg_MS pc len ins L2 st2 G c0 s0) Y := by
  have hW := hI.1.2.1
  cases ins with
  | new i =>
    dsimp only [et_nw1] at h
    dsimp only [eg_st]
    split at h
    · rename_i ci hci
      split at h
      · rename_i hlt
        try rw [hci]
        try dsimp only
        rw [if_pos hlt]
        exact et_al1_ok (t0 := 0) h hI (fun t0 e => et_tn_ok e hlt hW) h1 h2
      · cases h
    · cases h
  | newarray t =>
    dsimp only [et_nw1] at h
    split at h
    · rename_i n r k f hna
      split at h
      · rename_i hc
        obtain ⟨hH, hE, hC, hL, _, r2, rfl, rfl, hr⟩ := hI
        dsimp only [eg_st]
        rw [hna]
        dsimp only
        rw [if_pos hc]
        refine et_al1_ok (t0 := 0) h ⟨hH, hE, hC, hL, hr⟩ (fun t0 e => et_ta_ok e hW ?_ ?_) h1 h2
        · unfold eg_na at hna
          split at hna <;> cases hna <;> rfl
        · intro i
          unfold eg_na at hna
          split at hna <;> cases hna <;> rfl
      · cases h
    · cases h
  | anewarray i =>
    dsimp only [et_nw1] at h
    split at h
    · rename_i n r ci hci
      split at h
      · rename_i hc
        obtain ⟨hH, hE, hC, hL, _, r2, rfl, rfl, hr⟩ := hI
        dsimp only [eg_st]
        rw [hci]
        dsimp only
        rw [if_pos hc]
        refine et_al1_ok (t0 := 0) h ⟨hH, hE, hC, hL, hr⟩ (fun t0 e => et_ta_ok e hW rfl (fun i => ?_)) h1 h2
        unfold eg_rd et_dv0
        dsimp only
        rw [if_pos hc.2.2.1, if_neg (by omega), if_pos hc.2.2.1]
        rfl
      · cases h
    · cases h
  | arraylength =>
    dsimp only [et_nw1] at h
    split at h
    · rename_i k r
      split at h
      · rename_i nl t hb
        split at h
        · rename_i hn
          subst hn
          split at h
          · rename_i kd n ss hT
            split at h
            · rename_i hk
              cases h
              obtain ⟨hH, hE, hC, hL, _, r2, rfl, hv, hr⟩ := hI
              obtain ⟨a, rfl, ha, hRa⟩ := et_obj hb hE hv
              obtain ⟨g1, g2, g3, d, hd, hcell, hcx⟩ := hH.2.2 a t ha
              rw [hT] at hd
              cases hd
              obtain ⟨y, e, ey, -⟩ := hcell
              dsimp only [eg_st]
              rw [e]
              dsimp only
              rw [if_pos ⟨g1, hk⟩, ey]
              exact ⟨_, List.mem_cons_self, et_j0 ⟨hH, hE, hC, hL, _, _, rfl, rfl, hr⟩ h1 h2⟩
            · cases h
          · cases h
        · cases h
      · cases h
    · cases h
  | _ =>
    dsimp only [et_nw1] at h
    cases h
end ETK
