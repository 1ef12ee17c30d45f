/-! BRANCHES on tokens -/
def et_o1 (C : et_C) (t : Nat) (L : eg_Ls) (r : List Value) (ck sk : Nat) (F : Option (List et_N)) : List et_Y := match F with
  | some F => [(F, C, t, L, r, ck, sk)]
  | none => []
def et_tw (E : List et_N) (C : et_C) (pc : Nat) (L : eg_Ls) (r : List Value) (ck sk : Nat) (v : Value) : Int → List Int → List et_Y
  | _, [] => []
  | lo, off :: t => et_o1 C (eg_tg pc off) L r ck sk (et_nw E v lo lo) ++ et_tw E C pc L r ck sk v (lo + 1) t
def et_lk (E : List et_N) (C : et_C) (pc : Nat) (L : eg_Ls) (r : List Value) (ck sk : Nat) (v : Value) (d : Int) : List (Int × Int) → List et_Y
  | [] => [(E, C, eg_tg pc d, L, r, ck, sk)]
  | (a, off) :: t => et_o1 C (eg_tg pc off) L r ck sk (et_nw E v a a) ++ et_lk E C pc L r ck sk v d t
def et_nn (E : List et_N) (k : Nat) (nl t : Nat) : List et_N := match E[k]? with
  | some (_, d) => E.set k (.inr (.inr (nl, t)), d)
  | none => E
/-- may it be compared -/
def et_cq (E : List et_N) (v : Value) : Bool := match v with
  | .null => true
  | .ref a => decide (a < 36) || decide (eg_NC ≤ a)
  | .retAddr k => (match E[k]? with
    | some (.inr (.inr (_, t)), _) => !decide (t = 1)
    | _ => false)
  | _ => false
def et_br (E : List et_N) (C : et_C) (pc : Nat) (ins : Instr) (L : eg_Ls) (st : List Value) (ck sk : Nat) : Option (List et_Y) := match ins with
  | .ifCond c off => (match st with
    | .float k :: r => if 0 ≤ (pc : Int) + off then some (et_fork E C L r ck sk (eg_tg pc off) (pc + 3) c (.float k) (.int 0)) else none
    | _ => none)
  | .if_icmp c off => (match st with
    | y :: x :: r => (match et_ib E x, et_ib E y with
      | some _, some _ => if 0 ≤ (pc : Int) + off then some (et_fork E C L r ck sk (eg_tg pc off) (pc + 3) c x y) else none
      | _, _ => none)
    | _ => none)
  | .if_acmp c off => (match st with
    | w :: v :: r => if 0 ≤ (pc : Int) + off ∧ et_cq E v = true ∧ et_cq E w = true then some [(E, C, eg_tg pc off, L, r, ck, sk), (E, C, pc + 3, L, r, ck, sk)] else none
    | _ => none)
  | .ifnull off => (match st with
    | .retAddr k :: r => (match et_rb E (.retAddr k) with
      | some (nl, t) => if 0 ≤ (pc : Int) + off then some ((if 1 ≤ nl then [(et_nn E k 2 t, C, eg_tg pc off, L, r, ck, sk)] else []) ++ (if nl ≤ 1 then [(et_nn E k 0 t, C, pc + 3, L, r, ck, sk)] else [])) else none
      | none => none)
    | _ => none)
  | .ifnonnull off => (match st with
    | .retAddr k :: r => (match et_rb E (.retAddr k) with
      | some (nl, t) => if 0 ≤ (pc : Int) + off then some ((if 1 ≤ nl then [(et_nn E k 2 t, C, pc + 3, L, r, ck, sk)] else []) ++ (if nl ≤ 1 then [(et_nn E k 0 t, C, eg_tg pc off, L, r, ck, sk)] else [])) else none
      | none => none)
    | _ => none)
  | .tableswitch d lo hi offs => (match st with
    | .float k :: r => if 0 ≤ (pc : Int) + d ∧ (offs.toList.all (fun off => decide (0 ≤ (pc : Int) + off))) = true ∧ hi - lo < offs.toList.length then some (et_tw E C pc L r ck sk (.float k) lo offs.toList ++ (et_o1 C (eg_tg pc d) L r ck sk (et_nw E (.float k) et_mn (lo - 1)) ++ et_o1 C (eg_tg pc d) L r ck sk (et_nw E (.float k) (hi + 1) et_mx))) else none
    | _ => none)
  | .lookupswitch d ps => (match st with
    | .float k :: r => if 0 ≤ (pc : Int) + d ∧ (ps.toList.all (fun q => decide (0 ≤ (pc : Int) + q.2))) = true ∧ (ps.toList.zip (ps.toList.drop 1)).all (fun (a, next) => a.1 < next.1) = true then some (et_lk E C pc L r ck sk (.float k) d ps.toList) else none
    | _ => none)
  | _ => none
section ETG
variable {T : List et_D} {M : et_M} {K : et_K} {R : List Value} {E : List et_N} {C : et_C} {o pc len ck sk i c0 s0 mc ms : Nat} {ini : Bool} {L L2 : eg_Ls} {st st2 : List Value} {G : eg_G} {l : List et_Y}
theorem et_o1_ok {r r2 : List Value} {t : Nat} {F : Option (List et_N)} {F' : List et_N} (e : F = some F') (h : et_I T K R F' C L r G L2 r2) (h1 : c0 ≤ ck) (h2 : s0 ≤ sk) : ∃ Y ∈ et_o1 C t L r ck sk F, et_J T M K R G (some (t, L2, r2, G, c0, s0)) Y := by
  subst e
  exact ⟨_, List.mem_cons_self, et_j0 h h1 h2⟩
theorem et_mL {α : Type} {P : α → Prop} {l m : List α} (h : ∃ Y ∈ l, P Y) : ∃ Y ∈ l ++ m, P Y := by
  obtain ⟨Y, h1, h2⟩ := h
  exact ⟨Y, List.mem_append_left _ h1, h2⟩
theorem et_mR {α : Type} {P : α → Prop} {l m : List α} (h : ∃ Y ∈ m, P Y) : ∃ Y ∈ l ++ m, P Y := by
  obtain ⟨Y, h1, h2⟩ := h
  exact ⟨Y, List.mem_append_right _ h1, h2⟩
theorem et_tw_ok {r r2 : List Value} {v : Value} {x : Int32} {off : Int} (hI : et_I T K R E C L r G L2 r2) (hv : et_vr R v (.int x)) (h1 : c0 ≤ ck) (h2 : s0 ≤ sk) : ∀ {l : List Int} {lo : Int}, lo ≤ x.toInt → l[(x.toInt - lo).toNat]? = some off → ∃ Y ∈ et_tw E C pc L r ck sk v lo l, et_J T M K R G (some (eg_tg pc off, L2, r2, G, c0, s0)) Y
  | [], _, _, h => by cases h
  | a :: t, lo, hl, h => by
    by_cases e : x.toInt = lo
    · rw [e, Int.sub_self] at h
      cases h
      obtain ⟨F, hF, hE⟩ := et_nw_ok hI.2.1 hv (Int.le_of_eq e.symm) (Int.le_of_eq e)
      exact et_mL (et_o1_ok hF ⟨hI.1, hE, hI.2.2⟩ h1 h2)
    · have e2 : (x.toInt - lo).toNat = (x.toInt - (lo + 1)).toNat + 1 := by omega
      rw [e2] at h
      exact et_mR (et_tw_ok hI hv h1 h2 (l := t) (by omega) h)
theorem et_lk_ok {r r2 : List Value} {v : Value} {x : Int32} {d : Int} (hI : et_I T K R E C L r G L2 r2) (hv : et_vr R v (.int x)) (h1 : c0 ≤ ck) (h2 : s0 ≤ sk) : ∀ {l : List (Int × Int)}, ∃ Y ∈ et_lk E C pc L r ck sk v d l, et_J T M K R G (some (eg_tg pc (Op.lookupswitch.offset l d x.toInt), L2, r2, G, c0, s0)) Y
  | [] => ⟨_, List.mem_cons_self, et_j0 hI h1 h2⟩
  | (a, off) :: t => by
    rw [Op.lookupswitch.offset_cons]
    split
    · rename_i e
      obtain ⟨F, hF, hE⟩ := et_nw_ok (lo := a) (hi := a) hI.2.1 hv (by omega) (by omega)
      exact et_mL (et_o1_ok hF ⟨hI.1, hE, hI.2.2⟩ h1 h2)
    · exact et_mR (et_lk_ok hI hv h1 h2 (l := t))
theorem et_lk_in {d k : Int} : ∀ {l : List (Int × Int)}, 0 ≤ (pc : Int) + d → (l.all (fun q => decide (0 ≤ (pc : Int) + q.2))) = true → 0 ≤ (pc : Int) + Op.lookupswitch.offset l d k
  | [], h, _ => h
  | (a, off) :: t, h, ha => by
    rw [List.all_cons, Bool.and_eq_true] at ha
    rw [Op.lookupswitch.offset_cons]
    split
    · exact of_decide_eq_true ha.1
    · exact et_lk_in h ha.2
theorem et_cq_ok {v w : Value} (h : et_cq E v = true) (hH : et_H T K G) (hE : et_eo K R E) (hv : et_vr R v w) : eg_ca w = true := by
  cases v
  case null =>
    have e : w = .null := hv
    rw [e]
    rfl
  case ref a =>
    have e : w = .ref a := hv
    rw [e]
    exact h
  case retAddr k =>
    unfold et_cq at h
    dsimp only at h
    split at h
    · rename_i nl t d hk
      rcases et_eo_get hE hk hv.2 with ⟨-, e⟩ | ⟨-, a, e, ha⟩
      · rw [e]
        rfl
      · rw [e]
        obtain ⟨-, q1, q2, -⟩ := hH.2.2 a t ha
        show (decide (a < 36) || decide (eg_NC ≤ a)) = true
        simp only [Bool.not_eq_true', decide_eq_false_iff_not] at h
        by_cases e0 : t = 0
        · rw [decide_eq_true (q1 e0), Bool.true_or]
        · rw [decide_eq_true (q2 (by omega)), Bool.or_true]
    · cases h
  all_goals cases h
theorem et_nn_ok {k nl t nm : Nat} {w : Value} (hE : et_eo K R E) (hv : et_vr R (.retAddr k) w) (hb : et_rb E (.retAddr k) = some (nl, t)) (hw : et_v K (.inr (.inr (nm, t))) w) : et_eo K R (et_nn E k nm t) := by
  unfold et_rb at hb
  dsimp only at hb
  split at hb
  · rename_i p d hk
    unfold et_nn
    rw [hk]
    exact et_eo_set hE hk hv.2 hw
  · cases hb
theorem et_hb_br {c : Jvm.ClassFile.Cond} {x : Int32} {t f : Nat} {q : Nat} (e : q = (match c with
      | .eq => (if x = 0 then t else f)
      | .ne => (if ¬ x = 0 then t else f)
      | .lt => (if x < 0 then t else f)
      | .ge => (if 0 ≤ x then t else f)
      | .gt => (if 0 < x then t else f)
      | .le => (if x ≤ 0 then t else f))) : (et_hb c x 0 → q = t) ∧ (¬ et_hb c x 0 → q = f) := by
  subst e
  cases c <;> exact ⟨fun h => if_pos h, fun h => if_neg h⟩
theorem et_hb_bi {c : Jvm.ClassFile.Cond} {x y : Int32} {t f : Nat} {q : Nat} (e : q = (match c with
      | .eq => (if x = y then t else f)
      | .ne => (if ¬ x = y then t else f)
      | .lt => (if x < y then t else f)
      | .ge => (if y ≤ x then t else f)
      | .gt => (if y < x then t else f)
      | .le => (if x ≤ y then t else f))) : (et_hb c x y → q = t) ∧ (¬ et_hb c x y → q = f) := by
  subst e
  cases c <;> exact ⟨fun h => if_pos h, fun h => if_neg h⟩
set_option maxHeartbeats 2000000 in
theorem et_br_ok {ins : Instr} (h : et_br E C pc ins L st ck sk = some l) (hI : et_I T K R E C L st G L2 st2) (h1 : c0 ≤ ck) (h2 : s0 ≤ sk) : ∃ Y ∈ l, et_J T M K R G (eg_st o ini mc ms pc len ins L2 st2 G c0 s0) Y := by
  obtain ⟨hH, hE, hC, hL, hs⟩ := hI
  cases ins with
  | ifCond c off =>
    dsimp only [et_br] at h
    split at h
    · rename_i k r
      split at h
      · rename_i hc
        cases h
        obtain ⟨w, r2, rfl, hv, hr⟩ := hs
        have hv2 := hv
        obtain ⟨x, rfl, -⟩ := hv
        dsimp only [eg_st]
        rw [if_pos hc]
        obtain ⟨g1, g2⟩ := et_hb_br (c := c) (x := x) (t := eg_tg pc off) (f := pc + 3) rfl
        exact et_fork_ok ⟨hH, hE, hC, hL, hr⟩ hv2 (show et_vr R (.int 0) (.int 0) from rfl) h1 h2 _ g1 g2
      · cases h
    · cases h
  | if_icmp c off =>
    dsimp only [et_br] at h
    split at h
    · rename_i v u r
      split at h
      · rename_i p q hb1 hb2
        split at h
        · rename_i hc
          cases h
          obtain ⟨_, _, rfl, hv, _, r2, rfl, hu, hr⟩ := hs
          obtain ⟨x, rfl, -⟩ := et_ib_ok (a := p.1) (b := p.2) hb1 hE hu
          obtain ⟨y, rfl, -⟩ := et_ib_ok (a := q.1) (b := q.2) hb2 hE hv
          dsimp only [eg_st]
          rw [if_pos hc]
          obtain ⟨g1, g2⟩ := et_hb_bi (c := c) (x := x) (y := y) (t := eg_tg pc off) (f := pc + 3) rfl
          exact et_fork_ok ⟨hH, hE, hC, hL, hr⟩ hu hv h1 h2 _ g1 g2
        · cases h
      · cases h
    · cases h
  | if_acmp c off =>
    dsimp only [et_br] at h
    split at h
    · rename_i w v r
      split at h
      · rename_i hc
        cases h
        obtain ⟨w', _, rfl, hw, v', r2, rfl, hv, hr⟩ := hs
        dsimp only [eg_st]
        rw [if_pos ⟨hc.1, et_cq_ok hc.2.1 hH hE hv, et_cq_ok hc.2.2 hH hE hw⟩]
        have key : ∀ q : Nat, q = eg_tg pc off ∨ q = pc + 3 → ∃ Y ∈ [(E, C, eg_tg pc off, L, r, ck, sk), (E, C, pc + 3, L, r, ck, sk)], et_J T M K R G (some (q, L2, r2, G, c0, s0)) Y := fun q hq => by
          rcases hq with rfl | rfl
          · exact ⟨_, List.mem_cons_self, et_j0 ⟨hH, hE, hC, hL, hr⟩ h1 h2⟩
          · exact ⟨_, List.mem_cons_of_mem _ List.mem_cons_self, et_j0 ⟨hH, hE, hC, hL, hr⟩ h1 h2⟩
        refine key _ ?_
        cases c
        · dsimp only
          split
          · exact .inl rfl
          · exact .inr rfl
        · dsimp only
          split
          · exact .inl rfl
          · exact .inr rfl
      · cases h
    · cases h
  | ifnull off =>
    dsimp only [et_br] at h
    split at h
    · rename_i k r
      split at h
      · rename_i nl t hb
        split at h
        · rename_i hc
          cases h
          obtain ⟨w, r2, rfl, hv, hr⟩ := hs
          have hw := et_rb_ok hb hE hv
          dsimp only [eg_st]
          rcases hw with ⟨q1, e⟩ | ⟨q1, a, e, ha⟩
          · have hE2 := et_nn_ok (nm := 2) hE hv hb (.inl ⟨by decide, e⟩)
            subst e
            refine et_mL ?_
            rw [if_pos (show 1 ≤ nl from q1)]
            dsimp only
            rw [if_pos hc]
            exact ⟨_, List.mem_cons_self, et_j0 ⟨hH, hE2, hC, hL, hr⟩ h1 h2⟩
          · have hE2 := et_nn_ok (nm := 0) hE hv hb (.inr ⟨by decide, a, e, ha⟩)
            subst e
            refine et_mR ?_
            rw [if_pos (show nl ≤ 1 by omega)]
            exact ⟨_, List.mem_cons_self, et_j0 ⟨hH, hE2, hC, hL, hr⟩ h1 h2⟩
        · cases h
      · cases h
    · cases h
  | ifnonnull off =>
    dsimp only [et_br] at h
    split at h
    · rename_i k r
      split at h
      · rename_i nl t hb
        split at h
        · rename_i hc
          cases h
          obtain ⟨w, r2, rfl, hv, hr⟩ := hs
          have hw := et_rb_ok hb hE hv
          dsimp only [eg_st]
          rcases hw with ⟨q1, e⟩ | ⟨q1, a, e, ha⟩
          · have hE2 := et_nn_ok (nm := 2) hE hv hb (.inl ⟨by decide, e⟩)
            subst e
            refine et_mL ?_
            rw [if_pos (show 1 ≤ nl from q1)]
            exact ⟨_, List.mem_cons_self, et_j0 ⟨hH, hE2, hC, hL, hr⟩ h1 h2⟩
          · have hE2 := et_nn_ok (nm := 0) hE hv hb (.inr ⟨by decide, a, e, ha⟩)
            subst e
            refine et_mR ?_
            rw [if_pos (show nl ≤ 1 by omega)]
            dsimp only
            rw [if_pos hc]
            exact ⟨_, List.mem_cons_self, et_j0 ⟨hH, hE2, hC, hL, hr⟩ h1 h2⟩
        · cases h
      · cases h
    · cases h
  | tableswitch d lo hi offs =>
    dsimp only [et_br] at h
    split at h
    · rename_i k r
      split at h
      · rename_i hc
        obtain ⟨hc1, hc2, hc3⟩ := hc
        cases h
        obtain ⟨w, r2, rfl, hv, hr⟩ := hs
        have hv2 := hv
        obtain ⟨x, rfl, -⟩ := hv
        have hx := et_any x
        dsimp only [eg_st]
        by_cases g1 : x.toInt < lo
        · rw [if_pos (.inl g1), if_pos hc1]
          obtain ⟨F, hF, hE2⟩ := et_nw_ok hE hv2 hx.1 (show x.toInt ≤ lo - 1 by omega)
          exact et_mR (et_mL (et_o1_ok hF ⟨hH, hE2, hC, hL, hr⟩ h1 h2))
        · by_cases g2 : hi < x.toInt
          · rw [if_pos (.inr g2), if_pos hc1]
            obtain ⟨F, hF, hE2⟩ := et_nw_ok hE hv2 (show hi + 1 ≤ x.toInt by omega) hx.2
            exact et_mR (et_mR (et_o1_ok hF ⟨hH, hE2, hC, hL, hr⟩ h1 h2))
          · have hj : (x.toInt - lo).toNat < offs.toList.length := by omega
            have e0 : offs.toList[(x.toInt - lo).toNat]? = some (offs.toList[(x.toInt - lo).toNat]) := List.getElem?_eq_getElem hj
            generalize offs.toList[(x.toInt - lo).toNat] = off at e0
            have e1 : offs[(x.toInt - lo).toNat]? = some off := by rw [← Array.getElem?_toList]; exact e0
            have e2 : 0 ≤ (pc : Int) + off := of_decide_eq_true (List.all_eq_true.mp hc2 off (List.mem_of_getElem? e0))
            rw [if_neg (fun h9 => h9.elim g1 g2), e1]
            dsimp only
            rw [if_pos e2]
            exact et_mL (et_tw_ok ⟨hH, hE, hC, hL, hr⟩ hv2 h1 h2 (by omega) e0)
      · cases h
    · cases h
  | lookupswitch d ps =>
    dsimp only [et_br] at h
    split at h
    · rename_i k r
      split at h
      · rename_i hc
        obtain ⟨hc1, hc2, hc3⟩ := hc
        cases h
        obtain ⟨w, r2, rfl, hv, hr⟩ := hs
        have hv2 := hv
        obtain ⟨x, rfl, -⟩ := hv
        dsimp only [eg_st]
        rw [if_pos ⟨hc3, et_lk_in hc1 hc2⟩]
        exact et_lk_ok ⟨hH, hE, hC, hL, hr⟩ hv2 h1 h2
      · cases h
    · cases h
  | _ =>
    dsimp only [et_br] at h
    cases h
end ETG
