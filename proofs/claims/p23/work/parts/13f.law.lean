section
/-! the law's code, decoded: 3 -/
theorem eg_kl9_0 : ((eg_law9).take 20).all (fun e => decide (decode code e.1 = .ok e.2)) = true := by decide +kernel
theorem eg_kl9_1 : (((eg_law9).drop 20).take 20).all (fun e => decide (decode code e.1 = .ok e.2)) = true := by decide +kernel
theorem eg_kl9_2 : ((((eg_law9).drop 20).drop 20).take 20).all (fun e => decide (decode code e.1 = .ok e.2)) = true := by decide +kernel
theorem eg_kl9_3 : (((((eg_law9).drop 20).drop 20).drop 20).take 20).all (fun e => decide (decode code e.1 = .ok e.2)) = true := by decide +kernel
theorem eg_kl9_4 : (((((eg_law9).drop 20).drop 20).drop 20).drop 20).all (fun e => decide (decode code e.1 = .ok e.2)) = true := by decide +kernel
theorem eg_kl9 : eg_law9.all (fun e => decide (decode code e.1 = .ok e.2)) = true := eg_sp eg_kl9_0 (eg_sp eg_kl9_1 (eg_sp eg_kl9_2 (eg_sp eg_kl9_3 eg_kl9_4)))
theorem eg_kl10_0 : ((eg_law10).take 20).all (fun e => decide (decode code e.1 = .ok e.2)) = true := by decide +kernel
theorem eg_kl10_1 : (((eg_law10).drop 20).take 20).all (fun e => decide (decode code e.1 = .ok e.2)) = true := by decide +kernel
theorem eg_kl10_2 : ((((eg_law10).drop 20).drop 20).take 20).all (fun e => decide (decode code e.1 = .ok e.2)) = true := by decide +kernel
theorem eg_kl10_3 : (((((eg_law10).drop 20).drop 20).drop 20).take 20).all (fun e => decide (decode code e.1 = .ok e.2)) = true := by decide +kernel
theorem eg_kl10_4 : (((((eg_law10).drop 20).drop 20).drop 20).drop 20).all (fun e => decide (decode code e.1 = .ok e.2)) = true := by decide +kernel
theorem eg_kl10 : eg_law10.all (fun e => decide (decode code e.1 = .ok e.2)) = true := eg_sp eg_kl10_0 (eg_sp eg_kl10_1 (eg_sp eg_kl10_2 (eg_sp eg_kl10_3 eg_kl10_4)))
end
section
/-! THE INTERPRETER: methods by their numbers, eg_LK the law; a result is an answer or an exception -/
abbrev eg_R : Type := Option Value ⊕ Nat
abbrev eg_O : Type := eg_R × eg_G × Nat × Nat
abbrev eg_Sc : Type := Option (Nat × (Nat → Int32))
abbrev eg_Rec : Type := eg_Sc → Nat → Nat → Nat → eg_Ls → List Value → eg_G → Nat → Nat → Option eg_O
def eg_LK : Nat := 1000
def eg_lw : List (Nat × Instr × Nat) := eg_law0 ++ (eg_law1 ++ (eg_law2 ++ (eg_law3 ++ (eg_law4 ++ (eg_law5 ++ (eg_law6 ++ (eg_law7 ++ (eg_law8 ++ (eg_law9 ++ (eg_law10))))))))))
def eg_ml : eg_MI := (⟨"KnobEyeLaw", "law", "([I)Z"⟩, code, maxLocals, ret, none, 0, 1)
def eg_mi (k : Nat) : eg_MI := if k = eg_LK then eg_ml else (eg_me k).1
abbrev eg_mn (k : Nat) : MethodName := (eg_mi k).1
abbrev eg_mb (k : Nat) : ByteArray := (eg_mi k).2.1
abbrev eg_mL (k : Nat) : Nat := (eg_mi k).2.2.1
abbrev eg_mr (k : Nat) : Option FieldType := (eg_mi k).2.2.2.1
abbrev eg_mh (k : Nat) : Option (List (Nat × Nat × Nat × Nat)) := (eg_mi k).2.2.2.2.1
abbrev eg_mo (k : Nat) : Nat := (eg_mi k).2.2.2.2.2.1
abbrev eg_ma (k : Nat) : Nat := (eg_mi k).2.2.2.2.2.2
def eg_cd (k pc : Nat) : Option (Instr × Nat) := (if k = eg_LK then eg_lw else (eg_me k).2).lookup pc
def eg_nr (ty : FieldType) (x : Int32) : Bool := decide (narrow ty (.int x) = .int x)
def eg_rr (ins : Instr) (ret : Option FieldType) (st : List Value) : Option (Option Value) := match ins, ret, st with
  | .return_, none, [] => some none
  | .ireturn, some ty, [.int x] => if eg_nr ty x = true then some (some (.int x)) else none
  | .lreturn, some .long, [.long x] => some (some (.long x))
  | .areturn, some (.object _), [.ref a] => some (some (.ref a))
  | .areturn, some (.object _), [.null] => some (some .null)
  | .areturn, some (.array _), [.ref a] => some (some (.ref a))
  | .areturn, some (.array _), [.null] => some (some .null)
  | _, _, _ => none
def eg_sc (scr : eg_Sc) (ins : Instr) (pc : Nat) (L : eg_Ls) (st : List Value) (G : eg_G) (ck sk : Nat) : Option eg_S := match scr, ins, st with
  | some (n, f), .iaload, .int i :: .ref a :: r => if a = 150 ∧ 0 ≤ i.toInt ∧ i.toInt < n then some (pc + 1, L, .int (f i.toNatClampNeg) :: r, G, ck, sk) else none
  | some (n, _), .arraylength, .ref a :: r => if a = 150 then some (pc + 1, L, .int (Int32.ofNat n) :: r, G, ck, sk) else none
  | _, _, _ => none
def eg_cat (r : List Value) : Nat := (r.map fun v => v.category).sum
def eg_th (k pc : Nat) (ins : Instr) : Option (Nat × Nat × Nat) := match ins with
  | .new i => eg_xT.find? (fun q => (q.1 == i) && ((eg_mo k == 11) && ((eg_mh k).isNone && (decide (eg_cd k (pc + 3) = some (.dup, 1)) && (decide (eg_cd k (pc + 4) = some (.invokespecial q.2.1, 3)) && decide (eg_cd k (pc + 7) = some (.athrow, 1)))))))
  | _ => none
def eg_ik (ins : Instr) : Option (Nat × Nat) := match ins with
  | .invokestatic i => some (0, i)
  | .invokevirtual i => some (1, i)
  | .invokespecial i => some (2, i)
  | _ => none
def eg_hd (o pc x : Nat) : List (Nat × Nat × Nat × Nat) → Option Nat
  | [] => none
  | (a, b, h, ct) :: t => if a ≤ pc ∧ pc < b then (match (eg_cT.getD o []).lookup ct with
      | some y => if ct = 0 then none else if y = 20 + x then some h else if 20 ≤ y ∧ y < 24 then eg_hd o pc x t else none
      | none => none) else eg_hd o pc x t
def eg_ca1 (k h : Nat) : Option (Nat × Nat) := match eg_cd k h with
  | some (.astore_n i, _) => some (i, 1)
  | some (.astore i, _) => some (i, 2)
  | _ => none
def eg_sn (L : eg_Ls) (i : Nat) : eg_Ls := (eg_s1 L i .null).set i none
def eg_en0 : List Value → eg_Ls
  | [] => []
  | v :: t => if v.category = 2 then some v :: none :: eg_en0 t else some v :: eg_en0 t
def eg_en (n : Nat) (as : List Value) : eg_Ls := eg_en0 as ++ List.replicate (n - (eg_en0 as).length) none
/-- behind a call -/
def eg_bk (rec : eg_Rec) (scr : eg_Sc) (d k pc : Nat) (L : eg_Ls) (r : List Value) (ck sk : Nat) : Option eg_O → Option eg_O
  | some (.inl v, G', c, s) => rec scr d k (pc + 3) L (v.toList ++ r) G' (ck + c) (sk + s)
  | some (.inr x, G', c, s) => (match eg_mh k with
    | none => some (.inr x, G', ck + c, sk + s)
    | some hh => match eg_hd (eg_mo k) pc x hh with
      | some h => (match eg_ca1 k h with
        | some (i, n) => if i < L.length then rec scr d k (h + n) (eg_sn L i) [] G' (ck + c) (sk + s) else none
        | none => none)
      | none => none)
  | none => none
def eg_cl1 (rec : eg_Rec) (scr : eg_Sc) (d k pc mi : Nat) (as r : List Value) (L : eg_Ls) (G : eg_G) (ck sk : Nat) : Option eg_O :=
  if eg_cat r ≤ 8 ∧ L.length = eg_mL k ∧ (eg_en0 as).length ≤ eg_mL mi ∧ mi < 316 ∧ ¬ eg_mo mi = 20 then (match d with
    | 0 => none
    | d' + 1 => eg_bk rec scr (d' + 1) k pc L r ck sk (rec none d' mi 0 (eg_en (eg_mL mi) as) [] G 0 0)) else none
def eg_oc (kd mi : Nat) : Nat := if kd = 7 then 12 else if eg_mo mi = 14 then 12 else if eg_mo mi = 15 then 13 else if 1 ≤ eg_mo mi ∧ eg_mo mi ≤ 12 then eg_mo mi - 1 else 99
/-- java.lang.Math -/
def eg_mt (mi : Nat) (st : List Value) : Option (Value × List Value) := match mi, st with
  | 309, .int x :: r => some (.int (if 0 ≤ x then x else 0 - x), r)
  | 310, .int y :: .int x :: r => some (.int (if x < y then y else x), r)
  | 311, .int y :: .int x :: r => some (.int (if y < x then y else x), r)
  | 312, .long y :: .long x :: r => some (.long (if y < x then y else x), r)
  | 313, .long y :: .long x :: r => some (.long (if y < x then x else y), r)
  | _, _ => none
def eg_iv (rec : eg_Rec) (scr : eg_Sc) (d k pc t i : Nat) (L : eg_Ls) (st : List Value) (G : eg_G) (ck sk : Nat) : Option eg_O :=
  match (eg_mT.getD (eg_mo k) []).lookup i with
  | none => none
  | some (mi, kd, _) => match t with
    | 0 => if kd = 0 ∧ 309 ≤ mi ∧ mi ≤ 313 then (match eg_mt mi st with
        | some (v, r) => if eg_cat r ≤ 8 ∧ L.length = eg_mL k then rec scr d k (pc + 3) L (v :: r) G ck sk else none
        | none => none)
      else if (kd = 0 ∨ kd = 3) ∧ eg_ma mi ≤ st.length then eg_cl1 rec scr d k pc mi (st.take (eg_ma mi)).reverse (st.drop (eg_ma mi)) L G ck sk else none
    | 1 => (match st.drop (eg_ma mi) with
      | .ref b :: r => if (kd = 1 ∨ kd = 4 ∨ kd = 7) ∧ b < G.2 ∧ eg_is (eg_at G b) (eg_oc kd mi) = true then eg_cl1 rec scr d k pc mi (.ref b :: (st.take (eg_ma mi)).reverse) r L G ck sk else none
      | _ => none)
    | _ => if kd = 6 then (match st with
        | .ref _ :: r => if eg_cat r ≤ 8 ∧ L.length = eg_mL k then rec scr d k (pc + 3) L r G ck sk else none
        | _ => none)
      else (match st.drop (eg_ma mi) with
        | .ref b :: r => if kd = 2 ∨ kd = 5 then eg_cl1 rec scr d k pc mi (.ref b :: (st.take (eg_ma mi)).reverse) r L G ck sk else none
        | _ => none)
def eg_MC : Nat := 600002
def eg_MS : Nat := 7302232
def eg_in (k : Nat) : Bool := (eg_mn k).name == "<init>"
def eg_nx (rec : eg_Rec) (scr : eg_Sc) (d k : Nat) : Option eg_S → Option eg_O
  | some (pc', L', st', G', ck', sk') => rec scr d k pc' L' st' G' ck' sk'
  | none => none
def eg_one (rec : eg_Rec) : eg_Rec := fun scr d k pc L st G ck sk =>
  match eg_cd k pc with
  | none => none
  | some (ins, len) => match eg_rr ins (eg_mr k) st with
    | some v => some (.inl v, G, ck, sk)
    | none => match eg_sc scr ins pc L st G ck sk with
      | some (pc', L', st', G', ck', sk') => rec scr d k pc' L' st' G' ck' sk'
      | none => match eg_th k pc ins with
        | some q => if eg_cat st ≤ 8 ∧ L.length = eg_mL k then some (.inr q.2.2, G, ck + 1, sk + 6) else none
        | none => match eg_ik ins with
          | some (t, i) => eg_iv rec scr d k pc t i L st G ck sk
          | none => eg_nx rec scr d k (eg_st (eg_mo k) (eg_in k) eg_MC eg_MS pc len ins L st G ck sk)
def eg_rn : Nat → eg_Rec
  | 0 => fun _ _ _ _ _ _ _ _ _ => none
  | f + 1 => eg_one (eg_rn f)
/-! the counters -/
def eg_up (a b : Nat × Nat) : Prop := a.1 ≤ b.1 ∧ a.2 ≤ b.2
theorem eg_al_up {mc ms pc len n : Nat} {L : eg_Ls} {st : List Value} {G : eg_G} {ck sk : Nat} {c : eg_C} {pc' : Nat} {L' : eg_Ls} {st' : List Value} {G' : eg_G} {ck' sk' : Nat} (h : eg_al mc ms pc len L st G ck sk n c = some (pc', L', st', G', ck', sk')) : (ck ≤ ck' ∧ sk ≤ sk') ∧ ∀ mc ms : Nat, ck' ≤ mc → sk' ≤ ms → eg_al mc ms pc len L st G ck sk n c = some (pc', L', st', G', ck', sk') := by
  unfold eg_al at h
  split at h
  · cases h
    refine ⟨⟨by omega, by omega⟩, fun mc ms h1 h2 => ?_⟩
    unfold eg_al
    rw [if_pos ⟨h1, h2⟩]
  · cases h
/-- it doesn't count -/
def eg_qt (h : Option eg_S) (ck sk : Nat) : Prop := ∀ pc' L' st' G' ck' sk', h = some (pc', L', st', G', ck', sk') → ck' = ck ∧ sk' = sk
theorem eg_qs {pc : Nat} {L : eg_Ls} {st : List Value} {G : eg_G} {ck sk : Nat} : eg_qt (some (pc, L, st, G, ck, sk)) ck sk := fun _ _ _ _ _ _ h => by cases h; exact ⟨rfl, rfl⟩
theorem eg_qn {ck sk : Nat} : eg_qt none ck sk := fun _ _ _ _ _ _ h => nomatch h
theorem eg_qi {c : Prop} [Decidable c] {a b : Option eg_S} {ck sk : Nat} (h1 : eg_qt a ck sk) (h2 : eg_qt b ck sk) : eg_qt (if c then a else b) ck sk := by
  split
  · exact h1
  · exact h2
set_option maxHeartbeats 4000000 in
theorem eg_st_up {o : Nat} {ini : Bool} {mc ms pc len : Nat} {ins : Instr} {L : eg_Ls} {st : List Value} {G : eg_G} {ck sk : Nat} {pc' : Nat} {L' : eg_Ls} {st' : List Value} {G' : eg_G} {ck' sk' : Nat} (h : eg_st o ini mc ms pc len ins L st G ck sk = some (pc', L', st', G', ck', sk')) :
    (ck ≤ ck' ∧ sk ≤ sk') ∧ ∀ mc ms : Nat, ck' ≤ mc → sk' ≤ ms → eg_st o ini mc ms pc len ins L st G ck sk = some (pc', L', st', G', ck', sk') := by
  have key : ∀ {x : Option eg_S}, eg_qt x ck sk → x = some (pc', L', st', G', ck', sk') → (ck ≤ ck' ∧ sk ≤ sk') := fun q h => by
    obtain ⟨rfl, rfl⟩ := q _ _ _ _ _ _ h
    exact ⟨Nat.le_refl _, Nat.le_refl _⟩
  cases ins with
  | new i =>
    simp only [eg_st] at h ⊢
    split at h
    · split at h
      · rename_i hc
        obtain ⟨a, b⟩ := eg_al_up h
        exact ⟨a, fun mc ms h1 h2 => by rw [if_pos hc]; exact b mc ms h1 h2⟩
      · cases h
    · cases h
  | newarray t =>
    simp only [eg_st] at h ⊢
    split at h
    · split at h
      · rename_i hc
        obtain ⟨a, b⟩ := eg_al_up h
        exact ⟨a, fun mc ms h1 h2 => by rw [if_pos hc]; exact b mc ms h1 h2⟩
      · cases h
    · cases h
  | anewarray t =>
    simp only [eg_st] at h ⊢
    split at h
    · split at h
      · rename_i hc
        obtain ⟨a, b⟩ := eg_al_up h
        exact ⟨a, fun mc ms h1 h2 => by rw [if_pos hc]; exact b mc ms h1 h2⟩
      · cases h
    · cases h
  | multianewarray t d =>
    simp only [eg_st] at h ⊢
    split at h
    · split at h
      · rename_i hc
        cases h
        refine ⟨⟨by omega, by omega⟩, fun mc ms h1 h2 => ?_⟩
        rw [if_pos ⟨hc.1, hc.2.1, hc.2.2.1, hc.2.2.2.1, hc.2.2.2.2.1, by omega, by omega⟩]
      · cases h
    · cases h
  | _ =>
    refine ⟨key ?_ h, fun _ _ _ _ => h⟩
    clear h key
    dsimp only [eg_st]
    first
      | exact eg_qs
      | exact eg_qn
      | (unfold eg_ii; split <;> first | exact eg_qs | exact eg_qn)
      | (unfold eg_l2; split <;> first | exact eg_qs | exact eg_qn)
      | (unfold eg_ls; split <;> first | exact eg_qs | exact eg_qn)
      | (unfold eg_li; split <;> first | exact eg_qs | exact eg_qn)
      | (unfold eg_ll; split <;> first | exact eg_qs | exact eg_qn)
      | (unfold eg_la; split <;> first | exact eg_qs | exact eg_qn)
      | (unfold eg_si; split <;> first | exact eg_qi eg_qs eg_qn | exact eg_qn)
      | (unfold eg_sl2; split <;> first | exact eg_qi eg_qs eg_qn | exact eg_qn)
      | (unfold eg_sa; split <;> first | exact eg_qi eg_qs eg_qn | exact eg_qn)
      | (unfold eg_kst; (repeat' split) <;> first | exact eg_qs | exact eg_qn)
      | (unfold eg_ar; (repeat' split) <;> first | exact eg_qs | exact eg_qn)
      | (unfold eg_aw; (repeat' split) <;> first | exact eg_qs | exact eg_qn)
      | (unfold eg_gf; (repeat' split) <;> first | exact eg_qs | exact eg_qn)
      | (unfold eg_pf; (repeat' split) <;> first | exact eg_qs | exact eg_qn)
      | ((repeat' split) <;> first | exact eg_qs | exact eg_qn)
theorem eg_lw_dec : ∀ e ∈ eg_lw, decode code e.1 = .ok e.2 := by
  have h : ∀ {l : List (Nat × Instr × Nat)}, l.all (fun e => decide (decode code e.1 = .ok e.2)) = true → ∀ e ∈ l, decode code e.1 = .ok e.2 := fun h e he => of_decide_eq_true (List.all_eq_true.mp h e he)
  unfold eg_lw
  exact List.forall_mem_append.mpr ⟨h eg_kl0, List.forall_mem_append.mpr ⟨h eg_kl1, List.forall_mem_append.mpr ⟨h eg_kl2, List.forall_mem_append.mpr ⟨h eg_kl3, List.forall_mem_append.mpr ⟨h eg_kl4, List.forall_mem_append.mpr ⟨h eg_kl5, List.forall_mem_append.mpr ⟨h eg_kl6, List.forall_mem_append.mpr ⟨h eg_kl7, List.forall_mem_append.mpr ⟨h eg_kl8, List.forall_mem_append.mpr ⟨h eg_kl9, h eg_kl10⟩⟩⟩⟩⟩⟩⟩⟩⟩⟩
theorem eg_lw_lok : eg_lw.all (fun e => eg_lok e.2.1 e.2.2) = true := by
  have h : ∀ {l : List (Nat × Instr × Nat)}, l.all (fun e => eg_lok e.2.1 e.2.2) = true → ∀ e ∈ l, eg_lok e.2.1 e.2.2 = true := fun h e he => List.all_eq_true.mp h e he
  refine List.all_eq_true.mpr ?_
  unfold eg_lw
  exact List.forall_mem_append.mpr ⟨h eg_ll0, List.forall_mem_append.mpr ⟨h eg_ll1, List.forall_mem_append.mpr ⟨h eg_ll2, List.forall_mem_append.mpr ⟨h eg_ll3, List.forall_mem_append.mpr ⟨h eg_ll4, List.forall_mem_append.mpr ⟨h eg_ll5, List.forall_mem_append.mpr ⟨h eg_ll6, List.forall_mem_append.mpr ⟨h eg_ll7, List.forall_mem_append.mpr ⟨h eg_ll8, List.forall_mem_append.mpr ⟨h eg_ll9, h eg_ll10⟩⟩⟩⟩⟩⟩⟩⟩⟩⟩
end
section
/-! THE INTERPRETER IS RIGHT -/
section EGS
def eg_le (rec : eg_Rec) : Prop := ∀ scr d k pc L st G ck sk r G' ck' sk', rec scr d k pc L st G ck sk = some (r, G', ck', sk') → ck ≤ ck' ∧ sk ≤ sk'
theorem eg_bk_le {rec : eg_Rec} (h : eg_le rec) {scr : eg_Sc} {d k pc : Nat} {L : eg_Ls} {r : List Value} {ck sk : Nat} {o : Option eg_O} {q : eg_R} {G' : eg_G} {ck' sk' : Nat} (hb : eg_bk rec scr d k pc L r ck sk o = some (q, G', ck', sk')) :
    ∃ (q1 : eg_R) (G1 : eg_G) (c1 s1 : Nat), o = some (q1, G1, c1, s1) ∧ ck + c1 ≤ ck' ∧ sk + s1 ≤ sk' := by
  unfold eg_bk at hb
  split at hb
  · exact ⟨_, _, _, _, rfl, h _ _ _ _ _ _ _ _ _ _ _ _ _ hb⟩
  · split at hb
    · cases hb
      exact ⟨_, _, _, _, rfl, Nat.le_refl _, Nat.le_refl _⟩
    · split at hb
      · split at hb
        · split at hb
          · exact ⟨_, _, _, _, rfl, h _ _ _ _ _ _ _ _ _ _ _ _ _ hb⟩
          · cases hb
        · cases hb
      · cases hb
  · cases hb
theorem eg_cl1_le {rec : eg_Rec} (h : eg_le rec) {scr : eg_Sc} {d k pc mi : Nat} {as r : List Value} {L : eg_Ls} {G : eg_G} {ck sk : Nat} {q : eg_R} {G' : eg_G} {ck' sk' : Nat} (hb : eg_cl1 rec scr d k pc mi as r L G ck sk = some (q, G', ck', sk')) : ck ≤ ck' ∧ sk ≤ sk' := by
  unfold eg_cl1 at hb
  split at hb
  · split at hb
    · cases hb
    · obtain ⟨_, _, c1, s1, -, h1, h2⟩ := eg_bk_le h hb
      exact ⟨by omega, by omega⟩
  · cases hb
theorem eg_iv_le {rec : eg_Rec} (h : eg_le rec) {scr : eg_Sc} {d k pc t i : Nat} {st : List Value} {L : eg_Ls} {G : eg_G} {ck sk : Nat} {q : eg_R} {G' : eg_G} {ck' sk' : Nat} (hb : eg_iv rec scr d k pc t i L st G ck sk = some (q, G', ck', sk')) : ck ≤ ck' ∧ sk ≤ sk' := by
  unfold eg_iv at hb
  split at hb
  · cases hb
  · split at hb
    · split at hb
      · split at hb
        · split at hb
          · exact h _ _ _ _ _ _ _ _ _ _ _ _ _ hb
          · cases hb
        · cases hb
      · split at hb
        · exact eg_cl1_le h hb
        · cases hb
    · split at hb
      · split at hb
        · exact eg_cl1_le h hb
        · cases hb
      · cases hb
    · split at hb
      · split at hb
        · split at hb
          · exact h _ _ _ _ _ _ _ _ _ _ _ _ _ hb
          · cases hb
        · cases hb
      · split at hb
        · split at hb
          · exact eg_cl1_le h hb
          · cases hb
        · cases hb
theorem eg_one_le {rec : eg_Rec} (h : eg_le rec) : eg_le (eg_one rec) := by
  intro scr d k pc L st G ck sk r G' ck' sk' hb
  unfold eg_one at hb
  split at hb
  · cases hb
  · split at hb
    · cases hb
      exact ⟨Nat.le_refl _, Nat.le_refl _⟩
    · split at hb
      · rename_i hsc
        have h1 := h _ _ _ _ _ _ _ _ _ _ _ _ _ hb
        unfold eg_sc at hsc
        split at hsc
        · split at hsc
          · cases hsc
            exact h1
          · cases hsc
        · split at hsc
          · cases hsc
            exact h1
          · cases hsc
        · cases hsc
      · split at hb
        · split at hb
          · cases hb
            exact ⟨Nat.le_succ _, Nat.le_add_right _ _⟩
          · cases hb
        · split at hb
          · exact eg_iv_le h hb
          · unfold eg_nx at hb
            split at hb
            · rename_i hst
              obtain ⟨⟨a1, a2⟩, -⟩ := eg_st_up hst
              obtain ⟨b1, b2⟩ := h _ _ _ _ _ _ _ _ _ _ _ _ _ hb
              exact ⟨by omega, by omega⟩
            · cases hb
theorem eg_rn_le : ∀ f : Nat, eg_le (eg_rn f)
  | 0 => fun _ _ _ _ _ _ _ _ _ _ _ _ _ h => nomatch h
  | f + 1 => eg_one_le (eg_rn_le f)
def eg_B (p : Program) (s : State) (m : MethodId) (meth : Method) (c : Code) (R : Room) (k d mc ms : Nat) : Prop :=
  p.tables.exec = Jvm.exec ∧ c.code = eg_mb k ∧ c.maxLocals = eg_mL k ∧ s.vm.findClass (eg_on (eg_mo k)) = some m.cls ∧ meth.locks = false ∧ meth.sig.returnType = eg_mr k ∧ (eg_in k = true → meth.name = "<init>") ∧
  (k ≠ eg_LK → c.exceptionTable.toList = tableOf ((eg_mh k).getD [])) ∧ R.cells = mc ∧ R.slots = ms ∧ d + 12 ≤ R.frames ∧ 48 * d + 300 ≤ R.locals
def eg_KR (p : Program) (l : Launch) (e : Env) (R : Room) (s : State) (m : MethodId) (args : Array Value) (below : List Frame) (meth : Method) (c : Code) (Q : State → Prop) (b0 : Nat) (D : va_G) (dA : Nat → ClassId) (adc : Nat → Nat) (n0 : Nat) (ad0 : Nat → Nat) (k : Nat) (r : eg_R) (G' : eg_G) (ck' sk' : Nat) : Prop :=
  ∀ (ad : Nat → Nat) (H : Heap) (locs : List Loc) (ls : Array Slot) (pc : Nat) (ins : Instr) (len : Nat) (st : List Value) (v : Option Value), eg_cd k pc = some (ins, len) → eg_rr ins (eg_mr k) st = some v → r = .inl v → eg_Rel s b0 D dA adc n0 ad0 ad G' H locs → (∀ v ∈ st, eg_okv G'.2 v) → W p l e R s m args below meth c H locs ck' sk' Q (F0 m pc ls (st.map (eg_v ad)))
def eg_KX (p : Program) (l : Launch) (e : Env) (R : Room) (s : State) (m : MethodId) (args : Array Value) (below : List Frame) (meth : Method) (c : Code) (Q : State → Prop) (b0 : Nat) (D : va_G) (dA : Nat → ClassId) (adc : Nat → Nat) (n0 : Nat) (ad0 : Nat → Nat) (k : Nat) (r : eg_R) (G' : eg_G) (ck' sk' : Nat) : Prop :=
  eg_mh k = none → ∀ (ad : Nat → Nat) (H : Heap) (locs : List Loc) (ls : Array Slot) (pc : Nat) (rest : List Value) (x q : Nat) (ce : Cell), r = .inr x → x < 4 → eg_Rel s b0 D dA adc n0 ad0 ad G' H locs → H[q]? = some ce → ce.vm = .none → s.vm.findClass (eg_xn x) = some ce.cls → vx_W p l e R s m args below meth c H locs ck' sk' Q (F0 m pc ls rest) q
def eg_KT (p : Program) (l : Launch) (e : Env) (R : Room) (s : State) (m : MethodId) (args : Array Value) (below : List Frame) (meth : Method) (c : Code) (Q : State → Prop) (b0 : Nat) (D : va_G) (dA : Nat → ClassId) (adc : Nat → Nat) (n0 : Nat) (ad0 : Nat → Nat) (k : Nat) (r : eg_R) (G' : eg_G) (ck' sk' : Nat) : Prop :=
  ∀ (ad : Nat → Nat) (H : Heap) (locs : List Loc) (ls : Array Slot) (pc : Nat) (ins : Instr) (len : Nat) (st : List Value) (q : Nat × Nat × Nat) (ck sk : Nat), eg_cd k pc = some (ins, len) → eg_th k pc ins = some q → r = .inr q.2.2 → eg_Rel s b0 D dA adc n0 ad0 ad G' H locs → ls.size = c.maxLocals → eg_cat st ≤ 8 → ck' = ck + 1 → sk' = sk + 6 → W p l e R s m args below meth c H locs ck sk Q (F0 m pc ls (st.map (eg_v ad)))
def eg_H (p : Program) (l : Launch) (e : Env) (R : Room) (s : State) (m : MethodId) (args : Array Value) (below : List Frame) (meth : Method) (c : Code) (Q : State → Prop) (b0 : Nat) (D : va_G) (dA : Nat → ClassId) (adc : Nat → Nat) (n0 : Nat) (ad0 : Nat → Nat) (scr : eg_Sc) (d k mc ms : Nat) (r : eg_R) (G' : eg_G) (ck' sk' : Nat) : Prop :=
  eg_B p s m meth c R k d mc ms ∧ eg_F s b0 D dA adc ∧ l.stackTraces = false ∧ (∀ n f, scr = some (n, f) → va_X (adc 150) n f s s.heap ∧ adc 150 < s.heap.size ∧ ¬ eg_A b0 (adc 150)) ∧ ck' ≤ mc ∧ sk' ≤ ms ∧
  eg_KR p l e R s m args below meth c Q b0 D dA adc n0 ad0 k r G' ck' sk' ∧ eg_KX p l e R s m args below meth c Q b0 D dA adc n0 ad0 k r G' ck' sk' ∧ eg_KT p l e R s m args below meth c Q b0 D dA adc n0 ad0 k r G' ck' sk'
def eg_Sd (rec : eg_Rec) : Prop := ∀ scr d k pc L st G ck sk r G' ck' sk', rec scr d k pc L st G ck sk = some (r, G', ck', sk') → ∀ {p : Program} {l : Launch} {e : Env} {R : Room} {s : State} {m : MethodId} {args : Array Value} {below : List Frame} {meth : Method} {c : Code} {Q : State → Prop} {b0 : Nat} {D : va_G} {dA : Nat → ClassId} {adc : Nat → Nat} {n0 : Nat} {ad0 : Nat → Nat} {mc ms : Nat}, eg_H p l e R s m args below meth c Q b0 D dA adc n0 ad0 scr d k mc ms r G' ck' sk' → eg_J p l e R s m args below meth c Q b0 D dA adc n0 ad0 pc L st G ck sk
theorem eg_cd_dec {k pc : Nat} {q : Instr × Nat} (h : eg_cd k pc = some q) : decode (eg_mb k) pc = .ok q ∧ eg_lok q.1 q.2 = true := by
  unfold eg_cd at h
  unfold eg_mb eg_mi
  split at h
  · rename_i hk
    rw [if_pos hk]
    have hm : (pc, q) ∈ eg_lw := eg_lk h
    have h8 : decode code pc = .ok q := eg_lw_dec (pc, q) hm
    have h9 : eg_lok q.1 q.2 = true := List.all_eq_true.mp eg_lw_lok (pc, q) hm
    have h7 : eg_ml.2.1 = code := rfl
    rw [h7]
    exact ⟨h8, h9⟩
  · rename_i hk
    rw [if_neg hk]
    have hm : (pc, q) ∈ (eg_me k).2 := eg_lk h
    have h8 : decode (eg_me k).1.2.1 pc = .ok q := eg_dec k (pc, q) hm
    have h9 : eg_lok q.1 q.2 = true := eg_me_lok k (pc, q) hm
    exact ⟨h8, h9⟩
section In
variable {p : Program} {l : Launch} {e : Env} {R : Room} {s : State} {m : MethodId} {args : Array Value} {below : List Frame} {meth : Method} {c : Code} {Q : State → Prop} {b0 : Nat} {D : va_G} {dA : Nat → ClassId} {adc : Nat → Nat} {n0 : Nat} {ad0 : Nat → Nat} {scr : eg_Sc} {d k mc ms : Nat} {r : eg_R} {G G' : eg_G} {ck sk ck' sk' : Nat} {L : eg_Ls} {st : List Value}
theorem eg_H_X (h : eg_H p l e R s m args below meth c Q b0 D dA adc n0 ad0 scr d k mc ms r G' ck' sk') : eg_X p s m args meth c R b0 D dA adc (eg_mo k) (eg_in k) mc ms (eg_mb k) := by
  obtain ⟨⟨b1, b2, b3, b4, b5, b6, b7, b8, b9, b10, b11, b12⟩, ⟨f1, f2, f3, f4, f5, f6, f7, f8, f9, f10⟩, -⟩ := h
  exact ⟨b1, b2, b4, eg_kp_s eg_kp_W f1, f3, f4, f5, f6, b9, b10, b7, f10⟩
theorem eg_sc_J {scr : eg_Sc} {ins : Instr} {len pc pc' : Nat} {L' : eg_Ls} {st' : List Value} {G1 : eg_G} {ck1 sk1 : Nat} (h : eg_H p l e R s m args below meth c Q b0 D dA adc n0 ad0 scr d k mc ms r G' ck' sk') (hcd : eg_cd k pc = some (ins, len)) (hsc : eg_sc scr ins pc L st G ck sk = some (pc', L', st', G1, ck1, sk1)) (kk : eg_J p l e R s m args below meth c Q b0 D dA adc n0 ad0 pc' L' st' G1 ck1 sk1) : eg_J p l e R s m args below meth c Q b0 D dA adc n0 ad0 pc L st G ck sk := by
  obtain ⟨⟨hx, hb, -⟩, -, -, hs, -⟩ := h
  obtain ⟨hd, hlo⟩ := eg_cd_dec hcd
  unfold eg_sc at hsc
  split at hsc
  · rename_i n f i a rr
    split at hsc
    · rename_i hc
      obtain ⟨rfl, h0, h1⟩ := hc
      cases hsc
      have hl' : len = 1 := by simpa [eg_lok] using hlo
      subst hl'
      obtain ⟨x1, x2, x3⟩ := hs _ _ rfl
      intro ad H locs ls hR hL hS
      obtain ⟨hP, hD, hS0, hok, hag⟩ := id hR
      obtain ⟨-, h2⟩ := List.forall_mem_cons.mp hS
      obtain ⟨-, h2⟩ := List.forall_mem_cons.mp h2
      have hkk := kk ad H locs ls hR hL (List.forall_mem_cons.mpr ⟨eg_oki, h2⟩)
      have e1 : (Value.int i :: .ref 150 :: rr).map (eg_v ad) = .int i :: .ref (adc 150) :: rr.map (eg_v ad) := by
        show Value.int i :: .ref (ad 150) :: _ = _
        rw [hag.1 150 (by decide)]
      rw [e1]
      exact va_sld hx hb x1 x2 x3 hS0 (eg_vin ⟨h0, h1⟩) hd hkk
    · cases hsc
  · rename_i n f a rr
    split at hsc
    · rename_i hc
      subst hc
      cases hsc
      have hl' : len = 1 := by simpa [eg_lok] using hlo
      subst hl'
      obtain ⟨x1, x2, x3⟩ := hs _ _ rfl
      intro ad H locs ls hR hL hS
      obtain ⟨hP, hD, hS0, hok, hag⟩ := id hR
      obtain ⟨-, h2⟩ := List.forall_mem_cons.mp hS
      have hkk := kk ad H locs ls hR hL (List.forall_mem_cons.mpr ⟨eg_oki, h2⟩)
      have e1 : (Value.ref 150 :: rr).map (eg_v ad) = .ref (adc 150) :: rr.map (eg_v ad) := by
        show Value.ref (ad 150) :: _ = _
        rw [hag.1 150 (by decide)]
      rw [e1]
      exact va_slen hx hb x1 x2 x3 hS0 hd hkk
    · cases hsc
  · cases hsc
end In
end EGS
end
section
/-! CALLS -/
section EGC
def eg_rm (d mc ms : Nat) : Room := { frames := d + 12, cells := mc, slots := ms, locals := 48 * d + 300 }
def eg_cn2 (x : Nat) : String := if x < 12 then (eg_cl.getD x ("", eg_T0, 0)).1 else if x = 12 then "KnobEye$Word" else if x = 13 then "java/lang/String" else ""
def eg_mck (q : eg_MI) : Bool := (decide (q.2.2.2.2.2.1 = 20) || plainName q.1.cls) && (decide (q.1.cls ≠ "java/lang/invoke/MethodHandle") && (decide (q.1.cls ≠ "java/lang/invoke/VarHandle") && (decide ((parseMethodDescriptor q.1.desc).map (fun d => d.parameters.length) = some q.2.2.2.2.2.2) && (decide (q.2.2.1 ≤ 15) && decide (eg_on q.2.2.2.2.2.1 = q.1.cls)))))
set_option maxRecDepth 100000 in
theorem eg_mok_all : eg_MM.all (fun l => l.all (fun q => eg_mck q.1)) = true := by decide +kernel
theorem eg_MM_len : eg_MM.length = 20 ∧ eg_MM.all (fun l => l.length == 16 || l.length == 12) = true ∧ (eg_MM.take 19).all (fun l => l.length == 16) = true := by decide +kernel
theorem eg_me_at {k : Nat} (h : k < 316) : ∃ l, l ∈ eg_MM ∧ eg_me k ∈ l := by
  have h1 : k / 16 < eg_MM.length := by rw [eg_MM_len.1]; omega
  have hl : eg_MM[k / 16]? = some (eg_MM[k / 16]) := List.getElem?_eq_getElem h1
  have h2 : k % 16 < (eg_MM[k / 16]).length := by
    by_cases h3 : k / 16 < 19
    · have h4 : eg_MM[k / 16] ∈ eg_MM.take 19 := by
        rw [List.mem_take_iff_getElem]
        exact ⟨k / 16, by rw [eg_MM_len.1]; omega, rfl⟩
      have h5 := List.all_eq_true.mp eg_MM_len.2.2 _ h4
      have : (eg_MM[k / 16]).length = 16 := by simpa using h5
      omega
    · have h5 := List.all_eq_true.mp eg_MM_len.2.1 _ (List.getElem_mem h1)
      have : (eg_MM[k / 16]).length = 16 ∨ (eg_MM[k / 16]).length = 12 := by simpa using h5
      omega
  refine ⟨eg_MM[k / 16], List.getElem_mem h1, ?_⟩
  have e1 : eg_MM.getD (k / 16) [] = eg_MM[k / 16] := by rw [List.getD_eq_getElem?_getD, hl]; rfl
  unfold eg_me
  rw [e1, List.getD_eq_getElem?_getD, List.getElem?_eq_getElem h2]
  exact List.getElem_mem h2
theorem eg_mi_k {k : Nat} (h : k < 316) : eg_mi k = (eg_me k).1 := if_neg (by unfold eg_LK; omega)
theorem eg_mok_at {k : Nat} (h : k < 316) : (eg_mo k = 20 ∨ plainName (eg_mn k).cls = true) ∧ ((eg_mn k).cls ≠ "java/lang/invoke/MethodHandle" ∧ (eg_mn k).cls ≠ "java/lang/invoke/VarHandle") ∧ (∀ sig, parseMethodDescriptor (eg_mn k).desc = some sig → eg_ma k = sig.parameters.length) ∧ eg_mL k ≤ 15 ∧ eg_on (eg_mo k) = (eg_mn k).cls := by
  obtain ⟨l, h1, h2⟩ := eg_me_at h
  have h3 := List.all_eq_true.mp (List.all_eq_true.mp eg_mok_all l h1) _ h2
  rw [← eg_mi_k h] at h3
  simp only [eg_mck, Bool.and_eq_true, Bool.or_eq_true, decide_eq_true_eq] at h3
  obtain ⟨a1, a2, a3, a4, a5, a6⟩ := h3
  refine ⟨a1, ⟨a2, a3⟩, fun sig hs => ?_, a5, a6⟩
  rw [hs] at a4
  exact (Option.some.inj a4).symm
theorem eg_yw_in {k : Nat} (h : k < 316) : eg_yw (eg_me k) ∈ eg_W := by
  obtain ⟨l, h1, h2⟩ := eg_me_at h
  exact eg_w6 h1 h2
-- the start of a method
theorem eg_lq_nil (ad : Nat → Nat) : ∀ n i : Nat, eg_lq ad i (List.replicate n none) = []
  | 0, _ => rfl
  | n + 1, i => by rw [List.replicate_succ]; exact eg_lq_nil ad n (i + 1)
theorem eg_lq_en0 (ad : Nat → Nat) (n : Nat) : ∀ (as : List Value) (i : Nat), eg_lq ad i (eg_en0 as ++ List.replicate n none) = lv_args i (as.map (eg_v ad))
  | [], i => by show eg_lq ad i (List.replicate n none) = _; rw [eg_lq_nil]; rfl
  | v :: t, i => by
    by_cases hc : v.category = 2
    · have e : eg_en0 (v :: t) = some v :: none :: eg_en0 t := if_pos hc
      rw [e]
      show (i, eg_v ad v) :: eg_lq ad (i + 1 + 1) (eg_en0 t ++ _) = (i, eg_v ad v) :: lv_args (if (eg_v ad v).category = 2 then i + 2 else i + 1) (t.map (eg_v ad))
      rw [eg_vcat, if_pos hc, eg_lq_en0 ad n t]
    · have e : eg_en0 (v :: t) = some v :: eg_en0 t := if_neg hc
      rw [e]
      show (i, eg_v ad v) :: eg_lq ad (i + 1) (eg_en0 t ++ _) = (i, eg_v ad v) :: lv_args (if (eg_v ad v).category = 2 then i + 2 else i + 1) (t.map (eg_v ad))
      rw [eg_vcat, if_neg hc, eg_lq_en0 ad n t]
theorem eg_en_sl (ad : Nat → Nat) : ∀ as : List Value, (lg_sl (as.map (eg_v ad))).length = (eg_en0 as).length
  | [] => rfl
  | v :: t => by
    have ih := eg_en_sl ad t
    unfold lg_sl at ih ⊢
    rw [List.map_cons, List.flatMap_cons, List.length_append, ih, eg_vcat]
    by_cases hc : v.category = 2
    · rw [if_pos hc, show eg_en0 (v :: t) = some v :: none :: eg_en0 t from if_pos hc]
      simp
      omega
    · rw [if_neg hc, show eg_en0 (v :: t) = some v :: eg_en0 t from if_neg hc]
      simp
      omega
theorem eg_en0_mem : ∀ (as : List Value) (v : Value), some v ∈ eg_en0 as → v ∈ as
  | [], _, h => nomatch h
  | w :: t, v, h => by
    by_cases hc : w.category = 2
    · rw [show eg_en0 (w :: t) = some w :: none :: eg_en0 t from if_pos hc] at h
      simp at h
      rcases h with h | h
      · exact List.mem_cons.mpr (Or.inl h)
      · exact List.mem_cons_of_mem _ (eg_en0_mem t v h)
    · rw [show eg_en0 (w :: t) = some w :: eg_en0 t from if_neg hc] at h
      simp at h
      rcases h with h | h
      · exact List.mem_cons.mpr (Or.inl h)
      · exact List.mem_cons_of_mem _ (eg_en0_mem t v h)
theorem eg_en_LR {ad : Nat → Nat} {N n : Nat} {as : List Value} (h : (eg_en0 as).length ≤ n) (hok : ∀ v ∈ as, eg_okv N v) : eg_LR ad N ((lg_sl (as.map (eg_v ad)) ++ List.replicate (n - (lg_sl (as.map (eg_v ad))).length) Slot.unset).toArray) (eg_en n as) := by
  have hl : (eg_en n as).length = n := by
    unfold eg_en
    rw [List.length_append, List.length_replicate]
    omega
  have h0 := lv_entry (as.map (eg_v ad)) (n := n) (by rw [eg_en_sl]; exact h)
  refine ⟨?_, fun v hv => ?_⟩
  · rw [hl]
    unfold eg_en
    rw [eg_lq_en0]
    exact h0
  · rcases List.mem_append.mp hv with h1 | h1
    · exact hok v (eg_en0_mem as v h1)
    · have := List.eq_of_mem_replicate h1
      cases this
def eg_Pc (b0 : Nat) (D : va_G) (dA : Nat → ClassId) (adc : Nat → Nat) (as : List Value) (ad : Nat → Nat) (G : eg_G) : Array Value → State → Prop := fun a U =>
  a = (as.map (eg_v ad)).toArray ∧ eg_F U b0 D dA adc ∧ va_P D eg_cl (eg_ws ad dA G) U.heap ∧ va_D (eg_A b0) (eg_ws ad dA G) ∧ eg_ok G ∧ (∀ i, i < eg_NC → ad i = adc i) ∧ ∀ v ∈ as, eg_okv G.2 v
def eg_Qp (b0 : Nat) (D : va_G) (dA : Nat → ClassId) (adc : Nat → Nat) (ad : Nat → Nat) (n : Nat) (G' : eg_G) (ad' : Nat → Nat) (H1 : Heap) : Prop :=
  eg_ag n ad ad' ∧ n ≤ G'.2 ∧ va_P D eg_cl (eg_ws ad' dA G') H1 ∧ va_D (eg_A b0) (eg_ws ad' dA G') ∧ eg_ok G' ∧ ∀ i, i < eg_NC → ad' i = adc i
def eg_Qc (b0 : Nat) (D : va_G) (dA : Nat → ClassId) (adc : Nat → Nat) (ad : Nat → Nat) (n : Nat) (r : eg_R) (G' : eg_G) : Array Value → State → Outcome → State → Prop := fun _ st o t =>
  ∃ (v : Option Value) (ad' : Nat → Nat), r = .inl v ∧ o = .returned (v.map (eg_v ad')) ∧ (∀ w, v = some w → eg_okv G'.2 w) ∧ eg_Qp b0 D dA adc ad n G' ad' t.heap ∧ va_F (eg_A b0) st t
def eg_XC (b0 : Nat) (D : va_G) (dA : Nat → ClassId) (adc : Nat → Nat) (ad : Nat → Nat) (n : Nat) (r : eg_R) (G' : eg_G) : String → State → State → Prop := fun E st t =>
  ∃ (x : Nat) (ad' : Nat → Nat), r = .inr x ∧ x < 4 ∧ E = eg_xn x ∧ eg_Qp b0 D dA adc ad n G' ad' t.heap ∧ va_F (eg_A b0) st t
theorem eg_Pc_blind {b0 : Nat} {D : va_G} {dA : Nat → ClassId} {adc : Nat → Nat} {as : List Value} {ad : Nat → Nat} {G : eg_G} : FrameBlind (eg_Pc b0 D dA adc as ad G) := by
  intro a U g mk h
  obtain ⟨h1, h2, h3⟩ := h
  refine ⟨h1, h2.go (U := U.calling g mk a) (locs := []) (State.WarmedH.refl U) ?_, h3⟩
  exact va_S.rf (A := eg_A b0) (H0 := U.heap)
theorem eg_rr_ok {ins : Instr} {ret : Option FieldType} {st : List Value} {v : Option Value} (h : eg_rr ins ret st = some v) : ∀ w, v = some w → w ∈ st := by
  intro w hw
  subst hw
  unfold eg_rr at h
  split at h
  · cases h
  · split at h
    · cases h; exact List.mem_cons_self
    · cases h
  · cases h; exact List.mem_cons_self
  · cases h; exact List.mem_cons_self
  · cases h; exact List.mem_cons_self
  · cases h; exact List.mem_cons_self
  · cases h; exact List.mem_cons_self
  · cases h
theorem eg_xT_4 {q : Nat × Nat × Nat} (h : q ∈ eg_xT) : q.2.2 < 4 ∧ Bundle.fit (eg_xn q.2.2) = true := by
  have h9 : eg_xT.all (fun q => decide (q.2.2 < 4) && Bundle.fit (eg_xn q.2.2)) = true := by decide +kernel
  have := List.all_eq_true.mp h9 q h
  simpa using this
theorem eg_xc_fit : ∀ n ∈ eg_xc, Bundle.fit n = true := by
  have h9 : eg_xc.all (fun n => Bundle.fit n) = true := by decide +kernel
  exact List.all_eq_true.mp h9
theorem eg_W10_ot : eg_W10.all vx_ot = true := by decide +kernel
theorem eg_W10_at {q : Nat × Nat × Nat} (h : q ∈ eg_xT) : ∀ w ∈ Cond.classLink "KnobEye" q.1 (eg_xn q.2.2) :: Cond.initialized (eg_xn q.2.2) :: Cond.castable (eg_xn q.2.2) (eg_xn q.2.2) :: vx_at0 "KnobEye" q.2.1 (eg_xn q.2.2) eg_xc, w ∈ eg_W10 := by
  intro w hw
  refine List.mem_flatMap.mpr ⟨q, h, ?_⟩
  rcases List.mem_cons.mp hw with rfl | hw
  · exact List.mem_cons_of_mem _ (List.mem_cons_of_mem _ List.mem_cons_self)
  rcases List.mem_cons.mp hw with rfl | hw
  · exact List.mem_cons_self
  rcases List.mem_cons.mp hw with rfl | hw
  · exact List.mem_cons_of_mem _ List.mem_cons_self
  · exact List.mem_cons_of_mem _ (List.mem_cons_of_mem _ (List.mem_cons_of_mem _ hw))
theorem eg_W10_cast {x : Nat} (h : x < 4) : Cond.castable (eg_xn x) (eg_xn x) ∈ eg_W10 := by
  have h9 : ∃ q, q ∈ eg_xT ∧ q.2.2 = x := by
    match x, h with
    | 0, _ => exact ⟨(83, 85, 0), by decide, rfl⟩
    | 1, _ => exact ⟨(207, 209, 1), by decide, rfl⟩
    | 2, _ => exact ⟨(89, 91, 2), by decide, rfl⟩
    | 3, _ => exact ⟨(200, 202, 3), by decide, rfl⟩
    | k + 4, h => exact absurd h (by omega)
  obtain ⟨q, h1, rfl⟩ := h9
  exact eg_W10_at h1 _ (List.mem_cons_of_mem _ (List.mem_cons_of_mem _ List.mem_cons_self))
theorem eg_th_at {k pc : Nat} {ins : Instr} {q : Nat × Nat × Nat} (h : eg_th k pc ins = some q) : q ∈ eg_xT ∧ ins = .new q.1 ∧ eg_mo k = 11 ∧ eg_mh k = none ∧ eg_cd k (pc + 3) = some (.dup, 1) ∧ eg_cd k (pc + 4) = some (.invokespecial q.2.1, 3) ∧ eg_cd k (pc + 7) = some (.athrow, 1) := by
  unfold eg_th at h
  split at h
  · have h1 := List.mem_of_find?_eq_some h
    have h2 := List.find?_some h
    simp only [Bool.and_eq_true, decide_eq_true_eq, beq_iff_eq, Option.isNone_iff_eq_none] at h2
    exact ⟨h1, by rw [h2.1], h2.2.1, h2.2.2.1, h2.2.2.2.1, h2.2.2.2.2.1, h2.2.2.2.2.2⟩
  · cases h
/-- a body's three ends -/
theorem eg_ends {p : Program} {l : Launch} {e : Env} {R : Room} {s : State} {m : MethodId} {args : Array Value} {below : List Frame} {meth : Method} {c : Code} {Q : State → Prop} {b0 : Nat} {D : va_G} {dA : Nat → ClassId} {adc : Nat → Nat} {n0 : Nat} {ad0 : Nat → Nat} {k d mc ms : Nat} {r : eg_R} {G' : eg_G} {ck' sk' : Nat} (hk : k ≠ eg_LK) (hB : eg_B p s m meth c R k d mc ms) (hF : eg_F s b0 D dA adc) (hl : l.stackTraces = false) (hc : ck' ≤ mc) (hs : sk' ≤ ms)
    (hQ : Q = vx_MQ below (eg_Qc b0 D dA adc ad0 n0 r G') (eg_XC b0 D dA adc ad0 n0 r G') args s ck' sk' (eg_A b0)) :
    eg_KR p l e R s m args below meth c Q b0 D dA adc n0 ad0 k r G' ck' sk' ∧ eg_KX p l e R s m args below meth c Q b0 D dA adc n0 ad0 k r G' ck' sk' ∧ eg_KT p l e R s m args below meth c Q b0 D dA adc n0 ad0 k r G' ck' sk' := by
  subst hQ
  obtain ⟨hx, hb, hml, hown, hlocks, hr, hini, htab, hRc, hRs, hRf, hRl⟩ := hB
  have htab := htab hk
  refine ⟨fun ad H locs ls pc ins len st v hcd hrr hrv hR hok => ?_, fun hh ad H locs ls pc rest x q ce hrx hx4 hR hce hcv hcl => ?_, fun ad H locs ls pc ins len st q ck sk hcd hth hrx hR hsz hcat h1 h2 => ?_⟩
  · obtain ⟨hd, hlo⟩ := eg_cd_dec hcd
    obtain ⟨hP, hD, hS0, hokG, hag⟩ := hR
    have hq : ∀ t : State, t.heap = H → s.WarmedH t.vm → eg_Qc b0 D dA adc ad0 n0 r G' args s (.returned (v.map (eg_v ad))) t := fun t ht hW =>
      ⟨v, ad, hrv, rfl, fun w hw => hok w (eg_rr_ok hrr w hw), ⟨hag.2.2, hag.2.1, by rw [ht]; exact hP, hD, hokG, hag.1⟩, hS0.F ht⟩
    refine vx_ret ?_
    unfold eg_rr at hrr
    split at hrr
    · cases hrr
      rename_i hret
      have hl' : len = 1 := by simpa [eg_lok] using hlo
      subst hl'
      exact W.vret hx hb (hr.trans hret) hq hS0.2.2 hd hlocks
    · rename_i hret
      split at hrr
      · rename_i hn
        cases hrr
        have hl' : len = 1 := by simpa [eg_lok] using hlo
        subst hl'
        exact W.zret hx hb (hr.trans hret) (of_decide_eq_true hn) hq hS0.2.2 hd hlocks
      · cases hrr
    · cases hrr
      rename_i hret
      have hl' : len = 1 := by simpa [eg_lok] using hlo
      subst hl'
      exact W.lret hx hb (hr.trans hret) hq hS0.2.2 hd hlocks
    · cases hrr
      rename_i hret
      have hl' : len = 1 := by simpa [eg_lok] using hlo
      subst hl'
      exact W.aret hx hb (hr.trans hret) (Or.inl ⟨_, rfl⟩) (Or.inr ⟨_, rfl⟩) hq hS0.2.2 hd hlocks
    · cases hrr
      rename_i hret
      have hl' : len = 1 := by simpa [eg_lok] using hlo
      subst hl'
      exact W.aret hx hb (hr.trans hret) (Or.inl ⟨_, rfl⟩) (Or.inl rfl) hq hS0.2.2 hd hlocks
    · cases hrr
      rename_i hret
      have hl' : len = 1 := by simpa [eg_lok] using hlo
      subst hl'
      exact W.aret hx hb (hr.trans hret) (Or.inr ⟨_, rfl⟩) (Or.inr ⟨_, rfl⟩) hq hS0.2.2 hd hlocks
    · cases hrr
      rename_i hret
      have hl' : len = 1 := by simpa [eg_lok] using hlo
      subst hl'
      exact W.aret hx hb (hr.trans hret) (Or.inr ⟨_, rfl⟩) (Or.inl rfl) hq hS0.2.2 hd hlocks
    · cases hrr
  · obtain ⟨hP, hD, hS0, hokG, hag⟩ := hR
    rw [hh] at htab
    exact vx_out (fun z hz => by rw [htab] at hz; exact nomatch hz) hlocks hce hcv hcl (fun t ht hW => ⟨x, ad, hrx, hx4, rfl, ⟨hag.2.2, hag.2.1, by rw [ht]; exact hP, hD, hokG, hag.1⟩, hS0.F ht⟩) hS0.2.2 (Nat.le_refl _) (Nat.le_refl _)
  · obtain ⟨hP, hD, hS0, hokG, hag⟩ := hR
    obtain ⟨hd0, hlo0⟩ := eg_cd_dec hcd
    obtain ⟨hq1, rfl, ho, hh, c3, c4, c7⟩ := eg_th_at hth
    have hl' : len = 3 := by simpa [eg_lok] using hlo0
    subst hl'
    obtain ⟨f1, f2, f3, f4, f5, f6, f7, f8, f9, f10⟩ := hF
    have hw := eg_W10_at hq1
    have hw2 := eg_kp_s eg_kp_W10 (a' := args) f2
    have hown2 : s.vm.findClass "KnobEye" = some m.cls := by
      rw [ho] at hown
      exact hown
    rw [hh] at htab
    have hot : ∀ w ∈ eg_W10, vx_ot w = true := List.all_eq_true.mp eg_W10_ot
    have hin : ∀ w ∈ Cond.classLink "KnobEye" q.1 (eg_xn q.2.2) :: Cond.initialized (eg_xn q.2.2) :: vx_at0 "KnobEye" q.2.1 (eg_xn q.2.2) eg_xc, w ∈ eg_W10 := fun w h9 => by
      rcases List.mem_cons.mp h9 with rfl | h9
      · exact hw _ List.mem_cons_self
      rcases List.mem_cons.mp h9 with rfl | h9
      · exact hw _ (List.mem_cons_of_mem _ List.mem_cons_self)
      · exact hw _ (List.mem_cons_of_mem _ (List.mem_cons_of_mem _ (List.mem_cons_of_mem _ h9)))
    have hcat2 : ((st.map (eg_v ad)).map fun v => v.category).sum = eg_cat st := by
      rw [List.map_map]
      exact congrArg List.sum (List.map_congr_left (fun v _ => eg_vcat ad v))
    refine vx_throw0 hx hb hl hown2 (eg_xT_4 hq1).2 eg_xc_fit (hw2 _ (hin _ List.mem_cons_self)) (hw2 _ (hin _ (List.mem_cons_of_mem _ List.mem_cons_self))) (fun w h9 => hw2 _ (hin _ (List.mem_cons_of_mem _ (List.mem_cons_of_mem _ h9)))) (fun w h9 => hot _ (hin _ h9)) f8 f9 hS0 hsz hd0 (eg_cd_dec c3).1 (eg_cd_dec c4).1 (eg_cd_dec c7).1 (fun z hz => by rw [htab] at hz; exact nomatch hz) ?_ ?_ ?_ ?_ hlocks (fun t hW hz1 hz2 => ?_) hS0.2.2 (by omega) (by omega)
    · show 5 < R.frames
      omega
    · rw [hcat2]
      show eg_cat st + 81 ≤ R.locals
      omega
    · omega
    · omega
    · refine ⟨q.2.2, ad, hrx, (eg_xT_4 hq1).1, rfl, ⟨hag.2.2, hag.2.1, hP.kept (fun k9 q9 h9 => hz2 _ (vx_lt hP h9)), hD, hokG, hag.1⟩, ?_⟩
      have h9 := hS0
      exact ⟨Nat.le_trans h9.1 hz1, fun z h1 h2 => (hz2 z (Nat.lt_of_lt_of_le h1 h9.1)).trans (h9.2.1 z h1 h2)⟩
end EGC
end
section
/-! CALLS, AND THE WHOLE -/
section EGD
theorem eg_met {rec : eg_Rec} (hrec : eg_Sd rec) {l : Launch} (hl : l.stackTraces = false) {b0 : Nat} {D : va_G} {dA : Nat → ClassId} {adc ad : Nat → Nat} {d mi cN sN : Nat} {as : List Value} {G G' : eg_G} {r : eg_R} (hm : mi < 316) (hm20 : ¬ eg_mo mi = 20) (hlen : (eg_en0 as).length ≤ eg_mL mi)
    (h : rec none d mi 0 (eg_en (eg_mL mi) as) [] G 0 0 = some (r, G', cN, sN)) :
    vx_Met l (eg_mn mi) [eg_yw (eg_me mi)] (eg_rm d cN sN) (eg_Pc b0 D dA adc as ad G) (eg_Qc b0 D dA adc ad G.2 r G') (eg_XC b0 D dA adc ad G.2 r G') cN sN (eg_A b0) := by
  obtain ⟨hpl, hmh, hpar, h15, hown0⟩ := eg_mok_at hm
  have hpl := hpl.resolve_left hm20
  have body : ∀ p e s m args below meth c s₁, BodyLoose p l (eg_mn mi) (headSpec [eg_yw (eg_me mi)] (eg_rm d cN sN)) (eg_mb mi) (eg_mL mi) (eg_mr mi) e s m args below meth c s₁ → c.maxLocals = eg_mL mi → c.exceptionTable.toList = tableOf ((eg_mh mi).getD []) → eg_Pc b0 D dA adc as ad G args s →
      W p l e (headSpec [eg_yw (eg_me mi)] (eg_rm d cN sN)).room s m args below meth c s.heap [] 0 0 (vx_MQ below (eg_Qc b0 D dA adc ad G.2 r G') (eg_XC b0 D dA adc ad G.2 r G') args s cN sN (eg_A b0)) (entryFrame m args (eg_mL mi)) := by
    intro p e s m args below meth c s₁ B hml htab hP
    obtain ⟨ha, hF, hP1, hD1, hok, hag, hv⟩ := hP
    have hB : eg_B p s m meth c (eg_rm d cN sN) mi d cN sN := ⟨B.exec, B.bytes, hml, by rw [hown0]; exact findClass_of_methodNamed B.named, B.notSynchronized, B.returns, fun hin => (name_of_methodNamed B.named B.method).1.trans (by simpa [eg_in] using hin), (fun _ => htab), rfl, rfl, Nat.le_refl _, Nat.le_refl _⟩
    obtain ⟨k1, k2, k3⟩ := eg_ends (p := p) (e := e) (below := below) (n0 := G.2) (ad0 := ad) (args := args) (r := r) (G' := G') (by unfold eg_LK; omega) hB hF hl (Nat.le_refl _) (Nat.le_refl _) rfl
    have hJ := hrec none d mi 0 _ _ _ 0 0 r G' cN sN h (p := p) (l := l) (e := e) (R := eg_rm d cN sN) (s := s) (m := m) (args := args) (below := below) (meth := meth) (c := c) (b0 := b0) (D := D) (dA := dA) (adc := adc) (n0 := G.2) (ad0 := ad) (mc := cN) (ms := sN) ⟨hB, hF, hl, (fun _ _ h9 => nomatch h9), Nat.le_refl _, Nat.le_refl _, k1, k2, k3⟩
    have h9 := hJ ad s.heap [] _ ⟨hP1, hD1, va_S.rf, hok, hag, Nat.le_refl _, fun _ _ => rfl⟩ (eg_en_LR hlen hv) (fun _ h => nomatch h)
    rw [ha, lg_entry_eq]
    rw [ha] at h9
    exact h9
  have hmi := eg_mi_k hm
  have hyw : eg_yw (eg_me mi) = match eg_mh mi with | none => .code (eg_mn mi) (eg_mb mi) (eg_mL mi) (eg_mr mi) | some hh => .codeWith (eg_mn mi) (eg_mb mi) (eg_mL mi) (eg_mr mi) hh := by
    unfold eg_yw eg_mh eg_mn eg_mb eg_mL eg_mr
    rw [hmi]
    split <;> rename_i h9 <;> rw [h9]
  cases hh : eg_mh mi with
  | none =>
    rw [hh] at hyw
    refine vx_ofW (cc := eg_mb mi) (maxL := eg_mL mi) (ret := eg_mr mi) hpl (by rw [hyw]) (fun p e s m args below meth c s₁ B hml hx hP => body p e s m args below meth c s₁ B hml ?_ hP)
    rw [hh]
    show _ = []
    cases h9 : c.exceptionTable.toList with
    | nil => rfl
    | cons z t => exact (hx z (by rw [h9]; exact List.mem_cons_self)).elim
  | some hh1 =>
    rw [hh] at hyw
    refine vx_ofWH (cc := eg_mb mi) (maxL := eg_mL mi) (ret := eg_mr mi) (hh := hh1) hpl (by rw [hyw]) (fun p e s m args below meth c s₁ B hml hP => body p e s m args below meth c s₁ B hml ?_ hP)
    rw [hh]
    refine vx_table (x := eg_mn mi) B (hh := hh1) (bytes := eg_mb mi) (maxL' := eg_mL mi) (ret' := eg_mr mi) ?_
    have h9 := atoms_spec (ws := [eg_yw (eg_me mi)]) B.pre _ List.mem_cons_self
    rw [hyw] at h9
    exact h9
section In
variable {p : Program} {l : Launch} {e : Env} {R : Room} {s : State} {m : MethodId} {args : Array Value} {below : List Frame} {meth : Method} {c : Code} {Q : State → Prop} {b0 : Nat} {D : va_G} {dA : Nat → ClassId} {adc : Nat → Nat} {n0 : Nat} {ad0 : Nat → Nat} {scr : eg_Sc} {d k mc ms : Nat} {r : eg_R} {G G' : eg_G} {ck sk ck' sk' : Nat} {L : eg_Ls} {st : List Value}
theorem eg_run_W {q1 : eg_R} {G1 : eg_G} {cN sN pc : Nat} {a : Array Value} {ad : Nat → Nat} {H : Heap} {locs : List Loc} {ls : Array Slot} {st0 rest : List Value} (hR : eg_Rel s b0 D dA adc n0 ad0 ad G H locs)
    (hr : vx_Run p l e R s m args below meth c H locs ck sk cN sN (F0 m pc ls st0) rest (eg_Qc b0 D dA adc ad G.2 q1 G1 a) (eg_XC b0 D dA adc ad G.2 q1 G1) (eg_A b0))
    (kr : ∀ (v : Option Value) (ad' : Nat → Nat) (H1 : Heap) (locs1 : List Loc), q1 = .inl v → (∀ w, v = some w → eg_okv G1.2 w) → eg_ag G.2 ad ad' → G.2 ≤ G1.2 → eg_Rel s b0 D dA adc n0 ad0 ad' G1 H1 locs1 → W p l e R s m args below meth c H1 locs1 (ck + cN) (sk + sN) Q (F0 m (pc + 3) ls ((v.map (eg_v ad')).toList ++ rest)))
    (kx : ∀ (x : Nat) (ad' : Nat → Nat) (H1 : Heap) (locs1 : List Loc) (q : Nat) (ce : Cell), q1 = .inr x → x < 4 → eg_ag G.2 ad ad' → G.2 ≤ G1.2 → eg_Rel s b0 D dA adc n0 ad0 ad' G1 H1 locs1 → H1[q]? = some ce → ce.vm = .none → s.vm.findClass (eg_xn x) = some ce.cls → vx_W p l e R s m args below meth c H1 locs1 (ck + cN) (sk + sN) Q (F0 m pc ls rest) q) : W p l e R s m args below meth c H locs ck sk Q (F0 m pc ls st0) := by
  intro T hT X
  obtain ⟨-, -, hS0, -, -, hn0, had0⟩ := hR
  have go : ∀ (ad' : Nat → Nat) (H1 : Heap) (locs1 : List Loc), eg_Qp b0 D dA adc ad G.2 G1 ad' H1 → va_S (eg_A b0) s.heap H1 locs1 → eg_Rel s b0 D dA adc n0 ad0 ad' G1 H1 locs1 := fun ad' H1 locs1 h hS1 =>
    ⟨h.2.2.1, h.2.2.2.1, hS1, h.2.2.2.2.1, h.2.2.2.2.2, Nat.le_trans hn0 h.2.1, fun i hi => (h.1 i (Nat.lt_of_lt_of_le hi hn0)).trans (had0 i hi)⟩
  rcases hr T hT X with ⟨v, st₀, t, T', L, h0, X', hL, e1, e2, ⟨v2, ad', hq1, ho, hok, hQ, hF⟩, stp⟩ | ⟨q, st₀, t, T', L, E, ce, h0, X', hL, e1, e2, ⟨x, ad', hq1, hx4, hE, hQ, hF⟩, hce, hcv, hcl, stp⟩
  · obtain ⟨k1, k2, k3⟩ := vx_keep h0 e1 hS0 (fun q _ h => h) (fun q h => h) hL hF
    have hv : v = v2.map (eg_v ad') := Outcome.returned.inj ho
    subst hv
    obtain ⟨t2, a1, b1⟩ := kr v2 ad' T'.heap (locs ++ L) hq1 hok hQ.1 hQ.2.1 (go ad' _ _ (by rw [e1]; exact hQ) k3) T' rfl X'
    exact ⟨t2, stp t2 a1, b1⟩
  · obtain ⟨k1, k2, k3⟩ := vx_keep h0 e1 hS0 (fun q _ h => h) (fun q h => h) hL hF
    subst hE
    obtain ⟨t2, a1, b1⟩ := kx x ad' T'.heap (locs ++ L) q ce hq1 hx4 hQ.1 hQ.2.1 (go ad' _ _ (by rw [e1]; exact hQ) k3) (by rw [e1]; exact hce) hcv hcl T' rfl X'
    exact ⟨t2, stp.trans a1, b1⟩
/-- the row of a table that takes an exception -/
theorem eg_hd_at {o pc x h : Nat} (hx4 : x < 4) (hw : ∀ w ∈ eg_W, w.before args s = true) (hN : ∀ x y : Nat, x < 4 → y < 4 → x ≠ y → va_Nc (eg_xn x) (eg_xn y) s) : ∀ hh : List (Nat × Nat × Nat × Nat), eg_hd o pc x hh = some h →
    ∃ (pre : List ExceptionTableEntry) (z : ExceptionTableEntry) (suf : List ExceptionTableEntry), tableOf hh = pre ++ z :: suf ∧ (∀ y ∈ pre, covers y pc = false ∨ (y.catchType ≠ 0 ∧ ∃ nm : String, (Cond.classLink (eg_on o) y.catchType nm).before args s = true ∧ va_Nc (eg_xn x) nm s)) ∧
      covers z pc = true ∧ z.catchType ≠ 0 ∧ (Cond.classLink (eg_on o) z.catchType (eg_xn x)).before args s = true ∧ z.handlerPc = h
  | [], hq => nomatch hq
  | (a, b, h1, ct) :: t, hq => by
    have hcn : ∀ y : Nat, 20 ≤ y → y < 24 → eg_cn y = eg_xn (y - 20) := fun y h1 h2 => by
      unfold eg_cn eg_xn
      rw [if_neg (by omega), if_neg (by omega), if_neg (by omega)]
    unfold eg_hd at hq
    split at hq
    · rename_i hc
      split at hq
      · rename_i y hy
        have hwy := hw _ (eg_w4 (eg_lk hy))
        split at hq
        · cases hq
        · rename_i hct
          split at hq
          · rename_i hyx
            cases hq
            subst hyx
            refine ⟨[], ⟨a, b, h, ct⟩, tableOf t, rfl, (fun _ h => nomatch h), ?_, hct, ?_, rfl⟩
            · simp [covers, hc.1, hc.2]
            · have h9 : eg_cw o (ct, 20 + x) = .classLink (eg_on o) ct (eg_xn x) := by
                unfold eg_cw
                rw [hcn _ (by omega) (by omega), show 20 + x - 20 = x by omega]
              rw [← h9]
              exact hwy
          · rename_i hyx
            split at hq
            · rename_i hyr
              obtain ⟨pre, z, suf, e1, e2, e3⟩ := eg_hd_at hx4 hw hN t hq
              refine ⟨⟨a, b, h1, ct⟩ :: pre, z, suf, by show _ :: tableOf t = _; rw [e1]; rfl, fun w hw9 => ?_, e3⟩
              rcases List.mem_cons.mp hw9 with rfl | hw9
              · refine Or.inr ⟨hct, eg_xn (y - 20), ?_, hN _ _ hx4 (by omega) (by omega)⟩
                have h9 : eg_cw o (ct, y) = .classLink (eg_on o) ct (eg_xn (y - 20)) := by
                  unfold eg_cw
                  rw [hcn _ hyr.1 hyr.2]
                rw [← h9]
                exact hwy
              · exact e2 w hw9
            · cases hq
      · cases hq
    · rename_i hc
      obtain ⟨pre, z, suf, e1, e2, e3⟩ := eg_hd_at hx4 hw hN t hq
      refine ⟨⟨a, b, h1, ct⟩ :: pre, z, suf, by show _ :: tableOf t = _; rw [e1]; rfl, fun w hw9 => ?_, e3⟩
      rcases List.mem_cons.mp hw9 with rfl | hw9
      · left
        by_cases ha : a ≤ pc
        · have : ¬ pc < b := fun h => hc ⟨ha, h⟩
          simp [covers, this]
        · simp [covers, ha]
      · exact e2 w hw9
theorem eg_LR_sn {ad : Nat → Nat} {n i : Nat} {ls ls' : Array Slot} {L : eg_Ls} {v : Value} (h : eg_LR ad n ls L)
    (h' : lv_has ls' L.length ((i, v) :: (eg_lq ad 0 L).filter (fun q => !(q.1 == i) && !(q.1 + 1 == i && q.2.category == 2)))) : eg_LR ad n ls' (eg_sn L i) := by
  have hat : ∀ (k : Nat) (w : Value), (eg_sn L i)[k]? = some (some w) → k ≠ i ∧ L[k]? = some (some w) ∧ (k + 1 = i → w.category = 1) := fun k w hk => by
    unfold eg_sn at hk
    rw [List.getElem?_set] at hk
    split at hk
    · split at hk <;> cases hk
    · rename_i hne
      rcases eg_s1_at L i k .null w hk with ⟨h1, -⟩ | h1
      · exact absurd h1.symm hne
      · exact h1
  refine ⟨⟨?_, h'.2.1, fun q hq => h'.2.2 q ?_⟩, fun w hw => ?_⟩
  · unfold eg_sn
    rw [List.length_set, eg_s1_len]
    exact h'.1
  · obtain ⟨k, w, rfl, hk⟩ := eg_lq_of ad _ _ _ hq
    rw [Nat.zero_add]
    obtain ⟨h1, h2, h3⟩ := hat k w hk
    refine List.mem_cons_of_mem _ (List.mem_filter.mpr ⟨?_, ?_⟩)
    · have := eg_lq_at ad L 0 k w h2
      rwa [Nat.zero_add] at this
    · simp only [eg_vcat]
      by_cases hki : k + 1 = i
      · simp [h1, hki, h3 hki]
      · simp [h1, hki]
  · obtain ⟨k, hk⟩ := List.getElem?_of_mem hw
    exact h.2 w (List.mem_of_getElem? (hat k w hk).2.1)
theorem eg_ca1_W {h i n : Nat} {ad : Nat → Nat} {H : Heap} {locs : List Loc} {ls : Array Slot} {q : Nat} {G1 : eg_G} (hH : eg_H p l e R s m args below meth c Q b0 D dA adc n0 ad0 scr d k mc ms r G' ck' sk') (hca : eg_ca1 k h = some (i, n)) (hi : i < L.length) (hR : eg_Rel s b0 D dA adc n0 ad0 ad G1 H locs) (hL : eg_LR ad G1.2 ls L)
    (kk : eg_J p l e R s m args below meth c Q b0 D dA adc n0 ad0 (h + n) (eg_sn L i) [] G1 ck sk) : W p l e R s m args below meth c H locs ck sk Q (F0 m h ls [.ref q]) := by
  obtain ⟨⟨hx, hb, -⟩, -⟩ := hH
  unfold eg_ca1 at hca
  split at hca
  · rename_i len hcd
    cases hca
    obtain ⟨hd, hlo⟩ := eg_cd_dec hcd
    have hl' : len = 1 := by simpa [eg_lok] using hlo
    subst hl'
    exact lv_astore_n hx hb hd rfl hL.1 hi rfl (fun ls' hl' => kk ad H locs ls' hR (eg_LR_sn hL hl') (fun _ h => nomatch h))
  · rename_i len hcd
    cases hca
    obtain ⟨hd, hlo⟩ := eg_cd_dec hcd
    have hl' : len = 2 := by simpa [eg_lok] using hlo
    subst hl'
    exact lv_astore hx hb hd hL.1 hi rfl (fun ls' hl' => kk ad H locs ls' hR (eg_LR_sn hL hl') (fun _ h => nomatch h))
  · cases hca
/-- a call, by its kind's run -/
theorem eg_cl1_J {rec : eg_Rec} (hrec : eg_Sd rec) (hle : eg_le rec) {pc mi : Nat} {as rr st0 : List Value} (H : eg_H p l e R s m args below meth c Q b0 D dA adc n0 ad0 scr d k mc ms r G' ck' sk') (hcl : eg_cl1 rec scr d k pc mi as rr L G ck sk = some (r, G', ck', sk')) (hrr : ∀ v ∈ rr, v ∈ st0)
    (hrun : ∀ (d' cN sN : Nat) (q1 : eg_R) (G1 : eg_G), d = d' + 1 → mi < 316 → ck + cN ≤ mc → sk + sN ≤ ms → eg_cat rr ≤ 8 → ∀ (ad : Nat → Nat) (H : Heap) (locs : List Loc) (ls : Array Slot), eg_Rel s b0 D dA adc n0 ad0 ad G H locs → ls.size = c.maxLocals → (∀ v ∈ st0, eg_okv G.2 v) →
      vx_Met l (eg_mn mi) [eg_yw (eg_me mi)] (eg_rm d' cN sN) (eg_Pc b0 D dA adc as ad G) (eg_Qc b0 D dA adc ad G.2 q1 G1) (eg_XC b0 D dA adc ad G.2 q1 G1) cN sN (eg_A b0) →
      vx_Run p l e R s m args below meth c H locs ck sk cN sN (F0 m pc ls (st0.map (eg_v ad))) (rr.map (eg_v ad)) (eg_Qc b0 D dA adc ad G.2 q1 G1 (as.map (eg_v ad)).toArray) (eg_XC b0 D dA adc ad G.2 q1 G1) (eg_A b0)) : eg_J p l e R s m args below meth c Q b0 D dA adc n0 ad0 pc L st0 G ck sk := by
  unfold eg_cl1 at hcl
  split at hcl
  · rename_i hc
    obtain ⟨hc8, hLl, hen, hmi, hm20⟩ := hc
    split at hcl
    · cases hcl
    · rename_i d'
      obtain ⟨q1, G1, cN, sN, ho, hcN, hsN⟩ := eg_bk_le hle hcl
      have H0 := H
      obtain ⟨hB, hF, hlf, hsc, hck, hsk, k1, k2, k3⟩ := H
      rw [ho] at hcl
      intro ad Hh locs ls hR hL hS
      have hsz : ls.size = c.maxLocals := by rw [hL.1.1, hLl]; exact hB.2.2.1.symm
      have hM := eg_met hrec (l := l) hlf (b0 := b0) (D := D) (dA := dA) (adc := adc) (ad := ad) hmi hm20 hen ho
      have hr := hrun d' cN sN q1 G1 rfl hmi (by omega) (by omega) hc8 ad Hh locs ls hR hsz hS hM
      have hokr : ∀ v ∈ rr, eg_okv G.2 v := fun v hv => hS v (hrr v hv)
      refine eg_run_W hR hr (fun v ad' H1 locs1 hq1 hok hag hle1 hR1 => ?_) (fun x ad' H1 locs1 q ce hq1 hx4 hag hle1 hR1 hce hcv hcl2 => ?_)
      · subst hq1
        have hJ := hrec scr (d' + 1) k (pc + 3) L (v.toList ++ rr) G1 (ck + cN) (sk + sN) r G' ck' sk' hcl H0
        have h9 := hJ ad' H1 locs1 ls hR1 (hL.up hag hle1) (fun w hw => by
          rcases List.mem_append.mp hw with h | h
          · exact hok w (by simpa using h)
          · exact (hokr w h).up hle1)
        have e1 : (v.toList ++ rr).map (eg_v ad') = (v.map (eg_v ad')).toList ++ rr.map (eg_v ad) := by
          rw [List.map_append, eg_ag_st hag hokr]
          cases v <;> rfl
        rw [e1] at h9
        exact h9
      · subst hq1
        unfold eg_bk at hcl
        dsimp only at hcl
        split at hcl
        · rename_i hh
          cases hcl
          exact k2 hh ad' H1 locs1 ls pc _ x q ce rfl hx4 hR1 hce hcv hcl2
        · rename_i hh1 hh
          split at hcl
          · rename_i h hhd
            split at hcl
            · rename_i i n hca
              split at hcl
              · rename_i hi
                have hJ := hrec scr (d' + 1) k (h + n) (eg_sn L i) [] G1 (ck + cN) (sk + sN) r G' ck' sk' hcl H0
                have hW := eg_ca1_W (q := q) H0 hca hi hR1 (hL.up hag hle1) hJ
                obtain ⟨f1, f2, f3, f4, f5, f6, f7, f8, f9, f10⟩ := hF
                obtain ⟨pre, z, suf, e1, e2, e3, e4, e5, e6⟩ := eg_hd_at hx4 (args := args) (eg_kp_s eg_kp_W f1) f7 hh1 hhd
                have hkn : k ≠ eg_LK := fun h9 => by
                  rw [h9] at hh
                  unfold eg_mh eg_mi at hh
                  rw [if_pos rfl] at hh
                  cases hh
                have htab := hB.2.2.2.2.2.2.2.1 hkn
                rw [hh] at htab
                rw [← e6] at hW
                exact vx_catch hB.2.2.2.1 pre z suf (htab.trans e1) e2 e3 e4 e5 (eg_kp_s eg_kp_W10 f2 _ (eg_W10_cast hx4)) hce hcv hcl2 hW
              · cases hcl
            · cases hcl
          · cases hcl
  · cases hcl
end In
end EGD
end
section
/-! THE STATIC THAT MAY BE NULL: only checkIndex is given it, and what it does is the same -/
def nu_P (rec : eg_Rec) : Prop := ∀ scr d L st G ck sk o, rec scr d 298 5 L (.ref 151 :: st) G ck sk = some o → rec scr d 298 5 L (.null :: st) G ck sk = some o
section NUL
variable {d : Nat} {w w' : Value} {G : eg_G}
theorem nu_c0 : eg_cd 314 0 = some (.iload_n 0, 1) := by decide +kernel
theorem nu_c1 : eg_cd 314 1 = some (.ifCond .lt 8, 3) := by decide +kernel
theorem nu_c4 : eg_cd 314 4 = some (.iload_n 0, 1) := by decide +kernel
theorem nu_c5 : eg_cd 314 5 = some (.iload_n 1, 1) := by decide +kernel
theorem nu_c6 : eg_cd 314 6 = some (.if_icmp .lt 10, 3) := by decide +kernel
theorem nu_c9 : eg_cd 314 9 = some (.aload_n 2, 1) := by decide +kernel
theorem nu_c10 : eg_cd 314 10 = some (.iload_n 0, 1) := by decide +kernel
theorem nu_c11 : eg_cd 314 11 = some (.iload_n 1, 1) := by decide +kernel
theorem nu_c12 : eg_cd 314 12 = some (.invokestatic 95, 3) := by decide +kernel
theorem nu_c16 : eg_cd 314 16 = some (.iload_n 0, 1) := by decide +kernel
theorem nu_c17 : eg_cd 314 17 = some (.ireturn, 1) := by decide +kernel
def nu_pl (ins : Instr) : Bool := match ins with
  | .return_ => false
  | .ireturn => false
  | .lreturn => false
  | .areturn => false
  | .new _ => false
  | ins => (eg_ik ins).isNone
theorem nu_st {k pc pc' len : Nat} {ins : Instr} {L L' : eg_Ls} {st st' : List Value} (hc : eg_cd k pc = some (ins, len)) (h1 : nu_pl ins = true) (h2 : eg_st (eg_mo k) (eg_in k) eg_MC eg_MS pc len ins L st G 0 0 = some (pc', L', st', G, 0, 0)) (f : Nat) : eg_rn (f + 1) none d k pc L st G 0 0 = eg_rn f none d k pc' L' st' G 0 0 := by
  show eg_one (eg_rn f) none d k pc L st G 0 0 = _
  unfold eg_one
  rw [hc]
  dsimp only
  have h3 : eg_rr ins (eg_mr k) st = none := by
    cases ins <;> first | (exact nomatch (show false = true from h1)) | rfl
  have h4 : eg_th k pc ins = none := by
    cases ins <;> first | (exact nomatch (show false = true from h1)) | rfl
  have h5 : eg_ik ins = none := by
    cases ins <;> first | rfl | (exact absurd h1 (by simp [nu_pl, eg_ik]))
  have h6 : eg_sc none ins pc L st G 0 0 = none := by
    unfold eg_sc
    rfl
  rw [h3]
  dsimp only
  rw [h6]
  dsimp only
  rw [h4]
  dsimp only
  rw [h5]
  dsimp only
  rw [h2]
  rfl
theorem nu_no {k pc len : Nat} {ins : Instr} {L : eg_Ls} {st : List Value} (hc : eg_cd k pc = some (ins, len)) (h1 : nu_pl ins = true) (h2 : eg_st (eg_mo k) (eg_in k) eg_MC eg_MS pc len ins L st G 0 0 = none) (f : Nat) : eg_rn f none d k pc L st G 0 0 = none := by
  cases f with
  | zero => rfl
  | succ f =>
    show eg_one (eg_rn f) none d k pc L st G 0 0 = _
    unfold eg_one
    rw [hc]
    dsimp only
    have h3 : eg_rr ins (eg_mr k) st = none := by
      cases ins <;> first | (exact nomatch (show false = true from h1)) | rfl
    have h4 : eg_th k pc ins = none := by
      cases ins <;> first | (exact nomatch (show false = true from h1)) | rfl
    have h5 : eg_ik ins = none := by
      cases ins <;> first | rfl | (exact absurd h1 (by simp [nu_pl, eg_ik]))
    have h6 : eg_sc none ins pc L st G 0 0 = none := by
      unfold eg_sc
      rfl
    rw [h3]
    dsimp only
    rw [h6]
    dsimp only
    rw [h4]
    dsimp only
    rw [h5]
    dsimp only
    rw [h2]
    rfl
/-- 314's locals -/
abbrev nu_L (b a w : Value) : eg_Ls := [some b, some a, some w]
theorem nu_12 {L : eg_Ls} {st : List Value} : ∀ f, eg_rn f none d 314 12 L st G 0 0 = none
  | 0 => rfl
  | f + 1 => by
    show eg_one (eg_rn f) none d 314 12 L st G 0 0 = none
    unfold eg_one
    rw [nu_c12]
    dsimp only
    have h3 : eg_rr (.invokestatic 95) (eg_mr 314) st = none := rfl
    have h6 : eg_sc none (.invokestatic 95) 12 L st G 0 0 = none := by
      unfold eg_sc
      rfl
    rw [h3]
    dsimp only
    rw [h6]
    dsimp only
    show eg_iv (eg_rn f) none d 314 12 0 95 L st G 0 0 = none
    unfold eg_iv
    rw [show (eg_mT.getD (eg_mo 314) []).lookup 95 = none from by decide +kernel]
variable {b a : Value}
theorem nu_11 {st : List Value} (hw : w = .null ∨ w = .ref 151) : ∀ f, eg_rn f none d 314 11 (nu_L b a w) st G 0 0 = none := fun f => by
  cases f with
  | zero => rfl
  | succ f =>
    cases a with
    | int y => exact (nu_st nu_c11 rfl rfl f).trans (nu_12 f)
    | _ => exact nu_no nu_c11 rfl rfl (f + 1)
theorem nu_10 {st : List Value} (hw : w = .null ∨ w = .ref 151) : ∀ f, eg_rn f none d 314 10 (nu_L b a w) st G 0 0 = none := fun f => by
  cases f with
  | zero => rfl
  | succ f =>
    cases b with
    | int y => exact (nu_st nu_c10 rfl rfl f).trans (nu_11 hw f)
    | _ => exact nu_no nu_c10 rfl rfl (f + 1)
theorem nu_9 {st : List Value} (hw : w = .null ∨ w = .ref 151) : ∀ f, eg_rn f none d 314 9 (nu_L b a w) st G 0 0 = none := fun f => by
  cases f with
  | zero => rfl
  | succ f =>
    rcases hw with rfl | rfl
    · exact (nu_st nu_c9 rfl rfl f).trans (nu_10 (.inl rfl) f)
    · exact (nu_st nu_c9 rfl rfl f).trans (nu_10 (.inr rfl) f)
theorem nu_17 {L L' : eg_Ls} {x : Int32} : ∀ f, eg_rn f none d 314 17 L [.int x] G 0 0 = eg_rn f none d 314 17 L' [.int x] G 0 0
  | 0 => rfl
  | f + 1 => by
    show eg_one (eg_rn f) none d 314 17 L [.int x] G 0 0 = eg_one (eg_rn f) none d 314 17 L' [.int x] G 0 0
    unfold eg_one
    rw [nu_c17]
    dsimp only
    have h3 : eg_rr .ireturn (eg_mr 314) [.int x] = some (some (.int x)) := by
      rw [show eg_mr 314 = some .int from by decide +kernel]
      show (if eg_nr .int x = true then _ else _) = _
      exact if_pos (by simp [eg_nr, narrow])
    rw [h3]
theorem nu_16 (hw : w = .null ∨ w = .ref 151) (hw' : w' = .null ∨ w' = .ref 151) : ∀ f, eg_rn f none d 314 16 (nu_L b a w) [] G 0 0 = eg_rn f none d 314 16 (nu_L b a w') [] G 0 0 := fun f => by
  cases f with
  | zero => rfl
  | succ f =>
    cases b with
    | int x => exact ((nu_st nu_c16 rfl rfl f).trans (nu_17 f)).trans (nu_st nu_c16 rfl rfl f).symm
    | _ => exact (nu_no nu_c16 rfl rfl (f + 1)).trans (nu_no nu_c16 rfl rfl (f + 1)).symm
theorem nu_6 {x y : Int32} (hw : w = .null ∨ w = .ref 151) (hw' : w' = .null ∨ w' = .ref 151) : ∀ f, eg_rn f none d 314 6 (nu_L b a w) [.int y, .int x] G 0 0 = eg_rn f none d 314 6 (nu_L b a w') [.int y, .int x] G 0 0 := fun f => by
  cases f with
  | zero => rfl
  | succ f =>
    by_cases h : x < y
    · have e : ∀ L : eg_Ls, eg_st (eg_mo 314) (eg_in 314) eg_MC eg_MS 6 3 (.if_icmp .lt 10) L [.int y, .int x] G 0 0 = some (16, L, [], G, 0, 0) := fun L => by
        show (if 0 ≤ ((6 : Nat) : Int) + 10 then some ((if x < y then eg_tg 6 10 else 6 + 3), L, [], G, 0, 0) else none) = _
        rw [if_pos (by decide), if_pos h]
        rfl
      exact ((nu_st nu_c6 rfl (e _) f).trans (nu_16 hw hw' f)).trans (nu_st nu_c6 rfl (e _) f).symm
    · have e : ∀ L : eg_Ls, eg_st (eg_mo 314) (eg_in 314) eg_MC eg_MS 6 3 (.if_icmp .lt 10) L [.int y, .int x] G 0 0 = some (9, L, [], G, 0, 0) := fun L => by
        show (if 0 ≤ ((6 : Nat) : Int) + 10 then some ((if x < y then eg_tg 6 10 else 6 + 3), L, [], G, 0, 0) else none) = _
        rw [if_pos (by decide), if_neg h]
      exact ((nu_st nu_c6 rfl (e _) f).trans (nu_9 hw f)).trans ((nu_st nu_c6 rfl (e _) f).trans (nu_9 hw' f)).symm
theorem nu_5 {x : Int32} (hw : w = .null ∨ w = .ref 151) (hw' : w' = .null ∨ w' = .ref 151) : ∀ f, eg_rn f none d 314 5 (nu_L b a w) [.int x] G 0 0 = eg_rn f none d 314 5 (nu_L b a w') [.int x] G 0 0 := fun f => by
  cases f with
  | zero => rfl
  | succ f =>
    cases a with
    | int y => exact ((nu_st nu_c5 rfl rfl f).trans (nu_6 hw hw' f)).trans (nu_st nu_c5 rfl rfl f).symm
    | _ => exact (nu_no nu_c5 rfl rfl (f + 1)).trans (nu_no nu_c5 rfl rfl (f + 1)).symm
theorem nu_4 (hw : w = .null ∨ w = .ref 151) (hw' : w' = .null ∨ w' = .ref 151) : ∀ f, eg_rn f none d 314 4 (nu_L b a w) [] G 0 0 = eg_rn f none d 314 4 (nu_L b a w') [] G 0 0 := fun f => by
  cases f with
  | zero => rfl
  | succ f =>
    cases b with
    | int x => exact ((nu_st nu_c4 rfl rfl f).trans (nu_5 hw hw' f)).trans (nu_st nu_c4 rfl rfl f).symm
    | _ => exact (nu_no nu_c4 rfl rfl (f + 1)).trans (nu_no nu_c4 rfl rfl (f + 1)).symm
theorem nu_1 {x : Int32} (hw : w = .null ∨ w = .ref 151) (hw' : w' = .null ∨ w' = .ref 151) : ∀ f, eg_rn f none d 314 1 (nu_L b a w) [.int x] G 0 0 = eg_rn f none d 314 1 (nu_L b a w') [.int x] G 0 0 := fun f => by
  cases f with
  | zero => rfl
  | succ f =>
    by_cases h : x < 0
    · have e : ∀ L : eg_Ls, eg_st (eg_mo 314) (eg_in 314) eg_MC eg_MS 1 3 (.ifCond .lt 8) L [.int x] G 0 0 = some (9, L, [], G, 0, 0) := fun L => by
        show (if 0 ≤ ((1 : Nat) : Int) + 8 then some ((if x < 0 then eg_tg 1 8 else 1 + 3), L, [], G, 0, 0) else none) = _
        rw [if_pos (by decide), if_pos h]
        rfl
      exact ((nu_st nu_c1 rfl (e _) f).trans (nu_9 hw f)).trans ((nu_st nu_c1 rfl (e _) f).trans (nu_9 hw' f)).symm
    · have e : ∀ L : eg_Ls, eg_st (eg_mo 314) (eg_in 314) eg_MC eg_MS 1 3 (.ifCond .lt 8) L [.int x] G 0 0 = some (4, L, [], G, 0, 0) := fun L => by
        show (if 0 ≤ ((1 : Nat) : Int) + 8 then some ((if x < 0 then eg_tg 1 8 else 1 + 3), L, [], G, 0, 0) else none) = _
        rw [if_pos (by decide), if_neg h]
      exact ((nu_st nu_c1 rfl (e _) f).trans (nu_4 hw hw' f)).trans (nu_st nu_c1 rfl (e _) f).symm
theorem nu_0 (hw : w = .null ∨ w = .ref 151) (hw' : w' = .null ∨ w' = .ref 151) : ∀ f, eg_rn f none d 314 0 (nu_L b a w) [] G 0 0 = eg_rn f none d 314 0 (nu_L b a w') [] G 0 0 := fun f => by
  cases f with
  | zero => rfl
  | succ f =>
    cases b with
    | int x => exact ((nu_st nu_c0 rfl rfl f).trans (nu_1 hw hw' f)).trans (nu_st nu_c0 rfl rfl f).symm
    | _ => exact (nu_no nu_c0 rfl rfl (f + 1)).trans (nu_no nu_c0 rfl rfl (f + 1)).symm
end NUL
theorem nu_c298 : eg_cd 298 5 = some (.invokestatic 1059, 3) := by decide +kernel
theorem nu_m298 : (eg_mT.getD (eg_mo 298) []).lookup 1059 = some (314, 0, none) := by decide +kernel
theorem nu_en {b a w : Value} (h : (eg_en0 [b, a, w]).length ≤ 3) : eg_en 3 [b, a, w] = [some b, some a, some w] ∧ (eg_en0 [b, a, w]).length = 3 := by
  unfold eg_en0 eg_en0 eg_en0 eg_en0 at h
  unfold eg_en eg_en0 eg_en0 eg_en0 eg_en0
  split at h <;> split at h <;> split at h <;> simp at h <;> simp_all
theorem eg_rn_nl : ∀ f, nu_P (eg_rn f)
  | 0 => fun _ _ _ _ _ _ _ _ h => nomatch h
  | f + 1 => fun scr d L st G ck sk o h => by
    have key : ∀ w : Value, eg_rn (f + 1) scr d 298 5 L (w :: st) G ck sk = eg_iv (eg_rn f) scr d 298 5 0 1059 L (w :: st) G ck sk := fun w => by
      show eg_one (eg_rn f) scr d 298 5 L (w :: st) G ck sk = _
      unfold eg_one
      rw [nu_c298]
      dsimp only
      have h3 : eg_rr (.invokestatic 1059) (eg_mr 298) (w :: st) = none := rfl
      have h6 : eg_sc scr (.invokestatic 1059) 5 L (w :: st) G ck sk = none := by
        unfold eg_sc
        split
        · rename_i e _
          cases e
        · rename_i e _
          cases e
        · rfl
      rw [h3]
      dsimp only
      rw [h6]
      rfl
    have kv : ∀ w : Value, eg_iv (eg_rn f) scr d 298 5 0 1059 L (w :: st) G ck sk = (if (0 = 0 ∨ 0 = 3) ∧ eg_ma 314 ≤ (w :: st).length then eg_cl1 (eg_rn f) scr d 298 5 314 ((w :: st).take (eg_ma 314)).reverse ((w :: st).drop (eg_ma 314)) L G ck sk else none) := fun w => by
      unfold eg_iv
      rw [nu_m298]
      show (if 0 = 0 ∧ 309 ≤ 314 ∧ 314 ≤ 313 then (match eg_mt 314 (w :: st) with
        | some (v, r) => if eg_cat r ≤ 8 ∧ L.length = eg_mL 298 then eg_rn f scr d 298 (5 + 3) L (v :: r) G ck sk else none
        | none => none)
      else if (0 = 0 ∨ 0 = 3) ∧ eg_ma 314 ≤ (w :: st).length then eg_cl1 (eg_rn f) scr d 298 5 314 ((w :: st).take (eg_ma 314)).reverse ((w :: st).drop (eg_ma 314)) L G ck sk else none) = _
      rw [if_neg (by decide)]
    rw [key, kv] at h ⊢
    rw [show eg_ma 314 = 3 from by decide +kernel] at h ⊢
    split at h
    · rename_i hc
      have hc2 : ((0 : Nat) = 0 ∨ (0 : Nat) = 3) ∧ 3 ≤ ((Value.null : Value) :: st).length := hc
      rw [if_pos hc2]
      obtain ⟨a, b, r, rfl⟩ : ∃ a b r, st = a :: b :: r := by
        match st, hc with
        | a :: b :: r, _ => exact ⟨a, b, r, rfl⟩
        | [], hc => exact absurd hc.2 (by simp)
        | [a], hc => exact absurd hc.2 (by simp)
      have h : eg_cl1 (eg_rn f) scr d 298 5 314 [b, a, .ref 151] r L G ck sk = some o := h
      show eg_cl1 (eg_rn f) scr d 298 5 314 [b, a, .null] r L G ck sk = some o
      unfold eg_cl1 at h ⊢
      rw [show eg_mL 314 = 3 from by decide +kernel] at h ⊢
      split at h
      · rename_i hc
        obtain ⟨c1, c2, c3, c4, c5⟩ := hc
        obtain ⟨e1, e2⟩ := nu_en c3
        have c3n : (eg_en0 [b, a, Value.null]).length ≤ 3 := by
          rw [show (eg_en0 [b, a, Value.null]).length = (eg_en0 [b, a, Value.ref 151]).length from by
            unfold eg_en0 eg_en0 eg_en0
            split <;> split <;> rfl]
          exact c3
        rw [if_pos ⟨c1, c2, c3n, c4, c5⟩]
        split at h
        · cases h
        · rename_i d'
          rw [e1, nu_0 (.inr rfl) (.inl rfl) f] at h
          rw [(nu_en c3n).1]
          exact h
      · cases h
    · cases h
/-- where it is read -/
theorem nu_site0 : eg_MM.all (fun l => l.all (fun q => q.2.all (fun e => !eg_s151 q.1.2.2.2.2.2.1 e.2.1 || (decide (q.1.1 = eg_mn 298) && decide (e.1 = 2))))) = true := by decide +kernel
theorem nu_site1 : eg_lw.all (fun e => !eg_s151 0 e.2.1) = true := by decide +kernel
theorem nu_nm : (List.range 316).all (fun k => decide (eg_mn k = eg_mn 298 → k = 298)) = true := by decide +kernel
theorem nu_site {k pc len : Nat} {ins : Instr} (h : eg_cd k pc = some (ins, len)) (hs : eg_s151 (eg_mo k) ins = true) : k = 298 ∧ pc = 2 := by
  unfold eg_cd at h
  by_cases hk : k = eg_LK
  · rw [if_pos hk] at h
    have h1 := List.all_eq_true.mp nu_site1 _ (eg_lk h)
    have e : eg_mo k = 0 := by
      subst hk
      rfl
    rw [e] at hs
    dsimp only at h1
    rw [hs] at h1
    cases h1
  · rw [if_neg hk] at h
    by_cases h315 : k < 316
    · obtain ⟨l, h1, h2⟩ := eg_me_at h315
      have h3 := List.all_eq_true.mp (List.all_eq_true.mp (List.all_eq_true.mp nu_site0 l h1) _ h2) _ (eg_lk h)
      unfold eg_mo at hs
      rw [eg_mi_k h315] at hs
      dsimp only at h3
      rw [hs, Bool.not_true, Bool.false_or, Bool.and_eq_true] at h3
      have h4 := of_decide_eq_true h3.1
      have h5 : eg_mn k = eg_mn 298 := by
        show (eg_mi k).1 = _
        rw [eg_mi_k h315]
        exact h4
      exact ⟨of_decide_eq_true (List.all_eq_true.mp nu_nm k (List.mem_range.mpr h315)) h5, of_decide_eq_true h3.2⟩
    · have e : (eg_me k).2 = [] := by
        have hl := eg_MM_len
        by_cases h320 : 320 ≤ k
        · unfold eg_me
          rw [show eg_MM.getD (k / 16) [] = [] from by
            rw [List.getD_eq_getElem?_getD, List.getElem?_eq_none (by rw [hl.1]; omega)]
            rfl]
          rfl
        · have : k = 316 ∨ k = 317 ∨ k = 318 ∨ k = 319 := by omega
          rcases this with rfl | rfl | rfl | rfl <;> decide +kernel
      rw [e] at h
      cases h
end
