/-! THE INTERPRETER: methods by their numbers, eg_LK the law; a result is an answer or an exception -/
abbrev eg_R : Type := Option Value ⊕ Nat
abbrev eg_O : Type := eg_R × eg_G × Nat × Nat
abbrev eg_Sc : Type := Option (Nat × (Nat → Int32))
abbrev eg_Rec : Type := eg_Sc → Nat → Nat → Nat → eg_Ls → List Value → eg_G → Nat → Nat → Option eg_O
def eg_LK : Nat := 1000
def eg_lw : List (Nat × Instr × Nat) := eg_law0 ++ (eg_law1 ++ (eg_law2 ++ (eg_law3 ++ (eg_law4 ++ (eg_law5 ++ (eg_law6 ++ (eg_law7 ++ (eg_law8 ++ (eg_law9 ++ (eg_law10))))))))))
def eg_ml : eg_MI := (⟨"KnobEyeLaw", "law", "([I)Z"⟩, code, maxLocals, ret, none, 0, 1)
def eg_mi (k : Nat) : eg_MI := if k = eg_LK then eg_ml else (eg_me k).1
abbrev eg_mn (k : Nat) : MethodName := (eg_mi k).1
abbrev eg_mb (k : Nat) : ByteArray := (eg_mi k).2.1
abbrev eg_mL (k : Nat) : Nat := (eg_mi k).2.2.1
abbrev eg_mr (k : Nat) : Option FieldType := (eg_mi k).2.2.2.1
abbrev eg_mh (k : Nat) : Option (List (Nat × Nat × Nat × Nat)) := (eg_mi k).2.2.2.2.1
abbrev eg_mo (k : Nat) : Nat := (eg_mi k).2.2.2.2.2.1
abbrev eg_ma (k : Nat) : Nat := (eg_mi k).2.2.2.2.2.2
def eg_cd (k pc : Nat) : Option (Instr × Nat) := (if k = eg_LK then eg_lw else (eg_me k).2).lookup pc
def eg_nr (ty : FieldType) (x : Int32) : Bool := decide (narrow ty (.int x) = .int x)
def eg_rr (ins : Instr) (ret : Option FieldType) (st : List Value) : Option (Option Value) := match ins, ret, st with
  | .return_, none, [] => some none
  | .ireturn, some ty, [.int x] => if eg_nr ty x = true then some (some (.int x)) else none
  | .lreturn, some .long, [.long x] => some (some (.long x))
  | .areturn, some (.object _), [.ref a] => some (some (.ref a))
  | .areturn, some (.object _), [.null] => some (some .null)
  | .areturn, some (.array _), [.ref a] => some (some (.ref a))
  | .areturn, some (.array _), [.null] => some (some .null)
  | _, _, _ => none
def eg_sc (scr : eg_Sc) (ins : Instr) (pc : Nat) (L : eg_Ls) (st : List Value) (G : eg_G) (ck sk : Nat) : Option eg_S := match scr, ins, st with
  | some (n, f), .iaload, .int i :: .ref a :: r => if a = 150 ∧ 0 ≤ i.toInt ∧ i.toInt < n then some (pc + 1, L, .int (f i.toNatClampNeg) :: r, G, ck, sk) else none
  | some (n, _), .arraylength, .ref a :: r => if a = 150 then some (pc + 1, L, .int (Int32.ofNat n) :: r, G, ck, sk) else none
  | _, _, _ => none
def eg_cat (r : List Value) : Nat := (r.map fun v => v.category).sum
def eg_th (k pc : Nat) (ins : Instr) : Option (Nat × Nat × Nat) := match ins with
  | .new i => eg_xT.find? (fun q => (q.1 == i) && ((eg_mo k == 11) && ((eg_mh k).isNone && (decide (eg_cd k (pc + 3) = some (.dup, 1)) && (decide (eg_cd k (pc + 4) = some (.invokespecial q.2.1, 3)) && decide (eg_cd k (pc + 7) = some (.athrow, 1)))))))
  | _ => none
def eg_ik (ins : Instr) : Option (Nat × Nat) := match ins with
  | .invokestatic i => some (0, i)
  | .invokevirtual i => some (1, i)
  | .invokespecial i => some (2, i)
  | _ => none
def eg_hd (o pc x : Nat) : List (Nat × Nat × Nat × Nat) → Option Nat
  | [] => none
  | (a, b, h, ct) :: t => if a ≤ pc ∧ pc < b then (match (eg_cT.getD o []).lookup ct with
      | some y => if ct = 0 then none else if y = 20 + x then some h else if 20 ≤ y ∧ y < 24 then eg_hd o pc x t else none
      | none => none) else eg_hd o pc x t
def eg_ca1 (k h : Nat) : Option (Nat × Nat) := match eg_cd k h with
  | some (.astore_n i, _) => some (i, 1)
  | some (.astore i, _) => some (i, 2)
  | _ => none
def eg_sn (L : eg_Ls) (i : Nat) : eg_Ls := (eg_s1 L i .null).set i none
def eg_en0 : List Value → eg_Ls
  | [] => []
  | v :: t => if v.category = 2 then some v :: none :: eg_en0 t else some v :: eg_en0 t
def eg_en (n : Nat) (as : List Value) : eg_Ls := eg_en0 as ++ List.replicate (n - (eg_en0 as).length) none
/-- behind a call -/
def eg_bk (rec : eg_Rec) (scr : eg_Sc) (d k pc : Nat) (L : eg_Ls) (r : List Value) (ck sk : Nat) : Option eg_O → Option eg_O
  | some (.inl v, G', c, s) => rec scr d k (pc + 3) L (v.toList ++ r) G' (ck + c) (sk + s)
  | some (.inr x, G', c, s) => (match eg_mh k with
    | none => some (.inr x, G', ck + c, sk + s)
    | some hh => match eg_hd (eg_mo k) pc x hh with
      | some h => (match eg_ca1 k h with
        | some (i, n) => if i < L.length then rec scr d k (h + n) (eg_sn L i) [] G' (ck + c) (sk + s) else none
        | none => none)
      | none => none)
  | none => none
def eg_cl1 (rec : eg_Rec) (scr : eg_Sc) (d k pc mi : Nat) (as r : List Value) (L : eg_Ls) (G : eg_G) (ck sk : Nat) : Option eg_O :=
  if eg_cat r ≤ 8 ∧ L.length = eg_mL k ∧ (eg_en0 as).length ≤ eg_mL mi ∧ mi < 316 ∧ ¬ eg_mo mi = 20 then (match d with
    | 0 => none
    | d' + 1 => eg_bk rec scr (d' + 1) k pc L r ck sk (rec none d' mi 0 (eg_en (eg_mL mi) as) [] G 0 0)) else none
def eg_oc (kd mi : Nat) : Nat := if kd = 7 then 12 else if eg_mo mi = 14 then 12 else if eg_mo mi = 15 then 13 else if 1 ≤ eg_mo mi ∧ eg_mo mi ≤ 12 then eg_mo mi - 1 else 99
/-- java.lang.Math -/
def eg_mt (mi : Nat) (st : List Value) : Option (Value × List Value) := match mi, st with
  | 309, .int x :: r => some (.int (if 0 ≤ x then x else 0 - x), r)
  | 310, .int y :: .int x :: r => some (.int (if x < y then y else x), r)
  | 311, .int y :: .int x :: r => some (.int (if y < x then y else x), r)
  | 312, .long y :: .long x :: r => some (.long (if y < x then y else x), r)
  | 313, .long y :: .long x :: r => some (.long (if y < x then x else y), r)
  | _, _ => none
def eg_iv (rec : eg_Rec) (scr : eg_Sc) (d k pc t i : Nat) (L : eg_Ls) (st : List Value) (G : eg_G) (ck sk : Nat) : Option eg_O :=
  match (eg_mT.getD (eg_mo k) []).lookup i with
  | none => none
  | some (mi, kd, _) => match t with
    | 0 => if kd = 0 ∧ 309 ≤ mi ∧ mi ≤ 313 then (match eg_mt mi st with
        | some (v, r) => if eg_cat r ≤ 8 ∧ L.length = eg_mL k then rec scr d k (pc + 3) L (v :: r) G ck sk else none
        | none => none)
      else if (kd = 0 ∨ kd = 3) ∧ eg_ma mi ≤ st.length then eg_cl1 rec scr d k pc mi (st.take (eg_ma mi)).reverse (st.drop (eg_ma mi)) L G ck sk else none
    | 1 => (match st.drop (eg_ma mi) with
      | .ref b :: r => if (kd = 1 ∨ kd = 4 ∨ kd = 7) ∧ b < G.2 ∧ eg_is (eg_at G b) (eg_oc kd mi) = true then eg_cl1 rec scr d k pc mi (.ref b :: (st.take (eg_ma mi)).reverse) r L G ck sk else none
      | _ => none)
    | _ => if kd = 6 then (match st with
        | .ref _ :: r => if eg_cat r ≤ 8 ∧ L.length = eg_mL k then rec scr d k (pc + 3) L r G ck sk else none
        | _ => none)
      else (match st.drop (eg_ma mi) with
        | .ref b :: r => if kd = 2 ∨ kd = 5 then eg_cl1 rec scr d k pc mi (.ref b :: (st.take (eg_ma mi)).reverse) r L G ck sk else none
        | _ => none)
def eg_MC : Nat := 600002
def eg_MS : Nat := 7302232
def eg_in (k : Nat) : Bool := (eg_mn k).name == "<init>"
def eg_nx (rec : eg_Rec) (scr : eg_Sc) (d k : Nat) : Option eg_S → Option eg_O
  | some (pc', L', st', G', ck', sk') => rec scr d k pc' L' st' G' ck' sk'
  | none => none
def eg_one (rec : eg_Rec) : eg_Rec := fun scr d k pc L st G ck sk =>
  match eg_cd k pc with
  | none => none
  | some (ins, len) => match eg_rr ins (eg_mr k) st with
    | some v => some (.inl v, G, ck, sk)
    | none => match eg_sc scr ins pc L st G ck sk with
      | some (pc', L', st', G', ck', sk') => rec scr d k pc' L' st' G' ck' sk'
      | none => match eg_th k pc ins with
        | some q => if eg_cat st ≤ 8 ∧ L.length = eg_mL k then some (.inr q.2.2, G, ck + 1, sk + 6) else none
        | none => match eg_ik ins with
          | some (t, i) => eg_iv rec scr d k pc t i L st G ck sk
          | none => eg_nx rec scr d k (eg_st (eg_mo k) (eg_in k) eg_MC eg_MS pc len ins L st G ck sk)
def eg_rn : Nat → eg_Rec
  | 0 => fun _ _ _ _ _ _ _ _ _ => none
  | f + 1 => eg_one (eg_rn f)
/-! the counters -/
def eg_up (a b : Nat × Nat) : Prop := a.1 ≤ b.1 ∧ a.2 ≤ b.2
theorem eg_al_up {mc ms pc len n : Nat} {L : eg_Ls} {st : List Value} {G : eg_G} {ck sk : Nat} {c : eg_C} {pc' : Nat} {L' : eg_Ls} {st' : List Value} {G' : eg_G} {ck' sk' : Nat} (h : eg_al mc ms pc len L st G ck sk n c = some (pc', L', st', G', ck', sk')) : (ck ≤ ck' ∧ sk ≤ sk') ∧ ∀ mc ms : Nat, ck' ≤ mc → sk' ≤ ms → eg_al mc ms pc len L st G ck sk n c = some (pc', L', st', G', ck', sk') := by
  unfold eg_al at h
  split at h
  · cases h
    refine ⟨⟨by omega, by omega⟩, fun mc ms h1 h2 => ?_⟩
    unfold eg_al
    rw [if_pos ⟨h1, h2⟩]
  · cases h
/-- it doesn't count -/
def eg_qt (h : Option eg_S) (ck sk : Nat) : Prop := ∀ pc' L' st' G' ck' sk', h = some (pc', L', st', G', ck', sk') → ck' = ck ∧ sk' = sk
theorem eg_qs {pc : Nat} {L : eg_Ls} {st : List Value} {G : eg_G} {ck sk : Nat} : eg_qt (some (pc, L, st, G, ck, sk)) ck sk := fun _ _ _ _ _ _ h => by cases h; exact ⟨rfl, rfl⟩
theorem eg_qn {ck sk : Nat} : eg_qt none ck sk := fun _ _ _ _ _ _ h => nomatch h
theorem eg_qi {c : Prop} [Decidable c] {a b : Option eg_S} {ck sk : Nat} (h1 : eg_qt a ck sk) (h2 : eg_qt b ck sk) : eg_qt (if c then a else b) ck sk := by
  split
  · exact h1
  · exact h2
set_option maxHeartbeats 4000000 in
theorem eg_st_up {o : Nat} {ini : Bool} {mc ms pc len : Nat} {ins : Instr} {L : eg_Ls} {st : List Value} {G : eg_G} {ck sk : Nat} {pc' : Nat} {L' : eg_Ls} {st' : List Value} {G' : eg_G} {ck' sk' : Nat} (h : eg_st o ini mc ms pc len ins L st G ck sk = some (pc', L', st', G', ck', sk')) :
    (ck ≤ ck' ∧ sk ≤ sk') ∧ ∀ mc ms : Nat, ck' ≤ mc → sk' ≤ ms → eg_st o ini mc ms pc len ins L st G ck sk = some (pc', L', st', G', ck', sk') := by
  have key : ∀ {x : Option eg_S}, eg_qt x ck sk → x = some (pc', L', st', G', ck', sk') → (ck ≤ ck' ∧ sk ≤ sk') := fun q h => by
    obtain ⟨rfl, rfl⟩ := q _ _ _ _ _ _ h
    exact ⟨Nat.le_refl _, Nat.le_refl _⟩
  cases ins with
  | new i =>
    simp only [eg_st] at h ⊢
    split at h
    · split at h
      · rename_i hc
        obtain ⟨a, b⟩ := eg_al_up h
        exact ⟨a, fun mc ms h1 h2 => by rw [if_pos hc]; exact b mc ms h1 h2⟩
      · cases h
    · cases h
  | newarray t =>
    simp only [eg_st] at h ⊢
    split at h
    · split at h
      · rename_i hc
        obtain ⟨a, b⟩ := eg_al_up h
        exact ⟨a, fun mc ms h1 h2 => by rw [if_pos hc]; exact b mc ms h1 h2⟩
      · cases h
    · cases h
  | anewarray t =>
    simp only [eg_st] at h ⊢
    split at h
    · split at h
      · rename_i hc
        obtain ⟨a, b⟩ := eg_al_up h
        exact ⟨a, fun mc ms h1 h2 => by rw [if_pos hc]; exact b mc ms h1 h2⟩
      · cases h
    · cases h
  | multianewarray t d =>
    simp only [eg_st] at h ⊢
    split at h
    · split at h
      · rename_i hc
        cases h
        refine ⟨⟨by omega, by omega⟩, fun mc ms h1 h2 => ?_⟩
        rw [if_pos ⟨hc.1, hc.2.1, hc.2.2.1, hc.2.2.2.1, hc.2.2.2.2.1, by omega, by omega⟩]
      · cases h
    · cases h
  | _ =>
    refine ⟨key ?_ h, fun _ _ _ _ => h⟩
    clear h key
    dsimp only [eg_st]
    first
      | exact eg_qs
      | exact eg_qn
      | (unfold eg_ii; split <;> first | exact eg_qs | exact eg_qn)
      | (unfold eg_l2; split <;> first | exact eg_qs | exact eg_qn)
      | (unfold eg_ls; split <;> first | exact eg_qs | exact eg_qn)
      | (unfold eg_li; split <;> first | exact eg_qs | exact eg_qn)
      | (unfold eg_ll; split <;> first | exact eg_qs | exact eg_qn)
      | (unfold eg_la; split <;> first | exact eg_qs | exact eg_qn)
      | (unfold eg_si; split <;> first | exact eg_qi eg_qs eg_qn | exact eg_qn)
      | (unfold eg_sl2; split <;> first | exact eg_qi eg_qs eg_qn | exact eg_qn)
      | (unfold eg_sa; split <;> first | exact eg_qi eg_qs eg_qn | exact eg_qn)
      | (unfold eg_kst; (repeat' split) <;> first | exact eg_qs | exact eg_qn)
      | (unfold eg_ar; (repeat' split) <;> first | exact eg_qs | exact eg_qn)
      | (unfold eg_aw; (repeat' split) <;> first | exact eg_qs | exact eg_qn)
      | (unfold eg_gf; (repeat' split) <;> first | exact eg_qs | exact eg_qn)
      | (unfold eg_pf; (repeat' split) <;> first | exact eg_qs | exact eg_qn)
      | ((repeat' split) <;> first | exact eg_qs | exact eg_qn)
theorem eg_lw_dec : ∀ e ∈ eg_lw, decode code e.1 = .ok e.2 := by
  have h : ∀ {l : List (Nat × Instr × Nat)}, l.all (fun e => decide (decode code e.1 = .ok e.2)) = true → ∀ e ∈ l, decode code e.1 = .ok e.2 := fun h e he => of_decide_eq_true (List.all_eq_true.mp h e he)
  unfold eg_lw
  exact List.forall_mem_append.mpr ⟨h eg_kl0, List.forall_mem_append.mpr ⟨h eg_kl1, List.forall_mem_append.mpr ⟨h eg_kl2, List.forall_mem_append.mpr ⟨h eg_kl3, List.forall_mem_append.mpr ⟨h eg_kl4, List.forall_mem_append.mpr ⟨h eg_kl5, List.forall_mem_append.mpr ⟨h eg_kl6, List.forall_mem_append.mpr ⟨h eg_kl7, List.forall_mem_append.mpr ⟨h eg_kl8, List.forall_mem_append.mpr ⟨h eg_kl9, h eg_kl10⟩⟩⟩⟩⟩⟩⟩⟩⟩⟩
theorem eg_lw_lok : eg_lw.all (fun e => eg_lok e.2.1 e.2.2) = true := by
  have h : ∀ {l : List (Nat × Instr × Nat)}, l.all (fun e => eg_lok e.2.1 e.2.2) = true → ∀ e ∈ l, eg_lok e.2.1 e.2.2 = true := fun h e he => List.all_eq_true.mp h e he
  refine List.all_eq_true.mpr ?_
  unfold eg_lw
  exact List.forall_mem_append.mpr ⟨h eg_ll0, List.forall_mem_append.mpr ⟨h eg_ll1, List.forall_mem_append.mpr ⟨h eg_ll2, List.forall_mem_append.mpr ⟨h eg_ll3, List.forall_mem_append.mpr ⟨h eg_ll4, List.forall_mem_append.mpr ⟨h eg_ll5, List.forall_mem_append.mpr ⟨h eg_ll6, List.forall_mem_append.mpr ⟨h eg_ll7, List.forall_mem_append.mpr ⟨h eg_ll8, List.forall_mem_append.mpr ⟨h eg_ll9, h eg_ll10⟩⟩⟩⟩⟩⟩⟩⟩⟩⟩
