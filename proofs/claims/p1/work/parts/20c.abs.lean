/-! VALUES WITH TOKENS: a float is a token, the number of an int of the script (6: the first one's last six bits; from 7 on: any int); ea_S in an array: any int -/
def ea_S : Int32 := 1515870810
def ea_t (xs : Nat → Int32) (k : Nat) : Int32 := if k = 6 then xs 0 &&& 63 else xs k
def ea_vr (xs : Nat → Int32) (v w : Value) : Prop := match v with
  | .float k => ∃ x, w = .int x ∧ (k.toNat < 7 → x = ea_t xs k.toNat)
  | u => w = u
def ea_sr (xs : Nat → Int32) : List Value → List Value → Prop
  | [], c => c = []
  | a :: t, c => ∃ x r, c = x :: r ∧ ea_vr xs a x ∧ ea_sr xs t r
def ea_or (xs : Nat → Int32) (a b : Option Value) : Prop := match a with
  | none => b = none
  | some v => ∃ w, b = some w ∧ ea_vr xs v w
def ea_lr (xs : Nat → Int32) : eg_Ls → eg_Ls → Prop
  | [], c => c = []
  | a :: t, c => ∃ x r, c = x :: r ∧ ea_or xs a x ∧ ea_lr xs t r
def ea_cr (xs : Nat → Int32) (a c : eg_C) : Prop := match a with
  | .inl (t, (n, .inl f)) => ∃ g, c = .inl (t, (n, .inl g)) ∧ ∀ i, f i = ea_S ∨ g i = f i
  | .inl (t, (n, .inr q)) => c = .inl (t, (n, .inr q))
  | .inr (ci, fs) => ∃ gs, c = .inr (ci, gs) ∧ ea_sr xs fs gs
def ea_gr (xs : Nat → Int32) (G H : eg_G) : Prop := H.2 = G.2 ∧ ∀ i, ea_cr xs (G.1 i) (H.1 i)
/-- not a token -/
def ea_nf (v : Value) : Bool := match v with
  | .float _ => false
  | _ => true
section EA
variable {xs : Nat → Int32}
theorem ea_vr_nf {v : Value} (h : ea_nf v = true) : ea_vr xs v v := by
  cases v <;> first | rfl | cases h
theorem ea_vr_eq {v w : Value} (h : ea_nf v = true) (r : ea_vr xs v w) : w = v := by
  cases v <;> first | exact r | cases h
theorem ea_vr_cat {v w : Value} (r : ea_vr xs v w) : w.category = v.category := by
  cases v
  case float k =>
    obtain ⟨x, rfl, -⟩ := r
    rfl
  all_goals
    have h : w = _ := r
    rw [h]
theorem ea_sr_nf : ∀ {l : List Value}, l.all ea_nf = true → ea_sr xs l l
  | [], _ => rfl
  | v :: t, h => by
    rw [List.all_cons, Bool.and_eq_true] at h
    exact ⟨v, t, rfl, ea_vr_nf h.1, ea_sr_nf h.2⟩
theorem ea_sr_len : ∀ {a c : List Value}, ea_sr xs a c → c.length = a.length
  | [], _, h => by rw [show _ = [] from h]
  | _ :: _, _, ⟨_, _, e, _, h⟩ => by rw [e, List.length_cons, List.length_cons, ea_sr_len h]
theorem ea_sr_cat : ∀ {a c : List Value}, ea_sr xs a c → eg_cat c = eg_cat a
  | [], _, h => by rw [show _ = [] from h]
  | _ :: _, _, ⟨_, _, e, hv, h⟩ => by
    have h1 := ea_sr_cat h
    unfold eg_cat at h1 ⊢
    rw [e, List.map_cons, List.map_cons, List.sum_cons, List.sum_cons, h1, ea_vr_cat hv]
theorem ea_sr_app : ∀ {a b c d : List Value}, ea_sr xs a c → ea_sr xs b d → ea_sr xs (a ++ b) (c ++ d)
  | [], _, _, _, h, k => by
    rw [show _ = [] from h]
    exact k
  | _ :: _, _, _, _, ⟨x, r, e, hv, h⟩, k => by
    subst e
    exact ⟨x, r ++ _, rfl, hv, ea_sr_app h k⟩
theorem ea_sr_take : ∀ {a c : List Value} (n : Nat), ea_sr xs a c → ea_sr xs (a.take n) (c.take n)
  | [], _, n, h => by
    rw [show _ = [] from h, List.take_nil]
    exact rfl
  | _ :: _, _, 0, _ => rfl
  | _ :: _, _, n + 1, ⟨x, r, e, hv, h⟩ => by
    subst e
    exact ⟨x, r.take n, rfl, hv, ea_sr_take n h⟩
theorem ea_sr_drop : ∀ {a c : List Value} (n : Nat), ea_sr xs a c → ea_sr xs (a.drop n) (c.drop n)
  | [], _, n, h => by
    rw [show _ = [] from h, List.drop_nil]
    exact rfl
  | _ :: _, _, 0, h => h
  | _ :: _, _, n + 1, ⟨x, r, e, _, h⟩ => by
    subst e
    exact ea_sr_drop n h
theorem ea_sr_rev : ∀ {a c : List Value}, ea_sr xs a c → ea_sr xs a.reverse c.reverse
  | [], _, h => by
    rw [show _ = [] from h]
    exact rfl
  | _ :: _, _, ⟨x, r, e, hv, h⟩ => by
    subst e
    rw [List.reverse_cons, List.reverse_cons]
    exact ea_sr_app (ea_sr_rev h) ⟨x, [], rfl, hv, rfl⟩
theorem ea_sr_get : ∀ {a c : List Value} {k : Nat} {v : Value}, ea_sr xs a c → a[k]? = some v → ∃ w, c[k]? = some w ∧ ea_vr xs v w
  | [], _, _, _, _, h => by cases h
  | _ :: _, _, 0, _, ⟨x, r, e, hv, _⟩, hk => by
    subst e
    cases hk
    exact ⟨x, rfl, hv⟩
  | _ :: _, _, k + 1, _, ⟨x, r, e, _, h⟩, hk => by
    subst e
    exact ea_sr_get (k := k) h hk
theorem ea_sr_set : ∀ {a c : List Value} (k : Nat) {v w : Value}, ea_sr xs a c → ea_vr xs v w → ea_sr xs (a.set k v) (c.set k w)
  | [], _, _, _, _, h, _ => by
    rw [show _ = [] from h]
    exact rfl
  | _ :: _, _, 0, _, w, ⟨x, r, e, _, h⟩, hv => by
    subst e
    exact ⟨w, r, rfl, hv, h⟩
  | _ :: _, _, k + 1, _, _, ⟨x, r, e, hx, h⟩, hv => by
    subst e
    exact ⟨x, _, rfl, hx, ea_sr_set k h hv⟩
theorem ea_lr_len : ∀ {a c : eg_Ls}, ea_lr xs a c → c.length = a.length
  | [], _, h => by rw [show _ = [] from h]
  | _ :: _, _, ⟨_, _, e, _, h⟩ => by rw [e, List.length_cons, List.length_cons, ea_lr_len h]
theorem ea_lr_ld : ∀ {a c : eg_Ls} {i : Nat} {v : Value}, ea_lr xs a c → eg_ld a i = some v → ∃ w, eg_ld c i = some w ∧ ea_vr xs v w
  | [], _, _, _, _, h => by cases h
  | o :: _, _, 0, v, ⟨x, r, e, hv, _⟩, hk => by
    subst e
    have ho : o = some v := hk
    subst ho
    obtain ⟨w, rfl, hw⟩ := hv
    exact ⟨w, rfl, hw⟩
  | _ :: t, _, k + 1, _, ⟨x, r, e, _, h⟩, hk => by
    subst e
    exact ea_lr_ld (a := t) (c := r) (i := k) h hk
theorem ea_or_nl {a b : Option Value} (h : ea_or xs a b) : ea_or xs (eg_nl a) (eg_nl b) := by
  cases a with
  | none =>
    have h1 : b = none := h
    rw [h1]
    exact rfl
  | some v =>
    obtain ⟨w, rfl, hw⟩ := h
    cases v
    case float k =>
      obtain ⟨x, rfl, hx⟩ := hw
      exact ⟨.int x, rfl, x, rfl, hx⟩
    all_goals
      have h1 : w = _ := hw
      rw [h1]
      first | exact rfl | exact ⟨_, rfl, rfl⟩
theorem ea_lr_s1 : ∀ {a c : eg_Ls} (i : Nat) {v w : Value}, ea_lr xs a c → ea_vr xs v w → ea_lr xs (eg_s1 a i v) (eg_s1 c i w)
  | [], _, _, _, _, h, _ => by
    rw [show _ = [] from h]
    exact rfl
  | _ :: _, _, 0, _, w, ⟨x, r, e, _, h⟩, hv => by
    subst e
    exact ⟨some w, r, rfl, ⟨w, rfl, hv⟩, h⟩
  | _ :: _, _, 1, _, _, ⟨x, r, e, hx, h⟩, hv => by
    subst e
    exact ⟨_, _, rfl, ea_or_nl hx, ea_lr_s1 0 h hv⟩
  | _ :: _, _, i + 2, _, _, ⟨x, r, e, hx, h⟩, hv => by
    subst e
    exact ⟨x, _, rfl, hx, ea_lr_s1 (i + 1) h hv⟩
theorem ea_lr_s2 : ∀ {a c : eg_Ls} (i : Nat) {v w : Value}, ea_lr xs a c → ea_vr xs v w → ea_lr xs (eg_s2 a i v) (eg_s2 c i w)
  | [], _, _, _, _, h, _ => by
    rw [show _ = [] from h]
    exact rfl
  | [_], _, 0, _, _, ⟨x, r, e, hx, h⟩, hv => by
    subst e
    have h1 : r = [] := h
    subst h1
    exact ⟨x, [], rfl, hx, rfl⟩
  | [_], _, 1, _, _, ⟨x, r, e, hx, h⟩, hv => by
    subst e
    have h1 : r = [] := h
    subst h1
    exact ⟨x, [], rfl, hx, rfl⟩
  | [_], _, i + 2, _, _, ⟨x, r, e, hx, h⟩, hv => by
    subst e
    have h1 : r = [] := h
    subst h1
    exact ⟨x, [], rfl, hx, rfl⟩
  | _ :: _ :: _, _, 0, _, w, ⟨x, r, e, _, y, q, e2, _, h⟩, hv => by
    subst e
    subst e2
    exact ⟨some w, none :: q, rfl, ⟨w, rfl, hv⟩, none, q, rfl, rfl, h⟩
  | _ :: b :: t, _, 1, _, _, ⟨x, r, e, hx, h⟩, hv => by
    subst e
    have h0 := h
    obtain ⟨y, q, rfl, -, -⟩ := h0
    exact ⟨_, _, rfl, ea_or_nl hx, ea_lr_s2 (a := b :: t) 0 h hv⟩
  | _ :: b :: t, _, i + 2, _, _, ⟨x, r, e, hx, h⟩, hv => by
    subst e
    have h0 := h
    obtain ⟨y, q, rfl, -, -⟩ := h0
    exact ⟨x, _, rfl, hx, ea_lr_s2 (a := b :: t) (i + 1) h hv⟩
theorem ea_lr_set0 : ∀ {a c : eg_Ls} (i : Nat), ea_lr xs a c → ea_lr xs (a.set i none) (c.set i none)
  | [], _, _, h => by
    rw [show _ = [] from h]
    exact rfl
  | _ :: _, _, 0, ⟨x, r, e, _, h⟩ => by
    subst e
    exact ⟨none, r, rfl, rfl, h⟩
  | _ :: _, _, i + 1, ⟨x, r, e, hx, h⟩ => by
    subst e
    exact ⟨x, _, rfl, hx, ea_lr_set0 i h⟩
theorem ea_lr_sn {a c : eg_Ls} (i : Nat) (h : ea_lr xs a c) : ea_lr xs (eg_sn a i) (eg_sn c i) := ea_lr_set0 i (ea_lr_s1 i h rfl)
theorem ea_lr_app : ∀ {a b c d : eg_Ls}, ea_lr xs a c → ea_lr xs b d → ea_lr xs (a ++ b) (c ++ d)
  | [], _, _, _, h, k => by
    rw [show _ = [] from h]
    exact k
  | _ :: _, _, _, _, ⟨x, r, e, hv, h⟩, k => by
    subst e
    exact ⟨x, r ++ _, rfl, hv, ea_lr_app h k⟩
theorem ea_lr_rep : ∀ n : Nat, ea_lr xs (List.replicate n none) (List.replicate n none)
  | 0 => rfl
  | n + 1 => ⟨none, List.replicate n none, rfl, rfl, ea_lr_rep n⟩
theorem ea_lr_en0 : ∀ {a c : List Value}, ea_sr xs a c → ea_lr xs (eg_en0 a) (eg_en0 c)
  | [], _, h => by
    rw [show _ = [] from h]
    exact rfl
  | v :: _, _, ⟨x, r, e, hv, h⟩ => by
    subst e
    unfold eg_en0
    rw [ea_vr_cat hv]
    split
    · exact ⟨some x, _, rfl, ⟨x, rfl, hv⟩, none, _, rfl, rfl, ea_lr_en0 h⟩
    · exact ⟨some x, _, rfl, ⟨x, rfl, hv⟩, ea_lr_en0 h⟩
theorem ea_lr_en {a c : List Value} (n : Nat) (h : ea_sr xs a c) : ea_lr xs (eg_en n a) (eg_en n c) := by
  unfold eg_en
  rw [ea_lr_len (ea_lr_en0 h)]
  exact ea_lr_app (ea_lr_en0 h) (ea_lr_rep _)
theorem ea_cr_arr (t : Nat) (x : vp_A) : ea_cr xs (.inl (t, x)) (.inl (t, x)) := by
  obtain ⟨n, f | q⟩ := x
  · exact ⟨f, rfl, fun i => .inr rfl⟩
  · exact rfl
theorem ea_cr_obj {ci : Nat} {fs : List Value} (h : fs.all ea_nf = true) : ea_cr xs (.inr (ci, fs)) (.inr (ci, fs)) := ⟨fs, rfl, ea_sr_nf h⟩
theorem ea_con (i : Nat) : ea_cr xs (eg_con i) (eg_con i) := by
  unfold eg_con
  split
  · exact ea_cr_obj rfl
  · split
    · exact ea_cr_obj rfl
    · split
      · exact ea_cr_arr _ _
      · split
        · exact ea_cr_arr _ _
        · split
          · exact ea_cr_arr _ _
          · exact ea_cr_obj rfl
theorem ea_at {G H : eg_G} (h : ea_gr xs G H) (i : Nat) : ea_cr xs (eg_at G i) (eg_at H i) := by
  unfold eg_at
  split
  · exact ea_con i
  · exact h.2 i
theorem ea_u {G H : eg_G} (h : ea_gr xs G H) (a : Nat) {c d : eg_C} (hc : ea_cr xs c d) : ea_gr xs (eg_u G a c) (eg_u H a d) := by
  refine ⟨h.1, fun i => ?_⟩
  show ea_cr xs (if i = a then c else G.1 i) (if i = a then d else H.1 i)
  split
  · exact hc
  · exact h.2 i
theorem ea_p {G H : eg_G} (h : ea_gr xs G H) {c d : eg_C} (hc : ea_cr xs c d) : ea_gr xs (eg_p G c) (eg_p H d) := by
  refine ⟨by show H.2 + 1 = G.2 + 1; rw [h.1], fun i => ?_⟩
  show ea_cr xs (if i = G.2 then c else G.1 i) (if i = H.2 then d else H.1 i)
  rw [h.1]
  split
  · exact hc
  · exact h.2 i
theorem ea_mg {G H : eg_G} (h : ea_gr xs G H) (N K : Nat) : ea_gr xs (eg_mg G N K) (eg_mg H N K) := by
  unfold eg_mg
  rw [h.1]
  refine ⟨rfl, fun i => ?_⟩
  show ea_cr xs (if i < G.2 then G.1 i else _) (if i < G.2 then H.1 i else _)
  split
  · exact h.2 i
  · split
    · exact ea_cr_arr _ _
    · split
      · exact ea_cr_arr _ _
      · exact h.2 i
theorem ea_is {G H : eg_G} (h : ea_gr xs G H) {b k : Nat} (hb : eg_is (eg_at G b) k = true) : eg_is (eg_at H b) k = true := by
  have h1 := ea_at h b
  generalize eg_at G b = c at h1 hb
  obtain ⟨t, x⟩ | ⟨ci, fs⟩ := c
  · cases hb
  · obtain ⟨gs, e, -⟩ := h1
    rw [e]
    exact hb
end EA
/-- what an array answers may be any int -/
def ea_fx (ins : Instr) (st : List Value) : List Value := match ins with
  | .iaload | .baload | .caload => (match st with
    | .int x :: r => if x = ea_S then .float 99 :: r else .int x :: r
    | _ => st)
  | _ => st
def ea_Q (xs : Nat → Int32) (x : Option eg_S) (ins : Instr) (pc : Nat) (L : eg_Ls) (st : List Value) (G : eg_G) (ck sk : Nat) : Prop := ∃ L2 st2 G2, x = some (pc, L2, st2, G2, ck, sk) ∧ ea_lr xs L L2 ∧ ea_sr xs (ea_fx ins st) st2 ∧ ea_gr xs G G2
