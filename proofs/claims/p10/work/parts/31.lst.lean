/-- not a token -/
def et_nf (v : Value) : Bool := match v with
  | .float _ => false
  | .double _ => false
  | .retAddr _ => false
  | _ => true
section ETB
variable {R : List Value}
theorem et_vr_nf {v : Value} (h : et_nf v = true) : et_vr R v v := by
  cases v <;> first | rfl | cases h
theorem et_vr_eq {v w : Value} (h : et_nf v = true) (r : et_vr R v w) : w = v := by
  cases v <;> first | exact r | cases h
theorem et_vr_cat {v w : Value} (r : et_vr R v w) : w.category = v.category := by
  cases v
  case float k =>
    obtain ⟨x, rfl, -⟩ := r
    rfl
  case double k =>
    obtain ⟨x, rfl, -⟩ := r
    rfl
  case retAddr k =>
    obtain ⟨rfl | ⟨a, rfl⟩, -⟩ := r
    · rfl
    · rfl
  all_goals
    have h : w = _ := r
    rw [h]
theorem et_sr_nf : ∀ {l : List Value}, l.all et_nf = true → et_sr R l l
  | [], _ => rfl
  | v :: t, h => by
    rw [List.all_cons, Bool.and_eq_true] at h
    exact ⟨v, t, rfl, et_vr_nf h.1, et_sr_nf h.2⟩
theorem et_sr_len : ∀ {a c : List Value}, et_sr R a c → c.length = a.length
  | [], _, h => by rw [show _ = [] from h]
  | _ :: _, _, ⟨_, _, e, _, h⟩ => by rw [e, List.length_cons, List.length_cons, et_sr_len h]
theorem et_sr_cat : ∀ {a c : List Value}, et_sr R a c → eg_cat c = eg_cat a
  | [], _, h => by rw [show _ = [] from h]
  | _ :: _, _, ⟨_, _, e, hv, h⟩ => by
    have h1 := et_sr_cat h
    unfold eg_cat at h1 ⊢
    rw [e, List.map_cons, List.map_cons, List.sum_cons, List.sum_cons, h1, et_vr_cat hv]
theorem et_sr_app : ∀ {a b c d : List Value}, et_sr R a c → et_sr R b d → et_sr R (a ++ b) (c ++ d)
  | [], _, _, _, h, k => by
    rw [show _ = [] from h]
    exact k
  | _ :: _, _, _, _, ⟨x, r, e, hv, h⟩, k => by
    subst e
    exact ⟨x, r ++ _, rfl, hv, et_sr_app h k⟩
theorem et_sr_take : ∀ {a c : List Value} (n : Nat), et_sr R a c → et_sr R (a.take n) (c.take n)
  | [], _, n, h => by
    rw [show _ = [] from h, List.take_nil]
    exact rfl
  | _ :: _, _, 0, _ => rfl
  | _ :: _, _, n + 1, ⟨x, r, e, hv, h⟩ => by
    subst e
    exact ⟨x, r.take n, rfl, hv, et_sr_take n h⟩
theorem et_sr_drop : ∀ {a c : List Value} (n : Nat), et_sr R a c → et_sr R (a.drop n) (c.drop n)
  | [], _, n, h => by
    rw [show _ = [] from h, List.drop_nil]
    exact rfl
  | _ :: _, _, 0, h => h
  | _ :: _, _, n + 1, ⟨x, r, e, _, h⟩ => by
    subst e
    exact et_sr_drop n h
theorem et_sr_rev : ∀ {a c : List Value}, et_sr R a c → et_sr R a.reverse c.reverse
  | [], _, h => by
    rw [show _ = [] from h]
    exact rfl
  | _ :: _, _, ⟨x, r, e, hv, h⟩ => by
    subst e
    rw [List.reverse_cons, List.reverse_cons]
    exact et_sr_app (et_sr_rev h) ⟨x, [], rfl, hv, rfl⟩
theorem et_sr_get : ∀ {a c : List Value} {k : Nat} {v : Value}, et_sr R a c → a[k]? = some v → ∃ w, c[k]? = some w ∧ et_vr R v w
  | [], _, _, _, _, h => by cases h
  | _ :: _, _, 0, _, ⟨x, r, e, hv, _⟩, hk => by
    subst e
    cases hk
    exact ⟨x, rfl, hv⟩
  | _ :: _, _, k + 1, _, ⟨x, r, e, _, h⟩, hk => by
    subst e
    exact et_sr_get (k := k) h hk
theorem et_sr_set : ∀ {a c : List Value} (k : Nat) {v w : Value}, et_sr R a c → et_vr R v w → et_sr R (a.set k v) (c.set k w)
  | [], _, _, _, _, h, _ => by
    rw [show _ = [] from h]
    exact rfl
  | _ :: _, _, 0, _, w, ⟨x, r, e, _, h⟩, hv => by
    subst e
    exact ⟨w, r, rfl, hv, h⟩
  | _ :: _, _, k + 1, _, _, ⟨x, r, e, hx, h⟩, hv => by
    subst e
    exact ⟨x, _, rfl, hx, et_sr_set k h hv⟩
theorem et_lr_len : ∀ {a c : eg_Ls}, et_lr R a c → c.length = a.length
  | [], _, h => by rw [show _ = [] from h]
  | _ :: _, _, ⟨_, _, e, _, h⟩ => by rw [e, List.length_cons, List.length_cons, et_lr_len h]
theorem et_lr_ld : ∀ {a c : eg_Ls} {i : Nat} {v : Value}, et_lr R a c → eg_ld a i = some v → ∃ w, eg_ld c i = some w ∧ et_vr R v w
  | [], _, _, _, _, h => by cases h
  | o :: _, _, 0, v, ⟨x, r, e, hv, _⟩, hk => by
    subst e
    have ho : o = some v := hk
    subst ho
    obtain ⟨w, rfl, hw⟩ := hv
    exact ⟨w, rfl, hw⟩
  | _ :: t, _, k + 1, _, ⟨x, r, e, _, h⟩, hk => by
    subst e
    exact et_lr_ld (a := t) (c := r) (i := k) h hk
theorem et_or_nl {a b : Option Value} (h : et_or R a b) : et_or R (eg_nl a) (eg_nl b) := by
  cases a with
  | none => exact trivial
  | some v =>
    obtain ⟨w, rfl, hw⟩ := h
    cases v
    case float k =>
      obtain ⟨x, rfl, hx⟩ := hw
      exact ⟨.int x, rfl, x, rfl, hx⟩
    case double k =>
      exact trivial
    case retAddr k =>
      obtain ⟨rfl | ⟨a, rfl⟩, hx⟩ := hw
      · exact ⟨_, rfl, .inl rfl, hx⟩
      · exact ⟨_, rfl, .inr ⟨a, rfl⟩, hx⟩
    all_goals
      have h1 : w = _ := hw
      rw [h1]
      first | exact trivial | exact ⟨_, rfl, rfl⟩
theorem et_lr_s1 : ∀ {a c : eg_Ls} (i : Nat) {v w : Value}, et_lr R a c → et_vr R v w → et_lr R (eg_s1 a i v) (eg_s1 c i w)
  | [], _, _, _, _, h, _ => by
    rw [show _ = [] from h]
    exact rfl
  | _ :: _, _, 0, _, w, ⟨x, r, e, _, h⟩, hv => by
    subst e
    exact ⟨some w, r, rfl, ⟨w, rfl, hv⟩, h⟩
  | _ :: _, _, 1, _, _, ⟨x, r, e, hx, h⟩, hv => by
    subst e
    exact ⟨_, _, rfl, et_or_nl hx, et_lr_s1 0 h hv⟩
  | _ :: _, _, i + 2, _, _, ⟨x, r, e, hx, h⟩, hv => by
    subst e
    exact ⟨x, _, rfl, hx, et_lr_s1 (i + 1) h hv⟩
theorem et_lr_s2 : ∀ {a c : eg_Ls} (i : Nat) {v w : Value}, et_lr R a c → et_vr R v w → et_lr R (eg_s2 a i v) (eg_s2 c i w)
  | [], _, _, _, _, h, _ => by
    rw [show _ = [] from h]
    exact rfl
  | [_], _, 0, _, _, ⟨x, r, e, hx, h⟩, hv => by
    subst e
    have h1 : r = [] := h
    subst h1
    exact ⟨x, [], rfl, hx, rfl⟩
  | [_], _, 1, _, _, ⟨x, r, e, hx, h⟩, hv => by
    subst e
    have h1 : r = [] := h
    subst h1
    exact ⟨x, [], rfl, hx, rfl⟩
  | [_], _, i + 2, _, _, ⟨x, r, e, hx, h⟩, hv => by
    subst e
    have h1 : r = [] := h
    subst h1
    exact ⟨x, [], rfl, hx, rfl⟩
  | _ :: _ :: _, _, 0, _, w, ⟨x, r, e, _, y, q, e2, _, h⟩, hv => by
    subst e
    subst e2
    exact ⟨some w, none :: q, rfl, ⟨w, rfl, hv⟩, none, q, rfl, trivial, h⟩
  | _ :: b :: t, _, 1, _, _, ⟨x, r, e, hx, h⟩, hv => by
    subst e
    have h0 := h
    obtain ⟨y, q, rfl, -, -⟩ := h0
    exact ⟨_, _, rfl, et_or_nl hx, et_lr_s2 (a := b :: t) 0 h hv⟩
  | _ :: b :: t, _, i + 2, _, _, ⟨x, r, e, hx, h⟩, hv => by
    subst e
    have h0 := h
    obtain ⟨y, q, rfl, -, -⟩ := h0
    exact ⟨x, _, rfl, hx, et_lr_s2 (a := b :: t) (i + 1) h hv⟩
theorem et_lr_set0 : ∀ {a c : eg_Ls} (i : Nat), et_lr R a c → et_lr R (a.set i none) (c.set i none)
  | [], _, _, h => by
    rw [show _ = [] from h]
    exact rfl
  | _ :: _, _, 0, ⟨x, r, e, _, h⟩ => by
    subst e
    exact ⟨none, r, rfl, trivial, h⟩
  | _ :: _, _, i + 1, ⟨x, r, e, hx, h⟩ => by
    subst e
    exact ⟨x, _, rfl, hx, et_lr_set0 i h⟩
theorem et_lr_sn {a c : eg_Ls} (i : Nat) (h : et_lr R a c) : et_lr R (eg_sn a i) (eg_sn c i) := et_lr_set0 i (et_lr_s1 i h rfl)
theorem et_lr_app : ∀ {a b c d : eg_Ls}, et_lr R a c → et_lr R b d → et_lr R (a ++ b) (c ++ d)
  | [], _, _, _, h, k => by
    rw [show _ = [] from h]
    exact k
  | _ :: _, _, _, _, ⟨x, r, e, hv, h⟩, k => by
    subst e
    exact ⟨x, r ++ _, rfl, hv, et_lr_app h k⟩
theorem et_lr_rep : ∀ n : Nat, et_lr R (List.replicate n none) (List.replicate n none)
  | 0 => rfl
  | n + 1 => ⟨none, List.replicate n none, rfl, trivial, et_lr_rep n⟩
theorem et_lr_en0 : ∀ {a c : List Value}, et_sr R a c → et_lr R (eg_en0 a) (eg_en0 c)
  | [], _, h => by
    rw [show _ = [] from h]
    exact rfl
  | v :: _, _, ⟨x, r, e, hv, h⟩ => by
    subst e
    unfold eg_en0
    rw [et_vr_cat hv]
    split
    · exact ⟨some x, _, rfl, ⟨x, rfl, hv⟩, none, _, rfl, trivial, et_lr_en0 h⟩
    · exact ⟨some x, _, rfl, ⟨x, rfl, hv⟩, et_lr_en0 h⟩
theorem et_lr_en {a c : List Value} (n : Nat) (h : et_sr R a c) : et_lr R (eg_en n a) (eg_en n c) := by
  unfold eg_en
  rw [et_lr_len (et_lr_en0 h)]
  exact et_lr_app (et_lr_en0 h) (et_lr_rep _)
end ETB
