/-! THE ABSTRACT MACHINE AND THE MACHINE -/
def eg_v (ad : Nat → Nat) (v : Value) : Value := match v with
  | .ref i => .ref (ad i)
  | w => w
def eg_r (ad : Nat → Nat) (x : vp_A) : vp_A := (x.1, match x.2 with
  | .inr (.inr (.inr (.inr f))) => .inr (.inr (.inr (.inr (fun j => (f j).map ad))))
  | z => z)
def eg_e (ad : Nat → Nat) (dA : Nat → ClassId) (c : eg_C) : va_E := match c with
  | .inl (t, x) => .inl (dA t, eg_r ad x)
  | .inr (ci, fs) => .inr (ci, fs.map (eg_v ad))
def eg_ws (ad : Nat → Nat) (dA : Nat → ClassId) (G : eg_G) : va_W := (List.range (G.2 - eg_NC)).map (fun k => (ad (eg_NC + k), eg_e ad dA (G.1 (eg_NC + k))))
def eg_tt (t : Nat) : FieldType := eg_ty.getD t .int
def eg_tys (dA : Nat → ClassId) : List (ClassId × FieldType) := (List.range 12).map (fun t => (dA t, eg_tt t))
def eg_okv (n : Nat) (v : Value) : Prop := ∀ i, v = .ref i → i < n
def eg_okx (n : Nat) (x : vp_A) : Prop := ∀ f, x.2 = .inr (.inr (.inr (.inr f))) → ∀ j r, f j = some r → r < n
def eg_okc (n : Nat) (c : eg_C) : Prop := match c with
  | .inl (_, x) => eg_okx n x
  | .inr (_, fs) => ∀ v ∈ fs, eg_okv n v
def eg_ok (G : eg_G) : Prop := eg_NC ≤ G.2 ∧ ∀ i, eg_NC ≤ i → i < G.2 → eg_okc G.2 (G.1 i)
abbrev eg_A (b0 : Nat) : Nat → Prop := fun q => b0 ≤ q
def eg_Rel (s : State) (b0 : Nat) (D : va_G) (dA : Nat → ClassId) (adc : Nat → Nat) (n0 : Nat) (ad0 ad : Nat → Nat) (G : eg_G) (H : Heap) (locs : List Loc) : Prop :=
  va_P D eg_cl (eg_ws ad dA G) H ∧ va_D (eg_A b0) (eg_ws ad dA G) ∧ va_S (eg_A b0) s.heap H locs ∧ eg_ok G ∧ (∀ i, i < eg_NC → ad i = adc i) ∧ n0 ≤ G.2 ∧ ∀ i, i < n0 → ad i = ad0 i
def eg_lq (ad : Nat → Nat) : Nat → eg_Ls → List (Nat × Value)
  | _, [] => []
  | i, none :: t => eg_lq ad (i + 1) t
  | i, some v :: t => (i, eg_v ad v) :: eg_lq ad (i + 1) t
def eg_LR (ad : Nat → Nat) (n : Nat) (ls : Array Slot) (L : eg_Ls) : Prop := lv_has ls L.length (eg_lq ad 0 L) ∧ ∀ v, some v ∈ L → eg_okv n v
-- words
def eg_fw (o : Nat) (e : Nat × Nat × Nat × Option String) : Cond := match e.2.2.2 with
  | none => .fieldLink (eg_on o) e.1 (eg_fd e.2.1 e.2.2.1).1 (eg_fd e.2.1 e.2.2.1).2.1 (eg_fd e.2.1 e.2.2.1).2.2.1
  | some h => .fieldLinkNest (eg_on o) e.1 (eg_fd e.2.1 e.2.2.1).1 (eg_fd e.2.1 e.2.2.1).2.1 (eg_fd e.2.1 e.2.2.1).2.2.1 h
def eg_sw1 (o : Nat) (e : Nat × Nat × Option String) : List Cond := match eg_sv[e.2.1]?, e.2.2 with
  | some (C, n, d, _), none => [.fieldLink (eg_on o) e.1 C n d]
  | some (C, n, d, _), some h => [.fieldLinkNest (eg_on o) e.1 C n d h]
  | none, _ => []
def eg_kw (o : Nat) (e : Nat × Value) : List Cond := match e.2 with
  | .int v => [.constant (eg_on o) e.1 v]
  | .long v => [.constantLong (eg_on o) e.1 v]
  | _ => []
def eg_cw (o : Nat) (e : Nat × Nat) : Cond := .classLink (eg_on o) e.1 (eg_cn e.2)
def eg_mw (o : Nat) (e : Nat × Nat × Nat × Option String) : List Cond :=
  let y := (eg_me e.2.1).1.1
  let hh := e.2.2.2.getD ""
  match e.2.2.1 with
  | 0 => [.methodLink (eg_on o) e.1 y, .static y, .initialized y.cls]
  | 1 => [.methodLink (eg_on o) e.1 y, .instanceMethod y, .selects y.cls y y, .initialized y.cls]
  | 2 => [.methodLink (eg_on o) e.1 y, .instanceMethod y, .initialized y.cls]
  | 3 => [.methodLinkNest (eg_on o) e.1 y hh, .static y, .initialized y.cls]
  | 4 => [.methodLinkNest (eg_on o) e.1 y hh, .instanceMethod y, .selects y.cls y y, .initialized y.cls]
  | 5 => [.methodLinkNest (eg_on o) e.1 y hh, .instanceMethod y, .initialized y.cls]
  | 6 => [.methodLink (eg_on o) e.1 objectInit, .instanceMethod objectInit, .code objectInit ⟨#[0xb1]⟩ 1 none]
  | _ => [.methodLink (eg_on o) e.1 ⟨"KnobEye$Word", "ordinal", "()I"⟩, .sameMethod "KnobEye$Word" "java/lang/Enum" "ordinal" "()I", .selects "KnobEye$Word" ⟨"KnobEye$Word", "ordinal", "()I"⟩ y, .instanceMethod y, .initialized y.cls]
def eg_yw (q : eg_MI × List (Nat × Instr × Nat)) : Cond := match q.1.2.2.2.2.1 with
  | none => .code q.1.1 q.1.2.1 q.1.2.2.1 q.1.2.2.2.1
  | some hh => .codeWith q.1.1 q.1.2.1 q.1.2.2.1 q.1.2.2.2.1 hh
def eg_no : Nat := eg_own.length
def eg_W1 : List Cond := (List.range eg_no).flatMap (fun o => (eg_fT.getD o []).map (eg_fw o))
def eg_W2 : List Cond := (List.range eg_no).flatMap (fun o => (eg_sT.getD o []).flatMap (eg_sw1 o))
def eg_W3 : List Cond := (List.range eg_no).flatMap (fun o => (eg_kT.getD o []).flatMap (eg_kw o))
def eg_W4 : List Cond := (List.range eg_no).flatMap (fun o => (eg_cT.getD o []).map (eg_cw o))
def eg_W5 : List Cond := (List.range eg_no).flatMap (fun o => (eg_mT.getD o []).flatMap (eg_mw o))
def eg_W6 : List Cond := eg_MM.flatMap (fun l => l.map eg_yw)
def eg_W7 : List Cond := eg_cl.flatMap (fun q => u_ws q.1 q.2.1 q.2.2)
def eg_W8 : List Cond := eg_cl.flatMap (fun q => [.instantiable q.1 q.2.2, .initialized q.1])
def eg_W9 : List Cond := [.arrayClass .int, .arrayClass .byte, .arrayClass .long, .arrayClass .boolean, .arrayClass .char]
def eg_W : List Cond := eg_W1 ++ (eg_W2 ++ (eg_W3 ++ (eg_W4 ++ (eg_W5 ++ (eg_W6 ++ (eg_W7 ++ (eg_W8 ++ eg_W9)))))))
-- the constants
def eg_K (s : State) (b0 : Nat) (adc : Nat → Nat) : Prop :=
  (∀ (C n d : String) (v : Value), (C, n, d, v) ∈ eg_sv → va_Z C n d (eg_v adc v) (eg_A b0) s s.heap ∨ (v = .ref 151 ∧ va_Z C n d .null (eg_A b0) s s.heap)) ∧
  (∀ (i ci : Nat) (fs : List Value), i < eg_NC → eg_con i = .inr (ci, fs) → ∀ (k : Nat) (v : Value), fs[k]? = some v → va_OF (eg_fd ci k).1 (eg_fd ci k).2.1 (eg_fd ci k).2.2.1 (eg_v adc v) (adc i) (eg_A b0) s s.heap) ∧
  (∀ (i t : Nat) (x : vp_A), i < eg_NC → eg_con i = .inl (t, x) → va_T (eg_tt t) (adc i) x.1 (fun j => eg_v adc ((eg_rd t x j).getD .null)) (eg_A b0) s s.heap) ∧
  (∀ i j : Nat, i < 36 → j < 36 → adc i = adc j → i = j) ∧ (∀ i : Nat, i < 36 → adc i < b0) ∧
  (∀ i : Nat, i < 36 → va_O "KnobEye$Word" (adc i) (eg_A b0) s s.heap) ∧ (∀ i : Nat, i < eg_NS → va_O "java/lang/String" (adc (36 + i)) (eg_A b0) s s.heap) ∧
  (∀ (o idx j : Nat), (idx, Value.ref (36 + j)) ∈ eg_kT.getD o [] → ∃ tx : String, vk_R (eg_on o) idx tx (adc (36 + j)) s)
def eg_X (p : Program) (s : State) (m : MethodId) (args : Array Value) (meth : Method) (c : Code) (R : Room) (b0 : Nat) (D : va_G) (dA : Nat → ClassId) (adc : Nat → Nat) (o : Nat) (ini : Bool) (mc ms : Nat) (cc : ByteArray) : Prop :=
  p.tables.exec = Jvm.exec ∧ c.code = cc ∧ s.vm.findClass (eg_on o) = some m.cls ∧ (∀ w ∈ eg_W, w.before args s = true) ∧ va_K D eg_cl (eg_tys dA) s ∧ eg_K s b0 adc ∧
  (∀ ci : Nat, eg_ek ci < 11 → va_AO (eg_cn ci) s) ∧ va_AOA .int s ∧ R.cells = mc ∧ R.slots = ms ∧ (ini = true → meth.name = "<init>") ∧ b0 ≤ s.heap.size
section EGJ
variable {p : Program} {l : Launch} {e : Env} {R : Room} {s : State} {m : MethodId} {args : Array Value} {below : List Frame} {meth : Method} {c : Code} {Q : State → Prop} {b0 : Nat} {D : va_G} {dA : Nat → ClassId} {adc : Nat → Nat} {n0 : Nat} {ad0 : Nat → Nat} {o : Nat} {ini : Bool} {mc ms : Nat} {cc : ByteArray}
def eg_J (p : Program) (l : Launch) (e : Env) (R : Room) (s : State) (m : MethodId) (args : Array Value) (below : List Frame) (meth : Method) (c : Code) (Q : State → Prop) (b0 : Nat) (D : va_G) (dA : Nat → ClassId) (adc : Nat → Nat) (n0 : Nat) (ad0 : Nat → Nat) (pc : Nat) (L : eg_Ls) (st : List Value) (G : eg_G) (ck sk : Nat) : Prop :=
  ∀ (ad : Nat → Nat) (H : Heap) (locs : List Loc) (ls : Array Slot), eg_Rel s b0 D dA adc n0 ad0 ad G H locs → eg_LR ad G.2 ls L → (∀ v ∈ st, eg_okv G.2 v) → W p l e R s m args below meth c H locs ck sk Q (F0 m pc ls (st.map (eg_v ad)))
variable {pc pc' len : Nat} {L L' : eg_Ls} {st st' : List Value} {G G' : eg_G} {ck sk ck' sk' : Nat} {ins : Instr}
theorem eg_oki {n : Nat} {x : Int32} : eg_okv n (.int x) := fun _ h => nomatch h
theorem eg_okl {n : Nat} {x : Int64} : eg_okv n (.long x) := fun _ h => nomatch h
theorem eg_okn {n : Nat} : eg_okv n .null := fun _ h => nomatch h
theorem eg_okr {n i : Nat} (h : i < n) : eg_okv n (.ref i) := fun _ q => by cases q; exact h
theorem eg_vcat (ad : Nat → Nat) (v : Value) : (eg_v ad v).category = v.category := by cases v <;> rfl
theorem sj_ii {f : Int32 → Int32 → Int32} (row : ∀ {H : Heap} {locs : List Loc} {ck sk : Nat} {ls : Array Slot} {rest : List Value} {x y : Int32}, W p l e R s m args below meth c H locs ck sk Q (F0 m (pc + 1) ls (.int (f x y) :: rest)) → W p l e R s m args below meth c H locs ck sk Q (F0 m pc ls (.int y :: .int x :: rest)))
    (h : eg_ii pc L st G ck sk f = some (pc', L', st', G', ck', sk')) (k : eg_J p l e R s m args below meth c Q b0 D dA adc n0 ad0 pc' L' st' G' ck' sk') : eg_J p l e R s m args below meth c Q b0 D dA adc n0 ad0 pc L st G ck sk := by
  unfold eg_ii at h
  split at h
  · cases h
    intro ad H locs ls hR hL hS
    obtain ⟨-, h2⟩ := List.forall_mem_cons.mp hS
    obtain ⟨-, h2⟩ := List.forall_mem_cons.mp h2
    exact row (k ad H locs ls hR hL (List.forall_mem_cons.mpr ⟨eg_oki, h2⟩))
  · cases h
theorem sj_l2 {f : Int64 → Int64 → Int64} (row : ∀ {H : Heap} {locs : List Loc} {ck sk : Nat} {ls : Array Slot} {rest : List Value} {x y : Int64}, W p l e R s m args below meth c H locs ck sk Q (F0 m (pc + 1) ls (.long (f x y) :: rest)) → W p l e R s m args below meth c H locs ck sk Q (F0 m pc ls (.long y :: .long x :: rest)))
    (h : eg_l2 pc L st G ck sk f = some (pc', L', st', G', ck', sk')) (k : eg_J p l e R s m args below meth c Q b0 D dA adc n0 ad0 pc' L' st' G' ck' sk') : eg_J p l e R s m args below meth c Q b0 D dA adc n0 ad0 pc L st G ck sk := by
  unfold eg_l2 at h
  split at h
  · cases h
    intro ad H locs ls hR hL hS
    obtain ⟨-, h2⟩ := List.forall_mem_cons.mp hS
    obtain ⟨-, h2⟩ := List.forall_mem_cons.mp h2
    exact row (k ad H locs ls hR hL (List.forall_mem_cons.mpr ⟨eg_okl, h2⟩))
  · cases h
theorem sj_ls {f : Int64 → Int32 → Int64} (row : ∀ {H : Heap} {locs : List Loc} {ck sk : Nat} {ls : Array Slot} {rest : List Value} {x : Int64} {y : Int32}, W p l e R s m args below meth c H locs ck sk Q (F0 m (pc + 1) ls (.long (f x y) :: rest)) → W p l e R s m args below meth c H locs ck sk Q (F0 m pc ls (.int y :: .long x :: rest)))
    (h : eg_ls pc L st G ck sk f = some (pc', L', st', G', ck', sk')) (k : eg_J p l e R s m args below meth c Q b0 D dA adc n0 ad0 pc' L' st' G' ck' sk') : eg_J p l e R s m args below meth c Q b0 D dA adc n0 ad0 pc L st G ck sk := by
  unfold eg_ls at h
  split at h
  · cases h
    intro ad H locs ls hR hL hS
    obtain ⟨-, h2⟩ := List.forall_mem_cons.mp hS
    obtain ⟨-, h2⟩ := List.forall_mem_cons.mp h2
    exact row (k ad H locs ls hR hL (List.forall_mem_cons.mpr ⟨eg_okl, h2⟩))
  · cases h
theorem eg_lq_at (ad : Nat → Nat) : ∀ (L : eg_Ls) (i k : Nat) (v : Value), L[k]? = some (some v) → (i + k, eg_v ad v) ∈ eg_lq ad i L
  | [], _, _, _, h => by simp at h
  | none :: t, i, 0, v, h => by simp at h
  | none :: t, i, k + 1, v, h => by
    have := eg_lq_at ad t (i + 1) k v (by simpa using h)
    rw [show i + (k + 1) = i + 1 + k by omega]
    exact this
  | some w :: t, i, 0, v, h => by
    simp at h
    subst h
    exact List.mem_cons_self
  | some w :: t, i, k + 1, v, h => by
    have := eg_lq_at ad t (i + 1) k v (by simpa using h)
    rw [show i + (k + 1) = i + 1 + k by omega]
    exact List.mem_cons_of_mem _ this
theorem eg_lq_of (ad : Nat → Nat) : ∀ (L : eg_Ls) (i : Nat) (q : Nat × Value), q ∈ eg_lq ad i L → ∃ (k : Nat) (v : Value), q = (i + k, eg_v ad v) ∧ L[k]? = some (some v)
  | [], _, _, h => by simp [eg_lq] at h
  | none :: t, i, q, h => by
    obtain ⟨k, v, h1, h2⟩ := eg_lq_of ad t (i + 1) q h
    exact ⟨k + 1, v, by rw [h1]; congr 1; omega, by simpa using h2⟩
  | some w :: t, i, q, h => by
    rcases List.mem_cons.mp h with h | h
    · exact ⟨0, w, h, by simp⟩
    · obtain ⟨k, v, h1, h2⟩ := eg_lq_of ad t (i + 1) q h
      exact ⟨k + 1, v, by rw [h1]; congr 1; omega, by simpa using h2⟩
theorem eg_ld_at {L : eg_Ls} {i : Nat} {v : Value} (h : eg_ld L i = some v) : L[i]? = some (some v) := by
  unfold eg_ld at h
  cases hc : L[i]? with
  | none => rw [hc] at h; cases h
  | some x => rw [hc] at h; cases x with
    | none => cases h
    | some w => cases h; rfl
theorem eg_LR_at {ad : Nat → Nat} {n : Nat} {ls : Array Slot} {L : eg_Ls} {i : Nat} {v : Value} (h : eg_LR ad n ls L) (hv : eg_ld L i = some v) : ls[i]? = some (.val (eg_v ad v)) ∧ eg_okv n v := by
  have h1 := eg_ld_at hv
  refine ⟨?_, h.2 v (List.mem_of_getElem? h1)⟩
  have h2 := eg_lq_at ad L 0 i v h1
  rw [Nat.zero_add] at h2
  exact h.1.2.2 _ h2
theorem eg_s1_len : ∀ (L : eg_Ls) (i : Nat) (v : Value), (eg_s1 L i v).length = L.length
  | [], _, _ => by simp [eg_s1]
  | _ :: t, 0, v => by simp [eg_s1]
  | x :: t, 1, v => by simp [eg_s1, eg_s1_len t 0 v]
  | x :: t, i + 2, v => by simp [eg_s1, eg_s1_len t (i + 1) v]
theorem eg_s2_len : ∀ (L : eg_Ls) (i : Nat) (v : Value), (eg_s2 L i v).length = L.length
  | [], _, _ => by simp [eg_s2]
  | [x], _, _ => by simp [eg_s2]
  | _ :: _ :: t, 0, v => by simp [eg_s2]
  | x :: y :: t, 1, v => by simp [eg_s2, eg_s2_len (y :: t) 0 v]
  | x :: y :: t, i + 2, v => by simp [eg_s2, eg_s2_len (y :: t) (i + 1) v]
theorem eg_nl_some {x : Option Value} {w : Value} (h : eg_nl x = some w) : x = some w ∧ w.category = 1 := by
  unfold eg_nl at h
  split at h
  · cases h
  · cases h
  · rename_i h1 h2
    subst h
    refine ⟨rfl, ?_⟩
    cases w <;> first | rfl | exact absurd rfl (h1 _) | exact absurd rfl (h2 _)
theorem eg_s1_at : ∀ (L : eg_Ls) (i k : Nat) (v w : Value), (eg_s1 L i v)[k]? = some (some w) → (k = i ∧ w = v) ∨ (k ≠ i ∧ L[k]? = some (some w) ∧ (k + 1 = i → w.category = 1))
  | [], _, _, _, _, h => by simp [eg_s1] at h
  | x :: t, 0, 0, v, w, h => by
    simp [eg_s1] at h
    exact Or.inl ⟨rfl, h.symm⟩
  | x :: t, 0, k + 1, v, w, h => by
    simp [eg_s1] at h
    exact Or.inr ⟨by omega, by simpa using h, by omega⟩
  | x :: t, 1, 0, v, w, h => by
    simp [eg_s1] at h
    obtain ⟨h1, h2⟩ := eg_nl_some h
    exact Or.inr ⟨by omega, by simp [h1], fun _ => h2⟩
  | x :: t, 1, k + 1, v, w, h => by
    simp only [eg_s1, List.getElem?_cons_succ] at h
    rcases eg_s1_at t 0 k v w h with ⟨h1, h2⟩ | ⟨h1, h2, -⟩
    · exact Or.inl ⟨by omega, h2⟩
    · exact Or.inr ⟨by omega, by simpa using h2, by omega⟩
  | x :: t, i + 2, 0, v, w, h => by
    simp [eg_s1] at h
    exact Or.inr ⟨by omega, by simp [h], by omega⟩
  | x :: t, i + 2, k + 1, v, w, h => by
    simp only [eg_s1, List.getElem?_cons_succ] at h
    rcases eg_s1_at t (i + 1) k v w h with ⟨h1, h2⟩ | ⟨h1, h2, h3⟩
    · exact Or.inl ⟨by omega, h2⟩
    · exact Or.inr ⟨by omega, by simpa using h2, fun q => h3 (by omega)⟩
theorem eg_s2_at : ∀ (L : eg_Ls) (i k : Nat) (v w : Value), (eg_s2 L i v)[k]? = some (some w) → i + 1 < L.length → (k = i ∧ w = v) ∨ (k ≠ i ∧ k ≠ i + 1 ∧ L[k]? = some (some w) ∧ (k + 1 = i → w.category = 1))
  | [], _, _, _, _, _, hl => by simp at hl
  | [x], i, _, _, _, _, hl => by simp at hl
  | x :: y :: t, 0, 0, v, w, h, _ => by
    simp [eg_s2] at h
    exact Or.inl ⟨rfl, h.symm⟩
  | x :: y :: t, 0, 1, v, w, h, _ => by simp [eg_s2] at h
  | x :: y :: t, 0, k + 2, v, w, h, _ => by
    simp [eg_s2] at h
    exact Or.inr ⟨by omega, by omega, by simpa using h, by omega⟩
  | x :: y :: t, 1, 0, v, w, h, _ => by
    simp [eg_s2] at h
    obtain ⟨h1, h2⟩ := eg_nl_some h
    exact Or.inr ⟨by omega, by omega, by simp [h1], fun _ => h2⟩
  | x :: y :: t, 1, k + 1, v, w, h, hl => by
    simp only [eg_s2, List.getElem?_cons_succ] at h
    rcases eg_s2_at (y :: t) 0 k v w h (by simp at hl ⊢; omega) with ⟨h1, h2⟩ | ⟨h1, h2, h3, -⟩
    · exact Or.inl ⟨by omega, h2⟩
    · exact Or.inr ⟨by omega, by omega, by simpa using h3, by omega⟩
  | x :: y :: t, i + 2, 0, v, w, h, _ => by
    simp [eg_s2] at h
    exact Or.inr ⟨by omega, by omega, by simp [h], by omega⟩
  | x :: y :: t, i + 2, k + 1, v, w, h, hl => by
    simp only [eg_s2, List.getElem?_cons_succ] at h
    rcases eg_s2_at (y :: t) (i + 1) k v w h (by simp at hl ⊢; omega) with ⟨h1, h2⟩ | ⟨h1, h2, h3, h4⟩
    · exact Or.inl ⟨by omega, h2⟩
    · exact Or.inr ⟨by omega, by omega, by simpa using h3, fun q => h4 (by omega)⟩
theorem eg_LR_s1 {ad : Nat → Nat} {n i : Nat} {ls ls' : Array Slot} {L : eg_Ls} {v : Value} (h : eg_LR ad n ls L) (hv : eg_okv n v)
    (h' : lv_has ls' L.length ((i, eg_v ad v) :: (eg_lq ad 0 L).filter (fun q => !(q.1 == i) && !(q.1 + 1 == i && q.2.category == 2)))) : eg_LR ad n ls' (eg_s1 L i v) := by
  refine ⟨⟨by rw [eg_s1_len]; exact h'.1, h'.2.1, fun q hq => h'.2.2 q ?_⟩, fun w hw => ?_⟩
  · obtain ⟨k, w, rfl, hk⟩ := eg_lq_of ad _ _ _ hq
    rw [Nat.zero_add]
    rcases eg_s1_at L i k v w hk with ⟨rfl, rfl⟩ | ⟨h1, h2, h3⟩
    · exact List.mem_cons_self
    · refine List.mem_cons_of_mem _ (List.mem_filter.mpr ⟨?_, ?_⟩)
      · have := eg_lq_at ad L 0 k w h2
        rwa [Nat.zero_add] at this
      · simp only [eg_vcat]
        by_cases hki : k + 1 = i
        · simp [h1, hki, h3 hki]
        · simp [h1, hki]
  · obtain ⟨k, hk⟩ := List.getElem?_of_mem hw
    rcases eg_s1_at L i k v w hk with ⟨-, rfl⟩ | ⟨-, h2, -⟩
    · exact hv
    · exact h.2 w (List.mem_of_getElem? h2)
theorem eg_LR_s2 {ad : Nat → Nat} {n i : Nat} {ls ls' : Array Slot} {L : eg_Ls} {v : Value} (h : eg_LR ad n ls L) (hv : eg_okv n v) (hi : i + 1 < L.length)
    (h' : lv_has ls' L.length ((i, eg_v ad v) :: (eg_lq ad 0 L).filter (fun q => !(q.1 == i) && (!(q.1 == i + 1) && !(q.1 + 1 == i && q.2.category == 2))))) : eg_LR ad n ls' (eg_s2 L i v) := by
  refine ⟨⟨by rw [eg_s2_len]; exact h'.1, h'.2.1, fun q hq => h'.2.2 q ?_⟩, fun w hw => ?_⟩
  · obtain ⟨k, w, rfl, hk⟩ := eg_lq_of ad _ _ _ hq
    rw [Nat.zero_add]
    rcases eg_s2_at L i k v w hk hi with ⟨rfl, rfl⟩ | ⟨h1, h1', h2, h3⟩
    · exact List.mem_cons_self
    · refine List.mem_cons_of_mem _ (List.mem_filter.mpr ⟨?_, ?_⟩)
      · have := eg_lq_at ad L 0 k w h2
        rwa [Nat.zero_add] at this
      · simp only [eg_vcat]
        by_cases hki : k + 1 = i
        · simp [h1, h1', hki, h3 hki]
        · simp [h1, h1', hki]
  · obtain ⟨k, hk⟩ := List.getElem?_of_mem hw
    rcases eg_s2_at L i k v w hk hi with ⟨-, rfl⟩ | ⟨-, -, h2, -⟩
    · exact hv
    · exact h.2 w (List.mem_of_getElem? h2)
theorem sj_li {i : Nat} (row : ∀ {H : Heap} {locs : List Loc} {ck sk : Nat} {ls : Array Slot} {rest : List Value} {x : Int32}, ls[i]? = some (.val (.int x)) → W p l e R s m args below meth c H locs ck sk Q (F0 m (pc + len) ls (.int x :: rest)) → W p l e R s m args below meth c H locs ck sk Q (F0 m pc ls rest))
    (h : eg_li pc L st G ck sk i len = some (pc', L', st', G', ck', sk')) (k : eg_J p l e R s m args below meth c Q b0 D dA adc n0 ad0 pc' L' st' G' ck' sk') : eg_J p l e R s m args below meth c Q b0 D dA adc n0 ad0 pc L st G ck sk := by
  unfold eg_li at h
  split at h
  · rename_i x hx
    cases h
    intro ad H locs ls hR hL hS
    exact row (eg_LR_at hL hx).1 (k ad H locs ls hR hL (List.forall_mem_cons.mpr ⟨eg_oki, hS⟩))
  · cases h
theorem sj_ll {i : Nat} (row : ∀ {H : Heap} {locs : List Loc} {ck sk : Nat} {ls : Array Slot} {rest : List Value} {x : Int64}, ls[i]? = some (.val (.long x)) → W p l e R s m args below meth c H locs ck sk Q (F0 m (pc + len) ls (.long x :: rest)) → W p l e R s m args below meth c H locs ck sk Q (F0 m pc ls rest))
    (h : eg_ll pc L st G ck sk i len = some (pc', L', st', G', ck', sk')) (k : eg_J p l e R s m args below meth c Q b0 D dA adc n0 ad0 pc' L' st' G' ck' sk') : eg_J p l e R s m args below meth c Q b0 D dA adc n0 ad0 pc L st G ck sk := by
  unfold eg_ll at h
  split at h
  · rename_i x hx
    cases h
    intro ad H locs ls hR hL hS
    exact row (eg_LR_at hL hx).1 (k ad H locs ls hR hL (List.forall_mem_cons.mpr ⟨eg_okl, hS⟩))
  · cases h
theorem sj_la {i : Nat} (row : ∀ {H : Heap} {locs : List Loc} {ck sk : Nat} {ls : Array Slot} {rest : List Value} {x : Nat}, ls[i]? = some (.val (.ref x)) → W p l e R s m args below meth c H locs ck sk Q (F0 m (pc + len) ls (.ref x :: rest)) → W p l e R s m args below meth c H locs ck sk Q (F0 m pc ls rest))
    (rowN : ∀ {H : Heap} {locs : List Loc} {ck sk : Nat} {ls : Array Slot} {rest : List Value}, ls[i]? = some (.val .null) → W p l e R s m args below meth c H locs ck sk Q (F0 m (pc + len) ls (.null :: rest)) → W p l e R s m args below meth c H locs ck sk Q (F0 m pc ls rest))
    (h : eg_la pc L st G ck sk i len = some (pc', L', st', G', ck', sk')) (k : eg_J p l e R s m args below meth c Q b0 D dA adc n0 ad0 pc' L' st' G' ck' sk') : eg_J p l e R s m args below meth c Q b0 D dA adc n0 ad0 pc L st G ck sk := by
  unfold eg_la at h
  split at h
  · rename_i x hx
    cases h
    intro ad H locs ls hR hL hS
    exact row (eg_LR_at hL hx).1 (k ad H locs ls hR hL (List.forall_mem_cons.mpr ⟨(eg_LR_at hL hx).2, hS⟩))
  · rename_i hx
    cases h
    intro ad H locs ls hR hL hS
    exact rowN (eg_LR_at hL hx).1 (k ad H locs ls hR hL (List.forall_mem_cons.mpr ⟨eg_okn, hS⟩))
  · cases h
theorem sj_si {i : Nat} (row : ∀ {H : Heap} {locs : List Loc} {ck sk : Nat} {ls : Array Slot} {rest : List Value} {x : Int32} {nL : Nat} {lv : List (Nat × Value)}, lv_has ls nL lv → i < nL → (∀ ls' : Array Slot, lv_has ls' nL ((i, Value.int x) :: lv.filter (fun q => !(q.1 == i) && !(q.1 + 1 == i && q.2.category == 2))) → W p l e R s m args below meth c H locs ck sk Q (F0 m (pc + len) ls' rest)) → W p l e R s m args below meth c H locs ck sk Q (F0 m pc ls (.int x :: rest)))
    (h : eg_si pc L st G ck sk i len = some (pc', L', st', G', ck', sk')) (k : eg_J p l e R s m args below meth c Q b0 D dA adc n0 ad0 pc' L' st' G' ck' sk') : eg_J p l e R s m args below meth c Q b0 D dA adc n0 ad0 pc L st G ck sk := by
  unfold eg_si at h
  split at h
  · split at h
    · rename_i hi
      cases h
      intro ad H locs ls hR hL hS
      obtain ⟨h1, h2⟩ := List.forall_mem_cons.mp hS
      exact row hL.1 hi (fun ls' hl' => k ad H locs ls' hR (eg_LR_s1 (v := .int _) hL h1 hl') h2)
    · cases h
  · cases h
theorem sj_sl {i : Nat} (row : ∀ {H : Heap} {locs : List Loc} {ck sk : Nat} {ls : Array Slot} {rest : List Value} {x : Int64} {nL : Nat} {lv : List (Nat × Value)}, lv_has ls nL lv → i + 1 < nL → (∀ ls' : Array Slot, lv_has ls' nL ((i, Value.long x) :: lv.filter (fun q => !(q.1 == i) && (!(q.1 == i + 1) && !(q.1 + 1 == i && q.2.category == 2)))) → W p l e R s m args below meth c H locs ck sk Q (F0 m (pc + len) ls' rest)) → W p l e R s m args below meth c H locs ck sk Q (F0 m pc ls (.long x :: rest)))
    (h : eg_sl2 pc L st G ck sk i len = some (pc', L', st', G', ck', sk')) (k : eg_J p l e R s m args below meth c Q b0 D dA adc n0 ad0 pc' L' st' G' ck' sk') : eg_J p l e R s m args below meth c Q b0 D dA adc n0 ad0 pc L st G ck sk := by
  unfold eg_sl2 at h
  split at h
  · split at h
    · rename_i hi
      cases h
      intro ad H locs ls hR hL hS
      obtain ⟨h1, h2⟩ := List.forall_mem_cons.mp hS
      exact row hL.1 hi (fun ls' hl' => k ad H locs ls' hR (eg_LR_s2 (v := .long _) hL h1 hi hl') h2)
    · cases h
  · cases h
theorem sj_sa {i : Nat} (row : ∀ {H : Heap} {locs : List Loc} {ck sk : Nat} {ls : Array Slot} {rest : List Value} {x : Nat} {nL : Nat} {lv : List (Nat × Value)}, lv_has ls nL lv → i < nL → (∀ ls' : Array Slot, lv_has ls' nL ((i, Value.ref x) :: lv.filter (fun q => !(q.1 == i) && !(q.1 + 1 == i && q.2.category == 2))) → W p l e R s m args below meth c H locs ck sk Q (F0 m (pc + len) ls' rest)) → W p l e R s m args below meth c H locs ck sk Q (F0 m pc ls (.ref x :: rest)))
    (rowN : ∀ {H : Heap} {locs : List Loc} {ck sk : Nat} {ls : Array Slot} {rest : List Value} {nL : Nat} {lv : List (Nat × Value)}, lv_has ls nL lv → i < nL → (∀ ls' : Array Slot, lv_has ls' nL ((i, Value.null) :: lv.filter (fun q => !(q.1 == i) && !(q.1 + 1 == i && q.2.category == 2))) → W p l e R s m args below meth c H locs ck sk Q (F0 m (pc + len) ls' rest)) → W p l e R s m args below meth c H locs ck sk Q (F0 m pc ls (.null :: rest)))
    (h : eg_sa pc L st G ck sk i len = some (pc', L', st', G', ck', sk')) (k : eg_J p l e R s m args below meth c Q b0 D dA adc n0 ad0 pc' L' st' G' ck' sk') : eg_J p l e R s m args below meth c Q b0 D dA adc n0 ad0 pc L st G ck sk := by
  unfold eg_sa at h
  split at h
  · split at h
    · rename_i hi
      cases h
      intro ad H locs ls hR hL hS
      obtain ⟨h1, h2⟩ := List.forall_mem_cons.mp hS
      exact row hL.1 hi (fun ls' hl' => k ad H locs ls' hR (eg_LR_s1 (v := .ref _) hL h1 hl') h2)
    · cases h
  · split at h
    · rename_i hi
      cases h
      intro ad H locs ls hR hL hS
      obtain ⟨h1, h2⟩ := List.forall_mem_cons.mp hS
      exact rowN hL.1 hi (fun ls' hl' => k ad H locs ls' hR (eg_LR_s1 (v := .null) hL h1 hl') h2)
    · cases h
  · cases h
end EGJ
