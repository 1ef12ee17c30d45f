/-! THE INTERPRETER IS RIGHT -/
section EGS
def eg_le (rec : eg_Rec) : Prop := ∀ scr d k pc L st G ck sk r G' ck' sk', rec scr d k pc L st G ck sk = some (r, G', ck', sk') → ck ≤ ck' ∧ sk ≤ sk'
theorem eg_bk_le {rec : eg_Rec} (h : eg_le rec) {scr : eg_Sc} {d k pc : Nat} {L : eg_Ls} {r : List Value} {ck sk : Nat} {o : Option eg_O} {q : eg_R} {G' : eg_G} {ck' sk' : Nat} (hb : eg_bk rec scr d k pc L r ck sk o = some (q, G', ck', sk')) :
    ∃ (q1 : eg_R) (G1 : eg_G) (c1 s1 : Nat), o = some (q1, G1, c1, s1) ∧ ck + c1 ≤ ck' ∧ sk + s1 ≤ sk' := by
  unfold eg_bk at hb
  split at hb
  · exact ⟨_, _, _, _, rfl, h _ _ _ _ _ _ _ _ _ _ _ _ _ hb⟩
  · split at hb
    · cases hb
      exact ⟨_, _, _, _, rfl, Nat.le_refl _, Nat.le_refl _⟩
    · split at hb
      · split at hb
        · split at hb
          · exact ⟨_, _, _, _, rfl, h _ _ _ _ _ _ _ _ _ _ _ _ _ hb⟩
          · cases hb
        · cases hb
      · cases hb
  · cases hb
theorem eg_cl1_le {rec : eg_Rec} (h : eg_le rec) {scr : eg_Sc} {d k pc mi : Nat} {as r : List Value} {L : eg_Ls} {G : eg_G} {ck sk : Nat} {q : eg_R} {G' : eg_G} {ck' sk' : Nat} (hb : eg_cl1 rec scr d k pc mi as r L G ck sk = some (q, G', ck', sk')) : ck ≤ ck' ∧ sk ≤ sk' := by
  unfold eg_cl1 at hb
  split at hb
  · split at hb
    · cases hb
    · obtain ⟨_, _, c1, s1, -, h1, h2⟩ := eg_bk_le h hb
      exact ⟨by omega, by omega⟩
  · cases hb
theorem eg_iv_le {rec : eg_Rec} (h : eg_le rec) {scr : eg_Sc} {d k pc t i : Nat} {st : List Value} {L : eg_Ls} {G : eg_G} {ck sk : Nat} {q : eg_R} {G' : eg_G} {ck' sk' : Nat} (hb : eg_iv rec scr d k pc t i L st G ck sk = some (q, G', ck', sk')) : ck ≤ ck' ∧ sk ≤ sk' := by
  unfold eg_iv at hb
  split at hb
  · cases hb
  · split at hb
    · split at hb
      · split at hb
        · split at hb
          · exact h _ _ _ _ _ _ _ _ _ _ _ _ _ hb
          · cases hb
        · cases hb
      · split at hb
        · exact eg_cl1_le h hb
        · cases hb
    · split at hb
      · split at hb
        · exact eg_cl1_le h hb
        · cases hb
      · cases hb
    · split at hb
      · split at hb
        · split at hb
          · exact h _ _ _ _ _ _ _ _ _ _ _ _ _ hb
          · cases hb
        · cases hb
      · split at hb
        · split at hb
          · exact eg_cl1_le h hb
          · cases hb
        · cases hb
theorem eg_one_le {rec : eg_Rec} (h : eg_le rec) : eg_le (eg_one rec) := by
  intro scr d k pc L st G ck sk r G' ck' sk' hb
  unfold eg_one at hb
  split at hb
  · cases hb
  · split at hb
    · cases hb
      exact ⟨Nat.le_refl _, Nat.le_refl _⟩
    · split at hb
      · rename_i hsc
        have h1 := h _ _ _ _ _ _ _ _ _ _ _ _ _ hb
        unfold eg_sc at hsc
        split at hsc
        · split at hsc
          · cases hsc
            exact h1
          · cases hsc
        · split at hsc
          · cases hsc
            exact h1
          · cases hsc
        · cases hsc
      · split at hb
        · split at hb
          · cases hb
            exact ⟨Nat.le_succ _, Nat.le_add_right _ _⟩
          · cases hb
        · split at hb
          · exact eg_iv_le h hb
          · unfold eg_nx at hb
            split at hb
            · rename_i hst
              obtain ⟨⟨a1, a2⟩, -⟩ := eg_st_up hst
              obtain ⟨b1, b2⟩ := h _ _ _ _ _ _ _ _ _ _ _ _ _ hb
              exact ⟨by omega, by omega⟩
            · cases hb
theorem eg_rn_le : ∀ f : Nat, eg_le (eg_rn f)
  | 0 => fun _ _ _ _ _ _ _ _ _ _ _ _ _ h => nomatch h
  | f + 1 => eg_one_le (eg_rn_le f)
def eg_B (p : Program) (s : State) (m : MethodId) (meth : Method) (c : Code) (R : Room) (k d mc ms : Nat) : Prop :=
  p.tables.exec = Jvm.exec ∧ c.code = eg_mb k ∧ c.maxLocals = eg_mL k ∧ s.vm.findClass (eg_on (eg_mo k)) = some m.cls ∧ meth.locks = false ∧ meth.sig.returnType = eg_mr k ∧ (eg_in k = true → meth.name = "<init>") ∧
  (k ≠ eg_LK → c.exceptionTable.toList = tableOf ((eg_mh k).getD [])) ∧ R.cells = mc ∧ R.slots = ms ∧ d + 12 ≤ R.frames ∧ 48 * d + 300 ≤ R.locals
def eg_KR (p : Program) (l : Launch) (e : Env) (R : Room) (s : State) (m : MethodId) (args : Array Value) (below : List Frame) (meth : Method) (c : Code) (Q : State → Prop) (b0 : Nat) (D : va_G) (dA : Nat → ClassId) (adc : Nat → Nat) (n0 : Nat) (ad0 : Nat → Nat) (k : Nat) (r : eg_R) (G' : eg_G) (ck' sk' : Nat) : Prop :=
  ∀ (ad : Nat → Nat) (H : Heap) (locs : List Loc) (ls : Array Slot) (pc : Nat) (ins : Instr) (len : Nat) (st : List Value) (v : Option Value), eg_cd k pc = some (ins, len) → eg_rr ins (eg_mr k) st = some v → r = .inl v → eg_Rel s b0 D dA adc n0 ad0 ad G' H locs → (∀ v ∈ st, eg_okv G'.2 v) → W p l e R s m args below meth c H locs ck' sk' Q (F0 m pc ls (st.map (eg_v ad)))
def eg_KX (p : Program) (l : Launch) (e : Env) (R : Room) (s : State) (m : MethodId) (args : Array Value) (below : List Frame) (meth : Method) (c : Code) (Q : State → Prop) (b0 : Nat) (D : va_G) (dA : Nat → ClassId) (adc : Nat → Nat) (n0 : Nat) (ad0 : Nat → Nat) (k : Nat) (r : eg_R) (G' : eg_G) (ck' sk' : Nat) : Prop :=
  eg_mh k = none → ∀ (ad : Nat → Nat) (H : Heap) (locs : List Loc) (ls : Array Slot) (pc : Nat) (rest : List Value) (x q : Nat) (ce : Cell), r = .inr x → x < 4 → eg_Rel s b0 D dA adc n0 ad0 ad G' H locs → H[q]? = some ce → ce.vm = .none → s.vm.findClass (eg_xn x) = some ce.cls → vx_W p l e R s m args below meth c H locs ck' sk' Q (F0 m pc ls rest) q
def eg_KT (p : Program) (l : Launch) (e : Env) (R : Room) (s : State) (m : MethodId) (args : Array Value) (below : List Frame) (meth : Method) (c : Code) (Q : State → Prop) (b0 : Nat) (D : va_G) (dA : Nat → ClassId) (adc : Nat → Nat) (n0 : Nat) (ad0 : Nat → Nat) (k : Nat) (r : eg_R) (G' : eg_G) (ck' sk' : Nat) : Prop :=
  ∀ (ad : Nat → Nat) (H : Heap) (locs : List Loc) (ls : Array Slot) (pc : Nat) (ins : Instr) (len : Nat) (st : List Value) (q : Nat × Nat × Nat) (ck sk : Nat), eg_cd k pc = some (ins, len) → eg_th k pc ins = some q → r = .inr q.2.2 → eg_Rel s b0 D dA adc n0 ad0 ad G' H locs → ls.size = c.maxLocals → eg_cat st ≤ 8 → ck' = ck + 1 → sk' = sk + 6 → W p l e R s m args below meth c H locs ck sk Q (F0 m pc ls (st.map (eg_v ad)))
def eg_H (p : Program) (l : Launch) (e : Env) (R : Room) (s : State) (m : MethodId) (args : Array Value) (below : List Frame) (meth : Method) (c : Code) (Q : State → Prop) (b0 : Nat) (D : va_G) (dA : Nat → ClassId) (adc : Nat → Nat) (n0 : Nat) (ad0 : Nat → Nat) (scr : eg_Sc) (d k mc ms : Nat) (r : eg_R) (G' : eg_G) (ck' sk' : Nat) : Prop :=
  eg_B p s m meth c R k d mc ms ∧ eg_F s b0 D dA adc ∧ l.stackTraces = false ∧ (∀ n f, scr = some (n, f) → va_X (adc 150) n f s s.heap ∧ adc 150 < s.heap.size ∧ ¬ eg_A b0 (adc 150)) ∧ ck' ≤ mc ∧ sk' ≤ ms ∧
  eg_KR p l e R s m args below meth c Q b0 D dA adc n0 ad0 k r G' ck' sk' ∧ eg_KX p l e R s m args below meth c Q b0 D dA adc n0 ad0 k r G' ck' sk' ∧ eg_KT p l e R s m args below meth c Q b0 D dA adc n0 ad0 k r G' ck' sk'
def eg_Sd (rec : eg_Rec) : Prop := ∀ scr d k pc L st G ck sk r G' ck' sk', rec scr d k pc L st G ck sk = some (r, G', ck', sk') → ∀ {p : Program} {l : Launch} {e : Env} {R : Room} {s : State} {m : MethodId} {args : Array Value} {below : List Frame} {meth : Method} {c : Code} {Q : State → Prop} {b0 : Nat} {D : va_G} {dA : Nat → ClassId} {adc : Nat → Nat} {n0 : Nat} {ad0 : Nat → Nat} {mc ms : Nat}, eg_H p l e R s m args below meth c Q b0 D dA adc n0 ad0 scr d k mc ms r G' ck' sk' → eg_J p l e R s m args below meth c Q b0 D dA adc n0 ad0 pc L st G ck sk
theorem eg_cd_dec {k pc : Nat} {q : Instr × Nat} (h : eg_cd k pc = some q) : decode (eg_mb k) pc = .ok q ∧ eg_lok q.1 q.2 = true := by
  unfold eg_cd at h
  unfold eg_mb eg_mi
  split at h
  · rename_i hk
    rw [if_pos hk]
    have hm : (pc, q) ∈ eg_lw := eg_lk h
    have h8 : decode code pc = .ok q := eg_lw_dec (pc, q) hm
    have h9 : eg_lok q.1 q.2 = true := List.all_eq_true.mp eg_lw_lok (pc, q) hm
    have h7 : eg_ml.2.1 = code := rfl
    rw [h7]
    exact ⟨h8, h9⟩
  · rename_i hk
    rw [if_neg hk]
    have hm : (pc, q) ∈ (eg_me k).2 := eg_lk h
    have h8 : decode (eg_me k).1.2.1 pc = .ok q := eg_dec k (pc, q) hm
    have h9 : eg_lok q.1 q.2 = true := eg_me_lok k (pc, q) hm
    exact ⟨h8, h9⟩
section In
variable {p : Program} {l : Launch} {e : Env} {R : Room} {s : State} {m : MethodId} {args : Array Value} {below : List Frame} {meth : Method} {c : Code} {Q : State → Prop} {b0 : Nat} {D : va_G} {dA : Nat → ClassId} {adc : Nat → Nat} {n0 : Nat} {ad0 : Nat → Nat} {scr : eg_Sc} {d k mc ms : Nat} {r : eg_R} {G G' : eg_G} {ck sk ck' sk' : Nat} {L : eg_Ls} {st : List Value}
theorem eg_H_X (h : eg_H p l e R s m args below meth c Q b0 D dA adc n0 ad0 scr d k mc ms r G' ck' sk') : eg_X p s m args meth c R b0 D dA adc (eg_mo k) (eg_in k) mc ms (eg_mb k) := by
  obtain ⟨⟨b1, b2, b3, b4, b5, b6, b7, b8, b9, b10, b11, b12⟩, ⟨f1, f2, f3, f4, f5, f6, f7, f8, f9, f10⟩, -⟩ := h
  exact ⟨b1, b2, b4, eg_kp_s eg_kp_W f1, f3, f4, f5, f6, b9, b10, b7, f10⟩
theorem eg_sc_J {scr : eg_Sc} {ins : Instr} {len pc pc' : Nat} {L' : eg_Ls} {st' : List Value} {G1 : eg_G} {ck1 sk1 : Nat} (h : eg_H p l e R s m args below meth c Q b0 D dA adc n0 ad0 scr d k mc ms r G' ck' sk') (hcd : eg_cd k pc = some (ins, len)) (hsc : eg_sc scr ins pc L st G ck sk = some (pc', L', st', G1, ck1, sk1)) (kk : eg_J p l e R s m args below meth c Q b0 D dA adc n0 ad0 pc' L' st' G1 ck1 sk1) : eg_J p l e R s m args below meth c Q b0 D dA adc n0 ad0 pc L st G ck sk := by
  obtain ⟨⟨hx, hb, -⟩, -, -, hs, -⟩ := h
  obtain ⟨hd, hlo⟩ := eg_cd_dec hcd
  unfold eg_sc at hsc
  split at hsc
  · rename_i n f i a rr
    split at hsc
    · rename_i hc
      obtain ⟨rfl, h0, h1⟩ := hc
      cases hsc
      have hl' : len = 1 := by simpa [eg_lok] using hlo
      subst hl'
      obtain ⟨x1, x2, x3⟩ := hs _ _ rfl
      intro ad H locs ls hR hL hS
      obtain ⟨hP, hD, hS0, hok, hag⟩ := id hR
      obtain ⟨-, h2⟩ := List.forall_mem_cons.mp hS
      obtain ⟨-, h2⟩ := List.forall_mem_cons.mp h2
      have hkk := kk ad H locs ls hR hL (List.forall_mem_cons.mpr ⟨eg_oki, h2⟩)
      have e1 : (Value.int i :: .ref 150 :: rr).map (eg_v ad) = .int i :: .ref (adc 150) :: rr.map (eg_v ad) := by
        show Value.int i :: .ref (ad 150) :: _ = _
        rw [hag.1 150 (by decide)]
      rw [e1]
      exact va_sld hx hb x1 x2 x3 hS0 (eg_vin ⟨h0, h1⟩) hd hkk
    · cases hsc
  · rename_i n f a rr
    split at hsc
    · rename_i hc
      subst hc
      cases hsc
      have hl' : len = 1 := by simpa [eg_lok] using hlo
      subst hl'
      obtain ⟨x1, x2, x3⟩ := hs _ _ rfl
      intro ad H locs ls hR hL hS
      obtain ⟨hP, hD, hS0, hok, hag⟩ := id hR
      obtain ⟨-, h2⟩ := List.forall_mem_cons.mp hS
      have hkk := kk ad H locs ls hR hL (List.forall_mem_cons.mpr ⟨eg_oki, h2⟩)
      have e1 : (Value.ref 150 :: rr).map (eg_v ad) = .ref (adc 150) :: rr.map (eg_v ad) := by
        show Value.ref (ad 150) :: _ = _
        rw [hag.1 150 (by decide)]
      rw [e1]
      exact va_slen hx hb x1 x2 x3 hS0 hd hkk
    · cases hsc
  · cases hsc
end In
end EGS
