/-! what holds of the machine at every method's start, and that it goes on holding -/
section EGF
def eg_xT : List (Nat × Nat × Nat) := [(83, 85, 0), (207, 209, 1), (89, 91, 2), (200, 202, 3)]
def eg_xn (x : Nat) : String := eg_ex.getD x ""
def eg_xc : List String := ["java/lang/RuntimeException", "java/lang/Exception"]
def eg_W10 : List Cond := eg_xT.flatMap (fun q => .initialized (eg_xn q.2.2) :: .castable (eg_xn q.2.2) (eg_xn q.2.2) :: .classLink "KnobEye" q.1 (eg_xn q.2.2) :: vx_at0 "KnobEye" q.2.1 (eg_xn q.2.2) eg_xc)
def eg_kp (w : Cond) : Bool := match w with
  | .fieldLinkNest .. => true
  | .methodLinkNest .. => true
  | .castable .. => true
  | .declares .. => true
  | w => goodWord w
def eg_F (s : State) (b0 : Nat) (D : va_G) (dA : Nat → ClassId) (adc : Nat → Nat) : Prop :=
  (∀ w ∈ eg_W, w.before #[] s = true) ∧ (∀ w ∈ eg_W10, w.before #[] s = true) ∧ va_K D eg_cl (eg_tys dA) s ∧ eg_K s b0 adc ∧
  (∀ ci : Nat, eg_ek ci < 11 → va_AO (eg_cn ci) s) ∧ va_AOA .int s ∧ (∀ x y : Nat, x < 4 → y < 4 → x ≠ y → va_Nc (eg_xn x) (eg_xn y) s) ∧
  vx_Zq Bundle.tN "UNASSIGNED_STACK" Bundle.steD (eg_A b0) s s.heap ∧ vx_Zq Bundle.tN "SUPPRESSED_SENTINEL" Bundle.listD (eg_A b0) s s.heap ∧ b0 ≤ s.heap.size
set_option maxRecDepth 100000 in
theorem eg_kp_W : eg_W.all (fun w => eg_kp w && w.onTables || match w with | .arrayClass _ => true | _ => false) = true := by decide +kernel
set_option maxRecDepth 100000 in
theorem eg_kp_W10 : eg_W10.all (fun w => eg_kp w && w.onTables || match w with | .arrayClass _ => true | _ => false) = true := by decide +kernel
theorem eg_kp_at {w : Cond} {a a' : Array Value} {s U : State} (hW : s.WarmedH U.vm) (hk : (eg_kp w && w.onTables || match w with | .arrayClass _ => true | _ => false) = true) (h : w.before a s = true) : w.before a' U = true := by
  simp only [Bool.or_eq_true, Bool.and_eq_true] at hk
  have hk : (eg_kp w = true ∧ w.onTables = true) ∨ ∃ ty, w = .arrayClass ty := by
    rcases hk with hk | hk
    · exact Or.inl hk
    · split at hk
      · exact Or.inr ⟨_, rfl⟩
      · cases hk
  rcases hk with ⟨hk, ho⟩ | ⟨ty, rfl⟩
  · unfold eg_kp at hk
    split at hk
    · exact (va_Nw.warmF hW (va_Nw.of ho h)).use ho
    · exact (va_Nw.warmM hW (va_Nw.of ho h)).use ho
    · exact (va_Nw.warmC hW (va_Nw.of ho h)).use ho
    · exact (va_Nw.warmD hW (va_Nw.of ho h)).use ho
    · exact word_at hW (good_of_word hk) h
  · exact word_at hW (Or.inr ⟨ty, rfl⟩) h
theorem eg_kp_go {ws : List Cond} (hk : ws.all (fun w => eg_kp w && w.onTables || match w with | .arrayClass _ => true | _ => false) = true) {a a' : Array Value} {s U : State} (hW : s.WarmedH U.vm) (h : ∀ w ∈ ws, w.before a s = true) : ∀ w ∈ ws, w.before a' U = true := fun w hw => eg_kp_at hW (List.all_eq_true.mp hk w hw) (h w hw)
theorem eg_kp_s {ws : List Cond} (hk : ws.all (fun w => eg_kp w && w.onTables || match w with | .arrayClass _ => true | _ => false) = true) {a a' : Array Value} {s : State} (h : ∀ w ∈ ws, w.before a s = true) : ∀ w ∈ ws, w.before a' s = true := eg_kp_go hk (State.WarmedH.refl s) h
theorem eg_K.go {s U : State} {b0 : Nat} {adc : Nat → Nat} {locs : List Loc} (h : eg_K s b0 adc) (hW : s.WarmedH U.vm) (hS : va_S (eg_A b0) s.heap U.heap locs) : eg_K U b0 adc := by
  obtain ⟨h1, h2, h3, h4, h5, h6, h7, h8⟩ := h
  have hm := hW.alike
  have hk := fun (a : Nat) (h1 : a < s.heap.size) (h2 : ¬ eg_A b0 a) => hS.2.1 a h1 h2
  exact ⟨fun C n d v hv => (h1 C n d v hv).imp (fun h => (h.moved hm).kept hk) (fun h => ⟨h.1, (h.2.moved hm).kept hk⟩), fun i ci fs hi hc k v hv => ((h2 i ci fs hi hc k v hv).moved hm).kept hk, fun i t x hi hc => ((h3 i t x hi hc).moved hm).kept hk, h4, h5, fun i hi => ((h6 i hi).moved hm).kept hk, fun i hi => ((h7 i hi).moved hm).kept hk, fun o idx j hj => by
    obtain ⟨tx, h9⟩ := h8 o idx j hj
    exact ⟨tx, h9.warm hW⟩⟩
theorem eg_F.go {s U : State} {b0 : Nat} {D : va_G} {dA : Nat → ClassId} {adc : Nat → Nat} {locs : List Loc} (h : eg_F s b0 D dA adc) (hW : s.WarmedH U.vm) (hS : va_S (eg_A b0) s.heap U.heap locs) : eg_F U b0 D dA adc := by
  obtain ⟨h1, h2, h3, h4, h5, h6, h7, h8, h9, h10⟩ := h
  have hm := hW.alike
  have hk := fun (a : Nat) (h1 : a < s.heap.size) (h2 : ¬ eg_A b0 a) => hS.2.1 a h1 h2
  exact ⟨eg_kp_go eg_kp_W hW h1, eg_kp_go eg_kp_W10 hW h2, h3.moved hm, h4.go hW hS, fun ci hci => (h5 ci hci).moved hm, h6.moved hm, fun x y hx hy hxy => (h7 x y hx hy hxy).moved hm, (h8.moved hm).kept hk, (h9.moved hm).kept hk, Nat.le_trans h10 hS.1⟩
end EGF
