section
/-! ===== BEGIN words of one list among another's, by their places ===== -/
theorem goodIn_r {big : List Cond} (ws : List Cond) (ps : List Nat) (hp : ws = ps.filterMap (fun i => big[i]?)) (h : ws.all goodWord = true) : GoodIn big ws := by
  intro w hw
  have h1 := List.all_eq_true.mp h w hw
  rw [hp] at hw
  obtain ⟨i, -, hi⟩ := List.mem_filterMap.mp hw
  have hm : w ∈ big := by first | exact List.mem_of_getElem? hi | exact List.getElem?_mem hi
  exact ⟨hm, good_of_word h1⟩
theorem goodIn_app {big a b : List Cond} (ha : GoodIn big a) (hb : GoodIn big b) : GoodIn big (a ++ b) := fun w h => (List.mem_append.mp h).elim (ha w) (hb w)
theorem goodIn_ca {big a b : List Cond} {c : Cond} (ha : GoodIn big (c :: a)) (hb : GoodIn big b) : GoodIn big (c :: (a ++ b)) := fun w h => (List.mem_cons.mp h).elim (fun e => ha w (List.mem_cons.mpr (Or.inl e))) (fun h => (List.mem_append.mp h).elim (fun h => ha w (List.mem_cons.mpr (Or.inr h))) (hb w))
theorem goodIn_sub {big ws : List Cond} (hm : ∀ w ∈ ws, w ∈ big) (h : ws.all goodWord = true) : GoodIn big ws := fun w hw => ⟨hm w hw, good_of_word (List.all_eq_true.mp h w hw)⟩
/-! ===== END ===== -/
/-! ===== BEGIN exceptions that leave a method, and their catching by the caller (launches without stack traces) ===== -/
section VXA
/-! The laws vx_back, vx_callV, vx_callS, vx_callSW, vx_throw0, vx_throwS follow proofs of the library, with one case more: JvmDerived/Free/Laws.lean (Back.of_free), Shelf42/LK1.lean (callV, callS), Shelf/KitTraced.lean (throwNew0V, throwNewS). -/
/-- where a method has thrown q: the class by its name, the cell, what was written, the world -/
def vx_T (XC : String → State → State → Prop) (st : State) (q : Addr) (t : State) (mc ms : Nat) (free : Addr → Prop) : Prop :=
  ∃ (E : String) (ce : Cell) (L : List Loc), XC E st t ∧ t.heap[q]? = some ce ∧ ce.vm = .none ∧ st.vm.findClass E = some ce.cls ∧ st.WarmedH t.vm ∧ st.sameButNew ({ t with vm := st.vm } : State) L mc ms ∧ ∀ z ∈ L, free z.base
def vx_Q (Qc : Array Value → State → Outcome → State → Prop) (XC : String → State → State → Prop) (mc ms : Nat) (free : Addr → Prop) : Array Value → State → Outcome → State → Prop := fun a st o t =>
  (Qc a st o t ∧ ∃ L, FrameEnd st o t L mc ms ∧ ∀ q ∈ L, free q.base) ∨ ∃ q, o = .threw q ∧ vx_T XC st q t mc ms free
/-- a callee that returns or throws -/
def vx_Met (l : Launch) (y : MethodName) (ws : List Cond) (rm : Room) (Pc : Array Value → State → Prop) (Qc : Array Value → State → Outcome → State → Prop) (XC : String → State → State → Prop) (mc ms : Nat) (free : Addr → Prop) : Prop :=
  MetFree l y (headSpec ws rm) Pc (fun _ _ _ _ _ => True) (vx_Q Qc XC mc ms free)
def vx_Post (XC : String → State → State → Prop) (mc ms : Nat) (free : Addr → Prop) : Pt → Array Value → Addr → Pt → Prop := fun A a q B =>
  ∃ (g : JFrame) (mk : MethodId) (t : State) (L : List Loc) (E : String) (ce : Cell), B.U.heap = t.heap ∧ B.U.vm = t.vm ∧ XC E (A.U.calling g mk a) t ∧ t.heap[q]? = some ce ∧ ce.vm = .none ∧ A.U.vm.findClass E = some ce.cls ∧ B.locs = A.locs ++ L ∧ (∀ z ∈ L, free z.base) ∧ B.cells = A.cells + mc ∧ B.slots = A.slots + ms
def vx_Back (l : Launch) (R : Room) (p : Program) (e : Env) (below : List Frame) (s : State) (sargs : Array Value) (y : MethodName) (len W9 : Nat)
    (Pre : Pt → Array Value → Prop) (Post : Pt → Array Value → Option Value → Pt → Prop) (PostX : Pt → Array Value → Addr → Pt → Prop) : Prop :=
  ∀ (m : MethodId) (meth : Method) (c : Code) (A : Pt) (g : JFrame) (ig : Instr) (mk : MethodId) (a : Array Value),
    Stand p l e R s m sargs below meth c A.U A.locs A.cells A.slots → g.method = m → g.locals.size = c.maxLocals → decode c.code g.pc = .ok (ig, len) →
    2 * g.monitorRoom + (g.stack.map fun v => v.category).sum ≤ W9 → A.U.methodNamed? y = some mk → Pre A a →
    (∃ (v : Option Value) (B : Pt), Stand p l e R s m sargs below meth c B.U B.locs B.cells B.slots ∧ Post A a v B ∧
      Steps p.tables e below (doInvoke e (A.U.setTop g) [] mk a).1 (B.U.setTop { g with pc := g.pc + len, stack := v.toList ++ g.stack })) ∨
    (∃ (q : Addr) (B : Pt), Stand p l e R s m sargs below meth c B.U B.locs B.cells B.slots ∧ PostX A a q B ∧
      Steps p.tables e below (doInvoke e (A.U.setTop g) [] mk a).1 ((B.U.setTop g).pushFrame (.throwing q)))
section Payer
variable {l : Launch} {R : Room} {p : Program} {e : Env} {below : List Frame} {s : State} {sargs : Array Value} {y : MethodName} {len W9 : Nat}
theorem vx_back {ws : List Cond} {rm : Room} {Pc : Array Value → State → Prop} {Qc : Array Value → State → Outcome → State → Prop} {XC : String → State → State → Prop} {mc ms : Nat} {free : Addr → Prop} {bytes : ByteArray} {maxL : Nat} {ret : Option FieldType}
    (hM : vx_Met l y ws rm Pc Qc XC mc ms free) (hblind : FrameBlind Pc) (hrc : rm.cells = mc) (hrs : rm.slots = ms)
    (hframes : rm.frames + 1 ≤ R.frames) (hlocals : W9 + (maxL + 11) + rm.locals ≤ R.locals)
    (hws : ∀ w ∈ ws, ∀ a' U, s.WarmedH U.vm → w.before a' U = true) (hcode : Cond.code y bytes maxL ret ∈ ws) (hinit : ∀ a' U, s.WarmedH U.vm → (Cond.initialized y.cls).before a' U = true) :
    vx_Back l R p e below s sargs y len W9 (PreOf R mc ms Pc) (PostOf Qc mc ms free) (vx_Post XC mc ms free) := by
  intro m meth c A g ig mk a X hg hsize hdg hW hn hp
  have h1 : (headSpec ws rm).pre.before a A.U = true := atoms_intro fun w hw => hws w hw _ _ X.warmed
  have h2 : (Cond.code y bytes maxL ret).before a A.U = true := hws _ hcode _ _ X.warmed
  have h3 : (Cond.initialized y.cls).before a A.U = true := hinit _ _ X.warmed
  have h4 : A.cells + (headSpec ws rm).room.cells ≤ R.cells := by rw [show (headSpec ws rm).room.cells = mc from hrc]; exact hp.1
  have h5 : A.slots + (headSpec ws rm).room.slots ≤ R.slots := by rw [show (headSpec ws rm).room.slots = ms from hrs]; exact hp.2.1
  have hPc : Pc a (A.U.calling g mk a) := hblind _ _ _ _ hp.2.2
  obtain ⟨U, Ls, c0, s0⟩ := A
  dsimp only [Pt.U, Pt.locs, Pt.cells, Pt.slots] at h1 h2 h3 h4 h5 X hn hPc ⊢
  obtain ⟨methY, cY, hmY, hcY, -, hlY, -, -, -, -⟩ := Cond.code_spec hn h2
  obtain ⟨kY, hkY, -⟩ := className_of_methodNamed hn
  have hinitY : kY.init = .initialized := Cond.initialized_spec (findClass_of_methodNamed hn) hkY h3
  have h : At U g.method c below := by rw [hg]; exact X.here
  have hlocals9 : W9 + (maxL + 11) + (headSpec ws rm).room.locals ≤ R.locals := hlocals
  have happ : (headSpec ws rm).appliesLoose y e.platform (U.calling g mk a) = true :=
    Spec.appliesLoose_calling (g := g) h hdg hn hkY hinitY
      (X.room_calling (g := g) (R' := (headSpec ws rm).room) hsize hmY hcY hframes (by rw [hlY]; omega) h4 h5) h1
  obtain ⟨mid, hmid⟩ := h.above
  have hfr : (U.setTop g).frames = (.java g :: mid) ++ below := by rw [State.frames_setTop' g h.top, hmid]; rfl
  obtain ⟨o, s₂, hsteps, -, hend, hq⟩ := Steps.callFree hM p X.admits X.cas X.clock (acts := []) hfr happ hPc trivial
  have hq' : vx_Q Qc XC mc ms free a (U.calling g mk a) o s₂ := hq
  rw [State.frames_setTop' g h.top] at hend
  obtain ⟨g₀, hg0⟩ := Option.isSome_iff_exists.mp h.top
  obtain ⟨r, hr⟩ := State.topJava?_eq_some.mp hg0
  have hr' : (({ U with heap := s₂.heap, slotsUsed := s₂.slotsUsed } : State).setVm s₂.vm).frames = .java g₀ :: r := hr
  rcases hq' with ⟨hqc, L, hfe, hL⟩ | ⟨q, rfl, E, ce, L, hx, hce, hcv, hcl, hW₂, hsm, hL⟩
  · obtain ⟨⟨v, rfl⟩, hW₂, e2, q2, q3, q4, q5, q6⟩ := id hfe
    have e3 : s₂ = ({ (U.calling g mk a).setFrames s₂.frames with heap := s₂.heap, slotsUsed := s₂.slotsUsed } : State).setVm s₂.vm := by
      have : s₂ = ({ s₂ with vm := (U.calling g mk a).vm } : State).setVm s₂.vm := rfl
      rw [e2] at this
      exact this
    obtain ⟨c₂, i₂, len₂, hc₂, hd₂, hf₂⟩ := hend
    have hW' : U.WarmedH s₂.vm := hW₂
    have hcc : c₂ = c := by
      have h1 : s₂.code? g.method = U.code? g.method := by
        rw [State.code?_eq, State.code?_eq, hW'.alike.method?]
      exact Option.some.inj (hc₂.symm.trans (h1.trans h.code))
    subst hcc
    have hlen : len₂ = len := by rw [hdg] at hd₂; cases hd₂; rfl
    subst hlen
    have hs₂ : s₂ = (({ U with heap := s₂.heap, slotsUsed := s₂.slotsUsed } : State).setVm s₂.vm).setTop { g with pc := g.pc + len₂, stack := v.toList ++ g.stack } := by
      refine e3.trans ?_
      rw [hf₂, State.calling_eq h.top, State.setFrames_setFrames, State.setTop_of_frames _ hr', hr]
      rfl
    have hsame : U.sameButNew ({ U with heap := s₂.heap, slotsUsed := s₂.slotsUsed } : State) L mc ms := by
      refine ⟨?_, q2, q3, q4, q5, q6⟩
      obtain ⟨t, ht, -⟩ := State.frames_cons hr
      show ({ U with heap := s₂.heap, slotsUsed := s₂.slotsUsed } : State) = { U.setFrames U.frames with heap := s₂.heap, slotsUsed := s₂.slotsUsed }
      rw [State.setFrames_self ht]
    subst hg
    refine Or.inl ⟨v, ⟨(({ U with heap := s₂.heap, slotsUsed := s₂.slotsUsed } : State).setVm s₂.vm), Ls ++ L, c0 + mc, s0 + ms⟩,
      ⟨X.admits, X.cas, X.clock, X.frames, X.room, X.hears, X.method, X.code, (X.here.setHeapUsed s₂.heap s₂.slotsUsed).setVm hW'.alike, X.tail, State.WarmedH.trans X.warmed hW', X.limits, X.bytes, X.same.trans (hsame.setVm s.vm)⟩,
      ⟨g, mk, s₂, L, rfl, rfl, hqc, rfl, hL, rfl, rfl⟩, ?_⟩
    show Steps p.tables e below _ ((({ U with heap := s₂.heap, slotsUsed := s₂.slotsUsed } : State).setVm s₂.vm).setTop { g with pc := g.pc + len₂, stack := v.toList ++ g.stack })
    rw [← hs₂]
    exact hsteps
  · obtain ⟨e2, q2, q3, q4, q5, q6⟩ := id hsm
    have e3 : s₂ = ({ (U.calling g mk a).setFrames s₂.frames with heap := s₂.heap, slotsUsed := s₂.slotsUsed } : State).setVm s₂.vm := by
      have : s₂ = ({ s₂ with vm := (U.calling g mk a).vm } : State).setVm s₂.vm := rfl
      rw [e2] at this
      exact this
    have hf₂ : s₂.frames = .throwing q :: .java g :: U.frames.tail := hend
    have hW' : U.WarmedH s₂.vm := hW₂
    have hs₂ : s₂ = ((({ U with heap := s₂.heap, slotsUsed := s₂.slotsUsed } : State).setVm s₂.vm).setTop g).pushFrame (.throwing q) := by
      refine e3.trans ?_
      rw [hf₂, State.calling_eq h.top, State.setFrames_setFrames, State.pushFrame, State.frames_setTop _ hr', State.setTop_of_frames _ hr', State.setFrames_setFrames, hr]
      rfl
    have hsame : U.sameButNew ({ U with heap := s₂.heap, slotsUsed := s₂.slotsUsed } : State) L mc ms := by
      refine ⟨?_, q2, q3, q4, q5, q6⟩
      obtain ⟨t, ht, -⟩ := State.frames_cons hr
      show ({ U with heap := s₂.heap, slotsUsed := s₂.slotsUsed } : State) = { U.setFrames U.frames with heap := s₂.heap, slotsUsed := s₂.slotsUsed }
      rw [State.setFrames_self ht]
    subst hg
    refine Or.inr ⟨q, ⟨(({ U with heap := s₂.heap, slotsUsed := s₂.slotsUsed } : State).setVm s₂.vm), Ls ++ L, c0 + mc, s0 + ms⟩,
      ⟨X.admits, X.cas, X.clock, X.frames, X.room, X.hears, X.method, X.code, (X.here.setHeapUsed s₂.heap s₂.slotsUsed).setVm hW'.alike, X.tail, State.WarmedH.trans X.warmed hW', X.limits, X.bytes, X.same.trans (hsame.setVm s.vm)⟩,
      ⟨g, mk, s₂, L, E, ce, rfl, rfl, hx, hce, hcv, hcl, rfl, hL, rfl, rfl⟩, ?_⟩
    show Steps p.tables e below _ (((({ U with heap := s₂.heap, slotsUsed := s₂.slotsUsed } : State).setVm s₂.vm).setTop g).pushFrame (.throwing q))
    rw [← hs₂]
    exact hsteps
end Payer
section Calls
variable {p : Program} {l : Launch} {e : Env} {R : Room} {s : State} {m : MethodId} {args : Array Value} {below : List Frame} {meth : Method} {c : Code} {T : State} {locs : List Loc} {cells slots : Nat}
theorem vx_callV (X : Stand p l e R s m args below meth c T locs cells slots) (hexec : p.tables.exec = Jvm.exec) {own C : String} {index : Nat} {y : MethodName} {bytes : ByteArray} {maxL : Nat} {ret : Option FieldType}
    (hown : s.vm.findClass own = some m.cls) (hlink : (Cond.methodLink own index y).before args s = true) (hinst : (Cond.instanceMethod y).before args s = true) (hsel : (Cond.selects C y y).before args s = true)
    (hcode : (Cond.code y bytes maxL ret).before args s = true) (hy : y.cls ≠ "java/lang/invoke/MethodHandle" ∧ y.cls ≠ "java/lang/invoke/VarHandle")
    {W9 : Nat} {Pre : Pt → Array Value → Prop} {Post : Pt → Array Value → Option Value → Pt → Prop} {PostX : Pt → Array Value → Addr → Pt → Prop} (hK : vx_Back l R p e below s args y 3 W9 Pre Post PostX)
    {b : Addr} {cellB : Cell} (hcell : T.heap[b]? = some cellB) (hobj : cellB.vm.isStatics = false) (hcls : s.vm.findClass C = some cellB.cls)
    {g : JFrame} (hg : g.method = m) (hsize : g.locals.size = c.maxLocals) {argsL rest : List Value} (hlen : ∀ sig, parseMethodDescriptor y.desc = some sig → argsL.length = sig.parameters.length)
    (hstack : g.stack = argsL.reverse ++ .ref b :: rest) (hW : 2 * g.monitorRoom + (rest.map fun v => v.category).sum ≤ W9) (hdg : decode c.code g.pc = .ok (.invokevirtual index, 3))
    (hpre : ∀ vm₁, s.WarmedH vm₁ → Pre ⟨T.setVm vm₁, locs, cells, slots⟩ (Value.ref b :: argsL).toArray) :
    (∃ (v : Option Value) (vm₁ : Vm) (B : Pt), s.WarmedH vm₁ ∧ Stand p l e R s m args below meth c B.U B.locs B.cells B.slots ∧ Post ⟨T.setVm vm₁, locs, cells, slots⟩ (Value.ref b :: argsL).toArray v B ∧
      ∀ target, Steps p.tables e below (B.U.setTop { g with pc := g.pc + 3, stack := v.toList ++ rest }) target → Steps p.tables e below (T.setTop g) target) ∨
    (∃ (q : Addr) (vm₁ : Vm) (B : Pt), s.WarmedH vm₁ ∧ Stand p l e R s m args below meth c B.U B.locs B.cells B.slots ∧ PostX ⟨T.setVm vm₁, locs, cells, slots⟩ (Value.ref b :: argsL).toArray q B ∧
      Steps p.tables e below (T.setTop g) ((B.U.setTop { g with stack := rest }).pushFrame (.throwing q))) := by
  obtain ⟨mk, methM, hnamed, hmethM, hstM, habM⟩ := Cond.instanceMethod_spec hinst
  obtain ⟨methM', cM, hmethM', -, -, -, -, -, -, hsigM⟩ := Cond.code_spec hnamed hcode
  cases hmethM.symm.trans hmethM'
  obtain ⟨c2, r2, m2, q1, q2, q3, q4, kP, hkP, hkPi⟩ := Cond.selects_spec hsel
  cases hcls.symm.trans q1
  cases (State.methodFound?_of_named hnamed hy).symm.trans q2
  cases hnamed.symm.trans q3
  have hselP : selectMethod e.platform s.vm cellB.cls mk = .method mk := by rw [Launch.admits_selectMethod X.admits]; exact q4
  obtain ⟨vm₁, X₁, hstep₁⟩ := X.invokevirtual hexec hown hlink hnamed hmethM hstM hkP hkPi hy (a := b) (cell := cellB) hcell
    (fun z h => by rw [h] at hobj; cases hobj) hselP hmethM habM hkP hkPi (g := g) hg (argsL := argsL) (rest := rest) (hlen _ hsigM) hstack hdg
  rcases hK m meth c ⟨T.setVm vm₁, locs, cells, slots⟩ { g with stack := rest } (.invokevirtual index) mk (Value.ref b :: argsL).toArray X₁ hg hsize hdg hW (X₁.named hnamed) (hpre vm₁ X₁.warmed) with ⟨v, B, X', hpost, hsteps⟩ | ⟨q, B, X', hpost, hsteps⟩
  · exact Or.inl ⟨v, vm₁, B, X₁.warmed, X', hpost, fun target h => hstep₁ _ fun acts => by rw [doInvoke_state]; exact hsteps.trans h⟩
  · exact Or.inr ⟨q, vm₁, B, X₁.warmed, X', hpost, hstep₁ _ fun acts => by rw [doInvoke_state]; exact hsteps⟩
theorem vx_callS (X : Stand p l e R s m args below meth c T locs cells slots) (hexec : p.tables.exec = Jvm.exec) {own : String} {index : Nat} {y : MethodName} {bytes : ByteArray} {maxL : Nat} {ret : Option FieldType}
    (hown : s.vm.findClass own = some m.cls) (hlink : (Cond.methodLink own index y).before args s = true) (hstat : (Cond.static y).before args s = true) (hinit : (Cond.initialized y.cls).before args s = true)
    (hcode : (Cond.code y bytes maxL ret).before args s = true) (hy : y.cls ≠ "java/lang/invoke/MethodHandle" ∧ y.cls ≠ "java/lang/invoke/VarHandle")
    {W9 : Nat} {Pre : Pt → Array Value → Prop} {Post : Pt → Array Value → Option Value → Pt → Prop} {PostX : Pt → Array Value → Addr → Pt → Prop} (hK : vx_Back l R p e below s args y 3 W9 Pre Post PostX)
    {g : JFrame} (hg : g.method = m) (hsize : g.locals.size = c.maxLocals) {argsL rest : List Value} (hlen : ∀ sig, parseMethodDescriptor y.desc = some sig → argsL.length = sig.parameters.length)
    (hstack : g.stack = argsL.reverse ++ rest) (hW : 2 * g.monitorRoom + (rest.map fun v => v.category).sum ≤ W9) (hdg : decode c.code g.pc = .ok (.invokestatic index, 3))
    (hpre : ∀ vm₁, s.WarmedH vm₁ → Pre ⟨T.setVm vm₁, locs, cells, slots⟩ argsL.toArray) :
    (∃ (v : Option Value) (vm₁ : Vm) (B : Pt), s.WarmedH vm₁ ∧ Stand p l e R s m args below meth c B.U B.locs B.cells B.slots ∧ Post ⟨T.setVm vm₁, locs, cells, slots⟩ argsL.toArray v B ∧
      ∀ target, Steps p.tables e below (B.U.setTop { g with pc := g.pc + 3, stack := v.toList ++ rest }) target → Steps p.tables e below (T.setTop g) target) ∨
    (∃ (q : Addr) (vm₁ : Vm) (B : Pt), s.WarmedH vm₁ ∧ Stand p l e R s m args below meth c B.U B.locs B.cells B.slots ∧ PostX ⟨T.setVm vm₁, locs, cells, slots⟩ argsL.toArray q B ∧
      Steps p.tables e below (T.setTop g) ((B.U.setTop { g with stack := rest }).pushFrame (.throwing q))) := by
  obtain ⟨mk, hnamed⟩ := Cond.code_named hcode
  obtain ⟨methM, cM, hmethM, -, -, -, -, -, -, hsigM⟩ := Cond.code_spec hnamed hcode
  have hstatic : methM.isStatic = true := Cond.static_spec hnamed hmethM hstat
  obtain ⟨kP, hkP, -⟩ := className_of_methodNamed hnamed
  have hinitP : kP.init = .initialized := Cond.initialized_spec (findClass_of_methodNamed hnamed) hkP hinit
  obtain ⟨vm₁, X₁, hstep₁⟩ := X.invokestatic hexec hown hlink hnamed hmethM hstatic hkP hinitP hy (g := g) hg (argsL := argsL) (rest := rest) (hlen _ hsigM) hstack hdg
  rcases hK m meth c ⟨T.setVm vm₁, locs, cells, slots⟩ { g with stack := rest } (.invokestatic index) mk argsL.toArray X₁ hg hsize hdg hW (X₁.named hnamed) (hpre vm₁ X₁.warmed) with ⟨v, B, X', hpost, hsteps⟩ | ⟨q, B, X', hpost, hsteps⟩
  · exact Or.inl ⟨v, vm₁, B, X₁.warmed, X', hpost, fun target h => hstep₁ _ fun acts => by rw [doInvoke_state]; exact hsteps.trans h⟩
  · exact Or.inr ⟨q, vm₁, B, X₁.warmed, X', hpost, hstep₁ _ fun acts => by rw [doInvoke_state]; exact hsteps⟩
end Calls
theorem vx_cls {s : State} {T : State} {vm₁ : Vm} {E : String} {k : ClassId} (hW : s.WarmedH vm₁) (h : (T.setVm vm₁).vm.findClass E = some k) : s.vm.findClass E = some k := by
  have h1 : vm₁.findClass E = some k := h
  rw [hW.alike.findClass] at h1
  exact h1
/-- the method's frame g, with q thrown over it -/
def vx_W (p : Program) (l : Launch) (e : Env) (R : Room) (s : State) (m : MethodId) (args : Array Value) (below : List Frame) (meth : Method) (c : Code) (H : Heap) (locs : List Loc) (cells slots : Nat) (Q : State → Prop) (g : JFrame) (q : Addr) : Prop :=
  ∀ T : State, T.heap = H → Stand p l e R s m args below meth c T locs cells slots → ∃ t, Steps p.tables e below ((T.setTop g).pushFrame (.throwing q)) t ∧ Q t
def vx_Run (p : Program) (l : Launch) (e : Env) (R : Room) (s : State) (m : MethodId) (args : Array Value) (below : List Frame) (meth : Method) (c : Code) (H : Heap) (locs : List Loc) (cells slots mc ms : Nat) (g : JFrame) (rest : List Value) (Qa : State → Outcome → State → Prop) (XC : String → State → State → Prop) (free : Addr → Prop) : Prop :=
  ∀ T : State, T.heap = H → Stand p l e R s m args below meth c T locs cells slots →
    (∃ (v : Option Value) (st₀ t T' : State) (L : List Loc), st₀.heap = H ∧ Stand p l e R s m args below meth c T' (locs ++ L) (cells + mc) (slots + ms) ∧ (∀ q ∈ L, free q.base) ∧ T'.heap = t.heap ∧ T'.vm = t.vm ∧ Qa st₀ (.returned v) t ∧
      Goes p e below T g T' { g with pc := g.pc + 3, stack := v.toList ++ rest }) ∨
    (∃ (q : Addr) (st₀ t T' : State) (L : List Loc) (E : String) (ce : Cell), st₀.heap = H ∧ Stand p l e R s m args below meth c T' (locs ++ L) (cells + mc) (slots + ms) ∧ (∀ z ∈ L, free z.base) ∧ T'.heap = t.heap ∧ T'.vm = t.vm ∧ XC E st₀ t ∧ t.heap[q]? = some ce ∧ ce.vm = .none ∧ s.vm.findClass E = some ce.cls ∧
      Steps p.tables e below (T.setTop g) ((T'.setTop { g with stack := rest }).pushFrame (.throwing q)))
def vx_X {S : Type} (px : S → Prop) (B : String → S → State → Prop) (A : Nat → Prop) : String → State → State → Prop := fun E st t => ∃ u : S, px u ∧ B E u t ∧ va_F A st t
section Runs
variable {p : Program} {l : Launch} {e : Env} {R : Room} {s : State} {m : MethodId} {args : Array Value} {below : List Frame} {meth : Method} {c : Code} {H : Heap} {locs : List Loc} {cells slots : Nat}
variable {y : MethodName} {bytes cc : ByteArray} {maxL nL mc ms n index : Nat} {ret : Option FieldType} {ws : List Cond} {rm : Room} {Pc : Array Value → State → Prop} {Qc : Array Value → State → Outcome → State → Prop} {XC : String → State → State → Prop} {free : Addr → Prop} {Ts : List Cond} {own C : String} {b : Addr} {As rest : List Value} {g : JFrame}
theorem vx_callBack (cb : CallB R s args own index y bytes maxL ret ws rm mc ms n) (hM : vx_Met l y ws rm Pc Qc XC mc ms free) (hbl : FrameBlind Pc) : vx_Back l R p e below s args y 3 8 (PreOf R mc ms Pc) (PostOf Qc mc ms free) (vx_Post XC mc ms free) := by
  obtain ⟨hrc, hrs, hfr, hlo, hws, hcw, -, hini, -⟩ := cb
  exact vx_back (bytes := bytes) (maxL := maxL) (ret := ret) hM hbl hrc hrs hfr hlo hws hcw (fun a' U hW => word_at hW (Or.inl (by first | rfl | simp [Cond.onTables, Cond.keeps, Cond.steady])) hini)
theorem vx_runV (S : CallFix p m c cc nL s args Ts own) (hM : vx_Met l y ws rm Pc Qc XC mc ms free) (cw : CallW R s args own C index y bytes maxL ret ws rm mc ms n) (hp : PreV s H C b Pc As)
    (hg : g.method = m) (hn : As.length = n) (hsize : g.locals.size = nL) (hstack : g.stack = As.reverse ++ .ref b :: rest) (hW : 2 * g.monitorRoom + (rest.map fun v => v.category).sum ≤ 8) (hdg : decode cc g.pc = .ok (.invokevirtual index, 3)) (hf : cells + mc ≤ R.cells ∧ slots + ms ≤ R.slots) :
    vx_Run p l e R s m args below meth c H locs cells slots mc ms g rest (Qc (Value.ref b :: As).toArray) XC free := by
  have hK : vx_Back l R p e below s args y 3 8 (PreOf R mc ms Pc) (PostOf Qc mc ms free) (vx_Post XC mc ms free) := vx_callBack cw.1 hM hp.1
  obtain ⟨⟨-, -, -, -, -, -, hcode, -, hy, hlen, hl⟩, hin, hse⟩ := cw
  obtain ⟨hx, hb, hml, ho, -⟩ := S
  obtain ⟨-, ⟨cellB, hcB, hoB, hclB⟩, hPc⟩ := hp
  intro T hT X
  rcases vx_callV X hx (C := C) (bytes := bytes) (maxL := maxL) (ret := ret) ho hl hin hse hcode hy hK (by rw [hT]; exact hcB) hoB hclB hg (hsize.trans hml.symm) (argsL := As) (rest := rest) (fun sig h => hn.trans (hlen sig h)) hstack hW (by rw [hb]; exact hdg)
    (fun vm₁ hW₁ => ⟨hf.1, hf.2, hPc (T.setVm vm₁) hT hW₁⟩) with ⟨v, vm₁, ⟨U', l2, c2, s2⟩, hW₁, X', ⟨g', mk, t, L, e1, e2, hq, h1, hL, h2, h3⟩, st⟩ | ⟨q, vm₁, ⟨U', l2, c2, s2⟩, hW₁, X', ⟨g', mk, t, L, E, ce, e1, e2, hq, hce, hcv, hcl, h1, hL, h2, h3⟩, st⟩
  · dsimp only [Pt.U, Pt.locs, Pt.cells, Pt.slots] at X' e1 e2 h1 h2 h3 st
    subst h1; subst h2; subst h3
    exact Or.inl ⟨v, (T.setVm vm₁).calling g' mk (Value.ref b :: As).toArray, t, U', L, hT, X', hL, e1, e2, hq, st⟩
  · dsimp only [Pt.U, Pt.locs, Pt.cells, Pt.slots] at X' e1 e2 h1 h2 h3 st hcl
    subst h1; subst h2; subst h3
    exact Or.inr ⟨q, (T.setVm vm₁).calling g' mk (Value.ref b :: As).toArray, t, U', L, E, ce, hT, X', hL, e1, e2, hq, hce, hcv, vx_cls hW₁ hcl, st⟩
theorem vx_runS (S : CallFix p m c cc nL s args Ts own) (hM : vx_Met l y ws rm Pc Qc XC mc ms free) (cw : CallB R s args own index y bytes maxL ret ws rm mc ms n ∧ (Cond.static y).before args s = true) (hp : PreS s H Pc As)
    (hg : g.method = m) (hn : As.length = n) (hsize : g.locals.size = nL) (hstack : g.stack = As.reverse ++ rest) (hW : 2 * g.monitorRoom + (rest.map fun v => v.category).sum ≤ 8) (hdg : decode cc g.pc = .ok (.invokestatic index, 3)) (hf : cells + mc ≤ R.cells ∧ slots + ms ≤ R.slots) :
    vx_Run p l e R s m args below meth c H locs cells slots mc ms g rest (Qc As.toArray) XC free := by
  have hK : vx_Back l R p e below s args y 3 8 (PreOf R mc ms Pc) (PostOf Qc mc ms free) (vx_Post XC mc ms free) := vx_callBack cw.1 hM hp.1
  obtain ⟨⟨-, -, -, -, -, -, hcode, hini, hy, hlen, hl⟩, hstt⟩ := cw
  obtain ⟨hx, hb, hml, ho, -⟩ := S
  intro T hT X
  rcases vx_callS X hx (bytes := bytes) (maxL := maxL) (ret := ret) ho hl hstt hini hcode hy hK hg (hsize.trans hml.symm) (argsL := As) (rest := rest) (fun sig h => hn.trans (hlen sig h)) hstack hW (by rw [hb]; exact hdg)
    (fun vm₁ hW₁ => ⟨hf.1, hf.2, hp.2 (T.setVm vm₁) hT hW₁⟩) with ⟨v, vm₁, ⟨U', l2, c2, s2⟩, hW₁, X', ⟨g', mk, t, L, e1, e2, hq, h1, hL, h2, h3⟩, st⟩ | ⟨q, vm₁, ⟨U', l2, c2, s2⟩, hW₁, X', ⟨g', mk, t, L, E, ce, e1, e2, hq, hce, hcv, hcl, h1, hL, h2, h3⟩, st⟩
  · dsimp only [Pt.U, Pt.locs, Pt.cells, Pt.slots] at X' e1 e2 h1 h2 h3 st
    subst h1; subst h2; subst h3
    exact Or.inl ⟨v, (T.setVm vm₁).calling g' mk As.toArray, t, U', L, hT, X', hL, e1, e2, hq, st⟩
  · dsimp only [Pt.U, Pt.locs, Pt.cells, Pt.slots] at X' e1 e2 h1 h2 h3 st hcl
    subst h1; subst h2; subst h3
    exact Or.inr ⟨q, (T.setVm vm₁).calling g' mk As.toArray, t, U', L, E, ce, hT, X', hL, e1, e2, hq, hce, hcv, vx_cls hW₁ hcl, st⟩
end Runs
section Rows
variable {p : Program} {l : Launch} {e : Env} {R : Room} {s : State} {m : MethodId} {args : Array Value} {below : List Frame} {meth : Method} {c : Code} {H : Heap} {locs : List Loc} {cells slots : Nat} {Q : State → Prop}
variable {mc ms : Nat} {free : Addr → Prop} {A0 A1 : Nat → Prop} {H0 : Heap} {a : Array Value} {pc : Nat} {ls : Array Slot} {st0 rest : List Value}
theorem vx_keep {st₀ t T' : State} {L : List Loc} (h0 : st₀.heap = H) (e1 : T'.heap = t.heap) (hS : va_S A0 H0 H locs) (hA : ∀ q, q < H.size → A1 q → A0 q) (hf : ∀ q, free q → A0 q) (hL : ∀ q ∈ L, free q.base) (hF : va_F A1 st₀ t) :
    H.size ≤ T'.heap.size ∧ (∀ q : Nat, q < H.size → ¬ A1 q → T'.heap[q]? = H[q]?) ∧ va_S A0 H0 T'.heap (locs ++ L) := by
  obtain ⟨hz, hk⟩ := hF
  rw [h0] at hz hk
  exact ⟨by rw [e1]; exact hz, fun q h1 h2 => by rw [e1]; exact hk q h1 h2,
    ⟨Nat.le_trans hS.1 (by rw [e1]; exact hz), fun q h1 h2 => by rw [e1, hk q (Nat.lt_of_lt_of_le h1 hS.1) (fun z => h2 (hA q (Nat.lt_of_lt_of_le h1 hS.1) z))]; exact hS.2.1 q h1 h2, fun q hq => by
      rcases List.mem_append.mp hq with h | h
      · exact hS.2.2 q h
      · exact hf _ (hL q h)⟩⟩
theorem vx_calli {S SX : Type} {post : Int32 → S → Prop} {px : SX → Prop} {B : S → State → Prop} {BX : String → SX → State → Prop} {AX : Nat → Prop} (hr : vx_Run p l e R s m args below meth c H locs cells slots mc ms (F0 m pc ls st0) rest (va_Qi post B A1 a) (vx_X px BX AX) free) (hS : va_S A0 H0 H locs) (hA : ∀ q, q < H.size → A1 q → A0 q) (hf : ∀ q, free q → A0 q) (hAX : ∀ q, q < H.size → AX q → A0 q)
    (kx : ∀ (E : String) (ce : Cell) (q9 : Addr) (u : SX) (t : State) (H1 : Heap) (locs1 : List Loc), t.heap = H1 → s.vm.Alike t.vm → px u → BX E u t → H.size ≤ H1.size → (∀ q : Nat, q < H.size → ¬ AX q → H1[q]? = H[q]?) → va_S A0 H0 H1 locs1 → H1[q9]? = some ce → ce.vm = .none → s.vm.findClass E = some ce.cls → vx_W p l e R s m args below meth c H1 locs1 (cells + mc) (slots + ms) Q (F0 m pc ls rest) q9)
    (kk : ∀ (r : Int32) (u : S) (t : State) (H1 : Heap) (locs1 : List Loc), t.heap = H1 → s.vm.Alike t.vm → post r u → B u t → H.size ≤ H1.size → (∀ q : Nat, q < H.size → ¬ A1 q → H1[q]? = H[q]?) → va_S A0 H0 H1 locs1 → W p l e R s m args below meth c H1 locs1 (cells + mc) (slots + ms) Q (F0 m (pc + 3) ls (.int r :: rest))) : W p l e R s m args below meth c H locs cells slots Q (F0 m pc ls st0) := by
  intro T hT X
  rcases hr T hT X with ⟨v, st₀, t, T', L, h0, X', hL, e1, e2, ⟨⟨r, u, hv, hp, hb⟩, hF⟩, st⟩ | ⟨q, st₀, t, T', L, E, ce, h0, X', hL, e1, e2, ⟨u, hp, hb, hF⟩, hce, hcv, hcl, st⟩
  · cases hv
    obtain ⟨k1, k2, k3⟩ := vx_keep h0 e1 hS hA hf hL hF
    obtain ⟨t2, a1, b1⟩ := kk r u t T'.heap (locs ++ L) e1.symm (by rw [← e2]; exact X'.warmed.alike) hp hb k1 k2 k3 T' rfl X'
    exact ⟨t2, st t2 a1, b1⟩
  · obtain ⟨k1, k2, k3⟩ := vx_keep h0 e1 hS hAX hf hL hF
    obtain ⟨t2, a1, b1⟩ := kx E ce q u t T'.heap (locs ++ L) e1.symm (by rw [← e2]; exact X'.warmed.alike) hp hb k1 k2 k3 (by rw [e1]; exact hce) hcv hcl T' rfl X'
    exact ⟨t2, st.trans a1, b1⟩
theorem vx_calll {S SX : Type} {post : Int64 → S → Prop} {px : SX → Prop} {B : S → State → Prop} {BX : String → SX → State → Prop} {AX : Nat → Prop} (hr : vx_Run p l e R s m args below meth c H locs cells slots mc ms (F0 m pc ls st0) rest (va_Ql post B A1 a) (vx_X px BX AX) free) (hS : va_S A0 H0 H locs) (hA : ∀ q, q < H.size → A1 q → A0 q) (hf : ∀ q, free q → A0 q) (hAX : ∀ q, q < H.size → AX q → A0 q)
    (kx : ∀ (E : String) (ce : Cell) (q9 : Addr) (u : SX) (t : State) (H1 : Heap) (locs1 : List Loc), t.heap = H1 → s.vm.Alike t.vm → px u → BX E u t → H.size ≤ H1.size → (∀ q : Nat, q < H.size → ¬ AX q → H1[q]? = H[q]?) → va_S A0 H0 H1 locs1 → H1[q9]? = some ce → ce.vm = .none → s.vm.findClass E = some ce.cls → vx_W p l e R s m args below meth c H1 locs1 (cells + mc) (slots + ms) Q (F0 m pc ls rest) q9)
    (kk : ∀ (r : Int64) (u : S) (t : State) (H1 : Heap) (locs1 : List Loc), t.heap = H1 → s.vm.Alike t.vm → post r u → B u t → H.size ≤ H1.size → (∀ q : Nat, q < H.size → ¬ A1 q → H1[q]? = H[q]?) → va_S A0 H0 H1 locs1 → W p l e R s m args below meth c H1 locs1 (cells + mc) (slots + ms) Q (F0 m (pc + 3) ls (.long r :: rest))) : W p l e R s m args below meth c H locs cells slots Q (F0 m pc ls st0) := by
  intro T hT X
  rcases hr T hT X with ⟨v, st₀, t, T', L, h0, X', hL, e1, e2, ⟨⟨r, u, hv, hp, hb⟩, hF⟩, st⟩ | ⟨q, st₀, t, T', L, E, ce, h0, X', hL, e1, e2, ⟨u, hp, hb, hF⟩, hce, hcv, hcl, st⟩
  · cases hv
    obtain ⟨k1, k2, k3⟩ := vx_keep h0 e1 hS hA hf hL hF
    obtain ⟨t2, a1, b1⟩ := kk r u t T'.heap (locs ++ L) e1.symm (by rw [← e2]; exact X'.warmed.alike) hp hb k1 k2 k3 T' rfl X'
    exact ⟨t2, st t2 a1, b1⟩
  · obtain ⟨k1, k2, k3⟩ := vx_keep h0 e1 hS hAX hf hL hF
    obtain ⟨t2, a1, b1⟩ := kx E ce q u t T'.heap (locs ++ L) e1.symm (by rw [← e2]; exact X'.warmed.alike) hp hb k1 k2 k3 (by rw [e1]; exact hce) hcv hcl T' rfl X'
    exact ⟨t2, st.trans a1, b1⟩
theorem vx_callf {S SX : Type} {post : UInt32 → S → Prop} {px : SX → Prop} {B : S → State → Prop} {BX : String → SX → State → Prop} {AX : Nat → Prop} (hr : vx_Run p l e R s m args below meth c H locs cells slots mc ms (F0 m pc ls st0) rest (va_Qf post B A1 a) (vx_X px BX AX) free) (hS : va_S A0 H0 H locs) (hA : ∀ q, q < H.size → A1 q → A0 q) (hf : ∀ q, free q → A0 q) (hAX : ∀ q, q < H.size → AX q → A0 q)
    (kx : ∀ (E : String) (ce : Cell) (q9 : Addr) (u : SX) (t : State) (H1 : Heap) (locs1 : List Loc), t.heap = H1 → s.vm.Alike t.vm → px u → BX E u t → H.size ≤ H1.size → (∀ q : Nat, q < H.size → ¬ AX q → H1[q]? = H[q]?) → va_S A0 H0 H1 locs1 → H1[q9]? = some ce → ce.vm = .none → s.vm.findClass E = some ce.cls → vx_W p l e R s m args below meth c H1 locs1 (cells + mc) (slots + ms) Q (F0 m pc ls rest) q9)
    (kk : ∀ (r : UInt32) (u : S) (t : State) (H1 : Heap) (locs1 : List Loc), t.heap = H1 → s.vm.Alike t.vm → post r u → B u t → H.size ≤ H1.size → (∀ q : Nat, q < H.size → ¬ A1 q → H1[q]? = H[q]?) → va_S A0 H0 H1 locs1 → W p l e R s m args below meth c H1 locs1 (cells + mc) (slots + ms) Q (F0 m (pc + 3) ls (.float r :: rest))) : W p l e R s m args below meth c H locs cells slots Q (F0 m pc ls st0) := by
  intro T hT X
  rcases hr T hT X with ⟨v, st₀, t, T', L, h0, X', hL, e1, e2, ⟨⟨r, u, hv, hp, hb⟩, hF⟩, st⟩ | ⟨q, st₀, t, T', L, E, ce, h0, X', hL, e1, e2, ⟨u, hp, hb, hF⟩, hce, hcv, hcl, st⟩
  · cases hv
    obtain ⟨k1, k2, k3⟩ := vx_keep h0 e1 hS hA hf hL hF
    obtain ⟨t2, a1, b1⟩ := kk r u t T'.heap (locs ++ L) e1.symm (by rw [← e2]; exact X'.warmed.alike) hp hb k1 k2 k3 T' rfl X'
    exact ⟨t2, st t2 a1, b1⟩
  · obtain ⟨k1, k2, k3⟩ := vx_keep h0 e1 hS hAX hf hL hF
    obtain ⟨t2, a1, b1⟩ := kx E ce q u t T'.heap (locs ++ L) e1.symm (by rw [← e2]; exact X'.warmed.alike) hp hb k1 k2 k3 (by rw [e1]; exact hce) hcv hcl T' rfl X'
    exact ⟨t2, st.trans a1, b1⟩
theorem vx_calld {S SX : Type} {post : UInt64 → S → Prop} {px : SX → Prop} {B : S → State → Prop} {BX : String → SX → State → Prop} {AX : Nat → Prop} (hr : vx_Run p l e R s m args below meth c H locs cells slots mc ms (F0 m pc ls st0) rest (va_Qd post B A1 a) (vx_X px BX AX) free) (hS : va_S A0 H0 H locs) (hA : ∀ q, q < H.size → A1 q → A0 q) (hf : ∀ q, free q → A0 q) (hAX : ∀ q, q < H.size → AX q → A0 q)
    (kx : ∀ (E : String) (ce : Cell) (q9 : Addr) (u : SX) (t : State) (H1 : Heap) (locs1 : List Loc), t.heap = H1 → s.vm.Alike t.vm → px u → BX E u t → H.size ≤ H1.size → (∀ q : Nat, q < H.size → ¬ AX q → H1[q]? = H[q]?) → va_S A0 H0 H1 locs1 → H1[q9]? = some ce → ce.vm = .none → s.vm.findClass E = some ce.cls → vx_W p l e R s m args below meth c H1 locs1 (cells + mc) (slots + ms) Q (F0 m pc ls rest) q9)
    (kk : ∀ (r : UInt64) (u : S) (t : State) (H1 : Heap) (locs1 : List Loc), t.heap = H1 → s.vm.Alike t.vm → post r u → B u t → H.size ≤ H1.size → (∀ q : Nat, q < H.size → ¬ A1 q → H1[q]? = H[q]?) → va_S A0 H0 H1 locs1 → W p l e R s m args below meth c H1 locs1 (cells + mc) (slots + ms) Q (F0 m (pc + 3) ls (.double r :: rest))) : W p l e R s m args below meth c H locs cells slots Q (F0 m pc ls st0) := by
  intro T hT X
  rcases hr T hT X with ⟨v, st₀, t, T', L, h0, X', hL, e1, e2, ⟨⟨r, u, hv, hp, hb⟩, hF⟩, st⟩ | ⟨q, st₀, t, T', L, E, ce, h0, X', hL, e1, e2, ⟨u, hp, hb, hF⟩, hce, hcv, hcl, st⟩
  · cases hv
    obtain ⟨k1, k2, k3⟩ := vx_keep h0 e1 hS hA hf hL hF
    obtain ⟨t2, a1, b1⟩ := kk r u t T'.heap (locs ++ L) e1.symm (by rw [← e2]; exact X'.warmed.alike) hp hb k1 k2 k3 T' rfl X'
    exact ⟨t2, st t2 a1, b1⟩
  · obtain ⟨k1, k2, k3⟩ := vx_keep h0 e1 hS hAX hf hL hF
    obtain ⟨t2, a1, b1⟩ := kx E ce q u t T'.heap (locs ++ L) e1.symm (by rw [← e2]; exact X'.warmed.alike) hp hb k1 k2 k3 (by rw [e1]; exact hce) hcv hcl T' rfl X'
    exact ⟨t2, st.trans a1, b1⟩
theorem vx_callv {S SX : Type} {post : S → Prop} {px : SX → Prop} {B : S → State → Prop} {BX : String → SX → State → Prop} {AX : Nat → Prop} (hr : vx_Run p l e R s m args below meth c H locs cells slots mc ms (F0 m pc ls st0) rest (va_Qv post B A1 a) (vx_X px BX AX) free) (hS : va_S A0 H0 H locs) (hA : ∀ q, q < H.size → A1 q → A0 q) (hf : ∀ q, free q → A0 q) (hAX : ∀ q, q < H.size → AX q → A0 q)
    (kx : ∀ (E : String) (ce : Cell) (q9 : Addr) (u : SX) (t : State) (H1 : Heap) (locs1 : List Loc), t.heap = H1 → s.vm.Alike t.vm → px u → BX E u t → H.size ≤ H1.size → (∀ q : Nat, q < H.size → ¬ AX q → H1[q]? = H[q]?) → va_S A0 H0 H1 locs1 → H1[q9]? = some ce → ce.vm = .none → s.vm.findClass E = some ce.cls → vx_W p l e R s m args below meth c H1 locs1 (cells + mc) (slots + ms) Q (F0 m pc ls rest) q9)
    (kk : ∀ (u : S) (t : State) (H1 : Heap) (locs1 : List Loc), t.heap = H1 → s.vm.Alike t.vm → post u → B u t → H.size ≤ H1.size → (∀ q : Nat, q < H.size → ¬ A1 q → H1[q]? = H[q]?) → va_S A0 H0 H1 locs1 → W p l e R s m args below meth c H1 locs1 (cells + mc) (slots + ms) Q (F0 m (pc + 3) ls (rest))) : W p l e R s m args below meth c H locs cells slots Q (F0 m pc ls st0) := by
  intro T hT X
  rcases hr T hT X with ⟨v, st₀, t, T', L, h0, X', hL, e1, e2, ⟨⟨u, hv, hp, hb⟩, hF⟩, st⟩ | ⟨q, st₀, t, T', L, E, ce, h0, X', hL, e1, e2, ⟨u, hp, hb, hF⟩, hce, hcv, hcl, st⟩
  · cases hv
    obtain ⟨k1, k2, k3⟩ := vx_keep h0 e1 hS hA hf hL hF
    obtain ⟨t2, a1, b1⟩ := kk u t T'.heap (locs ++ L) e1.symm (by rw [← e2]; exact X'.warmed.alike) hp hb k1 k2 k3 T' rfl X'
    exact ⟨t2, st t2 a1, b1⟩
  · obtain ⟨k1, k2, k3⟩ := vx_keep h0 e1 hS hAX hf hL hF
    obtain ⟨t2, a1, b1⟩ := kx E ce q u t T'.heap (locs ++ L) e1.symm (by rw [← e2]; exact X'.warmed.alike) hp hb k1 k2 k3 (by rw [e1]; exact hce) hcv hcl T' rfl X'
    exact ⟨t2, st.trans a1, b1⟩
/-- caught by the row x of this method's table; the rows ahead don't take it -/
theorem vx_catch {own name : String} {E : String} {ce : Cell} {q : Addr} (hown : s.vm.findClass own = some m.cls) (pre : List ExceptionTableEntry) (x : ExceptionTableEntry) (suf : List ExceptionTableEntry) (hsplit : c.exceptionTable.toList = pre ++ x :: suf)
    (hpass : ∀ z ∈ pre, covers z pc = false ∨ (z.catchType ≠ 0 ∧ ∃ nm : String, (Cond.classLink own z.catchType nm).before args s = true ∧ va_Nc E nm s)) (hx : covers x pc = true) (h0 : x.catchType ≠ 0)
    (hlink : (Cond.classLink own x.catchType name).before args s = true) (hcast : (Cond.castable E name).before args s = true) (hcell : H[q]? = some ce) (hv : ce.vm = .none) (hcl : s.vm.findClass E = some ce.cls)
    (kk : W p l e R s m args below meth c H locs cells slots Q (F0 m x.handlerPc ls [.ref q])) : vx_W p l e R s m args below meth c H locs cells slots Q (F0 m pc ls rest) q := by
  intro T hT X
  have hpl : e.platform.magicAccessors = ({} : Platform).magicAccessors := by rw [X.admits.platform]
  obtain ⟨c3, c4, hc3, hc4, hasg⟩ := Cond.castable_spec hcast
  cases Option.some.inj (hc3.symm.trans hcl)
  obtain ⟨c5, hc5, hcl5⟩ := Cond.classLink_spec hown hlink e.platform hpl
  cases Option.some.inj (hc4.symm.trans hc5)
  obtain ⟨vm', X', st⟩ := X.thenCaughtThrough q (g := F0 m pc ls rest) rfl (Steps.refl _) (by rw [hT]; exact hcell) (by rw [hv]; rfl) (by obtain ⟨k9, h9, -⟩ := Vm.findClass_spec hcl; exact ⟨k9, h9⟩) pre x suf hsplit
    (fun z hz => by
      rcases hpass z hz with h | ⟨hz0, nm, hl1, hn1⟩
      · exact Or.inl h
      · obtain ⟨c6, hc6, hcl6⟩ := Cond.classLink_spec hown hl1 e.platform hpl
        obtain ⟨a8, b8, h1, h2, h3⟩ := hn1
        cases Option.some.inj (h1.symm.trans hcl)
        cases Option.some.inj (h2.symm.trans hc6)
        exact Or.inr ⟨hz0, _, hcl6, h3⟩) hx (Or.inr ⟨h0, c4, hcl5, hasg⟩)
  obtain ⟨t, a1, b1⟩ := kk (T.setVm vm') hT X'
  exact ⟨t, st.trans a1, b1⟩
end Rows
section Ends
variable {p : Program} {l : Launch} {e : Env} {R : Room} {s : State} {m : MethodId} {args : Array Value} {below : List Frame} {meth : Method} {c : Code} {H : Heap} {locs : List Loc} {cells slots : Nat} {Q : State → Prop}
variable {mc ms : Nat} {free : Addr → Prop} {A0 A1 : Nat → Prop} {H0 : Heap} {a : Array Value} {ls : Array Slot} {st0 rest : List Value}
variable {Qc : Array Value → State → Outcome → State → Prop} {XC : String → State → State → Prop}
/-- what a body that may throw owes at its end -/
def vx_MQ (below : List Frame) (Qc : Array Value → State → Outcome → State → Prop) (XC : String → State → State → Prop) (a : Array Value) (s : State) (mc ms : Nat) (free : Addr → Prop) : State → Prop := fun t =>
  ∃ o, t.status = .running ∧ Ended t below o ∧ vx_Q Qc XC mc ms free a s o t
theorem vx_ret {g : JFrame} {mc ms : Nat} (k : W p l e R s m args below meth c H locs cells slots (MQ below Qc args s mc ms free) g) : W p l e R s m args below meth c H locs cells slots (vx_MQ below Qc XC args s mc ms free) g := by
  intro T hT X
  obtain ⟨t, a1, o, b1, b2, b3, b4⟩ := k T hT X
  exact ⟨t, a1, o, b1, b2, Or.inl ⟨b3, b4⟩⟩
/-- not caught here: it goes on to the caller -/
theorem vx_widen {g : JFrame} {q : Addr} {k n : Nat} (h1 : cells ≤ k) (h2 : slots ≤ n) (kk : vx_W p l e R s m args below meth c H locs k n Q g q) : vx_W p l e R s m args below meth c H locs cells slots Q g q := fun T hT X => kk T hT (stand_widen X h1 h2)
theorem vx_out {pc : Nat} {E : String} {ce : Cell} {q : Addr} {mc ms : Nat} (hout : ∀ x ∈ c.exceptionTable.toList, covers x pc = false) (hlocks : meth.locks = false) (hcell : H[q]? = some ce) (hv : ce.vm = .none) (hcl : s.vm.findClass E = some ce.cls)
    (hx : ∀ t : State, t.heap = H → s.vm.Alike t.vm → XC E s t) (hf : ∀ z ∈ locs, free z.base) (hc : cells ≤ mc) (hs : slots ≤ ms) :
    vx_W p l e R s m args below meth c H locs cells slots (vx_MQ below Qc XC args s mc ms free) (F0 m pc ls rest) q := by
  intro T hT X
  obtain ⟨st1, hrun, hend, hW, hsm⟩ := X.leaveThrown q (g := F0 m pc ls rest) rfl rfl rfl hout hlocks
  have hcell9 : (T.setFrames (.throwing q :: below)).heap[q]? = some ce := by
    show T.heap[q]? = some ce
    rw [hT]; exact hcell
  exact ⟨_, st1, .threw q, hrun, hend, Or.inr ⟨q, rfl, E, ce, locs, hx _ hT hW.alike, hcell9, hv, hcl, hW, hsm.mono hc hs, hf⟩⟩
theorem vx_frame {U : State} {k n : Nat} (h : s.sameButNew ({ U with vm := s.vm } : State) locs k n) : s.heap.size ≤ U.heap.size ∧ ∀ q : Nat, q < s.heap.size → (∀ z ∈ locs, z.base ≠ q) → U.heap[q]? = s.heap[q]? := by
  obtain ⟨-, h2, -, -, -, h6⟩ := h
  refine ⟨h2, fun q hq hz => ?_⟩
  obtain ⟨c9, e1, e2, e3, e4⟩ := h6 q _ (Array.getElem?_eq_getElem hq)
  have hs : c9.slots = (s.heap[q]).slots := Array.ext_getElem? fun i => e4 i fun hm => hz _ hm rfl
  have h9 : c9 = s.heap[q] := by
    rw [hs] at e2
    exact e2
  have e5 : U.heap[q]? = some c9 := e1
  rw [e5, h9, Array.getElem?_eq_getElem hq]
/-- the words of a throw but the four that speak of the heap -/
def vx_no (w : Cond) : Bool := decide (w ≠ .isRef (.static Bundle.tN "UNASSIGNED_STACK" Bundle.steD)) && decide (w ≠ .isRef (.static Bundle.tN "SUPPRESSED_SENTINEL" Bundle.listD)) && decide (w ≠ .laysStatic Bundle.tN "UNASSIGNED_STACK" Bundle.steD) && decide (w ≠ .laysStatic Bundle.tN "SUPPRESSED_SENTINEL" Bundle.listD)
def vx_at0 (own : String) (ic : Nat) (X : String) (names : List String) : List Cond := (Bundle.ownAtoms0 own ic X names).filter vx_no
def vx_atS (own : String) (ic : Nat) (X : String) (names : List String) : List Cond := (Bundle.ownAtoms own ic X names).filter vx_no
/-- a word that the tables alone decide, or a good one -/
def vx_ot (w : Cond) : Bool := w.onTables || goodWord w
theorem vx_ot_at {args a' : Array Value} {s U : State} {w : Cond} (hW : s.WarmedH U.vm) (hvm : s.vm = U.vm) (hg : vx_ot w = true) (h : w.before args s = true) : w.before a' U = true := by
  simp only [vx_ot, Bool.or_eq_true] at hg
  rcases hg with hg | hg
  · exact va_tabs hg hvm h
  · exact word_at hW (good_of_word hg) h
/-- a list's words: the good ones out of the method's own list, the others by premises of their own -/
theorem vx_hat {args : Array Value} {s : State} {L B : List Cond} (h1 : ∀ w ∈ L.filter goodWord, w.before args s = true) (h2 : ∀ w ∈ L.filter (fun w => !goodWord w), w ∈ B) (h3 : ∀ w ∈ B, w.before args s = true) : ∀ w ∈ L, w.before args s = true := by
  intro w hw
  by_cases g : goodWord w = true
  · exact h1 w (List.mem_filter.mpr ⟨hw, g⟩)
  · refine h3 w (h2 w (List.mem_filter.mpr ⟨hw, ?_⟩))
    show (!goodWord w) = true
    cases hgw : goodWord w
    · rfl
    · exact absurd hgw g
theorem vx_c {args : Array Value} {s : State} {w : Cond} {B : List Cond} (h : w.before args s = true) (t : ∀ w ∈ B, w.before args s = true) : ∀ w' ∈ w :: B, w'.before args s = true := fun w' h' => (List.mem_cons.mp h').elim (fun e => by rw [e]; exact h) (t w')
theorem vx_n {args : Array Value} {s : State} : ∀ w ∈ ([] : List Cond), w.before args s = true := fun _ h => nomatch h
theorem vx_own {args : Array Value} {s : State} {L : List Cond} (h1 : ∀ w ∈ L.filter vx_no, w.before args s = true)
    (hU : (Cond.isRef (.static Bundle.tN "UNASSIGNED_STACK" Bundle.steD)).before args s = true) (hN : (Cond.isRef (.static Bundle.tN "SUPPRESSED_SENTINEL" Bundle.listD)).before args s = true)
    (lU : (Cond.laysStatic Bundle.tN "UNASSIGNED_STACK" Bundle.steD).before args s = true) (lN : (Cond.laysStatic Bundle.tN "SUPPRESSED_SENTINEL" Bundle.listD).before args s = true) : ∀ w ∈ L, w.before args s = true := by
  intro w hw
  by_cases e1 : w = .isRef (.static Bundle.tN "UNASSIGNED_STACK" Bundle.steD)
  · rw [e1]; exact hU
  · by_cases e2 : w = .isRef (.static Bundle.tN "SUPPRESSED_SENTINEL" Bundle.listD)
    · rw [e2]; exact hN
    · by_cases e3 : w = .laysStatic Bundle.tN "UNASSIGNED_STACK" Bundle.steD
      · rw [e3]; exact lU
      · by_cases e4 : w = .laysStatic Bundle.tN "SUPPRESSED_SENTINEL" Bundle.listD
        · rw [e4]; exact lN
        · exact h1 w (List.mem_filter.mpr ⟨hw, by unfold vx_no; rw [decide_eq_true e1, decide_eq_true e2, decide_eq_true e3, decide_eq_true e4]; rfl⟩)
/-- where a static field lies, its class's statics cell in H -/
def vx_L (C n d : String) (A : Nat → Prop) (U : State) (H : Heap) : Prop := ∃ (c : ClassId) (k : Class) (i : Nat) (f : Field) (a : Nat) (cell : Cell), U.vm.findClass C = some c ∧ U.fieldFound? C n d = some (c, k, i, f) ∧ f.isStatic = true ∧ k.statics = some a ∧ H[a]? = some cell ∧ cell.vm.isStatics = true ∧ cell.cls = c ∧ f.slot < cell.slots.size ∧ k.staticTypes[f.slot]? = some f.type ∧ ¬ A a
theorem vx_L.moved {C n d : String} {A : Nat → Prop} {u U : State} {H : Heap} (hvm : u.vm.Alike U.vm) (h : vx_L C n d A u H) : vx_L C n d A U H := by
  obtain ⟨c, k, i, f, a, cell, h1, h2, h3, h4, h5, h6, h7, h8, h9, h10⟩ := h
  obtain ⟨k', hi', he⟩ := State.fieldFound?_setVm hvm h2
  exact ⟨c, k', i, f, a, cell, by rw [hvm.findClass]; exact h1, hi', h3, by rw [he]; exact h4, h5, h6, h7, h8, by rw [he]; exact h9, h10⟩
theorem vx_L.kept {C n d : String} {A : Nat → Prop} {U : State} {H H1 : Heap} (h : vx_L C n d A U H) (hq : ∀ a : Nat, a < H.size → ¬ A a → H1[a]? = H[a]?) : vx_L C n d A U H1 := by
  obtain ⟨c, k, i, f, a, cell, h1, h2, h3, h4, h5, h6, h7, h8, h9, h10⟩ := h
  exact ⟨c, k, i, f, a, cell, h1, h2, h3, h4, by rw [hq a (Array.getElem?_eq_some_iff.mp h5).1 h10]; exact h5, h6, h7, h8, h9, h10⟩
theorem vx_L.narrow {C n d : String} {A B : Nat → Prop} {U : State} {H : Heap} (h : vx_L C n d A U H) (hAB : ∀ q, B q → A q) : vx_L C n d B U H := by
  obtain ⟨c, k, i, f, a, cell, h1, h2, h3, h4, h5, h6, h7, h8, h9, h10⟩ := h
  exact ⟨c, k, i, f, a, cell, h1, h2, h3, h4, h5, h6, h7, h8, h9, fun z => h10 (hAB _ z)⟩
theorem vx_L.word {C n d : String} {A : Nat → Prop} {s : State} {args : Array Value} (h : vx_L C n d A s s.heap) : (Cond.laysStatic C n d).before args s = true := by
  obtain ⟨c, k, i, f, a, cell, h1, h2, h3, h4, h5, h6, h7, h8, h9, -⟩ := h
  show (Cond.laysStatic C n d).holds args s none s [] = true
  exact Cond.laysStatic_of h1 h2 h3 h4 h5 h6 h7 h8 h9
/-- .. and what it holds: null or some reference -/
def vx_Zq (C n d : String) (A : Nat → Prop) (U : State) (H : Heap) : Prop := va_Zq C n d A U H ∧ vx_L C n d A U H
theorem vx_Zq.moved {C n d : String} {A : Nat → Prop} {u U : State} {H : Heap} (hvm : u.vm.Alike U.vm) (h : vx_Zq C n d A u H) : vx_Zq C n d A U H := ⟨va_Zq.moved hvm h.1, vx_L.moved hvm h.2⟩
theorem vx_Zq.kept {C n d : String} {A : Nat → Prop} {U : State} {H H1 : Heap} (h : vx_Zq C n d A U H) (hq : ∀ a : Nat, a < H.size → ¬ A a → H1[a]? = H[a]?) : vx_Zq C n d A U H1 := ⟨va_Zq.kept h.1 hq, vx_L.kept h.2 hq⟩
theorem vx_Zq.narrow {C n d : String} {A B : Nat → Prop} {U : State} {H : Heap} (h : vx_Zq C n d A U H) (hAB : ∀ q, B q → A q) : vx_Zq C n d B U H := ⟨va_Zq.narrow h.1 hAB, vx_L.narrow h.2 hAB⟩
theorem vx_Zqof {args : Array Value} {s : State} {C n d : String} {A : Nat → Prop} (hl : (Cond.laysStatic C n d).before args s = true) (hini : (Cond.initialized C).before args s = true) (h : (Cond.isRef (.static C n d)).before args s = true) (hA : ∀ a : Nat, a < s.heap.size → ¬ A a) : vx_Zq C n d A s s.heap := by
  refine ⟨va_Zqof hl hini h hA, ?_⟩
  obtain ⟨c, k, i, f, a, cell, h1, h2, h3, h4, h5, h6, h7, h8, h9⟩ := Cond.laysStatic_spec hl
  exact ⟨c, k, i, f, a, cell, h1, h2, h3, h4, h5, h6, h7, h8, h9, hA a (Array.getElem?_eq_some_iff.mp h5).1⟩
theorem vx_isRef {C n d : String} {v : Value} {A : Nat → Prop} {s : State} {args : Array Value} (h : va_Z C n d v A s s.heap) (hv : v.isRef = true) : (Cond.isRef (.static C n d)).before args s = true := by
  obtain ⟨cf, kf, fi, f, a, cell, h1, h2, h3, h4, h5, h6, h7, -⟩ := h
  have he : (Term.static C n d).eval args s none [] s = some v := by
    simp [Term.eval, State.fieldNamed?, h1, h2, h4, h5, h6, h7]
  simp only [Cond.before, Cond.holds, Cond.value, he]
  cases v <;> simp_all [Value.isRef]
theorem vx_isRefq {C n d : String} {A : Nat → Prop} {s : State} {args : Array Value} (h : va_Zq C n d A s s.heap) : (Cond.isRef (.static C n d)).before args s = true := by
  rcases h with h | ⟨t, h⟩
  · exact vx_isRef h rfl
  · exact vx_isRef h rfl
/-- the same frame, seen from here: as if the method were called anew in this heap -/
theorem vx_rebase {T : State} (X : Stand p l e R s m args below meth c T locs cells slots) {R' : Room} (hf : R'.frames ≤ R.frames) (hl : R'.locals ≤ R.locals) (hc : cells + R'.cells ≤ R.cells) (hs : slots + R'.slots ≤ R.slots) :
    Stand p l e R' ((T.setVm s.vm).setFrames (.invoking m args :: below)) m args below meth c T [] 0 0 := by
  have htop : (T.setVm s.vm).topJava?.isSome := X.here.top
  have hF : ((T.setVm s.vm).setFrames (.invoking m args :: below)).frames = .invoking m args :: below := State.frames_setFrames _ (State.cur_lt_of_top htop)
  obtain ⟨g₀, hg0⟩ := Option.isSome_iff_exists.mp htop
  obtain ⟨r, hr⟩ := State.topJava?_eq_some.mp hg0
  have hl9 : e.platform.stackLimits (T.setVm s.vm).me = e.platform.stackLimits s.me := X.limits
  have hb9 : (T.setVm s.vm).me.stackBytes = s.me.stackBytes := X.bytes
  refine ⟨X.admits, X.cas, X.clock, hF, ?_, X.hears, X.method, X.code, X.here, X.tail, X.warmed, ?_, ?_, ?_⟩
  · have h := X.room
    have hU : ((T.setVm s.vm).setFrames (.invoking m args :: below)).localsInUse = s.localsInUse := by
      rw [State.localsInUse_invoking hF (meth := meth) (c := c) X.method X.code, State.localsInUse_invoking X.frames X.method X.code]
    simp only [State.hasRoom, Bool.and_eq_true, decide_eq_true_eq] at h ⊢
    obtain ⟨⟨⟨⟨h1, h2, h3, h4, h5, h6⟩, h7⟩, h8⟩, h9⟩ := h
    rw [X.frames, List.length_cons] at h2 h3
    have q1 := X.heapSize
    have q2 := X.used
    simp only [hF, hU, List.length_cons, State.stackLimits_setFrames, State.stackBytes_setFrames, hl9, hb9]
    refine ⟨⟨⟨⟨by omega, by omega, by omega, by omega, by omega, h6⟩, ?_⟩, ?_⟩, X.book⟩
    · show T.heap.size + R'.cells ≤ e.platform.maxCells
      omega
    · show T.slotsUsed + R'.slots ≤ e.platform.maxSlots
      omega
  · rw [State.stackLimits_setFrames]; rfl
  · rw [State.stackBytes_setFrames]; rfl
  · refine ⟨?_, Nat.le_refl _, Nat.le_refl _, ?_, ?_, fun a c9 h9 => ⟨c9, h9, rfl, rfl, fun _ _ => rfl⟩⟩
    · obtain ⟨t, ht, -⟩ := State.frames_cons hr
      show T.setVm s.vm = { ((T.setVm s.vm).setFrames (.invoking m args :: below)).setFrames (T.setVm s.vm).frames with heap := T.heap, slotsUsed := T.slotsUsed }
      rw [State.setFrames_setFrames, State.setFrames_self ht]
      rfl
    · show T.slotsUsed = T.slotsUsed + ((T.heap.toList.drop T.heap.size).map (·.slots.size)).sum
      rw [List.drop_eq_nil_of_le (Nat.le_of_eq Array.length_toList)]
      rfl
    · show ((T.heap.toList.drop T.heap.size).map (·.slots.size)).sum ≤ 0
      rw [List.drop_eq_nil_of_le (Nat.le_of_eq Array.length_toList)]
      exact Nat.le_refl _
/-- 'throw new E()': new; dup; invokespecial; athrow -/
theorem vx_throw0 {cc : ByteArray} {pc : Nat} (hexec : p.tables.exec = Jvm.exec) (hb : c.code = cc) (hl : l.stackTraces = false) {own cls : String} {names : List String} {ik ic mc ms : Nat} {A : Nat → Prop}
    (hown : s.vm.findClass own = some m.cls) (hcls : Bundle.fit cls = true) (hnames : ∀ n ∈ names, Bundle.fit n = true)
    (hk : (Cond.classLink own ik cls).before args s = true) (hini : (Cond.initialized cls).before args s = true) (hat : ∀ w ∈ vx_at0 own ic cls names, w.before args s = true)
    (hgood : ∀ w ∈ Cond.classLink own ik cls :: Cond.initialized cls :: vx_at0 own ic cls names, vx_ot w = true)
    (hU : vx_Zq Bundle.tN "UNASSIGNED_STACK" Bundle.steD A s s.heap) (hN : vx_Zq Bundle.tN "SUPPRESSED_SENTINEL" Bundle.listD A s s.heap) (hS : va_S A s.heap H locs) (hsize : ls.size = c.maxLocals)
    (d0 : decode cc pc = .ok (.new ik, 3)) (d3 : decode cc (pc + 3) = .ok (.dup, 1)) (d4 : decode cc (pc + 4) = .ok (.invokespecial ic, 3)) (d7 : decode cc (pc + 7) = .ok (.athrow, 1))
    (hout : ∀ x ∈ c.exceptionTable.toList, covers x (pc + 7) = false)
    (hRframes : names.length + 3 < R.frames) (hRlocals : (rest.map fun v => v.category).sum + (13 * (names.length + 1) + 42) ≤ R.locals) (hRcells : cells + 1 ≤ R.cells) (hRslots : slots + 6 ≤ R.slots) (hlocks : meth.locks = false)
    (hx : ∀ t : State, s.vm.Alike t.vm → H.size ≤ t.heap.size → (∀ q : Nat, q < H.size → t.heap[q]? = H[q]?) → XC cls s t)
    (hf : ∀ z ∈ locs, free z.base) (hc : cells + 1 ≤ mc) (hs : slots + 6 ≤ ms) :
    W p l e R s m args below meth c H locs cells slots (vx_MQ below Qc XC args s mc ms free) (F0 m pc ls rest) := by
  intro T hT X
  have htr : e.platform.stackTraces = false := (show e.platform.stackTraces = l.stackTraces by rw [X.admits.platform]).trans hl
  have Y := vx_rebase X (R' := { frames := R.frames, locals := R.locals, cells := 1, slots := 6 }) (Nat.le_refl _) (Nat.le_refl _) hRcells hRslots
  obtain ⟨s', hA⟩ : ∃ z, z = (T.setVm s.vm).setFrames (.invoking m args :: below) := ⟨_, rfl⟩
  rw [← hA] at Y
  have hvm : s'.vm = s.vm := by rw [hA]; rfl
  have hhp : s'.heap = H := by rw [hA]; exact hT
  have hW0 : s.WarmedH s'.vm := by rw [hvm]; exact State.WarmedH.refl s
  have hat' : ∀ w ∈ vx_at0 own ic cls names, w.before args s' = true := fun w hw => vx_ot_at hW0 hvm.symm (hgood w (List.mem_cons_of_mem _ (List.mem_cons_of_mem _ hw))) (hat w hw)
  have hk' : (Cond.classLink own ik cls).before args s' = true := vx_ot_at hW0 hvm.symm (hgood _ List.mem_cons_self) hk
  have hini' : (Cond.initialized cls).before args s' = true := vx_ot_at hW0 hvm.symm (hgood _ (List.mem_cons_of_mem _ List.mem_cons_self)) hini
  have hU' : vx_Zq Bundle.tN "UNASSIGNED_STACK" Bundle.steD A s' s'.heap := by rw [hhp]; exact vx_Zq.moved hW0.alike (hU.kept hS.2.1)
  have hN' : vx_Zq Bundle.tN "SUPPRESSED_SENTINEL" Bundle.listD A s' s'.heap := by rw [hhp]; exact vx_Zq.moved hW0.alike (hN.kept hS.2.1)
  have h : ∀ w ∈ Bundle.ownAtoms0 own ic cls names, w.before args s' = true := vx_own hat' (vx_isRefq hU'.1) (vx_isRefq hN'.1) hU'.2.word hN'.2.word
  have hown' : s'.vm.findClass own = some m.cls := by rw [hvm]; exact hown
  have hins : (Cond.instantiable cls 6).before args s' = true := h _ (by simp [Bundle.ownAtoms0])
  obtain ⟨vm₁, cX, kX, hfX, hkX, -, -, X₁, st1⟩ := Y.newCold hexec (own := own) (C := cls) (index := ik) (n := 6) hown' hk' hins hini'
    (g := F0 m pc ls rest) rfl (by rw [hb]; exact d0) (Nat.le_refl _) (Nat.le_refl _)
  generalize hT1 : (T.setVm vm₁).pushCell { cls := cX, slots := kX.instanceTypes.map defaultValue, vm := .none } = T1 at X₁ st1
  have hcat : (Value.ref T.heap.size).category = 1 := rfl
  have hcellA : T1.heap[T.heap.size]? = some (freshCell cX kX) := by rw [← hT1]; exact State.heap_pushCell_size _ _
  have d3' : decode c.code (pc + 3) = .ok (.dup, 1) := by rw [hb]; exact d3
  obtain ⟨U, hsteps, hrun, hend, hW, hsame, ce, hce, hO⟩ := X₁.ctorThrow0 hexec htr (own := own) (cls := cls) (names := names) (ic := ic) hown' hcls hnames h (fun x hx => nomatch hx) hfX hkX hcellA (by rw [hhp, hT]; exact Nat.le_refl _)
    (g := { method := m, pc := pc + 4, locals := ls, stack := .ref T.heap.size :: .ref T.heap.size :: rest, locked := none }) rfl hsize rfl rfl (rest := rest) rfl
    (by rw [hb]; exact d4) (by rw [hb]; exact d7) hout hRframes (by simp only [List.map_cons, List.sum_cons, hcat]; omega) hlocks
  obtain ⟨f1, f2⟩ := vx_frame hsame
  rw [hhp] at f1 f2
  have hWs : s.WarmedH U.vm := State.WarmedH.trans hW0 hW
  have hcl : s.vm.findClass cls = some ce.cls := by
    have h9 := hO.cls
    rw [hvm] at h9
    exact h9
  have hall : s.sameButNew ({ U with vm := s.vm } : State) locs mc ms := by
    subst hA
    obtain ⟨e1, e2⟩ := hsame
    rw [State.setFrames_setFrames] at e1
    have h2 : (T.setVm s.vm).sameButNew ({ U with vm := s.vm } : State) [] (0 + 1) (0 + 6) := ⟨e1, e2⟩
    have h3 := X.same.trans h2
    rw [List.append_nil] at h3
    exact h3.mono hc hs
  refine ⟨U, ?_, .threw T.heap.size, hrun, hend, Or.inr ⟨T.heap.size, rfl, cls, ce, locs, hx U hWs.alike f1 (fun q hq => f2 q hq (fun z hz => nomatch hz)), hce, hO.vm, hcl, hWs, hall, hf⟩⟩
  refine st1 _ ?_
  show Steps p.tables e below (T1.setTop { method := m, pc := pc + 3, locals := ls, stack := .ref T.heap.size :: rest, locked := none }) _
  jvm_step X₁.here [X₁.here.top, hexec, d3', Value.category]
  exact hsteps
/-- 'throw new E("text")': new; dup; ldc; invokespecial; athrow -/
theorem vx_throwS {cc : ByteArray} {pc : Nat} (hexec : p.tables.exec = Jvm.exec) (hb : c.code = cc) (hl : l.stackTraces = false) {own cls text : String} {names : List String} {ik is ic mc ms sa : Nat} {A : Nat → Prop}
    (hown : s.vm.findClass own = some m.cls) (hcls : Bundle.fit cls = true) (hnames : ∀ n ∈ names, Bundle.fit n = true)
    (hk : (Cond.classLink own ik cls).before args s = true) (hini : (Cond.initialized cls).before args s = true) (hstr : vk_R own is text sa s) (hat : ∀ w ∈ vx_atS own ic cls names, w.before args s = true)
    (hgood : ∀ w ∈ Cond.classLink own ik cls :: Cond.initialized cls :: vx_atS own ic cls names, vx_ot w = true)
    (hU : vx_Zq Bundle.tN "UNASSIGNED_STACK" Bundle.steD A s s.heap) (hN : vx_Zq Bundle.tN "SUPPRESSED_SENTINEL" Bundle.listD A s s.heap) (hS : va_S A s.heap H locs) (hsize : ls.size = c.maxLocals)
    (d0 : decode cc pc = .ok (.new ik, 3)) (d3 : decode cc (pc + 3) = .ok (.dup, 1)) (d4 : decode cc (pc + 4) = .ok (.ldc is, 2)) (d6 : decode cc (pc + 6) = .ok (.invokespecial ic, 3)) (d9 : decode cc (pc + 9) = .ok (.athrow, 1))
    (hout : ∀ x ∈ c.exceptionTable.toList, covers x (pc + 9) = false)
    (hRframes : names.length + 3 < R.frames) (hRlocals : (rest.map fun v => v.category).sum + (13 * (names.length + 1) + 43) ≤ R.locals) (hRcells : cells + 1 ≤ R.cells) (hRslots : slots + 6 ≤ R.slots) (hlocks : meth.locks = false)
    (hx : ∀ t : State, s.vm.Alike t.vm → H.size ≤ t.heap.size → (∀ q : Nat, q < H.size → t.heap[q]? = H[q]?) → XC cls s t)
    (hf : ∀ z ∈ locs, free z.base) (hc : cells + 1 ≤ mc) (hs : slots + 6 ≤ ms) :
    W p l e R s m args below meth c H locs cells slots (vx_MQ below Qc XC args s mc ms free) (F0 m pc ls rest) := by
  intro T hT X
  have htr : e.platform.stackTraces = false := (show e.platform.stackTraces = l.stackTraces by rw [X.admits.platform]).trans hl
  have Y := vx_rebase X (R' := { frames := R.frames, locals := R.locals, cells := 1, slots := 6 }) (Nat.le_refl _) (Nat.le_refl _) hRcells hRslots
  obtain ⟨s', hA⟩ : ∃ z, z = (T.setVm s.vm).setFrames (.invoking m args :: below) := ⟨_, rfl⟩
  rw [← hA] at Y
  have hvm : s'.vm = s.vm := by rw [hA]; rfl
  have hhp : s'.heap = H := by rw [hA]; exact hT
  have hW0 : s.WarmedH s'.vm := by rw [hvm]; exact State.WarmedH.refl s
  have hat' : ∀ w ∈ vx_atS own ic cls names, w.before args s' = true := fun w hw => vx_ot_at hW0 hvm.symm (hgood w (List.mem_cons_of_mem _ (List.mem_cons_of_mem _ hw))) (hat w hw)
  have hk' : (Cond.classLink own ik cls).before args s' = true := vx_ot_at hW0 hvm.symm (hgood _ List.mem_cons_self) hk
  have hini' : (Cond.initialized cls).before args s' = true := vx_ot_at hW0 hvm.symm (hgood _ (List.mem_cons_of_mem _ List.mem_cons_self)) hini
  have hU' : vx_Zq Bundle.tN "UNASSIGNED_STACK" Bundle.steD A s' s'.heap := by rw [hhp]; exact vx_Zq.moved hW0.alike (hU.kept hS.2.1)
  have hN' : vx_Zq Bundle.tN "SUPPRESSED_SENTINEL" Bundle.listD A s' s'.heap := by rw [hhp]; exact vx_Zq.moved hW0.alike (hN.kept hS.2.1)
  have h : ∀ w ∈ Bundle.ownAtoms own ic cls names, w.before args s' = true := vx_own hat' (vx_isRefq hU'.1) (vx_isRefq hN'.1) hU'.2.word hN'.2.word
  have hown' : s'.vm.findClass own = some m.cls := by rw [hvm]; exact hown
  have hins : (Cond.instantiable cls 6).before args s' = true := h _ (by simp [Bundle.ownAtoms])
  obtain ⟨vm₁, cX, kX, hfX, hkX, -, -, X₁, st1⟩ := Y.newCold hexec (own := own) (C := cls) (index := ik) (n := 6) hown' hk' hins hini'
    (g := F0 m pc ls rest) rfl (by rw [hb]; exact d0) (Nat.le_refl _) (Nat.le_refl _)
  generalize hT1 : (T.setVm vm₁).pushCell { cls := cX, slots := kX.instanceTypes.map defaultValue, vm := .none } = T1 at X₁ st1
  have hcat : (Value.ref T.heap.size).category = 1 := rfl
  have hcellA : T1.heap[T.heap.size]? = some (freshCell cX kX) := by rw [← hT1]; exact State.heap_pushCell_size _ _
  have d3' : decode c.code (pc + 3) = .ok (.dup, 1) := by rw [hb]; exact d3
  have d4' : decode c.code (pc + 4) = .ok (.ldc is, 2) := by rw [hb]; exact d4
  have hstr' : vk_R own is text sa s' := vk_R.warm hW0 hstr
  obtain ⟨U, hsteps, hrun, hend, hW, hsame, ce, hce, hO⟩ := X₁.ctorThrowS hexec htr (own := own) (cls := cls) (names := names) (ic := ic) hown' hcls hnames h (fun x hx => nomatch hx) hfX hkX hcellA (by rw [hhp, hT]; exact Nat.le_refl _) (msg := .ref sa) rfl
    (g := { method := m, pc := pc + 6, locals := ls, stack := .ref sa :: .ref T.heap.size :: .ref T.heap.size :: rest, locked := none }) rfl hsize rfl rfl (rest := rest) rfl
    (by rw [hb]; exact d6) (by rw [hb]; exact d9) hout hRframes (by simp only [List.map_cons, List.sum_cons, hcat]; omega) hlocks
  obtain ⟨f1, f2⟩ := vx_frame hsame
  rw [hhp] at f1 f2
  have hWs : s.WarmedH U.vm := State.WarmedH.trans hW0 hW
  have hcl : s.vm.findClass cls = some ce.cls := by
    have h9 := hO.cls
    rw [hvm] at h9
    exact h9
  have hall : s.sameButNew ({ U with vm := s.vm } : State) locs mc ms := by
    subst hA
    obtain ⟨e1, e2⟩ := hsame
    rw [State.setFrames_setFrames] at e1
    have h2 : (T.setVm s.vm).sameButNew ({ U with vm := s.vm } : State) [] (0 + 1) (0 + 6) := ⟨e1, e2⟩
    have h3 := X.same.trans h2
    rw [List.append_nil] at h3
    exact h3.mono hc hs
  refine ⟨U, ?_, .threw T.heap.size, hrun, hend, Or.inr ⟨T.heap.size, rfl, cls, ce, locs, hx U hWs.alike f1 (fun q hq => f2 q hq (fun z hz => nomatch hz)), hce, hO.vm, hcl, hWs, hall, hf⟩⟩
  refine st1 _ ?_
  show Steps p.tables e below (T1.setTop { method := m, pc := pc + 3, locals := ls, stack := .ref T.heap.size :: rest, locked := none }) _
  jvm_step X₁.here [X₁.here.top, hexec, d3', Value.category]
  exact X₁.ldcString hexec (own := own) (text := text) (index := is) (a := sa) hown' hstr'.1 hstr'.2
    (g := { method := m, pc := pc + 4, locals := ls, stack := .ref T.heap.size :: .ref T.heap.size :: rest, locked := none }) rfl d4' _ hsteps
/-- 'throw new E("text")', the text by a wide index -/
theorem vx_throwSW {cc : ByteArray} {pc : Nat} (hexec : p.tables.exec = Jvm.exec) (hb : c.code = cc) (hl : l.stackTraces = false) {own cls text : String} {names : List String} {ik is ic mc ms sa : Nat} {A : Nat → Prop}
    (hown : s.vm.findClass own = some m.cls) (hcls : Bundle.fit cls = true) (hnames : ∀ n ∈ names, Bundle.fit n = true)
    (hk : (Cond.classLink own ik cls).before args s = true) (hini : (Cond.initialized cls).before args s = true) (hstr : vk_R own is text sa s) (hat : ∀ w ∈ vx_atS own ic cls names, w.before args s = true)
    (hgood : ∀ w ∈ Cond.classLink own ik cls :: Cond.initialized cls :: vx_atS own ic cls names, vx_ot w = true)
    (hU : vx_Zq Bundle.tN "UNASSIGNED_STACK" Bundle.steD A s s.heap) (hN : vx_Zq Bundle.tN "SUPPRESSED_SENTINEL" Bundle.listD A s s.heap) (hS : va_S A s.heap H locs) (hsize : ls.size = c.maxLocals)
    (d0 : decode cc pc = .ok (.new ik, 3)) (d3 : decode cc (pc + 3) = .ok (.dup, 1)) (d4 : decode cc (pc + 4) = .ok (.ldc_w is, 3)) (d7 : decode cc (pc + 7) = .ok (.invokespecial ic, 3)) (d10 : decode cc (pc + 10) = .ok (.athrow, 1))
    (hout : ∀ x ∈ c.exceptionTable.toList, covers x (pc + 10) = false)
    (hRframes : names.length + 3 < R.frames) (hRlocals : (rest.map fun v => v.category).sum + (13 * (names.length + 1) + 43) ≤ R.locals) (hRcells : cells + 1 ≤ R.cells) (hRslots : slots + 6 ≤ R.slots) (hlocks : meth.locks = false)
    (hx : ∀ t : State, s.vm.Alike t.vm → H.size ≤ t.heap.size → (∀ q : Nat, q < H.size → t.heap[q]? = H[q]?) → XC cls s t)
    (hf : ∀ z ∈ locs, free z.base) (hc : cells + 1 ≤ mc) (hs : slots + 6 ≤ ms) :
    W p l e R s m args below meth c H locs cells slots (vx_MQ below Qc XC args s mc ms free) (F0 m pc ls rest) := by
  intro T hT X
  have htr : e.platform.stackTraces = false := (show e.platform.stackTraces = l.stackTraces by rw [X.admits.platform]).trans hl
  have Y := vx_rebase X (R' := { frames := R.frames, locals := R.locals, cells := 1, slots := 6 }) (Nat.le_refl _) (Nat.le_refl _) hRcells hRslots
  obtain ⟨s', hA⟩ : ∃ z, z = (T.setVm s.vm).setFrames (.invoking m args :: below) := ⟨_, rfl⟩
  rw [← hA] at Y
  have hvm : s'.vm = s.vm := by rw [hA]; rfl
  have hhp : s'.heap = H := by rw [hA]; exact hT
  have hW0 : s.WarmedH s'.vm := by rw [hvm]; exact State.WarmedH.refl s
  have hat' : ∀ w ∈ vx_atS own ic cls names, w.before args s' = true := fun w hw => vx_ot_at hW0 hvm.symm (hgood w (List.mem_cons_of_mem _ (List.mem_cons_of_mem _ hw))) (hat w hw)
  have hk' : (Cond.classLink own ik cls).before args s' = true := vx_ot_at hW0 hvm.symm (hgood _ List.mem_cons_self) hk
  have hini' : (Cond.initialized cls).before args s' = true := vx_ot_at hW0 hvm.symm (hgood _ (List.mem_cons_of_mem _ List.mem_cons_self)) hini
  have hU' : vx_Zq Bundle.tN "UNASSIGNED_STACK" Bundle.steD A s' s'.heap := by rw [hhp]; exact vx_Zq.moved hW0.alike (hU.kept hS.2.1)
  have hN' : vx_Zq Bundle.tN "SUPPRESSED_SENTINEL" Bundle.listD A s' s'.heap := by rw [hhp]; exact vx_Zq.moved hW0.alike (hN.kept hS.2.1)
  have h : ∀ w ∈ Bundle.ownAtoms own ic cls names, w.before args s' = true := vx_own hat' (vx_isRefq hU'.1) (vx_isRefq hN'.1) hU'.2.word hN'.2.word
  have hown' : s'.vm.findClass own = some m.cls := by rw [hvm]; exact hown
  have hins : (Cond.instantiable cls 6).before args s' = true := h _ (by simp [Bundle.ownAtoms])
  obtain ⟨vm₁, cX, kX, hfX, hkX, -, -, X₁, st1⟩ := Y.newCold hexec (own := own) (C := cls) (index := ik) (n := 6) hown' hk' hins hini'
    (g := F0 m pc ls rest) rfl (by rw [hb]; exact d0) (Nat.le_refl _) (Nat.le_refl _)
  generalize hT1 : (T.setVm vm₁).pushCell { cls := cX, slots := kX.instanceTypes.map defaultValue, vm := .none } = T1 at X₁ st1
  have hcat : (Value.ref T.heap.size).category = 1 := rfl
  have hcellA : T1.heap[T.heap.size]? = some (freshCell cX kX) := by rw [← hT1]; exact State.heap_pushCell_size _ _
  have d3' : decode c.code (pc + 3) = .ok (.dup, 1) := by rw [hb]; exact d3
  have d4' : decode c.code (pc + 4) = .ok (.ldc_w is, 3) := by rw [hb]; exact d4
  have hstr' : vk_R own is text sa s' := vk_R.warm hW0 hstr
  obtain ⟨U, hsteps, hrun, hend, hW, hsame, ce, hce, hO⟩ := X₁.ctorThrowS hexec htr (own := own) (cls := cls) (names := names) (ic := ic) hown' hcls hnames h (fun x hx => nomatch hx) hfX hkX hcellA (by rw [hhp, hT]; exact Nat.le_refl _) (msg := .ref sa) rfl
    (g := { method := m, pc := pc + 7, locals := ls, stack := .ref sa :: .ref T.heap.size :: .ref T.heap.size :: rest, locked := none }) rfl hsize rfl rfl (rest := rest) rfl
    (by rw [hb]; exact d7) (by rw [hb]; exact d10) hout hRframes (by simp only [List.map_cons, List.sum_cons, hcat]; omega) hlocks
  obtain ⟨f1, f2⟩ := vx_frame hsame
  rw [hhp] at f1 f2
  have hWs : s.WarmedH U.vm := State.WarmedH.trans hW0 hW
  have hcl : s.vm.findClass cls = some ce.cls := by
    have h9 := hO.cls
    rw [hvm] at h9
    exact h9
  have hall : s.sameButNew ({ U with vm := s.vm } : State) locs mc ms := by
    subst hA
    obtain ⟨e1, e2⟩ := hsame
    rw [State.setFrames_setFrames] at e1
    have h2 : (T.setVm s.vm).sameButNew ({ U with vm := s.vm } : State) [] (0 + 1) (0 + 6) := ⟨e1, e2⟩
    have h3 := X.same.trans h2
    rw [List.append_nil] at h3
    exact h3.mono hc hs
  refine ⟨U, ?_, .threw T.heap.size, hrun, hend, Or.inr ⟨T.heap.size, rfl, cls, ce, locs, hx U hWs.alike f1 (fun q hq => f2 q hq (fun z hz => nomatch hz)), hce, hO.vm, hcl, hWs, hall, hf⟩⟩
  refine st1 _ ?_
  show Steps p.tables e below (T1.setTop { method := m, pc := pc + 3, locals := ls, stack := .ref T.heap.size :: rest, locked := none }) _
  jvm_step X₁.here [X₁.here.top, hexec, d3', Value.category]
  exact X₁.ldcStringW hexec (own := own) (text := text) (index := is) (a := sa) hown' hstr'.1 hstr'.2
    (g := { method := m, pc := pc + 4, locals := ls, stack := .ref T.heap.size :: .ref T.heap.size :: rest, locked := none }) rfl d4' _ hsteps
end Ends
section Bodies
variable {l : Launch}
theorem vx_ofW {y : MethodName} {ws ws' : List Cond} {rm : Room} {Pc : Array Value → State → Prop} {Qc : Array Value → State → Outcome → State → Prop} {XC : String → State → State → Prop} {mc ms : Nat} {free : Addr → Prop} {cc : ByteArray} {maxL : Nat} {ret : Option FieldType}
    (hy : plainName y.cls = true) (hw : ws = Cond.code y cc maxL ret :: ws')
    (body : ∀ p e s m args below meth c s₁, BodyLoose p l y (headSpec ws rm) cc maxL ret e s m args below meth c s₁ → c.maxLocals = maxL → (∀ x ∈ c.exceptionTable.toList, False) → Pc args s →
      W p l e (headSpec ws rm).room s m args below meth c s.heap [] 0 0 (vx_MQ below Qc XC args s mc ms free) (entryFrame m args maxL)) : vx_Met l y ws rm Pc Qc XC mc ms free := by
  refine MetFree.of_bodyS (code := cc) (maxLocals := maxL) (ret := ret) hy ?_ ?_
  · intro args s m h hn
    obtain ⟨meth, c, h1, h2, h3, h4, h5, h6, -, -⟩ := Cond.code_spec hn (atoms_spec (ws := ws) h _ (by rw [hw]; exact List.mem_cons_self))
    exact ⟨meth, c, h1, h2, h3, h4, h5, h6⟩
  · intro p e s m args below meth c s₁ B hml hP _
    have hh0 : s₁.heap = s.heap := by rw [B.state]; rfl
    have ht : ∀ x ∈ c.exceptionTable.toList, False := by
      obtain ⟨meth9, c9, h1, h2, -, -, -, -, h7, -⟩ := Cond.code_spec B.named (atoms_spec (ws := ws) B.pre _ (by rw [hw]; exact List.mem_cons_self))
      cases Option.some.inj (h1.symm.trans B.method)
      cases Option.some.inj (h2.symm.trans (Stand.of_body B).code)
      intro x hx
      rw [Array.isEmpty_iff.mp h7] at hx
      cases hx
    obtain ⟨t, a1, o, b1, b2, b3⟩ := body p e s m args below meth c s₁ B hml ht hP s₁ hh0 (Stand.of_body B)
    exact ⟨t, o, a1, b1, b2, b3⟩
/-- the table of a body with handlers -/
theorem vx_table {p : Program} {x y : MethodName} {S : Spec} {cc bytes : ByteArray} {maxL maxL' : Nat} {ret ret' : Option FieldType} {e : Env} {s s₁ : State} {m : MethodId} {args : Array Value} {below : List Frame} {meth : Method} {c : Code} {hh : List (Nat × Nat × Nat × Nat)}
    (B : BodyLoose p l y S cc maxL ret e s m args below meth c s₁) (h : (Cond.codeWith y bytes maxL' ret' hh).before args s = true) : c.exceptionTable.toList = tableOf hh := by
  obtain ⟨m9, meth9, c9, hn9, h1, h2, -, -, h6, -⟩ := Cond.codeWith_spec h
  cases Option.some.inj (hn9.symm.trans B.named)
  cases Option.some.inj (h1.symm.trans B.method)
  cases Option.some.inj (h2.symm.trans (Stand.of_body B).code)
  rw [← h6, table_eq]
end Bodies
end VXA
/-! ===== END ===== -/
/-! ===== BEGIN a static call of a method with an exception table ===== -/
section VXS
variable {p : Program} {l : Launch} {e : Env} {R : Room} {s : State} {m : MethodId} {args : Array Value} {below : List Frame} {meth : Method} {c : Code} {T : State} {H : Heap} {locs : List Loc} {cells slots : Nat}
abbrev vx_CSW (R : Room) (s : State) (args : Array Value) (own : String) (index : Nat) (y : MethodName) (bytes : ByteArray) (maxL : Nat) (ret : Option FieldType) (hh : List (Nat × Nat × Nat × Nat)) (ws : List Cond) (rm : Room) (mc ms n : Nat) : Prop :=
  (rm.cells = mc ∧ rm.slots = ms ∧ rm.frames + 1 ≤ R.frames ∧ 8 + (maxL + 11) + rm.locals ≤ R.locals ∧ (∀ w ∈ ws, ∀ (a' : Array Value) (U : State), s.WarmedH U.vm → w.before a' U = true) ∧ Cond.codeWith y bytes maxL ret hh ∈ ws) ∧
  (Cond.codeWith y bytes maxL ret hh).before args s = true ∧ (Cond.initialized y.cls).before args s = true ∧ (y.cls ≠ "java/lang/invoke/MethodHandle" ∧ y.cls ≠ "java/lang/invoke/VarHandle") ∧
  (∀ sig, parseMethodDescriptor y.desc = some sig → n = sig.parameters.length) ∧ (Cond.methodLink own index y).before args s = true ∧ (Cond.static y).before args s = true
theorem vx_cwSW {own : String} {index maxL mc ms : Nat} {y : MethodName} {bytes : ByteArray} {ret : Option FieldType} {hh : List (Nat × Nat × Nat × Nat)} {Ts ws ws' : List Cond} {rm : Room} (n : Nat) (ht : ∀ w ∈ Ts, w.before args s = true) (hT : GoodIn Ts (va_wsS own index y ws)) (hw : ws = Cond.codeWith y bytes maxL ret hh :: ws') (hrc : rm.cells = mc) (hrs : rm.slots = ms)
    (hd : y.cls ≠ "java/lang/invoke/MethodHandle" ∧ y.cls ≠ "java/lang/invoke/VarHandle" ∧ (parseMethodDescriptor y.desc).map (fun d => d.parameters.length) = some n) (hR : rm.frames + 1 ≤ R.frames ∧ 8 + (maxL + 11) + rm.locals ≤ R.locals) :
    vx_CSW R s args own index y bytes maxL ret hh ws rm mc ms n := by
  have ok : ∀ w ∈ va_wsS own index y ws, w.before args s = true := fun w h => ht w (hT w h).1
  have hG : GoodIn Ts ws := fun w h => hT w (by unfold va_wsS; exact List.mem_append_right _ h)
  have hc : Cond.codeWith y bytes maxL ret hh ∈ ws := by rw [hw]; exact List.mem_cons_self
  refine ⟨⟨hrc, hrs, hR.1, hR.2, pay_in ht hG, hc⟩, ht _ (hG _ hc).1, ok _ (by simp [va_wsS]), ⟨hd.1, hd.2.1⟩, fun sig h => ?_, ok _ (by simp [va_wsS]), ok _ (by simp [va_wsS])⟩
  have h2 := hd.2.2
  rw [h] at h2
  exact (Option.some.inj h2).symm
theorem vx_callSW (X : Stand p l e R s m args below meth c T locs cells slots) (hexec : p.tables.exec = Jvm.exec) {own : String} {index : Nat} {y : MethodName} {bytes : ByteArray} {maxL : Nat} {ret : Option FieldType} {hh : List (Nat × Nat × Nat × Nat)}
    (hown : s.vm.findClass own = some m.cls) (hlink : (Cond.methodLink own index y).before args s = true) (hstat : (Cond.static y).before args s = true) (hinit : (Cond.initialized y.cls).before args s = true)
    (hcode : (Cond.codeWith y bytes maxL ret hh).before args s = true) (hy : y.cls ≠ "java/lang/invoke/MethodHandle" ∧ y.cls ≠ "java/lang/invoke/VarHandle")
    {W9 : Nat} {Pre : Pt → Array Value → Prop} {Post : Pt → Array Value → Option Value → Pt → Prop} (hK : Back l R p e below s args y 3 W9 Pre Post)
    {g : JFrame} (hg : g.method = m) (hsize : g.locals.size = c.maxLocals) {argsL rest : List Value} (hlen : ∀ sig, parseMethodDescriptor y.desc = some sig → argsL.length = sig.parameters.length)
    (hstack : g.stack = argsL.reverse ++ rest) (hW : 2 * g.monitorRoom + (rest.map fun v => v.category).sum ≤ W9) (hdg : decode c.code g.pc = .ok (.invokestatic index, 3))
    (hpre : ∀ vm₁, s.WarmedH vm₁ → Pre ⟨T.setVm vm₁, locs, cells, slots⟩ argsL.toArray) :
    ∃ (v : Option Value) (vm₁ : Vm) (B : Pt), s.WarmedH vm₁ ∧ Stand p l e R s m args below meth c B.U B.locs B.cells B.slots ∧ Post ⟨T.setVm vm₁, locs, cells, slots⟩ argsL.toArray v B ∧
      ∀ target, Steps p.tables e below (B.U.setTop { g with pc := g.pc + 3, stack := v.toList ++ rest }) target → Steps p.tables e below (T.setTop g) target := by
  obtain ⟨mk, methM, cM, hnamed, hmethM, -, -, -, -, -, -, hsigM⟩ := Cond.codeWith_spec hcode
  have hstatic : methM.isStatic = true := Cond.static_spec hnamed hmethM hstat
  obtain ⟨kP, hkP, -⟩ := className_of_methodNamed hnamed
  have hinitP : kP.init = .initialized := Cond.initialized_spec (findClass_of_methodNamed hnamed) hkP hinit
  obtain ⟨vm₁, X₁, hstep₁⟩ := X.invokestatic hexec hown hlink hnamed hmethM hstatic hkP hinitP hy (g := g) hg (argsL := argsL) (rest := rest) (hlen _ hsigM) hstack hdg
  obtain ⟨v, B, X', hpost, hsteps⟩ := hK m meth c ⟨T.setVm vm₁, locs, cells, slots⟩ { g with stack := rest } (.invokestatic index) mk argsL.toArray X₁ hg hsize hdg hW (X₁.named hnamed) (hpre vm₁ X₁.warmed)
  exact ⟨v, vm₁, B, X₁.warmed, X', hpost, fun target h => hstep₁ _ fun acts => by rw [doInvoke_state]; exact hsteps.trans h⟩
theorem vx_runSW {y : MethodName} {bytes cc : ByteArray} {maxL nL mc ms n index : Nat} {ret : Option FieldType} {hh : List (Nat × Nat × Nat × Nat)} {ws : List Cond} {rm : Room} {Pc : Array Value → State → Prop} {Qc : Array Value → State → Outcome → State → Prop} {free : Addr → Prop} {Ts : List Cond} {own : String} {As rest : List Value} {g : JFrame}
    (S : CallFix p m c cc nL s args Ts own) (hM : Met l y ws rm Pc Qc mc ms free) (cw : vx_CSW R s args own index y bytes maxL ret hh ws rm mc ms n) (hp : PreS s H Pc As)
    (hg : g.method = m) (hn : As.length = n) (hsize : g.locals.size = nL) (hstack : g.stack = As.reverse ++ rest) (hW : 2 * g.monitorRoom + (rest.map fun v => v.category).sum ≤ 8) (hdg : decode cc g.pc = .ok (.invokestatic index, 3)) (hf : cells + mc ≤ R.cells ∧ slots + ms ≤ R.slots) :
    va_Run p l e R s m args below meth c H locs cells slots mc ms g rest (Qc As.toArray) (free) := by
  obtain ⟨⟨hrc, hrs, hfr, hlo, hws, hcw⟩, hcode, hini, hy, hlen, hl, hstt⟩ := cw
  have hK : Back l R p e below s args y 3 8 (PreOf R mc ms Pc) (PostOf Qc mc ms free) := va_backW (hh := hh) (bytes := bytes) (maxL := maxL) (ret := ret) hM hp.1 hrc hrs hfr hlo hws hcw (fun a' U hW => word_at hW (Or.inl (by first | rfl | simp [Cond.onTables, Cond.keeps, Cond.steady])) hini)
  obtain ⟨hx, hb, hml, ho, -⟩ := S
  intro T hT X
  obtain ⟨v, vm₁, ⟨U', l2, c2, s2⟩, hW₁, X', ⟨g', mk, t, L, e1, e2, hq, h1, hL, h2, h3⟩, st⟩ := vx_callSW X hx (hh := hh) (bytes := bytes) (maxL := maxL) (ret := ret) ho hl hstt hini hcode hy hK hg (hsize.trans hml.symm) (argsL := As) (rest := rest) (fun sig h => hn.trans (hlen sig h)) hstack hW (by rw [hb]; exact hdg)
    (fun vm₁ hW₁ => ⟨hf.1, hf.2, hp.2 (T.setVm vm₁) hT hW₁⟩)
  dsimp only [Pt.U, Pt.locs, Pt.cells, Pt.slots] at X' e1 e2 h1 h2 h3 st
  subst h1; subst h2; subst h3
  exact ⟨v, (T.setVm vm₁).calling g' mk As.toArray, t, U', L, hT, X', hL, e1, e2, hq, st⟩
/-- not caught here, past rows that name other classes: it goes on to the caller -/
theorem vx_outP {p : Program} {l : Launch} {e : Env} {R : Room} {s : State} {m : MethodId} {args : Array Value} {below : List Frame} {meth : Method} {c : Code} {H : Heap} {locs : List Loc} {cells slots : Nat} {free : Addr → Prop} {ls : Array Slot} {rest : List Value} {Qc : Array Value → State → Outcome → State → Prop} {XC : String → State → State → Prop}
    {pc : Nat} {own E : String} {ce : Cell} {q : Addr} {mc ms : Nat} (hown : s.vm.findClass own = some m.cls) (hlocks : meth.locks = false)
    (hpass : ∀ z ∈ c.exceptionTable.toList, covers z pc = false ∨ (z.catchType ≠ 0 ∧ ∃ nm : String, (Cond.classLink own z.catchType nm).before args s = true ∧ va_Nc E nm s)) (hcell : H[q]? = some ce) (hv : ce.vm = .none) (hcl : s.vm.findClass E = some ce.cls)
    (hx : ∀ t : State, t.heap = H → s.vm.Alike t.vm → XC E s t) (hf : ∀ z ∈ locs, free z.base) (hc : cells ≤ mc) (hs : slots ≤ ms) :
    vx_W p l e R s m args below meth c H locs cells slots (vx_MQ below Qc XC args s mc ms free) (F0 m pc ls rest) q := by
  intro T hT X
  have hpl : e.platform.magicAccessors = ({} : Platform).magicAccessors := by rw [X.admits.platform]
  obtain ⟨vm', hW', X', st⟩ := X.outThrough hlocks q (g := F0 m pc ls rest) rfl rfl rfl (cell := ce) (by rw [hT]; exact hcell) (by rw [hv]; rfl)
    (by obtain ⟨k9, h9, -⟩ := Vm.findClass_spec hcl; exact ⟨k9, h9⟩) (fun z hz => by
      rcases hpass z hz with h | ⟨hz0, nm, hl1, hn1⟩
      · exact Or.inl h
      · obtain ⟨c6, hc6, hcl6⟩ := Cond.classLink_spec hown hl1 e.platform hpl
        obtain ⟨a8, b8, h1, h2, h3⟩ := hn1
        cases Option.some.inj (h1.symm.trans hcl)
        cases Option.some.inj (h2.symm.trans hc6)
        exact Or.inr ⟨hz0, _, hcl6, h3⟩)
  obtain ⟨g₀, hfr⟩ := X'.frames_eq
  have hcell9 : ((T.setVm vm').setFrames (.throwing q :: below)).heap[q]? = some ce := by
    show T.heap[q]? = some ce
    rw [hT]; exact hcell
  have hend : Ended ((T.setVm vm').setFrames (.throwing q :: below)) below (.threw q) := State.frames_setFrames _ (State.cur_lt_of_frames hfr)
  refine ⟨(T.setVm vm').setFrames (.throwing q :: below), ?_, .threw q, X'.here.running, hend, Or.inr ⟨q, rfl, E, ce, locs, hx _ hT (X'.ends _).1.alike, hcell9, hv, hcl, (X'.ends _).1, (X'.ends _).2.mono hc hs, hf⟩⟩
  rw [X.pushThrowing_eq]
  exact st
/-- a thing of a world lies in the heap -/
theorem vx_lt {D : va_G} {cl : List vw_C} {ws : va_W} {H1 : Heap} (h : va_P D cl ws H1) {k : Nat} {q : Nat × va_E} (hk : ws[k]? = some q) : q.1 < H1.size := (h k q hk).lt
end VXS
/-! ===== END ===== -/
/-! ===== BEGIN methods with a table of their own: called by a name, returning or throwing ===== -/
section VXH
/-! vx_backW, vx_callVX, vx_callSX, vx_callVW, vx_runVW, vx_runVX, vx_runSX, vx_ofWH follow the same proofs as their sisters above (Free/Laws.lean, Shelf42/LK1.lean); vx_outP calls Shelf42/NT130.lean (outThrough). -/
section
variable {l : Launch} {R : Room} {p : Program} {e : Env} {below : List Frame} {s : State} {sargs : Array Value} {y : MethodName} {len W9 : Nat}
theorem vx_backW {ws : List Cond} {rm : Room} {Pc : Array Value → State → Prop} {Qc : Array Value → State → Outcome → State → Prop} {XC : String → State → State → Prop} {mc ms : Nat} {free : Addr → Prop} {bytes : ByteArray} {maxL : Nat} {ret : Option FieldType} {hh : List (Nat × Nat × Nat × Nat)}
    (hM : vx_Met l y ws rm Pc Qc XC mc ms free) (hblind : FrameBlind Pc) (hrc : rm.cells = mc) (hrs : rm.slots = ms)
    (hframes : rm.frames + 1 ≤ R.frames) (hlocals : W9 + (maxL + 11) + rm.locals ≤ R.locals)
    (hws : ∀ w ∈ ws, ∀ a' U, s.WarmedH U.vm → w.before a' U = true) (hcode : Cond.codeWith y bytes maxL ret hh ∈ ws) (hinit : ∀ a' U, s.WarmedH U.vm → (Cond.initialized y.cls).before a' U = true) :
    vx_Back l R p e below s sargs y len W9 (PreOf R mc ms Pc) (PostOf Qc mc ms free) (vx_Post XC mc ms free) := by
  intro m meth c A g ig mk a X hg hsize hdg hW hn hp
  have h1 : (headSpec ws rm).pre.before a A.U = true := atoms_intro fun w hw => hws w hw _ _ X.warmed
  have h2 : (Cond.codeWith y bytes maxL ret hh).before a A.U = true := hws _ hcode _ _ X.warmed
  have h3 : (Cond.initialized y.cls).before a A.U = true := hinit _ _ X.warmed
  have h4 : A.cells + (headSpec ws rm).room.cells ≤ R.cells := by rw [show (headSpec ws rm).room.cells = mc from hrc]; exact hp.1
  have h5 : A.slots + (headSpec ws rm).room.slots ≤ R.slots := by rw [show (headSpec ws rm).room.slots = ms from hrs]; exact hp.2.1
  have hPc : Pc a (A.U.calling g mk a) := hblind _ _ _ _ hp.2.2
  obtain ⟨U, Ls, c0, s0⟩ := A
  dsimp only [Pt.U, Pt.locs, Pt.cells, Pt.slots] at h1 h2 h3 h4 h5 X hn hPc ⊢
  obtain ⟨m9, methY, cY, hn9, hmY, hcY, -, hlY, -⟩ := Cond.codeWith_spec h2
  cases Option.some.inj (hn9.symm.trans hn)
  obtain ⟨kY, hkY, -⟩ := className_of_methodNamed hn
  have hinitY : kY.init = .initialized := Cond.initialized_spec (findClass_of_methodNamed hn) hkY h3
  have h : At U g.method c below := by rw [hg]; exact X.here
  have hlocals9 : W9 + (maxL + 11) + (headSpec ws rm).room.locals ≤ R.locals := hlocals
  have happ : (headSpec ws rm).appliesLoose y e.platform (U.calling g mk a) = true :=
    Spec.appliesLoose_calling (g := g) h hdg hn hkY hinitY
      (X.room_calling (g := g) (R' := (headSpec ws rm).room) hsize hmY hcY hframes (by rw [hlY]; omega) h4 h5) h1
  obtain ⟨mid, hmid⟩ := h.above
  have hfr : (U.setTop g).frames = (.java g :: mid) ++ below := by rw [State.frames_setTop' g h.top, hmid]; rfl
  obtain ⟨o, s₂, hsteps, -, hend, hq⟩ := Steps.callFree hM p X.admits X.cas X.clock (acts := []) hfr happ hPc trivial
  have hq' : vx_Q Qc XC mc ms free a (U.calling g mk a) o s₂ := hq
  rw [State.frames_setTop' g h.top] at hend
  obtain ⟨g₀, hg0⟩ := Option.isSome_iff_exists.mp h.top
  obtain ⟨r, hr⟩ := State.topJava?_eq_some.mp hg0
  have hr' : (({ U with heap := s₂.heap, slotsUsed := s₂.slotsUsed } : State).setVm s₂.vm).frames = .java g₀ :: r := hr
  rcases hq' with ⟨hqc, L, hfe, hL⟩ | ⟨q, rfl, E, ce, L, hx, hce, hcv, hcl, hW₂, hsm, hL⟩
  · obtain ⟨⟨v, rfl⟩, hW₂, e2, q2, q3, q4, q5, q6⟩ := id hfe
    have e3 : s₂ = ({ (U.calling g mk a).setFrames s₂.frames with heap := s₂.heap, slotsUsed := s₂.slotsUsed } : State).setVm s₂.vm := by
      have : s₂ = ({ s₂ with vm := (U.calling g mk a).vm } : State).setVm s₂.vm := rfl
      rw [e2] at this
      exact this
    obtain ⟨c₂, i₂, len₂, hc₂, hd₂, hf₂⟩ := hend
    have hW' : U.WarmedH s₂.vm := hW₂
    have hcc : c₂ = c := by
      have h1 : s₂.code? g.method = U.code? g.method := by
        rw [State.code?_eq, State.code?_eq, hW'.alike.method?]
      exact Option.some.inj (hc₂.symm.trans (h1.trans h.code))
    subst hcc
    have hlen : len₂ = len := by rw [hdg] at hd₂; cases hd₂; rfl
    subst hlen
    have hs₂ : s₂ = (({ U with heap := s₂.heap, slotsUsed := s₂.slotsUsed } : State).setVm s₂.vm).setTop { g with pc := g.pc + len₂, stack := v.toList ++ g.stack } := by
      refine e3.trans ?_
      rw [hf₂, State.calling_eq h.top, State.setFrames_setFrames, State.setTop_of_frames _ hr', hr]
      rfl
    have hsame : U.sameButNew ({ U with heap := s₂.heap, slotsUsed := s₂.slotsUsed } : State) L mc ms := by
      refine ⟨?_, q2, q3, q4, q5, q6⟩
      obtain ⟨t, ht, -⟩ := State.frames_cons hr
      show ({ U with heap := s₂.heap, slotsUsed := s₂.slotsUsed } : State) = { U.setFrames U.frames with heap := s₂.heap, slotsUsed := s₂.slotsUsed }
      rw [State.setFrames_self ht]
    subst hg
    refine Or.inl ⟨v, ⟨(({ U with heap := s₂.heap, slotsUsed := s₂.slotsUsed } : State).setVm s₂.vm), Ls ++ L, c0 + mc, s0 + ms⟩,
      ⟨X.admits, X.cas, X.clock, X.frames, X.room, X.hears, X.method, X.code, (X.here.setHeapUsed s₂.heap s₂.slotsUsed).setVm hW'.alike, X.tail, State.WarmedH.trans X.warmed hW', X.limits, X.bytes, X.same.trans (hsame.setVm s.vm)⟩,
      ⟨g, mk, s₂, L, rfl, rfl, hqc, rfl, hL, rfl, rfl⟩, ?_⟩
    show Steps p.tables e below _ ((({ U with heap := s₂.heap, slotsUsed := s₂.slotsUsed } : State).setVm s₂.vm).setTop { g with pc := g.pc + len₂, stack := v.toList ++ g.stack })
    rw [← hs₂]
    exact hsteps
  · obtain ⟨e2, q2, q3, q4, q5, q6⟩ := id hsm
    have e3 : s₂ = ({ (U.calling g mk a).setFrames s₂.frames with heap := s₂.heap, slotsUsed := s₂.slotsUsed } : State).setVm s₂.vm := by
      have : s₂ = ({ s₂ with vm := (U.calling g mk a).vm } : State).setVm s₂.vm := rfl
      rw [e2] at this
      exact this
    have hf₂ : s₂.frames = .throwing q :: .java g :: U.frames.tail := hend
    have hW' : U.WarmedH s₂.vm := hW₂
    have hs₂ : s₂ = ((({ U with heap := s₂.heap, slotsUsed := s₂.slotsUsed } : State).setVm s₂.vm).setTop g).pushFrame (.throwing q) := by
      refine e3.trans ?_
      rw [hf₂, State.calling_eq h.top, State.setFrames_setFrames, State.pushFrame, State.frames_setTop _ hr', State.setTop_of_frames _ hr', State.setFrames_setFrames, hr]
      rfl
    have hsame : U.sameButNew ({ U with heap := s₂.heap, slotsUsed := s₂.slotsUsed } : State) L mc ms := by
      refine ⟨?_, q2, q3, q4, q5, q6⟩
      obtain ⟨t, ht, -⟩ := State.frames_cons hr
      show ({ U with heap := s₂.heap, slotsUsed := s₂.slotsUsed } : State) = { U.setFrames U.frames with heap := s₂.heap, slotsUsed := s₂.slotsUsed }
      rw [State.setFrames_self ht]
    subst hg
    refine Or.inr ⟨q, ⟨(({ U with heap := s₂.heap, slotsUsed := s₂.slotsUsed } : State).setVm s₂.vm), Ls ++ L, c0 + mc, s0 + ms⟩,
      ⟨X.admits, X.cas, X.clock, X.frames, X.room, X.hears, X.method, X.code, (X.here.setHeapUsed s₂.heap s₂.slotsUsed).setVm hW'.alike, X.tail, State.WarmedH.trans X.warmed hW', X.limits, X.bytes, X.same.trans (hsame.setVm s.vm)⟩,
      ⟨g, mk, s₂, L, E, ce, rfl, rfl, hx, hce, hcv, hcl, rfl, hL, rfl, rfl⟩, ?_⟩
    show Steps p.tables e below _ (((({ U with heap := s₂.heap, slotsUsed := s₂.slotsUsed } : State).setVm s₂.vm).setTop g).pushFrame (.throwing q))
    rw [← hs₂]
    exact hsteps
end
variable {p : Program} {l : Launch} {e : Env} {R : Room} {s : State} {m : MethodId} {args : Array Value} {below : List Frame} {meth : Method} {c : Code} {T : State} {H : Heap} {locs : List Loc} {cells slots : Nat}
theorem vx_callVX (X : Stand p l e R s m args below meth c T locs cells slots) (hexec : p.tables.exec = Jvm.exec) {own C : String} {index : Nat} {y : MethodName} {bytes : ByteArray} {maxL : Nat} {ret : Option FieldType} {hh : List (Nat × Nat × Nat × Nat)}
    (hown : s.vm.findClass own = some m.cls) (hlink : (Cond.methodLink own index y).before args s = true) (hinst : (Cond.instanceMethod y).before args s = true) (hsel : (Cond.selects C y y).before args s = true)
    (hcode : (Cond.codeWith y bytes maxL ret hh).before args s = true) (hy : y.cls ≠ "java/lang/invoke/MethodHandle" ∧ y.cls ≠ "java/lang/invoke/VarHandle")
    {W9 : Nat} {Pre : Pt → Array Value → Prop} {Post : Pt → Array Value → Option Value → Pt → Prop} {PostX : Pt → Array Value → Addr → Pt → Prop} (hK : vx_Back l R p e below s args y 3 W9 Pre Post PostX)
    {b : Addr} {cellB : Cell} (hcell : T.heap[b]? = some cellB) (hobj : cellB.vm.isStatics = false) (hcls : s.vm.findClass C = some cellB.cls)
    {g : JFrame} (hg : g.method = m) (hsize : g.locals.size = c.maxLocals) {argsL rest : List Value} (hlen : ∀ sig, parseMethodDescriptor y.desc = some sig → argsL.length = sig.parameters.length)
    (hstack : g.stack = argsL.reverse ++ .ref b :: rest) (hW : 2 * g.monitorRoom + (rest.map fun v => v.category).sum ≤ W9) (hdg : decode c.code g.pc = .ok (.invokevirtual index, 3))
    (hpre : ∀ vm₁, s.WarmedH vm₁ → Pre ⟨T.setVm vm₁, locs, cells, slots⟩ (Value.ref b :: argsL).toArray) :
    (∃ (v : Option Value) (vm₁ : Vm) (B : Pt), s.WarmedH vm₁ ∧ Stand p l e R s m args below meth c B.U B.locs B.cells B.slots ∧ Post ⟨T.setVm vm₁, locs, cells, slots⟩ (Value.ref b :: argsL).toArray v B ∧
      ∀ target, Steps p.tables e below (B.U.setTop { g with pc := g.pc + 3, stack := v.toList ++ rest }) target → Steps p.tables e below (T.setTop g) target) ∨
    (∃ (q : Addr) (vm₁ : Vm) (B : Pt), s.WarmedH vm₁ ∧ Stand p l e R s m args below meth c B.U B.locs B.cells B.slots ∧ PostX ⟨T.setVm vm₁, locs, cells, slots⟩ (Value.ref b :: argsL).toArray q B ∧
      Steps p.tables e below (T.setTop g) ((B.U.setTop { g with stack := rest }).pushFrame (.throwing q))) := by
  obtain ⟨mk, methM, hnamed, hmethM, hstM, habM⟩ := Cond.instanceMethod_spec hinst
  obtain ⟨m8, methM', cM, hn8, hmethM', -, -, -, -, -, -, hsigM⟩ := Cond.codeWith_spec hcode
  cases Option.some.inj (hn8.symm.trans hnamed)
  cases hmethM.symm.trans hmethM'
  obtain ⟨c2, r2, m2, q1, q2, q3, q4, kP, hkP, hkPi⟩ := Cond.selects_spec hsel
  cases hcls.symm.trans q1
  cases (State.methodFound?_of_named hnamed hy).symm.trans q2
  cases hnamed.symm.trans q3
  have hselP : selectMethod e.platform s.vm cellB.cls mk = .method mk := by rw [Launch.admits_selectMethod X.admits]; exact q4
  obtain ⟨vm₁, X₁, hstep₁⟩ := X.invokevirtual hexec hown hlink hnamed hmethM hstM hkP hkPi hy (a := b) (cell := cellB) hcell
    (fun z h => by rw [h] at hobj; cases hobj) hselP hmethM habM hkP hkPi (g := g) hg (argsL := argsL) (rest := rest) (hlen _ hsigM) hstack hdg
  rcases hK m meth c ⟨T.setVm vm₁, locs, cells, slots⟩ { g with stack := rest } (.invokevirtual index) mk (Value.ref b :: argsL).toArray X₁ hg hsize hdg hW (X₁.named hnamed) (hpre vm₁ X₁.warmed) with ⟨v, B, X', hpost, hsteps⟩ | ⟨q, B, X', hpost, hsteps⟩
  · exact Or.inl ⟨v, vm₁, B, X₁.warmed, X', hpost, fun target h => hstep₁ _ fun acts => by rw [doInvoke_state]; exact hsteps.trans h⟩
  · exact Or.inr ⟨q, vm₁, B, X₁.warmed, X', hpost, hstep₁ _ fun acts => by rw [doInvoke_state]; exact hsteps⟩
theorem vx_callSX (X : Stand p l e R s m args below meth c T locs cells slots) (hexec : p.tables.exec = Jvm.exec) {own : String} {index : Nat} {y : MethodName} {bytes : ByteArray} {maxL : Nat} {ret : Option FieldType} {hh : List (Nat × Nat × Nat × Nat)}
    (hown : s.vm.findClass own = some m.cls) (hlink : (Cond.methodLink own index y).before args s = true) (hstat : (Cond.static y).before args s = true) (hinit : (Cond.initialized y.cls).before args s = true)
    (hcode : (Cond.codeWith y bytes maxL ret hh).before args s = true) (hy : y.cls ≠ "java/lang/invoke/MethodHandle" ∧ y.cls ≠ "java/lang/invoke/VarHandle")
    {W9 : Nat} {Pre : Pt → Array Value → Prop} {Post : Pt → Array Value → Option Value → Pt → Prop} {PostX : Pt → Array Value → Addr → Pt → Prop} (hK : vx_Back l R p e below s args y 3 W9 Pre Post PostX)
    {g : JFrame} (hg : g.method = m) (hsize : g.locals.size = c.maxLocals) {argsL rest : List Value} (hlen : ∀ sig, parseMethodDescriptor y.desc = some sig → argsL.length = sig.parameters.length)
    (hstack : g.stack = argsL.reverse ++ rest) (hW : 2 * g.monitorRoom + (rest.map fun v => v.category).sum ≤ W9) (hdg : decode c.code g.pc = .ok (.invokestatic index, 3))
    (hpre : ∀ vm₁, s.WarmedH vm₁ → Pre ⟨T.setVm vm₁, locs, cells, slots⟩ argsL.toArray) :
    (∃ (v : Option Value) (vm₁ : Vm) (B : Pt), s.WarmedH vm₁ ∧ Stand p l e R s m args below meth c B.U B.locs B.cells B.slots ∧ Post ⟨T.setVm vm₁, locs, cells, slots⟩ argsL.toArray v B ∧
      ∀ target, Steps p.tables e below (B.U.setTop { g with pc := g.pc + 3, stack := v.toList ++ rest }) target → Steps p.tables e below (T.setTop g) target) ∨
    (∃ (q : Addr) (vm₁ : Vm) (B : Pt), s.WarmedH vm₁ ∧ Stand p l e R s m args below meth c B.U B.locs B.cells B.slots ∧ PostX ⟨T.setVm vm₁, locs, cells, slots⟩ argsL.toArray q B ∧
      Steps p.tables e below (T.setTop g) ((B.U.setTop { g with stack := rest }).pushFrame (.throwing q))) := by
  obtain ⟨mk, methM, cM, hnamed, hmethM, -, -, -, -, -, -, hsigM⟩ := Cond.codeWith_spec hcode
  have hstatic : methM.isStatic = true := Cond.static_spec hnamed hmethM hstat
  obtain ⟨kP, hkP, -⟩ := className_of_methodNamed hnamed
  have hinitP : kP.init = .initialized := Cond.initialized_spec (findClass_of_methodNamed hnamed) hkP hinit
  obtain ⟨vm₁, X₁, hstep₁⟩ := X.invokestatic hexec hown hlink hnamed hmethM hstatic hkP hinitP hy (g := g) hg (argsL := argsL) (rest := rest) (hlen _ hsigM) hstack hdg
  rcases hK m meth c ⟨T.setVm vm₁, locs, cells, slots⟩ { g with stack := rest } (.invokestatic index) mk argsL.toArray X₁ hg hsize hdg hW (X₁.named hnamed) (hpre vm₁ X₁.warmed) with ⟨v, B, X', hpost, hsteps⟩ | ⟨q, B, X', hpost, hsteps⟩
  · exact Or.inl ⟨v, vm₁, B, X₁.warmed, X', hpost, fun target h => hstep₁ _ fun acts => by rw [doInvoke_state]; exact hsteps.trans h⟩
  · exact Or.inr ⟨q, vm₁, B, X₁.warmed, X', hpost, hstep₁ _ fun acts => by rw [doInvoke_state]; exact hsteps⟩
theorem vx_callVW (X : Stand p l e R s m args below meth c T locs cells slots) (hexec : p.tables.exec = Jvm.exec) {own C : String} {index : Nat} {y : MethodName} {bytes : ByteArray} {maxL : Nat} {ret : Option FieldType} {hh : List (Nat × Nat × Nat × Nat)}
    (hown : s.vm.findClass own = some m.cls) (hlink : (Cond.methodLink own index y).before args s = true) (hinst : (Cond.instanceMethod y).before args s = true) (hsel : (Cond.selects C y y).before args s = true)
    (hcode : (Cond.codeWith y bytes maxL ret hh).before args s = true) (hy : y.cls ≠ "java/lang/invoke/MethodHandle" ∧ y.cls ≠ "java/lang/invoke/VarHandle")
    {W9 : Nat} {Pre : Pt → Array Value → Prop} {Post : Pt → Array Value → Option Value → Pt → Prop} (hK : Back l R p e below s args y 3 W9 Pre Post)
    {b : Addr} {cellB : Cell} (hcell : T.heap[b]? = some cellB) (hobj : cellB.vm.isStatics = false) (hcls : s.vm.findClass C = some cellB.cls)
    {g : JFrame} (hg : g.method = m) (hsize : g.locals.size = c.maxLocals) {argsL rest : List Value} (hlen : ∀ sig, parseMethodDescriptor y.desc = some sig → argsL.length = sig.parameters.length)
    (hstack : g.stack = argsL.reverse ++ .ref b :: rest) (hW : 2 * g.monitorRoom + (rest.map fun v => v.category).sum ≤ W9) (hdg : decode c.code g.pc = .ok (.invokevirtual index, 3))
    (hpre : ∀ vm₁, s.WarmedH vm₁ → Pre ⟨T.setVm vm₁, locs, cells, slots⟩ (Value.ref b :: argsL).toArray) :
    ∃ (v : Option Value) (vm₁ : Vm) (B : Pt), s.WarmedH vm₁ ∧ Stand p l e R s m args below meth c B.U B.locs B.cells B.slots ∧ Post ⟨T.setVm vm₁, locs, cells, slots⟩ (Value.ref b :: argsL).toArray v B ∧
      ∀ target, Steps p.tables e below (B.U.setTop { g with pc := g.pc + 3, stack := v.toList ++ rest }) target → Steps p.tables e below (T.setTop g) target := by
  obtain ⟨mk, methM, hnamed, hmethM, hstM, habM⟩ := Cond.instanceMethod_spec hinst
  obtain ⟨m8, methM', cM, hn8, hmethM', -, -, -, -, -, -, hsigM⟩ := Cond.codeWith_spec hcode
  cases Option.some.inj (hn8.symm.trans hnamed)
  cases hmethM.symm.trans hmethM'
  obtain ⟨c2, r2, m2, q1, q2, q3, q4, kP, hkP, hkPi⟩ := Cond.selects_spec hsel
  cases hcls.symm.trans q1
  cases (State.methodFound?_of_named hnamed hy).symm.trans q2
  cases hnamed.symm.trans q3
  have hselP : selectMethod e.platform s.vm cellB.cls mk = .method mk := by rw [Launch.admits_selectMethod X.admits]; exact q4
  obtain ⟨vm₁, X₁, hstep₁⟩ := X.invokevirtual hexec hown hlink hnamed hmethM hstM hkP hkPi hy (a := b) (cell := cellB) hcell
    (fun z h => by rw [h] at hobj; cases hobj) hselP hmethM habM hkP hkPi (g := g) hg (argsL := argsL) (rest := rest) (hlen _ hsigM) hstack hdg
  obtain ⟨v, B, X', hpost, hsteps⟩ := hK m meth c ⟨T.setVm vm₁, locs, cells, slots⟩ { g with stack := rest } (.invokevirtual index) mk (Value.ref b :: argsL).toArray X₁ hg hsize hdg hW (X₁.named hnamed) (hpre vm₁ X₁.warmed)
  exact ⟨v, vm₁, B, X₁.warmed, X', hpost, fun target h => hstep₁ _ fun acts => by rw [doInvoke_state]; exact hsteps.trans h⟩
abbrev vx_CVW (R : Room) (s : State) (args : Array Value) (own C : String) (index : Nat) (y : MethodName) (bytes : ByteArray) (maxL : Nat) (ret : Option FieldType) (hh : List (Nat × Nat × Nat × Nat)) (ws : List Cond) (rm : Room) (mc ms n : Nat) : Prop :=
  (rm.cells = mc ∧ rm.slots = ms ∧ rm.frames + 1 ≤ R.frames ∧ 8 + (maxL + 11) + rm.locals ≤ R.locals ∧ (∀ w ∈ ws, ∀ (a' : Array Value) (U : State), s.WarmedH U.vm → w.before a' U = true) ∧ Cond.codeWith y bytes maxL ret hh ∈ ws) ∧
  (Cond.codeWith y bytes maxL ret hh).before args s = true ∧ (Cond.initialized y.cls).before args s = true ∧ (y.cls ≠ "java/lang/invoke/MethodHandle" ∧ y.cls ≠ "java/lang/invoke/VarHandle") ∧
  (∀ sig, parseMethodDescriptor y.desc = some sig → n = sig.parameters.length) ∧ (Cond.methodLink own index y).before args s = true ∧ (Cond.instanceMethod y).before args s = true ∧ (Cond.selects C y y).before args s = true
theorem vx_cwVW {own C : String} {index maxL mc ms : Nat} {y : MethodName} {bytes : ByteArray} {ret : Option FieldType} {hh : List (Nat × Nat × Nat × Nat)} {Ts ws ws' : List Cond} {rm : Room} (n : Nat) (ht : ∀ w ∈ Ts, w.before args s = true) (hT : GoodIn Ts (wsV own index C y ws)) (hw : ws = Cond.codeWith y bytes maxL ret hh :: ws') (hrc : rm.cells = mc) (hrs : rm.slots = ms)
    (hd : y.cls = C ∧ y.cls ≠ "java/lang/invoke/MethodHandle" ∧ y.cls ≠ "java/lang/invoke/VarHandle" ∧ (parseMethodDescriptor y.desc).map (fun d => d.parameters.length) = some n) (hR : rm.frames + 1 ≤ R.frames ∧ 8 + (maxL + 11) + rm.locals ≤ R.locals) :
    vx_CVW R s args own C index y bytes maxL ret hh ws rm mc ms n := by
  obtain ⟨hC, hd⟩ := hd
  subst hC
  have ok : ∀ w ∈ wsV own index y.cls y ws, w.before args s = true := fun w h => ht w (hT w h).1
  have hG : GoodIn Ts ws := fun w h => hT w (by unfold wsV; exact List.mem_append_right _ h)
  have hc : Cond.codeWith y bytes maxL ret hh ∈ ws := by rw [hw]; exact List.mem_cons_self
  refine ⟨⟨hrc, hrs, hR.1, hR.2, pay_in ht hG, hc⟩, ht _ (hG _ hc).1, ok _ (by simp [wsV]), ⟨hd.1, hd.2.1⟩, fun sig h => ?_, ok _ (by simp [wsV]), ok _ (by simp [wsV]), ok _ (by simp [wsV])⟩
  have h2 := hd.2.2
  rw [h] at h2
  exact (Option.some.inj h2).symm
theorem vx_runVW {y : MethodName} {bytes cc : ByteArray} {maxL nL mc ms n index : Nat} {ret : Option FieldType} {hh : List (Nat × Nat × Nat × Nat)} {ws : List Cond} {rm : Room} {Pc : Array Value → State → Prop} {Qc : Array Value → State → Outcome → State → Prop} {free : Addr → Prop} {Ts : List Cond} {own C : String} {b : Addr} {As rest : List Value} {g : JFrame}
    (S : CallFix p m c cc nL s args Ts own) (hM : Met l y ws rm Pc Qc mc ms free) (cw : vx_CVW R s args own C index y bytes maxL ret hh ws rm mc ms n) (hp : PreV s H C b Pc As)
    (hg : g.method = m) (hn : As.length = n) (hsize : g.locals.size = nL) (hstack : g.stack = As.reverse ++ .ref b :: rest) (hW : 2 * g.monitorRoom + (rest.map fun v => v.category).sum ≤ 8) (hdg : decode cc g.pc = .ok (.invokevirtual index, 3)) (hf : cells + mc ≤ R.cells ∧ slots + ms ≤ R.slots) :
    va_Run p l e R s m args below meth c H locs cells slots mc ms g rest (Qc (Value.ref b :: As).toArray) free := by
  obtain ⟨⟨hrc, hrs, hfr, hlo, hws, hcw⟩, hcode, hini, hy, hlen, hl, hin, hse⟩ := cw
  have hK : Back l R p e below s args y 3 8 (PreOf R mc ms Pc) (PostOf Qc mc ms free) := va_backW (hh := hh) (bytes := bytes) (maxL := maxL) (ret := ret) hM hp.1 hrc hrs hfr hlo hws hcw (fun a' U hW => word_at hW (Or.inl (by first | rfl | simp [Cond.onTables, Cond.keeps, Cond.steady])) hini)
  obtain ⟨hx, hb, hml, ho, -⟩ := S
  obtain ⟨-, ⟨cellB, hcB, hoB, hclB⟩, hPc⟩ := hp
  intro T hT X
  obtain ⟨v, vm₁, ⟨U', l2, c2, s2⟩, hW₁, X', ⟨g', mk, t, L, e1, e2, hq, h1, hL, h2, h3⟩, st⟩ := vx_callVW X hx (C := C) (hh := hh) (bytes := bytes) (maxL := maxL) (ret := ret) ho hl hin hse hcode hy hK (by rw [hT]; exact hcB) hoB hclB hg (hsize.trans hml.symm) (argsL := As) (rest := rest) (fun sig h => hn.trans (hlen sig h)) hstack hW (by rw [hb]; exact hdg)
    (fun vm₁ hW₁ => ⟨hf.1, hf.2, hPc (T.setVm vm₁) hT hW₁⟩)
  dsimp only [Pt.U, Pt.locs, Pt.cells, Pt.slots] at X' e1 e2 h1 h2 h3 st
  subst h1; subst h2; subst h3
  exact ⟨v, (T.setVm vm₁).calling g' mk (Value.ref b :: As).toArray, t, U', L, hT, X', hL, e1, e2, hq, st⟩
section
variable {y : MethodName} {bytes cc : ByteArray} {maxL nL mc ms n index : Nat} {ret : Option FieldType} {ws : List Cond} {rm : Room} {Pc : Array Value → State → Prop} {Qc : Array Value → State → Outcome → State → Prop} {XC : String → State → State → Prop} {free : Addr → Prop} {Ts : List Cond} {own C : String} {b : Addr} {As rest : List Value} {g : JFrame}
theorem vx_runVX {hh : List (Nat × Nat × Nat × Nat)} (S : CallFix p m c cc nL s args Ts own) (hM : vx_Met l y ws rm Pc Qc XC mc ms free) (cw : vx_CVW R s args own C index y bytes maxL ret hh ws rm mc ms n) (hp : PreV s H C b Pc As)
    (hg : g.method = m) (hn : As.length = n) (hsize : g.locals.size = nL) (hstack : g.stack = As.reverse ++ .ref b :: rest) (hW : 2 * g.monitorRoom + (rest.map fun v => v.category).sum ≤ 8) (hdg : decode cc g.pc = .ok (.invokevirtual index, 3)) (hf : cells + mc ≤ R.cells ∧ slots + ms ≤ R.slots) :
    vx_Run p l e R s m args below meth c H locs cells slots mc ms g rest (Qc (Value.ref b :: As).toArray) XC free := by
  obtain ⟨⟨hrc, hrs, hfr, hlo, hws, hcw⟩, hcode, hini, hy, hlen, hl, hin, hse⟩ := cw
  have hK : vx_Back l R p e below s args y 3 8 (PreOf R mc ms Pc) (PostOf Qc mc ms free) (vx_Post XC mc ms free) := vx_backW (hh := hh) (bytes := bytes) (maxL := maxL) (ret := ret) hM hp.1 hrc hrs hfr hlo hws hcw (fun a' U hW => word_at hW (Or.inl (by first | rfl | simp [Cond.onTables, Cond.keeps, Cond.steady])) hini)
  obtain ⟨hx, hb, hml, ho, -⟩ := S
  obtain ⟨-, ⟨cellB, hcB, hoB, hclB⟩, hPc⟩ := hp
  intro T hT X
  rcases vx_callVX X hx (C := C) (hh := hh) (bytes := bytes) (maxL := maxL) (ret := ret) ho hl hin hse hcode hy hK (by rw [hT]; exact hcB) hoB hclB hg (hsize.trans hml.symm) (argsL := As) (rest := rest) (fun sig h => hn.trans (hlen sig h)) hstack hW (by rw [hb]; exact hdg)
    (fun vm₁ hW₁ => ⟨hf.1, hf.2, hPc (T.setVm vm₁) hT hW₁⟩) with ⟨v, vm₁, ⟨U', l2, c2, s2⟩, hW₁, X', ⟨g', mk, t, L, e1, e2, hq, h1, hL, h2, h3⟩, st⟩ | ⟨q, vm₁, ⟨U', l2, c2, s2⟩, hW₁, X', ⟨g', mk, t, L, E, ce, e1, e2, hq, hce, hcv, hcl, h1, hL, h2, h3⟩, st⟩
  · dsimp only [Pt.U, Pt.locs, Pt.cells, Pt.slots] at X' e1 e2 h1 h2 h3 st
    subst h1; subst h2; subst h3
    exact Or.inl ⟨v, (T.setVm vm₁).calling g' mk (Value.ref b :: As).toArray, t, U', L, hT, X', hL, e1, e2, hq, st⟩
  · dsimp only [Pt.U, Pt.locs, Pt.cells, Pt.slots] at X' e1 e2 h1 h2 h3 st hcl
    subst h1; subst h2; subst h3
    exact Or.inr ⟨q, (T.setVm vm₁).calling g' mk (Value.ref b :: As).toArray, t, U', L, E, ce, hT, X', hL, e1, e2, hq, hce, hcv, vx_cls hW₁ hcl, st⟩
theorem vx_runSX {hh : List (Nat × Nat × Nat × Nat)} (S : CallFix p m c cc nL s args Ts own) (hM : vx_Met l y ws rm Pc Qc XC mc ms free) (cw : vx_CSW R s args own index y bytes maxL ret hh ws rm mc ms n) (hp : PreS s H Pc As)
    (hg : g.method = m) (hn : As.length = n) (hsize : g.locals.size = nL) (hstack : g.stack = As.reverse ++ rest) (hW : 2 * g.monitorRoom + (rest.map fun v => v.category).sum ≤ 8) (hdg : decode cc g.pc = .ok (.invokestatic index, 3)) (hf : cells + mc ≤ R.cells ∧ slots + ms ≤ R.slots) :
    vx_Run p l e R s m args below meth c H locs cells slots mc ms g rest (Qc As.toArray) XC free := by
  obtain ⟨⟨hrc, hrs, hfr, hlo, hws, hcw⟩, hcode, hini, hy, hlen, hl, hstt⟩ := cw
  have hK : vx_Back l R p e below s args y 3 8 (PreOf R mc ms Pc) (PostOf Qc mc ms free) (vx_Post XC mc ms free) := vx_backW (hh := hh) (bytes := bytes) (maxL := maxL) (ret := ret) hM hp.1 hrc hrs hfr hlo hws hcw (fun a' U hW => word_at hW (Or.inl (by first | rfl | simp [Cond.onTables, Cond.keeps, Cond.steady])) hini)
  obtain ⟨hx, hb, hml, ho, -⟩ := S
  intro T hT X
  rcases vx_callSX X hx (hh := hh) (bytes := bytes) (maxL := maxL) (ret := ret) ho hl hstt hini hcode hy hK hg (hsize.trans hml.symm) (argsL := As) (rest := rest) (fun sig h => hn.trans (hlen sig h)) hstack hW (by rw [hb]; exact hdg)
    (fun vm₁ hW₁ => ⟨hf.1, hf.2, hp.2 (T.setVm vm₁) hT hW₁⟩) with ⟨v, vm₁, ⟨U', l2, c2, s2⟩, hW₁, X', ⟨g', mk, t, L, e1, e2, hq, h1, hL, h2, h3⟩, st⟩ | ⟨q, vm₁, ⟨U', l2, c2, s2⟩, hW₁, X', ⟨g', mk, t, L, E, ce, e1, e2, hq, hce, hcv, hcl, h1, hL, h2, h3⟩, st⟩
  · dsimp only [Pt.U, Pt.locs, Pt.cells, Pt.slots] at X' e1 e2 h1 h2 h3 st
    subst h1; subst h2; subst h3
    exact Or.inl ⟨v, (T.setVm vm₁).calling g' mk As.toArray, t, U', L, hT, X', hL, e1, e2, hq, st⟩
  · dsimp only [Pt.U, Pt.locs, Pt.cells, Pt.slots] at X' e1 e2 h1 h2 h3 st hcl
    subst h1; subst h2; subst h3
    exact Or.inr ⟨q, (T.setVm vm₁).calling g' mk As.toArray, t, U', L, E, ce, hT, X', hL, e1, e2, hq, hce, hcv, vx_cls hW₁ hcl, st⟩
end
end VXH
theorem vx_ofWH {l : Launch} {y : MethodName} {ws ws' : List Cond} {rm : Room} {Pc : Array Value → State → Prop} {Qc : Array Value → State → Outcome → State → Prop} {XC : String → State → State → Prop} {mc ms : Nat} {free : Addr → Prop} {cc : ByteArray} {maxL : Nat} {ret : Option FieldType} {hh : List (Nat × Nat × Nat × Nat)}
    (hy : plainName y.cls = true) (hw : ws = Cond.codeWith y cc maxL ret hh :: ws')
    (body : ∀ p e s m args below meth c s₁, BodyLoose p l y (headSpec ws rm) cc maxL ret e s m args below meth c s₁ → c.maxLocals = maxL → Pc args s →
      W p l e (headSpec ws rm).room s m args below meth c s.heap [] 0 0 (vx_MQ below Qc XC args s mc ms free) (entryFrame m args maxL)) : vx_Met l y ws rm Pc Qc XC mc ms free := by
  refine MetFree.of_bodyS (code := cc) (maxLocals := maxL) (ret := ret) hy ?_ ?_
  · intro args s m h hn
    obtain ⟨m9, meth, c, hn9, h1, h2, h3, h4, -, h5, h6, -⟩ := Cond.codeWith_spec (atoms_spec (ws := ws) h _ (by rw [hw]; exact List.mem_cons_self))
    cases hn.symm.trans hn9
    exact ⟨meth, c, h1, h2, h3, h4, h5, h6⟩
  · intro p e s m args below meth c s₁ B hml hP _
    have hh0 : s₁.heap = s.heap := by rw [B.state]; rfl
    obtain ⟨t, a1, o, b1, b2, b3⟩ := body p e s m args below meth c s₁ B hml hP s₁ hh0 (Stand.of_body B)
    exact ⟨t, o, a1, b1, b2, b3⟩
/-! ===== END ===== -/
/-! ===== BEGIN what the machine throws by itself, no traces kept ===== -/
section VXM
set_option maxHeartbeats 1000000 in
/-- the machine throws cls with the message text, no traces kept: from its note over the frame g to 'throwing' over the same frame (follows the proofs of Stand.vmThrowsMessage, Shelf/KitTracedVmS.lean, and Stand.throwsMessageColdBareV, StandMessageColdV.lean, without the step out of the frame) -/
theorem vx_vmAt {p : Program} {l : Launch} {e : Env} {R : Room} {s : State} {m₀ : MethodId} {args : Array Value} {below : List Frame} {meth : Method} {c : Code} {W : State} {locs : List Loc} {cells slots : Nat}
    (X : Stand p l e R s m₀ args below meth c W locs cells slots) (hexec : p.tables.exec = Jvm.exec) (htr : e.platform.stackTraces = false) {cls : String} {names : List String} {text : String}
    (hcls : Bundle.fit cls = true) (hnames : ∀ n ∈ names, Bundle.fit n = true) (hsoe : (cls == "java/lang/StackOverflowError") = false) (hoom : (cls == "java/lang/OutOfMemoryError") = false)
    (h : ∀ a ∈ Bundle.messageArmAtoms cls names, a.before args s = true)
    (hlocs : ∀ x ∈ locs, ∀ cell, s.heap[x.base]? = some cell → cell.vm.isStatics = false)
    (htext : (text == notModelled) = false) (hlimit : ¬ (stringBytes (stringToUtf16 text)).size > e.platform.arrayLengthLimit) (hheap : ¬ (stringBytes (stringToUtf16 text)).size * componentBytes .byte > e.platform.maxHeapBytes)
    {g : JFrame} (hg : g.method = m₀) (hsize : g.locals.size = c.maxLocals)
    (hRframes : names.length + 4 < R.frames) (hRlocals : 2 * g.monitorRoom + (g.stack.map fun v => v.category).sum + 10240 ≤ R.locals) (hshort : 13 * names.length + 55 ≤ 10240)
    (hRcells : cells + 3 ≤ R.cells) (hRslots : slots + ((stringBytes (stringToUtf16 text)).size + 4 + 6) ≤ R.slots) (hlocks : meth.locks = false) :
    ∃ (S : State) (q : Addr) (ce : Cell), (∀ target, Steps p.tables e below ((S.setTop g).pushFrame (.throwing q)) target → Steps p.tables e below ((W.setTop g).pushFrame (.throwNew cls (some text) none)) target) ∧
      Stand p l e R s m₀ args below meth c S locs (cells + 3) (slots + ((stringBytes (stringToUtf16 text)).size + 4 + 6)) ∧ S.heap[q]? = some ce ∧ s.vm.findClass cls = some ce.cls ∧ ce.vm = .none := by
  have howns : e.platform.frameOwnsMonitors = true := by rw [X.admits.platform]
  have hfin : e.platform.finalization = false := by rw [X.admits.platform]
  have hpl : e.platform.magicAccessors = ({} : Platform).magicAccessors := by rw [X.admits.platform]
  have a : ∀ x, x ∈ Bundle.messageArmAtoms cls names → x.holds args s none s [] = true := fun x hx => h x hx
  obtain ⟨T, Z0, L, -, Y⟩ := ThrowableC.of_atoms (args := args) howns hfin hpl (fun x hx => h x (by simp [Bundle.messageArmAtoms, hx]))
  obtain ⟨Z, M, LZ, LM, hnZ⟩ := Init0T.ofS_atoms (args := args) hpl L Y (fun x hx => h x (by simp [Bundle.messageArmAtoms, hx]))
  obtain ⟨P1, Ps, hlen, L1, hL, hP1m, hlink1, hlink⟩ := Bundle.chainS (args := args) hpl hnZ names cls hcls hnames (fun x hx => h x (by simp [Bundle.messageArmAtoms, hx]))
  obtain ⟨Zs, LZs, hn4, hfitv, hfitc⟩ := StringT.of_atoms (args := args) (fun x hx => h x (by simp [Bundle.messageArmAtoms, hx]))
  have hfound : s.vm.findClass cls = some P1.m.cls := findClass_of_methodNamed hP1m
  obtain ⟨c1, kX, hc1, hk, hord, -, -, hn6⟩ := Cond.instantiable_spec (a (.instantiable cls 6) (by simp [Bundle.messageArmAtoms]))
  cases Option.some.inj (hc1.symm.trans hfound)
  have hinit := Cond.initialized_spec hfound hk (a (.initialized cls) (by simp [Bundle.messageArmAtoms]))
  have hctor : kX.findMethod "<init>" "(Ljava/lang/String;)V" = some P1.m.idx := findMethod_of_methodNamed hP1m hk
  have hsel0 : selectMethod e.platform s.vm P1.m.cls T.fill0 = .method T.fill0 := by
    obtain ⟨c2, r2, m2, q1, q2, q3, q4, -⟩ := Cond.selects_spec (a (.selects cls Bundle.tFill0 Bundle.tFill0) (by simp [Bundle.messageArmAtoms]))
    cases Option.some.inj (q1.symm.trans hfound)
    cases Option.some.inj (q2.symm.trans (State.methodFound?_of_named Y.fill0 (by decide)))
    cases Option.some.inj (q3.symm.trans Y.fill0)
    rw [Launch.admits_selectMethod X.admits]; exact q4
  have hselF : selectMethod e.platform s.vm P1.m.cls T.fill = .method T.fill := by
    obtain ⟨c2, r2, m2, q1, q2, q3, q4, -⟩ := Cond.selects_spec (a (.selects cls Bundle.tFill Bundle.tFill) (by simp [Bundle.messageArmAtoms]))
    cases Option.some.inj (q1.symm.trans hfound)
    cases Option.some.inj (q2.symm.trans (State.methodFound?_of_named Y.fill (by decide)))
    cases Option.some.inj (q3.symm.trans Y.fill)
    rw [Launch.admits_selectMethod X.admits]; exact q4
  obtain ⟨cellS0, hcS0, hiss⟩ := Y.statics
  obtain ⟨u0, hu0⟩ := Cond.staticRefV Y.unassigned L.unassignedStatic L.statics hcS0 hiss (a (.isRef (.static Bundle.tN "UNASSIGNED_STACK" Bundle.steD)) (by simp [Bundle.messageArmAtoms]))
  obtain ⟨sen, hsen⟩ := Cond.staticRefV Y.sentinel L.sentinelStatic L.statics hcS0 hiss (a (.isRef (.static Bundle.tN "SUPPRESSED_SENTINEL" Bundle.listD)) (by simp [Bundle.messageArmAtoms]))
  obtain ⟨ci198, i198, fB, hk198, hg198, ha198, hsB, -, hnB, htB, hffB⟩ := Cond.ownField (t := .object "java/lang/Object") Y.found L.cls (by decide +kernel) (a (.fieldLink Bundle.tN 198 Bundle.tN "backtrace" "Ljava/lang/Object;") (by simp [Bundle.messageArmAtoms])) (a (.lays Bundle.tN Bundle.tN "backtrace" "Ljava/lang/Object;") (by simp [Bundle.messageArmAtoms])) e.platform hpl
  obtain ⟨cellS, hcS', heS, -, hkeep⟩ := X.same.2.2.2.2.2 T.aS cellS0 hcS0
  have hcellS : W.heap[T.aS]? = some cellS := hcS'
  have hout' : ∀ i, (⟨T.aS, i⟩ : Loc) ∉ locs := fun i hmem => by
    have := hlocs _ hmem cellS0 hcS0
    rw [hiss] at this; cases this
  have hknownS : cellS.vm ≠ .unknown := by
    rw [heS]; intro hu
    rw [show cellS0.vm = .unknown from hu] at hiss
    cases hiss
  have hvU : cellS.slots[T.fUnassigned.slot]? = some u0.v := by rw [hkeep _ (hout' _)]; exact hu0
  have hvSen : cellS.slots[T.fSentinel.slot]? = some sen.v := by rw [hkeep _ (hout' _)]; exact hsen
  obtain ⟨iM, hffM⟩ := Y.msg
  obtain ⟨tyC, dC, hdC, hdnC⟩ := Cond.laysAt hfound hk Y.cause (a (.lays cls Bundle.tN "cause" "Ljava/lang/Throwable;") (by simp [Bundle.messageArmAtoms]))
  obtain ⟨tyS, dS, hdS, hdnS⟩ := Cond.laysAt hfound hk Y.stack (a (.lays cls Bundle.tN "stackTrace" Bundle.steD) (by simp [Bundle.messageArmAtoms]))
  obtain ⟨tyP, dP, hdP, hdnP⟩ := Cond.laysAt hfound hk Y.supp (a (.lays cls Bundle.tN "suppressedExceptions" Bundle.listD) (by simp [Bundle.messageArmAtoms]))
  obtain ⟨tyM, dM, hdM, hdnM⟩ := Cond.laysAt hfound hk hffM (a (.lays cls Bundle.tN "detailMessage" "Ljava/lang/String;") (by simp [Bundle.messageArmAtoms]))
  obtain ⟨tyB, dB, hdB, hdnB⟩ := Cond.laysAt hfound hk hffB (a (.lays cls Bundle.tN "backtrace" "Ljava/lang/Object;") (by simp [Bundle.messageArmAtoms]))
  have bC := Cond.laysApart hdB hdC hdnB hdnC (by rw [hnB, Y.causeName]; decide)
  have bS := Cond.laysApart hdB hdS hdnB hdnS (by rw [hnB, Y.stackName]; decide)
  have bP := Cond.laysApart hdB hdP hdnB hdnP (by rw [hnB, Y.suppName]; decide)
  have hbk : ((preparedCellV T.toThrowableT (freshCell P1.m.cls kX) (W.heap.size + 2) u0 sen).withEntry W.cur).slots[fB.slot]? = some .null := by
    have := fresh_default (c := P1.m.cls) tyB
    rw [htB] at this
    simpa [preparedCellV, Cell.setSlot, Cell.withEntry, Array.getElem?_setIfInBounds, bC, bS, bP, bC.symm, bS.symm, bP.symm, defaultValue] using this
  have tkC := Takes.of_laid (v := .ref (W.heap.size + 2)) hk hord tyC (by rw [Y.causeType]; rfl)
  have tkS := Takes.of_laid (v := u0.v) hk hord tyS (by rw [Y.stackType]; exact fits_refV_array _ u0)
  have tkP := Takes.of_laid (v := sen.v) hk hord tyP (by rw [Y.suppType]; exact fits_refV_object _ sen)
  have tkM := Takes.of_laid (v := .ref (W.heap.size + 1)) hk hord tyM (by rw [Y.msgType]; rfl)
  have hskip : SkipFacts T e.platform s (fun u => u) u0 ((preparedCellV T.toThrowableT (freshCell P1.m.cls kX) (W.heap.size + 2) u0 sen).withEntry W.cur) := ⟨{ ci198 := ci198, i198 := i198, fBack := fB }, ⟨hk198, hg198, ha198, hsB⟩, hbk, fun _ _ => rfl⟩
  have h0 : At W g.method c below := by rw [hg]; exact X.here
  obtain ⟨hbeyond, hfreeW⟩ := X.vmMayThrow hsize (.throwNew cls (some text) none) (fun f hf => by cases hf) rfl hRlocals
  have hfr' : W.frames.length + Ps.length + 4 < (e.platform.stackLimits W.me).1 := by have := X.framesAbove hRframes; omega
  have hwd' : (stackUse (.java g :: W.frames.tail)).2 + 13 * Ps.length + 55 ≤ (e.platform.stackLimits W.me).2 := by have := X.stackAbove hsize (K := 13 * Ps.length + 55) (by omega); omega
  have hslots : W.slotsUsed + (stringBytes (stringToUtf16 text)).size + Zs.kS.instanceTypes.size + kX.instanceTypes.size ≤ e.platform.maxSlots := by
    have := X.slotsAbove hRslots
    rw [hn4, hn6]
    omega
  obtain ⟨vm', hW', st⟩ := Steps.vmThrowsMessageColdByV p (s₀ := s) (S := W) (g := g) h0 hexec T L Z LZ M LM X.warmed (t := W.cur) rfl Zs LZs P1 L1 Ps hL hlink1 hlink hsoe hoom hfound hk hinit hord hctor
    (Launch.admits_hotImplicitExceptions X.admits) hbeyond hfreeW htext hlimit hheap (X.cellsAbove hRcells) hslots (hfitv _) (hfitc _)
    (Nn := fun u => u) heapOnly_id (fun _ _ => rfl) (fun _ => rfl) (fun u x y => setCell_twice _ _ _ _) (fun _ => Nat.le_refl _) (cN := ((preparedCellV T.toThrowableT (freshCell P1.m.cls kX) (W.heap.size + 2) u0 sen).withEntry W.cur))
    hsel0 hcellS hknownS hvU tkS (fun _ hu => hu) (fun _ hu => hu) rfl rfl rfl (by simp [preparedCellV, Cell.setSlot, Cell.withEntry]) hskip (fun _ _ hA hW _ hroom _ hrest => L.nativeOff p htr hA hW hroom hrest) hselF hvSen tkC tkP tkM Y.objLocals rfl hfr' hwd'
  rw [plainBareV_eq T.toThrowableT (W.heap.size + 2) u0 sen (.ref (W.heap.size + 1)) W.cur rfl rfl] at st
  obtain ⟨-, -, w3, w4, -, -, -⟩ := withThrown_facts e.platform W Zs text P1.m.cls kX
  have X3 := ((X.pushed (bytesOf Zs.cB (stringToUtf16 text))).pushed (stringAt Zs.cS Zs.kS Zs.fv Zs.fc (stringToUtf16 text) W.heap.size)).pushed (freshCell P1.m.cls kX)
  rw [← withString_eq] at X3
  have X4 := X3.noted hW'
  have ha : (W.heap.size + 2) < ((withThrown W Zs text P1.m.cls kX).setVm vm').heap.size := by show _ < (withThrown W Zs text P1.m.cls kX).heap.size; rw [w3]; omega
  have hcell : ((withThrown W Zs text P1.m.cls kX).setVm vm').heap[(W.heap.size + 2)]? = some (freshCell P1.m.cls kX) := w4
  have X5 := ((((X4.stored hcell T.fCause.slot (.ref (W.heap.size + 2))).storedAgain ha T.fStack.slot u0.v).storedAgain ha T.fSupp.slot sen.v).storedAgain ha T.fStack.slot u0.v).storedAgain ha T.fMsg.slot (.ref (W.heap.size + 1))
  obtain ⟨g₁, hfrM⟩ := X5.frames_eq
  have hU : ((((withThrown W Zs text P1.m.cls kX).setVm vm').setCell (W.heap.size + 2) (plainBareV T.toThrowableT (freshCell P1.m.cls kX) (W.heap.size + 2) u0 sen (.ref (W.heap.size + 1)))).setTop g).pushFrame (.throwing (W.heap.size + 2)) = (((withThrown W Zs text P1.m.cls kX).setVm vm').setCell (W.heap.size + 2) (plainBareV T.toThrowableT (freshCell P1.m.cls kX) (W.heap.size + 2) u0 sen (.ref (W.heap.size + 1)))).setFrames (.throwing (W.heap.size + 2) :: .java g :: below) := by
    rw [State.pushFrame, State.frames_setTop _ hfrM, State.setTop_of_frames _ hfrM, State.setFrames_setFrames]
  have b1 : (bytesOf Zs.cB (stringToUtf16 text)).slots.size = (stringBytes (stringToUtf16 text)).size := by
    rw [(Cell.writeAll_facts _ _).2.2]; simp [bytes0]
  have b2 : (stringAt Zs.cS Zs.kS Zs.fv Zs.fc (stringToUtf16 text) W.heap.size).slots.size = 4 := by simp [string0, Cell.setSlot, hn4]
  have b3 : (freshCell P1.m.cls kX).slots.size = 6 := by simp [hn6]
  rw [b1, b2, b3] at X5
  have e9 : slots + (stringBytes (stringToUtf16 text)).size + 4 + 6 = slots + ((stringBytes (stringToUtf16 text)).size + 4 + 6) := by omega
  rw [e9] at X5
  simp only [List.append_assoc, List.cons_append, List.nil_append] at X5
  refine ⟨((withThrown W Zs text P1.m.cls kX).setVm vm').setCell (W.heap.size + 2) (plainBareV T.toThrowableT (freshCell P1.m.cls kX) (W.heap.size + 2) u0 sen (.ref (W.heap.size + 1))), W.heap.size + 2, _, fun target ht => st _ (by rw [X.tail, ← hU]; exact ht),
    X5.forget (fun y hy => ?_), heapAt_setCell_self _ ha, hfound, rfl⟩
  simp only [List.mem_cons, List.not_mem_nil, or_false] at hy
  have hge : s.heap.size ≤ W.heap.size := X.same.2.1
  rcases hy with rfl | rfl | rfl | rfl | rfl <;> exact Nat.le_trans hge (Nat.le_add_right _ 2)
set_option maxHeartbeats 1000000 in
/-- the machine throws NullPointerException, no traces kept: from its note over the frame g to 'throwing' over the same frame (follows the proof of Stand.vmThrowsNpe, Shelf42/KT2.lean; throwsNpeColdBareVAt, Shelf42/NT91.lean, called) -/
theorem vx_npeAt {p : Program} {l : Launch} {e : Env} {R : Room} {s : State} {m₀ : MethodId} {args : Array Value} {below : List Frame} {meth : Method} {c : Code} {W : State} {locs : List Loc} {cells slots : Nat}
    (X : Stand p l e R s m₀ args below meth c W locs cells slots) (hexec : p.tables.exec = Jvm.exec) (htr : e.platform.stackTraces = false) {n : Nat}
    (h : ∀ a ∈ Bundle.npeArmAtoms n, a.before args s = true)
    (hlocs : ∀ x ∈ locs, ∀ cell, s.heap[x.base]? = some cell → cell.vm.isStatics = false)
    {g : JFrame} (hg : g.method = m₀) (hsize : g.locals.size = c.maxLocals)
    (hRframes : 7 < R.frames) (hRlocals : 2 * g.monitorRoom + (g.stack.map fun v => v.category).sum + 10240 ≤ R.locals)
    (hRcells : cells + 1 ≤ R.cells) (hRslots : slots + n ≤ R.slots) (hlocks : meth.locks = false) :
    ∃ (S : State) (q : Addr) (ce : Cell), (∀ target, Steps p.tables e below ((S.setTop g).pushFrame (.throwing q)) target → Steps p.tables e below ((W.setTop g).pushFrame (.throwNew "java/lang/NullPointerException" none none)) target) ∧
      Stand p l e R s m₀ args below meth c S locs (cells + 1) (slots + n) ∧ S.heap[q]? = some ce ∧ s.vm.findClass "java/lang/NullPointerException" = some ce.cls ∧ ce.vm = .none := by
  have howns : e.platform.frameOwnsMonitors = true := by rw [X.admits.platform]
  have hfin : e.platform.finalization = false := by rw [X.admits.platform]
  have hpl : e.platform.magicAccessors = ({} : Platform).magicAccessors := by rw [X.admits.platform]
  have hpl2 : e.platform.arrayCloneIsPublic = true := by rw [X.admits.platform]
  have a' : ∀ x, x ∈ Bundle.npeArmAtoms n → x.holds args s none s [] = true := fun x hx => h x hx
  obtain ⟨T, Z, L, LZ, Y⟩ := ThrowableC.of_atoms (args := args) howns hfin hpl (fun x hx => h x (by simp [Bundle.npeArmAtoms, hx]))
  obtain ⟨N, LN, hcN, hnNF, hordN, hffS⟩ := NpeC.of_atoms (args := args) hpl hpl2 L Y (fun x hx => h x (by simp [Bundle.npeArmAtoms, hx]))
  obtain ⟨P1, L1, hP1m, hP1s⟩ := PassC.of_atoms (args := args) (s := s) hpl (X := Bundle.nN) (Y := Bundle.rN) (by decide) (by decide) LibCode.NullPointerException.Init0.at_0 LibCode.NullPointerException.Init0.at_1 LibCode.NullPointerException.Init0.at_4 (fun x hx => h x (by simp [Bundle.npeArmAtoms, hx]))
  obtain ⟨PR, LR, hPRm, hPRs⟩ := PassC.of_atoms (args := args) (s := s) hpl (X := Bundle.rN) (Y := Bundle.eN) (by decide) (by decide) LibCode.RuntimeException.Init0.at_0 LibCode.RuntimeException.Init0.at_1 LibCode.RuntimeException.Init0.at_4 (fun x hx => h x (by simp [Bundle.npeArmAtoms, hx]))
  obtain ⟨PE, LEx, hPEm, hPEs⟩ := PassC.of_atoms (args := args) (s := s) hpl (X := Bundle.eN) (Y := Bundle.tN) (by decide) (by decide) LibCode.Exception.Init0.at_0 LibCode.Exception.Init0.at_1 LibCode.Exception.Init0.at_4 (fun x hx => h x (by simp [Bundle.npeArmAtoms, hx]))
  have hfound : s.vm.findClass Bundle.nN = some P1.m.cls := findClass_of_methodNamed hP1m
  have ecls : N.cN = P1.m.cls := Option.some.inj (hcN.symm.trans hfound)
  have hk : s.vm.classes[P1.m.cls]? = some N.kN := by rw [← ecls]; exact LN.cls
  have hinit := Cond.initialized_spec hfound hk (a' (.initialized Bundle.nN) (by simp [Bundle.npeArmAtoms]))
  have hctor : N.kN.findMethod "<init>" "()V" = some P1.m.idx := findMethod_of_methodNamed hP1m hk
  obtain ⟨c1, k1, hc1, hk1, -, -, -, hn⟩ := Cond.instantiable_spec (a' (.instantiable Bundle.nN n) (by simp [Bundle.npeArmAtoms]))
  cases Option.some.inj (hc1.symm.trans hfound)
  cases Option.some.inj (hk1.symm.trans hk)
  have hfsz : (freshCell P1.m.cls N.kN).slots.size = n := by simp [hn]
  have hlink1 : P1.sup = PR.m := Option.some.inj (hP1s.symm.trans hPRm)
  have hlinkR : PR.sup = PE.m := Option.some.inj (hPRs.symm.trans hPEm)
  have hlinkE : PE.sup = Z.m T.toThrowableT := Option.some.inj (hPEs.symm.trans Y.init0)
  have hLs : ∀ P, P ∈ [PR, PE] → P.Links0 e.platform s := fun P hP => by
    simp only [List.mem_cons, List.not_mem_nil, or_false] at hP
    rcases hP with rfl | rfl
    · exact LR
    · exact LEx
  have hsel0 : selectMethod e.platform s.vm P1.m.cls T.fill0 = .method T.fill0 := by
    obtain ⟨c2, r2, m2, q1, q2, q3, q4, -⟩ := Cond.selects_spec (a' (.selects Bundle.nN Bundle.tFill0 Bundle.tFill0) (by simp [Bundle.npeArmAtoms]))
    cases Option.some.inj (q1.symm.trans hfound)
    cases Option.some.inj (q2.symm.trans (State.methodFound?_of_named Y.fill0 (by decide)))
    cases Option.some.inj (q3.symm.trans Y.fill0)
    rw [Launch.admits_selectMethod X.admits]; exact q4
  have hselF : selectMethod e.platform s.vm P1.m.cls T.fill = .method N.fill := by
    obtain ⟨c2, r2, m2, q1, q2, q3, q4, -⟩ := Cond.selects_spec (a' (.selects Bundle.nN Bundle.tFill Bundle.nFill) (by simp [Bundle.npeArmAtoms]))
    cases Option.some.inj (q1.symm.trans hfound)
    cases Option.some.inj (q2.symm.trans (State.methodFound?_of_named Y.fill (by decide)))
    cases Option.some.inj (q3.symm.trans hnNF)
    rw [Launch.admits_selectMethod X.admits]; exact q4
  obtain ⟨cellS0, hcS0, hiss⟩ := Y.statics
  obtain ⟨u0, hu0⟩ := Cond.staticRefV Y.unassigned L.unassignedStatic L.statics hcS0 hiss (a' (.isRef (.static Bundle.tN "UNASSIGNED_STACK" Bundle.steD)) (by simp [Bundle.npeArmAtoms]))
  obtain ⟨sen, hsen⟩ := Cond.staticRefV Y.sentinel L.sentinelStatic L.statics hcS0 hiss (a' (.isRef (.static Bundle.tN "SUPPRESSED_SENTINEL" Bundle.listD)) (by simp [Bundle.npeArmAtoms]))
  obtain ⟨ci198, i198, fB, hk198, hg198, ha198, hsB, -, hnB, htB, hffB⟩ := Cond.ownField (t := .object "java/lang/Object") Y.found L.cls (by decide +kernel) (a' (.fieldLink Bundle.tN 198 Bundle.tN "backtrace" Bundle.objD) (by simp [Bundle.npeArmAtoms])) (a' (.lays Bundle.tN Bundle.tN "backtrace" Bundle.objD) (by simp [Bundle.npeArmAtoms])) e.platform hpl
  obtain ⟨cellS, hcS', heS, -, hkeep⟩ := X.same.2.2.2.2.2 T.aS cellS0 hcS0
  have hcellS : W.heap[T.aS]? = some cellS := hcS'
  have hout' : ∀ i, (⟨T.aS, i⟩ : Loc) ∉ locs := fun i hmem => by
    have := hlocs _ hmem cellS0 hcS0
    rw [hiss] at this; cases this
  have hknownS : cellS.vm ≠ .unknown := by
    rw [heS]; intro hu
    rw [show cellS0.vm = .unknown from hu] at hiss
    cases hiss
  have hvU : cellS.slots[T.fUnassigned.slot]? = some u0.v := by rw [hkeep _ (hout' _)]; exact hu0
  have hvSen : cellS.slots[T.fSentinel.slot]? = some sen.v := by rw [hkeep _ (hout' _)]; exact hsen
  obtain ⟨tyC, dC, hdC, hdnC⟩ := Cond.laysAt hfound hk Y.cause (a' (.lays Bundle.nN Bundle.tN "cause" "Ljava/lang/Throwable;") (by simp [Bundle.npeArmAtoms]))
  obtain ⟨tyS, dS, hdS, hdnS⟩ := Cond.laysAt hfound hk Y.stack (a' (.lays Bundle.nN Bundle.tN "stackTrace" Bundle.steD) (by simp [Bundle.npeArmAtoms]))
  obtain ⟨tyP, dP, hdP, hdnP⟩ := Cond.laysAt hfound hk Y.supp (a' (.lays Bundle.nN Bundle.tN "suppressedExceptions" Bundle.listD) (by simp [Bundle.npeArmAtoms]))
  obtain ⟨tyX, dX, hdX, hdnX⟩ := Cond.laysAt hfound hk hffS (a' (.lays Bundle.nN Bundle.nN "extendedMessageState" "I") (by simp [Bundle.npeArmAtoms, Bundle.npeAtoms]))
  obtain ⟨hnX, htX⟩ := State.fieldFound?_type hffS (t := .int) (by decide +kernel)
  have xC := Cond.laysApart hdC hdX hdnC hdnX (by rw [hnX, Y.causeName]; decide)
  have xS := Cond.laysApart hdS hdX hdnS hdnX (by rw [hnX, Y.stackName]; decide)
  have xP := Cond.laysApart hdP hdX hdnP hdnX (by rw [hnX, Y.suppName]; decide)
  have hv0 : (freshCell P1.m.cls N.kN).slots[N.fState.slot]? = some (.int 0) := by
    have := fresh_default (c := P1.m.cls) tyX
    rw [htX] at this; exact this
  obtain ⟨tyB, dB, hdB, hdnB⟩ := Cond.laysAt hfound hk hffB (a' (.lays Bundle.nN Bundle.tN "backtrace" Bundle.objD) (by simp [Bundle.npeArmAtoms]))
  have bC := Cond.laysApart hdB hdC hdnB hdnC (by rw [hnB, Y.causeName]; decide)
  have bS := Cond.laysApart hdB hdS hdnB hdnS (by rw [hnB, Y.stackName]; decide)
  have bP := Cond.laysApart hdB hdP hdnB hdnP (by rw [hnB, Y.suppName]; decide)
  have bX := Cond.laysApart hdB hdX hdnB hdnX (by rw [hnB, hnX]; decide)
  have hbk : ((npeCell N.toNpeT (preparedCellV T.toThrowableT (freshCell P1.m.cls N.kN) W.heap.size u0 sen) W.cur).withEntry W.cur).slots[fB.slot]? = some .null := by
    have := fresh_default (c := P1.m.cls) tyB
    rw [htB] at this
    simpa [npeCell, preparedCellV, Cell.setSlot, Cell.withEntry, Array.getElem?_setIfInBounds, bC, bS, bP, bX, bC.symm, bS.symm, bP.symm, bX.symm, defaultValue] using this
  have tkC := Takes.of_laid (v := .ref W.heap.size) hk hordN tyC (by rw [Y.causeType]; rfl)
  have tkS := Takes.of_laid (v := u0.v) hk hordN tyS (by rw [Y.stackType]; exact fits_refV_array _ u0)
  have tkP := Takes.of_laid (v := sen.v) hk hordN tyP (by rw [Y.suppType]; exact fits_refV_object _ sen)
  have tkX := Takes.of_laid (v := .int 1) hk hordN tyX (by rw [htX]; rfl)
  have hskip : SkipFacts T e.platform s (fun u => u) u0 ((npeCell N.toNpeT (preparedCellV T.toThrowableT (freshCell P1.m.cls N.kN) W.heap.size u0 sen) W.cur).withEntry W.cur) := ⟨{ ci198 := ci198, i198 := i198, fBack := fB }, ⟨hk198, hg198, ha198, hsB⟩, hbk, fun _ _ => rfl⟩
  obtain ⟨vm', X3, st, -⟩ := X.throwsNpeColdBareVAt hexec hg hsize T L Z LZ N LN P1 L1 [PR, PE] hLs hlink1 ⟨hlinkR, hlinkE, trivial⟩ hfound hk hinit hordN hctor hsel0 hselF hcellS hknownS hvU hvSen
    hv0 xC xS xP tkC tkS tkP tkX Y.objLocals hskip (fun _ _ hA hW _ hroom _ hrest => L.nativeOff p htr hA hW hroom hrest) (by simpa using hRframes) hRlocals (by simp) hRcells (by rw [hn]; exact hRslots)
  have hlt : W.heap.size < ((W.pushCell (freshCell P1.m.cls N.kN)).setVm vm').heap.size := by
    show W.heap.size < (W.pushCell (freshCell P1.m.cls N.kN)).heap.size
    rw [State.heap_size_pushCell]; omega
  rw [hfsz] at X3
  obtain ⟨g₁, hfrM⟩ := X3.frames_eq
  have hU : ((((W.pushCell (freshCell P1.m.cls N.kN)).setVm vm').setCell W.heap.size (npeBareV T.toThrowableT N.toNpeT (freshCell P1.m.cls N.kN) W.heap.size u0 sen)).setTop g).pushFrame (.throwing W.heap.size) = (((W.pushCell (freshCell P1.m.cls N.kN)).setVm vm').setCell W.heap.size (npeBareV T.toThrowableT N.toNpeT (freshCell P1.m.cls N.kN) W.heap.size u0 sen)).setFrames (.throwing W.heap.size :: .java g :: below) := by
    rw [State.pushFrame, State.frames_setTop _ hfrM, State.setTop_of_frames _ hfrM, State.setFrames_setFrames]
  refine ⟨_, W.heap.size, _, fun target ht => st.trans (by rw [← hU]; exact ht), X3.forget (fun y hy => ?_), heapAt_setCell_self _ hlt, hfound, rfl⟩
  simp only [List.mem_cons, List.not_mem_nil, or_false] at hy
  have hge : s.heap.size ≤ W.heap.size := X.same.2.1
  rcases hy with rfl | rfl | rfl | rfl | rfl <;> exact hge
/-- the words of a machine's NullPointerException, but the four that speak of the heap -/
def vx_atN (n : Nat) : List Cond := (Bundle.npeArmAtoms n).filter vx_no
/-- the words of a machine's throw with a message, but the four that speak of the heap -/
def vx_atM (X : String) (names : List String) : List Cond := (Bundle.messageArmAtoms X names).filter vx_no
section
variable {p : Program} {l : Launch} {e : Env} {R : Room} {s : State} {m : MethodId} {args : Array Value} {below : List Frame} {meth : Method} {c : Code} {H : Heap} {locs : List Loc} {cells slots : Nat}
/-- a frame seen from a rebased start, seen from the first start again -/
theorem vx_back9 {T S : State} {R' : Room} {k n : Nat} (X : Stand p l e R s m args below meth c T locs cells slots) (Y : Stand p l e R' ((T.setVm s.vm).setFrames (.invoking m args :: below)) m args below meth c T [] 0 0) (Z : Stand p l e R' ((T.setVm s.vm).setFrames (.invoking m args :: below)) m args below meth c S [] k n) :
    Stand p l e R s m args below meth c S locs (cells + k) (slots + n) := by
  have hW0 : s.WarmedH ((T.setVm s.vm).setFrames (.invoking m args :: below)).vm := State.WarmedH.refl s
  refine { admits := X.admits, cas := X.cas, clock := X.clock, frames := X.frames, room := X.room, hears := X.hears, method := X.method, code := X.code, here := Z.here, tail := Z.tail, warmed := State.WarmedH.trans hW0 Z.warmed, limits := Z.limits.trans (Y.limits.symm.trans X.limits), bytes := Z.bytes.trans (Y.bytes.symm.trans X.bytes), same := ?_ }
  obtain ⟨e1, e2⟩ := Z.same
  rw [State.setFrames_setFrames] at e1
  have h2 : (T.setVm s.vm).sameButNew (S.setVm s.vm) [] k n := ⟨e1, e2⟩
  have h3 := X.same.trans h2
  rw [List.append_nil] at h3
  exact h3
/-- from the machine's note that E is thrown here with this text -/
def vx_Note (p : Program) (l : Launch) (e : Env) (R : Room) (s : State) (m : MethodId) (args : Array Value) (below : List Frame) (meth : Method) (c : Code) (H : Heap) (locs : List Loc) (cells slots : Nat) (Q : State → Prop) (g : JFrame) (E text : String) : Prop :=
  ∀ T : State, T.heap = H → Stand p l e R s m args below meth c T locs cells slots → ∃ t, Steps p.tables e below ((T.setTop g).pushFrame (.throwNew E (some text) none)) t ∧ Q t
theorem vx_vm {pc : Nat} {ls : Array Slot} {rest : List Value} {Q : State → Prop} (hexec : p.tables.exec = Jvm.exec) (hl : l.stackTraces = false) {cls text : String} {names : List String} {nb : Nat} {A : Nat → Prop}
    (hcls : Bundle.fit cls = true) (hnames : ∀ n ∈ names, Bundle.fit n = true) (hsoe : (cls == "java/lang/StackOverflowError") = false) (hoom : (cls == "java/lang/OutOfMemoryError") = false)
    (hat : ∀ w ∈ vx_atM cls names, w.before args s = true) (hgood : ∀ w ∈ vx_atM cls names, vx_ot w = true)
    (hU : vx_Zq Bundle.tN "UNASSIGNED_STACK" Bundle.steD A s s.heap) (hN : vx_Zq Bundle.tN "SUPPRESSED_SENTINEL" Bundle.listD A s s.heap) (hS : va_S A s.heap H locs) (hsize : ls.size = c.maxLocals)
    (htext : (text == notModelled) = false) (hnb : (stringBytes (stringToUtf16 text)).size ≤ nb) (hnb1 : nb ≤ 1000)
    (hRframes : names.length + 4 < R.frames) (hRlocals : (rest.map fun v => v.category).sum + 10240 ≤ R.locals) (hshort : 13 * names.length + 55 ≤ 10240) (hRcells : cells + 3 ≤ R.cells) (hRslots : slots + (nb + 10) ≤ R.slots) (hlocks : meth.locks = false)
    (k : ∀ (H1 : Heap) (q9 : Addr) (ce : Cell), H.size ≤ H1.size → (∀ q : Nat, q < H.size → H1[q]? = H[q]?) → va_S A s.heap H1 locs → H1[q9]? = some ce → ce.vm = .none → s.vm.findClass cls = some ce.cls → vx_W p l e R s m args below meth c H1 locs (cells + 3) (slots + (nb + 10)) Q (F0 m pc ls rest) q9) :
    vx_Note p l e R s m args below meth c H locs cells slots Q (F0 m pc ls rest) cls text := by
  intro T hT X
  have htr : e.platform.stackTraces = false := (show e.platform.stackTraces = l.stackTraces by rw [X.admits.platform]).trans hl
  have Y := vx_rebase X (R' := { frames := R.frames, locals := R.locals, cells := 3, slots := nb + 10 }) (Nat.le_refl _) (Nat.le_refl _) hRcells hRslots
  have hhp : ((T.setVm s.vm).setFrames (.invoking m args :: below)).heap = H := hT
  have hW0 : s.WarmedH ((T.setVm s.vm).setFrames (.invoking m args :: below)).vm := State.WarmedH.refl s
  have hat' : ∀ w ∈ vx_atM cls names, w.before args ((T.setVm s.vm).setFrames (.invoking m args :: below)) = true := fun w hw => vx_ot_at hW0 rfl (hgood w hw) (hat w hw)
  have hU' : vx_Zq Bundle.tN "UNASSIGNED_STACK" Bundle.steD A ((T.setVm s.vm).setFrames (.invoking m args :: below)) ((T.setVm s.vm).setFrames (.invoking m args :: below)).heap := by rw [hhp]; exact vx_Zq.moved hW0.alike (hU.kept hS.2.1)
  have hN' : vx_Zq Bundle.tN "SUPPRESSED_SENTINEL" Bundle.listD A ((T.setVm s.vm).setFrames (.invoking m args :: below)) ((T.setVm s.vm).setFrames (.invoking m args :: below)).heap := by rw [hhp]; exact vx_Zq.moved hW0.alike (hN.kept hS.2.1)
  obtain ⟨S, q, ce, st, Z, hce, hcl', hv⟩ := vx_vmAt Y hexec htr (cls := cls) (names := names) (text := text) hcls hnames hsoe hoom (vx_own hat' (vx_isRefq hU'.1) (vx_isRefq hN'.1) hU'.2.word hN'.2.word) (fun x hx => nomatch hx) htext
    (by rw [Launch.admits_arrayLengthLimit X.admits]; omega) (by rw [Launch.admits_maxHeapBytes X.admits]; simp only [componentBytes]; omega)
    (g := F0 m pc ls rest) rfl hsize hRframes (by show 2 * 0 + (rest.map fun v => v.category).sum + 10240 ≤ R.locals; omega) hshort (by show 0 + 3 ≤ 3; omega) (by show 0 + (_ + 4 + 6) ≤ nb + 10; omega) hlocks
  obtain ⟨f1, f2⟩ := vx_frame Z.same
  have f1' : H.size ≤ S.heap.size := by rw [← hT]; exact f1
  have f2' : ∀ q : Nat, q < H.size → S.heap[q]? = H[q]? := fun q hq => by
    rw [← hT]
    exact f2 q (by rw [← hT] at hq; exact hq) (fun z hz => nomatch hz)
  have X5 := vx_back9 X Y Z
  have X6 : Stand p l e R s m args below meth c S locs (cells + 3) (slots + (nb + 10)) := { X5 with same := X5.same.mono (by omega) (by omega) }
  obtain ⟨t, a1, b1⟩ := k S.heap q ce f1' f2' ⟨Nat.le_trans hS.1 f1', fun q h1 h2 => (f2' q (Nat.lt_of_lt_of_le h1 hS.1)).trans (hS.2.1 q h1 h2), hS.2.2⟩ hce hv hcl' S rfl X6
  exact ⟨t, st t a1, b1⟩
/-- from the machine's note that NullPointerException is thrown here -/
def vx_NoteN (p : Program) (l : Launch) (e : Env) (R : Room) (s : State) (m : MethodId) (args : Array Value) (below : List Frame) (meth : Method) (c : Code) (H : Heap) (locs : List Loc) (cells slots : Nat) (Q : State → Prop) (g : JFrame) : Prop :=
  ∀ T : State, T.heap = H → Stand p l e R s m args below meth c T locs cells slots → ∃ t, Steps p.tables e below ((T.setTop g).pushFrame (.throwNew "java/lang/NullPointerException" none none)) t ∧ Q t
theorem vx_npe {pc : Nat} {ls : Array Slot} {rest : List Value} {Q : State → Prop} (hexec : p.tables.exec = Jvm.exec) (hl : l.stackTraces = false) {nb : Nat} {A : Nat → Prop}
    (hat : ∀ w ∈ vx_atN nb, w.before args s = true) (hgood : ∀ w ∈ vx_atN nb, vx_ot w = true)
    (hU : vx_Zq Bundle.tN "UNASSIGNED_STACK" Bundle.steD A s s.heap) (hN : vx_Zq Bundle.tN "SUPPRESSED_SENTINEL" Bundle.listD A s s.heap) (hS : va_S A s.heap H locs) (hsize : ls.size = c.maxLocals)
    (hRframes : 7 < R.frames) (hRlocals : (rest.map fun v => v.category).sum + 10240 ≤ R.locals) (hRcells : cells + 1 ≤ R.cells) (hRslots : slots + nb ≤ R.slots) (hlocks : meth.locks = false)
    (k : ∀ (H1 : Heap) (q9 : Addr) (ce : Cell), H.size ≤ H1.size → (∀ q : Nat, q < H.size → H1[q]? = H[q]?) → va_S A s.heap H1 locs → H1[q9]? = some ce → ce.vm = .none → s.vm.findClass "java/lang/NullPointerException" = some ce.cls → vx_W p l e R s m args below meth c H1 locs (cells + 1) (slots + nb) Q (F0 m pc ls rest) q9) :
    vx_NoteN p l e R s m args below meth c H locs cells slots Q (F0 m pc ls rest) := by
  intro T hT X
  have htr : e.platform.stackTraces = false := (show e.platform.stackTraces = l.stackTraces by rw [X.admits.platform]).trans hl
  have Y := vx_rebase X (R' := { frames := R.frames, locals := R.locals, cells := 1, slots := nb }) (Nat.le_refl _) (Nat.le_refl _) hRcells hRslots
  have hhp : ((T.setVm s.vm).setFrames (.invoking m args :: below)).heap = H := hT
  have hW0 : s.WarmedH ((T.setVm s.vm).setFrames (.invoking m args :: below)).vm := State.WarmedH.refl s
  have hat' : ∀ w ∈ vx_atN nb, w.before args ((T.setVm s.vm).setFrames (.invoking m args :: below)) = true := fun w hw => vx_ot_at hW0 rfl (hgood w hw) (hat w hw)
  have hU' : vx_Zq Bundle.tN "UNASSIGNED_STACK" Bundle.steD A ((T.setVm s.vm).setFrames (.invoking m args :: below)) ((T.setVm s.vm).setFrames (.invoking m args :: below)).heap := by rw [hhp]; exact vx_Zq.moved hW0.alike (hU.kept hS.2.1)
  have hN' : vx_Zq Bundle.tN "SUPPRESSED_SENTINEL" Bundle.listD A ((T.setVm s.vm).setFrames (.invoking m args :: below)) ((T.setVm s.vm).setFrames (.invoking m args :: below)).heap := by rw [hhp]; exact vx_Zq.moved hW0.alike (hN.kept hS.2.1)
  obtain ⟨S, q, ce, st, Z, hce, hcl', hv⟩ := vx_npeAt Y hexec htr (n := nb) (vx_own hat' (vx_isRefq hU'.1) (vx_isRefq hN'.1) hU'.2.word hN'.2.word) (fun x hx => nomatch hx)
    (g := F0 m pc ls rest) rfl hsize hRframes (by show 2 * 0 + (rest.map fun v => v.category).sum + 10240 ≤ R.locals; omega) (by show 0 + 1 ≤ 1; omega) (by show 0 + nb ≤ nb; omega) hlocks
  obtain ⟨f1, f2⟩ := vx_frame Z.same
  have f1' : H.size ≤ S.heap.size := by rw [← hT]; exact f1
  have f2' : ∀ q : Nat, q < H.size → S.heap[q]? = H[q]? := fun q hq => by
    rw [← hT]
    exact f2 q (by rw [← hT] at hq; exact hq) (fun z hz => nomatch hz)
  have X5 := vx_back9 X Y Z
  have X6 : Stand p l e R s m args below meth c S locs (cells + 1) (slots + nb) := { X5 with same := X5.same.mono (by omega) (by omega) }
  obtain ⟨t, a1, b1⟩ := k S.heap q ce f1' f2' ⟨Nat.le_trans hS.1 f1', fun q h1 h2 => (f2' q (Nat.lt_of_lt_of_le h1 hS.1)).trans (hS.2.1 q h1 h2), hS.2.2⟩ hce hv hcl' S rfl X6
  exact ⟨t, st t a1, b1⟩
variable {Q : State → Prop} {cc : ByteArray} {pc : Nat} {ls : Array Slot} {rest : List Value}
theorem vx_idivZ (hexec : p.tables.exec = Jvm.exec) (hb : c.code = cc) {a b : Int32} (h0 : b = 0) (d : decode cc pc = .ok (.idiv, 1)) (k : vx_Note p l e R s m args below meth c H locs cells slots Q (F0 m pc ls rest) "java/lang/ArithmeticException" "/ by zero") :
    W p l e R s m args below meth c H locs cells slots Q (F0 m pc ls (.int b :: .int a :: rest)) := by
  intro T hT X
  obtain ⟨t, st, q⟩ := k T hT X
  exact ⟨t, X.idivZero hexec (g := F0 m pc ls (.int b :: .int a :: rest)) rfl (a := a) (rest := rest) (by rw [h0]) (by rw [hb]; exact d) t st, q⟩
theorem vx_iremZ (hexec : p.tables.exec = Jvm.exec) (hb : c.code = cc) {a b : Int32} (h0 : b = 0) (d : decode cc pc = .ok (.irem, 1)) (k : vx_Note p l e R s m args below meth c H locs cells slots Q (F0 m pc ls rest) "java/lang/ArithmeticException" "/ by zero") :
    W p l e R s m args below meth c H locs cells slots Q (F0 m pc ls (.int b :: .int a :: rest)) := by
  intro T hT X
  obtain ⟨t, st, q⟩ := k T hT X
  exact ⟨t, X.iremZero hexec (g := F0 m pc ls (.int b :: .int a :: rest)) rfl (a := a) (rest := rest) (by rw [h0]) (by rw [hb]; exact d) t st, q⟩
theorem vx_ldivZ (hexec : p.tables.exec = Jvm.exec) (hb : c.code = cc) {a b : Int64} (h0 : b = 0) (d : decode cc pc = .ok (.ldiv, 1)) (k : vx_Note p l e R s m args below meth c H locs cells slots Q (F0 m pc ls rest) "java/lang/ArithmeticException" "/ by zero") :
    W p l e R s m args below meth c H locs cells slots Q (F0 m pc ls (.long b :: .long a :: rest)) := by
  intro T hT X
  obtain ⟨t, st, q⟩ := k T hT X
  exact ⟨t, X.ldivZero hexec (g := F0 m pc ls (.long b :: .long a :: rest)) rfl (a := a) (rest := rest) (by rw [h0]) (by rw [hb]; exact d) t st, q⟩
theorem vx_lremZ (hexec : p.tables.exec = Jvm.exec) (hb : c.code = cc) {a b : Int64} (h0 : b = 0) (d : decode cc pc = .ok (.lrem, 1)) (k : vx_Note p l e R s m args below meth c H locs cells slots Q (F0 m pc ls rest) "java/lang/ArithmeticException" "/ by zero") :
    W p l e R s m args below meth c H locs cells slots Q (F0 m pc ls (.long b :: .long a :: rest)) := by
  intro T hT X
  obtain ⟨t, st, q⟩ := k T hT X
  exact ⟨t, X.lremZero hexec (g := F0 m pc ls (.long b :: .long a :: rest)) rfl (a := a) (rest := rest) (by rw [h0]) (by rw [hb]; exact d) t st, q⟩
theorem vx_ialdZ {D : va_G} {cl : List vw_C} {ws : va_W} {tys : List (ClassId × FieldType)} {a : Nat} (hexec : p.tables.exec = Jvm.exec) (hb : c.code = cc) (hK : va_K D cl tys s) (hP : va_P D cl ws H) (q0 t0 : Nat) {cA : ClassId} {n : Nat} {f : Nat → Int32} (ha : ws[q0]? = some (a, .inl (cA, n, .inl f))) (ht : tys[t0]? = some (cA, .int)) {i : Int32} (hout : ¬ vp_in i n) (hdg : decode cc pc = .ok (.iaload, 1))
    (k : ∀ tx : String, tx = (toString "Index " ++ toString i ++ toString " out of bounds for length " ++ toString n : String) → vx_Note p l e R s m args below meth c H locs cells slots Q (F0 m pc ls rest) "java/lang/ArrayIndexOutOfBoundsException" tx) : W p l e R s m args below meth c H locs cells slots Q (F0 m pc ls (.int i :: .ref a :: rest)) := by
  intro T hT X
  obtain ⟨t, st, q⟩ := k _ rfl T hT X
  refine ⟨t, ?_, q⟩
  have h1 := X.ialoadOut hexec (by rw [hT]; exact hP q0 _ ha) ((hK.2 t0 _ ht).1 n (fun j => .int (f j))) (j := i) (by show (i < 0 ∨ (arrV _ _ _).slots.size ≤ _); rw [arrV_size]; exact Classical.byContradiction hout) (g := F0 m pc ls (.int i :: .ref a :: rest)) rfl (rest := rest) rfl (by rw [hb]; exact hdg) t
  simp only [arrV_size] at h1
  exact h1 st
theorem vx_iastZ {D : va_G} {cl : List vw_C} {ws : va_W} {tys : List (ClassId × FieldType)} {a : Nat} (hexec : p.tables.exec = Jvm.exec) (hb : c.code = cc) (hK : va_K D cl tys s) (hP : va_P D cl ws H) (q0 t0 : Nat) {cA : ClassId} {n : Nat} {f : Nat → Int32} (ha : ws[q0]? = some (a, .inl (cA, n, .inl f))) (ht : tys[t0]? = some (cA, .int)) {i : Int32} {x : Int32} (hout : ¬ vp_in i n) (hdg : decode cc pc = .ok (.iastore, 1))
    (k : ∀ tx : String, tx = (toString "Index " ++ toString i ++ toString " out of bounds for length " ++ toString n : String) → vx_Note p l e R s m args below meth c H locs cells slots Q (F0 m pc ls rest) "java/lang/ArrayIndexOutOfBoundsException" tx) : W p l e R s m args below meth c H locs cells slots Q (F0 m pc ls (.int x :: .int i :: .ref a :: rest)) := by
  intro T hT X
  obtain ⟨t, st, q⟩ := k _ rfl T hT X
  refine ⟨t, ?_, q⟩
  have h1 := X.iastoreOut hexec (by rw [hT]; exact hP q0 _ ha) ((hK.2 t0 _ ht).1 n (fun j => .int (f j))) (j := i) (by show (i < 0 ∨ (arrV _ _ _).slots.size ≤ _); rw [arrV_size]; exact Classical.byContradiction hout) (g := F0 m pc ls (.int x :: .int i :: .ref a :: rest)) rfl (rest := rest) rfl (by rw [hb]; exact hdg) t
  simp only [arrV_size] at h1
  exact h1 st
theorem vx_baldZ {D : va_G} {cl : List vw_C} {ws : va_W} {tys : List (ClassId × FieldType)} {a : Nat} (hexec : p.tables.exec = Jvm.exec) (hb : c.code = cc) (hK : va_K D cl tys s) (hP : va_P D cl ws H) (q0 t0 : Nat) {cA : ClassId} {n : Nat} {f : Nat → Int32} (ha : ws[q0]? = some (a, .inl (cA, n, .inl f))) (ht : tys[t0]? = some (cA, .byte)) {i : Int32} (hout : ¬ vp_in i n) (hdg : decode cc pc = .ok (.baload, 1))
    (k : ∀ tx : String, tx = (toString "Index " ++ toString i ++ toString " out of bounds for length " ++ toString n : String) → vx_Note p l e R s m args below meth c H locs cells slots Q (F0 m pc ls rest) "java/lang/ArrayIndexOutOfBoundsException" tx) : W p l e R s m args below meth c H locs cells slots Q (F0 m pc ls (.int i :: .ref a :: rest)) := by
  intro T hT X
  obtain ⟨t, st, q⟩ := k _ rfl T hT X
  refine ⟨t, ?_, q⟩
  have h1 := X.baloadOut hexec (by rw [hT]; exact hP q0 _ ha) ((hK.2 t0 _ ht).1 n (fun j => .int (f j))) (j := i) (by show (i < 0 ∨ (arrV _ _ _).slots.size ≤ _); rw [arrV_size]; exact Classical.byContradiction hout) (g := F0 m pc ls (.int i :: .ref a :: rest)) rfl (rest := rest) rfl (by rw [hb]; exact hdg) t
  simp only [arrV_size] at h1
  exact h1 st
theorem vx_bastZ {D : va_G} {cl : List vw_C} {ws : va_W} {tys : List (ClassId × FieldType)} {a : Nat} (hexec : p.tables.exec = Jvm.exec) (hb : c.code = cc) (hK : va_K D cl tys s) (hP : va_P D cl ws H) (q0 t0 : Nat) {cA : ClassId} {n : Nat} {f : Nat → Int32} (ha : ws[q0]? = some (a, .inl (cA, n, .inl f))) (ht : tys[t0]? = some (cA, .byte)) {i : Int32} {x : Int32} (hout : ¬ vp_in i n) (hdg : decode cc pc = .ok (.bastore, 1))
    (k : ∀ tx : String, tx = (toString "Index " ++ toString i ++ toString " out of bounds for length " ++ toString n : String) → vx_Note p l e R s m args below meth c H locs cells slots Q (F0 m pc ls rest) "java/lang/ArrayIndexOutOfBoundsException" tx) : W p l e R s m args below meth c H locs cells slots Q (F0 m pc ls (.int x :: .int i :: .ref a :: rest)) := by
  intro T hT X
  obtain ⟨t, st, q⟩ := k _ rfl T hT X
  refine ⟨t, ?_, q⟩
  have h1 := X.bastoreOut hexec (by rw [hT]; exact hP q0 _ ha) ((hK.2 t0 _ ht).1 n (fun j => .int (f j))) (j := i) (by show (i < 0 ∨ (arrV _ _ _).slots.size ≤ _); rw [arrV_size]; exact Classical.byContradiction hout) (g := F0 m pc ls (.int x :: .int i :: .ref a :: rest)) rfl (rest := rest) rfl (by rw [hb]; exact hdg) t
  simp only [arrV_size] at h1
  exact h1 st
theorem vx_zaldZ {D : va_G} {cl : List vw_C} {ws : va_W} {tys : List (ClassId × FieldType)} {a : Nat} (hexec : p.tables.exec = Jvm.exec) (hb : c.code = cc) (hK : va_K D cl tys s) (hP : va_P D cl ws H) (q0 t0 : Nat) {cA : ClassId} {n : Nat} {f : Nat → Int32} (ha : ws[q0]? = some (a, .inl (cA, n, .inl f))) (ht : tys[t0]? = some (cA, .boolean)) {i : Int32} (hout : ¬ vp_in i n) (hdg : decode cc pc = .ok (.baload, 1))
    (k : ∀ tx : String, tx = (toString "Index " ++ toString i ++ toString " out of bounds for length " ++ toString n : String) → vx_Note p l e R s m args below meth c H locs cells slots Q (F0 m pc ls rest) "java/lang/ArrayIndexOutOfBoundsException" tx) : W p l e R s m args below meth c H locs cells slots Q (F0 m pc ls (.int i :: .ref a :: rest)) := by
  intro T hT X
  obtain ⟨t, st, q⟩ := k _ rfl T hT X
  refine ⟨t, ?_, q⟩
  have h1 := X.baloadOut hexec (by rw [hT]; exact hP q0 _ ha) ((hK.2 t0 _ ht).1 n (fun j => .int (f j))) (j := i) (by show (i < 0 ∨ (arrV _ _ _).slots.size ≤ _); rw [arrV_size]; exact Classical.byContradiction hout) (g := F0 m pc ls (.int i :: .ref a :: rest)) rfl (rest := rest) rfl (by rw [hb]; exact hdg) t
  simp only [arrV_size] at h1
  exact h1 st
theorem vx_zastZ {D : va_G} {cl : List vw_C} {ws : va_W} {tys : List (ClassId × FieldType)} {a : Nat} (hexec : p.tables.exec = Jvm.exec) (hb : c.code = cc) (hK : va_K D cl tys s) (hP : va_P D cl ws H) (q0 t0 : Nat) {cA : ClassId} {n : Nat} {f : Nat → Int32} (ha : ws[q0]? = some (a, .inl (cA, n, .inl f))) (ht : tys[t0]? = some (cA, .boolean)) {i : Int32} {x : Int32} (hout : ¬ vp_in i n) (hdg : decode cc pc = .ok (.bastore, 1))
    (k : ∀ tx : String, tx = (toString "Index " ++ toString i ++ toString " out of bounds for length " ++ toString n : String) → vx_Note p l e R s m args below meth c H locs cells slots Q (F0 m pc ls rest) "java/lang/ArrayIndexOutOfBoundsException" tx) : W p l e R s m args below meth c H locs cells slots Q (F0 m pc ls (.int x :: .int i :: .ref a :: rest)) := by
  intro T hT X
  obtain ⟨t, st, q⟩ := k _ rfl T hT X
  refine ⟨t, ?_, q⟩
  have h1 := X.bastoreOut hexec (by rw [hT]; exact hP q0 _ ha) ((hK.2 t0 _ ht).1 n (fun j => .int (f j))) (j := i) (by show (i < 0 ∨ (arrV _ _ _).slots.size ≤ _); rw [arrV_size]; exact Classical.byContradiction hout) (g := F0 m pc ls (.int x :: .int i :: .ref a :: rest)) rfl (rest := rest) rfl (by rw [hb]; exact hdg) t
  simp only [arrV_size] at h1
  exact h1 st
theorem vx_caldZ {D : va_G} {cl : List vw_C} {ws : va_W} {tys : List (ClassId × FieldType)} {a : Nat} (hexec : p.tables.exec = Jvm.exec) (hb : c.code = cc) (hK : va_K D cl tys s) (hP : va_P D cl ws H) (q0 t0 : Nat) {cA : ClassId} {n : Nat} {f : Nat → Int32} (ha : ws[q0]? = some (a, .inl (cA, n, .inl f))) (ht : tys[t0]? = some (cA, .char)) {i : Int32} (hout : ¬ vp_in i n) (hdg : decode cc pc = .ok (.caload, 1))
    (k : ∀ tx : String, tx = (toString "Index " ++ toString i ++ toString " out of bounds for length " ++ toString n : String) → vx_Note p l e R s m args below meth c H locs cells slots Q (F0 m pc ls rest) "java/lang/ArrayIndexOutOfBoundsException" tx) : W p l e R s m args below meth c H locs cells slots Q (F0 m pc ls (.int i :: .ref a :: rest)) := by
  intro T hT X
  obtain ⟨t, st, q⟩ := k _ rfl T hT X
  refine ⟨t, ?_, q⟩
  have h1 := X.caloadOut hexec (by rw [hT]; exact hP q0 _ ha) ((hK.2 t0 _ ht).1 n (fun j => .int (f j))) (j := i) (by show (i < 0 ∨ (arrV _ _ _).slots.size ≤ _); rw [arrV_size]; exact Classical.byContradiction hout) (g := F0 m pc ls (.int i :: .ref a :: rest)) rfl (rest := rest) rfl (by rw [hb]; exact hdg) t
  simp only [arrV_size] at h1
  exact h1 st
theorem vx_castZ {D : va_G} {cl : List vw_C} {ws : va_W} {tys : List (ClassId × FieldType)} {a : Nat} (hexec : p.tables.exec = Jvm.exec) (hb : c.code = cc) (hK : va_K D cl tys s) (hP : va_P D cl ws H) (q0 t0 : Nat) {cA : ClassId} {n : Nat} {f : Nat → Int32} (ha : ws[q0]? = some (a, .inl (cA, n, .inl f))) (ht : tys[t0]? = some (cA, .char)) {i : Int32} {x : Int32} (hout : ¬ vp_in i n) (hdg : decode cc pc = .ok (.castore, 1))
    (k : ∀ tx : String, tx = (toString "Index " ++ toString i ++ toString " out of bounds for length " ++ toString n : String) → vx_Note p l e R s m args below meth c H locs cells slots Q (F0 m pc ls rest) "java/lang/ArrayIndexOutOfBoundsException" tx) : W p l e R s m args below meth c H locs cells slots Q (F0 m pc ls (.int x :: .int i :: .ref a :: rest)) := by
  intro T hT X
  obtain ⟨t, st, q⟩ := k _ rfl T hT X
  refine ⟨t, ?_, q⟩
  have h1 := X.castoreOut hexec (by rw [hT]; exact hP q0 _ ha) ((hK.2 t0 _ ht).1 n (fun j => .int (f j))) (j := i) (by show (i < 0 ∨ (arrV _ _ _).slots.size ≤ _); rw [arrV_size]; exact Classical.byContradiction hout) (g := F0 m pc ls (.int x :: .int i :: .ref a :: rest)) rfl (rest := rest) rfl (by rw [hb]; exact hdg) t
  simp only [arrV_size] at h1
  exact h1 st
theorem vx_saldZ {D : va_G} {cl : List vw_C} {ws : va_W} {tys : List (ClassId × FieldType)} {a : Nat} (hexec : p.tables.exec = Jvm.exec) (hb : c.code = cc) (hK : va_K D cl tys s) (hP : va_P D cl ws H) (q0 t0 : Nat) {cA : ClassId} {n : Nat} {f : Nat → Int32} (ha : ws[q0]? = some (a, .inl (cA, n, .inl f))) (ht : tys[t0]? = some (cA, .short)) {i : Int32} (hout : ¬ vp_in i n) (hdg : decode cc pc = .ok (.saload, 1))
    (k : ∀ tx : String, tx = (toString "Index " ++ toString i ++ toString " out of bounds for length " ++ toString n : String) → vx_Note p l e R s m args below meth c H locs cells slots Q (F0 m pc ls rest) "java/lang/ArrayIndexOutOfBoundsException" tx) : W p l e R s m args below meth c H locs cells slots Q (F0 m pc ls (.int i :: .ref a :: rest)) := by
  intro T hT X
  obtain ⟨t, st, q⟩ := k _ rfl T hT X
  refine ⟨t, ?_, q⟩
  have h1 := X.saloadOut hexec (by rw [hT]; exact hP q0 _ ha) ((hK.2 t0 _ ht).1 n (fun j => .int (f j))) (j := i) (by show (i < 0 ∨ (arrV _ _ _).slots.size ≤ _); rw [arrV_size]; exact Classical.byContradiction hout) (g := F0 m pc ls (.int i :: .ref a :: rest)) rfl (rest := rest) rfl (by rw [hb]; exact hdg) t
  simp only [arrV_size] at h1
  exact h1 st
theorem vx_sastZ {D : va_G} {cl : List vw_C} {ws : va_W} {tys : List (ClassId × FieldType)} {a : Nat} (hexec : p.tables.exec = Jvm.exec) (hb : c.code = cc) (hK : va_K D cl tys s) (hP : va_P D cl ws H) (q0 t0 : Nat) {cA : ClassId} {n : Nat} {f : Nat → Int32} (ha : ws[q0]? = some (a, .inl (cA, n, .inl f))) (ht : tys[t0]? = some (cA, .short)) {i : Int32} {x : Int32} (hout : ¬ vp_in i n) (hdg : decode cc pc = .ok (.sastore, 1))
    (k : ∀ tx : String, tx = (toString "Index " ++ toString i ++ toString " out of bounds for length " ++ toString n : String) → vx_Note p l e R s m args below meth c H locs cells slots Q (F0 m pc ls rest) "java/lang/ArrayIndexOutOfBoundsException" tx) : W p l e R s m args below meth c H locs cells slots Q (F0 m pc ls (.int x :: .int i :: .ref a :: rest)) := by
  intro T hT X
  obtain ⟨t, st, q⟩ := k _ rfl T hT X
  refine ⟨t, ?_, q⟩
  have h1 := X.sastoreOut hexec (by rw [hT]; exact hP q0 _ ha) ((hK.2 t0 _ ht).1 n (fun j => .int (f j))) (j := i) (by show (i < 0 ∨ (arrV _ _ _).slots.size ≤ _); rw [arrV_size]; exact Classical.byContradiction hout) (g := F0 m pc ls (.int x :: .int i :: .ref a :: rest)) rfl (rest := rest) rfl (by rw [hb]; exact hdg) t
  simp only [arrV_size] at h1
  exact h1 st
theorem vx_laldZ {D : va_G} {cl : List vw_C} {ws : va_W} {tys : List (ClassId × FieldType)} {a : Nat} (hexec : p.tables.exec = Jvm.exec) (hb : c.code = cc) (hK : va_K D cl tys s) (hP : va_P D cl ws H) (q0 t0 : Nat) {cA : ClassId} {n : Nat} {f : Nat → Int64} (ha : ws[q0]? = some (a, .inl (cA, n, .inr (.inl f)))) (ht : tys[t0]? = some (cA, .long)) {i : Int32} (hout : ¬ vp_in i n) (hdg : decode cc pc = .ok (.laload, 1))
    (k : ∀ tx : String, tx = (toString "Index " ++ toString i ++ toString " out of bounds for length " ++ toString n : String) → vx_Note p l e R s m args below meth c H locs cells slots Q (F0 m pc ls rest) "java/lang/ArrayIndexOutOfBoundsException" tx) : W p l e R s m args below meth c H locs cells slots Q (F0 m pc ls (.int i :: .ref a :: rest)) := by
  intro T hT X
  obtain ⟨t, st, q⟩ := k _ rfl T hT X
  refine ⟨t, ?_, q⟩
  have h1 := X.laloadOut hexec (by rw [hT]; exact hP q0 _ ha) ((hK.2 t0 _ ht).1 n (fun j => .long (f j))) (j := i) (by show (i < 0 ∨ (arrV _ _ _).slots.size ≤ _); rw [arrV_size]; exact Classical.byContradiction hout) (g := F0 m pc ls (.int i :: .ref a :: rest)) rfl (rest := rest) rfl (by rw [hb]; exact hdg) t
  simp only [arrV_size] at h1
  exact h1 st
theorem vx_lastZ {D : va_G} {cl : List vw_C} {ws : va_W} {tys : List (ClassId × FieldType)} {a : Nat} (hexec : p.tables.exec = Jvm.exec) (hb : c.code = cc) (hK : va_K D cl tys s) (hP : va_P D cl ws H) (q0 t0 : Nat) {cA : ClassId} {n : Nat} {f : Nat → Int64} (ha : ws[q0]? = some (a, .inl (cA, n, .inr (.inl f)))) (ht : tys[t0]? = some (cA, .long)) {i : Int32} {x : Int64} (hout : ¬ vp_in i n) (hdg : decode cc pc = .ok (.lastore, 1))
    (k : ∀ tx : String, tx = (toString "Index " ++ toString i ++ toString " out of bounds for length " ++ toString n : String) → vx_Note p l e R s m args below meth c H locs cells slots Q (F0 m pc ls rest) "java/lang/ArrayIndexOutOfBoundsException" tx) : W p l e R s m args below meth c H locs cells slots Q (F0 m pc ls (.long x :: .int i :: .ref a :: rest)) := by
  intro T hT X
  obtain ⟨t, st, q⟩ := k _ rfl T hT X
  refine ⟨t, ?_, q⟩
  have h1 := X.lastoreOut hexec (by rw [hT]; exact hP q0 _ ha) ((hK.2 t0 _ ht).1 n (fun j => .long (f j))) (j := i) (by show (i < 0 ∨ (arrV _ _ _).slots.size ≤ _); rw [arrV_size]; exact Classical.byContradiction hout) (g := F0 m pc ls (.long x :: .int i :: .ref a :: rest)) rfl (rest := rest) rfl (by rw [hb]; exact hdg) t
  simp only [arrV_size] at h1
  exact h1 st
theorem vx_faldZ {D : va_G} {cl : List vw_C} {ws : va_W} {tys : List (ClassId × FieldType)} {a : Nat} (hexec : p.tables.exec = Jvm.exec) (hb : c.code = cc) (hK : va_K D cl tys s) (hP : va_P D cl ws H) (q0 t0 : Nat) {cA : ClassId} {n : Nat} {f : Nat → UInt32} (ha : ws[q0]? = some (a, .inl (cA, n, .inr (.inr (.inl f))))) (ht : tys[t0]? = some (cA, .float)) {i : Int32} (hout : ¬ vp_in i n) (hdg : decode cc pc = .ok (.faload, 1))
    (k : ∀ tx : String, tx = (toString "Index " ++ toString i ++ toString " out of bounds for length " ++ toString n : String) → vx_Note p l e R s m args below meth c H locs cells slots Q (F0 m pc ls rest) "java/lang/ArrayIndexOutOfBoundsException" tx) : W p l e R s m args below meth c H locs cells slots Q (F0 m pc ls (.int i :: .ref a :: rest)) := by
  intro T hT X
  obtain ⟨t, st, q⟩ := k _ rfl T hT X
  refine ⟨t, ?_, q⟩
  have h1 := X.faloadOut hexec (by rw [hT]; exact hP q0 _ ha) ((hK.2 t0 _ ht).1 n (fun j => .float (f j))) (j := i) (by show (i < 0 ∨ (arrV _ _ _).slots.size ≤ _); rw [arrV_size]; exact Classical.byContradiction hout) (g := F0 m pc ls (.int i :: .ref a :: rest)) rfl (rest := rest) rfl (by rw [hb]; exact hdg) t
  simp only [arrV_size] at h1
  exact h1 st
theorem vx_fastZ {D : va_G} {cl : List vw_C} {ws : va_W} {tys : List (ClassId × FieldType)} {a : Nat} (hexec : p.tables.exec = Jvm.exec) (hb : c.code = cc) (hK : va_K D cl tys s) (hP : va_P D cl ws H) (q0 t0 : Nat) {cA : ClassId} {n : Nat} {f : Nat → UInt32} (ha : ws[q0]? = some (a, .inl (cA, n, .inr (.inr (.inl f))))) (ht : tys[t0]? = some (cA, .float)) {i : Int32} {x : UInt32} (hout : ¬ vp_in i n) (hdg : decode cc pc = .ok (.fastore, 1))
    (k : ∀ tx : String, tx = (toString "Index " ++ toString i ++ toString " out of bounds for length " ++ toString n : String) → vx_Note p l e R s m args below meth c H locs cells slots Q (F0 m pc ls rest) "java/lang/ArrayIndexOutOfBoundsException" tx) : W p l e R s m args below meth c H locs cells slots Q (F0 m pc ls (.float x :: .int i :: .ref a :: rest)) := by
  intro T hT X
  obtain ⟨t, st, q⟩ := k _ rfl T hT X
  refine ⟨t, ?_, q⟩
  have h1 := X.fastoreOut hexec (by rw [hT]; exact hP q0 _ ha) ((hK.2 t0 _ ht).1 n (fun j => .float (f j))) (j := i) (by show (i < 0 ∨ (arrV _ _ _).slots.size ≤ _); rw [arrV_size]; exact Classical.byContradiction hout) (g := F0 m pc ls (.float x :: .int i :: .ref a :: rest)) rfl (rest := rest) rfl (by rw [hb]; exact hdg) t
  simp only [arrV_size] at h1
  exact h1 st
theorem vx_daldZ {D : va_G} {cl : List vw_C} {ws : va_W} {tys : List (ClassId × FieldType)} {a : Nat} (hexec : p.tables.exec = Jvm.exec) (hb : c.code = cc) (hK : va_K D cl tys s) (hP : va_P D cl ws H) (q0 t0 : Nat) {cA : ClassId} {n : Nat} {f : Nat → UInt64} (ha : ws[q0]? = some (a, .inl (cA, n, .inr (.inr (.inr (.inl f)))))) (ht : tys[t0]? = some (cA, .double)) {i : Int32} (hout : ¬ vp_in i n) (hdg : decode cc pc = .ok (.daload, 1))
    (k : ∀ tx : String, tx = (toString "Index " ++ toString i ++ toString " out of bounds for length " ++ toString n : String) → vx_Note p l e R s m args below meth c H locs cells slots Q (F0 m pc ls rest) "java/lang/ArrayIndexOutOfBoundsException" tx) : W p l e R s m args below meth c H locs cells slots Q (F0 m pc ls (.int i :: .ref a :: rest)) := by
  intro T hT X
  obtain ⟨t, st, q⟩ := k _ rfl T hT X
  refine ⟨t, ?_, q⟩
  have h1 := X.daloadOut hexec (by rw [hT]; exact hP q0 _ ha) ((hK.2 t0 _ ht).1 n (fun j => .double (f j))) (j := i) (by show (i < 0 ∨ (arrV _ _ _).slots.size ≤ _); rw [arrV_size]; exact Classical.byContradiction hout) (g := F0 m pc ls (.int i :: .ref a :: rest)) rfl (rest := rest) rfl (by rw [hb]; exact hdg) t
  simp only [arrV_size] at h1
  exact h1 st
theorem vx_dastZ {D : va_G} {cl : List vw_C} {ws : va_W} {tys : List (ClassId × FieldType)} {a : Nat} (hexec : p.tables.exec = Jvm.exec) (hb : c.code = cc) (hK : va_K D cl tys s) (hP : va_P D cl ws H) (q0 t0 : Nat) {cA : ClassId} {n : Nat} {f : Nat → UInt64} (ha : ws[q0]? = some (a, .inl (cA, n, .inr (.inr (.inr (.inl f)))))) (ht : tys[t0]? = some (cA, .double)) {i : Int32} {x : UInt64} (hout : ¬ vp_in i n) (hdg : decode cc pc = .ok (.dastore, 1))
    (k : ∀ tx : String, tx = (toString "Index " ++ toString i ++ toString " out of bounds for length " ++ toString n : String) → vx_Note p l e R s m args below meth c H locs cells slots Q (F0 m pc ls rest) "java/lang/ArrayIndexOutOfBoundsException" tx) : W p l e R s m args below meth c H locs cells slots Q (F0 m pc ls (.double x :: .int i :: .ref a :: rest)) := by
  intro T hT X
  obtain ⟨t, st, q⟩ := k _ rfl T hT X
  refine ⟨t, ?_, q⟩
  have h1 := X.dastoreOut hexec (by rw [hT]; exact hP q0 _ ha) ((hK.2 t0 _ ht).1 n (fun j => .double (f j))) (j := i) (by show (i < 0 ∨ (arrV _ _ _).slots.size ≤ _); rw [arrV_size]; exact Classical.byContradiction hout) (g := F0 m pc ls (.double x :: .int i :: .ref a :: rest)) rfl (rest := rest) rfl (by rw [hb]; exact hdg) t
  simp only [arrV_size] at h1
  exact h1 st
theorem vx_arraylengthN (hexec : p.tables.exec = Jvm.exec) (hb : c.code = cc) (hdg : decode cc pc = .ok (.arraylength, 1)) (k : vx_NoteN p l e R s m args below meth c H locs cells slots Q (F0 m pc ls rest)) : W p l e R s m args below meth c H locs cells slots Q (F0 m pc ls (.null :: rest)) := by
  intro T hT X
  obtain ⟨t, st, q⟩ := k T hT X
  exact ⟨t, X.arraylengthNull hexec (g := F0 m pc ls (.null :: rest)) rfl (rest := rest) rfl (by rw [hb]; exact hdg) t st, q⟩
theorem vx_ialoadN (hexec : p.tables.exec = Jvm.exec) (hb : c.code = cc) {i : Int32} (hdg : decode cc pc = .ok (.iaload, 1)) (k : vx_NoteN p l e R s m args below meth c H locs cells slots Q (F0 m pc ls rest)) : W p l e R s m args below meth c H locs cells slots Q (F0 m pc ls (.int i :: .null :: rest)) := by
  intro T hT X
  obtain ⟨t, st, q⟩ := k T hT X
  exact ⟨t, X.ialoadNull hexec (g := F0 m pc ls (.int i :: .null :: rest)) rfl (rest := rest) rfl (by rw [hb]; exact hdg) t st, q⟩
theorem vx_laloadN (hexec : p.tables.exec = Jvm.exec) (hb : c.code = cc) {i : Int32} (hdg : decode cc pc = .ok (.laload, 1)) (k : vx_NoteN p l e R s m args below meth c H locs cells slots Q (F0 m pc ls rest)) : W p l e R s m args below meth c H locs cells slots Q (F0 m pc ls (.int i :: .null :: rest)) := by
  intro T hT X
  obtain ⟨t, st, q⟩ := k T hT X
  exact ⟨t, X.laloadNull hexec (g := F0 m pc ls (.int i :: .null :: rest)) rfl (rest := rest) rfl (by rw [hb]; exact hdg) t st, q⟩
theorem vx_faloadN (hexec : p.tables.exec = Jvm.exec) (hb : c.code = cc) {i : Int32} (hdg : decode cc pc = .ok (.faload, 1)) (k : vx_NoteN p l e R s m args below meth c H locs cells slots Q (F0 m pc ls rest)) : W p l e R s m args below meth c H locs cells slots Q (F0 m pc ls (.int i :: .null :: rest)) := by
  intro T hT X
  obtain ⟨t, st, q⟩ := k T hT X
  exact ⟨t, X.faloadNull hexec (g := F0 m pc ls (.int i :: .null :: rest)) rfl (rest := rest) rfl (by rw [hb]; exact hdg) t st, q⟩
theorem vx_daloadN (hexec : p.tables.exec = Jvm.exec) (hb : c.code = cc) {i : Int32} (hdg : decode cc pc = .ok (.daload, 1)) (k : vx_NoteN p l e R s m args below meth c H locs cells slots Q (F0 m pc ls rest)) : W p l e R s m args below meth c H locs cells slots Q (F0 m pc ls (.int i :: .null :: rest)) := by
  intro T hT X
  obtain ⟨t, st, q⟩ := k T hT X
  exact ⟨t, X.daloadNull hexec (g := F0 m pc ls (.int i :: .null :: rest)) rfl (rest := rest) rfl (by rw [hb]; exact hdg) t st, q⟩
theorem vx_aaloadN (hexec : p.tables.exec = Jvm.exec) (hb : c.code = cc) {i : Int32} (hdg : decode cc pc = .ok (.aaload, 1)) (k : vx_NoteN p l e R s m args below meth c H locs cells slots Q (F0 m pc ls rest)) : W p l e R s m args below meth c H locs cells slots Q (F0 m pc ls (.int i :: .null :: rest)) := by
  intro T hT X
  obtain ⟨t, st, q⟩ := k T hT X
  exact ⟨t, X.aaloadNull hexec (g := F0 m pc ls (.int i :: .null :: rest)) rfl (rest := rest) rfl (by rw [hb]; exact hdg) t st, q⟩
theorem vx_baloadN (hexec : p.tables.exec = Jvm.exec) (hb : c.code = cc) {i : Int32} (hdg : decode cc pc = .ok (.baload, 1)) (k : vx_NoteN p l e R s m args below meth c H locs cells slots Q (F0 m pc ls rest)) : W p l e R s m args below meth c H locs cells slots Q (F0 m pc ls (.int i :: .null :: rest)) := by
  intro T hT X
  obtain ⟨t, st, q⟩ := k T hT X
  exact ⟨t, X.baloadNull hexec (g := F0 m pc ls (.int i :: .null :: rest)) rfl (rest := rest) rfl (by rw [hb]; exact hdg) t st, q⟩
theorem vx_caloadN (hexec : p.tables.exec = Jvm.exec) (hb : c.code = cc) {i : Int32} (hdg : decode cc pc = .ok (.caload, 1)) (k : vx_NoteN p l e R s m args below meth c H locs cells slots Q (F0 m pc ls rest)) : W p l e R s m args below meth c H locs cells slots Q (F0 m pc ls (.int i :: .null :: rest)) := by
  intro T hT X
  obtain ⟨t, st, q⟩ := k T hT X
  exact ⟨t, X.caloadNull hexec (g := F0 m pc ls (.int i :: .null :: rest)) rfl (rest := rest) rfl (by rw [hb]; exact hdg) t st, q⟩
theorem vx_saloadN (hexec : p.tables.exec = Jvm.exec) (hb : c.code = cc) {i : Int32} (hdg : decode cc pc = .ok (.saload, 1)) (k : vx_NoteN p l e R s m args below meth c H locs cells slots Q (F0 m pc ls rest)) : W p l e R s m args below meth c H locs cells slots Q (F0 m pc ls (.int i :: .null :: rest)) := by
  intro T hT X
  obtain ⟨t, st, q⟩ := k T hT X
  exact ⟨t, X.saloadNull hexec (g := F0 m pc ls (.int i :: .null :: rest)) rfl (rest := rest) rfl (by rw [hb]; exact hdg) t st, q⟩
theorem vx_iastoreN (hexec : p.tables.exec = Jvm.exec) (hb : c.code = cc) {x : Int32} {i : Int32} (hdg : decode cc pc = .ok (.iastore, 1)) (k : vx_NoteN p l e R s m args below meth c H locs cells slots Q (F0 m pc ls rest)) : W p l e R s m args below meth c H locs cells slots Q (F0 m pc ls (.int x :: .int i :: .null :: rest)) := by
  intro T hT X
  obtain ⟨t, st, q⟩ := k T hT X
  exact ⟨t, X.iastoreNull hexec (g := F0 m pc ls (.int x :: .int i :: .null :: rest)) rfl (rest := rest) rfl (by rw [hb]; exact hdg) t st, q⟩
theorem vx_lastoreN (hexec : p.tables.exec = Jvm.exec) (hb : c.code = cc) {x : Int64} {i : Int32} (hdg : decode cc pc = .ok (.lastore, 1)) (k : vx_NoteN p l e R s m args below meth c H locs cells slots Q (F0 m pc ls rest)) : W p l e R s m args below meth c H locs cells slots Q (F0 m pc ls (.long x :: .int i :: .null :: rest)) := by
  intro T hT X
  obtain ⟨t, st, q⟩ := k T hT X
  exact ⟨t, X.lastoreNull hexec (g := F0 m pc ls (.long x :: .int i :: .null :: rest)) rfl (rest := rest) rfl (by rw [hb]; exact hdg) t st, q⟩
theorem vx_fastoreN (hexec : p.tables.exec = Jvm.exec) (hb : c.code = cc) {x : UInt32} {i : Int32} (hdg : decode cc pc = .ok (.fastore, 1)) (k : vx_NoteN p l e R s m args below meth c H locs cells slots Q (F0 m pc ls rest)) : W p l e R s m args below meth c H locs cells slots Q (F0 m pc ls (.float x :: .int i :: .null :: rest)) := by
  intro T hT X
  obtain ⟨t, st, q⟩ := k T hT X
  exact ⟨t, X.fastoreNull hexec (g := F0 m pc ls (.float x :: .int i :: .null :: rest)) rfl (rest := rest) rfl (by rw [hb]; exact hdg) t st, q⟩
theorem vx_dastoreN (hexec : p.tables.exec = Jvm.exec) (hb : c.code = cc) {x : UInt64} {i : Int32} (hdg : decode cc pc = .ok (.dastore, 1)) (k : vx_NoteN p l e R s m args below meth c H locs cells slots Q (F0 m pc ls rest)) : W p l e R s m args below meth c H locs cells slots Q (F0 m pc ls (.double x :: .int i :: .null :: rest)) := by
  intro T hT X
  obtain ⟨t, st, q⟩ := k T hT X
  exact ⟨t, X.dastoreNull hexec (g := F0 m pc ls (.double x :: .int i :: .null :: rest)) rfl (rest := rest) rfl (by rw [hb]; exact hdg) t st, q⟩
theorem vx_bastoreN (hexec : p.tables.exec = Jvm.exec) (hb : c.code = cc) {x : Int32} {i : Int32} (hdg : decode cc pc = .ok (.bastore, 1)) (k : vx_NoteN p l e R s m args below meth c H locs cells slots Q (F0 m pc ls rest)) : W p l e R s m args below meth c H locs cells slots Q (F0 m pc ls (.int x :: .int i :: .null :: rest)) := by
  intro T hT X
  obtain ⟨t, st, q⟩ := k T hT X
  exact ⟨t, X.bastoreNull hexec (g := F0 m pc ls (.int x :: .int i :: .null :: rest)) rfl (rest := rest) rfl (by rw [hb]; exact hdg) t st, q⟩
theorem vx_castoreN (hexec : p.tables.exec = Jvm.exec) (hb : c.code = cc) {x : Int32} {i : Int32} (hdg : decode cc pc = .ok (.castore, 1)) (k : vx_NoteN p l e R s m args below meth c H locs cells slots Q (F0 m pc ls rest)) : W p l e R s m args below meth c H locs cells slots Q (F0 m pc ls (.int x :: .int i :: .null :: rest)) := by
  intro T hT X
  obtain ⟨t, st, q⟩ := k T hT X
  exact ⟨t, X.castoreNull hexec (g := F0 m pc ls (.int x :: .int i :: .null :: rest)) rfl (rest := rest) rfl (by rw [hb]; exact hdg) t st, q⟩
theorem vx_sastoreN (hexec : p.tables.exec = Jvm.exec) (hb : c.code = cc) {x : Int32} {i : Int32} (hdg : decode cc pc = .ok (.sastore, 1)) (k : vx_NoteN p l e R s m args below meth c H locs cells slots Q (F0 m pc ls rest)) : W p l e R s m args below meth c H locs cells slots Q (F0 m pc ls (.int x :: .int i :: .null :: rest)) := by
  intro T hT X
  obtain ⟨t, st, q⟩ := k T hT X
  exact ⟨t, X.sastoreNull hexec (g := F0 m pc ls (.int x :: .int i :: .null :: rest)) rfl (rest := rest) rfl (by rw [hb]; exact hdg) t st, q⟩
theorem vx_invokeN {own C : String} {index maxL : Nat} {y : MethodName} {bytes : ByteArray} {ret : Option FieldType} (hexec : p.tables.exec = Jvm.exec) (hb : c.code = cc) (hown : s.vm.findClass own = some m.cls) (hlink : (Cond.methodLink own index y).before args s = true) (hinst : (Cond.instanceMethod y).before args s = true) (hcode : (Cond.code y bytes maxL ret).before args s = true) (hsel : (Cond.selects C y y).before args s = true)
    (hx : y.cls ≠ "java/lang/invoke/MethodHandle" ∧ y.cls ≠ "java/lang/invoke/VarHandle") {As : List Value} (hlen : (parseMethodDescriptor y.desc).map (fun d => d.parameters.length) = some As.length) (hdg : decode cc pc = .ok (.invokevirtual index, 3))
    (k : vx_NoteN p l e R s m args below meth c H locs cells slots Q (F0 m pc ls rest)) {st0 : List Value} (hst : st0 = As.reverse ++ .null :: rest) : W p l e R s m args below meth c H locs cells slots Q (F0 m pc ls st0) := by
  intro T hT X
  obtain ⟨r0, r, hn, hrm, hstR, hsigR⟩ := va_Decl.of hinst hcode
  obtain ⟨c2, r2, m2, q1, q2, q3, q4, kP, hkP, hkPi⟩ := Cond.selects_spec hsel
  cases hn.symm.trans q3
  have hl9 : As.length = r.sig.parameters.length := by
    rw [hsigR] at hlen
    exact (Option.some.inj hlen).symm
  obtain ⟨vm', X1, st1⟩ := X.invokevirtualNull hexec hown hlink hn hrm hstR hkP hkPi hx (g := F0 m pc ls st0) rfl (argsL := As) (rest := rest) hl9 hst (by rw [hb]; exact hdg)
  obtain ⟨t, st, q⟩ := k (T.setVm vm') hT X1
  exact ⟨t, st1 t st, q⟩
theorem vx_newarrayZ {atype : ArrayType} (hexec : p.tables.exec = Jvm.exec) (hb : c.code = cc) {n : Int32} (h0 : n < 0) (hdg : decode cc pc = .ok (.newarray atype, 2)) (k : ∀ tx : String, tx = toString n → vx_Note p l e R s m args below meth c H locs cells slots Q (F0 m pc ls rest) "java/lang/NegativeArraySizeException" tx) : W p l e R s m args below meth c H locs cells slots Q (F0 m pc ls (.int n :: rest)) := by
  intro T hT X
  obtain ⟨t, st, q⟩ := k _ rfl T hT X
  exact ⟨t, X.newarrayNegative hexec (g := F0 m pc ls (.int n :: rest)) rfl h0 (rest := rest) rfl (by rw [hb]; exact hdg) t st, q⟩
end
end VXM
/-! ===== END ===== -/
/-! ===== BEGIN an exception as an object: made, kept, thrown later (no traces kept) ===== -/
section VXK
variable {p : Program} {l : Launch} {e : Env} {R : Room} {s : State} {m₀ : MethodId} {args : Array Value} {below : List Frame} {meth : Method} {c : Code} {W : State} {locs : List Loc} {cells slots : Nat}
set_option maxHeartbeats 1000000 in
theorem vx_ctorMadeS (X : Stand p l e R s m₀ args below meth c W locs cells slots) (hexec : p.tables.exec = Jvm.exec) (htr : e.platform.stackTraces = false) {own cls : String} {names : List String} {ic : Nat}
    (hown : s.vm.findClass own = some m₀.cls) (hcls : Bundle.fit cls = true) (hnames : ∀ n ∈ names, Bundle.fit n = true)
    (h : ∀ a ∈ Bundle.ownAtoms own ic cls names, a.before args s = true)
    (hlocs : ∀ x ∈ locs, ∀ cell, s.heap[x.base]? = some cell → cell.vm.isStatics = false)
    {a : Addr} {cX : ClassId} {kX : Class} (hfoundX : s.vm.findClass cls = some cX) (hkX : s.vm.classes[cX]? = some kX) (hcell : W.heap[a]? = some (freshCell cX kX)) (hnew : s.heap.size ≤ a)
    {msg : Value} (hmsg : msg.isRef = true)
    {g : JFrame} (hg : g.method = m₀) (hsize : g.locals.size = c.maxLocals) {rest : List Value} (hstack : g.stack = msg :: .ref a :: .ref a :: rest)
    (hd6 : decode c.code g.pc = .ok (.invokespecial ic, 3))
    (hRframes : names.length + 3 < R.frames) (hRlocals : 2 * g.monitorRoom + ((Value.ref a :: rest).map fun v => v.category).sum + (13 * (names.length + 1) + 42) ≤ R.locals) :
    ∃ (V : State) (ce : Cell) (L : List Loc), Stand p l e R s m₀ args below meth c (V.setCell a ce) (locs ++ L) cells slots ∧ (∀ y ∈ L, y.base = a) ∧ a < V.heap.size ∧ ce.cls = cX ∧ ce.vm = .none ∧
      ∀ target, Steps p.tables e below ((V.setCell a ce).setTop { g with stack := .ref a :: rest, pc := g.pc + 3 }) target → Steps p.tables e below (W.setTop g) target := by
  have howns : e.platform.frameOwnsMonitors = true := by rw [X.admits.platform]
  have hfin : e.platform.finalization = false := by rw [X.admits.platform]
  have hpl : e.platform.magicAccessors = ({} : Platform).magicAccessors := by rw [X.admits.platform]
  have a' : ∀ x, x ∈ Bundle.ownAtoms own ic cls names → x.holds args s none s [] = true := fun x hx => h x hx
  obtain ⟨T, Z0, L, -, Y⟩ := ThrowableC.of_atoms (args := args) howns hfin hpl (fun x hx => h x (by simp [Bundle.ownAtoms, hx]))
  obtain ⟨Z, M, LZ, LM, hnZ⟩ := Init0T.ofS_atoms (args := args) hpl L Y (fun x hx => h x (by simp [Bundle.ownAtoms, hx]))
  obtain ⟨P1, Ps, hlen, L1, hL, hP1m, hlink1, hlink⟩ := Bundle.chainS (args := args) hpl hnZ names cls hcls hnames (fun x hx => h x (by simp [Bundle.ownAtoms, hx]))
  have hfound : s.vm.findClass cls = some P1.m.cls := findClass_of_methodNamed hP1m
  cases Option.some.inj (hfoundX.symm.trans hfound)
  obtain ⟨c1, kX', hc1, hk, hord, -, -, hn6⟩ := Cond.instantiable_spec (a' (.instantiable cls 6) (by simp [Bundle.ownAtoms]))
  cases Option.some.inj (hc1.symm.trans hfound)
  cases Option.some.inj (hkX.symm.trans hk)
  have hsel0 : selectMethod e.platform s.vm P1.m.cls T.fill0 = .method T.fill0 := by
    obtain ⟨c2, r2, m2, q1, q2, q3, q4, -⟩ := Cond.selects_spec (a' (.selects cls Bundle.tFill0 Bundle.tFill0) (by simp [Bundle.ownAtoms]))
    cases Option.some.inj (q1.symm.trans hfound)
    cases Option.some.inj (q2.symm.trans (State.methodFound?_of_named Y.fill0 (by decide)))
    cases Option.some.inj (q3.symm.trans Y.fill0)
    rw [Launch.admits_selectMethod X.admits]; exact q4
  have hselF : selectMethod e.platform s.vm P1.m.cls T.fill = .method T.fill := by
    obtain ⟨c2, r2, m2, q1, q2, q3, q4, -⟩ := Cond.selects_spec (a' (.selects cls Bundle.tFill Bundle.tFill) (by simp [Bundle.ownAtoms]))
    cases Option.some.inj (q1.symm.trans hfound)
    cases Option.some.inj (q2.symm.trans (State.methodFound?_of_named Y.fill (by decide)))
    cases Option.some.inj (q3.symm.trans Y.fill)
    rw [Launch.admits_selectMethod X.admits]; exact q4
  obtain ⟨cellS0, hcS0, hiss⟩ := Y.statics
  obtain ⟨u0, hu0⟩ := Cond.staticRefV Y.unassigned L.unassignedStatic L.statics hcS0 hiss (a' (.isRef (.static Bundle.tN "UNASSIGNED_STACK" Bundle.steD)) (by simp [Bundle.ownAtoms]))
  obtain ⟨sen, hsen⟩ := Cond.staticRefV Y.sentinel L.sentinelStatic L.statics hcS0 hiss (a' (.isRef (.static Bundle.tN "SUPPRESSED_SENTINEL" Bundle.listD)) (by simp [Bundle.ownAtoms]))
  obtain ⟨ci198, i198, fB, hk198, hg198, ha198, hsB, -, hnB, htB, hffB⟩ := Cond.ownField (t := .object "java/lang/Object") Y.found L.cls (by decide +kernel) (a' (.fieldLink Bundle.tN 198 Bundle.tN "backtrace" "Ljava/lang/Object;") (by simp [Bundle.ownAtoms])) (a' (.lays Bundle.tN Bundle.tN "backtrace" "Ljava/lang/Object;") (by simp [Bundle.ownAtoms])) e.platform hpl
  obtain ⟨cellS, hcS', heS, -, hkeep⟩ := X.same.2.2.2.2.2 T.aS cellS0 hcS0
  have hcellS : W.heap[T.aS]? = some cellS := hcS'
  have hout' : ∀ i, (⟨T.aS, i⟩ : Loc) ∉ locs := fun i hmem => by
    have := hlocs _ hmem cellS0 hcS0
    rw [hiss] at this; cases this
  have hknownS : cellS.vm ≠ .unknown := by
    rw [heS]; intro hu
    rw [show cellS0.vm = .unknown from hu] at hiss
    cases hiss
  have hneS : T.aS ≠ a := Nat.ne_of_lt (Nat.lt_of_lt_of_le (Array.getElem?_eq_some_iff.mp hcS0).1 hnew)
  obtain ⟨iM, hffM⟩ := Y.msg
  obtain ⟨tyC, dC, hdC, hdnC⟩ := Cond.laysAt hfound hk Y.cause (a' (.lays cls Bundle.tN "cause" "Ljava/lang/Throwable;") (by simp [Bundle.ownAtoms]))
  obtain ⟨tyS, dS, hdS, hdnS⟩ := Cond.laysAt hfound hk Y.stack (a' (.lays cls Bundle.tN "stackTrace" Bundle.steD) (by simp [Bundle.ownAtoms]))
  obtain ⟨tyP, dP, hdP, hdnP⟩ := Cond.laysAt hfound hk Y.supp (a' (.lays cls Bundle.tN "suppressedExceptions" Bundle.listD) (by simp [Bundle.ownAtoms]))
  obtain ⟨tyM, dM, hdM, hdnM⟩ := Cond.laysAt hfound hk hffM (a' (.lays cls Bundle.tN "detailMessage" "Ljava/lang/String;") (by simp [Bundle.ownAtoms]))
  obtain ⟨tyB, dB, hdB, hdnB⟩ := Cond.laysAt hfound hk hffB (a' (.lays cls Bundle.tN "backtrace" "Ljava/lang/Object;") (by simp [Bundle.ownAtoms]))
  have bC := Cond.laysApart hdB hdC hdnB hdnC (by rw [hnB, Y.causeName]; decide)
  have bS := Cond.laysApart hdB hdS hdnB hdnS (by rw [hnB, Y.stackName]; decide)
  have bP := Cond.laysApart hdB hdP hdnB hdnP (by rw [hnB, Y.suppName]; decide)
  have hskip : SkipFacts T e.platform s (fun u => u) u0 ((preparedCellV T.toThrowableT (freshCell P1.m.cls kX) a u0 sen).withEntry W.cur) :=
    ⟨{ ci198 := ci198, i198 := i198, fBack := fB }, ⟨hk198, hg198, ha198, hsB⟩, by
      have := fresh_default (c := P1.m.cls) tyB
      rw [htB] at this
      simpa [preparedCellV, Cell.setSlot, Cell.withEntry, Array.getElem?_setIfInBounds, bC, bS, bP, bC.symm, bS.symm, bP.symm, defaultValue] using this, fun _ _ => rfl⟩
  obtain ⟨tm, methC, cdC, kC, vm₁, hnC, -, -, -, -, -, -, -, hW₁, st1⟩ := Steps.initColdS (tb := p.tables) (e := e) (below := below) (s := s) (U := W) X.here hexec X.warmed hpl hown (t := Bundle.initS cls) rfl rfl (Bundle.fit_spec hcls).2
    (a' (.methodLink own ic (Bundle.initS cls)) (by simp [Bundle.ownAtoms])) (h (.instanceMethod (Bundle.initS cls)) (by cases names <;> simp [Bundle.ownAtoms, Bundle.chainSAtoms, Bundle.passSAtoms])) (bytes := Bundle.six) (maxL := 2) (h (.code (Bundle.initS cls) Bundle.six 2 none) (by cases names <;> simp [Bundle.ownAtoms, Bundle.chainSAtoms, Bundle.passSAtoms]))
    (f := g) hg (a := a) (msg := msg) (rest := .ref a :: rest) hstack hd6
  cases Option.some.inj (hnC.symm.trans hP1m)
  have X₁ := X.noted hW₁
  obtain ⟨vm₂, X₂, st2⟩ := X₁.ctorMessageOffV hexec (g := { g with stack := .ref a :: rest }) hg hsize T L Z LZ M LM (P1 :: Ps)
    (fun P hP => by rcases List.mem_cons.mp hP with rfl | hP; exact L1; exact hL P hP) ⟨hlink1, hlink⟩ (u0 := u0) (sen := sen) (self := a) hmsg (cell := freshCell P1.m.cls kX) (cellS := cellS)
    hcell (fun _ => by simp) (by simp) rfl rfl hsel0 hselF hcellS hneS hknownS (by rw [hkeep _ (hout' _)]; exact hu0) (by rw [hkeep _ (hout' _)]; exact hsen)
    (Takes.of_laid hk hord tyC (by rw [Y.causeType]; rfl)) (Takes.of_laid hk hord tyS (by rw [Y.stackType]; exact fits_refV_array _ u0)) (Takes.of_laid hk hord tyP (by rw [Y.suppType]; exact fits_refV_object _ sen))
    (Takes.of_laid hk hord tyM (by rw [Y.msgType]; exact fits_refV_object _ ⟨msg, hmsg⟩)) Y.objLocals hskip htr [] hd6
    (by simp only [List.length_cons, hlen]; omega) (by simp only [List.length_cons, hlen]; exact hRlocals)
  have hlt : a < ((W.setVm vm₁).setVm vm₂).heap.size := (Array.getElem?_eq_some_iff.mp hcell).1
  refine ⟨(W.setVm vm₁).setVm vm₂, _, _, X₂, fun y hy => ?_, hlt, rfl, rfl, fun target hwalk => st1 _ (fun acts => ?_)⟩
  · simp only [List.mem_cons, List.not_mem_nil, or_false] at hy
    rcases hy with rfl | rfl | rfl | rfl | rfl <;> rfl
  · rw [doInvoke_state]
    exact st2 _ hwalk
set_option maxHeartbeats 1000000 in
theorem vx_ctorMade0 (X : Stand p l e R s m₀ args below meth c W locs cells slots) (hexec : p.tables.exec = Jvm.exec) (htr : e.platform.stackTraces = false) {own cls : String} {names : List String} {ic : Nat}
    (hown : s.vm.findClass own = some m₀.cls) (hcls : Bundle.fit cls = true) (hnames : ∀ n ∈ names, Bundle.fit n = true)
    (h : ∀ a ∈ Bundle.ownAtoms0 own ic cls names, a.before args s = true)
    (hlocs : ∀ x ∈ locs, ∀ cell, s.heap[x.base]? = some cell → cell.vm.isStatics = false)
    {a : Addr} {cX : ClassId} {kX : Class} (hfoundX : s.vm.findClass cls = some cX) (hkX : s.vm.classes[cX]? = some kX) (hcell : W.heap[a]? = some (freshCell cX kX)) (hnew : s.heap.size ≤ a)
    {g : JFrame} (hg : g.method = m₀) (hsize : g.locals.size = c.maxLocals) {rest : List Value} (hstack : g.stack = .ref a :: .ref a :: rest)
    (hd6 : decode c.code g.pc = .ok (.invokespecial ic, 3))
    (hRframes : names.length + 3 < R.frames) (hRlocals : 2 * g.monitorRoom + ((Value.ref a :: rest).map fun v => v.category).sum + (13 * (names.length + 1) + 41) ≤ R.locals) :
    ∃ (V : State) (ce : Cell) (L : List Loc), Stand p l e R s m₀ args below meth c (V.setCell a ce) (locs ++ L) cells slots ∧ (∀ y ∈ L, y.base = a) ∧ a < V.heap.size ∧ ce.cls = cX ∧ ce.vm = .none ∧
      ∀ target, Steps p.tables e below ((V.setCell a ce).setTop { g with stack := .ref a :: rest, pc := g.pc + 3 }) target → Steps p.tables e below (W.setTop g) target := by
  have howns : e.platform.frameOwnsMonitors = true := by rw [X.admits.platform]
  have hfin : e.platform.finalization = false := by rw [X.admits.platform]
  have hpl : e.platform.magicAccessors = ({} : Platform).magicAccessors := by rw [X.admits.platform]
  have a' : ∀ x, x ∈ Bundle.ownAtoms0 own ic cls names → x.holds args s none s [] = true := fun x hx => h x hx
  obtain ⟨T, Z, L, LZ, Y⟩ := ThrowableC.of_atoms (args := args) howns hfin hpl (fun x hx => h x (by simp [Bundle.ownAtoms0, hx]))
  obtain ⟨P1, Ps, hlen, L1, hL, hP1m, hlink1, hlink⟩ := Bundle.chain0 (args := args) hpl Y.init0 names cls hcls hnames (fun x hx => h x (by simp [Bundle.ownAtoms0, hx]))
  have hfound : s.vm.findClass cls = some P1.m.cls := findClass_of_methodNamed hP1m
  cases Option.some.inj (hfoundX.symm.trans hfound)
  obtain ⟨c1, kX', hc1, hk, hord, -, -, hn6⟩ := Cond.instantiable_spec (a' (.instantiable cls 6) (by simp [Bundle.ownAtoms0]))
  cases Option.some.inj (hc1.symm.trans hfound)
  cases Option.some.inj (hkX.symm.trans hk)
  have hsel0 : selectMethod e.platform s.vm P1.m.cls T.fill0 = .method T.fill0 := by
    obtain ⟨c2, r2, m2, q1, q2, q3, q4, -⟩ := Cond.selects_spec (a' (.selects cls Bundle.tFill0 Bundle.tFill0) (by simp [Bundle.ownAtoms0]))
    cases Option.some.inj (q1.symm.trans hfound)
    cases Option.some.inj (q2.symm.trans (State.methodFound?_of_named Y.fill0 (by decide)))
    cases Option.some.inj (q3.symm.trans Y.fill0)
    rw [Launch.admits_selectMethod X.admits]; exact q4
  have hselF : selectMethod e.platform s.vm P1.m.cls T.fill = .method T.fill := by
    obtain ⟨c2, r2, m2, q1, q2, q3, q4, -⟩ := Cond.selects_spec (a' (.selects cls Bundle.tFill Bundle.tFill) (by simp [Bundle.ownAtoms0]))
    cases Option.some.inj (q1.symm.trans hfound)
    cases Option.some.inj (q2.symm.trans (State.methodFound?_of_named Y.fill (by decide)))
    cases Option.some.inj (q3.symm.trans Y.fill)
    rw [Launch.admits_selectMethod X.admits]; exact q4
  obtain ⟨cellS0, hcS0, hiss⟩ := Y.statics
  obtain ⟨u0, hu0⟩ := Cond.staticRefV Y.unassigned L.unassignedStatic L.statics hcS0 hiss (a' (.isRef (.static Bundle.tN "UNASSIGNED_STACK" Bundle.steD)) (by simp [Bundle.ownAtoms0]))
  obtain ⟨sen, hsen⟩ := Cond.staticRefV Y.sentinel L.sentinelStatic L.statics hcS0 hiss (a' (.isRef (.static Bundle.tN "SUPPRESSED_SENTINEL" Bundle.listD)) (by simp [Bundle.ownAtoms0]))
  obtain ⟨ci198, i198, fB, hk198, hg198, ha198, hsB, -, hnB, htB, hffB⟩ := Cond.ownField (t := .object "java/lang/Object") Y.found L.cls (by decide +kernel) (a' (.fieldLink Bundle.tN 198 Bundle.tN "backtrace" "Ljava/lang/Object;") (by simp [Bundle.ownAtoms0])) (a' (.lays Bundle.tN Bundle.tN "backtrace" "Ljava/lang/Object;") (by simp [Bundle.ownAtoms0])) e.platform hpl
  obtain ⟨cellS, hcS', heS, -, hkeep⟩ := X.same.2.2.2.2.2 T.aS cellS0 hcS0
  have hcellS : W.heap[T.aS]? = some cellS := hcS'
  have hout' : ∀ i, (⟨T.aS, i⟩ : Loc) ∉ locs := fun i hmem => by
    have := hlocs _ hmem cellS0 hcS0
    rw [hiss] at this; cases this
  have hknownS : cellS.vm ≠ .unknown := by
    rw [heS]; intro hu
    rw [show cellS0.vm = .unknown from hu] at hiss
    cases hiss
  have hneS : T.aS ≠ a := Nat.ne_of_lt (Nat.lt_of_lt_of_le (Array.getElem?_eq_some_iff.mp hcS0).1 hnew)
  obtain ⟨iM, hffM⟩ := Y.msg
  obtain ⟨tyC, dC, hdC, hdnC⟩ := Cond.laysAt hfound hk Y.cause (a' (.lays cls Bundle.tN "cause" "Ljava/lang/Throwable;") (by simp [Bundle.ownAtoms0]))
  obtain ⟨tyS, dS, hdS, hdnS⟩ := Cond.laysAt hfound hk Y.stack (a' (.lays cls Bundle.tN "stackTrace" Bundle.steD) (by simp [Bundle.ownAtoms0]))
  obtain ⟨tyP, dP, hdP, hdnP⟩ := Cond.laysAt hfound hk Y.supp (a' (.lays cls Bundle.tN "suppressedExceptions" Bundle.listD) (by simp [Bundle.ownAtoms0]))
  obtain ⟨tyM, dM, hdM, hdnM⟩ := Cond.laysAt hfound hk hffM (a' (.lays cls Bundle.tN "detailMessage" "Ljava/lang/String;") (by simp [Bundle.ownAtoms0]))
  obtain ⟨tyB, dB, hdB, hdnB⟩ := Cond.laysAt hfound hk hffB (a' (.lays cls Bundle.tN "backtrace" "Ljava/lang/Object;") (by simp [Bundle.ownAtoms0]))
  have bC := Cond.laysApart hdB hdC hdnB hdnC (by rw [hnB, Y.causeName]; decide)
  have bS := Cond.laysApart hdB hdS hdnB hdnS (by rw [hnB, Y.stackName]; decide)
  have bP := Cond.laysApart hdB hdP hdnB hdnP (by rw [hnB, Y.suppName]; decide)
  have hskip : SkipFacts T e.platform s (fun u => u) u0 ((preparedCellV T.toThrowableT (freshCell P1.m.cls kX) a u0 sen).withEntry W.cur) :=
    ⟨{ ci198 := ci198, i198 := i198, fBack := fB }, ⟨hk198, hg198, ha198, hsB⟩, by
      have := fresh_default (c := P1.m.cls) tyB
      rw [htB] at this
      simpa [preparedCellV, Cell.setSlot, Cell.withEntry, Array.getElem?_setIfInBounds, bC, bS, bP, bC.symm, bS.symm, bP.symm, defaultValue] using this, fun _ _ => rfl⟩
  obtain ⟨tm, methC, cdC, kC, vm₁, hnC, -, -, -, -, -, -, -, hW₁, st1⟩ := Steps.initCold (tb := p.tables) (e := e) (below := below) (s := s) (U := W) X.here hexec X.warmed hpl hown (t := Bundle.init0 cls) rfl rfl (Bundle.fit_spec hcls).2
    (a' (.methodLink own ic (Bundle.init0 cls)) (by simp [Bundle.ownAtoms0])) (h (.instanceMethod (Bundle.init0 cls)) (by cases names <;> simp [Bundle.ownAtoms0, Bundle.chain0Atoms, Bundle.passAtoms])) (bytes := Bundle.five) (maxL := 1) (h (.code (Bundle.init0 cls) Bundle.five 1 none) (by cases names <;> simp [Bundle.ownAtoms0, Bundle.chain0Atoms, Bundle.passAtoms]))
    (f := g) hg (a := a) (rest := .ref a :: rest) hstack hd6
  cases Option.some.inj (hnC.symm.trans hP1m)
  have X₁ := X.noted hW₁
  obtain ⟨vm₂, X₂, st2⟩ := X₁.ctorPlainOffV hexec (g := { g with stack := .ref a :: rest }) hg hsize T L Z LZ (P1 :: Ps)
    (fun P hP => by rcases List.mem_cons.mp hP with rfl | hP; exact L1; exact hL P hP) ⟨hlink1, hlink⟩ (u0 := u0) (sen := sen) (self := a) (cell := freshCell P1.m.cls kX) (cellS := cellS)
    hcell (fun _ => by simp) (by simp) rfl rfl hsel0 hselF hcellS hneS hknownS (by rw [hkeep _ (hout' _)]; exact hu0) (by rw [hkeep _ (hout' _)]; exact hsen)
    (Takes.of_laid hk hord tyC (by rw [Y.causeType]; rfl)) (Takes.of_laid hk hord tyS (by rw [Y.stackType]; exact fits_refV_array _ u0)) (Takes.of_laid hk hord tyP (by rw [Y.suppType]; exact fits_refV_object _ sen)) Y.objLocals hskip htr [] hd6
    (by simp only [List.length_cons, hlen]; omega) (by simp only [List.length_cons, hlen]; exact hRlocals)
  have hlt : a < ((W.setVm vm₁).setVm vm₂).heap.size := (Array.getElem?_eq_some_iff.mp hcell).1
  refine ⟨(W.setVm vm₁).setVm vm₂, _, _, X₂, fun y hy => ?_, hlt, rfl, rfl, fun target hwalk => st1 _ (fun acts => ?_)⟩
  · simp only [List.mem_cons, List.not_mem_nil, or_false] at hy
    rcases hy with rfl | rfl | rfl | rfl <;> rfl
  · rw [doInvoke_state]
    exact st2 _ hwalk
end VXK
section VXK2
variable {p : Program} {l : Launch} {e : Env} {R : Room} {s : State} {m : MethodId} {args : Array Value} {below : List Frame} {meth : Method} {c : Code} {H : Heap} {locs : List Loc} {cells slots : Nat} {Q : State → Prop}
variable {ls : Array Slot} {rest : List Value} {D : va_G} {cl : List vw_C} {tys : List (ClassId × FieldType)} {ws : va_W}
/-- 'new E("text")' that isn't thrown at once: the object goes on the stack -/
theorem vx_makeS {cc : ByteArray} {pc : Nat} (hexec : p.tables.exec = Jvm.exec) (hb : c.code = cc) (hl : l.stackTraces = false) {own cls text : String} {names : List String} {ik is ic sa ci : Nat} {A : Nat → Prop} {T0 : u_T}
    (hown : s.vm.findClass own = some m.cls) (hcls : Bundle.fit cls = true) (hnames : ∀ n ∈ names, Bundle.fit n = true)
    (hk : (Cond.classLink own ik cls).before args s = true) (hini : (Cond.initialized cls).before args s = true) (hstr : vk_R own is text sa s) (hat : ∀ w ∈ vx_atS own ic cls names, w.before args s = true)
    (hgood : ∀ w ∈ Cond.classLink own ik cls :: Cond.initialized cls :: vx_atS own ic cls names, vx_ot w = true)
    (hU : vx_Zq Bundle.tN "UNASSIGNED_STACK" Bundle.steD A s s.heap) (hN : vx_Zq Bundle.tN "SUPPRESSED_SENTINEL" Bundle.listD A s s.heap) (hS : va_S A s.heap H locs) (hsize : ls.size = c.maxLocals)
    (d0 : decode cc pc = .ok (.new ik, 3)) (d3 : decode cc (pc + 3) = .ok (.dup, 1)) (d4 : decode cc (pc + 4) = .ok (.ldc is, 2)) (d6 : decode cc (pc + 6) = .ok (.invokespecial ic, 3))
    (hK : va_K D cl tys s) (hP : va_P D cl ws H) (hD : va_D A ws) (hA : ∀ q, s.heap.size ≤ q → A q) (hc : cl[ci]? = some (cls, T0, 0))
    (hRframes : names.length + 3 < R.frames) (hRlocals : (rest.map fun v => v.category).sum + (13 * (names.length + 1) + 43) ≤ R.locals) (hRcells : cells + 1 ≤ R.cells) (hRslots : slots + 6 ≤ R.slots)
    (kk : ∀ (q : Nat) (H1 : Heap), va_P D cl (ws ++ [(q, .inr (ci, []))]) H1 → va_D A (ws ++ [(q, .inr (ci, []))]) → va_S A s.heap H1 locs → W p l e R s m args below meth c H1 locs (cells + 1) (slots + 6) Q (F0 m (pc + 9) ls (.ref q :: rest))) :
    W p l e R s m args below meth c H locs cells slots Q (F0 m pc ls rest) := by
  intro T hT X
  subst hT
  have htr : e.platform.stackTraces = false := (show e.platform.stackTraces = l.stackTraces by rw [X.admits.platform]).trans hl
  have Y := vx_rebase X (R' := { frames := R.frames, locals := R.locals, cells := 1, slots := 6 }) (Nat.le_refl _) (Nat.le_refl _) hRcells hRslots
  obtain ⟨s', hA'⟩ : ∃ z, z = (T.setVm s.vm).setFrames (.invoking m args :: below) := ⟨_, rfl⟩
  rw [← hA'] at Y
  have hvm : s'.vm = s.vm := by rw [hA']; rfl
  have hhp : s'.heap = T.heap := by rw [hA']; rfl
  have hW0 : s.WarmedH s'.vm := by rw [hvm]; exact State.WarmedH.refl s
  have hat' : ∀ w ∈ vx_atS own ic cls names, w.before args s' = true := fun w hw => vx_ot_at hW0 hvm.symm (hgood w (List.mem_cons_of_mem _ (List.mem_cons_of_mem _ hw))) (hat w hw)
  have hk' : (Cond.classLink own ik cls).before args s' = true := vx_ot_at hW0 hvm.symm (hgood _ List.mem_cons_self) hk
  have hini' : (Cond.initialized cls).before args s' = true := vx_ot_at hW0 hvm.symm (hgood _ (List.mem_cons_of_mem _ List.mem_cons_self)) hini
  have hU' : vx_Zq Bundle.tN "UNASSIGNED_STACK" Bundle.steD A s' s'.heap := by rw [hhp]; exact vx_Zq.moved hW0.alike (hU.kept hS.2.1)
  have hN' : vx_Zq Bundle.tN "SUPPRESSED_SENTINEL" Bundle.listD A s' s'.heap := by rw [hhp]; exact vx_Zq.moved hW0.alike (hN.kept hS.2.1)
  have h : ∀ w ∈ Bundle.ownAtoms own ic cls names, w.before args s' = true := vx_own hat' (vx_isRefq hU'.1) (vx_isRefq hN'.1) hU'.2.word hN'.2.word
  have hown' : s'.vm.findClass own = some m.cls := by rw [hvm]; exact hown
  have hins : (Cond.instantiable cls 6).before args s' = true := h _ (by simp [Bundle.ownAtoms])
  obtain ⟨vm₁, cX, kX, hfX, hkX, -, -, X₁, st1⟩ := Y.newCold hexec (own := own) (C := cls) (index := ik) (n := 6) hown' hk' hins hini'
    (g := F0 m pc ls rest) rfl (by rw [hb]; exact d0) (Nat.le_refl _) (Nat.le_refl _)
  generalize hT1 : (T.setVm vm₁).pushCell { cls := cX, slots := kX.instanceTypes.map defaultValue, vm := .none } = T1 at X₁ st1
  have hcat : (Value.ref T.heap.size).category = 1 := rfl
  have hcellA : T1.heap[T.heap.size]? = some (freshCell cX kX) := by rw [← hT1]; exact State.heap_pushCell_size _ _
  have d3' : decode c.code (pc + 3) = .ok (.dup, 1) := by rw [hb]; exact d3
  have d4' : decode c.code (pc + 4) = .ok (.ldc is, 2) := by rw [hb]; exact d4
  have hstr' : vk_R own is text sa s' := vk_R.warm hW0 hstr
  obtain ⟨V, ce, L, Z, hL, hlt, hcl9, hvm9, st⟩ := vx_ctorMadeS X₁ hexec htr (own := own) (cls := cls) (names := names) (ic := ic) hown' hcls hnames h (fun x hx => nomatch hx) hfX hkX hcellA (by rw [hhp]; exact Nat.le_refl _) (msg := .ref sa) rfl
    (g := { method := m, pc := pc + 6, locals := ls, stack := .ref sa :: .ref T.heap.size :: .ref T.heap.size :: rest, locked := none }) rfl hsize (rest := rest) rfl
    (by rw [hb]; exact d6) hRframes (by simp only [List.map_cons, List.sum_cons, hcat]; omega)
  have Z0 := Stand.forget (locs := []) Z (fun y hy => by rw [hL y hy, hhp]; exact Nat.le_refl _)
  obtain ⟨f1, f2⟩ := vx_frame Z0.same
  rw [hhp] at f1 f2
  have hcid : ce.cls = D.1 ci := by
    rw [hcl9]
    have h1 := (hK.1 ci _ hc).2.1
    rw [hvm] at hfX
    exact Option.some.inj (hfX.symm.trans h1)
  have hh : (V.setCell T.heap.size ce).heap[T.heap.size]? = some ce := heapAt_setCell_self (s := V) ce hlt
  subst hA'
  have X5 := vx_back9 X Y Z0
  have X6 : Stand p l e R s m args below meth c (V.setCell T.heap.size ce) locs (cells + 1) (slots + 6) := { X5 with same := X5.same.mono (by omega) (by omega) }
  have hk9 : ∀ (k : Nat) (x : Nat × va_E), ws[k]? = some x → (V.setCell T.heap.size ce).heap[x.1]? = T.heap[x.1]? := fun k x hx => f2 x.1 ((hP k x hx).lt) (fun z hz => nomatch hz)
  obtain ⟨t, a1, b1⟩ := kk T.heap.size (V.setCell T.heap.size ce).heap ((hP.kept hk9).app (fun k x hx => by
      have hz : k < 1 := (List.getElem?_eq_some_iff.mp hx).1
      rw [show k = 0 by omega] at hx
      cases hx
      exact ⟨_, hc, ce, hh, hcid, hvm9, fun k hk => absurd hk (Nat.not_lt_zero k)⟩)) (hD.push hP rfl (hA _ hS.1)) ⟨Nat.le_trans hS.1 f1, fun q h1 h2 => (f2 q (Nat.lt_of_lt_of_le h1 hS.1) (fun z hz => nomatch hz)).trans (hS.2.1 q h1 h2), hS.2.2⟩ _ rfl X6
  refine ⟨t, st1 _ ?_, b1⟩
  show Steps p.tables e below (T1.setTop { method := m, pc := pc + 3, locals := ls, stack := .ref T.heap.size :: rest, locked := none }) _
  jvm_step X₁.here [X₁.here.top, hexec, d3', Value.category]
  exact X₁.ldcString hexec (own := own) (text := text) (index := is) (a := sa) hown' hstr'.1 hstr'.2
    (g := { method := m, pc := pc + 4, locals := ls, stack := .ref T.heap.size :: .ref T.heap.size :: rest, locked := none }) rfl d4' _ (st _ a1)
/-- 'new E()' that isn't thrown at once: the object goes on the stack -/
theorem vx_make0 {cc : ByteArray} {pc : Nat} (hexec : p.tables.exec = Jvm.exec) (hb : c.code = cc) (hl : l.stackTraces = false) {own cls : String} {names : List String} {ik ic ci : Nat} {A : Nat → Prop} {T0 : u_T}
    (hown : s.vm.findClass own = some m.cls) (hcls : Bundle.fit cls = true) (hnames : ∀ n ∈ names, Bundle.fit n = true)
    (hk : (Cond.classLink own ik cls).before args s = true) (hini : (Cond.initialized cls).before args s = true) (hat : ∀ w ∈ vx_at0 own ic cls names, w.before args s = true)
    (hgood : ∀ w ∈ Cond.classLink own ik cls :: Cond.initialized cls :: vx_at0 own ic cls names, vx_ot w = true)
    (hU : vx_Zq Bundle.tN "UNASSIGNED_STACK" Bundle.steD A s s.heap) (hN : vx_Zq Bundle.tN "SUPPRESSED_SENTINEL" Bundle.listD A s s.heap) (hS : va_S A s.heap H locs) (hsize : ls.size = c.maxLocals)
    (d0 : decode cc pc = .ok (.new ik, 3)) (d3 : decode cc (pc + 3) = .ok (.dup, 1)) (d4 : decode cc (pc + 4) = .ok (.invokespecial ic, 3))
    (hK : va_K D cl tys s) (hP : va_P D cl ws H) (hD : va_D A ws) (hA : ∀ q, s.heap.size ≤ q → A q) (hc : cl[ci]? = some (cls, T0, 0))
    (hRframes : names.length + 3 < R.frames) (hRlocals : (rest.map fun v => v.category).sum + (13 * (names.length + 1) + 42) ≤ R.locals) (hRcells : cells + 1 ≤ R.cells) (hRslots : slots + 6 ≤ R.slots)
    (kk : ∀ (q : Nat) (H1 : Heap), va_P D cl (ws ++ [(q, .inr (ci, []))]) H1 → va_D A (ws ++ [(q, .inr (ci, []))]) → va_S A s.heap H1 locs → W p l e R s m args below meth c H1 locs (cells + 1) (slots + 6) Q (F0 m (pc + 7) ls (.ref q :: rest))) :
    W p l e R s m args below meth c H locs cells slots Q (F0 m pc ls rest) := by
  intro T hT X
  subst hT
  have htr : e.platform.stackTraces = false := (show e.platform.stackTraces = l.stackTraces by rw [X.admits.platform]).trans hl
  have Y := vx_rebase X (R' := { frames := R.frames, locals := R.locals, cells := 1, slots := 6 }) (Nat.le_refl _) (Nat.le_refl _) hRcells hRslots
  obtain ⟨s', hA'⟩ : ∃ z, z = (T.setVm s.vm).setFrames (.invoking m args :: below) := ⟨_, rfl⟩
  rw [← hA'] at Y
  have hvm : s'.vm = s.vm := by rw [hA']; rfl
  have hhp : s'.heap = T.heap := by rw [hA']; rfl
  have hW0 : s.WarmedH s'.vm := by rw [hvm]; exact State.WarmedH.refl s
  have hat' : ∀ w ∈ vx_at0 own ic cls names, w.before args s' = true := fun w hw => vx_ot_at hW0 hvm.symm (hgood w (List.mem_cons_of_mem _ (List.mem_cons_of_mem _ hw))) (hat w hw)
  have hk' : (Cond.classLink own ik cls).before args s' = true := vx_ot_at hW0 hvm.symm (hgood _ List.mem_cons_self) hk
  have hini' : (Cond.initialized cls).before args s' = true := vx_ot_at hW0 hvm.symm (hgood _ (List.mem_cons_of_mem _ List.mem_cons_self)) hini
  have hU' : vx_Zq Bundle.tN "UNASSIGNED_STACK" Bundle.steD A s' s'.heap := by rw [hhp]; exact vx_Zq.moved hW0.alike (hU.kept hS.2.1)
  have hN' : vx_Zq Bundle.tN "SUPPRESSED_SENTINEL" Bundle.listD A s' s'.heap := by rw [hhp]; exact vx_Zq.moved hW0.alike (hN.kept hS.2.1)
  have h : ∀ w ∈ Bundle.ownAtoms0 own ic cls names, w.before args s' = true := vx_own hat' (vx_isRefq hU'.1) (vx_isRefq hN'.1) hU'.2.word hN'.2.word
  have hown' : s'.vm.findClass own = some m.cls := by rw [hvm]; exact hown
  have hins : (Cond.instantiable cls 6).before args s' = true := h _ (by simp [Bundle.ownAtoms0])
  obtain ⟨vm₁, cX, kX, hfX, hkX, -, -, X₁, st1⟩ := Y.newCold hexec (own := own) (C := cls) (index := ik) (n := 6) hown' hk' hins hini'
    (g := F0 m pc ls rest) rfl (by rw [hb]; exact d0) (Nat.le_refl _) (Nat.le_refl _)
  generalize hT1 : (T.setVm vm₁).pushCell { cls := cX, slots := kX.instanceTypes.map defaultValue, vm := .none } = T1 at X₁ st1
  have hcat : (Value.ref T.heap.size).category = 1 := rfl
  have hcellA : T1.heap[T.heap.size]? = some (freshCell cX kX) := by rw [← hT1]; exact State.heap_pushCell_size _ _
  have d3' : decode c.code (pc + 3) = .ok (.dup, 1) := by rw [hb]; exact d3
  obtain ⟨V, ce, L, Z, hL, hlt, hcl9, hvm9, st⟩ := vx_ctorMade0 X₁ hexec htr (own := own) (cls := cls) (names := names) (ic := ic) hown' hcls hnames h (fun x hx => nomatch hx) hfX hkX hcellA (by rw [hhp]; exact Nat.le_refl _)
    (g := { method := m, pc := pc + 4, locals := ls, stack := .ref T.heap.size :: .ref T.heap.size :: rest, locked := none }) rfl hsize (rest := rest) rfl
    (by rw [hb]; exact d4) hRframes (by simp only [List.map_cons, List.sum_cons, hcat]; omega)
  have Z0 := Stand.forget (locs := []) Z (fun y hy => by rw [hL y hy, hhp]; exact Nat.le_refl _)
  obtain ⟨f1, f2⟩ := vx_frame Z0.same
  rw [hhp] at f1 f2
  have hcid : ce.cls = D.1 ci := by
    rw [hcl9]
    have h1 := (hK.1 ci _ hc).2.1
    rw [hvm] at hfX
    exact Option.some.inj (hfX.symm.trans h1)
  have hh : (V.setCell T.heap.size ce).heap[T.heap.size]? = some ce := heapAt_setCell_self (s := V) ce hlt
  subst hA'
  have X5 := vx_back9 X Y Z0
  have X6 : Stand p l e R s m args below meth c (V.setCell T.heap.size ce) locs (cells + 1) (slots + 6) := { X5 with same := X5.same.mono (by omega) (by omega) }
  have hk9 : ∀ (k : Nat) (x : Nat × va_E), ws[k]? = some x → (V.setCell T.heap.size ce).heap[x.1]? = T.heap[x.1]? := fun k x hx => f2 x.1 ((hP k x hx).lt) (fun z hz => nomatch hz)
  obtain ⟨t, a1, b1⟩ := kk T.heap.size (V.setCell T.heap.size ce).heap ((hP.kept hk9).app (fun k x hx => by
      have hz : k < 1 := (List.getElem?_eq_some_iff.mp hx).1
      rw [show k = 0 by omega] at hx
      cases hx
      exact ⟨_, hc, ce, hh, hcid, hvm9, fun k hk => absurd hk (Nat.not_lt_zero k)⟩)) (hD.push hP rfl (hA _ hS.1)) ⟨Nat.le_trans hS.1 f1, fun q h1 h2 => (f2 q (Nat.lt_of_lt_of_le h1 hS.1) (fun z hz => nomatch hz)).trans (hS.2.1 q h1 h2), hS.2.2⟩ _ rfl X6
  refine ⟨t, st1 _ ?_, b1⟩
  show Steps p.tables e below (T1.setTop { method := m, pc := pc + 3, locals := ls, stack := .ref T.heap.size :: rest, locked := none }) _
  jvm_step X₁.here [X₁.here.top, hexec, d3', Value.category]
  exact st _ a1
/-- 'throw x' of an object that was made before -/
theorem vx_athrow {cc : ByteArray} {pc : Nat} (hexec : p.tables.exec = Jvm.exec) (hb : c.code = cc) {q : Addr} (hdg : decode cc pc = .ok (.athrow, 1)) (k : vx_W p l e R s m args below meth c H locs cells slots Q (F0 m pc ls rest) q) : W p l e R s m args below meth c H locs cells slots Q (F0 m pc ls (.ref q :: rest)) := by
  intro T hT X
  obtain ⟨t, st, hq⟩ := k T hT X
  refine ⟨t, ?_, hq⟩
  have hdg' : decode c.code pc = .ok (.athrow, 1) := by rw [hb]; exact hdg
  jvm_step X.here [X.here.top, hexec, hdg', athrow.wp_sem]
  exact st
end VXK2
/-! ===== END ===== -/
/-! ===== BEGIN a constructor that throws (launches without stack traces) ===== -/
section VXIA
variable {p : Program} {l : Launch} {e : Env} {R : Room} {s : State} {m : MethodId} {args : Array Value} {below : List Frame} {meth : Method} {c : Code} {T : State} {locs : List Loc} {cells slots : Nat}
theorem vx_callI (X : Stand p l e R s m args below meth c T locs cells slots) (hexec : p.tables.exec = Jvm.exec) {own : String} {index : Nat} {y : MethodName} {bytes : ByteArray} {maxL : Nat}
    (hown : s.vm.findClass own = some m.cls) (hy1 : y.name = "<init>") (hlink : (Cond.methodLink own index y).before args s = true) (hinst : (Cond.instanceMethod y).before args s = true)
    (hcode : (Cond.code y bytes maxL none).before args s = true) (hy : y.cls ≠ "java/lang/invoke/MethodHandle" ∧ y.cls ≠ "java/lang/invoke/VarHandle")
    {W9 : Nat} {Pre : Pt → Array Value → Prop} {Post : Pt → Array Value → Option Value → Pt → Prop} {PostX : Pt → Array Value → Addr → Pt → Prop} (hK : vx_Back l R p e below s args y 3 W9 Pre Post PostX)
    {g : JFrame} (hg : g.method = m) (hsize : g.locals.size = c.maxLocals) {a : Addr} {argsL rest : List Value} (hlen : ∀ sig, parseMethodDescriptor y.desc = some sig → argsL.length = sig.parameters.length)
    (hstack : g.stack = argsL.reverse ++ .ref a :: rest) (hW : 2 * g.monitorRoom + (rest.map fun v => v.category).sum ≤ W9) (hdg : decode c.code g.pc = .ok (.invokespecial index, 3))
    (hpre : ∀ vm₁, s.WarmedH vm₁ → Pre ⟨T.setVm vm₁, locs, cells, slots⟩ (Value.ref a :: argsL).toArray) :
    (∃ (v : Option Value) (vm₁ : Vm) (B : Pt), s.WarmedH vm₁ ∧ Stand p l e R s m args below meth c B.U B.locs B.cells B.slots ∧ Post ⟨T.setVm vm₁, locs, cells, slots⟩ (Value.ref a :: argsL).toArray v B ∧
      ∀ target, Steps p.tables e below (B.U.setTop { g with pc := g.pc + 3, stack := v.toList ++ rest }) target → Steps p.tables e below (T.setTop g) target) ∨
    (∃ (q : Addr) (vm₁ : Vm) (B : Pt), s.WarmedH vm₁ ∧ Stand p l e R s m args below meth c B.U B.locs B.cells B.slots ∧ PostX ⟨T.setVm vm₁, locs, cells, slots⟩ (Value.ref a :: argsL).toArray q B ∧
      Steps p.tables e below (T.setTop g) ((B.U.setTop { g with stack := rest }).pushFrame (.throwing q))) := by
  subst hg
  have hpl : e.platform.magicAccessors = ({} : Platform).magicAccessors := by rw [X.admits.platform]
  obtain ⟨mk, methM, cM, kP, vm₁, hnamed, hmethM, hcodeM, -, hlocalsM, -, hkP, -, hW₁, hstep₁⟩ := Steps.initColdArgs (e := e) X.here hexec X.warmed hpl hown hy1 hy hlink hinst hcode (f := g) rfl hlen hstack hdg
  have X₁ := X.noted hW₁
  rcases hK g.method meth c ⟨T.setVm vm₁, locs, cells, slots⟩ { g with stack := rest } (.invokespecial index) mk (Value.ref a :: argsL).toArray X₁ rfl hsize hdg hW (X₁.named hnamed) (hpre vm₁ X₁.warmed) with ⟨v, B, X', hpost, hsteps⟩ | ⟨q, B, X', hpost, hsteps⟩
  · exact Or.inl ⟨v, vm₁, B, X₁.warmed, X', hpost, fun target h => hstep₁ _ fun acts => by rw [doInvoke_state]; exact hsteps.trans h⟩
  · exact Or.inr ⟨q, vm₁, B, X₁.warmed, X', hpost, hstep₁ _ fun acts => by rw [doInvoke_state]; exact hsteps⟩
end VXIA
section VXIB
variable {p : Program} {l : Launch} {e : Env} {R : Room} {s : State} {m : MethodId} {args : Array Value} {below : List Frame} {meth : Method} {c : Code} {H : Heap} {locs : List Loc} {cells slots : Nat}
variable {y : MethodName} {bytes cc : ByteArray} {maxL nL mc ms n index : Nat} {ret : Option FieldType} {ws : List Cond} {rm : Room} {Pc : Array Value → State → Prop} {Qc : Array Value → State → Outcome → State → Prop} {XC : String → State → State → Prop} {free : Addr → Prop} {Ts : List Cond} {own C : String} {b : Addr} {As rest : List Value} {g : JFrame}
theorem vx_runI (S : CallFix p m c cc nL s args Ts own) (hM : vx_Met l y ws rm Pc Qc XC mc ms free) (cw : CallB R s args own index y bytes maxL none ws rm mc ms n ∧ y.name = "<init>" ∧ (Cond.instanceMethod y).before args s = true) (hp : PreS s H Pc (.ref b :: As))
    (hg : g.method = m) (hn : As.length = n) (hsize : g.locals.size = nL) (hstack : g.stack = As.reverse ++ .ref b :: rest) (hW : 2 * g.monitorRoom + (rest.map fun v => v.category).sum ≤ 8) (hdg : decode cc g.pc = .ok (.invokespecial index, 3)) (hf : cells + mc ≤ R.cells ∧ slots + ms ≤ R.slots) :
    vx_Run p l e R s m args below meth c H locs cells slots mc ms g rest (Qc (Value.ref b :: As).toArray) XC free := by
  have hK : vx_Back l R p e below s args y 3 8 (PreOf R mc ms Pc) (PostOf Qc mc ms free) (vx_Post XC mc ms free) := vx_callBack cw.1 hM hp.1
  obtain ⟨⟨-, -, -, -, -, -, hcode, -, hy, hlen, hl⟩, hy1, hin⟩ := cw
  obtain ⟨hx, hb, hml, ho, -⟩ := S
  have hPc := hp.2
  intro T hT X
  rcases vx_callI X hx (bytes := bytes) (maxL := maxL) ho hy1 hl hin hcode hy hK hg (hsize.trans hml.symm) (a := b) (argsL := As) (rest := rest) (fun sig h => hn.trans (hlen sig h)) hstack hW (by rw [hb]; exact hdg)
    (fun vm₁ hW₁ => ⟨hf.1, hf.2, hPc (T.setVm vm₁) hT hW₁⟩) with ⟨v, vm₁, ⟨U', l2, c2, s2⟩, hW₁, X', ⟨g', mk, t, L, e1, e2, hq, h1, hL, h2, h3⟩, st⟩ | ⟨q, vm₁, ⟨U', l2, c2, s2⟩, hW₁, X', ⟨g', mk, t, L, E, ce, e1, e2, hq, hce, hcv, hcl, h1, hL, h2, h3⟩, st⟩
  · dsimp only [Pt.U, Pt.locs, Pt.cells, Pt.slots] at X' e1 e2 h1 h2 h3 st
    subst h1; subst h2; subst h3
    exact Or.inl ⟨v, (T.setVm vm₁).calling g' mk (Value.ref b :: As).toArray, t, U', L, hT, X', hL, e1, e2, hq, st⟩
  · dsimp only [Pt.U, Pt.locs, Pt.cells, Pt.slots] at X' e1 e2 h1 h2 h3 st hcl
    subst h1; subst h2; subst h3
    exact Or.inr ⟨q, (T.setVm vm₁).calling g' mk (Value.ref b :: As).toArray, t, U', L, E, ce, hT, X', hL, e1, e2, hq, hce, hcv, vx_cls hW₁ hcl, st⟩
end VXIB
/-! ===== END ===== -/
/-! ===== BEGIN a private constructor of a nest mate that throws ===== -/
section VXIC
variable {p : Program} {l : Launch} {e : Env} {R : Room} {s : State} {m : MethodId} {args : Array Value} {below : List Frame} {meth : Method} {c : Code} {T : State} {locs : List Loc} {cells slots : Nat}
theorem vx_callIN (X : Stand p l e R s m args below meth c T locs cells slots) (hexec : p.tables.exec = Jvm.exec) {own : String} {index : Nat} {host : String} {y : MethodName} {bytes : ByteArray} {maxL : Nat}
    (hown : s.vm.findClass own = some m.cls) (hy1 : y.name = "<init>") (hlink : (Cond.methodLinkNest own index y host).before args s = true) (hinst : (Cond.instanceMethod y).before args s = true)
    (hcode : (Cond.code y bytes maxL none).before args s = true) (hy : y.cls ≠ "java/lang/invoke/MethodHandle" ∧ y.cls ≠ "java/lang/invoke/VarHandle")
    {W9 : Nat} {Pre : Pt → Array Value → Prop} {Post : Pt → Array Value → Option Value → Pt → Prop} {PostX : Pt → Array Value → Addr → Pt → Prop} (hK : vx_Back l R p e below s args y 3 W9 Pre Post PostX)
    {g : JFrame} (hg : g.method = m) (hsize : g.locals.size = c.maxLocals) {a : Addr} {argsL rest : List Value} (hlen : ∀ sig, parseMethodDescriptor y.desc = some sig → argsL.length = sig.parameters.length)
    (hstack : g.stack = argsL.reverse ++ .ref a :: rest) (hW : 2 * g.monitorRoom + (rest.map fun v => v.category).sum ≤ W9) (hdg : decode c.code g.pc = .ok (.invokespecial index, 3))
    (hpre : ∀ vm₁, s.WarmedH vm₁ → Pre ⟨T.setVm vm₁, locs, cells, slots⟩ (Value.ref a :: argsL).toArray) :
    (∃ (v : Option Value) (vm₁ : Vm) (B : Pt), s.WarmedH vm₁ ∧ Stand p l e R s m args below meth c B.U B.locs B.cells B.slots ∧ Post ⟨T.setVm vm₁, locs, cells, slots⟩ (Value.ref a :: argsL).toArray v B ∧
      ∀ target, Steps p.tables e below (B.U.setTop { g with pc := g.pc + 3, stack := v.toList ++ rest }) target → Steps p.tables e below (T.setTop g) target) ∨
    (∃ (q : Addr) (vm₁ : Vm) (B : Pt), s.WarmedH vm₁ ∧ Stand p l e R s m args below meth c B.U B.locs B.cells B.slots ∧ PostX ⟨T.setVm vm₁, locs, cells, slots⟩ (Value.ref a :: argsL).toArray q B ∧
      Steps p.tables e below (T.setTop g) ((B.U.setTop { g with stack := rest }).pushFrame (.throwing q))) := by
  subst hg
  have hpl : e.platform.magicAccessors = ({} : Platform).magicAccessors := by rw [X.admits.platform]
  obtain ⟨mk, methM, cM, kP, vm₁, hnamed, hmethM, hcodeM, -, hlocalsM, -, hkP, -, hW₁, hstep₁⟩ := Steps.initColdArgsNest (e := e) X.here hexec X.warmed hpl hown hy1 hy hlink hinst hcode (f := g) rfl hlen hstack hdg
  have X₁ := X.noted hW₁
  rcases hK g.method meth c ⟨T.setVm vm₁, locs, cells, slots⟩ { g with stack := rest } (.invokespecial index) mk (Value.ref a :: argsL).toArray X₁ rfl hsize hdg hW (X₁.named hnamed) (hpre vm₁ X₁.warmed) with ⟨v, B, X', hpost, hsteps⟩ | ⟨q, B, X', hpost, hsteps⟩
  · exact Or.inl ⟨v, vm₁, B, X₁.warmed, X', hpost, fun target h => hstep₁ _ fun acts => by rw [doInvoke_state]; exact hsteps.trans h⟩
  · exact Or.inr ⟨q, vm₁, B, X₁.warmed, X', hpost, hstep₁ _ fun acts => by rw [doInvoke_state]; exact hsteps⟩
end VXIC
section VXID
variable {p : Program} {l : Launch} {e : Env} {R : Room} {s : State} {m : MethodId} {args : Array Value} {below : List Frame} {meth : Method} {c : Code} {H : Heap} {locs : List Loc} {cells slots : Nat}
theorem vx_runIN {y : MethodName} {bytes cc : ByteArray} {maxL nL mc ms n index : Nat} {ws : List Cond} {rm : Room} {Pc : Array Value → State → Prop} {Qc : Array Value → State → Outcome → State → Prop} {XC : String → State → State → Prop} {free : Addr → Prop} {Ts : List Cond} {own host : String} {b : Addr} {As rest : List Value} {g : JFrame}
    (S : CallFix p m c cc nL s args Ts own) (hM : vx_Met l y ws rm Pc Qc XC mc ms free) (cw : va_CN R s args own index y host bytes maxL none ws rm mc ms n ∧ y.name = "<init>" ∧ (Cond.instanceMethod y).before args s = true) (hp : PreS s H Pc (.ref b :: As))
    (hg : g.method = m) (hn : As.length = n) (hsize : g.locals.size = nL) (hstack : g.stack = As.reverse ++ .ref b :: rest) (hW : 2 * g.monitorRoom + (rest.map fun v => v.category).sum ≤ 8) (hdg : decode cc g.pc = .ok (.invokespecial index, 3)) (hf : cells + mc ≤ R.cells ∧ slots + ms ≤ R.slots) :
    vx_Run p l e R s m args below meth c H locs cells slots mc ms g rest (Qc (Value.ref b :: As).toArray) XC free := by
  obtain ⟨⟨⟨hrc, hrs, hfr, hlo, hws, hcw⟩, hcode, hini, hy, hlen, hl⟩, hx1, hx2⟩ := cw
  have hK : vx_Back l R p e below s args y 3 8 (PreOf R mc ms Pc) (PostOf Qc mc ms free) (vx_Post XC mc ms free) := vx_back (bytes := bytes) (maxL := maxL) (ret := none) hM hp.1 hrc hrs hfr hlo hws hcw (fun a' U hW => word_at hW (Or.inl (by first | rfl | simp [Cond.onTables, Cond.keeps, Cond.steady])) hini)
  obtain ⟨hx, hb, hml, ho, -⟩ := S
  have hPc := hp.2
  intro T hT X
  rcases vx_callIN X hx (bytes := bytes) (maxL := maxL) ho hx1 hl hx2 hcode hy hK hg (hsize.trans hml.symm) (a := b) (argsL := As) (rest := rest) (fun sig h => hn.trans (hlen sig h)) hstack hW (by rw [hb]; exact hdg)
    (fun vm₁ hW₁ => ⟨hf.1, hf.2, hPc (T.setVm vm₁) hT hW₁⟩) with ⟨v, vm₁, ⟨U', l2, c2, s2⟩, hW₁, X', ⟨g', mk, t, L, e1, e2, hq, h1, hL, h2, h3⟩, st⟩ | ⟨q, vm₁, ⟨U', l2, c2, s2⟩, hW₁, X', ⟨g', mk, t, L, E, ce, e1, e2, hq, hce, hcv, hcl, h1, hL, h2, h3⟩, st⟩
  · dsimp only [Pt.U, Pt.locs, Pt.cells, Pt.slots] at X' e1 e2 h1 h2 h3 st
    subst h1; subst h2; subst h3
    exact Or.inl ⟨v, (T.setVm vm₁).calling g' mk (Value.ref b :: As).toArray, t, U', L, hT, X', hL, e1, e2, hq, st⟩
  · dsimp only [Pt.U, Pt.locs, Pt.cells, Pt.slots] at X' e1 e2 h1 h2 h3 st hcl
    subst h1; subst h2; subst h3
    exact Or.inr ⟨q, (T.setVm vm₁).calling g' mk (Value.ref b :: As).toArray, t, U', L, E, ce, hT, X', hL, e1, e2, hq, hce, hcv, vx_cls hW₁ hcl, st⟩
end VXID
/-! ===== END ===== -/
/-! ===== BEGIN a method of a class above, found by the receiver, that may throw (follows va_callVU, va_runU of this kit) ===== -/
section
variable {p : Program} {l : Launch} {e : Env} {R : Room} {s : State} {m : MethodId} {args : Array Value} {below : List Frame} {meth : Method} {c : Code} {H : Heap} {locs : List Loc} {cells slots : Nat}
theorem vx_callVU {T : State} {locs : List Loc} {cells slots : Nat} (X : Stand p l e R s m args below meth c T locs cells slots) (hexec : p.tables.exec = Jvm.exec) {own C owner : String} {index : Nat} {x y : MethodName} {bytes : ByteArray} {maxL : Nat} {ret : Option FieldType}
    (hown : s.vm.findClass own = some m.cls) (hlink : (Cond.methodLink own index x).before args s = true) (hsame : (Cond.sameMethod x.cls owner x.name x.desc).before args s = true)
    (hd0 : va_Decl s ⟨owner, x.name, x.desc⟩) (howner : owner ≠ "java/lang/invoke/MethodHandle" ∧ owner ≠ "java/lang/invoke/VarHandle")
    (hsel : (Cond.selects C x y).before args s = true) (hinst : (Cond.instanceMethod y).before args s = true) (hcode : (Cond.code y bytes maxL ret).before args s = true)
    {W : Nat} {Pre : Pt → Array Value → Prop} {Post : Pt → Array Value → Option Value → Pt → Prop} {PostX : Pt → Array Value → Addr → Pt → Prop} (hK : vx_Back l R p e below s args y 3 W Pre Post PostX)
    {b : Addr} {cellB : Cell} (hcell : T.heap[b]? = some cellB) (hobj : cellB.vm.isStatics = false) (hcls : s.vm.findClass C = some cellB.cls)
    {g : JFrame} (hg : g.method = m) (hsize : g.locals.size = c.maxLocals) {argsL rest : List Value} (hlen : ∀ sig, parseMethodDescriptor x.desc = some sig → argsL.length = sig.parameters.length)
    (hstack : g.stack = argsL.reverse ++ .ref b :: rest) (hW : 2 * g.monitorRoom + (rest.map fun v => v.category).sum ≤ W) (hdg : decode c.code g.pc = .ok (.invokevirtual index, 3))
    (hpre : ∀ vm₁, s.WarmedH vm₁ → Pre ⟨T.setVm vm₁, locs, cells, slots⟩ (Value.ref b :: argsL).toArray) :
    (∃ (v : Option Value) (vm₁ : Vm) (B : Pt), s.WarmedH vm₁ ∧ Stand p l e R s m args below meth c B.U B.locs B.cells B.slots ∧ Post ⟨T.setVm vm₁, locs, cells, slots⟩ (Value.ref b :: argsL).toArray v B ∧
      ∀ target, Steps p.tables e below (B.U.setTop { g with pc := g.pc + 3, stack := v.toList ++ rest }) target → Steps p.tables e below (T.setTop g) target) ∨
    (∃ (q : Addr) (vm₁ : Vm) (B : Pt), s.WarmedH vm₁ ∧ Stand p l e R s m args below meth c B.U B.locs B.cells B.slots ∧ PostX ⟨T.setVm vm₁, locs, cells, slots⟩ (Value.ref b :: argsL).toArray q B ∧
      Steps p.tables e below (T.setTop g) ((B.U.setTop { g with stack := rest }).pushFrame (.throwing q))) := by
  obtain ⟨r0, r, hn, hrm, hstR, hsigR⟩ := hd0
  obtain ⟨cn, ck, r1, hcn, hck, hni, hf, hn1⟩ := Cond.sameMethod_found hsame
  cases hn.symm.trans hn1
  obtain ⟨mk, methM, hnamed, hmethM, -, habM⟩ := Cond.instanceMethod_spec hinst
  obtain ⟨c2, r2, m2, q1, q2, q3, q4, kP, hkP, hkPi⟩ := Cond.selects_spec hsel
  cases hcls.symm.trans q1
  cases hf.symm.trans q2
  cases hnamed.symm.trans q3
  have hselP : selectMethod e.platform s.vm cellB.cls r0 = .method mk := by rw [Launch.admits_selectMethod X.admits]; exact q4
  obtain ⟨vm₁, X₁, hstep₁⟩ := X.invokevirtualUp hexec hown hlink hsame howner hn hrm hstR (a := b) (cell := cellB) hcell
    (fun z h => by rw [h] at hobj; cases hobj) hselP hmethM habM hkP hkPi (g := g) hg (argsL := argsL) (rest := rest) (hlen _ hsigR) hstack hdg
  rcases hK m meth c ⟨T.setVm vm₁, locs, cells, slots⟩ { g with stack := rest } (.invokevirtual index) mk (Value.ref b :: argsL).toArray X₁ hg hsize hdg hW (X₁.named hnamed) (hpre vm₁ X₁.warmed) with ⟨v, B, X', hpost, hsteps⟩ | ⟨q, B, X', hpost, hsteps⟩
  · exact Or.inl ⟨v, vm₁, B, X₁.warmed, X', hpost, fun target h => hstep₁ _ fun acts => by rw [doInvoke_state]; exact hsteps.trans h⟩
  · exact Or.inr ⟨q, vm₁, B, X₁.warmed, X', hpost, hstep₁ _ fun acts => by rw [doInvoke_state]; exact hsteps⟩
theorem vx_runU {x y : MethodName} {bytes cc : ByteArray} {maxL nL mc ms n index : Nat} {ret : Option FieldType} {ws : List Cond} {rm : Room} {Pc : Array Value → State → Prop} {Qc : Array Value → State → Outcome → State → Prop} {XC : String → State → State → Prop} {free : Addr → Prop} {Ts : List Cond} {own C owner : String} {b : Addr} {As rest : List Value} {g : JFrame}
    (S : CallFix p m c cc nL s args Ts own) (hM : vx_Met l y ws rm Pc Qc XC mc ms free) (cw : va_CU R s args own C owner index x y bytes maxL ret ws rm mc ms n) (hp : PreV s H C b Pc As)
    (hg : g.method = m) (hn : As.length = n) (hsize : g.locals.size = nL) (hstack : g.stack = As.reverse ++ .ref b :: rest) (hW : 2 * g.monitorRoom + (rest.map fun v => v.category).sum ≤ 8) (hdg : decode cc g.pc = .ok (.invokevirtual index, 3)) (hf : cells + mc ≤ R.cells ∧ slots + ms ≤ R.slots) :
    vx_Run p l e R s m args below meth c H locs cells slots mc ms g rest (Qc (Value.ref b :: As).toArray) XC free := by
  obtain ⟨hrc, hrs, hfr, hlo, hws, hcw⟩ := cw.back
  have hini := cw.init
  have hK : vx_Back l R p e below s args y 3 8 (PreOf R mc ms Pc) (PostOf Qc mc ms free) (vx_Post XC mc ms free) := vx_back (bytes := bytes) (maxL := maxL) (ret := ret) hM hp.1 hrc hrs hfr hlo hws hcw (fun a' U hW => word_at hW (Or.inl (by first | rfl | simp [Cond.onTables, Cond.keeps, Cond.steady])) hini)
  obtain ⟨hx, hb, hml, ho, -⟩ := S
  obtain ⟨-, ⟨cellB, hcB, hoB, hclB⟩, hPc⟩ := hp
  intro T hT X
  rcases vx_callVU X hx (C := C) (owner := owner) (bytes := bytes) (maxL := maxL) (ret := ret) ho cw.link cw.same cw.decl cw.notMH cw.sel cw.inst cw.code hK (by rw [hT]; exact hcB) hoB hclB hg (hsize.trans hml.symm) (argsL := As) (rest := rest) (fun sig h => hn.trans (cw.len sig h)) hstack hW (by rw [hb]; exact hdg)
    (fun vm₁ hW₁ => ⟨hf.1, hf.2, hPc (T.setVm vm₁) hT hW₁⟩) with ⟨v, vm₁, ⟨U', l2, c2, s2⟩, hW₁, X', ⟨g', mk, t, L, e1, e2, hq, h1, hL, h2, h3⟩, st⟩ | ⟨q, vm₁, ⟨U', l2, c2, s2⟩, hW₁, X', ⟨g', mk, t, L, E, ce, e1, e2, hq, hce, hcv, hcl, h1, hL, h2, h3⟩, st⟩
  · dsimp only [Pt.U, Pt.locs, Pt.cells, Pt.slots] at X' e1 e2 h1 h2 h3 st
    subst h1; subst h2; subst h3
    exact Or.inl ⟨v, (T.setVm vm₁).calling g' mk (Value.ref b :: As).toArray, t, U', L, hT, X', hL, e1, e2, hq, st⟩
  · dsimp only [Pt.U, Pt.locs, Pt.cells, Pt.slots] at X' e1 e2 h1 h2 h3 st hcl
    subst h1; subst h2; subst h3
    exact Or.inr ⟨q, (T.setVm vm₁).calling g' mk (Value.ref b :: As).toArray, t, U', L, E, ce, hT, X', hL, e1, e2, hq, hce, hcv, vx_cls hW₁ hcl, st⟩
end
/-! ===== END ===== -/
/-! ===== BEGIN super.m(..) that may throw (follows va_callSU, va_runSU) ===== -/
section
variable {p : Program} {l : Launch} {e : Env} {R : Room} {s : State} {m : MethodId} {args : Array Value} {below : List Frame} {meth : Method} {c : Code} {H : Heap} {locs : List Loc} {cells slots : Nat}
theorem vx_callSU {T : State} {locs : List Loc} {cells slots : Nat} (X : Stand p l e R s m args below meth c T locs cells slots) (hexec : p.tables.exec = Jvm.exec) {own : String} {index : Nat} {y : MethodName} {bytes : ByteArray} {maxL : Nat} {ret : Option FieldType}
    (hown : s.vm.findClass own = some m.cls) (hlink : (Cond.methodLink own index y).before args s = true) (hsame : (Cond.sameMethod y.cls y.cls y.name y.desc).before args s = true) (hsup : (Cond.superclass own y.cls).before args s = true)
    (hinst : (Cond.instanceMethod y).before args s = true) (hcode : (Cond.code y bytes maxL ret).before args s = true) (hno : y.name ≠ "<init>")
    {W : Nat} {Pre : Pt → Array Value → Prop} {Post : Pt → Array Value → Option Value → Pt → Prop} {PostX : Pt → Array Value → Addr → Pt → Prop} (hK : vx_Back l R p e below s args y 3 W Pre Post PostX)
    {b : Addr} {cellB : Cell} {kB : Class} (hcell : T.heap[b]? = some cellB) (hobj : cellB.vm.isStatics = false) (hkB : s.vm.classes[cellB.cls]? = some kB)
    {g : JFrame} (hg : g.method = m) (hsize : g.locals.size = c.maxLocals) {argsL rest : List Value} (hlen : ∀ sig, parseMethodDescriptor y.desc = some sig → argsL.length = sig.parameters.length)
    (hstack : g.stack = argsL.reverse ++ .ref b :: rest) (hW : 2 * g.monitorRoom + (rest.map fun v => v.category).sum ≤ W) (hdg : decode c.code g.pc = .ok (.invokespecial index, 3))
    (hpre : ∀ vm₁, s.WarmedH vm₁ → Pre ⟨T.setVm vm₁, locs, cells, slots⟩ (Value.ref b :: argsL).toArray) :
    (∃ (v : Option Value) (vm₁ : Vm) (B : Pt), s.WarmedH vm₁ ∧ Stand p l e R s m args below meth c B.U B.locs B.cells B.slots ∧ Post ⟨T.setVm vm₁, locs, cells, slots⟩ (Value.ref b :: argsL).toArray v B ∧
      ∀ target, Steps p.tables e below (B.U.setTop { g with pc := g.pc + 3, stack := v.toList ++ rest }) target → Steps p.tables e below (T.setTop g) target) ∨
    (∃ (q : Addr) (vm₁ : Vm) (B : Pt), s.WarmedH vm₁ ∧ Stand p l e R s m args below meth c B.U B.locs B.cells B.slots ∧ PostX ⟨T.setVm vm₁, locs, cells, slots⟩ (Value.ref b :: argsL).toArray q B ∧
      Steps p.tables e below (T.setTop g) ((B.U.setTop { g with stack := rest }).pushFrame (.throwing q))) := by
  obtain ⟨mk, methM, hnamed, hmethM, hstM, habM⟩ := Cond.instanceMethod_spec hinst
  obtain ⟨methM', cM, hmethM', -, -, -, -, -, -, hsigM⟩ := Cond.code_spec hnamed hcode
  cases hmethM.symm.trans hmethM'
  obtain ⟨ps, dk, kp, hps, hdk, hkp, hsuper, -, -, hnid⟩ := Cond.superclass_spec hown hsup
  have hn : s.methodNamed? ⟨y.cls, y.name, y.desc⟩ = some mk := hnamed
  have hpm : ps = mk.cls := Option.some.inj (hps.symm.trans (findClass_of_methodNamed hnamed))
  have hsub : s.vm.isSubclass ps mk.cls = true := by rw [hpm]; simp [Vm.isSubclass, Vm.isSubclassAux]
  obtain ⟨vm₁, X₁, hstep₁⟩ := X.invokespecialUp hexec hown hlink hsame hn hmethM hstM habM hno hdk hnid hps hsuper hsub (a := b) (cell := cellB) hcell
    (fun z h => by rw [h] at hobj; cases hobj) hkB (g := g) hg (argsL := argsL) (rest := rest) (hlen _ hsigM) hstack hdg
  rcases hK m meth c ⟨T.setVm vm₁, locs, cells, slots⟩ { g with stack := rest } (.invokespecial index) mk (Value.ref b :: argsL).toArray X₁ hg hsize hdg hW (X₁.named hnamed) (hpre vm₁ X₁.warmed) with ⟨v, B, X', hpost, hsteps⟩ | ⟨q, B, X', hpost, hsteps⟩
  · exact Or.inl ⟨v, vm₁, B, X₁.warmed, X', hpost, fun target h => hstep₁ _ (by rw [doInvoke_state]; exact hsteps.trans h)⟩
  · exact Or.inr ⟨q, vm₁, B, X₁.warmed, X', hpost, hstep₁ _ (by rw [doInvoke_state]; exact hsteps)⟩
theorem vx_runSU {y : MethodName} {bytes cc : ByteArray} {maxL nL mc ms n index : Nat} {ret : Option FieldType} {ws : List Cond} {rm : Room} {Pc : Array Value → State → Prop} {Qc : Array Value → State → Outcome → State → Prop} {XC : String → State → State → Prop} {free : Addr → Prop} {Ts : List Cond} {own C : String} {cC : ClassId} {b : Addr} {As rest : List Value} {g : JFrame}
    (hat : ClassAt s C cC) (S : CallFix p m c cc nL s args Ts own) (hM : vx_Met l y ws rm Pc Qc XC mc ms free) (cw : va_CS R s args own index y bytes maxL ret ws rm mc ms n) (hp : PreV s H C b Pc As)
    (hg : g.method = m) (hn : As.length = n) (hsize : g.locals.size = nL) (hstack : g.stack = As.reverse ++ .ref b :: rest) (hW : 2 * g.monitorRoom + (rest.map fun v => v.category).sum ≤ 8) (hdg : decode cc g.pc = .ok (.invokespecial index, 3)) (hf : cells + mc ≤ R.cells ∧ slots + ms ≤ R.slots) :
    vx_Run p l e R s m args below meth c H locs cells slots mc ms g rest (Qc (Value.ref b :: As).toArray) XC free := by
  obtain ⟨⟨hrc, hrs, hfr, hlo, hws, hcw⟩, hl1, hl2, hl3, hl4, hini, hcode, hno, hlen⟩ := cw
  have hK : vx_Back l R p e below s args y 3 8 (PreOf R mc ms Pc) (PostOf Qc mc ms free) (vx_Post XC mc ms free) := vx_back (bytes := bytes) (maxL := maxL) (ret := ret) hM hp.1 hrc hrs hfr hlo hws hcw (fun a' U hW => word_at hW (Or.inl (by first | rfl | simp [Cond.onTables, Cond.keeps, Cond.steady])) hini)
  obtain ⟨hx, hb, hml, ho, -⟩ := S
  obtain ⟨-, ⟨cellB, hcB, hoB, hclB⟩, hPc⟩ := hp
  obtain ⟨hfc, kB, hkB, -⟩ := hat
  cases hfc.symm.trans hclB
  intro T hT X
  rcases vx_callSU X hx (bytes := bytes) (maxL := maxL) (ret := ret) ho hl1 hl2 hl3 hl4 hcode hno hK (by rw [hT]; exact hcB) hoB hkB hg (hsize.trans hml.symm) (argsL := As) (rest := rest) (fun sig h => hn.trans (hlen sig h)) hstack hW (by rw [hb]; exact hdg)
    (fun vm₁ hW₁ => ⟨hf.1, hf.2, hPc (T.setVm vm₁) hT hW₁⟩) with ⟨v, vm₁, ⟨U', l2, c2, s2⟩, hW₁, X', ⟨g', mk, t, L, e1, e2, hq, h1, hL, h2, h3⟩, st⟩ | ⟨q, vm₁, ⟨U', l2, c2, s2⟩, hW₁, X', ⟨g', mk, t, L, E, ce, e1, e2, hq, hce, hcv, hcl, h1, hL, h2, h3⟩, st⟩
  · dsimp only [Pt.U, Pt.locs, Pt.cells, Pt.slots] at X' e1 e2 h1 h2 h3 st
    subst h1; subst h2; subst h3
    exact Or.inl ⟨v, (T.setVm vm₁).calling g' mk (Value.ref b :: As).toArray, t, U', L, hT, X', hL, e1, e2, hq, st⟩
  · dsimp only [Pt.U, Pt.locs, Pt.cells, Pt.slots] at X' e1 e2 h1 h2 h3 st hcl
    subst h1; subst h2; subst h3
    exact Or.inr ⟨q, (T.setVm vm₁).calling g' mk (Value.ref b :: As).toArray, t, U', L, E, ce, hT, X', hL, e1, e2, hq, hce, hcv, vx_cls hW₁ hcl, st⟩
end
/-! ===== END ===== -/
/-! ===== BEGIN a private method of a nest mate that may throw (follows va_callVN, va_callSN, va_runVN, va_runSN) ===== -/
section
variable {p : Program} {l : Launch} {e : Env} {R : Room} {s : State} {m : MethodId} {args : Array Value} {below : List Frame} {meth : Method} {c : Code} {H : Heap} {locs : List Loc} {cells slots : Nat}
variable {T : State}
theorem vx_callVN (X : Stand p l e R s m args below meth c T locs cells slots) (hexec : p.tables.exec = Jvm.exec) {own C : String} {index : Nat} {host : String} {y : MethodName} {bytes : ByteArray} {maxL : Nat} {ret : Option FieldType}
    (hown : s.vm.findClass own = some m.cls) (hlink : (Cond.methodLinkNest own index y host).before args s = true) (hinst : (Cond.instanceMethod y).before args s = true) (hsel : (Cond.selects C y y).before args s = true)
    (hcode : (Cond.code y bytes maxL ret).before args s = true) (hy : y.cls ≠ "java/lang/invoke/MethodHandle" ∧ y.cls ≠ "java/lang/invoke/VarHandle")
    {W : Nat} {Pre : Pt → Array Value → Prop} {Post : Pt → Array Value → Option Value → Pt → Prop} {PostX : Pt → Array Value → Addr → Pt → Prop} (hK : vx_Back l R p e below s args y 3 W Pre Post PostX)
    {b : Addr} {cellB : Cell} (hcell : T.heap[b]? = some cellB) (hobj : cellB.vm.isStatics = false) (hcls : s.vm.findClass C = some cellB.cls)
    {g : JFrame} (hg : g.method = m) (hsize : g.locals.size = c.maxLocals) {argsL rest : List Value} (hlen : ∀ sig, parseMethodDescriptor y.desc = some sig → argsL.length = sig.parameters.length)
    (hstack : g.stack = argsL.reverse ++ .ref b :: rest) (hW : 2 * g.monitorRoom + (rest.map fun v => v.category).sum ≤ W) (hdg : decode c.code g.pc = .ok (.invokevirtual index, 3))
    (hpre : ∀ vm₁, s.WarmedH vm₁ → Pre ⟨T.setVm vm₁, locs, cells, slots⟩ (Value.ref b :: argsL).toArray) :
    (∃ (v : Option Value) (vm₁ : Vm) (B : Pt), s.WarmedH vm₁ ∧ Stand p l e R s m args below meth c B.U B.locs B.cells B.slots ∧ Post ⟨T.setVm vm₁, locs, cells, slots⟩ (Value.ref b :: argsL).toArray v B ∧
      ∀ target, Steps p.tables e below (B.U.setTop { g with pc := g.pc + 3, stack := v.toList ++ rest }) target → Steps p.tables e below (T.setTop g) target) ∨
    (∃ (q : Addr) (vm₁ : Vm) (B : Pt), s.WarmedH vm₁ ∧ Stand p l e R s m args below meth c B.U B.locs B.cells B.slots ∧ PostX ⟨T.setVm vm₁, locs, cells, slots⟩ (Value.ref b :: argsL).toArray q B ∧
      Steps p.tables e below (T.setTop g) ((B.U.setTop { g with stack := rest }).pushFrame (.throwing q))) := by
  obtain ⟨mk, methM, hnamed, hmethM, hstM, habM⟩ := Cond.instanceMethod_spec hinst
  obtain ⟨methM', cM, hmethM', -, -, -, -, -, -, hsigM⟩ := Cond.code_spec hnamed hcode
  cases hmethM.symm.trans hmethM'
  obtain ⟨c2, r2, m2, q1, q2, q3, q4, kP, hkP, hkPi⟩ := Cond.selects_spec hsel
  cases hcls.symm.trans q1
  cases (State.methodFound?_of_named hnamed hy).symm.trans q2
  cases hnamed.symm.trans q3
  have hselP : selectMethod e.platform s.vm cellB.cls mk = .method mk := by rw [Launch.admits_selectMethod X.admits]; exact q4
  obtain ⟨vm₁, X₁, hstep₁⟩ := X.invokevirtualNest hexec hown hlink hnamed hmethM hstM hkP hkPi hy (a := b) (cell := cellB) hcell
    (fun z h => by rw [h] at hobj; cases hobj) hselP hmethM habM hkP hkPi (g := g) hg (argsL := argsL) (rest := rest) (hlen _ hsigM) hstack hdg
  rcases hK m meth c ⟨T.setVm vm₁, locs, cells, slots⟩ { g with stack := rest } (.invokevirtual index) mk (Value.ref b :: argsL).toArray X₁ hg hsize hdg hW (X₁.named hnamed) (hpre vm₁ X₁.warmed) with ⟨v, B, X', hpost, hsteps⟩ | ⟨q, B, X', hpost, hsteps⟩
  · exact Or.inl ⟨v, vm₁, B, X₁.warmed, X', hpost, fun target h => hstep₁ _ fun acts => by rw [doInvoke_state]; exact hsteps.trans h⟩
  · exact Or.inr ⟨q, vm₁, B, X₁.warmed, X', hpost, hstep₁ _ fun acts => by rw [doInvoke_state]; exact hsteps⟩
theorem vx_callSN (X : Stand p l e R s m args below meth c T locs cells slots) (hexec : p.tables.exec = Jvm.exec) {own : String} {index : Nat} {host : String} {y : MethodName} {bytes : ByteArray} {maxL : Nat} {ret : Option FieldType}
    (hown : s.vm.findClass own = some m.cls) (hlink : (Cond.methodLinkNest own index y host).before args s = true) (hstat : (Cond.static y).before args s = true) (hinit : (Cond.initialized y.cls).before args s = true)
    (hcode : (Cond.code y bytes maxL ret).before args s = true) (hy : y.cls ≠ "java/lang/invoke/MethodHandle" ∧ y.cls ≠ "java/lang/invoke/VarHandle")
    {W : Nat} {Pre : Pt → Array Value → Prop} {Post : Pt → Array Value → Option Value → Pt → Prop} {PostX : Pt → Array Value → Addr → Pt → Prop} (hK : vx_Back l R p e below s args y 3 W Pre Post PostX)
    {g : JFrame} (hg : g.method = m) (hsize : g.locals.size = c.maxLocals) {argsL rest : List Value} (hlen : ∀ sig, parseMethodDescriptor y.desc = some sig → argsL.length = sig.parameters.length)
    (hstack : g.stack = argsL.reverse ++ rest) (hW : 2 * g.monitorRoom + (rest.map fun v => v.category).sum ≤ W) (hdg : decode c.code g.pc = .ok (.invokestatic index, 3))
    (hpre : ∀ vm₁, s.WarmedH vm₁ → Pre ⟨T.setVm vm₁, locs, cells, slots⟩ argsL.toArray) :
    (∃ (v : Option Value) (vm₁ : Vm) (B : Pt), s.WarmedH vm₁ ∧ Stand p l e R s m args below meth c B.U B.locs B.cells B.slots ∧ Post ⟨T.setVm vm₁, locs, cells, slots⟩ argsL.toArray v B ∧
      ∀ target, Steps p.tables e below (B.U.setTop { g with pc := g.pc + 3, stack := v.toList ++ rest }) target → Steps p.tables e below (T.setTop g) target) ∨
    (∃ (q : Addr) (vm₁ : Vm) (B : Pt), s.WarmedH vm₁ ∧ Stand p l e R s m args below meth c B.U B.locs B.cells B.slots ∧ PostX ⟨T.setVm vm₁, locs, cells, slots⟩ argsL.toArray q B ∧
      Steps p.tables e below (T.setTop g) ((B.U.setTop { g with stack := rest }).pushFrame (.throwing q))) := by
  obtain ⟨mk, hnamed⟩ := Cond.code_named hcode
  obtain ⟨methM, cM, hmethM, -, -, -, -, -, -, hsigM⟩ := Cond.code_spec hnamed hcode
  have hstatic : methM.isStatic = true := Cond.static_spec hnamed hmethM hstat
  obtain ⟨kP, hkP, -⟩ := className_of_methodNamed hnamed
  have hinitP : kP.init = .initialized := Cond.initialized_spec (findClass_of_methodNamed hnamed) hkP hinit
  obtain ⟨vm₁, X₁, hstep₁⟩ := X.invokestaticNest hexec hown hlink hnamed hmethM hstatic hkP hinitP hy (g := g) hg (argsL := argsL) (rest := rest) (hlen _ hsigM) hstack hdg
  rcases hK m meth c ⟨T.setVm vm₁, locs, cells, slots⟩ { g with stack := rest } (.invokestatic index) mk argsL.toArray X₁ hg hsize hdg hW (X₁.named hnamed) (hpre vm₁ X₁.warmed) with ⟨v, B, X', hpost, hsteps⟩ | ⟨q, B, X', hpost, hsteps⟩
  · exact Or.inl ⟨v, vm₁, B, X₁.warmed, X', hpost, fun target h => hstep₁ _ fun acts => by rw [doInvoke_state]; exact hsteps.trans h⟩
  · exact Or.inr ⟨q, vm₁, B, X₁.warmed, X', hpost, hstep₁ _ fun acts => by rw [doInvoke_state]; exact hsteps⟩
theorem vx_runVN {y : MethodName} {bytes cc : ByteArray} {maxL nL mc ms n index : Nat} {ret : Option FieldType} {ws : List Cond} {rm : Room} {Pc : Array Value → State → Prop} {Qc : Array Value → State → Outcome → State → Prop} {XC : String → State → State → Prop} {free : Addr → Prop} {Ts : List Cond} {own C host : String} {b : Addr} {As rest : List Value} {g : JFrame}
    (S : CallFix p m c cc nL s args Ts own) (hM : vx_Met l y ws rm Pc Qc XC mc ms free) (cw : va_CN R s args own index y host bytes maxL ret ws rm mc ms n ∧ (Cond.instanceMethod y).before args s = true ∧ (Cond.selects C y y).before args s = true) (hp : PreV s H C b Pc As)
    (hg : g.method = m) (hn : As.length = n) (hsize : g.locals.size = nL) (hstack : g.stack = As.reverse ++ .ref b :: rest) (hW : 2 * g.monitorRoom + (rest.map fun v => v.category).sum ≤ 8) (hdg : decode cc g.pc = .ok (.invokevirtual index, 3)) (hf : cells + mc ≤ R.cells ∧ slots + ms ≤ R.slots) :
    vx_Run p l e R s m args below meth c H locs cells slots mc ms g rest (Qc (Value.ref b :: As).toArray) XC free := by
  obtain ⟨⟨⟨hrc, hrs, hfr, hlo, hws, hcw⟩, hcode, hini, hy, hlen, hl⟩, hx1, hx2⟩ := cw
  have hK : vx_Back l R p e below s args y 3 8 (PreOf R mc ms Pc) (PostOf Qc mc ms free) (vx_Post XC mc ms free) := vx_back (bytes := bytes) (maxL := maxL) (ret := ret) hM hp.1 hrc hrs hfr hlo hws hcw (fun a' U hW => word_at hW (Or.inl (by first | rfl | simp [Cond.onTables, Cond.keeps, Cond.steady])) hini)
  obtain ⟨hx, hb, hml, ho, -⟩ := S
  obtain ⟨-, ⟨cellB, hcB, hoB, hclB⟩, hPc⟩ := hp
  intro T hT X
  rcases vx_callVN X hx (C := C) (bytes := bytes) (maxL := maxL) (ret := ret) ho hl hx1 hx2 hcode hy hK (by rw [hT]; exact hcB) hoB hclB hg (hsize.trans hml.symm) (argsL := As) (rest := rest) (fun sig h => hn.trans (hlen sig h)) hstack hW (by rw [hb]; exact hdg)
    (fun vm₁ hW₁ => ⟨hf.1, hf.2, hPc (T.setVm vm₁) hT hW₁⟩) with ⟨v, vm₁, ⟨U', l2, c2, s2⟩, hW₁, X', ⟨g', mk, t, L, e1, e2, hq, h1, hL, h2, h3⟩, st⟩ | ⟨q, vm₁, ⟨U', l2, c2, s2⟩, hW₁, X', ⟨g', mk, t, L, E, ce, e1, e2, hq, hce, hcv, hcl, h1, hL, h2, h3⟩, st⟩
  · dsimp only [Pt.U, Pt.locs, Pt.cells, Pt.slots] at X' e1 e2 h1 h2 h3 st
    subst h1; subst h2; subst h3
    exact Or.inl ⟨v, (T.setVm vm₁).calling g' mk (Value.ref b :: As).toArray, t, U', L, hT, X', hL, e1, e2, hq, st⟩
  · dsimp only [Pt.U, Pt.locs, Pt.cells, Pt.slots] at X' e1 e2 h1 h2 h3 st hcl
    subst h1; subst h2; subst h3
    exact Or.inr ⟨q, (T.setVm vm₁).calling g' mk (Value.ref b :: As).toArray, t, U', L, E, ce, hT, X', hL, e1, e2, hq, hce, hcv, vx_cls hW₁ hcl, st⟩
theorem vx_runSN {y : MethodName} {bytes cc : ByteArray} {maxL nL mc ms n index : Nat} {ret : Option FieldType} {ws : List Cond} {rm : Room} {Pc : Array Value → State → Prop} {Qc : Array Value → State → Outcome → State → Prop} {XC : String → State → State → Prop} {free : Addr → Prop} {Ts : List Cond} {own host : String} {As rest : List Value} {g : JFrame}
    (S : CallFix p m c cc nL s args Ts own) (hM : vx_Met l y ws rm Pc Qc XC mc ms free) (cw : va_CN R s args own index y host bytes maxL ret ws rm mc ms n ∧ (Cond.static y).before args s = true ∧ True) (hp : PreS s H Pc As)
    (hg : g.method = m) (hn : As.length = n) (hsize : g.locals.size = nL) (hstack : g.stack = As.reverse ++ rest) (hW : 2 * g.monitorRoom + (rest.map fun v => v.category).sum ≤ 8) (hdg : decode cc g.pc = .ok (.invokestatic index, 3)) (hf : cells + mc ≤ R.cells ∧ slots + ms ≤ R.slots) :
    vx_Run p l e R s m args below meth c H locs cells slots mc ms g rest (Qc As.toArray) XC free := by
  obtain ⟨⟨⟨hrc, hrs, hfr, hlo, hws, hcw⟩, hcode, hini, hy, hlen, hl⟩, hx1, hx2⟩ := cw
  have hK : vx_Back l R p e below s args y 3 8 (PreOf R mc ms Pc) (PostOf Qc mc ms free) (vx_Post XC mc ms free) := vx_back (bytes := bytes) (maxL := maxL) (ret := ret) hM hp.1 hrc hrs hfr hlo hws hcw (fun a' U hW => word_at hW (Or.inl (by first | rfl | simp [Cond.onTables, Cond.keeps, Cond.steady])) hini)
  obtain ⟨hx, hb, hml, ho, -⟩ := S
  have hPc := hp.2
  intro T hT X
  rcases vx_callSN X hx (bytes := bytes) (maxL := maxL) (ret := ret) ho hl hx1 hini hcode hy hK hg (hsize.trans hml.symm) (argsL := As) (rest := rest) (fun sig h => hn.trans (hlen sig h)) hstack hW (by rw [hb]; exact hdg)
    (fun vm₁ hW₁ => ⟨hf.1, hf.2, hPc (T.setVm vm₁) hT hW₁⟩) with ⟨v, vm₁, ⟨U', l2, c2, s2⟩, hW₁, X', ⟨g', mk, t, L, e1, e2, hq, h1, hL, h2, h3⟩, st⟩ | ⟨q, vm₁, ⟨U', l2, c2, s2⟩, hW₁, X', ⟨g', mk, t, L, E, ce, e1, e2, hq, hce, hcv, hcl, h1, hL, h2, h3⟩, st⟩
  · dsimp only [Pt.U, Pt.locs, Pt.cells, Pt.slots] at X' e1 e2 h1 h2 h3 st
    subst h1; subst h2; subst h3
    exact Or.inl ⟨v, (T.setVm vm₁).calling g' mk As.toArray, t, U', L, hT, X', hL, e1, e2, hq, st⟩
  · dsimp only [Pt.U, Pt.locs, Pt.cells, Pt.slots] at X' e1 e2 h1 h2 h3 st hcl
    subst h1; subst h2; subst h3
    exact Or.inr ⟨q, (T.setVm vm₁).calling g' mk As.toArray, t, U', L, E, ce, hT, X', hL, e1, e2, hq, hce, hcv, vx_cls hW₁ hcl, st⟩
end
/-! ===== END ===== -/
/-! ===== BEGIN calls by an interface of methods that may throw (vx_callIF, vx_runF follow va_callIF, va_runF of this kit) ===== -/
section
variable {p : Program} {l : Launch} {e : Env} {R : Room} {s : State} {m : MethodId} {args : Array Value} {below : List Frame} {meth : Method} {c : Code} {H : Heap} {locs : List Loc} {cells slots : Nat} {Q : State → Prop}
variable {mc ms : Nat} {free : Addr → Prop} {A0 A1 : Nat → Prop} {H0 : Heap} {a : Array Value} {pc : Nat} {ls : Array Slot} {st0 rest : List Value}
def vx_Run5 (p : Program) (l : Launch) (e : Env) (R : Room) (s : State) (m : MethodId) (args : Array Value) (below : List Frame) (meth : Method) (c : Code) (H : Heap) (locs : List Loc) (cells slots mc ms : Nat) (g : JFrame) (rest : List Value) (Qa : State → Outcome → State → Prop) (XC : String → State → State → Prop) (free : Addr → Prop) : Prop :=
  ∀ T : State, T.heap = H → Stand p l e R s m args below meth c T locs cells slots →
    (∃ (v : Option Value) (st₀ t T' : State) (L : List Loc), st₀.heap = H ∧ Stand p l e R s m args below meth c T' (locs ++ L) (cells + mc) (slots + ms) ∧ (∀ q ∈ L, free q.base) ∧ T'.heap = t.heap ∧ T'.vm = t.vm ∧ Qa st₀ (.returned v) t ∧
      Goes p e below T g T' { g with pc := g.pc + 5, stack := v.toList ++ rest }) ∨
    (∃ (q : Addr) (st₀ t T' : State) (L : List Loc) (E : String) (ce : Cell), st₀.heap = H ∧ Stand p l e R s m args below meth c T' (locs ++ L) (cells + mc) (slots + ms) ∧ (∀ z ∈ L, free z.base) ∧ T'.heap = t.heap ∧ T'.vm = t.vm ∧ XC E st₀ t ∧ t.heap[q]? = some ce ∧ ce.vm = .none ∧ s.vm.findClass E = some ce.cls ∧
      Steps p.tables e below (T.setTop g) ((T'.setTop { g with stack := rest }).pushFrame (.throwing q)))
theorem vx_callIF {T : State} (X : Stand p l e R s m args below meth c T locs cells slots) (hexec : p.tables.exec = Jvm.exec) {own C : String} {index count : Nat} {x y : MethodName} {bytes : ByteArray} {maxL : Nat} {ret : Option FieldType}
    (hown : s.vm.findClass own = some m.cls) (hlink : (Cond.methodLink own index x).before args s = true) (hdecl : (Cond.declares x).before args s = true) (hface : (Cond.interfaceMethod x.cls x.cls x.name x.desc).before args s = true)
    (hsel : (Cond.selects C x y).before args s = true) (hinst : (Cond.instanceMethod y).before args s = true) (hpub : (Cond.publicMethod y).before args s = true) (hunh : (Cond.unhidden C x.name x.desc).before args s = true)
    (hcast : (Cond.castable C x.cls).before args s = true) (hcode : (Cond.code y bytes maxL ret).before args s = true) (hx : x.cls ≠ "java/lang/invoke/MethodHandle" ∧ x.cls ≠ "java/lang/invoke/VarHandle")
    {W9 : Nat} {Pre : Pt → Array Value → Prop} {Post : Pt → Array Value → Option Value → Pt → Prop} {PostX : Pt → Array Value → Addr → Pt → Prop} (hK : vx_Back l R p e below s args y 5 W9 Pre Post PostX)
    {b : Addr} {cellB : Cell} {kB : Class} (hcell : T.heap[b]? = some cellB) (hobj : cellB.vm.isStatics = false) (hcls : s.vm.findClass C = some cellB.cls) (hkB : s.vm.classes[cellB.cls]? = some kB)
    {g : JFrame} (hg : g.method = m) (hsize : g.locals.size = c.maxLocals) {argsL rest : List Value} (hlen : ∀ sig, parseMethodDescriptor x.desc = some sig → argsL.length = sig.parameters.length)
    (hstack : g.stack = argsL.reverse ++ .ref b :: rest) (hW : 2 * g.monitorRoom + (rest.map fun v => v.category).sum ≤ W9) (hdg : decode c.code g.pc = .ok (.invokeinterface index count, 5))
    (hpre : ∀ vm₁, s.WarmedH vm₁ → Pre ⟨T.setVm vm₁, locs, cells, slots⟩ (Value.ref b :: argsL).toArray) :
    (∃ (v : Option Value) (vm₁ : Vm) (B : Pt), s.WarmedH vm₁ ∧ Stand p l e R s m args below meth c B.U B.locs B.cells B.slots ∧ Post ⟨T.setVm vm₁, locs, cells, slots⟩ (Value.ref b :: argsL).toArray v B ∧
      ∀ target, Steps p.tables e below (B.U.setTop { g with pc := g.pc + 5, stack := v.toList ++ rest }) target → Steps p.tables e below (T.setTop g) target) ∨
    (∃ (q : Addr) (vm₁ : Vm) (B : Pt), s.WarmedH vm₁ ∧ Stand p l e R s m args below meth c B.U B.locs B.cells B.slots ∧ PostX ⟨T.setVm vm₁, locs, cells, slots⟩ (Value.ref b :: argsL).toArray q B ∧
      Steps p.tables e below (T.setTop g) ((B.U.setTop { g with stack := rest }).pushFrame (.throwing q))) := by
  obtain ⟨r0, r, hn, hrm, hstR, hsigR⟩ := Cond.declares_spec hdecl
  obtain ⟨cL, kL, r1, hcL, hkL, hiL, hfoundL, hn1⟩ := Cond.interfaceMethod_spec hface
  cases hn.symm.trans hn1
  have hr0cls : r0.cls = cL := Option.some.inj ((findClass_of_methodNamed hn).symm.trans hcL)
  obtain ⟨hnameR, hdescR⟩ := name_of_methodNamed hn hrm
  obtain ⟨mk, methM, hnamed, hmethM, -, habM⟩ := Cond.instanceMethod_spec hinst
  obtain ⟨c2, r2, m2, q1, q2, q3, q4, -⟩ := Cond.selects_spec hsel
  cases hcls.symm.trans q1
  cases hfoundL.symm.trans q2
  cases hnamed.symm.trans q3
  have hselP : selectMethod e.platform s.vm cellB.cls r0 = .method mk := by rw [Launch.admits_selectMethod X.admits]; exact q4
  have hpubM : hasFlag methM.accessFlags Acc.public_ = true := Cond.publicMethod_spec hnamed hmethM hpub
  have hway : ((cellB.cls :: s.vm.superclasses cellB.cls).any fun k => (declaredIn s.vm r.name r.desc k).any fun (_, z) => z.isPrivate || z.isStatic) = false := by
    rw [hnameR, hdescR]; exact Cond.unhidden_spec hcls hunh
  obtain ⟨c3, t3, w1, w2, w3⟩ := Cond.castable_spec hcast
  cases hcls.symm.trans w1
  cases hcL.symm.trans w2
  obtain ⟨vm₁, X₁, hstep₁⟩ := X.invokeinterface hexec hown hlink hn hrm hstR (by rw [hr0cls]; exact hkL) hiL hx (a := b) (cell := cellB) (kcell := kB) hcell
    (fun z h => by rw [h] at hobj; cases hobj) hkB (by rw [hr0cls]; exact w3) hselP hmethM hway hpubM habM (g := g) hg (argsL := argsL) (rest := rest) (hlen _ hsigR) hstack hdg
  rcases hK m meth c ⟨T.setVm vm₁, locs, cells, slots⟩ { g with stack := rest } (.invokeinterface index count) mk (Value.ref b :: argsL).toArray X₁ hg hsize hdg hW (X₁.named hnamed) (hpre vm₁ X₁.warmed) with ⟨v, B, X', hpost, hsteps⟩ | ⟨q, B, X', hpost, hsteps⟩
  · exact Or.inl ⟨v, vm₁, B, X₁.warmed, X', hpost, fun target h => hstep₁ _ fun acts => by rw [doInvoke_state]; exact hsteps.trans h⟩
  · exact Or.inr ⟨q, vm₁, B, X₁.warmed, X', hpost, hstep₁ _ fun acts => by rw [doInvoke_state]; exact hsteps⟩
theorem vx_runF {x y : MethodName} {bytes cc : ByteArray} {maxL nL mc ms n index count : Nat} {ret : Option FieldType} {ws : List Cond} {rm : Room} {Pc : Array Value → State → Prop} {Qc : Array Value → State → Outcome → State → Prop} {XC : String → State → State → Prop} {free : Addr → Prop} {Ts : List Cond} {own C : String} {cC : ClassId} {b : Addr} {As rest : List Value} {g : JFrame}
    (hat : ClassAt s C cC) (S : CallFix p m c cc nL s args Ts own) (hM : vx_Met l y ws rm Pc Qc XC mc ms free) (cw : va_CI R s args own C index x y bytes maxL ret ws rm mc ms n) (hp : PreV s H C b Pc As)
    (hg : g.method = m) (hn : As.length = n) (hsize : g.locals.size = nL) (hstack : g.stack = As.reverse ++ .ref b :: rest) (hW : 2 * g.monitorRoom + (rest.map fun v => v.category).sum ≤ 8) (hdg : decode cc g.pc = .ok (.invokeinterface index count, 5)) (hf : cells + mc ≤ R.cells ∧ slots + ms ≤ R.slots) :
    vx_Run5 p l e R s m args below meth c H locs cells slots mc ms g rest (Qc (Value.ref b :: As).toArray) XC free := by
  obtain ⟨hrc, hrs, hfr, hlo, hws, hcw⟩ := cw.back
  have hini := cw.init
  have hK : vx_Back l R p e below s args y 5 8 (PreOf R mc ms Pc) (PostOf Qc mc ms free) (vx_Post XC mc ms free) := vx_back (bytes := bytes) (maxL := maxL) (ret := ret) hM hp.1 hrc hrs hfr hlo hws hcw (fun a' U hW => word_at hW (Or.inl (by first | rfl | simp [Cond.onTables, Cond.keeps, Cond.steady])) hini)
  obtain ⟨hx, hb, hml, ho, -⟩ := S
  obtain ⟨-, ⟨cellB, hcB, hoB, hclB⟩, hPc⟩ := hp
  obtain ⟨hfc, kB, hkB, -⟩ := hat
  cases hfc.symm.trans hclB
  intro T hT X
  rcases vx_callIF X hx (C := C) (bytes := bytes) (maxL := maxL) (ret := ret) ho cw.link cw.decl cw.face cw.sel cw.inst cw.pub cw.unh cw.cast cw.code cw.notMH hK (by rw [hT]; exact hcB) hoB hclB hkB hg (hsize.trans hml.symm) (argsL := As) (rest := rest) (fun sig h => hn.trans (cw.len sig h)) hstack hW (by rw [hb]; exact hdg)
    (fun vm₁ hW₁ => ⟨hf.1, hf.2, hPc (T.setVm vm₁) hT hW₁⟩) with ⟨v, vm₁, ⟨U', l2, c2, s2⟩, hW₁, X', ⟨g', mk, t, L, e1, e2, hq, h1, hL, h2, h3⟩, st⟩ | ⟨q, vm₁, ⟨U', l2, c2, s2⟩, hW₁, X', ⟨g', mk, t, L, E, ce, e1, e2, hq, hce, hcv, hcl, h1, hL, h2, h3⟩, st⟩
  · dsimp only [Pt.U, Pt.locs, Pt.cells, Pt.slots] at X' e1 e2 h1 h2 h3 st
    subst h1; subst h2; subst h3
    exact Or.inl ⟨v, (T.setVm vm₁).calling g' mk (Value.ref b :: As).toArray, t, U', L, hT, X', hL, e1, e2, hq, st⟩
  · dsimp only [Pt.U, Pt.locs, Pt.cells, Pt.slots] at X' e1 e2 h1 h2 h3 st hcl
    subst h1; subst h2; subst h3
    exact Or.inr ⟨q, (T.setVm vm₁).calling g' mk (Value.ref b :: As).toArray, t, U', L, E, ce, hT, X', hL, e1, e2, hq, hce, hcv, vx_cls hW₁ hcl, st⟩
theorem vx_callFv {S SX : Type} {post : S → Prop} {px : SX → Prop} {B : S → State → Prop} {BX : String → SX → State → Prop} {AX : Nat → Prop} (hr : vx_Run5 p l e R s m args below meth c H locs cells slots mc ms (F0 m pc ls st0) rest (va_Qv post B A1 a) (vx_X px BX AX) free) (hS : va_S A0 H0 H locs) (hA : ∀ q, q < H.size → A1 q → A0 q) (hf : ∀ q, free q → A0 q) (hAX : ∀ q, q < H.size → AX q → A0 q)
    (kx : ∀ (E : String) (ce : Cell) (q9 : Addr) (u : SX) (t : State) (H1 : Heap) (locs1 : List Loc), t.heap = H1 → s.vm.Alike t.vm → px u → BX E u t → H.size ≤ H1.size → (∀ q : Nat, q < H.size → ¬ AX q → H1[q]? = H[q]?) → va_S A0 H0 H1 locs1 → H1[q9]? = some ce → ce.vm = .none → s.vm.findClass E = some ce.cls → vx_W p l e R s m args below meth c H1 locs1 (cells + mc) (slots + ms) Q (F0 m pc ls rest) q9)
    (kk : ∀ (u : S) (t : State) (H1 : Heap) (locs1 : List Loc), t.heap = H1 → s.vm.Alike t.vm → post u → B u t → H.size ≤ H1.size → (∀ q : Nat, q < H.size → ¬ A1 q → H1[q]? = H[q]?) → va_S A0 H0 H1 locs1 → W p l e R s m args below meth c H1 locs1 (cells + mc) (slots + ms) Q (F0 m (pc + 5) ls (rest))) : W p l e R s m args below meth c H locs cells slots Q (F0 m pc ls st0) := by
  intro T hT X
  rcases hr T hT X with ⟨v, st₀, t, T', L, h0, X', hL, e1, e2, ⟨⟨u, hv, hp, hb⟩, hF⟩, st⟩ | ⟨q, st₀, t, T', L, E, ce, h0, X', hL, e1, e2, ⟨u, hp, hb, hF⟩, hce, hcv, hcl, st⟩
  · cases hv
    obtain ⟨k1, k2, k3⟩ := vx_keep h0 e1 hS hA hf hL hF
    obtain ⟨t2, a1, b1⟩ := kk u t T'.heap (locs ++ L) e1.symm (by rw [← e2]; exact X'.warmed.alike) hp hb k1 k2 k3 T' rfl X'
    exact ⟨t2, st t2 a1, b1⟩
  · obtain ⟨k1, k2, k3⟩ := vx_keep h0 e1 hS hAX hf hL hF
    obtain ⟨t2, a1, b1⟩ := kx E ce q u t T'.heap (locs ++ L) e1.symm (by rw [← e2]; exact X'.warmed.alike) hp hb k1 k2 k3 (by rw [e1]; exact hce) hcv hcl T' rfl X'
    exact ⟨t2, st.trans a1, b1⟩
theorem vx_callFi {S SX : Type} {post : Int32 → S → Prop} {px : SX → Prop} {B : S → State → Prop} {BX : String → SX → State → Prop} {AX : Nat → Prop} (hr : vx_Run5 p l e R s m args below meth c H locs cells slots mc ms (F0 m pc ls st0) rest (va_Qi post B A1 a) (vx_X px BX AX) free) (hS : va_S A0 H0 H locs) (hA : ∀ q, q < H.size → A1 q → A0 q) (hf : ∀ q, free q → A0 q) (hAX : ∀ q, q < H.size → AX q → A0 q)
    (kx : ∀ (E : String) (ce : Cell) (q9 : Addr) (u : SX) (t : State) (H1 : Heap) (locs1 : List Loc), t.heap = H1 → s.vm.Alike t.vm → px u → BX E u t → H.size ≤ H1.size → (∀ q : Nat, q < H.size → ¬ AX q → H1[q]? = H[q]?) → va_S A0 H0 H1 locs1 → H1[q9]? = some ce → ce.vm = .none → s.vm.findClass E = some ce.cls → vx_W p l e R s m args below meth c H1 locs1 (cells + mc) (slots + ms) Q (F0 m pc ls rest) q9)
    (kk : ∀ (r : Int32) (u : S) (t : State) (H1 : Heap) (locs1 : List Loc), t.heap = H1 → s.vm.Alike t.vm → post r u → B u t → H.size ≤ H1.size → (∀ q : Nat, q < H.size → ¬ A1 q → H1[q]? = H[q]?) → va_S A0 H0 H1 locs1 → W p l e R s m args below meth c H1 locs1 (cells + mc) (slots + ms) Q (F0 m (pc + 5) ls (.int r :: rest))) : W p l e R s m args below meth c H locs cells slots Q (F0 m pc ls st0) := by
  intro T hT X
  rcases hr T hT X with ⟨v, st₀, t, T', L, h0, X', hL, e1, e2, ⟨⟨r, u, hv, hp, hb⟩, hF⟩, st⟩ | ⟨q, st₀, t, T', L, E, ce, h0, X', hL, e1, e2, ⟨u, hp, hb, hF⟩, hce, hcv, hcl, st⟩
  · cases hv
    obtain ⟨k1, k2, k3⟩ := vx_keep h0 e1 hS hA hf hL hF
    obtain ⟨t2, a1, b1⟩ := kk r u t T'.heap (locs ++ L) e1.symm (by rw [← e2]; exact X'.warmed.alike) hp hb k1 k2 k3 T' rfl X'
    exact ⟨t2, st t2 a1, b1⟩
  · obtain ⟨k1, k2, k3⟩ := vx_keep h0 e1 hS hAX hf hL hF
    obtain ⟨t2, a1, b1⟩ := kx E ce q u t T'.heap (locs ++ L) e1.symm (by rw [← e2]; exact X'.warmed.alike) hp hb k1 k2 k3 (by rw [e1]; exact hce) hcv hcl T' rfl X'
    exact ⟨t2, st.trans a1, b1⟩
theorem vx_callFl {S SX : Type} {post : Int64 → S → Prop} {px : SX → Prop} {B : S → State → Prop} {BX : String → SX → State → Prop} {AX : Nat → Prop} (hr : vx_Run5 p l e R s m args below meth c H locs cells slots mc ms (F0 m pc ls st0) rest (va_Ql post B A1 a) (vx_X px BX AX) free) (hS : va_S A0 H0 H locs) (hA : ∀ q, q < H.size → A1 q → A0 q) (hf : ∀ q, free q → A0 q) (hAX : ∀ q, q < H.size → AX q → A0 q)
    (kx : ∀ (E : String) (ce : Cell) (q9 : Addr) (u : SX) (t : State) (H1 : Heap) (locs1 : List Loc), t.heap = H1 → s.vm.Alike t.vm → px u → BX E u t → H.size ≤ H1.size → (∀ q : Nat, q < H.size → ¬ AX q → H1[q]? = H[q]?) → va_S A0 H0 H1 locs1 → H1[q9]? = some ce → ce.vm = .none → s.vm.findClass E = some ce.cls → vx_W p l e R s m args below meth c H1 locs1 (cells + mc) (slots + ms) Q (F0 m pc ls rest) q9)
    (kk : ∀ (r : Int64) (u : S) (t : State) (H1 : Heap) (locs1 : List Loc), t.heap = H1 → s.vm.Alike t.vm → post r u → B u t → H.size ≤ H1.size → (∀ q : Nat, q < H.size → ¬ A1 q → H1[q]? = H[q]?) → va_S A0 H0 H1 locs1 → W p l e R s m args below meth c H1 locs1 (cells + mc) (slots + ms) Q (F0 m (pc + 5) ls (.long r :: rest))) : W p l e R s m args below meth c H locs cells slots Q (F0 m pc ls st0) := by
  intro T hT X
  rcases hr T hT X with ⟨v, st₀, t, T', L, h0, X', hL, e1, e2, ⟨⟨r, u, hv, hp, hb⟩, hF⟩, st⟩ | ⟨q, st₀, t, T', L, E, ce, h0, X', hL, e1, e2, ⟨u, hp, hb, hF⟩, hce, hcv, hcl, st⟩
  · cases hv
    obtain ⟨k1, k2, k3⟩ := vx_keep h0 e1 hS hA hf hL hF
    obtain ⟨t2, a1, b1⟩ := kk r u t T'.heap (locs ++ L) e1.symm (by rw [← e2]; exact X'.warmed.alike) hp hb k1 k2 k3 T' rfl X'
    exact ⟨t2, st t2 a1, b1⟩
  · obtain ⟨k1, k2, k3⟩ := vx_keep h0 e1 hS hAX hf hL hF
    obtain ⟨t2, a1, b1⟩ := kx E ce q u t T'.heap (locs ++ L) e1.symm (by rw [← e2]; exact X'.warmed.alike) hp hb k1 k2 k3 (by rw [e1]; exact hce) hcv hcl T' rfl X'
    exact ⟨t2, st.trans a1, b1⟩
theorem vx_callFf {S SX : Type} {post : UInt32 → S → Prop} {px : SX → Prop} {B : S → State → Prop} {BX : String → SX → State → Prop} {AX : Nat → Prop} (hr : vx_Run5 p l e R s m args below meth c H locs cells slots mc ms (F0 m pc ls st0) rest (va_Qf post B A1 a) (vx_X px BX AX) free) (hS : va_S A0 H0 H locs) (hA : ∀ q, q < H.size → A1 q → A0 q) (hf : ∀ q, free q → A0 q) (hAX : ∀ q, q < H.size → AX q → A0 q)
    (kx : ∀ (E : String) (ce : Cell) (q9 : Addr) (u : SX) (t : State) (H1 : Heap) (locs1 : List Loc), t.heap = H1 → s.vm.Alike t.vm → px u → BX E u t → H.size ≤ H1.size → (∀ q : Nat, q < H.size → ¬ AX q → H1[q]? = H[q]?) → va_S A0 H0 H1 locs1 → H1[q9]? = some ce → ce.vm = .none → s.vm.findClass E = some ce.cls → vx_W p l e R s m args below meth c H1 locs1 (cells + mc) (slots + ms) Q (F0 m pc ls rest) q9)
    (kk : ∀ (r : UInt32) (u : S) (t : State) (H1 : Heap) (locs1 : List Loc), t.heap = H1 → s.vm.Alike t.vm → post r u → B u t → H.size ≤ H1.size → (∀ q : Nat, q < H.size → ¬ A1 q → H1[q]? = H[q]?) → va_S A0 H0 H1 locs1 → W p l e R s m args below meth c H1 locs1 (cells + mc) (slots + ms) Q (F0 m (pc + 5) ls (.float r :: rest))) : W p l e R s m args below meth c H locs cells slots Q (F0 m pc ls st0) := by
  intro T hT X
  rcases hr T hT X with ⟨v, st₀, t, T', L, h0, X', hL, e1, e2, ⟨⟨r, u, hv, hp, hb⟩, hF⟩, st⟩ | ⟨q, st₀, t, T', L, E, ce, h0, X', hL, e1, e2, ⟨u, hp, hb, hF⟩, hce, hcv, hcl, st⟩
  · cases hv
    obtain ⟨k1, k2, k3⟩ := vx_keep h0 e1 hS hA hf hL hF
    obtain ⟨t2, a1, b1⟩ := kk r u t T'.heap (locs ++ L) e1.symm (by rw [← e2]; exact X'.warmed.alike) hp hb k1 k2 k3 T' rfl X'
    exact ⟨t2, st t2 a1, b1⟩
  · obtain ⟨k1, k2, k3⟩ := vx_keep h0 e1 hS hAX hf hL hF
    obtain ⟨t2, a1, b1⟩ := kx E ce q u t T'.heap (locs ++ L) e1.symm (by rw [← e2]; exact X'.warmed.alike) hp hb k1 k2 k3 (by rw [e1]; exact hce) hcv hcl T' rfl X'
    exact ⟨t2, st.trans a1, b1⟩
theorem vx_callFd {S SX : Type} {post : UInt64 → S → Prop} {px : SX → Prop} {B : S → State → Prop} {BX : String → SX → State → Prop} {AX : Nat → Prop} (hr : vx_Run5 p l e R s m args below meth c H locs cells slots mc ms (F0 m pc ls st0) rest (va_Qd post B A1 a) (vx_X px BX AX) free) (hS : va_S A0 H0 H locs) (hA : ∀ q, q < H.size → A1 q → A0 q) (hf : ∀ q, free q → A0 q) (hAX : ∀ q, q < H.size → AX q → A0 q)
    (kx : ∀ (E : String) (ce : Cell) (q9 : Addr) (u : SX) (t : State) (H1 : Heap) (locs1 : List Loc), t.heap = H1 → s.vm.Alike t.vm → px u → BX E u t → H.size ≤ H1.size → (∀ q : Nat, q < H.size → ¬ AX q → H1[q]? = H[q]?) → va_S A0 H0 H1 locs1 → H1[q9]? = some ce → ce.vm = .none → s.vm.findClass E = some ce.cls → vx_W p l e R s m args below meth c H1 locs1 (cells + mc) (slots + ms) Q (F0 m pc ls rest) q9)
    (kk : ∀ (r : UInt64) (u : S) (t : State) (H1 : Heap) (locs1 : List Loc), t.heap = H1 → s.vm.Alike t.vm → post r u → B u t → H.size ≤ H1.size → (∀ q : Nat, q < H.size → ¬ A1 q → H1[q]? = H[q]?) → va_S A0 H0 H1 locs1 → W p l e R s m args below meth c H1 locs1 (cells + mc) (slots + ms) Q (F0 m (pc + 5) ls (.double r :: rest))) : W p l e R s m args below meth c H locs cells slots Q (F0 m pc ls st0) := by
  intro T hT X
  rcases hr T hT X with ⟨v, st₀, t, T', L, h0, X', hL, e1, e2, ⟨⟨r, u, hv, hp, hb⟩, hF⟩, st⟩ | ⟨q, st₀, t, T', L, E, ce, h0, X', hL, e1, e2, ⟨u, hp, hb, hF⟩, hce, hcv, hcl, st⟩
  · cases hv
    obtain ⟨k1, k2, k3⟩ := vx_keep h0 e1 hS hA hf hL hF
    obtain ⟨t2, a1, b1⟩ := kk r u t T'.heap (locs ++ L) e1.symm (by rw [← e2]; exact X'.warmed.alike) hp hb k1 k2 k3 T' rfl X'
    exact ⟨t2, st t2 a1, b1⟩
  · obtain ⟨k1, k2, k3⟩ := vx_keep h0 e1 hS hAX hf hL hF
    obtain ⟨t2, a1, b1⟩ := kx E ce q u t T'.heap (locs ++ L) e1.symm (by rw [← e2]; exact X'.warmed.alike) hp hb k1 k2 k3 (by rw [e1]; exact hce) hcv hcl T' rfl X'
    exact ⟨t2, st.trans a1, b1⟩
end
/-! ===== END ===== -/
/-! ===== BEGIN by an interface, a method with a table of its own that may throw (follows va_callIFW, va_runFW) ===== -/
section
variable {p : Program} {l : Launch} {e : Env} {R : Room} {s : State} {m : MethodId} {args : Array Value} {below : List Frame} {meth : Method} {c : Code} {H : Heap} {locs : List Loc} {cells slots : Nat}
theorem vx_callIFW {T : State} (X : Stand p l e R s m args below meth c T locs cells slots) (hexec : p.tables.exec = Jvm.exec) {own C : String} {index count : Nat} {x y : MethodName} {bytes : ByteArray} {maxL : Nat} {ret : Option FieldType} {hh : List (Nat × Nat × Nat × Nat)}
    (hown : s.vm.findClass own = some m.cls) (hlink : (Cond.methodLink own index x).before args s = true) (hdecl : (Cond.declares x).before args s = true) (hface : (Cond.interfaceMethod x.cls x.cls x.name x.desc).before args s = true)
    (hsel : (Cond.selects C x y).before args s = true) (hinst : (Cond.instanceMethod y).before args s = true) (hpub : (Cond.publicMethod y).before args s = true) (hunh : (Cond.unhidden C x.name x.desc).before args s = true)
    (hcast : (Cond.castable C x.cls).before args s = true) (hcode : (Cond.codeWith y bytes maxL ret hh).before args s = true) (hx : x.cls ≠ "java/lang/invoke/MethodHandle" ∧ x.cls ≠ "java/lang/invoke/VarHandle")
    {W : Nat} {Pre : Pt → Array Value → Prop} {Post : Pt → Array Value → Option Value → Pt → Prop} {PostX : Pt → Array Value → Addr → Pt → Prop} (hK : vx_Back l R p e below s args y 5 W Pre Post PostX)
    {b : Addr} {cellB : Cell} {kB : Class} (hcell : T.heap[b]? = some cellB) (hobj : cellB.vm.isStatics = false) (hcls : s.vm.findClass C = some cellB.cls) (hkB : s.vm.classes[cellB.cls]? = some kB)
    {g : JFrame} (hg : g.method = m) (hsize : g.locals.size = c.maxLocals) {argsL rest : List Value} (hlen : ∀ sig, parseMethodDescriptor x.desc = some sig → argsL.length = sig.parameters.length)
    (hstack : g.stack = argsL.reverse ++ .ref b :: rest) (hW : 2 * g.monitorRoom + (rest.map fun v => v.category).sum ≤ W) (hdg : decode c.code g.pc = .ok (.invokeinterface index count, 5))
    (hpre : ∀ vm₁, s.WarmedH vm₁ → Pre ⟨T.setVm vm₁, locs, cells, slots⟩ (Value.ref b :: argsL).toArray) :
    (∃ (v : Option Value) (vm₁ : Vm) (B : Pt), s.WarmedH vm₁ ∧ Stand p l e R s m args below meth c B.U B.locs B.cells B.slots ∧ Post ⟨T.setVm vm₁, locs, cells, slots⟩ (Value.ref b :: argsL).toArray v B ∧
      ∀ target, Steps p.tables e below (B.U.setTop { g with pc := g.pc + 5, stack := v.toList ++ rest }) target → Steps p.tables e below (T.setTop g) target) ∨
    (∃ (q : Addr) (vm₁ : Vm) (B : Pt), s.WarmedH vm₁ ∧ Stand p l e R s m args below meth c B.U B.locs B.cells B.slots ∧ PostX ⟨T.setVm vm₁, locs, cells, slots⟩ (Value.ref b :: argsL).toArray q B ∧
      Steps p.tables e below (T.setTop g) ((B.U.setTop { g with stack := rest }).pushFrame (.throwing q))) := by
  obtain ⟨r0, r, hn, hrm, hstR, hsigR⟩ := Cond.declares_spec hdecl
  obtain ⟨cL, kL, r1, hcL, hkL, hiL, hfoundL, hn1⟩ := Cond.interfaceMethod_spec hface
  cases hn.symm.trans hn1
  have hr0cls : r0.cls = cL := Option.some.inj ((findClass_of_methodNamed hn).symm.trans hcL)
  obtain ⟨hnameR, hdescR⟩ := name_of_methodNamed hn hrm
  obtain ⟨mk, methM, hnamed, hmethM, -, habM⟩ := Cond.instanceMethod_spec hinst
  obtain ⟨c2, r2, m2, q1, q2, q3, q4, -⟩ := Cond.selects_spec hsel
  cases hcls.symm.trans q1
  cases hfoundL.symm.trans q2
  cases hnamed.symm.trans q3
  have hselP : selectMethod e.platform s.vm cellB.cls r0 = .method mk := by rw [Launch.admits_selectMethod X.admits]; exact q4
  have hpubM : hasFlag methM.accessFlags Acc.public_ = true := Cond.publicMethod_spec hnamed hmethM hpub
  have hway : ((cellB.cls :: s.vm.superclasses cellB.cls).any fun k => (declaredIn s.vm r.name r.desc k).any fun (_, z) => z.isPrivate || z.isStatic) = false := by
    rw [hnameR, hdescR]; exact Cond.unhidden_spec hcls hunh
  obtain ⟨c3, t3, w1, w2, w3⟩ := Cond.castable_spec hcast
  cases hcls.symm.trans w1
  cases hcL.symm.trans w2
  obtain ⟨vm₁, X₁, hstep₁⟩ := X.invokeinterface hexec hown hlink hn hrm hstR (by rw [hr0cls]; exact hkL) hiL hx (a := b) (cell := cellB) (kcell := kB) hcell
    (fun z h => by rw [h] at hobj; cases hobj) hkB (by rw [hr0cls]; exact w3) hselP hmethM hway hpubM habM (g := g) hg (argsL := argsL) (rest := rest) (hlen _ hsigR) hstack hdg
  rcases hK m meth c ⟨T.setVm vm₁, locs, cells, slots⟩ { g with stack := rest } (.invokeinterface index count) mk (Value.ref b :: argsL).toArray X₁ hg hsize hdg hW (X₁.named hnamed) (hpre vm₁ X₁.warmed) with ⟨v, B, X', hpost, hsteps⟩ | ⟨q, B, X', hpost, hsteps⟩
  · exact Or.inl ⟨v, vm₁, B, X₁.warmed, X', hpost, fun target h => hstep₁ _ fun acts => by rw [doInvoke_state]; exact hsteps.trans h⟩
  · exact Or.inr ⟨q, vm₁, B, X₁.warmed, X', hpost, hstep₁ _ fun acts => by rw [doInvoke_state]; exact hsteps⟩
theorem vx_runFW {x y : MethodName} {bytes cc : ByteArray} {maxL nL mc ms n index count : Nat} {ret : Option FieldType} {hh : List (Nat × Nat × Nat × Nat)} {ws : List Cond} {rm : Room} {Pc : Array Value → State → Prop} {Qc : Array Value → State → Outcome → State → Prop} {XC : String → State → State → Prop} {free : Addr → Prop} {Ts : List Cond} {own C : String} {cC : ClassId} {b : Addr} {As rest : List Value} {g : JFrame}
    (hat : ClassAt s C cC) (S : CallFix p m c cc nL s args Ts own) (hM : vx_Met l y ws rm Pc Qc XC mc ms free) (cw : va_CIW R s args own C index x y bytes maxL ret hh ws rm mc ms n) (hp : PreV s H C b Pc As)
    (hg : g.method = m) (hn : As.length = n) (hsize : g.locals.size = nL) (hstack : g.stack = As.reverse ++ .ref b :: rest) (hW : 2 * g.monitorRoom + (rest.map fun v => v.category).sum ≤ 8) (hdg : decode cc g.pc = .ok (.invokeinterface index count, 5)) (hf : cells + mc ≤ R.cells ∧ slots + ms ≤ R.slots) :
    vx_Run5 p l e R s m args below meth c H locs cells slots mc ms g rest (Qc (Value.ref b :: As).toArray) XC free := by
  obtain ⟨hrc, hrs, hfr, hlo, hws, hcw⟩ := cw.back
  have hini := cw.init
  have hK : vx_Back l R p e below s args y 5 8 (PreOf R mc ms Pc) (PostOf Qc mc ms free) (vx_Post XC mc ms free) := vx_backW (hh := hh) (bytes := bytes) (maxL := maxL) (ret := ret) hM hp.1 hrc hrs hfr hlo hws hcw (fun a' U hW => word_at hW (Or.inl (by first | rfl | simp [Cond.onTables, Cond.keeps, Cond.steady])) hini)
  obtain ⟨hx, hb, hml, ho, -⟩ := S
  obtain ⟨-, ⟨cellB, hcB, hoB, hclB⟩, hPc⟩ := hp
  obtain ⟨hfc, kB, hkB, -⟩ := hat
  cases hfc.symm.trans hclB
  intro T hT X
  rcases vx_callIFW X hx (C := C) (hh := hh) (bytes := bytes) (maxL := maxL) (ret := ret) ho cw.link cw.decl cw.face cw.sel cw.inst cw.pub cw.unh cw.cast cw.code cw.notMH hK (by rw [hT]; exact hcB) hoB hclB hkB hg (hsize.trans hml.symm) (argsL := As) (rest := rest) (fun sig h => hn.trans (cw.len sig h)) hstack hW (by rw [hb]; exact hdg)
    (fun vm₁ hW₁ => ⟨hf.1, hf.2, hPc (T.setVm vm₁) hT hW₁⟩) with ⟨v, vm₁, ⟨U', l2, c2, s2⟩, hW₁, X', ⟨g', mk, t, L, e1, e2, hq, h1, hL, h2, h3⟩, st⟩ | ⟨q, vm₁, ⟨U', l2, c2, s2⟩, hW₁, X', ⟨g', mk, t, L, E, ce, e1, e2, hq, hce, hcv, hcl, h1, hL, h2, h3⟩, st⟩
  · dsimp only [Pt.U, Pt.locs, Pt.cells, Pt.slots] at X' e1 e2 h1 h2 h3 st
    subst h1; subst h2; subst h3
    exact Or.inl ⟨v, (T.setVm vm₁).calling g' mk (Value.ref b :: As).toArray, t, U', L, hT, X', hL, e1, e2, hq, st⟩
  · dsimp only [Pt.U, Pt.locs, Pt.cells, Pt.slots] at X' e1 e2 h1 h2 h3 st hcl
    subst h1; subst h2; subst h3
    exact Or.inr ⟨q, (T.setVm vm₁).calling g' mk (Value.ref b :: As).toArray, t, U', L, E, ce, hT, X', hL, e1, e2, hq, hce, hcv, vx_cls hW₁ hcl, st⟩
end
/-! ===== END ===== -/
/-! ===== BEGIN .. of methods that hand back an object of the pool ===== -/
section
variable {p : Program} {l : Launch} {e : Env} {R : Room} {s : State} {m : MethodId} {args : Array Value} {below : List Frame} {meth : Method} {c : Code} {H : Heap} {locs : List Loc} {cells slots : Nat} {Q : State → Prop}
variable {mc ms : Nat} {free : Addr → Prop} {A0 A1 : Nat → Prop} {H0 : Heap} {a : Array Value} {pc : Nat} {ls : Array Slot} {st0 rest : List Value}
theorem vx_callq {S SX : Type} {post : Option Nat → S → Prop} {px : SX → Prop} {B : S → State → Prop} {BX : String → SX → State → Prop} {AX : Nat → Prop} (hr : vx_Run p l e R s m args below meth c H locs cells slots mc ms (F0 m pc ls st0) rest (va_Qq post B A1 a) (vx_X px BX AX) free) (hS : va_S A0 H0 H locs) (hA : ∀ q, q < H.size → A1 q → A0 q) (hf : ∀ q, free q → A0 q) (hAX : ∀ q, q < H.size → AX q → A0 q)
    (kx : ∀ (E : String) (ce : Cell) (q9 : Addr) (u : SX) (t : State) (H1 : Heap) (locs1 : List Loc), t.heap = H1 → s.vm.Alike t.vm → px u → BX E u t → H.size ≤ H1.size → (∀ q : Nat, q < H.size → ¬ AX q → H1[q]? = H[q]?) → va_S A0 H0 H1 locs1 → H1[q9]? = some ce → ce.vm = .none → s.vm.findClass E = some ce.cls → vx_W p l e R s m args below meth c H1 locs1 (cells + mc) (slots + ms) Q (F0 m pc ls rest) q9)
    (kk : ∀ (r : Option Nat) (u : S) (t : State) (H1 : Heap) (locs1 : List Loc), t.heap = H1 → s.vm.Alike t.vm → post r u → B u t → H.size ≤ H1.size → (∀ q : Nat, q < H.size → ¬ A1 q → H1[q]? = H[q]?) → va_S A0 H0 H1 locs1 → W p l e R s m args below meth c H1 locs1 (cells + mc) (slots + ms) Q (F0 m (pc + 3) ls (va_rf r :: rest))) : W p l e R s m args below meth c H locs cells slots Q (F0 m pc ls st0) := by
  intro T hT X
  rcases hr T hT X with ⟨v, st₀, t, T', L, h0, X', hL, e1, e2, ⟨⟨r, u, hv, hp, hb⟩, hF⟩, st⟩ | ⟨q, st₀, t, T', L, E, ce, h0, X', hL, e1, e2, ⟨u, hp, hb, hF⟩, hce, hcv, hcl, st⟩
  · cases hv
    obtain ⟨k1, k2, k3⟩ := vx_keep h0 e1 hS hA hf hL hF
    obtain ⟨t2, a1, b1⟩ := kk r u t T'.heap (locs ++ L) e1.symm (by rw [← e2]; exact X'.warmed.alike) hp hb k1 k2 k3 T' rfl X'
    exact ⟨t2, st t2 a1, b1⟩
  · obtain ⟨k1, k2, k3⟩ := vx_keep h0 e1 hS hAX hf hL hF
    obtain ⟨t2, a1, b1⟩ := kx E ce q u t T'.heap (locs ++ L) e1.symm (by rw [← e2]; exact X'.warmed.alike) hp hb k1 k2 k3 (by rw [e1]; exact hce) hcv hcl T' rfl X'
    exact ⟨t2, st.trans a1, b1⟩
end
/-! ===== END ===== -/
/-! ===== BEGIN .. a constant ===== -/
section
variable {p : Program} {l : Launch} {e : Env} {R : Room} {s : State} {m : MethodId} {args : Array Value} {below : List Frame} {meth : Method} {c : Code} {H : Heap} {locs : List Loc} {cells slots : Nat} {Q : State → Prop}
variable {mc ms : Nat} {free : Addr → Prop} {A0 A1 : Nat → Prop} {H0 : Heap} {a : Array Value} {pc : Nat} {ls : Array Slot} {st0 rest : List Value}
theorem vx_calle {ad : Nat → Nat} {S SX : Type} {post : Option Nat → S → Prop} {px : SX → Prop} {B : S → State → Prop} {BX : String → SX → State → Prop} {AX : Nat → Prop} (hr : vx_Run p l e R s m args below meth c H locs cells slots mc ms (F0 m pc ls st0) rest (va_Qe ad post B A1 a) (vx_X px BX AX) free) (hS : va_S A0 H0 H locs) (hA : ∀ q, q < H.size → A1 q → A0 q) (hf : ∀ q, free q → A0 q) (hAX : ∀ q, q < H.size → AX q → A0 q)
    (kx : ∀ (E : String) (ce : Cell) (q9 : Addr) (u : SX) (t : State) (H1 : Heap) (locs1 : List Loc), t.heap = H1 → s.vm.Alike t.vm → px u → BX E u t → H.size ≤ H1.size → (∀ q : Nat, q < H.size → ¬ AX q → H1[q]? = H[q]?) → va_S A0 H0 H1 locs1 → H1[q9]? = some ce → ce.vm = .none → s.vm.findClass E = some ce.cls → vx_W p l e R s m args below meth c H1 locs1 (cells + mc) (slots + ms) Q (F0 m pc ls rest) q9)
    (kk : ∀ (r : Option Nat) (u : S) (t : State) (H1 : Heap) (locs1 : List Loc), t.heap = H1 → s.vm.Alike t.vm → post r u → B u t → H.size ≤ H1.size → (∀ q : Nat, q < H.size → ¬ A1 q → H1[q]? = H[q]?) → va_S A0 H0 H1 locs1 → W p l e R s m args below meth c H1 locs1 (cells + mc) (slots + ms) Q (F0 m (pc + 3) ls (va_re ad r :: rest))) : W p l e R s m args below meth c H locs cells slots Q (F0 m pc ls st0) := by
  intro T hT X
  rcases hr T hT X with ⟨v, st₀, t, T', L, h0, X', hL, e1, e2, ⟨⟨r, u, hv, hp, hb⟩, hF⟩, st⟩ | ⟨q, st₀, t, T', L, E, ce, h0, X', hL, e1, e2, ⟨u, hp, hb, hF⟩, hce, hcv, hcl, st⟩
  · cases hv
    obtain ⟨k1, k2, k3⟩ := vx_keep h0 e1 hS hA hf hL hF
    obtain ⟨t2, a1, b1⟩ := kk r u t T'.heap (locs ++ L) e1.symm (by rw [← e2]; exact X'.warmed.alike) hp hb k1 k2 k3 T' rfl X'
    exact ⟨t2, st t2 a1, b1⟩
  · obtain ⟨k1, k2, k3⟩ := vx_keep h0 e1 hS hAX hf hL hF
    obtain ⟨t2, a1, b1⟩ := kx E ce q u t T'.heap (locs ++ L) e1.symm (by rw [← e2]; exact X'.warmed.alike) hp hb k1 k2 k3 (by rw [e1]; exact hce) hcv hcl T' rfl X'
    exact ⟨t2, st.trans a1, b1⟩
end
/-! ===== END ===== -/
/-! ===== BEGIN .. by an interface, an object ===== -/
section
variable {p : Program} {l : Launch} {e : Env} {R : Room} {s : State} {m : MethodId} {args : Array Value} {below : List Frame} {meth : Method} {c : Code} {H : Heap} {locs : List Loc} {cells slots : Nat} {Q : State → Prop}
variable {mc ms : Nat} {free : Addr → Prop} {A0 A1 : Nat → Prop} {H0 : Heap} {a : Array Value} {pc : Nat} {ls : Array Slot} {st0 rest : List Value}
theorem vx_callFq {S SX : Type} {post : Option Nat → S → Prop} {px : SX → Prop} {B : S → State → Prop} {BX : String → SX → State → Prop} {AX : Nat → Prop} (hr : vx_Run5 p l e R s m args below meth c H locs cells slots mc ms (F0 m pc ls st0) rest (va_Qq post B A1 a) (vx_X px BX AX) free) (hS : va_S A0 H0 H locs) (hA : ∀ q, q < H.size → A1 q → A0 q) (hf : ∀ q, free q → A0 q) (hAX : ∀ q, q < H.size → AX q → A0 q)
    (kx : ∀ (E : String) (ce : Cell) (q9 : Addr) (u : SX) (t : State) (H1 : Heap) (locs1 : List Loc), t.heap = H1 → s.vm.Alike t.vm → px u → BX E u t → H.size ≤ H1.size → (∀ q : Nat, q < H.size → ¬ AX q → H1[q]? = H[q]?) → va_S A0 H0 H1 locs1 → H1[q9]? = some ce → ce.vm = .none → s.vm.findClass E = some ce.cls → vx_W p l e R s m args below meth c H1 locs1 (cells + mc) (slots + ms) Q (F0 m pc ls rest) q9)
    (kk : ∀ (r : Option Nat) (u : S) (t : State) (H1 : Heap) (locs1 : List Loc), t.heap = H1 → s.vm.Alike t.vm → post r u → B u t → H.size ≤ H1.size → (∀ q : Nat, q < H.size → ¬ A1 q → H1[q]? = H[q]?) → va_S A0 H0 H1 locs1 → W p l e R s m args below meth c H1 locs1 (cells + mc) (slots + ms) Q (F0 m (pc + 5) ls (va_rf r :: rest))) : W p l e R s m args below meth c H locs cells slots Q (F0 m pc ls st0) := by
  intro T hT X
  rcases hr T hT X with ⟨v, st₀, t, T', L, h0, X', hL, e1, e2, ⟨⟨r, u, hv, hp, hb⟩, hF⟩, st⟩ | ⟨q, st₀, t, T', L, E, ce, h0, X', hL, e1, e2, ⟨u, hp, hb, hF⟩, hce, hcv, hcl, st⟩
  · cases hv
    obtain ⟨k1, k2, k3⟩ := vx_keep h0 e1 hS hA hf hL hF
    obtain ⟨t2, a1, b1⟩ := kk r u t T'.heap (locs ++ L) e1.symm (by rw [← e2]; exact X'.warmed.alike) hp hb k1 k2 k3 T' rfl X'
    exact ⟨t2, st t2 a1, b1⟩
  · obtain ⟨k1, k2, k3⟩ := vx_keep h0 e1 hS hAX hf hL hF
    obtain ⟨t2, a1, b1⟩ := kx E ce q u t T'.heap (locs ++ L) e1.symm (by rw [← e2]; exact X'.warmed.alike) hp hb k1 k2 k3 (by rw [e1]; exact hce) hcv hcl T' rfl X'
    exact ⟨t2, st.trans a1, b1⟩
end
/-! ===== END ===== -/
/-! ===== BEGIN .. by an interface, a constant ===== -/
section
variable {p : Program} {l : Launch} {e : Env} {R : Room} {s : State} {m : MethodId} {args : Array Value} {below : List Frame} {meth : Method} {c : Code} {H : Heap} {locs : List Loc} {cells slots : Nat} {Q : State → Prop}
variable {mc ms : Nat} {free : Addr → Prop} {A0 A1 : Nat → Prop} {H0 : Heap} {a : Array Value} {pc : Nat} {ls : Array Slot} {st0 rest : List Value}
theorem vx_callFe {ad : Nat → Nat} {S SX : Type} {post : Option Nat → S → Prop} {px : SX → Prop} {B : S → State → Prop} {BX : String → SX → State → Prop} {AX : Nat → Prop} (hr : vx_Run5 p l e R s m args below meth c H locs cells slots mc ms (F0 m pc ls st0) rest (va_Qe ad post B A1 a) (vx_X px BX AX) free) (hS : va_S A0 H0 H locs) (hA : ∀ q, q < H.size → A1 q → A0 q) (hf : ∀ q, free q → A0 q) (hAX : ∀ q, q < H.size → AX q → A0 q)
    (kx : ∀ (E : String) (ce : Cell) (q9 : Addr) (u : SX) (t : State) (H1 : Heap) (locs1 : List Loc), t.heap = H1 → s.vm.Alike t.vm → px u → BX E u t → H.size ≤ H1.size → (∀ q : Nat, q < H.size → ¬ AX q → H1[q]? = H[q]?) → va_S A0 H0 H1 locs1 → H1[q9]? = some ce → ce.vm = .none → s.vm.findClass E = some ce.cls → vx_W p l e R s m args below meth c H1 locs1 (cells + mc) (slots + ms) Q (F0 m pc ls rest) q9)
    (kk : ∀ (r : Option Nat) (u : S) (t : State) (H1 : Heap) (locs1 : List Loc), t.heap = H1 → s.vm.Alike t.vm → post r u → B u t → H.size ≤ H1.size → (∀ q : Nat, q < H.size → ¬ A1 q → H1[q]? = H[q]?) → va_S A0 H0 H1 locs1 → W p l e R s m args below meth c H1 locs1 (cells + mc) (slots + ms) Q (F0 m (pc + 5) ls (va_re ad r :: rest))) : W p l e R s m args below meth c H locs cells slots Q (F0 m pc ls st0) := by
  intro T hT X
  rcases hr T hT X with ⟨v, st₀, t, T', L, h0, X', hL, e1, e2, ⟨⟨r, u, hv, hp, hb⟩, hF⟩, st⟩ | ⟨q, st₀, t, T', L, E, ce, h0, X', hL, e1, e2, ⟨u, hp, hb, hF⟩, hce, hcv, hcl, st⟩
  · cases hv
    obtain ⟨k1, k2, k3⟩ := vx_keep h0 e1 hS hA hf hL hF
    obtain ⟨t2, a1, b1⟩ := kk r u t T'.heap (locs ++ L) e1.symm (by rw [← e2]; exact X'.warmed.alike) hp hb k1 k2 k3 T' rfl X'
    exact ⟨t2, st t2 a1, b1⟩
  · obtain ⟨k1, k2, k3⟩ := vx_keep h0 e1 hS hAX hf hL hF
    obtain ⟨t2, a1, b1⟩ := kx E ce q u t T'.heap (locs ++ L) e1.symm (by rw [← e2]; exact X'.warmed.alike) hp hb k1 k2 k3 (by rw [e1]; exact hce) hcv hcl T' rfl X'
    exact ⟨t2, st.trans a1, b1⟩
end
/-! ===== END ===== -/
/-! ===== BEGIN what the machine throws by itself: null at a field, at athrow ===== -/
section VXM2
variable {p : Program} {l : Launch} {e : Env} {R : Room} {s : State} {m : MethodId} {args : Array Value} {below : List Frame} {meth : Method} {c : Code} {H : Heap} {locs : List Loc} {cells slots : Nat}
variable {Q : State → Prop} {cc : ByteArray} {pc : Nat} {ls : Array Slot} {rest : List Value}
theorem vx_getfN {D cl tys} {own ref C : String} {T : u_T} {N ci index : Nat} {Ts : List Cond} (hexec : p.tables.exec = Jvm.exec) (hb : c.code = cc) (hts : ∀ w ∈ Ts, w.before args s = true) (hin : ∀ w ∈ u_ws C T N, w ∈ Ts) (hown : s.vm.findClass own = some m.cls) (hK : va_K D cl tys s) (hc : cl[ci]? = some (C, T, N)) (k : Nat) (hk : k < N) (hlink : (Cond.fieldLink own index ref (T k).2.1 (T k).2.2.1).before args s = true) (hsame : ∀ x, s.fieldFound? (T k).1 (T k).2.1 (T k).2.2.1 = some x → s.fieldFound? ref (T k).2.1 (T k).2.2.1 = some x) (hdg : decode cc pc = .ok (.getfield index, 3)) (kk : vx_NoteN p l e R s m args below meth c H locs cells slots Q (F0 m pc ls rest)) : W p l e R s m args below meth c H locs cells slots Q (F0 m pc ls (.null :: rest)) := by
  obtain ⟨hS, hfc, kC, hkC, -⟩ := hK.1 ci _ hc
  obtain ⟨cf, kf, fi, f, hi, -⟩ := hS k hk
  intro U hU X
  obtain ⟨vm', X1, st1⟩ := X.getfieldNull hexec hown hlink (hsame _ hi) (u_facts hfc hkC (u_lays hts hin hk) hi).1 (g := F0 m pc ls (.null :: rest)) rfl (rest := rest) rfl (by rw [hb]; exact hdg)
  obtain ⟨t, st, q⟩ := kk (U.setVm vm') hU X1
  exact ⟨t, st1 t st, q⟩
theorem vx_getfNN {D cl tys} {own ref C host : String} {T : u_T} {N ci index : Nat} {Ts : List Cond} (hexec : p.tables.exec = Jvm.exec) (hb : c.code = cc) (hts : ∀ w ∈ Ts, w.before args s = true) (hin : ∀ w ∈ u_ws C T N, w ∈ Ts) (hown : s.vm.findClass own = some m.cls) (hK : va_K D cl tys s) (hc : cl[ci]? = some (C, T, N)) (k : Nat) (hk : k < N) (hlink : (Cond.fieldLinkNest own index ref (T k).2.1 (T k).2.2.1 host).before args s = true) (hsame : ∀ x, s.fieldFound? (T k).1 (T k).2.1 (T k).2.2.1 = some x → s.fieldFound? ref (T k).2.1 (T k).2.2.1 = some x) (hdg : decode cc pc = .ok (.getfield index, 3)) (kk : vx_NoteN p l e R s m args below meth c H locs cells slots Q (F0 m pc ls rest)) : W p l e R s m args below meth c H locs cells slots Q (F0 m pc ls (.null :: rest)) := by
  obtain ⟨hS, hfc, kC, hkC, -⟩ := hK.1 ci _ hc
  obtain ⟨cf, kf, fi, f, hi, -⟩ := hS k hk
  intro U hU X
  obtain ⟨vm', X1, st1⟩ := X.getfieldNullNest hexec hown hlink (hsame _ hi) (u_facts hfc hkC (u_lays hts hin hk) hi).1 (g := F0 m pc ls (.null :: rest)) rfl (rest := rest) rfl (by rw [hb]; exact hdg)
  obtain ⟨t, st, q⟩ := kk (U.setVm vm') hU X1
  exact ⟨t, st1 t st, q⟩
theorem vx_putfN {D cl tys} {own ref C : String} {T : u_T} {N ci index : Nat} {Ts : List Cond} (hexec : p.tables.exec = Jvm.exec) (hb : c.code = cc) (hts : ∀ w ∈ Ts, w.before args s = true) (hin : ∀ w ∈ u_ws C T N, w ∈ Ts) (hown : s.vm.findClass own = some m.cls) (hK : va_K D cl tys s) (hc : cl[ci]? = some (C, T, N)) (k : Nat) (hk : k < N) (hlink : (Cond.fieldLink own index ref (T k).2.1 (T k).2.2.1).before args s = true) (hsame : ∀ x, s.fieldFound? (T k).1 (T k).2.1 (T k).2.2.1 = some x → s.fieldFound? ref (T k).2.1 (T k).2.2.1 = some x) (hfin : (T k).2.2.2 = false) {v : Value} (hdg : decode cc pc = .ok (.putfield index, 3)) (kk : vx_NoteN p l e R s m args below meth c H locs cells slots Q (F0 m pc ls rest)) : W p l e R s m args below meth c H locs cells slots Q (F0 m pc ls (v :: .null :: rest)) := by
  obtain ⟨hS, hfc, kC, hkC, -⟩ := hK.1 ci _ hc
  obtain ⟨cf, kf, fi, f, hi, -⟩ := hS k hk
  have hlay := hts _ (hin _ (u_in_lay hk))
  unfold u_lay at hlay
  rw [if_neg (by rw [hfin]; decide)] at hlay
  obtain ⟨c9, k9, cf9, kf9, fi9, f9, -, -, hi9, hst9, hnf9, -⟩ := Cond.lays_spec hlay
  cases hi.symm.trans hi9
  intro U hU X
  obtain ⟨vm', X1, st1⟩ := X.putfieldNull hexec hown hlink (hsame _ hi) hst9 hnf9 (g := F0 m pc ls (v :: .null :: rest)) rfl (v := v) (rest := rest) rfl (by rw [hb]; exact hdg)
  obtain ⟨t, st, q⟩ := kk (U.setVm vm') hU X1
  exact ⟨t, st1 t st, q⟩
theorem vx_putfNN {D cl tys} {own ref C host : String} {T : u_T} {N ci index : Nat} {Ts : List Cond} (hexec : p.tables.exec = Jvm.exec) (hb : c.code = cc) (hts : ∀ w ∈ Ts, w.before args s = true) (hin : ∀ w ∈ u_ws C T N, w ∈ Ts) (hown : s.vm.findClass own = some m.cls) (hK : va_K D cl tys s) (hc : cl[ci]? = some (C, T, N)) (k : Nat) (hk : k < N) (hlink : (Cond.fieldLinkNest own index ref (T k).2.1 (T k).2.2.1 host).before args s = true) (hsame : ∀ x, s.fieldFound? (T k).1 (T k).2.1 (T k).2.2.1 = some x → s.fieldFound? ref (T k).2.1 (T k).2.2.1 = some x) (hfin : (T k).2.2.2 = false) {v : Value} (hdg : decode cc pc = .ok (.putfield index, 3)) (kk : vx_NoteN p l e R s m args below meth c H locs cells slots Q (F0 m pc ls rest)) : W p l e R s m args below meth c H locs cells slots Q (F0 m pc ls (v :: .null :: rest)) := by
  obtain ⟨hS, hfc, kC, hkC, -⟩ := hK.1 ci _ hc
  obtain ⟨cf, kf, fi, f, hi, -⟩ := hS k hk
  have hlay := hts _ (hin _ (u_in_lay hk))
  unfold u_lay at hlay
  rw [if_neg (by rw [hfin]; decide)] at hlay
  obtain ⟨c9, k9, cf9, kf9, fi9, f9, -, -, hi9, hst9, hnf9, -⟩ := Cond.lays_spec hlay
  cases hi.symm.trans hi9
  intro U hU X
  obtain ⟨vm', X1, st1⟩ := X.putfieldNullNest hexec hown hlink (hsame _ hi) hst9 hnf9 (g := F0 m pc ls (v :: .null :: rest)) rfl (v := v) (rest := rest) rfl (by rw [hb]; exact hdg)
  obtain ⟨t, st, q⟩ := kk (U.setVm vm') hU X1
  exact ⟨t, st1 t st, q⟩
theorem vx_athrowN (hexec : p.tables.exec = Jvm.exec) (hb : c.code = cc) (hdg : decode cc pc = .ok (.athrow, 1)) (k : vx_NoteN p l e R s m args below meth c H locs cells slots Q (F0 m pc ls rest)) : W p l e R s m args below meth c H locs cells slots Q (F0 m pc ls (.null :: rest)) := by
  intro T hT X
  obtain ⟨t, st, q⟩ := k T hT X
  exact ⟨t, X.athrowNull hexec (g := F0 m pc ls (.null :: rest)) rfl (rest := rest) rfl (by rw [hb]; exact hdg) t st, q⟩
end VXM2
/-! ===== END ===== -/
end
section
-- ===== PART A: goes FIRST, ahead of the names: the tables' words, and 'selects' of the private methods out of them =====
/-- a private method of a class that the tables say can be made, by its rows of tables_1 -/
def lw_okq (q : MethodName × Nat) : Prop := (q.1.cls ≠ "java/lang/invoke/MethodHandle" ∧ q.1.cls ≠ "java/lang/invoke/VarHandle") ∧ Cond.instantiable q.1.cls q.2 ∈ tables_1 ∧ Cond.privateMethod q.1 ∈ tables_1 ∧ Cond.instanceMethod q.1 ∈ tables_1
theorem lw_p0 : lw_okq (⟨"KnobEye$Reader", "hasRoom", "(I)Z"⟩, 9) := ⟨⟨by decide +kernel, by decide +kernel⟩, List.mem_of_getElem? (i := 140) (by decide +kernel), List.mem_of_getElem? (i := 364) (by decide +kernel), List.mem_of_getElem? (i := 365) (by decide +kernel)⟩
theorem lw_p1 : lw_okq (⟨"KnobEye$Reader", "add", "(I)V"⟩, 9) := ⟨⟨by decide +kernel, by decide +kernel⟩, List.mem_of_getElem? (i := 140) (by decide +kernel), List.mem_of_getElem? (i := 368) (by decide +kernel), List.mem_of_getElem? (i := 369) (by decide +kernel)⟩
theorem lw_p2 : lw_okq (⟨"KnobEye$Reader", "cut", "(I)Z"⟩, 9) := ⟨⟨by decide +kernel, by decide +kernel⟩, List.mem_of_getElem? (i := 140) (by decide +kernel), List.mem_of_getElem? (i := 376) (by decide +kernel), List.mem_of_getElem? (i := 377) (by decide +kernel)⟩
theorem lw_p3 : lw_okq (⟨"KnobEye", "forgetFound", "()V"⟩, 12) := ⟨⟨by decide +kernel, by decide +kernel⟩, List.mem_of_getElem? (i := 30) (by decide +kernel), List.mem_of_getElem? (i := 388) (by decide +kernel), List.mem_of_getElem? (i := 389) (by decide +kernel)⟩
theorem lw_p4 : lw_okq (⟨"KnobEye$State", "goingAlong", "(I)I"⟩, 11) := ⟨⟨by decide +kernel, by decide +kernel⟩, List.mem_of_getElem? (i := 38) (by decide +kernel), List.mem_of_getElem? (i := 396) (by decide +kernel), List.mem_of_getElem? (i := 397) (by decide +kernel)⟩
theorem lw_p5 : lw_okq (⟨"KnobEye$State", "eyesSayingYes", "(I)I"⟩, 11) := ⟨⟨by decide +kernel, by decide +kernel⟩, List.mem_of_getElem? (i := 38) (by decide +kernel), List.mem_of_getElem? (i := 407) (by decide +kernel), List.mem_of_getElem? (i := 408) (by decide +kernel)⟩
theorem lw_p6 : lw_okq (⟨"KnobEye$Eye", "says", "(I)Z"⟩, 8) := ⟨⟨by decide +kernel, by decide +kernel⟩, List.mem_of_getElem? (i := 51) (by decide +kernel), List.mem_of_getElem? (i := 411) (by decide +kernel), List.mem_of_getElem? (i := 412) (by decide +kernel)⟩
theorem lw_p7 : lw_okq (⟨"KnobEye$Eye", "sumWith", "([II)I"⟩, 8) := ⟨⟨by decide +kernel, by decide +kernel⟩, List.mem_of_getElem? (i := 51) (by decide +kernel), List.mem_of_getElem? (i := 415) (by decide +kernel), List.mem_of_getElem? (i := 416) (by decide +kernel)⟩
theorem lw_p8 : lw_okq (⟨"KnobEye$Eye", "valueOf", "(II)I"⟩, 8) := ⟨⟨by decide +kernel, by decide +kernel⟩, List.mem_of_getElem? (i := 51) (by decide +kernel), List.mem_of_getElem? (i := 419) (by decide +kernel), List.mem_of_getElem? (i := 420) (by decide +kernel)⟩
theorem lw_p9 : lw_okq (⟨"KnobEye$State", "takeFrom", "(LKnobEye$State;)V"⟩, 11) := ⟨⟨by decide +kernel, by decide +kernel⟩, List.mem_of_getElem? (i := 38) (by decide +kernel), List.mem_of_getElem? (i := 433) (by decide +kernel), List.mem_of_getElem? (i := 434) (by decide +kernel)⟩
theorem lw_p10 : lw_okq (⟨"KnobEye$Eye", "takeFrom", "(LKnobEye$Eye;)V"⟩, 8) := ⟨⟨by decide +kernel, by decide +kernel⟩, List.mem_of_getElem? (i := 51) (by decide +kernel), List.mem_of_getElem? (i := 437) (by decide +kernel), List.mem_of_getElem? (i := 438) (by decide +kernel)⟩
theorem lw_p11 : lw_okq (⟨"KnobEye$State", "yesCards", "()I"⟩, 11) := ⟨⟨by decide +kernel, by decide +kernel⟩, List.mem_of_getElem? (i := 38) (by decide +kernel), List.mem_of_getElem? (i := 449) (by decide +kernel), List.mem_of_getElem? (i := 450) (by decide +kernel)⟩
theorem lw_p12 : lw_okq (⟨"KnobEye", "isTrueNow", "(LKnobEye$Claim;)Z"⟩, 12) := ⟨⟨by decide +kernel, by decide +kernel⟩, List.mem_of_getElem? (i := 30) (by decide +kernel), List.mem_of_getElem? (i := 453) (by decide +kernel), List.mem_of_getElem? (i := 454) (by decide +kernel)⟩
theorem lw_p13 : lw_okq (⟨"KnobEye", "needEye", "(I)LKnobEye$Eye;"⟩, 12) := ⟨⟨by decide +kernel, by decide +kernel⟩, List.mem_of_getElem? (i := 30) (by decide +kernel), List.mem_of_getElem? (i := 457) (by decide +kernel), List.mem_of_getElem? (i := 458) (by decide +kernel)⟩
theorem lw_p14 : lw_okq (⟨"java/lang/Throwable", "fillInStackTrace", "(I)Ljava/lang/Throwable;"⟩, 6) := ⟨⟨by decide +kernel, by decide +kernel⟩, List.mem_of_getElem? (i := 500) (by decide +kernel), List.mem_of_getElem? (i := 498) (by decide +kernel), List.mem_of_getElem? (i := 499) (by decide +kernel)⟩
theorem lw_p15 : lw_okq (⟨"KnobEye", "needRule", "(I)LKnobEye$Rule;"⟩, 12) := ⟨⟨by decide +kernel, by decide +kernel⟩, List.mem_of_getElem? (i := 30) (by decide +kernel), List.mem_of_getElem? (i := 525) (by decide +kernel), List.mem_of_getElem? (i := 526) (by decide +kernel)⟩
def lw_privs_1 : List (MethodName × Nat) := [(⟨"KnobEye$Reader", "hasRoom", "(I)Z"⟩, 9), (⟨"KnobEye$Reader", "add", "(I)V"⟩, 9), (⟨"KnobEye$Reader", "cut", "(I)Z"⟩, 9), (⟨"KnobEye", "forgetFound", "()V"⟩, 12), (⟨"KnobEye$State", "goingAlong", "(I)I"⟩, 11), (⟨"KnobEye$State", "eyesSayingYes", "(I)I"⟩, 11), (⟨"KnobEye$Eye", "says", "(I)Z"⟩, 8), (⟨"KnobEye$Eye", "sumWith", "([II)I"⟩, 8), (⟨"KnobEye$Eye", "valueOf", "(II)I"⟩, 8), (⟨"KnobEye$State", "takeFrom", "(LKnobEye$State;)V"⟩, 11), (⟨"KnobEye$Eye", "takeFrom", "(LKnobEye$Eye;)V"⟩, 8), (⟨"KnobEye$State", "yesCards", "()I"⟩, 11), (⟨"KnobEye", "isTrueNow", "(LKnobEye$Claim;)Z"⟩, 12), (⟨"KnobEye", "needEye", "(I)LKnobEye$Eye;"⟩, 12), (⟨"java/lang/Throwable", "fillInStackTrace", "(I)Ljava/lang/Throwable;"⟩, 6), (⟨"KnobEye", "needRule", "(I)LKnobEye$Rule;"⟩, 12)]
theorem lw_r1 : ∀ q ∈ lw_privs_1, lw_okq q := List.forall_mem_cons.mpr ⟨lw_p0, List.forall_mem_cons.mpr ⟨lw_p1, List.forall_mem_cons.mpr ⟨lw_p2, List.forall_mem_cons.mpr ⟨lw_p3, List.forall_mem_cons.mpr ⟨lw_p4, List.forall_mem_cons.mpr ⟨lw_p5, List.forall_mem_cons.mpr ⟨lw_p6, List.forall_mem_cons.mpr ⟨lw_p7, List.forall_mem_cons.mpr ⟨lw_p8, List.forall_mem_cons.mpr ⟨lw_p9, List.forall_mem_cons.mpr ⟨lw_p10, List.forall_mem_cons.mpr ⟨lw_p11, List.forall_mem_cons.mpr ⟨lw_p12, List.forall_mem_cons.mpr ⟨lw_p13, List.forall_mem_cons.mpr ⟨lw_p14, List.forall_mem_cons.mpr ⟨lw_p15, fun _ h => absurd h List.not_mem_nil⟩⟩⟩⟩⟩⟩⟩⟩⟩⟩⟩⟩⟩⟩⟩⟩
theorem lw_p16 : lw_okq (⟨"KnobEye", "rightOfAll", "(LKnobEye$Eye;LKnobEye$Rule;I)I"⟩, 12) := ⟨⟨by decide +kernel, by decide +kernel⟩, List.mem_of_getElem? (i := 30) (by decide +kernel), List.mem_of_getElem? (i := 529) (by decide +kernel), List.mem_of_getElem? (i := 530) (by decide +kernel)⟩
theorem lw_p17 : lw_okq (⟨"KnobEye$Rule", "makeReady", "(LKnobEye$Facts;)V"⟩, 2) := ⟨⟨by decide +kernel, by decide +kernel⟩, List.mem_of_getElem? (i := 535) (by decide +kernel), List.mem_of_getElem? (i := 533) (by decide +kernel), List.mem_of_getElem? (i := 534) (by decide +kernel)⟩
theorem lw_p18 : lw_okq (⟨"KnobEye$Node", "isTrue", "(LKnobEye$Facts;I)Z"⟩, 6) := ⟨⟨by decide +kernel, by decide +kernel⟩, List.mem_of_getElem? (i := 541) (by decide +kernel), List.mem_of_getElem? (i := 539) (by decide +kernel), List.mem_of_getElem? (i := 540) (by decide +kernel)⟩
theorem lw_p19 : lw_okq (⟨"KnobEye$Facts", "isSo", "(LKnobEye$Word;I)Z"⟩, 12) := ⟨⟨by decide +kernel, by decide +kernel⟩, List.mem_of_getElem? (i := 180) (by decide +kernel), List.mem_of_getElem? (i := 544) (by decide +kernel), List.mem_of_getElem? (i := 545) (by decide +kernel)⟩
theorem lw_p20 : lw_okq (⟨"KnobEye$Facts", "sumOf", "(LKnobEye$Node;)J"⟩, 12) := ⟨⟨by decide +kernel, by decide +kernel⟩, List.mem_of_getElem? (i := 180) (by decide +kernel), List.mem_of_getElem? (i := 562) (by decide +kernel), List.mem_of_getElem? (i := 563) (by decide +kernel)⟩
theorem lw_p21 : lw_okq (⟨"KnobEye$Facts", "numberOf", "(LKnobEye$Word;)J"⟩, 12) := ⟨⟨by decide +kernel, by decide +kernel⟩, List.mem_of_getElem? (i := 180) (by decide +kernel), List.mem_of_getElem? (i := 566) (by decide +kernel), List.mem_of_getElem? (i := 567) (by decide +kernel)⟩
theorem lw_p22 : lw_okq (⟨"KnobEye$Rule", "tells", "(ILKnobEye$Facts;)Z"⟩, 2) := ⟨⟨by decide +kernel, by decide +kernel⟩, List.mem_of_getElem? (i := 535) (by decide +kernel), List.mem_of_getElem? (i := 578) (by decide +kernel), List.mem_of_getElem? (i := 579) (by decide +kernel)⟩
theorem lw_p23 : lw_okq (⟨"KnobEye$State", "rightCards", "(LKnobEye$Eye;)I"⟩, 11) := ⟨⟨by decide +kernel, by decide +kernel⟩, List.mem_of_getElem? (i := 38) (by decide +kernel), List.mem_of_getElem? (i := 582) (by decide +kernel), List.mem_of_getElem? (i := 583) (by decide +kernel)⟩
theorem lw_p24 : lw_okq (⟨"KnobEye$Eye", "knobsTogether", "()I"⟩, 8) := ⟨⟨by decide +kernel, by decide +kernel⟩, List.mem_of_getElem? (i := 51) (by decide +kernel), List.mem_of_getElem? (i := 586) (by decide +kernel), List.mem_of_getElem? (i := 587) (by decide +kernel)⟩
theorem lw_p25 : lw_okq (⟨"KnobEye$State", "blindPair", "(LKnobEye$Eye;)I"⟩, 11) := ⟨⟨by decide +kernel, by decide +kernel⟩, List.mem_of_getElem? (i := 38) (by decide +kernel), List.mem_of_getElem? (i := 593) (by decide +kernel), List.mem_of_getElem? (i := 594) (by decide +kernel)⟩
theorem lw_p26 : lw_okq (⟨"KnobEye$Eye", "valuesOf", "(I)I"⟩, 8) := ⟨⟨by decide +kernel, by decide +kernel⟩, List.mem_of_getElem? (i := 51) (by decide +kernel), List.mem_of_getElem? (i := 597) (by decide +kernel), List.mem_of_getElem? (i := 598) (by decide +kernel)⟩
theorem lw_p27 : lw_okq (⟨"KnobEye$State", "wiresInAll", "()I"⟩, 11) := ⟨⟨by decide +kernel, by decide +kernel⟩, List.mem_of_getElem? (i := 38) (by decide +kernel), List.mem_of_getElem? (i := 602) (by decide +kernel), List.mem_of_getElem? (i := 603) (by decide +kernel)⟩
theorem lw_p28 : lw_okq (⟨"KnobEye$Reader", "takeCondition", "(I)LKnobEye$Node;"⟩, 9) := ⟨⟨by decide +kernel, by decide +kernel⟩, List.mem_of_getElem? (i := 140) (by decide +kernel), List.mem_of_getElem? (i := 616) (by decide +kernel), List.mem_of_getElem? (i := 617) (by decide +kernel)⟩
theorem lw_p29 : lw_okq (⟨"KnobEye$Reader", "split", "(I)V"⟩, 9) := ⟨⟨by decide +kernel, by decide +kernel⟩, List.mem_of_getElem? (i := 140) (by decide +kernel), List.mem_of_getElem? (i := 620) (by decide +kernel), List.mem_of_getElem? (i := 621) (by decide +kernel)⟩
theorem lw_p30 : lw_okq (⟨"KnobEye$Reader", "goesOn", "(I)Z"⟩, 9) := ⟨⟨by decide +kernel, by decide +kernel⟩, List.mem_of_getElem? (i := 140) (by decide +kernel), List.mem_of_getElem? (i := 624) (by decide +kernel), List.mem_of_getElem? (i := 625) (by decide +kernel)⟩
theorem lw_p31 : lw_okq (⟨"KnobEye$Reader", "endOf", "(I)I"⟩, 9) := ⟨⟨by decide +kernel, by decide +kernel⟩, List.mem_of_getElem? (i := 140) (by decide +kernel), List.mem_of_getElem? (i := 634) (by decide +kernel), List.mem_of_getElem? (i := 635) (by decide +kernel)⟩
def lw_privs_2 : List (MethodName × Nat) := [(⟨"KnobEye", "rightOfAll", "(LKnobEye$Eye;LKnobEye$Rule;I)I"⟩, 12), (⟨"KnobEye$Rule", "makeReady", "(LKnobEye$Facts;)V"⟩, 2), (⟨"KnobEye$Node", "isTrue", "(LKnobEye$Facts;I)Z"⟩, 6), (⟨"KnobEye$Facts", "isSo", "(LKnobEye$Word;I)Z"⟩, 12), (⟨"KnobEye$Facts", "sumOf", "(LKnobEye$Node;)J"⟩, 12), (⟨"KnobEye$Facts", "numberOf", "(LKnobEye$Word;)J"⟩, 12), (⟨"KnobEye$Rule", "tells", "(ILKnobEye$Facts;)Z"⟩, 2), (⟨"KnobEye$State", "rightCards", "(LKnobEye$Eye;)I"⟩, 11), (⟨"KnobEye$Eye", "knobsTogether", "()I"⟩, 8), (⟨"KnobEye$State", "blindPair", "(LKnobEye$Eye;)I"⟩, 11), (⟨"KnobEye$Eye", "valuesOf", "(I)I"⟩, 8), (⟨"KnobEye$State", "wiresInAll", "()I"⟩, 11), (⟨"KnobEye$Reader", "takeCondition", "(I)LKnobEye$Node;"⟩, 9), (⟨"KnobEye$Reader", "split", "(I)V"⟩, 9), (⟨"KnobEye$Reader", "goesOn", "(I)Z"⟩, 9), (⟨"KnobEye$Reader", "endOf", "(I)I"⟩, 9)]
theorem lw_r2 : ∀ q ∈ lw_privs_2, lw_okq q := List.forall_mem_cons.mpr ⟨lw_p16, List.forall_mem_cons.mpr ⟨lw_p17, List.forall_mem_cons.mpr ⟨lw_p18, List.forall_mem_cons.mpr ⟨lw_p19, List.forall_mem_cons.mpr ⟨lw_p20, List.forall_mem_cons.mpr ⟨lw_p21, List.forall_mem_cons.mpr ⟨lw_p22, List.forall_mem_cons.mpr ⟨lw_p23, List.forall_mem_cons.mpr ⟨lw_p24, List.forall_mem_cons.mpr ⟨lw_p25, List.forall_mem_cons.mpr ⟨lw_p26, List.forall_mem_cons.mpr ⟨lw_p27, List.forall_mem_cons.mpr ⟨lw_p28, List.forall_mem_cons.mpr ⟨lw_p29, List.forall_mem_cons.mpr ⟨lw_p30, List.forall_mem_cons.mpr ⟨lw_p31, fun _ h => absurd h List.not_mem_nil⟩⟩⟩⟩⟩⟩⟩⟩⟩⟩⟩⟩⟩⟩⟩⟩
theorem lw_p32 : lw_okq (⟨"KnobEye$Reader", "wordOf", "(III)LKnobEye$Word;"⟩, 9) := ⟨⟨by decide +kernel, by decide +kernel⟩, List.mem_of_getElem? (i := 140) (by decide +kernel), List.mem_of_getElem? (i := 638) (by decide +kernel), List.mem_of_getElem? (i := 639) (by decide +kernel)⟩
theorem lw_p33 : lw_okq (⟨"KnobEye$Reader", "isText", "(Ljava/lang/String;II)Z"⟩, 9) := ⟨⟨by decide +kernel, by decide +kernel⟩, List.mem_of_getElem? (i := 140) (by decide +kernel), List.mem_of_getElem? (i := 646) (by decide +kernel), List.mem_of_getElem? (i := 647) (by decide +kernel)⟩
theorem lw_p34 : lw_okq (⟨"KnobEye$Reader", "numberOf", "(II)I"⟩, 9) := ⟨⟨by decide +kernel, by decide +kernel⟩, List.mem_of_getElem? (i := 140) (by decide +kernel), List.mem_of_getElem? (i := 700) (by decide +kernel), List.mem_of_getElem? (i := 701) (by decide +kernel)⟩
theorem lw_p35 : lw_okq (⟨"KnobEye$Reader", "readGroup", "(II)LKnobEye$Node;"⟩, 9) := ⟨⟨by decide +kernel, by decide +kernel⟩, List.mem_of_getElem? (i := 140) (by decide +kernel), List.mem_of_getElem? (i := 706) (by decide +kernel), List.mem_of_getElem? (i := 707) (by decide +kernel)⟩
theorem lw_p36 : lw_okq (⟨"KnobEye$Reader", "fail", "()LKnobEye$Node;"⟩, 9) := ⟨⟨by decide +kernel, by decide +kernel⟩, List.mem_of_getElem? (i := 140) (by decide +kernel), List.mem_of_getElem? (i := 710) (by decide +kernel), List.mem_of_getElem? (i := 711) (by decide +kernel)⟩
theorem lw_p37 : lw_okq (⟨"KnobEye$Reader", "readAtom", "(I)LKnobEye$Node;"⟩, 9) := ⟨⟨by decide +kernel, by decide +kernel⟩, List.mem_of_getElem? (i := 140) (by decide +kernel), List.mem_of_getElem? (i := 746) (by decide +kernel), List.mem_of_getElem? (i := 747) (by decide +kernel)⟩
theorem lw_p38 : lw_okq (⟨"KnobEye$Reader", "is", "(LKnobEye$Word;)Z"⟩, 9) := ⟨⟨by decide +kernel, by decide +kernel⟩, List.mem_of_getElem? (i := 140) (by decide +kernel), List.mem_of_getElem? (i := 752) (by decide +kernel), List.mem_of_getElem? (i := 753) (by decide +kernel)⟩
theorem lw_p39 : lw_okq (⟨"KnobEye$Reader", "wordHere", "(I)LKnobEye$Word;"⟩, 9) := ⟨⟨by decide +kernel, by decide +kernel⟩, List.mem_of_getElem? (i := 140) (by decide +kernel), List.mem_of_getElem? (i := 758) (by decide +kernel), List.mem_of_getElem? (i := 759) (by decide +kernel)⟩
theorem lw_p40 : lw_okq (⟨"KnobEye$Reader", "readComparison", "()LKnobEye$Node;"⟩, 9) := ⟨⟨by decide +kernel, by decide +kernel⟩, List.mem_of_getElem? (i := 140) (by decide +kernel), List.mem_of_getElem? (i := 762) (by decide +kernel), List.mem_of_getElem? (i := 763) (by decide +kernel)⟩
theorem lw_p41 : lw_okq (⟨"KnobEye$Reader", "readSum", "()LKnobEye$Node;"⟩, 9) := ⟨⟨by decide +kernel, by decide +kernel⟩, List.mem_of_getElem? (i := 140) (by decide +kernel), List.mem_of_getElem? (i := 766) (by decide +kernel), List.mem_of_getElem? (i := 767) (by decide +kernel)⟩
theorem lw_p42 : lw_okq (⟨"KnobEye$Reader", "readTag", "()LKnobEye$Node;"⟩, 9) := ⟨⟨by decide +kernel, by decide +kernel⟩, List.mem_of_getElem? (i := 140) (by decide +kernel), List.mem_of_getElem? (i := 780) (by decide +kernel), List.mem_of_getElem? (i := 781) (by decide +kernel)⟩
theorem lw_p43 : lw_okq (⟨"KnobEye$Reader", "takeNumber", "(I)I"⟩, 9) := ⟨⟨by decide +kernel, by decide +kernel⟩, List.mem_of_getElem? (i := 140) (by decide +kernel), List.mem_of_getElem? (i := 786) (by decide +kernel), List.mem_of_getElem? (i := 787) (by decide +kernel)⟩
theorem lw_p44 : lw_okq (⟨"KnobEye$Reader", "takeTurner", "()LKnobEye$Turner;"⟩, 9) := ⟨⟨by decide +kernel, by decide +kernel⟩, List.mem_of_getElem? (i := 140) (by decide +kernel), List.mem_of_getElem? (i := 845) (by decide +kernel), List.mem_of_getElem? (i := 846) (by decide +kernel)⟩
theorem lw_p45 : lw_okq (⟨"KnobEye$Reader", "readLine", "(LKnobEye$Turner;)V"⟩, 9) := ⟨⟨by decide +kernel, by decide +kernel⟩, List.mem_of_getElem? (i := 140) (by decide +kernel), List.mem_of_getElem? (i := 871) (by decide +kernel), List.mem_of_getElem? (i := 872) (by decide +kernel)⟩
theorem lw_p46 : lw_okq (⟨"KnobEye$Turner", "add", "(ZILKnobEye$Node;)V"⟩, 4) := ⟨⟨by decide +kernel, by decide +kernel⟩, List.mem_of_getElem? (i := 849) (by decide +kernel), List.mem_of_getElem? (i := 881) (by decide +kernel), List.mem_of_getElem? (i := 882) (by decide +kernel)⟩
theorem lw_p47 : lw_okq (⟨"KnobEye", "putCard", "(IZ)I"⟩, 12) := ⟨⟨by decide +kernel, by decide +kernel⟩, List.mem_of_getElem? (i := 30) (by decide +kernel), List.mem_of_getElem? (i := 935) (by decide +kernel), List.mem_of_getElem? (i := 936) (by decide +kernel)⟩
def lw_privs_3 : List (MethodName × Nat) := [(⟨"KnobEye$Reader", "wordOf", "(III)LKnobEye$Word;"⟩, 9), (⟨"KnobEye$Reader", "isText", "(Ljava/lang/String;II)Z"⟩, 9), (⟨"KnobEye$Reader", "numberOf", "(II)I"⟩, 9), (⟨"KnobEye$Reader", "readGroup", "(II)LKnobEye$Node;"⟩, 9), (⟨"KnobEye$Reader", "fail", "()LKnobEye$Node;"⟩, 9), (⟨"KnobEye$Reader", "readAtom", "(I)LKnobEye$Node;"⟩, 9), (⟨"KnobEye$Reader", "is", "(LKnobEye$Word;)Z"⟩, 9), (⟨"KnobEye$Reader", "wordHere", "(I)LKnobEye$Word;"⟩, 9), (⟨"KnobEye$Reader", "readComparison", "()LKnobEye$Node;"⟩, 9), (⟨"KnobEye$Reader", "readSum", "()LKnobEye$Node;"⟩, 9), (⟨"KnobEye$Reader", "readTag", "()LKnobEye$Node;"⟩, 9), (⟨"KnobEye$Reader", "takeNumber", "(I)I"⟩, 9), (⟨"KnobEye$Reader", "takeTurner", "()LKnobEye$Turner;"⟩, 9), (⟨"KnobEye$Reader", "readLine", "(LKnobEye$Turner;)V"⟩, 9), (⟨"KnobEye$Turner", "add", "(ZILKnobEye$Node;)V"⟩, 4), (⟨"KnobEye", "putCard", "(IZ)I"⟩, 12)]
theorem lw_r3 : ∀ q ∈ lw_privs_3, lw_okq q := List.forall_mem_cons.mpr ⟨lw_p32, List.forall_mem_cons.mpr ⟨lw_p33, List.forall_mem_cons.mpr ⟨lw_p34, List.forall_mem_cons.mpr ⟨lw_p35, List.forall_mem_cons.mpr ⟨lw_p36, List.forall_mem_cons.mpr ⟨lw_p37, List.forall_mem_cons.mpr ⟨lw_p38, List.forall_mem_cons.mpr ⟨lw_p39, List.forall_mem_cons.mpr ⟨lw_p40, List.forall_mem_cons.mpr ⟨lw_p41, List.forall_mem_cons.mpr ⟨lw_p42, List.forall_mem_cons.mpr ⟨lw_p43, List.forall_mem_cons.mpr ⟨lw_p44, List.forall_mem_cons.mpr ⟨lw_p45, List.forall_mem_cons.mpr ⟨lw_p46, List.forall_mem_cons.mpr ⟨lw_p47, fun _ h => absurd h List.not_mem_nil⟩⟩⟩⟩⟩⟩⟩⟩⟩⟩⟩⟩⟩⟩⟩⟩
theorem lw_p48 : lw_okq (⟨"KnobEye$Eye", "join", "(II)V"⟩, 8) := ⟨⟨by decide +kernel, by decide +kernel⟩, List.mem_of_getElem? (i := 51) (by decide +kernel), List.mem_of_getElem? (i := 960) (by decide +kernel), List.mem_of_getElem? (i := 961) (by decide +kernel)⟩
theorem lw_p49 : lw_okq (⟨"KnobEye$Eye", "setLine", "(I)Z"⟩, 8) := ⟨⟨by decide +kernel, by decide +kernel⟩, List.mem_of_getElem? (i := 51) (by decide +kernel), List.mem_of_getElem? (i := 974) (by decide +kernel), List.mem_of_getElem? (i := 975) (by decide +kernel)⟩
theorem lw_p50 : lw_okq (⟨"KnobEye$Eye", "setKnob", "(II)Z"⟩, 8) := ⟨⟨by decide +kernel, by decide +kernel⟩, List.mem_of_getElem? (i := 51) (by decide +kernel), List.mem_of_getElem? (i := 978) (by decide +kernel), List.mem_of_getElem? (i := 979) (by decide +kernel)⟩
theorem lw_p51 : lw_okq (⟨"KnobEye$Eye", "near", "()I"⟩, 8) := ⟨⟨by decide +kernel, by decide +kernel⟩, List.mem_of_getElem? (i := 51) (by decide +kernel), List.mem_of_getElem? (i := 997) (by decide +kernel), List.mem_of_getElem? (i := 998) (by decide +kernel)⟩
theorem lw_p52 : lw_okq (⟨"KnobEye$Eye", "sum", "(I)I"⟩, 8) := ⟨⟨by decide +kernel, by decide +kernel⟩, List.mem_of_getElem? (i := 51) (by decide +kernel), List.mem_of_getElem? (i := 1030) (by decide +kernel), List.mem_of_getElem? (i := 1031) (by decide +kernel)⟩
theorem lw_p53 : lw_okq (⟨"KnobEye", "needTurner", "(I)LKnobEye$Turner;"⟩, 12) := ⟨⟨by decide +kernel, by decide +kernel⟩, List.mem_of_getElem? (i := 30) (by decide +kernel), List.mem_of_getElem? (i := 1041) (by decide +kernel), List.mem_of_getElem? (i := 1042) (by decide +kernel)⟩
theorem lw_p54 : lw_okq (⟨"KnobEye$Eye", "turnBy", "(IZLKnobEye$Turner;LKnobEye$Facts;)Z"⟩, 8) := ⟨⟨by decide +kernel, by decide +kernel⟩, List.mem_of_getElem? (i := 51) (by decide +kernel), List.mem_of_getElem? (i := 1045) (by decide +kernel), List.mem_of_getElem? (i := 1046) (by decide +kernel)⟩
theorem lw_p55 : lw_okq (⟨"KnobEye$Eye", "isStuck", "(I)Z"⟩, 8) := ⟨⟨by decide +kernel, by decide +kernel⟩, List.mem_of_getElem? (i := 51) (by decide +kernel), List.mem_of_getElem? (i := 1050) (by decide +kernel), List.mem_of_getElem? (i := 1051) (by decide +kernel)⟩
theorem lw_p56 : lw_okq (⟨"KnobEye$Turner", "numberBy", "(ZLKnobEye$Facts;)I"⟩, 4) := ⟨⟨by decide +kernel, by decide +kernel⟩, List.mem_of_getElem? (i := 849) (by decide +kernel), List.mem_of_getElem? (i := 1054) (by decide +kernel), List.mem_of_getElem? (i := 1055) (by decide +kernel)⟩
theorem lw_p57 : lw_okq (⟨"KnobEye$Eye", "fall", "()V"⟩, 8) := ⟨⟨by decide +kernel, by decide +kernel⟩, List.mem_of_getElem? (i := 51) (by decide +kernel), List.mem_of_getElem? (i := 1065) (by decide +kernel), List.mem_of_getElem? (i := 1066) (by decide +kernel)⟩
theorem lw_p58 : lw_okq (⟨"KnobEye", "findLeast", "(II)V"⟩, 12) := ⟨⟨by decide +kernel, by decide +kernel⟩, List.mem_of_getElem? (i := 30) (by decide +kernel), List.mem_of_getElem? (i := 1086) (by decide +kernel), List.mem_of_getElem? (i := 1087) (by decide +kernel)⟩
theorem lw_p59 : lw_okq (⟨"KnobEye$Search", "leastOf", "(LKnobEye$Eye;LKnobEye$State;I)V"⟩, 18) := ⟨⟨by decide +kernel, by decide +kernel⟩, List.mem_of_getElem? (i := 236) (by decide +kernel), List.mem_of_getElem? (i := 1090) (by decide +kernel), List.mem_of_getElem? (i := 1091) (by decide +kernel)⟩
theorem lw_p60 : lw_okq (⟨"KnobEye$Search", "begin", "(LKnobEye$Eye;LKnobEye$State;II)V"⟩, 18) := ⟨⟨by decide +kernel, by decide +kernel⟩, List.mem_of_getElem? (i := 236) (by decide +kernel), List.mem_of_getElem? (i := 1094) (by decide +kernel), List.mem_of_getElem? (i := 1095) (by decide +kernel)⟩
theorem lw_p61 : lw_okq (⟨"KnobEye$Search", "addColumn", "(LKnobEye$Eye;II)V"⟩, 18) := ⟨⟨by decide +kernel, by decide +kernel⟩, List.mem_of_getElem? (i := 236) (by decide +kernel), List.mem_of_getElem? (i := 1098) (by decide +kernel), List.mem_of_getElem? (i := 1099) (by decide +kernel)⟩
theorem lw_p62 : lw_okq (⟨"KnobEye$Search", "run", "()V"⟩, 18) := ⟨⟨by decide +kernel, by decide +kernel⟩, List.mem_of_getElem? (i := 236) (by decide +kernel), List.mem_of_getElem? (i := 1104) (by decide +kernel), List.mem_of_getElem? (i := 1105) (by decide +kernel)⟩
theorem lw_p63 : lw_okq (⟨"KnobEye$Search", "choose", "(II)V"⟩, 18) := ⟨⟨by decide +kernel, by decide +kernel⟩, List.mem_of_getElem? (i := 236) (by decide +kernel), List.mem_of_getElem? (i := 1109) (by decide +kernel), List.mem_of_getElem? (i := 1110) (by decide +kernel)⟩
def lw_privs_4 : List (MethodName × Nat) := [(⟨"KnobEye$Eye", "join", "(II)V"⟩, 8), (⟨"KnobEye$Eye", "setLine", "(I)Z"⟩, 8), (⟨"KnobEye$Eye", "setKnob", "(II)Z"⟩, 8), (⟨"KnobEye$Eye", "near", "()I"⟩, 8), (⟨"KnobEye$Eye", "sum", "(I)I"⟩, 8), (⟨"KnobEye", "needTurner", "(I)LKnobEye$Turner;"⟩, 12), (⟨"KnobEye$Eye", "turnBy", "(IZLKnobEye$Turner;LKnobEye$Facts;)Z"⟩, 8), (⟨"KnobEye$Eye", "isStuck", "(I)Z"⟩, 8), (⟨"KnobEye$Turner", "numberBy", "(ZLKnobEye$Facts;)I"⟩, 4), (⟨"KnobEye$Eye", "fall", "()V"⟩, 8), (⟨"KnobEye", "findLeast", "(II)V"⟩, 12), (⟨"KnobEye$Search", "leastOf", "(LKnobEye$Eye;LKnobEye$State;I)V"⟩, 18), (⟨"KnobEye$Search", "begin", "(LKnobEye$Eye;LKnobEye$State;II)V"⟩, 18), (⟨"KnobEye$Search", "addColumn", "(LKnobEye$Eye;II)V"⟩, 18), (⟨"KnobEye$Search", "run", "()V"⟩, 18), (⟨"KnobEye$Search", "choose", "(II)V"⟩, 18)]
theorem lw_r4 : ∀ q ∈ lw_privs_4, lw_okq q := List.forall_mem_cons.mpr ⟨lw_p48, List.forall_mem_cons.mpr ⟨lw_p49, List.forall_mem_cons.mpr ⟨lw_p50, List.forall_mem_cons.mpr ⟨lw_p51, List.forall_mem_cons.mpr ⟨lw_p52, List.forall_mem_cons.mpr ⟨lw_p53, List.forall_mem_cons.mpr ⟨lw_p54, List.forall_mem_cons.mpr ⟨lw_p55, List.forall_mem_cons.mpr ⟨lw_p56, List.forall_mem_cons.mpr ⟨lw_p57, List.forall_mem_cons.mpr ⟨lw_p58, List.forall_mem_cons.mpr ⟨lw_p59, List.forall_mem_cons.mpr ⟨lw_p60, List.forall_mem_cons.mpr ⟨lw_p61, List.forall_mem_cons.mpr ⟨lw_p62, List.forall_mem_cons.mpr ⟨lw_p63, fun _ h => absurd h List.not_mem_nil⟩⟩⟩⟩⟩⟩⟩⟩⟩⟩⟩⟩⟩⟩⟩⟩
theorem lw_p64 : lw_okq (⟨"KnobEye$Search", "take", "(I)V"⟩, 18) := ⟨⟨by decide +kernel, by decide +kernel⟩, List.mem_of_getElem? (i := 236) (by decide +kernel), List.mem_of_getElem? (i := 1113) (by decide +kernel), List.mem_of_getElem? (i := 1114) (by decide +kernel)⟩
theorem lw_p65 : lw_okq (⟨"KnobEye$Search", "countLines", "()V"⟩, 18) := ⟨⟨by decide +kernel, by decide +kernel⟩, List.mem_of_getElem? (i := 236) (by decide +kernel), List.mem_of_getElem? (i := 1117) (by decide +kernel), List.mem_of_getElem? (i := 1118) (by decide +kernel)⟩
theorem lw_p66 : lw_okq (⟨"KnobEye$Search", "addsUp", "(II)Z"⟩, 18) := ⟨⟨by decide +kernel, by decide +kernel⟩, List.mem_of_getElem? (i := 236) (by decide +kernel), List.mem_of_getElem? (i := 1123) (by decide +kernel), List.mem_of_getElem? (i := 1124) (by decide +kernel)⟩
theorem lw_p67 : lw_okq (⟨"KnobEye", "lineFound", "(LKnobEye$Eye;)I"⟩, 12) := ⟨⟨by decide +kernel, by decide +kernel⟩, List.mem_of_getElem? (i := 30) (by decide +kernel), List.mem_of_getElem? (i := 1134) (by decide +kernel), List.mem_of_getElem? (i := 1135) (by decide +kernel)⟩
theorem lw_p68 : lw_okq (⟨"KnobEye$Search", "first", "(LKnobEye$Eye;LKnobEye$State;II)V"⟩, 18) := ⟨⟨by decide +kernel, by decide +kernel⟩, List.mem_of_getElem? (i := 236) (by decide +kernel), List.mem_of_getElem? (i := 1150) (by decide +kernel), List.mem_of_getElem? (i := 1151) (by decide +kernel)⟩
theorem lw_p69 : lw_okq (⟨"KnobEye", "boundOf", "(LKnobEye$Eye;)I"⟩, 12) := ⟨⟨by decide +kernel, by decide +kernel⟩, List.mem_of_getElem? (i := 30) (by decide +kernel), List.mem_of_getElem? (i := 1161) (by decide +kernel), List.mem_of_getElem? (i := 1162) (by decide +kernel)⟩
theorem lw_p70 : lw_okq (⟨"KnobEye$Eye", "valuesSquared", "(I)I"⟩, 8) := ⟨⟨by decide +kernel, by decide +kernel⟩, List.mem_of_getElem? (i := 51) (by decide +kernel), List.mem_of_getElem? (i := 1173) (by decide +kernel), List.mem_of_getElem? (i := 1174) (by decide +kernel)⟩
theorem lw_p71 : lw_okq (⟨"KnobEye", "blindBy", "(LKnobEye$Eye;LKnobEye$Rule;)I"⟩, 12) := ⟨⟨by decide +kernel, by decide +kernel⟩, List.mem_of_getElem? (i := 30) (by decide +kernel), List.mem_of_getElem? (i := 1185) (by decide +kernel), List.mem_of_getElem? (i := 1186) (by decide +kernel)⟩
theorem lw_p72 : lw_okq (⟨"KnobEye$Likes", "begin", "()V"⟩, 3) := ⟨⟨by decide +kernel, by decide +kernel⟩, List.mem_of_getElem? (i := 306) (by decide +kernel), List.mem_of_getElem? (i := 1189) (by decide +kernel), List.mem_of_getElem? (i := 1190) (by decide +kernel)⟩
theorem lw_p73 : lw_okq (⟨"KnobEye$Likes", "firstLike", "(II)I"⟩, 3) := ⟨⟨by decide +kernel, by decide +kernel⟩, List.mem_of_getElem? (i := 306) (by decide +kernel), List.mem_of_getElem? (i := 1194) (by decide +kernel), List.mem_of_getElem? (i := 1195) (by decide +kernel)⟩
theorem lw_p74 : lw_okq (⟨"KnobEye$State", "otherwiseWithout", "(LKnobEye$Eye;I)I"⟩, 11) := ⟨⟨by decide +kernel, by decide +kernel⟩, List.mem_of_getElem? (i := 38) (by decide +kernel), List.mem_of_getElem? (i := 1217) (by decide +kernel), List.mem_of_getElem? (i := 1218) (by decide +kernel)⟩
theorem lw_p75 : lw_okq (⟨"KnobEye$State", "rightWithout", "(LKnobEye$Eye;I)Z"⟩, 11) := ⟨⟨by decide +kernel, by decide +kernel⟩, List.mem_of_getElem? (i := 38) (by decide +kernel), List.mem_of_getElem? (i := 1250) (by decide +kernel), List.mem_of_getElem? (i := 1251) (by decide +kernel)⟩
theorem lw_p76 : lw_okq (⟨"KnobEye$Eye", "saysWithout", "(II)Z"⟩, 8) := ⟨⟨by decide +kernel, by decide +kernel⟩, List.mem_of_getElem? (i := 51) (by decide +kernel), List.mem_of_getElem? (i := 1254) (by decide +kernel), List.mem_of_getElem? (i := 1255) (by decide +kernel)⟩
theorem lw_p77 : lw_okq (⟨"KnobEye$Eye", "swap", "(II)V"⟩, 8) := ⟨⟨by decide +kernel, by decide +kernel⟩, List.mem_of_getElem? (i := 51) (by decide +kernel), List.mem_of_getElem? (i := 1266) (by decide +kernel), List.mem_of_getElem? (i := 1267) (by decide +kernel)⟩
theorem lw_p78 : lw_okq (⟨"KnobEye", "setOrder", "(II)Z"⟩, 12) := ⟨⟨by decide +kernel, by decide +kernel⟩, List.mem_of_getElem? (i := 30) (by decide +kernel), List.mem_of_getElem? (i := 1277) (by decide +kernel), List.mem_of_getElem? (i := 1278) (by decide +kernel)⟩
theorem lw_p79 : lw_okq (⟨"KnobEye", "tryOrder", "(LKnobEye$Eye;LKnobEye$Turner;I)V"⟩, 12) := ⟨⟨by decide +kernel, by decide +kernel⟩, List.mem_of_getElem? (i := 30) (by decide +kernel), List.mem_of_getElem? (i := 1281) (by decide +kernel), List.mem_of_getElem? (i := 1282) (by decide +kernel)⟩
def lw_privs_5 : List (MethodName × Nat) := [(⟨"KnobEye$Search", "take", "(I)V"⟩, 18), (⟨"KnobEye$Search", "countLines", "()V"⟩, 18), (⟨"KnobEye$Search", "addsUp", "(II)Z"⟩, 18), (⟨"KnobEye", "lineFound", "(LKnobEye$Eye;)I"⟩, 12), (⟨"KnobEye$Search", "first", "(LKnobEye$Eye;LKnobEye$State;II)V"⟩, 18), (⟨"KnobEye", "boundOf", "(LKnobEye$Eye;)I"⟩, 12), (⟨"KnobEye$Eye", "valuesSquared", "(I)I"⟩, 8), (⟨"KnobEye", "blindBy", "(LKnobEye$Eye;LKnobEye$Rule;)I"⟩, 12), (⟨"KnobEye$Likes", "begin", "()V"⟩, 3), (⟨"KnobEye$Likes", "firstLike", "(II)I"⟩, 3), (⟨"KnobEye$State", "otherwiseWithout", "(LKnobEye$Eye;I)I"⟩, 11), (⟨"KnobEye$State", "rightWithout", "(LKnobEye$Eye;I)Z"⟩, 11), (⟨"KnobEye$Eye", "saysWithout", "(II)Z"⟩, 8), (⟨"KnobEye$Eye", "swap", "(II)V"⟩, 8), (⟨"KnobEye", "setOrder", "(II)Z"⟩, 12), (⟨"KnobEye", "tryOrder", "(LKnobEye$Eye;LKnobEye$Turner;I)V"⟩, 12)]
theorem lw_r5 : ∀ q ∈ lw_privs_5, lw_okq q := List.forall_mem_cons.mpr ⟨lw_p64, List.forall_mem_cons.mpr ⟨lw_p65, List.forall_mem_cons.mpr ⟨lw_p66, List.forall_mem_cons.mpr ⟨lw_p67, List.forall_mem_cons.mpr ⟨lw_p68, List.forall_mem_cons.mpr ⟨lw_p69, List.forall_mem_cons.mpr ⟨lw_p70, List.forall_mem_cons.mpr ⟨lw_p71, List.forall_mem_cons.mpr ⟨lw_p72, List.forall_mem_cons.mpr ⟨lw_p73, List.forall_mem_cons.mpr ⟨lw_p74, List.forall_mem_cons.mpr ⟨lw_p75, List.forall_mem_cons.mpr ⟨lw_p76, List.forall_mem_cons.mpr ⟨lw_p77, List.forall_mem_cons.mpr ⟨lw_p78, List.forall_mem_cons.mpr ⟨lw_p79, fun _ h => absurd h List.not_mem_nil⟩⟩⟩⟩⟩⟩⟩⟩⟩⟩⟩⟩⟩⟩⟩⟩
theorem lw_p80 : lw_okq (⟨"KnobEye$State", "rightOnFirst", "(LKnobEye$Eye;I)Z"⟩, 11) := ⟨⟨by decide +kernel, by decide +kernel⟩, List.mem_of_getElem? (i := 38) (by decide +kernel), List.mem_of_getElem? (i := 1285) (by decide +kernel), List.mem_of_getElem? (i := 1286) (by decide +kernel)⟩
theorem lw_p81 : lw_okq (⟨"KnobEye$Search", "each", "(LKnobEye$Eye;LKnobEye$State;II)V"⟩, 18) := ⟨⟨by decide +kernel, by decide +kernel⟩, List.mem_of_getElem? (i := 236) (by decide +kernel), List.mem_of_getElem? (i := 1303) (by decide +kernel), List.mem_of_getElem? (i := 1304) (by decide +kernel)⟩
theorem lw_p82 : lw_okq (⟨"KnobEye$Search", "addCards", "(LKnobEye$Eye;LKnobEye$State;Z)V"⟩, 18) := ⟨⟨by decide +kernel, by decide +kernel⟩, List.mem_of_getElem? (i := 236) (by decide +kernel), List.mem_of_getElem? (i := 1307) (by decide +kernel), List.mem_of_getElem? (i := 1308) (by decide +kernel)⟩
theorem lw_p83 : lw_okq (⟨"KnobEye", "nextCard", "()I"⟩, 12) := ⟨⟨by decide +kernel, by decide +kernel⟩, List.mem_of_getElem? (i := 30) (by decide +kernel), List.mem_of_getElem? (i := 1311) (by decide +kernel), List.mem_of_getElem? (i := 1312) (by decide +kernel)⟩
theorem lw_p84 : lw_okq (⟨"KnobEyeModel", "uses", "()V"⟩, 36) := ⟨⟨by decide +kernel, by decide +kernel⟩, List.mem_of_getElem? (i := 1326) (by decide +kernel), List.mem_of_getElem? (i := 1468) (by decide +kernel), List.mem_of_getElem? (i := 1469) (by decide +kernel)⟩
theorem lw_p85 : lw_okq (⟨"KnobEyeModel", "reads", "(I)Z"⟩, 36) := ⟨⟨by decide +kernel, by decide +kernel⟩, List.mem_of_getElem? (i := 1326) (by decide +kernel), List.mem_of_getElem? (i := 1472) (by decide +kernel), List.mem_of_getElem? (i := 1473) (by decide +kernel)⟩
theorem lw_p86 : lw_okq (⟨"KnobEyeModel", "readLines", "()Z"⟩, 36) := ⟨⟨by decide +kernel, by decide +kernel⟩, List.mem_of_getElem? (i := 1326) (by decide +kernel), List.mem_of_getElem? (i := 1476) (by decide +kernel), List.mem_of_getElem? (i := 1477) (by decide +kernel)⟩
theorem lw_p87 : lw_okq (⟨"KnobEyeModel", "blanks", "()V"⟩, 36) := ⟨⟨by decide +kernel, by decide +kernel⟩, List.mem_of_getElem? (i := 1326) (by decide +kernel), List.mem_of_getElem? (i := 1480) (by decide +kernel), List.mem_of_getElem? (i := 1481) (by decide +kernel)⟩
theorem lw_p88 : lw_okq (⟨"KnobEyeModel", "isAt", "(II)Z"⟩, 36) := ⟨⟨by decide +kernel, by decide +kernel⟩, List.mem_of_getElem? (i := 1326) (by decide +kernel), List.mem_of_getElem? (i := 1484) (by decide +kernel), List.mem_of_getElem? (i := 1485) (by decide +kernel)⟩
theorem lw_p89 : lw_okq (⟨"KnobEyeModel", "readLine", "(I)Z"⟩, 36) := ⟨⟨by decide +kernel, by decide +kernel⟩, List.mem_of_getElem? (i := 1326) (by decide +kernel), List.mem_of_getElem? (i := 1491) (by decide +kernel), List.mem_of_getElem? (i := 1492) (by decide +kernel)⟩
theorem lw_p90 : lw_okq (⟨"KnobEyeModel", "letters", "()V"⟩, 36) := ⟨⟨by decide +kernel, by decide +kernel⟩, List.mem_of_getElem? (i := 1326) (by decide +kernel), List.mem_of_getElem? (i := 1495) (by decide +kernel), List.mem_of_getElem? (i := 1496) (by decide +kernel)⟩
theorem lw_p91 : lw_okq (⟨"KnobEyeModel", "isWord", "(Ljava/lang/String;)Z"⟩, 36) := ⟨⟨by decide +kernel, by decide +kernel⟩, List.mem_of_getElem? (i := 1326) (by decide +kernel), List.mem_of_getElem? (i := 1503) (by decide +kernel), List.mem_of_getElem? (i := 1504) (by decide +kernel)⟩
theorem lw_p92 : lw_okq (⟨"KnobEyeModel", "number", "(I)I"⟩, 36) := ⟨⟨by decide +kernel, by decide +kernel⟩, List.mem_of_getElem? (i := 1326) (by decide +kernel), List.mem_of_getElem? (i := 1510) (by decide +kernel), List.mem_of_getElem? (i := 1511) (by decide +kernel)⟩
theorem lw_p93 : lw_okq (⟨"KnobEyeModel", "passes", "(Ljava/lang/String;)Z"⟩, 36) := ⟨⟨by decide +kernel, by decide +kernel⟩, List.mem_of_getElem? (i := 1326) (by decide +kernel), List.mem_of_getElem? (i := 1515) (by decide +kernel), List.mem_of_getElem? (i := 1516) (by decide +kernel)⟩
theorem lw_p94 : lw_okq (⟨"KnobEyeModel", "readCond", "()Z"⟩, 36) := ⟨⟨by decide +kernel, by decide +kernel⟩, List.mem_of_getElem? (i := 1326) (by decide +kernel), List.mem_of_getElem? (i := 1519) (by decide +kernel), List.mem_of_getElem? (i := 1520) (by decide +kernel)⟩
theorem lw_p95 : lw_okq (⟨"KnobEyeModel", "readAllOf", "()Z"⟩, 36) := ⟨⟨by decide +kernel, by decide +kernel⟩, List.mem_of_getElem? (i := 1326) (by decide +kernel), List.mem_of_getElem? (i := 1523) (by decide +kernel), List.mem_of_getElem? (i := 1524) (by decide +kernel)⟩
def lw_privs_6 : List (MethodName × Nat) := [(⟨"KnobEye$State", "rightOnFirst", "(LKnobEye$Eye;I)Z"⟩, 11), (⟨"KnobEye$Search", "each", "(LKnobEye$Eye;LKnobEye$State;II)V"⟩, 18), (⟨"KnobEye$Search", "addCards", "(LKnobEye$Eye;LKnobEye$State;Z)V"⟩, 18), (⟨"KnobEye", "nextCard", "()I"⟩, 12), (⟨"KnobEyeModel", "uses", "()V"⟩, 36), (⟨"KnobEyeModel", "reads", "(I)Z"⟩, 36), (⟨"KnobEyeModel", "readLines", "()Z"⟩, 36), (⟨"KnobEyeModel", "blanks", "()V"⟩, 36), (⟨"KnobEyeModel", "isAt", "(II)Z"⟩, 36), (⟨"KnobEyeModel", "readLine", "(I)Z"⟩, 36), (⟨"KnobEyeModel", "letters", "()V"⟩, 36), (⟨"KnobEyeModel", "isWord", "(Ljava/lang/String;)Z"⟩, 36), (⟨"KnobEyeModel", "number", "(I)I"⟩, 36), (⟨"KnobEyeModel", "passes", "(Ljava/lang/String;)Z"⟩, 36), (⟨"KnobEyeModel", "readCond", "()Z"⟩, 36), (⟨"KnobEyeModel", "readAllOf", "()Z"⟩, 36)]
theorem lw_r6 : ∀ q ∈ lw_privs_6, lw_okq q := List.forall_mem_cons.mpr ⟨lw_p80, List.forall_mem_cons.mpr ⟨lw_p81, List.forall_mem_cons.mpr ⟨lw_p82, List.forall_mem_cons.mpr ⟨lw_p83, List.forall_mem_cons.mpr ⟨lw_p84, List.forall_mem_cons.mpr ⟨lw_p85, List.forall_mem_cons.mpr ⟨lw_p86, List.forall_mem_cons.mpr ⟨lw_p87, List.forall_mem_cons.mpr ⟨lw_p88, List.forall_mem_cons.mpr ⟨lw_p89, List.forall_mem_cons.mpr ⟨lw_p90, List.forall_mem_cons.mpr ⟨lw_p91, List.forall_mem_cons.mpr ⟨lw_p92, List.forall_mem_cons.mpr ⟨lw_p93, List.forall_mem_cons.mpr ⟨lw_p94, List.forall_mem_cons.mpr ⟨lw_p95, fun _ h => absurd h List.not_mem_nil⟩⟩⟩⟩⟩⟩⟩⟩⟩⟩⟩⟩⟩⟩⟩⟩
theorem lw_p96 : lw_okq (⟨"KnobEyeModel", "readAtom", "()Z"⟩, 36) := ⟨⟨by decide +kernel, by decide +kernel⟩, List.mem_of_getElem? (i := 1326) (by decide +kernel), List.mem_of_getElem? (i := 1527) (by decide +kernel), List.mem_of_getElem? (i := 1528) (by decide +kernel)⟩
theorem lw_p97 : lw_okq (⟨"KnobEyeModel", "sign", "(I)Z"⟩, 36) := ⟨⟨by decide +kernel, by decide +kernel⟩, List.mem_of_getElem? (i := 1326) (by decide +kernel), List.mem_of_getElem? (i := 1531) (by decide +kernel), List.mem_of_getElem? (i := 1532) (by decide +kernel)⟩
theorem lw_p98 : lw_okq (⟨"KnobEyeModel", "emits", "(II)V"⟩, 36) := ⟨⟨by decide +kernel, by decide +kernel⟩, List.mem_of_getElem? (i := 1326) (by decide +kernel), List.mem_of_getElem? (i := 1536) (by decide +kernel), List.mem_of_getElem? (i := 1537) (by decide +kernel)⟩
theorem lw_p99 : lw_okq (⟨"KnobEyeModel", "tagAt", "()I"⟩, 36) := ⟨⟨by decide +kernel, by decide +kernel⟩, List.mem_of_getElem? (i := 1326) (by decide +kernel), List.mem_of_getElem? (i := 1540) (by decide +kernel), List.mem_of_getElem? (i := 1541) (by decide +kernel)⟩
theorem lw_p100 : lw_okq (⟨"KnobEyeModel", "readSum", "()Z"⟩, 36) := ⟨⟨by decide +kernel, by decide +kernel⟩, List.mem_of_getElem? (i := 1326) (by decide +kernel), List.mem_of_getElem? (i := 1550) (by decide +kernel), List.mem_of_getElem? (i := 1551) (by decide +kernel)⟩
theorem lw_p101 : lw_okq (⟨"KnobEyeModel", "readPart", "()Z"⟩, 36) := ⟨⟨by decide +kernel, by decide +kernel⟩, List.mem_of_getElem? (i := 1326) (by decide +kernel), List.mem_of_getElem? (i := 1554) (by decide +kernel), List.mem_of_getElem? (i := 1555) (by decide +kernel)⟩
theorem lw_p102 : lw_okq (⟨"KnobEyeModel", "readFact", "()Z"⟩, 36) := ⟨⟨by decide +kernel, by decide +kernel⟩, List.mem_of_getElem? (i := 1326) (by decide +kernel), List.mem_of_getElem? (i := 1558) (by decide +kernel), List.mem_of_getElem? (i := 1559) (by decide +kernel)⟩
theorem lw_p103 : lw_okq (⟨"KnobEyeModel", "factAt", "()I"⟩, 36) := ⟨⟨by decide +kernel, by decide +kernel⟩, List.mem_of_getElem? (i := 1326) (by decide +kernel), List.mem_of_getElem? (i := 1562) (by decide +kernel), List.mem_of_getElem? (i := 1563) (by decide +kernel)⟩
theorem lw_p104 : lw_okq (⟨"KnobEyeModel", "readOne", "()Z"⟩, 36) := ⟨⟨by decide +kernel, by decide +kernel⟩, List.mem_of_getElem? (i := 1326) (by decide +kernel), List.mem_of_getElem? (i := 1580) (by decide +kernel), List.mem_of_getElem? (i := 1581) (by decide +kernel)⟩
theorem lw_p105 : lw_okq (⟨"KnobEyeModel", "throwsIf", "(ZI)Z"⟩, 36) := ⟨⟨by decide +kernel, by decide +kernel⟩, List.mem_of_getElem? (i := 1326) (by decide +kernel), List.mem_of_getElem? (i := 1584) (by decide +kernel), List.mem_of_getElem? (i := 1585) (by decide +kernel)⟩
theorem lw_p106 : lw_okq (⟨"KnobEyeModel", "keeps", "(I)V"⟩, 36) := ⟨⟨by decide +kernel, by decide +kernel⟩, List.mem_of_getElem? (i := 1326) (by decide +kernel), List.mem_of_getElem? (i := 1588) (by decide +kernel), List.mem_of_getElem? (i := 1589) (by decide +kernel)⟩
theorem lw_p107 : lw_okq (⟨"KnobEyeModel", "noEye", "(I)Z"⟩, 36) := ⟨⟨by decide +kernel, by decide +kernel⟩, List.mem_of_getElem? (i := 1326) (by decide +kernel), List.mem_of_getElem? (i := 1600) (by decide +kernel), List.mem_of_getElem? (i := 1601) (by decide +kernel)⟩
theorem lw_p108 : lw_okq (⟨"KnobEyeModel", "noRule", "(I)Z"⟩, 36) := ⟨⟨by decide +kernel, by decide +kernel⟩, List.mem_of_getElem? (i := 1326) (by decide +kernel), List.mem_of_getElem? (i := 1607) (by decide +kernel), List.mem_of_getElem? (i := 1608) (by decide +kernel)⟩
theorem lw_p109 : lw_okq (⟨"KnobEyeModel", "ruled", "(II)Z"⟩, 36) := ⟨⟨by decide +kernel, by decide +kernel⟩, List.mem_of_getElem? (i := 1326) (by decide +kernel), List.mem_of_getElem? (i := 1619) (by decide +kernel), List.mem_of_getElem? (i := 1620) (by decide +kernel)⟩
theorem lw_p110 : lw_okq (⟨"KnobEyeModel", "holdsLine", "(II)Z"⟩, 36) := ⟨⟨by decide +kernel, by decide +kernel⟩, List.mem_of_getElem? (i := 1326) (by decide +kernel), List.mem_of_getElem? (i := 1631) (by decide +kernel), List.mem_of_getElem? (i := 1632) (by decide +kernel)⟩
theorem lw_p111 : lw_okq (⟨"KnobEyeModel", "cards", "()I"⟩, 36) := ⟨⟨by decide +kernel, by decide +kernel⟩, List.mem_of_getElem? (i := 1326) (by decide +kernel), List.mem_of_getElem? (i := 1640) (by decide +kernel), List.mem_of_getElem? (i := 1641) (by decide +kernel)⟩
def lw_privs_7 : List (MethodName × Nat) := [(⟨"KnobEyeModel", "readAtom", "()Z"⟩, 36), (⟨"KnobEyeModel", "sign", "(I)Z"⟩, 36), (⟨"KnobEyeModel", "emits", "(II)V"⟩, 36), (⟨"KnobEyeModel", "tagAt", "()I"⟩, 36), (⟨"KnobEyeModel", "readSum", "()Z"⟩, 36), (⟨"KnobEyeModel", "readPart", "()Z"⟩, 36), (⟨"KnobEyeModel", "readFact", "()Z"⟩, 36), (⟨"KnobEyeModel", "factAt", "()I"⟩, 36), (⟨"KnobEyeModel", "readOne", "()Z"⟩, 36), (⟨"KnobEyeModel", "throwsIf", "(ZI)Z"⟩, 36), (⟨"KnobEyeModel", "keeps", "(I)V"⟩, 36), (⟨"KnobEyeModel", "noEye", "(I)Z"⟩, 36), (⟨"KnobEyeModel", "noRule", "(I)Z"⟩, 36), (⟨"KnobEyeModel", "ruled", "(II)Z"⟩, 36), (⟨"KnobEyeModel", "holdsLine", "(II)Z"⟩, 36), (⟨"KnobEyeModel", "cards", "()I"⟩, 36)]
theorem lw_r7 : ∀ q ∈ lw_privs_7, lw_okq q := List.forall_mem_cons.mpr ⟨lw_p96, List.forall_mem_cons.mpr ⟨lw_p97, List.forall_mem_cons.mpr ⟨lw_p98, List.forall_mem_cons.mpr ⟨lw_p99, List.forall_mem_cons.mpr ⟨lw_p100, List.forall_mem_cons.mpr ⟨lw_p101, List.forall_mem_cons.mpr ⟨lw_p102, List.forall_mem_cons.mpr ⟨lw_p103, List.forall_mem_cons.mpr ⟨lw_p104, List.forall_mem_cons.mpr ⟨lw_p105, List.forall_mem_cons.mpr ⟨lw_p106, List.forall_mem_cons.mpr ⟨lw_p107, List.forall_mem_cons.mpr ⟨lw_p108, List.forall_mem_cons.mpr ⟨lw_p109, List.forall_mem_cons.mpr ⟨lw_p110, List.forall_mem_cons.mpr ⟨lw_p111, fun _ h => absurd h List.not_mem_nil⟩⟩⟩⟩⟩⟩⟩⟩⟩⟩⟩⟩⟩⟩⟩⟩
theorem lw_p112 : lw_okq (⟨"KnobEyeModel", "puts", "(IZ)I"⟩, 36) := ⟨⟨by decide +kernel, by decide +kernel⟩, List.mem_of_getElem? (i := 1326) (by decide +kernel), List.mem_of_getElem? (i := 1644) (by decide +kernel), List.mem_of_getElem? (i := 1645) (by decide +kernel)⟩
theorem lw_p113 : lw_okq (⟨"KnobEyeModel", "wires", "(I)I"⟩, 36) := ⟨⟨by decide +kernel, by decide +kernel⟩, List.mem_of_getElem? (i := 1326) (by decide +kernel), List.mem_of_getElem? (i := 1664) (by decide +kernel), List.mem_of_getElem? (i := 1665) (by decide +kernel)⟩
theorem lw_p114 : lw_okq (⟨"KnobEyeModel", "of", "(II)I"⟩, 36) := ⟨⟨by decide +kernel, by decide +kernel⟩, List.mem_of_getElem? (i := 1326) (by decide +kernel), List.mem_of_getElem? (i := 1668) (by decide +kernel), List.mem_of_getElem? (i := 1669) (by decide +kernel)⟩
theorem lw_p115 : lw_okq (⟨"KnobEyeModel", "noWire", "(II)Z"⟩, 36) := ⟨⟨by decide +kernel, by decide +kernel⟩, List.mem_of_getElem? (i := 1326) (by decide +kernel), List.mem_of_getElem? (i := 1679) (by decide +kernel), List.mem_of_getElem? (i := 1680) (by decide +kernel)⟩
theorem lw_p116 : lw_okq (⟨"KnobEyeModel", "knobOf", "(II)I"⟩, 36) := ⟨⟨by decide +kernel, by decide +kernel⟩, List.mem_of_getElem? (i := 1326) (by decide +kernel), List.mem_of_getElem? (i := 1691) (by decide +kernel), List.mem_of_getElem? (i := 1692) (by decide +kernel)⟩
theorem lw_p117 : lw_okq (⟨"KnobEyeModel", "rightMany", "(I)I"⟩, 36) := ⟨⟨by decide +kernel, by decide +kernel⟩, List.mem_of_getElem? (i := 1326) (by decide +kernel), List.mem_of_getElem? (i := 1695) (by decide +kernel), List.mem_of_getElem? (i := 1696) (by decide +kernel)⟩
theorem lw_p118 : lw_okq (⟨"KnobEyeModel", "isRightOn", "(II)Z"⟩, 36) := ⟨⟨by decide +kernel, by decide +kernel⟩, List.mem_of_getElem? (i := 1326) (by decide +kernel), List.mem_of_getElem? (i := 1699) (by decide +kernel), List.mem_of_getElem? (i := 1700) (by decide +kernel)⟩
theorem lw_p119 : lw_okq (⟨"KnobEyeModel", "litOf", "(I)I"⟩, 36) := ⟨⟨by decide +kernel, by decide +kernel⟩, List.mem_of_getElem? (i := 1326) (by decide +kernel), List.mem_of_getElem? (i := 1703) (by decide +kernel), List.mem_of_getElem? (i := 1704) (by decide +kernel)⟩
theorem lw_p120 : lw_okq (⟨"KnobEyeModel", "says", "(II)Z"⟩, 36) := ⟨⟨by decide +kernel, by decide +kernel⟩, List.mem_of_getElem? (i := 1326) (by decide +kernel), List.mem_of_getElem? (i := 1707) (by decide +kernel), List.mem_of_getElem? (i := 1708) (by decide +kernel)⟩
theorem lw_p121 : lw_okq (⟨"KnobEyeModel", "seen", "(II)I"⟩, 36) := ⟨⟨by decide +kernel, by decide +kernel⟩, List.mem_of_getElem? (i := 1326) (by decide +kernel), List.mem_of_getElem? (i := 1711) (by decide +kernel), List.mem_of_getElem? (i := 1712) (by decide +kernel)⟩
theorem lw_p122 : lw_okq (⟨"KnobEyeModel", "seesWithout", "(III)I"⟩, 36) := ⟨⟨by decide +kernel, by decide +kernel⟩, List.mem_of_getElem? (i := 1326) (by decide +kernel), List.mem_of_getElem? (i := 1715) (by decide +kernel), List.mem_of_getElem? (i := 1716) (by decide +kernel)⟩
theorem lw_p123 : lw_okq (⟨"KnobEyeModel", "valueOf", "(III)I"⟩, 36) := ⟨⟨by decide +kernel, by decide +kernel⟩, List.mem_of_getElem? (i := 1326) (by decide +kernel), List.mem_of_getElem? (i := 1719) (by decide +kernel), List.mem_of_getElem? (i := 1720) (by decide +kernel)⟩
theorem lw_p124 : lw_okq (⟨"KnobEyeModel", "isYes", "(I)Z"⟩, 36) := ⟨⟨by decide +kernel, by decide +kernel⟩, List.mem_of_getElem? (i := 1326) (by decide +kernel), List.mem_of_getElem? (i := 1726) (by decide +kernel), List.mem_of_getElem? (i := 1727) (by decide +kernel)⟩
theorem lw_p125 : lw_okq (⟨"KnobEyeModel", "nearOf", "(I)I"⟩, 36) := ⟨⟨by decide +kernel, by decide +kernel⟩, List.mem_of_getElem? (i := 1326) (by decide +kernel), List.mem_of_getElem? (i := 1730) (by decide +kernel), List.mem_of_getElem? (i := 1731) (by decide +kernel)⟩
theorem lw_p126 : lw_okq (⟨"KnobEyeModel", "noCard", "(I)Z"⟩, 36) := ⟨⟨by decide +kernel, by decide +kernel⟩, List.mem_of_getElem? (i := 1326) (by decide +kernel), List.mem_of_getElem? (i := 1753) (by decide +kernel), List.mem_of_getElem? (i := 1754) (by decide +kernel)⟩
theorem lw_p127 : lw_okq (⟨"KnobEyeModel", "noTurner", "(I)Z"⟩, 36) := ⟨⟨by decide +kernel, by decide +kernel⟩, List.mem_of_getElem? (i := 1326) (by decide +kernel), List.mem_of_getElem? (i := 1757) (by decide +kernel), List.mem_of_getElem? (i := 1758) (by decide +kernel)⟩
def lw_privs_8 : List (MethodName × Nat) := [(⟨"KnobEyeModel", "puts", "(IZ)I"⟩, 36), (⟨"KnobEyeModel", "wires", "(I)I"⟩, 36), (⟨"KnobEyeModel", "of", "(II)I"⟩, 36), (⟨"KnobEyeModel", "noWire", "(II)Z"⟩, 36), (⟨"KnobEyeModel", "knobOf", "(II)I"⟩, 36), (⟨"KnobEyeModel", "rightMany", "(I)I"⟩, 36), (⟨"KnobEyeModel", "isRightOn", "(II)Z"⟩, 36), (⟨"KnobEyeModel", "litOf", "(I)I"⟩, 36), (⟨"KnobEyeModel", "says", "(II)Z"⟩, 36), (⟨"KnobEyeModel", "seen", "(II)I"⟩, 36), (⟨"KnobEyeModel", "seesWithout", "(III)I"⟩, 36), (⟨"KnobEyeModel", "valueOf", "(III)I"⟩, 36), (⟨"KnobEyeModel", "isYes", "(I)Z"⟩, 36), (⟨"KnobEyeModel", "nearOf", "(I)I"⟩, 36), (⟨"KnobEyeModel", "noCard", "(I)Z"⟩, 36), (⟨"KnobEyeModel", "noTurner", "(I)Z"⟩, 36)]
theorem lw_r8 : ∀ q ∈ lw_privs_8, lw_okq q := List.forall_mem_cons.mpr ⟨lw_p112, List.forall_mem_cons.mpr ⟨lw_p113, List.forall_mem_cons.mpr ⟨lw_p114, List.forall_mem_cons.mpr ⟨lw_p115, List.forall_mem_cons.mpr ⟨lw_p116, List.forall_mem_cons.mpr ⟨lw_p117, List.forall_mem_cons.mpr ⟨lw_p118, List.forall_mem_cons.mpr ⟨lw_p119, List.forall_mem_cons.mpr ⟨lw_p120, List.forall_mem_cons.mpr ⟨lw_p121, List.forall_mem_cons.mpr ⟨lw_p122, List.forall_mem_cons.mpr ⟨lw_p123, List.forall_mem_cons.mpr ⟨lw_p124, List.forall_mem_cons.mpr ⟨lw_p125, List.forall_mem_cons.mpr ⟨lw_p126, List.forall_mem_cons.mpr ⟨lw_p127, fun _ h => absurd h List.not_mem_nil⟩⟩⟩⟩⟩⟩⟩⟩⟩⟩⟩⟩⟩⟩⟩⟩
theorem lw_p128 : lw_okq (⟨"KnobEyeModel", "shows", "(III)Z"⟩, 36) := ⟨⟨by decide +kernel, by decide +kernel⟩, List.mem_of_getElem? (i := 1326) (by decide +kernel), List.mem_of_getElem? (i := 1761) (by decide +kernel), List.mem_of_getElem? (i := 1762) (by decide +kernel)⟩
theorem lw_p129 : lw_okq (⟨"KnobEyeModel", "isStuck", "(II)Z"⟩, 36) := ⟨⟨by decide +kernel, by decide +kernel⟩, List.mem_of_getElem? (i := 1326) (by decide +kernel), List.mem_of_getElem? (i := 1766) (by decide +kernel), List.mem_of_getElem? (i := 1767) (by decide +kernel)⟩
theorem lw_p130 : lw_okq (⟨"KnobEyeModel", "turnBy", "(IIII)I"⟩, 36) := ⟨⟨by decide +kernel, by decide +kernel⟩, List.mem_of_getElem? (i := 1326) (by decide +kernel), List.mem_of_getElem? (i := 1770) (by decide +kernel), List.mem_of_getElem? (i := 1771) (by decide +kernel)⟩
theorem lw_p131 : lw_okq (⟨"KnobEyeModel", "lines", "(I)I"⟩, 36) := ⟨⟨by decide +kernel, by decide +kernel⟩, List.mem_of_getElem? (i := 1326) (by decide +kernel), List.mem_of_getElem? (i := 1774) (by decide +kernel), List.mem_of_getElem? (i := 1775) (by decide +kernel)⟩
theorem lw_p132 : lw_okq (⟨"KnobEyeModel", "noSearch", "(III)Z"⟩, 36) := ⟨⟨by decide +kernel, by decide +kernel⟩, List.mem_of_getElem? (i := 1326) (by decide +kernel), List.mem_of_getElem? (i := 1793) (by decide +kernel), List.mem_of_getElem? (i := 1794) (by decide +kernel)⟩
theorem lw_p133 : lw_okq (⟨"KnobEyeModel", "tries", "(II)V"⟩, 36) := ⟨⟨by decide +kernel, by decide +kernel⟩, List.mem_of_getElem? (i := 1326) (by decide +kernel), List.mem_of_getElem? (i := 1797) (by decide +kernel), List.mem_of_getElem? (i := 1798) (by decide +kernel)⟩
theorem lw_p134 : lw_okq (⟨"KnobEyeModel", "laysValues", "(I)V"⟩, 36) := ⟨⟨by decide +kernel, by decide +kernel⟩, List.mem_of_getElem? (i := 1326) (by decide +kernel), List.mem_of_getElem? (i := 1801) (by decide +kernel), List.mem_of_getElem? (i := 1802) (by decide +kernel)⟩
theorem lw_p135 : lw_okq (⟨"KnobEyeModel", "looksAt", "(I)V"⟩, 36) := ⟨⟨by decide +kernel, by decide +kernel⟩, List.mem_of_getElem? (i := 1326) (by decide +kernel), List.mem_of_getElem? (i := 1805) (by decide +kernel), List.mem_of_getElem? (i := 1806) (by decide +kernel)⟩
theorem lw_p136 : lw_okq (⟨"KnobEyeModel", "triedOn", "(II)I"⟩, 36) := ⟨⟨by decide +kernel, by decide +kernel⟩, List.mem_of_getElem? (i := 1326) (by decide +kernel), List.mem_of_getElem? (i := 1811) (by decide +kernel), List.mem_of_getElem? (i := 1812) (by decide +kernel)⟩
theorem lw_p137 : lw_okq (⟨"KnobEyeModel", "blindShown", "(I)I"⟩, 36) := ⟨⟨by decide +kernel, by decide +kernel⟩, List.mem_of_getElem? (i := 1326) (by decide +kernel), List.mem_of_getElem? (i := 1833) (by decide +kernel), List.mem_of_getElem? (i := 1834) (by decide +kernel)⟩
theorem lw_p138 : lw_okq (⟨"KnobEyeModel", "codeOf", "(II)I"⟩, 36) := ⟨⟨by decide +kernel, by decide +kernel⟩, List.mem_of_getElem? (i := 1326) (by decide +kernel), List.mem_of_getElem? (i := 1837) (by decide +kernel), List.mem_of_getElem? (i := 1838) (by decide +kernel)⟩
theorem lw_p139 : lw_okq (⟨"KnobEyeModel", "blindBy", "(II)I"⟩, 36) := ⟨⟨by decide +kernel, by decide +kernel⟩, List.mem_of_getElem? (i := 1326) (by decide +kernel), List.mem_of_getElem? (i := 1841) (by decide +kernel), List.mem_of_getElem? (i := 1842) (by decide +kernel)⟩
theorem lw_p140 : lw_okq (⟨"KnobEyeModel", "knows", "(I)V"⟩, 36) := ⟨⟨by decide +kernel, by decide +kernel⟩, List.mem_of_getElem? (i := 1326) (by decide +kernel), List.mem_of_getElem? (i := 1845) (by decide +kernel), List.mem_of_getElem? (i := 1846) (by decide +kernel)⟩
theorem lw_p141 : lw_okq (⟨"KnobEyeModel", "sorts", "(I[I[II)V"⟩, 36) := ⟨⟨by decide +kernel, by decide +kernel⟩, List.mem_of_getElem? (i := 1326) (by decide +kernel), List.mem_of_getElem? (i := 1849) (by decide +kernel), List.mem_of_getElem? (i := 1850) (by decide +kernel)⟩
theorem lw_p142 : lw_okq (⟨"KnobEyeModel", "half", "(III)I"⟩, 36) := ⟨⟨by decide +kernel, by decide +kernel⟩, List.mem_of_getElem? (i := 1326) (by decide +kernel), List.mem_of_getElem? (i := 1854) (by decide +kernel), List.mem_of_getElem? (i := 1855) (by decide +kernel)⟩
theorem lw_p143 : lw_okq (⟨"KnobEyeModel", "isRight", "(II)Z"⟩, 36) := ⟨⟨by decide +kernel, by decide +kernel⟩, List.mem_of_getElem? (i := 1326) (by decide +kernel), List.mem_of_getElem? (i := 1858) (by decide +kernel), List.mem_of_getElem? (i := 1859) (by decide +kernel)⟩
def lw_privs_9 : List (MethodName × Nat) := [(⟨"KnobEyeModel", "shows", "(III)Z"⟩, 36), (⟨"KnobEyeModel", "isStuck", "(II)Z"⟩, 36), (⟨"KnobEyeModel", "turnBy", "(IIII)I"⟩, 36), (⟨"KnobEyeModel", "lines", "(I)I"⟩, 36), (⟨"KnobEyeModel", "noSearch", "(III)Z"⟩, 36), (⟨"KnobEyeModel", "tries", "(II)V"⟩, 36), (⟨"KnobEyeModel", "laysValues", "(I)V"⟩, 36), (⟨"KnobEyeModel", "looksAt", "(I)V"⟩, 36), (⟨"KnobEyeModel", "triedOn", "(II)I"⟩, 36), (⟨"KnobEyeModel", "blindShown", "(I)I"⟩, 36), (⟨"KnobEyeModel", "codeOf", "(II)I"⟩, 36), (⟨"KnobEyeModel", "blindBy", "(II)I"⟩, 36), (⟨"KnobEyeModel", "knows", "(I)V"⟩, 36), (⟨"KnobEyeModel", "sorts", "(I[I[II)V"⟩, 36), (⟨"KnobEyeModel", "half", "(III)I"⟩, 36), (⟨"KnobEyeModel", "isRight", "(II)Z"⟩, 36)]
theorem lw_r9 : ∀ q ∈ lw_privs_9, lw_okq q := List.forall_mem_cons.mpr ⟨lw_p128, List.forall_mem_cons.mpr ⟨lw_p129, List.forall_mem_cons.mpr ⟨lw_p130, List.forall_mem_cons.mpr ⟨lw_p131, List.forall_mem_cons.mpr ⟨lw_p132, List.forall_mem_cons.mpr ⟨lw_p133, List.forall_mem_cons.mpr ⟨lw_p134, List.forall_mem_cons.mpr ⟨lw_p135, List.forall_mem_cons.mpr ⟨lw_p136, List.forall_mem_cons.mpr ⟨lw_p137, List.forall_mem_cons.mpr ⟨lw_p138, List.forall_mem_cons.mpr ⟨lw_p139, List.forall_mem_cons.mpr ⟨lw_p140, List.forall_mem_cons.mpr ⟨lw_p141, List.forall_mem_cons.mpr ⟨lw_p142, List.forall_mem_cons.mpr ⟨lw_p143, fun _ h => absurd h List.not_mem_nil⟩⟩⟩⟩⟩⟩⟩⟩⟩⟩⟩⟩⟩⟩⟩⟩
theorem lw_p144 : lw_okq (⟨"KnobEyeModel", "oddsOf", "(III)I"⟩, 36) := ⟨⟨by decide +kernel, by decide +kernel⟩, List.mem_of_getElem? (i := 1326) (by decide +kernel), List.mem_of_getElem? (i := 1866) (by decide +kernel), List.mem_of_getElem? (i := 1867) (by decide +kernel)⟩
theorem lw_p145 : lw_okq (⟨"KnobEyeModel", "coveredBy", "(II)I"⟩, 36) := ⟨⟨by decide +kernel, by decide +kernel⟩, List.mem_of_getElem? (i := 1326) (by decide +kernel), List.mem_of_getElem? (i := 1877) (by decide +kernel), List.mem_of_getElem? (i := 1878) (by decide +kernel)⟩
theorem lw_p146 : lw_okq (⟨"KnobEyeModel", "goesAlong", "(I)I"⟩, 36) := ⟨⟨by decide +kernel, by decide +kernel⟩, List.mem_of_getElem? (i := 1326) (by decide +kernel), List.mem_of_getElem? (i := 1889) (by decide +kernel), List.mem_of_getElem? (i := 1890) (by decide +kernel)⟩
theorem lw_p147 : lw_okq (⟨"KnobEyeModel", "soonBy", "(III)I"⟩, 36) := ⟨⟨by decide +kernel, by decide +kernel⟩, List.mem_of_getElem? (i := 1326) (by decide +kernel), List.mem_of_getElem? (i := 1913) (by decide +kernel), List.mem_of_getElem? (i := 1914) (by decide +kernel)⟩
theorem lw_p148 : lw_okq (⟨"KnobEyeModel", "areRight", "(II)Z"⟩, 36) := ⟨⟨by decide +kernel, by decide +kernel⟩, List.mem_of_getElem? (i := 1326) (by decide +kernel), List.mem_of_getElem? (i := 1917) (by decide +kernel), List.mem_of_getElem? (i := 1918) (by decide +kernel)⟩
theorem lw_p149 : lw_okq (⟨"KnobEyeModel", "saysBy", "(II)Z"⟩, 36) := ⟨⟨by decide +kernel, by decide +kernel⟩, List.mem_of_getElem? (i := 1326) (by decide +kernel), List.mem_of_getElem? (i := 1925) (by decide +kernel), List.mem_of_getElem? (i := 1926) (by decide +kernel)⟩
theorem lw_p150 : lw_okq (⟨"KnobEyeModel", "readsTried", "(I)V"⟩, 36) := ⟨⟨by decide +kernel, by decide +kernel⟩, List.mem_of_getElem? (i := 1326) (by decide +kernel), List.mem_of_getElem? (i := 1937) (by decide +kernel), List.mem_of_getElem? (i := 1938) (by decide +kernel)⟩
theorem lw_p151 : lw_okq (⟨"KnobEyeModel", "isHeld", "(I)Z"⟩, 36) := ⟨⟨by decide +kernel, by decide +kernel⟩, List.mem_of_getElem? (i := 1326) (by decide +kernel), List.mem_of_getElem? (i := 1948) (by decide +kernel), List.mem_of_getElem? (i := 1949) (by decide +kernel)⟩
def lw_privs_10 : List (MethodName × Nat) := [(⟨"KnobEyeModel", "oddsOf", "(III)I"⟩, 36), (⟨"KnobEyeModel", "coveredBy", "(II)I"⟩, 36), (⟨"KnobEyeModel", "goesAlong", "(I)I"⟩, 36), (⟨"KnobEyeModel", "soonBy", "(III)I"⟩, 36), (⟨"KnobEyeModel", "areRight", "(II)Z"⟩, 36), (⟨"KnobEyeModel", "saysBy", "(II)Z"⟩, 36), (⟨"KnobEyeModel", "readsTried", "(I)V"⟩, 36), (⟨"KnobEyeModel", "isHeld", "(I)Z"⟩, 36)]
theorem lw_r10 : ∀ q ∈ lw_privs_10, lw_okq q := List.forall_mem_cons.mpr ⟨lw_p144, List.forall_mem_cons.mpr ⟨lw_p145, List.forall_mem_cons.mpr ⟨lw_p146, List.forall_mem_cons.mpr ⟨lw_p147, List.forall_mem_cons.mpr ⟨lw_p148, List.forall_mem_cons.mpr ⟨lw_p149, List.forall_mem_cons.mpr ⟨lw_p150, List.forall_mem_cons.mpr ⟨lw_p151, fun _ h => absurd h List.not_mem_nil⟩⟩⟩⟩⟩⟩⟩⟩
def lw_privs : List (MethodName × Nat) := lw_privs_1 ++ (lw_privs_2 ++ (lw_privs_3 ++ (lw_privs_4 ++ (lw_privs_5 ++ (lw_privs_6 ++ (lw_privs_7 ++ (lw_privs_8 ++ (lw_privs_9 ++ (lw_privs_10)))))))))
def lw_tbl : List Cond := k2_sels lw_privs ++ tables_1
theorem lw_privs_ok : ∀ q ∈ lw_privs, lw_okq q := by
  show ∀ q ∈ lw_privs_1 ++ (lw_privs_2 ++ (lw_privs_3 ++ (lw_privs_4 ++ (lw_privs_5 ++ (lw_privs_6 ++ (lw_privs_7 ++ (lw_privs_8 ++ (lw_privs_9 ++ (lw_privs_10))))))))), lw_okq q
  exact List.forall_mem_append.mpr ⟨lw_r1, List.forall_mem_append.mpr ⟨lw_r2, List.forall_mem_append.mpr ⟨lw_r3, List.forall_mem_append.mpr ⟨lw_r4, List.forall_mem_append.mpr ⟨lw_r5, List.forall_mem_append.mpr ⟨lw_r6, List.forall_mem_append.mpr ⟨lw_r7, List.forall_mem_append.mpr ⟨lw_r8, List.forall_mem_append.mpr ⟨lw_r9, lw_r10⟩⟩⟩⟩⟩⟩⟩⟩⟩
-- ===== end of PART A; then your names; then what follows =====
/-! ===== BEGIN new T[n][m]: the outer array a place, the inner ones among the pooled ===== -/
/-- f, but v at every address of l -/
def vr_up {α : Type} (f : Nat → α) (l : List Nat) (v : α) : Nat → α := fun a => if a ∈ l then v else f a
theorem vr_up_in {α : Type} {f : Nat → α} {l : List Nat} {v : α} {a : Nat} (h : a ∈ l) : vr_up f l v a = v := if_pos h
theorem vr_up_ne {α : Type} {f : Nat → α} {l : List Nat} {v : α} {a : Nat} (h : a ∉ l) : vr_up f l v a = f a := if_neg h
theorem vr_rows {L l : List Nat} {f : Nat → va_E} {e : va_E} (h : ∀ a, a ∈ l → a ∉ L) : va_pl L f ++ l.map (fun a => (a, e)) = va_pl (L ++ l) (vr_up f l e) := by
  unfold va_pl
  rw [List.map_append]
  congr 1
  · apply List.map_congr_left
    intro a ha
    rw [vr_up_ne (fun q => h a q ha)]
  · apply List.map_congr_left
    intro a ha
    rw [vr_up_in ha]
theorem vr_lay {X rows : va_W} {x : Nat × va_E} {pl : va_W} {D : va_G} {cl : List vw_C} {H : Heap} (hP : va_P D cl (((X ++ pl) ++ [x]) ++ rows) H) : va_P D cl ((X ++ [x]) ++ (pl ++ rows)) H := by
  rw [List.append_assoc (X ++ pl)] at hP
  have h := va_P.swap hP
  rw [← List.append_assoc X] at h
  have h2 := va_P.swap h
  rw [List.append_assoc (X ++ [x])] at h2
  exact h2
theorem vr_layD {X rows : va_W} {x : Nat × va_E} {pl : va_W} {A : Nat → Prop} (hD : va_D A (((X ++ pl) ++ [x]) ++ rows)) : va_D A ((X ++ [x]) ++ (pl ++ rows)) := by
  rw [List.append_assoc (X ++ pl)] at hD
  have h := va_D.swap hD
  rw [← List.append_assoc X] at h
  have h2 := va_D.swap h
  rw [List.append_assoc (X ++ [x])] at h2
  exact h2
theorem vr_outer (c : ClassId) (N h0 : Nat) : ∀ i : Nat, Jvm.Free.Multi.outerC c N h0 i = arrV c N (fun j => va_rf (if j < i then some (h0 + 1 + j) else none))
  | 0 => by
    show ({ cls := c, slots := Array.replicate N .null, vm := .none } : Cell) = _
    rw [arrV_new]
    refine congrArg (arrV c N) (funext fun j => ?_)
    simp [va_rf]
  | i + 1 => by
    show (Jvm.Free.Multi.outerC c N h0 i).setSlot i (.ref (h0 + 1 + i)) = _
    rw [vr_outer c N h0 i, arrV_store]
    refine congrArg (arrV c N) (funext fun j => ?_)
    by_cases e : j = i
    · subst e
      simp [updV, va_rf]
    · by_cases h : j < i
      · simp [updV, e, h, Nat.lt_succ_of_lt h]
      · simp [updV, e, h, show ¬ j < i + 1 by omega]
def va_AOA (ty : FieldType) (U : State) : Prop := (Cond.arrayOver (.array ty)).before #[] U = true
theorem va_AOA.of {ty : FieldType} {A : Array Value} {U : State} (h : (Cond.arrayOver (.array ty)).before A U = true) : va_AOA ty U := h
theorem va_AOA.use {ty : FieldType} {A : Array Value} {U : State} (h : va_AOA ty U) : (Cond.arrayOver (.array ty)).before A U = true := h
theorem va_AOA.moved {ty : FieldType} {u U : State} (hvm : u.vm.Alike U.vm) (h : va_AOA ty u) : va_AOA ty U := Jvm.Stand.arrayOver_alikeB hvm h
section VGM
variable {p : Program} {l : Launch} {e : Env} {R : Room} {s : State} {m : MethodId} {args : Array Value} {below : List Frame} {meth : Method} {c : Code} {H : Heap} {locs : List Loc} {cells slots : Nat} {Q : State → Prop}
variable {cc : ByteArray} {pc : Nat} {ls : Array Slot} {rest : List Value} {D : va_G} {cl : List vw_C} {A : Nat → Prop} {a : Nat} {tys : List (ClassId × FieldType)} {ws : va_W} {H0 : Heap}
theorem va_mna {X : va_W} {L : List Nat} {f : Nat → va_E} {cc : ByteArray} (hexec : p.tables.exec = Jvm.exec) (hb : c.code = cc) {own : String} {index : Nat} {ty : FieldType} {cy : ClassId} (hown : s.vm.findClass own = some m.cls) (hclink : (Cond.classLink own index ("[" ++ (FieldType.array ty).toString)).before args s = true) (hover : va_AOA ty s) (harr : (Cond.arrayClass ty).before args s = true) (hcy : s.vm.findClass (FieldType.array ty).toString = some cy)
    (hK : va_K D cl tys s) (hP : va_P D cl (X ++ va_pl L f) H) (hD : va_D A (X ++ va_pl L f)) (hS : va_S A H0 H locs) (hA : ∀ q, H0.size ≤ q → A q) {n k : Int32} {N' K' : Nat} {z : vp_A} (hn : ¬ n < 0) (hk : ¬ k < 0) (hN : n.toNatClampNeg = N') (hM : k.toNatClampNeg = K')
    (hb1 : N' * 4 ≤ 536870912) (hb2 : K' * componentBytes ty ≤ 536870912) (hb3 : K' ≤ 536870912) (hdf : fits ty (defaultValue ty) = true) (hdd : (defaultValue ty).isDefault = true) (hcells : cells + (1 + N') ≤ R.cells) (hslots : slots + (N' + N' * K') ≤ R.slots) (hz : ∀ c : ClassId, Jvm.Free.Multi.innerC c K' (defaultValue ty) = vp_cell c z) (hdg : decode cc pc = .ok (.multianewarray index 2, 4))
    (kk : ∀ (q : Nat) (r : Nat → Nat) (cA : ClassId) (H1 : Heap), (∀ i j : Nat, i < N' → j < N' → r i = r j → i = j) → (∀ i : Nat, i < N' → r i ∉ L) → va_K D cl (tys ++ [(cA, .array ty)]) s →
      va_P D cl ((X ++ [(q, .inl (cA, N', .inr (.inr (.inr (.inr (fun i => if i < N' then some (r i) else none))))))]) ++ va_pl (L ++ (List.range N').map r) (vr_up f ((List.range N').map r) (.inl (cy, z)))) H1 → va_D A ((X ++ [(q, .inl (cA, N', .inr (.inr (.inr (.inr (fun i => if i < N' then some (r i) else none))))))]) ++ va_pl (L ++ (List.range N').map r) (vr_up f ((List.range N').map r) (.inl (cy, z)))) → va_S A H0 H1 locs →
      W p l e R s m args below meth c H1 locs (cells + 1 + N') (slots + N' + N' * K') Q (F0 m (pc + 4) ls (.ref q :: rest))) : W p l e R s m args below meth c H locs cells slots Q (F0 m pc ls (.int k :: .int n :: rest)) := by
  subst hN
  subst hM
  intro T hT Xs
  obtain ⟨vm₁, cA, comp, -, fA, fC, hO, -, X', step⟩ := Xs.multianewarray2F hexec hown hclink (va_AOA.use hover) harr (g := F0 m pc ls (.int k :: .int n :: rest)) rfl (by rw [hb]; exact hdg) rfl hn hk hb1 hb2 hb3 hdf hdd hcells hslots
  have ec : some cy = some comp := hcy.symm.trans fC
  cases ec
  generalize hF : Jvm.Free.Multi.fill (T.setVm vm₁) cA cy n.toNatClampNeg k.toNatClampNeg (defaultValue ty) n.toNatClampNeg = F at X' step
  have hTh : (T.setVm vm₁).heap = H := hT
  obtain ⟨f1, f2, -, -⟩ := Jvm.Free.Multi.fill_facts (T.setVm vm₁) cA cy n.toNatClampNeg k.toNatClampNeg (defaultValue ty) n.toNatClampNeg
  rw [hF, hTh] at f1 f2
  have hold : ∀ x : Nat, x < H.size → F.heap[x]? = H[x]? := fun x hx => by
    have := Jvm.Free.Multi.fill_old (T.setVm vm₁) cA cy n.toNatClampNeg k.toNatClampNeg (defaultValue ty) (a := x) (by rw [hTh]; exact hx) n.toNatClampNeg
    rw [hF, hTh] at this
    exact this
  have hrow : ∀ j : Nat, j < n.toNatClampNeg → F.heap[H.size + 1 + j]? = some (vp_cell cy z) := fun j hj => by
    have := Jvm.Free.Multi.fill_inner (T.setVm vm₁) cA cy n.toNatClampNeg k.toNatClampNeg (defaultValue ty) n.toNatClampNeg j hj
    rw [hF, hTh, hz] at this
    exact this
  have hout : Jvm.Free.Multi.outerC cA n.toNatClampNeg H.size n.toNatClampNeg = vp_cell cA (n.toNatClampNeg, .inr (.inr (.inr (.inr (fun i => if i < n.toNatClampNeg then some (H.size + 1 + i) else none))))) := by
    rw [vp_cell_q]
    exact vr_outer cA n.toNatClampNeg H.size n.toNatClampNeg
  rw [hout] at f2
  have hlt : ∀ a, a ∈ L → a < H.size := fun a ha => by
    obtain ⟨k9, hk9⟩ := va_pl_get (X := X) (f := f) ha
    exact (hP k9 _ hk9).lt
  have hnl : ∀ i : Nat, i < n.toNatClampNeg → H.size + 1 + i ∉ L := fun i _ h => by
    have := hlt _ h
    omega
  have hnm : ∀ a, a ∈ (List.range n.toNatClampNeg).map (fun i => H.size + 1 + i) → a ∉ L := fun a ha h => by
    obtain ⟨i, -, rfl⟩ := List.mem_map.mp ha
    have := hlt _ h
    omega
  have hP0 : va_P D cl (X ++ va_pl L f) F.heap := hP.kept (fun k9 x hx => hold x.1 ((hP k9 x hx).lt))
  have hP1 : va_P D cl ((X ++ va_pl L f) ++ [(H.size, .inl (cA, n.toNatClampNeg, .inr (.inr (.inr (.inr (fun i => if i < n.toNatClampNeg then some (H.size + 1 + i) else none))))))]) F.heap := hP0.app (fun k9 x hx => by
    have h0 : k9 < 1 := (List.getElem?_eq_some_iff.mp hx).1
    rw [show k9 = 0 by omega] at hx
    cases hx
    exact f2)
  have hP2 : va_P D cl (((X ++ va_pl L f) ++ [(H.size, .inl (cA, n.toNatClampNeg, .inr (.inr (.inr (.inr (fun i => if i < n.toNatClampNeg then some (H.size + 1 + i) else none))))))]) ++ ((List.range n.toNatClampNeg).map (fun i => H.size + 1 + i)).map (fun a => (a, .inl (cy, z)))) F.heap := hP1.app (fun k9 x hx => by
    obtain ⟨a, ha, rfl⟩ := List.mem_map.mp (List.mem_of_getElem? hx)
    obtain ⟨i, hi, rfl⟩ := List.mem_map.mp ha
    exact hrow i (List.mem_range.mp hi))
  have hD2 : va_D A (((X ++ va_pl L f) ++ [(H.size, .inl (cA, n.toNatClampNeg, .inr (.inr (.inr (.inr (fun i => if i < n.toNatClampNeg then some (H.size + 1 + i) else none))))))]) ++ ((List.range n.toNatClampNeg).map (fun i => H.size + 1 + i)).map (fun a => (a, .inl (cy, z)))) := by
    have hD1 := hD.push (e := .inl (cA, n.toNatClampNeg, .inr (.inr (.inr (.inr (fun i => if i < n.toNatClampNeg then some (H.size + 1 + i) else none)))))) hP rfl (hA _ hS.1)
    generalize hW1 : (X ++ va_pl L f) ++ [(H.size, .inl (cA, n.toNatClampNeg, .inr (.inr (.inr (.inr (fun i => if i < n.toNatClampNeg then some (H.size + 1 + i) else none))))))] = W1 at hD1 hP1 ⊢
    have hle : ∀ (k9 : Nat) (x : Nat × va_E), W1[k9]? = some x → x.1 ≤ H.size := fun k9 x hx => by
      rw [← hW1] at hx
      by_cases hl : k9 < (X ++ va_pl L f).length
      · rw [List.getElem?_append_left hl] at hx
        exact Nat.le_of_lt ((hP k9 x hx).lt)
      · rw [List.getElem?_append_right (by omega)] at hx
        have h0 : k9 - (X ++ va_pl L f).length < 1 := (List.getElem?_eq_some_iff.mp hx).1
        rw [show k9 - (X ++ va_pl L f).length = 0 by omega] at hx
        cases hx
        exact Nat.le_refl _
    have hr : ∀ (k9 : Nat) (x : Nat × va_E), (((List.range n.toNatClampNeg).map (fun i => H.size + 1 + i)).map (fun a => ((a, .inl (cy, z)) : Nat × va_E)))[k9]? = some x → x.1 = H.size + 1 + k9 := fun k9 x hx => by
      rw [List.getElem?_map, List.getElem?_map] at hx
      by_cases h9 : k9 < n.toNatClampNeg
      · rw [List.getElem?_range h9] at hx
        cases hx
        rfl
      · have hn0 : (List.range n.toNatClampNeg)[k9]? = none := List.getElem?_eq_none (by rw [List.length_range]; omega)
        rw [hn0] at hx
        cases hx
    refine ⟨fun i j x y hi hj hxy => ?_, fun k9 x hx => ?_⟩
    · by_cases h1 : i < W1.length <;> by_cases h2 : j < W1.length
      · rw [List.getElem?_append_left h1] at hi
        rw [List.getElem?_append_left h2] at hj
        exact hD1.1 i j x y hi hj hxy
      · rw [List.getElem?_append_left h1] at hi
        rw [List.getElem?_append_right (by omega)] at hj
        have := hle _ _ hi
        have := hr _ _ hj
        omega
      · rw [List.getElem?_append_right (by omega)] at hi
        rw [List.getElem?_append_left h2] at hj
        have := hle _ _ hj
        have := hr _ _ hi
        omega
      · rw [List.getElem?_append_right (by omega)] at hi hj
        have := hr _ _ hi
        have := hr _ _ hj
        omega
    · by_cases h1 : k9 < W1.length
      · rw [List.getElem?_append_left h1] at hx
        exact hD1.2 k9 x hx
      · rw [List.getElem?_append_right (by omega)] at hx
        have := hr _ _ hx
        exact hA _ (by have := hS.1; omega)
  have hAr : ArrOfT s cA (.array ty) := fun N9 z9 => by
    obtain ⟨-, k9, hk9, cm9, hkk9⟩ := (hO 0 0 0).1
    exact ⟨(fun q hq => by cases hq), k9, hk9, cm9, hkk9⟩
  have hK2 : va_K D cl (tys ++ [(cA, .array ty)]) s := ⟨hK.1, fun k9 x hx => by
    by_cases hl : k9 < tys.length
    · rw [List.getElem?_append_left hl] at hx
      exact hK.2 k9 x hx
    · rw [List.getElem?_append_right (by omega)] at hx
      have h0 : k9 - tys.length < 1 := (List.getElem?_eq_some_iff.mp hx).1
      rw [show k9 - tys.length = 0 by omega] at hx
      cases hx
      exact ⟨hAr, fA⟩⟩
  obtain ⟨t, a1, b1⟩ := kk H.size (fun i => H.size + 1 + i) cA F.heap (fun i j _ _ h => by have h9 : H.size + 1 + i = H.size + 1 + j := h; omega) hnl hK2 (by rw [← vr_rows hnm]; exact vr_lay hP2) (by rw [← vr_rows hnm]; exact vr_layD hD2) ⟨by rw [f1]; have := hS.1; omega, fun x h1 h2 => (hold x (Nat.lt_of_lt_of_le h1 hS.1)).trans (hS.2.1 x h1 h2), hS.2.2⟩ F rfl X'
  refine ⟨t, step t ?_, b1⟩
  have e : T.heap.size = H.size := by rw [hT]
  rw [e]
  exact a1
end VGM
/-! ===== END ===== -/
end
section
/-! tables of the abstract machine, written by program out of the Statement of this claim -/
def eg_T0 : u_T := fun k => match k with
  | 0 => ("KnobEye$Claim", "cond", "LKnobEye$Node;", true)
  | 1 => ("KnobEye$Claim", "eye", "I", true)
  | 2 => ("KnobEye$Claim", "rule", "I", true)
  | _ => ("KnobEye$Claim", "unseen", "Z", true)
def eg_y0 : Nat → FieldType := fun k => match k with
  | 0 => .object "KnobEye$Node"
  | 1 => .int
  | 2 => .int
  | _ => .boolean
def eg_T1 : u_T := fun k => match k with
  | 0 => ("KnobEye$Eye", "wires", "I", false)
  | 1 => ("KnobEye$Eye", "cells", "[I", true)
  | 2 => ("KnobEye$Eye", "kinds", "[I", true)
  | 3 => ("KnobEye$Eye", "knobs", "[I", true)
  | 4 => ("KnobEye$Eye", "line", "I", false)
  | 5 => ("KnobEye$Eye", "shown", "I", false)
  | 6 => ("KnobEye$Eye", "stuck", "I", false)
  | _ => ("KnobEye$Eye", "falls", "I", false)
def eg_y1 : Nat → FieldType := fun k => match k with
  | 0 => .int
  | 1 => .array .int
  | 2 => .array .int
  | 3 => .array .int
  | 4 => .int
  | 5 => .int
  | 6 => .int
  | _ => .int
def eg_T2 : u_T := fun k => match k with
  | 0 => ("KnobEye$Facts", "lit", "I", false)
  | 1 => ("KnobEye$Facts", "wrong", "Z", false)
  | 2 => ("KnobEye$Facts", "yes", "Z", false)
  | 3 => ("KnobEye$Facts", "far", "I", false)
  | 4 => ("KnobEye$Facts", "value", "I", false)
  | 5 => ("KnobEye$Facts", "knob", "I", false)
  | 6 => ("KnobEye$Facts", "shown", "I", false)
  | 7 => ("KnobEye$Facts", "rightCards", "I", false)
  | 8 => ("KnobEye$Facts", "cards", "I", false)
  | 9 => ("KnobEye$Facts", "unseen", "I", false)
  | 10 => ("KnobEye$Facts", "knobs", "I", false)
  | _ => ("KnobEye$Facts", "blind", "Z", false)
def eg_y2 : Nat → FieldType := fun k => match k with
  | 0 => .int
  | 1 => .boolean
  | 2 => .boolean
  | 3 => .int
  | 4 => .int
  | 5 => .int
  | 6 => .int
  | 7 => .int
  | 8 => .int
  | 9 => .int
  | 10 => .int
  | _ => .boolean
def eg_T3 : u_T := fun k => match k with
  | 0 => ("KnobEye$Likes", "keys", "[I", true)
  | 1 => ("KnobEye$Likes", "firsts", "[I", true)
  | _ => ("KnobEye$Likes", "pass", "I", false)
def eg_y3 : Nat → FieldType := fun k => match k with
  | 0 => .array .int
  | 1 => .array .int
  | _ => .int
def eg_T4 : u_T := fun k => match k with
  | 0 => ("KnobEye$Node", "kind", "I", true)
  | 1 => ("KnobEye$Node", "next", "LKnobEye$Node;", false)
  | 2 => ("KnobEye$Node", "first", "LKnobEye$Node;", false)
  | 3 => ("KnobEye$Node", "second", "LKnobEye$Node;", false)
  | 4 => ("KnobEye$Node", "word", "LKnobEye$Word;", false)
  | _ => ("KnobEye$Node", "number", "I", false)
def eg_y4 : Nat → FieldType := fun k => match k with
  | 0 => .int
  | 1 => .object "KnobEye$Node"
  | 2 => .object "KnobEye$Node"
  | 3 => .object "KnobEye$Node"
  | 4 => .object "KnobEye$Word"
  | _ => .int
def eg_T5 : u_T := fun k => match k with
  | 0 => ("KnobEye$Reader", "tape", "[C", true)
  | 1 => ("KnobEye$Reader", "length", "I", false)
  | 2 => ("KnobEye$Reader", "wrong", "I", false)
  | 3 => ("KnobEye$Reader", "unseen", "Z", false)
  | 4 => ("KnobEye$Reader", "things", "[LKnobEye$Word;", true)
  | 5 => ("KnobEye$Reader", "begins", "[I", true)
  | 6 => ("KnobEye$Reader", "numbers", "[I", true)
  | 7 => ("KnobEye$Reader", "many", "I", false)
  | _ => ("KnobEye$Reader", "at", "I", false)
def eg_y5 : Nat → FieldType := fun k => match k with
  | 0 => .array .char
  | 1 => .int
  | 2 => .int
  | 3 => .boolean
  | 4 => .array (.object "KnobEye$Word")
  | 5 => .array .int
  | 6 => .array .int
  | 7 => .int
  | _ => .int
def eg_T6 : u_T := fun k => match k with
  | 0 => ("KnobEye$Rule", "cond", "LKnobEye$Node;", true)
  | _ => ("KnobEye$Rule", "table", "[J", false)
def eg_y6 : Nat → FieldType := fun k => match k with
  | 0 => .object "KnobEye$Node"
  | _ => .array .long
def eg_T7 : u_T := fun k => match k with
  | 0 => ("KnobEye$Search", "adds", "[[I", true)
  | 1 => ("KnobEye$Search", "reach", "[[I", true)
  | 2 => ("KnobEye$Search", "sums", "[[I", true)
  | 3 => ("KnobEye$Search", "tried", "[I", true)
  | 4 => ("KnobEye$Search", "pairs", "I", false)
  | 5 => ("KnobEye$Search", "columns", "I", false)
  | 6 => ("KnobEye$Search", "wires", "I", false)
  | 7 => ("KnobEye$Search", "k", "I", false)
  | 8 => ("KnobEye$Search", "stopAtFirst", "Z", false)
  | 9 => ("KnobEye$Search", "countEyes", "Z", false)
  | 10 => ("KnobEye$Search", "yesEnd", "I", false)
  | 11 => ("KnobEye$Search", "noEnd", "I", false)
  | 12 => ("KnobEye$Search", "asked", "I", false)
  | 13 => ("KnobEye$Search", "any", "Z", false)
  | 14 => ("KnobEye$Search", "best", "[I", true)
  | 15 => ("KnobEye$Search", "least", "I", false)
  | 16 => ("KnobEye$Search", "eyes", "I", false)
  | _ => ("KnobEye$Search", "sayYes", "[I", true)
def eg_y7 : Nat → FieldType := fun k => match k with
  | 0 => .array (.array .int)
  | 1 => .array (.array .int)
  | 2 => .array (.array .int)
  | 3 => .array .int
  | 4 => .int
  | 5 => .int
  | 6 => .int
  | 7 => .int
  | 8 => .boolean
  | 9 => .boolean
  | 10 => .int
  | 11 => .int
  | 12 => .int
  | 13 => .boolean
  | 14 => .array .int
  | 15 => .int
  | 16 => .int
  | _ => .array .int
def eg_T8 : u_T := fun k => match k with
  | 0 => ("KnobEye$State", "ruleCount", "I", false)
  | 1 => ("KnobEye$State", "rules", "[LKnobEye$Rule;", true)
  | 2 => ("KnobEye$State", "cardCount", "I", false)
  | 3 => ("KnobEye$State", "lit", "[I", true)
  | 4 => ("KnobEye$State", "yes", "[Z", true)
  | 5 => ("KnobEye$State", "eyeCount", "I", false)
  | 6 => ("KnobEye$State", "eyes", "[LKnobEye$Eye;", true)
  | 7 => ("KnobEye$State", "turnerCount", "I", false)
  | 8 => ("KnobEye$State", "turners", "[LKnobEye$Turner;", true)
  | 9 => ("KnobEye$State", "claimCount", "I", false)
  | _ => ("KnobEye$State", "claims", "[LKnobEye$Claim;", true)
def eg_y8 : Nat → FieldType := fun k => match k with
  | 0 => .int
  | 1 => .array (.object "KnobEye$Rule")
  | 2 => .int
  | 3 => .array .int
  | 4 => .array .boolean
  | 5 => .int
  | 6 => .array (.object "KnobEye$Eye")
  | 7 => .int
  | 8 => .array (.object "KnobEye$Turner")
  | 9 => .int
  | _ => .array (.object "KnobEye$Claim")
def eg_T9 : u_T := fun k => match k with
  | 0 => ("KnobEye$Turner", "lines", "I", false)
  | 1 => ("KnobEye$Turner", "turns", "[Z", true)
  | 2 => ("KnobEye$Turner", "numbers", "[I", true)
  | _ => ("KnobEye$Turner", "conds", "[LKnobEye$Node;", true)
def eg_y9 : Nat → FieldType := fun k => match k with
  | 0 => .int
  | 1 => .array .boolean
  | 2 => .array .int
  | _ => .array (.object "KnobEye$Node")
def eg_T10 : u_T := fun k => match k with
  | 0 => ("KnobEye", "now", "LKnobEye$State;", true)
  | 1 => ("KnobEye", "kept", "LKnobEye$State;", true)
  | 2 => ("KnobEye", "hasImage", "Z", false)
  | 3 => ("KnobEye", "reader", "LKnobEye$Reader;", true)
  | 4 => ("KnobEye", "facts", "LKnobEye$Facts;", true)
  | 5 => ("KnobEye", "search", "LKnobEye$Search;", true)
  | 6 => ("KnobEye", "foundEye", "I", false)
  | 7 => ("KnobEye", "foundK", "I", false)
  | 8 => ("KnobEye", "spare", "LKnobEye$Eye;", true)
  | 9 => ("KnobEye", "order", "[I", true)
  | 10 => ("KnobEye", "fewest", "I", false)
  | _ => ("KnobEye", "likes", "LKnobEye$Likes;", true)
def eg_y10 : Nat → FieldType := fun k => match k with
  | 0 => .object "KnobEye$State"
  | 1 => .object "KnobEye$State"
  | 2 => .boolean
  | 3 => .object "KnobEye$Reader"
  | 4 => .object "KnobEye$Facts"
  | 5 => .object "KnobEye$Search"
  | 6 => .int
  | 7 => .int
  | 8 => .object "KnobEye$Eye"
  | 9 => .array .int
  | 10 => .int
  | _ => .object "KnobEye$Likes"
def eg_T11 : u_T := fun k => match k with
  | 0 => ("KnobEyeModel", "thrown", "I", false)
  | 1 => ("KnobEyeModel", "world", "[I", true)
  | 2 => ("KnobEyeModel", "image", "[I", true)
  | 3 => ("KnobEyeModel", "hasImage", "Z", false)
  | 4 => ("KnobEyeModel", "tape", "[B", true)
  | 5 => ("KnobEyeModel", "taped", "I", false)
  | 6 => ("KnobEyeModel", "point", "I", false)
  | 7 => ("KnobEyeModel", "end", "I", false)
  | 8 => ("KnobEyeModel", "begin", "I", false)
  | 9 => ("KnobEyeModel", "deep", "I", false)
  | 10 => ("KnobEyeModel", "faultAt", "I", false)
  | 11 => ("KnobEyeModel", "five", "[I", true)
  | 12 => ("KnobEyeModel", "steps", "I", false)
  | 13 => ("KnobEyeModel", "kindOf", "I", false)
  | 14 => ("KnobEyeModel", "facts", "[I", true)
  | 15 => ("KnobEyeModel", "tags", "[Z", true)
  | 16 => ("KnobEyeModel", "litNow", "I", false)
  | 17 => ("KnobEyeModel", "value", "[J", true)
  | 18 => ("KnobEyeModel", "isKnown", "[Z", true)
  | 19 => ("KnobEyeModel", "known", "[J", true)
  | 20 => ("KnobEyeModel", "values", "[I", true)
  | 21 => ("KnobEyeModel", "tried", "[I", true)
  | 22 => ("KnobEyeModel", "best", "[I", true)
  | 23 => ("KnobEyeModel", "bestSum", "I", false)
  | 24 => ("KnobEyeModel", "bestLine", "I", false)
  | 25 => ("KnobEyeModel", "bestLeast", "I", false)
  | 26 => ("KnobEyeModel", "bestGreatest", "I", false)
  | 27 => ("KnobEyeModel", "longest", "I", false)
  | 28 => ("KnobEyeModel", "eyes", "I", false)
  | 29 => ("KnobEyeModel", "some", "Z", false)
  | 30 => ("KnobEyeModel", "order", "[I", true)
  | 31 => ("KnobEyeModel", "orderThen", "[I", true)
  | 32 => ("KnobEyeModel", "many", "[I", true)
  | 33 => ("KnobEyeModel", "turnOf", "[I", true)
  | 34 => ("KnobEyeModel", "eyeThen", "[I", true)
  | _ => ("KnobEyeModel", "yesOf", "[I", true)
def eg_y11 : Nat → FieldType := fun k => match k with
  | 0 => .int
  | 1 => .array .int
  | 2 => .array .int
  | 3 => .boolean
  | 4 => .array .byte
  | 5 => .int
  | 6 => .int
  | 7 => .int
  | 8 => .int
  | 9 => .int
  | 10 => .int
  | 11 => .array .int
  | 12 => .int
  | 13 => .int
  | 14 => .array .int
  | 15 => .array .boolean
  | 16 => .int
  | 17 => .array .long
  | 18 => .array .boolean
  | 19 => .array .long
  | 20 => .array .int
  | 21 => .array .int
  | 22 => .array .int
  | 23 => .int
  | 24 => .int
  | 25 => .int
  | 26 => .int
  | 27 => .int
  | 28 => .int
  | 29 => .boolean
  | 30 => .array .int
  | 31 => .array .int
  | 32 => .array .int
  | 33 => .array .int
  | 34 => .array .int
  | _ => .array .int
abbrev eg_cl : List vw_C := [("KnobEye$Claim", eg_T0, 4), ("KnobEye$Eye", eg_T1, 8), ("KnobEye$Facts", eg_T2, 12), ("KnobEye$Likes", eg_T3, 3), ("KnobEye$Node", eg_T4, 6), ("KnobEye$Reader", eg_T5, 9), ("KnobEye$Rule", eg_T6, 2), ("KnobEye$Search", eg_T7, 18), ("KnobEye$State", eg_T8, 11), ("KnobEye$Turner", eg_T9, 4), ("KnobEye", eg_T10, 12), ("KnobEyeModel", eg_T11, 36)]
abbrev eg_yl : List (Nat → FieldType) := [eg_y0, eg_y1, eg_y2, eg_y3, eg_y4, eg_y5, eg_y6, eg_y7, eg_y8, eg_y9, eg_y10, eg_y11]
def eg_fd (ci k : Nat) : String × String × String × Bool := match ci with
  | 0 => eg_T0 k
  | 1 => eg_T1 k
  | 2 => eg_T2 k
  | 3 => eg_T3 k
  | 4 => eg_T4 k
  | 5 => eg_T5 k
  | 6 => eg_T6 k
  | 7 => eg_T7 k
  | 8 => eg_T8 k
  | 9 => eg_T9 k
  | 10 => eg_T10 k
  | 11 => eg_T11 k
  | 12 => match k with | 0 => ("java/lang/Enum", "ordinal", "I", true) | 1 => ("KnobEye$Word", "text", "Ljava/lang/String;", true) | 2 => ("KnobEye$Word", "place", "I", true) | _ => ("KnobEye$Word", "kind", "I", true)
  | _ => match k with | 0 => ("java/lang/String", "value", "[B", true) | _ => ("java/lang/String", "coder", "B", true)
def eg_own : List String := ["KnobEyeLaw", "KnobEye$Claim", "KnobEye$Eye", "KnobEye$Facts", "KnobEye$Likes", "KnobEye$Node", "KnobEye$Reader", "KnobEye$Rule", "KnobEye$Search", "KnobEye$State", "KnobEye$Turner", "KnobEye", "KnobEyeModel", "KnobEye$1", "KnobEye$Word", "java/lang/String", "java/lang/StringLatin1", "java/lang/StringUTF16", "java/lang/Enum", "java/lang/Integer", "java/lang/Math", "jdk/internal/util/Preconditions"]
def eg_on (o : Nat) : String := eg_own.getD o ""
/-- field references: class (by its place), pool index, the class whose field it is, which one, the nest host -/
def eg_fT : List (List (Nat × Nat × Nat × Option String)) := [[], [(7, 0, 0, none), (13, 0, 1, none), (17, 0, 2, none), (20, 0, 3, none)], [(21, 1, 0, none), (9, 1, 1, none), (15, 1, 2, none), (18, 1, 3, none), (25, 1, 4, none), (28, 1, 5, none), (31, 1, 6, none), (34, 1, 7, none), (70, 2, 1, some "KnobEye"), (76, 2, 2, some "KnobEye"), (79, 2, 3, some "KnobEye"), (87, 2, 4, some "KnobEye"), (90, 2, 5, some "KnobEye"), (82, 2, 6, some "KnobEye")], [(41, 2, 0, none), (86, 2, 1, none), (90, 2, 2, none), (54, 2, 3, none), (57, 2, 4, none), (60, 2, 5, none), (63, 2, 6, none), (66, 2, 7, none), (69, 2, 8, none), (72, 2, 9, none), (75, 2, 10, none), (93, 2, 11, none), (25, 4, 1, some "KnobEye"), (9, 4, 4, some "KnobEye"), (15, 4, 5, some "KnobEye")], [(10, 3, 0, none), (14, 3, 1, none), (17, 3, 2, none)], [(9, 4, 0, none), (43, 4, 1, none), (28, 4, 2, none), (36, 4, 3, none), (15, 4, 4, none), (19, 4, 5, none)], [(9, 5, 0, none), (32, 5, 1, none), (15, 5, 2, none), (70, 5, 3, none), (21, 5, 4, none), (25, 5, 5, none), (29, 5, 6, none), (74, 5, 7, none), (67, 5, 8, none), (161, 4, 1, some "KnobEye"), (157, 4, 2, some "KnobEye"), (207, 4, 3, some "KnobEye"), (189, 4, 4, some "KnobEye"), (195, 4, 5, some "KnobEye"), (135, 9, 0, some "KnobEye"), (106, 12, 2, some "KnobEye"), (109, 12, 1, some "KnobEye"), (129, 12, 3, some "KnobEye")], [(9, 6, 0, none), (15, 6, 1, none), (20, 2, 0, some "KnobEye")], [(13, 7, 0, none), (16, 7, 1, none), (19, 7, 2, none), (22, 7, 3, none), (94, 7, 4, none), (65, 7, 5, none), (90, 7, 6, none), (91, 7, 7, none), (36, 7, 8, none), (49, 7, 9, none), (68, 7, 10, none), (71, 7, 11, none), (58, 7, 12, none), (97, 7, 13, none), (26, 7, 14, none), (101, 7, 15, none), (104, 7, 16, none), (29, 7, 17, none), (85, 1, 0, some "KnobEye"), (43, 8, 2, some "KnobEye"), (82, 8, 3, some "KnobEye"), (78, 8, 4, some "KnobEye")], [(44, 8, 0, none), (11, 8, 1, none), (48, 8, 2, none), (17, 8, 3, none), (21, 8, 4, none), (51, 8, 5, none), (27, 8, 6, none), (58, 8, 7, none), (33, 8, 8, none), (61, 8, 9, none), (39, 8, 10, none), (64, 1, 0, some "KnobEye")], [(25, 9, 0, none), (9, 9, 1, none), (15, 9, 2, none), (21, 9, 3, none)], [(12, 10, 0, none), (16, 10, 1, none), (332, 10, 2, none), (22, 10, 3, none), (29, 10, 4, none), (36, 10, 5, none), (40, 10, 6, none), (44, 10, 7, none), (50, 10, 8, none), (54, 10, 9, none), (297, 10, 10, none), (61, 10, 11, none), (159, 1, 0, some "KnobEye"), (183, 1, 3, some "KnobEye"), (186, 1, 4, some "KnobEye"), (189, 1, 5, some "KnobEye"), (177, 1, 6, some "KnobEye"), (180, 1, 7, some "KnobEye"), (86, 8, 0, some "KnobEye"), (92, 8, 1, some "KnobEye"), (150, 8, 2, some "KnobEye"), (214, 8, 3, some "KnobEye"), (217, 8, 4, some "KnobEye"), (156, 8, 5, some "KnobEye"), (338, 8, 6, some "KnobEye"), (105, 8, 7, some "KnobEye"), (108, 8, 8, some "KnobEye"), (120, 8, 9, some "KnobEye"), (123, 8, 10, some "KnobEye"), (73, 5, 1, some "KnobEye"), (136, 5, 2, some "KnobEye"), (129, 5, 3, some "KnobEye"), (401, 2, 6, some "KnobEye"), (396, 2, 7, some "KnobEye"), (398, 2, 8, some "KnobEye"), (394, 2, 9, some "KnobEye"), (405, 2, 10, some "KnobEye"), (407, 2, 11, some "KnobEye"), (231, 7, 13, some "KnobEye"), (234, 7, 14, some "KnobEye"), (240, 7, 15, some "KnobEye"), (319, 7, 16, some "KnobEye"), (384, 7, 17, some "KnobEye"), (410, 0, 0, some "KnobEye"), (387, 0, 1, some "KnobEye"), (391, 0, 2, some "KnobEye"), (390, 0, 3, some "KnobEye")], [(3, 11, 0, none), (13, 11, 1, none), (17, 11, 2, none), (76, 11, 3, none), (20, 11, 4, none), (105, 11, 5, none), (111, 11, 6, none), (108, 11, 7, none), (121, 11, 8, none), (203, 11, 9, none), (24, 11, 10, none), (27, 11, 11, none), (114, 11, 12, none), (146, 11, 13, none), (30, 11, 14, none), (33, 11, 15, none), (265, 11, 16, none), (37, 11, 17, none), (41, 11, 18, none), (44, 11, 19, none), (47, 11, 20, none), (50, 11, 21, none), (53, 11, 22, none), (387, 11, 23, none), (396, 11, 24, none), (390, 11, 25, none), (393, 11, 26, none), (381, 11, 27, none), (460, 11, 28, none), (384, 11, 29, none), (57, 11, 30, none), (60, 11, 31, none), (64, 11, 32, none), (67, 11, 33, none), (70, 11, 34, none), (73, 11, 35, none)], [], [], [(9, 13, 0, none), (15, 13, 1, none)], [], [], [(7, 12, 0, none)], [], [], []]
-- constants: 0..35 the words, 36.. the strings, then their bytes, then WORDS, then the switch map
def eg_wn : List String := ["PIECE", "EVEN", "CELL", "LIT", "LEFT", "RIGHT", "UP", "ROWS", "WRONG", "YES", "FAR", "VALUE", "KNOB", "SHOWN", "BLIND", "RIGHT_CARDS", "CARDS", "UNSEEN", "SHOWN_CARDS", "KNOBS", "AND", "OR", "NOT", "OPEN", "CLOSE", "LESS", "MORE", "PLUS", "TIMES", "TURN", "LINE", "IF", "BREAK", "NUMBER", "END", "SENSELESS"]
/-- of each word: the place of its text among the strings, its place, its kind -/
def eg_wf : List (Nat × Int32 × Int32) := [(40, 0, 1), (41, 0, 1), (32, 0, 1), (42, 0, 2), (43, 0, 2), (44, 0, 2), (45, 0, 2), (46, 0, 2), (47, 1, 1), (48, 1, 1), (49, 1, 2), (50, 1, 2), (51, 1, 2), (52, 1, 2), (53, 2, 1), (44, 2, 2), (54, 2, 2), (28, 2, 2), (52, 2, 2), (55, 2, 2), (35, 3, 0), (34, 3, 0), (25, 3, 0), (26, 3, 0), (33, 3, 0), (30, 3, 0), (31, 3, 0), (29, 3, 0), (27, 3, 0), (36, 1, 0), (37, 1, 0), (38, 1, 0), (39, 1, 0), (24, 3, 0), (24, 3, 0), (24, 3, 0)]
def eg_sl : List (String × Nat × String) := [("KnobEyeModel", 233, "turn"), ("KnobEyeModel", 235, "line"), ("KnobEyeModel", 237, "if"), ("KnobEyeModel", 209, "not"), ("KnobEyeModel", 171, "piece"), ("KnobEyeModel", 173, "even"), ("KnobEyeModel", 175, "c"), ("KnobEyeModel", 177, "wrong"), ("KnobEyeModel", 179, "yes"), ("KnobEyeModel", 181, "blind"), ("KnobEyeModel", 149, "lit"), ("KnobEyeModel", 151, "left"), ("KnobEyeModel", 153, "right"), ("KnobEyeModel", 155, "up"), ("KnobEyeModel", 157, "rows"), ("KnobEyeModel", 159, "far"), ("KnobEyeModel", 161, "value"), ("KnobEyeModel", 162, "knob"), ("KnobEyeModel", 164, "shown"), ("KnobEyeModel", 166, "cards"), ("KnobEyeModel", 167, "unseen"), ("KnobEyeModel", 169, "knobs"), ("KnobEyeModel", 223, "and"), ("KnobEyeModel", 228, "or"), ("KnobEye$Word", 243, ""), ("KnobEye$Word", 210, "not"), ("KnobEye$Word", 213, "("), ("KnobEye$Word", 228, "*"), ("KnobEye$Word", 197, "unseen"), ("KnobEye$Word", 225, "+"), ("KnobEye$Word", 219, "<"), ("KnobEye$Word", 222, ">"), ("KnobEye$Word", 154, "c"), ("KnobEye$Word", 216, ")"), ("KnobEye$Word", 207, "or"), ("KnobEye$Word", 204, "and"), ("KnobEye$Word", 231, "turn"), ("KnobEye$Word", 234, "line"), ("KnobEye$Word", 237, "if"), ("KnobEye$Word", 240, ";"), ("KnobEye$Word", 145, "piece"), ("KnobEye$Word", 151, "even"), ("KnobEye$Word", 157, "lit"), ("KnobEye$Word", 160, "left"), ("KnobEye$Word", 163, "right"), ("KnobEye$Word", 166, "up"), ("KnobEye$Word", 169, "rows"), ("KnobEye$Word", 172, "wrong"), ("KnobEye$Word", 175, "yes"), ("KnobEye$Word", 178, "far"), ("KnobEye$Word", 181, "value"), ("KnobEye$Word", 184, "knob"), ("KnobEye$Word", 187, "shown"), ("KnobEye$Word", 190, "blind"), ("KnobEye$Word", 194, "cards"), ("KnobEye$Word", 201, "knobs")]
def eg_by : List (List Int32) := [[116, 117, 114, 110], [108, 105, 110, 101], [105, 102], [110, 111, 116], [112, 105, 101, 99, 101], [101, 118, 101, 110], [99], [119, 114, 111, 110, 103], [121, 101, 115], [98, 108, 105, 110, 100], [108, 105, 116], [108, 101, 102, 116], [114, 105, 103, 104, 116], [117, 112], [114, 111, 119, 115], [102, 97, 114], [118, 97, 108, 117, 101], [107, 110, 111, 98], [115, 104, 111, 119, 110], [99, 97, 114, 100, 115], [117, 110, 115, 101, 101, 110], [107, 110, 111, 98, 115], [97, 110, 100], [111, 114], [], [110, 111, 116], [40], [42], [117, 110, 115, 101, 101, 110], [43], [60], [62], [99], [41], [111, 114], [97, 110, 100], [116, 117, 114, 110], [108, 105, 110, 101], [105, 102], [59], [112, 105, 101, 99, 101], [101, 118, 101, 110], [108, 105, 116], [108, 101, 102, 116], [114, 105, 103, 104, 116], [117, 112], [114, 111, 119, 115], [119, 114, 111, 110, 103], [121, 101, 115], [102, 97, 114], [118, 97, 108, 117, 101], [107, 110, 111, 98], [115, 104, 111, 119, 110], [98, 108, 105, 110, 100], [99, 97, 114, 100, 115], [107, 110, 111, 98, 115]]
def eg_sw : List Int32 := [15, 16, 17, 1, 2, 3, 4, 5, 18, 19, 6, 7, 8, 9, 20, 11, 12, 13, 10, 14, 0, 0, 0, 0, 0, 0, 0, 0, 0, 0, 0, 0, 0, 0, 0, 0]
def eg_NS : Nat := 56
def eg_NC : Nat := 150
/-- the statics: class, name, descriptor, what they hold -/
def eg_sv : List (String × String × String × Value) := [("KnobEye", "WORDS", "[LKnobEye$Word;", .ref 148), ("KnobEye$1", "$SwitchMap$KnobEye$Word", "[I", .ref 149), ("KnobEye$Word", "AND", "LKnobEye$Word;", .ref 20), ("KnobEye$Word", "BREAK", "LKnobEye$Word;", .ref 32), ("KnobEye$Word", "CELL", "LKnobEye$Word;", .ref 2), ("KnobEye$Word", "CLOSE", "LKnobEye$Word;", .ref 24), ("KnobEye$Word", "END", "LKnobEye$Word;", .ref 34), ("KnobEye$Word", "IF", "LKnobEye$Word;", .ref 31), ("KnobEye$Word", "LESS", "LKnobEye$Word;", .ref 25), ("KnobEye$Word", "LINE", "LKnobEye$Word;", .ref 30), ("KnobEye$Word", "MORE", "LKnobEye$Word;", .ref 26), ("KnobEye$Word", "NOT", "LKnobEye$Word;", .ref 22), ("KnobEye$Word", "NUMBER", "LKnobEye$Word;", .ref 33), ("KnobEye$Word", "OPEN", "LKnobEye$Word;", .ref 23), ("KnobEye$Word", "OR", "LKnobEye$Word;", .ref 21), ("KnobEye$Word", "PLUS", "LKnobEye$Word;", .ref 27), ("KnobEye$Word", "SENSELESS", "LKnobEye$Word;", .ref 35), ("KnobEye$Word", "TIMES", "LKnobEye$Word;", .ref 28), ("KnobEye$Word", "TURN", "LKnobEye$Word;", .ref 29), ("KnobEye$Word", "UNSEEN", "LKnobEye$Word;", .ref 17), ("java/lang/String", "COMPACT_STRINGS", "Z", .int 1), ("java/lang/StringUTF16", "HI_BYTE_SHIFT", "I", .int 0), ("java/lang/StringUTF16", "LO_BYTE_SHIFT", "I", .int 8)]
def eg_sT : List (List (Nat × Nat × Option String)) := [[], [], [], [(29, 1, none)], [], [], [(100, 12, none), (117, 16, none), (45, 6, none), (170, 11, none), (173, 13, none), (210, 17, none), (213, 19, none), (216, 15, none), (201, 8, none), (204, 10, none), (192, 4, none), (186, 5, none), (164, 14, none), (167, 2, none), (132, 18, none), (138, 9, none), (144, 7, none), (64, 3, none), (103, 0, some "KnobEye")], [], [], [], [], [], [], [], [], [(38, 20, none)], [], [(59, 21, none), (63, 22, none)], [], [], [], []]
def eg_kT : List (List (Nat × Value)) := [[], [], [], [(96, .int (61166)), (50, .int (52428))], [(9, .int (65536)), (21, .int (-1640531535)), (22, .int (65535))], [], [], [(19, .int (65536))], [(100, .int (1073741824))], [], [], [(274, .int (65536)), (345, .int (-1073741824)), (346, .int (1073741824)), (354, .long (1073741824)), (356, .long (-1073741824)), (366, .long (4))], [(56, .int (65536)), (63, .int (32769)), (104, .int (65535)), (278, .int (52428)), (376, .int (1000000)), (377, .int (-1000000)), (419, .int (32768)), (268, .long (2)), (414, .long (4)), (233, .ref 36), (235, .ref 37), (237, .ref 38), (209, .ref 39), (171, .ref 40), (173, .ref 41), (175, .ref 42), (177, .ref 43), (179, .ref 44), (181, .ref 45), (149, .ref 46), (151, .ref 47), (153, .ref 48), (155, .ref 49), (157, .ref 50), (159, .ref 51), (161, .ref 52), (162, .ref 53), (164, .ref 54), (166, .ref 55), (167, .ref 56), (169, .ref 57), (223, .ref 58), (228, .ref 59)], [], [], [], [], [], [], [(265, .int (1431655765)), (266, .int (858993459)), (267, .int (252645135)), (264, .int (65536))], [], []]
def eg_ex : List String := ["java/lang/IllegalArgumentException", "java/lang/IndexOutOfBoundsException", "java/lang/UnsupportedOperationException", "java/util/NoSuchElementException"]
/-- the kinds of arrays by their elements: 0..4 numbers, 5..10 objects, 11 rows of ints -/
def eg_ty : List FieldType := [.int, .byte, .long, .boolean, .char, .object "KnobEye$Rule", .object "KnobEye$Eye", .object "KnobEye$Turner", .object "KnobEye$Claim", .object "KnobEye$Word", .object "KnobEye$Node", .array .int]
/-- class references: pool index, which: below 12 a class, 12 Word, 20.. an exception, 30 rows of ints -/
def eg_cT : List (List (Nat × Nat)) := [[(8, 10), (13, 20), (15, 22), (24, 21), (55, 23), (118, 11)], [], [], [], [], [], [(19, 12), (39, 4), (57, 9)], [], [(11, 30)], [(9, 6), (25, 1), (31, 9), (37, 0)], [(19, 4)], [(9, 8), (19, 5), (26, 2), (33, 7), (47, 1), (58, 3), (207, 21), (83, 20), (89, 22), (96, 6), (127, 0), (200, 23)], [], [], [], [], [], [], [], [], [], []]
def eg_cn (k : Nat) : String := if k < 12 then (eg_cl.getD k ("", eg_T0, 0)).1 else if k = 12 then "KnobEye$Word" else if k = 30 then "[[I" else eg_ex.getD (k - 20) ""
/-- method references: pool index, which method, how it is called, the nest host. 0 static, 1 virtual, 2 init, 3 4 5 the same of a nest mate, 6 Object(), 7 ordinal -/
def eg_mT : List (List (Nat × Nat × Nat × Option String)) := [[(117, 115, 2, none), (121, 116, 1, none), (126, 117, 1, none), (146, 118, 1, none), (160, 119, 1, none), (218, 121, 1, none), (237, 123, 1, none), (248, 124, 1, none), (252, 125, 1, none), (257, 126, 1, none), (130, 0, 0, none), (7, 131, 1, none), (139, 1, 0, none), (17, 132, 1, none), (142, 2, 0, none), (20, 133, 1, none), (150, 3, 0, none), (26, 134, 1, none), (153, 4, 0, none), (30, 136, 1, none), (157, 5, 0, none), (34, 138, 1, none), (164, 6, 0, none), (37, 139, 1, none), (167, 7, 0, none), (40, 140, 1, none), (171, 8, 0, none), (44, 141, 1, none), (174, 9, 0, none), (48, 143, 1, none), (178, 10, 0, none), (52, 144, 1, none), (181, 11, 0, none), (57, 145, 1, none), (184, 12, 0, none), (60, 146, 1, none), (187, 13, 0, none), (63, 148, 1, none), (190, 14, 0, none), (66, 149, 1, none), (193, 15, 0, none), (69, 152, 1, none), (196, 16, 0, none), (72, 154, 1, none), (199, 17, 0, none), (75, 155, 1, none), (202, 18, 0, none), (78, 157, 1, none), (205, 19, 0, none), (81, 159, 1, none), (208, 20, 0, none), (84, 160, 1, none), (211, 21, 0, none), (87, 162, 1, none), (215, 22, 0, none), (91, 163, 1, none), (222, 23, 0, none), (94, 164, 1, none), (225, 24, 0, none), (97, 165, 1, none), (228, 25, 0, none), (100, 166, 1, none), (231, 26, 0, none), (103, 167, 1, none), (234, 27, 0, none), (106, 170, 1, none), (241, 28, 0, none), (109, 171, 1, none), (245, 29, 0, none), (113, 173, 1, none), (136, 174, 1, none), (120, 175, 2, none), (251, 176, 1, none), (256, 177, 1, none), (125, 178, 1, none), (129, 179, 1, none), (149, 180, 1, none), (135, 181, 1, none), (141, 207, 1, none), (145, 208, 1, none), (152, 212, 1, none), (156, 218, 1, none), (159, 221, 1, none), (163, 222, 1, none), (166, 223, 1, none), (170, 224, 1, none), (173, 228, 1, none), (177, 230, 1, none), (180, 231, 1, none), (183, 244, 1, none), (186, 245, 1, none), (189, 253, 1, none), (192, 254, 1, none), (195, 260, 1, none), (198, 261, 1, none), (201, 262, 1, none), (204, 263, 1, none), (207, 271, 1, none), (210, 273, 1, none), (214, 276, 1, none), (217, 277, 1, none), (221, 279, 1, none), (224, 280, 1, none), (227, 281, 1, none), (230, 282, 1, none), (233, 283, 1, none), (236, 286, 1, none), (240, 288, 1, none), (244, 289, 1, none), (247, 292, 1, none), (260, 294, 1, none)], [(1, 0, 6, none)], [(3, 0, 6, none), (47, 33, 1, none), (43, 34, 1, none), (37, 306, 0, none), (51, 310, 0, none), (56, 42, 0, none), (60, 311, 0, none), (67, 43, 1, none), (83, 45, 1, none), (99, 46, 0, none), (105, 312, 0, none), (102, 47, 1, none), (63, 122, 3, some "KnobEye"), (93, 114, 4, some "KnobEye")], [(3, 0, 6, none), (35, 305, 7, none), (78, 53, 0, none), (44, 306, 0, none), (19, 55, 1, none), (51, 56, 0, none), (82, 122, 3, some "KnobEye")], [(1, 0, 6, none)], [(39, 60, 1, none), (3, 0, 6, none), (22, 52, 4, some "KnobEye"), (32, 54, 4, some "KnobEye")], [(3, 0, 6, none), (35, 67, 1, none), (77, 68, 1, none), (93, 69, 0, none), (97, 70, 0, none), (81, 71, 1, none), (85, 72, 1, none), (113, 73, 1, none), (120, 295, 1, none), (125, 297, 1, none), (89, 74, 1, none), (41, 75, 1, none), (53, 76, 1, none), (151, 61, 2, none), (153, 77, 1, none), (49, 78, 1, none), (176, 79, 1, none), (180, 80, 1, none), (198, 81, 1, none), (183, 82, 1, none), (141, 83, 1, none), (60, 85, 1, none), (59, 112, 5, some "KnobEye"), (147, 113, 4, some "KnobEye")], [(3, 0, 6, none), (26, 60, 4, some "KnobEye")], [(5, 0, 6, none), (32, 91, 1, none), (74, 92, 1, none), (40, 93, 1, none), (110, 310, 0, none), (114, 94, 1, none), (118, 95, 1, none), (126, 96, 1, none), (52, 312, 0, none), (129, 311, 0, none), (122, 97, 1, none), (61, 100, 1, none), (107, 34, 4, some "KnobEye")], [(3, 0, 6, none), (43, 31, 5, some "KnobEye"), (75, 122, 3, some "KnobEye"), (67, 32, 4, some "KnobEye"), (54, 35, 4, some "KnobEye"), (78, 37, 4, some "KnobEye"), (71, 49, 4, some "KnobEye")], [(3, 0, 6, none), (29, 60, 4, some "KnobEye")], [(3, 0, 6, none), (11, 101, 2, none), (153, 120, 1, none), (325, 127, 1, none), (112, 128, 1, none), (116, 129, 1, none), (260, 130, 1, none), (278, 306, 0, none), (98, 88, 2, none), (133, 30, 2, none), (139, 135, 0, none), (146, 137, 1, none), (166, 142, 0, none), (210, 147, 1, none), (225, 150, 0, none), (228, 151, 1, none), (237, 153, 1, none), (300, 312, 0, none), (351, 311, 0, none), (250, 156, 1, none), (358, 313, 0, none), (361, 314, 0, none), (256, 158, 1, none), (264, 161, 0, none), (275, 122, 0, none), (306, 168, 1, none), (309, 169, 1, none), (322, 172, 1, none), (21, 62, 5, some "KnobEye"), (28, 51, 5, some "KnobEye"), (35, 89, 5, some "KnobEye"), (49, 31, 5, some "KnobEye"), (60, 57, 5, some "KnobEye"), (65, 63, 4, some "KnobEye"), (69, 64, 4, some "KnobEye"), (76, 65, 4, some "KnobEye"), (271, 102, 4, some "KnobEye"), (313, 103, 4, some "KnobEye"), (329, 104, 4, some "KnobEye"), (247, 105, 4, some "KnobEye"), (368, 86, 4, some "KnobEye"), (294, 32, 4, some "KnobEye"), (142, 87, 4, some "KnobEye"), (192, 106, 4, some "KnobEye"), (402, 36, 4, some "KnobEye"), (253, 107, 4, some "KnobEye"), (414, 60, 4, some "KnobEye"), (335, 108, 4, some "KnobEye"), (79, 66, 4, some "KnobEye"), (101, 84, 4, some "KnobEye"), (162, 38, 4, some "KnobEye"), (170, 39, 4, some "KnobEye"), (173, 40, 4, some "KnobEye"), (196, 41, 4, some "KnobEye"), (203, 43, 4, some "KnobEye"), (221, 44, 4, some "KnobEye"), (341, 90, 4, some "KnobEye"), (347, 33, 4, some "KnobEye"), (243, 98, 4, some "KnobEye"), (363, 48, 4, some "KnobEye"), (372, 58, 4, some "KnobEye"), (375, 37, 4, some "KnobEye"), (378, 59, 4, some "KnobEye"), (267, 109, 4, some "KnobEye"), (283, 110, 4, some "KnobEye"), (287, 35, 4, some "KnobEye"), (291, 50, 4, some "KnobEye"), (381, 111, 4, some "KnobEye"), (316, 99, 4, some "KnobEye")], [(7, 0, 6, none), (248, 182, 1, none), (251, 183, 1, none), (242, 184, 1, none), (124, 185, 1, none), (117, 186, 1, none), (143, 187, 0, none), (239, 188, 1, none), (136, 189, 1, none), (230, 190, 0, none), (139, 191, 1, none), (127, 295, 1, none), (132, 297, 1, none), (194, 192, 1, none), (211, 193, 1, none), (206, 194, 1, none), (225, 195, 1, none), (214, 196, 1, none), (197, 197, 1, none), (186, 198, 1, none), (217, 199, 1, none), (220, 200, 1, none), (200, 201, 1, none), (190, 202, 1, none), (183, 203, 1, none), (245, 204, 1, none), (254, 205, 1, none), (258, 206, 1, none), (96, 209, 1, none), (92, 210, 0, none), (262, 211, 1, none), (288, 213, 0, none), (285, 214, 1, none), (275, 215, 0, none), (270, 306, 0, none), (279, 216, 0, none), (282, 217, 1, none), (88, 219, 1, none), (291, 220, 1, none), (100, 225, 1, none), (80, 226, 1, none), (84, 227, 0, none), (295, 229, 1, none), (301, 232, 1, none), (339, 233, 1, none), (322, 234, 1, none), (313, 235, 1, none), (316, 236, 1, none), (310, 237, 1, none), (307, 238, 1, none), (304, 239, 1, none), (298, 240, 0, none), (319, 241, 1, none), (342, 242, 1, none), (325, 243, 0, none), (333, 307, 0, none), (336, 308, 0, none), (328, 311, 0, none), (367, 246, 1, none), (370, 247, 1, none), (373, 248, 1, none), (345, 310, 0, none), (354, 249, 1, none), (357, 250, 1, none), (348, 251, 1, none), (361, 252, 0, none), (351, 312, 0, none), (364, 309, 0, none), (405, 255, 1, none), (408, 256, 1, none), (399, 257, 1, none), (402, 258, 1, none), (378, 259, 1, none), (411, 314, 0, none), (433, 264, 1, none), (416, 265, 1, none), (436, 266, 1, none), (423, 267, 1, none), (426, 268, 1, none), (420, 269, 1, none), (430, 270, 1, none), (439, 272, 1, none), (442, 274, 0, none), (445, 275, 1, none), (448, 278, 1, none), (454, 284, 1, none), (451, 285, 1, none), (457, 287, 1, none), (466, 290, 1, none), (463, 291, 0, none), (469, 293, 1, none)], [], [], [(335, 296, 1, none), (492, 298, 1, none), (495, 300, 0, none), (1059, 315, 0, none), (498, 301, 0, none)], [(9, 299, 0, none)], [(67, 302, 0, none), (48, 303, 0, none), (414, 299, 0, none), (71, 304, 0, none)], [], [], [], []]
-- the methods: name, bytes, locals, answer, handlers, class, arguments beside this
abbrev eg_MI : Type := MethodName × ByteArray × Nat × Option FieldType × Option (List (Nat × Nat × Nat × Nat)) × Nat × Nat
def eg_m0 : eg_MI := (⟨"", "", ""⟩, ⟨#[]⟩, 0, none, none, 0, 0)
-- 0: KnobEyeLaw.rule(LKnobEye;[J)I
def eg_i0 : eg_MI := (⟨"KnobEyeLaw", "rule", "(LKnobEye;[J)I"⟩, method_3_code, 3, some .int, some [(0, 8, 11, 13), (0, 8, 14, 15)], 0, 2)
def eg_c0 : List (Nat × Instr × Nat) := [(0, .aload_n 1, 1), (1, .iconst 0, 1), (2, .aload_n 0, 1), (3, .invokevirtual 7, 3), (6, .i2l, 1), (7, .lastore, 1), (8, .goto 9, 3), (11, .astore_n 2, 1), (12, .iconst 1, 1), (13, .ireturn, 1), (14, .astore_n 2, 1), (15, .iconst 2, 1), (16, .ireturn, 1), (17, .iconst 0, 1), (18, .ireturn, 1)]
-- 1: KnobEyeLaw.turner(LKnobEye;[J)I
def eg_i1 : eg_MI := (⟨"KnobEyeLaw", "turner", "(LKnobEye;[J)I"⟩, method_4_code, 3, some .int, some [(0, 8, 11, 13), (0, 8, 14, 15)], 0, 2)
def eg_c1 : List (Nat × Instr × Nat) := [(0, .aload_n 1, 1), (1, .iconst 0, 1), (2, .aload_n 0, 1), (3, .invokevirtual 17, 3), (6, .i2l, 1), (7, .lastore, 1), (8, .goto 9, 3), (11, .astore_n 2, 1), (12, .iconst 1, 1), (13, .ireturn, 1), (14, .astore_n 2, 1), (15, .iconst 2, 1), (16, .ireturn, 1), (17, .iconst 0, 1), (18, .ireturn, 1)]
-- 2: KnobEyeLaw.claim(LKnobEye;II[J)I
def eg_i2 : eg_MI := (⟨"KnobEyeLaw", "claim", "(LKnobEye;II[J)I"⟩, method_5_code, 5, some .int, some [(0, 10, 13, 24), (0, 10, 17, 13), (0, 10, 21, 15)], 0, 4)
def eg_c2 : List (Nat × Instr × Nat) := [(0, .aload_n 3, 1), (1, .iconst 0, 1), (2, .aload_n 0, 1), (3, .iload_n 1, 1), (4, .iload_n 2, 1), (5, .invokevirtual 20, 3), (8, .i2l, 1), (9, .lastore, 1), (10, .goto 15, 3), (13, .astore 4, 2), (15, .iconst 1, 1), (16, .ireturn, 1), (17, .astore 4, 2), (19, .iconst 2, 1), (20, .ireturn, 1), (21, .astore 4, 2), (23, .iconst 3, 1), (24, .ireturn, 1), (25, .iconst 0, 1), (26, .ireturn, 1)]
-- 3: KnobEyeLaw.right(LKnobEye;II[J)I
def eg_i3 : eg_MI := (⟨"KnobEyeLaw", "right", "(LKnobEye;II[J)I"⟩, method_6_code, 5, some .int, some [(0, 17, 20, 24), (0, 17, 24, 13)], 0, 4)
def eg_c3 : List (Nat × Instr × Nat) := [(0, .aload_n 3, 1), (1, .iconst 0, 1), (2, .aload_n 0, 1), (3, .iload_n 1, 1), (4, .iload_n 2, 1), (5, .invokevirtual 26, 3), (8, .ifCond .eq 7, 3), (11, .lconst 1, 1), (12, .goto 4, 3), (15, .lconst 0, 1), (16, .lastore, 1), (17, .goto 11, 3), (20, .astore 4, 2), (22, .iconst 1, 1), (23, .ireturn, 1), (24, .astore 4, 2), (26, .iconst 2, 1), (27, .ireturn, 1), (28, .iconst 0, 1), (29, .ireturn, 1)]
-- 4: KnobEyeLaw.card(LKnobEye;IZ[J)I
def eg_i4 : eg_MI := (⟨"KnobEyeLaw", "card", "(LKnobEye;IZ[J)I"⟩, method_7_code, 5, some .int, some [(0, 10, 13, 13), (0, 10, 17, 15)], 0, 4)
def eg_c4 : List (Nat × Instr × Nat) := [(0, .aload_n 3, 1), (1, .iconst 0, 1), (2, .aload_n 0, 1), (3, .iload_n 1, 1), (4, .iload_n 2, 1), (5, .invokevirtual 30, 3), (8, .i2l, 1), (9, .lastore, 1), (10, .goto 11, 3), (13, .astore 4, 2), (15, .iconst 1, 1), (16, .ireturn, 1), (17, .astore 4, 2), (19, .iconst 2, 1), (20, .ireturn, 1), (21, .iconst 0, 1), (22, .ireturn, 1)]
-- 5: KnobEyeLaw.made(LKnobEye;II[J)I
def eg_i5 : eg_MI := (⟨"KnobEyeLaw", "made", "(LKnobEye;II[J)I"⟩, method_8_code, 5, some .int, some [(0, 10, 13, 24), (0, 10, 17, 13), (0, 10, 21, 15)], 0, 4)
def eg_c5 : List (Nat × Instr × Nat) := [(0, .aload_n 3, 1), (1, .iconst 0, 1), (2, .aload_n 0, 1), (3, .iload_n 1, 1), (4, .iload_n 2, 1), (5, .invokevirtual 34, 3), (8, .i2l, 1), (9, .lastore, 1), (10, .goto 15, 3), (13, .astore 4, 2), (15, .iconst 1, 1), (16, .ireturn, 1), (17, .astore 4, 2), (19, .iconst 2, 1), (20, .ireturn, 1), (21, .astore 4, 2), (23, .iconst 3, 1), (24, .ireturn, 1), (25, .iconst 0, 1), (26, .ireturn, 1)]
-- 6: KnobEyeLaw.eye(LKnobEye;[J)I
def eg_i6 : eg_MI := (⟨"KnobEyeLaw", "eye", "(LKnobEye;[J)I"⟩, method_9_code, 3, some .int, some [(0, 8, 11, 15)], 0, 2)
def eg_c6 : List (Nat × Instr × Nat) := [(0, .aload_n 1, 1), (1, .iconst 0, 1), (2, .aload_n 0, 1), (3, .invokevirtual 37, 3), (6, .i2l, 1), (7, .lastore, 1), (8, .goto 6, 3), (11, .astore_n 2, 1), (12, .iconst 1, 1), (13, .ireturn, 1), (14, .iconst 0, 1), (15, .ireturn, 1)]
-- 7: KnobEyeLaw.wire(LKnobEye;III[J)I
def eg_i7 : eg_MI := (⟨"KnobEyeLaw", "wire", "(LKnobEye;III[J)I"⟩, method_10_code, 6, some .int, some [(0, 12, 15, 24), (0, 12, 19, 13), (0, 12, 23, 15)], 0, 5)
def eg_c7 : List (Nat × Instr × Nat) := [(0, .aload 4, 2), (2, .iconst 0, 1), (3, .aload_n 0, 1), (4, .iload_n 1, 1), (5, .iload_n 2, 1), (6, .iload_n 3, 1), (7, .invokevirtual 40, 3), (10, .i2l, 1), (11, .lastore, 1), (12, .goto 15, 3), (15, .astore 5, 2), (17, .iconst 1, 1), (18, .ireturn, 1), (19, .astore 5, 2), (21, .iconst 2, 1), (22, .ireturn, 1), (23, .astore 5, 2), (25, .iconst 3, 1), (26, .ireturn, 1), (27, .iconst 0, 1), (28, .ireturn, 1)]
-- 8: KnobEyeLaw.knob(LKnobEye;III[J)I
def eg_i8 : eg_MI := (⟨"KnobEyeLaw", "knob", "(LKnobEye;III[J)I"⟩, method_11_code, 6, some .int, some [(0, 19, 22, 24), (0, 19, 26, 13)], 0, 5)
def eg_c8 : List (Nat × Instr × Nat) := [(0, .aload 4, 2), (2, .iconst 0, 1), (3, .aload_n 0, 1), (4, .iload_n 1, 1), (5, .iload_n 2, 1), (6, .iload_n 3, 1), (7, .invokevirtual 44, 3), (10, .ifCond .eq 7, 3), (13, .lconst 1, 1), (14, .goto 4, 3), (17, .lconst 0, 1), (18, .lastore, 1), (19, .goto 11, 3), (22, .astore 5, 2), (24, .iconst 1, 1), (25, .ireturn, 1), (26, .astore 5, 2), (28, .iconst 2, 1), (29, .ireturn, 1), (30, .iconst 0, 1), (31, .ireturn, 1)]
-- 9: KnobEyeLaw.stuck(LKnobEye;III)I
def eg_i9 : eg_MI := (⟨"KnobEyeLaw", "stuck", "(LKnobEye;III)I"⟩, method_12_code, 5, some .int, some [(0, 7, 10, 24), (0, 7, 14, 13)], 0, 4)
def eg_c9 : List (Nat × Instr × Nat) := [(0, .aload_n 0, 1), (1, .iload_n 1, 1), (2, .iload_n 2, 1), (3, .iload_n 3, 1), (4, .invokevirtual 48, 3), (7, .goto 11, 3), (10, .astore 4, 2), (12, .iconst 1, 1), (13, .ireturn, 1), (14, .astore 4, 2), (16, .iconst 2, 1), (17, .ireturn, 1), (18, .iconst 0, 1), (19, .ireturn, 1)]
-- 10: KnobEyeLaw.look(LKnobEye;II[J)I
def eg_i10 : eg_MI := (⟨"KnobEyeLaw", "look", "(LKnobEye;II[J)I"⟩, method_13_code, 5, some .int, some [(0, 10, 13, 24), (0, 10, 17, 55)], 0, 4)
def eg_c10 : List (Nat × Instr × Nat) := [(0, .aload_n 3, 1), (1, .iconst 0, 1), (2, .aload_n 0, 1), (3, .iload_n 1, 1), (4, .iload_n 2, 1), (5, .invokevirtual 52, 3), (8, .i2l, 1), (9, .lastore, 1), (10, .goto 11, 3), (13, .astore 4, 2), (15, .iconst 1, 1), (16, .ireturn, 1), (17, .astore 4, 2), (19, .iconst 2, 1), (20, .ireturn, 1), (21, .iconst 0, 1), (22, .ireturn, 1)]
-- 11: KnobEyeLaw.sees(LKnobEye;II[J)I
def eg_i11 : eg_MI := (⟨"KnobEyeLaw", "sees", "(LKnobEye;II[J)I"⟩, method_14_code, 5, some .int, some [(0, 10, 13, 24), (0, 10, 17, 13)], 0, 4)
def eg_c11 : List (Nat × Instr × Nat) := [(0, .aload_n 3, 1), (1, .iconst 0, 1), (2, .aload_n 0, 1), (3, .iload_n 1, 1), (4, .iload_n 2, 1), (5, .invokevirtual 57, 3), (8, .i2l, 1), (9, .lastore, 1), (10, .goto 11, 3), (13, .astore 4, 2), (15, .iconst 1, 1), (16, .ireturn, 1), (17, .astore 4, 2), (19, .iconst 2, 1), (20, .ireturn, 1), (21, .iconst 0, 1), (22, .ireturn, 1)]
-- 12: KnobEyeLaw.show(LKnobEye;III[J)I
def eg_i12 : eg_MI := (⟨"KnobEyeLaw", "show", "(LKnobEye;III[J)I"⟩, method_15_code, 6, some .int, some [(0, 19, 22, 24)], 0, 5)
def eg_c12 : List (Nat × Instr × Nat) := [(0, .aload 4, 2), (2, .iconst 0, 1), (3, .aload_n 0, 1), (4, .iload_n 1, 1), (5, .iload_n 2, 1), (6, .iload_n 3, 1), (7, .invokevirtual 60, 3), (10, .ifCond .eq 7, 3), (13, .lconst 1, 1), (14, .goto 4, 3), (17, .lconst 0, 1), (18, .lastore, 1), (19, .goto 7, 3), (22, .astore 5, 2), (24, .iconst 1, 1), (25, .ireturn, 1), (26, .iconst 0, 1), (27, .ireturn, 1)]
-- 13: KnobEyeLaw.turned(LKnobEye;III[J)I
def eg_i13 : eg_MI := (⟨"KnobEyeLaw", "turned", "(LKnobEye;III[J)I"⟩, method_16_code, 6, some .int, some [(0, 12, 15, 24), (0, 12, 19, 13)], 0, 5)
def eg_c13 : List (Nat × Instr × Nat) := [(0, .aload 4, 2), (2, .iconst 0, 1), (3, .aload_n 0, 1), (4, .iload_n 1, 1), (5, .iload_n 2, 1), (6, .iload_n 3, 1), (7, .invokevirtual 63, 3), (10, .i2l, 1), (11, .lastore, 1), (12, .goto 11, 3), (15, .astore 5, 2), (17, .iconst 1, 1), (18, .ireturn, 1), (19, .astore 5, 2), (21, .iconst 2, 1), (22, .ireturn, 1), (23, .iconst 0, 1), (24, .ireturn, 1)]
-- 14: KnobEyeLaw.can(LKnobEye;II[J)I
def eg_i14 : eg_MI := (⟨"KnobEyeLaw", "can", "(LKnobEye;II[J)I"⟩, method_17_code, 5, some .int, some [(0, 17, 20, 24), (0, 17, 24, 13)], 0, 4)
def eg_c14 : List (Nat × Instr × Nat) := [(0, .aload_n 3, 1), (1, .iconst 0, 1), (2, .aload_n 0, 1), (3, .iload_n 1, 1), (4, .iload_n 2, 1), (5, .invokevirtual 66, 3), (8, .ifCond .eq 7, 3), (11, .lconst 1, 1), (12, .goto 4, 3), (15, .lconst 0, 1), (16, .lastore, 1), (17, .goto 11, 3), (20, .astore 4, 2), (22, .iconst 1, 1), (23, .ireturn, 1), (24, .astore 4, 2), (26, .iconst 2, 1), (27, .ireturn, 1), (28, .iconst 0, 1), (29, .ireturn, 1)]
-- 15: KnobEyeLaw.found(LKnobEye;III[J)I
def eg_i15 : eg_MI := (⟨"KnobEyeLaw", "found", "(LKnobEye;III[J)I"⟩, method_18_code, 6, some .int, some [(0, 12, 15, 24), (0, 12, 19, 13), (0, 12, 23, 55)], 0, 5)
def eg_c15 : List (Nat × Instr × Nat) := [(0, .aload 4, 2), (2, .iconst 0, 1), (3, .aload_n 0, 1), (4, .iload_n 1, 1), (5, .iload_n 2, 1), (6, .iload_n 3, 1), (7, .invokevirtual 69, 3), (10, .i2l, 1), (11, .lastore, 1), (12, .goto 15, 3), (15, .astore 5, 2), (17, .iconst 1, 1), (18, .ireturn, 1), (19, .astore 5, 2), (21, .iconst 2, 1), (22, .ireturn, 1), (23, .astore 5, 2), (25, .iconst 3, 1), (26, .ireturn, 1), (27, .iconst 0, 1), (28, .ireturn, 1)]
-- 16: KnobEyeLaw.bars(LKnobEye;II[J)I
def eg_i16 : eg_MI := (⟨"KnobEyeLaw", "bars", "(LKnobEye;II[J)I"⟩, method_19_code, 5, some .int, some [(0, 10, 13, 24), (0, 10, 17, 13)], 0, 4)
def eg_c16 : List (Nat × Instr × Nat) := [(0, .aload_n 3, 1), (1, .iconst 0, 1), (2, .aload_n 0, 1), (3, .iload_n 1, 1), (4, .iload_n 2, 1), (5, .invokevirtual 72, 3), (8, .i2l, 1), (9, .lastore, 1), (10, .goto 11, 3), (13, .astore 4, 2), (15, .iconst 1, 1), (16, .ireturn, 1), (17, .astore 4, 2), (19, .iconst 2, 1), (20, .ireturn, 1), (21, .iconst 0, 1), (22, .ireturn, 1)]
-- 17: KnobEyeLaw.bound(LKnobEye;II[J)I
def eg_i17 : eg_MI := (⟨"KnobEyeLaw", "bound", "(LKnobEye;II[J)I"⟩, method_20_code, 5, some .int, some [(0, 10, 13, 24), (0, 10, 17, 13)], 0, 4)
def eg_c17 : List (Nat × Instr × Nat) := [(0, .aload_n 3, 1), (1, .iconst 0, 1), (2, .aload_n 0, 1), (3, .iload_n 1, 1), (4, .iload_n 2, 1), (5, .invokevirtual 75, 3), (8, .i2l, 1), (9, .lastore, 1), (10, .goto 11, 3), (13, .astore 4, 2), (15, .iconst 1, 1), (16, .ireturn, 1), (17, .astore 4, 2), (19, .iconst 2, 1), (20, .ireturn, 1), (21, .iconst 0, 1), (22, .ireturn, 1)]
-- 18: KnobEyeLaw.blind(LKnobEye;II[J)I
def eg_i18 : eg_MI := (⟨"KnobEyeLaw", "blind", "(LKnobEye;II[J)I"⟩, method_21_code, 5, some .int, some [(0, 10, 13, 24)], 0, 4)
def eg_c18 : List (Nat × Instr × Nat) := [(0, .aload_n 3, 1), (1, .iconst 0, 1), (2, .aload_n 0, 1), (3, .iload_n 1, 1), (4, .iload_n 2, 1), (5, .invokevirtual 78, 3), (8, .i2l, 1), (9, .lastore, 1), (10, .goto 7, 3), (13, .astore 4, 2), (15, .iconst 1, 1), (16, .ireturn, 1), (17, .iconst 0, 1), (18, .ireturn, 1)]
-- 19: KnobEyeLaw.odds(LKnobEye;III[J)I
def eg_i19 : eg_MI := (⟨"KnobEyeLaw", "odds", "(LKnobEye;III[J)I"⟩, method_22_code, 6, some .int, some [(0, 12, 15, 24), (0, 12, 19, 13)], 0, 5)
def eg_c19 : List (Nat × Instr × Nat) := [(0, .aload 4, 2), (2, .iconst 0, 1), (3, .aload_n 0, 1), (4, .iload_n 1, 1), (5, .iload_n 2, 1), (6, .iload_n 3, 1), (7, .invokevirtual 81, 3), (10, .i2l, 1), (11, .lastore, 1), (12, .goto 11, 3), (15, .astore 5, 2), (17, .iconst 1, 1), (18, .ireturn, 1), (19, .astore 5, 2), (21, .iconst 2, 1), (22, .ireturn, 1), (23, .iconst 0, 1), (24, .ireturn, 1)]
-- 20: KnobEyeLaw.covered(LKnobEye;II[J)I
def eg_i20 : eg_MI := (⟨"KnobEyeLaw", "covered", "(LKnobEye;II[J)I"⟩, method_23_code, 5, some .int, some [(0, 10, 13, 24)], 0, 4)
def eg_c20 : List (Nat × Instr × Nat) := [(0, .aload_n 3, 1), (1, .iconst 0, 1), (2, .aload_n 0, 1), (3, .iload_n 1, 1), (4, .iload_n 2, 1), (5, .invokevirtual 84, 3), (8, .i2l, 1), (9, .lastore, 1), (10, .goto 7, 3), (13, .astore 4, 2), (15, .iconst 1, 1), (16, .ireturn, 1), (17, .iconst 0, 1), (18, .ireturn, 1)]
-- 21: KnobEyeLaw.goesBy(LKnobEye;I[J)I
def eg_i21 : eg_MI := (⟨"KnobEyeLaw", "goesBy", "(LKnobEye;I[J)I"⟩, method_24_code, 4, some .int, some [(0, 9, 12, 24)], 0, 3)
def eg_c21 : List (Nat × Instr × Nat) := [(0, .aload_n 2, 1), (1, .iconst 0, 1), (2, .aload_n 0, 1), (3, .iload_n 1, 1), (4, .invokevirtual 87, 3), (7, .i2l, 1), (8, .lastore, 1), (9, .goto 6, 3), (12, .astore_n 3, 1), (13, .iconst 1, 1), (14, .ireturn, 1), (15, .iconst 0, 1), (16, .ireturn, 1)]
-- 22: KnobEyeLaw.along(LKnobEye;I[J)I
def eg_i22 : eg_MI := (⟨"KnobEyeLaw", "along", "(LKnobEye;I[J)I"⟩, method_25_code, 4, some .int, some [(0, 9, 12, 24)], 0, 3)
def eg_c22 : List (Nat × Instr × Nat) := [(0, .aload_n 2, 1), (1, .iconst 0, 1), (2, .aload_n 0, 1), (3, .iload_n 1, 1), (4, .invokevirtual 91, 3), (7, .i2l, 1), (8, .lastore, 1), (9, .goto 6, 3), (12, .astore_n 3, 1), (13, .iconst 1, 1), (14, .ireturn, 1), (15, .iconst 0, 1), (16, .ireturn, 1)]
-- 23: KnobEyeLaw.mend(LKnobEye;II[J)I
def eg_i23 : eg_MI := (⟨"KnobEyeLaw", "mend", "(LKnobEye;II[J)I"⟩, method_26_code, 5, some .int, some [(0, 10, 13, 24)], 0, 4)
def eg_c23 : List (Nat × Instr × Nat) := [(0, .aload_n 3, 1), (1, .iconst 0, 1), (2, .aload_n 0, 1), (3, .iload_n 1, 1), (4, .iload_n 2, 1), (5, .invokevirtual 94, 3), (8, .i2l, 1), (9, .lastore, 1), (10, .goto 7, 3), (13, .astore 4, 2), (15, .iconst 1, 1), (16, .ireturn, 1), (17, .iconst 0, 1), (18, .ireturn, 1)]
-- 24: KnobEyeLaw.bear(LKnobEye;I[J)I
def eg_i24 : eg_MI := (⟨"KnobEyeLaw", "bear", "(LKnobEye;I[J)I"⟩, method_27_code, 4, some .int, some [(0, 9, 12, 24)], 0, 3)
def eg_c24 : List (Nat × Instr × Nat) := [(0, .aload_n 2, 1), (1, .iconst 0, 1), (2, .aload_n 0, 1), (3, .iload_n 1, 1), (4, .invokevirtual 97, 3), (7, .i2l, 1), (8, .lastore, 1), (9, .goto 6, 3), (12, .astore_n 3, 1), (13, .iconst 1, 1), (14, .ireturn, 1), (15, .iconst 0, 1), (16, .ireturn, 1)]
-- 25: KnobEyeLaw.swapped(LKnobEye;III[J)I
def eg_i25 : eg_MI := (⟨"KnobEyeLaw", "swapped", "(LKnobEye;III[J)I"⟩, method_28_code, 6, some .int, some [(0, 12, 15, 24)], 0, 5)
def eg_c25 : List (Nat × Instr × Nat) := [(0, .aload 4, 2), (2, .iconst 0, 1), (3, .aload_n 0, 1), (4, .iload_n 1, 1), (5, .iload_n 2, 1), (6, .iload_n 3, 1), (7, .invokevirtual 100, 3), (10, .i2l, 1), (11, .lastore, 1), (12, .goto 7, 3), (15, .astore 5, 2), (17, .iconst 1, 1), (18, .ireturn, 1), (19, .iconst 0, 1), (20, .ireturn, 1)]
-- 26: KnobEyeLaw.soonest(LKnobEye;II[J)I
def eg_i26 : eg_MI := (⟨"KnobEyeLaw", "soonest", "(LKnobEye;II[J)I"⟩, method_29_code, 5, some .int, some [(0, 10, 13, 24)], 0, 4)
def eg_c26 : List (Nat × Instr × Nat) := [(0, .aload_n 3, 1), (1, .iconst 0, 1), (2, .aload_n 0, 1), (3, .iload_n 1, 1), (4, .iload_n 2, 1), (5, .invokevirtual 103, 3), (8, .i2l, 1), (9, .lastore, 1), (10, .goto 7, 3), (13, .astore 4, 2), (15, .iconst 1, 1), (16, .ireturn, 1), (17, .iconst 0, 1), (18, .ireturn, 1)]
-- 27: KnobEyeLaw.together(LKnobEye;II[J)I
def eg_i27 : eg_MI := (⟨"KnobEyeLaw", "together", "(LKnobEye;II[J)I"⟩, method_30_code, 5, some .int, some [(0, 17, 20, 13)], 0, 4)
def eg_c27 : List (Nat × Instr × Nat) := [(0, .aload_n 3, 1), (1, .iconst 0, 1), (2, .aload_n 0, 1), (3, .iload_n 1, 1), (4, .iload_n 2, 1), (5, .invokevirtual 106, 3), (8, .ifCond .eq 7, 3), (11, .lconst 1, 1), (12, .goto 4, 3), (15, .lconst 0, 1), (16, .lastore, 1), (17, .goto 7, 3), (20, .astore 4, 2), (22, .iconst 1, 1), (23, .ireturn, 1), (24, .iconst 0, 1), (25, .ireturn, 1)]
-- 28: KnobEyeLaw.read(LKnobEye;IIZ[J)I
def eg_i28 : eg_MI := (⟨"KnobEyeLaw", "read", "(LKnobEye;IIZ[J)I"⟩, method_31_code, 6, some .int, some [(0, 12, 15, 24), (0, 12, 19, 13)], 0, 5)
def eg_c28 : List (Nat × Instr × Nat) := [(0, .aload 4, 2), (2, .iconst 0, 1), (3, .aload_n 0, 1), (4, .iload_n 1, 1), (5, .iload_n 2, 1), (6, .iload_n 3, 1), (7, .invokevirtual 109, 3), (10, .i2l, 1), (11, .lastore, 1), (12, .goto 11, 3), (15, .astore 5, 2), (17, .iconst 1, 1), (18, .ireturn, 1), (19, .astore 5, 2), (21, .iconst 2, 1), (22, .ireturn, 1), (23, .iconst 0, 1), (24, .ireturn, 1)]
-- 29: KnobEyeLaw.holds(LKnobEye;I[J)I
def eg_i29 : eg_MI := (⟨"KnobEyeLaw", "holds", "(LKnobEye;I[J)I"⟩, method_32_code, 4, some .int, some [(0, 16, 19, 24)], 0, 3)
def eg_c29 : List (Nat × Instr × Nat) := [(0, .aload_n 2, 1), (1, .iconst 0, 1), (2, .aload_n 0, 1), (3, .iload_n 1, 1), (4, .invokevirtual 113, 3), (7, .ifCond .eq 7, 3), (10, .lconst 1, 1), (11, .goto 4, 3), (14, .lconst 0, 1), (15, .lastore, 1), (16, .goto 6, 3), (19, .astore_n 3, 1), (20, .iconst 1, 1), (21, .ireturn, 1), (22, .iconst 0, 1), (23, .ireturn, 1)]
-- 30: KnobEye$Claim.<init>(LKnobEye$Node;IIZ)V
def eg_i30 : eg_MI := (⟨"KnobEye$Claim", "<init>", "(LKnobEye$Node;IIZ)V"⟩, prog_3_method_1_code, 5, none, none, 1, 4)
def eg_c30 : List (Nat × Instr × Nat) := [(0, .aload_n 0, 1), (1, .invokespecial 1, 3), (4, .aload_n 0, 1), (5, .aload_n 1, 1), (6, .putfield 7, 3), (9, .aload_n 0, 1), (10, .iload_n 2, 1), (11, .putfield 13, 3), (14, .aload_n 0, 1), (15, .iload_n 3, 1), (16, .putfield 17, 3), (19, .aload_n 0, 1), (20, .iload 4, 2), (22, .putfield 20, 3), (25, .return_, 1)]
-- 31: KnobEye$Eye.<init>()V
def eg_i31 : eg_MI := (⟨"KnobEye$Eye", "<init>", "()V"⟩, prog_4_method_1_code, 1, none, none, 2, 0)
def eg_c31 : List (Nat × Instr × Nat) := [(0, .aload_n 0, 1), (1, .invokespecial 3, 3), (4, .aload_n 0, 1), (5, .bipush 6, 2), (7, .newarray .int, 2), (9, .putfield 9, 3), (12, .aload_n 0, 1), (13, .bipush 6, 2), (15, .newarray .int, 2), (17, .putfield 15, 3), (20, .aload_n 0, 1), (21, .bipush 6, 2), (23, .newarray .int, 2), (25, .putfield 18, 3), (28, .return_, 1)]
-- 32: KnobEye$Eye.says(I)Z
def eg_i32 : eg_MI := (⟨"KnobEye$Eye", "says", "(I)Z"⟩, prog_4_method_12_code, 2, some .boolean, none, 2, 1)
def eg_c32 : List (Nat × Instr × Nat) := [(0, .aload_n 0, 1), (1, .aload_n 0, 1), (2, .getfield 18, 3), (5, .iload_n 1, 1), (6, .invokevirtual 47, 3), (9, .aload_n 0, 1), (10, .getfield 25, 3), (13, .if_icmp .le 7, 3), (16, .iconst 1, 1), (17, .goto 4, 3), (20, .iconst 0, 1), (21, .ireturn, 1)]
-- 33: KnobEye$Eye.sumWith([II)I
def eg_i33 : eg_MI := (⟨"KnobEye$Eye", "sumWith", "([II)I"⟩, prog_4_method_11_code, 5, some .int, none, 2, 2)
def eg_c33 : List (Nat × Instr × Nat) := [(0, .iconst 0, 1), (1, .istore_n 3, 1), (2, .iconst 0, 1), (3, .istore 4, 2), (5, .iload 4, 2), (7, .aload_n 0, 1), (8, .getfield 21, 3), (11, .if_icmp .ge 31, 3), (14, .iload 4, 2), (16, .aload_n 1, 1), (17, .arraylength, 1), (18, .if_icmp .ge 24, 3), (21, .iload_n 3, 1), (22, .aload_n 1, 1), (23, .iload 4, 2), (25, .iaload, 1), (26, .aload_n 0, 1), (27, .iload 4, 2), (29, .iload_n 2, 1), (30, .invokevirtual 43, 3), (33, .imul, 1), (34, .iadd, 1), (35, .istore_n 3, 1), (36, .iinc 4 1, 3), (39, .goto (-34), 3), (42, .iload_n 3, 1), (43, .ireturn, 1)]
-- 34: KnobEye$Eye.valueOf(II)I
def eg_i34 : eg_MI := (⟨"KnobEye$Eye", "valueOf", "(II)I"⟩, prog_4_method_7_code, 4, some .int, none, 2, 2)
def eg_c34 : List (Nat × Instr × Nat) := [(0, .iload_n 1, 1), (1, .ifCond .lt 11, 3), (4, .iload_n 1, 1), (5, .aload_n 0, 1), (6, .getfield 21, 3), (9, .if_icmp .lt 5, 3), (12, .iconst 0, 1), (13, .ireturn, 1), (14, .iload_n 2, 1), (15, .aload_n 0, 1), (16, .getfield 9, 3), (19, .iload_n 1, 1), (20, .iaload, 1), (21, .iand, 1), (22, .istore_n 3, 1), (23, .aload_n 0, 1), (24, .getfield 15, 3), (27, .iload_n 1, 1), (28, .iaload, 1), (29, .lookupswitch 48 #[(0, 27), (1, 32)], 27), (56, .iload_n 3, 1), (57, .invokestatic 37, 3), (60, .ireturn, 1), (61, .iload_n 3, 1), (62, .aload_n 0, 1), (63, .getfield 9, 3), (66, .iload_n 1, 1), (67, .iaload, 1), (68, .if_icmp .ne 7, 3), (71, .iconst 1, 1), (72, .goto 4, 3), (75, .iconst 0, 1), (76, .ireturn, 1), (77, .iload_n 3, 1), (78, .invokestatic 37, 3), (81, .iconst 1, 1), (82, .iand, 1), (83, .ireturn, 1)]
-- 35: KnobEye$Eye.takeFrom(LKnobEye$Eye;)V
def eg_i35 : eg_MI := (⟨"KnobEye$Eye", "takeFrom", "(LKnobEye$Eye;)V"⟩, prog_4_method_2_code, 3, none, none, 2, 1)
def eg_c35 : List (Nat × Instr × Nat) := [(0, .aload_n 0, 1), (1, .aload_n 1, 1), (2, .getfield 21, 3), (5, .putfield 21, 3), (8, .iconst 0, 1), (9, .istore_n 2, 1), (10, .iload_n 2, 1), (11, .bipush 6, 2), (13, .if_icmp .ge 45, 3), (16, .aload_n 0, 1), (17, .getfield 9, 3), (20, .iload_n 2, 1), (21, .aload_n 1, 1), (22, .getfield 9, 3), (25, .iload_n 2, 1), (26, .iaload, 1), (27, .iastore, 1), (28, .aload_n 0, 1), (29, .getfield 15, 3), (32, .iload_n 2, 1), (33, .aload_n 1, 1), (34, .getfield 15, 3), (37, .iload_n 2, 1), (38, .iaload, 1), (39, .iastore, 1), (40, .aload_n 0, 1), (41, .getfield 18, 3), (44, .iload_n 2, 1), (45, .aload_n 1, 1), (46, .getfield 18, 3), (49, .iload_n 2, 1), (50, .iaload, 1), (51, .iastore, 1), (52, .iinc 2 1, 3), (55, .goto (-45), 3), (58, .aload_n 0, 1), (59, .aload_n 1, 1), (60, .getfield 25, 3), (63, .putfield 25, 3), (66, .aload_n 0, 1), (67, .aload_n 1, 1), (68, .getfield 28, 3), (71, .putfield 28, 3), (74, .aload_n 0, 1), (75, .aload_n 1, 1), (76, .getfield 31, 3), (79, .putfield 31, 3), (82, .aload_n 0, 1), (83, .aload_n 1, 1), (84, .getfield 34, 3), (87, .putfield 34, 3), (90, .return_, 1)]
-- 36: KnobEye$Eye.knobsTogether()I
def eg_i36 : eg_MI := (⟨"KnobEye$Eye", "knobsTogether", "()I"⟩, prog_4_method_14_code, 3, some .int, none, 2, 0)
def eg_c36 : List (Nat × Instr × Nat) := [(0, .iconst 0, 1), (1, .istore_n 1, 1), (2, .iconst 0, 1), (3, .istore_n 2, 1), (4, .iload_n 2, 1), (5, .aload_n 0, 1), (6, .getfield 21, 3), (9, .if_icmp .ge 21, 3), (12, .iload_n 1, 1), (13, .aload_n 0, 1), (14, .getfield 18, 3), (17, .iload_n 2, 1), (18, .iaload, 1), (19, .invokestatic 51, 3), (22, .iadd, 1), (23, .istore_n 1, 1), (24, .iinc 2 1, 3), (27, .goto (-23), 3), (30, .iload_n 1, 1), (31, .ireturn, 1)]
-- 37: KnobEye$Eye.valuesOf(I)I
def eg_i37 : eg_MI := (⟨"KnobEye$Eye", "valuesOf", "(I)I"⟩, prog_4_method_8_code, 4, some .int, none, 2, 1)
def eg_c37 : List (Nat × Instr × Nat) := [(0, .iconst 0, 1), (1, .istore_n 2, 1), (2, .iconst 0, 1), (3, .istore_n 3, 1), (4, .iload_n 3, 1), (5, .aload_n 0, 1), (6, .getfield 21, 3), (9, .if_icmp .ge 20, 3), (12, .iload_n 2, 1), (13, .iconst 5, 1), (14, .ishl, 1), (15, .aload_n 0, 1), (16, .iload_n 3, 1), (17, .iload_n 1, 1), (18, .invokevirtual 43, 3), (21, .ior, 1), (22, .istore_n 2, 1), (23, .iinc 3 1, 3), (26, .goto (-22), 3), (29, .iload_n 2, 1), (30, .ireturn, 1)]
-- 38: KnobEye$Eye.join(II)V
def eg_i38 : eg_MI := (⟨"KnobEye$Eye", "join", "(II)V"⟩, prog_4_method_3_code, 3, none, none, 2, 2)
def eg_c38 : List (Nat × Instr × Nat) := [(0, .aload_n 0, 1), (1, .getfield 21, 3), (4, .bipush 6, 2), (6, .if_icmp .ge 33, 3), (9, .aload_n 0, 1), (10, .getfield 9, 3), (13, .aload_n 0, 1), (14, .getfield 21, 3), (17, .iload_n 1, 1), (18, .iastore, 1), (19, .aload_n 0, 1), (20, .getfield 15, 3), (23, .aload_n 0, 1), (24, .getfield 21, 3), (27, .iload_n 2, 1), (28, .iastore, 1), (29, .aload_n 0, 1), (30, .dup, 1), (31, .getfield 21, 3), (34, .iconst 1, 1), (35, .iadd, 1), (36, .putfield 21, 3), (39, .return_, 1)]
-- 39: KnobEye$Eye.setLine(I)Z
def eg_i39 : eg_MI := (⟨"KnobEye$Eye", "setLine", "(I)Z"⟩, prog_4_method_5_code, 3, some .boolean, none, 2, 1)
def eg_c39 : List (Nat × Instr × Nat) := [(0, .aload_n 0, 1), (1, .getfield 25, 3), (4, .iload_n 1, 1), (5, .if_icmp .eq 7, 3), (8, .iconst 1, 1), (9, .goto 4, 3), (12, .iconst 0, 1), (13, .istore_n 2, 1), (14, .aload_n 0, 1), (15, .iload_n 1, 1), (16, .putfield 25, 3), (19, .iload_n 2, 1), (20, .ireturn, 1)]
-- 40: KnobEye$Eye.setKnob(II)Z
def eg_i40 : eg_MI := (⟨"KnobEye$Eye", "setKnob", "(II)Z"⟩, prog_4_method_4_code, 3, some .boolean, none, 2, 2)
def eg_c40 : List (Nat × Instr × Nat) := [(0, .iload_n 1, 1), (1, .ifCond .lt 21, 3), (4, .iload_n 1, 1), (5, .aload_n 0, 1), (6, .getfield 21, 3), (9, .if_icmp .ge 13, 3), (12, .aload_n 0, 1), (13, .getfield 18, 3), (16, .iload_n 1, 1), (17, .iaload, 1), (18, .iload_n 2, 1), (19, .if_icmp .ne 5, 3), (22, .iconst 0, 1), (23, .ireturn, 1), (24, .aload_n 0, 1), (25, .getfield 18, 3), (28, .iload_n 1, 1), (29, .iload_n 2, 1), (30, .iastore, 1), (31, .iconst 1, 1), (32, .ireturn, 1)]
-- 41: KnobEye$Eye.near()I
def eg_i41 : eg_MI := (⟨"KnobEye$Eye", "near", "()I"⟩, prog_4_method_15_code, 3, some .int, none, 2, 0)
def eg_c41 : List (Nat × Instr × Nat) := [(0, .iconst 0, 1), (1, .istore_n 1, 1), (2, .iconst 0, 1), (3, .istore_n 2, 1), (4, .iload_n 2, 1), (5, .aload_n 0, 1), (6, .getfield 21, 3), (9, .if_icmp .ge 39, 3), (12, .iload_n 1, 1), (13, .aload_n 0, 1), (14, .getfield 9, 3), (17, .iload_n 2, 1), (18, .iaload, 1), (19, .iconst 1, 1), (20, .iconst 4, 1), (21, .invokestatic 56, 3), (24, .aload_n 0, 1), (25, .getfield 9, 3), (28, .iload_n 2, 1), (29, .iaload, 1), (30, .iconst 4, 1), (31, .iconst 1, 1), (32, .invokestatic 56, 3), (35, .invokestatic 60, 3), (38, .invokestatic 60, 3), (41, .istore_n 1, 1), (42, .iinc 2 1, 3), (45, .goto (-41), 3), (48, .iload_n 1, 1), (49, .ireturn, 1)]
-- 42: KnobEye$Eye.reach(III)I
def eg_i42 : eg_MI := (⟨"KnobEye$Eye", "reach", "(III)I"⟩, prog_4_method_16_code, 8, some .int, none, 2, 3)
def eg_c42 : List (Nat × Instr × Nat) := [(0, .iconst (-1), 1), (1, .istore_n 3, 1), (2, .iconst (-1), 1), (3, .istore 4, 2), (5, .iconst 0, 1), (6, .istore 5, 2), (8, .iload 5, 2), (10, .iconst 4, 1), (11, .if_icmp .ge 66, 3), (14, .iconst 0, 1), (15, .istore 6, 2), (17, .iconst 0, 1), (18, .istore 7, 2), (20, .iload 7, 2), (22, .iconst 4, 1), (23, .if_icmp .ge 27, 3), (26, .iload 6, 2), (28, .iload_n 0, 1), (29, .iload 5, 2), (31, .iload_n 1, 1), (32, .imul, 1), (33, .iload 7, 2), (35, .iload_n 2, 1), (36, .imul, 1), (37, .iadd, 1), (38, .invokestatic 63, 3), (41, .ior, 1), (42, .istore 6, 2), (44, .iinc 7 1, 3), (47, .goto (-27), 3), (50, .iload 6, 2), (52, .ifCond .eq 19, 3), (55, .iload_n 3, 1), (56, .iconst (-1), 1), (57, .if_icmp .ne 8, 3), (60, .iload 5, 2), (62, .goto 4, 3), (65, .iload_n 3, 1), (66, .istore_n 3, 1), (67, .iload 5, 2), (69, .istore 4, 2), (71, .iinc 5 1, 3), (74, .goto (-66), 3), (77, .iload_n 3, 1), (78, .iconst (-1), 1), (79, .if_icmp .ne 7, 3), (82, .iconst 0, 1), (83, .goto 9, 3), (86, .iload 4, 2), (88, .iload_n 3, 1), (89, .isub, 1), (90, .iconst 1, 1), (91, .iadd, 1), (92, .ireturn, 1)]
-- 43: KnobEye$Eye.sum(I)I
def eg_i43 : eg_MI := (⟨"KnobEye$Eye", "sum", "(I)I"⟩, prog_4_method_10_code, 2, some .int, none, 2, 1)
def eg_c43 : List (Nat × Instr × Nat) := [(0, .aload_n 0, 1), (1, .aload_n 0, 1), (2, .getfield 18, 3), (5, .iload_n 1, 1), (6, .invokevirtual 47, 3), (9, .ireturn, 1)]
-- 44: KnobEye$Eye.turnBy(IZLKnobEye$Turner;LKnobEye$Facts;)Z
def eg_i44 : eg_MI := (⟨"KnobEye$Eye", "turnBy", "(IZLKnobEye$Turner;LKnobEye$Facts;)Z"⟩, prog_4_method_17_code, 10, some .boolean, none, 2, 4)
def eg_c44 : List (Nat × Instr × Nat) := [(0, .aload_n 0, 1), (1, .dup, 1), (2, .getfield 28, 3), (5, .iconst 1, 1), (6, .iadd, 1), (7, .putfield 28, 3), (10, .aload_n 0, 1), (11, .iload_n 1, 1), (12, .invokevirtual 67, 3), (15, .istore 5, 2), (17, .iload 5, 2), (19, .aload_n 0, 1), (20, .getfield 25, 3), (23, .if_icmp .le 7, 3), (26, .iconst 1, 1), (27, .goto 4, 3), (30, .iconst 0, 1), (31, .iload_n 2, 1), (32, .if_icmp .eq 7, 3), (35, .iconst 1, 1), (36, .goto 4, 3), (39, .iconst 0, 1), (40, .istore 6, 2), (42, .aload 4, 2), (44, .iload 6, 2), (46, .putfield 70, 3), (49, .aload 4, 2), (51, .iload_n 2, 1), (52, .putfield 76, 3), (55, .aload 4, 2), (57, .iload 5, 2), (59, .aload_n 0, 1), (60, .getfield 25, 3), (63, .isub, 1), (64, .invokestatic 51, 3), (67, .putfield 79, 3), (70, .aload 4, 2), (72, .aload_n 0, 1), (73, .getfield 28, 3), (76, .putfield 82, 3), (79, .iload_n 2, 1), (80, .ifCond .eq 7, 3), (83, .iconst 1, 1), (84, .goto 4, 3), (87, .iconst (-1), 1), (88, .istore 7, 2), (90, .iconst 0, 1), (91, .istore 8, 2), (93, .iload 8, 2), (95, .aload_n 0, 1), (96, .getfield 21, 3), (99, .if_icmp .ge 83, 3), (102, .aload_n 0, 1), (103, .iload 8, 2), (105, .invokevirtual 83, 3), (108, .ifCond .ne 68, 3), (111, .aload_n 0, 1), (112, .iload 8, 2), (114, .iload_n 1, 1), (115, .invokevirtual 43, 3), (118, .istore 9, 2), (120, .aload 4, 2), (122, .iload 9, 2), (124, .putfield 87, 3), (127, .aload 4, 2), (129, .aload_n 0, 1), (130, .getfield 18, 3), (133, .iload 8, 2), (135, .iaload, 1), (136, .invokestatic 51, 3), (139, .putfield 90, 3), (142, .aload_n 0, 1), (143, .getfield 18, 3), (146, .iload 8, 2), (148, .aload_n 0, 1), (149, .getfield 18, 3), (152, .iload 8, 2), (154, .iaload, 1), (155, .iload 7, 2), (157, .iload 9, 2), (159, .imul, 1), (160, .aload_n 3, 1), (161, .iconst 1, 1), (162, .aload 4, 2), (164, .invokevirtual 93, 3), (167, .imul, 1), (168, .iadd, 1), (169, .sipush 200, 3), (172, .invokestatic 99, 3), (175, .iastore, 1), (176, .iinc 8 1, 3), (179, .goto (-86), 3), (182, .aload_n 0, 1), (183, .bipush 6, 2), (185, .invokevirtual 83, 3), (188, .ifCond .ne 46, 3), (191, .aload 4, 2), (193, .iconst 0, 1), (194, .putfield 87, 3), (197, .aload 4, 2), (199, .aload_n 0, 1), (200, .getfield 25, 3), (203, .invokestatic 51, 3), (206, .putfield 90, 3), (209, .aload_n 0, 1), (210, .aload_n 0, 1), (211, .getfield 25, 3), (214, .iload 7, 2), (216, .aload_n 3, 1), (217, .iconst 0, 1), (218, .aload 4, 2), (220, .invokevirtual 93, 3), (223, .imul, 1), (224, .isub, 1), (225, .sipush 2000, 3), (228, .invokestatic 99, 3), (231, .putfield 25, 3), (234, .aload_n 0, 1), (235, .getfield 34, 3), (238, .ifCond .le 19, 3), (241, .aload_n 0, 1), (242, .getfield 28, 3), (245, .aload_n 0, 1), (246, .getfield 34, 3), (249, .irem, 1), (250, .ifCond .ne 7, 3), (253, .aload_n 0, 1), (254, .invokevirtual 102, 3), (257, .iload 6, 2), (259, .ireturn, 1)]
-- 45: KnobEye$Eye.isStuck(I)Z
def eg_i45 : eg_MI := (⟨"KnobEye$Eye", "isStuck", "(I)Z"⟩, prog_4_method_19_code, 2, some .boolean, none, 2, 1)
def eg_c45 : List (Nat × Instr × Nat) := [(0, .aload_n 0, 1), (1, .getfield 31, 3), (4, .iload_n 1, 1), (5, .ishr, 1), (6, .iconst 1, 1), (7, .iand, 1), (8, .ifCond .eq 7, 3), (11, .iconst 1, 1), (12, .goto 4, 3), (15, .iconst 0, 1), (16, .ireturn, 1)]
-- 46: KnobEye$Eye.within(II)I
def eg_i46 : eg_MI := (⟨"KnobEye$Eye", "within", "(II)I"⟩, prog_4_method_20_code, 2, some .int, none, 2, 2)
def eg_c46 : List (Nat × Instr × Nat) := [(0, .iload_n 1, 1), (1, .ineg, 1), (2, .iload_n 1, 1), (3, .iload_n 0, 1), (4, .invokestatic 105, 3), (7, .invokestatic 60, 3), (10, .ireturn, 1)]
-- 47: KnobEye$Eye.fall()V
def eg_i47 : eg_MI := (⟨"KnobEye$Eye", "fall", "()V"⟩, prog_4_method_18_code, 2, none, none, 2, 0)
def eg_c47 : List (Nat × Instr × Nat) := [(0, .iconst 0, 1), (1, .istore_n 1, 1), (2, .iload_n 1, 1), (3, .aload_n 0, 1), (4, .getfield 21, 3), (7, .if_icmp .ge 53, 3), (10, .aload_n 0, 1), (11, .iload_n 1, 1), (12, .invokevirtual 83, 3), (15, .ifCond .ne 39, 3), (18, .aload_n 0, 1), (19, .getfield 18, 3), (22, .iload_n 1, 1), (23, .dup2, 1), (24, .iaload, 1), (25, .aload_n 0, 1), (26, .getfield 18, 3), (29, .iload_n 1, 1), (30, .iaload, 1), (31, .ifCond .le 7, 3), (34, .iconst 1, 1), (35, .goto 17, 3), (38, .aload_n 0, 1), (39, .getfield 18, 3), (42, .iload_n 1, 1), (43, .iaload, 1), (44, .ifCond .ge 7, 3), (47, .iconst (-1), 1), (48, .goto 4, 3), (51, .iconst 0, 1), (52, .isub, 1), (53, .iastore, 1), (54, .iinc 1 1, 3), (57, .goto (-55), 3), (60, .return_, 1)]
-- 48: KnobEye$Eye.valuesSquared(I)I
def eg_i48 : eg_MI := (⟨"KnobEye$Eye", "valuesSquared", "(I)I"⟩, prog_4_method_9_code, 5, some .int, none, 2, 1)
def eg_c48 : List (Nat × Instr × Nat) := [(0, .iconst 0, 1), (1, .istore_n 2, 1), (2, .iconst 0, 1), (3, .istore_n 3, 1), (4, .iload_n 3, 1), (5, .aload_n 0, 1), (6, .getfield 21, 3), (9, .if_icmp .ge 25, 3), (12, .aload_n 0, 1), (13, .iload_n 3, 1), (14, .iload_n 1, 1), (15, .invokevirtual 43, 3), (18, .istore 4, 2), (20, .iload_n 2, 1), (21, .iload 4, 2), (23, .iload 4, 2), (25, .imul, 1), (26, .iadd, 1), (27, .istore_n 2, 1), (28, .iinc 3 1, 3), (31, .goto (-27), 3), (34, .iload_n 2, 1), (35, .ireturn, 1)]
-- 49: KnobEye$Eye.saysWithout(II)Z
def eg_i49 : eg_MI := (⟨"KnobEye$Eye", "saysWithout", "(II)Z"⟩, prog_4_method_13_code, 5, some .boolean, none, 2, 2)
def eg_c49 : List (Nat × Instr × Nat) := [(0, .iconst 0, 1), (1, .istore_n 3, 1), (2, .iconst 0, 1), (3, .istore 4, 2), (5, .iload 4, 2), (7, .aload_n 0, 1), (8, .getfield 21, 3), (11, .if_icmp .ge 36, 3), (14, .iload_n 1, 1), (15, .iload 4, 2), (17, .ishr, 1), (18, .iconst 1, 1), (19, .iand, 1), (20, .ifCond .ne 21, 3), (23, .iload_n 3, 1), (24, .aload_n 0, 1), (25, .getfield 18, 3), (28, .iload 4, 2), (30, .iaload, 1), (31, .aload_n 0, 1), (32, .iload 4, 2), (34, .iload_n 2, 1), (35, .invokevirtual 43, 3), (38, .imul, 1), (39, .iadd, 1), (40, .istore_n 3, 1), (41, .iinc 4 1, 3), (44, .goto (-39), 3), (47, .iload_n 3, 1), (48, .aload_n 0, 1), (49, .getfield 25, 3), (52, .if_icmp .le 7, 3), (55, .iconst 1, 1), (56, .goto 4, 3), (59, .iconst 0, 1), (60, .ireturn, 1)]
-- 50: KnobEye$Eye.swap(II)V
def eg_i50 : eg_MI := (⟨"KnobEye$Eye", "swap", "(II)V"⟩, prog_4_method_6_code, 5, none, none, 2, 2)
def eg_c50 : List (Nat × Instr × Nat) := [(0, .iload_n 1, 1), (1, .ifCond .lt 23, 3), (4, .iload_n 1, 1), (5, .aload_n 0, 1), (6, .getfield 21, 3), (9, .if_icmp .ge 15, 3), (12, .iload_n 2, 1), (13, .ifCond .lt 11, 3), (16, .iload_n 2, 1), (17, .aload_n 0, 1), (18, .getfield 21, 3), (21, .if_icmp .lt 4, 3), (24, .return_, 1), (25, .aload_n 0, 1), (26, .getfield 9, 3), (29, .iload_n 1, 1), (30, .iaload, 1), (31, .istore_n 3, 1), (32, .aload_n 0, 1), (33, .getfield 15, 3), (36, .iload_n 1, 1), (37, .iaload, 1), (38, .istore 4, 2), (40, .aload_n 0, 1), (41, .getfield 9, 3), (44, .iload_n 1, 1), (45, .aload_n 0, 1), (46, .getfield 9, 3), (49, .iload_n 2, 1), (50, .iaload, 1), (51, .iastore, 1), (52, .aload_n 0, 1), (53, .getfield 15, 3), (56, .iload_n 1, 1), (57, .aload_n 0, 1), (58, .getfield 15, 3), (61, .iload_n 2, 1), (62, .iaload, 1), (63, .iastore, 1), (64, .aload_n 0, 1), (65, .getfield 9, 3), (68, .iload_n 2, 1), (69, .iload_n 3, 1), (70, .iastore, 1), (71, .aload_n 0, 1), (72, .getfield 15, 3), (75, .iload_n 2, 1), (76, .iload 4, 2), (78, .iastore, 1), (79, .return_, 1)]
-- 51: KnobEye$Facts.<init>()V
def eg_i51 : eg_MI := (⟨"KnobEye$Facts", "<init>", "()V"⟩, prog_5_method_1_code, 1, none, none, 3, 0)
def eg_c51 : List (Nat × Instr × Nat) := [(0, .aload_n 0, 1), (1, .invokespecial 3, 3), (4, .return_, 1)]
-- 52: KnobEye$Facts.isSo(LKnobEye$Word;I)Z
def eg_i52 : eg_MI := (⟨"KnobEye$Facts", "isSo", "(LKnobEye$Word;I)Z"⟩, prog_5_method_4_code, 3, some .boolean, none, 3, 2)
def eg_c52 : List (Nat × Instr × Nat) := [(0, .getstatic 29, 3), (3, .aload_n 1, 1), (4, .invokevirtual 35, 3), (7, .iaload, 1), (8, .tableswitch 90 15 20 #[40, 48, 66, 75, 80, 85], 40), (48, .aload_n 0, 1), (49, .getfield 41, 3), (52, .invokestatic 78, 3), (55, .ireturn, 1), (56, .aload_n 0, 1), (57, .getfield 41, 3), (60, .invokestatic 44, 3), (63, .iconst 1, 1), (64, .iand, 1), (65, .ifCond .ne 7, 3), (68, .iconst 1, 1), (69, .goto 4, 3), (72, .iconst 0, 1), (73, .ireturn, 1), (74, .aload_n 0, 1), (75, .getfield 41, 3), (78, .iload_n 2, 1), (79, .invokestatic 82, 3), (82, .ireturn, 1), (83, .aload_n 0, 1), (84, .getfield 86, 3), (87, .ireturn, 1), (88, .aload_n 0, 1), (89, .getfield 90, 3), (92, .ireturn, 1), (93, .aload_n 0, 1), (94, .getfield 93, 3), (97, .ireturn, 1), (98, .iconst 0, 1), (99, .ireturn, 1)]
-- 53: KnobEye$Facts.isOnePiece(I)Z
def eg_i53 : eg_MI := (⟨"KnobEye$Facts", "isOnePiece", "(I)Z"⟩, prog_5_method_6_code, 5, some .boolean, none, 3, 1)
def eg_c53 : List (Nat × Instr × Nat) := [(0, .iload_n 0, 1), (1, .iload_n 0, 1), (2, .ineg, 1), (3, .iand, 1), (4, .istore_n 1, 1), (5, .iconst 0, 1), (6, .istore_n 2, 1), (7, .iload_n 2, 1), (8, .bipush 16, 2), (10, .if_icmp .ge 51, 3), (13, .iload_n 1, 1), (14, .sipush 30583, 3), (17, .iand, 1), (18, .iconst 1, 1), (19, .ishl, 1), (20, .iload_n 1, 1), (21, .ldc 96, 2), (23, .iand, 1), (24, .iconst 1, 1), (25, .ishr, 1), (26, .ior, 1), (27, .iload_n 1, 1), (28, .iconst 4, 1), (29, .ishl, 1), (30, .ior, 1), (31, .iload_n 1, 1), (32, .iconst 4, 1), (33, .ishr, 1), (34, .ior, 1), (35, .istore_n 3, 1), (36, .iload_n 1, 1), (37, .iload_n 3, 1), (38, .ior, 1), (39, .iload_n 0, 1), (40, .iand, 1), (41, .istore 4, 2), (43, .iload 4, 2), (45, .iload_n 1, 1), (46, .if_icmp .ne 6, 3), (49, .goto 12, 3), (52, .iload 4, 2), (54, .istore_n 1, 1), (55, .iinc 2 1, 3), (58, .goto (-51), 3), (61, .iload_n 0, 1), (62, .ifCond .eq 12, 3), (65, .iload_n 1, 1), (66, .iload_n 0, 1), (67, .if_icmp .ne 7, 3), (70, .iconst 1, 1), (71, .goto 4, 3), (74, .iconst 0, 1), (75, .ireturn, 1)]
-- 54: KnobEye$Facts.sumOf(LKnobEye$Node;)J
def eg_i54 : eg_MI := (⟨"KnobEye$Facts", "sumOf", "(LKnobEye$Node;)J"⟩, prog_5_method_2_code, 5, some .long, none, 3, 1)
def eg_c54 : List (Nat × Instr × Nat) := [(0, .lconst 0, 1), (1, .lstore_n 2, 1), (2, .aload_n 1, 1), (3, .astore 4, 2), (5, .aload 4, 2), (7, .ifnull 49, 3), (10, .lload_n 2, 1), (11, .aload 4, 2), (13, .getfield 9, 3), (16, .ifnonnull 12, 3), (19, .aload 4, 2), (21, .getfield 15, 3), (24, .i2l, 1), (25, .goto 19, 3), (28, .aload 4, 2), (30, .getfield 15, 3), (33, .i2l, 1), (34, .aload_n 0, 1), (35, .aload 4, 2), (37, .getfield 9, 3), (40, .invokevirtual 19, 3), (43, .lmul, 1), (44, .ladd, 1), (45, .lstore_n 2, 1), (46, .aload 4, 2), (48, .getfield 25, 3), (51, .astore 4, 2), (53, .goto (-48), 3), (56, .lload_n 2, 1), (57, .lreturn, 1)]
-- 55: KnobEye$Facts.numberOf(LKnobEye$Word;)J
def eg_i55 : eg_MI := (⟨"KnobEye$Facts", "numberOf", "(LKnobEye$Word;)J"⟩, prog_5_method_3_code, 2, some .long, none, 3, 1)
def eg_c55 : List (Nat × Instr × Nat) := [(0, .getstatic 29, 3), (3, .aload_n 1, 1), (4, .invokevirtual 35, 3), (7, .iaload, 1), (8, .tableswitch 176 1 14 #[72, 81, 94, 106, 119, 128, 134, 140, 146, 146, 152, 158, 164, 170], 72), (80, .aload_n 0, 1), (81, .getfield 41, 3), (84, .invokestatic 44, 3), (87, .i2l, 1), (88, .lreturn, 1), (89, .aload_n 0, 1), (90, .getfield 41, 3), (93, .sipush 13107, 3), (96, .iand, 1), (97, .invokestatic 44, 3), (100, .i2l, 1), (101, .lreturn, 1), (102, .aload_n 0, 1), (103, .getfield 41, 3), (106, .ldc 50, 2), (108, .iand, 1), (109, .invokestatic 44, 3), (112, .i2l, 1), (113, .lreturn, 1), (114, .aload_n 0, 1), (115, .getfield 41, 3), (118, .sipush 255, 3), (121, .iand, 1), (122, .invokestatic 44, 3), (125, .i2l, 1), (126, .lreturn, 1), (127, .aload_n 0, 1), (128, .getfield 41, 3), (131, .invokestatic 51, 3), (134, .i2l, 1), (135, .lreturn, 1), (136, .aload_n 0, 1), (137, .getfield 54, 3), (140, .i2l, 1), (141, .lreturn, 1), (142, .aload_n 0, 1), (143, .getfield 57, 3), (146, .i2l, 1), (147, .lreturn, 1), (148, .aload_n 0, 1), (149, .getfield 60, 3), (152, .i2l, 1), (153, .lreturn, 1), (154, .aload_n 0, 1), (155, .getfield 63, 3), (158, .i2l, 1), (159, .lreturn, 1), (160, .aload_n 0, 1), (161, .getfield 66, 3), (164, .i2l, 1), (165, .lreturn, 1), (166, .aload_n 0, 1), (167, .getfield 69, 3), (170, .i2l, 1), (171, .lreturn, 1), (172, .aload_n 0, 1), (173, .getfield 72, 3), (176, .i2l, 1), (177, .lreturn, 1), (178, .aload_n 0, 1), (179, .getfield 75, 3), (182, .i2l, 1), (183, .lreturn, 1), (184, .lconst 0, 1), (185, .lreturn, 1)]
-- 56: KnobEye$Facts.rowsOf(I)I
def eg_i56 : eg_MI := (⟨"KnobEye$Facts", "rowsOf", "(I)I"⟩, prog_5_method_5_code, 3, some .int, none, 3, 1)
def eg_c56 : List (Nat × Instr × Nat) := [(0, .iconst 0, 1), (1, .istore_n 1, 1), (2, .iconst 0, 1), (3, .istore_n 2, 1), (4, .iload_n 2, 1), (5, .iconst 4, 1), (6, .if_icmp .ge 23, 3), (9, .iload_n 0, 1), (10, .iconst 4, 1), (11, .iload_n 2, 1), (12, .imul, 1), (13, .ishr, 1), (14, .bipush 15, 2), (16, .iand, 1), (17, .ifCond .eq 6, 3), (20, .iinc 1 1, 3), (23, .iinc 2 1, 3), (26, .goto (-22), 3), (29, .iload_n 1, 1), (30, .ireturn, 1)]
-- 57: KnobEye$Likes.<init>()V
def eg_i57 : eg_MI := (⟨"KnobEye$Likes", "<init>", "()V"⟩, prog_6_method_1_code, 1, none, none, 4, 0)
def eg_c57 : List (Nat × Instr × Nat) := [(0, .aload_n 0, 1), (1, .invokespecial 1, 3), (4, .aload_n 0, 1), (5, .ldc 9, 2), (7, .newarray .int, 2), (9, .putfield 10, 3), (12, .aload_n 0, 1), (13, .ldc 9, 2), (15, .newarray .int, 2), (17, .putfield 14, 3), (20, .return_, 1)]
-- 58: KnobEye$Likes.begin()V
def eg_i58 : eg_MI := (⟨"KnobEye$Likes", "begin", "()V"⟩, prog_6_method_2_code, 1, none, none, 4, 0)
def eg_c58 : List (Nat × Instr × Nat) := [(0, .aload_n 0, 1), (1, .dup, 1), (2, .getfield 17, 3), (5, .iconst 1, 1), (6, .iadd, 1), (7, .putfield 17, 3), (10, .return_, 1)]
-- 59: KnobEye$Likes.firstLike(II)I
def eg_i59 : eg_MI := (⟨"KnobEye$Likes", "firstLike", "(II)I"⟩, prog_6_method_3_code, 5, some .int, none, 4, 2)
def eg_c59 : List (Nat × Instr × Nat) := [(0, .iload_n 1, 1), (1, .ldc 21, 2), (3, .imul, 1), (4, .bipush 16, 2), (6, .iushr, 1), (7, .istore_n 3, 1), (8, .iconst 0, 1), (9, .istore 4, 2), (11, .iload 4, 2), (13, .ldc 9, 2), (15, .if_icmp .ge 76, 3), (18, .aload_n 0, 1), (19, .getfield 14, 3), (22, .iload_n 3, 1), (23, .iaload, 1), (24, .bipush 16, 2), (26, .iushr, 1), (27, .aload_n 0, 1), (28, .getfield 17, 3), (31, .if_icmp .eq 27, 3), (34, .aload_n 0, 1), (35, .getfield 14, 3), (38, .iload_n 3, 1), (39, .aload_n 0, 1), (40, .getfield 17, 3), (43, .bipush 16, 2), (45, .ishl, 1), (46, .iload_n 2, 1), (47, .ior, 1), (48, .iastore, 1), (49, .aload_n 0, 1), (50, .getfield 10, 3), (53, .iload_n 3, 1), (54, .iload_n 1, 1), (55, .iastore, 1), (56, .iload_n 2, 1), (57, .ireturn, 1), (58, .aload_n 0, 1), (59, .getfield 10, 3), (62, .iload_n 3, 1), (63, .iaload, 1), (64, .iload_n 1, 1), (65, .if_icmp .ne 13, 3), (68, .aload_n 0, 1), (69, .getfield 14, 3), (72, .iload_n 3, 1), (73, .iaload, 1), (74, .ldc 22, 2), (76, .iand, 1), (77, .ireturn, 1), (78, .iload_n 3, 1), (79, .iconst 1, 1), (80, .iadd, 1), (81, .ldc 22, 2), (83, .iand, 1), (84, .istore_n 3, 1), (85, .iinc 4 1, 3), (88, .goto (-77), 3), (91, .iload_n 2, 1), (92, .ireturn, 1)]
-- 60: KnobEye$Node.isTrue(LKnobEye$Facts;I)Z
def eg_i60 : eg_MI := (⟨"KnobEye$Node", "isTrue", "(LKnobEye$Facts;I)Z"⟩, prog_7_method_2_code, 4, some .boolean, none, 5, 2)
def eg_c60 : List (Nat × Instr × Nat) := [(0, .iload_n 2, 1), (1, .bipush 21, 2), (3, .if_icmp .le 5, 3), (6, .iconst 0, 1), (7, .ireturn, 1), (8, .aload_n 0, 1), (9, .getfield 9, 3), (12, .tableswitch 108 3 5 #[28, 56, 82], 28), (40, .aload_n 0, 1), (41, .getfield 15, 3), (44, .ifnull 22, 3), (47, .aload_n 1, 1), (48, .aload_n 0, 1), (49, .getfield 15, 3), (52, .aload_n 0, 1), (53, .getfield 19, 3), (56, .invokevirtual 22, 3), (59, .ifCond .eq 7, 3), (62, .iconst 1, 1), (63, .goto 4, 3), (66, .iconst 0, 1), (67, .ireturn, 1), (68, .aload_n 1, 1), (69, .aload_n 0, 1), (70, .getfield 28, 3), (73, .invokevirtual 32, 3), (76, .aload_n 1, 1), (77, .aload_n 0, 1), (78, .getfield 36, 3), (81, .invokevirtual 32, 3), (84, .lcmp, 1), (85, .ifCond .ge 7, 3), (88, .iconst 1, 1), (89, .goto 4, 3), (92, .iconst 0, 1), (93, .ireturn, 1), (94, .aload_n 1, 1), (95, .aload_n 0, 1), (96, .getfield 28, 3), (99, .invokevirtual 32, 3), (102, .aload_n 1, 1), (103, .aload_n 0, 1), (104, .getfield 36, 3), (107, .invokevirtual 32, 3), (110, .lcmp, 1), (111, .ifCond .le 7, 3), (114, .iconst 1, 1), (115, .goto 4, 3), (118, .iconst 0, 1), (119, .ireturn, 1), (120, .aload_n 0, 1), (121, .getfield 28, 3), (124, .astore_n 3, 1), (125, .aload_n 3, 1), (126, .ifnull 48, 3), (129, .aload_n 3, 1), (130, .aload_n 1, 1), (131, .iload_n 2, 1), (132, .iconst 1, 1), (133, .iadd, 1), (134, .invokevirtual 39, 3), (137, .aload_n 0, 1), (138, .getfield 9, 3), (141, .ifCond .ne 7, 3), (144, .iconst 1, 1), (145, .goto 4, 3), (148, .iconst 0, 1), (149, .if_icmp .ne 17, 3), (152, .aload_n 0, 1), (153, .getfield 9, 3), (156, .iconst 1, 1), (157, .if_icmp .eq 7, 3), (160, .iconst 1, 1), (161, .goto 4, 3), (164, .iconst 0, 1), (165, .ireturn, 1), (166, .aload_n 3, 1), (167, .getfield 43, 3), (170, .astore_n 3, 1), (171, .goto (-46), 3), (174, .aload_n 0, 1), (175, .getfield 9, 3), (178, .iconst 1, 1), (179, .if_icmp .ne 7, 3), (182, .iconst 1, 1), (183, .goto 4, 3), (186, .iconst 0, 1), (187, .ireturn, 1)]
-- 61: KnobEye$Node.<init>(I)V
def eg_i61 : eg_MI := (⟨"KnobEye$Node", "<init>", "(I)V"⟩, prog_7_method_1_code, 2, none, none, 5, 1)
def eg_c61 : List (Nat × Instr × Nat) := [(0, .aload_n 0, 1), (1, .invokespecial 3, 3), (4, .aload_n 0, 1), (5, .iload_n 1, 1), (6, .putfield 9, 3), (9, .return_, 1)]
-- 62: KnobEye$Reader.<init>()V
def eg_i62 : eg_MI := (⟨"KnobEye$Reader", "<init>", "()V"⟩, prog_8_method_1_code, 1, none, none, 6, 0)
def eg_c62 : List (Nat × Instr × Nat) := [(0, .aload_n 0, 1), (1, .invokespecial 3, 3), (4, .aload_n 0, 1), (5, .sipush 400, 3), (8, .newarray .char, 2), (10, .putfield 9, 3), (13, .aload_n 0, 1), (14, .iconst (-1), 1), (15, .putfield 15, 3), (18, .aload_n 0, 1), (19, .sipush 401, 3), (22, .anewarray 19, 3), (25, .putfield 21, 3), (28, .aload_n 0, 1), (29, .sipush 401, 3), (32, .newarray .int, 2), (34, .putfield 25, 3), (37, .aload_n 0, 1), (38, .sipush 401, 3), (41, .newarray .int, 2), (43, .putfield 29, 3), (46, .return_, 1)]
-- 63: KnobEye$Reader.hasRoom(I)Z
def eg_i63 : eg_MI := (⟨"KnobEye$Reader", "hasRoom", "(I)Z"⟩, prog_8_method_2_code, 2, some .boolean, none, 6, 1)
def eg_c63 : List (Nat × Instr × Nat) := [(0, .aload_n 0, 1), (1, .getfield 32, 3), (4, .iload_n 1, 1), (5, .iadd, 1), (6, .sipush 400, 3), (9, .if_icmp .gt 7, 3), (12, .iconst 1, 1), (13, .goto 4, 3), (16, .iconst 0, 1), (17, .ireturn, 1)]
-- 64: KnobEye$Reader.add(I)V
def eg_i64 : eg_MI := (⟨"KnobEye$Reader", "add", "(I)V"⟩, prog_8_method_3_code, 3, none, none, 6, 1)
def eg_c64 : List (Nat × Instr × Nat) := [(0, .bipush 24, 2), (2, .istore_n 2, 1), (3, .iload_n 2, 1), (4, .ifCond .lt 46, 3), (7, .aload_n 0, 1), (8, .getfield 32, 3), (11, .sipush 400, 3), (14, .if_icmp .ge 36, 3), (17, .aload_n 0, 1), (18, .getfield 9, 3), (21, .aload_n 0, 1), (22, .getfield 32, 3), (25, .iload_n 1, 1), (26, .iload_n 2, 1), (27, .iushr, 1), (28, .sipush 255, 3), (31, .iand, 1), (32, .i2c, 1), (33, .castore, 1), (34, .aload_n 0, 1), (35, .dup, 1), (36, .getfield 32, 3), (39, .iconst 1, 1), (40, .iadd, 1), (41, .putfield 32, 3), (44, .iinc 2 (-8), 3), (47, .goto (-44), 3), (50, .return_, 1)]
-- 65: KnobEye$Reader.cut(I)Z
def eg_i65 : eg_MI := (⟨"KnobEye$Reader", "cut", "(I)Z"⟩, prog_8_method_4_code, 2, some .boolean, none, 6, 1)
def eg_c65 : List (Nat × Instr × Nat) := [(0, .iload_n 1, 1), (1, .ifCond .lt 11, 3), (4, .iload_n 1, 1), (5, .aload_n 0, 1), (6, .getfield 32, 3), (9, .if_icmp .le 5, 3), (12, .iconst 0, 1), (13, .ireturn, 1), (14, .aload_n 0, 1), (15, .iload_n 1, 1), (16, .putfield 32, 3), (19, .iconst 1, 1), (20, .ireturn, 1)]
-- 66: KnobEye$Reader.takeCondition(I)LKnobEye$Node;
def eg_i66 : eg_MI := (⟨"KnobEye$Reader", "takeCondition", "(I)LKnobEye$Node;"⟩, prog_8_method_5_code, 3, some (.object "KnobEye$Node"), none, 6, 1)
def eg_c66 : List (Nat × Instr × Nat) := [(0, .aload_n 0, 1), (1, .iload_n 1, 1), (2, .invokevirtual 35, 3), (5, .aload_n 0, 1), (6, .iconst 0, 1), (7, .iconst 0, 1), (8, .invokevirtual 41, 3), (11, .astore_n 2, 1), (12, .aload_n 2, 1), (13, .ifnull 13, 3), (16, .aload_n 0, 1), (17, .getstatic 45, 3), (20, .invokevirtual 49, 3), (23, .ifCond .eq 7, 3), (26, .aload_n 2, 1), (27, .goto 7, 3), (30, .aload_n 0, 1), (31, .invokevirtual 53, 3), (34, .areturn, 1)]
-- 67: KnobEye$Reader.split(I)V
def eg_i67 : eg_MI := (⟨"KnobEye$Reader", "split", "(I)V"⟩, prog_8_method_7_code, 4, none, none, 6, 1)
def eg_c67 : List (Nat × Instr × Nat) := [(0, .aload_n 0, 1), (1, .iconst (-1), 1), (2, .putfield 15, 3), (5, .aload_n 0, 1), (6, .iconst 0, 1), (7, .putfield 70, 3), (10, .aload_n 0, 1), (11, .iconst 0, 1), (12, .putfield 74, 3), (15, .aload_n 0, 1), (16, .iconst 0, 1), (17, .putfield 67, 3), (20, .iconst 0, 1), (21, .istore_n 2, 1), (22, .iload_n 2, 1), (23, .aload_n 0, 1), (24, .getfield 32, 3), (27, .if_icmp .ge 95, 3), (30, .aload_n 0, 1), (31, .getfield 74, 3), (34, .sipush 400, 3), (37, .if_icmp .ge 85, 3), (40, .aload_n 0, 1), (41, .getfield 9, 3), (44, .iload_n 2, 1), (45, .caload, 1), (46, .bipush 32, 2), (48, .if_icmp .eq 68, 3), (51, .aload_n 0, 1), (52, .iload_n 2, 1), (53, .invokevirtual 77, 3), (56, .ifCond .ne 60, 3), (59, .aload_n 0, 1), (60, .iload_n 2, 1), (61, .invokevirtual 81, 3), (64, .istore_n 3, 1), (65, .aload_n 0, 1), (66, .getfield 21, 3), (69, .aload_n 0, 1), (70, .getfield 74, 3), (73, .aload_n 0, 1), (74, .iload_n 2, 1), (75, .iload_n 3, 1), (76, .iload_n 1, 1), (77, .invokevirtual 85, 3), (80, .aastore, 1), (81, .aload_n 0, 1), (82, .getfield 25, 3), (85, .aload_n 0, 1), (86, .getfield 74, 3), (89, .iload_n 2, 1), (90, .iastore, 1), (91, .aload_n 0, 1), (92, .getfield 29, 3), (95, .aload_n 0, 1), (96, .getfield 74, 3), (99, .aload_n 0, 1), (100, .iload_n 2, 1), (101, .iload_n 3, 1), (102, .invokevirtual 89, 3), (105, .iastore, 1), (106, .aload_n 0, 1), (107, .dup, 1), (108, .getfield 74, 3), (111, .iconst 1, 1), (112, .iadd, 1), (113, .putfield 74, 3), (116, .iinc 2 1, 3), (119, .goto (-97), 3), (122, .aload_n 0, 1), (123, .getfield 21, 3), (126, .aload_n 0, 1), (127, .getfield 74, 3), (130, .getstatic 45, 3), (133, .aastore, 1), (134, .aload_n 0, 1), (135, .getfield 25, 3), (138, .aload_n 0, 1), (139, .getfield 74, 3), (142, .aload_n 0, 1), (143, .getfield 32, 3), (146, .iastore, 1), (147, .aload_n 0, 1), (148, .dup, 1), (149, .getfield 74, 3), (152, .iconst 1, 1), (153, .iadd, 1), (154, .putfield 74, 3), (157, .aload_n 0, 1), (158, .iconst 0, 1), (159, .putfield 32, 3), (162, .return_, 1)]
-- 68: KnobEye$Reader.goesOn(I)Z
def eg_i68 : eg_MI := (⟨"KnobEye$Reader", "goesOn", "(I)Z"⟩, prog_8_method_8_code, 2, some .boolean, none, 6, 1)
def eg_c68 : List (Nat × Instr × Nat) := [(0, .iload_n 1, 1), (1, .ifCond .le 11, 3), (4, .iload_n 1, 1), (5, .aload_n 0, 1), (6, .getfield 32, 3), (9, .if_icmp .lt 5, 3), (12, .iconst 0, 1), (13, .ireturn, 1), (14, .aload_n 0, 1), (15, .getfield 9, 3), (18, .iload_n 1, 1), (19, .iconst 1, 1), (20, .isub, 1), (21, .caload, 1), (22, .invokestatic 93, 3), (25, .ifCond .eq 15, 3), (28, .aload_n 0, 1), (29, .getfield 9, 3), (32, .iload_n 1, 1), (33, .caload, 1), (34, .invokestatic 93, 3), (37, .ifCond .ne 29, 3), (40, .aload_n 0, 1), (41, .getfield 9, 3), (44, .iload_n 1, 1), (45, .iconst 1, 1), (46, .isub, 1), (47, .caload, 1), (48, .invokestatic 97, 3), (51, .ifCond .eq 19, 3), (54, .aload_n 0, 1), (55, .getfield 9, 3), (58, .iload_n 1, 1), (59, .caload, 1), (60, .invokestatic 97, 3), (63, .ifCond .eq 7, 3), (66, .iconst 1, 1), (67, .goto 4, 3), (70, .iconst 0, 1), (71, .ireturn, 1)]
-- 69: KnobEye$Reader.isLetter(C)Z
def eg_i69 : eg_MI := (⟨"KnobEye$Reader", "isLetter", "(C)Z"⟩, prog_8_method_13_code, 1, some .boolean, none, 6, 1)
def eg_c69 : List (Nat × Instr × Nat) := [(0, .iload_n 0, 1), (1, .bipush 97, 2), (3, .if_icmp .lt 13, 3), (6, .iload_n 0, 1), (7, .bipush 122, 2), (9, .if_icmp .gt 7, 3), (12, .iconst 1, 1), (13, .goto 4, 3), (16, .iconst 0, 1), (17, .ireturn, 1)]
-- 70: KnobEye$Reader.isDigit(C)Z
def eg_i70 : eg_MI := (⟨"KnobEye$Reader", "isDigit", "(C)Z"⟩, prog_8_method_14_code, 1, some .boolean, none, 6, 1)
def eg_c70 : List (Nat × Instr × Nat) := [(0, .iload_n 0, 1), (1, .bipush 48, 2), (3, .if_icmp .lt 13, 3), (6, .iload_n 0, 1), (7, .bipush 57, 2), (9, .if_icmp .gt 7, 3), (12, .iconst 1, 1), (13, .goto 4, 3), (16, .iconst 0, 1), (17, .ireturn, 1)]
-- 71: KnobEye$Reader.endOf(I)I
def eg_i71 : eg_MI := (⟨"KnobEye$Reader", "endOf", "(I)I"⟩, prog_8_method_9_code, 3, some .int, none, 6, 1)
def eg_c71 : List (Nat × Instr × Nat) := [(0, .iload_n 1, 1), (1, .iconst 1, 1), (2, .iadd, 1), (3, .istore_n 2, 1), (4, .iload_n 2, 1), (5, .aload_n 0, 1), (6, .getfield 32, 3), (9, .if_icmp .ge 19, 3), (12, .aload_n 0, 1), (13, .iload_n 2, 1), (14, .invokevirtual 77, 3), (17, .ifCond .ne 5, 3), (20, .iload_n 2, 1), (21, .ireturn, 1), (22, .iinc 2 1, 3), (25, .goto (-21), 3), (28, .aload_n 0, 1), (29, .getfield 32, 3), (32, .ireturn, 1)]
-- 72: KnobEye$Reader.wordOf(III)LKnobEye$Word;
def eg_i72 : eg_MI := (⟨"KnobEye$Reader", "wordOf", "(III)LKnobEye$Word;"⟩, prog_8_method_10_code, 6, some (.object "KnobEye$Word"), none, 6, 3)
def eg_c72 : List (Nat × Instr × Nat) := [(0, .aload_n 0, 1), (1, .getfield 9, 3), (4, .iload_n 1, 1), (5, .caload, 1), (6, .invokestatic 97, 3), (9, .ifCond .eq 7, 3), (12, .getstatic 100, 3), (15, .areturn, 1), (16, .iconst 0, 1), (17, .istore 4, 2), (19, .iload 4, 2), (21, .getstatic 103, 3), (24, .arraylength, 1), (25, .if_icmp .ge 52, 3), (28, .getstatic 103, 3), (31, .iload 4, 2), (33, .aaload, 1), (34, .astore 5, 2), (36, .aload 5, 2), (38, .getfield 106, 3), (41, .iload_n 3, 1), (42, .if_icmp .eq 12, 3), (45, .aload 5, 2), (47, .getfield 106, 3), (50, .iconst 3, 1), (51, .if_icmp .ne 20, 3), (54, .aload_n 0, 1), (55, .aload 5, 2), (57, .getfield 109, 3), (60, .iload_n 1, 1), (61, .iload_n 2, 1), (62, .invokevirtual 113, 3), (65, .ifCond .eq 6, 3), (68, .aload 5, 2), (70, .areturn, 1), (71, .iinc 4 1, 3), (74, .goto (-55), 3), (77, .getstatic 117, 3), (80, .areturn, 1)]
-- 73: KnobEye$Reader.isText(Ljava/lang/String;II)Z
def eg_i73 : eg_MI := (⟨"KnobEye$Reader", "isText", "(Ljava/lang/String;II)Z"⟩, prog_8_method_12_code, 5, some .boolean, none, 6, 3)
def eg_c73 : List (Nat × Instr × Nat) := [(0, .aload_n 1, 1), (1, .invokevirtual 120, 3), (4, .iload_n 3, 1), (5, .iload_n 2, 1), (6, .isub, 1), (7, .if_icmp .eq 5, 3), (10, .iconst 0, 1), (11, .ireturn, 1), (12, .iconst 0, 1), (13, .istore 4, 2), (15, .iload 4, 2), (17, .aload_n 1, 1), (18, .invokevirtual 120, 3), (21, .if_icmp .ge 40, 3), (24, .iload_n 2, 1), (25, .iload 4, 2), (27, .iadd, 1), (28, .aload_n 0, 1), (29, .getfield 32, 3), (32, .if_icmp .ge 29, 3), (35, .aload_n 0, 1), (36, .getfield 9, 3), (39, .iload_n 2, 1), (40, .iload 4, 2), (42, .iadd, 1), (43, .caload, 1), (44, .aload_n 1, 1), (45, .iload 4, 2), (47, .invokevirtual 125, 3), (50, .if_icmp .eq 5, 3), (53, .iconst 0, 1), (54, .ireturn, 1), (55, .iinc 4 1, 3), (58, .goto (-43), 3), (61, .iconst 1, 1), (62, .ireturn, 1)]
-- 74: KnobEye$Reader.numberOf(II)I
def eg_i74 : eg_MI := (⟨"KnobEye$Reader", "numberOf", "(II)I"⟩, prog_8_method_11_code, 5, some .int, none, 6, 2)
def eg_c74 : List (Nat × Instr × Nat) := [(0, .iload_n 2, 1), (1, .iload_n 1, 1), (2, .isub, 1), (3, .iconst 4, 1), (4, .if_icmp .gt 15, 3), (7, .aload_n 0, 1), (8, .getfield 9, 3), (11, .iload_n 1, 1), (12, .caload, 1), (13, .invokestatic 97, 3), (16, .ifCond .ne 5, 3), (19, .iconst (-1), 1), (20, .ireturn, 1), (21, .iconst 0, 1), (22, .istore_n 3, 1), (23, .iload_n 1, 1), (24, .istore 4, 2), (26, .iload 4, 2), (28, .iload_n 2, 1), (29, .if_icmp .ge 25, 3), (32, .bipush 10, 2), (34, .iload_n 3, 1), (35, .imul, 1), (36, .aload_n 0, 1), (37, .getfield 9, 3), (40, .iload 4, 2), (42, .caload, 1), (43, .iadd, 1), (44, .bipush 48, 2), (46, .isub, 1), (47, .istore_n 3, 1), (48, .iinc 4 1, 3), (51, .goto (-25), 3), (54, .iload_n 3, 1), (55, .ireturn, 1)]
-- 75: KnobEye$Reader.readGroup(II)LKnobEye$Node;
def eg_i75 : eg_MI := (⟨"KnobEye$Reader", "readGroup", "(II)LKnobEye$Node;"⟩, prog_8_method_19_code, 8, some (.object "KnobEye$Node"), none, 6, 2)
def eg_c75 : List (Nat × Instr × Nat) := [(0, .iload_n 2, 1), (1, .bipush 6, 2), (3, .if_icmp .le 8, 3), (6, .aload_n 0, 1), (7, .invokevirtual 53, 3), (10, .areturn, 1), (11, .iload_n 1, 1), (12, .ifCond .ne 7, 3), (15, .iconst 1, 1), (16, .goto 4, 3), (19, .iconst 0, 1), (20, .istore_n 3, 1), (21, .new 39, 3), (24, .dup, 1), (25, .iload_n 1, 1), (26, .invokespecial 151, 3), (29, .astore 4, 2), (31, .aconst_null, 1), (32, .astore 5, 2), (34, .iconst 0, 1), (35, .istore 6, 2), (37, .iload 6, 2), (39, .sipush 400, 3), (42, .if_icmp .ge 95, 3), (45, .iload_n 3, 1), (46, .ifCond .eq 12, 3), (49, .aload_n 0, 1), (50, .iconst 1, 1), (51, .iload_n 2, 1), (52, .invokevirtual 41, 3), (55, .goto 8, 3), (58, .aload_n 0, 1), (59, .iload_n 2, 1), (60, .invokevirtual 153, 3), (63, .astore 7, 2), (65, .aload 7, 2), (67, .ifnonnull 5, 3), (70, .aconst_null, 1), (71, .areturn, 1), (72, .aload 5, 2), (74, .ifnonnull 13, 3), (77, .aload 4, 2), (79, .aload 7, 2), (81, .putfield 157, 3), (84, .goto 10, 3), (87, .aload 5, 2), (89, .aload 7, 2), (91, .putfield 161, 3), (94, .aload 7, 2), (96, .astore 5, 2), (98, .aload_n 0, 1), (99, .iload_n 3, 1), (100, .ifCond .eq 9, 3), (103, .getstatic 164, 3), (106, .goto 6, 3), (109, .getstatic 167, 3), (112, .invokevirtual 49, 3), (115, .ifCond .ne 6, 3), (118, .goto 19, 3), (121, .aload_n 0, 1), (122, .dup, 1), (123, .getfield 67, 3), (126, .iconst 1, 1), (127, .iadd, 1), (128, .putfield 67, 3), (131, .iinc 6 1, 3), (134, .goto (-97), 3), (137, .aload 4, 2), (139, .getfield 157, 3), (142, .aload 5, 2), (144, .if_acmp .ne 8, 3), (147, .aload 5, 2), (149, .goto 5, 3), (152, .aload 4, 2), (154, .areturn, 1)]
-- 76: KnobEye$Reader.fail()LKnobEye$Node;
def eg_i76 : eg_MI := (⟨"KnobEye$Reader", "fail", "()LKnobEye$Node;"⟩, prog_8_method_17_code, 1, some (.object "KnobEye$Node"), none, 6, 0)
def eg_c76 : List (Nat × Instr × Nat) := [(0, .aload_n 0, 1), (1, .getfield 15, 3), (4, .iconst (-1), 1), (5, .if_icmp .ne 27, 3), (8, .aload_n 0, 1), (9, .getfield 67, 3), (12, .aload_n 0, 1), (13, .getfield 74, 3), (16, .if_icmp .ge 16, 3), (19, .aload_n 0, 1), (20, .aload_n 0, 1), (21, .getfield 25, 3), (24, .aload_n 0, 1), (25, .getfield 67, 3), (28, .iaload, 1), (29, .putfield 15, 3), (32, .aconst_null, 1), (33, .areturn, 1)]
-- 77: KnobEye$Reader.readAtom(I)LKnobEye$Node;
def eg_i77 : eg_MI := (⟨"KnobEye$Reader", "readAtom", "(I)LKnobEye$Node;"⟩, prog_8_method_20_code, 4, some (.object "KnobEye$Node"), none, 6, 1)
def eg_c77 : List (Nat × Instr × Nat) := [(0, .aload_n 0, 1), (1, .getstatic 170, 3), (4, .invokevirtual 49, 3), (7, .istore_n 2, 1), (8, .iload_n 2, 1), (9, .ifCond .ne 33, 3), (12, .aload_n 0, 1), (13, .getstatic 173, 3), (16, .invokevirtual 49, 3), (19, .ifCond .ne 23, 3), (22, .aload_n 0, 1), (23, .iconst 1, 1), (24, .invokevirtual 176, 3), (27, .ifnonnull 10, 3), (30, .aload_n 0, 1), (31, .invokevirtual 180, 3), (34, .goto 7, 3), (37, .aload_n 0, 1), (38, .invokevirtual 183, 3), (41, .areturn, 1), (42, .iload_n 1, 1), (43, .bipush 6, 2), (45, .if_icmp .lt 8, 3), (48, .aload_n 0, 1), (49, .invokevirtual 53, 3), (52, .areturn, 1), (53, .aload_n 0, 1), (54, .dup, 1), (55, .getfield 67, 3), (58, .iconst 1, 1), (59, .iadd, 1), (60, .putfield 67, 3), (63, .iload_n 2, 1), (64, .ifCond .ne 43, 3), (67, .aload_n 0, 1), (68, .iconst 0, 1), (69, .iload_n 1, 1), (70, .iconst 1, 1), (71, .iadd, 1), (72, .invokevirtual 41, 3), (75, .astore_n 3, 1), (76, .aload_n 3, 1), (77, .ifnull 13, 3), (80, .aload_n 0, 1), (81, .getstatic 186, 3), (84, .invokevirtual 49, 3), (87, .ifCond .ne 8, 3), (90, .aload_n 0, 1), (91, .invokevirtual 53, 3), (94, .areturn, 1), (95, .aload_n 0, 1), (96, .dup, 1), (97, .getfield 67, 3), (100, .iconst 1, 1), (101, .iadd, 1), (102, .putfield 67, 3), (105, .aload_n 3, 1), (106, .areturn, 1), (107, .new 39, 3), (110, .dup, 1), (111, .iconst 2, 1), (112, .invokespecial 151, 3), (115, .astore_n 3, 1), (116, .aload_n 3, 1), (117, .aload_n 0, 1), (118, .iload_n 1, 1), (119, .iconst 1, 1), (120, .iadd, 1), (121, .invokevirtual 153, 3), (124, .putfield 157, 3), (127, .aload_n 3, 1), (128, .getfield 157, 3), (131, .ifnonnull 7, 3), (134, .aconst_null, 1), (135, .goto 4, 3), (138, .aload_n 3, 1), (139, .areturn, 1)]
-- 78: KnobEye$Reader.is(LKnobEye$Word;)Z
def eg_i78 : eg_MI := (⟨"KnobEye$Reader", "is", "(LKnobEye$Word;)Z"⟩, prog_8_method_15_code, 2, some .boolean, none, 6, 1)
def eg_c78 : List (Nat × Instr × Nat) := [(0, .aload_n 0, 1), (1, .getfield 67, 3), (4, .aload_n 0, 1), (5, .getfield 74, 3), (8, .if_icmp .ge 20, 3), (11, .aload_n 0, 1), (12, .getfield 21, 3), (15, .aload_n 0, 1), (16, .getfield 67, 3), (19, .aaload, 1), (20, .aload_n 1, 1), (21, .if_acmp .ne 7, 3), (24, .iconst 1, 1), (25, .goto 4, 3), (28, .iconst 0, 1), (29, .ireturn, 1)]
-- 79: KnobEye$Reader.wordHere(I)LKnobEye$Word;
def eg_i79 : eg_MI := (⟨"KnobEye$Reader", "wordHere", "(I)LKnobEye$Word;"⟩, prog_8_method_16_code, 2, some (.object "KnobEye$Word"), none, 6, 1)
def eg_c79 : List (Nat × Instr × Nat) := [(0, .aload_n 0, 1), (1, .getfield 67, 3), (4, .aload_n 0, 1), (5, .getfield 74, 3), (8, .if_icmp .ge 43, 3), (11, .aload_n 0, 1), (12, .getfield 21, 3), (15, .aload_n 0, 1), (16, .getfield 67, 3), (19, .aaload, 1), (20, .ifnull 31, 3), (23, .aload_n 0, 1), (24, .getfield 21, 3), (27, .aload_n 0, 1), (28, .getfield 67, 3), (31, .aaload, 1), (32, .getfield 129, 3), (35, .iload_n 1, 1), (36, .if_icmp .ne 15, 3), (39, .aload_n 0, 1), (40, .getfield 21, 3), (43, .aload_n 0, 1), (44, .getfield 67, 3), (47, .aaload, 1), (48, .goto 4, 3), (51, .aconst_null, 1), (52, .areturn, 1)]
-- 80: KnobEye$Reader.readComparison()LKnobEye$Node;
def eg_i80 : eg_MI := (⟨"KnobEye$Reader", "readComparison", "()LKnobEye$Node;"⟩, prog_8_method_22_code, 4, some (.object "KnobEye$Node"), none, 6, 0)
def eg_c80 : List (Nat × Instr × Nat) := [(0, .aload_n 0, 1), (1, .invokevirtual 198, 3), (4, .astore_n 1, 1), (5, .aload_n 1, 1), (6, .ifnonnull 5, 3), (9, .aconst_null, 1), (10, .areturn, 1), (11, .aload_n 0, 1), (12, .getstatic 201, 3), (15, .invokevirtual 49, 3), (18, .istore_n 2, 1), (19, .iload_n 2, 1), (20, .ifCond .ne 18, 3), (23, .aload_n 0, 1), (24, .getstatic 204, 3), (27, .invokevirtual 49, 3), (30, .ifCond .ne 8, 3), (33, .aload_n 0, 1), (34, .invokevirtual 53, 3), (37, .areturn, 1), (38, .aload_n 0, 1), (39, .dup, 1), (40, .getfield 67, 3), (43, .iconst 1, 1), (44, .iadd, 1), (45, .putfield 67, 3), (48, .new 39, 3), (51, .dup, 1), (52, .iload_n 2, 1), (53, .ifCond .eq 7, 3), (56, .iconst 4, 1), (57, .goto 4, 3), (60, .iconst 5, 1), (61, .invokespecial 151, 3), (64, .astore_n 3, 1), (65, .aload_n 3, 1), (66, .aload_n 1, 1), (67, .putfield 157, 3), (70, .aload_n 3, 1), (71, .aload_n 0, 1), (72, .invokevirtual 198, 3), (75, .putfield 207, 3), (78, .aload_n 3, 1), (79, .getfield 207, 3), (82, .ifnonnull 7, 3), (85, .aconst_null, 1), (86, .goto 4, 3), (89, .aload_n 3, 1), (90, .areturn, 1)]
-- 81: KnobEye$Reader.readSum()LKnobEye$Node;
def eg_i81 : eg_MI := (⟨"KnobEye$Reader", "readSum", "()LKnobEye$Node;"⟩, prog_8_method_23_code, 6, some (.object "KnobEye$Node"), none, 6, 0)
def eg_c81 : List (Nat × Instr × Nat) := [(0, .aconst_null, 1), (1, .astore_n 1, 1), (2, .aconst_null, 1), (3, .astore_n 2, 1), (4, .iconst 0, 1), (5, .istore_n 3, 1), (6, .iload_n 3, 1), (7, .sipush 400, 3), (10, .if_icmp .ge 233, 3), (13, .new 39, 3), (16, .dup, 1), (17, .bipush 6, 2), (19, .invokespecial 151, 3), (22, .astore 4, 2), (24, .aload 4, 2), (26, .iconst 1, 1), (27, .putfield 195, 3), (30, .aload_n 0, 1), (31, .getstatic 100, 3), (34, .invokevirtual 49, 3), (37, .ifCond .ne 7, 3), (40, .iconst 1, 1), (41, .goto 4, 3), (44, .iconst 0, 1), (45, .istore 5, 2), (47, .iload 5, 2), (49, .ifCond .ne 83, 3), (52, .aload 4, 2), (54, .aload_n 0, 1), (55, .getfield 67, 3), (58, .aload_n 0, 1), (59, .getfield 74, 3), (62, .if_icmp .ge 15, 3), (65, .aload_n 0, 1), (66, .getfield 29, 3), (69, .aload_n 0, 1), (70, .getfield 67, 3), (73, .iaload, 1), (74, .goto 4, 3), (77, .iconst (-1), 1), (78, .putfield 195, 3), (81, .aload 4, 2), (83, .getfield 195, 3), (86, .ifCond .ge 8, 3), (89, .aload_n 0, 1), (90, .invokevirtual 53, 3), (93, .areturn, 1), (94, .aload_n 0, 1), (95, .dup, 1), (96, .getfield 67, 3), (99, .iconst 1, 1), (100, .iadd, 1), (101, .putfield 67, 3), (104, .aload_n 0, 1), (105, .getstatic 210, 3), (108, .invokevirtual 49, 3), (111, .istore 5, 2), (113, .aload_n 0, 1), (114, .dup, 1), (115, .getfield 67, 3), (118, .iload 5, 2), (120, .ifCond .eq 7, 3), (123, .iconst 1, 1), (124, .goto 4, 3), (127, .iconst 0, 1), (128, .iadd, 1), (129, .putfield 67, 3), (132, .iload 5, 2), (134, .ifCond .eq 61, 3), (137, .aload 4, 2), (139, .aload_n 0, 1), (140, .iconst 2, 1), (141, .invokevirtual 176, 3), (144, .putfield 189, 3), (147, .aload 4, 2), (149, .getfield 189, 3), (152, .ifnonnull 8, 3), (155, .aload_n 0, 1), (156, .invokevirtual 53, 3), (159, .areturn, 1), (160, .aload_n 0, 1), (161, .dup, 1), (162, .getfield 70, 3), (165, .aload 4, 2), (167, .getfield 189, 3), (170, .getstatic 213, 3), (173, .if_acmp .ne 7, 3), (176, .iconst 1, 1), (177, .goto 4, 3), (180, .iconst 0, 1), (181, .ior, 1), (182, .putfield 70, 3), (185, .aload_n 0, 1), (186, .dup, 1), (187, .getfield 67, 3), (190, .iconst 1, 1), (191, .iadd, 1), (192, .putfield 67, 3), (195, .aload_n 2, 1), (196, .ifnonnull 9, 3), (199, .aload 4, 2), (201, .astore_n 1, 1), (202, .goto 9, 3), (205, .aload_n 2, 1), (206, .aload 4, 2), (208, .putfield 161, 3), (211, .aload 4, 2), (213, .astore_n 2, 1), (214, .aload_n 0, 1), (215, .getstatic 216, 3), (218, .invokevirtual 49, 3), (221, .ifCond .ne 6, 3), (224, .goto 19, 3), (227, .aload_n 0, 1), (228, .dup, 1), (229, .getfield 67, 3), (232, .iconst 1, 1), (233, .iadd, 1), (234, .putfield 67, 3), (237, .iinc 3 1, 3), (240, .goto (-234), 3), (243, .aload_n 1, 1), (244, .areturn, 1)]
-- 82: KnobEye$Reader.readTag()LKnobEye$Node;
def eg_i82 : eg_MI := (⟨"KnobEye$Reader", "readTag", "()LKnobEye$Node;"⟩, prog_8_method_21_code, 2, some (.object "KnobEye$Node"), none, 6, 0)
def eg_c82 : List (Nat × Instr × Nat) := [(0, .new 39, 3), (3, .dup, 1), (4, .iconst 3, 1), (5, .invokespecial 151, 3), (8, .astore_n 1, 1), (9, .aload_n 1, 1), (10, .aload_n 0, 1), (11, .iconst 1, 1), (12, .invokevirtual 176, 3), (15, .putfield 189, 3), (18, .aload_n 0, 1), (19, .dup, 1), (20, .getfield 67, 3), (23, .iconst 1, 1), (24, .iadd, 1), (25, .putfield 67, 3), (28, .aload_n 1, 1), (29, .getfield 189, 3), (32, .getstatic 192, 3), (35, .if_acmp .ne 13, 3), (38, .aload_n 1, 1), (39, .aload_n 0, 1), (40, .bipush 15, 2), (42, .invokevirtual 141, 3), (45, .putfield 195, 3), (48, .aload_n 0, 1), (49, .getfield 15, 3), (52, .iconst (-1), 1), (53, .if_icmp .ne 7, 3), (56, .aload_n 1, 1), (57, .goto 4, 3), (60, .aconst_null, 1), (61, .areturn, 1)]
-- 83: KnobEye$Reader.takeNumber(I)I
def eg_i83 : eg_MI := (⟨"KnobEye$Reader", "takeNumber", "(I)I"⟩, prog_8_method_24_code, 3, some .int, none, 6, 1)
def eg_c83 : List (Nat × Instr × Nat) := [(0, .aload_n 0, 1), (1, .getfield 67, 3), (4, .aload_n 0, 1), (5, .getfield 74, 3), (8, .if_icmp .ge 25, 3), (11, .aload_n 0, 1), (12, .getstatic 100, 3), (15, .invokevirtual 49, 3), (18, .ifCond .eq 15, 3), (21, .aload_n 0, 1), (22, .getfield 29, 3), (25, .aload_n 0, 1), (26, .getfield 67, 3), (29, .iaload, 1), (30, .goto 4, 3), (33, .iconst (-1), 1), (34, .istore_n 2, 1), (35, .iload_n 2, 1), (36, .ifCond .lt 8, 3), (39, .iload_n 2, 1), (40, .iload_n 1, 1), (41, .if_icmp .le 10, 3), (44, .aload_n 0, 1), (45, .invokevirtual 53, 3), (48, .pop, 1), (49, .iconst (-1), 1), (50, .ireturn, 1), (51, .aload_n 0, 1), (52, .dup, 1), (53, .getfield 67, 3), (56, .iconst 1, 1), (57, .iadd, 1), (58, .putfield 67, 3), (61, .iload_n 2, 1), (62, .ireturn, 1)]
-- 84: KnobEye$Reader.takeTurner()LKnobEye$Turner;
def eg_i84 : eg_MI := (⟨"KnobEye$Reader", "takeTurner", "()LKnobEye$Turner;"⟩, prog_8_method_6_code, 4, some (.object "KnobEye$Turner"), none, 6, 0)
def eg_c84 : List (Nat × Instr × Nat) := [(0, .aload_n 0, 1), (1, .iconst 1, 1), (2, .invokevirtual 35, 3), (5, .new 57, 3), (8, .dup, 1), (9, .invokespecial 59, 3), (12, .astore_n 1, 1), (13, .aload_n 0, 1), (14, .getstatic 45, 3), (17, .invokevirtual 49, 3), (20, .ifCond .ne 7, 3), (23, .iconst 1, 1), (24, .goto 4, 3), (27, .iconst 0, 1), (28, .istore_n 2, 1), (29, .iconst 0, 1), (30, .istore_n 3, 1), (31, .iload_n 3, 1), (32, .bipush 10, 2), (34, .if_icmp .gt 56, 3), (37, .iload_n 2, 1), (38, .ifCond .eq 52, 3), (41, .aload_n 0, 1), (42, .aload_n 1, 1), (43, .invokevirtual 60, 3), (46, .aload_n 0, 1), (47, .getfield 15, 3), (50, .iconst (-1), 1), (51, .if_icmp .ne 17, 3), (54, .aload_n 0, 1), (55, .getstatic 64, 3), (58, .invokevirtual 49, 3), (61, .ifCond .eq 7, 3), (64, .iconst 1, 1), (65, .goto 4, 3), (68, .iconst 0, 1), (69, .istore_n 2, 1), (70, .iload_n 2, 1), (71, .ifCond .eq 13, 3), (74, .aload_n 0, 1), (75, .dup, 1), (76, .getfield 67, 3), (79, .iconst 1, 1), (80, .iadd, 1), (81, .putfield 67, 3), (84, .iinc 3 1, 3), (87, .goto (-56), 3), (90, .aload_n 0, 1), (91, .getfield 15, 3), (94, .iconst (-1), 1), (95, .if_icmp .ne 18, 3), (98, .aload_n 0, 1), (99, .getstatic 45, 3), (102, .invokevirtual 49, 3), (105, .ifCond .ne 8, 3), (108, .aload_n 0, 1), (109, .invokevirtual 53, 3), (112, .pop, 1), (113, .aload_n 0, 1), (114, .getfield 15, 3), (117, .iconst (-1), 1), (118, .if_icmp .ne 7, 3), (121, .aload_n 1, 1), (122, .goto 4, 3), (125, .aconst_null, 1), (126, .areturn, 1)]
-- 85: KnobEye$Reader.readLine(LKnobEye$Turner;)V
def eg_i85 : eg_MI := (⟨"KnobEye$Reader", "readLine", "(LKnobEye$Turner;)V"⟩, prog_8_method_18_code, 5, none, none, 6, 1)
def eg_c85 : List (Nat × Instr × Nat) := [(0, .aload_n 0, 1), (1, .getstatic 132, 3), (4, .invokevirtual 49, 3), (7, .istore_n 2, 1), (8, .aload_n 1, 1), (9, .getfield 135, 3), (12, .bipush 10, 2), (14, .if_icmp .ge 17, 3), (17, .iload_n 2, 1), (18, .ifCond .ne 19, 3), (21, .aload_n 0, 1), (22, .getstatic 138, 3), (25, .invokevirtual 49, 3), (28, .ifCond .ne 9, 3), (31, .aload_n 0, 1), (32, .invokevirtual 53, 3), (35, .pop, 1), (36, .return_, 1), (37, .aload_n 0, 1), (38, .dup, 1), (39, .getfield 67, 3), (42, .iconst 1, 1), (43, .iadd, 1), (44, .putfield 67, 3), (47, .aload_n 0, 1), (48, .bipush 50, 2), (50, .invokevirtual 141, 3), (53, .istore_n 3, 1), (54, .aconst_null, 1), (55, .astore 4, 2), (57, .aload_n 0, 1), (58, .getfield 15, 3), (61, .iconst (-1), 1), (62, .if_icmp .ne 31, 3), (65, .aload_n 0, 1), (66, .getstatic 144, 3), (69, .invokevirtual 49, 3), (72, .ifCond .eq 21, 3), (75, .aload_n 0, 1), (76, .dup, 1), (77, .getfield 67, 3), (80, .iconst 1, 1), (81, .iadd, 1), (82, .putfield 67, 3), (85, .aload_n 0, 1), (86, .iconst 0, 1), (87, .iconst 0, 1), (88, .invokevirtual 41, 3), (91, .astore 4, 2), (93, .aload_n 0, 1), (94, .getfield 15, 3), (97, .iconst (-1), 1), (98, .if_icmp .ne 11, 3), (101, .aload_n 1, 1), (102, .iload_n 2, 1), (103, .iload_n 3, 1), (104, .aload 4, 2), (106, .invokevirtual 147, 3), (109, .return_, 1)]
-- 86: KnobEye$Rule.makeReady(LKnobEye$Facts;)V
def eg_i86 : eg_MI := (⟨"KnobEye$Rule", "makeReady", "(LKnobEye$Facts;)V"⟩, prog_9_method_2_code, 4, none, none, 7, 1)
def eg_c86 : List (Nat × Instr × Nat) := [(0, .aload_n 0, 1), (1, .getfield 15, 3), (4, .ifnull 4, 3), (7, .return_, 1), (8, .sipush 1024, 3), (11, .newarray .long, 2), (13, .astore_n 2, 1), (14, .iconst 0, 1), (15, .istore_n 3, 1), (16, .iload_n 3, 1), (17, .ldc 19, 2), (19, .if_icmp .ge 41, 3), (22, .aload_n 1, 1), (23, .iload_n 3, 1), (24, .putfield 20, 3), (27, .aload_n 0, 1), (28, .getfield 9, 3), (31, .aload_n 1, 1), (32, .iconst 0, 1), (33, .invokevirtual 26, 3), (36, .ifCond .eq 18, 3), (39, .aload_n 2, 1), (40, .iload_n 3, 1), (41, .bipush 6, 2), (43, .ishr, 1), (44, .dup2, 1), (45, .laload, 1), (46, .lconst 1, 1), (47, .iload_n 3, 1), (48, .bipush 63, 2), (50, .iand, 1), (51, .lshl, 1), (52, .lor, 1), (53, .lastore, 1), (54, .iinc 3 1, 3), (57, .goto (-41), 3), (60, .aload_n 0, 1), (61, .aload_n 2, 1), (62, .putfield 15, 3), (65, .return_, 1)]
-- 87: KnobEye$Rule.tells(ILKnobEye$Facts;)Z
def eg_i87 : eg_MI := (⟨"KnobEye$Rule", "tells", "(ILKnobEye$Facts;)Z"⟩, prog_9_method_3_code, 3, some .boolean, none, 7, 2)
def eg_c87 : List (Nat × Instr × Nat) := [(0, .aload_n 0, 1), (1, .getfield 15, 3), (4, .ifnull 40, 3), (7, .iload_n 1, 1), (8, .ifCond .lt 36, 3), (11, .iload_n 1, 1), (12, .ldc 19, 2), (14, .if_icmp .ge 30, 3), (17, .aload_n 0, 1), (18, .getfield 15, 3), (21, .iload_n 1, 1), (22, .bipush 6, 2), (24, .ishr, 1), (25, .laload, 1), (26, .iload_n 1, 1), (27, .bipush 63, 2), (29, .iand, 1), (30, .lshr, 1), (31, .lconst 1, 1), (32, .land, 1), (33, .lconst 0, 1), (34, .lcmp, 1), (35, .ifCond .eq 7, 3), (38, .iconst 1, 1), (39, .goto 4, 3), (42, .iconst 0, 1), (43, .ireturn, 1), (44, .aload_n 2, 1), (45, .iload_n 1, 1), (46, .putfield 20, 3), (49, .aload_n 0, 1), (50, .getfield 9, 3), (53, .aload_n 2, 1), (54, .iconst 0, 1), (55, .invokevirtual 26, 3), (58, .ireturn, 1)]
-- 88: KnobEye$Rule.<init>(LKnobEye$Node;)V
def eg_i88 : eg_MI := (⟨"KnobEye$Rule", "<init>", "(LKnobEye$Node;)V"⟩, prog_9_method_1_code, 2, none, none, 7, 1)
def eg_c88 : List (Nat × Instr × Nat) := [(0, .aload_n 0, 1), (1, .invokespecial 3, 3), (4, .aload_n 0, 1), (5, .aload_n 1, 1), (6, .putfield 9, 3), (9, .return_, 1)]
-- 89: KnobEye$Search.<init>()V
def eg_i89 : eg_MI := (⟨"KnobEye$Search", "<init>", "()V"⟩, prog_10_method_1_code, 1, none, none, 8, 0)
def eg_c89 : List (Nat × Instr × Nat) := [(0, .aload_n 0, 1), (1, .invokespecial 5, 3), (4, .aload_n 0, 1), (5, .bipush 6, 2), (7, .sipush 151, 3), (10, .multianewarray 11 2, 4), (14, .putfield 13, 3), (17, .aload_n 0, 1), (18, .bipush 7, 2), (20, .sipush 151, 3), (23, .multianewarray 11 2, 4), (27, .putfield 16, 3), (30, .aload_n 0, 1), (31, .bipush 7, 2), (33, .sipush 151, 3), (36, .multianewarray 11 2, 4), (40, .putfield 19, 3), (43, .aload_n 0, 1), (44, .bipush 6, 2), (46, .newarray .int, 2), (48, .putfield 22, 3), (51, .aload_n 0, 1), (52, .bipush 6, 2), (54, .newarray .int, 2), (56, .putfield 26, 3), (59, .aload_n 0, 1), (60, .bipush 31, 2), (62, .newarray .int, 2), (64, .putfield 29, 3), (67, .return_, 1)]
-- 90: KnobEye$Search.leastOf(LKnobEye$Eye;LKnobEye$State;I)V
def eg_i90 : eg_MI := (⟨"KnobEye$Search", "leastOf", "(LKnobEye$Eye;LKnobEye$State;I)V"⟩, prog_10_method_3_code, 4, none, none, 8, 3)
def eg_c90 : List (Nat × Instr × Nat) := [(0, .aload_n 0, 1), (1, .aload_n 1, 1), (2, .aload_n 2, 1), (3, .aload_n 2, 1), (4, .getfield 43, 3), (7, .iload_n 3, 1), (8, .invokevirtual 32, 3), (11, .aload_n 0, 1), (12, .invokevirtual 40, 3), (15, .return_, 1)]
-- 91: KnobEye$Search.begin(LKnobEye$Eye;LKnobEye$State;II)V
def eg_i91 : eg_MI := (⟨"KnobEye$Search", "begin", "(LKnobEye$Eye;LKnobEye$State;II)V"⟩, prog_10_method_6_code, 7, none, none, 8, 4)
def eg_c91 : List (Nat × Instr × Nat) := [(0, .aload_n 0, 1), (1, .aload_n 1, 1), (2, .getfield 85, 3), (5, .putfield 90, 3), (8, .aload_n 0, 1), (9, .iload 4, 2), (11, .putfield 91, 3), (14, .aload_n 0, 1), (15, .iconst 0, 1), (16, .putfield 65, 3), (19, .iconst 0, 1), (20, .istore 5, 2), (22, .iload 5, 2), (24, .iload_n 3, 1), (25, .if_icmp .ge 81, 3), (28, .iload 5, 2), (30, .aload_n 2, 1), (31, .getfield 43, 3), (34, .if_icmp .ge 72, 3), (37, .iconst 0, 1), (38, .istore 6, 2), (40, .iload 6, 2), (42, .iload_n 3, 1), (43, .if_icmp .ge 57, 3), (46, .iload 6, 2), (48, .aload_n 2, 1), (49, .getfield 43, 3), (52, .if_icmp .ge 48, 3), (55, .aload_n 2, 1), (56, .getfield 78, 3), (59, .iload 5, 2), (61, .baload, 1), (62, .ifCond .eq 32, 3), (65, .aload_n 2, 1), (66, .getfield 78, 3), (69, .iload 6, 2), (71, .baload, 1), (72, .ifCond .ne 22, 3), (75, .aload_n 0, 1), (76, .aload_n 1, 1), (77, .aload_n 2, 1), (78, .getfield 82, 3), (81, .iload 5, 2), (83, .iaload, 1), (84, .aload_n 2, 1), (85, .getfield 82, 3), (88, .iload 6, 2), (90, .iaload, 1), (91, .invokevirtual 74, 3), (94, .iinc 6 1, 3), (97, .goto (-57), 3), (100, .iinc 5 1, 3), (103, .goto (-81), 3), (106, .aload_n 0, 1), (107, .aload_n 0, 1), (108, .getfield 65, 3), (111, .putfield 94, 3), (114, .aload_n 0, 1), (115, .iconst 0, 1), (116, .putfield 36, 3), (119, .aload_n 0, 1), (120, .iconst 0, 1), (121, .putfield 49, 3), (124, .aload_n 0, 1), (125, .iconst 0, 1), (126, .putfield 97, 3), (129, .aload_n 0, 1), (130, .ldc 100, 2), (132, .putfield 101, 3), (135, .aload_n 0, 1), (136, .iconst 0, 1), (137, .putfield 104, 3), (140, .return_, 1)]
-- 92: KnobEye$Search.addColumn(LKnobEye$Eye;II)V
def eg_i92 : eg_MI := (⟨"KnobEye$Search", "addColumn", "(LKnobEye$Eye;II)V"⟩, prog_10_method_7_code, 5, none, none, 8, 3)
def eg_c92 : List (Nat × Instr × Nat) := [(0, .aload_n 0, 1), (1, .getfield 65, 3), (4, .sipush 151, 3), (7, .if_icmp .lt 4, 3), (10, .return_, 1), (11, .iconst 0, 1), (12, .istore 4, 2), (14, .iload 4, 2), (16, .aload_n 0, 1), (17, .getfield 90, 3), (20, .if_icmp .ge 43, 3), (23, .iload 4, 2), (25, .bipush 6, 2), (27, .if_icmp .ge 36, 3), (30, .aload_n 0, 1), (31, .getfield 13, 3), (34, .iload 4, 2), (36, .aaload, 1), (37, .aload_n 0, 1), (38, .getfield 65, 3), (41, .aload_n 1, 1), (42, .iload 4, 2), (44, .iload_n 2, 1), (45, .invokevirtual 107, 3), (48, .aload_n 1, 1), (49, .iload 4, 2), (51, .iload_n 3, 1), (52, .invokevirtual 107, 3), (55, .isub, 1), (56, .iastore, 1), (57, .iinc 4 1, 3), (60, .goto (-46), 3), (63, .aload_n 0, 1), (64, .dup, 1), (65, .getfield 65, 3), (68, .iconst 1, 1), (69, .iadd, 1), (70, .putfield 65, 3), (73, .return_, 1)]
-- 93: KnobEye$Search.run()V
def eg_i93 : eg_MI := (⟨"KnobEye$Search", "run", "()V"⟩, prog_10_method_8_code, 4, none, none, 8, 0)
def eg_c93 : List (Nat × Instr × Nat) := [(0, .iconst 1, 1), (1, .istore_n 1, 1), (2, .iconst 0, 1), (3, .istore_n 2, 1), (4, .iload_n 2, 1), (5, .aload_n 0, 1), (6, .getfield 65, 3), (9, .if_icmp .ge 109, 3), (12, .aload_n 0, 1), (13, .getfield 19, 3), (16, .iconst 0, 1), (17, .aaload, 1), (18, .iload_n 2, 1), (19, .iconst 0, 1), (20, .iastore, 1), (21, .aload_n 0, 1), (22, .getfield 16, 3), (25, .aload_n 0, 1), (26, .getfield 90, 3), (29, .aaload, 1), (30, .iload_n 2, 1), (31, .iconst 0, 1), (32, .iastore, 1), (33, .aload_n 0, 1), (34, .getfield 90, 3), (37, .iconst 1, 1), (38, .isub, 1), (39, .istore_n 3, 1), (40, .iload_n 3, 1), (41, .ifCond .lt 44, 3), (44, .aload_n 0, 1), (45, .getfield 16, 3), (48, .iload_n 3, 1), (49, .aaload, 1), (50, .iload_n 2, 1), (51, .aload_n 0, 1), (52, .getfield 16, 3), (55, .iload_n 3, 1), (56, .iconst 1, 1), (57, .iadd, 1), (58, .aaload, 1), (59, .iload_n 2, 1), (60, .iaload, 1), (61, .aload_n 0, 1), (62, .getfield 91, 3), (65, .aload_n 0, 1), (66, .getfield 13, 3), (69, .iload_n 3, 1), (70, .aaload, 1), (71, .iload_n 2, 1), (72, .iaload, 1), (73, .invokestatic 110, 3), (76, .imul, 1), (77, .iadd, 1), (78, .iastore, 1), (79, .iinc 3 (-1), 3), (82, .goto (-42), 3), (85, .iload_n 1, 1), (86, .iload_n 2, 1), (87, .aload_n 0, 1), (88, .getfield 94, 3), (91, .if_icmp .ge 14, 3), (94, .aload_n 0, 1), (95, .getfield 16, 3), (98, .iconst 0, 1), (99, .aaload, 1), (100, .iload_n 2, 1), (101, .iaload, 1), (102, .ifCond .le 7, 3), (105, .iconst 1, 1), (106, .goto 4, 3), (109, .iconst 0, 1), (110, .iand, 1), (111, .istore_n 1, 1), (112, .iinc 2 1, 3), (115, .goto (-111), 3), (118, .iload_n 1, 1), (119, .ifCond .eq 9, 3), (122, .aload_n 0, 1), (123, .iconst 0, 1), (124, .iconst 0, 1), (125, .invokevirtual 114, 3), (128, .return_, 1)]
-- 94: KnobEye$Search.choose(II)V
def eg_i94 : eg_MI := (⟨"KnobEye$Search", "choose", "(II)V"⟩, prog_10_method_9_code, 5, none, none, 8, 2)
def eg_c94 : List (Nat × Instr × Nat) := [(0, .iload_n 1, 1), (1, .aload_n 0, 1), (2, .getfield 90, 3), (5, .if_icmp .ge 9, 3), (8, .iload_n 1, 1), (9, .bipush 6, 2), (11, .if_icmp .lt 9, 3), (14, .aload_n 0, 1), (15, .iload_n 2, 1), (16, .invokevirtual 118, 3), (19, .return_, 1), (20, .aload_n 0, 1), (21, .getfield 91, 3), (24, .ineg, 1), (25, .istore_n 3, 1), (26, .iload_n 3, 1), (27, .aload_n 0, 1), (28, .getfield 91, 3), (31, .if_icmp .gt 51, 3), (34, .iload_n 2, 1), (35, .iload_n 3, 1), (36, .invokestatic 110, 3), (39, .iadd, 1), (40, .istore 4, 2), (42, .iload 4, 2), (44, .aload_n 0, 1), (45, .getfield 101, 3), (48, .if_icmp .ge 28, 3), (51, .aload_n 0, 1), (52, .iload_n 1, 1), (53, .iload_n 3, 1), (54, .invokevirtual 122, 3), (57, .ifCond .eq 19, 3), (60, .aload_n 0, 1), (61, .getfield 22, 3), (64, .iload_n 1, 1), (65, .iload_n 3, 1), (66, .iastore, 1), (67, .aload_n 0, 1), (68, .iload_n 1, 1), (69, .iconst 1, 1), (70, .iadd, 1), (71, .iload 4, 2), (73, .invokevirtual 114, 3), (76, .iinc 3 1, 3), (79, .goto (-53), 3), (82, .return_, 1)]
-- 95: KnobEye$Search.take(I)V
def eg_i95 : eg_MI := (⟨"KnobEye$Search", "take", "(I)V"⟩, prog_10_method_11_code, 3, none, none, 8, 1)
def eg_c95 : List (Nat × Instr × Nat) := [(0, .aload_n 0, 1), (1, .iconst 1, 1), (2, .putfield 97, 3), (5, .aload_n 0, 1), (6, .getfield 49, 3), (9, .ifCond .eq 8, 3), (12, .aload_n 0, 1), (13, .invokevirtual 126, 3), (16, .return_, 1), (17, .aload_n 0, 1), (18, .aload_n 0, 1), (19, .getfield 36, 3), (22, .ifCond .eq 7, 3), (25, .iconst 0, 1), (26, .goto 4, 3), (29, .iload_n 1, 1), (30, .putfield 101, 3), (33, .iconst 0, 1), (34, .istore_n 2, 1), (35, .iload_n 2, 1), (36, .aload_n 0, 1), (37, .getfield 90, 3), (40, .if_icmp .ge 21, 3), (43, .aload_n 0, 1), (44, .getfield 26, 3), (47, .iload_n 2, 1), (48, .aload_n 0, 1), (49, .getfield 22, 3), (52, .iload_n 2, 1), (53, .iaload, 1), (54, .iastore, 1), (55, .iinc 2 1, 3), (58, .goto (-23), 3), (61, .return_, 1)]
-- 96: KnobEye$Search.countLines()V
def eg_i96 : eg_MI := (⟨"KnobEye$Search", "countLines", "()V"⟩, prog_10_method_12_code, 6, none, none, 8, 0)
def eg_c96 : List (Nat × Instr × Nat) := [(0, .bipush (-9), 2), (2, .istore_n 1, 1), (3, .bipush 9, 2), (5, .istore_n 2, 1), (6, .aload_n 0, 1), (7, .getfield 19, 3), (10, .aload_n 0, 1), (11, .getfield 90, 3), (14, .aaload, 1), (15, .astore_n 3, 1), (16, .aload_n 0, 1), (17, .getfield 94, 3), (20, .istore 4, 2), (22, .iload 4, 2), (24, .aload_n 0, 1), (25, .getfield 68, 3), (28, .if_icmp .ge 20, 3), (31, .iload_n 2, 1), (32, .aload_n 3, 1), (33, .iload 4, 2), (35, .iaload, 1), (36, .iconst 1, 1), (37, .isub, 1), (38, .invokestatic 52, 3), (41, .istore_n 2, 1), (42, .iinc 4 1, 3), (45, .goto (-23), 3), (48, .aload_n 0, 1), (49, .getfield 68, 3), (52, .istore 4, 2), (54, .iload 4, 2), (56, .aload_n 0, 1), (57, .getfield 71, 3), (60, .if_icmp .ge 18, 3), (63, .iload_n 1, 1), (64, .aload_n 3, 1), (65, .iload 4, 2), (67, .iaload, 1), (68, .invokestatic 129, 3), (71, .istore_n 1, 1), (72, .iinc 4 1, 3), (75, .goto (-21), 3), (78, .iload_n 1, 1), (79, .iload_n 2, 1), (80, .if_icmp .le 4, 3), (83, .return_, 1), (84, .aload_n 0, 1), (85, .dup, 1), (86, .getfield 104, 3), (89, .iload_n 2, 1), (90, .iload_n 1, 1), (91, .isub, 1), (92, .iconst 1, 1), (93, .iadd, 1), (94, .iadd, 1), (95, .putfield 104, 3), (98, .iconst 0, 1), (99, .istore 4, 2), (101, .iload 4, 2), (103, .aload_n 0, 1), (104, .getfield 58, 3), (107, .if_icmp .ge 46, 3), (110, .iload_n 2, 1), (111, .aload_n 3, 1), (112, .aload_n 0, 1), (113, .getfield 71, 3), (116, .iload 4, 2), (118, .iadd, 1), (119, .iaload, 1), (120, .iconst 1, 1), (121, .isub, 1), (122, .invokestatic 52, 3), (125, .istore 5, 2), (127, .aload_n 0, 1), (128, .getfield 29, 3), (131, .iload 4, 2), (133, .dup2, 1), (134, .iaload, 1), (135, .iconst 0, 1), (136, .iload 5, 2), (138, .iload_n 1, 1), (139, .isub, 1), (140, .iconst 1, 1), (141, .iadd, 1), (142, .invokestatic 129, 3), (145, .iadd, 1), (146, .iastore, 1), (147, .iinc 4 1, 3), (150, .goto (-49), 3), (153, .return_, 1)]
-- 97: KnobEye$Search.addsUp(II)Z
def eg_i97 : eg_MI := (⟨"KnobEye$Search", "addsUp", "(II)Z"⟩, prog_10_method_10_code, 9, some .boolean, none, 8, 2)
def eg_c97 : List (Nat × Instr × Nat) := [(0, .aload_n 0, 1), (1, .getfield 19, 3), (4, .iload_n 1, 1), (5, .aaload, 1), (6, .astore_n 3, 1), (7, .aload_n 0, 1), (8, .getfield 19, 3), (11, .iload_n 1, 1), (12, .iconst 1, 1), (13, .iadd, 1), (14, .aaload, 1), (15, .astore 4, 2), (17, .aload_n 0, 1), (18, .getfield 13, 3), (21, .iload_n 1, 1), (22, .aaload, 1), (23, .astore 5, 2), (25, .aload_n 0, 1), (26, .getfield 16, 3), (29, .iload_n 1, 1), (30, .iconst 1, 1), (31, .iadd, 1), (32, .aaload, 1), (33, .astore 6, 2), (35, .iconst 0, 1), (36, .istore 7, 2), (38, .iload 7, 2), (40, .aload_n 0, 1), (41, .getfield 65, 3), (44, .if_icmp .ge 52, 3), (47, .aload_n 3, 1), (48, .iload 7, 2), (50, .iaload, 1), (51, .iload_n 2, 1), (52, .aload 5, 2), (54, .iload 7, 2), (56, .iaload, 1), (57, .imul, 1), (58, .iadd, 1), (59, .istore 8, 2), (61, .iload 7, 2), (63, .aload_n 0, 1), (64, .getfield 94, 3), (67, .if_icmp .ge 16, 3), (70, .iload 8, 2), (72, .aload 6, 2), (74, .iload 7, 2), (76, .iaload, 1), (77, .iadd, 1), (78, .ifCond .gt 5, 3), (81, .iconst 0, 1), (82, .ireturn, 1), (83, .aload 4, 2), (85, .iload 7, 2), (87, .iload 8, 2), (89, .iastore, 1), (90, .iinc 7 1, 3), (93, .goto (-55), 3), (96, .iconst 1, 1), (97, .ireturn, 1)]
-- 98: KnobEye$Search.first(LKnobEye$Eye;LKnobEye$State;II)V
def eg_i98 : eg_MI := (⟨"KnobEye$Search", "first", "(LKnobEye$Eye;LKnobEye$State;II)V"⟩, prog_10_method_2_code, 5, none, none, 8, 4)
def eg_c98 : List (Nat × Instr × Nat) := [(0, .aload_n 0, 1), (1, .aload_n 1, 1), (2, .aload_n 2, 1), (3, .iload_n 3, 1), (4, .iload 4, 2), (6, .invokevirtual 32, 3), (9, .aload_n 0, 1), (10, .iconst 1, 1), (11, .putfield 36, 3), (14, .aload_n 0, 1), (15, .invokevirtual 40, 3), (18, .return_, 1)]
-- 99: KnobEye$Search.each(LKnobEye$Eye;LKnobEye$State;II)V
def eg_i99 : eg_MI := (⟨"KnobEye$Search", "each", "(LKnobEye$Eye;LKnobEye$State;II)V"⟩, prog_10_method_4_code, 6, none, none, 8, 4)
def eg_c99 : List (Nat × Instr × Nat) := [(0, .aload_n 0, 1), (1, .aload_n 1, 1), (2, .aload_n 2, 1), (3, .aload_n 2, 1), (4, .getfield 43, 3), (7, .iload_n 3, 1), (8, .invokevirtual 32, 3), (11, .aload_n 0, 1), (12, .iconst 1, 1), (13, .putfield 49, 3), (16, .aload_n 0, 1), (17, .iload 4, 2), (19, .bipush 31, 2), (21, .invokestatic 52, 3), (24, .putfield 58, 3), (27, .aload_n 0, 1), (28, .aload_n 1, 1), (29, .aload_n 2, 1), (30, .iconst 1, 1), (31, .invokevirtual 61, 3), (34, .aload_n 0, 1), (35, .aload_n 0, 1), (36, .getfield 65, 3), (39, .putfield 68, 3), (42, .aload_n 0, 1), (43, .aload_n 1, 1), (44, .aload_n 2, 1), (45, .iconst 0, 1), (46, .invokevirtual 61, 3), (49, .aload_n 0, 1), (50, .aload_n 0, 1), (51, .getfield 65, 3), (54, .putfield 71, 3), (57, .iconst 0, 1), (58, .istore 5, 2), (60, .iload 5, 2), (62, .aload_n 0, 1), (63, .getfield 58, 3), (66, .if_icmp .ge 44, 3), (69, .aload_n 0, 1), (70, .getfield 29, 3), (73, .iload 5, 2), (75, .iconst 0, 1), (76, .iastore, 1), (77, .aload_n 0, 1), (78, .aload_n 1, 1), (79, .iload 5, 2), (81, .bipush 16, 2), (83, .if_icmp .ge 10, 3), (86, .iconst 1, 1), (87, .iload 5, 2), (89, .ishl, 1), (90, .goto 10, 3), (93, .iconst 3, 1), (94, .iload 5, 2), (96, .bipush 16, 2), (98, .isub, 1), (99, .ishl, 1), (100, .iconst 0, 1), (101, .invokevirtual 74, 3), (104, .iinc 5 1, 3), (107, .goto (-47), 3), (110, .aload_n 0, 1), (111, .invokevirtual 40, 3), (114, .return_, 1)]
-- 100: KnobEye$Search.addCards(LKnobEye$Eye;LKnobEye$State;Z)V
def eg_i100 : eg_MI := (⟨"KnobEye$Search", "addCards", "(LKnobEye$Eye;LKnobEye$State;Z)V"⟩, prog_10_method_5_code, 5, none, none, 8, 3)
def eg_c100 : List (Nat × Instr × Nat) := [(0, .iconst 0, 1), (1, .istore 4, 2), (3, .iload 4, 2), (5, .aload_n 2, 1), (6, .getfield 43, 3), (9, .if_icmp .ge 33, 3), (12, .aload_n 2, 1), (13, .getfield 78, 3), (16, .iload 4, 2), (18, .baload, 1), (19, .iload_n 3, 1), (20, .if_icmp .ne 16, 3), (23, .aload_n 0, 1), (24, .aload_n 1, 1), (25, .aload_n 2, 1), (26, .getfield 82, 3), (29, .iload 4, 2), (31, .iaload, 1), (32, .iconst 0, 1), (33, .invokevirtual 74, 3), (36, .iinc 4 1, 3), (39, .goto (-36), 3), (42, .return_, 1)]
-- 101: KnobEye$State.<init>()V
def eg_i101 : eg_MI := (⟨"KnobEye$State", "<init>", "()V"⟩, prog_11_method_1_code, 2, none, none, 9, 0)
def eg_c101 : List (Nat × Instr × Nat) := [(0, .aload_n 0, 1), (1, .invokespecial 3, 3), (4, .aload_n 0, 1), (5, .iconst 4, 1), (6, .anewarray 9, 3), (9, .putfield 11, 3), (12, .aload_n 0, 1), (13, .bipush 20, 2), (15, .newarray .int, 2), (17, .putfield 17, 3), (20, .aload_n 0, 1), (21, .bipush 20, 2), (23, .newarray .boolean, 2), (25, .putfield 21, 3), (28, .aload_n 0, 1), (29, .iconst 3, 1), (30, .anewarray 25, 3), (33, .putfield 27, 3), (36, .aload_n 0, 1), (37, .iconst 4, 1), (38, .anewarray 31, 3), (41, .putfield 33, 3), (44, .aload_n 0, 1), (45, .bipush 6, 2), (47, .anewarray 37, 3), (50, .putfield 39, 3), (53, .iconst 0, 1), (54, .istore_n 1, 1), (55, .iload_n 1, 1), (56, .iconst 3, 1), (57, .if_icmp .ge 22, 3), (60, .aload_n 0, 1), (61, .getfield 27, 3), (64, .iload_n 1, 1), (65, .new 25, 3), (68, .dup, 1), (69, .invokespecial 43, 3), (72, .aastore, 1), (73, .iinc 1 1, 3), (76, .goto (-21), 3), (79, .return_, 1)]
-- 102: KnobEye$State.goingAlong(I)I
def eg_i102 : eg_MI := (⟨"KnobEye$State", "goingAlong", "(I)I"⟩, prog_11_method_9_code, 4, some .int, none, 9, 1)
def eg_c102 : List (Nat × Instr × Nat) := [(0, .iconst 0, 1), (1, .istore_n 2, 1), (2, .iconst 0, 1), (3, .istore_n 3, 1), (4, .iload_n 3, 1), (5, .aload_n 0, 1), (6, .getfield 48, 3), (9, .if_icmp .ge 31, 3), (12, .aload_n 0, 1), (13, .getfield 17, 3), (16, .iload_n 3, 1), (17, .iaload, 1), (18, .iload_n 1, 1), (19, .invokestatic 75, 3), (22, .aload_n 0, 1), (23, .getfield 21, 3), (26, .iload_n 3, 1), (27, .baload, 1), (28, .if_icmp .ne 6, 3), (31, .iinc 2 1, 3), (34, .iinc 3 1, 3), (37, .goto (-33), 3), (40, .iload_n 2, 1), (41, .ireturn, 1)]
-- 103: KnobEye$State.eyesSayingYes(I)I
def eg_i103 : eg_MI := (⟨"KnobEye$State", "eyesSayingYes", "(I)I"⟩, prog_11_method_11_code, 4, some .int, none, 9, 1)
def eg_c103 : List (Nat × Instr × Nat) := [(0, .iconst 0, 1), (1, .istore_n 2, 1), (2, .iconst 0, 1), (3, .istore_n 3, 1), (4, .iload_n 3, 1), (5, .aload_n 0, 1), (6, .getfield 51, 3), (9, .if_icmp .ge 25, 3), (12, .aload_n 0, 1), (13, .getfield 27, 3), (16, .iload_n 3, 1), (17, .aaload, 1), (18, .iload_n 1, 1), (19, .invokevirtual 67, 3), (22, .ifCond .eq 6, 3), (25, .iinc 2 1, 3), (28, .iinc 3 1, 3), (31, .goto (-27), 3), (34, .iload_n 2, 1), (35, .ireturn, 1)]
-- 104: KnobEye$State.takeFrom(LKnobEye$State;)V
def eg_i104 : eg_MI := (⟨"KnobEye$State", "takeFrom", "(LKnobEye$State;)V"⟩, prog_11_method_2_code, 3, none, none, 9, 1)
def eg_c104 : List (Nat × Instr × Nat) := [(0, .aload_n 0, 1), (1, .aload_n 1, 1), (2, .getfield 44, 3), (5, .putfield 44, 3), (8, .iconst 0, 1), (9, .istore_n 2, 1), (10, .iload_n 2, 1), (11, .iconst 4, 1), (12, .if_icmp .ge 21, 3), (15, .aload_n 0, 1), (16, .getfield 11, 3), (19, .iload_n 2, 1), (20, .aload_n 1, 1), (21, .getfield 11, 3), (24, .iload_n 2, 1), (25, .aaload, 1), (26, .aastore, 1), (27, .iinc 2 1, 3), (30, .goto (-20), 3), (33, .aload_n 0, 1), (34, .aload_n 1, 1), (35, .getfield 48, 3), (38, .putfield 48, 3), (41, .iconst 0, 1), (42, .istore_n 2, 1), (43, .iload_n 2, 1), (44, .bipush 20, 2), (46, .if_icmp .ge 33, 3), (49, .aload_n 0, 1), (50, .getfield 17, 3), (53, .iload_n 2, 1), (54, .aload_n 1, 1), (55, .getfield 17, 3), (58, .iload_n 2, 1), (59, .iaload, 1), (60, .iastore, 1), (61, .aload_n 0, 1), (62, .getfield 21, 3), (65, .iload_n 2, 1), (66, .aload_n 1, 1), (67, .getfield 21, 3), (70, .iload_n 2, 1), (71, .baload, 1), (72, .bastore, 1), (73, .iinc 2 1, 3), (76, .goto (-33), 3), (79, .aload_n 0, 1), (80, .aload_n 1, 1), (81, .getfield 51, 3), (84, .putfield 51, 3), (87, .iconst 0, 1), (88, .istore_n 2, 1), (89, .iload_n 2, 1), (90, .iconst 3, 1), (91, .if_icmp .ge 24, 3), (94, .aload_n 0, 1), (95, .getfield 27, 3), (98, .iload_n 2, 1), (99, .aaload, 1), (100, .aload_n 1, 1), (101, .getfield 27, 3), (104, .iload_n 2, 1), (105, .aaload, 1), (106, .invokevirtual 54, 3), (109, .iinc 2 1, 3), (112, .goto (-23), 3), (115, .aload_n 0, 1), (116, .aload_n 1, 1), (117, .getfield 58, 3), (120, .putfield 58, 3), (123, .iconst 0, 1), (124, .istore_n 2, 1), (125, .iload_n 2, 1), (126, .iconst 4, 1), (127, .if_icmp .ge 21, 3), (130, .aload_n 0, 1), (131, .getfield 33, 3), (134, .iload_n 2, 1), (135, .aload_n 1, 1), (136, .getfield 33, 3), (139, .iload_n 2, 1), (140, .aaload, 1), (141, .aastore, 1), (142, .iinc 2 1, 3), (145, .goto (-20), 3), (148, .aload_n 0, 1), (149, .aload_n 1, 1), (150, .getfield 61, 3), (153, .putfield 61, 3), (156, .iconst 0, 1), (157, .istore_n 2, 1), (158, .iload_n 2, 1), (159, .bipush 6, 2), (161, .if_icmp .ge 21, 3), (164, .aload_n 0, 1), (165, .getfield 39, 3), (168, .iload_n 2, 1), (169, .aload_n 1, 1), (170, .getfield 39, 3), (173, .iload_n 2, 1), (174, .aaload, 1), (175, .aastore, 1), (176, .iinc 2 1, 3), (179, .goto (-21), 3), (182, .return_, 1)]
-- 105: KnobEye$State.yesCards()I
def eg_i105 : eg_MI := (⟨"KnobEye$State", "yesCards", "()I"⟩, prog_11_method_3_code, 3, some .int, none, 9, 0)
def eg_c105 : List (Nat × Instr × Nat) := [(0, .iconst 0, 1), (1, .istore_n 1, 1), (2, .iconst 0, 1), (3, .istore_n 2, 1), (4, .iload_n 2, 1), (5, .aload_n 0, 1), (6, .getfield 48, 3), (9, .if_icmp .ge 21, 3), (12, .aload_n 0, 1), (13, .getfield 21, 3), (16, .iload_n 2, 1), (17, .baload, 1), (18, .ifCond .eq 6, 3), (21, .iinc 1 1, 3), (24, .iinc 2 1, 3), (27, .goto (-23), 3), (30, .iload_n 1, 1), (31, .ireturn, 1)]
-- 106: KnobEye$State.rightCards(LKnobEye$Eye;)I
def eg_i106 : eg_MI := (⟨"KnobEye$State", "rightCards", "(LKnobEye$Eye;)I"⟩, prog_11_method_5_code, 4, some .int, none, 9, 1)
def eg_c106 : List (Nat × Instr × Nat) := [(0, .iconst 0, 1), (1, .istore_n 2, 1), (2, .iconst 0, 1), (3, .istore_n 3, 1), (4, .iload_n 3, 1), (5, .aload_n 0, 1), (6, .getfield 48, 3), (9, .if_icmp .ge 31, 3), (12, .aload_n 1, 1), (13, .aload_n 0, 1), (14, .getfield 17, 3), (17, .iload_n 3, 1), (18, .iaload, 1), (19, .invokevirtual 67, 3), (22, .aload_n 0, 1), (23, .getfield 21, 3), (26, .iload_n 3, 1), (27, .baload, 1), (28, .if_icmp .ne 6, 3), (31, .iinc 2 1, 3), (34, .iinc 3 1, 3), (37, .goto (-33), 3), (40, .iload_n 2, 1), (41, .ireturn, 1)]
-- 107: KnobEye$State.blindPair(LKnobEye$Eye;)I
def eg_i107 : eg_MI := (⟨"KnobEye$State", "blindPair", "(LKnobEye$Eye;)I"⟩, prog_11_method_10_code, 5, some .int, none, 9, 1)
def eg_c107 : List (Nat × Instr × Nat) := [(0, .iconst 0, 1), (1, .istore_n 2, 1), (2, .iload_n 2, 1), (3, .aload_n 0, 1), (4, .getfield 48, 3), (7, .if_icmp .ge 79, 3), (10, .aload_n 1, 1), (11, .aload_n 0, 1), (12, .getfield 17, 3), (15, .iload_n 2, 1), (16, .iaload, 1), (17, .invokevirtual 78, 3), (20, .istore_n 3, 1), (21, .iload_n 2, 1), (22, .iconst 1, 1), (23, .iadd, 1), (24, .istore 4, 2), (26, .iload 4, 2), (28, .aload_n 0, 1), (29, .getfield 48, 3), (32, .if_icmp .ge 48, 3), (35, .aload_n 0, 1), (36, .getfield 21, 3), (39, .iload_n 2, 1), (40, .baload, 1), (41, .aload_n 0, 1), (42, .getfield 21, 3), (45, .iload 4, 2), (47, .baload, 1), (48, .if_icmp .eq 26, 3), (51, .aload_n 1, 1), (52, .aload_n 0, 1), (53, .getfield 17, 3), (56, .iload 4, 2), (58, .iaload, 1), (59, .invokevirtual 78, 3), (62, .iload_n 3, 1), (63, .if_icmp .ne 11, 3), (66, .bipush 20, 2), (68, .iload_n 2, 1), (69, .imul, 1), (70, .iload 4, 2), (72, .iadd, 1), (73, .ireturn, 1), (74, .iinc 4 1, 3), (77, .goto (-51), 3), (80, .iinc 2 1, 3), (83, .goto (-81), 3), (86, .iconst (-1), 1), (87, .ireturn, 1)]
-- 108: KnobEye$State.wiresInAll()I
def eg_i108 : eg_MI := (⟨"KnobEye$State", "wiresInAll", "()I"⟩, prog_11_method_4_code, 3, some .int, none, 9, 0)
def eg_c108 : List (Nat × Instr × Nat) := [(0, .iconst 0, 1), (1, .istore_n 1, 1), (2, .iconst 0, 1), (3, .istore_n 2, 1), (4, .iload_n 2, 1), (5, .aload_n 0, 1), (6, .getfield 51, 3), (9, .if_icmp .ge 21, 3), (12, .iload_n 1, 1), (13, .aload_n 0, 1), (14, .getfield 27, 3), (17, .iload_n 2, 1), (18, .aaload, 1), (19, .getfield 64, 3), (22, .iadd, 1), (23, .istore_n 1, 1), (24, .iinc 2 1, 3), (27, .goto (-23), 3), (30, .iload_n 1, 1), (31, .ireturn, 1)]
-- 109: KnobEye$State.otherwiseWithout(LKnobEye$Eye;I)I
def eg_i109 : eg_MI := (⟨"KnobEye$State", "otherwiseWithout", "(LKnobEye$Eye;I)I"⟩, prog_11_method_8_code, 5, some .int, none, 9, 2)
def eg_c109 : List (Nat × Instr × Nat) := [(0, .iconst 0, 1), (1, .istore_n 3, 1), (2, .iconst 0, 1), (3, .istore 4, 2), (5, .iload 4, 2), (7, .aload_n 0, 1), (8, .getfield 48, 3), (11, .if_icmp .ge 43, 3), (14, .aload_n 1, 1), (15, .aload_n 0, 1), (16, .getfield 17, 3), (19, .iload 4, 2), (21, .iaload, 1), (22, .invokevirtual 67, 3), (25, .aload_n 1, 1), (26, .aload_n 0, 1), (27, .getfield 17, 3), (30, .iload 4, 2), (32, .iaload, 1), (33, .iconst 1, 1), (34, .iload_n 2, 1), (35, .ishl, 1), (36, .iconst (-1), 1), (37, .ixor, 1), (38, .iand, 1), (39, .invokevirtual 67, 3), (42, .if_icmp .eq 6, 3), (45, .iinc 3 1, 3), (48, .iinc 4 1, 3), (51, .goto (-46), 3), (54, .iload_n 3, 1), (55, .ireturn, 1)]
-- 110: KnobEye$State.rightWithout(LKnobEye$Eye;I)Z
def eg_i110 : eg_MI := (⟨"KnobEye$State", "rightWithout", "(LKnobEye$Eye;I)Z"⟩, prog_11_method_7_code, 4, some .boolean, none, 9, 2)
def eg_c110 : List (Nat × Instr × Nat) := [(0, .iconst 0, 1), (1, .istore_n 3, 1), (2, .iload_n 3, 1), (3, .aload_n 0, 1), (4, .getfield 48, 3), (7, .if_icmp .ge 31, 3), (10, .aload_n 1, 1), (11, .iload_n 2, 1), (12, .aload_n 0, 1), (13, .getfield 17, 3), (16, .iload_n 3, 1), (17, .iaload, 1), (18, .invokevirtual 71, 3), (21, .aload_n 0, 1), (22, .getfield 21, 3), (25, .iload_n 3, 1), (26, .baload, 1), (27, .if_icmp .eq 5, 3), (30, .iconst 0, 1), (31, .ireturn, 1), (32, .iinc 3 1, 3), (35, .goto (-33), 3), (38, .iconst 1, 1), (39, .ireturn, 1)]
-- 111: KnobEye$State.rightOnFirst(LKnobEye$Eye;I)Z
def eg_i111 : eg_MI := (⟨"KnobEye$State", "rightOnFirst", "(LKnobEye$Eye;I)Z"⟩, prog_11_method_6_code, 4, some .boolean, none, 9, 2)
def eg_c111 : List (Nat × Instr × Nat) := [(0, .iconst 0, 1), (1, .istore_n 3, 1), (2, .iload_n 3, 1), (3, .iload_n 2, 1), (4, .if_icmp .ge 38, 3), (7, .iload_n 3, 1), (8, .aload_n 0, 1), (9, .getfield 48, 3), (12, .if_icmp .ge 30, 3), (15, .aload_n 1, 1), (16, .aload_n 0, 1), (17, .getfield 17, 3), (20, .iload_n 3, 1), (21, .iaload, 1), (22, .invokevirtual 67, 3), (25, .aload_n 0, 1), (26, .getfield 21, 3), (29, .iload_n 3, 1), (30, .baload, 1), (31, .if_icmp .eq 5, 3), (34, .iconst 0, 1), (35, .ireturn, 1), (36, .iinc 3 1, 3), (39, .goto (-37), 3), (42, .iconst 1, 1), (43, .ireturn, 1)]
-- 112: KnobEye$Turner.<init>()V
def eg_i112 : eg_MI := (⟨"KnobEye$Turner", "<init>", "()V"⟩, prog_12_method_1_code, 1, none, none, 10, 0)
def eg_c112 : List (Nat × Instr × Nat) := [(0, .aload_n 0, 1), (1, .invokespecial 3, 3), (4, .aload_n 0, 1), (5, .bipush 10, 2), (7, .newarray .boolean, 2), (9, .putfield 9, 3), (12, .aload_n 0, 1), (13, .bipush 10, 2), (15, .newarray .int, 2), (17, .putfield 15, 3), (20, .aload_n 0, 1), (21, .bipush 10, 2), (23, .anewarray 19, 3), (26, .putfield 21, 3), (29, .return_, 1)]
-- 113: KnobEye$Turner.add(ZILKnobEye$Node;)V
def eg_i113 : eg_MI := (⟨"KnobEye$Turner", "add", "(ZILKnobEye$Node;)V"⟩, prog_12_method_2_code, 4, none, none, 10, 3)
def eg_c113 : List (Nat × Instr × Nat) := [(0, .aload_n 0, 1), (1, .getfield 25, 3), (4, .bipush 10, 2), (6, .if_icmp .ge 43, 3), (9, .aload_n 0, 1), (10, .getfield 9, 3), (13, .aload_n 0, 1), (14, .getfield 25, 3), (17, .iload_n 1, 1), (18, .bastore, 1), (19, .aload_n 0, 1), (20, .getfield 15, 3), (23, .aload_n 0, 1), (24, .getfield 25, 3), (27, .iload_n 2, 1), (28, .iastore, 1), (29, .aload_n 0, 1), (30, .getfield 21, 3), (33, .aload_n 0, 1), (34, .getfield 25, 3), (37, .aload_n 3, 1), (38, .aastore, 1), (39, .aload_n 0, 1), (40, .dup, 1), (41, .getfield 25, 3), (44, .iconst 1, 1), (45, .iadd, 1), (46, .putfield 25, 3), (49, .return_, 1)]
-- 114: KnobEye$Turner.numberBy(ZLKnobEye$Facts;)I
def eg_i114 : eg_MI := (⟨"KnobEye$Turner", "numberBy", "(ZLKnobEye$Facts;)I"⟩, prog_12_method_3_code, 5, some .int, none, 10, 2)
def eg_c114 : List (Nat × Instr × Nat) := [(0, .iconst 0, 1), (1, .istore_n 3, 1), (2, .iload_n 3, 1), (3, .aload_n 0, 1), (4, .getfield 25, 3), (7, .if_icmp .ge 49, 3), (10, .aload_n 0, 1), (11, .getfield 21, 3), (14, .iload_n 3, 1), (15, .aaload, 1), (16, .astore 4, 2), (18, .aload_n 0, 1), (19, .getfield 9, 3), (22, .iload_n 3, 1), (23, .baload, 1), (24, .iload_n 1, 1), (25, .if_icmp .ne 25, 3), (28, .aload 4, 2), (30, .ifnull 13, 3), (33, .aload 4, 2), (35, .aload_n 2, 1), (36, .iconst 0, 1), (37, .invokevirtual 29, 3), (40, .ifCond .eq 10, 3), (43, .aload_n 0, 1), (44, .getfield 15, 3), (47, .iload_n 3, 1), (48, .iaload, 1), (49, .ireturn, 1), (50, .iinc 3 1, 3), (53, .goto (-51), 3), (56, .iconst 0, 1), (57, .ireturn, 1)]
-- 115: KnobEye.<init>()V
def eg_i115 : eg_MI := (⟨"KnobEye", "<init>", "()V"⟩, prog_1_method_1_code, 1, none, none, 11, 0)
def eg_c115 : List (Nat × Instr × Nat) := [(0, .aload_n 0, 1), (1, .invokespecial 3, 3), (4, .aload_n 0, 1), (5, .new 9, 3), (8, .dup, 1), (9, .invokespecial 11, 3), (12, .putfield 12, 3), (15, .aload_n 0, 1), (16, .new 9, 3), (19, .dup, 1), (20, .invokespecial 11, 3), (23, .putfield 16, 3), (26, .aload_n 0, 1), (27, .new 19, 3), (30, .dup, 1), (31, .invokespecial 21, 3), (34, .putfield 22, 3), (37, .aload_n 0, 1), (38, .new 26, 3), (41, .dup, 1), (42, .invokespecial 28, 3), (45, .putfield 29, 3), (48, .aload_n 0, 1), (49, .new 33, 3), (52, .dup, 1), (53, .invokespecial 35, 3), (56, .putfield 36, 3), (59, .aload_n 0, 1), (60, .iconst (-1), 1), (61, .putfield 40, 3), (64, .aload_n 0, 1), (65, .iconst (-1), 1), (66, .putfield 44, 3), (69, .aload_n 0, 1), (70, .new 47, 3), (73, .dup, 1), (74, .invokespecial 49, 3), (77, .putfield 50, 3), (80, .aload_n 0, 1), (81, .iconst 5, 1), (82, .newarray .int, 2), (84, .putfield 54, 3), (87, .aload_n 0, 1), (88, .new 58, 3), (91, .dup, 1), (92, .invokespecial 60, 3), (95, .putfield 61, 3), (98, .return_, 1)]
-- 116: KnobEye.feed(IIIII)I
def eg_i116 : eg_MI := (⟨"KnobEye", "feed", "(IIIII)I"⟩, prog_1_method_2_code, 6, some .int, none, 11, 5)
def eg_c116 : List (Nat × Instr × Nat) := [(0, .aload_n 0, 1), (1, .getfield 22, 3), (4, .bipush 20, 2), (6, .invokevirtual 65, 3), (9, .ifCond .ne 5, 3), (12, .iconst (-1), 1), (13, .ireturn, 1), (14, .aload_n 0, 1), (15, .getfield 22, 3), (18, .iload_n 1, 1), (19, .invokevirtual 69, 3), (22, .aload_n 0, 1), (23, .getfield 22, 3), (26, .iload_n 2, 1), (27, .invokevirtual 69, 3), (30, .aload_n 0, 1), (31, .getfield 22, 3), (34, .iload_n 3, 1), (35, .invokevirtual 69, 3), (38, .aload_n 0, 1), (39, .getfield 22, 3), (42, .iload 4, 2), (44, .invokevirtual 69, 3), (47, .aload_n 0, 1), (48, .getfield 22, 3), (51, .iload 5, 2), (53, .invokevirtual 69, 3), (56, .aload_n 0, 1), (57, .getfield 22, 3), (60, .getfield 73, 3), (63, .ireturn, 1)]
-- 117: KnobEye.end(I)Z
def eg_i117 : eg_MI := (⟨"KnobEye", "end", "(I)Z"⟩, prog_1_method_3_code, 2, some .boolean, none, 11, 1)
def eg_c117 : List (Nat × Instr × Nat) := [(0, .aload_n 0, 1), (1, .getfield 22, 3), (4, .iload_n 1, 1), (5, .invokevirtual 76, 3), (8, .ireturn, 1)]
-- 118: KnobEye.fault()I
def eg_i118 : eg_MI := (⟨"KnobEye", "fault", "()I"⟩, prog_1_method_7_code, 1, some .int, none, 11, 0)
def eg_c118 : List (Nat × Instr × Nat) := [(0, .aload_n 0, 1), (1, .getfield 22, 3), (4, .getfield 136, 3), (7, .ireturn, 1)]
-- 119: KnobEye.away()I
def eg_i119 : eg_MI := (⟨"KnobEye", "away", "()I"⟩, prog_1_method_11_code, 1, some .int, none, 11, 0)
def eg_c119 : List (Nat × Instr × Nat) := [(0, .aload_n 0, 1), (1, .getfield 12, 3), (4, .getfield 150, 3), (7, .ifCond .ne 5, 3), (10, .iconst (-1), 1), (11, .ireturn, 1), (12, .aload_n 0, 1), (13, .invokevirtual 153, 3), (16, .aload_n 0, 1), (17, .getfield 12, 3), (20, .dup, 1), (21, .getfield 150, 3), (24, .iconst 1, 1), (25, .isub, 1), (26, .putfield 150, 3), (29, .aload_n 0, 1), (30, .getfield 12, 3), (33, .getfield 150, 3), (36, .ireturn, 1)]
-- 120: KnobEye.forgetFound()V
def eg_i120 : eg_MI := (⟨"KnobEye", "forgetFound", "()V"⟩, prog_1_method_50_code, 1, none, none, 11, 0)
def eg_c120 : List (Nat × Instr × Nat) := [(0, .aload_n 0, 1), (1, .iconst (-1), 1), (2, .putfield 40, 3), (5, .aload_n 0, 1), (6, .iconst (-1), 1), (7, .putfield 44, 3), (10, .return_, 1)]
-- 121: KnobEye.cloud()I
def eg_i121 : eg_MI := (⟨"KnobEye", "cloud", "()I"⟩, prog_1_method_29_code, 3, some .int, none, 11, 0)
def eg_c121 : List (Nat × Instr × Nat) := [(0, .aload_n 0, 1), (1, .getfield 12, 3), (4, .getfield 150, 3), (7, .ifCond .ne 5, 3), (10, .iconst (-1), 1), (11, .ireturn, 1), (12, .iconst 0, 1), (13, .istore_n 1, 1), (14, .iconst 1, 1), (15, .istore_n 2, 1), (16, .iload_n 2, 1), (17, .bipush 16, 2), (19, .if_icmp .ge 30, 3), (22, .aload_n 0, 1), (23, .getfield 12, 3), (26, .iload_n 2, 1), (27, .invokevirtual 271, 3), (30, .aload_n 0, 1), (31, .getfield 12, 3), (34, .iload_n 1, 1), (35, .invokevirtual 271, 3), (38, .if_icmp .le 5, 3), (41, .iload_n 2, 1), (42, .istore_n 1, 1), (43, .iinc 2 1, 3), (46, .goto (-30), 3), (49, .iload_n 1, 1), (50, .ireturn, 1)]
-- 122: KnobEye.isLit(II)Z
def eg_i122 : eg_MI := (⟨"KnobEye", "isLit", "(II)Z"⟩, prog_1_method_48_code, 2, some .boolean, none, 11, 2)
def eg_c122 : List (Nat × Instr × Nat) := [(0, .iload_n 0, 1), (1, .iload_n 1, 1), (2, .ishr, 1), (3, .iconst 1, 1), (4, .iand, 1), (5, .ifCond .eq 7, 3), (8, .iconst 1, 1), (9, .goto 4, 3), (12, .iconst 0, 1), (13, .ireturn, 1)]
-- 123: KnobEye.layer()I
def eg_i123 : eg_MI := (⟨"KnobEye", "layer", "()I"⟩, prog_1_method_35_code, 4, some .int, none, 11, 0)
def eg_c123 : List (Nat × Instr × Nat) := [(0, .aload_n 0, 1), (1, .getfield 12, 3), (4, .getfield 156, 3), (7, .ifCond .ne 5, 3), (10, .iconst (-1), 1), (11, .ireturn, 1), (12, .iconst 1, 1), (13, .istore_n 1, 1), (14, .iload_n 1, 1), (15, .iconst 3, 1), (16, .if_icmp .gt 83, 3), (19, .iconst 1, 1), (20, .istore_n 2, 1), (21, .iconst 0, 1), (22, .istore_n 3, 1), (23, .iload_n 3, 1), (24, .aload_n 0, 1), (25, .getfield 12, 3), (28, .getfield 150, 3), (31, .if_icmp .ge 56, 3), (34, .iload_n 2, 1), (35, .ifCond .eq 52, 3), (38, .aload_n 0, 1), (39, .getfield 12, 3), (42, .aload_n 0, 1), (43, .getfield 12, 3), (46, .getfield 214, 3), (49, .iload_n 3, 1), (50, .iaload, 1), (51, .invokevirtual 313, 3), (54, .iload_n 1, 1), (55, .if_icmp .lt 7, 3), (58, .iconst 1, 1), (59, .goto 4, 3), (62, .iconst 0, 1), (63, .aload_n 0, 1), (64, .getfield 12, 3), (67, .getfield 217, 3), (70, .iload_n 3, 1), (71, .baload, 1), (72, .if_icmp .ne 7, 3), (75, .iconst 1, 1), (76, .goto 4, 3), (79, .iconst 0, 1), (80, .istore_n 2, 1), (81, .iinc 3 1, 3), (84, .goto (-61), 3), (87, .iload_n 2, 1), (88, .ifCond .eq 5, 3), (91, .iload_n 1, 1), (92, .ireturn, 1), (93, .iinc 1 1, 3), (96, .goto (-82), 3), (99, .iconst (-1), 1), (100, .ireturn, 1)]
-- 124: KnobEye.image()V
def eg_i124 : eg_MI := (⟨"KnobEye", "image", "()V"⟩, prog_1_method_38_code, 1, none, none, 11, 0)
def eg_c124 : List (Nat × Instr × Nat) := [(0, .aload_n 0, 1), (1, .getfield 16, 3), (4, .aload_n 0, 1), (5, .getfield 12, 3), (8, .invokevirtual 329, 3), (11, .aload_n 0, 1), (12, .iconst 1, 1), (13, .putfield 332, 3), (16, .return_, 1)]
-- 125: KnobEye.back()Z
def eg_i125 : eg_MI := (⟨"KnobEye", "back", "()Z"⟩, prog_1_method_39_code, 1, some .boolean, none, 11, 0)
def eg_c125 : List (Nat × Instr × Nat) := [(0, .aload_n 0, 1), (1, .getfield 332, 3), (4, .ifCond .ne 5, 3), (7, .iconst 0, 1), (8, .ireturn, 1), (9, .aload_n 0, 1), (10, .invokevirtual 153, 3), (13, .aload_n 0, 1), (14, .getfield 12, 3), (17, .aload_n 0, 1), (18, .getfield 16, 3), (21, .invokevirtual 329, 3), (24, .iconst 1, 1), (25, .ireturn, 1)]
-- 126: KnobEye.count(I)I
def eg_i126 : eg_MI := (⟨"KnobEye", "count", "(I)I"⟩, prog_1_method_40_code, 4, some .int, none, 11, 1)
def eg_c126 : List (Nat × Instr × Nat) := [(0, .iconst 0, 1), (1, .istore_n 2, 1), (2, .iload_n 1, 1), (3, .tableswitch 158 0 7 #[45, 53, 61, 69, 77, 85, 93, 150], 45), (48, .aload_n 0, 1), (49, .getfield 12, 3), (52, .getfield 86, 3), (55, .ireturn, 1), (56, .aload_n 0, 1), (57, .getfield 12, 3), (60, .getfield 150, 3), (63, .ireturn, 1), (64, .aload_n 0, 1), (65, .getfield 12, 3), (68, .invokevirtual 247, 3), (71, .ireturn, 1), (72, .aload_n 0, 1), (73, .getfield 12, 3), (76, .getfield 156, 3), (79, .ireturn, 1), (80, .aload_n 0, 1), (81, .getfield 12, 3), (84, .getfield 105, 3), (87, .ireturn, 1), (88, .aload_n 0, 1), (89, .getfield 12, 3), (92, .getfield 120, 3), (95, .ireturn, 1), (96, .iconst 0, 1), (97, .istore_n 3, 1), (98, .iload_n 3, 1), (99, .aload_n 0, 1), (100, .getfield 12, 3), (103, .getfield 120, 3), (106, .if_icmp .ge 45, 3), (109, .iload_n 2, 1), (110, .aload_n 0, 1), (111, .getfield 12, 3), (114, .getfield 123, 3), (117, .iload_n 3, 1), (118, .aaload, 1), (119, .ifnull 23, 3), (122, .aload_n 0, 1), (123, .aload_n 0, 1), (124, .getfield 12, 3), (127, .getfield 123, 3), (130, .iload_n 3, 1), (131, .aaload, 1), (132, .invokevirtual 325, 3), (135, .ifCond .eq 7, 3), (138, .iconst 1, 1), (139, .goto 4, 3), (142, .iconst 0, 1), (143, .iadd, 1), (144, .istore_n 2, 1), (145, .iinc 3 1, 3), (148, .goto (-50), 3), (151, .iload_n 2, 1), (152, .ireturn, 1), (153, .aload_n 0, 1), (154, .getfield 12, 3), (157, .invokevirtual 335, 3), (160, .ireturn, 1), (161, .iconst (-1), 1), (162, .ireturn, 1)]
-- 127: KnobEye.isTrueNow(LKnobEye$Claim;)Z
def eg_i127 : eg_MI := (⟨"KnobEye", "isTrueNow", "(LKnobEye$Claim;)Z"⟩, prog_1_method_59_code, 4, some .boolean, none, 11, 1)
def eg_c127 : List (Nat × Instr × Nat) := [(0, .aload_n 0, 1), (1, .aload_n 1, 1), (2, .getfield 387, 3), (5, .invokevirtual 112, 3), (8, .astore_n 2, 1), (9, .aload_n 1, 1), (10, .getfield 390, 3), (13, .ifCond .eq 24, 3), (16, .aload_n 0, 1), (17, .aload_n 2, 1), (18, .aload_n 0, 1), (19, .aload_n 1, 1), (20, .getfield 391, 3), (23, .invokevirtual 116, 3), (26, .iconst (-1), 1), (27, .invokevirtual 260, 3), (30, .sipush 656, 3), (33, .idiv, 1), (34, .goto 4, 3), (37, .iconst 0, 1), (38, .istore_n 3, 1), (39, .aload_n 0, 1), (40, .getfield 29, 3), (43, .iload_n 3, 1), (44, .putfield 394, 3), (47, .aload_n 0, 1), (48, .getfield 29, 3), (51, .aload_n 0, 1), (52, .getfield 12, 3), (55, .aload_n 2, 1), (56, .invokevirtual 192, 3), (59, .putfield 396, 3), (62, .aload_n 0, 1), (63, .getfield 29, 3), (66, .aload_n 0, 1), (67, .getfield 12, 3), (70, .getfield 150, 3), (73, .putfield 398, 3), (76, .aload_n 0, 1), (77, .getfield 29, 3), (80, .aload_n 2, 1), (81, .getfield 189, 3), (84, .putfield 401, 3), (87, .aload_n 0, 1), (88, .getfield 29, 3), (91, .aload_n 2, 1), (92, .invokevirtual 402, 3), (95, .putfield 405, 3), (98, .aload_n 0, 1), (99, .getfield 29, 3), (102, .aload_n 0, 1), (103, .getfield 12, 3), (106, .aload_n 2, 1), (107, .invokevirtual 253, 3), (110, .iconst (-1), 1), (111, .if_icmp .eq 7, 3), (114, .iconst 1, 1), (115, .goto 4, 3), (118, .iconst 0, 1), (119, .putfield 407, 3), (122, .aload_n 1, 1), (123, .getfield 410, 3), (126, .aload_n 0, 1), (127, .getfield 29, 3), (130, .iconst 0, 1), (131, .invokevirtual 414, 3), (134, .ireturn, 1)]
-- 128: KnobEye.needEye(I)LKnobEye$Eye;
def eg_i128 : eg_MI := (⟨"KnobEye", "needEye", "(I)LKnobEye$Eye;"⟩, prog_1_method_41_code, 2, some (.object "KnobEye$Eye"), none, 11, 1)
def eg_c128 : List (Nat × Instr × Nat) := [(0, .iload_n 1, 1), (1, .ifCond .lt 14, 3), (4, .iload_n 1, 1), (5, .aload_n 0, 1), (6, .getfield 12, 3), (9, .getfield 156, 3), (12, .if_icmp .lt 11, 3), (15, .new 207, 3), (18, .dup, 1), (19, .invokespecial 209, 3), (22, .athrow, 1), (23, .aload_n 0, 1), (24, .getfield 12, 3), (27, .getfield 338, 3), (30, .iload_n 1, 1), (31, .aaload, 1), (32, .areturn, 1)]
-- 129: KnobEye.needRule(I)LKnobEye$Rule;
def eg_i129 : eg_MI := (⟨"KnobEye", "needRule", "(I)LKnobEye$Rule;"⟩, prog_1_method_42_code, 2, some (.object "KnobEye$Rule"), none, 11, 1)
def eg_c129 : List (Nat × Instr × Nat) := [(0, .iload_n 1, 1), (1, .ifCond .lt 26, 3), (4, .iload_n 1, 1), (5, .aload_n 0, 1), (6, .getfield 12, 3), (9, .getfield 86, 3), (12, .if_icmp .ge 15, 3), (15, .aload_n 0, 1), (16, .getfield 12, 3), (19, .getfield 92, 3), (22, .iload_n 1, 1), (23, .aaload, 1), (24, .ifnonnull 11, 3), (27, .new 207, 3), (30, .dup, 1), (31, .invokespecial 209, 3), (34, .athrow, 1), (35, .aload_n 0, 1), (36, .getfield 12, 3), (39, .getfield 92, 3), (42, .iload_n 1, 1), (43, .aaload, 1), (44, .areturn, 1)]
-- 130: KnobEye.rightOfAll(LKnobEye$Eye;LKnobEye$Rule;I)I
def eg_i130 : eg_MI := (⟨"KnobEye", "rightOfAll", "(LKnobEye$Eye;LKnobEye$Rule;I)I"⟩, prog_1_method_55_code, 7, some .int, none, 11, 3)
def eg_c130 : List (Nat × Instr × Nat) := [(0, .iload_n 3, 1), (1, .iconst (-1), 1), (2, .if_icmp .ne 11, 3), (5, .aload_n 2, 1), (6, .aload_n 0, 1), (7, .getfield 29, 3), (10, .invokevirtual 368, 3), (13, .iconst 0, 1), (14, .istore 4, 2), (16, .iconst 0, 1), (17, .istore 5, 2), (19, .iload 5, 2), (21, .ldc_w 274, 3), (24, .if_icmp .ge 57, 3), (27, .iload_n 3, 1), (28, .iconst (-1), 1), (29, .if_icmp .eq 12, 3), (32, .iload 5, 2), (34, .invokestatic 278, 3), (37, .iload_n 3, 1), (38, .if_icmp .ne 7, 3), (41, .iconst 1, 1), (42, .goto 4, 3), (45, .iconst 0, 1), (46, .istore 6, 2), (48, .iload 6, 2), (50, .ifCond .eq 25, 3), (53, .aload_n 1, 1), (54, .iload 5, 2), (56, .invokevirtual 294, 3), (59, .aload_n 2, 1), (60, .iload 5, 2), (62, .aload_n 0, 1), (63, .getfield 29, 3), (66, .invokevirtual 142, 3), (69, .if_icmp .ne 6, 3), (72, .iinc 4 1, 3), (75, .iinc 5 1, 3), (78, .goto (-59), 3), (81, .iload 4, 2), (83, .ireturn, 1)]
-- 131: KnobEye.rule()I
def eg_i131 : eg_MI := (⟨"KnobEye", "rule", "()I"⟩, prog_1_method_4_code, 2, some .int, none, 11, 0)
def eg_c131 : List (Nat × Instr × Nat) := [(0, .aload_n 0, 1), (1, .getfield 22, 3), (4, .iconst 0, 1), (5, .invokevirtual 79, 3), (8, .astore_n 1, 1), (9, .aload_n 1, 1), (10, .ifnonnull 11, 3), (13, .new 83, 3), (16, .dup, 1), (17, .invokespecial 85, 3), (20, .athrow, 1), (21, .aload_n 0, 1), (22, .getfield 12, 3), (25, .getfield 86, 3), (28, .iconst 4, 1), (29, .if_icmp .lt 11, 3), (32, .new 89, 3), (35, .dup, 1), (36, .invokespecial 91, 3), (39, .athrow, 1), (40, .aload_n 0, 1), (41, .getfield 12, 3), (44, .getfield 92, 3), (47, .aload_n 0, 1), (48, .getfield 12, 3), (51, .getfield 86, 3), (54, .new 96, 3), (57, .dup, 1), (58, .aload_n 1, 1), (59, .invokespecial 98, 3), (62, .aastore, 1), (63, .aload_n 0, 1), (64, .getfield 12, 3), (67, .dup, 1), (68, .getfield 86, 3), (71, .iconst 1, 1), (72, .iadd, 1), (73, .putfield 86, 3), (76, .aload_n 0, 1), (77, .getfield 12, 3), (80, .getfield 86, 3), (83, .iconst 1, 1), (84, .isub, 1), (85, .ireturn, 1)]
-- 132: KnobEye.turner()I
def eg_i132 : eg_MI := (⟨"KnobEye", "turner", "()I"⟩, prog_1_method_5_code, 2, some .int, none, 11, 0)
def eg_c132 : List (Nat × Instr × Nat) := [(0, .aload_n 0, 1), (1, .getfield 22, 3), (4, .invokevirtual 101, 3), (7, .astore_n 1, 1), (8, .aload_n 1, 1), (9, .ifnonnull 11, 3), (12, .new 83, 3), (15, .dup, 1), (16, .invokespecial 85, 3), (19, .athrow, 1), (20, .aload_n 0, 1), (21, .getfield 12, 3), (24, .getfield 105, 3), (27, .iconst 4, 1), (28, .if_icmp .lt 11, 3), (31, .new 89, 3), (34, .dup, 1), (35, .invokespecial 91, 3), (38, .athrow, 1), (39, .aload_n 0, 1), (40, .getfield 12, 3), (43, .getfield 108, 3), (46, .aload_n 0, 1), (47, .getfield 12, 3), (50, .getfield 105, 3), (53, .aload_n 1, 1), (54, .aastore, 1), (55, .aload_n 0, 1), (56, .getfield 12, 3), (59, .dup, 1), (60, .getfield 105, 3), (63, .iconst 1, 1), (64, .iadd, 1), (65, .putfield 105, 3), (68, .aload_n 0, 1), (69, .getfield 12, 3), (72, .getfield 105, 3), (75, .iconst 1, 1), (76, .isub, 1), (77, .ireturn, 1)]
-- 133: KnobEye.claim(II)I
def eg_i133 : eg_MI := (⟨"KnobEye", "claim", "(II)I"⟩, prog_1_method_6_code, 4, some .int, none, 11, 2)
def eg_c133 : List (Nat × Instr × Nat) := [(0, .aload_n 0, 1), (1, .getfield 22, 3), (4, .iconst 2, 1), (5, .invokevirtual 79, 3), (8, .astore_n 3, 1), (9, .aload_n 0, 1), (10, .iload_n 1, 1), (11, .invokevirtual 112, 3), (14, .pop, 1), (15, .aload_n 0, 1), (16, .iload_n 2, 1), (17, .invokevirtual 116, 3), (20, .pop, 1), (21, .aload_n 3, 1), (22, .ifnonnull 11, 3), (25, .new 83, 3), (28, .dup, 1), (29, .invokespecial 85, 3), (32, .athrow, 1), (33, .aload_n 0, 1), (34, .getfield 12, 3), (37, .getfield 120, 3), (40, .bipush 6, 2), (42, .if_icmp .lt 11, 3), (45, .new 89, 3), (48, .dup, 1), (49, .invokespecial 91, 3), (52, .athrow, 1), (53, .aload_n 0, 1), (54, .getfield 12, 3), (57, .getfield 123, 3), (60, .aload_n 0, 1), (61, .getfield 12, 3), (64, .getfield 120, 3), (67, .new 127, 3), (70, .dup, 1), (71, .aload_n 3, 1), (72, .iload_n 1, 1), (73, .iload_n 2, 1), (74, .aload_n 0, 1), (75, .getfield 22, 3), (78, .getfield 129, 3), (81, .invokespecial 133, 3), (84, .aastore, 1), (85, .aload_n 0, 1), (86, .getfield 12, 3), (89, .dup, 1), (90, .getfield 120, 3), (93, .iconst 1, 1), (94, .iadd, 1), (95, .putfield 120, 3), (98, .aload_n 0, 1), (99, .getfield 12, 3), (102, .getfield 120, 3), (105, .iconst 1, 1), (106, .isub, 1), (107, .ireturn, 1)]
-- 134: KnobEye.right(II)Z
def eg_i134 : eg_MI := (⟨"KnobEye", "right", "(II)Z"⟩, prog_1_method_8_code, 4, some .boolean, none, 11, 2)
def eg_c134 : List (Nat × Instr × Nat) := [(0, .aload_n 0, 1), (1, .iload_n 1, 1), (2, .invokevirtual 116, 3), (5, .astore_n 3, 1), (6, .iload_n 2, 1), (7, .invokestatic 139, 3), (10, .aload_n 3, 1), (11, .iload_n 2, 1), (12, .aload_n 0, 1), (13, .getfield 29, 3), (16, .invokevirtual 142, 3), (19, .ireturn, 1)]
-- 135: KnobEye.needLit(I)V
def eg_i135 : eg_MI := (⟨"KnobEye", "needLit", "(I)V"⟩, prog_1_method_46_code, 1, none, none, 11, 1)
def eg_c135 : List (Nat × Instr × Nat) := [(0, .iload_n 0, 1), (1, .ifCond .lt 10, 3), (4, .iload_n 0, 1), (5, .ldc_w 274, 3), (8, .if_icmp .lt 11, 3), (11, .new 83, 3), (14, .dup, 1), (15, .invokespecial 85, 3), (18, .athrow, 1), (19, .return_, 1)]
-- 136: KnobEye.card(IZ)I
def eg_i136 : eg_MI := (⟨"KnobEye", "card", "(IZ)I"⟩, prog_1_method_9_code, 3, some .int, none, 11, 2)
def eg_c136 : List (Nat × Instr × Nat) := [(0, .iload_n 1, 1), (1, .invokestatic 139, 3), (4, .aload_n 0, 1), (5, .iload_n 1, 1), (6, .iload_n 2, 1), (7, .invokevirtual 146, 3), (10, .ireturn, 1)]
-- 137: KnobEye.putCard(IZ)I
def eg_i137 : eg_MI := (⟨"KnobEye", "putCard", "(IZ)I"⟩, prog_1_method_49_code, 3, some .int, none, 11, 2)
def eg_c137 : List (Nat × Instr × Nat) := [(0, .aload_n 0, 1), (1, .getfield 12, 3), (4, .getfield 150, 3), (7, .bipush 20, 2), (9, .if_icmp .lt 11, 3), (12, .new 89, 3), (15, .dup, 1), (16, .invokespecial 91, 3), (19, .athrow, 1), (20, .aload_n 0, 1), (21, .invokevirtual 153, 3), (24, .aload_n 0, 1), (25, .getfield 12, 3), (28, .getfield 214, 3), (31, .aload_n 0, 1), (32, .getfield 12, 3), (35, .getfield 150, 3), (38, .iload_n 1, 1), (39, .iastore, 1), (40, .aload_n 0, 1), (41, .getfield 12, 3), (44, .getfield 217, 3), (47, .aload_n 0, 1), (48, .getfield 12, 3), (51, .getfield 150, 3), (54, .iload_n 2, 1), (55, .bastore, 1), (56, .aload_n 0, 1), (57, .getfield 12, 3), (60, .dup, 1), (61, .getfield 150, 3), (64, .iconst 1, 1), (65, .iadd, 1), (66, .putfield 150, 3), (69, .aload_n 0, 1), (70, .getfield 12, 3), (73, .getfield 150, 3), (76, .iconst 1, 1), (77, .isub, 1), (78, .ireturn, 1)]
-- 138: KnobEye.made(II)I
def eg_i138 : eg_MI := (⟨"KnobEye", "made", "(II)I"⟩, prog_1_method_10_code, 4, some .int, none, 11, 2)
def eg_c138 : List (Nat × Instr × Nat) := [(0, .aload_n 0, 1), (1, .iload_n 2, 1), (2, .invokevirtual 116, 3), (5, .astore_n 3, 1), (6, .iload_n 1, 1), (7, .invokestatic 139, 3), (10, .aload_n 0, 1), (11, .iload_n 1, 1), (12, .aload_n 3, 1), (13, .iload_n 1, 1), (14, .aload_n 0, 1), (15, .getfield 29, 3), (18, .invokevirtual 142, 3), (21, .invokevirtual 146, 3), (24, .ireturn, 1)]
-- 139: KnobEye.eye()I
def eg_i139 : eg_MI := (⟨"KnobEye", "eye", "()I"⟩, prog_1_method_12_code, 1, some .int, none, 11, 0)
def eg_c139 : List (Nat × Instr × Nat) := [(0, .aload_n 0, 1), (1, .getfield 12, 3), (4, .getfield 156, 3), (7, .iconst 3, 1), (8, .if_icmp .lt 11, 3), (11, .new 89, 3), (14, .dup, 1), (15, .invokespecial 91, 3), (18, .athrow, 1), (19, .aload_n 0, 1), (20, .getfield 12, 3), (23, .dup, 1), (24, .getfield 156, 3), (27, .iconst 1, 1), (28, .iadd, 1), (29, .putfield 156, 3), (32, .aload_n 0, 1), (33, .getfield 12, 3), (36, .getfield 156, 3), (39, .iconst 1, 1), (40, .isub, 1), (41, .ireturn, 1)]
-- 140: KnobEye.wire(III)I
def eg_i140 : eg_MI := (⟨"KnobEye", "wire", "(III)I"⟩, prog_1_method_13_code, 5, some .int, none, 11, 3)
def eg_c140 : List (Nat × Instr × Nat) := [(0, .aload_n 0, 1), (1, .iload_n 1, 1), (2, .invokevirtual 112, 3), (5, .astore 4, 2), (7, .iload_n 2, 1), (8, .invokestatic 139, 3), (11, .iload_n 2, 1), (12, .ifCond .eq 12, 3), (15, .iload_n 3, 1), (16, .ifCond .lt 8, 3), (19, .iload_n 3, 1), (20, .iconst 2, 1), (21, .if_icmp .le 11, 3), (24, .new 83, 3), (27, .dup, 1), (28, .invokespecial 85, 3), (31, .athrow, 1), (32, .aload 4, 2), (34, .getfield 159, 3), (37, .bipush 6, 2), (39, .if_icmp .lt 11, 3), (42, .new 89, 3), (45, .dup, 1), (46, .invokespecial 91, 3), (49, .athrow, 1), (50, .aload_n 0, 1), (51, .invokevirtual 153, 3), (54, .aload 4, 2), (56, .iload_n 2, 1), (57, .iload_n 3, 1), (58, .invokevirtual 162, 3), (61, .aload 4, 2), (63, .getfield 159, 3), (66, .iconst 1, 1), (67, .isub, 1), (68, .ireturn, 1)]
-- 141: KnobEye.knob(III)Z
def eg_i141 : eg_MI := (⟨"KnobEye", "knob", "(III)Z"⟩, prog_1_method_14_code, 6, some .boolean, none, 11, 3)
def eg_c141 : List (Nat × Instr × Nat) := [(0, .aload_n 0, 1), (1, .iload_n 1, 1), (2, .invokevirtual 112, 3), (5, .astore 4, 2), (7, .iload_n 2, 1), (8, .iconst (-1), 1), (9, .if_icmp .eq 9, 3), (12, .aload 4, 2), (14, .iload_n 2, 1), (15, .invokestatic 166, 3), (18, .iload_n 2, 1), (19, .iconst (-1), 1), (20, .if_icmp .ne 9, 3), (23, .sipush 2000, 3), (26, .goto 6, 3), (29, .sipush 200, 3), (32, .istore 5, 2), (34, .iload_n 3, 1), (35, .iload 5, 2), (37, .ineg, 1), (38, .if_icmp .lt 9, 3), (41, .iload_n 3, 1), (42, .iload 5, 2), (44, .if_icmp .le 11, 3), (47, .new 83, 3), (50, .dup, 1), (51, .invokespecial 85, 3), (54, .athrow, 1), (55, .iload_n 2, 1), (56, .iconst (-1), 1), (57, .if_icmp .ne 12, 3), (60, .aload 4, 2), (62, .iload_n 3, 1), (63, .invokevirtual 170, 3), (66, .goto 10, 3), (69, .aload 4, 2), (71, .iload_n 2, 1), (72, .iload_n 3, 1), (73, .invokevirtual 173, 3), (76, .ireturn, 1)]
-- 142: KnobEye.needWire(LKnobEye$Eye;I)V
def eg_i142 : eg_MI := (⟨"KnobEye", "needWire", "(LKnobEye$Eye;I)V"⟩, prog_1_method_44_code, 2, none, none, 11, 2)
def eg_c142 : List (Nat × Instr × Nat) := [(0, .iload_n 1, 1), (1, .ifCond .lt 11, 3), (4, .iload_n 1, 1), (5, .aload_n 0, 1), (6, .getfield 159, 3), (9, .if_icmp .lt 11, 3), (12, .new 207, 3), (15, .dup, 1), (16, .invokespecial 209, 3), (19, .athrow, 1), (20, .return_, 1)]
-- 143: KnobEye.stuck(III)V
def eg_i143 : eg_MI := (⟨"KnobEye", "stuck", "(III)V"⟩, prog_1_method_15_code, 5, none, none, 11, 3)
def eg_c143 : List (Nat × Instr × Nat) := [(0, .aload_n 0, 1), (1, .iload_n 1, 1), (2, .invokevirtual 112, 3), (5, .astore 4, 2), (7, .iload_n 2, 1), (8, .ifCond .lt 20, 3), (11, .iload_n 2, 1), (12, .sipush 128, 3), (15, .if_icmp .ge 13, 3), (18, .iload_n 3, 1), (19, .ifCond .lt 9, 3), (22, .iload_n 3, 1), (23, .bipush 50, 2), (25, .if_icmp .le 11, 3), (28, .new 83, 3), (31, .dup, 1), (32, .invokespecial 85, 3), (35, .athrow, 1), (36, .aload 4, 2), (38, .iload_n 2, 1), (39, .putfield 177, 3), (42, .aload 4, 2), (44, .iload_n 3, 1), (45, .putfield 180, 3), (48, .return_, 1)]
-- 144: KnobEye.look(II)I
def eg_i144 : eg_MI := (⟨"KnobEye", "look", "(II)I"⟩, prog_1_method_16_code, 4, some .int, none, 11, 2)
def eg_c144 : List (Nat × Instr × Nat) := [(0, .aload_n 0, 1), (1, .iload_n 1, 1), (2, .invokevirtual 112, 3), (5, .astore_n 3, 1), (6, .iload_n 2, 1), (7, .ifCond .lt 16, 3), (10, .iload_n 2, 1), (11, .bipush 6, 2), (13, .if_icmp .ge 10, 3), (16, .aload_n 3, 1), (17, .getfield 183, 3), (20, .iload_n 2, 1), (21, .iaload, 1), (22, .ireturn, 1), (23, .iload_n 2, 1), (24, .tableswitch 83 6 12 #[44, 49, 54, 59, 64, 69, 78], 44), (68, .aload_n 3, 1), (69, .getfield 186, 3), (72, .ireturn, 1), (73, .aload_n 3, 1), (74, .getfield 159, 3), (77, .ireturn, 1), (78, .aload_n 3, 1), (79, .getfield 189, 3), (82, .ireturn, 1), (83, .aload_n 3, 1), (84, .getfield 177, 3), (87, .ireturn, 1), (88, .aload_n 3, 1), (89, .getfield 180, 3), (92, .ireturn, 1), (93, .aload_n 0, 1), (94, .getfield 12, 3), (97, .aload_n 3, 1), (98, .invokevirtual 192, 3), (101, .ireturn, 1), (102, .aload_n 3, 1), (103, .invokevirtual 196, 3), (106, .ireturn, 1), (107, .new 200, 3), (110, .dup, 1), (111, .invokespecial 202, 3), (114, .athrow, 1)]
-- 145: KnobEye.sees(II)I
def eg_i145 : eg_MI := (⟨"KnobEye", "sees", "(II)I"⟩, prog_1_method_17_code, 4, some .int, none, 11, 2)
def eg_c145 : List (Nat × Instr × Nat) := [(0, .aload_n 0, 1), (1, .iload_n 1, 1), (2, .invokevirtual 112, 3), (5, .astore_n 3, 1), (6, .iload_n 2, 1), (7, .invokestatic 139, 3), (10, .aload_n 3, 1), (11, .iload_n 2, 1), (12, .invokevirtual 203, 3), (15, .ireturn, 1)]
-- 146: KnobEye.show(III)Z
def eg_i146 : eg_MI := (⟨"KnobEye", "show", "(III)Z"⟩, prog_1_method_18_code, 6, some .boolean, none, 11, 3)
def eg_c146 : List (Nat × Instr × Nat) := [(0, .aload_n 0, 1), (1, .iload_n 1, 1), (2, .invokevirtual 112, 3), (5, .astore 4, 2), (7, .iload_n 2, 1), (8, .ifCond .lt 14, 3), (11, .iload_n 2, 1), (12, .aload_n 0, 1), (13, .getfield 12, 3), (16, .getfield 150, 3), (19, .if_icmp .lt 11, 3), (22, .new 207, 3), (25, .dup, 1), (26, .invokespecial 209, 3), (29, .athrow, 1), (30, .aload_n 0, 1), (31, .iload_n 3, 1), (32, .invokevirtual 210, 3), (35, .astore 5, 2), (37, .aload 4, 2), (39, .aload_n 0, 1), (40, .getfield 12, 3), (43, .getfield 214, 3), (46, .iload_n 2, 1), (47, .iaload, 1), (48, .aload_n 0, 1), (49, .getfield 12, 3), (52, .getfield 217, 3), (55, .iload_n 2, 1), (56, .baload, 1), (57, .aload 5, 2), (59, .aload_n 0, 1), (60, .getfield 29, 3), (63, .invokevirtual 221, 3), (66, .ireturn, 1)]
-- 147: KnobEye.needTurner(I)LKnobEye$Turner;
def eg_i147 : eg_MI := (⟨"KnobEye", "needTurner", "(I)LKnobEye$Turner;"⟩, prog_1_method_43_code, 2, some (.object "KnobEye$Turner"), none, 11, 1)
def eg_c147 : List (Nat × Instr × Nat) := [(0, .iload_n 1, 1), (1, .ifCond .lt 26, 3), (4, .iload_n 1, 1), (5, .aload_n 0, 1), (6, .getfield 12, 3), (9, .getfield 105, 3), (12, .if_icmp .ge 15, 3), (15, .aload_n 0, 1), (16, .getfield 12, 3), (19, .getfield 108, 3), (22, .iload_n 1, 1), (23, .aaload, 1), (24, .ifnonnull 11, 3), (27, .new 207, 3), (30, .dup, 1), (31, .invokespecial 209, 3), (34, .athrow, 1), (35, .aload_n 0, 1), (36, .getfield 12, 3), (39, .getfield 108, 3), (42, .iload_n 1, 1), (43, .aaload, 1), (44, .areturn, 1)]
-- 148: KnobEye.turned(III)I
def eg_i148 : eg_MI := (⟨"KnobEye", "turned", "(III)I"⟩, prog_1_method_19_code, 9, some .int, none, 11, 3)
def eg_c148 : List (Nat × Instr × Nat) := [(0, .aload_n 0, 1), (1, .iload_n 1, 1), (2, .invokevirtual 112, 3), (5, .astore 4, 2), (7, .aload_n 0, 1), (8, .iload_n 2, 1), (9, .invokevirtual 210, 3), (12, .astore 5, 2), (14, .iload_n 3, 1), (15, .iconst 1, 1), (16, .if_icmp .lt 9, 3), (19, .iload_n 3, 1), (20, .bipush 60, 2), (22, .if_icmp .le 11, 3), (25, .new 83, 3), (28, .dup, 1), (29, .invokespecial 85, 3), (32, .athrow, 1), (33, .iconst 1, 1), (34, .istore 6, 2), (36, .iload 6, 2), (38, .iload_n 3, 1), (39, .if_icmp .gt 77, 3), (42, .iconst 0, 1), (43, .istore 7, 2), (45, .iconst 0, 1), (46, .istore 8, 2), (48, .iload 8, 2), (50, .aload_n 0, 1), (51, .getfield 12, 3), (54, .getfield 150, 3), (57, .if_icmp .ge 45, 3), (60, .iload 7, 2), (62, .aload 4, 2), (64, .aload_n 0, 1), (65, .getfield 12, 3), (68, .getfield 214, 3), (71, .iload 8, 2), (73, .iaload, 1), (74, .aload_n 0, 1), (75, .getfield 12, 3), (78, .getfield 217, 3), (81, .iload 8, 2), (83, .baload, 1), (84, .aload 5, 2), (86, .aload_n 0, 1), (87, .getfield 29, 3), (90, .invokevirtual 221, 3), (93, .ior, 1), (94, .istore 7, 2), (96, .iinc 8 1, 3), (99, .goto (-51), 3), (102, .iload 7, 2), (104, .ifCond .ne 6, 3), (107, .iload 6, 2), (109, .ireturn, 1), (110, .iinc 6 1, 3), (113, .goto (-77), 3), (116, .iconst (-1), 1), (117, .ireturn, 1)]
-- 149: KnobEye.can(II)Z
def eg_i149 : eg_MI := (⟨"KnobEye", "can", "(II)Z"⟩, prog_1_method_20_code, 3, some .boolean, none, 11, 2)
def eg_c149 : List (Nat × Instr × Nat) := [(0, .aload_n 0, 1), (1, .iload_n 1, 1), (2, .invokevirtual 112, 3), (5, .pop, 1), (6, .iload_n 2, 1), (7, .iconst 3, 1), (8, .invokestatic 225, 3), (11, .aload_n 0, 1), (12, .iload_n 1, 1), (13, .iload_n 2, 1), (14, .invokevirtual 228, 3), (17, .aload_n 0, 1), (18, .getfield 36, 3), (21, .getfield 231, 3), (24, .ireturn, 1)]
-- 150: KnobEye.needK(II)V
def eg_i150 : eg_MI := (⟨"KnobEye", "needK", "(II)V"⟩, prog_1_method_47_code, 2, none, none, 11, 2)
def eg_c150 : List (Nat × Instr × Nat) := [(0, .iload_n 0, 1), (1, .iconst 1, 1), (2, .if_icmp .lt 8, 3), (5, .iload_n 0, 1), (6, .iload_n 1, 1), (7, .if_icmp .le 11, 3), (10, .new 83, 3), (13, .dup, 1), (14, .invokespecial 85, 3), (17, .athrow, 1), (18, .return_, 1)]
-- 151: KnobEye.findLeast(II)V
def eg_i151 : eg_MI := (⟨"KnobEye", "findLeast", "(II)V"⟩, prog_1_method_51_code, 3, none, none, 11, 2)
def eg_c151 : List (Nat × Instr × Nat) := [(0, .aload_n 0, 1), (1, .getfield 40, 3), (4, .iload_n 1, 1), (5, .if_icmp .ne 11, 3), (8, .aload_n 0, 1), (9, .getfield 44, 3), (12, .iload_n 2, 1), (13, .if_icmp .eq 30, 3), (16, .aload_n 0, 1), (17, .getfield 36, 3), (20, .aload_n 0, 1), (21, .iload_n 1, 1), (22, .invokevirtual 112, 3), (25, .aload_n 0, 1), (26, .getfield 12, 3), (29, .iload_n 2, 1), (30, .invokevirtual 341, 3), (33, .aload_n 0, 1), (34, .iload_n 1, 1), (35, .putfield 40, 3), (38, .aload_n 0, 1), (39, .iload_n 2, 1), (40, .putfield 44, 3), (43, .return_, 1)]
-- 152: KnobEye.found(III)I
def eg_i152 : eg_MI := (⟨"KnobEye", "found", "(III)I"⟩, prog_1_method_21_code, 5, some .int, none, 11, 3)
def eg_c152 : List (Nat × Instr × Nat) := [(0, .aload_n 0, 1), (1, .iload_n 1, 1), (2, .invokevirtual 112, 3), (5, .astore 4, 2), (7, .iload_n 2, 1), (8, .iconst 3, 1), (9, .invokestatic 225, 3), (12, .iload_n 3, 1), (13, .ifCond .lt 9, 3), (16, .iload_n 3, 1), (17, .bipush 7, 2), (19, .if_icmp .le 11, 3), (22, .new 200, 3), (25, .dup, 1), (26, .invokespecial 202, 3), (29, .athrow, 1), (30, .aload_n 0, 1), (31, .iload_n 1, 1), (32, .iload_n 2, 1), (33, .invokevirtual 228, 3), (36, .aload_n 0, 1), (37, .getfield 36, 3), (40, .getfield 231, 3), (43, .ifCond .ne 7, 3), (46, .sipush 9999, 3), (49, .ireturn, 1), (50, .iload_n 3, 1), (51, .bipush 6, 2), (53, .if_icmp .ge 26, 3), (56, .iload_n 3, 1), (57, .aload 4, 2), (59, .getfield 159, 3), (62, .if_icmp .ge 15, 3), (65, .aload_n 0, 1), (66, .getfield 36, 3), (69, .getfield 234, 3), (72, .iload_n 3, 1), (73, .iaload, 1), (74, .goto 4, 3), (77, .iconst 0, 1), (78, .ireturn, 1), (79, .iload_n 3, 1), (80, .bipush 6, 2), (82, .if_icmp .ne 12, 3), (85, .aload_n 0, 1), (86, .aload 4, 2), (88, .invokevirtual 237, 3), (91, .goto 10, 3), (94, .aload_n 0, 1), (95, .getfield 36, 3), (98, .getfield 240, 3), (101, .ireturn, 1)]
-- 153: KnobEye.lineFound(LKnobEye$Eye;)I
def eg_i153 : eg_MI := (⟨"KnobEye", "lineFound", "(LKnobEye$Eye;)I"⟩, prog_1_method_52_code, 6, some .int, none, 11, 1)
def eg_c153 : List (Nat × Instr × Nat) := [(0, .ldc_w 345, 3), (3, .istore_n 2, 1), (4, .ldc_w 346, 3), (7, .istore_n 3, 1), (8, .iconst 0, 1), (9, .istore 4, 2), (11, .iload 4, 2), (13, .aload_n 0, 1), (14, .getfield 12, 3), (17, .getfield 150, 3), (20, .if_icmp .ge 59, 3), (23, .aload_n 1, 1), (24, .aload_n 0, 1), (25, .getfield 36, 3), (28, .getfield 234, 3), (31, .aload_n 0, 1), (32, .getfield 12, 3), (35, .getfield 214, 3), (38, .iload 4, 2), (40, .iaload, 1), (41, .invokevirtual 347, 3), (44, .istore 5, 2), (46, .iload_n 3, 1), (47, .iload 5, 2), (49, .invokestatic 300, 3), (52, .istore_n 3, 1), (53, .aload_n 0, 1), (54, .getfield 12, 3), (57, .getfield 217, 3), (60, .iload 4, 2), (62, .baload, 1), (63, .ifCond .ne 10, 3), (66, .iload_n 2, 1), (67, .iload 5, 2), (69, .invokestatic 351, 3), (72, .istore_n 2, 1), (73, .iinc 4 1, 3), (76, .goto (-65), 3), (79, .aload_n 0, 1), (80, .getfield 12, 3), (83, .getfield 150, 3), (86, .ifCond .ne 5, 3), (89, .iconst 0, 1), (90, .ireturn, 1), (91, .iload_n 2, 1), (92, .ldc_w 345, 3), (95, .if_icmp .ne 9, 3), (98, .iload_n 3, 1), (99, .iconst 1, 1), (100, .isub, 1), (101, .goto 4, 3), (104, .iload_n 2, 1), (105, .ireturn, 1)]
-- 154: KnobEye.bars(II)I
def eg_i154 : eg_MI := (⟨"KnobEye", "bars", "(II)I"⟩, prog_1_method_22_code, 8, some .int, none, 11, 2)
def eg_c154 : List (Nat × Instr × Nat) := [(0, .aload_n 0, 1), (1, .iload_n 1, 1), (2, .invokevirtual 112, 3), (5, .astore_n 3, 1), (6, .iload_n 2, 1), (7, .iconst 3, 1), (8, .invokestatic 225, 3), (11, .aload_n 0, 1), (12, .invokevirtual 153, 3), (15, .iconst 0, 1), (16, .istore 4, 2), (18, .aload_n 0, 1), (19, .getfield 12, 3), (22, .getfield 150, 3), (25, .iconst 1, 1), (26, .iadd, 1), (27, .istore 5, 2), (29, .iconst 0, 1), (30, .istore 6, 2), (32, .iload 6, 2), (34, .bipush 20, 2), (36, .if_icmp .ge 63, 3), (39, .iload 5, 2), (41, .iload 4, 2), (43, .isub, 1), (44, .iconst 1, 1), (45, .if_icmp .le 54, 3), (48, .iload 4, 2), (50, .iload 5, 2), (52, .iadd, 1), (53, .iconst 2, 1), (54, .idiv, 1), (55, .istore 7, 2), (57, .aload_n 0, 1), (58, .getfield 36, 3), (61, .aload_n 3, 1), (62, .aload_n 0, 1), (63, .getfield 12, 3), (66, .iload 7, 2), (68, .iload_n 2, 1), (69, .invokevirtual 243, 3), (72, .aload_n 0, 1), (73, .getfield 36, 3), (76, .getfield 231, 3), (79, .ifCond .eq 10, 3), (82, .iload 7, 2), (84, .istore 4, 2), (86, .goto 7, 3), (89, .iload 7, 2), (91, .istore 5, 2), (93, .iinc 6 1, 3), (96, .goto (-64), 3), (99, .iload 4, 2), (101, .aload_n 0, 1), (102, .getfield 12, 3), (105, .getfield 150, 3), (108, .if_icmp .lt 7, 3), (111, .iconst (-1), 1), (112, .goto 5, 3), (115, .iload 4, 2), (117, .ireturn, 1)]
-- 155: KnobEye.bound(II)I
def eg_i155 : eg_MI := (⟨"KnobEye", "bound", "(II)I"⟩, prog_1_method_23_code, 5, some .int, none, 11, 2)
def eg_c155 : List (Nat × Instr × Nat) := [(0, .aload_n 0, 1), (1, .iload_n 1, 1), (2, .invokevirtual 112, 3), (5, .astore_n 3, 1), (6, .iload_n 2, 1), (7, .iconst 3, 1), (8, .invokestatic 225, 3), (11, .aload_n 0, 1), (12, .getfield 12, 3), (15, .invokevirtual 247, 3), (18, .istore 4, 2), (20, .iload 4, 2), (22, .ifCond .eq 15, 3), (25, .iload 4, 2), (27, .aload_n 0, 1), (28, .getfield 12, 3), (31, .getfield 150, 3), (34, .if_icmp .ne 5, 3), (37, .iconst (-1), 1), (38, .ireturn, 1), (39, .aload_n 0, 1), (40, .iload_n 1, 1), (41, .iload_n 2, 1), (42, .invokevirtual 228, 3), (45, .aload_n 0, 1), (46, .getfield 36, 3), (49, .getfield 231, 3), (52, .ifCond .ne 5, 3), (55, .iconst (-1), 1), (56, .ireturn, 1), (57, .aload_n 0, 1), (58, .aload_n 3, 1), (59, .invokevirtual 250, 3), (62, .ireturn, 1)]
-- 156: KnobEye.boundOf(LKnobEye$Eye;)I
def eg_i156 : eg_MI := (⟨"KnobEye", "boundOf", "(LKnobEye$Eye;)I"⟩, prog_1_method_53_code, 14, some .int, none, 11, 1)
def eg_c156 : List (Nat × Instr × Nat) := [(0, .ldc2_w 354, 3), (3, .lstore_n 2, 1), (4, .ldc2_w 356, 3), (7, .lstore 4, 2), (9, .lconst 0, 1), (10, .lstore 6, 2), (12, .iconst 0, 1), (13, .istore 8, 2), (15, .iload 8, 2), (17, .aload_n 0, 1), (18, .getfield 12, 3), (21, .getfield 150, 3), (24, .if_icmp .ge 90, 3), (27, .aload_n 1, 1), (28, .aload_n 0, 1), (29, .getfield 36, 3), (32, .getfield 234, 3), (35, .aload_n 0, 1), (36, .getfield 12, 3), (39, .getfield 214, 3), (42, .iload 8, 2), (44, .iaload, 1), (45, .invokevirtual 347, 3), (48, .istore 9, 2), (50, .aload_n 0, 1), (51, .getfield 12, 3), (54, .getfield 217, 3), (57, .iload 8, 2), (59, .baload, 1), (60, .ifCond .eq 14, 3), (63, .lload_n 2, 1), (64, .iload 9, 2), (66, .i2l, 1), (67, .invokestatic 358, 3), (70, .lstore_n 2, 1), (71, .goto 13, 3), (74, .lload 4, 2), (76, .iload 9, 2), (78, .i2l, 1), (79, .invokestatic 361, 3), (82, .lstore 4, 2), (84, .lload 6, 2), (86, .aload_n 1, 1), (87, .aload_n 0, 1), (88, .getfield 12, 3), (91, .getfield 214, 3), (94, .iload 8, 2), (96, .iaload, 1), (97, .invokevirtual 363, 3), (100, .iconst 1, 1), (101, .iadd, 1), (102, .i2l, 1), (103, .invokestatic 361, 3), (106, .lstore 6, 2), (108, .iinc 8 1, 3), (111, .goto (-96), 3), (114, .lconst 0, 1), (115, .lstore 8, 2), (117, .iconst 0, 1), (118, .istore 10, 2), (120, .iload 10, 2), (122, .aload_n 1, 1), (123, .getfield 159, 3), (126, .if_icmp .ge 36, 3), (129, .lload 8, 2), (131, .aload_n 0, 1), (132, .getfield 36, 3), (135, .getfield 234, 3), (138, .iload 10, 2), (140, .iaload, 1), (141, .aload_n 0, 1), (142, .getfield 36, 3), (145, .getfield 234, 3), (148, .iload 10, 2), (150, .iaload, 1), (151, .imul, 1), (152, .i2l, 1), (153, .ladd, 1), (154, .lstore 8, 2), (156, .iinc 10 1, 3), (159, .goto (-39), 3), (162, .lload_n 2, 1), (163, .lload 4, 2), (165, .lsub, 1), (166, .lstore 10, 2), (168, .lload_n 2, 1), (169, .lload 4, 2), (171, .ladd, 1), (172, .lstore 12, 2), (174, .lload 10, 2), (176, .lconst 0, 1), (177, .lcmp, 1), (178, .ifCond .gt 5, 3), (181, .iconst (-1), 1), (182, .ireturn, 1), (183, .lload 6, 2), (185, .ldc2_w 366, 3), (188, .lload 8, 2), (190, .lmul, 1), (191, .lload 12, 2), (193, .lload 12, 2), (195, .lmul, 1), (196, .ladd, 1), (197, .lmul, 1), (198, .lload 10, 2), (200, .lload 10, 2), (202, .lmul, 1), (203, .ldiv, 1), (204, .l2i, 1), (205, .ireturn, 1)]
-- 157: KnobEye.blind(II)I
def eg_i157 : eg_MI := (⟨"KnobEye", "blind", "(II)I"⟩, prog_1_method_24_code, 4, some .int, none, 11, 2)
def eg_c157 : List (Nat × Instr × Nat) := [(0, .aload_n 0, 1), (1, .iload_n 1, 1), (2, .invokevirtual 112, 3), (5, .astore_n 3, 1), (6, .iload_n 2, 1), (7, .iconst (-1), 1), (8, .if_icmp .ne 12, 3), (11, .aload_n 0, 1), (12, .getfield 12, 3), (15, .aload_n 3, 1), (16, .invokevirtual 253, 3), (19, .ireturn, 1), (20, .aload_n 0, 1), (21, .aload_n 3, 1), (22, .aload_n 0, 1), (23, .iload_n 2, 1), (24, .invokevirtual 116, 3), (27, .invokevirtual 256, 3), (30, .ireturn, 1)]
-- 158: KnobEye.blindBy(LKnobEye$Eye;LKnobEye$Rule;)I
def eg_i158 : eg_MI := (⟨"KnobEye", "blindBy", "(LKnobEye$Eye;LKnobEye$Rule;)I"⟩, prog_1_method_54_code, 6, some .int, none, 11, 2)
def eg_c158 : List (Nat × Instr × Nat) := [(0, .aload_n 2, 1), (1, .aload_n 0, 1), (2, .getfield 29, 3), (5, .invokevirtual 368, 3), (8, .aload_n 0, 1), (9, .getfield 61, 3), (12, .invokevirtual 372, 3), (15, .ldc_w 274, 3), (18, .istore_n 3, 1), (19, .iconst 0, 1), (20, .istore 4, 2), (22, .iload 4, 2), (24, .ldc_w 274, 3), (27, .if_icmp .ge 62, 3), (30, .iload_n 3, 1), (31, .ifCond .le 58, 3), (34, .aload_n 0, 1), (35, .getfield 61, 3), (38, .aload_n 1, 1), (39, .iload 4, 2), (41, .invokevirtual 375, 3), (44, .iload 4, 2), (46, .invokevirtual 378, 3), (49, .istore 5, 2), (51, .iload 5, 2), (53, .iload_n 3, 1), (54, .if_icmp .ge 29, 3), (57, .aload_n 2, 1), (58, .iload 5, 2), (60, .aload_n 0, 1), (61, .getfield 29, 3), (64, .invokevirtual 142, 3), (67, .aload_n 2, 1), (68, .iload 4, 2), (70, .aload_n 0, 1), (71, .getfield 29, 3), (74, .invokevirtual 142, 3), (77, .if_icmp .eq 6, 3), (80, .iload 5, 2), (82, .istore_n 3, 1), (83, .iinc 4 1, 3), (86, .goto (-64), 3), (89, .iload_n 3, 1), (90, .ldc_w 274, 3), (93, .if_icmp .ne 7, 3), (96, .iconst (-1), 1), (97, .goto 4, 3), (100, .iload_n 3, 1), (101, .ireturn, 1)]
-- 159: KnobEye.odds(III)I
def eg_i159 : eg_MI := (⟨"KnobEye", "odds", "(III)I"⟩, prog_1_method_25_code, 6, some .int, none, 11, 3)
def eg_c159 : List (Nat × Instr × Nat) := [(0, .aload_n 0, 1), (1, .iload_n 1, 1), (2, .invokevirtual 112, 3), (5, .astore 4, 2), (7, .aload_n 0, 1), (8, .iload_n 2, 1), (9, .invokevirtual 116, 3), (12, .astore 5, 2), (14, .iload_n 3, 1), (15, .iconst (-1), 1), (16, .if_icmp .lt 9, 3), (19, .iload_n 3, 1), (20, .bipush 16, 2), (22, .if_icmp .le 11, 3), (25, .new 83, 3), (28, .dup, 1), (29, .invokespecial 85, 3), (32, .athrow, 1), (33, .aload_n 0, 1), (34, .aload 4, 2), (36, .aload 5, 2), (38, .iload_n 3, 1), (39, .invokevirtual 260, 3), (42, .ireturn, 1)]
-- 160: KnobEye.covered(II)I
def eg_i160 : eg_MI := (⟨"KnobEye", "covered", "(II)I"⟩, prog_1_method_26_code, 4, some .int, none, 11, 2)
def eg_c160 : List (Nat × Instr × Nat) := [(0, .aload_n 0, 1), (1, .iload_n 1, 1), (2, .invokevirtual 112, 3), (5, .astore_n 3, 1), (6, .iload_n 2, 1), (7, .invokestatic 264, 3), (10, .aload_n 0, 1), (11, .getfield 12, 3), (14, .aload_n 3, 1), (15, .iload_n 2, 1), (16, .invokevirtual 267, 3), (19, .ireturn, 1)]
-- 161: KnobEye.needCell(I)V
def eg_i161 : eg_MI := (⟨"KnobEye", "needCell", "(I)V"⟩, prog_1_method_45_code, 1, none, none, 11, 1)
def eg_c161 : List (Nat × Instr × Nat) := [(0, .iload_n 0, 1), (1, .ifCond .lt 9, 3), (4, .iload_n 0, 1), (5, .bipush 16, 2), (7, .if_icmp .lt 11, 3), (10, .new 207, 3), (13, .dup, 1), (14, .invokespecial 209, 3), (17, .athrow, 1), (18, .return_, 1)]
-- 162: KnobEye.goesBy(I)I
def eg_i162 : eg_MI := (⟨"KnobEye", "goesBy", "(I)I"⟩, prog_1_method_27_code, 7, some .int, none, 11, 1)
def eg_c162 : List (Nat × Instr × Nat) := [(0, .aload_n 0, 1), (1, .iload_n 1, 1), (2, .invokevirtual 112, 3), (5, .astore_n 2, 1), (6, .iconst (-1), 1), (7, .istore_n 3, 1), (8, .iconst 0, 1), (9, .istore 4, 2), (11, .iconst 0, 1), (12, .istore 5, 2), (14, .iload 5, 2), (16, .bipush 16, 2), (18, .if_icmp .ge 35, 3), (21, .aload_n 0, 1), (22, .getfield 12, 3), (25, .aload_n 2, 1), (26, .iload 5, 2), (28, .invokevirtual 267, 3), (31, .istore 6, 2), (33, .iload 6, 2), (35, .iload 4, 2), (37, .if_icmp .le 10, 3), (40, .iload 6, 2), (42, .istore 4, 2), (44, .iload 5, 2), (46, .istore_n 3, 1), (47, .iinc 5 1, 3), (50, .goto (-36), 3), (53, .iload_n 3, 1), (54, .ireturn, 1)]
-- 163: KnobEye.along(I)I
def eg_i163 : eg_MI := (⟨"KnobEye", "along", "(I)I"⟩, prog_1_method_28_code, 2, some .int, none, 11, 1)
def eg_c163 : List (Nat × Instr × Nat) := [(0, .iload_n 1, 1), (1, .invokestatic 264, 3), (4, .aload_n 0, 1), (5, .getfield 12, 3), (8, .iload_n 1, 1), (9, .invokevirtual 271, 3), (12, .ireturn, 1)]
-- 164: KnobEye.mend(II)I
def eg_i164 : eg_MI := (⟨"KnobEye", "mend", "(II)I"⟩, prog_1_method_30_code, 6, some .int, none, 11, 2)
def eg_c164 : List (Nat × Instr × Nat) := [(0, .iload_n 1, 1), (1, .invokestatic 264, 3), (4, .aload_n 0, 1), (5, .iload_n 2, 1), (6, .invokevirtual 116, 3), (9, .astore_n 3, 1), (10, .iconst 2, 1), (11, .aload_n 0, 1), (12, .getfield 12, 3), (15, .iload_n 1, 1), (16, .invokevirtual 271, 3), (19, .imul, 1), (20, .aload_n 0, 1), (21, .getfield 12, 3), (24, .getfield 150, 3), (27, .isub, 1), (28, .istore 4, 2), (30, .iload 4, 2), (32, .ifCond .gt 5, 3), (35, .iconst 0, 1), (36, .ireturn, 1), (37, .iconst 0, 1), (38, .istore 5, 2), (40, .iload 5, 2), (42, .ldc_w 274, 3), (45, .if_icmp .ge 31, 3), (48, .iload 5, 2), (50, .iload_n 1, 1), (51, .invokestatic 275, 3), (54, .aload_n 3, 1), (55, .iload 5, 2), (57, .aload_n 0, 1), (58, .getfield 29, 3), (61, .invokevirtual 142, 3), (64, .if_icmp .eq 6, 3), (67, .iload 4, 2), (69, .ireturn, 1), (70, .iinc 5 1, 3), (73, .goto (-33), 3), (76, .iconst (-1), 1), (77, .ireturn, 1)]
-- 165: KnobEye.bear(I)I
def eg_i165 : eg_MI := (⟨"KnobEye", "bear", "(I)I"⟩, prog_1_method_31_code, 6, some .int, none, 11, 1)
def eg_c165 : List (Nat × Instr × Nat) := [(0, .aload_n 0, 1), (1, .iload_n 1, 1), (2, .invokevirtual 112, 3), (5, .astore_n 2, 1), (6, .aload_n 2, 1), (7, .getfield 159, 3), (10, .iconst 1, 1), (11, .iadd, 1), (12, .istore_n 3, 1), (13, .iconst 0, 1), (14, .istore 4, 2), (16, .iload 4, 2), (18, .iconst 1, 1), (19, .aload_n 2, 1), (20, .getfield 159, 3), (23, .ishl, 1), (24, .if_icmp .ge 38, 3), (27, .iload 4, 2), (29, .invokestatic 278, 3), (32, .istore 5, 2), (34, .iload 5, 2), (36, .iload_n 3, 1), (37, .if_icmp .ge 19, 3), (40, .aload_n 0, 1), (41, .getfield 12, 3), (44, .aload_n 2, 1), (45, .iload 4, 2), (47, .invokevirtual 283, 3), (50, .ifCond .ne 6, 3), (53, .iload 5, 2), (55, .istore_n 3, 1), (56, .iinc 4 1, 3), (59, .goto (-43), 3), (62, .iload_n 3, 1), (63, .iconst 1, 1), (64, .isub, 1), (65, .ireturn, 1)]
-- 166: KnobEye.swapped(III)I
def eg_i166 : eg_MI := (⟨"KnobEye", "swapped", "(III)I"⟩, prog_1_method_32_code, 7, some .int, none, 11, 3)
def eg_c166 : List (Nat × Instr × Nat) := [(0, .aload_n 0, 1), (1, .iload_n 1, 1), (2, .invokevirtual 112, 3), (5, .astore 4, 2), (7, .aload 4, 2), (9, .iload_n 2, 1), (10, .invokestatic 166, 3), (13, .aload 4, 2), (15, .iload_n 3, 1), (16, .invokestatic 166, 3), (19, .aload_n 0, 1), (20, .getfield 50, 3), (23, .aload 4, 2), (25, .invokevirtual 287, 3), (28, .aload_n 0, 1), (29, .getfield 50, 3), (32, .iload_n 2, 1), (33, .iload_n 3, 1), (34, .invokevirtual 291, 3), (37, .iconst 0, 1), (38, .istore 5, 2), (40, .iconst 0, 1), (41, .istore 6, 2), (43, .iload 6, 2), (45, .aload_n 0, 1), (46, .getfield 12, 3), (49, .getfield 150, 3), (52, .if_icmp .ge 47, 3), (55, .aload 4, 2), (57, .aload_n 0, 1), (58, .getfield 12, 3), (61, .getfield 214, 3), (64, .iload 6, 2), (66, .iaload, 1), (67, .invokevirtual 294, 3), (70, .aload_n 0, 1), (71, .getfield 50, 3), (74, .aload_n 0, 1), (75, .getfield 12, 3), (78, .getfield 214, 3), (81, .iload 6, 2), (83, .iaload, 1), (84, .invokevirtual 294, 3), (87, .if_icmp .eq 6, 3), (90, .iinc 5 1, 3), (93, .iinc 6 1, 3), (96, .goto (-53), 3), (99, .iload 5, 2), (101, .ireturn, 1)]
-- 167: KnobEye.soonest(II)I
def eg_i167 : eg_MI := (⟨"KnobEye", "soonest", "(II)I"⟩, prog_1_method_33_code, 8, some .int, none, 11, 2)
def eg_c167 : List (Nat × Instr × Nat) := [(0, .aload_n 0, 1), (1, .iload_n 1, 1), (2, .invokevirtual 112, 3), (5, .astore_n 3, 1), (6, .aload_n 0, 1), (7, .iload_n 2, 1), (8, .invokevirtual 210, 3), (11, .astore 4, 2), (13, .aload_n 0, 1), (14, .bipush 51, 2), (16, .putfield 297, 3), (19, .aload_n 0, 1), (20, .getfield 12, 3), (23, .getfield 150, 3), (26, .iconst 5, 1), (27, .invokestatic 300, 3), (30, .istore 5, 2), (32, .iconst 1, 1), (33, .istore 6, 2), (35, .iconst 0, 1), (36, .istore 7, 2), (38, .iload 7, 2), (40, .iload 5, 2), (42, .if_icmp .ge 16, 3), (45, .iload 6, 2), (47, .iload 5, 2), (49, .imul, 1), (50, .istore 6, 2), (52, .iinc 7 1, 3), (55, .goto (-17), 3), (58, .iconst 0, 1), (59, .istore 7, 2), (61, .iload 7, 2), (63, .iload 6, 2), (65, .if_icmp .ge 29, 3), (68, .aload_n 0, 1), (69, .iload 7, 2), (71, .iload 5, 2), (73, .invokevirtual 306, 3), (76, .ifCond .eq 12, 3), (79, .aload_n 0, 1), (80, .aload_n 3, 1), (81, .aload 4, 2), (83, .iload 5, 2), (85, .invokevirtual 309, 3), (88, .iinc 7 1, 3), (91, .goto (-30), 3), (94, .aload_n 0, 1), (95, .getfield 297, 3), (98, .bipush 50, 2), (100, .if_icmp .le 7, 3), (103, .iconst (-1), 1), (104, .goto 7, 3), (107, .aload_n 0, 1), (108, .getfield 297, 3), (111, .ireturn, 1)]
-- 168: KnobEye.setOrder(II)Z
def eg_i168 : eg_MI := (⟨"KnobEye", "setOrder", "(II)Z"⟩, prog_1_method_56_code, 6, some .boolean, none, 11, 2)
def eg_c168 : List (Nat × Instr × Nat) := [(0, .iload_n 1, 1), (1, .istore_n 3, 1), (2, .iconst 0, 1), (3, .istore 4, 2), (5, .iconst 0, 1), (6, .istore 5, 2), (8, .iload 5, 2), (10, .iload_n 2, 1), (11, .if_icmp .ge 43, 3), (14, .iload 5, 2), (16, .iconst 5, 1), (17, .if_icmp .ge 37, 3), (20, .aload_n 0, 1), (21, .getfield 54, 3), (24, .iload 5, 2), (26, .iload_n 3, 1), (27, .iload_n 2, 1), (28, .irem, 1), (29, .iastore, 1), (30, .iload 4, 2), (32, .iconst 1, 1), (33, .aload_n 0, 1), (34, .getfield 54, 3), (37, .iload 5, 2), (39, .iaload, 1), (40, .ishl, 1), (41, .ior, 1), (42, .istore 4, 2), (44, .iload_n 3, 1), (45, .iload_n 2, 1), (46, .idiv, 1), (47, .istore_n 3, 1), (48, .iinc 5 1, 3), (51, .goto (-43), 3), (54, .iload 4, 2), (56, .iconst 1, 1), (57, .iload_n 2, 1), (58, .ishl, 1), (59, .iconst 1, 1), (60, .isub, 1), (61, .if_icmp .ne 7, 3), (64, .iconst 1, 1), (65, .goto 4, 3), (68, .iconst 0, 1), (69, .ireturn, 1)]
-- 169: KnobEye.tryOrder(LKnobEye$Eye;LKnobEye$Turner;I)V
def eg_i169 : eg_MI := (⟨"KnobEye", "tryOrder", "(LKnobEye$Eye;LKnobEye$Turner;I)V"⟩, prog_1_method_57_code, 8, none, none, 11, 3)
def eg_c169 : List (Nat × Instr × Nat) := [(0, .aload_n 0, 1), (1, .getfield 50, 3), (4, .aload_n 1, 1), (5, .invokevirtual 287, 3), (8, .iconst 0, 1), (9, .istore 4, 2), (11, .iconst 0, 1), (12, .istore 5, 2), (14, .iload 5, 2), (16, .bipush 10, 2), (18, .if_icmp .ge 124, 3), (21, .iconst 0, 1), (22, .istore 6, 2), (24, .iload 6, 2), (26, .iload_n 3, 1), (27, .if_icmp .ge 109, 3), (30, .iload 4, 2), (32, .aload_n 0, 1), (33, .getfield 297, 3), (36, .if_icmp .ge 18, 3), (39, .aload_n 0, 1), (40, .getfield 12, 3), (43, .aload_n 0, 1), (44, .getfield 50, 3), (47, .iload_n 3, 1), (48, .invokevirtual 381, 3), (51, .ifCond .eq 17, 3), (54, .aload_n 0, 1), (55, .aload_n 0, 1), (56, .getfield 297, 3), (59, .iload 4, 2), (61, .invokestatic 300, 3), (64, .putfield 297, 3), (67, .return_, 1), (68, .aload_n 0, 1), (69, .getfield 54, 3), (72, .iload 6, 2), (74, .iaload, 1), (75, .istore 7, 2), (77, .iload 7, 2), (79, .ifCond .lt 48, 3), (82, .iload 7, 2), (84, .aload_n 0, 1), (85, .getfield 12, 3), (88, .getfield 150, 3), (91, .if_icmp .ge 36, 3), (94, .aload_n 0, 1), (95, .getfield 50, 3), (98, .aload_n 0, 1), (99, .getfield 12, 3), (102, .getfield 214, 3), (105, .iload 7, 2), (107, .iaload, 1), (108, .aload_n 0, 1), (109, .getfield 12, 3), (112, .getfield 217, 3), (115, .iload 7, 2), (117, .baload, 1), (118, .aload_n 2, 1), (119, .aload_n 0, 1), (120, .getfield 29, 3), (123, .invokevirtual 221, 3), (126, .pop, 1), (127, .iinc 4 1, 3), (130, .iinc 6 1, 3), (133, .goto (-109), 3), (136, .iinc 5 1, 3), (139, .goto (-125), 3), (142, .aload_n 0, 1), (143, .getfield 12, 3), (146, .aload_n 0, 1), (147, .getfield 50, 3), (150, .iload_n 3, 1), (151, .invokevirtual 381, 3), (154, .ifCond .eq 16, 3), (157, .aload_n 0, 1), (158, .aload_n 0, 1), (159, .getfield 297, 3), (162, .iload 4, 2), (164, .invokestatic 300, 3), (167, .putfield 297, 3), (170, .return_, 1)]
-- 170: KnobEye.together(II)Z
def eg_i170 : eg_MI := (⟨"KnobEye", "together", "(II)Z"⟩, prog_1_method_34_code, 3, some .boolean, none, 11, 2)
def eg_c170 : List (Nat × Instr × Nat) := [(0, .iload_n 1, 1), (1, .iconst 1, 1), (2, .if_icmp .lt 8, 3), (5, .iload_n 1, 1), (6, .iconst 3, 1), (7, .if_icmp .le 11, 3), (10, .new 83, 3), (13, .dup, 1), (14, .invokespecial 85, 3), (17, .athrow, 1), (18, .iload_n 2, 1), (19, .invokestatic 139, 3), (22, .aload_n 0, 1), (23, .getfield 12, 3), (26, .iload_n 2, 1), (27, .invokevirtual 313, 3), (30, .iload_n 1, 1), (31, .if_icmp .lt 7, 3), (34, .iconst 1, 1), (35, .goto 4, 3), (38, .iconst 0, 1), (39, .ireturn, 1)]
-- 171: KnobEye.read(IIZ)I
def eg_i171 : eg_MI := (⟨"KnobEye", "read", "(IIZ)I"⟩, prog_1_method_36_code, 5, some .int, none, 11, 3)
def eg_c171 : List (Nat × Instr × Nat) := [(0, .aload_n 0, 1), (1, .iload_n 1, 1), (2, .invokevirtual 112, 3), (5, .astore 4, 2), (7, .iload_n 2, 1), (8, .iconst 2, 1), (9, .invokestatic 225, 3), (12, .aload_n 0, 1), (13, .invokevirtual 153, 3), (16, .aload_n 0, 1), (17, .getfield 36, 3), (20, .aload 4, 2), (22, .aload_n 0, 1), (23, .getfield 12, 3), (26, .iload_n 2, 1), (27, .iload_n 3, 1), (28, .ifCond .eq 8, 3), (31, .bipush 31, 2), (33, .goto 4, 3), (36, .iconst 0, 1), (37, .invokevirtual 316, 3), (40, .iload_n 3, 1), (41, .ifCond .ne 11, 3), (44, .aload_n 0, 1), (45, .getfield 36, 3), (48, .getfield 319, 3), (51, .ireturn, 1), (52, .aload_n 0, 1), (53, .getfield 36, 3), (56, .getfield 319, 3), (59, .ifCond .ne 7, 3), (62, .iconst (-1), 1), (63, .goto 7, 3), (66, .aload_n 0, 1), (67, .invokevirtual 322, 3), (70, .ireturn, 1)]
-- 172: KnobEye.nextCard()I
def eg_i172 : eg_MI := (⟨"KnobEye", "nextCard", "()I"⟩, prog_1_method_58_code, 5, some .int, none, 11, 0)
def eg_c172 : List (Nat × Instr × Nat) := [(0, .iconst 0, 1), (1, .istore_n 1, 1), (2, .ldc_w 346, 3), (5, .istore_n 2, 1), (6, .iconst 0, 1), (7, .istore_n 3, 1), (8, .iload_n 3, 1), (9, .bipush 31, 2), (11, .if_icmp .ge 51, 3), (14, .aload_n 0, 1), (15, .getfield 36, 3), (18, .getfield 384, 3), (21, .iload_n 3, 1), (22, .iaload, 1), (23, .aload_n 0, 1), (24, .getfield 36, 3), (27, .getfield 319, 3), (30, .aload_n 0, 1), (31, .getfield 36, 3), (34, .getfield 384, 3), (37, .iload_n 3, 1), (38, .iaload, 1), (39, .isub, 1), (40, .invokestatic 351, 3), (43, .istore 4, 2), (45, .iload 4, 2), (47, .iload_n 2, 1), (48, .if_icmp .ge 8, 3), (51, .iload 4, 2), (53, .istore_n 2, 1), (54, .iload_n 3, 1), (55, .istore_n 1, 1), (56, .iinc 3 1, 3), (59, .goto (-51), 3), (62, .iload_n 1, 1), (63, .bipush 16, 2), (65, .if_icmp .ge 10, 3), (68, .bipush 16, 2), (70, .iload_n 1, 1), (71, .iadd, 1), (72, .goto 10, 3), (75, .bipush 32, 2), (77, .iload_n 1, 1), (78, .iadd, 1), (79, .bipush 16, 2), (81, .isub, 1), (82, .ireturn, 1)]
-- 173: KnobEye.holds(I)Z
def eg_i173 : eg_MI := (⟨"KnobEye", "holds", "(I)Z"⟩, prog_1_method_37_code, 2, some .boolean, none, 11, 1)
def eg_c173 : List (Nat × Instr × Nat) := [(0, .iload_n 1, 1), (1, .ifCond .lt 26, 3), (4, .iload_n 1, 1), (5, .aload_n 0, 1), (6, .getfield 12, 3), (9, .getfield 120, 3), (12, .if_icmp .ge 15, 3), (15, .aload_n 0, 1), (16, .getfield 12, 3), (19, .getfield 123, 3), (22, .iload_n 1, 1), (23, .aaload, 1), (24, .ifnonnull 11, 3), (27, .new 207, 3), (30, .dup, 1), (31, .invokespecial 209, 3), (34, .athrow, 1), (35, .aload_n 0, 1), (36, .aload_n 0, 1), (37, .getfield 12, 3), (40, .getfield 123, 3), (43, .iload_n 1, 1), (44, .aaload, 1), (45, .invokevirtual 325, 3), (48, .ireturn, 1)]
-- 174: KnobEyeModel.thrown()I
def eg_i174 : eg_MI := (⟨"KnobEyeModel", "thrown", "()I"⟩, prog_15_method_1_code, 1, some .int, none, 12, 0)
def eg_c174 : List (Nat × Instr × Nat) := [(0, .aload_n 0, 1), (1, .getfield 3, 3), (4, .ireturn, 1)]
-- 175: KnobEyeModel.<init>()V
def eg_i175 : eg_MI := (⟨"KnobEyeModel", "<init>", "()V"⟩, prog_15_method_4_code, 1, none, none, 12, 0)
def eg_c175 : List (Nat × Instr × Nat) := [(0, .aload_n 0, 1), (1, .invokespecial 7, 3), (4, .aload_n 0, 1), (5, .sipush 12741, 3), (8, .newarray .int, 2), (10, .putfield 13, 3), (13, .aload_n 0, 1), (14, .sipush 11900, 3), (17, .newarray .int, 2), (19, .putfield 17, 3), (22, .aload_n 0, 1), (23, .sipush 400, 3), (26, .newarray .byte, 2), (28, .putfield 20, 3), (31, .aload_n 0, 1), (32, .iconst (-1), 1), (33, .putfield 24, 3), (36, .aload_n 0, 1), (37, .iconst 5, 1), (38, .newarray .int, 2), (40, .putfield 27, 3), (43, .aload_n 0, 1), (44, .iconst 5, 1), (45, .newarray .int, 2), (47, .putfield 30, 3), (50, .aload_n 0, 1), (51, .iconst 2, 1), (52, .newarray .boolean, 2), (54, .putfield 33, 3), (57, .aload_n 0, 1), (58, .sipush 400, 3), (61, .newarray .long, 2), (63, .putfield 37, 3), (66, .aload_n 0, 1), (67, .iconst 4, 1), (68, .newarray .boolean, 2), (70, .putfield 41, 3), (73, .aload_n 0, 1), (74, .sipush 4096, 3), (77, .newarray .long, 2), (79, .putfield 44, 3), (82, .aload_n 0, 1), (83, .bipush 120, 2), (85, .newarray .int, 2), (87, .putfield 47, 3), (90, .aload_n 0, 1), (91, .bipush 6, 2), (93, .newarray .int, 2), (95, .putfield 50, 3), (98, .aload_n 0, 1), (99, .bipush 6, 2), (101, .newarray .int, 2), (103, .putfield 53, 3), (106, .aload_n 0, 1), (107, .ldc 56, 2), (109, .newarray .int, 2), (111, .putfield 57, 3), (114, .aload_n 0, 1), (115, .ldc 56, 2), (117, .newarray .int, 2), (119, .putfield 60, 3), (122, .aload_n 0, 1), (123, .ldc 63, 2), (125, .newarray .int, 2), (127, .putfield 64, 3), (130, .aload_n 0, 1), (131, .iconst 5, 1), (132, .newarray .int, 2), (134, .putfield 67, 3), (137, .aload_n 0, 1), (138, .bipush 23, 2), (140, .newarray .int, 2), (142, .putfield 70, 3), (145, .aload_n 0, 1), (146, .bipush 31, 2), (148, .newarray .int, 2), (150, .putfield 73, 3), (153, .return_, 1)]
-- 176: KnobEyeModel.image()V
def eg_i176 : eg_MI := (⟨"KnobEyeModel", "image", "()V"⟩, prog_15_method_5_code, 2, none, none, 12, 0)
def eg_c176 : List (Nat × Instr × Nat) := [(0, .aload_n 0, 1), (1, .iconst 0, 1), (2, .putfield 3, 3), (5, .iconst 0, 1), (6, .istore_n 1, 1), (7, .iload_n 1, 1), (8, .sipush 11900, 3), (11, .if_icmp .ge 21, 3), (14, .aload_n 0, 1), (15, .getfield 17, 3), (18, .iload_n 1, 1), (19, .aload_n 0, 1), (20, .getfield 13, 3), (23, .iload_n 1, 1), (24, .iaload, 1), (25, .iastore, 1), (26, .iinc 1 1, 3), (29, .goto (-22), 3), (32, .aload_n 0, 1), (33, .iconst 1, 1), (34, .putfield 76, 3), (37, .return_, 1)]
-- 177: KnobEyeModel.back()Z
def eg_i177 : eg_MI := (⟨"KnobEyeModel", "back", "()Z"⟩, prog_15_method_6_code, 2, some .boolean, none, 12, 0)
def eg_c177 : List (Nat × Instr × Nat) := [(0, .aload_n 0, 1), (1, .iconst 0, 1), (2, .putfield 3, 3), (5, .aload_n 0, 1), (6, .getfield 76, 3), (9, .ifCond .ne 5, 3), (12, .iconst 0, 1), (13, .ireturn, 1), (14, .iconst 0, 1), (15, .istore_n 1, 1), (16, .iload_n 1, 1), (17, .sipush 11900, 3), (20, .if_icmp .ge 21, 3), (23, .aload_n 0, 1), (24, .getfield 13, 3), (27, .iload_n 1, 1), (28, .aload_n 0, 1), (29, .getfield 17, 3), (32, .iload_n 1, 1), (33, .iaload, 1), (34, .iastore, 1), (35, .iinc 1 1, 3), (38, .goto (-22), 3), (41, .iconst 0, 1), (42, .istore_n 1, 1), (43, .iload_n 1, 1), (44, .iconst 4, 1), (45, .if_icmp .ge 16, 3), (48, .aload_n 0, 1), (49, .getfield 41, 3), (52, .iload_n 1, 1), (53, .iconst 0, 1), (54, .bastore, 1), (55, .iinc 1 1, 3), (58, .goto (-15), 3), (61, .iconst 1, 1), (62, .ireturn, 1)]
-- 178: KnobEyeModel.feed(IIIII)I
def eg_i178 : eg_MI := (⟨"KnobEyeModel", "feed", "(IIIII)I"⟩, prog_15_method_21_code, 7, some .int, none, 12, 5)
def eg_c178 : List (Nat × Instr × Nat) := [(0, .aload_n 0, 1), (1, .iconst 0, 1), (2, .putfield 3, 3), (5, .aload_n 0, 1), (6, .getfield 105, 3), (9, .bipush 20, 2), (11, .iadd, 1), (12, .sipush 400, 3), (15, .if_icmp .le 5, 3), (18, .iconst (-1), 1), (19, .ireturn, 1), (20, .aload_n 0, 1), (21, .getfield 27, 3), (24, .iconst 0, 1), (25, .iload_n 1, 1), (26, .iastore, 1), (27, .aload_n 0, 1), (28, .getfield 27, 3), (31, .iconst 1, 1), (32, .iload_n 2, 1), (33, .iastore, 1), (34, .aload_n 0, 1), (35, .getfield 27, 3), (38, .iconst 2, 1), (39, .iload_n 3, 1), (40, .iastore, 1), (41, .aload_n 0, 1), (42, .getfield 27, 3), (45, .iconst 3, 1), (46, .iload 4, 2), (48, .iastore, 1), (49, .aload_n 0, 1), (50, .getfield 27, 3), (53, .iconst 4, 1), (54, .iload 5, 2), (56, .iastore, 1), (57, .iconst 0, 1), (58, .istore 6, 2), (60, .iload 6, 2), (62, .bipush 20, 2), (64, .if_icmp .ge 42, 3), (67, .aload_n 0, 1), (68, .getfield 20, 3), (71, .aload_n 0, 1), (72, .getfield 105, 3), (75, .iload 6, 2), (77, .iadd, 1), (78, .aload_n 0, 1), (79, .getfield 27, 3), (82, .iload 6, 2), (84, .iconst 4, 1), (85, .idiv, 1), (86, .iaload, 1), (87, .bipush 24, 2), (89, .bipush 8, 2), (91, .iload 6, 2), (93, .iconst 4, 1), (94, .irem, 1), (95, .imul, 1), (96, .isub, 1), (97, .ishr, 1), (98, .i2b, 1), (99, .bastore, 1), (100, .iinc 6 1, 3), (103, .goto (-43), 3), (106, .aload_n 0, 1), (107, .dup, 1), (108, .getfield 105, 3), (111, .bipush 20, 2), (113, .iadd, 1), (114, .putfield 105, 3), (117, .aload_n 0, 1), (118, .getfield 105, 3), (121, .ireturn, 1)]
-- 179: KnobEyeModel.end(I)Z
def eg_i179 : eg_MI := (⟨"KnobEyeModel", "end", "(I)Z"⟩, prog_15_method_22_code, 2, some .boolean, none, 12, 1)
def eg_c179 : List (Nat × Instr × Nat) := [(0, .aload_n 0, 1), (1, .iconst 0, 1), (2, .putfield 3, 3), (5, .iload_n 1, 1), (6, .ifCond .lt 11, 3), (9, .iload_n 1, 1), (10, .aload_n 0, 1), (11, .getfield 105, 3), (14, .if_icmp .le 5, 3), (17, .iconst 0, 1), (18, .ireturn, 1), (19, .aload_n 0, 1), (20, .iload_n 1, 1), (21, .putfield 105, 3), (24, .iconst 1, 1), (25, .ireturn, 1)]
-- 180: KnobEyeModel.fault()I
def eg_i180 : eg_MI := (⟨"KnobEyeModel", "fault", "()I"⟩, prog_15_method_31_code, 1, some .int, none, 12, 0)
def eg_c180 : List (Nat × Instr × Nat) := [(0, .aload_n 0, 1), (1, .iconst 0, 1), (2, .putfield 3, 3), (5, .aload_n 0, 1), (6, .getfield 24, 3), (9, .ireturn, 1)]
-- 181: KnobEyeModel.rule()I
def eg_i181 : eg_MI := (⟨"KnobEyeModel", "rule", "()I"⟩, prog_15_method_49_code, 2, some .int, none, 12, 0)
def eg_c181 : List (Nat × Instr × Nat) := [(0, .aload_n 0, 1), (1, .invokevirtual 248, 3), (4, .aload_n 0, 1), (5, .aload_n 0, 1), (6, .iconst 0, 1), (7, .invokevirtual 251, 3), (10, .ifCond .ne 7, 3), (13, .iconst 1, 1), (14, .goto 4, 3), (17, .iconst 0, 1), (18, .iconst 1, 1), (19, .invokevirtual 254, 3), (22, .ifCond .ne 26, 3), (25, .aload_n 0, 1), (26, .aload_n 0, 1), (27, .getfield 13, 3), (30, .iconst 0, 1), (31, .iaload, 1), (32, .iconst 4, 1), (33, .if_icmp .ne 7, 3), (36, .iconst 1, 1), (37, .goto 4, 3), (40, .iconst 0, 1), (41, .iconst 2, 1), (42, .invokevirtual 254, 3), (45, .ifCond .eq 5, 3), (48, .iconst 0, 1), (49, .ireturn, 1), (50, .aload_n 0, 1), (51, .getfield 13, 3), (54, .iconst 0, 1), (55, .iaload, 1), (56, .istore_n 1, 1), (57, .aload_n 0, 1), (58, .iload_n 1, 1), (59, .invokevirtual 258, 3), (62, .aload_n 0, 1), (63, .getfield 41, 3), (66, .iload_n 1, 1), (67, .iconst 0, 1), (68, .bastore, 1), (69, .aload_n 0, 1), (70, .getfield 13, 3), (73, .iconst 0, 1), (74, .dup2, 1), (75, .iaload, 1), (76, .iconst 1, 1), (77, .iadd, 1), (78, .iastore, 1), (79, .iload_n 1, 1), (80, .ireturn, 1)]
-- 182: KnobEyeModel.uses()V
def eg_i182 : eg_MI := (⟨"KnobEyeModel", "uses", "()V"⟩, prog_15_method_23_code, 1, none, none, 12, 0)
def eg_c182 : List (Nat × Instr × Nat) := [(0, .aload_n 0, 1), (1, .iconst 0, 1), (2, .putfield 3, 3), (5, .aload_n 0, 1), (6, .aload_n 0, 1), (7, .getfield 105, 3), (10, .putfield 108, 3), (13, .aload_n 0, 1), (14, .iconst 0, 1), (15, .putfield 105, 3), (18, .aload_n 0, 1), (19, .iconst 0, 1), (20, .putfield 111, 3), (23, .aload_n 0, 1), (24, .iconst 0, 1), (25, .putfield 114, 3), (28, .return_, 1)]
-- 183: KnobEyeModel.reads(I)Z
def eg_i183 : eg_MI := (⟨"KnobEyeModel", "reads", "(I)Z"⟩, prog_15_method_47_code, 3, some .boolean, none, 12, 1)
def eg_c183 : List (Nat × Instr × Nat) := [(0, .aload_n 0, 1), (1, .iload_n 1, 1), (2, .putfield 146, 3), (5, .iload_n 1, 1), (6, .iconst 1, 1), (7, .if_icmp .ne 10, 3), (10, .aload_n 0, 1), (11, .invokevirtual 242, 3), (14, .goto 7, 3), (17, .aload_n 0, 1), (18, .invokevirtual 245, 3), (21, .istore_n 2, 1), (22, .aload_n 0, 1), (23, .iload_n 2, 1), (24, .ifCond .eq 7, 3), (27, .iconst (-1), 1), (28, .goto 7, 3), (31, .aload_n 0, 1), (32, .getfield 121, 3), (35, .putfield 24, 3), (38, .iload_n 2, 1), (39, .ireturn, 1)]
-- 184: KnobEyeModel.readLines()Z
def eg_i184 : eg_MI := (⟨"KnobEyeModel", "readLines", "()Z"⟩, prog_15_method_46_code, 2, some .boolean, none, 12, 0)
def eg_c184 : List (Nat × Instr × Nat) := [(0, .aload_n 0, 1), (1, .invokevirtual 124, 3), (4, .aload_n 0, 1), (5, .getfield 13, 3), (8, .bipush 14, 2), (10, .invokestatic 143, 3), (13, .iconst 0, 1), (14, .iastore, 1), (15, .aload_n 0, 1), (16, .getfield 111, 3), (19, .aload_n 0, 1), (20, .getfield 108, 3), (23, .if_icmp .ne 5, 3), (26, .iconst 1, 1), (27, .ireturn, 1), (28, .iconst 0, 1), (29, .istore_n 1, 1), (30, .aload_n 0, 1), (31, .iload_n 1, 1), (32, .invokevirtual 239, 3), (35, .ifCond .ne 5, 3), (38, .iconst 0, 1), (39, .ireturn, 1), (40, .aload_n 0, 1), (41, .getfield 13, 3), (44, .bipush 14, 2), (46, .invokestatic 143, 3), (49, .iload_n 1, 1), (50, .iconst 1, 1), (51, .iadd, 1), (52, .iastore, 1), (53, .aload_n 0, 1), (54, .invokevirtual 124, 3), (57, .aload_n 0, 1), (58, .getfield 111, 3), (61, .aload_n 0, 1), (62, .getfield 108, 3), (65, .if_icmp .ne 5, 3), (68, .iconst 1, 1), (69, .ireturn, 1), (70, .aload_n 0, 1), (71, .bipush 59, 2), (73, .bipush 59, 2), (75, .invokevirtual 117, 3), (78, .ifCond .ne 5, 3), (81, .iconst 0, 1), (82, .ireturn, 1), (83, .aload_n 0, 1), (84, .dup, 1), (85, .getfield 111, 3), (88, .iconst 1, 1), (89, .iadd, 1), (90, .putfield 111, 3), (93, .iinc 1 1, 3), (96, .goto (-66), 3)]
-- 185: KnobEyeModel.blanks()V
def eg_i185 : eg_MI := (⟨"KnobEyeModel", "blanks", "()V"⟩, prog_15_method_25_code, 1, none, none, 12, 0)
def eg_c185 : List (Nat × Instr × Nat) := [(0, .aload_n 0, 1), (1, .bipush 32, 2), (3, .bipush 32, 2), (5, .invokevirtual 117, 3), (8, .ifCond .eq 16, 3), (11, .aload_n 0, 1), (12, .dup, 1), (13, .getfield 111, 3), (16, .iconst 1, 1), (17, .iadd, 1), (18, .putfield 111, 3), (21, .goto (-21), 3), (24, .aload_n 0, 1), (25, .aload_n 0, 1), (26, .getfield 111, 3), (29, .putfield 121, 3), (32, .return_, 1)]
-- 186: KnobEyeModel.isAt(II)Z
def eg_i186 : eg_MI := (⟨"KnobEyeModel", "isAt", "(II)Z"⟩, prog_15_method_24_code, 3, some .boolean, none, 12, 2)
def eg_c186 : List (Nat × Instr × Nat) := [(0, .aload_n 0, 1), (1, .getfield 111, 3), (4, .aload_n 0, 1), (5, .getfield 108, 3), (8, .if_icmp .ge 33, 3), (11, .aload_n 0, 1), (12, .getfield 20, 3), (15, .aload_n 0, 1), (16, .getfield 111, 3), (19, .baload, 1), (20, .iload_n 1, 1), (21, .if_icmp .lt 20, 3), (24, .aload_n 0, 1), (25, .getfield 20, 3), (28, .aload_n 0, 1), (29, .getfield 111, 3), (32, .baload, 1), (33, .iload_n 2, 1), (34, .if_icmp .gt 7, 3), (37, .iconst 1, 1), (38, .goto 4, 3), (41, .iconst 0, 1), (42, .ireturn, 1)]
-- 187: KnobEyeModel.textAt(I)I
def eg_i187 : eg_MI := (⟨"KnobEyeModel", "textAt", "(I)I"⟩, prog_15_method_32_code, 1, some .int, none, 12, 1)
def eg_c187 : List (Nat × Instr × Nat) := [(0, .bipush 126, 2), (2, .sipush 841, 3), (5, .iload_n 0, 1), (6, .imul, 1), (7, .iadd, 1), (8, .ireturn, 1)]
-- 188: KnobEyeModel.readLine(I)Z
def eg_i188 : eg_MI := (⟨"KnobEyeModel", "readLine", "(I)Z"⟩, prog_15_method_45_code, 3, some .boolean, none, 12, 1)
def eg_c188 : List (Nat × Instr × Nat) := [(0, .aload_n 0, 1), (1, .invokevirtual 136, 3), (4, .iload_n 1, 1), (5, .bipush 10, 2), (7, .if_icmp .ne 5, 3), (10, .iconst 0, 1), (11, .ireturn, 1), (12, .bipush 14, 2), (14, .iload_n 1, 1), (15, .invokestatic 230, 3), (18, .istore_n 2, 1), (19, .aload_n 0, 1), (20, .getfield 13, 3), (23, .iload_n 2, 1), (24, .aload_n 0, 1), (25, .ldc 233, 2), (27, .invokevirtual 139, 3), (30, .ifCond .eq 7, 3), (33, .iconst 0, 1), (34, .goto 17, 3), (37, .aload_n 0, 1), (38, .ldc 235, 2), (40, .invokevirtual 139, 3), (43, .ifCond .eq 7, 3), (46, .iconst 1, 1), (47, .goto 4, 3), (50, .iconst (-1), 1), (51, .iastore, 1), (52, .aload_n 0, 1), (53, .getfield 13, 3), (56, .iload_n 2, 1), (57, .iaload, 1), (58, .ifCond .ge 5, 3), (61, .iconst 0, 1), (62, .ireturn, 1), (63, .aload_n 0, 1), (64, .getfield 13, 3), (67, .iload_n 2, 1), (68, .iconst 1, 1), (69, .iadd, 1), (70, .aload_n 0, 1), (71, .bipush 50, 2), (73, .invokevirtual 194, 3), (76, .iastore, 1), (77, .aload_n 0, 1), (78, .getfield 13, 3), (81, .iload_n 2, 1), (82, .iconst 2, 1), (83, .iadd, 1), (84, .aload_n 0, 1), (85, .getfield 114, 3), (88, .iastore, 1), (89, .aload_n 0, 1), (90, .getfield 13, 3), (93, .iload_n 2, 1), (94, .iconst 1, 1), (95, .iadd, 1), (96, .iaload, 1), (97, .ifCond .ge 5, 3), (100, .iconst 0, 1), (101, .ireturn, 1), (102, .aload_n 0, 1), (103, .iconst 0, 1), (104, .putfield 203, 3), (107, .aload_n 0, 1), (108, .ldc 237, 2), (110, .invokevirtual 211, 3), (113, .ifCond .eq 12, 3), (116, .aload_n 0, 1), (117, .invokevirtual 206, 3), (120, .ifCond .ne 5, 3), (123, .iconst 0, 1), (124, .ireturn, 1), (125, .aload_n 0, 1), (126, .getfield 13, 3), (129, .iload_n 2, 1), (130, .iconst 3, 1), (131, .iadd, 1), (132, .aload_n 0, 1), (133, .getfield 114, 3), (136, .iastore, 1), (137, .iconst 1, 1), (138, .ireturn, 1)]
-- 189: KnobEyeModel.letters()V
def eg_i189 : eg_MI := (⟨"KnobEyeModel", "letters", "()V"⟩, prog_15_method_26_code, 1, none, none, 12, 0)
def eg_c189 : List (Nat × Instr × Nat) := [(0, .aload_n 0, 1), (1, .invokevirtual 124, 3), (4, .aload_n 0, 1), (5, .bipush 97, 2), (7, .bipush 122, 2), (9, .invokevirtual 117, 3), (12, .ifCond .eq 16, 3), (15, .aload_n 0, 1), (16, .dup, 1), (17, .getfield 111, 3), (20, .iconst 1, 1), (21, .iadd, 1), (22, .putfield 111, 3), (25, .goto (-21), 3), (28, .return_, 1)]
-- 190: KnobEyeModel.lineAt(II)I
def eg_i190 : eg_MI := (⟨"KnobEyeModel", "lineAt", "(II)I"⟩, prog_15_method_33_code, 2, some .int, none, 12, 2)
def eg_c190 : List (Nat × Instr × Nat) := [(0, .iload_n 0, 1), (1, .invokestatic 143, 3), (4, .iconst 1, 1), (5, .iadd, 1), (6, .iconst 4, 1), (7, .iload_n 1, 1), (8, .imul, 1), (9, .iadd, 1), (10, .ireturn, 1)]
-- 191: KnobEyeModel.isWord(Ljava/lang/String;)Z
def eg_i191 : eg_MI := (⟨"KnobEyeModel", "isWord", "(Ljava/lang/String;)Z"⟩, prog_15_method_27_code, 4, some .boolean, none, 12, 1)
def eg_c191 : List (Nat × Instr × Nat) := [(0, .aload_n 0, 1), (1, .getfield 111, 3), (4, .aload_n 0, 1), (5, .getfield 121, 3), (8, .isub, 1), (9, .aload_n 1, 1), (10, .invokevirtual 127, 3), (13, .if_icmp .ne 7, 3), (16, .iconst 1, 1), (17, .goto 4, 3), (20, .iconst 0, 1), (21, .istore_n 2, 1), (22, .iconst 0, 1), (23, .istore_n 3, 1), (24, .iload_n 2, 1), (25, .ifCond .eq 42, 3), (28, .iload_n 3, 1), (29, .aload_n 1, 1), (30, .invokevirtual 127, 3), (33, .if_icmp .ge 34, 3), (36, .aload_n 0, 1), (37, .getfield 20, 3), (40, .aload_n 0, 1), (41, .getfield 121, 3), (44, .iload_n 3, 1), (45, .iadd, 1), (46, .baload, 1), (47, .aload_n 1, 1), (48, .iload_n 3, 1), (49, .invokevirtual 132, 3), (52, .if_icmp .ne 7, 3), (55, .iconst 1, 1), (56, .goto 4, 3), (59, .iconst 0, 1), (60, .istore_n 2, 1), (61, .iinc 3 1, 3), (64, .goto (-40), 3), (67, .iload_n 2, 1), (68, .ireturn, 1)]
-- 192: KnobEyeModel.number(I)I
def eg_i192 : eg_MI := (⟨"KnobEyeModel", "number", "(I)I"⟩, prog_15_method_30_code, 3, some .int, none, 12, 1)
def eg_c192 : List (Nat × Instr × Nat) := [(0, .aload_n 0, 1), (1, .invokevirtual 124, 3), (4, .iconst 0, 1), (5, .istore_n 2, 1), (6, .aload_n 0, 1), (7, .bipush 48, 2), (9, .bipush 57, 2), (11, .invokevirtual 117, 3), (14, .ifCond .eq 51, 3), (17, .aload_n 0, 1), (18, .getfield 111, 3), (21, .aload_n 0, 1), (22, .getfield 121, 3), (25, .isub, 1), (26, .iconst 4, 1), (27, .if_icmp .ge 23, 3), (30, .bipush 10, 2), (32, .iload_n 2, 1), (33, .imul, 1), (34, .aload_n 0, 1), (35, .getfield 20, 3), (38, .aload_n 0, 1), (39, .getfield 111, 3), (42, .baload, 1), (43, .iadd, 1), (44, .bipush 48, 2), (46, .isub, 1), (47, .goto 4, 3), (50, .iload_n 2, 1), (51, .istore_n 2, 1), (52, .aload_n 0, 1), (53, .dup, 1), (54, .getfield 111, 3), (57, .iconst 1, 1), (58, .iadd, 1), (59, .putfield 111, 3), (62, .goto (-56), 3), (65, .aload_n 0, 1), (66, .getfield 111, 3), (69, .aload_n 0, 1), (70, .getfield 121, 3), (73, .if_icmp .eq 21, 3), (76, .aload_n 0, 1), (77, .getfield 111, 3), (80, .aload_n 0, 1), (81, .getfield 121, 3), (84, .isub, 1), (85, .iconst 4, 1), (86, .if_icmp .gt 8, 3), (89, .iload_n 2, 1), (90, .iload_n 1, 1), (91, .if_icmp .le 7, 3), (94, .iconst (-1), 1), (95, .goto 4, 3), (98, .iload_n 2, 1), (99, .ireturn, 1)]
-- 193: KnobEyeModel.passes(Ljava/lang/String;)Z
def eg_i193 : eg_MI := (⟨"KnobEyeModel", "passes", "(Ljava/lang/String;)Z"⟩, prog_15_method_28_code, 2, some .boolean, none, 12, 1)
def eg_c193 : List (Nat × Instr × Nat) := [(0, .aload_n 0, 1), (1, .invokevirtual 136, 3), (4, .aload_n 0, 1), (5, .aload_n 1, 1), (6, .invokevirtual 139, 3), (9, .ifCond .eq 5, 3), (12, .iconst 1, 1), (13, .ireturn, 1), (14, .aload_n 0, 1), (15, .aload_n 0, 1), (16, .getfield 121, 3), (19, .putfield 111, 3), (22, .iconst 0, 1), (23, .ireturn, 1)]
-- 194: KnobEyeModel.readCond()Z
def eg_i194 : eg_MI := (⟨"KnobEyeModel", "readCond", "()Z"⟩, prog_15_method_43_code, 1, some .boolean, none, 12, 0)
def eg_c194 : List (Nat × Instr × Nat) := [(0, .aload_n 0, 1), (1, .invokevirtual 225, 3), (4, .ifCond .ne 5, 3), (7, .iconst 0, 1), (8, .ireturn, 1), (9, .aload_n 0, 1), (10, .ldc 228, 2), (12, .invokevirtual 211, 3), (15, .ifCond .eq 22, 3), (18, .aload_n 0, 1), (19, .invokevirtual 225, 3), (22, .ifCond .ne 5, 3), (25, .iconst 0, 1), (26, .ireturn, 1), (27, .aload_n 0, 1), (28, .bipush 20, 2), (30, .iconst 0, 1), (31, .invokevirtual 186, 3), (34, .goto (-25), 3), (37, .iconst 1, 1), (38, .ireturn, 1)]
-- 195: KnobEyeModel.readAllOf()Z
def eg_i195 : eg_MI := (⟨"KnobEyeModel", "readAllOf", "()Z"⟩, prog_15_method_42_code, 1, some .boolean, none, 12, 0)
def eg_c195 : List (Nat × Instr × Nat) := [(0, .aload_n 0, 1), (1, .invokevirtual 214, 3), (4, .ifCond .ne 5, 3), (7, .iconst 0, 1), (8, .ireturn, 1), (9, .aload_n 0, 1), (10, .ldc 223, 2), (12, .invokevirtual 211, 3), (15, .ifCond .eq 22, 3), (18, .aload_n 0, 1), (19, .invokevirtual 214, 3), (22, .ifCond .ne 5, 3), (25, .iconst 0, 1), (26, .ireturn, 1), (27, .aload_n 0, 1), (28, .bipush 19, 2), (30, .iconst 0, 1), (31, .invokevirtual 186, 3), (34, .goto (-25), 3), (37, .iconst 1, 1), (38, .ireturn, 1)]
-- 196: KnobEyeModel.readAtom()Z
def eg_i196 : eg_MI := (⟨"KnobEyeModel", "readAtom", "()Z"⟩, prog_15_method_41_code, 3, some .boolean, none, 12, 0)
def eg_c196 : List (Nat × Instr × Nat) := [(0, .aload_n 0, 1), (1, .bipush 40, 2), (3, .invokevirtual 197, 3), (6, .ifCond .eq 50, 3), (9, .aload_n 0, 1), (10, .getfield 203, 3), (13, .bipush 6, 2), (15, .if_icmp .ne 5, 3), (18, .iconst 0, 1), (19, .ireturn, 1), (20, .aload_n 0, 1), (21, .dup, 1), (22, .getfield 203, 3), (25, .iconst 1, 1), (26, .iadd, 1), (27, .putfield 203, 3), (30, .aload_n 0, 1), (31, .invokevirtual 206, 3), (34, .ifCond .ne 5, 3), (37, .iconst 0, 1), (38, .ireturn, 1), (39, .aload_n 0, 1), (40, .dup, 1), (41, .getfield 203, 3), (44, .iconst 1, 1), (45, .isub, 1), (46, .putfield 203, 3), (49, .aload_n 0, 1), (50, .bipush 41, 2), (52, .invokevirtual 197, 3), (55, .ireturn, 1), (56, .aload_n 0, 1), (57, .ldc 209, 2), (59, .invokevirtual 211, 3), (62, .ifCond .eq 52, 3), (65, .aload_n 0, 1), (66, .getfield 203, 3), (69, .bipush 6, 2), (71, .if_icmp .ne 5, 3), (74, .iconst 0, 1), (75, .ireturn, 1), (76, .aload_n 0, 1), (77, .dup, 1), (78, .getfield 203, 3), (81, .iconst 1, 1), (82, .iadd, 1), (83, .putfield 203, 3), (86, .aload_n 0, 1), (87, .invokevirtual 214, 3), (90, .ifCond .ne 5, 3), (93, .iconst 0, 1), (94, .ireturn, 1), (95, .aload_n 0, 1), (96, .dup, 1), (97, .getfield 203, 3), (100, .iconst 1, 1), (101, .isub, 1), (102, .putfield 203, 3), (105, .aload_n 0, 1), (106, .bipush 18, 2), (108, .iconst 0, 1), (109, .invokevirtual 186, 3), (112, .iconst 1, 1), (113, .ireturn, 1), (114, .aload_n 0, 1), (115, .invokevirtual 136, 3), (118, .aload_n 0, 1), (119, .invokevirtual 217, 3), (122, .istore_n 1, 1), (123, .iload_n 1, 1), (124, .ifCond .lt 36, 3), (127, .iload_n 1, 1), (128, .iconst 2, 1), (129, .if_icmp .ne 12, 3), (132, .aload_n 0, 1), (133, .bipush 15, 2), (135, .invokevirtual 194, 3), (138, .goto 4, 3), (141, .iconst 0, 1), (142, .istore_n 2, 1), (143, .iload_n 2, 1), (144, .ifCond .ge 5, 3), (147, .iconst 0, 1), (148, .ireturn, 1), (149, .aload_n 0, 1), (150, .bipush 10, 2), (152, .iload_n 1, 1), (153, .iadd, 1), (154, .iload_n 2, 1), (155, .invokevirtual 186, 3), (158, .iconst 1, 1), (159, .ireturn, 1), (160, .aload_n 0, 1), (161, .aload_n 0, 1), (162, .getfield 121, 3), (165, .putfield 111, 3), (168, .aload_n 0, 1), (169, .invokevirtual 220, 3), (172, .ifCond .ne 5, 3), (175, .iconst 0, 1), (176, .ireturn, 1), (177, .aload_n 0, 1), (178, .bipush 60, 2), (180, .invokevirtual 197, 3), (183, .istore_n 2, 1), (184, .iload_n 2, 1), (185, .ifCond .ne 12, 3), (188, .aload_n 0, 1), (189, .bipush 62, 2), (191, .invokevirtual 197, 3), (194, .ifCond .eq 10, 3), (197, .aload_n 0, 1), (198, .invokevirtual 220, 3), (201, .ifCond .ne 5, 3), (204, .iconst 0, 1), (205, .ireturn, 1), (206, .aload_n 0, 1), (207, .iload_n 2, 1), (208, .ifCond .eq 8, 3), (211, .bipush 16, 2), (213, .goto 5, 3), (216, .bipush 17, 2), (218, .iconst 0, 1), (219, .invokevirtual 186, 3), (222, .iconst 1, 1), (223, .ireturn, 1)]
-- 197: KnobEyeModel.sign(I)Z
def eg_i197 : eg_MI := (⟨"KnobEyeModel", "sign", "(I)Z"⟩, prog_15_method_29_code, 2, some .boolean, none, 12, 1)
def eg_c197 : List (Nat × Instr × Nat) := [(0, .aload_n 0, 1), (1, .invokevirtual 124, 3), (4, .aload_n 0, 1), (5, .iload_n 1, 1), (6, .iload_n 1, 1), (7, .invokevirtual 117, 3), (10, .ifCond .ne 5, 3), (13, .iconst 0, 1), (14, .ireturn, 1), (15, .aload_n 0, 1), (16, .dup, 1), (17, .getfield 111, 3), (20, .iconst 1, 1), (21, .iadd, 1), (22, .putfield 111, 3), (25, .iconst 1, 1), (26, .ireturn, 1)]
-- 198: KnobEyeModel.emits(II)V
def eg_i198 : eg_MI := (⟨"KnobEyeModel", "emits", "(II)V"⟩, prog_15_method_35_code, 4, none, none, 12, 2)
def eg_c198 : List (Nat × Instr × Nat) := [(0, .bipush 14, 2), (2, .invokestatic 143, 3), (5, .bipush 41, 2), (7, .iadd, 1), (8, .iconst 2, 1), (9, .aload_n 0, 1), (10, .getfield 114, 3), (13, .imul, 1), (14, .iadd, 1), (15, .istore_n 3, 1), (16, .aload_n 0, 1), (17, .getfield 13, 3), (20, .iload_n 3, 1), (21, .iload_n 1, 1), (22, .iastore, 1), (23, .aload_n 0, 1), (24, .getfield 13, 3), (27, .iload_n 3, 1), (28, .iconst 1, 1), (29, .iadd, 1), (30, .iload_n 2, 1), (31, .iastore, 1), (32, .aload_n 0, 1), (33, .dup, 1), (34, .getfield 114, 3), (37, .iconst 1, 1), (38, .iadd, 1), (39, .putfield 114, 3), (42, .return_, 1)]
-- 199: KnobEyeModel.tagAt()I
def eg_i199 : eg_MI := (⟨"KnobEyeModel", "tagAt", "()I"⟩, prog_15_method_37_code, 1, some .int, none, 12, 0)
def eg_c199 : List (Nat × Instr × Nat) := [(0, .aload_n 0, 1), (1, .getfield 146, 3), (4, .ifCond .ne 44, 3), (7, .aload_n 0, 1), (8, .ldc 171, 2), (10, .invokevirtual 139, 3), (13, .ifCond .eq 7, 3), (16, .iconst 0, 1), (17, .goto 30, 3), (20, .aload_n 0, 1), (21, .ldc 173, 2), (23, .invokevirtual 139, 3), (26, .ifCond .eq 7, 3), (29, .iconst 1, 1), (30, .goto 17, 3), (33, .aload_n 0, 1), (34, .ldc 175, 2), (36, .invokevirtual 139, 3), (39, .ifCond .eq 7, 3), (42, .iconst 2, 1), (43, .goto 4, 3), (46, .iconst (-1), 1), (47, .ireturn, 1), (48, .aload_n 0, 1), (49, .getfield 146, 3), (52, .iconst 1, 1), (53, .if_icmp .ne 31, 3), (56, .aload_n 0, 1), (57, .ldc 177, 2), (59, .invokevirtual 139, 3), (62, .ifCond .eq 7, 3), (65, .iconst 0, 1), (66, .goto 17, 3), (69, .aload_n 0, 1), (70, .ldc 179, 2), (72, .invokevirtual 139, 3), (75, .ifCond .eq 7, 3), (78, .iconst 1, 1), (79, .goto 4, 3), (82, .iconst (-1), 1), (83, .ireturn, 1), (84, .aload_n 0, 1), (85, .ldc 181, 2), (87, .invokevirtual 139, 3), (90, .ifCond .eq 7, 3), (93, .iconst 0, 1), (94, .goto 4, 3), (97, .iconst (-1), 1), (98, .ireturn, 1)]
-- 200: KnobEyeModel.readSum()Z
def eg_i200 : eg_MI := (⟨"KnobEyeModel", "readSum", "()Z"⟩, prog_15_method_40_code, 1, some .boolean, none, 12, 0)
def eg_c200 : List (Nat × Instr × Nat) := [(0, .aload_n 0, 1), (1, .invokevirtual 200, 3), (4, .ifCond .ne 5, 3), (7, .iconst 0, 1), (8, .ireturn, 1), (9, .aload_n 0, 1), (10, .bipush 43, 2), (12, .invokevirtual 197, 3), (15, .ifCond .eq 22, 3), (18, .aload_n 0, 1), (19, .invokevirtual 200, 3), (22, .ifCond .ne 5, 3), (25, .iconst 0, 1), (26, .ireturn, 1), (27, .aload_n 0, 1), (28, .bipush 15, 2), (30, .iconst 0, 1), (31, .invokevirtual 186, 3), (34, .goto (-25), 3), (37, .iconst 1, 1), (38, .ireturn, 1)]
-- 201: KnobEyeModel.readPart()Z
def eg_i201 : eg_MI := (⟨"KnobEyeModel", "readPart", "()Z"⟩, prog_15_method_39_code, 2, some .boolean, none, 12, 0)
def eg_c201 : List (Nat × Instr × Nat) := [(0, .aload_n 0, 1), (1, .invokevirtual 136, 3), (4, .aload_n 0, 1), (5, .getfield 111, 3), (8, .aload_n 0, 1), (9, .getfield 121, 3), (12, .if_icmp .le 16, 3), (15, .aload_n 0, 1), (16, .aload_n 0, 1), (17, .getfield 121, 3), (20, .putfield 111, 3), (23, .aload_n 0, 1), (24, .invokevirtual 190, 3), (27, .ireturn, 1), (28, .aload_n 0, 1), (29, .sipush 9999, 3), (32, .invokevirtual 194, 3), (35, .istore_n 1, 1), (36, .iload_n 1, 1), (37, .ifCond .ge 5, 3), (40, .iconst 0, 1), (41, .ireturn, 1), (42, .aload_n 0, 1), (43, .bipush 13, 2), (45, .iload_n 1, 1), (46, .invokevirtual 186, 3), (49, .aload_n 0, 1), (50, .bipush 42, 2), (52, .invokevirtual 197, 3), (55, .ifCond .ne 5, 3), (58, .iconst 1, 1), (59, .ireturn, 1), (60, .aload_n 0, 1), (61, .invokevirtual 190, 3), (64, .ifCond .ne 5, 3), (67, .iconst 0, 1), (68, .ireturn, 1), (69, .aload_n 0, 1), (70, .bipush 14, 2), (72, .iconst 0, 1), (73, .invokevirtual 186, 3), (76, .iconst 1, 1), (77, .ireturn, 1)]
-- 202: KnobEyeModel.readFact()Z
def eg_i202 : eg_MI := (⟨"KnobEyeModel", "readFact", "()Z"⟩, prog_15_method_38_code, 2, some .boolean, none, 12, 0)
def eg_c202 : List (Nat × Instr × Nat) := [(0, .aload_n 0, 1), (1, .invokevirtual 136, 3), (4, .aload_n 0, 1), (5, .invokevirtual 183, 3), (8, .istore_n 1, 1), (9, .iload_n 1, 1), (10, .ifCond .lt 9, 3), (13, .aload_n 0, 1), (14, .iload_n 1, 1), (15, .iconst 0, 1), (16, .invokevirtual 186, 3), (19, .iload_n 1, 1), (20, .ifCond .lt 7, 3), (23, .iconst 1, 1), (24, .goto 4, 3), (27, .iconst 0, 1), (28, .ireturn, 1)]
-- 203: KnobEyeModel.factAt()I
def eg_i203 : eg_MI := (⟨"KnobEyeModel", "factAt", "()I"⟩, prog_15_method_36_code, 1, some .int, none, 12, 0)
def eg_c203 : List (Nat × Instr × Nat) := [(0, .aload_n 0, 1), (1, .getfield 146, 3), (4, .ifCond .ne 70, 3), (7, .aload_n 0, 1), (8, .ldc 149, 2), (10, .invokevirtual 139, 3), (13, .ifCond .eq 7, 3), (16, .iconst 0, 1), (17, .goto 56, 3), (20, .aload_n 0, 1), (21, .ldc 151, 2), (23, .invokevirtual 139, 3), (26, .ifCond .eq 7, 3), (29, .iconst 1, 1), (30, .goto 43, 3), (33, .aload_n 0, 1), (34, .ldc 153, 2), (36, .invokevirtual 139, 3), (39, .ifCond .eq 7, 3), (42, .iconst 2, 1), (43, .goto 30, 3), (46, .aload_n 0, 1), (47, .ldc 155, 2), (49, .invokevirtual 139, 3), (52, .ifCond .eq 7, 3), (55, .iconst 3, 1), (56, .goto 17, 3), (59, .aload_n 0, 1), (60, .ldc 157, 2), (62, .invokevirtual 139, 3), (65, .ifCond .eq 7, 3), (68, .iconst 4, 1), (69, .goto 4, 3), (72, .iconst (-1), 1), (73, .ireturn, 1), (74, .aload_n 0, 1), (75, .getfield 146, 3), (78, .iconst 1, 1), (79, .if_icmp .ne 57, 3), (82, .aload_n 0, 1), (83, .ldc 159, 2), (85, .invokevirtual 139, 3), (88, .ifCond .eq 7, 3), (91, .iconst 0, 1), (92, .goto 43, 3), (95, .aload_n 0, 1), (96, .ldc 161, 2), (98, .invokevirtual 139, 3), (101, .ifCond .eq 7, 3), (104, .iconst 1, 1), (105, .goto 30, 3), (108, .aload_n 0, 1), (109, .ldc 162, 2), (111, .invokevirtual 139, 3), (114, .ifCond .eq 7, 3), (117, .iconst 2, 1), (118, .goto 17, 3), (121, .aload_n 0, 1), (122, .ldc 164, 2), (124, .invokevirtual 139, 3), (127, .ifCond .eq 7, 3), (130, .iconst 3, 1), (131, .goto 4, 3), (134, .iconst (-1), 1), (135, .ireturn, 1), (136, .aload_n 0, 1), (137, .ldc 153, 2), (139, .invokevirtual 139, 3), (142, .ifCond .eq 7, 3), (145, .iconst 0, 1), (146, .goto 56, 3), (149, .aload_n 0, 1), (150, .ldc 166, 2), (152, .invokevirtual 139, 3), (155, .ifCond .eq 7, 3), (158, .iconst 1, 1), (159, .goto 43, 3), (162, .aload_n 0, 1), (163, .ldc 167, 2), (165, .invokevirtual 139, 3), (168, .ifCond .eq 7, 3), (171, .iconst 2, 1), (172, .goto 30, 3), (175, .aload_n 0, 1), (176, .ldc 164, 2), (178, .invokevirtual 139, 3), (181, .ifCond .eq 7, 3), (184, .iconst 3, 1), (185, .goto 17, 3), (188, .aload_n 0, 1), (189, .ldc 169, 2), (191, .invokevirtual 139, 3), (194, .ifCond .eq 7, 3), (197, .iconst 4, 1), (198, .goto 4, 3), (201, .iconst (-1), 1), (202, .ireturn, 1)]
-- 204: KnobEyeModel.readOne()Z
def eg_i204 : eg_MI := (⟨"KnobEyeModel", "readOne", "()Z"⟩, prog_15_method_44_code, 2, some .boolean, none, 12, 0)
def eg_c204 : List (Nat × Instr × Nat) := [(0, .aload_n 0, 1), (1, .iconst 0, 1), (2, .putfield 203, 3), (5, .bipush 14, 2), (7, .iconst 0, 1), (8, .invokestatic 230, 3), (11, .istore_n 1, 1), (12, .aload_n 0, 1), (13, .getfield 13, 3), (16, .bipush 14, 2), (18, .invokestatic 143, 3), (21, .iconst 1, 1), (22, .iastore, 1), (23, .aload_n 0, 1), (24, .getfield 13, 3), (27, .iload_n 1, 1), (28, .iconst 2, 1), (29, .iadd, 1), (30, .iconst 0, 1), (31, .iastore, 1), (32, .aload_n 0, 1), (33, .invokevirtual 206, 3), (36, .ifCond .ne 5, 3), (39, .iconst 0, 1), (40, .ireturn, 1), (41, .aload_n 0, 1), (42, .getfield 13, 3), (45, .iload_n 1, 1), (46, .iconst 3, 1), (47, .iadd, 1), (48, .aload_n 0, 1), (49, .getfield 114, 3), (52, .iastore, 1), (53, .aload_n 0, 1), (54, .invokevirtual 124, 3), (57, .aload_n 0, 1), (58, .getfield 111, 3), (61, .aload_n 0, 1), (62, .getfield 108, 3), (65, .if_icmp .ne 7, 3), (68, .iconst 1, 1), (69, .goto 4, 3), (72, .iconst 0, 1), (73, .ireturn, 1)]
-- 205: KnobEyeModel.throwsIf(ZI)Z
def eg_i205 : eg_MI := (⟨"KnobEyeModel", "throwsIf", "(ZI)Z"⟩, prog_15_method_2_code, 3, some .boolean, none, 12, 2)
def eg_c205 : List (Nat × Instr × Nat) := [(0, .iload_n 1, 1), (1, .ifCond .eq 8, 3), (4, .aload_n 0, 1), (5, .iload_n 2, 1), (6, .putfield 3, 3), (9, .iload_n 1, 1), (10, .ireturn, 1)]
-- 206: KnobEyeModel.keeps(I)V
def eg_i206 : eg_MI := (⟨"KnobEyeModel", "keeps", "(I)V"⟩, prog_15_method_48_code, 3, none, none, 12, 1)
def eg_c206 : List (Nat × Instr × Nat) := [(0, .iconst 0, 1), (1, .istore_n 2, 1), (2, .iload_n 2, 1), (3, .sipush 841, 3), (6, .if_icmp .ge 32, 3), (9, .aload_n 0, 1), (10, .getfield 13, 3), (13, .iload_n 1, 1), (14, .invokestatic 143, 3), (17, .iload_n 2, 1), (18, .iadd, 1), (19, .aload_n 0, 1), (20, .getfield 13, 3), (23, .bipush 14, 2), (25, .invokestatic 143, 3), (28, .iload_n 2, 1), (29, .iadd, 1), (30, .iaload, 1), (31, .iastore, 1), (32, .iinc 2 1, 3), (35, .goto (-33), 3), (38, .return_, 1)]
-- 207: KnobEyeModel.turner()I
def eg_i207 : eg_MI := (⟨"KnobEyeModel", "turner", "()I"⟩, prog_15_method_50_code, 1, some .int, none, 12, 0)
def eg_c207 : List (Nat × Instr × Nat) := [(0, .aload_n 0, 1), (1, .invokevirtual 248, 3), (4, .aload_n 0, 1), (5, .aload_n 0, 1), (6, .iconst 1, 1), (7, .invokevirtual 251, 3), (10, .ifCond .ne 7, 3), (13, .iconst 1, 1), (14, .goto 4, 3), (17, .iconst 0, 1), (18, .iconst 1, 1), (19, .invokevirtual 254, 3), (22, .ifCond .ne 26, 3), (25, .aload_n 0, 1), (26, .aload_n 0, 1), (27, .getfield 13, 3), (30, .iconst 1, 1), (31, .iaload, 1), (32, .iconst 4, 1), (33, .if_icmp .ne 7, 3), (36, .iconst 1, 1), (37, .goto 4, 3), (40, .iconst 0, 1), (41, .iconst 2, 1), (42, .invokevirtual 254, 3), (45, .ifCond .eq 5, 3), (48, .iconst 0, 1), (49, .ireturn, 1), (50, .aload_n 0, 1), (51, .iconst 4, 1), (52, .aload_n 0, 1), (53, .getfield 13, 3), (56, .iconst 1, 1), (57, .iaload, 1), (58, .iadd, 1), (59, .invokevirtual 258, 3), (62, .aload_n 0, 1), (63, .getfield 13, 3), (66, .iconst 1, 1), (67, .dup2, 1), (68, .iaload, 1), (69, .iconst 1, 1), (70, .iadd, 1), (71, .iastore, 1), (72, .aload_n 0, 1), (73, .getfield 13, 3), (76, .iconst 1, 1), (77, .iaload, 1), (78, .iconst 1, 1), (79, .isub, 1), (80, .ireturn, 1)]
-- 208: KnobEyeModel.claim(II)I
def eg_i208 : eg_MI := (⟨"KnobEyeModel", "claim", "(II)I"⟩, prog_15_method_51_code, 4, some .int, none, 12, 2)
def eg_c208 : List (Nat × Instr × Nat) := [(0, .aload_n 0, 1), (1, .invokevirtual 248, 3), (4, .aload_n 0, 1), (5, .aload_n 0, 1), (6, .iload_n 1, 1), (7, .invokevirtual 96, 3), (10, .ifCond .ne 11, 3), (13, .aload_n 0, 1), (14, .iload_n 2, 1), (15, .invokevirtual 262, 3), (18, .ifCond .eq 7, 3), (21, .iconst 1, 1), (22, .goto 4, 3), (25, .iconst 0, 1), (26, .iconst 1, 1), (27, .invokevirtual 254, 3), (30, .ifCond .eq 5, 3), (33, .iconst 0, 1), (34, .ireturn, 1), (35, .aload_n 0, 1), (36, .aload_n 0, 1), (37, .iconst 2, 1), (38, .invokevirtual 251, 3), (41, .ifCond .ne 7, 3), (44, .iconst 1, 1), (45, .goto 4, 3), (48, .iconst 0, 1), (49, .iconst 2, 1), (50, .invokevirtual 254, 3), (53, .ifCond .ne 27, 3), (56, .aload_n 0, 1), (57, .aload_n 0, 1), (58, .getfield 13, 3), (61, .iconst 2, 1), (62, .iaload, 1), (63, .bipush 6, 2), (65, .if_icmp .ne 7, 3), (68, .iconst 1, 1), (69, .goto 4, 3), (72, .iconst 0, 1), (73, .iconst 3, 1), (74, .invokevirtual 254, 3), (77, .ifCond .eq 5, 3), (80, .iconst 0, 1), (81, .ireturn, 1), (82, .aload_n 0, 1), (83, .getfield 13, 3), (86, .iconst 2, 1), (87, .iaload, 1), (88, .istore_n 3, 1), (89, .aload_n 0, 1), (90, .bipush 8, 2), (92, .iload_n 3, 1), (93, .iadd, 1), (94, .invokevirtual 258, 3), (97, .aload_n 0, 1), (98, .getfield 13, 3), (101, .bipush 114, 2), (103, .iconst 2, 1), (104, .iload_n 3, 1), (105, .imul, 1), (106, .iadd, 1), (107, .iload_n 1, 1), (108, .iastore, 1), (109, .aload_n 0, 1), (110, .getfield 13, 3), (113, .bipush 114, 2), (115, .iconst 2, 1), (116, .iload_n 3, 1), (117, .imul, 1), (118, .iadd, 1), (119, .iconst 1, 1), (120, .iadd, 1), (121, .iload_n 2, 1), (122, .iastore, 1), (123, .aload_n 0, 1), (124, .getfield 13, 3), (127, .iconst 2, 1), (128, .dup2, 1), (129, .iaload, 1), (130, .iconst 1, 1), (131, .iadd, 1), (132, .iastore, 1), (133, .iload_n 3, 1), (134, .ireturn, 1)]
-- 209: KnobEyeModel.noEye(I)Z
def eg_i209 : eg_MI := (⟨"KnobEyeModel", "noEye", "(I)Z"⟩, prog_15_method_15_code, 2, some .boolean, none, 12, 1)
def eg_c209 : List (Nat × Instr × Nat) := [(0, .iload_n 1, 1), (1, .iconst 0, 1), (2, .aload_n 0, 1), (3, .getfield 13, 3), (6, .iconst 4, 1), (7, .iaload, 1), (8, .iconst 1, 1), (9, .isub, 1), (10, .invokestatic 92, 3), (13, .ifCond .ne 7, 3), (16, .iconst 1, 1), (17, .goto 4, 3), (20, .iconst 0, 1), (21, .ireturn, 1)]
-- 210: KnobEyeModel.in(III)Z
def eg_i210 : eg_MI := (⟨"KnobEyeModel", "in", "(III)Z"⟩, prog_15_method_3_code, 3, some .boolean, none, 12, 3)
def eg_c210 : List (Nat × Instr × Nat) := [(0, .iload_n 0, 1), (1, .iload_n 1, 1), (2, .if_icmp .lt 12, 3), (5, .iload_n 0, 1), (6, .iload_n 2, 1), (7, .if_icmp .gt 7, 3), (10, .iconst 1, 1), (11, .goto 4, 3), (14, .iconst 0, 1), (15, .ireturn, 1)]
-- 211: KnobEyeModel.noRule(I)Z
def eg_i211 : eg_MI := (⟨"KnobEyeModel", "noRule", "(I)Z"⟩, prog_15_method_16_code, 2, some .boolean, none, 12, 1)
def eg_c211 : List (Nat × Instr × Nat) := [(0, .iload_n 1, 1), (1, .iconst 0, 1), (2, .aload_n 0, 1), (3, .getfield 13, 3), (6, .iconst 0, 1), (7, .iaload, 1), (8, .iconst 1, 1), (9, .isub, 1), (10, .invokestatic 92, 3), (13, .ifCond .ne 7, 3), (16, .iconst 1, 1), (17, .goto 4, 3), (20, .iconst 0, 1), (21, .ireturn, 1)]
-- 212: KnobEyeModel.right(II)Z
def eg_i212 : eg_MI := (⟨"KnobEyeModel", "right", "(II)Z"⟩, prog_15_method_58_code, 3, some .boolean, none, 12, 2)
def eg_c212 : List (Nat × Instr × Nat) := [(0, .aload_n 0, 1), (1, .iconst 0, 1), (2, .putfield 3, 3), (5, .aload_n 0, 1), (6, .aload_n 0, 1), (7, .iload_n 1, 1), (8, .invokevirtual 262, 3), (11, .iconst 1, 1), (12, .invokevirtual 254, 3), (15, .ifCond .ne 28, 3), (18, .aload_n 0, 1), (19, .iload_n 2, 1), (20, .invokestatic 288, 3), (23, .iconst 2, 1), (24, .invokevirtual 254, 3), (27, .ifCond .ne 16, 3), (30, .aload_n 0, 1), (31, .iload_n 1, 1), (32, .iload_n 2, 1), (33, .invokevirtual 285, 3), (36, .ifCond .eq 7, 3), (39, .iconst 1, 1), (40, .goto 4, 3), (43, .iconst 0, 1), (44, .ireturn, 1)]
-- 213: KnobEyeModel.noLit(I)Z
def eg_i213 : eg_MI := (⟨"KnobEyeModel", "noLit", "(I)Z"⟩, prog_15_method_20_code, 1, some .boolean, none, 12, 1)
def eg_c213 : List (Nat × Instr × Nat) := [(0, .iload_n 0, 1), (1, .iconst 0, 1), (2, .ldc 104, 2), (4, .invokestatic 92, 3), (7, .ifCond .ne 7, 3), (10, .iconst 1, 1), (11, .goto 4, 3), (14, .iconst 0, 1), (15, .ireturn, 1)]
-- 214: KnobEyeModel.ruled(II)Z
def eg_i214 : eg_MI := (⟨"KnobEyeModel", "ruled", "(II)Z"⟩, prog_15_method_55_code, 4, some .boolean, none, 12, 2)
def eg_c214 : List (Nat × Instr × Nat) := [(0, .aload_n 0, 1), (1, .getfield 30, 3), (4, .iconst 0, 1), (5, .iload_n 2, 1), (6, .invokestatic 275, 3), (9, .iastore, 1), (10, .aload_n 0, 1), (11, .getfield 30, 3), (14, .iconst 1, 1), (15, .iload_n 2, 1), (16, .sipush 13107, 3), (19, .iand, 1), (20, .invokestatic 275, 3), (23, .iastore, 1), (24, .aload_n 0, 1), (25, .getfield 30, 3), (28, .iconst 2, 1), (29, .iload_n 2, 1), (30, .ldc_w 278, 3), (33, .iand, 1), (34, .invokestatic 275, 3), (37, .iastore, 1), (38, .aload_n 0, 1), (39, .getfield 30, 3), (42, .iconst 3, 1), (43, .iload_n 2, 1), (44, .sipush 255, 3), (47, .iand, 1), (48, .invokestatic 275, 3), (51, .iastore, 1), (52, .aload_n 0, 1), (53, .getfield 30, 3), (56, .iconst 4, 1), (57, .iconst 0, 1), (58, .iastore, 1), (59, .iconst 0, 1), (60, .istore_n 3, 1), (61, .iload_n 3, 1), (62, .iconst 4, 1), (63, .if_icmp .ge 34, 3), (66, .aload_n 0, 1), (67, .getfield 30, 3), (70, .iconst 4, 1), (71, .dup2, 1), (72, .iaload, 1), (73, .iload_n 2, 1), (74, .iconst 4, 1), (75, .iload_n 3, 1), (76, .imul, 1), (77, .ishr, 1), (78, .bipush 15, 2), (80, .iand, 1), (81, .ifCond .le 7, 3), (84, .iconst 1, 1), (85, .goto 4, 3), (88, .iconst 0, 1), (89, .iadd, 1), (90, .iastore, 1), (91, .iinc 3 1, 3), (94, .goto (-33), 3), (97, .aload_n 0, 1), (98, .getfield 33, 3), (101, .iconst 0, 1), (102, .iload_n 2, 1), (103, .invokestatic 279, 3), (106, .bastore, 1), (107, .aload_n 0, 1), (108, .getfield 33, 3), (111, .iconst 1, 1), (112, .iload_n 2, 1), (113, .invokestatic 275, 3), (116, .iconst 2, 1), (117, .irem, 1), (118, .ifCond .ne 7, 3), (121, .iconst 1, 1), (122, .goto 4, 3), (125, .iconst 0, 1), (126, .bastore, 1), (127, .aload_n 0, 1), (128, .iload_n 2, 1), (129, .putfield 265, 3), (132, .aload_n 0, 1), (133, .iload_n 1, 1), (134, .iconst 0, 1), (135, .invokevirtual 282, 3), (138, .ireturn, 1)]
-- 215: KnobEyeModel.bits(I)I
def eg_i215 : eg_MI := (⟨"KnobEyeModel", "bits", "(I)I"⟩, prog_15_method_53_code, 1, some .int, none, 12, 1)
def eg_c215 : List (Nat × Instr × Nat) := [(0, .iload_n 0, 1), (1, .invokestatic 270, 3), (4, .ireturn, 1)]
-- 216: KnobEyeModel.isPiece(I)Z
def eg_i216 : eg_MI := (⟨"KnobEyeModel", "isPiece", "(I)Z"⟩, prog_15_method_54_code, 4, some .boolean, none, 12, 1)
def eg_c216 : List (Nat × Instr × Nat) := [(0, .iload_n 0, 1), (1, .iload_n 0, 1), (2, .ineg, 1), (3, .iand, 1), (4, .istore_n 1, 1), (5, .iconst 0, 1), (6, .istore_n 2, 1), (7, .iload_n 2, 1), (8, .bipush 16, 2), (10, .if_icmp .ge 39, 3), (13, .iload_n 1, 1), (14, .iload_n 1, 1), (15, .iconst 4, 1), (16, .ishl, 1), (17, .ior, 1), (18, .iload_n 1, 1), (19, .iconst 4, 1), (20, .ishr, 1), (21, .ior, 1), (22, .iload_n 1, 1), (23, .sipush 30583, 3), (26, .iand, 1), (27, .iconst 1, 1), (28, .ishl, 1), (29, .ior, 1), (30, .iload_n 1, 1), (31, .iconst 1, 1), (32, .ishr, 1), (33, .sipush 30583, 3), (36, .iand, 1), (37, .ior, 1), (38, .istore_n 3, 1), (39, .iload_n 3, 1), (40, .iload_n 0, 1), (41, .iand, 1), (42, .istore_n 1, 1), (43, .iinc 2 1, 3), (46, .goto (-39), 3), (49, .iload_n 0, 1), (50, .ifCond .eq 12, 3), (53, .iload_n 1, 1), (54, .iload_n 0, 1), (55, .if_icmp .ne 7, 3), (58, .iconst 1, 1), (59, .goto 4, 3), (62, .iconst 0, 1), (63, .ireturn, 1)]
-- 217: KnobEyeModel.holdsLine(II)Z
def eg_i217 : eg_MI := (⟨"KnobEyeModel", "holdsLine", "(II)Z"⟩, prog_15_method_52_code, 13, some .boolean, none, 12, 2)
def eg_c217 : List (Nat × Instr × Nat) := [(0, .iconst 0, 1), (1, .istore_n 3, 1), (2, .iload_n 1, 1), (3, .iload_n 2, 1), (4, .invokestatic 230, 3), (7, .istore 4, 2), (9, .aload_n 0, 1), (10, .getfield 13, 3), (13, .iload 4, 2), (15, .iconst 2, 1), (16, .iadd, 1), (17, .iaload, 1), (18, .istore 5, 2), (20, .iload 5, 2), (22, .aload_n 0, 1), (23, .getfield 13, 3), (26, .iload 4, 2), (28, .iconst 3, 1), (29, .iadd, 1), (30, .iaload, 1), (31, .if_icmp .ge 353, 3), (34, .aload_n 0, 1), (35, .getfield 13, 3), (38, .iload_n 1, 1), (39, .invokestatic 143, 3), (42, .bipush 41, 2), (44, .iadd, 1), (45, .iconst 2, 1), (46, .iload 5, 2), (48, .imul, 1), (49, .iadd, 1), (50, .iaload, 1), (51, .istore 6, 2), (53, .aload_n 0, 1), (54, .getfield 13, 3), (57, .iload_n 1, 1), (58, .invokestatic 143, 3), (61, .bipush 41, 2), (63, .iadd, 1), (64, .iconst 2, 1), (65, .iload 5, 2), (67, .imul, 1), (68, .iadd, 1), (69, .iconst 1, 1), (70, .iadd, 1), (71, .iaload, 1), (72, .istore 7, 2), (74, .iload 6, 2), (76, .bipush 13, 2), (78, .if_icmp .gt 113, 3), (81, .iload 6, 2), (83, .bipush 10, 2), (85, .if_icmp .lt 50, 3), (88, .iload 6, 2), (90, .bipush 13, 2), (92, .if_icmp .ge 43, 3), (95, .iload 6, 2), (97, .bipush 12, 2), (99, .if_icmp .ne 19, 3), (102, .aload_n 0, 1), (103, .getfield 265, 3), (106, .iload 7, 2), (108, .ishr, 1), (109, .iconst 1, 1), (110, .iand, 1), (111, .iconst 1, 1), (112, .if_icmp .ne 23, 3), (115, .goto 16, 3), (118, .aload_n 0, 1), (119, .getfield 33, 3), (122, .iload 6, 2), (124, .bipush 10, 2), (126, .isub, 1), (127, .baload, 1), (128, .ifCond .eq 7, 3), (131, .iconst 1, 1), (132, .goto 4, 3), (135, .iconst 0, 1), (136, .istore 8, 2), (138, .aload_n 0, 1), (139, .getfield 37, 3), (142, .iload_n 3, 1), (143, .iload 6, 2), (145, .bipush 13, 2), (147, .if_icmp .ne 9, 3), (150, .iload 7, 2), (152, .i2l, 1), (153, .goto 31, 3), (156, .iload 6, 2), (158, .bipush 10, 2), (160, .if_icmp .ge 14, 3), (163, .aload_n 0, 1), (164, .getfield 30, 3), (167, .iload 6, 2), (169, .iaload, 1), (170, .i2l, 1), (171, .goto 13, 3), (174, .iload 8, 2), (176, .ifCond .eq 7, 3), (179, .lconst 1, 1), (180, .goto 4, 3), (183, .lconst 0, 1), (184, .lastore, 1), (185, .iinc 3 1, 3), (188, .goto 190, 3), (191, .iload 6, 2), (193, .bipush 18, 2), (195, .if_icmp .ne 24, 3), (198, .aload_n 0, 1), (199, .getfield 37, 3), (202, .iload_n 3, 1), (203, .iconst 1, 1), (204, .isub, 1), (205, .lconst 1, 1), (206, .aload_n 0, 1), (207, .getfield 37, 3), (210, .iload_n 3, 1), (211, .iconst 1, 1), (212, .isub, 1), (213, .laload, 1), (214, .lsub, 1), (215, .lastore, 1), (216, .goto 162, 3), (219, .iinc 3 (-1), 3), (222, .aload_n 0, 1), (223, .getfield 37, 3), (226, .iload_n 3, 1), (227, .iconst 1, 1), (228, .isub, 1), (229, .laload, 1), (230, .lstore 8, 2), (232, .aload_n 0, 1), (233, .getfield 37, 3), (236, .iload_n 3, 1), (237, .laload, 1), (238, .lstore 10, 2), (240, .iload 6, 2), (242, .bipush 16, 2), (244, .if_icmp .ne 19, 3), (247, .lload 8, 2), (249, .lload 10, 2), (251, .lcmp, 1), (252, .ifCond .ge 7, 3), (255, .iconst 1, 1), (256, .goto 72, 3), (259, .iconst 0, 1), (260, .goto 68, 3), (263, .iload 6, 2), (265, .bipush 17, 2), (267, .if_icmp .ne 19, 3), (270, .lload 8, 2), (272, .lload 10, 2), (274, .lcmp, 1), (275, .ifCond .le 7, 3), (278, .iconst 1, 1), (279, .goto 49, 3), (282, .iconst 0, 1), (283, .goto 45, 3), (286, .iload 6, 2), (288, .bipush 19, 2), (290, .if_icmp .ne 23, 3), (293, .lload 8, 2), (295, .lload 10, 2), (297, .ladd, 1), (298, .ldc2_w 268, 3), (301, .lcmp, 1), (302, .ifCond .ne 7, 3), (305, .iconst 1, 1), (306, .goto 22, 3), (309, .iconst 0, 1), (310, .goto 18, 3), (313, .lload 8, 2), (315, .lload 10, 2), (317, .ladd, 1), (318, .lconst 0, 1), (319, .lcmp, 1), (320, .ifCond .le 7, 3), (323, .iconst 1, 1), (324, .goto 4, 3), (327, .iconst 0, 1), (328, .istore 12, 2), (330, .aload_n 0, 1), (331, .getfield 37, 3), (334, .iload_n 3, 1), (335, .iconst 1, 1), (336, .isub, 1), (337, .iload 6, 2), (339, .bipush 15, 2), (341, .if_icmp .ne 11, 3), (344, .lload 8, 2), (346, .lload 10, 2), (348, .ladd, 1), (349, .goto 28, 3), (352, .iload 6, 2), (354, .bipush 14, 2), (356, .if_icmp .ne 11, 3), (359, .lload 8, 2), (361, .lload 10, 2), (363, .lmul, 1), (364, .goto 13, 3), (367, .iload 12, 2), (369, .ifCond .eq 7, 3), (372, .lconst 1, 1), (373, .goto 4, 3), (376, .lconst 0, 1), (377, .lastore, 1), (378, .iinc 5 1, 3), (381, .goto (-361), 3), (384, .iload_n 3, 1), (385, .ifCond .eq 14, 3), (388, .aload_n 0, 1), (389, .getfield 37, 3), (392, .iconst 0, 1), (393, .laload, 1), (394, .lconst 1, 1), (395, .lcmp, 1), (396, .ifCond .ne 7, 3), (399, .iconst 1, 1), (400, .goto 4, 3), (403, .iconst 0, 1), (404, .ireturn, 1)]
-- 218: KnobEyeModel.card(IZ)I
def eg_i218 : eg_MI := (⟨"KnobEyeModel", "card", "(IZ)I"⟩, prog_15_method_60_code, 3, some .int, none, 12, 2)
def eg_c218 : List (Nat × Instr × Nat) := [(0, .aload_n 0, 1), (1, .iconst 0, 1), (2, .putfield 3, 3), (5, .aload_n 0, 1), (6, .iload_n 1, 1), (7, .invokestatic 288, 3), (10, .iconst 1, 1), (11, .invokevirtual 254, 3), (14, .ifCond .ne 25, 3), (17, .aload_n 0, 1), (18, .aload_n 0, 1), (19, .invokevirtual 88, 3), (22, .bipush 20, 2), (24, .if_icmp .ne 7, 3), (27, .iconst 1, 1), (28, .goto 4, 3), (31, .iconst 0, 1), (32, .iconst 2, 1), (33, .invokevirtual 254, 3), (36, .ifCond .eq 7, 3), (39, .iconst 0, 1), (40, .goto 9, 3), (43, .aload_n 0, 1), (44, .iload_n 1, 1), (45, .iload_n 2, 1), (46, .invokevirtual 291, 3), (49, .ireturn, 1)]
-- 219: KnobEyeModel.cards()I
def eg_i219 : eg_MI := (⟨"KnobEyeModel", "cards", "()I"⟩, prog_15_method_7_code, 1, some .int, none, 12, 0)
def eg_c219 : List (Nat × Instr × Nat) := [(0, .aload_n 0, 1), (1, .getfield 13, 3), (4, .iconst 3, 1), (5, .iaload, 1), (6, .ireturn, 1)]
-- 220: KnobEyeModel.puts(IZ)I
def eg_i220 : eg_MI := (⟨"KnobEyeModel", "puts", "(IZ)I"⟩, prog_15_method_59_code, 4, some .int, none, 12, 2)
def eg_c220 : List (Nat × Instr × Nat) := [(0, .aload_n 0, 1), (1, .invokevirtual 88, 3), (4, .istore_n 3, 1), (5, .aload_n 0, 1), (6, .getfield 13, 3), (9, .iconst 5, 1), (10, .iconst 2, 1), (11, .iload_n 3, 1), (12, .imul, 1), (13, .iadd, 1), (14, .iload_n 1, 1), (15, .iastore, 1), (16, .aload_n 0, 1), (17, .getfield 13, 3), (20, .iconst 5, 1), (21, .iconst 2, 1), (22, .iload_n 3, 1), (23, .imul, 1), (24, .iadd, 1), (25, .iconst 1, 1), (26, .iadd, 1), (27, .iload_n 2, 1), (28, .ifCond .eq 7, 3), (31, .iconst 1, 1), (32, .goto 4, 3), (35, .iconst 0, 1), (36, .iastore, 1), (37, .aload_n 0, 1), (38, .getfield 13, 3), (41, .iconst 3, 1), (42, .dup2, 1), (43, .iaload, 1), (44, .iconst 1, 1), (45, .iadd, 1), (46, .iastore, 1), (47, .iload_n 3, 1), (48, .ireturn, 1)]
-- 221: KnobEyeModel.made(II)I
def eg_i221 : eg_MI := (⟨"KnobEyeModel", "made", "(II)I"⟩, prog_15_method_61_code, 3, some .int, none, 12, 2)
def eg_c221 : List (Nat × Instr × Nat) := [(0, .aload_n 0, 1), (1, .iconst 0, 1), (2, .putfield 3, 3), (5, .aload_n 0, 1), (6, .aload_n 0, 1), (7, .iload_n 2, 1), (8, .invokevirtual 262, 3), (11, .iconst 1, 1), (12, .invokevirtual 254, 3), (15, .ifCond .ne 37, 3), (18, .aload_n 0, 1), (19, .iload_n 1, 1), (20, .invokestatic 288, 3), (23, .iconst 2, 1), (24, .invokevirtual 254, 3), (27, .ifCond .ne 25, 3), (30, .aload_n 0, 1), (31, .aload_n 0, 1), (32, .invokevirtual 88, 3), (35, .bipush 20, 2), (37, .if_icmp .ne 7, 3), (40, .iconst 1, 1), (41, .goto 4, 3), (44, .iconst 0, 1), (45, .iconst 3, 1), (46, .invokevirtual 254, 3), (49, .ifCond .eq 7, 3), (52, .iconst 0, 1), (53, .goto 14, 3), (56, .aload_n 0, 1), (57, .iload_n 1, 1), (58, .aload_n 0, 1), (59, .iload_n 2, 1), (60, .iload_n 1, 1), (61, .invokevirtual 285, 3), (64, .invokevirtual 291, 3), (67, .ireturn, 1)]
-- 222: KnobEyeModel.away()I
def eg_i222 : eg_MI := (⟨"KnobEyeModel", "away", "()I"⟩, prog_15_method_62_code, 1, some .int, none, 12, 0)
def eg_c222 : List (Nat × Instr × Nat) := [(0, .aload_n 0, 1), (1, .iconst 0, 1), (2, .putfield 3, 3), (5, .aload_n 0, 1), (6, .invokevirtual 88, 3), (9, .ifCond .ne 5, 3), (12, .iconst (-1), 1), (13, .ireturn, 1), (14, .aload_n 0, 1), (15, .getfield 13, 3), (18, .iconst 3, 1), (19, .dup2, 1), (20, .iaload, 1), (21, .iconst 1, 1), (22, .isub, 1), (23, .iastore, 1), (24, .aload_n 0, 1), (25, .invokevirtual 88, 3), (28, .ireturn, 1)]
-- 223: KnobEyeModel.eye()I
def eg_i223 : eg_MI := (⟨"KnobEyeModel", "eye", "()I"⟩, prog_15_method_63_code, 3, some .int, none, 12, 0)
def eg_c223 : List (Nat × Instr × Nat) := [(0, .aload_n 0, 1), (1, .iconst 0, 1), (2, .putfield 3, 3), (5, .aload_n 0, 1), (6, .aload_n 0, 1), (7, .getfield 13, 3), (10, .iconst 4, 1), (11, .iaload, 1), (12, .iconst 3, 1), (13, .if_icmp .ne 7, 3), (16, .iconst 1, 1), (17, .goto 4, 3), (20, .iconst 0, 1), (21, .iconst 1, 1), (22, .invokevirtual 254, 3), (25, .ifCond .eq 5, 3), (28, .iconst 0, 1), (29, .ireturn, 1), (30, .aload_n 0, 1), (31, .getfield 13, 3), (34, .iconst 4, 1), (35, .iaload, 1), (36, .istore_n 1, 1), (37, .aload_n 0, 1), (38, .getfield 13, 3), (41, .iconst 4, 1), (42, .dup2, 1), (43, .iaload, 1), (44, .iconst 1, 1), (45, .iadd, 1), (46, .iastore, 1), (47, .iconst 0, 1), (48, .istore_n 2, 1), (49, .iload_n 2, 1), (50, .bipush 23, 2), (52, .if_icmp .ge 24, 3), (55, .aload_n 0, 1), (56, .getfield 13, 3), (59, .bipush 45, 2), (61, .bipush 23, 2), (63, .iload_n 1, 1), (64, .imul, 1), (65, .iadd, 1), (66, .iload_n 2, 1), (67, .iadd, 1), (68, .iconst 0, 1), (69, .iastore, 1), (70, .iinc 2 1, 3), (73, .goto (-24), 3), (76, .iload_n 1, 1), (77, .ireturn, 1)]
-- 224: KnobEyeModel.wire(III)I
def eg_i224 : eg_MI := (⟨"KnobEyeModel", "wire", "(III)I"⟩, prog_15_method_64_code, 5, some .int, none, 12, 3)
def eg_c224 : List (Nat × Instr × Nat) := [(0, .aload_n 0, 1), (1, .iconst 0, 1), (2, .putfield 3, 3), (5, .aload_n 0, 1), (6, .aload_n 0, 1), (7, .iload_n 1, 1), (8, .invokevirtual 96, 3), (11, .iconst 1, 1), (12, .invokevirtual 254, 3), (15, .ifCond .ne 58, 3), (18, .aload_n 0, 1), (19, .iload_n 2, 1), (20, .iconst 1, 1), (21, .ldc 104, 2), (23, .invokestatic 92, 3), (26, .ifCond .eq 12, 3), (29, .iload_n 3, 1), (30, .iconst 0, 1), (31, .iconst 2, 1), (32, .invokestatic 92, 3), (35, .ifCond .ne 7, 3), (38, .iconst 1, 1), (39, .goto 4, 3), (42, .iconst 0, 1), (43, .iconst 2, 1), (44, .invokevirtual 254, 3), (47, .ifCond .ne 26, 3), (50, .aload_n 0, 1), (51, .aload_n 0, 1), (52, .iload_n 1, 1), (53, .invokevirtual 100, 3), (56, .bipush 6, 2), (58, .if_icmp .ne 7, 3), (61, .iconst 1, 1), (62, .goto 4, 3), (65, .iconst 0, 1), (66, .iconst 3, 1), (67, .invokevirtual 254, 3), (70, .ifCond .eq 5, 3), (73, .iconst 0, 1), (74, .ireturn, 1), (75, .aload_n 0, 1), (76, .iload_n 1, 1), (77, .invokevirtual 100, 3), (80, .istore 4, 2), (82, .aload_n 0, 1), (83, .getfield 13, 3), (86, .iload_n 1, 1), (87, .iload 4, 2), (89, .iconst 0, 1), (90, .invokestatic 84, 3), (93, .iload_n 2, 1), (94, .iastore, 1), (95, .aload_n 0, 1), (96, .getfield 13, 3), (99, .iload_n 1, 1), (100, .iload 4, 2), (102, .iconst 1, 1), (103, .invokestatic 84, 3), (106, .iload_n 3, 1), (107, .iastore, 1), (108, .aload_n 0, 1), (109, .getfield 13, 3), (112, .iload_n 1, 1), (113, .iload 4, 2), (115, .iconst 2, 1), (116, .invokestatic 84, 3), (119, .iconst 0, 1), (120, .iastore, 1), (121, .aload_n 0, 1), (122, .getfield 13, 3), (125, .bipush 45, 2), (127, .bipush 23, 2), (129, .iload_n 1, 1), (130, .imul, 1), (131, .iadd, 1), (132, .iconst 0, 1), (133, .iadd, 1), (134, .dup2, 1), (135, .iaload, 1), (136, .iconst 1, 1), (137, .iadd, 1), (138, .iastore, 1), (139, .iload 4, 2), (141, .ireturn, 1)]
-- 225: KnobEyeModel.wires(I)I
def eg_i225 : eg_MI := (⟨"KnobEyeModel", "wires", "(I)I"⟩, prog_15_method_11_code, 2, some .int, none, 12, 1)
def eg_c225 : List (Nat × Instr × Nat) := [(0, .aload_n 0, 1), (1, .iload_n 1, 1), (2, .iconst 0, 1), (3, .invokevirtual 80, 3), (6, .ireturn, 1)]
-- 226: KnobEyeModel.of(II)I
def eg_i226 : eg_MI := (⟨"KnobEyeModel", "of", "(II)I"⟩, prog_15_method_10_code, 3, some .int, none, 12, 2)
def eg_c226 : List (Nat × Instr × Nat) := [(0, .aload_n 0, 1), (1, .getfield 13, 3), (4, .bipush 45, 2), (6, .bipush 23, 2), (8, .iload_n 1, 1), (9, .imul, 1), (10, .iadd, 1), (11, .iload_n 2, 1), (12, .iadd, 1), (13, .iaload, 1), (14, .ireturn, 1)]
-- 227: KnobEyeModel.wireAt(III)I
def eg_i227 : eg_MI := (⟨"KnobEyeModel", "wireAt", "(III)I"⟩, prog_15_method_12_code, 3, some .int, none, 12, 3)
def eg_c227 : List (Nat × Instr × Nat) := [(0, .bipush 45, 2), (2, .bipush 23, 2), (4, .iload_n 0, 1), (5, .imul, 1), (6, .iadd, 1), (7, .iconst 1, 1), (8, .iadd, 1), (9, .iconst 3, 1), (10, .iload_n 1, 1), (11, .imul, 1), (12, .iadd, 1), (13, .iload_n 2, 1), (14, .iadd, 1), (15, .ireturn, 1)]
-- 228: KnobEyeModel.knob(III)Z
def eg_i228 : eg_MI := (⟨"KnobEyeModel", "knob", "(III)Z"⟩, prog_15_method_65_code, 6, some .boolean, none, 12, 3)
def eg_c228 : List (Nat × Instr × Nat) := [(0, .aload_n 0, 1), (1, .iconst 0, 1), (2, .putfield 3, 3), (5, .aload_n 0, 1), (6, .aload_n 0, 1), (7, .iload_n 1, 1), (8, .invokevirtual 96, 3), (11, .ifCond .ne 17, 3), (14, .iload_n 2, 1), (15, .iconst (-1), 1), (16, .if_icmp .eq 16, 3), (19, .aload_n 0, 1), (20, .iload_n 1, 1), (21, .iload_n 2, 1), (22, .invokevirtual 295, 3), (25, .ifCond .eq 7, 3), (28, .iconst 1, 1), (29, .goto 4, 3), (32, .iconst 0, 1), (33, .iconst 1, 1), (34, .invokevirtual 254, 3), (37, .ifCond .eq 5, 3), (40, .iconst 0, 1), (41, .ireturn, 1), (42, .iload_n 2, 1), (43, .iconst (-1), 1), (44, .if_icmp .ne 9, 3), (47, .sipush 2000, 3), (50, .goto 6, 3), (53, .sipush 200, 3), (56, .istore 4, 2), (58, .aload_n 0, 1), (59, .iload_n 3, 1), (60, .iload 4, 2), (62, .ineg, 1), (63, .iload 4, 2), (65, .invokestatic 92, 3), (68, .ifCond .ne 7, 3), (71, .iconst 1, 1), (72, .goto 4, 3), (75, .iconst 0, 1), (76, .iconst 2, 1), (77, .invokevirtual 254, 3), (80, .ifCond .eq 5, 3), (83, .iconst 0, 1), (84, .ireturn, 1), (85, .iload_n 2, 1), (86, .iconst (-1), 1), (87, .if_icmp .ne 16, 3), (90, .bipush 45, 2), (92, .bipush 23, 2), (94, .iload_n 1, 1), (95, .imul, 1), (96, .iadd, 1), (97, .bipush 19, 2), (99, .iadd, 1), (100, .goto 9, 3), (103, .iload_n 1, 1), (104, .iload_n 2, 1), (105, .iconst 2, 1), (106, .invokestatic 84, 3), (109, .istore 5, 2), (111, .aload_n 0, 1), (112, .getfield 13, 3), (115, .iload 5, 2), (117, .iaload, 1), (118, .iload_n 3, 1), (119, .if_icmp .ne 5, 3), (122, .iconst 0, 1), (123, .ireturn, 1), (124, .aload_n 0, 1), (125, .getfield 13, 3), (128, .iload 5, 2), (130, .iload_n 3, 1), (131, .iastore, 1), (132, .iconst 1, 1), (133, .ireturn, 1)]
-- 229: KnobEyeModel.noWire(II)Z
def eg_i229 : eg_MI := (⟨"KnobEyeModel", "noWire", "(II)Z"⟩, prog_15_method_17_code, 3, some .boolean, none, 12, 2)
def eg_c229 : List (Nat × Instr × Nat) := [(0, .aload_n 0, 1), (1, .iload_n 1, 1), (2, .invokevirtual 96, 3), (5, .ifCond .ne 18, 3), (8, .iload_n 2, 1), (9, .iconst 0, 1), (10, .aload_n 0, 1), (11, .iload_n 1, 1), (12, .invokevirtual 100, 3), (15, .iconst 1, 1), (16, .isub, 1), (17, .invokestatic 92, 3), (20, .ifCond .ne 7, 3), (23, .iconst 1, 1), (24, .goto 4, 3), (27, .iconst 0, 1), (28, .ireturn, 1)]
-- 230: KnobEyeModel.stuck(III)V
def eg_i230 : eg_MI := (⟨"KnobEyeModel", "stuck", "(III)V"⟩, prog_15_method_66_code, 4, none, none, 12, 3)
def eg_c230 : List (Nat × Instr × Nat) := [(0, .aload_n 0, 1), (1, .iconst 0, 1), (2, .putfield 3, 3), (5, .aload_n 0, 1), (6, .aload_n 0, 1), (7, .iload_n 1, 1), (8, .invokevirtual 96, 3), (11, .iconst 1, 1), (12, .invokevirtual 254, 3), (15, .ifCond .ne 36, 3), (18, .aload_n 0, 1), (19, .iload_n 2, 1), (20, .iconst 0, 1), (21, .bipush 127, 2), (23, .invokestatic 92, 3), (26, .ifCond .eq 13, 3), (29, .iload_n 3, 1), (30, .iconst 0, 1), (31, .bipush 50, 2), (33, .invokestatic 92, 3), (36, .ifCond .ne 7, 3), (39, .iconst 1, 1), (40, .goto 4, 3), (43, .iconst 0, 1), (44, .iconst 2, 1), (45, .invokevirtual 254, 3), (48, .ifCond .eq 4, 3), (51, .return_, 1), (52, .aload_n 0, 1), (53, .getfield 13, 3), (56, .bipush 45, 2), (58, .bipush 23, 2), (60, .iload_n 1, 1), (61, .imul, 1), (62, .iadd, 1), (63, .bipush 20, 2), (65, .iadd, 1), (66, .iload_n 2, 1), (67, .iastore, 1), (68, .aload_n 0, 1), (69, .getfield 13, 3), (72, .bipush 45, 2), (74, .bipush 23, 2), (76, .iload_n 1, 1), (77, .imul, 1), (78, .iadd, 1), (79, .bipush 21, 2), (81, .iadd, 1), (82, .iload_n 3, 1), (83, .iastore, 1), (84, .return_, 1)]
-- 231: KnobEyeModel.look(II)I
def eg_i231 : eg_MI := (⟨"KnobEyeModel", "look", "(II)I"⟩, prog_15_method_76_code, 3, some .int, none, 12, 2)
def eg_c231 : List (Nat × Instr × Nat) := [(0, .aload_n 0, 1), (1, .iconst 0, 1), (2, .putfield 3, 3), (5, .aload_n 0, 1), (6, .aload_n 0, 1), (7, .iload_n 1, 1), (8, .invokevirtual 96, 3), (11, .iconst 1, 1), (12, .invokevirtual 254, 3), (15, .ifCond .ne 26, 3), (18, .aload_n 0, 1), (19, .iload_n 2, 1), (20, .iconst 0, 1), (21, .bipush 12, 2), (23, .invokestatic 92, 3), (26, .ifCond .ne 7, 3), (29, .iconst 1, 1), (30, .goto 4, 3), (33, .iconst 0, 1), (34, .iconst 2, 1), (35, .invokevirtual 254, 3), (38, .ifCond .eq 5, 3), (41, .iconst 0, 1), (42, .ireturn, 1), (43, .iload_n 2, 1), (44, .bipush 6, 2), (46, .if_icmp .ge 23, 3), (49, .iload_n 2, 1), (50, .aload_n 0, 1), (51, .iload_n 1, 1), (52, .invokevirtual 100, 3), (55, .if_icmp .ge 12, 3), (58, .aload_n 0, 1), (59, .iload_n 1, 1), (60, .iload_n 2, 1), (61, .invokevirtual 301, 3), (64, .goto 4, 3), (67, .iconst 0, 1), (68, .ireturn, 1), (69, .iload_n 2, 1), (70, .tableswitch 82 6 11 #[38, 46, 52, 60, 68, 76], 38), (108, .aload_n 0, 1), (109, .iload_n 1, 1), (110, .bipush 19, 2), (112, .invokevirtual 80, 3), (115, .ireturn, 1), (116, .aload_n 0, 1), (117, .iload_n 1, 1), (118, .invokevirtual 100, 3), (121, .ireturn, 1), (122, .aload_n 0, 1), (123, .iload_n 1, 1), (124, .bipush 22, 2), (126, .invokevirtual 80, 3), (129, .ireturn, 1), (130, .aload_n 0, 1), (131, .iload_n 1, 1), (132, .bipush 20, 2), (134, .invokevirtual 80, 3), (137, .ireturn, 1), (138, .aload_n 0, 1), (139, .iload_n 1, 1), (140, .bipush 21, 2), (142, .invokevirtual 80, 3), (145, .ireturn, 1), (146, .aload_n 0, 1), (147, .iload_n 1, 1), (148, .invokevirtual 339, 3), (151, .ireturn, 1), (152, .aload_n 0, 1), (153, .iload_n 1, 1), (154, .invokevirtual 342, 3), (157, .ireturn, 1)]
-- 232: KnobEyeModel.knobOf(II)I
def eg_i232 : eg_MI := (⟨"KnobEyeModel", "knobOf", "(II)I"⟩, prog_15_method_13_code, 3, some .int, none, 12, 2)
def eg_c232 : List (Nat × Instr × Nat) := [(0, .aload_n 0, 1), (1, .getfield 13, 3), (4, .iload_n 1, 1), (5, .iload_n 2, 1), (6, .iconst 2, 1), (7, .invokestatic 84, 3), (10, .iaload, 1), (11, .ireturn, 1)]
-- 233: KnobEyeModel.rightMany(I)I
def eg_i233 : eg_MI := (⟨"KnobEyeModel", "rightMany", "(I)I"⟩, prog_15_method_73_code, 4, some .int, none, 12, 1)
def eg_c233 : List (Nat × Instr × Nat) := [(0, .iconst 0, 1), (1, .istore_n 2, 1), (2, .iconst 0, 1), (3, .istore_n 3, 1), (4, .iload_n 3, 1), (5, .aload_n 0, 1), (6, .invokevirtual 88, 3), (9, .if_icmp .ge 26, 3), (12, .iload_n 2, 1), (13, .aload_n 0, 1), (14, .iload_n 1, 1), (15, .iload_n 3, 1), (16, .invokevirtual 322, 3), (19, .ifCond .eq 7, 3), (22, .iconst 1, 1), (23, .goto 4, 3), (26, .iconst 0, 1), (27, .iadd, 1), (28, .istore_n 2, 1), (29, .iinc 3 1, 3), (32, .goto (-28), 3), (35, .iload_n 2, 1), (36, .ireturn, 1)]
-- 234: KnobEyeModel.isRightOn(II)Z
def eg_i234 : eg_MI := (⟨"KnobEyeModel", "isRightOn", "(II)Z"⟩, prog_15_method_72_code, 3, some .boolean, none, 12, 2)
def eg_c234 : List (Nat × Instr × Nat) := [(0, .aload_n 0, 1), (1, .iload_n 1, 1), (2, .aload_n 0, 1), (3, .iload_n 2, 1), (4, .invokevirtual 313, 3), (7, .invokevirtual 316, 3), (10, .aload_n 0, 1), (11, .iload_n 2, 1), (12, .invokevirtual 319, 3), (15, .if_icmp .ne 7, 3), (18, .iconst 1, 1), (19, .goto 4, 3), (22, .iconst 0, 1), (23, .ireturn, 1)]
-- 235: KnobEyeModel.litOf(I)I
def eg_i235 : eg_MI := (⟨"KnobEyeModel", "litOf", "(I)I"⟩, prog_15_method_8_code, 2, some .int, none, 12, 1)
def eg_c235 : List (Nat × Instr × Nat) := [(0, .aload_n 0, 1), (1, .getfield 13, 3), (4, .iconst 5, 1), (5, .iconst 2, 1), (6, .iload_n 1, 1), (7, .imul, 1), (8, .iadd, 1), (9, .iaload, 1), (10, .ireturn, 1)]
-- 236: KnobEyeModel.says(II)Z
def eg_i236 : eg_MI := (⟨"KnobEyeModel", "says", "(II)Z"⟩, prog_15_method_71_code, 3, some .boolean, none, 12, 2)
def eg_c236 : List (Nat × Instr × Nat) := [(0, .aload_n 0, 1), (1, .iload_n 1, 1), (2, .iload_n 2, 1), (3, .invokevirtual 310, 3), (6, .aload_n 0, 1), (7, .iload_n 1, 1), (8, .bipush 19, 2), (10, .invokevirtual 80, 3), (13, .if_icmp .le 7, 3), (16, .iconst 1, 1), (17, .goto 4, 3), (20, .iconst 0, 1), (21, .ireturn, 1)]
-- 237: KnobEyeModel.seen(II)I
def eg_i237 : eg_MI := (⟨"KnobEyeModel", "seen", "(II)I"⟩, prog_15_method_70_code, 3, some .int, none, 12, 2)
def eg_c237 : List (Nat × Instr × Nat) := [(0, .aload_n 0, 1), (1, .iload_n 1, 1), (2, .iload_n 2, 1), (3, .iconst 0, 1), (4, .invokevirtual 307, 3), (7, .ireturn, 1)]
-- 238: KnobEyeModel.seesWithout(III)I
def eg_i238 : eg_MI := (⟨"KnobEyeModel", "seesWithout", "(III)I"⟩, prog_15_method_69_code, 6, some .int, none, 12, 3)
def eg_c238 : List (Nat × Instr × Nat) := [(0, .iconst 0, 1), (1, .istore 4, 2), (3, .iconst 0, 1), (4, .istore 5, 2), (6, .iload 5, 2), (8, .aload_n 0, 1), (9, .iload_n 1, 1), (10, .invokevirtual 100, 3), (13, .if_icmp .ge 44, 3), (16, .iload 4, 2), (18, .iload_n 3, 1), (19, .iload 5, 2), (21, .ishr, 1), (22, .iconst 1, 1), (23, .iand, 1), (24, .iconst 1, 1), (25, .if_icmp .ne 7, 3), (28, .iconst 0, 1), (29, .goto 19, 3), (32, .aload_n 0, 1), (33, .iload_n 1, 1), (34, .iload 5, 2), (36, .invokevirtual 301, 3), (39, .aload_n 0, 1), (40, .iload_n 1, 1), (41, .iload 5, 2), (43, .iload_n 2, 1), (44, .invokevirtual 304, 3), (47, .imul, 1), (48, .iadd, 1), (49, .istore 4, 2), (51, .iinc 5 1, 3), (54, .goto (-48), 3), (57, .iload 4, 2), (59, .ireturn, 1)]
-- 239: KnobEyeModel.valueOf(III)I
def eg_i239 : eg_MI := (⟨"KnobEyeModel", "valueOf", "(III)I"⟩, prog_15_method_68_code, 4, some .int, none, 12, 3)
def eg_c239 : List (Nat × Instr × Nat) := [(0, .aload_n 0, 1), (1, .getfield 13, 3), (4, .iload_n 1, 1), (5, .iload_n 2, 1), (6, .iconst 0, 1), (7, .invokestatic 84, 3), (10, .iaload, 1), (11, .aload_n 0, 1), (12, .getfield 13, 3), (15, .iload_n 1, 1), (16, .iload_n 2, 1), (17, .iconst 1, 1), (18, .invokestatic 84, 3), (21, .iaload, 1), (22, .iload_n 3, 1), (23, .invokestatic 298, 3), (26, .ireturn, 1)]
-- 240: KnobEyeModel.valueBy(III)I
def eg_i240 : eg_MI := (⟨"KnobEyeModel", "valueBy", "(III)I"⟩, prog_15_method_67_code, 4, some .int, none, 12, 3)
def eg_c240 : List (Nat × Instr × Nat) := [(0, .iload_n 0, 1), (1, .iload_n 2, 1), (2, .iand, 1), (3, .invokestatic 275, 3), (6, .istore_n 3, 1), (7, .iload_n 1, 1), (8, .ifCond .ne 7, 3), (11, .iload_n 3, 1), (12, .goto 27, 3), (15, .iload_n 1, 1), (16, .iconst 1, 1), (17, .if_icmp .ne 19, 3), (20, .iload_n 0, 1), (21, .iload_n 2, 1), (22, .iconst (-1), 1), (23, .ixor, 1), (24, .iand, 1), (25, .ifCond .ne 7, 3), (28, .iconst 1, 1), (29, .goto 10, 3), (32, .iconst 0, 1), (33, .goto 6, 3), (36, .iload_n 3, 1), (37, .iconst 2, 1), (38, .irem, 1), (39, .ireturn, 1)]
-- 241: KnobEyeModel.isYes(I)Z
def eg_i241 : eg_MI := (⟨"KnobEyeModel", "isYes", "(I)Z"⟩, prog_15_method_9_code, 2, some .boolean, none, 12, 1)
def eg_c241 : List (Nat × Instr × Nat) := [(0, .aload_n 0, 1), (1, .getfield 13, 3), (4, .iconst 5, 1), (5, .iconst 2, 1), (6, .iload_n 1, 1), (7, .imul, 1), (8, .iadd, 1), (9, .iconst 1, 1), (10, .iadd, 1), (11, .iaload, 1), (12, .iconst 1, 1), (13, .if_icmp .ne 7, 3), (16, .iconst 1, 1), (17, .goto 4, 3), (20, .iconst 0, 1), (21, .ireturn, 1)]
-- 242: KnobEyeModel.nearOf(I)I
def eg_i242 : eg_MI := (⟨"KnobEyeModel", "nearOf", "(I)I"⟩, prog_15_method_74_code, 8, some .int, none, 12, 1)
def eg_c242 : List (Nat × Instr × Nat) := [(0, .iconst 0, 1), (1, .istore_n 2, 1), (2, .iconst 0, 1), (3, .istore_n 3, 1), (4, .iload_n 3, 1), (5, .aload_n 0, 1), (6, .iload_n 1, 1), (7, .invokevirtual 100, 3), (10, .if_icmp .ge 112, 3), (13, .aload_n 0, 1), (14, .getfield 13, 3), (17, .iload_n 1, 1), (18, .iload_n 3, 1), (19, .iconst 0, 1), (20, .invokestatic 84, 3), (23, .iaload, 1), (24, .istore 4, 2), (26, .iconst 0, 1), (27, .istore 5, 2), (29, .iconst 0, 1), (30, .istore 6, 2), (32, .iconst 0, 1), (33, .istore 7, 2), (35, .iload 7, 2), (37, .iconst 4, 1), (38, .if_icmp .ge 60, 3), (41, .iload 5, 2), (43, .iload 4, 2), (45, .iload 7, 2), (47, .ishr, 1), (48, .sipush 4369, 3), (51, .iand, 1), (52, .ifCond .le 10, 3), (55, .iconst 1, 1), (56, .iload 7, 2), (58, .ishl, 1), (59, .goto 4, 3), (62, .iconst 0, 1), (63, .ior, 1), (64, .istore 5, 2), (66, .iload 6, 2), (68, .iload 4, 2), (70, .iconst 4, 1), (71, .iload 7, 2), (73, .imul, 1), (74, .ishr, 1), (75, .bipush 15, 2), (77, .iand, 1), (78, .ifCond .le 10, 3), (81, .iconst 1, 1), (82, .iload 7, 2), (84, .ishl, 1), (85, .goto 4, 3), (88, .iconst 0, 1), (89, .ior, 1), (90, .istore 6, 2), (92, .iinc 7 1, 3), (95, .goto (-60), 3), (98, .iload_n 2, 1), (99, .iload 5, 2), (101, .invokestatic 325, 3), (104, .iload 6, 2), (106, .invokestatic 325, 3), (109, .invokestatic 328, 3), (112, .invokestatic 328, 3), (115, .istore_n 2, 1), (116, .iinc 3 1, 3), (119, .goto (-115), 3), (122, .iload_n 2, 1), (123, .ireturn, 1)]
-- 243: KnobEyeModel.spanOf(I)I
def eg_i243 : eg_MI := (⟨"KnobEyeModel", "spanOf", "(I)I"⟩, prog_15_method_75_code, 1, some .int, none, 12, 1)
def eg_c243 : List (Nat × Instr × Nat) := [(0, .bipush 32, 2), (2, .iload_n 0, 1), (3, .invokestatic 333, 3), (6, .isub, 1), (7, .iload_n 0, 1), (8, .invokestatic 336, 3), (11, .isub, 1), (12, .ireturn, 1)]
-- 244: KnobEyeModel.sees(II)I
def eg_i244 : eg_MI := (⟨"KnobEyeModel", "sees", "(II)I"⟩, prog_15_method_77_code, 3, some .int, none, 12, 2)
def eg_c244 : List (Nat × Instr × Nat) := [(0, .aload_n 0, 1), (1, .iconst 0, 1), (2, .putfield 3, 3), (5, .aload_n 0, 1), (6, .aload_n 0, 1), (7, .iload_n 1, 1), (8, .invokevirtual 96, 3), (11, .iconst 1, 1), (12, .invokevirtual 254, 3), (15, .ifCond .ne 15, 3), (18, .aload_n 0, 1), (19, .iload_n 2, 1), (20, .invokestatic 288, 3), (23, .iconst 2, 1), (24, .invokevirtual 254, 3), (27, .ifCond .eq 7, 3), (30, .iconst 0, 1), (31, .goto 9, 3), (34, .aload_n 0, 1), (35, .iload_n 1, 1), (36, .iload_n 2, 1), (37, .invokevirtual 310, 3), (40, .ireturn, 1)]
-- 245: KnobEyeModel.show(III)Z
def eg_i245 : eg_MI := (⟨"KnobEyeModel", "show", "(III)Z"⟩, prog_15_method_82_code, 4, some .boolean, none, 12, 3)
def eg_c245 : List (Nat × Instr × Nat) := [(0, .aload_n 0, 1), (1, .iconst 0, 1), (2, .putfield 3, 3), (5, .aload_n 0, 1), (6, .aload_n 0, 1), (7, .iload_n 1, 1), (8, .invokevirtual 96, 3), (11, .ifCond .ne 19, 3), (14, .aload_n 0, 1), (15, .iload_n 2, 1), (16, .invokevirtual 367, 3), (19, .ifCond .ne 11, 3), (22, .aload_n 0, 1), (23, .iload_n 3, 1), (24, .invokevirtual 370, 3), (27, .ifCond .eq 7, 3), (30, .iconst 1, 1), (31, .goto 4, 3), (34, .iconst 0, 1), (35, .iconst 1, 1), (36, .invokevirtual 254, 3), (39, .ifCond .ne 17, 3), (42, .aload_n 0, 1), (43, .iload_n 1, 1), (44, .iload_n 2, 1), (45, .iload_n 3, 1), (46, .invokevirtual 373, 3), (49, .ifCond .eq 7, 3), (52, .iconst 1, 1), (53, .goto 4, 3), (56, .iconst 0, 1), (57, .ireturn, 1)]
-- 246: KnobEyeModel.noCard(I)Z
def eg_i246 : eg_MI := (⟨"KnobEyeModel", "noCard", "(I)Z"⟩, prog_15_method_14_code, 2, some .boolean, none, 12, 1)
def eg_c246 : List (Nat × Instr × Nat) := [(0, .iload_n 1, 1), (1, .iconst 0, 1), (2, .aload_n 0, 1), (3, .invokevirtual 88, 3), (6, .iconst 1, 1), (7, .isub, 1), (8, .invokestatic 92, 3), (11, .ifCond .ne 7, 3), (14, .iconst 1, 1), (15, .goto 4, 3), (18, .iconst 0, 1), (19, .ireturn, 1)]
-- 247: KnobEyeModel.noTurner(I)Z
def eg_i247 : eg_MI := (⟨"KnobEyeModel", "noTurner", "(I)Z"⟩, prog_15_method_18_code, 2, some .boolean, none, 12, 1)
def eg_c247 : List (Nat × Instr × Nat) := [(0, .iload_n 1, 1), (1, .iconst 0, 1), (2, .aload_n 0, 1), (3, .getfield 13, 3), (6, .iconst 1, 1), (7, .iaload, 1), (8, .iconst 1, 1), (9, .isub, 1), (10, .invokestatic 92, 3), (13, .ifCond .ne 7, 3), (16, .iconst 1, 1), (17, .goto 4, 3), (20, .iconst 0, 1), (21, .ireturn, 1)]
-- 248: KnobEyeModel.shows(III)Z
def eg_i248 : eg_MI := (⟨"KnobEyeModel", "shows", "(III)Z"⟩, prog_15_method_81_code, 10, some .boolean, none, 12, 3)
def eg_c248 : List (Nat × Instr × Nat) := [(0, .bipush 45, 2), (2, .bipush 23, 2), (4, .iload_n 1, 1), (5, .imul, 1), (6, .iadd, 1), (7, .istore 4, 2), (9, .aload_n 0, 1), (10, .iload_n 2, 1), (11, .invokevirtual 313, 3), (14, .istore 5, 2), (16, .aload_n 0, 1), (17, .getfield 13, 3), (20, .iload 4, 2), (22, .bipush 22, 2), (24, .iadd, 1), (25, .dup2, 1), (26, .iaload, 1), (27, .iconst 1, 1), (28, .iadd, 1), (29, .iastore, 1), (30, .aload_n 0, 1), (31, .iload_n 1, 1), (32, .iload_n 2, 1), (33, .invokevirtual 322, 3), (36, .ifCond .ne 7, 3), (39, .iconst 1, 1), (40, .goto 4, 3), (43, .iconst 0, 1), (44, .istore 6, 2), (46, .aload_n 0, 1), (47, .getfield 33, 3), (50, .iconst 0, 1), (51, .iload 6, 2), (53, .bastore, 1), (54, .aload_n 0, 1), (55, .getfield 33, 3), (58, .iconst 1, 1), (59, .aload_n 0, 1), (60, .iload_n 2, 1), (61, .invokevirtual 319, 3), (64, .bastore, 1), (65, .aload_n 0, 1), (66, .getfield 30, 3), (69, .iconst 0, 1), (70, .aload_n 0, 1), (71, .iload_n 1, 1), (72, .iload 5, 2), (74, .invokevirtual 310, 3), (77, .aload_n 0, 1), (78, .iload_n 1, 1), (79, .bipush 19, 2), (81, .invokevirtual 80, 3), (84, .isub, 1), (85, .invokestatic 345, 3), (88, .iastore, 1), (89, .aload_n 0, 1), (90, .getfield 30, 3), (93, .iconst 3, 1), (94, .aload_n 0, 1), (95, .iload_n 1, 1), (96, .bipush 22, 2), (98, .invokevirtual 80, 3), (101, .iastore, 1), (102, .aload_n 0, 1), (103, .iload_n 2, 1), (104, .invokevirtual 319, 3), (107, .ifCond .eq 7, 3), (110, .iconst 1, 1), (111, .goto 4, 3), (114, .iconst (-1), 1), (115, .istore 7, 2), (117, .iconst 0, 1), (118, .istore 8, 2), (120, .iload 8, 2), (122, .aload_n 0, 1), (123, .iload_n 1, 1), (124, .invokevirtual 100, 3), (127, .if_icmp .ge 80, 3), (130, .aload_n 0, 1), (131, .iload_n 1, 1), (132, .iload 8, 2), (134, .invokevirtual 354, 3), (137, .ifCond .eq 6, 3), (140, .goto 61, 3), (143, .aload_n 0, 1), (144, .iload_n 1, 1), (145, .iload 8, 2), (147, .iload 5, 2), (149, .invokevirtual 304, 3), (152, .istore 9, 2), (154, .aload_n 0, 1), (155, .getfield 13, 3), (158, .iload_n 1, 1), (159, .iload 8, 2), (161, .iconst 2, 1), (162, .invokestatic 84, 3), (165, .aload_n 0, 1), (166, .iload_n 1, 1), (167, .iload 8, 2), (169, .invokevirtual 301, 3), (172, .iload 7, 2), (174, .iload 9, 2), (176, .imul, 1), (177, .aload_n 0, 1), (178, .iload_n 3, 1), (179, .iconst 0, 1), (180, .iload 9, 2), (182, .aload_n 0, 1), (183, .iload_n 1, 1), (184, .iload 8, 2), (186, .invokevirtual 301, 3), (189, .invokevirtual 357, 3), (192, .imul, 1), (193, .iadd, 1), (194, .sipush 200, 3), (197, .invokestatic 361, 3), (200, .iastore, 1), (201, .iinc 8 1, 3), (204, .goto (-84), 3), (207, .aload_n 0, 1), (208, .iload_n 1, 1), (209, .bipush 6, 2), (211, .invokevirtual 354, 3), (214, .ifCond .ne 44, 3), (217, .aload_n 0, 1), (218, .getfield 13, 3), (221, .iload 4, 2), (223, .bipush 19, 2), (225, .iadd, 1), (226, .aload_n 0, 1), (227, .iload_n 1, 1), (228, .bipush 19, 2), (230, .invokevirtual 80, 3), (233, .iload 7, 2), (235, .aload_n 0, 1), (236, .iload_n 3, 1), (237, .iconst 1, 1), (238, .iconst 0, 1), (239, .aload_n 0, 1), (240, .iload_n 1, 1), (241, .bipush 19, 2), (243, .invokevirtual 80, 3), (246, .invokevirtual 357, 3), (249, .imul, 1), (250, .isub, 1), (251, .sipush 2000, 3), (254, .invokestatic 361, 3), (257, .iastore, 1), (258, .aload_n 0, 1), (259, .iload_n 1, 1), (260, .bipush 21, 2), (262, .invokevirtual 80, 3), (265, .ifCond .le 75, 3), (268, .aload_n 0, 1), (269, .iload_n 1, 1), (270, .bipush 22, 2), (272, .invokevirtual 80, 3), (275, .aload_n 0, 1), (276, .iload_n 1, 1), (277, .bipush 21, 2), (279, .invokevirtual 80, 3), (282, .irem, 1), (283, .ifCond .ne 57, 3), (286, .iconst 0, 1), (287, .istore 8, 2), (289, .iload 8, 2), (291, .aload_n 0, 1), (292, .iload_n 1, 1), (293, .invokevirtual 100, 3), (296, .if_icmp .ge 44, 3), (299, .aload_n 0, 1), (300, .iload_n 1, 1), (301, .iload 8, 2), (303, .invokevirtual 354, 3), (306, .ifCond .ne 28, 3), (309, .aload_n 0, 1), (310, .getfield 13, 3), (313, .iload_n 1, 1), (314, .iload 8, 2), (316, .iconst 2, 1), (317, .invokestatic 84, 3), (320, .dup2, 1), (321, .iaload, 1), (322, .aload_n 0, 1), (323, .iload_n 1, 1), (324, .iload 8, 2), (326, .invokevirtual 301, 3), (329, .invokestatic 364, 3), (332, .isub, 1), (333, .iastore, 1), (334, .iinc 8 1, 3), (337, .goto (-48), 3), (340, .iload 6, 2), (342, .ireturn, 1)]
-- 249: KnobEyeModel.isStuck(II)Z
def eg_i249 : eg_MI := (⟨"KnobEyeModel", "isStuck", "(II)Z"⟩, prog_15_method_79_code, 3, some .boolean, none, 12, 2)
def eg_c249 : List (Nat × Instr × Nat) := [(0, .aload_n 0, 1), (1, .iload_n 1, 1), (2, .bipush 20, 2), (4, .invokevirtual 80, 3), (7, .iload_n 2, 1), (8, .ishr, 1), (9, .iconst 1, 1), (10, .iand, 1), (11, .iconst 1, 1), (12, .if_icmp .ne 7, 3), (15, .iconst 1, 1), (16, .goto 4, 3), (19, .iconst 0, 1), (20, .ireturn, 1)]
-- 250: KnobEyeModel.turnBy(IIII)I
def eg_i250 : eg_MI := (⟨"KnobEyeModel", "turnBy", "(IIII)I"⟩, prog_15_method_78_code, 7, some .int, none, 12, 4)
def eg_c250 : List (Nat × Instr × Nat) := [(0, .iconst 4, 1), (1, .iload_n 1, 1), (2, .iadd, 1), (3, .istore 5, 2), (5, .aload_n 0, 1), (6, .getfield 30, 3), (9, .iconst 1, 1), (10, .iload_n 3, 1), (11, .iastore, 1), (12, .aload_n 0, 1), (13, .getfield 30, 3), (16, .iconst 2, 1), (17, .iload 4, 2), (19, .invokestatic 345, 3), (22, .iastore, 1), (23, .iconst 0, 1), (24, .istore 6, 2), (26, .iload 6, 2), (28, .aload_n 0, 1), (29, .iload 5, 2), (31, .invokevirtual 348, 3), (34, .if_icmp .ge 51, 3), (37, .aload_n 0, 1), (38, .getfield 13, 3), (41, .iload 5, 2), (43, .iload 6, 2), (45, .invokestatic 230, 3), (48, .iaload, 1), (49, .iload_n 2, 1), (50, .if_icmp .ne 29, 3), (53, .aload_n 0, 1), (54, .iload 5, 2), (56, .iload 6, 2), (58, .invokevirtual 282, 3), (61, .ifCond .eq 18, 3), (64, .aload_n 0, 1), (65, .getfield 13, 3), (68, .iload 5, 2), (70, .iload 6, 2), (72, .invokestatic 230, 3), (75, .iconst 1, 1), (76, .iadd, 1), (77, .iaload, 1), (78, .ireturn, 1), (79, .iinc 6 1, 3), (82, .goto (-56), 3), (85, .iconst 0, 1), (86, .ireturn, 1)]
-- 251: KnobEyeModel.lines(I)I
def eg_i251 : eg_MI := (⟨"KnobEyeModel", "lines", "(I)I"⟩, prog_15_method_34_code, 2, some .int, none, 12, 1)
def eg_c251 : List (Nat × Instr × Nat) := [(0, .aload_n 0, 1), (1, .getfield 13, 3), (4, .iload_n 1, 1), (5, .invokestatic 143, 3), (8, .iaload, 1), (9, .ireturn, 1)]
-- 252: KnobEyeModel.held(II)I
def eg_i252 : eg_MI := (⟨"KnobEyeModel", "held", "(II)I"⟩, prog_15_method_80_code, 2, some .int, none, 12, 2)
def eg_c252 : List (Nat × Instr × Nat) := [(0, .iload_n 1, 1), (1, .ineg, 1), (2, .iload_n 1, 1), (3, .iload_n 0, 1), (4, .invokestatic 351, 3), (7, .invokestatic 328, 3), (10, .ireturn, 1)]
-- 253: KnobEyeModel.turned(III)I
def eg_i253 : eg_MI := (⟨"KnobEyeModel", "turned", "(III)I"⟩, prog_15_method_83_code, 7, some .int, none, 12, 3)
def eg_c253 : List (Nat × Instr × Nat) := [(0, .aload_n 0, 1), (1, .iconst 0, 1), (2, .putfield 3, 3), (5, .aload_n 0, 1), (6, .aload_n 0, 1), (7, .iload_n 1, 1), (8, .invokevirtual 96, 3), (11, .ifCond .ne 11, 3), (14, .aload_n 0, 1), (15, .iload_n 2, 1), (16, .invokevirtual 370, 3), (19, .ifCond .eq 7, 3), (22, .iconst 1, 1), (23, .goto 4, 3), (26, .iconst 0, 1), (27, .iconst 1, 1), (28, .invokevirtual 254, 3), (31, .ifCond .ne 26, 3), (34, .aload_n 0, 1), (35, .iload_n 3, 1), (36, .iconst 1, 1), (37, .bipush 60, 2), (39, .invokestatic 92, 3), (42, .ifCond .ne 7, 3), (45, .iconst 1, 1), (46, .goto 4, 3), (49, .iconst 0, 1), (50, .iconst 2, 1), (51, .invokevirtual 254, 3), (54, .ifCond .eq 5, 3), (57, .iconst 0, 1), (58, .ireturn, 1), (59, .iconst 1, 1), (60, .istore 4, 2), (62, .iload 4, 2), (64, .iload_n 3, 1), (65, .if_icmp .gt 52, 3), (68, .iconst 1, 1), (69, .istore 5, 2), (71, .iconst 0, 1), (72, .istore 6, 2), (74, .iload 6, 2), (76, .aload_n 0, 1), (77, .invokevirtual 88, 3), (80, .if_icmp .ge 23, 3), (83, .aload_n 0, 1), (84, .iload_n 1, 1), (85, .iload 6, 2), (87, .iload_n 2, 1), (88, .invokevirtual 373, 3), (91, .ifCond .eq 6, 3), (94, .iconst 0, 1), (95, .istore 5, 2), (97, .iinc 6 1, 3), (100, .goto (-26), 3), (103, .iload 5, 2), (105, .ifCond .eq 6, 3), (108, .iload 4, 2), (110, .ireturn, 1), (111, .iinc 4 1, 3), (114, .goto (-52), 3), (117, .iconst (-1), 1), (118, .ireturn, 1)]
-- 254: KnobEyeModel.can(II)Z
def eg_i254 : eg_MI := (⟨"KnobEyeModel", "can", "(II)Z"⟩, prog_15_method_89_code, 3, some .boolean, none, 12, 2)
def eg_c254 : List (Nat × Instr × Nat) := [(0, .aload_n 0, 1), (1, .iconst 0, 1), (2, .putfield 3, 3), (5, .aload_n 0, 1), (6, .iload_n 1, 1), (7, .iload_n 2, 1), (8, .iconst 3, 1), (9, .invokevirtual 405, 3), (12, .ifCond .eq 5, 3), (15, .iconst 0, 1), (16, .ireturn, 1), (17, .aload_n 0, 1), (18, .iload_n 1, 1), (19, .iload_n 2, 1), (20, .invokevirtual 408, 3), (23, .aload_n 0, 1), (24, .getfield 384, 3), (27, .ireturn, 1)]
-- 255: KnobEyeModel.noSearch(III)Z
def eg_i255 : eg_MI := (⟨"KnobEyeModel", "noSearch", "(III)Z"⟩, prog_15_method_88_code, 4, some .boolean, none, 12, 3)
def eg_c255 : List (Nat × Instr × Nat) := [(0, .aload_n 0, 1), (1, .aload_n 0, 1), (2, .iload_n 1, 1), (3, .invokevirtual 96, 3), (6, .iconst 1, 1), (7, .invokevirtual 254, 3), (10, .ifCond .ne 25, 3), (13, .aload_n 0, 1), (14, .iload_n 2, 1), (15, .iconst 1, 1), (16, .iload_n 3, 1), (17, .invokestatic 92, 3), (20, .ifCond .ne 7, 3), (23, .iconst 1, 1), (24, .goto 4, 3), (27, .iconst 0, 1), (28, .iconst 2, 1), (29, .invokevirtual 254, 3), (32, .ifCond .eq 7, 3), (35, .iconst 1, 1), (36, .goto 4, 3), (39, .iconst 0, 1), (40, .ireturn, 1)]
-- 256: KnobEyeModel.tries(II)V
def eg_i256 : eg_MI := (⟨"KnobEyeModel", "tries", "(II)V"⟩, prog_15_method_87_code, 6, none, none, 12, 2)
def eg_c256 : List (Nat × Instr × Nat) := [(0, .aload_n 0, 1), (1, .iload_n 1, 1), (2, .invokevirtual 399, 3), (5, .aload_n 0, 1), (6, .iconst 0, 1), (7, .putfield 384, 3), (10, .aload_n 0, 1), (11, .iconst 0, 1), (12, .putfield 381, 3), (15, .iconst 1, 1), (16, .istore_n 3, 1), (17, .iconst 0, 1), (18, .istore 4, 2), (20, .iload 4, 2), (22, .aload_n 0, 1), (23, .iload_n 1, 1), (24, .invokevirtual 100, 3), (27, .if_icmp .ge 17, 3), (30, .iload_n 3, 1), (31, .iconst 2, 1), (32, .iload_n 2, 1), (33, .imul, 1), (34, .iconst 1, 1), (35, .iadd, 1), (36, .imul, 1), (37, .istore_n 3, 1), (38, .iinc 4 1, 3), (41, .goto (-21), 3), (44, .iconst 0, 1), (45, .istore 4, 2), (47, .iload 4, 2), (49, .aload_n 0, 1), (50, .iload_n 1, 1), (51, .invokevirtual 100, 3), (54, .if_icmp .ge 18, 3), (57, .aload_n 0, 1), (58, .getfield 50, 3), (61, .iload 4, 2), (63, .iload_n 2, 1), (64, .ineg, 1), (65, .iastore, 1), (66, .iinc 4 1, 3), (69, .goto (-22), 3), (72, .iconst 0, 1), (73, .istore 4, 2), (75, .iload 4, 2), (77, .iload_n 3, 1), (78, .if_icmp .ge 70, 3), (81, .aload_n 0, 1), (82, .iload_n 1, 1), (83, .invokevirtual 402, 3), (86, .aload_n 0, 1), (87, .iload_n 1, 1), (88, .invokevirtual 100, 3), (91, .iconst 1, 1), (92, .isub, 1), (93, .istore 5, 2), (95, .iload 5, 2), (97, .ifCond .lt 29, 3), (100, .aload_n 0, 1), (101, .getfield 50, 3), (104, .iload 5, 2), (106, .iaload, 1), (107, .iload_n 2, 1), (108, .if_icmp .ne 18, 3), (111, .aload_n 0, 1), (112, .getfield 50, 3), (115, .iload 5, 2), (117, .iload_n 2, 1), (118, .ineg, 1), (119, .iastore, 1), (120, .iinc 5 (-1), 3), (123, .goto (-28), 3), (126, .iload 5, 2), (128, .ifCond .lt 14, 3), (131, .aload_n 0, 1), (132, .getfield 50, 3), (135, .iload 5, 2), (137, .dup2, 1), (138, .iaload, 1), (139, .iconst 1, 1), (140, .iadd, 1), (141, .iastore, 1), (142, .iinc 4 1, 3), (145, .goto (-70), 3), (148, .return_, 1)]
-- 257: KnobEyeModel.laysValues(I)V
def eg_i257 : eg_MI := (⟨"KnobEyeModel", "laysValues", "(I)V"⟩, prog_15_method_84_code, 4, none, none, 12, 1)
def eg_c257 : List (Nat × Instr × Nat) := [(0, .iconst 0, 1), (1, .istore_n 2, 1), (2, .iload_n 2, 1), (3, .aload_n 0, 1), (4, .invokevirtual 88, 3), (7, .if_icmp .ge 48, 3), (10, .iconst 0, 1), (11, .istore_n 3, 1), (12, .iload_n 3, 1), (13, .aload_n 0, 1), (14, .iload_n 1, 1), (15, .invokevirtual 100, 3), (18, .if_icmp .ge 31, 3), (21, .aload_n 0, 1), (22, .getfield 47, 3), (25, .bipush 6, 2), (27, .iload_n 2, 1), (28, .imul, 1), (29, .iload_n 3, 1), (30, .iadd, 1), (31, .aload_n 0, 1), (32, .iload_n 1, 1), (33, .iload_n 3, 1), (34, .aload_n 0, 1), (35, .iload_n 2, 1), (36, .invokevirtual 313, 3), (39, .invokevirtual 304, 3), (42, .iastore, 1), (43, .iinc 3 1, 3), (46, .goto (-34), 3), (49, .iinc 2 1, 3), (52, .goto (-50), 3), (55, .return_, 1)]
-- 258: KnobEyeModel.looksAt(I)V
def eg_i258 : eg_MI := (⟨"KnobEyeModel", "looksAt", "(I)V"⟩, prog_15_method_86_code, 8, none, none, 12, 1)
def eg_c258 : List (Nat × Instr × Nat) := [(0, .ldc_w 376, 3), (3, .istore_n 2, 1), (4, .ldc_w 377, 3), (7, .istore_n 3, 1), (8, .iconst 0, 1), (9, .istore 4, 2), (11, .ldc_w 376, 3), (14, .istore 5, 2), (16, .iload 4, 2), (18, .aload_n 0, 1), (19, .invokevirtual 88, 3), (22, .if_icmp .ge 61, 3), (25, .aload_n 0, 1), (26, .iload_n 1, 1), (27, .iload 4, 2), (29, .invokevirtual 378, 3), (32, .istore 6, 2), (34, .iload 5, 2), (36, .iload 6, 2), (38, .invokestatic 351, 3), (41, .istore 5, 2), (43, .aload_n 0, 1), (44, .iload 4, 2), (46, .invokevirtual 319, 3), (49, .ifCond .eq 13, 3), (52, .iload_n 2, 1), (53, .iload 6, 2), (55, .invokestatic 351, 3), (58, .istore_n 2, 1), (59, .goto 10, 3), (62, .iload_n 3, 1), (63, .iload 6, 2), (65, .invokestatic 328, 3), (68, .istore_n 3, 1), (69, .iload_n 2, 1), (70, .iload_n 3, 1), (71, .if_icmp .gt 6, 3), (74, .goto 9, 3), (77, .iinc 4 1, 3), (80, .goto (-64), 3), (83, .aload_n 0, 1), (84, .aload_n 0, 1), (85, .getfield 381, 3), (88, .iload 4, 2), (90, .invokestatic 328, 3), (93, .putfield 381, 3), (96, .iload 4, 2), (98, .aload_n 0, 1), (99, .invokevirtual 88, 3), (102, .if_icmp .ge 4, 3), (105, .return_, 1), (106, .iconst 0, 1), (107, .istore 6, 2), (109, .iconst 0, 1), (110, .istore 7, 2), (112, .iload 7, 2), (114, .aload_n 0, 1), (115, .iload_n 1, 1), (116, .invokevirtual 100, 3), (119, .if_icmp .ge 24, 3), (122, .iload 6, 2), (124, .aload_n 0, 1), (125, .getfield 50, 3), (128, .iload 7, 2), (130, .iaload, 1), (131, .invokestatic 345, 3), (134, .iadd, 1), (135, .istore 6, 2), (137, .iinc 7 1, 3), (140, .goto (-28), 3), (143, .aload_n 0, 1), (144, .getfield 384, 3), (147, .ifCond .eq 13, 3), (150, .iload 6, 2), (152, .aload_n 0, 1), (153, .getfield 387, 3), (156, .if_icmp .lt 4, 3), (159, .return_, 1), (160, .aload_n 0, 1), (161, .iconst 1, 1), (162, .putfield 384, 3), (165, .aload_n 0, 1), (166, .iload 6, 2), (168, .putfield 387, 3), (171, .iconst 0, 1), (172, .istore 7, 2), (174, .iload 7, 2), (176, .aload_n 0, 1), (177, .iload_n 1, 1), (178, .invokevirtual 100, 3), (181, .if_icmp .ge 23, 3), (184, .aload_n 0, 1), (185, .getfield 53, 3), (188, .iload 7, 2), (190, .aload_n 0, 1), (191, .getfield 50, 3), (194, .iload 7, 2), (196, .iaload, 1), (197, .iastore, 1), (198, .iinc 7 1, 3), (201, .goto (-27), 3), (204, .aload_n 0, 1), (205, .iload_n 2, 1), (206, .putfield 390, 3), (209, .aload_n 0, 1), (210, .iload_n 3, 1), (211, .putfield 393, 3), (214, .aload_n 0, 1), (215, .aload_n 0, 1), (216, .invokevirtual 88, 3), (219, .ifCond .ne 7, 3), (222, .iconst 0, 1), (223, .goto 18, 3), (226, .iload_n 3, 1), (227, .ldc_w 377, 3), (230, .if_icmp .le 7, 3), (233, .iload_n 3, 1), (234, .goto 7, 3), (237, .iload 5, 2), (239, .iconst 1, 1), (240, .isub, 1), (241, .putfield 396, 3), (244, .return_, 1)]
-- 259: KnobEyeModel.triedOn(II)I
def eg_i259 : eg_MI := (⟨"KnobEyeModel", "triedOn", "(II)I"⟩, prog_15_method_85_code, 5, some .int, none, 12, 2)
def eg_c259 : List (Nat × Instr × Nat) := [(0, .iconst 0, 1), (1, .istore_n 3, 1), (2, .iconst 0, 1), (3, .istore 4, 2), (5, .iload 4, 2), (7, .aload_n 0, 1), (8, .iload_n 1, 1), (9, .invokevirtual 100, 3), (12, .if_icmp .ge 32, 3), (15, .iload_n 3, 1), (16, .aload_n 0, 1), (17, .getfield 50, 3), (20, .iload 4, 2), (22, .iaload, 1), (23, .aload_n 0, 1), (24, .getfield 47, 3), (27, .bipush 6, 2), (29, .iload_n 2, 1), (30, .imul, 1), (31, .iload 4, 2), (33, .iadd, 1), (34, .iaload, 1), (35, .imul, 1), (36, .iadd, 1), (37, .istore_n 3, 1), (38, .iinc 4 1, 3), (41, .goto (-36), 3), (44, .iload_n 3, 1), (45, .ireturn, 1)]
-- 260: KnobEyeModel.found(III)I
def eg_i260 : eg_MI := (⟨"KnobEyeModel", "found", "(III)I"⟩, prog_15_method_90_code, 4, some .int, none, 12, 3)
def eg_c260 : List (Nat × Instr × Nat) := [(0, .aload_n 0, 1), (1, .iconst 0, 1), (2, .putfield 3, 3), (5, .aload_n 0, 1), (6, .iload_n 1, 1), (7, .iload_n 2, 1), (8, .iconst 3, 1), (9, .invokevirtual 405, 3), (12, .ifCond .ne 26, 3), (15, .aload_n 0, 1), (16, .iload_n 3, 1), (17, .iconst 0, 1), (18, .bipush 7, 2), (20, .invokestatic 92, 3), (23, .ifCond .ne 7, 3), (26, .iconst 1, 1), (27, .goto 4, 3), (30, .iconst 0, 1), (31, .iconst 3, 1), (32, .invokevirtual 254, 3), (35, .ifCond .eq 5, 3), (38, .iconst 0, 1), (39, .ireturn, 1), (40, .aload_n 0, 1), (41, .iload_n 1, 1), (42, .iload_n 2, 1), (43, .invokevirtual 408, 3), (46, .aload_n 0, 1), (47, .getfield 384, 3), (50, .ifCond .ne 7, 3), (53, .sipush 9999, 3), (56, .ireturn, 1), (57, .iload_n 3, 1), (58, .bipush 7, 2), (60, .if_icmp .ne 10, 3), (63, .aload_n 0, 1), (64, .getfield 387, 3), (67, .goto 35, 3), (70, .iload_n 3, 1), (71, .bipush 6, 2), (73, .if_icmp .ne 10, 3), (76, .aload_n 0, 1), (77, .getfield 396, 3), (80, .goto 22, 3), (83, .iload_n 3, 1), (84, .aload_n 0, 1), (85, .iload_n 1, 1), (86, .invokevirtual 100, 3), (89, .if_icmp .ge 12, 3), (92, .aload_n 0, 1), (93, .getfield 53, 3), (96, .iload_n 3, 1), (97, .iaload, 1), (98, .goto 4, 3), (101, .iconst 0, 1), (102, .ireturn, 1)]
-- 261: KnobEyeModel.bars(II)I
def eg_i261 : eg_MI := (⟨"KnobEyeModel", "bars", "(II)I"⟩, prog_15_method_91_code, 3, some .int, none, 12, 2)
def eg_c261 : List (Nat × Instr × Nat) := [(0, .aload_n 0, 1), (1, .iconst 0, 1), (2, .putfield 3, 3), (5, .aload_n 0, 1), (6, .iload_n 1, 1), (7, .iload_n 2, 1), (8, .iconst 3, 1), (9, .invokevirtual 405, 3), (12, .ifCond .eq 5, 3), (15, .iconst 0, 1), (16, .ireturn, 1), (17, .aload_n 0, 1), (18, .iload_n 1, 1), (19, .iload_n 2, 1), (20, .invokevirtual 408, 3), (23, .aload_n 0, 1), (24, .getfield 381, 3), (27, .aload_n 0, 1), (28, .invokevirtual 88, 3), (31, .if_icmp .ne 7, 3), (34, .iconst (-1), 1), (35, .goto 7, 3), (38, .aload_n 0, 1), (39, .getfield 381, 3), (42, .ireturn, 1)]
-- 262: KnobEyeModel.bound(II)I
def eg_i262 : eg_MI := (⟨"KnobEyeModel", "bound", "(II)I"⟩, prog_15_method_92_code, 15, some .int, none, 12, 2)
def eg_c262 : List (Nat × Instr × Nat) := [(0, .aload_n 0, 1), (1, .iconst 0, 1), (2, .putfield 3, 3), (5, .aload_n 0, 1), (6, .iload_n 1, 1), (7, .iload_n 2, 1), (8, .iconst 3, 1), (9, .invokevirtual 405, 3), (12, .ifCond .eq 5, 3), (15, .iconst 0, 1), (16, .ireturn, 1), (17, .aload_n 0, 1), (18, .iload_n 1, 1), (19, .iload_n 2, 1), (20, .invokevirtual 408, 3), (23, .aload_n 0, 1), (24, .getfield 384, 3), (27, .ifCond .eq 23, 3), (30, .aload_n 0, 1), (31, .getfield 390, 3), (34, .ldc_w 376, 3), (37, .if_icmp .eq 13, 3), (40, .aload_n 0, 1), (41, .getfield 393, 3), (44, .ldc_w 377, 3), (47, .if_icmp .ne 5, 3), (50, .iconst (-1), 1), (51, .ireturn, 1), (52, .aload_n 0, 1), (53, .getfield 390, 3), (56, .aload_n 0, 1), (57, .getfield 393, 3), (60, .isub, 1), (61, .i2l, 1), (62, .lstore_n 3, 1), (63, .aload_n 0, 1), (64, .getfield 390, 3), (67, .aload_n 0, 1), (68, .getfield 393, 3), (71, .iadd, 1), (72, .i2l, 1), (73, .lstore 5, 2), (75, .lconst 0, 1), (76, .lstore 7, 2), (78, .iconst 0, 1), (79, .istore 9, 2), (81, .iload 9, 2), (83, .aload_n 0, 1), (84, .iload_n 1, 1), (85, .invokevirtual 100, 3), (88, .if_icmp .ge 31, 3), (91, .lload 7, 2), (93, .aload_n 0, 1), (94, .getfield 53, 3), (97, .iload 9, 2), (99, .iaload, 1), (100, .i2l, 1), (101, .aload_n 0, 1), (102, .getfield 53, 3), (105, .iload 9, 2), (107, .iaload, 1), (108, .i2l, 1), (109, .lmul, 1), (110, .ladd, 1), (111, .lstore 7, 2), (113, .iinc 9 1, 3), (116, .goto (-35), 3), (119, .lconst 0, 1), (120, .lstore 9, 2), (122, .iconst 0, 1), (123, .istore 11, 2), (125, .iload 11, 2), (127, .aload_n 0, 1), (128, .invokevirtual 88, 3), (131, .if_icmp .ge 74, 3), (134, .lconst 1, 1), (135, .lstore 12, 2), (137, .iconst 0, 1), (138, .istore 14, 2), (140, .iload 14, 2), (142, .aload_n 0, 1), (143, .iload_n 1, 1), (144, .invokevirtual 100, 3), (147, .if_icmp .ge 43, 3), (150, .lload 12, 2), (152, .aload_n 0, 1), (153, .getfield 47, 3), (156, .bipush 6, 2), (158, .iload 11, 2), (160, .imul, 1), (161, .iload 14, 2), (163, .iadd, 1), (164, .iaload, 1), (165, .i2l, 1), (166, .aload_n 0, 1), (167, .getfield 47, 3), (170, .bipush 6, 2), (172, .iload 11, 2), (174, .imul, 1), (175, .iload 14, 2), (177, .iadd, 1), (178, .iaload, 1), (179, .i2l, 1), (180, .lmul, 1), (181, .ladd, 1), (182, .lstore 12, 2), (184, .iinc 14 1, 3), (187, .goto (-47), 3), (190, .lload 9, 2), (192, .lload 12, 2), (194, .invokestatic 411, 3), (197, .lstore 9, 2), (199, .iinc 11 1, 3), (202, .goto (-77), 3), (205, .lload 9, 2), (207, .ldc2_w 414, 3), (210, .lload 7, 2), (212, .lmul, 1), (213, .lload 5, 2), (215, .lload 5, 2), (217, .lmul, 1), (218, .ladd, 1), (219, .lmul, 1), (220, .lload_n 3, 1), (221, .lload_n 3, 1), (222, .lmul, 1), (223, .ldiv, 1), (224, .l2i, 1), (225, .ireturn, 1)]
-- 263: KnobEyeModel.blind(II)I
def eg_i263 : eg_MI := (⟨"KnobEyeModel", "blind", "(II)I"⟩, prog_15_method_98_code, 3, some .int, none, 12, 2)
def eg_c263 : List (Nat × Instr × Nat) := [(0, .aload_n 0, 1), (1, .iconst 0, 1), (2, .putfield 3, 3), (5, .aload_n 0, 1), (6, .aload_n 0, 1), (7, .iload_n 1, 1), (8, .invokevirtual 96, 3), (11, .ifCond .ne 16, 3), (14, .iload_n 2, 1), (15, .iconst (-1), 1), (16, .if_icmp .eq 15, 3), (19, .aload_n 0, 1), (20, .iload_n 2, 1), (21, .invokevirtual 262, 3), (24, .ifCond .eq 7, 3), (27, .iconst 1, 1), (28, .goto 4, 3), (31, .iconst 0, 1), (32, .iconst 1, 1), (33, .invokevirtual 254, 3), (36, .ifCond .eq 5, 3), (39, .iconst 0, 1), (40, .ireturn, 1), (41, .iload_n 2, 1), (42, .iconst (-1), 1), (43, .if_icmp .ne 11, 3), (46, .aload_n 0, 1), (47, .iload_n 1, 1), (48, .invokevirtual 433, 3), (51, .goto 9, 3), (54, .aload_n 0, 1), (55, .iload_n 1, 1), (56, .iload_n 2, 1), (57, .invokevirtual 436, 3), (60, .ireturn, 1)]
-- 264: KnobEyeModel.blindShown(I)I
def eg_i264 : eg_MI := (⟨"KnobEyeModel", "blindShown", "(I)I"⟩, prog_15_method_94_code, 4, some .int, none, 12, 1)
def eg_c264 : List (Nat × Instr × Nat) := [(0, .iconst 0, 1), (1, .istore_n 2, 1), (2, .iload_n 2, 1), (3, .aload_n 0, 1), (4, .invokevirtual 88, 3), (7, .if_icmp .ge 70, 3), (10, .iload_n 2, 1), (11, .iconst 1, 1), (12, .iadd, 1), (13, .istore_n 3, 1), (14, .iload_n 3, 1), (15, .aload_n 0, 1), (16, .invokevirtual 88, 3), (19, .if_icmp .ge 52, 3), (22, .aload_n 0, 1), (23, .iload_n 2, 1), (24, .invokevirtual 319, 3), (27, .aload_n 0, 1), (28, .iload_n 3, 1), (29, .invokevirtual 319, 3), (32, .if_icmp .eq 33, 3), (35, .aload_n 0, 1), (36, .iload_n 1, 1), (37, .aload_n 0, 1), (38, .iload_n 2, 1), (39, .invokevirtual 313, 3), (42, .invokevirtual 416, 3), (45, .aload_n 0, 1), (46, .iload_n 1, 1), (47, .aload_n 0, 1), (48, .iload_n 3, 1), (49, .invokevirtual 313, 3), (52, .invokevirtual 416, 3), (55, .if_icmp .ne 10, 3), (58, .bipush 20, 2), (60, .iload_n 2, 1), (61, .imul, 1), (62, .iload_n 3, 1), (63, .iadd, 1), (64, .ireturn, 1), (65, .iinc 3 1, 3), (68, .goto (-54), 3), (71, .iinc 2 1, 3), (74, .goto (-72), 3), (77, .iconst (-1), 1), (78, .ireturn, 1)]
-- 265: KnobEyeModel.codeOf(II)I
def eg_i265 : eg_MI := (⟨"KnobEyeModel", "codeOf", "(II)I"⟩, prog_15_method_93_code, 5, some .int, none, 12, 2)
def eg_c265 : List (Nat × Instr × Nat) := [(0, .iconst 0, 1), (1, .istore_n 3, 1), (2, .iconst 0, 1), (3, .istore 4, 2), (5, .iload 4, 2), (7, .aload_n 0, 1), (8, .iload_n 1, 1), (9, .invokevirtual 100, 3), (12, .if_icmp .ge 22, 3), (15, .iload_n 3, 1), (16, .iconst 5, 1), (17, .ishl, 1), (18, .aload_n 0, 1), (19, .iload_n 1, 1), (20, .iload 4, 2), (22, .iload_n 2, 1), (23, .invokevirtual 304, 3), (26, .ior, 1), (27, .istore_n 3, 1), (28, .iinc 4 1, 3), (31, .goto (-26), 3), (34, .iload_n 3, 1), (35, .ireturn, 1)]
-- 266: KnobEyeModel.blindBy(II)I
def eg_i266 : eg_MI := (⟨"KnobEyeModel", "blindBy", "(II)I"⟩, prog_15_method_97_code, 6, some .int, none, 12, 2)
def eg_c266 : List (Nat × Instr × Nat) := [(0, .aload_n 0, 1), (1, .iload_n 2, 1), (2, .invokevirtual 423, 3), (5, .iconst 0, 1), (6, .istore_n 3, 1), (7, .iload_n 3, 1), (8, .ldc 56, 2), (10, .if_icmp .ge 16, 3), (13, .aload_n 0, 1), (14, .getfield 60, 3), (17, .iload_n 3, 1), (18, .iload_n 3, 1), (19, .iastore, 1), (20, .iinc 3 1, 3), (23, .goto (-16), 3), (26, .aload_n 0, 1), (27, .iload_n 1, 1), (28, .aload_n 0, 1), (29, .getfield 60, 3), (32, .aload_n 0, 1), (33, .getfield 57, 3), (36, .iconst 0, 1), (37, .invokevirtual 426, 3), (40, .aload_n 0, 1), (41, .iload_n 1, 1), (42, .aload_n 0, 1), (43, .getfield 57, 3), (46, .aload_n 0, 1), (47, .getfield 60, 3), (50, .bipush 15, 2), (52, .invokevirtual 426, 3), (55, .iconst (-1), 1), (56, .istore_n 3, 1), (57, .iconst 0, 1), (58, .istore 4, 2), (60, .iconst 1, 1), (61, .istore 5, 2), (63, .iload 5, 2), (65, .ldc 56, 2), (67, .if_icmp .ge 93, 3), (70, .aload_n 0, 1), (71, .iload_n 1, 1), (72, .aload_n 0, 1), (73, .getfield 60, 3), (76, .iload 5, 2), (78, .iaload, 1), (79, .invokevirtual 416, 3), (82, .aload_n 0, 1), (83, .iload_n 1, 1), (84, .aload_n 0, 1), (85, .getfield 60, 3), (88, .iload 4, 2), (90, .iaload, 1), (91, .invokevirtual 416, 3), (94, .if_icmp .eq 10, 3), (97, .iload 5, 2), (99, .istore 4, 2), (101, .goto 53, 3), (104, .aload_n 0, 1), (105, .iload_n 2, 1), (106, .aload_n 0, 1), (107, .getfield 60, 3), (110, .iload 5, 2), (112, .iaload, 1), (113, .invokevirtual 430, 3), (116, .aload_n 0, 1), (117, .iload_n 2, 1), (118, .aload_n 0, 1), (119, .getfield 60, 3), (122, .iload 4, 2), (124, .iaload, 1), (125, .invokevirtual 430, 3), (128, .if_icmp .eq 26, 3), (131, .iload_n 3, 1), (132, .ifCond .lt 14, 3), (135, .aload_n 0, 1), (136, .getfield 60, 3), (139, .iload 4, 2), (141, .iaload, 1), (142, .iload_n 3, 1), (143, .if_icmp .ge 11, 3), (146, .aload_n 0, 1), (147, .getfield 60, 3), (150, .iload 4, 2), (152, .iaload, 1), (153, .istore_n 3, 1), (154, .iinc 5 1, 3), (157, .goto (-94), 3), (160, .iload_n 3, 1), (161, .ireturn, 1)]
-- 267: KnobEyeModel.knows(I)V
def eg_i267 : eg_MI := (⟨"KnobEyeModel", "knows", "(I)V"⟩, prog_15_method_56_code, 4, none, none, 12, 1)
def eg_c267 : List (Nat × Instr × Nat) := [(0, .aload_n 0, 1), (1, .getfield 41, 3), (4, .iload_n 1, 1), (5, .baload, 1), (6, .ifCond .eq 4, 3), (9, .return_, 1), (10, .aload_n 0, 1), (11, .getfield 41, 3), (14, .iload_n 1, 1), (15, .iconst 1, 1), (16, .bastore, 1), (17, .iload_n 1, 1), (18, .ldc 56, 2), (20, .imul, 1), (21, .bipush 64, 2), (23, .idiv, 1), (24, .istore_n 2, 1), (25, .iconst 0, 1), (26, .istore_n 3, 1), (27, .iload_n 3, 1), (28, .sipush 1024, 3), (31, .if_icmp .ge 18, 3), (34, .aload_n 0, 1), (35, .getfield 44, 3), (38, .iload_n 2, 1), (39, .iload_n 3, 1), (40, .iadd, 1), (41, .lconst 0, 1), (42, .lastore, 1), (43, .iinc 3 1, 3), (46, .goto (-19), 3), (49, .iconst 0, 1), (50, .istore_n 3, 1), (51, .iload_n 3, 1), (52, .ldc 56, 2), (54, .if_icmp .ge 38, 3), (57, .aload_n 0, 1), (58, .iload_n 1, 1), (59, .iload_n 3, 1), (60, .invokevirtual 285, 3), (63, .ifCond .eq 23, 3), (66, .aload_n 0, 1), (67, .getfield 44, 3), (70, .iload_n 2, 1), (71, .iload_n 3, 1), (72, .bipush 64, 2), (74, .idiv, 1), (75, .iadd, 1), (76, .dup2, 1), (77, .laload, 1), (78, .lconst 1, 1), (79, .iload_n 3, 1), (80, .bipush 64, 2), (82, .irem, 1), (83, .lshl, 1), (84, .lor, 1), (85, .lastore, 1), (86, .iinc 3 1, 3), (89, .goto (-38), 3), (92, .return_, 1)]
-- 268: KnobEyeModel.sorts(I[I[II)V
def eg_i268 : eg_MI := (⟨"KnobEyeModel", "sorts", "(I[I[II)V"⟩, prog_15_method_96_code, 7, none, none, 12, 4)
def eg_c268 : List (Nat × Instr × Nat) := [(0, .iconst 0, 1), (1, .istore 5, 2), (3, .iload 5, 2), (5, .ldc_w 419, 3), (8, .if_icmp .gt 17, 3), (11, .aload_n 0, 1), (12, .getfield 64, 3), (15, .iload 5, 2), (17, .iconst 0, 1), (18, .iastore, 1), (19, .iinc 5 1, 3), (22, .goto (-19), 3), (25, .iconst 0, 1), (26, .istore 5, 2), (28, .iload 5, 2), (30, .ldc 56, 2), (32, .if_icmp .ge 31, 3), (35, .aload_n 0, 1), (36, .getfield 64, 3), (39, .aload_n 0, 1), (40, .iload_n 1, 1), (41, .aload_n 2, 1), (42, .iload 5, 2), (44, .iaload, 1), (45, .iload 4, 2), (47, .invokevirtual 420, 3), (50, .iconst 1, 1), (51, .iadd, 1), (52, .dup2, 1), (53, .iaload, 1), (54, .iconst 1, 1), (55, .iadd, 1), (56, .iastore, 1), (57, .iinc 5 1, 3), (60, .goto (-32), 3), (63, .iconst 0, 1), (64, .istore 5, 2), (66, .iload 5, 2), (68, .ldc_w 419, 3), (71, .if_icmp .ge 28, 3), (74, .aload_n 0, 1), (75, .getfield 64, 3), (78, .iload 5, 2), (80, .iconst 1, 1), (81, .iadd, 1), (82, .dup2, 1), (83, .iaload, 1), (84, .aload_n 0, 1), (85, .getfield 64, 3), (88, .iload 5, 2), (90, .iaload, 1), (91, .iadd, 1), (92, .iastore, 1), (93, .iinc 5 1, 3), (96, .goto (-30), 3), (99, .iconst 0, 1), (100, .istore 5, 2), (102, .iload 5, 2), (104, .ldc 56, 2), (106, .if_icmp .ge 46, 3), (109, .aload_n 0, 1), (110, .iload_n 1, 1), (111, .aload_n 2, 1), (112, .iload 5, 2), (114, .iaload, 1), (115, .iload 4, 2), (117, .invokevirtual 420, 3), (120, .istore 6, 2), (122, .aload_n 3, 1), (123, .aload_n 0, 1), (124, .getfield 64, 3), (127, .iload 6, 2), (129, .iaload, 1), (130, .aload_n 2, 1), (131, .iload 5, 2), (133, .iaload, 1), (134, .iastore, 1), (135, .aload_n 0, 1), (136, .getfield 64, 3), (139, .iload 6, 2), (141, .dup2, 1), (142, .iaload, 1), (143, .iconst 1, 1), (144, .iadd, 1), (145, .iastore, 1), (146, .iinc 5 1, 3), (149, .goto (-47), 3), (152, .return_, 1)]
-- 269: KnobEyeModel.half(III)I
def eg_i269 : eg_MI := (⟨"KnobEyeModel", "half", "(III)I"⟩, prog_15_method_95_code, 4, some .int, none, 12, 3)
def eg_c269 : List (Nat × Instr × Nat) := [(0, .aload_n 0, 1), (1, .iload_n 1, 1), (2, .iload_n 2, 1), (3, .invokevirtual 416, 3), (6, .iload_n 3, 1), (7, .ishr, 1), (8, .sipush 32767, 3), (11, .iand, 1), (12, .ireturn, 1)]
-- 270: KnobEyeModel.isRight(II)Z
def eg_i270 : eg_MI := (⟨"KnobEyeModel", "isRight", "(II)Z"⟩, prog_15_method_57_code, 3, some .boolean, none, 12, 2)
def eg_c270 : List (Nat × Instr × Nat) := [(0, .aload_n 0, 1), (1, .getfield 44, 3), (4, .iload_n 1, 1), (5, .ldc 56, 2), (7, .imul, 1), (8, .bipush 64, 2), (10, .idiv, 1), (11, .iload_n 2, 1), (12, .bipush 64, 2), (14, .idiv, 1), (15, .iadd, 1), (16, .laload, 1), (17, .iload_n 2, 1), (18, .bipush 64, 2), (20, .irem, 1), (21, .lshr, 1), (22, .lconst 1, 1), (23, .land, 1), (24, .lconst 1, 1), (25, .lcmp, 1), (26, .ifCond .ne 7, 3), (29, .iconst 1, 1), (30, .goto 4, 3), (33, .iconst 0, 1), (34, .ireturn, 1)]
-- 271: KnobEyeModel.odds(III)I
def eg_i271 : eg_MI := (⟨"KnobEyeModel", "odds", "(III)I"⟩, prog_15_method_100_code, 4, some .int, none, 12, 3)
def eg_c271 : List (Nat × Instr × Nat) := [(0, .aload_n 0, 1), (1, .iconst 0, 1), (2, .putfield 3, 3), (5, .aload_n 0, 1), (6, .aload_n 0, 1), (7, .iload_n 1, 1), (8, .invokevirtual 96, 3), (11, .ifCond .ne 11, 3), (14, .aload_n 0, 1), (15, .iload_n 2, 1), (16, .invokevirtual 262, 3), (19, .ifCond .eq 7, 3), (22, .iconst 1, 1), (23, .goto 4, 3), (26, .iconst 0, 1), (27, .iconst 1, 1), (28, .invokevirtual 254, 3), (31, .ifCond .ne 26, 3), (34, .aload_n 0, 1), (35, .iload_n 3, 1), (36, .iconst (-1), 1), (37, .bipush 16, 2), (39, .invokestatic 92, 3), (42, .ifCond .ne 7, 3), (45, .iconst 1, 1), (46, .goto 4, 3), (49, .iconst 0, 1), (50, .iconst 2, 1), (51, .invokevirtual 254, 3), (54, .ifCond .eq 5, 3), (57, .iconst 0, 1), (58, .ireturn, 1), (59, .aload_n 0, 1), (60, .iload_n 1, 1), (61, .iload_n 2, 1), (62, .iload_n 3, 1), (63, .invokevirtual 439, 3), (66, .ireturn, 1)]
-- 272: KnobEyeModel.oddsOf(III)I
def eg_i272 : eg_MI := (⟨"KnobEyeModel", "oddsOf", "(III)I"⟩, prog_15_method_99_code, 6, some .int, none, 12, 3)
def eg_c272 : List (Nat × Instr × Nat) := [(0, .aload_n 0, 1), (1, .iload_n 2, 1), (2, .invokevirtual 423, 3), (5, .iconst 0, 1), (6, .istore 4, 2), (8, .iconst 0, 1), (9, .istore 5, 2), (11, .iload 5, 2), (13, .ldc 56, 2), (15, .if_icmp .ge 42, 3), (18, .iload_n 3, 1), (19, .ifCond .lt 12, 3), (22, .iload 5, 2), (24, .invokestatic 275, 3), (27, .iload_n 3, 1), (28, .if_icmp .ne 23, 3), (31, .aload_n 0, 1), (32, .iload_n 1, 1), (33, .iload 5, 2), (35, .invokevirtual 316, 3), (38, .aload_n 0, 1), (39, .iload_n 2, 1), (40, .iload 5, 2), (42, .invokevirtual 430, 3), (45, .if_icmp .ne 6, 3), (48, .iinc 4 1, 3), (51, .iinc 5 1, 3), (54, .goto (-43), 3), (57, .iload 4, 2), (59, .ireturn, 1)]
-- 273: KnobEyeModel.covered(II)I
def eg_i273 : eg_MI := (⟨"KnobEyeModel", "covered", "(II)I"⟩, prog_15_method_102_code, 3, some .int, none, 12, 2)
def eg_c273 : List (Nat × Instr × Nat) := [(0, .aload_n 0, 1), (1, .iconst 0, 1), (2, .putfield 3, 3), (5, .aload_n 0, 1), (6, .aload_n 0, 1), (7, .iload_n 1, 1), (8, .invokevirtual 96, 3), (11, .ifCond .ne 10, 3), (14, .iload_n 2, 1), (15, .invokestatic 442, 3), (18, .ifCond .eq 7, 3), (21, .iconst 1, 1), (22, .goto 4, 3), (25, .iconst 0, 1), (26, .iconst 1, 1), (27, .invokevirtual 254, 3), (30, .ifCond .eq 7, 3), (33, .iconst 0, 1), (34, .goto 9, 3), (37, .aload_n 0, 1), (38, .iload_n 1, 1), (39, .iload_n 2, 1), (40, .invokevirtual 445, 3), (43, .ireturn, 1)]
-- 274: KnobEyeModel.noCell(I)Z
def eg_i274 : eg_MI := (⟨"KnobEyeModel", "noCell", "(I)Z"⟩, prog_15_method_19_code, 1, some .boolean, none, 12, 1)
def eg_c274 : List (Nat × Instr × Nat) := [(0, .iload_n 0, 1), (1, .iconst 0, 1), (2, .bipush 15, 2), (4, .invokestatic 92, 3), (7, .ifCond .ne 7, 3), (10, .iconst 1, 1), (11, .goto 4, 3), (14, .iconst 0, 1), (15, .ireturn, 1)]
-- 275: KnobEyeModel.coveredBy(II)I
def eg_i275 : eg_MI := (⟨"KnobEyeModel", "coveredBy", "(II)I"⟩, prog_15_method_101_code, 5, some .int, none, 12, 2)
def eg_c275 : List (Nat × Instr × Nat) := [(0, .iconst 0, 1), (1, .istore_n 3, 1), (2, .iconst 0, 1), (3, .istore 4, 2), (5, .iload 4, 2), (7, .aload_n 0, 1), (8, .invokevirtual 88, 3), (11, .if_icmp .ge 48, 3), (14, .iload_n 3, 1), (15, .aload_n 0, 1), (16, .iload_n 1, 1), (17, .aload_n 0, 1), (18, .iload 4, 2), (20, .invokevirtual 313, 3), (23, .invokevirtual 316, 3), (26, .aload_n 0, 1), (27, .iload_n 1, 1), (28, .aload_n 0, 1), (29, .iload 4, 2), (31, .invokevirtual 313, 3), (34, .iconst 1, 1), (35, .iload_n 2, 1), (36, .ishl, 1), (37, .iconst (-1), 1), (38, .ixor, 1), (39, .iand, 1), (40, .invokevirtual 316, 3), (43, .if_icmp .eq 7, 3), (46, .iconst 1, 1), (47, .goto 4, 3), (50, .iconst 0, 1), (51, .iadd, 1), (52, .istore_n 3, 1), (53, .iinc 4 1, 3), (56, .goto (-51), 3), (59, .iload_n 3, 1), (60, .ireturn, 1)]
-- 276: KnobEyeModel.goesBy(I)I
def eg_i276 : eg_MI := (⟨"KnobEyeModel", "goesBy", "(I)I"⟩, prog_15_method_103_code, 6, some .int, none, 12, 1)
def eg_c276 : List (Nat × Instr × Nat) := [(0, .aload_n 0, 1), (1, .iconst 0, 1), (2, .putfield 3, 3), (5, .aload_n 0, 1), (6, .aload_n 0, 1), (7, .iload_n 1, 1), (8, .invokevirtual 96, 3), (11, .iconst 1, 1), (12, .invokevirtual 254, 3), (15, .ifCond .eq 5, 3), (18, .iconst 0, 1), (19, .ireturn, 1), (20, .iconst 0, 1), (21, .istore_n 2, 1), (22, .iconst (-1), 1), (23, .istore_n 3, 1), (24, .iconst 0, 1), (25, .istore 4, 2), (27, .iload 4, 2), (29, .bipush 16, 2), (31, .if_icmp .ge 33, 3), (34, .aload_n 0, 1), (35, .iload_n 1, 1), (36, .iload 4, 2), (38, .invokevirtual 445, 3), (41, .istore 5, 2), (43, .iload 5, 2), (45, .iload_n 2, 1), (46, .if_icmp .gt 6, 3), (49, .goto 9, 3), (52, .iload 5, 2), (54, .istore_n 2, 1), (55, .iload 4, 2), (57, .istore_n 3, 1), (58, .iinc 4 1, 3), (61, .goto (-34), 3), (64, .iload_n 3, 1), (65, .ireturn, 1)]
-- 277: KnobEyeModel.along(I)I
def eg_i277 : eg_MI := (⟨"KnobEyeModel", "along", "(I)I"⟩, prog_15_method_105_code, 2, some .int, none, 12, 1)
def eg_c277 : List (Nat × Instr × Nat) := [(0, .aload_n 0, 1), (1, .iconst 0, 1), (2, .putfield 3, 3), (5, .aload_n 0, 1), (6, .iload_n 1, 1), (7, .invokestatic 442, 3), (10, .iconst 1, 1), (11, .invokevirtual 254, 3), (14, .ifCond .eq 7, 3), (17, .iconst 0, 1), (18, .goto 8, 3), (21, .aload_n 0, 1), (22, .iload_n 1, 1), (23, .invokevirtual 448, 3), (26, .ireturn, 1)]
-- 278: KnobEyeModel.goesAlong(I)I
def eg_i278 : eg_MI := (⟨"KnobEyeModel", "goesAlong", "(I)I"⟩, prog_15_method_104_code, 4, some .int, none, 12, 1)
def eg_c278 : List (Nat × Instr × Nat) := [(0, .iconst 0, 1), (1, .istore_n 2, 1), (2, .iconst 0, 1), (3, .istore_n 3, 1), (4, .iload_n 3, 1), (5, .aload_n 0, 1), (6, .invokevirtual 88, 3), (9, .if_icmp .ge 43, 3), (12, .iload_n 2, 1), (13, .aload_n 0, 1), (14, .iload_n 3, 1), (15, .invokevirtual 313, 3), (18, .iload_n 1, 1), (19, .ishr, 1), (20, .iconst 1, 1), (21, .iand, 1), (22, .iconst 1, 1), (23, .if_icmp .ne 7, 3), (26, .iconst 1, 1), (27, .goto 4, 3), (30, .iconst 0, 1), (31, .aload_n 0, 1), (32, .iload_n 3, 1), (33, .invokevirtual 319, 3), (36, .if_icmp .ne 7, 3), (39, .iconst 1, 1), (40, .goto 4, 3), (43, .iconst 0, 1), (44, .iadd, 1), (45, .istore_n 2, 1), (46, .iinc 3 1, 3), (49, .goto (-45), 3), (52, .iload_n 2, 1), (53, .ireturn, 1)]
-- 279: KnobEyeModel.cloud()I
def eg_i279 : eg_MI := (⟨"KnobEyeModel", "cloud", "()I"⟩, prog_15_method_106_code, 3, some .int, none, 12, 0)
def eg_c279 : List (Nat × Instr × Nat) := [(0, .aload_n 0, 1), (1, .iconst 0, 1), (2, .putfield 3, 3), (5, .aload_n 0, 1), (6, .invokevirtual 88, 3), (9, .ifCond .ne 5, 3), (12, .iconst (-1), 1), (13, .ireturn, 1), (14, .iconst 0, 1), (15, .istore_n 1, 1), (16, .iconst 1, 1), (17, .istore_n 2, 1), (18, .iload_n 2, 1), (19, .bipush 16, 2), (21, .if_icmp .ge 24, 3), (24, .aload_n 0, 1), (25, .iload_n 2, 1), (26, .invokevirtual 448, 3), (29, .aload_n 0, 1), (30, .iload_n 1, 1), (31, .invokevirtual 448, 3), (34, .if_icmp .le 5, 3), (37, .iload_n 2, 1), (38, .istore_n 1, 1), (39, .iinc 2 1, 3), (42, .goto (-24), 3), (45, .iload_n 1, 1), (46, .ireturn, 1)]
-- 280: KnobEyeModel.mend(II)I
def eg_i280 : eg_MI := (⟨"KnobEyeModel", "mend", "(II)I"⟩, prog_15_method_107_code, 6, some .int, none, 12, 2)
def eg_c280 : List (Nat × Instr × Nat) := [(0, .aload_n 0, 1), (1, .iconst 0, 1), (2, .putfield 3, 3), (5, .aload_n 0, 1), (6, .iload_n 1, 1), (7, .invokestatic 442, 3), (10, .ifCond .ne 11, 3), (13, .aload_n 0, 1), (14, .iload_n 2, 1), (15, .invokevirtual 262, 3), (18, .ifCond .eq 7, 3), (21, .iconst 1, 1), (22, .goto 4, 3), (25, .iconst 0, 1), (26, .iconst 1, 1), (27, .invokevirtual 254, 3), (30, .ifCond .eq 5, 3), (33, .iconst 0, 1), (34, .ireturn, 1), (35, .iconst 2, 1), (36, .aload_n 0, 1), (37, .iload_n 1, 1), (38, .invokevirtual 448, 3), (41, .imul, 1), (42, .aload_n 0, 1), (43, .invokevirtual 88, 3), (46, .isub, 1), (47, .istore_n 3, 1), (48, .iload_n 3, 1), (49, .ifCond .gt 5, 3), (52, .iconst 0, 1), (53, .ireturn, 1), (54, .aload_n 0, 1), (55, .iload_n 2, 1), (56, .invokevirtual 423, 3), (59, .iconst 0, 1), (60, .istore 4, 2), (62, .iconst 0, 1), (63, .istore 5, 2), (65, .iload 5, 2), (67, .ldc 56, 2), (69, .if_icmp .ge 46, 3), (72, .iload 4, 2), (74, .ifCond .ne 41, 3), (77, .iload 5, 2), (79, .iload_n 1, 1), (80, .ishr, 1), (81, .iconst 1, 1), (82, .iand, 1), (83, .iconst 1, 1), (84, .if_icmp .ne 7, 3), (87, .iconst 1, 1), (88, .goto 4, 3), (91, .iconst 0, 1), (92, .aload_n 0, 1), (93, .iload_n 2, 1), (94, .iload 5, 2), (96, .invokevirtual 430, 3), (99, .if_icmp .eq 7, 3), (102, .iconst 1, 1), (103, .goto 4, 3), (106, .iconst 0, 1), (107, .istore 4, 2), (109, .iinc 5 1, 3), (112, .goto (-47), 3), (115, .iload 4, 2), (117, .ifCond .eq 7, 3), (120, .iload_n 3, 1), (121, .goto 4, 3), (124, .iconst (-1), 1), (125, .ireturn, 1)]
-- 281: KnobEyeModel.bear(I)I
def eg_i281 : eg_MI := (⟨"KnobEyeModel", "bear", "(I)I"⟩, prog_15_method_108_code, 5, some .int, none, 12, 1)
def eg_c281 : List (Nat × Instr × Nat) := [(0, .aload_n 0, 1), (1, .iconst 0, 1), (2, .putfield 3, 3), (5, .aload_n 0, 1), (6, .aload_n 0, 1), (7, .iload_n 1, 1), (8, .invokevirtual 96, 3), (11, .iconst 1, 1), (12, .invokevirtual 254, 3), (15, .ifCond .eq 5, 3), (18, .iconst 0, 1), (19, .ireturn, 1), (20, .aload_n 0, 1), (21, .iload_n 1, 1), (22, .invokevirtual 100, 3), (25, .iconst 1, 1), (26, .iadd, 1), (27, .istore_n 2, 1), (28, .iconst 0, 1), (29, .istore_n 3, 1), (30, .iload_n 3, 1), (31, .iconst 1, 1), (32, .aload_n 0, 1), (33, .iload_n 1, 1), (34, .invokevirtual 100, 3), (37, .ishl, 1), (38, .if_icmp .ge 72, 3), (41, .iconst 0, 1), (42, .istore 4, 2), (44, .iload 4, 2), (46, .aload_n 0, 1), (47, .invokevirtual 88, 3), (50, .if_icmp .ge 54, 3), (53, .aload_n 0, 1), (54, .iload_n 1, 1), (55, .aload_n 0, 1), (56, .iload 4, 2), (58, .invokevirtual 313, 3), (61, .iload_n 3, 1), (62, .invokevirtual 307, 3), (65, .aload_n 0, 1), (66, .iload_n 1, 1), (67, .bipush 19, 2), (69, .invokevirtual 80, 3), (72, .if_icmp .le 7, 3), (75, .iconst 1, 1), (76, .goto 4, 3), (79, .iconst 0, 1), (80, .aload_n 0, 1), (81, .iload 4, 2), (83, .invokevirtual 319, 3), (86, .if_icmp .eq 12, 3), (89, .iload_n 2, 1), (90, .iload_n 3, 1), (91, .invokestatic 275, 3), (94, .invokestatic 351, 3), (97, .istore_n 2, 1), (98, .iinc 4 1, 3), (101, .goto (-57), 3), (104, .iinc 3 1, 3), (107, .goto (-77), 3), (110, .iload_n 2, 1), (111, .iconst 1, 1), (112, .isub, 1), (113, .ireturn, 1)]
-- 282: KnobEyeModel.swapped(III)I
def eg_i282 : eg_MI := (⟨"KnobEyeModel", "swapped", "(III)I"⟩, prog_15_method_109_code, 8, some .int, none, 12, 3)
def eg_c282 : List (Nat × Instr × Nat) := [(0, .aload_n 0, 1), (1, .iconst 0, 1), (2, .putfield 3, 3), (5, .aload_n 0, 1), (6, .aload_n 0, 1), (7, .iload_n 1, 1), (8, .iload_n 2, 1), (9, .invokevirtual 295, 3), (12, .ifCond .ne 12, 3), (15, .aload_n 0, 1), (16, .iload_n 1, 1), (17, .iload_n 3, 1), (18, .invokevirtual 295, 3), (21, .ifCond .eq 7, 3), (24, .iconst 1, 1), (25, .goto 4, 3), (28, .iconst 0, 1), (29, .iconst 1, 1), (30, .invokevirtual 254, 3), (33, .ifCond .eq 5, 3), (36, .iconst 0, 1), (37, .ireturn, 1), (38, .iconst 0, 1), (39, .istore 4, 2), (41, .iconst 0, 1), (42, .istore 5, 2), (44, .iload 5, 2), (46, .aload_n 0, 1), (47, .invokevirtual 88, 3), (50, .if_icmp .ge 95, 3), (53, .aload_n 0, 1), (54, .iload 5, 2), (56, .invokevirtual 313, 3), (59, .istore 6, 2), (61, .aload_n 0, 1), (62, .iload_n 1, 1), (63, .iload 6, 2), (65, .invokevirtual 310, 3), (68, .aload_n 0, 1), (69, .iload_n 1, 1), (70, .iload_n 2, 1), (71, .invokevirtual 301, 3), (74, .aload_n 0, 1), (75, .iload_n 1, 1), (76, .iload_n 3, 1), (77, .invokevirtual 301, 3), (80, .isub, 1), (81, .aload_n 0, 1), (82, .iload_n 1, 1), (83, .iload_n 3, 1), (84, .iload 6, 2), (86, .invokevirtual 304, 3), (89, .aload_n 0, 1), (90, .iload_n 1, 1), (91, .iload_n 2, 1), (92, .iload 6, 2), (94, .invokevirtual 304, 3), (97, .isub, 1), (98, .imul, 1), (99, .iadd, 1), (100, .istore 7, 2), (102, .iload 4, 2), (104, .iload 7, 2), (106, .aload_n 0, 1), (107, .iload_n 1, 1), (108, .bipush 19, 2), (110, .invokevirtual 80, 3), (113, .if_icmp .le 7, 3), (116, .iconst 1, 1), (117, .goto 4, 3), (120, .iconst 0, 1), (121, .aload_n 0, 1), (122, .iload_n 1, 1), (123, .iload 6, 2), (125, .invokevirtual 316, 3), (128, .if_icmp .eq 7, 3), (131, .iconst 1, 1), (132, .goto 4, 3), (135, .iconst 0, 1), (136, .iadd, 1), (137, .istore 4, 2), (139, .iinc 5 1, 3), (142, .goto (-98), 3), (145, .iload 4, 2), (147, .ireturn, 1)]
-- 283: KnobEyeModel.soonest(II)I
def eg_i283 : eg_MI := (⟨"KnobEyeModel", "soonest", "(II)I"⟩, prog_15_method_112_code, 13, some .int, none, 12, 2)
def eg_c283 : List (Nat × Instr × Nat) := [(0, .aload_n 0, 1), (1, .iconst 0, 1), (2, .putfield 3, 3), (5, .aload_n 0, 1), (6, .aload_n 0, 1), (7, .iload_n 1, 1), (8, .invokevirtual 96, 3), (11, .ifCond .ne 11, 3), (14, .aload_n 0, 1), (15, .iload_n 2, 1), (16, .invokevirtual 370, 3), (19, .ifCond .eq 7, 3), (22, .iconst 1, 1), (23, .goto 4, 3), (26, .iconst 0, 1), (27, .iconst 1, 1), (28, .invokevirtual 254, 3), (31, .ifCond .eq 5, 3), (34, .iconst 0, 1), (35, .ireturn, 1), (36, .iconst 5, 1), (37, .aload_n 0, 1), (38, .invokevirtual 88, 3), (41, .invokestatic 351, 3), (44, .istore_n 3, 1), (45, .bipush 45, 2), (47, .bipush 23, 2), (49, .iload_n 1, 1), (50, .imul, 1), (51, .iadd, 1), (52, .istore 4, 2), (54, .iconst 0, 1), (55, .istore 5, 2), (57, .iload 5, 2), (59, .bipush 23, 2), (61, .if_icmp .ge 26, 3), (64, .aload_n 0, 1), (65, .getfield 70, 3), (68, .iload 5, 2), (70, .aload_n 0, 1), (71, .getfield 13, 3), (74, .iload 4, 2), (76, .iload 5, 2), (78, .iadd, 1), (79, .iaload, 1), (80, .iastore, 1), (81, .iinc 5 1, 3), (84, .goto (-27), 3), (87, .iconst 1, 1), (88, .istore 5, 2), (90, .iconst 2, 1), (91, .istore 6, 2), (93, .iload 6, 2), (95, .iload_n 3, 1), (96, .if_icmp .gt 16, 3), (99, .iload 5, 2), (101, .iload 6, 2), (103, .imul, 1), (104, .istore 5, 2), (106, .iinc 6 1, 3), (109, .goto (-16), 3), (112, .iconst (-1), 1), (113, .istore 6, 2), (115, .iconst 0, 1), (116, .istore 7, 2), (118, .iload 7, 2), (120, .iload 5, 2), (122, .if_icmp .ge 175, 3), (125, .iload 7, 2), (127, .istore 8, 2), (129, .iconst 1, 1), (130, .iload_n 3, 1), (131, .ishl, 1), (132, .iconst 1, 1), (133, .isub, 1), (134, .istore 9, 2), (136, .iconst 0, 1), (137, .istore 10, 2), (139, .iload 10, 2), (141, .iload_n 3, 1), (142, .if_icmp .ge 83, 3), (145, .iload 8, 2), (147, .iload_n 3, 1), (148, .iload 10, 2), (150, .isub, 1), (151, .irem, 1), (152, .istore 11, 2), (154, .iload 8, 2), (156, .iload_n 3, 1), (157, .iload 10, 2), (159, .isub, 1), (160, .idiv, 1), (161, .istore 8, 2), (163, .iconst 0, 1), (164, .istore 12, 2), (166, .iload 9, 2), (168, .iload 12, 2), (170, .ishr, 1), (171, .iconst 1, 1), (172, .iand, 1), (173, .ifCond .eq 8, 3), (176, .iload 11, 2), (178, .ifCond .le 21, 3), (181, .iload 11, 2), (183, .iload 9, 2), (185, .iload 12, 2), (187, .ishr, 1), (188, .iconst 1, 1), (189, .iand, 1), (190, .isub, 1), (191, .istore 11, 2), (193, .iinc 12 1, 3), (196, .goto (-30), 3), (199, .aload_n 0, 1), (200, .getfield 67, 3), (203, .iload 10, 2), (205, .iload 12, 2), (207, .iastore, 1), (208, .iload 9, 2), (210, .iconst 1, 1), (211, .iload 12, 2), (213, .ishl, 1), (214, .iconst (-1), 1), (215, .ixor, 1), (216, .iand, 1), (217, .istore 9, 2), (219, .iinc 10 1, 3), (222, .goto (-83), 3), (225, .aload_n 0, 1), (226, .iload_n 1, 1), (227, .iload_n 2, 1), (228, .iload_n 3, 1), (229, .invokevirtual 454, 3), (232, .istore 10, 2), (234, .iload 10, 2), (236, .ifCond .lt 22, 3), (239, .iload 6, 2), (241, .ifCond .ge 8, 3), (244, .iload 10, 2), (246, .goto 10, 3), (249, .iload 6, 2), (251, .iload 10, 2), (253, .invokestatic 351, 3), (256, .istore 6, 2), (258, .iconst 0, 1), (259, .istore 11, 2), (261, .iload 11, 2), (263, .bipush 23, 2), (265, .if_icmp .ge 26, 3), (268, .aload_n 0, 1), (269, .getfield 13, 3), (272, .iload 4, 2), (274, .iload 11, 2), (276, .iadd, 1), (277, .aload_n 0, 1), (278, .getfield 70, 3), (281, .iload 11, 2), (283, .iaload, 1), (284, .iastore, 1), (285, .iinc 11 1, 3), (288, .goto (-27), 3), (291, .iinc 7 1, 3), (294, .goto (-176), 3), (297, .iload 6, 2), (299, .ireturn, 1)]
-- 284: KnobEyeModel.soonBy(III)I
def eg_i284 : eg_MI := (⟨"KnobEyeModel", "soonBy", "(III)I"⟩, prog_15_method_111_code, 5, some .int, none, 12, 3)
def eg_c284 : List (Nat × Instr × Nat) := [(0, .iconst 0, 1), (1, .istore 4, 2), (3, .iload 4, 2), (5, .bipush 10, 2), (7, .iload_n 3, 1), (8, .imul, 1), (9, .if_icmp .ge 37, 3), (12, .aload_n 0, 1), (13, .iload_n 1, 1), (14, .iload_n 3, 1), (15, .invokevirtual 451, 3), (18, .ifCond .eq 6, 3), (21, .iload 4, 2), (23, .ireturn, 1), (24, .aload_n 0, 1), (25, .iload_n 1, 1), (26, .aload_n 0, 1), (27, .getfield 67, 3), (30, .iload 4, 2), (32, .iload_n 3, 1), (33, .irem, 1), (34, .iaload, 1), (35, .iload_n 2, 1), (36, .invokevirtual 373, 3), (39, .pop, 1), (40, .iinc 4 1, 3), (43, .goto (-40), 3), (46, .aload_n 0, 1), (47, .iload_n 1, 1), (48, .iload_n 3, 1), (49, .invokevirtual 451, 3), (52, .ifCond .eq 10, 3), (55, .bipush 10, 2), (57, .iload_n 3, 1), (58, .imul, 1), (59, .goto 4, 3), (62, .iconst (-1), 1), (63, .ireturn, 1)]
-- 285: KnobEyeModel.areRight(II)Z
def eg_i285 : eg_MI := (⟨"KnobEyeModel", "areRight", "(II)Z"⟩, prog_15_method_110_code, 5, some .boolean, none, 12, 2)
def eg_c285 : List (Nat × Instr × Nat) := [(0, .iconst 1, 1), (1, .istore_n 3, 1), (2, .iconst 0, 1), (3, .istore 4, 2), (5, .iload 4, 2), (7, .iload_n 2, 1), (8, .if_icmp .ge 29, 3), (11, .iload_n 3, 1), (12, .ifCond .eq 17, 3), (15, .aload_n 0, 1), (16, .iload_n 1, 1), (17, .iload 4, 2), (19, .invokevirtual 322, 3), (22, .ifCond .eq 7, 3), (25, .iconst 1, 1), (26, .goto 4, 3), (29, .iconst 0, 1), (30, .istore_n 3, 1), (31, .iinc 4 1, 3), (34, .goto (-29), 3), (37, .iload_n 3, 1), (38, .ireturn, 1)]
-- 286: KnobEyeModel.together(II)Z
def eg_i286 : eg_MI := (⟨"KnobEyeModel", "together", "(II)Z"⟩, prog_15_method_114_code, 3, some .boolean, none, 12, 2)
def eg_c286 : List (Nat × Instr × Nat) := [(0, .aload_n 0, 1), (1, .iconst 0, 1), (2, .putfield 3, 3), (5, .aload_n 0, 1), (6, .iload_n 1, 1), (7, .iconst 1, 1), (8, .iconst 3, 1), (9, .invokestatic 92, 3), (12, .ifCond .eq 10, 3), (15, .iload_n 2, 1), (16, .invokestatic 288, 3), (19, .ifCond .eq 7, 3), (22, .iconst 1, 1), (23, .goto 4, 3), (26, .iconst 0, 1), (27, .iconst 1, 1), (28, .invokevirtual 254, 3), (31, .ifCond .ne 16, 3), (34, .aload_n 0, 1), (35, .iload_n 1, 1), (36, .iload_n 2, 1), (37, .invokevirtual 457, 3), (40, .ifCond .eq 7, 3), (43, .iconst 1, 1), (44, .goto 4, 3), (47, .iconst 0, 1), (48, .ireturn, 1)]
-- 287: KnobEyeModel.saysBy(II)Z
def eg_i287 : eg_MI := (⟨"KnobEyeModel", "saysBy", "(II)Z"⟩, prog_15_method_113_code, 5, some .boolean, none, 12, 2)
def eg_c287 : List (Nat × Instr × Nat) := [(0, .iconst 0, 1), (1, .istore_n 3, 1), (2, .iconst 0, 1), (3, .istore 4, 2), (5, .iload 4, 2), (7, .aload_n 0, 1), (8, .getfield 13, 3), (11, .iconst 4, 1), (12, .iaload, 1), (13, .if_icmp .ge 27, 3), (16, .iload_n 3, 1), (17, .aload_n 0, 1), (18, .iload 4, 2), (20, .iload_n 2, 1), (21, .invokevirtual 316, 3), (24, .ifCond .eq 7, 3), (27, .iconst 1, 1), (28, .goto 4, 3), (31, .iconst 0, 1), (32, .iadd, 1), (33, .istore_n 3, 1), (34, .iinc 4 1, 3), (37, .goto (-32), 3), (40, .iload_n 3, 1), (41, .iload_n 1, 1), (42, .if_icmp .lt 7, 3), (45, .iconst 1, 1), (46, .goto 4, 3), (49, .iconst 0, 1), (50, .ireturn, 1)]
-- 288: KnobEyeModel.layer()I
def eg_i288 : eg_MI := (⟨"KnobEyeModel", "layer", "()I"⟩, prog_15_method_115_code, 4, some .int, none, 12, 0)
def eg_c288 : List (Nat × Instr × Nat) := [(0, .aload_n 0, 1), (1, .iconst 0, 1), (2, .putfield 3, 3), (5, .aload_n 0, 1), (6, .getfield 13, 3), (9, .iconst 4, 1), (10, .iaload, 1), (11, .ifCond .ne 5, 3), (14, .iconst (-1), 1), (15, .ireturn, 1), (16, .iconst 1, 1), (17, .istore_n 1, 1), (18, .iload_n 1, 1), (19, .iconst 3, 1), (20, .if_icmp .gt 61, 3), (23, .iconst 1, 1), (24, .istore_n 2, 1), (25, .iconst 0, 1), (26, .istore_n 3, 1), (27, .iload_n 3, 1), (28, .aload_n 0, 1), (29, .invokevirtual 88, 3), (32, .if_icmp .ge 37, 3), (35, .iload_n 2, 1), (36, .ifCond .eq 25, 3), (39, .aload_n 0, 1), (40, .iload_n 1, 1), (41, .aload_n 0, 1), (42, .iload_n 3, 1), (43, .invokevirtual 313, 3), (46, .invokevirtual 457, 3), (49, .aload_n 0, 1), (50, .iload_n 3, 1), (51, .invokevirtual 319, 3), (54, .if_icmp .ne 7, 3), (57, .iconst 1, 1), (58, .goto 4, 3), (61, .iconst 0, 1), (62, .istore_n 2, 1), (63, .iinc 3 1, 3), (66, .goto (-39), 3), (69, .iload_n 2, 1), (70, .ifCond .eq 5, 3), (73, .iload_n 1, 1), (74, .ireturn, 1), (75, .iinc 1 1, 3), (78, .goto (-60), 3), (81, .iconst (-1), 1), (82, .ireturn, 1)]
-- 289: KnobEyeModel.read(IIZ)I
def eg_i289 : eg_MI := (⟨"KnobEyeModel", "read", "(IIZ)I"⟩, prog_15_method_118_code, 8, some .int, none, 12, 3)
def eg_c289 : List (Nat × Instr × Nat) := [(0, .aload_n 0, 1), (1, .iconst 0, 1), (2, .putfield 3, 3), (5, .aload_n 0, 1), (6, .iload_n 1, 1), (7, .iload_n 2, 1), (8, .iconst 2, 1), (9, .invokevirtual 405, 3), (12, .ifCond .eq 5, 3), (15, .iconst 0, 1), (16, .ireturn, 1), (17, .aload_n 0, 1), (18, .iload_n 1, 1), (19, .invokevirtual 399, 3), (22, .aload_n 0, 1), (23, .iconst 0, 1), (24, .putfield 460, 3), (27, .iconst 0, 1), (28, .istore 4, 2), (30, .iload 4, 2), (32, .bipush 31, 2), (34, .if_icmp .ge 17, 3), (37, .aload_n 0, 1), (38, .getfield 73, 3), (41, .iload 4, 2), (43, .iconst 0, 1), (44, .iastore, 1), (45, .iinc 4 1, 3), (48, .goto (-18), 3), (51, .iconst 1, 1), (52, .istore 4, 2), (54, .iconst 0, 1), (55, .istore 5, 2), (57, .iload 5, 2), (59, .aload_n 0, 1), (60, .iload_n 1, 1), (61, .invokevirtual 100, 3), (64, .if_icmp .ge 19, 3), (67, .iload 4, 2), (69, .iconst 2, 1), (70, .iload_n 2, 1), (71, .imul, 1), (72, .iconst 1, 1), (73, .iadd, 1), (74, .imul, 1), (75, .istore 4, 2), (77, .iinc 5 1, 3), (80, .goto (-23), 3), (83, .iconst 0, 1), (84, .istore 5, 2), (86, .iload 5, 2), (88, .iload 4, 2), (90, .if_icmp .ge 64, 3), (93, .iload 5, 2), (95, .istore 6, 2), (97, .iconst 0, 1), (98, .istore 7, 2), (100, .iload 7, 2), (102, .aload_n 0, 1), (103, .iload_n 1, 1), (104, .invokevirtual 100, 3), (107, .if_icmp .ge 36, 3), (110, .aload_n 0, 1), (111, .getfield 50, 3), (114, .iload 7, 2), (116, .iload 6, 2), (118, .iconst 2, 1), (119, .iload_n 2, 1), (120, .imul, 1), (121, .iconst 1, 1), (122, .iadd, 1), (123, .irem, 1), (124, .iload_n 2, 1), (125, .isub, 1), (126, .iastore, 1), (127, .iload 6, 2), (129, .iconst 2, 1), (130, .iload_n 2, 1), (131, .imul, 1), (132, .iconst 1, 1), (133, .iadd, 1), (134, .idiv, 1), (135, .istore 6, 2), (137, .iinc 7 1, 3), (140, .goto (-40), 3), (143, .aload_n 0, 1), (144, .iload_n 1, 1), (145, .invokevirtual 466, 3), (148, .iinc 5 1, 3), (151, .goto (-65), 3), (154, .iload_n 3, 1), (155, .ifCond .ne 8, 3), (158, .aload_n 0, 1), (159, .getfield 460, 3), (162, .ireturn, 1), (163, .aload_n 0, 1), (164, .getfield 460, 3), (167, .ifCond .ne 5, 3), (170, .iconst (-1), 1), (171, .ireturn, 1), (172, .iconst 0, 1), (173, .istore 5, 2), (175, .iconst 1, 1), (176, .istore 6, 2), (178, .iload 6, 2), (180, .bipush 31, 2), (182, .if_icmp .ge 60, 3), (185, .aload_n 0, 1), (186, .getfield 73, 3), (189, .iload 6, 2), (191, .iaload, 1), (192, .aload_n 0, 1), (193, .getfield 460, 3), (196, .aload_n 0, 1), (197, .getfield 73, 3), (200, .iload 6, 2), (202, .iaload, 1), (203, .isub, 1), (204, .invokestatic 328, 3), (207, .aload_n 0, 1), (208, .getfield 73, 3), (211, .iload 5, 2), (213, .iaload, 1), (214, .aload_n 0, 1), (215, .getfield 460, 3), (218, .aload_n 0, 1), (219, .getfield 73, 3), (222, .iload 5, 2), (224, .iaload, 1), (225, .isub, 1), (226, .invokestatic 328, 3), (229, .if_icmp .ge 7, 3), (232, .iload 6, 2), (234, .istore 5, 2), (236, .iinc 6 1, 3), (239, .goto (-61), 3), (242, .iload 5, 2), (244, .bipush 16, 2), (246, .if_icmp .ge 11, 3), (249, .bipush 16, 2), (251, .iload 5, 2), (253, .iadd, 1), (254, .goto 11, 3), (257, .bipush 32, 2), (259, .iload 5, 2), (261, .iadd, 1), (262, .bipush 16, 2), (264, .isub, 1), (265, .ireturn, 1)]
-- 290: KnobEyeModel.readsTried(I)V
def eg_i290 : eg_MI := (⟨"KnobEyeModel", "readsTried", "(I)V"⟩, prog_15_method_117_code, 7, none, none, 12, 1)
def eg_c290 : List (Nat × Instr × Nat) := [(0, .bipush (-9), 2), (2, .istore_n 2, 1), (3, .bipush 9, 2), (5, .istore_n 3, 1), (6, .iconst 0, 1), (7, .istore 4, 2), (9, .iload 4, 2), (11, .aload_n 0, 1), (12, .invokevirtual 88, 3), (15, .if_icmp .ge 46, 3), (18, .aload_n 0, 1), (19, .iload_n 1, 1), (20, .iload 4, 2), (22, .invokevirtual 378, 3), (25, .istore 5, 2), (27, .aload_n 0, 1), (28, .iload 4, 2), (30, .invokevirtual 319, 3), (33, .ifCond .eq 15, 3), (36, .iload_n 3, 1), (37, .iload 5, 2), (39, .iconst 1, 1), (40, .isub, 1), (41, .invokestatic 351, 3), (44, .istore_n 3, 1), (45, .goto 10, 3), (48, .iload_n 2, 1), (49, .iload 5, 2), (51, .invokestatic 328, 3), (54, .istore_n 2, 1), (55, .iinc 4 1, 3), (58, .goto (-49), 3), (61, .iload_n 3, 1), (62, .iload_n 2, 1), (63, .if_icmp .ge 4, 3), (66, .return_, 1), (67, .aload_n 0, 1), (68, .dup, 1), (69, .getfield 460, 3), (72, .iload_n 3, 1), (73, .iload_n 2, 1), (74, .isub, 1), (75, .iconst 1, 1), (76, .iadd, 1), (77, .iadd, 1), (78, .putfield 460, 3), (81, .iconst 0, 1), (82, .istore 4, 2), (84, .iload 4, 2), (86, .bipush 31, 2), (88, .if_icmp .ge 82, 3), (91, .iconst 0, 1), (92, .istore 5, 2), (94, .iconst 0, 1), (95, .istore 6, 2), (97, .iload 6, 2), (99, .aload_n 0, 1), (100, .iload_n 1, 1), (101, .invokevirtual 100, 3), (104, .if_icmp .ge 34, 3), (107, .iload 5, 2), (109, .aload_n 0, 1), (110, .getfield 50, 3), (113, .iload 6, 2), (115, .iaload, 1), (116, .aload_n 0, 1), (117, .iload_n 1, 1), (118, .iload 6, 2), (120, .iload 4, 2), (122, .invokestatic 463, 3), (125, .invokevirtual 304, 3), (128, .imul, 1), (129, .iadd, 1), (130, .istore 5, 2), (132, .iinc 6 1, 3), (135, .goto (-38), 3), (138, .aload_n 0, 1), (139, .getfield 73, 3), (142, .iload 4, 2), (144, .dup2, 1), (145, .iaload, 1), (146, .iconst 0, 1), (147, .iload_n 3, 1), (148, .iload 5, 2), (150, .iconst 1, 1), (151, .isub, 1), (152, .invokestatic 351, 3), (155, .iload_n 2, 1), (156, .isub, 1), (157, .iconst 1, 1), (158, .iadd, 1), (159, .invokestatic 328, 3), (162, .iadd, 1), (163, .iastore, 1), (164, .iinc 4 1, 3), (167, .goto (-83), 3), (170, .return_, 1)]
-- 291: KnobEyeModel.askedCard(I)I
def eg_i291 : eg_MI := (⟨"KnobEyeModel", "askedCard", "(I)I"⟩, prog_15_method_116_code, 1, some .int, none, 12, 1)
def eg_c291 : List (Nat × Instr × Nat) := [(0, .iload_n 0, 1), (1, .bipush 16, 2), (3, .if_icmp .ge 9, 3), (6, .iconst 1, 1), (7, .iload_n 0, 1), (8, .ishl, 1), (9, .goto 9, 3), (12, .iconst 3, 1), (13, .iload_n 0, 1), (14, .bipush 16, 2), (16, .isub, 1), (17, .ishl, 1), (18, .ireturn, 1)]
-- 292: KnobEyeModel.holds(I)Z
def eg_i292 : eg_MI := (⟨"KnobEyeModel", "holds", "(I)Z"⟩, prog_15_method_120_code, 2, some .boolean, none, 12, 1)
def eg_c292 : List (Nat × Instr × Nat) := [(0, .aload_n 0, 1), (1, .iconst 0, 1), (2, .putfield 3, 3), (5, .aload_n 0, 1), (6, .iload_n 1, 1), (7, .iconst 0, 1), (8, .aload_n 0, 1), (9, .getfield 13, 3), (12, .iconst 2, 1), (13, .iaload, 1), (14, .iconst 1, 1), (15, .isub, 1), (16, .invokestatic 92, 3), (19, .ifCond .ne 7, 3), (22, .iconst 1, 1), (23, .goto 4, 3), (26, .iconst 0, 1), (27, .iconst 1, 1), (28, .invokevirtual 254, 3), (31, .ifCond .ne 15, 3), (34, .aload_n 0, 1), (35, .iload_n 1, 1), (36, .invokevirtual 469, 3), (39, .ifCond .eq 7, 3), (42, .iconst 1, 1), (43, .goto 4, 3), (46, .iconst 0, 1), (47, .ireturn, 1)]
-- 293: KnobEyeModel.isHeld(I)Z
def eg_i293 : eg_MI := (⟨"KnobEyeModel", "isHeld", "(I)Z"⟩, prog_15_method_119_code, 6, some .boolean, none, 12, 1)
def eg_c293 : List (Nat × Instr × Nat) := [(0, .aload_n 0, 1), (1, .getfield 13, 3), (4, .bipush 114, 2), (6, .iconst 2, 1), (7, .iload_n 1, 1), (8, .imul, 1), (9, .iadd, 1), (10, .iaload, 1), (11, .istore_n 2, 1), (12, .aload_n 0, 1), (13, .getfield 13, 3), (16, .bipush 114, 2), (18, .iconst 2, 1), (19, .iload_n 1, 1), (20, .imul, 1), (21, .iadd, 1), (22, .iconst 1, 1), (23, .iadd, 1), (24, .iaload, 1), (25, .istore_n 3, 1), (26, .aload_n 0, 1), (27, .iload_n 2, 1), (28, .iload_n 3, 1), (29, .iconst (-1), 1), (30, .invokevirtual 439, 3), (33, .sipush 656, 3), (36, .idiv, 1), (37, .istore 4, 2), (39, .aload_n 0, 1), (40, .getfield 30, 3), (43, .iconst 0, 1), (44, .aload_n 0, 1), (45, .iload_n 2, 1), (46, .invokevirtual 339, 3), (49, .iastore, 1), (50, .aload_n 0, 1), (51, .getfield 30, 3), (54, .iconst 1, 1), (55, .aload_n 0, 1), (56, .invokevirtual 88, 3), (59, .iastore, 1), (60, .aload_n 0, 1), (61, .getfield 30, 3), (64, .iconst 2, 1), (65, .iload 4, 2), (67, .iastore, 1), (68, .aload_n 0, 1), (69, .getfield 30, 3), (72, .iconst 3, 1), (73, .aload_n 0, 1), (74, .iload_n 2, 1), (75, .bipush 22, 2), (77, .invokevirtual 80, 3), (80, .iastore, 1), (81, .aload_n 0, 1), (82, .getfield 30, 3), (85, .iconst 4, 1), (86, .iconst 0, 1), (87, .iastore, 1), (88, .iconst 0, 1), (89, .istore 5, 2), (91, .iload 5, 2), (93, .aload_n 0, 1), (94, .iload_n 2, 1), (95, .invokevirtual 100, 3), (98, .if_icmp .ge 28, 3), (101, .aload_n 0, 1), (102, .getfield 30, 3), (105, .iconst 4, 1), (106, .dup2, 1), (107, .iaload, 1), (108, .aload_n 0, 1), (109, .iload_n 2, 1), (110, .iload 5, 2), (112, .invokevirtual 301, 3), (115, .invokestatic 345, 3), (118, .iadd, 1), (119, .iastore, 1), (120, .iinc 5 1, 3), (123, .goto (-32), 3), (126, .aload_n 0, 1), (127, .getfield 33, 3), (130, .iconst 0, 1), (131, .aload_n 0, 1), (132, .iload_n 2, 1), (133, .invokevirtual 433, 3), (136, .ifCond .lt 7, 3), (139, .iconst 1, 1), (140, .goto 4, 3), (143, .iconst 0, 1), (144, .bastore, 1), (145, .aload_n 0, 1), (146, .bipush 8, 2), (148, .iload_n 1, 1), (149, .iadd, 1), (150, .iconst 0, 1), (151, .invokevirtual 282, 3), (154, .ireturn, 1)]
-- 294: KnobEyeModel.count(I)I
def eg_i294 : eg_MI := (⟨"KnobEyeModel", "count", "(I)I"⟩, prog_15_method_121_code, 4, some .int, none, 12, 1)
def eg_c294 : List (Nat × Instr × Nat) := [(0, .aload_n 0, 1), (1, .iconst 0, 1), (2, .putfield 3, 3), (5, .iconst 0, 1), (6, .istore_n 2, 1), (7, .iload_n 1, 1), (8, .tableswitch 179 0 7 #[48, 55, 60, 94, 101, 108, 115, 151], 48), (56, .aload_n 0, 1), (57, .getfield 13, 3), (60, .iconst 0, 1), (61, .iaload, 1), (62, .ireturn, 1), (63, .aload_n 0, 1), (64, .invokevirtual 88, 3), (67, .ireturn, 1), (68, .iconst 0, 1), (69, .istore_n 3, 1), (70, .iload_n 3, 1), (71, .aload_n 0, 1), (72, .invokevirtual 88, 3), (75, .if_icmp .ge 25, 3), (78, .iload_n 2, 1), (79, .aload_n 0, 1), (80, .iload_n 3, 1), (81, .invokevirtual 319, 3), (84, .ifCond .eq 7, 3), (87, .iconst 1, 1), (88, .goto 4, 3), (91, .iconst 0, 1), (92, .iadd, 1), (93, .istore_n 2, 1), (94, .iinc 3 1, 3), (97, .goto (-27), 3), (100, .iload_n 2, 1), (101, .ireturn, 1), (102, .aload_n 0, 1), (103, .getfield 13, 3), (106, .iconst 4, 1), (107, .iaload, 1), (108, .ireturn, 1), (109, .aload_n 0, 1), (110, .getfield 13, 3), (113, .iconst 1, 1), (114, .iaload, 1), (115, .ireturn, 1), (116, .aload_n 0, 1), (117, .getfield 13, 3), (120, .iconst 2, 1), (121, .iaload, 1), (122, .ireturn, 1), (123, .iconst 0, 1), (124, .istore_n 3, 1), (125, .iload_n 3, 1), (126, .aload_n 0, 1), (127, .getfield 13, 3), (130, .iconst 2, 1), (131, .iaload, 1), (132, .if_icmp .ge 25, 3), (135, .iload_n 2, 1), (136, .aload_n 0, 1), (137, .iload_n 3, 1), (138, .invokevirtual 469, 3), (141, .ifCond .eq 7, 3), (144, .iconst 1, 1), (145, .goto 4, 3), (148, .iconst 0, 1), (149, .iadd, 1), (150, .istore_n 2, 1), (151, .iinc 3 1, 3), (154, .goto (-29), 3), (157, .iload_n 2, 1), (158, .ireturn, 1), (159, .iconst 0, 1), (160, .istore_n 3, 1), (161, .iload_n 3, 1), (162, .aload_n 0, 1), (163, .getfield 13, 3), (166, .iconst 4, 1), (167, .iaload, 1), (168, .if_icmp .ge 17, 3), (171, .iload_n 2, 1), (172, .aload_n 0, 1), (173, .iload_n 3, 1), (174, .invokevirtual 100, 3), (177, .iadd, 1), (178, .istore_n 2, 1), (179, .iinc 3 1, 3), (182, .goto (-21), 3), (185, .iload_n 2, 1), (186, .ireturn, 1), (187, .iconst (-1), 1), (188, .ireturn, 1)]
-- 295: java/lang/String.length()I
def eg_i295 : eg_MI := (⟨"java/lang/String", "length", "()I"⟩, prog_26_method_54_code, 1, some .int, none, 15, 0)
def eg_c295 : List (Nat × Instr × Nat) := [(0, .aload_n 0, 1), (1, .getfield 9, 3), (4, .arraylength, 1), (5, .aload_n 0, 1), (6, .invokevirtual 335, 3), (9, .ishr, 1), (10, .ireturn, 1)]
-- 296: java/lang/String.coder()B
def eg_i296 : eg_MI := (⟨"java/lang/String", "coder", "()B"⟩, prog_26_method_152_code, 1, some .byte, none, 15, 0)
def eg_c296 : List (Nat × Instr × Nat) := [(0, .getstatic 38, 3), (3, .ifCond .eq 10, 3), (6, .aload_n 0, 1), (7, .getfield 15, 3), (10, .goto 4, 3), (13, .iconst 1, 1), (14, .ireturn, 1)]
-- 297: java/lang/String.charAt(I)C
def eg_i297 : eg_MI := (⟨"java/lang/String", "charAt", "(I)C"⟩, prog_26_method_56_code, 2, some .char, none, 15, 1)
def eg_c297 : List (Nat × Instr × Nat) := [(0, .aload_n 0, 1), (1, .invokevirtual 492, 3), (4, .ifCond .eq 12, 3), (7, .aload_n 0, 1), (8, .getfield 9, 3), (11, .iload_n 1, 1), (12, .invokestatic 495, 3), (15, .ireturn, 1), (16, .aload_n 0, 1), (17, .getfield 9, 3), (20, .iload_n 1, 1), (21, .invokestatic 498, 3), (24, .ireturn, 1)]
-- 298: java/lang/String.isLatin1()Z
def eg_i298 : eg_MI := (⟨"java/lang/String", "isLatin1", "()Z"⟩, prog_26_method_154_code, 1, some .boolean, none, 15, 0)
def eg_c298 : List (Nat × Instr × Nat) := [(0, .getstatic 38, 3), (3, .ifCond .eq 14, 3), (6, .aload_n 0, 1), (7, .getfield 15, 3), (10, .ifCond .ne 7, 3), (13, .iconst 1, 1), (14, .goto 4, 3), (17, .iconst 0, 1), (18, .ireturn, 1)]
-- 299: java/lang/String.checkIndex(II)V
def eg_i299 : eg_MI := (⟨"java/lang/String", "checkIndex", "(II)V"⟩, prog_26_method_155_code, 2, none, none, 15, 2)
def eg_c299 : List (Nat × Instr × Nat) := [(0, .iload_n 0, 1), (1, .iload_n 1, 1), (2, .getstatic 1053, 3), (5, .invokestatic 1059, 3), (8, .pop, 1), (9, .return_, 1)]
-- 300: java/lang/StringLatin1.charAt([BI)C
def eg_i300 : eg_MI := (⟨"java/lang/StringLatin1", "charAt", "([BI)C"⟩, prog_27_method_2_code, 2, some .char, none, 16, 2)
def eg_c300 : List (Nat × Instr × Nat) := [(0, .iload_n 1, 1), (1, .aload_n 0, 1), (2, .arraylength, 1), (3, .invokestatic 9, 3), (6, .aload_n 0, 1), (7, .iload_n 1, 1), (8, .baload, 1), (9, .sipush 255, 3), (12, .iand, 1), (13, .i2c, 1), (14, .ireturn, 1)]
-- 301: java/lang/StringUTF16.charAt([BI)C
def eg_i301 : eg_MI := (⟨"java/lang/StringUTF16", "charAt", "([BI)C"⟩, prog_28_method_83_code, 2, some .char, none, 17, 2)
def eg_c301 : List (Nat × Instr × Nat) := [(0, .iload_n 1, 1), (1, .aload_n 0, 1), (2, .invokestatic 67, 3), (5, .aload_n 0, 1), (6, .iload_n 1, 1), (7, .invokestatic 71, 3), (10, .ireturn, 1)]
-- 302: java/lang/StringUTF16.checkIndex(I[B)V
def eg_i302 : eg_MI := (⟨"java/lang/StringUTF16", "checkIndex", "(I[B)V"⟩, prog_28_method_91_code, 2, none, none, 17, 2)
def eg_c302 : List (Nat × Instr × Nat) := [(0, .iload_n 0, 1), (1, .aload_n 1, 1), (2, .invokestatic 48, 3), (5, .invokestatic 414, 3), (8, .return_, 1)]
-- 303: java/lang/StringUTF16.length([B)I
def eg_i303 : eg_MI := (⟨"java/lang/StringUTF16", "length", "([B)I"⟩, prog_28_method_6_code, 1, some .int, none, 17, 1)
def eg_c303 : List (Nat × Instr × Nat) := [(0, .aload_n 0, 1), (1, .arraylength, 1), (2, .iconst 1, 1), (3, .ishr, 1), (4, .ireturn, 1)]
-- 304: java/lang/StringUTF16.getChar([BI)C
def eg_i304 : eg_MI := (⟨"java/lang/StringUTF16", "getChar", "([BI)C"⟩, prog_28_method_5_code, 2, some .char, none, 17, 2)
def eg_c304 : List (Nat × Instr × Nat) := [(0, .getstatic 44, 3), (3, .ifCond .ne 25, 3), (6, .iload_n 1, 1), (7, .ifCond .lt 11, 3), (10, .iload_n 1, 1), (11, .aload_n 0, 1), (12, .invokestatic 48, 3), (15, .if_icmp .lt 13, 3), (18, .new 52, 3), (21, .dup, 1), (22, .ldc 54, 2), (24, .invokespecial 56, 3), (27, .athrow, 1), (28, .iload_n 1, 1), (29, .iconst 1, 1), (30, .ishl, 1), (31, .istore_n 1, 1), (32, .aload_n 0, 1), (33, .iload_n 1, 1), (34, .iinc 1 1, 3), (37, .baload, 1), (38, .sipush 255, 3), (41, .iand, 1), (42, .getstatic 59, 3), (45, .ishl, 1), (46, .aload_n 0, 1), (47, .iload_n 1, 1), (48, .baload, 1), (49, .sipush 255, 3), (52, .iand, 1), (53, .getstatic 63, 3), (56, .ishl, 1), (57, .ior, 1), (58, .i2c, 1), (59, .ireturn, 1)]
-- 305: java/lang/Enum.ordinal()I
def eg_i305 : eg_MI := (⟨"java/lang/Enum", "ordinal", "()I"⟩, prog_19_method_2_code, 1, some .int, none, 18, 0)
def eg_c305 : List (Nat × Instr × Nat) := [(0, .aload_n 0, 1), (1, .getfield 7, 3), (4, .ireturn, 1)]
-- 306: java/lang/Integer.bitCount(I)I
def eg_i306 : eg_MI := (⟨"java/lang/Integer", "bitCount", "(I)I"⟩, prog_23_method_49_code, 1, some .int, none, 19, 1)
def eg_c306 : List (Nat × Instr × Nat) := [(0, .iload_n 0, 1), (1, .iload_n 0, 1), (2, .iconst 1, 1), (3, .iushr, 1), (4, .ldc_w 265, 3), (7, .iand, 1), (8, .isub, 1), (9, .istore_n 0, 1), (10, .iload_n 0, 1), (11, .ldc_w 266, 3), (14, .iand, 1), (15, .iload_n 0, 1), (16, .iconst 2, 1), (17, .iushr, 1), (18, .ldc_w 266, 3), (21, .iand, 1), (22, .iadd, 1), (23, .istore_n 0, 1), (24, .iload_n 0, 1), (25, .iload_n 0, 1), (26, .iconst 4, 1), (27, .iushr, 1), (28, .iadd, 1), (29, .ldc_w 267, 3), (32, .iand, 1), (33, .istore_n 0, 1), (34, .iload_n 0, 1), (35, .iload_n 0, 1), (36, .bipush 8, 2), (38, .iushr, 1), (39, .iadd, 1), (40, .istore_n 0, 1), (41, .iload_n 0, 1), (42, .iload_n 0, 1), (43, .bipush 16, 2), (45, .iushr, 1), (46, .iadd, 1), (47, .istore_n 0, 1), (48, .iload_n 0, 1), (49, .bipush 63, 2), (51, .iand, 1), (52, .ireturn, 1)]
-- 307: java/lang/Integer.numberOfLeadingZeros(I)I
def eg_i307 : eg_MI := (⟨"java/lang/Integer", "numberOfLeadingZeros", "(I)I"⟩, prog_23_method_47_code, 2, some .int, none, 19, 1)
def eg_c307 : List (Nat × Instr × Nat) := [(0, .iload_n 0, 1), (1, .ifCond .gt 14, 3), (4, .iload_n 0, 1), (5, .ifCond .ne 8, 3), (8, .bipush 32, 2), (10, .goto 4, 3), (13, .iconst 0, 1), (14, .ireturn, 1), (15, .bipush 31, 2), (17, .istore_n 1, 1), (18, .iload_n 0, 1), (19, .ldc_w 264, 3), (22, .if_icmp .lt 11, 3), (25, .iinc 1 (-16), 3), (28, .iload_n 0, 1), (29, .bipush 16, 2), (31, .iushr, 1), (32, .istore_n 0, 1), (33, .iload_n 0, 1), (34, .sipush 256, 3), (37, .if_icmp .lt 11, 3), (40, .iinc 1 (-8), 3), (43, .iload_n 0, 1), (44, .bipush 8, 2), (46, .iushr, 1), (47, .istore_n 0, 1), (48, .iload_n 0, 1), (49, .bipush 16, 2), (51, .if_icmp .lt 10, 3), (54, .iinc 1 (-4), 3), (57, .iload_n 0, 1), (58, .iconst 4, 1), (59, .iushr, 1), (60, .istore_n 0, 1), (61, .iload_n 0, 1), (62, .iconst 4, 1), (63, .if_icmp .lt 10, 3), (66, .iinc 1 (-2), 3), (69, .iload_n 0, 1), (70, .iconst 2, 1), (71, .iushr, 1), (72, .istore_n 0, 1), (73, .iload_n 1, 1), (74, .iload_n 0, 1), (75, .iconst 1, 1), (76, .iushr, 1), (77, .isub, 1), (78, .ireturn, 1)]
-- 308: java/lang/Integer.numberOfTrailingZeros(I)I
def eg_i308 : eg_MI := (⟨"java/lang/Integer", "numberOfTrailingZeros", "(I)I"⟩, prog_23_method_48_code, 2, some .int, none, 19, 1)
def eg_c308 : List (Nat × Instr × Nat) := [(0, .iload_n 0, 1), (1, .iconst (-1), 1), (2, .ixor, 1), (3, .iload_n 0, 1), (4, .iconst 1, 1), (5, .isub, 1), (6, .iand, 1), (7, .istore_n 0, 1), (8, .iload_n 0, 1), (9, .ifCond .gt 8, 3), (12, .iload_n 0, 1), (13, .bipush 32, 2), (15, .iand, 1), (16, .ireturn, 1), (17, .iconst 1, 1), (18, .istore_n 1, 1), (19, .iload_n 0, 1), (20, .ldc_w 264, 3), (23, .if_icmp .le 11, 3), (26, .iinc 1 16, 3), (29, .iload_n 0, 1), (30, .bipush 16, 2), (32, .iushr, 1), (33, .istore_n 0, 1), (34, .iload_n 0, 1), (35, .sipush 256, 3), (38, .if_icmp .le 11, 3), (41, .iinc 1 8, 3), (44, .iload_n 0, 1), (45, .bipush 8, 2), (47, .iushr, 1), (48, .istore_n 0, 1), (49, .iload_n 0, 1), (50, .bipush 16, 2), (52, .if_icmp .le 10, 3), (55, .iinc 1 4, 3), (58, .iload_n 0, 1), (59, .iconst 4, 1), (60, .iushr, 1), (61, .istore_n 0, 1), (62, .iload_n 0, 1), (63, .iconst 4, 1), (64, .if_icmp .le 10, 3), (67, .iinc 1 2, 3), (70, .iload_n 0, 1), (71, .iconst 2, 1), (72, .iushr, 1), (73, .istore_n 0, 1), (74, .iload_n 1, 1), (75, .iload_n 0, 1), (76, .iconst 1, 1), (77, .iushr, 1), (78, .iadd, 1), (79, .ireturn, 1)]
-- 309: java/lang/Integer.signum(I)I
def eg_i309 : eg_MI := (⟨"java/lang/Integer", "signum", "(I)I"⟩, prog_23_method_56_code, 1, some .int, none, 19, 1)
def eg_c309 : List (Nat × Instr × Nat) := [(0, .iload_n 0, 1), (1, .bipush 31, 2), (3, .ishr, 1), (4, .iload_n 0, 1), (5, .ineg, 1), (6, .bipush 31, 2), (8, .iushr, 1), (9, .ior, 1), (10, .ireturn, 1)]
-- 310: java/lang/Math.abs(I)I
def eg_i310 : eg_MI := (⟨"java/lang/Math", "abs", "(I)I"⟩, prog_24_method_59_code, 1, some .int, none, 20, 1)
def eg_c310 : List (Nat × Instr × Nat) := [(0, .iload_n 0, 1), (1, .ifCond .ge 8, 3), (4, .iload_n 0, 1), (5, .ineg, 1), (6, .goto 4, 3), (9, .iload_n 0, 1), (10, .ireturn, 1)]
-- 311: java/lang/Math.max(II)I
def eg_i311 : eg_MI := (⟨"java/lang/Math", "max", "(II)I"⟩, prog_24_method_65_code, 2, some .int, none, 20, 2)
def eg_c311 : List (Nat × Instr × Nat) := [(0, .iload_n 0, 1), (1, .iload_n 1, 1), (2, .if_icmp .lt 7, 3), (5, .iload_n 0, 1), (6, .goto 4, 3), (9, .iload_n 1, 1), (10, .ireturn, 1)]
-- 312: java/lang/Math.min(II)I
def eg_i312 : eg_MI := (⟨"java/lang/Math", "min", "(II)I"⟩, prog_24_method_69_code, 2, some .int, none, 20, 2)
def eg_c312 : List (Nat × Instr × Nat) := [(0, .iload_n 0, 1), (1, .iload_n 1, 1), (2, .if_icmp .gt 7, 3), (5, .iload_n 0, 1), (6, .goto 4, 3), (9, .iload_n 1, 1), (10, .ireturn, 1)]
-- 313: java/lang/Math.min(JJ)J
def eg_i313 : eg_MI := (⟨"java/lang/Math", "min", "(JJ)J"⟩, prog_24_method_70_code, 4, some .long, none, 20, 2)
def eg_c313 : List (Nat × Instr × Nat) := [(0, .lload_n 0, 1), (1, .lload_n 2, 1), (2, .lcmp, 1), (3, .ifCond .gt 7, 3), (6, .lload_n 0, 1), (7, .goto 4, 3), (10, .lload_n 2, 1), (11, .lreturn, 1)]
-- 314: java/lang/Math.max(JJ)J
def eg_i314 : eg_MI := (⟨"java/lang/Math", "max", "(JJ)J"⟩, prog_24_method_66_code, 4, some .long, none, 20, 2)
def eg_c314 : List (Nat × Instr × Nat) := [(0, .lload_n 0, 1), (1, .lload_n 2, 1), (2, .lcmp, 1), (3, .ifCond .lt 7, 3), (6, .lload_n 0, 1), (7, .goto 4, 3), (10, .lload_n 2, 1), (11, .lreturn, 1)]
-- 315: jdk/internal/util/Preconditions.checkIndex(IILjava/util/function/BiFunction;)I
def eg_i315 : eg_MI := (⟨"jdk/internal/util/Preconditions", "checkIndex", "(IILjava/util/function/BiFunction;)I"⟩, prog_34_method_11_code, 3, some .int, none, 21, 3)
def eg_c315 : List (Nat × Instr × Nat) := [(0, .iload_n 0, 1), (1, .ifCond .lt 8, 3), (4, .iload_n 0, 1), (5, .iload_n 1, 1), (6, .if_icmp .lt 10, 3), (9, .aload_n 2, 1), (10, .iload_n 0, 1), (11, .iload_n 1, 1), (12, .invokestatic 95, 3), (15, .athrow, 1), (16, .iload_n 0, 1), (17, .ireturn, 1)]
-- the law
def eg_law0 : List (Nat × Instr × Nat) := [(0, .new 8, 3), (3, .dup, 1), (4, .invokespecial 117, 3), (7, .astore_n 1, 1), (8, .new 118, 3), (11, .dup, 1), (12, .invokespecial 120, 3), (15, .astore_n 2, 1), (16, .iconst 1, 1), (17, .newarray .long, 2), (19, .astore_n 3, 1), (20, .iconst 0, 1), (21, .istore 4, 2), (23, .iload 4, 2), (25, .aload_n 0, 1), (26, .arraylength, 1), (27, .bipush 6, 2), (29, .isub, 1), (30, .if_icmp .gt 2469, 3), (33, .aload_n 0, 1), (34, .iload 4, 2), (36, .iaload, 1), (37, .bipush 63, 2), (39, .iand, 1), (40, .tableswitch 2453 0 38 #[172, 245, 270, 314, 358, 426, 439, 514, 598, 666, 679, 723, 803, 890, 950, 1018, 1086, 1173, 1253, 1328, 1408, 1476, 1544, 1612, 1692, 1760, 1816, 1872, 1885, 1953, 2009, 2089, 2157, 2232, 2245, 2341, 2404, 2415, 2428], 172), (212, .aload_n 1, 1), (213, .aload_n 0, 1), (214, .iload 4, 2), (216, .iconst 1, 1), (217, .iadd, 1), (218, .iaload, 1), (219, .aload_n 0, 1), (220, .iload 4, 2), (222, .iconst 2, 1), (223, .iadd, 1), (224, .iaload, 1), (225, .aload_n 0, 1), (226, .iload 4, 2), (228, .iconst 3, 1), (229, .iadd, 1), (230, .iaload, 1), (231, .aload_n 0, 1), (232, .iload 4, 2), (234, .iconst 4, 1), (235, .iadd, 1), (236, .iaload, 1), (237, .aload_n 0, 1), (238, .iload 4, 2), (240, .iconst 5, 1), (241, .iadd, 1), (242, .iaload, 1), (243, .invokevirtual 121, 3), (246, .aload_n 2, 1), (247, .aload_n 0, 1), (248, .iload 4, 2), (250, .iconst 1, 1), (251, .iadd, 1), (252, .iaload, 1), (253, .aload_n 0, 1), (254, .iload 4, 2), (256, .iconst 2, 1), (257, .iadd, 1), (258, .iaload, 1), (259, .aload_n 0, 1), (260, .iload 4, 2), (262, .iconst 3, 1), (263, .iadd, 1), (264, .iaload, 1), (265, .aload_n 0, 1), (266, .iload 4, 2), (268, .iconst 4, 1), (269, .iadd, 1), (270, .iaload, 1), (271, .aload_n 0, 1), (272, .iload 4, 2), (274, .iconst 5, 1), (275, .iadd, 1), (276, .iaload, 1), (277, .invokevirtual 125, 3), (280, .if_icmp .eq 2213, 3), (283, .iconst 0, 1), (284, .ireturn, 1), (285, .aload_n 1, 1), (286, .aload_n 0, 1), (287, .iload 4, 2), (289, .iconst 1, 1), (290, .iadd, 1), (291, .iaload, 1), (292, .invokevirtual 126, 3), (295, .aload_n 2, 1), (296, .aload_n 0, 1), (297, .iload 4, 2), (299, .iconst 1, 1), (300, .iadd, 1), (301, .iaload, 1), (302, .invokevirtual 129, 3), (305, .if_icmp .eq 2188, 3), (308, .iconst 0, 1), (309, .ireturn, 1), (310, .aload_n 1, 1)]
def eg_law1 : List (Nat × Instr × Nat) := [(311, .aload_n 3, 1), (312, .invokestatic 130, 3), (315, .istore 5, 2), (317, .aload_n 2, 1), (318, .invokevirtual 135, 3), (321, .istore 6, 2), (323, .aload_n 2, 1), (324, .invokevirtual 136, 3), (327, .iload 5, 2), (329, .if_icmp .eq 5, 3), (332, .iconst 0, 1), (333, .ireturn, 1), (334, .iload 5, 2), (336, .ifCond .ne 15, 3), (339, .aload_n 3, 1), (340, .iconst 0, 1), (341, .laload, 1), (342, .iload 6, 2), (344, .i2l, 1), (345, .lcmp, 1), (346, .ifCond .eq 5, 3), (349, .iconst 0, 1), (350, .ireturn, 1), (351, .goto 2142, 3), (354, .aload_n 1, 1), (355, .aload_n 3, 1), (356, .invokestatic 139, 3), (359, .istore 5, 2), (361, .aload_n 2, 1), (362, .invokevirtual 141, 3), (365, .istore 6, 2), (367, .aload_n 2, 1), (368, .invokevirtual 136, 3), (371, .iload 5, 2), (373, .if_icmp .eq 5, 3), (376, .iconst 0, 1), (377, .ireturn, 1), (378, .iload 5, 2), (380, .ifCond .ne 15, 3), (383, .aload_n 3, 1), (384, .iconst 0, 1), (385, .laload, 1), (386, .iload 6, 2), (388, .i2l, 1), (389, .lcmp, 1), (390, .ifCond .eq 5, 3), (393, .iconst 0, 1), (394, .ireturn, 1), (395, .goto 2098, 3), (398, .aload_n 1, 1), (399, .aload_n 0, 1), (400, .iload 4, 2), (402, .iconst 1, 1), (403, .iadd, 1), (404, .iaload, 1), (405, .aload_n 0, 1), (406, .iload 4, 2), (408, .iconst 2, 1), (409, .iadd, 1), (410, .iaload, 1), (411, .aload_n 3, 1), (412, .invokestatic 142, 3), (415, .istore 5, 2), (417, .aload_n 2, 1), (418, .aload_n 0, 1), (419, .iload 4, 2), (421, .iconst 1, 1), (422, .iadd, 1), (423, .iaload, 1), (424, .aload_n 0, 1), (425, .iload 4, 2), (427, .iconst 2, 1), (428, .iadd, 1), (429, .iaload, 1), (430, .invokevirtual 145, 3), (433, .istore 6, 2), (435, .aload_n 2, 1), (436, .invokevirtual 136, 3), (439, .iload 5, 2), (441, .if_icmp .eq 5, 3), (444, .iconst 0, 1), (445, .ireturn, 1), (446, .iload 5, 2), (448, .ifCond .ne 15, 3), (451, .aload_n 3, 1), (452, .iconst 0, 1), (453, .laload, 1), (454, .iload 6, 2), (456, .i2l, 1), (457, .lcmp, 1), (458, .ifCond .eq 5, 3), (461, .iconst 0, 1), (462, .ireturn, 1), (463, .goto 2030, 3), (466, .aload_n 1, 1), (467, .invokevirtual 146, 3), (470, .aload_n 2, 1), (471, .invokevirtual 149, 3), (474, .if_icmp .eq 2019, 3), (477, .iconst 0, 1)]
def eg_law2 : List (Nat × Instr × Nat) := [(478, .ireturn, 1), (479, .aload_n 1, 1), (480, .aload_n 0, 1), (481, .iload 4, 2), (483, .iconst 1, 1), (484, .iadd, 1), (485, .iaload, 1), (486, .aload_n 0, 1), (487, .iload 4, 2), (489, .iconst 2, 1), (490, .iadd, 1), (491, .iaload, 1), (492, .aload_n 3, 1), (493, .invokestatic 150, 3), (496, .istore 5, 2), (498, .aload_n 2, 1), (499, .aload_n 0, 1), (500, .iload 4, 2), (502, .iconst 1, 1), (503, .iadd, 1), (504, .iaload, 1), (505, .aload_n 0, 1), (506, .iload 4, 2), (508, .iconst 2, 1), (509, .iadd, 1), (510, .iaload, 1), (511, .invokevirtual 152, 3), (514, .istore 6, 2), (516, .aload_n 2, 1), (517, .invokevirtual 136, 3), (520, .iload 5, 2), (522, .if_icmp .eq 5, 3), (525, .iconst 0, 1), (526, .ireturn, 1), (527, .iload 5, 2), (529, .ifCond .ne 22, 3), (532, .aload_n 3, 1), (533, .iconst 0, 1), (534, .laload, 1), (535, .iload 6, 2), (537, .ifCond .eq 7, 3), (540, .lconst 1, 1), (541, .goto 4, 3), (544, .lconst 0, 1), (545, .lcmp, 1), (546, .ifCond .eq 5, 3), (549, .iconst 0, 1), (550, .ireturn, 1), (551, .goto 1942, 3), (554, .aload_n 1, 1), (555, .aload_n 0, 1), (556, .iload 4, 2), (558, .iconst 1, 1), (559, .iadd, 1), (560, .iaload, 1), (561, .aload_n 0, 1), (562, .iload 4, 2), (564, .iconst 2, 1), (565, .iadd, 1), (566, .iaload, 1), (567, .ifCond .eq 7, 3), (570, .iconst 1, 1), (571, .goto 4, 3), (574, .iconst 0, 1), (575, .aload_n 3, 1), (576, .invokestatic 153, 3), (579, .istore 5, 2), (581, .aload_n 2, 1), (582, .aload_n 0, 1), (583, .iload 4, 2), (585, .iconst 1, 1), (586, .iadd, 1), (587, .iaload, 1), (588, .aload_n 0, 1), (589, .iload 4, 2), (591, .iconst 2, 1), (592, .iadd, 1), (593, .iaload, 1), (594, .ifCond .eq 7, 3), (597, .iconst 1, 1), (598, .goto 4, 3), (601, .iconst 0, 1), (602, .invokevirtual 156, 3), (605, .istore 6, 2), (607, .aload_n 2, 1), (608, .invokevirtual 136, 3), (611, .iload 5, 2), (613, .if_icmp .eq 5, 3), (616, .iconst 0, 1), (617, .ireturn, 1), (618, .iload 5, 2), (620, .ifCond .ne 15, 3), (623, .aload_n 3, 1), (624, .iconst 0, 1), (625, .laload, 1), (626, .iload 6, 2), (628, .i2l, 1), (629, .lcmp, 1), (630, .ifCond .eq 5, 3), (633, .iconst 0, 1)]
def eg_law3 : List (Nat × Instr × Nat) := [(634, .ireturn, 1), (635, .goto 1858, 3), (638, .aload_n 1, 1), (639, .aload_n 0, 1), (640, .iload 4, 2), (642, .iconst 1, 1), (643, .iadd, 1), (644, .iaload, 1), (645, .aload_n 0, 1), (646, .iload 4, 2), (648, .iconst 2, 1), (649, .iadd, 1), (650, .iaload, 1), (651, .aload_n 3, 1), (652, .invokestatic 157, 3), (655, .istore 5, 2), (657, .aload_n 2, 1), (658, .aload_n 0, 1), (659, .iload 4, 2), (661, .iconst 1, 1), (662, .iadd, 1), (663, .iaload, 1), (664, .aload_n 0, 1), (665, .iload 4, 2), (667, .iconst 2, 1), (668, .iadd, 1), (669, .iaload, 1), (670, .invokevirtual 159, 3), (673, .istore 6, 2), (675, .aload_n 2, 1), (676, .invokevirtual 136, 3), (679, .iload 5, 2), (681, .if_icmp .eq 5, 3), (684, .iconst 0, 1), (685, .ireturn, 1), (686, .iload 5, 2), (688, .ifCond .ne 15, 3), (691, .aload_n 3, 1), (692, .iconst 0, 1), (693, .laload, 1), (694, .iload 6, 2), (696, .i2l, 1), (697, .lcmp, 1), (698, .ifCond .eq 5, 3), (701, .iconst 0, 1), (702, .ireturn, 1), (703, .goto 1790, 3), (706, .aload_n 1, 1), (707, .invokevirtual 160, 3), (710, .aload_n 2, 1), (711, .invokevirtual 163, 3), (714, .if_icmp .eq 1779, 3), (717, .iconst 0, 1), (718, .ireturn, 1), (719, .aload_n 1, 1), (720, .aload_n 3, 1), (721, .invokestatic 164, 3), (724, .istore 5, 2), (726, .aload_n 2, 1), (727, .invokevirtual 166, 3), (730, .istore 6, 2), (732, .aload_n 2, 1), (733, .invokevirtual 136, 3), (736, .iload 5, 2), (738, .if_icmp .eq 5, 3), (741, .iconst 0, 1), (742, .ireturn, 1), (743, .iload 5, 2), (745, .ifCond .ne 15, 3), (748, .aload_n 3, 1), (749, .iconst 0, 1), (750, .laload, 1), (751, .iload 6, 2), (753, .i2l, 1), (754, .lcmp, 1), (755, .ifCond .eq 5, 3), (758, .iconst 0, 1), (759, .ireturn, 1), (760, .goto 1733, 3), (763, .aload_n 1, 1), (764, .aload_n 0, 1), (765, .iload 4, 2), (767, .iconst 1, 1), (768, .iadd, 1), (769, .iaload, 1), (770, .aload_n 0, 1), (771, .iload 4, 2), (773, .iconst 2, 1), (774, .iadd, 1), (775, .iaload, 1), (776, .aload_n 0, 1), (777, .iload 4, 2), (779, .iconst 3, 1), (780, .iadd, 1), (781, .iaload, 1), (782, .aload_n 3, 1), (783, .invokestatic 167, 3), (786, .istore 5, 2), (788, .aload_n 2, 1), (789, .aload_n 0, 1)]
def eg_law4 : List (Nat × Instr × Nat) := [(790, .iload 4, 2), (792, .iconst 1, 1), (793, .iadd, 1), (794, .iaload, 1), (795, .aload_n 0, 1), (796, .iload 4, 2), (798, .iconst 2, 1), (799, .iadd, 1), (800, .iaload, 1), (801, .aload_n 0, 1), (802, .iload 4, 2), (804, .iconst 3, 1), (805, .iadd, 1), (806, .iaload, 1), (807, .invokevirtual 170, 3), (810, .istore 6, 2), (812, .aload_n 2, 1), (813, .invokevirtual 136, 3), (816, .iload 5, 2), (818, .if_icmp .eq 5, 3), (821, .iconst 0, 1), (822, .ireturn, 1), (823, .iload 5, 2), (825, .ifCond .ne 15, 3), (828, .aload_n 3, 1), (829, .iconst 0, 1), (830, .laload, 1), (831, .iload 6, 2), (833, .i2l, 1), (834, .lcmp, 1), (835, .ifCond .eq 5, 3), (838, .iconst 0, 1), (839, .ireturn, 1), (840, .goto 1653, 3), (843, .aload_n 1, 1), (844, .aload_n 0, 1), (845, .iload 4, 2), (847, .iconst 1, 1), (848, .iadd, 1), (849, .iaload, 1), (850, .aload_n 0, 1), (851, .iload 4, 2), (853, .iconst 2, 1), (854, .iadd, 1), (855, .iaload, 1), (856, .aload_n 0, 1), (857, .iload 4, 2), (859, .iconst 3, 1), (860, .iadd, 1), (861, .iaload, 1), (862, .aload_n 3, 1), (863, .invokestatic 171, 3), (866, .istore 5, 2), (868, .aload_n 2, 1), (869, .aload_n 0, 1), (870, .iload 4, 2), (872, .iconst 1, 1), (873, .iadd, 1), (874, .iaload, 1), (875, .aload_n 0, 1), (876, .iload 4, 2), (878, .iconst 2, 1), (879, .iadd, 1), (880, .iaload, 1), (881, .aload_n 0, 1), (882, .iload 4, 2), (884, .iconst 3, 1), (885, .iadd, 1), (886, .iaload, 1), (887, .invokevirtual 173, 3), (890, .istore 6, 2), (892, .aload_n 2, 1), (893, .invokevirtual 136, 3), (896, .iload 5, 2), (898, .if_icmp .eq 5, 3), (901, .iconst 0, 1), (902, .ireturn, 1), (903, .iload 5, 2), (905, .ifCond .ne 22, 3), (908, .aload_n 3, 1), (909, .iconst 0, 1), (910, .laload, 1), (911, .iload 6, 2), (913, .ifCond .eq 7, 3), (916, .lconst 1, 1), (917, .goto 4, 3), (920, .lconst 0, 1), (921, .lcmp, 1), (922, .ifCond .eq 5, 3), (925, .iconst 0, 1), (926, .ireturn, 1), (927, .goto 1566, 3), (930, .aload_n 1, 1), (931, .aload_n 0, 1), (932, .iload 4, 2), (934, .iconst 1, 1), (935, .iadd, 1), (936, .iaload, 1), (937, .aload_n 0, 1), (938, .iload 4, 2)]
def eg_law5 : List (Nat × Instr × Nat) := [(940, .iconst 2, 1), (941, .iadd, 1), (942, .iaload, 1), (943, .aload_n 0, 1), (944, .iload 4, 2), (946, .iconst 3, 1), (947, .iadd, 1), (948, .iaload, 1), (949, .invokestatic 174, 3), (952, .istore 5, 2), (954, .aload_n 2, 1), (955, .aload_n 0, 1), (956, .iload 4, 2), (958, .iconst 1, 1), (959, .iadd, 1), (960, .iaload, 1), (961, .aload_n 0, 1), (962, .iload 4, 2), (964, .iconst 2, 1), (965, .iadd, 1), (966, .iaload, 1), (967, .aload_n 0, 1), (968, .iload 4, 2), (970, .iconst 3, 1), (971, .iadd, 1), (972, .iaload, 1), (973, .invokevirtual 177, 3), (976, .aload_n 2, 1), (977, .invokevirtual 136, 3), (980, .iload 5, 2), (982, .if_icmp .eq 5, 3), (985, .iconst 0, 1), (986, .ireturn, 1), (987, .goto 1506, 3), (990, .aload_n 1, 1), (991, .aload_n 0, 1), (992, .iload 4, 2), (994, .iconst 1, 1), (995, .iadd, 1), (996, .iaload, 1), (997, .aload_n 0, 1), (998, .iload 4, 2), (1000, .iconst 2, 1), (1001, .iadd, 1), (1002, .iaload, 1), (1003, .aload_n 3, 1), (1004, .invokestatic 178, 3), (1007, .istore 5, 2), (1009, .aload_n 2, 1), (1010, .aload_n 0, 1), (1011, .iload 4, 2), (1013, .iconst 1, 1), (1014, .iadd, 1), (1015, .iaload, 1), (1016, .aload_n 0, 1), (1017, .iload 4, 2), (1019, .iconst 2, 1), (1020, .iadd, 1), (1021, .iaload, 1), (1022, .invokevirtual 180, 3), (1025, .istore 6, 2), (1027, .aload_n 2, 1), (1028, .invokevirtual 136, 3), (1031, .iload 5, 2), (1033, .if_icmp .eq 5, 3), (1036, .iconst 0, 1), (1037, .ireturn, 1), (1038, .iload 5, 2), (1040, .ifCond .ne 15, 3), (1043, .aload_n 3, 1), (1044, .iconst 0, 1), (1045, .laload, 1), (1046, .iload 6, 2), (1048, .i2l, 1), (1049, .lcmp, 1), (1050, .ifCond .eq 5, 3), (1053, .iconst 0, 1), (1054, .ireturn, 1), (1055, .goto 1438, 3), (1058, .aload_n 1, 1), (1059, .aload_n 0, 1), (1060, .iload 4, 2), (1062, .iconst 1, 1), (1063, .iadd, 1), (1064, .iaload, 1), (1065, .aload_n 0, 1), (1066, .iload 4, 2), (1068, .iconst 2, 1), (1069, .iadd, 1), (1070, .iaload, 1), (1071, .aload_n 3, 1), (1072, .invokestatic 181, 3), (1075, .istore 5, 2), (1077, .aload_n 2, 1), (1078, .aload_n 0, 1), (1079, .iload 4, 2), (1081, .iconst 1, 1), (1082, .iadd, 1), (1083, .iaload, 1), (1084, .aload_n 0, 1)]
def eg_law6 : List (Nat × Instr × Nat) := [(1085, .iload 4, 2), (1087, .iconst 2, 1), (1088, .iadd, 1), (1089, .iaload, 1), (1090, .invokevirtual 183, 3), (1093, .istore 6, 2), (1095, .aload_n 2, 1), (1096, .invokevirtual 136, 3), (1099, .iload 5, 2), (1101, .if_icmp .eq 5, 3), (1104, .iconst 0, 1), (1105, .ireturn, 1), (1106, .iload 5, 2), (1108, .ifCond .ne 15, 3), (1111, .aload_n 3, 1), (1112, .iconst 0, 1), (1113, .laload, 1), (1114, .iload 6, 2), (1116, .i2l, 1), (1117, .lcmp, 1), (1118, .ifCond .eq 5, 3), (1121, .iconst 0, 1), (1122, .ireturn, 1), (1123, .goto 1370, 3), (1126, .aload_n 1, 1), (1127, .aload_n 0, 1), (1128, .iload 4, 2), (1130, .iconst 1, 1), (1131, .iadd, 1), (1132, .iaload, 1), (1133, .aload_n 0, 1), (1134, .iload 4, 2), (1136, .iconst 2, 1), (1137, .iadd, 1), (1138, .iaload, 1), (1139, .aload_n 0, 1), (1140, .iload 4, 2), (1142, .iconst 3, 1), (1143, .iadd, 1), (1144, .iaload, 1), (1145, .aload_n 3, 1), (1146, .invokestatic 184, 3), (1149, .istore 5, 2), (1151, .aload_n 2, 1), (1152, .aload_n 0, 1), (1153, .iload 4, 2), (1155, .iconst 1, 1), (1156, .iadd, 1), (1157, .iaload, 1), (1158, .aload_n 0, 1), (1159, .iload 4, 2), (1161, .iconst 2, 1), (1162, .iadd, 1), (1163, .iaload, 1), (1164, .aload_n 0, 1), (1165, .iload 4, 2), (1167, .iconst 3, 1), (1168, .iadd, 1), (1169, .iaload, 1), (1170, .invokevirtual 186, 3), (1173, .istore 6, 2), (1175, .aload_n 2, 1), (1176, .invokevirtual 136, 3), (1179, .iload 5, 2), (1181, .if_icmp .eq 5, 3), (1184, .iconst 0, 1), (1185, .ireturn, 1), (1186, .iload 5, 2), (1188, .ifCond .ne 22, 3), (1191, .aload_n 3, 1), (1192, .iconst 0, 1), (1193, .laload, 1), (1194, .iload 6, 2), (1196, .ifCond .eq 7, 3), (1199, .lconst 1, 1), (1200, .goto 4, 3), (1203, .lconst 0, 1), (1204, .lcmp, 1), (1205, .ifCond .eq 5, 3), (1208, .iconst 0, 1), (1209, .ireturn, 1), (1210, .goto 1283, 3), (1213, .aload_n 1, 1), (1214, .aload_n 0, 1), (1215, .iload 4, 2), (1217, .iconst 1, 1), (1218, .iadd, 1), (1219, .iaload, 1), (1220, .aload_n 0, 1), (1221, .iload 4, 2), (1223, .iconst 2, 1), (1224, .iadd, 1), (1225, .iaload, 1), (1226, .aload_n 0, 1), (1227, .iload 4, 2), (1229, .iconst 3, 1), (1230, .iadd, 1), (1231, .iaload, 1), (1232, .aload_n 3, 1), (1233, .invokestatic 187, 3)]
def eg_law7 : List (Nat × Instr × Nat) := [(1236, .istore 5, 2), (1238, .aload_n 2, 1), (1239, .aload_n 0, 1), (1240, .iload 4, 2), (1242, .iconst 1, 1), (1243, .iadd, 1), (1244, .iaload, 1), (1245, .aload_n 0, 1), (1246, .iload 4, 2), (1248, .iconst 2, 1), (1249, .iadd, 1), (1250, .iaload, 1), (1251, .aload_n 0, 1), (1252, .iload 4, 2), (1254, .iconst 3, 1), (1255, .iadd, 1), (1256, .iaload, 1), (1257, .invokevirtual 189, 3), (1260, .istore 6, 2), (1262, .aload_n 2, 1), (1263, .invokevirtual 136, 3), (1266, .iload 5, 2), (1268, .if_icmp .eq 5, 3), (1271, .iconst 0, 1), (1272, .ireturn, 1), (1273, .iload 5, 2), (1275, .ifCond .ne 15, 3), (1278, .aload_n 3, 1), (1279, .iconst 0, 1), (1280, .laload, 1), (1281, .iload 6, 2), (1283, .i2l, 1), (1284, .lcmp, 1), (1285, .ifCond .eq 5, 3), (1288, .iconst 0, 1), (1289, .ireturn, 1), (1290, .goto 1203, 3), (1293, .aload_n 1, 1), (1294, .aload_n 0, 1), (1295, .iload 4, 2), (1297, .iconst 1, 1), (1298, .iadd, 1), (1299, .iaload, 1), (1300, .aload_n 0, 1), (1301, .iload 4, 2), (1303, .iconst 2, 1), (1304, .iadd, 1), (1305, .iaload, 1), (1306, .aload_n 3, 1), (1307, .invokestatic 190, 3), (1310, .istore 5, 2), (1312, .aload_n 2, 1), (1313, .aload_n 0, 1), (1314, .iload 4, 2), (1316, .iconst 1, 1), (1317, .iadd, 1), (1318, .iaload, 1), (1319, .aload_n 0, 1), (1320, .iload 4, 2), (1322, .iconst 2, 1), (1323, .iadd, 1), (1324, .iaload, 1), (1325, .invokevirtual 192, 3), (1328, .istore 6, 2), (1330, .aload_n 2, 1), (1331, .invokevirtual 136, 3), (1334, .iload 5, 2), (1336, .if_icmp .eq 5, 3), (1339, .iconst 0, 1), (1340, .ireturn, 1), (1341, .iload 5, 2), (1343, .ifCond .ne 22, 3), (1346, .aload_n 3, 1), (1347, .iconst 0, 1), (1348, .laload, 1), (1349, .iload 6, 2), (1351, .ifCond .eq 7, 3), (1354, .lconst 1, 1), (1355, .goto 4, 3), (1358, .lconst 0, 1), (1359, .lcmp, 1), (1360, .ifCond .eq 5, 3), (1363, .iconst 0, 1), (1364, .ireturn, 1), (1365, .goto 1128, 3), (1368, .aload_n 1, 1), (1369, .aload_n 0, 1), (1370, .iload 4, 2), (1372, .iconst 1, 1), (1373, .iadd, 1), (1374, .iaload, 1), (1375, .aload_n 0, 1), (1376, .iload 4, 2), (1378, .iconst 2, 1), (1379, .iadd, 1), (1380, .iaload, 1), (1381, .aload_n 0, 1), (1382, .iload 4, 2), (1384, .iconst 3, 1), (1385, .iadd, 1)]
def eg_law8 : List (Nat × Instr × Nat) := [(1386, .iaload, 1), (1387, .aload_n 3, 1), (1388, .invokestatic 193, 3), (1391, .istore 5, 2), (1393, .aload_n 2, 1), (1394, .aload_n 0, 1), (1395, .iload 4, 2), (1397, .iconst 1, 1), (1398, .iadd, 1), (1399, .iaload, 1), (1400, .aload_n 0, 1), (1401, .iload 4, 2), (1403, .iconst 2, 1), (1404, .iadd, 1), (1405, .iaload, 1), (1406, .aload_n 0, 1), (1407, .iload 4, 2), (1409, .iconst 3, 1), (1410, .iadd, 1), (1411, .iaload, 1), (1412, .invokevirtual 195, 3), (1415, .istore 6, 2), (1417, .aload_n 2, 1), (1418, .invokevirtual 136, 3), (1421, .iload 5, 2), (1423, .if_icmp .eq 5, 3), (1426, .iconst 0, 1), (1427, .ireturn, 1), (1428, .iload 5, 2), (1430, .ifCond .ne 15, 3), (1433, .aload_n 3, 1), (1434, .iconst 0, 1), (1435, .laload, 1), (1436, .iload 6, 2), (1438, .i2l, 1), (1439, .lcmp, 1), (1440, .ifCond .eq 5, 3), (1443, .iconst 0, 1), (1444, .ireturn, 1), (1445, .goto 1048, 3), (1448, .aload_n 1, 1), (1449, .aload_n 0, 1), (1450, .iload 4, 2), (1452, .iconst 1, 1), (1453, .iadd, 1), (1454, .iaload, 1), (1455, .aload_n 0, 1), (1456, .iload 4, 2), (1458, .iconst 2, 1), (1459, .iadd, 1), (1460, .iaload, 1), (1461, .aload_n 3, 1), (1462, .invokestatic 196, 3), (1465, .istore 5, 2), (1467, .aload_n 2, 1), (1468, .aload_n 0, 1), (1469, .iload 4, 2), (1471, .iconst 1, 1), (1472, .iadd, 1), (1473, .iaload, 1), (1474, .aload_n 0, 1), (1475, .iload 4, 2), (1477, .iconst 2, 1), (1478, .iadd, 1), (1479, .iaload, 1), (1480, .invokevirtual 198, 3), (1483, .istore 6, 2), (1485, .aload_n 2, 1), (1486, .invokevirtual 136, 3), (1489, .iload 5, 2), (1491, .if_icmp .eq 5, 3), (1494, .iconst 0, 1), (1495, .ireturn, 1), (1496, .iload 5, 2), (1498, .ifCond .ne 15, 3), (1501, .aload_n 3, 1), (1502, .iconst 0, 1), (1503, .laload, 1), (1504, .iload 6, 2), (1506, .i2l, 1), (1507, .lcmp, 1), (1508, .ifCond .eq 5, 3), (1511, .iconst 0, 1), (1512, .ireturn, 1), (1513, .goto 980, 3), (1516, .aload_n 1, 1), (1517, .aload_n 0, 1), (1518, .iload 4, 2), (1520, .iconst 1, 1), (1521, .iadd, 1), (1522, .iaload, 1), (1523, .aload_n 0, 1), (1524, .iload 4, 2), (1526, .iconst 2, 1), (1527, .iadd, 1), (1528, .iaload, 1), (1529, .aload_n 3, 1), (1530, .invokestatic 199, 3), (1533, .istore 5, 2), (1535, .aload_n 2, 1)]
def eg_law9 : List (Nat × Instr × Nat) := [(1536, .aload_n 0, 1), (1537, .iload 4, 2), (1539, .iconst 1, 1), (1540, .iadd, 1), (1541, .iaload, 1), (1542, .aload_n 0, 1), (1543, .iload 4, 2), (1545, .iconst 2, 1), (1546, .iadd, 1), (1547, .iaload, 1), (1548, .invokevirtual 201, 3), (1551, .istore 6, 2), (1553, .aload_n 2, 1), (1554, .invokevirtual 136, 3), (1557, .iload 5, 2), (1559, .if_icmp .eq 5, 3), (1562, .iconst 0, 1), (1563, .ireturn, 1), (1564, .iload 5, 2), (1566, .ifCond .ne 15, 3), (1569, .aload_n 3, 1), (1570, .iconst 0, 1), (1571, .laload, 1), (1572, .iload 6, 2), (1574, .i2l, 1), (1575, .lcmp, 1), (1576, .ifCond .eq 5, 3), (1579, .iconst 0, 1), (1580, .ireturn, 1), (1581, .goto 912, 3), (1584, .aload_n 1, 1), (1585, .aload_n 0, 1), (1586, .iload 4, 2), (1588, .iconst 1, 1), (1589, .iadd, 1), (1590, .iaload, 1), (1591, .aload_n 0, 1), (1592, .iload 4, 2), (1594, .iconst 2, 1), (1595, .iadd, 1), (1596, .iaload, 1), (1597, .aload_n 3, 1), (1598, .invokestatic 202, 3), (1601, .istore 5, 2), (1603, .aload_n 2, 1), (1604, .aload_n 0, 1), (1605, .iload 4, 2), (1607, .iconst 1, 1), (1608, .iadd, 1), (1609, .iaload, 1), (1610, .aload_n 0, 1), (1611, .iload 4, 2), (1613, .iconst 2, 1), (1614, .iadd, 1), (1615, .iaload, 1), (1616, .invokevirtual 204, 3), (1619, .istore 6, 2), (1621, .aload_n 2, 1), (1622, .invokevirtual 136, 3), (1625, .iload 5, 2), (1627, .if_icmp .eq 5, 3), (1630, .iconst 0, 1), (1631, .ireturn, 1), (1632, .iload 5, 2), (1634, .ifCond .ne 15, 3), (1637, .aload_n 3, 1), (1638, .iconst 0, 1), (1639, .laload, 1), (1640, .iload 6, 2), (1642, .i2l, 1), (1643, .lcmp, 1), (1644, .ifCond .eq 5, 3), (1647, .iconst 0, 1), (1648, .ireturn, 1), (1649, .goto 844, 3), (1652, .aload_n 1, 1), (1653, .aload_n 0, 1), (1654, .iload 4, 2), (1656, .iconst 1, 1), (1657, .iadd, 1), (1658, .iaload, 1), (1659, .aload_n 0, 1), (1660, .iload 4, 2), (1662, .iconst 2, 1), (1663, .iadd, 1), (1664, .iaload, 1), (1665, .aload_n 0, 1), (1666, .iload 4, 2), (1668, .iconst 3, 1), (1669, .iadd, 1), (1670, .iaload, 1), (1671, .aload_n 3, 1), (1672, .invokestatic 205, 3), (1675, .istore 5, 2), (1677, .aload_n 2, 1), (1678, .aload_n 0, 1), (1679, .iload 4, 2), (1681, .iconst 1, 1), (1682, .iadd, 1), (1683, .iaload, 1)]
def eg_law10 : List (Nat × Instr × Nat) := [(1684, .aload_n 0, 1), (1685, .iload 4, 2), (1687, .iconst 2, 1), (1688, .iadd, 1), (1689, .iaload, 1), (1690, .aload_n 0, 1), (1691, .iload 4, 2), (1693, .iconst 3, 1), (1694, .iadd, 1), (1695, .iaload, 1), (1696, .invokevirtual 207, 3), (1699, .istore 6, 2), (1701, .aload_n 2, 1), (1702, .invokevirtual 136, 3), (1705, .iload 5, 2), (1707, .if_icmp .eq 5, 3), (1710, .iconst 0, 1), (1711, .ireturn, 1), (1712, .iload 5, 2), (1714, .ifCond .ne 15, 3), (1717, .aload_n 3, 1), (1718, .iconst 0, 1), (1719, .laload, 1), (1720, .iload 6, 2), (1722, .i2l, 1), (1723, .lcmp, 1), (1724, .ifCond .eq 5, 3), (1727, .iconst 0, 1), (1728, .ireturn, 1), (1729, .goto 764, 3), (1732, .aload_n 1, 1), (1733, .aload_n 0, 1), (1734, .iload 4, 2), (1736, .iconst 1, 1), (1737, .iadd, 1), (1738, .iaload, 1), (1739, .aload_n 0, 1), (1740, .iload 4, 2), (1742, .iconst 2, 1), (1743, .iadd, 1), (1744, .iaload, 1), (1745, .aload_n 3, 1), (1746, .invokestatic 208, 3), (1749, .istore 5, 2), (1751, .aload_n 2, 1), (1752, .aload_n 0, 1), (1753, .iload 4, 2), (1755, .iconst 1, 1), (1756, .iadd, 1), (1757, .iaload, 1), (1758, .aload_n 0, 1), (1759, .iload 4, 2), (1761, .iconst 2, 1), (1762, .iadd, 1), (1763, .iaload, 1), (1764, .invokevirtual 210, 3), (1767, .istore 6, 2), (1769, .aload_n 2, 1), (1770, .invokevirtual 136, 3), (1773, .iload 5, 2), (1775, .if_icmp .eq 5, 3), (1778, .iconst 0, 1), (1779, .ireturn, 1), (1780, .iload 5, 2), (1782, .ifCond .ne 15, 3), (1785, .aload_n 3, 1), (1786, .iconst 0, 1), (1787, .laload, 1), (1788, .iload 6, 2), (1790, .i2l, 1), (1791, .lcmp, 1), (1792, .ifCond .eq 5, 3), (1795, .iconst 0, 1), (1796, .ireturn, 1), (1797, .goto 696, 3), (1800, .aload_n 1, 1), (1801, .aload_n 0, 1), (1802, .iload 4, 2), (1804, .iconst 1, 1), (1805, .iadd, 1), (1806, .iaload, 1), (1807, .aload_n 3, 1), (1808, .invokestatic 211, 3), (1811, .istore 5, 2), (1813, .aload_n 2, 1), (1814, .aload_n 0, 1), (1815, .iload 4, 2), (1817, .iconst 1, 1), (1818, .iadd, 1), (1819, .iaload, 1), (1820, .invokevirtual 214, 3), (1823, .istore 6, 2), (1825, .aload_n 2, 1), (1826, .invokevirtual 136, 3), (1829, .iload 5, 2), (1831, .if_icmp .eq 5, 3), (1834, .iconst 0, 1), (1835, .ireturn, 1), (1836, .iload 5, 2), (1838, .ifCond .ne 15, 3)]
def eg_law11 : List (Nat × Instr × Nat) := [(1841, .aload_n 3, 1), (1842, .iconst 0, 1), (1843, .laload, 1), (1844, .iload 6, 2), (1846, .i2l, 1), (1847, .lcmp, 1), (1848, .ifCond .eq 5, 3), (1851, .iconst 0, 1), (1852, .ireturn, 1), (1853, .goto 640, 3), (1856, .aload_n 1, 1), (1857, .aload_n 0, 1), (1858, .iload 4, 2), (1860, .iconst 1, 1), (1861, .iadd, 1), (1862, .iaload, 1), (1863, .aload_n 3, 1), (1864, .invokestatic 215, 3), (1867, .istore 5, 2), (1869, .aload_n 2, 1), (1870, .aload_n 0, 1), (1871, .iload 4, 2), (1873, .iconst 1, 1), (1874, .iadd, 1), (1875, .iaload, 1), (1876, .invokevirtual 217, 3), (1879, .istore 6, 2), (1881, .aload_n 2, 1), (1882, .invokevirtual 136, 3), (1885, .iload 5, 2), (1887, .if_icmp .eq 5, 3), (1890, .iconst 0, 1), (1891, .ireturn, 1), (1892, .iload 5, 2), (1894, .ifCond .ne 15, 3), (1897, .aload_n 3, 1), (1898, .iconst 0, 1), (1899, .laload, 1), (1900, .iload 6, 2), (1902, .i2l, 1), (1903, .lcmp, 1), (1904, .ifCond .eq 5, 3), (1907, .iconst 0, 1), (1908, .ireturn, 1), (1909, .goto 584, 3), (1912, .aload_n 1, 1), (1913, .invokevirtual 218, 3), (1916, .aload_n 2, 1), (1917, .invokevirtual 221, 3), (1920, .if_icmp .eq 573, 3), (1923, .iconst 0, 1), (1924, .ireturn, 1), (1925, .aload_n 1, 1), (1926, .aload_n 0, 1), (1927, .iload 4, 2), (1929, .iconst 1, 1), (1930, .iadd, 1), (1931, .iaload, 1), (1932, .aload_n 0, 1), (1933, .iload 4, 2), (1935, .iconst 2, 1), (1936, .iadd, 1), (1937, .iaload, 1), (1938, .aload_n 3, 1), (1939, .invokestatic 222, 3), (1942, .istore 5, 2), (1944, .aload_n 2, 1), (1945, .aload_n 0, 1), (1946, .iload 4, 2), (1948, .iconst 1, 1), (1949, .iadd, 1), (1950, .iaload, 1), (1951, .aload_n 0, 1), (1952, .iload 4, 2), (1954, .iconst 2, 1), (1955, .iadd, 1), (1956, .iaload, 1), (1957, .invokevirtual 224, 3), (1960, .istore 6, 2), (1962, .aload_n 2, 1), (1963, .invokevirtual 136, 3), (1966, .iload 5, 2), (1968, .if_icmp .eq 5, 3), (1971, .iconst 0, 1), (1972, .ireturn, 1), (1973, .iload 5, 2), (1975, .ifCond .ne 15, 3), (1978, .aload_n 3, 1), (1979, .iconst 0, 1), (1980, .laload, 1), (1981, .iload 6, 2), (1983, .i2l, 1), (1984, .lcmp, 1), (1985, .ifCond .eq 5, 3), (1988, .iconst 0, 1), (1989, .ireturn, 1), (1990, .goto 503, 3), (1993, .aload_n 1, 1), (1994, .aload_n 0, 1), (1995, .iload 4, 2)]
def eg_law12 : List (Nat × Instr × Nat) := [(1997, .iconst 1, 1), (1998, .iadd, 1), (1999, .iaload, 1), (2000, .aload_n 3, 1), (2001, .invokestatic 225, 3), (2004, .istore 5, 2), (2006, .aload_n 2, 1), (2007, .aload_n 0, 1), (2008, .iload 4, 2), (2010, .iconst 1, 1), (2011, .iadd, 1), (2012, .iaload, 1), (2013, .invokevirtual 227, 3), (2016, .istore 6, 2), (2018, .aload_n 2, 1), (2019, .invokevirtual 136, 3), (2022, .iload 5, 2), (2024, .if_icmp .eq 5, 3), (2027, .iconst 0, 1), (2028, .ireturn, 1), (2029, .iload 5, 2), (2031, .ifCond .ne 15, 3), (2034, .aload_n 3, 1), (2035, .iconst 0, 1), (2036, .laload, 1), (2037, .iload 6, 2), (2039, .i2l, 1), (2040, .lcmp, 1), (2041, .ifCond .eq 5, 3), (2044, .iconst 0, 1), (2045, .ireturn, 1), (2046, .goto 447, 3), (2049, .aload_n 1, 1), (2050, .aload_n 0, 1), (2051, .iload 4, 2), (2053, .iconst 1, 1), (2054, .iadd, 1), (2055, .iaload, 1), (2056, .aload_n 0, 1), (2057, .iload 4, 2), (2059, .iconst 2, 1), (2060, .iadd, 1), (2061, .iaload, 1), (2062, .aload_n 0, 1), (2063, .iload 4, 2), (2065, .iconst 3, 1), (2066, .iadd, 1), (2067, .iaload, 1), (2068, .aload_n 3, 1), (2069, .invokestatic 228, 3), (2072, .istore 5, 2), (2074, .aload_n 2, 1), (2075, .aload_n 0, 1), (2076, .iload 4, 2), (2078, .iconst 1, 1), (2079, .iadd, 1), (2080, .iaload, 1), (2081, .aload_n 0, 1), (2082, .iload 4, 2), (2084, .iconst 2, 1), (2085, .iadd, 1), (2086, .iaload, 1), (2087, .aload_n 0, 1), (2088, .iload 4, 2), (2090, .iconst 3, 1), (2091, .iadd, 1), (2092, .iaload, 1), (2093, .invokevirtual 230, 3), (2096, .istore 6, 2), (2098, .aload_n 2, 1), (2099, .invokevirtual 136, 3), (2102, .iload 5, 2), (2104, .if_icmp .eq 5, 3), (2107, .iconst 0, 1), (2108, .ireturn, 1), (2109, .iload 5, 2), (2111, .ifCond .ne 15, 3), (2114, .aload_n 3, 1), (2115, .iconst 0, 1), (2116, .laload, 1), (2117, .iload 6, 2), (2119, .i2l, 1), (2120, .lcmp, 1), (2121, .ifCond .eq 5, 3), (2124, .iconst 0, 1), (2125, .ireturn, 1), (2126, .goto 367, 3), (2129, .aload_n 1, 1), (2130, .aload_n 0, 1), (2131, .iload 4, 2), (2133, .iconst 1, 1), (2134, .iadd, 1), (2135, .iaload, 1), (2136, .aload_n 0, 1), (2137, .iload 4, 2), (2139, .iconst 2, 1), (2140, .iadd, 1), (2141, .iaload, 1), (2142, .aload_n 3, 1), (2143, .invokestatic 231, 3)]
def eg_law13 : List (Nat × Instr × Nat) := [(2146, .istore 5, 2), (2148, .aload_n 2, 1), (2149, .aload_n 0, 1), (2150, .iload 4, 2), (2152, .iconst 1, 1), (2153, .iadd, 1), (2154, .iaload, 1), (2155, .aload_n 0, 1), (2156, .iload 4, 2), (2158, .iconst 2, 1), (2159, .iadd, 1), (2160, .iaload, 1), (2161, .invokevirtual 233, 3), (2164, .istore 6, 2), (2166, .aload_n 2, 1), (2167, .invokevirtual 136, 3), (2170, .iload 5, 2), (2172, .if_icmp .eq 5, 3), (2175, .iconst 0, 1), (2176, .ireturn, 1), (2177, .iload 5, 2), (2179, .ifCond .ne 15, 3), (2182, .aload_n 3, 1), (2183, .iconst 0, 1), (2184, .laload, 1), (2185, .iload 6, 2), (2187, .i2l, 1), (2188, .lcmp, 1), (2189, .ifCond .eq 5, 3), (2192, .iconst 0, 1), (2193, .ireturn, 1), (2194, .goto 299, 3), (2197, .aload_n 1, 1), (2198, .aload_n 0, 1), (2199, .iload 4, 2), (2201, .iconst 1, 1), (2202, .iadd, 1), (2203, .iaload, 1), (2204, .aload_n 0, 1), (2205, .iload 4, 2), (2207, .iconst 2, 1), (2208, .iadd, 1), (2209, .iaload, 1), (2210, .aload_n 3, 1), (2211, .invokestatic 234, 3), (2214, .istore 5, 2), (2216, .aload_n 2, 1), (2217, .aload_n 0, 1), (2218, .iload 4, 2), (2220, .iconst 1, 1), (2221, .iadd, 1), (2222, .iaload, 1), (2223, .aload_n 0, 1), (2224, .iload 4, 2), (2226, .iconst 2, 1), (2227, .iadd, 1), (2228, .iaload, 1), (2229, .invokevirtual 236, 3), (2232, .istore 6, 2), (2234, .aload_n 2, 1), (2235, .invokevirtual 136, 3), (2238, .iload 5, 2), (2240, .if_icmp .eq 5, 3), (2243, .iconst 0, 1), (2244, .ireturn, 1), (2245, .iload 5, 2), (2247, .ifCond .ne 22, 3), (2250, .aload_n 3, 1), (2251, .iconst 0, 1), (2252, .laload, 1), (2253, .iload 6, 2), (2255, .ifCond .eq 7, 3), (2258, .lconst 1, 1), (2259, .goto 4, 3), (2262, .lconst 0, 1), (2263, .lcmp, 1), (2264, .ifCond .eq 5, 3), (2267, .iconst 0, 1), (2268, .ireturn, 1), (2269, .goto 224, 3), (2272, .aload_n 1, 1), (2273, .invokevirtual 237, 3), (2276, .aload_n 2, 1), (2277, .invokevirtual 240, 3), (2280, .if_icmp .eq 213, 3), (2283, .iconst 0, 1), (2284, .ireturn, 1), (2285, .aload_n 1, 1), (2286, .aload_n 0, 1), (2287, .iload 4, 2), (2289, .iconst 1, 1), (2290, .iadd, 1), (2291, .iaload, 1), (2292, .aload_n 0, 1), (2293, .iload 4, 2), (2295, .iconst 2, 1), (2296, .iadd, 1), (2297, .iaload, 1), (2298, .aload_n 0, 1), (2299, .iload 4, 2)]
def eg_law14 : List (Nat × Instr × Nat) := [(2301, .iconst 3, 1), (2302, .iadd, 1), (2303, .iaload, 1), (2304, .ifCond .eq 7, 3), (2307, .iconst 1, 1), (2308, .goto 4, 3), (2311, .iconst 0, 1), (2312, .aload_n 3, 1), (2313, .invokestatic 241, 3), (2316, .istore 5, 2), (2318, .aload_n 2, 1), (2319, .aload_n 0, 1), (2320, .iload 4, 2), (2322, .iconst 1, 1), (2323, .iadd, 1), (2324, .iaload, 1), (2325, .aload_n 0, 1), (2326, .iload 4, 2), (2328, .iconst 2, 1), (2329, .iadd, 1), (2330, .iaload, 1), (2331, .aload_n 0, 1), (2332, .iload 4, 2), (2334, .iconst 3, 1), (2335, .iadd, 1), (2336, .iaload, 1), (2337, .ifCond .eq 7, 3), (2340, .iconst 1, 1), (2341, .goto 4, 3), (2344, .iconst 0, 1), (2345, .invokevirtual 244, 3), (2348, .istore 6, 2), (2350, .aload_n 2, 1), (2351, .invokevirtual 136, 3), (2354, .iload 5, 2), (2356, .if_icmp .eq 5, 3), (2359, .iconst 0, 1), (2360, .ireturn, 1), (2361, .iload 5, 2), (2363, .ifCond .ne 15, 3), (2366, .aload_n 3, 1), (2367, .iconst 0, 1), (2368, .laload, 1), (2369, .iload 6, 2), (2371, .i2l, 1), (2372, .lcmp, 1), (2373, .ifCond .eq 5, 3), (2376, .iconst 0, 1), (2377, .ireturn, 1), (2378, .goto 115, 3), (2381, .aload_n 1, 1), (2382, .aload_n 0, 1), (2383, .iload 4, 2), (2385, .iconst 1, 1), (2386, .iadd, 1), (2387, .iaload, 1), (2388, .aload_n 3, 1), (2389, .invokestatic 245, 3), (2392, .istore 5, 2), (2394, .aload_n 2, 1), (2395, .aload_n 0, 1), (2396, .iload 4, 2), (2398, .iconst 1, 1), (2399, .iadd, 1), (2400, .iaload, 1), (2401, .invokevirtual 247, 3), (2404, .istore 6, 2), (2406, .aload_n 2, 1), (2407, .invokevirtual 136, 3), (2410, .iload 5, 2), (2412, .if_icmp .eq 5, 3), (2415, .iconst 0, 1), (2416, .ireturn, 1), (2417, .iload 5, 2), (2419, .ifCond .ne 22, 3), (2422, .aload_n 3, 1), (2423, .iconst 0, 1), (2424, .laload, 1), (2425, .iload 6, 2), (2427, .ifCond .eq 7, 3), (2430, .lconst 1, 1), (2431, .goto 4, 3), (2434, .lconst 0, 1), (2435, .lcmp, 1), (2436, .ifCond .eq 5, 3), (2439, .iconst 0, 1), (2440, .ireturn, 1), (2441, .goto 52, 3), (2444, .aload_n 1, 1), (2445, .invokevirtual 248, 3), (2448, .aload_n 2, 1), (2449, .invokevirtual 251, 3), (2452, .goto 41, 3), (2455, .aload_n 1, 1), (2456, .invokevirtual 252, 3), (2459, .aload_n 2, 1), (2460, .invokevirtual 256, 3), (2463, .if_icmp .eq 30, 3), (2466, .iconst 0, 1), (2467, .ireturn, 1)]
def eg_law15 : List (Nat × Instr × Nat) := [(2468, .aload_n 1, 1), (2469, .aload_n 0, 1), (2470, .iload 4, 2), (2472, .iconst 1, 1), (2473, .iadd, 1), (2474, .iaload, 1), (2475, .invokevirtual 257, 3), (2478, .aload_n 2, 1), (2479, .aload_n 0, 1), (2480, .iload 4, 2), (2482, .iconst 1, 1), (2483, .iadd, 1), (2484, .iaload, 1), (2485, .invokevirtual 260, 3), (2488, .if_icmp .eq 5, 3), (2491, .iconst 0, 1), (2492, .ireturn, 1), (2493, .iinc 4 6, 3), (2496, .goto (-2473), 3), (2499, .iconst 1, 1), (2500, .ireturn, 1)]
def eg_M0 : List (eg_MI × List (Nat × Instr × Nat)) := [(eg_i0, eg_c0), (eg_i1, eg_c1), (eg_i2, eg_c2), (eg_i3, eg_c3), (eg_i4, eg_c4), (eg_i5, eg_c5), (eg_i6, eg_c6), (eg_i7, eg_c7), (eg_i8, eg_c8), (eg_i9, eg_c9), (eg_i10, eg_c10), (eg_i11, eg_c11), (eg_i12, eg_c12), (eg_i13, eg_c13), (eg_i14, eg_c14), (eg_i15, eg_c15)]
def eg_M1 : List (eg_MI × List (Nat × Instr × Nat)) := [(eg_i16, eg_c16), (eg_i17, eg_c17), (eg_i18, eg_c18), (eg_i19, eg_c19), (eg_i20, eg_c20), (eg_i21, eg_c21), (eg_i22, eg_c22), (eg_i23, eg_c23), (eg_i24, eg_c24), (eg_i25, eg_c25), (eg_i26, eg_c26), (eg_i27, eg_c27), (eg_i28, eg_c28), (eg_i29, eg_c29), (eg_i30, eg_c30), (eg_i31, eg_c31)]
def eg_M2 : List (eg_MI × List (Nat × Instr × Nat)) := [(eg_i32, eg_c32), (eg_i33, eg_c33), (eg_i34, eg_c34), (eg_i35, eg_c35), (eg_i36, eg_c36), (eg_i37, eg_c37), (eg_i38, eg_c38), (eg_i39, eg_c39), (eg_i40, eg_c40), (eg_i41, eg_c41), (eg_i42, eg_c42), (eg_i43, eg_c43), (eg_i44, eg_c44), (eg_i45, eg_c45), (eg_i46, eg_c46), (eg_i47, eg_c47)]
def eg_M3 : List (eg_MI × List (Nat × Instr × Nat)) := [(eg_i48, eg_c48), (eg_i49, eg_c49), (eg_i50, eg_c50), (eg_i51, eg_c51), (eg_i52, eg_c52), (eg_i53, eg_c53), (eg_i54, eg_c54), (eg_i55, eg_c55), (eg_i56, eg_c56), (eg_i57, eg_c57), (eg_i58, eg_c58), (eg_i59, eg_c59), (eg_i60, eg_c60), (eg_i61, eg_c61), (eg_i62, eg_c62), (eg_i63, eg_c63)]
def eg_M4 : List (eg_MI × List (Nat × Instr × Nat)) := [(eg_i64, eg_c64), (eg_i65, eg_c65), (eg_i66, eg_c66), (eg_i67, eg_c67), (eg_i68, eg_c68), (eg_i69, eg_c69), (eg_i70, eg_c70), (eg_i71, eg_c71), (eg_i72, eg_c72), (eg_i73, eg_c73), (eg_i74, eg_c74), (eg_i75, eg_c75), (eg_i76, eg_c76), (eg_i77, eg_c77), (eg_i78, eg_c78), (eg_i79, eg_c79)]
def eg_M5 : List (eg_MI × List (Nat × Instr × Nat)) := [(eg_i80, eg_c80), (eg_i81, eg_c81), (eg_i82, eg_c82), (eg_i83, eg_c83), (eg_i84, eg_c84), (eg_i85, eg_c85), (eg_i86, eg_c86), (eg_i87, eg_c87), (eg_i88, eg_c88), (eg_i89, eg_c89), (eg_i90, eg_c90), (eg_i91, eg_c91), (eg_i92, eg_c92), (eg_i93, eg_c93), (eg_i94, eg_c94), (eg_i95, eg_c95)]
def eg_M6 : List (eg_MI × List (Nat × Instr × Nat)) := [(eg_i96, eg_c96), (eg_i97, eg_c97), (eg_i98, eg_c98), (eg_i99, eg_c99), (eg_i100, eg_c100), (eg_i101, eg_c101), (eg_i102, eg_c102), (eg_i103, eg_c103), (eg_i104, eg_c104), (eg_i105, eg_c105), (eg_i106, eg_c106), (eg_i107, eg_c107), (eg_i108, eg_c108), (eg_i109, eg_c109), (eg_i110, eg_c110), (eg_i111, eg_c111)]
def eg_M7 : List (eg_MI × List (Nat × Instr × Nat)) := [(eg_i112, eg_c112), (eg_i113, eg_c113), (eg_i114, eg_c114), (eg_i115, eg_c115), (eg_i116, eg_c116), (eg_i117, eg_c117), (eg_i118, eg_c118), (eg_i119, eg_c119), (eg_i120, eg_c120), (eg_i121, eg_c121), (eg_i122, eg_c122), (eg_i123, eg_c123), (eg_i124, eg_c124), (eg_i125, eg_c125), (eg_i126, eg_c126), (eg_i127, eg_c127)]
def eg_M8 : List (eg_MI × List (Nat × Instr × Nat)) := [(eg_i128, eg_c128), (eg_i129, eg_c129), (eg_i130, eg_c130), (eg_i131, eg_c131), (eg_i132, eg_c132), (eg_i133, eg_c133), (eg_i134, eg_c134), (eg_i135, eg_c135), (eg_i136, eg_c136), (eg_i137, eg_c137), (eg_i138, eg_c138), (eg_i139, eg_c139), (eg_i140, eg_c140), (eg_i141, eg_c141), (eg_i142, eg_c142), (eg_i143, eg_c143)]
def eg_M9 : List (eg_MI × List (Nat × Instr × Nat)) := [(eg_i144, eg_c144), (eg_i145, eg_c145), (eg_i146, eg_c146), (eg_i147, eg_c147), (eg_i148, eg_c148), (eg_i149, eg_c149), (eg_i150, eg_c150), (eg_i151, eg_c151), (eg_i152, eg_c152), (eg_i153, eg_c153), (eg_i154, eg_c154), (eg_i155, eg_c155), (eg_i156, eg_c156), (eg_i157, eg_c157), (eg_i158, eg_c158), (eg_i159, eg_c159)]
def eg_M10 : List (eg_MI × List (Nat × Instr × Nat)) := [(eg_i160, eg_c160), (eg_i161, eg_c161), (eg_i162, eg_c162), (eg_i163, eg_c163), (eg_i164, eg_c164), (eg_i165, eg_c165), (eg_i166, eg_c166), (eg_i167, eg_c167), (eg_i168, eg_c168), (eg_i169, eg_c169), (eg_i170, eg_c170), (eg_i171, eg_c171), (eg_i172, eg_c172), (eg_i173, eg_c173), (eg_i174, eg_c174), (eg_i175, eg_c175)]
def eg_M11 : List (eg_MI × List (Nat × Instr × Nat)) := [(eg_i176, eg_c176), (eg_i177, eg_c177), (eg_i178, eg_c178), (eg_i179, eg_c179), (eg_i180, eg_c180), (eg_i181, eg_c181), (eg_i182, eg_c182), (eg_i183, eg_c183), (eg_i184, eg_c184), (eg_i185, eg_c185), (eg_i186, eg_c186), (eg_i187, eg_c187), (eg_i188, eg_c188), (eg_i189, eg_c189), (eg_i190, eg_c190), (eg_i191, eg_c191)]
def eg_M12 : List (eg_MI × List (Nat × Instr × Nat)) := [(eg_i192, eg_c192), (eg_i193, eg_c193), (eg_i194, eg_c194), (eg_i195, eg_c195), (eg_i196, eg_c196), (eg_i197, eg_c197), (eg_i198, eg_c198), (eg_i199, eg_c199), (eg_i200, eg_c200), (eg_i201, eg_c201), (eg_i202, eg_c202), (eg_i203, eg_c203), (eg_i204, eg_c204), (eg_i205, eg_c205), (eg_i206, eg_c206), (eg_i207, eg_c207)]
def eg_M13 : List (eg_MI × List (Nat × Instr × Nat)) := [(eg_i208, eg_c208), (eg_i209, eg_c209), (eg_i210, eg_c210), (eg_i211, eg_c211), (eg_i212, eg_c212), (eg_i213, eg_c213), (eg_i214, eg_c214), (eg_i215, eg_c215), (eg_i216, eg_c216), (eg_i217, eg_c217), (eg_i218, eg_c218), (eg_i219, eg_c219), (eg_i220, eg_c220), (eg_i221, eg_c221), (eg_i222, eg_c222), (eg_i223, eg_c223)]
def eg_M14 : List (eg_MI × List (Nat × Instr × Nat)) := [(eg_i224, eg_c224), (eg_i225, eg_c225), (eg_i226, eg_c226), (eg_i227, eg_c227), (eg_i228, eg_c228), (eg_i229, eg_c229), (eg_i230, eg_c230), (eg_i231, eg_c231), (eg_i232, eg_c232), (eg_i233, eg_c233), (eg_i234, eg_c234), (eg_i235, eg_c235), (eg_i236, eg_c236), (eg_i237, eg_c237), (eg_i238, eg_c238), (eg_i239, eg_c239)]
def eg_M15 : List (eg_MI × List (Nat × Instr × Nat)) := [(eg_i240, eg_c240), (eg_i241, eg_c241), (eg_i242, eg_c242), (eg_i243, eg_c243), (eg_i244, eg_c244), (eg_i245, eg_c245), (eg_i246, eg_c246), (eg_i247, eg_c247), (eg_i248, eg_c248), (eg_i249, eg_c249), (eg_i250, eg_c250), (eg_i251, eg_c251), (eg_i252, eg_c252), (eg_i253, eg_c253), (eg_i254, eg_c254), (eg_i255, eg_c255)]
def eg_M16 : List (eg_MI × List (Nat × Instr × Nat)) := [(eg_i256, eg_c256), (eg_i257, eg_c257), (eg_i258, eg_c258), (eg_i259, eg_c259), (eg_i260, eg_c260), (eg_i261, eg_c261), (eg_i262, eg_c262), (eg_i263, eg_c263), (eg_i264, eg_c264), (eg_i265, eg_c265), (eg_i266, eg_c266), (eg_i267, eg_c267), (eg_i268, eg_c268), (eg_i269, eg_c269), (eg_i270, eg_c270), (eg_i271, eg_c271)]
def eg_M17 : List (eg_MI × List (Nat × Instr × Nat)) := [(eg_i272, eg_c272), (eg_i273, eg_c273), (eg_i274, eg_c274), (eg_i275, eg_c275), (eg_i276, eg_c276), (eg_i277, eg_c277), (eg_i278, eg_c278), (eg_i279, eg_c279), (eg_i280, eg_c280), (eg_i281, eg_c281), (eg_i282, eg_c282), (eg_i283, eg_c283), (eg_i284, eg_c284), (eg_i285, eg_c285), (eg_i286, eg_c286), (eg_i287, eg_c287)]
def eg_M18 : List (eg_MI × List (Nat × Instr × Nat)) := [(eg_i288, eg_c288), (eg_i289, eg_c289), (eg_i290, eg_c290), (eg_i291, eg_c291), (eg_i292, eg_c292), (eg_i293, eg_c293), (eg_i294, eg_c294), (eg_i295, eg_c295), (eg_i296, eg_c296), (eg_i297, eg_c297), (eg_i298, eg_c298), (eg_i299, eg_c299), (eg_i300, eg_c300), (eg_i301, eg_c301), (eg_i302, eg_c302), (eg_i303, eg_c303)]
def eg_M19 : List (eg_MI × List (Nat × Instr × Nat)) := [(eg_i304, eg_c304), (eg_i305, eg_c305), (eg_i306, eg_c306), (eg_i307, eg_c307), (eg_i308, eg_c308), (eg_i309, eg_c309), (eg_i310, eg_c310), (eg_i311, eg_c311), (eg_i312, eg_c312), (eg_i313, eg_c313), (eg_i314, eg_c314), (eg_i315, eg_c315)]
def eg_MM : List (List (eg_MI × List (Nat × Instr × Nat))) := [eg_M0, eg_M1, eg_M2, eg_M3, eg_M4, eg_M5, eg_M6, eg_M7, eg_M8, eg_M9, eg_M10, eg_M11, eg_M12, eg_M13, eg_M14, eg_M15, eg_M16, eg_M17, eg_M18, eg_M19]
/-- the method of a number, and its code -/
def eg_me (k : Nat) : eg_MI × List (Nat × Instr × Nat) := (eg_MM.getD (k / 16) []).getD (k % 16) (eg_m0, [])
end
section
/-! THE ABSTRACT MACHINE: a frame is pc, locals, stack; a heap is cells at the numbers 0, 1, ..; the first eg_NC numbers are the constants -/
abbrev eg_C : Type := (Nat × vp_A) ⊕ (Nat × List Value)
abbrev eg_G : Type := (Nat → eg_C) × Nat
abbrev eg_Ls : Type := List (Option Value)
abbrev eg_S : Type := Nat × eg_Ls × List Value × eg_G × Nat × Nat
def eg_con (i : Nat) : eg_C :=
  if i < 36 then .inr (12, [.int (Int32.ofNat i), .ref (36 + (eg_wf.getD i (0, 0, 0)).1), .int (eg_wf.getD i (0, 0, 0)).2.1, .int (eg_wf.getD i (0, 0, 0)).2.2])
  else if i < 36 + eg_NS then .inr (13, [.ref (i + eg_NS), .int 0])
  else if i < 36 + 2 * eg_NS then .inl (1, ((eg_by.getD (i - 36 - eg_NS) []).length, .inl (fun j => (eg_by.getD (i - 36 - eg_NS) []).getD j 0)))
  else if i = 36 + 2 * eg_NS then .inl (9, (36, .inr (.inr (.inr (.inr (fun j => some j))))))
  else .inl (0, (36, .inl (fun j => eg_sw.getD j 0)))
def eg_at (G : eg_G) (i : Nat) : eg_C := if i < eg_NC then eg_con i else G.1 i
def eg_u (G : eg_G) (i : Nat) (c : eg_C) : eg_G := (fun j => if j = i then c else G.1 j, G.2)
def eg_p (G : eg_G) (c : eg_C) : eg_G := (fun j => if j = G.2 then c else G.1 j, G.2 + 1)
-- locals
def eg_nl (x : Option Value) : Option Value := match x with
  | some (.long _) => none
  | y => y
def eg_s1 : eg_Ls → Nat → Value → eg_Ls
  | [], _, _ => []
  | _ :: t, 0, v => some v :: t
  | x :: t, 1, v => eg_nl x :: eg_s1 t 0 v
  | x :: t, i + 2, v => x :: eg_s1 t (i + 1) v
def eg_s2 : eg_Ls → Nat → Value → eg_Ls
  | [], _, _ => []
  | [x], _, _ => [x]
  | _ :: _ :: t, 0, v => some v :: none :: t
  | x :: t, 1, v => eg_nl x :: eg_s2 t 0 v
  | x :: t, i + 2, v => x :: eg_s2 t (i + 1) v
def eg_ld (L : eg_Ls) (i : Nat) : Option Value := (L[i]?).join
-- numbers
def eg_tg (pc : Nat) (off : Int) : Nat := ((pc : Int) + off).toNat
def eg_rd (x : vp_A) (i : Nat) : Option Value := match x.2 with
  | .inl f => some (.int (f i))
  | .inr (.inl f) => some (.long (f i))
  | .inr (.inr (.inr (.inr f))) => some (va_rf (f i))
  | _ => none
/-- which instruction reads and writes which kinds of arrays -/
def eg_ak (ins : Instr) (t : Nat) : Bool := match ins with
  | .iaload => t == 0
  | .iastore => t == 0
  | .baload => t == 1 || t == 3
  | .bastore => t == 1 || t == 3
  | .caload => t == 4
  | .castore => t == 4
  | .laload => t == 2
  | .lastore => t == 2
  | .aaload => decide (5 ≤ t) && decide (t < 12)
  | .aastore => decide (5 ≤ t) && decide (t < 11)
  | _ => false
/-- the class of the objects that an array of this kind holds -/
def eg_el (t : Nat) : Nat := match t with
  | 5 => 6
  | 6 => 1
  | 7 => 9
  | 8 => 0
  | 9 => 12
  | 10 => 4
  | _ => 99
def eg_ek (ci : Nat) : Nat := match ci with
  | 6 => 5
  | 1 => 6
  | 9 => 7
  | 0 => 8
  | 12 => 9
  | 4 => 10
  | _ => 99
def eg_is (c : eg_C) (ci : Nat) : Bool := match c with
  | .inr (k, _) => k == ci
  | .inl _ => false
def eg_wr (G : eg_G) (t : Nat) (x : vp_A) (i : Nat) (v : Value) : Option vp_A := match x.2, v with
  | .inl f, .int z => match t with
    | 0 => some (x.1, .inl (upd f i z))
    | 1 => some (x.1, .inl (upd f i (vp_nar .byte z)))
    | 3 => some (x.1, .inl (upd f i (vp_nar .boolean z)))
    | 4 => some (x.1, .inl (upd f i (vp_nar .char z)))
    | _ => none
  | .inr (.inl f), .long z => if t = 2 then some (x.1, .inr (.inl (vp_updL f i z))) else none
  | .inr (.inr (.inr (.inr f))), .null => if 5 ≤ t ∧ t < 11 then some (x.1, .inr (.inr (.inr (.inr (va_up f i none))))) else none
  | .inr (.inr (.inr (.inr f))), .ref q => if q < G.2 ∧ 5 ≤ t ∧ t < 11 ∧ eg_is (eg_at G q) (eg_el t) = true then some (x.1, .inr (.inr (.inr (.inr (va_up f i (some q)))))) else none
  | _, _ => none
def eg_fit (ty : FieldType) (v : Value) : Bool := match ty, v with
  | .int, .int _ => true
  | .long, .long _ => true
  | .boolean, .int x => decide (x = 0) || decide (x = 1)
  | .object _, .null => true
  | .object _, .ref _ => true
  | .array _, .null => true
  | .array _, .ref _ => true
  | _, _ => false
def eg_ii (pc : Nat) (L : eg_Ls) (st : List Value) (G : eg_G) (ck sk : Nat) (f : Int32 → Int32 → Int32) : Option eg_S := match st with
  | .int y :: .int x :: r => some (pc + 1, L, .int (f x y) :: r, G, ck, sk)
  | _ => none
def eg_l2 (pc : Nat) (L : eg_Ls) (st : List Value) (G : eg_G) (ck sk : Nat) (f : Int64 → Int64 → Int64) : Option eg_S := match st with
  | .long y :: .long x :: r => some (pc + 1, L, .long (f x y) :: r, G, ck, sk)
  | _ => none
def eg_ls (pc : Nat) (L : eg_Ls) (st : List Value) (G : eg_G) (ck sk : Nat) (f : Int64 → Int32 → Int64) : Option eg_S := match st with
  | .int y :: .long x :: r => some (pc + 1, L, .long (f x y) :: r, G, ck, sk)
  | _ => none
def eg_li (pc : Nat) (L : eg_Ls) (st : List Value) (G : eg_G) (ck sk : Nat) (i : Nat) (len : Nat) : Option eg_S := match eg_ld L i with
  | some (.int x) => some (pc + len, L, .int x :: st, G, ck, sk)
  | _ => none
def eg_ll (pc : Nat) (L : eg_Ls) (st : List Value) (G : eg_G) (ck sk : Nat) (i : Nat) (len : Nat) : Option eg_S := match eg_ld L i with
  | some (.long x) => some (pc + len, L, .long x :: st, G, ck, sk)
  | _ => none
def eg_la (pc : Nat) (L : eg_Ls) (st : List Value) (G : eg_G) (ck sk : Nat) (i : Nat) (len : Nat) : Option eg_S := match eg_ld L i with
  | some (.ref x) => some (pc + len, L, .ref x :: st, G, ck, sk)
  | some .null => some (pc + len, L, .null :: st, G, ck, sk)
  | _ => none
def eg_si (pc : Nat) (L : eg_Ls) (st : List Value) (G : eg_G) (ck sk : Nat) (i : Nat) (len : Nat) : Option eg_S := match st with
  | .int x :: r => if i < L.length then some (pc + len, eg_s1 L i (.int x), r, G, ck, sk) else none
  | _ => none
def eg_sl2 (pc : Nat) (L : eg_Ls) (st : List Value) (G : eg_G) (ck sk : Nat) (i : Nat) (len : Nat) : Option eg_S := match st with
  | .long x :: r => if i + 1 < L.length then some (pc + len, eg_s2 L i (.long x), r, G, ck, sk) else none
  | _ => none
def eg_sa (pc : Nat) (L : eg_Ls) (st : List Value) (G : eg_G) (ck sk : Nat) (i : Nat) (len : Nat) : Option eg_S := match st with
  | .ref x :: r => if i < L.length then some (pc + len, eg_s1 L i (.ref x), r, G, ck, sk) else none
  | .null :: r => if i < L.length then some (pc + len, eg_s1 L i .null, r, G, ck, sk) else none
  | _ => none
def eg_kst (o idx : Nat) (len : Nat) (pc : Nat) (L : eg_Ls) (st : List Value) (G : eg_G) (ck sk : Nat) : Option eg_S := match (eg_kT.getD o []).lookup idx with
  | some v => some (pc + len, L, v :: st, G, ck, sk)
  | none => none
def eg_ar (ins : Instr) (pc : Nat) (L : eg_Ls) (st : List Value) (G : eg_G) (ck sk : Nat) : Option eg_S := match st with
  | .int i :: .ref a :: r => match eg_at G a with
    | .inl (t, x) => if a < G.2 ∧ eg_ak ins t = true ∧ 0 ≤ i.toInt ∧ i.toInt < x.1 then (match eg_rd x i.toNatClampNeg with
      | some v => some (pc + 1, L, v :: r, G, ck, sk)
      | none => none) else none
    | _ => none
  | _ => none
def eg_aw (ins : Instr) (pc : Nat) (L : eg_Ls) (st : List Value) (G : eg_G) (ck sk : Nat) : Option eg_S := match st with
  | v :: .int i :: .ref a :: r => match eg_at G a with
    | .inl (t, x) => if eg_NC ≤ a ∧ a < G.2 ∧ eg_ak ins t = true ∧ 0 ≤ i.toInt ∧ i.toInt < x.1 then (match eg_wr G t x i.toNatClampNeg v with
      | some y => some (pc + 1, L, r, eg_u G a (.inl (t, y)), ck, sk)
      | none => none) else none
    | _ => none
  | _ => none
def eg_gf (o idx : Nat) (pc : Nat) (L : eg_Ls) (st : List Value) (G : eg_G) (ck sk : Nat) : Option eg_S := match (eg_fT.getD o []).lookup idx with
  | some (ci, k, _) => (match st with
    | .ref a :: r => (match eg_at G a with
      | .inr (cj, fs) => if a < G.2 ∧ cj = ci then (match fs[k]? with
        | some v => some (pc + 3, L, v :: r, G, ck, sk)
        | none => none) else none
      | _ => none)
    | _ => none)
  | none => none
def eg_pf (o : Nat) (ini : Bool) (idx : Nat) (pc : Nat) (L : eg_Ls) (st : List Value) (G : eg_G) (ck sk : Nat) : Option eg_S := match (eg_fT.getD o []).lookup idx with
  | some (ci, k, hh) => (match st with
    | v :: .ref a :: r => (match eg_at G a with
      | .inr (cj, fs) => if eg_NC ≤ a ∧ a < G.2 ∧ cj = ci ∧ k < fs.length ∧ eg_fit ((eg_yl.getD ci (fun _ => .int)) k) v = true ∧ ((eg_fd ci k).2.2.2 = false ∨ (ini = true ∧ hh = none ∧ (eg_fd ci k).1 = eg_on o)) then
          some (pc + 3, L, r, eg_u G a (.inr (ci, fs.set k v)), ck, sk) else none
      | _ => none)
    | _ => none)
  | none => none
def eg_nc (n : Nat) (ci : Nat) : List Value := (List.range n).map (fun j => defaultValue ((eg_yl.getD ci (fun _ => .int)) j))
def eg_al (mc ms : Nat) (pc len : Nat) (L : eg_Ls) (st : List Value) (G : eg_G) (ck sk : Nat) (n : Nat) (c : eg_C) : Option eg_S :=
  if ck + 1 ≤ mc ∧ sk + n ≤ ms then some (pc + len, L, .ref G.2 :: st, eg_p G c, ck + 1, sk + n) else none
def eg_na (t : ArrayType) : Option (Nat × (Nat → vp_A)) := match t with
  | .int => some (0, fun n => (n, .inl (fun _ => 0)))
  | .byte => some (1, fun n => (n, .inl (fun _ => 0)))
  | .long => some (2, fun n => (n, .inr (.inl (fun _ => 0))))
  | .boolean => some (3, fun n => (n, .inl (fun _ => 0)))
  | .char => some (4, fun n => (n, .inl (fun _ => 0)))
  | _ => none
/-- one step, but calls, answers and throws: o the class of the code, ini whether it is a constructor, mc and ms the room -/
def eg_st (o : Nat) (ini : Bool) (mc ms : Nat) (pc len : Nat) (ins : Instr) (L : eg_Ls) (st : List Value) (G : eg_G) (ck sk : Nat) : Option eg_S := match ins with
  | .iconst n => some (pc + 1, L, .int (Int32.ofInt n) :: st, G, ck, sk)
  | .bipush n => some (pc + 2, L, .int (Int8.ofInt n).toInt32 :: st, G, ck, sk)
  | .sipush n => some (pc + 3, L, .int (Int16.ofInt n).toInt32 :: st, G, ck, sk)
  | .lconst n => some (pc + 1, L, .long (Int64.ofNat n) :: st, G, ck, sk)
  | .aconst_null => some (pc + 1, L, .null :: st, G, ck, sk)
  | .ldc i => eg_kst o i 2 pc L st G ck sk
  | .ldc_w i => eg_kst o i 3 pc L st G ck sk
  | .ldc2_w i => eg_kst o i 3 pc L st G ck sk
  | .iload i => eg_li pc L st G ck sk i 2
  | .iload_n i => eg_li pc L st G ck sk i 1
  | .lload i => eg_ll pc L st G ck sk i 2
  | .lload_n i => eg_ll pc L st G ck sk i 1
  | .aload i => eg_la pc L st G ck sk i 2
  | .aload_n i => eg_la pc L st G ck sk i 1
  | .istore i => eg_si pc L st G ck sk i 2
  | .istore_n i => eg_si pc L st G ck sk i 1
  | .lstore i => eg_sl2 pc L st G ck sk i 2
  | .lstore_n i => eg_sl2 pc L st G ck sk i 1
  | .astore i => eg_sa pc L st G ck sk i 2
  | .astore_n i => eg_sa pc L st G ck sk i 1
  | .iinc i n => (match eg_ld L i with
    | some (.int x) => if len = 3 ∧ i < L.length then some (pc + 3, eg_s1 L i (.int (x + Int32.ofInt n)), st, G, ck, sk) else none
    | _ => none)
  | .iadd => eg_ii pc L st G ck sk (fun x y => x + y)
  | .isub => eg_ii pc L st G ck sk (fun x y => x - y)
  | .imul => eg_ii pc L st G ck sk (fun x y => x * y)
  | .iand => eg_ii pc L st G ck sk (fun x y => x &&& y)
  | .ior => eg_ii pc L st G ck sk (fun x y => x ||| y)
  | .ixor => eg_ii pc L st G ck sk (fun x y => x ^^^ y)
  | .ishl => eg_ii pc L st G ck sk (fun x y => x <<< (y &&& 31))
  | .ishr => eg_ii pc L st G ck sk (fun x y => x >>> (y &&& 31))
  | .iushr => eg_ii pc L st G ck sk (fun x y => (x.toUInt32 >>> (y.toUInt32 &&& Int32.toUInt32 31)).toInt32)
  | .idiv => (match st with
    | .int y :: .int x :: r => if y = 0 then none else some (pc + 1, L, .int (x / y) :: r, G, ck, sk)
    | _ => none)
  | .irem => (match st with
    | .int y :: .int x :: r => if y = 0 then none else some (pc + 1, L, .int (x - x / y * y) :: r, G, ck, sk)
    | _ => none)
  | .ineg => (match st with
    | .int x :: r => some (pc + 1, L, .int (-x) :: r, G, ck, sk)
    | _ => none)
  | .ladd => eg_l2 pc L st G ck sk (fun x y => x + y)
  | .lsub => eg_l2 pc L st G ck sk (fun x y => x - y)
  | .lmul => eg_l2 pc L st G ck sk (fun x y => x * y)
  | .land => eg_l2 pc L st G ck sk (fun x y => x &&& y)
  | .lor => eg_l2 pc L st G ck sk (fun x y => x ||| y)
  | .lshl => eg_ls pc L st G ck sk (fun x y => x <<< (y.toInt64 &&& 63))
  | .lshr => eg_ls pc L st G ck sk (fun x y => x >>> (y.toInt64 &&& 63))
  | .lushr => eg_ls pc L st G ck sk (fun x y => (x.toUInt64 >>> (y.toInt64.toUInt64 &&& Int64.toUInt64 63)).toInt64)
  | .ldiv => (match st with
    | .long y :: .long x :: r => if y = 0 then none else some (pc + 1, L, .long (x / y) :: r, G, ck, sk)
    | _ => none)
  | .lcmp => (match st with
    | .long y :: .long x :: r => some (pc + 1, L, .int (lg_cmp x y) :: r, G, ck, sk)
    | _ => none)
  | .i2l => (match st with
    | .int x :: r => some (pc + 1, L, .long x.toInt64 :: r, G, ck, sk)
    | _ => none)
  | .l2i => (match st with
    | .long x :: r => some (pc + 1, L, .int x.toInt32 :: r, G, ck, sk)
    | _ => none)
  | .i2b => (match st with
    | .int x :: r => some (pc + 1, L, .int x.toInt8.toInt32 :: r, G, ck, sk)
    | _ => none)
  | .i2c => (match st with
    | .int x :: r => some (pc + 1, L, .int (x.toUInt32 % 65536).toInt32 :: r, G, ck, sk)
    | _ => none)
  | .dup => (match st with
    | v :: r => if v.category = 1 then some (pc + 1, L, v :: v :: r, G, ck, sk) else none
    | _ => none)
  | .pop => (match st with
    | v :: r => if v.category = 1 then some (pc + 1, L, r, G, ck, sk) else none
    | _ => none)
  | .dup2 => (match st with
    | v :: w :: r => if v.category = 1 ∧ w.category = 1 then some (pc + 1, L, v :: w :: v :: w :: r, G, ck, sk) else none
    | _ => none)
  | .goto off => if 0 ≤ (pc : Int) + off then some (eg_tg pc off, L, st, G, ck, sk) else none
  | .ifCond c off => (match st with
    | .int x :: r => if 0 ≤ (pc : Int) + off then some (match c with
      | .eq => (if x = 0 then eg_tg pc off else pc + 3)
      | .ne => (if ¬ x = 0 then eg_tg pc off else pc + 3)
      | .lt => (if x < 0 then eg_tg pc off else pc + 3)
      | .ge => (if 0 ≤ x then eg_tg pc off else pc + 3)
      | .gt => (if 0 < x then eg_tg pc off else pc + 3)
      | .le => (if x ≤ 0 then eg_tg pc off else pc + 3), L, r, G, ck, sk) else none
    | _ => none)
  | .if_icmp c off => (match st with
    | .int y :: .int x :: r => if 0 ≤ (pc : Int) + off then some (match c with
      | .eq => (if x = y then eg_tg pc off else pc + 3)
      | .ne => (if ¬ x = y then eg_tg pc off else pc + 3)
      | .lt => (if x < y then eg_tg pc off else pc + 3)
      | .ge => (if y ≤ x then eg_tg pc off else pc + 3)
      | .gt => (if y < x then eg_tg pc off else pc + 3)
      | .le => (if x ≤ y then eg_tg pc off else pc + 3), L, r, G, ck, sk) else none
    | _ => none)
  | .if_acmp c off => (match st with
    | w :: v :: r => if 0 ≤ (pc : Int) + off ∧ v.isRef = true ∧ w.isRef = true then some (match c with
      | .eq => (if v = w then eg_tg pc off else pc + 3)
      | .ne => (if ¬ v = w then eg_tg pc off else pc + 3), L, r, G, ck, sk) else none
    | _ => none)
  | .ifnull off => (match st with
    | .null :: r => if 0 ≤ (pc : Int) + off then some (eg_tg pc off, L, r, G, ck, sk) else none
    | .ref _ :: r => some (pc + 3, L, r, G, ck, sk)
    | _ => none)
  | .ifnonnull off => (match st with
    | .ref _ :: r => if 0 ≤ (pc : Int) + off then some (eg_tg pc off, L, r, G, ck, sk) else none
    | .null :: r => some (pc + 3, L, r, G, ck, sk)
    | _ => none)
  | .tableswitch d lo hi offs => (match st with
    | .int x :: r => if x.toInt < lo ∨ hi < x.toInt then (if 0 ≤ (pc : Int) + d then some (eg_tg pc d, L, r, G, ck, sk) else none) else (match offs[(x.toInt - lo).toNat]? with
      | some off => if 0 ≤ (pc : Int) + off then some (eg_tg pc off, L, r, G, ck, sk) else none
      | none => none)
    | _ => none)
  | .lookupswitch d ps => (match st with
    | .int x :: r => if (ps.toList.zip (ps.toList.drop 1)).all (fun (a, next) => a.1 < next.1) = true ∧ 0 ≤ (pc : Int) + Op.lookupswitch.offset ps.toList d x.toInt then some (eg_tg pc (Op.lookupswitch.offset ps.toList d x.toInt), L, r, G, ck, sk) else none
    | _ => none)
  | .iaload => eg_ar .iaload pc L st G ck sk
  | .baload => eg_ar .baload pc L st G ck sk
  | .caload => eg_ar .caload pc L st G ck sk
  | .laload => eg_ar .laload pc L st G ck sk
  | .aaload => eg_ar .aaload pc L st G ck sk
  | .iastore => eg_aw .iastore pc L st G ck sk
  | .bastore => eg_aw .bastore pc L st G ck sk
  | .castore => eg_aw .castore pc L st G ck sk
  | .lastore => eg_aw .lastore pc L st G ck sk
  | .aastore => eg_aw .aastore pc L st G ck sk
  | .arraylength => (match st with
    | .ref a :: r => (match eg_at G a with
      | .inl (t, x) => if a < G.2 ∧ t < 12 then some (pc + 1, L, .int (Int32.ofNat x.1) :: r, G, ck, sk) else none
      | _ => none)
    | _ => none)
  | .getfield i => eg_gf o i pc L st G ck sk
  | .putfield i => eg_pf o ini i pc L st G ck sk
  | .getstatic i => (match (eg_sT.getD o []).lookup i with
    | some (k, _) => (match eg_sv[k]? with
      | some (_, _, _, v) => some (pc + 3, L, v :: st, G, ck, sk)
      | none => none)
    | none => none)
  | .new i => (match (eg_cT.getD o []).lookup i with
    | some ci => if ci < 12 then eg_al mc ms pc 3 L st G ck sk (eg_cl.getD ci ("", eg_T0, 0)).2.2 (.inr (ci, eg_nc (eg_cl.getD ci ("", eg_T0, 0)).2.2 ci)) else none
    | none => none)
  | .newarray t => (match st, eg_na t with
    | .int n :: r, some (k, f) => if 0 ≤ n.toInt ∧ n.toInt ≤ 65536 then eg_al mc ms pc 2 L r G ck sk n.toNatClampNeg (.inl (k, f n.toNatClampNeg)) else none
    | _, _ => none)
  | .anewarray i => (match st, (eg_cT.getD o []).lookup i with
    | .int n :: r, some ci => if 0 ≤ n.toInt ∧ n.toInt ≤ 65536 ∧ 5 ≤ eg_ek ci ∧ eg_ek ci < 11 then eg_al mc ms pc 3 L r G ck sk n.toNatClampNeg (.inl (eg_ek ci, (n.toNatClampNeg, .inr (.inr (.inr (.inr (fun _ => none))))))) else none
    | _, _ => none)
  | .multianewarray i 2 => (match st, (eg_cT.getD o []).lookup i with
    | .int k :: .int n :: r, some 30 => if 0 ≤ n.toInt ∧ n.toInt ≤ 65536 ∧ 0 ≤ k.toInt ∧ k.toInt ≤ 65536 ∧ ck + (1 + n.toNatClampNeg) ≤ mc ∧ sk + (n.toNatClampNeg + n.toNatClampNeg * k.toNatClampNeg) ≤ ms then
        some (pc + 4, L, .ref G.2 :: r, (fun j => if j < G.2 then G.1 j else if j = G.2 then .inl (11, (n.toNatClampNeg, .inr (.inr (.inr (.inr (fun i => if i < n.toNatClampNeg then some (G.2 + 1 + i) else none)))))) else if j < G.2 + 1 + n.toNatClampNeg then .inl (0, (k.toNatClampNeg, .inl (fun _ => 0))) else G.1 j, G.2 + 1 + n.toNatClampNeg), ck + 1 + n.toNatClampNeg, sk + n.toNatClampNeg + n.toNatClampNeg * k.toNatClampNeg) else none
    | _, _ => none)
  | _ => none
theorem i_vc : Claimed_1_1 ∧ Claimed_1_2 := sorry
end
