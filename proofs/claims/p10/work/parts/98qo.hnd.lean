/-! FUNCTIONAL: pieces of conditions, what they say. A piece's own `next` is not its own -/
def kpl (G : eg_G) (a i : Nat) (v : Value) : Prop := et_pl (eg_at G a) i = some v
/-- a chain by next -/
def ch (G : eg_G) : Value → List Nat → Prop
  | v, [] => v = .null
  | v, c :: cs => v = .ref c ∧ ∃ v', kpl G c 1 v' ∧ ch G v' cs
/-- a PART -/
def pt (G : eg_G) (a : Nat) (f : sp_E → Int64) : Prop := ∃ n : Nat, n < 10000 ∧ kpl G a 5 (.int (Int32.ofNat n)) ∧ ((kpl G a 4 .null ∧ f = fun _ => Int64.ofNat n) ∨ ∃ w, sp_fw w = true ∧ kpl G a 4 (.ref w) ∧ f = fun e => Int64.ofNat n * e.1 w)
/-- a sum, its PARTS between lo and hi -/
def sm (G : eg_G) (lo hi : Nat) (v : Value) (f : sp_E → Int64) : Prop := ∃ ps : List (Nat × (sp_E → Int64)), ch G v (ps.map (·.1)) ∧ (∀ p ∈ ps, lo ≤ p.1 ∧ p.1 < hi ∧ pt G p.1 p.2) ∧ f = fun e => ps.foldl (fun s p => s + p.2 e) 0
def dn (G : eg_G) : Nat → Nat → Nat → Nat → (sp_E → Bool) → Prop
  | 0, _, _, _, _ => False
  | n + 1, lo, hi, b, f => (lo ≤ b ∧ b < hi) ∧ (
      (∃ w v : Nat, sp_tw w = true ∧ v ≤ 15 ∧ kpl G b 0 (.int (Int32.ofNat 3)) ∧ kpl G b 4 (.ref w) ∧ kpl G b 5 (.int (Int32.ofNat v)) ∧ f = fun e => if w = 2 then e.2.2 v else e.2.1 w) ∨
      (∃ (k : Nat) (A B : sp_E → Int64) (p q : Value), (k = 4 ∨ k = 5) ∧ kpl G b 0 (.int (Int32.ofNat k)) ∧ kpl G b 2 p ∧ kpl G b 3 q ∧ sm G lo b p A ∧ sm G (b + 1) hi q B ∧ f = fun e => if k = 4 then decide (A e < B e) else decide (B e < A e)) ∨
      (∃ (k : Nat) (cs : List (Nat × ((Nat × Nat) × (sp_E → Bool)))) (p : Value), k ≤ 2 ∧ kpl G b 0 (.int (Int32.ofNat k)) ∧ kpl G b 2 p ∧ ch G p (cs.map (·.1)) ∧ (∀ c ∈ cs, b < c.2.1.1 ∧ c.2.1.2 ≤ hi ∧ dn G n c.2.1.1 c.2.1.2 c.1 c.2.2) ∧ (cs.map (·.2.1)).Pairwise (fun x y => x.2 ≤ y.1) ∧ (k = 2 → cs.length = 1) ∧ f = fun e => if k = 0 then cs.any (fun c => c.2.2 e) else if k = 1 then cs.all (fun c => c.2.2 e) else !(cs.all (fun c => c.2.2 e))))
/-- the same places between lo and hi, but b's next -/
def ag (G G' : eg_G) (lo hi b : Nat) : Prop := ∀ a, lo ≤ a → a < hi → ∀ i, ¬ (a = b ∧ i = 1) → et_pl (eg_at G' a) i = et_pl (eg_at G a) i
def agf (G G' : eg_G) (lo hi : Nat) : Prop := ∀ a, lo ≤ a → a < hi → ∀ i, et_pl (eg_at G' a) i = et_pl (eg_at G a) i
theorem agf.ag {G G' : eg_G} {lo hi b : Nat} (h : agf G G' lo hi) : ag G G' lo hi b := fun a h1 h2 i _ => h a h1 h2 i
theorem xf.agf {S : Nat → Nat → Prop} {G G' : eg_G} {lo hi : Nat} (h : xf S G G') (hh : hi ≤ G.2) (hS : ∀ a j, lo ≤ a → a < hi → ¬ S a j) : agf G G' lo hi := fun a h1 h2 i => h.2 a i (by omega) (hS a i h1 h2)
theorem ch.fr {G G' : eg_G} : ∀ {cs : List Nat} {v : Value}, ch G v cs → (∀ c ∈ cs, et_pl (eg_at G' c) 1 = et_pl (eg_at G c) 1) → ch G' v cs
  | [], _, h, _ => h
  | c :: cs, v, ⟨e, v', h1, h2⟩, hs => ⟨e, v', (hs c List.mem_cons_self).trans h1, h2.fr (fun c' hc => hs c' (List.mem_cons_of_mem _ hc))⟩
theorem pt.fr {G G' : eg_G} {a : Nat} {f : sp_E → Int64} (h : pt G a f) (h4 : et_pl (eg_at G' a) 4 = et_pl (eg_at G a) 4) (h5 : et_pl (eg_at G' a) 5 = et_pl (eg_at G a) 5) : pt G' a f := by
  obtain ⟨n, hn, h1, h2⟩ := h
  refine ⟨n, hn, h5.trans h1, ?_⟩
  rcases h2 with ⟨h3, e⟩ | ⟨w, hw, h3, e⟩
  · exact .inl ⟨h4.trans h3, e⟩
  · exact .inr ⟨w, hw, h4.trans h3, e⟩
theorem sm.fr {G G' : eg_G} {lo hi : Nat} {v : Value} {f : sp_E → Int64} (h : sm G lo hi v f) (ha : agf G G' lo hi) : sm G' lo hi v f := by
  obtain ⟨ps, h1, h2, h3⟩ := h
  refine ⟨ps, h1.fr (fun c hc => ?_), fun p hp => ⟨(h2 p hp).1, (h2 p hp).2.1, (h2 p hp).2.2.fr (ha _ (h2 p hp).1 (h2 p hp).2.1 4) (ha _ (h2 p hp).1 (h2 p hp).2.1 5)⟩, h3⟩
  obtain ⟨p, hp, rfl⟩ := List.mem_map.mp hc
  exact ha _ (h2 p hp).1 (h2 p hp).2.1 1
theorem sm.wk {G : eg_G} {lo hi lo' hi' : Nat} {v : Value} {f : sp_E → Int64} (h : sm G lo hi v f) (h1 : lo' ≤ lo) (h2 : hi ≤ hi') : sm G lo' hi' v f := by
  obtain ⟨ps, h3, h4, h5⟩ := h
  exact ⟨ps, h3, fun p hp => ⟨by have := (h4 p hp).1; omega, by have := (h4 p hp).2.1; omega, (h4 p hp).2.2⟩, h5⟩
theorem dn.fr {G G' : eg_G} : ∀ {n lo hi b : Nat} {f : sp_E → Bool}, dn G n lo hi b f → ag G G' lo hi b → dn G' n lo hi b f
  | 0, _, _, _, _, h, _ => h
  | n + 1, lo, hi, b, f, ⟨hb, h⟩, ha => by
    have hbb : ∀ i, ¬ i = 1 → et_pl (eg_at G' b) i = et_pl (eg_at G b) i := fun i hi => ha b hb.1 hb.2 i (fun h => hi h.2)
    refine ⟨hb, ?_⟩
    rcases h with ⟨w, v, h1, h2, h3, h4, h5, h6⟩ | ⟨k, A, B, p, q, h1, h2, h3, h4, h5, h6, h7⟩ | ⟨k, cs, p, h1, h2, h3, h4, h5, h6, h7, h8⟩
    · exact .inl ⟨w, v, h1, h2, (hbb 0 (by decide)).trans h3, (hbb 4 (by decide)).trans h4, (hbb 5 (by decide)).trans h5, h6⟩
    · exact .inr (.inl ⟨k, A, B, p, q, h1, (hbb 0 (by decide)).trans h2, (hbb 2 (by decide)).trans h3, (hbb 3 (by decide)).trans h4, h5.fr (fun a a1 a2 i => ha a a1 (by omega) i (by omega)), h6.fr (fun a a1 a2 i => ha a (by omega) a2 i (by omega)), h7⟩)
    · refine .inr (.inr ⟨k, cs, p, h1, (hbb 0 (by decide)).trans h2, (hbb 2 (by decide)).trans h3, h4.fr (fun c hc => ?_), fun c hc => ⟨(h5 c hc).1, (h5 c hc).2.1, (h5 c hc).2.2.fr (fun a a1 a2 i _ => ha a (by have := (h5 c hc).1; omega) (by have := (h5 c hc).2.1; omega) i (by have := (h5 c hc).1; omega))⟩, h6, h7, h8⟩)
      obtain ⟨q, hq, rfl⟩ := List.mem_map.mp hc
      obtain ⟨g1, g2, g3⟩ := h5 q hq
      have hq2 : q.2.1.1 ≤ q.1 ∧ q.1 < q.2.1.2 := by
        cases n with
        | zero => exact absurd g3 id
        | succ n => exact g3.1
      exact ha q.1 (by omega) (by omega) 1 (by omega)
theorem dn.in {G : eg_G} {n lo hi b : Nat} {f : sp_E → Bool} (h : dn G n lo hi b f) : lo ≤ b ∧ b < hi := by
  cases n with
  | zero => exact absurd h id
  | succ n => exact h.1
theorem dn.wk {G : eg_G} {n lo hi lo' hi' b : Nat} {f : sp_E → Bool} (h : dn G n lo hi b f) (h1 : lo' ≤ lo) (h2 : hi ≤ hi') : dn G n lo' hi' b f := by
  cases n with
  | zero => exact h
  | succ n =>
    obtain ⟨hb, h⟩ := h
    refine ⟨⟨by omega, by omega⟩, ?_⟩
    rcases h with h | ⟨k, A, B, p, q, h3, h4, h5, h6, h7, h8, h9⟩ | ⟨k, cs, p, h3, h4, h5, h6, h7, h8⟩
    · exact .inl h
    · exact .inr (.inl ⟨k, A, B, p, q, h3, h4, h5, h6, h7.wk h1 (Nat.le_refl _), h8.wk (Nat.le_refl _) h2, h9⟩)
    · exact .inr (.inr ⟨k, cs, p, h3, h4, h5, h6, fun c hc => ⟨(h7 c hc).1, by have := (h7 c hc).2.1; omega, (h7 c hc).2.2⟩, h8⟩)
theorem dn.up {G : eg_G} : ∀ {n m lo hi b : Nat} {f : sp_E → Bool}, dn G n lo hi b f → n ≤ m → dn G m lo hi b f
  | 0, _, _, _, _, _, h, _ => absurd h id
  | n + 1, 0, _, _, _, _, _, h => absurd h (by omega)
  | n + 1, m + 1, lo, hi, b, f, ⟨hb, h⟩, hm => by
    refine ⟨hb, ?_⟩
    rcases h with h | h | ⟨k, cs, p, h3, h4, h5, h6, h7, h8⟩
    · exact .inl h
    · exact .inr (.inl h)
    · exact .inr (.inr ⟨k, cs, p, h3, h4, h5, h6, fun c hc => ⟨(h7 c hc).1, (h7 c hc).2.1, (h7 c hc).2.2.up (by omega)⟩, h8⟩)
def fzm {α : Type} (rd : Nat) (L : List sp_T) (x : Nat) (R : α → eg_G → Nat → Prop) (sp : Option (α × List sp_T)) (K' : et_K) (G' : eg_G) (v : Value) : Prop := match sp with
  | none => v = .null ∧ ∃ q, q ≤ 400 ∧ et_pl (eg_at G' rd) 2 = some (.int (Int32.ofNat q))
  | some (f, r) => ∃ y b, r = L.drop y ∧ x < y ∧ y ≤ L.length ∧ et_pl (eg_at G' rd) 8 = some (.int (Int32.ofNat y)) ∧ et_pl (eg_at G' rd) 2 = some (.int (-1)) ∧ v = .ref b ∧ K' b = some 6 ∧ R f G' b
/-- how a call of the parser ends: what its text says, or what is wrong -/
def fz {α : Type} (rd : Nat) (L : List sp_T) (x : Nat) (K : et_K) (G : eg_G) (R : α → eg_G → Nat → Prop) (sp : Option (α × List sp_T)) (u : eg_O) : Prop := ∃ (K' : et_K) (G' : eg_G) (v : Value) (c s : Nat), u = (.inl (some v), G', c, s) ∧ et_ex K K' ∧ et_H et_TT K' G' ∧ xf (rxS rd) G G' ∧ fzm rd L x R sp K' G' v
def fS (lo : Nat) (f : sp_E → Int64) (G' : eg_G) (b : Nat) : Prop := sm G' lo G'.2 (.ref b) f ∧ lo ≤ b
def fB (n lo : Nat) (f : sp_E → Bool) (G' : eg_G) (b : Nat) : Prop := dn G' n lo G'.2 b f ∧ kpl G' b 1 .null
theorem fz_cb {α : Type} {d k pc ck sk rd x t : Nat} {L : eg_Ls} {r : List Value} {K : et_K} {G : eg_G} {Z : eg_O → Prop} {Ts : List sp_T} {R : α → eg_G → Nat → Prop} {sp : Option (α × List sp_T)} {u : eg_O} (ht : t ≤ 2) (hu : pp_Z t K G rd x u ∧ fz rd Ts x K G R sp u) (hk : ∀ (K' : et_K) (G' : eg_G) (v : Value) (c s : Nat), et_ex K K' → et_H et_TT K' G' → xf (rxS rd) G G' → c ≤ 806 → s ≤ 6 * c → fzm rd Ts x R sp K' G' v → et_go none d k (pc + 3) L (v :: r) G' (ck + c) (sk + s) Z) : hs_cont d k pc L r ck sk Z u := by
  obtain ⟨hp, K', G', v, c, s, e, g1, g2, g3, g4⟩ := hu
  subst e
  obtain ⟨K1, v1, y, e1, p1, p2, p3, p4, h5, h6, h7, h8⟩ := hp
  have hc : c ≤ 806 := by
    rcases h8 with ⟨-, h9⟩ | ⟨b, -, -, -, h9⟩
    · have h9 : c + 2 * x ≤ 2 * y + 1 + t := h9
      omega
    · have h9 : c + 1 + 2 * x ≤ 2 * y + t := h9
      omega
  exact hs_cb (hk K' G' v c s g1 g2 g3 hc h7 g4)
theorem hf_newN {d k pc ck sk p : Nat} {L : eg_Ls} {st : List Value} {K : et_K} {G : eg_G} {Z : eg_O → Prop} (hc : hs_nw k pc = some (4, p)) (h1 : ck + 1 ≤ 600002) (h2 : sk + 6 ≤ 7302232) (hH : et_H et_TT K G) (h : ∀ (K' : et_K) (G' : eg_G), et_ex K K' → xf (fun _ _ => False) G G' → et_H et_TT K' G' → K' G.2 = some 6 → G'.2 = G.2 + 1 → kpl G' G.2 1 .null ∧ kpl G' G.2 2 .null ∧ kpl G' G.2 3 .null ∧ kpl G' G.2 4 .null ∧ kpl G' G.2 5 (.int (Int32.ofNat 0)) → et_go none d k p L (.ref G.2 :: st) G' (ck + 1) (sk + 6) Z) : et_go none d k pc L st G ck sk Z := by
  have e6 : hs_cl 4 = 6 := by decide +kernel
  have h3 := et_H1 (M := []) (t := 6) hH (by decide) rfl (et_c4 (K := K)) ⟨fun _ b hb => (by cases hb), fun h => absurd h (by decide)⟩
  refine hs_new hc h1 (by rw [e6]; exact h2) ?_
  rw [et_nc4, e6]
  have e : eg_at (eg_p G (.inr (4, [.int 0, .null, .null, .null, .null, .int 0]))) G.2 = .inr (4, [.int 0, .null, .null, .null, .null, .int 0]) := et_at_ps hH.1
  refine h (et_kn K G.2 6) _ h3.1 ⟨Nat.le_succ _, fun a i ha _ => by rw [et_at_p ha]⟩ h3.2.2 (if_pos rfl) rfl ⟨?_, ?_, ?_, ?_, ?_⟩ <;> (unfold kpl; rw [e]; rfl)
theorem hf_next {d k pc ck sk a b p : Nat} {ty : FieldType} {L : eg_Ls} {r : List Value} {K : et_K} {G : eg_G} {Z : eg_O → Prop} (hc : hs_pi k pc = some (4, 1, ty, p)) (hf : eg_fit ty (.ref b) = true) (hH : et_H et_TT K G) (ha : K a = some 6) (hb : K b = some 6) (hlt : a < b) (h : ∀ G', et_H et_TT K G' → xf (fun c j => c = a ∧ j = 1) G G' → kpl G' a 1 (.ref b) → G'.2 = G.2 → et_go none d k p L r G' ck sk Z) : et_go none d k pc L (.ref b :: .ref a :: r) G ck sk Z := by
  obtain ⟨g1, -, g3, dd, hd, hcc, hcx⟩ := hH.2.2 a 6 ha
  cases hd
  obtain ⟨fs, e, el, ef⟩ := hcc
  have el6 : fs.length = 6 := el
  have hlt1 : 1 < fs.length := by omega
  have hpl : ∀ i, ¬ i = 1 → et_pl (.inr (4, fs.set 1 (.ref b))) i = et_pl (eg_at G a) i := fun i hi => by
    rw [e]
    show (fs.set 1 (.ref b))[i]? = fs[i]?
    rw [List.getElem?_set_ne (fun h => hi h.symm)]
  refine hs_put hc e ⟨g3 (by decide), g1⟩ hlt1 hf (h _ (et_H_u hH ha (by decide) rfl ⟨_, rfl, by rw [List.length_set]; exact el, fun j p2 hj => ?_⟩ ⟨fun _ b' hb' => ?_, fun h => absurd h (by decide)⟩) ⟨Nat.le_refl _, fun c i hc2 hi => ?_⟩ ?_ rfl)
  · by_cases e2 : 1 = j
    · subst e2
      cases hj
      exact ⟨_, List.getElem?_set_self hlt1, .inr (.inr ⟨by decide, _, rfl, hb⟩)⟩
    · rw [List.getElem?_set_ne e2]
      exact ef j p2 hj
  · have hb' : (fs.set 1 (.ref b))[1]? = some (.ref b') := hb'
    rw [List.getElem?_set_self hlt1] at hb'
    cases hb'
    exact hlt
  · by_cases e3 : c = a
    · subst e3
      rw [et_at_us (g3 (by decide))]
      exact hpl i (fun h => hi ⟨rfl, h⟩)
    · rw [et_at_u e3]
  · unfold kpl
    rw [et_at_us (g3 (by decide))]
    exact List.getElem?_set_self hlt1
theorem fc_nod {d2 o : Nat} {x : Int32} {K : et_K} {G : eg_G} (hH : et_H et_TT K G) (k_o : K o = some 6) : et_go none d2 61 0 (eg_en (eg_mL 61) [.ref o, .int x]) [] G 0 0 (xw_Z (fun b j => (b = o ∧ j = 0)) K G (fun G' v => v = none ∧ kpl G' o 0 (.int x))) := by
  rw [show eg_mL 61 = 2 from by decide +kernel]
  show et_go none d2 61 0 [some (.ref o), some (.int x)] [] G 0 0 _
  refine hs_aload (i := 0) (p := 1) (by decide +kernel) rfl ?_
  refine hs_skip (lk := 2) (p := 4) (by decide +kernel) rfl rfl ?_
  refine hs_aload (i := 0) (p := 5) (by decide +kernel) rfl ?_
  refine hs_iload (i := 1) (p := 6) (by decide +kernel) rfl ?_
  obtain ⟨g1, -, g3, dd, hd, hcc, hcx⟩ := hH.2.2 o 6 k_o
  cases hd
  obtain ⟨fs, e, el, ef⟩ := hcc
  have el6 : fs.length = 6 := el
  have hpl : ∀ i, ¬ i = 0 → et_pl (.inr (4, fs.set 0 (.int x))) i = et_pl (eg_at G o) i := fun i hi => by
    rw [e]
    show (fs.set 0 (.int x))[i]? = fs[i]?
    rw [List.getElem?_set_ne (fun h => hi h.symm)]
  refine hs_putj (ci := 4) (f := 0) (ty := .int) (p := 9) (by decide +kernel) e ⟨g3 (by decide), g1⟩ (by omega) rfl ?_
  refine hs_vret (by decide +kernel) ?_
  refine ⟨_, _, rfl, et_H_u hH k_o (by decide) rfl ⟨_, rfl, by rw [List.length_set]; exact el, fun j p2 hj => ?_⟩ (et_cx_u (K := K) hcx ⟨fs, e, el, ef⟩ (fun i hi => hpl i (fun h => by
    rw [h] at hi
    cases hi))), ⟨Nat.le_refl _, fun c i hc2 hi => ?_⟩, rfl, ?_⟩
  · by_cases e2 : 0 = j
    · subst e2
      cases hj
      exact ⟨_, List.getElem?_set_self (by omega), .inr hi_any⟩
    · rw [List.getElem?_set_ne e2]
      exact ef j p2 hj
  · by_cases e3 : c = o
    · subst e3
      rw [et_at_us (g3 (by decide))]
      exact hpl i (fun h => hi ⟨rfl, h⟩)
    · rw [et_at_u e3]
  · unfold kpl
    rw [et_at_us (g3 (by decide))]
    exact List.getElem?_set_self (by omega)
