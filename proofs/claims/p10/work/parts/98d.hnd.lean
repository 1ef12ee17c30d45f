/-! BY HAND: the parser, what it is made of -/
section HPA
variable {d k pc ck sk : Nat} {L : eg_Ls} {st r : List Value} {G : eg_G} {Z : eg_O → Prop}
def hs_nw (k pc : Nat) : Option (Nat × Nat) := match eg_cd k pc with
  | some (.new i, 3) => (match (eg_cT.getD (eg_mo k) []).lookup i with
    | some ci => if ci < 12 ∧ (eg_th k pc (.new i)).isNone = true then some (ci, pc + 3) else none
    | none => none)
  | _ => none
def hs_cl (ci : Nat) : Nat := (eg_cl.getD ci ("", eg_T0, 0)).2.2
theorem hs_new {ci p : Nat} (hc : hs_nw k pc = some (ci, p)) (h1 : ck + 1 ≤ eg_MC) (h2 : sk + hs_cl ci ≤ eg_MS) (h : et_go none d k p L (.ref G.2 :: st) (eg_p G (.inr (ci, eg_nc (hs_cl ci) ci))) (ck + 1) (sk + hs_cl ci) Z) : et_go none d k pc L st G ck sk Z := by
  unfold hs_nw at hc
  split at hc
  · rename_i i e
    split at hc
    · rename_i cj hl
      split at hc
      · rename_i h0
        cases hc
        have e2 : eg_st (eg_mo k) (eg_in k) eg_MC eg_MS pc 3 (.new i) L st G ck sk = some (pc + 3, L, .ref G.2 :: st, eg_p G (.inr (ci, eg_nc (hs_cl ci) ci)), ck + 1, sk + hs_cl ci) := by
          show (match (eg_cT.getD (eg_mo k) []).lookup i with
            | some ci => if ci < 12 then eg_al eg_MC eg_MS pc 3 L st G ck sk (eg_cl.getD ci ("", eg_T0, 0)).2.2 (.inr (ci, eg_nc (eg_cl.getD ci ("", eg_T0, 0)).2.2 ci)) else none
            | none => none) = _
          rw [hl]
          dsimp only
          rw [if_pos h0.1]
          unfold eg_al
          exact if_pos ⟨h1, h2⟩
        refine et_goS (fun q => ?_) h
        unfold eg_one
        rw [e]
        dsimp only
        rw [et_rr_no (ins := .new i) (fun h => nomatch (show false = true from h))]
        dsimp only
        rw [hs_sc]
        dsimp only
        rw [Option.isNone_iff_eq_none.mp h0.2]
        dsimp only
        rw [show eg_ik (.new i) = none from rfl]
        dsimp only
        rw [e2]
        rfl
      · cases hc
    · cases hc
  · cases hc
def hs_cp (k pc : Nat) : Option (Nat × Nat × Nat × Nat) := match eg_cd k pc with
  | some (.invokespecial i, _) => (match (eg_mT.getD (eg_mo k) []).lookup i with
    | some (mi, kd, _) => if (kd = 2 ∨ kd = 5) ∧ mi < 316 ∧ ¬ eg_mo mi = 20 then some (mi, eg_ma mi, eg_mL k, eg_mL mi) else none
    | none => none)
  | _ => none
theorem hs_callp {mi na lk lm a : Nat} {as : List Value} {L0 : eg_Ls} (hc : hs_cp k pc = some (mi, na, lk, lm)) (hdr : st.drop na = .ref a :: r) (has : (st.take na).reverse = as) (hL : L.length = lk) (hr : Nat.ble (eg_cat r) 8 = true) (hn : Nat.ble (eg_en0 (.ref a :: as)).length lm = true) (hL0 : eg_en lm (.ref a :: as) = L0) (h : et_go none d mi 0 L0 [] G 0 0 (hs_cont (d + 1) k pc L r ck sk Z)) : et_go none (d + 1) k pc L st G ck sk Z := by
  unfold hs_cp at hc
  split at hc
  · rename_i i _ e
    split at hc
    · rename_i mi' kd x hm
      split at hc
      · rename_i h0
        cases hc
        subst has hL0
        refine et_goC (fun q => ?_) h
        unfold eg_one
        rw [e]
        dsimp only
        rw [et_rr_no (ins := .invokespecial i) (fun h => nomatch (show false = true from h))]
        dsimp only
        rw [hs_sc]
        dsimp only
        show eg_iv (eg_rn q) none (d + 1) k pc (0 + 2) i L st G ck sk = _
        rw [et_v2 hm, if_neg (by omega), hdr]
        dsimp only
        rw [if_pos h0.1]
        unfold eg_cl1
        rw [if_pos ⟨Nat.le_of_ble_eq_true hr, hL, Nat.le_of_ble_eq_true hn, h0.2.1, h0.2.2⟩]
      · cases hc
    · cases hc
  · cases hc
def hs_ax (k pc : Nat) : Option (ClassFile.ACond × Nat × Nat) := match eg_cd k pc with
  | some (.if_acmp c off, _) => if 0 ≤ (pc : Int) + off then some (c, eg_tg pc off, pc + 3) else none
  | _ => none
theorem hs_acm {c : ClassFile.ACond} {t f : Nat} {v u : Value} (hc : hs_ax k pc = some (c, t, f)) (hv : eg_ca v = true) (hu : eg_ca u = true) (h1 : et_go none d k t L r G ck sk Z) (h2 : et_go none d k f L r G ck sk Z) : et_go none d k pc L (u :: v :: r) G ck sk Z := by
  unfold hs_ax at hc
  split at hc
  · rename_i c' off _ e
    split at hc
    · rename_i h0
      cases hc
      have h3 : 0 ≤ (pc : Int) + off ∧ eg_ca v = true ∧ eg_ca u = true := ⟨h0, hv, hu⟩
      cases c with
      | eq =>
        by_cases hh : v = u
        · refine hs_st e rfl ?_ h1
          show (if 0 ≤ (pc : Int) + off ∧ eg_ca v = true ∧ eg_ca u = true then some ((if v = u then eg_tg pc off else pc + 3), L, r, G, ck, sk) else none) = _
          rw [if_pos h3, if_pos hh]
        · refine hs_st e rfl ?_ h2
          show (if 0 ≤ (pc : Int) + off ∧ eg_ca v = true ∧ eg_ca u = true then some ((if v = u then eg_tg pc off else pc + 3), L, r, G, ck, sk) else none) = _
          rw [if_pos h3, if_neg hh]
      | ne =>
        by_cases hh : v = u
        · refine hs_st e rfl ?_ h2
          show (if 0 ≤ (pc : Int) + off ∧ eg_ca v = true ∧ eg_ca u = true then some ((if ¬ v = u then eg_tg pc off else pc + 3), L, r, G, ck, sk) else none) = _
          rw [if_pos h3, if_neg (fun h => h hh)]
        · refine hs_st e rfl ?_ h1
          show (if 0 ≤ (pc : Int) + off ∧ eg_ca v = true ∧ eg_ca u = true then some ((if ¬ v = u then eg_tg pc off else pc + 3), L, r, G, ck, sk) else none) = _
          rw [if_pos h3, if_pos hh]
    · cases hc
  · cases hc
theorem hs_popn {p : Nat} (hc : hs_o k pc = some (.pop, p)) (h : et_go none d k p L r G ck sk Z) : et_go none d k pc L (.null :: r) G ck sk Z := by
  obtain ⟨e, rfl⟩ := hs_oc hc
  exact hs_st e rfl rfl h
end HPA
section HPB
variable {T : List et_D} {M : et_M} {K : et_K} {d k pc ck sk : Nat} {L : eg_Ls} {st r : List Value} {G : eg_G} {Z : eg_O → Prop} {a b t p : Nat}
theorem hi_ca (hH : et_H T K G) (ha : K a = some t) (ht : t = 0 ∨ 2 ≤ t) : eg_ca (.ref a) = true := by
  obtain ⟨g1, g2, g3, -⟩ := hH.2.2 a t ha
  show (decide (a < 36) || decide (eg_NC ≤ a)) = true
  rcases ht with h | h
  · rw [decide_eq_true (g2 h)]
    rfl
  · rw [decide_eq_true (g3 h), Bool.or_true]
/-- one address more -/
def et_kn (K : et_K) (n t : Nat) : et_K := fun a => if a = n then some t else K a
theorem et_H1 {d : et_D} {c : eg_C} (hH : et_H T K G) (ht : 2 ≤ t) (hd : T[t]? = some d) (hc : et_c K d c) (hcx : et_cx d G.2 c) : et_ex K (et_kn K G.2 t) ∧ et_fr M K G (eg_p G c) ∧ et_H T (et_kn K G.2 t) (eg_p G c) := by
  have hx : et_ex K (et_kn K G.2 t) := fun a u h => by
    show (if a = G.2 then some t else K a) = some u
    rw [if_neg (Nat.ne_of_lt (hH.2.2 a u h).1)]
    exact h
  refine ⟨hx, ⟨Nat.le_succ _, fun a u h i _ => by rw [et_at_p (hH.2.2 a u h).1]⟩, Nat.le_succ_of_le hH.1, fun a ha => hx _ _ (hH.2.1 a ha), fun a u h => ?_⟩
  have h : (if a = G.2 then some t else K a) = some u := h
  by_cases e : a = G.2
  · subst e
    rw [if_pos rfl] at h
    cases h
    exact ⟨Nat.lt_succ_self _, fun e => absurd e (by omega), fun _ => hH.1, d, hd, by rw [et_at_ps hH.1]; exact et_c_ex hx hc, by rw [et_at_ps hH.1]; exact hcx⟩
  · rw [if_neg e] at h
    obtain ⟨g1, g2, g3, d', hd', hc', hx'⟩ := hH.2.2 a u h
    exact ⟨Nat.lt_succ_of_lt g1, g2, g3, d', hd', by rw [et_at_p g1]; exact et_c_ex hx hc', by rw [et_at_p g1]; exact hx'⟩
theorem et_nc4 : eg_nc (hs_cl 4) 4 = [.int 0, .null, .null, .null, .null, .int 0] := by decide +kernel
theorem et_c4 : et_c K (.inl (4, [.inl ((-2147483648), 2147483647), .inr (.inr (1, 6)), .inr (.inr (1, 6)), .inr (.inr (1, 6)), .inr (.inr (1, 0)), .inl ((-2147483648), 2147483647)])) (.inr (4, [.int 0, .null, .null, .null, .null, .int 0])) := by
  refine ⟨_, rfl, rfl, fun k p hk => ?_⟩
  match k, hk with
  | 0, hk => cases hk; exact ⟨_, rfl, .inr ⟨0, rfl, by decide, by decide⟩⟩
  | 1, hk => cases hk; exact ⟨_, rfl, .inr (.inl ⟨by decide, rfl⟩)⟩
  | 2, hk => cases hk; exact ⟨_, rfl, .inr (.inl ⟨by decide, rfl⟩)⟩
  | 3, hk => cases hk; exact ⟨_, rfl, .inr (.inl ⟨by decide, rfl⟩)⟩
  | 4, hk => cases hk; exact ⟨_, rfl, .inr (.inl ⟨by decide, rfl⟩)⟩
  | 5, hk => cases hk; exact ⟨_, rfl, .inr ⟨0, rfl, by decide, by decide⟩⟩
  | n + 6, hk => cases hk
/-- a new piece of a condition -/
theorem ht_newN (hc : hs_nw k pc = some (4, p)) (h1 : ck + 1 ≤ 600002) (h2 : sk + 6 ≤ 7302232) (hH : et_H et_TT K G) (h : ∀ (K' : et_K) (G' : eg_G) (b : Nat), et_ex K K' → et_fr [] K G G' → et_H et_TT K' G' → K' b = some 6 → G.2 ≤ b → (∀ a t, K a = some t → a < b) → et_go none d k p L (.ref b :: st) G' (ck + 1) (sk + 6) Z) : et_go none d k pc L st G ck sk Z := by
  have e6 : hs_cl 4 = 6 := by decide +kernel
  have h3 := et_H1 (M := []) (t := 6) hH (by decide) rfl (et_c4 (K := K)) ⟨fun _ b hb => (by cases hb), fun h => absurd h (by decide)⟩
  refine hs_new hc h1 (by rw [e6]; exact h2) ?_
  rw [et_nc4, e6]
  exact h (et_kn K G.2 6) _ G.2 h3.1 h3.2.1 h3.2.2 (if_pos rfl) (Nat.le_refl _) (fun a t ha => (hH.2.2 a t ha).1)
/-- `next` is written: a promised place -/
theorem ht_next {ty : FieldType} (hc : hs_pi k pc = some (4, 1, ty, p)) (hf : eg_fit ty (.ref b) = true) (hM : et_mm M 6 1 = true) (hH : et_H et_TT K G) (ha : K a = some 6) (hb : K b = some 6) (hlt : a < b) (h : ∀ G', et_H et_TT K G' → et_fr M K G G' → et_go none d k p L r G' ck sk Z) : et_go none d k pc L (.ref b :: .ref a :: r) G ck sk Z := by
  obtain ⟨g1, -, g3, dd, hd, hcc, hcx⟩ := hH.2.2 a 6 ha
  cases hd
  obtain ⟨fs, e, el, ef⟩ := hcc
  have el6 : fs.length = 6 := el
  have hlt1 : 1 < fs.length := by omega
  have hpl : ∀ i, ¬ i = 1 → et_pl (.inr (4, fs.set 1 (.ref b))) i = et_pl (eg_at G a) i := fun i hi => by
    rw [e]
    show (fs.set 1 (.ref b))[i]? = fs[i]?
    rw [List.getElem?_set_ne (fun h => hi h.symm)]
  refine hs_put hc e ⟨g3 (by decide), g1⟩ hlt1 hf (h _ (et_H_u hH ha (by decide) rfl ⟨_, rfl, by rw [List.length_set]; exact el, fun j p2 hj => ?_⟩ ⟨fun _ b' hb' => ?_, fun h => absurd h (by decide)⟩) (hi_frM hH ha (by decide) (fun i hi => hpl i (fun h => by
    rw [h, hM] at hi
    cases hi))))
  · by_cases e2 : 1 = j
    · subst e2
      cases hj
      exact ⟨_, List.getElem?_set_self hlt1, .inr (.inr ⟨by decide, _, rfl, hb⟩)⟩
    · rw [List.getElem?_set_ne e2]
      exact ef j p2 hj
  · have hb' : (fs.set 1 (.ref b))[1]? = some (.ref b') := hb'
    rw [List.getElem?_set_self hlt1] at hb'
    cases hb'
    exact hlt
theorem hi_or {a b : Nat} (ha : a ≤ 1) (hb : b ≤ 1) : ∃ c, c ≤ 1 ∧ Int32.ofNat a ||| Int32.ofNat b = Int32.ofNat c := by
  have h : ∀ x ∈ List.range 2, ∀ y ∈ List.range 2, ∃ c ∈ List.range 2, Int32.ofNat x ||| Int32.ofNat y = Int32.ofNat c := by decide +kernel
  obtain ⟨c, hc, e⟩ := h a (List.mem_range.mpr (by omega)) b (List.mem_range.mpr (by omega))
  exact ⟨c, by have := List.mem_range.mp hc; omega, e⟩
theorem hi_fz {c : Nat} (h : c ≤ 1) : eg_fit .boolean (.int (Int32.ofNat c)) = true := by
  have h0 : ∀ x ∈ List.range 2, eg_fit .boolean (.int (Int32.ofNat x)) = true := by decide +kernel
  exact h0 c (List.mem_range.mpr (by omega))
/-- where the reader stands -/
def pp_at (G : eg_G) (rd x : Nat) : Prop := et_pl (eg_at G rd) 8 = some (.int (Int32.ofNat x))
theorem pp_at0 {rd : Nat} (hH : et_H et_TT K G) (k_rd : K rd = some 7) : ∃ x, x ≤ 401 ∧ pp_at G rd x := by
  obtain ⟨-, -, -, dd, hd, hcc, -⟩ := hH.2.2 rd 7 k_rd
  cases hd
  obtain ⟨fs, e, el, ef⟩ := hcc
  obtain ⟨v, h1, h2⟩ := ef 8 _ rfl
  obtain ⟨c, h3, rfl⟩ := hi_nat (h2.resolve_left (by decide))
  exact ⟨c, by omega, by show et_pl (eg_at G rd) 8 = _; rw [e]; exact h1⟩
def pp_M : et_M := [(6, 0, 5), (7, 2, 2), (7, 3, 3), (7, 8, 8)]
/-- how a call ends that makes nothing -/
def pz_Z (M : et_M) (K : et_K) (G : eg_G) (A : et_K → eg_G → Value → Prop) (u : eg_O) : Prop := ∃ (K' : et_K) (v : Value), u.1 = .inl (some v) ∧ et_ex K K' ∧ et_fr M K G u.2.1 ∧ et_H et_TT K' u.2.1 ∧ u.2.2.1 = 0 ∧ u.2.2.2 = 0 ∧ A K' u.2.1 v
theorem pz_cb {A : et_K → eg_G → Value → Prop} {u : eg_O} (hu : pz_Z M K G A u) (h : ∀ (K' : et_K) (G' : eg_G) (v : Value), et_ex K K' → et_fr M K G G' → et_H et_TT K' G' → A K' G' v → et_go none d k (pc + 3) L (v :: r) G' ck sk Z) : hs_cont d k pc L r ck sk Z u := by
  obtain ⟨K', v, e, h1, h2, h3, h4, h5, h6⟩ := hu
  obtain ⟨u1, u2, u3, u4⟩ := u
  have e : u1 = .inl (some v) := e
  have h4 : u3 = 0 := h4
  have h5 : u4 = 0 := h5
  subst e h4 h5
  exact hs_cb (h K' u2 v h1 h2 h3 h6)
def pz_is (x : Nat) (v : Value) : Prop := v = .int (Int32.ofNat 0) ∨ (v = .int (Int32.ofNat 1) ∧ x ≤ 400)
def pz_wh (x : Nat) (K : et_K) (v : Value) : Prop := v = .null ∨ ∃ b, v = .ref b ∧ K b = some 0 ∧ x ≤ 400
def pz_tn (rd x : Nat) (G : eg_G) (v : Value) : Prop := ∃ (y : Nat) (n : Int32), v = .int n ∧ pp_at G rd y ∧ x ≤ y ∧ y ≤ x + 1 ∧ y ≤ 401
/-- how a call ends that makes pieces: t: 0 atom, 1 ALL, 2 ANY -/
def pp_Z (t : Nat) (K : et_K) (G : eg_G) (rd x : Nat) (u : eg_O) : Prop := ∃ (K' : et_K) (v : Value) (y : Nat), u.1 = .inl (some v) ∧ et_ex K K' ∧ et_fr pp_M K G u.2.1 ∧ et_H et_TT K' u.2.1 ∧ pp_at u.2.1 rd y ∧ x ≤ y ∧ y ≤ 401 ∧ u.2.2.2 ≤ 6 * u.2.2.1 ∧ ((v = .null ∧ u.2.2.1 + 2 * x ≤ 2 * y + 1 + t) ∨ ∃ b, v = .ref b ∧ K' b = some 6 ∧ G.2 ≤ b ∧ u.2.2.1 + 1 + 2 * x ≤ 2 * y + t)
theorem pp_cb {rd x t : Nat} {u : eg_O} (hu : pp_Z t K G rd x u) (h : ∀ (K' : et_K) (G' : eg_G) (v : Value) (y c s : Nat), et_ex K K' → et_fr pp_M K G G' → et_H et_TT K' G' → pp_at G' rd y → x ≤ y → y ≤ 401 → s ≤ 6 * c → ((v = .null ∧ c + 2 * x ≤ 2 * y + 1 + t) ∨ ∃ b, v = .ref b ∧ K' b = some 6 ∧ G.2 ≤ b ∧ c + 1 + 2 * x ≤ 2 * y + t) → et_go none d k (pc + 3) L (v :: r) G' (ck + c) (sk + s) Z) : hs_cont d k pc L r ck sk Z u := by
  obtain ⟨K', v, y, e, h1, h2, h3, h4, h5, h6, h7, h8⟩ := hu
  obtain ⟨u1, u2, u3, u4⟩ := u
  have e : u1 = .inl (some v) := e
  subst e
  exact hs_cb (h K' u2 v y u3 u4 h1 h2 h3 h4 h5 h6 h7 h8)
end HPB
def hq_nod : et_Co := (61, [.inr (.inr (0, 6)), .inl (et_mn, et_mx)], [(6, 0, 0)], [(.inl none, 0, 0)], 1)
theorem hc_nod : et_cv et_TT hq_nod := et_cok_ok (Ks := []) (an := an_no) (fun _ h => absurd h List.not_mem_nil) (by decide +kernel)

section PPA
variable {K : et_K} {G : eg_G} {d2 d rd wd x : Nat} {kd mo : Int32}
theorem pp_is (hH : et_H et_TT K G) (k_rd : K rd = some 7) (hx : pp_at G rd x) (hxl : x ≤ 401) (hw : K wd = some 0) (hd : 1 ≤ d2) : et_go none d2 78 0 (eg_en (eg_mL 78) [.ref rd, .ref wd]) [] G 0 0 (pz_Z [] K G (fun _ _ v => pz_is x v)) := by
  have k_wd := hw
  have hx0 : et_ex K K := et_ex.rf
  have hf : et_fr [] K G G := et_fr.rf
  rw [show eg_mL 78 = 2 from by decide +kernel]
  show et_go none d2 78 0 [some (.ref rd), some (.ref wd)] [] G 0 0 _
  refine hs_aload (i := 0) (p := 1) (by decide +kernel) rfl ?_
  refine ht_getn (T := et_TT) (t := 7) (ci := 5) (f := 8) (p := 4) (by decide +kernel) rfl rfl hH k_rd (fun c1 h1 e1 => ?_)
  have q1 : c1 = x := hb_cc e1 hx (by omega) (by omega)
  refine hs_aload (i := 0) (p := 5) (by decide +kernel) rfl ?_
  refine ht_getn (T := et_TT) (t := 7) (ci := 5) (f := 7) (p := 8) (by decide +kernel) rfl rfl hH k_rd (fun c5 h5 e5 => ?_)
  refine hs_br2n (c := .ge) (t := 28) (f := 11) (by decide +kernel) (by omega) (by omega) (fun (c8 : c5 ≤ c1) => ?_) (fun (c8 : ¬ (c5 ≤ c1)) => ?_)
  · refine hs_k (x := Int32.ofNat 0) (p := 29) (by decide +kernel) ?_
    refine hs_zret (by decide +kernel) (.inl rfl) ?_
    exact ⟨_, _, rfl, hx0, hf, hH, rfl, rfl, .inl rfl⟩
  · refine hs_aload (i := 0) (p := 12) (by decide +kernel) rfl ?_
    refine ht_getr (T := et_TT) (t := 7) (ci := 5) (f := 4) (p := 15) (by decide +kernel) rfl rfl hH k_rd (fun a12 k_a12 e12 => ?_)
    refine hs_aload (i := 0) (p := 16) (by decide +kernel) rfl ?_
    refine ht_getn (T := et_TT) (t := 7) (ci := 5) (f := 8) (p := 19) (by decide +kernel) rfl rfl hH k_rd (fun c16 h16 e16 => ?_)
    have q16 : c16 = x := hb_cc e16 hx (by omega) (by omega)
    refine ht_aald (T := et_TT) (t := 41) (N := 401) (kd := 9) (m := 400) (p := 20) (by decide +kernel) rfl rfl hH k_a12 (by omega) (by omega) (by decide) (fun v19 h19 e19 => ?_)
    rcases hi_q h19 with rfl | ⟨a19, rfl, k_a19⟩
    · refine hs_aload (i := 1) (p := 21) (by decide +kernel) rfl ?_
      refine hs_acm (c := .ne) (t := 28) (f := 24) (by decide +kernel) rfl (hi_ca hH k_wd (by decide)) ?_ ?_
      · refine hs_k (x := Int32.ofNat 0) (p := 29) (by decide +kernel) ?_
        refine hs_zret (by decide +kernel) (.inl rfl) ?_
        exact ⟨_, _, rfl, hx0, hf, hH, rfl, rfl, .inl rfl⟩
      · refine hs_k (x := Int32.ofNat 1) (p := 25) (by decide +kernel) ?_
        refine hs_goto (p := 29) (by decide +kernel) ?_
        refine hs_zret (by decide +kernel) (.inr rfl) ?_
        exact ⟨_, _, rfl, hx0, hf, hH, rfl, rfl, .inr ⟨rfl, by omega⟩⟩
    · refine hs_aload (i := 1) (p := 21) (by decide +kernel) rfl ?_
      refine hs_acm (c := .ne) (t := 28) (f := 24) (by decide +kernel) (hi_ca hH k_a19 (by decide)) (hi_ca hH k_wd (by decide)) ?_ ?_
      · refine hs_k (x := Int32.ofNat 0) (p := 29) (by decide +kernel) ?_
        refine hs_zret (by decide +kernel) (.inl rfl) ?_
        exact ⟨_, _, rfl, hx0, hf, hH, rfl, rfl, .inl rfl⟩
      · refine hs_k (x := Int32.ofNat 1) (p := 25) (by decide +kernel) ?_
        refine hs_goto (p := 29) (by decide +kernel) ?_
        refine hs_zret (by decide +kernel) (.inr rfl) ?_
        exact ⟨_, _, rfl, hx0, hf, hH, rfl, rfl, .inr ⟨rfl, by omega⟩⟩
theorem pp_wh (hH : et_H et_TT K G) (k_rd : K rd = some 7) (hx : pp_at G rd x) (hxl : x ≤ 401) (hd : 1 ≤ d2) : et_go none d2 79 0 (eg_en (eg_mL 79) [.ref rd, .int kd]) [] G 0 0 (pz_Z [] K G (fun K' _ v => pz_wh x K' v)) := by
  have hx0 : et_ex K K := et_ex.rf
  have hf : et_fr [] K G G := et_fr.rf
  rw [show eg_mL 79 = 2 from by decide +kernel]
  show et_go none d2 79 0 [some (.ref rd), some (.int kd)] [] G 0 0 _
  refine hs_aload (i := 0) (p := 1) (by decide +kernel) rfl ?_
  refine ht_getn (T := et_TT) (t := 7) (ci := 5) (f := 8) (p := 4) (by decide +kernel) rfl rfl hH k_rd (fun c1 h1 e1 => ?_)
  have q1 : c1 = x := hb_cc e1 hx (by omega) (by omega)
  refine hs_aload (i := 0) (p := 5) (by decide +kernel) rfl ?_
  refine ht_getn (T := et_TT) (t := 7) (ci := 5) (f := 7) (p := 8) (by decide +kernel) rfl rfl hH k_rd (fun c5 h5 e5 => ?_)
  refine hs_br2n (c := .ge) (t := 51) (f := 11) (by decide +kernel) (by omega) (by omega) (fun (c8 : c5 ≤ c1) => ?_) (fun (c8 : ¬ (c5 ≤ c1)) => ?_)
  · refine hs_nul (p := 52) (by decide +kernel) ?_
    refine hs_aretN (cn := "KnobEye$Word") (by decide +kernel) ?_
    exact ⟨_, _, rfl, hx0, hf, hH, rfl, rfl, .inl rfl⟩
  · refine hs_aload (i := 0) (p := 12) (by decide +kernel) rfl ?_
    refine ht_getr (T := et_TT) (t := 7) (ci := 5) (f := 4) (p := 15) (by decide +kernel) rfl rfl hH k_rd (fun a12 k_a12 e12 => ?_)
    refine hs_aload (i := 0) (p := 16) (by decide +kernel) rfl ?_
    refine ht_getn (T := et_TT) (t := 7) (ci := 5) (f := 8) (p := 19) (by decide +kernel) rfl rfl hH k_rd (fun c16 h16 e16 => ?_)
    have q16 : c16 = x := hb_cc e16 hx (by omega) (by omega)
    refine ht_aald (T := et_TT) (t := 41) (N := 401) (kd := 9) (m := 400) (p := 20) (by decide +kernel) rfl rfl hH k_a12 (by omega) (by omega) (by decide) (fun v19 h19 e19 => ?_)
    rcases hi_q h19 with rfl | ⟨a19, rfl, k_a19⟩
    · refine hs_ifnull0 (p := 51) (by decide +kernel) ?_
      refine hs_nul (p := 52) (by decide +kernel) ?_
      refine hs_aretN (cn := "KnobEye$Word") (by decide +kernel) ?_
      exact ⟨_, _, rfl, hx0, hf, hH, rfl, rfl, .inl rfl⟩
    · refine hs_ifnull1 (p := 23) (by decide +kernel) ?_
      refine hs_aload (i := 0) (p := 24) (by decide +kernel) rfl ?_
      refine ht_getr (T := et_TT) (t := 7) (ci := 5) (f := 4) (p := 27) (by decide +kernel) rfl rfl hH k_rd (fun a24 k_a24 e24 => ?_)
      refine hs_aload (i := 0) (p := 28) (by decide +kernel) rfl ?_
      refine ht_getn (T := et_TT) (t := 7) (ci := 5) (f := 8) (p := 31) (by decide +kernel) rfl rfl hH k_rd (fun c28 h28 e28 => ?_)
      have q28 : c28 = x := hb_cc e28 hx (by omega) (by omega)
      refine ht_aald (T := et_TT) (t := 41) (N := 401) (kd := 9) (m := 400) (p := 32) (by decide +kernel) rfl rfl hH k_a24 (by omega) (by omega) (by decide) (fun v31 h31 e31 => ?_)
      have q24 : a24 = a12 := Value.ref.inj (Option.some.inj (e24.symm.trans e12))
      have q28b : c28 = c16 := hb_cc e28 e16 (by omega) (by omega)
      rw [q24, q28b] at e31
      obtain rfl : v31 = .ref a19 := Option.some.inj (e31.symm.trans e19)
      refine ht_getn (T := et_TT) (t := 0) (ci := 12) (f := 3) (p := 35) (by decide +kernel) rfl rfl hH k_a19 (fun c32 h32 e32 => ?_)
      refine hs_iload (i := 1) (p := 36) (by decide +kernel) rfl ?_
      refine hs_br2 (c := .ne) (t := 51) (f := 39) (by decide +kernel) (fun (c36 : ¬ Int32.ofNat c32 = kd) => ?_) (fun (c36 : ¬ (¬ Int32.ofNat c32 = kd)) => ?_)
      · refine hs_nul (p := 52) (by decide +kernel) ?_
        refine hs_aretN (cn := "KnobEye$Word") (by decide +kernel) ?_
        exact ⟨_, _, rfl, hx0, hf, hH, rfl, rfl, .inl rfl⟩
      · refine hs_aload (i := 0) (p := 40) (by decide +kernel) rfl ?_
        refine ht_getr (T := et_TT) (t := 7) (ci := 5) (f := 4) (p := 43) (by decide +kernel) rfl rfl hH k_rd (fun a40 k_a40 e40 => ?_)
        refine hs_aload (i := 0) (p := 44) (by decide +kernel) rfl ?_
        refine ht_getn (T := et_TT) (t := 7) (ci := 5) (f := 8) (p := 47) (by decide +kernel) rfl rfl hH k_rd (fun c44 h44 e44 => ?_)
        have q44 : c44 = x := hb_cc e44 hx (by omega) (by omega)
        refine ht_aald (T := et_TT) (t := 41) (N := 401) (kd := 9) (m := 400) (p := 48) (by decide +kernel) rfl rfl hH k_a40 (by omega) (by omega) (by decide) (fun v47 h47 e47 => ?_)
        rcases hi_q h47 with rfl | ⟨a47, rfl, k_a47⟩
        · refine hs_goto (p := 52) (by decide +kernel) ?_
          refine hs_aretN (cn := "KnobEye$Word") (by decide +kernel) ?_
          exact ⟨_, _, rfl, hx0, hf, hH, rfl, rfl, .inl rfl⟩
        · refine hs_goto (p := 52) (by decide +kernel) ?_
          refine hs_aret (cn := "KnobEye$Word") (by decide +kernel) ?_
          exact ⟨_, _, rfl, hx0, hf, hH, rfl, rfl, .inr ⟨_, rfl, k_a47, by omega⟩⟩
theorem pp_tn (hH : et_H et_TT K G) (k_rd : K rd = some 7) (hx : pp_at G rd x) (hxl : x ≤ 401) (hd : 2 ≤ d2) : et_go none d2 83 0 (eg_en (eg_mL 83) [.ref rd, .int mo]) [] G 0 0 (pz_Z pp_M K G (fun _ G' v => pz_tn rd x G' v)) := by
  obtain ⟨d, rfl⟩ : ∃ d, d2 = d + 2 := ⟨d2 - 2, by omega⟩
  have hx0 : et_ex K K := et_ex.rf
  have hf : et_fr pp_M K G G := et_fr.rf
  rw [show eg_mL 83 = 3 from by decide +kernel]
  show et_go none (d + 2) 83 0 [some (.ref rd), some (.int mo), none] [] G 0 0 _
  refine hs_aload (i := 0) (p := 1) (by decide +kernel) rfl ?_
  refine ht_getn (T := et_TT) (t := 7) (ci := 5) (f := 8) (p := 4) (by decide +kernel) rfl rfl hH k_rd (fun c1 h1 e1 => ?_)
  have q1 : c1 = x := hb_cc e1 hx (by omega) (by omega)
  refine hs_aload (i := 0) (p := 5) (by decide +kernel) rfl ?_
  refine ht_getn (T := et_TT) (t := 7) (ci := 5) (f := 7) (p := 8) (by decide +kernel) rfl rfl hH k_rd (fun c5 h5 e5 => ?_)
  refine hs_br2n (c := .ge) (t := 33) (f := 11) (by decide +kernel) (by omega) (by omega) (fun (c8 : c5 ≤ c1) => ?_) (fun (c8 : ¬ (c5 ≤ c1)) => ?_)
  · refine hs_k (x := (-1)) (p := 34) (by decide +kernel) ?_
    refine hs_istore (i := 2) (p := 35) (by decide +kernel) (Nat.le_of_ble_eq_true rfl) ?_
    refine hs_iload (i := 2) (p := 36) (by decide +kernel) rfl ?_
    refine hs_if1 (c := .lt) (t := 44) (f := 39) (by decide +kernel) (show (-1 : Int32) < 0 by decide) ?_
    refine hs_aload (i := 0) (p := 45) (by decide +kernel) rfl ?_
    have hfo := hf
    refine ht_callv (T := et_TT) (t := 7) (mi := 76) (na := 0) (ci := 5) (lk := 3) (lm := 1) (L0 := eg_en (eg_mL 76) [.ref rd]) (by decide +kernel) rfl hH k_rd rfl rfl rfl rfl rfl (by rw [show eg_mL 76 = 1 from by decide +kernel]; first | done | rfl) ?_
    refine (ep_c4 (K, [], G) [.ref rd] _ hH (by omega) rfl (ht_ac (.inr ⟨by decide, _, rfl, k_rd⟩) ht_an)).mono (fun u hu => hs_cbv hu (fun v45 K45 G45 c45 s45 x45 f45 hH hv45 cl45 sl45 => ?_))
    have hx := (f45.2 rd 7 k_rd 8 rfl).trans hx
    have k_rd := x45 _ _ k_rd
    have hf := hf.tr hx0 (f45.wk (by decide +kernel))
    have hx0 := hx0.tr x45
    obtain rfl : c45 = 0 := Nat.le_zero.mp cl45
    obtain rfl : s45 = 0 := Nat.le_zero.mp sl45
    obtain rfl : v45 = .null := hv45.elim (fun h => h.2) (fun h => absurd h.1 (by decide))
    show et_go none _ 83 48 _ [.null] _ 0 0 _
    refine hs_popn (p := 49) (by decide +kernel) ?_
    refine hs_k (x := (-1)) (p := 50) (by decide +kernel) ?_
    refine hs_iret (by decide +kernel) ?_
    exact ⟨_, _, rfl, hx0, hf, hH, rfl, rfl, _, _, rfl, hx, by omega, by omega, by omega⟩
  · refine hs_aload (i := 0) (p := 12) (by decide +kernel) rfl ?_
    refine hs_gst (v := Value.ref 33) (p := 15) (by decide +kernel) ?_
    have hfo := hf
    refine ht_callv (T := et_TT) (t := 7) (mi := 78) (na := 1) (ci := 5) (lk := 3) (lm := 2) (L0 := eg_en (eg_mL 78) [.ref rd, .ref 33]) (by decide +kernel) rfl hH k_rd rfl rfl rfl rfl rfl (by rw [show eg_mL 78 = 2 from by decide +kernel]; first | done | rfl) ?_
    refine (pp_is hH k_rd hx (by omega) (hH.2.1 _ (by decide)) (by omega)).mono (fun u hu => pz_cb hu (fun K15 G15 v15 x15 f15 hH hA => ?_))
    have hx := (f15.2 rd 7 k_rd 8 rfl).trans hx
    have k_rd := x15 _ _ k_rd
    have hf := hf.tr hx0 (f15.wk (by decide +kernel))
    have hx0 := hx0.tr x15
    rcases hA with rfl | ⟨rfl, hi15⟩
    · show et_go none _ 83 18 _ [.int (Int32.ofNat 0)] _ 0 0 _
      refine hs_if1 (c := .eq) (t := 33) (f := 21) (by decide +kernel) (show Int32.ofNat 0 = 0 by decide) ?_
      refine hs_k (x := (-1)) (p := 34) (by decide +kernel) ?_
      refine hs_istore (i := 2) (p := 35) (by decide +kernel) (Nat.le_of_ble_eq_true rfl) ?_
      refine hs_iload (i := 2) (p := 36) (by decide +kernel) rfl ?_
      refine hs_if1 (c := .lt) (t := 44) (f := 39) (by decide +kernel) (show (-1 : Int32) < 0 by decide) ?_
      refine hs_aload (i := 0) (p := 45) (by decide +kernel) rfl ?_
      have hfo := hf
      refine ht_callv (T := et_TT) (t := 7) (mi := 76) (na := 0) (ci := 5) (lk := 3) (lm := 1) (L0 := eg_en (eg_mL 76) [.ref rd]) (by decide +kernel) rfl hH k_rd rfl rfl rfl rfl rfl (by rw [show eg_mL 76 = 1 from by decide +kernel]; first | done | rfl) ?_
      refine (ep_c4 (K15, [], G15) [.ref rd] _ hH (by omega) rfl (ht_ac (.inr ⟨by decide, _, rfl, k_rd⟩) ht_an)).mono (fun u hu => hs_cbv hu (fun v45 K45 G45 c45 s45 x45 f45 hH hv45 cl45 sl45 => ?_))
      have hx := (f45.2 rd 7 k_rd 8 rfl).trans hx
      have k_rd := x45 _ _ k_rd
      have hf := hf.tr hx0 (f45.wk (by decide +kernel))
      have hx0 := hx0.tr x45
      obtain rfl : c45 = 0 := Nat.le_zero.mp cl45
      obtain rfl : s45 = 0 := Nat.le_zero.mp sl45
      obtain rfl : v45 = .null := hv45.elim (fun h => h.2) (fun h => absurd h.1 (by decide))
      show et_go none _ 83 48 _ [.null] _ 0 0 _
      refine hs_popn (p := 49) (by decide +kernel) ?_
      refine hs_k (x := (-1)) (p := 50) (by decide +kernel) ?_
      refine hs_iret (by decide +kernel) ?_
      exact ⟨_, _, rfl, hx0, hf, hH, rfl, rfl, _, _, rfl, hx, by omega, by omega, by omega⟩
    · show et_go none _ 83 18 _ [.int (Int32.ofNat 1)] _ 0 0 _
      refine hs_if0 (c := .eq) (t := 33) (f := 21) (by decide +kernel) (show ¬ (Int32.ofNat 1 = 0) by decide) ?_
      refine hs_aload (i := 0) (p := 22) (by decide +kernel) rfl ?_
      refine ht_getr (T := et_TT) (t := 7) (ci := 5) (f := 6) (p := 25) (by decide +kernel) rfl rfl hH k_rd (fun a22 k_a22 e22 => ?_)
      refine hs_aload (i := 0) (p := 26) (by decide +kernel) rfl ?_
      refine ht_getn (T := et_TT) (t := 7) (ci := 5) (f := 8) (p := 29) (by decide +kernel) rfl rfl hH k_rd (fun c26 h26 e26 => ?_)
      have q26 : c26 = x := hb_cc e26 hx (by omega) (by omega)
      refine ht_ild (T := et_TT) (t := 21) (N := 401) (p := 30) (by decide +kernel) rfl hH k_a22 (by omega) (by decide) (fun x29 s29 e29 => ?_)
      refine hs_goto (p := 34) (by decide +kernel) ?_
      refine hs_istore (i := 2) (p := 35) (by decide +kernel) (Nat.le_of_ble_eq_true rfl) ?_
      refine hs_iload (i := 2) (p := 36) (by decide +kernel) rfl ?_
      refine hs_br1 (c := .lt) (t := 44) (f := 39) (by decide +kernel) (fun (c36 : x29 < 0) => ?_) (fun (c36 : ¬ (x29 < 0)) => ?_)
      · refine hs_aload (i := 0) (p := 45) (by decide +kernel) rfl ?_
        have hfo := hf
        refine ht_callv (T := et_TT) (t := 7) (mi := 76) (na := 0) (ci := 5) (lk := 3) (lm := 1) (L0 := eg_en (eg_mL 76) [.ref rd]) (by decide +kernel) rfl hH k_rd rfl rfl rfl rfl rfl (by rw [show eg_mL 76 = 1 from by decide +kernel]; first | done | rfl) ?_
        refine (ep_c4 (K15, [], G15) [.ref rd] _ hH (by omega) rfl (ht_ac (.inr ⟨by decide, _, rfl, k_rd⟩) ht_an)).mono (fun u hu => hs_cbv hu (fun v45 K45 G45 c45 s45 x45 f45 hH hv45 cl45 sl45 => ?_))
        have hx := (f45.2 rd 7 k_rd 8 rfl).trans hx
        have k_rd := x45 _ _ k_rd
        have k_a22 := x45 _ _ k_a22
        have hf := hf.tr hx0 (f45.wk (by decide +kernel))
        have hx0 := hx0.tr x45
        obtain rfl : c45 = 0 := Nat.le_zero.mp cl45
        obtain rfl : s45 = 0 := Nat.le_zero.mp sl45
        obtain rfl : v45 = .null := hv45.elim (fun h => h.2) (fun h => absurd h.1 (by decide))
        show et_go none _ 83 48 _ [.null] _ 0 0 _
        refine hs_popn (p := 49) (by decide +kernel) ?_
        refine hs_k (x := (-1)) (p := 50) (by decide +kernel) ?_
        refine hs_iret (by decide +kernel) ?_
        exact ⟨_, _, rfl, hx0, hf, hH, rfl, rfl, _, _, rfl, hx, by omega, by omega, by omega⟩
      · refine hs_iload (i := 2) (p := 40) (by decide +kernel) rfl ?_
        refine hs_iload (i := 1) (p := 41) (by decide +kernel) rfl ?_
        refine hs_br2 (c := .le) (t := 51) (f := 44) (by decide +kernel) (fun (c41 : x29 ≤ mo) => ?_) (fun (c41 : ¬ (x29 ≤ mo)) => ?_)
        · refine hs_aload (i := 0) (p := 52) (by decide +kernel) rfl ?_
          refine hs_dup1 (p := 53) (by decide +kernel) ?_
          refine ht_getn (T := et_TT) (t := 7) (ci := 5) (f := 8) (p := 56) (by decide +kernel) rfl rfl hH k_rd (fun c53 h53 e53 => ?_)
          have q53 : c53 = x := hb_cc e53 hx (by omega) (by omega)
          refine hs_k (x := Int32.ofNat 1) (p := 57) (by decide +kernel) ?_
          refine hs_iaddn (p := 58) (by decide +kernel) ?_
          refine ht_put (M := [(7, 8, 8)]) (T := et_TT) (t := 7) (ci := 5) (f := 8) (p := 61) (ty := .int) (by decide +kernel) rfl rfl rfl rfl rfl (by decide +kernel) hH k_rd (hi_nv (by omega) (by omega)) (fun G58 hH f58 e58 => ?_)
          have hf := hf.tr hx0 (f58.wk (by decide +kernel))
          have hx := e58
          refine hs_iload (i := 2) (p := 62) (by decide +kernel) rfl ?_
          refine hs_iret (by decide +kernel) ?_
          exact ⟨_, _, rfl, hx0, hf, hH, rfl, rfl, _, _, rfl, hx, by omega, by omega, by omega⟩
        · refine hs_aload (i := 0) (p := 45) (by decide +kernel) rfl ?_
          have hfo := hf
          refine ht_callv (T := et_TT) (t := 7) (mi := 76) (na := 0) (ci := 5) (lk := 3) (lm := 1) (L0 := eg_en (eg_mL 76) [.ref rd]) (by decide +kernel) rfl hH k_rd rfl rfl rfl rfl rfl (by rw [show eg_mL 76 = 1 from by decide +kernel]; first | done | rfl) ?_
          refine (ep_c4 (K15, [], G15) [.ref rd] _ hH (by omega) rfl (ht_ac (.inr ⟨by decide, _, rfl, k_rd⟩) ht_an)).mono (fun u hu => hs_cbv hu (fun v45 K45 G45 c45 s45 x45 f45 hH hv45 cl45 sl45 => ?_))
          have hx := (f45.2 rd 7 k_rd 8 rfl).trans hx
          have k_rd := x45 _ _ k_rd
          have k_a22 := x45 _ _ k_a22
          have hf := hf.tr hx0 (f45.wk (by decide +kernel))
          have hx0 := hx0.tr x45
          obtain rfl : c45 = 0 := Nat.le_zero.mp cl45
          obtain rfl : s45 = 0 := Nat.le_zero.mp sl45
          obtain rfl : v45 = .null := hv45.elim (fun h => h.2) (fun h => absurd h.1 (by decide))
          show et_go none _ 83 48 _ [.null] _ 0 0 _
          refine hs_popn (p := 49) (by decide +kernel) ?_
          refine hs_k (x := (-1)) (p := 50) (by decide +kernel) ?_
          refine hs_iret (by decide +kernel) ?_
          exact ⟨_, _, rfl, hx0, hf, hH, rfl, rfl, _, _, rfl, hx, by omega, by omega, by omega⟩
end PPA
