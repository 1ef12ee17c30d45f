/-! FUNCTIONAL: the class's rule, claim; new objects, arrays of references -/
section FKA
variable {K : et_K} {G : eg_G} {d k pc ck sk : Nat} {L : eg_Ls} {st r : List Value} {Z : eg_O → Prop} {a ci n p t : Nat} {fs : List Value}
theorem xf_u {c : eg_C} : xf (fun b _ => b = a) G (eg_u G a c) := ⟨Nat.le_refl _, fun b i _ h => by rw [et_at_u h]⟩
theorem xf_p {c : eg_C} : xf (fun _ _ => False) G (eg_p G c) := ⟨Nat.le_succ _, fun a i ha _ => by rw [et_at_p ha]⟩
theorem hf_newU (hc : hs_nw k pc = some (ci, p)) (h1 : ck + 1 ≤ 600002) (h2 : sk + n ≤ 7302232) (hn : hs_cl ci = n) (hfs : eg_nc n ci = fs) (hH : et_H et_TT K G) (h : ∀ G' : eg_G, pu K G' G.2 ci fs → xf (fun _ _ => False) G G' → G'.2 = G.2 + 1 → et_go none d k p L (.ref G.2 :: st) G' (ck + 1) (sk + n) Z) : et_go none d k pc L st G ck sk Z := by
  subst hn
  refine hs_new hc h1 h2 ?_
  obtain ⟨h3, -⟩ := pu_new (fs := fs) (c := .inr (ci, eg_nc (hs_cl ci) ci)) hH (by rw [hfs])
  exact h _ h3 xf_p rfl
/-- how a constructor ends, what it leaves -/
def fuZ (K : et_K) (G : eg_G) (a t c s : Nat) (P : et_K → eg_G → Prop) (u : eg_O) : Prop := ∃ (K' : et_K) (G' : eg_G), u = (.inl none, G', c, s) ∧ et_ex K K' ∧ et_H et_TT K' G' ∧ K' a = some t ∧ xf (fun b _ => b = a) G G' ∧ P K' G'
theorem fuZ_cb {c s : Nat} {P : et_K → eg_G → Prop} {u : eg_O} (hu : fuZ K G a t c s P u) (h : ∀ (K' : et_K) (G' : eg_G), et_ex K K' → et_H et_TT K' G' → K' a = some t → xf (fun b _ => b = a) G G' → P K' G' → et_go none d k (pc + 3) L r G' (ck + c) (sk + s) Z) : hs_cont d k pc L r ck sk Z u := by
  obtain ⟨K', G', rfl, h1, h2, h3, h4, h5⟩ := hu
  exact hs_cb (h K' G' h1 h2 h3 h4 h5)
theorem fu_rule {co d2 : Nat} (h : pu K G a 6 [.null, .null]) (hc : K co = some 6) : et_go none d2 88 0 (eg_en (eg_mL 88) [.ref a, .ref co]) [] G 0 0 (fuZ K G a 8 0 0 (fun _ G' => et_pl (eg_at G' a) 0 = some (.ref co) ∧ et_pl (eg_at G' a) 1 = some .null)) := by
  rw [show eg_mL 88 = 2 from by decide +kernel]
  show et_go none d2 88 0 [some (.ref a), some (.ref co)] [] G 0 0 _
  refine hs_aload (i := 0) (p := 1) (by decide +kernel) rfl ?_
  refine hs_skip (lk := 2) (p := 4) (by decide +kernel) rfl rfl ?_
  refine hs_aload (i := 0) (p := 5) (by decide +kernel) rfl ?_
  refine hs_aload (i := 1) (p := 6) (by decide +kernel) rfl ?_
  refine hs_putj (ci := 6) (f := 0) (ty := .object "KnobEye$Node") (p := 9) (by decide +kernel) h.2.2.2.2 ⟨h.2.2.1, h.2.2.2.1⟩ (Nat.le_of_ble_eq_true rfl) rfl ?_
  obtain ⟨h1, f1⟩ := pu_put (f := 0) (v := .ref co) h
  obtain ⟨x2, hH2, k2⟩ := pu_typ (t := 8) h1 (by decide) rfl ⟨_, rfl, rfl, fun k p hk => by
    match k, hk with
    | 0, hk => cases hk; exact ⟨_, rfl, .inr (.inr ⟨by decide, _, rfl, hc⟩)⟩
    | 1, hk => cases hk; exact ⟨_, rfl, .inr (.inl ⟨by decide, rfl⟩)⟩
    | n + 2, hk => cases hk⟩ ⟨by decide, by decide⟩
  refine hs_vret (by decide +kernel) ?_
  have e := h1.2.2.2.2
  exact ⟨_, _, rfl, x2, hH2, k2, xf_u, by rw [e]; rfl, by rw [e]; rfl⟩
theorem fu_claim {co d2 n : Nat} {x y : Int32} (h : pu K G a 0 [.null, .int 0, .int 0, .int 0]) (hc : K co = some 6) (hn : n ≤ 1) : et_go none d2 30 0 (eg_en (eg_mL 30) [.ref a, .ref co, .int x, .int y, .int (Int32.ofNat n)]) [] G 0 0 (fuZ K G a 2 0 0 (fun _ G' => et_pl (eg_at G' a) 0 = some (.ref co) ∧ et_pl (eg_at G' a) 1 = some (.int x) ∧ et_pl (eg_at G' a) 2 = some (.int y) ∧ et_pl (eg_at G' a) 3 = some (.int (Int32.ofNat n)))) := by
  rw [show eg_mL 30 = 5 from by decide +kernel]
  show et_go none d2 30 0 [some (.ref a), some (.ref co), some (.int x), some (.int y), some (.int (Int32.ofNat n))] [] G 0 0 _
  refine hs_aload (i := 0) (p := 1) (by decide +kernel) rfl ?_
  refine hs_skip (lk := 5) (p := 4) (by decide +kernel) rfl rfl ?_
  refine hs_aload (i := 0) (p := 5) (by decide +kernel) rfl ?_
  refine hs_aload (i := 1) (p := 6) (by decide +kernel) rfl ?_
  refine hs_putj (ci := 0) (f := 0) (ty := .object "KnobEye$Node") (p := 9) (by decide +kernel) h.2.2.2.2 ⟨h.2.2.1, h.2.2.2.1⟩ (Nat.le_of_ble_eq_true rfl) rfl ?_
  obtain ⟨h1, f1⟩ := pu_put (f := 0) (v := .ref co) h
  refine hs_aload (i := 0) (p := 10) (by decide +kernel) rfl ?_
  refine hs_iload (i := 2) (p := 11) (by decide +kernel) rfl ?_
  refine hs_putj (ci := 0) (f := 1) (ty := .int) (p := 14) (by decide +kernel) h1.2.2.2.2 ⟨h1.2.2.1, h1.2.2.2.1⟩ (Nat.le_of_ble_eq_true rfl) rfl ?_
  obtain ⟨h2, f2⟩ := pu_put (f := 1) (v := .int x) h1
  refine hs_aload (i := 0) (p := 15) (by decide +kernel) rfl ?_
  refine hs_iload (i := 3) (p := 16) (by decide +kernel) rfl ?_
  refine hs_putj (ci := 0) (f := 2) (ty := .int) (p := 19) (by decide +kernel) h2.2.2.2.2 ⟨h2.2.2.1, h2.2.2.2.1⟩ (Nat.le_of_ble_eq_true rfl) rfl ?_
  obtain ⟨h3, f3⟩ := pu_put (f := 2) (v := .int y) h2
  refine hs_aload (i := 0) (p := 20) (by decide +kernel) rfl ?_
  refine hs_iload (i := 4) (p := 22) (by decide +kernel) rfl ?_
  refine hs_putj (ci := 0) (f := 3) (ty := .boolean) (p := 25) (by decide +kernel) h3.2.2.2.2 ⟨h3.2.2.1, h3.2.2.2.1⟩ (Nat.le_of_ble_eq_true rfl) (hi_fz hn) ?_
  obtain ⟨h4, f4⟩ := pu_put (f := 3) (v := .int (Int32.ofNat n)) h3
  obtain ⟨x5, hH5, k5⟩ := pu_typ (t := 2) h4 (by decide) rfl ⟨_, rfl, rfl, fun k p hk => by
    match k, hk with
    | 0, hk => cases hk; exact ⟨_, rfl, .inr (.inr ⟨by decide, _, rfl, hc⟩)⟩
    | 1, hk => cases hk; exact ⟨_, rfl, .inr hi_any⟩
    | 2, hk => cases hk; exact ⟨_, rfl, .inr hi_any⟩
    | 3, hk => cases hk; exact ⟨_, rfl, .inr (hi_nv (by omega) (by omega))⟩
    | n + 4, hk => cases hk⟩ ⟨by decide, by decide⟩
  refine hs_vret (by decide +kernel) ?_
  have e := h4.2.2.2.2
  exact ⟨_, _, rfl, x5, hH5, k5, ((xf_u.tr xf_u (fun _ _ _ h => h)).tr xf_u (fun _ _ _ h => h)).tr xf_u (fun _ _ _ h => h), by rw [e]; rfl, by rw [e]; rfl, by rw [e]; rfl, by rw [e]; rfl⟩
def vo (o : Option Nat) : Value := match o with
  | some b => .ref b
  | none => .null
/-- a reference, or null, into an array -/
theorem hf_aasv {n N t u kd cj m p : Nat} {ob : Option Nat} {ps : List et_P} (hc : hs_o k pc = some (.aastore, p)) (hT : et_TT[t]? = some (.inr (kd, N, [(0, m, .inr (.inr (1, u)))])) ∧ et_TT[u]? = some (.inl (cj, ps))) (hk : (5 ≤ kd ∧ kd < 11) ∧ eg_el kd = cj ∧ 2 ≤ t ∧ 0 < N ∧ N ≤ 400) (hH : et_H et_TT K G) (ha : K a = some t) (hn : n < N) (hb : ∀ b, ob = some b → K b = some u) (h : ∀ G', et_H et_TT K G' → xf (fun c j => c = a ∧ j = n) G G' → et_pl (eg_at G' a) n = some (vo ob) → et_go none d k p L r G' ck sk Z) : et_go none d k pc L (vo ob :: .int (Int32.ofNat n) :: .ref a :: r) G ck sk Z := by
  obtain ⟨g1, -, g3, dd, hd, hcell, hcx⟩ := hH.2.2 a t ha
  rw [hT.1] at hd
  cases hd
  obtain ⟨⟨N', y⟩, e, ey, er, es⟩ := hcell
  have ey : N' = N := ey
  subst ey
  obtain ⟨v0, hv0⟩ := er 0 hk.2.2.2.1
  have hk5 : ¬ (kd = 0 ∨ kd = 1 ∨ kd = 3 ∨ kd = 4) := by omega
  obtain ⟨f, rfl⟩ : ∃ f, y = .inr (.inr (.inr (.inr f))) := by
    unfold eg_rd at hv0
    rcases y with g | g | g | g | f
    · dsimp only at hv0
      rw [if_neg hk5] at hv0
      cases hv0
    · dsimp only at hv0
      rw [if_neg (by omega)] at hv0
      cases hv0
    · cases hv0
    · cases hv0
    · exact ⟨f, rfl⟩
  have h3 := hs_nint (a := n) (by omega)
  obtain ⟨e0, rfl⟩ := hs_oc hc
  have hak : eg_ak .aastore kd = true := by
    show (decide (5 ≤ kd) && decide (kd < 11)) = true
    rw [decide_eq_true hk.1.1, decide_eq_true hk.1.2]
    rfl
  have hrd : ∀ i, eg_rd kd (N', .inr (.inr (.inr (.inr (va_up f n ob))))) i = if i = n then some (vo ob) else eg_rd kd (N', .inr (.inr (.inr (.inr f)))) i := fun i => by
    unfold eg_rd
    dsimp only
    rw [if_pos hk.1.1, if_pos hk.1.1]
    unfold va_up vo
    split
    · cases ob <;> rfl
    · rfl
  have hsp : et_v K (.inr (.inr (1, u))) (vo ob) := by
    cases ob with
    | none => exact .inl ⟨by decide, rfl⟩
    | some b => exact .inr ⟨by decide, _, rfl, hb b rfl⟩
  refine hs_st e0 rfl (?_ : _ = some (pc + 1, L, r, eg_u G a (.inl (kd, (N', .inr (.inr (.inr (.inr (va_up f n ob))))))), ck, sk)) (h _ (et_H_u hH ha hk.2.2.1 hT.1 ⟨_, rfl, rfl, fun i hi => ?_, fun s hs i i1 i2 i3 => ?_⟩ (fun e1 => absurd e1 (by omega))) ⟨Nat.le_refl _, fun c i hc2 hi => ?_⟩ ?_)
  · show eg_aw .aastore pc L (vo ob :: .int (Int32.ofNat n) :: .ref a :: r) G ck sk = _
    unfold eg_aw
    dsimp only
    rw [e]
    dsimp only
    rw [if_pos ⟨g3 hk.2.2.1, g1, hak, by omega, by omega⟩, hs_nnat (by omega)]
    unfold eg_wr vo
    cases ob with
    | none =>
      dsimp only
      rw [if_pos ⟨hk.1.1, hk.1.2⟩]
    | some b =>
      obtain ⟨q1, -, -, dd, hd, hcb, -⟩ := hH.2.2 b u (hb b rfl)
      rw [hT.2] at hd
      cases hd
      obtain ⟨fs, eb, -, -⟩ := hcb
      dsimp only
      rw [if_pos ⟨q1, hk.1.1, hk.1.2, by rw [eb, hk.2.1]; exact beq_self_eq_true cj⟩]
  · rw [hrd]
    by_cases ei : i = n
    · exact ⟨_, if_pos ei⟩
    · rw [if_neg ei]
      exact er i hi
  · rw [hrd]
    by_cases ei : i = n
    · obtain rfl := List.mem_singleton.mp hs
      exact ⟨_, if_pos ei, hsp⟩
    · rw [if_neg ei]
      exact es s hs i i1 i2 i3
  · by_cases e3 : c = a
    · subst e3
      rw [et_at_us (g3 hk.2.2.1), e]
      have ei : ¬ i = n := fun h => hi ⟨rfl, h⟩
      show (if i < N' then eg_rd kd (N', .inr (.inr (.inr (.inr (va_up f n ob))))) i else none) = (if i < N' then eg_rd kd (N', .inr (.inr (.inr (.inr f)))) i else none)
      rw [hrd, if_neg ei]
    · rw [et_at_u e3]
  · rw [et_at_us (g3 hk.2.2.1)]
    show (if n < N' then eg_rd kd (N', .inr (.inr (.inr (.inr (va_up f n ob))))) n else none) = _
    rw [if_pos hn, hrd, if_pos rfl]
theorem hf_aas1 {b n N t u kd cj m p : Nat} {ps : List et_P} (hc : hs_o k pc = some (.aastore, p)) (hT : et_TT[t]? = some (.inr (kd, N, [(0, m, .inr (.inr (1, u)))])) ∧ et_TT[u]? = some (.inl (cj, ps))) (hk : (5 ≤ kd ∧ kd < 11) ∧ eg_el kd = cj ∧ 2 ≤ t ∧ 0 < N ∧ N ≤ 400) (hH : et_H et_TT K G) (ha : K a = some t) (hn : n < N) (hb : K b = some u) (h : ∀ G', et_H et_TT K G' → xf (fun c j => c = a ∧ j = n) G G' → et_pl (eg_at G' a) n = some (.ref b) → et_go none d k p L r G' ck sk Z) : et_go none d k pc L (.ref b :: .int (Int32.ofNat n) :: .ref a :: r) G ck sk Z := hf_aasv (ob := some b) hc hT hk hH ha hn (fun b' e => by cases e; exact hb) h
/-- a call that makes things, and may throw -/
def xk_Z (S : Nat → Nat → Prop) (K : et_K) (G : eg_G) (P : et_K → eg_G → eg_R → Prop) (u : eg_O) : Prop := ∃ (K' : et_K) (G' : eg_G) (v : eg_R) (c s : Nat), u = (v, G', c, s) ∧ et_ex K K' ∧ et_H et_TT K' G' ∧ xf S G G' ∧ P K' G' v
end FKA
section FKB
variable {K : et_K} {G : eg_G} {L : List sp_T} {d2 d rd x th s0 ra ca c ec rc : Nat} {b : Nat → Nat} {ey ru : Int32}

theorem fc_tcc {ta ba na tp n pl : Nat} (hH : et_H et_TT K G) (k_rd : K rd = some 7) (r0 : et_pl (eg_at G rd) 0 = some (.ref tp)) (k_tp : K tp = some 33) (r1 : et_pl (eg_at G rd) 1 = some (.int (Int32.ofNat n))) (hn : n ≤ 400) (ht : ∀ i, i < n → et_pl (eg_at G tp) i = some (.int (Int32.ofNat (b i)))) (hb : ∀ i, i < n → b i < 256) (k_ta : K ta = some 41) (k_ba : K ba = some 21) (k_na : K na = some 21) (hne : ¬ ba = na) (r4 : et_pl (eg_at G rd) 4 = some (.ref ta)) (r5 : et_pl (eg_at G rd) 5 = some (.ref ba)) (r6 : et_pl (eg_at G rd) 6 = some (.ref na)) (hpl : pl ≤ 3) (hd : 26 ≤ d2) : et_go none d2 66 0 (eg_en (eg_mL 66) [.ref rd, .int (Int32.ofNat pl)]) [] G 0 0 (fun u => tcZ (fun b j => (b = rd ∧ 1 ≤ j) ∨ ((b = ta ∧ 0 ≤ j) ∨ ((b = ba ∧ 0 ≤ j) ∨ ((b = na ∧ 0 ≤ j))))) (sp_one (tz_ts pl b n 0)) K G u ∧ (u.2.2.1 ≤ 805 ∧ u.2.2.2 ≤ 4830)) := by
  refine ((fc_tc hH k_rd r0 k_tp r1 hn ht hb k_ta k_ba k_na hne r4 r5 r6 hpl hd).and (hc_tcL (w := (K, [], G)) (pl := Int32.ofNat pl) hH k_rd (by omega))).mono (fun u hu => ?_)
  obtain ⟨⟨K', G', v, c, s, e, g1, g2, g3, g4⟩, ⟨es, hes, -, -, -, -, -, h1, h2⟩, -⟩ := hu
  obtain rfl := List.mem_singleton.mp hes
  refine ⟨⟨K', G', v, c, s, e, g1, g2, g3.wk (fun a j _ h => ?_), g4⟩, h1, h2⟩
  first | omega | (dsimp only at h ⊢; omega)
theorem hi_el37 {n q : Nat} (hH : et_H et_TT K G) (k_ra : K ra = some 37) (hn : n < 4) (hq : et_pl (eg_at G ra) n = some (.ref q)) : K q = some 8 := by
  obtain ⟨g1, -, g3, dd, hd, hcell, hcx⟩ := hH.2.2 ra 37 k_ra
  cases hd
  obtain ⟨x, e, ey, er, es⟩ := hcell
  rw [e] at hq
  have hq : (if n < x.1 then eg_rd 5 x n else none) = some (.ref q) := hq
  obtain ⟨v, h1, h2⟩ := es _ (List.mem_singleton.mpr rfl) n (Nat.zero_le _) (show n ≤ 3 by omega) hn
  rw [if_pos (by rw [ey]; exact hn), h1] at hq
  cases hq
  rcases h2 with ⟨-, h2⟩ | ⟨-, q', e1, e2⟩
  · cases h2
  · cases e1
    exact e2
theorem fc_needRule (hH : et_H et_TT K G) (k_th : K th = some 12) (h0 : et_pl (eg_at G th) 0 = some (.ref s0)) (k_s0 : K s0 = some 10) (g0 : et_pl (eg_at G s0) 0 = some (.int (Int32.ofNat rc))) (hrc : rc ≤ 4) (g1 : et_pl (eg_at G s0) 1 = some (.ref ra)) (k_ra : K ra = some 37) (hru : ∀ i, i < rc → ∃ q, et_pl (eg_at G ra) i = some (.ref q)) : et_go none d2 129 0 (eg_en (eg_mL 129) [.ref th, .int ru]) [] G 0 0 (xe_Z (fun _ _ => False) K G (fun G' r => G' = G ∧ ((¬ xr ru rc ∧ r = .inr 1) ∨ ∃ n q : Nat, ru = Int32.ofNat n ∧ n < rc ∧ r = .inl (some (.ref q)) ∧ K q = some 8 ∧ et_pl (eg_at G ra) n = some (.ref q)))) := by
  have hX : xf (fun _ _ => False) G G := xf.rf
  rw [show eg_mL 129 = 2 from by decide +kernel]
  show et_go none d2 129 0 [some (.ref th), some (.int ru)] [] G 0 0 (xe_Z _ _ _ _)
  have lt_th := (hH.2.2 _ _ k_th).1
  have lt_s0 := (hH.2.2 _ _ k_s0).1
  have lt_ra := (hH.2.2 _ _ k_ra).1
  refine hs_iload (i := 1) (p := 1) (by decide +kernel) rfl ?_
  refine hs_br1 (c := .lt) (t := 27) (f := 4) (by decide +kernel) (fun (c1 : ru < 0) => ?_) (fun (c1 : ¬ (ru < 0)) => ?_)
  · refine hs_thr (x := 1) (lk := 2) (by decide +kernel) rfl rfl ?_
    try simp only [xi_nle (k := rc) (by omega), xi_ltn (k := rc) (by omega), xi_lt0, xi_ge0, xi_gt0, xi_le0, xi_ltn (k := 1) (by decide), xi_len (k := 1) (by decide), xi_nle (k := 1) (by decide), xi_nlt (k := 1) (by decide), xi_ltn (k := 2) (by decide), xi_len (k := 2) (by decide), xi_nle (k := 2) (by decide), xi_nlt (k := 2) (by decide), xi_ltn (k := 3) (by decide), xi_len (k := 3) (by decide), xi_nle (k := 3) (by decide), xi_nlt (k := 3) (by decide), xi_ltn (k := 6) (by decide), xi_len (k := 6) (by decide), xi_nle (k := 6) (by decide), xi_nlt (k := 6) (by decide), xi_ltn (k := 7) (by decide), xi_len (k := 7) (by decide), xi_nle (k := 7) (by decide), xi_nlt (k := 7) (by decide), xi_ltn (k := 15) (by decide), xi_len (k := 15) (by decide), xi_nle (k := 15) (by decide), xi_nlt (k := 15) (by decide), xi_ltn (k := 16) (by decide), xi_len (k := 16) (by decide), xi_nle (k := 16) (by decide), xi_nlt (k := 16) (by decide), xi_ltn (k := 20) (by decide), xi_len (k := 20) (by decide), xi_nle (k := 20) (by decide), xi_nlt (k := 20) (by decide), xi_ltn (k := 50) (by decide), xi_len (k := 50) (by decide), xi_nle (k := 50) (by decide), xi_nlt (k := 50) (by decide), xi_ltn (k := 60) (by decide), xi_len (k := 60) (by decide), xi_nle (k := 60) (by decide), xi_nlt (k := 60) (by decide), xi_ltn (k := 127) (by decide), xi_len (k := 127) (by decide), xi_nle (k := 127) (by decide), xi_nlt (k := 127) (by decide), xi_ltn (k := 128) (by decide), xi_len (k := 128) (by decide), xi_nle (k := 128) (by decide), xi_nlt (k := 128) (by decide), xi_ltn (k := 200) (by decide), xi_len (k := 200) (by decide), xi_nle (k := 200) (by decide), xi_nlt (k := 200) (by decide), xi_ltn (k := 2000) (by decide), xi_len (k := 2000) (by decide), xi_nle (k := 2000) (by decide), xi_nlt (k := 2000) (by decide), xi_ltn (k := 65535) (by decide), xi_len (k := 65535) (by decide), xi_nle (k := 65535) (by decide), xi_nlt (k := 65535) (by decide), xi_ltn (k := 65536) (by decide), xi_len (k := 65536) (by decide), xi_nle (k := 65536) (by decide), xi_nlt (k := 65536) (by decide)] at c1
    exact ⟨_, _, _, _, rfl, hH, hX, rfl, .inl ⟨(by unfold xr; omega), rfl⟩⟩
  · refine hs_iload (i := 1) (p := 5) (by decide +kernel) rfl ?_
    refine hs_aload (i := 0) (p := 6) (by decide +kernel) rfl ?_
    refine hf_get (T := et_TT) (t := 12) (ci := 10) (f := 0) (p := 9) (by decide +kernel) rfl hH k_th h0 ?_
    refine hf_get (T := et_TT) (t := 10) (ci := 8) (f := 0) (p := 12) (by decide +kernel) rfl hH k_s0 g0 ?_
    refine hs_br2 (c := .ge) (t := 27) (f := 15) (by decide +kernel) (fun (c12 : Int32.ofNat rc ≤ ru) => ?_) (fun (c12 : ¬ (Int32.ofNat rc ≤ ru)) => ?_)
    · refine hs_thr (x := 1) (lk := 2) (by decide +kernel) rfl rfl ?_
      try simp only [xi_nle (k := rc) (by omega), xi_ltn (k := rc) (by omega), xi_lt0, xi_ge0, xi_gt0, xi_le0, xi_ltn (k := 1) (by decide), xi_len (k := 1) (by decide), xi_nle (k := 1) (by decide), xi_nlt (k := 1) (by decide), xi_ltn (k := 2) (by decide), xi_len (k := 2) (by decide), xi_nle (k := 2) (by decide), xi_nlt (k := 2) (by decide), xi_ltn (k := 3) (by decide), xi_len (k := 3) (by decide), xi_nle (k := 3) (by decide), xi_nlt (k := 3) (by decide), xi_ltn (k := 6) (by decide), xi_len (k := 6) (by decide), xi_nle (k := 6) (by decide), xi_nlt (k := 6) (by decide), xi_ltn (k := 7) (by decide), xi_len (k := 7) (by decide), xi_nle (k := 7) (by decide), xi_nlt (k := 7) (by decide), xi_ltn (k := 15) (by decide), xi_len (k := 15) (by decide), xi_nle (k := 15) (by decide), xi_nlt (k := 15) (by decide), xi_ltn (k := 16) (by decide), xi_len (k := 16) (by decide), xi_nle (k := 16) (by decide), xi_nlt (k := 16) (by decide), xi_ltn (k := 20) (by decide), xi_len (k := 20) (by decide), xi_nle (k := 20) (by decide), xi_nlt (k := 20) (by decide), xi_ltn (k := 50) (by decide), xi_len (k := 50) (by decide), xi_nle (k := 50) (by decide), xi_nlt (k := 50) (by decide), xi_ltn (k := 60) (by decide), xi_len (k := 60) (by decide), xi_nle (k := 60) (by decide), xi_nlt (k := 60) (by decide), xi_ltn (k := 127) (by decide), xi_len (k := 127) (by decide), xi_nle (k := 127) (by decide), xi_nlt (k := 127) (by decide), xi_ltn (k := 128) (by decide), xi_len (k := 128) (by decide), xi_nle (k := 128) (by decide), xi_nlt (k := 128) (by decide), xi_ltn (k := 200) (by decide), xi_len (k := 200) (by decide), xi_nle (k := 200) (by decide), xi_nlt (k := 200) (by decide), xi_ltn (k := 2000) (by decide), xi_len (k := 2000) (by decide), xi_nle (k := 2000) (by decide), xi_nlt (k := 2000) (by decide), xi_ltn (k := 65535) (by decide), xi_len (k := 65535) (by decide), xi_nle (k := 65535) (by decide), xi_nlt (k := 65535) (by decide), xi_ltn (k := 65536) (by decide), xi_len (k := 65536) (by decide), xi_nle (k := 65536) (by decide), xi_nlt (k := 65536) (by decide)] at c1 c12
      exact ⟨_, _, _, _, rfl, hH, hX, rfl, .inl ⟨(by unfold xr; omega), rfl⟩⟩
    · obtain ⟨n, rfl, hn⟩ := xi_nn c1
      have hne : n < rc := by have h := c12; simp only [Int32.le_iff_toInt_le, hs_nint hn, hs_nint (show rc < 2147483648 by omega)] at h; omega
      obtain ⟨q, hq⟩ := hru n hne
      have k_q : K q = some 8 := hi_el37 hH k_ra (by omega) hq
      refine hs_aload (i := 0) (p := 16) (by decide +kernel) rfl ?_
      refine hf_get (T := et_TT) (t := 12) (ci := 10) (f := 0) (p := 19) (by decide +kernel) rfl hH k_th h0 ?_
      refine hf_get (T := et_TT) (t := 10) (ci := 8) (f := 1) (p := 22) (by decide +kernel) rfl hH k_s0 g1 ?_
      refine hs_iload (i := 1) (p := 23) (by decide +kernel) rfl ?_
      refine hf_ald (ins := .aaload) (T := et_TT) (t := 37) (kd := 5) (N := 4) (p := 24) (by decide +kernel) (fun _ _ _ _ _ _ _ _ _ _ => rfl) rfl rfl rfl hH k_ra (by decide) hq ?_
      refine hs_ifnonnull1 (p := 35) (by decide +kernel) ?_
      refine hs_aload (i := 0) (p := 36) (by decide +kernel) rfl ?_
      refine hf_get (T := et_TT) (t := 12) (ci := 10) (f := 0) (p := 39) (by decide +kernel) rfl hH k_th h0 ?_
      refine hf_get (T := et_TT) (t := 10) (ci := 8) (f := 1) (p := 42) (by decide +kernel) rfl hH k_s0 g1 ?_
      refine hs_iload (i := 1) (p := 43) (by decide +kernel) rfl ?_
      refine hf_ald (ins := .aaload) (T := et_TT) (t := 37) (kd := 5) (N := 4) (p := 44) (by decide +kernel) (fun _ _ _ _ _ _ _ _ _ _ => rfl) rfl rfl rfl hH k_ra (by decide) hq ?_
      refine hs_aret (cn := "KnobEye$Rule") (by decide +kernel) ?_
      exact ⟨_, _, _, _, rfl, hH, hX, rfl, .inr ⟨n, q, rfl, hne, rfl, k_q, hq⟩⟩
theorem fc_rule {ta ba na tp n : Nat} (hH : et_H et_TT K G) (k_rd : K rd = some 7) (r0 : et_pl (eg_at G rd) 0 = some (.ref tp)) (k_tp : K tp = some 33) (r1 : et_pl (eg_at G rd) 1 = some (.int (Int32.ofNat n))) (hn : n ≤ 400) (ht : ∀ i, i < n → et_pl (eg_at G tp) i = some (.int (Int32.ofNat (b i)))) (hb : ∀ i, i < n → b i < 256) (k_ta : K ta = some 41) (k_ba : K ba = some 21) (k_na : K na = some 21) (hne : ¬ ba = na) (r4 : et_pl (eg_at G rd) 4 = some (.ref ta)) (r5 : et_pl (eg_at G rd) 5 = some (.ref ba)) (r6 : et_pl (eg_at G rd) 6 = some (.ref na)) (k_th : K th = some 12) (h3 : et_pl (eg_at G th) 3 = some (.ref rd)) (h0 : et_pl (eg_at G th) 0 = some (.ref s0)) (k_s0 : K s0 = some 10) (g0 : et_pl (eg_at G s0) 0 = some (.int (Int32.ofNat c))) (hc : c ≤ 4) (g1 : et_pl (eg_at G s0) 1 = some (.ref ra)) (k_ra : K ra = some 37) (hd : 27 ≤ d2) : et_go none d2 131 0 (eg_en (eg_mL 131) [.ref th]) [] G 0 0 (xk_Z (fun b j => (b = rd ∧ 1 ≤ j) ∨ ((b = ta ∧ 0 ≤ j) ∨ ((b = ba ∧ 0 ≤ j) ∨ ((b = na ∧ 0 ≤ j) ∨ ((b = s0 ∧ j = 0) ∨ ((b = ra ∧ j = c))))))) K G (fun K' G' v => (sp_one (tz_ts 0 b n 0) = none ∧ v = .inr 0 ∧ et_pl (eg_at G' s0) 0 = some (.int (Int32.ofNat c))) ∨ (c = 4 ∧ ¬ sp_one (tz_ts 0 b n 0) = none ∧ v = .inr 2 ∧ et_pl (eg_at G' s0) 0 = some (.int (Int32.ofNat c))) ∨ (c < 4 ∧ v = .inl (some (.int (Int32.ofNat c))) ∧ et_pl (eg_at G' s0) 0 = some (.int (Int32.ofNat (c + 1))) ∧ ∃ f q bb, sp_one (tz_ts 0 b n 0) = some f ∧ et_pl (eg_at G' ra) c = some (.ref q) ∧ K' q = some 8 ∧ et_pl (eg_at G' q) 0 = some (.ref bb) ∧ et_pl (eg_at G' q) 1 = some .null ∧ K' bb = some 6 ∧ G.2 ≤ bb ∧ G.2 ≤ q ∧ ∃ hi, hi ≤ G'.2 ∧ dn G' 15 G.2 hi bb f))) := by
  obtain ⟨d, rfl⟩ : ∃ d, d2 = d + 27 := ⟨d2 - 27, by omega⟩
  rw [show eg_mL 131 = 2 from by decide +kernel]
  show et_go none (d + 27) 131 0 [some (.ref th), none] [] G 0 0 (xk_Z _ _ _ _)
  have lt_th := (hH.2.2 _ _ k_th).1
  have lt_s0 := (hH.2.2 _ _ k_s0).1
  have lt_rd := (hH.2.2 _ _ k_rd).1
  have lt_ta := (hH.2.2 _ _ k_ta).1
  have lt_ba := (hH.2.2 _ _ k_ba).1
  have lt_na := (hH.2.2 _ _ k_na).1
  have lt_tp := (hH.2.2 _ _ k_tp).1
  have lt_ra := (hH.2.2 _ _ k_ra).1
  have hX : xf (fun b j => (b = rd ∧ 1 ≤ j) ∨ ((b = ta ∧ 0 ≤ j) ∨ ((b = ba ∧ 0 ≤ j) ∨ ((b = na ∧ 0 ≤ j) ∨ ((b = s0 ∧ j = 0) ∨ ((b = ra ∧ j = c))))))) G G := xf.rf
  have hx0 : et_ex K K := et_ex.rf
  have lr_th := lt_th
  have lr_s0 := lt_s0
  have lr_rd := lt_rd
  have lr_ta := lt_ta
  have lr_ba := lt_ba
  have lr_na := lt_na
  have lr_tp := lt_tp
  have lr_ra := lt_ra
  refine hs_aload (i := 0) (p := 1) (by decide +kernel) rfl ?_
  refine hf_get (T := et_TT) (t := 12) (ci := 10) (f := 3) (p := 4) (by decide +kernel) rfl hH k_th h3 ?_
  refine hs_k (x := Int32.ofNat 0) (p := 5) (by decide +kernel) ?_
  refine ht_callv (T := et_TT) (t := 7) (mi := 66) (na := 1) (ci := 5) (lk := 2) (lm := 3) (L0 := eg_en (eg_mL 66) [.ref rd, .int (Int32.ofNat 0)]) (by decide +kernel) rfl hH k_rd rfl rfl rfl rfl rfl (by rw [show eg_mL 66 = 3 from by decide +kernel]; first | done | rfl) ?_
  refine (fc_tcc hH k_rd r0 k_tp r1 hn ht hb k_ta k_ba k_na hne r4 r5 r6 (by decide) (by omega)).mono (fun u hu => ?_)
  obtain ⟨⟨K5, G5, v5, c5, s5, rfl, hxx5, hH, x5, hm5⟩, hc5, hs5⟩ := hu
  dsimp only at hc5 hs5
  have h3 := (x5.2 th 3 lt_th (fun h => Or.elim h (fun h => (hi_ne k_th k_rd (by decide)) h.1) (fun h => Or.elim h (fun h => (hi_ne k_th k_ta (by decide)) h.1) (fun h => Or.elim h (fun h => (hi_ne k_th k_ba (by decide)) h.1) (fun h => (hi_ne k_th k_na (by decide)) h.1))))).trans h3
  have h0 := (x5.2 th 0 lt_th (fun h => Or.elim h (fun h => (hi_ne k_th k_rd (by decide)) h.1) (fun h => Or.elim h (fun h => (hi_ne k_th k_ta (by decide)) h.1) (fun h => Or.elim h (fun h => (hi_ne k_th k_ba (by decide)) h.1) (fun h => (hi_ne k_th k_na (by decide)) h.1))))).trans h0
  have r0 := (x5.2 rd 0 lt_rd (fun h => Or.elim h (fun h => by have h := h.2; omega) (fun h => Or.elim h (fun h => (hi_ne k_rd k_ta (by decide)) h.1) (fun h => Or.elim h (fun h => (hi_ne k_rd k_ba (by decide)) h.1) (fun h => (hi_ne k_rd k_na (by decide)) h.1))))).trans r0
  have g0 := (x5.2 s0 0 lt_s0 (fun h => Or.elim h (fun h => (hi_ne k_s0 k_rd (by decide)) h.1) (fun h => Or.elim h (fun h => (hi_ne k_s0 k_ta (by decide)) h.1) (fun h => Or.elim h (fun h => (hi_ne k_s0 k_ba (by decide)) h.1) (fun h => (hi_ne k_s0 k_na (by decide)) h.1))))).trans g0
  have g1 := (x5.2 s0 1 lt_s0 (fun h => Or.elim h (fun h => (hi_ne k_s0 k_rd (by decide)) h.1) (fun h => Or.elim h (fun h => (hi_ne k_s0 k_ta (by decide)) h.1) (fun h => Or.elim h (fun h => (hi_ne k_s0 k_ba (by decide)) h.1) (fun h => (hi_ne k_s0 k_na (by decide)) h.1))))).trans g1
  have lt_th := Nat.lt_of_lt_of_le lt_th x5.1
  have lt_s0 := Nat.lt_of_lt_of_le lt_s0 x5.1
  have lt_rd := Nat.lt_of_lt_of_le lt_rd x5.1
  have lt_ta := Nat.lt_of_lt_of_le lt_ta x5.1
  have lt_ba := Nat.lt_of_lt_of_le lt_ba x5.1
  have lt_na := Nat.lt_of_lt_of_le lt_na x5.1
  have lt_tp := Nat.lt_of_lt_of_le lt_tp x5.1
  have lt_ra := Nat.lt_of_lt_of_le lt_ra x5.1
  have hX := hX.tr x5 (fun b j hb h => by first | omega | (dsimp only at h ⊢; omega) | (dsimp only at h; omega) | (dsimp only; omega))
  have m_x5 := x5.1
  have k_th := hxx5 _ _ k_th
  have k_s0 := hxx5 _ _ k_s0
  have k_rd := hxx5 _ _ k_rd
  have k_ta := hxx5 _ _ k_ta
  have k_ba := hxx5 _ _ k_ba
  have k_na := hxx5 _ _ k_na
  have k_tp := hxx5 _ _ k_tp
  have k_ra := hxx5 _ _ k_ra
  have hx0 := hx0.tr hxx5
  rcases hm5 with ⟨sq, rfl⟩ | ⟨f_, bb, sq, rfl, k_bb, lo, R⟩
  · refine hs_cb ?_
    show et_go none _ 131 8 _ [.null] _ _ _ _
    refine hs_astore0 (i := 1) (p := 9) (by decide +kernel) (Nat.le_of_ble_eq_true rfl) ?_
    refine hs_aload0 (i := 1) (p := 10) (by decide +kernel) rfl ?_
    refine hs_ifnonnull0 (p := 13) (by decide +kernel) ?_
    refine hs_thr (x := 0) (lk := 2) (by decide +kernel) rfl rfl ?_
    exact ⟨_, _, _, _, _, rfl, hx0, hH, hX, .inl ⟨sq, rfl, g0⟩⟩
  · have lt_bb := (hH.2.2 _ _ k_bb).1
    refine hs_cb ?_
    show et_go none _ 131 8 _ [.ref bb] _ _ _ _
    refine hs_astore (i := 1) (p := 9) (by decide +kernel) (Nat.le_of_ble_eq_true rfl) ?_
    refine hs_aload (i := 1) (p := 10) (by decide +kernel) rfl ?_
    refine hs_ifnonnull1 (p := 21) (by decide +kernel) ?_
    refine hs_aload (i := 0) (p := 22) (by decide +kernel) rfl ?_
    refine hf_get (T := et_TT) (t := 12) (ci := 10) (f := 0) (p := 25) (by decide +kernel) rfl hH k_th h0 ?_
    refine hf_get (T := et_TT) (t := 10) (ci := 8) (f := 0) (p := 28) (by decide +kernel) rfl hH k_s0 g0 ?_
    refine hs_k (x := Int32.ofNat 4) (p := 29) (by decide +kernel) ?_
    refine hs_br2n (c := .lt) (t := 40) (f := 32) (by decide +kernel) (by omega) (by omega) (fun (c29 : c < 4) => ?_) (fun (c29 : ¬ (c < 4)) => ?_)
    · refine hs_aload (i := 0) (p := 41) (by decide +kernel) rfl ?_
      refine hf_get (T := et_TT) (t := 12) (ci := 10) (f := 0) (p := 44) (by decide +kernel) rfl hH k_th h0 ?_
      refine hf_get (T := et_TT) (t := 10) (ci := 8) (f := 1) (p := 47) (by decide +kernel) rfl hH k_s0 g1 ?_
      refine hs_aload (i := 0) (p := 48) (by decide +kernel) rfl ?_
      refine hf_get (T := et_TT) (t := 12) (ci := 10) (f := 0) (p := 51) (by decide +kernel) rfl hH k_th h0 ?_
      refine hf_get (T := et_TT) (t := 10) (ci := 8) (f := 0) (p := 54) (by decide +kernel) rfl hH k_s0 g0 ?_
      refine hf_newU (ci := 6) (n := 2) (fs := [.null, .null]) (p := 57) (by decide +kernel) (by omega) (by omega) (by decide +kernel) (by decide +kernel) hH (fun GN54 hu54 x54 mm54 => ?_)
      have hH := hu54.1
      have h3 := (x54.2 th 3 lt_th (fun h => h)).trans h3
      have h0 := (x54.2 th 0 lt_th (fun h => h)).trans h0
      have r0 := (x54.2 rd 0 lt_rd (fun h => h)).trans r0
      have g0 := (x54.2 s0 0 lt_s0 (fun h => h)).trans g0
      have g1 := (x54.2 s0 1 lt_s0 (fun h => h)).trans g1
      have lt_th := Nat.lt_of_lt_of_le lt_th x54.1
      have lt_s0 := Nat.lt_of_lt_of_le lt_s0 x54.1
      have lt_rd := Nat.lt_of_lt_of_le lt_rd x54.1
      have lt_ta := Nat.lt_of_lt_of_le lt_ta x54.1
      have lt_ba := Nat.lt_of_lt_of_le lt_ba x54.1
      have lt_na := Nat.lt_of_lt_of_le lt_na x54.1
      have lt_tp := Nat.lt_of_lt_of_le lt_tp x54.1
      have lt_ra := Nat.lt_of_lt_of_le lt_ra x54.1
      have lt_bb := Nat.lt_of_lt_of_le lt_bb x54.1
      have hX := hX.tr x54 (fun b j hb h => h.elim)
      have m_x54 := x54.1
      have R := R.fr (x54.agf (lo := G.2) (hi := G5.2) (by omega) (fun a j h1 h2 hs => by exact hs)).ag
      refine hs_dup1 (p := 58) (by decide +kernel) ?_
      refine hs_aload (i := 1) (p := 59) (by decide +kernel) rfl ?_
      refine hs_callp (mi := 88) (na := 1) (lk := 2) (lm := 2) (L0 := eg_en (eg_mL 88) [.ref G5.2, .ref bb]) (by decide +kernel) rfl rfl rfl rfl rfl (by rw [show eg_mL 88 = 2 from by decide +kernel]; first | done | rfl) ?_
      refine (fu_rule hu54 k_bb).mono (fun u hu => fuZ_cb hu (fun K59 G59 hxx59 hH k_n59 x59 hn59 => ?_))
      have lb59 : G5.2 < GN54.2 := by omega
      have h3 := (x59.2 th 3 lt_th (fun h => absurd h (Nat.ne_of_lt (by omega)))).trans h3
      have h0 := (x59.2 th 0 lt_th (fun h => absurd h (Nat.ne_of_lt (by omega)))).trans h0
      have r0 := (x59.2 rd 0 lt_rd (fun h => absurd h (Nat.ne_of_lt (by omega)))).trans r0
      have g0 := (x59.2 s0 0 lt_s0 (fun h => absurd h (Nat.ne_of_lt (by omega)))).trans g0
      have g1 := (x59.2 s0 1 lt_s0 (fun h => absurd h (Nat.ne_of_lt (by omega)))).trans g1
      have hX := hX.tr x59 (fun b j hb h => by first | omega | (dsimp only at h ⊢; omega))
      have m_x59 := x59.1
      have R := R.fr (x59.agf (lo := G.2) (hi := G5.2) (by omega) (fun a j h1 h2 hs => by omega)).ag
      have lt_th := Nat.lt_of_lt_of_le lt_th x59.1
      have lt_s0 := Nat.lt_of_lt_of_le lt_s0 x59.1
      have lt_rd := Nat.lt_of_lt_of_le lt_rd x59.1
      have lt_ta := Nat.lt_of_lt_of_le lt_ta x59.1
      have lt_ba := Nat.lt_of_lt_of_le lt_ba x59.1
      have lt_na := Nat.lt_of_lt_of_le lt_na x59.1
      have lt_tp := Nat.lt_of_lt_of_le lt_tp x59.1
      have lt_ra := Nat.lt_of_lt_of_le lt_ra x59.1
      have lt_bb := Nat.lt_of_lt_of_le lt_bb x59.1
      have k_th := hxx59 _ _ k_th
      have k_s0 := hxx59 _ _ k_s0
      have k_rd := hxx59 _ _ k_rd
      have k_ta := hxx59 _ _ k_ta
      have k_ba := hxx59 _ _ k_ba
      have k_na := hxx59 _ _ k_na
      have k_tp := hxx59 _ _ k_tp
      have k_ra := hxx59 _ _ k_ra
      have k_bb := hxx59 _ _ k_bb
      have hx0 := hx0.tr hxx59
      have k_G5_2 := k_n59
      have lt_G5_2 := (hH.2.2 _ _ k_G5_2).1
      obtain ⟨n0, n1⟩ := hn59
      show et_go none _ 131 62 _ [.ref G5.2, .int (Int32.ofNat c), .ref ra] _ _ _ _
      refine hf_aas1 (t := 37) (u := 8) (N := 4) (kd := 5) (cj := 6) (p := 63) (by decide +kernel) ⟨rfl, rfl⟩ (by decide +kernel) hH k_ra (by omega) k_G5_2 (fun G62 hH x62 e62 => ?_)
      have h3 := (x62.2 th 3 lt_th (fun h => (hi_ne k_th k_ra (by decide)) h.1)).trans h3
      have h0 := (x62.2 th 0 lt_th (fun h => (hi_ne k_th k_ra (by decide)) h.1)).trans h0
      have r0 := (x62.2 rd 0 lt_rd (fun h => (hi_ne k_rd k_ra (by decide)) h.1)).trans r0
      have g0 := (x62.2 s0 0 lt_s0 (fun h => (hi_ne k_s0 k_ra (by decide)) h.1)).trans g0
      have g1 := (x62.2 s0 1 lt_s0 (fun h => (hi_ne k_s0 k_ra (by decide)) h.1)).trans g1
      have n0 := (x62.2 G5.2 0 lt_G5_2 (fun h => (hi_ne k_G5_2 k_ra (by decide)) h.1)).trans n0
      have n1 := (x62.2 G5.2 1 lt_G5_2 (fun h => (hi_ne k_G5_2 k_ra (by decide)) h.1)).trans n1
      have lt_th := Nat.lt_of_lt_of_le lt_th x62.1
      have lt_s0 := Nat.lt_of_lt_of_le lt_s0 x62.1
      have lt_rd := Nat.lt_of_lt_of_le lt_rd x62.1
      have lt_ta := Nat.lt_of_lt_of_le lt_ta x62.1
      have lt_ba := Nat.lt_of_lt_of_le lt_ba x62.1
      have lt_na := Nat.lt_of_lt_of_le lt_na x62.1
      have lt_tp := Nat.lt_of_lt_of_le lt_tp x62.1
      have lt_ra := Nat.lt_of_lt_of_le lt_ra x62.1
      have lt_bb := Nat.lt_of_lt_of_le lt_bb x62.1
      have lt_G5_2 := Nat.lt_of_lt_of_le lt_G5_2 x62.1
      have hX := hX.tr x62 (fun b j hb h => by first | omega | (dsimp only at h ⊢; omega) | (dsimp only at h; omega) | (dsimp only; omega))
      have m_x62 := x62.1
      have R := R.fr (x62.agf (lo := G.2) (hi := G5.2) (by omega) (fun a j h1 h2 hs => by first | omega | (dsimp only at hs; omega))).ag
      refine hs_aload (i := 0) (p := 64) (by decide +kernel) rfl ?_
      refine hf_get (T := et_TT) (t := 12) (ci := 10) (f := 0) (p := 67) (by decide +kernel) rfl hH k_th h0 ?_
      refine hs_dup1 (p := 68) (by decide +kernel) ?_
      refine hf_get (T := et_TT) (t := 10) (ci := 8) (f := 0) (p := 71) (by decide +kernel) rfl hH k_s0 g0 ?_
      refine hs_k (x := Int32.ofNat 1) (p := 72) (by decide +kernel) ?_
      refine hs_iaddn (p := 73) (by decide +kernel) ?_
      refine hf_put (T := et_TT) (t := 10) (ci := 8) (f := 0) (p := 76) (ty := .int) (by decide +kernel) rfl rfl rfl rfl rfl hH k_s0 (hi_nv (by omega) (by omega)) (fun G73 hH x73 e73 => ?_)
      have h3 := (x73.2 th 3 lt_th (fun h => (hi_ne k_th k_s0 (by decide)) h.1)).trans h3
      have h0 := (x73.2 th 0 lt_th (fun h => (hi_ne k_th k_s0 (by decide)) h.1)).trans h0
      have r0 := (x73.2 rd 0 lt_rd (fun h => (hi_ne k_rd k_s0 (by decide)) h.1)).trans r0
      have g1 := (x73.2 s0 1 lt_s0 (fun h => absurd h.2 (by decide))).trans g1
      have n0 := (x73.2 G5.2 0 lt_G5_2 (fun h => (hi_ne k_G5_2 k_s0 (by decide)) h.1)).trans n0
      have n1 := (x73.2 G5.2 1 lt_G5_2 (fun h => (hi_ne k_G5_2 k_s0 (by decide)) h.1)).trans n1
      have e62 := (x73.2 ra c lt_ra (fun h => (hi_ne k_ra k_s0 (by decide)) h.1)).trans e62
      have lt_th := Nat.lt_of_lt_of_le lt_th x73.1
      have lt_s0 := Nat.lt_of_lt_of_le lt_s0 x73.1
      have lt_rd := Nat.lt_of_lt_of_le lt_rd x73.1
      have lt_ta := Nat.lt_of_lt_of_le lt_ta x73.1
      have lt_ba := Nat.lt_of_lt_of_le lt_ba x73.1
      have lt_na := Nat.lt_of_lt_of_le lt_na x73.1
      have lt_tp := Nat.lt_of_lt_of_le lt_tp x73.1
      have lt_ra := Nat.lt_of_lt_of_le lt_ra x73.1
      have lt_bb := Nat.lt_of_lt_of_le lt_bb x73.1
      have lt_G5_2 := Nat.lt_of_lt_of_le lt_G5_2 x73.1
      have hX := hX.tr x73 (fun b j hb h => by first | omega | (dsimp only at h ⊢; omega) | (dsimp only at h; omega) | (dsimp only; omega))
      have m_x73 := x73.1
      have R := R.fr (x73.agf (lo := G.2) (hi := G5.2) (by omega) (fun a j h1 h2 hs => by first | omega | (dsimp only at hs; omega))).ag
      refine hs_aload (i := 0) (p := 77) (by decide +kernel) rfl ?_
      refine hf_get (T := et_TT) (t := 12) (ci := 10) (f := 0) (p := 80) (by decide +kernel) rfl hH k_th h0 ?_
      refine hf_get (T := et_TT) (t := 10) (ci := 8) (f := 0) (p := 83) (by decide +kernel) rfl hH k_s0 e73 ?_
      refine hs_k (x := Int32.ofNat 1) (p := 84) (by decide +kernel) ?_
      refine hs_isubn (p := 85) (by decide +kernel) (by omega) ?_
      refine hs_iret (by decide +kernel) ?_
      rw [Nat.add_sub_cancel]
      exact ⟨_, _, _, _, _, rfl, hx0, hH, hX, .inr (.inr ⟨by omega, rfl, e73, f_, _, bb, sq, e62, k_G5_2, n0, n1, k_bb, lo, by omega, _, by omega, R⟩)⟩
    · refine hs_thr (x := 2) (lk := 2) (by decide +kernel) rfl rfl ?_
      exact ⟨_, _, _, _, _, rfl, hx0, hH, hX, .inr (.inl ⟨by omega, (by rw [sq]; intro h; cases h), rfl, g0⟩)⟩
theorem fh_rule {ta ba na tp n out ea : Nat} (hH : et_H et_TT K G) (k_rd : K rd = some 7) (r0 : et_pl (eg_at G rd) 0 = some (.ref tp)) (k_tp : K tp = some 33) (r1 : et_pl (eg_at G rd) 1 = some (.int (Int32.ofNat n))) (hn : n ≤ 400) (ht : ∀ i, i < n → et_pl (eg_at G tp) i = some (.int (Int32.ofNat (b i)))) (hb : ∀ i, i < n → b i < 256) (k_ta : K ta = some 41) (k_ba : K ba = some 21) (k_na : K na = some 21) (hne : ¬ ba = na) (r4 : et_pl (eg_at G rd) 4 = some (.ref ta)) (r5 : et_pl (eg_at G rd) 5 = some (.ref ba)) (r6 : et_pl (eg_at G rd) 6 = some (.ref na)) (k_th : K th = some 12) (h3 : et_pl (eg_at G th) 3 = some (.ref rd)) (h0 : et_pl (eg_at G th) 0 = some (.ref s0)) (k_s0 : K s0 = some 10) (g0 : et_pl (eg_at G s0) 0 = some (.int (Int32.ofNat c))) (hc : c ≤ 4) (g1 : et_pl (eg_at G s0) 1 = some (.ref ra)) (k_ra : K ra = some 37) (k_out : K out = some 31) (hd : 28 ≤ d2) : et_go none d2 0 0 (eg_en (eg_mL 0) [.ref th, .ref out]) [] G 0 0 (xk_Z (fun b j => (b = rd ∧ 1 ≤ j) ∨ ((b = ta ∧ 0 ≤ j) ∨ ((b = ba ∧ 0 ≤ j) ∨ ((b = na ∧ 0 ≤ j) ∨ ((b = s0 ∧ j = 0) ∨ ((b = ra ∧ j = c) ∨ ((b = out ∧ j = 0)))))))) K G (fun K' G' v => (sp_one (tz_ts 0 b n 0) = none ∧ v = .inl (some (.int (Int32.ofNat 1))) ∧ et_pl (eg_at G' s0) 0 = some (.int (Int32.ofNat c))) ∨ (c = 4 ∧ ¬ sp_one (tz_ts 0 b n 0) = none ∧ v = .inl (some (.int (Int32.ofNat 2))) ∧ et_pl (eg_at G' s0) 0 = some (.int (Int32.ofNat c))) ∨ (c < 4 ∧ v = .inl (some (.int (Int32.ofNat 0))) ∧ et_pl (eg_at G' out) 0 = some (.long (Int32.ofNat c).toInt64) ∧ et_pl (eg_at G' s0) 0 = some (.int (Int32.ofNat (c + 1))) ∧ ∃ f q bb, sp_one (tz_ts 0 b n 0) = some f ∧ et_pl (eg_at G' ra) c = some (.ref q) ∧ K' q = some 8 ∧ et_pl (eg_at G' q) 0 = some (.ref bb) ∧ et_pl (eg_at G' q) 1 = some .null ∧ K' bb = some 6 ∧ G.2 ≤ bb ∧ G.2 ≤ q ∧ ∃ hi, hi ≤ G'.2 ∧ dn G' 15 G.2 hi bb f))) := by
  obtain ⟨d, rfl⟩ : ∃ d, d2 = d + 28 := ⟨d2 - 28, by omega⟩
  have lo0 := hH.1
  rw [show eg_mL 0 = 3 from by decide +kernel]
  show et_go none (d + 28) 0 0 [some (.ref th), some (.ref out), none] [] G 0 0 (xk_Z _ _ _ _)
  have lt_th := (hH.2.2 _ _ k_th).1
  have lt_rd := (hH.2.2 _ _ k_rd).1
  have lt_s0 := (hH.2.2 _ _ k_s0).1
  have lt_ta := (hH.2.2 _ _ k_ta).1
  have lt_ba := (hH.2.2 _ _ k_ba).1
  have lt_na := (hH.2.2 _ _ k_na).1
  have lt_out := (hH.2.2 _ _ k_out).1
  have lt_ra := (hH.2.2 _ _ k_ra).1
  have hX : xf (fun b j => (b = rd ∧ 1 ≤ j) ∨ ((b = ta ∧ 0 ≤ j) ∨ ((b = ba ∧ 0 ≤ j) ∨ ((b = na ∧ 0 ≤ j) ∨ ((b = s0 ∧ j = 0) ∨ ((b = ra ∧ j = c) ∨ ((b = out ∧ j = 0)))))))) G G := xf.rf
  have hx0 : et_ex K K := et_ex.rf
  have lr_th := lt_th
  have lr_rd := lt_rd
  have lr_s0 := lt_s0
  have lr_ta := lt_ta
  have lr_ba := lt_ba
  have lr_na := lt_na
  have lr_out := lt_out
  have lr_ra := lt_ra
  refine hs_aload (i := 1) (p := 1) (by decide +kernel) rfl ?_
  refine hs_k (x := Int32.ofNat 0) (p := 2) (by decide +kernel) ?_
  refine hs_aload (i := 0) (p := 3) (by decide +kernel) rfl ?_
  refine ht_callv (T := et_TT) (t := 12) (mi := 131) (na := 0) (ci := 10) (lk := 3) (lm := 2) (L0 := eg_en (eg_mL 131) [.ref th]) (by decide +kernel) rfl hH k_th rfl rfl rfl rfl rfl (by rw [show eg_mL 131 = 2 from by decide +kernel]; first | done | rfl) ?_
  refine (fc_rule hH k_rd r0 k_tp r1 hn ht hb k_ta k_ba k_na hne r4 r5 r6 k_th h3 h0 k_s0 g0 hc g1 k_ra (by omega)).mono (fun u hu => ?_)
  obtain ⟨K3, G3, v3, c3, s3, rfl, hxx3, hH, x3, hm3⟩ := hu
  have lt_th := Nat.lt_of_lt_of_le lt_th x3.1
  have lt_rd := Nat.lt_of_lt_of_le lt_rd x3.1
  have lt_s0 := Nat.lt_of_lt_of_le lt_s0 x3.1
  have lt_ta := Nat.lt_of_lt_of_le lt_ta x3.1
  have lt_ba := Nat.lt_of_lt_of_le lt_ba x3.1
  have lt_na := Nat.lt_of_lt_of_le lt_na x3.1
  have lt_out := Nat.lt_of_lt_of_le lt_out x3.1
  have lt_ra := Nat.lt_of_lt_of_le lt_ra x3.1
  have hX := hX.tr x3 (fun b j hb h => by first | omega | (dsimp only at h ⊢; omega) | (dsimp only at h; omega) | (dsimp only; omega))
  have m_x3 := x3.1
  have k_th := hxx3 _ _ k_th
  have k_rd := hxx3 _ _ k_rd
  have k_s0 := hxx3 _ _ k_s0
  have k_ta := hxx3 _ _ k_ta
  have k_ba := hxx3 _ _ k_ba
  have k_na := hxx3 _ _ k_na
  have k_out := hxx3 _ _ k_out
  have k_ra := hxx3 _ _ k_ra
  have hx0 := hx0.tr hxx3
  rcases hm3 with ⟨sq, rfl, q0⟩ | ⟨c4, sq, rfl, q0⟩ | ⟨c4, rfl, q0, f_, q, bb, sq, q1, k_q, q2, q3, k_bb, lo, loq, hi, hhi, R⟩
  · have e0 := q0
    refine hs_ch (h := 11) (i := 2) (n := 1) (hh := (eg_mh 0).getD []) (by decide +kernel) ⟨by decide +kernel, by decide +kernel⟩ (Nat.le_of_ble_eq_true rfl) ?_
    show et_go none _ 0 12 [some (.ref th), some (.ref out), none] [] _ _ _ _
    refine hs_k (x := Int32.ofNat 1) (p := 13) (by decide +kernel) ?_
    refine hs_iret (by decide +kernel) ?_
    exact ⟨_, _, _, _, _, rfl, hx0, hH, hX, .inl ⟨sq, rfl, q0⟩⟩
  · refine hs_ch (h := 14) (i := 2) (n := 1) (hh := (eg_mh 0).getD []) (by decide +kernel) ⟨by decide +kernel, by decide +kernel⟩ (Nat.le_of_ble_eq_true rfl) ?_
    show et_go none _ 0 15 [some (.ref th), some (.ref out), none] [] _ _ _ _
    refine hs_k (x := Int32.ofNat 2) (p := 16) (by decide +kernel) ?_
    refine hs_iret (by decide +kernel) ?_
    exact ⟨_, _, _, _, _, rfl, hx0, hH, hX, .inr (.inl ⟨c4, sq, rfl, q0⟩)⟩
  · have lt_q := (hH.2.2 _ _ k_q).1
    have lt_bb := (hH.2.2 _ _ k_bb).1
    refine hs_cb ?_
    show et_go none _ 0 6 _ [.int (Int32.ofNat c), .int (Int32.ofNat 0), .ref out] _ _ _ _
    refine hs_i2l (p := 7) (by decide +kernel) ?_
    refine hf_lst (T := et_TT) (t := 31) (N := 1) (p := 8) (by decide +kernel) rfl rfl hH k_out (by omega) (by decide) (fun G7 hH x7 e7 => ?_)
    have q0 := (x7.2 s0 0 lt_s0 (fun h => (hi_ne k_s0 k_out (by decide)) h.1)).trans q0
    have q1 := (x7.2 ra c lt_ra (fun h => (hi_ne k_ra k_out (by decide)) h.1)).trans q1
    have q2 := (x7.2 q 0 lt_q (fun h => (hi_ne k_q k_out (by decide)) h.1)).trans q2
    have q3 := (x7.2 q 1 lt_q (fun h => (hi_ne k_q k_out (by decide)) h.1)).trans q3
    have lt_th := Nat.lt_of_lt_of_le lt_th x7.1
    have lt_rd := Nat.lt_of_lt_of_le lt_rd x7.1
    have lt_s0 := Nat.lt_of_lt_of_le lt_s0 x7.1
    have lt_ta := Nat.lt_of_lt_of_le lt_ta x7.1
    have lt_ba := Nat.lt_of_lt_of_le lt_ba x7.1
    have lt_na := Nat.lt_of_lt_of_le lt_na x7.1
    have lt_out := Nat.lt_of_lt_of_le lt_out x7.1
    have lt_ra := Nat.lt_of_lt_of_le lt_ra x7.1
    have lt_q := Nat.lt_of_lt_of_le lt_q x7.1
    have lt_bb := Nat.lt_of_lt_of_le lt_bb x7.1
    have hX := hX.tr x7 (fun b j hb h => by first | omega | (dsimp only at h ⊢; omega) | (dsimp only at h; omega) | (dsimp only; omega))
    have m_x7 := x7.1
    have R := R.fr (x7.agf (lo := G.2) (hi := hi) (by omega) (fun a j h1 h2 hs => by first | omega | (dsimp only at hs; omega))).ag
    refine hs_goto (p := 17) (by decide +kernel) ?_
    refine hs_k (x := Int32.ofNat 0) (p := 18) (by decide +kernel) ?_
    refine hs_iret (by decide +kernel) ?_
    exact ⟨_, _, _, _, _, rfl, hx0, hH, hX, .inr (.inr ⟨c4, rfl, e7, q0, f_, q, bb, sq, q1, k_q, q2, q3, k_bb, lo, loq, hi, by omega, R⟩)⟩
theorem fc_claim {ta ba na tp n ea : Nat} (hH : et_H et_TT K G) (k_rd : K rd = some 7) (r0 : et_pl (eg_at G rd) 0 = some (.ref tp)) (k_tp : K tp = some 33) (r1 : et_pl (eg_at G rd) 1 = some (.int (Int32.ofNat n))) (hn : n ≤ 400) (ht : ∀ i, i < n → et_pl (eg_at G tp) i = some (.int (Int32.ofNat (b i)))) (hb : ∀ i, i < n → b i < 256) (k_ta : K ta = some 41) (k_ba : K ba = some 21) (k_na : K na = some 21) (hne : ¬ ba = na) (r4 : et_pl (eg_at G rd) 4 = some (.ref ta)) (r5 : et_pl (eg_at G rd) 5 = some (.ref ba)) (r6 : et_pl (eg_at G rd) 6 = some (.ref na)) (k_th : K th = some 12) (h3 : et_pl (eg_at G th) 3 = some (.ref rd)) (h0 : et_pl (eg_at G th) 0 = some (.ref s0)) (k_s0 : K s0 = some 10) (g0 : et_pl (eg_at G s0) 0 = some (.int (Int32.ofNat rc))) (hrc : rc ≤ 4) (g1 : et_pl (eg_at G s0) 1 = some (.ref ra)) (k_ra : K ra = some 37) (hru : ∀ i, i < rc → ∃ q, et_pl (eg_at G ra) i = some (.ref q)) (g5 : et_pl (eg_at G s0) 5 = some (.int (Int32.ofNat ec))) (hec : ec ≤ 3) (g6 : et_pl (eg_at G s0) 6 = some (.ref ea)) (k_ea : K ea = some 40) (g9 : et_pl (eg_at G s0) 9 = some (.int (Int32.ofNat c))) (hc : c ≤ 6) (g10 : et_pl (eg_at G s0) 10 = some (.ref ca)) (k_ca : K ca = some 39) (hd : 27 ≤ d2) : et_go none d2 133 0 (eg_en (eg_mL 133) [.ref th, .int ey, .int ru]) [] G 0 0 (xk_Z (fun b j => (b = rd ∧ 1 ≤ j) ∨ ((b = ta ∧ 0 ≤ j) ∨ ((b = ba ∧ 0 ≤ j) ∨ ((b = na ∧ 0 ≤ j) ∨ ((b = s0 ∧ j = 9) ∨ ((b = ca ∧ j = c))))))) K G (fun K' G' v => (¬ (xr ey ec ∧ xr ru rc) ∧ v = .inr 1 ∧ et_pl (eg_at G' s0) 9 = some (.int (Int32.ofNat c))) ∨ ((xr ey ec ∧ xr ru rc) ∧ sp_one (tz_ts 2 b n 0) = none ∧ v = .inr 0 ∧ et_pl (eg_at G' s0) 9 = some (.int (Int32.ofNat c))) ∨ ((xr ey ec ∧ xr ru rc) ∧ c = 6 ∧ ¬ sp_one (tz_ts 2 b n 0) = none ∧ v = .inr 2 ∧ et_pl (eg_at G' s0) 9 = some (.int (Int32.ofNat c))) ∨ ((xr ey ec ∧ xr ru rc) ∧ c < 6 ∧ v = .inl (some (.int (Int32.ofNat c))) ∧ et_pl (eg_at G' s0) 9 = some (.int (Int32.ofNat (c + 1))) ∧ ∃ f q bb, sp_one (tz_ts 2 b n 0) = some f ∧ et_pl (eg_at G' ca) c = some (.ref q) ∧ K' q = some 2 ∧ et_pl (eg_at G' q) 0 = some (.ref bb) ∧ et_pl (eg_at G' q) 1 = some (.int ey) ∧ et_pl (eg_at G' q) 2 = some (.int ru) ∧ K' bb = some 6 ∧ G.2 ≤ bb ∧ G.2 ≤ q ∧ ∃ hi, hi ≤ G'.2 ∧ dn G' 15 G.2 hi bb f))) := by
  obtain ⟨d, rfl⟩ : ∃ d, d2 = d + 27 := ⟨d2 - 27, by omega⟩
  rw [show eg_mL 133 = 4 from by decide +kernel]
  show et_go none (d + 27) 133 0 [some (.ref th), some (.int ey), some (.int ru), none] [] G 0 0 (xk_Z _ _ _ _)
  have lt_th := (hH.2.2 _ _ k_th).1
  have lt_s0 := (hH.2.2 _ _ k_s0).1
  have lt_rd := (hH.2.2 _ _ k_rd).1
  have lt_ta := (hH.2.2 _ _ k_ta).1
  have lt_ba := (hH.2.2 _ _ k_ba).1
  have lt_na := (hH.2.2 _ _ k_na).1
  have lt_tp := (hH.2.2 _ _ k_tp).1
  have lt_ra := (hH.2.2 _ _ k_ra).1
  have lt_ca := (hH.2.2 _ _ k_ca).1
  have lt_ea := (hH.2.2 _ _ k_ea).1
  have hX : xf (fun b j => (b = rd ∧ 1 ≤ j) ∨ ((b = ta ∧ 0 ≤ j) ∨ ((b = ba ∧ 0 ≤ j) ∨ ((b = na ∧ 0 ≤ j) ∨ ((b = s0 ∧ j = 9) ∨ ((b = ca ∧ j = c))))))) G G := xf.rf
  have hx0 : et_ex K K := et_ex.rf
  have lr_th := lt_th
  have lr_s0 := lt_s0
  have lr_rd := lt_rd
  have lr_ta := lt_ta
  have lr_ba := lt_ba
  have lr_na := lt_na
  have lr_tp := lt_tp
  have lr_ra := lt_ra
  have lr_ca := lt_ca
  have lr_ea := lt_ea
  refine hs_aload (i := 0) (p := 1) (by decide +kernel) rfl ?_
  refine hf_get (T := et_TT) (t := 12) (ci := 10) (f := 3) (p := 4) (by decide +kernel) rfl hH k_th h3 ?_
  refine hs_k (x := Int32.ofNat 2) (p := 5) (by decide +kernel) ?_
  refine ht_callv (T := et_TT) (t := 7) (mi := 66) (na := 1) (ci := 5) (lk := 4) (lm := 3) (L0 := eg_en (eg_mL 66) [.ref rd, .int (Int32.ofNat 2)]) (by decide +kernel) rfl hH k_rd rfl rfl rfl rfl rfl (by rw [show eg_mL 66 = 3 from by decide +kernel]; first | done | rfl) ?_
  refine (fc_tcc hH k_rd r0 k_tp r1 hn ht hb k_ta k_ba k_na hne r4 r5 r6 (by decide) (by omega)).mono (fun u hu => ?_)
  obtain ⟨⟨K5, G5, v5, c5, s5, rfl, hxx5, hH, x5, hm5⟩, hc5, hs5⟩ := hu
  dsimp only at hc5 hs5
  have hru : ∀ i, i < rc → ∃ q, et_pl (eg_at G5 ra) i = some (.ref q) := fun i hi => (hru i hi).elim (fun q hq => ⟨q, (x5.2 ra i lt_ra (fun h => Or.elim h (fun h => (hi_ne k_ra k_rd (by decide)) h.1) (fun h => Or.elim h (fun h => (hi_ne k_ra k_ta (by decide)) h.1) (fun h => Or.elim h (fun h => (hi_ne k_ra k_ba (by decide)) h.1) (fun h => (hi_ne k_ra k_na (by decide)) h.1))))).trans hq⟩)
  have h3 := (x5.2 th 3 lt_th (fun h => Or.elim h (fun h => (hi_ne k_th k_rd (by decide)) h.1) (fun h => Or.elim h (fun h => (hi_ne k_th k_ta (by decide)) h.1) (fun h => Or.elim h (fun h => (hi_ne k_th k_ba (by decide)) h.1) (fun h => (hi_ne k_th k_na (by decide)) h.1))))).trans h3
  have h0 := (x5.2 th 0 lt_th (fun h => Or.elim h (fun h => (hi_ne k_th k_rd (by decide)) h.1) (fun h => Or.elim h (fun h => (hi_ne k_th k_ta (by decide)) h.1) (fun h => Or.elim h (fun h => (hi_ne k_th k_ba (by decide)) h.1) (fun h => (hi_ne k_th k_na (by decide)) h.1))))).trans h0
  have r0 := (x5.2 rd 0 lt_rd (fun h => Or.elim h (fun h => by have h := h.2; omega) (fun h => Or.elim h (fun h => (hi_ne k_rd k_ta (by decide)) h.1) (fun h => Or.elim h (fun h => (hi_ne k_rd k_ba (by decide)) h.1) (fun h => (hi_ne k_rd k_na (by decide)) h.1))))).trans r0
  have g0 := (x5.2 s0 0 lt_s0 (fun h => Or.elim h (fun h => (hi_ne k_s0 k_rd (by decide)) h.1) (fun h => Or.elim h (fun h => (hi_ne k_s0 k_ta (by decide)) h.1) (fun h => Or.elim h (fun h => (hi_ne k_s0 k_ba (by decide)) h.1) (fun h => (hi_ne k_s0 k_na (by decide)) h.1))))).trans g0
  have g1 := (x5.2 s0 1 lt_s0 (fun h => Or.elim h (fun h => (hi_ne k_s0 k_rd (by decide)) h.1) (fun h => Or.elim h (fun h => (hi_ne k_s0 k_ta (by decide)) h.1) (fun h => Or.elim h (fun h => (hi_ne k_s0 k_ba (by decide)) h.1) (fun h => (hi_ne k_s0 k_na (by decide)) h.1))))).trans g1
  have g5 := (x5.2 s0 5 lt_s0 (fun h => Or.elim h (fun h => (hi_ne k_s0 k_rd (by decide)) h.1) (fun h => Or.elim h (fun h => (hi_ne k_s0 k_ta (by decide)) h.1) (fun h => Or.elim h (fun h => (hi_ne k_s0 k_ba (by decide)) h.1) (fun h => (hi_ne k_s0 k_na (by decide)) h.1))))).trans g5
  have g6 := (x5.2 s0 6 lt_s0 (fun h => Or.elim h (fun h => (hi_ne k_s0 k_rd (by decide)) h.1) (fun h => Or.elim h (fun h => (hi_ne k_s0 k_ta (by decide)) h.1) (fun h => Or.elim h (fun h => (hi_ne k_s0 k_ba (by decide)) h.1) (fun h => (hi_ne k_s0 k_na (by decide)) h.1))))).trans g6
  have g9 := (x5.2 s0 9 lt_s0 (fun h => Or.elim h (fun h => (hi_ne k_s0 k_rd (by decide)) h.1) (fun h => Or.elim h (fun h => (hi_ne k_s0 k_ta (by decide)) h.1) (fun h => Or.elim h (fun h => (hi_ne k_s0 k_ba (by decide)) h.1) (fun h => (hi_ne k_s0 k_na (by decide)) h.1))))).trans g9
  have g10 := (x5.2 s0 10 lt_s0 (fun h => Or.elim h (fun h => (hi_ne k_s0 k_rd (by decide)) h.1) (fun h => Or.elim h (fun h => (hi_ne k_s0 k_ta (by decide)) h.1) (fun h => Or.elim h (fun h => (hi_ne k_s0 k_ba (by decide)) h.1) (fun h => (hi_ne k_s0 k_na (by decide)) h.1))))).trans g10
  have lt_th := Nat.lt_of_lt_of_le lt_th x5.1
  have lt_s0 := Nat.lt_of_lt_of_le lt_s0 x5.1
  have lt_rd := Nat.lt_of_lt_of_le lt_rd x5.1
  have lt_ta := Nat.lt_of_lt_of_le lt_ta x5.1
  have lt_ba := Nat.lt_of_lt_of_le lt_ba x5.1
  have lt_na := Nat.lt_of_lt_of_le lt_na x5.1
  have lt_tp := Nat.lt_of_lt_of_le lt_tp x5.1
  have lt_ra := Nat.lt_of_lt_of_le lt_ra x5.1
  have lt_ca := Nat.lt_of_lt_of_le lt_ca x5.1
  have lt_ea := Nat.lt_of_lt_of_le lt_ea x5.1
  have hX := hX.tr x5 (fun b j hb h => by first | omega | (dsimp only at h ⊢; omega) | (dsimp only at h; omega) | (dsimp only; omega))
  have m_x5 := x5.1
  have k_th := hxx5 _ _ k_th
  have k_s0 := hxx5 _ _ k_s0
  have k_rd := hxx5 _ _ k_rd
  have k_ta := hxx5 _ _ k_ta
  have k_ba := hxx5 _ _ k_ba
  have k_na := hxx5 _ _ k_na
  have k_tp := hxx5 _ _ k_tp
  have k_ra := hxx5 _ _ k_ra
  have k_ca := hxx5 _ _ k_ca
  have k_ea := hxx5 _ _ k_ea
  have hx0 := hx0.tr hxx5
  rcases hm5 with ⟨sq, rfl⟩ | ⟨f_, bb, sq, rfl, k_bb, lo, R⟩
  · refine hs_cb ?_
    show et_go none _ 133 8 _ [.null] _ _ _ _
    refine hs_astore0 (i := 3) (p := 9) (by decide +kernel) (Nat.le_of_ble_eq_true rfl) ?_
    refine hs_aload (i := 0) (p := 10) (by decide +kernel) rfl ?_
    refine hs_iload (i := 1) (p := 11) (by decide +kernel) rfl ?_
    refine ht_callv (T := et_TT) (t := 12) (mi := 128) (na := 1) (ci := 10) (lk := 4) (lm := 2) (L0 := eg_en (eg_mL 128) [.ref th, .int ey]) (by decide +kernel) rfl hH k_th rfl rfl rfl rfl rfl (by rw [show eg_mL 128 = 2 from by decide +kernel]; first | done | rfl) ?_
    refine ((fc_needEye hH k_th h0 k_s0 g5 hec g6 k_ea).and (hc_needE (K5, [], G5) [.ref th, .int ey] _ hH (by show 0 ≤ _; omega) rfl (ht_ac (.inr ⟨by decide, _, rfl, k_th⟩) (ht_ac hi_any ht_an)))).mono (fun u hu => ?_)
    obtain ⟨⟨g11, v11, c11, s11, rfl, -, -, eg11, hm11⟩, ⟨ez11, hez11, -, -, -, -, -, hcn11, hsn11⟩⟩ := hu
    have eg11 := eg11.symm
    subst eg11
    have hcn11 : c11 ≤ 1 := by rcases List.mem_cons.mp hez11 with rfl | hez; exact hcn11; obtain rfl := List.mem_singleton.mp hez; exact Nat.le_trans hcn11 (by decide)
    have hsn11 : s11 ≤ 6 := by rcases List.mem_cons.mp hez11 with rfl | hez; exact hsn11; obtain rfl := List.mem_singleton.mp hez; exact Nat.le_trans hsn11 (by decide)
    rcases hm11 with ⟨hx11, rfl⟩ | ⟨n11, q11, en11, hn11, rfl, k_q11, hq11⟩
    · refine hf_cx (by decide +kernel) ?_
      exact ⟨_, _, _, _, _, rfl, hx0, hH, hX, .inl ⟨(fun h => hx11 h.1), rfl, g9⟩⟩
    · have hx11 : xr ey ec := by rw [en11]; exact xr_n (by omega) hn11
      refine hs_cb ?_
      show et_go none _ 133 14 _ [.ref q11] _ _ _ _
      refine hs_popr (p := 15) (by decide +kernel) ?_
      refine hs_aload (i := 0) (p := 16) (by decide +kernel) rfl ?_
      refine hs_iload (i := 2) (p := 17) (by decide +kernel) rfl ?_
      refine ht_callv (T := et_TT) (t := 12) (mi := 129) (na := 1) (ci := 10) (lk := 4) (lm := 2) (L0 := eg_en (eg_mL 129) [.ref th, .int ru]) (by decide +kernel) rfl hH k_th rfl rfl rfl rfl rfl (by rw [show eg_mL 129 = 2 from by decide +kernel]; first | done | rfl) ?_
      refine ((fc_needRule hH k_th h0 k_s0 g0 hrc g1 k_ra hru).and (hc_needR (K5, [], G5) [.ref th, .int ru] _ hH (by show 0 ≤ _; omega) rfl (ht_ac (.inr ⟨by decide, _, rfl, k_th⟩) (ht_ac hi_any ht_an)))).mono (fun u hu => ?_)
      obtain ⟨⟨g17, v17, c17, s17, rfl, -, -, eg17, hm17⟩, ⟨ez17, hez17, -, -, -, -, -, hcn17, hsn17⟩⟩ := hu
      have eg17 := eg17.symm
      subst eg17
      have hcn17 : c17 ≤ 1 := by rcases List.mem_cons.mp hez17 with rfl | hez; exact hcn17; obtain rfl := List.mem_singleton.mp hez; exact Nat.le_trans hcn17 (by decide)
      have hsn17 : s17 ≤ 6 := by rcases List.mem_cons.mp hez17 with rfl | hez; exact hsn17; obtain rfl := List.mem_singleton.mp hez; exact Nat.le_trans hsn17 (by decide)
      rcases hm17 with ⟨hx17, rfl⟩ | ⟨n17, q17, en17, hn17, rfl, k_q17, hq17⟩
      · refine hf_cx (by decide +kernel) ?_
        exact ⟨_, _, _, _, _, rfl, hx0, hH, hX, .inl ⟨(fun h => hx17 h.2), rfl, g9⟩⟩
      · have hx17 : xr ru rc := by rw [en17]; exact xr_n (by omega) hn17
        refine hs_cb ?_
        show et_go none _ 133 20 _ [.ref q17] _ _ _ _
        refine hs_popr (p := 21) (by decide +kernel) ?_
        refine hs_aload0 (i := 3) (p := 22) (by decide +kernel) rfl ?_
        refine hs_ifnonnull0 (p := 25) (by decide +kernel) ?_
        refine hs_thr (x := 0) (lk := 4) (by decide +kernel) rfl rfl ?_
        exact ⟨_, _, _, _, _, rfl, hx0, hH, hX, .inr (.inl ⟨⟨hx11, hx17⟩, sq, rfl, g9⟩)⟩
  · have lt_bb := (hH.2.2 _ _ k_bb).1
    refine hs_cb ?_
    show et_go none _ 133 8 _ [.ref bb] _ _ _ _
    refine hs_astore (i := 3) (p := 9) (by decide +kernel) (Nat.le_of_ble_eq_true rfl) ?_
    refine hs_aload (i := 0) (p := 10) (by decide +kernel) rfl ?_
    refine hs_iload (i := 1) (p := 11) (by decide +kernel) rfl ?_
    refine ht_callv (T := et_TT) (t := 12) (mi := 128) (na := 1) (ci := 10) (lk := 4) (lm := 2) (L0 := eg_en (eg_mL 128) [.ref th, .int ey]) (by decide +kernel) rfl hH k_th rfl rfl rfl rfl rfl (by rw [show eg_mL 128 = 2 from by decide +kernel]; first | done | rfl) ?_
    refine ((fc_needEye hH k_th h0 k_s0 g5 hec g6 k_ea).and (hc_needE (K5, [], G5) [.ref th, .int ey] _ hH (by show 0 ≤ _; omega) rfl (ht_ac (.inr ⟨by decide, _, rfl, k_th⟩) (ht_ac hi_any ht_an)))).mono (fun u hu => ?_)
    obtain ⟨⟨g11, v11, c11, s11, rfl, -, -, eg11, hm11⟩, ⟨ez11, hez11, -, -, -, -, -, hcn11, hsn11⟩⟩ := hu
    have eg11 := eg11.symm
    subst eg11
    have hcn11 : c11 ≤ 1 := by rcases List.mem_cons.mp hez11 with rfl | hez; exact hcn11; obtain rfl := List.mem_singleton.mp hez; exact Nat.le_trans hcn11 (by decide)
    have hsn11 : s11 ≤ 6 := by rcases List.mem_cons.mp hez11 with rfl | hez; exact hsn11; obtain rfl := List.mem_singleton.mp hez; exact Nat.le_trans hsn11 (by decide)
    rcases hm11 with ⟨hx11, rfl⟩ | ⟨n11, q11, en11, hn11, rfl, k_q11, hq11⟩
    · refine hf_cx (by decide +kernel) ?_
      exact ⟨_, _, _, _, _, rfl, hx0, hH, hX, .inl ⟨(fun h => hx11 h.1), rfl, g9⟩⟩
    · have hx11 : xr ey ec := by rw [en11]; exact xr_n (by omega) hn11
      refine hs_cb ?_
      show et_go none _ 133 14 _ [.ref q11] _ _ _ _
      refine hs_popr (p := 15) (by decide +kernel) ?_
      refine hs_aload (i := 0) (p := 16) (by decide +kernel) rfl ?_
      refine hs_iload (i := 2) (p := 17) (by decide +kernel) rfl ?_
      refine ht_callv (T := et_TT) (t := 12) (mi := 129) (na := 1) (ci := 10) (lk := 4) (lm := 2) (L0 := eg_en (eg_mL 129) [.ref th, .int ru]) (by decide +kernel) rfl hH k_th rfl rfl rfl rfl rfl (by rw [show eg_mL 129 = 2 from by decide +kernel]; first | done | rfl) ?_
      refine ((fc_needRule hH k_th h0 k_s0 g0 hrc g1 k_ra hru).and (hc_needR (K5, [], G5) [.ref th, .int ru] _ hH (by show 0 ≤ _; omega) rfl (ht_ac (.inr ⟨by decide, _, rfl, k_th⟩) (ht_ac hi_any ht_an)))).mono (fun u hu => ?_)
      obtain ⟨⟨g17, v17, c17, s17, rfl, -, -, eg17, hm17⟩, ⟨ez17, hez17, -, -, -, -, -, hcn17, hsn17⟩⟩ := hu
      have eg17 := eg17.symm
      subst eg17
      have hcn17 : c17 ≤ 1 := by rcases List.mem_cons.mp hez17 with rfl | hez; exact hcn17; obtain rfl := List.mem_singleton.mp hez; exact Nat.le_trans hcn17 (by decide)
      have hsn17 : s17 ≤ 6 := by rcases List.mem_cons.mp hez17 with rfl | hez; exact hsn17; obtain rfl := List.mem_singleton.mp hez; exact Nat.le_trans hsn17 (by decide)
      rcases hm17 with ⟨hx17, rfl⟩ | ⟨n17, q17, en17, hn17, rfl, k_q17, hq17⟩
      · refine hf_cx (by decide +kernel) ?_
        exact ⟨_, _, _, _, _, rfl, hx0, hH, hX, .inl ⟨(fun h => hx17 h.2), rfl, g9⟩⟩
      · have hx17 : xr ru rc := by rw [en17]; exact xr_n (by omega) hn17
        refine hs_cb ?_
        show et_go none _ 133 20 _ [.ref q17] _ _ _ _
        refine hs_popr (p := 21) (by decide +kernel) ?_
        refine hs_aload (i := 3) (p := 22) (by decide +kernel) rfl ?_
        refine hs_ifnonnull1 (p := 33) (by decide +kernel) ?_
        refine hs_aload (i := 0) (p := 34) (by decide +kernel) rfl ?_
        refine hf_get (T := et_TT) (t := 12) (ci := 10) (f := 0) (p := 37) (by decide +kernel) rfl hH k_th h0 ?_
        refine hf_get (T := et_TT) (t := 10) (ci := 8) (f := 9) (p := 40) (by decide +kernel) rfl hH k_s0 g9 ?_
        refine hs_k (x := Int32.ofNat 6) (p := 42) (by decide +kernel) ?_
        refine hs_br2n (c := .lt) (t := 53) (f := 45) (by decide +kernel) (by omega) (by omega) (fun (c42 : c < 6) => ?_) (fun (c42 : ¬ (c < 6)) => ?_)
        · refine hs_aload (i := 0) (p := 54) (by decide +kernel) rfl ?_
          refine hf_get (T := et_TT) (t := 12) (ci := 10) (f := 0) (p := 57) (by decide +kernel) rfl hH k_th h0 ?_
          refine hf_get (T := et_TT) (t := 10) (ci := 8) (f := 10) (p := 60) (by decide +kernel) rfl hH k_s0 g10 ?_
          refine hs_aload (i := 0) (p := 61) (by decide +kernel) rfl ?_
          refine hf_get (T := et_TT) (t := 12) (ci := 10) (f := 0) (p := 64) (by decide +kernel) rfl hH k_th h0 ?_
          refine hf_get (T := et_TT) (t := 10) (ci := 8) (f := 9) (p := 67) (by decide +kernel) rfl hH k_s0 g9 ?_
          refine hf_newU (ci := 0) (n := 4) (fs := [.null, .int 0, .int 0, .int 0]) (p := 70) (by decide +kernel) (by omega) (by omega) (by decide +kernel) (by decide +kernel) hH (fun GN67 hu67 x67 mm67 => ?_)
          have hH := hu67.1
          have h3 := (x67.2 th 3 lt_th (fun h => h)).trans h3
          have h0 := (x67.2 th 0 lt_th (fun h => h)).trans h0
          have r0 := (x67.2 rd 0 lt_rd (fun h => h)).trans r0
          have g0 := (x67.2 s0 0 lt_s0 (fun h => h)).trans g0
          have g1 := (x67.2 s0 1 lt_s0 (fun h => h)).trans g1
          have g5 := (x67.2 s0 5 lt_s0 (fun h => h)).trans g5
          have g6 := (x67.2 s0 6 lt_s0 (fun h => h)).trans g6
          have g9 := (x67.2 s0 9 lt_s0 (fun h => h)).trans g9
          have g10 := (x67.2 s0 10 lt_s0 (fun h => h)).trans g10
          have lt_th := Nat.lt_of_lt_of_le lt_th x67.1
          have lt_s0 := Nat.lt_of_lt_of_le lt_s0 x67.1
          have lt_rd := Nat.lt_of_lt_of_le lt_rd x67.1
          have lt_ta := Nat.lt_of_lt_of_le lt_ta x67.1
          have lt_ba := Nat.lt_of_lt_of_le lt_ba x67.1
          have lt_na := Nat.lt_of_lt_of_le lt_na x67.1
          have lt_tp := Nat.lt_of_lt_of_le lt_tp x67.1
          have lt_ra := Nat.lt_of_lt_of_le lt_ra x67.1
          have lt_ca := Nat.lt_of_lt_of_le lt_ca x67.1
          have lt_ea := Nat.lt_of_lt_of_le lt_ea x67.1
          have lt_bb := Nat.lt_of_lt_of_le lt_bb x67.1
          have hX := hX.tr x67 (fun b j hb h => h.elim)
          have m_x67 := x67.1
          have R := R.fr (x67.agf (lo := G.2) (hi := G5.2) (by omega) (fun a j h1 h2 hs => by exact hs)).ag
          refine hs_dup1 (p := 71) (by decide +kernel) ?_
          refine hs_aload (i := 3) (p := 72) (by decide +kernel) rfl ?_
          refine hs_iload (i := 1) (p := 73) (by decide +kernel) rfl ?_
          refine hs_iload (i := 2) (p := 74) (by decide +kernel) rfl ?_
          refine hs_aload (i := 0) (p := 75) (by decide +kernel) rfl ?_
          refine hf_get (T := et_TT) (t := 12) (ci := 10) (f := 3) (p := 78) (by decide +kernel) rfl hH k_th h3 ?_
          refine ht_getn (T := et_TT) (t := 7) (ci := 5) (f := 3) (p := 81) (by decide +kernel) rfl rfl hH k_rd (fun c78 h78 e78 => ?_)
          refine hs_callp (mi := 30) (na := 4) (lk := 4) (lm := 5) (L0 := eg_en (eg_mL 30) [.ref G5.2, .ref bb, .int ey, .int ru, .int (Int32.ofNat c78)]) (by decide +kernel) rfl rfl rfl rfl rfl (by rw [show eg_mL 30 = 5 from by decide +kernel]; first | done | rfl) ?_
          refine (fu_claim hu67 k_bb (by omega)).mono (fun u hu => fuZ_cb hu (fun K81 G81 hxx81 hH k_n81 x81 hn81 => ?_))
          have lb81 : G5.2 < GN67.2 := by omega
          have h3 := (x81.2 th 3 lt_th (fun h => absurd h (Nat.ne_of_lt (by omega)))).trans h3
          have h0 := (x81.2 th 0 lt_th (fun h => absurd h (Nat.ne_of_lt (by omega)))).trans h0
          have r0 := (x81.2 rd 0 lt_rd (fun h => absurd h (Nat.ne_of_lt (by omega)))).trans r0
          have g0 := (x81.2 s0 0 lt_s0 (fun h => absurd h (Nat.ne_of_lt (by omega)))).trans g0
          have g1 := (x81.2 s0 1 lt_s0 (fun h => absurd h (Nat.ne_of_lt (by omega)))).trans g1
          have g5 := (x81.2 s0 5 lt_s0 (fun h => absurd h (Nat.ne_of_lt (by omega)))).trans g5
          have g6 := (x81.2 s0 6 lt_s0 (fun h => absurd h (Nat.ne_of_lt (by omega)))).trans g6
          have g9 := (x81.2 s0 9 lt_s0 (fun h => absurd h (Nat.ne_of_lt (by omega)))).trans g9
          have g10 := (x81.2 s0 10 lt_s0 (fun h => absurd h (Nat.ne_of_lt (by omega)))).trans g10
          have e78 := (x81.2 rd 3 lt_rd (fun h => absurd h (Nat.ne_of_lt (by omega)))).trans e78
          have hX := hX.tr x81 (fun b j hb h => by first | omega | (dsimp only at h ⊢; omega))
          have m_x81 := x81.1
          have R := R.fr (x81.agf (lo := G.2) (hi := G5.2) (by omega) (fun a j h1 h2 hs => by omega)).ag
          have lt_th := Nat.lt_of_lt_of_le lt_th x81.1
          have lt_s0 := Nat.lt_of_lt_of_le lt_s0 x81.1
          have lt_rd := Nat.lt_of_lt_of_le lt_rd x81.1
          have lt_ta := Nat.lt_of_lt_of_le lt_ta x81.1
          have lt_ba := Nat.lt_of_lt_of_le lt_ba x81.1
          have lt_na := Nat.lt_of_lt_of_le lt_na x81.1
          have lt_tp := Nat.lt_of_lt_of_le lt_tp x81.1
          have lt_ra := Nat.lt_of_lt_of_le lt_ra x81.1
          have lt_ca := Nat.lt_of_lt_of_le lt_ca x81.1
          have lt_ea := Nat.lt_of_lt_of_le lt_ea x81.1
          have lt_bb := Nat.lt_of_lt_of_le lt_bb x81.1
          have k_th := hxx81 _ _ k_th
          have k_s0 := hxx81 _ _ k_s0
          have k_rd := hxx81 _ _ k_rd
          have k_ta := hxx81 _ _ k_ta
          have k_ba := hxx81 _ _ k_ba
          have k_na := hxx81 _ _ k_na
          have k_tp := hxx81 _ _ k_tp
          have k_ra := hxx81 _ _ k_ra
          have k_ca := hxx81 _ _ k_ca
          have k_ea := hxx81 _ _ k_ea
          have k_bb := hxx81 _ _ k_bb
          have hx0 := hx0.tr hxx81
          have k_G5_2 := k_n81
          have lt_G5_2 := (hH.2.2 _ _ k_G5_2).1
          obtain ⟨n0, n1, n2, n3⟩ := hn81
          show et_go none _ 133 84 _ [.ref G5.2, .int (Int32.ofNat c), .ref ca] _ _ _ _
          refine hf_aas1 (t := 39) (u := 2) (N := 6) (kd := 8) (cj := 0) (p := 85) (by decide +kernel) ⟨rfl, rfl⟩ (by decide +kernel) hH k_ca (by omega) k_G5_2 (fun G84 hH x84 e84 => ?_)
          have h3 := (x84.2 th 3 lt_th (fun h => (hi_ne k_th k_ca (by decide)) h.1)).trans h3
          have h0 := (x84.2 th 0 lt_th (fun h => (hi_ne k_th k_ca (by decide)) h.1)).trans h0
          have r0 := (x84.2 rd 0 lt_rd (fun h => (hi_ne k_rd k_ca (by decide)) h.1)).trans r0
          have g0 := (x84.2 s0 0 lt_s0 (fun h => (hi_ne k_s0 k_ca (by decide)) h.1)).trans g0
          have g1 := (x84.2 s0 1 lt_s0 (fun h => (hi_ne k_s0 k_ca (by decide)) h.1)).trans g1
          have g5 := (x84.2 s0 5 lt_s0 (fun h => (hi_ne k_s0 k_ca (by decide)) h.1)).trans g5
          have g6 := (x84.2 s0 6 lt_s0 (fun h => (hi_ne k_s0 k_ca (by decide)) h.1)).trans g6
          have g9 := (x84.2 s0 9 lt_s0 (fun h => (hi_ne k_s0 k_ca (by decide)) h.1)).trans g9
          have g10 := (x84.2 s0 10 lt_s0 (fun h => (hi_ne k_s0 k_ca (by decide)) h.1)).trans g10
          have e78 := (x84.2 rd 3 lt_rd (fun h => (hi_ne k_rd k_ca (by decide)) h.1)).trans e78
          have n0 := (x84.2 G5.2 0 lt_G5_2 (fun h => (hi_ne k_G5_2 k_ca (by decide)) h.1)).trans n0
          have n1 := (x84.2 G5.2 1 lt_G5_2 (fun h => (hi_ne k_G5_2 k_ca (by decide)) h.1)).trans n1
          have n2 := (x84.2 G5.2 2 lt_G5_2 (fun h => (hi_ne k_G5_2 k_ca (by decide)) h.1)).trans n2
          have n3 := (x84.2 G5.2 3 lt_G5_2 (fun h => (hi_ne k_G5_2 k_ca (by decide)) h.1)).trans n3
          have lt_th := Nat.lt_of_lt_of_le lt_th x84.1
          have lt_s0 := Nat.lt_of_lt_of_le lt_s0 x84.1
          have lt_rd := Nat.lt_of_lt_of_le lt_rd x84.1
          have lt_ta := Nat.lt_of_lt_of_le lt_ta x84.1
          have lt_ba := Nat.lt_of_lt_of_le lt_ba x84.1
          have lt_na := Nat.lt_of_lt_of_le lt_na x84.1
          have lt_tp := Nat.lt_of_lt_of_le lt_tp x84.1
          have lt_ra := Nat.lt_of_lt_of_le lt_ra x84.1
          have lt_ca := Nat.lt_of_lt_of_le lt_ca x84.1
          have lt_ea := Nat.lt_of_lt_of_le lt_ea x84.1
          have lt_bb := Nat.lt_of_lt_of_le lt_bb x84.1
          have lt_G5_2 := Nat.lt_of_lt_of_le lt_G5_2 x84.1
          have hX := hX.tr x84 (fun b j hb h => by first | omega | (dsimp only at h ⊢; omega) | (dsimp only at h; omega) | (dsimp only; omega))
          have m_x84 := x84.1
          have R := R.fr (x84.agf (lo := G.2) (hi := G5.2) (by omega) (fun a j h1 h2 hs => by first | omega | (dsimp only at hs; omega))).ag
          refine hs_aload (i := 0) (p := 86) (by decide +kernel) rfl ?_
          refine hf_get (T := et_TT) (t := 12) (ci := 10) (f := 0) (p := 89) (by decide +kernel) rfl hH k_th h0 ?_
          refine hs_dup1 (p := 90) (by decide +kernel) ?_
          refine hf_get (T := et_TT) (t := 10) (ci := 8) (f := 9) (p := 93) (by decide +kernel) rfl hH k_s0 g9 ?_
          refine hs_k (x := Int32.ofNat 1) (p := 94) (by decide +kernel) ?_
          refine hs_iaddn (p := 95) (by decide +kernel) ?_
          refine hf_put (T := et_TT) (t := 10) (ci := 8) (f := 9) (p := 98) (ty := .int) (by decide +kernel) rfl rfl rfl rfl rfl hH k_s0 (hi_nv (by omega) (by omega)) (fun G95 hH x95 e95 => ?_)
          have h3 := (x95.2 th 3 lt_th (fun h => (hi_ne k_th k_s0 (by decide)) h.1)).trans h3
          have h0 := (x95.2 th 0 lt_th (fun h => (hi_ne k_th k_s0 (by decide)) h.1)).trans h0
          have r0 := (x95.2 rd 0 lt_rd (fun h => (hi_ne k_rd k_s0 (by decide)) h.1)).trans r0
          have g0 := (x95.2 s0 0 lt_s0 (fun h => absurd h.2 (by decide))).trans g0
          have g1 := (x95.2 s0 1 lt_s0 (fun h => absurd h.2 (by decide))).trans g1
          have g5 := (x95.2 s0 5 lt_s0 (fun h => absurd h.2 (by decide))).trans g5
          have g6 := (x95.2 s0 6 lt_s0 (fun h => absurd h.2 (by decide))).trans g6
          have g10 := (x95.2 s0 10 lt_s0 (fun h => absurd h.2 (by decide))).trans g10
          have e78 := (x95.2 rd 3 lt_rd (fun h => (hi_ne k_rd k_s0 (by decide)) h.1)).trans e78
          have n0 := (x95.2 G5.2 0 lt_G5_2 (fun h => (hi_ne k_G5_2 k_s0 (by decide)) h.1)).trans n0
          have n1 := (x95.2 G5.2 1 lt_G5_2 (fun h => (hi_ne k_G5_2 k_s0 (by decide)) h.1)).trans n1
          have n2 := (x95.2 G5.2 2 lt_G5_2 (fun h => (hi_ne k_G5_2 k_s0 (by decide)) h.1)).trans n2
          have n3 := (x95.2 G5.2 3 lt_G5_2 (fun h => (hi_ne k_G5_2 k_s0 (by decide)) h.1)).trans n3
          have e84 := (x95.2 ca c lt_ca (fun h => (hi_ne k_ca k_s0 (by decide)) h.1)).trans e84
          have lt_th := Nat.lt_of_lt_of_le lt_th x95.1
          have lt_s0 := Nat.lt_of_lt_of_le lt_s0 x95.1
          have lt_rd := Nat.lt_of_lt_of_le lt_rd x95.1
          have lt_ta := Nat.lt_of_lt_of_le lt_ta x95.1
          have lt_ba := Nat.lt_of_lt_of_le lt_ba x95.1
          have lt_na := Nat.lt_of_lt_of_le lt_na x95.1
          have lt_tp := Nat.lt_of_lt_of_le lt_tp x95.1
          have lt_ra := Nat.lt_of_lt_of_le lt_ra x95.1
          have lt_ca := Nat.lt_of_lt_of_le lt_ca x95.1
          have lt_ea := Nat.lt_of_lt_of_le lt_ea x95.1
          have lt_bb := Nat.lt_of_lt_of_le lt_bb x95.1
          have lt_G5_2 := Nat.lt_of_lt_of_le lt_G5_2 x95.1
          have hX := hX.tr x95 (fun b j hb h => by first | omega | (dsimp only at h ⊢; omega) | (dsimp only at h; omega) | (dsimp only; omega))
          have m_x95 := x95.1
          have R := R.fr (x95.agf (lo := G.2) (hi := G5.2) (by omega) (fun a j h1 h2 hs => by first | omega | (dsimp only at hs; omega))).ag
          refine hs_aload (i := 0) (p := 99) (by decide +kernel) rfl ?_
          refine hf_get (T := et_TT) (t := 12) (ci := 10) (f := 0) (p := 102) (by decide +kernel) rfl hH k_th h0 ?_
          refine hf_get (T := et_TT) (t := 10) (ci := 8) (f := 9) (p := 105) (by decide +kernel) rfl hH k_s0 e95 ?_
          refine hs_k (x := Int32.ofNat 1) (p := 106) (by decide +kernel) ?_
          refine hs_isubn (p := 107) (by decide +kernel) (by omega) ?_
          refine hs_iret (by decide +kernel) ?_
          rw [Nat.add_sub_cancel]
          exact ⟨_, _, _, _, _, rfl, hx0, hH, hX, .inr (.inr (.inr ⟨⟨hx11, hx17⟩, by omega, rfl, e95, f_, _, bb, sq, e84, k_G5_2, n0, n1, n2, k_bb, lo, by omega, _, by omega, R⟩))⟩
        · refine hs_thr (x := 2) (lk := 4) (by decide +kernel) rfl rfl ?_
          exact ⟨_, _, _, _, _, rfl, hx0, hH, hX, .inr (.inr (.inl ⟨⟨hx11, hx17⟩, by omega, (by rw [sq]; intro h; cases h), rfl, g9⟩))⟩
theorem fh_claim {ta ba na tp n out ea : Nat} (hH : et_H et_TT K G) (k_rd : K rd = some 7) (r0 : et_pl (eg_at G rd) 0 = some (.ref tp)) (k_tp : K tp = some 33) (r1 : et_pl (eg_at G rd) 1 = some (.int (Int32.ofNat n))) (hn : n ≤ 400) (ht : ∀ i, i < n → et_pl (eg_at G tp) i = some (.int (Int32.ofNat (b i)))) (hb : ∀ i, i < n → b i < 256) (k_ta : K ta = some 41) (k_ba : K ba = some 21) (k_na : K na = some 21) (hne : ¬ ba = na) (r4 : et_pl (eg_at G rd) 4 = some (.ref ta)) (r5 : et_pl (eg_at G rd) 5 = some (.ref ba)) (r6 : et_pl (eg_at G rd) 6 = some (.ref na)) (k_th : K th = some 12) (h3 : et_pl (eg_at G th) 3 = some (.ref rd)) (h0 : et_pl (eg_at G th) 0 = some (.ref s0)) (k_s0 : K s0 = some 10) (g0 : et_pl (eg_at G s0) 0 = some (.int (Int32.ofNat rc))) (hrc : rc ≤ 4) (g1 : et_pl (eg_at G s0) 1 = some (.ref ra)) (k_ra : K ra = some 37) (hru : ∀ i, i < rc → ∃ q, et_pl (eg_at G ra) i = some (.ref q)) (g5 : et_pl (eg_at G s0) 5 = some (.int (Int32.ofNat ec))) (hec : ec ≤ 3) (g6 : et_pl (eg_at G s0) 6 = some (.ref ea)) (k_ea : K ea = some 40) (g9 : et_pl (eg_at G s0) 9 = some (.int (Int32.ofNat c))) (hc : c ≤ 6) (g10 : et_pl (eg_at G s0) 10 = some (.ref ca)) (k_ca : K ca = some 39) (k_out : K out = some 31) (hd : 28 ≤ d2) : et_go none d2 2 0 (eg_en (eg_mL 2) [.ref th, .int ey, .int ru, .ref out]) [] G 0 0 (xk_Z (fun b j => (b = rd ∧ 1 ≤ j) ∨ ((b = ta ∧ 0 ≤ j) ∨ ((b = ba ∧ 0 ≤ j) ∨ ((b = na ∧ 0 ≤ j) ∨ ((b = s0 ∧ j = 9) ∨ ((b = ca ∧ j = c) ∨ ((b = out ∧ j = 0)))))))) K G (fun K' G' v => (¬ (xr ey ec ∧ xr ru rc) ∧ v = .inl (some (.int (Int32.ofNat 1))) ∧ et_pl (eg_at G' s0) 9 = some (.int (Int32.ofNat c))) ∨ ((xr ey ec ∧ xr ru rc) ∧ sp_one (tz_ts 2 b n 0) = none ∧ v = .inl (some (.int (Int32.ofNat 2))) ∧ et_pl (eg_at G' s0) 9 = some (.int (Int32.ofNat c))) ∨ ((xr ey ec ∧ xr ru rc) ∧ c = 6 ∧ ¬ sp_one (tz_ts 2 b n 0) = none ∧ v = .inl (some (.int (Int32.ofNat 3))) ∧ et_pl (eg_at G' s0) 9 = some (.int (Int32.ofNat c))) ∨ ((xr ey ec ∧ xr ru rc) ∧ c < 6 ∧ v = .inl (some (.int (Int32.ofNat 0))) ∧ et_pl (eg_at G' out) 0 = some (.long (Int32.ofNat c).toInt64) ∧ et_pl (eg_at G' s0) 9 = some (.int (Int32.ofNat (c + 1))) ∧ ∃ f q bb, sp_one (tz_ts 2 b n 0) = some f ∧ et_pl (eg_at G' ca) c = some (.ref q) ∧ K' q = some 2 ∧ et_pl (eg_at G' q) 0 = some (.ref bb) ∧ et_pl (eg_at G' q) 1 = some (.int ey) ∧ et_pl (eg_at G' q) 2 = some (.int ru) ∧ K' bb = some 6 ∧ G.2 ≤ bb ∧ G.2 ≤ q ∧ ∃ hi, hi ≤ G'.2 ∧ dn G' 15 G.2 hi bb f))) := by
  obtain ⟨d, rfl⟩ : ∃ d, d2 = d + 28 := ⟨d2 - 28, by omega⟩
  have lo0 := hH.1
  rw [show eg_mL 2 = 5 from by decide +kernel]
  show et_go none (d + 28) 2 0 [some (.ref th), some (.int ey), some (.int ru), some (.ref out), none] [] G 0 0 (xk_Z _ _ _ _)
  have lt_th := (hH.2.2 _ _ k_th).1
  have lt_rd := (hH.2.2 _ _ k_rd).1
  have lt_s0 := (hH.2.2 _ _ k_s0).1
  have lt_ta := (hH.2.2 _ _ k_ta).1
  have lt_ba := (hH.2.2 _ _ k_ba).1
  have lt_na := (hH.2.2 _ _ k_na).1
  have lt_out := (hH.2.2 _ _ k_out).1
  have lt_ra := (hH.2.2 _ _ k_ra).1
  have lt_ca := (hH.2.2 _ _ k_ca).1
  have lt_ea := (hH.2.2 _ _ k_ea).1
  have hX : xf (fun b j => (b = rd ∧ 1 ≤ j) ∨ ((b = ta ∧ 0 ≤ j) ∨ ((b = ba ∧ 0 ≤ j) ∨ ((b = na ∧ 0 ≤ j) ∨ ((b = s0 ∧ j = 9) ∨ ((b = ca ∧ j = c) ∨ ((b = out ∧ j = 0)))))))) G G := xf.rf
  have hx0 : et_ex K K := et_ex.rf
  have lr_th := lt_th
  have lr_rd := lt_rd
  have lr_s0 := lt_s0
  have lr_ta := lt_ta
  have lr_ba := lt_ba
  have lr_na := lt_na
  have lr_out := lt_out
  have lr_ra := lt_ra
  have lr_ca := lt_ca
  have lr_ea := lt_ea
  refine hs_aload (i := 3) (p := 1) (by decide +kernel) rfl ?_
  refine hs_k (x := Int32.ofNat 0) (p := 2) (by decide +kernel) ?_
  refine hs_aload (i := 0) (p := 3) (by decide +kernel) rfl ?_
  refine hs_iload (i := 1) (p := 4) (by decide +kernel) rfl ?_
  refine hs_iload (i := 2) (p := 5) (by decide +kernel) rfl ?_
  refine ht_callv (T := et_TT) (t := 12) (mi := 133) (na := 2) (ci := 10) (lk := 5) (lm := 4) (L0 := eg_en (eg_mL 133) [.ref th, .int ey, .int ru]) (by decide +kernel) rfl hH k_th rfl rfl rfl rfl rfl (by rw [show eg_mL 133 = 4 from by decide +kernel]; first | done | rfl) ?_
  refine (fc_claim (ea := ea) hH k_rd r0 k_tp r1 hn ht hb k_ta k_ba k_na hne r4 r5 r6 k_th h3 h0 k_s0 g0 hrc g1 k_ra hru g5 hec g6 k_ea g9 hc g10 k_ca (by omega)).mono (fun u hu => ?_)
  obtain ⟨K5, G5, v5, c5, s5, rfl, hxx5, hH, x5, hm5⟩ := hu
  have lt_th := Nat.lt_of_lt_of_le lt_th x5.1
  have lt_rd := Nat.lt_of_lt_of_le lt_rd x5.1
  have lt_s0 := Nat.lt_of_lt_of_le lt_s0 x5.1
  have lt_ta := Nat.lt_of_lt_of_le lt_ta x5.1
  have lt_ba := Nat.lt_of_lt_of_le lt_ba x5.1
  have lt_na := Nat.lt_of_lt_of_le lt_na x5.1
  have lt_out := Nat.lt_of_lt_of_le lt_out x5.1
  have lt_ra := Nat.lt_of_lt_of_le lt_ra x5.1
  have lt_ca := Nat.lt_of_lt_of_le lt_ca x5.1
  have lt_ea := Nat.lt_of_lt_of_le lt_ea x5.1
  have hX := hX.tr x5 (fun b j hb h => by first | omega | (dsimp only at h ⊢; omega) | (dsimp only at h; omega) | (dsimp only; omega))
  have m_x5 := x5.1
  have k_th := hxx5 _ _ k_th
  have k_rd := hxx5 _ _ k_rd
  have k_s0 := hxx5 _ _ k_s0
  have k_ta := hxx5 _ _ k_ta
  have k_ba := hxx5 _ _ k_ba
  have k_na := hxx5 _ _ k_na
  have k_out := hxx5 _ _ k_out
  have k_ra := hxx5 _ _ k_ra
  have k_ca := hxx5 _ _ k_ca
  have k_ea := hxx5 _ _ k_ea
  have hx0 := hx0.tr hxx5
  rcases hm5 with ⟨hxr, rfl, q0⟩ | ⟨hxr, sq, rfl, q0⟩ | ⟨hxr, c4, sq, rfl, q0⟩ | ⟨hxr, c4, rfl, q0, f_, q, bb, sq, q1, k_q, q2, q3, q4, k_bb, lo, loq, hi, hhi, R⟩
  · refine hs_ch (h := 13) (i := 4) (n := 2) (hh := (eg_mh 2).getD []) (by decide +kernel) ⟨by decide +kernel, by decide +kernel⟩ (Nat.le_of_ble_eq_true rfl) ?_
    show et_go none _ 2 15 [some (.ref th), some (.int ey), some (.int ru), some (.ref out), none] [] _ _ _ _
    refine hs_k (x := Int32.ofNat 1) (p := 16) (by decide +kernel) ?_
    refine hs_iret (by decide +kernel) ?_
    exact ⟨_, _, _, _, _, rfl, hx0, hH, hX, .inl ⟨hxr, rfl, q0⟩⟩
  · refine hs_ch (h := 17) (i := 4) (n := 2) (hh := (eg_mh 2).getD []) (by decide +kernel) ⟨by decide +kernel, by decide +kernel⟩ (Nat.le_of_ble_eq_true rfl) ?_
    show et_go none _ 2 19 [some (.ref th), some (.int ey), some (.int ru), some (.ref out), none] [] _ _ _ _
    refine hs_k (x := Int32.ofNat 2) (p := 20) (by decide +kernel) ?_
    refine hs_iret (by decide +kernel) ?_
    exact ⟨_, _, _, _, _, rfl, hx0, hH, hX, .inr (.inl ⟨hxr, sq, rfl, q0⟩)⟩
  · refine hs_ch (h := 21) (i := 4) (n := 2) (hh := (eg_mh 2).getD []) (by decide +kernel) ⟨by decide +kernel, by decide +kernel⟩ (Nat.le_of_ble_eq_true rfl) ?_
    show et_go none _ 2 23 [some (.ref th), some (.int ey), some (.int ru), some (.ref out), none] [] _ _ _ _
    refine hs_k (x := Int32.ofNat 3) (p := 24) (by decide +kernel) ?_
    refine hs_iret (by decide +kernel) ?_
    exact ⟨_, _, _, _, _, rfl, hx0, hH, hX, .inr (.inr (.inl ⟨hxr, c4, sq, rfl, q0⟩))⟩
  · have lt_q := (hH.2.2 _ _ k_q).1
    have lt_bb := (hH.2.2 _ _ k_bb).1
    refine hs_cb ?_
    show et_go none _ 2 8 _ [.int (Int32.ofNat c), .int (Int32.ofNat 0), .ref out] _ _ _ _
    refine hs_i2l (p := 9) (by decide +kernel) ?_
    refine hf_lst (T := et_TT) (t := 31) (N := 1) (p := 10) (by decide +kernel) rfl rfl hH k_out (by omega) (by decide) (fun G9 hH x9 e9 => ?_)
    have q0 := (x9.2 s0 9 lt_s0 (fun h => (hi_ne k_s0 k_out (by decide)) h.1)).trans q0
    have q1 := (x9.2 ca c lt_ca (fun h => (hi_ne k_ca k_out (by decide)) h.1)).trans q1
    have q2 := (x9.2 q 0 lt_q (fun h => (hi_ne k_q k_out (by decide)) h.1)).trans q2
    have q3 := (x9.2 q 1 lt_q (fun h => (hi_ne k_q k_out (by decide)) h.1)).trans q3
    have q4 := (x9.2 q 2 lt_q (fun h => (hi_ne k_q k_out (by decide)) h.1)).trans q4
    have lt_th := Nat.lt_of_lt_of_le lt_th x9.1
    have lt_rd := Nat.lt_of_lt_of_le lt_rd x9.1
    have lt_s0 := Nat.lt_of_lt_of_le lt_s0 x9.1
    have lt_ta := Nat.lt_of_lt_of_le lt_ta x9.1
    have lt_ba := Nat.lt_of_lt_of_le lt_ba x9.1
    have lt_na := Nat.lt_of_lt_of_le lt_na x9.1
    have lt_out := Nat.lt_of_lt_of_le lt_out x9.1
    have lt_ra := Nat.lt_of_lt_of_le lt_ra x9.1
    have lt_ca := Nat.lt_of_lt_of_le lt_ca x9.1
    have lt_ea := Nat.lt_of_lt_of_le lt_ea x9.1
    have lt_q := Nat.lt_of_lt_of_le lt_q x9.1
    have lt_bb := Nat.lt_of_lt_of_le lt_bb x9.1
    have hX := hX.tr x9 (fun b j hb h => by first | omega | (dsimp only at h ⊢; omega) | (dsimp only at h; omega) | (dsimp only; omega))
    have m_x9 := x9.1
    have R := R.fr (x9.agf (lo := G.2) (hi := hi) (by omega) (fun a j h1 h2 hs => by first | omega | (dsimp only at hs; omega))).ag
    refine hs_goto (p := 25) (by decide +kernel) ?_
    refine hs_k (x := Int32.ofNat 0) (p := 26) (by decide +kernel) ?_
    refine hs_iret (by decide +kernel) ?_
    exact ⟨_, _, _, _, _, rfl, hx0, hH, hX, .inr (.inr (.inr ⟨hxr, c4, rfl, e9, q0, f_, q, bb, sq, q1, k_q, q2, q3, q4, k_bb, lo, loq, hi, by omega, R⟩))⟩
end FKB
