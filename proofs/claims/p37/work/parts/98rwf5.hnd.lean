/-! CLAIMS: the reader's flag: no PART has the word unseen while it is not set -/
def jR (K : et_K) (G : eg_G) (rd lo0 : Nat) : Prop := ∃ k : Nat, k ≤ 1 ∧ et_pl (eg_at G rd) 3 = some (.int (Int32.ofNat k)) ∧ (k = 0 → ∀ a, lo0 ≤ a → K a = some 6 → ¬ et_pl (eg_at G a) 4 = some (.ref 17))
def jX (K : et_K) (G : eg_G) (rd lo0 o : Nat) : Prop := ∃ k : Nat, k ≤ 1 ∧ et_pl (eg_at G rd) 3 = some (.int (Int32.ofNat k)) ∧ (k = 0 → ∀ a, lo0 ≤ a → K a = some 6 → ¬ a = o → ¬ et_pl (eg_at G a) 4 = some (.ref 17))
section AVA
variable {K K' : et_K} {G G' : eg_G} {S : Nat → Nat → Prop} {rd lo0 o c m : Nat} {v : Value}
/-- at the beginning -/
theorem jR.b (hH : et_H et_TT K G) (k_rd : K rd = some 7) (hl : ∀ a, K a = some 6 → a < lo0) : jR K G rd lo0 := by
  obtain ⟨x, e, h1, h2⟩ := hf_iv (f := 3) hH k_rd rfl rfl
  obtain ⟨n, h3, h4, h5⟩ := hs_toN (x := x) (by omega)
  exact ⟨n, by omega, by rw [e, h3], fun _ a ha ka => absurd (hl a ka) (by omega)⟩
theorem jR.xs (h : jR K G rd lo0) (hH : et_H et_TT K G) (k_rd : K rd = some 7) (x : xf S G G') (hS : ∀ a j, S a j → (a = rd → ¬ j = 3) ∧ (K a = some 6 → ¬ j = 4)) : jR K G' rd lo0 := by
  obtain ⟨k, h1, h2, h3⟩ := h
  refine ⟨k, h1, (x.2 rd 3 (hH.2.2 _ _ k_rd).1 (fun hs => (hS _ _ hs).1 rfl rfl)).trans h2, fun hk a ha ka => ?_⟩
  rw [x.2 a 4 (hH.2.2 _ _ ka).1 (fun hs => (hS _ _ hs).2 ka rfl)]
  exact h3 hk a ha ka
theorem jR.nw (h : jR K G rd lo0) (hH : et_H et_TT K G) (k_rd : K rd = some 7) (x : xf (fun _ _ => False) G G') (hn : kpl G' G.2 4 .null) (kj : ∀ a, K' a = some 6 → a = G.2 ∨ K a = some 6) : jR K' G' rd lo0 := by
  obtain ⟨k, h1, h2, h3⟩ := h
  refine ⟨k, h1, (x.2 rd 3 (hH.2.2 _ _ k_rd).1 (fun hs => hs)).trans h2, fun hk a ha ka => ?_⟩
  rcases kj a ka with e | ka
  · rw [e]
    have hn : et_pl (eg_at G' G.2) 4 = some .null := hn
    rw [hn]
    exact fun q => nomatch (Option.some.inj q)
  · rw [x.2 a 4 (hH.2.2 _ _ ka).1 (fun hs => hs)]
    exact h3 hk a ha ka
/-- a word that is not unseen -/
theorem jR.nd (h : jR K G rd lo0) (hH : et_H et_TT K G) (k_rd : K rd = some 7) (k_o : K o = some 6) (x : xf (fun b j => b = o ∧ j = 4) G G') (e : et_pl (eg_at G' o) 4 = some v) (hv : ¬ v = .ref 17) : jR K G' rd lo0 := by
  obtain ⟨k, h1, h2, h3⟩ := h
  refine ⟨k, h1, (x.2 rd 3 (hH.2.2 _ _ k_rd).1 (fun hs => absurd hs.2 (by decide))).trans h2, fun hk a ha ka => ?_⟩
  by_cases ea : a = o
  · rw [ea, e]
    exact fun q => hv (Option.some.inj q)
  · rw [x.2 a 4 (hH.2.2 _ _ ka).1 (fun hs => ea hs.1)]
    exact h3 hk a ha ka
/-- any word: the flag not yet -/
theorem jR.wx (h : jR K G rd lo0) (hH : et_H et_TT K G) (k_rd : K rd = some 7) (x : xf (fun b j => b = o ∧ j = 4) G G') : jX K G' rd lo0 o := by
  obtain ⟨k, h1, h2, h3⟩ := h
  refine ⟨k, h1, (x.2 rd 3 (hH.2.2 _ _ k_rd).1 (fun hs => absurd hs.2 (by decide))).trans h2, fun hk a ha ka ea => ?_⟩
  rw [x.2 a 4 (hH.2.2 _ _ ka).1 (fun hs => ea hs.1)]
  exact h3 hk a ha ka
theorem jX.up (h : jX K G rd lo0 o) (hH : et_H et_TT K G) (k_rd : K rd = some 7) (e3 : et_pl (eg_at G rd) 3 = some (.int (Int32.ofNat c))) (hc : c ≤ 1) (x : xf (fun b j => b = rd ∧ j = 3) G G') (e : et_pl (eg_at G' rd) 3 = some (.int (Int32.ofNat m))) (hm : m ≤ 1) (h0 : m = 0 → c = 0) (ho : m = 0 → ¬ et_pl (eg_at G o) 4 = some (.ref 17)) : jR K G' rd lo0 := by
  obtain ⟨k, h1, h2, h3⟩ := h
  have ek : k = c := (hs_neq (by omega) (by omega)).mp (Value.int.inj (Option.some.inj (h2.symm.trans e3)))
  refine ⟨m, hm, e, fun hk a ha ka => ?_⟩
  have ar : ¬ a = rd := fun ea => by
    rw [ea, k_rd] at ka
    exact nomatch ka
  rw [x.2 a 4 (hH.2.2 _ _ ka).1 (fun hs => ar hs.1)]
  by_cases ea : a = o
  · rw [ea]
    exact ho hk
  · exact h3 (ek.trans (h0 hk)) a ha ka ea
theorem orJ1 {a b m : Nat} (ha : a ≤ 1) (hb : b ≤ 1) (hm : m ≤ 1) (h : Int32.ofNat a ||| Int32.ofNat b = Int32.ofNat m) (h0 : m = 0) : a = 0 ∧ b = 0 := by
  rw [h0] at h
  have e : ∀ a ∈ List.range 2, ∀ b ∈ List.range 2, (Int32.ofNat a ||| Int32.ofNat b = Int32.ofNat 0) → a = 0 ∧ b = 0 := by decide
  exact e a (List.mem_range.mpr (by omega)) b (List.mem_range.mpr (by omega)) h
theorem tw17 {w : Nat} (h : sp_tw w = true) : ¬ Value.ref w = .ref 17 := fun e => by
  rw [Value.ref.inj e] at h
  exact absurd h (by decide)
end AVA
def fzJ {α : Type} (lo0 rd : Nat) (L : List sp_T) (x : Nat) (K : et_K) (G : eg_G) (R : α → eg_G → Nat → Prop) (sp : Option (α × List sp_T)) (u : eg_O) : Prop := ∃ (K' : et_K) (G' : eg_G) (v : Value) (c s : Nat), u = (.inl (some v), G', c, s) ∧ et_ex K K' ∧ et_H et_TT K' G' ∧ xf (rxS rd) G G' ∧ fzm rd L x R sp K' G' v ∧ jR K' G' rd lo0
theorem fz_cbJ {α : Type} {d k pc ck sk rd x t lo0 : Nat} {L : eg_Ls} {r : List Value} {K : et_K} {G : eg_G} {Z : eg_O → Prop} {Ts : List sp_T} {R : α → eg_G → Nat → Prop} {sp : Option (α × List sp_T)} {u : eg_O} (ht : t ≤ 2) (hu : pp_Z t K G rd x u ∧ fzJ lo0 rd Ts x K G R sp u) (hk : ∀ (K' : et_K) (G' : eg_G) (v : Value) (c s : Nat), et_ex K K' → et_H et_TT K' G' → xf (rxS rd) G G' → c ≤ 806 → s ≤ 6 * c → fzm rd Ts x R sp K' G' v → jR K' G' rd lo0 → et_go none d k (pc + 3) L (v :: r) G' (ck + c) (sk + s) Z) : hs_cont d k pc L r ck sk Z u := by
  obtain ⟨hp, K', G', v, c, s, e, g1, g2, g3, g4, g5⟩ := hu
  subst e
  obtain ⟨K1, v1, y, e1, p1, p2, p3, p4, h5, h6, h7, h8⟩ := hp
  have hc : c ≤ 806 := by
    rcases h8 with ⟨-, h9⟩ | ⟨b, -, -, -, h9⟩
    · have h9 : c + 2 * x ≤ 2 * y + 1 + t := h9
      omega
    · have h9 : c + 1 + 2 * x ≤ 2 * y + t := h9
      omega
  exact hs_cb (hk K' G' v c s g1 g2 g3 hc h7 g4 g5)
theorem hf_newNJ {d k pc ck sk p : Nat} {L : eg_Ls} {st : List Value} {K : et_K} {G : eg_G} {Z : eg_O → Prop} (hc : hs_nw k pc = some (4, p)) (h1 : ck + 1 ≤ 600002) (h2 : sk + 6 ≤ 7302232) (hH : et_H et_TT K G) (h : ∀ (K' : et_K) (G' : eg_G), et_ex K K' → xf (fun _ _ => False) G G' → et_H et_TT K' G' → K' G.2 = some 6 → G'.2 = G.2 + 1 → kpl G' G.2 1 .null ∧ kpl G' G.2 2 .null ∧ kpl G' G.2 3 .null ∧ kpl G' G.2 4 .null ∧ kpl G' G.2 5 (.int (Int32.ofNat 0)) → (∀ a, K' a = some 6 → a = G.2 ∨ K a = some 6) → et_go none d k p L (.ref G.2 :: st) G' (ck + 1) (sk + 6) Z) : et_go none d k pc L st G ck sk Z := by
  have e6 : hs_cl 4 = 6 := by decide +kernel
  have h3 := et_H1 (M := []) (t := 6) hH (by decide) rfl (et_c4 (K := K)) ⟨fun _ b hb => (by cases hb), fun h => absurd h (by decide)⟩
  refine hs_new hc h1 (by rw [e6]; exact h2) ?_
  rw [et_nc4, e6]
  have e : eg_at (eg_p G (.inr (4, [.int 0, .null, .null, .null, .null, .int 0]))) G.2 = .inr (4, [.int 0, .null, .null, .null, .null, .int 0]) := et_at_ps hH.1
  refine h (et_kn K G.2 6) _ h3.1 ⟨Nat.le_succ _, fun a i ha _ => by rw [et_at_p ha]⟩ h3.2.2 (if_pos rfl) rfl ⟨?_, ?_, ?_, ?_, ?_⟩ (fun a ka => ?_)
  · unfold kpl; rw [e]; rfl
  · unfold kpl; rw [e]; rfl
  · unfold kpl; rw [e]; rfl
  · unfold kpl; rw [e]; rfl
  · unfold kpl; rw [e]; rfl
  · by_cases ea : a = G.2
    · exact .inl ea
    · have ka : (if a = G.2 then some 6 else K a) = some 6 := ka
      rw [if_neg ea] at ka
      exact .inr ka
def jA (lo0 m : Nat) : Prop := ∀ (K : et_K) (G : eg_G) (d2 rd x dep : Nat) (L : List sp_T), et_H et_TT K G → K rd = some 7 → tk K G rd L → tl L → et_pl (eg_at G rd) 8 = some (.int (Int32.ofNat x)) → x ≤ L.length → et_pl (eg_at G rd) 2 = some (.int (-1)) → dep + m = 6 → 4 + 3 * m ≤ d2 → jR K G rd lo0 → et_go none d2 77 0 (eg_en (eg_mL 77) [.ref rd, .int (Int32.ofNat dep)]) [] G 0 0 (fzJ lo0 rd L x K G (fB (1 + 2 * m) G.2) (sp_A m (L.drop x)))
def jG (lo0 kn t m : Nat) (sp : sp_P (sp_E → Bool)) : Prop := ∀ (K : et_K) (G : eg_G) (d2 rd x dep : Nat) (L : List sp_T), et_H et_TT K G → K rd = some 7 → tk K G rd L → tl L → et_pl (eg_at G rd) 8 = some (.int (Int32.ofNat x)) → x ≤ L.length → et_pl (eg_at G rd) 2 = some (.int (-1)) → dep + m = 6 → 4 + t + 3 * m ≤ d2 → jR K G rd lo0 → et_go none d2 75 0 (eg_en (eg_mL 75) [.ref rd, .int (Int32.ofNat kn), .int (Int32.ofNat dep)]) [] G 0 0 (fzJ lo0 rd L x K G (fB (1 + t + 2 * m) G.2) (sp (L.drop x)))
section AVB
variable {K K0 : et_K} {G G0 : eg_G} {L : List sp_T} {d2 d rd x lo0 : Nat}
theorem fj_tag (hH : et_H et_TT K G) (k_rd : K rd = some 7) (htk : tk K G rd L) (htl : tl L) (r8 : et_pl (eg_at G rd) 8 = some (.int (Int32.ofNat x))) (hx : x ≤ L.length) (r2 : et_pl (eg_at G rd) 2 = some (.int (-1))) (hJ : jR K G rd lo0) {wd : Nat} {nn : Option Nat} (hw : L[x]? = some (wd, nn)) (htw : sp_tw wd = true) (hd : 2 ≤ d2) : et_go none d2 82 0 (eg_en (eg_mL 82) [.ref rd]) [] G 0 0 (fzJ lo0 rd L x K G (fB 1 G.2) (sp_tag wd (L.drop (x + 1)))) := by
  obtain ⟨d, rfl⟩ : ∃ d, d2 = d + 2 := ⟨d2 - 2, by omega⟩
  have hwt := wat_s hw
  have hxl := (List.getElem?_eq_some_iff.mp hw).1
  rw [show eg_mL 82 = 2 from by decide +kernel]
  show et_go none (d + 2) 82 0 [some (.ref rd), none] [] G 0 0 _
  have lt_rd := (hH.2.2 _ _ k_rd).1
  have hX : xf (fun b j => (b = rd ∧ (2 ≤ j ∧ j ≤ 3)) ∨ (b = rd ∧ j = 8)) G G := xf.rf
  have hx0 : et_ex K K := et_ex.rf
  have hl4 : L.length ≤ 400 := by obtain ⟨_, _, _, _, _, h, _⟩ := htk; exact h
  have hHo := hH
  refine hf_newNJ (p := 3) (by decide +kernel) (by omega) (by omega) hH (fun KK0 GG0 hxx0 x0 hH k_G_2 mm0 hf0 kj0 => ?_)
  have hJ := hJ.nw hHo k_rd x0 hf0.2.2.2.1 kj0
  have r8 := (x0.2 rd 8 lt_rd (fun h => h)).trans r8
  have r2 := (x0.2 rd 2 lt_rd (fun h => h)).trans r2
  have lt_rd := Nat.lt_of_lt_of_le lt_rd x0.1
  have hX := hX.tr x0 (fun b j hb h => h.elim)
  have m0 := x0.1
  have htk := htk.xf hHo k_rd hxx0 x0 (fun a j hs => absurd hs id)
  have k_rd := hxx0 _ _ k_rd
  have hx0 := hx0.tr hxx0
  have lt_G_2 : G.2 < GG0.2 := by omega
  obtain ⟨n1_0, n2_0, n3_0, n4_0, n5_0⟩ := hf0
  refine hs_dup1 (p := 4) (by decide +kernel) ?_
  refine hs_k (x := Int32.ofNat 3) (p := 5) (by decide +kernel) ?_
  have hHo := hH
  refine hs_callp (mi := 61) (na := 1) (lk := 2) (lm := 2) (L0 := eg_en (eg_mL 61) [.ref G.2, .int (Int32.ofNat 3)]) (by decide +kernel) rfl rfl rfl rfl rfl (by rw [show eg_mL 61 = 2 from by decide +kernel]; first | done | rfl) ?_
  refine (fc_nod hH k_G_2).mono (fun u hu => xw_cb hu (fun G5 v5 hH x5 hP5 => ?_))
  have hJ := hJ.xs hHo k_rd x5 (fun a j hs => ⟨fun e9 => absurd (hs.1.symm.trans e9) (hi_ne k_G_2 k_rd (by decide)), fun _ => by have h9 := hs.2; omega⟩)
  have r8 := (x5.2 rd 8 lt_rd (fun h => (hi_ne k_rd k_G_2 (by decide)) h.1)).trans r8
  have r2 := (x5.2 rd 2 lt_rd (fun h => (hi_ne k_rd k_G_2 (by decide)) h.1)).trans r2
  have n1_0 := (x5.2 G.2 1 lt_G_2 (fun h => absurd h.2 (by decide))).trans n1_0
  have n2_0 := (x5.2 G.2 2 lt_G_2 (fun h => absurd h.2 (by decide))).trans n2_0
  have n3_0 := (x5.2 G.2 3 lt_G_2 (fun h => absurd h.2 (by decide))).trans n3_0
  have n4_0 := (x5.2 G.2 4 lt_G_2 (fun h => absurd h.2 (by decide))).trans n4_0
  have n5_0 := (x5.2 G.2 5 lt_G_2 (fun h => absurd h.2 (by decide))).trans n5_0
  have lt_rd := Nat.lt_of_lt_of_le lt_rd x5.1
  have lt_G_2 := Nat.lt_of_lt_of_le lt_G_2 x5.1
  have hX := hX.tr x5 (fun b j hb h => by first | omega | (dsimp only at h ⊢; omega) | (dsimp only at h; omega) | (dsimp only; omega))
  have m5 := x5.1
  have htk := htk.xf hHo k_rd et_ex.rf x5 (fun a j hs => .inr (.inl (by have e := hs.1; rw [e]; exact k_G_2)))
  obtain ⟨rfl, e5⟩ := hP5
  show et_go none _ 82 8 _ [.ref G.2] _ _ _ _
  refine hs_astore (i := 1) (p := 9) (by decide +kernel) (Nat.le_of_ble_eq_true rfl) ?_
  refine hs_aload (i := 1) (p := 10) (by decide +kernel) rfl ?_
  refine hs_aload (i := 0) (p := 11) (by decide +kernel) rfl ?_
  refine hs_k (x := Int32.ofNat 1) (p := 12) (by decide +kernel) ?_
  refine ht_callv (T := et_TT) (t := 7) (mi := 79) (na := 1) (ci := 5) (lk := 2) (lm := 2) (L0 := eg_en (eg_mL 79) [.ref rd, .int (Int32.ofNat 1)]) (by decide +kernel) rfl hH k_rd rfl rfl rfl rfl rfl (by rw [show eg_mL 79 = 2 from by decide +kernel]; first | done | rfl) ?_
  refine (fc_wh1 hH k_rd htk htl r8 (by omega)).mono (fun u hu => xp_cb hu ?_)
  by_cases w12 : sp_tw (wat L x) = true
  · rw [if_pos w12]
    obtain ⟨wn12, hwn, -⟩ := wat_t (L := L) (x := x) rfl (fun h => by rw [h] at w12; exact absurd w12 (by decide))
    have il12 : x < L.length := wat_i (fun h => by rw [h] at w12; exact absurd w12 (by decide))
    show et_go none _ 82 15 _ [.ref (wat L x), .ref G.2] _ _ _ _
    have hHo := hH
    refine hf_put (T := et_TT) (t := 6) (ci := 4) (f := 4) (p := 18) (ty := (.object "KnobEye$Word")) (by decide +kernel) rfl rfl rfl rfl rfl hH k_G_2 (.inr ⟨by decide, _, rfl, hH.2.1 _ (wat_lt htl)⟩) (fun G15 hH x15 e15 => ?_)
    have hJ := hJ.nd hHo k_rd k_G_2 x15 e15 (tw17 w12)
    have r8 := (x15.2 rd 8 lt_rd (fun h => (hi_ne k_rd k_G_2 (by decide)) h.1)).trans r8
    have r2 := (x15.2 rd 2 lt_rd (fun h => (hi_ne k_rd k_G_2 (by decide)) h.1)).trans r2
    have n1_0 := (x15.2 G.2 1 lt_G_2 (fun h => absurd h.2 (by decide))).trans n1_0
    have n2_0 := (x15.2 G.2 2 lt_G_2 (fun h => absurd h.2 (by decide))).trans n2_0
    have n3_0 := (x15.2 G.2 3 lt_G_2 (fun h => absurd h.2 (by decide))).trans n3_0
    have n5_0 := (x15.2 G.2 5 lt_G_2 (fun h => absurd h.2 (by decide))).trans n5_0
    have e5 := (x15.2 G.2 0 lt_G_2 (fun h => absurd h.2 (by decide))).trans e5
    have lt_rd := Nat.lt_of_lt_of_le lt_rd x15.1
    have lt_G_2 := Nat.lt_of_lt_of_le lt_G_2 x15.1
    have hX := hX.tr x15 (fun b j hb h => by first | omega | (dsimp only at h ⊢; omega) | (dsimp only at h; omega) | (dsimp only; omega))
    have m15 := x15.1
    have htk := htk.xf hHo k_rd et_ex.rf x15 (fun a j hs => .inr (.inl (by have e := hs.1; rw [e]; exact k_G_2)))
    refine hs_aload (i := 0) (p := 19) (by decide +kernel) rfl ?_
    refine hs_dup1 (p := 20) (by decide +kernel) ?_
    refine hf_get (T := et_TT) (t := 7) (ci := 5) (f := 8) (p := 23) (by decide +kernel) rfl hH k_rd r8 ?_
    refine hs_k (x := Int32.ofNat 1) (p := 24) (by decide +kernel) ?_
    refine hs_iaddn (p := 25) (by decide +kernel) ?_
    have hHo := hH
    refine hf_put (T := et_TT) (t := 7) (ci := 5) (f := 8) (p := 28) (ty := .int) (by decide +kernel) rfl rfl rfl rfl rfl hH k_rd (hi_nv (by omega) (by omega)) (fun G25 hH x25 e25 => ?_)
    have hJ := hJ.xs hHo k_rd x25 (fun a j hs => ⟨fun _ => by first | omega | (dsimp only at hs; omega), fun k6 => by have e9 : a = rd := (by first | omega | (dsimp only at hs; omega)); rw [e9, k_rd] at k6; exact nomatch k6⟩)
    have r2 := (x25.2 rd 2 lt_rd (fun h => absurd h.2 (by decide))).trans r2
    have n1_0 := (x25.2 G.2 1 lt_G_2 (fun h => (hi_ne k_G_2 k_rd (by decide)) h.1)).trans n1_0
    have n2_0 := (x25.2 G.2 2 lt_G_2 (fun h => (hi_ne k_G_2 k_rd (by decide)) h.1)).trans n2_0
    have n3_0 := (x25.2 G.2 3 lt_G_2 (fun h => (hi_ne k_G_2 k_rd (by decide)) h.1)).trans n3_0
    have e15 := (x25.2 G.2 4 lt_G_2 (fun h => (hi_ne k_G_2 k_rd (by decide)) h.1)).trans e15
    have n5_0 := (x25.2 G.2 5 lt_G_2 (fun h => (hi_ne k_G_2 k_rd (by decide)) h.1)).trans n5_0
    have e5 := (x25.2 G.2 0 lt_G_2 (fun h => (hi_ne k_G_2 k_rd (by decide)) h.1)).trans e5
    have lt_rd := Nat.lt_of_lt_of_le lt_rd x25.1
    have lt_G_2 := Nat.lt_of_lt_of_le lt_G_2 x25.1
    have hX := hX.tr x25 (fun b j hb h => by first | omega | (dsimp only at h ⊢; omega) | (dsimp only at h; omega) | (dsimp only; omega))
    have m25 := x25.1
    have htk := htk.xf hHo k_rd et_ex.rf x25 (fun a j hs => .inl (by first | omega | (dsimp only at hs; omega)))
    have e25 : et_pl (eg_at G25 rd) 8 = some (.int (Int32.ofNat (x + 1))) := e25
    refine hs_aload (i := 1) (p := 29) (by decide +kernel) rfl ?_
    refine hf_get (T := et_TT) (t := 6) (ci := 4) (f := 4) (p := 32) (by decide +kernel) rfl hH k_G_2 e15 ?_
    refine hs_gst (v := Value.ref 2) (p := 35) (by decide +kernel) ?_
    refine hf_acm (c := .ne) (tt := 48) (ff := 38) (by decide +kernel) (hi_ca hH (hH.2.1 _ (wat_lt htl)) (.inl rfl)) (by decide +kernel) (fun (q35 : ¬ Value.ref (wat L x) = .ref 2) => ?_) (fun (q35 : ¬ ¬ Value.ref (wat L x) = .ref 2) => ?_)
    · have q35 : ¬ (wat L x) = 2 := fun h => q35 (by rw [h])
      refine hs_aload (i := 0) (p := 49) (by decide +kernel) rfl ?_
      refine hf_get (T := et_TT) (t := 7) (ci := 5) (f := 2) (p := 52) (by decide +kernel) rfl hH k_rd r2 ?_
      refine hs_k (x := (-1)) (p := 53) (by decide +kernel) ?_
      refine hs_br2 (c := .ne) (t := 60) (f := 56) (by decide +kernel) (fun hz => absurd rfl hz) (fun _ => ?_)
      refine hs_aload (i := 1) (p := 57) (by decide +kernel) rfl ?_
      refine hs_goto (p := 61) (by decide +kernel) ?_
      refine hs_aret (cn := "KnobEye$Node") (by decide +kernel) ?_
      have hw2 : ¬ wd = 2 := fun h => q35 (hwt.trans h)
      refine ⟨_, _, _, _, _, rfl, hx0, hH, rx_out hX, ?_, hJ⟩
      rw [sp_tag_o hw2]
      exact ⟨x + 1, _, rfl, (by omega), (by omega), e25, r2, rfl, k_G_2, ⟨⟨⟨Nat.le_refl _, lt_G_2⟩, .inl ⟨wat L x, 0, w12, by decide, e5, e15, n5_0, by rw [hwt]; exact funext (fun e => (if_neg hw2).symm)⟩⟩, n1_0⟩⟩
    · have q35 : (wat L x) = 2 := Value.ref.inj (Decidable.of_not_not q35)
      refine hs_aload (i := 1) (p := 39) (by decide +kernel) rfl ?_
      refine hs_aload (i := 0) (p := 40) (by decide +kernel) rfl ?_
      refine hs_k (x := Int32.ofNat 15) (p := 42) (by decide +kernel) ?_
      have hHo := hH
      refine ht_callv (T := et_TT) (t := 7) (mi := 83) (na := 1) (ci := 5) (lk := 2) (lm := 3) (L0 := eg_en (eg_mL 83) [.ref rd, .int (Int32.ofNat 15)]) (by decide +kernel) rfl hH k_rd rfl rfl rfl rfl rfl (by rw [show eg_mL 83 = 3 from by decide +kernel]; first | done | rfl) ?_
      refine (fc_tn hH k_rd htk htl e25 (by omega) r2 (by decide) (by omega)).mono (fun u hu => xw_cb hu (fun G42 v42 hH x42 hP42 => ?_))
      have hJ := hJ.xs hHo k_rd x42 (fun a j hs => ⟨fun _ => by first | omega | (dsimp only at hs; omega), fun k6 => by have e9 : a = rd := (by first | omega | (dsimp only at hs; omega)); rw [e9, k_rd] at k6; exact nomatch k6⟩)
      have n1_0 := (x42.2 G.2 1 lt_G_2 (fun h => Or.elim h (fun h => (hi_ne k_G_2 k_rd (by decide)) h.1) (fun h => (hi_ne k_G_2 k_rd (by decide)) h.1))).trans n1_0
      have n2_0 := (x42.2 G.2 2 lt_G_2 (fun h => Or.elim h (fun h => (hi_ne k_G_2 k_rd (by decide)) h.1) (fun h => (hi_ne k_G_2 k_rd (by decide)) h.1))).trans n2_0
      have n3_0 := (x42.2 G.2 3 lt_G_2 (fun h => Or.elim h (fun h => (hi_ne k_G_2 k_rd (by decide)) h.1) (fun h => (hi_ne k_G_2 k_rd (by decide)) h.1))).trans n3_0
      have e15 := (x42.2 G.2 4 lt_G_2 (fun h => Or.elim h (fun h => (hi_ne k_G_2 k_rd (by decide)) h.1) (fun h => (hi_ne k_G_2 k_rd (by decide)) h.1))).trans e15
      have n5_0 := (x42.2 G.2 5 lt_G_2 (fun h => Or.elim h (fun h => (hi_ne k_G_2 k_rd (by decide)) h.1) (fun h => (hi_ne k_G_2 k_rd (by decide)) h.1))).trans n5_0
      have e5 := (x42.2 G.2 0 lt_G_2 (fun h => Or.elim h (fun h => (hi_ne k_G_2 k_rd (by decide)) h.1) (fun h => (hi_ne k_G_2 k_rd (by decide)) h.1))).trans e5
      have lt_rd := Nat.lt_of_lt_of_le lt_rd x42.1
      have lt_G_2 := Nat.lt_of_lt_of_le lt_G_2 x42.1
      have hX := hX.tr x42 (fun b j hb h => by first | omega | (dsimp only at h ⊢; omega) | (dsimp only at h; omega) | (dsimp only; omega))
      have m42 := x42.1
      have htk := htk.xf hHo k_rd et_ex.rf x42 (fun a j hs => .inl (by first | omega | (dsimp only at hs; omega)))
      rcases hP42 with ⟨v42, tv42, tm42, rfl, t842, t242⟩ | ⟨tv42, rfl, t842, q42, hq42, t242⟩
      · have tl42 := (List.getElem?_eq_some_iff.mp tv42).1
        show et_go none _ 82 45 _ [.int (Int32.ofNat v42), .ref G.2] _ _ _ _
        have hHo := hH
        refine hf_put (T := et_TT) (t := 6) (ci := 4) (f := 5) (p := 48) (ty := .int) (by decide +kernel) rfl rfl rfl rfl rfl hH k_G_2 hi_any (fun G45 hH x45 e45 => ?_)
        have hJ := hJ.xs hHo k_rd x45 (fun a j hs => ⟨fun e9 => absurd (hs.1.symm.trans e9) (hi_ne k_G_2 k_rd (by decide)), fun _ => by have h9 := hs.2; omega⟩)
        have t842 := (x45.2 rd 8 lt_rd (fun h => (hi_ne k_rd k_G_2 (by decide)) h.1)).trans t842
        have t242 := (x45.2 rd 2 lt_rd (fun h => (hi_ne k_rd k_G_2 (by decide)) h.1)).trans t242
        have n1_0 := (x45.2 G.2 1 lt_G_2 (fun h => absurd h.2 (by decide))).trans n1_0
        have n2_0 := (x45.2 G.2 2 lt_G_2 (fun h => absurd h.2 (by decide))).trans n2_0
        have n3_0 := (x45.2 G.2 3 lt_G_2 (fun h => absurd h.2 (by decide))).trans n3_0
        have e15 := (x45.2 G.2 4 lt_G_2 (fun h => absurd h.2 (by decide))).trans e15
        have e5 := (x45.2 G.2 0 lt_G_2 (fun h => absurd h.2 (by decide))).trans e5
        have lt_rd := Nat.lt_of_lt_of_le lt_rd x45.1
        have lt_G_2 := Nat.lt_of_lt_of_le lt_G_2 x45.1
        have hX := hX.tr x45 (fun b j hb h => by first | omega | (dsimp only at h ⊢; omega) | (dsimp only at h; omega) | (dsimp only; omega))
        have m45 := x45.1
        have htk := htk.xf hHo k_rd et_ex.rf x45 (fun a j hs => .inr (.inl (by have e := hs.1; rw [e]; exact k_G_2)))
        refine hs_aload (i := 0) (p := 49) (by decide +kernel) rfl ?_
        refine hf_get (T := et_TT) (t := 7) (ci := 5) (f := 2) (p := 52) (by decide +kernel) rfl hH k_rd t242 ?_
        refine hs_k (x := (-1)) (p := 53) (by decide +kernel) ?_
        refine hs_br2 (c := .ne) (t := 60) (f := 56) (by decide +kernel) (fun hz => absurd rfl hz) (fun _ => ?_)
        refine hs_aload (i := 1) (p := 57) (by decide +kernel) rfl ?_
        refine hs_goto (p := 61) (by decide +kernel) ?_
        refine hs_aret (cn := "KnobEye$Node") (by decide +kernel) ?_
        obtain rfl : wd = 2 := hwt.symm.trans q35
        refine ⟨_, _, _, _, _, rfl, hx0, hH, rx_out hX, ?_, hJ⟩
        rw [sp_tag_c tv42 tm42]
        exact ⟨x + 2, _, rfl, (by omega), (by omega), t842, t242, rfl, k_G_2, ⟨⟨⟨Nat.le_refl _, lt_G_2⟩, .inl ⟨wat L x, _, w12, tm42, e5, e15, e45, by rw [q35]; rfl⟩⟩, n1_0⟩⟩
      · show et_go none _ 82 45 _ [.int (-1), .ref G.2] _ _ _ _
        have hHo := hH
        refine hf_put (T := et_TT) (t := 6) (ci := 4) (f := 5) (p := 48) (ty := .int) (by decide +kernel) rfl rfl rfl rfl rfl hH k_G_2 (hi_iv (by decide) (by decide)) (fun G45 hH x45 e45 => ?_)
        have hJ := hJ.xs hHo k_rd x45 (fun a j hs => ⟨fun e9 => absurd (hs.1.symm.trans e9) (hi_ne k_G_2 k_rd (by decide)), fun _ => by have h9 := hs.2; omega⟩)
        have t842 := (x45.2 rd 8 lt_rd (fun h => (hi_ne k_rd k_G_2 (by decide)) h.1)).trans t842
        have t242 := (x45.2 rd 2 lt_rd (fun h => (hi_ne k_rd k_G_2 (by decide)) h.1)).trans t242
        have n1_0 := (x45.2 G.2 1 lt_G_2 (fun h => absurd h.2 (by decide))).trans n1_0
        have n2_0 := (x45.2 G.2 2 lt_G_2 (fun h => absurd h.2 (by decide))).trans n2_0
        have n3_0 := (x45.2 G.2 3 lt_G_2 (fun h => absurd h.2 (by decide))).trans n3_0
        have e15 := (x45.2 G.2 4 lt_G_2 (fun h => absurd h.2 (by decide))).trans e15
        have e5 := (x45.2 G.2 0 lt_G_2 (fun h => absurd h.2 (by decide))).trans e5
        have lt_rd := Nat.lt_of_lt_of_le lt_rd x45.1
        have lt_G_2 := Nat.lt_of_lt_of_le lt_G_2 x45.1
        have hX := hX.tr x45 (fun b j hb h => by first | omega | (dsimp only at h ⊢; omega) | (dsimp only at h; omega) | (dsimp only; omega))
        have m45 := x45.1
        have htk := htk.xf hHo k_rd et_ex.rf x45 (fun a j hs => .inr (.inl (by have e := hs.1; rw [e]; exact k_G_2)))
        refine hs_aload (i := 0) (p := 49) (by decide +kernel) rfl ?_
        refine hf_get (T := et_TT) (t := 7) (ci := 5) (f := 2) (p := 52) (by decide +kernel) rfl hH k_rd t242 ?_
        refine hs_k (x := (-1)) (p := 53) (by decide +kernel) ?_
        refine hs_br2 (c := .ne) (t := 60) (f := 56) (by decide +kernel) (fun _ => ?_) (fun hz => absurd (show ¬ ((Int32.ofNat q42 : Int32) = (-1)) from xi_nm1 (by omega)) hz)
        refine hs_nul (p := 61) (by decide +kernel) ?_
        refine hs_aretN (cn := "KnobEye$Node") (by decide +kernel) ?_
        obtain rfl : wd = 2 := hwt.symm.trans q35
        refine ⟨_, _, _, _, _, rfl, hx0, hH, rx_out hX, ?_, hJ⟩
        rw [sp_tag_n tv42]
        exact ⟨rfl, _, (by omega), t242⟩
  · exact absurd (by rw [hwt]; exact htw) w12
theorem fnj_sum {i a b ck sk y n hi : Nat} {f : sp_E → Int64} {x4 x5 : Option Value} (hH : et_H et_TT K G) (hx0 : et_ex K0 K) (hX : xf (fun b j => (b = rd ∧ (2 ≤ j ∧ j ≤ 3)) ∨ (b = rd ∧ j = 8)) G0 G) (k_rd : K rd = some 7) (htk : tk K G rd L) (htl : tl L) (r8 : et_pl (eg_at G rd) 8 = some (.int (Int32.ofNat y))) (hy : y ≤ L.length) (r2 : et_pl (eg_at G rd) 2 = some (.int (-1))) (lr0 : rd < G0.2) (hxy : x ≤ y) (hJ : jR K G rd lo0) (k_a : K a = some 6) (k_b : K b = some 6) (hI : sI G G0.2 hi a b f) (hh : hi ≤ G.2) (nb : kpl G b 1 .null) (hn : L.length - y < n) (hck : ck ≤ 807 * i) (hsk : sk ≤ 6 * ck) (hiy : 2 * i ≤ y) : et_go none (d + 2) 81 6 [some (.ref rd), some (.ref a), some (.ref b), some (.int (Int32.ofNat i)), x4, x5] [] G ck sk (fzJ lo0 rd L x K0 G0 (fS G0.2) (sp_lp sp_part 27 (fun f g e => f e + g e) n f (L.drop y))) := by
  induction hm : L.length - y using Nat.strongRecOn generalizing i b ck sk y n hi f x4 x5 K G with
  | _ z ih =>
    obtain ⟨ta, ba, na, ⟨k_ta, k_ba, k_na⟩, ⟨r4, r5, r6, r7⟩, hl4, -⟩ := id htk
    have hbd := hI.bd
    have mX := hX.1
    have lt_rd := (hH.2.2 _ _ k_rd).1
    have lt_na := (hH.2.2 _ _ k_na).1
    have lt_a := (hH.2.2 _ _ k_a).1
    have lt_b := (hH.2.2 _ _ k_b).1
    refine hs_iload (i := 3) (p := 7) (by decide +kernel) rfl ?_
    refine hs_k (x := Int32.ofNat 400) (p := 10) (by decide +kernel) ?_
    refine hs_br2n (c := .ge) (t := 243) (f := 13) (by decide +kernel) (by omega) (by omega) (fun (c10 : 400 ≤ i) => ?_) (fun (c10 : ¬ (400 ≤ i)) => ?_)
    · exact absurd c10 (by omega)
    · have hHo := hH
      refine hf_newNJ (p := 16) (by decide +kernel) (by omega) (by omega) hH (fun KK13 GG13 hxx13 x13 hH k_G_2 mm13 hf13 kj13 => ?_)
      have hJ := hJ.nw hHo k_rd x13 hf13.2.2.2.1 kj13
      have r8 := (x13.2 rd 8 lt_rd (fun h => h)).trans r8
      have r2 := (x13.2 rd 2 lt_rd (fun h => h)).trans r2
      have r6 := (x13.2 rd 6 lt_rd (fun h => h)).trans r6
      have r7 := (x13.2 rd 7 lt_rd (fun h => h)).trans r7
      have nb := (x13.2 b 1 lt_b (fun h => h)).trans nb
      have lt_rd := Nat.lt_of_lt_of_le lt_rd x13.1
      have lt_na := Nat.lt_of_lt_of_le lt_na x13.1
      have lt_a := Nat.lt_of_lt_of_le lt_a x13.1
      have lt_b := Nat.lt_of_lt_of_le lt_b x13.1
      have hX := hX.tr x13 (fun b j hb h => h.elim)
      have m13 := x13.1
      have htk := htk.xf hHo k_rd hxx13 x13 (fun a j hs => absurd hs id)
      have hI := hI.fr (x13.agf (lo := G0.2) (hi := hi) (by omega) (fun a j h1 h2 hs => by exact hs))
      have k_rd := hxx13 _ _ k_rd
      have k_na := hxx13 _ _ k_na
      have k_a := hxx13 _ _ k_a
      have k_b := hxx13 _ _ k_b
      have hx0 := hx0.tr hxx13
      have lt_G_2 : G.2 < GG13.2 := by omega
      obtain ⟨n1_13, n2_13, n3_13, n4_13, n5_13⟩ := hf13
      refine hs_dup1 (p := 17) (by decide +kernel) ?_
      refine hs_k (x := Int32.ofNat 6) (p := 19) (by decide +kernel) ?_
      have hHo := hH
      refine hs_callp (mi := 61) (na := 1) (lk := 6) (lm := 2) (L0 := eg_en (eg_mL 61) [.ref G.2, .int (Int32.ofNat 6)]) (by decide +kernel) rfl rfl rfl rfl rfl (by rw [show eg_mL 61 = 2 from by decide +kernel]; first | done | rfl) ?_
      refine (fc_nod hH k_G_2).mono (fun u hu => xw_cb hu (fun G19 v19 hH x19 hP19 => ?_))
      have hJ := hJ.xs hHo k_rd x19 (fun a j hs => ⟨fun e9 => absurd (hs.1.symm.trans e9) (hi_ne k_G_2 k_rd (by decide)), fun _ => by have h9 := hs.2; omega⟩)
      have r8 := (x19.2 rd 8 lt_rd (fun h => (hi_ne k_rd k_G_2 (by decide)) h.1)).trans r8
      have r2 := (x19.2 rd 2 lt_rd (fun h => (hi_ne k_rd k_G_2 (by decide)) h.1)).trans r2
      have r6 := (x19.2 rd 6 lt_rd (fun h => (hi_ne k_rd k_G_2 (by decide)) h.1)).trans r6
      have r7 := (x19.2 rd 7 lt_rd (fun h => (hi_ne k_rd k_G_2 (by decide)) h.1)).trans r7
      have nb := (x19.2 b 1 lt_b (fun h => (show ¬ b = G.2 by omega) h.1)).trans nb
      have n1_13 := (x19.2 G.2 1 lt_G_2 (fun h => absurd h.2 (by decide))).trans n1_13
      have n2_13 := (x19.2 G.2 2 lt_G_2 (fun h => absurd h.2 (by decide))).trans n2_13
      have n3_13 := (x19.2 G.2 3 lt_G_2 (fun h => absurd h.2 (by decide))).trans n3_13
      have n4_13 := (x19.2 G.2 4 lt_G_2 (fun h => absurd h.2 (by decide))).trans n4_13
      have n5_13 := (x19.2 G.2 5 lt_G_2 (fun h => absurd h.2 (by decide))).trans n5_13
      have lt_rd := Nat.lt_of_lt_of_le lt_rd x19.1
      have lt_na := Nat.lt_of_lt_of_le lt_na x19.1
      have lt_a := Nat.lt_of_lt_of_le lt_a x19.1
      have lt_b := Nat.lt_of_lt_of_le lt_b x19.1
      have lt_G_2 := Nat.lt_of_lt_of_le lt_G_2 x19.1
      have hX := hX.tr x19 (fun b j hb h => by first | omega | (dsimp only at h ⊢; omega) | (dsimp only at h; omega) | (dsimp only; omega))
      have m19 := x19.1
      have htk := htk.xf hHo k_rd et_ex.rf x19 (fun a j hs => .inr (.inl (by have e := hs.1; rw [e]; exact k_G_2)))
      have hI := hI.fr (x19.agf (lo := G0.2) (hi := hi) (by omega) (fun a j h1 h2 hs => by first | omega | (dsimp only at hs; omega)))
      obtain ⟨rfl, e19⟩ := hP19
      show et_go none _ 81 22 _ [.ref G.2] _ _ _ _
      refine hs_astore (i := 4) (p := 24) (by decide +kernel) (Nat.le_of_ble_eq_true rfl) ?_
      refine hs_aload (i := 4) (p := 26) (by decide +kernel) rfl ?_
      refine hs_k (x := Int32.ofNat 1) (p := 27) (by decide +kernel) ?_
      have hHo := hH
      refine hf_put (T := et_TT) (t := 6) (ci := 4) (f := 5) (p := 30) (ty := .int) (by decide +kernel) rfl rfl rfl rfl rfl hH k_G_2 hi_any (fun G27 hH x27 e27 => ?_)
      have hJ := hJ.xs hHo k_rd x27 (fun a j hs => ⟨fun e9 => absurd (hs.1.symm.trans e9) (hi_ne k_G_2 k_rd (by decide)), fun _ => by have h9 := hs.2; omega⟩)
      have r8 := (x27.2 rd 8 lt_rd (fun h => (hi_ne k_rd k_G_2 (by decide)) h.1)).trans r8
      have r2 := (x27.2 rd 2 lt_rd (fun h => (hi_ne k_rd k_G_2 (by decide)) h.1)).trans r2
      have r6 := (x27.2 rd 6 lt_rd (fun h => (hi_ne k_rd k_G_2 (by decide)) h.1)).trans r6
      have r7 := (x27.2 rd 7 lt_rd (fun h => (hi_ne k_rd k_G_2 (by decide)) h.1)).trans r7
      have nb := (x27.2 b 1 lt_b (fun h => (show ¬ b = G.2 by omega) h.1)).trans nb
      have n1_13 := (x27.2 G.2 1 lt_G_2 (fun h => absurd h.2 (by decide))).trans n1_13
      have n2_13 := (x27.2 G.2 2 lt_G_2 (fun h => absurd h.2 (by decide))).trans n2_13
      have n3_13 := (x27.2 G.2 3 lt_G_2 (fun h => absurd h.2 (by decide))).trans n3_13
      have n4_13 := (x27.2 G.2 4 lt_G_2 (fun h => absurd h.2 (by decide))).trans n4_13
      have e19 := (x27.2 G.2 0 lt_G_2 (fun h => absurd h.2 (by decide))).trans e19
      have lt_rd := Nat.lt_of_lt_of_le lt_rd x27.1
      have lt_na := Nat.lt_of_lt_of_le lt_na x27.1
      have lt_a := Nat.lt_of_lt_of_le lt_a x27.1
      have lt_b := Nat.lt_of_lt_of_le lt_b x27.1
      have lt_G_2 := Nat.lt_of_lt_of_le lt_G_2 x27.1
      have hX := hX.tr x27 (fun b j hb h => by first | omega | (dsimp only at h ⊢; omega) | (dsimp only at h; omega) | (dsimp only; omega))
      have m27 := x27.1
      have htk := htk.xf hHo k_rd et_ex.rf x27 (fun a j hs => .inr (.inl (by have e := hs.1; rw [e]; exact k_G_2)))
      have hI := hI.fr (x27.agf (lo := G0.2) (hi := hi) (by omega) (fun a j h1 h2 hs => by first | omega | (dsimp only at hs; omega)))
      refine hs_aload (i := 0) (p := 31) (by decide +kernel) rfl ?_
      refine hs_gst (v := Value.ref 33) (p := 34) (by decide +kernel) ?_
      refine ht_callv (T := et_TT) (t := 7) (mi := 78) (na := 1) (ci := 5) (lk := 6) (lm := 2) (L0 := eg_en (eg_mL 78) [.ref rd, .ref 33]) (by decide +kernel) rfl hH k_rd rfl rfl rfl rfl rfl (by rw [show eg_mL 78 = 2 from by decide +kernel]; first | done | rfl) ?_
      refine (fc_is hH k_rd htk htl r8 (by omega) (wd := 33) (by decide)).mono (fun u hu => xp_cb hu ?_)
      by_cases i34 : wat L y = 33
      · rw [if_pos i34]
        have il34 : y < L.length := wat_i (by rw [i34]; decide)
        show et_go none _ 81 37 _ [.int (Int32.ofNat 1)] _ _ _ _
        refine hs_if1 (c := .ne) (t := 44) (f := 40) (by decide +kernel) (show ¬ Int32.ofNat 1 = 0 by decide) ?_
        refine hs_k (x := Int32.ofNat 0) (p := 45) (by decide +kernel) ?_
        refine hs_istore (i := 5) (p := 47) (by decide +kernel) (Nat.le_of_ble_eq_true rfl) ?_
        refine hs_iload (i := 5) (p := 49) (by decide +kernel) rfl ?_
        refine hs_if0 (c := .ne) (t := 132) (f := 52) (by decide +kernel) (show ¬ (¬ Int32.ofNat 0 = 0) by decide) ?_
        refine hs_aload (i := 4) (p := 54) (by decide +kernel) rfl ?_
        refine hs_aload (i := 0) (p := 55) (by decide +kernel) rfl ?_
        refine hf_get (T := et_TT) (t := 7) (ci := 5) (f := 8) (p := 58) (by decide +kernel) rfl hH k_rd r8 ?_
        refine hs_aload (i := 0) (p := 59) (by decide +kernel) rfl ?_
        refine hf_get (T := et_TT) (t := 7) (ci := 5) (f := 7) (p := 62) (by decide +kernel) rfl hH k_rd r7 ?_
        refine hs_br2n (c := .ge) (t := 77) (f := 65) (by decide +kernel) (by omega) (by omega) (fun (c62 : (L.length + 1) ≤ y) => ?_) (fun (c62 : ¬ ((L.length + 1) ≤ y)) => ?_)
        · exact absurd c62 (by omega)
        · refine hs_aload (i := 0) (p := 66) (by decide +kernel) rfl ?_
          refine hf_get (T := et_TT) (t := 7) (ci := 5) (f := 6) (p := 69) (by decide +kernel) rfl hH k_rd r6 ?_
          refine hs_aload (i := 0) (p := 70) (by decide +kernel) rfl ?_
          refine hf_get (T := et_TT) (t := 7) (ci := 5) (f := 8) (p := 73) (by decide +kernel) rfl hH k_rd r8 ?_
          obtain ⟨nn, hnn, hxl⟩ := wat_t i34 (by decide)
          have htn := htk.n hnn r6
          cases nn with
          | none =>
            have htn : et_pl (eg_at G27 na) y = some (.int (-1)) := htn
            refine hf_ald (ins := .iaload) (T := et_TT) (t := 21) (kd := 0) (N := 401) (p := 74) (by decide +kernel) (fun _ _ _ _ _ _ _ _ _ _ => rfl) rfl rfl rfl hH k_na (by decide) htn ?_
            refine hs_goto (p := 78) (by decide +kernel) ?_
            have hHo := hH
            refine hf_put (T := et_TT) (t := 6) (ci := 4) (f := 5) (p := 81) (ty := .int) (by decide +kernel) rfl rfl rfl rfl rfl hH k_G_2 (hi_iv (by decide) (by decide)) (fun G78 hH x78 e78 => ?_)
            have hJ := hJ.xs hHo k_rd x78 (fun a j hs => ⟨fun e9 => absurd (hs.1.symm.trans e9) (hi_ne k_G_2 k_rd (by decide)), fun _ => by have h9 := hs.2; omega⟩)
            have r8 := (x78.2 rd 8 lt_rd (fun h => (hi_ne k_rd k_G_2 (by decide)) h.1)).trans r8
            have r2 := (x78.2 rd 2 lt_rd (fun h => (hi_ne k_rd k_G_2 (by decide)) h.1)).trans r2
            have r6 := (x78.2 rd 6 lt_rd (fun h => (hi_ne k_rd k_G_2 (by decide)) h.1)).trans r6
            have r7 := (x78.2 rd 7 lt_rd (fun h => (hi_ne k_rd k_G_2 (by decide)) h.1)).trans r7
            have nb := (x78.2 b 1 lt_b (fun h => (show ¬ b = G.2 by omega) h.1)).trans nb
            have n1_13 := (x78.2 G.2 1 lt_G_2 (fun h => absurd h.2 (by decide))).trans n1_13
            have n2_13 := (x78.2 G.2 2 lt_G_2 (fun h => absurd h.2 (by decide))).trans n2_13
            have n3_13 := (x78.2 G.2 3 lt_G_2 (fun h => absurd h.2 (by decide))).trans n3_13
            have n4_13 := (x78.2 G.2 4 lt_G_2 (fun h => absurd h.2 (by decide))).trans n4_13
            have e19 := (x78.2 G.2 0 lt_G_2 (fun h => absurd h.2 (by decide))).trans e19
            have lt_rd := Nat.lt_of_lt_of_le lt_rd x78.1
            have lt_na := Nat.lt_of_lt_of_le lt_na x78.1
            have lt_a := Nat.lt_of_lt_of_le lt_a x78.1
            have lt_b := Nat.lt_of_lt_of_le lt_b x78.1
            have lt_G_2 := Nat.lt_of_lt_of_le lt_G_2 x78.1
            have hX := hX.tr x78 (fun b j hb h => by first | omega | (dsimp only at h ⊢; omega) | (dsimp only at h; omega) | (dsimp only; omega))
            have m78 := x78.1
            have htk := htk.xf hHo k_rd et_ex.rf x78 (fun a j hs => .inr (.inl (by have e := hs.1; rw [e]; exact k_G_2)))
            have hI := hI.fr (x78.agf (lo := G0.2) (hi := hi) (by omega) (fun a j h1 h2 hs => by first | omega | (dsimp only at hs; omega)))
            refine hs_aload (i := 4) (p := 83) (by decide +kernel) rfl ?_
            refine hf_get (T := et_TT) (t := 6) (ci := 4) (f := 5) (p := 86) (by decide +kernel) rfl hH k_G_2 e78 ?_
            refine hs_if0 (c := .ge) (t := 94) (f := 89) (by decide +kernel) (show ¬ (0 ≤ (-1 : Int32)) by decide) ?_
            refine hs_aload (i := 0) (p := 90) (by decide +kernel) rfl ?_
            have hHo := hH
            refine ht_callv (T := et_TT) (t := 7) (mi := 76) (na := 0) (ci := 5) (lk := 6) (lm := 1) (L0 := eg_en (eg_mL 76) [.ref rd]) (by decide +kernel) rfl hH k_rd rfl rfl rfl rfl rfl (by rw [show eg_mL 76 = 1 from by decide +kernel]; first | done | rfl) ?_
            refine (fc_fail hH k_rd htk htl r8 (by omega) r2).mono (fun u hu => xw_cb hu (fun G90 v90 hH x90 hP90 => ?_))
            have hJ := hJ.xs hHo k_rd x90 (fun a j hs => ⟨fun _ => by first | omega | (dsimp only at hs; omega), fun k6 => by have e9 : a = rd := (by first | omega | (dsimp only at hs; omega)); rw [e9, k_rd] at k6; exact nomatch k6⟩)
            have r8 := (x90.2 rd 8 lt_rd (fun h => absurd h.2 (by decide))).trans r8
            have r6 := (x90.2 rd 6 lt_rd (fun h => absurd h.2 (by decide))).trans r6
            have r7 := (x90.2 rd 7 lt_rd (fun h => absurd h.2 (by decide))).trans r7
            have nb := (x90.2 b 1 lt_b (fun h => (hi_ne k_b k_rd (by decide)) h.1)).trans nb
            have n1_13 := (x90.2 G.2 1 lt_G_2 (fun h => (hi_ne k_G_2 k_rd (by decide)) h.1)).trans n1_13
            have n2_13 := (x90.2 G.2 2 lt_G_2 (fun h => (hi_ne k_G_2 k_rd (by decide)) h.1)).trans n2_13
            have n3_13 := (x90.2 G.2 3 lt_G_2 (fun h => (hi_ne k_G_2 k_rd (by decide)) h.1)).trans n3_13
            have n4_13 := (x90.2 G.2 4 lt_G_2 (fun h => (hi_ne k_G_2 k_rd (by decide)) h.1)).trans n4_13
            have e78 := (x90.2 G.2 5 lt_G_2 (fun h => (hi_ne k_G_2 k_rd (by decide)) h.1)).trans e78
            have e19 := (x90.2 G.2 0 lt_G_2 (fun h => (hi_ne k_G_2 k_rd (by decide)) h.1)).trans e19
            have lt_rd := Nat.lt_of_lt_of_le lt_rd x90.1
            have lt_na := Nat.lt_of_lt_of_le lt_na x90.1
            have lt_a := Nat.lt_of_lt_of_le lt_a x90.1
            have lt_b := Nat.lt_of_lt_of_le lt_b x90.1
            have lt_G_2 := Nat.lt_of_lt_of_le lt_G_2 x90.1
            have hX := hX.tr x90 (fun b j hb h => by first | omega | (dsimp only at h ⊢; omega) | (dsimp only at h; omega) | (dsimp only; omega))
            have m90 := x90.1
            have htk := htk.xf hHo k_rd et_ex.rf x90 (fun a j hs => .inl (by first | omega | (dsimp only at hs; omega)))
            have hI := hI.fr (x90.agf (lo := G0.2) (hi := hi) (by omega) (fun a j h1 h2 hs => by first | omega | (dsimp only at hs; omega)))
            obtain ⟨rfl, q90, hq90, e90⟩ := hP90
            show et_go none _ 81 93 _ [.null] _ _ _ _
            refine hs_aretN (cn := "KnobEye$Node") (by decide +kernel) ?_
            refine ⟨_, _, _, _, _, rfl, hx0, hH, rx_out hX, ?_, hJ⟩
            rw [show sp_lp sp_part 27 (fun f g e => f e + g e) n f (L.drop y) = none from sp_lp_0 (sp_part_0 hnn)]
            exact ⟨rfl, _, (by omega), e90⟩
          | some vv =>
            have htn : et_pl (eg_at G27 na) y = some (.int (Int32.ofNat vv)) := htn
            have hvv := (htl _ (List.mem_of_getElem? hnn)).2 vv rfl
            refine hf_ald (ins := .iaload) (T := et_TT) (t := 21) (kd := 0) (N := 401) (p := 74) (by decide +kernel) (fun _ _ _ _ _ _ _ _ _ _ => rfl) rfl rfl rfl hH k_na (by decide) htn ?_
            refine hs_goto (p := 78) (by decide +kernel) ?_
            have hHo := hH
            refine hf_put (T := et_TT) (t := 6) (ci := 4) (f := 5) (p := 81) (ty := .int) (by decide +kernel) rfl rfl rfl rfl rfl hH k_G_2 hi_any (fun G78 hH x78 e78 => ?_)
            have hJ := hJ.xs hHo k_rd x78 (fun a j hs => ⟨fun e9 => absurd (hs.1.symm.trans e9) (hi_ne k_G_2 k_rd (by decide)), fun _ => by have h9 := hs.2; omega⟩)
            have r8 := (x78.2 rd 8 lt_rd (fun h => (hi_ne k_rd k_G_2 (by decide)) h.1)).trans r8
            have r2 := (x78.2 rd 2 lt_rd (fun h => (hi_ne k_rd k_G_2 (by decide)) h.1)).trans r2
            have r6 := (x78.2 rd 6 lt_rd (fun h => (hi_ne k_rd k_G_2 (by decide)) h.1)).trans r6
            have r7 := (x78.2 rd 7 lt_rd (fun h => (hi_ne k_rd k_G_2 (by decide)) h.1)).trans r7
            have nb := (x78.2 b 1 lt_b (fun h => (show ¬ b = G.2 by omega) h.1)).trans nb
            have n1_13 := (x78.2 G.2 1 lt_G_2 (fun h => absurd h.2 (by decide))).trans n1_13
            have n2_13 := (x78.2 G.2 2 lt_G_2 (fun h => absurd h.2 (by decide))).trans n2_13
            have n3_13 := (x78.2 G.2 3 lt_G_2 (fun h => absurd h.2 (by decide))).trans n3_13
            have n4_13 := (x78.2 G.2 4 lt_G_2 (fun h => absurd h.2 (by decide))).trans n4_13
            have e19 := (x78.2 G.2 0 lt_G_2 (fun h => absurd h.2 (by decide))).trans e19
            have lt_rd := Nat.lt_of_lt_of_le lt_rd x78.1
            have lt_na := Nat.lt_of_lt_of_le lt_na x78.1
            have lt_a := Nat.lt_of_lt_of_le lt_a x78.1
            have lt_b := Nat.lt_of_lt_of_le lt_b x78.1
            have lt_G_2 := Nat.lt_of_lt_of_le lt_G_2 x78.1
            have hX := hX.tr x78 (fun b j hb h => by first | omega | (dsimp only at h ⊢; omega) | (dsimp only at h; omega) | (dsimp only; omega))
            have m78 := x78.1
            have htk := htk.xf hHo k_rd et_ex.rf x78 (fun a j hs => .inr (.inl (by have e := hs.1; rw [e]; exact k_G_2)))
            have hI := hI.fr (x78.agf (lo := G0.2) (hi := hi) (by omega) (fun a j h1 h2 hs => by first | omega | (dsimp only at hs; omega)))
            refine hs_aload (i := 4) (p := 83) (by decide +kernel) rfl ?_
            refine hf_get (T := et_TT) (t := 6) (ci := 4) (f := 5) (p := 86) (by decide +kernel) rfl hH k_G_2 e78 ?_
            refine hs_if1 (c := .ge) (t := 94) (f := 89) (by decide +kernel) (rs_ng (by omega)) ?_
            refine hs_aload (i := 0) (p := 95) (by decide +kernel) rfl ?_
            refine hs_dup1 (p := 96) (by decide +kernel) ?_
            refine hf_get (T := et_TT) (t := 7) (ci := 5) (f := 8) (p := 99) (by decide +kernel) rfl hH k_rd r8 ?_
            refine hs_k (x := Int32.ofNat 1) (p := 100) (by decide +kernel) ?_
            refine hs_iaddn (p := 101) (by decide +kernel) ?_
            have hHo := hH
            refine hf_put (T := et_TT) (t := 7) (ci := 5) (f := 8) (p := 104) (ty := .int) (by decide +kernel) rfl rfl rfl rfl rfl hH k_rd (hi_nv (by omega) (by omega)) (fun G101 hH x101 e101 => ?_)
            have hJ := hJ.xs hHo k_rd x101 (fun a j hs => ⟨fun _ => by first | omega | (dsimp only at hs; omega), fun k6 => by have e9 : a = rd := (by first | omega | (dsimp only at hs; omega)); rw [e9, k_rd] at k6; exact nomatch k6⟩)
            have r2 := (x101.2 rd 2 lt_rd (fun h => absurd h.2 (by decide))).trans r2
            have r6 := (x101.2 rd 6 lt_rd (fun h => absurd h.2 (by decide))).trans r6
            have r7 := (x101.2 rd 7 lt_rd (fun h => absurd h.2 (by decide))).trans r7
            have nb := (x101.2 b 1 lt_b (fun h => (hi_ne k_b k_rd (by decide)) h.1)).trans nb
            have n1_13 := (x101.2 G.2 1 lt_G_2 (fun h => (hi_ne k_G_2 k_rd (by decide)) h.1)).trans n1_13
            have n2_13 := (x101.2 G.2 2 lt_G_2 (fun h => (hi_ne k_G_2 k_rd (by decide)) h.1)).trans n2_13
            have n3_13 := (x101.2 G.2 3 lt_G_2 (fun h => (hi_ne k_G_2 k_rd (by decide)) h.1)).trans n3_13
            have n4_13 := (x101.2 G.2 4 lt_G_2 (fun h => (hi_ne k_G_2 k_rd (by decide)) h.1)).trans n4_13
            have e78 := (x101.2 G.2 5 lt_G_2 (fun h => (hi_ne k_G_2 k_rd (by decide)) h.1)).trans e78
            have e19 := (x101.2 G.2 0 lt_G_2 (fun h => (hi_ne k_G_2 k_rd (by decide)) h.1)).trans e19
            have lt_rd := Nat.lt_of_lt_of_le lt_rd x101.1
            have lt_na := Nat.lt_of_lt_of_le lt_na x101.1
            have lt_a := Nat.lt_of_lt_of_le lt_a x101.1
            have lt_b := Nat.lt_of_lt_of_le lt_b x101.1
            have lt_G_2 := Nat.lt_of_lt_of_le lt_G_2 x101.1
            have hX := hX.tr x101 (fun b j hb h => by first | omega | (dsimp only at h ⊢; omega) | (dsimp only at h; omega) | (dsimp only; omega))
            have m101 := x101.1
            have htk := htk.xf hHo k_rd et_ex.rf x101 (fun a j hs => .inl (by first | omega | (dsimp only at hs; omega)))
            have hI := hI.fr (x101.agf (lo := G0.2) (hi := hi) (by omega) (fun a j h1 h2 hs => by first | omega | (dsimp only at hs; omega)))
            have e101 : et_pl (eg_at G101 rd) 8 = some (.int (Int32.ofNat (y + 1))) := e101
            refine hs_aload (i := 0) (p := 105) (by decide +kernel) rfl ?_
            refine hs_gst (v := Value.ref 28) (p := 108) (by decide +kernel) ?_
            refine ht_callv (T := et_TT) (t := 7) (mi := 78) (na := 1) (ci := 5) (lk := 6) (lm := 2) (L0 := eg_en (eg_mL 78) [.ref rd, .ref 28]) (by decide +kernel) rfl hH k_rd rfl rfl rfl rfl rfl (by rw [show eg_mL 78 = 2 from by decide +kernel]; first | done | rfl) ?_
            refine (fc_is hH k_rd htk htl e101 (by omega) (wd := 28) (by decide)).mono (fun u hu => xp_cb hu ?_)
            by_cases i108 : wat L (y + 1) = 28
            · rw [if_pos i108]
              have il108 : (y + 1) < L.length := wat_i (by rw [i108]; decide)
              show et_go none _ 81 111 _ [.int (Int32.ofNat 1)] _ _ _ _
              refine hs_istore (i := 5) (p := 113) (by decide +kernel) (Nat.le_of_ble_eq_true rfl) ?_
              refine hs_aload (i := 0) (p := 114) (by decide +kernel) rfl ?_
              refine hs_dup1 (p := 115) (by decide +kernel) ?_
              refine hf_get (T := et_TT) (t := 7) (ci := 5) (f := 8) (p := 118) (by decide +kernel) rfl hH k_rd e101 ?_
              refine hs_iload (i := 5) (p := 120) (by decide +kernel) rfl ?_
              refine hs_if0 (c := .eq) (t := 127) (f := 123) (by decide +kernel) (show ¬ (Int32.ofNat 1 = 0) by decide) ?_
              refine hs_k (x := Int32.ofNat 1) (p := 124) (by decide +kernel) ?_
              refine hs_goto (p := 128) (by decide +kernel) ?_
              refine hs_iaddn (p := 129) (by decide +kernel) ?_
              have hHo := hH
              refine hf_put (T := et_TT) (t := 7) (ci := 5) (f := 8) (p := 132) (ty := .int) (by decide +kernel) rfl rfl rfl rfl rfl hH k_rd (hi_nv (by omega) (by omega)) (fun G129 hH x129 e129 => ?_)
              have hJ := hJ.xs hHo k_rd x129 (fun a j hs => ⟨fun _ => by first | omega | (dsimp only at hs; omega), fun k6 => by have e9 : a = rd := (by first | omega | (dsimp only at hs; omega)); rw [e9, k_rd] at k6; exact nomatch k6⟩)
              have r2 := (x129.2 rd 2 lt_rd (fun h => absurd h.2 (by decide))).trans r2
              have r6 := (x129.2 rd 6 lt_rd (fun h => absurd h.2 (by decide))).trans r6
              have r7 := (x129.2 rd 7 lt_rd (fun h => absurd h.2 (by decide))).trans r7
              have nb := (x129.2 b 1 lt_b (fun h => (hi_ne k_b k_rd (by decide)) h.1)).trans nb
              have n1_13 := (x129.2 G.2 1 lt_G_2 (fun h => (hi_ne k_G_2 k_rd (by decide)) h.1)).trans n1_13
              have n2_13 := (x129.2 G.2 2 lt_G_2 (fun h => (hi_ne k_G_2 k_rd (by decide)) h.1)).trans n2_13
              have n3_13 := (x129.2 G.2 3 lt_G_2 (fun h => (hi_ne k_G_2 k_rd (by decide)) h.1)).trans n3_13
              have n4_13 := (x129.2 G.2 4 lt_G_2 (fun h => (hi_ne k_G_2 k_rd (by decide)) h.1)).trans n4_13
              have e78 := (x129.2 G.2 5 lt_G_2 (fun h => (hi_ne k_G_2 k_rd (by decide)) h.1)).trans e78
              have e19 := (x129.2 G.2 0 lt_G_2 (fun h => (hi_ne k_G_2 k_rd (by decide)) h.1)).trans e19
              have lt_rd := Nat.lt_of_lt_of_le lt_rd x129.1
              have lt_na := Nat.lt_of_lt_of_le lt_na x129.1
              have lt_a := Nat.lt_of_lt_of_le lt_a x129.1
              have lt_b := Nat.lt_of_lt_of_le lt_b x129.1
              have lt_G_2 := Nat.lt_of_lt_of_le lt_G_2 x129.1
              have hX := hX.tr x129 (fun b j hb h => by first | omega | (dsimp only at h ⊢; omega) | (dsimp only at h; omega) | (dsimp only; omega))
              have m129 := x129.1
              have htk := htk.xf hHo k_rd et_ex.rf x129 (fun a j hs => .inl (by first | omega | (dsimp only at hs; omega)))
              have hI := hI.fr (x129.agf (lo := G0.2) (hi := hi) (by omega) (fun a j h1 h2 hs => by first | omega | (dsimp only at hs; omega)))
              have e129 : et_pl (eg_at G129 rd) 8 = some (.int (Int32.ofNat (y + 2))) := e129
              refine hs_iload (i := 5) (p := 134) (by decide +kernel) rfl ?_
              refine hs_if0 (c := .eq) (t := 195) (f := 137) (by decide +kernel) (show ¬ (Int32.ofNat 1 = 0) by decide) ?_
              refine hs_aload (i := 4) (p := 139) (by decide +kernel) rfl ?_
              refine hs_aload (i := 0) (p := 140) (by decide +kernel) rfl ?_
              refine hs_k (x := Int32.ofNat 2) (p := 141) (by decide +kernel) ?_
              refine ht_callv (T := et_TT) (t := 7) (mi := 79) (na := 1) (ci := 5) (lk := 6) (lm := 2) (L0 := eg_en (eg_mL 79) [.ref rd, .int (Int32.ofNat 2)]) (by decide +kernel) rfl hH k_rd rfl rfl rfl rfl rfl (by rw [show eg_mL 79 = 2 from by decide +kernel]; first | done | rfl) ?_
              refine (fc_wh2 hH k_rd htk htl e129 (by omega)).mono (fun u hu => xp_cb hu ?_)
              by_cases w141 : sp_fw (wat L (y + 2)) = true
              · rw [if_pos w141]
                obtain ⟨wn141, hwn, -⟩ := wat_t (L := L) (x := (y + 2)) rfl (fun h => by rw [h] at w141; exact absurd w141 (by decide))
                have il141 : (y + 2) < L.length := wat_i (fun h => by rw [h] at w141; exact absurd w141 (by decide))
                show et_go none _ 81 144 _ [.ref (wat L (y + 2)), .ref G.2] _ _ _ _
                have hHo := hH
                refine hf_put (T := et_TT) (t := 6) (ci := 4) (f := 4) (p := 147) (ty := (.object "KnobEye$Word")) (by decide +kernel) rfl rfl rfl rfl rfl hH k_G_2 (.inr ⟨by decide, _, rfl, hH.2.1 _ (wat_lt htl)⟩) (fun G144 hH x144 e144 => ?_)
                have hJX := hJ.wx hHo k_rd x144
                have e129 := (x144.2 rd 8 lt_rd (fun h => (hi_ne k_rd k_G_2 (by decide)) h.1)).trans e129
                have r2 := (x144.2 rd 2 lt_rd (fun h => (hi_ne k_rd k_G_2 (by decide)) h.1)).trans r2
                have r6 := (x144.2 rd 6 lt_rd (fun h => (hi_ne k_rd k_G_2 (by decide)) h.1)).trans r6
                have r7 := (x144.2 rd 7 lt_rd (fun h => (hi_ne k_rd k_G_2 (by decide)) h.1)).trans r7
                have nb := (x144.2 b 1 lt_b (fun h => (show ¬ b = G.2 by omega) h.1)).trans nb
                have n1_13 := (x144.2 G.2 1 lt_G_2 (fun h => absurd h.2 (by decide))).trans n1_13
                have n2_13 := (x144.2 G.2 2 lt_G_2 (fun h => absurd h.2 (by decide))).trans n2_13
                have n3_13 := (x144.2 G.2 3 lt_G_2 (fun h => absurd h.2 (by decide))).trans n3_13
                have e78 := (x144.2 G.2 5 lt_G_2 (fun h => absurd h.2 (by decide))).trans e78
                have e19 := (x144.2 G.2 0 lt_G_2 (fun h => absurd h.2 (by decide))).trans e19
                have lt_rd := Nat.lt_of_lt_of_le lt_rd x144.1
                have lt_na := Nat.lt_of_lt_of_le lt_na x144.1
                have lt_a := Nat.lt_of_lt_of_le lt_a x144.1
                have lt_b := Nat.lt_of_lt_of_le lt_b x144.1
                have lt_G_2 := Nat.lt_of_lt_of_le lt_G_2 x144.1
                have hX := hX.tr x144 (fun b j hb h => by first | omega | (dsimp only at h ⊢; omega) | (dsimp only at h; omega) | (dsimp only; omega))
                have m144 := x144.1
                have htk := htk.xf hHo k_rd et_ex.rf x144 (fun a j hs => .inr (.inl (by have e := hs.1; rw [e]; exact k_G_2)))
                have hI := hI.fr (x144.agf (lo := G0.2) (hi := hi) (by omega) (fun a j h1 h2 hs => by first | omega | (dsimp only at hs; omega)))
                refine hs_aload (i := 4) (p := 149) (by decide +kernel) rfl ?_
                refine hf_get (T := et_TT) (t := 6) (ci := 4) (f := 4) (p := 152) (by decide +kernel) rfl hH k_G_2 e144 ?_
                refine hs_ifnonnull1 (p := 160) (by decide +kernel) ?_
                refine hs_aload (i := 0) (p := 161) (by decide +kernel) rfl ?_
                refine hs_dup1 (p := 162) (by decide +kernel) ?_
                refine ht_getn (T := et_TT) (t := 7) (ci := 5) (f := 3) (p := 165) (by decide +kernel) rfl rfl hH k_rd (fun c162 h162 e162 => ?_)
                refine hs_aload (i := 4) (p := 167) (by decide +kernel) rfl ?_
                refine hf_get (T := et_TT) (t := 6) (ci := 4) (f := 4) (p := 170) (by decide +kernel) rfl hH k_G_2 e144 ?_
                refine hs_gst (v := Value.ref 17) (p := 173) (by decide +kernel) ?_
                refine hf_acm (c := .ne) (tt := 180) (ff := 176) (by decide +kernel) (hi_ca hH (hH.2.1 _ (wat_lt htl)) (.inl rfl)) (by decide +kernel) (fun (q173 : ¬ Value.ref (wat L (y + 2)) = .ref 17) => ?_) (fun (q173 : ¬ ¬ Value.ref (wat L (y + 2)) = .ref 17) => ?_)
                · have q173 : ¬ (wat L (y + 2)) = 17 := fun h => q173 (by rw [h])
                  refine hs_k (x := Int32.ofNat 0) (p := 181) (by decide +kernel) ?_
                  refine hs_ior (p := 182) (by decide +kernel) ?_
                  obtain ⟨m181, hm181, hq181⟩ := hi_or (a := c162) (b := 0) (by omega) (by omega)
                  rw [hq181]
                  have hHo := hH
                  refine hf_put (T := et_TT) (t := 7) (ci := 5) (f := 3) (p := 185) (ty := .boolean) (by decide +kernel) rfl rfl rfl (hi_fz (by omega)) rfl hH k_rd (hi_nv (by omega) (by omega)) (fun G182 hH x182 e182 => ?_)
                  have hJ := hJX.up hHo k_rd e162 (by omega) x182 e182 (by omega) (fun h => (orJ1 (a := c162) (b := 0) (by omega) (by omega) (by omega) hq181 h).1) (fun h e9 => q173 (Value.ref.inj (Option.some.inj (e144.symm.trans e9))))
                  have e129 := (x182.2 rd 8 lt_rd (fun h => absurd h.2 (by decide))).trans e129
                  have r2 := (x182.2 rd 2 lt_rd (fun h => absurd h.2 (by decide))).trans r2
                  have r6 := (x182.2 rd 6 lt_rd (fun h => absurd h.2 (by decide))).trans r6
                  have r7 := (x182.2 rd 7 lt_rd (fun h => absurd h.2 (by decide))).trans r7
                  have nb := (x182.2 b 1 lt_b (fun h => (hi_ne k_b k_rd (by decide)) h.1)).trans nb
                  have n1_13 := (x182.2 G.2 1 lt_G_2 (fun h => (hi_ne k_G_2 k_rd (by decide)) h.1)).trans n1_13
                  have n2_13 := (x182.2 G.2 2 lt_G_2 (fun h => (hi_ne k_G_2 k_rd (by decide)) h.1)).trans n2_13
                  have n3_13 := (x182.2 G.2 3 lt_G_2 (fun h => (hi_ne k_G_2 k_rd (by decide)) h.1)).trans n3_13
                  have e144 := (x182.2 G.2 4 lt_G_2 (fun h => (hi_ne k_G_2 k_rd (by decide)) h.1)).trans e144
                  have e78 := (x182.2 G.2 5 lt_G_2 (fun h => (hi_ne k_G_2 k_rd (by decide)) h.1)).trans e78
                  have e19 := (x182.2 G.2 0 lt_G_2 (fun h => (hi_ne k_G_2 k_rd (by decide)) h.1)).trans e19
                  have lt_rd := Nat.lt_of_lt_of_le lt_rd x182.1
                  have lt_na := Nat.lt_of_lt_of_le lt_na x182.1
                  have lt_a := Nat.lt_of_lt_of_le lt_a x182.1
                  have lt_b := Nat.lt_of_lt_of_le lt_b x182.1
                  have lt_G_2 := Nat.lt_of_lt_of_le lt_G_2 x182.1
                  have hX := hX.tr x182 (fun b j hb h => by first | omega | (dsimp only at h ⊢; omega) | (dsimp only at h; omega) | (dsimp only; omega))
                  have m182 := x182.1
                  have htk := htk.xf hHo k_rd et_ex.rf x182 (fun a j hs => .inl (by first | omega | (dsimp only at hs; omega)))
                  have hI := hI.fr (x182.agf (lo := G0.2) (hi := hi) (by omega) (fun a j h1 h2 hs => by first | omega | (dsimp only at hs; omega)))
                  refine hs_aload (i := 0) (p := 186) (by decide +kernel) rfl ?_
                  refine hs_dup1 (p := 187) (by decide +kernel) ?_
                  refine hf_get (T := et_TT) (t := 7) (ci := 5) (f := 8) (p := 190) (by decide +kernel) rfl hH k_rd e129 ?_
                  refine hs_k (x := Int32.ofNat 1) (p := 191) (by decide +kernel) ?_
                  refine hs_iaddn (p := 192) (by decide +kernel) ?_
                  have hHo := hH
                  refine hf_put (T := et_TT) (t := 7) (ci := 5) (f := 8) (p := 195) (ty := .int) (by decide +kernel) rfl rfl rfl rfl rfl hH k_rd (hi_nv (by omega) (by omega)) (fun G192 hH x192 e192 => ?_)
                  have hJ := hJ.xs hHo k_rd x192 (fun a j hs => ⟨fun _ => by first | omega | (dsimp only at hs; omega), fun k6 => by have e9 : a = rd := (by first | omega | (dsimp only at hs; omega)); rw [e9, k_rd] at k6; exact nomatch k6⟩)
                  have r2 := (x192.2 rd 2 lt_rd (fun h => absurd h.2 (by decide))).trans r2
                  have r6 := (x192.2 rd 6 lt_rd (fun h => absurd h.2 (by decide))).trans r6
                  have r7 := (x192.2 rd 7 lt_rd (fun h => absurd h.2 (by decide))).trans r7
                  have nb := (x192.2 b 1 lt_b (fun h => (hi_ne k_b k_rd (by decide)) h.1)).trans nb
                  have n1_13 := (x192.2 G.2 1 lt_G_2 (fun h => (hi_ne k_G_2 k_rd (by decide)) h.1)).trans n1_13
                  have n2_13 := (x192.2 G.2 2 lt_G_2 (fun h => (hi_ne k_G_2 k_rd (by decide)) h.1)).trans n2_13
                  have n3_13 := (x192.2 G.2 3 lt_G_2 (fun h => (hi_ne k_G_2 k_rd (by decide)) h.1)).trans n3_13
                  have e144 := (x192.2 G.2 4 lt_G_2 (fun h => (hi_ne k_G_2 k_rd (by decide)) h.1)).trans e144
                  have e78 := (x192.2 G.2 5 lt_G_2 (fun h => (hi_ne k_G_2 k_rd (by decide)) h.1)).trans e78
                  have e19 := (x192.2 G.2 0 lt_G_2 (fun h => (hi_ne k_G_2 k_rd (by decide)) h.1)).trans e19
                  have e182 := (x192.2 rd 3 lt_rd (fun h => absurd h.2 (by decide))).trans e182
                  have lt_rd := Nat.lt_of_lt_of_le lt_rd x192.1
                  have lt_na := Nat.lt_of_lt_of_le lt_na x192.1
                  have lt_a := Nat.lt_of_lt_of_le lt_a x192.1
                  have lt_b := Nat.lt_of_lt_of_le lt_b x192.1
                  have lt_G_2 := Nat.lt_of_lt_of_le lt_G_2 x192.1
                  have hX := hX.tr x192 (fun b j hb h => by first | omega | (dsimp only at h ⊢; omega) | (dsimp only at h; omega) | (dsimp only; omega))
                  have m192 := x192.1
                  have htk := htk.xf hHo k_rd et_ex.rf x192 (fun a j hs => .inl (by first | omega | (dsimp only at hs; omega)))
                  have hI := hI.fr (x192.agf (lo := G0.2) (hi := hi) (by omega) (fun a j h1 h2 hs => by first | omega | (dsimp only at hs; omega)))
                  have e192 : et_pl (eg_at G192 rd) 8 = some (.int (Int32.ofNat (y + 3))) := e192
                  refine hs_aload (i := 2) (p := 196) (by decide +kernel) rfl ?_
                  refine hs_ifnonnull1 (p := 205) (by decide +kernel) ?_
                  refine hs_aload (i := 2) (p := 206) (by decide +kernel) rfl ?_
                  refine hs_aload (i := 4) (p := 208) (by decide +kernel) rfl ?_
                  have hHo := hH
                  refine hf_next (ty := .object "KnobEye$Node") (p := 211) (by decide +kernel) rfl hH k_b k_G_2 (by omega) (fun G208 hH x208 e208 _ => ?_)
                  have hJ := hJ.xs hHo k_rd x208 (fun a j hs => ⟨fun e9 => absurd (hs.1.symm.trans e9) (hi_ne k_b k_rd (by decide)), fun _ => by have h9 := hs.2; omega⟩)
                  have e192 := (x208.2 rd 8 lt_rd (fun h => (hi_ne k_rd k_b (by decide)) h.1)).trans e192
                  have r2 := (x208.2 rd 2 lt_rd (fun h => (hi_ne k_rd k_b (by decide)) h.1)).trans r2
                  have r6 := (x208.2 rd 6 lt_rd (fun h => (hi_ne k_rd k_b (by decide)) h.1)).trans r6
                  have r7 := (x208.2 rd 7 lt_rd (fun h => (hi_ne k_rd k_b (by decide)) h.1)).trans r7
                  have n1_13 := (x208.2 G.2 1 lt_G_2 (fun h => (show ¬ G.2 = b by omega) h.1)).trans n1_13
                  have n2_13 := (x208.2 G.2 2 lt_G_2 (fun h => (show ¬ G.2 = b by omega) h.1)).trans n2_13
                  have n3_13 := (x208.2 G.2 3 lt_G_2 (fun h => (show ¬ G.2 = b by omega) h.1)).trans n3_13
                  have e144 := (x208.2 G.2 4 lt_G_2 (fun h => (show ¬ G.2 = b by omega) h.1)).trans e144
                  have e78 := (x208.2 G.2 5 lt_G_2 (fun h => (show ¬ G.2 = b by omega) h.1)).trans e78
                  have e19 := (x208.2 G.2 0 lt_G_2 (fun h => (show ¬ G.2 = b by omega) h.1)).trans e19
                  have e182 := (x208.2 rd 3 lt_rd (fun h => (hi_ne k_rd k_b (by decide)) h.1)).trans e182
                  have lt_rd := Nat.lt_of_lt_of_le lt_rd x208.1
                  have lt_na := Nat.lt_of_lt_of_le lt_na x208.1
                  have lt_a := Nat.lt_of_lt_of_le lt_a x208.1
                  have lt_b := Nat.lt_of_lt_of_le lt_b x208.1
                  have lt_G_2 := Nat.lt_of_lt_of_le lt_G_2 x208.1
                  have hX := hX.tr x208 (fun b j hb h => by first | omega | (dsimp only at h ⊢; omega) | (dsimp only at h; omega) | (dsimp only; omega))
                  have m208 := x208.1
                  have htk := htk.xf hHo k_rd et_ex.rf x208 (fun a j hs => .inr (.inl (by have e := hs.1; rw [e]; exact k_b)))
                  refine hs_aload (i := 4) (p := 213) (by decide +kernel) rfl ?_
                  refine hs_astore (i := 2) (p := 214) (by decide +kernel) (Nat.le_of_ble_eq_true rfl) ?_
                  have hI := hI.snoc (hi' := G208.2) (fun c c1 c2 i ci => x208.2 c i (by omega) ci) e208 n1_13 ⟨by omega, lt_G_2⟩ (⟨vv, hvv, e78, .inr ⟨_, w141, e144, rfl⟩⟩)
                  refine hs_aload (i := 0) (p := 215) (by decide +kernel) rfl ?_
                  refine hs_gst (v := Value.ref 27) (p := 218) (by decide +kernel) ?_
                  refine ht_callv (T := et_TT) (t := 7) (mi := 78) (na := 1) (ci := 5) (lk := 6) (lm := 2) (L0 := eg_en (eg_mL 78) [.ref rd, .ref 27]) (by decide +kernel) rfl hH k_rd rfl rfl rfl rfl rfl (by rw [show eg_mL 78 = 2 from by decide +kernel]; first | done | rfl) ?_
                  refine (fc_is hH k_rd htk htl e192 (by omega) (wd := 27) (by decide)).mono (fun u hu => xp_cb hu ?_)
                  by_cases i218 : wat L (y + 3) = 27
                  · rw [if_pos i218]
                    have il218 : (y + 3) < L.length := wat_i (by rw [i218]; decide)
                    show et_go none _ 81 221 _ [.int (Int32.ofNat 1)] _ _ _ _
                    refine hs_if1 (c := .ne) (t := 227) (f := 224) (by decide +kernel) (show ¬ Int32.ofNat 1 = 0 by decide) ?_
                    refine hs_aload (i := 0) (p := 228) (by decide +kernel) rfl ?_
                    refine hs_dup1 (p := 229) (by decide +kernel) ?_
                    refine hf_get (T := et_TT) (t := 7) (ci := 5) (f := 8) (p := 232) (by decide +kernel) rfl hH k_rd e192 ?_
                    refine hs_k (x := Int32.ofNat 1) (p := 233) (by decide +kernel) ?_
                    refine hs_iaddn (p := 234) (by decide +kernel) ?_
                    have hHo := hH
                    refine hf_put (T := et_TT) (t := 7) (ci := 5) (f := 8) (p := 237) (ty := .int) (by decide +kernel) rfl rfl rfl rfl rfl hH k_rd (hi_nv (by omega) (by omega)) (fun G234 hH x234 e234 => ?_)
                    have hJ := hJ.xs hHo k_rd x234 (fun a j hs => ⟨fun _ => by first | omega | (dsimp only at hs; omega), fun k6 => by have e9 : a = rd := (by first | omega | (dsimp only at hs; omega)); rw [e9, k_rd] at k6; exact nomatch k6⟩)
                    have r2 := (x234.2 rd 2 lt_rd (fun h => absurd h.2 (by decide))).trans r2
                    have r6 := (x234.2 rd 6 lt_rd (fun h => absurd h.2 (by decide))).trans r6
                    have r7 := (x234.2 rd 7 lt_rd (fun h => absurd h.2 (by decide))).trans r7
                    have e208 := (x234.2 b 1 lt_b (fun h => (hi_ne k_b k_rd (by decide)) h.1)).trans e208
                    have n1_13 := (x234.2 G.2 1 lt_G_2 (fun h => (hi_ne k_G_2 k_rd (by decide)) h.1)).trans n1_13
                    have n2_13 := (x234.2 G.2 2 lt_G_2 (fun h => (hi_ne k_G_2 k_rd (by decide)) h.1)).trans n2_13
                    have n3_13 := (x234.2 G.2 3 lt_G_2 (fun h => (hi_ne k_G_2 k_rd (by decide)) h.1)).trans n3_13
                    have e144 := (x234.2 G.2 4 lt_G_2 (fun h => (hi_ne k_G_2 k_rd (by decide)) h.1)).trans e144
                    have e78 := (x234.2 G.2 5 lt_G_2 (fun h => (hi_ne k_G_2 k_rd (by decide)) h.1)).trans e78
                    have e19 := (x234.2 G.2 0 lt_G_2 (fun h => (hi_ne k_G_2 k_rd (by decide)) h.1)).trans e19
                    have e182 := (x234.2 rd 3 lt_rd (fun h => absurd h.2 (by decide))).trans e182
                    have lt_rd := Nat.lt_of_lt_of_le lt_rd x234.1
                    have lt_na := Nat.lt_of_lt_of_le lt_na x234.1
                    have lt_a := Nat.lt_of_lt_of_le lt_a x234.1
                    have lt_b := Nat.lt_of_lt_of_le lt_b x234.1
                    have lt_G_2 := Nat.lt_of_lt_of_le lt_G_2 x234.1
                    have hX := hX.tr x234 (fun b j hb h => by first | omega | (dsimp only at h ⊢; omega) | (dsimp only at h; omega) | (dsimp only; omega))
                    have m234 := x234.1
                    have htk := htk.xf hHo k_rd et_ex.rf x234 (fun a j hs => .inl (by first | omega | (dsimp only at hs; omega)))
                    have hI := hI.fr (x234.agf (lo := G0.2) (hi := G208.2) (by omega) (fun a j h1 h2 hs => by first | omega | (dsimp only at hs; omega)))
                    have e234 : et_pl (eg_at G234 rd) 8 = some (.int (Int32.ofNat (y + 4))) := e234
                    refine hs_iinc1 (i := 3) (p := 240) (by decide +kernel) rfl (Nat.le_of_ble_eq_true rfl) ?_
                    refine hs_goto (p := 6) (by decide +kernel) ?_
                    obtain ⟨n', rfl⟩ : ∃ n', n = n' + 1 := ⟨n - 1, by omega⟩
                    rw [show sp_lp sp_part 27 (fun f g e => f e + g e) (n' + 1) f (L.drop y) = sp_lp sp_part 27 (fun f g e => f e + g e) n' _ (L.drop (y + 4)) from sp_lp_y (sp_part_2 hnn i108 w141) i218 (by decide)]
                    show et_go none _ 81 6 [some (.ref rd), some (.ref a), some (.ref G.2), some (.int (Int32.ofNat (i + 1))), some (.ref G.2), some (.int (Int32.ofNat 1))] [] _ _ _ _
                    exact ih (L.length - (y + 4)) (by omega) hH hx0 hX k_rd htk e234 (by omega) r2 (by omega) hJ k_a k_G_2 hI (by omega) n1_13 (by omega) (by omega) (by omega) (by omega) rfl
                  · rw [if_neg i218]
                    show et_go none _ 81 221 _ [.int (Int32.ofNat 0)] _ _ _ _
                    refine hs_if0 (c := .ne) (t := 227) (f := 224) (by decide +kernel) (show ¬ (¬ Int32.ofNat 0 = 0) by decide) ?_
                    refine hs_goto (p := 243) (by decide +kernel) ?_
                    refine hs_aload (i := 1) (p := 244) (by decide +kernel) rfl ?_
                    refine hs_aret (cn := "KnobEye$Node") (by decide +kernel) ?_
                    have lo_a := hI.bd
                    refine ⟨_, _, _, _, _, rfl, hx0, hH, rx_out hX, ?_, hJ⟩
                    rw [show sp_lp sp_part 27 (fun f g e => f e + g e) n f (L.drop y) = some (_, L.drop (y + 3)) from sp_lp_n (sp_part_2 hnn i108 w141) i218]
                    exact ⟨(y + 3), _, rfl, (by omega), (by omega), e192, r2, rfl, k_a, ⟨hI.sm.wk (Nat.le_refl _) (by omega), lo_a.2.2.1⟩⟩
                · have q173 : (wat L (y + 2)) = 17 := Value.ref.inj (Decidable.of_not_not q173)
                  refine hs_k (x := Int32.ofNat 1) (p := 177) (by decide +kernel) ?_
                  refine hs_goto (p := 181) (by decide +kernel) ?_
                  refine hs_ior (p := 182) (by decide +kernel) ?_
                  obtain ⟨m181, hm181, hq181⟩ := hi_or (a := c162) (b := 1) (by omega) (by omega)
                  rw [hq181]
                  have hHo := hH
                  refine hf_put (T := et_TT) (t := 7) (ci := 5) (f := 3) (p := 185) (ty := .boolean) (by decide +kernel) rfl rfl rfl (hi_fz (by omega)) rfl hH k_rd (hi_nv (by omega) (by omega)) (fun G182 hH x182 e182 => ?_)
                  have hJ := hJX.up hHo k_rd e162 (by omega) x182 e182 (by omega) (fun h => (orJ1 (a := c162) (b := 1) (by omega) (by omega) (by omega) hq181 h).1) (fun h => absurd (orJ1 (a := c162) (b := 1) (by omega) (by omega) (by omega) hq181 h).2 (by decide))
                  have e129 := (x182.2 rd 8 lt_rd (fun h => absurd h.2 (by decide))).trans e129
                  have r2 := (x182.2 rd 2 lt_rd (fun h => absurd h.2 (by decide))).trans r2
                  have r6 := (x182.2 rd 6 lt_rd (fun h => absurd h.2 (by decide))).trans r6
                  have r7 := (x182.2 rd 7 lt_rd (fun h => absurd h.2 (by decide))).trans r7
                  have nb := (x182.2 b 1 lt_b (fun h => (hi_ne k_b k_rd (by decide)) h.1)).trans nb
                  have n1_13 := (x182.2 G.2 1 lt_G_2 (fun h => (hi_ne k_G_2 k_rd (by decide)) h.1)).trans n1_13
                  have n2_13 := (x182.2 G.2 2 lt_G_2 (fun h => (hi_ne k_G_2 k_rd (by decide)) h.1)).trans n2_13
                  have n3_13 := (x182.2 G.2 3 lt_G_2 (fun h => (hi_ne k_G_2 k_rd (by decide)) h.1)).trans n3_13
                  have e144 := (x182.2 G.2 4 lt_G_2 (fun h => (hi_ne k_G_2 k_rd (by decide)) h.1)).trans e144
                  have e78 := (x182.2 G.2 5 lt_G_2 (fun h => (hi_ne k_G_2 k_rd (by decide)) h.1)).trans e78
                  have e19 := (x182.2 G.2 0 lt_G_2 (fun h => (hi_ne k_G_2 k_rd (by decide)) h.1)).trans e19
                  have lt_rd := Nat.lt_of_lt_of_le lt_rd x182.1
                  have lt_na := Nat.lt_of_lt_of_le lt_na x182.1
                  have lt_a := Nat.lt_of_lt_of_le lt_a x182.1
                  have lt_b := Nat.lt_of_lt_of_le lt_b x182.1
                  have lt_G_2 := Nat.lt_of_lt_of_le lt_G_2 x182.1
                  have hX := hX.tr x182 (fun b j hb h => by first | omega | (dsimp only at h ⊢; omega) | (dsimp only at h; omega) | (dsimp only; omega))
                  have m182 := x182.1
                  have htk := htk.xf hHo k_rd et_ex.rf x182 (fun a j hs => .inl (by first | omega | (dsimp only at hs; omega)))
                  have hI := hI.fr (x182.agf (lo := G0.2) (hi := hi) (by omega) (fun a j h1 h2 hs => by first | omega | (dsimp only at hs; omega)))
                  refine hs_aload (i := 0) (p := 186) (by decide +kernel) rfl ?_
                  refine hs_dup1 (p := 187) (by decide +kernel) ?_
                  refine hf_get (T := et_TT) (t := 7) (ci := 5) (f := 8) (p := 190) (by decide +kernel) rfl hH k_rd e129 ?_
                  refine hs_k (x := Int32.ofNat 1) (p := 191) (by decide +kernel) ?_
                  refine hs_iaddn (p := 192) (by decide +kernel) ?_
                  have hHo := hH
                  refine hf_put (T := et_TT) (t := 7) (ci := 5) (f := 8) (p := 195) (ty := .int) (by decide +kernel) rfl rfl rfl rfl rfl hH k_rd (hi_nv (by omega) (by omega)) (fun G192 hH x192 e192 => ?_)
                  have hJ := hJ.xs hHo k_rd x192 (fun a j hs => ⟨fun _ => by first | omega | (dsimp only at hs; omega), fun k6 => by have e9 : a = rd := (by first | omega | (dsimp only at hs; omega)); rw [e9, k_rd] at k6; exact nomatch k6⟩)
                  have r2 := (x192.2 rd 2 lt_rd (fun h => absurd h.2 (by decide))).trans r2
                  have r6 := (x192.2 rd 6 lt_rd (fun h => absurd h.2 (by decide))).trans r6
                  have r7 := (x192.2 rd 7 lt_rd (fun h => absurd h.2 (by decide))).trans r7
                  have nb := (x192.2 b 1 lt_b (fun h => (hi_ne k_b k_rd (by decide)) h.1)).trans nb
                  have n1_13 := (x192.2 G.2 1 lt_G_2 (fun h => (hi_ne k_G_2 k_rd (by decide)) h.1)).trans n1_13
                  have n2_13 := (x192.2 G.2 2 lt_G_2 (fun h => (hi_ne k_G_2 k_rd (by decide)) h.1)).trans n2_13
                  have n3_13 := (x192.2 G.2 3 lt_G_2 (fun h => (hi_ne k_G_2 k_rd (by decide)) h.1)).trans n3_13
                  have e144 := (x192.2 G.2 4 lt_G_2 (fun h => (hi_ne k_G_2 k_rd (by decide)) h.1)).trans e144
                  have e78 := (x192.2 G.2 5 lt_G_2 (fun h => (hi_ne k_G_2 k_rd (by decide)) h.1)).trans e78
                  have e19 := (x192.2 G.2 0 lt_G_2 (fun h => (hi_ne k_G_2 k_rd (by decide)) h.1)).trans e19
                  have e182 := (x192.2 rd 3 lt_rd (fun h => absurd h.2 (by decide))).trans e182
                  have lt_rd := Nat.lt_of_lt_of_le lt_rd x192.1
                  have lt_na := Nat.lt_of_lt_of_le lt_na x192.1
                  have lt_a := Nat.lt_of_lt_of_le lt_a x192.1
                  have lt_b := Nat.lt_of_lt_of_le lt_b x192.1
                  have lt_G_2 := Nat.lt_of_lt_of_le lt_G_2 x192.1
                  have hX := hX.tr x192 (fun b j hb h => by first | omega | (dsimp only at h ⊢; omega) | (dsimp only at h; omega) | (dsimp only; omega))
                  have m192 := x192.1
                  have htk := htk.xf hHo k_rd et_ex.rf x192 (fun a j hs => .inl (by first | omega | (dsimp only at hs; omega)))
                  have hI := hI.fr (x192.agf (lo := G0.2) (hi := hi) (by omega) (fun a j h1 h2 hs => by first | omega | (dsimp only at hs; omega)))
                  have e192 : et_pl (eg_at G192 rd) 8 = some (.int (Int32.ofNat (y + 3))) := e192
                  refine hs_aload (i := 2) (p := 196) (by decide +kernel) rfl ?_
                  refine hs_ifnonnull1 (p := 205) (by decide +kernel) ?_
                  refine hs_aload (i := 2) (p := 206) (by decide +kernel) rfl ?_
                  refine hs_aload (i := 4) (p := 208) (by decide +kernel) rfl ?_
                  have hHo := hH
                  refine hf_next (ty := .object "KnobEye$Node") (p := 211) (by decide +kernel) rfl hH k_b k_G_2 (by omega) (fun G208 hH x208 e208 _ => ?_)
                  have hJ := hJ.xs hHo k_rd x208 (fun a j hs => ⟨fun e9 => absurd (hs.1.symm.trans e9) (hi_ne k_b k_rd (by decide)), fun _ => by have h9 := hs.2; omega⟩)
                  have e192 := (x208.2 rd 8 lt_rd (fun h => (hi_ne k_rd k_b (by decide)) h.1)).trans e192
                  have r2 := (x208.2 rd 2 lt_rd (fun h => (hi_ne k_rd k_b (by decide)) h.1)).trans r2
                  have r6 := (x208.2 rd 6 lt_rd (fun h => (hi_ne k_rd k_b (by decide)) h.1)).trans r6
                  have r7 := (x208.2 rd 7 lt_rd (fun h => (hi_ne k_rd k_b (by decide)) h.1)).trans r7
                  have n1_13 := (x208.2 G.2 1 lt_G_2 (fun h => (show ¬ G.2 = b by omega) h.1)).trans n1_13
                  have n2_13 := (x208.2 G.2 2 lt_G_2 (fun h => (show ¬ G.2 = b by omega) h.1)).trans n2_13
                  have n3_13 := (x208.2 G.2 3 lt_G_2 (fun h => (show ¬ G.2 = b by omega) h.1)).trans n3_13
                  have e144 := (x208.2 G.2 4 lt_G_2 (fun h => (show ¬ G.2 = b by omega) h.1)).trans e144
                  have e78 := (x208.2 G.2 5 lt_G_2 (fun h => (show ¬ G.2 = b by omega) h.1)).trans e78
                  have e19 := (x208.2 G.2 0 lt_G_2 (fun h => (show ¬ G.2 = b by omega) h.1)).trans e19
                  have e182 := (x208.2 rd 3 lt_rd (fun h => (hi_ne k_rd k_b (by decide)) h.1)).trans e182
                  have lt_rd := Nat.lt_of_lt_of_le lt_rd x208.1
                  have lt_na := Nat.lt_of_lt_of_le lt_na x208.1
                  have lt_a := Nat.lt_of_lt_of_le lt_a x208.1
                  have lt_b := Nat.lt_of_lt_of_le lt_b x208.1
                  have lt_G_2 := Nat.lt_of_lt_of_le lt_G_2 x208.1
                  have hX := hX.tr x208 (fun b j hb h => by first | omega | (dsimp only at h ⊢; omega) | (dsimp only at h; omega) | (dsimp only; omega))
                  have m208 := x208.1
                  have htk := htk.xf hHo k_rd et_ex.rf x208 (fun a j hs => .inr (.inl (by have e := hs.1; rw [e]; exact k_b)))
                  refine hs_aload (i := 4) (p := 213) (by decide +kernel) rfl ?_
                  refine hs_astore (i := 2) (p := 214) (by decide +kernel) (Nat.le_of_ble_eq_true rfl) ?_
                  have hI := hI.snoc (hi' := G208.2) (fun c c1 c2 i ci => x208.2 c i (by omega) ci) e208 n1_13 ⟨by omega, lt_G_2⟩ (⟨vv, hvv, e78, .inr ⟨_, w141, e144, rfl⟩⟩)
                  refine hs_aload (i := 0) (p := 215) (by decide +kernel) rfl ?_
                  refine hs_gst (v := Value.ref 27) (p := 218) (by decide +kernel) ?_
                  refine ht_callv (T := et_TT) (t := 7) (mi := 78) (na := 1) (ci := 5) (lk := 6) (lm := 2) (L0 := eg_en (eg_mL 78) [.ref rd, .ref 27]) (by decide +kernel) rfl hH k_rd rfl rfl rfl rfl rfl (by rw [show eg_mL 78 = 2 from by decide +kernel]; first | done | rfl) ?_
                  refine (fc_is hH k_rd htk htl e192 (by omega) (wd := 27) (by decide)).mono (fun u hu => xp_cb hu ?_)
                  by_cases i218 : wat L (y + 3) = 27
                  · rw [if_pos i218]
                    have il218 : (y + 3) < L.length := wat_i (by rw [i218]; decide)
                    show et_go none _ 81 221 _ [.int (Int32.ofNat 1)] _ _ _ _
                    refine hs_if1 (c := .ne) (t := 227) (f := 224) (by decide +kernel) (show ¬ Int32.ofNat 1 = 0 by decide) ?_
                    refine hs_aload (i := 0) (p := 228) (by decide +kernel) rfl ?_
                    refine hs_dup1 (p := 229) (by decide +kernel) ?_
                    refine hf_get (T := et_TT) (t := 7) (ci := 5) (f := 8) (p := 232) (by decide +kernel) rfl hH k_rd e192 ?_
                    refine hs_k (x := Int32.ofNat 1) (p := 233) (by decide +kernel) ?_
                    refine hs_iaddn (p := 234) (by decide +kernel) ?_
                    have hHo := hH
                    refine hf_put (T := et_TT) (t := 7) (ci := 5) (f := 8) (p := 237) (ty := .int) (by decide +kernel) rfl rfl rfl rfl rfl hH k_rd (hi_nv (by omega) (by omega)) (fun G234 hH x234 e234 => ?_)
                    have hJ := hJ.xs hHo k_rd x234 (fun a j hs => ⟨fun _ => by first | omega | (dsimp only at hs; omega), fun k6 => by have e9 : a = rd := (by first | omega | (dsimp only at hs; omega)); rw [e9, k_rd] at k6; exact nomatch k6⟩)
                    have r2 := (x234.2 rd 2 lt_rd (fun h => absurd h.2 (by decide))).trans r2
                    have r6 := (x234.2 rd 6 lt_rd (fun h => absurd h.2 (by decide))).trans r6
                    have r7 := (x234.2 rd 7 lt_rd (fun h => absurd h.2 (by decide))).trans r7
                    have e208 := (x234.2 b 1 lt_b (fun h => (hi_ne k_b k_rd (by decide)) h.1)).trans e208
                    have n1_13 := (x234.2 G.2 1 lt_G_2 (fun h => (hi_ne k_G_2 k_rd (by decide)) h.1)).trans n1_13
                    have n2_13 := (x234.2 G.2 2 lt_G_2 (fun h => (hi_ne k_G_2 k_rd (by decide)) h.1)).trans n2_13
                    have n3_13 := (x234.2 G.2 3 lt_G_2 (fun h => (hi_ne k_G_2 k_rd (by decide)) h.1)).trans n3_13
                    have e144 := (x234.2 G.2 4 lt_G_2 (fun h => (hi_ne k_G_2 k_rd (by decide)) h.1)).trans e144
                    have e78 := (x234.2 G.2 5 lt_G_2 (fun h => (hi_ne k_G_2 k_rd (by decide)) h.1)).trans e78
                    have e19 := (x234.2 G.2 0 lt_G_2 (fun h => (hi_ne k_G_2 k_rd (by decide)) h.1)).trans e19
                    have e182 := (x234.2 rd 3 lt_rd (fun h => absurd h.2 (by decide))).trans e182
                    have lt_rd := Nat.lt_of_lt_of_le lt_rd x234.1
                    have lt_na := Nat.lt_of_lt_of_le lt_na x234.1
                    have lt_a := Nat.lt_of_lt_of_le lt_a x234.1
                    have lt_b := Nat.lt_of_lt_of_le lt_b x234.1
                    have lt_G_2 := Nat.lt_of_lt_of_le lt_G_2 x234.1
                    have hX := hX.tr x234 (fun b j hb h => by first | omega | (dsimp only at h ⊢; omega) | (dsimp only at h; omega) | (dsimp only; omega))
                    have m234 := x234.1
                    have htk := htk.xf hHo k_rd et_ex.rf x234 (fun a j hs => .inl (by first | omega | (dsimp only at hs; omega)))
                    have hI := hI.fr (x234.agf (lo := G0.2) (hi := G208.2) (by omega) (fun a j h1 h2 hs => by first | omega | (dsimp only at hs; omega)))
                    have e234 : et_pl (eg_at G234 rd) 8 = some (.int (Int32.ofNat (y + 4))) := e234
                    refine hs_iinc1 (i := 3) (p := 240) (by decide +kernel) rfl (Nat.le_of_ble_eq_true rfl) ?_
                    refine hs_goto (p := 6) (by decide +kernel) ?_
                    obtain ⟨n', rfl⟩ : ∃ n', n = n' + 1 := ⟨n - 1, by omega⟩
                    rw [show sp_lp sp_part 27 (fun f g e => f e + g e) (n' + 1) f (L.drop y) = sp_lp sp_part 27 (fun f g e => f e + g e) n' _ (L.drop (y + 4)) from sp_lp_y (sp_part_2 hnn i108 w141) i218 (by decide)]
                    show et_go none _ 81 6 [some (.ref rd), some (.ref a), some (.ref G.2), some (.int (Int32.ofNat (i + 1))), some (.ref G.2), some (.int (Int32.ofNat 1))] [] _ _ _ _
                    exact ih (L.length - (y + 4)) (by omega) hH hx0 hX k_rd htk e234 (by omega) r2 (by omega) hJ k_a k_G_2 hI (by omega) n1_13 (by omega) (by omega) (by omega) (by omega) rfl
                  · rw [if_neg i218]
                    show et_go none _ 81 221 _ [.int (Int32.ofNat 0)] _ _ _ _
                    refine hs_if0 (c := .ne) (t := 227) (f := 224) (by decide +kernel) (show ¬ (¬ Int32.ofNat 0 = 0) by decide) ?_
                    refine hs_goto (p := 243) (by decide +kernel) ?_
                    refine hs_aload (i := 1) (p := 244) (by decide +kernel) rfl ?_
                    refine hs_aret (cn := "KnobEye$Node") (by decide +kernel) ?_
                    have lo_a := hI.bd
                    refine ⟨_, _, _, _, _, rfl, hx0, hH, rx_out hX, ?_, hJ⟩
                    rw [show sp_lp sp_part 27 (fun f g e => f e + g e) n f (L.drop y) = some (_, L.drop (y + 3)) from sp_lp_n (sp_part_2 hnn i108 w141) i218]
                    exact ⟨(y + 3), _, rfl, (by omega), (by omega), e192, r2, rfl, k_a, ⟨hI.sm.wk (Nat.le_refl _) (by omega), lo_a.2.2.1⟩⟩
              · rw [if_neg w141]
                show et_go none _ 81 144 _ [.null, .ref G.2] _ _ _ _
                have hHo := hH
                refine hf_put (T := et_TT) (t := 6) (ci := 4) (f := 4) (p := 147) (ty := (.object "KnobEye$Word")) (by decide +kernel) rfl rfl rfl rfl rfl hH k_G_2 (.inl ⟨by decide, rfl⟩) (fun G144 hH x144 e144 => ?_)
                have hJ := hJ.nd hHo k_rd k_G_2 x144 e144 (fun h => nomatch h)
                have e129 := (x144.2 rd 8 lt_rd (fun h => (hi_ne k_rd k_G_2 (by decide)) h.1)).trans e129
                have r2 := (x144.2 rd 2 lt_rd (fun h => (hi_ne k_rd k_G_2 (by decide)) h.1)).trans r2
                have r6 := (x144.2 rd 6 lt_rd (fun h => (hi_ne k_rd k_G_2 (by decide)) h.1)).trans r6
                have r7 := (x144.2 rd 7 lt_rd (fun h => (hi_ne k_rd k_G_2 (by decide)) h.1)).trans r7
                have nb := (x144.2 b 1 lt_b (fun h => (show ¬ b = G.2 by omega) h.1)).trans nb
                have n1_13 := (x144.2 G.2 1 lt_G_2 (fun h => absurd h.2 (by decide))).trans n1_13
                have n2_13 := (x144.2 G.2 2 lt_G_2 (fun h => absurd h.2 (by decide))).trans n2_13
                have n3_13 := (x144.2 G.2 3 lt_G_2 (fun h => absurd h.2 (by decide))).trans n3_13
                have e78 := (x144.2 G.2 5 lt_G_2 (fun h => absurd h.2 (by decide))).trans e78
                have e19 := (x144.2 G.2 0 lt_G_2 (fun h => absurd h.2 (by decide))).trans e19
                have lt_rd := Nat.lt_of_lt_of_le lt_rd x144.1
                have lt_na := Nat.lt_of_lt_of_le lt_na x144.1
                have lt_a := Nat.lt_of_lt_of_le lt_a x144.1
                have lt_b := Nat.lt_of_lt_of_le lt_b x144.1
                have lt_G_2 := Nat.lt_of_lt_of_le lt_G_2 x144.1
                have hX := hX.tr x144 (fun b j hb h => by first | omega | (dsimp only at h ⊢; omega) | (dsimp only at h; omega) | (dsimp only; omega))
                have m144 := x144.1
                have htk := htk.xf hHo k_rd et_ex.rf x144 (fun a j hs => .inr (.inl (by have e := hs.1; rw [e]; exact k_G_2)))
                have hI := hI.fr (x144.agf (lo := G0.2) (hi := hi) (by omega) (fun a j h1 h2 hs => by first | omega | (dsimp only at hs; omega)))
                refine hs_aload (i := 4) (p := 149) (by decide +kernel) rfl ?_
                refine hf_get (T := et_TT) (t := 6) (ci := 4) (f := 4) (p := 152) (by decide +kernel) rfl hH k_G_2 e144 ?_
                refine hs_ifnonnull0 (p := 155) (by decide +kernel) ?_
                refine hs_aload (i := 0) (p := 156) (by decide +kernel) rfl ?_
                have hHo := hH
                refine ht_callv (T := et_TT) (t := 7) (mi := 76) (na := 0) (ci := 5) (lk := 6) (lm := 1) (L0 := eg_en (eg_mL 76) [.ref rd]) (by decide +kernel) rfl hH k_rd rfl rfl rfl rfl rfl (by rw [show eg_mL 76 = 1 from by decide +kernel]; first | done | rfl) ?_
                refine (fc_fail hH k_rd htk htl e129 (by omega) r2).mono (fun u hu => xw_cb hu (fun G156 v156 hH x156 hP156 => ?_))
                have hJ := hJ.xs hHo k_rd x156 (fun a j hs => ⟨fun _ => by first | omega | (dsimp only at hs; omega), fun k6 => by have e9 : a = rd := (by first | omega | (dsimp only at hs; omega)); rw [e9, k_rd] at k6; exact nomatch k6⟩)
                have e129 := (x156.2 rd 8 lt_rd (fun h => absurd h.2 (by decide))).trans e129
                have r6 := (x156.2 rd 6 lt_rd (fun h => absurd h.2 (by decide))).trans r6
                have r7 := (x156.2 rd 7 lt_rd (fun h => absurd h.2 (by decide))).trans r7
                have nb := (x156.2 b 1 lt_b (fun h => (hi_ne k_b k_rd (by decide)) h.1)).trans nb
                have n1_13 := (x156.2 G.2 1 lt_G_2 (fun h => (hi_ne k_G_2 k_rd (by decide)) h.1)).trans n1_13
                have n2_13 := (x156.2 G.2 2 lt_G_2 (fun h => (hi_ne k_G_2 k_rd (by decide)) h.1)).trans n2_13
                have n3_13 := (x156.2 G.2 3 lt_G_2 (fun h => (hi_ne k_G_2 k_rd (by decide)) h.1)).trans n3_13
                have e144 := (x156.2 G.2 4 lt_G_2 (fun h => (hi_ne k_G_2 k_rd (by decide)) h.1)).trans e144
                have e78 := (x156.2 G.2 5 lt_G_2 (fun h => (hi_ne k_G_2 k_rd (by decide)) h.1)).trans e78
                have e19 := (x156.2 G.2 0 lt_G_2 (fun h => (hi_ne k_G_2 k_rd (by decide)) h.1)).trans e19
                have lt_rd := Nat.lt_of_lt_of_le lt_rd x156.1
                have lt_na := Nat.lt_of_lt_of_le lt_na x156.1
                have lt_a := Nat.lt_of_lt_of_le lt_a x156.1
                have lt_b := Nat.lt_of_lt_of_le lt_b x156.1
                have lt_G_2 := Nat.lt_of_lt_of_le lt_G_2 x156.1
                have hX := hX.tr x156 (fun b j hb h => by first | omega | (dsimp only at h ⊢; omega) | (dsimp only at h; omega) | (dsimp only; omega))
                have m156 := x156.1
                have htk := htk.xf hHo k_rd et_ex.rf x156 (fun a j hs => .inl (by first | omega | (dsimp only at hs; omega)))
                have hI := hI.fr (x156.agf (lo := G0.2) (hi := hi) (by omega) (fun a j h1 h2 hs => by first | omega | (dsimp only at hs; omega)))
                obtain ⟨rfl, q156, hq156, e156⟩ := hP156
                show et_go none _ 81 159 _ [.null] _ _ _ _
                refine hs_aretN (cn := "KnobEye$Node") (by decide +kernel) ?_
                refine ⟨_, _, _, _, _, rfl, hx0, hH, rx_out hX, ?_, hJ⟩
                rw [show sp_lp sp_part 27 (fun f g e => f e + g e) n f (L.drop y) = none from sp_lp_0 (sp_part_2n hnn i108 w141)]
                exact ⟨rfl, _, (by omega), e156⟩
            · rw [if_neg i108]
              show et_go none _ 81 111 _ [.int (Int32.ofNat 0)] _ _ _ _
              refine hs_istore (i := 5) (p := 113) (by decide +kernel) (Nat.le_of_ble_eq_true rfl) ?_
              refine hs_aload (i := 0) (p := 114) (by decide +kernel) rfl ?_
              refine hs_dup1 (p := 115) (by decide +kernel) ?_
              refine hf_get (T := et_TT) (t := 7) (ci := 5) (f := 8) (p := 118) (by decide +kernel) rfl hH k_rd e101 ?_
              refine hs_iload (i := 5) (p := 120) (by decide +kernel) rfl ?_
              refine hs_if1 (c := .eq) (t := 127) (f := 123) (by decide +kernel) (show Int32.ofNat 0 = 0 by decide) ?_
              refine hs_k (x := Int32.ofNat 0) (p := 128) (by decide +kernel) ?_
              refine hs_iaddn (p := 129) (by decide +kernel) ?_
              have hHo := hH
              refine hf_put (T := et_TT) (t := 7) (ci := 5) (f := 8) (p := 132) (ty := .int) (by decide +kernel) rfl rfl rfl rfl rfl hH k_rd (hi_nv (by omega) (by omega)) (fun G129 hH x129 e129 => ?_)
              have hJ := hJ.xs hHo k_rd x129 (fun a j hs => ⟨fun _ => by first | omega | (dsimp only at hs; omega), fun k6 => by have e9 : a = rd := (by first | omega | (dsimp only at hs; omega)); rw [e9, k_rd] at k6; exact nomatch k6⟩)
              have r2 := (x129.2 rd 2 lt_rd (fun h => absurd h.2 (by decide))).trans r2
              have r6 := (x129.2 rd 6 lt_rd (fun h => absurd h.2 (by decide))).trans r6
              have r7 := (x129.2 rd 7 lt_rd (fun h => absurd h.2 (by decide))).trans r7
              have nb := (x129.2 b 1 lt_b (fun h => (hi_ne k_b k_rd (by decide)) h.1)).trans nb
              have n1_13 := (x129.2 G.2 1 lt_G_2 (fun h => (hi_ne k_G_2 k_rd (by decide)) h.1)).trans n1_13
              have n2_13 := (x129.2 G.2 2 lt_G_2 (fun h => (hi_ne k_G_2 k_rd (by decide)) h.1)).trans n2_13
              have n3_13 := (x129.2 G.2 3 lt_G_2 (fun h => (hi_ne k_G_2 k_rd (by decide)) h.1)).trans n3_13
              have n4_13 := (x129.2 G.2 4 lt_G_2 (fun h => (hi_ne k_G_2 k_rd (by decide)) h.1)).trans n4_13
              have e78 := (x129.2 G.2 5 lt_G_2 (fun h => (hi_ne k_G_2 k_rd (by decide)) h.1)).trans e78
              have e19 := (x129.2 G.2 0 lt_G_2 (fun h => (hi_ne k_G_2 k_rd (by decide)) h.1)).trans e19
              have lt_rd := Nat.lt_of_lt_of_le lt_rd x129.1
              have lt_na := Nat.lt_of_lt_of_le lt_na x129.1
              have lt_a := Nat.lt_of_lt_of_le lt_a x129.1
              have lt_b := Nat.lt_of_lt_of_le lt_b x129.1
              have lt_G_2 := Nat.lt_of_lt_of_le lt_G_2 x129.1
              have hX := hX.tr x129 (fun b j hb h => by first | omega | (dsimp only at h ⊢; omega) | (dsimp only at h; omega) | (dsimp only; omega))
              have m129 := x129.1
              have htk := htk.xf hHo k_rd et_ex.rf x129 (fun a j hs => .inl (by first | omega | (dsimp only at hs; omega)))
              have hI := hI.fr (x129.agf (lo := G0.2) (hi := hi) (by omega) (fun a j h1 h2 hs => by first | omega | (dsimp only at hs; omega)))
              have e129 : et_pl (eg_at G129 rd) 8 = some (.int (Int32.ofNat (y + 1))) := e129
              refine hs_iload (i := 5) (p := 134) (by decide +kernel) rfl ?_
              refine hs_if1 (c := .eq) (t := 195) (f := 137) (by decide +kernel) (show Int32.ofNat 0 = 0 by decide) ?_
              refine hs_aload (i := 2) (p := 196) (by decide +kernel) rfl ?_
              refine hs_ifnonnull1 (p := 205) (by decide +kernel) ?_
              refine hs_aload (i := 2) (p := 206) (by decide +kernel) rfl ?_
              refine hs_aload (i := 4) (p := 208) (by decide +kernel) rfl ?_
              have hHo := hH
              refine hf_next (ty := .object "KnobEye$Node") (p := 211) (by decide +kernel) rfl hH k_b k_G_2 (by omega) (fun G208 hH x208 e208 _ => ?_)
              have hJ := hJ.xs hHo k_rd x208 (fun a j hs => ⟨fun e9 => absurd (hs.1.symm.trans e9) (hi_ne k_b k_rd (by decide)), fun _ => by have h9 := hs.2; omega⟩)
              have e129 := (x208.2 rd 8 lt_rd (fun h => (hi_ne k_rd k_b (by decide)) h.1)).trans e129
              have r2 := (x208.2 rd 2 lt_rd (fun h => (hi_ne k_rd k_b (by decide)) h.1)).trans r2
              have r6 := (x208.2 rd 6 lt_rd (fun h => (hi_ne k_rd k_b (by decide)) h.1)).trans r6
              have r7 := (x208.2 rd 7 lt_rd (fun h => (hi_ne k_rd k_b (by decide)) h.1)).trans r7
              have n1_13 := (x208.2 G.2 1 lt_G_2 (fun h => (show ¬ G.2 = b by omega) h.1)).trans n1_13
              have n2_13 := (x208.2 G.2 2 lt_G_2 (fun h => (show ¬ G.2 = b by omega) h.1)).trans n2_13
              have n3_13 := (x208.2 G.2 3 lt_G_2 (fun h => (show ¬ G.2 = b by omega) h.1)).trans n3_13
              have n4_13 := (x208.2 G.2 4 lt_G_2 (fun h => (show ¬ G.2 = b by omega) h.1)).trans n4_13
              have e78 := (x208.2 G.2 5 lt_G_2 (fun h => (show ¬ G.2 = b by omega) h.1)).trans e78
              have e19 := (x208.2 G.2 0 lt_G_2 (fun h => (show ¬ G.2 = b by omega) h.1)).trans e19
              have lt_rd := Nat.lt_of_lt_of_le lt_rd x208.1
              have lt_na := Nat.lt_of_lt_of_le lt_na x208.1
              have lt_a := Nat.lt_of_lt_of_le lt_a x208.1
              have lt_b := Nat.lt_of_lt_of_le lt_b x208.1
              have lt_G_2 := Nat.lt_of_lt_of_le lt_G_2 x208.1
              have hX := hX.tr x208 (fun b j hb h => by first | omega | (dsimp only at h ⊢; omega) | (dsimp only at h; omega) | (dsimp only; omega))
              have m208 := x208.1
              have htk := htk.xf hHo k_rd et_ex.rf x208 (fun a j hs => .inr (.inl (by have e := hs.1; rw [e]; exact k_b)))
              refine hs_aload (i := 4) (p := 213) (by decide +kernel) rfl ?_
              refine hs_astore (i := 2) (p := 214) (by decide +kernel) (Nat.le_of_ble_eq_true rfl) ?_
              have hI := hI.snoc (hi' := G208.2) (fun c c1 c2 i ci => x208.2 c i (by omega) ci) e208 n1_13 ⟨by omega, lt_G_2⟩ (⟨vv, hvv, e78, .inl ⟨n4_13, rfl⟩⟩)
              refine hs_aload (i := 0) (p := 215) (by decide +kernel) rfl ?_
              refine hs_gst (v := Value.ref 27) (p := 218) (by decide +kernel) ?_
              refine ht_callv (T := et_TT) (t := 7) (mi := 78) (na := 1) (ci := 5) (lk := 6) (lm := 2) (L0 := eg_en (eg_mL 78) [.ref rd, .ref 27]) (by decide +kernel) rfl hH k_rd rfl rfl rfl rfl rfl (by rw [show eg_mL 78 = 2 from by decide +kernel]; first | done | rfl) ?_
              refine (fc_is hH k_rd htk htl e129 (by omega) (wd := 27) (by decide)).mono (fun u hu => xp_cb hu ?_)
              by_cases i218 : wat L (y + 1) = 27
              · rw [if_pos i218]
                have il218 : (y + 1) < L.length := wat_i (by rw [i218]; decide)
                show et_go none _ 81 221 _ [.int (Int32.ofNat 1)] _ _ _ _
                refine hs_if1 (c := .ne) (t := 227) (f := 224) (by decide +kernel) (show ¬ Int32.ofNat 1 = 0 by decide) ?_
                refine hs_aload (i := 0) (p := 228) (by decide +kernel) rfl ?_
                refine hs_dup1 (p := 229) (by decide +kernel) ?_
                refine hf_get (T := et_TT) (t := 7) (ci := 5) (f := 8) (p := 232) (by decide +kernel) rfl hH k_rd e129 ?_
                refine hs_k (x := Int32.ofNat 1) (p := 233) (by decide +kernel) ?_
                refine hs_iaddn (p := 234) (by decide +kernel) ?_
                have hHo := hH
                refine hf_put (T := et_TT) (t := 7) (ci := 5) (f := 8) (p := 237) (ty := .int) (by decide +kernel) rfl rfl rfl rfl rfl hH k_rd (hi_nv (by omega) (by omega)) (fun G234 hH x234 e234 => ?_)
                have hJ := hJ.xs hHo k_rd x234 (fun a j hs => ⟨fun _ => by first | omega | (dsimp only at hs; omega), fun k6 => by have e9 : a = rd := (by first | omega | (dsimp only at hs; omega)); rw [e9, k_rd] at k6; exact nomatch k6⟩)
                have r2 := (x234.2 rd 2 lt_rd (fun h => absurd h.2 (by decide))).trans r2
                have r6 := (x234.2 rd 6 lt_rd (fun h => absurd h.2 (by decide))).trans r6
                have r7 := (x234.2 rd 7 lt_rd (fun h => absurd h.2 (by decide))).trans r7
                have e208 := (x234.2 b 1 lt_b (fun h => (hi_ne k_b k_rd (by decide)) h.1)).trans e208
                have n1_13 := (x234.2 G.2 1 lt_G_2 (fun h => (hi_ne k_G_2 k_rd (by decide)) h.1)).trans n1_13
                have n2_13 := (x234.2 G.2 2 lt_G_2 (fun h => (hi_ne k_G_2 k_rd (by decide)) h.1)).trans n2_13
                have n3_13 := (x234.2 G.2 3 lt_G_2 (fun h => (hi_ne k_G_2 k_rd (by decide)) h.1)).trans n3_13
                have n4_13 := (x234.2 G.2 4 lt_G_2 (fun h => (hi_ne k_G_2 k_rd (by decide)) h.1)).trans n4_13
                have e78 := (x234.2 G.2 5 lt_G_2 (fun h => (hi_ne k_G_2 k_rd (by decide)) h.1)).trans e78
                have e19 := (x234.2 G.2 0 lt_G_2 (fun h => (hi_ne k_G_2 k_rd (by decide)) h.1)).trans e19
                have lt_rd := Nat.lt_of_lt_of_le lt_rd x234.1
                have lt_na := Nat.lt_of_lt_of_le lt_na x234.1
                have lt_a := Nat.lt_of_lt_of_le lt_a x234.1
                have lt_b := Nat.lt_of_lt_of_le lt_b x234.1
                have lt_G_2 := Nat.lt_of_lt_of_le lt_G_2 x234.1
                have hX := hX.tr x234 (fun b j hb h => by first | omega | (dsimp only at h ⊢; omega) | (dsimp only at h; omega) | (dsimp only; omega))
                have m234 := x234.1
                have htk := htk.xf hHo k_rd et_ex.rf x234 (fun a j hs => .inl (by first | omega | (dsimp only at hs; omega)))
                have hI := hI.fr (x234.agf (lo := G0.2) (hi := G208.2) (by omega) (fun a j h1 h2 hs => by first | omega | (dsimp only at hs; omega)))
                have e234 : et_pl (eg_at G234 rd) 8 = some (.int (Int32.ofNat (y + 2))) := e234
                refine hs_iinc1 (i := 3) (p := 240) (by decide +kernel) rfl (Nat.le_of_ble_eq_true rfl) ?_
                refine hs_goto (p := 6) (by decide +kernel) ?_
                obtain ⟨n', rfl⟩ : ∃ n', n = n' + 1 := ⟨n - 1, by omega⟩
                rw [show sp_lp sp_part 27 (fun f g e => f e + g e) (n' + 1) f (L.drop y) = sp_lp sp_part 27 (fun f g e => f e + g e) n' _ (L.drop (y + 2)) from sp_lp_y (sp_part_1 hnn i108) i218 (by decide)]
                show et_go none _ 81 6 [some (.ref rd), some (.ref a), some (.ref G.2), some (.int (Int32.ofNat (i + 1))), some (.ref G.2), some (.int (Int32.ofNat 0))] [] _ _ _ _
                exact ih (L.length - (y + 2)) (by omega) hH hx0 hX k_rd htk e234 (by omega) r2 (by omega) hJ k_a k_G_2 hI (by omega) n1_13 (by omega) (by omega) (by omega) (by omega) rfl
              · rw [if_neg i218]
                show et_go none _ 81 221 _ [.int (Int32.ofNat 0)] _ _ _ _
                refine hs_if0 (c := .ne) (t := 227) (f := 224) (by decide +kernel) (show ¬ (¬ Int32.ofNat 0 = 0) by decide) ?_
                refine hs_goto (p := 243) (by decide +kernel) ?_
                refine hs_aload (i := 1) (p := 244) (by decide +kernel) rfl ?_
                refine hs_aret (cn := "KnobEye$Node") (by decide +kernel) ?_
                have lo_a := hI.bd
                refine ⟨_, _, _, _, _, rfl, hx0, hH, rx_out hX, ?_, hJ⟩
                rw [show sp_lp sp_part 27 (fun f g e => f e + g e) n f (L.drop y) = some (_, L.drop (y + 1)) from sp_lp_n (sp_part_1 hnn i108) i218]
                exact ⟨(y + 1), _, rfl, (by omega), (by omega), e129, r2, rfl, k_a, ⟨hI.sm.wk (Nat.le_refl _) (by omega), lo_a.2.2.1⟩⟩
      · rw [if_neg i34]
        show et_go none _ 81 37 _ [.int (Int32.ofNat 0)] _ _ _ _
        refine hs_if0 (c := .ne) (t := 44) (f := 40) (by decide +kernel) (show ¬ (¬ Int32.ofNat 0 = 0) by decide) ?_
        refine hs_k (x := Int32.ofNat 1) (p := 41) (by decide +kernel) ?_
        refine hs_goto (p := 45) (by decide +kernel) ?_
        refine hs_istore (i := 5) (p := 47) (by decide +kernel) (Nat.le_of_ble_eq_true rfl) ?_
        refine hs_iload (i := 5) (p := 49) (by decide +kernel) rfl ?_
        refine hs_if1 (c := .ne) (t := 132) (f := 52) (by decide +kernel) (show ¬ Int32.ofNat 1 = 0 by decide) ?_
        refine hs_iload (i := 5) (p := 134) (by decide +kernel) rfl ?_
        refine hs_if0 (c := .eq) (t := 195) (f := 137) (by decide +kernel) (show ¬ (Int32.ofNat 1 = 0) by decide) ?_
        refine hs_aload (i := 4) (p := 139) (by decide +kernel) rfl ?_
        refine hs_aload (i := 0) (p := 140) (by decide +kernel) rfl ?_
        refine hs_k (x := Int32.ofNat 2) (p := 141) (by decide +kernel) ?_
        refine ht_callv (T := et_TT) (t := 7) (mi := 79) (na := 1) (ci := 5) (lk := 6) (lm := 2) (L0 := eg_en (eg_mL 79) [.ref rd, .int (Int32.ofNat 2)]) (by decide +kernel) rfl hH k_rd rfl rfl rfl rfl rfl (by rw [show eg_mL 79 = 2 from by decide +kernel]; first | done | rfl) ?_
        refine (fc_wh2 hH k_rd htk htl r8 (by omega)).mono (fun u hu => xp_cb hu ?_)
        by_cases w141 : sp_fw (wat L y) = true
        · rw [if_pos w141]
          obtain ⟨wn141, hwn, -⟩ := wat_t (L := L) (x := y) rfl (fun h => by rw [h] at w141; exact absurd w141 (by decide))
          have il141 : y < L.length := wat_i (fun h => by rw [h] at w141; exact absurd w141 (by decide))
          show et_go none _ 81 144 _ [.ref (wat L y), .ref G.2] _ _ _ _
          have hHo := hH
          refine hf_put (T := et_TT) (t := 6) (ci := 4) (f := 4) (p := 147) (ty := (.object "KnobEye$Word")) (by decide +kernel) rfl rfl rfl rfl rfl hH k_G_2 (.inr ⟨by decide, _, rfl, hH.2.1 _ (wat_lt htl)⟩) (fun G144 hH x144 e144 => ?_)
          have hJX := hJ.wx hHo k_rd x144
          have r8 := (x144.2 rd 8 lt_rd (fun h => (hi_ne k_rd k_G_2 (by decide)) h.1)).trans r8
          have r2 := (x144.2 rd 2 lt_rd (fun h => (hi_ne k_rd k_G_2 (by decide)) h.1)).trans r2
          have r6 := (x144.2 rd 6 lt_rd (fun h => (hi_ne k_rd k_G_2 (by decide)) h.1)).trans r6
          have r7 := (x144.2 rd 7 lt_rd (fun h => (hi_ne k_rd k_G_2 (by decide)) h.1)).trans r7
          have nb := (x144.2 b 1 lt_b (fun h => (show ¬ b = G.2 by omega) h.1)).trans nb
          have n1_13 := (x144.2 G.2 1 lt_G_2 (fun h => absurd h.2 (by decide))).trans n1_13
          have n2_13 := (x144.2 G.2 2 lt_G_2 (fun h => absurd h.2 (by decide))).trans n2_13
          have n3_13 := (x144.2 G.2 3 lt_G_2 (fun h => absurd h.2 (by decide))).trans n3_13
          have e27 := (x144.2 G.2 5 lt_G_2 (fun h => absurd h.2 (by decide))).trans e27
          have e19 := (x144.2 G.2 0 lt_G_2 (fun h => absurd h.2 (by decide))).trans e19
          have lt_rd := Nat.lt_of_lt_of_le lt_rd x144.1
          have lt_na := Nat.lt_of_lt_of_le lt_na x144.1
          have lt_a := Nat.lt_of_lt_of_le lt_a x144.1
          have lt_b := Nat.lt_of_lt_of_le lt_b x144.1
          have lt_G_2 := Nat.lt_of_lt_of_le lt_G_2 x144.1
          have hX := hX.tr x144 (fun b j hb h => by first | omega | (dsimp only at h ⊢; omega) | (dsimp only at h; omega) | (dsimp only; omega))
          have m144 := x144.1
          have htk := htk.xf hHo k_rd et_ex.rf x144 (fun a j hs => .inr (.inl (by have e := hs.1; rw [e]; exact k_G_2)))
          have hI := hI.fr (x144.agf (lo := G0.2) (hi := hi) (by omega) (fun a j h1 h2 hs => by first | omega | (dsimp only at hs; omega)))
          refine hs_aload (i := 4) (p := 149) (by decide +kernel) rfl ?_
          refine hf_get (T := et_TT) (t := 6) (ci := 4) (f := 4) (p := 152) (by decide +kernel) rfl hH k_G_2 e144 ?_
          refine hs_ifnonnull1 (p := 160) (by decide +kernel) ?_
          refine hs_aload (i := 0) (p := 161) (by decide +kernel) rfl ?_
          refine hs_dup1 (p := 162) (by decide +kernel) ?_
          refine ht_getn (T := et_TT) (t := 7) (ci := 5) (f := 3) (p := 165) (by decide +kernel) rfl rfl hH k_rd (fun c162 h162 e162 => ?_)
          refine hs_aload (i := 4) (p := 167) (by decide +kernel) rfl ?_
          refine hf_get (T := et_TT) (t := 6) (ci := 4) (f := 4) (p := 170) (by decide +kernel) rfl hH k_G_2 e144 ?_
          refine hs_gst (v := Value.ref 17) (p := 173) (by decide +kernel) ?_
          refine hf_acm (c := .ne) (tt := 180) (ff := 176) (by decide +kernel) (hi_ca hH (hH.2.1 _ (wat_lt htl)) (.inl rfl)) (by decide +kernel) (fun (q173 : ¬ Value.ref (wat L y) = .ref 17) => ?_) (fun (q173 : ¬ ¬ Value.ref (wat L y) = .ref 17) => ?_)
          · have q173 : ¬ (wat L y) = 17 := fun h => q173 (by rw [h])
            refine hs_k (x := Int32.ofNat 0) (p := 181) (by decide +kernel) ?_
            refine hs_ior (p := 182) (by decide +kernel) ?_
            obtain ⟨m181, hm181, hq181⟩ := hi_or (a := c162) (b := 0) (by omega) (by omega)
            rw [hq181]
            have hHo := hH
            refine hf_put (T := et_TT) (t := 7) (ci := 5) (f := 3) (p := 185) (ty := .boolean) (by decide +kernel) rfl rfl rfl (hi_fz (by omega)) rfl hH k_rd (hi_nv (by omega) (by omega)) (fun G182 hH x182 e182 => ?_)
            have hJ := hJX.up hHo k_rd e162 (by omega) x182 e182 (by omega) (fun h => (orJ1 (a := c162) (b := 0) (by omega) (by omega) (by omega) hq181 h).1) (fun h e9 => q173 (Value.ref.inj (Option.some.inj (e144.symm.trans e9))))
            have r8 := (x182.2 rd 8 lt_rd (fun h => absurd h.2 (by decide))).trans r8
            have r2 := (x182.2 rd 2 lt_rd (fun h => absurd h.2 (by decide))).trans r2
            have r6 := (x182.2 rd 6 lt_rd (fun h => absurd h.2 (by decide))).trans r6
            have r7 := (x182.2 rd 7 lt_rd (fun h => absurd h.2 (by decide))).trans r7
            have nb := (x182.2 b 1 lt_b (fun h => (hi_ne k_b k_rd (by decide)) h.1)).trans nb
            have n1_13 := (x182.2 G.2 1 lt_G_2 (fun h => (hi_ne k_G_2 k_rd (by decide)) h.1)).trans n1_13
            have n2_13 := (x182.2 G.2 2 lt_G_2 (fun h => (hi_ne k_G_2 k_rd (by decide)) h.1)).trans n2_13
            have n3_13 := (x182.2 G.2 3 lt_G_2 (fun h => (hi_ne k_G_2 k_rd (by decide)) h.1)).trans n3_13
            have e144 := (x182.2 G.2 4 lt_G_2 (fun h => (hi_ne k_G_2 k_rd (by decide)) h.1)).trans e144
            have e27 := (x182.2 G.2 5 lt_G_2 (fun h => (hi_ne k_G_2 k_rd (by decide)) h.1)).trans e27
            have e19 := (x182.2 G.2 0 lt_G_2 (fun h => (hi_ne k_G_2 k_rd (by decide)) h.1)).trans e19
            have lt_rd := Nat.lt_of_lt_of_le lt_rd x182.1
            have lt_na := Nat.lt_of_lt_of_le lt_na x182.1
            have lt_a := Nat.lt_of_lt_of_le lt_a x182.1
            have lt_b := Nat.lt_of_lt_of_le lt_b x182.1
            have lt_G_2 := Nat.lt_of_lt_of_le lt_G_2 x182.1
            have hX := hX.tr x182 (fun b j hb h => by first | omega | (dsimp only at h ⊢; omega) | (dsimp only at h; omega) | (dsimp only; omega))
            have m182 := x182.1
            have htk := htk.xf hHo k_rd et_ex.rf x182 (fun a j hs => .inl (by first | omega | (dsimp only at hs; omega)))
            have hI := hI.fr (x182.agf (lo := G0.2) (hi := hi) (by omega) (fun a j h1 h2 hs => by first | omega | (dsimp only at hs; omega)))
            refine hs_aload (i := 0) (p := 186) (by decide +kernel) rfl ?_
            refine hs_dup1 (p := 187) (by decide +kernel) ?_
            refine hf_get (T := et_TT) (t := 7) (ci := 5) (f := 8) (p := 190) (by decide +kernel) rfl hH k_rd r8 ?_
            refine hs_k (x := Int32.ofNat 1) (p := 191) (by decide +kernel) ?_
            refine hs_iaddn (p := 192) (by decide +kernel) ?_
            have hHo := hH
            refine hf_put (T := et_TT) (t := 7) (ci := 5) (f := 8) (p := 195) (ty := .int) (by decide +kernel) rfl rfl rfl rfl rfl hH k_rd (hi_nv (by omega) (by omega)) (fun G192 hH x192 e192 => ?_)
            have hJ := hJ.xs hHo k_rd x192 (fun a j hs => ⟨fun _ => by first | omega | (dsimp only at hs; omega), fun k6 => by have e9 : a = rd := (by first | omega | (dsimp only at hs; omega)); rw [e9, k_rd] at k6; exact nomatch k6⟩)
            have r2 := (x192.2 rd 2 lt_rd (fun h => absurd h.2 (by decide))).trans r2
            have r6 := (x192.2 rd 6 lt_rd (fun h => absurd h.2 (by decide))).trans r6
            have r7 := (x192.2 rd 7 lt_rd (fun h => absurd h.2 (by decide))).trans r7
            have nb := (x192.2 b 1 lt_b (fun h => (hi_ne k_b k_rd (by decide)) h.1)).trans nb
            have n1_13 := (x192.2 G.2 1 lt_G_2 (fun h => (hi_ne k_G_2 k_rd (by decide)) h.1)).trans n1_13
            have n2_13 := (x192.2 G.2 2 lt_G_2 (fun h => (hi_ne k_G_2 k_rd (by decide)) h.1)).trans n2_13
            have n3_13 := (x192.2 G.2 3 lt_G_2 (fun h => (hi_ne k_G_2 k_rd (by decide)) h.1)).trans n3_13
            have e144 := (x192.2 G.2 4 lt_G_2 (fun h => (hi_ne k_G_2 k_rd (by decide)) h.1)).trans e144
            have e27 := (x192.2 G.2 5 lt_G_2 (fun h => (hi_ne k_G_2 k_rd (by decide)) h.1)).trans e27
            have e19 := (x192.2 G.2 0 lt_G_2 (fun h => (hi_ne k_G_2 k_rd (by decide)) h.1)).trans e19
            have e182 := (x192.2 rd 3 lt_rd (fun h => absurd h.2 (by decide))).trans e182
            have lt_rd := Nat.lt_of_lt_of_le lt_rd x192.1
            have lt_na := Nat.lt_of_lt_of_le lt_na x192.1
            have lt_a := Nat.lt_of_lt_of_le lt_a x192.1
            have lt_b := Nat.lt_of_lt_of_le lt_b x192.1
            have lt_G_2 := Nat.lt_of_lt_of_le lt_G_2 x192.1
            have hX := hX.tr x192 (fun b j hb h => by first | omega | (dsimp only at h ⊢; omega) | (dsimp only at h; omega) | (dsimp only; omega))
            have m192 := x192.1
            have htk := htk.xf hHo k_rd et_ex.rf x192 (fun a j hs => .inl (by first | omega | (dsimp only at hs; omega)))
            have hI := hI.fr (x192.agf (lo := G0.2) (hi := hi) (by omega) (fun a j h1 h2 hs => by first | omega | (dsimp only at hs; omega)))
            have e192 : et_pl (eg_at G192 rd) 8 = some (.int (Int32.ofNat (y + 1))) := e192
            refine hs_aload (i := 2) (p := 196) (by decide +kernel) rfl ?_
            refine hs_ifnonnull1 (p := 205) (by decide +kernel) ?_
            refine hs_aload (i := 2) (p := 206) (by decide +kernel) rfl ?_
            refine hs_aload (i := 4) (p := 208) (by decide +kernel) rfl ?_
            have hHo := hH
            refine hf_next (ty := .object "KnobEye$Node") (p := 211) (by decide +kernel) rfl hH k_b k_G_2 (by omega) (fun G208 hH x208 e208 _ => ?_)
            have hJ := hJ.xs hHo k_rd x208 (fun a j hs => ⟨fun e9 => absurd (hs.1.symm.trans e9) (hi_ne k_b k_rd (by decide)), fun _ => by have h9 := hs.2; omega⟩)
            have e192 := (x208.2 rd 8 lt_rd (fun h => (hi_ne k_rd k_b (by decide)) h.1)).trans e192
            have r2 := (x208.2 rd 2 lt_rd (fun h => (hi_ne k_rd k_b (by decide)) h.1)).trans r2
            have r6 := (x208.2 rd 6 lt_rd (fun h => (hi_ne k_rd k_b (by decide)) h.1)).trans r6
            have r7 := (x208.2 rd 7 lt_rd (fun h => (hi_ne k_rd k_b (by decide)) h.1)).trans r7
            have n1_13 := (x208.2 G.2 1 lt_G_2 (fun h => (show ¬ G.2 = b by omega) h.1)).trans n1_13
            have n2_13 := (x208.2 G.2 2 lt_G_2 (fun h => (show ¬ G.2 = b by omega) h.1)).trans n2_13
            have n3_13 := (x208.2 G.2 3 lt_G_2 (fun h => (show ¬ G.2 = b by omega) h.1)).trans n3_13
            have e144 := (x208.2 G.2 4 lt_G_2 (fun h => (show ¬ G.2 = b by omega) h.1)).trans e144
            have e27 := (x208.2 G.2 5 lt_G_2 (fun h => (show ¬ G.2 = b by omega) h.1)).trans e27
            have e19 := (x208.2 G.2 0 lt_G_2 (fun h => (show ¬ G.2 = b by omega) h.1)).trans e19
            have e182 := (x208.2 rd 3 lt_rd (fun h => (hi_ne k_rd k_b (by decide)) h.1)).trans e182
            have lt_rd := Nat.lt_of_lt_of_le lt_rd x208.1
            have lt_na := Nat.lt_of_lt_of_le lt_na x208.1
            have lt_a := Nat.lt_of_lt_of_le lt_a x208.1
            have lt_b := Nat.lt_of_lt_of_le lt_b x208.1
            have lt_G_2 := Nat.lt_of_lt_of_le lt_G_2 x208.1
            have hX := hX.tr x208 (fun b j hb h => by first | omega | (dsimp only at h ⊢; omega) | (dsimp only at h; omega) | (dsimp only; omega))
            have m208 := x208.1
            have htk := htk.xf hHo k_rd et_ex.rf x208 (fun a j hs => .inr (.inl (by have e := hs.1; rw [e]; exact k_b)))
            refine hs_aload (i := 4) (p := 213) (by decide +kernel) rfl ?_
            refine hs_astore (i := 2) (p := 214) (by decide +kernel) (Nat.le_of_ble_eq_true rfl) ?_
            have hI := hI.snoc (hi' := G208.2) (fun c c1 c2 i ci => x208.2 c i (by omega) ci) e208 n1_13 ⟨by omega, lt_G_2⟩ (show pt G208 G.2 (fun e => e.1 (wat L y)) from ⟨1, by decide, e27, .inr ⟨_, w141, e144, funext (fun e => (Int64.one_mul _).symm)⟩⟩)
            refine hs_aload (i := 0) (p := 215) (by decide +kernel) rfl ?_
            refine hs_gst (v := Value.ref 27) (p := 218) (by decide +kernel) ?_
            refine ht_callv (T := et_TT) (t := 7) (mi := 78) (na := 1) (ci := 5) (lk := 6) (lm := 2) (L0 := eg_en (eg_mL 78) [.ref rd, .ref 27]) (by decide +kernel) rfl hH k_rd rfl rfl rfl rfl rfl (by rw [show eg_mL 78 = 2 from by decide +kernel]; first | done | rfl) ?_
            refine (fc_is hH k_rd htk htl e192 (by omega) (wd := 27) (by decide)).mono (fun u hu => xp_cb hu ?_)
            by_cases i218 : wat L (y + 1) = 27
            · rw [if_pos i218]
              have il218 : (y + 1) < L.length := wat_i (by rw [i218]; decide)
              show et_go none _ 81 221 _ [.int (Int32.ofNat 1)] _ _ _ _
              refine hs_if1 (c := .ne) (t := 227) (f := 224) (by decide +kernel) (show ¬ Int32.ofNat 1 = 0 by decide) ?_
              refine hs_aload (i := 0) (p := 228) (by decide +kernel) rfl ?_
              refine hs_dup1 (p := 229) (by decide +kernel) ?_
              refine hf_get (T := et_TT) (t := 7) (ci := 5) (f := 8) (p := 232) (by decide +kernel) rfl hH k_rd e192 ?_
              refine hs_k (x := Int32.ofNat 1) (p := 233) (by decide +kernel) ?_
              refine hs_iaddn (p := 234) (by decide +kernel) ?_
              have hHo := hH
              refine hf_put (T := et_TT) (t := 7) (ci := 5) (f := 8) (p := 237) (ty := .int) (by decide +kernel) rfl rfl rfl rfl rfl hH k_rd (hi_nv (by omega) (by omega)) (fun G234 hH x234 e234 => ?_)
              have hJ := hJ.xs hHo k_rd x234 (fun a j hs => ⟨fun _ => by first | omega | (dsimp only at hs; omega), fun k6 => by have e9 : a = rd := (by first | omega | (dsimp only at hs; omega)); rw [e9, k_rd] at k6; exact nomatch k6⟩)
              have r2 := (x234.2 rd 2 lt_rd (fun h => absurd h.2 (by decide))).trans r2
              have r6 := (x234.2 rd 6 lt_rd (fun h => absurd h.2 (by decide))).trans r6
              have r7 := (x234.2 rd 7 lt_rd (fun h => absurd h.2 (by decide))).trans r7
              have e208 := (x234.2 b 1 lt_b (fun h => (hi_ne k_b k_rd (by decide)) h.1)).trans e208
              have n1_13 := (x234.2 G.2 1 lt_G_2 (fun h => (hi_ne k_G_2 k_rd (by decide)) h.1)).trans n1_13
              have n2_13 := (x234.2 G.2 2 lt_G_2 (fun h => (hi_ne k_G_2 k_rd (by decide)) h.1)).trans n2_13
              have n3_13 := (x234.2 G.2 3 lt_G_2 (fun h => (hi_ne k_G_2 k_rd (by decide)) h.1)).trans n3_13
              have e144 := (x234.2 G.2 4 lt_G_2 (fun h => (hi_ne k_G_2 k_rd (by decide)) h.1)).trans e144
              have e27 := (x234.2 G.2 5 lt_G_2 (fun h => (hi_ne k_G_2 k_rd (by decide)) h.1)).trans e27
              have e19 := (x234.2 G.2 0 lt_G_2 (fun h => (hi_ne k_G_2 k_rd (by decide)) h.1)).trans e19
              have e182 := (x234.2 rd 3 lt_rd (fun h => absurd h.2 (by decide))).trans e182
              have lt_rd := Nat.lt_of_lt_of_le lt_rd x234.1
              have lt_na := Nat.lt_of_lt_of_le lt_na x234.1
              have lt_a := Nat.lt_of_lt_of_le lt_a x234.1
              have lt_b := Nat.lt_of_lt_of_le lt_b x234.1
              have lt_G_2 := Nat.lt_of_lt_of_le lt_G_2 x234.1
              have hX := hX.tr x234 (fun b j hb h => by first | omega | (dsimp only at h ⊢; omega) | (dsimp only at h; omega) | (dsimp only; omega))
              have m234 := x234.1
              have htk := htk.xf hHo k_rd et_ex.rf x234 (fun a j hs => .inl (by first | omega | (dsimp only at hs; omega)))
              have hI := hI.fr (x234.agf (lo := G0.2) (hi := G208.2) (by omega) (fun a j h1 h2 hs => by first | omega | (dsimp only at hs; omega)))
              have e234 : et_pl (eg_at G234 rd) 8 = some (.int (Int32.ofNat (y + 2))) := e234
              refine hs_iinc1 (i := 3) (p := 240) (by decide +kernel) rfl (Nat.le_of_ble_eq_true rfl) ?_
              refine hs_goto (p := 6) (by decide +kernel) ?_
              obtain ⟨n', rfl⟩ : ∃ n', n = n' + 1 := ⟨n - 1, by omega⟩
              rw [show sp_lp sp_part 27 (fun f g e => f e + g e) (n' + 1) f (L.drop y) = sp_lp sp_part 27 (fun f g e => f e + g e) n' _ (L.drop (y + 2)) from sp_lp_y (sp_part_3 i34 w141) i218 (by decide)]
              show et_go none _ 81 6 [some (.ref rd), some (.ref a), some (.ref G.2), some (.int (Int32.ofNat (i + 1))), some (.ref G.2), some (.int (Int32.ofNat 1))] [] _ _ _ _
              exact ih (L.length - (y + 2)) (by omega) hH hx0 hX k_rd htk e234 (by omega) r2 (by omega) hJ k_a k_G_2 hI (by omega) n1_13 (by omega) (by omega) (by omega) (by omega) rfl
            · rw [if_neg i218]
              show et_go none _ 81 221 _ [.int (Int32.ofNat 0)] _ _ _ _
              refine hs_if0 (c := .ne) (t := 227) (f := 224) (by decide +kernel) (show ¬ (¬ Int32.ofNat 0 = 0) by decide) ?_
              refine hs_goto (p := 243) (by decide +kernel) ?_
              refine hs_aload (i := 1) (p := 244) (by decide +kernel) rfl ?_
              refine hs_aret (cn := "KnobEye$Node") (by decide +kernel) ?_
              have lo_a := hI.bd
              refine ⟨_, _, _, _, _, rfl, hx0, hH, rx_out hX, ?_, hJ⟩
              rw [show sp_lp sp_part 27 (fun f g e => f e + g e) n f (L.drop y) = some (_, L.drop (y + 1)) from sp_lp_n (sp_part_3 i34 w141) i218]
              exact ⟨(y + 1), _, rfl, (by omega), (by omega), e192, r2, rfl, k_a, ⟨hI.sm.wk (Nat.le_refl _) (by omega), lo_a.2.2.1⟩⟩
          · have q173 : (wat L y) = 17 := Value.ref.inj (Decidable.of_not_not q173)
            refine hs_k (x := Int32.ofNat 1) (p := 177) (by decide +kernel) ?_
            refine hs_goto (p := 181) (by decide +kernel) ?_
            refine hs_ior (p := 182) (by decide +kernel) ?_
            obtain ⟨m181, hm181, hq181⟩ := hi_or (a := c162) (b := 1) (by omega) (by omega)
            rw [hq181]
            have hHo := hH
            refine hf_put (T := et_TT) (t := 7) (ci := 5) (f := 3) (p := 185) (ty := .boolean) (by decide +kernel) rfl rfl rfl (hi_fz (by omega)) rfl hH k_rd (hi_nv (by omega) (by omega)) (fun G182 hH x182 e182 => ?_)
            have hJ := hJX.up hHo k_rd e162 (by omega) x182 e182 (by omega) (fun h => (orJ1 (a := c162) (b := 1) (by omega) (by omega) (by omega) hq181 h).1) (fun h => absurd (orJ1 (a := c162) (b := 1) (by omega) (by omega) (by omega) hq181 h).2 (by decide))
            have r8 := (x182.2 rd 8 lt_rd (fun h => absurd h.2 (by decide))).trans r8
            have r2 := (x182.2 rd 2 lt_rd (fun h => absurd h.2 (by decide))).trans r2
            have r6 := (x182.2 rd 6 lt_rd (fun h => absurd h.2 (by decide))).trans r6
            have r7 := (x182.2 rd 7 lt_rd (fun h => absurd h.2 (by decide))).trans r7
            have nb := (x182.2 b 1 lt_b (fun h => (hi_ne k_b k_rd (by decide)) h.1)).trans nb
            have n1_13 := (x182.2 G.2 1 lt_G_2 (fun h => (hi_ne k_G_2 k_rd (by decide)) h.1)).trans n1_13
            have n2_13 := (x182.2 G.2 2 lt_G_2 (fun h => (hi_ne k_G_2 k_rd (by decide)) h.1)).trans n2_13
            have n3_13 := (x182.2 G.2 3 lt_G_2 (fun h => (hi_ne k_G_2 k_rd (by decide)) h.1)).trans n3_13
            have e144 := (x182.2 G.2 4 lt_G_2 (fun h => (hi_ne k_G_2 k_rd (by decide)) h.1)).trans e144
            have e27 := (x182.2 G.2 5 lt_G_2 (fun h => (hi_ne k_G_2 k_rd (by decide)) h.1)).trans e27
            have e19 := (x182.2 G.2 0 lt_G_2 (fun h => (hi_ne k_G_2 k_rd (by decide)) h.1)).trans e19
            have lt_rd := Nat.lt_of_lt_of_le lt_rd x182.1
            have lt_na := Nat.lt_of_lt_of_le lt_na x182.1
            have lt_a := Nat.lt_of_lt_of_le lt_a x182.1
            have lt_b := Nat.lt_of_lt_of_le lt_b x182.1
            have lt_G_2 := Nat.lt_of_lt_of_le lt_G_2 x182.1
            have hX := hX.tr x182 (fun b j hb h => by first | omega | (dsimp only at h ⊢; omega) | (dsimp only at h; omega) | (dsimp only; omega))
            have m182 := x182.1
            have htk := htk.xf hHo k_rd et_ex.rf x182 (fun a j hs => .inl (by first | omega | (dsimp only at hs; omega)))
            have hI := hI.fr (x182.agf (lo := G0.2) (hi := hi) (by omega) (fun a j h1 h2 hs => by first | omega | (dsimp only at hs; omega)))
            refine hs_aload (i := 0) (p := 186) (by decide +kernel) rfl ?_
            refine hs_dup1 (p := 187) (by decide +kernel) ?_
            refine hf_get (T := et_TT) (t := 7) (ci := 5) (f := 8) (p := 190) (by decide +kernel) rfl hH k_rd r8 ?_
            refine hs_k (x := Int32.ofNat 1) (p := 191) (by decide +kernel) ?_
            refine hs_iaddn (p := 192) (by decide +kernel) ?_
            have hHo := hH
            refine hf_put (T := et_TT) (t := 7) (ci := 5) (f := 8) (p := 195) (ty := .int) (by decide +kernel) rfl rfl rfl rfl rfl hH k_rd (hi_nv (by omega) (by omega)) (fun G192 hH x192 e192 => ?_)
            have hJ := hJ.xs hHo k_rd x192 (fun a j hs => ⟨fun _ => by first | omega | (dsimp only at hs; omega), fun k6 => by have e9 : a = rd := (by first | omega | (dsimp only at hs; omega)); rw [e9, k_rd] at k6; exact nomatch k6⟩)
            have r2 := (x192.2 rd 2 lt_rd (fun h => absurd h.2 (by decide))).trans r2
            have r6 := (x192.2 rd 6 lt_rd (fun h => absurd h.2 (by decide))).trans r6
            have r7 := (x192.2 rd 7 lt_rd (fun h => absurd h.2 (by decide))).trans r7
            have nb := (x192.2 b 1 lt_b (fun h => (hi_ne k_b k_rd (by decide)) h.1)).trans nb
            have n1_13 := (x192.2 G.2 1 lt_G_2 (fun h => (hi_ne k_G_2 k_rd (by decide)) h.1)).trans n1_13
            have n2_13 := (x192.2 G.2 2 lt_G_2 (fun h => (hi_ne k_G_2 k_rd (by decide)) h.1)).trans n2_13
            have n3_13 := (x192.2 G.2 3 lt_G_2 (fun h => (hi_ne k_G_2 k_rd (by decide)) h.1)).trans n3_13
            have e144 := (x192.2 G.2 4 lt_G_2 (fun h => (hi_ne k_G_2 k_rd (by decide)) h.1)).trans e144
            have e27 := (x192.2 G.2 5 lt_G_2 (fun h => (hi_ne k_G_2 k_rd (by decide)) h.1)).trans e27
            have e19 := (x192.2 G.2 0 lt_G_2 (fun h => (hi_ne k_G_2 k_rd (by decide)) h.1)).trans e19
            have e182 := (x192.2 rd 3 lt_rd (fun h => absurd h.2 (by decide))).trans e182
            have lt_rd := Nat.lt_of_lt_of_le lt_rd x192.1
            have lt_na := Nat.lt_of_lt_of_le lt_na x192.1
            have lt_a := Nat.lt_of_lt_of_le lt_a x192.1
            have lt_b := Nat.lt_of_lt_of_le lt_b x192.1
            have lt_G_2 := Nat.lt_of_lt_of_le lt_G_2 x192.1
            have hX := hX.tr x192 (fun b j hb h => by first | omega | (dsimp only at h ⊢; omega) | (dsimp only at h; omega) | (dsimp only; omega))
            have m192 := x192.1
            have htk := htk.xf hHo k_rd et_ex.rf x192 (fun a j hs => .inl (by first | omega | (dsimp only at hs; omega)))
            have hI := hI.fr (x192.agf (lo := G0.2) (hi := hi) (by omega) (fun a j h1 h2 hs => by first | omega | (dsimp only at hs; omega)))
            have e192 : et_pl (eg_at G192 rd) 8 = some (.int (Int32.ofNat (y + 1))) := e192
            refine hs_aload (i := 2) (p := 196) (by decide +kernel) rfl ?_
            refine hs_ifnonnull1 (p := 205) (by decide +kernel) ?_
            refine hs_aload (i := 2) (p := 206) (by decide +kernel) rfl ?_
            refine hs_aload (i := 4) (p := 208) (by decide +kernel) rfl ?_
            have hHo := hH
            refine hf_next (ty := .object "KnobEye$Node") (p := 211) (by decide +kernel) rfl hH k_b k_G_2 (by omega) (fun G208 hH x208 e208 _ => ?_)
            have hJ := hJ.xs hHo k_rd x208 (fun a j hs => ⟨fun e9 => absurd (hs.1.symm.trans e9) (hi_ne k_b k_rd (by decide)), fun _ => by have h9 := hs.2; omega⟩)
            have e192 := (x208.2 rd 8 lt_rd (fun h => (hi_ne k_rd k_b (by decide)) h.1)).trans e192
            have r2 := (x208.2 rd 2 lt_rd (fun h => (hi_ne k_rd k_b (by decide)) h.1)).trans r2
            have r6 := (x208.2 rd 6 lt_rd (fun h => (hi_ne k_rd k_b (by decide)) h.1)).trans r6
            have r7 := (x208.2 rd 7 lt_rd (fun h => (hi_ne k_rd k_b (by decide)) h.1)).trans r7
            have n1_13 := (x208.2 G.2 1 lt_G_2 (fun h => (show ¬ G.2 = b by omega) h.1)).trans n1_13
            have n2_13 := (x208.2 G.2 2 lt_G_2 (fun h => (show ¬ G.2 = b by omega) h.1)).trans n2_13
            have n3_13 := (x208.2 G.2 3 lt_G_2 (fun h => (show ¬ G.2 = b by omega) h.1)).trans n3_13
            have e144 := (x208.2 G.2 4 lt_G_2 (fun h => (show ¬ G.2 = b by omega) h.1)).trans e144
            have e27 := (x208.2 G.2 5 lt_G_2 (fun h => (show ¬ G.2 = b by omega) h.1)).trans e27
            have e19 := (x208.2 G.2 0 lt_G_2 (fun h => (show ¬ G.2 = b by omega) h.1)).trans e19
            have e182 := (x208.2 rd 3 lt_rd (fun h => (hi_ne k_rd k_b (by decide)) h.1)).trans e182
            have lt_rd := Nat.lt_of_lt_of_le lt_rd x208.1
            have lt_na := Nat.lt_of_lt_of_le lt_na x208.1
            have lt_a := Nat.lt_of_lt_of_le lt_a x208.1
            have lt_b := Nat.lt_of_lt_of_le lt_b x208.1
            have lt_G_2 := Nat.lt_of_lt_of_le lt_G_2 x208.1
            have hX := hX.tr x208 (fun b j hb h => by first | omega | (dsimp only at h ⊢; omega) | (dsimp only at h; omega) | (dsimp only; omega))
            have m208 := x208.1
            have htk := htk.xf hHo k_rd et_ex.rf x208 (fun a j hs => .inr (.inl (by have e := hs.1; rw [e]; exact k_b)))
            refine hs_aload (i := 4) (p := 213) (by decide +kernel) rfl ?_
            refine hs_astore (i := 2) (p := 214) (by decide +kernel) (Nat.le_of_ble_eq_true rfl) ?_
            have hI := hI.snoc (hi' := G208.2) (fun c c1 c2 i ci => x208.2 c i (by omega) ci) e208 n1_13 ⟨by omega, lt_G_2⟩ (show pt G208 G.2 (fun e => e.1 (wat L y)) from ⟨1, by decide, e27, .inr ⟨_, w141, e144, funext (fun e => (Int64.one_mul _).symm)⟩⟩)
            refine hs_aload (i := 0) (p := 215) (by decide +kernel) rfl ?_
            refine hs_gst (v := Value.ref 27) (p := 218) (by decide +kernel) ?_
            refine ht_callv (T := et_TT) (t := 7) (mi := 78) (na := 1) (ci := 5) (lk := 6) (lm := 2) (L0 := eg_en (eg_mL 78) [.ref rd, .ref 27]) (by decide +kernel) rfl hH k_rd rfl rfl rfl rfl rfl (by rw [show eg_mL 78 = 2 from by decide +kernel]; first | done | rfl) ?_
            refine (fc_is hH k_rd htk htl e192 (by omega) (wd := 27) (by decide)).mono (fun u hu => xp_cb hu ?_)
            by_cases i218 : wat L (y + 1) = 27
            · rw [if_pos i218]
              have il218 : (y + 1) < L.length := wat_i (by rw [i218]; decide)
              show et_go none _ 81 221 _ [.int (Int32.ofNat 1)] _ _ _ _
              refine hs_if1 (c := .ne) (t := 227) (f := 224) (by decide +kernel) (show ¬ Int32.ofNat 1 = 0 by decide) ?_
              refine hs_aload (i := 0) (p := 228) (by decide +kernel) rfl ?_
              refine hs_dup1 (p := 229) (by decide +kernel) ?_
              refine hf_get (T := et_TT) (t := 7) (ci := 5) (f := 8) (p := 232) (by decide +kernel) rfl hH k_rd e192 ?_
              refine hs_k (x := Int32.ofNat 1) (p := 233) (by decide +kernel) ?_
              refine hs_iaddn (p := 234) (by decide +kernel) ?_
              have hHo := hH
              refine hf_put (T := et_TT) (t := 7) (ci := 5) (f := 8) (p := 237) (ty := .int) (by decide +kernel) rfl rfl rfl rfl rfl hH k_rd (hi_nv (by omega) (by omega)) (fun G234 hH x234 e234 => ?_)
              have hJ := hJ.xs hHo k_rd x234 (fun a j hs => ⟨fun _ => by first | omega | (dsimp only at hs; omega), fun k6 => by have e9 : a = rd := (by first | omega | (dsimp only at hs; omega)); rw [e9, k_rd] at k6; exact nomatch k6⟩)
              have r2 := (x234.2 rd 2 lt_rd (fun h => absurd h.2 (by decide))).trans r2
              have r6 := (x234.2 rd 6 lt_rd (fun h => absurd h.2 (by decide))).trans r6
              have r7 := (x234.2 rd 7 lt_rd (fun h => absurd h.2 (by decide))).trans r7
              have e208 := (x234.2 b 1 lt_b (fun h => (hi_ne k_b k_rd (by decide)) h.1)).trans e208
              have n1_13 := (x234.2 G.2 1 lt_G_2 (fun h => (hi_ne k_G_2 k_rd (by decide)) h.1)).trans n1_13
              have n2_13 := (x234.2 G.2 2 lt_G_2 (fun h => (hi_ne k_G_2 k_rd (by decide)) h.1)).trans n2_13
              have n3_13 := (x234.2 G.2 3 lt_G_2 (fun h => (hi_ne k_G_2 k_rd (by decide)) h.1)).trans n3_13
              have e144 := (x234.2 G.2 4 lt_G_2 (fun h => (hi_ne k_G_2 k_rd (by decide)) h.1)).trans e144
              have e27 := (x234.2 G.2 5 lt_G_2 (fun h => (hi_ne k_G_2 k_rd (by decide)) h.1)).trans e27
              have e19 := (x234.2 G.2 0 lt_G_2 (fun h => (hi_ne k_G_2 k_rd (by decide)) h.1)).trans e19
              have e182 := (x234.2 rd 3 lt_rd (fun h => absurd h.2 (by decide))).trans e182
              have lt_rd := Nat.lt_of_lt_of_le lt_rd x234.1
              have lt_na := Nat.lt_of_lt_of_le lt_na x234.1
              have lt_a := Nat.lt_of_lt_of_le lt_a x234.1
              have lt_b := Nat.lt_of_lt_of_le lt_b x234.1
              have lt_G_2 := Nat.lt_of_lt_of_le lt_G_2 x234.1
              have hX := hX.tr x234 (fun b j hb h => by first | omega | (dsimp only at h ⊢; omega) | (dsimp only at h; omega) | (dsimp only; omega))
              have m234 := x234.1
              have htk := htk.xf hHo k_rd et_ex.rf x234 (fun a j hs => .inl (by first | omega | (dsimp only at hs; omega)))
              have hI := hI.fr (x234.agf (lo := G0.2) (hi := G208.2) (by omega) (fun a j h1 h2 hs => by first | omega | (dsimp only at hs; omega)))
              have e234 : et_pl (eg_at G234 rd) 8 = some (.int (Int32.ofNat (y + 2))) := e234
              refine hs_iinc1 (i := 3) (p := 240) (by decide +kernel) rfl (Nat.le_of_ble_eq_true rfl) ?_
              refine hs_goto (p := 6) (by decide +kernel) ?_
              obtain ⟨n', rfl⟩ : ∃ n', n = n' + 1 := ⟨n - 1, by omega⟩
              rw [show sp_lp sp_part 27 (fun f g e => f e + g e) (n' + 1) f (L.drop y) = sp_lp sp_part 27 (fun f g e => f e + g e) n' _ (L.drop (y + 2)) from sp_lp_y (sp_part_3 i34 w141) i218 (by decide)]
              show et_go none _ 81 6 [some (.ref rd), some (.ref a), some (.ref G.2), some (.int (Int32.ofNat (i + 1))), some (.ref G.2), some (.int (Int32.ofNat 1))] [] _ _ _ _
              exact ih (L.length - (y + 2)) (by omega) hH hx0 hX k_rd htk e234 (by omega) r2 (by omega) hJ k_a k_G_2 hI (by omega) n1_13 (by omega) (by omega) (by omega) (by omega) rfl
            · rw [if_neg i218]
              show et_go none _ 81 221 _ [.int (Int32.ofNat 0)] _ _ _ _
              refine hs_if0 (c := .ne) (t := 227) (f := 224) (by decide +kernel) (show ¬ (¬ Int32.ofNat 0 = 0) by decide) ?_
              refine hs_goto (p := 243) (by decide +kernel) ?_
              refine hs_aload (i := 1) (p := 244) (by decide +kernel) rfl ?_
              refine hs_aret (cn := "KnobEye$Node") (by decide +kernel) ?_
              have lo_a := hI.bd
              refine ⟨_, _, _, _, _, rfl, hx0, hH, rx_out hX, ?_, hJ⟩
              rw [show sp_lp sp_part 27 (fun f g e => f e + g e) n f (L.drop y) = some (_, L.drop (y + 1)) from sp_lp_n (sp_part_3 i34 w141) i218]
              exact ⟨(y + 1), _, rfl, (by omega), (by omega), e192, r2, rfl, k_a, ⟨hI.sm.wk (Nat.le_refl _) (by omega), lo_a.2.2.1⟩⟩
        · rw [if_neg w141]
          show et_go none _ 81 144 _ [.null, .ref G.2] _ _ _ _
          have hHo := hH
          refine hf_put (T := et_TT) (t := 6) (ci := 4) (f := 4) (p := 147) (ty := (.object "KnobEye$Word")) (by decide +kernel) rfl rfl rfl rfl rfl hH k_G_2 (.inl ⟨by decide, rfl⟩) (fun G144 hH x144 e144 => ?_)
          have hJ := hJ.nd hHo k_rd k_G_2 x144 e144 (fun h => nomatch h)
          have r8 := (x144.2 rd 8 lt_rd (fun h => (hi_ne k_rd k_G_2 (by decide)) h.1)).trans r8
          have r2 := (x144.2 rd 2 lt_rd (fun h => (hi_ne k_rd k_G_2 (by decide)) h.1)).trans r2
          have r6 := (x144.2 rd 6 lt_rd (fun h => (hi_ne k_rd k_G_2 (by decide)) h.1)).trans r6
          have r7 := (x144.2 rd 7 lt_rd (fun h => (hi_ne k_rd k_G_2 (by decide)) h.1)).trans r7
          have nb := (x144.2 b 1 lt_b (fun h => (show ¬ b = G.2 by omega) h.1)).trans nb
          have n1_13 := (x144.2 G.2 1 lt_G_2 (fun h => absurd h.2 (by decide))).trans n1_13
          have n2_13 := (x144.2 G.2 2 lt_G_2 (fun h => absurd h.2 (by decide))).trans n2_13
          have n3_13 := (x144.2 G.2 3 lt_G_2 (fun h => absurd h.2 (by decide))).trans n3_13
          have e27 := (x144.2 G.2 5 lt_G_2 (fun h => absurd h.2 (by decide))).trans e27
          have e19 := (x144.2 G.2 0 lt_G_2 (fun h => absurd h.2 (by decide))).trans e19
          have lt_rd := Nat.lt_of_lt_of_le lt_rd x144.1
          have lt_na := Nat.lt_of_lt_of_le lt_na x144.1
          have lt_a := Nat.lt_of_lt_of_le lt_a x144.1
          have lt_b := Nat.lt_of_lt_of_le lt_b x144.1
          have lt_G_2 := Nat.lt_of_lt_of_le lt_G_2 x144.1
          have hX := hX.tr x144 (fun b j hb h => by first | omega | (dsimp only at h ⊢; omega) | (dsimp only at h; omega) | (dsimp only; omega))
          have m144 := x144.1
          have htk := htk.xf hHo k_rd et_ex.rf x144 (fun a j hs => .inr (.inl (by have e := hs.1; rw [e]; exact k_G_2)))
          have hI := hI.fr (x144.agf (lo := G0.2) (hi := hi) (by omega) (fun a j h1 h2 hs => by first | omega | (dsimp only at hs; omega)))
          refine hs_aload (i := 4) (p := 149) (by decide +kernel) rfl ?_
          refine hf_get (T := et_TT) (t := 6) (ci := 4) (f := 4) (p := 152) (by decide +kernel) rfl hH k_G_2 e144 ?_
          refine hs_ifnonnull0 (p := 155) (by decide +kernel) ?_
          refine hs_aload (i := 0) (p := 156) (by decide +kernel) rfl ?_
          have hHo := hH
          refine ht_callv (T := et_TT) (t := 7) (mi := 76) (na := 0) (ci := 5) (lk := 6) (lm := 1) (L0 := eg_en (eg_mL 76) [.ref rd]) (by decide +kernel) rfl hH k_rd rfl rfl rfl rfl rfl (by rw [show eg_mL 76 = 1 from by decide +kernel]; first | done | rfl) ?_
          refine (fc_fail hH k_rd htk htl r8 (by omega) r2).mono (fun u hu => xw_cb hu (fun G156 v156 hH x156 hP156 => ?_))
          have hJ := hJ.xs hHo k_rd x156 (fun a j hs => ⟨fun _ => by first | omega | (dsimp only at hs; omega), fun k6 => by have e9 : a = rd := (by first | omega | (dsimp only at hs; omega)); rw [e9, k_rd] at k6; exact nomatch k6⟩)
          have r8 := (x156.2 rd 8 lt_rd (fun h => absurd h.2 (by decide))).trans r8
          have r6 := (x156.2 rd 6 lt_rd (fun h => absurd h.2 (by decide))).trans r6
          have r7 := (x156.2 rd 7 lt_rd (fun h => absurd h.2 (by decide))).trans r7
          have nb := (x156.2 b 1 lt_b (fun h => (hi_ne k_b k_rd (by decide)) h.1)).trans nb
          have n1_13 := (x156.2 G.2 1 lt_G_2 (fun h => (hi_ne k_G_2 k_rd (by decide)) h.1)).trans n1_13
          have n2_13 := (x156.2 G.2 2 lt_G_2 (fun h => (hi_ne k_G_2 k_rd (by decide)) h.1)).trans n2_13
          have n3_13 := (x156.2 G.2 3 lt_G_2 (fun h => (hi_ne k_G_2 k_rd (by decide)) h.1)).trans n3_13
          have e144 := (x156.2 G.2 4 lt_G_2 (fun h => (hi_ne k_G_2 k_rd (by decide)) h.1)).trans e144
          have e27 := (x156.2 G.2 5 lt_G_2 (fun h => (hi_ne k_G_2 k_rd (by decide)) h.1)).trans e27
          have e19 := (x156.2 G.2 0 lt_G_2 (fun h => (hi_ne k_G_2 k_rd (by decide)) h.1)).trans e19
          have lt_rd := Nat.lt_of_lt_of_le lt_rd x156.1
          have lt_na := Nat.lt_of_lt_of_le lt_na x156.1
          have lt_a := Nat.lt_of_lt_of_le lt_a x156.1
          have lt_b := Nat.lt_of_lt_of_le lt_b x156.1
          have lt_G_2 := Nat.lt_of_lt_of_le lt_G_2 x156.1
          have hX := hX.tr x156 (fun b j hb h => by first | omega | (dsimp only at h ⊢; omega) | (dsimp only at h; omega) | (dsimp only; omega))
          have m156 := x156.1
          have htk := htk.xf hHo k_rd et_ex.rf x156 (fun a j hs => .inl (by first | omega | (dsimp only at hs; omega)))
          have hI := hI.fr (x156.agf (lo := G0.2) (hi := hi) (by omega) (fun a j h1 h2 hs => by first | omega | (dsimp only at hs; omega)))
          obtain ⟨rfl, q156, hq156, e156⟩ := hP156
          show et_go none _ 81 159 _ [.null] _ _ _ _
          refine hs_aretN (cn := "KnobEye$Node") (by decide +kernel) ?_
          refine ⟨_, _, _, _, _, rfl, hx0, hH, rx_out hX, ?_, hJ⟩
          rw [show sp_lp sp_part 27 (fun f g e => f e + g e) n f (L.drop y) = none from sp_lp_0 (sp_part_3n i34 w141)]
          exact ⟨rfl, _, (by omega), e156⟩
theorem fj_sum (hH : et_H et_TT K G) (k_rd : K rd = some 7) (htk : tk K G rd L) (htl : tl L) (r8 : et_pl (eg_at G rd) 8 = some (.int (Int32.ofNat x))) (hx : x ≤ L.length) (r2 : et_pl (eg_at G rd) 2 = some (.int (-1))) (hJ : jR K G rd lo0) (hd : 2 ≤ d2) : et_go none d2 81 0 (eg_en (eg_mL 81) [.ref rd]) [] G 0 0 (fzJ lo0 rd L x K G (fS G.2) (sp_sum (L.drop x))) := by
  obtain ⟨d, rfl⟩ : ∃ d, d2 = d + 2 := ⟨d2 - 2, by omega⟩
  obtain ⟨ta, ba, na, ⟨k_ta, k_ba, k_na⟩, ⟨r4, r5, r6, r7⟩, hl4', -⟩ := id htk
  rw [show eg_mL 81 = 6 from by decide +kernel]
  show et_go none (d + 2) 81 0 [some (.ref rd), none, none, none, none, none] [] G 0 0 _
  have lt_rd := (hH.2.2 _ _ k_rd).1
  have lt_na := (hH.2.2 _ _ k_na).1
  have hX : xf (fun b j => (b = rd ∧ (2 ≤ j ∧ j ≤ 3)) ∨ (b = rd ∧ j = 8)) G G := xf.rf
  have hx0 : et_ex K K := et_ex.rf
  have hl4 : L.length ≤ 400 := by obtain ⟨_, _, _, _, _, h, _⟩ := htk; exact h
  have lr0 := (hH.2.2 _ _ k_rd).1
  refine hs_nul (p := 1) (by decide +kernel) ?_
  refine hs_astore0 (i := 1) (p := 2) (by decide +kernel) (Nat.le_of_ble_eq_true rfl) ?_
  refine hs_nul (p := 3) (by decide +kernel) ?_
  refine hs_astore0 (i := 2) (p := 4) (by decide +kernel) (Nat.le_of_ble_eq_true rfl) ?_
  refine hs_k (x := Int32.ofNat 0) (p := 5) (by decide +kernel) ?_
  refine hs_istore (i := 3) (p := 6) (by decide +kernel) (Nat.le_of_ble_eq_true rfl) ?_
  refine hs_iload (i := 3) (p := 7) (by decide +kernel) rfl ?_
  refine hs_k (x := Int32.ofNat 400) (p := 10) (by decide +kernel) ?_
  refine hs_br2n (c := .ge) (t := 243) (f := 13) (by decide +kernel) (by omega) (by omega) (fun h => absurd h (show ¬ (400 ≤ 0) by decide)) (fun _ => ?_)
  have hHo := hH
  refine hf_newNJ (p := 16) (by decide +kernel) (by omega) (by omega) hH (fun KK13 GG13 hxx13 x13 hH k_G_2 mm13 hf13 kj13 => ?_)
  have hJ := hJ.nw hHo k_rd x13 hf13.2.2.2.1 kj13
  have r8 := (x13.2 rd 8 lt_rd (fun h => h)).trans r8
  have r2 := (x13.2 rd 2 lt_rd (fun h => h)).trans r2
  have r6 := (x13.2 rd 6 lt_rd (fun h => h)).trans r6
  have r7 := (x13.2 rd 7 lt_rd (fun h => h)).trans r7
  have lt_rd := Nat.lt_of_lt_of_le lt_rd x13.1
  have lt_na := Nat.lt_of_lt_of_le lt_na x13.1
  have hX := hX.tr x13 (fun b j hb h => h.elim)
  have m13 := x13.1
  have htk := htk.xf hHo k_rd hxx13 x13 (fun a j hs => absurd hs id)
  have k_rd := hxx13 _ _ k_rd
  have k_na := hxx13 _ _ k_na
  have hx0 := hx0.tr hxx13
  have lt_G_2 : G.2 < GG13.2 := by omega
  obtain ⟨n1_13, n2_13, n3_13, n4_13, n5_13⟩ := hf13
  refine hs_dup1 (p := 17) (by decide +kernel) ?_
  refine hs_k (x := Int32.ofNat 6) (p := 19) (by decide +kernel) ?_
  have hHo := hH
  refine hs_callp (mi := 61) (na := 1) (lk := 6) (lm := 2) (L0 := eg_en (eg_mL 61) [.ref G.2, .int (Int32.ofNat 6)]) (by decide +kernel) rfl rfl rfl rfl rfl (by rw [show eg_mL 61 = 2 from by decide +kernel]; first | done | rfl) ?_
  refine (fc_nod hH k_G_2).mono (fun u hu => xw_cb hu (fun G19 v19 hH x19 hP19 => ?_))
  have hJ := hJ.xs hHo k_rd x19 (fun a j hs => ⟨fun e9 => absurd (hs.1.symm.trans e9) (hi_ne k_G_2 k_rd (by decide)), fun _ => by have h9 := hs.2; omega⟩)
  have r8 := (x19.2 rd 8 lt_rd (fun h => (hi_ne k_rd k_G_2 (by decide)) h.1)).trans r8
  have r2 := (x19.2 rd 2 lt_rd (fun h => (hi_ne k_rd k_G_2 (by decide)) h.1)).trans r2
  have r6 := (x19.2 rd 6 lt_rd (fun h => (hi_ne k_rd k_G_2 (by decide)) h.1)).trans r6
  have r7 := (x19.2 rd 7 lt_rd (fun h => (hi_ne k_rd k_G_2 (by decide)) h.1)).trans r7
  have n1_13 := (x19.2 G.2 1 lt_G_2 (fun h => absurd h.2 (by decide))).trans n1_13
  have n2_13 := (x19.2 G.2 2 lt_G_2 (fun h => absurd h.2 (by decide))).trans n2_13
  have n3_13 := (x19.2 G.2 3 lt_G_2 (fun h => absurd h.2 (by decide))).trans n3_13
  have n4_13 := (x19.2 G.2 4 lt_G_2 (fun h => absurd h.2 (by decide))).trans n4_13
  have n5_13 := (x19.2 G.2 5 lt_G_2 (fun h => absurd h.2 (by decide))).trans n5_13
  have lt_rd := Nat.lt_of_lt_of_le lt_rd x19.1
  have lt_na := Nat.lt_of_lt_of_le lt_na x19.1
  have lt_G_2 := Nat.lt_of_lt_of_le lt_G_2 x19.1
  have hX := hX.tr x19 (fun b j hb h => by first | omega | (dsimp only at h ⊢; omega) | (dsimp only at h; omega) | (dsimp only; omega))
  have m19 := x19.1
  have htk := htk.xf hHo k_rd et_ex.rf x19 (fun a j hs => .inr (.inl (by have e := hs.1; rw [e]; exact k_G_2)))
  obtain ⟨rfl, e19⟩ := hP19
  show et_go none _ 81 22 _ [.ref G.2] _ _ _ _
  refine hs_astore (i := 4) (p := 24) (by decide +kernel) (Nat.le_of_ble_eq_true rfl) ?_
  refine hs_aload (i := 4) (p := 26) (by decide +kernel) rfl ?_
  refine hs_k (x := Int32.ofNat 1) (p := 27) (by decide +kernel) ?_
  have hHo := hH
  refine hf_put (T := et_TT) (t := 6) (ci := 4) (f := 5) (p := 30) (ty := .int) (by decide +kernel) rfl rfl rfl rfl rfl hH k_G_2 hi_any (fun G27 hH x27 e27 => ?_)
  have hJ := hJ.xs hHo k_rd x27 (fun a j hs => ⟨fun e9 => absurd (hs.1.symm.trans e9) (hi_ne k_G_2 k_rd (by decide)), fun _ => by have h9 := hs.2; omega⟩)
  have r8 := (x27.2 rd 8 lt_rd (fun h => (hi_ne k_rd k_G_2 (by decide)) h.1)).trans r8
  have r2 := (x27.2 rd 2 lt_rd (fun h => (hi_ne k_rd k_G_2 (by decide)) h.1)).trans r2
  have r6 := (x27.2 rd 6 lt_rd (fun h => (hi_ne k_rd k_G_2 (by decide)) h.1)).trans r6
  have r7 := (x27.2 rd 7 lt_rd (fun h => (hi_ne k_rd k_G_2 (by decide)) h.1)).trans r7
  have n1_13 := (x27.2 G.2 1 lt_G_2 (fun h => absurd h.2 (by decide))).trans n1_13
  have n2_13 := (x27.2 G.2 2 lt_G_2 (fun h => absurd h.2 (by decide))).trans n2_13
  have n3_13 := (x27.2 G.2 3 lt_G_2 (fun h => absurd h.2 (by decide))).trans n3_13
  have n4_13 := (x27.2 G.2 4 lt_G_2 (fun h => absurd h.2 (by decide))).trans n4_13
  have e19 := (x27.2 G.2 0 lt_G_2 (fun h => absurd h.2 (by decide))).trans e19
  have lt_rd := Nat.lt_of_lt_of_le lt_rd x27.1
  have lt_na := Nat.lt_of_lt_of_le lt_na x27.1
  have lt_G_2 := Nat.lt_of_lt_of_le lt_G_2 x27.1
  have hX := hX.tr x27 (fun b j hb h => by first | omega | (dsimp only at h ⊢; omega) | (dsimp only at h; omega) | (dsimp only; omega))
  have m27 := x27.1
  have htk := htk.xf hHo k_rd et_ex.rf x27 (fun a j hs => .inr (.inl (by have e := hs.1; rw [e]; exact k_G_2)))
  refine hs_aload (i := 0) (p := 31) (by decide +kernel) rfl ?_
  refine hs_gst (v := Value.ref 33) (p := 34) (by decide +kernel) ?_
  refine ht_callv (T := et_TT) (t := 7) (mi := 78) (na := 1) (ci := 5) (lk := 6) (lm := 2) (L0 := eg_en (eg_mL 78) [.ref rd, .ref 33]) (by decide +kernel) rfl hH k_rd rfl rfl rfl rfl rfl (by rw [show eg_mL 78 = 2 from by decide +kernel]; first | done | rfl) ?_
  refine (fc_is hH k_rd htk htl r8 (by omega) (wd := 33) (by decide)).mono (fun u hu => xp_cb hu ?_)
  by_cases i34 : wat L x = 33
  · rw [if_pos i34]
    have il34 : x < L.length := wat_i (by rw [i34]; decide)
    show et_go none _ 81 37 _ [.int (Int32.ofNat 1)] _ _ _ _
    refine hs_if1 (c := .ne) (t := 44) (f := 40) (by decide +kernel) (show ¬ Int32.ofNat 1 = 0 by decide) ?_
    refine hs_k (x := Int32.ofNat 0) (p := 45) (by decide +kernel) ?_
    refine hs_istore (i := 5) (p := 47) (by decide +kernel) (Nat.le_of_ble_eq_true rfl) ?_
    refine hs_iload (i := 5) (p := 49) (by decide +kernel) rfl ?_
    refine hs_if0 (c := .ne) (t := 132) (f := 52) (by decide +kernel) (show ¬ (¬ Int32.ofNat 0 = 0) by decide) ?_
    refine hs_aload (i := 4) (p := 54) (by decide +kernel) rfl ?_
    refine hs_aload (i := 0) (p := 55) (by decide +kernel) rfl ?_
    refine hf_get (T := et_TT) (t := 7) (ci := 5) (f := 8) (p := 58) (by decide +kernel) rfl hH k_rd r8 ?_
    refine hs_aload (i := 0) (p := 59) (by decide +kernel) rfl ?_
    refine hf_get (T := et_TT) (t := 7) (ci := 5) (f := 7) (p := 62) (by decide +kernel) rfl hH k_rd r7 ?_
    refine hs_br2n (c := .ge) (t := 77) (f := 65) (by decide +kernel) (by omega) (by omega) (fun (c62 : (L.length + 1) ≤ x) => ?_) (fun (c62 : ¬ ((L.length + 1) ≤ x)) => ?_)
    · exact absurd c62 (by omega)
    · refine hs_aload (i := 0) (p := 66) (by decide +kernel) rfl ?_
      refine hf_get (T := et_TT) (t := 7) (ci := 5) (f := 6) (p := 69) (by decide +kernel) rfl hH k_rd r6 ?_
      refine hs_aload (i := 0) (p := 70) (by decide +kernel) rfl ?_
      refine hf_get (T := et_TT) (t := 7) (ci := 5) (f := 8) (p := 73) (by decide +kernel) rfl hH k_rd r8 ?_
      obtain ⟨nn, hnn, hxl⟩ := wat_t i34 (by decide)
      have htn := htk.n hnn r6
      cases nn with
      | none =>
        have htn : et_pl (eg_at G27 na) x = some (.int (-1)) := htn
        refine hf_ald (ins := .iaload) (T := et_TT) (t := 21) (kd := 0) (N := 401) (p := 74) (by decide +kernel) (fun _ _ _ _ _ _ _ _ _ _ => rfl) rfl rfl rfl hH k_na (by decide) htn ?_
        refine hs_goto (p := 78) (by decide +kernel) ?_
        have hHo := hH
        refine hf_put (T := et_TT) (t := 6) (ci := 4) (f := 5) (p := 81) (ty := .int) (by decide +kernel) rfl rfl rfl rfl rfl hH k_G_2 (hi_iv (by decide) (by decide)) (fun G78 hH x78 e78 => ?_)
        have hJ := hJ.xs hHo k_rd x78 (fun a j hs => ⟨fun e9 => absurd (hs.1.symm.trans e9) (hi_ne k_G_2 k_rd (by decide)), fun _ => by have h9 := hs.2; omega⟩)
        have r8 := (x78.2 rd 8 lt_rd (fun h => (hi_ne k_rd k_G_2 (by decide)) h.1)).trans r8
        have r2 := (x78.2 rd 2 lt_rd (fun h => (hi_ne k_rd k_G_2 (by decide)) h.1)).trans r2
        have r6 := (x78.2 rd 6 lt_rd (fun h => (hi_ne k_rd k_G_2 (by decide)) h.1)).trans r6
        have r7 := (x78.2 rd 7 lt_rd (fun h => (hi_ne k_rd k_G_2 (by decide)) h.1)).trans r7
        have n1_13 := (x78.2 G.2 1 lt_G_2 (fun h => absurd h.2 (by decide))).trans n1_13
        have n2_13 := (x78.2 G.2 2 lt_G_2 (fun h => absurd h.2 (by decide))).trans n2_13
        have n3_13 := (x78.2 G.2 3 lt_G_2 (fun h => absurd h.2 (by decide))).trans n3_13
        have n4_13 := (x78.2 G.2 4 lt_G_2 (fun h => absurd h.2 (by decide))).trans n4_13
        have e19 := (x78.2 G.2 0 lt_G_2 (fun h => absurd h.2 (by decide))).trans e19
        have lt_rd := Nat.lt_of_lt_of_le lt_rd x78.1
        have lt_na := Nat.lt_of_lt_of_le lt_na x78.1
        have lt_G_2 := Nat.lt_of_lt_of_le lt_G_2 x78.1
        have hX := hX.tr x78 (fun b j hb h => by first | omega | (dsimp only at h ⊢; omega) | (dsimp only at h; omega) | (dsimp only; omega))
        have m78 := x78.1
        have htk := htk.xf hHo k_rd et_ex.rf x78 (fun a j hs => .inr (.inl (by have e := hs.1; rw [e]; exact k_G_2)))
        refine hs_aload (i := 4) (p := 83) (by decide +kernel) rfl ?_
        refine hf_get (T := et_TT) (t := 6) (ci := 4) (f := 5) (p := 86) (by decide +kernel) rfl hH k_G_2 e78 ?_
        refine hs_if0 (c := .ge) (t := 94) (f := 89) (by decide +kernel) (show ¬ (0 ≤ (-1 : Int32)) by decide) ?_
        refine hs_aload (i := 0) (p := 90) (by decide +kernel) rfl ?_
        have hHo := hH
        refine ht_callv (T := et_TT) (t := 7) (mi := 76) (na := 0) (ci := 5) (lk := 6) (lm := 1) (L0 := eg_en (eg_mL 76) [.ref rd]) (by decide +kernel) rfl hH k_rd rfl rfl rfl rfl rfl (by rw [show eg_mL 76 = 1 from by decide +kernel]; first | done | rfl) ?_
        refine (fc_fail hH k_rd htk htl r8 (by omega) r2).mono (fun u hu => xw_cb hu (fun G90 v90 hH x90 hP90 => ?_))
        have hJ := hJ.xs hHo k_rd x90 (fun a j hs => ⟨fun _ => by first | omega | (dsimp only at hs; omega), fun k6 => by have e9 : a = rd := (by first | omega | (dsimp only at hs; omega)); rw [e9, k_rd] at k6; exact nomatch k6⟩)
        have r8 := (x90.2 rd 8 lt_rd (fun h => absurd h.2 (by decide))).trans r8
        have r6 := (x90.2 rd 6 lt_rd (fun h => absurd h.2 (by decide))).trans r6
        have r7 := (x90.2 rd 7 lt_rd (fun h => absurd h.2 (by decide))).trans r7
        have n1_13 := (x90.2 G.2 1 lt_G_2 (fun h => (hi_ne k_G_2 k_rd (by decide)) h.1)).trans n1_13
        have n2_13 := (x90.2 G.2 2 lt_G_2 (fun h => (hi_ne k_G_2 k_rd (by decide)) h.1)).trans n2_13
        have n3_13 := (x90.2 G.2 3 lt_G_2 (fun h => (hi_ne k_G_2 k_rd (by decide)) h.1)).trans n3_13
        have n4_13 := (x90.2 G.2 4 lt_G_2 (fun h => (hi_ne k_G_2 k_rd (by decide)) h.1)).trans n4_13
        have e78 := (x90.2 G.2 5 lt_G_2 (fun h => (hi_ne k_G_2 k_rd (by decide)) h.1)).trans e78
        have e19 := (x90.2 G.2 0 lt_G_2 (fun h => (hi_ne k_G_2 k_rd (by decide)) h.1)).trans e19
        have lt_rd := Nat.lt_of_lt_of_le lt_rd x90.1
        have lt_na := Nat.lt_of_lt_of_le lt_na x90.1
        have lt_G_2 := Nat.lt_of_lt_of_le lt_G_2 x90.1
        have hX := hX.tr x90 (fun b j hb h => by first | omega | (dsimp only at h ⊢; omega) | (dsimp only at h; omega) | (dsimp only; omega))
        have m90 := x90.1
        have htk := htk.xf hHo k_rd et_ex.rf x90 (fun a j hs => .inl (by first | omega | (dsimp only at hs; omega)))
        obtain ⟨rfl, q90, hq90, e90⟩ := hP90
        show et_go none _ 81 93 _ [.null] _ _ _ _
        refine hs_aretN (cn := "KnobEye$Node") (by decide +kernel) ?_
        refine ⟨_, _, _, _, _, rfl, hx0, hH, rx_out hX, ?_, hJ⟩
        rw [show sp_sum (L.drop x) = none from sp_many_0 (sp_part_0 hnn)]
        exact ⟨rfl, _, (by omega), e90⟩
      | some vv =>
        have htn : et_pl (eg_at G27 na) x = some (.int (Int32.ofNat vv)) := htn
        have hvv := (htl _ (List.mem_of_getElem? hnn)).2 vv rfl
        refine hf_ald (ins := .iaload) (T := et_TT) (t := 21) (kd := 0) (N := 401) (p := 74) (by decide +kernel) (fun _ _ _ _ _ _ _ _ _ _ => rfl) rfl rfl rfl hH k_na (by decide) htn ?_
        refine hs_goto (p := 78) (by decide +kernel) ?_
        have hHo := hH
        refine hf_put (T := et_TT) (t := 6) (ci := 4) (f := 5) (p := 81) (ty := .int) (by decide +kernel) rfl rfl rfl rfl rfl hH k_G_2 hi_any (fun G78 hH x78 e78 => ?_)
        have hJ := hJ.xs hHo k_rd x78 (fun a j hs => ⟨fun e9 => absurd (hs.1.symm.trans e9) (hi_ne k_G_2 k_rd (by decide)), fun _ => by have h9 := hs.2; omega⟩)
        have r8 := (x78.2 rd 8 lt_rd (fun h => (hi_ne k_rd k_G_2 (by decide)) h.1)).trans r8
        have r2 := (x78.2 rd 2 lt_rd (fun h => (hi_ne k_rd k_G_2 (by decide)) h.1)).trans r2
        have r6 := (x78.2 rd 6 lt_rd (fun h => (hi_ne k_rd k_G_2 (by decide)) h.1)).trans r6
        have r7 := (x78.2 rd 7 lt_rd (fun h => (hi_ne k_rd k_G_2 (by decide)) h.1)).trans r7
        have n1_13 := (x78.2 G.2 1 lt_G_2 (fun h => absurd h.2 (by decide))).trans n1_13
        have n2_13 := (x78.2 G.2 2 lt_G_2 (fun h => absurd h.2 (by decide))).trans n2_13
        have n3_13 := (x78.2 G.2 3 lt_G_2 (fun h => absurd h.2 (by decide))).trans n3_13
        have n4_13 := (x78.2 G.2 4 lt_G_2 (fun h => absurd h.2 (by decide))).trans n4_13
        have e19 := (x78.2 G.2 0 lt_G_2 (fun h => absurd h.2 (by decide))).trans e19
        have lt_rd := Nat.lt_of_lt_of_le lt_rd x78.1
        have lt_na := Nat.lt_of_lt_of_le lt_na x78.1
        have lt_G_2 := Nat.lt_of_lt_of_le lt_G_2 x78.1
        have hX := hX.tr x78 (fun b j hb h => by first | omega | (dsimp only at h ⊢; omega) | (dsimp only at h; omega) | (dsimp only; omega))
        have m78 := x78.1
        have htk := htk.xf hHo k_rd et_ex.rf x78 (fun a j hs => .inr (.inl (by have e := hs.1; rw [e]; exact k_G_2)))
        refine hs_aload (i := 4) (p := 83) (by decide +kernel) rfl ?_
        refine hf_get (T := et_TT) (t := 6) (ci := 4) (f := 5) (p := 86) (by decide +kernel) rfl hH k_G_2 e78 ?_
        refine hs_if1 (c := .ge) (t := 94) (f := 89) (by decide +kernel) (rs_ng (by omega)) ?_
        refine hs_aload (i := 0) (p := 95) (by decide +kernel) rfl ?_
        refine hs_dup1 (p := 96) (by decide +kernel) ?_
        refine hf_get (T := et_TT) (t := 7) (ci := 5) (f := 8) (p := 99) (by decide +kernel) rfl hH k_rd r8 ?_
        refine hs_k (x := Int32.ofNat 1) (p := 100) (by decide +kernel) ?_
        refine hs_iaddn (p := 101) (by decide +kernel) ?_
        have hHo := hH
        refine hf_put (T := et_TT) (t := 7) (ci := 5) (f := 8) (p := 104) (ty := .int) (by decide +kernel) rfl rfl rfl rfl rfl hH k_rd (hi_nv (by omega) (by omega)) (fun G101 hH x101 e101 => ?_)
        have hJ := hJ.xs hHo k_rd x101 (fun a j hs => ⟨fun _ => by first | omega | (dsimp only at hs; omega), fun k6 => by have e9 : a = rd := (by first | omega | (dsimp only at hs; omega)); rw [e9, k_rd] at k6; exact nomatch k6⟩)
        have r2 := (x101.2 rd 2 lt_rd (fun h => absurd h.2 (by decide))).trans r2
        have r6 := (x101.2 rd 6 lt_rd (fun h => absurd h.2 (by decide))).trans r6
        have r7 := (x101.2 rd 7 lt_rd (fun h => absurd h.2 (by decide))).trans r7
        have n1_13 := (x101.2 G.2 1 lt_G_2 (fun h => (hi_ne k_G_2 k_rd (by decide)) h.1)).trans n1_13
        have n2_13 := (x101.2 G.2 2 lt_G_2 (fun h => (hi_ne k_G_2 k_rd (by decide)) h.1)).trans n2_13
        have n3_13 := (x101.2 G.2 3 lt_G_2 (fun h => (hi_ne k_G_2 k_rd (by decide)) h.1)).trans n3_13
        have n4_13 := (x101.2 G.2 4 lt_G_2 (fun h => (hi_ne k_G_2 k_rd (by decide)) h.1)).trans n4_13
        have e78 := (x101.2 G.2 5 lt_G_2 (fun h => (hi_ne k_G_2 k_rd (by decide)) h.1)).trans e78
        have e19 := (x101.2 G.2 0 lt_G_2 (fun h => (hi_ne k_G_2 k_rd (by decide)) h.1)).trans e19
        have lt_rd := Nat.lt_of_lt_of_le lt_rd x101.1
        have lt_na := Nat.lt_of_lt_of_le lt_na x101.1
        have lt_G_2 := Nat.lt_of_lt_of_le lt_G_2 x101.1
        have hX := hX.tr x101 (fun b j hb h => by first | omega | (dsimp only at h ⊢; omega) | (dsimp only at h; omega) | (dsimp only; omega))
        have m101 := x101.1
        have htk := htk.xf hHo k_rd et_ex.rf x101 (fun a j hs => .inl (by first | omega | (dsimp only at hs; omega)))
        have e101 : et_pl (eg_at G101 rd) 8 = some (.int (Int32.ofNat (x + 1))) := e101
        refine hs_aload (i := 0) (p := 105) (by decide +kernel) rfl ?_
        refine hs_gst (v := Value.ref 28) (p := 108) (by decide +kernel) ?_
        refine ht_callv (T := et_TT) (t := 7) (mi := 78) (na := 1) (ci := 5) (lk := 6) (lm := 2) (L0 := eg_en (eg_mL 78) [.ref rd, .ref 28]) (by decide +kernel) rfl hH k_rd rfl rfl rfl rfl rfl (by rw [show eg_mL 78 = 2 from by decide +kernel]; first | done | rfl) ?_
        refine (fc_is hH k_rd htk htl e101 (by omega) (wd := 28) (by decide)).mono (fun u hu => xp_cb hu ?_)
        by_cases i108 : wat L (x + 1) = 28
        · rw [if_pos i108]
          have il108 : (x + 1) < L.length := wat_i (by rw [i108]; decide)
          show et_go none _ 81 111 _ [.int (Int32.ofNat 1)] _ _ _ _
          refine hs_istore (i := 5) (p := 113) (by decide +kernel) (Nat.le_of_ble_eq_true rfl) ?_
          refine hs_aload (i := 0) (p := 114) (by decide +kernel) rfl ?_
          refine hs_dup1 (p := 115) (by decide +kernel) ?_
          refine hf_get (T := et_TT) (t := 7) (ci := 5) (f := 8) (p := 118) (by decide +kernel) rfl hH k_rd e101 ?_
          refine hs_iload (i := 5) (p := 120) (by decide +kernel) rfl ?_
          refine hs_if0 (c := .eq) (t := 127) (f := 123) (by decide +kernel) (show ¬ (Int32.ofNat 1 = 0) by decide) ?_
          refine hs_k (x := Int32.ofNat 1) (p := 124) (by decide +kernel) ?_
          refine hs_goto (p := 128) (by decide +kernel) ?_
          refine hs_iaddn (p := 129) (by decide +kernel) ?_
          have hHo := hH
          refine hf_put (T := et_TT) (t := 7) (ci := 5) (f := 8) (p := 132) (ty := .int) (by decide +kernel) rfl rfl rfl rfl rfl hH k_rd (hi_nv (by omega) (by omega)) (fun G129 hH x129 e129 => ?_)
          have hJ := hJ.xs hHo k_rd x129 (fun a j hs => ⟨fun _ => by first | omega | (dsimp only at hs; omega), fun k6 => by have e9 : a = rd := (by first | omega | (dsimp only at hs; omega)); rw [e9, k_rd] at k6; exact nomatch k6⟩)
          have r2 := (x129.2 rd 2 lt_rd (fun h => absurd h.2 (by decide))).trans r2
          have r6 := (x129.2 rd 6 lt_rd (fun h => absurd h.2 (by decide))).trans r6
          have r7 := (x129.2 rd 7 lt_rd (fun h => absurd h.2 (by decide))).trans r7
          have n1_13 := (x129.2 G.2 1 lt_G_2 (fun h => (hi_ne k_G_2 k_rd (by decide)) h.1)).trans n1_13
          have n2_13 := (x129.2 G.2 2 lt_G_2 (fun h => (hi_ne k_G_2 k_rd (by decide)) h.1)).trans n2_13
          have n3_13 := (x129.2 G.2 3 lt_G_2 (fun h => (hi_ne k_G_2 k_rd (by decide)) h.1)).trans n3_13
          have n4_13 := (x129.2 G.2 4 lt_G_2 (fun h => (hi_ne k_G_2 k_rd (by decide)) h.1)).trans n4_13
          have e78 := (x129.2 G.2 5 lt_G_2 (fun h => (hi_ne k_G_2 k_rd (by decide)) h.1)).trans e78
          have e19 := (x129.2 G.2 0 lt_G_2 (fun h => (hi_ne k_G_2 k_rd (by decide)) h.1)).trans e19
          have lt_rd := Nat.lt_of_lt_of_le lt_rd x129.1
          have lt_na := Nat.lt_of_lt_of_le lt_na x129.1
          have lt_G_2 := Nat.lt_of_lt_of_le lt_G_2 x129.1
          have hX := hX.tr x129 (fun b j hb h => by first | omega | (dsimp only at h ⊢; omega) | (dsimp only at h; omega) | (dsimp only; omega))
          have m129 := x129.1
          have htk := htk.xf hHo k_rd et_ex.rf x129 (fun a j hs => .inl (by first | omega | (dsimp only at hs; omega)))
          have e129 : et_pl (eg_at G129 rd) 8 = some (.int (Int32.ofNat (x + 2))) := e129
          refine hs_iload (i := 5) (p := 134) (by decide +kernel) rfl ?_
          refine hs_if0 (c := .eq) (t := 195) (f := 137) (by decide +kernel) (show ¬ (Int32.ofNat 1 = 0) by decide) ?_
          refine hs_aload (i := 4) (p := 139) (by decide +kernel) rfl ?_
          refine hs_aload (i := 0) (p := 140) (by decide +kernel) rfl ?_
          refine hs_k (x := Int32.ofNat 2) (p := 141) (by decide +kernel) ?_
          refine ht_callv (T := et_TT) (t := 7) (mi := 79) (na := 1) (ci := 5) (lk := 6) (lm := 2) (L0 := eg_en (eg_mL 79) [.ref rd, .int (Int32.ofNat 2)]) (by decide +kernel) rfl hH k_rd rfl rfl rfl rfl rfl (by rw [show eg_mL 79 = 2 from by decide +kernel]; first | done | rfl) ?_
          refine (fc_wh2 hH k_rd htk htl e129 (by omega)).mono (fun u hu => xp_cb hu ?_)
          by_cases w141 : sp_fw (wat L (x + 2)) = true
          · rw [if_pos w141]
            obtain ⟨wn141, hwn, -⟩ := wat_t (L := L) (x := (x + 2)) rfl (fun h => by rw [h] at w141; exact absurd w141 (by decide))
            have il141 : (x + 2) < L.length := wat_i (fun h => by rw [h] at w141; exact absurd w141 (by decide))
            show et_go none _ 81 144 _ [.ref (wat L (x + 2)), .ref G.2] _ _ _ _
            have hHo := hH
            refine hf_put (T := et_TT) (t := 6) (ci := 4) (f := 4) (p := 147) (ty := (.object "KnobEye$Word")) (by decide +kernel) rfl rfl rfl rfl rfl hH k_G_2 (.inr ⟨by decide, _, rfl, hH.2.1 _ (wat_lt htl)⟩) (fun G144 hH x144 e144 => ?_)
            have hJX := hJ.wx hHo k_rd x144
            have e129 := (x144.2 rd 8 lt_rd (fun h => (hi_ne k_rd k_G_2 (by decide)) h.1)).trans e129
            have r2 := (x144.2 rd 2 lt_rd (fun h => (hi_ne k_rd k_G_2 (by decide)) h.1)).trans r2
            have r6 := (x144.2 rd 6 lt_rd (fun h => (hi_ne k_rd k_G_2 (by decide)) h.1)).trans r6
            have r7 := (x144.2 rd 7 lt_rd (fun h => (hi_ne k_rd k_G_2 (by decide)) h.1)).trans r7
            have n1_13 := (x144.2 G.2 1 lt_G_2 (fun h => absurd h.2 (by decide))).trans n1_13
            have n2_13 := (x144.2 G.2 2 lt_G_2 (fun h => absurd h.2 (by decide))).trans n2_13
            have n3_13 := (x144.2 G.2 3 lt_G_2 (fun h => absurd h.2 (by decide))).trans n3_13
            have e78 := (x144.2 G.2 5 lt_G_2 (fun h => absurd h.2 (by decide))).trans e78
            have e19 := (x144.2 G.2 0 lt_G_2 (fun h => absurd h.2 (by decide))).trans e19
            have lt_rd := Nat.lt_of_lt_of_le lt_rd x144.1
            have lt_na := Nat.lt_of_lt_of_le lt_na x144.1
            have lt_G_2 := Nat.lt_of_lt_of_le lt_G_2 x144.1
            have hX := hX.tr x144 (fun b j hb h => by first | omega | (dsimp only at h ⊢; omega) | (dsimp only at h; omega) | (dsimp only; omega))
            have m144 := x144.1
            have htk := htk.xf hHo k_rd et_ex.rf x144 (fun a j hs => .inr (.inl (by have e := hs.1; rw [e]; exact k_G_2)))
            refine hs_aload (i := 4) (p := 149) (by decide +kernel) rfl ?_
            refine hf_get (T := et_TT) (t := 6) (ci := 4) (f := 4) (p := 152) (by decide +kernel) rfl hH k_G_2 e144 ?_
            refine hs_ifnonnull1 (p := 160) (by decide +kernel) ?_
            refine hs_aload (i := 0) (p := 161) (by decide +kernel) rfl ?_
            refine hs_dup1 (p := 162) (by decide +kernel) ?_
            refine ht_getn (T := et_TT) (t := 7) (ci := 5) (f := 3) (p := 165) (by decide +kernel) rfl rfl hH k_rd (fun c162 h162 e162 => ?_)
            refine hs_aload (i := 4) (p := 167) (by decide +kernel) rfl ?_
            refine hf_get (T := et_TT) (t := 6) (ci := 4) (f := 4) (p := 170) (by decide +kernel) rfl hH k_G_2 e144 ?_
            refine hs_gst (v := Value.ref 17) (p := 173) (by decide +kernel) ?_
            refine hf_acm (c := .ne) (tt := 180) (ff := 176) (by decide +kernel) (hi_ca hH (hH.2.1 _ (wat_lt htl)) (.inl rfl)) (by decide +kernel) (fun (q173 : ¬ Value.ref (wat L (x + 2)) = .ref 17) => ?_) (fun (q173 : ¬ ¬ Value.ref (wat L (x + 2)) = .ref 17) => ?_)
            · have q173 : ¬ (wat L (x + 2)) = 17 := fun h => q173 (by rw [h])
              refine hs_k (x := Int32.ofNat 0) (p := 181) (by decide +kernel) ?_
              refine hs_ior (p := 182) (by decide +kernel) ?_
              obtain ⟨m181, hm181, hq181⟩ := hi_or (a := c162) (b := 0) (by omega) (by omega)
              rw [hq181]
              have hHo := hH
              refine hf_put (T := et_TT) (t := 7) (ci := 5) (f := 3) (p := 185) (ty := .boolean) (by decide +kernel) rfl rfl rfl (hi_fz (by omega)) rfl hH k_rd (hi_nv (by omega) (by omega)) (fun G182 hH x182 e182 => ?_)
              have hJ := hJX.up hHo k_rd e162 (by omega) x182 e182 (by omega) (fun h => (orJ1 (a := c162) (b := 0) (by omega) (by omega) (by omega) hq181 h).1) (fun h e9 => q173 (Value.ref.inj (Option.some.inj (e144.symm.trans e9))))
              have e129 := (x182.2 rd 8 lt_rd (fun h => absurd h.2 (by decide))).trans e129
              have r2 := (x182.2 rd 2 lt_rd (fun h => absurd h.2 (by decide))).trans r2
              have r6 := (x182.2 rd 6 lt_rd (fun h => absurd h.2 (by decide))).trans r6
              have r7 := (x182.2 rd 7 lt_rd (fun h => absurd h.2 (by decide))).trans r7
              have n1_13 := (x182.2 G.2 1 lt_G_2 (fun h => (hi_ne k_G_2 k_rd (by decide)) h.1)).trans n1_13
              have n2_13 := (x182.2 G.2 2 lt_G_2 (fun h => (hi_ne k_G_2 k_rd (by decide)) h.1)).trans n2_13
              have n3_13 := (x182.2 G.2 3 lt_G_2 (fun h => (hi_ne k_G_2 k_rd (by decide)) h.1)).trans n3_13
              have e144 := (x182.2 G.2 4 lt_G_2 (fun h => (hi_ne k_G_2 k_rd (by decide)) h.1)).trans e144
              have e78 := (x182.2 G.2 5 lt_G_2 (fun h => (hi_ne k_G_2 k_rd (by decide)) h.1)).trans e78
              have e19 := (x182.2 G.2 0 lt_G_2 (fun h => (hi_ne k_G_2 k_rd (by decide)) h.1)).trans e19
              have lt_rd := Nat.lt_of_lt_of_le lt_rd x182.1
              have lt_na := Nat.lt_of_lt_of_le lt_na x182.1
              have lt_G_2 := Nat.lt_of_lt_of_le lt_G_2 x182.1
              have hX := hX.tr x182 (fun b j hb h => by first | omega | (dsimp only at h ⊢; omega) | (dsimp only at h; omega) | (dsimp only; omega))
              have m182 := x182.1
              have htk := htk.xf hHo k_rd et_ex.rf x182 (fun a j hs => .inl (by first | omega | (dsimp only at hs; omega)))
              refine hs_aload (i := 0) (p := 186) (by decide +kernel) rfl ?_
              refine hs_dup1 (p := 187) (by decide +kernel) ?_
              refine hf_get (T := et_TT) (t := 7) (ci := 5) (f := 8) (p := 190) (by decide +kernel) rfl hH k_rd e129 ?_
              refine hs_k (x := Int32.ofNat 1) (p := 191) (by decide +kernel) ?_
              refine hs_iaddn (p := 192) (by decide +kernel) ?_
              have hHo := hH
              refine hf_put (T := et_TT) (t := 7) (ci := 5) (f := 8) (p := 195) (ty := .int) (by decide +kernel) rfl rfl rfl rfl rfl hH k_rd (hi_nv (by omega) (by omega)) (fun G192 hH x192 e192 => ?_)
              have hJ := hJ.xs hHo k_rd x192 (fun a j hs => ⟨fun _ => by first | omega | (dsimp only at hs; omega), fun k6 => by have e9 : a = rd := (by first | omega | (dsimp only at hs; omega)); rw [e9, k_rd] at k6; exact nomatch k6⟩)
              have r2 := (x192.2 rd 2 lt_rd (fun h => absurd h.2 (by decide))).trans r2
              have r6 := (x192.2 rd 6 lt_rd (fun h => absurd h.2 (by decide))).trans r6
              have r7 := (x192.2 rd 7 lt_rd (fun h => absurd h.2 (by decide))).trans r7
              have n1_13 := (x192.2 G.2 1 lt_G_2 (fun h => (hi_ne k_G_2 k_rd (by decide)) h.1)).trans n1_13
              have n2_13 := (x192.2 G.2 2 lt_G_2 (fun h => (hi_ne k_G_2 k_rd (by decide)) h.1)).trans n2_13
              have n3_13 := (x192.2 G.2 3 lt_G_2 (fun h => (hi_ne k_G_2 k_rd (by decide)) h.1)).trans n3_13
              have e144 := (x192.2 G.2 4 lt_G_2 (fun h => (hi_ne k_G_2 k_rd (by decide)) h.1)).trans e144
              have e78 := (x192.2 G.2 5 lt_G_2 (fun h => (hi_ne k_G_2 k_rd (by decide)) h.1)).trans e78
              have e19 := (x192.2 G.2 0 lt_G_2 (fun h => (hi_ne k_G_2 k_rd (by decide)) h.1)).trans e19
              have e182 := (x192.2 rd 3 lt_rd (fun h => absurd h.2 (by decide))).trans e182
              have lt_rd := Nat.lt_of_lt_of_le lt_rd x192.1
              have lt_na := Nat.lt_of_lt_of_le lt_na x192.1
              have lt_G_2 := Nat.lt_of_lt_of_le lt_G_2 x192.1
              have hX := hX.tr x192 (fun b j hb h => by first | omega | (dsimp only at h ⊢; omega) | (dsimp only at h; omega) | (dsimp only; omega))
              have m192 := x192.1
              have htk := htk.xf hHo k_rd et_ex.rf x192 (fun a j hs => .inl (by first | omega | (dsimp only at hs; omega)))
              have e192 : et_pl (eg_at G192 rd) 8 = some (.int (Int32.ofNat (x + 3))) := e192
              refine hs_aload0 (i := 2) (p := 196) (by decide +kernel) rfl ?_
              refine hs_ifnonnull0 (p := 199) (by decide +kernel) ?_
              refine hs_aload (i := 4) (p := 201) (by decide +kernel) rfl ?_
              refine hs_astore (i := 1) (p := 202) (by decide +kernel) (Nat.le_of_ble_eq_true rfl) ?_
              refine hs_goto (p := 211) (by decide +kernel) ?_
              refine hs_aload (i := 4) (p := 213) (by decide +kernel) rfl ?_
              refine hs_astore (i := 2) (p := 214) (by decide +kernel) (Nat.le_of_ble_eq_true rfl) ?_
              have hI := sI.one (lo := G.2) (hi := G192.2) n1_13 ⟨by omega, lt_G_2⟩ (⟨vv, hvv, e78, .inr ⟨_, w141, e144, rfl⟩⟩)
              refine hs_aload (i := 0) (p := 215) (by decide +kernel) rfl ?_
              refine hs_gst (v := Value.ref 27) (p := 218) (by decide +kernel) ?_
              refine ht_callv (T := et_TT) (t := 7) (mi := 78) (na := 1) (ci := 5) (lk := 6) (lm := 2) (L0 := eg_en (eg_mL 78) [.ref rd, .ref 27]) (by decide +kernel) rfl hH k_rd rfl rfl rfl rfl rfl (by rw [show eg_mL 78 = 2 from by decide +kernel]; first | done | rfl) ?_
              refine (fc_is hH k_rd htk htl e192 (by omega) (wd := 27) (by decide)).mono (fun u hu => xp_cb hu ?_)
              by_cases i218 : wat L (x + 3) = 27
              · rw [if_pos i218]
                have il218 : (x + 3) < L.length := wat_i (by rw [i218]; decide)
                show et_go none _ 81 221 _ [.int (Int32.ofNat 1)] _ _ _ _
                refine hs_if1 (c := .ne) (t := 227) (f := 224) (by decide +kernel) (show ¬ Int32.ofNat 1 = 0 by decide) ?_
                refine hs_aload (i := 0) (p := 228) (by decide +kernel) rfl ?_
                refine hs_dup1 (p := 229) (by decide +kernel) ?_
                refine hf_get (T := et_TT) (t := 7) (ci := 5) (f := 8) (p := 232) (by decide +kernel) rfl hH k_rd e192 ?_
                refine hs_k (x := Int32.ofNat 1) (p := 233) (by decide +kernel) ?_
                refine hs_iaddn (p := 234) (by decide +kernel) ?_
                have hHo := hH
                refine hf_put (T := et_TT) (t := 7) (ci := 5) (f := 8) (p := 237) (ty := .int) (by decide +kernel) rfl rfl rfl rfl rfl hH k_rd (hi_nv (by omega) (by omega)) (fun G234 hH x234 e234 => ?_)
                have hJ := hJ.xs hHo k_rd x234 (fun a j hs => ⟨fun _ => by first | omega | (dsimp only at hs; omega), fun k6 => by have e9 : a = rd := (by first | omega | (dsimp only at hs; omega)); rw [e9, k_rd] at k6; exact nomatch k6⟩)
                have r2 := (x234.2 rd 2 lt_rd (fun h => absurd h.2 (by decide))).trans r2
                have r6 := (x234.2 rd 6 lt_rd (fun h => absurd h.2 (by decide))).trans r6
                have r7 := (x234.2 rd 7 lt_rd (fun h => absurd h.2 (by decide))).trans r7
                have n1_13 := (x234.2 G.2 1 lt_G_2 (fun h => (hi_ne k_G_2 k_rd (by decide)) h.1)).trans n1_13
                have n2_13 := (x234.2 G.2 2 lt_G_2 (fun h => (hi_ne k_G_2 k_rd (by decide)) h.1)).trans n2_13
                have n3_13 := (x234.2 G.2 3 lt_G_2 (fun h => (hi_ne k_G_2 k_rd (by decide)) h.1)).trans n3_13
                have e144 := (x234.2 G.2 4 lt_G_2 (fun h => (hi_ne k_G_2 k_rd (by decide)) h.1)).trans e144
                have e78 := (x234.2 G.2 5 lt_G_2 (fun h => (hi_ne k_G_2 k_rd (by decide)) h.1)).trans e78
                have e19 := (x234.2 G.2 0 lt_G_2 (fun h => (hi_ne k_G_2 k_rd (by decide)) h.1)).trans e19
                have e182 := (x234.2 rd 3 lt_rd (fun h => absurd h.2 (by decide))).trans e182
                have lt_rd := Nat.lt_of_lt_of_le lt_rd x234.1
                have lt_na := Nat.lt_of_lt_of_le lt_na x234.1
                have lt_G_2 := Nat.lt_of_lt_of_le lt_G_2 x234.1
                have hX := hX.tr x234 (fun b j hb h => by first | omega | (dsimp only at h ⊢; omega) | (dsimp only at h; omega) | (dsimp only; omega))
                have m234 := x234.1
                have htk := htk.xf hHo k_rd et_ex.rf x234 (fun a j hs => .inl (by first | omega | (dsimp only at hs; omega)))
                have hI := hI.fr (x234.agf (lo := G.2) (hi := G192.2) (by omega) (fun a j h1 h2 hs => by first | omega | (dsimp only at hs; omega)))
                have e234 : et_pl (eg_at G234 rd) 8 = some (.int (Int32.ofNat (x + 4))) := e234
                refine hs_iinc1 (i := 3) (p := 240) (by decide +kernel) rfl (Nat.le_of_ble_eq_true rfl) ?_
                refine hs_goto (p := 6) (by decide +kernel) ?_
                rw [show sp_sum (L.drop x) = sp_lp sp_part 27 (fun f g e => f e + g e) 499 _ (L.drop (x + 4)) from sp_many_y (sp_part_2 hnn i108 w141) i218 (by decide)]
                show et_go none _ 81 6 [some (.ref rd), some (.ref G.2), some (.ref G.2), some (.int (Int32.ofNat (0 + 1))), some (.ref G.2), some (.int (Int32.ofNat 1))] [] _ _ _ _
                exact fnj_sum (K0 := K) (G0 := G) (i := 0 + 1) hH hx0 hX k_rd htk htl e234 (by omega) r2 lr0 (by omega) hJ k_G_2 k_G_2 hI (by omega) n1_13 (by omega) (by omega) (by omega) (by omega)
              · rw [if_neg i218]
                show et_go none _ 81 221 _ [.int (Int32.ofNat 0)] _ _ _ _
                refine hs_if0 (c := .ne) (t := 227) (f := 224) (by decide +kernel) (show ¬ (¬ Int32.ofNat 0 = 0) by decide) ?_
                refine hs_goto (p := 243) (by decide +kernel) ?_
                refine hs_aload (i := 1) (p := 244) (by decide +kernel) rfl ?_
                refine hs_aret (cn := "KnobEye$Node") (by decide +kernel) ?_
                have lo_a := hI.bd
                refine ⟨_, _, _, _, _, rfl, hx0, hH, rx_out hX, ?_, hJ⟩
                rw [show sp_sum (L.drop x) = some (_, L.drop (x + 3)) from sp_many_n (sp_part_2 hnn i108 w141) i218]
                exact ⟨(x + 3), _, rfl, (by omega), (by omega), e192, r2, rfl, k_G_2, ⟨hI.sm.wk (Nat.le_refl _) (by omega), lo_a.2.2.1⟩⟩
            · have q173 : (wat L (x + 2)) = 17 := Value.ref.inj (Decidable.of_not_not q173)
              refine hs_k (x := Int32.ofNat 1) (p := 177) (by decide +kernel) ?_
              refine hs_goto (p := 181) (by decide +kernel) ?_
              refine hs_ior (p := 182) (by decide +kernel) ?_
              obtain ⟨m181, hm181, hq181⟩ := hi_or (a := c162) (b := 1) (by omega) (by omega)
              rw [hq181]
              have hHo := hH
              refine hf_put (T := et_TT) (t := 7) (ci := 5) (f := 3) (p := 185) (ty := .boolean) (by decide +kernel) rfl rfl rfl (hi_fz (by omega)) rfl hH k_rd (hi_nv (by omega) (by omega)) (fun G182 hH x182 e182 => ?_)
              have hJ := hJX.up hHo k_rd e162 (by omega) x182 e182 (by omega) (fun h => (orJ1 (a := c162) (b := 1) (by omega) (by omega) (by omega) hq181 h).1) (fun h => absurd (orJ1 (a := c162) (b := 1) (by omega) (by omega) (by omega) hq181 h).2 (by decide))
              have e129 := (x182.2 rd 8 lt_rd (fun h => absurd h.2 (by decide))).trans e129
              have r2 := (x182.2 rd 2 lt_rd (fun h => absurd h.2 (by decide))).trans r2
              have r6 := (x182.2 rd 6 lt_rd (fun h => absurd h.2 (by decide))).trans r6
              have r7 := (x182.2 rd 7 lt_rd (fun h => absurd h.2 (by decide))).trans r7
              have n1_13 := (x182.2 G.2 1 lt_G_2 (fun h => (hi_ne k_G_2 k_rd (by decide)) h.1)).trans n1_13
              have n2_13 := (x182.2 G.2 2 lt_G_2 (fun h => (hi_ne k_G_2 k_rd (by decide)) h.1)).trans n2_13
              have n3_13 := (x182.2 G.2 3 lt_G_2 (fun h => (hi_ne k_G_2 k_rd (by decide)) h.1)).trans n3_13
              have e144 := (x182.2 G.2 4 lt_G_2 (fun h => (hi_ne k_G_2 k_rd (by decide)) h.1)).trans e144
              have e78 := (x182.2 G.2 5 lt_G_2 (fun h => (hi_ne k_G_2 k_rd (by decide)) h.1)).trans e78
              have e19 := (x182.2 G.2 0 lt_G_2 (fun h => (hi_ne k_G_2 k_rd (by decide)) h.1)).trans e19
              have lt_rd := Nat.lt_of_lt_of_le lt_rd x182.1
              have lt_na := Nat.lt_of_lt_of_le lt_na x182.1
              have lt_G_2 := Nat.lt_of_lt_of_le lt_G_2 x182.1
              have hX := hX.tr x182 (fun b j hb h => by first | omega | (dsimp only at h ⊢; omega) | (dsimp only at h; omega) | (dsimp only; omega))
              have m182 := x182.1
              have htk := htk.xf hHo k_rd et_ex.rf x182 (fun a j hs => .inl (by first | omega | (dsimp only at hs; omega)))
              refine hs_aload (i := 0) (p := 186) (by decide +kernel) rfl ?_
              refine hs_dup1 (p := 187) (by decide +kernel) ?_
              refine hf_get (T := et_TT) (t := 7) (ci := 5) (f := 8) (p := 190) (by decide +kernel) rfl hH k_rd e129 ?_
              refine hs_k (x := Int32.ofNat 1) (p := 191) (by decide +kernel) ?_
              refine hs_iaddn (p := 192) (by decide +kernel) ?_
              have hHo := hH
              refine hf_put (T := et_TT) (t := 7) (ci := 5) (f := 8) (p := 195) (ty := .int) (by decide +kernel) rfl rfl rfl rfl rfl hH k_rd (hi_nv (by omega) (by omega)) (fun G192 hH x192 e192 => ?_)
              have hJ := hJ.xs hHo k_rd x192 (fun a j hs => ⟨fun _ => by first | omega | (dsimp only at hs; omega), fun k6 => by have e9 : a = rd := (by first | omega | (dsimp only at hs; omega)); rw [e9, k_rd] at k6; exact nomatch k6⟩)
              have r2 := (x192.2 rd 2 lt_rd (fun h => absurd h.2 (by decide))).trans r2
              have r6 := (x192.2 rd 6 lt_rd (fun h => absurd h.2 (by decide))).trans r6
              have r7 := (x192.2 rd 7 lt_rd (fun h => absurd h.2 (by decide))).trans r7
              have n1_13 := (x192.2 G.2 1 lt_G_2 (fun h => (hi_ne k_G_2 k_rd (by decide)) h.1)).trans n1_13
              have n2_13 := (x192.2 G.2 2 lt_G_2 (fun h => (hi_ne k_G_2 k_rd (by decide)) h.1)).trans n2_13
              have n3_13 := (x192.2 G.2 3 lt_G_2 (fun h => (hi_ne k_G_2 k_rd (by decide)) h.1)).trans n3_13
              have e144 := (x192.2 G.2 4 lt_G_2 (fun h => (hi_ne k_G_2 k_rd (by decide)) h.1)).trans e144
              have e78 := (x192.2 G.2 5 lt_G_2 (fun h => (hi_ne k_G_2 k_rd (by decide)) h.1)).trans e78
              have e19 := (x192.2 G.2 0 lt_G_2 (fun h => (hi_ne k_G_2 k_rd (by decide)) h.1)).trans e19
              have e182 := (x192.2 rd 3 lt_rd (fun h => absurd h.2 (by decide))).trans e182
              have lt_rd := Nat.lt_of_lt_of_le lt_rd x192.1
              have lt_na := Nat.lt_of_lt_of_le lt_na x192.1
              have lt_G_2 := Nat.lt_of_lt_of_le lt_G_2 x192.1
              have hX := hX.tr x192 (fun b j hb h => by first | omega | (dsimp only at h ⊢; omega) | (dsimp only at h; omega) | (dsimp only; omega))
              have m192 := x192.1
              have htk := htk.xf hHo k_rd et_ex.rf x192 (fun a j hs => .inl (by first | omega | (dsimp only at hs; omega)))
              have e192 : et_pl (eg_at G192 rd) 8 = some (.int (Int32.ofNat (x + 3))) := e192
              refine hs_aload0 (i := 2) (p := 196) (by decide +kernel) rfl ?_
              refine hs_ifnonnull0 (p := 199) (by decide +kernel) ?_
              refine hs_aload (i := 4) (p := 201) (by decide +kernel) rfl ?_
              refine hs_astore (i := 1) (p := 202) (by decide +kernel) (Nat.le_of_ble_eq_true rfl) ?_
              refine hs_goto (p := 211) (by decide +kernel) ?_
              refine hs_aload (i := 4) (p := 213) (by decide +kernel) rfl ?_
              refine hs_astore (i := 2) (p := 214) (by decide +kernel) (Nat.le_of_ble_eq_true rfl) ?_
              have hI := sI.one (lo := G.2) (hi := G192.2) n1_13 ⟨by omega, lt_G_2⟩ (⟨vv, hvv, e78, .inr ⟨_, w141, e144, rfl⟩⟩)
              refine hs_aload (i := 0) (p := 215) (by decide +kernel) rfl ?_
              refine hs_gst (v := Value.ref 27) (p := 218) (by decide +kernel) ?_
              refine ht_callv (T := et_TT) (t := 7) (mi := 78) (na := 1) (ci := 5) (lk := 6) (lm := 2) (L0 := eg_en (eg_mL 78) [.ref rd, .ref 27]) (by decide +kernel) rfl hH k_rd rfl rfl rfl rfl rfl (by rw [show eg_mL 78 = 2 from by decide +kernel]; first | done | rfl) ?_
              refine (fc_is hH k_rd htk htl e192 (by omega) (wd := 27) (by decide)).mono (fun u hu => xp_cb hu ?_)
              by_cases i218 : wat L (x + 3) = 27
              · rw [if_pos i218]
                have il218 : (x + 3) < L.length := wat_i (by rw [i218]; decide)
                show et_go none _ 81 221 _ [.int (Int32.ofNat 1)] _ _ _ _
                refine hs_if1 (c := .ne) (t := 227) (f := 224) (by decide +kernel) (show ¬ Int32.ofNat 1 = 0 by decide) ?_
                refine hs_aload (i := 0) (p := 228) (by decide +kernel) rfl ?_
                refine hs_dup1 (p := 229) (by decide +kernel) ?_
                refine hf_get (T := et_TT) (t := 7) (ci := 5) (f := 8) (p := 232) (by decide +kernel) rfl hH k_rd e192 ?_
                refine hs_k (x := Int32.ofNat 1) (p := 233) (by decide +kernel) ?_
                refine hs_iaddn (p := 234) (by decide +kernel) ?_
                have hHo := hH
                refine hf_put (T := et_TT) (t := 7) (ci := 5) (f := 8) (p := 237) (ty := .int) (by decide +kernel) rfl rfl rfl rfl rfl hH k_rd (hi_nv (by omega) (by omega)) (fun G234 hH x234 e234 => ?_)
                have hJ := hJ.xs hHo k_rd x234 (fun a j hs => ⟨fun _ => by first | omega | (dsimp only at hs; omega), fun k6 => by have e9 : a = rd := (by first | omega | (dsimp only at hs; omega)); rw [e9, k_rd] at k6; exact nomatch k6⟩)
                have r2 := (x234.2 rd 2 lt_rd (fun h => absurd h.2 (by decide))).trans r2
                have r6 := (x234.2 rd 6 lt_rd (fun h => absurd h.2 (by decide))).trans r6
                have r7 := (x234.2 rd 7 lt_rd (fun h => absurd h.2 (by decide))).trans r7
                have n1_13 := (x234.2 G.2 1 lt_G_2 (fun h => (hi_ne k_G_2 k_rd (by decide)) h.1)).trans n1_13
                have n2_13 := (x234.2 G.2 2 lt_G_2 (fun h => (hi_ne k_G_2 k_rd (by decide)) h.1)).trans n2_13
                have n3_13 := (x234.2 G.2 3 lt_G_2 (fun h => (hi_ne k_G_2 k_rd (by decide)) h.1)).trans n3_13
                have e144 := (x234.2 G.2 4 lt_G_2 (fun h => (hi_ne k_G_2 k_rd (by decide)) h.1)).trans e144
                have e78 := (x234.2 G.2 5 lt_G_2 (fun h => (hi_ne k_G_2 k_rd (by decide)) h.1)).trans e78
                have e19 := (x234.2 G.2 0 lt_G_2 (fun h => (hi_ne k_G_2 k_rd (by decide)) h.1)).trans e19
                have e182 := (x234.2 rd 3 lt_rd (fun h => absurd h.2 (by decide))).trans e182
                have lt_rd := Nat.lt_of_lt_of_le lt_rd x234.1
                have lt_na := Nat.lt_of_lt_of_le lt_na x234.1
                have lt_G_2 := Nat.lt_of_lt_of_le lt_G_2 x234.1
                have hX := hX.tr x234 (fun b j hb h => by first | omega | (dsimp only at h ⊢; omega) | (dsimp only at h; omega) | (dsimp only; omega))
                have m234 := x234.1
                have htk := htk.xf hHo k_rd et_ex.rf x234 (fun a j hs => .inl (by first | omega | (dsimp only at hs; omega)))
                have hI := hI.fr (x234.agf (lo := G.2) (hi := G192.2) (by omega) (fun a j h1 h2 hs => by first | omega | (dsimp only at hs; omega)))
                have e234 : et_pl (eg_at G234 rd) 8 = some (.int (Int32.ofNat (x + 4))) := e234
                refine hs_iinc1 (i := 3) (p := 240) (by decide +kernel) rfl (Nat.le_of_ble_eq_true rfl) ?_
                refine hs_goto (p := 6) (by decide +kernel) ?_
                rw [show sp_sum (L.drop x) = sp_lp sp_part 27 (fun f g e => f e + g e) 499 _ (L.drop (x + 4)) from sp_many_y (sp_part_2 hnn i108 w141) i218 (by decide)]
                show et_go none _ 81 6 [some (.ref rd), some (.ref G.2), some (.ref G.2), some (.int (Int32.ofNat (0 + 1))), some (.ref G.2), some (.int (Int32.ofNat 1))] [] _ _ _ _
                exact fnj_sum (K0 := K) (G0 := G) (i := 0 + 1) hH hx0 hX k_rd htk htl e234 (by omega) r2 lr0 (by omega) hJ k_G_2 k_G_2 hI (by omega) n1_13 (by omega) (by omega) (by omega) (by omega)
              · rw [if_neg i218]
                show et_go none _ 81 221 _ [.int (Int32.ofNat 0)] _ _ _ _
                refine hs_if0 (c := .ne) (t := 227) (f := 224) (by decide +kernel) (show ¬ (¬ Int32.ofNat 0 = 0) by decide) ?_
                refine hs_goto (p := 243) (by decide +kernel) ?_
                refine hs_aload (i := 1) (p := 244) (by decide +kernel) rfl ?_
                refine hs_aret (cn := "KnobEye$Node") (by decide +kernel) ?_
                have lo_a := hI.bd
                refine ⟨_, _, _, _, _, rfl, hx0, hH, rx_out hX, ?_, hJ⟩
                rw [show sp_sum (L.drop x) = some (_, L.drop (x + 3)) from sp_many_n (sp_part_2 hnn i108 w141) i218]
                exact ⟨(x + 3), _, rfl, (by omega), (by omega), e192, r2, rfl, k_G_2, ⟨hI.sm.wk (Nat.le_refl _) (by omega), lo_a.2.2.1⟩⟩
          · rw [if_neg w141]
            show et_go none _ 81 144 _ [.null, .ref G.2] _ _ _ _
            have hHo := hH
            refine hf_put (T := et_TT) (t := 6) (ci := 4) (f := 4) (p := 147) (ty := (.object "KnobEye$Word")) (by decide +kernel) rfl rfl rfl rfl rfl hH k_G_2 (.inl ⟨by decide, rfl⟩) (fun G144 hH x144 e144 => ?_)
            have hJ := hJ.nd hHo k_rd k_G_2 x144 e144 (fun h => nomatch h)
            have e129 := (x144.2 rd 8 lt_rd (fun h => (hi_ne k_rd k_G_2 (by decide)) h.1)).trans e129
            have r2 := (x144.2 rd 2 lt_rd (fun h => (hi_ne k_rd k_G_2 (by decide)) h.1)).trans r2
            have r6 := (x144.2 rd 6 lt_rd (fun h => (hi_ne k_rd k_G_2 (by decide)) h.1)).trans r6
            have r7 := (x144.2 rd 7 lt_rd (fun h => (hi_ne k_rd k_G_2 (by decide)) h.1)).trans r7
            have n1_13 := (x144.2 G.2 1 lt_G_2 (fun h => absurd h.2 (by decide))).trans n1_13
            have n2_13 := (x144.2 G.2 2 lt_G_2 (fun h => absurd h.2 (by decide))).trans n2_13
            have n3_13 := (x144.2 G.2 3 lt_G_2 (fun h => absurd h.2 (by decide))).trans n3_13
            have e78 := (x144.2 G.2 5 lt_G_2 (fun h => absurd h.2 (by decide))).trans e78
            have e19 := (x144.2 G.2 0 lt_G_2 (fun h => absurd h.2 (by decide))).trans e19
            have lt_rd := Nat.lt_of_lt_of_le lt_rd x144.1
            have lt_na := Nat.lt_of_lt_of_le lt_na x144.1
            have lt_G_2 := Nat.lt_of_lt_of_le lt_G_2 x144.1
            have hX := hX.tr x144 (fun b j hb h => by first | omega | (dsimp only at h ⊢; omega) | (dsimp only at h; omega) | (dsimp only; omega))
            have m144 := x144.1
            have htk := htk.xf hHo k_rd et_ex.rf x144 (fun a j hs => .inr (.inl (by have e := hs.1; rw [e]; exact k_G_2)))
            refine hs_aload (i := 4) (p := 149) (by decide +kernel) rfl ?_
            refine hf_get (T := et_TT) (t := 6) (ci := 4) (f := 4) (p := 152) (by decide +kernel) rfl hH k_G_2 e144 ?_
            refine hs_ifnonnull0 (p := 155) (by decide +kernel) ?_
            refine hs_aload (i := 0) (p := 156) (by decide +kernel) rfl ?_
            have hHo := hH
            refine ht_callv (T := et_TT) (t := 7) (mi := 76) (na := 0) (ci := 5) (lk := 6) (lm := 1) (L0 := eg_en (eg_mL 76) [.ref rd]) (by decide +kernel) rfl hH k_rd rfl rfl rfl rfl rfl (by rw [show eg_mL 76 = 1 from by decide +kernel]; first | done | rfl) ?_
            refine (fc_fail hH k_rd htk htl e129 (by omega) r2).mono (fun u hu => xw_cb hu (fun G156 v156 hH x156 hP156 => ?_))
            have hJ := hJ.xs hHo k_rd x156 (fun a j hs => ⟨fun _ => by first | omega | (dsimp only at hs; omega), fun k6 => by have e9 : a = rd := (by first | omega | (dsimp only at hs; omega)); rw [e9, k_rd] at k6; exact nomatch k6⟩)
            have e129 := (x156.2 rd 8 lt_rd (fun h => absurd h.2 (by decide))).trans e129
            have r6 := (x156.2 rd 6 lt_rd (fun h => absurd h.2 (by decide))).trans r6
            have r7 := (x156.2 rd 7 lt_rd (fun h => absurd h.2 (by decide))).trans r7
            have n1_13 := (x156.2 G.2 1 lt_G_2 (fun h => (hi_ne k_G_2 k_rd (by decide)) h.1)).trans n1_13
            have n2_13 := (x156.2 G.2 2 lt_G_2 (fun h => (hi_ne k_G_2 k_rd (by decide)) h.1)).trans n2_13
            have n3_13 := (x156.2 G.2 3 lt_G_2 (fun h => (hi_ne k_G_2 k_rd (by decide)) h.1)).trans n3_13
            have e144 := (x156.2 G.2 4 lt_G_2 (fun h => (hi_ne k_G_2 k_rd (by decide)) h.1)).trans e144
            have e78 := (x156.2 G.2 5 lt_G_2 (fun h => (hi_ne k_G_2 k_rd (by decide)) h.1)).trans e78
            have e19 := (x156.2 G.2 0 lt_G_2 (fun h => (hi_ne k_G_2 k_rd (by decide)) h.1)).trans e19
            have lt_rd := Nat.lt_of_lt_of_le lt_rd x156.1
            have lt_na := Nat.lt_of_lt_of_le lt_na x156.1
            have lt_G_2 := Nat.lt_of_lt_of_le lt_G_2 x156.1
            have hX := hX.tr x156 (fun b j hb h => by first | omega | (dsimp only at h ⊢; omega) | (dsimp only at h; omega) | (dsimp only; omega))
            have m156 := x156.1
            have htk := htk.xf hHo k_rd et_ex.rf x156 (fun a j hs => .inl (by first | omega | (dsimp only at hs; omega)))
            obtain ⟨rfl, q156, hq156, e156⟩ := hP156
            show et_go none _ 81 159 _ [.null] _ _ _ _
            refine hs_aretN (cn := "KnobEye$Node") (by decide +kernel) ?_
            refine ⟨_, _, _, _, _, rfl, hx0, hH, rx_out hX, ?_, hJ⟩
            rw [show sp_sum (L.drop x) = none from sp_many_0 (sp_part_2n hnn i108 w141)]
            exact ⟨rfl, _, (by omega), e156⟩
        · rw [if_neg i108]
          show et_go none _ 81 111 _ [.int (Int32.ofNat 0)] _ _ _ _
          refine hs_istore (i := 5) (p := 113) (by decide +kernel) (Nat.le_of_ble_eq_true rfl) ?_
          refine hs_aload (i := 0) (p := 114) (by decide +kernel) rfl ?_
          refine hs_dup1 (p := 115) (by decide +kernel) ?_
          refine hf_get (T := et_TT) (t := 7) (ci := 5) (f := 8) (p := 118) (by decide +kernel) rfl hH k_rd e101 ?_
          refine hs_iload (i := 5) (p := 120) (by decide +kernel) rfl ?_
          refine hs_if1 (c := .eq) (t := 127) (f := 123) (by decide +kernel) (show Int32.ofNat 0 = 0 by decide) ?_
          refine hs_k (x := Int32.ofNat 0) (p := 128) (by decide +kernel) ?_
          refine hs_iaddn (p := 129) (by decide +kernel) ?_
          have hHo := hH
          refine hf_put (T := et_TT) (t := 7) (ci := 5) (f := 8) (p := 132) (ty := .int) (by decide +kernel) rfl rfl rfl rfl rfl hH k_rd (hi_nv (by omega) (by omega)) (fun G129 hH x129 e129 => ?_)
          have hJ := hJ.xs hHo k_rd x129 (fun a j hs => ⟨fun _ => by first | omega | (dsimp only at hs; omega), fun k6 => by have e9 : a = rd := (by first | omega | (dsimp only at hs; omega)); rw [e9, k_rd] at k6; exact nomatch k6⟩)
          have r2 := (x129.2 rd 2 lt_rd (fun h => absurd h.2 (by decide))).trans r2
          have r6 := (x129.2 rd 6 lt_rd (fun h => absurd h.2 (by decide))).trans r6
          have r7 := (x129.2 rd 7 lt_rd (fun h => absurd h.2 (by decide))).trans r7
          have n1_13 := (x129.2 G.2 1 lt_G_2 (fun h => (hi_ne k_G_2 k_rd (by decide)) h.1)).trans n1_13
          have n2_13 := (x129.2 G.2 2 lt_G_2 (fun h => (hi_ne k_G_2 k_rd (by decide)) h.1)).trans n2_13
          have n3_13 := (x129.2 G.2 3 lt_G_2 (fun h => (hi_ne k_G_2 k_rd (by decide)) h.1)).trans n3_13
          have n4_13 := (x129.2 G.2 4 lt_G_2 (fun h => (hi_ne k_G_2 k_rd (by decide)) h.1)).trans n4_13
          have e78 := (x129.2 G.2 5 lt_G_2 (fun h => (hi_ne k_G_2 k_rd (by decide)) h.1)).trans e78
          have e19 := (x129.2 G.2 0 lt_G_2 (fun h => (hi_ne k_G_2 k_rd (by decide)) h.1)).trans e19
          have lt_rd := Nat.lt_of_lt_of_le lt_rd x129.1
          have lt_na := Nat.lt_of_lt_of_le lt_na x129.1
          have lt_G_2 := Nat.lt_of_lt_of_le lt_G_2 x129.1
          have hX := hX.tr x129 (fun b j hb h => by first | omega | (dsimp only at h ⊢; omega) | (dsimp only at h; omega) | (dsimp only; omega))
          have m129 := x129.1
          have htk := htk.xf hHo k_rd et_ex.rf x129 (fun a j hs => .inl (by first | omega | (dsimp only at hs; omega)))
          have e129 : et_pl (eg_at G129 rd) 8 = some (.int (Int32.ofNat (x + 1))) := e129
          refine hs_iload (i := 5) (p := 134) (by decide +kernel) rfl ?_
          refine hs_if1 (c := .eq) (t := 195) (f := 137) (by decide +kernel) (show Int32.ofNat 0 = 0 by decide) ?_
          refine hs_aload0 (i := 2) (p := 196) (by decide +kernel) rfl ?_
          refine hs_ifnonnull0 (p := 199) (by decide +kernel) ?_
          refine hs_aload (i := 4) (p := 201) (by decide +kernel) rfl ?_
          refine hs_astore (i := 1) (p := 202) (by decide +kernel) (Nat.le_of_ble_eq_true rfl) ?_
          refine hs_goto (p := 211) (by decide +kernel) ?_
          refine hs_aload (i := 4) (p := 213) (by decide +kernel) rfl ?_
          refine hs_astore (i := 2) (p := 214) (by decide +kernel) (Nat.le_of_ble_eq_true rfl) ?_
          have hI := sI.one (lo := G.2) (hi := G129.2) n1_13 ⟨by omega, lt_G_2⟩ (⟨vv, hvv, e78, .inl ⟨n4_13, rfl⟩⟩)
          refine hs_aload (i := 0) (p := 215) (by decide +kernel) rfl ?_
          refine hs_gst (v := Value.ref 27) (p := 218) (by decide +kernel) ?_
          refine ht_callv (T := et_TT) (t := 7) (mi := 78) (na := 1) (ci := 5) (lk := 6) (lm := 2) (L0 := eg_en (eg_mL 78) [.ref rd, .ref 27]) (by decide +kernel) rfl hH k_rd rfl rfl rfl rfl rfl (by rw [show eg_mL 78 = 2 from by decide +kernel]; first | done | rfl) ?_
          refine (fc_is hH k_rd htk htl e129 (by omega) (wd := 27) (by decide)).mono (fun u hu => xp_cb hu ?_)
          by_cases i218 : wat L (x + 1) = 27
          · rw [if_pos i218]
            have il218 : (x + 1) < L.length := wat_i (by rw [i218]; decide)
            show et_go none _ 81 221 _ [.int (Int32.ofNat 1)] _ _ _ _
            refine hs_if1 (c := .ne) (t := 227) (f := 224) (by decide +kernel) (show ¬ Int32.ofNat 1 = 0 by decide) ?_
            refine hs_aload (i := 0) (p := 228) (by decide +kernel) rfl ?_
            refine hs_dup1 (p := 229) (by decide +kernel) ?_
            refine hf_get (T := et_TT) (t := 7) (ci := 5) (f := 8) (p := 232) (by decide +kernel) rfl hH k_rd e129 ?_
            refine hs_k (x := Int32.ofNat 1) (p := 233) (by decide +kernel) ?_
            refine hs_iaddn (p := 234) (by decide +kernel) ?_
            have hHo := hH
            refine hf_put (T := et_TT) (t := 7) (ci := 5) (f := 8) (p := 237) (ty := .int) (by decide +kernel) rfl rfl rfl rfl rfl hH k_rd (hi_nv (by omega) (by omega)) (fun G234 hH x234 e234 => ?_)
            have hJ := hJ.xs hHo k_rd x234 (fun a j hs => ⟨fun _ => by first | omega | (dsimp only at hs; omega), fun k6 => by have e9 : a = rd := (by first | omega | (dsimp only at hs; omega)); rw [e9, k_rd] at k6; exact nomatch k6⟩)
            have r2 := (x234.2 rd 2 lt_rd (fun h => absurd h.2 (by decide))).trans r2
            have r6 := (x234.2 rd 6 lt_rd (fun h => absurd h.2 (by decide))).trans r6
            have r7 := (x234.2 rd 7 lt_rd (fun h => absurd h.2 (by decide))).trans r7
            have n1_13 := (x234.2 G.2 1 lt_G_2 (fun h => (hi_ne k_G_2 k_rd (by decide)) h.1)).trans n1_13
            have n2_13 := (x234.2 G.2 2 lt_G_2 (fun h => (hi_ne k_G_2 k_rd (by decide)) h.1)).trans n2_13
            have n3_13 := (x234.2 G.2 3 lt_G_2 (fun h => (hi_ne k_G_2 k_rd (by decide)) h.1)).trans n3_13
            have n4_13 := (x234.2 G.2 4 lt_G_2 (fun h => (hi_ne k_G_2 k_rd (by decide)) h.1)).trans n4_13
            have e78 := (x234.2 G.2 5 lt_G_2 (fun h => (hi_ne k_G_2 k_rd (by decide)) h.1)).trans e78
            have e19 := (x234.2 G.2 0 lt_G_2 (fun h => (hi_ne k_G_2 k_rd (by decide)) h.1)).trans e19
            have lt_rd := Nat.lt_of_lt_of_le lt_rd x234.1
            have lt_na := Nat.lt_of_lt_of_le lt_na x234.1
            have lt_G_2 := Nat.lt_of_lt_of_le lt_G_2 x234.1
            have hX := hX.tr x234 (fun b j hb h => by first | omega | (dsimp only at h ⊢; omega) | (dsimp only at h; omega) | (dsimp only; omega))
            have m234 := x234.1
            have htk := htk.xf hHo k_rd et_ex.rf x234 (fun a j hs => .inl (by first | omega | (dsimp only at hs; omega)))
            have hI := hI.fr (x234.agf (lo := G.2) (hi := G129.2) (by omega) (fun a j h1 h2 hs => by first | omega | (dsimp only at hs; omega)))
            have e234 : et_pl (eg_at G234 rd) 8 = some (.int (Int32.ofNat (x + 2))) := e234
            refine hs_iinc1 (i := 3) (p := 240) (by decide +kernel) rfl (Nat.le_of_ble_eq_true rfl) ?_
            refine hs_goto (p := 6) (by decide +kernel) ?_
            rw [show sp_sum (L.drop x) = sp_lp sp_part 27 (fun f g e => f e + g e) 499 _ (L.drop (x + 2)) from sp_many_y (sp_part_1 hnn i108) i218 (by decide)]
            show et_go none _ 81 6 [some (.ref rd), some (.ref G.2), some (.ref G.2), some (.int (Int32.ofNat (0 + 1))), some (.ref G.2), some (.int (Int32.ofNat 0))] [] _ _ _ _
            exact fnj_sum (K0 := K) (G0 := G) (i := 0 + 1) hH hx0 hX k_rd htk htl e234 (by omega) r2 lr0 (by omega) hJ k_G_2 k_G_2 hI (by omega) n1_13 (by omega) (by omega) (by omega) (by omega)
          · rw [if_neg i218]
            show et_go none _ 81 221 _ [.int (Int32.ofNat 0)] _ _ _ _
            refine hs_if0 (c := .ne) (t := 227) (f := 224) (by decide +kernel) (show ¬ (¬ Int32.ofNat 0 = 0) by decide) ?_
            refine hs_goto (p := 243) (by decide +kernel) ?_
            refine hs_aload (i := 1) (p := 244) (by decide +kernel) rfl ?_
            refine hs_aret (cn := "KnobEye$Node") (by decide +kernel) ?_
            have lo_a := hI.bd
            refine ⟨_, _, _, _, _, rfl, hx0, hH, rx_out hX, ?_, hJ⟩
            rw [show sp_sum (L.drop x) = some (_, L.drop (x + 1)) from sp_many_n (sp_part_1 hnn i108) i218]
            exact ⟨(x + 1), _, rfl, (by omega), (by omega), e129, r2, rfl, k_G_2, ⟨hI.sm.wk (Nat.le_refl _) (by omega), lo_a.2.2.1⟩⟩
  · rw [if_neg i34]
    show et_go none _ 81 37 _ [.int (Int32.ofNat 0)] _ _ _ _
    refine hs_if0 (c := .ne) (t := 44) (f := 40) (by decide +kernel) (show ¬ (¬ Int32.ofNat 0 = 0) by decide) ?_
    refine hs_k (x := Int32.ofNat 1) (p := 41) (by decide +kernel) ?_
    refine hs_goto (p := 45) (by decide +kernel) ?_
    refine hs_istore (i := 5) (p := 47) (by decide +kernel) (Nat.le_of_ble_eq_true rfl) ?_
    refine hs_iload (i := 5) (p := 49) (by decide +kernel) rfl ?_
    refine hs_if1 (c := .ne) (t := 132) (f := 52) (by decide +kernel) (show ¬ Int32.ofNat 1 = 0 by decide) ?_
    refine hs_iload (i := 5) (p := 134) (by decide +kernel) rfl ?_
    refine hs_if0 (c := .eq) (t := 195) (f := 137) (by decide +kernel) (show ¬ (Int32.ofNat 1 = 0) by decide) ?_
    refine hs_aload (i := 4) (p := 139) (by decide +kernel) rfl ?_
    refine hs_aload (i := 0) (p := 140) (by decide +kernel) rfl ?_
    refine hs_k (x := Int32.ofNat 2) (p := 141) (by decide +kernel) ?_
    refine ht_callv (T := et_TT) (t := 7) (mi := 79) (na := 1) (ci := 5) (lk := 6) (lm := 2) (L0 := eg_en (eg_mL 79) [.ref rd, .int (Int32.ofNat 2)]) (by decide +kernel) rfl hH k_rd rfl rfl rfl rfl rfl (by rw [show eg_mL 79 = 2 from by decide +kernel]; first | done | rfl) ?_
    refine (fc_wh2 hH k_rd htk htl r8 (by omega)).mono (fun u hu => xp_cb hu ?_)
    by_cases w141 : sp_fw (wat L x) = true
    · rw [if_pos w141]
      obtain ⟨wn141, hwn, -⟩ := wat_t (L := L) (x := x) rfl (fun h => by rw [h] at w141; exact absurd w141 (by decide))
      have il141 : x < L.length := wat_i (fun h => by rw [h] at w141; exact absurd w141 (by decide))
      show et_go none _ 81 144 _ [.ref (wat L x), .ref G.2] _ _ _ _
      have hHo := hH
      refine hf_put (T := et_TT) (t := 6) (ci := 4) (f := 4) (p := 147) (ty := (.object "KnobEye$Word")) (by decide +kernel) rfl rfl rfl rfl rfl hH k_G_2 (.inr ⟨by decide, _, rfl, hH.2.1 _ (wat_lt htl)⟩) (fun G144 hH x144 e144 => ?_)
      have hJX := hJ.wx hHo k_rd x144
      have r8 := (x144.2 rd 8 lt_rd (fun h => (hi_ne k_rd k_G_2 (by decide)) h.1)).trans r8
      have r2 := (x144.2 rd 2 lt_rd (fun h => (hi_ne k_rd k_G_2 (by decide)) h.1)).trans r2
      have r6 := (x144.2 rd 6 lt_rd (fun h => (hi_ne k_rd k_G_2 (by decide)) h.1)).trans r6
      have r7 := (x144.2 rd 7 lt_rd (fun h => (hi_ne k_rd k_G_2 (by decide)) h.1)).trans r7
      have n1_13 := (x144.2 G.2 1 lt_G_2 (fun h => absurd h.2 (by decide))).trans n1_13
      have n2_13 := (x144.2 G.2 2 lt_G_2 (fun h => absurd h.2 (by decide))).trans n2_13
      have n3_13 := (x144.2 G.2 3 lt_G_2 (fun h => absurd h.2 (by decide))).trans n3_13
      have e27 := (x144.2 G.2 5 lt_G_2 (fun h => absurd h.2 (by decide))).trans e27
      have e19 := (x144.2 G.2 0 lt_G_2 (fun h => absurd h.2 (by decide))).trans e19
      have lt_rd := Nat.lt_of_lt_of_le lt_rd x144.1
      have lt_na := Nat.lt_of_lt_of_le lt_na x144.1
      have lt_G_2 := Nat.lt_of_lt_of_le lt_G_2 x144.1
      have hX := hX.tr x144 (fun b j hb h => by first | omega | (dsimp only at h ⊢; omega) | (dsimp only at h; omega) | (dsimp only; omega))
      have m144 := x144.1
      have htk := htk.xf hHo k_rd et_ex.rf x144 (fun a j hs => .inr (.inl (by have e := hs.1; rw [e]; exact k_G_2)))
      refine hs_aload (i := 4) (p := 149) (by decide +kernel) rfl ?_
      refine hf_get (T := et_TT) (t := 6) (ci := 4) (f := 4) (p := 152) (by decide +kernel) rfl hH k_G_2 e144 ?_
      refine hs_ifnonnull1 (p := 160) (by decide +kernel) ?_
      refine hs_aload (i := 0) (p := 161) (by decide +kernel) rfl ?_
      refine hs_dup1 (p := 162) (by decide +kernel) ?_
      refine ht_getn (T := et_TT) (t := 7) (ci := 5) (f := 3) (p := 165) (by decide +kernel) rfl rfl hH k_rd (fun c162 h162 e162 => ?_)
      refine hs_aload (i := 4) (p := 167) (by decide +kernel) rfl ?_
      refine hf_get (T := et_TT) (t := 6) (ci := 4) (f := 4) (p := 170) (by decide +kernel) rfl hH k_G_2 e144 ?_
      refine hs_gst (v := Value.ref 17) (p := 173) (by decide +kernel) ?_
      refine hf_acm (c := .ne) (tt := 180) (ff := 176) (by decide +kernel) (hi_ca hH (hH.2.1 _ (wat_lt htl)) (.inl rfl)) (by decide +kernel) (fun (q173 : ¬ Value.ref (wat L x) = .ref 17) => ?_) (fun (q173 : ¬ ¬ Value.ref (wat L x) = .ref 17) => ?_)
      · have q173 : ¬ (wat L x) = 17 := fun h => q173 (by rw [h])
        refine hs_k (x := Int32.ofNat 0) (p := 181) (by decide +kernel) ?_
        refine hs_ior (p := 182) (by decide +kernel) ?_
        obtain ⟨m181, hm181, hq181⟩ := hi_or (a := c162) (b := 0) (by omega) (by omega)
        rw [hq181]
        have hHo := hH
        refine hf_put (T := et_TT) (t := 7) (ci := 5) (f := 3) (p := 185) (ty := .boolean) (by decide +kernel) rfl rfl rfl (hi_fz (by omega)) rfl hH k_rd (hi_nv (by omega) (by omega)) (fun G182 hH x182 e182 => ?_)
        have hJ := hJX.up hHo k_rd e162 (by omega) x182 e182 (by omega) (fun h => (orJ1 (a := c162) (b := 0) (by omega) (by omega) (by omega) hq181 h).1) (fun h e9 => q173 (Value.ref.inj (Option.some.inj (e144.symm.trans e9))))
        have r8 := (x182.2 rd 8 lt_rd (fun h => absurd h.2 (by decide))).trans r8
        have r2 := (x182.2 rd 2 lt_rd (fun h => absurd h.2 (by decide))).trans r2
        have r6 := (x182.2 rd 6 lt_rd (fun h => absurd h.2 (by decide))).trans r6
        have r7 := (x182.2 rd 7 lt_rd (fun h => absurd h.2 (by decide))).trans r7
        have n1_13 := (x182.2 G.2 1 lt_G_2 (fun h => (hi_ne k_G_2 k_rd (by decide)) h.1)).trans n1_13
        have n2_13 := (x182.2 G.2 2 lt_G_2 (fun h => (hi_ne k_G_2 k_rd (by decide)) h.1)).trans n2_13
        have n3_13 := (x182.2 G.2 3 lt_G_2 (fun h => (hi_ne k_G_2 k_rd (by decide)) h.1)).trans n3_13
        have e144 := (x182.2 G.2 4 lt_G_2 (fun h => (hi_ne k_G_2 k_rd (by decide)) h.1)).trans e144
        have e27 := (x182.2 G.2 5 lt_G_2 (fun h => (hi_ne k_G_2 k_rd (by decide)) h.1)).trans e27
        have e19 := (x182.2 G.2 0 lt_G_2 (fun h => (hi_ne k_G_2 k_rd (by decide)) h.1)).trans e19
        have lt_rd := Nat.lt_of_lt_of_le lt_rd x182.1
        have lt_na := Nat.lt_of_lt_of_le lt_na x182.1
        have lt_G_2 := Nat.lt_of_lt_of_le lt_G_2 x182.1
        have hX := hX.tr x182 (fun b j hb h => by first | omega | (dsimp only at h ⊢; omega) | (dsimp only at h; omega) | (dsimp only; omega))
        have m182 := x182.1
        have htk := htk.xf hHo k_rd et_ex.rf x182 (fun a j hs => .inl (by first | omega | (dsimp only at hs; omega)))
        refine hs_aload (i := 0) (p := 186) (by decide +kernel) rfl ?_
        refine hs_dup1 (p := 187) (by decide +kernel) ?_
        refine hf_get (T := et_TT) (t := 7) (ci := 5) (f := 8) (p := 190) (by decide +kernel) rfl hH k_rd r8 ?_
        refine hs_k (x := Int32.ofNat 1) (p := 191) (by decide +kernel) ?_
        refine hs_iaddn (p := 192) (by decide +kernel) ?_
        have hHo := hH
        refine hf_put (T := et_TT) (t := 7) (ci := 5) (f := 8) (p := 195) (ty := .int) (by decide +kernel) rfl rfl rfl rfl rfl hH k_rd (hi_nv (by omega) (by omega)) (fun G192 hH x192 e192 => ?_)
        have hJ := hJ.xs hHo k_rd x192 (fun a j hs => ⟨fun _ => by first | omega | (dsimp only at hs; omega), fun k6 => by have e9 : a = rd := (by first | omega | (dsimp only at hs; omega)); rw [e9, k_rd] at k6; exact nomatch k6⟩)
        have r2 := (x192.2 rd 2 lt_rd (fun h => absurd h.2 (by decide))).trans r2
        have r6 := (x192.2 rd 6 lt_rd (fun h => absurd h.2 (by decide))).trans r6
        have r7 := (x192.2 rd 7 lt_rd (fun h => absurd h.2 (by decide))).trans r7
        have n1_13 := (x192.2 G.2 1 lt_G_2 (fun h => (hi_ne k_G_2 k_rd (by decide)) h.1)).trans n1_13
        have n2_13 := (x192.2 G.2 2 lt_G_2 (fun h => (hi_ne k_G_2 k_rd (by decide)) h.1)).trans n2_13
        have n3_13 := (x192.2 G.2 3 lt_G_2 (fun h => (hi_ne k_G_2 k_rd (by decide)) h.1)).trans n3_13
        have e144 := (x192.2 G.2 4 lt_G_2 (fun h => (hi_ne k_G_2 k_rd (by decide)) h.1)).trans e144
        have e27 := (x192.2 G.2 5 lt_G_2 (fun h => (hi_ne k_G_2 k_rd (by decide)) h.1)).trans e27
        have e19 := (x192.2 G.2 0 lt_G_2 (fun h => (hi_ne k_G_2 k_rd (by decide)) h.1)).trans e19
        have e182 := (x192.2 rd 3 lt_rd (fun h => absurd h.2 (by decide))).trans e182
        have lt_rd := Nat.lt_of_lt_of_le lt_rd x192.1
        have lt_na := Nat.lt_of_lt_of_le lt_na x192.1
        have lt_G_2 := Nat.lt_of_lt_of_le lt_G_2 x192.1
        have hX := hX.tr x192 (fun b j hb h => by first | omega | (dsimp only at h ⊢; omega) | (dsimp only at h; omega) | (dsimp only; omega))
        have m192 := x192.1
        have htk := htk.xf hHo k_rd et_ex.rf x192 (fun a j hs => .inl (by first | omega | (dsimp only at hs; omega)))
        have e192 : et_pl (eg_at G192 rd) 8 = some (.int (Int32.ofNat (x + 1))) := e192
        refine hs_aload0 (i := 2) (p := 196) (by decide +kernel) rfl ?_
        refine hs_ifnonnull0 (p := 199) (by decide +kernel) ?_
        refine hs_aload (i := 4) (p := 201) (by decide +kernel) rfl ?_
        refine hs_astore (i := 1) (p := 202) (by decide +kernel) (Nat.le_of_ble_eq_true rfl) ?_
        refine hs_goto (p := 211) (by decide +kernel) ?_
        refine hs_aload (i := 4) (p := 213) (by decide +kernel) rfl ?_
        refine hs_astore (i := 2) (p := 214) (by decide +kernel) (Nat.le_of_ble_eq_true rfl) ?_
        have hI := sI.one (lo := G.2) (hi := G192.2) n1_13 ⟨by omega, lt_G_2⟩ (show pt G192 G.2 (fun e => e.1 (wat L x)) from ⟨1, by decide, e27, .inr ⟨_, w141, e144, funext (fun e => (Int64.one_mul _).symm)⟩⟩)
        refine hs_aload (i := 0) (p := 215) (by decide +kernel) rfl ?_
        refine hs_gst (v := Value.ref 27) (p := 218) (by decide +kernel) ?_
        refine ht_callv (T := et_TT) (t := 7) (mi := 78) (na := 1) (ci := 5) (lk := 6) (lm := 2) (L0 := eg_en (eg_mL 78) [.ref rd, .ref 27]) (by decide +kernel) rfl hH k_rd rfl rfl rfl rfl rfl (by rw [show eg_mL 78 = 2 from by decide +kernel]; first | done | rfl) ?_
        refine (fc_is hH k_rd htk htl e192 (by omega) (wd := 27) (by decide)).mono (fun u hu => xp_cb hu ?_)
        by_cases i218 : wat L (x + 1) = 27
        · rw [if_pos i218]
          have il218 : (x + 1) < L.length := wat_i (by rw [i218]; decide)
          show et_go none _ 81 221 _ [.int (Int32.ofNat 1)] _ _ _ _
          refine hs_if1 (c := .ne) (t := 227) (f := 224) (by decide +kernel) (show ¬ Int32.ofNat 1 = 0 by decide) ?_
          refine hs_aload (i := 0) (p := 228) (by decide +kernel) rfl ?_
          refine hs_dup1 (p := 229) (by decide +kernel) ?_
          refine hf_get (T := et_TT) (t := 7) (ci := 5) (f := 8) (p := 232) (by decide +kernel) rfl hH k_rd e192 ?_
          refine hs_k (x := Int32.ofNat 1) (p := 233) (by decide +kernel) ?_
          refine hs_iaddn (p := 234) (by decide +kernel) ?_
          have hHo := hH
          refine hf_put (T := et_TT) (t := 7) (ci := 5) (f := 8) (p := 237) (ty := .int) (by decide +kernel) rfl rfl rfl rfl rfl hH k_rd (hi_nv (by omega) (by omega)) (fun G234 hH x234 e234 => ?_)
          have hJ := hJ.xs hHo k_rd x234 (fun a j hs => ⟨fun _ => by first | omega | (dsimp only at hs; omega), fun k6 => by have e9 : a = rd := (by first | omega | (dsimp only at hs; omega)); rw [e9, k_rd] at k6; exact nomatch k6⟩)
          have r2 := (x234.2 rd 2 lt_rd (fun h => absurd h.2 (by decide))).trans r2
          have r6 := (x234.2 rd 6 lt_rd (fun h => absurd h.2 (by decide))).trans r6
          have r7 := (x234.2 rd 7 lt_rd (fun h => absurd h.2 (by decide))).trans r7
          have n1_13 := (x234.2 G.2 1 lt_G_2 (fun h => (hi_ne k_G_2 k_rd (by decide)) h.1)).trans n1_13
          have n2_13 := (x234.2 G.2 2 lt_G_2 (fun h => (hi_ne k_G_2 k_rd (by decide)) h.1)).trans n2_13
          have n3_13 := (x234.2 G.2 3 lt_G_2 (fun h => (hi_ne k_G_2 k_rd (by decide)) h.1)).trans n3_13
          have e144 := (x234.2 G.2 4 lt_G_2 (fun h => (hi_ne k_G_2 k_rd (by decide)) h.1)).trans e144
          have e27 := (x234.2 G.2 5 lt_G_2 (fun h => (hi_ne k_G_2 k_rd (by decide)) h.1)).trans e27
          have e19 := (x234.2 G.2 0 lt_G_2 (fun h => (hi_ne k_G_2 k_rd (by decide)) h.1)).trans e19
          have e182 := (x234.2 rd 3 lt_rd (fun h => absurd h.2 (by decide))).trans e182
          have lt_rd := Nat.lt_of_lt_of_le lt_rd x234.1
          have lt_na := Nat.lt_of_lt_of_le lt_na x234.1
          have lt_G_2 := Nat.lt_of_lt_of_le lt_G_2 x234.1
          have hX := hX.tr x234 (fun b j hb h => by first | omega | (dsimp only at h ⊢; omega) | (dsimp only at h; omega) | (dsimp only; omega))
          have m234 := x234.1
          have htk := htk.xf hHo k_rd et_ex.rf x234 (fun a j hs => .inl (by first | omega | (dsimp only at hs; omega)))
          have hI := hI.fr (x234.agf (lo := G.2) (hi := G192.2) (by omega) (fun a j h1 h2 hs => by first | omega | (dsimp only at hs; omega)))
          have e234 : et_pl (eg_at G234 rd) 8 = some (.int (Int32.ofNat (x + 2))) := e234
          refine hs_iinc1 (i := 3) (p := 240) (by decide +kernel) rfl (Nat.le_of_ble_eq_true rfl) ?_
          refine hs_goto (p := 6) (by decide +kernel) ?_
          rw [show sp_sum (L.drop x) = sp_lp sp_part 27 (fun f g e => f e + g e) 499 _ (L.drop (x + 2)) from sp_many_y (sp_part_3 i34 w141) i218 (by decide)]
          show et_go none _ 81 6 [some (.ref rd), some (.ref G.2), some (.ref G.2), some (.int (Int32.ofNat (0 + 1))), some (.ref G.2), some (.int (Int32.ofNat 1))] [] _ _ _ _
          exact fnj_sum (K0 := K) (G0 := G) (i := 0 + 1) hH hx0 hX k_rd htk htl e234 (by omega) r2 lr0 (by omega) hJ k_G_2 k_G_2 hI (by omega) n1_13 (by omega) (by omega) (by omega) (by omega)
        · rw [if_neg i218]
          show et_go none _ 81 221 _ [.int (Int32.ofNat 0)] _ _ _ _
          refine hs_if0 (c := .ne) (t := 227) (f := 224) (by decide +kernel) (show ¬ (¬ Int32.ofNat 0 = 0) by decide) ?_
          refine hs_goto (p := 243) (by decide +kernel) ?_
          refine hs_aload (i := 1) (p := 244) (by decide +kernel) rfl ?_
          refine hs_aret (cn := "KnobEye$Node") (by decide +kernel) ?_
          have lo_a := hI.bd
          refine ⟨_, _, _, _, _, rfl, hx0, hH, rx_out hX, ?_, hJ⟩
          rw [show sp_sum (L.drop x) = some (_, L.drop (x + 1)) from sp_many_n (sp_part_3 i34 w141) i218]
          exact ⟨(x + 1), _, rfl, (by omega), (by omega), e192, r2, rfl, k_G_2, ⟨hI.sm.wk (Nat.le_refl _) (by omega), lo_a.2.2.1⟩⟩
      · have q173 : (wat L x) = 17 := Value.ref.inj (Decidable.of_not_not q173)
        refine hs_k (x := Int32.ofNat 1) (p := 177) (by decide +kernel) ?_
        refine hs_goto (p := 181) (by decide +kernel) ?_
        refine hs_ior (p := 182) (by decide +kernel) ?_
        obtain ⟨m181, hm181, hq181⟩ := hi_or (a := c162) (b := 1) (by omega) (by omega)
        rw [hq181]
        have hHo := hH
        refine hf_put (T := et_TT) (t := 7) (ci := 5) (f := 3) (p := 185) (ty := .boolean) (by decide +kernel) rfl rfl rfl (hi_fz (by omega)) rfl hH k_rd (hi_nv (by omega) (by omega)) (fun G182 hH x182 e182 => ?_)
        have hJ := hJX.up hHo k_rd e162 (by omega) x182 e182 (by omega) (fun h => (orJ1 (a := c162) (b := 1) (by omega) (by omega) (by omega) hq181 h).1) (fun h => absurd (orJ1 (a := c162) (b := 1) (by omega) (by omega) (by omega) hq181 h).2 (by decide))
        have r8 := (x182.2 rd 8 lt_rd (fun h => absurd h.2 (by decide))).trans r8
        have r2 := (x182.2 rd 2 lt_rd (fun h => absurd h.2 (by decide))).trans r2
        have r6 := (x182.2 rd 6 lt_rd (fun h => absurd h.2 (by decide))).trans r6
        have r7 := (x182.2 rd 7 lt_rd (fun h => absurd h.2 (by decide))).trans r7
        have n1_13 := (x182.2 G.2 1 lt_G_2 (fun h => (hi_ne k_G_2 k_rd (by decide)) h.1)).trans n1_13
        have n2_13 := (x182.2 G.2 2 lt_G_2 (fun h => (hi_ne k_G_2 k_rd (by decide)) h.1)).trans n2_13
        have n3_13 := (x182.2 G.2 3 lt_G_2 (fun h => (hi_ne k_G_2 k_rd (by decide)) h.1)).trans n3_13
        have e144 := (x182.2 G.2 4 lt_G_2 (fun h => (hi_ne k_G_2 k_rd (by decide)) h.1)).trans e144
        have e27 := (x182.2 G.2 5 lt_G_2 (fun h => (hi_ne k_G_2 k_rd (by decide)) h.1)).trans e27
        have e19 := (x182.2 G.2 0 lt_G_2 (fun h => (hi_ne k_G_2 k_rd (by decide)) h.1)).trans e19
        have lt_rd := Nat.lt_of_lt_of_le lt_rd x182.1
        have lt_na := Nat.lt_of_lt_of_le lt_na x182.1
        have lt_G_2 := Nat.lt_of_lt_of_le lt_G_2 x182.1
        have hX := hX.tr x182 (fun b j hb h => by first | omega | (dsimp only at h ⊢; omega) | (dsimp only at h; omega) | (dsimp only; omega))
        have m182 := x182.1
        have htk := htk.xf hHo k_rd et_ex.rf x182 (fun a j hs => .inl (by first | omega | (dsimp only at hs; omega)))
        refine hs_aload (i := 0) (p := 186) (by decide +kernel) rfl ?_
        refine hs_dup1 (p := 187) (by decide +kernel) ?_
        refine hf_get (T := et_TT) (t := 7) (ci := 5) (f := 8) (p := 190) (by decide +kernel) rfl hH k_rd r8 ?_
        refine hs_k (x := Int32.ofNat 1) (p := 191) (by decide +kernel) ?_
        refine hs_iaddn (p := 192) (by decide +kernel) ?_
        have hHo := hH
        refine hf_put (T := et_TT) (t := 7) (ci := 5) (f := 8) (p := 195) (ty := .int) (by decide +kernel) rfl rfl rfl rfl rfl hH k_rd (hi_nv (by omega) (by omega)) (fun G192 hH x192 e192 => ?_)
        have hJ := hJ.xs hHo k_rd x192 (fun a j hs => ⟨fun _ => by first | omega | (dsimp only at hs; omega), fun k6 => by have e9 : a = rd := (by first | omega | (dsimp only at hs; omega)); rw [e9, k_rd] at k6; exact nomatch k6⟩)
        have r2 := (x192.2 rd 2 lt_rd (fun h => absurd h.2 (by decide))).trans r2
        have r6 := (x192.2 rd 6 lt_rd (fun h => absurd h.2 (by decide))).trans r6
        have r7 := (x192.2 rd 7 lt_rd (fun h => absurd h.2 (by decide))).trans r7
        have n1_13 := (x192.2 G.2 1 lt_G_2 (fun h => (hi_ne k_G_2 k_rd (by decide)) h.1)).trans n1_13
        have n2_13 := (x192.2 G.2 2 lt_G_2 (fun h => (hi_ne k_G_2 k_rd (by decide)) h.1)).trans n2_13
        have n3_13 := (x192.2 G.2 3 lt_G_2 (fun h => (hi_ne k_G_2 k_rd (by decide)) h.1)).trans n3_13
        have e144 := (x192.2 G.2 4 lt_G_2 (fun h => (hi_ne k_G_2 k_rd (by decide)) h.1)).trans e144
        have e27 := (x192.2 G.2 5 lt_G_2 (fun h => (hi_ne k_G_2 k_rd (by decide)) h.1)).trans e27
        have e19 := (x192.2 G.2 0 lt_G_2 (fun h => (hi_ne k_G_2 k_rd (by decide)) h.1)).trans e19
        have e182 := (x192.2 rd 3 lt_rd (fun h => absurd h.2 (by decide))).trans e182
        have lt_rd := Nat.lt_of_lt_of_le lt_rd x192.1
        have lt_na := Nat.lt_of_lt_of_le lt_na x192.1
        have lt_G_2 := Nat.lt_of_lt_of_le lt_G_2 x192.1
        have hX := hX.tr x192 (fun b j hb h => by first | omega | (dsimp only at h ⊢; omega) | (dsimp only at h; omega) | (dsimp only; omega))
        have m192 := x192.1
        have htk := htk.xf hHo k_rd et_ex.rf x192 (fun a j hs => .inl (by first | omega | (dsimp only at hs; omega)))
        have e192 : et_pl (eg_at G192 rd) 8 = some (.int (Int32.ofNat (x + 1))) := e192
        refine hs_aload0 (i := 2) (p := 196) (by decide +kernel) rfl ?_
        refine hs_ifnonnull0 (p := 199) (by decide +kernel) ?_
        refine hs_aload (i := 4) (p := 201) (by decide +kernel) rfl ?_
        refine hs_astore (i := 1) (p := 202) (by decide +kernel) (Nat.le_of_ble_eq_true rfl) ?_
        refine hs_goto (p := 211) (by decide +kernel) ?_
        refine hs_aload (i := 4) (p := 213) (by decide +kernel) rfl ?_
        refine hs_astore (i := 2) (p := 214) (by decide +kernel) (Nat.le_of_ble_eq_true rfl) ?_
        have hI := sI.one (lo := G.2) (hi := G192.2) n1_13 ⟨by omega, lt_G_2⟩ (show pt G192 G.2 (fun e => e.1 (wat L x)) from ⟨1, by decide, e27, .inr ⟨_, w141, e144, funext (fun e => (Int64.one_mul _).symm)⟩⟩)
        refine hs_aload (i := 0) (p := 215) (by decide +kernel) rfl ?_
        refine hs_gst (v := Value.ref 27) (p := 218) (by decide +kernel) ?_
        refine ht_callv (T := et_TT) (t := 7) (mi := 78) (na := 1) (ci := 5) (lk := 6) (lm := 2) (L0 := eg_en (eg_mL 78) [.ref rd, .ref 27]) (by decide +kernel) rfl hH k_rd rfl rfl rfl rfl rfl (by rw [show eg_mL 78 = 2 from by decide +kernel]; first | done | rfl) ?_
        refine (fc_is hH k_rd htk htl e192 (by omega) (wd := 27) (by decide)).mono (fun u hu => xp_cb hu ?_)
        by_cases i218 : wat L (x + 1) = 27
        · rw [if_pos i218]
          have il218 : (x + 1) < L.length := wat_i (by rw [i218]; decide)
          show et_go none _ 81 221 _ [.int (Int32.ofNat 1)] _ _ _ _
          refine hs_if1 (c := .ne) (t := 227) (f := 224) (by decide +kernel) (show ¬ Int32.ofNat 1 = 0 by decide) ?_
          refine hs_aload (i := 0) (p := 228) (by decide +kernel) rfl ?_
          refine hs_dup1 (p := 229) (by decide +kernel) ?_
          refine hf_get (T := et_TT) (t := 7) (ci := 5) (f := 8) (p := 232) (by decide +kernel) rfl hH k_rd e192 ?_
          refine hs_k (x := Int32.ofNat 1) (p := 233) (by decide +kernel) ?_
          refine hs_iaddn (p := 234) (by decide +kernel) ?_
          have hHo := hH
          refine hf_put (T := et_TT) (t := 7) (ci := 5) (f := 8) (p := 237) (ty := .int) (by decide +kernel) rfl rfl rfl rfl rfl hH k_rd (hi_nv (by omega) (by omega)) (fun G234 hH x234 e234 => ?_)
          have hJ := hJ.xs hHo k_rd x234 (fun a j hs => ⟨fun _ => by first | omega | (dsimp only at hs; omega), fun k6 => by have e9 : a = rd := (by first | omega | (dsimp only at hs; omega)); rw [e9, k_rd] at k6; exact nomatch k6⟩)
          have r2 := (x234.2 rd 2 lt_rd (fun h => absurd h.2 (by decide))).trans r2
          have r6 := (x234.2 rd 6 lt_rd (fun h => absurd h.2 (by decide))).trans r6
          have r7 := (x234.2 rd 7 lt_rd (fun h => absurd h.2 (by decide))).trans r7
          have n1_13 := (x234.2 G.2 1 lt_G_2 (fun h => (hi_ne k_G_2 k_rd (by decide)) h.1)).trans n1_13
          have n2_13 := (x234.2 G.2 2 lt_G_2 (fun h => (hi_ne k_G_2 k_rd (by decide)) h.1)).trans n2_13
          have n3_13 := (x234.2 G.2 3 lt_G_2 (fun h => (hi_ne k_G_2 k_rd (by decide)) h.1)).trans n3_13
          have e144 := (x234.2 G.2 4 lt_G_2 (fun h => (hi_ne k_G_2 k_rd (by decide)) h.1)).trans e144
          have e27 := (x234.2 G.2 5 lt_G_2 (fun h => (hi_ne k_G_2 k_rd (by decide)) h.1)).trans e27
          have e19 := (x234.2 G.2 0 lt_G_2 (fun h => (hi_ne k_G_2 k_rd (by decide)) h.1)).trans e19
          have e182 := (x234.2 rd 3 lt_rd (fun h => absurd h.2 (by decide))).trans e182
          have lt_rd := Nat.lt_of_lt_of_le lt_rd x234.1
          have lt_na := Nat.lt_of_lt_of_le lt_na x234.1
          have lt_G_2 := Nat.lt_of_lt_of_le lt_G_2 x234.1
          have hX := hX.tr x234 (fun b j hb h => by first | omega | (dsimp only at h ⊢; omega) | (dsimp only at h; omega) | (dsimp only; omega))
          have m234 := x234.1
          have htk := htk.xf hHo k_rd et_ex.rf x234 (fun a j hs => .inl (by first | omega | (dsimp only at hs; omega)))
          have hI := hI.fr (x234.agf (lo := G.2) (hi := G192.2) (by omega) (fun a j h1 h2 hs => by first | omega | (dsimp only at hs; omega)))
          have e234 : et_pl (eg_at G234 rd) 8 = some (.int (Int32.ofNat (x + 2))) := e234
          refine hs_iinc1 (i := 3) (p := 240) (by decide +kernel) rfl (Nat.le_of_ble_eq_true rfl) ?_
          refine hs_goto (p := 6) (by decide +kernel) ?_
          rw [show sp_sum (L.drop x) = sp_lp sp_part 27 (fun f g e => f e + g e) 499 _ (L.drop (x + 2)) from sp_many_y (sp_part_3 i34 w141) i218 (by decide)]
          show et_go none _ 81 6 [some (.ref rd), some (.ref G.2), some (.ref G.2), some (.int (Int32.ofNat (0 + 1))), some (.ref G.2), some (.int (Int32.ofNat 1))] [] _ _ _ _
          exact fnj_sum (K0 := K) (G0 := G) (i := 0 + 1) hH hx0 hX k_rd htk htl e234 (by omega) r2 lr0 (by omega) hJ k_G_2 k_G_2 hI (by omega) n1_13 (by omega) (by omega) (by omega) (by omega)
        · rw [if_neg i218]
          show et_go none _ 81 221 _ [.int (Int32.ofNat 0)] _ _ _ _
          refine hs_if0 (c := .ne) (t := 227) (f := 224) (by decide +kernel) (show ¬ (¬ Int32.ofNat 0 = 0) by decide) ?_
          refine hs_goto (p := 243) (by decide +kernel) ?_
          refine hs_aload (i := 1) (p := 244) (by decide +kernel) rfl ?_
          refine hs_aret (cn := "KnobEye$Node") (by decide +kernel) ?_
          have lo_a := hI.bd
          refine ⟨_, _, _, _, _, rfl, hx0, hH, rx_out hX, ?_, hJ⟩
          rw [show sp_sum (L.drop x) = some (_, L.drop (x + 1)) from sp_many_n (sp_part_3 i34 w141) i218]
          exact ⟨(x + 1), _, rfl, (by omega), (by omega), e192, r2, rfl, k_G_2, ⟨hI.sm.wk (Nat.le_refl _) (by omega), lo_a.2.2.1⟩⟩
    · rw [if_neg w141]
      show et_go none _ 81 144 _ [.null, .ref G.2] _ _ _ _
      have hHo := hH
      refine hf_put (T := et_TT) (t := 6) (ci := 4) (f := 4) (p := 147) (ty := (.object "KnobEye$Word")) (by decide +kernel) rfl rfl rfl rfl rfl hH k_G_2 (.inl ⟨by decide, rfl⟩) (fun G144 hH x144 e144 => ?_)
      have hJ := hJ.nd hHo k_rd k_G_2 x144 e144 (fun h => nomatch h)
      have r8 := (x144.2 rd 8 lt_rd (fun h => (hi_ne k_rd k_G_2 (by decide)) h.1)).trans r8
      have r2 := (x144.2 rd 2 lt_rd (fun h => (hi_ne k_rd k_G_2 (by decide)) h.1)).trans r2
      have r6 := (x144.2 rd 6 lt_rd (fun h => (hi_ne k_rd k_G_2 (by decide)) h.1)).trans r6
      have r7 := (x144.2 rd 7 lt_rd (fun h => (hi_ne k_rd k_G_2 (by decide)) h.1)).trans r7
      have n1_13 := (x144.2 G.2 1 lt_G_2 (fun h => absurd h.2 (by decide))).trans n1_13
      have n2_13 := (x144.2 G.2 2 lt_G_2 (fun h => absurd h.2 (by decide))).trans n2_13
      have n3_13 := (x144.2 G.2 3 lt_G_2 (fun h => absurd h.2 (by decide))).trans n3_13
      have e27 := (x144.2 G.2 5 lt_G_2 (fun h => absurd h.2 (by decide))).trans e27
      have e19 := (x144.2 G.2 0 lt_G_2 (fun h => absurd h.2 (by decide))).trans e19
      have lt_rd := Nat.lt_of_lt_of_le lt_rd x144.1
      have lt_na := Nat.lt_of_lt_of_le lt_na x144.1
      have lt_G_2 := Nat.lt_of_lt_of_le lt_G_2 x144.1
      have hX := hX.tr x144 (fun b j hb h => by first | omega | (dsimp only at h ⊢; omega) | (dsimp only at h; omega) | (dsimp only; omega))
      have m144 := x144.1
      have htk := htk.xf hHo k_rd et_ex.rf x144 (fun a j hs => .inr (.inl (by have e := hs.1; rw [e]; exact k_G_2)))
      refine hs_aload (i := 4) (p := 149) (by decide +kernel) rfl ?_
      refine hf_get (T := et_TT) (t := 6) (ci := 4) (f := 4) (p := 152) (by decide +kernel) rfl hH k_G_2 e144 ?_
      refine hs_ifnonnull0 (p := 155) (by decide +kernel) ?_
      refine hs_aload (i := 0) (p := 156) (by decide +kernel) rfl ?_
      have hHo := hH
      refine ht_callv (T := et_TT) (t := 7) (mi := 76) (na := 0) (ci := 5) (lk := 6) (lm := 1) (L0 := eg_en (eg_mL 76) [.ref rd]) (by decide +kernel) rfl hH k_rd rfl rfl rfl rfl rfl (by rw [show eg_mL 76 = 1 from by decide +kernel]; first | done | rfl) ?_
      refine (fc_fail hH k_rd htk htl r8 (by omega) r2).mono (fun u hu => xw_cb hu (fun G156 v156 hH x156 hP156 => ?_))
      have hJ := hJ.xs hHo k_rd x156 (fun a j hs => ⟨fun _ => by first | omega | (dsimp only at hs; omega), fun k6 => by have e9 : a = rd := (by first | omega | (dsimp only at hs; omega)); rw [e9, k_rd] at k6; exact nomatch k6⟩)
      have r8 := (x156.2 rd 8 lt_rd (fun h => absurd h.2 (by decide))).trans r8
      have r6 := (x156.2 rd 6 lt_rd (fun h => absurd h.2 (by decide))).trans r6
      have r7 := (x156.2 rd 7 lt_rd (fun h => absurd h.2 (by decide))).trans r7
      have n1_13 := (x156.2 G.2 1 lt_G_2 (fun h => (hi_ne k_G_2 k_rd (by decide)) h.1)).trans n1_13
      have n2_13 := (x156.2 G.2 2 lt_G_2 (fun h => (hi_ne k_G_2 k_rd (by decide)) h.1)).trans n2_13
      have n3_13 := (x156.2 G.2 3 lt_G_2 (fun h => (hi_ne k_G_2 k_rd (by decide)) h.1)).trans n3_13
      have e144 := (x156.2 G.2 4 lt_G_2 (fun h => (hi_ne k_G_2 k_rd (by decide)) h.1)).trans e144
      have e27 := (x156.2 G.2 5 lt_G_2 (fun h => (hi_ne k_G_2 k_rd (by decide)) h.1)).trans e27
      have e19 := (x156.2 G.2 0 lt_G_2 (fun h => (hi_ne k_G_2 k_rd (by decide)) h.1)).trans e19
      have lt_rd := Nat.lt_of_lt_of_le lt_rd x156.1
      have lt_na := Nat.lt_of_lt_of_le lt_na x156.1
      have lt_G_2 := Nat.lt_of_lt_of_le lt_G_2 x156.1
      have hX := hX.tr x156 (fun b j hb h => by first | omega | (dsimp only at h ⊢; omega) | (dsimp only at h; omega) | (dsimp only; omega))
      have m156 := x156.1
      have htk := htk.xf hHo k_rd et_ex.rf x156 (fun a j hs => .inl (by first | omega | (dsimp only at hs; omega)))
      obtain ⟨rfl, q156, hq156, e156⟩ := hP156
      show et_go none _ 81 159 _ [.null] _ _ _ _
      refine hs_aretN (cn := "KnobEye$Node") (by decide +kernel) ?_
      refine ⟨_, _, _, _, _, rfl, hx0, hH, rx_out hX, ?_, hJ⟩
      rw [show sp_sum (L.drop x) = none from sp_many_0 (sp_part_3n i34 w141)]
      exact ⟨rfl, _, (by omega), e156⟩
end AVB
section AVC
variable {K K0 : et_K} {G G0 : eg_G} {L : List sp_T} {d2 d rd x dep m lo0 : Nat}
theorem fj_cmp (hH : et_H et_TT K G) (k_rd : K rd = some 7) (htk : tk K G rd L) (htl : tl L) (r8 : et_pl (eg_at G rd) 8 = some (.int (Int32.ofNat x))) (hx : x ≤ L.length) (r2 : et_pl (eg_at G rd) 2 = some (.int (-1))) (hJ : jR K G rd lo0) (hd : 3 ≤ d2) : et_go none d2 80 0 (eg_en (eg_mL 80) [.ref rd]) [] G 0 0 (fzJ lo0 rd L x K G (fB 1 G.2) (sp_cmp (L.drop x))) := by
  obtain ⟨d, rfl⟩ : ∃ d, d2 = d + 3 := ⟨d2 - 3, by omega⟩
  rw [show eg_mL 80 = 4 from by decide +kernel]
  show et_go none (d + 3) 80 0 [some (.ref rd), none, none, none] [] G 0 0 _
  have lt_rd := (hH.2.2 _ _ k_rd).1
  have hX : xf (fun b j => (b = rd ∧ (2 ≤ j ∧ j ≤ 3)) ∨ (b = rd ∧ j = 8)) G G := xf.rf
  have hx0 : et_ex K K := et_ex.rf
  have hl4 : L.length ≤ 400 := by obtain ⟨_, _, _, _, _, h, _⟩ := htk; exact h
  have lr0 := (hH.2.2 _ _ k_rd).1
  refine hs_aload (i := 0) (p := 1) (by decide +kernel) rfl ?_
  have hHo := hH
  refine ht_callv (T := et_TT) (t := 7) (mi := 81) (na := 0) (ci := 5) (lk := 4) (lm := 6) (L0 := eg_en (eg_mL 81) [.ref rd]) (by decide +kernel) rfl hH k_rd rfl rfl rfl rfl rfl (by rw [show eg_mL 81 = 6 from by decide +kernel]; first | done | rfl) ?_
  refine ((pp_sum hH k_rd r8 (by omega) (by omega)).and (fj_sum hH k_rd htk htl r8 (by omega) r2 hJ (by omega))).mono (fun u hu => fz_cbJ (t := 0) (by decide) hu (fun K1 G1 v1 c1 s1 hxx1 hH x1 hc1 hs1 hm1 hJ => ?_))
  have x1 := rx_in x1
  have lt_rd := Nat.lt_of_lt_of_le lt_rd x1.1
  have hX := hX.tr x1 (fun b j hb h => by first | omega | (dsimp only at h ⊢; omega) | (dsimp only at h; omega) | (dsimp only; omega))
  have m1 := x1.1
  have htk := htk.xf hHo k_rd hxx1 x1 (fun a j hs => .inl (by first | omega | (dsimp only at hs; omega)))
  have k_rd := hxx1 _ _ k_rd
  have hx0 := hx0.tr hxx1
  rcases sp1 : sp_sum (L.drop x) with _ | ⟨f1, r1⟩
  · rw [sp1] at hm1
    obtain ⟨rfl, q1, hq1, r2⟩ := hm1
    show et_go none _ 80 4 _ [.null] _ _ _ _
    refine hs_astore0 (i := 1) (p := 5) (by decide +kernel) (Nat.le_of_ble_eq_true rfl) ?_
    refine hs_aload0 (i := 1) (p := 6) (by decide +kernel) rfl ?_
    refine hs_ifnonnull0 (p := 9) (by decide +kernel) ?_
    refine hs_nul (p := 10) (by decide +kernel) ?_
    refine hs_aretN (cn := "KnobEye$Node") (by decide +kernel) ?_
    refine ⟨_, _, _, _, _, rfl, hx0, hH, rx_out hX, ?_, hJ⟩
    rw [sp_cmp_0 sp1]
    exact ⟨rfl, _, (by omega), r2⟩
  · rw [sp1] at hm1
    obtain ⟨y1, b1, rfl, hy1, hz1, r8, r2, rfl, k_b1, R1⟩ := hm1
    have lt_b1 := (hH.2.2 _ _ k_b1).1
    obtain ⟨R1, lo1⟩ := R1
    show et_go none _ 80 4 _ [.ref b1] _ _ _ _
    refine hs_astore (i := 1) (p := 5) (by decide +kernel) (Nat.le_of_ble_eq_true rfl) ?_
    refine hs_aload (i := 1) (p := 6) (by decide +kernel) rfl ?_
    refine hs_ifnonnull1 (p := 11) (by decide +kernel) ?_
    refine hs_aload (i := 0) (p := 12) (by decide +kernel) rfl ?_
    refine hs_gst (v := Value.ref 25) (p := 15) (by decide +kernel) ?_
    refine ht_callv (T := et_TT) (t := 7) (mi := 78) (na := 1) (ci := 5) (lk := 4) (lm := 2) (L0 := eg_en (eg_mL 78) [.ref rd, .ref 25]) (by decide +kernel) rfl hH k_rd rfl rfl rfl rfl rfl (by rw [show eg_mL 78 = 2 from by decide +kernel]; first | done | rfl) ?_
    refine (fc_is hH k_rd htk htl r8 (by omega) (wd := 25) (by decide)).mono (fun u hu => xp_cb hu ?_)
    by_cases i15 : wat L y1 = 25
    · rw [if_pos i15]
      have il15 : y1 < L.length := wat_i (by rw [i15]; decide)
      show et_go none _ 80 18 _ [.int (Int32.ofNat 1)] _ _ _ _
      refine hs_istore (i := 2) (p := 19) (by decide +kernel) (Nat.le_of_ble_eq_true rfl) ?_
      refine hs_iload (i := 2) (p := 20) (by decide +kernel) rfl ?_
      refine hs_if1 (c := .ne) (t := 38) (f := 23) (by decide +kernel) (show ¬ Int32.ofNat 1 = 0 by decide) ?_
      refine hs_aload (i := 0) (p := 39) (by decide +kernel) rfl ?_
      refine hs_dup1 (p := 40) (by decide +kernel) ?_
      refine hf_get (T := et_TT) (t := 7) (ci := 5) (f := 8) (p := 43) (by decide +kernel) rfl hH k_rd r8 ?_
      refine hs_k (x := Int32.ofNat 1) (p := 44) (by decide +kernel) ?_
      refine hs_iaddn (p := 45) (by decide +kernel) ?_
      have hHo := hH
      refine hf_put (T := et_TT) (t := 7) (ci := 5) (f := 8) (p := 48) (ty := .int) (by decide +kernel) rfl rfl rfl rfl rfl hH k_rd (hi_nv (by omega) (by omega)) (fun G45 hH x45 e45 => ?_)
      have hJ := hJ.xs hHo k_rd x45 (fun a j hs => ⟨fun _ => by first | omega | (dsimp only at hs; omega), fun k6 => by have e9 : a = rd := (by first | omega | (dsimp only at hs; omega)); rw [e9, k_rd] at k6; exact nomatch k6⟩)
      have r2 := (x45.2 rd 2 lt_rd (fun h => absurd h.2 (by decide))).trans r2
      have lt_rd := Nat.lt_of_lt_of_le lt_rd x45.1
      have lt_b1 := Nat.lt_of_lt_of_le lt_b1 x45.1
      have hX := hX.tr x45 (fun b j hb h => by first | omega | (dsimp only at h ⊢; omega) | (dsimp only at h; omega) | (dsimp only; omega))
      have m45 := x45.1
      have htk := htk.xf hHo k_rd et_ex.rf x45 (fun a j hs => .inl (by first | omega | (dsimp only at hs; omega)))
      have R1 := R1.fr (x45.agf (lo := G.2) (hi := G1.2) (by omega) (fun a j h1 h2 hs => by first | omega | (dsimp only at hs; omega)))
      have e45 : et_pl (eg_at G45 rd) 8 = some (.int (Int32.ofNat (y1 + 1))) := e45
      have hHo := hH
      refine hf_newNJ (p := 51) (by decide +kernel) (by omega) (by omega) hH (fun KK48 GG48 hxx48 x48 hH k_G45_2 mm48 hf48 kj48 => ?_)
      have hJ := hJ.nw hHo k_rd x48 hf48.2.2.2.1 kj48
      have r2 := (x48.2 rd 2 lt_rd (fun h => h)).trans r2
      have e45 := (x48.2 rd 8 lt_rd (fun h => h)).trans e45
      have lt_rd := Nat.lt_of_lt_of_le lt_rd x48.1
      have lt_b1 := Nat.lt_of_lt_of_le lt_b1 x48.1
      have hX := hX.tr x48 (fun b j hb h => h.elim)
      have m48 := x48.1
      have htk := htk.xf hHo k_rd hxx48 x48 (fun a j hs => absurd hs id)
      have R1 := R1.fr (x48.agf (lo := G.2) (hi := G1.2) (by omega) (fun a j h1 h2 hs => by exact hs))
      have k_rd := hxx48 _ _ k_rd
      have k_b1 := hxx48 _ _ k_b1
      have hx0 := hx0.tr hxx48
      have lt_G45_2 : G45.2 < GG48.2 := by omega
      obtain ⟨n1_48, n2_48, n3_48, n4_48, n5_48⟩ := hf48
      refine hs_dup1 (p := 52) (by decide +kernel) ?_
      refine hs_iload (i := 2) (p := 53) (by decide +kernel) rfl ?_
      refine hs_if0 (c := .eq) (t := 60) (f := 56) (by decide +kernel) (show ¬ (Int32.ofNat 1 = 0) by decide) ?_
      refine hs_k (x := Int32.ofNat 4) (p := 57) (by decide +kernel) ?_
      refine hs_goto (p := 61) (by decide +kernel) ?_
      have hHo := hH
      refine hs_callp (mi := 61) (na := 1) (lk := 4) (lm := 2) (L0 := eg_en (eg_mL 61) [.ref G45.2, .int (Int32.ofNat 4)]) (by decide +kernel) rfl rfl rfl rfl rfl (by rw [show eg_mL 61 = 2 from by decide +kernel]; first | done | rfl) ?_
      refine (fc_nod hH k_G45_2).mono (fun u hu => xw_cb hu (fun G61 v61 hH x61 hP61 => ?_))
      have hJ := hJ.xs hHo k_rd x61 (fun a j hs => ⟨fun e9 => absurd (hs.1.symm.trans e9) (hi_ne k_G45_2 k_rd (by decide)), fun _ => by have h9 := hs.2; omega⟩)
      have r2 := (x61.2 rd 2 lt_rd (fun h => (hi_ne k_rd k_G45_2 (by decide)) h.1)).trans r2
      have e45 := (x61.2 rd 8 lt_rd (fun h => (hi_ne k_rd k_G45_2 (by decide)) h.1)).trans e45
      have n1_48 := (x61.2 G45.2 1 lt_G45_2 (fun h => absurd h.2 (by decide))).trans n1_48
      have n2_48 := (x61.2 G45.2 2 lt_G45_2 (fun h => absurd h.2 (by decide))).trans n2_48
      have n3_48 := (x61.2 G45.2 3 lt_G45_2 (fun h => absurd h.2 (by decide))).trans n3_48
      have n4_48 := (x61.2 G45.2 4 lt_G45_2 (fun h => absurd h.2 (by decide))).trans n4_48
      have n5_48 := (x61.2 G45.2 5 lt_G45_2 (fun h => absurd h.2 (by decide))).trans n5_48
      have lt_rd := Nat.lt_of_lt_of_le lt_rd x61.1
      have lt_b1 := Nat.lt_of_lt_of_le lt_b1 x61.1
      have lt_G45_2 := Nat.lt_of_lt_of_le lt_G45_2 x61.1
      have hX := hX.tr x61 (fun b j hb h => by first | omega | (dsimp only at h ⊢; omega) | (dsimp only at h; omega) | (dsimp only; omega))
      have m61 := x61.1
      have htk := htk.xf hHo k_rd et_ex.rf x61 (fun a j hs => .inr (.inl (by have e := hs.1; rw [e]; exact k_G45_2)))
      have R1 := R1.fr (x61.agf (lo := G.2) (hi := G1.2) (by omega) (fun a j h1 h2 hs => by first | omega | (dsimp only at hs; omega)))
      obtain ⟨rfl, e61⟩ := hP61
      show et_go none _ 80 64 _ [.ref G45.2] _ _ _ _
      refine hs_astore (i := 3) (p := 65) (by decide +kernel) (Nat.le_of_ble_eq_true rfl) ?_
      refine hs_aload (i := 3) (p := 66) (by decide +kernel) rfl ?_
      refine hs_aload (i := 1) (p := 67) (by decide +kernel) rfl ?_
      have hHo := hH
      refine hf_put (T := et_TT) (t := 6) (ci := 4) (f := 2) (p := 70) (ty := (.object "KnobEye$Node")) (by decide +kernel) rfl rfl rfl rfl rfl hH k_G45_2 (.inr ⟨by decide, _, rfl, k_b1⟩) (fun G67 hH x67 e67 => ?_)
      have hJ := hJ.xs hHo k_rd x67 (fun a j hs => ⟨fun e9 => absurd (hs.1.symm.trans e9) (hi_ne k_G45_2 k_rd (by decide)), fun _ => by have h9 := hs.2; omega⟩)
      have r2 := (x67.2 rd 2 lt_rd (fun h => (hi_ne k_rd k_G45_2 (by decide)) h.1)).trans r2
      have e45 := (x67.2 rd 8 lt_rd (fun h => (hi_ne k_rd k_G45_2 (by decide)) h.1)).trans e45
      have n1_48 := (x67.2 G45.2 1 lt_G45_2 (fun h => absurd h.2 (by decide))).trans n1_48
      have n3_48 := (x67.2 G45.2 3 lt_G45_2 (fun h => absurd h.2 (by decide))).trans n3_48
      have n4_48 := (x67.2 G45.2 4 lt_G45_2 (fun h => absurd h.2 (by decide))).trans n4_48
      have n5_48 := (x67.2 G45.2 5 lt_G45_2 (fun h => absurd h.2 (by decide))).trans n5_48
      have e61 := (x67.2 G45.2 0 lt_G45_2 (fun h => absurd h.2 (by decide))).trans e61
      have lt_rd := Nat.lt_of_lt_of_le lt_rd x67.1
      have lt_b1 := Nat.lt_of_lt_of_le lt_b1 x67.1
      have lt_G45_2 := Nat.lt_of_lt_of_le lt_G45_2 x67.1
      have hX := hX.tr x67 (fun b j hb h => by first | omega | (dsimp only at h ⊢; omega) | (dsimp only at h; omega) | (dsimp only; omega))
      have m67 := x67.1
      have htk := htk.xf hHo k_rd et_ex.rf x67 (fun a j hs => .inr (.inl (by have e := hs.1; rw [e]; exact k_G45_2)))
      have R1 := R1.fr (x67.agf (lo := G.2) (hi := G1.2) (by omega) (fun a j h1 h2 hs => by first | omega | (dsimp only at hs; omega)))
      refine hs_aload (i := 3) (p := 71) (by decide +kernel) rfl ?_
      refine hs_aload (i := 0) (p := 72) (by decide +kernel) rfl ?_
      have hHo := hH
      refine ht_callv (T := et_TT) (t := 7) (mi := 81) (na := 0) (ci := 5) (lk := 4) (lm := 6) (L0 := eg_en (eg_mL 81) [.ref rd]) (by decide +kernel) rfl hH k_rd rfl rfl rfl rfl rfl (by rw [show eg_mL 81 = 6 from by decide +kernel]; first | done | rfl) ?_
      refine ((pp_sum hH k_rd e45 (by omega) (by omega)).and (fj_sum hH k_rd htk htl e45 (by omega) r2 hJ (by omega))).mono (fun u hu => fz_cbJ (t := 0) (by decide) hu (fun K72 G72 v72 c72 s72 hxx72 hH x72 hc72 hs72 hm72 hJ => ?_))
      have x72 := rx_in x72
      have n1_48 := (x72.2 G45.2 1 lt_G45_2 (fun h => Or.elim h (fun h => (hi_ne k_G45_2 k_rd (by decide)) h.1) (fun h => (hi_ne k_G45_2 k_rd (by decide)) h.1))).trans n1_48
      have e67 := (x72.2 G45.2 2 lt_G45_2 (fun h => Or.elim h (fun h => (hi_ne k_G45_2 k_rd (by decide)) h.1) (fun h => (hi_ne k_G45_2 k_rd (by decide)) h.1))).trans e67
      have n3_48 := (x72.2 G45.2 3 lt_G45_2 (fun h => Or.elim h (fun h => (hi_ne k_G45_2 k_rd (by decide)) h.1) (fun h => (hi_ne k_G45_2 k_rd (by decide)) h.1))).trans n3_48
      have n4_48 := (x72.2 G45.2 4 lt_G45_2 (fun h => Or.elim h (fun h => (hi_ne k_G45_2 k_rd (by decide)) h.1) (fun h => (hi_ne k_G45_2 k_rd (by decide)) h.1))).trans n4_48
      have n5_48 := (x72.2 G45.2 5 lt_G45_2 (fun h => Or.elim h (fun h => (hi_ne k_G45_2 k_rd (by decide)) h.1) (fun h => (hi_ne k_G45_2 k_rd (by decide)) h.1))).trans n5_48
      have e61 := (x72.2 G45.2 0 lt_G45_2 (fun h => Or.elim h (fun h => (hi_ne k_G45_2 k_rd (by decide)) h.1) (fun h => (hi_ne k_G45_2 k_rd (by decide)) h.1))).trans e61
      have lt_rd := Nat.lt_of_lt_of_le lt_rd x72.1
      have lt_b1 := Nat.lt_of_lt_of_le lt_b1 x72.1
      have lt_G45_2 := Nat.lt_of_lt_of_le lt_G45_2 x72.1
      have hX := hX.tr x72 (fun b j hb h => by first | omega | (dsimp only at h ⊢; omega) | (dsimp only at h; omega) | (dsimp only; omega))
      have m72 := x72.1
      have htk := htk.xf hHo k_rd hxx72 x72 (fun a j hs => .inl (by first | omega | (dsimp only at hs; omega)))
      have R1 := R1.fr (x72.agf (lo := G.2) (hi := G1.2) (by omega) (fun a j h1 h2 hs => by first | omega | (dsimp only at hs; omega)))
      have k_rd := hxx72 _ _ k_rd
      have k_b1 := hxx72 _ _ k_b1
      have k_G45_2 := hxx72 _ _ k_G45_2
      have hx0 := hx0.tr hxx72
      rcases sp72 : sp_sum (L.drop (y1 + 1)) with _ | ⟨f72, r72⟩
      · rw [sp72] at hm72
        obtain ⟨rfl, q72, hq72, r2⟩ := hm72
        show et_go none _ 80 75 _ [.null, .ref G45.2] _ _ _ _
        have hHo := hH
        refine hf_put (T := et_TT) (t := 6) (ci := 4) (f := 3) (p := 78) (ty := (.object "KnobEye$Node")) (by decide +kernel) rfl rfl rfl rfl rfl hH k_G45_2 (.inl ⟨by decide, rfl⟩) (fun G75 hH x75 e75 => ?_)
        have hJ := hJ.xs hHo k_rd x75 (fun a j hs => ⟨fun e9 => absurd (hs.1.symm.trans e9) (hi_ne k_G45_2 k_rd (by decide)), fun _ => by have h9 := hs.2; omega⟩)
        have n1_48 := (x75.2 G45.2 1 lt_G45_2 (fun h => absurd h.2 (by decide))).trans n1_48
        have e67 := (x75.2 G45.2 2 lt_G45_2 (fun h => absurd h.2 (by decide))).trans e67
        have n4_48 := (x75.2 G45.2 4 lt_G45_2 (fun h => absurd h.2 (by decide))).trans n4_48
        have n5_48 := (x75.2 G45.2 5 lt_G45_2 (fun h => absurd h.2 (by decide))).trans n5_48
        have e61 := (x75.2 G45.2 0 lt_G45_2 (fun h => absurd h.2 (by decide))).trans e61
        have r2 := (x75.2 rd 2 lt_rd (fun h => (hi_ne k_rd k_G45_2 (by decide)) h.1)).trans r2
        have lt_rd := Nat.lt_of_lt_of_le lt_rd x75.1
        have lt_b1 := Nat.lt_of_lt_of_le lt_b1 x75.1
        have lt_G45_2 := Nat.lt_of_lt_of_le lt_G45_2 x75.1
        have hX := hX.tr x75 (fun b j hb h => by first | omega | (dsimp only at h ⊢; omega) | (dsimp only at h; omega) | (dsimp only; omega))
        have m75 := x75.1
        have htk := htk.xf hHo k_rd et_ex.rf x75 (fun a j hs => .inr (.inl (by have e := hs.1; rw [e]; exact k_G45_2)))
        have R1 := R1.fr (x75.agf (lo := G.2) (hi := G1.2) (by omega) (fun a j h1 h2 hs => by first | omega | (dsimp only at hs; omega)))
        refine hs_aload (i := 3) (p := 79) (by decide +kernel) rfl ?_
        refine hf_get (T := et_TT) (t := 6) (ci := 4) (f := 3) (p := 82) (by decide +kernel) rfl hH k_G45_2 e75 ?_
        refine hs_ifnonnull0 (p := 85) (by decide +kernel) ?_
        refine hs_nul (p := 86) (by decide +kernel) ?_
        refine hs_goto (p := 90) (by decide +kernel) ?_
        refine hs_aretN (cn := "KnobEye$Node") (by decide +kernel) ?_
        refine ⟨_, _, _, _, _, rfl, hx0, hH, rx_out hX, ?_, hJ⟩
        rw [sp_cmp_n sp1 i15 (.inl rfl) sp72]
        exact ⟨rfl, _, (by omega), r2⟩
      · rw [sp72] at hm72
        obtain ⟨y72, b72, rfl, hy72, hz72, r8, r2, rfl, k_b72, R72⟩ := hm72
        have lt_b72 := (hH.2.2 _ _ k_b72).1
        obtain ⟨R72, lo72⟩ := R72
        show et_go none _ 80 75 _ [.ref b72, .ref G45.2] _ _ _ _
        have hHo := hH
        refine hf_put (T := et_TT) (t := 6) (ci := 4) (f := 3) (p := 78) (ty := (.object "KnobEye$Node")) (by decide +kernel) rfl rfl rfl rfl rfl hH k_G45_2 (.inr ⟨by decide, _, rfl, k_b72⟩) (fun G75 hH x75 e75 => ?_)
        have hJ := hJ.xs hHo k_rd x75 (fun a j hs => ⟨fun e9 => absurd (hs.1.symm.trans e9) (hi_ne k_G45_2 k_rd (by decide)), fun _ => by have h9 := hs.2; omega⟩)
        have n1_48 := (x75.2 G45.2 1 lt_G45_2 (fun h => absurd h.2 (by decide))).trans n1_48
        have e67 := (x75.2 G45.2 2 lt_G45_2 (fun h => absurd h.2 (by decide))).trans e67
        have n4_48 := (x75.2 G45.2 4 lt_G45_2 (fun h => absurd h.2 (by decide))).trans n4_48
        have n5_48 := (x75.2 G45.2 5 lt_G45_2 (fun h => absurd h.2 (by decide))).trans n5_48
        have e61 := (x75.2 G45.2 0 lt_G45_2 (fun h => absurd h.2 (by decide))).trans e61
        have r2 := (x75.2 rd 2 lt_rd (fun h => (hi_ne k_rd k_G45_2 (by decide)) h.1)).trans r2
        have r8 := (x75.2 rd 8 lt_rd (fun h => (hi_ne k_rd k_G45_2 (by decide)) h.1)).trans r8
        have lt_rd := Nat.lt_of_lt_of_le lt_rd x75.1
        have lt_b1 := Nat.lt_of_lt_of_le lt_b1 x75.1
        have lt_G45_2 := Nat.lt_of_lt_of_le lt_G45_2 x75.1
        have lt_b72 := Nat.lt_of_lt_of_le lt_b72 x75.1
        have hX := hX.tr x75 (fun b j hb h => by first | omega | (dsimp only at h ⊢; omega) | (dsimp only at h; omega) | (dsimp only; omega))
        have m75 := x75.1
        have htk := htk.xf hHo k_rd et_ex.rf x75 (fun a j hs => .inr (.inl (by have e := hs.1; rw [e]; exact k_G45_2)))
        have R1 := R1.fr (x75.agf (lo := G.2) (hi := G1.2) (by omega) (fun a j h1 h2 hs => by first | omega | (dsimp only at hs; omega)))
        have R72 := R72.fr (x75.agf (lo := G67.2) (hi := G72.2) (by omega) (fun a j h1 h2 hs => by first | omega | (dsimp only at hs; omega)))
        refine hs_aload (i := 3) (p := 79) (by decide +kernel) rfl ?_
        refine hf_get (T := et_TT) (t := 6) (ci := 4) (f := 3) (p := 82) (by decide +kernel) rfl hH k_G45_2 e75 ?_
        refine hs_ifnonnull1 (p := 89) (by decide +kernel) ?_
        refine hs_aload (i := 3) (p := 90) (by decide +kernel) rfl ?_
        refine hs_aret (cn := "KnobEye$Node") (by decide +kernel) ?_
        refine ⟨_, _, _, _, _, rfl, hx0, hH, rx_out hX, ?_, hJ⟩
        rw [sp_cmp_y sp1 i15 (.inl rfl) sp72]
        exact ⟨y72, _, rfl, (by omega), (by omega), r8, r2, rfl, k_G45_2, ⟨⟨⟨by omega, lt_G45_2⟩, .inr (.inl ⟨4, _, _, _, _, .inl rfl, e61, e67, e75, R1.wk (Nat.le_refl _) (by omega), R72.wk (by omega) (by omega), rfl⟩)⟩, n1_48⟩⟩
    · rw [if_neg i15]
      show et_go none _ 80 18 _ [.int (Int32.ofNat 0)] _ _ _ _
      refine hs_istore (i := 2) (p := 19) (by decide +kernel) (Nat.le_of_ble_eq_true rfl) ?_
      refine hs_iload (i := 2) (p := 20) (by decide +kernel) rfl ?_
      refine hs_if0 (c := .ne) (t := 38) (f := 23) (by decide +kernel) (show ¬ (¬ Int32.ofNat 0 = 0) by decide) ?_
      refine hs_aload (i := 0) (p := 24) (by decide +kernel) rfl ?_
      refine hs_gst (v := Value.ref 26) (p := 27) (by decide +kernel) ?_
      refine ht_callv (T := et_TT) (t := 7) (mi := 78) (na := 1) (ci := 5) (lk := 4) (lm := 2) (L0 := eg_en (eg_mL 78) [.ref rd, .ref 26]) (by decide +kernel) rfl hH k_rd rfl rfl rfl rfl rfl (by rw [show eg_mL 78 = 2 from by decide +kernel]; first | done | rfl) ?_
      refine (fc_is hH k_rd htk htl r8 (by omega) (wd := 26) (by decide)).mono (fun u hu => xp_cb hu ?_)
      by_cases i27 : wat L y1 = 26
      · rw [if_pos i27]
        have il27 : y1 < L.length := wat_i (by rw [i27]; decide)
        show et_go none _ 80 30 _ [.int (Int32.ofNat 1)] _ _ _ _
        refine hs_if1 (c := .ne) (t := 38) (f := 33) (by decide +kernel) (show ¬ Int32.ofNat 1 = 0 by decide) ?_
        refine hs_aload (i := 0) (p := 39) (by decide +kernel) rfl ?_
        refine hs_dup1 (p := 40) (by decide +kernel) ?_
        refine hf_get (T := et_TT) (t := 7) (ci := 5) (f := 8) (p := 43) (by decide +kernel) rfl hH k_rd r8 ?_
        refine hs_k (x := Int32.ofNat 1) (p := 44) (by decide +kernel) ?_
        refine hs_iaddn (p := 45) (by decide +kernel) ?_
        have hHo := hH
        refine hf_put (T := et_TT) (t := 7) (ci := 5) (f := 8) (p := 48) (ty := .int) (by decide +kernel) rfl rfl rfl rfl rfl hH k_rd (hi_nv (by omega) (by omega)) (fun G45 hH x45 e45 => ?_)
        have hJ := hJ.xs hHo k_rd x45 (fun a j hs => ⟨fun _ => by first | omega | (dsimp only at hs; omega), fun k6 => by have e9 : a = rd := (by first | omega | (dsimp only at hs; omega)); rw [e9, k_rd] at k6; exact nomatch k6⟩)
        have r2 := (x45.2 rd 2 lt_rd (fun h => absurd h.2 (by decide))).trans r2
        have lt_rd := Nat.lt_of_lt_of_le lt_rd x45.1
        have lt_b1 := Nat.lt_of_lt_of_le lt_b1 x45.1
        have hX := hX.tr x45 (fun b j hb h => by first | omega | (dsimp only at h ⊢; omega) | (dsimp only at h; omega) | (dsimp only; omega))
        have m45 := x45.1
        have htk := htk.xf hHo k_rd et_ex.rf x45 (fun a j hs => .inl (by first | omega | (dsimp only at hs; omega)))
        have R1 := R1.fr (x45.agf (lo := G.2) (hi := G1.2) (by omega) (fun a j h1 h2 hs => by first | omega | (dsimp only at hs; omega)))
        have e45 : et_pl (eg_at G45 rd) 8 = some (.int (Int32.ofNat (y1 + 1))) := e45
        have hHo := hH
        refine hf_newNJ (p := 51) (by decide +kernel) (by omega) (by omega) hH (fun KK48 GG48 hxx48 x48 hH k_G45_2 mm48 hf48 kj48 => ?_)
        have hJ := hJ.nw hHo k_rd x48 hf48.2.2.2.1 kj48
        have r2 := (x48.2 rd 2 lt_rd (fun h => h)).trans r2
        have e45 := (x48.2 rd 8 lt_rd (fun h => h)).trans e45
        have lt_rd := Nat.lt_of_lt_of_le lt_rd x48.1
        have lt_b1 := Nat.lt_of_lt_of_le lt_b1 x48.1
        have hX := hX.tr x48 (fun b j hb h => h.elim)
        have m48 := x48.1
        have htk := htk.xf hHo k_rd hxx48 x48 (fun a j hs => absurd hs id)
        have R1 := R1.fr (x48.agf (lo := G.2) (hi := G1.2) (by omega) (fun a j h1 h2 hs => by exact hs))
        have k_rd := hxx48 _ _ k_rd
        have k_b1 := hxx48 _ _ k_b1
        have hx0 := hx0.tr hxx48
        have lt_G45_2 : G45.2 < GG48.2 := by omega
        obtain ⟨n1_48, n2_48, n3_48, n4_48, n5_48⟩ := hf48
        refine hs_dup1 (p := 52) (by decide +kernel) ?_
        refine hs_iload (i := 2) (p := 53) (by decide +kernel) rfl ?_
        refine hs_if1 (c := .eq) (t := 60) (f := 56) (by decide +kernel) (show Int32.ofNat 0 = 0 by decide) ?_
        refine hs_k (x := Int32.ofNat 5) (p := 61) (by decide +kernel) ?_
        have hHo := hH
        refine hs_callp (mi := 61) (na := 1) (lk := 4) (lm := 2) (L0 := eg_en (eg_mL 61) [.ref G45.2, .int (Int32.ofNat 5)]) (by decide +kernel) rfl rfl rfl rfl rfl (by rw [show eg_mL 61 = 2 from by decide +kernel]; first | done | rfl) ?_
        refine (fc_nod hH k_G45_2).mono (fun u hu => xw_cb hu (fun G61 v61 hH x61 hP61 => ?_))
        have hJ := hJ.xs hHo k_rd x61 (fun a j hs => ⟨fun e9 => absurd (hs.1.symm.trans e9) (hi_ne k_G45_2 k_rd (by decide)), fun _ => by have h9 := hs.2; omega⟩)
        have r2 := (x61.2 rd 2 lt_rd (fun h => (hi_ne k_rd k_G45_2 (by decide)) h.1)).trans r2
        have e45 := (x61.2 rd 8 lt_rd (fun h => (hi_ne k_rd k_G45_2 (by decide)) h.1)).trans e45
        have n1_48 := (x61.2 G45.2 1 lt_G45_2 (fun h => absurd h.2 (by decide))).trans n1_48
        have n2_48 := (x61.2 G45.2 2 lt_G45_2 (fun h => absurd h.2 (by decide))).trans n2_48
        have n3_48 := (x61.2 G45.2 3 lt_G45_2 (fun h => absurd h.2 (by decide))).trans n3_48
        have n4_48 := (x61.2 G45.2 4 lt_G45_2 (fun h => absurd h.2 (by decide))).trans n4_48
        have n5_48 := (x61.2 G45.2 5 lt_G45_2 (fun h => absurd h.2 (by decide))).trans n5_48
        have lt_rd := Nat.lt_of_lt_of_le lt_rd x61.1
        have lt_b1 := Nat.lt_of_lt_of_le lt_b1 x61.1
        have lt_G45_2 := Nat.lt_of_lt_of_le lt_G45_2 x61.1
        have hX := hX.tr x61 (fun b j hb h => by first | omega | (dsimp only at h ⊢; omega) | (dsimp only at h; omega) | (dsimp only; omega))
        have m61 := x61.1
        have htk := htk.xf hHo k_rd et_ex.rf x61 (fun a j hs => .inr (.inl (by have e := hs.1; rw [e]; exact k_G45_2)))
        have R1 := R1.fr (x61.agf (lo := G.2) (hi := G1.2) (by omega) (fun a j h1 h2 hs => by first | omega | (dsimp only at hs; omega)))
        obtain ⟨rfl, e61⟩ := hP61
        show et_go none _ 80 64 _ [.ref G45.2] _ _ _ _
        refine hs_astore (i := 3) (p := 65) (by decide +kernel) (Nat.le_of_ble_eq_true rfl) ?_
        refine hs_aload (i := 3) (p := 66) (by decide +kernel) rfl ?_
        refine hs_aload (i := 1) (p := 67) (by decide +kernel) rfl ?_
        have hHo := hH
        refine hf_put (T := et_TT) (t := 6) (ci := 4) (f := 2) (p := 70) (ty := (.object "KnobEye$Node")) (by decide +kernel) rfl rfl rfl rfl rfl hH k_G45_2 (.inr ⟨by decide, _, rfl, k_b1⟩) (fun G67 hH x67 e67 => ?_)
        have hJ := hJ.xs hHo k_rd x67 (fun a j hs => ⟨fun e9 => absurd (hs.1.symm.trans e9) (hi_ne k_G45_2 k_rd (by decide)), fun _ => by have h9 := hs.2; omega⟩)
        have r2 := (x67.2 rd 2 lt_rd (fun h => (hi_ne k_rd k_G45_2 (by decide)) h.1)).trans r2
        have e45 := (x67.2 rd 8 lt_rd (fun h => (hi_ne k_rd k_G45_2 (by decide)) h.1)).trans e45
        have n1_48 := (x67.2 G45.2 1 lt_G45_2 (fun h => absurd h.2 (by decide))).trans n1_48
        have n3_48 := (x67.2 G45.2 3 lt_G45_2 (fun h => absurd h.2 (by decide))).trans n3_48
        have n4_48 := (x67.2 G45.2 4 lt_G45_2 (fun h => absurd h.2 (by decide))).trans n4_48
        have n5_48 := (x67.2 G45.2 5 lt_G45_2 (fun h => absurd h.2 (by decide))).trans n5_48
        have e61 := (x67.2 G45.2 0 lt_G45_2 (fun h => absurd h.2 (by decide))).trans e61
        have lt_rd := Nat.lt_of_lt_of_le lt_rd x67.1
        have lt_b1 := Nat.lt_of_lt_of_le lt_b1 x67.1
        have lt_G45_2 := Nat.lt_of_lt_of_le lt_G45_2 x67.1
        have hX := hX.tr x67 (fun b j hb h => by first | omega | (dsimp only at h ⊢; omega) | (dsimp only at h; omega) | (dsimp only; omega))
        have m67 := x67.1
        have htk := htk.xf hHo k_rd et_ex.rf x67 (fun a j hs => .inr (.inl (by have e := hs.1; rw [e]; exact k_G45_2)))
        have R1 := R1.fr (x67.agf (lo := G.2) (hi := G1.2) (by omega) (fun a j h1 h2 hs => by first | omega | (dsimp only at hs; omega)))
        refine hs_aload (i := 3) (p := 71) (by decide +kernel) rfl ?_
        refine hs_aload (i := 0) (p := 72) (by decide +kernel) rfl ?_
        have hHo := hH
        refine ht_callv (T := et_TT) (t := 7) (mi := 81) (na := 0) (ci := 5) (lk := 4) (lm := 6) (L0 := eg_en (eg_mL 81) [.ref rd]) (by decide +kernel) rfl hH k_rd rfl rfl rfl rfl rfl (by rw [show eg_mL 81 = 6 from by decide +kernel]; first | done | rfl) ?_
        refine ((pp_sum hH k_rd e45 (by omega) (by omega)).and (fj_sum hH k_rd htk htl e45 (by omega) r2 hJ (by omega))).mono (fun u hu => fz_cbJ (t := 0) (by decide) hu (fun K72 G72 v72 c72 s72 hxx72 hH x72 hc72 hs72 hm72 hJ => ?_))
        have x72 := rx_in x72
        have n1_48 := (x72.2 G45.2 1 lt_G45_2 (fun h => Or.elim h (fun h => (hi_ne k_G45_2 k_rd (by decide)) h.1) (fun h => (hi_ne k_G45_2 k_rd (by decide)) h.1))).trans n1_48
        have e67 := (x72.2 G45.2 2 lt_G45_2 (fun h => Or.elim h (fun h => (hi_ne k_G45_2 k_rd (by decide)) h.1) (fun h => (hi_ne k_G45_2 k_rd (by decide)) h.1))).trans e67
        have n3_48 := (x72.2 G45.2 3 lt_G45_2 (fun h => Or.elim h (fun h => (hi_ne k_G45_2 k_rd (by decide)) h.1) (fun h => (hi_ne k_G45_2 k_rd (by decide)) h.1))).trans n3_48
        have n4_48 := (x72.2 G45.2 4 lt_G45_2 (fun h => Or.elim h (fun h => (hi_ne k_G45_2 k_rd (by decide)) h.1) (fun h => (hi_ne k_G45_2 k_rd (by decide)) h.1))).trans n4_48
        have n5_48 := (x72.2 G45.2 5 lt_G45_2 (fun h => Or.elim h (fun h => (hi_ne k_G45_2 k_rd (by decide)) h.1) (fun h => (hi_ne k_G45_2 k_rd (by decide)) h.1))).trans n5_48
        have e61 := (x72.2 G45.2 0 lt_G45_2 (fun h => Or.elim h (fun h => (hi_ne k_G45_2 k_rd (by decide)) h.1) (fun h => (hi_ne k_G45_2 k_rd (by decide)) h.1))).trans e61
        have lt_rd := Nat.lt_of_lt_of_le lt_rd x72.1
        have lt_b1 := Nat.lt_of_lt_of_le lt_b1 x72.1
        have lt_G45_2 := Nat.lt_of_lt_of_le lt_G45_2 x72.1
        have hX := hX.tr x72 (fun b j hb h => by first | omega | (dsimp only at h ⊢; omega) | (dsimp only at h; omega) | (dsimp only; omega))
        have m72 := x72.1
        have htk := htk.xf hHo k_rd hxx72 x72 (fun a j hs => .inl (by first | omega | (dsimp only at hs; omega)))
        have R1 := R1.fr (x72.agf (lo := G.2) (hi := G1.2) (by omega) (fun a j h1 h2 hs => by first | omega | (dsimp only at hs; omega)))
        have k_rd := hxx72 _ _ k_rd
        have k_b1 := hxx72 _ _ k_b1
        have k_G45_2 := hxx72 _ _ k_G45_2
        have hx0 := hx0.tr hxx72
        rcases sp72 : sp_sum (L.drop (y1 + 1)) with _ | ⟨f72, r72⟩
        · rw [sp72] at hm72
          obtain ⟨rfl, q72, hq72, r2⟩ := hm72
          show et_go none _ 80 75 _ [.null, .ref G45.2] _ _ _ _
          have hHo := hH
          refine hf_put (T := et_TT) (t := 6) (ci := 4) (f := 3) (p := 78) (ty := (.object "KnobEye$Node")) (by decide +kernel) rfl rfl rfl rfl rfl hH k_G45_2 (.inl ⟨by decide, rfl⟩) (fun G75 hH x75 e75 => ?_)
          have hJ := hJ.xs hHo k_rd x75 (fun a j hs => ⟨fun e9 => absurd (hs.1.symm.trans e9) (hi_ne k_G45_2 k_rd (by decide)), fun _ => by have h9 := hs.2; omega⟩)
          have n1_48 := (x75.2 G45.2 1 lt_G45_2 (fun h => absurd h.2 (by decide))).trans n1_48
          have e67 := (x75.2 G45.2 2 lt_G45_2 (fun h => absurd h.2 (by decide))).trans e67
          have n4_48 := (x75.2 G45.2 4 lt_G45_2 (fun h => absurd h.2 (by decide))).trans n4_48
          have n5_48 := (x75.2 G45.2 5 lt_G45_2 (fun h => absurd h.2 (by decide))).trans n5_48
          have e61 := (x75.2 G45.2 0 lt_G45_2 (fun h => absurd h.2 (by decide))).trans e61
          have r2 := (x75.2 rd 2 lt_rd (fun h => (hi_ne k_rd k_G45_2 (by decide)) h.1)).trans r2
          have lt_rd := Nat.lt_of_lt_of_le lt_rd x75.1
          have lt_b1 := Nat.lt_of_lt_of_le lt_b1 x75.1
          have lt_G45_2 := Nat.lt_of_lt_of_le lt_G45_2 x75.1
          have hX := hX.tr x75 (fun b j hb h => by first | omega | (dsimp only at h ⊢; omega) | (dsimp only at h; omega) | (dsimp only; omega))
          have m75 := x75.1
          have htk := htk.xf hHo k_rd et_ex.rf x75 (fun a j hs => .inr (.inl (by have e := hs.1; rw [e]; exact k_G45_2)))
          have R1 := R1.fr (x75.agf (lo := G.2) (hi := G1.2) (by omega) (fun a j h1 h2 hs => by first | omega | (dsimp only at hs; omega)))
          refine hs_aload (i := 3) (p := 79) (by decide +kernel) rfl ?_
          refine hf_get (T := et_TT) (t := 6) (ci := 4) (f := 3) (p := 82) (by decide +kernel) rfl hH k_G45_2 e75 ?_
          refine hs_ifnonnull0 (p := 85) (by decide +kernel) ?_
          refine hs_nul (p := 86) (by decide +kernel) ?_
          refine hs_goto (p := 90) (by decide +kernel) ?_
          refine hs_aretN (cn := "KnobEye$Node") (by decide +kernel) ?_
          refine ⟨_, _, _, _, _, rfl, hx0, hH, rx_out hX, ?_, hJ⟩
          rw [sp_cmp_n sp1 i27 (.inr rfl) sp72]
          exact ⟨rfl, _, (by omega), r2⟩
        · rw [sp72] at hm72
          obtain ⟨y72, b72, rfl, hy72, hz72, r8, r2, rfl, k_b72, R72⟩ := hm72
          have lt_b72 := (hH.2.2 _ _ k_b72).1
          obtain ⟨R72, lo72⟩ := R72
          show et_go none _ 80 75 _ [.ref b72, .ref G45.2] _ _ _ _
          have hHo := hH
          refine hf_put (T := et_TT) (t := 6) (ci := 4) (f := 3) (p := 78) (ty := (.object "KnobEye$Node")) (by decide +kernel) rfl rfl rfl rfl rfl hH k_G45_2 (.inr ⟨by decide, _, rfl, k_b72⟩) (fun G75 hH x75 e75 => ?_)
          have hJ := hJ.xs hHo k_rd x75 (fun a j hs => ⟨fun e9 => absurd (hs.1.symm.trans e9) (hi_ne k_G45_2 k_rd (by decide)), fun _ => by have h9 := hs.2; omega⟩)
          have n1_48 := (x75.2 G45.2 1 lt_G45_2 (fun h => absurd h.2 (by decide))).trans n1_48
          have e67 := (x75.2 G45.2 2 lt_G45_2 (fun h => absurd h.2 (by decide))).trans e67
          have n4_48 := (x75.2 G45.2 4 lt_G45_2 (fun h => absurd h.2 (by decide))).trans n4_48
          have n5_48 := (x75.2 G45.2 5 lt_G45_2 (fun h => absurd h.2 (by decide))).trans n5_48
          have e61 := (x75.2 G45.2 0 lt_G45_2 (fun h => absurd h.2 (by decide))).trans e61
          have r2 := (x75.2 rd 2 lt_rd (fun h => (hi_ne k_rd k_G45_2 (by decide)) h.1)).trans r2
          have r8 := (x75.2 rd 8 lt_rd (fun h => (hi_ne k_rd k_G45_2 (by decide)) h.1)).trans r8
          have lt_rd := Nat.lt_of_lt_of_le lt_rd x75.1
          have lt_b1 := Nat.lt_of_lt_of_le lt_b1 x75.1
          have lt_G45_2 := Nat.lt_of_lt_of_le lt_G45_2 x75.1
          have lt_b72 := Nat.lt_of_lt_of_le lt_b72 x75.1
          have hX := hX.tr x75 (fun b j hb h => by first | omega | (dsimp only at h ⊢; omega) | (dsimp only at h; omega) | (dsimp only; omega))
          have m75 := x75.1
          have htk := htk.xf hHo k_rd et_ex.rf x75 (fun a j hs => .inr (.inl (by have e := hs.1; rw [e]; exact k_G45_2)))
          have R1 := R1.fr (x75.agf (lo := G.2) (hi := G1.2) (by omega) (fun a j h1 h2 hs => by first | omega | (dsimp only at hs; omega)))
          have R72 := R72.fr (x75.agf (lo := G67.2) (hi := G72.2) (by omega) (fun a j h1 h2 hs => by first | omega | (dsimp only at hs; omega)))
          refine hs_aload (i := 3) (p := 79) (by decide +kernel) rfl ?_
          refine hf_get (T := et_TT) (t := 6) (ci := 4) (f := 3) (p := 82) (by decide +kernel) rfl hH k_G45_2 e75 ?_
          refine hs_ifnonnull1 (p := 89) (by decide +kernel) ?_
          refine hs_aload (i := 3) (p := 90) (by decide +kernel) rfl ?_
          refine hs_aret (cn := "KnobEye$Node") (by decide +kernel) ?_
          refine ⟨_, _, _, _, _, rfl, hx0, hH, rx_out hX, ?_, hJ⟩
          rw [sp_cmp_y sp1 i27 (.inr rfl) sp72]
          exact ⟨y72, _, rfl, (by omega), (by omega), r8, r2, rfl, k_G45_2, ⟨⟨⟨by omega, lt_G45_2⟩, .inr (.inl ⟨5, _, _, _, _, .inr rfl, e61, e67, e75, R1.wk (Nat.le_refl _) (by omega), R72.wk (by omega) (by omega), rfl⟩)⟩, n1_48⟩⟩
      · rw [if_neg i27]
        show et_go none _ 80 30 _ [.int (Int32.ofNat 0)] _ _ _ _
        refine hs_if0 (c := .ne) (t := 38) (f := 33) (by decide +kernel) (show ¬ (¬ Int32.ofNat 0 = 0) by decide) ?_
        refine hs_aload (i := 0) (p := 34) (by decide +kernel) rfl ?_
        have hHo := hH
        refine ht_callv (T := et_TT) (t := 7) (mi := 76) (na := 0) (ci := 5) (lk := 4) (lm := 1) (L0 := eg_en (eg_mL 76) [.ref rd]) (by decide +kernel) rfl hH k_rd rfl rfl rfl rfl rfl (by rw [show eg_mL 76 = 1 from by decide +kernel]; first | done | rfl) ?_
        refine (fc_fail hH k_rd htk htl r8 (by omega) r2).mono (fun u hu => xw_cb hu (fun G34 v34 hH x34 hP34 => ?_))
        have hJ := hJ.xs hHo k_rd x34 (fun a j hs => ⟨fun _ => by first | omega | (dsimp only at hs; omega), fun k6 => by have e9 : a = rd := (by first | omega | (dsimp only at hs; omega)); rw [e9, k_rd] at k6; exact nomatch k6⟩)
        have r8 := (x34.2 rd 8 lt_rd (fun h => absurd h.2 (by decide))).trans r8
        have lt_rd := Nat.lt_of_lt_of_le lt_rd x34.1
        have lt_b1 := Nat.lt_of_lt_of_le lt_b1 x34.1
        have hX := hX.tr x34 (fun b j hb h => by first | omega | (dsimp only at h ⊢; omega) | (dsimp only at h; omega) | (dsimp only; omega))
        have m34 := x34.1
        have htk := htk.xf hHo k_rd et_ex.rf x34 (fun a j hs => .inl (by first | omega | (dsimp only at hs; omega)))
        have R1 := R1.fr (x34.agf (lo := G.2) (hi := G1.2) (by omega) (fun a j h1 h2 hs => by first | omega | (dsimp only at hs; omega)))
        obtain ⟨rfl, q34, hq34, e34⟩ := hP34
        show et_go none _ 80 37 _ [.null] _ _ _ _
        refine hs_aretN (cn := "KnobEye$Node") (by decide +kernel) ?_
        refine ⟨_, _, _, _, _, rfl, hx0, hH, rx_out hX, ?_, hJ⟩
        rw [sp_cmp_1 sp1 i15 i27]
        exact ⟨rfl, _, (by omega), e34⟩
theorem fnj_g1 {g a b i ck sk y n hi : Nat} {fs : List (sp_E → Bool)} {x7 : Option Value} (hsub : jA lo0 m) (hH : et_H et_TT K G) (hx0 : et_ex K0 K) (hX : xf (fun b j => (b = rd ∧ (2 ≤ j ∧ j ≤ 3)) ∨ (b = rd ∧ j = 8)) G0 G) (k_rd : K rd = some 7) (htk : tk K G rd L) (htl : tl L) (r8 : et_pl (eg_at G rd) 8 = some (.int (Int32.ofNat y))) (hy : y ≤ L.length) (r2 : et_pl (eg_at G rd) 2 = some (.int (-1))) (lr0 : rd < G0.2) (hxy : x ≤ y) (hJ : jR K G rd lo0) (k_g : K g = some 6) (g0 : kpl G g 0 (.int (Int32.ofNat 1))) (g1 : kpl G g 1 .null) (g2 : kpl G g 2 (.ref a)) (k_b : K b = some 6) (hI : gI G (1 + 2 * m) g hi a b fs) (hg : G0.2 ≤ g) (hh : hi ≤ G.2) (nb : kpl G b 1 .null) (hn : L.length - y < n) (hck : ck ≤ 807 * (i + 1)) (hsk : sk ≤ 6 * ck) (hiy : 2 * i ≤ y) (hdm : dep + m = 6) (hd : 3 * m ≤ d) : et_go none (d + 5) 75 37 [some (.ref rd), some (.int (Int32.ofNat 1)), some (.int (Int32.ofNat dep)), some (.int (Int32.ofNat 0)), some (.ref g), some (.ref b), some (.int (Int32.ofNat i)), x7] [] G ck sk (fzJ lo0 rd L x K0 G0 (fB (1 + 1 + 2 * m) G0.2) (sp_lp (sp_A m) 20 (fun f g e => f e && g e) n (gF 1 fs) (L.drop y))) := by
  induction hm : L.length - y using Nat.strongRecOn generalizing i b ck sk y n hi fs x7 K G with
  | _ z ih =>
    have hl4 : L.length ≤ 400 := by obtain ⟨_, _, _, _, _, h, _⟩ := htk; exact h
    have hbd := hI.bd
    have mX := hX.1
    have lt_rd := (hH.2.2 _ _ k_rd).1
    have lt_g := (hH.2.2 _ _ k_g).1
    have lt_b := (hH.2.2 _ _ k_b).1
    have k_a : K a = some 6 := hi_first hH k_g g2
    have lt_a := (hH.2.2 _ _ k_a).1
    refine hs_iload (i := 6) (p := 39) (by decide +kernel) rfl ?_
    refine hs_k (x := Int32.ofNat 400) (p := 42) (by decide +kernel) ?_
    refine hs_br2n (c := .ge) (t := 137) (f := 45) (by decide +kernel) (by omega) (by omega) (fun (c42 : 400 ≤ i) => ?_) (fun (c42 : ¬ (400 ≤ i)) => ?_)
    · exact absurd c42 (by omega)
    · refine hs_iload (i := 3) (p := 46) (by decide +kernel) rfl ?_
      refine hs_if1 (c := .eq) (t := 58) (f := 49) (by decide +kernel) (show Int32.ofNat 0 = 0 by decide) ?_
      refine hs_aload (i := 0) (p := 59) (by decide +kernel) rfl ?_
      refine hs_iload (i := 2) (p := 60) (by decide +kernel) rfl ?_
      have hHo := hH
      refine ht_callv (T := et_TT) (t := 7) (mi := 77) (na := 1) (ci := 5) (lk := 8) (lm := 4) (L0 := eg_en (eg_mL 77) [.ref rd, .int (Int32.ofNat dep)]) (by decide +kernel) rfl hH k_rd rfl rfl rfl rfl rfl (by rw [show eg_mL 77 = 4 from by decide +kernel]; first | done | rfl) ?_
      refine ((((pp_ag m).1) _ _ _ _ _ _ hH k_rd r8 (by omega) (by omega) (by omega)).and (hsub _ _ _ _ _ _ _ hH k_rd htk htl r8 (by omega) r2 (by omega) (by omega) hJ)).mono (fun u hu => fz_cbJ (t := 0) (by decide) hu (fun K60 G60 v60 c60 s60 hxx60 hH x60 hc60 hs60 hm60 hJ => ?_))
      have x60 := rx_in x60
      have nb := (x60.2 b 1 lt_b (fun h => Or.elim h (fun h => (hi_ne k_b k_rd (by decide)) h.1) (fun h => (hi_ne k_b k_rd (by decide)) h.1))).trans nb
      have g0 := (x60.2 g 0 lt_g (fun h => Or.elim h (fun h => (hi_ne k_g k_rd (by decide)) h.1) (fun h => (hi_ne k_g k_rd (by decide)) h.1))).trans g0
      have g1 := (x60.2 g 1 lt_g (fun h => Or.elim h (fun h => (hi_ne k_g k_rd (by decide)) h.1) (fun h => (hi_ne k_g k_rd (by decide)) h.1))).trans g1
      have g2 := (x60.2 g 2 lt_g (fun h => Or.elim h (fun h => (hi_ne k_g k_rd (by decide)) h.1) (fun h => (hi_ne k_g k_rd (by decide)) h.1))).trans g2
      have lt_rd := Nat.lt_of_lt_of_le lt_rd x60.1
      have lt_g := Nat.lt_of_lt_of_le lt_g x60.1
      have lt_b := Nat.lt_of_lt_of_le lt_b x60.1
      have lt_a := Nat.lt_of_lt_of_le lt_a x60.1
      have hX := hX.tr x60 (fun b j hb h => by first | omega | (dsimp only at h ⊢; omega) | (dsimp only at h; omega) | (dsimp only; omega))
      have m60 := x60.1
      have htk := htk.xf hHo k_rd hxx60 x60 (fun a j hs => .inl (by first | omega | (dsimp only at hs; omega)))
      have hI := hI.fr (x60.agf (lo := (g + 1)) (hi := hi) (by omega) (fun a j h1 h2 hs => by first | omega | (dsimp only at hs; omega)))
      have k_rd := hxx60 _ _ k_rd
      have k_g := hxx60 _ _ k_g
      have k_b := hxx60 _ _ k_b
      have k_a := hxx60 _ _ k_a
      have hx0 := hx0.tr hxx60
      rcases sp60 : sp_A m (L.drop y) with _ | ⟨f60, r60⟩
      · rw [sp60] at hm60
        obtain ⟨rfl, q60, hq60, r2⟩ := hm60
        show et_go none _ 75 63 _ [.null] _ _ _ _
        refine hs_astore0 (i := 7) (p := 65) (by decide +kernel) (Nat.le_of_ble_eq_true rfl) ?_
        refine hs_aload0 (i := 7) (p := 67) (by decide +kernel) rfl ?_
        refine hs_ifnonnull0 (p := 70) (by decide +kernel) ?_
        refine hs_nul (p := 71) (by decide +kernel) ?_
        refine hs_aretN (cn := "KnobEye$Node") (by decide +kernel) ?_
        refine ⟨_, _, _, _, _, rfl, hx0, hH, rx_out hX, ?_, hJ⟩
        rw [show sp_lp (sp_A m) 20 (fun f g e => f e && g e) n (gF 1 fs) (L.drop y) = none from sp_lp_0 sp60]
        exact ⟨rfl, _, (by omega), r2⟩
      · rw [sp60] at hm60
        obtain ⟨y60, b60, rfl, hy60, hz60, r8, r2, rfl, k_b60, R60⟩ := hm60
        have lt_b60 := (hH.2.2 _ _ k_b60).1
        obtain ⟨R60, nb60⟩ := R60
        have Rb60 := R60.in
        show et_go none _ 75 63 _ [.ref b60] _ _ _ _
        refine hs_astore (i := 7) (p := 65) (by decide +kernel) (Nat.le_of_ble_eq_true rfl) ?_
        refine hs_aload (i := 7) (p := 67) (by decide +kernel) rfl ?_
        refine hs_ifnonnull1 (p := 72) (by decide +kernel) ?_
        refine hs_aload (i := 5) (p := 74) (by decide +kernel) rfl ?_
        refine hs_ifnonnull1 (p := 87) (by decide +kernel) ?_
        refine hs_aload (i := 5) (p := 89) (by decide +kernel) rfl ?_
        refine hs_aload (i := 7) (p := 91) (by decide +kernel) rfl ?_
        have hHo := hH
        refine hf_next (ty := .object "KnobEye$Node") (p := 94) (by decide +kernel) rfl hH k_b k_b60 (by omega) (fun G91 hH x91 e91 _ => ?_)
        have hJ := hJ.xs hHo k_rd x91 (fun a j hs => ⟨fun e9 => absurd (hs.1.symm.trans e9) (hi_ne k_b k_rd (by decide)), fun _ => by have h9 := hs.2; omega⟩)
        have g0 := (x91.2 g 0 lt_g (fun h => (show ¬ g = b by omega) h.1)).trans g0
        have g1 := (x91.2 g 1 lt_g (fun h => (show ¬ g = b by omega) h.1)).trans g1
        have g2 := (x91.2 g 2 lt_g (fun h => (show ¬ g = b by omega) h.1)).trans g2
        have nb60 := (x91.2 b60 1 lt_b60 (fun h => (show ¬ b60 = b by omega) h.1)).trans nb60
        have r2 := (x91.2 rd 2 lt_rd (fun h => (hi_ne k_rd k_b (by decide)) h.1)).trans r2
        have r8 := (x91.2 rd 8 lt_rd (fun h => (hi_ne k_rd k_b (by decide)) h.1)).trans r8
        have lt_rd := Nat.lt_of_lt_of_le lt_rd x91.1
        have lt_g := Nat.lt_of_lt_of_le lt_g x91.1
        have lt_b := Nat.lt_of_lt_of_le lt_b x91.1
        have lt_a := Nat.lt_of_lt_of_le lt_a x91.1
        have lt_b60 := Nat.lt_of_lt_of_le lt_b60 x91.1
        have hX := hX.tr x91 (fun b j hb h => by first | omega | (dsimp only at h ⊢; omega) | (dsimp only at h; omega) | (dsimp only; omega))
        have m91 := x91.1
        have htk := htk.xf hHo k_rd et_ex.rf x91 (fun a j hs => .inr (.inl (by have e := hs.1; rw [e]; exact k_b)))
        have R60 := R60.fr (x91.agf (lo := G.2) (hi := G60.2) (by omega) (fun a j h1 h2 hs => by first | omega | (dsimp only at hs; omega))).ag
        refine hs_aload (i := 7) (p := 96) (by decide +kernel) rfl ?_
        refine hs_astore (i := 5) (p := 98) (by decide +kernel) (Nat.le_of_ble_eq_true rfl) ?_
        have hI := hI.snoc (fun c c1 c2 i ci => x91.2 c i (by omega) ci) e91 nb60 (by omega) (by omega) (Nat.le_refl _) (by omega) R60
        refine hs_aload (i := 0) (p := 99) (by decide +kernel) rfl ?_
        refine hs_iload (i := 3) (p := 100) (by decide +kernel) rfl ?_
        refine hs_if1 (c := .eq) (t := 109) (f := 103) (by decide +kernel) (show Int32.ofNat 0 = 0 by decide) ?_
        refine hs_gst (v := Value.ref 20) (p := 112) (by decide +kernel) ?_
        refine ht_callv (T := et_TT) (t := 7) (mi := 78) (na := 1) (ci := 5) (lk := 8) (lm := 2) (L0 := eg_en (eg_mL 78) [.ref rd, .ref 20]) (by decide +kernel) rfl hH k_rd rfl rfl rfl rfl rfl (by rw [show eg_mL 78 = 2 from by decide +kernel]; first | done | rfl) ?_
        refine (fc_is hH k_rd htk htl r8 (by omega) (wd := 20) (by decide)).mono (fun u hu => xp_cb hu ?_)
        by_cases i112 : wat L y60 = 20
        · rw [if_pos i112]
          have il112 : y60 < L.length := wat_i (by rw [i112]; decide)
          show et_go none _ 75 115 _ [.int (Int32.ofNat 1)] _ _ _ _
          refine hs_if1 (c := .ne) (t := 121) (f := 118) (by decide +kernel) (show ¬ Int32.ofNat 1 = 0 by decide) ?_
          refine hs_aload (i := 0) (p := 122) (by decide +kernel) rfl ?_
          refine hs_dup1 (p := 123) (by decide +kernel) ?_
          refine hf_get (T := et_TT) (t := 7) (ci := 5) (f := 8) (p := 126) (by decide +kernel) rfl hH k_rd r8 ?_
          refine hs_k (x := Int32.ofNat 1) (p := 127) (by decide +kernel) ?_
          refine hs_iaddn (p := 128) (by decide +kernel) ?_
          have hHo := hH
          refine hf_put (T := et_TT) (t := 7) (ci := 5) (f := 8) (p := 131) (ty := .int) (by decide +kernel) rfl rfl rfl rfl rfl hH k_rd (hi_nv (by omega) (by omega)) (fun G128 hH x128 e128 => ?_)
          have hJ := hJ.xs hHo k_rd x128 (fun a j hs => ⟨fun _ => by first | omega | (dsimp only at hs; omega), fun k6 => by have e9 : a = rd := (by first | omega | (dsimp only at hs; omega)); rw [e9, k_rd] at k6; exact nomatch k6⟩)
          have e91 := (x128.2 b 1 lt_b (fun h => (hi_ne k_b k_rd (by decide)) h.1)).trans e91
          have g0 := (x128.2 g 0 lt_g (fun h => (hi_ne k_g k_rd (by decide)) h.1)).trans g0
          have g1 := (x128.2 g 1 lt_g (fun h => (hi_ne k_g k_rd (by decide)) h.1)).trans g1
          have g2 := (x128.2 g 2 lt_g (fun h => (hi_ne k_g k_rd (by decide)) h.1)).trans g2
          have nb60 := (x128.2 b60 1 lt_b60 (fun h => (hi_ne k_b60 k_rd (by decide)) h.1)).trans nb60
          have r2 := (x128.2 rd 2 lt_rd (fun h => absurd h.2 (by decide))).trans r2
          have lt_rd := Nat.lt_of_lt_of_le lt_rd x128.1
          have lt_g := Nat.lt_of_lt_of_le lt_g x128.1
          have lt_b := Nat.lt_of_lt_of_le lt_b x128.1
          have lt_a := Nat.lt_of_lt_of_le lt_a x128.1
          have lt_b60 := Nat.lt_of_lt_of_le lt_b60 x128.1
          have hX := hX.tr x128 (fun b j hb h => by first | omega | (dsimp only at h ⊢; omega) | (dsimp only at h; omega) | (dsimp only; omega))
          have m128 := x128.1
          have htk := htk.xf hHo k_rd et_ex.rf x128 (fun a j hs => .inl (by first | omega | (dsimp only at hs; omega)))
          have hI := hI.fr (x128.agf (lo := (g + 1)) (hi := G60.2) (by omega) (fun a j h1 h2 hs => by first | omega | (dsimp only at hs; omega)))
          have e128 : et_pl (eg_at G128 rd) 8 = some (.int (Int32.ofNat (y60 + 1))) := e128
          refine hs_iinc1 (i := 6) (p := 134) (by decide +kernel) rfl (Nat.le_of_ble_eq_true rfl) ?_
          refine hs_goto (p := 37) (by decide +kernel) ?_
          obtain ⟨n', rfl⟩ : ∃ n', n = n' + 1 := ⟨n - 1, by omega⟩
          rw [show sp_lp (sp_A m) 20 (fun f g e => f e && g e) (n' + 1) (gF 1 fs) (L.drop y) = sp_lp (sp_A m) 20 (fun f g e => f e && g e) n' (gF 1 (fs ++ [f60])) (L.drop (y60 + 1)) from (sp_lp_y sp60 i112 (by decide)).trans (by rw [gF_1])]
          show et_go none _ 75 37 [some (.ref rd), some (.int (Int32.ofNat 1)), some (.int (Int32.ofNat dep)), some (.int (Int32.ofNat 0)), some (.ref g), some (.ref b60), some (.int (Int32.ofNat (i + 1))), some (.ref b60)] [] _ _ _ _
          exact ih (L.length - (y60 + 1)) (by omega) hH hx0 hX k_rd htk e128 (by omega) r2 (by omega) hJ k_g g0 g1 g2 k_b60 hI (by omega) nb60 (by omega) (by omega) (by omega) (by omega) rfl
        · rw [if_neg i112]
          show et_go none _ 75 115 _ [.int (Int32.ofNat 0)] _ _ _ _
          refine hs_if0 (c := .ne) (t := 121) (f := 118) (by decide +kernel) (show ¬ (¬ Int32.ofNat 0 = 0) by decide) ?_
          refine hs_goto (p := 137) (by decide +kernel) ?_
          refine hs_aload (i := 4) (p := 139) (by decide +kernel) rfl ?_
          refine hf_get (T := et_TT) (t := 6) (ci := 4) (f := 2) (p := 142) (by decide +kernel) rfl hH k_g g2 ?_
          refine hs_aload (i := 5) (p := 144) (by decide +kernel) rfl ?_
          refine hf_acm (c := .ne) (tt := 152) (ff := 147) (by decide +kernel) (hi_ca hH k_a (.inr (by decide))) (hi_ca hH k_b60 (.inr (by decide))) (fun (q144 : ¬ Value.ref a = .ref b60) => ?_) (fun (q144 : ¬ ¬ Value.ref a = .ref b60) => ?_)
          · refine hs_aload (i := 4) (p := 154) (by decide +kernel) rfl ?_
            refine hs_aret (cn := "KnobEye$Node") (by decide +kernel) ?_
            refine ⟨_, _, _, _, _, rfl, hx0, hH, rx_out hX, ?_, hJ⟩
            rw [show sp_lp (sp_A m) 20 (fun f g e => f e && g e) n (gF 1 fs) (L.drop y) = some (gF 1 (fs ++ [f60]), L.drop y60) from (sp_lp_n sp60 i112).trans (by rw [gF_1])]
            exact ⟨y60, _, rfl, (by omega), (by omega), r8, r2, rfl, k_g, ⟨((hI.dn (by decide) g0 g2 (by omega)).wk (Nat.le_refl _) (by omega)).up (by omega), g1⟩⟩
          · obtain rfl : a = b60 := Value.ref.inj (Decidable.of_not_not q144)
            refine hs_aload (i := 5) (p := 149) (by decide +kernel) rfl ?_
            refine hs_goto (p := 154) (by decide +kernel) ?_
            refine hs_aret (cn := "KnobEye$Node") (by decide +kernel) ?_
            obtain ⟨al1, al2, ah1, ah2, ad⟩ := hI.alone (k := 1)
            refine ⟨_, _, _, _, _, rfl, hx0, hH, rx_out hX, ?_, hJ⟩
            rw [show sp_lp (sp_A m) 20 (fun f g e => f e && g e) n (gF 1 fs) (L.drop y) = some (gF 1 (fs ++ [f60]), L.drop y60) from (sp_lp_n sp60 i112).trans (by rw [gF_1])]
            exact ⟨y60, _, rfl, (by omega), (by omega), r8, r2, rfl, k_a, ⟨(ad.wk (by omega) (by omega)).up (by omega), nb60⟩⟩
theorem fj_g1 (hsub : jA lo0 m) : jG lo0 1 1 m (spx_all (sp_A m)) := by
  intro K G d2 rd x dep L hH k_rd htk htl r8 hx r2 hdm hd hJ
  obtain ⟨d, rfl⟩ : ∃ d, d2 = d + 5 := ⟨d2 - 5, by omega⟩
  rw [show eg_mL 75 = 8 from by decide +kernel]
  show et_go none (d + 5) 75 0 [some (.ref rd), some (.int (Int32.ofNat 1)), some (.int (Int32.ofNat dep)), none, none, none, none, none] [] G 0 0 _
  have lt_rd := (hH.2.2 _ _ k_rd).1
  have hX : xf (fun b j => (b = rd ∧ (2 ≤ j ∧ j ≤ 3)) ∨ (b = rd ∧ j = 8)) G G := xf.rf
  have hx0 : et_ex K K := et_ex.rf
  have hl4 : L.length ≤ 400 := by obtain ⟨_, _, _, _, _, h, _⟩ := htk; exact h
  have lr0 := (hH.2.2 _ _ k_rd).1
  refine hs_iload (i := 2) (p := 1) (by decide +kernel) rfl ?_
  refine hs_k (x := Int32.ofNat 6) (p := 3) (by decide +kernel) ?_
  refine hs_br2n (c := .le) (t := 11) (f := 6) (by decide +kernel) (by omega) (by omega) (fun (c3 : dep ≤ 6) => ?_) (fun (c3 : ¬ (dep ≤ 6)) => ?_)
  · refine hs_iload (i := 1) (p := 12) (by decide +kernel) rfl ?_
    refine hs_if1 (c := .ne) (t := 19) (f := 15) (by decide +kernel) (show ¬ Int32.ofNat 1 = 0 by decide) ?_
    refine hs_k (x := Int32.ofNat 0) (p := 20) (by decide +kernel) ?_
    refine hs_istore (i := 3) (p := 21) (by decide +kernel) (Nat.le_of_ble_eq_true rfl) ?_
    have hHo := hH
    refine hf_newNJ (p := 24) (by decide +kernel) (by omega) (by omega) hH (fun KK21 GG21 hxx21 x21 hH k_G_2 mm21 hf21 kj21 => ?_)
    have hJ := hJ.nw hHo k_rd x21 hf21.2.2.2.1 kj21
    have r8 := (x21.2 rd 8 lt_rd (fun h => h)).trans r8
    have r2 := (x21.2 rd 2 lt_rd (fun h => h)).trans r2
    have lt_rd := Nat.lt_of_lt_of_le lt_rd x21.1
    have hX := hX.tr x21 (fun b j hb h => h.elim)
    have m21 := x21.1
    have htk := htk.xf hHo k_rd hxx21 x21 (fun a j hs => absurd hs id)
    have k_rd := hxx21 _ _ k_rd
    have hx0 := hx0.tr hxx21
    have lt_G_2 : G.2 < GG21.2 := by omega
    obtain ⟨n1_21, n2_21, n3_21, n4_21, n5_21⟩ := hf21
    refine hs_dup1 (p := 25) (by decide +kernel) ?_
    refine hs_iload (i := 1) (p := 26) (by decide +kernel) rfl ?_
    have hHo := hH
    refine hs_callp (mi := 61) (na := 1) (lk := 8) (lm := 2) (L0 := eg_en (eg_mL 61) [.ref G.2, .int (Int32.ofNat 1)]) (by decide +kernel) rfl rfl rfl rfl rfl (by rw [show eg_mL 61 = 2 from by decide +kernel]; first | done | rfl) ?_
    refine (fc_nod hH k_G_2).mono (fun u hu => xw_cb hu (fun G26 v26 hH x26 hP26 => ?_))
    have hJ := hJ.xs hHo k_rd x26 (fun a j hs => ⟨fun e9 => absurd (hs.1.symm.trans e9) (hi_ne k_G_2 k_rd (by decide)), fun _ => by have h9 := hs.2; omega⟩)
    have r8 := (x26.2 rd 8 lt_rd (fun h => (hi_ne k_rd k_G_2 (by decide)) h.1)).trans r8
    have r2 := (x26.2 rd 2 lt_rd (fun h => (hi_ne k_rd k_G_2 (by decide)) h.1)).trans r2
    have n1_21 := (x26.2 G.2 1 lt_G_2 (fun h => absurd h.2 (by decide))).trans n1_21
    have n2_21 := (x26.2 G.2 2 lt_G_2 (fun h => absurd h.2 (by decide))).trans n2_21
    have n3_21 := (x26.2 G.2 3 lt_G_2 (fun h => absurd h.2 (by decide))).trans n3_21
    have n4_21 := (x26.2 G.2 4 lt_G_2 (fun h => absurd h.2 (by decide))).trans n4_21
    have n5_21 := (x26.2 G.2 5 lt_G_2 (fun h => absurd h.2 (by decide))).trans n5_21
    have lt_rd := Nat.lt_of_lt_of_le lt_rd x26.1
    have lt_G_2 := Nat.lt_of_lt_of_le lt_G_2 x26.1
    have hX := hX.tr x26 (fun b j hb h => by first | omega | (dsimp only at h ⊢; omega) | (dsimp only at h; omega) | (dsimp only; omega))
    have m26 := x26.1
    have htk := htk.xf hHo k_rd et_ex.rf x26 (fun a j hs => .inr (.inl (by have e := hs.1; rw [e]; exact k_G_2)))
    obtain ⟨rfl, e26⟩ := hP26
    show et_go none _ 75 29 _ [.ref G.2] _ _ _ _
    refine hs_astore (i := 4) (p := 31) (by decide +kernel) (Nat.le_of_ble_eq_true rfl) ?_
    refine hs_nul (p := 32) (by decide +kernel) ?_
    refine hs_astore0 (i := 5) (p := 34) (by decide +kernel) (Nat.le_of_ble_eq_true rfl) ?_
    refine hs_k (x := Int32.ofNat 0) (p := 35) (by decide +kernel) ?_
    refine hs_istore (i := 6) (p := 37) (by decide +kernel) (Nat.le_of_ble_eq_true rfl) ?_
    refine hs_iload (i := 6) (p := 39) (by decide +kernel) rfl ?_
    refine hs_k (x := Int32.ofNat 400) (p := 42) (by decide +kernel) ?_
    refine hs_br2n (c := .ge) (t := 137) (f := 45) (by decide +kernel) (by omega) (by omega) (fun h => absurd h (show ¬ (400 ≤ 0) by decide)) (fun _ => ?_)
    refine hs_iload (i := 3) (p := 46) (by decide +kernel) rfl ?_
    refine hs_if1 (c := .eq) (t := 58) (f := 49) (by decide +kernel) (show Int32.ofNat 0 = 0 by decide) ?_
    refine hs_aload (i := 0) (p := 59) (by decide +kernel) rfl ?_
    refine hs_iload (i := 2) (p := 60) (by decide +kernel) rfl ?_
    have hHo := hH
    refine ht_callv (T := et_TT) (t := 7) (mi := 77) (na := 1) (ci := 5) (lk := 8) (lm := 4) (L0 := eg_en (eg_mL 77) [.ref rd, .int (Int32.ofNat dep)]) (by decide +kernel) rfl hH k_rd rfl rfl rfl rfl rfl (by rw [show eg_mL 77 = 4 from by decide +kernel]; first | done | rfl) ?_
    refine ((((pp_ag m).1) _ _ _ _ _ _ hH k_rd r8 (by omega) (by omega) (by omega)).and (hsub _ _ _ _ _ _ _ hH k_rd htk htl r8 (by omega) r2 (by omega) (by omega) hJ)).mono (fun u hu => fz_cbJ (t := 0) (by decide) hu (fun K60 G60 v60 c60 s60 hxx60 hH x60 hc60 hs60 hm60 hJ => ?_))
    have x60 := rx_in x60
    have n1_21 := (x60.2 G.2 1 lt_G_2 (fun h => Or.elim h (fun h => (hi_ne k_G_2 k_rd (by decide)) h.1) (fun h => (hi_ne k_G_2 k_rd (by decide)) h.1))).trans n1_21
    have n2_21 := (x60.2 G.2 2 lt_G_2 (fun h => Or.elim h (fun h => (hi_ne k_G_2 k_rd (by decide)) h.1) (fun h => (hi_ne k_G_2 k_rd (by decide)) h.1))).trans n2_21
    have n3_21 := (x60.2 G.2 3 lt_G_2 (fun h => Or.elim h (fun h => (hi_ne k_G_2 k_rd (by decide)) h.1) (fun h => (hi_ne k_G_2 k_rd (by decide)) h.1))).trans n3_21
    have n4_21 := (x60.2 G.2 4 lt_G_2 (fun h => Or.elim h (fun h => (hi_ne k_G_2 k_rd (by decide)) h.1) (fun h => (hi_ne k_G_2 k_rd (by decide)) h.1))).trans n4_21
    have n5_21 := (x60.2 G.2 5 lt_G_2 (fun h => Or.elim h (fun h => (hi_ne k_G_2 k_rd (by decide)) h.1) (fun h => (hi_ne k_G_2 k_rd (by decide)) h.1))).trans n5_21
    have e26 := (x60.2 G.2 0 lt_G_2 (fun h => Or.elim h (fun h => (hi_ne k_G_2 k_rd (by decide)) h.1) (fun h => (hi_ne k_G_2 k_rd (by decide)) h.1))).trans e26
    have lt_rd := Nat.lt_of_lt_of_le lt_rd x60.1
    have lt_G_2 := Nat.lt_of_lt_of_le lt_G_2 x60.1
    have hX := hX.tr x60 (fun b j hb h => by first | omega | (dsimp only at h ⊢; omega) | (dsimp only at h; omega) | (dsimp only; omega))
    have m60 := x60.1
    have htk := htk.xf hHo k_rd hxx60 x60 (fun a j hs => .inl (by first | omega | (dsimp only at hs; omega)))
    have k_rd := hxx60 _ _ k_rd
    have k_G_2 := hxx60 _ _ k_G_2
    have hx0 := hx0.tr hxx60
    rcases sp60 : sp_A m (L.drop x) with _ | ⟨f60, r60⟩
    · rw [sp60] at hm60
      obtain ⟨rfl, q60, hq60, r2⟩ := hm60
      show et_go none _ 75 63 _ [.null] _ _ _ _
      refine hs_astore0 (i := 7) (p := 65) (by decide +kernel) (Nat.le_of_ble_eq_true rfl) ?_
      refine hs_aload0 (i := 7) (p := 67) (by decide +kernel) rfl ?_
      refine hs_ifnonnull0 (p := 70) (by decide +kernel) ?_
      refine hs_nul (p := 71) (by decide +kernel) ?_
      refine hs_aretN (cn := "KnobEye$Node") (by decide +kernel) ?_
      refine ⟨_, _, _, _, _, rfl, hx0, hH, rx_out hX, ?_, hJ⟩
      rw [show spx_all (sp_A m) (L.drop x) = none from sp_many_0 sp60]
      exact ⟨rfl, _, (by omega), r2⟩
    · rw [sp60] at hm60
      obtain ⟨y60, b60, rfl, hy60, hz60, r8, r2, rfl, k_b60, R60⟩ := hm60
      have lt_b60 := (hH.2.2 _ _ k_b60).1
      obtain ⟨R60, nb60⟩ := R60
      have Rb60 := R60.in
      show et_go none _ 75 63 _ [.ref b60] _ _ _ _
      refine hs_astore (i := 7) (p := 65) (by decide +kernel) (Nat.le_of_ble_eq_true rfl) ?_
      refine hs_aload (i := 7) (p := 67) (by decide +kernel) rfl ?_
      refine hs_ifnonnull1 (p := 72) (by decide +kernel) ?_
      refine hs_aload0 (i := 5) (p := 74) (by decide +kernel) rfl ?_
      refine hs_ifnonnull0 (p := 77) (by decide +kernel) ?_
      refine hs_aload (i := 4) (p := 79) (by decide +kernel) rfl ?_
      refine hs_aload (i := 7) (p := 81) (by decide +kernel) rfl ?_
      have hHo := hH
      refine hf_put (T := et_TT) (t := 6) (ci := 4) (f := 2) (p := 84) (ty := (.object "KnobEye$Node")) (by decide +kernel) rfl rfl rfl rfl rfl hH k_G_2 (.inr ⟨by decide, _, rfl, k_b60⟩) (fun G81 hH x81 e81 => ?_)
      have hJ := hJ.xs hHo k_rd x81 (fun a j hs => ⟨fun e9 => absurd (hs.1.symm.trans e9) (hi_ne k_G_2 k_rd (by decide)), fun _ => by have h9 := hs.2; omega⟩)
      have n1_21 := (x81.2 G.2 1 lt_G_2 (fun h => absurd h.2 (by decide))).trans n1_21
      have n3_21 := (x81.2 G.2 3 lt_G_2 (fun h => absurd h.2 (by decide))).trans n3_21
      have n4_21 := (x81.2 G.2 4 lt_G_2 (fun h => absurd h.2 (by decide))).trans n4_21
      have n5_21 := (x81.2 G.2 5 lt_G_2 (fun h => absurd h.2 (by decide))).trans n5_21
      have e26 := (x81.2 G.2 0 lt_G_2 (fun h => absurd h.2 (by decide))).trans e26
      have nb60 := (x81.2 b60 1 lt_b60 (fun h => (show ¬ b60 = G.2 by omega) h.1)).trans nb60
      have r2 := (x81.2 rd 2 lt_rd (fun h => (hi_ne k_rd k_G_2 (by decide)) h.1)).trans r2
      have r8 := (x81.2 rd 8 lt_rd (fun h => (hi_ne k_rd k_G_2 (by decide)) h.1)).trans r8
      have lt_rd := Nat.lt_of_lt_of_le lt_rd x81.1
      have lt_G_2 := Nat.lt_of_lt_of_le lt_G_2 x81.1
      have lt_b60 := Nat.lt_of_lt_of_le lt_b60 x81.1
      have hX := hX.tr x81 (fun b j hb h => by first | omega | (dsimp only at h ⊢; omega) | (dsimp only at h; omega) | (dsimp only; omega))
      have m81 := x81.1
      have htk := htk.xf hHo k_rd et_ex.rf x81 (fun a j hs => .inr (.inl (by have e := hs.1; rw [e]; exact k_G_2)))
      have R60 := R60.fr (x81.agf (lo := G26.2) (hi := G60.2) (by omega) (fun a j h1 h2 hs => by first | omega | (dsimp only at hs; omega))).ag
      refine hs_goto (p := 94) (by decide +kernel) ?_
      refine hs_aload (i := 7) (p := 96) (by decide +kernel) rfl ?_
      refine hs_astore (i := 5) (p := 98) (by decide +kernel) (Nat.le_of_ble_eq_true rfl) ?_
      have hI := gI.one (g := G.2) nb60 (by omega) (Nat.le_refl _) R60
      refine hs_aload (i := 0) (p := 99) (by decide +kernel) rfl ?_
      refine hs_iload (i := 3) (p := 100) (by decide +kernel) rfl ?_
      refine hs_if1 (c := .eq) (t := 109) (f := 103) (by decide +kernel) (show Int32.ofNat 0 = 0 by decide) ?_
      refine hs_gst (v := Value.ref 20) (p := 112) (by decide +kernel) ?_
      refine ht_callv (T := et_TT) (t := 7) (mi := 78) (na := 1) (ci := 5) (lk := 8) (lm := 2) (L0 := eg_en (eg_mL 78) [.ref rd, .ref 20]) (by decide +kernel) rfl hH k_rd rfl rfl rfl rfl rfl (by rw [show eg_mL 78 = 2 from by decide +kernel]; first | done | rfl) ?_
      refine (fc_is hH k_rd htk htl r8 (by omega) (wd := 20) (by decide)).mono (fun u hu => xp_cb hu ?_)
      by_cases i112 : wat L y60 = 20
      · rw [if_pos i112]
        have il112 : y60 < L.length := wat_i (by rw [i112]; decide)
        show et_go none _ 75 115 _ [.int (Int32.ofNat 1)] _ _ _ _
        refine hs_if1 (c := .ne) (t := 121) (f := 118) (by decide +kernel) (show ¬ Int32.ofNat 1 = 0 by decide) ?_
        refine hs_aload (i := 0) (p := 122) (by decide +kernel) rfl ?_
        refine hs_dup1 (p := 123) (by decide +kernel) ?_
        refine hf_get (T := et_TT) (t := 7) (ci := 5) (f := 8) (p := 126) (by decide +kernel) rfl hH k_rd r8 ?_
        refine hs_k (x := Int32.ofNat 1) (p := 127) (by decide +kernel) ?_
        refine hs_iaddn (p := 128) (by decide +kernel) ?_
        have hHo := hH
        refine hf_put (T := et_TT) (t := 7) (ci := 5) (f := 8) (p := 131) (ty := .int) (by decide +kernel) rfl rfl rfl rfl rfl hH k_rd (hi_nv (by omega) (by omega)) (fun G128 hH x128 e128 => ?_)
        have hJ := hJ.xs hHo k_rd x128 (fun a j hs => ⟨fun _ => by first | omega | (dsimp only at hs; omega), fun k6 => by have e9 : a = rd := (by first | omega | (dsimp only at hs; omega)); rw [e9, k_rd] at k6; exact nomatch k6⟩)
        have n1_21 := (x128.2 G.2 1 lt_G_2 (fun h => (hi_ne k_G_2 k_rd (by decide)) h.1)).trans n1_21
        have e81 := (x128.2 G.2 2 lt_G_2 (fun h => (hi_ne k_G_2 k_rd (by decide)) h.1)).trans e81
        have n3_21 := (x128.2 G.2 3 lt_G_2 (fun h => (hi_ne k_G_2 k_rd (by decide)) h.1)).trans n3_21
        have n4_21 := (x128.2 G.2 4 lt_G_2 (fun h => (hi_ne k_G_2 k_rd (by decide)) h.1)).trans n4_21
        have n5_21 := (x128.2 G.2 5 lt_G_2 (fun h => (hi_ne k_G_2 k_rd (by decide)) h.1)).trans n5_21
        have e26 := (x128.2 G.2 0 lt_G_2 (fun h => (hi_ne k_G_2 k_rd (by decide)) h.1)).trans e26
        have nb60 := (x128.2 b60 1 lt_b60 (fun h => (hi_ne k_b60 k_rd (by decide)) h.1)).trans nb60
        have r2 := (x128.2 rd 2 lt_rd (fun h => absurd h.2 (by decide))).trans r2
        have lt_rd := Nat.lt_of_lt_of_le lt_rd x128.1
        have lt_G_2 := Nat.lt_of_lt_of_le lt_G_2 x128.1
        have lt_b60 := Nat.lt_of_lt_of_le lt_b60 x128.1
        have hX := hX.tr x128 (fun b j hb h => by first | omega | (dsimp only at h ⊢; omega) | (dsimp only at h; omega) | (dsimp only; omega))
        have m128 := x128.1
        have htk := htk.xf hHo k_rd et_ex.rf x128 (fun a j hs => .inl (by first | omega | (dsimp only at hs; omega)))
        have hI := hI.fr (x128.agf (lo := (G.2 + 1)) (hi := G60.2) (by omega) (fun a j h1 h2 hs => by first | omega | (dsimp only at hs; omega)))
        have e128 : et_pl (eg_at G128 rd) 8 = some (.int (Int32.ofNat (y60 + 1))) := e128
        refine hs_iinc1 (i := 6) (p := 134) (by decide +kernel) rfl (Nat.le_of_ble_eq_true rfl) ?_
        refine hs_goto (p := 37) (by decide +kernel) ?_
        rw [show spx_all (sp_A m) (L.drop x) = sp_lp (sp_A m) 20 (fun f g e => f e && g e) 499 (gF 1 [f60]) (L.drop (y60 + 1)) from (sp_many_y sp60 i112 (by decide)).trans (by rw [gF_one])]
        show et_go none _ 75 37 [some (.ref rd), some (.int (Int32.ofNat 1)), some (.int (Int32.ofNat dep)), some (.int (Int32.ofNat 0)), some (.ref G.2), some (.ref b60), some (.int (Int32.ofNat (0 + 1))), some (.ref b60)] [] _ _ _ _
        exact fnj_g1 (m := m) (K0 := K) (G0 := G) (i := 0 + 1) hsub hH hx0 hX k_rd htk htl e128 (by omega) r2 lr0 (by omega) hJ k_G_2 e26 n1_21 e81 k_b60 hI (by omega) (by omega) nb60 (by omega) (by omega) (by omega) (by omega) hdm (by omega)
      · rw [if_neg i112]
        show et_go none _ 75 115 _ [.int (Int32.ofNat 0)] _ _ _ _
        refine hs_if0 (c := .ne) (t := 121) (f := 118) (by decide +kernel) (show ¬ (¬ Int32.ofNat 0 = 0) by decide) ?_
        refine hs_goto (p := 137) (by decide +kernel) ?_
        refine hs_aload (i := 4) (p := 139) (by decide +kernel) rfl ?_
        refine hf_get (T := et_TT) (t := 6) (ci := 4) (f := 2) (p := 142) (by decide +kernel) rfl hH k_G_2 e81 ?_
        refine hs_aload (i := 5) (p := 144) (by decide +kernel) rfl ?_
        refine hf_acm (c := .ne) (tt := 152) (ff := 147) (by decide +kernel) (hi_ca hH k_b60 (.inr (by decide))) (hi_ca hH k_b60 (.inr (by decide))) (fun (q144 : ¬ Value.ref b60 = .ref b60) => ?_) (fun (q144 : ¬ ¬ Value.ref b60 = .ref b60) => ?_)
        · exact absurd rfl q144
        · refine hs_aload (i := 5) (p := 149) (by decide +kernel) rfl ?_
          refine hs_goto (p := 154) (by decide +kernel) ?_
          refine hs_aret (cn := "KnobEye$Node") (by decide +kernel) ?_
          obtain ⟨al1, al2, ah1, ah2, ad⟩ := hI.alone (k := 1)
          refine ⟨_, _, _, _, _, rfl, hx0, hH, rx_out hX, ?_, hJ⟩
          rw [show spx_all (sp_A m) (L.drop x) = some (gF 1 [f60], L.drop y60) from (sp_many_n sp60 i112).trans (by rw [gF_one])]
          exact ⟨y60, _, rfl, (by omega), (by omega), r8, r2, rfl, k_b60, ⟨(ad.wk (by omega) (by omega)).up (by omega), nb60⟩⟩
  · exact absurd (show dep ≤ 6 by omega) c3
theorem fnj_g0 {g a b i ck sk y n hi : Nat} {fs : List (sp_E → Bool)} {x7 : Option Value} (hsub : jG lo0 1 1 m (spx_all (sp_A m))) (hH : et_H et_TT K G) (hx0 : et_ex K0 K) (hX : xf (fun b j => (b = rd ∧ (2 ≤ j ∧ j ≤ 3)) ∨ (b = rd ∧ j = 8)) G0 G) (k_rd : K rd = some 7) (htk : tk K G rd L) (htl : tl L) (r8 : et_pl (eg_at G rd) 8 = some (.int (Int32.ofNat y))) (hy : y ≤ L.length) (r2 : et_pl (eg_at G rd) 2 = some (.int (-1))) (lr0 : rd < G0.2) (hxy : x ≤ y) (hJ : jR K G rd lo0) (k_g : K g = some 6) (g0 : kpl G g 0 (.int (Int32.ofNat 0))) (g1 : kpl G g 1 .null) (g2 : kpl G g 2 (.ref a)) (k_b : K b = some 6) (hI : gI G (1 + 1 + 2 * m) g hi a b fs) (hg : G0.2 ≤ g) (hh : hi ≤ G.2) (nb : kpl G b 1 .null) (hn : L.length - y < n) (hck : ck ≤ 807 * (i + 1)) (hsk : sk ≤ 6 * ck) (hiy : 2 * i ≤ y) (hdm : dep + m = 6) (hd : 3 * m ≤ d) : et_go none (d + 6) 75 37 [some (.ref rd), some (.int (Int32.ofNat 0)), some (.int (Int32.ofNat dep)), some (.int (Int32.ofNat 1)), some (.ref g), some (.ref b), some (.int (Int32.ofNat i)), x7] [] G ck sk (fzJ lo0 rd L x K0 G0 (fB (1 + 2 + 2 * m) G0.2) (sp_lp (spx_all (sp_A m)) 21 (fun f g e => f e || g e) n (gF 0 fs) (L.drop y))) := by
  induction hm : L.length - y using Nat.strongRecOn generalizing i b ck sk y n hi fs x7 K G with
  | _ z ih =>
    have hl4 : L.length ≤ 400 := by obtain ⟨_, _, _, _, _, h, _⟩ := htk; exact h
    have hbd := hI.bd
    have mX := hX.1
    have lt_rd := (hH.2.2 _ _ k_rd).1
    have lt_g := (hH.2.2 _ _ k_g).1
    have lt_b := (hH.2.2 _ _ k_b).1
    have k_a : K a = some 6 := hi_first hH k_g g2
    have lt_a := (hH.2.2 _ _ k_a).1
    refine hs_iload (i := 6) (p := 39) (by decide +kernel) rfl ?_
    refine hs_k (x := Int32.ofNat 400) (p := 42) (by decide +kernel) ?_
    refine hs_br2n (c := .ge) (t := 137) (f := 45) (by decide +kernel) (by omega) (by omega) (fun (c42 : 400 ≤ i) => ?_) (fun (c42 : ¬ (400 ≤ i)) => ?_)
    · exact absurd c42 (by omega)
    · refine hs_iload (i := 3) (p := 46) (by decide +kernel) rfl ?_
      refine hs_if0 (c := .eq) (t := 58) (f := 49) (by decide +kernel) (show ¬ (Int32.ofNat 1 = 0) by decide) ?_
      refine hs_aload (i := 0) (p := 50) (by decide +kernel) rfl ?_
      refine hs_k (x := Int32.ofNat 1) (p := 51) (by decide +kernel) ?_
      refine hs_iload (i := 2) (p := 52) (by decide +kernel) rfl ?_
      have hHo := hH
      refine ht_callv (T := et_TT) (t := 7) (mi := 75) (na := 2) (ci := 5) (lk := 8) (lm := 8) (L0 := eg_en (eg_mL 75) [.ref rd, .int (Int32.ofNat 1), .int (Int32.ofNat dep)]) (by decide +kernel) rfl hH k_rd rfl rfl rfl rfl rfl (by rw [show eg_mL 75 = 8 from by decide +kernel]; first | done | rfl) ?_
      refine (((pp_g1 (pp_ag m).1) _ _ _ _ _ _ hH k_rd r8 (by omega) (by omega) (by omega)).and (hsub _ _ _ _ _ _ _ hH k_rd htk htl r8 (by omega) r2 (by omega) (by omega) hJ)).mono (fun u hu => fz_cbJ (t := 1) (by decide) hu (fun K52 G52 v52 c52 s52 hxx52 hH x52 hc52 hs52 hm52 hJ => ?_))
      have x52 := rx_in x52
      have nb := (x52.2 b 1 lt_b (fun h => Or.elim h (fun h => (hi_ne k_b k_rd (by decide)) h.1) (fun h => (hi_ne k_b k_rd (by decide)) h.1))).trans nb
      have g0 := (x52.2 g 0 lt_g (fun h => Or.elim h (fun h => (hi_ne k_g k_rd (by decide)) h.1) (fun h => (hi_ne k_g k_rd (by decide)) h.1))).trans g0
      have g1 := (x52.2 g 1 lt_g (fun h => Or.elim h (fun h => (hi_ne k_g k_rd (by decide)) h.1) (fun h => (hi_ne k_g k_rd (by decide)) h.1))).trans g1
      have g2 := (x52.2 g 2 lt_g (fun h => Or.elim h (fun h => (hi_ne k_g k_rd (by decide)) h.1) (fun h => (hi_ne k_g k_rd (by decide)) h.1))).trans g2
      have lt_rd := Nat.lt_of_lt_of_le lt_rd x52.1
      have lt_g := Nat.lt_of_lt_of_le lt_g x52.1
      have lt_b := Nat.lt_of_lt_of_le lt_b x52.1
      have lt_a := Nat.lt_of_lt_of_le lt_a x52.1
      have hX := hX.tr x52 (fun b j hb h => by first | omega | (dsimp only at h ⊢; omega) | (dsimp only at h; omega) | (dsimp only; omega))
      have m52 := x52.1
      have htk := htk.xf hHo k_rd hxx52 x52 (fun a j hs => .inl (by first | omega | (dsimp only at hs; omega)))
      have hI := hI.fr (x52.agf (lo := (g + 1)) (hi := hi) (by omega) (fun a j h1 h2 hs => by first | omega | (dsimp only at hs; omega)))
      have k_rd := hxx52 _ _ k_rd
      have k_g := hxx52 _ _ k_g
      have k_b := hxx52 _ _ k_b
      have k_a := hxx52 _ _ k_a
      have hx0 := hx0.tr hxx52
      rcases sp52 : spx_all (sp_A m) (L.drop y) with _ | ⟨f52, r52⟩
      · rw [sp52] at hm52
        obtain ⟨rfl, q52, hq52, r2⟩ := hm52
        show et_go none _ 75 55 _ [.null] _ _ _ _
        refine hs_goto (p := 63) (by decide +kernel) ?_
        refine hs_astore0 (i := 7) (p := 65) (by decide +kernel) (Nat.le_of_ble_eq_true rfl) ?_
        refine hs_aload0 (i := 7) (p := 67) (by decide +kernel) rfl ?_
        refine hs_ifnonnull0 (p := 70) (by decide +kernel) ?_
        refine hs_nul (p := 71) (by decide +kernel) ?_
        refine hs_aretN (cn := "KnobEye$Node") (by decide +kernel) ?_
        refine ⟨_, _, _, _, _, rfl, hx0, hH, rx_out hX, ?_, hJ⟩
        rw [show sp_lp (spx_all (sp_A m)) 21 (fun f g e => f e || g e) n (gF 0 fs) (L.drop y) = none from sp_lp_0 sp52]
        exact ⟨rfl, _, (by omega), r2⟩
      · rw [sp52] at hm52
        obtain ⟨y52, b52, rfl, hy52, hz52, r8, r2, rfl, k_b52, R52⟩ := hm52
        have lt_b52 := (hH.2.2 _ _ k_b52).1
        obtain ⟨R52, nb52⟩ := R52
        have Rb52 := R52.in
        show et_go none _ 75 55 _ [.ref b52] _ _ _ _
        refine hs_goto (p := 63) (by decide +kernel) ?_
        refine hs_astore (i := 7) (p := 65) (by decide +kernel) (Nat.le_of_ble_eq_true rfl) ?_
        refine hs_aload (i := 7) (p := 67) (by decide +kernel) rfl ?_
        refine hs_ifnonnull1 (p := 72) (by decide +kernel) ?_
        refine hs_aload (i := 5) (p := 74) (by decide +kernel) rfl ?_
        refine hs_ifnonnull1 (p := 87) (by decide +kernel) ?_
        refine hs_aload (i := 5) (p := 89) (by decide +kernel) rfl ?_
        refine hs_aload (i := 7) (p := 91) (by decide +kernel) rfl ?_
        have hHo := hH
        refine hf_next (ty := .object "KnobEye$Node") (p := 94) (by decide +kernel) rfl hH k_b k_b52 (by omega) (fun G91 hH x91 e91 _ => ?_)
        have hJ := hJ.xs hHo k_rd x91 (fun a j hs => ⟨fun e9 => absurd (hs.1.symm.trans e9) (hi_ne k_b k_rd (by decide)), fun _ => by have h9 := hs.2; omega⟩)
        have g0 := (x91.2 g 0 lt_g (fun h => (show ¬ g = b by omega) h.1)).trans g0
        have g1 := (x91.2 g 1 lt_g (fun h => (show ¬ g = b by omega) h.1)).trans g1
        have g2 := (x91.2 g 2 lt_g (fun h => (show ¬ g = b by omega) h.1)).trans g2
        have nb52 := (x91.2 b52 1 lt_b52 (fun h => (show ¬ b52 = b by omega) h.1)).trans nb52
        have r2 := (x91.2 rd 2 lt_rd (fun h => (hi_ne k_rd k_b (by decide)) h.1)).trans r2
        have r8 := (x91.2 rd 8 lt_rd (fun h => (hi_ne k_rd k_b (by decide)) h.1)).trans r8
        have lt_rd := Nat.lt_of_lt_of_le lt_rd x91.1
        have lt_g := Nat.lt_of_lt_of_le lt_g x91.1
        have lt_b := Nat.lt_of_lt_of_le lt_b x91.1
        have lt_a := Nat.lt_of_lt_of_le lt_a x91.1
        have lt_b52 := Nat.lt_of_lt_of_le lt_b52 x91.1
        have hX := hX.tr x91 (fun b j hb h => by first | omega | (dsimp only at h ⊢; omega) | (dsimp only at h; omega) | (dsimp only; omega))
        have m91 := x91.1
        have htk := htk.xf hHo k_rd et_ex.rf x91 (fun a j hs => .inr (.inl (by have e := hs.1; rw [e]; exact k_b)))
        have R52 := R52.fr (x91.agf (lo := G.2) (hi := G52.2) (by omega) (fun a j h1 h2 hs => by first | omega | (dsimp only at hs; omega))).ag
        refine hs_aload (i := 7) (p := 96) (by decide +kernel) rfl ?_
        refine hs_astore (i := 5) (p := 98) (by decide +kernel) (Nat.le_of_ble_eq_true rfl) ?_
        have hI := hI.snoc (fun c c1 c2 i ci => x91.2 c i (by omega) ci) e91 nb52 (by omega) (by omega) (Nat.le_refl _) (by omega) R52
        refine hs_aload (i := 0) (p := 99) (by decide +kernel) rfl ?_
        refine hs_iload (i := 3) (p := 100) (by decide +kernel) rfl ?_
        refine hs_if0 (c := .eq) (t := 109) (f := 103) (by decide +kernel) (show ¬ (Int32.ofNat 1 = 0) by decide) ?_
        refine hs_gst (v := Value.ref 21) (p := 106) (by decide +kernel) ?_
        refine hs_goto (p := 112) (by decide +kernel) ?_
        refine ht_callv (T := et_TT) (t := 7) (mi := 78) (na := 1) (ci := 5) (lk := 8) (lm := 2) (L0 := eg_en (eg_mL 78) [.ref rd, .ref 21]) (by decide +kernel) rfl hH k_rd rfl rfl rfl rfl rfl (by rw [show eg_mL 78 = 2 from by decide +kernel]; first | done | rfl) ?_
        refine (fc_is hH k_rd htk htl r8 (by omega) (wd := 21) (by decide)).mono (fun u hu => xp_cb hu ?_)
        by_cases i112 : wat L y52 = 21
        · rw [if_pos i112]
          have il112 : y52 < L.length := wat_i (by rw [i112]; decide)
          show et_go none _ 75 115 _ [.int (Int32.ofNat 1)] _ _ _ _
          refine hs_if1 (c := .ne) (t := 121) (f := 118) (by decide +kernel) (show ¬ Int32.ofNat 1 = 0 by decide) ?_
          refine hs_aload (i := 0) (p := 122) (by decide +kernel) rfl ?_
          refine hs_dup1 (p := 123) (by decide +kernel) ?_
          refine hf_get (T := et_TT) (t := 7) (ci := 5) (f := 8) (p := 126) (by decide +kernel) rfl hH k_rd r8 ?_
          refine hs_k (x := Int32.ofNat 1) (p := 127) (by decide +kernel) ?_
          refine hs_iaddn (p := 128) (by decide +kernel) ?_
          have hHo := hH
          refine hf_put (T := et_TT) (t := 7) (ci := 5) (f := 8) (p := 131) (ty := .int) (by decide +kernel) rfl rfl rfl rfl rfl hH k_rd (hi_nv (by omega) (by omega)) (fun G128 hH x128 e128 => ?_)
          have hJ := hJ.xs hHo k_rd x128 (fun a j hs => ⟨fun _ => by first | omega | (dsimp only at hs; omega), fun k6 => by have e9 : a = rd := (by first | omega | (dsimp only at hs; omega)); rw [e9, k_rd] at k6; exact nomatch k6⟩)
          have e91 := (x128.2 b 1 lt_b (fun h => (hi_ne k_b k_rd (by decide)) h.1)).trans e91
          have g0 := (x128.2 g 0 lt_g (fun h => (hi_ne k_g k_rd (by decide)) h.1)).trans g0
          have g1 := (x128.2 g 1 lt_g (fun h => (hi_ne k_g k_rd (by decide)) h.1)).trans g1
          have g2 := (x128.2 g 2 lt_g (fun h => (hi_ne k_g k_rd (by decide)) h.1)).trans g2
          have nb52 := (x128.2 b52 1 lt_b52 (fun h => (hi_ne k_b52 k_rd (by decide)) h.1)).trans nb52
          have r2 := (x128.2 rd 2 lt_rd (fun h => absurd h.2 (by decide))).trans r2
          have lt_rd := Nat.lt_of_lt_of_le lt_rd x128.1
          have lt_g := Nat.lt_of_lt_of_le lt_g x128.1
          have lt_b := Nat.lt_of_lt_of_le lt_b x128.1
          have lt_a := Nat.lt_of_lt_of_le lt_a x128.1
          have lt_b52 := Nat.lt_of_lt_of_le lt_b52 x128.1
          have hX := hX.tr x128 (fun b j hb h => by first | omega | (dsimp only at h ⊢; omega) | (dsimp only at h; omega) | (dsimp only; omega))
          have m128 := x128.1
          have htk := htk.xf hHo k_rd et_ex.rf x128 (fun a j hs => .inl (by first | omega | (dsimp only at hs; omega)))
          have hI := hI.fr (x128.agf (lo := (g + 1)) (hi := G52.2) (by omega) (fun a j h1 h2 hs => by first | omega | (dsimp only at hs; omega)))
          have e128 : et_pl (eg_at G128 rd) 8 = some (.int (Int32.ofNat (y52 + 1))) := e128
          refine hs_iinc1 (i := 6) (p := 134) (by decide +kernel) rfl (Nat.le_of_ble_eq_true rfl) ?_
          refine hs_goto (p := 37) (by decide +kernel) ?_
          obtain ⟨n', rfl⟩ : ∃ n', n = n' + 1 := ⟨n - 1, by omega⟩
          rw [show sp_lp (spx_all (sp_A m)) 21 (fun f g e => f e || g e) (n' + 1) (gF 0 fs) (L.drop y) = sp_lp (spx_all (sp_A m)) 21 (fun f g e => f e || g e) n' (gF 0 (fs ++ [f52])) (L.drop (y52 + 1)) from (sp_lp_y sp52 i112 (by decide)).trans (by rw [gF_0])]
          show et_go none _ 75 37 [some (.ref rd), some (.int (Int32.ofNat 0)), some (.int (Int32.ofNat dep)), some (.int (Int32.ofNat 1)), some (.ref g), some (.ref b52), some (.int (Int32.ofNat (i + 1))), some (.ref b52)] [] _ _ _ _
          exact ih (L.length - (y52 + 1)) (by omega) hH hx0 hX k_rd htk e128 (by omega) r2 (by omega) hJ k_g g0 g1 g2 k_b52 hI (by omega) nb52 (by omega) (by omega) (by omega) (by omega) rfl
        · rw [if_neg i112]
          show et_go none _ 75 115 _ [.int (Int32.ofNat 0)] _ _ _ _
          refine hs_if0 (c := .ne) (t := 121) (f := 118) (by decide +kernel) (show ¬ (¬ Int32.ofNat 0 = 0) by decide) ?_
          refine hs_goto (p := 137) (by decide +kernel) ?_
          refine hs_aload (i := 4) (p := 139) (by decide +kernel) rfl ?_
          refine hf_get (T := et_TT) (t := 6) (ci := 4) (f := 2) (p := 142) (by decide +kernel) rfl hH k_g g2 ?_
          refine hs_aload (i := 5) (p := 144) (by decide +kernel) rfl ?_
          refine hf_acm (c := .ne) (tt := 152) (ff := 147) (by decide +kernel) (hi_ca hH k_a (.inr (by decide))) (hi_ca hH k_b52 (.inr (by decide))) (fun (q144 : ¬ Value.ref a = .ref b52) => ?_) (fun (q144 : ¬ ¬ Value.ref a = .ref b52) => ?_)
          · refine hs_aload (i := 4) (p := 154) (by decide +kernel) rfl ?_
            refine hs_aret (cn := "KnobEye$Node") (by decide +kernel) ?_
            refine ⟨_, _, _, _, _, rfl, hx0, hH, rx_out hX, ?_, hJ⟩
            rw [show sp_lp (spx_all (sp_A m)) 21 (fun f g e => f e || g e) n (gF 0 fs) (L.drop y) = some (gF 0 (fs ++ [f52]), L.drop y52) from (sp_lp_n sp52 i112).trans (by rw [gF_0])]
            exact ⟨y52, _, rfl, (by omega), (by omega), r8, r2, rfl, k_g, ⟨((hI.dn (by decide) g0 g2 (by omega)).wk (Nat.le_refl _) (by omega)).up (by omega), g1⟩⟩
          · obtain rfl : a = b52 := Value.ref.inj (Decidable.of_not_not q144)
            refine hs_aload (i := 5) (p := 149) (by decide +kernel) rfl ?_
            refine hs_goto (p := 154) (by decide +kernel) ?_
            refine hs_aret (cn := "KnobEye$Node") (by decide +kernel) ?_
            obtain ⟨al1, al2, ah1, ah2, ad⟩ := hI.alone (k := 0)
            refine ⟨_, _, _, _, _, rfl, hx0, hH, rx_out hX, ?_, hJ⟩
            rw [show sp_lp (spx_all (sp_A m)) 21 (fun f g e => f e || g e) n (gF 0 fs) (L.drop y) = some (gF 0 (fs ++ [f52]), L.drop y52) from (sp_lp_n sp52 i112).trans (by rw [gF_0])]
            exact ⟨y52, _, rfl, (by omega), (by omega), r8, r2, rfl, k_a, ⟨(ad.wk (by omega) (by omega)).up (by omega), nb52⟩⟩
theorem fj_g0 (hsub : jG lo0 1 1 m (spx_all (sp_A m))) : jG lo0 0 2 m (spx_any (sp_A m)) := by
  intro K G d2 rd x dep L hH k_rd htk htl r8 hx r2 hdm hd hJ
  obtain ⟨d, rfl⟩ : ∃ d, d2 = d + 6 := ⟨d2 - 6, by omega⟩
  rw [show eg_mL 75 = 8 from by decide +kernel]
  show et_go none (d + 6) 75 0 [some (.ref rd), some (.int (Int32.ofNat 0)), some (.int (Int32.ofNat dep)), none, none, none, none, none] [] G 0 0 _
  have lt_rd := (hH.2.2 _ _ k_rd).1
  have hX : xf (fun b j => (b = rd ∧ (2 ≤ j ∧ j ≤ 3)) ∨ (b = rd ∧ j = 8)) G G := xf.rf
  have hx0 : et_ex K K := et_ex.rf
  have hl4 : L.length ≤ 400 := by obtain ⟨_, _, _, _, _, h, _⟩ := htk; exact h
  have lr0 := (hH.2.2 _ _ k_rd).1
  refine hs_iload (i := 2) (p := 1) (by decide +kernel) rfl ?_
  refine hs_k (x := Int32.ofNat 6) (p := 3) (by decide +kernel) ?_
  refine hs_br2n (c := .le) (t := 11) (f := 6) (by decide +kernel) (by omega) (by omega) (fun (c3 : dep ≤ 6) => ?_) (fun (c3 : ¬ (dep ≤ 6)) => ?_)
  · refine hs_iload (i := 1) (p := 12) (by decide +kernel) rfl ?_
    refine hs_if0 (c := .ne) (t := 19) (f := 15) (by decide +kernel) (show ¬ (¬ Int32.ofNat 0 = 0) by decide) ?_
    refine hs_k (x := Int32.ofNat 1) (p := 16) (by decide +kernel) ?_
    refine hs_goto (p := 20) (by decide +kernel) ?_
    refine hs_istore (i := 3) (p := 21) (by decide +kernel) (Nat.le_of_ble_eq_true rfl) ?_
    have hHo := hH
    refine hf_newNJ (p := 24) (by decide +kernel) (by omega) (by omega) hH (fun KK21 GG21 hxx21 x21 hH k_G_2 mm21 hf21 kj21 => ?_)
    have hJ := hJ.nw hHo k_rd x21 hf21.2.2.2.1 kj21
    have r8 := (x21.2 rd 8 lt_rd (fun h => h)).trans r8
    have r2 := (x21.2 rd 2 lt_rd (fun h => h)).trans r2
    have lt_rd := Nat.lt_of_lt_of_le lt_rd x21.1
    have hX := hX.tr x21 (fun b j hb h => h.elim)
    have m21 := x21.1
    have htk := htk.xf hHo k_rd hxx21 x21 (fun a j hs => absurd hs id)
    have k_rd := hxx21 _ _ k_rd
    have hx0 := hx0.tr hxx21
    have lt_G_2 : G.2 < GG21.2 := by omega
    obtain ⟨n1_21, n2_21, n3_21, n4_21, n5_21⟩ := hf21
    refine hs_dup1 (p := 25) (by decide +kernel) ?_
    refine hs_iload (i := 1) (p := 26) (by decide +kernel) rfl ?_
    have hHo := hH
    refine hs_callp (mi := 61) (na := 1) (lk := 8) (lm := 2) (L0 := eg_en (eg_mL 61) [.ref G.2, .int (Int32.ofNat 0)]) (by decide +kernel) rfl rfl rfl rfl rfl (by rw [show eg_mL 61 = 2 from by decide +kernel]; first | done | rfl) ?_
    refine (fc_nod hH k_G_2).mono (fun u hu => xw_cb hu (fun G26 v26 hH x26 hP26 => ?_))
    have hJ := hJ.xs hHo k_rd x26 (fun a j hs => ⟨fun e9 => absurd (hs.1.symm.trans e9) (hi_ne k_G_2 k_rd (by decide)), fun _ => by have h9 := hs.2; omega⟩)
    have r8 := (x26.2 rd 8 lt_rd (fun h => (hi_ne k_rd k_G_2 (by decide)) h.1)).trans r8
    have r2 := (x26.2 rd 2 lt_rd (fun h => (hi_ne k_rd k_G_2 (by decide)) h.1)).trans r2
    have n1_21 := (x26.2 G.2 1 lt_G_2 (fun h => absurd h.2 (by decide))).trans n1_21
    have n2_21 := (x26.2 G.2 2 lt_G_2 (fun h => absurd h.2 (by decide))).trans n2_21
    have n3_21 := (x26.2 G.2 3 lt_G_2 (fun h => absurd h.2 (by decide))).trans n3_21
    have n4_21 := (x26.2 G.2 4 lt_G_2 (fun h => absurd h.2 (by decide))).trans n4_21
    have n5_21 := (x26.2 G.2 5 lt_G_2 (fun h => absurd h.2 (by decide))).trans n5_21
    have lt_rd := Nat.lt_of_lt_of_le lt_rd x26.1
    have lt_G_2 := Nat.lt_of_lt_of_le lt_G_2 x26.1
    have hX := hX.tr x26 (fun b j hb h => by first | omega | (dsimp only at h ⊢; omega) | (dsimp only at h; omega) | (dsimp only; omega))
    have m26 := x26.1
    have htk := htk.xf hHo k_rd et_ex.rf x26 (fun a j hs => .inr (.inl (by have e := hs.1; rw [e]; exact k_G_2)))
    obtain ⟨rfl, e26⟩ := hP26
    show et_go none _ 75 29 _ [.ref G.2] _ _ _ _
    refine hs_astore (i := 4) (p := 31) (by decide +kernel) (Nat.le_of_ble_eq_true rfl) ?_
    refine hs_nul (p := 32) (by decide +kernel) ?_
    refine hs_astore0 (i := 5) (p := 34) (by decide +kernel) (Nat.le_of_ble_eq_true rfl) ?_
    refine hs_k (x := Int32.ofNat 0) (p := 35) (by decide +kernel) ?_
    refine hs_istore (i := 6) (p := 37) (by decide +kernel) (Nat.le_of_ble_eq_true rfl) ?_
    refine hs_iload (i := 6) (p := 39) (by decide +kernel) rfl ?_
    refine hs_k (x := Int32.ofNat 400) (p := 42) (by decide +kernel) ?_
    refine hs_br2n (c := .ge) (t := 137) (f := 45) (by decide +kernel) (by omega) (by omega) (fun h => absurd h (show ¬ (400 ≤ 0) by decide)) (fun _ => ?_)
    refine hs_iload (i := 3) (p := 46) (by decide +kernel) rfl ?_
    refine hs_if0 (c := .eq) (t := 58) (f := 49) (by decide +kernel) (show ¬ (Int32.ofNat 1 = 0) by decide) ?_
    refine hs_aload (i := 0) (p := 50) (by decide +kernel) rfl ?_
    refine hs_k (x := Int32.ofNat 1) (p := 51) (by decide +kernel) ?_
    refine hs_iload (i := 2) (p := 52) (by decide +kernel) rfl ?_
    have hHo := hH
    refine ht_callv (T := et_TT) (t := 7) (mi := 75) (na := 2) (ci := 5) (lk := 8) (lm := 8) (L0 := eg_en (eg_mL 75) [.ref rd, .int (Int32.ofNat 1), .int (Int32.ofNat dep)]) (by decide +kernel) rfl hH k_rd rfl rfl rfl rfl rfl (by rw [show eg_mL 75 = 8 from by decide +kernel]; first | done | rfl) ?_
    refine (((pp_g1 (pp_ag m).1) _ _ _ _ _ _ hH k_rd r8 (by omega) (by omega) (by omega)).and (hsub _ _ _ _ _ _ _ hH k_rd htk htl r8 (by omega) r2 (by omega) (by omega) hJ)).mono (fun u hu => fz_cbJ (t := 1) (by decide) hu (fun K52 G52 v52 c52 s52 hxx52 hH x52 hc52 hs52 hm52 hJ => ?_))
    have x52 := rx_in x52
    have n1_21 := (x52.2 G.2 1 lt_G_2 (fun h => Or.elim h (fun h => (hi_ne k_G_2 k_rd (by decide)) h.1) (fun h => (hi_ne k_G_2 k_rd (by decide)) h.1))).trans n1_21
    have n2_21 := (x52.2 G.2 2 lt_G_2 (fun h => Or.elim h (fun h => (hi_ne k_G_2 k_rd (by decide)) h.1) (fun h => (hi_ne k_G_2 k_rd (by decide)) h.1))).trans n2_21
    have n3_21 := (x52.2 G.2 3 lt_G_2 (fun h => Or.elim h (fun h => (hi_ne k_G_2 k_rd (by decide)) h.1) (fun h => (hi_ne k_G_2 k_rd (by decide)) h.1))).trans n3_21
    have n4_21 := (x52.2 G.2 4 lt_G_2 (fun h => Or.elim h (fun h => (hi_ne k_G_2 k_rd (by decide)) h.1) (fun h => (hi_ne k_G_2 k_rd (by decide)) h.1))).trans n4_21
    have n5_21 := (x52.2 G.2 5 lt_G_2 (fun h => Or.elim h (fun h => (hi_ne k_G_2 k_rd (by decide)) h.1) (fun h => (hi_ne k_G_2 k_rd (by decide)) h.1))).trans n5_21
    have e26 := (x52.2 G.2 0 lt_G_2 (fun h => Or.elim h (fun h => (hi_ne k_G_2 k_rd (by decide)) h.1) (fun h => (hi_ne k_G_2 k_rd (by decide)) h.1))).trans e26
    have lt_rd := Nat.lt_of_lt_of_le lt_rd x52.1
    have lt_G_2 := Nat.lt_of_lt_of_le lt_G_2 x52.1
    have hX := hX.tr x52 (fun b j hb h => by first | omega | (dsimp only at h ⊢; omega) | (dsimp only at h; omega) | (dsimp only; omega))
    have m52 := x52.1
    have htk := htk.xf hHo k_rd hxx52 x52 (fun a j hs => .inl (by first | omega | (dsimp only at hs; omega)))
    have k_rd := hxx52 _ _ k_rd
    have k_G_2 := hxx52 _ _ k_G_2
    have hx0 := hx0.tr hxx52
    rcases sp52 : spx_all (sp_A m) (L.drop x) with _ | ⟨f52, r52⟩
    · rw [sp52] at hm52
      obtain ⟨rfl, q52, hq52, r2⟩ := hm52
      show et_go none _ 75 55 _ [.null] _ _ _ _
      refine hs_goto (p := 63) (by decide +kernel) ?_
      refine hs_astore0 (i := 7) (p := 65) (by decide +kernel) (Nat.le_of_ble_eq_true rfl) ?_
      refine hs_aload0 (i := 7) (p := 67) (by decide +kernel) rfl ?_
      refine hs_ifnonnull0 (p := 70) (by decide +kernel) ?_
      refine hs_nul (p := 71) (by decide +kernel) ?_
      refine hs_aretN (cn := "KnobEye$Node") (by decide +kernel) ?_
      refine ⟨_, _, _, _, _, rfl, hx0, hH, rx_out hX, ?_, hJ⟩
      rw [show spx_any (sp_A m) (L.drop x) = none from sp_many_0 sp52]
      exact ⟨rfl, _, (by omega), r2⟩
    · rw [sp52] at hm52
      obtain ⟨y52, b52, rfl, hy52, hz52, r8, r2, rfl, k_b52, R52⟩ := hm52
      have lt_b52 := (hH.2.2 _ _ k_b52).1
      obtain ⟨R52, nb52⟩ := R52
      have Rb52 := R52.in
      show et_go none _ 75 55 _ [.ref b52] _ _ _ _
      refine hs_goto (p := 63) (by decide +kernel) ?_
      refine hs_astore (i := 7) (p := 65) (by decide +kernel) (Nat.le_of_ble_eq_true rfl) ?_
      refine hs_aload (i := 7) (p := 67) (by decide +kernel) rfl ?_
      refine hs_ifnonnull1 (p := 72) (by decide +kernel) ?_
      refine hs_aload0 (i := 5) (p := 74) (by decide +kernel) rfl ?_
      refine hs_ifnonnull0 (p := 77) (by decide +kernel) ?_
      refine hs_aload (i := 4) (p := 79) (by decide +kernel) rfl ?_
      refine hs_aload (i := 7) (p := 81) (by decide +kernel) rfl ?_
      have hHo := hH
      refine hf_put (T := et_TT) (t := 6) (ci := 4) (f := 2) (p := 84) (ty := (.object "KnobEye$Node")) (by decide +kernel) rfl rfl rfl rfl rfl hH k_G_2 (.inr ⟨by decide, _, rfl, k_b52⟩) (fun G81 hH x81 e81 => ?_)
      have hJ := hJ.xs hHo k_rd x81 (fun a j hs => ⟨fun e9 => absurd (hs.1.symm.trans e9) (hi_ne k_G_2 k_rd (by decide)), fun _ => by have h9 := hs.2; omega⟩)
      have n1_21 := (x81.2 G.2 1 lt_G_2 (fun h => absurd h.2 (by decide))).trans n1_21
      have n3_21 := (x81.2 G.2 3 lt_G_2 (fun h => absurd h.2 (by decide))).trans n3_21
      have n4_21 := (x81.2 G.2 4 lt_G_2 (fun h => absurd h.2 (by decide))).trans n4_21
      have n5_21 := (x81.2 G.2 5 lt_G_2 (fun h => absurd h.2 (by decide))).trans n5_21
      have e26 := (x81.2 G.2 0 lt_G_2 (fun h => absurd h.2 (by decide))).trans e26
      have nb52 := (x81.2 b52 1 lt_b52 (fun h => (show ¬ b52 = G.2 by omega) h.1)).trans nb52
      have r2 := (x81.2 rd 2 lt_rd (fun h => (hi_ne k_rd k_G_2 (by decide)) h.1)).trans r2
      have r8 := (x81.2 rd 8 lt_rd (fun h => (hi_ne k_rd k_G_2 (by decide)) h.1)).trans r8
      have lt_rd := Nat.lt_of_lt_of_le lt_rd x81.1
      have lt_G_2 := Nat.lt_of_lt_of_le lt_G_2 x81.1
      have lt_b52 := Nat.lt_of_lt_of_le lt_b52 x81.1
      have hX := hX.tr x81 (fun b j hb h => by first | omega | (dsimp only at h ⊢; omega) | (dsimp only at h; omega) | (dsimp only; omega))
      have m81 := x81.1
      have htk := htk.xf hHo k_rd et_ex.rf x81 (fun a j hs => .inr (.inl (by have e := hs.1; rw [e]; exact k_G_2)))
      have R52 := R52.fr (x81.agf (lo := G26.2) (hi := G52.2) (by omega) (fun a j h1 h2 hs => by first | omega | (dsimp only at hs; omega))).ag
      refine hs_goto (p := 94) (by decide +kernel) ?_
      refine hs_aload (i := 7) (p := 96) (by decide +kernel) rfl ?_
      refine hs_astore (i := 5) (p := 98) (by decide +kernel) (Nat.le_of_ble_eq_true rfl) ?_
      have hI := gI.one (g := G.2) nb52 (by omega) (Nat.le_refl _) R52
      refine hs_aload (i := 0) (p := 99) (by decide +kernel) rfl ?_
      refine hs_iload (i := 3) (p := 100) (by decide +kernel) rfl ?_
      refine hs_if0 (c := .eq) (t := 109) (f := 103) (by decide +kernel) (show ¬ (Int32.ofNat 1 = 0) by decide) ?_
      refine hs_gst (v := Value.ref 21) (p := 106) (by decide +kernel) ?_
      refine hs_goto (p := 112) (by decide +kernel) ?_
      refine ht_callv (T := et_TT) (t := 7) (mi := 78) (na := 1) (ci := 5) (lk := 8) (lm := 2) (L0 := eg_en (eg_mL 78) [.ref rd, .ref 21]) (by decide +kernel) rfl hH k_rd rfl rfl rfl rfl rfl (by rw [show eg_mL 78 = 2 from by decide +kernel]; first | done | rfl) ?_
      refine (fc_is hH k_rd htk htl r8 (by omega) (wd := 21) (by decide)).mono (fun u hu => xp_cb hu ?_)
      by_cases i112 : wat L y52 = 21
      · rw [if_pos i112]
        have il112 : y52 < L.length := wat_i (by rw [i112]; decide)
        show et_go none _ 75 115 _ [.int (Int32.ofNat 1)] _ _ _ _
        refine hs_if1 (c := .ne) (t := 121) (f := 118) (by decide +kernel) (show ¬ Int32.ofNat 1 = 0 by decide) ?_
        refine hs_aload (i := 0) (p := 122) (by decide +kernel) rfl ?_
        refine hs_dup1 (p := 123) (by decide +kernel) ?_
        refine hf_get (T := et_TT) (t := 7) (ci := 5) (f := 8) (p := 126) (by decide +kernel) rfl hH k_rd r8 ?_
        refine hs_k (x := Int32.ofNat 1) (p := 127) (by decide +kernel) ?_
        refine hs_iaddn (p := 128) (by decide +kernel) ?_
        have hHo := hH
        refine hf_put (T := et_TT) (t := 7) (ci := 5) (f := 8) (p := 131) (ty := .int) (by decide +kernel) rfl rfl rfl rfl rfl hH k_rd (hi_nv (by omega) (by omega)) (fun G128 hH x128 e128 => ?_)
        have hJ := hJ.xs hHo k_rd x128 (fun a j hs => ⟨fun _ => by first | omega | (dsimp only at hs; omega), fun k6 => by have e9 : a = rd := (by first | omega | (dsimp only at hs; omega)); rw [e9, k_rd] at k6; exact nomatch k6⟩)
        have n1_21 := (x128.2 G.2 1 lt_G_2 (fun h => (hi_ne k_G_2 k_rd (by decide)) h.1)).trans n1_21
        have e81 := (x128.2 G.2 2 lt_G_2 (fun h => (hi_ne k_G_2 k_rd (by decide)) h.1)).trans e81
        have n3_21 := (x128.2 G.2 3 lt_G_2 (fun h => (hi_ne k_G_2 k_rd (by decide)) h.1)).trans n3_21
        have n4_21 := (x128.2 G.2 4 lt_G_2 (fun h => (hi_ne k_G_2 k_rd (by decide)) h.1)).trans n4_21
        have n5_21 := (x128.2 G.2 5 lt_G_2 (fun h => (hi_ne k_G_2 k_rd (by decide)) h.1)).trans n5_21
        have e26 := (x128.2 G.2 0 lt_G_2 (fun h => (hi_ne k_G_2 k_rd (by decide)) h.1)).trans e26
        have nb52 := (x128.2 b52 1 lt_b52 (fun h => (hi_ne k_b52 k_rd (by decide)) h.1)).trans nb52
        have r2 := (x128.2 rd 2 lt_rd (fun h => absurd h.2 (by decide))).trans r2
        have lt_rd := Nat.lt_of_lt_of_le lt_rd x128.1
        have lt_G_2 := Nat.lt_of_lt_of_le lt_G_2 x128.1
        have lt_b52 := Nat.lt_of_lt_of_le lt_b52 x128.1
        have hX := hX.tr x128 (fun b j hb h => by first | omega | (dsimp only at h ⊢; omega) | (dsimp only at h; omega) | (dsimp only; omega))
        have m128 := x128.1
        have htk := htk.xf hHo k_rd et_ex.rf x128 (fun a j hs => .inl (by first | omega | (dsimp only at hs; omega)))
        have hI := hI.fr (x128.agf (lo := (G.2 + 1)) (hi := G52.2) (by omega) (fun a j h1 h2 hs => by first | omega | (dsimp only at hs; omega)))
        have e128 : et_pl (eg_at G128 rd) 8 = some (.int (Int32.ofNat (y52 + 1))) := e128
        refine hs_iinc1 (i := 6) (p := 134) (by decide +kernel) rfl (Nat.le_of_ble_eq_true rfl) ?_
        refine hs_goto (p := 37) (by decide +kernel) ?_
        rw [show spx_any (sp_A m) (L.drop x) = sp_lp (spx_all (sp_A m)) 21 (fun f g e => f e || g e) 499 (gF 0 [f52]) (L.drop (y52 + 1)) from (sp_many_y sp52 i112 (by decide)).trans (by rw [gF_one])]
        show et_go none _ 75 37 [some (.ref rd), some (.int (Int32.ofNat 0)), some (.int (Int32.ofNat dep)), some (.int (Int32.ofNat 1)), some (.ref G.2), some (.ref b52), some (.int (Int32.ofNat (0 + 1))), some (.ref b52)] [] _ _ _ _
        exact fnj_g0 (m := m) (K0 := K) (G0 := G) (i := 0 + 1) hsub hH hx0 hX k_rd htk htl e128 (by omega) r2 lr0 (by omega) hJ k_G_2 e26 n1_21 e81 k_b52 hI (by omega) (by omega) nb52 (by omega) (by omega) (by omega) (by omega) hdm (by omega)
      · rw [if_neg i112]
        show et_go none _ 75 115 _ [.int (Int32.ofNat 0)] _ _ _ _
        refine hs_if0 (c := .ne) (t := 121) (f := 118) (by decide +kernel) (show ¬ (¬ Int32.ofNat 0 = 0) by decide) ?_
        refine hs_goto (p := 137) (by decide +kernel) ?_
        refine hs_aload (i := 4) (p := 139) (by decide +kernel) rfl ?_
        refine hf_get (T := et_TT) (t := 6) (ci := 4) (f := 2) (p := 142) (by decide +kernel) rfl hH k_G_2 e81 ?_
        refine hs_aload (i := 5) (p := 144) (by decide +kernel) rfl ?_
        refine hf_acm (c := .ne) (tt := 152) (ff := 147) (by decide +kernel) (hi_ca hH k_b52 (.inr (by decide))) (hi_ca hH k_b52 (.inr (by decide))) (fun (q144 : ¬ Value.ref b52 = .ref b52) => ?_) (fun (q144 : ¬ ¬ Value.ref b52 = .ref b52) => ?_)
        · exact absurd rfl q144
        · refine hs_aload (i := 5) (p := 149) (by decide +kernel) rfl ?_
          refine hs_goto (p := 154) (by decide +kernel) ?_
          refine hs_aret (cn := "KnobEye$Node") (by decide +kernel) ?_
          obtain ⟨al1, al2, ah1, ah2, ad⟩ := hI.alone (k := 0)
          refine ⟨_, _, _, _, _, rfl, hx0, hH, rx_out hX, ?_, hJ⟩
          rw [show spx_any (sp_A m) (L.drop x) = some (gF 0 [f52], L.drop y52) from (sp_many_n sp52 i112).trans (by rw [gF_one])]
          exact ⟨y52, _, rfl, (by omega), (by omega), r8, r2, rfl, k_b52, ⟨(ad.wk (by omega) (by omega)).up (by omega), nb52⟩⟩
  · exact absurd (show dep ≤ 6 by omega) c3
theorem fj_a (ih : ∀ m1, m = m1 + 1 → jA lo0 m1 ∧ jG lo0 0 2 m1 (sp_C m1)) : jA lo0 m := by
  intro K G d2 rd x dep L hH k_rd htk htl r8 hx r2 hdm hd hJ
  obtain ⟨d, rfl⟩ : ∃ d, d2 = d + 4 := ⟨d2 - 4, by omega⟩
  obtain ⟨AA, CC, hAC⟩ := sp_A_at m
  rw [show eg_mL 77 = 4 from by decide +kernel]
  show et_go none (d + 4) 77 0 [some (.ref rd), some (.int (Int32.ofNat dep)), none, none] [] G 0 0 _
  have lt_rd := (hH.2.2 _ _ k_rd).1
  have hX : xf (fun b j => (b = rd ∧ (2 ≤ j ∧ j ≤ 3)) ∨ (b = rd ∧ j = 8)) G G := xf.rf
  have hx0 : et_ex K K := et_ex.rf
  have hl4 : L.length ≤ 400 := by obtain ⟨_, _, _, _, _, h, _⟩ := htk; exact h
  have lr0 := (hH.2.2 _ _ k_rd).1
  refine hs_aload (i := 0) (p := 1) (by decide +kernel) rfl ?_
  refine hs_gst (v := Value.ref 22) (p := 4) (by decide +kernel) ?_
  refine ht_callv (T := et_TT) (t := 7) (mi := 78) (na := 1) (ci := 5) (lk := 4) (lm := 2) (L0 := eg_en (eg_mL 78) [.ref rd, .ref 22]) (by decide +kernel) rfl hH k_rd rfl rfl rfl rfl rfl (by rw [show eg_mL 78 = 2 from by decide +kernel]; first | done | rfl) ?_
  refine (fc_is hH k_rd htk htl r8 (by omega) (wd := 22) (by decide)).mono (fun u hu => xp_cb hu ?_)
  by_cases i4 : wat L x = 22
  · rw [if_pos i4]
    have il4 : x < L.length := wat_i (by rw [i4]; decide)
    show et_go none _ 77 7 _ [.int (Int32.ofNat 1)] _ _ _ _
    refine hs_istore (i := 2) (p := 8) (by decide +kernel) (Nat.le_of_ble_eq_true rfl) ?_
    refine hs_iload (i := 2) (p := 9) (by decide +kernel) rfl ?_
    refine hs_if1 (c := .ne) (t := 42) (f := 12) (by decide +kernel) (show ¬ Int32.ofNat 1 = 0 by decide) ?_
    refine hs_iload (i := 1) (p := 43) (by decide +kernel) rfl ?_
    refine hs_k (x := Int32.ofNat 6) (p := 45) (by decide +kernel) ?_
    refine hs_br2n (c := .lt) (t := 53) (f := 48) (by decide +kernel) (by omega) (by omega) (fun (c45 : dep < 6) => ?_) (fun (c45 : ¬ (dep < 6)) => ?_)
    · obtain ⟨m1, rfl⟩ : ∃ m1, m = m1 + 1 := ⟨m - 1, by omega⟩
      obtain ⟨hA, hG⟩ := ih m1 rfl
      refine hs_aload (i := 0) (p := 54) (by decide +kernel) rfl ?_
      refine hs_dup1 (p := 55) (by decide +kernel) ?_
      refine hf_get (T := et_TT) (t := 7) (ci := 5) (f := 8) (p := 58) (by decide +kernel) rfl hH k_rd r8 ?_
      refine hs_k (x := Int32.ofNat 1) (p := 59) (by decide +kernel) ?_
      refine hs_iaddn (p := 60) (by decide +kernel) ?_
      have hHo := hH
      refine hf_put (T := et_TT) (t := 7) (ci := 5) (f := 8) (p := 63) (ty := .int) (by decide +kernel) rfl rfl rfl rfl rfl hH k_rd (hi_nv (by omega) (by omega)) (fun G60 hH x60 e60 => ?_)
      have hJ := hJ.xs hHo k_rd x60 (fun a j hs => ⟨fun _ => by first | omega | (dsimp only at hs; omega), fun k6 => by have e9 : a = rd := (by first | omega | (dsimp only at hs; omega)); rw [e9, k_rd] at k6; exact nomatch k6⟩)
      have r2 := (x60.2 rd 2 lt_rd (fun h => absurd h.2 (by decide))).trans r2
      have lt_rd := Nat.lt_of_lt_of_le lt_rd x60.1
      have hX := hX.tr x60 (fun b j hb h => by first | omega | (dsimp only at h ⊢; omega) | (dsimp only at h; omega) | (dsimp only; omega))
      have m60 := x60.1
      have htk := htk.xf hHo k_rd et_ex.rf x60 (fun a j hs => .inl (by first | omega | (dsimp only at hs; omega)))
      have e60 : et_pl (eg_at G60 rd) 8 = some (.int (Int32.ofNat (x + 1))) := e60
      refine hs_iload (i := 2) (p := 64) (by decide +kernel) rfl ?_
      refine hs_if1 (c := .ne) (t := 107) (f := 67) (by decide +kernel) (show ¬ Int32.ofNat 1 = 0 by decide) ?_
      have hHo := hH
      refine hf_newNJ (p := 110) (by decide +kernel) (by omega) (by omega) hH (fun KK107 GG107 hxx107 x107 hH k_G60_2 mm107 hf107 kj107 => ?_)
      have hJ := hJ.nw hHo k_rd x107 hf107.2.2.2.1 kj107
      have e60 := (x107.2 rd 8 lt_rd (fun h => h)).trans e60
      have r2 := (x107.2 rd 2 lt_rd (fun h => h)).trans r2
      have lt_rd := Nat.lt_of_lt_of_le lt_rd x107.1
      have hX := hX.tr x107 (fun b j hb h => h.elim)
      have m107 := x107.1
      have htk := htk.xf hHo k_rd hxx107 x107 (fun a j hs => absurd hs id)
      have k_rd := hxx107 _ _ k_rd
      have hx0 := hx0.tr hxx107
      have lt_G60_2 : G60.2 < GG107.2 := by omega
      obtain ⟨n1_107, n2_107, n3_107, n4_107, n5_107⟩ := hf107
      refine hs_dup1 (p := 111) (by decide +kernel) ?_
      refine hs_k (x := Int32.ofNat 2) (p := 112) (by decide +kernel) ?_
      have hHo := hH
      refine hs_callp (mi := 61) (na := 1) (lk := 4) (lm := 2) (L0 := eg_en (eg_mL 61) [.ref G60.2, .int (Int32.ofNat 2)]) (by decide +kernel) rfl rfl rfl rfl rfl (by rw [show eg_mL 61 = 2 from by decide +kernel]; first | done | rfl) ?_
      refine (fc_nod hH k_G60_2).mono (fun u hu => xw_cb hu (fun G112 v112 hH x112 hP112 => ?_))
      have hJ := hJ.xs hHo k_rd x112 (fun a j hs => ⟨fun e9 => absurd (hs.1.symm.trans e9) (hi_ne k_G60_2 k_rd (by decide)), fun _ => by have h9 := hs.2; omega⟩)
      have e60 := (x112.2 rd 8 lt_rd (fun h => (hi_ne k_rd k_G60_2 (by decide)) h.1)).trans e60
      have r2 := (x112.2 rd 2 lt_rd (fun h => (hi_ne k_rd k_G60_2 (by decide)) h.1)).trans r2
      have n1_107 := (x112.2 G60.2 1 lt_G60_2 (fun h => absurd h.2 (by decide))).trans n1_107
      have n2_107 := (x112.2 G60.2 2 lt_G60_2 (fun h => absurd h.2 (by decide))).trans n2_107
      have n3_107 := (x112.2 G60.2 3 lt_G60_2 (fun h => absurd h.2 (by decide))).trans n3_107
      have n4_107 := (x112.2 G60.2 4 lt_G60_2 (fun h => absurd h.2 (by decide))).trans n4_107
      have n5_107 := (x112.2 G60.2 5 lt_G60_2 (fun h => absurd h.2 (by decide))).trans n5_107
      have lt_rd := Nat.lt_of_lt_of_le lt_rd x112.1
      have lt_G60_2 := Nat.lt_of_lt_of_le lt_G60_2 x112.1
      have hX := hX.tr x112 (fun b j hb h => by first | omega | (dsimp only at h ⊢; omega) | (dsimp only at h; omega) | (dsimp only; omega))
      have m112 := x112.1
      have htk := htk.xf hHo k_rd et_ex.rf x112 (fun a j hs => .inr (.inl (by have e := hs.1; rw [e]; exact k_G60_2)))
      obtain ⟨rfl, e112⟩ := hP112
      show et_go none _ 77 115 _ [.ref G60.2] _ _ _ _
      refine hs_astore (i := 3) (p := 116) (by decide +kernel) (Nat.le_of_ble_eq_true rfl) ?_
      refine hs_aload (i := 3) (p := 117) (by decide +kernel) rfl ?_
      refine hs_aload (i := 0) (p := 118) (by decide +kernel) rfl ?_
      refine hs_iload (i := 1) (p := 119) (by decide +kernel) rfl ?_
      refine hs_k (x := Int32.ofNat 1) (p := 120) (by decide +kernel) ?_
      refine hs_iaddn (p := 121) (by decide +kernel) ?_
      have hHo := hH
      refine ht_callv (T := et_TT) (t := 7) (mi := 77) (na := 1) (ci := 5) (lk := 4) (lm := 4) (L0 := eg_en (eg_mL 77) [.ref rd, .int (Int32.ofNat (dep + 1))]) (by decide +kernel) rfl hH k_rd rfl rfl rfl rfl rfl (by rw [show eg_mL 77 = 4 from by decide +kernel]; first | done | rfl) ?_
      refine (((pp_ag m1).1 _ _ _ _ _ _ hH k_rd e60 (by omega) (by omega) (by omega)).and (hA _ _ _ _ _ _ _ hH k_rd htk htl e60 (by omega) r2 (by omega) (by omega) hJ)).mono (fun u hu => fz_cbJ (t := 0) (by decide) hu (fun K121 G121 v121 c121 s121 hxx121 hH x121 hc121 hs121 hm121 hJ => ?_))
      have x121 := rx_in x121
      have n1_107 := (x121.2 G60.2 1 lt_G60_2 (fun h => Or.elim h (fun h => (hi_ne k_G60_2 k_rd (by decide)) h.1) (fun h => (hi_ne k_G60_2 k_rd (by decide)) h.1))).trans n1_107
      have n2_107 := (x121.2 G60.2 2 lt_G60_2 (fun h => Or.elim h (fun h => (hi_ne k_G60_2 k_rd (by decide)) h.1) (fun h => (hi_ne k_G60_2 k_rd (by decide)) h.1))).trans n2_107
      have n3_107 := (x121.2 G60.2 3 lt_G60_2 (fun h => Or.elim h (fun h => (hi_ne k_G60_2 k_rd (by decide)) h.1) (fun h => (hi_ne k_G60_2 k_rd (by decide)) h.1))).trans n3_107
      have n4_107 := (x121.2 G60.2 4 lt_G60_2 (fun h => Or.elim h (fun h => (hi_ne k_G60_2 k_rd (by decide)) h.1) (fun h => (hi_ne k_G60_2 k_rd (by decide)) h.1))).trans n4_107
      have n5_107 := (x121.2 G60.2 5 lt_G60_2 (fun h => Or.elim h (fun h => (hi_ne k_G60_2 k_rd (by decide)) h.1) (fun h => (hi_ne k_G60_2 k_rd (by decide)) h.1))).trans n5_107
      have e112 := (x121.2 G60.2 0 lt_G60_2 (fun h => Or.elim h (fun h => (hi_ne k_G60_2 k_rd (by decide)) h.1) (fun h => (hi_ne k_G60_2 k_rd (by decide)) h.1))).trans e112
      have lt_rd := Nat.lt_of_lt_of_le lt_rd x121.1
      have lt_G60_2 := Nat.lt_of_lt_of_le lt_G60_2 x121.1
      have hX := hX.tr x121 (fun b j hb h => by first | omega | (dsimp only at h ⊢; omega) | (dsimp only at h; omega) | (dsimp only; omega))
      have m121 := x121.1
      have htk := htk.xf hHo k_rd hxx121 x121 (fun a j hs => .inl (by first | omega | (dsimp only at hs; omega)))
      have k_rd := hxx121 _ _ k_rd
      have k_G60_2 := hxx121 _ _ k_G60_2
      have hx0 := hx0.tr hxx121
      rcases sp121 : sp_A m1 (L.drop (x + 1)) with _ | ⟨f121, r121⟩
      · rw [sp121] at hm121
        obtain ⟨rfl, q121, hq121, r2⟩ := hm121
        show et_go none _ 77 124 _ [.null, .ref G60.2] _ _ _ _
        have hHo := hH
        refine hf_put (T := et_TT) (t := 6) (ci := 4) (f := 2) (p := 127) (ty := (.object "KnobEye$Node")) (by decide +kernel) rfl rfl rfl rfl rfl hH k_G60_2 (.inl ⟨by decide, rfl⟩) (fun G124 hH x124 e124 => ?_)
        have hJ := hJ.xs hHo k_rd x124 (fun a j hs => ⟨fun e9 => absurd (hs.1.symm.trans e9) (hi_ne k_G60_2 k_rd (by decide)), fun _ => by have h9 := hs.2; omega⟩)
        have n1_107 := (x124.2 G60.2 1 lt_G60_2 (fun h => absurd h.2 (by decide))).trans n1_107
        have n3_107 := (x124.2 G60.2 3 lt_G60_2 (fun h => absurd h.2 (by decide))).trans n3_107
        have n4_107 := (x124.2 G60.2 4 lt_G60_2 (fun h => absurd h.2 (by decide))).trans n4_107
        have n5_107 := (x124.2 G60.2 5 lt_G60_2 (fun h => absurd h.2 (by decide))).trans n5_107
        have e112 := (x124.2 G60.2 0 lt_G60_2 (fun h => absurd h.2 (by decide))).trans e112
        have r2 := (x124.2 rd 2 lt_rd (fun h => (hi_ne k_rd k_G60_2 (by decide)) h.1)).trans r2
        have lt_rd := Nat.lt_of_lt_of_le lt_rd x124.1
        have lt_G60_2 := Nat.lt_of_lt_of_le lt_G60_2 x124.1
        have hX := hX.tr x124 (fun b j hb h => by first | omega | (dsimp only at h ⊢; omega) | (dsimp only at h; omega) | (dsimp only; omega))
        have m124 := x124.1
        have htk := htk.xf hHo k_rd et_ex.rf x124 (fun a j hs => .inr (.inl (by have e := hs.1; rw [e]; exact k_G60_2)))
        refine hs_aload (i := 3) (p := 128) (by decide +kernel) rfl ?_
        refine hf_get (T := et_TT) (t := 6) (ci := 4) (f := 2) (p := 131) (by decide +kernel) rfl hH k_G60_2 e124 ?_
        refine hs_ifnonnull0 (p := 134) (by decide +kernel) ?_
        refine hs_nul (p := 135) (by decide +kernel) ?_
        refine hs_goto (p := 139) (by decide +kernel) ?_
        refine hs_aretN (cn := "KnobEye$Node") (by decide +kernel) ?_
        refine ⟨_, _, _, _, _, rfl, hx0, hH, rx_out hX, ?_, hJ⟩
        rw [show sp_A (m1 + 1) (L.drop x) = none from (congrFun hAC.1 _).trans (sp_at_nn i4 ((congrFun (hAC.2 m1 rfl).1 _).trans sp121))]
        exact ⟨rfl, _, (by omega), r2⟩
      · rw [sp121] at hm121
        obtain ⟨y121, b121, rfl, hy121, hz121, r8, r2, rfl, k_b121, R121⟩ := hm121
        have lt_b121 := (hH.2.2 _ _ k_b121).1
        obtain ⟨R121, nb121⟩ := R121
        have Rb121 := R121.in
        show et_go none _ 77 124 _ [.ref b121, .ref G60.2] _ _ _ _
        have hHo := hH
        refine hf_put (T := et_TT) (t := 6) (ci := 4) (f := 2) (p := 127) (ty := (.object "KnobEye$Node")) (by decide +kernel) rfl rfl rfl rfl rfl hH k_G60_2 (.inr ⟨by decide, _, rfl, k_b121⟩) (fun G124 hH x124 e124 => ?_)
        have hJ := hJ.xs hHo k_rd x124 (fun a j hs => ⟨fun e9 => absurd (hs.1.symm.trans e9) (hi_ne k_G60_2 k_rd (by decide)), fun _ => by have h9 := hs.2; omega⟩)
        have n1_107 := (x124.2 G60.2 1 lt_G60_2 (fun h => absurd h.2 (by decide))).trans n1_107
        have n3_107 := (x124.2 G60.2 3 lt_G60_2 (fun h => absurd h.2 (by decide))).trans n3_107
        have n4_107 := (x124.2 G60.2 4 lt_G60_2 (fun h => absurd h.2 (by decide))).trans n4_107
        have n5_107 := (x124.2 G60.2 5 lt_G60_2 (fun h => absurd h.2 (by decide))).trans n5_107
        have e112 := (x124.2 G60.2 0 lt_G60_2 (fun h => absurd h.2 (by decide))).trans e112
        have nb121 := (x124.2 b121 1 lt_b121 (fun h => (show ¬ b121 = G60.2 by omega) h.1)).trans nb121
        have r2 := (x124.2 rd 2 lt_rd (fun h => (hi_ne k_rd k_G60_2 (by decide)) h.1)).trans r2
        have r8 := (x124.2 rd 8 lt_rd (fun h => (hi_ne k_rd k_G60_2 (by decide)) h.1)).trans r8
        have lt_rd := Nat.lt_of_lt_of_le lt_rd x124.1
        have lt_G60_2 := Nat.lt_of_lt_of_le lt_G60_2 x124.1
        have lt_b121 := Nat.lt_of_lt_of_le lt_b121 x124.1
        have hX := hX.tr x124 (fun b j hb h => by first | omega | (dsimp only at h ⊢; omega) | (dsimp only at h; omega) | (dsimp only; omega))
        have m124 := x124.1
        have htk := htk.xf hHo k_rd et_ex.rf x124 (fun a j hs => .inr (.inl (by have e := hs.1; rw [e]; exact k_G60_2)))
        have R121 := R121.fr (x124.agf (lo := G112.2) (hi := G121.2) (by omega) (fun a j h1 h2 hs => by first | omega | (dsimp only at hs; omega))).ag
        refine hs_aload (i := 3) (p := 128) (by decide +kernel) rfl ?_
        refine hf_get (T := et_TT) (t := 6) (ci := 4) (f := 2) (p := 131) (by decide +kernel) rfl hH k_G60_2 e124 ?_
        refine hs_ifnonnull1 (p := 138) (by decide +kernel) ?_
        refine hs_aload (i := 3) (p := 139) (by decide +kernel) rfl ?_
        refine hs_aret (cn := "KnobEye$Node") (by decide +kernel) ?_
        refine ⟨_, _, _, _, _, rfl, hx0, hH, rx_out hX, ?_, hJ⟩
        rw [show sp_A (m1 + 1) (L.drop x) = some (_, L.drop y121) from (congrFun hAC.1 _).trans (sp_at_ny i4 ((congrFun (hAC.2 m1 rfl).1 _).trans sp121))]
        exact ⟨y121, _, rfl, (by omega), (by omega), r8, r2, rfl, k_G60_2, ⟨(dn_not R121 (by omega) (by omega) e112 e124 nb121).up (by omega), n1_107⟩⟩
    · refine hs_aload (i := 0) (p := 49) (by decide +kernel) rfl ?_
      have hHo := hH
      refine ht_callv (T := et_TT) (t := 7) (mi := 76) (na := 0) (ci := 5) (lk := 4) (lm := 1) (L0 := eg_en (eg_mL 76) [.ref rd]) (by decide +kernel) rfl hH k_rd rfl rfl rfl rfl rfl (by rw [show eg_mL 76 = 1 from by decide +kernel]; first | done | rfl) ?_
      refine (fc_fail hH k_rd htk htl r8 (by omega) r2).mono (fun u hu => xw_cb hu (fun G49 v49 hH x49 hP49 => ?_))
      have hJ := hJ.xs hHo k_rd x49 (fun a j hs => ⟨fun _ => by first | omega | (dsimp only at hs; omega), fun k6 => by have e9 : a = rd := (by first | omega | (dsimp only at hs; omega)); rw [e9, k_rd] at k6; exact nomatch k6⟩)
      have r8 := (x49.2 rd 8 lt_rd (fun h => absurd h.2 (by decide))).trans r8
      have lt_rd := Nat.lt_of_lt_of_le lt_rd x49.1
      have hX := hX.tr x49 (fun b j hb h => by first | omega | (dsimp only at h ⊢; omega) | (dsimp only at h; omega) | (dsimp only; omega))
      have m49 := x49.1
      have htk := htk.xf hHo k_rd et_ex.rf x49 (fun a j hs => .inl (by first | omega | (dsimp only at hs; omega)))
      obtain ⟨rfl, q49, hq49, e49⟩ := hP49
      show et_go none _ 77 52 _ [.null] _ _ _ _
      refine hs_aretN (cn := "KnobEye$Node") (by decide +kernel) ?_
      refine ⟨_, _, _, _, _, rfl, hx0, hH, rx_out hX, ?_, hJ⟩
      rw [show sp_A m (L.drop x) = none from (congrFun hAC.1 _).trans (by rw [show m = 0 from by omega]; exact sp_at_0 (.inl i4))]
      exact ⟨rfl, _, (by omega), e49⟩
  · rw [if_neg i4]
    show et_go none _ 77 7 _ [.int (Int32.ofNat 0)] _ _ _ _
    refine hs_istore (i := 2) (p := 8) (by decide +kernel) (Nat.le_of_ble_eq_true rfl) ?_
    refine hs_iload (i := 2) (p := 9) (by decide +kernel) rfl ?_
    refine hs_if0 (c := .ne) (t := 42) (f := 12) (by decide +kernel) (show ¬ (¬ Int32.ofNat 0 = 0) by decide) ?_
    refine hs_aload (i := 0) (p := 13) (by decide +kernel) rfl ?_
    refine hs_gst (v := Value.ref 23) (p := 16) (by decide +kernel) ?_
    refine ht_callv (T := et_TT) (t := 7) (mi := 78) (na := 1) (ci := 5) (lk := 4) (lm := 2) (L0 := eg_en (eg_mL 78) [.ref rd, .ref 23]) (by decide +kernel) rfl hH k_rd rfl rfl rfl rfl rfl (by rw [show eg_mL 78 = 2 from by decide +kernel]; first | done | rfl) ?_
    refine (fc_is hH k_rd htk htl r8 (by omega) (wd := 23) (by decide)).mono (fun u hu => xp_cb hu ?_)
    by_cases i16 : wat L x = 23
    · rw [if_pos i16]
      have il16 : x < L.length := wat_i (by rw [i16]; decide)
      show et_go none _ 77 19 _ [.int (Int32.ofNat 1)] _ _ _ _
      refine hs_if1 (c := .ne) (t := 42) (f := 22) (by decide +kernel) (show ¬ Int32.ofNat 1 = 0 by decide) ?_
      refine hs_iload (i := 1) (p := 43) (by decide +kernel) rfl ?_
      refine hs_k (x := Int32.ofNat 6) (p := 45) (by decide +kernel) ?_
      refine hs_br2n (c := .lt) (t := 53) (f := 48) (by decide +kernel) (by omega) (by omega) (fun (c45 : dep < 6) => ?_) (fun (c45 : ¬ (dep < 6)) => ?_)
      · obtain ⟨m1, rfl⟩ : ∃ m1, m = m1 + 1 := ⟨m - 1, by omega⟩
        obtain ⟨hA, hG⟩ := ih m1 rfl
        refine hs_aload (i := 0) (p := 54) (by decide +kernel) rfl ?_
        refine hs_dup1 (p := 55) (by decide +kernel) ?_
        refine hf_get (T := et_TT) (t := 7) (ci := 5) (f := 8) (p := 58) (by decide +kernel) rfl hH k_rd r8 ?_
        refine hs_k (x := Int32.ofNat 1) (p := 59) (by decide +kernel) ?_
        refine hs_iaddn (p := 60) (by decide +kernel) ?_
        have hHo := hH
        refine hf_put (T := et_TT) (t := 7) (ci := 5) (f := 8) (p := 63) (ty := .int) (by decide +kernel) rfl rfl rfl rfl rfl hH k_rd (hi_nv (by omega) (by omega)) (fun G60 hH x60 e60 => ?_)
        have hJ := hJ.xs hHo k_rd x60 (fun a j hs => ⟨fun _ => by first | omega | (dsimp only at hs; omega), fun k6 => by have e9 : a = rd := (by first | omega | (dsimp only at hs; omega)); rw [e9, k_rd] at k6; exact nomatch k6⟩)
        have r2 := (x60.2 rd 2 lt_rd (fun h => absurd h.2 (by decide))).trans r2
        have lt_rd := Nat.lt_of_lt_of_le lt_rd x60.1
        have hX := hX.tr x60 (fun b j hb h => by first | omega | (dsimp only at h ⊢; omega) | (dsimp only at h; omega) | (dsimp only; omega))
        have m60 := x60.1
        have htk := htk.xf hHo k_rd et_ex.rf x60 (fun a j hs => .inl (by first | omega | (dsimp only at hs; omega)))
        have e60 : et_pl (eg_at G60 rd) 8 = some (.int (Int32.ofNat (x + 1))) := e60
        refine hs_iload (i := 2) (p := 64) (by decide +kernel) rfl ?_
        refine hs_if0 (c := .ne) (t := 107) (f := 67) (by decide +kernel) (show ¬ (¬ Int32.ofNat 0 = 0) by decide) ?_
        refine hs_aload (i := 0) (p := 68) (by decide +kernel) rfl ?_
        refine hs_k (x := Int32.ofNat 0) (p := 69) (by decide +kernel) ?_
        refine hs_iload (i := 1) (p := 70) (by decide +kernel) rfl ?_
        refine hs_k (x := Int32.ofNat 1) (p := 71) (by decide +kernel) ?_
        refine hs_iaddn (p := 72) (by decide +kernel) ?_
        have hHo := hH
        refine ht_callv (T := et_TT) (t := 7) (mi := 75) (na := 2) (ci := 5) (lk := 4) (lm := 8) (L0 := eg_en (eg_mL 75) [.ref rd, .int (Int32.ofNat 0), .int (Int32.ofNat (dep + 1))]) (by decide +kernel) rfl hH k_rd rfl rfl rfl rfl rfl (by rw [show eg_mL 75 = 8 from by decide +kernel]; first | done | rfl) ?_
        refine (((pp_ag m1).2 _ _ _ _ _ _ hH k_rd e60 (by omega) (by omega) (by omega)).and (hG _ _ _ _ _ _ _ hH k_rd htk htl e60 (by omega) r2 (by omega) (by omega) hJ)).mono (fun u hu => fz_cbJ (t := 2) (by decide) hu (fun K72 G72 v72 c72 s72 hxx72 hH x72 hc72 hs72 hm72 hJ => ?_))
        have x72 := rx_in x72
        have lt_rd := Nat.lt_of_lt_of_le lt_rd x72.1
        have hX := hX.tr x72 (fun b j hb h => by first | omega | (dsimp only at h ⊢; omega) | (dsimp only at h; omega) | (dsimp only; omega))
        have m72 := x72.1
        have htk := htk.xf hHo k_rd hxx72 x72 (fun a j hs => .inl (by first | omega | (dsimp only at hs; omega)))
        have k_rd := hxx72 _ _ k_rd
        have hx0 := hx0.tr hxx72
        rcases sp72 : sp_C m1 (L.drop (x + 1)) with _ | ⟨f72, r72⟩
        · rw [sp72] at hm72
          obtain ⟨rfl, q72, hq72, r2⟩ := hm72
          show et_go none _ 77 75 _ [.null] _ _ _ _
          refine hs_astore0 (i := 3) (p := 76) (by decide +kernel) (Nat.le_of_ble_eq_true rfl) ?_
          refine hs_aload0 (i := 3) (p := 77) (by decide +kernel) rfl ?_
          refine hs_ifnull0 (p := 90) (by decide +kernel) ?_
          refine hs_aload (i := 0) (p := 91) (by decide +kernel) rfl ?_
          have hHo := hH
          refine ht_callv (T := et_TT) (t := 7) (mi := 76) (na := 0) (ci := 5) (lk := 4) (lm := 1) (L0 := eg_en (eg_mL 76) [.ref rd]) (by decide +kernel) rfl hH k_rd rfl rfl rfl rfl rfl (by rw [show eg_mL 76 = 1 from by decide +kernel]; first | done | rfl) ?_
          refine (fc_failw hH k_rd (by omega) r2).mono (fun u hu => xw_cb hu (fun G91 v91 hH x91 hP91 => ?_))
          have hJ := hJ.xs hHo k_rd x91 (fun a j hs => ⟨fun _ => by first | omega | (dsimp only at hs; omega), fun k6 => by have e9 : a = rd := (by first | omega | (dsimp only at hs; omega)); rw [e9, k_rd] at k6; exact nomatch k6⟩)
          have lt_rd := Nat.lt_of_lt_of_le lt_rd x91.1
          have hX := hX.tr x91 (fun b j hb h => by first | omega | (dsimp only at h ⊢; omega) | (dsimp only at h; omega) | (dsimp only; omega))
          have m91 := x91.1
          have htk := htk.xf hHo k_rd et_ex.rf x91 (fun a j hs => .inl (by first | omega | (dsimp only at hs; omega)))
          obtain ⟨rfl, q91, hq91, e91⟩ := hP91
          show et_go none _ 77 94 _ [.null] _ _ _ _
          refine hs_aretN (cn := "KnobEye$Node") (by decide +kernel) ?_
          refine ⟨_, _, _, _, _, rfl, hx0, hH, rx_out hX, ?_, hJ⟩
          rw [show sp_A (m1 + 1) (L.drop x) = none from (congrFun hAC.1 _).trans (sp_at_on i16 ((congrFun (hAC.2 m1 rfl).2 _).trans sp72))]
          exact ⟨rfl, _, (by omega), e91⟩
        · rw [sp72] at hm72
          obtain ⟨y72, b72, rfl, hy72, hz72, r8, r2, rfl, k_b72, R72⟩ := hm72
          have lt_b72 := (hH.2.2 _ _ k_b72).1
          obtain ⟨R72, nb72⟩ := R72
          have Rb72 := R72.in
          show et_go none _ 77 75 _ [.ref b72] _ _ _ _
          refine hs_astore (i := 3) (p := 76) (by decide +kernel) (Nat.le_of_ble_eq_true rfl) ?_
          refine hs_aload (i := 3) (p := 77) (by decide +kernel) rfl ?_
          refine hs_ifnull1 (p := 80) (by decide +kernel) ?_
          refine hs_aload (i := 0) (p := 81) (by decide +kernel) rfl ?_
          refine hs_gst (v := Value.ref 24) (p := 84) (by decide +kernel) ?_
          refine ht_callv (T := et_TT) (t := 7) (mi := 78) (na := 1) (ci := 5) (lk := 4) (lm := 2) (L0 := eg_en (eg_mL 78) [.ref rd, .ref 24]) (by decide +kernel) rfl hH k_rd rfl rfl rfl rfl rfl (by rw [show eg_mL 78 = 2 from by decide +kernel]; first | done | rfl) ?_
          refine (fc_is hH k_rd htk htl r8 (by omega) (wd := 24) (by decide)).mono (fun u hu => xp_cb hu ?_)
          by_cases i84 : wat L y72 = 24
          · rw [if_pos i84]
            have il84 : y72 < L.length := wat_i (by rw [i84]; decide)
            show et_go none _ 77 87 _ [.int (Int32.ofNat 1)] _ _ _ _
            refine hs_if1 (c := .ne) (t := 95) (f := 90) (by decide +kernel) (show ¬ Int32.ofNat 1 = 0 by decide) ?_
            refine hs_aload (i := 0) (p := 96) (by decide +kernel) rfl ?_
            refine hs_dup1 (p := 97) (by decide +kernel) ?_
            refine hf_get (T := et_TT) (t := 7) (ci := 5) (f := 8) (p := 100) (by decide +kernel) rfl hH k_rd r8 ?_
            refine hs_k (x := Int32.ofNat 1) (p := 101) (by decide +kernel) ?_
            refine hs_iaddn (p := 102) (by decide +kernel) ?_
            have hHo := hH
            refine hf_put (T := et_TT) (t := 7) (ci := 5) (f := 8) (p := 105) (ty := .int) (by decide +kernel) rfl rfl rfl rfl rfl hH k_rd (hi_nv (by omega) (by omega)) (fun G102 hH x102 e102 => ?_)
            have hJ := hJ.xs hHo k_rd x102 (fun a j hs => ⟨fun _ => by first | omega | (dsimp only at hs; omega), fun k6 => by have e9 : a = rd := (by first | omega | (dsimp only at hs; omega)); rw [e9, k_rd] at k6; exact nomatch k6⟩)
            have nb72 := (x102.2 b72 1 lt_b72 (fun h => (hi_ne k_b72 k_rd (by decide)) h.1)).trans nb72
            have r2 := (x102.2 rd 2 lt_rd (fun h => absurd h.2 (by decide))).trans r2
            have lt_rd := Nat.lt_of_lt_of_le lt_rd x102.1
            have lt_b72 := Nat.lt_of_lt_of_le lt_b72 x102.1
            have hX := hX.tr x102 (fun b j hb h => by first | omega | (dsimp only at h ⊢; omega) | (dsimp only at h; omega) | (dsimp only; omega))
            have m102 := x102.1
            have htk := htk.xf hHo k_rd et_ex.rf x102 (fun a j hs => .inl (by first | omega | (dsimp only at hs; omega)))
            have R72 := R72.fr (x102.agf (lo := G60.2) (hi := G72.2) (by omega) (fun a j h1 h2 hs => by first | omega | (dsimp only at hs; omega))).ag
            have e102 : et_pl (eg_at G102 rd) 8 = some (.int (Int32.ofNat (y72 + 1))) := e102
            refine hs_aload (i := 3) (p := 106) (by decide +kernel) rfl ?_
            refine hs_aret (cn := "KnobEye$Node") (by decide +kernel) ?_
            refine ⟨_, _, _, _, _, rfl, hx0, hH, rx_out hX, ?_, hJ⟩
            rw [show sp_A (m1 + 1) (L.drop x) = some (_, L.drop (y72 + 1)) from (congrFun hAC.1 _).trans (sp_at_oy i16 ((congrFun (hAC.2 m1 rfl).2 _).trans sp72) i84)]
            exact ⟨y72 + 1, _, rfl, (by omega), (by omega), e102, r2, rfl, k_b72, ⟨(R72.wk (by omega) (by omega)).up (by omega), nb72⟩⟩
          · rw [if_neg i84]
            show et_go none _ 77 87 _ [.int (Int32.ofNat 0)] _ _ _ _
            refine hs_if0 (c := .ne) (t := 95) (f := 90) (by decide +kernel) (show ¬ (¬ Int32.ofNat 0 = 0) by decide) ?_
            refine hs_aload (i := 0) (p := 91) (by decide +kernel) rfl ?_
            have hHo := hH
            refine ht_callv (T := et_TT) (t := 7) (mi := 76) (na := 0) (ci := 5) (lk := 4) (lm := 1) (L0 := eg_en (eg_mL 76) [.ref rd]) (by decide +kernel) rfl hH k_rd rfl rfl rfl rfl rfl (by rw [show eg_mL 76 = 1 from by decide +kernel]; first | done | rfl) ?_
            refine (fc_fail hH k_rd htk htl r8 (by omega) r2).mono (fun u hu => xw_cb hu (fun G91 v91 hH x91 hP91 => ?_))
            have hJ := hJ.xs hHo k_rd x91 (fun a j hs => ⟨fun _ => by first | omega | (dsimp only at hs; omega), fun k6 => by have e9 : a = rd := (by first | omega | (dsimp only at hs; omega)); rw [e9, k_rd] at k6; exact nomatch k6⟩)
            have nb72 := (x91.2 b72 1 lt_b72 (fun h => (hi_ne k_b72 k_rd (by decide)) h.1)).trans nb72
            have r8 := (x91.2 rd 8 lt_rd (fun h => absurd h.2 (by decide))).trans r8
            have lt_rd := Nat.lt_of_lt_of_le lt_rd x91.1
            have lt_b72 := Nat.lt_of_lt_of_le lt_b72 x91.1
            have hX := hX.tr x91 (fun b j hb h => by first | omega | (dsimp only at h ⊢; omega) | (dsimp only at h; omega) | (dsimp only; omega))
            have m91 := x91.1
            have htk := htk.xf hHo k_rd et_ex.rf x91 (fun a j hs => .inl (by first | omega | (dsimp only at hs; omega)))
            have R72 := R72.fr (x91.agf (lo := G60.2) (hi := G72.2) (by omega) (fun a j h1 h2 hs => by first | omega | (dsimp only at hs; omega))).ag
            obtain ⟨rfl, q91, hq91, e91⟩ := hP91
            show et_go none _ 77 94 _ [.null] _ _ _ _
            refine hs_aretN (cn := "KnobEye$Node") (by decide +kernel) ?_
            refine ⟨_, _, _, _, _, rfl, hx0, hH, rx_out hX, ?_, hJ⟩
            rw [show sp_A (m1 + 1) (L.drop x) = none from (congrFun hAC.1 _).trans (sp_at_oc i16 ((congrFun (hAC.2 m1 rfl).2 _).trans sp72) i84)]
            exact ⟨rfl, _, (by omega), e91⟩
      · refine hs_aload (i := 0) (p := 49) (by decide +kernel) rfl ?_
        have hHo := hH
        refine ht_callv (T := et_TT) (t := 7) (mi := 76) (na := 0) (ci := 5) (lk := 4) (lm := 1) (L0 := eg_en (eg_mL 76) [.ref rd]) (by decide +kernel) rfl hH k_rd rfl rfl rfl rfl rfl (by rw [show eg_mL 76 = 1 from by decide +kernel]; first | done | rfl) ?_
        refine (fc_fail hH k_rd htk htl r8 (by omega) r2).mono (fun u hu => xw_cb hu (fun G49 v49 hH x49 hP49 => ?_))
        have hJ := hJ.xs hHo k_rd x49 (fun a j hs => ⟨fun _ => by first | omega | (dsimp only at hs; omega), fun k6 => by have e9 : a = rd := (by first | omega | (dsimp only at hs; omega)); rw [e9, k_rd] at k6; exact nomatch k6⟩)
        have r8 := (x49.2 rd 8 lt_rd (fun h => absurd h.2 (by decide))).trans r8
        have lt_rd := Nat.lt_of_lt_of_le lt_rd x49.1
        have hX := hX.tr x49 (fun b j hb h => by first | omega | (dsimp only at h ⊢; omega) | (dsimp only at h; omega) | (dsimp only; omega))
        have m49 := x49.1
        have htk := htk.xf hHo k_rd et_ex.rf x49 (fun a j hs => .inl (by first | omega | (dsimp only at hs; omega)))
        obtain ⟨rfl, q49, hq49, e49⟩ := hP49
        show et_go none _ 77 52 _ [.null] _ _ _ _
        refine hs_aretN (cn := "KnobEye$Node") (by decide +kernel) ?_
        refine ⟨_, _, _, _, _, rfl, hx0, hH, rx_out hX, ?_, hJ⟩
        rw [show sp_A m (L.drop x) = none from (congrFun hAC.1 _).trans (by rw [show m = 0 from by omega]; exact sp_at_0 (.inr i16))]
        exact ⟨rfl, _, (by omega), e49⟩
    · rw [if_neg i16]
      show et_go none _ 77 19 _ [.int (Int32.ofNat 0)] _ _ _ _
      refine hs_if0 (c := .ne) (t := 42) (f := 22) (by decide +kernel) (show ¬ (¬ Int32.ofNat 0 = 0) by decide) ?_
      refine hs_aload (i := 0) (p := 23) (by decide +kernel) rfl ?_
      refine hs_k (x := Int32.ofNat 1) (p := 24) (by decide +kernel) ?_
      refine ht_callv (T := et_TT) (t := 7) (mi := 79) (na := 1) (ci := 5) (lk := 4) (lm := 2) (L0 := eg_en (eg_mL 79) [.ref rd, .int (Int32.ofNat 1)]) (by decide +kernel) rfl hH k_rd rfl rfl rfl rfl rfl (by rw [show eg_mL 79 = 2 from by decide +kernel]; first | done | rfl) ?_
      refine (fc_wh1 hH k_rd htk htl r8 (by omega)).mono (fun u hu => xp_cb hu ?_)
      by_cases w24 : sp_tw (wat L x) = true
      · rw [if_pos w24]
        obtain ⟨wn24, hwn, -⟩ := wat_t (L := L) (x := x) rfl (fun h => by rw [h] at w24; exact absurd w24 (by decide))
        have il24 : x < L.length := wat_i (fun h => by rw [h] at w24; exact absurd w24 (by decide))
        show et_go none _ 77 27 _ [.ref (wat L x)] _ _ _ _
        refine hs_ifnonnull1 (p := 37) (by decide +kernel) ?_
        refine hs_aload (i := 0) (p := 38) (by decide +kernel) rfl ?_
        have hHo := hH
        refine ht_callv (T := et_TT) (t := 7) (mi := 82) (na := 0) (ci := 5) (lk := 4) (lm := 2) (L0 := eg_en (eg_mL 82) [.ref rd]) (by decide +kernel) rfl hH k_rd rfl rfl rfl rfl rfl (by rw [show eg_mL 82 = 2 from by decide +kernel]; first | done | rfl) ?_
        refine ((pp_tag hH k_rd r8 (by omega) (by omega) (by omega)).and (fj_tag hH k_rd htk htl r8 (by omega) r2 hJ (wd := wat L x) hwn w24 (by omega))).mono (fun u hu => fz_cbJ (t := 0) (by decide) hu (fun K38 G38 v38 c38 s38 hxx38 hH x38 hc38 hs38 hm38 hJ => ?_))
        have x38 := rx_in x38
        have lt_rd := Nat.lt_of_lt_of_le lt_rd x38.1
        have hX := hX.tr x38 (fun b j hb h => by first | omega | (dsimp only at h ⊢; omega) | (dsimp only at h; omega) | (dsimp only; omega))
        have m38 := x38.1
        have htk := htk.xf hHo k_rd hxx38 x38 (fun a j hs => .inl (by first | omega | (dsimp only at hs; omega)))
        have k_rd := hxx38 _ _ k_rd
        have hx0 := hx0.tr hxx38
        rcases sp38 : sp_tag (wat L x) (L.drop (x + 1)) with _ | ⟨f38, r38⟩
        · rw [sp38] at hm38
          obtain ⟨rfl, q38, hq38, r2⟩ := hm38
          show et_go none _ 77 41 _ [.null] _ _ _ _
          refine hs_aretN (cn := "KnobEye$Node") (by decide +kernel) ?_
          refine ⟨_, _, _, _, _, rfl, hx0, hH, rx_out hX, ?_, hJ⟩
          rw [show sp_A m (L.drop x) = none from (congrFun hAC.1 _).trans ((sp_at_t (n := none) i4 i16 w24).trans sp38)]
          exact ⟨rfl, _, (by omega), r2⟩
        · rw [sp38] at hm38
          obtain ⟨y38, b38, rfl, hy38, hz38, r8, r2, rfl, k_b38, R38⟩ := hm38
          have lt_b38 := (hH.2.2 _ _ k_b38).1
          obtain ⟨R38, nb38⟩ := R38
          have Rb38 := R38.in
          show et_go none _ 77 41 _ [.ref b38] _ _ _ _
          refine hs_aret (cn := "KnobEye$Node") (by decide +kernel) ?_
          refine ⟨_, _, _, _, _, rfl, hx0, hH, rx_out hX, ?_, hJ⟩
          rw [show sp_A m (L.drop x) = some (_, L.drop y38) from (congrFun hAC.1 _).trans ((sp_at_t (n := none) i4 i16 w24).trans sp38)]
          exact ⟨y38, _, rfl, (by omega), (by omega), r8, r2, rfl, k_b38, ⟨(R38.wk (by omega) (by omega)).up (by omega), nb38⟩⟩
      · rw [if_neg w24]
        show et_go none _ 77 27 _ [.null] _ _ _ _
        refine hs_ifnonnull0 (p := 30) (by decide +kernel) ?_
        refine hs_aload (i := 0) (p := 31) (by decide +kernel) rfl ?_
        have hHo := hH
        refine ht_callv (T := et_TT) (t := 7) (mi := 80) (na := 0) (ci := 5) (lk := 4) (lm := 4) (L0 := eg_en (eg_mL 80) [.ref rd]) (by decide +kernel) rfl hH k_rd rfl rfl rfl rfl rfl (by rw [show eg_mL 80 = 4 from by decide +kernel]; first | done | rfl) ?_
        refine ((pp_cmp hH k_rd r8 (by omega) (by omega)).and (fj_cmp hH k_rd htk htl r8 (by omega) r2 hJ (by omega))).mono (fun u hu => fz_cbJ (t := 0) (by decide) hu (fun K31 G31 v31 c31 s31 hxx31 hH x31 hc31 hs31 hm31 hJ => ?_))
        have x31 := rx_in x31
        have lt_rd := Nat.lt_of_lt_of_le lt_rd x31.1
        have hX := hX.tr x31 (fun b j hb h => by first | omega | (dsimp only at h ⊢; omega) | (dsimp only at h; omega) | (dsimp only; omega))
        have m31 := x31.1
        have htk := htk.xf hHo k_rd hxx31 x31 (fun a j hs => .inl (by first | omega | (dsimp only at hs; omega)))
        have k_rd := hxx31 _ _ k_rd
        have hx0 := hx0.tr hxx31
        rcases sp31 : sp_cmp (L.drop x) with _ | ⟨f31, r31⟩
        · rw [sp31] at hm31
          obtain ⟨rfl, q31, hq31, r2⟩ := hm31
          show et_go none _ 77 34 _ [.null] _ _ _ _
          refine hs_goto (p := 41) (by decide +kernel) ?_
          refine hs_aretN (cn := "KnobEye$Node") (by decide +kernel) ?_
          refine ⟨_, _, _, _, _, rfl, hx0, hH, rx_out hX, ?_, hJ⟩
          rw [show sp_A m (L.drop x) = none from (congrFun hAC.1 _).trans ((sp_at_c i4 i16 w24).trans sp31)]
          exact ⟨rfl, _, (by omega), r2⟩
        · rw [sp31] at hm31
          obtain ⟨y31, b31, rfl, hy31, hz31, r8, r2, rfl, k_b31, R31⟩ := hm31
          have lt_b31 := (hH.2.2 _ _ k_b31).1
          obtain ⟨R31, nb31⟩ := R31
          have Rb31 := R31.in
          show et_go none _ 77 34 _ [.ref b31] _ _ _ _
          refine hs_goto (p := 41) (by decide +kernel) ?_
          refine hs_aret (cn := "KnobEye$Node") (by decide +kernel) ?_
          refine ⟨_, _, _, _, _, rfl, hx0, hH, rx_out hX, ?_, hJ⟩
          rw [show sp_A m (L.drop x) = some (_, L.drop y31) from (congrFun hAC.1 _).trans ((sp_at_c i4 i16 w24).trans sp31)]
          exact ⟨y31, _, rfl, (by omega), (by omega), r8, r2, rfl, k_b31, ⟨(R31.wk (by omega) (by omega)).up (by omega), nb31⟩⟩
theorem fj_ag : ∀ m, jA lo0 m ∧ jG lo0 0 2 m (sp_C m)
  | 0 => have h : jA lo0 0 := fj_a (fun m1 h => by omega)
    ⟨h, fj_g0 (fj_g1 h)⟩
  | m + 1 => have h : jA lo0 (m + 1) := fj_a (fun m1 h => by
      obtain rfl : m = m1 := by omega
      exact fj_ag m)
    ⟨h, fj_g0 (fj_g1 h)⟩
end AVC
def tcJ (S : Nat → Nat → Prop) (sp : Option (sp_E → Bool)) (K : et_K) (G : eg_G) (rd lo0 : Nat) (u : eg_O) : Prop := ∃ (K' : et_K) (G' : eg_G) (v : Value) (c s : Nat), u = (.inl (some v), G', c, s) ∧ et_ex K K' ∧ et_H et_TT K' G' ∧ xf S G G' ∧ (((sp = none ∧ v = .null) ∨ ∃ (f : sp_E → Bool) (bb : Nat), sp = some f ∧ v = .ref bb ∧ K' bb = some 6 ∧ G.2 ≤ bb ∧ dn G' 15 G.2 G'.2 bb f) ∧ jR K' G' rd lo0)
section AVD
variable {K : et_K} {G G0 : eg_G} {L : List sp_T} {d2 d rd x lo0 : Nat} {b : Nat → Nat}
theorem fj_tcB (hH : et_H et_TT K G) (k_rd : K rd = some 7) (htk : tk K G rd L) (htl : tl L) (r8 : et_pl (eg_at G rd) 8 = some (.int (Int32.ofNat x))) (hx : x ≤ L.length) (r2 : et_pl (eg_at G rd) 2 = some (.int (-1))) (hJ : jR K G rd lo0) (h34 : ∀ t ∈ L, ¬ t.1 = 34) {x1 : Option Value} : et_go none (d + 25) 66 5 [some (.ref rd), x1, none] [] G 0 0 (tcJ (rxS rd) (sp_one (L.drop x)) K G rd lo0) := by
  have lt_rd := (hH.2.2 _ _ k_rd).1
  have hX : xf (fun b j => (b = rd ∧ (2 ≤ j ∧ j ≤ 3)) ∨ (b = rd ∧ j = 8)) G G := xf.rf
  have hx0 : et_ex K K := et_ex.rf
  have hl4 : L.length ≤ 400 := by obtain ⟨_, _, _, _, _, h, _⟩ := htk; exact h
  have lr0 := (hH.2.2 _ _ k_rd).1
  refine hs_aload (i := 0) (p := 6) (by decide +kernel) rfl ?_
  refine hs_k (x := Int32.ofNat 0) (p := 7) (by decide +kernel) ?_
  refine hs_k (x := Int32.ofNat 0) (p := 8) (by decide +kernel) ?_
  have hHo := hH
  refine ht_callv (T := et_TT) (t := 7) (mi := 75) (na := 2) (ci := 5) (lk := 3) (lm := 8) (L0 := eg_en (eg_mL 75) [.ref rd, .int (Int32.ofNat 0), .int (Int32.ofNat 0)]) (by decide +kernel) rfl hH k_rd rfl rfl rfl rfl rfl (by rw [show eg_mL 75 = 8 from by decide +kernel]; first | done | rfl) ?_
  refine (((pp_ag 6).2 _ _ _ _ _ _ hH k_rd r8 (by omega) (by omega) (by omega)).and ((fj_ag 6).2 _ _ _ _ _ _ _ hH k_rd htk htl r8 (by omega) r2 (by omega) (by omega) hJ)).mono (fun u hu => fz_cbJ (t := 2) (by decide) hu (fun K8 G8 v8 c8 s8 hxx8 hH x8 hc8 hs8 hm8 hJ => ?_))
  have x8 := rx_in x8
  have lt_rd := Nat.lt_of_lt_of_le lt_rd x8.1
  have hX := hX.tr x8 (fun b j hb h => by first | omega | (dsimp only at h ⊢; omega) | (dsimp only at h; omega) | (dsimp only; omega))
  have m8 := x8.1
  have htk := htk.xf hHo k_rd hxx8 x8 (fun a j hs => .inl (by first | omega | (dsimp only at hs; omega)))
  have k_rd := hxx8 _ _ k_rd
  have hx0 := hx0.tr hxx8
  rcases sp8 : sp_C 6 (L.drop x) with _ | ⟨f8, r8⟩
  · rw [sp8] at hm8
    obtain ⟨rfl, q8, hq8, r2⟩ := hm8
    show et_go none _ 66 11 _ [.null] _ _ _ _
    refine hs_astore0 (i := 2) (p := 12) (by decide +kernel) (Nat.le_of_ble_eq_true rfl) ?_
    refine hs_aload0 (i := 2) (p := 13) (by decide +kernel) rfl ?_
    refine hs_ifnull0 (p := 26) (by decide +kernel) ?_
    refine hs_aload0 (i := 2) (p := 27) (by decide +kernel) rfl ?_
    refine hs_goto (p := 34) (by decide +kernel) ?_
    refine hs_aretN (cn := "KnobEye$Node") (by decide +kernel) ?_
    exact ⟨_, _, _, _, _, rfl, hx0, hH, rx_out hX, .inl ⟨one_n sp8, rfl⟩, hJ⟩
  · rw [sp8] at hm8
    obtain ⟨y8, b8, rfl, hy8, hz8, r8, r2, rfl, k_b8, R8⟩ := hm8
    have lt_b8 := (hH.2.2 _ _ k_b8).1
    obtain ⟨R8, nb8⟩ := R8
    have Rb8 := R8.in
    show et_go none _ 66 11 _ [.ref b8] _ _ _ _
    refine hs_astore (i := 2) (p := 12) (by decide +kernel) (Nat.le_of_ble_eq_true rfl) ?_
    refine hs_aload (i := 2) (p := 13) (by decide +kernel) rfl ?_
    refine hs_ifnull1 (p := 16) (by decide +kernel) ?_
    refine hs_aload (i := 0) (p := 17) (by decide +kernel) rfl ?_
    refine hs_gst (v := Value.ref 34) (p := 20) (by decide +kernel) ?_
    refine ht_callv (T := et_TT) (t := 7) (mi := 78) (na := 1) (ci := 5) (lk := 3) (lm := 2) (L0 := eg_en (eg_mL 78) [.ref rd, .ref 34]) (by decide +kernel) rfl hH k_rd rfl rfl rfl rfl rfl (by rw [show eg_mL 78 = 2 from by decide +kernel]; first | done | rfl) ?_
    refine (fc_is hH k_rd htk htl r8 (by omega) (wd := 34) (by decide)).mono (fun u hu => xp_cb hu ?_)
    by_cases i20 : wat L y8 = 34
    · rw [if_pos i20]
      show et_go none _ 66 23 _ [.int (Int32.ofNat 1)] _ _ _ _
      refine hs_if0 (c := .eq) (t := 30) (f := 26) (by decide +kernel) (show ¬ (Int32.ofNat 1 = 0) by decide) ?_
      refine hs_aload (i := 2) (p := 27) (by decide +kernel) rfl ?_
      refine hs_goto (p := 34) (by decide +kernel) ?_
      refine hs_aret (cn := "KnobEye$Node") (by decide +kernel) ?_
      exact ⟨_, _, _, _, _, rfl, hx0, hH, rx_out hX, .inr ⟨_, _, one_y sp8 ((wat_34 h34).mp i20), rfl, k_b8, Rb8.1, R8⟩, hJ⟩
    · rw [if_neg i20]
      show et_go none _ 66 23 _ [.int (Int32.ofNat 0)] _ _ _ _
      refine hs_if1 (c := .eq) (t := 30) (f := 26) (by decide +kernel) (show Int32.ofNat 0 = 0 by decide) ?_
      refine hs_aload (i := 0) (p := 31) (by decide +kernel) rfl ?_
      have hHo := hH
      refine ht_callv (T := et_TT) (t := 7) (mi := 76) (na := 0) (ci := 5) (lk := 3) (lm := 1) (L0 := eg_en (eg_mL 76) [.ref rd]) (by decide +kernel) rfl hH k_rd rfl rfl rfl rfl rfl (by rw [show eg_mL 76 = 1 from by decide +kernel]; first | done | rfl) ?_
      refine (fc_fail hH k_rd htk htl r8 (by omega) r2).mono (fun u hu => xw_cb hu (fun G31 v31 hH x31 hP31 => ?_))
      have hJ := hJ.xs hHo k_rd x31 (fun a j hs => ⟨fun _ => by first | omega | (dsimp only at hs; omega), fun k6 => by have e9 : a = rd := (by first | omega | (dsimp only at hs; omega)); rw [e9, k_rd] at k6; exact nomatch k6⟩)
      have nb8 := (x31.2 b8 1 lt_b8 (fun h => (hi_ne k_b8 k_rd (by decide)) h.1)).trans nb8
      have r8 := (x31.2 rd 8 lt_rd (fun h => absurd h.2 (by decide))).trans r8
      have lt_rd := Nat.lt_of_lt_of_le lt_rd x31.1
      have lt_b8 := Nat.lt_of_lt_of_le lt_b8 x31.1
      have hX := hX.tr x31 (fun b j hb h => by first | omega | (dsimp only at h ⊢; omega) | (dsimp only at h; omega) | (dsimp only; omega))
      have m31 := x31.1
      have htk := htk.xf hHo k_rd et_ex.rf x31 (fun a j hs => .inl (by first | omega | (dsimp only at hs; omega)))
      have R8 := R8.fr (x31.agf (lo := G.2) (hi := G8.2) (by omega) (fun a j h1 h2 hs => by first | omega | (dsimp only at hs; omega))).ag
      obtain ⟨rfl, q31, hq31, e31⟩ := hP31
      show et_go none _ 66 34 _ [.null] _ _ _ _
      refine hs_aretN (cn := "KnobEye$Node") (by decide +kernel) ?_
      exact ⟨_, _, _, _, _, rfl, hx0, hH, rx_out hX, .inl ⟨one_x sp8 (fun h => i20 ((wat_34 h34).mpr h)), rfl⟩, hJ⟩
theorem fj_tc {ta ba na tp n pl : Nat} (hH : et_H et_TT K G) (k_rd : K rd = some 7) (r0 : et_pl (eg_at G rd) 0 = some (.ref tp)) (k_tp : K tp = some 33) (r1 : et_pl (eg_at G rd) 1 = some (.int (Int32.ofNat n))) (hn : n ≤ 400) (ht : ∀ i, i < n → et_pl (eg_at G tp) i = some (.int (Int32.ofNat (b i)))) (hb : ∀ i, i < n → b i < 256) (k_ta : K ta = some 41) (k_ba : K ba = some 21) (k_na : K na = some 21) (hne : ¬ ba = na) (r4 : et_pl (eg_at G rd) 4 = some (.ref ta)) (r5 : et_pl (eg_at G rd) 5 = some (.ref ba)) (r6 : et_pl (eg_at G rd) 6 = some (.ref na)) (hpl : pl ≤ 3) (hd : 26 ≤ d2) : et_go none d2 66 0 (eg_en (eg_mL 66) [.ref rd, .int (Int32.ofNat pl)]) [] G 0 0 (tcJ (fun c j => (c = rd ∧ ((1 ≤ j ∧ j ≤ 3) ∨ 7 ≤ j)) ∨ c = ta ∨ c = ba ∨ c = na) (sp_one (tz_ts pl b n 0)) K G rd G.2) := by
  obtain ⟨d, rfl⟩ : ∃ d, d2 = d + 25 := ⟨d2 - 25, by omega⟩
  rw [show eg_mL 66 = 3 from by decide +kernel]
  show et_go none (d + 25) 66 0 [some (.ref rd), some (.int (Int32.ofNat pl)), none] [] G 0 0 _
  refine hs_aload (i := 0) (p := 1) (by decide +kernel) rfl ?_
  refine hs_iload (i := 1) (p := 2) (by decide +kernel) rfl ?_
  refine ht_callv (T := et_TT) (t := 7) (mi := 67) (na := 1) (ci := 5) (lk := 3) (lm := 4) (L0 := eg_en (eg_mL 67) [.ref rd, .int (Int32.ofNat pl)]) (by decide +kernel) rfl hH k_rd rfl rfl rfl rfl rfl (by rw [show eg_mL 67 = 4 from by decide +kernel]; first | done | rfl) ?_
  refine (fc_split hH k_rd r0 k_tp r1 hn ht hb k_ta k_ba k_na hne r4 r5 r6 hpl (by omega)).mono (fun u hu => xw_cb hu (fun G2 v2 hH2 x2 hP2 => ?_))
  obtain ⟨rfl, htk, q1, q2, q3, q8⟩ := hP2
  show et_go none _ 66 5 _ [] _ _ _ _
  refine (fj_tcB hH2 k_rd htk tl_ts q8 (Nat.zero_le _) q2 (jR.b (lo0 := G.2) hH2 k_rd (fun a ka => (hH.2.2 a 6 ka).1)) ts_34).mono (fun u hu => ?_)
  obtain ⟨K', G', v, c, s, e, g1, g2, g3, g4, g5⟩ := hu
  refine ⟨K', G', v, c, s, e, g1, g2, x2.tr (g3.wk (fun a j _ h => ?_)) (fun a j ha h => h), ?_, g5⟩
  · obtain ⟨h1, h2⟩ := h
    exact .inl ⟨h1, by omega⟩
  · rcases g4 with h | ⟨f, bb, h1, h2, h3, h4, h5⟩
    · exact .inl h
    · exact .inr ⟨f, bb, h1, h2, h3, Nat.le_trans x2.1 h4, h5.wk x2.1 (Nat.le_refl _)⟩
end AVD
