section
/-! FUNCTIONAL: split -/
def sq (G : eg_G) (ta ba na pl : Nat) (b : Nat → Nat) (n : Nat) (B : List Nat) : Prop := ∀ j x, B[j]? = some x → x ≤ 400 ∧ et_pl (eg_at G ta) j = some (.ref (tz_wd pl b n x)) ∧ et_pl (eg_at G na) j = some (.int (tz_i (tz_nm b n x))) ∧ et_pl (eg_at G ba) j = some (.int (Int32.ofNat x))
/-- the reader holds these tokens -/
def tk (K : et_K) (G : eg_G) (rd : Nat) (L : List sp_T) : Prop := ∃ ta ba na : Nat, (K ta = some 41 ∧ K ba = some 21 ∧ K na = some 21) ∧ (et_pl (eg_at G rd) 4 = some (.ref ta) ∧ et_pl (eg_at G rd) 5 = some (.ref ba) ∧ et_pl (eg_at G rd) 6 = some (.ref na) ∧ et_pl (eg_at G rd) 7 = some (.int (Int32.ofNat (L.length + 1)))) ∧ L.length ≤ 400 ∧ (∀ j x, L[j]? = some x → et_pl (eg_at G ta) j = some (.ref x.1) ∧ et_pl (eg_at G na) j = some (.int (tz_i x.2))) ∧ et_pl (eg_at G ta) L.length = some (.ref 34) ∧ ∀ j, j ≤ L.length → ∃ q, q ≤ 400 ∧ et_pl (eg_at G ba) j = some (.int (Int32.ofNat q))
def tk_M : et_M := [(6, 0, 5), (7, 2, 2), (7, 3, 3), (7, 8, 8)]
theorem tk.fr {K K' : et_K} {G G' : eg_G} {rd : Nat} {L : List sp_T} {M : et_M} (h : tk K G rd L) (k_rd : K rd = some 7) (hx : et_ex K K') (hf : et_fr M K G G') (hM : et_ss M tk_M = true) : tk K' G' rd L := by
  have hf := hf.wk hM
  obtain ⟨ta, ba, na, ⟨h1, h2, h3⟩, ⟨h4, h5, h6, h7⟩, h8, h9, h10, h11⟩ := h
  refine ⟨ta, ba, na, ⟨hx _ _ h1, hx _ _ h2, hx _ _ h3⟩, ⟨(hf.2 rd 7 k_rd 4 rfl).trans h4, (hf.2 rd 7 k_rd 5 rfl).trans h5, (hf.2 rd 7 k_rd 6 rfl).trans h6, (hf.2 rd 7 k_rd 7 rfl).trans h7⟩, h8, fun j x hj => ⟨(hf.2 ta 41 h1 j rfl).trans (h9 j x hj).1, (hf.2 na 21 h3 j rfl).trans (h9 j x hj).2⟩, (hf.2 ta 41 h1 _ rfl).trans h10, fun j hj => ?_⟩
  obtain ⟨q, q1, q2⟩ := h11 j hj
  exact ⟨q, q1, (hf.2 ba 21 h2 j rfl).trans q2⟩
def sq_S (rd ta ba na m : Nat) (c j : Nat) : Prop := (c = rd ∧ (j = 7 ∨ j = 1)) ∨ (c = ta ∧ j = m) ∨ (c = ba ∧ j = m) ∨ (c = na ∧ j = m)
theorem sq.xf {G G' : eg_G} {rd ta ba na pl n : Nat} {b : Nat → Nat} {B : List Nat} (h : sq G ta ba na pl b n B) (hx : xf (sq_S rd ta ba na B.length) G G') (l1 : ta < G.2) (l2 : ba < G.2) (l3 : na < G.2) (n1 : ¬ ta = rd) (n2 : ¬ ba = rd) (n3 : ¬ na = rd) : sq G' ta ba na pl b n B := fun j x hj => by
  obtain ⟨h0, h1, h2, h3⟩ := h j x hj
  have hlt := (List.getElem?_eq_some_iff.mp hj).1
  refine ⟨h0, (hx.2 ta j l1 (fun hs => ?_)).trans h1, (hx.2 na j l3 (fun hs => ?_)).trans h2, (hx.2 ba j l2 (fun hs => ?_)).trans h3⟩ <;> (unfold sq_S at hs; omega)
theorem sq.snoc {G : eg_G} {ta ba na pl n i : Nat} {b : Nat → Nat} {B : List Nat} (h : sq G ta ba na pl b n B) (hi : i ≤ 400) (h1 : et_pl (eg_at G ta) B.length = some (.ref (tz_wd pl b n i))) (h2 : et_pl (eg_at G na) B.length = some (.int (tz_i (tz_nm b n i)))) (h3 : et_pl (eg_at G ba) B.length = some (.int (Int32.ofNat i))) : sq G ta ba na pl b n (B ++ [i]) := fun j x hj => by
  by_cases e : j < B.length
  · rw [List.getElem?_append_left e] at hj
    exact h j x hj
  · rw [List.getElem?_append_right (by omega)] at hj
    obtain ⟨k, hk⟩ : ∃ k, j - B.length = k := ⟨_, rfl⟩
    rw [hk] at hj
    match k, hj with
    | 0, hj =>
      cases hj
      obtain rfl : j = B.length := by omega
      exact ⟨hi, h1, h2, h3⟩
theorem tz_wd_lt {pl n i : Nat} {b : Nat → Nat} : tz_wd pl b n i < 36 := by
  have h : ∀ (k w : Nat), w + k ≤ 36 → tz_fd pl b i (tz_end b n i) k w < 36 := by
    intro k
    induction k with
    | zero =>
      intro w _
      show 35 < 36
      decide
    | succ k ih =>
      intro w hw
      unfold tz_fd
      split
      · omega
      · exact ih (w + 1) (by omega)
  unfold tz_wd
  split
  · decide
  · exact h 36 0 (by decide)
theorem tk_mk {K : et_K} {G : eg_G} {rd ta ba na pl n : Nat} {b : Nat → Nat} {B : List Nat} (k_ta : K ta = some 41) (k_ba : K ba = some 21) (k_na : K na = some 21) (r4 : et_pl (eg_at G rd) 4 = some (.ref ta)) (r5 : et_pl (eg_at G rd) 5 = some (.ref ba)) (r6 : et_pl (eg_at G rd) 6 = some (.ref na)) (r7 : et_pl (eg_at G rd) 7 = some (.int (Int32.ofNat (B.length + 1)))) (hsq : sq G ta ba na pl b n B) (hB : B = tz_bg b n n 0) (hn : n ≤ 400) (h1 : et_pl (eg_at G ta) B.length = some (.ref 34)) (h2 : et_pl (eg_at G ba) B.length = some (.int (Int32.ofNat n))) : tk K G rd (tz_ts pl b n 0) := by
  have hL : tz_ts pl b n 0 = B.map (tz_tk pl b n) := by
    unfold tz_ts
    rw [Nat.sub_zero, hB]
  have hl : (B.map (tz_tk pl b n)).length = B.length := List.length_map ..
  have hb : B.length ≤ n := by
    rw [hB]
    exact tz_bg_len n 0
  rw [hL]
  refine ⟨ta, ba, na, ⟨k_ta, k_ba, k_na⟩, ⟨r4, r5, r6, by rw [hl]; exact r7⟩, by omega, fun j x hj => ?_, by rw [hl]; exact h1, fun j hj => ?_⟩
  · rw [List.getElem?_map] at hj
    cases e : B[j]? with
    | none => rw [e] at hj; cases hj
    | some y =>
      rw [e] at hj
      cases hj
      exact ⟨(hsq j y e).2.1, (hsq j y e).2.2.1⟩
  · rw [hl] at hj
    by_cases e : j = B.length
    · exact ⟨n, hn, by rw [e]; exact h2⟩
    · obtain ⟨y, hy⟩ : ∃ y, B[j]? = some y := ⟨B[j]'(by omega), List.getElem?_eq_getElem (by omega)⟩
      exact ⟨y, (hsq j y hy).1, (hsq j y hy).2.2.2⟩
theorem tz_bg_y {b : Nat → Nat} {n i : Nat} {B : List Nat} (hB : B = tz_bg b n i 0) (h1 : ¬ b i = 32) (h2 : ¬ tz_go b n i = true) : B ++ [i] = tz_bg b n (i + 1) 0 := by
  rw [tz_bg_snoc, Nat.zero_add, ← hB, if_pos]
  unfold tz_st
  rw [beq_eq_false_iff_ne.mpr h1, show tz_go b n i = false by simpa using h2]
  rfl
theorem tz_bg_n {b : Nat → Nat} {n i : Nat} {B : List Nat} (hB : B = tz_bg b n i 0) (h : b i = 32 ∨ tz_go b n i = true) : B = tz_bg b n (i + 1) 0 := by
  rw [tz_bg_snoc, Nat.zero_add, ← hB, if_neg, List.append_nil]
  unfold tz_st
  rcases h with h | h
  · rw [h]
    simp
  · rw [h]
    simp
theorem hf_tst {K : et_K} {d k pc ck sk a b n p : Nat} {L : eg_Ls} {r : List Value} {G : eg_G} {Z : eg_O → Prop} (hc : hs_o k pc = some (.aastore, p)) (hH : et_H et_TT K G) (ha : K a = some 41) (hn : n < 401) (hb : K b = some 0) (h : ∀ G', et_H et_TT K G' → xf (fun c j => c = a ∧ j = n) G G' → et_pl (eg_at G' a) n = some (.ref b) → et_go none d k p L r G' ck sk Z) : et_go none d k pc L (.ref b :: .int (Int32.ofNat n) :: .ref a :: r) G ck sk Z := by
  obtain ⟨g1, -, g3, dd, hd, hcell, hcx⟩ := hH.2.2 a 41 ha
  cases hd
  obtain ⟨⟨N, y⟩, e, ey, er, es⟩ := hcell
  obtain rfl : N = 401 := ey
  obtain ⟨v0, hv0⟩ := er 0 (by decide)
  obtain ⟨f, rfl⟩ : ∃ f, y = .inr (.inr (.inr (.inr f))) := by
    rcases y with g | g | g | g | f
    · exact absurd (show none = some v0 from hv0) (fun h => nomatch h)
    · exact absurd (show none = some v0 from hv0) (fun h => nomatch h)
    · exact absurd (show none = some v0 from hv0) (fun h => nomatch h)
    · exact absurd (show none = some v0 from hv0) (fun h => nomatch h)
    · exact ⟨f, rfl⟩
  obtain ⟨q1, -, -, dd, hd, hcb, -⟩ := hH.2.2 b 0 hb
  cases hd
  obtain ⟨fs, eb, -, -⟩ := hcb
  have h3 := hs_nint (a := n) (by omega)
  obtain ⟨e0, rfl⟩ := hs_oc hc
  have hrd : ∀ i, eg_rd 9 (401, .inr (.inr (.inr (.inr (va_up f n (some b)))))) i = if i = n then some (.ref b) else eg_rd 9 (401, .inr (.inr (.inr (.inr f)))) i := fun i => by
    unfold eg_rd
    dsimp only
    rw [if_pos (by decide)]
    unfold va_up
    split <;> rfl
  refine hs_st e0 rfl (?_ : _ = some (pc + 1, L, r, eg_u G a (.inl (9, (401, .inr (.inr (.inr (.inr (va_up f n (some b)))))))), ck, sk)) (h _ (et_H_u hH ha (by decide) rfl ⟨_, rfl, rfl, fun i hi => ?_, fun s hs i i1 i2 i3 => ?_⟩ (fun e1 => absurd e1 (by decide))) ⟨Nat.le_refl _, fun c i hc2 hi => ?_⟩ ?_)
  · show eg_aw .aastore pc L (.ref b :: .int (Int32.ofNat n) :: .ref a :: r) G ck sk = _
    unfold eg_aw
    dsimp only
    rw [e]
    dsimp only
    rw [if_pos ⟨g3 (by decide), g1, by decide, by omega, by show (Int32.ofNat n).toInt < (401 : Int); omega⟩, hs_nnat (by omega)]
    unfold eg_wr
    dsimp only
    rw [if_pos ⟨q1, by decide, by decide, by rw [eb]; rfl⟩]
  · rw [hrd]
    by_cases ei : i = n
    · exact ⟨_, if_pos ei⟩
    · rw [if_neg ei]
      exact er i hi
  · rw [hrd]
    by_cases ei : i = n
    · obtain rfl := List.mem_singleton.mp hs
      exact ⟨_, if_pos ei, .inr ⟨by decide, _, rfl, hb⟩⟩
    · rw [if_neg ei]
      exact es s hs i i1 i2 i3
  · by_cases e3 : c = a
    · subst e3
      rw [et_at_us (g3 (by decide)), e]
      have ei : ¬ i = n := fun h => hi ⟨rfl, h⟩
      show (if i < 401 then eg_rd 9 (401, .inr (.inr (.inr (.inr (va_up f n (some b)))))) i else none) = (if i < 401 then eg_rd 9 (401, .inr (.inr (.inr (.inr f)))) i else none)
      rw [hrd, if_neg ei]
    · rw [et_at_u e3]
  · rw [et_at_us (g3 (by decide))]
    show (if n < 401 then eg_rd 9 (401, .inr (.inr (.inr (.inr (va_up f n (some b)))))) n else none) = _
    rw [if_pos hn, hrd, if_pos rfl]

section FMA
variable {K : et_K} {G G0 : eg_G} {b : Nat → Nat} {d2 d rd tp ta ba na n i pl : Nat}
theorem fc_spL (hH : et_H et_TT K G) (k_rd : K rd = some 7) (r0 : et_pl (eg_at G rd) 0 = some (.ref tp)) (k_tp : K tp = some 33) (r1 : et_pl (eg_at G rd) 1 = some (.int (Int32.ofNat n))) (hn : n ≤ 400) (ht : ∀ i, i < n → et_pl (eg_at G tp) i = some (.int (Int32.ofNat (b i)))) (hb : ∀ i, i < n → b i < 256) (k_ta : K ta = some 41) (k_ba : K ba = some 21) (k_na : K na = some 21) (hne : ¬ ba = na) (r4 : et_pl (eg_at G rd) 4 = some (.ref ta)) (r5 : et_pl (eg_at G rd) 5 = some (.ref ba)) (r6 : et_pl (eg_at G rd) 6 = some (.ref na)) (hpl : pl ≤ 3) {m : Nat} {B : List Nat} {x3 : Option Value} (hX : xf (fun c j => (c = rd ∧ ((1 ≤ j ∧ j ≤ 3) ∨ 7 ≤ j)) ∨ c = ta ∨ c = ba ∨ c = na) G0 G) (r7 : et_pl (eg_at G rd) 7 = some (.int (Int32.ofNat m))) (r2 : et_pl (eg_at G rd) 2 = some (.int (-1))) (r3 : et_pl (eg_at G rd) 3 = some (.int (Int32.ofNat 0))) (r8 : et_pl (eg_at G rd) 8 = some (.int (Int32.ofNat 0))) (hB : B = tz_bg b n i 0) (hm : m = B.length) (hsq : sq G ta ba na pl b n B) (hi : i ≤ n) : et_go none (d + 8) 67 22 [some (.ref rd), some (.int (Int32.ofNat pl)), some (.int (Int32.ofNat i)), x3] [] G 0 0 (xw_Z (fun c j => (c = rd ∧ ((1 ≤ j ∧ j ≤ 3) ∨ 7 ≤ j)) ∨ c = ta ∨ c = ba ∨ c = na) K G0 (fun G' v => v = none ∧ tk K G' rd (tz_ts pl b n 0) ∧ et_pl (eg_at G' rd) 1 = some (.int (Int32.ofNat 0)) ∧ et_pl (eg_at G' rd) 2 = some (.int (-1)) ∧ et_pl (eg_at G' rd) 3 = some (.int (Int32.ofNat 0)) ∧ et_pl (eg_at G' rd) 8 = some (.int (Int32.ofNat 0)))) := by
  induction hz : n - i using Nat.strongRecOn generalizing i m B x3 G with
  | _ z ih =>
    subst hm
    have hBl : B.length ≤ i := by rw [hB]; exact tz_bg_len i 0
    have hY : xf (sq_S rd ta ba na B.length) G G := xf.rf
    have ltt := (hH.2.2 _ _ k_ta).1
    have ltb := (hH.2.2 _ _ k_ba).1
    have ltn := (hH.2.2 _ _ k_na).1
    have lt_rd := (hH.2.2 _ _ k_rd).1
    have lt_tp := (hH.2.2 _ _ k_tp).1
    have lt_ta := (hH.2.2 _ _ k_ta).1
    have lt_ba := (hH.2.2 _ _ k_ba).1
    have lt_na := (hH.2.2 _ _ k_na).1
    refine hs_iload (i := 2) (p := 23) (by decide +kernel) rfl ?_
    refine hs_aload (i := 0) (p := 24) (by decide +kernel) rfl ?_
    refine hf_get (T := et_TT) (t := 7) (ci := 5) (f := 1) (p := 27) (by decide +kernel) rfl hH k_rd r1 ?_
    refine hs_br2n (c := .ge) (t := 122) (f := 30) (by decide +kernel) (by omega) (by omega) (fun (c27 : n ≤ i) => ?_) (fun (c27 : ¬ (n ≤ i)) => ?_)
    · refine hs_aload (i := 0) (p := 123) (by decide +kernel) rfl ?_
      refine hf_get (T := et_TT) (t := 7) (ci := 5) (f := 4) (p := 126) (by decide +kernel) rfl hH k_rd r4 ?_
      refine hs_aload (i := 0) (p := 127) (by decide +kernel) rfl ?_
      refine hf_get (T := et_TT) (t := 7) (ci := 5) (f := 7) (p := 130) (by decide +kernel) rfl hH k_rd r7 ?_
      refine hs_gst (v := Value.ref 34) (p := 133) (by decide +kernel) ?_
      refine hf_tst (p := 134) (by decide +kernel) hH k_ta (by omega) (hH.2.1 _ (by decide)) (fun G133 hH x133 e133 => ?_)
      have r0 := (x133.2 rd 0 lt_rd (fun h => (hi_ne k_rd k_ta (by decide)) h.1)).trans r0
      have r1 := (x133.2 rd 1 lt_rd (fun h => (hi_ne k_rd k_ta (by decide)) h.1)).trans r1
      have r4 := (x133.2 rd 4 lt_rd (fun h => (hi_ne k_rd k_ta (by decide)) h.1)).trans r4
      have r5 := (x133.2 rd 5 lt_rd (fun h => (hi_ne k_rd k_ta (by decide)) h.1)).trans r5
      have r6 := (x133.2 rd 6 lt_rd (fun h => (hi_ne k_rd k_ta (by decide)) h.1)).trans r6
      have r7 := (x133.2 rd 7 lt_rd (fun h => (hi_ne k_rd k_ta (by decide)) h.1)).trans r7
      have r2 := (x133.2 rd 2 lt_rd (fun h => (hi_ne k_rd k_ta (by decide)) h.1)).trans r2
      have r3 := (x133.2 rd 3 lt_rd (fun h => (hi_ne k_rd k_ta (by decide)) h.1)).trans r3
      have r8 := (x133.2 rd 8 lt_rd (fun h => (hi_ne k_rd k_ta (by decide)) h.1)).trans r8
      have ht : ∀ i, i < n → et_pl (eg_at G133 tp) i = some (.int (Int32.ofNat (b i))) := fun i hi => (x133.2 tp i lt_tp (fun h => (hi_ne k_tp k_ta (by decide)) h.1)).trans (ht i hi)
      have lt_rd := Nat.lt_of_lt_of_le lt_rd x133.1
      have lt_tp := Nat.lt_of_lt_of_le lt_tp x133.1
      have lt_ta := Nat.lt_of_lt_of_le lt_ta x133.1
      have lt_ba := Nat.lt_of_lt_of_le lt_ba x133.1
      have lt_na := Nat.lt_of_lt_of_le lt_na x133.1
      have hX := hX.tr x133 (fun b j hb h => by first | omega | (dsimp only at h ⊢; omega) | (dsimp only at h; omega) | (dsimp only; omega))
      have hY := hY.tr x133 (fun c j hc h => by unfold sq_S; first | omega | (dsimp only at h; omega))
      refine hs_aload (i := 0) (p := 135) (by decide +kernel) rfl ?_
      refine hf_get (T := et_TT) (t := 7) (ci := 5) (f := 5) (p := 138) (by decide +kernel) rfl hH k_rd r5 ?_
      refine hs_aload (i := 0) (p := 139) (by decide +kernel) rfl ?_
      refine hf_get (T := et_TT) (t := 7) (ci := 5) (f := 7) (p := 142) (by decide +kernel) rfl hH k_rd r7 ?_
      refine hs_aload (i := 0) (p := 143) (by decide +kernel) rfl ?_
      refine hf_get (T := et_TT) (t := 7) (ci := 5) (f := 1) (p := 146) (by decide +kernel) rfl hH k_rd r1 ?_
      refine hf_ist (T := et_TT) (t := 21) (N := 401) (p := 147) (by decide +kernel) rfl rfl (by decide) hH k_ba (by omega) (by decide) (fun s hs => absurd hs List.not_mem_nil) (fun G146 hH x146 e146 => ?_)
      have r0 := (x146.2 rd 0 lt_rd (fun h => (hi_ne k_rd k_ba (by decide)) h.1)).trans r0
      have r1 := (x146.2 rd 1 lt_rd (fun h => (hi_ne k_rd k_ba (by decide)) h.1)).trans r1
      have r4 := (x146.2 rd 4 lt_rd (fun h => (hi_ne k_rd k_ba (by decide)) h.1)).trans r4
      have r5 := (x146.2 rd 5 lt_rd (fun h => (hi_ne k_rd k_ba (by decide)) h.1)).trans r5
      have r6 := (x146.2 rd 6 lt_rd (fun h => (hi_ne k_rd k_ba (by decide)) h.1)).trans r6
      have r7 := (x146.2 rd 7 lt_rd (fun h => (hi_ne k_rd k_ba (by decide)) h.1)).trans r7
      have r2 := (x146.2 rd 2 lt_rd (fun h => (hi_ne k_rd k_ba (by decide)) h.1)).trans r2
      have r3 := (x146.2 rd 3 lt_rd (fun h => (hi_ne k_rd k_ba (by decide)) h.1)).trans r3
      have r8 := (x146.2 rd 8 lt_rd (fun h => (hi_ne k_rd k_ba (by decide)) h.1)).trans r8
      have e133 := (x146.2 ta B.length lt_ta (fun h => (hi_ne k_ta k_ba (by decide)) h.1)).trans e133
      have ht : ∀ i, i < n → et_pl (eg_at G146 tp) i = some (.int (Int32.ofNat (b i))) := fun i hi => (x146.2 tp i lt_tp (fun h => (hi_ne k_tp k_ba (by decide)) h.1)).trans (ht i hi)
      have lt_rd := Nat.lt_of_lt_of_le lt_rd x146.1
      have lt_tp := Nat.lt_of_lt_of_le lt_tp x146.1
      have lt_ta := Nat.lt_of_lt_of_le lt_ta x146.1
      have lt_ba := Nat.lt_of_lt_of_le lt_ba x146.1
      have lt_na := Nat.lt_of_lt_of_le lt_na x146.1
      have hX := hX.tr x146 (fun b j hb h => by first | omega | (dsimp only at h ⊢; omega) | (dsimp only at h; omega) | (dsimp only; omega))
      have hY := hY.tr x146 (fun c j hc h => by unfold sq_S; first | omega | (dsimp only at h; omega))
      refine hs_aload (i := 0) (p := 148) (by decide +kernel) rfl ?_
      refine hs_dup1 (p := 149) (by decide +kernel) ?_
      refine hf_get (T := et_TT) (t := 7) (ci := 5) (f := 7) (p := 152) (by decide +kernel) rfl hH k_rd r7 ?_
      refine hs_k (x := Int32.ofNat 1) (p := 153) (by decide +kernel) ?_
      refine hs_iaddn (p := 154) (by decide +kernel) ?_
      refine hf_put (T := et_TT) (t := 7) (ci := 5) (f := 7) (p := 157) (ty := .int) (by decide +kernel) rfl rfl rfl rfl rfl hH k_rd (hi_nv (by omega) (by omega)) (fun G154 hH x154 e154 => ?_)
      have r0 := (x154.2 rd 0 lt_rd (fun h => absurd h.2 (by decide))).trans r0
      have r1 := (x154.2 rd 1 lt_rd (fun h => absurd h.2 (by decide))).trans r1
      have r4 := (x154.2 rd 4 lt_rd (fun h => absurd h.2 (by decide))).trans r4
      have r5 := (x154.2 rd 5 lt_rd (fun h => absurd h.2 (by decide))).trans r5
      have r6 := (x154.2 rd 6 lt_rd (fun h => absurd h.2 (by decide))).trans r6
      have r2 := (x154.2 rd 2 lt_rd (fun h => absurd h.2 (by decide))).trans r2
      have r3 := (x154.2 rd 3 lt_rd (fun h => absurd h.2 (by decide))).trans r3
      have r8 := (x154.2 rd 8 lt_rd (fun h => absurd h.2 (by decide))).trans r8
      have e133 := (x154.2 ta B.length lt_ta (fun h => (hi_ne k_ta k_rd (by decide)) h.1)).trans e133
      have e146 := (x154.2 ba B.length lt_ba (fun h => (hi_ne k_ba k_rd (by decide)) h.1)).trans e146
      have ht : ∀ i, i < n → et_pl (eg_at G154 tp) i = some (.int (Int32.ofNat (b i))) := fun i hi => (x154.2 tp i lt_tp (fun h => (hi_ne k_tp k_rd (by decide)) h.1)).trans (ht i hi)
      have lt_rd := Nat.lt_of_lt_of_le lt_rd x154.1
      have lt_tp := Nat.lt_of_lt_of_le lt_tp x154.1
      have lt_ta := Nat.lt_of_lt_of_le lt_ta x154.1
      have lt_ba := Nat.lt_of_lt_of_le lt_ba x154.1
      have lt_na := Nat.lt_of_lt_of_le lt_na x154.1
      have hX := hX.tr x154 (fun b j hb h => by first | omega | (dsimp only at h ⊢; omega) | (dsimp only at h; omega) | (dsimp only; omega))
      have hY := hY.tr x154 (fun c j hc h => by unfold sq_S; first | omega | (dsimp only at h; omega))
      refine hs_aload (i := 0) (p := 158) (by decide +kernel) rfl ?_
      refine hs_k (x := Int32.ofNat 0) (p := 159) (by decide +kernel) ?_
      refine hf_put (T := et_TT) (t := 7) (ci := 5) (f := 1) (p := 162) (ty := .int) (by decide +kernel) rfl rfl rfl rfl rfl hH k_rd (hi_nv (by omega) (by omega)) (fun G159 hH x159 e159 => ?_)
      have r0 := (x159.2 rd 0 lt_rd (fun h => absurd h.2 (by decide))).trans r0
      have r4 := (x159.2 rd 4 lt_rd (fun h => absurd h.2 (by decide))).trans r4
      have r5 := (x159.2 rd 5 lt_rd (fun h => absurd h.2 (by decide))).trans r5
      have r6 := (x159.2 rd 6 lt_rd (fun h => absurd h.2 (by decide))).trans r6
      have e154 := (x159.2 rd 7 lt_rd (fun h => absurd h.2 (by decide))).trans e154
      have r2 := (x159.2 rd 2 lt_rd (fun h => absurd h.2 (by decide))).trans r2
      have r3 := (x159.2 rd 3 lt_rd (fun h => absurd h.2 (by decide))).trans r3
      have r8 := (x159.2 rd 8 lt_rd (fun h => absurd h.2 (by decide))).trans r8
      have e133 := (x159.2 ta B.length lt_ta (fun h => (hi_ne k_ta k_rd (by decide)) h.1)).trans e133
      have e146 := (x159.2 ba B.length lt_ba (fun h => (hi_ne k_ba k_rd (by decide)) h.1)).trans e146
      have ht : ∀ i, i < n → et_pl (eg_at G159 tp) i = some (.int (Int32.ofNat (b i))) := fun i hi => (x159.2 tp i lt_tp (fun h => (hi_ne k_tp k_rd (by decide)) h.1)).trans (ht i hi)
      have lt_rd := Nat.lt_of_lt_of_le lt_rd x159.1
      have lt_tp := Nat.lt_of_lt_of_le lt_tp x159.1
      have lt_ta := Nat.lt_of_lt_of_le lt_ta x159.1
      have lt_ba := Nat.lt_of_lt_of_le lt_ba x159.1
      have lt_na := Nat.lt_of_lt_of_le lt_na x159.1
      have hX := hX.tr x159 (fun b j hb h => by first | omega | (dsimp only at h ⊢; omega) | (dsimp only at h; omega) | (dsimp only; omega))
      have hY := hY.tr x159 (fun c j hc h => by unfold sq_S; first | omega | (dsimp only at h; omega))
      refine hs_vret (by decide +kernel) ?_
      exact ⟨_, _, rfl, hH, hX, rfl, tk_mk k_ta k_ba k_na r4 r5 r6 e154 (hsq.xf hY ltt ltb ltn (hi_ne k_ta k_rd (by decide)) (hi_ne k_ba k_rd (by decide)) (hi_ne k_na k_rd (by decide))) (by rw [hB]; congr 1; omega) hn e133 e146, e159, r2, r3, r8⟩
    · refine hs_aload (i := 0) (p := 31) (by decide +kernel) rfl ?_
      refine hf_get (T := et_TT) (t := 7) (ci := 5) (f := 7) (p := 34) (by decide +kernel) rfl hH k_rd r7 ?_
      refine hs_k (x := Int32.ofNat 400) (p := 37) (by decide +kernel) ?_
      refine hs_br2n (c := .ge) (t := 122) (f := 40) (by decide +kernel) (by omega) (by omega) (fun (c37 : 400 ≤ B.length) => ?_) (fun (c37 : ¬ (400 ≤ B.length)) => ?_)
      · exact absurd c37 (by omega)
      · refine hs_aload (i := 0) (p := 41) (by decide +kernel) rfl ?_
        refine hf_get (T := et_TT) (t := 7) (ci := 5) (f := 0) (p := 44) (by decide +kernel) rfl hH k_rd r0 ?_
        refine hs_iload (i := 2) (p := 45) (by decide +kernel) rfl ?_
        refine hf_ald (ins := .caload) (T := et_TT) (t := 33) (kd := 4) (N := 400) (p := 46) (by decide +kernel) (fun _ _ _ _ _ _ _ _ _ _ => rfl) rfl rfl rfl hH k_tp (by decide) (ht i (by omega)) ?_
        have hbi := hb i (by omega)
        refine hs_k (x := Int32.ofNat 32) (p := 48) (by decide +kernel) ?_
        refine hs_br2n (c := .eq) (t := 116) (f := 51) (by decide +kernel) (by omega) (by omega) (fun (c48 : (b i) = 32) => ?_) (fun (c48 : ¬ ((b i) = 32)) => ?_)
        · refine hs_iinc1 (i := 2) (p := 119) (by decide +kernel) rfl (Nat.le_of_ble_eq_true rfl) ?_
          refine hs_goto (p := 22) (by decide +kernel) ?_
          show et_go none _ 67 22 [some (.ref rd), some (.int (Int32.ofNat pl)), some (.int (Int32.ofNat (i + 1))), x3] [] _ _ _ _
          exact ih (n - (i + 1)) (by omega) hH r0 r1 ht r4 r5 r6 hX r7 r2 r3 r8 (tz_bg_n hB (.inl c48)) rfl (hsq) (by omega) rfl
        · refine hs_aload (i := 0) (p := 52) (by decide +kernel) rfl ?_
          refine hs_iload (i := 2) (p := 53) (by decide +kernel) rfl ?_
          refine ht_callv (T := et_TT) (t := 7) (mi := 68) (na := 1) (ci := 5) (lk := 4) (lm := 2) (L0 := eg_en (eg_mL 68) [.ref rd, .int (Int32.ofNat i)]) (by decide +kernel) rfl hH k_rd rfl rfl rfl rfl rfl (by rw [show eg_mL 68 = 2 from by decide +kernel]; first | done | rfl) ?_
          refine (fc_go hH k_rd r0 k_tp r1 hn ht hb (i := i) (by omega) (by omega)).mono (fun u hu => xp_cb hu ?_)
          by_cases g53 : tz_go b n i = true
          · rw [if_pos g53]
            show et_go none _ 67 56 _ [.int (Int32.ofNat 1)] _ _ _ _
            refine hs_if1 (c := .ne) (t := 116) (f := 59) (by decide +kernel) (show ¬ Int32.ofNat 1 = 0 by decide) ?_
            refine hs_iinc1 (i := 2) (p := 119) (by decide +kernel) rfl (Nat.le_of_ble_eq_true rfl) ?_
            refine hs_goto (p := 22) (by decide +kernel) ?_
            show et_go none _ 67 22 [some (.ref rd), some (.int (Int32.ofNat pl)), some (.int (Int32.ofNat (i + 1))), x3] [] _ _ _ _
            exact ih (n - (i + 1)) (by omega) hH r0 r1 ht r4 r5 r6 hX r7 r2 r3 r8 (tz_bg_n hB (.inr g53)) rfl (hsq) (by omega) rfl
          · rw [if_neg g53]
            show et_go none _ 67 56 _ [.int (Int32.ofNat 0)] _ _ _ _
            refine hs_if0 (c := .ne) (t := 116) (f := 59) (by decide +kernel) (show ¬ (¬ Int32.ofNat 0 = 0) by decide) ?_
            refine hs_aload (i := 0) (p := 60) (by decide +kernel) rfl ?_
            refine hs_iload (i := 2) (p := 61) (by decide +kernel) rfl ?_
            refine ht_callv (T := et_TT) (t := 7) (mi := 71) (na := 1) (ci := 5) (lk := 4) (lm := 3) (L0 := eg_en (eg_mL 71) [.ref rd, .int (Int32.ofNat i)]) (by decide +kernel) rfl hH k_rd rfl rfl rfl rfl rfl (by rw [show eg_mL 71 = 3 from by decide +kernel]; first | done | rfl) ?_
            refine (fc_end hH k_rd r0 k_tp r1 hn ht hb (by omega) (by omega)).mono (fun u hu => xp_cb hu ?_)
            show et_go none _ 67 64 _ [.int (Int32.ofNat (tz_end b n i))] _ _ _ _
            refine hs_istore (i := 3) (p := 65) (by decide +kernel) (Nat.le_of_ble_eq_true rfl) ?_
            refine hs_aload (i := 0) (p := 66) (by decide +kernel) rfl ?_
            refine hf_get (T := et_TT) (t := 7) (ci := 5) (f := 4) (p := 69) (by decide +kernel) rfl hH k_rd r4 ?_
            refine hs_aload (i := 0) (p := 70) (by decide +kernel) rfl ?_
            refine hf_get (T := et_TT) (t := 7) (ci := 5) (f := 7) (p := 73) (by decide +kernel) rfl hH k_rd r7 ?_
            refine hs_aload (i := 0) (p := 74) (by decide +kernel) rfl ?_
            refine hs_iload (i := 2) (p := 75) (by decide +kernel) rfl ?_
            refine hs_iload (i := 3) (p := 76) (by decide +kernel) rfl ?_
            refine hs_iload (i := 1) (p := 77) (by decide +kernel) rfl ?_
            refine ht_callv (T := et_TT) (t := 7) (mi := 72) (na := 3) (ci := 5) (lk := 4) (lm := 6) (L0 := eg_en (eg_mL 72) [.ref rd, .int (Int32.ofNat i), .int (Int32.ofNat (tz_end b n i)), .int (Int32.ofNat pl)]) (by decide +kernel) rfl hH k_rd rfl rfl rfl rfl rfl (by rw [show eg_mL 72 = 6 from by decide +kernel]; first | done | rfl) ?_
            refine (fc_word hH k_rd r0 k_tp r1 hn ht hb hpl (by omega) (by omega)).mono (fun u hu => xp_cb hu ?_)
            show et_go none _ 67 80 _ [.ref (tz_wd pl b n i), .int (Int32.ofNat B.length), .ref ta] _ _ _ _
            refine hf_tst (p := 81) (by decide +kernel) hH k_ta (by omega) (hH.2.1 _ tz_wd_lt) (fun G80 hH x80 e80 => ?_)
            have r0 := (x80.2 rd 0 lt_rd (fun h => (hi_ne k_rd k_ta (by decide)) h.1)).trans r0
            have r1 := (x80.2 rd 1 lt_rd (fun h => (hi_ne k_rd k_ta (by decide)) h.1)).trans r1
            have r4 := (x80.2 rd 4 lt_rd (fun h => (hi_ne k_rd k_ta (by decide)) h.1)).trans r4
            have r5 := (x80.2 rd 5 lt_rd (fun h => (hi_ne k_rd k_ta (by decide)) h.1)).trans r5
            have r6 := (x80.2 rd 6 lt_rd (fun h => (hi_ne k_rd k_ta (by decide)) h.1)).trans r6
            have r7 := (x80.2 rd 7 lt_rd (fun h => (hi_ne k_rd k_ta (by decide)) h.1)).trans r7
            have r2 := (x80.2 rd 2 lt_rd (fun h => (hi_ne k_rd k_ta (by decide)) h.1)).trans r2
            have r3 := (x80.2 rd 3 lt_rd (fun h => (hi_ne k_rd k_ta (by decide)) h.1)).trans r3
            have r8 := (x80.2 rd 8 lt_rd (fun h => (hi_ne k_rd k_ta (by decide)) h.1)).trans r8
            have ht : ∀ i, i < n → et_pl (eg_at G80 tp) i = some (.int (Int32.ofNat (b i))) := fun i hi => (x80.2 tp i lt_tp (fun h => (hi_ne k_tp k_ta (by decide)) h.1)).trans (ht i hi)
            have lt_rd := Nat.lt_of_lt_of_le lt_rd x80.1
            have lt_tp := Nat.lt_of_lt_of_le lt_tp x80.1
            have lt_ta := Nat.lt_of_lt_of_le lt_ta x80.1
            have lt_ba := Nat.lt_of_lt_of_le lt_ba x80.1
            have lt_na := Nat.lt_of_lt_of_le lt_na x80.1
            have hX := hX.tr x80 (fun b j hb h => by first | omega | (dsimp only at h ⊢; omega) | (dsimp only at h; omega) | (dsimp only; omega))
            have hY := hY.tr x80 (fun c j hc h => by unfold sq_S; first | omega | (dsimp only at h; omega))
            refine hs_aload (i := 0) (p := 82) (by decide +kernel) rfl ?_
            refine hf_get (T := et_TT) (t := 7) (ci := 5) (f := 5) (p := 85) (by decide +kernel) rfl hH k_rd r5 ?_
            refine hs_aload (i := 0) (p := 86) (by decide +kernel) rfl ?_
            refine hf_get (T := et_TT) (t := 7) (ci := 5) (f := 7) (p := 89) (by decide +kernel) rfl hH k_rd r7 ?_
            refine hs_iload (i := 2) (p := 90) (by decide +kernel) rfl ?_
            refine hf_ist (T := et_TT) (t := 21) (N := 401) (p := 91) (by decide +kernel) rfl rfl (by decide) hH k_ba (by omega) (by decide) (fun s hs => absurd hs List.not_mem_nil) (fun G90 hH x90 e90 => ?_)
            have r0 := (x90.2 rd 0 lt_rd (fun h => (hi_ne k_rd k_ba (by decide)) h.1)).trans r0
            have r1 := (x90.2 rd 1 lt_rd (fun h => (hi_ne k_rd k_ba (by decide)) h.1)).trans r1
            have r4 := (x90.2 rd 4 lt_rd (fun h => (hi_ne k_rd k_ba (by decide)) h.1)).trans r4
            have r5 := (x90.2 rd 5 lt_rd (fun h => (hi_ne k_rd k_ba (by decide)) h.1)).trans r5
            have r6 := (x90.2 rd 6 lt_rd (fun h => (hi_ne k_rd k_ba (by decide)) h.1)).trans r6
            have r7 := (x90.2 rd 7 lt_rd (fun h => (hi_ne k_rd k_ba (by decide)) h.1)).trans r7
            have r2 := (x90.2 rd 2 lt_rd (fun h => (hi_ne k_rd k_ba (by decide)) h.1)).trans r2
            have r3 := (x90.2 rd 3 lt_rd (fun h => (hi_ne k_rd k_ba (by decide)) h.1)).trans r3
            have r8 := (x90.2 rd 8 lt_rd (fun h => (hi_ne k_rd k_ba (by decide)) h.1)).trans r8
            have e80 := (x90.2 ta B.length lt_ta (fun h => (hi_ne k_ta k_ba (by decide)) h.1)).trans e80
            have ht : ∀ i, i < n → et_pl (eg_at G90 tp) i = some (.int (Int32.ofNat (b i))) := fun i hi => (x90.2 tp i lt_tp (fun h => (hi_ne k_tp k_ba (by decide)) h.1)).trans (ht i hi)
            have lt_rd := Nat.lt_of_lt_of_le lt_rd x90.1
            have lt_tp := Nat.lt_of_lt_of_le lt_tp x90.1
            have lt_ta := Nat.lt_of_lt_of_le lt_ta x90.1
            have lt_ba := Nat.lt_of_lt_of_le lt_ba x90.1
            have lt_na := Nat.lt_of_lt_of_le lt_na x90.1
            have hX := hX.tr x90 (fun b j hb h => by first | omega | (dsimp only at h ⊢; omega) | (dsimp only at h; omega) | (dsimp only; omega))
            have hY := hY.tr x90 (fun c j hc h => by unfold sq_S; first | omega | (dsimp only at h; omega))
            refine hs_aload (i := 0) (p := 92) (by decide +kernel) rfl ?_
            refine hf_get (T := et_TT) (t := 7) (ci := 5) (f := 6) (p := 95) (by decide +kernel) rfl hH k_rd r6 ?_
            refine hs_aload (i := 0) (p := 96) (by decide +kernel) rfl ?_
            refine hf_get (T := et_TT) (t := 7) (ci := 5) (f := 7) (p := 99) (by decide +kernel) rfl hH k_rd r7 ?_
            refine hs_aload (i := 0) (p := 100) (by decide +kernel) rfl ?_
            refine hs_iload (i := 2) (p := 101) (by decide +kernel) rfl ?_
            refine hs_iload (i := 3) (p := 102) (by decide +kernel) rfl ?_
            refine ht_callv (T := et_TT) (t := 7) (mi := 74) (na := 2) (ci := 5) (lk := 4) (lm := 5) (L0 := eg_en (eg_mL 74) [.ref rd, .int (Int32.ofNat i), .int (Int32.ofNat (tz_end b n i))]) (by decide +kernel) rfl hH k_rd rfl rfl rfl rfl rfl (by rw [show eg_mL 74 = 5 from by decide +kernel]; first | done | rfl) ?_
            refine (fc_num hH k_rd r0 k_tp r1 hn ht hb (by omega) (by omega)).mono (fun u hu => xp_cb hu ?_)
            show et_go none _ 67 105 _ [.int (tz_i (tz_nm b n i)), .int (Int32.ofNat B.length), .ref na] _ _ _ _
            refine hf_ist (T := et_TT) (t := 21) (N := 401) (p := 106) (by decide +kernel) rfl rfl (by decide) hH k_na (by omega) (by decide) (fun s hs => absurd hs List.not_mem_nil) (fun G105 hH x105 e105 => ?_)
            have r0 := (x105.2 rd 0 lt_rd (fun h => (hi_ne k_rd k_na (by decide)) h.1)).trans r0
            have r1 := (x105.2 rd 1 lt_rd (fun h => (hi_ne k_rd k_na (by decide)) h.1)).trans r1
            have r4 := (x105.2 rd 4 lt_rd (fun h => (hi_ne k_rd k_na (by decide)) h.1)).trans r4
            have r5 := (x105.2 rd 5 lt_rd (fun h => (hi_ne k_rd k_na (by decide)) h.1)).trans r5
            have r6 := (x105.2 rd 6 lt_rd (fun h => (hi_ne k_rd k_na (by decide)) h.1)).trans r6
            have r7 := (x105.2 rd 7 lt_rd (fun h => (hi_ne k_rd k_na (by decide)) h.1)).trans r7
            have r2 := (x105.2 rd 2 lt_rd (fun h => (hi_ne k_rd k_na (by decide)) h.1)).trans r2
            have r3 := (x105.2 rd 3 lt_rd (fun h => (hi_ne k_rd k_na (by decide)) h.1)).trans r3
            have r8 := (x105.2 rd 8 lt_rd (fun h => (hi_ne k_rd k_na (by decide)) h.1)).trans r8
            have e80 := (x105.2 ta B.length lt_ta (fun h => (hi_ne k_ta k_na (by decide)) h.1)).trans e80
            have e90 := (x105.2 ba B.length lt_ba (fun h => hne h.1)).trans e90
            have ht : ∀ i, i < n → et_pl (eg_at G105 tp) i = some (.int (Int32.ofNat (b i))) := fun i hi => (x105.2 tp i lt_tp (fun h => (hi_ne k_tp k_na (by decide)) h.1)).trans (ht i hi)
            have lt_rd := Nat.lt_of_lt_of_le lt_rd x105.1
            have lt_tp := Nat.lt_of_lt_of_le lt_tp x105.1
            have lt_ta := Nat.lt_of_lt_of_le lt_ta x105.1
            have lt_ba := Nat.lt_of_lt_of_le lt_ba x105.1
            have lt_na := Nat.lt_of_lt_of_le lt_na x105.1
            have hX := hX.tr x105 (fun b j hb h => by first | omega | (dsimp only at h ⊢; omega) | (dsimp only at h; omega) | (dsimp only; omega))
            have hY := hY.tr x105 (fun c j hc h => by unfold sq_S; first | omega | (dsimp only at h; omega))
            refine hs_aload (i := 0) (p := 107) (by decide +kernel) rfl ?_
            refine hs_dup1 (p := 108) (by decide +kernel) ?_
            refine hf_get (T := et_TT) (t := 7) (ci := 5) (f := 7) (p := 111) (by decide +kernel) rfl hH k_rd r7 ?_
            refine hs_k (x := Int32.ofNat 1) (p := 112) (by decide +kernel) ?_
            refine hs_iaddn (p := 113) (by decide +kernel) ?_
            refine hf_put (T := et_TT) (t := 7) (ci := 5) (f := 7) (p := 116) (ty := .int) (by decide +kernel) rfl rfl rfl rfl rfl hH k_rd (hi_nv (by omega) (by omega)) (fun G113 hH x113 e113 => ?_)
            have r0 := (x113.2 rd 0 lt_rd (fun h => absurd h.2 (by decide))).trans r0
            have r1 := (x113.2 rd 1 lt_rd (fun h => absurd h.2 (by decide))).trans r1
            have r4 := (x113.2 rd 4 lt_rd (fun h => absurd h.2 (by decide))).trans r4
            have r5 := (x113.2 rd 5 lt_rd (fun h => absurd h.2 (by decide))).trans r5
            have r6 := (x113.2 rd 6 lt_rd (fun h => absurd h.2 (by decide))).trans r6
            have r2 := (x113.2 rd 2 lt_rd (fun h => absurd h.2 (by decide))).trans r2
            have r3 := (x113.2 rd 3 lt_rd (fun h => absurd h.2 (by decide))).trans r3
            have r8 := (x113.2 rd 8 lt_rd (fun h => absurd h.2 (by decide))).trans r8
            have e80 := (x113.2 ta B.length lt_ta (fun h => (hi_ne k_ta k_rd (by decide)) h.1)).trans e80
            have e90 := (x113.2 ba B.length lt_ba (fun h => (hi_ne k_ba k_rd (by decide)) h.1)).trans e90
            have e105 := (x113.2 na B.length lt_na (fun h => (hi_ne k_na k_rd (by decide)) h.1)).trans e105
            have ht : ∀ i, i < n → et_pl (eg_at G113 tp) i = some (.int (Int32.ofNat (b i))) := fun i hi => (x113.2 tp i lt_tp (fun h => (hi_ne k_tp k_rd (by decide)) h.1)).trans (ht i hi)
            have lt_rd := Nat.lt_of_lt_of_le lt_rd x113.1
            have lt_tp := Nat.lt_of_lt_of_le lt_tp x113.1
            have lt_ta := Nat.lt_of_lt_of_le lt_ta x113.1
            have lt_ba := Nat.lt_of_lt_of_le lt_ba x113.1
            have lt_na := Nat.lt_of_lt_of_le lt_na x113.1
            have hX := hX.tr x113 (fun b j hb h => by first | omega | (dsimp only at h ⊢; omega) | (dsimp only at h; omega) | (dsimp only; omega))
            have hY := hY.tr x113 (fun c j hc h => by unfold sq_S; first | omega | (dsimp only at h; omega))
            refine hs_iinc1 (i := 2) (p := 119) (by decide +kernel) rfl (Nat.le_of_ble_eq_true rfl) ?_
            refine hs_goto (p := 22) (by decide +kernel) ?_
            show et_go none _ 67 22 [some (.ref rd), some (.int (Int32.ofNat pl)), some (.int (Int32.ofNat (i + 1))), some (.int (Int32.ofNat (tz_end b n i)))] [] _ _ _ _
            exact ih (n - (i + 1)) (by omega) hH r0 r1 ht r4 r5 r6 hX e113 r2 r3 r8 (tz_bg_y hB c48 g53) (by rw [List.length_append]; rfl) ((hsq.xf hY ltt ltb ltn (hi_ne k_ta k_rd (by decide)) (hi_ne k_ba k_rd (by decide)) (hi_ne k_na k_rd (by decide))).snoc (by omega) e80 e105 e90) (by omega) rfl
theorem fc_split (hH : et_H et_TT K G) (k_rd : K rd = some 7) (r0 : et_pl (eg_at G rd) 0 = some (.ref tp)) (k_tp : K tp = some 33) (r1 : et_pl (eg_at G rd) 1 = some (.int (Int32.ofNat n))) (hn : n ≤ 400) (ht : ∀ i, i < n → et_pl (eg_at G tp) i = some (.int (Int32.ofNat (b i)))) (hb : ∀ i, i < n → b i < 256) (k_ta : K ta = some 41) (k_ba : K ba = some 21) (k_na : K na = some 21) (hne : ¬ ba = na) (r4 : et_pl (eg_at G rd) 4 = some (.ref ta)) (r5 : et_pl (eg_at G rd) 5 = some (.ref ba)) (r6 : et_pl (eg_at G rd) 6 = some (.ref na)) (hpl : pl ≤ 3) (hd : 8 ≤ d2) : et_go none d2 67 0 (eg_en (eg_mL 67) [.ref rd, .int (Int32.ofNat pl)]) [] G 0 0 (xw_Z (fun c j => (c = rd ∧ ((1 ≤ j ∧ j ≤ 3) ∨ 7 ≤ j)) ∨ c = ta ∨ c = ba ∨ c = na) K G (fun G' v => v = none ∧ tk K G' rd (tz_ts pl b n 0) ∧ et_pl (eg_at G' rd) 1 = some (.int (Int32.ofNat 0)) ∧ et_pl (eg_at G' rd) 2 = some (.int (-1)) ∧ et_pl (eg_at G' rd) 3 = some (.int (Int32.ofNat 0)) ∧ et_pl (eg_at G' rd) 8 = some (.int (Int32.ofNat 0)))) := by
  obtain ⟨d, rfl⟩ : ∃ d, d2 = d + 8 := ⟨d2 - 8, by omega⟩
  rw [show eg_mL 67 = 4 from by decide +kernel]
  show et_go none (d + 8) 67 0 [some (.ref rd), some (.int (Int32.ofNat pl)), none, none] [] G 0 0 _
  have lt_rd := (hH.2.2 _ _ k_rd).1
  have lt_tp := (hH.2.2 _ _ k_tp).1
  have lt_ta := (hH.2.2 _ _ k_ta).1
  have lt_ba := (hH.2.2 _ _ k_ba).1
  have lt_na := (hH.2.2 _ _ k_na).1
  have hX : xf (fun c j => (c = rd ∧ ((1 ≤ j ∧ j ≤ 3) ∨ 7 ≤ j)) ∨ c = ta ∨ c = ba ∨ c = na) G G := xf.rf
  refine hs_aload (i := 0) (p := 1) (by decide +kernel) rfl ?_
  refine hs_k (x := (-1)) (p := 2) (by decide +kernel) ?_
  refine hf_put (T := et_TT) (t := 7) (ci := 5) (f := 2) (p := 5) (ty := .int) (by decide +kernel) rfl rfl rfl rfl rfl hH k_rd (hi_iv (by decide) (by decide)) (fun G2 hH x2 e2 => ?_)
  have r0 := (x2.2 rd 0 lt_rd (fun h => absurd h.2 (by decide))).trans r0
  have r1 := (x2.2 rd 1 lt_rd (fun h => absurd h.2 (by decide))).trans r1
  have r4 := (x2.2 rd 4 lt_rd (fun h => absurd h.2 (by decide))).trans r4
  have r5 := (x2.2 rd 5 lt_rd (fun h => absurd h.2 (by decide))).trans r5
  have r6 := (x2.2 rd 6 lt_rd (fun h => absurd h.2 (by decide))).trans r6
  have ht : ∀ i, i < n → et_pl (eg_at G2 tp) i = some (.int (Int32.ofNat (b i))) := fun i hi => (x2.2 tp i lt_tp (fun h => (hi_ne k_tp k_rd (by decide)) h.1)).trans (ht i hi)
  have lt_rd := Nat.lt_of_lt_of_le lt_rd x2.1
  have lt_tp := Nat.lt_of_lt_of_le lt_tp x2.1
  have lt_ta := Nat.lt_of_lt_of_le lt_ta x2.1
  have lt_ba := Nat.lt_of_lt_of_le lt_ba x2.1
  have lt_na := Nat.lt_of_lt_of_le lt_na x2.1
  have hX := hX.tr x2 (fun b j hb h => by first | omega | (dsimp only at h ⊢; omega) | (dsimp only at h; omega) | (dsimp only; omega))
  refine hs_aload (i := 0) (p := 6) (by decide +kernel) rfl ?_
  refine hs_k (x := Int32.ofNat 0) (p := 7) (by decide +kernel) ?_
  refine hf_put (T := et_TT) (t := 7) (ci := 5) (f := 3) (p := 10) (ty := .boolean) (by decide +kernel) rfl rfl rfl (by decide +kernel) rfl hH k_rd (hi_nv (by omega) (by omega)) (fun G7 hH x7 e7 => ?_)
  have r0 := (x7.2 rd 0 lt_rd (fun h => absurd h.2 (by decide))).trans r0
  have r1 := (x7.2 rd 1 lt_rd (fun h => absurd h.2 (by decide))).trans r1
  have r4 := (x7.2 rd 4 lt_rd (fun h => absurd h.2 (by decide))).trans r4
  have r5 := (x7.2 rd 5 lt_rd (fun h => absurd h.2 (by decide))).trans r5
  have r6 := (x7.2 rd 6 lt_rd (fun h => absurd h.2 (by decide))).trans r6
  have e2 := (x7.2 rd 2 lt_rd (fun h => absurd h.2 (by decide))).trans e2
  have ht : ∀ i, i < n → et_pl (eg_at G7 tp) i = some (.int (Int32.ofNat (b i))) := fun i hi => (x7.2 tp i lt_tp (fun h => (hi_ne k_tp k_rd (by decide)) h.1)).trans (ht i hi)
  have lt_rd := Nat.lt_of_lt_of_le lt_rd x7.1
  have lt_tp := Nat.lt_of_lt_of_le lt_tp x7.1
  have lt_ta := Nat.lt_of_lt_of_le lt_ta x7.1
  have lt_ba := Nat.lt_of_lt_of_le lt_ba x7.1
  have lt_na := Nat.lt_of_lt_of_le lt_na x7.1
  have hX := hX.tr x7 (fun b j hb h => by first | omega | (dsimp only at h ⊢; omega) | (dsimp only at h; omega) | (dsimp only; omega))
  refine hs_aload (i := 0) (p := 11) (by decide +kernel) rfl ?_
  refine hs_k (x := Int32.ofNat 0) (p := 12) (by decide +kernel) ?_
  refine hf_put (T := et_TT) (t := 7) (ci := 5) (f := 7) (p := 15) (ty := .int) (by decide +kernel) rfl rfl rfl rfl rfl hH k_rd (hi_nv (by omega) (by omega)) (fun G12 hH x12 e12 => ?_)
  have r0 := (x12.2 rd 0 lt_rd (fun h => absurd h.2 (by decide))).trans r0
  have r1 := (x12.2 rd 1 lt_rd (fun h => absurd h.2 (by decide))).trans r1
  have r4 := (x12.2 rd 4 lt_rd (fun h => absurd h.2 (by decide))).trans r4
  have r5 := (x12.2 rd 5 lt_rd (fun h => absurd h.2 (by decide))).trans r5
  have r6 := (x12.2 rd 6 lt_rd (fun h => absurd h.2 (by decide))).trans r6
  have e2 := (x12.2 rd 2 lt_rd (fun h => absurd h.2 (by decide))).trans e2
  have e7 := (x12.2 rd 3 lt_rd (fun h => absurd h.2 (by decide))).trans e7
  have ht : ∀ i, i < n → et_pl (eg_at G12 tp) i = some (.int (Int32.ofNat (b i))) := fun i hi => (x12.2 tp i lt_tp (fun h => (hi_ne k_tp k_rd (by decide)) h.1)).trans (ht i hi)
  have lt_rd := Nat.lt_of_lt_of_le lt_rd x12.1
  have lt_tp := Nat.lt_of_lt_of_le lt_tp x12.1
  have lt_ta := Nat.lt_of_lt_of_le lt_ta x12.1
  have lt_ba := Nat.lt_of_lt_of_le lt_ba x12.1
  have lt_na := Nat.lt_of_lt_of_le lt_na x12.1
  have hX := hX.tr x12 (fun b j hb h => by first | omega | (dsimp only at h ⊢; omega) | (dsimp only at h; omega) | (dsimp only; omega))
  refine hs_aload (i := 0) (p := 16) (by decide +kernel) rfl ?_
  refine hs_k (x := Int32.ofNat 0) (p := 17) (by decide +kernel) ?_
  refine hf_put (T := et_TT) (t := 7) (ci := 5) (f := 8) (p := 20) (ty := .int) (by decide +kernel) rfl rfl rfl rfl rfl hH k_rd (hi_nv (by omega) (by omega)) (fun G17 hH x17 e17 => ?_)
  have r0 := (x17.2 rd 0 lt_rd (fun h => absurd h.2 (by decide))).trans r0
  have r1 := (x17.2 rd 1 lt_rd (fun h => absurd h.2 (by decide))).trans r1
  have r4 := (x17.2 rd 4 lt_rd (fun h => absurd h.2 (by decide))).trans r4
  have r5 := (x17.2 rd 5 lt_rd (fun h => absurd h.2 (by decide))).trans r5
  have r6 := (x17.2 rd 6 lt_rd (fun h => absurd h.2 (by decide))).trans r6
  have e2 := (x17.2 rd 2 lt_rd (fun h => absurd h.2 (by decide))).trans e2
  have e7 := (x17.2 rd 3 lt_rd (fun h => absurd h.2 (by decide))).trans e7
  have e12 := (x17.2 rd 7 lt_rd (fun h => absurd h.2 (by decide))).trans e12
  have ht : ∀ i, i < n → et_pl (eg_at G17 tp) i = some (.int (Int32.ofNat (b i))) := fun i hi => (x17.2 tp i lt_tp (fun h => (hi_ne k_tp k_rd (by decide)) h.1)).trans (ht i hi)
  have lt_rd := Nat.lt_of_lt_of_le lt_rd x17.1
  have lt_tp := Nat.lt_of_lt_of_le lt_tp x17.1
  have lt_ta := Nat.lt_of_lt_of_le lt_ta x17.1
  have lt_ba := Nat.lt_of_lt_of_le lt_ba x17.1
  have lt_na := Nat.lt_of_lt_of_le lt_na x17.1
  have hX := hX.tr x17 (fun b j hb h => by first | omega | (dsimp only at h ⊢; omega) | (dsimp only at h; omega) | (dsimp only; omega))
  refine hs_k (x := Int32.ofNat 0) (p := 21) (by decide +kernel) ?_
  refine hs_istore (i := 2) (p := 22) (by decide +kernel) (Nat.le_of_ble_eq_true rfl) ?_
  exact fc_spL hH k_rd r0 k_tp r1 hn ht hb k_ta k_ba k_na hne r4 r5 r6 hpl hX e12 e2 e7 e17 (i := 0) rfl rfl (fun j x hj => by cases hj) (Nat.zero_le _)
end FMA
end
section
/-! FUNCTIONAL: the class's parser, its small calls -/
/-- the word that stands at x (34: the end) -/
def wat (L : List sp_T) (x : Nat) : Nat := match L[x]? with
  | some t => t.1
  | none => 34
def tl (L : List sp_T) : Prop := ∀ t ∈ L, t.1 < 36 ∧ ∀ v, t.2 = some v → v < 10000
theorem wat_lt {L : List sp_T} (h : tl L) {x : Nat} : wat L x < 36 := by
  unfold wat
  split
  · rename_i t e
    exact (h t (List.mem_of_getElem? e)).1
  · decide
def rxS (rd : Nat) (c j : Nat) : Prop := c = rd ∧ (j = 2 ∨ j = 3 ∨ j = 8)
theorem tk.w {K : et_K} {G : eg_G} {rd x ta : Nat} {L : List sp_T} (h : tk K G rd L) (hx : x ≤ L.length) (h4 : et_pl (eg_at G rd) 4 = some (.ref ta)) : et_pl (eg_at G ta) x = some (.ref (wat L x)) := by
  obtain ⟨ta', ba, na, -, ⟨r4, -⟩, -, h9, h10, -⟩ := h
  obtain rfl : ta = ta' := Value.ref.inj (Option.some.inj (h4.symm.trans r4))
  unfold wat
  by_cases e : x < L.length
  · rw [List.getElem?_eq_getElem e]
    exact (h9 x _ (List.getElem?_eq_getElem e)).1
  · obtain rfl : x = L.length := by omega
    rw [List.getElem?_eq_none (Nat.le_refl _)]
    exact h10
theorem tk.n {K : et_K} {G : eg_G} {rd x na : Nat} {L : List sp_T} {t : sp_T} (h : tk K G rd L) (hx : L[x]? = some t) (h6 : et_pl (eg_at G rd) 6 = some (.ref na)) : et_pl (eg_at G na) x = some (.int (tz_i t.2)) := by
  obtain ⟨ta, ba, na', -, ⟨-, -, r6, -⟩, -, h9, -⟩ := h
  obtain rfl : na = na' := Value.ref.inj (Option.some.inj (h6.symm.trans r6))
  exact (h9 x t hx).2
theorem tk.b {K : et_K} {G : eg_G} {rd x ba : Nat} {L : List sp_T} (h : tk K G rd L) (hx : x ≤ L.length) (h5 : et_pl (eg_at G rd) 5 = some (.ref ba)) : ∃ q, q ≤ 400 ∧ et_pl (eg_at G ba) x = some (.int (Int32.ofNat q)) := by
  obtain ⟨ta, ba', na, -, ⟨-, r5, -⟩, -, -, -, h11⟩ := h
  obtain rfl : ba = ba' := Value.ref.inj (Option.some.inj (h5.symm.trans r5))
  exact h11 x hx
/-- tokens stay under steps that write the reader's place or pieces -/
theorem tk.xf {S : Nat → Nat → Prop} {K K' : et_K} {G G' : eg_G} {rd : Nat} {L : List sp_T} (h : tk K G rd L) (hH : et_H et_TT K G) (k_rd : K rd = some 7) (hx : et_ex K K') (hf : xf S G G') (hS : ∀ a j, S a j → (a = rd ∧ (j = 2 ∨ j = 3 ∨ j = 8)) ∨ K a = some 6 ∨ G.2 ≤ a) : tk K' G' rd L := by
  obtain ⟨ta, ba, na, ⟨h1, h2, h3⟩, ⟨h4, h5, h6, h7⟩, h8, h9, h10, h11⟩ := h
  have lr := (hH.2.2 _ _ k_rd).1
  have nn : ∀ a t, K a = some t → ¬ t = 7 → ¬ t = 6 → ∀ j, ¬ S a j := fun a t ha h7 h6 j hs => by
    rcases hS a j hs with ⟨e, -⟩ | e | e
    · rw [e, k_rd] at ha
      cases ha
      exact h7 rfl
    · rw [e] at ha
      cases ha
      exact h6 rfl
    · have := (hH.2.2 _ _ ha).1
      omega
  have nr : ∀ j, 4 ≤ j → j ≤ 7 → ¬ S rd j := fun j j1 j2 hs => by
    rcases hS rd j hs with ⟨-, e⟩ | e | e
    · omega
    · rw [k_rd] at e
      cases e
    · omega
  refine ⟨ta, ba, na, ⟨hx _ _ h1, hx _ _ h2, hx _ _ h3⟩, ⟨(hf.2 rd 4 lr (nr 4 (by decide) (by decide))).trans h4, (hf.2 rd 5 lr (nr 5 (by decide) (by decide))).trans h5, (hf.2 rd 6 lr (nr 6 (by decide) (by decide))).trans h6, (hf.2 rd 7 lr (nr 7 (by decide) (by decide))).trans h7⟩, h8, fun j x hj => ⟨(hf.2 ta j (hH.2.2 _ _ h1).1 (nn ta 41 h1 (by decide) (by decide) j)).trans (h9 j x hj).1, (hf.2 na j (hH.2.2 _ _ h3).1 (nn na 21 h3 (by decide) (by decide) j)).trans (h9 j x hj).2⟩, (hf.2 ta _ (hH.2.2 _ _ h1).1 (nn ta 41 h1 (by decide) (by decide) _)).trans h10, fun j hj => ?_⟩
  obtain ⟨q, q1, q2⟩ := h11 j hj
  exact ⟨q, q1, (hf.2 ba j (hH.2.2 _ _ h2).1 (nn ba 21 h2 (by decide) (by decide) j)).trans q2⟩
theorem tk_kd {w : Nat} (hw : w < 36) : ([.int (Int32.ofNat w), .ref (36 + (eg_wf.getD w (0, 0, 0)).1), .int (eg_wf.getD w (0, 0, 0)).2.1, .int (eg_wf.getD w (0, 0, 0)).2.2] : List Value)[3]? = some (.int (Int32.ofNat (if sp_tw w = true then 1 else if sp_fw w = true then 2 else 0))) := by
  have h : ∀ w ∈ List.range 36, (eg_wf.getD w (0, 0, 0)).2.2 = Int32.ofNat (if sp_tw w = true then 1 else if sp_fw w = true then 2 else 0) := by decide +kernel
  show some (Value.int (eg_wf.getD w (0, 0, 0)).2.2) = _
  rw [h w (List.mem_range.mpr hw)]
theorem tk_tf {w : Nat} (h : sp_fw w = true) : sp_tw w = false := by
  refine Bool.eq_false_iff.mpr (fun h2 => ?_)
  unfold sp_fw at h
  unfold sp_tw at h2
  simp only [Bool.or_eq_true, Bool.and_eq_true, Nat.ble_eq, beq_iff_eq] at h h2
  omega
theorem wat_t {L : List sp_T} {x w : Nat} (h : wat L x = w) (hw : ¬ w = 34) : ∃ n, L[x]? = some (w, n) ∧ x < L.length := by
  unfold wat at h
  split at h
  · rename_i t e
    subst h
    exact ⟨t.2, e, (List.getElem?_eq_some_iff.mp e).1⟩
  · exact absurd h.symm hw
theorem xi_nm1 {q : Nat} (h : q < 2147483648) : ¬ Int32.ofNat q = -1 := fun e => by
  have h1 := congrArg Int32.toInt e
  rw [hs_nint h] at h1
  have h2 : (-1 : Int32).toInt = -1 := by decide
  rw [h2] at h1
  omega

section FNA
variable {K : et_K} {G : eg_G} {L : List sp_T} {d2 d rd x wd mo : Nat}
theorem fc_is (hH : et_H et_TT K G) (k_rd : K rd = some 7) (htk : tk K G rd L) (htl : tl L) (r8 : et_pl (eg_at G rd) 8 = some (.int (Int32.ofNat x))) (hx : x ≤ L.length) (hw : wd < 36) : et_go none d2 78 0 (eg_en (eg_mL 78) [.ref rd, .ref wd]) [] G 0 0 (xp_Z G (some (.int (Int32.ofNat (if wat L x = wd then 1 else 0))))) := by
  obtain ⟨ta, ba, na, ⟨k_ta, k_ba, k_na⟩, ⟨r4, r5, r6, r7⟩, hl4, -⟩ := id htk
  have k_wd : K wd = some 0 := hH.2.1 _ hw
  rw [show eg_mL 78 = 2 from by decide +kernel]
  show et_go none d2 78 0 [some (.ref rd), some (.ref wd)] [] G 0 0 _
  refine hs_aload (i := 0) (p := 1) (by decide +kernel) rfl ?_
  refine hf_get (T := et_TT) (t := 7) (ci := 5) (f := 8) (p := 4) (by decide +kernel) rfl hH k_rd r8 ?_
  refine hs_aload (i := 0) (p := 5) (by decide +kernel) rfl ?_
  refine hf_get (T := et_TT) (t := 7) (ci := 5) (f := 7) (p := 8) (by decide +kernel) rfl hH k_rd r7 ?_
  refine hs_br2n (c := .ge) (t := 28) (f := 11) (by decide +kernel) (by omega) (by omega) (fun (c8 : (L.length + 1) ≤ x) => ?_) (fun (c8 : ¬ ((L.length + 1) ≤ x)) => ?_)
  · exact absurd c8 (by omega)
  · refine hs_aload (i := 0) (p := 12) (by decide +kernel) rfl ?_
    refine hf_get (T := et_TT) (t := 7) (ci := 5) (f := 4) (p := 15) (by decide +kernel) rfl hH k_rd r4 ?_
    refine hs_aload (i := 0) (p := 16) (by decide +kernel) rfl ?_
    refine hf_get (T := et_TT) (t := 7) (ci := 5) (f := 8) (p := 19) (by decide +kernel) rfl hH k_rd r8 ?_
    refine hf_ald (ins := .aaload) (T := et_TT) (t := 41) (kd := 9) (N := 401) (p := 20) (by decide +kernel) (fun _ _ _ _ _ _ _ _ _ _ => rfl) rfl rfl rfl hH k_ta (by decide) (htk.w hx r4) ?_
    refine hs_aload (i := 1) (p := 21) (by decide +kernel) rfl ?_
    refine hf_acm (c := .ne) (tt := 28) (ff := 24) (by decide +kernel) (hi_ca hH (hH.2.1 _ (wat_lt htl)) (.inl rfl)) (hi_ca hH k_wd (by decide)) (fun (q21 : ¬ Value.ref (wat L x) = .ref wd) => ?_) (fun (q21 : ¬ ¬ Value.ref (wat L x) = .ref wd) => ?_)
    · have q21 : ¬ (wat L x) = wd := fun h => q21 (by rw [h])
      refine hs_k (x := Int32.ofNat 0) (p := 29) (by decide +kernel) ?_
      refine hs_zret (by decide +kernel) (.inl rfl) ?_
      rw [if_neg q21]
      rfl
    · have q21 : (wat L x) = wd := Value.ref.inj (Decidable.of_not_not q21)
      refine hs_k (x := Int32.ofNat 1) (p := 25) (by decide +kernel) ?_
      refine hs_goto (p := 29) (by decide +kernel) ?_
      refine hs_zret (by decide +kernel) (.inr rfl) ?_
      rw [if_pos q21]
      rfl
theorem fc_wh1 (hH : et_H et_TT K G) (k_rd : K rd = some 7) (htk : tk K G rd L) (htl : tl L) (r8 : et_pl (eg_at G rd) 8 = some (.int (Int32.ofNat x))) (hx : x ≤ L.length) : et_go none d2 79 0 (eg_en (eg_mL 79) [.ref rd, .int (Int32.ofNat 1)]) [] G 0 0 (xp_Z G (some (if sp_tw (wat L x) = true then .ref (wat L x) else .null))) := by
  obtain ⟨ta, ba, na, ⟨k_ta, k_ba, k_na⟩, ⟨r4, r5, r6, r7⟩, hl4, -⟩ := id htk
  rw [show eg_mL 79 = 2 from by decide +kernel]
  show et_go none d2 79 0 [some (.ref rd), some (.int (Int32.ofNat 1))] [] G 0 0 _
  refine hs_aload (i := 0) (p := 1) (by decide +kernel) rfl ?_
  refine hf_get (T := et_TT) (t := 7) (ci := 5) (f := 8) (p := 4) (by decide +kernel) rfl hH k_rd r8 ?_
  refine hs_aload (i := 0) (p := 5) (by decide +kernel) rfl ?_
  refine hf_get (T := et_TT) (t := 7) (ci := 5) (f := 7) (p := 8) (by decide +kernel) rfl hH k_rd r7 ?_
  refine hs_br2n (c := .ge) (t := 51) (f := 11) (by decide +kernel) (by omega) (by omega) (fun (c8 : (L.length + 1) ≤ x) => ?_) (fun (c8 : ¬ ((L.length + 1) ≤ x)) => ?_)
  · exact absurd c8 (by omega)
  · refine hs_aload (i := 0) (p := 12) (by decide +kernel) rfl ?_
    refine hf_get (T := et_TT) (t := 7) (ci := 5) (f := 4) (p := 15) (by decide +kernel) rfl hH k_rd r4 ?_
    refine hs_aload (i := 0) (p := 16) (by decide +kernel) rfl ?_
    refine hf_get (T := et_TT) (t := 7) (ci := 5) (f := 8) (p := 19) (by decide +kernel) rfl hH k_rd r8 ?_
    refine hf_ald (ins := .aaload) (T := et_TT) (t := 41) (kd := 9) (N := 401) (p := 20) (by decide +kernel) (fun _ _ _ _ _ _ _ _ _ _ => rfl) rfl rfl rfl hH k_ta (by decide) (htk.w hx r4) ?_
    refine hs_ifnull1 (p := 23) (by decide +kernel) ?_
    refine hs_aload (i := 0) (p := 24) (by decide +kernel) rfl ?_
    refine hf_get (T := et_TT) (t := 7) (ci := 5) (f := 4) (p := 27) (by decide +kernel) rfl hH k_rd r4 ?_
    refine hs_aload (i := 0) (p := 28) (by decide +kernel) rfl ?_
    refine hf_get (T := et_TT) (t := 7) (ci := 5) (f := 8) (p := 31) (by decide +kernel) rfl hH k_rd r8 ?_
    refine hf_ald (ins := .aaload) (T := et_TT) (t := 41) (kd := 9) (N := 401) (p := 32) (by decide +kernel) (fun _ _ _ _ _ _ _ _ _ _ => rfl) rfl rfl rfl hH k_ta (by decide) (htk.w hx r4) ?_
    refine hs_get (ci := 12) (f := 3) (p := 35) (by decide +kernel) (hw_at (wat_lt htl)) (by have := (wat_lt htl (x := x)); have := hH.1; have hNC : eg_NC = 152 := rfl; omega) (tk_kd (wat_lt htl)) ?_
    have hkd : (if sp_tw (wat L x) = true then 1 else if sp_fw (wat L x) = true then 2 else 0) ≤ 2 := by split; decide; split <;> decide
    refine hs_iload (i := 1) (p := 36) (by decide +kernel) rfl ?_
    refine hs_br2n (c := .ne) (t := 51) (f := 39) (by decide +kernel) (by omega) (by omega) (fun (c36 : ¬ (if sp_tw (wat L x) = true then 1 else if sp_fw (wat L x) = true then 2 else 0) = 1) => ?_) (fun (c36 : ¬ (¬ (if sp_tw (wat L x) = true then 1 else if sp_fw (wat L x) = true then 2 else 0) = 1)) => ?_)
    · refine hs_nul (p := 52) (by decide +kernel) ?_
      refine hs_aretN (cn := "KnobEye$Word") (by decide +kernel) ?_
      rw [if_neg (fun h => by rw [if_pos h] at c36; exact c36 rfl)]
      rfl
    · refine hs_aload (i := 0) (p := 40) (by decide +kernel) rfl ?_
      refine hf_get (T := et_TT) (t := 7) (ci := 5) (f := 4) (p := 43) (by decide +kernel) rfl hH k_rd r4 ?_
      refine hs_aload (i := 0) (p := 44) (by decide +kernel) rfl ?_
      refine hf_get (T := et_TT) (t := 7) (ci := 5) (f := 8) (p := 47) (by decide +kernel) rfl hH k_rd r8 ?_
      refine hf_ald (ins := .aaload) (T := et_TT) (t := 41) (kd := 9) (N := 401) (p := 48) (by decide +kernel) (fun _ _ _ _ _ _ _ _ _ _ => rfl) rfl rfl rfl hH k_ta (by decide) (htk.w hx r4) ?_
      refine hs_goto (p := 52) (by decide +kernel) ?_
      refine hs_aret (cn := "KnobEye$Word") (by decide +kernel) ?_
      rw [if_pos (Decidable.by_contra (fun h => by rw [if_neg h] at c36; split at c36 <;> exact c36 (by decide)))]
      rfl
theorem fc_wh2 (hH : et_H et_TT K G) (k_rd : K rd = some 7) (htk : tk K G rd L) (htl : tl L) (r8 : et_pl (eg_at G rd) 8 = some (.int (Int32.ofNat x))) (hx : x ≤ L.length) : et_go none d2 79 0 (eg_en (eg_mL 79) [.ref rd, .int (Int32.ofNat 2)]) [] G 0 0 (xp_Z G (some (if sp_fw (wat L x) = true then .ref (wat L x) else .null))) := by
  obtain ⟨ta, ba, na, ⟨k_ta, k_ba, k_na⟩, ⟨r4, r5, r6, r7⟩, hl4, -⟩ := id htk
  rw [show eg_mL 79 = 2 from by decide +kernel]
  show et_go none d2 79 0 [some (.ref rd), some (.int (Int32.ofNat 2))] [] G 0 0 _
  refine hs_aload (i := 0) (p := 1) (by decide +kernel) rfl ?_
  refine hf_get (T := et_TT) (t := 7) (ci := 5) (f := 8) (p := 4) (by decide +kernel) rfl hH k_rd r8 ?_
  refine hs_aload (i := 0) (p := 5) (by decide +kernel) rfl ?_
  refine hf_get (T := et_TT) (t := 7) (ci := 5) (f := 7) (p := 8) (by decide +kernel) rfl hH k_rd r7 ?_
  refine hs_br2n (c := .ge) (t := 51) (f := 11) (by decide +kernel) (by omega) (by omega) (fun (c8 : (L.length + 1) ≤ x) => ?_) (fun (c8 : ¬ ((L.length + 1) ≤ x)) => ?_)
  · exact absurd c8 (by omega)
  · refine hs_aload (i := 0) (p := 12) (by decide +kernel) rfl ?_
    refine hf_get (T := et_TT) (t := 7) (ci := 5) (f := 4) (p := 15) (by decide +kernel) rfl hH k_rd r4 ?_
    refine hs_aload (i := 0) (p := 16) (by decide +kernel) rfl ?_
    refine hf_get (T := et_TT) (t := 7) (ci := 5) (f := 8) (p := 19) (by decide +kernel) rfl hH k_rd r8 ?_
    refine hf_ald (ins := .aaload) (T := et_TT) (t := 41) (kd := 9) (N := 401) (p := 20) (by decide +kernel) (fun _ _ _ _ _ _ _ _ _ _ => rfl) rfl rfl rfl hH k_ta (by decide) (htk.w hx r4) ?_
    refine hs_ifnull1 (p := 23) (by decide +kernel) ?_
    refine hs_aload (i := 0) (p := 24) (by decide +kernel) rfl ?_
    refine hf_get (T := et_TT) (t := 7) (ci := 5) (f := 4) (p := 27) (by decide +kernel) rfl hH k_rd r4 ?_
    refine hs_aload (i := 0) (p := 28) (by decide +kernel) rfl ?_
    refine hf_get (T := et_TT) (t := 7) (ci := 5) (f := 8) (p := 31) (by decide +kernel) rfl hH k_rd r8 ?_
    refine hf_ald (ins := .aaload) (T := et_TT) (t := 41) (kd := 9) (N := 401) (p := 32) (by decide +kernel) (fun _ _ _ _ _ _ _ _ _ _ => rfl) rfl rfl rfl hH k_ta (by decide) (htk.w hx r4) ?_
    refine hs_get (ci := 12) (f := 3) (p := 35) (by decide +kernel) (hw_at (wat_lt htl)) (by have := (wat_lt htl (x := x)); have := hH.1; have hNC : eg_NC = 152 := rfl; omega) (tk_kd (wat_lt htl)) ?_
    have hkd : (if sp_tw (wat L x) = true then 1 else if sp_fw (wat L x) = true then 2 else 0) ≤ 2 := by split; decide; split <;> decide
    refine hs_iload (i := 1) (p := 36) (by decide +kernel) rfl ?_
    refine hs_br2n (c := .ne) (t := 51) (f := 39) (by decide +kernel) (by omega) (by omega) (fun (c36 : ¬ (if sp_tw (wat L x) = true then 1 else if sp_fw (wat L x) = true then 2 else 0) = 2) => ?_) (fun (c36 : ¬ (¬ (if sp_tw (wat L x) = true then 1 else if sp_fw (wat L x) = true then 2 else 0) = 2)) => ?_)
    · refine hs_nul (p := 52) (by decide +kernel) ?_
      refine hs_aretN (cn := "KnobEye$Word") (by decide +kernel) ?_
      rw [if_neg (fun h => by rw [if_neg (by rw [tk_tf h]; decide), if_pos h] at c36; exact c36 rfl)]
      rfl
    · refine hs_aload (i := 0) (p := 40) (by decide +kernel) rfl ?_
      refine hf_get (T := et_TT) (t := 7) (ci := 5) (f := 4) (p := 43) (by decide +kernel) rfl hH k_rd r4 ?_
      refine hs_aload (i := 0) (p := 44) (by decide +kernel) rfl ?_
      refine hf_get (T := et_TT) (t := 7) (ci := 5) (f := 8) (p := 47) (by decide +kernel) rfl hH k_rd r8 ?_
      refine hf_ald (ins := .aaload) (T := et_TT) (t := 41) (kd := 9) (N := 401) (p := 48) (by decide +kernel) (fun _ _ _ _ _ _ _ _ _ _ => rfl) rfl rfl rfl hH k_ta (by decide) (htk.w hx r4) ?_
      refine hs_goto (p := 52) (by decide +kernel) ?_
      refine hs_aret (cn := "KnobEye$Word") (by decide +kernel) ?_
      rw [if_pos (Decidable.by_contra (fun h => by rw [if_neg h] at c36; split at c36 <;> exact c36 (by decide)))]
      rfl
theorem fc_fail (hH : et_H et_TT K G) (k_rd : K rd = some 7) (htk : tk K G rd L) (htl : tl L) (r8 : et_pl (eg_at G rd) 8 = some (.int (Int32.ofNat x))) (hx : x ≤ L.length) (r2 : et_pl (eg_at G rd) 2 = some (.int (-1))) : et_go none d2 76 0 (eg_en (eg_mL 76) [.ref rd]) [] G 0 0 (xw_Z (fun b j => (b = rd ∧ j = 2)) K G (fun G' v => v = some .null ∧ ∃ q, q ≤ 400 ∧ et_pl (eg_at G' rd) 2 = some (.int (Int32.ofNat q)))) := by
  obtain ⟨ta, ba, na, ⟨k_ta, k_ba, k_na⟩, ⟨r4, r5, r6, r7⟩, hl4, -⟩ := id htk
  obtain ⟨z, hz, hbz⟩ := htk.b hx r5
  rw [show eg_mL 76 = 1 from by decide +kernel]
  show et_go none d2 76 0 [some (.ref rd)] [] G 0 0 _
  have lt_rd := (hH.2.2 _ _ k_rd).1
  have lt_ta := (hH.2.2 _ _ k_ta).1
  have lt_ba := (hH.2.2 _ _ k_ba).1
  have lt_na := (hH.2.2 _ _ k_na).1
  have hX : xf (fun b j => (b = rd ∧ j = 2)) G G := xf.rf
  refine hs_aload (i := 0) (p := 1) (by decide +kernel) rfl ?_
  refine hf_get (T := et_TT) (t := 7) (ci := 5) (f := 2) (p := 4) (by decide +kernel) rfl hH k_rd r2 ?_
  refine hs_k (x := (-1)) (p := 5) (by decide +kernel) ?_
  refine hs_br2 (c := .ne) (t := 32) (f := 8) (by decide +kernel) (fun (c5 : ¬ (-1) = (-1)) => ?_) (fun (c5 : ¬ (¬ (-1) = (-1))) => ?_)
  · exact absurd rfl c5
  · refine hs_aload (i := 0) (p := 9) (by decide +kernel) rfl ?_
    refine hf_get (T := et_TT) (t := 7) (ci := 5) (f := 8) (p := 12) (by decide +kernel) rfl hH k_rd r8 ?_
    refine hs_aload (i := 0) (p := 13) (by decide +kernel) rfl ?_
    refine hf_get (T := et_TT) (t := 7) (ci := 5) (f := 7) (p := 16) (by decide +kernel) rfl hH k_rd r7 ?_
    refine hs_br2n (c := .ge) (t := 32) (f := 19) (by decide +kernel) (by omega) (by omega) (fun (c16 : (L.length + 1) ≤ x) => ?_) (fun (c16 : ¬ ((L.length + 1) ≤ x)) => ?_)
    · exact absurd c16 (by omega)
    · refine hs_aload (i := 0) (p := 20) (by decide +kernel) rfl ?_
      refine hs_aload (i := 0) (p := 21) (by decide +kernel) rfl ?_
      refine hf_get (T := et_TT) (t := 7) (ci := 5) (f := 5) (p := 24) (by decide +kernel) rfl hH k_rd r5 ?_
      refine hs_aload (i := 0) (p := 25) (by decide +kernel) rfl ?_
      refine hf_get (T := et_TT) (t := 7) (ci := 5) (f := 8) (p := 28) (by decide +kernel) rfl hH k_rd r8 ?_
      refine hf_ald (ins := .iaload) (T := et_TT) (t := 21) (kd := 0) (N := 401) (p := 29) (by decide +kernel) (fun _ _ _ _ _ _ _ _ _ _ => rfl) rfl rfl rfl hH k_ba (by decide) hbz ?_
      refine hf_put (T := et_TT) (t := 7) (ci := 5) (f := 2) (p := 32) (ty := .int) (by decide +kernel) rfl rfl rfl rfl rfl hH k_rd hi_any (fun G29 hH x29 e29 => ?_)
      have r4 := (x29.2 rd 4 lt_rd (fun h => absurd h.2 (by decide))).trans r4
      have r5 := (x29.2 rd 5 lt_rd (fun h => absurd h.2 (by decide))).trans r5
      have r6 := (x29.2 rd 6 lt_rd (fun h => absurd h.2 (by decide))).trans r6
      have r7 := (x29.2 rd 7 lt_rd (fun h => absurd h.2 (by decide))).trans r7
      have r8 := (x29.2 rd 8 lt_rd (fun h => absurd h.2 (by decide))).trans r8
      have lt_rd := Nat.lt_of_lt_of_le lt_rd x29.1
      have lt_ta := Nat.lt_of_lt_of_le lt_ta x29.1
      have lt_ba := Nat.lt_of_lt_of_le lt_ba x29.1
      have lt_na := Nat.lt_of_lt_of_le lt_na x29.1
      have hX := hX.tr x29 (fun b j hb h => by first | omega | (dsimp only at h ⊢; omega) | (dsimp only at h; omega) | (dsimp only; omega))
      refine hs_nul (p := 33) (by decide +kernel) ?_
      refine hs_aretN (cn := "KnobEye$Node") (by decide +kernel) ?_
      exact ⟨_, _, rfl, hH, hX, rfl, _, hz, e29⟩
theorem fc_failq (hH : et_H et_TT K G) (k_rd : K rd = some 7) (htk : tk K G rd L) (htl : tl L) (r8 : et_pl (eg_at G rd) 8 = some (.int (Int32.ofNat x))) (hx : x ≤ L.length) {q : Nat} (hq : q ≤ 400) (r2 : et_pl (eg_at G rd) 2 = some (.int (Int32.ofNat q))) : et_go none d2 76 0 (eg_en (eg_mL 76) [.ref rd]) [] G 0 0 (xw_Z (fun b j => (b = rd ∧ j = 2)) K G (fun G' v => v = some .null ∧ ∃ q, q ≤ 400 ∧ et_pl (eg_at G' rd) 2 = some (.int (Int32.ofNat q)))) := by
  obtain ⟨ta, ba, na, ⟨k_ta, k_ba, k_na⟩, ⟨r4, r5, r6, r7⟩, hl4, -⟩ := id htk
  obtain ⟨z, hz, hbz⟩ := htk.b hx r5
  rw [show eg_mL 76 = 1 from by decide +kernel]
  show et_go none d2 76 0 [some (.ref rd)] [] G 0 0 _
  have lt_rd := (hH.2.2 _ _ k_rd).1
  have lt_ta := (hH.2.2 _ _ k_ta).1
  have lt_ba := (hH.2.2 _ _ k_ba).1
  have lt_na := (hH.2.2 _ _ k_na).1
  have hX : xf (fun b j => (b = rd ∧ j = 2)) G G := xf.rf
  refine hs_aload (i := 0) (p := 1) (by decide +kernel) rfl ?_
  refine hf_get (T := et_TT) (t := 7) (ci := 5) (f := 2) (p := 4) (by decide +kernel) rfl hH k_rd r2 ?_
  refine hs_k (x := (-1)) (p := 5) (by decide +kernel) ?_
  refine hs_br2 (c := .ne) (t := 32) (f := 8) (by decide +kernel) (fun (c5 : ¬ Int32.ofNat q = (-1)) => ?_) (fun (c5 : ¬ (¬ Int32.ofNat q = (-1))) => ?_)
  · refine hs_nul (p := 33) (by decide +kernel) ?_
    refine hs_aretN (cn := "KnobEye$Node") (by decide +kernel) ?_
    exact ⟨_, _, rfl, hH, hX, rfl, _, hq, r2⟩
  · exact absurd (Decidable.of_not_not c5) (xi_nm1 (by omega))
theorem xi_m1 {v : Nat} (h : v < 2147483648) : ¬ Int32.ofNat v < 0 := rs_nn h
theorem fc_tn (hH : et_H et_TT K G) (k_rd : K rd = some 7) (htk : tk K G rd L) (htl : tl L) (r8 : et_pl (eg_at G rd) 8 = some (.int (Int32.ofNat x))) (hx : x ≤ L.length) (r2 : et_pl (eg_at G rd) 2 = some (.int (-1))) (hmo : mo ≤ 100) (hd : 1 ≤ d2) : et_go none d2 83 0 (eg_en (eg_mL 83) [.ref rd, .int (Int32.ofNat mo)]) [] G 0 0 (xw_Z (fun b j => (b = rd ∧ j = 2) ∨ (b = rd ∧ j = 8)) K G (fun G' r => (∃ v, L[x]? = some (33, some v) ∧ v ≤ mo ∧ r = some (.int (Int32.ofNat v)) ∧ et_pl (eg_at G' rd) 8 = some (.int (Int32.ofNat (x + 1))) ∧ et_pl (eg_at G' rd) 2 = some (.int (-1))) ∨ ((∀ v, L[x]? = some (33, some v) → ¬ v ≤ mo) ∧ r = some (.int (-1)) ∧ et_pl (eg_at G' rd) 8 = some (.int (Int32.ofNat x)) ∧ ∃ q, q ≤ 400 ∧ et_pl (eg_at G' rd) 2 = some (.int (Int32.ofNat q))))) := by
  obtain ⟨d, rfl⟩ : ∃ d, d2 = d + 1 := ⟨d2 - 1, by omega⟩
  obtain ⟨ta, ba, na, ⟨k_ta, k_ba, k_na⟩, ⟨r4, r5, r6, r7⟩, hl4, -⟩ := id htk
  rw [show eg_mL 83 = 3 from by decide +kernel]
  show et_go none (d + 1) 83 0 [some (.ref rd), some (.int (Int32.ofNat mo)), none] [] G 0 0 _
  have lt_rd := (hH.2.2 _ _ k_rd).1
  have lt_ta := (hH.2.2 _ _ k_ta).1
  have lt_ba := (hH.2.2 _ _ k_ba).1
  have lt_na := (hH.2.2 _ _ k_na).1
  have hX : xf (fun b j => (b = rd ∧ j = 2) ∨ (b = rd ∧ j = 8)) G G := xf.rf
  refine hs_aload (i := 0) (p := 1) (by decide +kernel) rfl ?_
  refine hf_get (T := et_TT) (t := 7) (ci := 5) (f := 8) (p := 4) (by decide +kernel) rfl hH k_rd r8 ?_
  refine hs_aload (i := 0) (p := 5) (by decide +kernel) rfl ?_
  refine hf_get (T := et_TT) (t := 7) (ci := 5) (f := 7) (p := 8) (by decide +kernel) rfl hH k_rd r7 ?_
  refine hs_br2n (c := .ge) (t := 33) (f := 11) (by decide +kernel) (by omega) (by omega) (fun (c8 : (L.length + 1) ≤ x) => ?_) (fun (c8 : ¬ ((L.length + 1) ≤ x)) => ?_)
  · exact absurd c8 (by omega)
  · refine hs_aload (i := 0) (p := 12) (by decide +kernel) rfl ?_
    refine hs_gst (v := Value.ref 33) (p := 15) (by decide +kernel) ?_
    refine ht_callv (T := et_TT) (t := 7) (mi := 78) (na := 1) (ci := 5) (lk := 3) (lm := 2) (L0 := eg_en (eg_mL 78) [.ref rd, .ref 33]) (by decide +kernel) rfl hH k_rd rfl rfl rfl rfl rfl (by rw [show eg_mL 78 = 2 from by decide +kernel]; first | done | rfl) ?_
    refine (fc_is hH k_rd htk htl r8 hx (wd := 33) (by decide)).mono (fun u hu => xp_cb hu ?_)
    by_cases i15 : wat L x = 33
    · rw [if_pos i15]
      show et_go none _ 83 18 _ [.int (Int32.ofNat 1)] _ _ _ _
      refine hs_if0 (c := .eq) (t := 33) (f := 21) (by decide +kernel) (show ¬ (Int32.ofNat 1 = 0) by decide) ?_
      refine hs_aload (i := 0) (p := 22) (by decide +kernel) rfl ?_
      refine hf_get (T := et_TT) (t := 7) (ci := 5) (f := 6) (p := 25) (by decide +kernel) rfl hH k_rd r6 ?_
      refine hs_aload (i := 0) (p := 26) (by decide +kernel) rfl ?_
      refine hf_get (T := et_TT) (t := 7) (ci := 5) (f := 8) (p := 29) (by decide +kernel) rfl hH k_rd r8 ?_
      obtain ⟨nn, hnn, hxl⟩ := wat_t i15 (by decide)
      have htn := htk.n hnn r6
      cases nn with
      | none =>
        have htn : et_pl (eg_at G na) x = some (.int (-1)) := htn
        refine hf_ald (ins := .iaload) (T := et_TT) (t := 21) (kd := 0) (N := 401) (p := 30) (by decide +kernel) (fun _ _ _ _ _ _ _ _ _ _ => rfl) rfl rfl rfl hH k_na (by decide) htn ?_
        refine hs_goto (p := 34) (by decide +kernel) ?_
        refine hs_istore (i := 2) (p := 35) (by decide +kernel) (Nat.le_of_ble_eq_true rfl) ?_
        refine hs_iload (i := 2) (p := 36) (by decide +kernel) rfl ?_
        refine hs_if1 (c := .lt) (t := 44) (f := 39) (by decide +kernel) (show (-1 : Int32) < 0 by decide) ?_
        refine hs_aload (i := 0) (p := 45) (by decide +kernel) rfl ?_
        refine ht_callv (T := et_TT) (t := 7) (mi := 76) (na := 0) (ci := 5) (lk := 3) (lm := 1) (L0 := eg_en (eg_mL 76) [.ref rd]) (by decide +kernel) rfl hH k_rd rfl rfl rfl rfl rfl (by rw [show eg_mL 76 = 1 from by decide +kernel]; first | done | rfl) ?_
        refine (fc_fail hH k_rd htk htl r8 hx r2).mono (fun u hu => xw_cb hu (fun G45 v45 hH x45 hP45 => ?_))
        have r4 := (x45.2 rd 4 lt_rd (fun h => absurd h.2 (by decide))).trans r4
        have r5 := (x45.2 rd 5 lt_rd (fun h => absurd h.2 (by decide))).trans r5
        have r6 := (x45.2 rd 6 lt_rd (fun h => absurd h.2 (by decide))).trans r6
        have r7 := (x45.2 rd 7 lt_rd (fun h => absurd h.2 (by decide))).trans r7
        have r8 := (x45.2 rd 8 lt_rd (fun h => absurd h.2 (by decide))).trans r8
        have lt_rd := Nat.lt_of_lt_of_le lt_rd x45.1
        have lt_ta := Nat.lt_of_lt_of_le lt_ta x45.1
        have lt_ba := Nat.lt_of_lt_of_le lt_ba x45.1
        have lt_na := Nat.lt_of_lt_of_le lt_na x45.1
        have hX := hX.tr x45 (fun b j hb h => by first | omega | (dsimp only at h ⊢; omega) | (dsimp only at h; omega) | (dsimp only; omega))
        obtain ⟨rfl, q, hq, hqq⟩ := hP45
        show et_go none _ 83 48 _ [.null] _ _ _ _
        refine hs_popn (p := 49) (by decide +kernel) ?_
        refine hs_k (x := (-1)) (p := 50) (by decide +kernel) ?_
        refine hs_iret (by decide +kernel) ?_
        exact ⟨_, _, rfl, hH, hX, .inr ⟨(fun v hv => by rw [hnn] at hv; cases hv), rfl, r8, q, hq, hqq⟩⟩
      | some vv =>
        have htn : et_pl (eg_at G na) x = some (.int (Int32.ofNat vv)) := htn
        have hvv := (htl _ (List.mem_of_getElem? hnn)).2 vv rfl
        refine hf_ald (ins := .iaload) (T := et_TT) (t := 21) (kd := 0) (N := 401) (p := 30) (by decide +kernel) (fun _ _ _ _ _ _ _ _ _ _ => rfl) rfl rfl rfl hH k_na (by decide) htn ?_
        refine hs_goto (p := 34) (by decide +kernel) ?_
        refine hs_istore (i := 2) (p := 35) (by decide +kernel) (Nat.le_of_ble_eq_true rfl) ?_
        refine hs_iload (i := 2) (p := 36) (by decide +kernel) rfl ?_
        refine hs_if0 (c := .lt) (t := 44) (f := 39) (by decide +kernel) (rs_nn (by omega)) ?_
        refine hs_iload (i := 2) (p := 40) (by decide +kernel) rfl ?_
        refine hs_iload (i := 1) (p := 41) (by decide +kernel) rfl ?_
        refine hs_br2n (c := .le) (t := 51) (f := 44) (by decide +kernel) (by omega) (by omega) (fun (c41 : vv ≤ mo) => ?_) (fun (c41 : ¬ (vv ≤ mo)) => ?_)
        · refine hs_aload (i := 0) (p := 52) (by decide +kernel) rfl ?_
          refine hs_dup1 (p := 53) (by decide +kernel) ?_
          refine hf_get (T := et_TT) (t := 7) (ci := 5) (f := 8) (p := 56) (by decide +kernel) rfl hH k_rd r8 ?_
          refine hs_k (x := Int32.ofNat 1) (p := 57) (by decide +kernel) ?_
          refine hs_iaddn (p := 58) (by decide +kernel) ?_
          refine hf_put (T := et_TT) (t := 7) (ci := 5) (f := 8) (p := 61) (ty := .int) (by decide +kernel) rfl rfl rfl rfl rfl hH k_rd (hi_nv (by omega) (by omega)) (fun G58 hH x58 e58 => ?_)
          have r4 := (x58.2 rd 4 lt_rd (fun h => absurd h.2 (by decide))).trans r4
          have r5 := (x58.2 rd 5 lt_rd (fun h => absurd h.2 (by decide))).trans r5
          have r6 := (x58.2 rd 6 lt_rd (fun h => absurd h.2 (by decide))).trans r6
          have r7 := (x58.2 rd 7 lt_rd (fun h => absurd h.2 (by decide))).trans r7
          have r2 := (x58.2 rd 2 lt_rd (fun h => absurd h.2 (by decide))).trans r2
          have lt_rd := Nat.lt_of_lt_of_le lt_rd x58.1
          have lt_ta := Nat.lt_of_lt_of_le lt_ta x58.1
          have lt_ba := Nat.lt_of_lt_of_le lt_ba x58.1
          have lt_na := Nat.lt_of_lt_of_le lt_na x58.1
          have hX := hX.tr x58 (fun b j hb h => by first | omega | (dsimp only at h ⊢; omega) | (dsimp only at h; omega) | (dsimp only; omega))
          refine hs_iload (i := 2) (p := 62) (by decide +kernel) rfl ?_
          refine hs_iret (by decide +kernel) ?_
          exact ⟨_, _, rfl, hH, hX, .inl ⟨vv, hnn, by omega, rfl, e58, r2⟩⟩
        · refine hs_aload (i := 0) (p := 45) (by decide +kernel) rfl ?_
          refine ht_callv (T := et_TT) (t := 7) (mi := 76) (na := 0) (ci := 5) (lk := 3) (lm := 1) (L0 := eg_en (eg_mL 76) [.ref rd]) (by decide +kernel) rfl hH k_rd rfl rfl rfl rfl rfl (by rw [show eg_mL 76 = 1 from by decide +kernel]; first | done | rfl) ?_
          refine (fc_fail hH k_rd htk htl r8 hx r2).mono (fun u hu => xw_cb hu (fun G45 v45 hH x45 hP45 => ?_))
          have r4 := (x45.2 rd 4 lt_rd (fun h => absurd h.2 (by decide))).trans r4
          have r5 := (x45.2 rd 5 lt_rd (fun h => absurd h.2 (by decide))).trans r5
          have r6 := (x45.2 rd 6 lt_rd (fun h => absurd h.2 (by decide))).trans r6
          have r7 := (x45.2 rd 7 lt_rd (fun h => absurd h.2 (by decide))).trans r7
          have r8 := (x45.2 rd 8 lt_rd (fun h => absurd h.2 (by decide))).trans r8
          have lt_rd := Nat.lt_of_lt_of_le lt_rd x45.1
          have lt_ta := Nat.lt_of_lt_of_le lt_ta x45.1
          have lt_ba := Nat.lt_of_lt_of_le lt_ba x45.1
          have lt_na := Nat.lt_of_lt_of_le lt_na x45.1
          have hX := hX.tr x45 (fun b j hb h => by first | omega | (dsimp only at h ⊢; omega) | (dsimp only at h; omega) | (dsimp only; omega))
          obtain ⟨rfl, q, hq, hqq⟩ := hP45
          show et_go none _ 83 48 _ [.null] _ _ _ _
          refine hs_popn (p := 49) (by decide +kernel) ?_
          refine hs_k (x := (-1)) (p := 50) (by decide +kernel) ?_
          refine hs_iret (by decide +kernel) ?_
          exact ⟨_, _, rfl, hH, hX, .inr ⟨(fun v hv => by rw [hnn] at hv; cases hv; omega), rfl, r8, q, hq, hqq⟩⟩
    · rw [if_neg i15]
      show et_go none _ 83 18 _ [.int (Int32.ofNat 0)] _ _ _ _
      refine hs_if1 (c := .eq) (t := 33) (f := 21) (by decide +kernel) (show Int32.ofNat 0 = 0 by decide) ?_
      refine hs_k (x := (-1)) (p := 34) (by decide +kernel) ?_
      refine hs_istore (i := 2) (p := 35) (by decide +kernel) (Nat.le_of_ble_eq_true rfl) ?_
      refine hs_iload (i := 2) (p := 36) (by decide +kernel) rfl ?_
      refine hs_if1 (c := .lt) (t := 44) (f := 39) (by decide +kernel) (show (-1 : Int32) < 0 by decide) ?_
      refine hs_aload (i := 0) (p := 45) (by decide +kernel) rfl ?_
      refine ht_callv (T := et_TT) (t := 7) (mi := 76) (na := 0) (ci := 5) (lk := 3) (lm := 1) (L0 := eg_en (eg_mL 76) [.ref rd]) (by decide +kernel) rfl hH k_rd rfl rfl rfl rfl rfl (by rw [show eg_mL 76 = 1 from by decide +kernel]; first | done | rfl) ?_
      refine (fc_fail hH k_rd htk htl r8 hx r2).mono (fun u hu => xw_cb hu (fun G45 v45 hH x45 hP45 => ?_))
      have r4 := (x45.2 rd 4 lt_rd (fun h => absurd h.2 (by decide))).trans r4
      have r5 := (x45.2 rd 5 lt_rd (fun h => absurd h.2 (by decide))).trans r5
      have r6 := (x45.2 rd 6 lt_rd (fun h => absurd h.2 (by decide))).trans r6
      have r7 := (x45.2 rd 7 lt_rd (fun h => absurd h.2 (by decide))).trans r7
      have r8 := (x45.2 rd 8 lt_rd (fun h => absurd h.2 (by decide))).trans r8
      have lt_rd := Nat.lt_of_lt_of_le lt_rd x45.1
      have lt_ta := Nat.lt_of_lt_of_le lt_ta x45.1
      have lt_ba := Nat.lt_of_lt_of_le lt_ba x45.1
      have lt_na := Nat.lt_of_lt_of_le lt_na x45.1
      have hX := hX.tr x45 (fun b j hb h => by first | omega | (dsimp only at h ⊢; omega) | (dsimp only at h; omega) | (dsimp only; omega))
      obtain ⟨rfl, q, hq, hqq⟩ := hP45
      show et_go none _ 83 48 _ [.null] _ _ _ _
      refine hs_popn (p := 49) (by decide +kernel) ?_
      refine hs_k (x := (-1)) (p := 50) (by decide +kernel) ?_
      refine hs_iret (by decide +kernel) ?_
      exact ⟨_, _, rfl, hH, hX, .inr ⟨(fun v hv => absurd (by unfold wat; rw [hv]) i15), rfl, r8, q, hq, hqq⟩⟩
end FNA
end
section
/-! FUNCTIONAL: pieces of conditions, what they say. A piece's own `next` is not its own -/
def kpl (G : eg_G) (a i : Nat) (v : Value) : Prop := et_pl (eg_at G a) i = some v
/-- a chain by next -/
def ch (G : eg_G) : Value → List Nat → Prop
  | v, [] => v = .null
  | v, c :: cs => v = .ref c ∧ ∃ v', kpl G c 1 v' ∧ ch G v' cs
/-- a PART -/
def pt (G : eg_G) (a : Nat) (f : sp_E → Int64) : Prop := ∃ n : Nat, n < 10000 ∧ kpl G a 5 (.int (Int32.ofNat n)) ∧ ((kpl G a 4 .null ∧ f = fun _ => Int64.ofNat n) ∨ ∃ w, sp_fw w = true ∧ kpl G a 4 (.ref w) ∧ f = fun e => Int64.ofNat n * e.1 w)
/-- a sum, its PARTS between lo and hi -/
def sm (G : eg_G) (lo hi : Nat) (v : Value) (f : sp_E → Int64) : Prop := ∃ ps : List (Nat × (sp_E → Int64)), ch G v (ps.map (·.1)) ∧ (∀ p ∈ ps, lo ≤ p.1 ∧ p.1 < hi ∧ pt G p.1 p.2) ∧ f = fun e => ps.foldl (fun s p => s + p.2 e) 0
def dn (G : eg_G) : Nat → Nat → Nat → Nat → (sp_E → Bool) → Prop
  | 0, _, _, _, _ => False
  | n + 1, lo, hi, b, f => (lo ≤ b ∧ b < hi) ∧ (
      (∃ w v : Nat, sp_tw w = true ∧ v ≤ 15 ∧ kpl G b 0 (.int (Int32.ofNat 3)) ∧ kpl G b 4 (.ref w) ∧ kpl G b 5 (.int (Int32.ofNat v)) ∧ f = fun e => if w = 2 then e.2.2 v else e.2.1 w) ∨
      (∃ (k : Nat) (A B : sp_E → Int64) (p q : Value), (k = 4 ∨ k = 5) ∧ kpl G b 0 (.int (Int32.ofNat k)) ∧ kpl G b 2 p ∧ kpl G b 3 q ∧ sm G lo b p A ∧ sm G (b + 1) hi q B ∧ f = fun e => if k = 4 then decide (A e < B e) else decide (B e < A e)) ∨
      (∃ (k : Nat) (cs : List (Nat × ((Nat × Nat) × (sp_E → Bool)))) (p : Value), k ≤ 2 ∧ kpl G b 0 (.int (Int32.ofNat k)) ∧ kpl G b 2 p ∧ ch G p (cs.map (·.1)) ∧ (∀ c ∈ cs, b < c.2.1.1 ∧ c.2.1.2 ≤ hi ∧ dn G n c.2.1.1 c.2.1.2 c.1 c.2.2) ∧ (cs.map (·.2.1)).Pairwise (fun x y => x.2 ≤ y.1) ∧ (k = 2 → cs.length = 1) ∧ f = fun e => if k = 0 then cs.any (fun c => c.2.2 e) else if k = 1 then cs.all (fun c => c.2.2 e) else !(cs.all (fun c => c.2.2 e))))
/-- the same places between lo and hi, but b's next -/
def ag (G G' : eg_G) (lo hi b : Nat) : Prop := ∀ a, lo ≤ a → a < hi → ∀ i, ¬ (a = b ∧ i = 1) → et_pl (eg_at G' a) i = et_pl (eg_at G a) i
def agf (G G' : eg_G) (lo hi : Nat) : Prop := ∀ a, lo ≤ a → a < hi → ∀ i, et_pl (eg_at G' a) i = et_pl (eg_at G a) i
theorem agf.ag {G G' : eg_G} {lo hi b : Nat} (h : agf G G' lo hi) : ag G G' lo hi b := fun a h1 h2 i _ => h a h1 h2 i
theorem xf.agf {S : Nat → Nat → Prop} {G G' : eg_G} {lo hi : Nat} (h : xf S G G') (hh : hi ≤ G.2) (hS : ∀ a j, lo ≤ a → a < hi → ¬ S a j) : agf G G' lo hi := fun a h1 h2 i => h.2 a i (by omega) (hS a i h1 h2)
theorem ch.fr {G G' : eg_G} : ∀ {cs : List Nat} {v : Value}, ch G v cs → (∀ c ∈ cs, et_pl (eg_at G' c) 1 = et_pl (eg_at G c) 1) → ch G' v cs
  | [], _, h, _ => h
  | c :: cs, v, ⟨e, v', h1, h2⟩, hs => ⟨e, v', (hs c List.mem_cons_self).trans h1, h2.fr (fun c' hc => hs c' (List.mem_cons_of_mem _ hc))⟩
theorem pt.fr {G G' : eg_G} {a : Nat} {f : sp_E → Int64} (h : pt G a f) (h4 : et_pl (eg_at G' a) 4 = et_pl (eg_at G a) 4) (h5 : et_pl (eg_at G' a) 5 = et_pl (eg_at G a) 5) : pt G' a f := by
  obtain ⟨n, hn, h1, h2⟩ := h
  refine ⟨n, hn, h5.trans h1, ?_⟩
  rcases h2 with ⟨h3, e⟩ | ⟨w, hw, h3, e⟩
  · exact .inl ⟨h4.trans h3, e⟩
  · exact .inr ⟨w, hw, h4.trans h3, e⟩
theorem sm.fr {G G' : eg_G} {lo hi : Nat} {v : Value} {f : sp_E → Int64} (h : sm G lo hi v f) (ha : agf G G' lo hi) : sm G' lo hi v f := by
  obtain ⟨ps, h1, h2, h3⟩ := h
  refine ⟨ps, h1.fr (fun c hc => ?_), fun p hp => ⟨(h2 p hp).1, (h2 p hp).2.1, (h2 p hp).2.2.fr (ha _ (h2 p hp).1 (h2 p hp).2.1 4) (ha _ (h2 p hp).1 (h2 p hp).2.1 5)⟩, h3⟩
  obtain ⟨p, hp, rfl⟩ := List.mem_map.mp hc
  exact ha _ (h2 p hp).1 (h2 p hp).2.1 1
theorem sm.wk {G : eg_G} {lo hi lo' hi' : Nat} {v : Value} {f : sp_E → Int64} (h : sm G lo hi v f) (h1 : lo' ≤ lo) (h2 : hi ≤ hi') : sm G lo' hi' v f := by
  obtain ⟨ps, h3, h4, h5⟩ := h
  exact ⟨ps, h3, fun p hp => ⟨by have := (h4 p hp).1; omega, by have := (h4 p hp).2.1; omega, (h4 p hp).2.2⟩, h5⟩
theorem dn.fr {G G' : eg_G} : ∀ {n lo hi b : Nat} {f : sp_E → Bool}, dn G n lo hi b f → ag G G' lo hi b → dn G' n lo hi b f
  | 0, _, _, _, _, h, _ => h
  | n + 1, lo, hi, b, f, ⟨hb, h⟩, ha => by
    have hbb : ∀ i, ¬ i = 1 → et_pl (eg_at G' b) i = et_pl (eg_at G b) i := fun i hi => ha b hb.1 hb.2 i (fun h => hi h.2)
    refine ⟨hb, ?_⟩
    rcases h with ⟨w, v, h1, h2, h3, h4, h5, h6⟩ | ⟨k, A, B, p, q, h1, h2, h3, h4, h5, h6, h7⟩ | ⟨k, cs, p, h1, h2, h3, h4, h5, h6, h7, h8⟩
    · exact .inl ⟨w, v, h1, h2, (hbb 0 (by decide)).trans h3, (hbb 4 (by decide)).trans h4, (hbb 5 (by decide)).trans h5, h6⟩
    · exact .inr (.inl ⟨k, A, B, p, q, h1, (hbb 0 (by decide)).trans h2, (hbb 2 (by decide)).trans h3, (hbb 3 (by decide)).trans h4, h5.fr (fun a a1 a2 i => ha a a1 (by omega) i (by omega)), h6.fr (fun a a1 a2 i => ha a (by omega) a2 i (by omega)), h7⟩)
    · refine .inr (.inr ⟨k, cs, p, h1, (hbb 0 (by decide)).trans h2, (hbb 2 (by decide)).trans h3, h4.fr (fun c hc => ?_), fun c hc => ⟨(h5 c hc).1, (h5 c hc).2.1, (h5 c hc).2.2.fr (fun a a1 a2 i _ => ha a (by have := (h5 c hc).1; omega) (by have := (h5 c hc).2.1; omega) i (by have := (h5 c hc).1; omega))⟩, h6, h7, h8⟩)
      obtain ⟨q, hq, rfl⟩ := List.mem_map.mp hc
      obtain ⟨g1, g2, g3⟩ := h5 q hq
      have hq2 : q.2.1.1 ≤ q.1 ∧ q.1 < q.2.1.2 := by
        cases n with
        | zero => exact absurd g3 id
        | succ n => exact g3.1
      exact ha q.1 (by omega) (by omega) 1 (by omega)
theorem dn.in {G : eg_G} {n lo hi b : Nat} {f : sp_E → Bool} (h : dn G n lo hi b f) : lo ≤ b ∧ b < hi := by
  cases n with
  | zero => exact absurd h id
  | succ n => exact h.1
theorem dn.wk {G : eg_G} {n lo hi lo' hi' b : Nat} {f : sp_E → Bool} (h : dn G n lo hi b f) (h1 : lo' ≤ lo) (h2 : hi ≤ hi') : dn G n lo' hi' b f := by
  cases n with
  | zero => exact h
  | succ n =>
    obtain ⟨hb, h⟩ := h
    refine ⟨⟨by omega, by omega⟩, ?_⟩
    rcases h with h | ⟨k, A, B, p, q, h3, h4, h5, h6, h7, h8, h9⟩ | ⟨k, cs, p, h3, h4, h5, h6, h7, h8⟩
    · exact .inl h
    · exact .inr (.inl ⟨k, A, B, p, q, h3, h4, h5, h6, h7.wk h1 (Nat.le_refl _), h8.wk (Nat.le_refl _) h2, h9⟩)
    · exact .inr (.inr ⟨k, cs, p, h3, h4, h5, h6, fun c hc => ⟨(h7 c hc).1, by have := (h7 c hc).2.1; omega, (h7 c hc).2.2⟩, h8⟩)
theorem dn.up {G : eg_G} : ∀ {n m lo hi b : Nat} {f : sp_E → Bool}, dn G n lo hi b f → n ≤ m → dn G m lo hi b f
  | 0, _, _, _, _, _, h, _ => absurd h id
  | n + 1, 0, _, _, _, _, _, h => absurd h (by omega)
  | n + 1, m + 1, lo, hi, b, f, ⟨hb, h⟩, hm => by
    refine ⟨hb, ?_⟩
    rcases h with h | h | ⟨k, cs, p, h3, h4, h5, h6, h7, h8⟩
    · exact .inl h
    · exact .inr (.inl h)
    · exact .inr (.inr ⟨k, cs, p, h3, h4, h5, h6, fun c hc => ⟨(h7 c hc).1, (h7 c hc).2.1, (h7 c hc).2.2.up (by omega)⟩, h8⟩)
def fzm {α : Type} (rd : Nat) (L : List sp_T) (x : Nat) (R : α → eg_G → Nat → Prop) (sp : Option (α × List sp_T)) (K' : et_K) (G' : eg_G) (v : Value) : Prop := match sp with
  | none => v = .null ∧ ∃ q, q ≤ 400 ∧ et_pl (eg_at G' rd) 2 = some (.int (Int32.ofNat q))
  | some (f, r) => ∃ y b, r = L.drop y ∧ x < y ∧ y ≤ L.length ∧ et_pl (eg_at G' rd) 8 = some (.int (Int32.ofNat y)) ∧ et_pl (eg_at G' rd) 2 = some (.int (-1)) ∧ v = .ref b ∧ K' b = some 6 ∧ R f G' b
/-- how a call of the parser ends: what its text says, or what is wrong -/
def fz {α : Type} (rd : Nat) (L : List sp_T) (x : Nat) (K : et_K) (G : eg_G) (R : α → eg_G → Nat → Prop) (sp : Option (α × List sp_T)) (u : eg_O) : Prop := ∃ (K' : et_K) (G' : eg_G) (v : Value) (c s : Nat), u = (.inl (some v), G', c, s) ∧ et_ex K K' ∧ et_H et_TT K' G' ∧ xf (rxS rd) G G' ∧ fzm rd L x R sp K' G' v
def fS (lo : Nat) (f : sp_E → Int64) (G' : eg_G) (b : Nat) : Prop := sm G' lo G'.2 (.ref b) f ∧ lo ≤ b
def fB (n lo : Nat) (f : sp_E → Bool) (G' : eg_G) (b : Nat) : Prop := dn G' n lo G'.2 b f ∧ kpl G' b 1 .null
theorem fz_cb {α : Type} {d k pc ck sk rd x t : Nat} {L : eg_Ls} {r : List Value} {K : et_K} {G : eg_G} {Z : eg_O → Prop} {Ts : List sp_T} {R : α → eg_G → Nat → Prop} {sp : Option (α × List sp_T)} {u : eg_O} (ht : t ≤ 2) (hu : pp_Z t K G rd x u ∧ fz rd Ts x K G R sp u) (hk : ∀ (K' : et_K) (G' : eg_G) (v : Value) (c s : Nat), et_ex K K' → et_H et_TT K' G' → xf (rxS rd) G G' → c ≤ 806 → s ≤ 6 * c → fzm rd Ts x R sp K' G' v → et_go none d k (pc + 3) L (v :: r) G' (ck + c) (sk + s) Z) : hs_cont d k pc L r ck sk Z u := by
  obtain ⟨hp, K', G', v, c, s, e, g1, g2, g3, g4⟩ := hu
  subst e
  obtain ⟨K1, v1, y, e1, p1, p2, p3, p4, h5, h6, h7, h8⟩ := hp
  have hc : c ≤ 806 := by
    rcases h8 with ⟨-, h9⟩ | ⟨b, -, -, -, h9⟩
    · have h9 : c + 2 * x ≤ 2 * y + 1 + t := h9
      omega
    · have h9 : c + 1 + 2 * x ≤ 2 * y + t := h9
      omega
  exact hs_cb (hk K' G' v c s g1 g2 g3 hc h7 g4)
theorem hf_newN {d k pc ck sk p : Nat} {L : eg_Ls} {st : List Value} {K : et_K} {G : eg_G} {Z : eg_O → Prop} (hc : hs_nw k pc = some (4, p)) (h1 : ck + 1 ≤ 600002) (h2 : sk + 6 ≤ 7302232) (hH : et_H et_TT K G) (h : ∀ (K' : et_K) (G' : eg_G), et_ex K K' → xf (fun _ _ => False) G G' → et_H et_TT K' G' → K' G.2 = some 6 → G'.2 = G.2 + 1 → kpl G' G.2 1 .null ∧ kpl G' G.2 2 .null ∧ kpl G' G.2 3 .null ∧ kpl G' G.2 4 .null ∧ kpl G' G.2 5 (.int (Int32.ofNat 0)) → et_go none d k p L (.ref G.2 :: st) G' (ck + 1) (sk + 6) Z) : et_go none d k pc L st G ck sk Z := by
  have e6 : hs_cl 4 = 6 := by decide +kernel
  have h3 := et_H1 (M := []) (t := 6) hH (by decide) rfl (et_c4 (K := K)) ⟨fun _ b hb => (by cases hb), fun h => absurd h (by decide)⟩
  refine hs_new hc h1 (by rw [e6]; exact h2) ?_
  rw [et_nc4, e6]
  have e : eg_at (eg_p G (.inr (4, [.int 0, .null, .null, .null, .null, .int 0]))) G.2 = .inr (4, [.int 0, .null, .null, .null, .null, .int 0]) := et_at_ps hH.1
  refine h (et_kn K G.2 6) _ h3.1 ⟨Nat.le_succ _, fun a i ha _ => by rw [et_at_p ha]⟩ h3.2.2 (if_pos rfl) rfl ⟨?_, ?_, ?_, ?_, ?_⟩ <;> (unfold kpl; rw [e]; rfl)
theorem hf_next {d k pc ck sk a b p : Nat} {ty : FieldType} {L : eg_Ls} {r : List Value} {K : et_K} {G : eg_G} {Z : eg_O → Prop} (hc : hs_pi k pc = some (4, 1, ty, p)) (hf : eg_fit ty (.ref b) = true) (hH : et_H et_TT K G) (ha : K a = some 6) (hb : K b = some 6) (hlt : a < b) (h : ∀ G', et_H et_TT K G' → xf (fun c j => c = a ∧ j = 1) G G' → kpl G' a 1 (.ref b) → G'.2 = G.2 → et_go none d k p L r G' ck sk Z) : et_go none d k pc L (.ref b :: .ref a :: r) G ck sk Z := by
  obtain ⟨g1, -, g3, dd, hd, hcc, hcx⟩ := hH.2.2 a 6 ha
  cases hd
  obtain ⟨fs, e, el, ef⟩ := hcc
  have el6 : fs.length = 6 := el
  have hlt1 : 1 < fs.length := by omega
  have hpl : ∀ i, ¬ i = 1 → et_pl (.inr (4, fs.set 1 (.ref b))) i = et_pl (eg_at G a) i := fun i hi => by
    rw [e]
    show (fs.set 1 (.ref b))[i]? = fs[i]?
    rw [List.getElem?_set_ne (fun h => hi h.symm)]
  refine hs_put hc e ⟨g3 (by decide), g1⟩ hlt1 hf (h _ (et_H_u hH ha (by decide) rfl ⟨_, rfl, by rw [List.length_set]; exact el, fun j p2 hj => ?_⟩ ⟨fun _ b' hb' => ?_, fun h => absurd h (by decide)⟩) ⟨Nat.le_refl _, fun c i hc2 hi => ?_⟩ ?_ rfl)
  · by_cases e2 : 1 = j
    · subst e2
      cases hj
      exact ⟨_, List.getElem?_set_self hlt1, .inr (.inr ⟨by decide, _, rfl, hb⟩)⟩
    · rw [List.getElem?_set_ne e2]
      exact ef j p2 hj
  · have hb' : (fs.set 1 (.ref b))[1]? = some (.ref b') := hb'
    rw [List.getElem?_set_self hlt1] at hb'
    cases hb'
    exact hlt
  · by_cases e3 : c = a
    · subst e3
      rw [et_at_us (g3 (by decide))]
      exact hpl i (fun h => hi ⟨rfl, h⟩)
    · rw [et_at_u e3]
  · unfold kpl
    rw [et_at_us (g3 (by decide))]
    exact List.getElem?_set_self hlt1
theorem fc_nod {d2 o : Nat} {x : Int32} {K : et_K} {G : eg_G} (hH : et_H et_TT K G) (k_o : K o = some 6) : et_go none d2 61 0 (eg_en (eg_mL 61) [.ref o, .int x]) [] G 0 0 (xw_Z (fun b j => (b = o ∧ j = 0)) K G (fun G' v => v = none ∧ kpl G' o 0 (.int x))) := by
  rw [show eg_mL 61 = 2 from by decide +kernel]
  show et_go none d2 61 0 [some (.ref o), some (.int x)] [] G 0 0 _
  refine hs_aload (i := 0) (p := 1) (by decide +kernel) rfl ?_
  refine hs_skip (lk := 2) (p := 4) (by decide +kernel) rfl rfl ?_
  refine hs_aload (i := 0) (p := 5) (by decide +kernel) rfl ?_
  refine hs_iload (i := 1) (p := 6) (by decide +kernel) rfl ?_
  obtain ⟨g1, -, g3, dd, hd, hcc, hcx⟩ := hH.2.2 o 6 k_o
  cases hd
  obtain ⟨fs, e, el, ef⟩ := hcc
  have el6 : fs.length = 6 := el
  have hpl : ∀ i, ¬ i = 0 → et_pl (.inr (4, fs.set 0 (.int x))) i = et_pl (eg_at G o) i := fun i hi => by
    rw [e]
    show (fs.set 0 (.int x))[i]? = fs[i]?
    rw [List.getElem?_set_ne (fun h => hi h.symm)]
  refine hs_putj (ci := 4) (f := 0) (ty := .int) (p := 9) (by decide +kernel) e ⟨g3 (by decide), g1⟩ (by omega) rfl ?_
  refine hs_vret (by decide +kernel) ?_
  refine ⟨_, _, rfl, et_H_u hH k_o (by decide) rfl ⟨_, rfl, by rw [List.length_set]; exact el, fun j p2 hj => ?_⟩ (et_cx_u (K := K) hcx ⟨fs, e, el, ef⟩ (fun i hi => hpl i (fun h => by
    rw [h] at hi
    cases hi))), ⟨Nat.le_refl _, fun c i hc2 hi => ?_⟩, rfl, ?_⟩
  · by_cases e2 : 0 = j
    · subst e2
      cases hj
      exact ⟨_, List.getElem?_set_self (by omega), .inr hi_any⟩
    · rw [List.getElem?_set_ne e2]
      exact ef j p2 hj
  · by_cases e3 : c = o
    · subst e3
      rw [et_at_us (g3 (by decide))]
      exact hpl i (fun h => hi ⟨rfl, h⟩)
    · rw [et_at_u e3]
  · unfold kpl
    rw [et_at_us (g3 (by decide))]
    exact List.getElem?_set_self (by omega)
end
