/-! FUNCTIONAL: split -/
def sq (G : eg_G) (ta ba na pl : Nat) (b : Nat → Nat) (n : Nat) (B : List Nat) : Prop := ∀ j x, B[j]? = some x → x ≤ 400 ∧ et_pl (eg_at G ta) j = some (.ref (tz_wd pl b n x)) ∧ et_pl (eg_at G na) j = some (.int (tz_i (tz_nm b n x))) ∧ et_pl (eg_at G ba) j = some (.int (Int32.ofNat x))
/-- the reader holds these tokens -/
def tk (K : et_K) (G : eg_G) (rd : Nat) (L : List sp_T) : Prop := ∃ ta ba na : Nat, (K ta = some 41 ∧ K ba = some 21 ∧ K na = some 21) ∧ (et_pl (eg_at G rd) 4 = some (.ref ta) ∧ et_pl (eg_at G rd) 5 = some (.ref ba) ∧ et_pl (eg_at G rd) 6 = some (.ref na) ∧ et_pl (eg_at G rd) 7 = some (.int (Int32.ofNat (L.length + 1)))) ∧ L.length ≤ 400 ∧ (∀ j x, L[j]? = some x → et_pl (eg_at G ta) j = some (.ref x.1) ∧ et_pl (eg_at G na) j = some (.int (tz_i x.2))) ∧ et_pl (eg_at G ta) L.length = some (.ref 34) ∧ ∀ j, j ≤ L.length → ∃ q, q ≤ 400 ∧ et_pl (eg_at G ba) j = some (.int (Int32.ofNat q))
def tk_M : et_M := [(6, 0, 5), (7, 2, 2), (7, 3, 3), (7, 8, 8)]
theorem tk.fr {K K' : et_K} {G G' : eg_G} {rd : Nat} {L : List sp_T} {M : et_M} (h : tk K G rd L) (k_rd : K rd = some 7) (hx : et_ex K K') (hf : et_fr M K G G') (hM : et_ss M tk_M = true) : tk K' G' rd L := by
  have hf := hf.wk hM
  obtain ⟨ta, ba, na, ⟨h1, h2, h3⟩, ⟨h4, h5, h6, h7⟩, h8, h9, h10, h11⟩ := h
  refine ⟨ta, ba, na, ⟨hx _ _ h1, hx _ _ h2, hx _ _ h3⟩, ⟨(hf.2 rd 7 k_rd 4 rfl).trans h4, (hf.2 rd 7 k_rd 5 rfl).trans h5, (hf.2 rd 7 k_rd 6 rfl).trans h6, (hf.2 rd 7 k_rd 7 rfl).trans h7⟩, h8, fun j x hj => ⟨(hf.2 ta 41 h1 j rfl).trans (h9 j x hj).1, (hf.2 na 21 h3 j rfl).trans (h9 j x hj).2⟩, (hf.2 ta 41 h1 _ rfl).trans h10, fun j hj => ?_⟩
  obtain ⟨q, q1, q2⟩ := h11 j hj
  exact ⟨q, q1, (hf.2 ba 21 h2 j rfl).trans q2⟩
def sq_S (rd ta ba na m : Nat) (c j : Nat) : Prop := (c = rd ∧ (j = 7 ∨ j = 1)) ∨ (c = ta ∧ j = m) ∨ (c = ba ∧ j = m) ∨ (c = na ∧ j = m)
theorem sq.xf {G G' : eg_G} {rd ta ba na pl n : Nat} {b : Nat → Nat} {B : List Nat} (h : sq G ta ba na pl b n B) (hx : xf (sq_S rd ta ba na B.length) G G') (l1 : ta < G.2) (l2 : ba < G.2) (l3 : na < G.2) (n1 : ¬ ta = rd) (n2 : ¬ ba = rd) (n3 : ¬ na = rd) : sq G' ta ba na pl b n B := fun j x hj => by
  obtain ⟨h0, h1, h2, h3⟩ := h j x hj
  have hlt := (List.getElem?_eq_some_iff.mp hj).1
  refine ⟨h0, (hx.2 ta j l1 (fun hs => ?_)).trans h1, (hx.2 na j l3 (fun hs => ?_)).trans h2, (hx.2 ba j l2 (fun hs => ?_)).trans h3⟩ <;> (unfold sq_S at hs; omega)
theorem sq.snoc {G : eg_G} {ta ba na pl n i : Nat} {b : Nat → Nat} {B : List Nat} (h : sq G ta ba na pl b n B) (hi : i ≤ 400) (h1 : et_pl (eg_at G ta) B.length = some (.ref (tz_wd pl b n i))) (h2 : et_pl (eg_at G na) B.length = some (.int (tz_i (tz_nm b n i)))) (h3 : et_pl (eg_at G ba) B.length = some (.int (Int32.ofNat i))) : sq G ta ba na pl b n (B ++ [i]) := fun j x hj => by
  by_cases e : j < B.length
  · rw [List.getElem?_append_left e] at hj
    exact h j x hj
  · rw [List.getElem?_append_right (by omega)] at hj
    obtain ⟨k, hk⟩ : ∃ k, j - B.length = k := ⟨_, rfl⟩
    rw [hk] at hj
    match k, hj with
    | 0, hj =>
      cases hj
      obtain rfl : j = B.length := by omega
      exact ⟨hi, h1, h2, h3⟩
theorem tz_wd_lt {pl n i : Nat} {b : Nat → Nat} : tz_wd pl b n i < 36 := by
  have h : ∀ (k w : Nat), w + k ≤ 36 → tz_fd pl b i (tz_end b n i) k w < 36 := by
    intro k
    induction k with
    | zero =>
      intro w _
      show 35 < 36
      decide
    | succ k ih =>
      intro w hw
      unfold tz_fd
      split
      · omega
      · exact ih (w + 1) (by omega)
  unfold tz_wd
  split
  · decide
  · exact h 36 0 (by decide)
theorem tk_mk {K : et_K} {G : eg_G} {rd ta ba na pl n : Nat} {b : Nat → Nat} {B : List Nat} (k_ta : K ta = some 41) (k_ba : K ba = some 21) (k_na : K na = some 21) (r4 : et_pl (eg_at G rd) 4 = some (.ref ta)) (r5 : et_pl (eg_at G rd) 5 = some (.ref ba)) (r6 : et_pl (eg_at G rd) 6 = some (.ref na)) (r7 : et_pl (eg_at G rd) 7 = some (.int (Int32.ofNat (B.length + 1)))) (hsq : sq G ta ba na pl b n B) (hB : B = tz_bg b n n 0) (hn : n ≤ 400) (h1 : et_pl (eg_at G ta) B.length = some (.ref 34)) (h2 : et_pl (eg_at G ba) B.length = some (.int (Int32.ofNat n))) : tk K G rd (tz_ts pl b n 0) := by
  have hL : tz_ts pl b n 0 = B.map (tz_tk pl b n) := by
    unfold tz_ts
    rw [Nat.sub_zero, hB]
  have hl : (B.map (tz_tk pl b n)).length = B.length := List.length_map ..
  have hb : B.length ≤ n := by
    rw [hB]
    exact tz_bg_len n 0
  rw [hL]
  refine ⟨ta, ba, na, ⟨k_ta, k_ba, k_na⟩, ⟨r4, r5, r6, by rw [hl]; exact r7⟩, by omega, fun j x hj => ?_, by rw [hl]; exact h1, fun j hj => ?_⟩
  · rw [List.getElem?_map] at hj
    cases e : B[j]? with
    | none => rw [e] at hj; cases hj
    | some y =>
      rw [e] at hj
      cases hj
      exact ⟨(hsq j y e).2.1, (hsq j y e).2.2.1⟩
  · rw [hl] at hj
    by_cases e : j = B.length
    · exact ⟨n, hn, by rw [e]; exact h2⟩
    · obtain ⟨y, hy⟩ : ∃ y, B[j]? = some y := ⟨B[j]'(by omega), List.getElem?_eq_getElem (by omega)⟩
      exact ⟨y, (hsq j y hy).1, (hsq j y hy).2.2.2⟩
theorem tz_bg_y {b : Nat → Nat} {n i : Nat} {B : List Nat} (hB : B = tz_bg b n i 0) (h1 : ¬ b i = 32) (h2 : ¬ tz_go b n i = true) : B ++ [i] = tz_bg b n (i + 1) 0 := by
  rw [tz_bg_snoc, Nat.zero_add, ← hB, if_pos]
  unfold tz_st
  rw [beq_eq_false_iff_ne.mpr h1, show tz_go b n i = false by simpa using h2]
  rfl
theorem tz_bg_n {b : Nat → Nat} {n i : Nat} {B : List Nat} (hB : B = tz_bg b n i 0) (h : b i = 32 ∨ tz_go b n i = true) : B = tz_bg b n (i + 1) 0 := by
  rw [tz_bg_snoc, Nat.zero_add, ← hB, if_neg, List.append_nil]
  unfold tz_st
  rcases h with h | h
  · rw [h]
    simp
  · rw [h]
    simp
theorem hf_tst {K : et_K} {d k pc ck sk a b n p : Nat} {L : eg_Ls} {r : List Value} {G : eg_G} {Z : eg_O → Prop} (hc : hs_o k pc = some (.aastore, p)) (hH : et_H et_TT K G) (ha : K a = some 41) (hn : n < 401) (hb : K b = some 0) (h : ∀ G', et_H et_TT K G' → xf (fun c j => c = a ∧ j = n) G G' → et_pl (eg_at G' a) n = some (.ref b) → et_go none d k p L r G' ck sk Z) : et_go none d k pc L (.ref b :: .int (Int32.ofNat n) :: .ref a :: r) G ck sk Z := by
  obtain ⟨g1, -, g3, dd, hd, hcell, hcx⟩ := hH.2.2 a 41 ha
  cases hd
  obtain ⟨⟨N, y⟩, e, ey, er, es⟩ := hcell
  obtain rfl : N = 401 := ey
  obtain ⟨v0, hv0⟩ := er 0 (by decide)
  obtain ⟨f, rfl⟩ : ∃ f, y = .inr (.inr (.inr (.inr f))) := by
    rcases y with g | g | g | g | f
    · exact absurd (show none = some v0 from hv0) (fun h => nomatch h)
    · exact absurd (show none = some v0 from hv0) (fun h => nomatch h)
    · exact absurd (show none = some v0 from hv0) (fun h => nomatch h)
    · exact absurd (show none = some v0 from hv0) (fun h => nomatch h)
    · exact ⟨f, rfl⟩
  obtain ⟨q1, -, -, dd, hd, hcb, -⟩ := hH.2.2 b 0 hb
  cases hd
  obtain ⟨fs, eb, -, -⟩ := hcb
  have h3 := hs_nint (a := n) (by omega)
  obtain ⟨e0, rfl⟩ := hs_oc hc
  have hrd : ∀ i, eg_rd 9 (401, .inr (.inr (.inr (.inr (va_up f n (some b)))))) i = if i = n then some (.ref b) else eg_rd 9 (401, .inr (.inr (.inr (.inr f)))) i := fun i => by
    unfold eg_rd
    dsimp only
    rw [if_pos (by decide)]
    unfold va_up
    split <;> rfl
  refine hs_st e0 rfl (?_ : _ = some (pc + 1, L, r, eg_u G a (.inl (9, (401, .inr (.inr (.inr (.inr (va_up f n (some b)))))))), ck, sk)) (h _ (et_H_u hH ha (by decide) rfl ⟨_, rfl, rfl, fun i hi => ?_, fun s hs i i1 i2 i3 => ?_⟩ (fun e1 => absurd e1 (by decide))) ⟨Nat.le_refl _, fun c i hc2 hi => ?_⟩ ?_)
  · show eg_aw .aastore pc L (.ref b :: .int (Int32.ofNat n) :: .ref a :: r) G ck sk = _
    unfold eg_aw
    dsimp only
    rw [e]
    dsimp only
    rw [if_pos ⟨g3 (by decide), g1, by decide, by omega, by show (Int32.ofNat n).toInt < (401 : Int); omega⟩, hs_nnat (by omega)]
    unfold eg_wr
    dsimp only
    rw [if_pos ⟨q1, by decide, by decide, by rw [eb]; rfl⟩]
  · rw [hrd]
    by_cases ei : i = n
    · exact ⟨_, if_pos ei⟩
    · rw [if_neg ei]
      exact er i hi
  · rw [hrd]
    by_cases ei : i = n
    · obtain rfl := List.mem_singleton.mp hs
      exact ⟨_, if_pos ei, .inr ⟨by decide, _, rfl, hb⟩⟩
    · rw [if_neg ei]
      exact es s hs i i1 i2 i3
  · by_cases e3 : c = a
    · subst e3
      rw [et_at_us (g3 (by decide)), e]
      have ei : ¬ i = n := fun h => hi ⟨rfl, h⟩
      show (if i < 401 then eg_rd 9 (401, .inr (.inr (.inr (.inr (va_up f n (some b)))))) i else none) = (if i < 401 then eg_rd 9 (401, .inr (.inr (.inr (.inr f)))) i else none)
      rw [hrd, if_neg ei]
    · rw [et_at_u e3]
  · rw [et_at_us (g3 (by decide))]
    show (if n < 401 then eg_rd 9 (401, .inr (.inr (.inr (.inr (va_up f n (some b)))))) n else none) = _
    rw [if_pos hn, hrd, if_pos rfl]

section FMA
variable {K : et_K} {G G0 : eg_G} {b : Nat → Nat} {d2 d rd tp ta ba na n i pl : Nat}
theorem fc_spL (hH : et_H et_TT K G) (k_rd : K rd = some 7) (r0 : et_pl (eg_at G rd) 0 = some (.ref tp)) (k_tp : K tp = some 33) (r1 : et_pl (eg_at G rd) 1 = some (.int (Int32.ofNat n))) (hn : n ≤ 400) (ht : ∀ i, i < n → et_pl (eg_at G tp) i = some (.int (Int32.ofNat (b i)))) (hb : ∀ i, i < n → b i < 256) (k_ta : K ta = some 41) (k_ba : K ba = some 21) (k_na : K na = some 21) (hne : ¬ ba = na) (r4 : et_pl (eg_at G rd) 4 = some (.ref ta)) (r5 : et_pl (eg_at G rd) 5 = some (.ref ba)) (r6 : et_pl (eg_at G rd) 6 = some (.ref na)) (hpl : pl ≤ 3) {m : Nat} {B : List Nat} {x3 : Option Value} (hX : xf (fun c j => (c = rd ∧ ((1 ≤ j ∧ j ≤ 3) ∨ 7 ≤ j)) ∨ c = ta ∨ c = ba ∨ c = na) G0 G) (r7 : et_pl (eg_at G rd) 7 = some (.int (Int32.ofNat m))) (r2 : et_pl (eg_at G rd) 2 = some (.int (-1))) (r3 : et_pl (eg_at G rd) 3 = some (.int (Int32.ofNat 0))) (r8 : et_pl (eg_at G rd) 8 = some (.int (Int32.ofNat 0))) (hB : B = tz_bg b n i 0) (hm : m = B.length) (hsq : sq G ta ba na pl b n B) (hi : i ≤ n) : et_go none (d + 8) 67 22 [some (.ref rd), some (.int (Int32.ofNat pl)), some (.int (Int32.ofNat i)), x3] [] G 0 0 (xw_Z (fun c j => (c = rd ∧ ((1 ≤ j ∧ j ≤ 3) ∨ 7 ≤ j)) ∨ c = ta ∨ c = ba ∨ c = na) K G0 (fun G' v => v = none ∧ tk K G' rd (tz_ts pl b n 0) ∧ et_pl (eg_at G' rd) 1 = some (.int (Int32.ofNat 0)) ∧ et_pl (eg_at G' rd) 2 = some (.int (-1)) ∧ et_pl (eg_at G' rd) 3 = some (.int (Int32.ofNat 0)) ∧ et_pl (eg_at G' rd) 8 = some (.int (Int32.ofNat 0)))) := by
  induction hz : n - i using Nat.strongRecOn generalizing i m B x3 G with
  | _ z ih =>
    subst hm
    have hBl : B.length ≤ i := by rw [hB]; exact tz_bg_len i 0
    have hY : xf (sq_S rd ta ba na B.length) G G := xf.rf
    have ltt := (hH.2.2 _ _ k_ta).1
    have ltb := (hH.2.2 _ _ k_ba).1
    have ltn := (hH.2.2 _ _ k_na).1
    have lt_rd := (hH.2.2 _ _ k_rd).1
    have lt_tp := (hH.2.2 _ _ k_tp).1
    have lt_ta := (hH.2.2 _ _ k_ta).1
    have lt_ba := (hH.2.2 _ _ k_ba).1
    have lt_na := (hH.2.2 _ _ k_na).1
    refine hs_iload (i := 2) (p := 23) (by decide +kernel) rfl ?_
    refine hs_aload (i := 0) (p := 24) (by decide +kernel) rfl ?_
    refine hf_get (T := et_TT) (t := 7) (ci := 5) (f := 1) (p := 27) (by decide +kernel) rfl hH k_rd r1 ?_
    refine hs_br2n (c := .ge) (t := 122) (f := 30) (by decide +kernel) (by omega) (by omega) (fun (c27 : n ≤ i) => ?_) (fun (c27 : ¬ (n ≤ i)) => ?_)
    · refine hs_aload (i := 0) (p := 123) (by decide +kernel) rfl ?_
      refine hf_get (T := et_TT) (t := 7) (ci := 5) (f := 4) (p := 126) (by decide +kernel) rfl hH k_rd r4 ?_
      refine hs_aload (i := 0) (p := 127) (by decide +kernel) rfl ?_
      refine hf_get (T := et_TT) (t := 7) (ci := 5) (f := 7) (p := 130) (by decide +kernel) rfl hH k_rd r7 ?_
      refine hs_gst (v := Value.ref 34) (p := 133) (by decide +kernel) ?_
      refine hf_tst (p := 134) (by decide +kernel) hH k_ta (by omega) (hH.2.1 _ (by decide)) (fun G133 hH x133 e133 => ?_)
      have r0 := (x133.2 rd 0 lt_rd (fun h => (hi_ne k_rd k_ta (by decide)) h.1)).trans r0
      have r1 := (x133.2 rd 1 lt_rd (fun h => (hi_ne k_rd k_ta (by decide)) h.1)).trans r1
      have r4 := (x133.2 rd 4 lt_rd (fun h => (hi_ne k_rd k_ta (by decide)) h.1)).trans r4
      have r5 := (x133.2 rd 5 lt_rd (fun h => (hi_ne k_rd k_ta (by decide)) h.1)).trans r5
      have r6 := (x133.2 rd 6 lt_rd (fun h => (hi_ne k_rd k_ta (by decide)) h.1)).trans r6
      have r7 := (x133.2 rd 7 lt_rd (fun h => (hi_ne k_rd k_ta (by decide)) h.1)).trans r7
      have r2 := (x133.2 rd 2 lt_rd (fun h => (hi_ne k_rd k_ta (by decide)) h.1)).trans r2
      have r3 := (x133.2 rd 3 lt_rd (fun h => (hi_ne k_rd k_ta (by decide)) h.1)).trans r3
      have r8 := (x133.2 rd 8 lt_rd (fun h => (hi_ne k_rd k_ta (by decide)) h.1)).trans r8
      have ht : ∀ i, i < n → et_pl (eg_at G133 tp) i = some (.int (Int32.ofNat (b i))) := fun i hi => (x133.2 tp i lt_tp (fun h => (hi_ne k_tp k_ta (by decide)) h.1)).trans (ht i hi)
      have lt_rd := Nat.lt_of_lt_of_le lt_rd x133.1
      have lt_tp := Nat.lt_of_lt_of_le lt_tp x133.1
      have lt_ta := Nat.lt_of_lt_of_le lt_ta x133.1
      have lt_ba := Nat.lt_of_lt_of_le lt_ba x133.1
      have lt_na := Nat.lt_of_lt_of_le lt_na x133.1
      have hX := hX.tr x133 (fun b j hb h => by first | omega | (dsimp only at h ⊢; omega) | (dsimp only at h; omega) | (dsimp only; omega))
      have hY := hY.tr x133 (fun c j hc h => by unfold sq_S; first | omega | (dsimp only at h; omega))
      refine hs_aload (i := 0) (p := 135) (by decide +kernel) rfl ?_
      refine hf_get (T := et_TT) (t := 7) (ci := 5) (f := 5) (p := 138) (by decide +kernel) rfl hH k_rd r5 ?_
      refine hs_aload (i := 0) (p := 139) (by decide +kernel) rfl ?_
      refine hf_get (T := et_TT) (t := 7) (ci := 5) (f := 7) (p := 142) (by decide +kernel) rfl hH k_rd r7 ?_
      refine hs_aload (i := 0) (p := 143) (by decide +kernel) rfl ?_
      refine hf_get (T := et_TT) (t := 7) (ci := 5) (f := 1) (p := 146) (by decide +kernel) rfl hH k_rd r1 ?_
      refine hf_ist (T := et_TT) (t := 21) (N := 401) (p := 147) (by decide +kernel) rfl rfl (by decide) hH k_ba (by omega) (by decide) (fun s hs => absurd hs List.not_mem_nil) (fun G146 hH x146 e146 => ?_)
      have r0 := (x146.2 rd 0 lt_rd (fun h => (hi_ne k_rd k_ba (by decide)) h.1)).trans r0
      have r1 := (x146.2 rd 1 lt_rd (fun h => (hi_ne k_rd k_ba (by decide)) h.1)).trans r1
      have r4 := (x146.2 rd 4 lt_rd (fun h => (hi_ne k_rd k_ba (by decide)) h.1)).trans r4
      have r5 := (x146.2 rd 5 lt_rd (fun h => (hi_ne k_rd k_ba (by decide)) h.1)).trans r5
      have r6 := (x146.2 rd 6 lt_rd (fun h => (hi_ne k_rd k_ba (by decide)) h.1)).trans r6
      have r7 := (x146.2 rd 7 lt_rd (fun h => (hi_ne k_rd k_ba (by decide)) h.1)).trans r7
      have r2 := (x146.2 rd 2 lt_rd (fun h => (hi_ne k_rd k_ba (by decide)) h.1)).trans r2
      have r3 := (x146.2 rd 3 lt_rd (fun h => (hi_ne k_rd k_ba (by decide)) h.1)).trans r3
      have r8 := (x146.2 rd 8 lt_rd (fun h => (hi_ne k_rd k_ba (by decide)) h.1)).trans r8
      have e133 := (x146.2 ta B.length lt_ta (fun h => (hi_ne k_ta k_ba (by decide)) h.1)).trans e133
      have ht : ∀ i, i < n → et_pl (eg_at G146 tp) i = some (.int (Int32.ofNat (b i))) := fun i hi => (x146.2 tp i lt_tp (fun h => (hi_ne k_tp k_ba (by decide)) h.1)).trans (ht i hi)
      have lt_rd := Nat.lt_of_lt_of_le lt_rd x146.1
      have lt_tp := Nat.lt_of_lt_of_le lt_tp x146.1
      have lt_ta := Nat.lt_of_lt_of_le lt_ta x146.1
      have lt_ba := Nat.lt_of_lt_of_le lt_ba x146.1
      have lt_na := Nat.lt_of_lt_of_le lt_na x146.1
      have hX := hX.tr x146 (fun b j hb h => by first | omega | (dsimp only at h ⊢; omega) | (dsimp only at h; omega) | (dsimp only; omega))
      have hY := hY.tr x146 (fun c j hc h => by unfold sq_S; first | omega | (dsimp only at h; omega))
      refine hs_aload (i := 0) (p := 148) (by decide +kernel) rfl ?_
      refine hs_dup1 (p := 149) (by decide +kernel) ?_
      refine hf_get (T := et_TT) (t := 7) (ci := 5) (f := 7) (p := 152) (by decide +kernel) rfl hH k_rd r7 ?_
      refine hs_k (x := Int32.ofNat 1) (p := 153) (by decide +kernel) ?_
      refine hs_iaddn (p := 154) (by decide +kernel) ?_
      refine hf_put (T := et_TT) (t := 7) (ci := 5) (f := 7) (p := 157) (ty := .int) (by decide +kernel) rfl rfl rfl rfl rfl hH k_rd (hi_nv (by omega) (by omega)) (fun G154 hH x154 e154 => ?_)
      have r0 := (x154.2 rd 0 lt_rd (fun h => absurd h.2 (by decide))).trans r0
      have r1 := (x154.2 rd 1 lt_rd (fun h => absurd h.2 (by decide))).trans r1
      have r4 := (x154.2 rd 4 lt_rd (fun h => absurd h.2 (by decide))).trans r4
      have r5 := (x154.2 rd 5 lt_rd (fun h => absurd h.2 (by decide))).trans r5
      have r6 := (x154.2 rd 6 lt_rd (fun h => absurd h.2 (by decide))).trans r6
      have r2 := (x154.2 rd 2 lt_rd (fun h => absurd h.2 (by decide))).trans r2
      have r3 := (x154.2 rd 3 lt_rd (fun h => absurd h.2 (by decide))).trans r3
      have r8 := (x154.2 rd 8 lt_rd (fun h => absurd h.2 (by decide))).trans r8
      have e133 := (x154.2 ta B.length lt_ta (fun h => (hi_ne k_ta k_rd (by decide)) h.1)).trans e133
      have e146 := (x154.2 ba B.length lt_ba (fun h => (hi_ne k_ba k_rd (by decide)) h.1)).trans e146
      have ht : ∀ i, i < n → et_pl (eg_at G154 tp) i = some (.int (Int32.ofNat (b i))) := fun i hi => (x154.2 tp i lt_tp (fun h => (hi_ne k_tp k_rd (by decide)) h.1)).trans (ht i hi)
      have lt_rd := Nat.lt_of_lt_of_le lt_rd x154.1
      have lt_tp := Nat.lt_of_lt_of_le lt_tp x154.1
      have lt_ta := Nat.lt_of_lt_of_le lt_ta x154.1
      have lt_ba := Nat.lt_of_lt_of_le lt_ba x154.1
      have lt_na := Nat.lt_of_lt_of_le lt_na x154.1
      have hX := hX.tr x154 (fun b j hb h => by first | omega | (dsimp only at h ⊢; omega) | (dsimp only at h; omega) | (dsimp only; omega))
      have hY := hY.tr x154 (fun c j hc h => by unfold sq_S; first | omega | (dsimp only at h; omega))
      refine hs_aload (i := 0) (p := 158) (by decide +kernel) rfl ?_
      refine hs_k (x := Int32.ofNat 0) (p := 159) (by decide +kernel) ?_
      refine hf_put (T := et_TT) (t := 7) (ci := 5) (f := 1) (p := 162) (ty := .int) (by decide +kernel) rfl rfl rfl rfl rfl hH k_rd (hi_nv (by omega) (by omega)) (fun G159 hH x159 e159 => ?_)
      have r0 := (x159.2 rd 0 lt_rd (fun h => absurd h.2 (by decide))).trans r0
      have r4 := (x159.2 rd 4 lt_rd (fun h => absurd h.2 (by decide))).trans r4
      have r5 := (x159.2 rd 5 lt_rd (fun h => absurd h.2 (by decide))).trans r5
      have r6 := (x159.2 rd 6 lt_rd (fun h => absurd h.2 (by decide))).trans r6
      have e154 := (x159.2 rd 7 lt_rd (fun h => absurd h.2 (by decide))).trans e154
      have r2 := (x159.2 rd 2 lt_rd (fun h => absurd h.2 (by decide))).trans r2
      have r3 := (x159.2 rd 3 lt_rd (fun h => absurd h.2 (by decide))).trans r3
      have r8 := (x159.2 rd 8 lt_rd (fun h => absurd h.2 (by decide))).trans r8
      have e133 := (x159.2 ta B.length lt_ta (fun h => (hi_ne k_ta k_rd (by decide)) h.1)).trans e133
      have e146 := (x159.2 ba B.length lt_ba (fun h => (hi_ne k_ba k_rd (by decide)) h.1)).trans e146
      have ht : ∀ i, i < n → et_pl (eg_at G159 tp) i = some (.int (Int32.ofNat (b i))) := fun i hi => (x159.2 tp i lt_tp (fun h => (hi_ne k_tp k_rd (by decide)) h.1)).trans (ht i hi)
      have lt_rd := Nat.lt_of_lt_of_le lt_rd x159.1
      have lt_tp := Nat.lt_of_lt_of_le lt_tp x159.1
      have lt_ta := Nat.lt_of_lt_of_le lt_ta x159.1
      have lt_ba := Nat.lt_of_lt_of_le lt_ba x159.1
      have lt_na := Nat.lt_of_lt_of_le lt_na x159.1
      have hX := hX.tr x159 (fun b j hb h => by first | omega | (dsimp only at h ⊢; omega) | (dsimp only at h; omega) | (dsimp only; omega))
      have hY := hY.tr x159 (fun c j hc h => by unfold sq_S; first | omega | (dsimp only at h; omega))
      refine hs_vret (by decide +kernel) ?_
      exact ⟨_, _, rfl, hH, hX, rfl, tk_mk k_ta k_ba k_na r4 r5 r6 e154 (hsq.xf hY ltt ltb ltn (hi_ne k_ta k_rd (by decide)) (hi_ne k_ba k_rd (by decide)) (hi_ne k_na k_rd (by decide))) (by rw [hB]; congr 1; omega) hn e133 e146, e159, r2, r3, r8⟩
    · refine hs_aload (i := 0) (p := 31) (by decide +kernel) rfl ?_
      refine hf_get (T := et_TT) (t := 7) (ci := 5) (f := 7) (p := 34) (by decide +kernel) rfl hH k_rd r7 ?_
      refine hs_k (x := Int32.ofNat 400) (p := 37) (by decide +kernel) ?_
      refine hs_br2n (c := .ge) (t := 122) (f := 40) (by decide +kernel) (by omega) (by omega) (fun (c37 : 400 ≤ B.length) => ?_) (fun (c37 : ¬ (400 ≤ B.length)) => ?_)
      · exact absurd c37 (by omega)
      · refine hs_aload (i := 0) (p := 41) (by decide +kernel) rfl ?_
        refine hf_get (T := et_TT) (t := 7) (ci := 5) (f := 0) (p := 44) (by decide +kernel) rfl hH k_rd r0 ?_
        refine hs_iload (i := 2) (p := 45) (by decide +kernel) rfl ?_
        refine hf_ald (ins := .caload) (T := et_TT) (t := 33) (kd := 4) (N := 400) (p := 46) (by decide +kernel) (fun _ _ _ _ _ _ _ _ _ _ => rfl) rfl rfl rfl hH k_tp (by decide) (ht i (by omega)) ?_
        have hbi := hb i (by omega)
        refine hs_k (x := Int32.ofNat 32) (p := 48) (by decide +kernel) ?_
        refine hs_br2n (c := .eq) (t := 116) (f := 51) (by decide +kernel) (by omega) (by omega) (fun (c48 : (b i) = 32) => ?_) (fun (c48 : ¬ ((b i) = 32)) => ?_)
        · refine hs_iinc1 (i := 2) (p := 119) (by decide +kernel) rfl (Nat.le_of_ble_eq_true rfl) ?_
          refine hs_goto (p := 22) (by decide +kernel) ?_
          show et_go none _ 67 22 [some (.ref rd), some (.int (Int32.ofNat pl)), some (.int (Int32.ofNat (i + 1))), x3] [] _ _ _ _
          exact ih (n - (i + 1)) (by omega) hH r0 r1 ht r4 r5 r6 hX r7 r2 r3 r8 (tz_bg_n hB (.inl c48)) rfl (hsq) (by omega) rfl
        · refine hs_aload (i := 0) (p := 52) (by decide +kernel) rfl ?_
          refine hs_iload (i := 2) (p := 53) (by decide +kernel) rfl ?_
          refine ht_callv (T := et_TT) (t := 7) (mi := 68) (na := 1) (ci := 5) (lk := 4) (lm := 2) (L0 := eg_en (eg_mL 68) [.ref rd, .int (Int32.ofNat i)]) (by decide +kernel) rfl hH k_rd rfl rfl rfl rfl rfl (by rw [show eg_mL 68 = 2 from by decide +kernel]; first | done | rfl) ?_
          refine (fc_go hH k_rd r0 k_tp r1 hn ht hb (i := i) (by omega) (by omega)).mono (fun u hu => xp_cb hu ?_)
          by_cases g53 : tz_go b n i = true
          · rw [if_pos g53]
            show et_go none _ 67 56 _ [.int (Int32.ofNat 1)] _ _ _ _
            refine hs_if1 (c := .ne) (t := 116) (f := 59) (by decide +kernel) (show ¬ Int32.ofNat 1 = 0 by decide) ?_
            refine hs_iinc1 (i := 2) (p := 119) (by decide +kernel) rfl (Nat.le_of_ble_eq_true rfl) ?_
            refine hs_goto (p := 22) (by decide +kernel) ?_
            show et_go none _ 67 22 [some (.ref rd), some (.int (Int32.ofNat pl)), some (.int (Int32.ofNat (i + 1))), x3] [] _ _ _ _
            exact ih (n - (i + 1)) (by omega) hH r0 r1 ht r4 r5 r6 hX r7 r2 r3 r8 (tz_bg_n hB (.inr g53)) rfl (hsq) (by omega) rfl
          · rw [if_neg g53]
            show et_go none _ 67 56 _ [.int (Int32.ofNat 0)] _ _ _ _
            refine hs_if0 (c := .ne) (t := 116) (f := 59) (by decide +kernel) (show ¬ (¬ Int32.ofNat 0 = 0) by decide) ?_
            refine hs_aload (i := 0) (p := 60) (by decide +kernel) rfl ?_
            refine hs_iload (i := 2) (p := 61) (by decide +kernel) rfl ?_
            refine ht_callv (T := et_TT) (t := 7) (mi := 71) (na := 1) (ci := 5) (lk := 4) (lm := 3) (L0 := eg_en (eg_mL 71) [.ref rd, .int (Int32.ofNat i)]) (by decide +kernel) rfl hH k_rd rfl rfl rfl rfl rfl (by rw [show eg_mL 71 = 3 from by decide +kernel]; first | done | rfl) ?_
            refine (fc_end hH k_rd r0 k_tp r1 hn ht hb (by omega) (by omega)).mono (fun u hu => xp_cb hu ?_)
            show et_go none _ 67 64 _ [.int (Int32.ofNat (tz_end b n i))] _ _ _ _
            refine hs_istore (i := 3) (p := 65) (by decide +kernel) (Nat.le_of_ble_eq_true rfl) ?_
            refine hs_aload (i := 0) (p := 66) (by decide +kernel) rfl ?_
            refine hf_get (T := et_TT) (t := 7) (ci := 5) (f := 4) (p := 69) (by decide +kernel) rfl hH k_rd r4 ?_
            refine hs_aload (i := 0) (p := 70) (by decide +kernel) rfl ?_
            refine hf_get (T := et_TT) (t := 7) (ci := 5) (f := 7) (p := 73) (by decide +kernel) rfl hH k_rd r7 ?_
            refine hs_aload (i := 0) (p := 74) (by decide +kernel) rfl ?_
            refine hs_iload (i := 2) (p := 75) (by decide +kernel) rfl ?_
            refine hs_iload (i := 3) (p := 76) (by decide +kernel) rfl ?_
            refine hs_iload (i := 1) (p := 77) (by decide +kernel) rfl ?_
            refine ht_callv (T := et_TT) (t := 7) (mi := 72) (na := 3) (ci := 5) (lk := 4) (lm := 6) (L0 := eg_en (eg_mL 72) [.ref rd, .int (Int32.ofNat i), .int (Int32.ofNat (tz_end b n i)), .int (Int32.ofNat pl)]) (by decide +kernel) rfl hH k_rd rfl rfl rfl rfl rfl (by rw [show eg_mL 72 = 6 from by decide +kernel]; first | done | rfl) ?_
            refine (fc_word hH k_rd r0 k_tp r1 hn ht hb hpl (by omega) (by omega)).mono (fun u hu => xp_cb hu ?_)
            show et_go none _ 67 80 _ [.ref (tz_wd pl b n i), .int (Int32.ofNat B.length), .ref ta] _ _ _ _
            refine hf_tst (p := 81) (by decide +kernel) hH k_ta (by omega) (hH.2.1 _ tz_wd_lt) (fun G80 hH x80 e80 => ?_)
            have r0 := (x80.2 rd 0 lt_rd (fun h => (hi_ne k_rd k_ta (by decide)) h.1)).trans r0
            have r1 := (x80.2 rd 1 lt_rd (fun h => (hi_ne k_rd k_ta (by decide)) h.1)).trans r1
            have r4 := (x80.2 rd 4 lt_rd (fun h => (hi_ne k_rd k_ta (by decide)) h.1)).trans r4
            have r5 := (x80.2 rd 5 lt_rd (fun h => (hi_ne k_rd k_ta (by decide)) h.1)).trans r5
            have r6 := (x80.2 rd 6 lt_rd (fun h => (hi_ne k_rd k_ta (by decide)) h.1)).trans r6
            have r7 := (x80.2 rd 7 lt_rd (fun h => (hi_ne k_rd k_ta (by decide)) h.1)).trans r7
            have r2 := (x80.2 rd 2 lt_rd (fun h => (hi_ne k_rd k_ta (by decide)) h.1)).trans r2
            have r3 := (x80.2 rd 3 lt_rd (fun h => (hi_ne k_rd k_ta (by decide)) h.1)).trans r3
            have r8 := (x80.2 rd 8 lt_rd (fun h => (hi_ne k_rd k_ta (by decide)) h.1)).trans r8
            have ht : ∀ i, i < n → et_pl (eg_at G80 tp) i = some (.int (Int32.ofNat (b i))) := fun i hi => (x80.2 tp i lt_tp (fun h => (hi_ne k_tp k_ta (by decide)) h.1)).trans (ht i hi)
            have lt_rd := Nat.lt_of_lt_of_le lt_rd x80.1
            have lt_tp := Nat.lt_of_lt_of_le lt_tp x80.1
            have lt_ta := Nat.lt_of_lt_of_le lt_ta x80.1
            have lt_ba := Nat.lt_of_lt_of_le lt_ba x80.1
            have lt_na := Nat.lt_of_lt_of_le lt_na x80.1
            have hX := hX.tr x80 (fun b j hb h => by first | omega | (dsimp only at h ⊢; omega) | (dsimp only at h; omega) | (dsimp only; omega))
            have hY := hY.tr x80 (fun c j hc h => by unfold sq_S; first | omega | (dsimp only at h; omega))
            refine hs_aload (i := 0) (p := 82) (by decide +kernel) rfl ?_
            refine hf_get (T := et_TT) (t := 7) (ci := 5) (f := 5) (p := 85) (by decide +kernel) rfl hH k_rd r5 ?_
            refine hs_aload (i := 0) (p := 86) (by decide +kernel) rfl ?_
            refine hf_get (T := et_TT) (t := 7) (ci := 5) (f := 7) (p := 89) (by decide +kernel) rfl hH k_rd r7 ?_
            refine hs_iload (i := 2) (p := 90) (by decide +kernel) rfl ?_
            refine hf_ist (T := et_TT) (t := 21) (N := 401) (p := 91) (by decide +kernel) rfl rfl (by decide) hH k_ba (by omega) (by decide) (fun s hs => absurd hs List.not_mem_nil) (fun G90 hH x90 e90 => ?_)
            have r0 := (x90.2 rd 0 lt_rd (fun h => (hi_ne k_rd k_ba (by decide)) h.1)).trans r0
            have r1 := (x90.2 rd 1 lt_rd (fun h => (hi_ne k_rd k_ba (by decide)) h.1)).trans r1
            have r4 := (x90.2 rd 4 lt_rd (fun h => (hi_ne k_rd k_ba (by decide)) h.1)).trans r4
            have r5 := (x90.2 rd 5 lt_rd (fun h => (hi_ne k_rd k_ba (by decide)) h.1)).trans r5
            have r6 := (x90.2 rd 6 lt_rd (fun h => (hi_ne k_rd k_ba (by decide)) h.1)).trans r6
            have r7 := (x90.2 rd 7 lt_rd (fun h => (hi_ne k_rd k_ba (by decide)) h.1)).trans r7
            have r2 := (x90.2 rd 2 lt_rd (fun h => (hi_ne k_rd k_ba (by decide)) h.1)).trans r2
            have r3 := (x90.2 rd 3 lt_rd (fun h => (hi_ne k_rd k_ba (by decide)) h.1)).trans r3
            have r8 := (x90.2 rd 8 lt_rd (fun h => (hi_ne k_rd k_ba (by decide)) h.1)).trans r8
            have e80 := (x90.2 ta B.length lt_ta (fun h => (hi_ne k_ta k_ba (by decide)) h.1)).trans e80
            have ht : ∀ i, i < n → et_pl (eg_at G90 tp) i = some (.int (Int32.ofNat (b i))) := fun i hi => (x90.2 tp i lt_tp (fun h => (hi_ne k_tp k_ba (by decide)) h.1)).trans (ht i hi)
            have lt_rd := Nat.lt_of_lt_of_le lt_rd x90.1
            have lt_tp := Nat.lt_of_lt_of_le lt_tp x90.1
            have lt_ta := Nat.lt_of_lt_of_le lt_ta x90.1
            have lt_ba := Nat.lt_of_lt_of_le lt_ba x90.1
            have lt_na := Nat.lt_of_lt_of_le lt_na x90.1
            have hX := hX.tr x90 (fun b j hb h => by first | omega | (dsimp only at h ⊢; omega) | (dsimp only at h; omega) | (dsimp only; omega))
            have hY := hY.tr x90 (fun c j hc h => by unfold sq_S; first | omega | (dsimp only at h; omega))
            refine hs_aload (i := 0) (p := 92) (by decide +kernel) rfl ?_
            refine hf_get (T := et_TT) (t := 7) (ci := 5) (f := 6) (p := 95) (by decide +kernel) rfl hH k_rd r6 ?_
            refine hs_aload (i := 0) (p := 96) (by decide +kernel) rfl ?_
            refine hf_get (T := et_TT) (t := 7) (ci := 5) (f := 7) (p := 99) (by decide +kernel) rfl hH k_rd r7 ?_
            refine hs_aload (i := 0) (p := 100) (by decide +kernel) rfl ?_
            refine hs_iload (i := 2) (p := 101) (by decide +kernel) rfl ?_
            refine hs_iload (i := 3) (p := 102) (by decide +kernel) rfl ?_
            refine ht_callv (T := et_TT) (t := 7) (mi := 74) (na := 2) (ci := 5) (lk := 4) (lm := 5) (L0 := eg_en (eg_mL 74) [.ref rd, .int (Int32.ofNat i), .int (Int32.ofNat (tz_end b n i))]) (by decide +kernel) rfl hH k_rd rfl rfl rfl rfl rfl (by rw [show eg_mL 74 = 5 from by decide +kernel]; first | done | rfl) ?_
            refine (fc_num hH k_rd r0 k_tp r1 hn ht hb (by omega) (by omega)).mono (fun u hu => xp_cb hu ?_)
            show et_go none _ 67 105 _ [.int (tz_i (tz_nm b n i)), .int (Int32.ofNat B.length), .ref na] _ _ _ _
            refine hf_ist (T := et_TT) (t := 21) (N := 401) (p := 106) (by decide +kernel) rfl rfl (by decide) hH k_na (by omega) (by decide) (fun s hs => absurd hs List.not_mem_nil) (fun G105 hH x105 e105 => ?_)
            have r0 := (x105.2 rd 0 lt_rd (fun h => (hi_ne k_rd k_na (by decide)) h.1)).trans r0
            have r1 := (x105.2 rd 1 lt_rd (fun h => (hi_ne k_rd k_na (by decide)) h.1)).trans r1
            have r4 := (x105.2 rd 4 lt_rd (fun h => (hi_ne k_rd k_na (by decide)) h.1)).trans r4
            have r5 := (x105.2 rd 5 lt_rd (fun h => (hi_ne k_rd k_na (by decide)) h.1)).trans r5
            have r6 := (x105.2 rd 6 lt_rd (fun h => (hi_ne k_rd k_na (by decide)) h.1)).trans r6
            have r7 := (x105.2 rd 7 lt_rd (fun h => (hi_ne k_rd k_na (by decide)) h.1)).trans r7
            have r2 := (x105.2 rd 2 lt_rd (fun h => (hi_ne k_rd k_na (by decide)) h.1)).trans r2
            have r3 := (x105.2 rd 3 lt_rd (fun h => (hi_ne k_rd k_na (by decide)) h.1)).trans r3
            have r8 := (x105.2 rd 8 lt_rd (fun h => (hi_ne k_rd k_na (by decide)) h.1)).trans r8
            have e80 := (x105.2 ta B.length lt_ta (fun h => (hi_ne k_ta k_na (by decide)) h.1)).trans e80
            have e90 := (x105.2 ba B.length lt_ba (fun h => hne h.1)).trans e90
            have ht : ∀ i, i < n → et_pl (eg_at G105 tp) i = some (.int (Int32.ofNat (b i))) := fun i hi => (x105.2 tp i lt_tp (fun h => (hi_ne k_tp k_na (by decide)) h.1)).trans (ht i hi)
            have lt_rd := Nat.lt_of_lt_of_le lt_rd x105.1
            have lt_tp := Nat.lt_of_lt_of_le lt_tp x105.1
            have lt_ta := Nat.lt_of_lt_of_le lt_ta x105.1
            have lt_ba := Nat.lt_of_lt_of_le lt_ba x105.1
            have lt_na := Nat.lt_of_lt_of_le lt_na x105.1
            have hX := hX.tr x105 (fun b j hb h => by first | omega | (dsimp only at h ⊢; omega) | (dsimp only at h; omega) | (dsimp only; omega))
            have hY := hY.tr x105 (fun c j hc h => by unfold sq_S; first | omega | (dsimp only at h; omega))
            refine hs_aload (i := 0) (p := 107) (by decide +kernel) rfl ?_
            refine hs_dup1 (p := 108) (by decide +kernel) ?_
            refine hf_get (T := et_TT) (t := 7) (ci := 5) (f := 7) (p := 111) (by decide +kernel) rfl hH k_rd r7 ?_
            refine hs_k (x := Int32.ofNat 1) (p := 112) (by decide +kernel) ?_
            refine hs_iaddn (p := 113) (by decide +kernel) ?_
            refine hf_put (T := et_TT) (t := 7) (ci := 5) (f := 7) (p := 116) (ty := .int) (by decide +kernel) rfl rfl rfl rfl rfl hH k_rd (hi_nv (by omega) (by omega)) (fun G113 hH x113 e113 => ?_)
            have r0 := (x113.2 rd 0 lt_rd (fun h => absurd h.2 (by decide))).trans r0
            have r1 := (x113.2 rd 1 lt_rd (fun h => absurd h.2 (by decide))).trans r1
            have r4 := (x113.2 rd 4 lt_rd (fun h => absurd h.2 (by decide))).trans r4
            have r5 := (x113.2 rd 5 lt_rd (fun h => absurd h.2 (by decide))).trans r5
            have r6 := (x113.2 rd 6 lt_rd (fun h => absurd h.2 (by decide))).trans r6
            have r2 := (x113.2 rd 2 lt_rd (fun h => absurd h.2 (by decide))).trans r2
            have r3 := (x113.2 rd 3 lt_rd (fun h => absurd h.2 (by decide))).trans r3
            have r8 := (x113.2 rd 8 lt_rd (fun h => absurd h.2 (by decide))).trans r8
            have e80 := (x113.2 ta B.length lt_ta (fun h => (hi_ne k_ta k_rd (by decide)) h.1)).trans e80
            have e90 := (x113.2 ba B.length lt_ba (fun h => (hi_ne k_ba k_rd (by decide)) h.1)).trans e90
            have e105 := (x113.2 na B.length lt_na (fun h => (hi_ne k_na k_rd (by decide)) h.1)).trans e105
            have ht : ∀ i, i < n → et_pl (eg_at G113 tp) i = some (.int (Int32.ofNat (b i))) := fun i hi => (x113.2 tp i lt_tp (fun h => (hi_ne k_tp k_rd (by decide)) h.1)).trans (ht i hi)
            have lt_rd := Nat.lt_of_lt_of_le lt_rd x113.1
            have lt_tp := Nat.lt_of_lt_of_le lt_tp x113.1
            have lt_ta := Nat.lt_of_lt_of_le lt_ta x113.1
            have lt_ba := Nat.lt_of_lt_of_le lt_ba x113.1
            have lt_na := Nat.lt_of_lt_of_le lt_na x113.1
            have hX := hX.tr x113 (fun b j hb h => by first | omega | (dsimp only at h ⊢; omega) | (dsimp only at h; omega) | (dsimp only; omega))
            have hY := hY.tr x113 (fun c j hc h => by unfold sq_S; first | omega | (dsimp only at h; omega))
            refine hs_iinc1 (i := 2) (p := 119) (by decide +kernel) rfl (Nat.le_of_ble_eq_true rfl) ?_
            refine hs_goto (p := 22) (by decide +kernel) ?_
            show et_go none _ 67 22 [some (.ref rd), some (.int (Int32.ofNat pl)), some (.int (Int32.ofNat (i + 1))), some (.int (Int32.ofNat (tz_end b n i)))] [] _ _ _ _
            exact ih (n - (i + 1)) (by omega) hH r0 r1 ht r4 r5 r6 hX e113 r2 r3 r8 (tz_bg_y hB c48 g53) (by rw [List.length_append]; rfl) ((hsq.xf hY ltt ltb ltn (hi_ne k_ta k_rd (by decide)) (hi_ne k_ba k_rd (by decide)) (hi_ne k_na k_rd (by decide))).snoc (by omega) e80 e105 e90) (by omega) rfl
theorem fc_split (hH : et_H et_TT K G) (k_rd : K rd = some 7) (r0 : et_pl (eg_at G rd) 0 = some (.ref tp)) (k_tp : K tp = some 33) (r1 : et_pl (eg_at G rd) 1 = some (.int (Int32.ofNat n))) (hn : n ≤ 400) (ht : ∀ i, i < n → et_pl (eg_at G tp) i = some (.int (Int32.ofNat (b i)))) (hb : ∀ i, i < n → b i < 256) (k_ta : K ta = some 41) (k_ba : K ba = some 21) (k_na : K na = some 21) (hne : ¬ ba = na) (r4 : et_pl (eg_at G rd) 4 = some (.ref ta)) (r5 : et_pl (eg_at G rd) 5 = some (.ref ba)) (r6 : et_pl (eg_at G rd) 6 = some (.ref na)) (hpl : pl ≤ 3) (hd : 8 ≤ d2) : et_go none d2 67 0 (eg_en (eg_mL 67) [.ref rd, .int (Int32.ofNat pl)]) [] G 0 0 (xw_Z (fun c j => (c = rd ∧ ((1 ≤ j ∧ j ≤ 3) ∨ 7 ≤ j)) ∨ c = ta ∨ c = ba ∨ c = na) K G (fun G' v => v = none ∧ tk K G' rd (tz_ts pl b n 0) ∧ et_pl (eg_at G' rd) 1 = some (.int (Int32.ofNat 0)) ∧ et_pl (eg_at G' rd) 2 = some (.int (-1)) ∧ et_pl (eg_at G' rd) 3 = some (.int (Int32.ofNat 0)) ∧ et_pl (eg_at G' rd) 8 = some (.int (Int32.ofNat 0)))) := by
  obtain ⟨d, rfl⟩ : ∃ d, d2 = d + 8 := ⟨d2 - 8, by omega⟩
  rw [show eg_mL 67 = 4 from by decide +kernel]
  show et_go none (d + 8) 67 0 [some (.ref rd), some (.int (Int32.ofNat pl)), none, none] [] G 0 0 _
  have lt_rd := (hH.2.2 _ _ k_rd).1
  have lt_tp := (hH.2.2 _ _ k_tp).1
  have lt_ta := (hH.2.2 _ _ k_ta).1
  have lt_ba := (hH.2.2 _ _ k_ba).1
  have lt_na := (hH.2.2 _ _ k_na).1
  have hX : xf (fun c j => (c = rd ∧ ((1 ≤ j ∧ j ≤ 3) ∨ 7 ≤ j)) ∨ c = ta ∨ c = ba ∨ c = na) G G := xf.rf
  refine hs_aload (i := 0) (p := 1) (by decide +kernel) rfl ?_
  refine hs_k (x := (-1)) (p := 2) (by decide +kernel) ?_
  refine hf_put (T := et_TT) (t := 7) (ci := 5) (f := 2) (p := 5) (ty := .int) (by decide +kernel) rfl rfl rfl rfl rfl hH k_rd (hi_iv (by decide) (by decide)) (fun G2 hH x2 e2 => ?_)
  have r0 := (x2.2 rd 0 lt_rd (fun h => absurd h.2 (by decide))).trans r0
  have r1 := (x2.2 rd 1 lt_rd (fun h => absurd h.2 (by decide))).trans r1
  have r4 := (x2.2 rd 4 lt_rd (fun h => absurd h.2 (by decide))).trans r4
  have r5 := (x2.2 rd 5 lt_rd (fun h => absurd h.2 (by decide))).trans r5
  have r6 := (x2.2 rd 6 lt_rd (fun h => absurd h.2 (by decide))).trans r6
  have ht : ∀ i, i < n → et_pl (eg_at G2 tp) i = some (.int (Int32.ofNat (b i))) := fun i hi => (x2.2 tp i lt_tp (fun h => (hi_ne k_tp k_rd (by decide)) h.1)).trans (ht i hi)
  have lt_rd := Nat.lt_of_lt_of_le lt_rd x2.1
  have lt_tp := Nat.lt_of_lt_of_le lt_tp x2.1
  have lt_ta := Nat.lt_of_lt_of_le lt_ta x2.1
  have lt_ba := Nat.lt_of_lt_of_le lt_ba x2.1
  have lt_na := Nat.lt_of_lt_of_le lt_na x2.1
  have hX := hX.tr x2 (fun b j hb h => by first | omega | (dsimp only at h ⊢; omega) | (dsimp only at h; omega) | (dsimp only; omega))
  refine hs_aload (i := 0) (p := 6) (by decide +kernel) rfl ?_
  refine hs_k (x := Int32.ofNat 0) (p := 7) (by decide +kernel) ?_
  refine hf_put (T := et_TT) (t := 7) (ci := 5) (f := 3) (p := 10) (ty := .boolean) (by decide +kernel) rfl rfl rfl (by decide +kernel) rfl hH k_rd (hi_nv (by omega) (by omega)) (fun G7 hH x7 e7 => ?_)
  have r0 := (x7.2 rd 0 lt_rd (fun h => absurd h.2 (by decide))).trans r0
  have r1 := (x7.2 rd 1 lt_rd (fun h => absurd h.2 (by decide))).trans r1
  have r4 := (x7.2 rd 4 lt_rd (fun h => absurd h.2 (by decide))).trans r4
  have r5 := (x7.2 rd 5 lt_rd (fun h => absurd h.2 (by decide))).trans r5
  have r6 := (x7.2 rd 6 lt_rd (fun h => absurd h.2 (by decide))).trans r6
  have e2 := (x7.2 rd 2 lt_rd (fun h => absurd h.2 (by decide))).trans e2
  have ht : ∀ i, i < n → et_pl (eg_at G7 tp) i = some (.int (Int32.ofNat (b i))) := fun i hi => (x7.2 tp i lt_tp (fun h => (hi_ne k_tp k_rd (by decide)) h.1)).trans (ht i hi)
  have lt_rd := Nat.lt_of_lt_of_le lt_rd x7.1
  have lt_tp := Nat.lt_of_lt_of_le lt_tp x7.1
  have lt_ta := Nat.lt_of_lt_of_le lt_ta x7.1
  have lt_ba := Nat.lt_of_lt_of_le lt_ba x7.1
  have lt_na := Nat.lt_of_lt_of_le lt_na x7.1
  have hX := hX.tr x7 (fun b j hb h => by first | omega | (dsimp only at h ⊢; omega) | (dsimp only at h; omega) | (dsimp only; omega))
  refine hs_aload (i := 0) (p := 11) (by decide +kernel) rfl ?_
  refine hs_k (x := Int32.ofNat 0) (p := 12) (by decide +kernel) ?_
  refine hf_put (T := et_TT) (t := 7) (ci := 5) (f := 7) (p := 15) (ty := .int) (by decide +kernel) rfl rfl rfl rfl rfl hH k_rd (hi_nv (by omega) (by omega)) (fun G12 hH x12 e12 => ?_)
  have r0 := (x12.2 rd 0 lt_rd (fun h => absurd h.2 (by decide))).trans r0
  have r1 := (x12.2 rd 1 lt_rd (fun h => absurd h.2 (by decide))).trans r1
  have r4 := (x12.2 rd 4 lt_rd (fun h => absurd h.2 (by decide))).trans r4
  have r5 := (x12.2 rd 5 lt_rd (fun h => absurd h.2 (by decide))).trans r5
  have r6 := (x12.2 rd 6 lt_rd (fun h => absurd h.2 (by decide))).trans r6
  have e2 := (x12.2 rd 2 lt_rd (fun h => absurd h.2 (by decide))).trans e2
  have e7 := (x12.2 rd 3 lt_rd (fun h => absurd h.2 (by decide))).trans e7
  have ht : ∀ i, i < n → et_pl (eg_at G12 tp) i = some (.int (Int32.ofNat (b i))) := fun i hi => (x12.2 tp i lt_tp (fun h => (hi_ne k_tp k_rd (by decide)) h.1)).trans (ht i hi)
  have lt_rd := Nat.lt_of_lt_of_le lt_rd x12.1
  have lt_tp := Nat.lt_of_lt_of_le lt_tp x12.1
  have lt_ta := Nat.lt_of_lt_of_le lt_ta x12.1
  have lt_ba := Nat.lt_of_lt_of_le lt_ba x12.1
  have lt_na := Nat.lt_of_lt_of_le lt_na x12.1
  have hX := hX.tr x12 (fun b j hb h => by first | omega | (dsimp only at h ⊢; omega) | (dsimp only at h; omega) | (dsimp only; omega))
  refine hs_aload (i := 0) (p := 16) (by decide +kernel) rfl ?_
  refine hs_k (x := Int32.ofNat 0) (p := 17) (by decide +kernel) ?_
  refine hf_put (T := et_TT) (t := 7) (ci := 5) (f := 8) (p := 20) (ty := .int) (by decide +kernel) rfl rfl rfl rfl rfl hH k_rd (hi_nv (by omega) (by omega)) (fun G17 hH x17 e17 => ?_)
  have r0 := (x17.2 rd 0 lt_rd (fun h => absurd h.2 (by decide))).trans r0
  have r1 := (x17.2 rd 1 lt_rd (fun h => absurd h.2 (by decide))).trans r1
  have r4 := (x17.2 rd 4 lt_rd (fun h => absurd h.2 (by decide))).trans r4
  have r5 := (x17.2 rd 5 lt_rd (fun h => absurd h.2 (by decide))).trans r5
  have r6 := (x17.2 rd 6 lt_rd (fun h => absurd h.2 (by decide))).trans r6
  have e2 := (x17.2 rd 2 lt_rd (fun h => absurd h.2 (by decide))).trans e2
  have e7 := (x17.2 rd 3 lt_rd (fun h => absurd h.2 (by decide))).trans e7
  have e12 := (x17.2 rd 7 lt_rd (fun h => absurd h.2 (by decide))).trans e12
  have ht : ∀ i, i < n → et_pl (eg_at G17 tp) i = some (.int (Int32.ofNat (b i))) := fun i hi => (x17.2 tp i lt_tp (fun h => (hi_ne k_tp k_rd (by decide)) h.1)).trans (ht i hi)
  have lt_rd := Nat.lt_of_lt_of_le lt_rd x17.1
  have lt_tp := Nat.lt_of_lt_of_le lt_tp x17.1
  have lt_ta := Nat.lt_of_lt_of_le lt_ta x17.1
  have lt_ba := Nat.lt_of_lt_of_le lt_ba x17.1
  have lt_na := Nat.lt_of_lt_of_le lt_na x17.1
  have hX := hX.tr x17 (fun b j hb h => by first | omega | (dsimp only at h ⊢; omega) | (dsimp only at h; omega) | (dsimp only; omega))
  refine hs_k (x := Int32.ofNat 0) (p := 21) (by decide +kernel) ?_
  refine hs_istore (i := 2) (p := 22) (by decide +kernel) (Nat.le_of_ble_eq_true rfl) ?_
  exact fc_spL hH k_rd r0 k_tp r1 hn ht hb k_ta k_ba k_na hne r4 r5 r6 hpl hX e12 e2 e7 e17 (i := 0) rfl rfl (fun j x hj => by cases hj) (Nat.zero_le _)
end FMA
