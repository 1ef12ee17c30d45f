/-! FUNCTIONAL: the reference's parser: what it accepts, what its steps say -/
theorem nm_lt {b : Nat → Nat} {n q x : Nat} (h : tz_nm b n q = some x) : x < 10000 := by
  unfold tz_nm at h
  split at h
  · cases h
  · rename_i h1
    cases h
    have hd : tz_d (b q) = true := by
      cases hc : tz_d (b q) with
      | true => rfl
      | false => exact absurd (.inr hc) h1
    have hl : tz_end b n q - q ≤ 4 := by omega
    have hdg : ∀ r, q ≤ r → r < q + (tz_end b n q - q) → 48 ≤ b r ∧ b r ≤ 57 := by
      by_cases hq : q < n
      · have he : dst b n q = tz_end b n q := if_pos ⟨hq, hd⟩
        intro r h2 h3
        exact ((dst_iff (b := b) (n := n) h2 (by omega)).mpr (by omega)).2
      · have he : tz_end b n q = q + 1 := by
          unfold tz_end
          rw [show n - (q + 1) = 0 by omega]
          rfl
        intro r h2 h3
        obtain rfl : r = q := by omega
        unfold tz_d at hd
        simpa only [Bool.and_eq_true, Nat.ble_eq] using hd
    exact Nat.lt_of_lt_of_le (tz_nu_d _ hdg) (Nat.pow_le_pow_right (by decide) hl)
theorem tl_ts {b : Nat → Nat} {pl n p : Nat} : tl (tz_ts pl b n p) := by
  intro t ht
  unfold tz_ts at ht
  obtain ⟨q, hq, rfl⟩ := List.mem_map.mp ht
  refine ⟨?_, fun v hv => nm_lt hv⟩
  show tz_wd pl b n q < 36
  unfold tz_wd
  split
  · decide
  · have h : ∀ (k w0 i e : Nat), w0 + k ≤ 36 → tz_fd pl b i e k w0 < 36 := by
      intro k
      induction k with
      | zero => intro w0 i e _; show 35 < 36; decide
      | succ k ih =>
        intro w0 i e h
        show (if _ then w0 else _) < 36
        split
        · omega
        · exact ih _ _ _ (by omega)
    exact h 36 0 _ _ (by decide)
theorem let_33 {b : Nat → Nat} {pl n p : Nat} (ha : tal b n p) (h : ¬ lst b n (skp b n p) ≤ skp b n p) : ¬ wat (tz_ts pl b n p) 0 = 33 := fun h1 => by
  have h2 := (tok_d ha).mpr h1
  have h3 : ¬ tz_l (b (skp b n p)) = true := by
    have h4 := h2.2
    unfold tz_d at h4
    unfold tz_l
    simp only [Bool.and_eq_true, Nat.ble_eq] at h4 ⊢
    omega
  have : lst b n (skp b n p) = skp b n p := if_neg (fun h => h3 h.2)
  omega
theorem let_no {b : Nat → Nat} {pl n p : Nat} (ha : tal b n p) (h : lst b n (skp b n p) ≤ skp b n p) : ¬ sp_fw (wat (tz_ts pl b n p) 0) = true := fun h1 => by
  have h2 := wat_ts ha (fw_lt h1).1 rfl
  have h3 := fw_l _ (List.mem_range.mpr (fw_lt h1).1) (.inl h1)
  rw [← h2.2.2] at h3
  have h4 : lst b n (skp b n p) = tz_end b n (skp b n p) := if_pos ⟨h2.1, h3⟩
  have := tz_end_le (b := b) h2.1
  omega
theorem part_no {b : Nat → Nat} {pl n p p' : Nat} (ha : tal b n p) (h : lst b n (skp b n p) ≤ skp b n p) (he : tz_ts pl b n p' = tz_ts pl b n p) (hn : ∀ x r, tz_ts pl b n p' = (33, some x) :: r → ¬ x ≤ 9999) : sp_part (tz_ts pl b n p) = none := by
  have hf := let_no (pl := pl) ha h
  rw [he] at hn
  generalize hL : tz_ts pl b n p = L at *
  have htl : tl L := by rw [← hL]; exact tl_ts
  rcases wat_c L 0 with ⟨-, -, h1⟩ | ⟨v, h1, h2⟩
  · have h1 : L = [] := h1
    rw [h1]
    rfl
  · have h2 : L = (wat L 0, v) :: L.drop 1 := h2
    by_cases h3 : wat L 0 = 33
    · rw [h3] at h1 h2
      cases v with
      | none => exact sp_part_0 (L := L) (y := 0) h1
      | some x =>
        have := (htl _ (List.mem_of_getElem? h1)).2 x rfl
        exact absurd (by omega) (hn x _ h2)
    · exact sp_part_3n (L := L) (y := 0) h3 hf
theorem sp_t_n {x : Nat} {r : List sp_T} (h : ¬ wat r 0 = 28) : sp_part ((33, some x) :: r) = some (fun _ => Int64.ofNat x, r) := (sp_part_v (L := (33, some x) :: r) (y := 0) rfl).trans (sp_times_n (L := r) (y := 0) h)
theorem sp_t_0 {x : Nat} {r : List sp_T} (h : wat r 0 = 28) (h2 : sp_fact (r.drop 1) = none) : sp_part ((33, some x) :: r) = none := by
  refine (sp_part_v (L := (33, some x) :: r) (y := 0) rfl).trans ((sp_times_y (L := r) (y := 0) h).trans ?_)
  rw [show sp_fact (r.drop (0 + 1)) = none from h2]
theorem sp_t_y {x : Nat} {r r3 : List sp_T} {f : sp_E → Int64} (h : wat r 0 = 28) (h2 : sp_fact (r.drop 1) = some (f, r3)) : sp_part ((33, some x) :: r) = some (fun e => Int64.ofNat x * f e, r3) := by
  refine (sp_part_v (L := (33, some x) :: r) (y := 0) rfl).trans ((sp_times_y (L := r) (y := 0) h).trans ?_)
  rw [show sp_fact (r.drop (0 + 1)) = some (f, r3) from h2]
theorem sp_many_s {α : Type} {sub : sp_P α} {sep : Nat} {op : α → α → α} {g : α} {T r : List sp_T} (h : sub T = some (g, r)) : sp_many sub sep op T = sp_loop sub sep op 500 g r := by
  unfold sp_many
  rw [h]
theorem sp_lp_s {α : Type} {sub : sp_P α} {sep n : Nat} {op : α → α → α} {a g : α} {T r : List sp_T} (h : sub T = some (g, r)) : sp_lp sub sep op n a T = sp_loop sub sep op n (op a g) r := by
  unfold sp_lp
  rw [h]
/-! what the steps say -/
theorem s18 : ∀ x : Bool, 1 - b01 x = b01 (!x) := by intro x; cases x <;> decide +kernel
theorem s19 : ∀ x y : Bool, sk2 19 (b01 x) (b01 y) = b01 (x && y) := by intro x y; cases x <;> cases y <;> decide +kernel
theorem s20 : ∀ x y : Bool, sk2 20 (b01 x) (b01 y) = b01 (x || y) := by intro x y; cases x <;> cases y <;> decide +kernel
section DNS
variable {pl : Nat} {f g : sp_E → Int64} {p q : sp_E → Bool} {C D : List (Nat × Nat)}
theorem dnS_num {v : Nat} : dnS pl (fun _ => Int64.ofNat v) [(13, v)] := fun _ _ => rfl
theorem dnS_fact {w : Nat} (hpl : pl ≤ 2) (h : sp_fw w = true) (hok : tz_ok pl w = true) : dnS pl (fun e => e.1 w) [(w - fbw pl, 0)] := fun E st => by
  have h1 := fw_in pl (List.mem_range.mpr (by omega)) w (List.mem_range.mpr (fw_lt h).1) h hok
  show (if w - fbw pl ≤ 13 then sk1 pl E (w - fbw pl) 0 :: st else _) = E.1 w :: st
  rw [if_pos (by omega)]
  unfold sk1
  rw [if_neg (by omega), if_pos (by omega), show fbw pl + (w - fbw pl) = w by omega]
theorem dnS_mul (h1 : dnS pl f C) (h2 : dnS pl g D) : dnS pl (fun e => f e * g e) ((C ++ D) ++ [(14, 0)]) := fun E st => by
  rw [skR_app, skR_app, h1, h2]
  rfl
theorem dnS_add (h1 : dnS pl f C) (h2 : dnS pl g D) : dnS pl (fun e => f e + g e) ((C ++ D) ++ [(15, 0)]) := fun E st => by
  rw [skR_app, skR_app, h1, h2]
  rfl
theorem dnB_less (h1 : dnS pl f C) (h2 : dnS pl g D) : dnB pl (fun e => decide (f e < g e)) ((C ++ D) ++ [(16, 0)]) := fun E st => by
  rw [skR_app, skR_app, h1, h2]
  rfl
theorem dnB_more (h1 : dnS pl f C) (h2 : dnS pl g D) : dnB pl (fun e => decide (g e < f e)) ((C ++ D) ++ [(17, 0)]) := fun E st => by
  rw [skR_app, skR_app, h1, h2]
  rfl
theorem dnB_and (h1 : dnB pl p C) (h2 : dnB pl q D) : dnB pl (fun e => p e && q e) ((C ++ D) ++ [(19, 0)]) := fun E st => by
  rw [skR_app, skR_app, h1, h2]
  exact congrArg (· :: st) (s19 (p E) (q E))
theorem dnB_or (h1 : dnB pl p C) (h2 : dnB pl q D) : dnB pl (fun e => p e || q e) ((C ++ D) ++ [(20, 0)]) := fun E st => by
  rw [skR_app, skR_app, h1, h2]
  exact congrArg (· :: st) (s20 (p E) (q E))
theorem dnB_not (h1 : dnB pl p C) : dnB pl (fun e => !p e) (C ++ [(18, 0)]) := fun E st => by
  rw [skR_app, h1]
  exact congrArg (· :: st) (s18 (p E))
theorem dnB_tag {w v : Nat} (hpl : pl ≤ 2) (h : sp_tw w = true) (hok : tz_ok pl w = true) : dnB pl (fun e => if w = 2 then e.2.2 v else e.2.1 w) [(10 + (w - tbw pl), v)] := fun E st => by
  have h1 := tw_in pl (List.mem_range.mpr (by omega)) w (List.mem_range.mpr (tw_lt h)) h hok
  show (if 10 + (w - tbw pl) ≤ 13 then sk1 pl E (10 + (w - tbw pl)) v :: st else _) = _
  rw [if_pos (by omega)]
  unfold sk1
  rw [if_neg (by omega), if_neg (by omega)]
  by_cases hw : w = 2
  · show b01 (if _ then _ else _) :: st = b01 (if w = 2 then E.2.2 v else E.2.1 w) :: st
    rw [if_pos (by omega), if_pos hw]
  · show b01 (if _ then _ else _) :: st = b01 (if w = 2 then E.2.2 v else E.2.1 w) :: st
    rw [if_neg (by omega), if_neg hw, show tbw pl + (10 + (w - tbw pl) - 10) = w by omega]
end DNS
def rP {α : Type} (mi D m : Nat) (R : Nat → α → List (Nat × Nat) → Prop) (sp : sp_P α) : Prop := ∀ (K : et_K) (G : eg_G) (b : Nat → Nat) (d2 am aw tm n p pl k dp : Nat), et_H et_TT K G → K am = some 13 → et_pl (eg_at G am) 4 = some (.ref tm) → K tm = some 34 → et_pl (eg_at G am) 7 = some (.int (Int32.ofNat n)) → n ≤ 400 → (∀ i, i < n → et_pl (eg_at G tm) i = some (.int (sx (b i)))) → (∀ i, i < n → b i < 256) → et_pl (eg_at G am) 6 = some (.int (Int32.ofNat p)) → tal b n p → pl ≤ 2 → et_pl (eg_at G am) 13 = some (.int (Int32.ofNat pl)) → K aw = some 46 → et_pl (eg_at G am) 1 = some (.ref aw) → et_pl (eg_at G am) 12 = some (.int (Int32.ofNat k)) → et_pl (eg_at G am) 9 = some (.int (Int32.ofNat dp)) → k + (tz_ts pl b n p).length ≤ 400 → dp + m = 6 → D ≤ d2 → et_go none d2 mi 0 (eg_en (eg_mL mi) [.ref am]) [] G 0 0 (fr b n pl am aw k dp (tz_ts pl b n p) K G (R pl) (sp (tz_ts pl b n p)))

section FVA
variable {K : et_K} {G G0 : eg_G} {b : Nat → Nat} {d2 d am aw tm n p pl k dp m : Nat}
theorem fr_fact : rP 201 7 m dnS sp_fact := by
  intro K G b d2 am aw tm n p pl k dp hH k_am m4 k_tm m7 hn ht hb m6 ha hpl m13 k_aw m1 m12 m9 hk hdm hd
  obtain ⟨d, rfl⟩ : ∃ d, d2 = d + (7) := ⟨d2 - (7), by omega⟩
  rw [show eg_mL 201 = 2 from by decide +kernel]
  show et_go none (d + (7)) 201 0 [some (.ref am), none] [] G 0 0 (xw_Z _ _ _ _)
  have hne : ¬ aw = am := hi_ne k_aw k_am (by decide)
  have lt_am := (hH.2.2 _ _ k_am).1
  have lt_tm := (hH.2.2 _ _ k_tm).1
  have lt_aw := (hH.2.2 _ _ k_aw).1
  have hX : xf (fun c j => (c = am ∧ j = 6) ∨ (c = am ∧ j = 8) ∨ (c = am ∧ j = 9) ∨ (c = am ∧ j = 12) ∨ (c = aw ∧ (11941 + 2 * k) ≤ j)) G G := xf.rf
  refine hs_aload (i := 0) (p := 1) (by decide +kernel) rfl ?_
  refine ht_callv (T := et_TT) (t := 13) (mi := 188) (na := 0) (ci := 11) (lk := 2) (lm := 1) (L0 := eg_en (eg_mL 188) [.ref am]) (by decide +kernel) rfl hH k_am rfl rfl rfl rfl rfl (by rw [show eg_mL 188 = 1 from by decide +kernel]; first | done | rfl) ?_
  refine (fm_let hH k_am m4 k_tm m7 hn ht hb m6 ha.1 (by omega)).mono (fun u hu => xw_cb hu (fun G1 v1 hH x1 hP1 => ?_))
  have m4 := (x1.2 am 4 lt_am (fun h => Or.elim h (fun h => absurd h.2 (by decide)) (fun h => absurd h.2 (by decide)))).trans m4
  have m7 := (x1.2 am 7 lt_am (fun h => Or.elim h (fun h => absurd h.2 (by decide)) (fun h => absurd h.2 (by decide)))).trans m7
  have m13 := (x1.2 am 13 lt_am (fun h => Or.elim h (fun h => absurd h.2 (by decide)) (fun h => absurd h.2 (by decide)))).trans m13
  have m1 := (x1.2 am 1 lt_am (fun h => Or.elim h (fun h => absurd h.2 (by decide)) (fun h => absurd h.2 (by decide)))).trans m1
  have m12 := (x1.2 am 12 lt_am (fun h => Or.elim h (fun h => absurd h.2 (by decide)) (fun h => absurd h.2 (by decide)))).trans m12
  have m9 := (x1.2 am 9 lt_am (fun h => Or.elim h (fun h => absurd h.2 (by decide)) (fun h => absurd h.2 (by decide)))).trans m9
  have ht : ∀ i, i < n → et_pl (eg_at G1 tm) i = some (.int (sx (b i))) := fun i hi => (x1.2 tm i lt_tm (fun h => Or.elim h (fun h => (hi_ne k_tm k_am (by decide)) h.1) (fun h => (hi_ne k_tm k_am (by decide)) h.1))).trans (ht i hi)
  have lt_am := Nat.lt_of_lt_of_le lt_am x1.1
  have lt_tm := Nat.lt_of_lt_of_le lt_tm x1.1
  have lt_aw := Nat.lt_of_lt_of_le lt_aw x1.1
  have hX := hX.tr x1 (fun b j hb h => by first | omega | (dsimp only at h ⊢; omega) | (dsimp only at h; omega) | (dsimp only; omega))
  obtain ⟨rfl, q6_1, q8_1⟩ := hP1
  have hsk := skp_le (b := b) (n := n) (p := p) ha.1
  have hls := lst_le (b := b) hsk.2
  have tk1 := tok_al (pl := pl) ha
  have tn1 := congrArg List.length tk1.2
  show et_go none _ 201 4 _ [] _ _ _ _
  refine hs_aload (i := 0) (p := 5) (by decide +kernel) rfl ?_
  refine ht_callv (T := et_TT) (t := 13) (mi := 202) (na := 0) (ci := 11) (lk := 2) (lm := 1) (L0 := eg_en (eg_mL 202) [.ref am]) (by decide +kernel) rfl hH k_am rfl rfl rfl rfl rfl (by rw [show eg_mL 202 = 1 from by decide +kernel]; first | done | rfl) ?_
  refine (pa_fact hH k_am m4 k_tm m7 hn ht hb q6_1 q8_1 m13 ha hpl (by omega)).mono (fun u hu => xp_cb hu ?_)
  by_cases w5 : sp_fw (wat (tz_ts pl b n p) 0) = true
  · rw [if_pos w5]
    have wl5 := (fw_lt w5).1
    have wi5 := wat_ts (pl := pl) ha wl5 rfl
    have wn5 := fw_in pl (List.mem_range.mpr (by omega)) _ (List.mem_range.mpr wl5) w5 wi5.2.1
    have wt5 := tok_ly (pl := pl) ha wl5 (fw_l _ (List.mem_range.mpr wl5) (.inl w5)) rfl
    have wm5 := wt5.2.2
    show et_go none _ 201 8 _ [.int (Int32.ofNat (wat (tz_ts pl b n p) 0 - fbw pl))] _ _ _ _
    refine hs_istore (i := 1) (p := 9) (by decide +kernel) (Nat.le_of_ble_eq_true rfl) ?_
    refine hs_iload (i := 1) (p := 10) (by decide +kernel) rfl ?_
    refine hs_if0 (c := .lt) (t := 19) (f := 13) (by decide +kernel) (rs_nn (by omega)) ?_
    refine hs_aload (i := 0) (p := 14) (by decide +kernel) rfl ?_
    refine hs_iload (i := 1) (p := 15) (by decide +kernel) rfl ?_
    refine hs_k (x := Int32.ofNat 0) (p := 16) (by decide +kernel) ?_
    refine ht_callv (T := et_TT) (t := 13) (mi := 197) (na := 2) (ci := 11) (lk := 2) (lm := 4) (L0 := eg_en (eg_mL 197) [.ref am, .int (Int32.ofNat (wat (tz_ts pl b n p) 0 - fbw pl)), .int (Int32.ofNat 0)]) (by decide +kernel) rfl hH k_am rfl rfl rfl rfl rfl (by rw [show eg_mL 197 = 4 from by decide +kernel]; first | done | rfl) ?_
    refine (pa_emit (o := (wat (tz_ts pl b n p) 0 - fbw pl)) (v := 0) ⟨by omega, by omega⟩ hH k_am k_aw m1 m12 (by omega) (by omega)).mono (fun u hu => xw_cb hu (fun G16 v16 hH x16 hP16 => ?_))
    have m4 := (x16.2 am 4 lt_am (fun h => Or.elim h (fun h => absurd h.2 (by decide)) (fun h => (hi_ne k_am k_aw (by decide)) h.1))).trans m4
    have m7 := (x16.2 am 7 lt_am (fun h => Or.elim h (fun h => absurd h.2 (by decide)) (fun h => (hi_ne k_am k_aw (by decide)) h.1))).trans m7
    have q6_1 := (x16.2 am 6 lt_am (fun h => Or.elim h (fun h => absurd h.2 (by decide)) (fun h => (hi_ne k_am k_aw (by decide)) h.1))).trans q6_1
    have m13 := (x16.2 am 13 lt_am (fun h => Or.elim h (fun h => absurd h.2 (by decide)) (fun h => (hi_ne k_am k_aw (by decide)) h.1))).trans m13
    have m1 := (x16.2 am 1 lt_am (fun h => Or.elim h (fun h => absurd h.2 (by decide)) (fun h => (hi_ne k_am k_aw (by decide)) h.1))).trans m1
    have m9 := (x16.2 am 9 lt_am (fun h => Or.elim h (fun h => absurd h.2 (by decide)) (fun h => (hi_ne k_am k_aw (by decide)) h.1))).trans m9
    have q8_1 := (x16.2 am 8 lt_am (fun h => Or.elim h (fun h => absurd h.2 (by decide)) (fun h => (hi_ne k_am k_aw (by decide)) h.1))).trans q8_1
    have ht : ∀ i, i < n → et_pl (eg_at G16 tm) i = some (.int (sx (b i))) := fun i hi => (x16.2 tm i lt_tm (fun h => Or.elim h (fun h => (hi_ne k_tm k_am (by decide)) h.1) (fun h => (hi_ne k_tm k_aw (by decide)) h.1))).trans (ht i hi)
    have lt_am := Nat.lt_of_lt_of_le lt_am x16.1
    have lt_tm := Nat.lt_of_lt_of_le lt_tm x16.1
    have lt_aw := Nat.lt_of_lt_of_le lt_aw x16.1
    have hX := hX.tr x16 (fun b j hb h => by first | omega | (dsimp only at h ⊢; omega) | (dsimp only at h; omega) | (dsimp only; omega))
    obtain ⟨rfl, C16, ec16, lc16, q12_16, hC16⟩ := hP16
    show et_go none _ 201 19 _ [] _ _ _ _
    refine hs_iload (i := 1) (p := 20) (by decide +kernel) rfl ?_
    refine hs_if0 (c := .lt) (t := 27) (f := 23) (by decide +kernel) (rs_nn (by omega)) ?_
    refine hs_k (x := Int32.ofNat 1) (p := 24) (by decide +kernel) ?_
    refine hs_goto (p := 28) (by decide +kernel) ?_
    refine hs_zret (by decide +kernel) (.inr rfl) ?_
    refine ⟨_, _, rfl, hH, hX, .inr ⟨_, (lst b n (skp b n p)), C16, (by rw [wt5.2.1]; exact sp_fact_y (L := tz_ts pl b n p) (y := 0) w5), rfl, q6_1, wt5.1, q12_16, m9, hC16, (by rw [ec16]; exact dnS_fact hpl w5 wi5.2.1), ?_⟩⟩
    omega
  · rw [if_neg w5]
    show et_go none _ 201 8 _ [.int (-1)] _ _ _ _
    refine hs_istore (i := 1) (p := 9) (by decide +kernel) (Nat.le_of_ble_eq_true rfl) ?_
    refine hs_iload (i := 1) (p := 10) (by decide +kernel) rfl ?_
    refine hs_if1 (c := .lt) (t := 19) (f := 13) (by decide +kernel) (show (-1 : Int32) < 0 by decide) ?_
    refine hs_iload (i := 1) (p := 20) (by decide +kernel) rfl ?_
    refine hs_if1 (c := .lt) (t := 27) (f := 23) (by decide +kernel) (show (-1 : Int32) < 0 by decide) ?_
    refine hs_k (x := Int32.ofNat 0) (p := 28) (by decide +kernel) ?_
    refine hs_zret (by decide +kernel) (.inl rfl) ?_
    exact ⟨_, _, rfl, hH, hX, .inl ⟨sp_fact_n (L := tz_ts pl b n p) (y := 0) w5, rfl⟩⟩
theorem fr_part : rP 200 8 m dnS sp_part := by
  intro K G b d2 am aw tm n p pl k dp hH k_am m4 k_tm m7 hn ht hb m6 ha hpl m13 k_aw m1 m12 m9 hk hdm hd
  obtain ⟨d, rfl⟩ : ∃ d, d2 = d + (8) := ⟨d2 - (8), by omega⟩
  rw [show eg_mL 200 = 2 from by decide +kernel]
  show et_go none (d + (8)) 200 0 [some (.ref am), none] [] G 0 0 (xw_Z _ _ _ _)
  have hne : ¬ aw = am := hi_ne k_aw k_am (by decide)
  have lt_am := (hH.2.2 _ _ k_am).1
  have lt_tm := (hH.2.2 _ _ k_tm).1
  have lt_aw := (hH.2.2 _ _ k_aw).1
  have hX : xf (fun c j => (c = am ∧ j = 6) ∨ (c = am ∧ j = 8) ∨ (c = am ∧ j = 9) ∨ (c = am ∧ j = 12) ∨ (c = aw ∧ (11941 + 2 * k) ≤ j)) G G := xf.rf
  refine hs_aload (i := 0) (p := 1) (by decide +kernel) rfl ?_
  refine ht_callv (T := et_TT) (t := 13) (mi := 188) (na := 0) (ci := 11) (lk := 2) (lm := 1) (L0 := eg_en (eg_mL 188) [.ref am]) (by decide +kernel) rfl hH k_am rfl rfl rfl rfl rfl (by rw [show eg_mL 188 = 1 from by decide +kernel]; first | done | rfl) ?_
  refine (fm_let hH k_am m4 k_tm m7 hn ht hb m6 ha.1 (by omega)).mono (fun u hu => xw_cb hu (fun G1 v1 hH x1 hP1 => ?_))
  have m4 := (x1.2 am 4 lt_am (fun h => Or.elim h (fun h => absurd h.2 (by decide)) (fun h => absurd h.2 (by decide)))).trans m4
  have m7 := (x1.2 am 7 lt_am (fun h => Or.elim h (fun h => absurd h.2 (by decide)) (fun h => absurd h.2 (by decide)))).trans m7
  have m13 := (x1.2 am 13 lt_am (fun h => Or.elim h (fun h => absurd h.2 (by decide)) (fun h => absurd h.2 (by decide)))).trans m13
  have m1 := (x1.2 am 1 lt_am (fun h => Or.elim h (fun h => absurd h.2 (by decide)) (fun h => absurd h.2 (by decide)))).trans m1
  have m12 := (x1.2 am 12 lt_am (fun h => Or.elim h (fun h => absurd h.2 (by decide)) (fun h => absurd h.2 (by decide)))).trans m12
  have m9 := (x1.2 am 9 lt_am (fun h => Or.elim h (fun h => absurd h.2 (by decide)) (fun h => absurd h.2 (by decide)))).trans m9
  have ht : ∀ i, i < n → et_pl (eg_at G1 tm) i = some (.int (sx (b i))) := fun i hi => (x1.2 tm i lt_tm (fun h => Or.elim h (fun h => (hi_ne k_tm k_am (by decide)) h.1) (fun h => (hi_ne k_tm k_am (by decide)) h.1))).trans (ht i hi)
  have lt_am := Nat.lt_of_lt_of_le lt_am x1.1
  have lt_tm := Nat.lt_of_lt_of_le lt_tm x1.1
  have lt_aw := Nat.lt_of_lt_of_le lt_aw x1.1
  have hX := hX.tr x1 (fun b j hb h => by first | omega | (dsimp only at h ⊢; omega) | (dsimp only at h; omega) | (dsimp only; omega))
  obtain ⟨rfl, q6_1, q8_1⟩ := hP1
  have hsk := skp_le (b := b) (n := n) (p := p) ha.1
  have hls := lst_le (b := b) hsk.2
  have tk1 := tok_al (pl := pl) ha
  have tn1 := congrArg List.length tk1.2
  show et_go none _ 200 4 _ [] _ _ _ _
  refine hs_aload (i := 0) (p := 5) (by decide +kernel) rfl ?_
  refine hf_get (T := et_TT) (t := 13) (ci := 11) (f := 6) (p := 8) (by decide +kernel) rfl hH k_am q6_1 ?_
  refine hs_aload (i := 0) (p := 9) (by decide +kernel) rfl ?_
  refine hf_get (T := et_TT) (t := 13) (ci := 11) (f := 8) (p := 12) (by decide +kernel) rfl hH k_am q8_1 ?_
  refine hs_br2n (c := .le) (t := 28) (f := 15) (by decide +kernel) (by omega) (by omega) (fun (c12 : (lst b n (skp b n p)) ≤ (skp b n p)) => ?_) (fun (c12 : ¬ ((lst b n (skp b n p)) ≤ (skp b n p))) => ?_)
  · have hee : lst b n (skp b n p) = skp b n p := by omega
    rw [hee] at q6_1
    refine hs_aload (i := 0) (p := 29) (by decide +kernel) rfl ?_
    refine hs_k (x := Int32.ofNat 9999) (p := 32) (by decide +kernel) ?_
    refine ht_callv (T := et_TT) (t := 13) (mi := 191) (na := 1) (ci := 11) (lk := 2) (lm := 3) (L0 := eg_en (eg_mL 191) [.ref am, .int (Int32.ofNat 9999)]) (by decide +kernel) rfl hH k_am rfl rfl rfl rfl rfl (by rw [show eg_mL 191 = 3 from by decide +kernel]; first | done | rfl) ?_
    refine (pa_num (pl := pl) hH k_am m4 k_tm m7 hn ht hb q6_1 tk1.1 (by decide) (by omega)).mono (fun u hu => xw_cb hu (fun G32 v32 hH x32 hP32 => ?_))
    have m4 := (x32.2 am 4 lt_am (fun h => Or.elim h (fun h => absurd h.2 (by decide)) (fun h => absurd h.2 (by decide)))).trans m4
    have m7 := (x32.2 am 7 lt_am (fun h => Or.elim h (fun h => absurd h.2 (by decide)) (fun h => absurd h.2 (by decide)))).trans m7
    have m13 := (x32.2 am 13 lt_am (fun h => Or.elim h (fun h => absurd h.2 (by decide)) (fun h => absurd h.2 (by decide)))).trans m13
    have m1 := (x32.2 am 1 lt_am (fun h => Or.elim h (fun h => absurd h.2 (by decide)) (fun h => absurd h.2 (by decide)))).trans m1
    have m12 := (x32.2 am 12 lt_am (fun h => Or.elim h (fun h => absurd h.2 (by decide)) (fun h => absurd h.2 (by decide)))).trans m12
    have m9 := (x32.2 am 9 lt_am (fun h => Or.elim h (fun h => absurd h.2 (by decide)) (fun h => absurd h.2 (by decide)))).trans m9
    have ht : ∀ i, i < n → et_pl (eg_at G32 tm) i = some (.int (sx (b i))) := fun i hi => (x32.2 tm i lt_tm (fun h => Or.elim h (fun h => (hi_ne k_tm k_am (by decide)) h.1) (fun h => (hi_ne k_tm k_am (by decide)) h.1))).trans (ht i hi)
    have lt_am := Nat.lt_of_lt_of_le lt_am x32.1
    have lt_tm := Nat.lt_of_lt_of_le lt_tm x32.1
    have lt_aw := Nat.lt_of_lt_of_le lt_aw x32.1
    have hX := hX.tr x32 (fun b j hb h => by first | omega | (dsimp only at h ⊢; omega) | (dsimp only at h; omega) | (dsimp only; omega))
    rcases hP32 with ⟨v32x, p32, te32, vl32, rfl, q6_32, ha32⟩ | ⟨no32, rfl⟩
    · have tn32 := congrArg List.length te32
      rw [List.length_cons] at tn32
      show et_go none _ 200 35 _ [.int (Int32.ofNat v32x)] _ _ _ _
      refine hs_istore (i := 1) (p := 36) (by decide +kernel) (Nat.le_of_ble_eq_true rfl) ?_
      refine hs_iload (i := 1) (p := 37) (by decide +kernel) rfl ?_
      refine hs_if1 (c := .ge) (t := 42) (f := 40) (by decide +kernel) (rs_ng (by omega)) ?_
      refine hs_aload (i := 0) (p := 43) (by decide +kernel) rfl ?_
      refine hs_k (x := Int32.ofNat 13) (p := 45) (by decide +kernel) ?_
      refine hs_iload (i := 1) (p := 46) (by decide +kernel) rfl ?_
      refine ht_callv (T := et_TT) (t := 13) (mi := 197) (na := 2) (ci := 11) (lk := 2) (lm := 4) (L0 := eg_en (eg_mL 197) [.ref am, .int (Int32.ofNat 13), .int (Int32.ofNat v32x)]) (by decide +kernel) rfl hH k_am rfl rfl rfl rfl rfl (by rw [show eg_mL 197 = 4 from by decide +kernel]; first | done | rfl) ?_
      refine (pa_emit (o := 13) (v := v32x) ⟨by omega, by omega⟩ hH k_am k_aw m1 m12 (by omega) (by omega)).mono (fun u hu => xw_cb hu (fun G46 v46 hH x46 hP46 => ?_))
      have m4 := (x46.2 am 4 lt_am (fun h => Or.elim h (fun h => absurd h.2 (by decide)) (fun h => (hi_ne k_am k_aw (by decide)) h.1))).trans m4
      have m7 := (x46.2 am 7 lt_am (fun h => Or.elim h (fun h => absurd h.2 (by decide)) (fun h => (hi_ne k_am k_aw (by decide)) h.1))).trans m7
      have q6_32 := (x46.2 am 6 lt_am (fun h => Or.elim h (fun h => absurd h.2 (by decide)) (fun h => (hi_ne k_am k_aw (by decide)) h.1))).trans q6_32
      have m13 := (x46.2 am 13 lt_am (fun h => Or.elim h (fun h => absurd h.2 (by decide)) (fun h => (hi_ne k_am k_aw (by decide)) h.1))).trans m13
      have m1 := (x46.2 am 1 lt_am (fun h => Or.elim h (fun h => absurd h.2 (by decide)) (fun h => (hi_ne k_am k_aw (by decide)) h.1))).trans m1
      have m9 := (x46.2 am 9 lt_am (fun h => Or.elim h (fun h => absurd h.2 (by decide)) (fun h => (hi_ne k_am k_aw (by decide)) h.1))).trans m9
      have ht : ∀ i, i < n → et_pl (eg_at G46 tm) i = some (.int (sx (b i))) := fun i hi => (x46.2 tm i lt_tm (fun h => Or.elim h (fun h => (hi_ne k_tm k_am (by decide)) h.1) (fun h => (hi_ne k_tm k_aw (by decide)) h.1))).trans (ht i hi)
      have lt_am := Nat.lt_of_lt_of_le lt_am x46.1
      have lt_tm := Nat.lt_of_lt_of_le lt_tm x46.1
      have lt_aw := Nat.lt_of_lt_of_le lt_aw x46.1
      have hX := hX.tr x46 (fun b j hb h => by first | omega | (dsimp only at h ⊢; omega) | (dsimp only at h; omega) | (dsimp only; omega))
      obtain ⟨rfl, C46, ec46, lc46, q12_46, hC46⟩ := hP46
      show et_go none _ 200 49 _ [] _ _ _ _
      refine hs_aload (i := 0) (p := 50) (by decide +kernel) rfl ?_
      refine hs_k (x := Int32.ofNat 42) (p := 52) (by decide +kernel) ?_
      refine ht_callv (T := et_TT) (t := 13) (mi := 196) (na := 1) (ci := 11) (lk := 2) (lm := 2) (L0 := eg_en (eg_mL 196) [.ref am, .int (Int32.ofNat 42)]) (by decide +kernel) rfl hH k_am rfl rfl rfl rfl rfl (by rw [show eg_mL 196 = 2 from by decide +kernel]; first | done | rfl) ?_
      refine (pa_sign (w := 28) (c := 42) hH k_am m4 k_tm m7 hn ht hb q6_32 ha32 hpl (by decide) (ok3 (by decide +kernel)) (by decide +kernel) (by decide +kernel) (by decide +kernel) (by decide) (by decide) (by omega)).mono (fun u hu => xw_cb hu (fun G52 v52 hH x52 hP52 => ?_))
      have hC46 := hC46.fr x52 lt_aw (fun j h1 h2 hs => by first | omega | (dsimp only at hs h2; omega))
      have m4 := (x52.2 am 4 lt_am (fun h => Or.elim h (fun h => absurd h.2 (by decide)) (fun h => absurd h.2 (by decide)))).trans m4
      have m7 := (x52.2 am 7 lt_am (fun h => Or.elim h (fun h => absurd h.2 (by decide)) (fun h => absurd h.2 (by decide)))).trans m7
      have m13 := (x52.2 am 13 lt_am (fun h => Or.elim h (fun h => absurd h.2 (by decide)) (fun h => absurd h.2 (by decide)))).trans m13
      have m1 := (x52.2 am 1 lt_am (fun h => Or.elim h (fun h => absurd h.2 (by decide)) (fun h => absurd h.2 (by decide)))).trans m1
      have q12_46 := (x52.2 am 12 lt_am (fun h => Or.elim h (fun h => absurd h.2 (by decide)) (fun h => absurd h.2 (by decide)))).trans q12_46
      have m9 := (x52.2 am 9 lt_am (fun h => Or.elim h (fun h => absurd h.2 (by decide)) (fun h => absurd h.2 (by decide)))).trans m9
      have ht : ∀ i, i < n → et_pl (eg_at G52 tm) i = some (.int (sx (b i))) := fun i hi => (x52.2 tm i lt_tm (fun h => Or.elim h (fun h => (hi_ne k_tm k_am (by decide)) h.1) (fun h => (hi_ne k_tm k_am (by decide)) h.1))).trans (ht i hi)
      have lt_am := Nat.lt_of_lt_of_le lt_am x52.1
      have lt_tm := Nat.lt_of_lt_of_le lt_tm x52.1
      have lt_aw := Nat.lt_of_lt_of_le lt_aw x52.1
      have hX := hX.tr x52 (fun b j hb h => by first | omega | (dsimp only at h ⊢; omega) | (dsimp only at h; omega) | (dsimp only; omega))
      rcases hP52 with ⟨p52, i52, rfl, q6_52, ha52, te52, tn52⟩ | ⟨p52, i52, rfl, q6_52, ha52, te52⟩
      · show et_go none _ 200 55 _ [.int (Int32.ofNat 1)] _ _ _ _
        refine hs_if1 (c := .ne) (t := 60) (f := 58) (by decide +kernel) (show ¬ Int32.ofNat 1 = 0 by decide) ?_
        refine hs_aload (i := 0) (p := 61) (by decide +kernel) rfl ?_
        refine ht_callv (T := et_TT) (t := 13) (mi := 201) (na := 0) (ci := 11) (lk := 2) (lm := 2) (L0 := eg_en (eg_mL 201) [.ref am]) (by decide +kernel) rfl hH k_am rfl rfl rfl rfl rfl (by rw [show eg_mL 201 = 2 from by decide +kernel]; first | done | rfl) ?_
        refine ((fr_fact (m := m)) _ _ _ _ _ _ _ _ _ _ _ _ hH k_am m4 k_tm m7 hn ht hb q6_52 ha52 hpl m13 k_aw m1 q12_46 m9 (by omega) (by omega) (by omega)).mono (fun u hu => xw_cb hu (fun G61 v61 hH x61 hP61 => ?_))
        have x61 : xf (fun c j => (c = am ∧ j = 6) ∨ (c = am ∧ j = 8) ∨ (c = am ∧ j = 9) ∨ (c = am ∧ j = 12) ∨ (c = aw ∧ (11941 + 2 * (k + C46.length)) ≤ j)) _ _ := x61
        have hC46 := hC46.fr x61 lt_aw (fun j h1 h2 hs => by first | omega | (dsimp only at hs h2; omega))
        have m4 := (x61.2 am 4 lt_am (fun h => Or.elim h (fun h => absurd h.2 (by decide)) (fun h => Or.elim h (fun h => absurd h.2 (by decide)) (fun h => Or.elim h (fun h => absurd h.2 (by decide)) (fun h => Or.elim h (fun h => absurd h.2 (by decide)) (fun h => (hi_ne k_am k_aw (by decide)) h.1)))))).trans m4
        have m7 := (x61.2 am 7 lt_am (fun h => Or.elim h (fun h => absurd h.2 (by decide)) (fun h => Or.elim h (fun h => absurd h.2 (by decide)) (fun h => Or.elim h (fun h => absurd h.2 (by decide)) (fun h => Or.elim h (fun h => absurd h.2 (by decide)) (fun h => (hi_ne k_am k_aw (by decide)) h.1)))))).trans m7
        have m13 := (x61.2 am 13 lt_am (fun h => Or.elim h (fun h => absurd h.2 (by decide)) (fun h => Or.elim h (fun h => absurd h.2 (by decide)) (fun h => Or.elim h (fun h => absurd h.2 (by decide)) (fun h => Or.elim h (fun h => absurd h.2 (by decide)) (fun h => (hi_ne k_am k_aw (by decide)) h.1)))))).trans m13
        have m1 := (x61.2 am 1 lt_am (fun h => Or.elim h (fun h => absurd h.2 (by decide)) (fun h => Or.elim h (fun h => absurd h.2 (by decide)) (fun h => Or.elim h (fun h => absurd h.2 (by decide)) (fun h => Or.elim h (fun h => absurd h.2 (by decide)) (fun h => (hi_ne k_am k_aw (by decide)) h.1)))))).trans m1
        have ht : ∀ i, i < n → et_pl (eg_at G61 tm) i = some (.int (sx (b i))) := fun i hi => (x61.2 tm i lt_tm (fun h => Or.elim h (fun h => (hi_ne k_tm k_am (by decide)) h.1) (fun h => Or.elim h (fun h => (hi_ne k_tm k_am (by decide)) h.1) (fun h => Or.elim h (fun h => (hi_ne k_tm k_am (by decide)) h.1) (fun h => Or.elim h (fun h => (hi_ne k_tm k_am (by decide)) h.1) (fun h => (hi_ne k_tm k_aw (by decide)) h.1)))))).trans (ht i hi)
        have lt_am := Nat.lt_of_lt_of_le lt_am x61.1
        have lt_tm := Nat.lt_of_lt_of_le lt_tm x61.1
        have lt_aw := Nat.lt_of_lt_of_le lt_aw x61.1
        have hX := hX.tr x61 (fun b j hb h => by first | omega | (dsimp only at h ⊢; omega) | (dsimp only at h; omega) | (dsimp only; omega))
        rcases hP61 with ⟨sp61, rfl⟩ | ⟨f61, p61, C61, sp61, rfl, q6_61, ha61, q12_61, q9_61, hC61, hR61, hl61⟩
        · show et_go none _ 200 64 _ [.int (Int32.ofNat 0)] _ _ _ _
          refine hs_if0 (c := .ne) (t := 69) (f := 67) (by decide +kernel) (show ¬ (¬ Int32.ofNat 0 = 0) by decide) ?_
          refine hs_k (x := Int32.ofNat 0) (p := 68) (by decide +kernel) ?_
          refine hs_zret (by decide +kernel) (.inl rfl) ?_
          exact ⟨_, _, rfl, hH, hX, .inl ⟨(by rw [show tz_ts pl b n p = (33, some v32x) :: tz_ts pl b n p32 from tk1.2.symm.trans te32]; exact sp_t_0 i52 (by rw [← te52]; exact sp61)), rfl⟩⟩
        · show et_go none _ 200 64 _ [.int (Int32.ofNat 1)] _ _ _ _
          refine hs_if1 (c := .ne) (t := 69) (f := 67) (by decide +kernel) (show ¬ Int32.ofNat 1 = 0 by decide) ?_
          refine hs_aload (i := 0) (p := 70) (by decide +kernel) rfl ?_
          refine hs_k (x := Int32.ofNat 14) (p := 72) (by decide +kernel) ?_
          refine hs_k (x := Int32.ofNat 0) (p := 73) (by decide +kernel) ?_
          refine ht_callv (T := et_TT) (t := 13) (mi := 197) (na := 2) (ci := 11) (lk := 2) (lm := 4) (L0 := eg_en (eg_mL 197) [.ref am, .int (Int32.ofNat 14), .int (Int32.ofNat 0)]) (by decide +kernel) rfl hH k_am rfl rfl rfl rfl rfl (by rw [show eg_mL 197 = 4 from by decide +kernel]; first | done | rfl) ?_
          refine (pa_emit (o := 14) (v := 0) ⟨by omega, by omega⟩ hH k_am k_aw m1 q12_61 (by omega) (by omega)).mono (fun u hu => xw_cb hu (fun G73 v73 hH x73 hP73 => ?_))
          have hC46 := hC46.fr x73 lt_aw (fun j h1 h2 hs => by first | omega | (dsimp only at hs h2; omega))
          have hC61 := hC61.fr x73 lt_aw (fun j h1 h2 hs => by first | omega | (dsimp only at hs h2; omega))
          have m4 := (x73.2 am 4 lt_am (fun h => Or.elim h (fun h => absurd h.2 (by decide)) (fun h => (hi_ne k_am k_aw (by decide)) h.1))).trans m4
          have m7 := (x73.2 am 7 lt_am (fun h => Or.elim h (fun h => absurd h.2 (by decide)) (fun h => (hi_ne k_am k_aw (by decide)) h.1))).trans m7
          have q6_61 := (x73.2 am 6 lt_am (fun h => Or.elim h (fun h => absurd h.2 (by decide)) (fun h => (hi_ne k_am k_aw (by decide)) h.1))).trans q6_61
          have m13 := (x73.2 am 13 lt_am (fun h => Or.elim h (fun h => absurd h.2 (by decide)) (fun h => (hi_ne k_am k_aw (by decide)) h.1))).trans m13
          have m1 := (x73.2 am 1 lt_am (fun h => Or.elim h (fun h => absurd h.2 (by decide)) (fun h => (hi_ne k_am k_aw (by decide)) h.1))).trans m1
          have q9_61 := (x73.2 am 9 lt_am (fun h => Or.elim h (fun h => absurd h.2 (by decide)) (fun h => (hi_ne k_am k_aw (by decide)) h.1))).trans q9_61
          have ht : ∀ i, i < n → et_pl (eg_at G73 tm) i = some (.int (sx (b i))) := fun i hi => (x73.2 tm i lt_tm (fun h => Or.elim h (fun h => (hi_ne k_tm k_am (by decide)) h.1) (fun h => (hi_ne k_tm k_aw (by decide)) h.1))).trans (ht i hi)
          have lt_am := Nat.lt_of_lt_of_le lt_am x73.1
          have lt_tm := Nat.lt_of_lt_of_le lt_tm x73.1
          have lt_aw := Nat.lt_of_lt_of_le lt_aw x73.1
          have hX := hX.tr x73 (fun b j hb h => by first | omega | (dsimp only at h ⊢; omega) | (dsimp only at h; omega) | (dsimp only; omega))
          obtain ⟨rfl, C73, ec73, lc73, q12_73, hC73⟩ := hP73
          show et_go none _ 200 76 _ [] _ _ _ _
          refine hs_k (x := Int32.ofNat 1) (p := 77) (by decide +kernel) ?_
          refine hs_zret (by decide +kernel) (.inr rfl) ?_
          refine ⟨_, _, rfl, hH, hX, .inr ⟨_, p61, ((C46 ++ C61) ++ C73), (by rw [show tz_ts pl b n p = (33, some v32x) :: tz_ts pl b n p32 from tk1.2.symm.trans te32]; exact sp_t_y i52 (by rw [← te52]; exact sp61)), rfl, q6_61, ha61, (by simpa only [List.length_append, Nat.add_assoc] using q12_73), q9_61, ((hC46.app (by simpa only [List.length_append, Nat.add_assoc] using hC61)).app (by simpa only [List.length_append, Nat.add_assoc] using hC73)), (by rw [ec46, ec73]; exact dnS_mul dnS_num hR61), ?_⟩⟩
          simp only [List.length_append]
          omega
      · have tn52 := congrArg List.length te52
        show et_go none _ 200 55 _ [.int (Int32.ofNat 0)] _ _ _ _
        refine hs_if0 (c := .ne) (t := 60) (f := 58) (by decide +kernel) (show ¬ (¬ Int32.ofNat 0 = 0) by decide) ?_
        refine hs_k (x := Int32.ofNat 1) (p := 59) (by decide +kernel) ?_
        refine hs_zret (by decide +kernel) (.inr rfl) ?_
        refine ⟨_, _, rfl, hH, hX, .inr ⟨_, p52, C46, (by rw [show tz_ts pl b n p = (33, some v32x) :: tz_ts pl b n p32 from tk1.2.symm.trans te32]; rw [te52]; exact sp_t_n i52), rfl, q6_52, ha52, q12_46, m9, hC46, (by rw [ec46]; exact dnS_num), ?_⟩⟩
        omega
    · show et_go none _ 200 35 _ [.int (-1)] _ _ _ _
      refine hs_istore (i := 1) (p := 36) (by decide +kernel) (Nat.le_of_ble_eq_true rfl) ?_
      refine hs_iload (i := 1) (p := 37) (by decide +kernel) rfl ?_
      refine hs_if0 (c := .ge) (t := 42) (f := 40) (by decide +kernel) (show ¬ (0 ≤ (-1 : Int32)) by decide) ?_
      refine hs_k (x := Int32.ofNat 0) (p := 41) (by decide +kernel) ?_
      refine hs_zret (by decide +kernel) (.inl rfl) ?_
      exact ⟨_, _, rfl, hH, hX, .inl ⟨part_no ha c12 tk1.2 no32, rfl⟩⟩
  · refine hs_aload (i := 0) (p := 16) (by decide +kernel) rfl ?_
    refine hs_aload (i := 0) (p := 17) (by decide +kernel) rfl ?_
    refine hf_get (T := et_TT) (t := 13) (ci := 11) (f := 8) (p := 20) (by decide +kernel) rfl hH k_am q8_1 ?_
    refine hf_put (T := et_TT) (t := 13) (ci := 11) (f := 6) (p := 23) (ty := .int) (by decide +kernel) rfl rfl rfl rfl rfl hH k_am (hi_nv (by omega) (by omega)) (fun G20 hH x20 e20 => ?_)
    have m4 := (x20.2 am 4 lt_am (fun h => absurd h.2 (by decide))).trans m4
    have m7 := (x20.2 am 7 lt_am (fun h => absurd h.2 (by decide))).trans m7
    have m13 := (x20.2 am 13 lt_am (fun h => absurd h.2 (by decide))).trans m13
    have m1 := (x20.2 am 1 lt_am (fun h => absurd h.2 (by decide))).trans m1
    have m12 := (x20.2 am 12 lt_am (fun h => absurd h.2 (by decide))).trans m12
    have m9 := (x20.2 am 9 lt_am (fun h => absurd h.2 (by decide))).trans m9
    have q8_1 := (x20.2 am 8 lt_am (fun h => absurd h.2 (by decide))).trans q8_1
    have ht : ∀ i, i < n → et_pl (eg_at G20 tm) i = some (.int (sx (b i))) := fun i hi => (x20.2 tm i lt_tm (fun h => (hi_ne k_tm k_am (by decide)) h.1)).trans (ht i hi)
    have lt_am := Nat.lt_of_lt_of_le lt_am x20.1
    have lt_tm := Nat.lt_of_lt_of_le lt_tm x20.1
    have lt_aw := Nat.lt_of_lt_of_le lt_aw x20.1
    have hX := hX.tr x20 (fun b j hb h => by first | omega | (dsimp only at h ⊢; omega) | (dsimp only at h; omega) | (dsimp only; omega))
    refine hs_aload (i := 0) (p := 24) (by decide +kernel) rfl ?_
    refine ht_callv (T := et_TT) (t := 13) (mi := 201) (na := 0) (ci := 11) (lk := 2) (lm := 2) (L0 := eg_en (eg_mL 201) [.ref am]) (by decide +kernel) rfl hH k_am rfl rfl rfl rfl rfl (by rw [show eg_mL 201 = 2 from by decide +kernel]; first | done | rfl) ?_
    refine ((fr_fact (m := m)) _ _ _ _ _ _ _ _ _ _ _ _ hH k_am m4 k_tm m7 hn ht hb e20 tk1.1 hpl m13 k_aw m1 m12 m9 (by omega) (by omega) (by omega)).mono (fun u hu => xw_cb hu (fun G24 v24 hH x24 hP24 => ?_))
    have x24 : xf (fun c j => (c = am ∧ j = 6) ∨ (c = am ∧ j = 8) ∨ (c = am ∧ j = 9) ∨ (c = am ∧ j = 12) ∨ (c = aw ∧ (11941 + 2 * k) ≤ j)) _ _ := x24
    have m4 := (x24.2 am 4 lt_am (fun h => Or.elim h (fun h => absurd h.2 (by decide)) (fun h => Or.elim h (fun h => absurd h.2 (by decide)) (fun h => Or.elim h (fun h => absurd h.2 (by decide)) (fun h => Or.elim h (fun h => absurd h.2 (by decide)) (fun h => (hi_ne k_am k_aw (by decide)) h.1)))))).trans m4
    have m7 := (x24.2 am 7 lt_am (fun h => Or.elim h (fun h => absurd h.2 (by decide)) (fun h => Or.elim h (fun h => absurd h.2 (by decide)) (fun h => Or.elim h (fun h => absurd h.2 (by decide)) (fun h => Or.elim h (fun h => absurd h.2 (by decide)) (fun h => (hi_ne k_am k_aw (by decide)) h.1)))))).trans m7
    have m13 := (x24.2 am 13 lt_am (fun h => Or.elim h (fun h => absurd h.2 (by decide)) (fun h => Or.elim h (fun h => absurd h.2 (by decide)) (fun h => Or.elim h (fun h => absurd h.2 (by decide)) (fun h => Or.elim h (fun h => absurd h.2 (by decide)) (fun h => (hi_ne k_am k_aw (by decide)) h.1)))))).trans m13
    have m1 := (x24.2 am 1 lt_am (fun h => Or.elim h (fun h => absurd h.2 (by decide)) (fun h => Or.elim h (fun h => absurd h.2 (by decide)) (fun h => Or.elim h (fun h => absurd h.2 (by decide)) (fun h => Or.elim h (fun h => absurd h.2 (by decide)) (fun h => (hi_ne k_am k_aw (by decide)) h.1)))))).trans m1
    have ht : ∀ i, i < n → et_pl (eg_at G24 tm) i = some (.int (sx (b i))) := fun i hi => (x24.2 tm i lt_tm (fun h => Or.elim h (fun h => (hi_ne k_tm k_am (by decide)) h.1) (fun h => Or.elim h (fun h => (hi_ne k_tm k_am (by decide)) h.1) (fun h => Or.elim h (fun h => (hi_ne k_tm k_am (by decide)) h.1) (fun h => Or.elim h (fun h => (hi_ne k_tm k_am (by decide)) h.1) (fun h => (hi_ne k_tm k_aw (by decide)) h.1)))))).trans (ht i hi)
    have lt_am := Nat.lt_of_lt_of_le lt_am x24.1
    have lt_tm := Nat.lt_of_lt_of_le lt_tm x24.1
    have lt_aw := Nat.lt_of_lt_of_le lt_aw x24.1
    have hX := hX.tr x24 (fun b j hb h => by first | omega | (dsimp only at h ⊢; omega) | (dsimp only at h; omega) | (dsimp only; omega))
    rcases hP24 with ⟨sp24, rfl⟩ | ⟨f24, p24, C24, sp24, rfl, q6_24, ha24, q12_24, q9_24, hC24, hR24, hl24⟩
    · show et_go none _ 200 27 _ [.int (Int32.ofNat 0)] _ _ _ _
      refine hs_zret (by decide +kernel) (.inl rfl) ?_
      exact ⟨_, _, rfl, hH, hX, .inl ⟨(sp_part_f (L := tz_ts pl b n p) (y := 0) (let_33 ha c12)).trans ((congrArg sp_fact tk1.2.symm).trans sp24), rfl⟩⟩
    · show et_go none _ 200 27 _ [.int (Int32.ofNat 1)] _ _ _ _
      refine hs_zret (by decide +kernel) (.inr rfl) ?_
      refine ⟨_, _, rfl, hH, hX, .inr ⟨_, p24, C24, ((sp_part_f (L := tz_ts pl b n p) (y := 0) (let_33 ha c12)).trans ((congrArg sp_fact tk1.2.symm).trans sp24)), rfl, q6_24, ha24, q12_24, q9_24, hC24, hR24, ?_⟩⟩
      omega
theorem fl_sum {D : Nat} (hsub : rP 200 D m dnS (sp_part)) {T0 : List sp_T} {nf : Nat} {a : sp_E → Int64} {C : List (Nat × Nat)} (hH : et_H et_TT K G) (k_am : K am = some 13) (m4 : et_pl (eg_at G am) 4 = some (.ref tm)) (k_tm : K tm = some 34) (m7 : et_pl (eg_at G am) 7 = some (.int (Int32.ofNat n))) (hn : n ≤ 400) (ht : ∀ i, i < n → et_pl (eg_at G tm) i = some (.int (sx (b i)))) (hb : ∀ i, i < n → b i < 256) (m6 : et_pl (eg_at G am) 6 = some (.int (Int32.ofNat p))) (ha : tal b n p) (hpl : pl ≤ 2) (m13 : et_pl (eg_at G am) 13 = some (.int (Int32.ofNat pl))) (k_aw : K aw = some 46) (m1 : et_pl (eg_at G am) 1 = some (.ref aw)) (m12 : et_pl (eg_at G am) 12 = some (.int (Int32.ofNat (k + C.length)))) (m9 : et_pl (eg_at G am) 9 = some (.int (Int32.ofNat dp))) (hC : hasC G aw k C) (hR : dnS pl a C) (hl : C.length + (tz_ts pl b n p).length ≤ T0.length) (hk : k + T0.length ≤ 400) (hnf : (tz_ts pl b n p).length < nf) (hdm : dp + m = 6) (hd : D ≤ d + 7) (hX : xf (fun c j => (c = am ∧ j = 6) ∨ (c = am ∧ j = 8) ∨ (c = am ∧ j = 9) ∨ (c = am ∧ j = 12) ∨ (c = aw ∧ (11941 + 2 * k) ≤ j)) G0 G) : et_go none (d + 8) 199 9 [some (.ref am)] [] G 0 0 (xw_Z (fun c j => (c = am ∧ j = 6) ∨ (c = am ∧ j = 8) ∨ (c = am ∧ j = 9) ∨ (c = am ∧ j = 12) ∨ (c = aw ∧ (11941 + 2 * k) ≤ j)) K G0 (frP b n pl am aw k dp T0 (dnS pl) (sp_loop (sp_part) 27 (fun f g e => f e + g e) nf a (tz_ts pl b n p)))) := by
  induction nf generalizing p C a G with
  | zero => exact absurd hnf (Nat.not_lt_zero _)
  | succ nf ih =>
    have hne : ¬ aw = am := hi_ne k_aw k_am (by decide)
    have lt_am := (hH.2.2 _ _ k_am).1
    have lt_tm := (hH.2.2 _ _ k_tm).1
    have lt_aw := (hH.2.2 _ _ k_aw).1
    refine hs_aload (i := 0) (p := 10) (by decide +kernel) rfl ?_
    refine hs_k (x := Int32.ofNat 43) (p := 12) (by decide +kernel) ?_
    refine ht_callv (T := et_TT) (t := 13) (mi := 196) (na := 1) (ci := 11) (lk := 1) (lm := 2) (L0 := eg_en (eg_mL 196) [.ref am, .int (Int32.ofNat 43)]) (by decide +kernel) rfl hH k_am rfl rfl rfl rfl rfl (by rw [show eg_mL 196 = 2 from by decide +kernel]; first | done | rfl) ?_
    refine (pa_sign (w := 27) (c := 43) hH k_am m4 k_tm m7 hn ht hb m6 ha hpl (by decide) (ok3 (by decide +kernel)) (by decide +kernel) (by decide +kernel) (by decide +kernel) (by decide) (by decide) (by omega)).mono (fun u hu => xw_cb hu (fun G12 v12 hH x12 hP12 => ?_))
    have hC := hC.fr x12 lt_aw (fun j h1 h2 hs => by first | omega | (dsimp only at hs h2; omega))
    have m4 := (x12.2 am 4 lt_am (fun h => Or.elim h (fun h => absurd h.2 (by decide)) (fun h => absurd h.2 (by decide)))).trans m4
    have m7 := (x12.2 am 7 lt_am (fun h => Or.elim h (fun h => absurd h.2 (by decide)) (fun h => absurd h.2 (by decide)))).trans m7
    have m13 := (x12.2 am 13 lt_am (fun h => Or.elim h (fun h => absurd h.2 (by decide)) (fun h => absurd h.2 (by decide)))).trans m13
    have m1 := (x12.2 am 1 lt_am (fun h => Or.elim h (fun h => absurd h.2 (by decide)) (fun h => absurd h.2 (by decide)))).trans m1
    have m12 := (x12.2 am 12 lt_am (fun h => Or.elim h (fun h => absurd h.2 (by decide)) (fun h => absurd h.2 (by decide)))).trans m12
    have m9 := (x12.2 am 9 lt_am (fun h => Or.elim h (fun h => absurd h.2 (by decide)) (fun h => absurd h.2 (by decide)))).trans m9
    have ht : ∀ i, i < n → et_pl (eg_at G12 tm) i = some (.int (sx (b i))) := fun i hi => (x12.2 tm i lt_tm (fun h => Or.elim h (fun h => (hi_ne k_tm k_am (by decide)) h.1) (fun h => (hi_ne k_tm k_am (by decide)) h.1))).trans (ht i hi)
    have lt_am := Nat.lt_of_lt_of_le lt_am x12.1
    have lt_tm := Nat.lt_of_lt_of_le lt_tm x12.1
    have lt_aw := Nat.lt_of_lt_of_le lt_aw x12.1
    have hX := hX.tr x12 (fun b j hb h => by first | omega | (dsimp only at h ⊢; omega) | (dsimp only at h; omega) | (dsimp only; omega))
    rcases hP12 with ⟨p12, i12, rfl, q6_12, ha12, te12, tn12⟩ | ⟨p12, i12, rfl, q6_12, ha12, te12⟩
    · show et_go none _ 199 15 _ [.int (Int32.ofNat 1)] _ _ _ _
      refine hs_if0 (c := .eq) (t := 37) (f := 18) (by decide +kernel) (show ¬ (Int32.ofNat 1 = 0) by decide) ?_
      refine hs_aload (i := 0) (p := 19) (by decide +kernel) rfl ?_
      refine ht_callv (T := et_TT) (t := 13) (mi := 200) (na := 0) (ci := 11) (lk := 1) (lm := 2) (L0 := eg_en (eg_mL 200) [.ref am]) (by decide +kernel) rfl hH k_am rfl rfl rfl rfl rfl (by rw [show eg_mL 200 = 2 from by decide +kernel]; first | done | rfl) ?_
      refine (hsub _ _ _ _ _ _ _ _ _ _ _ _ hH k_am m4 k_tm m7 hn ht hb q6_12 ha12 hpl m13 k_aw m1 m12 m9 (by omega) (by omega) (by omega)).mono (fun u hu => xw_cb hu (fun G19 v19 hH x19 hP19 => ?_))
      have x19 : xf (fun c j => (c = am ∧ j = 6) ∨ (c = am ∧ j = 8) ∨ (c = am ∧ j = 9) ∨ (c = am ∧ j = 12) ∨ (c = aw ∧ (11941 + 2 * (k + C.length)) ≤ j)) _ _ := x19
      have hC := hC.fr x19 lt_aw (fun j h1 h2 hs => by first | omega | (dsimp only at hs h2; omega))
      have m4 := (x19.2 am 4 lt_am (fun h => Or.elim h (fun h => absurd h.2 (by decide)) (fun h => Or.elim h (fun h => absurd h.2 (by decide)) (fun h => Or.elim h (fun h => absurd h.2 (by decide)) (fun h => Or.elim h (fun h => absurd h.2 (by decide)) (fun h => (hi_ne k_am k_aw (by decide)) h.1)))))).trans m4
      have m7 := (x19.2 am 7 lt_am (fun h => Or.elim h (fun h => absurd h.2 (by decide)) (fun h => Or.elim h (fun h => absurd h.2 (by decide)) (fun h => Or.elim h (fun h => absurd h.2 (by decide)) (fun h => Or.elim h (fun h => absurd h.2 (by decide)) (fun h => (hi_ne k_am k_aw (by decide)) h.1)))))).trans m7
      have m13 := (x19.2 am 13 lt_am (fun h => Or.elim h (fun h => absurd h.2 (by decide)) (fun h => Or.elim h (fun h => absurd h.2 (by decide)) (fun h => Or.elim h (fun h => absurd h.2 (by decide)) (fun h => Or.elim h (fun h => absurd h.2 (by decide)) (fun h => (hi_ne k_am k_aw (by decide)) h.1)))))).trans m13
      have m1 := (x19.2 am 1 lt_am (fun h => Or.elim h (fun h => absurd h.2 (by decide)) (fun h => Or.elim h (fun h => absurd h.2 (by decide)) (fun h => Or.elim h (fun h => absurd h.2 (by decide)) (fun h => Or.elim h (fun h => absurd h.2 (by decide)) (fun h => (hi_ne k_am k_aw (by decide)) h.1)))))).trans m1
      have ht : ∀ i, i < n → et_pl (eg_at G19 tm) i = some (.int (sx (b i))) := fun i hi => (x19.2 tm i lt_tm (fun h => Or.elim h (fun h => (hi_ne k_tm k_am (by decide)) h.1) (fun h => Or.elim h (fun h => (hi_ne k_tm k_am (by decide)) h.1) (fun h => Or.elim h (fun h => (hi_ne k_tm k_am (by decide)) h.1) (fun h => Or.elim h (fun h => (hi_ne k_tm k_am (by decide)) h.1) (fun h => (hi_ne k_tm k_aw (by decide)) h.1)))))).trans (ht i hi)
      have lt_am := Nat.lt_of_lt_of_le lt_am x19.1
      have lt_tm := Nat.lt_of_lt_of_le lt_tm x19.1
      have lt_aw := Nat.lt_of_lt_of_le lt_aw x19.1
      have hX := hX.tr x19 (fun b j hb h => by first | omega | (dsimp only at h ⊢; omega) | (dsimp only at h; omega) | (dsimp only; omega))
      rcases hP19 with ⟨sp19, rfl⟩ | ⟨f19, p19, C19, sp19, rfl, q6_19, ha19, q12_19, q9_19, hC19, hR19, hl19⟩
      · show et_go none _ 199 22 _ [.int (Int32.ofNat 0)] _ _ _ _
        refine hs_if0 (c := .ne) (t := 27) (f := 25) (by decide +kernel) (show ¬ (¬ Int32.ofNat 0 = 0) by decide) ?_
        refine hs_k (x := Int32.ofNat 0) (p := 26) (by decide +kernel) ?_
        refine hs_zret (by decide +kernel) (.inl rfl) ?_
        exact ⟨_, _, rfl, hH, hX, .inl ⟨((sp_loop_y (L := tz_ts pl b n p) (y := 0) i12 (by decide)).trans (sp_lp_0 (L := tz_ts pl b n p12) (y := 0) sp19 |> fun h => (by rw [show (tz_ts pl b n p).drop (0 + 1) = tz_ts pl b n p12 from te12.symm]; exact h))), rfl⟩⟩
      · show et_go none _ 199 22 _ [.int (Int32.ofNat 1)] _ _ _ _
        refine hs_if1 (c := .ne) (t := 27) (f := 25) (by decide +kernel) (show ¬ Int32.ofNat 1 = 0 by decide) ?_
        refine hs_aload (i := 0) (p := 28) (by decide +kernel) rfl ?_
        refine hs_k (x := Int32.ofNat 15) (p := 30) (by decide +kernel) ?_
        refine hs_k (x := Int32.ofNat 0) (p := 31) (by decide +kernel) ?_
        refine ht_callv (T := et_TT) (t := 13) (mi := 197) (na := 2) (ci := 11) (lk := 1) (lm := 4) (L0 := eg_en (eg_mL 197) [.ref am, .int (Int32.ofNat 15), .int (Int32.ofNat 0)]) (by decide +kernel) rfl hH k_am rfl rfl rfl rfl rfl (by rw [show eg_mL 197 = 4 from by decide +kernel]; first | done | rfl) ?_
        refine (pa_emit (o := 15) (v := 0) ⟨by omega, by omega⟩ hH k_am k_aw m1 q12_19 (by omega) (by omega)).mono (fun u hu => xw_cb hu (fun G31 v31 hH x31 hP31 => ?_))
        have hC := hC.fr x31 lt_aw (fun j h1 h2 hs => by first | omega | (dsimp only at hs h2; omega))
        have hC19 := hC19.fr x31 lt_aw (fun j h1 h2 hs => by first | omega | (dsimp only at hs h2; omega))
        have m4 := (x31.2 am 4 lt_am (fun h => Or.elim h (fun h => absurd h.2 (by decide)) (fun h => (hi_ne k_am k_aw (by decide)) h.1))).trans m4
        have m7 := (x31.2 am 7 lt_am (fun h => Or.elim h (fun h => absurd h.2 (by decide)) (fun h => (hi_ne k_am k_aw (by decide)) h.1))).trans m7
        have q6_19 := (x31.2 am 6 lt_am (fun h => Or.elim h (fun h => absurd h.2 (by decide)) (fun h => (hi_ne k_am k_aw (by decide)) h.1))).trans q6_19
        have m13 := (x31.2 am 13 lt_am (fun h => Or.elim h (fun h => absurd h.2 (by decide)) (fun h => (hi_ne k_am k_aw (by decide)) h.1))).trans m13
        have m1 := (x31.2 am 1 lt_am (fun h => Or.elim h (fun h => absurd h.2 (by decide)) (fun h => (hi_ne k_am k_aw (by decide)) h.1))).trans m1
        have q9_19 := (x31.2 am 9 lt_am (fun h => Or.elim h (fun h => absurd h.2 (by decide)) (fun h => (hi_ne k_am k_aw (by decide)) h.1))).trans q9_19
        have ht : ∀ i, i < n → et_pl (eg_at G31 tm) i = some (.int (sx (b i))) := fun i hi => (x31.2 tm i lt_tm (fun h => Or.elim h (fun h => (hi_ne k_tm k_am (by decide)) h.1) (fun h => (hi_ne k_tm k_aw (by decide)) h.1))).trans (ht i hi)
        have lt_am := Nat.lt_of_lt_of_le lt_am x31.1
        have lt_tm := Nat.lt_of_lt_of_le lt_tm x31.1
        have lt_aw := Nat.lt_of_lt_of_le lt_aw x31.1
        have hX := hX.tr x31 (fun b j hb h => by first | omega | (dsimp only at h ⊢; omega) | (dsimp only at h; omega) | (dsimp only; omega))
        obtain ⟨rfl, C31, ec31, lc31, q12_31, hC31⟩ := hP31
        show et_go none _ 199 34 _ [] _ _ _ _
        refine hs_goto (p := 9) (by decide +kernel) ?_
        rw [show sp_loop (sp_part) 27 (fun f g e => f e + g e) (nf + 1) a (tz_ts pl b n p) = sp_loop (sp_part) 27 (fun f g e => f e + g e) nf ((fun f g e => f e + g e) a f19) (tz_ts pl b n p19) from (sp_loop_y (L := tz_ts pl b n p) (y := 0) i12 (by decide)).trans (by rw [show (tz_ts pl b n p).drop (0 + 1) = tz_ts pl b n p12 from te12.symm]; exact sp_lp_s sp19)]
        exact ih (C := ((C ++ C19) ++ C31)) hH m4 m7 ht q6_19 ha19 m13 m1 (by simpa only [List.length_append, Nat.add_assoc] using q12_31) q9_19 ((hC.app (by simpa only [List.length_append, Nat.add_assoc] using hC19)).app (by simpa only [List.length_append, Nat.add_assoc] using hC31)) (by rw [ec31]; exact dnS_add hR hR19) (by simp only [List.length_append]; omega) (by omega) hX
    · have tn12 := congrArg List.length te12
      show et_go none _ 199 15 _ [.int (Int32.ofNat 0)] _ _ _ _
      refine hs_if1 (c := .eq) (t := 37) (f := 18) (by decide +kernel) (show Int32.ofNat 0 = 0 by decide) ?_
      refine hs_k (x := Int32.ofNat 1) (p := 38) (by decide +kernel) ?_
      refine hs_zret (by decide +kernel) (.inr rfl) ?_
      refine ⟨_, _, rfl, hH, hX, .inr ⟨_, p12, C, (by rw [te12]; exact sp_loop_n (L := tz_ts pl b n p) (y := 0) i12), rfl, q6_12, ha12, m12, m9, hC, hR, ?_⟩⟩
      omega
theorem fr_sum {D : Nat} (hD : 8 ≤ D) (hsub : rP 200 D m dnS (sp_part)) : rP 199 (D + 1) m dnS (sp_sum) := by
  intro K G b d2 am aw tm n p pl k dp hH k_am m4 k_tm m7 hn ht hb m6 ha hpl m13 k_aw m1 m12 m9 hk hdm hd
  obtain ⟨d, rfl⟩ : ∃ d, d2 = d + 8 := ⟨d2 - 8, by omega⟩
  rw [show eg_mL 199 = 1 from by decide +kernel]
  show et_go none (d + 8) 199 0 [some (.ref am)] [] G 0 0 (xw_Z _ _ _ _)
  have hne : ¬ aw = am := hi_ne k_aw k_am (by decide)
  have lt_am := (hH.2.2 _ _ k_am).1
  have lt_tm := (hH.2.2 _ _ k_tm).1
  have lt_aw := (hH.2.2 _ _ k_aw).1
  have hX : xf (fun c j => (c = am ∧ j = 6) ∨ (c = am ∧ j = 8) ∨ (c = am ∧ j = 9) ∨ (c = am ∧ j = 12) ∨ (c = aw ∧ (11941 + 2 * k) ≤ j)) G G := xf.rf
  refine hs_aload (i := 0) (p := 1) (by decide +kernel) rfl ?_
  refine ht_callv (T := et_TT) (t := 13) (mi := 200) (na := 0) (ci := 11) (lk := 1) (lm := 2) (L0 := eg_en (eg_mL 200) [.ref am]) (by decide +kernel) rfl hH k_am rfl rfl rfl rfl rfl (by rw [show eg_mL 200 = 2 from by decide +kernel]; first | done | rfl) ?_
  refine (hsub _ _ _ _ _ _ _ _ _ _ _ _ hH k_am m4 k_tm m7 hn ht hb m6 ha hpl m13 k_aw m1 m12 m9 (by omega) (by omega) (by omega)).mono (fun u hu => xw_cb hu (fun G1 v1 hH x1 hP1 => ?_))
  have x1 : xf (fun c j => (c = am ∧ j = 6) ∨ (c = am ∧ j = 8) ∨ (c = am ∧ j = 9) ∨ (c = am ∧ j = 12) ∨ (c = aw ∧ (11941 + 2 * k) ≤ j)) _ _ := x1
  have m4 := (x1.2 am 4 lt_am (fun h => Or.elim h (fun h => absurd h.2 (by decide)) (fun h => Or.elim h (fun h => absurd h.2 (by decide)) (fun h => Or.elim h (fun h => absurd h.2 (by decide)) (fun h => Or.elim h (fun h => absurd h.2 (by decide)) (fun h => (hi_ne k_am k_aw (by decide)) h.1)))))).trans m4
  have m7 := (x1.2 am 7 lt_am (fun h => Or.elim h (fun h => absurd h.2 (by decide)) (fun h => Or.elim h (fun h => absurd h.2 (by decide)) (fun h => Or.elim h (fun h => absurd h.2 (by decide)) (fun h => Or.elim h (fun h => absurd h.2 (by decide)) (fun h => (hi_ne k_am k_aw (by decide)) h.1)))))).trans m7
  have m13 := (x1.2 am 13 lt_am (fun h => Or.elim h (fun h => absurd h.2 (by decide)) (fun h => Or.elim h (fun h => absurd h.2 (by decide)) (fun h => Or.elim h (fun h => absurd h.2 (by decide)) (fun h => Or.elim h (fun h => absurd h.2 (by decide)) (fun h => (hi_ne k_am k_aw (by decide)) h.1)))))).trans m13
  have m1 := (x1.2 am 1 lt_am (fun h => Or.elim h (fun h => absurd h.2 (by decide)) (fun h => Or.elim h (fun h => absurd h.2 (by decide)) (fun h => Or.elim h (fun h => absurd h.2 (by decide)) (fun h => Or.elim h (fun h => absurd h.2 (by decide)) (fun h => (hi_ne k_am k_aw (by decide)) h.1)))))).trans m1
  have ht : ∀ i, i < n → et_pl (eg_at G1 tm) i = some (.int (sx (b i))) := fun i hi => (x1.2 tm i lt_tm (fun h => Or.elim h (fun h => (hi_ne k_tm k_am (by decide)) h.1) (fun h => Or.elim h (fun h => (hi_ne k_tm k_am (by decide)) h.1) (fun h => Or.elim h (fun h => (hi_ne k_tm k_am (by decide)) h.1) (fun h => Or.elim h (fun h => (hi_ne k_tm k_am (by decide)) h.1) (fun h => (hi_ne k_tm k_aw (by decide)) h.1)))))).trans (ht i hi)
  have lt_am := Nat.lt_of_lt_of_le lt_am x1.1
  have lt_tm := Nat.lt_of_lt_of_le lt_tm x1.1
  have lt_aw := Nat.lt_of_lt_of_le lt_aw x1.1
  have hX := hX.tr x1 (fun b j hb h => by first | omega | (dsimp only at h ⊢; omega) | (dsimp only at h; omega) | (dsimp only; omega))
  rcases hP1 with ⟨sp1, rfl⟩ | ⟨f1, p1, C1, sp1, rfl, q6_1, ha1, q12_1, q9_1, hC1, hR1, hl1⟩
  · show et_go none _ 199 4 _ [.int (Int32.ofNat 0)] _ _ _ _
    refine hs_if0 (c := .ne) (t := 9) (f := 7) (by decide +kernel) (show ¬ (¬ Int32.ofNat 0 = 0) by decide) ?_
    refine hs_k (x := Int32.ofNat 0) (p := 8) (by decide +kernel) ?_
    refine hs_zret (by decide +kernel) (.inl rfl) ?_
    exact ⟨_, _, rfl, hH, hX, .inl ⟨(by unfold sp_sum; exact sp_many_0 (L := tz_ts pl b n p) (y := 0) sp1), rfl⟩⟩
  · show et_go none _ 199 4 _ [.int (Int32.ofNat 1)] _ _ _ _
    refine hs_if1 (c := .ne) (t := 9) (f := 7) (by decide +kernel) (show ¬ Int32.ofNat 1 = 0 by decide) ?_
    have htn := ts_len (b := b) (pl := pl) (n := n) (p := p1)
    rw [show sp_sum (tz_ts pl b n p) = sp_loop (sp_part) 27 (fun f g e => f e + g e) 500 f1 (tz_ts pl b n p1) from sp_many_s sp1]
    exact fl_sum hsub hH k_am m4 k_tm m7 hn ht hb q6_1 ha1 hpl m13 k_aw m1 q12_1 q9_1 hC1 hR1 (by omega) hk (by omega) hdm (by omega) hX
theorem fl_all {D : Nat} (hsub : rP 195 D m dnB (sp_A m)) {T0 : List sp_T} {nf : Nat} {a : sp_E → Bool} {C : List (Nat × Nat)} (hH : et_H et_TT K G) (k_am : K am = some 13) (m4 : et_pl (eg_at G am) 4 = some (.ref tm)) (k_tm : K tm = some 34) (m7 : et_pl (eg_at G am) 7 = some (.int (Int32.ofNat n))) (hn : n ≤ 400) (ht : ∀ i, i < n → et_pl (eg_at G tm) i = some (.int (sx (b i)))) (hb : ∀ i, i < n → b i < 256) (m6 : et_pl (eg_at G am) 6 = some (.int (Int32.ofNat p))) (ha : tal b n p) (hpl : pl ≤ 2) (m13 : et_pl (eg_at G am) 13 = some (.int (Int32.ofNat pl))) (k_aw : K aw = some 46) (m1 : et_pl (eg_at G am) 1 = some (.ref aw)) (m12 : et_pl (eg_at G am) 12 = some (.int (Int32.ofNat (k + C.length)))) (m9 : et_pl (eg_at G am) 9 = some (.int (Int32.ofNat dp))) (hC : hasC G aw k C) (hR : dnB pl a C) (hl : C.length + (tz_ts pl b n p).length ≤ T0.length) (hk : k + T0.length ≤ 400) (hnf : (tz_ts pl b n p).length < nf) (hdm : dp + m = 6) (hd : D ≤ d + 7) (hX : xf (fun c j => (c = am ∧ j = 6) ∨ (c = am ∧ j = 8) ∨ (c = am ∧ j = 9) ∨ (c = am ∧ j = 12) ∨ (c = aw ∧ (11941 + 2 * k) ≤ j)) G0 G) : et_go none (d + 8) 194 9 [some (.ref am)] [] G 0 0 (xw_Z (fun c j => (c = am ∧ j = 6) ∨ (c = am ∧ j = 8) ∨ (c = am ∧ j = 9) ∨ (c = am ∧ j = 12) ∨ (c = aw ∧ (11941 + 2 * k) ≤ j)) K G0 (frP b n pl am aw k dp T0 (dnB pl) (sp_loop (sp_A m) 20 (fun f g e => f e && g e) nf a (tz_ts pl b n p)))) := by
  induction nf generalizing p C a G with
  | zero => exact absurd hnf (Nat.not_lt_zero _)
  | succ nf ih =>
    have hne : ¬ aw = am := hi_ne k_aw k_am (by decide)
    have lt_am := (hH.2.2 _ _ k_am).1
    have lt_tm := (hH.2.2 _ _ k_tm).1
    have lt_aw := (hH.2.2 _ _ k_aw).1
    refine hs_aload (i := 0) (p := 10) (by decide +kernel) rfl ?_
    refine hs_kld (v := .ref 58) (p := 12) (by decide +kernel) ?_
    refine ht_callv (T := et_TT) (t := 13) (mi := 192) (na := 1) (ci := 11) (lk := 1) (lm := 2) (L0 := eg_en (eg_mL 192) [.ref am, .ref 58]) (by decide +kernel) rfl hH k_am rfl rfl rfl rfl rfl (by rw [show eg_mL 192 = 2 from by decide +kernel]; first | done | rfl) ?_
    refine (pa_pass (w := 20) (j := 22) hH k_am m4 k_tm m7 hn ht hb m6 ha hpl (by decide) (by decide) (ok3 (by decide +kernel)) (by decide +kernel) (by decide +kernel) (by omega)).mono (fun u hu => xw_cb hu (fun G12 v12 hH x12 hP12 => ?_))
    have hC := hC.fr x12 lt_aw (fun j h1 h2 hs => by first | omega | (dsimp only at hs h2; omega))
    have m4 := (x12.2 am 4 lt_am (fun h => Or.elim h (fun h => absurd h.2 (by decide)) (fun h => absurd h.2 (by decide)))).trans m4
    have m7 := (x12.2 am 7 lt_am (fun h => Or.elim h (fun h => absurd h.2 (by decide)) (fun h => absurd h.2 (by decide)))).trans m7
    have m13 := (x12.2 am 13 lt_am (fun h => Or.elim h (fun h => absurd h.2 (by decide)) (fun h => absurd h.2 (by decide)))).trans m13
    have m1 := (x12.2 am 1 lt_am (fun h => Or.elim h (fun h => absurd h.2 (by decide)) (fun h => absurd h.2 (by decide)))).trans m1
    have m12 := (x12.2 am 12 lt_am (fun h => Or.elim h (fun h => absurd h.2 (by decide)) (fun h => absurd h.2 (by decide)))).trans m12
    have m9 := (x12.2 am 9 lt_am (fun h => Or.elim h (fun h => absurd h.2 (by decide)) (fun h => absurd h.2 (by decide)))).trans m9
    have ht : ∀ i, i < n → et_pl (eg_at G12 tm) i = some (.int (sx (b i))) := fun i hi => (x12.2 tm i lt_tm (fun h => Or.elim h (fun h => (hi_ne k_tm k_am (by decide)) h.1) (fun h => (hi_ne k_tm k_am (by decide)) h.1))).trans (ht i hi)
    have lt_am := Nat.lt_of_lt_of_le lt_am x12.1
    have lt_tm := Nat.lt_of_lt_of_le lt_tm x12.1
    have lt_aw := Nat.lt_of_lt_of_le lt_aw x12.1
    have hX := hX.tr x12 (fun b j hb h => by first | omega | (dsimp only at h ⊢; omega) | (dsimp only at h; omega) | (dsimp only; omega))
    rcases hP12 with ⟨p12, i12, rfl, q6_12, ha12, te12, tn12⟩ | ⟨p12, i12, rfl, q6_12, ha12, te12⟩
    · show et_go none _ 194 15 _ [.int (Int32.ofNat 1)] _ _ _ _
      refine hs_if0 (c := .eq) (t := 37) (f := 18) (by decide +kernel) (show ¬ (Int32.ofNat 1 = 0) by decide) ?_
      refine hs_aload (i := 0) (p := 19) (by decide +kernel) rfl ?_
      refine ht_callv (T := et_TT) (t := 13) (mi := 195) (na := 0) (ci := 11) (lk := 1) (lm := 3) (L0 := eg_en (eg_mL 195) [.ref am]) (by decide +kernel) rfl hH k_am rfl rfl rfl rfl rfl (by rw [show eg_mL 195 = 3 from by decide +kernel]; first | done | rfl) ?_
      refine (hsub _ _ _ _ _ _ _ _ _ _ _ _ hH k_am m4 k_tm m7 hn ht hb q6_12 ha12 hpl m13 k_aw m1 m12 m9 (by omega) (by omega) (by omega)).mono (fun u hu => xw_cb hu (fun G19 v19 hH x19 hP19 => ?_))
      have x19 : xf (fun c j => (c = am ∧ j = 6) ∨ (c = am ∧ j = 8) ∨ (c = am ∧ j = 9) ∨ (c = am ∧ j = 12) ∨ (c = aw ∧ (11941 + 2 * (k + C.length)) ≤ j)) _ _ := x19
      have hC := hC.fr x19 lt_aw (fun j h1 h2 hs => by first | omega | (dsimp only at hs h2; omega))
      have m4 := (x19.2 am 4 lt_am (fun h => Or.elim h (fun h => absurd h.2 (by decide)) (fun h => Or.elim h (fun h => absurd h.2 (by decide)) (fun h => Or.elim h (fun h => absurd h.2 (by decide)) (fun h => Or.elim h (fun h => absurd h.2 (by decide)) (fun h => (hi_ne k_am k_aw (by decide)) h.1)))))).trans m4
      have m7 := (x19.2 am 7 lt_am (fun h => Or.elim h (fun h => absurd h.2 (by decide)) (fun h => Or.elim h (fun h => absurd h.2 (by decide)) (fun h => Or.elim h (fun h => absurd h.2 (by decide)) (fun h => Or.elim h (fun h => absurd h.2 (by decide)) (fun h => (hi_ne k_am k_aw (by decide)) h.1)))))).trans m7
      have m13 := (x19.2 am 13 lt_am (fun h => Or.elim h (fun h => absurd h.2 (by decide)) (fun h => Or.elim h (fun h => absurd h.2 (by decide)) (fun h => Or.elim h (fun h => absurd h.2 (by decide)) (fun h => Or.elim h (fun h => absurd h.2 (by decide)) (fun h => (hi_ne k_am k_aw (by decide)) h.1)))))).trans m13
      have m1 := (x19.2 am 1 lt_am (fun h => Or.elim h (fun h => absurd h.2 (by decide)) (fun h => Or.elim h (fun h => absurd h.2 (by decide)) (fun h => Or.elim h (fun h => absurd h.2 (by decide)) (fun h => Or.elim h (fun h => absurd h.2 (by decide)) (fun h => (hi_ne k_am k_aw (by decide)) h.1)))))).trans m1
      have ht : ∀ i, i < n → et_pl (eg_at G19 tm) i = some (.int (sx (b i))) := fun i hi => (x19.2 tm i lt_tm (fun h => Or.elim h (fun h => (hi_ne k_tm k_am (by decide)) h.1) (fun h => Or.elim h (fun h => (hi_ne k_tm k_am (by decide)) h.1) (fun h => Or.elim h (fun h => (hi_ne k_tm k_am (by decide)) h.1) (fun h => Or.elim h (fun h => (hi_ne k_tm k_am (by decide)) h.1) (fun h => (hi_ne k_tm k_aw (by decide)) h.1)))))).trans (ht i hi)
      have lt_am := Nat.lt_of_lt_of_le lt_am x19.1
      have lt_tm := Nat.lt_of_lt_of_le lt_tm x19.1
      have lt_aw := Nat.lt_of_lt_of_le lt_aw x19.1
      have hX := hX.tr x19 (fun b j hb h => by first | omega | (dsimp only at h ⊢; omega) | (dsimp only at h; omega) | (dsimp only; omega))
      rcases hP19 with ⟨sp19, rfl⟩ | ⟨f19, p19, C19, sp19, rfl, q6_19, ha19, q12_19, q9_19, hC19, hR19, hl19⟩
      · show et_go none _ 194 22 _ [.int (Int32.ofNat 0)] _ _ _ _
        refine hs_if0 (c := .ne) (t := 27) (f := 25) (by decide +kernel) (show ¬ (¬ Int32.ofNat 0 = 0) by decide) ?_
        refine hs_k (x := Int32.ofNat 0) (p := 26) (by decide +kernel) ?_
        refine hs_zret (by decide +kernel) (.inl rfl) ?_
        exact ⟨_, _, rfl, hH, hX, .inl ⟨((sp_loop_y (L := tz_ts pl b n p) (y := 0) i12 (by decide)).trans (sp_lp_0 (L := tz_ts pl b n p12) (y := 0) sp19 |> fun h => (by rw [show (tz_ts pl b n p).drop (0 + 1) = tz_ts pl b n p12 from te12.symm]; exact h))), rfl⟩⟩
      · show et_go none _ 194 22 _ [.int (Int32.ofNat 1)] _ _ _ _
        refine hs_if1 (c := .ne) (t := 27) (f := 25) (by decide +kernel) (show ¬ Int32.ofNat 1 = 0 by decide) ?_
        refine hs_aload (i := 0) (p := 28) (by decide +kernel) rfl ?_
        refine hs_k (x := Int32.ofNat 19) (p := 30) (by decide +kernel) ?_
        refine hs_k (x := Int32.ofNat 0) (p := 31) (by decide +kernel) ?_
        refine ht_callv (T := et_TT) (t := 13) (mi := 197) (na := 2) (ci := 11) (lk := 1) (lm := 4) (L0 := eg_en (eg_mL 197) [.ref am, .int (Int32.ofNat 19), .int (Int32.ofNat 0)]) (by decide +kernel) rfl hH k_am rfl rfl rfl rfl rfl (by rw [show eg_mL 197 = 4 from by decide +kernel]; first | done | rfl) ?_
        refine (pa_emit (o := 19) (v := 0) ⟨by omega, by omega⟩ hH k_am k_aw m1 q12_19 (by omega) (by omega)).mono (fun u hu => xw_cb hu (fun G31 v31 hH x31 hP31 => ?_))
        have hC := hC.fr x31 lt_aw (fun j h1 h2 hs => by first | omega | (dsimp only at hs h2; omega))
        have hC19 := hC19.fr x31 lt_aw (fun j h1 h2 hs => by first | omega | (dsimp only at hs h2; omega))
        have m4 := (x31.2 am 4 lt_am (fun h => Or.elim h (fun h => absurd h.2 (by decide)) (fun h => (hi_ne k_am k_aw (by decide)) h.1))).trans m4
        have m7 := (x31.2 am 7 lt_am (fun h => Or.elim h (fun h => absurd h.2 (by decide)) (fun h => (hi_ne k_am k_aw (by decide)) h.1))).trans m7
        have q6_19 := (x31.2 am 6 lt_am (fun h => Or.elim h (fun h => absurd h.2 (by decide)) (fun h => (hi_ne k_am k_aw (by decide)) h.1))).trans q6_19
        have m13 := (x31.2 am 13 lt_am (fun h => Or.elim h (fun h => absurd h.2 (by decide)) (fun h => (hi_ne k_am k_aw (by decide)) h.1))).trans m13
        have m1 := (x31.2 am 1 lt_am (fun h => Or.elim h (fun h => absurd h.2 (by decide)) (fun h => (hi_ne k_am k_aw (by decide)) h.1))).trans m1
        have q9_19 := (x31.2 am 9 lt_am (fun h => Or.elim h (fun h => absurd h.2 (by decide)) (fun h => (hi_ne k_am k_aw (by decide)) h.1))).trans q9_19
        have ht : ∀ i, i < n → et_pl (eg_at G31 tm) i = some (.int (sx (b i))) := fun i hi => (x31.2 tm i lt_tm (fun h => Or.elim h (fun h => (hi_ne k_tm k_am (by decide)) h.1) (fun h => (hi_ne k_tm k_aw (by decide)) h.1))).trans (ht i hi)
        have lt_am := Nat.lt_of_lt_of_le lt_am x31.1
        have lt_tm := Nat.lt_of_lt_of_le lt_tm x31.1
        have lt_aw := Nat.lt_of_lt_of_le lt_aw x31.1
        have hX := hX.tr x31 (fun b j hb h => by first | omega | (dsimp only at h ⊢; omega) | (dsimp only at h; omega) | (dsimp only; omega))
        obtain ⟨rfl, C31, ec31, lc31, q12_31, hC31⟩ := hP31
        show et_go none _ 194 34 _ [] _ _ _ _
        refine hs_goto (p := 9) (by decide +kernel) ?_
        rw [show sp_loop (sp_A m) 20 (fun f g e => f e && g e) (nf + 1) a (tz_ts pl b n p) = sp_loop (sp_A m) 20 (fun f g e => f e && g e) nf ((fun f g e => f e && g e) a f19) (tz_ts pl b n p19) from (sp_loop_y (L := tz_ts pl b n p) (y := 0) i12 (by decide)).trans (by rw [show (tz_ts pl b n p).drop (0 + 1) = tz_ts pl b n p12 from te12.symm]; exact sp_lp_s sp19)]
        exact ih (C := ((C ++ C19) ++ C31)) hH m4 m7 ht q6_19 ha19 m13 m1 (by simpa only [List.length_append, Nat.add_assoc] using q12_31) q9_19 ((hC.app (by simpa only [List.length_append, Nat.add_assoc] using hC19)).app (by simpa only [List.length_append, Nat.add_assoc] using hC31)) (by rw [ec31]; exact dnB_and hR hR19) (by simp only [List.length_append]; omega) (by omega) hX
    · have tn12 := congrArg List.length te12
      show et_go none _ 194 15 _ [.int (Int32.ofNat 0)] _ _ _ _
      refine hs_if1 (c := .eq) (t := 37) (f := 18) (by decide +kernel) (show Int32.ofNat 0 = 0 by decide) ?_
      refine hs_k (x := Int32.ofNat 1) (p := 38) (by decide +kernel) ?_
      refine hs_zret (by decide +kernel) (.inr rfl) ?_
      refine ⟨_, _, rfl, hH, hX, .inr ⟨_, p12, C, (by rw [te12]; exact sp_loop_n (L := tz_ts pl b n p) (y := 0) i12), rfl, q6_12, ha12, m12, m9, hC, hR, ?_⟩⟩
      omega
theorem fr_all {D : Nat} (hD : 8 ≤ D) (hsub : rP 195 D m dnB (sp_A m)) : rP 194 (D + 1) m dnB (spx_all (sp_A m)) := by
  intro K G b d2 am aw tm n p pl k dp hH k_am m4 k_tm m7 hn ht hb m6 ha hpl m13 k_aw m1 m12 m9 hk hdm hd
  obtain ⟨d, rfl⟩ : ∃ d, d2 = d + 8 := ⟨d2 - 8, by omega⟩
  rw [show eg_mL 194 = 1 from by decide +kernel]
  show et_go none (d + 8) 194 0 [some (.ref am)] [] G 0 0 (xw_Z _ _ _ _)
  have hne : ¬ aw = am := hi_ne k_aw k_am (by decide)
  have lt_am := (hH.2.2 _ _ k_am).1
  have lt_tm := (hH.2.2 _ _ k_tm).1
  have lt_aw := (hH.2.2 _ _ k_aw).1
  have hX : xf (fun c j => (c = am ∧ j = 6) ∨ (c = am ∧ j = 8) ∨ (c = am ∧ j = 9) ∨ (c = am ∧ j = 12) ∨ (c = aw ∧ (11941 + 2 * k) ≤ j)) G G := xf.rf
  refine hs_aload (i := 0) (p := 1) (by decide +kernel) rfl ?_
  refine ht_callv (T := et_TT) (t := 13) (mi := 195) (na := 0) (ci := 11) (lk := 1) (lm := 3) (L0 := eg_en (eg_mL 195) [.ref am]) (by decide +kernel) rfl hH k_am rfl rfl rfl rfl rfl (by rw [show eg_mL 195 = 3 from by decide +kernel]; first | done | rfl) ?_
  refine (hsub _ _ _ _ _ _ _ _ _ _ _ _ hH k_am m4 k_tm m7 hn ht hb m6 ha hpl m13 k_aw m1 m12 m9 (by omega) (by omega) (by omega)).mono (fun u hu => xw_cb hu (fun G1 v1 hH x1 hP1 => ?_))
  have x1 : xf (fun c j => (c = am ∧ j = 6) ∨ (c = am ∧ j = 8) ∨ (c = am ∧ j = 9) ∨ (c = am ∧ j = 12) ∨ (c = aw ∧ (11941 + 2 * k) ≤ j)) _ _ := x1
  have m4 := (x1.2 am 4 lt_am (fun h => Or.elim h (fun h => absurd h.2 (by decide)) (fun h => Or.elim h (fun h => absurd h.2 (by decide)) (fun h => Or.elim h (fun h => absurd h.2 (by decide)) (fun h => Or.elim h (fun h => absurd h.2 (by decide)) (fun h => (hi_ne k_am k_aw (by decide)) h.1)))))).trans m4
  have m7 := (x1.2 am 7 lt_am (fun h => Or.elim h (fun h => absurd h.2 (by decide)) (fun h => Or.elim h (fun h => absurd h.2 (by decide)) (fun h => Or.elim h (fun h => absurd h.2 (by decide)) (fun h => Or.elim h (fun h => absurd h.2 (by decide)) (fun h => (hi_ne k_am k_aw (by decide)) h.1)))))).trans m7
  have m13 := (x1.2 am 13 lt_am (fun h => Or.elim h (fun h => absurd h.2 (by decide)) (fun h => Or.elim h (fun h => absurd h.2 (by decide)) (fun h => Or.elim h (fun h => absurd h.2 (by decide)) (fun h => Or.elim h (fun h => absurd h.2 (by decide)) (fun h => (hi_ne k_am k_aw (by decide)) h.1)))))).trans m13
  have m1 := (x1.2 am 1 lt_am (fun h => Or.elim h (fun h => absurd h.2 (by decide)) (fun h => Or.elim h (fun h => absurd h.2 (by decide)) (fun h => Or.elim h (fun h => absurd h.2 (by decide)) (fun h => Or.elim h (fun h => absurd h.2 (by decide)) (fun h => (hi_ne k_am k_aw (by decide)) h.1)))))).trans m1
  have ht : ∀ i, i < n → et_pl (eg_at G1 tm) i = some (.int (sx (b i))) := fun i hi => (x1.2 tm i lt_tm (fun h => Or.elim h (fun h => (hi_ne k_tm k_am (by decide)) h.1) (fun h => Or.elim h (fun h => (hi_ne k_tm k_am (by decide)) h.1) (fun h => Or.elim h (fun h => (hi_ne k_tm k_am (by decide)) h.1) (fun h => Or.elim h (fun h => (hi_ne k_tm k_am (by decide)) h.1) (fun h => (hi_ne k_tm k_aw (by decide)) h.1)))))).trans (ht i hi)
  have lt_am := Nat.lt_of_lt_of_le lt_am x1.1
  have lt_tm := Nat.lt_of_lt_of_le lt_tm x1.1
  have lt_aw := Nat.lt_of_lt_of_le lt_aw x1.1
  have hX := hX.tr x1 (fun b j hb h => by first | omega | (dsimp only at h ⊢; omega) | (dsimp only at h; omega) | (dsimp only; omega))
  rcases hP1 with ⟨sp1, rfl⟩ | ⟨f1, p1, C1, sp1, rfl, q6_1, ha1, q12_1, q9_1, hC1, hR1, hl1⟩
  · show et_go none _ 194 4 _ [.int (Int32.ofNat 0)] _ _ _ _
    refine hs_if0 (c := .ne) (t := 9) (f := 7) (by decide +kernel) (show ¬ (¬ Int32.ofNat 0 = 0) by decide) ?_
    refine hs_k (x := Int32.ofNat 0) (p := 8) (by decide +kernel) ?_
    refine hs_zret (by decide +kernel) (.inl rfl) ?_
    exact ⟨_, _, rfl, hH, hX, .inl ⟨(by unfold spx_all; exact sp_many_0 (L := tz_ts pl b n p) (y := 0) sp1), rfl⟩⟩
  · show et_go none _ 194 4 _ [.int (Int32.ofNat 1)] _ _ _ _
    refine hs_if1 (c := .ne) (t := 9) (f := 7) (by decide +kernel) (show ¬ Int32.ofNat 1 = 0 by decide) ?_
    have htn := ts_len (b := b) (pl := pl) (n := n) (p := p1)
    rw [show spx_all (sp_A m) (tz_ts pl b n p) = sp_loop (sp_A m) 20 (fun f g e => f e && g e) 500 f1 (tz_ts pl b n p1) from sp_many_s sp1]
    exact fl_all hsub hH k_am m4 k_tm m7 hn ht hb q6_1 ha1 hpl m13 k_aw m1 q12_1 q9_1 hC1 hR1 (by omega) hk (by omega) hdm (by omega) hX
theorem fl_any {D : Nat} (hsub : rP 194 D m dnB (spx_all (sp_A m))) {T0 : List sp_T} {nf : Nat} {a : sp_E → Bool} {C : List (Nat × Nat)} (hH : et_H et_TT K G) (k_am : K am = some 13) (m4 : et_pl (eg_at G am) 4 = some (.ref tm)) (k_tm : K tm = some 34) (m7 : et_pl (eg_at G am) 7 = some (.int (Int32.ofNat n))) (hn : n ≤ 400) (ht : ∀ i, i < n → et_pl (eg_at G tm) i = some (.int (sx (b i)))) (hb : ∀ i, i < n → b i < 256) (m6 : et_pl (eg_at G am) 6 = some (.int (Int32.ofNat p))) (ha : tal b n p) (hpl : pl ≤ 2) (m13 : et_pl (eg_at G am) 13 = some (.int (Int32.ofNat pl))) (k_aw : K aw = some 46) (m1 : et_pl (eg_at G am) 1 = some (.ref aw)) (m12 : et_pl (eg_at G am) 12 = some (.int (Int32.ofNat (k + C.length)))) (m9 : et_pl (eg_at G am) 9 = some (.int (Int32.ofNat dp))) (hC : hasC G aw k C) (hR : dnB pl a C) (hl : C.length + (tz_ts pl b n p).length ≤ T0.length) (hk : k + T0.length ≤ 400) (hnf : (tz_ts pl b n p).length < nf) (hdm : dp + m = 6) (hd : D ≤ d + 7) (hX : xf (fun c j => (c = am ∧ j = 6) ∨ (c = am ∧ j = 8) ∨ (c = am ∧ j = 9) ∨ (c = am ∧ j = 12) ∨ (c = aw ∧ (11941 + 2 * k) ≤ j)) G0 G) : et_go none (d + 8) 193 9 [some (.ref am)] [] G 0 0 (xw_Z (fun c j => (c = am ∧ j = 6) ∨ (c = am ∧ j = 8) ∨ (c = am ∧ j = 9) ∨ (c = am ∧ j = 12) ∨ (c = aw ∧ (11941 + 2 * k) ≤ j)) K G0 (frP b n pl am aw k dp T0 (dnB pl) (sp_loop (spx_all (sp_A m)) 21 (fun f g e => f e || g e) nf a (tz_ts pl b n p)))) := by
  induction nf generalizing p C a G with
  | zero => exact absurd hnf (Nat.not_lt_zero _)
  | succ nf ih =>
    have hne : ¬ aw = am := hi_ne k_aw k_am (by decide)
    have lt_am := (hH.2.2 _ _ k_am).1
    have lt_tm := (hH.2.2 _ _ k_tm).1
    have lt_aw := (hH.2.2 _ _ k_aw).1
    refine hs_aload (i := 0) (p := 10) (by decide +kernel) rfl ?_
    refine hs_kld (v := .ref 59) (p := 12) (by decide +kernel) ?_
    refine ht_callv (T := et_TT) (t := 13) (mi := 192) (na := 1) (ci := 11) (lk := 1) (lm := 2) (L0 := eg_en (eg_mL 192) [.ref am, .ref 59]) (by decide +kernel) rfl hH k_am rfl rfl rfl rfl rfl (by rw [show eg_mL 192 = 2 from by decide +kernel]; first | done | rfl) ?_
    refine (pa_pass (w := 21) (j := 23) hH k_am m4 k_tm m7 hn ht hb m6 ha hpl (by decide) (by decide) (ok3 (by decide +kernel)) (by decide +kernel) (by decide +kernel) (by omega)).mono (fun u hu => xw_cb hu (fun G12 v12 hH x12 hP12 => ?_))
    have hC := hC.fr x12 lt_aw (fun j h1 h2 hs => by first | omega | (dsimp only at hs h2; omega))
    have m4 := (x12.2 am 4 lt_am (fun h => Or.elim h (fun h => absurd h.2 (by decide)) (fun h => absurd h.2 (by decide)))).trans m4
    have m7 := (x12.2 am 7 lt_am (fun h => Or.elim h (fun h => absurd h.2 (by decide)) (fun h => absurd h.2 (by decide)))).trans m7
    have m13 := (x12.2 am 13 lt_am (fun h => Or.elim h (fun h => absurd h.2 (by decide)) (fun h => absurd h.2 (by decide)))).trans m13
    have m1 := (x12.2 am 1 lt_am (fun h => Or.elim h (fun h => absurd h.2 (by decide)) (fun h => absurd h.2 (by decide)))).trans m1
    have m12 := (x12.2 am 12 lt_am (fun h => Or.elim h (fun h => absurd h.2 (by decide)) (fun h => absurd h.2 (by decide)))).trans m12
    have m9 := (x12.2 am 9 lt_am (fun h => Or.elim h (fun h => absurd h.2 (by decide)) (fun h => absurd h.2 (by decide)))).trans m9
    have ht : ∀ i, i < n → et_pl (eg_at G12 tm) i = some (.int (sx (b i))) := fun i hi => (x12.2 tm i lt_tm (fun h => Or.elim h (fun h => (hi_ne k_tm k_am (by decide)) h.1) (fun h => (hi_ne k_tm k_am (by decide)) h.1))).trans (ht i hi)
    have lt_am := Nat.lt_of_lt_of_le lt_am x12.1
    have lt_tm := Nat.lt_of_lt_of_le lt_tm x12.1
    have lt_aw := Nat.lt_of_lt_of_le lt_aw x12.1
    have hX := hX.tr x12 (fun b j hb h => by first | omega | (dsimp only at h ⊢; omega) | (dsimp only at h; omega) | (dsimp only; omega))
    rcases hP12 with ⟨p12, i12, rfl, q6_12, ha12, te12, tn12⟩ | ⟨p12, i12, rfl, q6_12, ha12, te12⟩
    · show et_go none _ 193 15 _ [.int (Int32.ofNat 1)] _ _ _ _
      refine hs_if0 (c := .eq) (t := 37) (f := 18) (by decide +kernel) (show ¬ (Int32.ofNat 1 = 0) by decide) ?_
      refine hs_aload (i := 0) (p := 19) (by decide +kernel) rfl ?_
      refine ht_callv (T := et_TT) (t := 13) (mi := 194) (na := 0) (ci := 11) (lk := 1) (lm := 1) (L0 := eg_en (eg_mL 194) [.ref am]) (by decide +kernel) rfl hH k_am rfl rfl rfl rfl rfl (by rw [show eg_mL 194 = 1 from by decide +kernel]; first | done | rfl) ?_
      refine (hsub _ _ _ _ _ _ _ _ _ _ _ _ hH k_am m4 k_tm m7 hn ht hb q6_12 ha12 hpl m13 k_aw m1 m12 m9 (by omega) (by omega) (by omega)).mono (fun u hu => xw_cb hu (fun G19 v19 hH x19 hP19 => ?_))
      have x19 : xf (fun c j => (c = am ∧ j = 6) ∨ (c = am ∧ j = 8) ∨ (c = am ∧ j = 9) ∨ (c = am ∧ j = 12) ∨ (c = aw ∧ (11941 + 2 * (k + C.length)) ≤ j)) _ _ := x19
      have hC := hC.fr x19 lt_aw (fun j h1 h2 hs => by first | omega | (dsimp only at hs h2; omega))
      have m4 := (x19.2 am 4 lt_am (fun h => Or.elim h (fun h => absurd h.2 (by decide)) (fun h => Or.elim h (fun h => absurd h.2 (by decide)) (fun h => Or.elim h (fun h => absurd h.2 (by decide)) (fun h => Or.elim h (fun h => absurd h.2 (by decide)) (fun h => (hi_ne k_am k_aw (by decide)) h.1)))))).trans m4
      have m7 := (x19.2 am 7 lt_am (fun h => Or.elim h (fun h => absurd h.2 (by decide)) (fun h => Or.elim h (fun h => absurd h.2 (by decide)) (fun h => Or.elim h (fun h => absurd h.2 (by decide)) (fun h => Or.elim h (fun h => absurd h.2 (by decide)) (fun h => (hi_ne k_am k_aw (by decide)) h.1)))))).trans m7
      have m13 := (x19.2 am 13 lt_am (fun h => Or.elim h (fun h => absurd h.2 (by decide)) (fun h => Or.elim h (fun h => absurd h.2 (by decide)) (fun h => Or.elim h (fun h => absurd h.2 (by decide)) (fun h => Or.elim h (fun h => absurd h.2 (by decide)) (fun h => (hi_ne k_am k_aw (by decide)) h.1)))))).trans m13
      have m1 := (x19.2 am 1 lt_am (fun h => Or.elim h (fun h => absurd h.2 (by decide)) (fun h => Or.elim h (fun h => absurd h.2 (by decide)) (fun h => Or.elim h (fun h => absurd h.2 (by decide)) (fun h => Or.elim h (fun h => absurd h.2 (by decide)) (fun h => (hi_ne k_am k_aw (by decide)) h.1)))))).trans m1
      have ht : ∀ i, i < n → et_pl (eg_at G19 tm) i = some (.int (sx (b i))) := fun i hi => (x19.2 tm i lt_tm (fun h => Or.elim h (fun h => (hi_ne k_tm k_am (by decide)) h.1) (fun h => Or.elim h (fun h => (hi_ne k_tm k_am (by decide)) h.1) (fun h => Or.elim h (fun h => (hi_ne k_tm k_am (by decide)) h.1) (fun h => Or.elim h (fun h => (hi_ne k_tm k_am (by decide)) h.1) (fun h => (hi_ne k_tm k_aw (by decide)) h.1)))))).trans (ht i hi)
      have lt_am := Nat.lt_of_lt_of_le lt_am x19.1
      have lt_tm := Nat.lt_of_lt_of_le lt_tm x19.1
      have lt_aw := Nat.lt_of_lt_of_le lt_aw x19.1
      have hX := hX.tr x19 (fun b j hb h => by first | omega | (dsimp only at h ⊢; omega) | (dsimp only at h; omega) | (dsimp only; omega))
      rcases hP19 with ⟨sp19, rfl⟩ | ⟨f19, p19, C19, sp19, rfl, q6_19, ha19, q12_19, q9_19, hC19, hR19, hl19⟩
      · show et_go none _ 193 22 _ [.int (Int32.ofNat 0)] _ _ _ _
        refine hs_if0 (c := .ne) (t := 27) (f := 25) (by decide +kernel) (show ¬ (¬ Int32.ofNat 0 = 0) by decide) ?_
        refine hs_k (x := Int32.ofNat 0) (p := 26) (by decide +kernel) ?_
        refine hs_zret (by decide +kernel) (.inl rfl) ?_
        exact ⟨_, _, rfl, hH, hX, .inl ⟨((sp_loop_y (L := tz_ts pl b n p) (y := 0) i12 (by decide)).trans (sp_lp_0 (L := tz_ts pl b n p12) (y := 0) sp19 |> fun h => (by rw [show (tz_ts pl b n p).drop (0 + 1) = tz_ts pl b n p12 from te12.symm]; exact h))), rfl⟩⟩
      · show et_go none _ 193 22 _ [.int (Int32.ofNat 1)] _ _ _ _
        refine hs_if1 (c := .ne) (t := 27) (f := 25) (by decide +kernel) (show ¬ Int32.ofNat 1 = 0 by decide) ?_
        refine hs_aload (i := 0) (p := 28) (by decide +kernel) rfl ?_
        refine hs_k (x := Int32.ofNat 20) (p := 30) (by decide +kernel) ?_
        refine hs_k (x := Int32.ofNat 0) (p := 31) (by decide +kernel) ?_
        refine ht_callv (T := et_TT) (t := 13) (mi := 197) (na := 2) (ci := 11) (lk := 1) (lm := 4) (L0 := eg_en (eg_mL 197) [.ref am, .int (Int32.ofNat 20), .int (Int32.ofNat 0)]) (by decide +kernel) rfl hH k_am rfl rfl rfl rfl rfl (by rw [show eg_mL 197 = 4 from by decide +kernel]; first | done | rfl) ?_
        refine (pa_emit (o := 20) (v := 0) ⟨by omega, by omega⟩ hH k_am k_aw m1 q12_19 (by omega) (by omega)).mono (fun u hu => xw_cb hu (fun G31 v31 hH x31 hP31 => ?_))
        have hC := hC.fr x31 lt_aw (fun j h1 h2 hs => by first | omega | (dsimp only at hs h2; omega))
        have hC19 := hC19.fr x31 lt_aw (fun j h1 h2 hs => by first | omega | (dsimp only at hs h2; omega))
        have m4 := (x31.2 am 4 lt_am (fun h => Or.elim h (fun h => absurd h.2 (by decide)) (fun h => (hi_ne k_am k_aw (by decide)) h.1))).trans m4
        have m7 := (x31.2 am 7 lt_am (fun h => Or.elim h (fun h => absurd h.2 (by decide)) (fun h => (hi_ne k_am k_aw (by decide)) h.1))).trans m7
        have q6_19 := (x31.2 am 6 lt_am (fun h => Or.elim h (fun h => absurd h.2 (by decide)) (fun h => (hi_ne k_am k_aw (by decide)) h.1))).trans q6_19
        have m13 := (x31.2 am 13 lt_am (fun h => Or.elim h (fun h => absurd h.2 (by decide)) (fun h => (hi_ne k_am k_aw (by decide)) h.1))).trans m13
        have m1 := (x31.2 am 1 lt_am (fun h => Or.elim h (fun h => absurd h.2 (by decide)) (fun h => (hi_ne k_am k_aw (by decide)) h.1))).trans m1
        have q9_19 := (x31.2 am 9 lt_am (fun h => Or.elim h (fun h => absurd h.2 (by decide)) (fun h => (hi_ne k_am k_aw (by decide)) h.1))).trans q9_19
        have ht : ∀ i, i < n → et_pl (eg_at G31 tm) i = some (.int (sx (b i))) := fun i hi => (x31.2 tm i lt_tm (fun h => Or.elim h (fun h => (hi_ne k_tm k_am (by decide)) h.1) (fun h => (hi_ne k_tm k_aw (by decide)) h.1))).trans (ht i hi)
        have lt_am := Nat.lt_of_lt_of_le lt_am x31.1
        have lt_tm := Nat.lt_of_lt_of_le lt_tm x31.1
        have lt_aw := Nat.lt_of_lt_of_le lt_aw x31.1
        have hX := hX.tr x31 (fun b j hb h => by first | omega | (dsimp only at h ⊢; omega) | (dsimp only at h; omega) | (dsimp only; omega))
        obtain ⟨rfl, C31, ec31, lc31, q12_31, hC31⟩ := hP31
        show et_go none _ 193 34 _ [] _ _ _ _
        refine hs_goto (p := 9) (by decide +kernel) ?_
        rw [show sp_loop (spx_all (sp_A m)) 21 (fun f g e => f e || g e) (nf + 1) a (tz_ts pl b n p) = sp_loop (spx_all (sp_A m)) 21 (fun f g e => f e || g e) nf ((fun f g e => f e || g e) a f19) (tz_ts pl b n p19) from (sp_loop_y (L := tz_ts pl b n p) (y := 0) i12 (by decide)).trans (by rw [show (tz_ts pl b n p).drop (0 + 1) = tz_ts pl b n p12 from te12.symm]; exact sp_lp_s sp19)]
        exact ih (C := ((C ++ C19) ++ C31)) hH m4 m7 ht q6_19 ha19 m13 m1 (by simpa only [List.length_append, Nat.add_assoc] using q12_31) q9_19 ((hC.app (by simpa only [List.length_append, Nat.add_assoc] using hC19)).app (by simpa only [List.length_append, Nat.add_assoc] using hC31)) (by rw [ec31]; exact dnB_or hR hR19) (by simp only [List.length_append]; omega) (by omega) hX
    · have tn12 := congrArg List.length te12
      show et_go none _ 193 15 _ [.int (Int32.ofNat 0)] _ _ _ _
      refine hs_if1 (c := .eq) (t := 37) (f := 18) (by decide +kernel) (show Int32.ofNat 0 = 0 by decide) ?_
      refine hs_k (x := Int32.ofNat 1) (p := 38) (by decide +kernel) ?_
      refine hs_zret (by decide +kernel) (.inr rfl) ?_
      refine ⟨_, _, rfl, hH, hX, .inr ⟨_, p12, C, (by rw [te12]; exact sp_loop_n (L := tz_ts pl b n p) (y := 0) i12), rfl, q6_12, ha12, m12, m9, hC, hR, ?_⟩⟩
      omega
theorem fr_any {D : Nat} (hD : 8 ≤ D) (hsub : rP 194 D m dnB (spx_all (sp_A m))) : rP 193 (D + 1) m dnB (spx_any (sp_A m)) := by
  intro K G b d2 am aw tm n p pl k dp hH k_am m4 k_tm m7 hn ht hb m6 ha hpl m13 k_aw m1 m12 m9 hk hdm hd
  obtain ⟨d, rfl⟩ : ∃ d, d2 = d + 8 := ⟨d2 - 8, by omega⟩
  rw [show eg_mL 193 = 1 from by decide +kernel]
  show et_go none (d + 8) 193 0 [some (.ref am)] [] G 0 0 (xw_Z _ _ _ _)
  have hne : ¬ aw = am := hi_ne k_aw k_am (by decide)
  have lt_am := (hH.2.2 _ _ k_am).1
  have lt_tm := (hH.2.2 _ _ k_tm).1
  have lt_aw := (hH.2.2 _ _ k_aw).1
  have hX : xf (fun c j => (c = am ∧ j = 6) ∨ (c = am ∧ j = 8) ∨ (c = am ∧ j = 9) ∨ (c = am ∧ j = 12) ∨ (c = aw ∧ (11941 + 2 * k) ≤ j)) G G := xf.rf
  refine hs_aload (i := 0) (p := 1) (by decide +kernel) rfl ?_
  refine ht_callv (T := et_TT) (t := 13) (mi := 194) (na := 0) (ci := 11) (lk := 1) (lm := 1) (L0 := eg_en (eg_mL 194) [.ref am]) (by decide +kernel) rfl hH k_am rfl rfl rfl rfl rfl (by rw [show eg_mL 194 = 1 from by decide +kernel]; first | done | rfl) ?_
  refine (hsub _ _ _ _ _ _ _ _ _ _ _ _ hH k_am m4 k_tm m7 hn ht hb m6 ha hpl m13 k_aw m1 m12 m9 (by omega) (by omega) (by omega)).mono (fun u hu => xw_cb hu (fun G1 v1 hH x1 hP1 => ?_))
  have x1 : xf (fun c j => (c = am ∧ j = 6) ∨ (c = am ∧ j = 8) ∨ (c = am ∧ j = 9) ∨ (c = am ∧ j = 12) ∨ (c = aw ∧ (11941 + 2 * k) ≤ j)) _ _ := x1
  have m4 := (x1.2 am 4 lt_am (fun h => Or.elim h (fun h => absurd h.2 (by decide)) (fun h => Or.elim h (fun h => absurd h.2 (by decide)) (fun h => Or.elim h (fun h => absurd h.2 (by decide)) (fun h => Or.elim h (fun h => absurd h.2 (by decide)) (fun h => (hi_ne k_am k_aw (by decide)) h.1)))))).trans m4
  have m7 := (x1.2 am 7 lt_am (fun h => Or.elim h (fun h => absurd h.2 (by decide)) (fun h => Or.elim h (fun h => absurd h.2 (by decide)) (fun h => Or.elim h (fun h => absurd h.2 (by decide)) (fun h => Or.elim h (fun h => absurd h.2 (by decide)) (fun h => (hi_ne k_am k_aw (by decide)) h.1)))))).trans m7
  have m13 := (x1.2 am 13 lt_am (fun h => Or.elim h (fun h => absurd h.2 (by decide)) (fun h => Or.elim h (fun h => absurd h.2 (by decide)) (fun h => Or.elim h (fun h => absurd h.2 (by decide)) (fun h => Or.elim h (fun h => absurd h.2 (by decide)) (fun h => (hi_ne k_am k_aw (by decide)) h.1)))))).trans m13
  have m1 := (x1.2 am 1 lt_am (fun h => Or.elim h (fun h => absurd h.2 (by decide)) (fun h => Or.elim h (fun h => absurd h.2 (by decide)) (fun h => Or.elim h (fun h => absurd h.2 (by decide)) (fun h => Or.elim h (fun h => absurd h.2 (by decide)) (fun h => (hi_ne k_am k_aw (by decide)) h.1)))))).trans m1
  have ht : ∀ i, i < n → et_pl (eg_at G1 tm) i = some (.int (sx (b i))) := fun i hi => (x1.2 tm i lt_tm (fun h => Or.elim h (fun h => (hi_ne k_tm k_am (by decide)) h.1) (fun h => Or.elim h (fun h => (hi_ne k_tm k_am (by decide)) h.1) (fun h => Or.elim h (fun h => (hi_ne k_tm k_am (by decide)) h.1) (fun h => Or.elim h (fun h => (hi_ne k_tm k_am (by decide)) h.1) (fun h => (hi_ne k_tm k_aw (by decide)) h.1)))))).trans (ht i hi)
  have lt_am := Nat.lt_of_lt_of_le lt_am x1.1
  have lt_tm := Nat.lt_of_lt_of_le lt_tm x1.1
  have lt_aw := Nat.lt_of_lt_of_le lt_aw x1.1
  have hX := hX.tr x1 (fun b j hb h => by first | omega | (dsimp only at h ⊢; omega) | (dsimp only at h; omega) | (dsimp only; omega))
  rcases hP1 with ⟨sp1, rfl⟩ | ⟨f1, p1, C1, sp1, rfl, q6_1, ha1, q12_1, q9_1, hC1, hR1, hl1⟩
  · show et_go none _ 193 4 _ [.int (Int32.ofNat 0)] _ _ _ _
    refine hs_if0 (c := .ne) (t := 9) (f := 7) (by decide +kernel) (show ¬ (¬ Int32.ofNat 0 = 0) by decide) ?_
    refine hs_k (x := Int32.ofNat 0) (p := 8) (by decide +kernel) ?_
    refine hs_zret (by decide +kernel) (.inl rfl) ?_
    exact ⟨_, _, rfl, hH, hX, .inl ⟨(by unfold spx_any; exact sp_many_0 (L := tz_ts pl b n p) (y := 0) sp1), rfl⟩⟩
  · show et_go none _ 193 4 _ [.int (Int32.ofNat 1)] _ _ _ _
    refine hs_if1 (c := .ne) (t := 9) (f := 7) (by decide +kernel) (show ¬ Int32.ofNat 1 = 0 by decide) ?_
    have htn := ts_len (b := b) (pl := pl) (n := n) (p := p1)
    rw [show spx_any (sp_A m) (tz_ts pl b n p) = sp_loop (spx_all (sp_A m)) 21 (fun f g e => f e || g e) 500 f1 (tz_ts pl b n p1) from sp_many_s sp1]
    exact fl_any hsub hH k_am m4 k_tm m7 hn ht hb q6_1 ha1 hpl m13 k_aw m1 q12_1 q9_1 hC1 hR1 (by omega) hk (by omega) hdm (by omega) hX
end FVA
