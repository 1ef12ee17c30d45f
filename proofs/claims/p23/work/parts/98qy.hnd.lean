section
/-! FUNCTIONAL: the reference's readLines, reads -/
theorem lnsP.up {G : eg_G} {aw pl hi hi' : Nat} {ls : List sp_L} (h : lnsP G aw pl hi ls) (h1 : hi ≤ hi') : lnsP G aw pl hi' ls := fun i l hi => (h i l hi).up h1
theorem tur_0 {T : List sp_T} (h : T = []) : sp_turner T = some [] := by
  subst h
  rfl
theorem tur_s {T : List sp_T} (h : ¬ T = []) : sp_turner T = sp_lines 10 [] T := by
  cases T with
  | nil => exact absurd rfl h
  | cons t r => rfl
def PT (aw pl : Nat) (sp : Option (List sp_L)) (G' : eg_G) (v : Option Value) : Prop := (sp = none ∧ v = some (.int (Int32.ofNat 0))) ∨ ∃ ls, sp = some ls ∧ v = some (.int (Int32.ofNat 1)) ∧ et_pl (eg_at G' aw) 11900 = some (.int (Int32.ofNat ls.length)) ∧ ls.length ≤ 10 ∧ lnsP G' aw pl 400 ls
def P1 (aw pl : Nat) (sp : Option (sp_E → Bool)) (G' : eg_G) (v : Option Value) : Prop := (sp = none ∧ v = some (.int (Int32.ofNat 0))) ∨ ∃ f C, sp = some f ∧ v = some (.int (Int32.ofNat 1)) ∧ et_pl (eg_at G' aw) 11900 = some (.int (Int32.ofNat 1)) ∧ et_pl (eg_at G' aw) 11903 = some (.int (Int32.ofNat 0)) ∧ et_pl (eg_at G' aw) 11904 = some (.int (Int32.ofNat C.length)) ∧ hasC G' aw 0 C ∧ dnB pl f C
theorem PT.fr {S : Nat → Nat → Prop} {G G' : eg_G} {aw pl : Nat} {sp : Option (List sp_L)} {v : Option Value} (h : PT aw pl sp G v) (hx : xf S G G') (ha : aw < G.2) (hS : ∀ j, ¬ S aw j) : PT aw pl sp G' v := by
  rcases h with h | ⟨ls, h1, h2, h3, h4, h5⟩
  · exact .inl h
  · exact .inr ⟨ls, h1, h2, (hx.2 aw _ ha (hS _)).trans h3, h4, h5.fr h4 hx ha (fun j _ _ => hS j) (fun j _ _ => hS j)⟩
theorem P1.fr {S : Nat → Nat → Prop} {G G' : eg_G} {aw pl : Nat} {sp : Option (sp_E → Bool)} {v : Option Value} (h : P1 aw pl sp G v) (hx : xf S G G') (ha : aw < G.2) (hS : ∀ j, ¬ S aw j) : P1 aw pl sp G' v := by
  rcases h with h | ⟨f, C, h1, h2, h3, h4, h5, h6, h7⟩
  · exact .inl h
  · exact .inr ⟨f, C, h1, h2, (hx.2 aw _ ha (hS _)).trans h3, (hx.2 aw _ ha (hS _)).trans h4, (hx.2 aw _ ha (hS _)).trans h5, h6.fr hx ha (fun j _ _ => hS j), h7⟩

section FYA
variable {K : et_K} {G G0 : eg_G} {b : Nat → Nat} {d2 d am aw tm n p pl k dp m i : Nat}
theorem fl_lines {ls : List sp_L} {nf : Nat} (hH : et_H et_TT K G) (k_am : K am = some 13) (m4 : et_pl (eg_at G am) 4 = some (.ref tm)) (k_tm : K tm = some 34) (m7 : et_pl (eg_at G am) 7 = some (.int (Int32.ofNat n))) (hn : n ≤ 400) (ht : ∀ i, i < n → et_pl (eg_at G tm) i = some (.int (sx (b i)))) (hb : ∀ i, i < n → b i < 256) (m6 : et_pl (eg_at G am) 6 = some (.int (Int32.ofNat p))) (ha : tal b n p) (hpl : pl ≤ 2) (m13 : et_pl (eg_at G am) 13 = some (.int (Int32.ofNat pl))) (k_aw : K aw = some 46) (m1 : et_pl (eg_at G am) 1 = some (.ref aw)) (m12 : et_pl (eg_at G am) 12 = some (.int (Int32.ofNat k))) (hp1 : pl = 1) (hk : k + (tz_ts pl b n p).length ≤ 400) (hls : lnsP G aw pl k ls) (hl : ls.length = i) (hnf : nf + i = 10) (hd : 32 ≤ d) (hX : xf (fun c j => (c = am ∧ j = 6) ∨ (c = am ∧ j = 8) ∨ (c = am ∧ j = 9) ∨ (c = am ∧ j = 12) ∨ (c = aw ∧ 11900 ≤ j)) G0 G) : et_go none (d + 1) 183 30 [some (.ref am), some (.int (Int32.ofNat i))] [] G 0 0 (xw_Z (fun c j => (c = am ∧ j = 6) ∨ (c = am ∧ j = 8) ∨ (c = am ∧ j = 9) ∨ (c = am ∧ j = 12) ∨ (c = aw ∧ 11900 ≤ j)) K G0 (PT aw pl (sp_lines nf ls (tz_ts pl b n p)))) := by
  induction nf generalizing p k ls i G with
  | zero =>
    obtain rfl : i = 10 := by omega
    have hne : ¬ aw = am := hi_ne k_aw k_am (by decide)
    have lt_am := (hH.2.2 _ _ k_am).1
    have lt_tm := (hH.2.2 _ _ k_tm).1
    have lt_aw := (hH.2.2 _ _ k_aw).1
    refine hs_aload (i := 0) (p := 31) (by decide +kernel) rfl ?_
    refine hs_iload (i := 1) (p := 32) (by decide +kernel) rfl ?_
    refine ht_callv (T := et_TT) (t := 13) (mi := 187) (na := 1) (ci := 11) (lk := 2) (lm := 3) (L0 := eg_en (eg_mL 187) [.ref am, .int (Int32.ofNat 10)]) (by decide +kernel) rfl hH k_am rfl rfl rfl rfl rfl (by rw [show eg_mL 187 = 3 from by decide +kernel]; first | done | rfl) ?_
    refine (fr_line10 hH k_am m4 k_tm m7 hn ht hb m6 ha hpl m13 k_aw m1 m12 (by omega)).mono (fun u hu => xw_cb hu (fun G32 v32 hH x32 hP32 => ?_))
    have m4 := (x32.2 am 4 lt_am (fun h => Or.elim h (fun h => absurd h.2 (by decide)) (fun h => absurd h.2 (by decide)))).trans m4
    have m7 := (x32.2 am 7 lt_am (fun h => Or.elim h (fun h => absurd h.2 (by decide)) (fun h => absurd h.2 (by decide)))).trans m7
    have m13 := (x32.2 am 13 lt_am (fun h => Or.elim h (fun h => absurd h.2 (by decide)) (fun h => absurd h.2 (by decide)))).trans m13
    have m1 := (x32.2 am 1 lt_am (fun h => Or.elim h (fun h => absurd h.2 (by decide)) (fun h => absurd h.2 (by decide)))).trans m1
    have m12 := (x32.2 am 12 lt_am (fun h => Or.elim h (fun h => absurd h.2 (by decide)) (fun h => absurd h.2 (by decide)))).trans m12
    have ht : ∀ i, i < n → et_pl (eg_at G32 tm) i = some (.int (sx (b i))) := fun i hi => (x32.2 tm i lt_tm (fun h => Or.elim h (fun h => (hi_ne k_tm k_am (by decide)) h.1) (fun h => (hi_ne k_tm k_am (by decide)) h.1))).trans (ht i hi)
    have lt_am := Nat.lt_of_lt_of_le lt_am x32.1
    have lt_tm := Nat.lt_of_lt_of_le lt_tm x32.1
    have lt_aw := Nat.lt_of_lt_of_le lt_aw x32.1
    have hX := hX.tr x32 (fun b j hb h => by first | omega | (dsimp only at h ⊢; omega) | (dsimp only at h; omega) | (dsimp only; omega))
    obtain rfl := hP32
    show et_go none _ 183 35 _ [.int (Int32.ofNat 0)] _ _ _ _
    refine hs_if0 (c := .ne) (t := 40) (f := 38) (by decide +kernel) (show ¬ (¬ Int32.ofNat 0 = 0) by decide) ?_
    refine hs_k (x := Int32.ofNat 0) (p := 39) (by decide +kernel) ?_
    refine hs_zret (by decide +kernel) (.inl rfl) ?_
    exact ⟨_, _, rfl, hH, hX, .inl ⟨rfl, rfl⟩⟩
  | succ nf ih =>
    have hne : ¬ aw = am := hi_ne k_aw k_am (by decide)
    have lt_am := (hH.2.2 _ _ k_am).1
    have lt_tm := (hH.2.2 _ _ k_tm).1
    have lt_aw := (hH.2.2 _ _ k_aw).1
    refine hs_aload (i := 0) (p := 31) (by decide +kernel) rfl ?_
    refine hs_iload (i := 1) (p := 32) (by decide +kernel) rfl ?_
    refine ht_callv (T := et_TT) (t := 13) (mi := 187) (na := 1) (ci := 11) (lk := 2) (lm := 3) (L0 := eg_en (eg_mL 187) [.ref am, .int (Int32.ofNat i)]) (by decide +kernel) rfl hH k_am rfl rfl rfl rfl rfl (by rw [show eg_mL 187 = 3 from by decide +kernel]; first | done | rfl) ?_
    refine (fr_line (i := i) hH k_am m4 k_tm m7 hn ht hb m6 ha hpl m13 k_aw m1 m12 hp1 (by omega) (by omega) (by omega)).mono (fun u hu => xw_cb hu (fun G32 v32 hH x32 hP32 => ?_))
    have x32 : xf (fun c j => (c = am ∧ j = 6) ∨ (c = am ∧ j = 8) ∨ (c = am ∧ j = 9) ∨ (c = am ∧ j = 12) ∨ (c = aw ∧ ((11901 + 4 * i) ≤ j ∧ j ≤ (11904 + 4 * i))) ∨ (c = aw ∧ (11941 + 2 * k) ≤ j)) _ _ := x32
    have hls := hls.fr (by omega) x32 lt_aw (fun j h1 h2 hs => by first | omega | (dsimp only at hs h2; omega)) (fun j h1 h2 hs => by first | omega | (dsimp only at hs h2; omega))
    have m4 := (x32.2 am 4 lt_am (fun h => Or.elim h (fun h => absurd h.2 (by decide)) (fun h => Or.elim h (fun h => absurd h.2 (by decide)) (fun h => Or.elim h (fun h => absurd h.2 (by decide)) (fun h => Or.elim h (fun h => absurd h.2 (by decide)) (fun h => Or.elim h (fun h => (hi_ne k_am k_aw (by decide)) h.1) (fun h => (hi_ne k_am k_aw (by decide)) h.1))))))).trans m4
    have m7 := (x32.2 am 7 lt_am (fun h => Or.elim h (fun h => absurd h.2 (by decide)) (fun h => Or.elim h (fun h => absurd h.2 (by decide)) (fun h => Or.elim h (fun h => absurd h.2 (by decide)) (fun h => Or.elim h (fun h => absurd h.2 (by decide)) (fun h => Or.elim h (fun h => (hi_ne k_am k_aw (by decide)) h.1) (fun h => (hi_ne k_am k_aw (by decide)) h.1))))))).trans m7
    have m13 := (x32.2 am 13 lt_am (fun h => Or.elim h (fun h => absurd h.2 (by decide)) (fun h => Or.elim h (fun h => absurd h.2 (by decide)) (fun h => Or.elim h (fun h => absurd h.2 (by decide)) (fun h => Or.elim h (fun h => absurd h.2 (by decide)) (fun h => Or.elim h (fun h => (hi_ne k_am k_aw (by decide)) h.1) (fun h => (hi_ne k_am k_aw (by decide)) h.1))))))).trans m13
    have m1 := (x32.2 am 1 lt_am (fun h => Or.elim h (fun h => absurd h.2 (by decide)) (fun h => Or.elim h (fun h => absurd h.2 (by decide)) (fun h => Or.elim h (fun h => absurd h.2 (by decide)) (fun h => Or.elim h (fun h => absurd h.2 (by decide)) (fun h => Or.elim h (fun h => (hi_ne k_am k_aw (by decide)) h.1) (fun h => (hi_ne k_am k_aw (by decide)) h.1))))))).trans m1
    have ht : ∀ i, i < n → et_pl (eg_at G32 tm) i = some (.int (sx (b i))) := fun i hi => (x32.2 tm i lt_tm (fun h => Or.elim h (fun h => (hi_ne k_tm k_am (by decide)) h.1) (fun h => Or.elim h (fun h => (hi_ne k_tm k_am (by decide)) h.1) (fun h => Or.elim h (fun h => (hi_ne k_tm k_am (by decide)) h.1) (fun h => Or.elim h (fun h => (hi_ne k_tm k_am (by decide)) h.1) (fun h => Or.elim h (fun h => (hi_ne k_tm k_aw (by decide)) h.1) (fun h => (hi_ne k_tm k_aw (by decide)) h.1))))))).trans (ht i hi)
    have lt_am := Nat.lt_of_lt_of_le lt_am x32.1
    have lt_tm := Nat.lt_of_lt_of_le lt_tm x32.1
    have lt_aw := Nat.lt_of_lt_of_le lt_aw x32.1
    have hX := hX.tr x32 (fun b j hb h => by first | omega | (dsimp only at h ⊢; omega) | (dsimp only at h; omega) | (dsimp only; omega))
    rcases hP32 with ⟨sp32, rfl⟩ | ⟨l32, p32, k32, sp32, rfl, q6_32, ha32, q12_32, kk32, kl32, ln32⟩
    · show et_go none _ 183 35 _ [.int (Int32.ofNat 0)] _ _ _ _
      refine hs_if0 (c := .ne) (t := 40) (f := 38) (by decide +kernel) (show ¬ (¬ Int32.ofNat 0 = 0) by decide) ?_
      refine hs_k (x := Int32.ofNat 0) (p := 39) (by decide +kernel) ?_
      refine hs_zret (by decide +kernel) (.inl rfl) ?_
      exact ⟨_, _, rfl, hH, hX, .inl ⟨lns_0 sp32, rfl⟩⟩
    · have hls := (hls.up kk32).snoc hl ln32
      have hl2 : (ls ++ [l32]).length = i + 1 := by rw [List.length_append, hl]; rfl
      show et_go none _ 183 35 _ [.int (Int32.ofNat 1)] _ _ _ _
      refine hs_if1 (c := .ne) (t := 40) (f := 38) (by decide +kernel) (show ¬ Int32.ofNat 1 = 0 by decide) ?_
      refine hs_aload (i := 0) (p := 41) (by decide +kernel) rfl ?_
      refine hf_get (T := et_TT) (t := 13) (ci := 11) (f := 1) (p := 44) (by decide +kernel) rfl hH k_am m1 ?_
      refine hs_k (x := Int32.ofNat 14) (p := 46) (by decide +kernel) ?_
      refine hs_calls (mi := 186) (na := 1) (lk := 2) (lm := 1) (L0 := eg_en (eg_mL 186) [.int (Int32.ofNat 14)]) (by decide +kernel) rfl rfl rfl rfl rfl rfl (by rw [show eg_mL 186 = 1 from by decide +kernel]; first | done | rfl) ?_
      refine (fm_text).mono (fun u hu => xp_cb hu ?_)
      show et_go none _ 183 49 _ [.int (Int32.ofNat (126 + 841 * 14)), .ref aw] _ _ _ _
      refine hs_iload (i := 1) (p := 50) (by decide +kernel) rfl ?_
      refine hs_k (x := Int32.ofNat 1) (p := 51) (by decide +kernel) ?_
      refine hs_iaddn (p := 52) (by decide +kernel) ?_
      refine hf_wsd (p := 53) (by decide +kernel) hH k_aw (by omega) (by omega) (fun G52 hH x52 e52 => ?_)
      have hls := hls.fr (by omega) x52 lt_aw (fun j h1 h2 hs => by first | omega | (dsimp only at hs h2; omega)) (fun j h1 h2 hs => by first | omega | (dsimp only at hs h2; omega))
      have m4 := (x52.2 am 4 lt_am (fun h => (hi_ne k_am k_aw (by decide)) h.1)).trans m4
      have m7 := (x52.2 am 7 lt_am (fun h => (hi_ne k_am k_aw (by decide)) h.1)).trans m7
      have q6_32 := (x52.2 am 6 lt_am (fun h => (hi_ne k_am k_aw (by decide)) h.1)).trans q6_32
      have m13 := (x52.2 am 13 lt_am (fun h => (hi_ne k_am k_aw (by decide)) h.1)).trans m13
      have m1 := (x52.2 am 1 lt_am (fun h => (hi_ne k_am k_aw (by decide)) h.1)).trans m1
      have q12_32 := (x52.2 am 12 lt_am (fun h => (hi_ne k_am k_aw (by decide)) h.1)).trans q12_32
      have ht : ∀ i, i < n → et_pl (eg_at G52 tm) i = some (.int (sx (b i))) := fun i hi => (x52.2 tm i lt_tm (fun h => (hi_ne k_tm k_aw (by decide)) h.1)).trans (ht i hi)
      have lt_am := Nat.lt_of_lt_of_le lt_am x52.1
      have lt_tm := Nat.lt_of_lt_of_le lt_tm x52.1
      have lt_aw := Nat.lt_of_lt_of_le lt_aw x52.1
      have hX := hX.tr x52 (fun b j hb h => by first | omega | (dsimp only at h ⊢; omega) | (dsimp only at h; omega) | (dsimp only; omega))
      refine hs_aload (i := 0) (p := 54) (by decide +kernel) rfl ?_
      refine ht_callv (T := et_TT) (t := 13) (mi := 184) (na := 0) (ci := 11) (lk := 2) (lm := 1) (L0 := eg_en (eg_mL 184) [.ref am]) (by decide +kernel) rfl hH k_am rfl rfl rfl rfl rfl (by rw [show eg_mL 184 = 1 from by decide +kernel]; first | done | rfl) ?_
      refine (fm_bl hH k_am m4 k_tm m7 hn ht hb q6_32 ha32.1 (by omega)).mono (fun u hu => xw_cb hu (fun G54 v54 hH x54 hP54 => ?_))
      have hls := hls.fr (by omega) x54 lt_aw (fun j h1 h2 hs => by first | omega | (dsimp only at hs h2; omega)) (fun j h1 h2 hs => by first | omega | (dsimp only at hs h2; omega))
      have m4 := (x54.2 am 4 lt_am (fun h => Or.elim h (fun h => absurd h.2 (by decide)) (fun h => absurd h.2 (by decide)))).trans m4
      have m7 := (x54.2 am 7 lt_am (fun h => Or.elim h (fun h => absurd h.2 (by decide)) (fun h => absurd h.2 (by decide)))).trans m7
      have m13 := (x54.2 am 13 lt_am (fun h => Or.elim h (fun h => absurd h.2 (by decide)) (fun h => absurd h.2 (by decide)))).trans m13
      have m1 := (x54.2 am 1 lt_am (fun h => Or.elim h (fun h => absurd h.2 (by decide)) (fun h => absurd h.2 (by decide)))).trans m1
      have q12_32 := (x54.2 am 12 lt_am (fun h => Or.elim h (fun h => absurd h.2 (by decide)) (fun h => absurd h.2 (by decide)))).trans q12_32
      have e52 := (x54.2 aw (126 + 841 * 14) lt_aw (fun h => Or.elim h (fun h => hne h.1) (fun h => hne h.1))).trans e52
      have ht : ∀ i, i < n → et_pl (eg_at G54 tm) i = some (.int (sx (b i))) := fun i hi => (x54.2 tm i lt_tm (fun h => Or.elim h (fun h => (hi_ne k_tm k_am (by decide)) h.1) (fun h => (hi_ne k_tm k_am (by decide)) h.1))).trans (ht i hi)
      have lt_am := Nat.lt_of_lt_of_le lt_am x54.1
      have lt_tm := Nat.lt_of_lt_of_le lt_tm x54.1
      have lt_aw := Nat.lt_of_lt_of_le lt_aw x54.1
      have hX := hX.tr x54 (fun b j hb h => by first | omega | (dsimp only at h ⊢; omega) | (dsimp only at h; omega) | (dsimp only; omega))
      obtain ⟨rfl, q6_54, q8_54⟩ := hP54
      have hsk := skp_le (b := b) (n := n) (p := p32) ha32.1
      have tk54 := tok_al (pl := pl) ha32
      have tn54 := congrArg List.length tk54.2
      show et_go none _ 183 57 _ [] _ _ _ _
      refine hs_aload (i := 0) (p := 58) (by decide +kernel) rfl ?_
      refine hf_get (T := et_TT) (t := 13) (ci := 11) (f := 6) (p := 61) (by decide +kernel) rfl hH k_am q6_54 ?_
      refine hs_aload (i := 0) (p := 62) (by decide +kernel) rfl ?_
      refine hf_get (T := et_TT) (t := 13) (ci := 11) (f := 7) (p := 65) (by decide +kernel) rfl hH k_am m7 ?_
      refine hs_br2n (c := .ne) (t := 70) (f := 68) (by decide +kernel) (by omega) (by omega) (fun (c65 : ¬ (skp b n p32) = n) => ?_) (fun (c65 : ¬ (¬ (skp b n p32) = n)) => ?_)
      · refine hs_aload (i := 0) (p := 71) (by decide +kernel) rfl ?_
        refine hs_k (x := Int32.ofNat 59) (p := 73) (by decide +kernel) ?_
        refine hs_k (x := Int32.ofNat 59) (p := 75) (by decide +kernel) ?_
        refine ht_callv (T := et_TT) (t := 13) (mi := 185) (na := 2) (ci := 11) (lk := 2) (lm := 3) (L0 := eg_en (eg_mL 185) [.ref am, .int (Int32.ofNat 59), .int (Int32.ofNat 59)]) (by decide +kernel) rfl hH k_am rfl rfl rfl rfl rfl (by rw [show eg_mL 185 = 3 from by decide +kernel]; first | done | rfl) ?_
        refine (fm_isAt hH k_am m4 k_tm m7 hn ht hb q6_54 (by omega) (by decide) (by decide) (by decide)).mono (fun u hu => xp_cb hu ?_)
        by_cases a75 : (skp b n p32) < n ∧ 59 ≤ b (skp b n p32) ∧ b (skp b n p32) ≤ 59
        · rw [if_pos a75]
          show et_go none _ 183 78 _ [.int (Int32.ofNat 1)] _ _ _ _
          refine hs_if1 (c := .ne) (t := 83) (f := 81) (by decide +kernel) (show ¬ Int32.ofNat 1 = 0 by decide) ?_
          refine hs_aload (i := 0) (p := 84) (by decide +kernel) rfl ?_
          refine hs_dup1 (p := 85) (by decide +kernel) ?_
          refine hf_get (T := et_TT) (t := 13) (ci := 11) (f := 6) (p := 88) (by decide +kernel) rfl hH k_am q6_54 ?_
          refine hs_k (x := Int32.ofNat 1) (p := 89) (by decide +kernel) ?_
          refine hs_iaddn (p := 90) (by decide +kernel) ?_
          refine hf_put (T := et_TT) (t := 13) (ci := 11) (f := 6) (p := 93) (ty := .int) (by decide +kernel) rfl rfl rfl rfl rfl hH k_am (hi_nv (by omega) (by omega)) (fun G90 hH x90 e90 => ?_)
          have hls := hls.fr (by omega) x90 lt_aw (fun j h1 h2 hs => by first | omega | (dsimp only at hs h2; omega)) (fun j h1 h2 hs => by first | omega | (dsimp only at hs h2; omega))
          have m4 := (x90.2 am 4 lt_am (fun h => absurd h.2 (by decide))).trans m4
          have m7 := (x90.2 am 7 lt_am (fun h => absurd h.2 (by decide))).trans m7
          have m13 := (x90.2 am 13 lt_am (fun h => absurd h.2 (by decide))).trans m13
          have m1 := (x90.2 am 1 lt_am (fun h => absurd h.2 (by decide))).trans m1
          have q12_32 := (x90.2 am 12 lt_am (fun h => absurd h.2 (by decide))).trans q12_32
          have e52 := (x90.2 aw (126 + 841 * 14) lt_aw (fun h => hne h.1)).trans e52
          have q8_54 := (x90.2 am 8 lt_am (fun h => absurd h.2 (by decide))).trans q8_54
          have ht : ∀ i, i < n → et_pl (eg_at G90 tm) i = some (.int (sx (b i))) := fun i hi => (x90.2 tm i lt_tm (fun h => (hi_ne k_tm k_am (by decide)) h.1)).trans (ht i hi)
          have lt_am := Nat.lt_of_lt_of_le lt_am x90.1
          have lt_tm := Nat.lt_of_lt_of_le lt_tm x90.1
          have lt_aw := Nat.lt_of_lt_of_le lt_aw x90.1
          have hX := hX.tr x90 (fun b j hb h => by first | omega | (dsimp only at h ⊢; omega) | (dsimp only at h; omega) | (dsimp only; omega))
          refine hs_iinc1 (i := 1) (p := 96) (by decide +kernel) rfl (Nat.le_of_ble_eq_true rfl) ?_
          refine hs_goto (p := 30) (by decide +kernel) ?_
          have b59 : b (skp b n p32) = 59 := by omega
          have ty := tok_sy (pl := pl) (c := 59) ha32 (by decide +kernel) (by decide +kernel) ⟨a75.1, b59⟩
          have w32 := (tok_s hpl ha32 (show 32 < 33 by decide) (okp (by rw [hp1]; decide +kernel)) (show tz_tx 32 = [59] by decide +kernel) (by decide +kernel) (by decide +kernel)).mp ⟨a75.1, b59⟩
          have tyl := ty.2.2
          rw [lns_s sp32 w32, ← ty.2.1]
          exact ih hH m4 m7 ht e90 ty.1 m13 m1 q12_32 (by omega) hls hl2 (by omega) hX
        · rw [if_neg a75]
          show et_go none _ 183 78 _ [.int (Int32.ofNat 0)] _ _ _ _
          refine hs_if0 (c := .ne) (t := 83) (f := 81) (by decide +kernel) (show ¬ (¬ Int32.ofNat 0 = 0) by decide) ?_
          refine hs_k (x := Int32.ofNat 0) (p := 82) (by decide +kernel) ?_
          refine hs_zret (by decide +kernel) (.inl rfl) ?_
          exact ⟨_, _, rfl, hH, hX, .inl ⟨lns_x sp32 (fun h => absurd ((ts_end ha32).mp h) (by omega)) (fun h => a75 (by have h1 := (tok_s hpl ha32 (show 32 < 33 by decide) (okp (by rw [hp1]; decide +kernel)) (show tz_tx 32 = [59] by decide +kernel) (by decide +kernel) (by decide +kernel)).mpr h; exact ⟨h1.1, by omega, by omega⟩)), rfl⟩⟩
      · refine hs_k (x := Int32.ofNat 1) (p := 69) (by decide +kernel) ?_
        refine hs_zret (by decide +kernel) (.inr rfl) ?_
        have c65 : skp b n p32 = n := by omega
        exact ⟨_, _, rfl, hH, hX, .inr ⟨_, lns_e sp32 ((ts_end (pl := pl) ha32).mpr c65), rfl, pl_eq e52 (by omega) |>.trans (by rw [hl2]), (by omega), hls.up (by omega)⟩⟩
theorem fr_lines (hH : et_H et_TT K G) (k_am : K am = some 13) (m4 : et_pl (eg_at G am) 4 = some (.ref tm)) (k_tm : K tm = some 34) (m7 : et_pl (eg_at G am) 7 = some (.int (Int32.ofNat n))) (hn : n ≤ 400) (ht : ∀ i, i < n → et_pl (eg_at G tm) i = some (.int (sx (b i)))) (hb : ∀ i, i < n → b i < 256) (m6 : et_pl (eg_at G am) 6 = some (.int (Int32.ofNat p))) (ha : tal b n p) (hpl : pl ≤ 2) (m13 : et_pl (eg_at G am) 13 = some (.int (Int32.ofNat pl))) (k_aw : K aw = some 46) (m1 : et_pl (eg_at G am) 1 = some (.ref aw)) (m12 : et_pl (eg_at G am) 12 = some (.int (Int32.ofNat k))) (hp1 : pl = 1) (hk : k + (tz_ts pl b n p).length ≤ 400) (hd : 33 ≤ d2) : et_go none d2 183 0 (eg_en (eg_mL 183) [.ref am]) [] G 0 0 (xw_Z (fun c j => (c = am ∧ j = 6) ∨ (c = am ∧ j = 8) ∨ (c = am ∧ j = 9) ∨ (c = am ∧ j = 12) ∨ (c = aw ∧ 11900 ≤ j)) K G (PT aw pl (sp_turner (tz_ts pl b n p)))) := by
  obtain ⟨d, rfl⟩ : ∃ d, d2 = d + 1 := ⟨d2 - 1, by omega⟩
  rw [show eg_mL 183 = 2 from by decide +kernel]
  show et_go none (d + 1) 183 0 [some (.ref am), none] [] G 0 0 (xw_Z _ _ _ _)
  have hne : ¬ aw = am := hi_ne k_aw k_am (by decide)
  have lt_am := (hH.2.2 _ _ k_am).1
  have lt_tm := (hH.2.2 _ _ k_tm).1
  have lt_aw := (hH.2.2 _ _ k_aw).1
  have hX : xf (fun c j => (c = am ∧ j = 6) ∨ (c = am ∧ j = 8) ∨ (c = am ∧ j = 9) ∨ (c = am ∧ j = 12) ∨ (c = aw ∧ 11900 ≤ j)) G G := xf.rf
  refine hs_aload (i := 0) (p := 1) (by decide +kernel) rfl ?_
  refine ht_callv (T := et_TT) (t := 13) (mi := 184) (na := 0) (ci := 11) (lk := 2) (lm := 1) (L0 := eg_en (eg_mL 184) [.ref am]) (by decide +kernel) rfl hH k_am rfl rfl rfl rfl rfl (by rw [show eg_mL 184 = 1 from by decide +kernel]; first | done | rfl) ?_
  refine (fm_bl hH k_am m4 k_tm m7 hn ht hb m6 ha.1 (by omega)).mono (fun u hu => xw_cb hu (fun G1 v1 hH x1 hP1 => ?_))
  have m4 := (x1.2 am 4 lt_am (fun h => Or.elim h (fun h => absurd h.2 (by decide)) (fun h => absurd h.2 (by decide)))).trans m4
  have m7 := (x1.2 am 7 lt_am (fun h => Or.elim h (fun h => absurd h.2 (by decide)) (fun h => absurd h.2 (by decide)))).trans m7
  have m13 := (x1.2 am 13 lt_am (fun h => Or.elim h (fun h => absurd h.2 (by decide)) (fun h => absurd h.2 (by decide)))).trans m13
  have m1 := (x1.2 am 1 lt_am (fun h => Or.elim h (fun h => absurd h.2 (by decide)) (fun h => absurd h.2 (by decide)))).trans m1
  have m12 := (x1.2 am 12 lt_am (fun h => Or.elim h (fun h => absurd h.2 (by decide)) (fun h => absurd h.2 (by decide)))).trans m12
  have ht : ∀ i, i < n → et_pl (eg_at G1 tm) i = some (.int (sx (b i))) := fun i hi => (x1.2 tm i lt_tm (fun h => Or.elim h (fun h => (hi_ne k_tm k_am (by decide)) h.1) (fun h => (hi_ne k_tm k_am (by decide)) h.1))).trans (ht i hi)
  have lt_am := Nat.lt_of_lt_of_le lt_am x1.1
  have lt_tm := Nat.lt_of_lt_of_le lt_tm x1.1
  have lt_aw := Nat.lt_of_lt_of_le lt_aw x1.1
  have hX := hX.tr x1 (fun b j hb h => by first | omega | (dsimp only at h ⊢; omega) | (dsimp only at h; omega) | (dsimp only; omega))
  obtain ⟨rfl, q6_1, q8_1⟩ := hP1
  have hsk := skp_le (b := b) (n := n) (p := p) ha.1
  have tk1 := tok_al (pl := pl) ha
  have tn1 := congrArg List.length tk1.2
  show et_go none _ 183 4 _ [] _ _ _ _
  refine hs_aload (i := 0) (p := 5) (by decide +kernel) rfl ?_
  refine hf_get (T := et_TT) (t := 13) (ci := 11) (f := 1) (p := 8) (by decide +kernel) rfl hH k_am m1 ?_
  refine hs_k (x := Int32.ofNat 14) (p := 10) (by decide +kernel) ?_
  refine hs_calls (mi := 186) (na := 1) (lk := 2) (lm := 1) (L0 := eg_en (eg_mL 186) [.int (Int32.ofNat 14)]) (by decide +kernel) rfl rfl rfl rfl rfl rfl (by rw [show eg_mL 186 = 1 from by decide +kernel]; first | done | rfl) ?_
  refine (fm_text).mono (fun u hu => xp_cb hu ?_)
  show et_go none _ 183 13 _ [.int (Int32.ofNat (126 + 841 * 14)), .ref aw] _ _ _ _
  refine hs_k (x := Int32.ofNat 0) (p := 14) (by decide +kernel) ?_
  refine hf_wsd (p := 15) (by decide +kernel) hH k_aw (by omega) (by omega) (fun G14 hH x14 e14 => ?_)
  have m4 := (x14.2 am 4 lt_am (fun h => (hi_ne k_am k_aw (by decide)) h.1)).trans m4
  have m7 := (x14.2 am 7 lt_am (fun h => (hi_ne k_am k_aw (by decide)) h.1)).trans m7
  have q6_1 := (x14.2 am 6 lt_am (fun h => (hi_ne k_am k_aw (by decide)) h.1)).trans q6_1
  have m13 := (x14.2 am 13 lt_am (fun h => (hi_ne k_am k_aw (by decide)) h.1)).trans m13
  have m1 := (x14.2 am 1 lt_am (fun h => (hi_ne k_am k_aw (by decide)) h.1)).trans m1
  have m12 := (x14.2 am 12 lt_am (fun h => (hi_ne k_am k_aw (by decide)) h.1)).trans m12
  have q8_1 := (x14.2 am 8 lt_am (fun h => (hi_ne k_am k_aw (by decide)) h.1)).trans q8_1
  have ht : ∀ i, i < n → et_pl (eg_at G14 tm) i = some (.int (sx (b i))) := fun i hi => (x14.2 tm i lt_tm (fun h => (hi_ne k_tm k_aw (by decide)) h.1)).trans (ht i hi)
  have lt_am := Nat.lt_of_lt_of_le lt_am x14.1
  have lt_tm := Nat.lt_of_lt_of_le lt_tm x14.1
  have lt_aw := Nat.lt_of_lt_of_le lt_aw x14.1
  have hX := hX.tr x14 (fun b j hb h => by first | omega | (dsimp only at h ⊢; omega) | (dsimp only at h; omega) | (dsimp only; omega))
  refine hs_aload (i := 0) (p := 16) (by decide +kernel) rfl ?_
  refine hf_get (T := et_TT) (t := 13) (ci := 11) (f := 6) (p := 19) (by decide +kernel) rfl hH k_am q6_1 ?_
  refine hs_aload (i := 0) (p := 20) (by decide +kernel) rfl ?_
  refine hf_get (T := et_TT) (t := 13) (ci := 11) (f := 7) (p := 23) (by decide +kernel) rfl hH k_am m7 ?_
  refine hs_br2n (c := .ne) (t := 28) (f := 26) (by decide +kernel) (by omega) (by omega) (fun (c23 : ¬ (skp b n p) = n) => ?_) (fun (c23 : ¬ (¬ (skp b n p) = n)) => ?_)
  · refine hs_k (x := Int32.ofNat 0) (p := 29) (by decide +kernel) ?_
    refine hs_istore (i := 1) (p := 30) (by decide +kernel) (Nat.le_of_ble_eq_true rfl) ?_
    rw [tur_s (fun h => absurd ((ts_end ha).mp h) (by omega)), ← tk1.2]
    exact fl_lines (ls := []) (i := 0) (nf := 10) hH k_am m4 k_tm m7 hn ht hb q6_1 tk1.1 hpl m13 k_aw m1 m12 hp1 (by omega) (fun i l h => by cases h) rfl rfl (by omega) hX
  · refine hs_k (x := Int32.ofNat 1) (p := 27) (by decide +kernel) ?_
    refine hs_zret (by decide +kernel) (.inr rfl) ?_
    have c23 : skp b n p = n := by omega
    exact ⟨_, _, rfl, hH, hX, .inr ⟨[], tur_0 ((ts_end (pl := pl) ha).mpr c23), rfl, pl_eq e14 (by omega), (by decide), fun i l h => by cases h⟩⟩
theorem fr_reads_one (hH : et_H et_TT K G) (k_am : K am = some 13) (m4 : et_pl (eg_at G am) 4 = some (.ref tm)) (k_tm : K tm = some 34) (m7 : et_pl (eg_at G am) 7 = some (.int (Int32.ofNat n))) (hn : n ≤ 400) (ht : ∀ i, i < n → et_pl (eg_at G tm) i = some (.int (sx (b i)))) (hb : ∀ i, i < n → b i < 256) (m6 : et_pl (eg_at G am) 6 = some (.int (Int32.ofNat p))) (ha : tal b n p) (hpl : pl ≤ 2) (k_aw : K aw = some 46) (m1 : et_pl (eg_at G am) 1 = some (.ref aw)) (m12 : et_pl (eg_at G am) 12 = some (.int (Int32.ofNat k))) (hk0 : k = 0) (hp1 : ¬ pl = 1) (hd : 34 ≤ d2) : et_go none d2 182 0 (eg_en (eg_mL 182) [.ref am, .int (Int32.ofNat pl)]) [] G 0 0 (xw_Z (fun c j => (c = am ∧ j = 6) ∨ (c = am ∧ (8 ≤ j ∧ j ≤ 10)) ∨ (c = am ∧ (12 ≤ j ∧ j ≤ 13)) ∨ (c = aw ∧ 11900 ≤ j)) K G (P1 aw pl (sp_one (tz_ts pl b n p)))) := by
  have htn := ts_len (b := b) (pl := pl) (n := n) (p := p)
  obtain ⟨d, rfl⟩ : ∃ d, d2 = d + 34 := ⟨d2 - 34, by omega⟩
  rw [show eg_mL 182 = 3 from by decide +kernel]
  show et_go none (d + 34) 182 0 [some (.ref am), some (.int (Int32.ofNat pl)), none] [] G 0 0 (xw_Z _ _ _ _)
  have hne : ¬ aw = am := hi_ne k_aw k_am (by decide)
  have lt_am := (hH.2.2 _ _ k_am).1
  have lt_tm := (hH.2.2 _ _ k_tm).1
  have lt_aw := (hH.2.2 _ _ k_aw).1
  have hX : xf (fun c j => (c = am ∧ j = 6) ∨ (c = am ∧ (8 ≤ j ∧ j ≤ 10)) ∨ (c = am ∧ (12 ≤ j ∧ j ≤ 13)) ∨ (c = aw ∧ 11900 ≤ j)) G G := xf.rf
  refine hs_aload (i := 0) (p := 1) (by decide +kernel) rfl ?_
  refine hs_iload (i := 1) (p := 2) (by decide +kernel) rfl ?_
  refine hf_put (T := et_TT) (t := 13) (ci := 11) (f := 13) (p := 5) (ty := .int) (by decide +kernel) rfl rfl rfl rfl rfl hH k_am hi_any (fun G2 hH x2 e2 => ?_)
  have m4 := (x2.2 am 4 lt_am (fun h => absurd h.2 (by decide))).trans m4
  have m7 := (x2.2 am 7 lt_am (fun h => absurd h.2 (by decide))).trans m7
  have m6 := (x2.2 am 6 lt_am (fun h => absurd h.2 (by decide))).trans m6
  have m1 := (x2.2 am 1 lt_am (fun h => absurd h.2 (by decide))).trans m1
  have m12 := (x2.2 am 12 lt_am (fun h => absurd h.2 (by decide))).trans m12
  have ht : ∀ i, i < n → et_pl (eg_at G2 tm) i = some (.int (sx (b i))) := fun i hi => (x2.2 tm i lt_tm (fun h => (hi_ne k_tm k_am (by decide)) h.1)).trans (ht i hi)
  have lt_am := Nat.lt_of_lt_of_le lt_am x2.1
  have lt_tm := Nat.lt_of_lt_of_le lt_tm x2.1
  have lt_aw := Nat.lt_of_lt_of_le lt_aw x2.1
  have hX := hX.tr x2 (fun b j hb h => by first | omega | (dsimp only at h ⊢; omega) | (dsimp only at h; omega) | (dsimp only; omega))
  refine hs_iload (i := 1) (p := 6) (by decide +kernel) rfl ?_
  refine hs_k (x := Int32.ofNat 1) (p := 7) (by decide +kernel) ?_
  refine hs_br2n (c := .ne) (t := 17) (f := 10) (by decide +kernel) (by omega) (by omega) (fun (c7 : ¬ pl = 1) => ?_) (fun (c7 : ¬ (¬ pl = 1)) => ?_)
  · refine hs_aload (i := 0) (p := 18) (by decide +kernel) rfl ?_
    refine ht_callv (T := et_TT) (t := 13) (mi := 203) (na := 0) (ci := 11) (lk := 3) (lm := 2) (L0 := eg_en (eg_mL 203) [.ref am]) (by decide +kernel) rfl hH k_am rfl rfl rfl rfl rfl (by rw [show eg_mL 203 = 2 from by decide +kernel]; first | done | rfl) ?_
    refine (fr_one hH k_am m4 k_tm m7 hn ht hb m6 ha hpl e2 k_aw m1 m12 hk0 (by omega)).mono (fun u hu => xw_cb hu (fun G18 v18 hH x18 hP18 => ?_))
    have x18 : xf (fun c j => (c = am ∧ j = 6) ∨ (c = am ∧ j = 8) ∨ (c = am ∧ j = 9) ∨ (c = am ∧ j = 12) ∨ (c = aw ∧ 11900 ≤ j)) _ _ := x18
    have m4 := (x18.2 am 4 lt_am (fun h => Or.elim h (fun h => absurd h.2 (by decide)) (fun h => Or.elim h (fun h => absurd h.2 (by decide)) (fun h => Or.elim h (fun h => absurd h.2 (by decide)) (fun h => Or.elim h (fun h => absurd h.2 (by decide)) (fun h => (hi_ne k_am k_aw (by decide)) h.1)))))).trans m4
    have m7 := (x18.2 am 7 lt_am (fun h => Or.elim h (fun h => absurd h.2 (by decide)) (fun h => Or.elim h (fun h => absurd h.2 (by decide)) (fun h => Or.elim h (fun h => absurd h.2 (by decide)) (fun h => Or.elim h (fun h => absurd h.2 (by decide)) (fun h => (hi_ne k_am k_aw (by decide)) h.1)))))).trans m7
    have m1 := (x18.2 am 1 lt_am (fun h => Or.elim h (fun h => absurd h.2 (by decide)) (fun h => Or.elim h (fun h => absurd h.2 (by decide)) (fun h => Or.elim h (fun h => absurd h.2 (by decide)) (fun h => Or.elim h (fun h => absurd h.2 (by decide)) (fun h => (hi_ne k_am k_aw (by decide)) h.1)))))).trans m1
    have e2 := (x18.2 am 13 lt_am (fun h => Or.elim h (fun h => absurd h.2 (by decide)) (fun h => Or.elim h (fun h => absurd h.2 (by decide)) (fun h => Or.elim h (fun h => absurd h.2 (by decide)) (fun h => Or.elim h (fun h => absurd h.2 (by decide)) (fun h => (hi_ne k_am k_aw (by decide)) h.1)))))).trans e2
    have ht : ∀ i, i < n → et_pl (eg_at G18 tm) i = some (.int (sx (b i))) := fun i hi => (x18.2 tm i lt_tm (fun h => Or.elim h (fun h => (hi_ne k_tm k_am (by decide)) h.1) (fun h => Or.elim h (fun h => (hi_ne k_tm k_am (by decide)) h.1) (fun h => Or.elim h (fun h => (hi_ne k_tm k_am (by decide)) h.1) (fun h => Or.elim h (fun h => (hi_ne k_tm k_am (by decide)) h.1) (fun h => (hi_ne k_tm k_aw (by decide)) h.1)))))).trans (ht i hi)
    have lt_am := Nat.lt_of_lt_of_le lt_am x18.1
    have lt_tm := Nat.lt_of_lt_of_le lt_tm x18.1
    have lt_aw := Nat.lt_of_lt_of_le lt_aw x18.1
    have hX := hX.tr x18 (fun b j hb h => by first | omega | (dsimp only at h ⊢; omega) | (dsimp only at h; omega) | (dsimp only; omega))
    rcases hP18 with ⟨sq, rfl⟩ | ⟨f_, C_, sq, rfl, g1, g2, g3, g4, g5⟩
    · have hP : P1 aw pl (sp_one (tz_ts pl b n p)) G18 (some (.int (Int32.ofNat 0))) := .inl ⟨sq, rfl⟩
      show et_go none _ 182 21 _ [.int (Int32.ofNat 0)] _ _ _ _
      refine hs_istore (i := 2) (p := 22) (by decide +kernel) (Nat.le_of_ble_eq_true rfl) ?_
      refine hs_aload (i := 0) (p := 23) (by decide +kernel) rfl ?_
      refine hs_iload (i := 2) (p := 24) (by decide +kernel) rfl ?_
      refine hs_if1 (c := .eq) (t := 31) (f := 27) (by decide +kernel) (show Int32.ofNat 0 = 0 by decide) ?_
      refine hs_aload (i := 0) (p := 32) (by decide +kernel) rfl ?_
      refine ht_getn (T := et_TT) (t := 13) (ci := 11) (f := 8) (p := 35) (by decide +kernel) rfl rfl hH k_am (fun c32 h32 e32 => ?_)
      refine hf_put (T := et_TT) (t := 13) (ci := 11) (f := 10) (p := 38) (ty := .int) (by decide +kernel) rfl rfl rfl rfl rfl hH k_am hi_any (fun G35 hH x35 e35 => ?_)
      have hP := hP.fr x35 lt_aw (fun j hs => hne hs.1)
      have m4 := (x35.2 am 4 lt_am (fun h => absurd h.2 (by decide))).trans m4
      have m7 := (x35.2 am 7 lt_am (fun h => absurd h.2 (by decide))).trans m7
      have m1 := (x35.2 am 1 lt_am (fun h => absurd h.2 (by decide))).trans m1
      have e2 := (x35.2 am 13 lt_am (fun h => absurd h.2 (by decide))).trans e2
      have e32 := (x35.2 am 8 lt_am (fun h => absurd h.2 (by decide))).trans e32
      have ht : ∀ i, i < n → et_pl (eg_at G35 tm) i = some (.int (sx (b i))) := fun i hi => (x35.2 tm i lt_tm (fun h => (hi_ne k_tm k_am (by decide)) h.1)).trans (ht i hi)
      have lt_am := Nat.lt_of_lt_of_le lt_am x35.1
      have lt_tm := Nat.lt_of_lt_of_le lt_tm x35.1
      have lt_aw := Nat.lt_of_lt_of_le lt_aw x35.1
      have hX := hX.tr x35 (fun b j hb h => by first | omega | (dsimp only at h ⊢; omega) | (dsimp only at h; omega) | (dsimp only; omega))
      refine hs_iload (i := 2) (p := 39) (by decide +kernel) rfl ?_
      refine hs_zret (by decide +kernel) (.inl rfl) ?_
      exact ⟨_, _, rfl, hH, hX, hP⟩
    · have hP : P1 aw pl (sp_one (tz_ts pl b n p)) G18 (some (.int (Int32.ofNat 1))) := .inr ⟨f_, C_, sq, rfl, g1, g2, g3, g4, g5⟩
      show et_go none _ 182 21 _ [.int (Int32.ofNat 1)] _ _ _ _
      refine hs_istore (i := 2) (p := 22) (by decide +kernel) (Nat.le_of_ble_eq_true rfl) ?_
      refine hs_aload (i := 0) (p := 23) (by decide +kernel) rfl ?_
      refine hs_iload (i := 2) (p := 24) (by decide +kernel) rfl ?_
      refine hs_if0 (c := .eq) (t := 31) (f := 27) (by decide +kernel) (show ¬ (Int32.ofNat 1 = 0) by decide) ?_
      refine hs_k (x := (-1)) (p := 28) (by decide +kernel) ?_
      refine hs_goto (p := 35) (by decide +kernel) ?_
      refine hf_put (T := et_TT) (t := 13) (ci := 11) (f := 10) (p := 38) (ty := .int) (by decide +kernel) rfl rfl rfl rfl rfl hH k_am (hi_iv (by decide) (by decide)) (fun G35 hH x35 e35 => ?_)
      have hP := hP.fr x35 lt_aw (fun j hs => hne hs.1)
      have m4 := (x35.2 am 4 lt_am (fun h => absurd h.2 (by decide))).trans m4
      have m7 := (x35.2 am 7 lt_am (fun h => absurd h.2 (by decide))).trans m7
      have m1 := (x35.2 am 1 lt_am (fun h => absurd h.2 (by decide))).trans m1
      have e2 := (x35.2 am 13 lt_am (fun h => absurd h.2 (by decide))).trans e2
      have ht : ∀ i, i < n → et_pl (eg_at G35 tm) i = some (.int (sx (b i))) := fun i hi => (x35.2 tm i lt_tm (fun h => (hi_ne k_tm k_am (by decide)) h.1)).trans (ht i hi)
      have lt_am := Nat.lt_of_lt_of_le lt_am x35.1
      have lt_tm := Nat.lt_of_lt_of_le lt_tm x35.1
      have lt_aw := Nat.lt_of_lt_of_le lt_aw x35.1
      have hX := hX.tr x35 (fun b j hb h => by first | omega | (dsimp only at h ⊢; omega) | (dsimp only at h; omega) | (dsimp only; omega))
      refine hs_iload (i := 2) (p := 39) (by decide +kernel) rfl ?_
      refine hs_zret (by decide +kernel) (.inr rfl) ?_
      exact ⟨_, _, rfl, hH, hX, hP⟩
  · exact absurd (Decidable.of_not_not c7) hp1
theorem fr_reads_tur (hH : et_H et_TT K G) (k_am : K am = some 13) (m4 : et_pl (eg_at G am) 4 = some (.ref tm)) (k_tm : K tm = some 34) (m7 : et_pl (eg_at G am) 7 = some (.int (Int32.ofNat n))) (hn : n ≤ 400) (ht : ∀ i, i < n → et_pl (eg_at G tm) i = some (.int (sx (b i)))) (hb : ∀ i, i < n → b i < 256) (m6 : et_pl (eg_at G am) 6 = some (.int (Int32.ofNat p))) (ha : tal b n p) (hpl : pl ≤ 2) (k_aw : K aw = some 46) (m1 : et_pl (eg_at G am) 1 = some (.ref aw)) (m12 : et_pl (eg_at G am) 12 = some (.int (Int32.ofNat k))) (hk0 : k = 0) (hp1 : pl = 1) (hd : 34 ≤ d2) : et_go none d2 182 0 (eg_en (eg_mL 182) [.ref am, .int (Int32.ofNat pl)]) [] G 0 0 (xw_Z (fun c j => (c = am ∧ j = 6) ∨ (c = am ∧ (8 ≤ j ∧ j ≤ 10)) ∨ (c = am ∧ (12 ≤ j ∧ j ≤ 13)) ∨ (c = aw ∧ 11900 ≤ j)) K G (PT aw pl (sp_turner (tz_ts pl b n p)))) := by
  have htn := ts_len (b := b) (pl := pl) (n := n) (p := p)
  obtain ⟨d, rfl⟩ : ∃ d, d2 = d + 34 := ⟨d2 - 34, by omega⟩
  rw [show eg_mL 182 = 3 from by decide +kernel]
  show et_go none (d + 34) 182 0 [some (.ref am), some (.int (Int32.ofNat pl)), none] [] G 0 0 (xw_Z _ _ _ _)
  have hne : ¬ aw = am := hi_ne k_aw k_am (by decide)
  have lt_am := (hH.2.2 _ _ k_am).1
  have lt_tm := (hH.2.2 _ _ k_tm).1
  have lt_aw := (hH.2.2 _ _ k_aw).1
  have hX : xf (fun c j => (c = am ∧ j = 6) ∨ (c = am ∧ (8 ≤ j ∧ j ≤ 10)) ∨ (c = am ∧ (12 ≤ j ∧ j ≤ 13)) ∨ (c = aw ∧ 11900 ≤ j)) G G := xf.rf
  refine hs_aload (i := 0) (p := 1) (by decide +kernel) rfl ?_
  refine hs_iload (i := 1) (p := 2) (by decide +kernel) rfl ?_
  refine hf_put (T := et_TT) (t := 13) (ci := 11) (f := 13) (p := 5) (ty := .int) (by decide +kernel) rfl rfl rfl rfl rfl hH k_am hi_any (fun G2 hH x2 e2 => ?_)
  have m4 := (x2.2 am 4 lt_am (fun h => absurd h.2 (by decide))).trans m4
  have m7 := (x2.2 am 7 lt_am (fun h => absurd h.2 (by decide))).trans m7
  have m6 := (x2.2 am 6 lt_am (fun h => absurd h.2 (by decide))).trans m6
  have m1 := (x2.2 am 1 lt_am (fun h => absurd h.2 (by decide))).trans m1
  have m12 := (x2.2 am 12 lt_am (fun h => absurd h.2 (by decide))).trans m12
  have ht : ∀ i, i < n → et_pl (eg_at G2 tm) i = some (.int (sx (b i))) := fun i hi => (x2.2 tm i lt_tm (fun h => (hi_ne k_tm k_am (by decide)) h.1)).trans (ht i hi)
  have lt_am := Nat.lt_of_lt_of_le lt_am x2.1
  have lt_tm := Nat.lt_of_lt_of_le lt_tm x2.1
  have lt_aw := Nat.lt_of_lt_of_le lt_aw x2.1
  have hX := hX.tr x2 (fun b j hb h => by first | omega | (dsimp only at h ⊢; omega) | (dsimp only at h; omega) | (dsimp only; omega))
  refine hs_iload (i := 1) (p := 6) (by decide +kernel) rfl ?_
  refine hs_k (x := Int32.ofNat 1) (p := 7) (by decide +kernel) ?_
  refine hs_br2n (c := .ne) (t := 17) (f := 10) (by decide +kernel) (by omega) (by omega) (fun (c7 : ¬ pl = 1) => ?_) (fun (c7 : ¬ (¬ pl = 1)) => ?_)
  · exact absurd hp1 c7
  · refine hs_aload (i := 0) (p := 11) (by decide +kernel) rfl ?_
    refine ht_callv (T := et_TT) (t := 13) (mi := 183) (na := 0) (ci := 11) (lk := 3) (lm := 2) (L0 := eg_en (eg_mL 183) [.ref am]) (by decide +kernel) rfl hH k_am rfl rfl rfl rfl rfl (by rw [show eg_mL 183 = 2 from by decide +kernel]; first | done | rfl) ?_
    refine (fr_lines hH k_am m4 k_tm m7 hn ht hb m6 ha hpl e2 k_aw m1 m12 hp1 (by omega) (by omega)).mono (fun u hu => xw_cb hu (fun G11 v11 hH x11 hP11 => ?_))
    have x11 : xf (fun c j => (c = am ∧ j = 6) ∨ (c = am ∧ j = 8) ∨ (c = am ∧ j = 9) ∨ (c = am ∧ j = 12) ∨ (c = aw ∧ 11900 ≤ j)) _ _ := x11
    have m4 := (x11.2 am 4 lt_am (fun h => Or.elim h (fun h => absurd h.2 (by decide)) (fun h => Or.elim h (fun h => absurd h.2 (by decide)) (fun h => Or.elim h (fun h => absurd h.2 (by decide)) (fun h => Or.elim h (fun h => absurd h.2 (by decide)) (fun h => (hi_ne k_am k_aw (by decide)) h.1)))))).trans m4
    have m7 := (x11.2 am 7 lt_am (fun h => Or.elim h (fun h => absurd h.2 (by decide)) (fun h => Or.elim h (fun h => absurd h.2 (by decide)) (fun h => Or.elim h (fun h => absurd h.2 (by decide)) (fun h => Or.elim h (fun h => absurd h.2 (by decide)) (fun h => (hi_ne k_am k_aw (by decide)) h.1)))))).trans m7
    have m1 := (x11.2 am 1 lt_am (fun h => Or.elim h (fun h => absurd h.2 (by decide)) (fun h => Or.elim h (fun h => absurd h.2 (by decide)) (fun h => Or.elim h (fun h => absurd h.2 (by decide)) (fun h => Or.elim h (fun h => absurd h.2 (by decide)) (fun h => (hi_ne k_am k_aw (by decide)) h.1)))))).trans m1
    have e2 := (x11.2 am 13 lt_am (fun h => Or.elim h (fun h => absurd h.2 (by decide)) (fun h => Or.elim h (fun h => absurd h.2 (by decide)) (fun h => Or.elim h (fun h => absurd h.2 (by decide)) (fun h => Or.elim h (fun h => absurd h.2 (by decide)) (fun h => (hi_ne k_am k_aw (by decide)) h.1)))))).trans e2
    have ht : ∀ i, i < n → et_pl (eg_at G11 tm) i = some (.int (sx (b i))) := fun i hi => (x11.2 tm i lt_tm (fun h => Or.elim h (fun h => (hi_ne k_tm k_am (by decide)) h.1) (fun h => Or.elim h (fun h => (hi_ne k_tm k_am (by decide)) h.1) (fun h => Or.elim h (fun h => (hi_ne k_tm k_am (by decide)) h.1) (fun h => Or.elim h (fun h => (hi_ne k_tm k_am (by decide)) h.1) (fun h => (hi_ne k_tm k_aw (by decide)) h.1)))))).trans (ht i hi)
    have lt_am := Nat.lt_of_lt_of_le lt_am x11.1
    have lt_tm := Nat.lt_of_lt_of_le lt_tm x11.1
    have lt_aw := Nat.lt_of_lt_of_le lt_aw x11.1
    have hX := hX.tr x11 (fun b j hb h => by first | omega | (dsimp only at h ⊢; omega) | (dsimp only at h; omega) | (dsimp only; omega))
    rcases hP11 with ⟨sq, rfl⟩ | ⟨ls_, sq, rfl, g1, g2, g3⟩
    · have hP : PT aw pl (sp_turner (tz_ts pl b n p)) G11 (some (.int (Int32.ofNat 0))) := .inl ⟨sq, rfl⟩
      show et_go none _ 182 14 _ [.int (Int32.ofNat 0)] _ _ _ _
      refine hs_goto (p := 21) (by decide +kernel) ?_
      refine hs_istore (i := 2) (p := 22) (by decide +kernel) (Nat.le_of_ble_eq_true rfl) ?_
      refine hs_aload (i := 0) (p := 23) (by decide +kernel) rfl ?_
      refine hs_iload (i := 2) (p := 24) (by decide +kernel) rfl ?_
      refine hs_if1 (c := .eq) (t := 31) (f := 27) (by decide +kernel) (show Int32.ofNat 0 = 0 by decide) ?_
      refine hs_aload (i := 0) (p := 32) (by decide +kernel) rfl ?_
      refine ht_getn (T := et_TT) (t := 13) (ci := 11) (f := 8) (p := 35) (by decide +kernel) rfl rfl hH k_am (fun c32 h32 e32 => ?_)
      refine hf_put (T := et_TT) (t := 13) (ci := 11) (f := 10) (p := 38) (ty := .int) (by decide +kernel) rfl rfl rfl rfl rfl hH k_am hi_any (fun G35 hH x35 e35 => ?_)
      have hP := hP.fr x35 lt_aw (fun j hs => hne hs.1)
      have m4 := (x35.2 am 4 lt_am (fun h => absurd h.2 (by decide))).trans m4
      have m7 := (x35.2 am 7 lt_am (fun h => absurd h.2 (by decide))).trans m7
      have m1 := (x35.2 am 1 lt_am (fun h => absurd h.2 (by decide))).trans m1
      have e2 := (x35.2 am 13 lt_am (fun h => absurd h.2 (by decide))).trans e2
      have e32 := (x35.2 am 8 lt_am (fun h => absurd h.2 (by decide))).trans e32
      have ht : ∀ i, i < n → et_pl (eg_at G35 tm) i = some (.int (sx (b i))) := fun i hi => (x35.2 tm i lt_tm (fun h => (hi_ne k_tm k_am (by decide)) h.1)).trans (ht i hi)
      have lt_am := Nat.lt_of_lt_of_le lt_am x35.1
      have lt_tm := Nat.lt_of_lt_of_le lt_tm x35.1
      have lt_aw := Nat.lt_of_lt_of_le lt_aw x35.1
      have hX := hX.tr x35 (fun b j hb h => by first | omega | (dsimp only at h ⊢; omega) | (dsimp only at h; omega) | (dsimp only; omega))
      refine hs_iload (i := 2) (p := 39) (by decide +kernel) rfl ?_
      refine hs_zret (by decide +kernel) (.inl rfl) ?_
      exact ⟨_, _, rfl, hH, hX, hP⟩
    · have hP : PT aw pl (sp_turner (tz_ts pl b n p)) G11 (some (.int (Int32.ofNat 1))) := .inr ⟨ls_, sq, rfl, g1, g2, g3⟩
      show et_go none _ 182 14 _ [.int (Int32.ofNat 1)] _ _ _ _
      refine hs_goto (p := 21) (by decide +kernel) ?_
      refine hs_istore (i := 2) (p := 22) (by decide +kernel) (Nat.le_of_ble_eq_true rfl) ?_
      refine hs_aload (i := 0) (p := 23) (by decide +kernel) rfl ?_
      refine hs_iload (i := 2) (p := 24) (by decide +kernel) rfl ?_
      refine hs_if0 (c := .eq) (t := 31) (f := 27) (by decide +kernel) (show ¬ (Int32.ofNat 1 = 0) by decide) ?_
      refine hs_k (x := (-1)) (p := 28) (by decide +kernel) ?_
      refine hs_goto (p := 35) (by decide +kernel) ?_
      refine hf_put (T := et_TT) (t := 13) (ci := 11) (f := 10) (p := 38) (ty := .int) (by decide +kernel) rfl rfl rfl rfl rfl hH k_am (hi_iv (by decide) (by decide)) (fun G35 hH x35 e35 => ?_)
      have hP := hP.fr x35 lt_aw (fun j hs => hne hs.1)
      have m4 := (x35.2 am 4 lt_am (fun h => absurd h.2 (by decide))).trans m4
      have m7 := (x35.2 am 7 lt_am (fun h => absurd h.2 (by decide))).trans m7
      have m1 := (x35.2 am 1 lt_am (fun h => absurd h.2 (by decide))).trans m1
      have e2 := (x35.2 am 13 lt_am (fun h => absurd h.2 (by decide))).trans e2
      have ht : ∀ i, i < n → et_pl (eg_at G35 tm) i = some (.int (sx (b i))) := fun i hi => (x35.2 tm i lt_tm (fun h => (hi_ne k_tm k_am (by decide)) h.1)).trans (ht i hi)
      have lt_am := Nat.lt_of_lt_of_le lt_am x35.1
      have lt_tm := Nat.lt_of_lt_of_le lt_tm x35.1
      have lt_aw := Nat.lt_of_lt_of_le lt_aw x35.1
      have hX := hX.tr x35 (fun b j hb h => by first | omega | (dsimp only at h ⊢; omega) | (dsimp only at h; omega) | (dsimp only; omega))
      refine hs_iload (i := 2) (p := 39) (by decide +kernel) rfl ?_
      refine hs_zret (by decide +kernel) (.inr rfl) ?_
      exact ⟨_, _, rfl, hH, hX, hP⟩
end FYA
end
section
/-! FUNCTIONAL: the reference's rule, turner, claim -/
theorem fm_t0 {d2 am : Nat} {c : Int32} {K : et_K} {G : eg_G} (hH : et_H et_TT K G) (k_am : K am = some 13) : et_go none d2 204 0 (eg_en (eg_mL 204) [.ref am, .int (Int32.ofNat 0), .int c]) [] G 0 0 (xp_Z G (some (.int (Int32.ofNat 0)))) := by
  refine (fm_thr (x := Int32.ofNat 0) hH k_am (.inl rfl)).mono (fun u hu => ?_)
  obtain ⟨G', v, e, -, -, rfl, ⟨-, rfl⟩ | ⟨hz, -⟩⟩ := hu
  · exact e
  · exact absurd rfl hz
theorem fm_t1 {d2 am : Nat} {c : Int32} {K : et_K} {G : eg_G} (hH : et_H et_TT K G) (k_am : K am = some 13) : et_go none d2 204 0 (eg_en (eg_mL 204) [.ref am, .int (Int32.ofNat 1), .int c]) [] G 0 0 (xw_Z (fun b j => (b = am ∧ j = 0)) K G (fun G' v => v = some (.int (Int32.ofNat 1)) ∧ et_pl (eg_at G' am) 0 = some (.int c))) := by
  refine (fm_thr (x := Int32.ofNat 1) hH k_am (.inr rfl)).mono (fun u hu => ?_)
  obtain ⟨G', v, e, g1, g2, g3, ⟨hz, -⟩ | ⟨-, g4⟩⟩ := hu
  · exact absurd hz (by decide)
  · exact ⟨G', v, e, g1, g2, g3, g4⟩
theorem hmF_pl {F : Nat → Value} {i : Nat} (h : i < 36) : et_pl (hm_F F) i = some (F i) := by
  show ((List.range 36).map F)[i]? = some (F i)
  rw [List.getElem?_map, List.getElem?_range h]
  rfl
theorem hmW_pl {W : Nat → Int32} {i : Nat} (h : i < 12741) : et_pl (hm_W W) i = some (.int (W i)) := by
  show et_pl (.inl (0, (12741, .inl W))) i = _
  rw [hf_pl (.inl rfl), if_pos h]
/-- ends without a promise of the heap -/
def xn_Z (S : Nat → Nat → Prop) (G : eg_G) (P : eg_G → Option Value → Prop) (u : eg_O) : Prop := ∃ (G' : eg_G) (v : Option Value), u = (.inl v, G', 0, 0) ∧ xf S G G' ∧ P G' v
theorem xw_Z.xn {S : Nat → Nat → Prop} {K : et_K} {G : eg_G} {P : eg_G → Option Value → Prop} {u : eg_O} (h : xw_Z S K G P u) : xn_Z S G P u := by
  obtain ⟨G', v, e, -, g2, g3⟩ := h
  exact ⟨G', v, e, g2, g3⟩
/-- the world alone changes, and one cell of ai's -/
theorem hm_xf {G : eg_G} {am aw ai n : Nat} {F : Nat → Value} {W W1 : Nat → Int32} {IK : Nat → Int32} (hA : hm_ok G am aw) (e : G = hm_H G am aw F W) (i1 : ai ≠ am) (i2 : ai ≠ aw) (i3 : eg_NC ≤ ai ∧ ai < G.2) (i4 : eg_at G ai = .inl (3, (4, .inl IK))) {x : Int32} : xf (fun c j => (c = ai ∧ j = n) ∨ (c = aw ∧ ¬ W1 j = W j)) G (hm_H (eg_u G ai (.inl (3, (4, .inl (upd IK n x))))) am aw F W1) := by
  have eF : eg_at G am = hm_F F := by rw [e]; exact hm_m hA
  have eW : eg_at G aw = hm_W W := by rw [e]; exact hm_w hA
  have hA1 : hm_ok (eg_u G ai (.inl (3, (4, .inl (upd IK n x))))) am aw := hA
  refine ⟨Nat.le_refl _, fun a i ha hi => ?_⟩
  by_cases h1 : a = am
  · subst h1
    rw [hm_m hA1, eF]
  · by_cases h2 : a = aw
    · subst h2
      rw [hm_w hA1, eW]
      by_cases hi2 : i < 12741
      · rw [hmW_pl hi2, hmW_pl hi2]
        exact congrArg (fun z => some (Value.int z)) (Decidable.of_not_not (fun h => hi (.inr ⟨rfl, h⟩)))
      · show et_pl (.inl (0, (12741, .inl W1))) i = et_pl (.inl (0, (12741, .inl W))) i
        rw [hf_pl (.inl rfl), hf_pl (.inl rfl), if_neg hi2, if_neg hi2]
    · rw [hm_o h1 h2]
      by_cases h3 : a = ai
      · subst h3
        rw [et_at_us i3.1, i4]
        exact hf_plu (.inr (.inr (.inl rfl))) (fun h => hi (.inl ⟨rfl, h⟩))
      · rw [et_at_u h3]
theorem hm_xf0 {G : eg_G} {am aw : Nat} {F : Nat → Value} {W W1 : Nat → Int32} (hA : hm_ok G am aw) (e : G = hm_H G am aw F W) : xf (fun c j => c = aw ∧ ¬ W1 j = W j) G (hm_H G am aw F W1) := by
  have eF : eg_at G am = hm_F F := by rw [e]; exact hm_m hA
  have eW : eg_at G aw = hm_W W := by rw [e]; exact hm_w hA
  refine ⟨Nat.le_refl _, fun a i ha hi => ?_⟩
  by_cases h1 : a = am
  · subst h1
    rw [hm_m hA, eF]
  · by_cases h2 : a = aw
    · subst h2
      rw [hm_w hA, eW]
      by_cases hi2 : i < 12741
      · rw [hmW_pl hi2, hmW_pl hi2]
        exact congrArg (fun z => some (Value.int z)) (Decidable.of_not_not (fun h => hi ⟨rfl, h⟩))
      · show et_pl (.inl (0, (12741, .inl W1))) i = et_pl (.inl (0, (12741, .inl W))) i
        rw [hf_pl (.inl rfl), hf_pl (.inl rfl), if_neg hi2, if_neg hi2]
    · rw [hm_o h1 h2]
section FZA
variable {K : et_K} {G G0 : eg_G} {b : Nat → Nat} {d2 d am aw ai tm n p pl k dp m i r : Nat} {F : Nat → Value} {W : Nat → Int32} {Z : eg_O → Prop}

theorem tl_rule {IK : Nat → Int32} (hA : hm_ok G am aw) (hw : F 1 = .ref aw) (hai : F 18 = .ref ai) (i1 : ai ≠ am) (i2 : ai ≠ aw) (i3 : eg_NC ≤ ai ∧ ai < G.2) (i4 : eg_at G ai = .inl (3, (4, .inl IK))) (hr : r < 4) (hW : W 0 = Int32.ofNat r) {x1 : Option Value} (h : ∀ V : Nat → Int32, (∀ i, i < 841 → V (126 + 841 * r + i) = W (11900 + i)) → (∀ i, (i < 126 + 841 * r ∨ 126 + 841 * r + 841 ≤ i) → V i = W i) → Z (.inl (some (.int (Int32.ofNat r))), hm_H (eg_u G ai (.inl (3, (4, .inl (upd IK r 0))))) am aw F (upd V 0 (Int32.ofNat (r + 1))), 0, 0)) : et_go none (d + 2) 180 50 [some (.ref am), x1] [] (hm_H G am aw F W) 0 0 Z := by
  refine hs_aload (i := 0) (p := 51) (by decide +kernel) rfl ?_
  refine hm_get hA (f := 1) (p := 54) (by decide +kernel) rfl hw ?_
  refine hs_k (x := Int32.ofNat 0) (p := 55) (by decide +kernel) ?_
  refine hm_rwv hA (p := 56) (x := Int32.ofNat r) (by decide +kernel) (by omega) hW ?_
  refine hs_istore (i := 1) (p := 57) (by decide +kernel) (Nat.le_of_ble_eq_true rfl) ?_
  refine hs_aload (i := 0) (p := 58) (by decide +kernel) rfl ?_
  refine hs_iload (i := 1) (p := 59) (by decide +kernel) rfl ?_
  refine hm_call hA (mi := 205) (na := 1) (lk := 2) (lm := 3) (by decide +kernel) rfl rfl rfl rfl rfl rfl (rp_keeps hA hw (t := r) (by omega) (fun V g1 g2 => hs_cb ?_))
  show et_go none _ 180 62 _ [] _ _ _ _
  refine hs_aload (i := 0) (p := 63) (by decide +kernel) rfl ?_
  refine hm_get hA (f := 18) (p := 66) (by decide +kernel) rfl hai ?_
  refine hs_iload (i := 1) (p := 67) (by decide +kernel) rfl ?_
  refine hs_k (x := Int32.ofNat 0) (p := 68) (by decide +kernel) ?_
  refine hm_bast (p := 69) (by decide +kernel) i1 i2 i4 i3 (by omega) ?_
  refine hs_aload (i := 0) (p := 70) (by decide +kernel) rfl ?_
  refine hm_get hA (f := 1) (p := 73) (by decide +kernel) rfl hw ?_
  refine hs_k (x := Int32.ofNat 0) (p := 74) (by decide +kernel) ?_
  refine hs_dup2 (p := 75) (by decide +kernel) ?_
  refine hm_rwv hA (p := 76) (x := Int32.ofNat r) (by decide +kernel) (by omega) ((g2 0 (.inl (by omega))).trans hW) ?_
  refine hs_k (x := Int32.ofNat 1) (p := 77) (by decide +kernel) ?_
  refine hs_iaddn (p := 78) (by decide +kernel) ?_
  refine hm_ww hA (p := 79) (by decide +kernel) (by omega) ?_
  refine hs_iload (i := 1) (p := 80) (by decide +kernel) rfl ?_
  refine hs_iret (by decide +kernel) ?_
  exact h _ g1 g2
theorem tl_turner (hA : hm_ok G am aw) (hw : F 1 = .ref aw) (hr : r < 4) (hW : W 1 = Int32.ofNat r) (h : ∀ V : Nat → Int32, (∀ i, i < 841 → V (126 + 841 * (4 + r) + i) = W (11900 + i)) → (∀ i, (i < 126 + 841 * (4 + r) ∨ 126 + 841 * (4 + r) + 841 ≤ i) → V i = W i) → Z (.inl (some (.int (Int32.ofNat r))), hm_H G am aw F (upd V 1 (Int32.ofNat (r + 1))), 0, 0)) : et_go none (d + 2) 206 50 [some (.ref am)] [] (hm_H G am aw F W) 0 0 Z := by
  refine hs_aload (i := 0) (p := 51) (by decide +kernel) rfl ?_
  refine hs_k (x := Int32.ofNat 4) (p := 52) (by decide +kernel) ?_
  refine hs_aload (i := 0) (p := 53) (by decide +kernel) rfl ?_
  refine hm_get hA (f := 1) (p := 56) (by decide +kernel) rfl hw ?_
  refine hs_k (x := Int32.ofNat 1) (p := 57) (by decide +kernel) ?_
  refine hm_rwv hA (p := 58) (x := Int32.ofNat r) (by decide +kernel) (by omega) hW ?_
  refine hs_iaddn (p := 59) (by decide +kernel) ?_
  refine hm_call hA (mi := 205) (na := 1) (lk := 1) (lm := 3) (by decide +kernel) rfl rfl rfl rfl rfl rfl (rp_keeps hA hw (t := (4 + r)) (by omega) (fun V g1 g2 => hs_cb ?_))
  show et_go none _ 206 62 _ [] _ _ _ _
  refine hs_aload (i := 0) (p := 63) (by decide +kernel) rfl ?_
  refine hm_get hA (f := 1) (p := 66) (by decide +kernel) rfl hw ?_
  refine hs_k (x := Int32.ofNat 1) (p := 67) (by decide +kernel) ?_
  refine hs_dup2 (p := 68) (by decide +kernel) ?_
  refine hm_rwv hA (p := 69) (x := Int32.ofNat r) (by decide +kernel) (by omega) ((g2 1 (.inl (by omega))).trans hW) ?_
  refine hs_k (x := Int32.ofNat 1) (p := 70) (by decide +kernel) ?_
  refine hs_iaddn (p := 71) (by decide +kernel) ?_
  refine hm_ww hA (p := 72) (by decide +kernel) (by omega) ?_
  refine hs_aload (i := 0) (p := 73) (by decide +kernel) rfl ?_
  refine hm_get hA (f := 1) (p := 76) (by decide +kernel) rfl hw ?_
  refine hs_k (x := Int32.ofNat 1) (p := 77) (by decide +kernel) ?_
  refine hm_rwv hA (p := 78) (x := Int32.ofNat (r + 1)) (by decide +kernel) (by omega) hs_us ?_
  refine hs_k (x := Int32.ofNat 1) (p := 79) (by decide +kernel) ?_
  refine hs_isubn (p := 80) (by decide +kernel) (by omega) ?_
  refine hs_iret (by decide +kernel) ?_
  exact h _ g1 g2
end FZA
end
section
/-! FUNCTIONAL: the reference's rule -/
theorem hmW_lt {W : Nat → Int32} {i : Nat} {v : Value} (h : et_pl (hm_W W) i = some v) : i < 12741 := by
  have h : et_pl (.inl (0, (12741, .inl W))) i = some v := h
  rw [hf_pl (.inl rfl)] at h
  split at h
  · assumption
  · cases h
/-- a text's steps, wherever it lies -/
def hasT (G : eg_G) (aw X k : Nat) (C : List (Nat × Nat)) : Prop := ∀ j s, C[j]? = some s → et_pl (eg_at G aw) (X + 41 + 2 * (k + j)) = some (.int (Int32.ofNat s.1)) ∧ et_pl (eg_at G aw) (X + 41 + 2 * (k + j) + 1) = some (.int (Int32.ofNat s.2)) ∧ (s.1 < 10000 ∧ s.2 < 10000)
/-- the text of a RULE or CLAIM at X says f -/
def txP (G : eg_G) (aw X pl : Nat) (f : sp_E → Bool) : Prop := ∃ C : List (Nat × Nat), C.length ≤ 400 ∧ et_pl (eg_at G aw) X = some (.int (Int32.ofNat 1)) ∧ et_pl (eg_at G aw) (X + 3) = some (.int (Int32.ofNat 0)) ∧ et_pl (eg_at G aw) (X + 4) = some (.int (Int32.ofNat C.length)) ∧ hasT G aw X 0 C ∧ dnB pl f C
theorem txP.mv {G G' : eg_G} {aw X pl : Nat} {f : sp_E → Bool} {C : List (Nat × Nat)} {W : Nat → Int32} (eW : eg_at G aw = hm_W W) (h0 : et_pl (eg_at G aw) 11900 = some (.int (Int32.ofNat 1))) (h3 : et_pl (eg_at G aw) 11903 = some (.int (Int32.ofNat 0))) (h4 : et_pl (eg_at G aw) 11904 = some (.int (Int32.ofNat C.length))) (hC : hasC G aw 0 C) (hd : dnB pl f C) (hc : ∀ i v, i < 841 → et_pl (eg_at G aw) (11900 + i) = some v → et_pl (eg_at G' aw) (X + i) = some v) : txP G' aw X pl f := by
  have hlen : C.length ≤ 400 := by
    by_cases h0 : C.length = 0
    · omega
    · have hlt : C.length - 1 < C.length := by omega
      have h2 := (hC _ _ (List.getElem?_eq_getElem hlt)).2.1
      have hl : 11941 + 2 * (0 + (C.length - 1)) + 1 < 12741 := hmW_lt (by rw [← eW]; exact h2)
      omega
  refine ⟨C, hlen, hc 0 _ (by decide) h0, hc 3 _ (by decide) h3, hc 4 _ (by decide) h4, fun j s hj => ?_, hd⟩
  obtain ⟨h1, h2, h3⟩ := hC j s hj
  have hl : 11941 + 2 * (0 + j) + 1 < 12741 := hmW_lt (by rw [← eW]; exact h2)
  exact ⟨pl_eq (hc (41 + 2 * (0 + j)) _ (by omega) (pl_eq h1 (by omega))) (by omega), pl_eq (hc (41 + 2 * (0 + j) + 1) _ (by omega) (pl_eq h2 (by omega))) (by omega), h3⟩
def ruP (am aw r : Nat) (sp : Option (sp_E → Bool)) (G' : eg_G) (v : Option Value) : Prop :=
  (sp = none ∧ v = some (.int (Int32.ofNat 0)) ∧ et_pl (eg_at G' am) 0 = some (.int (Int32.ofNat 1)) ∧ et_pl (eg_at G' aw) 0 = some (.int (Int32.ofNat r))) ∨
  (r = 4 ∧ ¬ sp = none ∧ v = some (.int (Int32.ofNat 0)) ∧ et_pl (eg_at G' am) 0 = some (.int (Int32.ofNat 2)) ∧ et_pl (eg_at G' aw) 0 = some (.int (Int32.ofNat r))) ∨
  (∃ f, sp = some f ∧ r < 4 ∧ v = some (.int (Int32.ofNat r)) ∧ et_pl (eg_at G' am) 0 = some (.int (Int32.ofNat 0)) ∧ et_pl (eg_at G' aw) 0 = some (.int (Int32.ofNat (r + 1))) ∧ txP G' aw (126 + 841 * r) 0 f)
section FRA
variable {K : et_K} {G G0 : eg_G} {b : Nat → Nat} {d2 d am aw ai tm n p pl k dp m i r : Nat}

theorem fm_uses (hH : et_H et_TT K G) (k_am : K am = some 13) (hn : n ≤ 400) (m5 : et_pl (eg_at G am) 5 = some (.int (Int32.ofNat n))) : et_go none d2 181 0 (eg_en (eg_mL 181) [.ref am]) [] G 0 0 (xw_Z (fun c j => (c = am ∧ j = 0) ∨ ((c = am ∧ (5 ≤ j ∧ j ≤ 7)) ∨ (c = am ∧ j = 12))) K G (fun G' v => v = none ∧ et_pl (eg_at G' am) 0 = some (.int (Int32.ofNat 0)) ∧ et_pl (eg_at G' am) 5 = some (.int (Int32.ofNat 0)) ∧ et_pl (eg_at G' am) 6 = some (.int (Int32.ofNat 0)) ∧ et_pl (eg_at G' am) 7 = some (.int (Int32.ofNat n)) ∧ et_pl (eg_at G' am) 12 = some (.int (Int32.ofNat 0)))) := by
  rw [show eg_mL 181 = 1 from by decide +kernel]
  show et_go none d2 181 0 [some (.ref am)] [] G 0 0 (xw_Z _ _ _ _)
  have lt_am := (hH.2.2 _ _ k_am).1
  have hX : xf (fun c j => (c = am ∧ j = 0) ∨ ((c = am ∧ (5 ≤ j ∧ j ≤ 7)) ∨ (c = am ∧ j = 12))) G G := xf.rf
  refine hs_aload (i := 0) (p := 1) (by decide +kernel) rfl ?_
  refine hs_k (x := Int32.ofNat 0) (p := 2) (by decide +kernel) ?_
  refine hf_put (T := et_TT) (t := 13) (ci := 11) (f := 0) (p := 5) (ty := .int) (by decide +kernel) rfl rfl rfl rfl rfl hH k_am hi_any (fun G2 hH x2 e2 => ?_)
  have m5 := (x2.2 am 5 lt_am (fun h => absurd h.2 (by decide))).trans m5
  have lt_am := Nat.lt_of_lt_of_le lt_am x2.1
  have hX := hX.tr x2 (fun b j hb h => by first | omega | (dsimp only at h ⊢; omega) | (dsimp only at h; omega) | (dsimp only; omega))
  refine hs_aload (i := 0) (p := 6) (by decide +kernel) rfl ?_
  refine hs_aload (i := 0) (p := 7) (by decide +kernel) rfl ?_
  refine hf_get (T := et_TT) (t := 13) (ci := 11) (f := 5) (p := 10) (by decide +kernel) rfl hH k_am m5 ?_
  refine hf_put (T := et_TT) (t := 13) (ci := 11) (f := 7) (p := 13) (ty := .int) (by decide +kernel) rfl rfl rfl rfl rfl hH k_am (hi_nv (by omega) (by omega)) (fun G10 hH x10 e10 => ?_)
  have m5 := (x10.2 am 5 lt_am (fun h => absurd h.2 (by decide))).trans m5
  have e2 := (x10.2 am 0 lt_am (fun h => absurd h.2 (by decide))).trans e2
  have lt_am := Nat.lt_of_lt_of_le lt_am x10.1
  have hX := hX.tr x10 (fun b j hb h => by first | omega | (dsimp only at h ⊢; omega) | (dsimp only at h; omega) | (dsimp only; omega))
  refine hs_aload (i := 0) (p := 14) (by decide +kernel) rfl ?_
  refine hs_k (x := Int32.ofNat 0) (p := 15) (by decide +kernel) ?_
  refine hf_put (T := et_TT) (t := 13) (ci := 11) (f := 5) (p := 18) (ty := .int) (by decide +kernel) rfl rfl rfl rfl rfl hH k_am (hi_nv (by omega) (by omega)) (fun G15 hH x15 e15 => ?_)
  have e2 := (x15.2 am 0 lt_am (fun h => absurd h.2 (by decide))).trans e2
  have e10 := (x15.2 am 7 lt_am (fun h => absurd h.2 (by decide))).trans e10
  have lt_am := Nat.lt_of_lt_of_le lt_am x15.1
  have hX := hX.tr x15 (fun b j hb h => by first | omega | (dsimp only at h ⊢; omega) | (dsimp only at h; omega) | (dsimp only; omega))
  refine hs_aload (i := 0) (p := 19) (by decide +kernel) rfl ?_
  refine hs_k (x := Int32.ofNat 0) (p := 20) (by decide +kernel) ?_
  refine hf_put (T := et_TT) (t := 13) (ci := 11) (f := 6) (p := 23) (ty := .int) (by decide +kernel) rfl rfl rfl rfl rfl hH k_am (hi_nv (by omega) (by omega)) (fun G20 hH x20 e20 => ?_)
  have e15 := (x20.2 am 5 lt_am (fun h => absurd h.2 (by decide))).trans e15
  have e2 := (x20.2 am 0 lt_am (fun h => absurd h.2 (by decide))).trans e2
  have e10 := (x20.2 am 7 lt_am (fun h => absurd h.2 (by decide))).trans e10
  have lt_am := Nat.lt_of_lt_of_le lt_am x20.1
  have hX := hX.tr x20 (fun b j hb h => by first | omega | (dsimp only at h ⊢; omega) | (dsimp only at h; omega) | (dsimp only; omega))
  refine hs_aload (i := 0) (p := 24) (by decide +kernel) rfl ?_
  refine hs_k (x := Int32.ofNat 0) (p := 25) (by decide +kernel) ?_
  refine hf_put (T := et_TT) (t := 13) (ci := 11) (f := 12) (p := 28) (ty := .int) (by decide +kernel) rfl rfl rfl rfl rfl hH k_am (hi_nv (by omega) (by omega)) (fun G25 hH x25 e25 => ?_)
  have e15 := (x25.2 am 5 lt_am (fun h => absurd h.2 (by decide))).trans e15
  have e2 := (x25.2 am 0 lt_am (fun h => absurd h.2 (by decide))).trans e2
  have e10 := (x25.2 am 7 lt_am (fun h => absurd h.2 (by decide))).trans e10
  have e20 := (x25.2 am 6 lt_am (fun h => absurd h.2 (by decide))).trans e20
  have lt_am := Nat.lt_of_lt_of_le lt_am x25.1
  have hX := hX.tr x25 (fun b j hb h => by first | omega | (dsimp only at h ⊢; omega) | (dsimp only at h; omega) | (dsimp only; omega))
  refine hs_vret (by decide +kernel) ?_
  exact ⟨_, _, rfl, hH, hX, rfl, e2, e15, e20, e10, e25⟩
theorem fm_rule (hH : et_H et_TT K G) (k_am : K am = some 13) (m4 : et_pl (eg_at G am) 4 = some (.ref tm)) (k_tm : K tm = some 34) (m5 : et_pl (eg_at G am) 5 = some (.int (Int32.ofNat n))) (hn : n ≤ 400) (ht : ∀ i, i < n → et_pl (eg_at G tm) i = some (.int (sx (b i)))) (hb : ∀ i, i < n → b i < 256) (k_aw : K aw = some 46) (m1 : et_pl (eg_at G am) 1 = some (.ref aw)) (m18 : et_pl (eg_at G am) 18 = some (.ref ai)) (w0 : et_pl (eg_at G aw) 0 = some (.int (Int32.ofNat r))) (hr : r ≤ 4) (hd : 35 ≤ d2) : et_go none d2 180 0 (eg_en (eg_mL 180) [.ref am]) [] G 0 0 (xn_Z (fun c j => (c = am ∧ (j = 0 ∨ ((5 ≤ j ∧ j ≤ 10) ∨ (12 ≤ j ∧ j ≤ 13)))) ∨ ((c = ai ∧ j = r) ∨ (c = aw ∧ (j = 0 ∨ (r < 4 ∧ (126 + 841 * r ≤ j ∧ j < 126 + 841 * r + 841) ∨ 11900 ≤ j))))) G (ruP am aw r (sp_one (tz_ts 0 b n 0)))) := by
  obtain ⟨d, rfl⟩ : ∃ d, d2 = d + 35 := ⟨d2 - 35, by omega⟩
  rw [show eg_mL 180 = 2 from by decide +kernel]
  show et_go none (d + 35) 180 0 [some (.ref am), none] [] G 0 0 (xn_Z _ _ _)
  have hne : ¬ aw = am := hi_ne k_aw k_am (by decide)
  have lt_am := (hH.2.2 _ _ k_am).1
  have lt_tm := (hH.2.2 _ _ k_tm).1
  have lt_aw := (hH.2.2 _ _ k_aw).1
  have hX : xf (fun c j => (c = am ∧ j = 0) ∨ (c = am ∧ (5 ≤ j ∧ j ≤ 10)) ∨ (c = am ∧ (12 ≤ j ∧ j ≤ 13)) ∨ (c = aw ∧ 11900 ≤ j)) G G := xf.rf
  refine hs_aload (i := 0) (p := 1) (by decide +kernel) rfl ?_
  refine ht_callv (T := et_TT) (t := 13) (mi := 181) (na := 0) (ci := 11) (lk := 2) (lm := 1) (L0 := eg_en (eg_mL 181) [.ref am]) (by decide +kernel) rfl hH k_am rfl rfl rfl rfl rfl (by rw [show eg_mL 181 = 1 from by decide +kernel]; first | done | rfl) ?_
  refine (fm_uses hH k_am hn m5).mono (fun u hu => xw_cb hu (fun G1 v1 hH x1 hP1 => ?_))
  have x1 : xf (fun c j => (c = am ∧ j = 0) ∨ (c = am ∧ (5 ≤ j ∧ j ≤ 7)) ∨ (c = am ∧ j = 12)) _ _ := x1
  have m4 := (x1.2 am 4 lt_am (fun h => Or.elim h (fun h => absurd h.2 (by decide)) (fun h => Or.elim h (fun h => absurd h.2 (by decide)) (fun h => absurd h.2 (by decide))))).trans m4
  have m1 := (x1.2 am 1 lt_am (fun h => Or.elim h (fun h => absurd h.2 (by decide)) (fun h => Or.elim h (fun h => absurd h.2 (by decide)) (fun h => absurd h.2 (by decide))))).trans m1
  have m18 := (x1.2 am 18 lt_am (fun h => Or.elim h (fun h => absurd h.2 (by decide)) (fun h => Or.elim h (fun h => absurd h.2 (by decide)) (fun h => absurd h.2 (by decide))))).trans m18
  have w0 := (x1.2 aw 0 lt_aw (fun h => Or.elim h (fun h => hne h.1) (fun h => Or.elim h (fun h => hne h.1) (fun h => hne h.1)))).trans w0
  have ht : ∀ i, i < n → et_pl (eg_at G1 tm) i = some (.int (sx (b i))) := fun i hi => (x1.2 tm i lt_tm (fun h => Or.elim h (fun h => (hi_ne k_tm k_am (by decide)) h.1) (fun h => Or.elim h (fun h => (hi_ne k_tm k_am (by decide)) h.1) (fun h => (hi_ne k_tm k_am (by decide)) h.1)))).trans (ht i hi)
  have lt_am := Nat.lt_of_lt_of_le lt_am x1.1
  have lt_tm := Nat.lt_of_lt_of_le lt_tm x1.1
  have lt_aw := Nat.lt_of_lt_of_le lt_aw x1.1
  have hX := hX.tr x1 (fun b j hb h => by first | omega | (dsimp only at h ⊢; omega) | (dsimp only at h; omega) | (dsimp only; omega))
  obtain ⟨rfl, q0, q5, q6, q7, q12⟩ := hP1
  show et_go none _ 180 4 _ [] _ _ _ _
  refine hs_aload (i := 0) (p := 5) (by decide +kernel) rfl ?_
  refine hs_aload (i := 0) (p := 6) (by decide +kernel) rfl ?_
  refine hs_k (x := Int32.ofNat 0) (p := 7) (by decide +kernel) ?_
  refine ht_callv (T := et_TT) (t := 13) (mi := 182) (na := 1) (ci := 11) (lk := 2) (lm := 3) (L0 := eg_en (eg_mL 182) [.ref am, .int (Int32.ofNat 0)]) (by decide +kernel) rfl hH k_am rfl rfl rfl rfl rfl (by rw [show eg_mL 182 = 3 from by decide +kernel]; first | done | rfl) ?_
  refine (fr_reads_one (pl := 0) (k := 0) (p := 0) hH k_am m4 k_tm q7 hn ht hb q6 tal0 (by decide) k_aw m1 q12 rfl (by decide) (by omega)).mono (fun u hu => xw_cb hu (fun G7 v7 hH x7 hP7 => ?_))
  have x7 : xf (fun c j => (c = am ∧ j = 6) ∨ (c = am ∧ (8 ≤ j ∧ j ≤ 10)) ∨ (c = am ∧ (12 ≤ j ∧ j ≤ 13)) ∨ (c = aw ∧ 11900 ≤ j)) _ _ := x7
  have m4 := (x7.2 am 4 lt_am (fun h => Or.elim h (fun h => absurd h.2 (by decide)) (fun h => Or.elim h (fun h => absurd h.2 (by decide)) (fun h => Or.elim h (fun h => absurd h.2 (by decide)) (fun h => (hi_ne k_am k_aw (by decide)) h.1))))).trans m4
  have q5 := (x7.2 am 5 lt_am (fun h => Or.elim h (fun h => absurd h.2 (by decide)) (fun h => Or.elim h (fun h => absurd h.2 (by decide)) (fun h => Or.elim h (fun h => absurd h.2 (by decide)) (fun h => (hi_ne k_am k_aw (by decide)) h.1))))).trans q5
  have m1 := (x7.2 am 1 lt_am (fun h => Or.elim h (fun h => absurd h.2 (by decide)) (fun h => Or.elim h (fun h => absurd h.2 (by decide)) (fun h => Or.elim h (fun h => absurd h.2 (by decide)) (fun h => (hi_ne k_am k_aw (by decide)) h.1))))).trans m1
  have m18 := (x7.2 am 18 lt_am (fun h => Or.elim h (fun h => absurd h.2 (by decide)) (fun h => Or.elim h (fun h => absurd h.2 (by decide)) (fun h => Or.elim h (fun h => absurd h.2 (by decide)) (fun h => (hi_ne k_am k_aw (by decide)) h.1))))).trans m18
  have w0 := (x7.2 aw 0 lt_aw (fun h => Or.elim h (fun h => hne h.1) (fun h => Or.elim h (fun h => hne h.1) (fun h => Or.elim h (fun h => hne h.1) (fun h => by have h := h.2; omega))))).trans w0
  have q0 := (x7.2 am 0 lt_am (fun h => Or.elim h (fun h => absurd h.2 (by decide)) (fun h => Or.elim h (fun h => absurd h.2 (by decide)) (fun h => Or.elim h (fun h => absurd h.2 (by decide)) (fun h => (hi_ne k_am k_aw (by decide)) h.1))))).trans q0
  have q7 := (x7.2 am 7 lt_am (fun h => Or.elim h (fun h => absurd h.2 (by decide)) (fun h => Or.elim h (fun h => absurd h.2 (by decide)) (fun h => Or.elim h (fun h => absurd h.2 (by decide)) (fun h => (hi_ne k_am k_aw (by decide)) h.1))))).trans q7
  have ht : ∀ i, i < n → et_pl (eg_at G7 tm) i = some (.int (sx (b i))) := fun i hi => (x7.2 tm i lt_tm (fun h => Or.elim h (fun h => (hi_ne k_tm k_am (by decide)) h.1) (fun h => Or.elim h (fun h => (hi_ne k_tm k_am (by decide)) h.1) (fun h => Or.elim h (fun h => (hi_ne k_tm k_am (by decide)) h.1) (fun h => (hi_ne k_tm k_aw (by decide)) h.1))))).trans (ht i hi)
  have lt_am := Nat.lt_of_lt_of_le lt_am x7.1
  have lt_tm := Nat.lt_of_lt_of_le lt_tm x7.1
  have lt_aw := Nat.lt_of_lt_of_le lt_aw x7.1
  have hX := hX.tr x7 (fun b j hb h => by first | omega | (dsimp only at h ⊢; omega) | (dsimp only at h; omega) | (dsimp only; omega))
  rcases hP7 with ⟨sq, rfl⟩ | ⟨f_, C_, sq, rfl, g1, g2, g3, g4, g5⟩
  · have hP : P1 aw 0 (sp_one (tz_ts 0 b n 0)) G7 (some (.int (Int32.ofNat 0))) := .inl ⟨sq, rfl⟩
    show et_go none _ 180 10 _ [.int (Int32.ofNat 0), .ref am] _ _ _ _
    refine hs_if0 (c := .ne) (t := 17) (f := 13) (by decide +kernel) (show ¬ (¬ Int32.ofNat 0 = 0) by decide) ?_
    refine hs_k (x := Int32.ofNat 1) (p := 14) (by decide +kernel) ?_
    refine hs_goto (p := 18) (by decide +kernel) ?_
    refine hs_k (x := Int32.ofNat 1) (p := 19) (by decide +kernel) ?_
    refine ht_callv (T := et_TT) (t := 13) (mi := 204) (na := 2) (ci := 11) (lk := 2) (lm := 3) (L0 := eg_en (eg_mL 204) [.ref am, .int (Int32.ofNat 1), .int (Int32.ofNat 1)]) (by decide +kernel) rfl hH k_am rfl rfl rfl rfl rfl (by rw [show eg_mL 204 = 3 from by decide +kernel]; first | done | rfl) ?_
    refine (fm_t1 hH k_am).mono (fun u hu => xw_cb hu (fun G19 v19 hH x19 hP19 => ?_))
    have hP := hP.fr x19 lt_aw (fun j hs => hne hs.1)
    have m4 := (x19.2 am 4 lt_am (fun h => absurd h.2 (by decide))).trans m4
    have q5 := (x19.2 am 5 lt_am (fun h => absurd h.2 (by decide))).trans q5
    have m1 := (x19.2 am 1 lt_am (fun h => absurd h.2 (by decide))).trans m1
    have m18 := (x19.2 am 18 lt_am (fun h => absurd h.2 (by decide))).trans m18
    have w0 := (x19.2 aw 0 lt_aw (fun h => hne h.1)).trans w0
    have q7 := (x19.2 am 7 lt_am (fun h => absurd h.2 (by decide))).trans q7
    have ht : ∀ i, i < n → et_pl (eg_at G19 tm) i = some (.int (sx (b i))) := fun i hi => (x19.2 tm i lt_tm (fun h => (hi_ne k_tm k_am (by decide)) h.1)).trans (ht i hi)
    have lt_am := Nat.lt_of_lt_of_le lt_am x19.1
    have lt_tm := Nat.lt_of_lt_of_le lt_tm x19.1
    have lt_aw := Nat.lt_of_lt_of_le lt_aw x19.1
    have hX := hX.tr x19 (fun b j hb h => by first | omega | (dsimp only at h ⊢; omega) | (dsimp only at h; omega) | (dsimp only; omega))
    obtain ⟨rfl, th19⟩ := hP19
    show et_go none _ 180 22 _ [.int (Int32.ofNat 1)] _ _ _ _
    refine hs_if1 (c := .ne) (t := 48) (f := 25) (by decide +kernel) (show ¬ Int32.ofNat 1 = 0 by decide) ?_
    refine hs_k (x := Int32.ofNat 0) (p := 49) (by decide +kernel) ?_
    refine hs_iret (by decide +kernel) ?_
    rcases hP with ⟨sq, -⟩ | ⟨_, _, _, hz, _⟩
    · exact ⟨_, _, rfl, hX.wk (fun c j _ h => by first | omega | (dsimp only at h ⊢; omega)), .inl ⟨sq, rfl, th19, w0⟩⟩
    · cases hz
  · have hP : P1 aw 0 (sp_one (tz_ts 0 b n 0)) G7 (some (.int (Int32.ofNat 1))) := .inr ⟨f_, C_, sq, rfl, g1, g2, g3, g4, g5⟩
    show et_go none _ 180 10 _ [.int (Int32.ofNat 1), .ref am] _ _ _ _
    refine hs_if1 (c := .ne) (t := 17) (f := 13) (by decide +kernel) (show ¬ Int32.ofNat 1 = 0 by decide) ?_
    refine hs_k (x := Int32.ofNat 0) (p := 18) (by decide +kernel) ?_
    refine hs_k (x := Int32.ofNat 1) (p := 19) (by decide +kernel) ?_
    refine ht_callv (T := et_TT) (t := 13) (mi := 204) (na := 2) (ci := 11) (lk := 2) (lm := 3) (L0 := eg_en (eg_mL 204) [.ref am, .int (Int32.ofNat 0), .int (Int32.ofNat 1)]) (by decide +kernel) rfl hH k_am rfl rfl rfl rfl rfl (by rw [show eg_mL 204 = 3 from by decide +kernel]; first | done | rfl) ?_
    refine (fm_t0 hH k_am).mono (fun u hu => xp_cb hu ?_)
    show et_go none _ 180 22 _ [.int (Int32.ofNat 0)] _ _ _ _
    refine hs_if0 (c := .ne) (t := 48) (f := 25) (by decide +kernel) (show ¬ (¬ Int32.ofNat 0 = 0) by decide) ?_
    refine hs_aload (i := 0) (p := 26) (by decide +kernel) rfl ?_
    refine hs_aload (i := 0) (p := 27) (by decide +kernel) rfl ?_
    refine hf_get (T := et_TT) (t := 13) (ci := 11) (f := 1) (p := 30) (by decide +kernel) rfl hH k_am m1 ?_
    refine hs_k (x := Int32.ofNat 0) (p := 31) (by decide +kernel) ?_
    refine hf_ald (ins := .iaload) (T := et_TT) (t := 46) (kd := 0) (N := 12741) (p := 32) (by decide +kernel) (fun _ _ _ _ _ _ _ _ _ _ => rfl) rfl rfl rfl hH k_aw (by decide) w0 ?_
    refine hs_k (x := Int32.ofNat 4) (p := 33) (by decide +kernel) ?_
    refine hs_br2n (c := .ne) (t := 40) (f := 36) (by decide +kernel) (by omega) (by omega) (fun (c33 : ¬ r = 4) => ?_) (fun (c33 : ¬ (¬ r = 4)) => ?_)
    · refine hs_k (x := Int32.ofNat 0) (p := 41) (by decide +kernel) ?_
      refine hs_k (x := Int32.ofNat 2) (p := 42) (by decide +kernel) ?_
      refine ht_callv (T := et_TT) (t := 13) (mi := 204) (na := 2) (ci := 11) (lk := 2) (lm := 3) (L0 := eg_en (eg_mL 204) [.ref am, .int (Int32.ofNat 0), .int (Int32.ofNat 2)]) (by decide +kernel) rfl hH k_am rfl rfl rfl rfl rfl (by rw [show eg_mL 204 = 3 from by decide +kernel]; first | done | rfl) ?_
      refine (fm_t0 hH k_am).mono (fun u hu => xp_cb hu ?_)
      show et_go none _ 180 45 _ [.int (Int32.ofNat 0)] _ _ _ _
      refine hs_if1 (c := .eq) (t := 50) (f := 48) (by decide +kernel) (show Int32.ofNat 0 = 0 by decide) ?_
      rcases hP with ⟨-, hz⟩ | ⟨f_, C_, sq, -, g1, g2, g3, g4, g5⟩
      · cases hz
      · obtain ⟨F, W, aw2, ta, tp, pt, bg, st, dp, ai2, TP, IK, hB, -, -, ⟨hi, i1, i2, i3, i4, -, -⟩, ⟨eF, eW, -, -, -, -, -⟩, e⟩ := hi_txt hH k_am
        have ew := m1
        have ei := m18
        rw [eF, hmF_pl (by decide), hB.2.2.1] at ew
        rw [eF, hmF_pl (by decide), hi] at ei
        injection ew with ew
        injection ew with ew
        injection ei with ei
        injection ei with ei
        subst ew
        subst ei
        have hW0 := w0
        rw [eW, hmW_pl (by decide)] at hW0
        injection hW0 with hW0
        injection hW0 with hW0
        have hz : ∀ Z : eg_O → Prop, (∀ V : Nat → Int32, (∀ i, i < 841 → V (126 + 841 * r + i) = W (11900 + i)) → (∀ i, (i < 126 + 841 * r ∨ 126 + 841 * r + 841 ≤ i) → V i = W i) → Z (.inl (some (.int (Int32.ofNat r))), hm_H (eg_u G7 ai2 (.inl (3, (4, .inl (upd IK r 0))))) am aw2 F (upd V 0 (Int32.ofNat (r + 1))), 0, 0)) → et_go none (d + 35) 180 50 [some (.ref am), none] [] G7 0 0 Z := fun Z h => by
          have h1 := tl_rule (d := d + 33) (x1 := none) hB.1 hB.2.2.1 hi i1 i2 i3 i4 (by omega) hW0 h
          rw [← e] at h1
          exact h1
        refine hz _ (fun V v1 v2 => ?_)
        have hx1 := hm_xf (W1 := upd V 0 (Int32.ofNat (r + 1))) (n := r) (x := 0) hB.1 e i1 i2 i3 i4
        have hV : ∀ i, ¬ i = 0 → (i < 126 + 841 * r ∨ 126 + 841 * r + 841 ≤ i) → upd V 0 (Int32.ofNat (r + 1)) i = W i := fun i h1 h2 => (hs_un h1).trans (v2 i h2)
        have e1 : eg_at (hm_H (eg_u G7 ai2 (.inl (3, (4, .inl (upd IK r 0))))) am aw2 F (upd V 0 (Int32.ofNat (r + 1)))) aw2 = hm_W (upd V 0 (Int32.ofNat (r + 1))) := hm_w hB.1
        refine ⟨_, _, rfl, (hX.wk (fun c j _ h => by first | omega | (dsimp only at h ⊢; omega))).tr hx1 (fun c j _ hs => ?_), .inr (.inr ⟨f_, sq, by omega, rfl, (hx1.2 am 0 lt_am (fun hs => hs.elim (fun h => i1 h.1.symm) (fun h => hB.1.2.2 h.1))).trans q0, ?_, ?_⟩)⟩
        · rcases hs with ⟨rfl, rfl⟩ | ⟨rfl, hs⟩
          · exact .inr (.inl ⟨rfl, rfl⟩)
          · refine .inr (.inr ⟨rfl, ?_⟩)
            refine Decidable.by_contra (fun hc => hs (hV j (by omega) (by omega)))
        · rw [e1, hmW_pl (by decide)]
          exact congrArg (fun z => some (Value.int z)) hs_us
        · refine txP.mv eW g1 g2 g3 g4 g5 (fun i v hi2 hv => ?_)
          rw [eW, hmW_pl (by omega)] at hv
          rw [e1, hmW_pl (by omega), ← hv]
          exact congrArg (fun z => some (Value.int z)) ((hs_un (by omega)).trans (v1 i hi2))
    · refine hs_k (x := Int32.ofNat 1) (p := 37) (by decide +kernel) ?_
      refine hs_goto (p := 41) (by decide +kernel) ?_
      refine hs_k (x := Int32.ofNat 2) (p := 42) (by decide +kernel) ?_
      refine ht_callv (T := et_TT) (t := 13) (mi := 204) (na := 2) (ci := 11) (lk := 2) (lm := 3) (L0 := eg_en (eg_mL 204) [.ref am, .int (Int32.ofNat 1), .int (Int32.ofNat 2)]) (by decide +kernel) rfl hH k_am rfl rfl rfl rfl rfl (by rw [show eg_mL 204 = 3 from by decide +kernel]; first | done | rfl) ?_
      refine (fm_t1 hH k_am).mono (fun u hu => xw_cb hu (fun G42 v42 hH x42 hP42 => ?_))
      have hP := hP.fr x42 lt_aw (fun j hs => hne hs.1)
      have m4 := (x42.2 am 4 lt_am (fun h => absurd h.2 (by decide))).trans m4
      have q5 := (x42.2 am 5 lt_am (fun h => absurd h.2 (by decide))).trans q5
      have m1 := (x42.2 am 1 lt_am (fun h => absurd h.2 (by decide))).trans m1
      have m18 := (x42.2 am 18 lt_am (fun h => absurd h.2 (by decide))).trans m18
      have w0 := (x42.2 aw 0 lt_aw (fun h => hne h.1)).trans w0
      have q7 := (x42.2 am 7 lt_am (fun h => absurd h.2 (by decide))).trans q7
      have ht : ∀ i, i < n → et_pl (eg_at G42 tm) i = some (.int (sx (b i))) := fun i hi => (x42.2 tm i lt_tm (fun h => (hi_ne k_tm k_am (by decide)) h.1)).trans (ht i hi)
      have lt_am := Nat.lt_of_lt_of_le lt_am x42.1
      have lt_tm := Nat.lt_of_lt_of_le lt_tm x42.1
      have lt_aw := Nat.lt_of_lt_of_le lt_aw x42.1
      have hX := hX.tr x42 (fun b j hb h => by first | omega | (dsimp only at h ⊢; omega) | (dsimp only at h; omega) | (dsimp only; omega))
      obtain ⟨rfl, th42⟩ := hP42
      show et_go none _ 180 45 _ [.int (Int32.ofNat 1)] _ _ _ _
      refine hs_if0 (c := .eq) (t := 50) (f := 48) (by decide +kernel) (show ¬ (Int32.ofNat 1 = 0) by decide) ?_
      refine hs_k (x := Int32.ofNat 0) (p := 49) (by decide +kernel) ?_
      refine hs_iret (by decide +kernel) ?_
      rcases hP with ⟨-, hz⟩ | ⟨f_, C_, sq, -⟩
      · cases hz
      · exact ⟨_, _, rfl, hX.wk (fun c j _ h => by first | omega | (dsimp only at h ⊢; omega)), .inr (.inl ⟨by omega, (by rw [sq]; intro h; cases h), rfl, th42, w0⟩)⟩
end FRA
end
