section
/-! searches: what has been found is forgotten: a field's value at the ends of a run -/
def fg_c (f : Nat) (g : Value → Bool) (o : et_O) : Bool := o.2.1.any (fun e => decide (e.1 = 0) && (decide (e.2.1 = f) && g e.2.2))
def fg_i : Value → Bool
  | .int y => decide (y = -1)
  | _ => false
def fg_t (n : Nat) : Value → Bool
  | .float k => decide (k.toNat = n)
  | _ => false
/-- an int ends it: where it is c the field is -1, else what it was -/
def et_fg (f n : Nat) (c : Int32) (o : et_O) : Bool := match o.2.2.1 with
  | .inl (some (.int x)) => if x = c then fg_c f fg_i o else fg_c f (fg_t n) o
  | _ => false
/-- whatever ends it, the field is -1 -/
def et_fall (f n : Nat) (_ : Int32) (o : et_O) : Bool := fg_c f fg_i o && decide (n = n)
def fgZ (G : eg_G) (a f : Nat) (c : Int32) (u : eg_O) : Prop := (u.1 = .inl (some (.int c)) ∧ et_pl (eg_at u.2.1 a) f = some (.int (-1))) ∨ (¬ u.1 = .inl (some (.int c)) ∧ et_pl (eg_at u.2.1 a) f = et_pl (eg_at G a) f)
def faZ (a f : Nat) (u : eg_O) : Prop := et_pl (eg_at u.2.1 a) f = some (.int (-1))
theorem fgZ.y {G : eg_G} {a f : Nat} {c : Int32} {u : eg_O} (h : fgZ G a f c u) (e : u.1 = .inl (some (.int c))) : et_pl (eg_at u.2.1 a) f = some (.int (-1)) := h.elim (fun h => h.2) (fun h => absurd e h.1)
theorem fgZ.n {G : eg_G} {a f : Nat} {c : Int32} {u : eg_O} (h : fgZ G a f c u) (e : ¬ u.1 = .inl (some (.int c))) : et_pl (eg_at u.2.1 a) f = et_pl (eg_at G a) f := h.elim (fun h => absurd h.1 e) (fun h => h.2)
section ZZA
variable {T : List et_D} {M : et_M} {f n a : Nat} {o : et_O} {w w' : et_Wd} {u : eg_O} {x c : Int32} {as : List Value}
theorem fg_c_ok {g : Value → Bool} (h : fg_c f g o = true) (hle : et_le M (w.1, as ++ [.int x], w.2.2) w') (hen : et_end T w' o u) (ha : as[0]? = some (.ref a)) : ∃ v v', g v = true ∧ et_pl (eg_at u.2.1 a) f = some v' ∧ et_vr w'.2.1 v v' := by
  obtain ⟨b1, b2, b3, b4, b5, b6, b7⟩ := hen
  obtain ⟨a1, ⟨R1, aR⟩, a3⟩ := hle
  obtain ⟨e, he, h5⟩ := List.any_eq_true.mp h
  rw [Bool.and_eq_true, Bool.and_eq_true] at h5
  obtain ⟨i1, i2, i3⟩ := h5
  have i1 := of_decide_eq_true i1
  have i2 := of_decide_eq_true i2
  obtain ⟨a', v, c1, c2, c3, c4⟩ := b4 e he
  have h0 : w'.2.1[0]? = some (.ref a) := by
    rw [aR]
    have g : (as ++ [Value.int x])[0]? = some (.ref a) := et_get_mono ha
    rw [List.getElem?_append_left (List.getElem?_eq_some_iff.mp g).1]
    exact g
  rw [i1, h0] at c1
  cases c1
  rw [i2] at c3
  exact ⟨e.2.2, v, i3, by rw [b1]; exact c3, c4⟩
theorem fg_i_ok (h : fg_c f fg_i o = true) (hle : et_le M (w.1, as ++ [.int x], w.2.2) w') (hen : et_end T w' o u) (ha : as[0]? = some (.ref a)) : et_pl (eg_at u.2.1 a) f = some (.int (-1)) := by
  obtain ⟨v, v', h1, h2, h3⟩ := fg_c_ok h hle hen ha
  cases v with
  | int y =>
    have h4 : y = -1 := of_decide_eq_true h1
    have h5 : v' = .int y := h3
    rw [h2, h5, h4]
  | _ => cases h1
theorem fg_t_ok (h : fg_c f (fg_t n) o = true) (hle : et_le M (w.1, as ++ [.int x], w.2.2) w') (hen : et_end T w' o u) (hn : as.length = n) (ha : as[0]? = some (.ref a)) : et_pl (eg_at u.2.1 a) f = some (.int x) := by
  obtain ⟨v, v', h1, h2, h3⟩ := fg_c_ok h hle hen ha
  obtain ⟨a1, ⟨R1, aR⟩, a3⟩ := hle
  have hx : w'.2.1[n]? = some (.int x) := by
    rw [aR, ← hn]
    exact (List.getElem?_append_left (by rw [List.length_append]; exact Nat.lt_succ_self _)).trans (by rw [List.getElem?_append_right (Nat.le_refl _), Nat.sub_self]; rfl)
  cases v with
  | float k =>
    have h4 : k.toNat = n := of_decide_eq_true h1
    obtain ⟨y, rfl, h6⟩ : ∃ y, v' = .int y ∧ w'.2.1[k.toNat]? = some (.int y) := h3
    rw [h4, hx] at h6
    cases h6
    exact h2
  | _ => cases h1
end ZZA
theorem et_fgk {T : List et_D} {Ks : List et_Co} {an : Nat → Nat → Option et_A} {mi d f a d2 : Nat} {ps : List et_P} {M : et_M} {w : et_Wd} {as : List Value} {c : Int32} (hK : ∀ q ∈ Ks, et_cv T q) (hl0 : ps.length < 100)
    (h : (match et_rn T M Ks an 100000 [] none ((ps ++ [(.inl (et_mn, et_mx) : et_P)]).map (fun p => (p, none))) [(0, f, .float (UInt32.ofNat ps.length))] d mi 0 (eg_en (eg_mL mi) (et_ar 0 ps)) [] 0 0 with
      | none => false
      | some os => os.all (et_fg f ps.length c)) = true)
    (hH : et_H T w.1 w.2.2) (hd : d ≤ d2) (hl : as.length = ps.length) (hv : ∀ (i : Nat) (p : et_P) (v : Value), ps[i]? = some p → as[i]? = some v → et_v w.1 p v) (ha : as[0]? = some (.ref a)) (hlt : a < w.2.2.2) (hx : ∃ x : Int32, et_pl (eg_at w.2.2 a) f = some (.int x)) : et_go none d2 mi 0 (eg_en (eg_mL mi) as) [] w.2.2 0 0 (fgZ w.2.2 a f c) := by
  obtain ⟨x, hp⟩ := hx
  split at h
  · cases h
  · rename_i os hos
    have hb : et_mn ≤ x.toInt ∧ x.toInt ≤ et_mx := ⟨by have := x.le_toInt; unfold et_mn; omega, by have := x.toInt_lt; unfold et_mx; omega⟩
    refine et_go_c (os := os) (Z := fgZ w.2.2 a f c) hK hl0 hos hH hd hl hv ha hlt hp hb.1 hb.2 (fun o ho w' u hle hen => ?_)
    have h3 := List.all_eq_true.mp h o ho
    unfold et_fg at h3
    split at h3
    · rename_i y ey
      have b5 := hen.2.2.2.2.1
      rw [ey] at b5
      have b5 : u.1 = .inl (some (.int y)) := by
        obtain ⟨w2, b6, b7⟩ := b5
        have b7 : w2 = .int y := b7
        rw [b6, b7]
      by_cases hc : y = c
      · rw [if_pos hc] at h3
        exact .inl ⟨by rw [b5, hc], fg_i_ok h3 hle hen ha⟩
      · rw [if_neg hc] at h3
        exact .inr ⟨fun q => hc (Value.int.inj (Option.some.inj (Sum.inl.inj (b5.symm.trans q)))), (fg_t_ok h3 hle hen hl ha).trans hp.symm⟩
    · cases h3
theorem et_fak {T : List et_D} {Ks : List et_Co} {an : Nat → Nat → Option et_A} {mi d f a d2 : Nat} {ps : List et_P} {M : et_M} {w : et_Wd} {as : List Value} {c : Int32} (hK : ∀ q ∈ Ks, et_cv T q) (hl0 : ps.length < 100)
    (h : (match et_rn T M Ks an 100000 [] none ((ps ++ [(.inl (et_mn, et_mx) : et_P)]).map (fun p => (p, none))) [(0, f, .float (UInt32.ofNat ps.length))] d mi 0 (eg_en (eg_mL mi) (et_ar 0 ps)) [] 0 0 with
      | none => false
      | some os => os.all (et_fall f ps.length c)) = true)
    (hH : et_H T w.1 w.2.2) (hd : d ≤ d2) (hl : as.length = ps.length) (hv : ∀ (i : Nat) (p : et_P) (v : Value), ps[i]? = some p → as[i]? = some v → et_v w.1 p v) (ha : as[0]? = some (.ref a)) (hlt : a < w.2.2.2) (hx : ∃ x : Int32, et_pl (eg_at w.2.2 a) f = some (.int x)) : et_go none d2 mi 0 (eg_en (eg_mL mi) as) [] w.2.2 0 0 (faZ a f) := by
  obtain ⟨x, hp⟩ := hx
  split at h
  · cases h
  · rename_i os hos
    have hb : et_mn ≤ x.toInt ∧ x.toInt ≤ et_mx := ⟨by have := x.le_toInt; unfold et_mn; omega, by have := x.toInt_lt; unfold et_mx; omega⟩
    refine et_go_c (os := os) (Z := faZ a f) hK hl0 hos hH hd hl hv ha hlt hp hb.1 hb.2 (fun o ho w' u hle hen => ?_)
    have h3 := List.all_eq_true.mp h o ho
    unfold et_fall at h3
    rw [Bool.and_eq_true] at h3
    exact fg_i_ok h3.1 hle hen ha
section ZZB
variable {K : et_K} {G : eg_G} {d2 th out b : Nat} {x y z : Int32}
theorem fq_4_6 (hH : et_H et_TT K G) (k_th : K th = some 12) (k_out : K out = some 31) (hb : b ≤ 1) (hd : 4 ≤ d2) : et_go none d2 4 0 (eg_en (eg_mL 4) [.ref th, .int x, .int (Int32.ofNat b), .ref out]) [] G 0 0 (fgZ G th 6 (Int32.ofNat 0)) := by
  obtain ⟨x9, q9, -, -⟩ := hf_iv (t := 12) (f := 6) hH k_th rfl rfl
  exact et_fgk (T := et_TT) (Ks := []) (an := ek_an) (d := 4) (f := 6) (ps := [.inr (.inr (0, 12)), .inl (et_mn, et_mx), .inl (0, 1), .inr (.inr (0, 31))]) (M := [(10, 2, 2), (12, 6, 6), (12, 7, 7), (17, 0, 100000), (27, 0, 100000), (31, 0, 100000)]) (w := (K, [], G)) (as := [.ref th, .int x, .int (Int32.ofNat b), .ref out]) (a := th) (c := Int32.ofNat 0) (fun _ h => absurd h List.not_mem_nil) (by decide) (by decide +kernel) hH hd rfl (ht_ac (.inr ⟨by decide, _, rfl, k_th⟩) (ht_ac hi_any (ht_ac (hi_nv (by omega) (by omega)) (ht_ac (.inr ⟨by decide, _, rfl, k_out⟩) ht_an)))) rfl (hH.2.2 _ _ k_th).1 ⟨x9, q9⟩
theorem fq_4_7 (hH : et_H et_TT K G) (k_th : K th = some 12) (k_out : K out = some 31) (hb : b ≤ 1) (hd : 4 ≤ d2) : et_go none d2 4 0 (eg_en (eg_mL 4) [.ref th, .int x, .int (Int32.ofNat b), .ref out]) [] G 0 0 (fgZ G th 7 (Int32.ofNat 0)) := by
  obtain ⟨x9, q9, -, -⟩ := hf_iv (t := 12) (f := 7) hH k_th rfl rfl
  exact et_fgk (T := et_TT) (Ks := []) (an := ek_an) (d := 4) (f := 7) (ps := [.inr (.inr (0, 12)), .inl (et_mn, et_mx), .inl (0, 1), .inr (.inr (0, 31))]) (M := [(10, 2, 2), (12, 6, 6), (12, 7, 7), (17, 0, 100000), (27, 0, 100000), (31, 0, 100000)]) (w := (K, [], G)) (as := [.ref th, .int x, .int (Int32.ofNat b), .ref out]) (a := th) (c := Int32.ofNat 0) (fun _ h => absurd h List.not_mem_nil) (by decide) (by decide +kernel) hH hd rfl (ht_ac (.inr ⟨by decide, _, rfl, k_th⟩) (ht_ac hi_any (ht_ac (hi_nv (by omega) (by omega)) (ht_ac (.inr ⟨by decide, _, rfl, k_out⟩) ht_an)))) rfl (hH.2.2 _ _ k_th).1 ⟨x9, q9⟩
theorem fq_5_6 (hH : et_H et_TT K G) (k_th : K th = some 12) (k_out : K out = some 31) (hd : 34 ≤ d2) : et_go none d2 5 0 (eg_en (eg_mL 5) [.ref th, .int x, .int y, .ref out]) [] G 0 0 (fgZ G th 6 (Int32.ofNat 0)) := by
  obtain ⟨x9, q9, -, -⟩ := hf_iv (t := 12) (f := 6) hH k_th rfl rfl
  exact et_fgk (T := et_TT) (Ks := [hq_tells]) (an := ek_an) (d := 34) (f := 6) (ps := [.inr (.inr (0, 12)), .inl (et_mn, et_mx), .inl (et_mn, et_mx), .inr (.inr (0, 31))]) (M := [(4, 0, 0), (10, 2, 2), (12, 6, 6), (12, 7, 7), (17, 0, 100000), (27, 0, 100000), (31, 0, 100000)]) (w := (K, [], G)) (as := [.ref th, .int x, .int y, .ref out]) (a := th) (c := Int32.ofNat 0) (List.forall_mem_cons.mpr ⟨hc_tells, (fun _ h => absurd h List.not_mem_nil)⟩) (by decide) (by decide +kernel) hH hd rfl (ht_ac (.inr ⟨by decide, _, rfl, k_th⟩) (ht_ac hi_any (ht_ac hi_any (ht_ac (.inr ⟨by decide, _, rfl, k_out⟩) ht_an)))) rfl (hH.2.2 _ _ k_th).1 ⟨x9, q9⟩
theorem fq_5_7 (hH : et_H et_TT K G) (k_th : K th = some 12) (k_out : K out = some 31) (hd : 34 ≤ d2) : et_go none d2 5 0 (eg_en (eg_mL 5) [.ref th, .int x, .int y, .ref out]) [] G 0 0 (fgZ G th 7 (Int32.ofNat 0)) := by
  obtain ⟨x9, q9, -, -⟩ := hf_iv (t := 12) (f := 7) hH k_th rfl rfl
  exact et_fgk (T := et_TT) (Ks := [hq_tells]) (an := ek_an) (d := 34) (f := 7) (ps := [.inr (.inr (0, 12)), .inl (et_mn, et_mx), .inl (et_mn, et_mx), .inr (.inr (0, 31))]) (M := [(4, 0, 0), (10, 2, 2), (12, 6, 6), (12, 7, 7), (17, 0, 100000), (27, 0, 100000), (31, 0, 100000)]) (w := (K, [], G)) (as := [.ref th, .int x, .int y, .ref out]) (a := th) (c := Int32.ofNat 0) (List.forall_mem_cons.mpr ⟨hc_tells, (fun _ h => absurd h List.not_mem_nil)⟩) (by decide) (by decide +kernel) hH hd rfl (ht_ac (.inr ⟨by decide, _, rfl, k_th⟩) (ht_ac hi_any (ht_ac hi_any (ht_ac (.inr ⟨by decide, _, rfl, k_out⟩) ht_an)))) rfl (hH.2.2 _ _ k_th).1 ⟨x9, q9⟩
theorem fq_7_6 (hH : et_H et_TT K G) (k_th : K th = some 12) (k_out : K out = some 31) (hd : 3 ≤ d2) : et_go none d2 7 0 (eg_en (eg_mL 7) [.ref th, .int x, .int y, .int z, .ref out]) [] G 0 0 (fgZ G th 6 (Int32.ofNat 0)) := by
  obtain ⟨x9, q9, -, -⟩ := hf_iv (t := 12) (f := 6) hH k_th rfl rfl
  exact et_fgk (T := et_TT) (Ks := []) (an := ek_an) (d := 3) (f := 6) (ps := [.inr (.inr (0, 12)), .inl (et_mn, et_mx), .inl (et_mn, et_mx), .inl (et_mn, et_mx), .inr (.inr (0, 31))]) (M := [(3, 0, 0), (12, 6, 6), (12, 7, 7), (15, 0, 100000), (31, 0, 100000)]) (w := (K, [], G)) (as := [.ref th, .int x, .int y, .int z, .ref out]) (a := th) (c := Int32.ofNat 0) (fun _ h => absurd h List.not_mem_nil) (by decide) (by decide +kernel) hH hd rfl (ht_ac (.inr ⟨by decide, _, rfl, k_th⟩) (ht_ac hi_any (ht_ac hi_any (ht_ac hi_any (ht_ac (.inr ⟨by decide, _, rfl, k_out⟩) ht_an))))) rfl (hH.2.2 _ _ k_th).1 ⟨x9, q9⟩
theorem fq_7_7 (hH : et_H et_TT K G) (k_th : K th = some 12) (k_out : K out = some 31) (hd : 3 ≤ d2) : et_go none d2 7 0 (eg_en (eg_mL 7) [.ref th, .int x, .int y, .int z, .ref out]) [] G 0 0 (fgZ G th 7 (Int32.ofNat 0)) := by
  obtain ⟨x9, q9, -, -⟩ := hf_iv (t := 12) (f := 7) hH k_th rfl rfl
  exact et_fgk (T := et_TT) (Ks := []) (an := ek_an) (d := 3) (f := 7) (ps := [.inr (.inr (0, 12)), .inl (et_mn, et_mx), .inl (et_mn, et_mx), .inl (et_mn, et_mx), .inr (.inr (0, 31))]) (M := [(3, 0, 0), (12, 6, 6), (12, 7, 7), (15, 0, 100000), (31, 0, 100000)]) (w := (K, [], G)) (as := [.ref th, .int x, .int y, .int z, .ref out]) (a := th) (c := Int32.ofNat 0) (fun _ h => absurd h List.not_mem_nil) (by decide) (by decide +kernel) hH hd rfl (ht_ac (.inr ⟨by decide, _, rfl, k_th⟩) (ht_ac hi_any (ht_ac hi_any (ht_ac hi_any (ht_ac (.inr ⟨by decide, _, rfl, k_out⟩) ht_an))))) rfl (hH.2.2 _ _ k_th).1 ⟨x9, q9⟩
theorem fq_16_6 (hH : et_H et_TT K G) (k_th : K th = some 12) (k_out : K out = some 31) (hd : 15 ≤ d2) : et_go none d2 16 0 (eg_en (eg_mL 16) [.ref th, .int x, .int y, .ref out]) [] G 0 0 (fgZ G th 6 (Int32.ofNat 0)) := by
  obtain ⟨x9, q9, -, -⟩ := hf_iv (t := 12) (f := 6) hH k_th rfl rfl
  exact et_fgk (T := et_TT) (Ks := [es_q0, es_q1, es_q2, es_q3, es_q4, es_q5, es_q6, es_q7, es_q8, es_q9, es_q10, es_q11, es_q12, es_q13, es_q14, es_q19, hq_begin]) (an := es_an) (d := 15) (f := 6) (ps := [.inr (.inr (0, 12)), .inl (et_mn, et_mx), .inl (et_mn, et_mx), .inr (.inr (0, 31))]) (M := [(9, 4, 4), (9, 5, 5), (9, 6, 6), (9, 7, 7), (9, 8, 8), (9, 9, 9), (9, 13, 13), (9, 15, 15), (9, 16, 16), (12, 6, 6), (12, 7, 7), (51, 0, 100000), (19, 0, 100000), (45, 0, 100000), (31, 0, 100000)]) (w := (K, [], G)) (as := [.ref th, .int x, .int y, .ref out]) (a := th) (c := Int32.ofNat 0) (List.forall_mem_cons.mpr ⟨es_c0, (List.forall_mem_cons.mpr ⟨es_c1, (List.forall_mem_cons.mpr ⟨es_c2, (List.forall_mem_cons.mpr ⟨es_c3, (List.forall_mem_cons.mpr ⟨es_c4, (List.forall_mem_cons.mpr ⟨es_c5, (List.forall_mem_cons.mpr ⟨es_c6, (List.forall_mem_cons.mpr ⟨es_c7, (List.forall_mem_cons.mpr ⟨es_c8, (List.forall_mem_cons.mpr ⟨es_c9, (List.forall_mem_cons.mpr ⟨es_c10, (List.forall_mem_cons.mpr ⟨es_c11, (List.forall_mem_cons.mpr ⟨es_c12, (List.forall_mem_cons.mpr ⟨es_c13, (List.forall_mem_cons.mpr ⟨es_c14, (List.forall_mem_cons.mpr ⟨(es_c19 hc_begin hc_each hc_boundOf), (List.forall_mem_cons.mpr ⟨hc_begin, (fun _ h => absurd h List.not_mem_nil)⟩)⟩)⟩)⟩)⟩)⟩)⟩)⟩)⟩)⟩)⟩)⟩)⟩)⟩)⟩)⟩)⟩) (by decide) (by decide +kernel) hH hd rfl (ht_ac (.inr ⟨by decide, _, rfl, k_th⟩) (ht_ac hi_any (ht_ac hi_any (ht_ac (.inr ⟨by decide, _, rfl, k_out⟩) ht_an)))) rfl (hH.2.2 _ _ k_th).1 ⟨x9, q9⟩
theorem fq_16_7 (hH : et_H et_TT K G) (k_th : K th = some 12) (k_out : K out = some 31) (hd : 15 ≤ d2) : et_go none d2 16 0 (eg_en (eg_mL 16) [.ref th, .int x, .int y, .ref out]) [] G 0 0 (fgZ G th 7 (Int32.ofNat 0)) := by
  obtain ⟨x9, q9, -, -⟩ := hf_iv (t := 12) (f := 7) hH k_th rfl rfl
  exact et_fgk (T := et_TT) (Ks := [es_q0, es_q1, es_q2, es_q3, es_q4, es_q5, es_q6, es_q7, es_q8, es_q9, es_q10, es_q11, es_q12, es_q13, es_q14, es_q19, hq_begin]) (an := es_an) (d := 15) (f := 7) (ps := [.inr (.inr (0, 12)), .inl (et_mn, et_mx), .inl (et_mn, et_mx), .inr (.inr (0, 31))]) (M := [(9, 4, 4), (9, 5, 5), (9, 6, 6), (9, 7, 7), (9, 8, 8), (9, 9, 9), (9, 13, 13), (9, 15, 15), (9, 16, 16), (12, 6, 6), (12, 7, 7), (51, 0, 100000), (19, 0, 100000), (45, 0, 100000), (31, 0, 100000)]) (w := (K, [], G)) (as := [.ref th, .int x, .int y, .ref out]) (a := th) (c := Int32.ofNat 0) (List.forall_mem_cons.mpr ⟨es_c0, (List.forall_mem_cons.mpr ⟨es_c1, (List.forall_mem_cons.mpr ⟨es_c2, (List.forall_mem_cons.mpr ⟨es_c3, (List.forall_mem_cons.mpr ⟨es_c4, (List.forall_mem_cons.mpr ⟨es_c5, (List.forall_mem_cons.mpr ⟨es_c6, (List.forall_mem_cons.mpr ⟨es_c7, (List.forall_mem_cons.mpr ⟨es_c8, (List.forall_mem_cons.mpr ⟨es_c9, (List.forall_mem_cons.mpr ⟨es_c10, (List.forall_mem_cons.mpr ⟨es_c11, (List.forall_mem_cons.mpr ⟨es_c12, (List.forall_mem_cons.mpr ⟨es_c13, (List.forall_mem_cons.mpr ⟨es_c14, (List.forall_mem_cons.mpr ⟨(es_c19 hc_begin hc_each hc_boundOf), (List.forall_mem_cons.mpr ⟨hc_begin, (fun _ h => absurd h List.not_mem_nil)⟩)⟩)⟩)⟩)⟩)⟩)⟩)⟩)⟩)⟩)⟩)⟩)⟩)⟩)⟩)⟩)⟩) (by decide) (by decide +kernel) hH hd rfl (ht_ac (.inr ⟨by decide, _, rfl, k_th⟩) (ht_ac hi_any (ht_ac hi_any (ht_ac (.inr ⟨by decide, _, rfl, k_out⟩) ht_an)))) rfl (hH.2.2 _ _ k_th).1 ⟨x9, q9⟩
theorem fq_28_6 (hH : et_H et_TT K G) (k_th : K th = some 12) (k_out : K out = some 31) (hb : b ≤ 1) (hd : 22 ≤ d2) : et_go none d2 28 0 (eg_en (eg_mL 28) [.ref th, .int x, .int y, .int (Int32.ofNat b), .ref out]) [] G 0 0 (fgZ G th 6 (Int32.ofNat 0)) := by
  obtain ⟨x9, q9, -, -⟩ := hf_iv (t := 12) (f := 6) hH k_th rfl rfl
  exact et_fgk (T := et_TT) (Ks := [es_q0, es_q1, es_q2, es_q3, es_q4, es_q5, es_q6, es_q7, es_q8, es_q9, es_q10, es_q11, es_q12, es_q13, es_q14, es_q21, hq_each]) (an := es_an) (d := 22) (f := 6) (ps := [.inr (.inr (0, 12)), .inl (et_mn, et_mx), .inl (et_mn, et_mx), .inl (0, 1), .inr (.inr (0, 31))]) (M := [(9, 4, 4), (9, 5, 5), (9, 6, 6), (9, 7, 7), (9, 8, 8), (9, 9, 9), (9, 10, 10), (9, 11, 11), (9, 12, 12), (9, 13, 13), (9, 15, 15), (9, 16, 16), (12, 6, 6), (12, 7, 7), (51, 0, 100000), (19, 0, 100000), (45, 0, 100000), (31, 0, 100000)]) (w := (K, [], G)) (as := [.ref th, .int x, .int y, .int (Int32.ofNat b), .ref out]) (a := th) (c := Int32.ofNat 0) (List.forall_mem_cons.mpr ⟨es_c0, (List.forall_mem_cons.mpr ⟨es_c1, (List.forall_mem_cons.mpr ⟨es_c2, (List.forall_mem_cons.mpr ⟨es_c3, (List.forall_mem_cons.mpr ⟨es_c4, (List.forall_mem_cons.mpr ⟨es_c5, (List.forall_mem_cons.mpr ⟨es_c6, (List.forall_mem_cons.mpr ⟨es_c7, (List.forall_mem_cons.mpr ⟨es_c8, (List.forall_mem_cons.mpr ⟨es_c9, (List.forall_mem_cons.mpr ⟨es_c10, (List.forall_mem_cons.mpr ⟨es_c11, (List.forall_mem_cons.mpr ⟨es_c12, (List.forall_mem_cons.mpr ⟨es_c13, (List.forall_mem_cons.mpr ⟨es_c14, (List.forall_mem_cons.mpr ⟨es_c21, (List.forall_mem_cons.mpr ⟨hc_each, (fun _ h => absurd h List.not_mem_nil)⟩)⟩)⟩)⟩)⟩)⟩)⟩)⟩)⟩)⟩)⟩)⟩)⟩)⟩)⟩)⟩)⟩) (by decide) (by decide +kernel) hH hd rfl (ht_ac (.inr ⟨by decide, _, rfl, k_th⟩) (ht_ac hi_any (ht_ac hi_any (ht_ac (hi_nv (by omega) (by omega)) (ht_ac (.inr ⟨by decide, _, rfl, k_out⟩) ht_an))))) rfl (hH.2.2 _ _ k_th).1 ⟨x9, q9⟩
theorem fq_28_7 (hH : et_H et_TT K G) (k_th : K th = some 12) (k_out : K out = some 31) (hb : b ≤ 1) (hd : 22 ≤ d2) : et_go none d2 28 0 (eg_en (eg_mL 28) [.ref th, .int x, .int y, .int (Int32.ofNat b), .ref out]) [] G 0 0 (fgZ G th 7 (Int32.ofNat 0)) := by
  obtain ⟨x9, q9, -, -⟩ := hf_iv (t := 12) (f := 7) hH k_th rfl rfl
  exact et_fgk (T := et_TT) (Ks := [es_q0, es_q1, es_q2, es_q3, es_q4, es_q5, es_q6, es_q7, es_q8, es_q9, es_q10, es_q11, es_q12, es_q13, es_q14, es_q21, hq_each]) (an := es_an) (d := 22) (f := 7) (ps := [.inr (.inr (0, 12)), .inl (et_mn, et_mx), .inl (et_mn, et_mx), .inl (0, 1), .inr (.inr (0, 31))]) (M := [(9, 4, 4), (9, 5, 5), (9, 6, 6), (9, 7, 7), (9, 8, 8), (9, 9, 9), (9, 10, 10), (9, 11, 11), (9, 12, 12), (9, 13, 13), (9, 15, 15), (9, 16, 16), (12, 6, 6), (12, 7, 7), (51, 0, 100000), (19, 0, 100000), (45, 0, 100000), (31, 0, 100000)]) (w := (K, [], G)) (as := [.ref th, .int x, .int y, .int (Int32.ofNat b), .ref out]) (a := th) (c := Int32.ofNat 0) (List.forall_mem_cons.mpr ⟨es_c0, (List.forall_mem_cons.mpr ⟨es_c1, (List.forall_mem_cons.mpr ⟨es_c2, (List.forall_mem_cons.mpr ⟨es_c3, (List.forall_mem_cons.mpr ⟨es_c4, (List.forall_mem_cons.mpr ⟨es_c5, (List.forall_mem_cons.mpr ⟨es_c6, (List.forall_mem_cons.mpr ⟨es_c7, (List.forall_mem_cons.mpr ⟨es_c8, (List.forall_mem_cons.mpr ⟨es_c9, (List.forall_mem_cons.mpr ⟨es_c10, (List.forall_mem_cons.mpr ⟨es_c11, (List.forall_mem_cons.mpr ⟨es_c12, (List.forall_mem_cons.mpr ⟨es_c13, (List.forall_mem_cons.mpr ⟨es_c14, (List.forall_mem_cons.mpr ⟨es_c21, (List.forall_mem_cons.mpr ⟨hc_each, (fun _ h => absurd h List.not_mem_nil)⟩)⟩)⟩)⟩)⟩)⟩)⟩)⟩)⟩)⟩)⟩)⟩)⟩)⟩)⟩)⟩)⟩) (by decide) (by decide +kernel) hH hd rfl (ht_ac (.inr ⟨by decide, _, rfl, k_th⟩) (ht_ac hi_any (ht_ac hi_any (ht_ac (hi_nv (by omega) (by omega)) (ht_ac (.inr ⟨by decide, _, rfl, k_out⟩) ht_an))))) rfl (hH.2.2 _ _ k_th).1 ⟨x9, q9⟩
theorem fq_125_6 (hH : et_H et_TT K G) (k_th : K th = some 12) (hd : 3 ≤ d2) : et_go none d2 125 0 (eg_en (eg_mL 125) [.ref th]) [] G 0 0 (fgZ G th 6 (Int32.ofNat 1)) := by
  obtain ⟨x9, q9, -, -⟩ := hf_iv (t := 12) (f := 6) hH k_th rfl rfl
  exact et_fgk (T := et_TT) (Ks := [ek_q5, ek_q6]) (an := ek_an) (d := 3) (f := 6) (ps := [.inr (.inr (0, 12))]) (M := [(3, 0, 0), (3, 4, 4), (3, 5, 5), (3, 6, 6), (3, 7, 7), (10, 0, 0), (10, 2, 2), (10, 5, 5), (10, 7, 7), (10, 9, 9), (12, 6, 6), (12, 7, 7), (15, 0, 100000), (17, 0, 100000), (27, 0, 100000), (37, 0, 100000), (38, 0, 100000), (39, 0, 100000)]) (w := (K, [], G)) (as := [.ref th]) (a := th) (c := Int32.ofNat 1) (List.forall_mem_cons.mpr ⟨ek_c5, (List.forall_mem_cons.mpr ⟨ek_c6, (fun _ h => absurd h List.not_mem_nil)⟩)⟩) (by decide) (by decide +kernel) hH hd rfl (ht_ac (.inr ⟨by decide, _, rfl, k_th⟩) ht_an) rfl (hH.2.2 _ _ k_th).1 ⟨x9, q9⟩
theorem fq_125_7 (hH : et_H et_TT K G) (k_th : K th = some 12) (hd : 3 ≤ d2) : et_go none d2 125 0 (eg_en (eg_mL 125) [.ref th]) [] G 0 0 (fgZ G th 7 (Int32.ofNat 1)) := by
  obtain ⟨x9, q9, -, -⟩ := hf_iv (t := 12) (f := 7) hH k_th rfl rfl
  exact et_fgk (T := et_TT) (Ks := [ek_q5, ek_q6]) (an := ek_an) (d := 3) (f := 7) (ps := [.inr (.inr (0, 12))]) (M := [(3, 0, 0), (3, 4, 4), (3, 5, 5), (3, 6, 6), (3, 7, 7), (10, 0, 0), (10, 2, 2), (10, 5, 5), (10, 7, 7), (10, 9, 9), (12, 6, 6), (12, 7, 7), (15, 0, 100000), (17, 0, 100000), (27, 0, 100000), (37, 0, 100000), (38, 0, 100000), (39, 0, 100000)]) (w := (K, [], G)) (as := [.ref th]) (a := th) (c := Int32.ofNat 1) (List.forall_mem_cons.mpr ⟨ek_c5, (List.forall_mem_cons.mpr ⟨ek_c6, (fun _ h => absurd h List.not_mem_nil)⟩)⟩) (by decide) (by decide +kernel) hH hd rfl (ht_ac (.inr ⟨by decide, _, rfl, k_th⟩) ht_an) rfl (hH.2.2 _ _ k_th).1 ⟨x9, q9⟩
end ZZB
end
section
/-! searches: read forgets what was found -/
section AAA
variable {K : et_K} {G : eg_G} {d d2 th s0 s1 ya yb ec e n k b out : Nat} {x y z : Int32} {V : Nat → evT} {O : Nat → Nat} {A : Nat → Nat → Nat}
theorem fd_readF (hH : et_H et_TT K G) (k_th : K th = some 12) (h0 : et_pl (eg_at G th) 0 = some (.ref s0)) (k_s0 : K s0 = some 10) (h5 : et_pl (eg_at G s0) 5 = some (.int (Int32.ofNat ec))) (hec : ec ≤ 3) (h6 : et_pl (eg_at G s0) 6 = some (.ref ya)) (k_ya : K ya = some 40) (hn : n < ec) (hE : et_pl (eg_at G ya) n = some (.ref e)) (k_e : K e = some 3) (hk1 : 1 ≤ k) (hk : k ≤ 2) (hb : b ≤ 1) (hd : 21 ≤ d2) : et_go none d2 171 0 (eg_en (eg_mL 171) [.ref th, .int (Int32.ofNat n), .int (Int32.ofNat k), .int (Int32.ofNat b)]) [] G 0 0 (fun u => ∃ z, u.1 = .inl (some (.int z)) ∧ et_pl (eg_at u.2.1 th) 6 = some (.int (-1))) := by
  obtain ⟨d, rfl⟩ : ∃ d, d2 = d + 21 := ⟨d2 - 21, by omega⟩
  rw [show eg_mL 171 = 5 from by decide +kernel]
  show et_go none (d + 21) 171 0 [some (.ref th), some (.int (Int32.ofNat n)), some (.int (Int32.ofNat k)), some (.int (Int32.ofNat b)), none] [] G 0 0 _
  have lt_th := (hH.2.2 _ _ k_th).1
  have lt_s0 := (hH.2.2 _ _ k_s0).1
  have lt_ya := (hH.2.2 _ _ k_ya).1
  refine hs_aload (i := 0) (p := 1) (by decide +kernel) rfl ?_
  refine hs_iload (i := 1) (p := 2) (by decide +kernel) rfl ?_
  refine ht_callv (T := et_TT) (t := 12) (mi := 128) (na := 1) (ci := 10) (lk := 5) (lm := 2) (L0 := eg_en (eg_mL 128) [.ref th, .int (Int32.ofNat n)]) (by decide +kernel) rfl hH k_th rfl rfl rfl rfl rfl (by rw [show eg_mL 128 = 2 from by decide +kernel]; first | done | rfl) ?_
  refine (fd_needE hH k_th h0 k_s0 h5 hec h6 k_ya hn hE).mono (fun u hu => xp_cb hu ?_)
  show et_go none _ 171 5 _ [.ref e] _ _ _ _
  refine hs_astore (i := 4) (p := 7) (by decide +kernel) (Nat.le_of_ble_eq_true rfl) ?_
  refine hs_iload (i := 2) (p := 8) (by decide +kernel) rfl ?_
  refine hs_k (x := Int32.ofNat 2) (p := 9) (by decide +kernel) ?_
  refine hs_calls (mi := 150) (na := 2) (lk := 5) (lm := 2) (L0 := eg_en (eg_mL 150) [.int (Int32.ofNat k), .int (Int32.ofNat 2)]) (by decide +kernel) rfl rfl rfl rfl rfl rfl (by rw [show eg_mL 150 = 2 from by decide +kernel]; first | done | rfl) ?_
  refine (fd_nk hk1 hk (by decide)).mono (fun u hu => xp_cb hu ?_)
  show et_go none _ 171 12 _ [] _ _ _ _
  refine hs_aload (i := 0) (p := 13) (by decide +kernel) rfl ?_
  refine ht_callv (T := et_TT) (t := 12) (mi := 120) (na := 0) (ci := 10) (lk := 5) (lm := 1) (L0 := eg_en (eg_mL 120) [.ref th]) (by decide +kernel) rfl hH k_th rfl rfl rfl rfl rfl (by rw [show eg_mL 120 = 1 from by decide +kernel]; first | done | rfl) ?_
  refine (fd_fgt hH k_th).mono (fun u9 hu9 => xw_cb hu9 (fun G2 v2 hH2 x2 hP2 => ?_))
  obtain ⟨rfl, h6, -⟩ := hP2
  have hq9 := et_pok (T := et_TT) (Ks := [es_q0, es_q1, es_q2, es_q3, es_q4, es_q5, es_q6, es_q7, es_q8, es_q9, es_q10, es_q11, es_q12, es_q13, es_q14, es_q21, hq_each]) (an := es_an) (mi := 171) (pc := 16) (ps := [.inr (.inr (0, 12)), .inl (et_mn, et_mx), .inl (0, 3), .inl (0, 1), .inr (.inr (0, 3))]) (M := [(9, 4, 4), (9, 5, 5), (9, 6, 6), (9, 7, 7), (9, 8, 8), (9, 9, 9), (9, 10, 10), (9, 11, 11), (9, 12, 12), (9, 13, 13), (9, 15, 15), (9, 16, 16), (51, 0, 100000), (19, 0, 100000), (45, 0, 100000)]) (es := [(.inl (some (.inl (et_mn, et_mx))), 0, 0)]) (w := (K, [], G2)) (as := [.ref th, .int (Int32.ofNat n), .int (Int32.ofNat k), .int (Int32.ofNat b), .ref e]) (d := 21) (d2 := d + 21) (List.forall_mem_cons.mpr ⟨es_c0, (List.forall_mem_cons.mpr ⟨es_c1, (List.forall_mem_cons.mpr ⟨es_c2, (List.forall_mem_cons.mpr ⟨es_c3, (List.forall_mem_cons.mpr ⟨es_c4, (List.forall_mem_cons.mpr ⟨es_c5, (List.forall_mem_cons.mpr ⟨es_c6, (List.forall_mem_cons.mpr ⟨es_c7, (List.forall_mem_cons.mpr ⟨es_c8, (List.forall_mem_cons.mpr ⟨es_c9, (List.forall_mem_cons.mpr ⟨es_c10, (List.forall_mem_cons.mpr ⟨es_c11, (List.forall_mem_cons.mpr ⟨es_c12, (List.forall_mem_cons.mpr ⟨es_c13, (List.forall_mem_cons.mpr ⟨es_c14, (List.forall_mem_cons.mpr ⟨es_c21, (List.forall_mem_cons.mpr ⟨hc_each, (fun _ h => absurd h List.not_mem_nil)⟩)⟩)⟩)⟩)⟩)⟩)⟩)⟩)⟩)⟩)⟩)⟩)⟩)⟩)⟩)⟩)⟩) (by decide) (by decide +kernel) hH2 (by omega) rfl (ht_ac (.inr ⟨by decide, _, rfl, k_th⟩) (ht_ac hi_any (ht_ac (hi_nv (by omega) (by omega)) (ht_ac (hi_nv (by omega) (by omega)) (ht_ac (.inr ⟨by decide, _, rfl, k_e⟩) ht_an)))))
  rw [show eg_mL 171 = 5 from by decide +kernel] at hq9
  refine et_go.mono hq9 (fun u hu => ?_)
  obtain ⟨es9, hes9, K9, hx9, hf9, -, hv9, -, -⟩ := hu
  obtain rfl := List.mem_singleton.mp hes9
  obtain ⟨v9, hv1, hv2⟩ := hv9
  obtain ⟨n9, rfl, -, -⟩ := hi_int hv2
  exact ⟨n9, hv1, (hf9.2 th 12 k_th 6 (by decide +kernel)).trans h6⟩
theorem fd_readR (hH : et_H et_TT K G) (k_th : K th = some 12) (h0 : et_pl (eg_at G th) 0 = some (.ref s0)) (k_s0 : K s0 = some 10) (h5 : et_pl (eg_at G s0) 5 = some (.int (Int32.ofNat ec))) (hec : ec ≤ 3) (h6 : et_pl (eg_at G s0) 6 = some (.ref ya)) (k_ya : K ya = some 40) (hn : n < ec) (hE : et_pl (eg_at G ya) n = some (.ref e)) (hy : ¬ (1 ≤ y.toInt ∧ y.toInt ≤ 2)) (hd : 5 ≤ d2) : et_go none d2 171 0 (eg_en (eg_mL 171) [.ref th, .int (Int32.ofNat n), .int y, .int z]) [] G 0 0 (ix_Z 0 G) := by
  obtain ⟨d, rfl⟩ : ∃ d, d2 = d + 5 := ⟨d2 - 5, by omega⟩
  rw [show eg_mL 171 = 5 from by decide +kernel]
  show et_go none (d + 5) 171 0 [some (.ref th), some (.int (Int32.ofNat n)), some (.int y), some (.int z), none] [] G 0 0 _
  have lt_th := (hH.2.2 _ _ k_th).1
  have lt_s0 := (hH.2.2 _ _ k_s0).1
  have lt_ya := (hH.2.2 _ _ k_ya).1
  refine hs_aload (i := 0) (p := 1) (by decide +kernel) rfl ?_
  refine hs_iload (i := 1) (p := 2) (by decide +kernel) rfl ?_
  refine ht_callv (T := et_TT) (t := 12) (mi := 128) (na := 1) (ci := 10) (lk := 5) (lm := 2) (L0 := eg_en (eg_mL 128) [.ref th, .int (Int32.ofNat n)]) (by decide +kernel) rfl hH k_th rfl rfl rfl rfl rfl (by rw [show eg_mL 128 = 2 from by decide +kernel]; first | done | rfl) ?_
  refine (fd_needE hH k_th h0 k_s0 h5 hec h6 k_ya hn hE).mono (fun u hu => xp_cb hu ?_)
  show et_go none _ 171 5 _ [.ref e] _ _ _ _
  refine hs_astore (i := 4) (p := 7) (by decide +kernel) (Nat.le_of_ble_eq_true rfl) ?_
  refine hs_iload (i := 2) (p := 8) (by decide +kernel) rfl ?_
  refine hs_k (x := Int32.ofNat 2) (p := 9) (by decide +kernel) ?_
  refine hs_calls (mi := 150) (na := 2) (lk := 5) (lm := 2) (L0 := eg_en (eg_mL 150) [.int y, .int (Int32.ofNat 2)]) (by decide +kernel) rfl rfl rfl rfl rfl rfl (by rw [show eg_mL 150 = 2 from by decide +kernel]; first | done | rfl) ?_
  refine (fd_nkn (q := 2) (by decide) hy).mono (fun u hu => ?_)
  obtain ⟨c9, s9, rfl⟩ := hu
  refine hf_cx (by decide +kernel) ?_
  exact ⟨_, _, rfl⟩
theorem fd_readE (hH : et_H et_TT K G) (k_th : K th = some 12) (h0 : et_pl (eg_at G th) 0 = some (.ref s0)) (k_s0 : K s0 = some 10) (h5 : et_pl (eg_at G s0) 5 = some (.int (Int32.ofNat ec))) (hec : ec ≤ 3) (h6 : et_pl (eg_at G s0) 6 = some (.ref ya)) (k_ya : K ya = some 40) (hx : ¬ xr x ec) (hd : 5 ≤ d2) : et_go none d2 171 0 (eg_en (eg_mL 171) [.ref th, .int x, .int y, .int z]) [] G 0 0 (ix_Z 1 G) := by
  obtain ⟨d, rfl⟩ : ∃ d, d2 = d + 5 := ⟨d2 - 5, by omega⟩
  rw [show eg_mL 171 = 5 from by decide +kernel]
  show et_go none (d + 5) 171 0 [some (.ref th), some (.int x), some (.int y), some (.int z), none] [] G 0 0 _
  have lt_th := (hH.2.2 _ _ k_th).1
  have lt_s0 := (hH.2.2 _ _ k_s0).1
  have lt_ya := (hH.2.2 _ _ k_ya).1
  refine hs_aload (i := 0) (p := 1) (by decide +kernel) rfl ?_
  refine hs_iload (i := 1) (p := 2) (by decide +kernel) rfl ?_
  refine ht_callv (T := et_TT) (t := 12) (mi := 128) (na := 1) (ci := 10) (lk := 5) (lm := 2) (L0 := eg_en (eg_mL 128) [.ref th, .int x]) (by decide +kernel) rfl hH k_th rfl rfl rfl rfl rfl (by rw [show eg_mL 128 = 2 from by decide +kernel]; first | done | rfl) ?_
  refine (fd_needEn hH k_th h0 k_s0 h5 hec h6 k_ya hx).mono (fun u hu => ?_)
  obtain ⟨c2, s2, rfl⟩ := hu
  refine hf_cx (by decide +kernel) ?_
  exact ⟨_, _, rfl⟩
theorem fh_readF (hH : et_H et_TT K G) (k_th : K th = some 12) (h0 : et_pl (eg_at G th) 0 = some (.ref s0)) (k_s0 : K s0 = some 10) (h5 : et_pl (eg_at G s0) 5 = some (.int (Int32.ofNat ec))) (hec : ec ≤ 3) (h6 : et_pl (eg_at G s0) 6 = some (.ref ya)) (k_ya : K ya = some 40) (hn : n < ec) (hE : et_pl (eg_at G ya) n = some (.ref e)) (k_e : K e = some 3) (k_out : K out = some 31) (hk1 : 1 ≤ k) (hk : k ≤ 2) (hb : b ≤ 1) (hd : 22 ≤ d2) : et_go none d2 28 0 (eg_en (eg_mL 28) [.ref th, .int (Int32.ofNat n), .int (Int32.ofNat k), .int (Int32.ofNat b), .ref out]) [] G 0 0 (fun u => et_pl (eg_at u.2.1 th) 6 = some (.int (-1))) := by
  obtain ⟨d, rfl⟩ : ∃ d, d2 = d + 22 := ⟨d2 - 22, by omega⟩
  rw [show eg_mL 28 = 6 from by decide +kernel]
  show et_go none (d + 22) 28 0 [some (.ref th), some (.int (Int32.ofNat n)), some (.int (Int32.ofNat k)), some (.int (Int32.ofNat b)), some (.ref out), none] [] G 0 0 _
  refine hs_aload (i := 4) (p := 2) (by decide +kernel) rfl ?_
  refine hs_k (x := Int32.ofNat 0) (p := 3) (by decide +kernel) ?_
  refine hs_aload (i := 0) (p := 4) (by decide +kernel) rfl ?_
  refine hs_iload (i := 1) (p := 5) (by decide +kernel) rfl ?_
  refine hs_iload (i := 2) (p := 6) (by decide +kernel) rfl ?_
  refine hs_iload (i := 3) (p := 7) (by decide +kernel) rfl ?_
  refine ht_callv (T := et_TT) (t := 12) (mi := 171) (na := 3) (ci := 10) (lk := 6) (lm := 5) (L0 := eg_en (eg_mL 171) [.ref th, .int (Int32.ofNat n), .int (Int32.ofNat k), .int (Int32.ofNat b)]) (by decide +kernel) rfl hH k_th rfl rfl rfl rfl rfl (by rw [show eg_mL 171 = 5 from by decide +kernel]; first | done | rfl) ?_
  refine ((es_s171 (K, [], G) [.ref th, .int (Int32.ofNat n), .int (Int32.ofNat k), .int (Int32.ofNat b)] _ hH (by show 21 ≤ _; omega) rfl (ht_ac (.inr ⟨by decide, _, rfl, k_th⟩) (ht_ac hi_any (ht_ac hi_any (ht_ac (hi_nv (by omega) (by omega)) ht_an))))).and (fd_readF hH k_th h0 k_s0 h5 hec h6 k_ya hn hE k_e hk1 hk hb (by omega))).mono (fun u hu => ?_)
  obtain ⟨⟨es, hes, K1, hx1, hf1, hH1, hv1, -, -⟩, z9, hz, h6⟩ := hu
  obtain ⟨u1, u2, u3, u4⟩ := u
  have hz : u1 = .inl (some (.int z9)) := hz
  subst hz
  have h6 : et_pl (eg_at u2 th) 6 = some (.int (-1)) := h6
  rcases List.mem_cons.mp hes with rfl | hes
  · have hH := hH1
    have k_out := hx1 _ _ k_out
    have k_th := hx1 _ _ k_th
    refine hs_cb ?_
    show et_go none _ 28 10 _ [.int z9, .int (Int32.ofNat 0), .ref out] _ _ _ _
    refine hs_i2l (p := 11) (by decide +kernel) ?_
    have hHo := hH
    refine hf_lst (T := et_TT) (t := 31) (N := 1) (p := 12) (by decide +kernel) rfl rfl hH k_out (by omega) (by decide) (fun G11 hH x11 e11 => ?_)
    have h6 := (x11.2 th 6 (hHo.2.2 _ _ k_th).1 (fun h => hi_ne k_th k_out (by decide) h.1)).trans h6
    refine hs_goto (p := 23) (by decide +kernel) ?_
    refine hs_k (x := Int32.ofNat 0) (p := 24) (by decide +kernel) ?_
    refine hs_iret (by decide +kernel) ?_
    exact h6
  · rcases List.mem_cons.mp hes with rfl | hes
    · have hv1 : (Sum.inl (some (Value.int z9)) : eg_R) = .inr 0 := hv1
      cases hv1
    obtain rfl := List.mem_singleton.mp hes
    have hv1 : (Sum.inl (some (Value.int z9)) : eg_R) = .inr 1 := hv1
    cases hv1
theorem fh_readR (hH : et_H et_TT K G) (k_th : K th = some 12) (h0 : et_pl (eg_at G th) 0 = some (.ref s0)) (k_s0 : K s0 = some 10) (h5 : et_pl (eg_at G s0) 5 = some (.int (Int32.ofNat ec))) (hec : ec ≤ 3) (h6 : et_pl (eg_at G s0) 6 = some (.ref ya)) (k_ya : K ya = some 40) (hn : n < ec) (hE : et_pl (eg_at G ya) n = some (.ref e)) (hy : ¬ (1 ≤ y.toInt ∧ y.toInt ≤ 2)) (hd : 6 ≤ d2) : et_go none d2 28 0 (eg_en (eg_mL 28) [.ref th, .int (Int32.ofNat n), .int y, .int z, .ref out]) [] G 0 0 (fun u => u.1 = .inl (some (.int (Int32.ofNat 2))) ∧ u.2.1 = G) := by
  obtain ⟨d, rfl⟩ : ∃ d, d2 = d + 6 := ⟨d2 - 6, by omega⟩
  rw [show eg_mL 28 = 6 from by decide +kernel]
  show et_go none (d + 6) 28 0 [some (.ref th), some (.int (Int32.ofNat n)), some (.int y), some (.int z), some (.ref out), none] [] G 0 0 _
  have lt_th := (hH.2.2 _ _ k_th).1
  refine hs_aload (i := 4) (p := 2) (by decide +kernel) rfl ?_
  refine hs_k (x := Int32.ofNat 0) (p := 3) (by decide +kernel) ?_
  refine hs_aload (i := 0) (p := 4) (by decide +kernel) rfl ?_
  refine hs_iload (i := 1) (p := 5) (by decide +kernel) rfl ?_
  refine hs_iload (i := 2) (p := 6) (by decide +kernel) rfl ?_
  refine hs_iload (i := 3) (p := 7) (by decide +kernel) rfl ?_
  refine ht_callv (T := et_TT) (t := 12) (mi := 171) (na := 3) (ci := 10) (lk := 6) (lm := 5) (L0 := eg_en (eg_mL 171) [.ref th, .int (Int32.ofNat n), .int y, .int z]) (by decide +kernel) rfl hH k_th rfl rfl rfl rfl rfl (by rw [show eg_mL 171 = 5 from by decide +kernel]; first | done | rfl) ?_
  refine (fd_readR hH k_th h0 k_s0 h5 hec h6 k_ya hn hE hy (by omega)).mono (fun u hu => ?_)
  obtain ⟨c7, s7, rfl⟩ := hu
  refine hs_ch (h := 19) (i := 5) (n := 2) (hh := (eg_mh 28).getD []) (by decide +kernel) ⟨by decide +kernel, by decide +kernel⟩ (Nat.le_of_ble_eq_true rfl) ?_
  show et_go none _ 28 21 [some (.ref th), some (.int (Int32.ofNat n)), some (.int y), some (.int z), some (.ref out), none] [] _ _ _ _
  refine hs_k (x := Int32.ofNat 2) (p := 22) (by decide +kernel) ?_
  refine hs_iret (by decide +kernel) ?_
  exact ⟨rfl, rfl⟩
theorem fh_readE (hH : et_H et_TT K G) (k_th : K th = some 12) (h0 : et_pl (eg_at G th) 0 = some (.ref s0)) (k_s0 : K s0 = some 10) (h5 : et_pl (eg_at G s0) 5 = some (.int (Int32.ofNat ec))) (hec : ec ≤ 3) (h6 : et_pl (eg_at G s0) 6 = some (.ref ya)) (k_ya : K ya = some 40) (hx : ¬ xr x ec) (hd : 6 ≤ d2) : et_go none d2 28 0 (eg_en (eg_mL 28) [.ref th, .int x, .int y, .int z, .ref out]) [] G 0 0 (fun u => u.1 = .inl (some (.int (Int32.ofNat 1))) ∧ u.2.1 = G) := by
  obtain ⟨d, rfl⟩ : ∃ d, d2 = d + 6 := ⟨d2 - 6, by omega⟩
  rw [show eg_mL 28 = 6 from by decide +kernel]
  show et_go none (d + 6) 28 0 [some (.ref th), some (.int x), some (.int y), some (.int z), some (.ref out), none] [] G 0 0 _
  have lt_th := (hH.2.2 _ _ k_th).1
  refine hs_aload (i := 4) (p := 2) (by decide +kernel) rfl ?_
  refine hs_k (x := Int32.ofNat 0) (p := 3) (by decide +kernel) ?_
  refine hs_aload (i := 0) (p := 4) (by decide +kernel) rfl ?_
  refine hs_iload (i := 1) (p := 5) (by decide +kernel) rfl ?_
  refine hs_iload (i := 2) (p := 6) (by decide +kernel) rfl ?_
  refine hs_iload (i := 3) (p := 7) (by decide +kernel) rfl ?_
  refine ht_callv (T := et_TT) (t := 12) (mi := 171) (na := 3) (ci := 10) (lk := 6) (lm := 5) (L0 := eg_en (eg_mL 171) [.ref th, .int x, .int y, .int z]) (by decide +kernel) rfl hH k_th rfl rfl rfl rfl rfl (by rw [show eg_mL 171 = 5 from by decide +kernel]; first | done | rfl) ?_
  refine (fd_readE hH k_th h0 k_s0 h5 hec h6 k_ya hx (by omega)).mono (fun u hu => ?_)
  obtain ⟨c7, s7, rfl⟩ := hu
  refine hs_ch (h := 15) (i := 5) (n := 2) (hh := (eg_mh 28).getD []) (by decide +kernel) ⟨by decide +kernel, by decide +kernel⟩ (Nat.le_of_ble_eq_true rfl) ?_
  show et_go none _ 28 17 [some (.ref th), some (.int x), some (.int y), some (.int z), some (.ref out), none] [] _ _ _ _
  refine hs_k (x := Int32.ofNat 1) (p := 18) (by decide +kernel) ?_
  refine hs_iret (by decide +kernel) ?_
  exact ⟨rfl, rfl⟩
theorem fz_readF (hH : et_H et_TT K G) (k_th : K th = some 12) (h0 : et_pl (eg_at G th) 0 = some (.ref s0)) (k_s0 : K s0 = some 10) (k_s1 : K s1 = some 10) (h5 : et_pl (eg_at G s0) 5 = some (.int (Int32.ofNat ec))) (hec : ec ≤ 3) (t : ezK K ya yb O A) (hz : ez G th s0 s1 ya yb O A V) (ho : ∀ n, n < 6 → evo (V n)) (k_out : K out = some 31) (hb : b ≤ 1) (hd : 34 ≤ d2) : et_go none d2 28 0 (eg_en (eg_mL 28) [.ref th, .int x, .int y, .int (Int32.ofNat b), .ref out]) [] G 0 0 (fun u => et_pl (eg_at u.2.1 th) 6 = some (.int (-1)) ∨ u.2.1 = G) := by
  by_cases hx : xr x ec
  · obtain ⟨n, rfl, hn⟩ := xr_nat hx (by omega)
    by_cases hs3 : (1 ≤ y.toInt ∧ y.toInt ≤ 2)
    · obtain ⟨k, rfl, q2, q3⟩ := hs_toN (x := y) (by omega)
      exact (fh_readF hH k_th h0 k_s0 h5 hec hz.1.1 t.1.1 hn (hz.2.1 n (by omega)).1 (t.2.1 n (by omega)).1 k_out (by omega) (by omega) hb (by omega)).mono (fun u hu => .inl hu)
    · exact (fh_readR hH k_th h0 k_s0 h5 hec hz.1.1 t.1.1 hn (hz.2.1 n (by omega)).1 hs3 (by omega)).mono (fun u hu => .inr hu.2)
  · exact (fh_readE hH k_th h0 k_s0 h5 hec hz.1.1 t.1.1 hx (by omega)).mono (fun u hu => .inr hu.2)
theorem fq_124 (hH : et_H et_TT K G) (k_th : K th = some 12) (hd : 3 ≤ d2) : et_go none d2 124 0 (eg_en (eg_mL 124) [.ref th]) [] G 0 0 (fun u => et_pl (eg_at u.2.1 th) 6 = et_pl (eg_at G th) 6 ∧ et_pl (eg_at u.2.1 th) 7 = et_pl (eg_at G th) 7) := (ek_p124_ok (K, [], G) [.ref th] d2 hH hd rfl (ht_ac (.inr ⟨by decide, _, rfl, k_th⟩) ht_an)).mono (fun u hu => by
  obtain ⟨_, _, _, _, hf, -⟩ := hu
  exact ⟨hf.2 th 12 k_th 6 rfl, hf.2 th 12 k_th 7 rfl⟩)
theorem fq_aw (hH : et_H et_TT K G) (k_th : K th = some 12) (h0 : et_pl (eg_at G th) 0 = some (.ref s0)) (k_s0 : K s0 = some 10) (h2 : et_pl (eg_at G s0) 2 = some (.int (Int32.ofNat n))) (hn : n ≤ 20) (hd : 1 ≤ d2) : et_go none d2 119 0 (eg_en (eg_mL 119) [.ref th]) [] G 0 0 (fun u => (n = 0 → u.2.1 = G) ∧ (¬ n = 0 → et_pl (eg_at u.2.1 th) 6 = some (.int (-1)))) := by
  obtain ⟨d, rfl⟩ : ∃ d, d2 = d + 1 := ⟨d2 - 1, by omega⟩
  rw [show eg_mL 119 = 1 from by decide +kernel]
  show et_go none (d + 1) 119 0 [some (.ref th)] [] G 0 0 _
  have lt_th := (hH.2.2 _ _ k_th).1
  have lt_s0 := (hH.2.2 _ _ k_s0).1
  refine hs_aload (i := 0) (p := 1) (by decide +kernel) rfl ?_
  refine hf_get (T := et_TT) (t := 12) (ci := 10) (f := 0) (p := 4) (by decide +kernel) rfl hH k_th h0 ?_
  refine hf_get (T := et_TT) (t := 10) (ci := 8) (f := 2) (p := 7) (by decide +kernel) rfl hH k_s0 h2 ?_
  refine hs_br1 (c := .ne) (t := 12) (f := 10) (by decide +kernel) (fun (c7 : ¬ Int32.ofNat n = 0) => ?_) (fun (c7 : ¬ (¬ Int32.ofNat n = 0)) => ?_)
  · have c7 : ¬ n = 0 := fun h => c7 (by rw [h]; rfl)
    refine hs_aload (i := 0) (p := 13) (by decide +kernel) rfl ?_
    refine ht_callv (T := et_TT) (t := 12) (mi := 120) (na := 0) (ci := 10) (lk := 1) (lm := 1) (L0 := eg_en (eg_mL 120) [.ref th]) (by decide +kernel) rfl hH k_th rfl rfl rfl rfl rfl (by rw [show eg_mL 120 = 1 from by decide +kernel]; first | done | rfl) ?_
    refine (fd_fgt hH k_th).mono (fun u hu => xw_cb hu (fun G13 v13 hH x13 hP13 => ?_))
    have h0 := (x13.2 th 0 lt_th (fun h => absurd h.2 (by decide))).trans h0
    have h2 := (x13.2 s0 2 lt_s0 (fun h => (hi_ne k_s0 k_th (by decide)) h.1)).trans h2
    have lt_th := Nat.lt_of_lt_of_le lt_th x13.1
    have lt_s0 := Nat.lt_of_lt_of_le lt_s0 x13.1
    obtain ⟨rfl, q6_, q7_⟩ := hP13
    show et_go none _ 119 16 _ [] _ _ _ _
    refine hs_aload (i := 0) (p := 17) (by decide +kernel) rfl ?_
    refine hf_get (T := et_TT) (t := 12) (ci := 10) (f := 0) (p := 20) (by decide +kernel) rfl hH k_th h0 ?_
    refine hs_dup1 (p := 21) (by decide +kernel) ?_
    refine hf_get (T := et_TT) (t := 10) (ci := 8) (f := 2) (p := 24) (by decide +kernel) rfl hH k_s0 h2 ?_
    refine hs_k (x := Int32.ofNat 1) (p := 25) (by decide +kernel) ?_
    refine hs_isubn (p := 26) (by decide +kernel) (by omega) ?_
    refine hf_put (T := et_TT) (t := 10) (ci := 8) (f := 2) (p := 29) (ty := .int) (by decide +kernel) rfl rfl rfl rfl rfl hH k_s0 (hi_nv (by omega) (by omega)) (fun G26 hH x26 e26 => ?_)
    have h0 := (x26.2 th 0 lt_th (fun h => (hi_ne k_th k_s0 (by decide)) h.1)).trans h0
    have q6_ := (x26.2 th 6 lt_th (fun h => (hi_ne k_th k_s0 (by decide)) h.1)).trans q6_
    have lt_th := Nat.lt_of_lt_of_le lt_th x26.1
    have lt_s0 := Nat.lt_of_lt_of_le lt_s0 x26.1
    refine hs_aload (i := 0) (p := 30) (by decide +kernel) rfl ?_
    refine hf_get (T := et_TT) (t := 12) (ci := 10) (f := 0) (p := 33) (by decide +kernel) rfl hH k_th h0 ?_
    refine hf_get (T := et_TT) (t := 10) (ci := 8) (f := 2) (p := 36) (by decide +kernel) rfl hH k_s0 e26 ?_
    refine hs_iret (by decide +kernel) ?_
    exact ⟨fun h => absurd h c7, fun _ => q6_⟩
  · have c7 : n = 0 := by have h := Decidable.of_not_not c7; have h2 := congrArg Int32.toInt h; rw [hs_nint (by omega)] at h2; have h3 : (0 : Int32).toInt = 0 := rfl; omega
    refine hs_k (x := (-1)) (p := 11) (by decide +kernel) ?_
    refine hs_iret (by decide +kernel) ?_
    exact ⟨fun _ => rfl, fun h => absurd c7 h⟩
theorem fq_bk0 (hH : et_H et_TT K G) (k_th : K th = some 12) (hp : ph_at G th b) (hb : b ≤ 1) (hd3 : 3 ≤ d2) : et_go none d2 125 0 (eg_en (eg_mL 125) [.ref th]) [] G 0 0 (fun u => b = 0 → u.2.1 = G) := by
  by_cases h0 : b = 0
  · subst h0
    have hp : et_pl (eg_at G th) 2 = some (.int (Int32.ofNat 0)) := hp
    rw [show eg_mL 125 = 1 from by decide +kernel]
    show et_go none d2 125 0 [some (.ref th)] [] G 0 0 _
    have lt_th := (hH.2.2 _ _ k_th).1
    refine hs_aload (i := 0) (p := 1) (by decide +kernel) rfl ?_
    refine hf_get (T := et_TT) (t := 12) (ci := 10) (f := 2) (p := 4) (by decide +kernel) rfl hH k_th hp ?_
    refine hs_if0 (c := .ne) (t := 9) (f := 7) (by decide +kernel) (show ¬ (¬ Int32.ofNat 0 = 0) by decide) ?_
    refine hs_k (x := Int32.ofNat 0) (p := 8) (by decide +kernel) ?_
    refine hs_zret (by decide +kernel) (.inl rfl) ?_
    exact fun _ => rfl
  · exact (fq_125_6 (d2 := d2) hH k_th hd3).mono (fun u _ h => absurd h h0)
end AAA
end
