section
/-! searches: what has been found is forgotten: a field's value at the ends of a run -/
def fg_c (f : Nat) (g : Value → Bool) (o : et_O) : Bool := o.2.1.any (fun e => decide (e.1 = 0) && (decide (e.2.1 = f) && g e.2.2))
def fg_i : Value → Bool
  | .int y => decide (y = -1)
  | _ => false
def fg_t (n : Nat) : Value → Bool
  | .float k => decide (k.toNat = n)
  | _ => false
/-- an int ends it: where it is c the field is -1, else what it was -/
def et_fg (f n : Nat) (c : Int32) (o : et_O) : Bool := match o.2.2.1 with
  | .inl (some (.int x)) => if x = c then fg_c f fg_i o else fg_c f (fg_t n) o
  | _ => false
/-- whatever ends it, the field is -1 -/
def et_fall (f n : Nat) (_ : Int32) (o : et_O) : Bool := fg_c f fg_i o && decide (n = n)
def fgZ (G : eg_G) (a f : Nat) (c : Int32) (u : eg_O) : Prop := (u.1 = .inl (some (.int c)) ∧ et_pl (eg_at u.2.1 a) f = some (.int (-1))) ∨ (¬ u.1 = .inl (some (.int c)) ∧ et_pl (eg_at u.2.1 a) f = et_pl (eg_at G a) f)
def faZ (a f : Nat) (u : eg_O) : Prop := et_pl (eg_at u.2.1 a) f = some (.int (-1))
theorem fgZ.y {G : eg_G} {a f : Nat} {c : Int32} {u : eg_O} (h : fgZ G a f c u) (e : u.1 = .inl (some (.int c))) : et_pl (eg_at u.2.1 a) f = some (.int (-1)) := h.elim (fun h => h.2) (fun h => absurd e h.1)
theorem fgZ.n {G : eg_G} {a f : Nat} {c : Int32} {u : eg_O} (h : fgZ G a f c u) (e : ¬ u.1 = .inl (some (.int c))) : et_pl (eg_at u.2.1 a) f = et_pl (eg_at G a) f := h.elim (fun h => absurd h.1 e) (fun h => h.2)
section ZZA
variable {T : List et_D} {M : et_M} {f n a : Nat} {o : et_O} {w w' : et_Wd} {u : eg_O} {x c : Int32} {as : List Value}
theorem fg_c_ok {g : Value → Bool} (h : fg_c f g o = true) (hle : et_le M (w.1, as ++ [.int x], w.2.2) w') (hen : et_end T w' o u) (ha : as[0]? = some (.ref a)) : ∃ v v', g v = true ∧ et_pl (eg_at u.2.1 a) f = some v' ∧ et_vr w'.2.1 v v' := by
  obtain ⟨b1, b2, b3, b4, b5, b6, b7⟩ := hen
  obtain ⟨a1, ⟨R1, aR⟩, a3⟩ := hle
  obtain ⟨e, he, h5⟩ := List.any_eq_true.mp h
  rw [Bool.and_eq_true, Bool.and_eq_true] at h5
  obtain ⟨i1, i2, i3⟩ := h5
  have i1 := of_decide_eq_true i1
  have i2 := of_decide_eq_true i2
  obtain ⟨a', v, c1, c2, c3, c4⟩ := b4 e he
  have h0 : w'.2.1[0]? = some (.ref a) := by
    rw [aR]
    have g : (as ++ [Value.int x])[0]? = some (.ref a) := et_get_mono ha
    rw [List.getElem?_append_left (List.getElem?_eq_some_iff.mp g).1]
    exact g
  rw [i1, h0] at c1
  cases c1
  rw [i2] at c3
  exact ⟨e.2.2, v, i3, by rw [b1]; exact c3, c4⟩
theorem fg_i_ok (h : fg_c f fg_i o = true) (hle : et_le M (w.1, as ++ [.int x], w.2.2) w') (hen : et_end T w' o u) (ha : as[0]? = some (.ref a)) : et_pl (eg_at u.2.1 a) f = some (.int (-1)) := by
  obtain ⟨v, v', h1, h2, h3⟩ := fg_c_ok h hle hen ha
  cases v with
  | int y =>
    have h4 : y = -1 := of_decide_eq_true h1
    have h5 : v' = .int y := h3
    rw [h2, h5, h4]
  | _ => cases h1
theorem fg_t_ok (h : fg_c f (fg_t n) o = true) (hle : et_le M (w.1, as ++ [.int x], w.2.2) w') (hen : et_end T w' o u) (hn : as.length = n) (ha : as[0]? = some (.ref a)) : et_pl (eg_at u.2.1 a) f = some (.int x) := by
  obtain ⟨v, v', h1, h2, h3⟩ := fg_c_ok h hle hen ha
  obtain ⟨a1, ⟨R1, aR⟩, a3⟩ := hle
  have hx : w'.2.1[n]? = some (.int x) := by
    rw [aR, ← hn]
    exact (List.getElem?_append_left (by rw [List.length_append]; exact Nat.lt_succ_self _)).trans (by rw [List.getElem?_append_right (Nat.le_refl _), Nat.sub_self]; rfl)
  cases v with
  | float k =>
    have h4 : k.toNat = n := of_decide_eq_true h1
    obtain ⟨y, rfl, h6⟩ : ∃ y, v' = .int y ∧ w'.2.1[k.toNat]? = some (.int y) := h3
    rw [h4, hx] at h6
    cases h6
    exact h2
  | _ => cases h1
end ZZA
theorem et_fgk {T : List et_D} {Ks : List et_Co} {an : Nat → Nat → Option et_A} {mi d f a d2 : Nat} {ps : List et_P} {M : et_M} {w : et_Wd} {as : List Value} {c : Int32} (hK : ∀ q ∈ Ks, et_cv T q) (hl0 : ps.length < 100)
    (h : (match et_rn T M Ks an 100000 [] none ((ps ++ [(.inl (et_mn, et_mx) : et_P)]).map (fun p => (p, none))) [(0, f, .float (UInt32.ofNat ps.length))] d mi 0 (eg_en (eg_mL mi) (et_ar 0 ps)) [] 0 0 with
      | none => false
      | some os => os.all (et_fg f ps.length c)) = true)
    (hH : et_H T w.1 w.2.2) (hd : d ≤ d2) (hl : as.length = ps.length) (hv : ∀ (i : Nat) (p : et_P) (v : Value), ps[i]? = some p → as[i]? = some v → et_v w.1 p v) (ha : as[0]? = some (.ref a)) (hlt : a < w.2.2.2) (hx : ∃ x : Int32, et_pl (eg_at w.2.2 a) f = some (.int x)) : et_go none d2 mi 0 (eg_en (eg_mL mi) as) [] w.2.2 0 0 (fgZ w.2.2 a f c) := by
  obtain ⟨x, hp⟩ := hx
  split at h
  · cases h
  · rename_i os hos
    have hb : et_mn ≤ x.toInt ∧ x.toInt ≤ et_mx := ⟨by have := x.le_toInt; unfold et_mn; omega, by have := x.toInt_lt; unfold et_mx; omega⟩
    refine et_go_c (os := os) (Z := fgZ w.2.2 a f c) hK hl0 hos hH hd hl hv ha hlt hp hb.1 hb.2 (fun o ho w' u hle hen => ?_)
    have h3 := List.all_eq_true.mp h o ho
    unfold et_fg at h3
    split at h3
    · rename_i y ey
      have b5 := hen.2.2.2.2.1
      rw [ey] at b5
      have b5 : u.1 = .inl (some (.int y)) := by
        obtain ⟨w2, b6, b7⟩ := b5
        have b7 : w2 = .int y := b7
        rw [b6, b7]
      by_cases hc : y = c
      · rw [if_pos hc] at h3
        exact .inl ⟨by rw [b5, hc], fg_i_ok h3 hle hen ha⟩
      · rw [if_neg hc] at h3
        exact .inr ⟨fun q => hc (Value.int.inj (Option.some.inj (Sum.inl.inj (b5.symm.trans q)))), (fg_t_ok h3 hle hen hl ha).trans hp.symm⟩
    · cases h3
theorem et_fak {T : List et_D} {Ks : List et_Co} {an : Nat → Nat → Option et_A} {mi d f a d2 : Nat} {ps : List et_P} {M : et_M} {w : et_Wd} {as : List Value} {c : Int32} (hK : ∀ q ∈ Ks, et_cv T q) (hl0 : ps.length < 100)
    (h : (match et_rn T M Ks an 100000 [] none ((ps ++ [(.inl (et_mn, et_mx) : et_P)]).map (fun p => (p, none))) [(0, f, .float (UInt32.ofNat ps.length))] d mi 0 (eg_en (eg_mL mi) (et_ar 0 ps)) [] 0 0 with
      | none => false
      | some os => os.all (et_fall f ps.length c)) = true)
    (hH : et_H T w.1 w.2.2) (hd : d ≤ d2) (hl : as.length = ps.length) (hv : ∀ (i : Nat) (p : et_P) (v : Value), ps[i]? = some p → as[i]? = some v → et_v w.1 p v) (ha : as[0]? = some (.ref a)) (hlt : a < w.2.2.2) (hx : ∃ x : Int32, et_pl (eg_at w.2.2 a) f = some (.int x)) : et_go none d2 mi 0 (eg_en (eg_mL mi) as) [] w.2.2 0 0 (faZ a f) := by
  obtain ⟨x, hp⟩ := hx
  split at h
  · cases h
  · rename_i os hos
    have hb : et_mn ≤ x.toInt ∧ x.toInt ≤ et_mx := ⟨by have := x.le_toInt; unfold et_mn; omega, by have := x.toInt_lt; unfold et_mx; omega⟩
    refine et_go_c (os := os) (Z := faZ a f) hK hl0 hos hH hd hl hv ha hlt hp hb.1 hb.2 (fun o ho w' u hle hen => ?_)
    have h3 := List.all_eq_true.mp h o ho
    unfold et_fall at h3
    rw [Bool.and_eq_true] at h3
    exact fg_i_ok h3.1 hle hen ha
section ZZB
variable {K : et_K} {G : eg_G} {d2 th out b : Nat} {x y z : Int32}
theorem fq_4_6 (hH : et_H et_TT K G) (k_th : K th = some 12) (k_out : K out = some 31) (hb : b ≤ 1) (hd : 4 ≤ d2) : et_go none d2 4 0 (eg_en (eg_mL 4) [.ref th, .int x, .int (Int32.ofNat b), .ref out]) [] G 0 0 (fgZ G th 6 (Int32.ofNat 0)) := by
  obtain ⟨x9, q9, -, -⟩ := hf_iv (t := 12) (f := 6) hH k_th rfl rfl
  exact et_fgk (T := et_TT) (Ks := []) (an := ek_an) (d := 4) (f := 6) (ps := [.inr (.inr (0, 12)), .inl (et_mn, et_mx), .inl (0, 1), .inr (.inr (0, 31))]) (M := [(10, 2, 2), (12, 6, 6), (12, 7, 7), (17, 0, 100000), (27, 0, 100000), (31, 0, 100000)]) (w := (K, [], G)) (as := [.ref th, .int x, .int (Int32.ofNat b), .ref out]) (a := th) (c := Int32.ofNat 0) (fun _ h => absurd h List.not_mem_nil) (by decide) (by decide +kernel) hH hd rfl (ht_ac (.inr ⟨by decide, _, rfl, k_th⟩) (ht_ac hi_any (ht_ac (hi_nv (by omega) (by omega)) (ht_ac (.inr ⟨by decide, _, rfl, k_out⟩) ht_an)))) rfl (hH.2.2 _ _ k_th).1 ⟨x9, q9⟩
theorem fq_4_7 (hH : et_H et_TT K G) (k_th : K th = some 12) (k_out : K out = some 31) (hb : b ≤ 1) (hd : 4 ≤ d2) : et_go none d2 4 0 (eg_en (eg_mL 4) [.ref th, .int x, .int (Int32.ofNat b), .ref out]) [] G 0 0 (fgZ G th 7 (Int32.ofNat 0)) := by
  obtain ⟨x9, q9, -, -⟩ := hf_iv (t := 12) (f := 7) hH k_th rfl rfl
  exact et_fgk (T := et_TT) (Ks := []) (an := ek_an) (d := 4) (f := 7) (ps := [.inr (.inr (0, 12)), .inl (et_mn, et_mx), .inl (0, 1), .inr (.inr (0, 31))]) (M := [(10, 2, 2), (12, 6, 6), (12, 7, 7), (17, 0, 100000), (27, 0, 100000), (31, 0, 100000)]) (w := (K, [], G)) (as := [.ref th, .int x, .int (Int32.ofNat b), .ref out]) (a := th) (c := Int32.ofNat 0) (fun _ h => absurd h List.not_mem_nil) (by decide) (by decide +kernel) hH hd rfl (ht_ac (.inr ⟨by decide, _, rfl, k_th⟩) (ht_ac hi_any (ht_ac (hi_nv (by omega) (by omega)) (ht_ac (.inr ⟨by decide, _, rfl, k_out⟩) ht_an)))) rfl (hH.2.2 _ _ k_th).1 ⟨x9, q9⟩
theorem fq_5_6 (hH : et_H et_TT K G) (k_th : K th = some 12) (k_out : K out = some 31) (hd : 34 ≤ d2) : et_go none d2 5 0 (eg_en (eg_mL 5) [.ref th, .int x, .int y, .ref out]) [] G 0 0 (fgZ G th 6 (Int32.ofNat 0)) := by
  obtain ⟨x9, q9, -, -⟩ := hf_iv (t := 12) (f := 6) hH k_th rfl rfl
  exact et_fgk (T := et_TT) (Ks := [hq_tells]) (an := ek_an) (d := 34) (f := 6) (ps := [.inr (.inr (0, 12)), .inl (et_mn, et_mx), .inl (et_mn, et_mx), .inr (.inr (0, 31))]) (M := [(4, 0, 0), (10, 2, 2), (12, 6, 6), (12, 7, 7), (17, 0, 100000), (27, 0, 100000), (31, 0, 100000)]) (w := (K, [], G)) (as := [.ref th, .int x, .int y, .ref out]) (a := th) (c := Int32.ofNat 0) (List.forall_mem_cons.mpr ⟨hc_tells, (fun _ h => absurd h List.not_mem_nil)⟩) (by decide) (by decide +kernel) hH hd rfl (ht_ac (.inr ⟨by decide, _, rfl, k_th⟩) (ht_ac hi_any (ht_ac hi_any (ht_ac (.inr ⟨by decide, _, rfl, k_out⟩) ht_an)))) rfl (hH.2.2 _ _ k_th).1 ⟨x9, q9⟩
theorem fq_5_7 (hH : et_H et_TT K G) (k_th : K th = some 12) (k_out : K out = some 31) (hd : 34 ≤ d2) : et_go none d2 5 0 (eg_en (eg_mL 5) [.ref th, .int x, .int y, .ref out]) [] G 0 0 (fgZ G th 7 (Int32.ofNat 0)) := by
  obtain ⟨x9, q9, -, -⟩ := hf_iv (t := 12) (f := 7) hH k_th rfl rfl
  exact et_fgk (T := et_TT) (Ks := [hq_tells]) (an := ek_an) (d := 34) (f := 7) (ps := [.inr (.inr (0, 12)), .inl (et_mn, et_mx), .inl (et_mn, et_mx), .inr (.inr (0, 31))]) (M := [(4, 0, 0), (10, 2, 2), (12, 6, 6), (12, 7, 7), (17, 0, 100000), (27, 0, 100000), (31, 0, 100000)]) (w := (K, [], G)) (as := [.ref th, .int x, .int y, .ref out]) (a := th) (c := Int32.ofNat 0) (List.forall_mem_cons.mpr ⟨hc_tells, (fun _ h => absurd h List.not_mem_nil)⟩) (by decide) (by decide +kernel) hH hd rfl (ht_ac (.inr ⟨by decide, _, rfl, k_th⟩) (ht_ac hi_any (ht_ac hi_any (ht_ac (.inr ⟨by decide, _, rfl, k_out⟩) ht_an)))) rfl (hH.2.2 _ _ k_th).1 ⟨x9, q9⟩
theorem fq_7_6 (hH : et_H et_TT K G) (k_th : K th = some 12) (k_out : K out = some 31) (hd : 3 ≤ d2) : et_go none d2 7 0 (eg_en (eg_mL 7) [.ref th, .int x, .int y, .int z, .ref out]) [] G 0 0 (fgZ G th 6 (Int32.ofNat 0)) := by
  obtain ⟨x9, q9, -, -⟩ := hf_iv (t := 12) (f := 6) hH k_th rfl rfl
  exact et_fgk (T := et_TT) (Ks := []) (an := ek_an) (d := 3) (f := 6) (ps := [.inr (.inr (0, 12)), .inl (et_mn, et_mx), .inl (et_mn, et_mx), .inl (et_mn, et_mx), .inr (.inr (0, 31))]) (M := [(3, 0, 0), (12, 6, 6), (12, 7, 7), (15, 0, 100000), (31, 0, 100000)]) (w := (K, [], G)) (as := [.ref th, .int x, .int y, .int z, .ref out]) (a := th) (c := Int32.ofNat 0) (fun _ h => absurd h List.not_mem_nil) (by decide) (by decide +kernel) hH hd rfl (ht_ac (.inr ⟨by decide, _, rfl, k_th⟩) (ht_ac hi_any (ht_ac hi_any (ht_ac hi_any (ht_ac (.inr ⟨by decide, _, rfl, k_out⟩) ht_an))))) rfl (hH.2.2 _ _ k_th).1 ⟨x9, q9⟩
theorem fq_7_7 (hH : et_H et_TT K G) (k_th : K th = some 12) (k_out : K out = some 31) (hd : 3 ≤ d2) : et_go none d2 7 0 (eg_en (eg_mL 7) [.ref th, .int x, .int y, .int z, .ref out]) [] G 0 0 (fgZ G th 7 (Int32.ofNat 0)) := by
  obtain ⟨x9, q9, -, -⟩ := hf_iv (t := 12) (f := 7) hH k_th rfl rfl
  exact et_fgk (T := et_TT) (Ks := []) (an := ek_an) (d := 3) (f := 7) (ps := [.inr (.inr (0, 12)), .inl (et_mn, et_mx), .inl (et_mn, et_mx), .inl (et_mn, et_mx), .inr (.inr (0, 31))]) (M := [(3, 0, 0), (12, 6, 6), (12, 7, 7), (15, 0, 100000), (31, 0, 100000)]) (w := (K, [], G)) (as := [.ref th, .int x, .int y, .int z, .ref out]) (a := th) (c := Int32.ofNat 0) (fun _ h => absurd h List.not_mem_nil) (by decide) (by decide +kernel) hH hd rfl (ht_ac (.inr ⟨by decide, _, rfl, k_th⟩) (ht_ac hi_any (ht_ac hi_any (ht_ac hi_any (ht_ac (.inr ⟨by decide, _, rfl, k_out⟩) ht_an))))) rfl (hH.2.2 _ _ k_th).1 ⟨x9, q9⟩
theorem fq_16_6 (hH : et_H et_TT K G) (k_th : K th = some 12) (k_out : K out = some 31) (hd : 15 ≤ d2) : et_go none d2 16 0 (eg_en (eg_mL 16) [.ref th, .int x, .int y, .ref out]) [] G 0 0 (fgZ G th 6 (Int32.ofNat 0)) := by
  obtain ⟨x9, q9, -, -⟩ := hf_iv (t := 12) (f := 6) hH k_th rfl rfl
  exact et_fgk (T := et_TT) (Ks := [es_q0, es_q1, es_q2, es_q3, es_q4, es_q5, es_q6, es_q7, es_q8, es_q9, es_q10, es_q11, es_q12, es_q13, es_q14, es_q19, hq_begin]) (an := es_an) (d := 15) (f := 6) (ps := [.inr (.inr (0, 12)), .inl (et_mn, et_mx), .inl (et_mn, et_mx), .inr (.inr (0, 31))]) (M := [(9, 4, 4), (9, 5, 5), (9, 6, 6), (9, 7, 7), (9, 8, 8), (9, 9, 9), (9, 13, 13), (9, 15, 15), (9, 16, 16), (12, 6, 6), (12, 7, 7), (51, 0, 100000), (19, 0, 100000), (45, 0, 100000), (31, 0, 100000)]) (w := (K, [], G)) (as := [.ref th, .int x, .int y, .ref out]) (a := th) (c := Int32.ofNat 0) (List.forall_mem_cons.mpr ⟨es_c0, (List.forall_mem_cons.mpr ⟨es_c1, (List.forall_mem_cons.mpr ⟨es_c2, (List.forall_mem_cons.mpr ⟨es_c3, (List.forall_mem_cons.mpr ⟨es_c4, (List.forall_mem_cons.mpr ⟨es_c5, (List.forall_mem_cons.mpr ⟨es_c6, (List.forall_mem_cons.mpr ⟨es_c7, (List.forall_mem_cons.mpr ⟨es_c8, (List.forall_mem_cons.mpr ⟨es_c9, (List.forall_mem_cons.mpr ⟨es_c10, (List.forall_mem_cons.mpr ⟨es_c11, (List.forall_mem_cons.mpr ⟨es_c12, (List.forall_mem_cons.mpr ⟨es_c13, (List.forall_mem_cons.mpr ⟨es_c14, (List.forall_mem_cons.mpr ⟨(es_c19 hc_begin hc_each hc_boundOf), (List.forall_mem_cons.mpr ⟨hc_begin, (fun _ h => absurd h List.not_mem_nil)⟩)⟩)⟩)⟩)⟩)⟩)⟩)⟩)⟩)⟩)⟩)⟩)⟩)⟩)⟩)⟩)⟩) (by decide) (by decide +kernel) hH hd rfl (ht_ac (.inr ⟨by decide, _, rfl, k_th⟩) (ht_ac hi_any (ht_ac hi_any (ht_ac (.inr ⟨by decide, _, rfl, k_out⟩) ht_an)))) rfl (hH.2.2 _ _ k_th).1 ⟨x9, q9⟩
theorem fq_16_7 (hH : et_H et_TT K G) (k_th : K th = some 12) (k_out : K out = some 31) (hd : 15 ≤ d2) : et_go none d2 16 0 (eg_en (eg_mL 16) [.ref th, .int x, .int y, .ref out]) [] G 0 0 (fgZ G th 7 (Int32.ofNat 0)) := by
  obtain ⟨x9, q9, -, -⟩ := hf_iv (t := 12) (f := 7) hH k_th rfl rfl
  exact et_fgk (T := et_TT) (Ks := [es_q0, es_q1, es_q2, es_q3, es_q4, es_q5, es_q6, es_q7, es_q8, es_q9, es_q10, es_q11, es_q12, es_q13, es_q14, es_q19, hq_begin]) (an := es_an) (d := 15) (f := 7) (ps := [.inr (.inr (0, 12)), .inl (et_mn, et_mx), .inl (et_mn, et_mx), .inr (.inr (0, 31))]) (M := [(9, 4, 4), (9, 5, 5), (9, 6, 6), (9, 7, 7), (9, 8, 8), (9, 9, 9), (9, 13, 13), (9, 15, 15), (9, 16, 16), (12, 6, 6), (12, 7, 7), (51, 0, 100000), (19, 0, 100000), (45, 0, 100000), (31, 0, 100000)]) (w := (K, [], G)) (as := [.ref th, .int x, .int y, .ref out]) (a := th) (c := Int32.ofNat 0) (List.forall_mem_cons.mpr ⟨es_c0, (List.forall_mem_cons.mpr ⟨es_c1, (List.forall_mem_cons.mpr ⟨es_c2, (List.forall_mem_cons.mpr ⟨es_c3, (List.forall_mem_cons.mpr ⟨es_c4, (List.forall_mem_cons.mpr ⟨es_c5, (List.forall_mem_cons.mpr ⟨es_c6, (List.forall_mem_cons.mpr ⟨es_c7, (List.forall_mem_cons.mpr ⟨es_c8, (List.forall_mem_cons.mpr ⟨es_c9, (List.forall_mem_cons.mpr ⟨es_c10, (List.forall_mem_cons.mpr ⟨es_c11, (List.forall_mem_cons.mpr ⟨es_c12, (List.forall_mem_cons.mpr ⟨es_c13, (List.forall_mem_cons.mpr ⟨es_c14, (List.forall_mem_cons.mpr ⟨(es_c19 hc_begin hc_each hc_boundOf), (List.forall_mem_cons.mpr ⟨hc_begin, (fun _ h => absurd h List.not_mem_nil)⟩)⟩)⟩)⟩)⟩)⟩)⟩)⟩)⟩)⟩)⟩)⟩)⟩)⟩)⟩)⟩)⟩) (by decide) (by decide +kernel) hH hd rfl (ht_ac (.inr ⟨by decide, _, rfl, k_th⟩) (ht_ac hi_any (ht_ac hi_any (ht_ac (.inr ⟨by decide, _, rfl, k_out⟩) ht_an)))) rfl (hH.2.2 _ _ k_th).1 ⟨x9, q9⟩
theorem fq_28_6 (hH : et_H et_TT K G) (k_th : K th = some 12) (k_out : K out = some 31) (hb : b ≤ 1) (hd : 22 ≤ d2) : et_go none d2 28 0 (eg_en (eg_mL 28) [.ref th, .int x, .int y, .int (Int32.ofNat b), .ref out]) [] G 0 0 (fgZ G th 6 (Int32.ofNat 0)) := by
  obtain ⟨x9, q9, -, -⟩ := hf_iv (t := 12) (f := 6) hH k_th rfl rfl
  exact et_fgk (T := et_TT) (Ks := [es_q0, es_q1, es_q2, es_q3, es_q4, es_q5, es_q6, es_q7, es_q8, es_q9, es_q10, es_q11, es_q12, es_q13, es_q14, es_q21, hq_each]) (an := es_an) (d := 22) (f := 6) (ps := [.inr (.inr (0, 12)), .inl (et_mn, et_mx), .inl (et_mn, et_mx), .inl (0, 1), .inr (.inr (0, 31))]) (M := [(9, 4, 4), (9, 5, 5), (9, 6, 6), (9, 7, 7), (9, 8, 8), (9, 9, 9), (9, 10, 10), (9, 11, 11), (9, 12, 12), (9, 13, 13), (9, 15, 15), (9, 16, 16), (12, 6, 6), (12, 7, 7), (51, 0, 100000), (19, 0, 100000), (45, 0, 100000), (31, 0, 100000)]) (w := (K, [], G)) (as := [.ref th, .int x, .int y, .int (Int32.ofNat b), .ref out]) (a := th) (c := Int32.ofNat 0) (List.forall_mem_cons.mpr ⟨es_c0, (List.forall_mem_cons.mpr ⟨es_c1, (List.forall_mem_cons.mpr ⟨es_c2, (List.forall_mem_cons.mpr ⟨es_c3, (List.forall_mem_cons.mpr ⟨es_c4, (List.forall_mem_cons.mpr ⟨es_c5, (List.forall_mem_cons.mpr ⟨es_c6, (List.forall_mem_cons.mpr ⟨es_c7, (List.forall_mem_cons.mpr ⟨es_c8, (List.forall_mem_cons.mpr ⟨es_c9, (List.forall_mem_cons.mpr ⟨es_c10, (List.forall_mem_cons.mpr ⟨es_c11, (List.forall_mem_cons.mpr ⟨es_c12, (List.forall_mem_cons.mpr ⟨es_c13, (List.forall_mem_cons.mpr ⟨es_c14, (List.forall_mem_cons.mpr ⟨es_c21, (List.forall_mem_cons.mpr ⟨hc_each, (fun _ h => absurd h List.not_mem_nil)⟩)⟩)⟩)⟩)⟩)⟩)⟩)⟩)⟩)⟩)⟩)⟩)⟩)⟩)⟩)⟩)⟩) (by decide) (by decide +kernel) hH hd rfl (ht_ac (.inr ⟨by decide, _, rfl, k_th⟩) (ht_ac hi_any (ht_ac hi_any (ht_ac (hi_nv (by omega) (by omega)) (ht_ac (.inr ⟨by decide, _, rfl, k_out⟩) ht_an))))) rfl (hH.2.2 _ _ k_th).1 ⟨x9, q9⟩
theorem fq_28_7 (hH : et_H et_TT K G) (k_th : K th = some 12) (k_out : K out = some 31) (hb : b ≤ 1) (hd : 22 ≤ d2) : et_go none d2 28 0 (eg_en (eg_mL 28) [.ref th, .int x, .int y, .int (Int32.ofNat b), .ref out]) [] G 0 0 (fgZ G th 7 (Int32.ofNat 0)) := by
  obtain ⟨x9, q9, -, -⟩ := hf_iv (t := 12) (f := 7) hH k_th rfl rfl
  exact et_fgk (T := et_TT) (Ks := [es_q0, es_q1, es_q2, es_q3, es_q4, es_q5, es_q6, es_q7, es_q8, es_q9, es_q10, es_q11, es_q12, es_q13, es_q14, es_q21, hq_each]) (an := es_an) (d := 22) (f := 7) (ps := [.inr (.inr (0, 12)), .inl (et_mn, et_mx), .inl (et_mn, et_mx), .inl (0, 1), .inr (.inr (0, 31))]) (M := [(9, 4, 4), (9, 5, 5), (9, 6, 6), (9, 7, 7), (9, 8, 8), (9, 9, 9), (9, 10, 10), (9, 11, 11), (9, 12, 12), (9, 13, 13), (9, 15, 15), (9, 16, 16), (12, 6, 6), (12, 7, 7), (51, 0, 100000), (19, 0, 100000), (45, 0, 100000), (31, 0, 100000)]) (w := (K, [], G)) (as := [.ref th, .int x, .int y, .int (Int32.ofNat b), .ref out]) (a := th) (c := Int32.ofNat 0) (List.forall_mem_cons.mpr ⟨es_c0, (List.forall_mem_cons.mpr ⟨es_c1, (List.forall_mem_cons.mpr ⟨es_c2, (List.forall_mem_cons.mpr ⟨es_c3, (List.forall_mem_cons.mpr ⟨es_c4, (List.forall_mem_cons.mpr ⟨es_c5, (List.forall_mem_cons.mpr ⟨es_c6, (List.forall_mem_cons.mpr ⟨es_c7, (List.forall_mem_cons.mpr ⟨es_c8, (List.forall_mem_cons.mpr ⟨es_c9, (List.forall_mem_cons.mpr ⟨es_c10, (List.forall_mem_cons.mpr ⟨es_c11, (List.forall_mem_cons.mpr ⟨es_c12, (List.forall_mem_cons.mpr ⟨es_c13, (List.forall_mem_cons.mpr ⟨es_c14, (List.forall_mem_cons.mpr ⟨es_c21, (List.forall_mem_cons.mpr ⟨hc_each, (fun _ h => absurd h List.not_mem_nil)⟩)⟩)⟩)⟩)⟩)⟩)⟩)⟩)⟩)⟩)⟩)⟩)⟩)⟩)⟩)⟩)⟩) (by decide) (by decide +kernel) hH hd rfl (ht_ac (.inr ⟨by decide, _, rfl, k_th⟩) (ht_ac hi_any (ht_ac hi_any (ht_ac (hi_nv (by omega) (by omega)) (ht_ac (.inr ⟨by decide, _, rfl, k_out⟩) ht_an))))) rfl (hH.2.2 _ _ k_th).1 ⟨x9, q9⟩
theorem fq_125_6 (hH : et_H et_TT K G) (k_th : K th = some 12) (hd : 3 ≤ d2) : et_go none d2 125 0 (eg_en (eg_mL 125) [.ref th]) [] G 0 0 (fgZ G th 6 (Int32.ofNat 1)) := by
  obtain ⟨x9, q9, -, -⟩ := hf_iv (t := 12) (f := 6) hH k_th rfl rfl
  exact et_fgk (T := et_TT) (Ks := [ek_q5, ek_q6]) (an := ek_an) (d := 3) (f := 6) (ps := [.inr (.inr (0, 12))]) (M := [(3, 0, 0), (3, 4, 4), (3, 5, 5), (3, 6, 6), (3, 7, 7), (10, 0, 0), (10, 2, 2), (10, 5, 5), (10, 7, 7), (10, 9, 9), (12, 6, 6), (12, 7, 7), (15, 0, 100000), (17, 0, 100000), (27, 0, 100000), (37, 0, 100000), (38, 0, 100000), (39, 0, 100000)]) (w := (K, [], G)) (as := [.ref th]) (a := th) (c := Int32.ofNat 1) (List.forall_mem_cons.mpr ⟨ek_c5, (List.forall_mem_cons.mpr ⟨ek_c6, (fun _ h => absurd h List.not_mem_nil)⟩)⟩) (by decide) (by decide +kernel) hH hd rfl (ht_ac (.inr ⟨by decide, _, rfl, k_th⟩) ht_an) rfl (hH.2.2 _ _ k_th).1 ⟨x9, q9⟩
theorem fq_125_7 (hH : et_H et_TT K G) (k_th : K th = some 12) (hd : 3 ≤ d2) : et_go none d2 125 0 (eg_en (eg_mL 125) [.ref th]) [] G 0 0 (fgZ G th 7 (Int32.ofNat 1)) := by
  obtain ⟨x9, q9, -, -⟩ := hf_iv (t := 12) (f := 7) hH k_th rfl rfl
  exact et_fgk (T := et_TT) (Ks := [ek_q5, ek_q6]) (an := ek_an) (d := 3) (f := 7) (ps := [.inr (.inr (0, 12))]) (M := [(3, 0, 0), (3, 4, 4), (3, 5, 5), (3, 6, 6), (3, 7, 7), (10, 0, 0), (10, 2, 2), (10, 5, 5), (10, 7, 7), (10, 9, 9), (12, 6, 6), (12, 7, 7), (15, 0, 100000), (17, 0, 100000), (27, 0, 100000), (37, 0, 100000), (38, 0, 100000), (39, 0, 100000)]) (w := (K, [], G)) (as := [.ref th]) (a := th) (c := Int32.ofNat 1) (List.forall_mem_cons.mpr ⟨ek_c5, (List.forall_mem_cons.mpr ⟨ek_c6, (fun _ h => absurd h List.not_mem_nil)⟩)⟩) (by decide) (by decide +kernel) hH hd rfl (ht_ac (.inr ⟨by decide, _, rfl, k_th⟩) ht_an) rfl (hH.2.2 _ _ k_th).1 ⟨x9, q9⟩
end ZZB
end
section
/-! searches: read forgets what was found -/
section AAA
variable {K : et_K} {G : eg_G} {d d2 th s0 s1 ya yb ec e n k b out : Nat} {x y z : Int32} {V : Nat → evT} {O : Nat → Nat} {A : Nat → Nat → Nat}
theorem fd_readF (hH : et_H et_TT K G) (k_th : K th = some 12) (h0 : et_pl (eg_at G th) 0 = some (.ref s0)) (k_s0 : K s0 = some 10) (h5 : et_pl (eg_at G s0) 5 = some (.int (Int32.ofNat ec))) (hec : ec ≤ 3) (h6 : et_pl (eg_at G s0) 6 = some (.ref ya)) (k_ya : K ya = some 40) (hn : n < ec) (hE : et_pl (eg_at G ya) n = some (.ref e)) (k_e : K e = some 3) (hk1 : 1 ≤ k) (hk : k ≤ 2) (hb : b ≤ 1) (hd : 21 ≤ d2) : et_go none d2 171 0 (eg_en (eg_mL 171) [.ref th, .int (Int32.ofNat n), .int (Int32.ofNat k), .int (Int32.ofNat b)]) [] G 0 0 (fun u => ∃ z, u.1 = .inl (some (.int z)) ∧ et_pl (eg_at u.2.1 th) 6 = some (.int (-1))) := by
  obtain ⟨d, rfl⟩ : ∃ d, d2 = d + 21 := ⟨d2 - 21, by omega⟩
  rw [show eg_mL 171 = 5 from by decide +kernel]
  show et_go none (d + 21) 171 0 [some (.ref th), some (.int (Int32.ofNat n)), some (.int (Int32.ofNat k)), some (.int (Int32.ofNat b)), none] [] G 0 0 _
  have lt_th := (hH.2.2 _ _ k_th).1
  have lt_s0 := (hH.2.2 _ _ k_s0).1
  have lt_ya := (hH.2.2 _ _ k_ya).1
  refine hs_aload (i := 0) (p := 1) (by decide +kernel) rfl ?_
  refine hs_iload (i := 1) (p := 2) (by decide +kernel) rfl ?_
  refine ht_callv (T := et_TT) (t := 12) (mi := 128) (na := 1) (ci := 10) (lk := 5) (lm := 2) (L0 := eg_en (eg_mL 128) [.ref th, .int (Int32.ofNat n)]) (by decide +kernel) rfl hH k_th rfl rfl rfl rfl rfl (by rw [show eg_mL 128 = 2 from by decide +kernel]; first | done | rfl) ?_
  refine (fd_needE hH k_th h0 k_s0 h5 hec h6 k_ya hn hE).mono (fun u hu => xp_cb hu ?_)
  show et_go none _ 171 5 _ [.ref e] _ _ _ _
  refine hs_astore (i := 4) (p := 7) (by decide +kernel) (Nat.le_of_ble_eq_true rfl) ?_
  refine hs_iload (i := 2) (p := 8) (by decide +kernel) rfl ?_
  refine hs_k (x := Int32.ofNat 2) (p := 9) (by decide +kernel) ?_
  refine hs_calls (mi := 150) (na := 2) (lk := 5) (lm := 2) (L0 := eg_en (eg_mL 150) [.int (Int32.ofNat k), .int (Int32.ofNat 2)]) (by decide +kernel) rfl rfl rfl rfl rfl rfl (by rw [show eg_mL 150 = 2 from by decide +kernel]; first | done | rfl) ?_
  refine (fd_nk hk1 hk (by decide)).mono (fun u hu => xp_cb hu ?_)
  show et_go none _ 171 12 _ [] _ _ _ _
  refine hs_aload (i := 0) (p := 13) (by decide +kernel) rfl ?_
  refine ht_callv (T := et_TT) (t := 12) (mi := 120) (na := 0) (ci := 10) (lk := 5) (lm := 1) (L0 := eg_en (eg_mL 120) [.ref th]) (by decide +kernel) rfl hH k_th rfl rfl rfl rfl rfl (by rw [show eg_mL 120 = 1 from by decide +kernel]; first | done | rfl) ?_
  refine (fd_fgt hH k_th).mono (fun u9 hu9 => xw_cb hu9 (fun G2 v2 hH2 x2 hP2 => ?_))
  obtain ⟨rfl, h6, -⟩ := hP2
  have hq9 := et_pok (T := et_TT) (Ks := [es_q0, es_q1, es_q2, es_q3, es_q4, es_q5, es_q6, es_q7, es_q8, es_q9, es_q10, es_q11, es_q12, es_q13, es_q14, es_q21, hq_each]) (an := es_an) (mi := 171) (pc := 16) (ps := [.inr (.inr (0, 12)), .inl (et_mn, et_mx), .inl (0, 3), .inl (0, 1), .inr (.inr (0, 3))]) (M := [(9, 4, 4), (9, 5, 5), (9, 6, 6), (9, 7, 7), (9, 8, 8), (9, 9, 9), (9, 10, 10), (9, 11, 11), (9, 12, 12), (9, 13, 13), (9, 15, 15), (9, 16, 16), (51, 0, 100000), (19, 0, 100000), (45, 0, 100000)]) (es := [(.inl (some (.inl (et_mn, et_mx))), 0, 0)]) (w := (K, [], G2)) (as := [.ref th, .int (Int32.ofNat n), .int (Int32.ofNat k), .int (Int32.ofNat b), .ref e]) (d := 21) (d2 := d + 21) (List.forall_mem_cons.mpr ⟨es_c0, (List.forall_mem_cons.mpr ⟨es_c1, (List.forall_mem_cons.mpr ⟨es_c2, (List.forall_mem_cons.mpr ⟨es_c3, (List.forall_mem_cons.mpr ⟨es_c4, (List.forall_mem_cons.mpr ⟨es_c5, (List.forall_mem_cons.mpr ⟨es_c6, (List.forall_mem_cons.mpr ⟨es_c7, (List.forall_mem_cons.mpr ⟨es_c8, (List.forall_mem_cons.mpr ⟨es_c9, (List.forall_mem_cons.mpr ⟨es_c10, (List.forall_mem_cons.mpr ⟨es_c11, (List.forall_mem_cons.mpr ⟨es_c12, (List.forall_mem_cons.mpr ⟨es_c13, (List.forall_mem_cons.mpr ⟨es_c14, (List.forall_mem_cons.mpr ⟨es_c21, (List.forall_mem_cons.mpr ⟨hc_each, (fun _ h => absurd h List.not_mem_nil)⟩)⟩)⟩)⟩)⟩)⟩)⟩)⟩)⟩)⟩)⟩)⟩)⟩)⟩)⟩)⟩)⟩) (by decide) (by decide +kernel) hH2 (by omega) rfl (ht_ac (.inr ⟨by decide, _, rfl, k_th⟩) (ht_ac hi_any (ht_ac (hi_nv (by omega) (by omega)) (ht_ac (hi_nv (by omega) (by omega)) (ht_ac (.inr ⟨by decide, _, rfl, k_e⟩) ht_an)))))
  rw [show eg_mL 171 = 5 from by decide +kernel] at hq9
  refine et_go.mono hq9 (fun u hu => ?_)
  obtain ⟨es9, hes9, K9, hx9, hf9, -, hv9, -, -⟩ := hu
  obtain rfl := List.mem_singleton.mp hes9
  obtain ⟨v9, hv1, hv2⟩ := hv9
  obtain ⟨n9, rfl, -, -⟩ := hi_int hv2
  exact ⟨n9, hv1, (hf9.2 th 12 k_th 6 (by decide +kernel)).trans h6⟩
theorem fd_readR (hH : et_H et_TT K G) (k_th : K th = some 12) (h0 : et_pl (eg_at G th) 0 = some (.ref s0)) (k_s0 : K s0 = some 10) (h5 : et_pl (eg_at G s0) 5 = some (.int (Int32.ofNat ec))) (hec : ec ≤ 3) (h6 : et_pl (eg_at G s0) 6 = some (.ref ya)) (k_ya : K ya = some 40) (hn : n < ec) (hE : et_pl (eg_at G ya) n = some (.ref e)) (hy : ¬ (1 ≤ y.toInt ∧ y.toInt ≤ 2)) (hd : 5 ≤ d2) : et_go none d2 171 0 (eg_en (eg_mL 171) [.ref th, .int (Int32.ofNat n), .int y, .int z]) [] G 0 0 (ix_Z 0 G) := by
  obtain ⟨d, rfl⟩ : ∃ d, d2 = d + 5 := ⟨d2 - 5, by omega⟩
  rw [show eg_mL 171 = 5 from by decide +kernel]
  show et_go none (d + 5) 171 0 [some (.ref th), some (.int (Int32.ofNat n)), some (.int y), some (.int z), none] [] G 0 0 _
  have lt_th := (hH.2.2 _ _ k_th).1
  have lt_s0 := (hH.2.2 _ _ k_s0).1
  have lt_ya := (hH.2.2 _ _ k_ya).1
  refine hs_aload (i := 0) (p := 1) (by decide +kernel) rfl ?_
  refine hs_iload (i := 1) (p := 2) (by decide +kernel) rfl ?_
  refine ht_callv (T := et_TT) (t := 12) (mi := 128) (na := 1) (ci := 10) (lk := 5) (lm := 2) (L0 := eg_en (eg_mL 128) [.ref th, .int (Int32.ofNat n)]) (by decide +kernel) rfl hH k_th rfl rfl rfl rfl rfl (by rw [show eg_mL 128 = 2 from by decide +kernel]; first | done | rfl) ?_
  refine (fd_needE hH k_th h0 k_s0 h5 hec h6 k_ya hn hE).mono (fun u hu => xp_cb hu ?_)
  show et_go none _ 171 5 _ [.ref e] _ _ _ _
  refine hs_astore (i := 4) (p := 7) (by decide +kernel) (Nat.le_of_ble_eq_true rfl) ?_
  refine hs_iload (i := 2) (p := 8) (by decide +kernel) rfl ?_
  refine hs_k (x := Int32.ofNat 2) (p := 9) (by decide +kernel) ?_
  refine hs_calls (mi := 150) (na := 2) (lk := 5) (lm := 2) (L0 := eg_en (eg_mL 150) [.int y, .int (Int32.ofNat 2)]) (by decide +kernel) rfl rfl rfl rfl rfl rfl (by rw [show eg_mL 150 = 2 from by decide +kernel]; first | done | rfl) ?_
  refine (fd_nkn (q := 2) (by decide) hy).mono (fun u hu => ?_)
  obtain ⟨c9, s9, rfl⟩ := hu
  refine hf_cx (by decide +kernel) ?_
  exact ⟨_, _, rfl⟩
theorem fd_readE (hH : et_H et_TT K G) (k_th : K th = some 12) (h0 : et_pl (eg_at G th) 0 = some (.ref s0)) (k_s0 : K s0 = some 10) (h5 : et_pl (eg_at G s0) 5 = some (.int (Int32.ofNat ec))) (hec : ec ≤ 3) (h6 : et_pl (eg_at G s0) 6 = some (.ref ya)) (k_ya : K ya = some 40) (hx : ¬ xr x ec) (hd : 5 ≤ d2) : et_go none d2 171 0 (eg_en (eg_mL 171) [.ref th, .int x, .int y, .int z]) [] G 0 0 (ix_Z 1 G) := by
  obtain ⟨d, rfl⟩ : ∃ d, d2 = d + 5 := ⟨d2 - 5, by omega⟩
  rw [show eg_mL 171 = 5 from by decide +kernel]
  show et_go none (d + 5) 171 0 [some (.ref th), some (.int x), some (.int y), some (.int z), none] [] G 0 0 _
  have lt_th := (hH.2.2 _ _ k_th).1
  have lt_s0 := (hH.2.2 _ _ k_s0).1
  have lt_ya := (hH.2.2 _ _ k_ya).1
  refine hs_aload (i := 0) (p := 1) (by decide +kernel) rfl ?_
  refine hs_iload (i := 1) (p := 2) (by decide +kernel) rfl ?_
  refine ht_callv (T := et_TT) (t := 12) (mi := 128) (na := 1) (ci := 10) (lk := 5) (lm := 2) (L0 := eg_en (eg_mL 128) [.ref th, .int x]) (by decide +kernel) rfl hH k_th rfl rfl rfl rfl rfl (by rw [show eg_mL 128 = 2 from by decide +kernel]; first | done | rfl) ?_
  refine (fd_needEn hH k_th h0 k_s0 h5 hec h6 k_ya hx).mono (fun u hu => ?_)
  obtain ⟨c2, s2, rfl⟩ := hu
  refine hf_cx (by decide +kernel) ?_
  exact ⟨_, _, rfl⟩
theorem fh_readF (hH : et_H et_TT K G) (k_th : K th = some 12) (h0 : et_pl (eg_at G th) 0 = some (.ref s0)) (k_s0 : K s0 = some 10) (h5 : et_pl (eg_at G s0) 5 = some (.int (Int32.ofNat ec))) (hec : ec ≤ 3) (h6 : et_pl (eg_at G s0) 6 = some (.ref ya)) (k_ya : K ya = some 40) (hn : n < ec) (hE : et_pl (eg_at G ya) n = some (.ref e)) (k_e : K e = some 3) (k_out : K out = some 31) (hk1 : 1 ≤ k) (hk : k ≤ 2) (hb : b ≤ 1) (hd : 22 ≤ d2) : et_go none d2 28 0 (eg_en (eg_mL 28) [.ref th, .int (Int32.ofNat n), .int (Int32.ofNat k), .int (Int32.ofNat b), .ref out]) [] G 0 0 (fun u => et_pl (eg_at u.2.1 th) 6 = some (.int (-1))) := by
  obtain ⟨d, rfl⟩ : ∃ d, d2 = d + 22 := ⟨d2 - 22, by omega⟩
  rw [show eg_mL 28 = 6 from by decide +kernel]
  show et_go none (d + 22) 28 0 [some (.ref th), some (.int (Int32.ofNat n)), some (.int (Int32.ofNat k)), some (.int (Int32.ofNat b)), some (.ref out), none] [] G 0 0 _
  refine hs_aload (i := 4) (p := 2) (by decide +kernel) rfl ?_
  refine hs_k (x := Int32.ofNat 0) (p := 3) (by decide +kernel) ?_
  refine hs_aload (i := 0) (p := 4) (by decide +kernel) rfl ?_
  refine hs_iload (i := 1) (p := 5) (by decide +kernel) rfl ?_
  refine hs_iload (i := 2) (p := 6) (by decide +kernel) rfl ?_
  refine hs_iload (i := 3) (p := 7) (by decide +kernel) rfl ?_
  refine ht_callv (T := et_TT) (t := 12) (mi := 171) (na := 3) (ci := 10) (lk := 6) (lm := 5) (L0 := eg_en (eg_mL 171) [.ref th, .int (Int32.ofNat n), .int (Int32.ofNat k), .int (Int32.ofNat b)]) (by decide +kernel) rfl hH k_th rfl rfl rfl rfl rfl (by rw [show eg_mL 171 = 5 from by decide +kernel]; first | done | rfl) ?_
  refine ((es_s171 (K, [], G) [.ref th, .int (Int32.ofNat n), .int (Int32.ofNat k), .int (Int32.ofNat b)] _ hH (by show 21 ≤ _; omega) rfl (ht_ac (.inr ⟨by decide, _, rfl, k_th⟩) (ht_ac hi_any (ht_ac hi_any (ht_ac (hi_nv (by omega) (by omega)) ht_an))))).and (fd_readF hH k_th h0 k_s0 h5 hec h6 k_ya hn hE k_e hk1 hk hb (by omega))).mono (fun u hu => ?_)
  obtain ⟨⟨es, hes, K1, hx1, hf1, hH1, hv1, -, -⟩, z9, hz, h6⟩ := hu
  obtain ⟨u1, u2, u3, u4⟩ := u
  have hz : u1 = .inl (some (.int z9)) := hz
  subst hz
  have h6 : et_pl (eg_at u2 th) 6 = some (.int (-1)) := h6
  rcases List.mem_cons.mp hes with rfl | hes
  · have hH := hH1
    have k_out := hx1 _ _ k_out
    have k_th := hx1 _ _ k_th
    refine hs_cb ?_
    show et_go none _ 28 10 _ [.int z9, .int (Int32.ofNat 0), .ref out] _ _ _ _
    refine hs_i2l (p := 11) (by decide +kernel) ?_
    have hHo := hH
    refine hf_lst (T := et_TT) (t := 31) (N := 1) (p := 12) (by decide +kernel) rfl rfl hH k_out (by omega) (by decide) (fun G11 hH x11 e11 => ?_)
    have h6 := (x11.2 th 6 (hHo.2.2 _ _ k_th).1 (fun h => hi_ne k_th k_out (by decide) h.1)).trans h6
    refine hs_goto (p := 23) (by decide +kernel) ?_
    refine hs_k (x := Int32.ofNat 0) (p := 24) (by decide +kernel) ?_
    refine hs_iret (by decide +kernel) ?_
    exact h6
  · rcases List.mem_cons.mp hes with rfl | hes
    · have hv1 : (Sum.inl (some (Value.int z9)) : eg_R) = .inr 0 := hv1
      cases hv1
    obtain rfl := List.mem_singleton.mp hes
    have hv1 : (Sum.inl (some (Value.int z9)) : eg_R) = .inr 1 := hv1
    cases hv1
theorem fh_readR (hH : et_H et_TT K G) (k_th : K th = some 12) (h0 : et_pl (eg_at G th) 0 = some (.ref s0)) (k_s0 : K s0 = some 10) (h5 : et_pl (eg_at G s0) 5 = some (.int (Int32.ofNat ec))) (hec : ec ≤ 3) (h6 : et_pl (eg_at G s0) 6 = some (.ref ya)) (k_ya : K ya = some 40) (hn : n < ec) (hE : et_pl (eg_at G ya) n = some (.ref e)) (hy : ¬ (1 ≤ y.toInt ∧ y.toInt ≤ 2)) (hd : 6 ≤ d2) : et_go none d2 28 0 (eg_en (eg_mL 28) [.ref th, .int (Int32.ofNat n), .int y, .int z, .ref out]) [] G 0 0 (fun u => u.1 = .inl (some (.int (Int32.ofNat 2))) ∧ u.2.1 = G) := by
  obtain ⟨d, rfl⟩ : ∃ d, d2 = d + 6 := ⟨d2 - 6, by omega⟩
  rw [show eg_mL 28 = 6 from by decide +kernel]
  show et_go none (d + 6) 28 0 [some (.ref th), some (.int (Int32.ofNat n)), some (.int y), some (.int z), some (.ref out), none] [] G 0 0 _
  have lt_th := (hH.2.2 _ _ k_th).1
  refine hs_aload (i := 4) (p := 2) (by decide +kernel) rfl ?_
  refine hs_k (x := Int32.ofNat 0) (p := 3) (by decide +kernel) ?_
  refine hs_aload (i := 0) (p := 4) (by decide +kernel) rfl ?_
  refine hs_iload (i := 1) (p := 5) (by decide +kernel) rfl ?_
  refine hs_iload (i := 2) (p := 6) (by decide +kernel) rfl ?_
  refine hs_iload (i := 3) (p := 7) (by decide +kernel) rfl ?_
  refine ht_callv (T := et_TT) (t := 12) (mi := 171) (na := 3) (ci := 10) (lk := 6) (lm := 5) (L0 := eg_en (eg_mL 171) [.ref th, .int (Int32.ofNat n), .int y, .int z]) (by decide +kernel) rfl hH k_th rfl rfl rfl rfl rfl (by rw [show eg_mL 171 = 5 from by decide +kernel]; first | done | rfl) ?_
  refine (fd_readR hH k_th h0 k_s0 h5 hec h6 k_ya hn hE hy (by omega)).mono (fun u hu => ?_)
  obtain ⟨c7, s7, rfl⟩ := hu
  refine hs_ch (h := 19) (i := 5) (n := 2) (hh := (eg_mh 28).getD []) (by decide +kernel) ⟨by decide +kernel, by decide +kernel⟩ (Nat.le_of_ble_eq_true rfl) ?_
  show et_go none _ 28 21 [some (.ref th), some (.int (Int32.ofNat n)), some (.int y), some (.int z), some (.ref out), none] [] _ _ _ _
  refine hs_k (x := Int32.ofNat 2) (p := 22) (by decide +kernel) ?_
  refine hs_iret (by decide +kernel) ?_
  exact ⟨rfl, rfl⟩
theorem fh_readE (hH : et_H et_TT K G) (k_th : K th = some 12) (h0 : et_pl (eg_at G th) 0 = some (.ref s0)) (k_s0 : K s0 = some 10) (h5 : et_pl (eg_at G s0) 5 = some (.int (Int32.ofNat ec))) (hec : ec ≤ 3) (h6 : et_pl (eg_at G s0) 6 = some (.ref ya)) (k_ya : K ya = some 40) (hx : ¬ xr x ec) (hd : 6 ≤ d2) : et_go none d2 28 0 (eg_en (eg_mL 28) [.ref th, .int x, .int y, .int z, .ref out]) [] G 0 0 (fun u => u.1 = .inl (some (.int (Int32.ofNat 1))) ∧ u.2.1 = G) := by
  obtain ⟨d, rfl⟩ : ∃ d, d2 = d + 6 := ⟨d2 - 6, by omega⟩
  rw [show eg_mL 28 = 6 from by decide +kernel]
  show et_go none (d + 6) 28 0 [some (.ref th), some (.int x), some (.int y), some (.int z), some (.ref out), none] [] G 0 0 _
  have lt_th := (hH.2.2 _ _ k_th).1
  refine hs_aload (i := 4) (p := 2) (by decide +kernel) rfl ?_
  refine hs_k (x := Int32.ofNat 0) (p := 3) (by decide +kernel) ?_
  refine hs_aload (i := 0) (p := 4) (by decide +kernel) rfl ?_
  refine hs_iload (i := 1) (p := 5) (by decide +kernel) rfl ?_
  refine hs_iload (i := 2) (p := 6) (by decide +kernel) rfl ?_
  refine hs_iload (i := 3) (p := 7) (by decide +kernel) rfl ?_
  refine ht_callv (T := et_TT) (t := 12) (mi := 171) (na := 3) (ci := 10) (lk := 6) (lm := 5) (L0 := eg_en (eg_mL 171) [.ref th, .int x, .int y, .int z]) (by decide +kernel) rfl hH k_th rfl rfl rfl rfl rfl (by rw [show eg_mL 171 = 5 from by decide +kernel]; first | done | rfl) ?_
  refine (fd_readE hH k_th h0 k_s0 h5 hec h6 k_ya hx (by omega)).mono (fun u hu => ?_)
  obtain ⟨c7, s7, rfl⟩ := hu
  refine hs_ch (h := 15) (i := 5) (n := 2) (hh := (eg_mh 28).getD []) (by decide +kernel) ⟨by decide +kernel, by decide +kernel⟩ (Nat.le_of_ble_eq_true rfl) ?_
  show et_go none _ 28 17 [some (.ref th), some (.int x), some (.int y), some (.int z), some (.ref out), none] [] _ _ _ _
  refine hs_k (x := Int32.ofNat 1) (p := 18) (by decide +kernel) ?_
  refine hs_iret (by decide +kernel) ?_
  exact ⟨rfl, rfl⟩
theorem fz_readF (hH : et_H et_TT K G) (k_th : K th = some 12) (h0 : et_pl (eg_at G th) 0 = some (.ref s0)) (k_s0 : K s0 = some 10) (k_s1 : K s1 = some 10) (h5 : et_pl (eg_at G s0) 5 = some (.int (Int32.ofNat ec))) (hec : ec ≤ 3) (t : ezK K ya yb O A) (hz : ez G th s0 s1 ya yb O A V) (ho : ∀ n, n < 6 → evo (V n)) (k_out : K out = some 31) (hb : b ≤ 1) (hd : 34 ≤ d2) : et_go none d2 28 0 (eg_en (eg_mL 28) [.ref th, .int x, .int y, .int (Int32.ofNat b), .ref out]) [] G 0 0 (fun u => et_pl (eg_at u.2.1 th) 6 = some (.int (-1)) ∨ u.2.1 = G) := by
  by_cases hx : xr x ec
  · obtain ⟨n, rfl, hn⟩ := xr_nat hx (by omega)
    by_cases hs3 : (1 ≤ y.toInt ∧ y.toInt ≤ 2)
    · obtain ⟨k, rfl, q2, q3⟩ := hs_toN (x := y) (by omega)
      exact (fh_readF hH k_th h0 k_s0 h5 hec hz.1.1 t.1.1 hn (hz.2.1 n (by omega)).1 (t.2.1 n (by omega)).1 k_out (by omega) (by omega) hb (by omega)).mono (fun u hu => .inl hu)
    · exact (fh_readR hH k_th h0 k_s0 h5 hec hz.1.1 t.1.1 hn (hz.2.1 n (by omega)).1 hs3 (by omega)).mono (fun u hu => .inr hu.2)
  · exact (fh_readE hH k_th h0 k_s0 h5 hec hz.1.1 t.1.1 hx (by omega)).mono (fun u hu => .inr hu.2)
theorem fq_124 (hH : et_H et_TT K G) (k_th : K th = some 12) (hd : 3 ≤ d2) : et_go none d2 124 0 (eg_en (eg_mL 124) [.ref th]) [] G 0 0 (fun u => et_pl (eg_at u.2.1 th) 6 = et_pl (eg_at G th) 6 ∧ et_pl (eg_at u.2.1 th) 7 = et_pl (eg_at G th) 7) := (ek_p124_ok (K, [], G) [.ref th] d2 hH hd rfl (ht_ac (.inr ⟨by decide, _, rfl, k_th⟩) ht_an)).mono (fun u hu => by
  obtain ⟨_, _, _, _, hf, -⟩ := hu
  exact ⟨hf.2 th 12 k_th 6 rfl, hf.2 th 12 k_th 7 rfl⟩)
theorem fq_aw (hH : et_H et_TT K G) (k_th : K th = some 12) (h0 : et_pl (eg_at G th) 0 = some (.ref s0)) (k_s0 : K s0 = some 10) (h2 : et_pl (eg_at G s0) 2 = some (.int (Int32.ofNat n))) (hn : n ≤ 20) (hd : 1 ≤ d2) : et_go none d2 119 0 (eg_en (eg_mL 119) [.ref th]) [] G 0 0 (fun u => (n = 0 → u.2.1 = G) ∧ (¬ n = 0 → et_pl (eg_at u.2.1 th) 6 = some (.int (-1)))) := by
  obtain ⟨d, rfl⟩ : ∃ d, d2 = d + 1 := ⟨d2 - 1, by omega⟩
  rw [show eg_mL 119 = 1 from by decide +kernel]
  show et_go none (d + 1) 119 0 [some (.ref th)] [] G 0 0 _
  have lt_th := (hH.2.2 _ _ k_th).1
  have lt_s0 := (hH.2.2 _ _ k_s0).1
  refine hs_aload (i := 0) (p := 1) (by decide +kernel) rfl ?_
  refine hf_get (T := et_TT) (t := 12) (ci := 10) (f := 0) (p := 4) (by decide +kernel) rfl hH k_th h0 ?_
  refine hf_get (T := et_TT) (t := 10) (ci := 8) (f := 2) (p := 7) (by decide +kernel) rfl hH k_s0 h2 ?_
  refine hs_br1 (c := .ne) (t := 12) (f := 10) (by decide +kernel) (fun (c7 : ¬ Int32.ofNat n = 0) => ?_) (fun (c7 : ¬ (¬ Int32.ofNat n = 0)) => ?_)
  · have c7 : ¬ n = 0 := fun h => c7 (by rw [h]; rfl)
    refine hs_aload (i := 0) (p := 13) (by decide +kernel) rfl ?_
    refine ht_callv (T := et_TT) (t := 12) (mi := 120) (na := 0) (ci := 10) (lk := 1) (lm := 1) (L0 := eg_en (eg_mL 120) [.ref th]) (by decide +kernel) rfl hH k_th rfl rfl rfl rfl rfl (by rw [show eg_mL 120 = 1 from by decide +kernel]; first | done | rfl) ?_
    refine (fd_fgt hH k_th).mono (fun u hu => xw_cb hu (fun G13 v13 hH x13 hP13 => ?_))
    have h0 := (x13.2 th 0 lt_th (fun h => absurd h.2 (by decide))).trans h0
    have h2 := (x13.2 s0 2 lt_s0 (fun h => (hi_ne k_s0 k_th (by decide)) h.1)).trans h2
    have lt_th := Nat.lt_of_lt_of_le lt_th x13.1
    have lt_s0 := Nat.lt_of_lt_of_le lt_s0 x13.1
    obtain ⟨rfl, q6_, q7_⟩ := hP13
    show et_go none _ 119 16 _ [] _ _ _ _
    refine hs_aload (i := 0) (p := 17) (by decide +kernel) rfl ?_
    refine hf_get (T := et_TT) (t := 12) (ci := 10) (f := 0) (p := 20) (by decide +kernel) rfl hH k_th h0 ?_
    refine hs_dup1 (p := 21) (by decide +kernel) ?_
    refine hf_get (T := et_TT) (t := 10) (ci := 8) (f := 2) (p := 24) (by decide +kernel) rfl hH k_s0 h2 ?_
    refine hs_k (x := Int32.ofNat 1) (p := 25) (by decide +kernel) ?_
    refine hs_isubn (p := 26) (by decide +kernel) (by omega) ?_
    refine hf_put (T := et_TT) (t := 10) (ci := 8) (f := 2) (p := 29) (ty := .int) (by decide +kernel) rfl rfl rfl rfl rfl hH k_s0 (hi_nv (by omega) (by omega)) (fun G26 hH x26 e26 => ?_)
    have h0 := (x26.2 th 0 lt_th (fun h => (hi_ne k_th k_s0 (by decide)) h.1)).trans h0
    have q6_ := (x26.2 th 6 lt_th (fun h => (hi_ne k_th k_s0 (by decide)) h.1)).trans q6_
    have lt_th := Nat.lt_of_lt_of_le lt_th x26.1
    have lt_s0 := Nat.lt_of_lt_of_le lt_s0 x26.1
    refine hs_aload (i := 0) (p := 30) (by decide +kernel) rfl ?_
    refine hf_get (T := et_TT) (t := 12) (ci := 10) (f := 0) (p := 33) (by decide +kernel) rfl hH k_th h0 ?_
    refine hf_get (T := et_TT) (t := 10) (ci := 8) (f := 2) (p := 36) (by decide +kernel) rfl hH k_s0 e26 ?_
    refine hs_iret (by decide +kernel) ?_
    exact ⟨fun h => absurd h c7, fun _ => q6_⟩
  · have c7 : n = 0 := by have h := Decidable.of_not_not c7; have h2 := congrArg Int32.toInt h; rw [hs_nint (by omega)] at h2; have h3 : (0 : Int32).toInt = 0 := rfl; omega
    refine hs_k (x := (-1)) (p := 11) (by decide +kernel) ?_
    refine hs_iret (by decide +kernel) ?_
    exact ⟨fun _ => rfl, fun h => absurd c7 h⟩
theorem fq_bk0 (hH : et_H et_TT K G) (k_th : K th = some 12) (hp : ph_at G th b) (hb : b ≤ 1) (hd3 : 3 ≤ d2) : et_go none d2 125 0 (eg_en (eg_mL 125) [.ref th]) [] G 0 0 (fun u => b = 0 → u.2.1 = G) := by
  by_cases h0 : b = 0
  · subst h0
    have hp : et_pl (eg_at G th) 2 = some (.int (Int32.ofNat 0)) := hp
    rw [show eg_mL 125 = 1 from by decide +kernel]
    show et_go none d2 125 0 [some (.ref th)] [] G 0 0 _
    have lt_th := (hH.2.2 _ _ k_th).1
    refine hs_aload (i := 0) (p := 1) (by decide +kernel) rfl ?_
    refine hf_get (T := et_TT) (t := 12) (ci := 10) (f := 2) (p := 4) (by decide +kernel) rfl hH k_th hp ?_
    refine hs_if0 (c := .ne) (t := 9) (f := 7) (by decide +kernel) (show ¬ (¬ Int32.ofNat 0 = 0) by decide) ?_
    refine hs_k (x := Int32.ofNat 0) (p := 8) (by decide +kernel) ?_
    refine hs_zret (by decide +kernel) (.inl rfl) ?_
    exact fun _ => rfl
  · exact (fq_125_6 (d2 := d2) hH k_th hd3).mono (fun u _ h => absurd h h0)
end AAA
end
section
/-! read: sums over all KNOBS do not depend on the order in which they are numbered -/
def smI (f : Nat → Int32) : Nat → Int32
  | 0 => Int32.ofNat 0
  | n + 1 => smI f n + f n
theorem i32_z (x : Int32) : Int32.ofNat 0 + x = x := Int32.zero_add x
theorem i32_zr (x : Int32) : x + Int32.ofNat 0 = x := Int32.add_zero x
theorem smI_co {f g : Nat → Int32} : ∀ n, (∀ i, i < n → f i = g i) → smI f n = smI g n
  | 0, _ => rfl
  | n + 1, h => by
    show smI f n + f n = smI g n + g n
    rw [smI_co n (fun i hi => h i (by omega)), h n (by omega)]
theorem smI_z {f : Nat → Int32} : ∀ n, (∀ i, i < n → f i = Int32.ofNat 0) → smI f n = Int32.ofNat 0
  | 0, _ => rfl
  | n + 1, h => by
    show smI f n + f n = _
    rw [smI_z n (fun i hi => h i (by omega)), h n (by omega)]
    rfl
theorem smI_ad {f g : Nat → Int32} : ∀ n, smI (fun i => f i + g i) n = smI f n + smI g n
  | 0 => rfl
  | n + 1 => by
    show smI (fun i => f i + g i) n + (f n + g n) = smI f n + f n + (smI g n + g n)
    rw [smI_ad n, Int32.add_assoc, Int32.add_assoc, ← Int32.add_assoc (smI g n), Int32.add_comm (smI g n) (f n), Int32.add_assoc]
theorem smI_ap {f : Nat → Int32} (a : Nat) : ∀ b, smI f (a + b) = smI f a + smI (fun i => f (a + i)) b
  | 0 => (i32_zr _).symm
  | b + 1 => by
    show smI f (a + b) + f (a + b) = smI f a + (smI (fun i => f (a + i)) b + f (a + b))
    rw [smI_ap a b, Int32.add_assoc]
/-- n = m * b + d -/
theorem smI_mu {f : Nat → Int32} {b : Nat} : ∀ a, smI f (a * b) = smI (fun m => smI (fun d => f (m * b + d)) b) a
  | 0 => by
    rw [Nat.zero_mul]
    rfl
  | a + 1 => by
    show _ = smI (fun m => smI (fun d => f (m * b + d)) b) a + smI (fun d => f (a * b + d)) b
    rw [Nat.succ_mul, smI_ap, smI_mu a]
theorem smI_sw {f : Nat → Nat → Int32} {b : Nat} : ∀ a, smI (fun m => smI (fun d => f m d) b) a = smI (fun d => smI (fun m => f m d) a) b
  | 0 => (smI_z b (fun i _ => rfl)).symm
  | a + 1 => by
    show smI (fun m => smI (fun d => f m d) b) a + smI (fun d => f a d) b = smI (fun d => smI (fun m => f m d) a + f a d) b
    rw [smI_sw a, smI_ad]
/-- the reference's KNOBS of a number: the WIRE 0's last -/
def kvL (k n : Nat) : Nat → Int32 := fun u => Int32.ofNat (n / (2 * k + 1) ^ u % (2 * k + 1)) - Int32.ofNat k
/-- KNOB d for WIRE W -/
def kxt (k : Nat) (T : Nat → Int32) (W d : Nat) : Nat → Int32 := fun u => if u = W then Int32.ofNat d - Int32.ofNat k else T u
theorem kvT_x {k W m d u : Nat} (hd : d < 2 * k + 1) (hu : u < W + 1) : kvT k (W + 1) (m * (2 * k + 1) + d) u = kxt k (kvT k W m) W d u := by
  unfold kvT kxt kvD
  dsimp only
  by_cases e : u = W
  · rw [if_pos e, e, show W + 1 - 1 - W = 0 by omega, Nat.pow_zero, Nat.div_one, show (m * (2 * k + 1) + d) % (2 * k + 1) = d from by rw [Nat.mul_comm, Nat.mul_add_mod, Nat.mod_eq_of_lt hd]]
  · rw [if_neg e, show W + 1 - 1 - u = (W - 1 - u) + 1 by omega, Nat.pow_succ, Nat.mul_comm ((2 * k + 1) ^ (W - 1 - u)), ← Nat.div_div_eq_div_mul, show (m * (2 * k + 1) + d) / (2 * k + 1) = m from by rw [Nat.mul_comm, Nat.mul_add_div (show 0 < 2 * k + 1 by omega), Nat.div_eq_of_lt hd, Nat.add_zero]]
theorem kvL_x {k W m d u : Nat} (hm : m < (2 * k + 1) ^ W) (hd : d < 2 * k + 1) (hu : u < W + 1) : kvL k (d * (2 * k + 1) ^ W + m) u = kxt k (kvL k m) W d u := by
  unfold kvL kxt
  dsimp only
  have hp : 0 < (2 * k + 1) ^ W := Nat.pow_pos (by omega)
  by_cases e : u = W
  · rw [if_pos e, e, show (d * (2 * k + 1) ^ W + m) / (2 * k + 1) ^ W = d from by rw [Nat.mul_comm, Nat.mul_add_div hp, Nat.div_eq_of_lt hm, Nat.add_zero], Nat.mod_eq_of_lt hd]
  · rw [if_neg e]
    have e1 : (2 * k + 1) ^ W = (2 * k + 1) ^ u * ((2 * k + 1) * (2 * k + 1) ^ (W - 1 - u)) := by
      rw [← Nat.mul_assoc, ← Nat.pow_succ, ← Nat.pow_add]
      congr 1
      omega
    have e2 : (d * (2 * k + 1) ^ W + m) / (2 * k + 1) ^ u = (2 * k + 1) * (d * (2 * k + 1) ^ (W - 1 - u)) + m / (2 * k + 1) ^ u := by
      rw [e1, show d * ((2 * k + 1) ^ u * ((2 * k + 1) * (2 * k + 1) ^ (W - 1 - u))) = (2 * k + 1) ^ u * ((2 * k + 1) * (d * (2 * k + 1) ^ (W - 1 - u))) from by
        rw [Nat.mul_left_comm, Nat.mul_left_comm d], Nat.mul_add_div (show 0 < (2 * k + 1) ^ u from Nat.pow_pos (by omega))]
    rw [e2, Nat.mul_add_mod]
theorem sm_kn {k : Nat} : ∀ (W : Nat) (F : (Nat → Int32) → Int32), (∀ T T', (∀ u, u < W → T u = T' u) → F T = F T') → smI (fun n => F (kvT k W n)) ((2 * k + 1) ^ W) = smI (fun n => F (kvL k n)) ((2 * k + 1) ^ W)
  | 0, F, h => by
    rw [Nat.pow_zero]
    show Int32.ofNat 0 + F (kvT k 0 0) = Int32.ofNat 0 + F (kvL k 0)
    rw [h (kvT k 0 0) (kvL k 0) (fun u hu => absurd hu (Nat.not_lt_zero u))]
  | W + 1, F, h => by
    have hG : ∀ T T', (∀ u, u < W → T u = T' u) → smI (fun d => F (kxt k T W d)) (2 * k + 1) = smI (fun d => F (kxt k T' W d)) (2 * k + 1) := fun T T' hT => smI_co _ (fun d _ => h _ _ (fun u hu => by
      unfold kxt
      by_cases e : u = W
      · rw [if_pos e, if_pos e]
      · rw [if_neg e, if_neg e]
        exact hT u (by omega)))
    have ih := sm_kn (k := k) W (fun T => smI (fun d => F (kxt k T W d)) (2 * k + 1)) hG
    have e1 : smI (fun n => F (kvT k (W + 1) n)) ((2 * k + 1) ^ (W + 1)) = smI (fun m => smI (fun d => F (kxt k (kvT k W m) W d)) (2 * k + 1)) ((2 * k + 1) ^ W) := by
      rw [Nat.pow_succ, smI_mu]
      exact smI_co _ (fun m _ => smI_co _ (fun d hd => h _ _ (fun u hu => kvT_x hd hu)))
    have e2 : smI (fun n => F (kvL k n)) ((2 * k + 1) ^ (W + 1)) = smI (fun d => smI (fun m => F (kxt k (kvL k m) W d)) ((2 * k + 1) ^ W)) (2 * k + 1) := by
      rw [Nat.pow_succ, Nat.mul_comm, smI_mu]
      exact smI_co _ (fun d hd => smI_co _ (fun m hm => h _ _ (fun u hu => kvL_x hm hd hu)))
    rw [e1, e2, ih]
    exact smI_sw _
end
section
/-! read: how many LINES -/
/-- the highest LINE that the yes CARDS leave, the lowest that the no CARDS leave -/
def rhI (S : Nat → Int32) (Y : Nat → Nat) : Nat → Int32
  | 0 => Int32.ofNat 9
  | n + 1 => if Y n = 1 then mnI (rhI S Y n) (S n - Int32.ofNat 1) else rhI S Y n
def rlI (S : Nat → Int32) (Y : Nat → Nat) : Nat → Int32
  | 0 => (-9)
  | n + 1 => if Y n = 1 then rlI S Y n else mxI (rlI S Y n) (S n)
/-- how many eyes; how many of them say yes to a card that they see s -/
def reN (h l : Int32) : Int32 := if h < l then Int32.ofNat 0 else h - l + Int32.ofNat 1
def rsN (h l s : Int32) : Int32 := if h < l then Int32.ofNat 0 else mxI (Int32.ofNat 0) (mnI h (s - Int32.ofNat 1) - l + Int32.ofNat 1)
/-- of all KNOBS T -/
def reT (v : evT) (X : Nat → Int32) (Y : Nat → Nat) (nc : Nat) (T : Nat → Int32) : Int32 := reN (rhI (seS v T X) Y nc) (rlI (seS v T X) Y nc)
def rsT (v : evT) (X : Nat → Int32) (Y : Nat → Nat) (nc : Nat) (x : Int32) (T : Nat → Int32) : Int32 := rsN (rhI (seS v T X) Y nc) (rlI (seS v T X) Y nc) (suN v.2.1 v.2.2.1 T x v.1)
theorem suN_co {C : Nat → Int32} {Kd : Nat → Nat} {T T' : Nat → Int32} {x : Int32} : ∀ m, (∀ u, u < m → T u = T' u) → suN C Kd T x m = suN C Kd T' x m
  | 0, _ => rfl
  | m + 1, h => by
    show suN C Kd T x m + T m * vaI (C m) (Kd m) x = suN C Kd T' x m + T' m * vaI (C m) (Kd m) x
    rw [suN_co m (fun u hu => h u (by omega)), h m (by omega)]
theorem seS_co {v : evT} {T T' X : Nat → Int32} (h : ∀ u, u < v.1 → T u = T' u) : seS v T X = seS v T' X := by
  funext c
  exact suN_co v.1 h
section AFA
variable {v : evT} {X : Nat → Int32} {Y : Nat → Nat} {nc k : Nat} {x : Int32}
/-- both sides' sums -/
theorem re_same : smI (fun n => reT v X Y nc (kvT k v.1 n)) ((2 * k + 1) ^ v.1) = smI (fun n => reT v X Y nc (kvL k n)) ((2 * k + 1) ^ v.1) := sm_kn v.1 (reT v X Y nc) (fun T T' h => by
  unfold reT
  rw [seS_co h])
theorem rs_same : smI (fun n => rsT v X Y nc x (kvT k v.1 n)) ((2 * k + 1) ^ v.1) = smI (fun n => rsT v X Y nc x (kvL k n)) ((2 * k + 1) ^ v.1) := sm_kn v.1 (rsT v X Y nc x) (fun T T' h => by
  unfold rsT
  rw [seS_co h, suN_co v.1 h])
/-- a yes CARD not above a no CARD: no LINE -/
theorem rh_le {S : Nat → Int32} (hS : ∀ c, c < nc → -1134 ≤ (S c).toInt ∧ (S c).toInt ≤ 1134) : ∀ m, m ≤ nc → -1135 ≤ (rhI S Y m).toInt ∧ (rhI S Y m).toInt ≤ 9 ∧ ∀ c, c < m → Y c = 1 → (rhI S Y m).toInt ≤ (S c).toInt - 1
  | 0, _ => ⟨by show -1135 ≤ (9 : Int); decide, by show (9 : Int) ≤ 9; decide, fun c h => absurd h (Nat.not_lt_zero c)⟩
  | m + 1, hm => by
    obtain ⟨h1, h2, h3⟩ := rh_le hS m (by omega)
    have hs := hS m (by omega)
    have o1 : (Int32.ofNat 1).toInt = 1 := rfl
    have e1 : (S m - Int32.ofNat 1).toInt = (S m).toInt - 1 := by
      rw [et_sub _ _ (by rw [o1]; unfold et_mn; omega) (by rw [o1]; unfold et_mx; omega), o1]
    have e : rhI S Y (m + 1) = if Y m = 1 then mnI (rhI S Y m) (S m - Int32.ofNat 1) else rhI S Y m := rfl
    rw [e]
    by_cases hy : Y m = 1
    · rw [if_pos hy, mnI_t, e1]
      refine ⟨by omega, by omega, fun c hc hc1 => ?_⟩
      by_cases ec : c = m
      · rw [ec]
        omega
      · have := h3 c (by omega) hc1
        omega
    · rw [if_neg hy]
      refine ⟨h1, h2, fun c hc hc1 => ?_⟩
      by_cases ec : c = m
      · rw [ec] at hc1
        exact absurd hc1 hy
      · exact h3 c (by omega) hc1
theorem rl_ge {S : Nat → Int32} (hS : ∀ c, c < nc → -1134 ≤ (S c).toInt ∧ (S c).toInt ≤ 1134) : ∀ m, m ≤ nc → -9 ≤ (rlI S Y m).toInt ∧ (rlI S Y m).toInt ≤ 1134 ∧ ∀ c, c < m → ¬ Y c = 1 → (S c).toInt ≤ (rlI S Y m).toInt
  | 0, _ => ⟨by show -9 ≤ (-9 : Int); decide, by show (-9 : Int) ≤ 1134; decide, fun c h => absurd h (Nat.not_lt_zero c)⟩
  | m + 1, hm => by
    obtain ⟨h1, h2, h3⟩ := rl_ge hS m (by omega)
    have hs := hS m (by omega)
    have e : rlI S Y (m + 1) = if Y m = 1 then rlI S Y m else mxI (rlI S Y m) (S m) := rfl
    rw [e]
    by_cases hy : Y m = 1
    · rw [if_pos hy]
      refine ⟨h1, h2, fun c hc hc1 => ?_⟩
      by_cases ec : c = m
      · rw [ec] at hc1
        exact absurd hy hc1
      · exact h3 c (by omega) hc1
    · rw [if_neg hy, mxI_t]
      refine ⟨by omega, by omega, fun c hc hc1 => ?_⟩
      by_cases ec : c = m
      · rw [ec]
        omega
      · have := h3 c (by omega) hc1
        omega
theorem re_z {S : Nat → Int32} (hS : ∀ c, c < nc → -1134 ≤ (S c).toInt ∧ (S c).toInt ≤ 1134) {h l : Nat} (hh : h < nc) (hl : l < nc) (h1 : Y h = 1) (h2 : ¬ Y l = 1) (hs : (S h).toInt ≤ (S l).toInt) : rhI S Y nc < rlI S Y nc := by
  rw [Int32.lt_iff_toInt_lt]
  have a := (rh_le (Y := Y) hS nc (Nat.le_refl nc)).2.2 h hh h1
  have b := (rl_ge (Y := Y) hS nc (Nat.le_refl nc)).2.2 l hl h2
  omega
end AFA
end
section
/-! read: no WIRE joins no CELL at all -/
def nzV (V : Nat → evT) : Prop := ∀ n, n < 6 → ∀ u, u < (V n).1 → ¬ (V n).2.1 u = 0
def nzR (K : et_K) (G : eg_G) (th s0 s1 : Nat) : Prop := ∃ (ya yb : Nat) (O : Nat → Nat) (A : Nat → Nat → Nat) (V : Nat → evT), ezK K ya yb O A ∧ ez G th s0 s1 ya yb O A V ∧ (∀ n, n < 6 → evo (V n)) ∧ nzV V
section AGA
variable {K K' : et_K} {G G' : eg_G} {M : et_M} {th s0 s1 ya yb n h : Nat} {O : Nat → Nat} {A : Nat → Nat → Nat} {V V' : Nat → evT} {y : Int32} {k : Nat}
theorem nzR.fr (h : nzR K G th s0 s1) (k_th : K th = some 12) (k_s0 : K s0 = some 10) (k_s1 : K s1 = some 10) (hx : et_ex K K') (hf : et_fr M K G G') (hk : ez_k M = true) : nzR K' G' th s0 s1 := by
  obtain ⟨ya, yb, O, A, V, h1, h2, h3, h4⟩ := h
  exact ⟨ya, yb, O, A, V, h1.ex hx, h2.fr h1 k_th k_s0 k_s1 hf hk, h3, h4⟩
theorem evc.un {e ca ki kn ca' ki' kn' : Nat} {v v' : evT} (a : evc G e ca ki kn v) (b : evc G e ca' ki' kn' v') (ho : evo v) (ho' : evo v') : v.1 = v'.1 ∧ ∀ u, u < v.1 → v.2.1 u = v'.2.1 u := by
  have e1 : v.1 = v'.1 := xi_inj (by have := ho.1.1; omega) (by have := ho'.1.1; omega) (a.1.1.symm.trans b.1.1)
  have e2 : ca = ca' := Value.ref.inj (Option.some.inj (a.1.2.1.symm.trans b.1.2.1))
  refine ⟨e1, fun u hu => ?_⟩
  have b1 := (b.2.2.1 u (by omega)).1
  rw [← e2] at b1
  exact Value.int.inj (Option.some.inj ((a.2.2.1 u hu).1.symm.trans b1))
theorem nzR.of (hr : nzR K G th s0 s1) (hz : ez G th s0 s1 ya yb O A V) (ho : ∀ n, n < 6 → evo (V n)) : nzV V := by
  obtain ⟨ya2, yb2, O2, A2, V2, -, z2, ho2, hn⟩ := hr
  obtain rfl : ya = ya2 := Value.ref.inj (Option.some.inj (hz.1.1.symm.trans z2.1.1))
  obtain rfl : yb = yb2 := Value.ref.inj (Option.some.inj (hz.1.2.1.symm.trans z2.1.2.1))
  intro n h6 u hu
  have eO : O2 n = O n := by
    by_cases h3 : n < 3
    · exact Value.ref.inj (Option.some.inj ((z2.2.1 n h3).1.symm.trans (hz.2.1 n h3).1))
    · have a := (z2.2.1 (n - 3) (by omega)).2
      have b := (hz.2.1 (n - 3) (by omega)).2
      rw [show 3 + (n - 3) = n by omega] at a b
      exact Value.ref.inj (Option.some.inj (a.symm.trans b))
  have c := z2.2.2.1 n h6
  rw [eO] at c
  have e := evc.un (hz.2.2.1 n h6) c (ho n h6) (ho2 n h6)
  rw [e.2 u hu]
  exact hn n h6 u (by omega)
theorem nzV.co (h : nzV V) (hV : ∀ n, n < 6 → coreE (V n) (V' n)) : nzV V' := fun n hn u hu => by
  have e := hV n hn
  rw [← (e.2 u (by rw [e.1]; exact hu)).1]
  exact h n hn u (by rw [e.1]; exact hu)
theorem nzV.wi (h : nzV V) (hy : ¬ y = 0) : nzV (vup V n (wiV (V n) y k)) := fun m hm u hu => by
  unfold vup at hu ⊢
  by_cases e : m = n
  · rw [if_pos e] at hu ⊢
    show ¬ (if u = (V n).1 then y else (V n).2.1 u) = 0
    have hu : u < (V n).1 + 1 := hu
    by_cases eu : u = (V n).1
    · rw [if_pos eu]
      exact hy
    · rw [if_neg eu]
      exact h n (by omega) u (by omega)
  · rw [if_neg e] at hu ⊢
    exact h m hm u hu
theorem nzV.im (h : nzV V) : nzV (fun k => if k < 3 then V k else V (k - 3)) := fun n hn u hu => by
  dsimp only at hu ⊢
  by_cases e : n < 3
  · rw [if_pos e] at hu ⊢
    exact h n hn u hu
  · rw [if_neg e] at hu ⊢
    exact h (n - 3) (by omega) u hu
theorem nzV.bk (hv : nzV V) : nzV (if h = 0 then V else (fun k => if k < 3 then V (3 + k) else V k)) := by
  by_cases e : h = 0
  · rw [if_pos e]
    exact hv
  · rw [if_neg e]
    intro n hn u hu
    dsimp only at hu ⊢
    by_cases e3 : n < 3
    · rw [if_pos e3] at hu ⊢
      exact hv (3 + n) (by omega) u hu
    · rw [if_neg e3] at hu ⊢
      exact hv n hn u hu
/-- the VALUE of card 0 is 0 then -/
theorem vaI_0 {c : Int32} {kd : Nat} (hc : ¬ c = 0) (hk : kd ≤ 2) : vaI c kd 0 = Int32.ofNat 0 := by
  have e : (0 : Int32) &&& c = 0 := Int32.zero_and
  rcases (show kd = 0 ∨ kd = 1 ∨ kd = 2 by omega) with rfl | rfl | rfl
  · show rp_bc ((0 : Int32) &&& c) = _
    rw [e]
    decide
  · show (if (0 : Int32) &&& c = c then Int32.ofNat 1 else Int32.ofNat 0) = _
    rw [e, if_neg (fun h => hc h.symm)]
  · show rp_bc ((0 : Int32) &&& c) &&& Int32.ofNat 1 = _
    rw [e]
    decide
end AGA
theorem ez0.nz {K : et_K} {G : eg_G} {th s0 s1 : Nat} (h : ez0 K G th s0 s1) : nzR K G th s0 s1 := by
  obtain ⟨ya, yb, O, A, V, h1, h2, h3⟩ := h
  exact ⟨ya, yb, O, A, V, h1, h2, fun n hn => (h3 n hn).o, fun n hn u hu => absurd hu (by rw [(h3 n hn).1]; exact Nat.not_lt_zero u)⟩
end
section
/-! read: the class counts the LINES of one eye's KNOBS -/
def rhX (a : Nat → Int32) : Nat → Int32
  | 0 => Int32.ofNat 9
  | i + 1 => mnI (rhX a i) (a i - Int32.ofNat 1)
def rlX (b : Nat → Int32) : Nat → Int32
  | 0 => (-9)
  | i + 1 => mxI (rlX b i) (b i)
theorem reN_z {h l : Int32} (q : h < l) : reN h l = Int32.ofNat 0 := if_pos q
theorem reN_n {h l : Int32} (q : ¬ h < l) : reN h l = h - l + Int32.ofNat 1 := if_neg q
theorem rsN_z {h l s : Int32} (q : h < l) : rsN h l s = Int32.ofNat 0 := if_pos q
theorem rsN_n {h l s : Int32} (q : ¬ h < l) : rsN h l s = mxI (Int32.ofNat 0) (mnI h (s - Int32.ofNat 1) - l + Int32.ofNat 1) := if_neg q
section AHA
variable {K : et_K} {G G0 : eg_G} {d2 se tS sy P W ny nn as_ i : Nat} {a b s9 g : Nat → Int32} {e0 hi lo : Int32} {x4 x5 : Option Value} {Z : eg_O → Prop}
theorem fd_clY (hH : et_H et_TT K G) (k_se : K se = some 9) (k_tS : K tS = some 44) (k_r : K (tS + 1 + W) = some 45) (k_sy : K sy = some 19) (hW : W ≤ 6) (hsz : P + ny + nn + as_ ≤ 151) (has : as_ ≤ 31) (q2 : et_pl (eg_at G se) 2 = some (.ref tS)) (q4 : et_pl (eg_at G se) 4 = some (.int (Int32.ofNat P))) (q6 : et_pl (eg_at G se) 6 = some (.int (Int32.ofNat W))) (q10 : et_pl (eg_at G se) 10 = some (.int (Int32.ofNat (P + ny)))) (q11 : et_pl (eg_at G se) 11 = some (.int (Int32.ofNat (P + ny + nn)))) (q12 : et_pl (eg_at G se) 12 = some (.int (Int32.ofNat as_))) (q17 : et_pl (eg_at G se) 17 = some (.ref sy)) (hY : ∀ i, i < ny → et_pl (eg_at G (tS + 1 + W)) (P + i) = some (.int (a i))) (hi_ : i ≤ ny) (h : et_go none d2 96 48 [some (.ref se), some (.int lo), some (.int (rhX a ny)), some (.ref (tS + 1 + W)), some (.int (Int32.ofNat (P + ny))), x5] [] G 0 0 Z) : et_go none d2 96 22 [some (.ref se), some (.int lo), some (.int (rhX a i)), some (.ref (tS + 1 + W)), some (.int (Int32.ofNat (P + i))), x5] [] G 0 0 Z := by
  induction hq9 : ny - i using Nat.strongRecOn generalizing i with
  | _ q9 ih =>
    have k__tS___1___W_ := k_r
    have lt__tS___1___W_ := (hH.2.2 _ _ k_r).1
    have lt_se := (hH.2.2 _ _ k_se).1
    have lt_tS := (hH.2.2 _ _ k_tS).1
    have lt_sy := (hH.2.2 _ _ k_sy).1
    refine hs_iload (i := 4) (p := 24) (by decide +kernel) rfl ?_
    refine hs_aload (i := 0) (p := 25) (by decide +kernel) rfl ?_
    refine hf_get (T := et_TT) (t := 9) (ci := 7) (f := 10) (p := 28) (by decide +kernel) rfl hH k_se q10 ?_
    refine hs_br2n (c := .ge) (t := 48) (f := 31) (by decide +kernel) (by omega) (by omega) (fun (c28 : (P + ny) ≤ (P + i)) => ?_) (fun (c28 : ¬ ((P + ny) ≤ (P + i))) => ?_)
    · obtain rfl : i = ny := by omega
      exact h
    · refine hs_iload (i := 2) (p := 32) (by decide +kernel) rfl ?_
      refine hs_aload (i := 3) (p := 33) (by decide +kernel) rfl ?_
      refine hs_iload (i := 4) (p := 35) (by decide +kernel) rfl ?_
      refine hf_ald (ins := .iaload) (T := et_TT) (t := 45) (kd := 0) (N := 151) (p := 36) (by decide +kernel) (fun _ _ _ _ _ _ _ _ _ _ => rfl) rfl rfl rfl hH k__tS___1___W_ (by decide) (hY i (by omega)) ?_
      refine hs_k (x := Int32.ofNat 1) (p := 37) (by decide +kernel) ?_
      refine hs_isub (p := 38) (by decide +kernel) ?_
      refine hs_math (mi := 311) (lk := 6) (p := 41) (by decide +kernel) rfl rfl rfl rfl ?_
      rw [show (if ((a i) - Int32.ofNat 1) < (rhX a i) then ((a i) - Int32.ofNat 1) else (rhX a i)) = (mnI (rhX a i) ((a i) - Int32.ofNat 1)) from rfl]
      refine hs_istore (i := 2) (p := 42) (by decide +kernel) (Nat.le_of_ble_eq_true rfl) ?_
      refine hs_iinc1 (i := 4) (p := 45) (by decide +kernel) rfl (Nat.le_of_ble_eq_true rfl) ?_
      refine hs_goto (p := 22) (by decide +kernel) ?_
      exact ih (ny - (i + 1)) (by omega) (i := i + 1) (by omega) rfl
theorem fd_clN (hH : et_H et_TT K G) (k_se : K se = some 9) (k_tS : K tS = some 44) (k_r : K (tS + 1 + W) = some 45) (k_sy : K sy = some 19) (hW : W ≤ 6) (hsz : P + ny + nn + as_ ≤ 151) (has : as_ ≤ 31) (q2 : et_pl (eg_at G se) 2 = some (.ref tS)) (q4 : et_pl (eg_at G se) 4 = some (.int (Int32.ofNat P))) (q6 : et_pl (eg_at G se) 6 = some (.int (Int32.ofNat W))) (q10 : et_pl (eg_at G se) 10 = some (.int (Int32.ofNat (P + ny)))) (q11 : et_pl (eg_at G se) 11 = some (.int (Int32.ofNat (P + ny + nn)))) (q12 : et_pl (eg_at G se) 12 = some (.int (Int32.ofNat as_))) (q17 : et_pl (eg_at G se) 17 = some (.ref sy)) (hN : ∀ i, i < nn → et_pl (eg_at G (tS + 1 + W)) (P + ny + i) = some (.int (b i))) (hi_ : i ≤ nn) (h : et_go none d2 96 78 [some (.ref se), some (.int (rlX b nn)), some (.int hi), some (.ref (tS + 1 + W)), some (.int (Int32.ofNat (P + ny + nn))), x5] [] G 0 0 Z) : et_go none d2 96 54 [some (.ref se), some (.int (rlX b i)), some (.int hi), some (.ref (tS + 1 + W)), some (.int (Int32.ofNat (P + ny + i))), x5] [] G 0 0 Z := by
  induction hq9 : nn - i using Nat.strongRecOn generalizing i with
  | _ q9 ih =>
    have k__tS___1___W_ := k_r
    have lt__tS___1___W_ := (hH.2.2 _ _ k_r).1
    have lt_se := (hH.2.2 _ _ k_se).1
    have lt_tS := (hH.2.2 _ _ k_tS).1
    have lt_sy := (hH.2.2 _ _ k_sy).1
    refine hs_iload (i := 4) (p := 56) (by decide +kernel) rfl ?_
    refine hs_aload (i := 0) (p := 57) (by decide +kernel) rfl ?_
    refine hf_get (T := et_TT) (t := 9) (ci := 7) (f := 11) (p := 60) (by decide +kernel) rfl hH k_se q11 ?_
    refine hs_br2n (c := .ge) (t := 78) (f := 63) (by decide +kernel) (by omega) (by omega) (fun (c60 : (P + ny + nn) ≤ (P + ny + i)) => ?_) (fun (c60 : ¬ ((P + ny + nn) ≤ (P + ny + i))) => ?_)
    · obtain rfl : i = nn := by omega
      exact h
    · refine hs_iload (i := 1) (p := 64) (by decide +kernel) rfl ?_
      refine hs_aload (i := 3) (p := 65) (by decide +kernel) rfl ?_
      refine hs_iload (i := 4) (p := 67) (by decide +kernel) rfl ?_
      refine hf_ald (ins := .iaload) (T := et_TT) (t := 45) (kd := 0) (N := 151) (p := 68) (by decide +kernel) (fun _ _ _ _ _ _ _ _ _ _ => rfl) rfl rfl rfl hH k__tS___1___W_ (by decide) (hN i (by omega)) ?_
      refine hs_math (mi := 310) (lk := 6) (p := 71) (by decide +kernel) rfl rfl rfl rfl ?_
      rw [show (if (rlX b i) < (b i) then (b i) else (rlX b i)) = (mxI (rlX b i) (b i)) from rfl]
      refine hs_istore (i := 1) (p := 72) (by decide +kernel) (Nat.le_of_ble_eq_true rfl) ?_
      refine hs_iinc1 (i := 4) (p := 75) (by decide +kernel) rfl (Nat.le_of_ble_eq_true rfl) ?_
      refine hs_goto (p := 54) (by decide +kernel) ?_
      exact ih (nn - (i + 1)) (by omega) (i := i + 1) (by omega) rfl
theorem fd_clA (hH0 : et_H et_TT K G0) (hH : et_H et_TT K G) (k_se : K se = some 9) (k_tS : K tS = some 44) (k_r : K (tS + 1 + W) = some 45) (k_sy : K sy = some 19) (hW : W ≤ 6) (hsz : P + ny + nn + as_ ≤ 151) (has : as_ ≤ 31) (q2 : et_pl (eg_at G se) 2 = some (.ref tS)) (q4 : et_pl (eg_at G se) 4 = some (.int (Int32.ofNat P))) (q6 : et_pl (eg_at G se) 6 = some (.int (Int32.ofNat W))) (q10 : et_pl (eg_at G se) 10 = some (.int (Int32.ofNat (P + ny)))) (q11 : et_pl (eg_at G se) 11 = some (.int (Int32.ofNat (P + ny + nn)))) (q12 : et_pl (eg_at G se) 12 = some (.int (Int32.ofNat as_))) (q17 : et_pl (eg_at G se) 17 = some (.ref sy)) (hA : (∀ i, i < as_ → et_pl (eg_at G (tS + 1 + W)) (P + ny + nn + i) = some (.int (s9 i)))) (hX : xf (fun b _ => b = sy) G0 G) (hD : (∀ j, j < i → et_pl (eg_at G sy) j = some (.int (g j + mxI (Int32.ofNat 0) (mnI hi (s9 j - Int32.ofNat 1) - lo + Int32.ofNat 1))))) (hO : (∀ j, i ≤ j → j < as_ → et_pl (eg_at G sy) j = some (.int (g j)))) (hi_ : i ≤ as_) : et_go none d2 96 101 [some (.ref se), some (.int lo), some (.int hi), some (.ref (tS + 1 + W)), some (.int (Int32.ofNat i)), x5] [] G 0 0 (xw_Z (fun b _ => b = sy) K G0 (fun g9 v9 => v9 = none ∧ (∀ j, j < as_ → et_pl (eg_at g9 sy) j = some (.int (g j + mxI (Int32.ofNat 0) (mnI hi (s9 j - Int32.ofNat 1) - lo + Int32.ofNat 1)))))) := by
  induction hq9 : as_ - i using Nat.strongRecOn generalizing i G x5 with
  | _ q9 ih =>
    have k__tS___1___W_ := k_r
    have lt__tS___1___W_ := (hH.2.2 _ _ k_r).1
    have lt_se := (hH.2.2 _ _ k_se).1
    have lt_tS := (hH.2.2 _ _ k_tS).1
    have lt_sy := (hH.2.2 _ _ k_sy).1
    refine hs_iload (i := 4) (p := 103) (by decide +kernel) rfl ?_
    refine hs_aload (i := 0) (p := 104) (by decide +kernel) rfl ?_
    refine hf_get (T := et_TT) (t := 9) (ci := 7) (f := 12) (p := 107) (by decide +kernel) rfl hH k_se q12 ?_
    refine hs_br2n (c := .ge) (t := 153) (f := 110) (by decide +kernel) (by omega) (by omega) (fun (c107 : as_ ≤ i) => ?_) (fun (c107 : ¬ (as_ ≤ i)) => ?_)
    · refine hs_vret (by decide +kernel) ?_
      obtain rfl : i = as_ := by omega
      exact ⟨_, _, rfl, hH, hX, rfl, hD⟩
    · refine hs_iload (i := 2) (p := 111) (by decide +kernel) rfl ?_
      refine hs_aload (i := 3) (p := 112) (by decide +kernel) rfl ?_
      refine hs_aload (i := 0) (p := 113) (by decide +kernel) rfl ?_
      refine hf_get (T := et_TT) (t := 9) (ci := 7) (f := 11) (p := 116) (by decide +kernel) rfl hH k_se q11 ?_
      refine hs_iload (i := 4) (p := 118) (by decide +kernel) rfl ?_
      refine hs_iaddn (p := 119) (by decide +kernel) ?_
      refine hf_ald (ins := .iaload) (T := et_TT) (t := 45) (kd := 0) (N := 151) (p := 120) (by decide +kernel) (fun _ _ _ _ _ _ _ _ _ _ => rfl) rfl rfl rfl hH k__tS___1___W_ (by decide) (hA i (by omega)) ?_
      refine hs_k (x := Int32.ofNat 1) (p := 121) (by decide +kernel) ?_
      refine hs_isub (p := 122) (by decide +kernel) ?_
      refine hs_math (mi := 311) (lk := 6) (p := 125) (by decide +kernel) rfl rfl rfl rfl ?_
      rw [show (if ((s9 i) - Int32.ofNat 1) < hi then ((s9 i) - Int32.ofNat 1) else hi) = (mnI hi ((s9 i) - Int32.ofNat 1)) from rfl]
      refine hs_istore (i := 5) (p := 127) (by decide +kernel) (Nat.le_of_ble_eq_true rfl) ?_
      refine hs_aload (i := 0) (p := 128) (by decide +kernel) rfl ?_
      refine hf_get (T := et_TT) (t := 9) (ci := 7) (f := 17) (p := 131) (by decide +kernel) rfl hH k_se q17 ?_
      refine hs_iload (i := 4) (p := 133) (by decide +kernel) rfl ?_
      refine hs_dup2 (p := 134) (by decide +kernel) ?_
      refine hf_ald (ins := .iaload) (T := et_TT) (t := 19) (kd := 0) (N := 31) (p := 135) (by decide +kernel) (fun _ _ _ _ _ _ _ _ _ _ => rfl) rfl rfl rfl hH k_sy (by decide) (hO i (Nat.le_refl i) (by omega)) ?_
      refine hs_k (x := Int32.ofNat 0) (p := 136) (by decide +kernel) ?_
      refine hs_iload (i := 5) (p := 138) (by decide +kernel) rfl ?_
      refine hs_iload (i := 1) (p := 139) (by decide +kernel) rfl ?_
      refine hs_isub (p := 140) (by decide +kernel) ?_
      refine hs_k (x := Int32.ofNat 1) (p := 141) (by decide +kernel) ?_
      refine hs_iadd (p := 142) (by decide +kernel) ?_
      refine hs_math (mi := 310) (lk := 6) (p := 145) (by decide +kernel) rfl rfl rfl rfl ?_
      rw [show (if Int32.ofNat 0 < (((mnI hi ((s9 i) - Int32.ofNat 1)) - lo) + Int32.ofNat 1) then (((mnI hi ((s9 i) - Int32.ofNat 1)) - lo) + Int32.ofNat 1) else Int32.ofNat 0) = (mxI (Int32.ofNat 0) (((mnI hi ((s9 i) - Int32.ofNat 1)) - lo) + Int32.ofNat 1)) from rfl]
      refine hs_iadd (p := 146) (by decide +kernel) ?_
      have hHo := hH
      refine hf_ist (T := et_TT) (t := 19) (N := 31) (p := 147) (by decide +kernel) rfl rfl (by decide) hH k_sy (by omega) (by decide) (fun s hs => absurd hs List.not_mem_nil) (fun G146 hH x146 e146 => ?_)
      have q2 := (x146.2 se 2 lt_se (fun h => hi_ne k_se k_sy (by decide) h.1)).trans q2
      have q4 := (x146.2 se 4 lt_se (fun h => hi_ne k_se k_sy (by decide) h.1)).trans q4
      have q6 := (x146.2 se 6 lt_se (fun h => hi_ne k_se k_sy (by decide) h.1)).trans q6
      have q10 := (x146.2 se 10 lt_se (fun h => hi_ne k_se k_sy (by decide) h.1)).trans q10
      have q11 := (x146.2 se 11 lt_se (fun h => hi_ne k_se k_sy (by decide) h.1)).trans q11
      have q12 := (x146.2 se 12 lt_se (fun h => hi_ne k_se k_sy (by decide) h.1)).trans q12
      have q17 := (x146.2 se 17 lt_se (fun h => hi_ne k_se k_sy (by decide) h.1)).trans q17
      have hA : (∀ i, i < as_ → et_pl (eg_at G146 (tS + 1 + W)) (P + ny + nn + i) = some (.int (s9 i))) := fun j hj => (x146.2 (tS + 1 + W) _ lt__tS___1___W_ (fun h => hi_ne k_r k_sy (by decide) h.1)).trans (hA j hj)
      have hX := hX.tr x146 (fun b j _ h => h.1)
      have hD2 : (∀ j, j < (i + 1) → et_pl (eg_at G146 sy) j = some (.int (g j + mxI (Int32.ofNat 0) (mnI hi (s9 j - Int32.ofNat 1) - lo + Int32.ofNat 1)))) := fun j hj => by
        by_cases ej : j = i
        · rw [ej]; exact e146
        · exact (x146.2 sy j lt_sy (fun h => by have h := h.2; omega)).trans (hD j (by omega))
      have hO2 : (∀ j, (i + 1) ≤ j → j < as_ → et_pl (eg_at G146 sy) j = some (.int (g j))) := fun j h1 h2 => (x146.2 sy j lt_sy (fun h => by have h := h.2; omega)).trans (hO j (by omega) h2)
      refine hs_iinc1 (i := 4) (p := 150) (by decide +kernel) rfl (Nat.le_of_ble_eq_true rfl) ?_
      refine hs_goto (p := 101) (by decide +kernel) ?_
      exact ih (as_ - (i + 1)) (by omega) hH q2 q4 q6 q10 q11 q12 q17 hA hX hD2 hO2 (by omega) rfl
theorem fd_cl (hH : et_H et_TT K G) (k_se : K se = some 9) (k_tS : K tS = some 44) (k_r : K (tS + 1 + W) = some 45) (k_sy : K sy = some 19) (hW : W ≤ 6) (hsz : P + ny + nn + as_ ≤ 151) (has : as_ ≤ 31) (q2 : et_pl (eg_at G se) 2 = some (.ref tS)) (q4 : et_pl (eg_at G se) 4 = some (.int (Int32.ofNat P))) (q6 : et_pl (eg_at G se) 6 = some (.int (Int32.ofNat W))) (q10 : et_pl (eg_at G se) 10 = some (.int (Int32.ofNat (P + ny)))) (q11 : et_pl (eg_at G se) 11 = some (.int (Int32.ofNat (P + ny + nn)))) (q12 : et_pl (eg_at G se) 12 = some (.int (Int32.ofNat as_))) (q17 : et_pl (eg_at G se) 17 = some (.ref sy)) (qr : et_pl (eg_at G tS) W = some (.ref (tS + 1 + W))) (q16 : et_pl (eg_at G se) 16 = some (.int e0)) (hY : ∀ i, i < ny → et_pl (eg_at G (tS + 1 + W)) (P + i) = some (.int (a i))) (hN : ∀ i, i < nn → et_pl (eg_at G (tS + 1 + W)) (P + ny + i) = some (.int (b i))) (hA : (∀ i, i < as_ → et_pl (eg_at G (tS + 1 + W)) (P + ny + nn + i) = some (.int (s9 i)))) (hg : ∀ i, i < as_ → et_pl (eg_at G sy) i = some (.int (g i))) : et_go none d2 96 0 (eg_en (eg_mL 96) [.ref se]) [] G 0 0 (xw_Z (fun b j => (b = se ∧ j = 16) ∨ b = sy) K G (fun g9 v9 => v9 = none ∧ et_pl (eg_at g9 se) 16 = some (.int (e0 + reN (rhX a ny) (rlX b nn))) ∧ ∀ i, i < as_ → et_pl (eg_at g9 sy) i = some (.int (g i + rsN (rhX a ny) (rlX b nn) (s9 i))))) := by
  rw [show eg_mL 96 = 6 from by decide +kernel]
  show et_go none d2 96 0 [some (.ref se), none, none, none, none, none] [] G 0 0 _
  have k__tS___1___W_ := k_r
  have lt__tS___1___W_ := (hH.2.2 _ _ k_r).1
  have lt_se := (hH.2.2 _ _ k_se).1
  have lt_tS := (hH.2.2 _ _ k_tS).1
  have lt_sy := (hH.2.2 _ _ k_sy).1
  refine hs_k (x := (-9)) (p := 2) (by decide +kernel) ?_
  refine hs_istore (i := 1) (p := 3) (by decide +kernel) (Nat.le_of_ble_eq_true rfl) ?_
  refine hs_k (x := Int32.ofNat 9) (p := 5) (by decide +kernel) ?_
  refine hs_istore (i := 2) (p := 6) (by decide +kernel) (Nat.le_of_ble_eq_true rfl) ?_
  refine hs_aload (i := 0) (p := 7) (by decide +kernel) rfl ?_
  refine hf_get (T := et_TT) (t := 9) (ci := 7) (f := 2) (p := 10) (by decide +kernel) rfl hH k_se q2 ?_
  refine hs_aload (i := 0) (p := 11) (by decide +kernel) rfl ?_
  refine hf_get (T := et_TT) (t := 9) (ci := 7) (f := 6) (p := 14) (by decide +kernel) rfl hH k_se q6 ?_
  refine hf_ald (ins := .aaload) (T := et_TT) (t := 44) (kd := 11) (N := 7) (p := 15) (by decide +kernel) (fun _ _ _ _ _ _ _ _ _ _ => rfl) rfl rfl rfl hH k_tS (by decide) qr ?_
  refine hs_astore (i := 3) (p := 16) (by decide +kernel) (Nat.le_of_ble_eq_true rfl) ?_
  refine hs_aload (i := 0) (p := 17) (by decide +kernel) rfl ?_
  refine hf_get (T := et_TT) (t := 9) (ci := 7) (f := 4) (p := 20) (by decide +kernel) rfl hH k_se q4 ?_
  refine hs_istore (i := 4) (p := 22) (by decide +kernel) (Nat.le_of_ble_eq_true rfl) ?_
  refine fd_clY (i := 0) hH k_se k_tS k_r k_sy hW hsz has q2 q4 q6 q10 q11 q12 q17 hY (Nat.zero_le ny) ?_
  refine hs_aload (i := 0) (p := 49) (by decide +kernel) rfl ?_
  refine hf_get (T := et_TT) (t := 9) (ci := 7) (f := 10) (p := 52) (by decide +kernel) rfl hH k_se q10 ?_
  refine hs_istore (i := 4) (p := 54) (by decide +kernel) (Nat.le_of_ble_eq_true rfl) ?_
  refine fd_clN (i := 0) hH k_se k_tS k_r k_sy hW hsz has q2 q4 q6 q10 q11 q12 q17 hN (Nat.zero_le nn) ?_
  refine hs_iload (i := 1) (p := 79) (by decide +kernel) rfl ?_
  refine hs_iload (i := 2) (p := 80) (by decide +kernel) rfl ?_
  refine hs_br2 (c := .le) (t := 84) (f := 83) (by decide +kernel) (fun (c80 : (rlX b nn) ≤ (rhX a ny)) => ?_) (fun (c80 : ¬ ((rlX b nn) ≤ (rhX a ny))) => ?_)
  · refine hs_aload (i := 0) (p := 85) (by decide +kernel) rfl ?_
    refine hs_dup1 (p := 86) (by decide +kernel) ?_
    refine hf_get (T := et_TT) (t := 9) (ci := 7) (f := 16) (p := 89) (by decide +kernel) rfl hH k_se q16 ?_
    refine hs_iload (i := 2) (p := 90) (by decide +kernel) rfl ?_
    refine hs_iload (i := 1) (p := 91) (by decide +kernel) rfl ?_
    refine hs_isub (p := 92) (by decide +kernel) ?_
    refine hs_k (x := Int32.ofNat 1) (p := 93) (by decide +kernel) ?_
    refine hs_iadd (p := 94) (by decide +kernel) ?_
    refine hs_iadd (p := 95) (by decide +kernel) ?_
    have hHo := hH
    refine hf_put (T := et_TT) (t := 9) (ci := 7) (f := 16) (p := 98) (ty := .int) (by decide +kernel) rfl rfl rfl rfl rfl hH k_se hi_any (fun G95 hH x95 e95 => ?_)
    have q2 := (x95.2 se 2 lt_se (fun h => absurd h.2 (by decide))).trans q2
    have q4 := (x95.2 se 4 lt_se (fun h => absurd h.2 (by decide))).trans q4
    have q6 := (x95.2 se 6 lt_se (fun h => absurd h.2 (by decide))).trans q6
    have q10 := (x95.2 se 10 lt_se (fun h => absurd h.2 (by decide))).trans q10
    have q11 := (x95.2 se 11 lt_se (fun h => absurd h.2 (by decide))).trans q11
    have q12 := (x95.2 se 12 lt_se (fun h => absurd h.2 (by decide))).trans q12
    have q17 := (x95.2 se 17 lt_se (fun h => absurd h.2 (by decide))).trans q17
    have hA : (∀ i, i < as_ → et_pl (eg_at G95 (tS + 1 + W)) (P + ny + nn + i) = some (.int (s9 i))) := fun j hj => (x95.2 (tS + 1 + W) _ lt__tS___1___W_ (fun h => hi_ne k_r k_se (by decide) h.1)).trans (hA j hj)
    have hg : (∀ j, 0 ≤ j → j < as_ → et_pl (eg_at G95 sy) j = some (.int (g j))) := fun j _ hj => (x95.2 sy j lt_sy (fun h => hi_ne k_sy k_se (by decide) h.1)).trans (hg j hj)
    refine hs_k (x := Int32.ofNat 0) (p := 99) (by decide +kernel) ?_
    refine hs_istore (i := 4) (p := 101) (by decide +kernel) (Nat.le_of_ble_eq_true rfl) ?_
    refine (fd_clA (i := 0) (hi := (rhX a ny)) (lo := (rlX b nn)) hH hH k_se k_tS k_r k_sy hW hsz has q2 q4 q6 q10 q11 q12 q17 hA xf.rf (fun j hj => absurd hj (Nat.not_lt_zero j)) hg (Nat.zero_le as_)).mono (fun u9 hu9 => ?_)
    obtain ⟨G9, v9, rfl, hH9, x9, rfl, hD⟩ := hu9
    have hnl : ¬ (rhX a ny) < (rlX b nn) := fun h9 => by rw [Int32.lt_iff_toInt_lt] at h9; rw [Int32.le_iff_toInt_le] at c80; omega
    refine ⟨_, _, rfl, hH9, (x95.wk (fun b j _ h => .inl h)).tr x9 (fun b j _ h => .inr h), rfl, ?_, fun j hj => ?_⟩
    · rw [reN_n hnl]
      exact (x9.2 se 16 (Nat.lt_of_lt_of_le lt_se x95.1) (fun h => hi_ne k_se k_sy (by decide) h)).trans e95
    · rw [rsN_n hnl]
      exact hD j hj
  · refine hs_vret (by decide +kernel) ?_
    have hlt : (rhX a ny) < (rlX b nn) := by rw [Int32.le_iff_toInt_le] at c80; rw [Int32.lt_iff_toInt_lt]; omega
    refine ⟨_, _, rfl, hH, xf.rf, rfl, ?_, fun j hj => ?_⟩
    · rw [reN_z hlt, i32_zr]
      exact q16
    · rw [rsN_z hlt, i32_zr]
      exact hg j hj
end AHA
end
