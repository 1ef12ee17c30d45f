/-! PHASE D: SHOW: its words; the class's side -/
def stB (t : Int32) (m : Nat) : Bool := decide (¬ (t >>> (Int32.ofNat m &&& 31)) &&& Int32.ofNat 1 = 0)
def wiI (z e : Int32) : Int32 := if (-e) < (if z < e then z else e) then (if z < e then z else e) else (-e)
def abI (z : Int32) : Int32 := if 0 ≤ z then z else 0 - z
def sgI (z : Int32) : Int32 := if 0 < z then Int32.ofNat 1 else if z < 0 then (-1) else Int32.ofNat 0
theorem sg_p {z : Int32} (h : 0 < z) : sgI z = Int32.ofNat 1 := if_pos h
theorem sg_n {z : Int32} (h1 : z ≤ 0) (h : z < 0) : sgI z = (-1) := by
  unfold sgI
  rw [if_neg (Int32.not_lt.mpr h1), if_pos h]
theorem sg_0 {z : Int32} (h1 : z ≤ 0) (h : 0 ≤ z) : sgI z = Int32.ofNat 0 := by
  unfold sgI
  rw [if_neg (Int32.not_lt.mpr h1), if_neg (Int32.not_lt.mpr h)]
def upI (y : Bool) : Int32 := if y = true then Int32.ofNat 1 else (-1)
/-- what a TURNER's text is told -/
def tuE (fa va kn sh : Int32) (wr ye : Bool) : sp_E := (fun w => (if w = 10 then fa else if w = 11 then va else if w = 12 then kn else sh).toInt64, (fun w => if w = 8 then wr else ye, fun _ => false))
def kup (N : Nat → Int32) (m : Nat) (z : Int32) : Nat → Int32 := fun k => if k = m then z else N k
/-- the first m KNOBS that are not STUCK are new -/
def upU (t : Int32) (nw N : Nat → Int32) (m : Nat) : Nat → Int32 := fun k => if k < m ∧ stB t k = false then nw k else N k
theorem upU_0 {t : Int32} {nw N : Nat → Int32} {k : Nat} : N k = upU t nw N 0 k := (if_neg (fun h => Nat.not_lt_zero _ h.1)).symm
theorem upU_s {t : Int32} {nw N : Nat → Int32} {m : Nat} : upU t nw N m m = N m := if_neg (fun h => Nat.lt_irrefl _ h.1)
theorem upU_y {t : Int32} {nw N : Nat → Int32} {m : Nat} (h : stB t m = false) (k : Nat) : kup (upU t nw N m) m (nw m) k = upU t nw N (m + 1) k := by
  unfold kup upU
  by_cases e : k = m
  · subst e
    rw [if_pos rfl, if_pos ⟨Nat.lt_succ_self _, h⟩]
  · rw [if_neg e]
    by_cases q : k < m ∧ stB t k = false
    · rw [if_pos q, if_pos ⟨Nat.lt_succ_of_lt q.1, q.2⟩]
    · rw [if_neg q, if_neg (fun h2 => q ⟨by have := h2.1; omega, h2.2⟩)]
theorem upU_n {t : Int32} {nw N : Nat → Int32} {m : Nat} (h : stB t m = true) (k : Nat) : upU t nw N m k = upU t nw N (m + 1) k := by
  unfold upU
  by_cases q : k < m ∧ stB t k = false
  · rw [if_pos q, if_pos ⟨Nat.lt_succ_of_lt q.1, q.2⟩]
  · rw [if_neg q, if_neg (fun h2 => ?_)]
    by_cases e : k = m
    · rw [e, h] at h2
      exact absurd h2.2 (by decide)
    · exact q ⟨by have := h2.1; omega, h2.2⟩
theorem stB_f {t : Int32} {m : Nat} (h : ¬ stB t m = true) : stB t m = false := Bool.eq_false_iff.mpr h
theorem tuE_fe {F : Nat → Int32} {fa va kn sh : Int32} {wr ye : Bool} (h1 : F 1 = Int32.ofNat (if wr = true then 1 else 0)) (h2 : F 2 = Int32.ofNat (if ye = true then 1 else 0)) (h3 : F 3 = fa) (h4 : F 4 = va) (h5 : F 5 = kn) (h6 : F 6 = sh) {ls : List sp_L} (hl : ∀ l ∈ ls, lcl1 l) (b : Bool) : nuL b (feE F) ls = nuL b (tuE fa va kn sh wr ye) ls := by
  refine nuL_cl (fun w ha hb => ?_) (fun w ha hb => ?_) ls hl
  · rcases (show w = 10 ∨ w = 11 ∨ w = 12 ∨ w = 13 by omega) with rfl | rfl | rfl | rfl
    · show (F 3).toInt64 = fa.toInt64
      rw [h3]
    · show (F 4).toInt64 = va.toInt64
      rw [h4]
    · show (F 5).toInt64 = kn.toInt64
      rw [h5]
    · show (F 6).toInt64 = sh.toInt64
      rw [h6]
  · rcases (show w = 8 ∨ w = 9 by omega) with rfl | rfl
    · show decide (¬ F 1 = 0) = wr
      rw [h1]
      cases wr <;> decide
    · show decide (¬ F 2 = 0) = ye
      rw [h2]
      cases ye <;> decide
/-- a TURNER and what its LINES say -/
def tuC (K : et_K) (G : eg_G) (tn : Nat) (ls : List sp_L) : Prop := ∃ A B C lo hi : Nat, (K tn = some 11 ∧ K A = some 26 ∧ K B = some 16 ∧ K C = some 42) ∧ (et_pl (eg_at G tn) 1 = some (.ref A) ∧ et_pl (eg_at G tn) 2 = some (.ref B) ∧ et_pl (eg_at G tn) 3 = some (.ref C)) ∧ tlR K G tn A B C lo hi ls ∧ ls.length ≤ 10
theorem tuC.kt {K : et_K} {G : eg_G} {tn : Nat} {ls : List sp_L} (h : tuC K G tn ls) : K tn = some 11 := by
  obtain ⟨A, B, C, lo, hi, ⟨k1, -⟩, -⟩ := h
  exact k1
theorem tlR.mv {K K' : et_K} {G G' : eg_G} {tn A B C lo hi : Nat} {ls : List sp_L} (h : tlR K G tn A B C lo hi ls) (hx : et_ex K K') (hH : et_H et_TT K G) (hn : n6 K G G') (g0 : et_pl (eg_at G' tn) 0 = et_pl (eg_at G tn) 0) (gA : ∀ j, et_pl (eg_at G' A) j = et_pl (eg_at G A) j) (gB : ∀ j, et_pl (eg_at G' B) j = et_pl (eg_at G B) j) (gC : ∀ j, et_pl (eg_at G' C) j = et_pl (eg_at G C) j) : tlR K' G' tn A B C lo hi ls := by
  refine ⟨g0.trans h.1, fun i l hl => ?_⟩
  obtain ⟨h1, h2, h3, h4⟩ := h.2 i l hl
  refine ⟨(gA i).trans h1, (gB i).trans h2, h3, ?_⟩
  cases ho : l.2.2 with
  | none =>
    rw [ho] at h4
    exact (gC i).trans h4
  | some f =>
    rw [ho] at h4
    obtain ⟨c, e, k, hd⟩ := h4
    exact ⟨c, (gC i).trans e, hx _ _ k, hd.k6 hH hn k⟩
theorem tuC.xs {S : Nat → Nat → Prop} {K K' : et_K} {G G' : eg_G} {tn : Nat} {ls : List sp_L} (h : tuC K G tn ls) (hx : et_ex K K') (hH : et_H et_TT K G) (x : xf S G G') (hS : ∀ b j t, K b = some t → S b j → ¬ t = 6 ∧ ¬ t = 11 ∧ ¬ t = 16 ∧ ¬ t = 26 ∧ ¬ t = 42) : tuC K' G' tn ls := by
  obtain ⟨A, B, C, lo, hi, ⟨k1, k2, k3, k4⟩, ⟨p1, p2, p3⟩, hT, hl⟩ := h
  have lt : ∀ a t, K a = some t → a < G.2 := fun a t ha => (hH.2.2 a t ha).1
  have g1 : ∀ j, et_pl (eg_at G' tn) j = et_pl (eg_at G tn) j := fun j => x.2 _ _ (lt _ _ k1) (fun hs => (hS _ _ _ k1 hs).2.1 rfl)
  have g2 : ∀ j, et_pl (eg_at G' A) j = et_pl (eg_at G A) j := fun j => x.2 _ _ (lt _ _ k2) (fun hs => (hS _ _ _ k2 hs).2.2.2.1 rfl)
  have g3 : ∀ j, et_pl (eg_at G' B) j = et_pl (eg_at G B) j := fun j => x.2 _ _ (lt _ _ k3) (fun hs => (hS _ _ _ k3 hs).2.2.1 rfl)
  have g4 : ∀ j, et_pl (eg_at G' C) j = et_pl (eg_at G C) j := fun j => x.2 _ _ (lt _ _ k4) (fun hs => (hS _ _ _ k4 hs).2.2.2.2 rfl)
  exact ⟨A, B, C, lo, hi, ⟨hx _ _ k1, hx _ _ k2, hx _ _ k3, hx _ _ k4⟩, ⟨(g1 1).trans p1, (g1 2).trans p2, (g1 3).trans p3⟩, hT.mv hx hH (n6.xs hH x (fun b j hs e => (hS _ _ _ e hs).1 rfl)) (g1 0) g2 g3 g4, hl⟩
def tu_k (M : et_M) : Bool := no_t M 6 && (no_t M 11 && (no_t M 16 && (no_t M 26 && no_t M 42)))
theorem tuC.fr {K K' : et_K} {G G' : eg_G} {M : et_M} {tn : Nat} {ls : List sp_L} (h : tuC K G tn ls) (hx : et_ex K K') (hH : et_H et_TT K G) (hf : et_fr M K G G') (hk : tu_k M = true) : tuC K' G' tn ls := by
  unfold tu_k at hk
  rw [Bool.and_eq_true, Bool.and_eq_true, Bool.and_eq_true, Bool.and_eq_true] at hk
  obtain ⟨q1, q2, q3, q4, q5⟩ := hk
  obtain ⟨A, B, C, lo, hi, ⟨k1, k2, k3, k4⟩, ⟨p1, p2, p3⟩, hT, hl⟩ := h
  have g1 : ∀ j, et_pl (eg_at G' tn) j = et_pl (eg_at G tn) j := fun j => hf.2 _ _ k1 j (no_mm q2)
  exact ⟨A, B, C, lo, hi, ⟨hx _ _ k1, hx _ _ k2, hx _ _ k3, hx _ _ k4⟩, ⟨(g1 1).trans p1, (g1 2).trans p2, (g1 3).trans p3⟩, hT.mv hx hH (n6.fr hf q1) (g1 0) (fun j => hf.2 _ _ k2 j (no_mm q4)) (fun j => hf.2 _ _ k3 j (no_mm q3)) (fun j => hf.2 _ _ k4 j (no_mm q5)), hl⟩
theorem fo_eq {K : et_K} {G : eg_G} {fo i : Nat} {F : Nat → Int32} {x : Int32} (hF : foR K G fo F) (hi : i < 12) (h : et_pl (eg_at G fo) i = some (.int x)) : F i = x := by
  have h2 := hF.2.1 i hi
  rw [h] at h2
  exact (Value.int.inj (Option.some.inj h2)).symm
/-- a KNOB's new number -/
def tnw (C : Nat → Int32) (Kd : Nat → Nat) (x fa s : Int32) (wr ye : Bool) (ls : List sp_L) (N : Nat → Int32) : Nat → Int32 := fun k => wiI (N k + upI ye * vaI (C k) (Kd k) x * Int32.ofNat (nuL true (tuE fa (vaI (C k) (Kd k) x) (abI (N k)) s wr ye) ls)) (Int32.ofNat 200)
/-- a LINE's -/
def tnl (fa s : Int32) (wr ye : Bool) (ls : List sp_L) (l : Int32) : Int32 := wiI (l - upI ye * Int32.ofNat (nuL false (tuE fa (Int32.ofNat 0) (abI l) s wr ye) ls)) (Int32.ofNat 2000)
/-- whether it FALLS -/
def flB (s f : Int32) : Bool := decide (0 < f) && decide (s - s / f * f = 0)
def nwf (N : Nat → Int32) : Nat → Int32 := fun k => N k - sgI (N k)
section VFA
variable {S : Nat → Nat → Prop} {K : et_K} {G G' : eg_G} {d d2 e ca ki kn w m fo tn : Nat} {C N N' : Nat → Int32} {Kd : Nat → Nat} {l s t f l' s' t' f' x z z2 fa va kv : Int32} {wr ye tb : Bool} {ls : List sp_L}
theorem evC.at (h : evC G e ca ki kn w C Kd N l s t f) (g0 : ∀ j, j < 4 → et_pl (eg_at G' e) j = et_pl (eg_at G e) j) (gn : ∀ m, m < 6 → et_pl (eg_at G' kn) m = some (.int (N' m))) (gc : ∀ m, et_pl (eg_at G' ca) m = et_pl (eg_at G ca) m) (gi : ∀ m, et_pl (eg_at G' ki) m = et_pl (eg_at G ki) m) (h4 : et_pl (eg_at G' e) 4 = some (.int l')) (h5 : et_pl (eg_at G' e) 5 = some (.int s')) (h6 : et_pl (eg_at G' e) 6 = some (.int t')) (h7 : et_pl (eg_at G' e) 7 = some (.int f')) : evC G' e ca ki kn w C Kd N' l' s' t' f' := ⟨⟨(g0 0 (by decide)).trans h.1.1, (g0 1 (by decide)).trans h.1.2.1, (g0 2 (by decide)).trans h.1.2.2.1, (g0 3 (by decide)).trans h.1.2.2.2⟩, gn, fun m hm => ⟨(gc m).trans (h.2.2.1 m hm).1, (gi m).trans (h.2.2.1 m hm).2⟩, h4, h5, h6, h7⟩
theorem evC.co (h : evC G e ca ki kn w C Kd N l s t f) (hn : ∀ k, k < 6 → N k = N' k) : evC G e ca ki kn w C Kd N' l s t f := ⟨h.1, fun m hm => by rw [← hn m hm]; exact h.2.1 m hm, h.2.2⟩
theorem evC.xs (h : evC G e ca ki kn w C Kd N l s t f) (t9 : evK K e ca ki kn w Kd) (hH : et_H et_TT K G) (x : xf S G G') (hS : ∀ b j, S b j → ¬ K b = some 3 ∧ ¬ K b = some 15) : evC G' e ca ki kn w C Kd N l s t f := by
  have lt : ∀ a t, K a = some t → a < G.2 := fun a t ha => (hH.2.2 a t ha).1
  obtain ⟨⟨k1, k2, k3, k4⟩, -⟩ := t9
  have ge : ∀ j, et_pl (eg_at G' e) j = et_pl (eg_at G e) j := fun j => x.2 e j (lt _ _ k1) (fun hs => (hS _ _ hs).1 k1)
  exact h.at (fun j _ => ge j) (fun m hm => (x.2 kn m (lt _ _ k4) (fun hs => (hS _ _ hs).2 k4)).trans (h.2.1 m hm)) (fun m => x.2 ca m (lt _ _ k2) (fun hs => (hS _ _ hs).2 k2)) (fun m => x.2 ki m (lt _ _ k3) (fun hs => (hS _ _ hs).2 k3)) ((ge 4).trans h.2.2.2.1) ((ge 5).trans h.2.2.2.2.1) ((ge 6).trans h.2.2.2.2.2.1) ((ge 7).trans h.2.2.2.2.2.2)
/-- a KNOB is set -/
theorem evC.kp (h : evC G e ca ki kn w C Kd N l s t f) (t9 : evK K e ca ki kn w Kd) (hd9 : ¬ kn = ca ∧ ¬ kn = ki) (hH : et_H et_TT K G) (x : xf (fun b j => b = kn ∧ j = m) G G') (v : et_pl (eg_at G' kn) m = some (.int z)) : evC G' e ca ki kn w C Kd (kup N m z) l s t f := by
  have lt : ∀ a t, K a = some t → a < G.2 := fun a t ha => (hH.2.2 a t ha).1
  obtain ⟨⟨k1, k2, k3, k4⟩, -⟩ := t9
  have ge : ∀ j, et_pl (eg_at G' e) j = et_pl (eg_at G e) j := fun j => x.2 e j (lt _ _ k1) (fun hs => hi_ne k1 k4 (by decide) hs.1)
  refine h.at (fun j _ => ge j) (fun k hk => ?_) (fun m => x.2 ca m (lt _ _ k2) (fun hs => hd9.1 hs.1.symm)) (fun m => x.2 ki m (lt _ _ k3) (fun hs => hd9.2 hs.1.symm)) ((ge 4).trans h.2.2.2.1) ((ge 5).trans h.2.2.2.2.1) ((ge 6).trans h.2.2.2.2.2.1) ((ge 7).trans h.2.2.2.2.2.2)
  unfold kup
  by_cases ek : k = m
  · rw [if_pos ek, ek]
    exact v
  · rw [if_neg ek]
    exact (x.2 kn k (lt _ _ k4) (fun hs => ek hs.2)).trans (h.2.1 k hk)
theorem evC.fp {q : Nat} (h : evC G e ca ki kn w C Kd N l s t f) (t9 : evK K e ca ki kn w Kd) (hH : et_H et_TT K G) (x : xf (fun b j => b = e ∧ j = q) G G') (hq : 4 ≤ q) (h4 : et_pl (eg_at G' e) 4 = some (.int l')) (h5 : et_pl (eg_at G' e) 5 = some (.int s')) (h6 : et_pl (eg_at G' e) 6 = some (.int t')) (h7 : et_pl (eg_at G' e) 7 = some (.int f')) : evC G' e ca ki kn w C Kd N l' s' t' f' := by
  have lt : ∀ a t, K a = some t → a < G.2 := fun a t ha => (hH.2.2 a t ha).1
  obtain ⟨⟨k1, k2, k3, k4⟩, -⟩ := t9
  exact h.at (fun j hj => x.2 e j (lt _ _ k1) (fun hs => by have h9 := hs.2; omega)) (fun m hm => (x.2 kn m (lt _ _ k4) (fun hs => hi_ne k4 k1 (by decide) hs.1)).trans (h.2.1 m hm)) (fun m => x.2 ca m (lt _ _ k2) (fun hs => hi_ne k2 k1 (by decide) hs.1)) (fun m => x.2 ki m (lt _ _ k3) (fun hs => hi_ne k3 k1 (by decide) hs.1)) h4 h5 h6 h7
/-- the LINE is set -/
theorem evC.pl (h : evC G e ca ki kn w C Kd N l s t f) (t9 : evK K e ca ki kn w Kd) (hH : et_H et_TT K G) (x : xf (fun b j => b = e ∧ j = 4) G G') (v : et_pl (eg_at G' e) 4 = some (.int z)) : evC G' e ca ki kn w C Kd N z s t f := h.fp t9 hH x (by decide) v ((x.2 e 5 (hH.2.2 _ _ t9.1.1).1 (fun hs => absurd hs.2 (by decide))).trans h.2.2.2.2.1) ((x.2 e 6 (hH.2.2 _ _ t9.1.1).1 (fun hs => absurd hs.2 (by decide))).trans h.2.2.2.2.2.1) ((x.2 e 7 (hH.2.2 _ _ t9.1.1).1 (fun hs => absurd hs.2 (by decide))).trans h.2.2.2.2.2.2)
/-- one card more was shown -/
theorem evC.ps (h : evC G e ca ki kn w C Kd N l s t f) (t9 : evK K e ca ki kn w Kd) (hH : et_H et_TT K G) (x : xf (fun b j => b = e ∧ j = 5) G G') (v : et_pl (eg_at G' e) 5 = some (.int z)) : evC G' e ca ki kn w C Kd N l z t f := h.fp t9 hH x (by decide) ((x.2 e 4 (hH.2.2 _ _ t9.1.1).1 (fun hs => absurd hs.2 (by decide))).trans h.2.2.2.1) v ((x.2 e 6 (hH.2.2 _ _ t9.1.1).1 (fun hs => absurd hs.2 (by decide))).trans h.2.2.2.2.2.1) ((x.2 e 7 (hH.2.2 _ _ t9.1.1).1 (fun hs => absurd hs.2 (by decide))).trans h.2.2.2.2.2.2)
/-- numberBy -/
theorem fd_numT {b : Nat} (hH : et_H et_TT K G) (k_fo : K fo = some 4) (ht : tuC K G tn ls) (hcl : ∀ l ∈ ls, lcl1 l) (hb : b = if tb = true then 1 else 0) (f1 : et_pl (eg_at G fo) 1 = some (.int (Int32.ofNat (if wr = true then 1 else 0)))) (f2 : et_pl (eg_at G fo) 2 = some (.int (Int32.ofNat (if ye = true then 1 else 0)))) (f3 : et_pl (eg_at G fo) 3 = some (.int fa)) (f4 : et_pl (eg_at G fo) 4 = some (.int va)) (f5 : et_pl (eg_at G fo) 5 = some (.int kv)) (f6 : et_pl (eg_at G fo) 6 = some (.int s)) (hd : 19 ≤ d2) : et_go none d2 114 0 (eg_en (eg_mL 114) [.ref tn, .int (Int32.ofNat b), .ref fo]) [] G 0 0 (xp_Z G (some (.int (Int32.ofNat (nuL tb (tuE fa va kv s wr ye) ls))))) := by
  obtain ⟨F, hF⟩ := foR_of hH k_fo
  obtain ⟨A, B, C, lo, hi, ⟨k1, k2, k3, k4⟩, ⟨p1, p2, p3⟩, hT, hl⟩ := ht
  have h := fd_num hH hF k1 k2 k3 k4 p1 p2 p3 hT hl hb hd
  rw [tuE_fe (fo_eq hF (by decide) f1) (fo_eq hF (by decide) f2) (fo_eq hF (by decide) f3) (fo_eq hF (by decide) f4) (fo_eq hF (by decide) f5) (fo_eq hF (by decide) f6) hcl] at h
  exact h
theorem fd_with : et_go none d2 46 0 (eg_en (eg_mL 46) [.int z, .int z2]) [] G 0 0 (xp_Z G (some (.int (wiI z z2)))) := by
  rw [show eg_mL 46 = 2 from by decide +kernel]
  show et_go none d2 46 0 [some (.int z), some (.int z2)] [] G 0 0 _
  refine hs_iload (i := 1) (p := 1) (by decide +kernel) rfl ?_
  refine hs_st (ins := .ineg) (len := 1) (p := 2) (by decide +kernel) rfl rfl ?_
  refine hs_iload (i := 1) (p := 3) (by decide +kernel) rfl ?_
  refine hs_iload (i := 0) (p := 4) (by decide +kernel) rfl ?_
  refine hs_math (mi := 311) (lk := 2) (p := 7) (by decide +kernel) rfl rfl rfl rfl ?_
  refine hs_math (mi := 310) (lk := 2) (p := 10) (by decide +kernel) rfl rfl rfl rfl ?_
  refine hs_iret (by decide +kernel) ?_
  rfl
theorem fd_stk (hH : et_H et_TT K G) (k_e : K e = some 3) (h6 : et_pl (eg_at G e) 6 = some (.int t)) : et_go none d2 45 0 (eg_en (eg_mL 45) [.ref e, .int (Int32.ofNat m)]) [] G 0 0 (xp_Z G (some (.int (Int32.ofNat (if stB t m = true then 1 else 0))))) := by
  rw [show eg_mL 45 = 2 from by decide +kernel]
  show et_go none d2 45 0 [some (.ref e), some (.int (Int32.ofNat m))] [] G 0 0 _
  refine hs_aload (i := 0) (p := 1) (by decide +kernel) rfl ?_
  refine hf_get (T := et_TT) (t := 3) (ci := 1) (f := 6) (p := 4) (by decide +kernel) rfl hH k_e h6 ?_
  refine hs_iload (i := 1) (p := 5) (by decide +kernel) rfl ?_
  refine hs_st (ins := .ishr) (len := 1) (p := 6) (by decide +kernel) rfl rfl ?_
  refine hs_k (x := Int32.ofNat 1) (p := 7) (by decide +kernel) ?_
  refine hs_st (ins := .iand) (len := 1) (p := 8) (by decide +kernel) rfl rfl ?_
  refine hs_br1 (c := .eq) (t := 15) (f := 11) (by decide +kernel) (fun (c8 : ((t >>> ((Int32.ofNat m) &&& 31)) &&& (Int32.ofNat 1)) = 0) => ?_) (fun (c8 : ¬ (((t >>> ((Int32.ofNat m) &&& 31)) &&& (Int32.ofNat 1)) = 0)) => ?_)
  · refine hs_k (x := Int32.ofNat 0) (p := 16) (by decide +kernel) ?_
    refine hs_zret (by decide +kernel) (.inl rfl) ?_
    rw [if_neg (show ¬ stB t m = true from fun h => of_decide_eq_true h c8)]
    rfl
  · refine hs_k (x := Int32.ofNat 1) (p := 12) (by decide +kernel) ?_
    refine hs_goto (p := 16) (by decide +kernel) ?_
    refine hs_zret (by decide +kernel) (.inr rfl) ?_
    rw [if_pos (show stB t m = true from decide_eq_true c8)]
    rfl
theorem fd_fallL {Z : eg_O → Prop} (hH : et_H et_TT K G) (t9 : evK K e ca ki kn w Kd) (hd9 : ¬ kn = ca ∧ ¬ kn = ki) (hv : evC G e ca ki kn w C Kd (upU t (nwf N) N m) l s t f) (hm : m ≤ w) (h : ∀ G', et_H et_TT K G' → xf (fun b j => (b = kn ∧ (0 ≤ j ∧ j ≤ 5))) G G' → evC G' e ca ki kn w C Kd (upU t (nwf N) N w) l s t f → Z (.inl none, G', 0, 0)) : et_go none (d + 1) 47 2 [some (.ref e), some (.int (Int32.ofNat m))] [] G 0 0 Z := by
  induction hz : w - m using Nat.strongRecOn generalizing m G with
  | _ q ih =>
    have k_e := t9.1.1
    have k_ca := t9.1.2.1
    have k_ki := t9.1.2.2.1
    have k_kn := t9.1.2.2.2
    have hw6 := t9.2.1
    have lt_e := (hH.2.2 _ _ k_e).1
    have lt_ca := (hH.2.2 _ _ k_ca).1
    have lt_ki := (hH.2.2 _ _ k_ki).1
    have lt_kn := (hH.2.2 _ _ k_kn).1
    have hX : xf (fun b j => (b = kn ∧ (0 ≤ j ∧ j ≤ 5))) G G := xf.rf
    refine hs_iload (i := 1) (p := 3) (by decide +kernel) rfl ?_
    refine hs_aload (i := 0) (p := 4) (by decide +kernel) rfl ?_
    refine hf_get (T := et_TT) (t := 3) (ci := 1) (f := 0) (p := 7) (by decide +kernel) rfl hH k_e hv.1.1 ?_
    refine hs_br2n (c := .ge) (t := 60) (f := 10) (by decide +kernel) (by omega) (by omega) (fun (c7 : w ≤ m) => ?_) (fun (c7 : ¬ (w ≤ m)) => ?_)
    · refine hs_vret (by decide +kernel) ?_
      obtain rfl : w = m := by omega
      exact h _ hH hX hv
    · refine hs_aload (i := 0) (p := 11) (by decide +kernel) rfl ?_
      refine hs_iload (i := 1) (p := 12) (by decide +kernel) rfl ?_
      refine ht_callv (T := et_TT) (t := 3) (mi := 45) (na := 1) (ci := 1) (lk := 2) (lm := 2) (L0 := eg_en (eg_mL 45) [.ref e, .int (Int32.ofNat m)]) (by decide +kernel) rfl hH k_e rfl rfl rfl rfl rfl (by rw [show eg_mL 45 = 2 from by decide +kernel]; first | done | rfl) ?_
      refine (fd_stk hH k_e hv.2.2.2.2.2.1).mono (fun u hu => xp_cb hu ?_)
      by_cases qs : stB t m = true
      · rw [if_pos qs]
        show et_go none _ 47 15 _ [.int (Int32.ofNat 1)] _ _ _ _
        refine hs_if1 (c := .ne) (t := 54) (f := 18) (by decide +kernel) (show ¬ Int32.ofNat 1 = 0 by decide) ?_
        refine hs_iinc1 (i := 1) (p := 57) (by decide +kernel) rfl (Nat.le_of_ble_eq_true rfl) ?_
        refine hs_goto (p := 2) (by decide +kernel) ?_
        show et_go none (d + 1) 47 2 [some (.ref e), some (.int (Int32.ofNat (m + 1)))] [] _ _ _ _
        have hv := hv.co (N' := upU t (nwf N) N (m + 1)) (fun k _ => upU_n qs k)
        exact ih (w - (m + 1)) (by omega) hH hv (by omega) (fun G9 h1 h2 h3 => h G9 h1 (hX.tr h2 (fun _ _ _ hs => hs)) h3) rfl
      · rw [if_neg qs]
        show et_go none _ 47 15 _ [.int (Int32.ofNat 0)] _ _ _ _
        refine hs_if0 (c := .ne) (t := 54) (f := 18) (by decide +kernel) (show ¬ (¬ Int32.ofNat 0 = 0) by decide) ?_
        refine hs_aload (i := 0) (p := 19) (by decide +kernel) rfl ?_
        refine hf_get (T := et_TT) (t := 3) (ci := 1) (f := 3) (p := 22) (by decide +kernel) rfl hH k_e hv.1.2.2.2 ?_
        refine hs_iload (i := 1) (p := 23) (by decide +kernel) rfl ?_
        refine hs_dup2 (p := 24) (by decide +kernel) ?_
        refine hf_ald (ins := .iaload) (T := et_TT) (t := 15) (kd := 0) (N := 6) (p := 25) (by decide +kernel) (fun _ _ _ _ _ _ _ _ _ _ => rfl) rfl rfl rfl hH k_kn (by decide) ((hv.2.1 _ (by omega)).trans (by rw [upU_s])) ?_
        refine hs_aload (i := 0) (p := 26) (by decide +kernel) rfl ?_
        refine hf_get (T := et_TT) (t := 3) (ci := 1) (f := 3) (p := 29) (by decide +kernel) rfl hH k_e hv.1.2.2.2 ?_
        refine hs_iload (i := 1) (p := 30) (by decide +kernel) rfl ?_
        refine hf_ald (ins := .iaload) (T := et_TT) (t := 15) (kd := 0) (N := 6) (p := 31) (by decide +kernel) (fun _ _ _ _ _ _ _ _ _ _ => rfl) rfl rfl rfl hH k_kn (by decide) ((hv.2.1 _ (by omega)).trans (by rw [upU_s])) ?_
        refine hs_br1 (c := .le) (t := 38) (f := 34) (by decide +kernel) (fun (c31 : (N m) ≤ 0) => ?_) (fun (c31 : ¬ ((N m) ≤ 0)) => ?_)
        · refine hs_aload (i := 0) (p := 39) (by decide +kernel) rfl ?_
          refine hf_get (T := et_TT) (t := 3) (ci := 1) (f := 3) (p := 42) (by decide +kernel) rfl hH k_e hv.1.2.2.2 ?_
          refine hs_iload (i := 1) (p := 43) (by decide +kernel) rfl ?_
          refine hf_ald (ins := .iaload) (T := et_TT) (t := 15) (kd := 0) (N := 6) (p := 44) (by decide +kernel) (fun _ _ _ _ _ _ _ _ _ _ => rfl) rfl rfl rfl hH k_kn (by decide) ((hv.2.1 _ (by omega)).trans (by rw [upU_s])) ?_
          refine hs_br1 (c := .ge) (t := 51) (f := 47) (by decide +kernel) (fun (c44 : 0 ≤ (N m)) => ?_) (fun (c44 : ¬ (0 ≤ (N m))) => ?_)
          · refine hs_k (x := Int32.ofNat 0) (p := 52) (by decide +kernel) ?_
            refine hs_isub (p := 53) (by decide +kernel) ?_
            have hHo := hH
            refine hf_ist (T := et_TT) (t := 15) (N := 6) (p := 54) (by decide +kernel) rfl rfl (by decide) hH k_kn (by omega) (by decide) (fun s hs => absurd hs List.not_mem_nil) (fun G53 hH x53 e53 => ?_)
            have hv := hv.kp t9 hd9 hHo x53 e53
            have lt_e := Nat.lt_of_lt_of_le lt_e x53.1
            have lt_ca := Nat.lt_of_lt_of_le lt_ca x53.1
            have lt_ki := Nat.lt_of_lt_of_le lt_ki x53.1
            have lt_kn := Nat.lt_of_lt_of_le lt_kn x53.1
            have hX := hX.tr x53 (fun b j hb h => by first | omega | (dsimp only at h ⊢; omega) | (dsimp only at h; omega) | (dsimp only; omega))
            refine hs_iinc1 (i := 1) (p := 57) (by decide +kernel) rfl (Nat.le_of_ble_eq_true rfl) ?_
            refine hs_goto (p := 2) (by decide +kernel) ?_
            show et_go none (d + 1) 47 2 [some (.ref e), some (.int (Int32.ofNat (m + 1)))] [] _ _ _ _
            have hv := hv.co (N' := upU t (nwf N) N (m + 1)) (fun k _ => by rw [show N m - _ = nwf N m from congrArg (fun q => N m - q) (sg_0 c31 c44).symm]; exact upU_y (stB_f qs) k)
            exact ih (w - (m + 1)) (by omega) hH hv (by omega) (fun G9 h1 h2 h3 => h G9 h1 (hX.tr h2 (fun _ _ _ hs => hs)) h3) rfl
          · refine hs_k (x := (-1)) (p := 48) (by decide +kernel) ?_
            refine hs_goto (p := 52) (by decide +kernel) ?_
            refine hs_isub (p := 53) (by decide +kernel) ?_
            have hHo := hH
            refine hf_ist (T := et_TT) (t := 15) (N := 6) (p := 54) (by decide +kernel) rfl rfl (by decide) hH k_kn (by omega) (by decide) (fun s hs => absurd hs List.not_mem_nil) (fun G53 hH x53 e53 => ?_)
            have hv := hv.kp t9 hd9 hHo x53 e53
            have lt_e := Nat.lt_of_lt_of_le lt_e x53.1
            have lt_ca := Nat.lt_of_lt_of_le lt_ca x53.1
            have lt_ki := Nat.lt_of_lt_of_le lt_ki x53.1
            have lt_kn := Nat.lt_of_lt_of_le lt_kn x53.1
            have hX := hX.tr x53 (fun b j hb h => by first | omega | (dsimp only at h ⊢; omega) | (dsimp only at h; omega) | (dsimp only; omega))
            refine hs_iinc1 (i := 1) (p := 57) (by decide +kernel) rfl (Nat.le_of_ble_eq_true rfl) ?_
            refine hs_goto (p := 2) (by decide +kernel) ?_
            show et_go none (d + 1) 47 2 [some (.ref e), some (.int (Int32.ofNat (m + 1)))] [] _ _ _ _
            have hv := hv.co (N' := upU t (nwf N) N (m + 1)) (fun k _ => by rw [show N m - _ = nwf N m from congrArg (fun q => N m - q) (sg_n c31 (Int32.not_le.mp c44)).symm]; exact upU_y (stB_f qs) k)
            exact ih (w - (m + 1)) (by omega) hH hv (by omega) (fun G9 h1 h2 h3 => h G9 h1 (hX.tr h2 (fun _ _ _ hs => hs)) h3) rfl
        · refine hs_k (x := Int32.ofNat 1) (p := 35) (by decide +kernel) ?_
          refine hs_goto (p := 52) (by decide +kernel) ?_
          refine hs_isub (p := 53) (by decide +kernel) ?_
          have hHo := hH
          refine hf_ist (T := et_TT) (t := 15) (N := 6) (p := 54) (by decide +kernel) rfl rfl (by decide) hH k_kn (by omega) (by decide) (fun s hs => absurd hs List.not_mem_nil) (fun G53 hH x53 e53 => ?_)
          have hv := hv.kp t9 hd9 hHo x53 e53
          have lt_e := Nat.lt_of_lt_of_le lt_e x53.1
          have lt_ca := Nat.lt_of_lt_of_le lt_ca x53.1
          have lt_ki := Nat.lt_of_lt_of_le lt_ki x53.1
          have lt_kn := Nat.lt_of_lt_of_le lt_kn x53.1
          have hX := hX.tr x53 (fun b j hb h => by first | omega | (dsimp only at h ⊢; omega) | (dsimp only at h; omega) | (dsimp only; omega))
          refine hs_iinc1 (i := 1) (p := 57) (by decide +kernel) rfl (Nat.le_of_ble_eq_true rfl) ?_
          refine hs_goto (p := 2) (by decide +kernel) ?_
          show et_go none (d + 1) 47 2 [some (.ref e), some (.int (Int32.ofNat (m + 1)))] [] _ _ _ _
          have hv := hv.co (N' := upU t (nwf N) N (m + 1)) (fun k _ => by rw [show N m - _ = nwf N m from congrArg (fun q => N m - q) (sg_p (Int32.not_le.mp c31)).symm]; exact upU_y (stB_f qs) k)
          exact ih (w - (m + 1)) (by omega) hH hv (by omega) (fun G9 h1 h2 h3 => h G9 h1 (hX.tr h2 (fun _ _ _ hs => hs)) h3) rfl
theorem fd_fall {Z : eg_O → Prop} (hH : et_H et_TT K G) (t9 : evK K e ca ki kn w Kd) (hd9 : ¬ kn = ca ∧ ¬ kn = ki) (hv : evC G e ca ki kn w C Kd N l s t f) (hd : 1 ≤ d2) (h : ∀ G', et_H et_TT K G' → xf (fun b j => (b = kn ∧ (0 ≤ j ∧ j ≤ 5))) G G' → evC G' e ca ki kn w C Kd (upU t (nwf N) N w) l s t f → Z (.inl none, G', 0, 0)) : et_go none d2 47 0 (eg_en (eg_mL 47) [.ref e]) [] G 0 0 Z := by
  obtain ⟨d, rfl⟩ : ∃ d, d2 = d + 1 := ⟨d2 - 1, by omega⟩
  rw [show eg_mL 47 = 2 from by decide +kernel]
  show et_go none (d + 1) 47 0 [some (.ref e), none] [] G 0 0 _
  refine hs_k (x := Int32.ofNat 0) (p := 1) (by decide +kernel) ?_
  refine hs_istore (i := 1) (p := 2) (by decide +kernel) (Nat.le_of_ble_eq_true rfl) ?_
  exact fd_fallL hH t9 hd9 (hv.co (fun k _ => upU_0)) (Nat.zero_le _) h
theorem fd_sumK (hH : et_H et_TT K G) (t9 : evK K e ca ki kn w Kd) (hv : evC G e ca ki kn w C Kd N l s t f) (hd : 3 ≤ d2) : et_go none d2 43 0 (eg_en (eg_mL 43) [.ref e, .int x]) [] G 0 0 (xp_Z G (some (.int (suN C Kd N x w)))) := by
  obtain ⟨d, rfl⟩ : ∃ d, d2 = d + 3 := ⟨d2 - 3, by omega⟩
  have k_e := t9.1.1
  have k_kn := t9.1.2.2.2
  rw [show eg_mL 43 = 2 from by decide +kernel]
  show et_go none (d + 3) 43 0 [some (.ref e), some (.int x)] [] G 0 0 _
  refine hs_aload (i := 0) (p := 1) (by decide +kernel) rfl ?_
  refine hs_aload (i := 0) (p := 2) (by decide +kernel) rfl ?_
  refine hf_get (T := et_TT) (t := 3) (ci := 1) (f := 3) (p := 5) (by decide +kernel) rfl hH k_e hv.1.2.2.2 ?_
  refine hs_iload (i := 1) (p := 6) (by decide +kernel) rfl ?_
  refine ht_callv (T := et_TT) (t := 3) (mi := 33) (na := 2) (ci := 1) (lk := 2) (lm := 5) (L0 := eg_en (eg_mL 33) [.ref e, .ref kn, .int x]) (by decide +kernel) rfl hH k_e rfl rfl rfl rfl rfl (by rw [show eg_mL 33 = 5 from by decide +kernel]; first | done | rfl) ?_
  refine (fd_sum hH t9 hv (by omega)).mono (fun u hu => xp_cb hu ?_)
  show et_go none _ 43 9 _ [.int (suN C Kd N x w)] _ _ _ _
  refine hs_iret (by decide +kernel) ?_
  rfl
theorem fd_fl {Z : eg_O → Prop} {x9 : Option Value} {y : Nat} (hH : et_H et_TT K G) (t9 : evK K e ca ki kn w Kd) (hd9 : ¬ kn = ca ∧ ¬ kn = ki) (hv : evC G e ca ki kn w C Kd N l s t f)
    (h : ∀ G', et_H et_TT K G' → xf (fun b j => (b = kn ∧ (0 ≤ j ∧ j ≤ 5))) G G' → evC G' e ca ki kn w C Kd (if flB s f = true then upU t (nwf N) N w else N) l s t f → Z (.inl (some (.int (Int32.ofNat (if wr = true then 1 else 0)))), G', 0, 0)) : et_go none (d + 20) 44 234 [some (.ref e), some (.int x), some (.int (Int32.ofNat y)), some (.ref tn), some (.ref fo), some (.int z), some (.int (Int32.ofNat (if wr = true then 1 else 0))), some (.int (upI ye)), some (.int (Int32.ofNat w)), x9] [] G 0 0 Z := by
  have k_e := t9.1.1
  have k_ca := t9.1.2.1
  have k_ki := t9.1.2.2.1
  have k_kn := t9.1.2.2.2
  have hw6 := t9.2.1
  have lt_e := (hH.2.2 _ _ k_e).1
  have lt_ca := (hH.2.2 _ _ k_ca).1
  have lt_ki := (hH.2.2 _ _ k_ki).1
  have lt_kn := (hH.2.2 _ _ k_kn).1
  refine hs_aload (i := 0) (p := 235) (by decide +kernel) rfl ?_
  refine hf_get (T := et_TT) (t := 3) (ci := 1) (f := 7) (p := 238) (by decide +kernel) rfl hH k_e hv.2.2.2.2.2.2 ?_
  refine hs_br1 (c := .le) (t := 257) (f := 241) (by decide +kernel) (fun (c238 : f ≤ 0) => ?_) (fun (c238 : ¬ (f ≤ 0)) => ?_)
  · refine hs_iload (i := 6) (p := 259) (by decide +kernel) rfl ?_
    refine hs_zret (by decide +kernel) (by split; exact .inr rfl; exact .inl rfl) ?_
    have hb : ¬ flB s f = true := fun hb => by
      unfold flB at hb
      rw [Bool.and_eq_true] at hb
      exact absurd (of_decide_eq_true hb.1) (Int32.not_lt.mpr c238)
    exact h _ hH xf.rf (by rw [if_neg hb]; exact hv)
  · refine hs_aload (i := 0) (p := 242) (by decide +kernel) rfl ?_
    refine hf_get (T := et_TT) (t := 3) (ci := 1) (f := 5) (p := 245) (by decide +kernel) rfl hH k_e hv.2.2.2.2.1 ?_
    refine hs_aload (i := 0) (p := 246) (by decide +kernel) rfl ?_
    refine hf_get (T := et_TT) (t := 3) (ci := 1) (f := 7) (p := 249) (by decide +kernel) rfl hH k_e hv.2.2.2.2.2.2 ?_
    refine hs_irem (p := 250) (by decide +kernel) (by intro h9; rw [h9] at c238; exact absurd c238 (by decide)) ?_
    refine hs_br1 (c := .ne) (t := 257) (f := 253) (by decide +kernel) (fun (c250 : ¬ (s - s / f * f) = 0) => ?_) (fun (c250 : ¬ (¬ (s - s / f * f) = 0)) => ?_)
    · refine hs_iload (i := 6) (p := 259) (by decide +kernel) rfl ?_
      refine hs_zret (by decide +kernel) (by split; exact .inr rfl; exact .inl rfl) ?_
      have hb : ¬ flB s f = true := fun hb => by
        unfold flB at hb
        rw [Bool.and_eq_true] at hb
        exact c250 (of_decide_eq_true hb.2)
      exact h _ hH xf.rf (by rw [if_neg hb]; exact hv)
    · refine hs_aload (i := 0) (p := 254) (by decide +kernel) rfl ?_
      refine ht_callv (T := et_TT) (t := 3) (mi := 47) (na := 0) (ci := 1) (lk := 10) (lm := 2) (L0 := eg_en (eg_mL 47) [.ref e]) (by decide +kernel) rfl hH k_e rfl rfl rfl rfl rfl (by rw [show eg_mL 47 = 2 from by decide +kernel]; first | done | rfl) ?_
      refine fd_fall hH t9 hd9 hv (by omega) (fun G254 hH x254 hv => ?_)
      refine hs_cb ?_
      show et_go none _ 44 257 _ [] _ _ _ _
      have hX := x254
      refine hs_iload (i := 6) (p := 259) (by decide +kernel) rfl ?_
      refine hs_zret (by decide +kernel) (by split; exact .inr rfl; exact .inl rfl) ?_
      have hb : flB s f = true := by
        unfold flB
        rw [Bool.and_eq_true]
        exact ⟨decide_eq_true (Int32.not_le.mp c238), decide_eq_true (Decidable.of_not_not c250)⟩
      exact h _ hH hX (by rw [if_pos hb]; exact hv)
theorem fd_turnL {Z : eg_O → Prop} {x9 : Option Value} {y : Nat} (hH : et_H et_TT K G) (t9 : evK K e ca ki kn w Kd) (hd9 : ¬ kn = ca ∧ ¬ kn = ki) (hv : evC G e ca ki kn w C Kd (upU t (tnw C Kd x fa s wr ye ls N) N m) l s t f) (ht : tuC K G tn ls) (hcl : ∀ l ∈ ls, lcl1 l) (k_fo : K fo = some 4) (f1 : et_pl (eg_at G fo) 1 = some (.int (Int32.ofNat (if wr = true then 1 else 0)))) (f2 : et_pl (eg_at G fo) 2 = some (.int (Int32.ofNat (if ye = true then 1 else 0)))) (f3 : et_pl (eg_at G fo) 3 = some (.int fa)) (f6 : et_pl (eg_at G fo) 6 = some (.int s)) (hm : m ≤ w) (h : ∀ G', et_H et_TT K G' → xf (fun b j => (b = e ∧ (4 ≤ j ∧ j ≤ 5)) ∨ (b = kn ∧ (0 ≤ j ∧ j ≤ 5)) ∨ (b = fo ∧ (1 ≤ j ∧ j ≤ 6))) G G' → evC G' e ca ki kn w C Kd (if flB s f = true then upU t (nwf (upU t (tnw C Kd x fa s wr ye ls N) N w)) (upU t (tnw C Kd x fa s wr ye ls N) N w) w else upU t (tnw C Kd x fa s wr ye ls N) N w) (if stB t 6 = true then l else tnl fa s wr ye ls l) s t f → Z (.inl (some (.int (Int32.ofNat (if wr = true then 1 else 0)))), G', 0, 0)) : et_go none (d + 20) 44 93 [some (.ref e), some (.int x), some (.int (Int32.ofNat y)), some (.ref tn), some (.ref fo), some (.int z), some (.int (Int32.ofNat (if wr = true then 1 else 0))), some (.int (upI ye)), some (.int (Int32.ofNat m)), x9] [] G 0 0 Z := by
  induction hz : w - m using Nat.strongRecOn generalizing m G x9 with
  | _ q ih =>
    have k_e := t9.1.1
    have k_ca := t9.1.2.1
    have k_ki := t9.1.2.2.1
    have k_kn := t9.1.2.2.2
    have hw6 := t9.2.1
    have k_tn := ht.kt
    have lt_e := (hH.2.2 _ _ k_e).1
    have lt_ca := (hH.2.2 _ _ k_ca).1
    have lt_ki := (hH.2.2 _ _ k_ki).1
    have lt_kn := (hH.2.2 _ _ k_kn).1
    have lt_fo := (hH.2.2 _ _ k_fo).1
    have lt_tn := (hH.2.2 _ _ k_tn).1
    have hX : xf (fun b j => (b = e ∧ (4 ≤ j ∧ j ≤ 5)) ∨ (b = kn ∧ (0 ≤ j ∧ j ≤ 5)) ∨ (b = fo ∧ (1 ≤ j ∧ j ≤ 6))) G G := xf.rf
    refine hs_iload (i := 8) (p := 95) (by decide +kernel) rfl ?_
    refine hs_aload (i := 0) (p := 96) (by decide +kernel) rfl ?_
    refine hf_get (T := et_TT) (t := 3) (ci := 1) (f := 0) (p := 99) (by decide +kernel) rfl hH k_e hv.1.1 ?_
    refine hs_br2n (c := .ge) (t := 182) (f := 102) (by decide +kernel) (by omega) (by omega) (fun (c99 : w ≤ m) => ?_) (fun (c99 : ¬ (w ≤ m)) => ?_)
    · obtain rfl : w = m := by omega
      refine hs_aload (i := 0) (p := 183) (by decide +kernel) rfl ?_
      refine hs_k (x := Int32.ofNat 6) (p := 185) (by decide +kernel) ?_
      refine ht_callv (T := et_TT) (t := 3) (mi := 45) (na := 1) (ci := 1) (lk := 10) (lm := 2) (L0 := eg_en (eg_mL 45) [.ref e, .int (Int32.ofNat 6)]) (by decide +kernel) rfl hH k_e rfl rfl rfl rfl rfl (by rw [show eg_mL 45 = 2 from by decide +kernel]; first | done | rfl) ?_
      refine (fd_stk hH k_e hv.2.2.2.2.2.1).mono (fun u hu => xp_cb hu ?_)
      by_cases qs6 : stB t 6 = true
      · rw [if_pos qs6]
        show et_go none _ 44 188 _ [.int (Int32.ofNat 1)] _ _ _ _
        refine hs_if1 (c := .ne) (t := 234) (f := 191) (by decide +kernel) (show ¬ Int32.ofNat 1 = 0 by decide) ?_
        show et_go none (d + 20) 44 234 [some (.ref e), some (.int x), some (.int (Int32.ofNat y)), some (.ref tn), some (.ref fo), some (.int z), some (.int (Int32.ofNat (if wr = true then 1 else 0))), some (.int (upI ye)), some (.int (Int32.ofNat w)), x9] [] _ _ _ _
        exact fd_fl hH t9 hd9 hv (fun G9 h1 h2 h3 => h G9 h1 (hX.tr h2 (fun _ _ _ hs => .inr (.inl hs))) (by rw [if_pos qs6]; exact h3))
      · rw [if_neg qs6]
        show et_go none _ 44 188 _ [.int (Int32.ofNat 0)] _ _ _ _
        refine hs_if0 (c := .ne) (t := 234) (f := 191) (by decide +kernel) (show ¬ (¬ Int32.ofNat 0 = 0) by decide) ?_
        refine hs_aload (i := 4) (p := 193) (by decide +kernel) rfl ?_
        refine hs_k (x := Int32.ofNat 0) (p := 194) (by decide +kernel) ?_
        have hHo := hH
        refine hf_put (T := et_TT) (t := 4) (ci := 2) (f := 4) (p := 197) (ty := .int) (by decide +kernel) rfl rfl rfl rfl rfl hH k_fo hi_any (fun G194 hH x194 e194 => ?_)
        have hv := hv.xs t9 hHo x194 (fun b j h => by rw [h.1, k_fo]; exact ⟨by decide, by decide⟩)
        have ht := ht.xs et_ex.rf hHo x194 (fun b j t h h2 => by rw [h2.1, k_fo] at h; cases h; exact ⟨by decide, by decide, by decide, by decide, by decide⟩)
        have f1 := (x194.2 fo 1 lt_fo (fun h => absurd h.2 (by decide))).trans f1
        have f2 := (x194.2 fo 2 lt_fo (fun h => absurd h.2 (by decide))).trans f2
        have f3 := (x194.2 fo 3 lt_fo (fun h => absurd h.2 (by decide))).trans f3
        have f6 := (x194.2 fo 6 lt_fo (fun h => absurd h.2 (by decide))).trans f6
        have lt_e := Nat.lt_of_lt_of_le lt_e x194.1
        have lt_ca := Nat.lt_of_lt_of_le lt_ca x194.1
        have lt_ki := Nat.lt_of_lt_of_le lt_ki x194.1
        have lt_kn := Nat.lt_of_lt_of_le lt_kn x194.1
        have lt_fo := Nat.lt_of_lt_of_le lt_fo x194.1
        have lt_tn := Nat.lt_of_lt_of_le lt_tn x194.1
        have hX := hX.tr x194 (fun b j hb h => by first | omega | (dsimp only at h ⊢; omega) | (dsimp only at h; omega) | (dsimp only; omega))
        refine hs_aload (i := 4) (p := 199) (by decide +kernel) rfl ?_
        refine hs_aload (i := 0) (p := 200) (by decide +kernel) rfl ?_
        refine hf_get (T := et_TT) (t := 3) (ci := 1) (f := 4) (p := 203) (by decide +kernel) rfl hH k_e hv.2.2.2.1 ?_
        refine hs_math (mi := 309) (lk := 10) (p := 206) (by decide +kernel) rfl rfl rfl rfl ?_
        have hHo := hH
        refine hf_put (T := et_TT) (t := 4) (ci := 2) (f := 5) (p := 209) (ty := .int) (by decide +kernel) rfl rfl rfl rfl rfl hH k_fo hi_any (fun G206 hH x206 e206 => ?_)
        have hv := hv.xs t9 hHo x206 (fun b j h => by rw [h.1, k_fo]; exact ⟨by decide, by decide⟩)
        have ht := ht.xs et_ex.rf hHo x206 (fun b j t h h2 => by rw [h2.1, k_fo] at h; cases h; exact ⟨by decide, by decide, by decide, by decide, by decide⟩)
        have f1 := (x206.2 fo 1 lt_fo (fun h => absurd h.2 (by decide))).trans f1
        have f2 := (x206.2 fo 2 lt_fo (fun h => absurd h.2 (by decide))).trans f2
        have f3 := (x206.2 fo 3 lt_fo (fun h => absurd h.2 (by decide))).trans f3
        have f6 := (x206.2 fo 6 lt_fo (fun h => absurd h.2 (by decide))).trans f6
        have e194 := (x206.2 fo 4 lt_fo (fun h => absurd h.2 (by decide))).trans e194
        have lt_e := Nat.lt_of_lt_of_le lt_e x206.1
        have lt_ca := Nat.lt_of_lt_of_le lt_ca x206.1
        have lt_ki := Nat.lt_of_lt_of_le lt_ki x206.1
        have lt_kn := Nat.lt_of_lt_of_le lt_kn x206.1
        have lt_fo := Nat.lt_of_lt_of_le lt_fo x206.1
        have lt_tn := Nat.lt_of_lt_of_le lt_tn x206.1
        have hX := hX.tr x206 (fun b j hb h => by first | omega | (dsimp only at h ⊢; omega) | (dsimp only at h; omega) | (dsimp only; omega))
        refine hs_aload (i := 0) (p := 210) (by decide +kernel) rfl ?_
        refine hs_aload (i := 0) (p := 211) (by decide +kernel) rfl ?_
        refine hf_get (T := et_TT) (t := 3) (ci := 1) (f := 4) (p := 214) (by decide +kernel) rfl hH k_e hv.2.2.2.1 ?_
        refine hs_iload (i := 7) (p := 216) (by decide +kernel) rfl ?_
        refine hs_aload (i := 3) (p := 217) (by decide +kernel) rfl ?_
        refine hs_k (x := Int32.ofNat 0) (p := 218) (by decide +kernel) ?_
        refine hs_aload (i := 4) (p := 220) (by decide +kernel) rfl ?_
        refine ht_callv (T := et_TT) (t := 11) (mi := 114) (na := 2) (ci := 9) (lk := 10) (lm := 5) (L0 := eg_en (eg_mL 114) [.ref tn, .int (Int32.ofNat 0), .ref fo]) (by decide +kernel) rfl hH k_tn rfl rfl rfl rfl rfl (by rw [show eg_mL 114 = 5 from by decide +kernel]; first | done | rfl) ?_
        refine (fd_numT (tb := false) (wr := wr) (ye := ye) hH k_fo ht hcl rfl f1 f2 f3 e194 e206 f6 (by omega)).mono (fun u hu => xp_cb hu ?_)
        show et_go none _ 44 223 _ [.int (Int32.ofNat (nuL false (tuE fa (Int32.ofNat 0) (if 0 ≤ l then l else 0 - l) s wr ye) ls)), .int (upI ye), .int l, .ref e] _ _ _ _
        refine hs_imul (p := 224) (by decide +kernel) ?_
        refine hs_isub (p := 225) (by decide +kernel) ?_
        refine hs_k (x := Int32.ofNat 2000) (p := 228) (by decide +kernel) ?_
        refine hs_calls (mi := 46) (na := 2) (lk := 10) (lm := 2) (L0 := eg_en (eg_mL 46) [.int (l - ((upI ye) * Int32.ofNat (nuL false (tuE fa (Int32.ofNat 0) (if 0 ≤ l then l else 0 - l) s wr ye) ls))), .int (Int32.ofNat 2000)]) (by decide +kernel) rfl rfl rfl rfl rfl rfl (by rw [show eg_mL 46 = 2 from by decide +kernel]; first | done | rfl) ?_
        refine (fd_with).mono (fun u hu => xp_cb hu ?_)
        show et_go none _ 44 231 _ [.int (wiI (l - ((upI ye) * Int32.ofNat (nuL false (tuE fa (Int32.ofNat 0) (if 0 ≤ l then l else 0 - l) s wr ye) ls))) (Int32.ofNat 2000)), .ref e] _ _ _ _
        have hHo := hH
        refine hf_put (T := et_TT) (t := 3) (ci := 1) (f := 4) (p := 234) (ty := .int) (by decide +kernel) rfl rfl rfl rfl rfl hH k_e hi_any (fun G231 hH x231 e231 => ?_)
        have hv := hv.pl t9 hHo x231 e231
        have ht := ht.xs et_ex.rf hHo x231 (fun b j t h h2 => by rw [h2.1, k_e] at h; cases h; exact ⟨by decide, by decide, by decide, by decide, by decide⟩)
        have f1 := (x231.2 fo 1 lt_fo (fun h => (hi_ne k_fo k_e (by decide)) h.1)).trans f1
        have f2 := (x231.2 fo 2 lt_fo (fun h => (hi_ne k_fo k_e (by decide)) h.1)).trans f2
        have f3 := (x231.2 fo 3 lt_fo (fun h => (hi_ne k_fo k_e (by decide)) h.1)).trans f3
        have f6 := (x231.2 fo 6 lt_fo (fun h => (hi_ne k_fo k_e (by decide)) h.1)).trans f6
        have e194 := (x231.2 fo 4 lt_fo (fun h => (hi_ne k_fo k_e (by decide)) h.1)).trans e194
        have e206 := (x231.2 fo 5 lt_fo (fun h => (hi_ne k_fo k_e (by decide)) h.1)).trans e206
        have lt_e := Nat.lt_of_lt_of_le lt_e x231.1
        have lt_ca := Nat.lt_of_lt_of_le lt_ca x231.1
        have lt_ki := Nat.lt_of_lt_of_le lt_ki x231.1
        have lt_kn := Nat.lt_of_lt_of_le lt_kn x231.1
        have lt_fo := Nat.lt_of_lt_of_le lt_fo x231.1
        have lt_tn := Nat.lt_of_lt_of_le lt_tn x231.1
        have hX := hX.tr x231 (fun b j hb h => by first | omega | (dsimp only at h ⊢; omega) | (dsimp only at h; omega) | (dsimp only; omega))
        show et_go none (d + 20) 44 234 [some (.ref e), some (.int x), some (.int (Int32.ofNat y)), some (.ref tn), some (.ref fo), some (.int z), some (.int (Int32.ofNat (if wr = true then 1 else 0))), some (.int (upI ye)), some (.int (Int32.ofNat w)), x9] [] _ _ _ _
        exact fd_fl hH t9 hd9 hv (fun G9 h1 h2 h3 => h G9 h1 (hX.tr h2 (fun _ _ _ hs => .inr (.inl hs))) (by rw [if_neg qs6]; exact h3))
    · refine hs_aload (i := 0) (p := 103) (by decide +kernel) rfl ?_
      refine hs_iload (i := 8) (p := 105) (by decide +kernel) rfl ?_
      refine ht_callv (T := et_TT) (t := 3) (mi := 45) (na := 1) (ci := 1) (lk := 10) (lm := 2) (L0 := eg_en (eg_mL 45) [.ref e, .int (Int32.ofNat m)]) (by decide +kernel) rfl hH k_e rfl rfl rfl rfl rfl (by rw [show eg_mL 45 = 2 from by decide +kernel]; first | done | rfl) ?_
      refine (fd_stk hH k_e hv.2.2.2.2.2.1).mono (fun u hu => xp_cb hu ?_)
      by_cases qs : stB t m = true
      · rw [if_pos qs]
        show et_go none _ 44 108 _ [.int (Int32.ofNat 1)] _ _ _ _
        refine hs_if1 (c := .ne) (t := 176) (f := 111) (by decide +kernel) (show ¬ Int32.ofNat 1 = 0 by decide) ?_
        refine hs_iinc1 (i := 8) (p := 179) (by decide +kernel) rfl (Nat.le_of_ble_eq_true rfl) ?_
        refine hs_goto (p := 93) (by decide +kernel) ?_
        show et_go none (d + 20) 44 93 [some (.ref e), some (.int x), some (.int (Int32.ofNat y)), some (.ref tn), some (.ref fo), some (.int z), some (.int (Int32.ofNat (if wr = true then 1 else 0))), some (.int (upI ye)), some (.int (Int32.ofNat (m + 1))), x9] [] _ _ _ _
        have hv := hv.co (N' := upU t (tnw C Kd x fa s wr ye ls N) N (m + 1)) (fun k _ => upU_n qs k)
        exact ih (w - (m + 1)) (by omega) hH hv ht f1 f2 f3 f6 (by omega) (fun G9 h1 h2 h3 => h G9 h1 (hX.tr h2 (fun _ _ _ hs => hs)) h3) rfl
      · rw [if_neg qs]
        show et_go none _ 44 108 _ [.int (Int32.ofNat 0)] _ _ _ _
        refine hs_if0 (c := .ne) (t := 176) (f := 111) (by decide +kernel) (show ¬ (¬ Int32.ofNat 0 = 0) by decide) ?_
        refine hs_aload (i := 0) (p := 112) (by decide +kernel) rfl ?_
        refine hs_iload (i := 8) (p := 114) (by decide +kernel) rfl ?_
        refine hs_iload (i := 1) (p := 115) (by decide +kernel) rfl ?_
        refine ht_callv (T := et_TT) (t := 3) (mi := 34) (na := 2) (ci := 1) (lk := 10) (lm := 4) (L0 := eg_en (eg_mL 34) [.ref e, .int (Int32.ofNat m), .int x]) (by decide +kernel) rfl hH k_e rfl rfl rfl rfl rfl (by rw [show eg_mL 34 = 4 from by decide +kernel]; first | done | rfl) ?_
        refine (fd_val hH k_e k_ca k_ki hv.1.1 hv.1.2.1 hv.1.2.2.1 hw6 (by omega) (hv.2.2.1 _ (by omega)).1 (hv.2.2.1 _ (by omega)).2 (t9.2.2 _ (by omega)) (by omega)).mono (fun u hu => xp_cb hu ?_)
        show et_go none _ 44 118 _ [.int (vaI (C m) (Kd m) x)] _ _ _ _
        refine hs_istore (i := 9) (p := 120) (by decide +kernel) (Nat.le_of_ble_eq_true rfl) ?_
        refine hs_aload (i := 4) (p := 122) (by decide +kernel) rfl ?_
        refine hs_iload (i := 9) (p := 124) (by decide +kernel) rfl ?_
        have hHo := hH
        refine hf_put (T := et_TT) (t := 4) (ci := 2) (f := 4) (p := 127) (ty := .int) (by decide +kernel) rfl rfl rfl rfl rfl hH k_fo hi_any (fun G124 hH x124 e124 => ?_)
        have hv := hv.xs t9 hHo x124 (fun b j h => by rw [h.1, k_fo]; exact ⟨by decide, by decide⟩)
        have ht := ht.xs et_ex.rf hHo x124 (fun b j t h h2 => by rw [h2.1, k_fo] at h; cases h; exact ⟨by decide, by decide, by decide, by decide, by decide⟩)
        have f1 := (x124.2 fo 1 lt_fo (fun h => absurd h.2 (by decide))).trans f1
        have f2 := (x124.2 fo 2 lt_fo (fun h => absurd h.2 (by decide))).trans f2
        have f3 := (x124.2 fo 3 lt_fo (fun h => absurd h.2 (by decide))).trans f3
        have f6 := (x124.2 fo 6 lt_fo (fun h => absurd h.2 (by decide))).trans f6
        have lt_e := Nat.lt_of_lt_of_le lt_e x124.1
        have lt_ca := Nat.lt_of_lt_of_le lt_ca x124.1
        have lt_ki := Nat.lt_of_lt_of_le lt_ki x124.1
        have lt_kn := Nat.lt_of_lt_of_le lt_kn x124.1
        have lt_fo := Nat.lt_of_lt_of_le lt_fo x124.1
        have lt_tn := Nat.lt_of_lt_of_le lt_tn x124.1
        have hX := hX.tr x124 (fun b j hb h => by first | omega | (dsimp only at h ⊢; omega) | (dsimp only at h; omega) | (dsimp only; omega))
        refine hs_aload (i := 4) (p := 129) (by decide +kernel) rfl ?_
        refine hs_aload (i := 0) (p := 130) (by decide +kernel) rfl ?_
        refine hf_get (T := et_TT) (t := 3) (ci := 1) (f := 3) (p := 133) (by decide +kernel) rfl hH k_e hv.1.2.2.2 ?_
        refine hs_iload (i := 8) (p := 135) (by decide +kernel) rfl ?_
        refine hf_ald (ins := .iaload) (T := et_TT) (t := 15) (kd := 0) (N := 6) (p := 136) (by decide +kernel) (fun _ _ _ _ _ _ _ _ _ _ => rfl) rfl rfl rfl hH k_kn (by decide) ((hv.2.1 _ (by omega)).trans (by rw [upU_s])) ?_
        refine hs_math (mi := 309) (lk := 10) (p := 139) (by decide +kernel) rfl rfl rfl rfl ?_
        have hHo := hH
        refine hf_put (T := et_TT) (t := 4) (ci := 2) (f := 5) (p := 142) (ty := .int) (by decide +kernel) rfl rfl rfl rfl rfl hH k_fo hi_any (fun G139 hH x139 e139 => ?_)
        have hv := hv.xs t9 hHo x139 (fun b j h => by rw [h.1, k_fo]; exact ⟨by decide, by decide⟩)
        have ht := ht.xs et_ex.rf hHo x139 (fun b j t h h2 => by rw [h2.1, k_fo] at h; cases h; exact ⟨by decide, by decide, by decide, by decide, by decide⟩)
        have f1 := (x139.2 fo 1 lt_fo (fun h => absurd h.2 (by decide))).trans f1
        have f2 := (x139.2 fo 2 lt_fo (fun h => absurd h.2 (by decide))).trans f2
        have f3 := (x139.2 fo 3 lt_fo (fun h => absurd h.2 (by decide))).trans f3
        have f6 := (x139.2 fo 6 lt_fo (fun h => absurd h.2 (by decide))).trans f6
        have e124 := (x139.2 fo 4 lt_fo (fun h => absurd h.2 (by decide))).trans e124
        have lt_e := Nat.lt_of_lt_of_le lt_e x139.1
        have lt_ca := Nat.lt_of_lt_of_le lt_ca x139.1
        have lt_ki := Nat.lt_of_lt_of_le lt_ki x139.1
        have lt_kn := Nat.lt_of_lt_of_le lt_kn x139.1
        have lt_fo := Nat.lt_of_lt_of_le lt_fo x139.1
        have lt_tn := Nat.lt_of_lt_of_le lt_tn x139.1
        have hX := hX.tr x139 (fun b j hb h => by first | omega | (dsimp only at h ⊢; omega) | (dsimp only at h; omega) | (dsimp only; omega))
        refine hs_aload (i := 0) (p := 143) (by decide +kernel) rfl ?_
        refine hf_get (T := et_TT) (t := 3) (ci := 1) (f := 3) (p := 146) (by decide +kernel) rfl hH k_e hv.1.2.2.2 ?_
        refine hs_iload (i := 8) (p := 148) (by decide +kernel) rfl ?_
        refine hs_aload (i := 0) (p := 149) (by decide +kernel) rfl ?_
        refine hf_get (T := et_TT) (t := 3) (ci := 1) (f := 3) (p := 152) (by decide +kernel) rfl hH k_e hv.1.2.2.2 ?_
        refine hs_iload (i := 8) (p := 154) (by decide +kernel) rfl ?_
        refine hf_ald (ins := .iaload) (T := et_TT) (t := 15) (kd := 0) (N := 6) (p := 155) (by decide +kernel) (fun _ _ _ _ _ _ _ _ _ _ => rfl) rfl rfl rfl hH k_kn (by decide) ((hv.2.1 _ (by omega)).trans (by rw [upU_s])) ?_
        refine hs_iload (i := 7) (p := 157) (by decide +kernel) rfl ?_
        refine hs_iload (i := 9) (p := 159) (by decide +kernel) rfl ?_
        refine hs_imul (p := 160) (by decide +kernel) ?_
        refine hs_aload (i := 3) (p := 161) (by decide +kernel) rfl ?_
        refine hs_k (x := Int32.ofNat 1) (p := 162) (by decide +kernel) ?_
        refine hs_aload (i := 4) (p := 164) (by decide +kernel) rfl ?_
        refine ht_callv (T := et_TT) (t := 11) (mi := 114) (na := 2) (ci := 9) (lk := 10) (lm := 5) (L0 := eg_en (eg_mL 114) [.ref tn, .int (Int32.ofNat 1), .ref fo]) (by decide +kernel) rfl hH k_tn rfl rfl rfl rfl rfl (by rw [show eg_mL 114 = 5 from by decide +kernel]; first | done | rfl) ?_
        refine (fd_numT (tb := true) (wr := wr) (ye := ye) hH k_fo ht hcl rfl f1 f2 f3 e124 e139 f6 (by omega)).mono (fun u hu => xp_cb hu ?_)
        show et_go none _ 44 167 _ [.int (Int32.ofNat (nuL true (tuE fa (vaI (C m) (Kd m) x) (if 0 ≤ (N m) then (N m) else 0 - (N m)) s wr ye) ls)), .int ((upI ye) * (vaI (C m) (Kd m) x)), .int (N m), .int (Int32.ofNat m), .ref kn] _ _ _ _
        refine hs_imul (p := 168) (by decide +kernel) ?_
        refine hs_iadd (p := 169) (by decide +kernel) ?_
        refine hs_k (x := Int32.ofNat 200) (p := 172) (by decide +kernel) ?_
        refine hs_calls (mi := 46) (na := 2) (lk := 10) (lm := 2) (L0 := eg_en (eg_mL 46) [.int ((N m) + (((upI ye) * (vaI (C m) (Kd m) x)) * Int32.ofNat (nuL true (tuE fa (vaI (C m) (Kd m) x) (if 0 ≤ (N m) then (N m) else 0 - (N m)) s wr ye) ls))), .int (Int32.ofNat 200)]) (by decide +kernel) rfl rfl rfl rfl rfl rfl (by rw [show eg_mL 46 = 2 from by decide +kernel]; first | done | rfl) ?_
        refine (fd_with).mono (fun u hu => xp_cb hu ?_)
        show et_go none _ 44 175 _ [.int (wiI ((N m) + (((upI ye) * (vaI (C m) (Kd m) x)) * Int32.ofNat (nuL true (tuE fa (vaI (C m) (Kd m) x) (if 0 ≤ (N m) then (N m) else 0 - (N m)) s wr ye) ls))) (Int32.ofNat 200)), .int (Int32.ofNat m), .ref kn] _ _ _ _
        have hHo := hH
        refine hf_ist (T := et_TT) (t := 15) (N := 6) (p := 176) (by decide +kernel) rfl rfl (by decide) hH k_kn (by omega) (by decide) (fun s hs => absurd hs List.not_mem_nil) (fun G175 hH x175 e175 => ?_)
        have hv := hv.kp t9 hd9 hHo x175 e175
        have ht := ht.xs et_ex.rf hHo x175 (fun b j t h h2 => by rw [h2.1, k_kn] at h; cases h; exact ⟨by decide, by decide, by decide, by decide, by decide⟩)
        have f1 := (x175.2 fo 1 lt_fo (fun h => (hi_ne k_fo k_kn (by decide)) h.1)).trans f1
        have f2 := (x175.2 fo 2 lt_fo (fun h => (hi_ne k_fo k_kn (by decide)) h.1)).trans f2
        have f3 := (x175.2 fo 3 lt_fo (fun h => (hi_ne k_fo k_kn (by decide)) h.1)).trans f3
        have f6 := (x175.2 fo 6 lt_fo (fun h => (hi_ne k_fo k_kn (by decide)) h.1)).trans f6
        have e124 := (x175.2 fo 4 lt_fo (fun h => (hi_ne k_fo k_kn (by decide)) h.1)).trans e124
        have e139 := (x175.2 fo 5 lt_fo (fun h => (hi_ne k_fo k_kn (by decide)) h.1)).trans e139
        have lt_e := Nat.lt_of_lt_of_le lt_e x175.1
        have lt_ca := Nat.lt_of_lt_of_le lt_ca x175.1
        have lt_ki := Nat.lt_of_lt_of_le lt_ki x175.1
        have lt_kn := Nat.lt_of_lt_of_le lt_kn x175.1
        have lt_fo := Nat.lt_of_lt_of_le lt_fo x175.1
        have lt_tn := Nat.lt_of_lt_of_le lt_tn x175.1
        have hX := hX.tr x175 (fun b j hb h => by first | omega | (dsimp only at h ⊢; omega) | (dsimp only at h; omega) | (dsimp only; omega))
        refine hs_iinc1 (i := 8) (p := 179) (by decide +kernel) rfl (Nat.le_of_ble_eq_true rfl) ?_
        refine hs_goto (p := 93) (by decide +kernel) ?_
        show et_go none (d + 20) 44 93 [some (.ref e), some (.int x), some (.int (Int32.ofNat y)), some (.ref tn), some (.ref fo), some (.int z), some (.int (Int32.ofNat (if wr = true then 1 else 0))), some (.int (upI ye)), some (.int (Int32.ofNat (m + 1))), some (.int (vaI (C m) (Kd m) x))] [] _ _ _ _
        have hv := hv.co (N' := upU t (tnw C Kd x fa s wr ye ls N) N (m + 1)) (fun k _ => upU_y (nw := (tnw C Kd x fa s wr ye ls N)) (stB_f qs) k)
        exact ih (w - (m + 1)) (by omega) hH hv ht f1 f2 f3 f6 (by omega) (fun G9 h1 h2 h3 => h G9 h1 (hX.tr h2 (fun _ _ _ hs => hs)) h3) rfl
/-- whether SHOW was wrong; the KNOBS, the LINE, what was shown behind it -/
def shW (C : Nat → Int32) (Kd : Nat → Nat) (x : Int32) (w : Nat) (ye : Bool) (v : (Nat → Int32) × Int32 × Int32) : Bool := decide (v.2.1 < suN C Kd v.1 x w) != ye
def shU (C : Nat → Int32) (Kd : Nat → Nat) (x : Int32) (w : Nat) (t : Int32) (ls : List sp_L) (ye : Bool) (v : (Nat → Int32) × Int32 × Int32) : Nat → Int32 := upU t (tnw C Kd x (abI (suN C Kd v.1 x w - v.2.1)) (v.2.2 + Int32.ofNat 1) (shW C Kd x w ye v) ye ls v.1) v.1 w
def nxN (C : Nat → Int32) (Kd : Nat → Nat) (x : Int32) (w : Nat) (t f : Int32) (ls : List sp_L) (ye : Bool) (v : (Nat → Int32) × Int32 × Int32) : (Nat → Int32) × Int32 × Int32 := (if flB (v.2.2 + Int32.ofNat 1) f = true then upU t (nwf (shU C Kd x w t ls ye v)) (shU C Kd x w t ls ye v) w else shU C Kd x w t ls ye v, if stB t 6 = true then v.2.1 else tnl (abI (suN C Kd v.1 x w - v.2.1)) (v.2.2 + Int32.ofNat 1) (shW C Kd x w ye v) ye ls v.2.1, v.2.2 + Int32.ofNat 1)
theorem fd_turn {Z : eg_O → Prop} (hH : et_H et_TT K G) (t9 : evK K e ca ki kn w Kd) (hd9 : ¬ kn = ca ∧ ¬ kn = ki) (hv : evC G e ca ki kn w C Kd N l s t f) (ht : tuC K G tn ls) (hcl : ∀ l ∈ ls, lcl1 l) (k_fo : K fo = some 4) (hd : 20 ≤ d2) (h : ∀ G', et_H et_TT K G' → xf (fun b j => (b = e ∧ (4 ≤ j ∧ j ≤ 5)) ∨ (b = kn ∧ (0 ≤ j ∧ j ≤ 5)) ∨ (b = fo ∧ (1 ≤ j ∧ j ≤ 6))) G G' → evC G' e ca ki kn w C Kd (nxN C Kd x w t f ls ye (N, l, s)).1 (nxN C Kd x w t f ls ye (N, l, s)).2.1 (nxN C Kd x w t f ls ye (N, l, s)).2.2 t f → Z (.inl (some (.int (Int32.ofNat (if shW C Kd x w ye (N, l, s) = true then 1 else 0)))), G', 0, 0)) : et_go none d2 44 0 (eg_en (eg_mL 44) [.ref e, .int x, .int (Int32.ofNat (if ye = true then 1 else 0)), .ref tn, .ref fo]) [] G 0 0 Z := by
  obtain ⟨d, rfl⟩ : ∃ d, d2 = d + 20 := ⟨d2 - 20, by omega⟩
  rw [show eg_mL 44 = 10 from by decide +kernel]
  have k_e := t9.1.1
  have k_ca := t9.1.2.1
  have k_ki := t9.1.2.2.1
  have k_kn := t9.1.2.2.2
  have hw6 := t9.2.1
  cases ye with
  | true =>
    show et_go none (d + 20) 44 0 [some (.ref e), some (.int x), some (.int (Int32.ofNat 1)), some (.ref tn), some (.ref fo), none, none, none, none, none] [] G 0 0 _
    have k_tn := ht.kt
    have lt_e := (hH.2.2 _ _ k_e).1
    have lt_ca := (hH.2.2 _ _ k_ca).1
    have lt_ki := (hH.2.2 _ _ k_ki).1
    have lt_kn := (hH.2.2 _ _ k_kn).1
    have lt_fo := (hH.2.2 _ _ k_fo).1
    have lt_tn := (hH.2.2 _ _ k_tn).1
    have hX : xf (fun b j => (b = e ∧ (4 ≤ j ∧ j ≤ 5)) ∨ (b = kn ∧ (0 ≤ j ∧ j ≤ 5)) ∨ (b = fo ∧ (1 ≤ j ∧ j ≤ 6))) G G := xf.rf
    refine hs_aload (i := 0) (p := 1) (by decide +kernel) rfl ?_
    refine hs_dup1 (p := 2) (by decide +kernel) ?_
    refine hf_get (T := et_TT) (t := 3) (ci := 1) (f := 5) (p := 5) (by decide +kernel) rfl hH k_e hv.2.2.2.2.1 ?_
    refine hs_k (x := Int32.ofNat 1) (p := 6) (by decide +kernel) ?_
    refine hs_iadd (p := 7) (by decide +kernel) ?_
    have hHo := hH
    refine hf_put (T := et_TT) (t := 3) (ci := 1) (f := 5) (p := 10) (ty := .int) (by decide +kernel) rfl rfl rfl rfl rfl hH k_e hi_any (fun G7 hH x7 e7 => ?_)
    have hv := hv.ps t9 hHo x7 e7
    have ht := ht.xs et_ex.rf hHo x7 (fun b j t h h2 => by rw [h2.1, k_e] at h; cases h; exact ⟨by decide, by decide, by decide, by decide, by decide⟩)
    have lt_e := Nat.lt_of_lt_of_le lt_e x7.1
    have lt_ca := Nat.lt_of_lt_of_le lt_ca x7.1
    have lt_ki := Nat.lt_of_lt_of_le lt_ki x7.1
    have lt_kn := Nat.lt_of_lt_of_le lt_kn x7.1
    have lt_fo := Nat.lt_of_lt_of_le lt_fo x7.1
    have lt_tn := Nat.lt_of_lt_of_le lt_tn x7.1
    have hX := hX.tr x7 (fun b j hb h => by first | omega | (dsimp only at h ⊢; omega) | (dsimp only at h; omega) | (dsimp only; omega))
    refine hs_aload (i := 0) (p := 11) (by decide +kernel) rfl ?_
    refine hs_iload (i := 1) (p := 12) (by decide +kernel) rfl ?_
    refine ht_callv (T := et_TT) (t := 3) (mi := 43) (na := 1) (ci := 1) (lk := 10) (lm := 2) (L0 := eg_en (eg_mL 43) [.ref e, .int x]) (by decide +kernel) rfl hH k_e rfl rfl rfl rfl rfl (by rw [show eg_mL 43 = 2 from by decide +kernel]; first | done | rfl) ?_
    refine (fd_sumK hH t9 hv (by omega)).mono (fun u hu => xp_cb hu ?_)
    show et_go none _ 44 15 _ [.int (suN C Kd N x w)] _ _ _ _
    refine hs_istore (i := 5) (p := 17) (by decide +kernel) (Nat.le_of_ble_eq_true rfl) ?_
    refine hs_iload (i := 5) (p := 19) (by decide +kernel) rfl ?_
    refine hs_aload (i := 0) (p := 20) (by decide +kernel) rfl ?_
    refine hf_get (T := et_TT) (t := 3) (ci := 1) (f := 4) (p := 23) (by decide +kernel) rfl hH k_e hv.2.2.2.1 ?_
    refine hs_br2 (c := .le) (t := 30) (f := 26) (by decide +kernel) (fun (c23 : (suN C Kd N x w) ≤ l) => ?_) (fun (c23 : ¬ ((suN C Kd N x w) ≤ l)) => ?_)
    · refine hs_k (x := Int32.ofNat 0) (p := 31) (by decide +kernel) ?_
      refine hs_iload (i := 2) (p := 32) (by decide +kernel) rfl ?_
      refine hs_br2n (c := .eq) (t := 39) (f := 35) (by decide +kernel) (by omega) (by omega) (fun h => absurd h (show ¬ (0 = 1) by decide)) (fun _ => ?_)
      refine hs_k (x := Int32.ofNat 1) (p := 36) (by decide +kernel) ?_
      refine hs_goto (p := 40) (by decide +kernel) ?_
      refine hs_istore (i := 6) (p := 42) (by decide +kernel) (Nat.le_of_ble_eq_true rfl) ?_
      refine hs_aload (i := 4) (p := 44) (by decide +kernel) rfl ?_
      refine hs_iload (i := 6) (p := 46) (by decide +kernel) rfl ?_
      have hHo := hH
      refine hf_put (T := et_TT) (t := 4) (ci := 2) (f := 1) (p := 49) (ty := .boolean) (by decide +kernel) rfl rfl rfl (by decide +kernel) rfl hH k_fo (hi_nv (by omega) (by omega)) (fun G46 hH x46 e46 => ?_)
      have hv := hv.xs t9 hHo x46 (fun b j h => by rw [h.1, k_fo]; exact ⟨by decide, by decide⟩)
      have ht := ht.xs et_ex.rf hHo x46 (fun b j t h h2 => by rw [h2.1, k_fo] at h; cases h; exact ⟨by decide, by decide, by decide, by decide, by decide⟩)
      have lt_e := Nat.lt_of_lt_of_le lt_e x46.1
      have lt_ca := Nat.lt_of_lt_of_le lt_ca x46.1
      have lt_ki := Nat.lt_of_lt_of_le lt_ki x46.1
      have lt_kn := Nat.lt_of_lt_of_le lt_kn x46.1
      have lt_fo := Nat.lt_of_lt_of_le lt_fo x46.1
      have lt_tn := Nat.lt_of_lt_of_le lt_tn x46.1
      have hX := hX.tr x46 (fun b j hb h => by first | omega | (dsimp only at h ⊢; omega) | (dsimp only at h; omega) | (dsimp only; omega))
      refine hs_aload (i := 4) (p := 51) (by decide +kernel) rfl ?_
      refine hs_iload (i := 2) (p := 52) (by decide +kernel) rfl ?_
      have hHo := hH
      refine hf_put (T := et_TT) (t := 4) (ci := 2) (f := 2) (p := 55) (ty := .boolean) (by decide +kernel) rfl rfl rfl (by decide +kernel) rfl hH k_fo (hi_nv (by omega) (by omega)) (fun G52 hH x52 e52 => ?_)
      have hv := hv.xs t9 hHo x52 (fun b j h => by rw [h.1, k_fo]; exact ⟨by decide, by decide⟩)
      have ht := ht.xs et_ex.rf hHo x52 (fun b j t h h2 => by rw [h2.1, k_fo] at h; cases h; exact ⟨by decide, by decide, by decide, by decide, by decide⟩)
      have e46 := (x52.2 fo 1 lt_fo (fun h => absurd h.2 (by decide))).trans e46
      have lt_e := Nat.lt_of_lt_of_le lt_e x52.1
      have lt_ca := Nat.lt_of_lt_of_le lt_ca x52.1
      have lt_ki := Nat.lt_of_lt_of_le lt_ki x52.1
      have lt_kn := Nat.lt_of_lt_of_le lt_kn x52.1
      have lt_fo := Nat.lt_of_lt_of_le lt_fo x52.1
      have lt_tn := Nat.lt_of_lt_of_le lt_tn x52.1
      have hX := hX.tr x52 (fun b j hb h => by first | omega | (dsimp only at h ⊢; omega) | (dsimp only at h; omega) | (dsimp only; omega))
      refine hs_aload (i := 4) (p := 57) (by decide +kernel) rfl ?_
      refine hs_iload (i := 5) (p := 59) (by decide +kernel) rfl ?_
      refine hs_aload (i := 0) (p := 60) (by decide +kernel) rfl ?_
      refine hf_get (T := et_TT) (t := 3) (ci := 1) (f := 4) (p := 63) (by decide +kernel) rfl hH k_e hv.2.2.2.1 ?_
      refine hs_isub (p := 64) (by decide +kernel) ?_
      refine hs_math (mi := 309) (lk := 10) (p := 67) (by decide +kernel) rfl rfl rfl rfl ?_
      have hHo := hH
      refine hf_put (T := et_TT) (t := 4) (ci := 2) (f := 3) (p := 70) (ty := .int) (by decide +kernel) rfl rfl rfl rfl rfl hH k_fo hi_any (fun G67 hH x67 e67 => ?_)
      have hv := hv.xs t9 hHo x67 (fun b j h => by rw [h.1, k_fo]; exact ⟨by decide, by decide⟩)
      have ht := ht.xs et_ex.rf hHo x67 (fun b j t h h2 => by rw [h2.1, k_fo] at h; cases h; exact ⟨by decide, by decide, by decide, by decide, by decide⟩)
      have e46 := (x67.2 fo 1 lt_fo (fun h => absurd h.2 (by decide))).trans e46
      have e52 := (x67.2 fo 2 lt_fo (fun h => absurd h.2 (by decide))).trans e52
      have lt_e := Nat.lt_of_lt_of_le lt_e x67.1
      have lt_ca := Nat.lt_of_lt_of_le lt_ca x67.1
      have lt_ki := Nat.lt_of_lt_of_le lt_ki x67.1
      have lt_kn := Nat.lt_of_lt_of_le lt_kn x67.1
      have lt_fo := Nat.lt_of_lt_of_le lt_fo x67.1
      have lt_tn := Nat.lt_of_lt_of_le lt_tn x67.1
      have hX := hX.tr x67 (fun b j hb h => by first | omega | (dsimp only at h ⊢; omega) | (dsimp only at h; omega) | (dsimp only; omega))
      refine hs_aload (i := 4) (p := 72) (by decide +kernel) rfl ?_
      refine hs_aload (i := 0) (p := 73) (by decide +kernel) rfl ?_
      refine hf_get (T := et_TT) (t := 3) (ci := 1) (f := 5) (p := 76) (by decide +kernel) rfl hH k_e hv.2.2.2.2.1 ?_
      have hHo := hH
      refine hf_put (T := et_TT) (t := 4) (ci := 2) (f := 6) (p := 79) (ty := .int) (by decide +kernel) rfl rfl rfl rfl rfl hH k_fo hi_any (fun G76 hH x76 e76 => ?_)
      have hv := hv.xs t9 hHo x76 (fun b j h => by rw [h.1, k_fo]; exact ⟨by decide, by decide⟩)
      have ht := ht.xs et_ex.rf hHo x76 (fun b j t h h2 => by rw [h2.1, k_fo] at h; cases h; exact ⟨by decide, by decide, by decide, by decide, by decide⟩)
      have e46 := (x76.2 fo 1 lt_fo (fun h => absurd h.2 (by decide))).trans e46
      have e52 := (x76.2 fo 2 lt_fo (fun h => absurd h.2 (by decide))).trans e52
      have e67 := (x76.2 fo 3 lt_fo (fun h => absurd h.2 (by decide))).trans e67
      have lt_e := Nat.lt_of_lt_of_le lt_e x76.1
      have lt_ca := Nat.lt_of_lt_of_le lt_ca x76.1
      have lt_ki := Nat.lt_of_lt_of_le lt_ki x76.1
      have lt_kn := Nat.lt_of_lt_of_le lt_kn x76.1
      have lt_fo := Nat.lt_of_lt_of_le lt_fo x76.1
      have lt_tn := Nat.lt_of_lt_of_le lt_tn x76.1
      have hX := hX.tr x76 (fun b j hb h => by first | omega | (dsimp only at h ⊢; omega) | (dsimp only at h; omega) | (dsimp only; omega))
      refine hs_iload (i := 2) (p := 80) (by decide +kernel) rfl ?_
      refine hs_if0 (c := .eq) (t := 87) (f := 83) (by decide +kernel) (show ¬ (Int32.ofNat 1 = 0) by decide) ?_
      refine hs_k (x := Int32.ofNat 1) (p := 84) (by decide +kernel) ?_
      refine hs_goto (p := 88) (by decide +kernel) ?_
      refine hs_istore (i := 7) (p := 90) (by decide +kernel) (Nat.le_of_ble_eq_true rfl) ?_
      refine hs_k (x := Int32.ofNat 0) (p := 91) (by decide +kernel) ?_
      refine hs_istore (i := 8) (p := 93) (by decide +kernel) (Nat.le_of_ble_eq_true rfl) ?_
      have hw9 : shW C Kd x w true (N, l, s) = true := by
        unfold shW
        rw [show decide (l < suN C Kd N x w) = false from decide_eq_false (Int32.not_lt.mpr c23)]
        rfl
      show et_go none (d + 20) 44 93 [some (.ref e), some (.int x), some (.int (Int32.ofNat 1)), some (.ref tn), some (.ref fo), some (.int (suN C Kd N x w)), some (.int (Int32.ofNat (if true = true then 1 else 0))), some (.int (upI true)), some (.int (Int32.ofNat 0)), none] [] _ _ _ _
      refine fd_turnL (C := C) (N := N) (wr := true) (ye := true) (m := 0) hH t9 hd9 (hv.co (fun k _ => upU_0)) ht hcl k_fo e46 e52 e67 e76 (Nat.zero_le _) (fun G9 h1 h2 h3 => ?_)
      have h8 := h G9 h1 (hX.tr h2 (fun _ _ _ hs => hs))
      unfold nxN shU at h8
      rw [hw9] at h8
      exact h8 h3
    · refine hs_k (x := Int32.ofNat 1) (p := 27) (by decide +kernel) ?_
      refine hs_goto (p := 31) (by decide +kernel) ?_
      refine hs_iload (i := 2) (p := 32) (by decide +kernel) rfl ?_
      refine hs_br2n (c := .eq) (t := 39) (f := 35) (by decide +kernel) (by omega) (by omega) (fun _ => ?_) (fun h => absurd (show 1 = 1 by decide) h)
      refine hs_k (x := Int32.ofNat 0) (p := 40) (by decide +kernel) ?_
      refine hs_istore (i := 6) (p := 42) (by decide +kernel) (Nat.le_of_ble_eq_true rfl) ?_
      refine hs_aload (i := 4) (p := 44) (by decide +kernel) rfl ?_
      refine hs_iload (i := 6) (p := 46) (by decide +kernel) rfl ?_
      have hHo := hH
      refine hf_put (T := et_TT) (t := 4) (ci := 2) (f := 1) (p := 49) (ty := .boolean) (by decide +kernel) rfl rfl rfl (by decide +kernel) rfl hH k_fo (hi_nv (by omega) (by omega)) (fun G46 hH x46 e46 => ?_)
      have hv := hv.xs t9 hHo x46 (fun b j h => by rw [h.1, k_fo]; exact ⟨by decide, by decide⟩)
      have ht := ht.xs et_ex.rf hHo x46 (fun b j t h h2 => by rw [h2.1, k_fo] at h; cases h; exact ⟨by decide, by decide, by decide, by decide, by decide⟩)
      have lt_e := Nat.lt_of_lt_of_le lt_e x46.1
      have lt_ca := Nat.lt_of_lt_of_le lt_ca x46.1
      have lt_ki := Nat.lt_of_lt_of_le lt_ki x46.1
      have lt_kn := Nat.lt_of_lt_of_le lt_kn x46.1
      have lt_fo := Nat.lt_of_lt_of_le lt_fo x46.1
      have lt_tn := Nat.lt_of_lt_of_le lt_tn x46.1
      have hX := hX.tr x46 (fun b j hb h => by first | omega | (dsimp only at h ⊢; omega) | (dsimp only at h; omega) | (dsimp only; omega))
      refine hs_aload (i := 4) (p := 51) (by decide +kernel) rfl ?_
      refine hs_iload (i := 2) (p := 52) (by decide +kernel) rfl ?_
      have hHo := hH
      refine hf_put (T := et_TT) (t := 4) (ci := 2) (f := 2) (p := 55) (ty := .boolean) (by decide +kernel) rfl rfl rfl (by decide +kernel) rfl hH k_fo (hi_nv (by omega) (by omega)) (fun G52 hH x52 e52 => ?_)
      have hv := hv.xs t9 hHo x52 (fun b j h => by rw [h.1, k_fo]; exact ⟨by decide, by decide⟩)
      have ht := ht.xs et_ex.rf hHo x52 (fun b j t h h2 => by rw [h2.1, k_fo] at h; cases h; exact ⟨by decide, by decide, by decide, by decide, by decide⟩)
      have e46 := (x52.2 fo 1 lt_fo (fun h => absurd h.2 (by decide))).trans e46
      have lt_e := Nat.lt_of_lt_of_le lt_e x52.1
      have lt_ca := Nat.lt_of_lt_of_le lt_ca x52.1
      have lt_ki := Nat.lt_of_lt_of_le lt_ki x52.1
      have lt_kn := Nat.lt_of_lt_of_le lt_kn x52.1
      have lt_fo := Nat.lt_of_lt_of_le lt_fo x52.1
      have lt_tn := Nat.lt_of_lt_of_le lt_tn x52.1
      have hX := hX.tr x52 (fun b j hb h => by first | omega | (dsimp only at h ⊢; omega) | (dsimp only at h; omega) | (dsimp only; omega))
      refine hs_aload (i := 4) (p := 57) (by decide +kernel) rfl ?_
      refine hs_iload (i := 5) (p := 59) (by decide +kernel) rfl ?_
      refine hs_aload (i := 0) (p := 60) (by decide +kernel) rfl ?_
      refine hf_get (T := et_TT) (t := 3) (ci := 1) (f := 4) (p := 63) (by decide +kernel) rfl hH k_e hv.2.2.2.1 ?_
      refine hs_isub (p := 64) (by decide +kernel) ?_
      refine hs_math (mi := 309) (lk := 10) (p := 67) (by decide +kernel) rfl rfl rfl rfl ?_
      have hHo := hH
      refine hf_put (T := et_TT) (t := 4) (ci := 2) (f := 3) (p := 70) (ty := .int) (by decide +kernel) rfl rfl rfl rfl rfl hH k_fo hi_any (fun G67 hH x67 e67 => ?_)
      have hv := hv.xs t9 hHo x67 (fun b j h => by rw [h.1, k_fo]; exact ⟨by decide, by decide⟩)
      have ht := ht.xs et_ex.rf hHo x67 (fun b j t h h2 => by rw [h2.1, k_fo] at h; cases h; exact ⟨by decide, by decide, by decide, by decide, by decide⟩)
      have e46 := (x67.2 fo 1 lt_fo (fun h => absurd h.2 (by decide))).trans e46
      have e52 := (x67.2 fo 2 lt_fo (fun h => absurd h.2 (by decide))).trans e52
      have lt_e := Nat.lt_of_lt_of_le lt_e x67.1
      have lt_ca := Nat.lt_of_lt_of_le lt_ca x67.1
      have lt_ki := Nat.lt_of_lt_of_le lt_ki x67.1
      have lt_kn := Nat.lt_of_lt_of_le lt_kn x67.1
      have lt_fo := Nat.lt_of_lt_of_le lt_fo x67.1
      have lt_tn := Nat.lt_of_lt_of_le lt_tn x67.1
      have hX := hX.tr x67 (fun b j hb h => by first | omega | (dsimp only at h ⊢; omega) | (dsimp only at h; omega) | (dsimp only; omega))
      refine hs_aload (i := 4) (p := 72) (by decide +kernel) rfl ?_
      refine hs_aload (i := 0) (p := 73) (by decide +kernel) rfl ?_
      refine hf_get (T := et_TT) (t := 3) (ci := 1) (f := 5) (p := 76) (by decide +kernel) rfl hH k_e hv.2.2.2.2.1 ?_
      have hHo := hH
      refine hf_put (T := et_TT) (t := 4) (ci := 2) (f := 6) (p := 79) (ty := .int) (by decide +kernel) rfl rfl rfl rfl rfl hH k_fo hi_any (fun G76 hH x76 e76 => ?_)
      have hv := hv.xs t9 hHo x76 (fun b j h => by rw [h.1, k_fo]; exact ⟨by decide, by decide⟩)
      have ht := ht.xs et_ex.rf hHo x76 (fun b j t h h2 => by rw [h2.1, k_fo] at h; cases h; exact ⟨by decide, by decide, by decide, by decide, by decide⟩)
      have e46 := (x76.2 fo 1 lt_fo (fun h => absurd h.2 (by decide))).trans e46
      have e52 := (x76.2 fo 2 lt_fo (fun h => absurd h.2 (by decide))).trans e52
      have e67 := (x76.2 fo 3 lt_fo (fun h => absurd h.2 (by decide))).trans e67
      have lt_e := Nat.lt_of_lt_of_le lt_e x76.1
      have lt_ca := Nat.lt_of_lt_of_le lt_ca x76.1
      have lt_ki := Nat.lt_of_lt_of_le lt_ki x76.1
      have lt_kn := Nat.lt_of_lt_of_le lt_kn x76.1
      have lt_fo := Nat.lt_of_lt_of_le lt_fo x76.1
      have lt_tn := Nat.lt_of_lt_of_le lt_tn x76.1
      have hX := hX.tr x76 (fun b j hb h => by first | omega | (dsimp only at h ⊢; omega) | (dsimp only at h; omega) | (dsimp only; omega))
      refine hs_iload (i := 2) (p := 80) (by decide +kernel) rfl ?_
      refine hs_if0 (c := .eq) (t := 87) (f := 83) (by decide +kernel) (show ¬ (Int32.ofNat 1 = 0) by decide) ?_
      refine hs_k (x := Int32.ofNat 1) (p := 84) (by decide +kernel) ?_
      refine hs_goto (p := 88) (by decide +kernel) ?_
      refine hs_istore (i := 7) (p := 90) (by decide +kernel) (Nat.le_of_ble_eq_true rfl) ?_
      refine hs_k (x := Int32.ofNat 0) (p := 91) (by decide +kernel) ?_
      refine hs_istore (i := 8) (p := 93) (by decide +kernel) (Nat.le_of_ble_eq_true rfl) ?_
      have hw9 : shW C Kd x w true (N, l, s) = false := by
        unfold shW
        rw [show decide (l < suN C Kd N x w) = true from decide_eq_true (Int32.not_le.mp c23)]
        rfl
      show et_go none (d + 20) 44 93 [some (.ref e), some (.int x), some (.int (Int32.ofNat 1)), some (.ref tn), some (.ref fo), some (.int (suN C Kd N x w)), some (.int (Int32.ofNat (if false = true then 1 else 0))), some (.int (upI true)), some (.int (Int32.ofNat 0)), none] [] _ _ _ _
      refine fd_turnL (C := C) (N := N) (wr := false) (ye := true) (m := 0) hH t9 hd9 (hv.co (fun k _ => upU_0)) ht hcl k_fo e46 e52 e67 e76 (Nat.zero_le _) (fun G9 h1 h2 h3 => ?_)
      have h8 := h G9 h1 (hX.tr h2 (fun _ _ _ hs => hs))
      unfold nxN shU at h8
      rw [hw9] at h8
      exact h8 h3
  | false =>
    show et_go none (d + 20) 44 0 [some (.ref e), some (.int x), some (.int (Int32.ofNat 0)), some (.ref tn), some (.ref fo), none, none, none, none, none] [] G 0 0 _
    have k_tn := ht.kt
    have lt_e := (hH.2.2 _ _ k_e).1
    have lt_ca := (hH.2.2 _ _ k_ca).1
    have lt_ki := (hH.2.2 _ _ k_ki).1
    have lt_kn := (hH.2.2 _ _ k_kn).1
    have lt_fo := (hH.2.2 _ _ k_fo).1
    have lt_tn := (hH.2.2 _ _ k_tn).1
    have hX : xf (fun b j => (b = e ∧ (4 ≤ j ∧ j ≤ 5)) ∨ (b = kn ∧ (0 ≤ j ∧ j ≤ 5)) ∨ (b = fo ∧ (1 ≤ j ∧ j ≤ 6))) G G := xf.rf
    refine hs_aload (i := 0) (p := 1) (by decide +kernel) rfl ?_
    refine hs_dup1 (p := 2) (by decide +kernel) ?_
    refine hf_get (T := et_TT) (t := 3) (ci := 1) (f := 5) (p := 5) (by decide +kernel) rfl hH k_e hv.2.2.2.2.1 ?_
    refine hs_k (x := Int32.ofNat 1) (p := 6) (by decide +kernel) ?_
    refine hs_iadd (p := 7) (by decide +kernel) ?_
    have hHo := hH
    refine hf_put (T := et_TT) (t := 3) (ci := 1) (f := 5) (p := 10) (ty := .int) (by decide +kernel) rfl rfl rfl rfl rfl hH k_e hi_any (fun G7 hH x7 e7 => ?_)
    have hv := hv.ps t9 hHo x7 e7
    have ht := ht.xs et_ex.rf hHo x7 (fun b j t h h2 => by rw [h2.1, k_e] at h; cases h; exact ⟨by decide, by decide, by decide, by decide, by decide⟩)
    have lt_e := Nat.lt_of_lt_of_le lt_e x7.1
    have lt_ca := Nat.lt_of_lt_of_le lt_ca x7.1
    have lt_ki := Nat.lt_of_lt_of_le lt_ki x7.1
    have lt_kn := Nat.lt_of_lt_of_le lt_kn x7.1
    have lt_fo := Nat.lt_of_lt_of_le lt_fo x7.1
    have lt_tn := Nat.lt_of_lt_of_le lt_tn x7.1
    have hX := hX.tr x7 (fun b j hb h => by first | omega | (dsimp only at h ⊢; omega) | (dsimp only at h; omega) | (dsimp only; omega))
    refine hs_aload (i := 0) (p := 11) (by decide +kernel) rfl ?_
    refine hs_iload (i := 1) (p := 12) (by decide +kernel) rfl ?_
    refine ht_callv (T := et_TT) (t := 3) (mi := 43) (na := 1) (ci := 1) (lk := 10) (lm := 2) (L0 := eg_en (eg_mL 43) [.ref e, .int x]) (by decide +kernel) rfl hH k_e rfl rfl rfl rfl rfl (by rw [show eg_mL 43 = 2 from by decide +kernel]; first | done | rfl) ?_
    refine (fd_sumK hH t9 hv (by omega)).mono (fun u hu => xp_cb hu ?_)
    show et_go none _ 44 15 _ [.int (suN C Kd N x w)] _ _ _ _
    refine hs_istore (i := 5) (p := 17) (by decide +kernel) (Nat.le_of_ble_eq_true rfl) ?_
    refine hs_iload (i := 5) (p := 19) (by decide +kernel) rfl ?_
    refine hs_aload (i := 0) (p := 20) (by decide +kernel) rfl ?_
    refine hf_get (T := et_TT) (t := 3) (ci := 1) (f := 4) (p := 23) (by decide +kernel) rfl hH k_e hv.2.2.2.1 ?_
    refine hs_br2 (c := .le) (t := 30) (f := 26) (by decide +kernel) (fun (c23 : (suN C Kd N x w) ≤ l) => ?_) (fun (c23 : ¬ ((suN C Kd N x w) ≤ l)) => ?_)
    · refine hs_k (x := Int32.ofNat 0) (p := 31) (by decide +kernel) ?_
      refine hs_iload (i := 2) (p := 32) (by decide +kernel) rfl ?_
      refine hs_br2n (c := .eq) (t := 39) (f := 35) (by decide +kernel) (by omega) (by omega) (fun _ => ?_) (fun h => absurd (show 0 = 0 by decide) h)
      refine hs_k (x := Int32.ofNat 0) (p := 40) (by decide +kernel) ?_
      refine hs_istore (i := 6) (p := 42) (by decide +kernel) (Nat.le_of_ble_eq_true rfl) ?_
      refine hs_aload (i := 4) (p := 44) (by decide +kernel) rfl ?_
      refine hs_iload (i := 6) (p := 46) (by decide +kernel) rfl ?_
      have hHo := hH
      refine hf_put (T := et_TT) (t := 4) (ci := 2) (f := 1) (p := 49) (ty := .boolean) (by decide +kernel) rfl rfl rfl (by decide +kernel) rfl hH k_fo (hi_nv (by omega) (by omega)) (fun G46 hH x46 e46 => ?_)
      have hv := hv.xs t9 hHo x46 (fun b j h => by rw [h.1, k_fo]; exact ⟨by decide, by decide⟩)
      have ht := ht.xs et_ex.rf hHo x46 (fun b j t h h2 => by rw [h2.1, k_fo] at h; cases h; exact ⟨by decide, by decide, by decide, by decide, by decide⟩)
      have lt_e := Nat.lt_of_lt_of_le lt_e x46.1
      have lt_ca := Nat.lt_of_lt_of_le lt_ca x46.1
      have lt_ki := Nat.lt_of_lt_of_le lt_ki x46.1
      have lt_kn := Nat.lt_of_lt_of_le lt_kn x46.1
      have lt_fo := Nat.lt_of_lt_of_le lt_fo x46.1
      have lt_tn := Nat.lt_of_lt_of_le lt_tn x46.1
      have hX := hX.tr x46 (fun b j hb h => by first | omega | (dsimp only at h ⊢; omega) | (dsimp only at h; omega) | (dsimp only; omega))
      refine hs_aload (i := 4) (p := 51) (by decide +kernel) rfl ?_
      refine hs_iload (i := 2) (p := 52) (by decide +kernel) rfl ?_
      have hHo := hH
      refine hf_put (T := et_TT) (t := 4) (ci := 2) (f := 2) (p := 55) (ty := .boolean) (by decide +kernel) rfl rfl rfl (by decide +kernel) rfl hH k_fo (hi_nv (by omega) (by omega)) (fun G52 hH x52 e52 => ?_)
      have hv := hv.xs t9 hHo x52 (fun b j h => by rw [h.1, k_fo]; exact ⟨by decide, by decide⟩)
      have ht := ht.xs et_ex.rf hHo x52 (fun b j t h h2 => by rw [h2.1, k_fo] at h; cases h; exact ⟨by decide, by decide, by decide, by decide, by decide⟩)
      have e46 := (x52.2 fo 1 lt_fo (fun h => absurd h.2 (by decide))).trans e46
      have lt_e := Nat.lt_of_lt_of_le lt_e x52.1
      have lt_ca := Nat.lt_of_lt_of_le lt_ca x52.1
      have lt_ki := Nat.lt_of_lt_of_le lt_ki x52.1
      have lt_kn := Nat.lt_of_lt_of_le lt_kn x52.1
      have lt_fo := Nat.lt_of_lt_of_le lt_fo x52.1
      have lt_tn := Nat.lt_of_lt_of_le lt_tn x52.1
      have hX := hX.tr x52 (fun b j hb h => by first | omega | (dsimp only at h ⊢; omega) | (dsimp only at h; omega) | (dsimp only; omega))
      refine hs_aload (i := 4) (p := 57) (by decide +kernel) rfl ?_
      refine hs_iload (i := 5) (p := 59) (by decide +kernel) rfl ?_
      refine hs_aload (i := 0) (p := 60) (by decide +kernel) rfl ?_
      refine hf_get (T := et_TT) (t := 3) (ci := 1) (f := 4) (p := 63) (by decide +kernel) rfl hH k_e hv.2.2.2.1 ?_
      refine hs_isub (p := 64) (by decide +kernel) ?_
      refine hs_math (mi := 309) (lk := 10) (p := 67) (by decide +kernel) rfl rfl rfl rfl ?_
      have hHo := hH
      refine hf_put (T := et_TT) (t := 4) (ci := 2) (f := 3) (p := 70) (ty := .int) (by decide +kernel) rfl rfl rfl rfl rfl hH k_fo hi_any (fun G67 hH x67 e67 => ?_)
      have hv := hv.xs t9 hHo x67 (fun b j h => by rw [h.1, k_fo]; exact ⟨by decide, by decide⟩)
      have ht := ht.xs et_ex.rf hHo x67 (fun b j t h h2 => by rw [h2.1, k_fo] at h; cases h; exact ⟨by decide, by decide, by decide, by decide, by decide⟩)
      have e46 := (x67.2 fo 1 lt_fo (fun h => absurd h.2 (by decide))).trans e46
      have e52 := (x67.2 fo 2 lt_fo (fun h => absurd h.2 (by decide))).trans e52
      have lt_e := Nat.lt_of_lt_of_le lt_e x67.1
      have lt_ca := Nat.lt_of_lt_of_le lt_ca x67.1
      have lt_ki := Nat.lt_of_lt_of_le lt_ki x67.1
      have lt_kn := Nat.lt_of_lt_of_le lt_kn x67.1
      have lt_fo := Nat.lt_of_lt_of_le lt_fo x67.1
      have lt_tn := Nat.lt_of_lt_of_le lt_tn x67.1
      have hX := hX.tr x67 (fun b j hb h => by first | omega | (dsimp only at h ⊢; omega) | (dsimp only at h; omega) | (dsimp only; omega))
      refine hs_aload (i := 4) (p := 72) (by decide +kernel) rfl ?_
      refine hs_aload (i := 0) (p := 73) (by decide +kernel) rfl ?_
      refine hf_get (T := et_TT) (t := 3) (ci := 1) (f := 5) (p := 76) (by decide +kernel) rfl hH k_e hv.2.2.2.2.1 ?_
      have hHo := hH
      refine hf_put (T := et_TT) (t := 4) (ci := 2) (f := 6) (p := 79) (ty := .int) (by decide +kernel) rfl rfl rfl rfl rfl hH k_fo hi_any (fun G76 hH x76 e76 => ?_)
      have hv := hv.xs t9 hHo x76 (fun b j h => by rw [h.1, k_fo]; exact ⟨by decide, by decide⟩)
      have ht := ht.xs et_ex.rf hHo x76 (fun b j t h h2 => by rw [h2.1, k_fo] at h; cases h; exact ⟨by decide, by decide, by decide, by decide, by decide⟩)
      have e46 := (x76.2 fo 1 lt_fo (fun h => absurd h.2 (by decide))).trans e46
      have e52 := (x76.2 fo 2 lt_fo (fun h => absurd h.2 (by decide))).trans e52
      have e67 := (x76.2 fo 3 lt_fo (fun h => absurd h.2 (by decide))).trans e67
      have lt_e := Nat.lt_of_lt_of_le lt_e x76.1
      have lt_ca := Nat.lt_of_lt_of_le lt_ca x76.1
      have lt_ki := Nat.lt_of_lt_of_le lt_ki x76.1
      have lt_kn := Nat.lt_of_lt_of_le lt_kn x76.1
      have lt_fo := Nat.lt_of_lt_of_le lt_fo x76.1
      have lt_tn := Nat.lt_of_lt_of_le lt_tn x76.1
      have hX := hX.tr x76 (fun b j hb h => by first | omega | (dsimp only at h ⊢; omega) | (dsimp only at h; omega) | (dsimp only; omega))
      refine hs_iload (i := 2) (p := 80) (by decide +kernel) rfl ?_
      refine hs_if1 (c := .eq) (t := 87) (f := 83) (by decide +kernel) (show Int32.ofNat 0 = 0 by decide) ?_
      refine hs_k (x := (-1)) (p := 88) (by decide +kernel) ?_
      refine hs_istore (i := 7) (p := 90) (by decide +kernel) (Nat.le_of_ble_eq_true rfl) ?_
      refine hs_k (x := Int32.ofNat 0) (p := 91) (by decide +kernel) ?_
      refine hs_istore (i := 8) (p := 93) (by decide +kernel) (Nat.le_of_ble_eq_true rfl) ?_
      have hw9 : shW C Kd x w false (N, l, s) = false := by
        unfold shW
        rw [show decide (l < suN C Kd N x w) = false from decide_eq_false (Int32.not_lt.mpr c23)]
        rfl
      show et_go none (d + 20) 44 93 [some (.ref e), some (.int x), some (.int (Int32.ofNat 0)), some (.ref tn), some (.ref fo), some (.int (suN C Kd N x w)), some (.int (Int32.ofNat (if false = true then 1 else 0))), some (.int (upI false)), some (.int (Int32.ofNat 0)), none] [] _ _ _ _
      refine fd_turnL (C := C) (N := N) (wr := false) (ye := false) (m := 0) hH t9 hd9 (hv.co (fun k _ => upU_0)) ht hcl k_fo e46 e52 e67 e76 (Nat.zero_le _) (fun G9 h1 h2 h3 => ?_)
      have h8 := h G9 h1 (hX.tr h2 (fun _ _ _ hs => hs))
      unfold nxN shU at h8
      rw [hw9] at h8
      exact h8 h3
    · refine hs_k (x := Int32.ofNat 1) (p := 27) (by decide +kernel) ?_
      refine hs_goto (p := 31) (by decide +kernel) ?_
      refine hs_iload (i := 2) (p := 32) (by decide +kernel) rfl ?_
      refine hs_br2n (c := .eq) (t := 39) (f := 35) (by decide +kernel) (by omega) (by omega) (fun h => absurd h (show ¬ (1 = 0) by decide)) (fun _ => ?_)
      refine hs_k (x := Int32.ofNat 1) (p := 36) (by decide +kernel) ?_
      refine hs_goto (p := 40) (by decide +kernel) ?_
      refine hs_istore (i := 6) (p := 42) (by decide +kernel) (Nat.le_of_ble_eq_true rfl) ?_
      refine hs_aload (i := 4) (p := 44) (by decide +kernel) rfl ?_
      refine hs_iload (i := 6) (p := 46) (by decide +kernel) rfl ?_
      have hHo := hH
      refine hf_put (T := et_TT) (t := 4) (ci := 2) (f := 1) (p := 49) (ty := .boolean) (by decide +kernel) rfl rfl rfl (by decide +kernel) rfl hH k_fo (hi_nv (by omega) (by omega)) (fun G46 hH x46 e46 => ?_)
      have hv := hv.xs t9 hHo x46 (fun b j h => by rw [h.1, k_fo]; exact ⟨by decide, by decide⟩)
      have ht := ht.xs et_ex.rf hHo x46 (fun b j t h h2 => by rw [h2.1, k_fo] at h; cases h; exact ⟨by decide, by decide, by decide, by decide, by decide⟩)
      have lt_e := Nat.lt_of_lt_of_le lt_e x46.1
      have lt_ca := Nat.lt_of_lt_of_le lt_ca x46.1
      have lt_ki := Nat.lt_of_lt_of_le lt_ki x46.1
      have lt_kn := Nat.lt_of_lt_of_le lt_kn x46.1
      have lt_fo := Nat.lt_of_lt_of_le lt_fo x46.1
      have lt_tn := Nat.lt_of_lt_of_le lt_tn x46.1
      have hX := hX.tr x46 (fun b j hb h => by first | omega | (dsimp only at h ⊢; omega) | (dsimp only at h; omega) | (dsimp only; omega))
      refine hs_aload (i := 4) (p := 51) (by decide +kernel) rfl ?_
      refine hs_iload (i := 2) (p := 52) (by decide +kernel) rfl ?_
      have hHo := hH
      refine hf_put (T := et_TT) (t := 4) (ci := 2) (f := 2) (p := 55) (ty := .boolean) (by decide +kernel) rfl rfl rfl (by decide +kernel) rfl hH k_fo (hi_nv (by omega) (by omega)) (fun G52 hH x52 e52 => ?_)
      have hv := hv.xs t9 hHo x52 (fun b j h => by rw [h.1, k_fo]; exact ⟨by decide, by decide⟩)
      have ht := ht.xs et_ex.rf hHo x52 (fun b j t h h2 => by rw [h2.1, k_fo] at h; cases h; exact ⟨by decide, by decide, by decide, by decide, by decide⟩)
      have e46 := (x52.2 fo 1 lt_fo (fun h => absurd h.2 (by decide))).trans e46
      have lt_e := Nat.lt_of_lt_of_le lt_e x52.1
      have lt_ca := Nat.lt_of_lt_of_le lt_ca x52.1
      have lt_ki := Nat.lt_of_lt_of_le lt_ki x52.1
      have lt_kn := Nat.lt_of_lt_of_le lt_kn x52.1
      have lt_fo := Nat.lt_of_lt_of_le lt_fo x52.1
      have lt_tn := Nat.lt_of_lt_of_le lt_tn x52.1
      have hX := hX.tr x52 (fun b j hb h => by first | omega | (dsimp only at h ⊢; omega) | (dsimp only at h; omega) | (dsimp only; omega))
      refine hs_aload (i := 4) (p := 57) (by decide +kernel) rfl ?_
      refine hs_iload (i := 5) (p := 59) (by decide +kernel) rfl ?_
      refine hs_aload (i := 0) (p := 60) (by decide +kernel) rfl ?_
      refine hf_get (T := et_TT) (t := 3) (ci := 1) (f := 4) (p := 63) (by decide +kernel) rfl hH k_e hv.2.2.2.1 ?_
      refine hs_isub (p := 64) (by decide +kernel) ?_
      refine hs_math (mi := 309) (lk := 10) (p := 67) (by decide +kernel) rfl rfl rfl rfl ?_
      have hHo := hH
      refine hf_put (T := et_TT) (t := 4) (ci := 2) (f := 3) (p := 70) (ty := .int) (by decide +kernel) rfl rfl rfl rfl rfl hH k_fo hi_any (fun G67 hH x67 e67 => ?_)
      have hv := hv.xs t9 hHo x67 (fun b j h => by rw [h.1, k_fo]; exact ⟨by decide, by decide⟩)
      have ht := ht.xs et_ex.rf hHo x67 (fun b j t h h2 => by rw [h2.1, k_fo] at h; cases h; exact ⟨by decide, by decide, by decide, by decide, by decide⟩)
      have e46 := (x67.2 fo 1 lt_fo (fun h => absurd h.2 (by decide))).trans e46
      have e52 := (x67.2 fo 2 lt_fo (fun h => absurd h.2 (by decide))).trans e52
      have lt_e := Nat.lt_of_lt_of_le lt_e x67.1
      have lt_ca := Nat.lt_of_lt_of_le lt_ca x67.1
      have lt_ki := Nat.lt_of_lt_of_le lt_ki x67.1
      have lt_kn := Nat.lt_of_lt_of_le lt_kn x67.1
      have lt_fo := Nat.lt_of_lt_of_le lt_fo x67.1
      have lt_tn := Nat.lt_of_lt_of_le lt_tn x67.1
      have hX := hX.tr x67 (fun b j hb h => by first | omega | (dsimp only at h ⊢; omega) | (dsimp only at h; omega) | (dsimp only; omega))
      refine hs_aload (i := 4) (p := 72) (by decide +kernel) rfl ?_
      refine hs_aload (i := 0) (p := 73) (by decide +kernel) rfl ?_
      refine hf_get (T := et_TT) (t := 3) (ci := 1) (f := 5) (p := 76) (by decide +kernel) rfl hH k_e hv.2.2.2.2.1 ?_
      have hHo := hH
      refine hf_put (T := et_TT) (t := 4) (ci := 2) (f := 6) (p := 79) (ty := .int) (by decide +kernel) rfl rfl rfl rfl rfl hH k_fo hi_any (fun G76 hH x76 e76 => ?_)
      have hv := hv.xs t9 hHo x76 (fun b j h => by rw [h.1, k_fo]; exact ⟨by decide, by decide⟩)
      have ht := ht.xs et_ex.rf hHo x76 (fun b j t h h2 => by rw [h2.1, k_fo] at h; cases h; exact ⟨by decide, by decide, by decide, by decide, by decide⟩)
      have e46 := (x76.2 fo 1 lt_fo (fun h => absurd h.2 (by decide))).trans e46
      have e52 := (x76.2 fo 2 lt_fo (fun h => absurd h.2 (by decide))).trans e52
      have e67 := (x76.2 fo 3 lt_fo (fun h => absurd h.2 (by decide))).trans e67
      have lt_e := Nat.lt_of_lt_of_le lt_e x76.1
      have lt_ca := Nat.lt_of_lt_of_le lt_ca x76.1
      have lt_ki := Nat.lt_of_lt_of_le lt_ki x76.1
      have lt_kn := Nat.lt_of_lt_of_le lt_kn x76.1
      have lt_fo := Nat.lt_of_lt_of_le lt_fo x76.1
      have lt_tn := Nat.lt_of_lt_of_le lt_tn x76.1
      have hX := hX.tr x76 (fun b j hb h => by first | omega | (dsimp only at h ⊢; omega) | (dsimp only at h; omega) | (dsimp only; omega))
      refine hs_iload (i := 2) (p := 80) (by decide +kernel) rfl ?_
      refine hs_if1 (c := .eq) (t := 87) (f := 83) (by decide +kernel) (show Int32.ofNat 0 = 0 by decide) ?_
      refine hs_k (x := (-1)) (p := 88) (by decide +kernel) ?_
      refine hs_istore (i := 7) (p := 90) (by decide +kernel) (Nat.le_of_ble_eq_true rfl) ?_
      refine hs_k (x := Int32.ofNat 0) (p := 91) (by decide +kernel) ?_
      refine hs_istore (i := 8) (p := 93) (by decide +kernel) (Nat.le_of_ble_eq_true rfl) ?_
      have hw9 : shW C Kd x w false (N, l, s) = true := by
        unfold shW
        rw [show decide (l < suN C Kd N x w) = true from decide_eq_true (Int32.not_le.mp c23)]
        rfl
      show et_go none (d + 20) 44 93 [some (.ref e), some (.int x), some (.int (Int32.ofNat 0)), some (.ref tn), some (.ref fo), some (.int (suN C Kd N x w)), some (.int (Int32.ofNat (if true = true then 1 else 0))), some (.int (upI false)), some (.int (Int32.ofNat 0)), none] [] _ _ _ _
      refine fd_turnL (C := C) (N := N) (wr := true) (ye := false) (m := 0) hH t9 hd9 (hv.co (fun k _ => upU_0)) ht hcl k_fo e46 e52 e67 e76 (Nat.zero_le _) (fun G9 h1 h2 h3 => ?_)
      have h8 := h G9 h1 (hX.tr h2 (fun _ _ _ hs => hs))
      unfold nxN shU at h8
      rw [hw9] at h8
      exact h8 h3
end VFA
