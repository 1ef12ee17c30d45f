section
/-! BY HAND: the pairs of a search -/
/-- a run whose start knows one field more -/
theorem et_go_c {T : List et_D} {Ks : List et_Co} {an : Nat → Nat → Option et_A} {mi d f a d2 : Nat} {ps : List et_P} {M : et_M} {lo hi : Int} {os : List et_O} {w : et_Wd} {as : List Value} {x : Int32} {Z : eg_O → Prop} (hK : ∀ q ∈ Ks, et_cv T q) (hl0 : ps.length < 100)
    (hos : et_rn T M Ks an 100000 [] none ((ps ++ [(.inl (lo, hi) : et_P)]).map (fun p => (p, none))) [(0, f, .float (UInt32.ofNat ps.length))] d mi 0 (eg_en (eg_mL mi) (et_ar 0 ps)) [] 0 0 = some os)
    (hH : et_H T w.1 w.2.2) (hd : d ≤ d2) (hl : as.length = ps.length) (hv : ∀ (i : Nat) (p : et_P) (v : Value), ps[i]? = some p → as[i]? = some v → et_v w.1 p v) (ha : as[0]? = some (.ref a)) (hlt : a < w.2.2.2) (hp : et_pl (eg_at w.2.2 a) f = some (.int x)) (h1 : lo ≤ x.toInt) (h2 : x.toInt ≤ hi)
    (hZ : ∀ o ∈ os, ∀ (w' : et_Wd) (u : eg_O), et_le M (w.1, as ++ [.int x], w.2.2) w' → et_end T w' o u → Z u) : et_go none d2 mi 0 (eg_en (eg_mL mi) as) [] w.2.2 0 0 Z := by
  have hR : ∀ (i : Nat) (v : Value), as[i]? = some v → (as ++ [.int x])[i]? = some v := fun i v hi => et_get_mono hi
  have e0 : et_eo w.1 as (ps.map (fun p => (p, none))) := ⟨by rw [List.length_map]; exact hl, fun k p dd hk => by
    rw [List.getElem?_map] at hk
    cases hp : ps[k]? with
    | none => rw [hp] at hk; cases hk
    | some p' =>
      rw [hp] at hk
      cases hk
      have hlt : k < as.length := by rw [hl]; exact (List.getElem?_eq_some_iff.mp hp).1
      exact ⟨as[k], List.getElem?_eq_getElem hlt, hv k p _ hp (List.getElem?_eq_getElem hlt), fun _ _ h => (nomatch h)⟩⟩
  have e1 : et_eo w.1 (as ++ [.int x]) ((ps ++ [(.inl (lo, hi) : et_P)]).map (fun p => (p, none))) := by
    rw [List.map_append]
    exact et_eo_mono e0 ⟨x, rfl, h1, h2⟩
  refine et_rn_ok hK 100000 _ _ _ _ _ _ _ _ _ _ _ _ hos none (w.1, as ++ [.int x], w.2.2) (eg_en (eg_mL mi) as) [] 0 0 d2 _ ⟨hH, e1, fun e he => ?_, et_lr_en (eg_mL mi) (et_ar_sr (K := w.1) (n := 0) (by omega) hl hv (fun i v hi => by rw [Nat.zero_add]; exact hR i v hi)), rfl⟩ (Nat.le_refl _) (Nat.le_refl _) hd rfl (fun _ hm => absurd hm List.not_mem_nil) hZ
  obtain rfl := List.mem_singleton.mp he
  refine ⟨a, .int x, hR 0 _ ha, hlt, hp, x, rfl, ?_⟩
  show (as ++ [Value.int x])[(UInt32.ofNat ps.length).toNat]? = _
  rw [show (UInt32.ofNat ps.length).toNat = ps.length from by rw [UInt32.toNat_ofNat']; omega, ← hl, List.getElem?_append_right (Nat.le_refl _), Nat.sub_self]
  rfl
/-- does an end's cache say that the field is what it was, or one more -/
def et_c1 (f n : Nat) (o : et_O) : Bool := (match o.2.2.1 with
  | .inl none => true
  | _ => false) && (decide (o.2.2.2.1 = 0) && decide (o.2.2.2.2 = 0)) && o.2.1.any (fun e => decide (e.1 = 0) && decide (e.2.1 = f) && (match e.2.2 with
    | .float k => decide (k.toNat = n) || (match o.1[k.toNat]? with
      | some (_, some (j, c)) => decide (j = n) && decide (c = 1)
      | _ => false)
    | _ => false))
theorem et_c1_ok {T : List et_D} {f n a : Nat} {o : et_O} {w w' : et_Wd} {M : et_M} {u : eg_O} {x : Int32} {as : List Value} (h : et_c1 f n o = true) (hle : et_le M (w.1, as ++ [.int x], w.2.2) w') (hen : et_end T w' o u) (hn : as.length = n) (ha : as[0]? = some (.ref a)) : hi_Z T w M [(.inl none, 0, 0)] u ∧ ∃ y : Int32, et_pl (eg_at u.2.1 a) f = some (.int y) ∧ (y = x ∨ y.toInt = x.toInt + 1) := by
  obtain ⟨b1, b2, b3, b4, b5, b6, b7⟩ := hen
  obtain ⟨a1, ⟨R1, aR⟩, a3⟩ := hle
  unfold et_c1 at h
  rw [Bool.and_eq_true, Bool.and_eq_true, Bool.and_eq_true] at h
  obtain ⟨⟨h1, h2, h3⟩, h4⟩ := h
  have h2 := of_decide_eq_true h2
  have h3 := of_decide_eq_true h3
  refine ⟨⟨_, List.mem_cons_self, w'.1, a1, by rw [b1]; exact a3, by rw [b1]; exact b2, ?_, by rw [← h2]; exact b6, by rw [← h3]; exact b7⟩, ?_⟩
  · obtain ⟨oE, oC, ov, oc, osk⟩ := o
    dsimp only at h1 b5 ⊢
    split at h1
    · exact b5
    · cases h1
  · obtain ⟨e, he, h5⟩ := List.any_eq_true.mp h4
    rw [Bool.and_eq_true, Bool.and_eq_true] at h5
    obtain ⟨⟨i1, i2⟩, i3⟩ := h5
    have i1 := of_decide_eq_true i1
    have i2 := of_decide_eq_true i2
    obtain ⟨a', v, c1, c2, c3, c4⟩ := b4 e he
    have hx : w'.2.1[n]? = some (.int x) := by
      rw [aR, ← hn]
      exact (List.getElem?_append_left (by rw [List.length_append]; exact Nat.lt_succ_self _)).trans (by rw [List.getElem?_append_right (Nat.le_refl _), Nat.sub_self]; rfl)
    have h0 : w'.2.1[0]? = some (.ref a) := by
      rw [aR]
      have g : (as ++ [Value.int x])[0]? = some (.ref a) := et_get_mono ha
      rw [List.getElem?_append_left (List.getElem?_eq_some_iff.mp g).1]
      exact g
    rw [i1, h0] at c1
    cases c1
    rw [i2] at c3
    split at i3
    · rename_i k ek
      rw [ek] at c4
      obtain ⟨y, rfl, c5⟩ := c4
      refine ⟨y, by rw [b1]; exact c3, ?_⟩
      rw [Bool.or_eq_true] at i3
      rcases i3 with i3 | i3
      · rw [of_decide_eq_true i3, hx] at c5
        cases c5
        exact .inl rfl
      · split at i3
        · rename_i j c hk
          rw [Bool.and_eq_true] at i3
          obtain ⟨v, g1, -, g3⟩ := b3.2 _ _ _ hk
          rw [c5] at g1
          cases g1
          obtain ⟨x', y', g4, g5, g6⟩ := g3 _ _ rfl
          cases g4
          rw [of_decide_eq_true i3.1, hx] at g5
          cases g5
          rw [of_decide_eq_true i3.2] at g6
          exact .inr g6
        · cases i3
    · cases i3

def ha_an (k pc : Nat) : Option et_A := if k = 92 then (if pc = 14 then some ([(4, .inl (0, 6))], 0, [(45, 0, 100000)], []) else none) else none
def ha_M : et_M := [(9, 5, 5), (45, 0, 100000)]
def ha_p : List et_P := [.inr (.inr (0, 9)), .inr (.inr (0, 3)), .inl (et_mn, et_mx), .inl (et_mn, et_mx)]
theorem hc_add0 : (match et_rn et_TT ha_M [] ha_an 100000 [] none ((ha_p ++ [(.inl (0, 151) : et_P)]).map (fun p => (p, none))) [(0, 5, .float (UInt32.ofNat ha_p.length))] 3 92 0 (eg_en (eg_mL 92) (et_ar 0 ha_p)) [] 0 0 with
  | none => false
  | some os => os.all (et_c1 5 4)) = true := by decide +kernel
theorem hc_addc {K : et_K} {G : eg_G} {d se ey cc : Nat} {l m : Int32} (hH : et_H et_TT K G) (hd : 3 ≤ d) (hs : K se = some 9) (he : K ey = some 3) (hp : et_pl (eg_at G se) 5 = some (.int (Int32.ofNat cc))) (h2 : cc ≤ 151) : et_go none d 92 0 (eg_en (eg_mL 92) [.ref se, .ref ey, .int l, .int m]) [] G 0 0 (fun u => hi_Z et_TT (K, [], G) ha_M [(.inl none, 0, 0)] u ∧ ∃ c2, et_pl (eg_at u.2.1 se) 5 = some (.int (Int32.ofNat c2)) ∧ c2 ≤ cc + 1) := by
  have h0 := hc_add0
  have a1 : (Int32.ofNat cc).toInt = (cc : Int) := hs_nint (by omega)
  split at h0
  · cases h0
  · rename_i os hos
    refine et_go_c (T := et_TT) (Ks := []) (an := ha_an) (ps := ha_p) (M := ha_M) (lo := 0) (hi := 151) (w := (K, [], G)) (as := [.ref se, .ref ey, .int l, .int m]) (fun _ h => absurd h List.not_mem_nil) (by decide) hos hH hd rfl (ht_ac (.inr ⟨by decide, _, rfl, hs⟩) (ht_ac (.inr ⟨by decide, _, rfl, he⟩) (ht_ac hi_any (ht_ac hi_any ht_an)))) rfl (hH.2.2 se 9 hs).1 hp (by omega) (by omega) (fun o ho w' u hle hen => ?_)
    obtain ⟨b1, y, b2, b3⟩ := et_c1_ok (List.all_eq_true.mp h0 o ho) hle hen rfl rfl
    refine ⟨b1, ?_⟩
    rcases b3 with rfl | b3
    · exact ⟨cc, b2, by omega⟩
    · refine ⟨cc + 1, ?_, Nat.le_refl _⟩
      have q : y = Int32.ofNat (cc + 1) := Int32.toInt_inj.mp (by rw [b3, a1, hs_nint (by omega)]; omega)
      rw [b2, q]
theorem hs_cbc {T : List et_D} {M : et_M} {d k pc ck sk : Nat} {L : eg_Ls} {r : List Value} {Z : eg_O → Prop} {w : et_Wd} {u : eg_O} {P : eg_G → Prop} (hu : hi_Z T w M [(.inl none, 0, 0)] u ∧ P u.2.1) (h : ∀ (K' : et_K) (G' : eg_G), et_ex w.1 K' → et_fr M w.1 w.2.2 G' → et_H T K' G' → P G' → et_go none d k (pc + 3) L r G' ck sk Z) : hs_cont d k pc L r ck sk Z u := by
  obtain ⟨⟨e, he, K', h1, h2, h3, h4, h5, h6⟩, hP⟩ := hu
  obtain rfl := List.mem_singleton.mp he
  obtain ⟨u1, u2, u3, u4⟩ := u
  have h4 : u1 = .inl none := h4
  subst h4
  obtain rfl : u3 = 0 := Nat.le_zero.mp h5
  obtain rfl : u4 = 0 := Nat.le_zero.mp h6
  exact hs_cb (h K' u2 h1 h2 h3 hP)
theorem ht_zld {T : List et_D} {K : et_K} {d k pc ck sk a t n N p : Nat} {L : eg_Ls} {r : List Value} {G : eg_G} {Z : eg_O → Prop} {ss : List (Nat × Nat × et_P)} (hc : hs_o k pc = some (.baload, p)) (hT : T[t]? = some (.inr (3, N, ss))) (hH : et_H T K G) (ha : K a = some t) (hn : n < N) (hN : N < 2147483648) (h : ∀ x : Int32, et_pl (eg_at G a) n = some (.int x) → et_go none d k p L (.int x :: r) G ck sk Z) : et_go none d k pc L (.int (Int32.ofNat n) :: .ref a :: r) G ck sk Z := by
  obtain ⟨f, e, h1, -⟩ := hi_arr hH ha hT (by omega) (.inr (.inr (.inl rfl)))
  refine hs_zald hc e (hH.2.2 a t ha).1 hN hn (h _ ?_)
  rw [e]
  show (if n < N then some (Value.int (f n)) else none) = _
  rw [if_pos hn]
def cn (Y : Nat → Bool) : Nat → Nat
  | 0 => 0
  | n + 1 => cn Y n + (if Y n = true then 1 else 0)
theorem cn_le (Y : Nat → Bool) : ∀ n, cn Y n ≤ n
  | 0 => Nat.le_refl _
  | n + 1 => by
    have := cn_le Y n
    show cn Y n + _ ≤ _
    split <;> omega
theorem cn_s (Y : Nat → Bool) (n : Nat) : cn Y (n + 1) = cn Y n + (if Y n = true then 1 else 0) := rfl
theorem cn_m (Y : Nat → Bool) {a : Nat} : ∀ {b : Nat}, a ≤ b → cn Y a ≤ cn Y b ∧ cn Y b ≤ cn Y a + (b - a)
  | 0, h => by
    obtain rfl : a = 0 := by omega
    exact ⟨Nat.le_refl _, by omega⟩
  | b + 1, h => by
    by_cases e : a = b + 1
    · subst e
      exact ⟨Nat.le_refl _, by omega⟩
    · have := cn_m Y (a := a) (b := b) (by omega)
      rw [cn_s]
      split <;> omega
theorem cn_100 : ∀ a ∈ List.range 21, ∀ b ∈ List.range 21, a + b ≤ 20 → a * b ≤ 100 := by decide +kernel
theorem hb_3 {Y : Nat → Bool} {h m0 : Nat} (hh : h ≤ m0) (hm : m0 ≤ 20) : cn Y h * (m0 - cn Y m0) ≤ 100 := by
  have a := cn_m Y hh
  have b := cn_le Y m0
  exact Nat.le_trans (Nat.mul_le_mul_right _ a.1) (cn_100 _ (List.mem_range.mpr (by omega)) _ (List.mem_range.mpr (by omega)) (by omega))
def hb_I (Y : Nat → Bool) (m0 h l cc : Nat) : Prop := cc ≤ cn Y h * (m0 - cn Y m0) + (if Y h = true then l - cn Y l else 0)
theorem hb_s {Y : Nat → Bool} {m0 h l cc : Nat} (i : hb_I Y m0 h l cc) : hb_I Y m0 h (l + 1) cc := by
  unfold hb_I at i ⊢
  have := cn_le Y l
  rw [cn_s]
  split at i <;> split <;> first | omega | (rename_i h1 h2; first | (split <;> omega) | exact absurd h1 h2 | exact absurd h2 h1)
theorem hb_n {Y : Nat → Bool} {m0 h l cc c2 : Nat} (i : hb_I Y m0 h l cc) (yh : Y h = true) (yl : ¬ Y l = true) (hc : c2 ≤ cc + 1) : hb_I Y m0 h (l + 1) c2 := by
  unfold hb_I at i ⊢
  have := cn_le Y l
  rw [if_pos yh] at i ⊢
  rw [cn_s, if_neg yl]
  omega
theorem hb_x {Y : Nat → Bool} {m0 h l cc : Nat} (i : hb_I Y m0 h l cc) (hl : l ≤ m0) : cc ≤ cn Y (h + 1) * (m0 - cn Y m0) := by
  unfold hb_I at i
  have a := cn_m Y hl
  rw [cn_s]
  split
  · rename_i y
    rw [if_pos y] at i
    rw [Nat.add_mul, Nat.one_mul]
    omega
  · rename_i y
    rw [if_neg y] at i
    exact i
theorem hb_le {Y : Nat → Bool} {m0 h l cc : Nat} (i : hb_I Y m0 h l cc) (hl : l ≤ m0) (hh : h < m0) (hm : m0 ≤ 20) : cc ≤ 100 := Nat.le_trans (hb_x i hl) (hb_3 (by omega) hm)
theorem hb_cc {a b : Nat} {v : Option Value} (e : v = some (.int (Int32.ofNat a))) (e2 : v = some (.int (Int32.ofNat b))) (h : a < 2147483648) (h2 : b < 2147483648) : a = b := by
  rw [e] at e2
  have := congrArg Int32.toInt (Value.int.inj (Option.some.inj e2))
  rw [hs_nint h, hs_nint h2] at this
  omega
def hb_M : et_M := [(9, 4, 4), (9, 5, 5), (9, 6, 6), (9, 7, 7), (9, 8, 8), (9, 9, 9), (9, 13, 13), (9, 15, 15), (9, 16, 16), (45, 0, 100000)]
def hb_Z (w : et_Wd) (se : Nat) (u : eg_O) : Prop := hi_Z et_TT w hb_M [(.inl none, 0, 0)] u ∧ ∃ cc, et_pl (eg_at u.2.1 se) 5 = some (.int (Int32.ofNat cc)) ∧ cc ≤ 100
def hb_Y (G : eg_G) (ya j : Nat) : Bool := match et_pl (eg_at G ya) j with
  | some (.int x) => decide (¬ x = 0)
  | _ => false
theorem hb_t {G : eg_G} {ya j : Nat} {x : Int32} (e : et_pl (eg_at G ya) j = some (.int x)) (h : ¬ x = 0) : hb_Y G ya j = true := by
  unfold hb_Y
  rw [e]
  exact decide_eq_true h
theorem hb_f {G : eg_G} {ya j : Nat} {x : Int32} (e : et_pl (eg_at G ya) j = some (.int x)) (h : ¬ ¬ x = 0) : ¬ hb_Y G ya j = true := by
  unfold hb_Y
  rw [e]
  exact fun h2 => h (of_decide_eq_true h2)
theorem hb_y {w : et_Wd} {G : eg_G} {st ya b j : Nat} {x : Int32} (hf : et_fr hb_M w.1 w.2.2 G) (hst : w.1 st = some 10) (h0 : et_pl (eg_at w.2.2 st) 4 = some (.ref ya)) (hya : w.1 ya = some 27) (e : et_pl (eg_at G st) 4 = some (.ref b)) (e2 : et_pl (eg_at G b) j = some (.int x)) : et_pl (eg_at w.2.2 ya) j = some (.int x) := by
  have q := (hf.2 st 10 hst 4 rfl).symm.trans e
  rw [h0] at q
  cases q
  exact (hf.2 ya 27 hya j (by
    unfold et_mm hb_M
    simp)).symm.trans e2
theorem hb_m {K : et_K} {G : eg_G} {st : Nat} (hH : et_H et_TT K G) (hs : K st = some 10) : ∃ m0 : Nat, et_pl (eg_at G st) 2 = some (.int (Int32.ofNat m0)) ∧ m0 ≤ 20 := by
  obtain ⟨-, -, -, dd, hd, hc, -⟩ := hH.2.2 st 10 hs
  cases hd
  obtain ⟨fs, ef, el, hff⟩ := hc
  obtain ⟨u, hu1, hu2⟩ := hff 2 (.inl (0, 20)) rfl
  obtain ⟨c, c1, rfl⟩ := hi_nat (hu2.resolve_left (by decide))
  rw [ef]
  exact ⟨c, hu1, by omega⟩
theorem hb_ya {K : et_K} {G : eg_G} {st : Nat} (hH : et_H et_TT K G) (hs : K st = some 10) : ∃ ya : Nat, et_pl (eg_at G st) 4 = some (.ref ya) ∧ K ya = some 27 := by
  obtain ⟨-, -, -, dd, hd, hc, -⟩ := hH.2.2 st 10 hs
  cases hd
  obtain ⟨fs, ef, el, hff⟩ := hc
  obtain ⟨u, hu1, hu2⟩ := hff 4 (.inr (.inr (0, 27))) rfl
  obtain ⟨a, rfl, ha⟩ := hi_ref (hu2.resolve_left (by decide))
  rw [ef]
  exact ⟨a, hu1, ha⟩
section RBG
variable {w : et_Wd} {K : et_K} {G : eg_G} {d se ey st ya m0 kk : Nat} {ma : Int32}
theorem hn_bI {cc : Nat} (hH : et_H et_TT K G) (hx0 : et_ex w.1 K) (hf : et_fr hb_M w.1 w.2.2 G) (k_se : K se = some 9) (k_ey : K ey = some 3) (k_st : K st = some 10) (hc5 : et_pl (eg_at G se) 5 = some (.int (Int32.ofNat cc))) (z_st : w.1 st = some 10) (hm0 : et_pl (eg_at w.2.2 st) 2 = some (.int (Int32.ofNat m0))) (hm : m0 ≤ 20) (hya0 : et_pl (eg_at w.2.2 st) 4 = some (.ref ya)) (z_ya : w.1 ya = some 27) {h l : Nat} (hh : h < m0) (hl : l ≤ m0) (hi : hb_I (hb_Y w.2.2 ya) m0 h l cc) (hO : ∀ (K : et_K) (G : eg_G) (cc : Nat) (v6 : Option Value), et_H et_TT K G → et_ex w.1 K → et_fr hb_M w.1 w.2.2 G → K se = some 9 → K ey = some 3 → K st = some 10 → et_pl (eg_at G se) 5 = some (.int (Int32.ofNat cc)) → cc ≤ cn (hb_Y w.2.2 ya) (h + 1) * (m0 - cn (hb_Y w.2.2 ya) m0) → et_go none (d + 4) 91 22 [some (.ref se), some (.ref ey), some (.ref st), some (.int ma), some (.int (Int32.ofNat kk)), some (.int (Int32.ofNat (h + 1))), v6] [] G 0 0 (hb_Z w se)) : et_go none (d + 4) 91 40 [some (.ref se), some (.ref ey), some (.ref st), some (.int ma), some (.int (Int32.ofNat kk)), some (.int (Int32.ofNat h)), some (.int (Int32.ofNat l))] [] G 0 0 (hb_Z w se) := by
  induction hmz : m0 - l using Nat.strongRecOn generalizing l cc K G with
  | _ z ih =>
    have hcl := hb_le hi hl hh hm
    refine hs_iload (i := 6) (p := 42) (by decide +kernel) rfl ?_
    refine hs_iload (i := 3) (p := 43) (by decide +kernel) rfl ?_
    refine hs_br2 (c := .ge) (t := 100) (f := 46) (by decide +kernel) (fun (c43 : ma ≤ Int32.ofNat l) => ?_) (fun (c43 : ¬ (ma ≤ Int32.ofNat l)) => ?_)
    · refine hs_iinc1 (i := 5) (p := 103) (by decide +kernel) rfl (Nat.le_of_ble_eq_true rfl) ?_
      refine hs_goto (p := 22) (by decide +kernel) ?_
      show et_go none (d + 4) 91 22 [some (.ref se), some (.ref ey), some (.ref st), some (.int ma), some (.int (Int32.ofNat kk)), some (.int (Int32.ofNat (h + 1))), some (.int (Int32.ofNat l))] [] _ 0 0 _
      exact hO _ _ _ _ hH hx0 hf k_se k_ey k_st hc5 (hb_x hi hl)
    · refine hs_iload (i := 6) (p := 48) (by decide +kernel) rfl ?_
      refine hs_aload (i := 2) (p := 49) (by decide +kernel) rfl ?_
      refine ht_getn (T := et_TT) (t := 10) (ci := 8) (f := 2) (p := 52) (by decide +kernel) rfl rfl hH k_st (fun c49 h49 e49 => ?_)
      have q49 : c49 = m0 := hb_cc ((hf.2 st 10 z_st 2 rfl).symm.trans e49) hm0 (by omega) (by omega)
      refine hs_br2n (c := .ge) (t := 100) (f := 55) (by decide +kernel) (by omega) (by omega) (fun (c52 : c49 ≤ l) => ?_) (fun (c52 : ¬ (c49 ≤ l)) => ?_)
      · refine hs_iinc1 (i := 5) (p := 103) (by decide +kernel) rfl (Nat.le_of_ble_eq_true rfl) ?_
        refine hs_goto (p := 22) (by decide +kernel) ?_
        show et_go none (d + 4) 91 22 [some (.ref se), some (.ref ey), some (.ref st), some (.int ma), some (.int (Int32.ofNat kk)), some (.int (Int32.ofNat (h + 1))), some (.int (Int32.ofNat l))] [] _ 0 0 _
        exact hO _ _ _ _ hH hx0 hf k_se k_ey k_st hc5 (hb_x hi hl)
      · refine hs_aload (i := 2) (p := 56) (by decide +kernel) rfl ?_
        refine ht_getr (T := et_TT) (t := 10) (ci := 8) (f := 4) (p := 59) (by decide +kernel) rfl rfl hH k_st (fun a56 k_a56 e56 => ?_)
        refine hs_iload (i := 5) (p := 61) (by decide +kernel) rfl ?_
        refine ht_zld (T := et_TT) (t := 27) (N := 20) (p := 62) (by decide +kernel) rfl hH k_a56 (by omega) (by decide) (fun x61 s61 => ?_)
        have y61 := hb_y hf z_st hya0 z_ya e56 s61
        refine hs_br1 (c := .eq) (t := 94) (f := 65) (by decide +kernel) (fun (c62 : x61 = 0) => ?_) (fun (c62 : ¬ (x61 = 0)) => ?_)
        · refine hs_iinc1 (i := 6) (p := 97) (by decide +kernel) rfl (Nat.le_of_ble_eq_true rfl) ?_
          refine hs_goto (p := 40) (by decide +kernel) ?_
          show et_go none (d + 4) 91 40 [some (.ref se), some (.ref ey), some (.ref st), some (.int ma), some (.int (Int32.ofNat kk)), some (.int (Int32.ofNat h)), some (.int (Int32.ofNat (l + 1)))] [] _ 0 0 _
          exact ih (m0 - (l + 1)) (by omega) hH hx0 hf k_se k_ey k_st hc5 (by omega) (hb_s hi) rfl
        · have yh := hb_t y61 c62
          refine hs_aload (i := 2) (p := 66) (by decide +kernel) rfl ?_
          refine ht_getr (T := et_TT) (t := 10) (ci := 8) (f := 4) (p := 69) (by decide +kernel) rfl rfl hH k_st (fun a66 k_a66 e66 => ?_)
          refine hs_iload (i := 6) (p := 71) (by decide +kernel) rfl ?_
          refine ht_zld (T := et_TT) (t := 27) (N := 20) (p := 72) (by decide +kernel) rfl hH k_a66 (by omega) (by decide) (fun x71 s71 => ?_)
          have y71 := hb_y hf z_st hya0 z_ya e66 s71
          refine hs_br1 (c := .ne) (t := 94) (f := 75) (by decide +kernel) (fun (c72 : ¬ x71 = 0) => ?_) (fun (c72 : ¬ (¬ x71 = 0)) => ?_)
          · refine hs_iinc1 (i := 6) (p := 97) (by decide +kernel) rfl (Nat.le_of_ble_eq_true rfl) ?_
            refine hs_goto (p := 40) (by decide +kernel) ?_
            show et_go none (d + 4) 91 40 [some (.ref se), some (.ref ey), some (.ref st), some (.int ma), some (.int (Int32.ofNat kk)), some (.int (Int32.ofNat h)), some (.int (Int32.ofNat (l + 1)))] [] _ 0 0 _
            exact ih (m0 - (l + 1)) (by omega) hH hx0 hf k_se k_ey k_st hc5 (by omega) (hb_s hi) rfl
          · have yl := hb_f y71 c72
            refine hs_aload (i := 0) (p := 76) (by decide +kernel) rfl ?_
            refine hs_aload (i := 1) (p := 77) (by decide +kernel) rfl ?_
            refine hs_aload (i := 2) (p := 78) (by decide +kernel) rfl ?_
            refine ht_getr (T := et_TT) (t := 10) (ci := 8) (f := 3) (p := 81) (by decide +kernel) rfl rfl hH k_st (fun a78 k_a78 e78 => ?_)
            refine hs_iload (i := 5) (p := 83) (by decide +kernel) rfl ?_
            refine ht_ild (T := et_TT) (t := 17) (N := 20) (p := 84) (by decide +kernel) rfl hH k_a78 (by omega) (by decide) (fun x83 s83 e83 => ?_)
            refine hs_aload (i := 2) (p := 85) (by decide +kernel) rfl ?_
            refine ht_getr (T := et_TT) (t := 10) (ci := 8) (f := 3) (p := 88) (by decide +kernel) rfl rfl hH k_st (fun a85 k_a85 e85 => ?_)
            refine hs_iload (i := 6) (p := 90) (by decide +kernel) rfl ?_
            refine ht_ild (T := et_TT) (t := 17) (N := 20) (p := 91) (by decide +kernel) rfl hH k_a85 (by omega) (by decide) (fun x90 s90 e90 => ?_)
            refine ht_callv (T := et_TT) (t := 9) (mi := 92) (na := 3) (ci := 7) (lk := 7) (lm := 5) (L0 := eg_en (eg_mL 92) [.ref se, .ref ey, .int x83, .int x90]) (by decide +kernel) rfl hH k_se rfl rfl rfl rfl rfl (by rw [show eg_mL 92 = 5 from by decide +kernel]; first | done | rfl) ?_
            refine (hc_addc hH (by omega) k_se k_ey hc5 (by omega)).mono (fun u hu => hs_cbc (P := fun G => ∃ c2, et_pl (eg_at G se) 5 = some (.int (Int32.ofNat c2)) ∧ c2 ≤ cc + 1) hu (fun K91 G91 x91 f91 hH hc2 => ?_))
            have k_se := x91 _ _ k_se
            have k_ey := x91 _ _ k_ey
            have k_st := x91 _ _ k_st
            have k_a56 := x91 _ _ k_a56
            have k_a66 := x91 _ _ k_a66
            have k_a78 := x91 _ _ k_a78
            have k_a85 := x91 _ _ k_a85
            have hf := hf.tr hx0 (f91.wk (by decide +kernel))
            have hx0 := hx0.tr x91
            obtain ⟨c2, hc5, hc2⟩ := hc2
            show et_go none _ 91 94 _ [] _ 0 0 _
            refine hs_iinc1 (i := 6) (p := 97) (by decide +kernel) rfl (Nat.le_of_ble_eq_true rfl) ?_
            refine hs_goto (p := 40) (by decide +kernel) ?_
            show et_go none (d + 4) 91 40 [some (.ref se), some (.ref ey), some (.ref st), some (.int ma), some (.int (Int32.ofNat kk)), some (.int (Int32.ofNat h)), some (.int (Int32.ofNat (l + 1)))] [] _ 0 0 _
            exact ih (m0 - (l + 1)) (by omega) hH hx0 hf k_se k_ey k_st hc5 (by omega) (hb_n hi yh yl hc2) rfl
theorem hn_bO {cc : Nat} {v6 : Option Value} (hH : et_H et_TT K G) (hx0 : et_ex w.1 K) (hf : et_fr hb_M w.1 w.2.2 G) (k_se : K se = some 9) (k_ey : K ey = some 3) (k_st : K st = some 10) (hc5 : et_pl (eg_at G se) 5 = some (.int (Int32.ofNat cc))) (z_st : w.1 st = some 10) (hm0 : et_pl (eg_at w.2.2 st) 2 = some (.int (Int32.ofNat m0))) (hm : m0 ≤ 20) (hya0 : et_pl (eg_at w.2.2 st) 4 = some (.ref ya)) (z_ya : w.1 ya = some 27) {h : Nat} (hh : h ≤ m0) (hi : cc ≤ cn (hb_Y w.2.2 ya) h * (m0 - cn (hb_Y w.2.2 ya) m0)) : et_go none (d + 4) 91 22 [some (.ref se), some (.ref ey), some (.ref st), some (.int ma), some (.int (Int32.ofNat kk)), some (.int (Int32.ofNat h)), v6] [] G 0 0 (hb_Z w se) := by
  induction hmz : m0 - h using Nat.strongRecOn generalizing h cc v6 K G with
  | _ z ih =>
    have hcl := Nat.le_trans hi (hb_3 hh hm)
    refine hs_iload (i := 5) (p := 24) (by decide +kernel) rfl ?_
    refine hs_iload (i := 3) (p := 25) (by decide +kernel) rfl ?_
    refine hs_br2 (c := .ge) (t := 106) (f := 28) (by decide +kernel) (fun (c25 : ma ≤ Int32.ofNat h) => ?_) (fun (c25 : ¬ (ma ≤ Int32.ofNat h)) => ?_)
    · refine hs_aload (i := 0) (p := 107) (by decide +kernel) rfl ?_
      refine hs_aload (i := 0) (p := 108) (by decide +kernel) rfl ?_
      refine ht_getn (T := et_TT) (t := 9) (ci := 7) (f := 5) (p := 111) (by decide +kernel) rfl rfl hH k_se (fun c108 h108 e108 => ?_)
      have q108 : c108 = cc := hb_cc e108 hc5 (by omega) (by omega)
      refine ht_put (M := [(9, 4, 4)]) (T := et_TT) (t := 9) (ci := 7) (f := 4) (p := 114) (ty := .int) (by decide +kernel) rfl rfl rfl rfl rfl (by decide +kernel) hH k_se (hi_nv (by omega) (by omega)) (fun G111 hH f111 e111 => ?_)
      have hf := hf.tr hx0 (f111.wk (by decide +kernel))
      have hc5 := (f111.2 se 9 k_se 5 rfl).trans hc5
      refine hs_aload (i := 0) (p := 115) (by decide +kernel) rfl ?_
      refine hs_k (x := Int32.ofNat 0) (p := 116) (by decide +kernel) ?_
      refine ht_put (M := [(9, 8, 8)]) (T := et_TT) (t := 9) (ci := 7) (f := 8) (p := 119) (ty := .boolean) (by decide +kernel) rfl rfl rfl (by decide +kernel) rfl (by decide +kernel) hH k_se (hi_nv (by omega) (by omega)) (fun G116 hH f116 e116 => ?_)
      have hf := hf.tr hx0 (f116.wk (by decide +kernel))
      have hc5 := (f116.2 se 9 k_se 5 rfl).trans hc5
      refine hs_aload (i := 0) (p := 120) (by decide +kernel) rfl ?_
      refine hs_k (x := Int32.ofNat 0) (p := 121) (by decide +kernel) ?_
      refine ht_put (M := [(9, 9, 9)]) (T := et_TT) (t := 9) (ci := 7) (f := 9) (p := 124) (ty := .boolean) (by decide +kernel) rfl rfl rfl (by decide +kernel) rfl (by decide +kernel) hH k_se (hi_nv (by omega) (by omega)) (fun G121 hH f121 e121 => ?_)
      have hf := hf.tr hx0 (f121.wk (by decide +kernel))
      have hc5 := (f121.2 se 9 k_se 5 rfl).trans hc5
      refine hs_aload (i := 0) (p := 125) (by decide +kernel) rfl ?_
      refine hs_k (x := Int32.ofNat 0) (p := 126) (by decide +kernel) ?_
      refine ht_put (M := [(9, 13, 13)]) (T := et_TT) (t := 9) (ci := 7) (f := 13) (p := 129) (ty := .boolean) (by decide +kernel) rfl rfl rfl (by decide +kernel) rfl (by decide +kernel) hH k_se (hi_nv (by omega) (by omega)) (fun G126 hH f126 e126 => ?_)
      have hf := hf.tr hx0 (f126.wk (by decide +kernel))
      have hc5 := (f126.2 se 9 k_se 5 rfl).trans hc5
      refine hs_aload (i := 0) (p := 130) (by decide +kernel) rfl ?_
      refine hs_kld (v := Value.int (Int32.ofNat 1073741824)) (p := 132) (by decide +kernel) ?_
      refine ht_put (M := [(9, 15, 15)]) (T := et_TT) (t := 9) (ci := 7) (f := 15) (p := 135) (ty := .int) (by decide +kernel) rfl rfl rfl rfl rfl (by decide +kernel) hH k_se hi_any (fun G132 hH f132 e132 => ?_)
      have hf := hf.tr hx0 (f132.wk (by decide +kernel))
      have hc5 := (f132.2 se 9 k_se 5 rfl).trans hc5
      refine hs_aload (i := 0) (p := 136) (by decide +kernel) rfl ?_
      refine hs_k (x := Int32.ofNat 0) (p := 137) (by decide +kernel) ?_
      refine ht_put (M := [(9, 16, 16)]) (T := et_TT) (t := 9) (ci := 7) (f := 16) (p := 140) (ty := .int) (by decide +kernel) rfl rfl rfl rfl rfl (by decide +kernel) hH k_se hi_any (fun G137 hH f137 e137 => ?_)
      have hf := hf.tr hx0 (f137.wk (by decide +kernel))
      have hc5 := (f137.2 se 9 k_se 5 rfl).trans hc5
      refine hs_vret (by decide +kernel) ?_
      exact ⟨⟨_, List.mem_cons_self, _, hx0, hf, hH, rfl, Nat.le_refl _, Nat.le_refl _⟩, _, hc5, hcl⟩
    · refine hs_iload (i := 5) (p := 30) (by decide +kernel) rfl ?_
      refine hs_aload (i := 2) (p := 31) (by decide +kernel) rfl ?_
      refine ht_getn (T := et_TT) (t := 10) (ci := 8) (f := 2) (p := 34) (by decide +kernel) rfl rfl hH k_st (fun c31 h31 e31 => ?_)
      have q31 : c31 = m0 := hb_cc ((hf.2 st 10 z_st 2 rfl).symm.trans e31) hm0 (by omega) (by omega)
      refine hs_br2n (c := .ge) (t := 106) (f := 37) (by decide +kernel) (by omega) (by omega) (fun (c34 : c31 ≤ h) => ?_) (fun (c34 : ¬ (c31 ≤ h)) => ?_)
      · refine hs_aload (i := 0) (p := 107) (by decide +kernel) rfl ?_
        refine hs_aload (i := 0) (p := 108) (by decide +kernel) rfl ?_
        refine ht_getn (T := et_TT) (t := 9) (ci := 7) (f := 5) (p := 111) (by decide +kernel) rfl rfl hH k_se (fun c108 h108 e108 => ?_)
        have q108 : c108 = cc := hb_cc e108 hc5 (by omega) (by omega)
        refine ht_put (M := [(9, 4, 4)]) (T := et_TT) (t := 9) (ci := 7) (f := 4) (p := 114) (ty := .int) (by decide +kernel) rfl rfl rfl rfl rfl (by decide +kernel) hH k_se (hi_nv (by omega) (by omega)) (fun G111 hH f111 e111 => ?_)
        have hf := hf.tr hx0 (f111.wk (by decide +kernel))
        have hc5 := (f111.2 se 9 k_se 5 rfl).trans hc5
        refine hs_aload (i := 0) (p := 115) (by decide +kernel) rfl ?_
        refine hs_k (x := Int32.ofNat 0) (p := 116) (by decide +kernel) ?_
        refine ht_put (M := [(9, 8, 8)]) (T := et_TT) (t := 9) (ci := 7) (f := 8) (p := 119) (ty := .boolean) (by decide +kernel) rfl rfl rfl (by decide +kernel) rfl (by decide +kernel) hH k_se (hi_nv (by omega) (by omega)) (fun G116 hH f116 e116 => ?_)
        have hf := hf.tr hx0 (f116.wk (by decide +kernel))
        have hc5 := (f116.2 se 9 k_se 5 rfl).trans hc5
        refine hs_aload (i := 0) (p := 120) (by decide +kernel) rfl ?_
        refine hs_k (x := Int32.ofNat 0) (p := 121) (by decide +kernel) ?_
        refine ht_put (M := [(9, 9, 9)]) (T := et_TT) (t := 9) (ci := 7) (f := 9) (p := 124) (ty := .boolean) (by decide +kernel) rfl rfl rfl (by decide +kernel) rfl (by decide +kernel) hH k_se (hi_nv (by omega) (by omega)) (fun G121 hH f121 e121 => ?_)
        have hf := hf.tr hx0 (f121.wk (by decide +kernel))
        have hc5 := (f121.2 se 9 k_se 5 rfl).trans hc5
        refine hs_aload (i := 0) (p := 125) (by decide +kernel) rfl ?_
        refine hs_k (x := Int32.ofNat 0) (p := 126) (by decide +kernel) ?_
        refine ht_put (M := [(9, 13, 13)]) (T := et_TT) (t := 9) (ci := 7) (f := 13) (p := 129) (ty := .boolean) (by decide +kernel) rfl rfl rfl (by decide +kernel) rfl (by decide +kernel) hH k_se (hi_nv (by omega) (by omega)) (fun G126 hH f126 e126 => ?_)
        have hf := hf.tr hx0 (f126.wk (by decide +kernel))
        have hc5 := (f126.2 se 9 k_se 5 rfl).trans hc5
        refine hs_aload (i := 0) (p := 130) (by decide +kernel) rfl ?_
        refine hs_kld (v := Value.int (Int32.ofNat 1073741824)) (p := 132) (by decide +kernel) ?_
        refine ht_put (M := [(9, 15, 15)]) (T := et_TT) (t := 9) (ci := 7) (f := 15) (p := 135) (ty := .int) (by decide +kernel) rfl rfl rfl rfl rfl (by decide +kernel) hH k_se hi_any (fun G132 hH f132 e132 => ?_)
        have hf := hf.tr hx0 (f132.wk (by decide +kernel))
        have hc5 := (f132.2 se 9 k_se 5 rfl).trans hc5
        refine hs_aload (i := 0) (p := 136) (by decide +kernel) rfl ?_
        refine hs_k (x := Int32.ofNat 0) (p := 137) (by decide +kernel) ?_
        refine ht_put (M := [(9, 16, 16)]) (T := et_TT) (t := 9) (ci := 7) (f := 16) (p := 140) (ty := .int) (by decide +kernel) rfl rfl rfl rfl rfl (by decide +kernel) hH k_se hi_any (fun G137 hH f137 e137 => ?_)
        have hf := hf.tr hx0 (f137.wk (by decide +kernel))
        have hc5 := (f137.2 se 9 k_se 5 rfl).trans hc5
        refine hs_vret (by decide +kernel) ?_
        exact ⟨⟨_, List.mem_cons_self, _, hx0, hf, hH, rfl, Nat.le_refl _, Nat.le_refl _⟩, _, hc5, hcl⟩
      · refine hs_k (x := Int32.ofNat 0) (p := 38) (by decide +kernel) ?_
        refine hs_istore (i := 6) (p := 40) (by decide +kernel) (Nat.le_of_ble_eq_true rfl) ?_
        show et_go none (d + 4) 91 40 [some (.ref se), some (.ref ey), some (.ref st), some (.int ma), some (.int (Int32.ofNat kk)), some (.int (Int32.ofNat h)), some (.int (Int32.ofNat 0))] [] _ 0 0 _
        exact hn_bI hH hx0 hf k_se k_ey k_st hc5 z_st hm0 hm hya0 z_ya (by omega) (Nat.zero_le _) (Nat.le_trans hi (Nat.le_add_right _ _)) (fun K G cc v6 a1 a2 a3 a4 a5 a6 a7 a8 => ih (m0 - (h + 1)) (by omega) a1 a2 a3 a4 a5 a6 a7 (by omega) a8 rfl)
theorem hc_beginx {w : et_Wd} {d2 se ey st kk : Nat} {ma : Int32} (hH : et_H et_TT w.1 w.2.2) (hd : 4 ≤ d2) (k_se : w.1 se = some 9) (k_ey : w.1 ey = some 3) (k_st : w.1 st = some 10) (hkk : (kk : Int) ≤ 3) : et_go none d2 91 0 (eg_en (eg_mL 91) [.ref se, .ref ey, .ref st, .int ma, .int (Int32.ofNat kk)]) [] w.2.2 0 0 (hb_Z w se) := by
  obtain ⟨d, rfl⟩ : ∃ d, d2 = d + 4 := ⟨d2 - 4, by omega⟩
  have z_st := k_st
  obtain ⟨m0, hm0, hm⟩ := hb_m hH k_st
  obtain ⟨ya, hya0, z_ya⟩ := hb_ya hH k_st
  have hx0 : et_ex w.1 w.1 := et_ex.rf
  have hf : et_fr hb_M w.1 w.2.2 w.2.2 := et_fr.rf
  rw [show eg_mL 91 = 7 from by decide +kernel]
  show et_go none (d + 4) 91 0 [some (.ref se), some (.ref ey), some (.ref st), some (.int ma), some (.int (Int32.ofNat kk)), none, none] [] w.2.2 0 0 (hb_Z w se)
  refine hs_aload (i := 0) (p := 1) (by decide +kernel) rfl ?_
  refine hs_aload (i := 1) (p := 2) (by decide +kernel) rfl ?_
  refine ht_getn (T := et_TT) (t := 3) (ci := 1) (f := 0) (p := 5) (by decide +kernel) rfl rfl hH k_ey (fun c2 h2 e2 => ?_)
  refine ht_put (M := [(9, 6, 6)]) (T := et_TT) (t := 9) (ci := 7) (f := 6) (p := 8) (ty := .int) (by decide +kernel) rfl rfl rfl rfl rfl (by decide +kernel) hH k_se (hi_nv (by omega) (by omega)) (fun G5 hH f5 e5 => ?_)
  have hf := hf.tr hx0 (f5.wk (by decide +kernel))
  refine hs_aload (i := 0) (p := 9) (by decide +kernel) rfl ?_
  refine hs_iload (i := 4) (p := 11) (by decide +kernel) rfl ?_
  refine ht_put (M := [(9, 7, 7)]) (T := et_TT) (t := 9) (ci := 7) (f := 7) (p := 14) (ty := .int) (by decide +kernel) rfl rfl rfl rfl rfl (by decide +kernel) hH k_se (hi_nv (by omega) (by omega)) (fun G11 hH f11 e11 => ?_)
  have hf := hf.tr hx0 (f11.wk (by decide +kernel))
  refine hs_aload (i := 0) (p := 15) (by decide +kernel) rfl ?_
  refine hs_k (x := Int32.ofNat 0) (p := 16) (by decide +kernel) ?_
  refine ht_put (M := [(9, 5, 5)]) (T := et_TT) (t := 9) (ci := 7) (f := 5) (p := 19) (ty := .int) (by decide +kernel) rfl rfl rfl rfl rfl (by decide +kernel) hH k_se (hi_nv (by omega) (by omega)) (fun G16 hH f16 e16 => ?_)
  have hf := hf.tr hx0 (f16.wk (by decide +kernel))
  refine hs_k (x := Int32.ofNat 0) (p := 20) (by decide +kernel) ?_
  refine hs_istore (i := 5) (p := 22) (by decide +kernel) (Nat.le_of_ble_eq_true rfl) ?_
  show et_go none (d + 4) 91 22 [some (.ref se), some (.ref ey), some (.ref st), some (.int ma), some (.int (Int32.ofNat kk)), some (.int (Int32.ofNat 0)), none] [] _ 0 0 _
  exact hn_bO (cc := 0) hH hx0 hf k_se k_ey k_st e16 z_st hm0 hm hya0 z_ya (Nat.zero_le _) (Nat.zero_le _)
theorem hc_begin : et_cv et_TT hq_begin := by
  intro w as d2 hH hd hl hv
  obtain ⟨v, v1, v2, v3, v4, rfl⟩ := hi_len5 (show as.length = 5 from hl)
  obtain ⟨se, rfl, k_se⟩ := hi_ref (hv 0 _ _ rfl rfl)
  obtain ⟨ey, rfl, k_ey⟩ := hi_ref (hv 1 _ _ rfl rfl)
  obtain ⟨st, rfl, k_st⟩ := hi_ref (hv 2 _ _ rfl rfl)
  obtain ⟨ma, rfl, -, -⟩ := hi_int (hv 3 _ _ rfl rfl)
  obtain ⟨kk, hkk, rfl⟩ := hi_nat (hv 4 _ _ rfl rfl)
  exact (hc_beginx hH hd k_se k_ey k_st hkk).mono (fun u hu => hu.1)
end RBG
end
section
/-! BY HAND: Search.addCards, each -/
def wc (Y : Nat → Bool) (b n : Nat) : Nat := if b = 1 then cn Y n else n - cn Y n
theorem wc_s (Y : Nat → Bool) (b n : Nat) : wc Y b n ≤ wc Y b (n + 1) := by
  unfold wc
  have := cn_le Y n
  rw [cn_s]
  split <;> split <;> omega
theorem wc_m {Y : Nat → Bool} {b n m : Nat} (h : n ≤ m) : wc Y b n ≤ wc Y b m := by
  unfold wc
  have a := cn_m Y h
  have := cn_le Y n
  split <;> omega
theorem wc_a {G : eg_G} {ya b n : Nat} {x : Int32} (hb : b = 0 ∨ b = 1) (e : et_pl (eg_at G ya) n = some (.int x)) (h : ¬ ¬ x = Int32.ofNat b) : wc (hb_Y G ya) b (n + 1) = wc (hb_Y G ya) b n + 1 := by
  have hx : x = Int32.ofNat b := Decidable.not_not.mp h
  have := cn_le (hb_Y G ya) n
  unfold wc
  rw [cn_s]
  rcases hb with rfl | rfl
  · have := hb_f e (fun h => h hx)
    rw [if_neg this, if_neg (by decide), if_neg (by decide)]
    omega
  · have := hb_t e (by rw [hx]; decide)
    rw [if_pos this, if_pos rfl, if_pos rfl]
theorem wc_t (Y : Nat → Bool) (m : Nat) : wc Y 1 m + wc Y 0 m = m := by
  have := cn_le Y m
  unfold wc
  rw [if_pos rfl, if_neg (by decide)]
  omega
def hb_W (w : et_Wd) (se ya m0 b cc : Nat) (u : eg_O) : Prop := hi_Z et_TT w ha_M [(.inl none, 0, 0)] u ∧ ∃ c2, et_pl (eg_at u.2.1 se) 5 = some (.int (Int32.ofNat c2)) ∧ c2 ≤ cc + wc (hb_Y w.2.2 ya) b m0
section RAC
variable {w : et_Wd} {K : et_K} {G : eg_G} {d se ey st ya m0 b c0 : Nat}
theorem hn_ac {cc : Nat} (hH : et_H et_TT K G) (hx0 : et_ex w.1 K) (hf : et_fr ha_M w.1 w.2.2 G) (k_se : K se = some 9) (k_ey : K ey = some 3) (k_st : K st = some 10) (hc5 : et_pl (eg_at G se) 5 = some (.int (Int32.ofNat cc))) (z_st : w.1 st = some 10) (hm0 : et_pl (eg_at w.2.2 st) 2 = some (.int (Int32.ofNat m0))) (hm : m0 ≤ 20) (hya0 : et_pl (eg_at w.2.2 st) 4 = some (.ref ya)) (z_ya : w.1 ya = some 27) {h : Nat} (hh : h ≤ m0) (hb : b = 0 ∨ b = 1) (h0 : c0 ≤ 120) (hi : cc ≤ c0 + wc (hb_Y w.2.2 ya) b h) : et_go none (d + 4) 100 3 [some (.ref se), some (.ref ey), some (.ref st), some (.int (Int32.ofNat b)), some (.int (Int32.ofNat h))] [] G 0 0 (hb_W w se ya m0 b c0) := by
  induction hmz : m0 - h using Nat.strongRecOn generalizing h cc K G with
  | _ z ih =>
    have hcl : cc ≤ c0 + wc (hb_Y w.2.2 ya) b m0 := Nat.le_trans hi (Nat.add_le_add_left (wc_m hh) _)
    have hcb : wc (hb_Y w.2.2 ya) b m0 ≤ 20 := by
      have q := cn_le (hb_Y w.2.2 ya) m0
      unfold wc
      split <;> omega
    refine hs_iload (i := 4) (p := 5) (by decide +kernel) rfl ?_
    refine hs_aload (i := 2) (p := 6) (by decide +kernel) rfl ?_
    refine ht_getn (T := et_TT) (t := 10) (ci := 8) (f := 2) (p := 9) (by decide +kernel) rfl rfl hH k_st (fun c6 h6 e6 => ?_)
    have q6 : c6 = m0 := hb_cc ((hf.2 st 10 z_st 2 rfl).symm.trans e6) hm0 (by omega) (by omega)
    refine hs_br2n (c := .ge) (t := 42) (f := 12) (by decide +kernel) (by omega) (by omega) (fun (c9 : c6 ≤ h) => ?_) (fun (c9 : ¬ (c6 ≤ h)) => ?_)
    · refine hs_vret (by decide +kernel) ?_
      exact ⟨⟨_, List.mem_cons_self, _, hx0, hf, hH, rfl, Nat.le_refl _, Nat.le_refl _⟩, _, hc5, hcl⟩
    · refine hs_aload (i := 2) (p := 13) (by decide +kernel) rfl ?_
      refine ht_getr (T := et_TT) (t := 10) (ci := 8) (f := 4) (p := 16) (by decide +kernel) rfl rfl hH k_st (fun a13 k_a13 e13 => ?_)
      refine hs_iload (i := 4) (p := 18) (by decide +kernel) rfl ?_
      refine ht_zld (T := et_TT) (t := 27) (N := 20) (p := 19) (by decide +kernel) rfl hH k_a13 (by omega) (by decide) (fun x18 s18 => ?_)
      have y18 := hb_y (hf.wk (N := hb_M) (by decide +kernel)) z_st hya0 z_ya e13 s18
      refine hs_iload (i := 3) (p := 20) (by decide +kernel) rfl ?_
      refine hs_br2 (c := .ne) (t := 36) (f := 23) (by decide +kernel) (fun (c20 : ¬ x18 = Int32.ofNat b) => ?_) (fun (c20 : ¬ (¬ x18 = Int32.ofNat b)) => ?_)
      · refine hs_iinc1 (i := 4) (p := 39) (by decide +kernel) rfl (Nat.le_of_ble_eq_true rfl) ?_
        refine hs_goto (p := 3) (by decide +kernel) ?_
        show et_go none (d + 4) 100 3 [some (.ref se), some (.ref ey), some (.ref st), some (.int (Int32.ofNat b)), some (.int (Int32.ofNat (h + 1)))] [] _ 0 0 _
        exact ih (m0 - (h + 1)) (by omega) hH hx0 hf k_se k_ey k_st hc5 (by omega) (Nat.le_trans hi (Nat.add_le_add_left (wc_s _ _ _) _)) rfl
      · refine hs_aload (i := 0) (p := 24) (by decide +kernel) rfl ?_
        refine hs_aload (i := 1) (p := 25) (by decide +kernel) rfl ?_
        refine hs_aload (i := 2) (p := 26) (by decide +kernel) rfl ?_
        refine ht_getr (T := et_TT) (t := 10) (ci := 8) (f := 3) (p := 29) (by decide +kernel) rfl rfl hH k_st (fun a26 k_a26 e26 => ?_)
        refine hs_iload (i := 4) (p := 31) (by decide +kernel) rfl ?_
        refine ht_ild (T := et_TT) (t := 17) (N := 20) (p := 32) (by decide +kernel) rfl hH k_a26 (by omega) (by decide) (fun x31 s31 e31 => ?_)
        refine hs_k (x := Int32.ofNat 0) (p := 33) (by decide +kernel) ?_
        refine ht_callv (T := et_TT) (t := 9) (mi := 92) (na := 3) (ci := 7) (lk := 5) (lm := 5) (L0 := eg_en (eg_mL 92) [.ref se, .ref ey, .int x31, .int (Int32.ofNat 0)]) (by decide +kernel) rfl hH k_se rfl rfl rfl rfl rfl (by rw [show eg_mL 92 = 5 from by decide +kernel]; first | done | rfl) ?_
        refine (hc_addc hH (by omega) k_se k_ey hc5 (by omega)).mono (fun u hu => hs_cbc (P := fun G => ∃ c2, et_pl (eg_at G se) 5 = some (.int (Int32.ofNat c2)) ∧ c2 ≤ cc + 1) hu (fun K33 G33 x33 f33 hH hc2 => ?_))
        have k_se := x33 _ _ k_se
        have k_ey := x33 _ _ k_ey
        have k_st := x33 _ _ k_st
        have k_a13 := x33 _ _ k_a13
        have k_a26 := x33 _ _ k_a26
        have hf := hf.tr hx0 (f33.wk (by decide +kernel))
        have hx0 := hx0.tr x33
        obtain ⟨c2, hc5, hc2⟩ := hc2
        show et_go none _ 100 36 _ [] _ 0 0 _
        refine hs_iinc1 (i := 4) (p := 39) (by decide +kernel) rfl (Nat.le_of_ble_eq_true rfl) ?_
        refine hs_goto (p := 3) (by decide +kernel) ?_
        show et_go none (d + 4) 100 3 [some (.ref se), some (.ref ey), some (.ref st), some (.int (Int32.ofNat b)), some (.int (Int32.ofNat (h + 1)))] [] _ 0 0 _
        exact ih (m0 - (h + 1)) (by omega) hH hx0 hf k_se k_ey k_st hc5 (by omega) (by rw [wc_a hb y18 c20]; omega) rfl
theorem hc_ac {d2 : Nat} (hH : et_H et_TT w.1 w.2.2) (hd : 4 ≤ d2) (k_se : w.1 se = some 9) (k_ey : w.1 ey = some 3) (k_st : w.1 st = some 10) (hc5 : et_pl (eg_at w.2.2 se) 5 = some (.int (Int32.ofNat c0))) (hm0 : et_pl (eg_at w.2.2 st) 2 = some (.int (Int32.ofNat m0))) (hm : m0 ≤ 20) (hya0 : et_pl (eg_at w.2.2 st) 4 = some (.ref ya)) (z_ya : w.1 ya = some 27) (hb : b = 0 ∨ b = 1) (h0 : c0 ≤ 120) : et_go none d2 100 0 (eg_en (eg_mL 100) [.ref se, .ref ey, .ref st, .int (Int32.ofNat b)]) [] w.2.2 0 0 (hb_W w se ya m0 b c0) := by
  obtain ⟨d, rfl⟩ : ∃ d, d2 = d + 4 := ⟨d2 - 4, by omega⟩
  rw [show eg_mL 100 = 5 from by decide +kernel]
  show et_go none (d + 4) 100 0 [some (.ref se), some (.ref ey), some (.ref st), some (.int (Int32.ofNat b)), none] [] w.2.2 0 0 (hb_W w se ya m0 b c0)
  refine hs_k (x := Int32.ofNat 0) (p := 1) (by decide +kernel) ?_
  refine hs_istore (i := 4) (p := 3) (by decide +kernel) (Nat.le_of_ble_eq_true rfl) ?_
  exact hn_ac hH et_ex.rf et_fr.rf k_se k_ey k_st hc5 k_st hm0 hm hya0 z_ya (Nat.zero_le _) hb h0 (Nat.le_add_right _ _)
end RAC
end
section
/-! BY HAND: Search.each -/
theorem et_pok {T : List et_D} {Ks : List et_Co} {an : Nat → Nat → Option et_A} {mi d d2 pc : Nat} {ps : List et_P} {M : et_M} {es : List ((Option et_P ⊕ Nat) × Nat × Nat)} {w : et_Wd} {as : List Value} (hK : ∀ q ∈ Ks, et_cv T q) (hl0 : ps.length < 100) (h : (match et_rn T M Ks an 100000 [] none (ps.map (fun p => (p, none))) [] d mi pc (eg_en (eg_mL mi) (et_ar 0 ps)) [] 0 0 with
    | none => false
    | some os => os.all (fun o => es.any (et_fe o))) = true) (hH : et_H T w.1 w.2.2) (hd : d ≤ d2) (hl : as.length = ps.length) (hv : ∀ (i : Nat) (p : et_P) (v : Value), ps[i]? = some p → as[i]? = some v → et_v w.1 p v) : et_go none d2 mi pc (eg_en (eg_mL mi) as) [] w.2.2 0 0 (hi_Z T w M es) := by
  split at h
  · cases h
  · rename_i os hos
    refine et_rn_ok hK 100000 _ _ _ _ _ _ _ _ _ _ _ _ hos none (w.1, as, w.2.2) (eg_en (eg_mL mi) as) [] 0 0 d2 _ ⟨hH, ⟨by rw [List.length_map]; exact hl, fun k p dd hk => ?_⟩, fun e he => (nomatch he), et_lr_en (eg_mL mi) (et_ar_sr (K := w.1) (n := 0) (by omega) hl hv (fun i v hi => by rw [Nat.zero_add]; exact hi)), rfl⟩ (Nat.le_refl _) (Nat.le_refl _) hd rfl (fun _ hm => absurd hm List.not_mem_nil) (fun o ho w' u hle hen => ?_)
    · rw [List.getElem?_map] at hk
      cases hp : ps[k]? with
      | none => rw [hp] at hk; cases hk
      | some p' =>
        rw [hp] at hk
        cases hk
        have hlt : k < as.length := by rw [hl]; exact (List.getElem?_eq_some_iff.mp hp).1
        exact ⟨as[k], List.getElem?_eq_getElem hlt, hv k p _ hp (List.getElem?_eq_getElem hlt), fun _ _ h => (nomatch h)⟩
    · obtain ⟨e, he, hfe⟩ := List.any_eq_true.mp (List.all_eq_true.mp h o ho)
      obtain ⟨b1, b2, b3, b4, b5, b6, b7⟩ := hen
      obtain ⟨a1, -, a3⟩ := hle
      unfold et_fe at hfe
      rw [Bool.and_eq_true, Bool.and_eq_true] at hfe
      obtain ⟨c1, c2, c3⟩ := hfe
      have c2 := of_decide_eq_true c2
      have c3 := of_decide_eq_true c3
      refine ⟨e, he, w'.1, a1, by rw [b1]; exact a3, by rw [b1]; exact b2, ?_, by omega, by omega⟩
      obtain ⟨oE, oC, ov, oc, osk⟩ := o
      obtain ⟨er, ec, es'⟩ := e
      dsimp only at c1 b3 b5 ⊢
      split at c1
      · exact b5
      · obtain ⟨x, x1, x2⟩ := b5
        exact ⟨x, x1, et_ft_ok c1 b3 b2.2.1 x2⟩
      · rw [← of_decide_eq_true c1]
        exact b5
      · cases c1
theorem hi_Ztr {T : List et_D} {M : et_M} {es : List ((Option et_P ⊕ Nat) × Nat × Nat)} {w : et_Wd} {K : et_K} {G : eg_G} {u : eg_O} (hu : hi_Z T (K, [], G) M es u) (hx0 : et_ex w.1 K) (hf : et_fr M w.1 w.2.2 G) : hi_Z T w M es u := by
  obtain ⟨e, he, K', h1, h2, h⟩ := hu
  exact ⟨e, he, K', hx0.tr h1, hf.tr hx0 h2, h⟩
def hr_M : et_M := [(9, 4, 4), (9, 5, 5), (9, 6, 6), (9, 7, 7), (9, 8, 8), (9, 9, 9), (9, 10, 10), (9, 11, 11), (9, 12, 12), (9, 13, 13), (9, 15, 15), (9, 16, 16), (51, 0, 100000), (19, 0, 100000), (45, 0, 100000)]
def ha_an9 (k pc : Nat) : Option et_A := if k = 99 then (if pc = 60 then some ([(5, .inl (0, 31))], 0, [(9, 5, 5), (19, 0, 100000), (45, 0, 100000)], []) else none) else none
def ha_q : et_Co := (92, ha_p, ha_M, [(.inl none, 0, 0)], 3)
theorem ha_c : et_cv et_TT ha_q := et_cok_ok (Ks := []) (an := ha_an) (fun _ h => absurd h List.not_mem_nil) (by decide +kernel)
def hr_p : List et_P := [.inr (.inr (0, 9)), .inr (.inr (0, 3)), .inr (.inr (0, 10)), .inl (0, 3), .inl (0, 46)]
theorem hc_eachT {K : et_K} {G : eg_G} {d2 se ey st kk ak : Nat} (hH : et_H et_TT K G) (hd : 18 ≤ d2) (k_se : K se = some 9) (k_ey : K ey = some 3) (k_st : K st = some 10) (hkk : kk ≤ 3) (hak : ak ≤ 46) : et_go none d2 99 57 (eg_en (eg_mL 99) [.ref se, .ref ey, .ref st, .int (Int32.ofNat kk), .int (Int32.ofNat ak)]) [] G 0 0 (hi_Z et_TT (K, [], G) hr_M [(.inl none, 0, 0)]) :=
  et_pok (Ks := [ha_q, es_q14]) (an := ha_an9) (ps := hr_p) (w := (K, [], G)) (List.forall_mem_cons.mpr ⟨ha_c, List.forall_mem_cons.mpr ⟨es_c14, fun _ h => absurd h List.not_mem_nil⟩⟩) (by decide) (d := 18) (by decide +kernel) hH hd rfl (ht_ac (.inr ⟨by decide, _, rfl, k_se⟩) (ht_ac (.inr ⟨by decide, _, rfl, k_ey⟩) (ht_ac (.inr ⟨by decide, _, rfl, k_st⟩) (ht_ac (hi_nv (by omega) (by omega)) (ht_ac (hi_nv (by omega) (by omega)) ht_an)))))
theorem ha_min0 : ∀ n ∈ List.range 47, 0 ≤ (if Int32.ofNat 31 < Int32.ofNat n then Int32.ofNat 31 else Int32.ofNat n).toInt ∧ (if Int32.ofNat 31 < Int32.ofNat n then Int32.ofNat 31 else Int32.ofNat n).toInt ≤ 31 := by decide +kernel
theorem hb_Yc {w : et_Wd} {G : eg_G} {ya : Nat} (hf : et_fr hr_M w.1 w.2.2 G) (hya : w.1 ya = some 27) : hb_Y G ya = hb_Y w.2.2 ya := by
  funext j
  unfold hb_Y
  rw [hf.2 ya 27 hya j (by
    unfold et_mm hr_M
    simp)]
section REA
variable {w : et_Wd}
theorem hc_each : et_cv et_TT hq_each := by
  intro w as d2 hH hd hl hv
  obtain ⟨v, v1, v2, v3, v4, rfl⟩ := hi_len5 (show as.length = 5 from hl)
  obtain ⟨se, rfl, k_se⟩ := hi_ref (hv 0 _ _ rfl rfl)
  obtain ⟨ey, rfl, k_ey⟩ := hi_ref (hv 1 _ _ rfl rfl)
  obtain ⟨st, rfl, k_st⟩ := hi_ref (hv 2 _ _ rfl rfl)
  obtain ⟨kk, hkk, rfl⟩ := hi_nat (hv 3 _ _ rfl rfl)
  obtain ⟨ak, hak, rfl⟩ := hi_nat (hv 4 _ _ rfl rfl)
  obtain ⟨d, rfl⟩ : ∃ d, d2 = d + 18 := ⟨d2 - 18, by have : 20 ≤ d2 := hd; omega⟩
  have z_st := k_st
  obtain ⟨m0, hm0, hm⟩ := hb_m hH k_st
  obtain ⟨ya, hya0, z_ya⟩ := hb_ya hH k_st
  have hw := wc_t (hb_Y w.2.2 ya) m0
  have hmn := ha_min0 ak (List.mem_range.mpr (by omega))
  have hx0 : et_ex w.1 w.1 := et_ex.rf
  have hf : et_fr hr_M w.1 w.2.2 w.2.2 := et_fr.rf
  rw [show eg_mL 99 = 6 from by decide +kernel]
  show et_go none (d + 18) 99 0 [some (.ref se), some (.ref ey), some (.ref st), some (.int (Int32.ofNat kk)), some (.int (Int32.ofNat ak)), none] [] w.2.2 0 0 (hi_Z et_TT w hr_M [(.inl none, 0, 0)])
  refine hs_aload (i := 0) (p := 1) (by decide +kernel) rfl ?_
  refine hs_aload (i := 1) (p := 2) (by decide +kernel) rfl ?_
  refine hs_aload (i := 2) (p := 3) (by decide +kernel) rfl ?_
  refine hs_aload (i := 2) (p := 4) (by decide +kernel) rfl ?_
  refine ht_getn (T := et_TT) (t := 10) (ci := 8) (f := 2) (p := 7) (by decide +kernel) rfl rfl hH k_st (fun c4 h4 e4 => ?_)
  refine hs_iload (i := 3) (p := 8) (by decide +kernel) rfl ?_
  refine ht_callv (T := et_TT) (t := 9) (mi := 91) (na := 4) (ci := 7) (lk := 6) (lm := 7) (L0 := eg_en (eg_mL 91) [.ref se, .ref ey, .ref st, .int (Int32.ofNat c4), .int (Int32.ofNat kk)]) (by decide +kernel) rfl hH k_se rfl rfl rfl rfl rfl (by rw [show eg_mL 91 = 7 from by decide +kernel]; first | done | rfl) ?_
  refine (hc_beginx (w := (w.1, [], w.2.2)) hH (by omega) k_se k_ey k_st (by omega)).mono (fun u hu => hs_cbc (P := fun G => ∃ c2, et_pl (eg_at G se) 5 = some (.int (Int32.ofNat c2)) ∧ c2 ≤ 100) hu (fun K8 G8 x8 f8 hH hc2 => ?_))
  have k_se := x8 _ _ k_se
  have k_ey := x8 _ _ k_ey
  have k_st := x8 _ _ k_st
  have hf := hf.tr hx0 (f8.wk (by decide +kernel))
  have hx0 := hx0.tr x8
  obtain ⟨d8, hc5, hc2_8⟩ := hc2
  show et_go none _ 99 11 _ [] _ 0 0 _
  refine hs_aload (i := 0) (p := 12) (by decide +kernel) rfl ?_
  refine hs_k (x := Int32.ofNat 1) (p := 13) (by decide +kernel) ?_
  refine ht_put (M := [(9, 9, 9)]) (T := et_TT) (t := 9) (ci := 7) (f := 9) (p := 16) (ty := .boolean) (by decide +kernel) rfl rfl rfl (by decide +kernel) rfl (by decide +kernel) hH k_se (hi_nv (by omega) (by omega)) (fun G13 hH f13 e13 => ?_)
  have hf := hf.tr hx0 (f13.wk (by decide +kernel))
  have hc5 := (f13.2 se 9 k_se 5 rfl).trans hc5
  refine hs_aload (i := 0) (p := 17) (by decide +kernel) rfl ?_
  refine hs_iload (i := 4) (p := 19) (by decide +kernel) rfl ?_
  refine hs_k (x := Int32.ofNat 31) (p := 21) (by decide +kernel) ?_
  refine hs_math (mi := 311) (lk := 6) (p := 24) (by decide +kernel) rfl rfl rfl rfl ?_
  refine ht_put (M := [(9, 12, 12)]) (T := et_TT) (t := 9) (ci := 7) (f := 12) (p := 27) (ty := .int) (by decide +kernel) rfl rfl rfl rfl rfl (by decide +kernel) hH k_se (hi_iv hmn.1 hmn.2) (fun G24 hH f24 e24 => ?_)
  have hf := hf.tr hx0 (f24.wk (by decide +kernel))
  have hc5 := (f24.2 se 9 k_se 5 rfl).trans hc5
  refine hs_aload (i := 0) (p := 28) (by decide +kernel) rfl ?_
  refine hs_aload (i := 1) (p := 29) (by decide +kernel) rfl ?_
  refine hs_aload (i := 2) (p := 30) (by decide +kernel) rfl ?_
  refine hs_k (x := Int32.ofNat 1) (p := 31) (by decide +kernel) ?_
  refine ht_callv (T := et_TT) (t := 9) (mi := 100) (na := 3) (ci := 7) (lk := 6) (lm := 5) (L0 := eg_en (eg_mL 100) [.ref se, .ref ey, .ref st, .int (Int32.ofNat 1)]) (by decide +kernel) rfl hH k_se rfl rfl rfl rfl rfl (by rw [show eg_mL 100 = 5 from by decide +kernel]; first | done | rfl) ?_
  refine (hc_ac (w := (K8, [], G24)) (m0 := m0) (ya := ya) (b := 1) (c0 := d8) hH (by omega) k_se k_ey k_st hc5 ((hf.2 st 10 z_st 2 rfl).trans hm0) hm ((hf.2 st 10 z_st 4 rfl).trans hya0) (hx0 _ _ z_ya) (.inr rfl) (by omega)).mono (fun u hu => hs_cbc (P := fun G => ∃ c2, et_pl (eg_at G se) 5 = some (.int (Int32.ofNat c2)) ∧ c2 ≤ d8 + wc (hb_Y G24 ya) 1 m0) hu (fun K31 G31 x31 f31 hH hc2 => ?_))
  rw [hb_Yc hf z_ya] at hc2
  have k_se := x31 _ _ k_se
  have k_ey := x31 _ _ k_ey
  have k_st := x31 _ _ k_st
  have hf := hf.tr hx0 (f31.wk (by decide +kernel))
  have hx0 := hx0.tr x31
  obtain ⟨d31, hc5, hc2_31⟩ := hc2
  show et_go none _ 99 34 _ [] _ 0 0 _
  refine hs_aload (i := 0) (p := 35) (by decide +kernel) rfl ?_
  refine hs_aload (i := 0) (p := 36) (by decide +kernel) rfl ?_
  refine ht_getn (T := et_TT) (t := 9) (ci := 7) (f := 5) (p := 39) (by decide +kernel) rfl rfl hH k_se (fun c36 h36 e36 => ?_)
  have q36 : c36 = d31 := hb_cc e36 hc5 (by omega) (by omega)
  refine ht_put (M := [(9, 10, 10)]) (T := et_TT) (t := 9) (ci := 7) (f := 10) (p := 42) (ty := .int) (by decide +kernel) rfl rfl rfl rfl rfl (by decide +kernel) hH k_se (hi_nv (by omega) (by omega)) (fun G39 hH f39 e39 => ?_)
  have hf := hf.tr hx0 (f39.wk (by decide +kernel))
  have hc5 := (f39.2 se 9 k_se 5 rfl).trans hc5
  refine hs_aload (i := 0) (p := 43) (by decide +kernel) rfl ?_
  refine hs_aload (i := 1) (p := 44) (by decide +kernel) rfl ?_
  refine hs_aload (i := 2) (p := 45) (by decide +kernel) rfl ?_
  refine hs_k (x := Int32.ofNat 0) (p := 46) (by decide +kernel) ?_
  refine ht_callv (T := et_TT) (t := 9) (mi := 100) (na := 3) (ci := 7) (lk := 6) (lm := 5) (L0 := eg_en (eg_mL 100) [.ref se, .ref ey, .ref st, .int (Int32.ofNat 0)]) (by decide +kernel) rfl hH k_se rfl rfl rfl rfl rfl (by rw [show eg_mL 100 = 5 from by decide +kernel]; first | done | rfl) ?_
  refine (hc_ac (w := (K31, [], G39)) (m0 := m0) (ya := ya) (b := 0) (c0 := d31) hH (by omega) k_se k_ey k_st hc5 ((hf.2 st 10 z_st 2 rfl).trans hm0) hm ((hf.2 st 10 z_st 4 rfl).trans hya0) (hx0 _ _ z_ya) (.inl rfl) (by omega)).mono (fun u hu => hs_cbc (P := fun G => ∃ c2, et_pl (eg_at G se) 5 = some (.int (Int32.ofNat c2)) ∧ c2 ≤ d31 + wc (hb_Y G39 ya) 0 m0) hu (fun K46 G46 x46 f46 hH hc2 => ?_))
  rw [hb_Yc hf z_ya] at hc2
  have k_se := x46 _ _ k_se
  have k_ey := x46 _ _ k_ey
  have k_st := x46 _ _ k_st
  have hf := hf.tr hx0 (f46.wk (by decide +kernel))
  have hx0 := hx0.tr x46
  obtain ⟨d46, hc5, hc2_46⟩ := hc2
  show et_go none _ 99 49 _ [] _ 0 0 _
  refine hs_aload (i := 0) (p := 50) (by decide +kernel) rfl ?_
  refine hs_aload (i := 0) (p := 51) (by decide +kernel) rfl ?_
  refine ht_getn (T := et_TT) (t := 9) (ci := 7) (f := 5) (p := 54) (by decide +kernel) rfl rfl hH k_se (fun c51 h51 e51 => ?_)
  have q51 : c51 = d46 := hb_cc e51 hc5 (by omega) (by omega)
  refine ht_put (M := [(9, 11, 11)]) (T := et_TT) (t := 9) (ci := 7) (f := 11) (p := 57) (ty := .int) (by decide +kernel) rfl rfl rfl rfl rfl (by decide +kernel) hH k_se (hi_nv (by omega) (by omega)) (fun G54 hH f54 e54 => ?_)
  have hf := hf.tr hx0 (f54.wk (by decide +kernel))
  have hc5 := (f54.2 se 9 k_se 5 rfl).trans hc5
  show et_go none (d + 18) 99 57 [some (.ref se), some (.ref ey), some (.ref st), some (.int (Int32.ofNat kk)), some (.int (Int32.ofNat ak)), none] [] _ 0 0 _
  have hz := hc_eachT (d2 := d + 18) (kk := kk) (ak := ak) hH (by omega) k_se k_ey k_st (by omega) (by omega)
  rw [show eg_mL 99 = 6 from by decide +kernel] at hz
  exact hz.mono (fun u hu => hi_Ztr hu hx0 hf)
end REA
end
section
/-! BY HAND: boundOf -/
theorem bd_i (x : Int32) : x.toInt64.toInt = x.toInt := by simp
def bd_lo (a : Int64) : Prop := -2147483648 ≤ a.toInt ∧ a.toInt ≤ 1073741824
def bd_hi (a : Int64) : Prop := -1073741824 ≤ a.toInt ∧ a.toInt ≤ 2147483647
theorem bd_min {a : Int64} {x : Int32} (h : bd_lo a) : bd_lo (if x.toInt64 < a then x.toInt64 else a) := by
  have h1 := x.le_toInt
  have h2 := x.toInt_lt
  have h3 := bd_i x
  unfold bd_lo at h ⊢
  split
  · rename_i hl
    have hl := Int64.lt_iff_toInt_lt.mp hl
    omega
  · exact h
theorem bd_max {a : Int64} {x : Int32} (h : bd_hi a) : bd_hi (if x.toInt64 < a then a else x.toInt64) := by
  have h1 := x.le_toInt
  have h2 := x.toInt_lt
  have h3 := bd_i x
  unfold bd_hi at h ⊢
  split
  · exact h
  · rename_i hl
    have hl : ¬ x.toInt64.toInt < a.toInt := fun q => hl (Int64.lt_iff_toInt_lt.mpr q)
    omega
theorem bd_d {a b : Int64} (ha : bd_lo a) (hb : bd_hi b) (h : 0 < lg_cmp (a - b) (Int64.ofNat 0)) : ¬ (a - b) * (a - b) = 0 := fun e => by
  unfold bd_lo at ha
  unfold bd_hi at hb
  have s : (a - b).toInt = a.toInt - b.toInt := by
    rw [Int64.toInt_sub]
    exact Int.bmod_eq_of_le (by omega) (by omega)
  have p : 0 < (a - b).toInt := by
    unfold lg_cmp at h
    split at h
    · rename_i h1
      have q1 := Int64.lt_iff_toInt_lt.mp h1
      have q3 : (Int64.ofNat 0).toInt = 0 := rfl
      omega
    · split at h <;> exact absurd h (by decide)
  have m := congrArg Int64.toInt e
  have m0 : (0 : Int64).toInt = 0 := rfl
  have k1 : (a - b).toInt ≤ 2147483648 := by omega
  rw [Int64.toInt_mul, m0] at m
  have k2 := Int.mul_le_mul k1 k1 (by omega) (by omega)
  have k3 := Int.mul_pos p p
  rw [Int.bmod_eq_of_le (by omega) (by omega)] at m
  omega
def bd_an (k pc : Nat) : Option et_A := if k = 33 then es_an k pc else if k = 48 then (if pc = 4 then some ([(2, .inl (et_mn, et_mx)), (3, .inl (0, 6))], 2, [], []) else none) else none
def hq_sw : et_Co := (33, [.inr (.inr (0, 3)), .inr (.inr (0, 51)), .inl (et_mn, et_mx)], [], [(.inl (some (.inl (et_mn, et_mx))), 0, 0)], 3)
def hq_vs : et_Co := (48, [.inr (.inr (0, 3)), .inl (et_mn, et_mx)], [], [(.inl (some (.inl (et_mn, et_mx))), 0, 0)], 2)
theorem hc_sw : et_cv et_TT hq_sw := es_c17
theorem hc_vs : et_cv et_TT hq_vs := et_cok_ok (Ks := []) (an := bd_an) (fun _ h => absurd h List.not_mem_nil) (by decide +kernel)
section RBO
variable {w : et_Wd} {K : et_K} {G : eg_G} {d th ey : Nat}
theorem hn_o2 (hH : et_H et_TT K G) (hx0 : et_ex w.1 K) (hf : et_fr [] w.1 w.2.2 G) (k_th : K th = some 12) (k_ey : K ey = some 3) {lo hi mo kq : Int64} {c : Nat} {x11 x12 x13 : Option Value} (hlo : bd_lo lo) (hhi : bd_hi hi) (hc : c ≤ 6) : et_go none (d + 4) 156 120 [some (.ref th), some (.ref ey), some (.long lo), none, some (.long hi), none, some (.long mo), none, some (.long kq), none, some (.int (Int32.ofNat c)), x11, x12, x13] [] G 0 0 (hi_Z et_TT w [] [(.inl (some (.inl (et_mn, et_mx))), 0, 0)]) := by
  induction hm : 6 - c using Nat.strongRecOn generalizing c kq K G with
  | _ z ih =>
    refine hs_iload (i := 10) (p := 122) (by decide +kernel) rfl ?_
    refine hs_aload (i := 1) (p := 123) (by decide +kernel) rfl ?_
    refine ht_getn (T := et_TT) (t := 3) (ci := 1) (f := 0) (p := 126) (by decide +kernel) rfl rfl hH k_ey (fun c123 h123 e123 => ?_)
    refine hs_br2n (c := .ge) (t := 162) (f := 129) (by decide +kernel) (by omega) (by omega) (fun (c126 : c123 ≤ c) => ?_) (fun (c126 : ¬ (c123 ≤ c)) => ?_)
    · refine hs_lload (i := 2) (p := 163) (by decide +kernel) rfl ?_
      refine hs_lload (i := 4) (p := 165) (by decide +kernel) rfl ?_
      refine hs_lsub (p := 166) (by decide +kernel) ?_
      refine hs_lstore (i := 10) (p := 168) (by decide +kernel) (Nat.le_of_ble_eq_true rfl) ?_
      refine hs_lload (i := 2) (p := 169) (by decide +kernel) rfl ?_
      refine hs_lload (i := 4) (p := 171) (by decide +kernel) rfl ?_
      refine hs_ladd (p := 172) (by decide +kernel) ?_
      refine hs_lstore (i := 12) (p := 174) (by decide +kernel) (Nat.le_of_ble_eq_true rfl) ?_
      refine hs_lload (i := 10) (p := 176) (by decide +kernel) rfl ?_
      refine hs_lcon (x := (Int64.ofNat 0)) (p := 177) (by decide +kernel) ?_
      refine hs_lcmp (p := 178) (by decide +kernel) ?_
      refine hs_br1 (c := .gt) (t := 183) (f := 181) (by decide +kernel) (fun (c178 : 0 < (lg_cmp (lo - hi) (Int64.ofNat 0))) => ?_) (fun (c178 : ¬ (0 < (lg_cmp (lo - hi) (Int64.ofNat 0)))) => ?_)
      · have hdiv := bd_d hlo hhi c178
        refine hs_lload (i := 6) (p := 185) (by decide +kernel) rfl ?_
        refine hs_lcon (x := 4) (p := 188) (by decide +kernel) ?_
        refine hs_lload (i := 8) (p := 190) (by decide +kernel) rfl ?_
        refine hs_lmul (p := 191) (by decide +kernel) ?_
        refine hs_lload (i := 12) (p := 193) (by decide +kernel) rfl ?_
        refine hs_lload (i := 12) (p := 195) (by decide +kernel) rfl ?_
        refine hs_lmul (p := 196) (by decide +kernel) ?_
        refine hs_ladd (p := 197) (by decide +kernel) ?_
        refine hs_lmul (p := 198) (by decide +kernel) ?_
        refine hs_lload (i := 10) (p := 200) (by decide +kernel) rfl ?_
        refine hs_lload (i := 10) (p := 202) (by decide +kernel) rfl ?_
        refine hs_lmul (p := 203) (by decide +kernel) ?_
        refine hs_ldiv (p := 204) (by decide +kernel) hdiv ?_
        refine hs_l2i (p := 205) (by decide +kernel) ?_
        refine hs_iret (by decide +kernel) ?_
        exact ⟨_, List.mem_cons_self, _, hx0, hf, hH, ⟨_, rfl, hi_any⟩, Nat.le_refl _, Nat.le_refl _⟩
      · refine hs_k (x := (-1)) (p := 182) (by decide +kernel) ?_
        refine hs_iret (by decide +kernel) ?_
        exact ⟨_, List.mem_cons_self, _, hx0, hf, hH, ⟨_, rfl, hi_any⟩, Nat.le_refl _, Nat.le_refl _⟩
    · refine hs_lload (i := 8) (p := 131) (by decide +kernel) rfl ?_
      refine hs_aload (i := 0) (p := 132) (by decide +kernel) rfl ?_
      refine ht_getr (T := et_TT) (t := 12) (ci := 10) (f := 5) (p := 135) (by decide +kernel) rfl rfl hH k_th (fun a132 k_a132 e132 => ?_)
      refine ht_getr (T := et_TT) (t := 9) (ci := 7) (f := 14) (p := 138) (by decide +kernel) rfl rfl hH k_a132 (fun a135 k_a135 e135 => ?_)
      refine hs_iload (i := 10) (p := 140) (by decide +kernel) rfl ?_
      refine ht_ild (T := et_TT) (t := 51) (N := 6) (p := 141) (by decide +kernel) rfl hH k_a135 (by omega) (by decide) (fun x140 s140 e140 => ?_)
      refine hs_aload (i := 0) (p := 142) (by decide +kernel) rfl ?_
      refine ht_getr (T := et_TT) (t := 12) (ci := 10) (f := 5) (p := 145) (by decide +kernel) rfl rfl hH k_th (fun a142 k_a142 e142 => ?_)
      refine ht_getr (T := et_TT) (t := 9) (ci := 7) (f := 14) (p := 148) (by decide +kernel) rfl rfl hH k_a142 (fun a145 k_a145 e145 => ?_)
      refine hs_iload (i := 10) (p := 150) (by decide +kernel) rfl ?_
      refine ht_ild (T := et_TT) (t := 51) (N := 6) (p := 151) (by decide +kernel) rfl hH k_a145 (by omega) (by decide) (fun x150 s150 e150 => ?_)
      refine hs_imul (p := 152) (by decide +kernel) ?_
      refine hs_i2l (p := 153) (by decide +kernel) ?_
      refine hs_ladd (p := 154) (by decide +kernel) ?_
      refine hs_lstore (i := 8) (p := 156) (by decide +kernel) (Nat.le_of_ble_eq_true rfl) ?_
      refine hs_iinc1 (i := 10) (p := 159) (by decide +kernel) rfl (Nat.le_of_ble_eq_true rfl) ?_
      refine hs_goto (p := 120) (by decide +kernel) ?_
      show et_go none (d + 4) 156 120 [some (.ref th), some (.ref ey), some (.long lo), none, some (.long hi), none, some (.long mo), none, some (.long (kq + ((x140 * x150)).toInt64)), none, some (.int (Int32.ofNat (c + 1))), x11, x12, x13] [] _ 0 0 _
      exact ih (6 - (c + 1)) (by omega) hH hx0 hf k_th k_ey (by omega) rfl
theorem hn_o1 (hH : et_H et_TT K G) (hx0 : et_ex w.1 K) (hf : et_fr [] w.1 w.2.2 G) (k_th : K th = some 12) (k_ey : K ey = some 3) {lo hi mo : Int64} {c : Nat} {x9 x10 x11 x12 x13 : Option Value} (hlo : bd_lo lo) (hhi : bd_hi hi) (hc : c ≤ 20) : et_go none (d + 4) 156 15 [some (.ref th), some (.ref ey), some (.long lo), none, some (.long hi), none, some (.long mo), none, some (.int (Int32.ofNat c)), x9, x10, x11, x12, x13] [] G 0 0 (hi_Z et_TT w [] [(.inl (some (.inl (et_mn, et_mx))), 0, 0)]) := by
  induction hm : 20 - c using Nat.strongRecOn generalizing c lo hi mo x9 K G with
  | _ z ih =>
    refine hs_iload (i := 8) (p := 17) (by decide +kernel) rfl ?_
    refine hs_aload (i := 0) (p := 18) (by decide +kernel) rfl ?_
    refine ht_getr (T := et_TT) (t := 12) (ci := 10) (f := 0) (p := 21) (by decide +kernel) rfl rfl hH k_th (fun a18 k_a18 e18 => ?_)
    refine ht_getn (T := et_TT) (t := 10) (ci := 8) (f := 2) (p := 24) (by decide +kernel) rfl rfl hH k_a18 (fun c21 h21 e21 => ?_)
    refine hs_br2n (c := .ge) (t := 114) (f := 27) (by decide +kernel) (by omega) (by omega) (fun (c24 : c21 ≤ c) => ?_) (fun (c24 : ¬ (c21 ≤ c)) => ?_)
    · refine hs_lcon (x := (Int64.ofNat 0)) (p := 115) (by decide +kernel) ?_
      refine hs_lstore (i := 8) (p := 117) (by decide +kernel) (Nat.le_of_ble_eq_true rfl) ?_
      refine hs_k (x := Int32.ofNat 0) (p := 118) (by decide +kernel) ?_
      refine hs_istore (i := 10) (p := 120) (by decide +kernel) (Nat.le_of_ble_eq_true rfl) ?_
      show et_go none (d + 4) 156 120 [some (.ref th), some (.ref ey), some (.long lo), none, some (.long hi), none, some (.long mo), none, some (.long (Int64.ofNat 0)), none, some (.int (Int32.ofNat 0)), x11, x12, x13] [] _ 0 0 _
      exact hn_o2 hH hx0 hf k_th k_ey hlo hhi (Nat.zero_le _)
    · refine hs_aload (i := 1) (p := 28) (by decide +kernel) rfl ?_
      refine hs_aload (i := 0) (p := 29) (by decide +kernel) rfl ?_
      refine ht_getr (T := et_TT) (t := 12) (ci := 10) (f := 5) (p := 32) (by decide +kernel) rfl rfl hH k_th (fun a29 k_a29 e29 => ?_)
      refine ht_getr (T := et_TT) (t := 9) (ci := 7) (f := 14) (p := 35) (by decide +kernel) rfl rfl hH k_a29 (fun a32 k_a32 e32 => ?_)
      refine hs_aload (i := 0) (p := 36) (by decide +kernel) rfl ?_
      refine ht_getr (T := et_TT) (t := 12) (ci := 10) (f := 0) (p := 39) (by decide +kernel) rfl rfl hH k_th (fun a36 k_a36 e36 => ?_)
      refine ht_getr (T := et_TT) (t := 10) (ci := 8) (f := 3) (p := 42) (by decide +kernel) rfl rfl hH k_a36 (fun a39 k_a39 e39 => ?_)
      refine hs_iload (i := 8) (p := 44) (by decide +kernel) rfl ?_
      refine ht_ild (T := et_TT) (t := 17) (N := 20) (p := 45) (by decide +kernel) rfl hH k_a39 (by omega) (by decide) (fun x44 s44 e44 => ?_)
      refine ht_callv (T := et_TT) (t := 3) (mi := 33) (na := 2) (ci := 1) (lk := 14) (lm := 5) (L0 := eg_en (eg_mL 33) [.ref ey, .ref a32, .int x44]) (by decide +kernel) rfl hH k_ey rfl rfl rfl rfl rfl (by rw [show eg_mL 33 = 5 from by decide +kernel]; first | done | rfl) ?_
      refine (hc_sw (K, [], G) [.ref ey, .ref a32, .int x44] _ hH (by omega) rfl (ht_ac (.inr ⟨by decide, _, rfl, k_ey⟩) (ht_ac (.inr ⟨by decide, _, rfl, k_a32⟩) (ht_ac hi_any ht_an)))).mono (fun u hu => hs_cbv hu (fun v45 K45 G45 c45 s45 x45 f45 hH hv45 cl45 sl45 => ?_))
      have k_th := x45 _ _ k_th
      have k_ey := x45 _ _ k_ey
      have k_a18 := x45 _ _ k_a18
      have k_a29 := x45 _ _ k_a29
      have k_a32 := x45 _ _ k_a32
      have k_a36 := x45 _ _ k_a36
      have k_a39 := x45 _ _ k_a39
      have hf := hf.tr hx0 (f45.wk (by decide +kernel))
      have hx0 := hx0.tr x45
      obtain rfl : c45 = 0 := Nat.le_zero.mp cl45
      obtain rfl : s45 = 0 := Nat.le_zero.mp sl45
      obtain ⟨n45, rfl, hn45, hm45⟩ := hi_int hv45
      show et_go none _ 156 48 _ [.int n45] _ 0 _ _
      refine hs_istore (i := 9) (p := 50) (by decide +kernel) (Nat.le_of_ble_eq_true rfl) ?_
      refine hs_aload (i := 0) (p := 51) (by decide +kernel) rfl ?_
      refine ht_getr (T := et_TT) (t := 12) (ci := 10) (f := 0) (p := 54) (by decide +kernel) rfl rfl hH k_th (fun a51 k_a51 e51 => ?_)
      refine ht_getr (T := et_TT) (t := 10) (ci := 8) (f := 4) (p := 57) (by decide +kernel) rfl rfl hH k_a51 (fun a54 k_a54 e54 => ?_)
      refine hs_iload (i := 8) (p := 59) (by decide +kernel) rfl ?_
      refine ht_zld (T := et_TT) (t := 27) (N := 20) (p := 60) (by decide +kernel) rfl hH k_a54 (by omega) (by decide) (fun x59 s59 => ?_)
      refine hs_br1 (c := .eq) (t := 74) (f := 63) (by decide +kernel) (fun (c60 : x59 = 0) => ?_) (fun (c60 : ¬ (x59 = 0)) => ?_)
      · refine hs_lload (i := 4) (p := 76) (by decide +kernel) rfl ?_
        refine hs_iload (i := 9) (p := 78) (by decide +kernel) rfl ?_
        refine hs_i2l (p := 79) (by decide +kernel) ?_
        refine hs_math (mi := 313) (lk := 14) (p := 82) (by decide +kernel) rfl rfl rfl rfl ?_
        refine hs_lstore (i := 4) (p := 84) (by decide +kernel) (Nat.le_of_ble_eq_true rfl) ?_
        refine hs_lload (i := 6) (p := 86) (by decide +kernel) rfl ?_
        refine hs_aload (i := 1) (p := 87) (by decide +kernel) rfl ?_
        refine hs_aload (i := 0) (p := 88) (by decide +kernel) rfl ?_
        refine ht_getr (T := et_TT) (t := 12) (ci := 10) (f := 0) (p := 91) (by decide +kernel) rfl rfl hH k_th (fun a88 k_a88 e88 => ?_)
        refine ht_getr (T := et_TT) (t := 10) (ci := 8) (f := 3) (p := 94) (by decide +kernel) rfl rfl hH k_a88 (fun a91 k_a91 e91 => ?_)
        refine hs_iload (i := 8) (p := 96) (by decide +kernel) rfl ?_
        refine ht_ild (T := et_TT) (t := 17) (N := 20) (p := 97) (by decide +kernel) rfl hH k_a91 (by omega) (by decide) (fun x96 s96 e96 => ?_)
        refine ht_callv (T := et_TT) (t := 3) (mi := 48) (na := 1) (ci := 1) (lk := 14) (lm := 5) (L0 := eg_en (eg_mL 48) [.ref ey, .int x96]) (by decide +kernel) rfl hH k_ey rfl rfl rfl rfl rfl (by rw [show eg_mL 48 = 5 from by decide +kernel]; first | done | rfl) ?_
        refine (hc_vs (K45, [], G45) [.ref ey, .int x96] _ hH (by omega) rfl (ht_ac (.inr ⟨by decide, _, rfl, k_ey⟩) (ht_ac hi_any ht_an))).mono (fun u hu => hs_cbv hu (fun v97 K97 G97 c97 s97 x97 f97 hH hv97 cl97 sl97 => ?_))
        have k_th := x97 _ _ k_th
        have k_ey := x97 _ _ k_ey
        have k_a18 := x97 _ _ k_a18
        have k_a29 := x97 _ _ k_a29
        have k_a32 := x97 _ _ k_a32
        have k_a36 := x97 _ _ k_a36
        have k_a39 := x97 _ _ k_a39
        have k_a51 := x97 _ _ k_a51
        have k_a54 := x97 _ _ k_a54
        have k_a88 := x97 _ _ k_a88
        have k_a91 := x97 _ _ k_a91
        have hf := hf.tr hx0 (f97.wk (by decide +kernel))
        have hx0 := hx0.tr x97
        obtain rfl : c97 = 0 := Nat.le_zero.mp cl97
        obtain rfl : s97 = 0 := Nat.le_zero.mp sl97
        obtain ⟨n97, rfl, hn97, hm97⟩ := hi_int hv97
        show et_go none _ 156 100 _ [.int n97, .long mo] _ 0 _ _
        refine hs_k (x := Int32.ofNat 1) (p := 101) (by decide +kernel) ?_
        refine hs_iadd (p := 102) (by decide +kernel) ?_
        refine hs_i2l (p := 103) (by decide +kernel) ?_
        refine hs_math (mi := 313) (lk := 14) (p := 106) (by decide +kernel) rfl rfl rfl rfl ?_
        refine hs_lstore (i := 6) (p := 108) (by decide +kernel) (Nat.le_of_ble_eq_true rfl) ?_
        refine hs_iinc1 (i := 8) (p := 111) (by decide +kernel) rfl (Nat.le_of_ble_eq_true rfl) ?_
        refine hs_goto (p := 15) (by decide +kernel) ?_
        show et_go none (d + 4) 156 15 [some (.ref th), some (.ref ey), some (.long lo), none, some (.long (if (n45).toInt64 < hi then hi else (n45).toInt64)), none, some (.long (if ((n97 + Int32.ofNat 1)).toInt64 < mo then mo else ((n97 + Int32.ofNat 1)).toInt64)), none, some (.int (Int32.ofNat (c + 1))), some (.int n45), x10, x11, x12, x13] [] _ 0 0 _
        exact ih (20 - (c + 1)) (by omega) hH hx0 hf k_th k_ey hlo (bd_max hhi) (by omega) rfl
      · refine hs_lload (i := 2) (p := 64) (by decide +kernel) rfl ?_
        refine hs_iload (i := 9) (p := 66) (by decide +kernel) rfl ?_
        refine hs_i2l (p := 67) (by decide +kernel) ?_
        refine hs_math (mi := 312) (lk := 14) (p := 70) (by decide +kernel) rfl rfl rfl rfl ?_
        refine hs_lstore (i := 2) (p := 71) (by decide +kernel) (Nat.le_of_ble_eq_true rfl) ?_
        refine hs_goto (p := 84) (by decide +kernel) ?_
        refine hs_lload (i := 6) (p := 86) (by decide +kernel) rfl ?_
        refine hs_aload (i := 1) (p := 87) (by decide +kernel) rfl ?_
        refine hs_aload (i := 0) (p := 88) (by decide +kernel) rfl ?_
        refine ht_getr (T := et_TT) (t := 12) (ci := 10) (f := 0) (p := 91) (by decide +kernel) rfl rfl hH k_th (fun a88 k_a88 e88 => ?_)
        refine ht_getr (T := et_TT) (t := 10) (ci := 8) (f := 3) (p := 94) (by decide +kernel) rfl rfl hH k_a88 (fun a91 k_a91 e91 => ?_)
        refine hs_iload (i := 8) (p := 96) (by decide +kernel) rfl ?_
        refine ht_ild (T := et_TT) (t := 17) (N := 20) (p := 97) (by decide +kernel) rfl hH k_a91 (by omega) (by decide) (fun x96 s96 e96 => ?_)
        refine ht_callv (T := et_TT) (t := 3) (mi := 48) (na := 1) (ci := 1) (lk := 14) (lm := 5) (L0 := eg_en (eg_mL 48) [.ref ey, .int x96]) (by decide +kernel) rfl hH k_ey rfl rfl rfl rfl rfl (by rw [show eg_mL 48 = 5 from by decide +kernel]; first | done | rfl) ?_
        refine (hc_vs (K45, [], G45) [.ref ey, .int x96] _ hH (by omega) rfl (ht_ac (.inr ⟨by decide, _, rfl, k_ey⟩) (ht_ac hi_any ht_an))).mono (fun u hu => hs_cbv hu (fun v97 K97 G97 c97 s97 x97 f97 hH hv97 cl97 sl97 => ?_))
        have k_th := x97 _ _ k_th
        have k_ey := x97 _ _ k_ey
        have k_a18 := x97 _ _ k_a18
        have k_a29 := x97 _ _ k_a29
        have k_a32 := x97 _ _ k_a32
        have k_a36 := x97 _ _ k_a36
        have k_a39 := x97 _ _ k_a39
        have k_a51 := x97 _ _ k_a51
        have k_a54 := x97 _ _ k_a54
        have k_a88 := x97 _ _ k_a88
        have k_a91 := x97 _ _ k_a91
        have hf := hf.tr hx0 (f97.wk (by decide +kernel))
        have hx0 := hx0.tr x97
        obtain rfl : c97 = 0 := Nat.le_zero.mp cl97
        obtain rfl : s97 = 0 := Nat.le_zero.mp sl97
        obtain ⟨n97, rfl, hn97, hm97⟩ := hi_int hv97
        show et_go none _ 156 100 _ [.int n97, .long mo] _ 0 _ _
        refine hs_k (x := Int32.ofNat 1) (p := 101) (by decide +kernel) ?_
        refine hs_iadd (p := 102) (by decide +kernel) ?_
        refine hs_i2l (p := 103) (by decide +kernel) ?_
        refine hs_math (mi := 313) (lk := 14) (p := 106) (by decide +kernel) rfl rfl rfl rfl ?_
        refine hs_lstore (i := 6) (p := 108) (by decide +kernel) (Nat.le_of_ble_eq_true rfl) ?_
        refine hs_iinc1 (i := 8) (p := 111) (by decide +kernel) rfl (Nat.le_of_ble_eq_true rfl) ?_
        refine hs_goto (p := 15) (by decide +kernel) ?_
        show et_go none (d + 4) 156 15 [some (.ref th), some (.ref ey), some (.long (if (n45).toInt64 < lo then (n45).toInt64 else lo)), none, some (.long hi), none, some (.long (if ((n97 + Int32.ofNat 1)).toInt64 < mo then mo else ((n97 + Int32.ofNat 1)).toInt64)), none, some (.int (Int32.ofNat (c + 1))), some (.int n45), x10, x11, x12, x13] [] _ 0 0 _
        exact ih (20 - (c + 1)) (by omega) hH hx0 hf k_th k_ey (bd_min hlo) hhi (by omega) rfl
theorem hc_boundOf : et_cv et_TT hq_boundOf := by
  intro w as d2 hH hd hl hv
  obtain ⟨v, v1, rfl⟩ := hi_len2 (show as.length = 2 from hl)
  obtain ⟨th, rfl, k_th⟩ := hi_ref (hv 0 _ _ rfl rfl)
  obtain ⟨ey, rfl, k_ey⟩ := hi_ref (hv 1 _ _ rfl rfl)
  obtain ⟨d, rfl⟩ : ∃ d, d2 = d + 4 := ⟨d2 - 4, by have : 4 ≤ d2 := hd; omega⟩
  have hx0 : et_ex w.1 w.1 := et_ex.rf
  have hf : et_fr [] w.1 w.2.2 w.2.2 := et_fr.rf
  rw [show eg_mL 156 = 14 from by decide +kernel]
  show et_go none (d + 4) 156 0 [some (.ref th), some (.ref ey), none, none, none, none, none, none, none, none, none, none, none, none] [] w.2.2 0 0 (hi_Z et_TT w [] [(.inl (some (.inl (et_mn, et_mx))), 0, 0)])
  refine hs_lcon (x := 1073741824) (p := 3) (by decide +kernel) ?_
  refine hs_lstore (i := 2) (p := 4) (by decide +kernel) (Nat.le_of_ble_eq_true rfl) ?_
  refine hs_lcon (x := -1073741824) (p := 7) (by decide +kernel) ?_
  refine hs_lstore (i := 4) (p := 9) (by decide +kernel) (Nat.le_of_ble_eq_true rfl) ?_
  refine hs_lcon (x := (Int64.ofNat 0)) (p := 10) (by decide +kernel) ?_
  refine hs_lstore (i := 6) (p := 12) (by decide +kernel) (Nat.le_of_ble_eq_true rfl) ?_
  refine hs_k (x := Int32.ofNat 0) (p := 13) (by decide +kernel) ?_
  refine hs_istore (i := 8) (p := 15) (by decide +kernel) (Nat.le_of_ble_eq_true rfl) ?_
  show et_go none (d + 4) 156 15 [some (.ref th), some (.ref ey), some (.long 1073741824), none, some (.long (-1073741824)), none, some (.long (Int64.ofNat 0)), none, some (.int (Int32.ofNat 0)), none, none, none, none, none] [] _ 0 0 _
  exact hn_o1 hH hx0 hf k_th k_ey ⟨by decide, by decide⟩ ⟨by decide, by decide⟩ (Nat.zero_le _)
end RBO
end
section
/-! THE CLASS: can, found, bars, bound, read -/
theorem es_s149 : et_cv et_TT (es_p149 [.inl (et_mn, et_mx), .inl (et_mn, et_mx)]) := es_p149_ok hc_begin hc_each hc_boundOf -- can
theorem es_s152 : et_cv et_TT (es_p152 [.inl (et_mn, et_mx), .inl (et_mn, et_mx), .inl (et_mn, et_mx)]) := es_p152_ok hc_begin hc_each hc_boundOf -- found
theorem es_s154 : et_cv et_TT (es_p154 [.inl (et_mn, et_mx), .inl (et_mn, et_mx)]) := es_p154_ok hc_begin hc_each hc_boundOf -- bars
theorem es_s155 : et_cv et_TT (es_p155 [.inl (et_mn, et_mx), .inl (et_mn, et_mx)]) := es_p155_ok hc_begin hc_each hc_boundOf -- bound
theorem es_s171 : et_cv et_TT (es_p171 [.inl (et_mn, et_mx), .inl (et_mn, et_mx), .inl (0, 1)]) := es_p171_ok hc_begin hc_each hc_boundOf -- read
end
section
/-! BY HAND: count -/
theorem ht_aald {T : List et_D} {K : et_K} {d k pc ck sk a t n N p kd m : Nat} {L : eg_Ls} {r : List Value} {G : eg_G} {Z : eg_O → Prop} {q : et_P} (hc : hs_o k pc = some (.aaload, p)) (hT : T[t]? = some (.inr (kd, N, [(0, m, q)]))) (hk : eg_ak .aaload kd = true) (hH : et_H T K G) (ha : K a = some t) (hn : n < N) (hm : n ≤ m) (hN : N < 2147483648) (h : ∀ v : Value, et_v K q v → et_pl (eg_at G a) n = some v → et_go none d k p L (v :: r) G ck sk Z) : et_go none d k pc L (.int (Int32.ofNat n) :: .ref a :: r) G ck sk Z := by
  obtain ⟨g1, -, -, dd, hd, hc', -⟩ := hH.2.2 a t ha
  rw [hT] at hd
  cases hd
  obtain ⟨x, e, xn, h1, h2⟩ := hc'
  obtain ⟨v, v1, v2⟩ := h2 (0, m, q) List.mem_cons_self n (Nat.zero_le _) hm hn
  obtain ⟨e0, rfl⟩ := hs_oc hc
  refine hs_st e0 rfl ?_ (h v v2 ?_)
  · show eg_ar .aaload pc L (.int (Int32.ofNat n) :: .ref a :: r) G ck sk = _
    unfold eg_ar
    dsimp only
    rw [e]
    dsimp only
    have h3 := hs_nint (a := n) (by omega)
    rw [if_pos ⟨g1, hk, by omega, by omega⟩, hs_nnat (by omega), v1]
  · rw [e]
    show (if n < x.1 then eg_rd kd x n else none) = some v
    rw [if_pos (by omega), v1]
theorem hs_cbx {T : List et_D} {M : et_M} {d k pc ck sk x cx sx c s : Nat} {L : eg_Ls} {r : List Value} {Z : eg_O → Prop} {w : et_Wd} {q : et_P} {u : eg_O} (hm : eg_mh k = none) (hu : hi_Z T w M [(.inr x, cx, sx), (.inl (some q), c, s)] u) (h : ∀ (v : Value) (K' : et_K) (G' : eg_G) (c' s' : Nat), et_ex w.1 K' → et_fr M w.1 w.2.2 G' → et_H T K' G' → et_v K' q v → c' ≤ c → s' ≤ s → et_go none d k (pc + 3) L (v :: r) G' (ck + c') (sk + s') Z) (hx : ∀ (K' : et_K) (G' : eg_G) (c' s' : Nat), et_ex w.1 K' → et_fr M w.1 w.2.2 G' → et_H T K' G' → c' ≤ cx → s' ≤ sx → Z (.inr x, G', ck + c', sk + s')) : hs_cont d k pc L r ck sk Z u := by
  obtain ⟨e, he, K', h1, h2, h3, h4, h5, h6⟩ := hu
  obtain ⟨u1, u2, u3, u4⟩ := u
  rcases List.mem_cons.mp he with rfl | he
  · have h4 : u1 = .inr x := h4
    subst h4
    refine ⟨_, ⟨0, fun q _ => ?_⟩, hx K' u2 u3 u4 h1 h2 h3 h5 h6⟩
    unfold eg_bk
    dsimp only
    rw [hm]
  · obtain rfl := List.mem_singleton.mp he
    obtain ⟨v, hv1, hv2⟩ := h4
    have hv1 : u1 = .inl (some v) := hv1
    subst hv1
    exact hs_cb (h v K' u2 u3 u4 h1 h2 h3 hv2 h5 h6)
def ct_M : et_M := [(4, 0, 0), (4, 6, 6), (4, 7, 7), (4, 8, 8), (4, 9, 9), (4, 10, 10), (4, 11, 11), (8, 1, 1), (28, 0, 100000)]
def hq_ct (lo hi : Int) : et_Co := (126, [.inr (.inr (0, 12)), .inl (lo, hi)], ct_M, [(.inl (some (.inl (et_mn, et_mx))), 6, 6144), (.inr 1, 7, 7168)], 36)
def ct_an (k pc : Nat) : Option et_A := if k = 105 then (if pc = 4 then some ([(1, .inl (et_mn, et_mx)), (2, .inl (0, 20))], 2, [], []) else none) else if k = 108 then (if pc = 4 then some ([(1, .inl (et_mn, et_mx)), (2, .inl (0, 6))], 2, [], []) else none) else none
theorem hc_ctA : et_cv et_TT (hq_ct et_mn 5) := et_cok_ok (Ks := []) (an := ct_an) (fun _ h => absurd h List.not_mem_nil) (by decide +kernel)
theorem hc_ctC : et_cv et_TT (hq_ct 7 et_mx) := et_cok_ok (Ks := []) (an := ct_an) (fun _ h => absurd h List.not_mem_nil) (by decide +kernel)
section RCT
variable {w : et_Wd} {K : et_K} {G : eg_G} {d th : Nat}
theorem hn_ct (hH : et_H et_TT K G) (hx0 : et_ex w.1 K) (hf : et_fr ct_M w.1 w.2.2 G) (k_th : K th = some 12) {x y : Int32} {c ck sk : Nat} (hc : c ≤ 6) (hck : ck ≤ c) (hsk : sk ≤ 1024 * c) : et_go none (d + 36) 126 98 [some (.ref th), some (.int x), some (.int y), some (.int (Int32.ofNat c))] [] G ck sk (hi_Z et_TT w ct_M [(.inl (some (.inl (et_mn, et_mx))), 6, 6144), (.inr 1, 7, 7168)]) := by
  induction hm : 6 - c using Nat.strongRecOn generalizing c y ck sk K G with
  | _ z ih =>
    refine hs_iload (i := 3) (p := 99) (by decide +kernel) rfl ?_
    refine hs_aload (i := 0) (p := 100) (by decide +kernel) rfl ?_
    refine ht_getr (T := et_TT) (t := 12) (ci := 10) (f := 0) (p := 103) (by decide +kernel) rfl rfl hH k_th (fun a100 k_a100 e100 => ?_)
    refine ht_getn (T := et_TT) (t := 10) (ci := 8) (f := 9) (p := 106) (by decide +kernel) rfl rfl hH k_a100 (fun c103 h103 e103 => ?_)
    refine hs_br2n (c := .ge) (t := 151) (f := 109) (by decide +kernel) (by omega) (by omega) (fun (c106 : c103 ≤ c) => ?_) (fun (c106 : ¬ (c103 ≤ c)) => ?_)
    · refine hs_iload (i := 2) (p := 152) (by decide +kernel) rfl ?_
      refine hs_iret (by decide +kernel) ?_
      exact ⟨_, List.mem_cons_self, _, hx0, hf, hH, ⟨_, rfl, hi_any⟩, by show ck ≤ 6; omega, by show sk ≤ 6144; omega⟩
    · refine hs_iload (i := 2) (p := 110) (by decide +kernel) rfl ?_
      refine hs_aload (i := 0) (p := 111) (by decide +kernel) rfl ?_
      refine ht_getr (T := et_TT) (t := 12) (ci := 10) (f := 0) (p := 114) (by decide +kernel) rfl rfl hH k_th (fun a111 k_a111 e111 => ?_)
      refine ht_getr (T := et_TT) (t := 10) (ci := 8) (f := 10) (p := 117) (by decide +kernel) rfl rfl hH k_a111 (fun a114 k_a114 e114 => ?_)
      refine hs_iload (i := 3) (p := 118) (by decide +kernel) rfl ?_
      refine ht_aald (T := et_TT) (t := 39) (N := 6) (kd := 8) (m := 5) (p := 119) (by decide +kernel) rfl rfl hH k_a114 (by omega) (by omega) (by decide) (fun v118 h118 e118 => ?_)
      rcases hi_q h118 with rfl | ⟨a118, rfl, k_a118⟩
      · refine hs_ifnull0 (p := 142) (by decide +kernel) ?_
        refine hs_k (x := Int32.ofNat 0) (p := 143) (by decide +kernel) ?_
        refine hs_iadd (p := 144) (by decide +kernel) ?_
        refine hs_istore (i := 2) (p := 145) (by decide +kernel) (Nat.le_of_ble_eq_true rfl) ?_
        refine hs_iinc1 (i := 3) (p := 148) (by decide +kernel) rfl (Nat.le_of_ble_eq_true rfl) ?_
        refine hs_goto (p := 98) (by decide +kernel) ?_
        show et_go none (d + 36) 126 98 [some (.ref th), some (.int x), some (.int (y + Int32.ofNat 0)), some (.int (Int32.ofNat (c + 1)))] [] _ ck sk _
        exact ih (6 - (c + 1)) (by omega) hH hx0 hf k_th (by omega) (by omega) (by omega) rfl
      · refine hs_ifnull1 (p := 122) (by decide +kernel) ?_
        refine hs_aload (i := 0) (p := 123) (by decide +kernel) rfl ?_
        refine hs_aload (i := 0) (p := 124) (by decide +kernel) rfl ?_
        refine ht_getr (T := et_TT) (t := 12) (ci := 10) (f := 0) (p := 127) (by decide +kernel) rfl rfl hH k_th (fun a124 k_a124 e124 => ?_)
        refine ht_getr (T := et_TT) (t := 10) (ci := 8) (f := 10) (p := 130) (by decide +kernel) rfl rfl hH k_a124 (fun a127 k_a127 e127 => ?_)
        refine hs_iload (i := 3) (p := 131) (by decide +kernel) rfl ?_
        refine ht_aald (T := et_TT) (t := 39) (N := 6) (kd := 8) (m := 5) (p := 132) (by decide +kernel) rfl rfl hH k_a127 (by omega) (by omega) (by decide) (fun v131 h131 e131 => ?_)
        have q124 : a124 = a111 := Value.ref.inj (Option.some.inj (e124.symm.trans e111))
        rw [q124] at e127
        have q127 : a127 = a114 := Value.ref.inj (Option.some.inj (e127.symm.trans e114))
        rw [q127] at e131
        obtain rfl : v131 = .ref a118 := Option.some.inj (e131.symm.trans e118)
        refine ht_callv (T := et_TT) (t := 12) (mi := 127) (na := 1) (ci := 10) (lk := 4) (lm := 4) (L0 := eg_en (eg_mL 127) [.ref th, .ref a118]) (by decide +kernel) rfl hH k_th rfl rfl rfl rfl rfl (by rw [show eg_mL 127 = 4 from by decide +kernel]; first | done | rfl) ?_
        refine (ek_c27 (K, [], G) [.ref th, .ref a118] _ hH (by show 34 ≤ _; omega) rfl (ht_ac (.inr ⟨by decide, _, rfl, k_th⟩) (ht_ac (.inr ⟨by decide, _, rfl, k_a118⟩) ht_an))).mono (fun u hu => hs_cbx (by decide +kernel) hu (fun v132 K132 G132 c132 s132 x132 f132 hH hv132 cl132 sl132 => ?_) (fun K132 G132 c132 s132 x132 f132 hH cl132 sl132 => ?_))
        · have k_th := x132 _ _ k_th
          have hf := hf.tr hx0 (f132.wk (by decide +kernel))
          have hx0 := hx0.tr x132
          obtain ⟨n132, hn132, rfl⟩ := hi_nat hv132
          show et_go none _ 126 135 _ [.int (Int32.ofNat n132), .int y] _ (ck + c132) (sk + s132) _
          refine hs_br1 (c := .eq) (t := 142) (f := 138) (by decide +kernel) (fun (c135 : Int32.ofNat n132 = 0) => ?_) (fun (c135 : ¬ (Int32.ofNat n132 = 0)) => ?_)
          · refine hs_k (x := Int32.ofNat 0) (p := 143) (by decide +kernel) ?_
            refine hs_iadd (p := 144) (by decide +kernel) ?_
            refine hs_istore (i := 2) (p := 145) (by decide +kernel) (Nat.le_of_ble_eq_true rfl) ?_
            refine hs_iinc1 (i := 3) (p := 148) (by decide +kernel) rfl (Nat.le_of_ble_eq_true rfl) ?_
            refine hs_goto (p := 98) (by decide +kernel) ?_
            show et_go none (d + 36) 126 98 [some (.ref th), some (.int x), some (.int (y + Int32.ofNat 0)), some (.int (Int32.ofNat (c + 1)))] [] _ (ck + c132) (sk + s132) _
            exact ih (6 - (c + 1)) (by omega) hH hx0 hf k_th (by omega) (by omega) (by omega) rfl
          · refine hs_k (x := Int32.ofNat 1) (p := 139) (by decide +kernel) ?_
            refine hs_goto (p := 143) (by decide +kernel) ?_
            refine hs_iadd (p := 144) (by decide +kernel) ?_
            refine hs_istore (i := 2) (p := 145) (by decide +kernel) (Nat.le_of_ble_eq_true rfl) ?_
            refine hs_iinc1 (i := 3) (p := 148) (by decide +kernel) rfl (Nat.le_of_ble_eq_true rfl) ?_
            refine hs_goto (p := 98) (by decide +kernel) ?_
            show et_go none (d + 36) 126 98 [some (.ref th), some (.int x), some (.int (y + Int32.ofNat 1)), some (.int (Int32.ofNat (c + 1)))] [] _ (ck + c132) (sk + s132) _
            exact ih (6 - (c + 1)) (by omega) hH hx0 hf k_th (by omega) (by omega) (by omega) rfl
        · exact ⟨_, List.mem_cons_of_mem _ List.mem_cons_self, K132, hx0.tr x132, hf.tr hx0 (f132.wk (by decide +kernel)), hH, rfl, by show ck + c132 ≤ 7; omega, by show sk + s132 ≤ 7168; omega⟩
theorem hc_ctB : et_cv et_TT (hq_ct 6 6) := by
  intro w as d2 hH hd hl hv
  obtain ⟨v, v1, rfl⟩ := hi_len2 (show as.length = 2 from hl)
  obtain ⟨th, rfl, k_th⟩ := hi_ref (hv 0 _ _ rfl rfl)
  obtain ⟨x, rfl, x1, x2⟩ := hi_int (hv 1 _ _ rfl rfl)
  obtain rfl : x = Int32.ofNat 6 := Int32.toInt_inj.mp (by rw [hs_nint (by decide)]; omega)
  obtain ⟨d, rfl⟩ : ∃ d, d2 = d + 36 := ⟨d2 - 36, by have : 36 ≤ d2 := hd; omega⟩
  rw [show eg_mL 126 = 4 from by decide +kernel]
  show et_go none (d + 36) 126 0 [some (.ref th), some (.int (Int32.ofNat 6)), none, none] [] w.2.2 0 0 (hi_Z et_TT w ct_M [(.inl (some (.inl (et_mn, et_mx))), 6, 6144), (.inr 1, 7, 7168)])
  refine hs_k (x := Int32.ofNat 0) (p := 1) (by decide +kernel) ?_
  refine hs_istore (i := 2) (p := 2) (by decide +kernel) (Nat.le_of_ble_eq_true rfl) ?_
  refine hs_iload (i := 1) (p := 3) (by decide +kernel) rfl ?_
  refine hs_st (ins := .tableswitch 158 0 7 #[45, 53, 61, 69, 77, 85, 93, 150]) (len := 45) (by decide +kernel) rfl (by rfl) (?_ : et_go none (d + 36) 126 96 _ _ _ _ _ _)
  refine hs_k (x := Int32.ofNat 0) (p := 97) (by decide +kernel) ?_
  refine hs_istore (i := 3) (p := 98) (by decide +kernel) (Nat.le_of_ble_eq_true rfl) ?_
  exact hn_ct hH et_ex.rf et_fr.rf k_th (Nat.zero_le _) (Nat.zero_le _) (Nat.zero_le _)
theorem hc_count : et_cv et_TT (hq_ct et_mn et_mx) := et_cv_sp (by decide) (et_cv_sp (m := 5) (n := 6) (by decide) hc_ctA hc_ctB) hc_ctC
end RCT
end
section
/-! THE PARSER: loops and contracts, written by program (gen54.py) -/
-- KnobEye$Reader.endOf.(I)I
def ep_an71 (pc : Nat) : Option et_A := if pc = 4 then some ([(2, .inl (1, 400))], 0, [], []) else none
-- KnobEye$Reader.numberOf.(II)I
def ep_an74 (pc : Nat) : Option et_A := if pc = 26 then some ([(3, .inl (et_mn, et_mx)), (4, .inl (0, 400))], 2, [], []) else none
def ep_an (k pc : Nat) : Option et_A := if k < 74 then (if k = 71 then ep_an71 pc else none) else (if k = 74 then ep_an74 pc else none)
-- KnobEye$Reader.is.(LKnobEye$Word;)Z, 19 steps
def ep_q0 : et_Co := (78, [.inr (.inr (0, 7)), .inr (.inr (0, 0))], [], [(.inl (some (.inl (0, 1))), 0, 0)], 1)
-- KnobEye$Reader.goesOn.(I)Z, 153 steps
def ep_q1 : et_Co := (68, [.inr (.inr (0, 7)), .inl (et_mn, et_mx)], [], [(.inl (some (.inl (0, 1))), 0, 0)], 2)
-- KnobEye$Reader.endOf.(I)I, 171 steps
def ep_q2 : et_Co := (71, [.inr (.inr (0, 7)), .inl (0, 399)], [], [(.inl (some (.inl (0, 400))), 0, 0)], 3)
-- KnobEye$Reader.numberOf.(II)I, 51 steps
def ep_q3 : et_Co := (74, [.inr (.inr (0, 7)), .inl (0, 399), .inl (0, 400)], [], [(.inl (some (.inl (et_mn, et_mx))), 0, 0)], 2)
-- KnobEye$Reader.fail.()LKnobEye$Node;, 22 steps
def ep_q4 : et_Co := (76, [.inr (.inr (0, 7))], [(7, 2, 2)], [(.inl (some (.inr (.inr (2, 6)))), 0, 0)], 1)
-- KnobEye$Reader.takeNumber.(I)I, 165 steps
def ep_q5 : et_Co := (83, [.inr (.inr (0, 7)), .inl (et_mn, et_mx)], [(7, 2, 2), (7, 8, 8)], [(.inl (some (.inl ((-1), et_mx))), 0, 0)], 2)
def hq_wordOf : et_Co := (72, [.inr (.inr (0, 7)), .inl (0, 399), .inl (et_mn, et_mx), .inl (et_mn, et_mx)], [], [(.inl (some (.inr (.inr (0, 0)))), 0, 0)], 4)
/-! THE PARSER: contracts hold -/
theorem ep_c0 : et_cv et_TT ep_q0 := et_cok_ok (Ks := []) (an := ep_an) (fun _ h => absurd h List.not_mem_nil) (by decide +kernel)
theorem ep_c1 : et_cv et_TT ep_q1 := et_cok_ok (Ks := []) (an := ep_an) (fun _ h => absurd h List.not_mem_nil) (by decide +kernel)
theorem ep_c2 : et_cv et_TT ep_q2 := et_cok_ok (Ks := []) (an := ep_an) (fun _ h => absurd h List.not_mem_nil) (by decide +kernel)
theorem ep_c3 : et_cv et_TT ep_q3 := et_cok_ok (Ks := []) (an := ep_an) (fun _ h => absurd h List.not_mem_nil) (by decide +kernel)
theorem ep_c4 : et_cv et_TT ep_q4 := et_cok_ok (Ks := []) (an := ep_an) (fun _ h => absurd h List.not_mem_nil) (by decide +kernel)
theorem ep_c5 : et_cv et_TT ep_q5 := et_cok_ok (Ks := []) (an := ep_an) (fun _ h => absurd h List.not_mem_nil) (by decide +kernel)
end
