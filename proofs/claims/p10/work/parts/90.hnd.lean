/-! BY HAND: the pairs of a search -/
/-- a run whose start knows one field more -/
theorem et_go_c {T : List et_D} {Ks : List et_Co} {an : Nat → Nat → Option et_A} {mi d f a d2 : Nat} {ps : List et_P} {M : et_M} {lo hi : Int} {os : List et_O} {w : et_Wd} {as : List Value} {x : Int32} {Z : eg_O → Prop} (hK : ∀ q ∈ Ks, et_cv T q) (hl0 : ps.length < 100)
    (hos : et_rn T M Ks an 100000 [] none ((ps ++ [(.inl (lo, hi) : et_P)]).map (fun p => (p, none))) [(0, f, .float (UInt32.ofNat ps.length))] d mi 0 (eg_en (eg_mL mi) (et_ar 0 ps)) [] 0 0 = some os)
    (hH : et_H T w.1 w.2.2) (hd : d ≤ d2) (hl : as.length = ps.length) (hv : ∀ (i : Nat) (p : et_P) (v : Value), ps[i]? = some p → as[i]? = some v → et_v w.1 p v) (ha : as[0]? = some (.ref a)) (hlt : a < w.2.2.2) (hp : et_pl (eg_at w.2.2 a) f = some (.int x)) (h1 : lo ≤ x.toInt) (h2 : x.toInt ≤ hi)
    (hZ : ∀ o ∈ os, ∀ (w' : et_Wd) (u : eg_O), et_le M (w.1, as ++ [.int x], w.2.2) w' → et_end T w' o u → Z u) : et_go none d2 mi 0 (eg_en (eg_mL mi) as) [] w.2.2 0 0 Z := by
  have hR : ∀ (i : Nat) (v : Value), as[i]? = some v → (as ++ [.int x])[i]? = some v := fun i v hi => et_get_mono hi
  have e0 : et_eo w.1 as (ps.map (fun p => (p, none))) := ⟨by rw [List.length_map]; exact hl, fun k p dd hk => by
    rw [List.getElem?_map] at hk
    cases hp : ps[k]? with
    | none => rw [hp] at hk; cases hk
    | some p' =>
      rw [hp] at hk
      cases hk
      have hlt : k < as.length := by rw [hl]; exact (List.getElem?_eq_some_iff.mp hp).1
      exact ⟨as[k], List.getElem?_eq_getElem hlt, hv k p _ hp (List.getElem?_eq_getElem hlt), fun _ _ h => (nomatch h)⟩⟩
  have e1 : et_eo w.1 (as ++ [.int x]) ((ps ++ [(.inl (lo, hi) : et_P)]).map (fun p => (p, none))) := by
    rw [List.map_append]
    exact et_eo_mono e0 ⟨x, rfl, h1, h2⟩
  refine et_rn_ok hK 100000 _ _ _ _ _ _ _ _ _ _ _ _ hos none (w.1, as ++ [.int x], w.2.2) (eg_en (eg_mL mi) as) [] 0 0 d2 _ ⟨hH, e1, fun e he => ?_, et_lr_en (eg_mL mi) (et_ar_sr (K := w.1) (n := 0) (by omega) hl hv (fun i v hi => by rw [Nat.zero_add]; exact hR i v hi)), rfl⟩ (Nat.le_refl _) (Nat.le_refl _) hd rfl (fun _ hm => absurd hm List.not_mem_nil) hZ
  obtain rfl := List.mem_singleton.mp he
  refine ⟨a, .int x, hR 0 _ ha, hlt, hp, x, rfl, ?_⟩
  show (as ++ [Value.int x])[(UInt32.ofNat ps.length).toNat]? = _
  rw [show (UInt32.ofNat ps.length).toNat = ps.length from by rw [UInt32.toNat_ofNat']; omega, ← hl, List.getElem?_append_right (Nat.le_refl _), Nat.sub_self]
  rfl
/-- does an end's cache say that the field is what it was, or one more -/
def et_c1 (f n : Nat) (o : et_O) : Bool := (match o.2.2.1 with
  | .inl none => true
  | _ => false) && (decide (o.2.2.2.1 = 0) && decide (o.2.2.2.2 = 0)) && o.2.1.any (fun e => decide (e.1 = 0) && decide (e.2.1 = f) && (match e.2.2 with
    | .float k => decide (k.toNat = n) || (match o.1[k.toNat]? with
      | some (_, some (j, c)) => decide (j = n) && decide (c = 1)
      | _ => false)
    | _ => false))
theorem et_c1_ok {T : List et_D} {f n a : Nat} {o : et_O} {w w' : et_Wd} {M : et_M} {u : eg_O} {x : Int32} {as : List Value} (h : et_c1 f n o = true) (hle : et_le M (w.1, as ++ [.int x], w.2.2) w') (hen : et_end T w' o u) (hn : as.length = n) (ha : as[0]? = some (.ref a)) : hi_Z T w M [(.inl none, 0, 0)] u ∧ ∃ y : Int32, et_pl (eg_at u.2.1 a) f = some (.int y) ∧ (y = x ∨ y.toInt = x.toInt + 1) := by
  obtain ⟨b1, b2, b3, b4, b5, b6, b7⟩ := hen
  obtain ⟨a1, ⟨R1, aR⟩, a3⟩ := hle
  unfold et_c1 at h
  rw [Bool.and_eq_true, Bool.and_eq_true, Bool.and_eq_true] at h
  obtain ⟨⟨h1, h2, h3⟩, h4⟩ := h
  have h2 := of_decide_eq_true h2
  have h3 := of_decide_eq_true h3
  refine ⟨⟨_, List.mem_cons_self, w'.1, a1, by rw [b1]; exact a3, by rw [b1]; exact b2, ?_, by rw [← h2]; exact b6, by rw [← h3]; exact b7⟩, ?_⟩
  · obtain ⟨oE, oC, ov, oc, osk⟩ := o
    dsimp only at h1 b5 ⊢
    split at h1
    · exact b5
    · cases h1
  · obtain ⟨e, he, h5⟩ := List.any_eq_true.mp h4
    rw [Bool.and_eq_true, Bool.and_eq_true] at h5
    obtain ⟨⟨i1, i2⟩, i3⟩ := h5
    have i1 := of_decide_eq_true i1
    have i2 := of_decide_eq_true i2
    obtain ⟨a', v, c1, c2, c3, c4⟩ := b4 e he
    have hx : w'.2.1[n]? = some (.int x) := by
      rw [aR, ← hn]
      exact (List.getElem?_append_left (by rw [List.length_append]; exact Nat.lt_succ_self _)).trans (by rw [List.getElem?_append_right (Nat.le_refl _), Nat.sub_self]; rfl)
    have h0 : w'.2.1[0]? = some (.ref a) := by
      rw [aR]
      have g : (as ++ [Value.int x])[0]? = some (.ref a) := et_get_mono ha
      rw [List.getElem?_append_left (List.getElem?_eq_some_iff.mp g).1]
      exact g
    rw [i1, h0] at c1
    cases c1
    rw [i2] at c3
    split at i3
    · rename_i k ek
      rw [ek] at c4
      obtain ⟨y, rfl, c5⟩ := c4
      refine ⟨y, by rw [b1]; exact c3, ?_⟩
      rw [Bool.or_eq_true] at i3
      rcases i3 with i3 | i3
      · rw [of_decide_eq_true i3, hx] at c5
        cases c5
        exact .inl rfl
      · split at i3
        · rename_i j c hk
          rw [Bool.and_eq_true] at i3
          obtain ⟨v, g1, -, g3⟩ := b3.2 _ _ _ hk
          rw [c5] at g1
          cases g1
          obtain ⟨x', y', g4, g5, g6⟩ := g3 _ _ rfl
          cases g4
          rw [of_decide_eq_true i3.1, hx] at g5
          cases g5
          rw [of_decide_eq_true i3.2] at g6
          exact .inr g6
        · cases i3
    · cases i3

def ha_an (k pc : Nat) : Option et_A := if k = 92 then (if pc = 14 then some ([(4, .inl (0, 6))], 0, [(45, 0, 100000)], []) else none) else none
def ha_M : et_M := [(9, 5, 5), (45, 0, 100000)]
def ha_p : List et_P := [.inr (.inr (0, 9)), .inr (.inr (0, 3)), .inl (et_mn, et_mx), .inl (et_mn, et_mx)]
theorem hc_add0 : (match et_rn et_TT ha_M [] ha_an 100000 [] none ((ha_p ++ [(.inl (0, 151) : et_P)]).map (fun p => (p, none))) [(0, 5, .float (UInt32.ofNat ha_p.length))] 3 92 0 (eg_en (eg_mL 92) (et_ar 0 ha_p)) [] 0 0 with
  | none => false
  | some os => os.all (et_c1 5 4)) = true := by decide +kernel
theorem hc_addc {K : et_K} {G : eg_G} {d se ey cc : Nat} {l m : Int32} (hH : et_H et_TT K G) (hd : 3 ≤ d) (hs : K se = some 9) (he : K ey = some 3) (hp : et_pl (eg_at G se) 5 = some (.int (Int32.ofNat cc))) (h2 : cc ≤ 151) : et_go none d 92 0 (eg_en (eg_mL 92) [.ref se, .ref ey, .int l, .int m]) [] G 0 0 (fun u => hi_Z et_TT (K, [], G) ha_M [(.inl none, 0, 0)] u ∧ ∃ c2, et_pl (eg_at u.2.1 se) 5 = some (.int (Int32.ofNat c2)) ∧ c2 ≤ cc + 1) := by
  have h0 := hc_add0
  have a1 : (Int32.ofNat cc).toInt = (cc : Int) := hs_nint (by omega)
  split at h0
  · cases h0
  · rename_i os hos
    refine et_go_c (T := et_TT) (Ks := []) (an := ha_an) (ps := ha_p) (M := ha_M) (lo := 0) (hi := 151) (w := (K, [], G)) (as := [.ref se, .ref ey, .int l, .int m]) (fun _ h => absurd h List.not_mem_nil) (by decide) hos hH hd rfl (ht_ac (.inr ⟨by decide, _, rfl, hs⟩) (ht_ac (.inr ⟨by decide, _, rfl, he⟩) (ht_ac hi_any (ht_ac hi_any ht_an)))) rfl (hH.2.2 se 9 hs).1 hp (by omega) (by omega) (fun o ho w' u hle hen => ?_)
    obtain ⟨b1, y, b2, b3⟩ := et_c1_ok (List.all_eq_true.mp h0 o ho) hle hen rfl rfl
    refine ⟨b1, ?_⟩
    rcases b3 with rfl | b3
    · exact ⟨cc, b2, by omega⟩
    · refine ⟨cc + 1, ?_, Nat.le_refl _⟩
      have q : y = Int32.ofNat (cc + 1) := Int32.toInt_inj.mp (by rw [b3, a1, hs_nint (by omega)]; omega)
      rw [b2, q]
theorem hs_cbc {T : List et_D} {M : et_M} {d k pc ck sk : Nat} {L : eg_Ls} {r : List Value} {Z : eg_O → Prop} {w : et_Wd} {u : eg_O} {P : eg_G → Prop} (hu : hi_Z T w M [(.inl none, 0, 0)] u ∧ P u.2.1) (h : ∀ (K' : et_K) (G' : eg_G), et_ex w.1 K' → et_fr M w.1 w.2.2 G' → et_H T K' G' → P G' → et_go none d k (pc + 3) L r G' ck sk Z) : hs_cont d k pc L r ck sk Z u := by
  obtain ⟨⟨e, he, K', h1, h2, h3, h4, h5, h6⟩, hP⟩ := hu
  obtain rfl := List.mem_singleton.mp he
  obtain ⟨u1, u2, u3, u4⟩ := u
  have h4 : u1 = .inl none := h4
  subst h4
  obtain rfl : u3 = 0 := Nat.le_zero.mp h5
  obtain rfl : u4 = 0 := Nat.le_zero.mp h6
  exact hs_cb (h K' u2 h1 h2 h3 hP)
theorem ht_zld {T : List et_D} {K : et_K} {d k pc ck sk a t n N p : Nat} {L : eg_Ls} {r : List Value} {G : eg_G} {Z : eg_O → Prop} {ss : List (Nat × Nat × et_P)} (hc : hs_o k pc = some (.baload, p)) (hT : T[t]? = some (.inr (3, N, ss))) (hH : et_H T K G) (ha : K a = some t) (hn : n < N) (hN : N < 2147483648) (h : ∀ x : Int32, et_pl (eg_at G a) n = some (.int x) → et_go none d k p L (.int x :: r) G ck sk Z) : et_go none d k pc L (.int (Int32.ofNat n) :: .ref a :: r) G ck sk Z := by
  obtain ⟨f, e, h1, -⟩ := hi_arr hH ha hT (by omega) (.inr (.inr (.inl rfl)))
  refine hs_zald hc e (hH.2.2 a t ha).1 hN hn (h _ ?_)
  rw [e]
  show (if n < N then some (Value.int (f n)) else none) = _
  rw [if_pos hn]
def cn (Y : Nat → Bool) : Nat → Nat
  | 0 => 0
  | n + 1 => cn Y n + (if Y n = true then 1 else 0)
theorem cn_le (Y : Nat → Bool) : ∀ n, cn Y n ≤ n
  | 0 => Nat.le_refl _
  | n + 1 => by
    have := cn_le Y n
    show cn Y n + _ ≤ _
    split <;> omega
theorem cn_s (Y : Nat → Bool) (n : Nat) : cn Y (n + 1) = cn Y n + (if Y n = true then 1 else 0) := rfl
theorem cn_m (Y : Nat → Bool) {a : Nat} : ∀ {b : Nat}, a ≤ b → cn Y a ≤ cn Y b ∧ cn Y b ≤ cn Y a + (b - a)
  | 0, h => by
    obtain rfl : a = 0 := by omega
    exact ⟨Nat.le_refl _, by omega⟩
  | b + 1, h => by
    by_cases e : a = b + 1
    · subst e
      exact ⟨Nat.le_refl _, by omega⟩
    · have := cn_m Y (a := a) (b := b) (by omega)
      rw [cn_s]
      split <;> omega
theorem cn_100 : ∀ a ∈ List.range 21, ∀ b ∈ List.range 21, a + b ≤ 20 → a * b ≤ 100 := by decide +kernel
theorem hb_3 {Y : Nat → Bool} {h m0 : Nat} (hh : h ≤ m0) (hm : m0 ≤ 20) : cn Y h * (m0 - cn Y m0) ≤ 100 := by
  have a := cn_m Y hh
  have b := cn_le Y m0
  exact Nat.le_trans (Nat.mul_le_mul_right _ a.1) (cn_100 _ (List.mem_range.mpr (by omega)) _ (List.mem_range.mpr (by omega)) (by omega))
def hb_I (Y : Nat → Bool) (m0 h l cc : Nat) : Prop := cc ≤ cn Y h * (m0 - cn Y m0) + (if Y h = true then l - cn Y l else 0)
theorem hb_s {Y : Nat → Bool} {m0 h l cc : Nat} (i : hb_I Y m0 h l cc) : hb_I Y m0 h (l + 1) cc := by
  unfold hb_I at i ⊢
  have := cn_le Y l
  rw [cn_s]
  split at i <;> split <;> first | omega | (rename_i h1 h2; first | (split <;> omega) | exact absurd h1 h2 | exact absurd h2 h1)
theorem hb_n {Y : Nat → Bool} {m0 h l cc c2 : Nat} (i : hb_I Y m0 h l cc) (yh : Y h = true) (yl : ¬ Y l = true) (hc : c2 ≤ cc + 1) : hb_I Y m0 h (l + 1) c2 := by
  unfold hb_I at i ⊢
  have := cn_le Y l
  rw [if_pos yh] at i ⊢
  rw [cn_s, if_neg yl]
  omega
theorem hb_x {Y : Nat → Bool} {m0 h l cc : Nat} (i : hb_I Y m0 h l cc) (hl : l ≤ m0) : cc ≤ cn Y (h + 1) * (m0 - cn Y m0) := by
  unfold hb_I at i
  have a := cn_m Y hl
  rw [cn_s]
  split
  · rename_i y
    rw [if_pos y] at i
    rw [Nat.add_mul, Nat.one_mul]
    omega
  · rename_i y
    rw [if_neg y] at i
    exact i
theorem hb_le {Y : Nat → Bool} {m0 h l cc : Nat} (i : hb_I Y m0 h l cc) (hl : l ≤ m0) (hh : h < m0) (hm : m0 ≤ 20) : cc ≤ 100 := Nat.le_trans (hb_x i hl) (hb_3 (by omega) hm)
theorem hb_cc {a b : Nat} {v : Option Value} (e : v = some (.int (Int32.ofNat a))) (e2 : v = some (.int (Int32.ofNat b))) (h : a < 2147483648) (h2 : b < 2147483648) : a = b := by
  rw [e] at e2
  have := congrArg Int32.toInt (Value.int.inj (Option.some.inj e2))
  rw [hs_nint h, hs_nint h2] at this
  omega
def hb_M : et_M := [(9, 4, 4), (9, 5, 5), (9, 6, 6), (9, 7, 7), (9, 8, 8), (9, 9, 9), (9, 13, 13), (9, 15, 15), (9, 16, 16), (45, 0, 100000)]
def hb_Z (w : et_Wd) (se : Nat) (u : eg_O) : Prop := hi_Z et_TT w hb_M [(.inl none, 0, 0)] u ∧ ∃ cc, et_pl (eg_at u.2.1 se) 5 = some (.int (Int32.ofNat cc)) ∧ cc ≤ 100
def hb_Y (G : eg_G) (ya j : Nat) : Bool := match et_pl (eg_at G ya) j with
  | some (.int x) => decide (¬ x = 0)
  | _ => false
theorem hb_t {G : eg_G} {ya j : Nat} {x : Int32} (e : et_pl (eg_at G ya) j = some (.int x)) (h : ¬ x = 0) : hb_Y G ya j = true := by
  unfold hb_Y
  rw [e]
  exact decide_eq_true h
theorem hb_f {G : eg_G} {ya j : Nat} {x : Int32} (e : et_pl (eg_at G ya) j = some (.int x)) (h : ¬ ¬ x = 0) : ¬ hb_Y G ya j = true := by
  unfold hb_Y
  rw [e]
  exact fun h2 => h (of_decide_eq_true h2)
theorem hb_y {w : et_Wd} {G : eg_G} {st ya b j : Nat} {x : Int32} (hf : et_fr hb_M w.1 w.2.2 G) (hst : w.1 st = some 10) (h0 : et_pl (eg_at w.2.2 st) 4 = some (.ref ya)) (hya : w.1 ya = some 27) (e : et_pl (eg_at G st) 4 = some (.ref b)) (e2 : et_pl (eg_at G b) j = some (.int x)) : et_pl (eg_at w.2.2 ya) j = some (.int x) := by
  have q := (hf.2 st 10 hst 4 rfl).symm.trans e
  rw [h0] at q
  cases q
  exact (hf.2 ya 27 hya j (by
    unfold et_mm hb_M
    simp)).symm.trans e2
theorem hb_m {K : et_K} {G : eg_G} {st : Nat} (hH : et_H et_TT K G) (hs : K st = some 10) : ∃ m0 : Nat, et_pl (eg_at G st) 2 = some (.int (Int32.ofNat m0)) ∧ m0 ≤ 20 := by
  obtain ⟨-, -, -, dd, hd, hc, -⟩ := hH.2.2 st 10 hs
  cases hd
  obtain ⟨fs, ef, el, hff⟩ := hc
  obtain ⟨u, hu1, hu2⟩ := hff 2 (.inl (0, 20)) rfl
  obtain ⟨c, c1, rfl⟩ := hi_nat (hu2.resolve_left (by decide))
  rw [ef]
  exact ⟨c, hu1, by omega⟩
theorem hb_ya {K : et_K} {G : eg_G} {st : Nat} (hH : et_H et_TT K G) (hs : K st = some 10) : ∃ ya : Nat, et_pl (eg_at G st) 4 = some (.ref ya) ∧ K ya = some 27 := by
  obtain ⟨-, -, -, dd, hd, hc, -⟩ := hH.2.2 st 10 hs
  cases hd
  obtain ⟨fs, ef, el, hff⟩ := hc
  obtain ⟨u, hu1, hu2⟩ := hff 4 (.inr (.inr (0, 27))) rfl
  obtain ⟨a, rfl, ha⟩ := hi_ref (hu2.resolve_left (by decide))
  rw [ef]
  exact ⟨a, hu1, ha⟩
section RBG
variable {w : et_Wd} {K : et_K} {G : eg_G} {d se ey st ya m0 kk : Nat} {ma : Int32}
theorem hn_bI {cc : Nat} (hH : et_H et_TT K G) (hx0 : et_ex w.1 K) (hf : et_fr hb_M w.1 w.2.2 G) (k_se : K se = some 9) (k_ey : K ey = some 3) (k_st : K st = some 10) (hc5 : et_pl (eg_at G se) 5 = some (.int (Int32.ofNat cc))) (z_st : w.1 st = some 10) (hm0 : et_pl (eg_at w.2.2 st) 2 = some (.int (Int32.ofNat m0))) (hm : m0 ≤ 20) (hya0 : et_pl (eg_at w.2.2 st) 4 = some (.ref ya)) (z_ya : w.1 ya = some 27) {h l : Nat} (hh : h < m0) (hl : l ≤ m0) (hi : hb_I (hb_Y w.2.2 ya) m0 h l cc) (hO : ∀ (K : et_K) (G : eg_G) (cc : Nat) (v6 : Option Value), et_H et_TT K G → et_ex w.1 K → et_fr hb_M w.1 w.2.2 G → K se = some 9 → K ey = some 3 → K st = some 10 → et_pl (eg_at G se) 5 = some (.int (Int32.ofNat cc)) → cc ≤ cn (hb_Y w.2.2 ya) (h + 1) * (m0 - cn (hb_Y w.2.2 ya) m0) → et_go none (d + 4) 91 22 [some (.ref se), some (.ref ey), some (.ref st), some (.int ma), some (.int (Int32.ofNat kk)), some (.int (Int32.ofNat (h + 1))), v6] [] G 0 0 (hb_Z w se)) : et_go none (d + 4) 91 40 [some (.ref se), some (.ref ey), some (.ref st), some (.int ma), some (.int (Int32.ofNat kk)), some (.int (Int32.ofNat h)), some (.int (Int32.ofNat l))] [] G 0 0 (hb_Z w se) := by
  induction hmz : m0 - l using Nat.strongRecOn generalizing l cc K G with
  | _ z ih =>
    have hcl := hb_le hi hl hh hm
    refine hs_iload (i := 6) (p := 42) (by decide +kernel) rfl ?_
    refine hs_iload (i := 3) (p := 43) (by decide +kernel) rfl ?_
    refine hs_br2 (c := .ge) (t := 100) (f := 46) (by decide +kernel) (fun (c43 : ma ≤ Int32.ofNat l) => ?_) (fun (c43 : ¬ (ma ≤ Int32.ofNat l)) => ?_)
    · refine hs_iinc1 (i := 5) (p := 103) (by decide +kernel) rfl (Nat.le_of_ble_eq_true rfl) ?_
      refine hs_goto (p := 22) (by decide +kernel) ?_
      show et_go none (d + 4) 91 22 [some (.ref se), some (.ref ey), some (.ref st), some (.int ma), some (.int (Int32.ofNat kk)), some (.int (Int32.ofNat (h + 1))), some (.int (Int32.ofNat l))] [] _ 0 0 _
      exact hO _ _ _ _ hH hx0 hf k_se k_ey k_st hc5 (hb_x hi hl)
    · refine hs_iload (i := 6) (p := 48) (by decide +kernel) rfl ?_
      refine hs_aload (i := 2) (p := 49) (by decide +kernel) rfl ?_
      refine ht_getn (T := et_TT) (t := 10) (ci := 8) (f := 2) (p := 52) (by decide +kernel) rfl rfl hH k_st (fun c49 h49 e49 => ?_)
      have q49 : c49 = m0 := hb_cc ((hf.2 st 10 z_st 2 rfl).symm.trans e49) hm0 (by omega) (by omega)
      refine hs_br2n (c := .ge) (t := 100) (f := 55) (by decide +kernel) (by omega) (by omega) (fun (c52 : c49 ≤ l) => ?_) (fun (c52 : ¬ (c49 ≤ l)) => ?_)
      · refine hs_iinc1 (i := 5) (p := 103) (by decide +kernel) rfl (Nat.le_of_ble_eq_true rfl) ?_
        refine hs_goto (p := 22) (by decide +kernel) ?_
        show et_go none (d + 4) 91 22 [some (.ref se), some (.ref ey), some (.ref st), some (.int ma), some (.int (Int32.ofNat kk)), some (.int (Int32.ofNat (h + 1))), some (.int (Int32.ofNat l))] [] _ 0 0 _
        exact hO _ _ _ _ hH hx0 hf k_se k_ey k_st hc5 (hb_x hi hl)
      · refine hs_aload (i := 2) (p := 56) (by decide +kernel) rfl ?_
        refine ht_getr (T := et_TT) (t := 10) (ci := 8) (f := 4) (p := 59) (by decide +kernel) rfl rfl hH k_st (fun a56 k_a56 e56 => ?_)
        refine hs_iload (i := 5) (p := 61) (by decide +kernel) rfl ?_
        refine ht_zld (T := et_TT) (t := 27) (N := 20) (p := 62) (by decide +kernel) rfl hH k_a56 (by omega) (by decide) (fun x61 s61 => ?_)
        have y61 := hb_y hf z_st hya0 z_ya e56 s61
        refine hs_br1 (c := .eq) (t := 94) (f := 65) (by decide +kernel) (fun (c62 : x61 = 0) => ?_) (fun (c62 : ¬ (x61 = 0)) => ?_)
        · refine hs_iinc1 (i := 6) (p := 97) (by decide +kernel) rfl (Nat.le_of_ble_eq_true rfl) ?_
          refine hs_goto (p := 40) (by decide +kernel) ?_
          show et_go none (d + 4) 91 40 [some (.ref se), some (.ref ey), some (.ref st), some (.int ma), some (.int (Int32.ofNat kk)), some (.int (Int32.ofNat h)), some (.int (Int32.ofNat (l + 1)))] [] _ 0 0 _
          exact ih (m0 - (l + 1)) (by omega) hH hx0 hf k_se k_ey k_st hc5 (by omega) (hb_s hi) rfl
        · have yh := hb_t y61 c62
          refine hs_aload (i := 2) (p := 66) (by decide +kernel) rfl ?_
          refine ht_getr (T := et_TT) (t := 10) (ci := 8) (f := 4) (p := 69) (by decide +kernel) rfl rfl hH k_st (fun a66 k_a66 e66 => ?_)
          refine hs_iload (i := 6) (p := 71) (by decide +kernel) rfl ?_
          refine ht_zld (T := et_TT) (t := 27) (N := 20) (p := 72) (by decide +kernel) rfl hH k_a66 (by omega) (by decide) (fun x71 s71 => ?_)
          have y71 := hb_y hf z_st hya0 z_ya e66 s71
          refine hs_br1 (c := .ne) (t := 94) (f := 75) (by decide +kernel) (fun (c72 : ¬ x71 = 0) => ?_) (fun (c72 : ¬ (¬ x71 = 0)) => ?_)
          · refine hs_iinc1 (i := 6) (p := 97) (by decide +kernel) rfl (Nat.le_of_ble_eq_true rfl) ?_
            refine hs_goto (p := 40) (by decide +kernel) ?_
            show et_go none (d + 4) 91 40 [some (.ref se), some (.ref ey), some (.ref st), some (.int ma), some (.int (Int32.ofNat kk)), some (.int (Int32.ofNat h)), some (.int (Int32.ofNat (l + 1)))] [] _ 0 0 _
            exact ih (m0 - (l + 1)) (by omega) hH hx0 hf k_se k_ey k_st hc5 (by omega) (hb_s hi) rfl
          · have yl := hb_f y71 c72
            refine hs_aload (i := 0) (p := 76) (by decide +kernel) rfl ?_
            refine hs_aload (i := 1) (p := 77) (by decide +kernel) rfl ?_
            refine hs_aload (i := 2) (p := 78) (by decide +kernel) rfl ?_
            refine ht_getr (T := et_TT) (t := 10) (ci := 8) (f := 3) (p := 81) (by decide +kernel) rfl rfl hH k_st (fun a78 k_a78 e78 => ?_)
            refine hs_iload (i := 5) (p := 83) (by decide +kernel) rfl ?_
            refine ht_ild (T := et_TT) (t := 17) (N := 20) (p := 84) (by decide +kernel) rfl hH k_a78 (by omega) (by decide) (fun x83 s83 e83 => ?_)
            refine hs_aload (i := 2) (p := 85) (by decide +kernel) rfl ?_
            refine ht_getr (T := et_TT) (t := 10) (ci := 8) (f := 3) (p := 88) (by decide +kernel) rfl rfl hH k_st (fun a85 k_a85 e85 => ?_)
            refine hs_iload (i := 6) (p := 90) (by decide +kernel) rfl ?_
            refine ht_ild (T := et_TT) (t := 17) (N := 20) (p := 91) (by decide +kernel) rfl hH k_a85 (by omega) (by decide) (fun x90 s90 e90 => ?_)
            refine ht_callv (T := et_TT) (t := 9) (mi := 92) (na := 3) (ci := 7) (lk := 7) (lm := 5) (L0 := eg_en (eg_mL 92) [.ref se, .ref ey, .int x83, .int x90]) (by decide +kernel) rfl hH k_se rfl rfl rfl rfl rfl (by rw [show eg_mL 92 = 5 from by decide +kernel]; first | done | rfl) ?_
            refine (hc_addc hH (by omega) k_se k_ey hc5 (by omega)).mono (fun u hu => hs_cbc (P := fun G => ∃ c2, et_pl (eg_at G se) 5 = some (.int (Int32.ofNat c2)) ∧ c2 ≤ cc + 1) hu (fun K91 G91 x91 f91 hH hc2 => ?_))
            have k_se := x91 _ _ k_se
            have k_ey := x91 _ _ k_ey
            have k_st := x91 _ _ k_st
            have k_a56 := x91 _ _ k_a56
            have k_a66 := x91 _ _ k_a66
            have k_a78 := x91 _ _ k_a78
            have k_a85 := x91 _ _ k_a85
            have hf := hf.tr hx0 (f91.wk (by decide +kernel))
            have hx0 := hx0.tr x91
            obtain ⟨c2, hc5, hc2⟩ := hc2
            show et_go none _ 91 94 _ [] _ 0 0 _
            refine hs_iinc1 (i := 6) (p := 97) (by decide +kernel) rfl (Nat.le_of_ble_eq_true rfl) ?_
            refine hs_goto (p := 40) (by decide +kernel) ?_
            show et_go none (d + 4) 91 40 [some (.ref se), some (.ref ey), some (.ref st), some (.int ma), some (.int (Int32.ofNat kk)), some (.int (Int32.ofNat h)), some (.int (Int32.ofNat (l + 1)))] [] _ 0 0 _
            exact ih (m0 - (l + 1)) (by omega) hH hx0 hf k_se k_ey k_st hc5 (by omega) (hb_n hi yh yl hc2) rfl
theorem hn_bO {cc : Nat} {v6 : Option Value} (hH : et_H et_TT K G) (hx0 : et_ex w.1 K) (hf : et_fr hb_M w.1 w.2.2 G) (k_se : K se = some 9) (k_ey : K ey = some 3) (k_st : K st = some 10) (hc5 : et_pl (eg_at G se) 5 = some (.int (Int32.ofNat cc))) (z_st : w.1 st = some 10) (hm0 : et_pl (eg_at w.2.2 st) 2 = some (.int (Int32.ofNat m0))) (hm : m0 ≤ 20) (hya0 : et_pl (eg_at w.2.2 st) 4 = some (.ref ya)) (z_ya : w.1 ya = some 27) {h : Nat} (hh : h ≤ m0) (hi : cc ≤ cn (hb_Y w.2.2 ya) h * (m0 - cn (hb_Y w.2.2 ya) m0)) : et_go none (d + 4) 91 22 [some (.ref se), some (.ref ey), some (.ref st), some (.int ma), some (.int (Int32.ofNat kk)), some (.int (Int32.ofNat h)), v6] [] G 0 0 (hb_Z w se) := by
  induction hmz : m0 - h using Nat.strongRecOn generalizing h cc v6 K G with
  | _ z ih =>
    have hcl := Nat.le_trans hi (hb_3 hh hm)
    refine hs_iload (i := 5) (p := 24) (by decide +kernel) rfl ?_
    refine hs_iload (i := 3) (p := 25) (by decide +kernel) rfl ?_
    refine hs_br2 (c := .ge) (t := 106) (f := 28) (by decide +kernel) (fun (c25 : ma ≤ Int32.ofNat h) => ?_) (fun (c25 : ¬ (ma ≤ Int32.ofNat h)) => ?_)
    · refine hs_aload (i := 0) (p := 107) (by decide +kernel) rfl ?_
      refine hs_aload (i := 0) (p := 108) (by decide +kernel) rfl ?_
      refine ht_getn (T := et_TT) (t := 9) (ci := 7) (f := 5) (p := 111) (by decide +kernel) rfl rfl hH k_se (fun c108 h108 e108 => ?_)
      have q108 : c108 = cc := hb_cc e108 hc5 (by omega) (by omega)
      refine ht_put (M := [(9, 4, 4)]) (T := et_TT) (t := 9) (ci := 7) (f := 4) (p := 114) (ty := .int) (by decide +kernel) rfl rfl rfl rfl rfl (by decide +kernel) hH k_se (hi_nv (by omega) (by omega)) (fun G111 hH f111 e111 => ?_)
      have hf := hf.tr hx0 (f111.wk (by decide +kernel))
      have hc5 := (f111.2 se 9 k_se 5 rfl).trans hc5
      refine hs_aload (i := 0) (p := 115) (by decide +kernel) rfl ?_
      refine hs_k (x := Int32.ofNat 0) (p := 116) (by decide +kernel) ?_
      refine ht_put (M := [(9, 8, 8)]) (T := et_TT) (t := 9) (ci := 7) (f := 8) (p := 119) (ty := .boolean) (by decide +kernel) rfl rfl rfl (by decide +kernel) rfl (by decide +kernel) hH k_se (hi_nv (by omega) (by omega)) (fun G116 hH f116 e116 => ?_)
      have hf := hf.tr hx0 (f116.wk (by decide +kernel))
      have hc5 := (f116.2 se 9 k_se 5 rfl).trans hc5
      refine hs_aload (i := 0) (p := 120) (by decide +kernel) rfl ?_
      refine hs_k (x := Int32.ofNat 0) (p := 121) (by decide +kernel) ?_
      refine ht_put (M := [(9, 9, 9)]) (T := et_TT) (t := 9) (ci := 7) (f := 9) (p := 124) (ty := .boolean) (by decide +kernel) rfl rfl rfl (by decide +kernel) rfl (by decide +kernel) hH k_se (hi_nv (by omega) (by omega)) (fun G121 hH f121 e121 => ?_)
      have hf := hf.tr hx0 (f121.wk (by decide +kernel))
      have hc5 := (f121.2 se 9 k_se 5 rfl).trans hc5
      refine hs_aload (i := 0) (p := 125) (by decide +kernel) rfl ?_
      refine hs_k (x := Int32.ofNat 0) (p := 126) (by decide +kernel) ?_
      refine ht_put (M := [(9, 13, 13)]) (T := et_TT) (t := 9) (ci := 7) (f := 13) (p := 129) (ty := .boolean) (by decide +kernel) rfl rfl rfl (by decide +kernel) rfl (by decide +kernel) hH k_se (hi_nv (by omega) (by omega)) (fun G126 hH f126 e126 => ?_)
      have hf := hf.tr hx0 (f126.wk (by decide +kernel))
      have hc5 := (f126.2 se 9 k_se 5 rfl).trans hc5
      refine hs_aload (i := 0) (p := 130) (by decide +kernel) rfl ?_
      refine hs_kld (v := Value.int (Int32.ofNat 1073741824)) (p := 132) (by decide +kernel) ?_
      refine ht_put (M := [(9, 15, 15)]) (T := et_TT) (t := 9) (ci := 7) (f := 15) (p := 135) (ty := .int) (by decide +kernel) rfl rfl rfl rfl rfl (by decide +kernel) hH k_se hi_any (fun G132 hH f132 e132 => ?_)
      have hf := hf.tr hx0 (f132.wk (by decide +kernel))
      have hc5 := (f132.2 se 9 k_se 5 rfl).trans hc5
      refine hs_aload (i := 0) (p := 136) (by decide +kernel) rfl ?_
      refine hs_k (x := Int32.ofNat 0) (p := 137) (by decide +kernel) ?_
      refine ht_put (M := [(9, 16, 16)]) (T := et_TT) (t := 9) (ci := 7) (f := 16) (p := 140) (ty := .int) (by decide +kernel) rfl rfl rfl rfl rfl (by decide +kernel) hH k_se hi_any (fun G137 hH f137 e137 => ?_)
      have hf := hf.tr hx0 (f137.wk (by decide +kernel))
      have hc5 := (f137.2 se 9 k_se 5 rfl).trans hc5
      refine hs_vret (by decide +kernel) ?_
      exact ⟨⟨_, List.mem_cons_self, _, hx0, hf, hH, rfl, Nat.le_refl _, Nat.le_refl _⟩, _, hc5, hcl⟩
    · refine hs_iload (i := 5) (p := 30) (by decide +kernel) rfl ?_
      refine hs_aload (i := 2) (p := 31) (by decide +kernel) rfl ?_
      refine ht_getn (T := et_TT) (t := 10) (ci := 8) (f := 2) (p := 34) (by decide +kernel) rfl rfl hH k_st (fun c31 h31 e31 => ?_)
      have q31 : c31 = m0 := hb_cc ((hf.2 st 10 z_st 2 rfl).symm.trans e31) hm0 (by omega) (by omega)
      refine hs_br2n (c := .ge) (t := 106) (f := 37) (by decide +kernel) (by omega) (by omega) (fun (c34 : c31 ≤ h) => ?_) (fun (c34 : ¬ (c31 ≤ h)) => ?_)
      · refine hs_aload (i := 0) (p := 107) (by decide +kernel) rfl ?_
        refine hs_aload (i := 0) (p := 108) (by decide +kernel) rfl ?_
        refine ht_getn (T := et_TT) (t := 9) (ci := 7) (f := 5) (p := 111) (by decide +kernel) rfl rfl hH k_se (fun c108 h108 e108 => ?_)
        have q108 : c108 = cc := hb_cc e108 hc5 (by omega) (by omega)
        refine ht_put (M := [(9, 4, 4)]) (T := et_TT) (t := 9) (ci := 7) (f := 4) (p := 114) (ty := .int) (by decide +kernel) rfl rfl rfl rfl rfl (by decide +kernel) hH k_se (hi_nv (by omega) (by omega)) (fun G111 hH f111 e111 => ?_)
        have hf := hf.tr hx0 (f111.wk (by decide +kernel))
        have hc5 := (f111.2 se 9 k_se 5 rfl).trans hc5
        refine hs_aload (i := 0) (p := 115) (by decide +kernel) rfl ?_
        refine hs_k (x := Int32.ofNat 0) (p := 116) (by decide +kernel) ?_
        refine ht_put (M := [(9, 8, 8)]) (T := et_TT) (t := 9) (ci := 7) (f := 8) (p := 119) (ty := .boolean) (by decide +kernel) rfl rfl rfl (by decide +kernel) rfl (by decide +kernel) hH k_se (hi_nv (by omega) (by omega)) (fun G116 hH f116 e116 => ?_)
        have hf := hf.tr hx0 (f116.wk (by decide +kernel))
        have hc5 := (f116.2 se 9 k_se 5 rfl).trans hc5
        refine hs_aload (i := 0) (p := 120) (by decide +kernel) rfl ?_
        refine hs_k (x := Int32.ofNat 0) (p := 121) (by decide +kernel) ?_
        refine ht_put (M := [(9, 9, 9)]) (T := et_TT) (t := 9) (ci := 7) (f := 9) (p := 124) (ty := .boolean) (by decide +kernel) rfl rfl rfl (by decide +kernel) rfl (by decide +kernel) hH k_se (hi_nv (by omega) (by omega)) (fun G121 hH f121 e121 => ?_)
        have hf := hf.tr hx0 (f121.wk (by decide +kernel))
        have hc5 := (f121.2 se 9 k_se 5 rfl).trans hc5
        refine hs_aload (i := 0) (p := 125) (by decide +kernel) rfl ?_
        refine hs_k (x := Int32.ofNat 0) (p := 126) (by decide +kernel) ?_
        refine ht_put (M := [(9, 13, 13)]) (T := et_TT) (t := 9) (ci := 7) (f := 13) (p := 129) (ty := .boolean) (by decide +kernel) rfl rfl rfl (by decide +kernel) rfl (by decide +kernel) hH k_se (hi_nv (by omega) (by omega)) (fun G126 hH f126 e126 => ?_)
        have hf := hf.tr hx0 (f126.wk (by decide +kernel))
        have hc5 := (f126.2 se 9 k_se 5 rfl).trans hc5
        refine hs_aload (i := 0) (p := 130) (by decide +kernel) rfl ?_
        refine hs_kld (v := Value.int (Int32.ofNat 1073741824)) (p := 132) (by decide +kernel) ?_
        refine ht_put (M := [(9, 15, 15)]) (T := et_TT) (t := 9) (ci := 7) (f := 15) (p := 135) (ty := .int) (by decide +kernel) rfl rfl rfl rfl rfl (by decide +kernel) hH k_se hi_any (fun G132 hH f132 e132 => ?_)
        have hf := hf.tr hx0 (f132.wk (by decide +kernel))
        have hc5 := (f132.2 se 9 k_se 5 rfl).trans hc5
        refine hs_aload (i := 0) (p := 136) (by decide +kernel) rfl ?_
        refine hs_k (x := Int32.ofNat 0) (p := 137) (by decide +kernel) ?_
        refine ht_put (M := [(9, 16, 16)]) (T := et_TT) (t := 9) (ci := 7) (f := 16) (p := 140) (ty := .int) (by decide +kernel) rfl rfl rfl rfl rfl (by decide +kernel) hH k_se hi_any (fun G137 hH f137 e137 => ?_)
        have hf := hf.tr hx0 (f137.wk (by decide +kernel))
        have hc5 := (f137.2 se 9 k_se 5 rfl).trans hc5
        refine hs_vret (by decide +kernel) ?_
        exact ⟨⟨_, List.mem_cons_self, _, hx0, hf, hH, rfl, Nat.le_refl _, Nat.le_refl _⟩, _, hc5, hcl⟩
      · refine hs_k (x := Int32.ofNat 0) (p := 38) (by decide +kernel) ?_
        refine hs_istore (i := 6) (p := 40) (by decide +kernel) (Nat.le_of_ble_eq_true rfl) ?_
        show et_go none (d + 4) 91 40 [some (.ref se), some (.ref ey), some (.ref st), some (.int ma), some (.int (Int32.ofNat kk)), some (.int (Int32.ofNat h)), some (.int (Int32.ofNat 0))] [] _ 0 0 _
        exact hn_bI hH hx0 hf k_se k_ey k_st hc5 z_st hm0 hm hya0 z_ya (by omega) (Nat.zero_le _) (Nat.le_trans hi (Nat.le_add_right _ _)) (fun K G cc v6 a1 a2 a3 a4 a5 a6 a7 a8 => ih (m0 - (h + 1)) (by omega) a1 a2 a3 a4 a5 a6 a7 (by omega) a8 rfl)
theorem hc_beginx {w : et_Wd} {d2 se ey st kk : Nat} {ma : Int32} (hH : et_H et_TT w.1 w.2.2) (hd : 4 ≤ d2) (k_se : w.1 se = some 9) (k_ey : w.1 ey = some 3) (k_st : w.1 st = some 10) (hkk : (kk : Int) ≤ 3) : et_go none d2 91 0 (eg_en (eg_mL 91) [.ref se, .ref ey, .ref st, .int ma, .int (Int32.ofNat kk)]) [] w.2.2 0 0 (hb_Z w se) := by
  obtain ⟨d, rfl⟩ : ∃ d, d2 = d + 4 := ⟨d2 - 4, by omega⟩
  have z_st := k_st
  obtain ⟨m0, hm0, hm⟩ := hb_m hH k_st
  obtain ⟨ya, hya0, z_ya⟩ := hb_ya hH k_st
  have hx0 : et_ex w.1 w.1 := et_ex.rf
  have hf : et_fr hb_M w.1 w.2.2 w.2.2 := et_fr.rf
  rw [show eg_mL 91 = 7 from by decide +kernel]
  show et_go none (d + 4) 91 0 [some (.ref se), some (.ref ey), some (.ref st), some (.int ma), some (.int (Int32.ofNat kk)), none, none] [] w.2.2 0 0 (hb_Z w se)
  refine hs_aload (i := 0) (p := 1) (by decide +kernel) rfl ?_
  refine hs_aload (i := 1) (p := 2) (by decide +kernel) rfl ?_
  refine ht_getn (T := et_TT) (t := 3) (ci := 1) (f := 0) (p := 5) (by decide +kernel) rfl rfl hH k_ey (fun c2 h2 e2 => ?_)
  refine ht_put (M := [(9, 6, 6)]) (T := et_TT) (t := 9) (ci := 7) (f := 6) (p := 8) (ty := .int) (by decide +kernel) rfl rfl rfl rfl rfl (by decide +kernel) hH k_se (hi_nv (by omega) (by omega)) (fun G5 hH f5 e5 => ?_)
  have hf := hf.tr hx0 (f5.wk (by decide +kernel))
  refine hs_aload (i := 0) (p := 9) (by decide +kernel) rfl ?_
  refine hs_iload (i := 4) (p := 11) (by decide +kernel) rfl ?_
  refine ht_put (M := [(9, 7, 7)]) (T := et_TT) (t := 9) (ci := 7) (f := 7) (p := 14) (ty := .int) (by decide +kernel) rfl rfl rfl rfl rfl (by decide +kernel) hH k_se (hi_nv (by omega) (by omega)) (fun G11 hH f11 e11 => ?_)
  have hf := hf.tr hx0 (f11.wk (by decide +kernel))
  refine hs_aload (i := 0) (p := 15) (by decide +kernel) rfl ?_
  refine hs_k (x := Int32.ofNat 0) (p := 16) (by decide +kernel) ?_
  refine ht_put (M := [(9, 5, 5)]) (T := et_TT) (t := 9) (ci := 7) (f := 5) (p := 19) (ty := .int) (by decide +kernel) rfl rfl rfl rfl rfl (by decide +kernel) hH k_se (hi_nv (by omega) (by omega)) (fun G16 hH f16 e16 => ?_)
  have hf := hf.tr hx0 (f16.wk (by decide +kernel))
  refine hs_k (x := Int32.ofNat 0) (p := 20) (by decide +kernel) ?_
  refine hs_istore (i := 5) (p := 22) (by decide +kernel) (Nat.le_of_ble_eq_true rfl) ?_
  show et_go none (d + 4) 91 22 [some (.ref se), some (.ref ey), some (.ref st), some (.int ma), some (.int (Int32.ofNat kk)), some (.int (Int32.ofNat 0)), none] [] _ 0 0 _
  exact hn_bO (cc := 0) hH hx0 hf k_se k_ey k_st e16 z_st hm0 hm hya0 z_ya (Nat.zero_le _) (Nat.zero_le _)
theorem hc_begin : et_cv et_TT hq_begin := by
  intro w as d2 hH hd hl hv
  obtain ⟨v, v1, v2, v3, v4, rfl⟩ := hi_len5 (show as.length = 5 from hl)
  obtain ⟨se, rfl, k_se⟩ := hi_ref (hv 0 _ _ rfl rfl)
  obtain ⟨ey, rfl, k_ey⟩ := hi_ref (hv 1 _ _ rfl rfl)
  obtain ⟨st, rfl, k_st⟩ := hi_ref (hv 2 _ _ rfl rfl)
  obtain ⟨ma, rfl, -, -⟩ := hi_int (hv 3 _ _ rfl rfl)
  obtain ⟨kk, hkk, rfl⟩ := hi_nat (hv 4 _ _ rfl rfl)
  exact (hc_beginx hH hd k_se k_ey k_st hkk).mono (fun u hu => hu.1)
end RBG
