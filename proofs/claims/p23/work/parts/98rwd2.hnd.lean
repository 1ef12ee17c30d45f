/-! PHASE D: the constructors: EYES with their arrays, the arrays of the TURNERS -/
/-- a new EYE, its three arrays behind it -/
def eyQ (K : et_K) (G : eg_G) (e a b c : Nat) : Prop := (K e = some 3 ∧ K a = some 15 ∧ K b = some 15 ∧ K c = some 15) ∧ (e < a ∧ a < b ∧ b < c ∧ c < G.2) ∧ eg_at G e = .inr (1, [.int 0, .ref a, .ref b, .ref c, .int 0, .int 0, .int 0, .int 0]) ∧ ∀ x j, (x = a ∨ x = b ∨ x = c) → j < 6 → et_pl (eg_at G x) j = some (.int (Int32.ofNat 0))
theorem eyz {G : eg_G} {b j : Nat} (h : eg_at G b = .inl (0, (6, .inl (fun _ => 0)))) (hj : j < 6) : et_pl (eg_at G b) j = some (.int (Int32.ofNat 0)) := by
  rw [h]
  show (if j < 6 then some (Value.int 0) else none) = _
  rw [if_pos hj]
  rfl
section UXA
variable {K K' : et_K} {G G' : eg_G} {a : Nat}
theorem eyQ.pk {e x y z : Nat} (h : eyQ K G e x y z) (hH : et_H et_TT K G) (hk : pk K G K' G') : eyQ K' G' e x y z := by
  obtain ⟨⟨k1, k2, k3, k4⟩, ⟨l1, l2, l3, l4⟩, h3, h4⟩ := h
  have g : ∀ b t, K b = some t → K' b = some t ∧ eg_at G' b = eg_at G b := fun b t hb => ⟨((hk.2 b (hH.2.2 _ _ hb).1).1).trans hb, (hk.2 b (hH.2.2 _ _ hb).1).2⟩
  refine ⟨⟨(g _ _ k1).1, (g _ _ k2).1, (g _ _ k3).1, (g _ _ k4).1⟩, ⟨l1, l2, l3, Nat.lt_trans l4 hk.1⟩, (g _ _ k1).2.trans h3, fun w j hw hj => ?_⟩
  have e9 : eg_at G' w = eg_at G w := by
    rcases hw with rfl | rfl | rfl
    · exact (g _ _ k2).2
    · exact (g _ _ k3).2
    · exact (g _ _ k4).2
  rw [e9]
  exact h4 w j hw hj
theorem eyQ.he {e x y z p : Nat} {c9 : eg_C} (h : eyQ K G e x y z) (hu : puc K G p c9) (he : ∀ b, ¬ b = p → eg_at G' b = eg_at G b) (e2 : G'.2 = G.2) : eyQ K G' e x y z := by
  obtain ⟨⟨k1, k2, k3, k4⟩, ⟨l1, l2, l3, l4⟩, h3, h4⟩ := h
  refine ⟨⟨k1, k2, k3, k4⟩, ⟨l1, l2, l3, by rw [e2]; exact l4⟩, (he e (puc_ne hu k1)).trans h3, fun w j hw hj => ?_⟩
  have e9 : eg_at G' w = eg_at G w := by
    rcases hw with rfl | rfl | rfl
    · exact he _ (puc_ne hu k2)
    · exact he _ (puc_ne hu k3)
    · exact he _ (puc_ne hu k4)
  rw [e9]
  exact h4 w j hw hj
theorem eyQ.kn {e x y z p t : Nat} {c9 : eg_C} (h : eyQ K G e x y z) (hu : puc K G p c9) : eyQ (et_kn K p t) G e x y z := ⟨⟨et_kn_k hu h.1.1, et_kn_k hu h.1.2.1, et_kn_k hu h.1.2.2.1, et_kn_k hu h.1.2.2.2⟩, h.2⟩
/-- all EYES of a new object: none has a WIRE, all is 0 -/
def ez0 (K : et_K) (G : eg_G) (th s0 s1 : Nat) : Prop := ∃ (ya yb : Nat) (O : Nat → Nat) (A : Nat → Nat → Nat) (V : Nat → evT), ezK K ya yb O A ∧ ez G th s0 s1 ya yb O A V ∧ ∀ n, n < 6 → evz (V n)
def evZ : evT := (0, fun _ => Int32.ofNat 0, fun _ => 0, fun _ => Int32.ofNat 0, Int32.ofNat 0, Int32.ofNat 0, Int32.ofNat 0, Int32.ofNat 0)
theorem evZ_z : evz evZ := ⟨rfl, fun _ _ => rfl, rfl, rfl, rfl, rfl⟩
theorem eyQ.v {e x y z : Nat} (h : eyQ K G e x y z) : evc G e x y z evZ := by
  have hp : ∀ j v, ([.int 0, .ref x, .ref y, .ref z, .int 0, .int 0, .int 0, .int 0] : List Value)[j]? = some v → et_pl (eg_at G e) j = some v := fun j v hv => by
    rw [h.2.2.1]
    exact hv
  exact ⟨⟨hp 0 _ rfl, hp 1 _ rfl, hp 2 _ rfl, hp 3 _ rfl⟩, fun m hm => h.2.2.2 z m (.inr (.inr rfl)) hm, fun m hm => absurd hm (Nat.not_lt_zero m), hp 4 _ rfl, hp 5 _ rfl, hp 6 _ rfl, hp 7 _ rfl⟩
theorem mono_lt {B : Nat → Nat} {N : Nat} (h : ∀ k, k < N → B k < B (k + 1)) : ∀ d i, i + d < N + 1 → 0 < d → B i < B (i + d)
  | 0, i, _, h0 => absurd h0 (Nat.lt_irrefl 0)
  | 1, i, h1, _ => h i (by omega)
  | d + 2, i, h1, _ => Nat.lt_trans (mono_lt h (d + 1) i (by omega) (by omega)) (h (i + (d + 1)) (by omega))
theorem mono_inj {B : Nat → Nat} {N : Nat} (h : ∀ k, k < N → B k < B (k + 1)) {i j : Nat} (hi : i < N + 1) (hj : j < N + 1) (e : B i = B j) : i = j := by
  rcases Nat.lt_trichotomy i j with q | q | q
  · have := mono_lt h (j - i) i (by omega) (by omega)
    rw [show i + (j - i) = j by omega] at this
    omega
  · exact q
  · have := mono_lt h (i - j) j (by omega) (by omega)
    rw [show j + (i - j) = i by omega] at this
    omega
theorem ez_mk {th s0 s1 ya yb oa Aa Ba Ca ob Ab Bb Cb oc Ac Bc Cc pa Da Ea Fa pb Db Eb Fb pc Dc Ec Fc sp Sa Sb Sc : Nat} (hy : K ya = some 40 ∧ K yb = some 40) (h6 : et_pl (eg_at G s0) 6 = some (.ref ya) ∧ et_pl (eg_at G s1) 6 = some (.ref yb) ∧ et_pl (eg_at G th) 8 = some (.ref sp)) (ha : et_pl (eg_at G ya) 0 = some (.ref oa) ∧ et_pl (eg_at G ya) 1 = some (.ref ob) ∧ et_pl (eg_at G ya) 2 = some (.ref oc)) (hb : et_pl (eg_at G yb) 0 = some (.ref pa) ∧ et_pl (eg_at G yb) 1 = some (.ref pb) ∧ et_pl (eg_at G yb) 2 = some (.ref pc)) (h0 : eyQ K G oa Aa Ba Ca ∧ eyQ K G ob Ab Bb Cb ∧ eyQ K G oc Ac Bc Cc) (h1 : eyQ K G pa Da Ea Fa ∧ eyQ K G pb Db Eb Fb ∧ eyQ K G pc Dc Ec Fc) (h2 : eyQ K G sp Sa Sb Sc) (lo : Ca < ob ∧ Cb < oc ∧ Cc < pa ∧ Fa < pb ∧ Fb < pc ∧ Fc < sp) : ez0 K G th s0 s1 := by
  let B : Nat → Nat := fun k => ([oa, Aa, Ba, Ca, ob, Ab, Bb, Cb, oc, Ac, Bc, Cc, pa, Da, Ea, Fa, pb, Db, Eb, Fb, pc, Dc, Ec, Fc, sp, Sa, Sb, Sc] : List Nat).getD k 0
  obtain ⟨q0, q1, q2⟩ := h0
  obtain ⟨q3, q4, q5⟩ := h1
  have hB : ∀ k, k < 27 → B k < B (k + 1) := fun k hk => by
    match k, hk with
    | 0, _ => exact q0.2.1.1
    | 1, _ => exact q0.2.1.2.1
    | 2, _ => exact q0.2.1.2.2.1
    | 3, _ => exact lo.1
    | 4, _ => exact q1.2.1.1
    | 5, _ => exact q1.2.1.2.1
    | 6, _ => exact q1.2.1.2.2.1
    | 7, _ => exact lo.2.1
    | 8, _ => exact q2.2.1.1
    | 9, _ => exact q2.2.1.2.1
    | 10, _ => exact q2.2.1.2.2.1
    | 11, _ => exact lo.2.2.1
    | 12, _ => exact q3.2.1.1
    | 13, _ => exact q3.2.1.2.1
    | 14, _ => exact q3.2.1.2.2.1
    | 15, _ => exact lo.2.2.2.1
    | 16, _ => exact q4.2.1.1
    | 17, _ => exact q4.2.1.2.1
    | 18, _ => exact q4.2.1.2.2.1
    | 19, _ => exact lo.2.2.2.2.1
    | 20, _ => exact q5.2.1.1
    | 21, _ => exact q5.2.1.2.1
    | 22, _ => exact q5.2.1.2.2.1
    | 23, _ => exact lo.2.2.2.2.2
    | 24, _ => exact h2.2.1.1
    | 25, _ => exact h2.2.1.2.1
    | 26, _ => exact h2.2.1.2.2.1
    | q + 27, h => exact absurd h (by omega)
  have hQ : ∀ n, n < 7 → eyQ K G (B (4 * n)) (B (4 * n + 1)) (B (4 * n + 2)) (B (4 * n + 3)) := fun n hn => by
    match n, hn with
    | 0, _ => exact q0
    | 1, _ => exact q1
    | 2, _ => exact q2
    | 3, _ => exact q3
    | 4, _ => exact q4
    | 5, _ => exact q5
    | 6, _ => exact h2
  refine ⟨ya, yb, fun n => B (4 * n), fun n i => B (4 * n + 1 + i), fun _ => evZ, ⟨hy, fun n hn => ⟨(hQ n hn).1.1, fun j hj => ?_⟩, fun n m hn hm e => ?_, fun n i m j hn hi hm hj e => ?_⟩, ⟨h6, fun n hn => ?_, fun n hn => (hQ n (by omega)).v, ?_⟩, fun n hn => evZ_z⟩
  · match j, hj with
    | 0, _ => exact (hQ n hn).1.2.1
    | 1, _ => exact (hQ n hn).1.2.2.1
    | 2, _ => exact (hQ n hn).1.2.2.2
  · have := mono_inj hB (i := 4 * n) (j := 4 * m) (by omega) (by omega) e
    omega
  · have := mono_inj hB (i := 4 * n + 1 + i) (j := 4 * m + 1 + j) (by omega) (by omega) e
    omega
  · match n, hn with
    | 0, _ => exact ⟨ha.1, hb.1⟩
    | 1, _ => exact ⟨ha.2.1, hb.2.1⟩
    | 2, _ => exact ⟨ha.2.2, hb.2.2⟩
  · have h9 := (hQ 6 (by decide)).v
    exact ⟨h9.1.2.1, h9.1.2.2.1, h9.1.2.2.2⟩
theorem pi_eye5 {d2 : Nat} (hu : puc K G a (.inr (1, [.int 0, .null, .null, .null, .int 0, .int 0, .int 0, .int 0]))) (hd : 0 ≤ d2) : et_go none d2 31 0 (eg_en (eg_mL 31) [.ref a]) [] G 0 0 (pi_Z K G a 3 3 18 (fun K' G' => ∃ x y z, eyQ K' G' a x y z ∧ G.2 ≤ x)) := by
  have hq : pq a K G K G := pq.rf
  have hua := hu.2.2.2.1
  have hq0 : G.2 ≤ G.2 := Nat.le_refl _
  rw [show eg_mL 31 = 1 from by decide +kernel]
  show et_go none d2 31 0 [some (.ref a)] [] G 0 0 _
  refine hs_aload (i := 0) (p := 1) (by decide +kernel) rfl ?_
  refine hs_skip (lk := 1) (p := 4) (by decide +kernel) rfl rfl ?_
  refine hs_aload (i := 0) (p := 5) (by decide +kernel) rfl ?_
  refine hs_k (x := Int32.ofNat 6) (p := 7) (by decide +kernel) ?_
  have hHo := hu.1
  refine ht_nb (t := 15) (n := 6) (kd := 0) (p := 9) (by decide +kernel) rfl (by decide +kernel) ⟨by decide +kernel, by decide +kernel, by decide +kernel⟩ (by omega) (by omega) hu.1 (fun K7 G7 b7 hk hH k_b7 hg_b7 hz_b7 => ?_)
  have hg_b7 := Nat.le_trans hq.1 hg_b7
  have hu := hk.un hH hu
  have hq := hq.mo hk
  have cz_b7 := hz_b7 rfl
  have hu0 := hu
  refine hs_puti (ci := 1) (f := 1) (ty := .array .int) (v := .ref b7) (p := 12) (by decide +kernel) hu (Nat.le_of_ble_eq_true rfl) rfl (fun G9 hu he e2 => ?_)
  have hu : puc _ _ a (.inr (1, [.int 0, .ref b7, .null, .null, .int 0, .int 0, .int 0, .int 0])) := hu
  have hq := hq.pt he e2
  have cz_b7 := (he b7 (puc_ne hu0 k_b7)).trans cz_b7
  refine hs_aload (i := 0) (p := 13) (by decide +kernel) rfl ?_
  refine hs_k (x := Int32.ofNat 6) (p := 15) (by decide +kernel) ?_
  have hHo := hu.1
  refine ht_nb (t := 15) (n := 6) (kd := 0) (p := 17) (by decide +kernel) rfl (by decide +kernel) ⟨by decide +kernel, by decide +kernel, by decide +kernel⟩ (by omega) (by omega) hu.1 (fun K15 G15 b15 hk hH k_b15 hg_b15 hz_b15 => ?_)
  have hl_b7_b15 : b7 < b15 := Nat.lt_of_lt_of_le (hHo.2.2 _ _ k_b7).1 hg_b15
  have hg_b15 := Nat.le_trans hq.1 hg_b15
  have hu := hk.un hH hu
  have hq := hq.mo hk
  have cz_b7 := ((hk.2 b7 (hHo.2.2 _ _ k_b7).1).2).trans cz_b7
  have k_b7 := hk.ty hHo k_b7
  have cz_b15 := hz_b15 rfl
  have hu0 := hu
  refine hs_puti (ci := 1) (f := 2) (ty := .array .int) (v := .ref b15) (p := 20) (by decide +kernel) hu (Nat.le_of_ble_eq_true rfl) rfl (fun G17 hu he e2 => ?_)
  have hu : puc _ _ a (.inr (1, [.int 0, .ref b7, .ref b15, .null, .int 0, .int 0, .int 0, .int 0])) := hu
  have hq := hq.pt he e2
  have cz_b7 := (he b7 (puc_ne hu0 k_b7)).trans cz_b7
  have cz_b15 := (he b15 (puc_ne hu0 k_b15)).trans cz_b15
  refine hs_aload (i := 0) (p := 21) (by decide +kernel) rfl ?_
  refine hs_k (x := Int32.ofNat 6) (p := 23) (by decide +kernel) ?_
  have hHo := hu.1
  refine ht_nb (t := 15) (n := 6) (kd := 0) (p := 25) (by decide +kernel) rfl (by decide +kernel) ⟨by decide +kernel, by decide +kernel, by decide +kernel⟩ (by omega) (by omega) hu.1 (fun K23 G23 b23 hk hH k_b23 hg_b23 hz_b23 => ?_)
  have hl_b7_b23 : b7 < b23 := Nat.lt_of_lt_of_le (hHo.2.2 _ _ k_b7).1 hg_b23
  have hl_b15_b23 : b15 < b23 := Nat.lt_of_lt_of_le (hHo.2.2 _ _ k_b15).1 hg_b23
  have hg_b23 := Nat.le_trans hq.1 hg_b23
  have hu := hk.un hH hu
  have hq := hq.mo hk
  have cz_b7 := ((hk.2 b7 (hHo.2.2 _ _ k_b7).1).2).trans cz_b7
  have cz_b15 := ((hk.2 b15 (hHo.2.2 _ _ k_b15).1).2).trans cz_b15
  have k_b7 := hk.ty hHo k_b7
  have k_b15 := hk.ty hHo k_b15
  have cz_b23 := hz_b23 rfl
  have hu0 := hu
  refine hs_puti (ci := 1) (f := 3) (ty := .array .int) (v := .ref b23) (p := 28) (by decide +kernel) hu (Nat.le_of_ble_eq_true rfl) rfl (fun G25 hu he e2 => ?_)
  have hu : puc _ _ a (.inr (1, [.int 0, .ref b7, .ref b15, .ref b23, .int 0, .int 0, .int 0, .int 0])) := hu
  have hq := hq.pt he e2
  have cz_b7 := (he b7 (puc_ne hu0 k_b7)).trans cz_b7
  have cz_b15 := (he b15 (puc_ne hu0 k_b15)).trans cz_b15
  have cz_b23 := (he b23 (puc_ne hu0 k_b23)).trans cz_b23
  obtain ⟨hHt, kt⟩ := puc_typ (t := 3) hu (by decide) rfl ⟨_, rfl, rfl, fun k p hk => by
      match k, hk with
      | 0, hk => cases hk; exact ⟨_, rfl, .inr ⟨_, rfl, by decide, by decide⟩⟩
      | 1, hk => cases hk; exact ⟨_, rfl, .inr (.inr ⟨by decide, _, rfl, k_b7⟩)⟩
      | 2, hk => cases hk; exact ⟨_, rfl, .inr (.inr ⟨by decide, _, rfl, k_b15⟩)⟩
      | 3, hk => cases hk; exact ⟨_, rfl, .inr (.inr ⟨by decide, _, rfl, k_b23⟩)⟩
      | 4, hk => cases hk; exact ⟨_, rfl, .inr ⟨_, rfl, by decide, by decide⟩⟩
      | 5, hk => cases hk; exact ⟨_, rfl, .inr ⟨_, rfl, by decide, by decide⟩⟩
      | 6, hk => cases hk; exact ⟨_, rfl, .inr ⟨_, rfl, by decide, by decide⟩⟩
      | 7, hk => cases hk; exact ⟨_, rfl, .inr ⟨_, rfl, by decide, by decide⟩⟩
      | n + 8, hk => cases hk⟩ ⟨fun h => absurd h (by decide), fun h => absurd h (by decide)⟩
  refine hs_vret (by decide +kernel) ?_
  exact ⟨_, hq.ty (.inl rfl), hHt, kt, rfl, rfl, rfl, ⟨b7, b15, b23, ⟨⟨kt, et_kn_k hu k_b7, et_kn_k hu k_b15, et_kn_k hu k_b23⟩, ⟨Nat.lt_of_lt_of_le hua hg_b7, hl_b7_b15, hl_b15_b23, (hHt.2.2 _ _ (et_kn_k hu k_b23)).1⟩, hu.2.2.2.2, fun x j hx hj => by rcases hx with rfl | rfl | rfl <;> first | exact eyz cz_b7 hj | exact eyz cz_b15 hj | exact eyz cz_b23 hj⟩, hg_b7⟩⟩
theorem pi_state5 {d2 : Nat} (hu : puc K G a (.inr (8, [.int 0, .null, .int 0, .null, .null, .int 0, .null, .int 0, .null, .int 0, .null]))) (hd : 1 ≤ d2) : et_go none d2 101 0 (eg_en (eg_mL 101) [.ref a]) [] G 0 0 (pi_Z K G a 10 18 135 (fun K' G' => ∃ ra ca, et_pl (eg_at G' a) 1 = some (.ref ra) ∧ et_pl (eg_at G' a) 10 = some (.ref ca) ∧ G.2 ≤ ra ∧ G.2 ≤ ca ∧ K' ra = some 37 ∧ K' ca = some 39 ∧ et_pl (eg_at G' a) 0 = some (.int (Int32.ofNat 0)) ∧ et_pl (eg_at G' a) 5 = some (.int (Int32.ofNat 0)) ∧ et_pl (eg_at G' a) 9 = some (.int (Int32.ofNat 0)) ∧ et_pl (eg_at G' a) 2 = some (.int (Int32.ofNat 0)) ∧ et_pl (eg_at G' a) 7 = some (.int (Int32.ofNat 0)) ∧ ∃ la ya ta, (et_pl (eg_at G' a) 3 = some (.ref la) ∧ et_pl (eg_at G' a) 4 = some (.ref ya) ∧ et_pl (eg_at G' a) 8 = some (.ref ta)) ∧ (K' la = some 17 ∧ K' ya = some 27 ∧ K' ta = some 38) ∧ (G.2 ≤ la ∧ G.2 ≤ ya ∧ G.2 ≤ ta) ∧ ∃ ea, (et_pl (eg_at G' a) 6 = some (.ref ea) ∧ K' ea = some 40) ∧ ∃ oa Aa Ba Ca ob Ab Bb Cb oc Ac Bc Cc, (et_pl (eg_at G' ea) 0 = some (.ref oa) ∧ et_pl (eg_at G' ea) 1 = some (.ref ob) ∧ et_pl (eg_at G' ea) 2 = some (.ref oc)) ∧ (G.2 ≤ oa ∧ Ca < ob ∧ Cb < oc) ∧ eyQ K' G' oa Aa Ba Ca ∧ eyQ K' G' ob Ab Bb Cb ∧ eyQ K' G' oc Ac Bc Cc)) := by
  obtain ⟨d, rfl⟩ : ∃ d, d2 = d + 1 := ⟨d2 - 1, by omega⟩
  have hq : pq a K G K G := pq.rf
  have hua := hu.2.2.2.1
  have hq0 : G.2 ≤ G.2 := Nat.le_refl _
  rw [show eg_mL 101 = 2 from by decide +kernel]
  show et_go none (d + 1) 101 0 [some (.ref a), none] [] G 0 0 _
  refine hs_aload (i := 0) (p := 1) (by decide +kernel) rfl ?_
  refine hs_skip (lk := 2) (p := 4) (by decide +kernel) rfl rfl ?_
  refine hs_aload (i := 0) (p := 5) (by decide +kernel) rfl ?_
  refine hs_k (x := Int32.ofNat 4) (p := 6) (by decide +kernel) ?_
  have hHo := hu.1
  refine ht_nb (t := 37) (n := 4) (kd := 5) (p := 9) (by decide +kernel) rfl (by decide +kernel) ⟨by decide +kernel, by decide +kernel, by decide +kernel⟩ (by omega) (by omega) hu.1 (fun K6 G6 b6 hk hH k_b6 hg_b6 hz_b6 => ?_)
  have hg_b6 := Nat.le_trans hq.1 hg_b6
  have hu := hk.un hH hu
  have hq := hq.mo hk
  have hu0 := hu
  refine hs_puti (ci := 8) (f := 1) (ty := .array (.object "KnobEye$Rule")) (v := .ref b6) (p := 12) (by decide +kernel) hu (Nat.le_of_ble_eq_true rfl) rfl (fun G9 hu he e2 => ?_)
  have hu : puc _ _ a (.inr (8, [.int 0, .ref b6, .int 0, .null, .null, .int 0, .null, .int 0, .null, .int 0, .null])) := hu
  have hq := hq.pt he e2
  refine hs_aload (i := 0) (p := 13) (by decide +kernel) rfl ?_
  refine hs_k (x := Int32.ofNat 20) (p := 15) (by decide +kernel) ?_
  have hHo := hu.1
  refine ht_nb (t := 17) (n := 20) (kd := 0) (p := 17) (by decide +kernel) rfl (by decide +kernel) ⟨by decide +kernel, by decide +kernel, by decide +kernel⟩ (by omega) (by omega) hu.1 (fun K15 G15 b15 hk hH k_b15 hg_b15 hz_b15 => ?_)
  have hg_b15 := Nat.le_trans hq.1 hg_b15
  have hu := hk.un hH hu
  have hq := hq.mo hk
  have k_b6 := hk.ty hHo k_b6
  have hu0 := hu
  refine hs_puti (ci := 8) (f := 3) (ty := .array .int) (v := .ref b15) (p := 20) (by decide +kernel) hu (Nat.le_of_ble_eq_true rfl) rfl (fun G17 hu he e2 => ?_)
  have hu : puc _ _ a (.inr (8, [.int 0, .ref b6, .int 0, .ref b15, .null, .int 0, .null, .int 0, .null, .int 0, .null])) := hu
  have hq := hq.pt he e2
  refine hs_aload (i := 0) (p := 21) (by decide +kernel) rfl ?_
  refine hs_k (x := Int32.ofNat 20) (p := 23) (by decide +kernel) ?_
  have hHo := hu.1
  refine ht_nb (t := 27) (n := 20) (kd := 3) (p := 25) (by decide +kernel) rfl (by decide +kernel) ⟨by decide +kernel, by decide +kernel, by decide +kernel⟩ (by omega) (by omega) hu.1 (fun K23 G23 b23 hk hH k_b23 hg_b23 hz_b23 => ?_)
  have hg_b23 := Nat.le_trans hq.1 hg_b23
  have hu := hk.un hH hu
  have hq := hq.mo hk
  have k_b6 := hk.ty hHo k_b6
  have k_b15 := hk.ty hHo k_b15
  have hu0 := hu
  refine hs_puti (ci := 8) (f := 4) (ty := .array .boolean) (v := .ref b23) (p := 28) (by decide +kernel) hu (Nat.le_of_ble_eq_true rfl) rfl (fun G25 hu he e2 => ?_)
  have hu : puc _ _ a (.inr (8, [.int 0, .ref b6, .int 0, .ref b15, .ref b23, .int 0, .null, .int 0, .null, .int 0, .null])) := hu
  have hq := hq.pt he e2
  refine hs_aload (i := 0) (p := 29) (by decide +kernel) rfl ?_
  refine hs_k (x := Int32.ofNat 3) (p := 30) (by decide +kernel) ?_
  have hHo := hu.1
  refine ht_nr (n := 3) (kd := 6) (p := 33) (by decide +kernel) (by decide) ⟨by decide +kernel, by decide +kernel, by decide +kernel⟩ (by omega) (by omega) hu.1 (fun G30 b30 hk hg hv => ?_)
  have hne : ¬ b30 = a := fun e => by have h9 := hu.2.2.2.1; omega
  have hg := Nat.le_trans hq.1 hg
  have hu := hk.un hv.1 hu
  have hq := hq.mo hk
  have k_b6 := hk.ty hHo k_b6
  have k_b15 := hk.ty hHo k_b15
  have k_b23 := hk.ty hHo k_b23
  have hu0 := hu
  refine hs_puti (ci := 8) (f := 6) (ty := .array (.object "KnobEye$Eye")) (v := .ref b30) (p := 36) (by decide +kernel) hu (Nat.le_of_ble_eq_true rfl) rfl (fun G33 hu he e2 => ?_)
  have hu : puc _ _ a (.inr (8, [.int 0, .ref b6, .int 0, .ref b15, .ref b23, .int 0, .ref b30, .int 0, .null, .int 0, .null])) := hu
  have hq := hq.pt he e2
  have hv := puc_st hv hu.1 he e2 hne
  refine hs_aload (i := 0) (p := 37) (by decide +kernel) rfl ?_
  refine hs_k (x := Int32.ofNat 4) (p := 38) (by decide +kernel) ?_
  have hHo := hu.1
  refine ht_nb (t := 38) (n := 4) (kd := 7) (p := 41) (by decide +kernel) rfl (by decide +kernel) ⟨by decide +kernel, by decide +kernel, by decide +kernel⟩ (by omega) (by omega) hu.1 (fun K38 G38 b38 hk hH k_b38 hg_b38 hz_b38 => ?_)
  have hg_b38 := Nat.le_trans hq.1 hg_b38
  have hv := hk.un hH hv
  have hu := hk.un hH hu
  have hq := hq.mo hk
  have k_b6 := hk.ty hHo k_b6
  have k_b15 := hk.ty hHo k_b15
  have k_b23 := hk.ty hHo k_b23
  have hu0 := hu
  refine hs_puti (ci := 8) (f := 8) (ty := .array (.object "KnobEye$Turner")) (v := .ref b38) (p := 44) (by decide +kernel) hu (Nat.le_of_ble_eq_true rfl) rfl (fun G41 hu he e2 => ?_)
  have hu : puc _ _ a (.inr (8, [.int 0, .ref b6, .int 0, .ref b15, .ref b23, .int 0, .ref b30, .int 0, .ref b38, .int 0, .null])) := hu
  have hq := hq.pt he e2
  have hv := puc_st hv hu.1 he e2 hne
  refine hs_aload (i := 0) (p := 45) (by decide +kernel) rfl ?_
  refine hs_k (x := Int32.ofNat 6) (p := 47) (by decide +kernel) ?_
  have hHo := hu.1
  refine ht_nb (t := 39) (n := 6) (kd := 8) (p := 50) (by decide +kernel) rfl (by decide +kernel) ⟨by decide +kernel, by decide +kernel, by decide +kernel⟩ (by omega) (by omega) hu.1 (fun K47 G47 b47 hk hH k_b47 hg_b47 hz_b47 => ?_)
  have hg_b47 := Nat.le_trans hq.1 hg_b47
  have hv := hk.un hH hv
  have hu := hk.un hH hu
  have hq := hq.mo hk
  have k_b6 := hk.ty hHo k_b6
  have k_b15 := hk.ty hHo k_b15
  have k_b23 := hk.ty hHo k_b23
  have k_b38 := hk.ty hHo k_b38
  have hu0 := hu
  refine hs_puti (ci := 8) (f := 10) (ty := .array (.object "KnobEye$Claim")) (v := .ref b47) (p := 53) (by decide +kernel) hu (Nat.le_of_ble_eq_true rfl) rfl (fun G50 hu he e2 => ?_)
  have hu : puc _ _ a (.inr (8, [.int 0, .ref b6, .int 0, .ref b15, .ref b23, .int 0, .ref b30, .int 0, .ref b38, .int 0, .ref b47])) := hu
  have hq := hq.pt he e2
  have hv := puc_st hv hu.1 he e2 hne
  refine hs_k (x := Int32.ofNat 0) (p := 54) (by decide +kernel) ?_
  refine hs_istore (i := 1) (p := 55) (by decide +kernel) (Nat.le_of_ble_eq_true rfl) ?_
  refine hs_iload (i := 1) (p := 56) (by decide +kernel) rfl ?_
  refine hs_k (x := Int32.ofNat 3) (p := 57) (by decide +kernel) ?_
  refine hs_br2n (c := .ge) (t := 79) (f := 60) (by decide +kernel) (by omega) (by omega) (fun h => absurd h (show ¬ (3 ≤ 0) by decide)) (fun _ => ?_)
  refine hs_aload (i := 0) (p := 61) (by decide +kernel) rfl ?_
  refine hs_get (ci := 8) (f := 6) (p := 64) (v := .ref b30) (by decide +kernel) hu.2.2.2.2 hu.2.2.2.1 rfl ?_
  refine hs_iload (i := 1) (p := 65) (by decide +kernel) rfl ?_
  have hHo := hu.1
  refine ht_newV (ci := 1) (n := 8) (fs := [.int 0, .null, .null, .null, .int 0, .int 0, .int 0, .int 0]) (p := 68) (by decide +kernel) (by omega) (by omega) (by decide +kernel) (by decide +kernel) hu.1 (fun G65 o0 ho hge hlt he => ?_)
  have hgo_o0 := Nat.le_trans hq.1 hge
  refine hs_dup1 (p := 69) (by decide +kernel) ?_
  refine hs_callp (mi := 31) (na := 0) (lk := 2) (lm := 1) (L0 := eg_en (eg_mL 31) [.ref o0]) (by decide +kernel) rfl rfl rfl rfl rfl (by rw [show eg_mL 31 = 1 from by decide +kernel]; first | done | rfl) ?_
  refine (pi_eye5 ho (by omega)).mono (fun u hZ => pi_cb hZ (fun K69 G69 hq2 hH k_o0 hP => ?_))
  have hk := pk_of hq2 hge hlt he
  have hv := hk.un hH hv
  have hu := hk.un hH hu
  have hq := hq.mo hk
  have k_b6 := hk.ty hHo k_b6
  have k_b15 := hk.ty hHo k_b15
  have k_b23 := hk.ty hHo k_b23
  have k_b38 := hk.ty hHo k_b38
  have k_b47 := hk.ty hHo k_b47
  obtain ⟨A_o0, B_o0, C_o0, Q_o0, hlA_o0⟩ := hP
  show et_go none _ 101 72 _ [.ref o0, .int (Int32.ofNat 0), .ref b30] _ 10 83 _
  have hvb := hv
  refine ht_wri (n := 3) (kd := 6) (u := 3) (cj := 1) (p := 73) (by decide +kernel) (by decide +kernel) rfl hv (by decide) k_o0 (fun G72 hv he e2 => ?_)
  have hu := puc_st hu hv.1 he e2 (fun e => hne e.symm)
  have hq := hq.sw hg he e2
  have Q_o0 := Q_o0.he hvb he e2
  refine hs_iinc1 (i := 1) (p := 76) (by decide +kernel) rfl (Nat.le_of_ble_eq_true rfl) ?_
  show et_go none _ 101 76 [some (.ref a), some (.int (Int32.ofNat 1))] [] _ _ _ _
  refine hs_goto (p := 55) (by decide +kernel) ?_
  refine hs_iload (i := 1) (p := 56) (by decide +kernel) rfl ?_
  refine hs_k (x := Int32.ofNat 3) (p := 57) (by decide +kernel) ?_
  refine hs_br2n (c := .ge) (t := 79) (f := 60) (by decide +kernel) (by omega) (by omega) (fun h => absurd h (show ¬ (3 ≤ 1) by decide)) (fun _ => ?_)
  refine hs_aload (i := 0) (p := 61) (by decide +kernel) rfl ?_
  refine hs_get (ci := 8) (f := 6) (p := 64) (v := .ref b30) (by decide +kernel) hu.2.2.2.2 hu.2.2.2.1 rfl ?_
  refine hs_iload (i := 1) (p := 65) (by decide +kernel) rfl ?_
  have hHo := hu.1
  refine ht_newV (ci := 1) (n := 8) (fs := [.int 0, .null, .null, .null, .int 0, .int 0, .int 0, .int 0]) (p := 68) (by decide +kernel) (by omega) (by omega) (by decide +kernel) (by decide +kernel) hu.1 (fun G65 o1 ho hge hlt he => ?_)
  have hgo_o1 := Nat.le_trans hq.1 hge
  have hlo_Q_o0_o1 : C_o0 < o1 := Nat.lt_of_lt_of_le Q_o0.2.1.2.2.2 hge
  refine hs_dup1 (p := 69) (by decide +kernel) ?_
  refine hs_callp (mi := 31) (na := 0) (lk := 2) (lm := 1) (L0 := eg_en (eg_mL 31) [.ref o1]) (by decide +kernel) rfl rfl rfl rfl rfl (by rw [show eg_mL 31 = 1 from by decide +kernel]; first | done | rfl) ?_
  refine (pi_eye5 ho (by omega)).mono (fun u hZ => pi_cb hZ (fun K69 G69 hq2 hH k_o1 hP => ?_))
  have hk := pk_of hq2 hge hlt he
  have hv := hk.un hH hv
  have hu := hk.un hH hu
  have hq := hq.mo hk
  have Q_o0 := Q_o0.pk hHo hk
  have k_b6 := hk.ty hHo k_b6
  have k_b15 := hk.ty hHo k_b15
  have k_b23 := hk.ty hHo k_b23
  have k_b38 := hk.ty hHo k_b38
  have k_b47 := hk.ty hHo k_b47
  have k_o0 := hk.ty hHo k_o0
  obtain ⟨A_o1, B_o1, C_o1, Q_o1, hlA_o1⟩ := hP
  show et_go none _ 101 72 _ [.ref o1, .int (Int32.ofNat 1), .ref b30] _ 14 109 _
  have hvb := hv
  refine ht_wri (n := 3) (kd := 6) (u := 3) (cj := 1) (p := 73) (by decide +kernel) (by decide +kernel) rfl hv (by decide) k_o1 (fun G72 hv he e2 => ?_)
  have hu := puc_st hu hv.1 he e2 (fun e => hne e.symm)
  have hq := hq.sw hg he e2
  have Q_o0 := Q_o0.he hvb he e2
  have Q_o1 := Q_o1.he hvb he e2
  refine hs_iinc1 (i := 1) (p := 76) (by decide +kernel) rfl (Nat.le_of_ble_eq_true rfl) ?_
  show et_go none _ 101 76 [some (.ref a), some (.int (Int32.ofNat 2))] [] _ _ _ _
  refine hs_goto (p := 55) (by decide +kernel) ?_
  refine hs_iload (i := 1) (p := 56) (by decide +kernel) rfl ?_
  refine hs_k (x := Int32.ofNat 3) (p := 57) (by decide +kernel) ?_
  refine hs_br2n (c := .ge) (t := 79) (f := 60) (by decide +kernel) (by omega) (by omega) (fun h => absurd h (show ¬ (3 ≤ 2) by decide)) (fun _ => ?_)
  refine hs_aload (i := 0) (p := 61) (by decide +kernel) rfl ?_
  refine hs_get (ci := 8) (f := 6) (p := 64) (v := .ref b30) (by decide +kernel) hu.2.2.2.2 hu.2.2.2.1 rfl ?_
  refine hs_iload (i := 1) (p := 65) (by decide +kernel) rfl ?_
  have hHo := hu.1
  refine ht_newV (ci := 1) (n := 8) (fs := [.int 0, .null, .null, .null, .int 0, .int 0, .int 0, .int 0]) (p := 68) (by decide +kernel) (by omega) (by omega) (by decide +kernel) (by decide +kernel) hu.1 (fun G65 o2 ho hge hlt he => ?_)
  have hgo_o2 := Nat.le_trans hq.1 hge
  have hlo_Q_o0_o2 : C_o0 < o2 := Nat.lt_of_lt_of_le Q_o0.2.1.2.2.2 hge
  have hlo_Q_o1_o2 : C_o1 < o2 := Nat.lt_of_lt_of_le Q_o1.2.1.2.2.2 hge
  refine hs_dup1 (p := 69) (by decide +kernel) ?_
  refine hs_callp (mi := 31) (na := 0) (lk := 2) (lm := 1) (L0 := eg_en (eg_mL 31) [.ref o2]) (by decide +kernel) rfl rfl rfl rfl rfl (by rw [show eg_mL 31 = 1 from by decide +kernel]; first | done | rfl) ?_
  refine (pi_eye5 ho (by omega)).mono (fun u hZ => pi_cb hZ (fun K69 G69 hq2 hH k_o2 hP => ?_))
  have hk := pk_of hq2 hge hlt he
  have hv := hk.un hH hv
  have hu := hk.un hH hu
  have hq := hq.mo hk
  have Q_o0 := Q_o0.pk hHo hk
  have Q_o1 := Q_o1.pk hHo hk
  have k_b6 := hk.ty hHo k_b6
  have k_b15 := hk.ty hHo k_b15
  have k_b23 := hk.ty hHo k_b23
  have k_b38 := hk.ty hHo k_b38
  have k_b47 := hk.ty hHo k_b47
  have k_o0 := hk.ty hHo k_o0
  have k_o1 := hk.ty hHo k_o1
  obtain ⟨A_o2, B_o2, C_o2, Q_o2, hlA_o2⟩ := hP
  show et_go none _ 101 72 _ [.ref o2, .int (Int32.ofNat 2), .ref b30] _ 18 135 _
  have hvb := hv
  refine ht_wri (n := 3) (kd := 6) (u := 3) (cj := 1) (p := 73) (by decide +kernel) (by decide +kernel) rfl hv (by decide) k_o2 (fun G72 hv he e2 => ?_)
  have hu := puc_st hu hv.1 he e2 (fun e => hne e.symm)
  have hq := hq.sw hg he e2
  have Q_o0 := Q_o0.he hvb he e2
  have Q_o1 := Q_o1.he hvb he e2
  have Q_o2 := Q_o2.he hvb he e2
  refine hs_iinc1 (i := 1) (p := 76) (by decide +kernel) rfl (Nat.le_of_ble_eq_true rfl) ?_
  show et_go none _ 101 76 [some (.ref a), some (.int (Int32.ofNat 3))] [] _ _ _ _
  refine hs_goto (p := 55) (by decide +kernel) ?_
  refine hs_iload (i := 1) (p := 56) (by decide +kernel) rfl ?_
  refine hs_k (x := Int32.ofNat 3) (p := 57) (by decide +kernel) ?_
  refine hs_br2n (c := .ge) (t := 79) (f := 60) (by decide +kernel) (by omega) (by omega) (fun _ => ?_) (fun h => absurd (show 3 ≤ 3 by decide) h)
  have hv0 := hv
  obtain ⟨hHv, k_b30⟩ := puc_typ (t := 40) hv (by decide) rfl ⟨_, rfl, rfl, fun i hi => ⟨_, rfl⟩, fun q hq i i1 i2 i3 => by
      obtain rfl := List.mem_singleton.mp hq
      match i, i3 with
      | 0, _ => exact ⟨.ref o0, rfl, .inr ⟨by decide, _, rfl, k_o0⟩⟩
      | 1, _ => exact ⟨.ref o1, rfl, .inr ⟨by decide, _, rfl, k_o1⟩⟩
      | 2, _ => exact ⟨.ref o2, rfl, .inr ⟨by decide, _, rfl, k_o2⟩⟩
      | n + 3, h => exact absurd h (by omega)⟩ (fun h => absurd h (by decide))
  have hu := puc_n hu (fun e => hne e.symm) hHv
  have hq := hq.ty (b := b30) (t := 40) (.inr hg)
  have k_b6 := et_kn_k (t := 40) hv0 k_b6
  have k_b15 := et_kn_k (t := 40) hv0 k_b15
  have k_b23 := et_kn_k (t := 40) hv0 k_b23
  have k_b38 := et_kn_k (t := 40) hv0 k_b38
  have k_b47 := et_kn_k (t := 40) hv0 k_b47
  have k_o0 := et_kn_k (t := 40) hv0 k_o0
  have k_o1 := et_kn_k (t := 40) hv0 k_o1
  have k_o2 := et_kn_k (t := 40) hv0 k_o2
  have Q_o0 := Q_o0.kn (t := 40) hv0
  have Q_o1 := Q_o1.kn (t := 40) hv0
  have Q_o2 := Q_o2.kn (t := 40) hv0
  obtain ⟨hHt, kt⟩ := puc_typ (t := 10) hu (by decide) rfl ⟨_, rfl, rfl, fun k p hk => by
      match k, hk with
      | 0, hk => cases hk; exact ⟨_, rfl, .inr ⟨_, rfl, by decide, by decide⟩⟩
      | 1, hk => cases hk; exact ⟨_, rfl, .inr (.inr ⟨by decide, _, rfl, k_b6⟩)⟩
      | 2, hk => cases hk; exact ⟨_, rfl, .inr ⟨_, rfl, by decide, by decide⟩⟩
      | 3, hk => cases hk; exact ⟨_, rfl, .inr (.inr ⟨by decide, _, rfl, k_b15⟩)⟩
      | 4, hk => cases hk; exact ⟨_, rfl, .inr (.inr ⟨by decide, _, rfl, k_b23⟩)⟩
      | 5, hk => cases hk; exact ⟨_, rfl, .inr ⟨_, rfl, by decide, by decide⟩⟩
      | 6, hk => cases hk; exact ⟨_, rfl, .inr (.inr ⟨by decide, _, rfl, k_b30⟩)⟩
      | 7, hk => cases hk; exact ⟨_, rfl, .inr ⟨_, rfl, by decide, by decide⟩⟩
      | 8, hk => cases hk; exact ⟨_, rfl, .inr (.inr ⟨by decide, _, rfl, k_b38⟩)⟩
      | 9, hk => cases hk; exact ⟨_, rfl, .inr ⟨_, rfl, by decide, by decide⟩⟩
      | 10, hk => cases hk; exact ⟨_, rfl, .inr (.inr ⟨by decide, _, rfl, k_b47⟩)⟩
      | n + 11, hk => cases hk⟩ ⟨fun h => absurd h (by decide), fun h => absurd h (by decide)⟩
  refine hs_vret (by decide +kernel) ?_
  exact ⟨_, hq.ty (.inl rfl), hHt, kt, rfl, rfl, rfl, ⟨b6, b47, by rw [hu.2.2.2.2]; rfl, by rw [hu.2.2.2.2]; rfl, hg_b6, hg_b47, et_kn_k hu k_b6, et_kn_k hu k_b47, by rw [hu.2.2.2.2]; rfl, by rw [hu.2.2.2.2]; rfl, by rw [hu.2.2.2.2]; rfl, by rw [hu.2.2.2.2]; rfl, by rw [hu.2.2.2.2]; rfl, b15, b23, b38, ⟨by rw [hu.2.2.2.2]; rfl, by rw [hu.2.2.2.2]; rfl, by rw [hu.2.2.2.2]; rfl⟩, ⟨et_kn_k hu k_b15, et_kn_k hu k_b23, et_kn_k hu k_b38⟩, ⟨hg_b15, hg_b23, hg_b38⟩, b30, ⟨by rw [hu.2.2.2.2]; rfl, et_kn_k hu k_b30⟩, o0, A_o0, B_o0, C_o0, o1, A_o1, B_o1, C_o1, o2, A_o2, B_o2, C_o2, ⟨by rw [hv0.2.2.2.2]; rfl, by rw [hv0.2.2.2.2]; rfl, by rw [hv0.2.2.2.2]; rfl⟩, ⟨hgo_o0, hlo_Q_o0_o1, hlo_Q_o1_o2⟩, Q_o0.kn hu, Q_o1.kn hu, Q_o2.kn hu⟩⟩
theorem pi_knob5 {d2 : Nat} (hu : puc K G a (.inr (10, [.null, .null, .int 0, .null, .null, .null, .int 0, .int 0, .null, .null, .int 0, .null]))) (hd : 2 ≤ d2) : et_go none d2 115 0 (eg_en (eg_mL 115) [.ref a]) [] G 0 0 (pi_Z K G a 12 79 136123 (fun K' G' => ((∃ rd, et_pl (eg_at G' a) 3 = some (.ref rd) ∧ K' rd = some 7 ∧ et_pl (eg_at G' rd) 1 = some (.int (Int32.ofNat 0)) ∧ ∃ ba na, et_pl (eg_at G' rd) 5 = some (.ref ba) ∧ et_pl (eg_at G' rd) 6 = some (.ref na) ∧ ¬ ba = na) ∧ ∃ s0 s1 ra0 ca0 ra1 ca1, K' a = some 12 ∧ (et_pl (eg_at G' a) 0 = some (.ref s0) ∧ et_pl (eg_at G' a) 1 = some (.ref s1)) ∧ (¬ s0 = s1 ∧ ¬ ra0 = ra1 ∧ ¬ ca0 = ca1) ∧ pi_T K' G' s0 ra0 ca0 ∧ pi_T K' G' s1 ra1 ca1 ∧ ∃ la0 ya0 la1 ya1 ta0 ta1, (et_pl (eg_at G' s0) 3 = some (.ref la0) ∧ et_pl (eg_at G' s0) 4 = some (.ref ya0) ∧ et_pl (eg_at G' s1) 3 = some (.ref la1) ∧ et_pl (eg_at G' s1) 4 = some (.ref ya1)) ∧ (K' la0 = some 17 ∧ K' ya0 = some 27 ∧ K' la1 = some 17 ∧ K' ya1 = some 27) ∧ (¬ la0 = la1 ∧ ¬ ya0 = ya1) ∧ (et_pl (eg_at G' s0) 8 = some (.ref ta0) ∧ et_pl (eg_at G' s1) 8 = some (.ref ta1) ∧ K' ta0 = some 38 ∧ K' ta1 = some 38 ∧ ¬ ta0 = ta1) ∧ ez0 K' G' a s0 s1) ∧ et_pl (eg_at G' a) 2 = some (.int (Int32.ofNat 0)))) := by
  obtain ⟨d, rfl⟩ : ∃ d, d2 = d + 2 := ⟨d2 - 2, by omega⟩
  have hq : pq a K G K G := pq.rf
  have hua := hu.2.2.2.1
  have hq0 : G.2 ≤ G.2 := Nat.le_refl _
  rw [show eg_mL 115 = 1 from by decide +kernel]
  show et_go none (d + 2) 115 0 [some (.ref a)] [] G 0 0 _
  refine hs_aload (i := 0) (p := 1) (by decide +kernel) rfl ?_
  refine hs_skip (lk := 1) (p := 4) (by decide +kernel) rfl rfl ?_
  refine hs_aload (i := 0) (p := 5) (by decide +kernel) rfl ?_
  have hHo := hu.1
  refine ht_newV (ci := 8) (n := 11) (fs := [.int 0, .null, .int 0, .null, .null, .int 0, .null, .int 0, .null, .int 0, .null]) (p := 8) (by decide +kernel) (by omega) (by omega) (by decide +kernel) (by decide +kernel) hu.1 (fun G5 o0 ho hge hlt he => ?_)
  have hgo_o0 := Nat.le_trans hq.1 hge
  refine hs_dup1 (p := 9) (by decide +kernel) ?_
  refine hs_callp (mi := 101) (na := 0) (lk := 1) (lm := 2) (L0 := eg_en (eg_mL 101) [.ref o0]) (by decide +kernel) rfl rfl rfl rfl rfl (by rw [show eg_mL 101 = 2 from by decide +kernel]; first | done | rfl) ?_
  refine (pi_state5 ho (by omega)).mono (fun u hZ => pi_cb hZ (fun K9 G9 hq2 hH k_o0 hP => ?_))
  have hk := pk_of hq2 hge hlt he
  have hu := hk.un hH hu
  have hq := hq.mo hk
  obtain ⟨ra_o0, ca_o0, f1_o0, f10_o0, gr_o0, gc_o0, k_ra_o0, k_ca_o0, f0_o0, f5_o0, f9_o0, f2_o0, f7_o0, la_o0, ya_o0, ta_o0, ⟨f3_o0, f4_o0, f8_o0⟩, ⟨k_la_o0, k_ya_o0, k_ta_o0⟩, ⟨gl_o0, gy_o0, gt_o0⟩, ea_o0, ⟨f6_o0, k_ea_o0⟩, oa_o0, Aa_o0, Ba_o0, Ca_o0, ob_o0, Ab_o0, Bb_o0, Cb_o0, oc_o0, Ac_o0, Bc_o0, Cc_o0, ⟨e0_o0, e1_o0, e2_o0⟩, ⟨ho0_o0, ho1_o0, ho2_o0⟩, Qa_o0, Qb_o0, Qc_o0⟩ := hP
  show et_go none _ 115 12 _ [.ref o0, .ref a] _ 19 146 _
  have hu0 := hu
  refine hs_puti (ci := 10) (f := 0) (ty := .object "KnobEye$State") (v := .ref o0) (p := 15) (by decide +kernel) hu (Nat.le_of_ble_eq_true rfl) rfl (fun G12 hu he e2 => ?_)
  have hu : puc _ _ a (.inr (10, [.ref o0, .null, .int 0, .null, .null, .null, .int 0, .int 0, .null, .null, .int 0, .null])) := hu
  have hq := hq.pt he e2
  have e0_o0 := (congrArg (et_pl · 0) (he ea_o0 (puc_ne hu0 k_ea_o0))).trans e0_o0
  have e1_o0 := (congrArg (et_pl · 1) (he ea_o0 (puc_ne hu0 k_ea_o0))).trans e1_o0
  have e2_o0 := (congrArg (et_pl · 2) (he ea_o0 (puc_ne hu0 k_ea_o0))).trans e2_o0
  have f0_o0 := (congrArg (et_pl · 0) (he o0 (puc_ne hu0 k_o0))).trans f0_o0
  have f1_o0 := (congrArg (et_pl · 1) (he o0 (puc_ne hu0 k_o0))).trans f1_o0
  have f2_o0 := (congrArg (et_pl · 2) (he o0 (puc_ne hu0 k_o0))).trans f2_o0
  have f3_o0 := (congrArg (et_pl · 3) (he o0 (puc_ne hu0 k_o0))).trans f3_o0
  have f4_o0 := (congrArg (et_pl · 4) (he o0 (puc_ne hu0 k_o0))).trans f4_o0
  have f5_o0 := (congrArg (et_pl · 5) (he o0 (puc_ne hu0 k_o0))).trans f5_o0
  have f6_o0 := (congrArg (et_pl · 6) (he o0 (puc_ne hu0 k_o0))).trans f6_o0
  have f7_o0 := (congrArg (et_pl · 7) (he o0 (puc_ne hu0 k_o0))).trans f7_o0
  have f8_o0 := (congrArg (et_pl · 8) (he o0 (puc_ne hu0 k_o0))).trans f8_o0
  have f9_o0 := (congrArg (et_pl · 9) (he o0 (puc_ne hu0 k_o0))).trans f9_o0
  have f10_o0 := (congrArg (et_pl · 10) (he o0 (puc_ne hu0 k_o0))).trans f10_o0
  have Qa_o0 := Qa_o0.he hu0 he e2
  have Qb_o0 := Qb_o0.he hu0 he e2
  have Qc_o0 := Qc_o0.he hu0 he e2
  refine hs_aload (i := 0) (p := 16) (by decide +kernel) rfl ?_
  have hHo := hu.1
  refine ht_newV (ci := 8) (n := 11) (fs := [.int 0, .null, .int 0, .null, .null, .int 0, .null, .int 0, .null, .int 0, .null]) (p := 19) (by decide +kernel) (by omega) (by omega) (by decide +kernel) (by decide +kernel) hu.1 (fun G16 o1 ho hge hlt he => ?_)
  have hgo_o1 := Nat.le_trans hq.1 hge
  have hlo_Qa_o0_o1 : Ca_o0 < o1 := Nat.lt_of_lt_of_le Qa_o0.2.1.2.2.2 hge
  have hlo_Qb_o0_o1 : Cb_o0 < o1 := Nat.lt_of_lt_of_le Qb_o0.2.1.2.2.2 hge
  have hlo_Qc_o0_o1 : Cc_o0 < o1 := Nat.lt_of_lt_of_le Qc_o0.2.1.2.2.2 hge
  refine hs_dup1 (p := 20) (by decide +kernel) ?_
  refine hs_callp (mi := 101) (na := 0) (lk := 1) (lm := 2) (L0 := eg_en (eg_mL 101) [.ref o1]) (by decide +kernel) rfl rfl rfl rfl rfl (by rw [show eg_mL 101 = 2 from by decide +kernel]; first | done | rfl) ?_
  refine (pi_state5 ho (by omega)).mono (fun u hZ => pi_cb hZ (fun K20 G20 hq2 hH k_o1 hP => ?_))
  have hk := pk_of hq2 hge hlt he
  have hne0 : ¬ o0 = o1 := by have := (hHo.2.2 _ _ k_o0).1; omega
  have hlr := (hHo.2.2 _ _ k_ra_o0).1
  have hll := (hHo.2.2 _ _ k_la_o0).1
  have hly := (hHo.2.2 _ _ k_ya_o0).1
  have hlta := (hHo.2.2 _ _ k_ta_o0).1
  have hlc := (hHo.2.2 _ _ k_ca_o0).1
  have hu := hk.un hH hu
  have hq := hq.mo hk
  have e0_o0 := hk.fl hHo k_ea_o0 e0_o0
  have e1_o0 := hk.fl hHo k_ea_o0 e1_o0
  have e2_o0 := hk.fl hHo k_ea_o0 e2_o0
  have f0_o0 := hk.fl hHo k_o0 f0_o0
  have f1_o0 := hk.fl hHo k_o0 f1_o0
  have f2_o0 := hk.fl hHo k_o0 f2_o0
  have f3_o0 := hk.fl hHo k_o0 f3_o0
  have f4_o0 := hk.fl hHo k_o0 f4_o0
  have f5_o0 := hk.fl hHo k_o0 f5_o0
  have f6_o0 := hk.fl hHo k_o0 f6_o0
  have f7_o0 := hk.fl hHo k_o0 f7_o0
  have f8_o0 := hk.fl hHo k_o0 f8_o0
  have f9_o0 := hk.fl hHo k_o0 f9_o0
  have f10_o0 := hk.fl hHo k_o0 f10_o0
  have Qa_o0 := Qa_o0.pk hHo hk
  have Qb_o0 := Qb_o0.pk hHo hk
  have Qc_o0 := Qc_o0.pk hHo hk
  have k_o0 := hk.ty hHo k_o0
  have k_ra_o0 := hk.ty hHo k_ra_o0
  have k_ca_o0 := hk.ty hHo k_ca_o0
  have k_la_o0 := hk.ty hHo k_la_o0
  have k_ya_o0 := hk.ty hHo k_ya_o0
  have k_ta_o0 := hk.ty hHo k_ta_o0
  have k_ea_o0 := hk.ty hHo k_ea_o0
  obtain ⟨ra_o1, ca_o1, f1_o1, f10_o1, gr_o1, gc_o1, k_ra_o1, k_ca_o1, f0_o1, f5_o1, f9_o1, f2_o1, f7_o1, la_o1, ya_o1, ta_o1, ⟨f3_o1, f4_o1, f8_o1⟩, ⟨k_la_o1, k_ya_o1, k_ta_o1⟩, ⟨gl_o1, gy_o1, gt_o1⟩, ea_o1, ⟨f6_o1, k_ea_o1⟩, oa_o1, Aa_o1, Ba_o1, Ca_o1, ob_o1, Ab_o1, Bb_o1, Cb_o1, oc_o1, Ac_o1, Bc_o1, Cc_o1, ⟨e0_o1, e1_o1, e2_o1⟩, ⟨ho0_o1, ho1_o1, ho2_o1⟩, Qa_o1, Qb_o1, Qc_o1⟩ := hP
  have hnr : ¬ ra_o0 = ra_o1 := Nat.ne_of_lt (Nat.lt_of_lt_of_le (Nat.lt_trans hlr hlt) gr_o1)
  have hnc : ¬ ca_o0 = ca_o1 := Nat.ne_of_lt (Nat.lt_of_lt_of_le (Nat.lt_trans hlc hlt) gc_o1)
  have hnl : ¬ la_o0 = la_o1 := Nat.ne_of_lt (Nat.lt_of_lt_of_le (Nat.lt_trans hll hlt) gl_o1)
  have hny : ¬ ya_o0 = ya_o1 := Nat.ne_of_lt (Nat.lt_of_lt_of_le (Nat.lt_trans hly hlt) gy_o1)
  have hnt : ¬ ta_o0 = ta_o1 := Nat.ne_of_lt (Nat.lt_of_lt_of_le (Nat.lt_trans hlta hlt) gt_o1)
  have hla : o1 ≤ oa_o1 := Nat.le_of_lt (Nat.lt_of_lt_of_le ho.2.2.2.1 ho0_o1)
  show et_go none _ 115 23 _ [.ref o1, .ref a] _ 38 292 _
  have hu0 := hu
  refine hs_puti (ci := 10) (f := 1) (ty := .object "KnobEye$State") (v := .ref o1) (p := 26) (by decide +kernel) hu (Nat.le_of_ble_eq_true rfl) rfl (fun G23 hu he e2 => ?_)
  have hu : puc _ _ a (.inr (10, [.ref o0, .ref o1, .int 0, .null, .null, .null, .int 0, .int 0, .null, .null, .int 0, .null])) := hu
  have hq := hq.pt he e2
  have e0_o0 := (congrArg (et_pl · 0) (he ea_o0 (puc_ne hu0 k_ea_o0))).trans e0_o0
  have e1_o0 := (congrArg (et_pl · 1) (he ea_o0 (puc_ne hu0 k_ea_o0))).trans e1_o0
  have e2_o0 := (congrArg (et_pl · 2) (he ea_o0 (puc_ne hu0 k_ea_o0))).trans e2_o0
  have f0_o0 := (congrArg (et_pl · 0) (he o0 (puc_ne hu0 k_o0))).trans f0_o0
  have f1_o0 := (congrArg (et_pl · 1) (he o0 (puc_ne hu0 k_o0))).trans f1_o0
  have f2_o0 := (congrArg (et_pl · 2) (he o0 (puc_ne hu0 k_o0))).trans f2_o0
  have f3_o0 := (congrArg (et_pl · 3) (he o0 (puc_ne hu0 k_o0))).trans f3_o0
  have f4_o0 := (congrArg (et_pl · 4) (he o0 (puc_ne hu0 k_o0))).trans f4_o0
  have f5_o0 := (congrArg (et_pl · 5) (he o0 (puc_ne hu0 k_o0))).trans f5_o0
  have f6_o0 := (congrArg (et_pl · 6) (he o0 (puc_ne hu0 k_o0))).trans f6_o0
  have f7_o0 := (congrArg (et_pl · 7) (he o0 (puc_ne hu0 k_o0))).trans f7_o0
  have f8_o0 := (congrArg (et_pl · 8) (he o0 (puc_ne hu0 k_o0))).trans f8_o0
  have f9_o0 := (congrArg (et_pl · 9) (he o0 (puc_ne hu0 k_o0))).trans f9_o0
  have f10_o0 := (congrArg (et_pl · 10) (he o0 (puc_ne hu0 k_o0))).trans f10_o0
  have e0_o1 := (congrArg (et_pl · 0) (he ea_o1 (puc_ne hu0 k_ea_o1))).trans e0_o1
  have e1_o1 := (congrArg (et_pl · 1) (he ea_o1 (puc_ne hu0 k_ea_o1))).trans e1_o1
  have e2_o1 := (congrArg (et_pl · 2) (he ea_o1 (puc_ne hu0 k_ea_o1))).trans e2_o1
  have f0_o1 := (congrArg (et_pl · 0) (he o1 (puc_ne hu0 k_o1))).trans f0_o1
  have f1_o1 := (congrArg (et_pl · 1) (he o1 (puc_ne hu0 k_o1))).trans f1_o1
  have f2_o1 := (congrArg (et_pl · 2) (he o1 (puc_ne hu0 k_o1))).trans f2_o1
  have f3_o1 := (congrArg (et_pl · 3) (he o1 (puc_ne hu0 k_o1))).trans f3_o1
  have f4_o1 := (congrArg (et_pl · 4) (he o1 (puc_ne hu0 k_o1))).trans f4_o1
  have f5_o1 := (congrArg (et_pl · 5) (he o1 (puc_ne hu0 k_o1))).trans f5_o1
  have f6_o1 := (congrArg (et_pl · 6) (he o1 (puc_ne hu0 k_o1))).trans f6_o1
  have f7_o1 := (congrArg (et_pl · 7) (he o1 (puc_ne hu0 k_o1))).trans f7_o1
  have f8_o1 := (congrArg (et_pl · 8) (he o1 (puc_ne hu0 k_o1))).trans f8_o1
  have f9_o1 := (congrArg (et_pl · 9) (he o1 (puc_ne hu0 k_o1))).trans f9_o1
  have f10_o1 := (congrArg (et_pl · 10) (he o1 (puc_ne hu0 k_o1))).trans f10_o1
  have Qa_o0 := Qa_o0.he hu0 he e2
  have Qb_o0 := Qb_o0.he hu0 he e2
  have Qc_o0 := Qc_o0.he hu0 he e2
  have Qa_o1 := Qa_o1.he hu0 he e2
  have Qb_o1 := Qb_o1.he hu0 he e2
  have Qc_o1 := Qc_o1.he hu0 he e2
  refine hs_aload (i := 0) (p := 27) (by decide +kernel) rfl ?_
  have hHo := hu.1
  refine ht_newV (ci := 5) (n := 9) (fs := [.null, .int 0, .int 0, .int 0, .null, .null, .null, .int 0, .int 0]) (p := 30) (by decide +kernel) (by omega) (by omega) (by decide +kernel) (by decide +kernel) hu.1 (fun G27 o2 ho hge hlt he => ?_)
  refine hs_dup1 (p := 31) (by decide +kernel) ?_
  refine hs_callp (mi := 62) (na := 0) (lk := 1) (lm := 1) (L0 := eg_en (eg_mL 62) [.ref o2]) (by decide +kernel) rfl rfl rfl rfl rfl (by rw [show eg_mL 62 = 1 from by decide +kernel]; first | done | rfl) ?_
  refine (pi_reader2 ho (by omega)).mono (fun u hZ => pi_cb hZ (fun K31 G31 hq2 hH k_o2 hP => ?_))
  have hk := pk_of hq2 hge hlt he
  have hu := hk.un hH hu
  have hq := hq.mo hk
  have e0_o0 := hk.fl hHo k_ea_o0 e0_o0
  have e1_o0 := hk.fl hHo k_ea_o0 e1_o0
  have e2_o0 := hk.fl hHo k_ea_o0 e2_o0
  have f0_o0 := hk.fl hHo k_o0 f0_o0
  have f1_o0 := hk.fl hHo k_o0 f1_o0
  have f2_o0 := hk.fl hHo k_o0 f2_o0
  have f3_o0 := hk.fl hHo k_o0 f3_o0
  have f4_o0 := hk.fl hHo k_o0 f4_o0
  have f5_o0 := hk.fl hHo k_o0 f5_o0
  have f6_o0 := hk.fl hHo k_o0 f6_o0
  have f7_o0 := hk.fl hHo k_o0 f7_o0
  have f8_o0 := hk.fl hHo k_o0 f8_o0
  have f9_o0 := hk.fl hHo k_o0 f9_o0
  have f10_o0 := hk.fl hHo k_o0 f10_o0
  have e0_o1 := hk.fl hHo k_ea_o1 e0_o1
  have e1_o1 := hk.fl hHo k_ea_o1 e1_o1
  have e2_o1 := hk.fl hHo k_ea_o1 e2_o1
  have f0_o1 := hk.fl hHo k_o1 f0_o1
  have f1_o1 := hk.fl hHo k_o1 f1_o1
  have f2_o1 := hk.fl hHo k_o1 f2_o1
  have f3_o1 := hk.fl hHo k_o1 f3_o1
  have f4_o1 := hk.fl hHo k_o1 f4_o1
  have f5_o1 := hk.fl hHo k_o1 f5_o1
  have f6_o1 := hk.fl hHo k_o1 f6_o1
  have f7_o1 := hk.fl hHo k_o1 f7_o1
  have f8_o1 := hk.fl hHo k_o1 f8_o1
  have f9_o1 := hk.fl hHo k_o1 f9_o1
  have f10_o1 := hk.fl hHo k_o1 f10_o1
  have Qa_o0 := Qa_o0.pk hHo hk
  have Qb_o0 := Qb_o0.pk hHo hk
  have Qc_o0 := Qc_o0.pk hHo hk
  have Qa_o1 := Qa_o1.pk hHo hk
  have Qb_o1 := Qb_o1.pk hHo hk
  have Qc_o1 := Qc_o1.pk hHo hk
  have k_o0 := hk.ty hHo k_o0
  have k_ra_o0 := hk.ty hHo k_ra_o0
  have k_ca_o0 := hk.ty hHo k_ca_o0
  have k_la_o0 := hk.ty hHo k_la_o0
  have k_ya_o0 := hk.ty hHo k_ya_o0
  have k_ta_o0 := hk.ty hHo k_ta_o0
  have k_ea_o0 := hk.ty hHo k_ea_o0
  have k_o1 := hk.ty hHo k_o1
  have k_ra_o1 := hk.ty hHo k_ra_o1
  have k_ca_o1 := hk.ty hHo k_ca_o1
  have k_la_o1 := hk.ty hHo k_la_o1
  have k_ya_o1 := hk.ty hHo k_ya_o1
  have k_ta_o1 := hk.ty hHo k_ta_o1
  have k_ea_o1 := hk.ty hHo k_ea_o1
  obtain ⟨fl, ba, na, fba, fna, hbn⟩ := hP
  show et_go none _ 115 34 _ [.ref o2, .ref a] _ 43 1904 _
  have hu0 := hu
  refine hs_puti (ci := 10) (f := 3) (ty := .object "KnobEye$Reader") (v := .ref o2) (p := 37) (by decide +kernel) hu (Nat.le_of_ble_eq_true rfl) rfl (fun G34 hu he e2 => ?_)
  have hu : puc _ _ a (.inr (10, [.ref o0, .ref o1, .int 0, .ref o2, .null, .null, .int 0, .int 0, .null, .null, .int 0, .null])) := hu
  have hq := hq.pt he e2
  have e0_o0 := (congrArg (et_pl · 0) (he ea_o0 (puc_ne hu0 k_ea_o0))).trans e0_o0
  have e1_o0 := (congrArg (et_pl · 1) (he ea_o0 (puc_ne hu0 k_ea_o0))).trans e1_o0
  have e2_o0 := (congrArg (et_pl · 2) (he ea_o0 (puc_ne hu0 k_ea_o0))).trans e2_o0
  have f0_o0 := (congrArg (et_pl · 0) (he o0 (puc_ne hu0 k_o0))).trans f0_o0
  have f1_o0 := (congrArg (et_pl · 1) (he o0 (puc_ne hu0 k_o0))).trans f1_o0
  have f2_o0 := (congrArg (et_pl · 2) (he o0 (puc_ne hu0 k_o0))).trans f2_o0
  have f3_o0 := (congrArg (et_pl · 3) (he o0 (puc_ne hu0 k_o0))).trans f3_o0
  have f4_o0 := (congrArg (et_pl · 4) (he o0 (puc_ne hu0 k_o0))).trans f4_o0
  have f5_o0 := (congrArg (et_pl · 5) (he o0 (puc_ne hu0 k_o0))).trans f5_o0
  have f6_o0 := (congrArg (et_pl · 6) (he o0 (puc_ne hu0 k_o0))).trans f6_o0
  have f7_o0 := (congrArg (et_pl · 7) (he o0 (puc_ne hu0 k_o0))).trans f7_o0
  have f8_o0 := (congrArg (et_pl · 8) (he o0 (puc_ne hu0 k_o0))).trans f8_o0
  have f9_o0 := (congrArg (et_pl · 9) (he o0 (puc_ne hu0 k_o0))).trans f9_o0
  have f10_o0 := (congrArg (et_pl · 10) (he o0 (puc_ne hu0 k_o0))).trans f10_o0
  have e0_o1 := (congrArg (et_pl · 0) (he ea_o1 (puc_ne hu0 k_ea_o1))).trans e0_o1
  have e1_o1 := (congrArg (et_pl · 1) (he ea_o1 (puc_ne hu0 k_ea_o1))).trans e1_o1
  have e2_o1 := (congrArg (et_pl · 2) (he ea_o1 (puc_ne hu0 k_ea_o1))).trans e2_o1
  have f0_o1 := (congrArg (et_pl · 0) (he o1 (puc_ne hu0 k_o1))).trans f0_o1
  have f1_o1 := (congrArg (et_pl · 1) (he o1 (puc_ne hu0 k_o1))).trans f1_o1
  have f2_o1 := (congrArg (et_pl · 2) (he o1 (puc_ne hu0 k_o1))).trans f2_o1
  have f3_o1 := (congrArg (et_pl · 3) (he o1 (puc_ne hu0 k_o1))).trans f3_o1
  have f4_o1 := (congrArg (et_pl · 4) (he o1 (puc_ne hu0 k_o1))).trans f4_o1
  have f5_o1 := (congrArg (et_pl · 5) (he o1 (puc_ne hu0 k_o1))).trans f5_o1
  have f6_o1 := (congrArg (et_pl · 6) (he o1 (puc_ne hu0 k_o1))).trans f6_o1
  have f7_o1 := (congrArg (et_pl · 7) (he o1 (puc_ne hu0 k_o1))).trans f7_o1
  have f8_o1 := (congrArg (et_pl · 8) (he o1 (puc_ne hu0 k_o1))).trans f8_o1
  have f9_o1 := (congrArg (et_pl · 9) (he o1 (puc_ne hu0 k_o1))).trans f9_o1
  have f10_o1 := (congrArg (et_pl · 10) (he o1 (puc_ne hu0 k_o1))).trans f10_o1
  have fl := (congrArg (et_pl · 1) (he o2 (puc_ne hu0 k_o2))).trans fl
  have fba := (congrArg (et_pl · 5) (he o2 (puc_ne hu0 k_o2))).trans fba
  have fna := (congrArg (et_pl · 6) (he o2 (puc_ne hu0 k_o2))).trans fna
  have Qa_o0 := Qa_o0.he hu0 he e2
  have Qb_o0 := Qb_o0.he hu0 he e2
  have Qc_o0 := Qc_o0.he hu0 he e2
  have Qa_o1 := Qa_o1.he hu0 he e2
  have Qb_o1 := Qb_o1.he hu0 he e2
  have Qc_o1 := Qc_o1.he hu0 he e2
  refine hs_aload (i := 0) (p := 38) (by decide +kernel) rfl ?_
  have hHo := hu.1
  refine ht_newV (ci := 2) (n := 12) (fs := [.int 0, .int 0, .int 0, .int 0, .int 0, .int 0, .int 0, .int 0, .int 0, .int 0, .int 0, .int 0]) (p := 41) (by decide +kernel) (by omega) (by omega) (by decide +kernel) (by decide +kernel) hu.1 (fun G38 o3 ho hge hlt he => ?_)
  refine hs_dup1 (p := 42) (by decide +kernel) ?_
  refine hs_callp (mi := 51) (na := 0) (lk := 1) (lm := 1) (L0 := eg_en (eg_mL 51) [.ref o3]) (by decide +kernel) rfl rfl rfl rfl rfl (by rw [show eg_mL 51 = 1 from by decide +kernel]; first | done | rfl) ?_
  refine (pi_facts ho (by omega)).mono (fun u hZ => pi_cb hZ (fun K42 G42 hq2 hH k_o3 hP => ?_))
  have hk := pk_of hq2 hge hlt he
  have hu := hk.un hH hu
  have hq := hq.mo hk
  have e0_o0 := hk.fl hHo k_ea_o0 e0_o0
  have e1_o0 := hk.fl hHo k_ea_o0 e1_o0
  have e2_o0 := hk.fl hHo k_ea_o0 e2_o0
  have f0_o0 := hk.fl hHo k_o0 f0_o0
  have f1_o0 := hk.fl hHo k_o0 f1_o0
  have f2_o0 := hk.fl hHo k_o0 f2_o0
  have f3_o0 := hk.fl hHo k_o0 f3_o0
  have f4_o0 := hk.fl hHo k_o0 f4_o0
  have f5_o0 := hk.fl hHo k_o0 f5_o0
  have f6_o0 := hk.fl hHo k_o0 f6_o0
  have f7_o0 := hk.fl hHo k_o0 f7_o0
  have f8_o0 := hk.fl hHo k_o0 f8_o0
  have f9_o0 := hk.fl hHo k_o0 f9_o0
  have f10_o0 := hk.fl hHo k_o0 f10_o0
  have e0_o1 := hk.fl hHo k_ea_o1 e0_o1
  have e1_o1 := hk.fl hHo k_ea_o1 e1_o1
  have e2_o1 := hk.fl hHo k_ea_o1 e2_o1
  have f0_o1 := hk.fl hHo k_o1 f0_o1
  have f1_o1 := hk.fl hHo k_o1 f1_o1
  have f2_o1 := hk.fl hHo k_o1 f2_o1
  have f3_o1 := hk.fl hHo k_o1 f3_o1
  have f4_o1 := hk.fl hHo k_o1 f4_o1
  have f5_o1 := hk.fl hHo k_o1 f5_o1
  have f6_o1 := hk.fl hHo k_o1 f6_o1
  have f7_o1 := hk.fl hHo k_o1 f7_o1
  have f8_o1 := hk.fl hHo k_o1 f8_o1
  have f9_o1 := hk.fl hHo k_o1 f9_o1
  have f10_o1 := hk.fl hHo k_o1 f10_o1
  have fl := hk.fl hHo k_o2 fl
  have fba := hk.fl hHo k_o2 fba
  have fna := hk.fl hHo k_o2 fna
  have Qa_o0 := Qa_o0.pk hHo hk
  have Qb_o0 := Qb_o0.pk hHo hk
  have Qc_o0 := Qc_o0.pk hHo hk
  have Qa_o1 := Qa_o1.pk hHo hk
  have Qb_o1 := Qb_o1.pk hHo hk
  have Qc_o1 := Qc_o1.pk hHo hk
  have k_o0 := hk.ty hHo k_o0
  have k_ra_o0 := hk.ty hHo k_ra_o0
  have k_ca_o0 := hk.ty hHo k_ca_o0
  have k_la_o0 := hk.ty hHo k_la_o0
  have k_ya_o0 := hk.ty hHo k_ya_o0
  have k_ta_o0 := hk.ty hHo k_ta_o0
  have k_ea_o0 := hk.ty hHo k_ea_o0
  have k_o1 := hk.ty hHo k_o1
  have k_ra_o1 := hk.ty hHo k_ra_o1
  have k_ca_o1 := hk.ty hHo k_ca_o1
  have k_la_o1 := hk.ty hHo k_la_o1
  have k_ya_o1 := hk.ty hHo k_ya_o1
  have k_ta_o1 := hk.ty hHo k_ta_o1
  have k_ea_o1 := hk.ty hHo k_ea_o1
  have k_o2 := hk.ty hHo k_o2
  show et_go none _ 115 45 _ [.ref o3, .ref a] _ 44 1916 _
  have hu0 := hu
  refine hs_puti (ci := 10) (f := 4) (ty := .object "KnobEye$Facts") (v := .ref o3) (p := 48) (by decide +kernel) hu (Nat.le_of_ble_eq_true rfl) rfl (fun G45 hu he e2 => ?_)
  have hu : puc _ _ a (.inr (10, [.ref o0, .ref o1, .int 0, .ref o2, .ref o3, .null, .int 0, .int 0, .null, .null, .int 0, .null])) := hu
  have hq := hq.pt he e2
  have e0_o0 := (congrArg (et_pl · 0) (he ea_o0 (puc_ne hu0 k_ea_o0))).trans e0_o0
  have e1_o0 := (congrArg (et_pl · 1) (he ea_o0 (puc_ne hu0 k_ea_o0))).trans e1_o0
  have e2_o0 := (congrArg (et_pl · 2) (he ea_o0 (puc_ne hu0 k_ea_o0))).trans e2_o0
  have f0_o0 := (congrArg (et_pl · 0) (he o0 (puc_ne hu0 k_o0))).trans f0_o0
  have f1_o0 := (congrArg (et_pl · 1) (he o0 (puc_ne hu0 k_o0))).trans f1_o0
  have f2_o0 := (congrArg (et_pl · 2) (he o0 (puc_ne hu0 k_o0))).trans f2_o0
  have f3_o0 := (congrArg (et_pl · 3) (he o0 (puc_ne hu0 k_o0))).trans f3_o0
  have f4_o0 := (congrArg (et_pl · 4) (he o0 (puc_ne hu0 k_o0))).trans f4_o0
  have f5_o0 := (congrArg (et_pl · 5) (he o0 (puc_ne hu0 k_o0))).trans f5_o0
  have f6_o0 := (congrArg (et_pl · 6) (he o0 (puc_ne hu0 k_o0))).trans f6_o0
  have f7_o0 := (congrArg (et_pl · 7) (he o0 (puc_ne hu0 k_o0))).trans f7_o0
  have f8_o0 := (congrArg (et_pl · 8) (he o0 (puc_ne hu0 k_o0))).trans f8_o0
  have f9_o0 := (congrArg (et_pl · 9) (he o0 (puc_ne hu0 k_o0))).trans f9_o0
  have f10_o0 := (congrArg (et_pl · 10) (he o0 (puc_ne hu0 k_o0))).trans f10_o0
  have e0_o1 := (congrArg (et_pl · 0) (he ea_o1 (puc_ne hu0 k_ea_o1))).trans e0_o1
  have e1_o1 := (congrArg (et_pl · 1) (he ea_o1 (puc_ne hu0 k_ea_o1))).trans e1_o1
  have e2_o1 := (congrArg (et_pl · 2) (he ea_o1 (puc_ne hu0 k_ea_o1))).trans e2_o1
  have f0_o1 := (congrArg (et_pl · 0) (he o1 (puc_ne hu0 k_o1))).trans f0_o1
  have f1_o1 := (congrArg (et_pl · 1) (he o1 (puc_ne hu0 k_o1))).trans f1_o1
  have f2_o1 := (congrArg (et_pl · 2) (he o1 (puc_ne hu0 k_o1))).trans f2_o1
  have f3_o1 := (congrArg (et_pl · 3) (he o1 (puc_ne hu0 k_o1))).trans f3_o1
  have f4_o1 := (congrArg (et_pl · 4) (he o1 (puc_ne hu0 k_o1))).trans f4_o1
  have f5_o1 := (congrArg (et_pl · 5) (he o1 (puc_ne hu0 k_o1))).trans f5_o1
  have f6_o1 := (congrArg (et_pl · 6) (he o1 (puc_ne hu0 k_o1))).trans f6_o1
  have f7_o1 := (congrArg (et_pl · 7) (he o1 (puc_ne hu0 k_o1))).trans f7_o1
  have f8_o1 := (congrArg (et_pl · 8) (he o1 (puc_ne hu0 k_o1))).trans f8_o1
  have f9_o1 := (congrArg (et_pl · 9) (he o1 (puc_ne hu0 k_o1))).trans f9_o1
  have f10_o1 := (congrArg (et_pl · 10) (he o1 (puc_ne hu0 k_o1))).trans f10_o1
  have fl := (congrArg (et_pl · 1) (he o2 (puc_ne hu0 k_o2))).trans fl
  have fba := (congrArg (et_pl · 5) (he o2 (puc_ne hu0 k_o2))).trans fba
  have fna := (congrArg (et_pl · 6) (he o2 (puc_ne hu0 k_o2))).trans fna
  have Qa_o0 := Qa_o0.he hu0 he e2
  have Qb_o0 := Qb_o0.he hu0 he e2
  have Qc_o0 := Qc_o0.he hu0 he e2
  have Qa_o1 := Qa_o1.he hu0 he e2
  have Qb_o1 := Qb_o1.he hu0 he e2
  have Qc_o1 := Qc_o1.he hu0 he e2
  refine hs_aload (i := 0) (p := 49) (by decide +kernel) rfl ?_
  have hHo := hu.1
  refine ht_newV (ci := 7) (n := 18) (fs := [.null, .null, .null, .null, .int 0, .int 0, .int 0, .int 0, .int 0, .int 0, .int 0, .int 0, .int 0, .int 0, .null, .int 0, .int 0, .null]) (p := 52) (by decide +kernel) (by omega) (by omega) (by decide +kernel) (by decide +kernel) hu.1 (fun G49 o4 ho hge hlt he => ?_)
  refine hs_dup1 (p := 53) (by decide +kernel) ?_
  refine hs_callp (mi := 89) (na := 0) (lk := 1) (lm := 1) (L0 := eg_en (eg_mL 89) [.ref o4]) (by decide +kernel) rfl rfl rfl rfl rfl (by rw [show eg_mL 89 = 1 from by decide +kernel]; first | done | rfl) ?_
  refine (pi_search ho (by omega)).mono (fun u hZ => pi_cb hZ (fun K53 G53 hq2 hH k_o4 hP => ?_))
  have hk := pk_of hq2 hge hlt he
  have hu := hk.un hH hu
  have hq := hq.mo hk
  have e0_o0 := hk.fl hHo k_ea_o0 e0_o0
  have e1_o0 := hk.fl hHo k_ea_o0 e1_o0
  have e2_o0 := hk.fl hHo k_ea_o0 e2_o0
  have f0_o0 := hk.fl hHo k_o0 f0_o0
  have f1_o0 := hk.fl hHo k_o0 f1_o0
  have f2_o0 := hk.fl hHo k_o0 f2_o0
  have f3_o0 := hk.fl hHo k_o0 f3_o0
  have f4_o0 := hk.fl hHo k_o0 f4_o0
  have f5_o0 := hk.fl hHo k_o0 f5_o0
  have f6_o0 := hk.fl hHo k_o0 f6_o0
  have f7_o0 := hk.fl hHo k_o0 f7_o0
  have f8_o0 := hk.fl hHo k_o0 f8_o0
  have f9_o0 := hk.fl hHo k_o0 f9_o0
  have f10_o0 := hk.fl hHo k_o0 f10_o0
  have e0_o1 := hk.fl hHo k_ea_o1 e0_o1
  have e1_o1 := hk.fl hHo k_ea_o1 e1_o1
  have e2_o1 := hk.fl hHo k_ea_o1 e2_o1
  have f0_o1 := hk.fl hHo k_o1 f0_o1
  have f1_o1 := hk.fl hHo k_o1 f1_o1
  have f2_o1 := hk.fl hHo k_o1 f2_o1
  have f3_o1 := hk.fl hHo k_o1 f3_o1
  have f4_o1 := hk.fl hHo k_o1 f4_o1
  have f5_o1 := hk.fl hHo k_o1 f5_o1
  have f6_o1 := hk.fl hHo k_o1 f6_o1
  have f7_o1 := hk.fl hHo k_o1 f7_o1
  have f8_o1 := hk.fl hHo k_o1 f8_o1
  have f9_o1 := hk.fl hHo k_o1 f9_o1
  have f10_o1 := hk.fl hHo k_o1 f10_o1
  have fl := hk.fl hHo k_o2 fl
  have fba := hk.fl hHo k_o2 fba
  have fna := hk.fl hHo k_o2 fna
  have Qa_o0 := Qa_o0.pk hHo hk
  have Qb_o0 := Qb_o0.pk hHo hk
  have Qc_o0 := Qc_o0.pk hHo hk
  have Qa_o1 := Qa_o1.pk hHo hk
  have Qb_o1 := Qb_o1.pk hHo hk
  have Qc_o1 := Qc_o1.pk hHo hk
  have k_o0 := hk.ty hHo k_o0
  have k_ra_o0 := hk.ty hHo k_ra_o0
  have k_ca_o0 := hk.ty hHo k_ca_o0
  have k_la_o0 := hk.ty hHo k_la_o0
  have k_ya_o0 := hk.ty hHo k_ya_o0
  have k_ta_o0 := hk.ty hHo k_ta_o0
  have k_ea_o0 := hk.ty hHo k_ea_o0
  have k_o1 := hk.ty hHo k_o1
  have k_ra_o1 := hk.ty hHo k_ra_o1
  have k_ca_o1 := hk.ty hHo k_ca_o1
  have k_la_o1 := hk.ty hHo k_la_o1
  have k_ya_o1 := hk.ty hHo k_ya_o1
  have k_ta_o1 := hk.ty hHo k_ta_o1
  have k_ea_o1 := hk.ty hHo k_ea_o1
  have k_o2 := hk.ty hHo k_o2
  have k_o3 := hk.ty hHo k_o3
  show et_go none _ 115 56 _ [.ref o4, .ref a] _ 71 5017 _
  have hu0 := hu
  refine hs_puti (ci := 10) (f := 5) (ty := .object "KnobEye$Search") (v := .ref o4) (p := 59) (by decide +kernel) hu (Nat.le_of_ble_eq_true rfl) rfl (fun G56 hu he e2 => ?_)
  have hu : puc _ _ a (.inr (10, [.ref o0, .ref o1, .int 0, .ref o2, .ref o3, .ref o4, .int 0, .int 0, .null, .null, .int 0, .null])) := hu
  have hq := hq.pt he e2
  have e0_o0 := (congrArg (et_pl · 0) (he ea_o0 (puc_ne hu0 k_ea_o0))).trans e0_o0
  have e1_o0 := (congrArg (et_pl · 1) (he ea_o0 (puc_ne hu0 k_ea_o0))).trans e1_o0
  have e2_o0 := (congrArg (et_pl · 2) (he ea_o0 (puc_ne hu0 k_ea_o0))).trans e2_o0
  have f0_o0 := (congrArg (et_pl · 0) (he o0 (puc_ne hu0 k_o0))).trans f0_o0
  have f1_o0 := (congrArg (et_pl · 1) (he o0 (puc_ne hu0 k_o0))).trans f1_o0
  have f2_o0 := (congrArg (et_pl · 2) (he o0 (puc_ne hu0 k_o0))).trans f2_o0
  have f3_o0 := (congrArg (et_pl · 3) (he o0 (puc_ne hu0 k_o0))).trans f3_o0
  have f4_o0 := (congrArg (et_pl · 4) (he o0 (puc_ne hu0 k_o0))).trans f4_o0
  have f5_o0 := (congrArg (et_pl · 5) (he o0 (puc_ne hu0 k_o0))).trans f5_o0
  have f6_o0 := (congrArg (et_pl · 6) (he o0 (puc_ne hu0 k_o0))).trans f6_o0
  have f7_o0 := (congrArg (et_pl · 7) (he o0 (puc_ne hu0 k_o0))).trans f7_o0
  have f8_o0 := (congrArg (et_pl · 8) (he o0 (puc_ne hu0 k_o0))).trans f8_o0
  have f9_o0 := (congrArg (et_pl · 9) (he o0 (puc_ne hu0 k_o0))).trans f9_o0
  have f10_o0 := (congrArg (et_pl · 10) (he o0 (puc_ne hu0 k_o0))).trans f10_o0
  have e0_o1 := (congrArg (et_pl · 0) (he ea_o1 (puc_ne hu0 k_ea_o1))).trans e0_o1
  have e1_o1 := (congrArg (et_pl · 1) (he ea_o1 (puc_ne hu0 k_ea_o1))).trans e1_o1
  have e2_o1 := (congrArg (et_pl · 2) (he ea_o1 (puc_ne hu0 k_ea_o1))).trans e2_o1
  have f0_o1 := (congrArg (et_pl · 0) (he o1 (puc_ne hu0 k_o1))).trans f0_o1
  have f1_o1 := (congrArg (et_pl · 1) (he o1 (puc_ne hu0 k_o1))).trans f1_o1
  have f2_o1 := (congrArg (et_pl · 2) (he o1 (puc_ne hu0 k_o1))).trans f2_o1
  have f3_o1 := (congrArg (et_pl · 3) (he o1 (puc_ne hu0 k_o1))).trans f3_o1
  have f4_o1 := (congrArg (et_pl · 4) (he o1 (puc_ne hu0 k_o1))).trans f4_o1
  have f5_o1 := (congrArg (et_pl · 5) (he o1 (puc_ne hu0 k_o1))).trans f5_o1
  have f6_o1 := (congrArg (et_pl · 6) (he o1 (puc_ne hu0 k_o1))).trans f6_o1
  have f7_o1 := (congrArg (et_pl · 7) (he o1 (puc_ne hu0 k_o1))).trans f7_o1
  have f8_o1 := (congrArg (et_pl · 8) (he o1 (puc_ne hu0 k_o1))).trans f8_o1
  have f9_o1 := (congrArg (et_pl · 9) (he o1 (puc_ne hu0 k_o1))).trans f9_o1
  have f10_o1 := (congrArg (et_pl · 10) (he o1 (puc_ne hu0 k_o1))).trans f10_o1
  have fl := (congrArg (et_pl · 1) (he o2 (puc_ne hu0 k_o2))).trans fl
  have fba := (congrArg (et_pl · 5) (he o2 (puc_ne hu0 k_o2))).trans fba
  have fna := (congrArg (et_pl · 6) (he o2 (puc_ne hu0 k_o2))).trans fna
  have Qa_o0 := Qa_o0.he hu0 he e2
  have Qb_o0 := Qb_o0.he hu0 he e2
  have Qc_o0 := Qc_o0.he hu0 he e2
  have Qa_o1 := Qa_o1.he hu0 he e2
  have Qb_o1 := Qb_o1.he hu0 he e2
  have Qc_o1 := Qc_o1.he hu0 he e2
  refine hs_aload (i := 0) (p := 60) (by decide +kernel) rfl ?_
  refine hs_k (x := (-1)) (p := 61) (by decide +kernel) ?_
  have hu0 := hu
  refine hs_puti (ci := 10) (f := 6) (ty := .int) (v := .int (-1)) (p := 64) (by decide +kernel) hu (Nat.le_of_ble_eq_true rfl) rfl (fun G61 hu he e2 => ?_)
  have hu : puc _ _ a (.inr (10, [.ref o0, .ref o1, .int 0, .ref o2, .ref o3, .ref o4, .int (-1), .int 0, .null, .null, .int 0, .null])) := hu
  have hq := hq.pt he e2
  have e0_o0 := (congrArg (et_pl · 0) (he ea_o0 (puc_ne hu0 k_ea_o0))).trans e0_o0
  have e1_o0 := (congrArg (et_pl · 1) (he ea_o0 (puc_ne hu0 k_ea_o0))).trans e1_o0
  have e2_o0 := (congrArg (et_pl · 2) (he ea_o0 (puc_ne hu0 k_ea_o0))).trans e2_o0
  have f0_o0 := (congrArg (et_pl · 0) (he o0 (puc_ne hu0 k_o0))).trans f0_o0
  have f1_o0 := (congrArg (et_pl · 1) (he o0 (puc_ne hu0 k_o0))).trans f1_o0
  have f2_o0 := (congrArg (et_pl · 2) (he o0 (puc_ne hu0 k_o0))).trans f2_o0
  have f3_o0 := (congrArg (et_pl · 3) (he o0 (puc_ne hu0 k_o0))).trans f3_o0
  have f4_o0 := (congrArg (et_pl · 4) (he o0 (puc_ne hu0 k_o0))).trans f4_o0
  have f5_o0 := (congrArg (et_pl · 5) (he o0 (puc_ne hu0 k_o0))).trans f5_o0
  have f6_o0 := (congrArg (et_pl · 6) (he o0 (puc_ne hu0 k_o0))).trans f6_o0
  have f7_o0 := (congrArg (et_pl · 7) (he o0 (puc_ne hu0 k_o0))).trans f7_o0
  have f8_o0 := (congrArg (et_pl · 8) (he o0 (puc_ne hu0 k_o0))).trans f8_o0
  have f9_o0 := (congrArg (et_pl · 9) (he o0 (puc_ne hu0 k_o0))).trans f9_o0
  have f10_o0 := (congrArg (et_pl · 10) (he o0 (puc_ne hu0 k_o0))).trans f10_o0
  have e0_o1 := (congrArg (et_pl · 0) (he ea_o1 (puc_ne hu0 k_ea_o1))).trans e0_o1
  have e1_o1 := (congrArg (et_pl · 1) (he ea_o1 (puc_ne hu0 k_ea_o1))).trans e1_o1
  have e2_o1 := (congrArg (et_pl · 2) (he ea_o1 (puc_ne hu0 k_ea_o1))).trans e2_o1
  have f0_o1 := (congrArg (et_pl · 0) (he o1 (puc_ne hu0 k_o1))).trans f0_o1
  have f1_o1 := (congrArg (et_pl · 1) (he o1 (puc_ne hu0 k_o1))).trans f1_o1
  have f2_o1 := (congrArg (et_pl · 2) (he o1 (puc_ne hu0 k_o1))).trans f2_o1
  have f3_o1 := (congrArg (et_pl · 3) (he o1 (puc_ne hu0 k_o1))).trans f3_o1
  have f4_o1 := (congrArg (et_pl · 4) (he o1 (puc_ne hu0 k_o1))).trans f4_o1
  have f5_o1 := (congrArg (et_pl · 5) (he o1 (puc_ne hu0 k_o1))).trans f5_o1
  have f6_o1 := (congrArg (et_pl · 6) (he o1 (puc_ne hu0 k_o1))).trans f6_o1
  have f7_o1 := (congrArg (et_pl · 7) (he o1 (puc_ne hu0 k_o1))).trans f7_o1
  have f8_o1 := (congrArg (et_pl · 8) (he o1 (puc_ne hu0 k_o1))).trans f8_o1
  have f9_o1 := (congrArg (et_pl · 9) (he o1 (puc_ne hu0 k_o1))).trans f9_o1
  have f10_o1 := (congrArg (et_pl · 10) (he o1 (puc_ne hu0 k_o1))).trans f10_o1
  have fl := (congrArg (et_pl · 1) (he o2 (puc_ne hu0 k_o2))).trans fl
  have fba := (congrArg (et_pl · 5) (he o2 (puc_ne hu0 k_o2))).trans fba
  have fna := (congrArg (et_pl · 6) (he o2 (puc_ne hu0 k_o2))).trans fna
  have Qa_o0 := Qa_o0.he hu0 he e2
  have Qb_o0 := Qb_o0.he hu0 he e2
  have Qc_o0 := Qc_o0.he hu0 he e2
  have Qa_o1 := Qa_o1.he hu0 he e2
  have Qb_o1 := Qb_o1.he hu0 he e2
  have Qc_o1 := Qc_o1.he hu0 he e2
  refine hs_aload (i := 0) (p := 65) (by decide +kernel) rfl ?_
  refine hs_k (x := (-1)) (p := 66) (by decide +kernel) ?_
  have hu0 := hu
  refine hs_puti (ci := 10) (f := 7) (ty := .int) (v := .int (-1)) (p := 69) (by decide +kernel) hu (Nat.le_of_ble_eq_true rfl) rfl (fun G66 hu he e2 => ?_)
  have hu : puc _ _ a (.inr (10, [.ref o0, .ref o1, .int 0, .ref o2, .ref o3, .ref o4, .int (-1), .int (-1), .null, .null, .int 0, .null])) := hu
  have hq := hq.pt he e2
  have e0_o0 := (congrArg (et_pl · 0) (he ea_o0 (puc_ne hu0 k_ea_o0))).trans e0_o0
  have e1_o0 := (congrArg (et_pl · 1) (he ea_o0 (puc_ne hu0 k_ea_o0))).trans e1_o0
  have e2_o0 := (congrArg (et_pl · 2) (he ea_o0 (puc_ne hu0 k_ea_o0))).trans e2_o0
  have f0_o0 := (congrArg (et_pl · 0) (he o0 (puc_ne hu0 k_o0))).trans f0_o0
  have f1_o0 := (congrArg (et_pl · 1) (he o0 (puc_ne hu0 k_o0))).trans f1_o0
  have f2_o0 := (congrArg (et_pl · 2) (he o0 (puc_ne hu0 k_o0))).trans f2_o0
  have f3_o0 := (congrArg (et_pl · 3) (he o0 (puc_ne hu0 k_o0))).trans f3_o0
  have f4_o0 := (congrArg (et_pl · 4) (he o0 (puc_ne hu0 k_o0))).trans f4_o0
  have f5_o0 := (congrArg (et_pl · 5) (he o0 (puc_ne hu0 k_o0))).trans f5_o0
  have f6_o0 := (congrArg (et_pl · 6) (he o0 (puc_ne hu0 k_o0))).trans f6_o0
  have f7_o0 := (congrArg (et_pl · 7) (he o0 (puc_ne hu0 k_o0))).trans f7_o0
  have f8_o0 := (congrArg (et_pl · 8) (he o0 (puc_ne hu0 k_o0))).trans f8_o0
  have f9_o0 := (congrArg (et_pl · 9) (he o0 (puc_ne hu0 k_o0))).trans f9_o0
  have f10_o0 := (congrArg (et_pl · 10) (he o0 (puc_ne hu0 k_o0))).trans f10_o0
  have e0_o1 := (congrArg (et_pl · 0) (he ea_o1 (puc_ne hu0 k_ea_o1))).trans e0_o1
  have e1_o1 := (congrArg (et_pl · 1) (he ea_o1 (puc_ne hu0 k_ea_o1))).trans e1_o1
  have e2_o1 := (congrArg (et_pl · 2) (he ea_o1 (puc_ne hu0 k_ea_o1))).trans e2_o1
  have f0_o1 := (congrArg (et_pl · 0) (he o1 (puc_ne hu0 k_o1))).trans f0_o1
  have f1_o1 := (congrArg (et_pl · 1) (he o1 (puc_ne hu0 k_o1))).trans f1_o1
  have f2_o1 := (congrArg (et_pl · 2) (he o1 (puc_ne hu0 k_o1))).trans f2_o1
  have f3_o1 := (congrArg (et_pl · 3) (he o1 (puc_ne hu0 k_o1))).trans f3_o1
  have f4_o1 := (congrArg (et_pl · 4) (he o1 (puc_ne hu0 k_o1))).trans f4_o1
  have f5_o1 := (congrArg (et_pl · 5) (he o1 (puc_ne hu0 k_o1))).trans f5_o1
  have f6_o1 := (congrArg (et_pl · 6) (he o1 (puc_ne hu0 k_o1))).trans f6_o1
  have f7_o1 := (congrArg (et_pl · 7) (he o1 (puc_ne hu0 k_o1))).trans f7_o1
  have f8_o1 := (congrArg (et_pl · 8) (he o1 (puc_ne hu0 k_o1))).trans f8_o1
  have f9_o1 := (congrArg (et_pl · 9) (he o1 (puc_ne hu0 k_o1))).trans f9_o1
  have f10_o1 := (congrArg (et_pl · 10) (he o1 (puc_ne hu0 k_o1))).trans f10_o1
  have fl := (congrArg (et_pl · 1) (he o2 (puc_ne hu0 k_o2))).trans fl
  have fba := (congrArg (et_pl · 5) (he o2 (puc_ne hu0 k_o2))).trans fba
  have fna := (congrArg (et_pl · 6) (he o2 (puc_ne hu0 k_o2))).trans fna
  have Qa_o0 := Qa_o0.he hu0 he e2
  have Qb_o0 := Qb_o0.he hu0 he e2
  have Qc_o0 := Qc_o0.he hu0 he e2
  have Qa_o1 := Qa_o1.he hu0 he e2
  have Qb_o1 := Qb_o1.he hu0 he e2
  have Qc_o1 := Qc_o1.he hu0 he e2
  refine hs_aload (i := 0) (p := 70) (by decide +kernel) rfl ?_
  have hHo := hu.1
  refine ht_newV (ci := 1) (n := 8) (fs := [.int 0, .null, .null, .null, .int 0, .int 0, .int 0, .int 0]) (p := 73) (by decide +kernel) (by omega) (by omega) (by decide +kernel) (by decide +kernel) hu.1 (fun G70 o5 ho hge hlt he => ?_)
  have hgo_o5 := Nat.le_trans hq.1 hge
  have hlo_Qa_o0_o5 : Ca_o0 < o5 := Nat.lt_of_lt_of_le Qa_o0.2.1.2.2.2 hge
  have hlo_Qb_o0_o5 : Cb_o0 < o5 := Nat.lt_of_lt_of_le Qb_o0.2.1.2.2.2 hge
  have hlo_Qc_o0_o5 : Cc_o0 < o5 := Nat.lt_of_lt_of_le Qc_o0.2.1.2.2.2 hge
  have hlo_Qa_o1_o5 : Ca_o1 < o5 := Nat.lt_of_lt_of_le Qa_o1.2.1.2.2.2 hge
  have hlo_Qb_o1_o5 : Cb_o1 < o5 := Nat.lt_of_lt_of_le Qb_o1.2.1.2.2.2 hge
  have hlo_Qc_o1_o5 : Cc_o1 < o5 := Nat.lt_of_lt_of_le Qc_o1.2.1.2.2.2 hge
  refine hs_dup1 (p := 74) (by decide +kernel) ?_
  refine hs_callp (mi := 31) (na := 0) (lk := 1) (lm := 1) (L0 := eg_en (eg_mL 31) [.ref o5]) (by decide +kernel) rfl rfl rfl rfl rfl (by rw [show eg_mL 31 = 1 from by decide +kernel]; first | done | rfl) ?_
  refine (pi_eye5 ho (by omega)).mono (fun u hZ => pi_cb hZ (fun K74 G74 hq2 hH k_o5 hP => ?_))
  have hk := pk_of hq2 hge hlt he
  have hu := hk.un hH hu
  have hq := hq.mo hk
  have e0_o0 := hk.fl hHo k_ea_o0 e0_o0
  have e1_o0 := hk.fl hHo k_ea_o0 e1_o0
  have e2_o0 := hk.fl hHo k_ea_o0 e2_o0
  have f0_o0 := hk.fl hHo k_o0 f0_o0
  have f1_o0 := hk.fl hHo k_o0 f1_o0
  have f2_o0 := hk.fl hHo k_o0 f2_o0
  have f3_o0 := hk.fl hHo k_o0 f3_o0
  have f4_o0 := hk.fl hHo k_o0 f4_o0
  have f5_o0 := hk.fl hHo k_o0 f5_o0
  have f6_o0 := hk.fl hHo k_o0 f6_o0
  have f7_o0 := hk.fl hHo k_o0 f7_o0
  have f8_o0 := hk.fl hHo k_o0 f8_o0
  have f9_o0 := hk.fl hHo k_o0 f9_o0
  have f10_o0 := hk.fl hHo k_o0 f10_o0
  have e0_o1 := hk.fl hHo k_ea_o1 e0_o1
  have e1_o1 := hk.fl hHo k_ea_o1 e1_o1
  have e2_o1 := hk.fl hHo k_ea_o1 e2_o1
  have f0_o1 := hk.fl hHo k_o1 f0_o1
  have f1_o1 := hk.fl hHo k_o1 f1_o1
  have f2_o1 := hk.fl hHo k_o1 f2_o1
  have f3_o1 := hk.fl hHo k_o1 f3_o1
  have f4_o1 := hk.fl hHo k_o1 f4_o1
  have f5_o1 := hk.fl hHo k_o1 f5_o1
  have f6_o1 := hk.fl hHo k_o1 f6_o1
  have f7_o1 := hk.fl hHo k_o1 f7_o1
  have f8_o1 := hk.fl hHo k_o1 f8_o1
  have f9_o1 := hk.fl hHo k_o1 f9_o1
  have f10_o1 := hk.fl hHo k_o1 f10_o1
  have fl := hk.fl hHo k_o2 fl
  have fba := hk.fl hHo k_o2 fba
  have fna := hk.fl hHo k_o2 fna
  have Qa_o0 := Qa_o0.pk hHo hk
  have Qb_o0 := Qb_o0.pk hHo hk
  have Qc_o0 := Qc_o0.pk hHo hk
  have Qa_o1 := Qa_o1.pk hHo hk
  have Qb_o1 := Qb_o1.pk hHo hk
  have Qc_o1 := Qc_o1.pk hHo hk
  have k_o0 := hk.ty hHo k_o0
  have k_ra_o0 := hk.ty hHo k_ra_o0
  have k_ca_o0 := hk.ty hHo k_ca_o0
  have k_la_o0 := hk.ty hHo k_la_o0
  have k_ya_o0 := hk.ty hHo k_ya_o0
  have k_ta_o0 := hk.ty hHo k_ta_o0
  have k_ea_o0 := hk.ty hHo k_ea_o0
  have k_o1 := hk.ty hHo k_o1
  have k_ra_o1 := hk.ty hHo k_ra_o1
  have k_ca_o1 := hk.ty hHo k_ca_o1
  have k_la_o1 := hk.ty hHo k_la_o1
  have k_ya_o1 := hk.ty hHo k_ya_o1
  have k_ta_o1 := hk.ty hHo k_ta_o1
  have k_ea_o1 := hk.ty hHo k_ea_o1
  have k_o2 := hk.ty hHo k_o2
  have k_o3 := hk.ty hHo k_o3
  have k_o4 := hk.ty hHo k_o4
  obtain ⟨A_o5, B_o5, C_o5, Q_o5, hlA_o5⟩ := hP
  show et_go none _ 115 77 _ [.ref o5, .ref a] _ 75 5043 _
  have hu0 := hu
  refine hs_puti (ci := 10) (f := 8) (ty := .object "KnobEye$Eye") (v := .ref o5) (p := 80) (by decide +kernel) hu (Nat.le_of_ble_eq_true rfl) rfl (fun G77 hu he e2 => ?_)
  have hu : puc _ _ a (.inr (10, [.ref o0, .ref o1, .int 0, .ref o2, .ref o3, .ref o4, .int (-1), .int (-1), .ref o5, .null, .int 0, .null])) := hu
  have hq := hq.pt he e2
  have e0_o0 := (congrArg (et_pl · 0) (he ea_o0 (puc_ne hu0 k_ea_o0))).trans e0_o0
  have e1_o0 := (congrArg (et_pl · 1) (he ea_o0 (puc_ne hu0 k_ea_o0))).trans e1_o0
  have e2_o0 := (congrArg (et_pl · 2) (he ea_o0 (puc_ne hu0 k_ea_o0))).trans e2_o0
  have f0_o0 := (congrArg (et_pl · 0) (he o0 (puc_ne hu0 k_o0))).trans f0_o0
  have f1_o0 := (congrArg (et_pl · 1) (he o0 (puc_ne hu0 k_o0))).trans f1_o0
  have f2_o0 := (congrArg (et_pl · 2) (he o0 (puc_ne hu0 k_o0))).trans f2_o0
  have f3_o0 := (congrArg (et_pl · 3) (he o0 (puc_ne hu0 k_o0))).trans f3_o0
  have f4_o0 := (congrArg (et_pl · 4) (he o0 (puc_ne hu0 k_o0))).trans f4_o0
  have f5_o0 := (congrArg (et_pl · 5) (he o0 (puc_ne hu0 k_o0))).trans f5_o0
  have f6_o0 := (congrArg (et_pl · 6) (he o0 (puc_ne hu0 k_o0))).trans f6_o0
  have f7_o0 := (congrArg (et_pl · 7) (he o0 (puc_ne hu0 k_o0))).trans f7_o0
  have f8_o0 := (congrArg (et_pl · 8) (he o0 (puc_ne hu0 k_o0))).trans f8_o0
  have f9_o0 := (congrArg (et_pl · 9) (he o0 (puc_ne hu0 k_o0))).trans f9_o0
  have f10_o0 := (congrArg (et_pl · 10) (he o0 (puc_ne hu0 k_o0))).trans f10_o0
  have e0_o1 := (congrArg (et_pl · 0) (he ea_o1 (puc_ne hu0 k_ea_o1))).trans e0_o1
  have e1_o1 := (congrArg (et_pl · 1) (he ea_o1 (puc_ne hu0 k_ea_o1))).trans e1_o1
  have e2_o1 := (congrArg (et_pl · 2) (he ea_o1 (puc_ne hu0 k_ea_o1))).trans e2_o1
  have f0_o1 := (congrArg (et_pl · 0) (he o1 (puc_ne hu0 k_o1))).trans f0_o1
  have f1_o1 := (congrArg (et_pl · 1) (he o1 (puc_ne hu0 k_o1))).trans f1_o1
  have f2_o1 := (congrArg (et_pl · 2) (he o1 (puc_ne hu0 k_o1))).trans f2_o1
  have f3_o1 := (congrArg (et_pl · 3) (he o1 (puc_ne hu0 k_o1))).trans f3_o1
  have f4_o1 := (congrArg (et_pl · 4) (he o1 (puc_ne hu0 k_o1))).trans f4_o1
  have f5_o1 := (congrArg (et_pl · 5) (he o1 (puc_ne hu0 k_o1))).trans f5_o1
  have f6_o1 := (congrArg (et_pl · 6) (he o1 (puc_ne hu0 k_o1))).trans f6_o1
  have f7_o1 := (congrArg (et_pl · 7) (he o1 (puc_ne hu0 k_o1))).trans f7_o1
  have f8_o1 := (congrArg (et_pl · 8) (he o1 (puc_ne hu0 k_o1))).trans f8_o1
  have f9_o1 := (congrArg (et_pl · 9) (he o1 (puc_ne hu0 k_o1))).trans f9_o1
  have f10_o1 := (congrArg (et_pl · 10) (he o1 (puc_ne hu0 k_o1))).trans f10_o1
  have fl := (congrArg (et_pl · 1) (he o2 (puc_ne hu0 k_o2))).trans fl
  have fba := (congrArg (et_pl · 5) (he o2 (puc_ne hu0 k_o2))).trans fba
  have fna := (congrArg (et_pl · 6) (he o2 (puc_ne hu0 k_o2))).trans fna
  have Qa_o0 := Qa_o0.he hu0 he e2
  have Qb_o0 := Qb_o0.he hu0 he e2
  have Qc_o0 := Qc_o0.he hu0 he e2
  have Qa_o1 := Qa_o1.he hu0 he e2
  have Qb_o1 := Qb_o1.he hu0 he e2
  have Qc_o1 := Qc_o1.he hu0 he e2
  have Q_o5 := Q_o5.he hu0 he e2
  refine hs_aload (i := 0) (p := 81) (by decide +kernel) rfl ?_
  refine hs_k (x := Int32.ofNat 5) (p := 82) (by decide +kernel) ?_
  have hHo := hu.1
  refine ht_nb (t := 32) (n := 5) (kd := 0) (p := 84) (by decide +kernel) rfl (by decide +kernel) ⟨by decide +kernel, by decide +kernel, by decide +kernel⟩ (by omega) (by omega) hu.1 (fun K82 G82 b82 hk hH k_b82 hg_b82 hz_b82 => ?_)
  have hg_b82 := Nat.le_trans hq.1 hg_b82
  have hu := hk.un hH hu
  have hq := hq.mo hk
  have e0_o0 := hk.fl hHo k_ea_o0 e0_o0
  have e1_o0 := hk.fl hHo k_ea_o0 e1_o0
  have e2_o0 := hk.fl hHo k_ea_o0 e2_o0
  have f0_o0 := hk.fl hHo k_o0 f0_o0
  have f1_o0 := hk.fl hHo k_o0 f1_o0
  have f2_o0 := hk.fl hHo k_o0 f2_o0
  have f3_o0 := hk.fl hHo k_o0 f3_o0
  have f4_o0 := hk.fl hHo k_o0 f4_o0
  have f5_o0 := hk.fl hHo k_o0 f5_o0
  have f6_o0 := hk.fl hHo k_o0 f6_o0
  have f7_o0 := hk.fl hHo k_o0 f7_o0
  have f8_o0 := hk.fl hHo k_o0 f8_o0
  have f9_o0 := hk.fl hHo k_o0 f9_o0
  have f10_o0 := hk.fl hHo k_o0 f10_o0
  have e0_o1 := hk.fl hHo k_ea_o1 e0_o1
  have e1_o1 := hk.fl hHo k_ea_o1 e1_o1
  have e2_o1 := hk.fl hHo k_ea_o1 e2_o1
  have f0_o1 := hk.fl hHo k_o1 f0_o1
  have f1_o1 := hk.fl hHo k_o1 f1_o1
  have f2_o1 := hk.fl hHo k_o1 f2_o1
  have f3_o1 := hk.fl hHo k_o1 f3_o1
  have f4_o1 := hk.fl hHo k_o1 f4_o1
  have f5_o1 := hk.fl hHo k_o1 f5_o1
  have f6_o1 := hk.fl hHo k_o1 f6_o1
  have f7_o1 := hk.fl hHo k_o1 f7_o1
  have f8_o1 := hk.fl hHo k_o1 f8_o1
  have f9_o1 := hk.fl hHo k_o1 f9_o1
  have f10_o1 := hk.fl hHo k_o1 f10_o1
  have fl := hk.fl hHo k_o2 fl
  have fba := hk.fl hHo k_o2 fba
  have fna := hk.fl hHo k_o2 fna
  have Qa_o0 := Qa_o0.pk hHo hk
  have Qb_o0 := Qb_o0.pk hHo hk
  have Qc_o0 := Qc_o0.pk hHo hk
  have Qa_o1 := Qa_o1.pk hHo hk
  have Qb_o1 := Qb_o1.pk hHo hk
  have Qc_o1 := Qc_o1.pk hHo hk
  have Q_o5 := Q_o5.pk hHo hk
  have k_o0 := hk.ty hHo k_o0
  have k_ra_o0 := hk.ty hHo k_ra_o0
  have k_ca_o0 := hk.ty hHo k_ca_o0
  have k_la_o0 := hk.ty hHo k_la_o0
  have k_ya_o0 := hk.ty hHo k_ya_o0
  have k_ta_o0 := hk.ty hHo k_ta_o0
  have k_ea_o0 := hk.ty hHo k_ea_o0
  have k_o1 := hk.ty hHo k_o1
  have k_ra_o1 := hk.ty hHo k_ra_o1
  have k_ca_o1 := hk.ty hHo k_ca_o1
  have k_la_o1 := hk.ty hHo k_la_o1
  have k_ya_o1 := hk.ty hHo k_ya_o1
  have k_ta_o1 := hk.ty hHo k_ta_o1
  have k_ea_o1 := hk.ty hHo k_ea_o1
  have k_o2 := hk.ty hHo k_o2
  have k_o3 := hk.ty hHo k_o3
  have k_o4 := hk.ty hHo k_o4
  have k_o5 := hk.ty hHo k_o5
  have hu0 := hu
  refine hs_puti (ci := 10) (f := 9) (ty := .array .int) (v := .ref b82) (p := 87) (by decide +kernel) hu (Nat.le_of_ble_eq_true rfl) rfl (fun G84 hu he e2 => ?_)
  have hu : puc _ _ a (.inr (10, [.ref o0, .ref o1, .int 0, .ref o2, .ref o3, .ref o4, .int (-1), .int (-1), .ref o5, .ref b82, .int 0, .null])) := hu
  have hq := hq.pt he e2
  have e0_o0 := (congrArg (et_pl · 0) (he ea_o0 (puc_ne hu0 k_ea_o0))).trans e0_o0
  have e1_o0 := (congrArg (et_pl · 1) (he ea_o0 (puc_ne hu0 k_ea_o0))).trans e1_o0
  have e2_o0 := (congrArg (et_pl · 2) (he ea_o0 (puc_ne hu0 k_ea_o0))).trans e2_o0
  have f0_o0 := (congrArg (et_pl · 0) (he o0 (puc_ne hu0 k_o0))).trans f0_o0
  have f1_o0 := (congrArg (et_pl · 1) (he o0 (puc_ne hu0 k_o0))).trans f1_o0
  have f2_o0 := (congrArg (et_pl · 2) (he o0 (puc_ne hu0 k_o0))).trans f2_o0
  have f3_o0 := (congrArg (et_pl · 3) (he o0 (puc_ne hu0 k_o0))).trans f3_o0
  have f4_o0 := (congrArg (et_pl · 4) (he o0 (puc_ne hu0 k_o0))).trans f4_o0
  have f5_o0 := (congrArg (et_pl · 5) (he o0 (puc_ne hu0 k_o0))).trans f5_o0
  have f6_o0 := (congrArg (et_pl · 6) (he o0 (puc_ne hu0 k_o0))).trans f6_o0
  have f7_o0 := (congrArg (et_pl · 7) (he o0 (puc_ne hu0 k_o0))).trans f7_o0
  have f8_o0 := (congrArg (et_pl · 8) (he o0 (puc_ne hu0 k_o0))).trans f8_o0
  have f9_o0 := (congrArg (et_pl · 9) (he o0 (puc_ne hu0 k_o0))).trans f9_o0
  have f10_o0 := (congrArg (et_pl · 10) (he o0 (puc_ne hu0 k_o0))).trans f10_o0
  have e0_o1 := (congrArg (et_pl · 0) (he ea_o1 (puc_ne hu0 k_ea_o1))).trans e0_o1
  have e1_o1 := (congrArg (et_pl · 1) (he ea_o1 (puc_ne hu0 k_ea_o1))).trans e1_o1
  have e2_o1 := (congrArg (et_pl · 2) (he ea_o1 (puc_ne hu0 k_ea_o1))).trans e2_o1
  have f0_o1 := (congrArg (et_pl · 0) (he o1 (puc_ne hu0 k_o1))).trans f0_o1
  have f1_o1 := (congrArg (et_pl · 1) (he o1 (puc_ne hu0 k_o1))).trans f1_o1
  have f2_o1 := (congrArg (et_pl · 2) (he o1 (puc_ne hu0 k_o1))).trans f2_o1
  have f3_o1 := (congrArg (et_pl · 3) (he o1 (puc_ne hu0 k_o1))).trans f3_o1
  have f4_o1 := (congrArg (et_pl · 4) (he o1 (puc_ne hu0 k_o1))).trans f4_o1
  have f5_o1 := (congrArg (et_pl · 5) (he o1 (puc_ne hu0 k_o1))).trans f5_o1
  have f6_o1 := (congrArg (et_pl · 6) (he o1 (puc_ne hu0 k_o1))).trans f6_o1
  have f7_o1 := (congrArg (et_pl · 7) (he o1 (puc_ne hu0 k_o1))).trans f7_o1
  have f8_o1 := (congrArg (et_pl · 8) (he o1 (puc_ne hu0 k_o1))).trans f8_o1
  have f9_o1 := (congrArg (et_pl · 9) (he o1 (puc_ne hu0 k_o1))).trans f9_o1
  have f10_o1 := (congrArg (et_pl · 10) (he o1 (puc_ne hu0 k_o1))).trans f10_o1
  have fl := (congrArg (et_pl · 1) (he o2 (puc_ne hu0 k_o2))).trans fl
  have fba := (congrArg (et_pl · 5) (he o2 (puc_ne hu0 k_o2))).trans fba
  have fna := (congrArg (et_pl · 6) (he o2 (puc_ne hu0 k_o2))).trans fna
  have Qa_o0 := Qa_o0.he hu0 he e2
  have Qb_o0 := Qb_o0.he hu0 he e2
  have Qc_o0 := Qc_o0.he hu0 he e2
  have Qa_o1 := Qa_o1.he hu0 he e2
  have Qb_o1 := Qb_o1.he hu0 he e2
  have Qc_o1 := Qc_o1.he hu0 he e2
  have Q_o5 := Q_o5.he hu0 he e2
  refine hs_aload (i := 0) (p := 88) (by decide +kernel) rfl ?_
  have hHo := hu.1
  refine ht_newV (ci := 3) (n := 3) (fs := [.null, .null, .int 0]) (p := 91) (by decide +kernel) (by omega) (by omega) (by decide +kernel) (by decide +kernel) hu.1 (fun G88 o6 ho hge hlt he => ?_)
  refine hs_dup1 (p := 92) (by decide +kernel) ?_
  refine hs_callp (mi := 57) (na := 0) (lk := 1) (lm := 1) (L0 := eg_en (eg_mL 57) [.ref o6]) (by decide +kernel) rfl rfl rfl rfl rfl (by rw [show eg_mL 57 = 1 from by decide +kernel]; first | done | rfl) ?_
  refine (pi_likes ho (by omega)).mono (fun u hZ => pi_cb hZ (fun K92 G92 hq2 hH k_o6 hP => ?_))
  have hk := pk_of hq2 hge hlt he
  have hu := hk.un hH hu
  have hq := hq.mo hk
  have e0_o0 := hk.fl hHo k_ea_o0 e0_o0
  have e1_o0 := hk.fl hHo k_ea_o0 e1_o0
  have e2_o0 := hk.fl hHo k_ea_o0 e2_o0
  have f0_o0 := hk.fl hHo k_o0 f0_o0
  have f1_o0 := hk.fl hHo k_o0 f1_o0
  have f2_o0 := hk.fl hHo k_o0 f2_o0
  have f3_o0 := hk.fl hHo k_o0 f3_o0
  have f4_o0 := hk.fl hHo k_o0 f4_o0
  have f5_o0 := hk.fl hHo k_o0 f5_o0
  have f6_o0 := hk.fl hHo k_o0 f6_o0
  have f7_o0 := hk.fl hHo k_o0 f7_o0
  have f8_o0 := hk.fl hHo k_o0 f8_o0
  have f9_o0 := hk.fl hHo k_o0 f9_o0
  have f10_o0 := hk.fl hHo k_o0 f10_o0
  have e0_o1 := hk.fl hHo k_ea_o1 e0_o1
  have e1_o1 := hk.fl hHo k_ea_o1 e1_o1
  have e2_o1 := hk.fl hHo k_ea_o1 e2_o1
  have f0_o1 := hk.fl hHo k_o1 f0_o1
  have f1_o1 := hk.fl hHo k_o1 f1_o1
  have f2_o1 := hk.fl hHo k_o1 f2_o1
  have f3_o1 := hk.fl hHo k_o1 f3_o1
  have f4_o1 := hk.fl hHo k_o1 f4_o1
  have f5_o1 := hk.fl hHo k_o1 f5_o1
  have f6_o1 := hk.fl hHo k_o1 f6_o1
  have f7_o1 := hk.fl hHo k_o1 f7_o1
  have f8_o1 := hk.fl hHo k_o1 f8_o1
  have f9_o1 := hk.fl hHo k_o1 f9_o1
  have f10_o1 := hk.fl hHo k_o1 f10_o1
  have fl := hk.fl hHo k_o2 fl
  have fba := hk.fl hHo k_o2 fba
  have fna := hk.fl hHo k_o2 fna
  have Qa_o0 := Qa_o0.pk hHo hk
  have Qb_o0 := Qb_o0.pk hHo hk
  have Qc_o0 := Qc_o0.pk hHo hk
  have Qa_o1 := Qa_o1.pk hHo hk
  have Qb_o1 := Qb_o1.pk hHo hk
  have Qc_o1 := Qc_o1.pk hHo hk
  have Q_o5 := Q_o5.pk hHo hk
  have k_o0 := hk.ty hHo k_o0
  have k_ra_o0 := hk.ty hHo k_ra_o0
  have k_ca_o0 := hk.ty hHo k_ca_o0
  have k_la_o0 := hk.ty hHo k_la_o0
  have k_ya_o0 := hk.ty hHo k_ya_o0
  have k_ta_o0 := hk.ty hHo k_ta_o0
  have k_ea_o0 := hk.ty hHo k_ea_o0
  have k_o1 := hk.ty hHo k_o1
  have k_ra_o1 := hk.ty hHo k_ra_o1
  have k_ca_o1 := hk.ty hHo k_ca_o1
  have k_la_o1 := hk.ty hHo k_la_o1
  have k_ya_o1 := hk.ty hHo k_ya_o1
  have k_ta_o1 := hk.ty hHo k_ta_o1
  have k_ea_o1 := hk.ty hHo k_ea_o1
  have k_o2 := hk.ty hHo k_o2
  have k_o3 := hk.ty hHo k_o3
  have k_o4 := hk.ty hHo k_o4
  have k_o5 := hk.ty hHo k_o5
  have k_b82 := hk.ty hHo k_b82
  show et_go none _ 115 95 _ [.ref o6, .ref a] _ 79 136123 _
  have hu0 := hu
  refine hs_puti (ci := 10) (f := 11) (ty := .object "KnobEye$Likes") (v := .ref o6) (p := 98) (by decide +kernel) hu (Nat.le_of_ble_eq_true rfl) rfl (fun G95 hu he e2 => ?_)
  have hu : puc _ _ a (.inr (10, [.ref o0, .ref o1, .int 0, .ref o2, .ref o3, .ref o4, .int (-1), .int (-1), .ref o5, .ref b82, .int 0, .ref o6])) := hu
  have hq := hq.pt he e2
  have e0_o0 := (congrArg (et_pl · 0) (he ea_o0 (puc_ne hu0 k_ea_o0))).trans e0_o0
  have e1_o0 := (congrArg (et_pl · 1) (he ea_o0 (puc_ne hu0 k_ea_o0))).trans e1_o0
  have e2_o0 := (congrArg (et_pl · 2) (he ea_o0 (puc_ne hu0 k_ea_o0))).trans e2_o0
  have f0_o0 := (congrArg (et_pl · 0) (he o0 (puc_ne hu0 k_o0))).trans f0_o0
  have f1_o0 := (congrArg (et_pl · 1) (he o0 (puc_ne hu0 k_o0))).trans f1_o0
  have f2_o0 := (congrArg (et_pl · 2) (he o0 (puc_ne hu0 k_o0))).trans f2_o0
  have f3_o0 := (congrArg (et_pl · 3) (he o0 (puc_ne hu0 k_o0))).trans f3_o0
  have f4_o0 := (congrArg (et_pl · 4) (he o0 (puc_ne hu0 k_o0))).trans f4_o0
  have f5_o0 := (congrArg (et_pl · 5) (he o0 (puc_ne hu0 k_o0))).trans f5_o0
  have f6_o0 := (congrArg (et_pl · 6) (he o0 (puc_ne hu0 k_o0))).trans f6_o0
  have f7_o0 := (congrArg (et_pl · 7) (he o0 (puc_ne hu0 k_o0))).trans f7_o0
  have f8_o0 := (congrArg (et_pl · 8) (he o0 (puc_ne hu0 k_o0))).trans f8_o0
  have f9_o0 := (congrArg (et_pl · 9) (he o0 (puc_ne hu0 k_o0))).trans f9_o0
  have f10_o0 := (congrArg (et_pl · 10) (he o0 (puc_ne hu0 k_o0))).trans f10_o0
  have e0_o1 := (congrArg (et_pl · 0) (he ea_o1 (puc_ne hu0 k_ea_o1))).trans e0_o1
  have e1_o1 := (congrArg (et_pl · 1) (he ea_o1 (puc_ne hu0 k_ea_o1))).trans e1_o1
  have e2_o1 := (congrArg (et_pl · 2) (he ea_o1 (puc_ne hu0 k_ea_o1))).trans e2_o1
  have f0_o1 := (congrArg (et_pl · 0) (he o1 (puc_ne hu0 k_o1))).trans f0_o1
  have f1_o1 := (congrArg (et_pl · 1) (he o1 (puc_ne hu0 k_o1))).trans f1_o1
  have f2_o1 := (congrArg (et_pl · 2) (he o1 (puc_ne hu0 k_o1))).trans f2_o1
  have f3_o1 := (congrArg (et_pl · 3) (he o1 (puc_ne hu0 k_o1))).trans f3_o1
  have f4_o1 := (congrArg (et_pl · 4) (he o1 (puc_ne hu0 k_o1))).trans f4_o1
  have f5_o1 := (congrArg (et_pl · 5) (he o1 (puc_ne hu0 k_o1))).trans f5_o1
  have f6_o1 := (congrArg (et_pl · 6) (he o1 (puc_ne hu0 k_o1))).trans f6_o1
  have f7_o1 := (congrArg (et_pl · 7) (he o1 (puc_ne hu0 k_o1))).trans f7_o1
  have f8_o1 := (congrArg (et_pl · 8) (he o1 (puc_ne hu0 k_o1))).trans f8_o1
  have f9_o1 := (congrArg (et_pl · 9) (he o1 (puc_ne hu0 k_o1))).trans f9_o1
  have f10_o1 := (congrArg (et_pl · 10) (he o1 (puc_ne hu0 k_o1))).trans f10_o1
  have fl := (congrArg (et_pl · 1) (he o2 (puc_ne hu0 k_o2))).trans fl
  have fba := (congrArg (et_pl · 5) (he o2 (puc_ne hu0 k_o2))).trans fba
  have fna := (congrArg (et_pl · 6) (he o2 (puc_ne hu0 k_o2))).trans fna
  have Qa_o0 := Qa_o0.he hu0 he e2
  have Qb_o0 := Qb_o0.he hu0 he e2
  have Qc_o0 := Qc_o0.he hu0 he e2
  have Qa_o1 := Qa_o1.he hu0 he e2
  have Qb_o1 := Qb_o1.he hu0 he e2
  have Qc_o1 := Qc_o1.he hu0 he e2
  have Q_o5 := Q_o5.he hu0 he e2
  obtain ⟨hHt, kt⟩ := puc_typ (t := 12) hu (by decide) rfl ⟨_, rfl, rfl, fun k p hk => by
      match k, hk with
      | 0, hk => cases hk; exact ⟨_, rfl, .inr (.inr ⟨by decide, _, rfl, k_o0⟩)⟩
      | 1, hk => cases hk; exact ⟨_, rfl, .inr (.inr ⟨by decide, _, rfl, k_o1⟩)⟩
      | 2, hk => cases hk; exact ⟨_, rfl, .inr ⟨_, rfl, by decide, by decide⟩⟩
      | 3, hk => cases hk; exact ⟨_, rfl, .inr (.inr ⟨by decide, _, rfl, k_o2⟩)⟩
      | 4, hk => cases hk; exact ⟨_, rfl, .inr (.inr ⟨by decide, _, rfl, k_o3⟩)⟩
      | 5, hk => cases hk; exact ⟨_, rfl, .inr (.inr ⟨by decide, _, rfl, k_o4⟩)⟩
      | 6, hk => cases hk; exact ⟨_, rfl, .inr ⟨_, rfl, by decide, by decide⟩⟩
      | 7, hk => cases hk; exact ⟨_, rfl, .inr ⟨_, rfl, by decide, by decide⟩⟩
      | 8, hk => cases hk; exact ⟨_, rfl, .inr (.inr ⟨by decide, _, rfl, k_o5⟩)⟩
      | 9, hk => cases hk; exact ⟨_, rfl, .inr (.inr ⟨by decide, _, rfl, k_b82⟩)⟩
      | 10, hk => cases hk; exact ⟨_, rfl, .inr ⟨_, rfl, by decide, by decide⟩⟩
      | 11, hk => cases hk; exact ⟨_, rfl, .inr (.inr ⟨by decide, _, rfl, k_o6⟩)⟩
      | n + 12, hk => cases hk⟩ ⟨fun h => absurd h (by decide), fun h => absurd h (by decide)⟩
  refine hs_vret (by decide +kernel) ?_
  exact ⟨_, hq.ty (.inl rfl), hHt, kt, rfl, rfl, rfl, ⟨⟨⟨o2, by rw [hu.2.2.2.2]; rfl, et_kn_k hu k_o2, fl, ba, na, fba, fna, hbn⟩, o0, o1, ra_o0, ca_o0, ra_o1, ca_o1, kt, ⟨by rw [hu.2.2.2.2]; rfl, by rw [hu.2.2.2.2]; rfl⟩, ⟨hne0, hnr, hnc⟩, ⟨⟨⟨et_kn_k hu k_o0, et_kn_k hu k_ra_o0, et_kn_k hu k_ca_o0⟩, ⟨f1_o0, f10_o0⟩, ⟨f0_o0, f5_o0, f9_o0⟩⟩, f2_o0, f7_o0⟩, ⟨⟨⟨et_kn_k hu k_o1, et_kn_k hu k_ra_o1, et_kn_k hu k_ca_o1⟩, ⟨f1_o1, f10_o1⟩, ⟨f0_o1, f5_o1, f9_o1⟩⟩, f2_o1, f7_o1⟩, la_o0, ya_o0, la_o1, ya_o1, ta_o0, ta_o1, ⟨f3_o0, f4_o0, f3_o1, f4_o1⟩, ⟨et_kn_k hu k_la_o0, et_kn_k hu k_ya_o0, et_kn_k hu k_la_o1, et_kn_k hu k_ya_o1⟩, ⟨hnl, hny⟩, ⟨f8_o0, f8_o1, et_kn_k hu k_ta_o0, et_kn_k hu k_ta_o1, hnt⟩, ez_mk ⟨et_kn_k hu k_ea_o0, et_kn_k hu k_ea_o1⟩ ⟨f6_o0, f6_o1, by rw [hu.2.2.2.2]; rfl⟩ ⟨e0_o0, e1_o0, e2_o0⟩ ⟨e0_o1, e1_o1, e2_o1⟩ ⟨Qa_o0.kn hu, Qb_o0.kn hu, Qc_o0.kn hu⟩ ⟨Qa_o1.kn hu, Qb_o1.kn hu, Qc_o1.kn hu⟩ (Q_o5.kn hu) ⟨ho1_o0, ho2_o0, Nat.lt_of_lt_of_le hlo_Qc_o0_o1 hla, ho1_o1, ho2_o1, hlo_Qc_o1_o5⟩⟩, by rw [hu.2.2.2.2]; rfl⟩⟩
end UXA
