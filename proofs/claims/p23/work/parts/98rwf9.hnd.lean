section
/-! searches: FOUND, and whether there are any: what is counted -/
def smT (st : Bool) (k W n : Nat) : Nat := if st = true then 0 else kvS k W n W
def foT (st : Bool) (k W : Nat) (A : Nat → Nat → Int) (P n : Nat) : Option (Nat × Nat) := foF (okP k W A P) (smT st k W) n
def lsQ (G : eg_G) (se be W k : Nat) : Option (Nat × Nat) → Prop
  | none => et_pl (eg_at G se) 13 = some (.int (Int32.ofNat 0)) ∧ et_pl (eg_at G se) 15 = some (.int (Int32.ofNat 1073741824))
  | some q => et_pl (eg_at G se) 13 = some (.int (Int32.ofNat 1)) ∧ et_pl (eg_at G se) 15 = some (.int (Int32.ofNat q.1)) ∧ ∀ u, u < W → et_pl (eg_at G be) u = some (.int (kvT k W q.2 u))
def lsJ (st : Bool) (se be W k : Nat) (A : Nat → Nat → Int) (P n : Nat) (G : eg_G) : Prop := (et_pl (eg_at G se) 8 = some (.int (Int32.ofNat (if st = true then 1 else 0))) ∧ et_pl (eg_at G se) 9 = some (.int (Int32.ofNat 0))) ∧ lsQ G se be W k (foT st k W A P n)
section ZPA
variable {K : et_K} {G G' : eg_G} {st : Bool} {se tA tR tS td be sy W k P n w p r : Nat} {A : Nat → Nat → Int}
theorem lsQ.fr (h1 : ∀ j, j = 13 ∨ j = 15 → et_pl (eg_at G' se) j = et_pl (eg_at G se) j) (h2 : ∀ u, u < W → et_pl (eg_at G' be) u = et_pl (eg_at G be) u) : ∀ {o : Option (Nat × Nat)}, lsQ G se be W k o → lsQ G' se be W k o
  | none, h => ⟨(h1 13 (.inl rfl)).trans h.1, (h1 15 (.inr rfl)).trans h.2⟩
  | some _, h => ⟨(h1 13 (.inl rfl)).trans h.1, (h1 15 (.inr rfl)).trans h.2.1, fun u hu => (h2 u hu).trans (h.2.2 u hu)⟩
theorem smT_b (hk : k ≤ 3) (hW : W ≤ 6) : smT st k W n < 100 := by
  have h := rs_sm (k := k) (W := W) (i := n) hk hW
  unfold smT
  split
  · decide
  · exact h
theorem foT_q (hk : k ≤ 3) (hW : W ≤ 6) {q : Nat × Nat} (e : foT st k W A P n = some q) : q.1 < 100 ∧ q.2 < n ∧ okP k W A P q.2 = true ∧ q.1 = smT st k W q.2 := foF_lt (fun n => smT_b (n := n) hk hW) _ _ e
theorem lsJ.f (t : seT K se tA tR tS td be sy) (h : lsJ st se be W k A P n G) (hH : et_H et_TT K G) (x : xf (fun b _ => (tR + 1 ≤ b ∧ b ≤ tR + 7) ∨ (tS + 1 ≤ b ∧ b ≤ tS + 7) ∨ b = td) G G') : lsJ st se be W k A P n G' := by
  obtain ⟨⟨k1, k2, k3, k4, k5, k6, k7⟩, ⟨l1, l2, l3⟩, r1, r2, r3⟩ := t
  have lt : ∀ a t, K a = some t → a < G.2 := fun a t ha => (hH.2.2 a t ha).1
  have nr : ∀ b u, K b = some u → ¬ u = 45 → ¬ b = td → ¬ ((tR + 1 ≤ b ∧ b ≤ tR + 7) ∨ (tS + 1 ≤ b ∧ b ≤ tS + 7) ∨ b = td) := fun b u kb hu hb q => by
    rcases q with ⟨q1, q2⟩ | ⟨q1, q2⟩ | q
    · have h3 := r2 (b - (tR + 1)) (by omega)
      rw [show tR + 1 + (b - (tR + 1)) = b by omega, kb] at h3
      exact hu (Option.some.inj h3)
    · have h3 := r3 (b - (tS + 1)) (by omega)
      rw [show tS + 1 + (b - (tS + 1)) = b by omega, kb] at h3
      exact hu (Option.some.inj h3)
    · exact hb q
  have f1 : ∀ j, et_pl (eg_at G' se) j = et_pl (eg_at G se) j := fun j => x.2 se j (lt _ _ k1) (nr _ _ k1 (by decide) (fun e => hi_ne k1 k5 (by decide) e))
  have f2 : ∀ j, et_pl (eg_at G' be) j = et_pl (eg_at G be) j := fun j => x.2 be j (lt _ _ k6) (nr _ _ k6 (by decide) (fun e => l1 e.symm))
  exact ⟨⟨(f1 8).trans h.1.1, (f1 9).trans h.1.2⟩, lsQ.fr (fun j _ => f1 j) (fun u _ => f2 u) h.2⟩
theorem lsJ.l (hk : k ≤ 3) (hW : W ≤ 6) (h : lsJ st se be W k A P n G) : ∃ l : Nat, l ≤ 1073741824 ∧ et_pl (eg_at G se) 15 = some (.int (Int32.ofNat l)) ∧ ∀ w p r, W = w + r → n = (p * (2 * k + 1) ^ r) → l ≤ kvS k w p w → lsJ st se be W k A P ((p + 1) * (2 * k + 1) ^ r) G := by
  obtain ⟨h0, h⟩ := h
  cases e : foT st k W A P n with
  | none =>
    rw [e] at h
    refine ⟨1073741824, Nat.le_refl _, h.2, fun w p r h1 _ h3 => ?_⟩
    have h4 := kvS_le (k := k) (W := w) (n := p) w
    have h5 : k * w ≤ 3 * 6 := Nat.mul_le_mul hk (by omega)
    omega
  | some q =>
    have hq := foT_q hk hW e
    rw [e] at h
    refine ⟨q.1, by omega, h.2.1, fun w p r h1 h2 h3 => ⟨h0, ?_⟩⟩
    have e2 : foT st k W A P ((p + 1) * (2 * k + 1) ^ r) = foT st k W A P (p * (2 * k + 1) ^ r) := by
      rw [Nat.add_mul, Nat.one_mul]
      refine foF_s (b := 100) (fun n => smT_b (n := n) hk hW) _ (fun n a1 a2 _ => ?_)
      show foL 100 (foT st k W A P (p * (2 * k + 1) ^ r)) ≤ smT st k W n
      rw [← h2, e]
      show q.1 ≤ smT st k W n
      by_cases hs : st = true
      · rw [hq.2.2.2]
        unfold smT
        rw [if_pos hs, if_pos hs]
        exact Nat.le_refl 0
      · have e3 := kvS_up (k := k) h1 a1 (by rw [Nat.add_mul, Nat.one_mul]; exact a2) w (Nat.le_refl w)
        have e4 := kvS_mono (k := k) (W := W) (n := n) r w
        rw [← h1, e3] at e4
        unfold smT
        rw [if_neg hs]
        omega
    rw [e2, ← h2, e]
    exact h
theorem lsJ.c (hk : k ≤ 3) (hW : W ≤ 6) {c : Nat} (h1 : W = w + r) (hc : c < P) (h2 : paS k w p (A c) w + reS k (A c) r w ≤ 0) (h : lsJ st se be W k A P (p * (2 * k + 1) ^ r) G) : lsJ st se be W k A P ((p + 1) * (2 * k + 1) ^ r) G := by
  obtain ⟨h0, h⟩ := h
  refine ⟨h0, ?_⟩
  have e2 : foT st k W A P ((p + 1) * (2 * k + 1) ^ r) = foT st k W A P (p * (2 * k + 1) ^ r) := by
    rw [Nat.add_mul, Nat.one_mul]
    refine foF_s (b := 100) (fun n => smT_b (n := n) hk hW) _ (fun n a1 a2 ho => ?_)
    have h3 := okP_i.mp ho c hc
    have e := paS_up (k := k) (a := A c) h1 a1 (by rw [Nat.add_mul, Nat.one_mul]; exact a2) w (Nat.le_refl w)
    have e2 := paS_le (k := k) (W := W) (n := n) (a := A c) r w
    rw [← h1, e] at e2
    omega
  rw [e2]
  exact h
/-- the leaf's step -/
theorem foT_s (hk : k ≤ 3) (hW : W ≤ 6) {l : Nat} (hok : ∀ c, c < P → 0 < paS k W p (A c) W) (hl : l ≤ 1073741824) (h15 : et_pl (eg_at G se) 15 = some (.int (Int32.ofNat l))) (hkl : kvS k W p W < l) (h : lsJ st se be W k A P p G) : foT st k W A P (p + 1) = some (smT st k W p, p) := by
  refine foF_y (b := 100) (okP_i.mpr hok) ?_
  show smT st k W p < foL 100 (foT st k W A P p)
  cases e : foT st k W A P p with
  | none => exact smT_b hk hW
  | some q =>
    have hq := foT_q hk hW e
    have h9 := h.2
    rw [e] at h9
    have e5 := xi_inj (by omega) (by omega) (h15.symm.trans h9.2.1)
    show smT st k W p < q.1
    by_cases hs : st = true
    · have e6 := hq.2.2.2
      unfold smT at e6
      rw [if_pos hs] at e6
      omega
    · unfold smT
      rw [if_neg hs]
      omega
end ZPA
section ZPB
variable {K : et_K} {G G0 : eg_G} {se tA tR tS td be sy P cols W k d2 m p l : Nat} {C : Nat → Int32} {Kd : Nat → Nat} {L : List (Int32 × Int32)} {RE : Nat → Nat → Int32} {T : Nat → Int32} {tg : Int32} {Z : eg_O → Prop}
theorem fd_tkL (hH0 : et_H et_TT K G0) (hH : et_H et_TT K G) (k_se : K se = some 9) (k_td : K td = some 51) (k_be : K be = some 51) (n1 : ¬ td = be) (q3 : et_pl (eg_at G se) 3 = some (.ref td)) (q14 : et_pl (eg_at G se) 14 = some (.ref be)) (q6 : et_pl (eg_at G se) 6 = some (.int (Int32.ofNat W))) (hW : W ≤ 6) (hT : ∀ u, u < W → et_pl (eg_at G td) u = some (.int (T u))) (hX : xf (fun b _ => b = be) G0 G) (hB : (∀ u, u < m → et_pl (eg_at G be) u = some (.int (T u)))) (hm : m ≤ W) : et_go none d2 95 35 [some (.ref se), some (.int tg), some (.int (Int32.ofNat m))] [] G 0 0 (xw_Z (fun b _ => b = be) K G0 (fun g v9 => v9 = none ∧ (∀ u, u < W → et_pl (eg_at g be) u = some (.int (T u))))) := by
  induction hq9 : W - m using Nat.strongRecOn generalizing m G with
  | _ q9 ih =>
    have lt_se := (hH.2.2 _ _ k_se).1
    have lt_td := (hH.2.2 _ _ k_td).1
    have lt_be := (hH.2.2 _ _ k_be).1
    refine hs_iload (i := 2) (p := 36) (by decide +kernel) rfl ?_
    refine hs_aload (i := 0) (p := 37) (by decide +kernel) rfl ?_
    refine hf_get (T := et_TT) (t := 9) (ci := 7) (f := 6) (p := 40) (by decide +kernel) rfl hH k_se q6 ?_
    refine hs_br2n (c := .ge) (t := 61) (f := 43) (by decide +kernel) (by omega) (by omega) (fun (c40 : W ≤ m) => ?_) (fun (c40 : ¬ (W ≤ m)) => ?_)
    · refine hs_vret (by decide +kernel) ?_
      obtain rfl : m = W := by omega
      exact ⟨_, _, rfl, hH, hX, rfl, hB⟩
    · refine hs_aload (i := 0) (p := 44) (by decide +kernel) rfl ?_
      refine hf_get (T := et_TT) (t := 9) (ci := 7) (f := 14) (p := 47) (by decide +kernel) rfl hH k_se q14 ?_
      refine hs_iload (i := 2) (p := 48) (by decide +kernel) rfl ?_
      refine hs_aload (i := 0) (p := 49) (by decide +kernel) rfl ?_
      refine hf_get (T := et_TT) (t := 9) (ci := 7) (f := 3) (p := 52) (by decide +kernel) rfl hH k_se q3 ?_
      refine hs_iload (i := 2) (p := 53) (by decide +kernel) rfl ?_
      refine hf_ald (ins := .iaload) (T := et_TT) (t := 51) (kd := 0) (N := 6) (p := 54) (by decide +kernel) (fun _ _ _ _ _ _ _ _ _ _ => rfl) rfl rfl rfl hH k_td (by decide) (hT m (by omega)) ?_
      refine hf_ist (T := et_TT) (t := 51) (N := 6) (p := 55) (by decide +kernel) rfl rfl (by decide) hH k_be (by omega) (by decide) (fun s hs => absurd hs List.not_mem_nil) (fun G54 hH x54 e54 => ?_)
      have q3 := (x54.2 se 3 lt_se (fun h => hi_ne k_se k_be (by decide) h.1)).trans q3
      have q14 := (x54.2 se 14 lt_se (fun h => hi_ne k_se k_be (by decide) h.1)).trans q14
      have q6 := (x54.2 se 6 lt_se (fun h => hi_ne k_se k_be (by decide) h.1)).trans q6
      have hT : ∀ u, u < W → et_pl (eg_at G54 td) u = some (.int (T u)) := fun u hu => (x54.2 td u lt_td (fun h => n1 h.1)).trans (hT u hu)
      have hB2 : ∀ u, u < m + 1 → et_pl (eg_at G54 be) u = some (.int (T u)) := fun u hu => by
        by_cases e : u = m
        · rw [e]; exact e54
        · exact (x54.2 be u lt_be (fun h => e h.2)).trans (hB u (by omega))
      have hX := hX.tr x54 (fun b j _ h => h.1)
      refine hs_iinc1 (i := 2) (p := 58) (by decide +kernel) rfl (Nat.le_of_ble_eq_true rfl) ?_
      refine hs_goto (p := 35) (by decide +kernel) ?_
      exact ih (W - (m + 1)) (by omega) hH q3 q14 q6 hT hX hB2 (by omega) rfl
theorem fd_takeF (t : seT K se tA tR tS td be sy) (hW : W ≤ 6) (hk : k ≤ 3) (p l : Nat) (G : eg_G) (d2 : Nat) (hd : 2 ≤ d2) (hH : et_H et_TT K G) (hci : chI G se tA tR tS td be sy P cols W k C Kd L RE) (hJ : lsJ false se be W k (fun c w => (coV C Kd L c w).toInt) P p G) (hl : l ≤ 1073741824) (q15 : et_pl (eg_at G se) 15 = some (.int (Int32.ofNat l))) (hkl : kvS k W p W < l) (hok : ∀ c, c < P → 0 < paS k W p (fun w => (coV C Kd L c w).toInt) W) (htd : tdQ G td W (kvT k W p)) (hsm : smR G tS W cols (fun c => paS k W p (fun w => (coV C Kd L c w).toInt) W)) : et_go none d2 95 0 (eg_en (eg_mL 95) [.ref se, .int (Int32.ofNat (kvS k W p W))]) [] G 0 0 (xw_Z (fun b j => (b = se ∧ (j = 13 ∨ j = 15 ∨ j = 16)) ∨ b = be ∨ b = sy) K G (fun g v9 => v9 = none ∧ lsJ false se be W k (fun c w => (coV C Kd L c w).toInt) P (p + 1) g)) := by
  have k_se := t.1.1
  have k_tA := t.1.2.1
  have k_tR := t.1.2.2.1
  have k_tS := t.1.2.2.2.1
  have k_td := t.1.2.2.2.2.1
  have k_be := t.1.2.2.2.2.2.1
  have k_sy := t.1.2.2.2.2.2.2
  have e9 := foT_s hk hW hok hl q15 hkl hJ
  have n1 := t.2.1.1
  have q3 := hci.1.1.2.2.2.1
  have q14 := hci.1.1.2.2.2.2.1
  have q6 := hci.2.1.2.2.1
  have q8 := hJ.1.1
  have q9 := hJ.1.2
  have hT : ∀ u, u < W → et_pl (eg_at G td) u = some (.int (kvT k W p u)) := htd
  have hX : xf (fun b j => (b = se ∧ (j = 13 ∨ j = 15 ∨ j = 16)) ∨ b = be ∨ b = sy) G G := xf.rf
  have lt_se := (hH.2.2 _ _ k_se).1
  have lt_td := (hH.2.2 _ _ k_td).1
  have lt_be := (hH.2.2 _ _ k_be).1
  rw [show (if false = true then 1 else 0 : Nat) = 0 from rfl] at q8
  rw [show eg_mL 95 = 3 from by decide +kernel]
  show et_go none d2 95 0 [some (.ref se), some (.int (Int32.ofNat (kvS k W p W))), none] [] G 0 0 _
  refine hs_aload (i := 0) (p := 1) (by decide +kernel) rfl ?_
  refine hs_k (x := Int32.ofNat 1) (p := 2) (by decide +kernel) ?_
  refine hf_put (T := et_TT) (t := 9) (ci := 7) (f := 13) (p := 5) (ty := .boolean) (by decide +kernel) rfl rfl rfl (by decide +kernel) rfl hH k_se (hi_nv (by omega) (by omega)) (fun G2 hH x2 e2 => ?_)
  have q3 := (x2.2 se 3 lt_se (fun h => absurd h.2 (by decide))).trans q3
  have q14 := (x2.2 se 14 lt_se (fun h => absurd h.2 (by decide))).trans q14
  have q6 := (x2.2 se 6 lt_se (fun h => absurd h.2 (by decide))).trans q6
  have q8 := (x2.2 se 8 lt_se (fun h => absurd h.2 (by decide))).trans q8
  have q9 := (x2.2 se 9 lt_se (fun h => absurd h.2 (by decide))).trans q9
  have hT : ∀ u, u < W → et_pl (eg_at G2 td) u = some (.int (kvT k W p u)) := fun u hu => (x2.2 td u lt_td (fun h => hi_ne k_td k_se (by decide) h.1)).trans (hT u hu)
  have hX := hX.tr x2 (fun b j _ h => .inl ⟨h.1, by have h := h.2; omega⟩)
  have lt_se := Nat.lt_of_lt_of_le lt_se x2.1
  have lt_td := Nat.lt_of_lt_of_le lt_td x2.1
  have lt_be := Nat.lt_of_lt_of_le lt_be x2.1
  refine hs_aload (i := 0) (p := 6) (by decide +kernel) rfl ?_
  refine hf_get (T := et_TT) (t := 9) (ci := 7) (f := 9) (p := 9) (by decide +kernel) rfl hH k_se q9 ?_
  refine hs_if1 (c := .eq) (t := 17) (f := 12) (by decide +kernel) (show Int32.ofNat 0 = 0 by decide) ?_
  refine hs_aload (i := 0) (p := 18) (by decide +kernel) rfl ?_
  refine hs_aload (i := 0) (p := 19) (by decide +kernel) rfl ?_
  refine hf_get (T := et_TT) (t := 9) (ci := 7) (f := 8) (p := 22) (by decide +kernel) rfl hH k_se q8 ?_
  refine hs_if1 (c := .eq) (t := 29) (f := 25) (by decide +kernel) (show Int32.ofNat 0 = 0 by decide) ?_
  refine hs_iload (i := 1) (p := 30) (by decide +kernel) rfl ?_
  refine hf_put (T := et_TT) (t := 9) (ci := 7) (f := 15) (p := 33) (ty := .int) (by decide +kernel) rfl rfl rfl rfl rfl hH k_se hi_any (fun G30 hH x30 e30 => ?_)
  have q3 := (x30.2 se 3 lt_se (fun h => absurd h.2 (by decide))).trans q3
  have q14 := (x30.2 se 14 lt_se (fun h => absurd h.2 (by decide))).trans q14
  have q6 := (x30.2 se 6 lt_se (fun h => absurd h.2 (by decide))).trans q6
  have q8 := (x30.2 se 8 lt_se (fun h => absurd h.2 (by decide))).trans q8
  have q9 := (x30.2 se 9 lt_se (fun h => absurd h.2 (by decide))).trans q9
  have e2 := (x30.2 se 13 lt_se (fun h => absurd h.2 (by decide))).trans e2
  have hT : ∀ u, u < W → et_pl (eg_at G30 td) u = some (.int (kvT k W p u)) := fun u hu => (x30.2 td u lt_td (fun h => hi_ne k_td k_se (by decide) h.1)).trans (hT u hu)
  have hX := hX.tr x30 (fun b j _ h => .inl ⟨h.1, by have h := h.2; omega⟩)
  have lt_se := Nat.lt_of_lt_of_le lt_se x30.1
  have lt_td := Nat.lt_of_lt_of_le lt_td x30.1
  have lt_be := Nat.lt_of_lt_of_le lt_be x30.1
  refine hs_k (x := Int32.ofNat 0) (p := 34) (by decide +kernel) ?_
  refine hs_istore (i := 2) (p := 35) (by decide +kernel) (Nat.le_of_ble_eq_true rfl) ?_
  refine (fd_tkL (m := 0) (T := kvT k W p) hH hH k_se k_td k_be n1 q3 q14 q6 hW hT xf.rf (fun u hu => absurd hu (Nat.not_lt_zero u)) (Nat.zero_le W)).mono (fun u9 hu9 => ?_)
  obtain ⟨G9, v9, rfl, hH9, x9, rfl, hB⟩ := hu9
  have fs : ∀ j, et_pl (eg_at G9 se) j = et_pl (eg_at G30 se) j := fun j => x9.2 se j lt_se (fun h => hi_ne k_se k_be (by decide) h)
  refine ⟨_, _, rfl, hH9, hX.tr x9 (fun b j _ h => .inr (.inl h)), rfl, ⟨(fs 8).trans q8, (fs 9).trans q9⟩, ?_⟩
  rw [e9]
  exact ⟨(fs 13).trans e2, (fs 15).trans e30, hB⟩
theorem fd_takeT (t : seT K se tA tR tS td be sy) (hW : W ≤ 6) (hk : k ≤ 3) (p l : Nat) (G : eg_G) (d2 : Nat) (hd : 2 ≤ d2) (hH : et_H et_TT K G) (hci : chI G se tA tR tS td be sy P cols W k C Kd L RE) (hJ : lsJ true se be W k (fun c w => (coV C Kd L c w).toInt) P p G) (hl : l ≤ 1073741824) (q15 : et_pl (eg_at G se) 15 = some (.int (Int32.ofNat l))) (hkl : kvS k W p W < l) (hok : ∀ c, c < P → 0 < paS k W p (fun w => (coV C Kd L c w).toInt) W) (htd : tdQ G td W (kvT k W p)) (hsm : smR G tS W cols (fun c => paS k W p (fun w => (coV C Kd L c w).toInt) W)) : et_go none d2 95 0 (eg_en (eg_mL 95) [.ref se, .int (Int32.ofNat (kvS k W p W))]) [] G 0 0 (xw_Z (fun b j => (b = se ∧ (j = 13 ∨ j = 15 ∨ j = 16)) ∨ b = be ∨ b = sy) K G (fun g v9 => v9 = none ∧ lsJ true se be W k (fun c w => (coV C Kd L c w).toInt) P (p + 1) g)) := by
  have k_se := t.1.1
  have k_tA := t.1.2.1
  have k_tR := t.1.2.2.1
  have k_tS := t.1.2.2.2.1
  have k_td := t.1.2.2.2.2.1
  have k_be := t.1.2.2.2.2.2.1
  have k_sy := t.1.2.2.2.2.2.2
  have e9 := foT_s hk hW hok hl q15 hkl hJ
  have n1 := t.2.1.1
  have q3 := hci.1.1.2.2.2.1
  have q14 := hci.1.1.2.2.2.2.1
  have q6 := hci.2.1.2.2.1
  have q8 := hJ.1.1
  have q9 := hJ.1.2
  have hT : ∀ u, u < W → et_pl (eg_at G td) u = some (.int (kvT k W p u)) := htd
  have hX : xf (fun b j => (b = se ∧ (j = 13 ∨ j = 15 ∨ j = 16)) ∨ b = be ∨ b = sy) G G := xf.rf
  have lt_se := (hH.2.2 _ _ k_se).1
  have lt_td := (hH.2.2 _ _ k_td).1
  have lt_be := (hH.2.2 _ _ k_be).1
  rw [show (if true = true then 1 else 0 : Nat) = 1 from rfl] at q8
  rw [show eg_mL 95 = 3 from by decide +kernel]
  show et_go none d2 95 0 [some (.ref se), some (.int (Int32.ofNat (kvS k W p W))), none] [] G 0 0 _
  refine hs_aload (i := 0) (p := 1) (by decide +kernel) rfl ?_
  refine hs_k (x := Int32.ofNat 1) (p := 2) (by decide +kernel) ?_
  refine hf_put (T := et_TT) (t := 9) (ci := 7) (f := 13) (p := 5) (ty := .boolean) (by decide +kernel) rfl rfl rfl (by decide +kernel) rfl hH k_se (hi_nv (by omega) (by omega)) (fun G2 hH x2 e2 => ?_)
  have q3 := (x2.2 se 3 lt_se (fun h => absurd h.2 (by decide))).trans q3
  have q14 := (x2.2 se 14 lt_se (fun h => absurd h.2 (by decide))).trans q14
  have q6 := (x2.2 se 6 lt_se (fun h => absurd h.2 (by decide))).trans q6
  have q8 := (x2.2 se 8 lt_se (fun h => absurd h.2 (by decide))).trans q8
  have q9 := (x2.2 se 9 lt_se (fun h => absurd h.2 (by decide))).trans q9
  have hT : ∀ u, u < W → et_pl (eg_at G2 td) u = some (.int (kvT k W p u)) := fun u hu => (x2.2 td u lt_td (fun h => hi_ne k_td k_se (by decide) h.1)).trans (hT u hu)
  have hX := hX.tr x2 (fun b j _ h => .inl ⟨h.1, by have h := h.2; omega⟩)
  have lt_se := Nat.lt_of_lt_of_le lt_se x2.1
  have lt_td := Nat.lt_of_lt_of_le lt_td x2.1
  have lt_be := Nat.lt_of_lt_of_le lt_be x2.1
  refine hs_aload (i := 0) (p := 6) (by decide +kernel) rfl ?_
  refine hf_get (T := et_TT) (t := 9) (ci := 7) (f := 9) (p := 9) (by decide +kernel) rfl hH k_se q9 ?_
  refine hs_if1 (c := .eq) (t := 17) (f := 12) (by decide +kernel) (show Int32.ofNat 0 = 0 by decide) ?_
  refine hs_aload (i := 0) (p := 18) (by decide +kernel) rfl ?_
  refine hs_aload (i := 0) (p := 19) (by decide +kernel) rfl ?_
  refine hf_get (T := et_TT) (t := 9) (ci := 7) (f := 8) (p := 22) (by decide +kernel) rfl hH k_se q8 ?_
  refine hs_if0 (c := .eq) (t := 29) (f := 25) (by decide +kernel) (show ¬ (Int32.ofNat 1 = 0) by decide) ?_
  refine hs_k (x := Int32.ofNat 0) (p := 26) (by decide +kernel) ?_
  refine hs_goto (p := 30) (by decide +kernel) ?_
  refine hf_put (T := et_TT) (t := 9) (ci := 7) (f := 15) (p := 33) (ty := .int) (by decide +kernel) rfl rfl rfl rfl rfl hH k_se hi_any (fun G30 hH x30 e30 => ?_)
  have q3 := (x30.2 se 3 lt_se (fun h => absurd h.2 (by decide))).trans q3
  have q14 := (x30.2 se 14 lt_se (fun h => absurd h.2 (by decide))).trans q14
  have q6 := (x30.2 se 6 lt_se (fun h => absurd h.2 (by decide))).trans q6
  have q8 := (x30.2 se 8 lt_se (fun h => absurd h.2 (by decide))).trans q8
  have q9 := (x30.2 se 9 lt_se (fun h => absurd h.2 (by decide))).trans q9
  have e2 := (x30.2 se 13 lt_se (fun h => absurd h.2 (by decide))).trans e2
  have hT : ∀ u, u < W → et_pl (eg_at G30 td) u = some (.int (kvT k W p u)) := fun u hu => (x30.2 td u lt_td (fun h => hi_ne k_td k_se (by decide) h.1)).trans (hT u hu)
  have hX := hX.tr x30 (fun b j _ h => .inl ⟨h.1, by have h := h.2; omega⟩)
  have lt_se := Nat.lt_of_lt_of_le lt_se x30.1
  have lt_td := Nat.lt_of_lt_of_le lt_td x30.1
  have lt_be := Nat.lt_of_lt_of_le lt_be x30.1
  refine hs_k (x := Int32.ofNat 0) (p := 34) (by decide +kernel) ?_
  refine hs_istore (i := 2) (p := 35) (by decide +kernel) (Nat.le_of_ble_eq_true rfl) ?_
  refine (fd_tkL (m := 0) (T := kvT k W p) hH hH k_se k_td k_be n1 q3 q14 q6 hW hT xf.rf (fun u hu => absurd hu (Nat.not_lt_zero u)) (Nat.zero_le W)).mono (fun u9 hu9 => ?_)
  obtain ⟨G9, v9, rfl, hH9, x9, rfl, hB⟩ := hu9
  have fs : ∀ j, et_pl (eg_at G9 se) j = et_pl (eg_at G30 se) j := fun j => x9.2 se j lt_se (fun h => hi_ne k_se k_be (by decide) h)
  refine ⟨_, _, rfl, hH9, hX.tr x9 (fun b j _ h => .inr (.inl h)), rfl, ⟨(fs 8).trans q8, (fs 9).trans q9⟩, ?_⟩
  rw [e9]
  exact ⟨(fs 13).trans e2, (fs 15).trans e30, hB⟩
end ZPB
end
section
/-! searches: how much the WIRES behind can add, as the class sums it up -/
def reI (D : Nat → Int32) (k : Nat) : Nat → Nat → Int32
  | 0, _ => Int32.ofNat 0
  | d + 1, u => reI D k d (u + 1) + Int32.ofNat k * abI (D u)
theorem abI_i {z : Int32} (h1 : -63 ≤ z.toInt) (h2 : z.toInt ≤ 63) : (abI z).toInt = (z.toInt.natAbs : Int) := by
  unfold abI
  by_cases h : 0 ≤ z
  · rw [if_pos h]
    have h3 := xi_ge0.mp h
    omega
  · rw [if_neg h]
    have h3 : ¬ 0 ≤ z.toInt := fun h4 => h (xi_ge0.mpr h4)
    have h0 : (0 : Int32).toInt = 0 := rfl
    rw [et_sub _ _ (by rw [h0]; unfold et_mn; omega) (by rw [h0]; unfold et_mx; omega), h0]
    omega
theorem reI_i {D : Nat → Int32} {k W : Nat} (hk : k ≤ 3) (hW : W ≤ 6) (hD : ∀ u, -63 ≤ (D u).toInt ∧ (D u).toInt ≤ 63) : ∀ d u, u + d ≤ W → (reI D k d u).toInt = reS k (fun w => (D w).toInt) d u
  | 0, _, _ => rfl
  | d + 1, u, h => by
    have ih := reI_i (W := W) hk hW hD d (u + 1) (by omega)
    have b := reS_b (k := k) (W := W) (a := fun w => (D w).toInt) hk (fun u _ => hD u) d (u + 1) (by omega)
    have e1 := abI_i (hD u).1 (hD u).2
    have e2 := hs_nint (a := k) (by omega)
    have hd := hD u
    have a3 : (k : Int) * ((D u).toInt.natAbs : Int) ≤ (k : Int) * 63 := Int.mul_le_mul_of_nonneg_left (by omega) (by omega)
    have a4 : 0 ≤ (k : Int) * ((D u).toInt.natAbs : Int) := Int.mul_nonneg (by omega) (by omega)
    have e3 : (Int32.ofNat k * abI (D u)).toInt = (k : Int) * ((D u).toInt.natAbs : Int) := by
      rw [et_mul _ _ (by rw [e1, e2]; unfold et_mn; omega) (by rw [e1, e2]; unfold et_mx; omega), e1, e2]
    show (reI D k d (u + 1) + Int32.ofNat k * abI (D u)).toInt = reS k (fun w => (D w).toInt) d (u + 1) + (k : Int) * ((D u).toInt.natAbs : Int)
    rw [et_add _ _ (by rw [ih, e3]; unfold et_mn; omega) (by rw [ih, e3]; unfold et_mx; omega), ih, e3]
theorem mb_1 : ∀ m ∈ List.range 2, Int32.ofNat m &&& Int32.ofNat 1 = Int32.ofNat m := by decide +kernel
theorem mb_0 : ∀ m ∈ List.range 2, Int32.ofNat m &&& Int32.ofNat 0 = Int32.ofNat 0 := by decide +kernel
/-- what a run may change -/
def rnS (tR tS td se be sy b j : Nat) : Prop := (tR + 1 ≤ b ∧ b ≤ tR + 7) ∨ (tS + 1 ≤ b ∧ b ≤ tS + 7) ∨ b = td ∨ (b = se ∧ (j = 13 ∨ j = 15 ∨ j = 16)) ∨ b = be ∨ b = sy
/-- as the columns are summed up -/
def ruI (G : eg_G) (se tA tR tS td be sy P cols W k : Nat) (C : Nat → Int32) (Kd : Nat → Nat) (L : List (Int32 × Int32)) : Prop := seR G se tA tR tS td be sy ∧ (et_pl (eg_at G se) 4 = some (.int (Int32.ofNat P)) ∧ et_pl (eg_at G se) 5 = some (.int (Int32.ofNat cols)) ∧ et_pl (eg_at G se) 6 = some (.int (Int32.ofNat W)) ∧ et_pl (eg_at G se) 7 = some (.int (Int32.ofNat k)) ∧ et_pl (eg_at G se) 15 = some (.int (Int32.ofNat 1073741824))) ∧ coR G tA W C Kd L
section ZQA
variable {K : et_K} {G G' : eg_G} {S : Nat → Nat → Prop} {se tA tR tS td be sy P cols W k b : Nat} {C : Nat → Int32} {Kd : Nat → Nat} {L : List (Int32 × Int32)}
theorem seT.rR (t : seT K se tA tR tS td be sy) (h1 : tR + 1 ≤ b) (h2 : b ≤ tR + 7) : K b = some 45 := by
  have h3 := t.2.2.2.1 (b - (tR + 1)) (by omega)
  rw [show tR + 1 + (b - (tR + 1)) = b by omega] at h3
  exact h3
theorem seT.rS (t : seT K se tA tR tS td be sy) (h1 : tS + 1 ≤ b) (h2 : b ≤ tS + 7) : K b = some 45 := by
  have h3 := t.2.2.2.2 (b - (tS + 1)) (by omega)
  rw [show tS + 1 + (b - (tS + 1)) = b by omega] at h3
  exact h3
theorem ruI.xs (h : ruI G se tA tR tS td be sy P cols W k C Kd L) (hW : W ≤ 6) (t : seT K se tA tR tS td be sy) (hH : et_H et_TT K G) (x : xf S G G') (hs : ∀ b j, S b j → (tR + 1 ≤ b ∧ b ≤ tR + 7) ∨ (tS + 1 ≤ b ∧ b ≤ tS + 7)) : ruI G' se tA tR tS td be sy P cols W k C Kd L := by
  obtain ⟨h1, ⟨a1, a2, a3, a4, a5⟩, h3⟩ := h
  have k45 : ∀ b j, S b j → K b = some 45 := fun b j q => (hs b j q).elim (fun q => t.rR q.1 q.2) (fun q => t.rS q.1 q.2)
  have fse : ∀ j, et_pl (eg_at G' se) j = et_pl (eg_at G se) j := fun j => x.2 se j (hH.2.2 _ _ t.1.1).1 (fun q => by
    have h9 := k45 _ _ q
    rw [t.1.1] at h9
    cases h9)
  refine ⟨h1.xs t hH x (fun b j u kb q => ?_), ⟨(fse 4).trans a1, (fse 5).trans a2, (fse 6).trans a3, (fse 7).trans a4, (fse 15).trans a5⟩, h3.xs hW t hH x (fun b j q q1 q2 => ?_)⟩
  · rw [k45 _ _ q] at kb
    cases kb
    exact ⟨by decide, by decide, fun h => absurd h (by decide)⟩
  · have h9 := hs b j q
    have h8 := t.2.1
    omega
end ZQA
section ZQB
variable {K : et_K} {G G0 : eg_G} {J : Nat → eg_G → Prop} {Z : eg_O → Prop} {se tA tR tS td be sy P cols W k d d2 m c mb : Nat} {C : Nat → Int32} {Kd : Nat → Nat} {L : List (Int32 × Int32)} {x3 : Option Value}
theorem fd_ruW (hH0 : et_H et_TT K G0) (hH : et_H et_TT K G) (t : seT K se tA tR tS td be sy) (hW : W ≤ 6) (hk : k ≤ 3) (hcols : cols ≤ 151) (hP : P ≤ cols) (hLc : L.length = cols) (hru : ruI G se tA tR tS td be sy P cols W k C Kd L) (hX : xf (fun b _ => (tR + 1 ≤ b ∧ b ≤ tR + 7) ∨ (tS + 1 ≤ b ∧ b ≤ tS + 7)) G0 G) (hold : (∀ q, q < c → et_pl (eg_at G (tS + 1 + 0)) q = some (.int (Int32.ofNat 0)) ∧ ∀ w, w ≤ W → et_pl (eg_at G (tR + 1 + w)) q = some (.int (reI (fun w => coV C Kd L q w) k (W - w) w)))) (hs0 : et_pl (eg_at G (tS + 1 + 0)) c = some (.int (Int32.ofNat 0))) (hpa : (∀ w, m ≤ w → w ≤ W → et_pl (eg_at G (tR + 1 + w)) c = some (.int (reI (fun w => coV C Kd L c w) k (W - w) w)))) (hc : c < cols) (hm : m ≤ W) (h : ∀ (G' : eg_G) (x3 : Option Value), et_H et_TT K G' → xf (fun b _ => (tR + 1 ≤ b ∧ b ≤ tR + 7) ∨ (tS + 1 ≤ b ∧ b ≤ tS + 7)) G0 G' → ruI G' se tA tR tS td be sy P cols W k C Kd L → (∀ q, q < c → et_pl (eg_at G' (tS + 1 + 0)) q = some (.int (Int32.ofNat 0)) ∧ ∀ w, w ≤ W → et_pl (eg_at G' (tR + 1 + w)) q = some (.int (reI (fun w => coV C Kd L q w) k (W - w) w))) → et_pl (eg_at G' (tS + 1 + 0)) c = some (.int (Int32.ofNat 0)) → (∀ w, w ≤ W → et_pl (eg_at G' (tR + 1 + w)) c = some (.int (reI (fun w => coV C Kd L c w) k (W - w) w))) → et_go none d2 93 85 [some (.ref se), some (.int (Int32.ofNat mb)), some (.int (Int32.ofNat c)), x3] [] G' 0 0 Z) : et_go none d2 93 40 [some (.ref se), some (.int (Int32.ofNat mb)), some (.int (Int32.ofNat c)), some (.int (Int32.ofNat m - Int32.ofNat 1))] [] G 0 0 Z := by
  induction m generalizing G with
  | zero =>
    have k_se := t.1.1
    have k_tA := t.1.2.1
    have k_tR := t.1.2.2.1
    have k_tS := t.1.2.2.2.1
    have k_td := t.1.2.2.2.2.1
    have k_be := t.1.2.2.2.2.2.1
    have k_sy := t.1.2.2.2.2.2.2
    have hsR := hru.1
    have q4 := hru.2.1.1
    have q5 := hru.2.1.2.1
    have q6 := hru.2.1.2.2.1
    have q7 := hru.2.1.2.2.2.1
    have q15 := hru.2.1.2.2.2.2
    have hco := hru.2.2
    refine hs_iload (i := 3) (p := 41) (by decide +kernel) rfl ?_
    refine hs_br1 (c := .lt) (t := 85) (f := 44) (by decide +kernel) (fun (c41 : (Int32.ofNat 0 - Int32.ofNat 1) < 0) => ?_) (fun (c41 : ¬ ((Int32.ofNat 0 - Int32.ofNat 1) < 0)) => ?_)
    · exact h _ _ hH hX hru hold hs0 (fun w hw => hpa w (Nat.zero_le w) hw)
    · exact absurd (by decide) c41
  | succ m ih =>
    have k_se := t.1.1
    have k_tA := t.1.2.1
    have k_tR := t.1.2.2.1
    have k_tS := t.1.2.2.2.1
    have k_td := t.1.2.2.2.2.1
    have k_be := t.1.2.2.2.2.2.1
    have k_sy := t.1.2.2.2.2.2.2
    have hsR := hru.1
    have q4 := hru.2.1.1
    have q5 := hru.2.1.2.1
    have q6 := hru.2.1.2.2.1
    have q7 := hru.2.1.2.2.2.1
    have q15 := hru.2.1.2.2.2.2
    have hco := hru.2.2
    rw [xi_s1]
    refine hs_iload (i := 3) (p := 41) (by decide +kernel) rfl ?_
    refine hs_if0 (c := .lt) (t := 85) (f := 44) (by decide +kernel) (rs_nn (by omega)) ?_
    refine hs_aload (i := 0) (p := 45) (by decide +kernel) rfl ?_
    refine hf_get (T := et_TT) (t := 9) (ci := 7) (f := 1) (p := 48) (by decide +kernel) rfl hH k_se hsR.1.2.1 ?_
    refine hs_iload (i := 3) (p := 49) (by decide +kernel) rfl ?_
    refine hf_ald (ins := .aaload) (T := et_TT) (t := 44) (kd := 11) (N := 7) (p := 50) (by decide +kernel) (fun _ _ _ _ _ _ _ _ _ _ => rfl) rfl rfl rfl hH k_tR (by decide) (hsR.2.2.1 m (by omega)) ?_
    have k__tR___1___m_ : K (tR + 1 + m) = some 45 := t.2.2.2.1 m (by omega)
    refine hs_iload (i := 2) (p := 51) (by decide +kernel) rfl ?_
    refine hs_aload (i := 0) (p := 52) (by decide +kernel) rfl ?_
    refine hf_get (T := et_TT) (t := 9) (ci := 7) (f := 1) (p := 55) (by decide +kernel) rfl hH k_se hsR.1.2.1 ?_
    refine hs_iload (i := 3) (p := 56) (by decide +kernel) rfl ?_
    refine hs_k (x := Int32.ofNat 1) (p := 57) (by decide +kernel) ?_
    refine hs_iaddn (p := 58) (by decide +kernel) ?_
    refine hf_ald (ins := .aaload) (T := et_TT) (t := 44) (kd := 11) (N := 7) (p := 59) (by decide +kernel) (fun _ _ _ _ _ _ _ _ _ _ => rfl) rfl rfl rfl hH k_tR (by decide) (hsR.2.2.1 (m + 1) (by omega)) ?_
    have k__tR___1____m___1__ : K (tR + 1 + (m + 1)) = some 45 := t.2.2.2.1 (m + 1) (by omega)
    refine hs_iload (i := 2) (p := 60) (by decide +kernel) rfl ?_
    refine hf_ald (ins := .iaload) (T := et_TT) (t := 45) (kd := 0) (N := 151) (p := 61) (by decide +kernel) (fun _ _ _ _ _ _ _ _ _ _ => rfl) rfl rfl rfl hH k__tR___1____m___1__ (by decide) (hpa (m + 1) (Nat.le_refl _) hm) ?_
    refine hs_aload (i := 0) (p := 62) (by decide +kernel) rfl ?_
    refine hf_get (T := et_TT) (t := 9) (ci := 7) (f := 7) (p := 65) (by decide +kernel) rfl hH k_se q7 ?_
    refine hs_aload (i := 0) (p := 66) (by decide +kernel) rfl ?_
    refine hf_get (T := et_TT) (t := 9) (ci := 7) (f := 0) (p := 69) (by decide +kernel) rfl hH k_se hsR.1.1 ?_
    refine hs_iload (i := 3) (p := 70) (by decide +kernel) rfl ?_
    refine hf_ald (ins := .aaload) (T := et_TT) (t := 43) (kd := 11) (N := 6) (p := 71) (by decide +kernel) (fun _ _ _ _ _ _ _ _ _ _ => rfl) rfl rfl rfl hH k_tA (by decide) (hsR.2.1 m (by omega)) ?_
    have k__tA___1___m_ : K (tA + 1 + m) = some 45 := t.2.2.1 m (by omega)
    refine hs_iload (i := 2) (p := 72) (by decide +kernel) rfl ?_
    refine hf_ald (ins := .iaload) (T := et_TT) (t := 45) (kd := 0) (N := 151) (p := 73) (by decide +kernel) (fun _ _ _ _ _ _ _ _ _ _ => rfl) rfl rfl rfl hH k__tA___1___m_ (by decide) (hco c m (by omega) (by omega)) ?_
    refine hs_math (mi := 309) (lk := 4) (p := 76) (by decide +kernel) rfl rfl rfl rfl ?_
    rw [show (if 0 ≤ (coV C Kd L c m) then (coV C Kd L c m) else 0 - (coV C Kd L c m)) = abI (coV C Kd L c m) from rfl]
    refine hs_imul (p := 77) (by decide +kernel) ?_
    refine hs_iadd (p := 78) (by decide +kernel) ?_
    have hHo := hH
    refine hf_ist (T := et_TT) (t := 45) (N := 151) (p := 79) (by decide +kernel) rfl rfl (by decide) hH k__tR___1___m_ (by omega) (by decide) (fun s hs => absurd hs List.not_mem_nil) (fun G78 hH x78 e78 => ?_)
    have hru := hru.xs hW t hHo x78 (fun b j h => .inl ⟨by have h := h.1; omega, by have h := h.1; omega⟩)
    have hX := hX.tr x78 (fun b j _ h => .inl ⟨by have h := h.1; omega, by have h := h.1; omega⟩)
    have hold : (∀ q, q < c → et_pl (eg_at G78 (tS + 1 + 0)) q = some (.int (Int32.ofNat 0)) ∧ ∀ w, w ≤ W → et_pl (eg_at G78 (tR + 1 + w)) q = some (.int (reI (fun w => coV C Kd L q w) k (W - w) w))) := fun q hq => ⟨(x78.2 _ q (hHo.2.2 _ _ (t.2.2.2.2 0 (by decide))).1 (fun h => by have h9 := h.1; have h8 := t.2.1; omega)).trans (hold q hq).1, fun w hw => (x78.2 _ q (hHo.2.2 _ _ (t.2.2.2.1 w (by omega))).1 (fun h => by have h9 := h.2; omega)).trans ((hold q hq).2 w hw)⟩
    have hs0 : et_pl (eg_at G78 (tS + 1 + 0)) c = some (.int (Int32.ofNat 0)) := (x78.2 _ c (hHo.2.2 _ _ (t.2.2.2.2 0 (by decide))).1 (fun h => by have h9 := h.1; have h8 := t.2.1; omega)).trans hs0
    have hpa2 : (∀ w, m ≤ w → w ≤ W → et_pl (eg_at G78 (tR + 1 + w)) c = some (.int (reI (fun w => coV C Kd L c w) k (W - w) w))) := fun w h1 h2 => by
      by_cases e : w = m
      · rw [e, show W - m = (W - (m + 1)) + 1 by omega]; exact e78
      · exact (x78.2 _ c (hHo.2.2 _ _ (t.2.2.2.1 w (by omega))).1 (fun h => by have h9 := h.1; omega)).trans (hpa w (by omega) h2)
    refine hs_iinc (i := 3) (n := (-1)) (p := 82) (by decide +kernel) rfl (Nat.le_of_ble_eq_true rfl) ?_
    rw [xi_d1]
    refine hs_goto (p := 40) (by decide +kernel) ?_
    exact ih hH hru hX hold hs0 hpa2 (by omega)
theorem fd_ruL (hH0 : et_H et_TT K G0) (hH : et_H et_TT K G) (t : seT K se tA tR tS td be sy) (hW : W ≤ 6) (hk : k ≤ 3) (hcols : cols ≤ 151) (hP : P ≤ cols) (hLc : L.length = cols) (hru : ruI G se tA tR tS td be sy P cols W k C Kd L) (hX : xf (fun b _ => (tR + 1 ≤ b ∧ b ≤ tR + 7) ∨ (tS + 1 ≤ b ∧ b ≤ tS + 7)) G0 G) (hold : (∀ q, q < c → et_pl (eg_at G (tS + 1 + 0)) q = some (.int (Int32.ofNat 0)) ∧ ∀ w, w ≤ W → et_pl (eg_at G (tR + 1 + w)) q = some (.int (reI (fun w => coV C Kd L q w) k (W - w) w)))) (hmay : ((mb = 1 ∧ ∀ q, q < c → q < P → 0 < (reI (fun w => coV C Kd L q w) k (W - 0) 0)) ∨ (mb = 0 ∧ ∃ q, q < c ∧ q < P ∧ ¬ 0 < (reI (fun w => coV C Kd L q w) k (W - 0) 0)))) (hc : c ≤ cols) (h : ∀ (G' : eg_G) (mb : Nat) (x3 : Option Value), et_H et_TT K G' → xf (fun b _ => (tR + 1 ≤ b ∧ b ≤ tR + 7) ∨ (tS + 1 ≤ b ∧ b ≤ tS + 7)) G0 G' → ruI G' se tA tR tS td be sy P cols W k C Kd L → (∀ q, q < cols → et_pl (eg_at G' (tS + 1 + 0)) q = some (.int (Int32.ofNat 0)) ∧ ∀ w, w ≤ W → et_pl (eg_at G' (tR + 1 + w)) q = some (.int (reI (fun w => coV C Kd L q w) k (W - w) w))) → ((mb = 1 ∧ ∀ q, q < cols → q < P → 0 < (reI (fun w => coV C Kd L q w) k (W - 0) 0)) ∨ (mb = 0 ∧ ∃ q, q < cols ∧ q < P ∧ ¬ 0 < (reI (fun w => coV C Kd L q w) k (W - 0) 0))) → et_go none d2 93 118 [some (.ref se), some (.int (Int32.ofNat mb)), some (.int (Int32.ofNat cols)), x3] [] G' 0 0 Z) : et_go none d2 93 4 [some (.ref se), some (.int (Int32.ofNat mb)), some (.int (Int32.ofNat c)), x3] [] G 0 0 Z := by
  induction hq9 : cols - c using Nat.strongRecOn generalizing c mb G x3 with
  | _ q9 ih =>
    have k_se := t.1.1
    have k_tA := t.1.2.1
    have k_tR := t.1.2.2.1
    have k_tS := t.1.2.2.2.1
    have k_td := t.1.2.2.2.2.1
    have k_be := t.1.2.2.2.2.2.1
    have k_sy := t.1.2.2.2.2.2.2
    have hsR := hru.1
    have q4 := hru.2.1.1
    have q5 := hru.2.1.2.1
    have q6 := hru.2.1.2.2.1
    have q7 := hru.2.1.2.2.2.1
    have q15 := hru.2.1.2.2.2.2
    have hco := hru.2.2
    have hmb : mb ≤ 1 := by rcases hmay with ⟨h9, -⟩ | ⟨h9, -⟩ <;> omega
    refine hs_iload (i := 2) (p := 5) (by decide +kernel) rfl ?_
    refine hs_aload (i := 0) (p := 6) (by decide +kernel) rfl ?_
    refine hf_get (T := et_TT) (t := 9) (ci := 7) (f := 5) (p := 9) (by decide +kernel) rfl hH k_se q5 ?_
    refine hs_br2n (c := .ge) (t := 118) (f := 12) (by decide +kernel) (by omega) (by omega) (fun (c9 : cols ≤ c) => ?_) (fun (c9 : ¬ (cols ≤ c)) => ?_)
    · obtain rfl : c = cols := by omega
      exact h _ _ _ hH hX hru hold hmay
    · refine hs_aload (i := 0) (p := 13) (by decide +kernel) rfl ?_
      refine hf_get (T := et_TT) (t := 9) (ci := 7) (f := 2) (p := 16) (by decide +kernel) rfl hH k_se hsR.1.2.2.1 ?_
      refine hs_k (x := Int32.ofNat 0) (p := 17) (by decide +kernel) ?_
      refine hf_ald (ins := .aaload) (T := et_TT) (t := 44) (kd := 11) (N := 7) (p := 18) (by decide +kernel) (fun _ _ _ _ _ _ _ _ _ _ => rfl) rfl rfl rfl hH k_tS (by decide) (hsR.2.2.2 0 (by decide)) ?_
      have k__tS___1___0_ : K (tS + 1 + 0) = some 45 := t.2.2.2.2 0 (by decide)
      refine hs_iload (i := 2) (p := 19) (by decide +kernel) rfl ?_
      refine hs_k (x := Int32.ofNat 0) (p := 20) (by decide +kernel) ?_
      have hHo := hH
      refine hf_ist (T := et_TT) (t := 45) (N := 151) (p := 21) (by decide +kernel) rfl rfl (by decide) hH k__tS___1___0_ (by omega) (by decide) (fun s hs => absurd hs List.not_mem_nil) (fun G20 hH x20 e20 => ?_)
      have hru := hru.xs hW t hHo x20 (fun b j h => .inr ⟨by have h := h.1; omega, by have h := h.1; omega⟩)
      have hsR := hru.1
      have q4 := hru.2.1.1
      have q5 := hru.2.1.2.1
      have q6 := hru.2.1.2.2.1
      have q7 := hru.2.1.2.2.2.1
      have q15 := hru.2.1.2.2.2.2
      have hco := hru.2.2
      have hX := hX.tr x20 (fun b j _ h => .inr ⟨by have h := h.1; omega, by have h := h.1; omega⟩)
      have hold : (∀ q, q < c → et_pl (eg_at G20 (tS + 1 + 0)) q = some (.int (Int32.ofNat 0)) ∧ ∀ w, w ≤ W → et_pl (eg_at G20 (tR + 1 + w)) q = some (.int (reI (fun w => coV C Kd L q w) k (W - w) w))) := fun q hq => ⟨(x20.2 _ q (hHo.2.2 _ _ (t.2.2.2.2 0 (by decide))).1 (fun h => by have h9 := h.2; omega)).trans (hold q hq).1, fun w hw => (x20.2 _ q (hHo.2.2 _ _ (t.2.2.2.1 w (by omega))).1 (fun h => by have h9 := h.2; omega)).trans ((hold q hq).2 w hw)⟩
      have hs0 := e20
      refine hs_aload (i := 0) (p := 22) (by decide +kernel) rfl ?_
      refine hf_get (T := et_TT) (t := 9) (ci := 7) (f := 1) (p := 25) (by decide +kernel) rfl hH k_se hsR.1.2.1 ?_
      refine hs_aload (i := 0) (p := 26) (by decide +kernel) rfl ?_
      refine hf_get (T := et_TT) (t := 9) (ci := 7) (f := 6) (p := 29) (by decide +kernel) rfl hH k_se q6 ?_
      refine hf_ald (ins := .aaload) (T := et_TT) (t := 44) (kd := 11) (N := 7) (p := 30) (by decide +kernel) (fun _ _ _ _ _ _ _ _ _ _ => rfl) rfl rfl rfl hH k_tR (by decide) (hsR.2.2.1 W (by omega)) ?_
      have k__tR___1___W_ : K (tR + 1 + W) = some 45 := t.2.2.2.1 W (by omega)
      refine hs_iload (i := 2) (p := 31) (by decide +kernel) rfl ?_
      refine hs_k (x := Int32.ofNat 0) (p := 32) (by decide +kernel) ?_
      have hHo := hH
      refine hf_ist (T := et_TT) (t := 45) (N := 151) (p := 33) (by decide +kernel) rfl rfl (by decide) hH k__tR___1___W_ (by omega) (by decide) (fun s hs => absurd hs List.not_mem_nil) (fun G32 hH x32 e32 => ?_)
      have hru := hru.xs hW t hHo x32 (fun b j h => .inl ⟨by have h := h.1; omega, by have h := h.1; omega⟩)
      have hsR := hru.1
      have q4 := hru.2.1.1
      have q5 := hru.2.1.2.1
      have q6 := hru.2.1.2.2.1
      have q7 := hru.2.1.2.2.2.1
      have q15 := hru.2.1.2.2.2.2
      have hco := hru.2.2
      have hX := hX.tr x32 (fun b j _ h => .inl ⟨by have h := h.1; omega, by have h := h.1; omega⟩)
      have hold : (∀ q, q < c → et_pl (eg_at G32 (tS + 1 + 0)) q = some (.int (Int32.ofNat 0)) ∧ ∀ w, w ≤ W → et_pl (eg_at G32 (tR + 1 + w)) q = some (.int (reI (fun w => coV C Kd L q w) k (W - w) w))) := fun q hq => ⟨(x32.2 _ q (hHo.2.2 _ _ (t.2.2.2.2 0 (by decide))).1 (fun h => by have h9 := h.2; omega)).trans (hold q hq).1, fun w hw => (x32.2 _ q (hHo.2.2 _ _ (t.2.2.2.1 w (by omega))).1 (fun h => by have h9 := h.2; omega)).trans ((hold q hq).2 w hw)⟩
      have hs0 : et_pl (eg_at G32 (tS + 1 + 0)) c = some (.int (Int32.ofNat 0)) := (x32.2 _ c (hHo.2.2 _ _ (t.2.2.2.2 0 (by decide))).1 (fun h => by have h9 := h.1; have h8 := t.2.1; omega)).trans hs0
      refine hs_aload (i := 0) (p := 34) (by decide +kernel) rfl ?_
      refine hf_get (T := et_TT) (t := 9) (ci := 7) (f := 6) (p := 37) (by decide +kernel) rfl hH k_se q6 ?_
      refine hs_k (x := Int32.ofNat 1) (p := 38) (by decide +kernel) ?_
      refine hs_isub (p := 39) (by decide +kernel) ?_
      refine hs_istore (i := 3) (p := 40) (by decide +kernel) (Nat.le_of_ble_eq_true rfl) ?_
      refine fd_ruW (m := W) hH0 hH t hW hk hcols hP hLc hru hX hold hs0 (fun w h1 h2 => ?_) (by omega) (Nat.le_refl W) (fun G9 x39 hH hX hru hold hs0 hrow => ?_)
      · obtain rfl : w = W := by omega
        rw [Nat.sub_self]
        exact e32
      have hsR := hru.1
      have q4 := hru.2.1.1
      have q5 := hru.2.1.2.1
      have q6 := hru.2.1.2.2.1
      have q7 := hru.2.1.2.2.2.1
      have q15 := hru.2.1.2.2.2.2
      have hco := hru.2.2
      refine hs_iload (i := 1) (p := 86) (by decide +kernel) rfl ?_
      refine hs_iload (i := 2) (p := 87) (by decide +kernel) rfl ?_
      refine hs_aload (i := 0) (p := 88) (by decide +kernel) rfl ?_
      refine hf_get (T := et_TT) (t := 9) (ci := 7) (f := 4) (p := 91) (by decide +kernel) rfl hH k_se q4 ?_
      refine hs_br2n (c := .ge) (t := 105) (f := 94) (by decide +kernel) (by omega) (by omega) (fun (c91 : P ≤ c) => ?_) (fun (c91 : ¬ (P ≤ c)) => ?_)
      · refine hs_k (x := Int32.ofNat 1) (p := 106) (by decide +kernel) ?_
        refine hs_goto (p := 110) (by decide +kernel) ?_
        refine hs_st (ins := .iand) (len := 1) (p := 111) (by decide +kernel) rfl rfl ?_
        show et_go none _ 93 111 _ [.int (Int32.ofNat mb &&& Int32.ofNat 1)] _ _ _ _
        rw [mb_1 mb (List.mem_range.mpr (by omega))]
        refine hs_istore (i := 1) (p := 112) (by decide +kernel) (Nat.le_of_ble_eq_true rfl) ?_
        refine hs_iinc1 (i := 2) (p := 115) (by decide +kernel) rfl (Nat.le_of_ble_eq_true rfl) ?_
        refine hs_goto (p := 4) (by decide +kernel) ?_
        have hold2 : (∀ q, q < (c + 1) → et_pl (eg_at G9 (tS + 1 + 0)) q = some (.int (Int32.ofNat 0)) ∧ ∀ w, w ≤ W → et_pl (eg_at G9 (tR + 1 + w)) q = some (.int (reI (fun w => coV C Kd L q w) k (W - w) w))) := fun q hq => by
          by_cases e : q = c
          · rw [e]; exact ⟨hs0, hrow⟩
          · exact hold q (by omega)
        have hmay2 : ((mb = 1 ∧ ∀ q, q < (c + 1) → q < P → 0 < (reI (fun w => coV C Kd L q w) k (W - 0) 0)) ∨ (mb = 0 ∧ ∃ q, q < (c + 1) ∧ q < P ∧ ¬ 0 < (reI (fun w => coV C Kd L q w) k (W - 0) 0))) := by
          rcases hmay with ⟨a1, a2⟩ | ⟨a1, q, a2, a3⟩
          · exact .inl ⟨a1, fun q h1 h2 => a2 q (by omega) h2⟩
          · exact .inr ⟨a1, q, by omega, a3⟩
        exact ih (cols - (c + 1)) (by omega) hH hru hX hold2 hmay2 (by omega) rfl
      · refine hs_aload (i := 0) (p := 95) (by decide +kernel) rfl ?_
        refine hf_get (T := et_TT) (t := 9) (ci := 7) (f := 1) (p := 98) (by decide +kernel) rfl hH k_se hsR.1.2.1 ?_
        refine hs_k (x := Int32.ofNat 0) (p := 99) (by decide +kernel) ?_
        refine hf_ald (ins := .aaload) (T := et_TT) (t := 44) (kd := 11) (N := 7) (p := 100) (by decide +kernel) (fun _ _ _ _ _ _ _ _ _ _ => rfl) rfl rfl rfl hH k_tR (by decide) (hsR.2.2.1 0 (by decide)) ?_
        have k__tR___1___0_ : K (tR + 1 + 0) = some 45 := t.2.2.2.1 0 (by decide)
        refine hs_iload (i := 2) (p := 101) (by decide +kernel) rfl ?_
        refine hf_ald (ins := .iaload) (T := et_TT) (t := 45) (kd := 0) (N := 151) (p := 102) (by decide +kernel) (fun _ _ _ _ _ _ _ _ _ _ => rfl) rfl rfl rfl hH k__tR___1___0_ (by decide) (hrow 0 (Nat.zero_le _)) ?_
        refine hs_br1 (c := .le) (t := 109) (f := 105) (by decide +kernel) (fun (c102 : (reI (fun w => coV C Kd L c w) k (W - 0) 0) ≤ 0) => ?_) (fun (c102 : ¬ ((reI (fun w => coV C Kd L c w) k (W - 0) 0) ≤ 0)) => ?_)
        · refine hs_k (x := Int32.ofNat 0) (p := 110) (by decide +kernel) ?_
          refine hs_st (ins := .iand) (len := 1) (p := 111) (by decide +kernel) rfl rfl ?_
          show et_go none _ 93 111 _ [.int (Int32.ofNat mb &&& Int32.ofNat 0)] _ _ _ _
          rw [mb_0 mb (List.mem_range.mpr (by omega))]
          refine hs_istore (i := 1) (p := 112) (by decide +kernel) (Nat.le_of_ble_eq_true rfl) ?_
          refine hs_iinc1 (i := 2) (p := 115) (by decide +kernel) rfl (Nat.le_of_ble_eq_true rfl) ?_
          refine hs_goto (p := 4) (by decide +kernel) ?_
          have hold2 : (∀ q, q < (c + 1) → et_pl (eg_at G9 (tS + 1 + 0)) q = some (.int (Int32.ofNat 0)) ∧ ∀ w, w ≤ W → et_pl (eg_at G9 (tR + 1 + w)) q = some (.int (reI (fun w => coV C Kd L q w) k (W - w) w))) := fun q hq => by
            by_cases e : q = c
            · rw [e]; exact ⟨hs0, hrow⟩
            · exact hold q (by omega)
          have hmay2 : ((0 = 1 ∧ ∀ q, q < (c + 1) → q < P → 0 < (reI (fun w => coV C Kd L q w) k (W - 0) 0)) ∨ (0 = 0 ∧ ∃ q, q < (c + 1) ∧ q < P ∧ ¬ 0 < (reI (fun w => coV C Kd L q w) k (W - 0) 0))) := by
            exact .inr ⟨rfl, c, by omega, by omega, fun h9 => absurd h9 (Int32.not_lt.mpr c102)⟩
          exact ih (cols - (c + 1)) (by omega) hH hru hX hold2 hmay2 (by omega) rfl
        · refine hs_k (x := Int32.ofNat 1) (p := 106) (by decide +kernel) ?_
          refine hs_goto (p := 110) (by decide +kernel) ?_
          refine hs_st (ins := .iand) (len := 1) (p := 111) (by decide +kernel) rfl rfl ?_
          show et_go none _ 93 111 _ [.int (Int32.ofNat mb &&& Int32.ofNat 1)] _ _ _ _
          rw [mb_1 mb (List.mem_range.mpr (by omega))]
          refine hs_istore (i := 1) (p := 112) (by decide +kernel) (Nat.le_of_ble_eq_true rfl) ?_
          refine hs_iinc1 (i := 2) (p := 115) (by decide +kernel) rfl (Nat.le_of_ble_eq_true rfl) ?_
          refine hs_goto (p := 4) (by decide +kernel) ?_
          have hold2 : (∀ q, q < (c + 1) → et_pl (eg_at G9 (tS + 1 + 0)) q = some (.int (Int32.ofNat 0)) ∧ ∀ w, w ≤ W → et_pl (eg_at G9 (tR + 1 + w)) q = some (.int (reI (fun w => coV C Kd L q w) k (W - w) w))) := fun q hq => by
            by_cases e : q = c
            · rw [e]; exact ⟨hs0, hrow⟩
            · exact hold q (by omega)
          have hmay2 : ((mb = 1 ∧ ∀ q, q < (c + 1) → q < P → 0 < (reI (fun w => coV C Kd L q w) k (W - 0) 0)) ∨ (mb = 0 ∧ ∃ q, q < (c + 1) ∧ q < P ∧ ¬ 0 < (reI (fun w => coV C Kd L q w) k (W - 0) 0))) := by
            rcases hmay with ⟨a1, a2⟩ | ⟨a1, q, a2, a3⟩
            · refine .inl ⟨a1, fun q h1 h2 => ?_⟩
              by_cases e : q = c
              · rw [e]; exact Decidable.of_not_not (fun h9 => c102 (Int32.not_lt.mp h9))
              · exact a2 q (by omega) h2
            · exact .inr ⟨a1, q, by omega, a3⟩
          exact ih (cols - (c + 1)) (by omega) hH hru hX hold2 hmay2 (by omega) rfl
theorem fd_run (t : seT K se tA tR tS td be sy) (hW : W ≤ 6) (hk : k ≤ 3) (hcols : cols ≤ 151) (hP : P ≤ cols) (hLc : L.length = cols) (hJf : ∀ n G G', J n G → et_H et_TT K G → xf (fun b _ => (tR + 1 ≤ b ∧ b ≤ tR + 7) ∨ (tS + 1 ≤ b ∧ b ≤ tS + 7) ∨ b = td) G G' → J n G') (hJl : ∀ n G, J n G → ∃ l : Nat, l ≤ 1073741824 ∧ et_pl (eg_at G se) 15 = some (.int (Int32.ofNat l)) ∧ ∀ w p r, W = w + r → n = (p * (2 * k + 1) ^ r) → l ≤ kvS k w p w → J ((p + 1) * (2 * k + 1) ^ r) G) (hJc : ∀ w p r c G, W = w + r → c < P → paS k w p (fun w => (coV C Kd L c w).toInt) w + reS k (fun w => (coV C Kd L c w).toInt) r w ≤ 0 → J (p * (2 * k + 1) ^ r) G → J ((p + 1) * (2 * k + 1) ^ r) G) (hJt : ∀ p l G d2, 2 ≤ d2 → et_H et_TT K G → chI G se tA tR tS td be sy P cols W k C Kd L (fun w c => reI (fun w => coV C Kd L c w) k (W - w) w) → J p G → l ≤ 1073741824 → et_pl (eg_at G se) 15 = some (.int (Int32.ofNat l)) → kvS k W p W < l → (∀ c, c < P → 0 < paS k W p (fun w => (coV C Kd L c w).toInt) W) → tdQ G td W (kvT k W p) → smR G tS W cols (fun c => paS k W p (fun w => (coV C Kd L c w).toInt) W) → et_go none d2 95 0 (eg_en (eg_mL 95) [.ref se, .int (Int32.ofNat (kvS k W p W))]) [] G 0 0 (xw_Z (fun b j => (b = se ∧ (j = 13 ∨ j = 15 ∨ j = 16)) ∨ b = be ∨ b = sy) K G (fun g v9 => v9 = none ∧ J (p + 1) g))) (hH : et_H et_TT K G) (hru : ruI G se tA tR tS td be sy P cols W k C Kd L) (hJ : J 0 G) (hd : 12 ≤ d2) : et_go none d2 93 0 (eg_en (eg_mL 93) [.ref se]) [] G 0 0 (xw_Z (rnS tR tS td se be sy) K G (fun g v9 => v9 = none ∧ J ((2 * k + 1) ^ W) g)) := by
  obtain ⟨d, rfl⟩ : ∃ d, d2 = d + 12 := ⟨d2 - 12, by omega⟩
  rw [show eg_mL 93 = 4 from by decide +kernel]
  show et_go none (d + 12) 93 0 [some (.ref se), none, none, none] [] G 0 0 _
  have k_se := t.1.1
  have k_tA := t.1.2.1
  have k_tR := t.1.2.2.1
  have k_tS := t.1.2.2.2.1
  have k_td := t.1.2.2.2.2.1
  have k_be := t.1.2.2.2.2.2.1
  have k_sy := t.1.2.2.2.2.2.2
  refine hs_k (x := Int32.ofNat 1) (p := 1) (by decide +kernel) ?_
  refine hs_istore (i := 1) (p := 2) (by decide +kernel) (Nat.le_of_ble_eq_true rfl) ?_
  refine hs_k (x := Int32.ofNat 0) (p := 3) (by decide +kernel) ?_
  refine hs_istore (i := 2) (p := 4) (by decide +kernel) (Nat.le_of_ble_eq_true rfl) ?_
  refine fd_ruL (mb := 1) (c := 0) hH hH t hW hk hcols hP hLc hru xf.rf (fun q hq => absurd hq (Nat.not_lt_zero q)) (.inl ⟨rfl, fun q hq => absurd hq (Nat.not_lt_zero q)⟩) (Nat.zero_le cols) (fun G9 mb x39 hH9 x9 hru9 hold9 hmay => ?_)
  have hJ9 := hJf _ _ _ hJ hH (x9.wk (fun b j _ h => h.elim .inl (fun h => .inr (.inl h))))
  have hX : xf (rnS tR tS td se be sy) G G9 := x9.wk (fun b j _ h => h.elim .inl (fun h => .inr (.inl h)))
  have hH := hH9
  have hmb : mb ≤ 1 := by rcases hmay with ⟨h9, -⟩ | ⟨h9, -⟩ <;> omega
  refine hs_iload (i := 1) (p := 119) (by decide +kernel) rfl ?_
  refine hs_br1 (c := .eq) (t := 128) (f := 122) (by decide +kernel) (fun (c119 : Int32.ofNat mb = 0) => ?_) (fun (c119 : ¬ (Int32.ofNat mb = 0)) => ?_)
  · refine hs_vret (by decide +kernel) ?_
    obtain ⟨q, hq1, hq2, hq3⟩ : ∃ q, q < cols ∧ q < P ∧ ¬ 0 < (reI (fun w => coV C Kd L q w) k (W - 0) 0) := by
      rcases hmay with ⟨a1, -⟩ | ⟨-, a2⟩
      · rw [a1] at c119; exact absurd c119 (by decide)
      · exact a2
    rw [xi_gt0, Nat.sub_zero, reI_i (D := fun w => coV C Kd L q w) hk hW (fun u => coV_i.2) W 0 (by omega)] at hq3
    have hJ8 := hJc 0 0 W q G9 (by omega) hq2 (by show 0 + reS k (fun w => (coV C Kd L q w).toInt) W 0 ≤ 0; rw [Int.zero_add]; exact Int.not_lt.mp hq3) (by rw [Nat.zero_mul]; exact hJ9)
    rw [Nat.zero_add, Nat.one_mul] at hJ8
    exact ⟨_, _, rfl, hH, hX, rfl, hJ8⟩
  · refine hs_aload (i := 0) (p := 123) (by decide +kernel) rfl ?_
    refine hs_k (x := Int32.ofNat 0) (p := 124) (by decide +kernel) ?_
    refine hs_k (x := Int32.ofNat 0) (p := 125) (by decide +kernel) ?_
    have hmay1 : ∀ q, q < P → 0 < (reI (fun w => coV C Kd L q w) k (W - 0) 0) := by
      rcases hmay with ⟨a1, a2⟩ | ⟨a1, -⟩
      · exact fun q hq => a2 q (by omega) hq
      · rw [a1] at c119; exact absurd rfl c119
    refine ht_callv (T := et_TT) (t := 9) (mi := 94) (na := 2) (ci := 7) (lk := 4) (lm := 5) (L0 := eg_en (eg_mL 94) [.ref se, .int (Int32.ofNat 0), .int (Int32.ofNat 0)]) (by decide +kernel) rfl hH k_se rfl rfl rfl rfl rfl (by rw [show eg_mL 94 = 5 from by decide +kernel]; first | done | rfl) ?_
    have hci : chI G9 se tA tR tS td be sy P cols W k C Kd L (fun w c => reI (fun w => coV C Kd L c w) k (W - w) w) := ⟨hru9.1, ⟨hru9.2.1.1, hru9.2.1.2.1, hru9.2.1.2.2.1, hru9.2.1.2.2.2.1⟩, hru9.2.2, fun c w hc hw => (hold9 c hc).2 w hw⟩
    have hlow9 : ∀ q, q < P → 0 < paS k 0 0 (fun w => (coV C Kd L q w).toInt) 0 + reS k (fun w => (coV C Kd L q w).toInt) W 0 := fun q hq => by
      have h9 := hmay1 q hq
      rw [xi_gt0, Nat.sub_zero, reI_i (D := fun w => coV C Kd L q w) hk hW (fun u => coV_i.2) W 0 (by omega)] at h9
      show 0 < 0 + reS k (fun w => (coV C Kd L q w).toInt) W 0
      rw [Int.zero_add]
      exact h9
    have hr := fd_choose (J := J) (RE := (fun w c => reI (fun w => coV C Kd L c w) k (W - w) w)) t hW hk hcols hP hLc (fun c w hc hw => reI_i (D := fun w => coV C Kd L c w) hk hW (fun u => coV_i.2) (W - w) w (by omega)) hJf hJl hJc hJt W 0 0 1073741824 (d + 11) G9 (by omega) (by omega) hH hci (by rw [Nat.zero_mul]; exact hJ9) ⟨fun _ => Int32.ofNat 0, fun c hc => (hold9 c hc).1, fun c _ => rfl⟩ (fun u hu => absurd hu (Nat.not_lt_zero u)) hlow9 (Nat.le_refl _) hru9.2.1.2.2.2.2 (by show 0 < 1073741824; decide)
    rw [Nat.zero_add, Nat.one_mul] at hr
    have hr : et_go none (d + 11) 94 0 (eg_en (eg_mL 94) [.ref se, .int (Int32.ofNat 0), .int (Int32.ofNat 0)]) [] G9 0 0 _ := hr
    refine hr.mono (fun u9 hu9 => xw_cb hu9 (fun G3 v3 hH x3 hJ0 => ?_))
    obtain ⟨rfl, hJ⟩ := hJ0
    have hX := hX.tr x3 (fun b j _ h => by
      rcases h with ⟨h1, h2⟩ | ⟨h1, -⟩ | h1 | h1 | h1
      · exact .inr (.inl ⟨by omega, h2⟩)
      · exact .inr (.inr (.inl h1))
      · exact .inr (.inr (.inr (.inl h1)))
      · exact .inr (.inr (.inr (.inr (.inl h1))))
      · exact .inr (.inr (.inr (.inr (.inr h1)))))
    show et_go none _ 93 128 _ [] _ _ _ _
    refine hs_vret (by decide +kernel) ?_
    exact ⟨_, _, rfl, hH, hX, rfl, hJ⟩
end ZQB
end
section
section ZRA
variable {K : et_K} {G : eg_G} {se tA tR tS td be sy e ca ki kn s0 la ly nc k m d d2 : Nat} {v : evT} {X : Nat → Int32} {Y : Nat → Nat}
theorem fd_leastOf (hH : et_H et_TT K G) (t : seT K se tA tR tS td be sy) (t9 : evK K e ca ki kn v.1 v.2.2.1) (k_s0 : K s0 = some 10) (k_la : K la = some 17) (k_ly : K ly = some 27) (hsR : seR G se tA tR tS td be sy) (hv : evc G e ca ki kn v) (g2 : et_pl (eg_at G s0) 2 = some (.int (Int32.ofNat nc))) (hcc : ccP G s0 la ly nc X Y) (hnc : nc ≤ 20) (hk : k ≤ 3) (hd : 13 ≤ d2) : et_go none d2 90 0 (eg_en (eg_mL 90) [.ref se, .ref e, .ref s0, .int (Int32.ofNat k)]) [] G 0 0 (xw_Z (fun b j => (b = se ∧ ((4 ≤ j ∧ j ≤ 9) ∨ (13 ≤ j ∧ j ≤ 16 ∧ ¬ j = 14))) ∨ K b = some 45 ∨ b = td ∨ b = be ∨ b = sy) K G (fun g v9 => v9 = none ∧ lsJ false se be v.1 k (fun c w => (coV v.2.1 v.2.2.1 (pxL X (prL Y nc nc)) c w).toInt) (pxL X (prL Y nc nc)).length ((2 * k + 1) ^ v.1) g)) := by
  obtain ⟨d, rfl⟩ : ∃ d, d2 = d + 13 := ⟨d2 - 13, by omega⟩
  rw [show eg_mL 90 = 4 from by decide +kernel]
  show et_go none (d + 13) 90 0 [some (.ref se), some (.ref e), some (.ref s0), some (.int (Int32.ofNat k))] [] G 0 0 _
  have k_se := t.1.1
  have k_tA := t.1.2.1
  have k_tR := t.1.2.2.1
  have k_tS := t.1.2.2.2.1
  have k_td := t.1.2.2.2.2.1
  have k_be := t.1.2.2.2.2.2.1
  have k_sy := t.1.2.2.2.2.2.2
  have hw6 := t9.2.1
  have hW := hw6
  have lt_se := (hH.2.2 _ _ k_se).1
  have hlen : (pxL X (prL Y nc nc)).length ≤ 100 := by rw [pxL_n]; exact prL_le (by omega)
  refine hs_aload (i := 0) (p := 1) (by decide +kernel) rfl ?_
  refine hs_aload (i := 1) (p := 2) (by decide +kernel) rfl ?_
  refine hs_aload (i := 2) (p := 3) (by decide +kernel) rfl ?_
  refine hs_aload (i := 2) (p := 4) (by decide +kernel) rfl ?_
  refine hf_get (T := et_TT) (t := 10) (ci := 8) (f := 2) (p := 7) (by decide +kernel) rfl hH k_s0 g2 ?_
  refine hs_iload (i := 3) (p := 8) (by decide +kernel) rfl ?_
  refine ht_callv (T := et_TT) (t := 9) (mi := 91) (na := 4) (ci := 7) (lk := 4) (lm := 7) (L0 := eg_en (eg_mL 91) [.ref se, .ref e, .ref s0, .int (Int32.ofNat nc), .int (Int32.ofNat k)]) (by decide +kernel) rfl hH k_se rfl rfl rfl rfl rfl (by rw [show eg_mL 91 = 7 from by decide +kernel]; first | done | rfl) ?_
  refine (fd_begin (m := nc) hH t t9 k_s0 k_la k_ly hsR hv g2 hcc hnc (Nat.le_refl nc) hk (by omega)).mono (fun u9 hu9 => xw_cb hu9 (fun G2 v2 hH x2 hP2 => ?_))
  obtain ⟨rfl, hbg, ⟨q4, q5, q8, q9, q13, q15, q16⟩, hco⟩ := hP2
  have hsR := hbg.1
  have hv := hbg.2.1
  have g2 := hbg.2.2.1
  have hcc := hbg.2.2.2.1
  have q6 := hbg.2.2.2.2.1
  have q7 := hbg.2.2.2.2.2
  have hX : xf (fun b j => (b = se ∧ ((4 ≤ j ∧ j ≤ 9) ∨ (13 ≤ j ∧ j ≤ 16 ∧ ¬ j = 14))) ∨ K b = some 45 ∨ b = td ∨ b = be ∨ b = sy) G G2 := x2.wk (fun b j _ h => by
    rcases h with ⟨h1, h2⟩ | ⟨h1, h2⟩ | ⟨h1, h2⟩
    · exact .inl ⟨h1, .inl h2⟩
    · exact .inl ⟨h1, .inr h2⟩
    · exact .inr (.inl (t.a45 h1 h2)))
  have lt_se := Nat.lt_of_lt_of_le lt_se x2.1
  show et_go none _ 90 11 _ [] _ _ _ _
  refine hs_aload (i := 0) (p := 12) (by decide +kernel) rfl ?_
  refine ht_callv (T := et_TT) (t := 9) (mi := 93) (na := 0) (ci := 7) (lk := 4) (lm := 4) (L0 := eg_en (eg_mL 93) [.ref se]) (by decide +kernel) rfl hH k_se rfl rfl rfl rfl rfl (by rw [show eg_mL 93 = 4 from by decide +kernel]; first | done | rfl) ?_
  have hru : ruI G2 se tA tR tS td be sy (pxL X (prL Y nc nc)).length (pxL X (prL Y nc nc)).length v.1 k v.2.1 v.2.2.1 (pxL X (prL Y nc nc)) := ⟨hsR, ⟨q4, q5, q6, q7, q15⟩, hco⟩
  have hJ0 : lsJ false se be v.1 k (fun c w => (coV v.2.1 v.2.2.1 (pxL X (prL Y nc nc)) c w).toInt) (pxL X (prL Y nc nc)).length 0 G2 := ⟨⟨q8, q9⟩, q13, q15⟩
  refine (fd_run (J := lsJ false se be v.1 k (fun c w => (coV v.2.1 v.2.2.1 (pxL X (prL Y nc nc)) c w).toInt) (pxL X (prL Y nc nc)).length) t hW hk (by omega) (Nat.le_refl _) rfl (fun n G G' h h1 h2 => lsJ.f t h h1 h2) (fun n G h => lsJ.l hk hW h) (fun w p r c G h1 h2 h3 h4 => lsJ.c hk hW h1 h2 h3 h4) (fd_takeF t hW hk) hH hru hJ0 (by omega)).mono (fun u9 hu9 => xw_cb hu9 (fun G3 v3 hH x3 hP3 => ?_))
  obtain ⟨rfl, hJ⟩ := hP3
  have hX := hX.tr x3 (fun b j _ h => by
    rcases h with ⟨h1, h2⟩ | ⟨h1, h2⟩ | h1 | ⟨h1, h2⟩ | h1 | h1
    · exact .inr (.inl (t.rR h1 h2))
    · exact .inr (.inl (t.rS h1 h2))
    · exact .inr (.inr (.inl h1))
    · exact .inl ⟨h1, .inr (by omega)⟩
    · exact .inr (.inr (.inr (.inl h1)))
    · exact .inr (.inr (.inr (.inr h1))))
  show et_go none _ 90 15 _ [] _ _ _ _
  refine hs_vret (by decide +kernel) ?_
  exact ⟨_, _, rfl, hH, hX, rfl, hJ⟩
theorem fd_first (hH : et_H et_TT K G) (t : seT K se tA tR tS td be sy) (t9 : evK K e ca ki kn v.1 v.2.2.1) (k_s0 : K s0 = some 10) (k_la : K la = some 17) (k_ly : K ly = some 27) (hsR : seR G se tA tR tS td be sy) (hv : evc G e ca ki kn v) (g2 : et_pl (eg_at G s0) 2 = some (.int (Int32.ofNat nc))) (hcc : ccP G s0 la ly nc X Y) (hnc : nc ≤ 20) (hk : k ≤ 3) (hmn : m ≤ nc) (hd : 13 ≤ d2) : et_go none d2 98 0 (eg_en (eg_mL 98) [.ref se, .ref e, .ref s0, .int (Int32.ofNat m), .int (Int32.ofNat k)]) [] G 0 0 (xw_Z (fun b j => (b = se ∧ ((4 ≤ j ∧ j ≤ 9) ∨ (13 ≤ j ∧ j ≤ 16 ∧ ¬ j = 14))) ∨ K b = some 45 ∨ b = td ∨ b = be ∨ b = sy) K G (fun g v9 => v9 = none ∧ lsJ true se be v.1 k (fun c w => (coV v.2.1 v.2.2.1 (pxL X (prL Y m m)) c w).toInt) (pxL X (prL Y m m)).length ((2 * k + 1) ^ v.1) g)) := by
  obtain ⟨d, rfl⟩ : ∃ d, d2 = d + 13 := ⟨d2 - 13, by omega⟩
  rw [show eg_mL 98 = 5 from by decide +kernel]
  show et_go none (d + 13) 98 0 [some (.ref se), some (.ref e), some (.ref s0), some (.int (Int32.ofNat m)), some (.int (Int32.ofNat k))] [] G 0 0 _
  have k_se := t.1.1
  have k_tA := t.1.2.1
  have k_tR := t.1.2.2.1
  have k_tS := t.1.2.2.2.1
  have k_td := t.1.2.2.2.2.1
  have k_be := t.1.2.2.2.2.2.1
  have k_sy := t.1.2.2.2.2.2.2
  have hw6 := t9.2.1
  have hW := hw6
  have lt_se := (hH.2.2 _ _ k_se).1
  have hlen : (pxL X (prL Y m m)).length ≤ 100 := by rw [pxL_n]; exact prL_le (by omega)
  refine hs_aload (i := 0) (p := 1) (by decide +kernel) rfl ?_
  refine hs_aload (i := 1) (p := 2) (by decide +kernel) rfl ?_
  refine hs_aload (i := 2) (p := 3) (by decide +kernel) rfl ?_
  refine hs_iload (i := 3) (p := 4) (by decide +kernel) rfl ?_
  refine hs_iload (i := 4) (p := 6) (by decide +kernel) rfl ?_
  refine ht_callv (T := et_TT) (t := 9) (mi := 91) (na := 4) (ci := 7) (lk := 5) (lm := 7) (L0 := eg_en (eg_mL 91) [.ref se, .ref e, .ref s0, .int (Int32.ofNat m), .int (Int32.ofNat k)]) (by decide +kernel) rfl hH k_se rfl rfl rfl rfl rfl (by rw [show eg_mL 91 = 7 from by decide +kernel]; first | done | rfl) ?_
  refine (fd_begin (m := m) hH t t9 k_s0 k_la k_ly hsR hv g2 hcc hnc hmn hk (by omega)).mono (fun u9 hu9 => xw_cb hu9 (fun G2 v2 hH x2 hP2 => ?_))
  obtain ⟨rfl, hbg, ⟨q4, q5, q8, q9, q13, q15, q16⟩, hco⟩ := hP2
  have hsR := hbg.1
  have hv := hbg.2.1
  have g2 := hbg.2.2.1
  have hcc := hbg.2.2.2.1
  have q6 := hbg.2.2.2.2.1
  have q7 := hbg.2.2.2.2.2
  have hX : xf (fun b j => (b = se ∧ ((4 ≤ j ∧ j ≤ 9) ∨ (13 ≤ j ∧ j ≤ 16 ∧ ¬ j = 14))) ∨ K b = some 45 ∨ b = td ∨ b = be ∨ b = sy) G G2 := x2.wk (fun b j _ h => by
    rcases h with ⟨h1, h2⟩ | ⟨h1, h2⟩ | ⟨h1, h2⟩
    · exact .inl ⟨h1, .inl h2⟩
    · exact .inl ⟨h1, .inr h2⟩
    · exact .inr (.inl (t.a45 h1 h2)))
  have lt_se := Nat.lt_of_lt_of_le lt_se x2.1
  show et_go none _ 98 9 _ [] _ _ _ _
  refine hs_aload (i := 0) (p := 10) (by decide +kernel) rfl ?_
  refine hs_k (x := Int32.ofNat 1) (p := 11) (by decide +kernel) ?_
  have hHo := hH
  refine hf_put (T := et_TT) (t := 9) (ci := 7) (f := 8) (p := 14) (ty := .boolean) (by decide +kernel) rfl rfl rfl (by decide +kernel) rfl hH k_se (hi_nv (by omega) (by omega)) (fun G11 hH x11 e11 => ?_)
  have hbg := hbg.xs t t9 k_s0 k_la k_ly hHo x11 (fun b j t9 kb h => by rw [h.1, k_se] at kb; cases kb; exact .inr ⟨rfl, by have h := h.2; omega⟩)
  have hsR := hbg.1
  have hv := hbg.2.1
  have g2 := hbg.2.2.1
  have hcc := hbg.2.2.2.1
  have q6 := hbg.2.2.2.2.1
  have q7 := hbg.2.2.2.2.2
  have hco := hco.xs hw6 t hHo x11 (fun b j h h1 h2 => absurd (And.intro h1 h2) (by rw [h.1]; exact t.n9))
  have q4 := (x11.2 se 4 lt_se (fun h => absurd h.2 (by decide))).trans q4
  have q5 := (x11.2 se 5 lt_se (fun h => absurd h.2 (by decide))).trans q5
  have q9 := (x11.2 se 9 lt_se (fun h => absurd h.2 (by decide))).trans q9
  have q13 := (x11.2 se 13 lt_se (fun h => absurd h.2 (by decide))).trans q13
  have q15 := (x11.2 se 15 lt_se (fun h => absurd h.2 (by decide))).trans q15
  have hX := hX.tr x11 (fun b j _ h => .inl ⟨h.1, by have h := h.2; omega⟩)
  refine hs_aload (i := 0) (p := 15) (by decide +kernel) rfl ?_
  refine ht_callv (T := et_TT) (t := 9) (mi := 93) (na := 0) (ci := 7) (lk := 5) (lm := 4) (L0 := eg_en (eg_mL 93) [.ref se]) (by decide +kernel) rfl hH k_se rfl rfl rfl rfl rfl (by rw [show eg_mL 93 = 4 from by decide +kernel]; first | done | rfl) ?_
  have hru : ruI G11 se tA tR tS td be sy (pxL X (prL Y m m)).length (pxL X (prL Y m m)).length v.1 k v.2.1 v.2.2.1 (pxL X (prL Y m m)) := ⟨hsR, ⟨q4, q5, q6, q7, q15⟩, hco⟩
  have hJ0 : lsJ true se be v.1 k (fun c w => (coV v.2.1 v.2.2.1 (pxL X (prL Y m m)) c w).toInt) (pxL X (prL Y m m)).length 0 G11 := ⟨⟨e11, q9⟩, q13, q15⟩
  refine (fd_run (J := lsJ true se be v.1 k (fun c w => (coV v.2.1 v.2.2.1 (pxL X (prL Y m m)) c w).toInt) (pxL X (prL Y m m)).length) t hW hk (by omega) (Nat.le_refl _) rfl (fun n G G' h h1 h2 => lsJ.f t h h1 h2) (fun n G h => lsJ.l hk hW h) (fun w p r c G h1 h2 h3 h4 => lsJ.c hk hW h1 h2 h3 h4) (fd_takeT t hW hk) hH hru hJ0 (by omega)).mono (fun u9 hu9 => xw_cb hu9 (fun G3 v3 hH x3 hP3 => ?_))
  obtain ⟨rfl, hJ⟩ := hP3
  have hX := hX.tr x3 (fun b j _ h => by
    rcases h with ⟨h1, h2⟩ | ⟨h1, h2⟩ | h1 | ⟨h1, h2⟩ | h1 | h1
    · exact .inr (.inl (t.rR h1 h2))
    · exact .inr (.inl (t.rS h1 h2))
    · exact .inr (.inr (.inl h1))
    · exact .inl ⟨h1, .inr (by omega)⟩
    · exact .inr (.inr (.inr (.inl h1)))
    · exact .inr (.inr (.inr (.inr h1))))
  show et_go none _ 98 18 _ [] _ _ _ _
  refine hs_vret (by decide +kernel) ?_
  exact ⟨_, _, rfl, hH, hX, rfl, hJ⟩
end ZRA
end
section
/-! searches: both sides count the same -/
theorem mnI_t {a b : Int32} : (mnI a b).toInt = min a.toInt b.toInt := by
  unfold mnI
  by_cases h : b < a
  · rw [if_pos h]
    have h2 := Int32.lt_iff_toInt_lt.mp h
    omega
  · rw [if_neg h]
    have h2 : ¬ b.toInt < a.toInt := fun h3 => h (Int32.lt_iff_toInt_lt.mpr h3)
    omega
theorem mxI_t {a b : Int32} : (mxI a b).toInt = max a.toInt b.toInt := by
  unfold mxI
  by_cases h : a < b
  · rw [if_pos h]
    have h2 := Int32.lt_iff_toInt_lt.mp h
    omega
  · rw [if_neg h]
    have h2 : ¬ a.toInt < b.toInt := fun h3 => h (Int32.lt_iff_toInt_lt.mpr h3)
    omega
theorem lyI_t {S : Nat → Int32} {Y : Nat → Nat} : ∀ m, (lyI S Y m).toInt = lyF (fun c => (S c).toInt) Y m
  | 0 => rfl
  | m + 1 => by
    have ih := lyI_t (S := S) (Y := Y) m
    show (if Y m = 1 then mnI (lyI S Y m) (S m) else lyI S Y m).toInt = if Y m = 1 then min (lyF (fun c => (S c).toInt) Y m) (S m).toInt else lyF (fun c => (S c).toInt) Y m
    by_cases e : Y m = 1
    · rw [if_pos e, if_pos e, mnI_t, ih]
    · rw [if_neg e, if_neg e, ih]
theorem gnI_t {S : Nat → Int32} {Y : Nat → Nat} : ∀ m, (gnI S Y m).toInt = gnF (fun c => (S c).toInt) Y m
  | 0 => rfl
  | m + 1 => by
    have ih := gnI_t (S := S) (Y := Y) m
    show (if Y m = 1 then gnI S Y m else mxI (gnI S Y m) (S m)).toInt = if Y m = 1 then gnF (fun c => (S c).toInt) Y m else max (gnF (fun c => (S c).toInt) Y m) (S m).toInt
    by_cases e : Y m = 1
    · rw [if_pos e, if_pos e, ih]
    · rw [if_neg e, if_neg e, mxI_t, ih]
section ZSA
variable {k W n nc m i : Nat} {V : Nat → Int32} {VV : Nat → Nat → Int32} {X : Nat → Int32} {Y : Nat → Nat} {C : Nat → Int32} {Kd : Nat → Nat}
theorem trN_i (hk : k ≤ 3) (hW : W ≤ 6) (hV : ∀ u, -63 ≤ (V u).toInt ∧ (V u).toInt ≤ 63) : ∀ u, u ≤ W → (trN (kvT k W n) V u).toInt = paS k W n (fun w => (V w).toInt) u
  | 0, _ => rfl
  | u + 1, h => by
    have ih := trN_i hk hW hV u (by omega)
    have hd := kvD_lt (B := 2 * k + 1) (W := W) (n := n) (w := u) (by omega)
    have b1 := paS_b (W := W) (n := n) (a := fun w => (V w).toInt) hk (fun u _ => hV u) u (by omega)
    have b2 := hV u
    have b3 := zb_mul (x := ((kvD (2 * k + 1) W n u : Nat) : Int) - (k : Int)) (y := (V u).toInt) hk (by omega) (by omega) b2.1 b2.2
    have e0 := kd_i (k := k) hk hd
    have e1 : (kvT k W n u * V u).toInt = (((kvD (2 * k + 1) W n u : Nat) : Int) - (k : Int)) * (V u).toInt := by
      show ((Int32.ofNat (kvD (2 * k + 1) W n u) - Int32.ofNat k) * V u).toInt = _
      rw [et_mul _ _ (by rw [e0]; unfold et_mn; omega) (by rw [e0]; unfold et_mx; omega), e0]
    show (trN (kvT k W n) V u + kvT k W n u * V u).toInt = paS k W n (fun w => (V w).toInt) u + ((kvD (2 * k + 1) W n u : Nat) - (k : Int)) * (V u).toInt
    rw [et_add _ _ (by rw [ih, e1]; unfold et_mn; omega) (by rw [ih, e1]; unfold et_mx; omega), ih, e1]
theorem gdF_ge {g : Nat → Bool} {m : Nat} : ∀ n, m ≤ n → (m ≤ gdF g n ↔ ∀ j, 1 ≤ j → j ≤ m → g j = true)
  | 0, h => ⟨fun _ j h1 h2 => absurd h1 (by omega), fun _ => by omega⟩
  | n + 1, h => by
    have hle := gdF_le (g := g) n
    show m ≤ (if gdF g n = n ∧ g (n + 1) = true then n + 1 else gdF g n) ↔ _
    by_cases e : m = n + 1
    · have ih := gdF_ge (g := g) (m := n) n (Nat.le_refl n)
      constructor
      · intro h1 j hj1 hj2
        by_cases hc : gdF g n = n ∧ g (n + 1) = true
        · by_cases ej : j = n + 1
          · rw [ej]
            exact hc.2
          · exact ih.mp (by omega) j hj1 (by omega)
        · rw [if_neg hc] at h1
          omega
      · intro h1
        have h2 := ih.mpr (fun j a b => h1 j a (by omega))
        rw [if_pos ⟨by omega, h1 (n + 1) (by omega) (by omega)⟩]
        omega
    · have ih := gdF_ge (g := g) (m := m) n (by omega)
      by_cases hc : gdF g n = n ∧ g (n + 1) = true
      · rw [if_pos hc, ← ih, hc.1]
        omega
      · rw [if_neg hc]
        exact ih
/-- what a CARD is seen as -/
def siI (k W : Nat) (C : Nat → Int32) (Kd : Nat → Nat) (X : Nat → Int32) (i c : Nat) : Int := paS k W i (fun u => (vaI (C u) (Kd u) (X c)).toInt) W
theorem siI_b (hk : k ≤ 3) (hW : W ≤ 6) {c : Nat} : -1134 ≤ siI k W C Kd X i c ∧ siI k W C Kd X i c ≤ 1134 := by
  have h := paS_b (W := W) (n := i) (a := fun u => (vaI (C u) (Kd u) (X c)).toInt) hk (fun u _ => ⟨Int.le_trans (by decide) (vaI_i (c := C u) (kd := Kd u) (x := X c)).1, vaI_i.2⟩) W (Nat.le_refl W)
  have e : siI k W C Kd X i c = paS k W i (fun u => (vaI (C u) (Kd u) (X c)).toInt) W := rfl
  rw [e]
  omega
theorem snS_i (hk : k ≤ 3) (hW : W ≤ 6) {c : Nat} : (snS k W (fun c u => vaI (C u) (Kd u) (X c)) i c).toInt = siI k W C Kd X i c := trN_i hk hW (fun u => ⟨Int.le_trans (by decide) vaI_i.1, vaI_i.2⟩) W (Nat.le_refl W)
theorem gd_i (hk : k ≤ 3) (hW : W ≤ 6) : decide (gnI (snS k W (fun c u => vaI (C u) (Kd u) (X c)) i) Y m < lyI (snS k W (fun c u => vaI (C u) (Kd u) (X c)) i) Y m) = true ↔ ∀ h l, h < m → l < m → Y h = 1 → ¬ Y l = 1 → siI k W C Kd X i l < siI k W C Kd X i h := by
  rw [decide_eq_true_iff, Int32.lt_iff_toInt_lt, gnI_t, lyI_t, ga_i (fun c _ => by
    have h := siI_b (i := i) (C := C) (Kd := Kd) (X := X) (c := c) hk hW
    show -1000000 < (snS k W (fun c u => vaI (C u) (Kd u) (X c)) i c).toInt ∧ (snS k W (fun c u => vaI (C u) (Kd u) (X c)) i c).toInt < 1000000
    rw [snS_i hk hW]
    omega)]
  constructor
  · intro q h l a b c d
    have h9 := q h l a b c d
    have h9 : (snS k W (fun c u => vaI (C u) (Kd u) (X c)) i l).toInt < (snS k W (fun c u => vaI (C u) (Kd u) (X c)) i h).toInt := h9
    rw [snS_i hk hW, snS_i hk hW] at h9
    exact h9
  · intro q h l a b c d
    have h9 := q h l a b c d
    show (snS k W (fun c u => vaI (C u) (Kd u) (X c)) i l).toInt < (snS k W (fun c u => vaI (C u) (Kd u) (X c)) i h).toInt
    rw [snS_i hk hW, snS_i hk hW]
    exact h9
theorem rsG_i (hk : k ≤ 3) (hW : W ≤ 6) (hm : m ≤ nc) : m ≤ rsG k W nc (fun c u => vaI (C u) (Kd u) (X c)) Y i ↔ ∀ h l, h < m → l < m → Y h = 1 → ¬ Y l = 1 → siI k W C Kd X i l < siI k W C Kd X i h := by
  unfold rsG
  rw [gdF_ge nc hm]
  constructor
  · intro q
    by_cases e : m = 0
    · intro h l a
      omega
    · exact (gd_i hk hW).mp (q m (by omega) (Nat.le_refl m))
  · intro q j h1 h2
    exact (gd_i hk hW).mpr (fun h l a b => q h l (by omega) (by omega))
/-- the class's columns tell the same -/
theorem ok_px (hk : k ≤ 3) (hW : W ≤ 6) : okP k W (fun c w => (coV C Kd (pxL X (prL Y m m)) c w).toInt) (pxL X (prL Y m m)).length i = true ↔ ∀ h l, h < m → l < m → Y h = 1 → ¬ Y l = 1 → siI k W C Kd X i l < siI k W C Kd X i h := by
  refine Iff.trans ?_ (okP_pr (k := k) (W := W) (n := i) (m := m) (Y := Y) (V := fun w c => (vaI (C w) (Kd w) (X c)).toInt))
  rw [okP_i, okP_i, pxL_n]
  have e : ∀ c, c < (prL Y m m).length → (fun w => (coV C Kd (pxL X (prL Y m m)) c w).toInt) = coA (fun w c => (vaI (C w) (Kd w) (X c)).toInt) (prL Y m m) c := fun c hc => by
    funext w
    have h9 := (coV_i (C := C) (Kd := Kd) (L := pxL X (prL Y m m)) (c := c) (w := w)).1
    rw [h9]
    have h8 : (pxL X (prL Y m m)).getD c (0, 0) = (X ((prL Y m m).getD c (0, 0)).1, X ((prL Y m m).getD c (0, 0)).2) := by
      unfold pxL
      rw [List.getD_eq_getElem?_getD, List.getD_eq_getElem?_getD, List.getElem?_map, List.getElem?_eq_getElem hc]
      rfl
    rw [h8]
    rfl
  constructor
  · intro q c hc
    rw [← e c hc]
    exact q c hc
  · intro q c hc
    have h9 := q c hc
    rw [← e c hc] at h9
    exact h9
theorem foF_co {ok ok' : Nat → Bool} {sm sm' : Nat → Nat} (h1 : ∀ n, ok n = ok' n) (h2 : ∀ n, sm n = sm' n) (n : Nat) : foF ok sm n = foF ok' sm' n := by
  rw [show ok = ok' from funext h1, show sm = sm' from funext h2]
theorem b_iff {a b : Bool} (h : a = true ↔ b = true) : a = b := by
  cases a <;> cases b
  · rfl
  · exact absurd (h.mpr rfl) (by decide)
  · exact absurd (h.mp rfl) (by decide)
  · rfl
/-- FOUND -/
theorem fo_same (hk : k ≤ 3) (hW : W ≤ 6) : foT false k W (fun c w => (coV C Kd (pxL X (prL Y nc nc)) c w).toInt) (pxL X (prL Y nc nc)).length n = rsF k W nc (fun c u => vaI (C u) (Kd u) (X c)) Y n := by
  refine foF_co (fun i => b_iff ?_) (fun i => rfl) n
  rw [ok_px hk hW, decide_eq_true_iff]
  have h := rsG_i (k := k) (W := W) (nc := nc) (m := nc) (C := C) (Kd := Kd) (X := X) (Y := Y) (i := i) hk hW (Nat.le_refl nc)
  have h2 : rsG k W nc (fun c u => vaI (C u) (Kd u) (X c)) Y i ≤ nc := gdF_le nc
  rw [← h]
  omega
/-- whether there are any for the first m CARDS -/
theorem br_same (hk : k ≤ 3) (hW : W ≤ 6) (hm : m ≤ nc) (hn : 0 < n) : (¬ foT true k W (fun c w => (coV C Kd (pxL X (prL Y m m)) c w).toInt) (pxL X (prL Y m m)).length n = none) ↔ m ≤ lgF (rsG k W nc (fun c u => vaI (C u) (Kd u) (X c)) Y) n := by
  have h0 : foT true k W (fun c w => (coV C Kd (pxL X (prL Y m m)) c w).toInt) (pxL X (prL Y m m)).length n = none ↔ ∀ i, i < n → ¬ okP k W (fun c w => (coV C Kd (pxL X (prL Y m m)) c w).toInt) (pxL X (prL Y m m)).length i = true := foF_any n
  rw [h0, lgF_i]
  constructor
  · intro h
    refine Classical.byContradiction (fun h2 => h (fun i hi ho => h2 (.inr ⟨i, hi, (rsG_i hk hW hm).mpr ((ok_px hk hW).mp ho)⟩)))
  · rintro (h | ⟨i, hi, h2⟩)
    · exact fun q => q 0 hn ((ok_px hk hW).mpr (fun a b h1 => by omega))
    · exact fun q => q i hi ((ok_px hk hW).mpr ((rsG_i hk hW hm).mp h2))
end ZSA
end
