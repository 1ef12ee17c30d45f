/-! PHASE D: swapped, soonest: the class's EYES stay, but for the spare one -/
/-- no EYE changes but the spare one sp, with its arrays pa, pi, pn -/
def hol (K : et_K) (sp pa pi pn : Nat) (G G' : eg_G) : Prop := (∀ x j, K x = some 3 → (x = sp → 1 ≤ j ∧ j ≤ 3) → et_pl (eg_at G' x) j = et_pl (eg_at G x) j) ∧ ∀ x j, K x = some 15 → ¬ x = pa → ¬ x = pi → ¬ x = pn → et_pl (eg_at G' x) j = et_pl (eg_at G x) j
def so_k (M : et_M) : Bool := no_t M 3 && (no_t M 15 && tu_k M)
theorem ey_3 {j : Nat} (h : j ≤ 7) : et_mm ey_M 3 j = true := by
  unfold et_mm ey_M
  simp
  omega
theorem ey_4 {j : Nat} (h : j ≤ 30) : et_mm ey_M 4 j = true := by
  unfold et_mm ey_M
  simp
  omega
theorem ey_15 {j : Nat} (h : j ≤ 100000) : et_mm ey_M 15 j = true := by
  unfold et_mm ey_M
  simp
  omega
def swp (C : Nat → Int32) (m k : Nat) : Nat → Int32 := kup (kup C m (C k)) k (C m)
def kun (D : Nat → Nat) (m z : Nat) : Nat → Nat := fun k => if k = m then z else D k
section VTA
variable {S : Nat → Nat → Prop} {M : et_M} {K K0 K1 K' : et_K} {G G0 G1 G2 G' : eg_G} {sp pa pi pn e ca ki kn w m tn z9 : Nat} {C N : Nat → Int32} {Kd : Nat → Nat} {l s t f z : Int32} {v : evT} {ls : List sp_L}
theorem hol.rf : hol K sp pa pi pn G G := ⟨fun _ _ _ _ => rfl, fun _ _ _ _ _ _ => rfl⟩
theorem hol.tr (h : hol K sp pa pi pn G G1) (hx : et_ex K K1) (h2 : hol K1 sp pa pi pn G1 G2) : hol K sp pa pi pn G G2 := ⟨fun x j k n => (h2.1 x j (hx _ _ k) n).trans (h.1 x j k n), fun x j k n1 n2 n3 => (h2.2 x j (hx _ _ k) n1 n2 n3).trans (h.2 x j k n1 n2 n3)⟩
theorem hol.fr (h : hol K sp pa pi pn G G1) (hx : et_ex K K1) (hf : et_fr M K1 G1 G2) (h3 : no_t M 3 = true) (h15 : no_t M 15 = true) : hol K sp pa pi pn G G2 := ⟨fun x j k n => (hf.2 x 3 (hx _ _ k) j (no_mm h3)).trans (h.1 x j k n), fun x j k n1 n2 n3 => (hf.2 x 15 (hx _ _ k) j (no_mm h15)).trans (h.2 x j k n1 n2 n3)⟩
theorem hol.xs (h : hol K sp pa pi pn G G1) (hx : et_ex K K1) (hH : et_H et_TT K1 G1) (x : xf S G1 G2) (hS : ∀ b j, S b j → (b = sp ∧ (j = 0 ∨ 4 ≤ j)) ∨ b = pa ∨ b = pi ∨ b = pn ∨ (¬ K1 b = some 3 ∧ ¬ K1 b = some 15)) (k1 : K1 sp = some 3) (k2 : K1 pa = some 15) (k3 : K1 pi = some 15) (k4 : K1 pn = some 15) : hol K sp pa pi pn G G2 := by
  refine ⟨fun a j ka ha => (x.2 a j (hH.2.2 _ _ (hx _ _ ka)).1 (fun hs => ?_)).trans (h.1 a j ka ha), fun a j ka n1 n2 n3 => (x.2 a j (hH.2.2 _ _ (hx _ _ ka)).1 (fun hs => ?_)).trans (h.2 a j ka n1 n2 n3)⟩
  · rcases hS _ _ hs with ⟨e1, q⟩ | e1 | e1 | e1 | ⟨q, -⟩
    · have := ha e1
      omega
    · exact hi_ne (hx _ _ ka) k2 (by decide) e1
    · exact hi_ne (hx _ _ ka) k3 (by decide) e1
    · exact hi_ne (hx _ _ ka) k4 (by decide) e1
    · exact q (hx _ _ ka)
  · rcases hS _ _ hs with ⟨e1, q⟩ | e1 | e1 | e1 | ⟨-, q⟩
    · exact hi_ne (hx _ _ ka) k1 (by decide) e1
    · exact n1 e1
    · exact n2 e1
    · exact n3 e1
    · exact q (hx _ _ ka)
theorem evK.ex {Kd : Nat → Nat} (h : evK K e ca ki kn w Kd) (hx : et_ex K K') : evK K' e ca ki kn w Kd := ⟨⟨hx _ _ h.1.1, hx _ _ h.1.2.1, hx _ _ h.1.2.2.1, hx _ _ h.1.2.2.2⟩, h.2⟩
theorem evC.fr (h : evC G e ca ki kn w C Kd N l s t f) (t9 : evK K e ca ki kn w Kd) (hf : et_fr M K G G') (h3 : no_t M 3 = true) (h15 : no_t M 15 = true) : evC G' e ca ki kn w C Kd N l s t f := h.at (fun j _ => hf.2 _ 3 t9.1.1 j (no_mm h3)) (fun m hm => (hf.2 _ 15 t9.1.2.2.2 m (no_mm h15)).trans (h.2.1 m hm)) (fun m => hf.2 _ 15 t9.1.2.1 m (no_mm h15)) (fun m => hf.2 _ 15 t9.1.2.2.1 m (no_mm h15)) ((hf.2 _ 3 t9.1.1 4 (no_mm h3)).trans h.2.2.2.1) ((hf.2 _ 3 t9.1.1 5 (no_mm h3)).trans h.2.2.2.2.1) ((hf.2 _ 3 t9.1.1 6 (no_mm h3)).trans h.2.2.2.2.2.1) ((hf.2 _ 3 t9.1.1 7 (no_mm h3)).trans h.2.2.2.2.2.2)
/-- a WIRE's CELLS -/
theorem evC.cp (h : evC G e ca ki kn w C Kd N l s t f) (t9 : K e = some 3 ∧ K ca = some 15 ∧ K ki = some 15 ∧ K kn = some 15) (h1 : ¬ kn = ca) (h2 : ¬ ca = ki) (hH : et_H et_TT K G) (x : xf (fun b j => b = ca ∧ j = m) G G') (v : et_pl (eg_at G' ca) m = some (.int z)) : evC G' e ca ki kn w (kup C m z) Kd N l s t f := by
  have lt : ∀ a t, K a = some t → a < G.2 := fun a t ha => (hH.2.2 a t ha).1
  obtain ⟨k1, k2, k3, k4⟩ := t9
  obtain ⟨⟨p0, p1, p2, p3⟩, pN, pC, p4, p5, p6, p7⟩ := h
  have ge : ∀ j, et_pl (eg_at G' e) j = et_pl (eg_at G e) j := fun j => x.2 e j (lt _ _ k1) (fun hs => hi_ne k1 k2 (by decide) hs.1)
  refine ⟨⟨(ge 0).trans p0, (ge 1).trans p1, (ge 2).trans p2, (ge 3).trans p3⟩, fun q hq => (x.2 kn q (lt _ _ k4) (fun hs => h1 hs.1)).trans (pN q hq), fun q hq => ⟨?_, (x.2 ki q (lt _ _ k3) (fun hs => h2 hs.1.symm)).trans (pC q hq).2⟩, (ge 4).trans p4, (ge 5).trans p5, (ge 6).trans p6, (ge 7).trans p7⟩
  unfold kup
  by_cases ek : q = m
  · rw [if_pos ek, ek]
    exact v
  · rw [if_neg ek]
    exact (x.2 ca q (lt _ _ k2) (fun hs => ek hs.2)).trans (pC q hq).1
/-- a WIRE's kind -/
theorem evC.dp (h : evC G e ca ki kn w C Kd N l s t f) (t9 : K e = some 3 ∧ K ca = some 15 ∧ K ki = some 15 ∧ K kn = some 15) (h1 : ¬ kn = ki) (h2 : ¬ ca = ki) (hH : et_H et_TT K G) (x : xf (fun b j => b = ki ∧ j = m) G G') (v : et_pl (eg_at G' ki) m = some (.int (Int32.ofNat z9))) : evC G' e ca ki kn w C (kun Kd m z9) N l s t f := by
  have lt : ∀ a t, K a = some t → a < G.2 := fun a t ha => (hH.2.2 a t ha).1
  obtain ⟨k1, k2, k3, k4⟩ := t9
  obtain ⟨⟨p0, p1, p2, p3⟩, pN, pC, p4, p5, p6, p7⟩ := h
  have ge : ∀ j, et_pl (eg_at G' e) j = et_pl (eg_at G e) j := fun j => x.2 e j (lt _ _ k1) (fun hs => hi_ne k1 k3 (by decide) hs.1)
  refine ⟨⟨(ge 0).trans p0, (ge 1).trans p1, (ge 2).trans p2, (ge 3).trans p3⟩, fun q hq => (x.2 kn q (lt _ _ k4) (fun hs => h1 hs.1)).trans (pN q hq), fun q hq => ⟨(x.2 ca q (lt _ _ k2) (fun hs => h2 hs.1)).trans (pC q hq).1, ?_⟩, (ge 4).trans p4, (ge 5).trans p5, (ge 6).trans p6, (ge 7).trans p7⟩
  unfold kun
  by_cases ek : q = m
  · rw [if_pos ek, ek]
    exact v
  · rw [if_neg ek]
    exact (x.2 ki q (lt _ _ k3) (fun hs => ek hs.2)).trans (pC q hq).2
/-- while soonest tries an order -/
def soI (K0 : et_K) (G0 : eg_G) (sp pa pi pn : Nat) (v : evT) (tn : Nat) (ls : List sp_L) (K : et_K) (G : eg_G) : Prop := hol K0 sp pa pi pn G0 G ∧ evK K sp pa pi pn v.1 v.2.2.1 ∧ (∃ (N : Nat → Int32) (l s : Int32), evC G sp pa pi pn v.1 v.2.1 v.2.2.1 N l s v.2.2.2.2.2.2.1 v.2.2.2.2.2.2.2) ∧ tuC K G tn ls
theorem soI.fr (h : soI K0 G0 sp pa pi pn v tn ls K G) (hx0 : et_ex K0 K) (hx : et_ex K K') (hH : et_H et_TT K G) (hf : et_fr M K G G') (hk : so_k M = true) : soI K0 G0 sp pa pi pn v tn ls K' G' := by
  unfold so_k at hk
  rw [Bool.and_eq_true, Bool.and_eq_true] at hk
  obtain ⟨q1, q2, q3⟩ := hk
  obtain ⟨h1, h2, ⟨N, l, s, h3⟩, h4⟩ := h
  exact ⟨h1.fr hx0 hf q1 q2, h2.ex hx, ⟨N, l, s, h3.fr h2 hf q1 q2⟩, h4.fr hx hH hf q3⟩
/-- between two orders -/
def soJ (K0 : et_K) (G0 : eg_G) (sp pa pi pn e ca ki kn : Nat) (v : evT) (tn : Nat) (ls : List sp_L) (K : et_K) (G : eg_G) : Prop := hol K0 sp pa pi pn G0 G ∧ (evK K e ca ki kn v.1 v.2.2.1 ∧ evK K sp pa pi pn v.1 v.2.2.1) ∧ evc G e ca ki kn v ∧ (et_pl (eg_at G sp) 1 = some (.ref pa) ∧ et_pl (eg_at G sp) 2 = some (.ref pi) ∧ et_pl (eg_at G sp) 3 = some (.ref pn)) ∧ tuC K G tn ls
theorem soJ.fr (h : soJ K0 G0 sp pa pi pn e ca ki kn v tn ls K G) (hx0 : et_ex K0 K) (hx : et_ex K K') (hH : et_H et_TT K G) (hf : et_fr M K G G') (hk : so_k M = true) : soJ K0 G0 sp pa pi pn e ca ki kn v tn ls K' G' := by
  unfold so_k at hk
  rw [Bool.and_eq_true, Bool.and_eq_true] at hk
  obtain ⟨q1, q2, q3⟩ := hk
  obtain ⟨h1, ⟨h2, h3⟩, h4, ⟨b1, b2, b3⟩, h5⟩ := h
  have g : ∀ j, et_pl (eg_at G' sp) j = et_pl (eg_at G sp) j := fun j => hf.2 _ 3 h3.1.1 j (no_mm q1)
  exact ⟨h1.fr hx0 hf q1 q2, ⟨h2.ex hx, h3.ex hx⟩, evC.fr h4 h2 hf q1 q2, ⟨(g 1).trans b1, (g 2).trans b2, (g 3).trans b3⟩, h5.fr hx hH hf q3⟩
theorem soJ.ho (h : soJ K0 G0 sp pa pi pn e ca ki kn v tn ls K G) (hx0 : et_ex K0 K) (hx : et_ex K K') (hH : et_H et_TT K G) (hh : hol K sp pa pi pn G G') (hf : et_fr M K G G') (hk : tu_k M = true) (hse : ¬ sp = e) (hq : ∀ p c, p ∈ [pa, pi, pn] → c ∈ [ca, ki, kn] → ¬ p = c) : soJ K0 G0 sp pa pi pn e ca ki kn v tn ls K' G' := by
  obtain ⟨h1, ⟨h2, h3⟩, h4, ⟨b1, b2, b3⟩, h5⟩ := h
  have g : ∀ j, 1 ≤ j → j ≤ 3 → et_pl (eg_at G' sp) j = et_pl (eg_at G sp) j := fun j j1 j2 => hh.1 sp j h3.1.1 (fun _ => ⟨j1, j2⟩)
  have ga : ∀ c, c ∈ [ca, ki, kn] → K c = some 15 → ∀ j, et_pl (eg_at G' c) j = et_pl (eg_at G c) j := fun c hc kc j => hh.2 c j kc (fun q => hq pa c (by simp) hc q.symm) (fun q => hq pi c (by simp) hc q.symm) (fun q => hq pn c (by simp) hc q.symm)
  exact ⟨h1.tr hx0 hh, ⟨h2.ex hx, h3.ex hx⟩, evc.mv h4 (fun j => hh.1 e j h2.1.1 (fun q => absurd q.symm hse)) (ga ca (by simp) h2.1.2.1) (ga ki (by simp) h2.1.2.2.1) (ga kn (by simp) h2.1.2.2.2), ⟨(g 1 (by decide) (by decide)).trans b1, (g 2 (by decide) (by decide)).trans b2, (g 3 (by decide) (by decide)).trans b3⟩, h5.fr hx hH hf hk⟩
end VTA
section VTB
variable {K : et_K} {G : eg_G} {d2 e ca ki kn w m k : Nat} {C N : Nat → Int32} {Kd : Nat → Nat} {l s t f : Int32} {Z : eg_O → Prop}
theorem fd_swap (hH : et_H et_TT K G) (t9 : evK K e ca ki kn w Kd) (hd9 : ¬ kn = ca ∧ ¬ kn = ki) (hck : ¬ ca = ki) (hv : evC G e ca ki kn w C Kd N l s t f) (hm : m < w) (hk : k < w) (h : ∀ G', et_H et_TT K G' → xf (fun b j => (b = ca ∧ (0 ≤ j ∧ j ≤ 5)) ∨ (b = ki ∧ (0 ≤ j ∧ j ≤ 5))) G G' → evC G' e ca ki kn w (swp C m k) (kun (kun Kd m (Kd k)) k (Kd m)) N l s t f → Z (.inl none, G', 0, 0)) : et_go none d2 50 0 (eg_en (eg_mL 50) [.ref e, .int (Int32.ofNat m), .int (Int32.ofNat k)]) [] G 0 0 Z := by
  have k_e := t9.1.1
  have k_ca := t9.1.2.1
  have k_ki := t9.1.2.2.1
  have k_kn := t9.1.2.2.2
  have hw6 := t9.2.1
  rw [show eg_mL 50 = 5 from by decide +kernel]
  show et_go none d2 50 0 [some (.ref e), some (.int (Int32.ofNat m)), some (.int (Int32.ofNat k)), none, none] [] G 0 0 _
  have lt_e := (hH.2.2 _ _ k_e).1
  have lt_ca := (hH.2.2 _ _ k_ca).1
  have lt_ki := (hH.2.2 _ _ k_ki).1
  have lt_kn := (hH.2.2 _ _ k_kn).1
  have hX : xf (fun b j => (b = ca ∧ (0 ≤ j ∧ j ≤ 5)) ∨ (b = ki ∧ (0 ≤ j ∧ j ≤ 5))) G G := xf.rf
  refine hs_iload (i := 1) (p := 1) (by decide +kernel) rfl ?_
  refine hs_if0 (c := .lt) (t := 24) (f := 4) (by decide +kernel) (rs_nn (by omega)) ?_
  refine hs_iload (i := 1) (p := 5) (by decide +kernel) rfl ?_
  refine hs_aload (i := 0) (p := 6) (by decide +kernel) rfl ?_
  refine hf_get (T := et_TT) (t := 3) (ci := 1) (f := 0) (p := 9) (by decide +kernel) rfl hH k_e hv.1.1 ?_
  refine hs_br2n (c := .ge) (t := 24) (f := 12) (by decide +kernel) (by omega) (by omega) (fun (c9 : w ≤ m) => ?_) (fun (c9 : ¬ (w ≤ m)) => ?_)
  · exact absurd hm (Nat.not_lt.mpr c9)
  · refine hs_iload (i := 2) (p := 13) (by decide +kernel) rfl ?_
    refine hs_if0 (c := .lt) (t := 24) (f := 16) (by decide +kernel) (rs_nn (by omega)) ?_
    refine hs_iload (i := 2) (p := 17) (by decide +kernel) rfl ?_
    refine hs_aload (i := 0) (p := 18) (by decide +kernel) rfl ?_
    refine hf_get (T := et_TT) (t := 3) (ci := 1) (f := 0) (p := 21) (by decide +kernel) rfl hH k_e hv.1.1 ?_
    refine hs_br2n (c := .lt) (t := 25) (f := 24) (by decide +kernel) (by omega) (by omega) (fun (c21 : k < w) => ?_) (fun (c21 : ¬ (k < w)) => ?_)
    · refine hs_aload (i := 0) (p := 26) (by decide +kernel) rfl ?_
      refine hf_get (T := et_TT) (t := 3) (ci := 1) (f := 1) (p := 29) (by decide +kernel) rfl hH k_e hv.1.2.1 ?_
      refine hs_iload (i := 1) (p := 30) (by decide +kernel) rfl ?_
      refine hf_ald (ins := .iaload) (T := et_TT) (t := 15) (kd := 0) (N := 6) (p := 31) (by decide +kernel) (fun _ _ _ _ _ _ _ _ _ _ => rfl) rfl rfl rfl hH k_ca (by decide) (hv.2.2.1 _ (by omega)).1 ?_
      refine hs_istore (i := 3) (p := 32) (by decide +kernel) (Nat.le_of_ble_eq_true rfl) ?_
      refine hs_aload (i := 0) (p := 33) (by decide +kernel) rfl ?_
      refine hf_get (T := et_TT) (t := 3) (ci := 1) (f := 2) (p := 36) (by decide +kernel) rfl hH k_e hv.1.2.2.1 ?_
      refine hs_iload (i := 1) (p := 37) (by decide +kernel) rfl ?_
      refine hf_ald (ins := .iaload) (T := et_TT) (t := 15) (kd := 0) (N := 6) (p := 38) (by decide +kernel) (fun _ _ _ _ _ _ _ _ _ _ => rfl) rfl rfl rfl hH k_ki (by decide) (hv.2.2.1 _ (by omega)).2 ?_
      refine hs_istore (i := 4) (p := 40) (by decide +kernel) (Nat.le_of_ble_eq_true rfl) ?_
      refine hs_aload (i := 0) (p := 41) (by decide +kernel) rfl ?_
      refine hf_get (T := et_TT) (t := 3) (ci := 1) (f := 1) (p := 44) (by decide +kernel) rfl hH k_e hv.1.2.1 ?_
      refine hs_iload (i := 1) (p := 45) (by decide +kernel) rfl ?_
      refine hs_aload (i := 0) (p := 46) (by decide +kernel) rfl ?_
      refine hf_get (T := et_TT) (t := 3) (ci := 1) (f := 1) (p := 49) (by decide +kernel) rfl hH k_e hv.1.2.1 ?_
      refine hs_iload (i := 2) (p := 50) (by decide +kernel) rfl ?_
      refine hf_ald (ins := .iaload) (T := et_TT) (t := 15) (kd := 0) (N := 6) (p := 51) (by decide +kernel) (fun _ _ _ _ _ _ _ _ _ _ => rfl) rfl rfl rfl hH k_ca (by decide) (hv.2.2.1 _ (by omega)).1 ?_
      have hHo := hH
      refine hf_ist (T := et_TT) (t := 15) (N := 6) (p := 52) (by decide +kernel) rfl rfl (by decide) hH k_ca (by omega) (by decide) (fun s hs => absurd hs List.not_mem_nil) (fun G51 hH x51 e51 => ?_)
      have hv := hv.cp t9.1 hd9.1 hck hHo x51 e51
      have lt_e := Nat.lt_of_lt_of_le lt_e x51.1
      have lt_ca := Nat.lt_of_lt_of_le lt_ca x51.1
      have lt_ki := Nat.lt_of_lt_of_le lt_ki x51.1
      have lt_kn := Nat.lt_of_lt_of_le lt_kn x51.1
      have hX := hX.tr x51 (fun b j hb h => by first | omega | (dsimp only at h ⊢; omega) | (dsimp only at h; omega) | (dsimp only; omega))
      refine hs_aload (i := 0) (p := 53) (by decide +kernel) rfl ?_
      refine hf_get (T := et_TT) (t := 3) (ci := 1) (f := 2) (p := 56) (by decide +kernel) rfl hH k_e hv.1.2.2.1 ?_
      refine hs_iload (i := 1) (p := 57) (by decide +kernel) rfl ?_
      refine hs_aload (i := 0) (p := 58) (by decide +kernel) rfl ?_
      refine hf_get (T := et_TT) (t := 3) (ci := 1) (f := 2) (p := 61) (by decide +kernel) rfl hH k_e hv.1.2.2.1 ?_
      refine hs_iload (i := 2) (p := 62) (by decide +kernel) rfl ?_
      refine hf_ald (ins := .iaload) (T := et_TT) (t := 15) (kd := 0) (N := 6) (p := 63) (by decide +kernel) (fun _ _ _ _ _ _ _ _ _ _ => rfl) rfl rfl rfl hH k_ki (by decide) (hv.2.2.1 _ (by omega)).2 ?_
      have hHo := hH
      refine hf_ist (T := et_TT) (t := 15) (N := 6) (p := 64) (by decide +kernel) rfl rfl (by decide) hH k_ki (by omega) (by decide) (fun s hs => absurd hs List.not_mem_nil) (fun G63 hH x63 e63 => ?_)
      have hv := hv.dp t9.1 hd9.2 hck hHo x63 e63
      have lt_e := Nat.lt_of_lt_of_le lt_e x63.1
      have lt_ca := Nat.lt_of_lt_of_le lt_ca x63.1
      have lt_ki := Nat.lt_of_lt_of_le lt_ki x63.1
      have lt_kn := Nat.lt_of_lt_of_le lt_kn x63.1
      have hX := hX.tr x63 (fun b j hb h => by first | omega | (dsimp only at h ⊢; omega) | (dsimp only at h; omega) | (dsimp only; omega))
      refine hs_aload (i := 0) (p := 65) (by decide +kernel) rfl ?_
      refine hf_get (T := et_TT) (t := 3) (ci := 1) (f := 1) (p := 68) (by decide +kernel) rfl hH k_e hv.1.2.1 ?_
      refine hs_iload (i := 2) (p := 69) (by decide +kernel) rfl ?_
      refine hs_iload (i := 3) (p := 70) (by decide +kernel) rfl ?_
      have hHo := hH
      refine hf_ist (T := et_TT) (t := 15) (N := 6) (p := 71) (by decide +kernel) rfl rfl (by decide) hH k_ca (by omega) (by decide) (fun s hs => absurd hs List.not_mem_nil) (fun G70 hH x70 e70 => ?_)
      have hv := hv.cp t9.1 hd9.1 hck hHo x70 e70
      have lt_e := Nat.lt_of_lt_of_le lt_e x70.1
      have lt_ca := Nat.lt_of_lt_of_le lt_ca x70.1
      have lt_ki := Nat.lt_of_lt_of_le lt_ki x70.1
      have lt_kn := Nat.lt_of_lt_of_le lt_kn x70.1
      have hX := hX.tr x70 (fun b j hb h => by first | omega | (dsimp only at h ⊢; omega) | (dsimp only at h; omega) | (dsimp only; omega))
      refine hs_aload (i := 0) (p := 72) (by decide +kernel) rfl ?_
      refine hf_get (T := et_TT) (t := 3) (ci := 1) (f := 2) (p := 75) (by decide +kernel) rfl hH k_e hv.1.2.2.1 ?_
      refine hs_iload (i := 2) (p := 76) (by decide +kernel) rfl ?_
      refine hs_iload (i := 4) (p := 78) (by decide +kernel) rfl ?_
      have hHo := hH
      refine hf_ist (T := et_TT) (t := 15) (N := 6) (p := 79) (by decide +kernel) rfl rfl (by decide) hH k_ki (by omega) (by decide) (fun s hs => absurd hs List.not_mem_nil) (fun G78 hH x78 e78 => ?_)
      have hv := hv.dp t9.1 hd9.2 hck hHo x78 e78
      have lt_e := Nat.lt_of_lt_of_le lt_e x78.1
      have lt_ca := Nat.lt_of_lt_of_le lt_ca x78.1
      have lt_ki := Nat.lt_of_lt_of_le lt_ki x78.1
      have lt_kn := Nat.lt_of_lt_of_le lt_kn x78.1
      have hX := hX.tr x78 (fun b j hb h => by first | omega | (dsimp only at h ⊢; omega) | (dsimp only at h; omega) | (dsimp only; omega))
      refine hs_vret (by decide +kernel) ?_
      exact h _ hH hX hv
    · exact absurd hk c21
end VTB
section VTC
variable {w : et_Wd} {d d2 th sp pa pi pn e ca ki kn tn n m k p tm ec s0 ya ta tc : Nat} {v : evT} {ls : List sp_L} {x y z rows : Int32} {row : Nat}
theorem ft_169J {x7 : Option Value} {K : et_K} {G : eg_G} (hH : et_H et_TT K G) (hx0 : et_ex w.1 K) (hf : et_fr ey_M w.1 w.2.2 G) (hZ : soI w.1 w.2.2 sp pa pi pn v tn ls K G) (hp : ¬ pa = pi ∧ ¬ pa = pn ∧ ¬ pi = pn) (k_th0 : w.1 th = some 12) (h80 : et_pl (eg_at w.2.2 th) 8 = some (.ref sp)) (k_th : K th = some 12) (k_sp : K sp = some 3) (k_tn : K tn = some 11) (hcl : ∀ l ∈ ls, lcl1 l) (hc : n ≤ 5) (hout : ∀ (K : et_K) (G : eg_G) (z : Int32) (x6 x7 : Option Value), et_H et_TT K G → et_ex w.1 K → et_fr ey_M w.1 w.2.2 G → soI w.1 w.2.2 sp pa pi pn v tn ls K G → K th = some 12 → K sp = some 3 → K tn = some 11 → et_go none (d + 34) 169 14 [some (.ref th), some (.ref e), some (.ref tn), some (.int (Int32.ofNat n)), some (.int z), some (.int (Int32.ofNat (tm + 1))), x6, x7] [] G 0 0 (fun u => hol w.1 sp pa pi pn w.2.2 u.2.1)) (hp5 : p ≤ 5) : et_go none (d + 34) 169 24 [some (.ref th), some (.ref e), some (.ref tn), some (.int (Int32.ofNat n)), some (.int z), some (.int (Int32.ofNat tm)), some (.int (Int32.ofNat p)), x7] [] G 0 0 (fun u => hol w.1 sp pa pi pn w.2.2 u.2.1) := by
  induction hm : 5 - p using Nat.strongRecOn generalizing p z x7 K G with
  | _ q9 ih =>
    refine hs_iload (i := 6) (p := 26) (by decide +kernel) rfl ?_
    refine hs_iload (i := 3) (p := 27) (by decide +kernel) rfl ?_
    refine hs_br2n (c := .ge) (t := 136) (f := 30) (by decide +kernel) (by omega) (by omega) (fun (c27 : n ≤ p) => ?_) (fun (c27 : ¬ (n ≤ p)) => ?_)
    · refine hs_iinc1 (i := 5) (p := 139) (by decide +kernel) rfl (Nat.le_of_ble_eq_true rfl) ?_
      refine hs_goto (p := 14) (by decide +kernel) ?_
      show et_go none _ 169 14 [some (.ref th), some (.ref e), some (.ref tn), some (.int (Int32.ofNat n)), some (.int z), some (.int (Int32.ofNat (tm + 1))), some (.int (Int32.ofNat p)), x7] [] _ _ _ _
      exact hout _ _ _ _ _ hH hx0 hf hZ k_th k_sp k_tn
    · refine hs_iload (i := 4) (p := 32) (by decide +kernel) rfl ?_
      refine hs_aload (i := 0) (p := 33) (by decide +kernel) rfl ?_
      refine ht_geti (T := et_TT) (t := 12) (ci := 10) (f := 10) (p := 36) (by decide +kernel) rfl rfl hH k_th (fun c33 h33 g33 e33 => ?_)
      refine hs_br2 (c := .ge) (t := 54) (f := 39) (by decide +kernel) (fun (c36 : c33 ≤ z) => ?_) (fun (c36 : ¬ (c33 ≤ z)) => ?_)
      · refine hs_aload (i := 0) (p := 55) (by decide +kernel) rfl ?_
        refine hs_aload (i := 0) (p := 56) (by decide +kernel) rfl ?_
        refine ht_geti (T := et_TT) (t := 12) (ci := 10) (f := 10) (p := 59) (by decide +kernel) rfl rfl hH k_th (fun c56 h56 g56 e56 => ?_)
        refine hs_iload (i := 4) (p := 61) (by decide +kernel) rfl ?_
        refine hs_math (mi := 311) (lk := 8) (p := 64) (by decide +kernel) rfl rfl rfl rfl ?_
        have hHo := hH
        refine ht_put (M := [(12, 10, 10)]) (T := et_TT) (t := 12) (ci := 10) (f := 10) (p := 67) (ty := .int) (by decide +kernel) rfl rfl rfl rfl rfl (by decide +kernel) hH k_th hi_any (fun G64 hH f64 e64 => ?_)
        have hZ := hZ.fr hx0 et_ex.rf hHo f64 (by decide +kernel)
        have hf := hf.tr hx0 (f64.wk (by decide +kernel))
        refine hs_vret (by decide +kernel) ?_
        exact hZ.1
      · refine hs_aload (i := 0) (p := 40) (by decide +kernel) rfl ?_
        refine ht_getr (T := et_TT) (t := 12) (ci := 10) (f := 0) (p := 43) (by decide +kernel) rfl rfl hH k_th (fun a40 k_a40 e40 => ?_)
        refine hs_aload (i := 0) (p := 44) (by decide +kernel) rfl ?_
        refine ht_getr (T := et_TT) (t := 12) (ci := 10) (f := 8) (p := 47) (by decide +kernel) rfl rfl hH k_th (fun a44 k_a44 e44 => ?_)
        obtain rfl : sp = a44 := (Value.ref.inj (Option.some.inj (e44.symm.trans ((hf.2 th 12 k_th0 8 (by decide +kernel)).trans h80)))).symm
        refine hs_iload (i := 3) (p := 48) (by decide +kernel) rfl ?_
        have hHo := hH
        refine ht_callv (T := et_TT) (t := 10) (mi := 111) (na := 2) (ci := 8) (lk := 8) (lm := 4) (L0 := eg_en (eg_mL 111) [.ref a40, .ref sp, .int (Int32.ofNat n)]) (by decide +kernel) rfl hH k_a40 rfl rfl rfl rfl rfl (by rw [show eg_mL 111 = 4 from by decide +kernel]; first | done | rfl) ?_
        refine (ek_c24 (K, [], G) [.ref a40, .ref sp, .int (Int32.ofNat n)] _ hH (by show 5 ≤ _; omega) rfl (ht_ac (.inr ⟨by decide, _, rfl, k_a40⟩) (ht_ac (.inr ⟨by decide, _, rfl, k_sp⟩) (ht_ac hi_any ht_an)))).mono (fun u hu => hs_cbv hu (fun v48 K48 G48 c48 s48 x48 f48 hH hv48 cl48 sl48 => ?_))
        have hZ := hZ.fr hx0 x48 hHo f48 (by decide +kernel)
        have k_th := x48 _ _ k_th
        have k_sp := x48 _ _ k_sp
        have k_tn := x48 _ _ k_tn
        have k_a40 := x48 _ _ k_a40
        have hf := hf.tr hx0 (f48.wk (by decide +kernel))
        have hx0 := hx0.tr x48
        obtain rfl : c48 = 0 := Nat.le_zero.mp cl48
        obtain rfl : s48 = 0 := Nat.le_zero.mp sl48
        obtain ⟨n48, hn48, rfl⟩ := hi_nat hv48
        show et_go none _ 169 51 _ [.int (Int32.ofNat n48)] _ _ _ _
        refine hs_br1 (c := .eq) (t := 68) (f := 54) (by decide +kernel) (fun (c51 : Int32.ofNat n48 = 0) => ?_) (fun (c51 : ¬ (Int32.ofNat n48 = 0)) => ?_)
        · refine hs_aload (i := 0) (p := 69) (by decide +kernel) rfl ?_
          refine ht_getr (T := et_TT) (t := 12) (ci := 10) (f := 9) (p := 72) (by decide +kernel) rfl rfl hH k_th (fun a69 k_a69 e69 => ?_)
          refine hs_iload (i := 6) (p := 74) (by decide +kernel) rfl ?_
          refine ht_ild (T := et_TT) (t := 32) (N := 5) (p := 75) (by decide +kernel) rfl hH k_a69 (by omega) (by decide) (fun x74 s74 e74 => ?_)
          refine hs_istore (i := 7) (p := 77) (by decide +kernel) (Nat.le_of_ble_eq_true rfl) ?_
          refine hs_iload (i := 7) (p := 79) (by decide +kernel) rfl ?_
          refine hs_br1 (c := .lt) (t := 127) (f := 82) (by decide +kernel) (fun (c79 : x74 < 0) => ?_) (fun (c79 : ¬ (x74 < 0)) => ?_)
          · refine hs_iinc (i := 4) (n := 1) (p := 130) (by decide +kernel) rfl (Nat.le_of_ble_eq_true rfl) ?_
            refine hs_iinc1 (i := 6) (p := 133) (by decide +kernel) rfl (Nat.le_of_ble_eq_true rfl) ?_
            refine hs_goto (p := 24) (by decide +kernel) ?_
            show et_go none _ 169 24 [some (.ref th), some (.ref e), some (.ref tn), some (.int (Int32.ofNat n)), some (.int (z + Int32.ofInt (1))), some (.int (Int32.ofNat tm)), some (.int (Int32.ofNat (p + 1))), some (.int x74)] [] _ _ _ _
            exact ih (5 - (p + 1)) (by omega) hH hx0 hf hZ k_th k_sp k_tn (by omega) rfl
          · refine hs_iload (i := 7) (p := 84) (by decide +kernel) rfl ?_
            refine hs_aload (i := 0) (p := 85) (by decide +kernel) rfl ?_
            refine ht_getr (T := et_TT) (t := 12) (ci := 10) (f := 0) (p := 88) (by decide +kernel) rfl rfl hH k_th (fun a85 k_a85 e85 => ?_)
            refine ht_getn (T := et_TT) (t := 10) (ci := 8) (f := 2) (p := 91) (by decide +kernel) rfl rfl hH k_a85 (fun c88 h88 e88 => ?_)
            refine hs_br2 (c := .ge) (t := 127) (f := 94) (by decide +kernel) (fun (c91 : Int32.ofNat c88 ≤ x74) => ?_) (fun (c91 : ¬ (Int32.ofNat c88 ≤ x74)) => ?_)
            · refine hs_iinc (i := 4) (n := 1) (p := 130) (by decide +kernel) rfl (Nat.le_of_ble_eq_true rfl) ?_
              refine hs_iinc1 (i := 6) (p := 133) (by decide +kernel) rfl (Nat.le_of_ble_eq_true rfl) ?_
              refine hs_goto (p := 24) (by decide +kernel) ?_
              show et_go none _ 169 24 [some (.ref th), some (.ref e), some (.ref tn), some (.int (Int32.ofNat n)), some (.int (z + Int32.ofInt (1))), some (.int (Int32.ofNat tm)), some (.int (Int32.ofNat (p + 1))), some (.int x74)] [] _ _ _ _
              exact ih (5 - (p + 1)) (by omega) hH hx0 hf hZ k_th k_sp k_tn (by omega) rfl
            · obtain ⟨cc, ecc, hcc⟩ := xr_nat (x := x74) (e := c88) ⟨by rw [xi_lt0] at c79; omega, by rw [xi_nle (k := c88) (by omega)] at c91; omega⟩ (by omega)
              subst ecc
              refine hs_aload (i := 0) (p := 95) (by decide +kernel) rfl ?_
              refine ht_getr (T := et_TT) (t := 12) (ci := 10) (f := 8) (p := 98) (by decide +kernel) rfl rfl hH k_th (fun a95 k_a95 e95 => ?_)
              obtain rfl : sp = a95 := (Value.ref.inj (Option.some.inj (e95.symm.trans ((hf.2 th 12 k_th0 8 (by decide +kernel)).trans h80)))).symm
              refine hs_aload (i := 0) (p := 99) (by decide +kernel) rfl ?_
              refine ht_getr (T := et_TT) (t := 12) (ci := 10) (f := 0) (p := 102) (by decide +kernel) rfl rfl hH k_th (fun a99 k_a99 e99 => ?_)
              refine ht_getr (T := et_TT) (t := 10) (ci := 8) (f := 3) (p := 105) (by decide +kernel) rfl rfl hH k_a99 (fun a102 k_a102 e102 => ?_)
              refine hs_iload (i := 7) (p := 107) (by decide +kernel) rfl ?_
              refine ht_ild (T := et_TT) (t := 17) (N := 20) (p := 108) (by decide +kernel) rfl hH k_a102 (by omega) (by decide) (fun x107 s107 e107 => ?_)
              refine hs_aload (i := 0) (p := 109) (by decide +kernel) rfl ?_
              refine ht_getr (T := et_TT) (t := 12) (ci := 10) (f := 0) (p := 112) (by decide +kernel) rfl rfl hH k_th (fun a109 k_a109 e109 => ?_)
              refine ht_getr (T := et_TT) (t := 10) (ci := 8) (f := 4) (p := 115) (by decide +kernel) rfl rfl hH k_a109 (fun a112 k_a112 e112 => ?_)
              refine hs_iload (i := 7) (p := 117) (by decide +kernel) rfl ?_
              refine ht_zln (t := 27) (N := 20) (m := 19) (p := 118) (by decide +kernel) rfl hH k_a112 (by omega) (by omega) (by decide) (fun c117 h117 => ?_)
              obtain ⟨ye, hye⟩ : ∃ ye : Bool, c117 = if ye = true then 1 else 0 := by
                rcases (show c117 = 0 ∨ c117 = 1 by omega) with h | h
                · exact ⟨false, h⟩
                · exact ⟨true, h⟩
              subst hye
              refine hs_aload (i := 2) (p := 119) (by decide +kernel) rfl ?_
              refine hs_aload (i := 0) (p := 120) (by decide +kernel) rfl ?_
              refine ht_getr (T := et_TT) (t := 12) (ci := 10) (f := 4) (p := 123) (by decide +kernel) rfl rfl hH k_th (fun a120 k_a120 e120 => ?_)
              have hHo := hH
              refine ht_callv (T := et_TT) (t := 3) (mi := 44) (na := 4) (ci := 1) (lk := 8) (lm := 10) (L0 := eg_en (eg_mL 44) [.ref sp, .int x107, .int (Int32.ofNat (if ye = true then 1 else 0)), .ref tn, .ref a120]) (by decide +kernel) rfl hH k_sp rfl rfl rfl rfl rfl (by rw [show eg_mL 44 = 10 from by decide +kernel]; first | done | rfl) ?_
              obtain ⟨z1, z2, ⟨N_, l_, s_, z3⟩, z4⟩ := hZ
              refine fd_turn hH z2 ⟨fun q => hp.2.1 q.symm, fun q => hp.2.2 q.symm⟩ z3 z4 hcl k_a120 (by omega) (fun G123 hH x123 z5 => hs_cb ?_)
              have hf := hf.tr hx0 (x123.tfr hHo (fun b t j kb hs => by rcases hs with ⟨h1, h2⟩ | ⟨h1, h2⟩ | ⟨h1, h2⟩ <;> subst h1 <;> first | (cases z2.1.1.symm.trans kb; exact ey_3 (by omega)) | (cases z2.1.2.2.2.symm.trans kb; exact ey_15 (by omega)) | (cases k_a120.symm.trans kb; exact ey_4 (by omega))))
              have hZ : soI w.1 w.2.2 sp pa pi pn v tn ls K48 G123 := ⟨z1.xs hx0 hHo x123 (fun b j hs => by rcases hs with ⟨h1, h2⟩ | ⟨h1, h2⟩ | ⟨h1, h2⟩ <;> subst h1 <;> first | (exact .inl ⟨rfl, by omega⟩) | (exact .inr (.inr (.inr (.inl rfl)))) | (exact .inr (.inr (.inr (.inr ⟨fun h => (by cases k_a120.symm.trans h), fun h => (by cases k_a120.symm.trans h)⟩))))) z2.1.1 z2.1.2.1 z2.1.2.2.1 z2.1.2.2.2, z2, ⟨_, _, _, z5⟩, z4.xs et_ex.rf hHo x123 (fun b j t kb hs => by rcases hs with ⟨h1, h2⟩ | ⟨h1, h2⟩ | ⟨h1, h2⟩ <;> subst h1 <;> first | (cases z2.1.1.symm.trans kb; exact ⟨by decide, by decide, by decide, by decide, by decide⟩) | (cases z2.1.2.2.2.symm.trans kb; exact ⟨by decide, by decide, by decide, by decide, by decide⟩) | (cases k_a120.symm.trans kb; exact ⟨by decide, by decide, by decide, by decide, by decide⟩))⟩
              show et_go none _ 169 126 _ [.int _] _ _ _ _
              refine hs_pop (p := 127) (by decide +kernel) ?_
              refine hs_iinc (i := 4) (n := 1) (p := 130) (by decide +kernel) rfl (Nat.le_of_ble_eq_true rfl) ?_
              refine hs_iinc1 (i := 6) (p := 133) (by decide +kernel) rfl (Nat.le_of_ble_eq_true rfl) ?_
              refine hs_goto (p := 24) (by decide +kernel) ?_
              show et_go none _ 169 24 [some (.ref th), some (.ref e), some (.ref tn), some (.int (Int32.ofNat n)), some (.int (z + Int32.ofInt (1))), some (.int (Int32.ofNat tm)), some (.int (Int32.ofNat (p + 1))), some (.int (Int32.ofNat cc))] [] _ _ _ _
              exact ih (5 - (p + 1)) (by omega) hH hx0 hf hZ k_th k_sp k_tn (by omega) rfl
        · refine hs_aload (i := 0) (p := 55) (by decide +kernel) rfl ?_
          refine hs_aload (i := 0) (p := 56) (by decide +kernel) rfl ?_
          refine ht_geti (T := et_TT) (t := 12) (ci := 10) (f := 10) (p := 59) (by decide +kernel) rfl rfl hH k_th (fun c56 h56 g56 e56 => ?_)
          refine hs_iload (i := 4) (p := 61) (by decide +kernel) rfl ?_
          refine hs_math (mi := 311) (lk := 8) (p := 64) (by decide +kernel) rfl rfl rfl rfl ?_
          have hHo := hH
          refine ht_put (M := [(12, 10, 10)]) (T := et_TT) (t := 12) (ci := 10) (f := 10) (p := 67) (ty := .int) (by decide +kernel) rfl rfl rfl rfl rfl (by decide +kernel) hH k_th hi_any (fun G64 hH f64 e64 => ?_)
          have hZ := hZ.fr hx0 et_ex.rf hHo f64 (by decide +kernel)
          have hf := hf.tr hx0 (f64.wk (by decide +kernel))
          refine hs_vret (by decide +kernel) ?_
          exact hZ.1
theorem ft_169O {x6 x7 : Option Value} {K : et_K} {G : eg_G} (hH : et_H et_TT K G) (hx0 : et_ex w.1 K) (hf : et_fr ey_M w.1 w.2.2 G) (hZ : soI w.1 w.2.2 sp pa pi pn v tn ls K G) (hp : ¬ pa = pi ∧ ¬ pa = pn ∧ ¬ pi = pn) (k_th0 : w.1 th = some 12) (h80 : et_pl (eg_at w.2.2 th) 8 = some (.ref sp)) (k_th : K th = some 12) (k_sp : K sp = some 3) (k_tn : K tn = some 11) (hcl : ∀ l ∈ ls, lcl1 l) (hc : n ≤ 5) (ht10 : tm ≤ 10) : et_go none (d + 34) 169 14 [some (.ref th), some (.ref e), some (.ref tn), some (.int (Int32.ofNat n)), some (.int z), some (.int (Int32.ofNat tm)), x6, x7] [] G 0 0 (fun u => hol w.1 sp pa pi pn w.2.2 u.2.1) := by
  induction hm : 10 - tm using Nat.strongRecOn generalizing tm z x6 x7 K G with
  | _ q9 ih =>
    refine hs_iload (i := 5) (p := 16) (by decide +kernel) rfl ?_
    refine hs_k (x := Int32.ofNat 10) (p := 18) (by decide +kernel) ?_
    refine hs_br2n (c := .ge) (t := 142) (f := 21) (by decide +kernel) (by omega) (by omega) (fun (c18 : 10 ≤ tm) => ?_) (fun (c18 : ¬ (10 ≤ tm)) => ?_)
    · refine hs_aload (i := 0) (p := 143) (by decide +kernel) rfl ?_
      refine ht_getr (T := et_TT) (t := 12) (ci := 10) (f := 0) (p := 146) (by decide +kernel) rfl rfl hH k_th (fun a143 k_a143 e143 => ?_)
      refine hs_aload (i := 0) (p := 147) (by decide +kernel) rfl ?_
      refine ht_getr (T := et_TT) (t := 12) (ci := 10) (f := 8) (p := 150) (by decide +kernel) rfl rfl hH k_th (fun a147 k_a147 e147 => ?_)
      obtain rfl : sp = a147 := (Value.ref.inj (Option.some.inj (e147.symm.trans ((hf.2 th 12 k_th0 8 (by decide +kernel)).trans h80)))).symm
      refine hs_iload (i := 3) (p := 151) (by decide +kernel) rfl ?_
      have hHo := hH
      refine ht_callv (T := et_TT) (t := 10) (mi := 111) (na := 2) (ci := 8) (lk := 8) (lm := 4) (L0 := eg_en (eg_mL 111) [.ref a143, .ref sp, .int (Int32.ofNat n)]) (by decide +kernel) rfl hH k_a143 rfl rfl rfl rfl rfl (by rw [show eg_mL 111 = 4 from by decide +kernel]; first | done | rfl) ?_
      refine (ek_c24 (K, [], G) [.ref a143, .ref sp, .int (Int32.ofNat n)] _ hH (by show 5 ≤ _; omega) rfl (ht_ac (.inr ⟨by decide, _, rfl, k_a143⟩) (ht_ac (.inr ⟨by decide, _, rfl, k_sp⟩) (ht_ac hi_any ht_an)))).mono (fun u hu => hs_cbv hu (fun v151 K151 G151 c151 s151 x151 f151 hH hv151 cl151 sl151 => ?_))
      have hZ := hZ.fr hx0 x151 hHo f151 (by decide +kernel)
      have k_th := x151 _ _ k_th
      have k_sp := x151 _ _ k_sp
      have k_tn := x151 _ _ k_tn
      have k_a143 := x151 _ _ k_a143
      have hf := hf.tr hx0 (f151.wk (by decide +kernel))
      have hx0 := hx0.tr x151
      obtain rfl : c151 = 0 := Nat.le_zero.mp cl151
      obtain rfl : s151 = 0 := Nat.le_zero.mp sl151
      obtain ⟨n151, hn151, rfl⟩ := hi_nat hv151
      show et_go none _ 169 154 _ [.int (Int32.ofNat n151)] _ _ _ _
      refine hs_br1 (c := .eq) (t := 170) (f := 157) (by decide +kernel) (fun (c154 : Int32.ofNat n151 = 0) => ?_) (fun (c154 : ¬ (Int32.ofNat n151 = 0)) => ?_)
      · refine hs_vret (by decide +kernel) ?_
        exact hZ.1
      · refine hs_aload (i := 0) (p := 158) (by decide +kernel) rfl ?_
        refine hs_aload (i := 0) (p := 159) (by decide +kernel) rfl ?_
        refine ht_geti (T := et_TT) (t := 12) (ci := 10) (f := 10) (p := 162) (by decide +kernel) rfl rfl hH k_th (fun c159 h159 g159 e159 => ?_)
        refine hs_iload (i := 4) (p := 164) (by decide +kernel) rfl ?_
        refine hs_math (mi := 311) (lk := 8) (p := 167) (by decide +kernel) rfl rfl rfl rfl ?_
        have hHo := hH
        refine ht_put (M := [(12, 10, 10)]) (T := et_TT) (t := 12) (ci := 10) (f := 10) (p := 170) (ty := .int) (by decide +kernel) rfl rfl rfl rfl rfl (by decide +kernel) hH k_th hi_any (fun G167 hH f167 e167 => ?_)
        have hZ := hZ.fr hx0 et_ex.rf hHo f167 (by decide +kernel)
        have hf := hf.tr hx0 (f167.wk (by decide +kernel))
        refine hs_vret (by decide +kernel) ?_
        exact hZ.1
    · refine hs_k (x := Int32.ofNat 0) (p := 22) (by decide +kernel) ?_
      refine hs_istore (i := 6) (p := 24) (by decide +kernel) (Nat.le_of_ble_eq_true rfl) ?_
      show et_go none _ 169 24 [some (.ref th), some (.ref e), some (.ref tn), some (.int (Int32.ofNat n)), some (.int z), some (.int (Int32.ofNat tm)), some (.int (Int32.ofNat 0)), x7] [] _ _ _ _
      exact ft_169J hH hx0 hf hZ hp k_th0 h80 k_th k_sp k_tn hcl hc (fun K G z x6 x7 hH hx0 hf hZ k_th k_sp k_tn => ih (10 - (tm + 1)) (by omega) hH hx0 hf hZ k_th k_sp k_tn (by omega) rfl) (by decide)
theorem ft_169Z (hH : et_H et_TT w.1 w.2.2) (k_th0 : w.1 th = some 12) (h80 : et_pl (eg_at w.2.2 th) 8 = some (.ref sp)) (k_sp0 : w.1 sp = some 3) (k_pa0 : w.1 pa = some 15) (k_pi0 : w.1 pi = some 15) (k_pn0 : w.1 pn = some 15) (hse : ¬ sp = e) (hp : ¬ pa = pi ∧ ¬ pa = pn ∧ ¬ pi = pn) (hq : ∀ p c, p ∈ [pa, pi, pn] → c ∈ [ca, ki, kn] → ¬ p = c) (t9 : evK w.1 e ca ki kn v.1 v.2.2.1) (hv : evc w.2.2 e ca ki kn v) (a1 : et_pl (eg_at w.2.2 sp) 1 = some (.ref pa)) (a2 : et_pl (eg_at w.2.2 sp) 2 = some (.ref pi)) (a3 : et_pl (eg_at w.2.2 sp) 3 = some (.ref pn)) (ht : tuC w.1 w.2.2 tn ls) (hcl : ∀ l ∈ ls, lcl1 l) (hc : n ≤ 5) (hd : 34 ≤ d2) : et_go none d2 169 0 (eg_en (eg_mL 169) [.ref th, .ref e, .ref tn, .int (Int32.ofNat n)]) [] w.2.2 0 0 (fun u => hol w.1 sp pa pi pn w.2.2 u.2.1) := by
  obtain ⟨d, rfl⟩ : ∃ d, d2 = d + 34 := ⟨d2 - 34, by omega⟩
  have hx0 : et_ex w.1 w.1 := et_ex.rf
  have hf : et_fr ey_M w.1 w.2.2 w.2.2 := et_fr.rf
  have k_th := k_th0
  have k_sp := k_sp0
  have k_pa := k_pa0
  have k_pi := k_pi0
  have k_pn := k_pn0
  rw [show eg_mL 169 = 8 from by decide +kernel]
  show et_go none (d + 34) 169 0 [some (.ref th), some (.ref e), some (.ref tn), some (.int (Int32.ofNat n)), none, none, none, none] [] w.2.2 0 0 _
  have k_e := t9.1.1
  have k_tn := ht.kt
  refine hs_aload (i := 0) (p := 1) (by decide +kernel) rfl ?_
  refine ht_getr (T := et_TT) (t := 12) (ci := 10) (f := 8) (p := 4) (by decide +kernel) rfl rfl hH k_th (fun a1 k_a1 e1 => ?_)
  obtain rfl : sp = a1 := (Value.ref.inj (Option.some.inj (e1.symm.trans ((hf.2 th 12 k_th0 8 (by decide +kernel)).trans h80)))).symm
  refine hs_aload (i := 1) (p := 5) (by decide +kernel) rfl ?_
  have hHo := hH
  refine ht_callv (T := et_TT) (t := 3) (mi := 35) (na := 1) (ci := 1) (lk := 8) (lm := 3) (L0 := eg_en (eg_mL 35) [.ref sp, .ref e]) (by decide +kernel) rfl hH k_sp rfl rfl rfl rfl rfl (by rw [show eg_mL 35 = 3 from by decide +kernel]; first | done | rfl) ?_
  refine fd_takeV (v := v) hH t9 hv k_sp k_pa k_pi k_pn hse hp hq a1 a2 a3 (fun G5 hH x5 z5 => hs_cb ?_)
  have z2 : evK w.1 sp pa pi pn v.1 v.2.2.1 := ⟨⟨k_sp, k_pa, k_pi, k_pn⟩, t9.2⟩
  have hf := hf.tr hx0 (x5.tfr hHo (fun b t j kb hs => by rcases hs with ⟨h1, h2⟩ | ⟨h1, h2⟩ | ⟨h1, h2⟩ | ⟨h1, h2⟩ <;> subst h1 <;> first | (cases k_sp.symm.trans kb; exact ey_3 (by omega)) | (cases k_pa.symm.trans kb; exact ey_15 (by omega)) | (cases k_pi.symm.trans kb; exact ey_15 (by omega)) | (cases k_pn.symm.trans kb; exact ey_15 (by omega))))
  have hZ0 : hol w.1 sp pa pi pn w.2.2 G5 := hol.rf.xs hx0 hHo x5 (fun b j hs => by rcases hs with ⟨h1, h2⟩ | ⟨h1, h2⟩ | ⟨h1, h2⟩ | ⟨h1, h2⟩ <;> subst h1 <;> first | (exact .inl ⟨rfl, by omega⟩) | (exact .inr (.inl rfl)) | (exact .inr (.inr (.inl rfl))) | (exact .inr (.inr (.inr (.inl rfl))))) k_sp k_pa k_pi k_pn
  have hZ : soI w.1 w.2.2 sp pa pi pn v tn ls w.1 G5 := ⟨hZ0, z2, ⟨_, _, _, z5⟩, ht.xs et_ex.rf hHo x5 (fun b j t kb hs => by rcases hs with ⟨h1, h2⟩ | ⟨h1, h2⟩ | ⟨h1, h2⟩ | ⟨h1, h2⟩ <;> subst h1 <;> first | (cases k_sp.symm.trans kb; exact ⟨by decide, by decide, by decide, by decide, by decide⟩) | (cases k_pa.symm.trans kb; exact ⟨by decide, by decide, by decide, by decide, by decide⟩) | (cases k_pi.symm.trans kb; exact ⟨by decide, by decide, by decide, by decide, by decide⟩) | (cases k_pn.symm.trans kb; exact ⟨by decide, by decide, by decide, by decide, by decide⟩))⟩
  show et_go none _ 169 8 _ [] _ _ _ _
  refine hs_k (x := Int32.ofNat 0) (p := 9) (by decide +kernel) ?_
  refine hs_istore (i := 4) (p := 11) (by decide +kernel) (Nat.le_of_ble_eq_true rfl) ?_
  refine hs_k (x := Int32.ofNat 0) (p := 12) (by decide +kernel) ?_
  refine hs_istore (i := 5) (p := 14) (by decide +kernel) (Nat.le_of_ble_eq_true rfl) ?_
  show et_go none _ 169 14 [some (.ref th), some (.ref e), some (.ref tn), some (.int (Int32.ofNat n)), some (.int (Int32.ofNat 0)), some (.int (Int32.ofNat 0)), none, none] [] _ _ _ _
  exact ft_169O hH hx0 hf hZ hp k_th0 h80 k_th k_sp k_tn hcl hc (by decide)
theorem ft_166a (hH : et_H et_TT w.1 w.2.2) (k_th0 : w.1 th = some 12) (h80 : et_pl (eg_at w.2.2 th) 8 = some (.ref sp)) (h0 : et_pl (eg_at w.2.2 th) 0 = some (.ref s0)) (k_s0 : w.1 s0 = some 10) (h5 : et_pl (eg_at w.2.2 s0) 5 = some (.int (Int32.ofNat ec))) (hec : ec ≤ 3) (h6 : et_pl (eg_at w.2.2 s0) 6 = some (.ref ya)) (k_ya : w.1 ya = some 40) (hn : n < ec) (hE : et_pl (eg_at w.2.2 ya) n = some (.ref e)) (k_sp0 : w.1 sp = some 3) (k_pa0 : w.1 pa = some 15) (k_pi0 : w.1 pi = some 15) (k_pn0 : w.1 pn = some 15) (hse : ¬ sp = e) (hp : ¬ pa = pi ∧ ¬ pa = pn ∧ ¬ pi = pn) (hq : ∀ p c, p ∈ [pa, pi, pn] → c ∈ [ca, ki, kn] → ¬ p = c) (t9 : evK w.1 e ca ki kn v.1 v.2.2.1) (hv : evc w.2.2 e ca ki kn v) (a1 : et_pl (eg_at w.2.2 sp) 1 = some (.ref pa)) (a2 : et_pl (eg_at w.2.2 sp) 2 = some (.ref pi)) (a3 : et_pl (eg_at w.2.2 sp) 3 = some (.ref pn)) (hm : m < v.1) (hk : k < v.1) (hd : 5 ≤ d2) : et_go none d2 166 0 (eg_en (eg_mL 166) [.ref th, .int (Int32.ofNat n), .int (Int32.ofNat m), .int (Int32.ofNat k)]) [] w.2.2 0 0 (fun u => hol w.1 sp pa pi pn w.2.2 u.2.1) := by
  obtain ⟨d, rfl⟩ : ∃ d, d2 = d + 5 := ⟨d2 - 5, by omega⟩
  have hx0 : et_ex w.1 w.1 := et_ex.rf
  have hf : et_fr ey_M w.1 w.2.2 w.2.2 := et_fr.rf
  have k_th := k_th0
  have k_sp := k_sp0
  have k_pa := k_pa0
  have k_pi := k_pi0
  have k_pn := k_pn0
  rw [show eg_mL 166 = 7 from by decide +kernel]
  show et_go none (d + 5) 166 0 [some (.ref th), some (.int (Int32.ofNat n)), some (.int (Int32.ofNat m)), some (.int (Int32.ofNat k)), none, none, none] [] w.2.2 0 0 _
  have k_e := t9.1.1
  have hw6 := t9.2.1
  refine hs_aload (i := 0) (p := 1) (by decide +kernel) rfl ?_
  refine hs_iload (i := 1) (p := 2) (by decide +kernel) rfl ?_
  have hHo := hH
  refine ht_callv (T := et_TT) (t := 12) (mi := 128) (na := 1) (ci := 10) (lk := 7) (lm := 2) (L0 := eg_en (eg_mL 128) [.ref th, .int (Int32.ofNat n)]) (by decide +kernel) rfl hH k_th rfl rfl rfl rfl rfl (by rw [show eg_mL 128 = 2 from by decide +kernel]; first | done | rfl) ?_
  refine (fd_needE hH k_th h0 k_s0 h5 hec h6 k_ya hn hE).mono (fun u hu => xp_cb hu ?_)
  show et_go none _ 166 5 _ [.ref e] _ _ _ _
  refine hs_astore (i := 4) (p := 7) (by decide +kernel) (Nat.le_of_ble_eq_true rfl) ?_
  refine hs_aload (i := 4) (p := 9) (by decide +kernel) rfl ?_
  refine hs_iload (i := 2) (p := 10) (by decide +kernel) rfl ?_
  have hHo := hH
  refine hs_calls (mi := 142) (na := 2) (lk := 7) (lm := 2) (L0 := eg_en (eg_mL 142) [.ref e, .int (Int32.ofNat m)]) (by decide +kernel) rfl rfl rfl rfl rfl rfl (by rw [show eg_mL 142 = 2 from by decide +kernel]; first | done | rfl) ?_
  refine (fd_needW hH k_e hv.1.1 hw6 hm).mono (fun u hu => xp_cb hu ?_)
  show et_go none _ 166 13 _ [] _ _ _ _
  refine hs_aload (i := 4) (p := 15) (by decide +kernel) rfl ?_
  refine hs_iload (i := 3) (p := 16) (by decide +kernel) rfl ?_
  have hHo := hH
  refine hs_calls (mi := 142) (na := 2) (lk := 7) (lm := 2) (L0 := eg_en (eg_mL 142) [.ref e, .int (Int32.ofNat k)]) (by decide +kernel) rfl rfl rfl rfl rfl rfl (by rw [show eg_mL 142 = 2 from by decide +kernel]; first | done | rfl) ?_
  refine (fd_needW hH k_e hv.1.1 hw6 hk).mono (fun u hu => xp_cb hu ?_)
  show et_go none _ 166 19 _ [] _ _ _ _
  refine hs_aload (i := 0) (p := 20) (by decide +kernel) rfl ?_
  refine ht_getr (T := et_TT) (t := 12) (ci := 10) (f := 8) (p := 23) (by decide +kernel) rfl rfl hH k_th (fun a20 k_a20 e20 => ?_)
  obtain rfl : sp = a20 := (Value.ref.inj (Option.some.inj (e20.symm.trans ((hf.2 th 12 k_th0 8 (by decide +kernel)).trans h80)))).symm
  refine hs_aload (i := 4) (p := 25) (by decide +kernel) rfl ?_
  have hHo := hH
  refine ht_callv (T := et_TT) (t := 3) (mi := 35) (na := 1) (ci := 1) (lk := 7) (lm := 3) (L0 := eg_en (eg_mL 35) [.ref sp, .ref e]) (by decide +kernel) rfl hH k_sp rfl rfl rfl rfl rfl (by rw [show eg_mL 35 = 3 from by decide +kernel]; first | done | rfl) ?_
  refine fd_takeV (v := v) hH t9 hv k_sp k_pa k_pi k_pn hse hp hq a1 a2 a3 (fun G25 hH x25 z5 => hs_cb ?_)
  have z2 : evK w.1 sp pa pi pn v.1 v.2.2.1 := ⟨⟨k_sp, k_pa, k_pi, k_pn⟩, t9.2⟩
  have hf := hf.tr hx0 (x25.tfr hHo (fun b t j kb hs => by rcases hs with ⟨h1, h2⟩ | ⟨h1, h2⟩ | ⟨h1, h2⟩ | ⟨h1, h2⟩ <;> subst h1 <;> first | (cases k_sp.symm.trans kb; exact ey_3 (by omega)) | (cases k_pa.symm.trans kb; exact ey_15 (by omega)) | (cases k_pi.symm.trans kb; exact ey_15 (by omega)) | (cases k_pn.symm.trans kb; exact ey_15 (by omega))))
  have hZ0 : hol w.1 sp pa pi pn w.2.2 G25 := hol.rf.xs hx0 hHo x25 (fun b j hs => by rcases hs with ⟨h1, h2⟩ | ⟨h1, h2⟩ | ⟨h1, h2⟩ | ⟨h1, h2⟩ <;> subst h1 <;> first | (exact .inl ⟨rfl, by omega⟩) | (exact .inr (.inl rfl)) | (exact .inr (.inr (.inl rfl))) | (exact .inr (.inr (.inr (.inl rfl))))) k_sp k_pa k_pi k_pn
  show et_go none _ 166 28 _ [] _ _ _ _
  refine hs_aload (i := 0) (p := 29) (by decide +kernel) rfl ?_
  refine ht_getr (T := et_TT) (t := 12) (ci := 10) (f := 8) (p := 32) (by decide +kernel) rfl rfl hH k_th (fun a29 k_a29 e29 => ?_)
  obtain rfl : sp = a29 := (Value.ref.inj (Option.some.inj (e29.symm.trans ((hf.2 th 12 k_th0 8 (by decide +kernel)).trans h80)))).symm
  refine hs_iload (i := 2) (p := 33) (by decide +kernel) rfl ?_
  refine hs_iload (i := 3) (p := 34) (by decide +kernel) rfl ?_
  have hHo := hH
  refine ht_callv (T := et_TT) (t := 3) (mi := 50) (na := 2) (ci := 1) (lk := 7) (lm := 5) (L0 := eg_en (eg_mL 50) [.ref sp, .int (Int32.ofNat m), .int (Int32.ofNat k)]) (by decide +kernel) rfl hH k_sp rfl rfl rfl rfl rfl (by rw [show eg_mL 50 = 5 from by decide +kernel]; first | done | rfl) ?_
  refine fd_swap hH z2 ⟨fun q => hp.2.1 q.symm, fun q => hp.2.2 q.symm⟩ hp.1 z5 hm hk (fun G34 hH x34 z6 => hs_cb ?_)
  have hZ := hZ0.xs hx0 hHo x34 (fun b j hs => by rcases hs with ⟨h1, h2⟩ | ⟨h1, h2⟩ <;> subst h1 <;> first | (exact .inr (.inl rfl)) | (exact .inr (.inr (.inl rfl)))) k_sp k_pa k_pi k_pn
  show et_go none _ 166 37 _ [] _ _ _ _
  have hq9 := et_pok (T := et_TT) (Ks := [ek_q2, ek_q3]) (an := ek_an) (mi := 166) (pc := 37) (ps := [.inr (.inr (0, 12)), .inl (et_mn, et_mx), .inl (et_mn, et_mx), .inl (et_mn, et_mx), .inr (.inr (0, 3))]) (M := []) (es := [(.inl (some (.inl (et_mn, et_mx))), 0, 0)]) (w := (w.1, [], G34)) (as := [.ref th, .int (Int32.ofNat n), .int (Int32.ofNat m), .int (Int32.ofNat k), .ref e]) (d := 5) (d2 := d + 5) (List.forall_mem_cons.mpr ⟨ek_c2, (List.forall_mem_cons.mpr ⟨ek_c3, (fun _ h => absurd h List.not_mem_nil)⟩)⟩) (by decide) (by decide +kernel) hH (by omega) rfl (ht_ac (.inr ⟨by decide, _, rfl, k_th⟩) (ht_ac hi_any (ht_ac hi_any (ht_ac hi_any (ht_ac (.inr ⟨by decide, _, rfl, k_e⟩) ht_an)))))
  rw [show eg_mL 166 = 7 from by decide +kernel] at hq9
  refine et_go.mono hq9 (fun u hu => ?_)
  obtain ⟨_, _, K9, h1, h2, -⟩ := hu
  exact hZ.fr hx0 h2 (by decide +kernel) (by decide +kernel)
theorem ft_166b (hH : et_H et_TT w.1 w.2.2) (k_th0 : w.1 th = some 12) (h80 : et_pl (eg_at w.2.2 th) 8 = some (.ref sp)) (h0 : et_pl (eg_at w.2.2 th) 0 = some (.ref s0)) (k_s0 : w.1 s0 = some 10) (h5 : et_pl (eg_at w.2.2 s0) 5 = some (.int (Int32.ofNat ec))) (hec : ec ≤ 3) (h6 : et_pl (eg_at w.2.2 s0) 6 = some (.ref ya)) (k_ya : w.1 ya = some 40) (hn : n < ec) (hE : et_pl (eg_at w.2.2 ya) n = some (.ref e)) (t9 : evK w.1 e ca ki kn v.1 v.2.2.1) (hv : evc w.2.2 e ca ki kn v) (hm : m < v.1) (hz : ¬ xr z v.1) (hd : 5 ≤ d2) : et_go none d2 166 0 (eg_en (eg_mL 166) [.ref th, .int (Int32.ofNat n), .int (Int32.ofNat m), .int z]) [] w.2.2 0 0 (fun u => hol w.1 sp pa pi pn w.2.2 u.2.1) := by
  obtain ⟨d, rfl⟩ : ∃ d, d2 = d + 5 := ⟨d2 - 5, by omega⟩
  have hx0 : et_ex w.1 w.1 := et_ex.rf
  have hf : et_fr ey_M w.1 w.2.2 w.2.2 := et_fr.rf
  have k_th := k_th0
  rw [show eg_mL 166 = 7 from by decide +kernel]
  show et_go none (d + 5) 166 0 [some (.ref th), some (.int (Int32.ofNat n)), some (.int (Int32.ofNat m)), some (.int z), none, none, none] [] w.2.2 0 0 _
  have k_e := t9.1.1
  have hw6 := t9.2.1
  refine hs_aload (i := 0) (p := 1) (by decide +kernel) rfl ?_
  refine hs_iload (i := 1) (p := 2) (by decide +kernel) rfl ?_
  have hHo := hH
  refine ht_callv (T := et_TT) (t := 12) (mi := 128) (na := 1) (ci := 10) (lk := 7) (lm := 2) (L0 := eg_en (eg_mL 128) [.ref th, .int (Int32.ofNat n)]) (by decide +kernel) rfl hH k_th rfl rfl rfl rfl rfl (by rw [show eg_mL 128 = 2 from by decide +kernel]; first | done | rfl) ?_
  refine (fd_needE hH k_th h0 k_s0 h5 hec h6 k_ya hn hE).mono (fun u hu => xp_cb hu ?_)
  show et_go none _ 166 5 _ [.ref e] _ _ _ _
  refine hs_astore (i := 4) (p := 7) (by decide +kernel) (Nat.le_of_ble_eq_true rfl) ?_
  refine hs_aload (i := 4) (p := 9) (by decide +kernel) rfl ?_
  refine hs_iload (i := 2) (p := 10) (by decide +kernel) rfl ?_
  have hHo := hH
  refine hs_calls (mi := 142) (na := 2) (lk := 7) (lm := 2) (L0 := eg_en (eg_mL 142) [.ref e, .int (Int32.ofNat m)]) (by decide +kernel) rfl rfl rfl rfl rfl rfl (by rw [show eg_mL 142 = 2 from by decide +kernel]; first | done | rfl) ?_
  refine (fd_needW hH k_e hv.1.1 hw6 hm).mono (fun u hu => xp_cb hu ?_)
  show et_go none _ 166 13 _ [] _ _ _ _
  refine hs_aload (i := 4) (p := 15) (by decide +kernel) rfl ?_
  refine hs_iload (i := 3) (p := 16) (by decide +kernel) rfl ?_
  have hHo := hH
  refine hs_calls (mi := 142) (na := 2) (lk := 7) (lm := 2) (L0 := eg_en (eg_mL 142) [.ref e, .int z]) (by decide +kernel) rfl rfl rfl rfl rfl rfl (by rw [show eg_mL 142 = 2 from by decide +kernel]; first | done | rfl) ?_
  refine (fd_needWn hH k_e hv.1.1 hw6 hz).mono (fun u hu => ?_)
  obtain ⟨c16, s16, rfl⟩ := hu
  refine hf_cx (by decide +kernel) ?_
  exact hol.rf
theorem ft_166c (hH : et_H et_TT w.1 w.2.2) (k_th0 : w.1 th = some 12) (h80 : et_pl (eg_at w.2.2 th) 8 = some (.ref sp)) (h0 : et_pl (eg_at w.2.2 th) 0 = some (.ref s0)) (k_s0 : w.1 s0 = some 10) (h5 : et_pl (eg_at w.2.2 s0) 5 = some (.int (Int32.ofNat ec))) (hec : ec ≤ 3) (h6 : et_pl (eg_at w.2.2 s0) 6 = some (.ref ya)) (k_ya : w.1 ya = some 40) (hn : n < ec) (hE : et_pl (eg_at w.2.2 ya) n = some (.ref e)) (t9 : evK w.1 e ca ki kn v.1 v.2.2.1) (hv : evc w.2.2 e ca ki kn v) (hy : ¬ xr y v.1) (hd : 5 ≤ d2) : et_go none d2 166 0 (eg_en (eg_mL 166) [.ref th, .int (Int32.ofNat n), .int y, .int z]) [] w.2.2 0 0 (fun u => hol w.1 sp pa pi pn w.2.2 u.2.1) := by
  obtain ⟨d, rfl⟩ : ∃ d, d2 = d + 5 := ⟨d2 - 5, by omega⟩
  have hx0 : et_ex w.1 w.1 := et_ex.rf
  have hf : et_fr ey_M w.1 w.2.2 w.2.2 := et_fr.rf
  have k_th := k_th0
  rw [show eg_mL 166 = 7 from by decide +kernel]
  show et_go none (d + 5) 166 0 [some (.ref th), some (.int (Int32.ofNat n)), some (.int y), some (.int z), none, none, none] [] w.2.2 0 0 _
  have k_e := t9.1.1
  have hw6 := t9.2.1
  refine hs_aload (i := 0) (p := 1) (by decide +kernel) rfl ?_
  refine hs_iload (i := 1) (p := 2) (by decide +kernel) rfl ?_
  have hHo := hH
  refine ht_callv (T := et_TT) (t := 12) (mi := 128) (na := 1) (ci := 10) (lk := 7) (lm := 2) (L0 := eg_en (eg_mL 128) [.ref th, .int (Int32.ofNat n)]) (by decide +kernel) rfl hH k_th rfl rfl rfl rfl rfl (by rw [show eg_mL 128 = 2 from by decide +kernel]; first | done | rfl) ?_
  refine (fd_needE hH k_th h0 k_s0 h5 hec h6 k_ya hn hE).mono (fun u hu => xp_cb hu ?_)
  show et_go none _ 166 5 _ [.ref e] _ _ _ _
  refine hs_astore (i := 4) (p := 7) (by decide +kernel) (Nat.le_of_ble_eq_true rfl) ?_
  refine hs_aload (i := 4) (p := 9) (by decide +kernel) rfl ?_
  refine hs_iload (i := 2) (p := 10) (by decide +kernel) rfl ?_
  have hHo := hH
  refine hs_calls (mi := 142) (na := 2) (lk := 7) (lm := 2) (L0 := eg_en (eg_mL 142) [.ref e, .int y]) (by decide +kernel) rfl rfl rfl rfl rfl rfl (by rw [show eg_mL 142 = 2 from by decide +kernel]; first | done | rfl) ?_
  refine (fd_needWn hH k_e hv.1.1 hw6 hy).mono (fun u hu => ?_)
  obtain ⟨c10, s10, rfl⟩ := hu
  refine hf_cx (by decide +kernel) ?_
  exact hol.rf
theorem ft_166d (hH : et_H et_TT w.1 w.2.2) (k_th0 : w.1 th = some 12) (h80 : et_pl (eg_at w.2.2 th) 8 = some (.ref sp)) (h0 : et_pl (eg_at w.2.2 th) 0 = some (.ref s0)) (k_s0 : w.1 s0 = some 10) (h5 : et_pl (eg_at w.2.2 s0) 5 = some (.int (Int32.ofNat ec))) (hec : ec ≤ 3) (h6 : et_pl (eg_at w.2.2 s0) 6 = some (.ref ya)) (k_ya : w.1 ya = some 40)  (hx : ¬ xr x ec) (hd : 5 ≤ d2) : et_go none d2 166 0 (eg_en (eg_mL 166) [.ref th, .int x, .int y, .int z]) [] w.2.2 0 0 (fun u => hol w.1 sp pa pi pn w.2.2 u.2.1) := by
  obtain ⟨d, rfl⟩ : ∃ d, d2 = d + 5 := ⟨d2 - 5, by omega⟩
  have hx0 : et_ex w.1 w.1 := et_ex.rf
  have hf : et_fr ey_M w.1 w.2.2 w.2.2 := et_fr.rf
  have k_th := k_th0
  rw [show eg_mL 166 = 7 from by decide +kernel]
  show et_go none (d + 5) 166 0 [some (.ref th), some (.int x), some (.int y), some (.int z), none, none, none] [] w.2.2 0 0 _
  refine hs_aload (i := 0) (p := 1) (by decide +kernel) rfl ?_
  refine hs_iload (i := 1) (p := 2) (by decide +kernel) rfl ?_
  have hHo := hH
  refine ht_callv (T := et_TT) (t := 12) (mi := 128) (na := 1) (ci := 10) (lk := 7) (lm := 2) (L0 := eg_en (eg_mL 128) [.ref th, .int x]) (by decide +kernel) rfl hH k_th rfl rfl rfl rfl rfl (by rw [show eg_mL 128 = 2 from by decide +kernel]; first | done | rfl) ?_
  refine (fd_needEn hH k_th h0 k_s0 h5 hec h6 k_ya hx).mono (fun u hu => ?_)
  obtain ⟨c2, s2, rfl⟩ := hu
  refine hf_cx (by decide +kernel) ?_
  exact hol.rf
theorem ft_167M {K : et_K} {G : eg_G} (hH : et_H et_TT K G) (hx0 : et_ex w.1 K) (hf : et_fr ey_M w.1 w.2.2 G) (hZ : soJ w.1 w.2.2 sp pa pi pn e ca ki kn v tn ls K G) (hse : ¬ sp = e) (hp : ¬ pa = pi ∧ ¬ pa = pn ∧ ¬ pi = pn) (hq : ∀ p c, p ∈ [pa, pi, pn] → c ∈ [ca, ki, kn] → ¬ p = c) (k_th0 : w.1 th = some 12) (h80 : et_pl (eg_at w.2.2 th) 8 = some (.ref sp)) (k_th : K th = some 12) (k_sp : K sp = some 3) (k_e : K e = some 3) (k_tn : K tn = some 11) (hcl : ∀ l ∈ ls, lcl1 l) (hc : n ≤ 5) (hr : row < 2147483648) : et_go none (d + 35) 167 61 [some (.ref th), some (.int x), some (.int y), some (.ref e), some (.ref tn), some (.int (Int32.ofNat n)), some (.int rows), some (.int (Int32.ofNat row))] [] G 0 0 (fun u => hol w.1 sp pa pi pn w.2.2 u.2.1) := by
  induction hm : 2147483648 - row using Nat.strongRecOn generalizing row K G with
  | _ z9 ih =>
    refine hs_iload (i := 7) (p := 63) (by decide +kernel) rfl ?_
    refine hs_iload (i := 6) (p := 65) (by decide +kernel) rfl ?_
    refine hs_br2 (c := .ge) (t := 94) (f := 68) (by decide +kernel) (fun (c65 : rows ≤ Int32.ofNat row) => ?_) (fun (c65 : ¬ (rows ≤ Int32.ofNat row)) => ?_)
    · refine hs_aload (i := 0) (p := 95) (by decide +kernel) rfl ?_
      refine ht_geti (T := et_TT) (t := 12) (ci := 10) (f := 10) (p := 98) (by decide +kernel) rfl rfl hH k_th (fun c95 h95 g95 e95 => ?_)
      refine hs_k (x := Int32.ofNat 50) (p := 100) (by decide +kernel) ?_
      refine hs_br2 (c := .le) (t := 107) (f := 103) (by decide +kernel) (fun (c100 : c95 ≤ Int32.ofNat 50) => ?_) (fun (c100 : ¬ (c95 ≤ Int32.ofNat 50)) => ?_)
      · refine hs_aload (i := 0) (p := 108) (by decide +kernel) rfl ?_
        refine ht_geti (T := et_TT) (t := 12) (ci := 10) (f := 10) (p := 111) (by decide +kernel) rfl rfl hH k_th (fun c108 h108 g108 e108 => ?_)
        refine hs_iret (by decide +kernel) ?_
        exact hZ.1
      · refine hs_k (x := (-1)) (p := 104) (by decide +kernel) ?_
        refine hs_goto (p := 111) (by decide +kernel) ?_
        refine hs_iret (by decide +kernel) ?_
        exact hZ.1
    · have h65 : row + 1 < 2147483648 := by
        have h9 := Int32.toInt_lt rows
        rw [Int32.le_iff_toInt_le, hs_nint hr] at c65
        omega
      refine hs_aload (i := 0) (p := 69) (by decide +kernel) rfl ?_
      refine hs_iload (i := 7) (p := 71) (by decide +kernel) rfl ?_
      refine hs_iload (i := 5) (p := 73) (by decide +kernel) rfl ?_
      have hHo := hH
      refine ht_callv (T := et_TT) (t := 12) (mi := 168) (na := 2) (ci := 10) (lk := 8) (lm := 6) (L0 := eg_en (eg_mL 168) [.ref th, .int (Int32.ofNat row), .int (Int32.ofNat n)]) (by decide +kernel) rfl hH k_th rfl rfl rfl rfl rfl (by rw [show eg_mL 168 = 6 from by decide +kernel]; first | done | rfl) ?_
      refine (ek_c23 (K, [], G) [.ref th, .int (Int32.ofNat row), .int (Int32.ofNat n)] _ hH (by show 1 ≤ _; omega) rfl (ht_ac (.inr ⟨by decide, _, rfl, k_th⟩) (ht_ac hi_any (ht_ac hi_any ht_an)))).mono (fun u hu => hs_cbv hu (fun v73 K73 G73 c73 s73 x73 f73 hH hv73 cl73 sl73 => ?_))
      have hZ := hZ.fr hx0 x73 hHo f73 (by decide +kernel)
      have k_th := x73 _ _ k_th
      have k_sp := x73 _ _ k_sp
      have k_e := x73 _ _ k_e
      have k_tn := x73 _ _ k_tn
      have hf := hf.tr hx0 (f73.wk (by decide +kernel))
      have hx0 := hx0.tr x73
      obtain rfl : c73 = 0 := Nat.le_zero.mp cl73
      obtain rfl : s73 = 0 := Nat.le_zero.mp sl73
      obtain ⟨n73, hn73, rfl⟩ := hi_nat hv73
      show et_go none _ 167 76 _ [.int (Int32.ofNat n73)] _ _ _ _
      refine hs_br1 (c := .eq) (t := 88) (f := 79) (by decide +kernel) (fun (c76 : Int32.ofNat n73 = 0) => ?_) (fun (c76 : ¬ (Int32.ofNat n73 = 0)) => ?_)
      · refine hs_iinc1 (i := 7) (p := 91) (by decide +kernel) rfl (Nat.le_of_ble_eq_true rfl) ?_
        refine hs_goto (p := 61) (by decide +kernel) ?_
        show et_go none _ 167 61 [some (.ref th), some (.int x), some (.int y), some (.ref e), some (.ref tn), some (.int (Int32.ofNat n)), some (.int rows), some (.int (Int32.ofNat (row + 1)))] [] _ _ _ _
        exact ih (2147483648 - (row + 1)) (by omega) hH hx0 hf hZ k_th k_sp k_e k_tn (by omega) rfl
      · refine hs_aload (i := 0) (p := 80) (by decide +kernel) rfl ?_
        refine hs_aload (i := 3) (p := 81) (by decide +kernel) rfl ?_
        refine hs_aload (i := 4) (p := 83) (by decide +kernel) rfl ?_
        refine hs_iload (i := 5) (p := 85) (by decide +kernel) rfl ?_
        have hHo := hH
        refine ht_callv (T := et_TT) (t := 12) (mi := 169) (na := 3) (ci := 10) (lk := 8) (lm := 8) (L0 := eg_en (eg_mL 169) [.ref th, .ref e, .ref tn, .int (Int32.ofNat n)]) (by decide +kernel) rfl hH k_th rfl rfl rfl rfl rfl (by rw [show eg_mL 169 = 8 from by decide +kernel]; first | done | rfl) ?_
        obtain ⟨z1, ⟨z2, z3⟩, z4, ⟨b1, b2, b3⟩, z5⟩ := id hZ
        refine ((ek_c25 (K73, [], G73) [.ref th, .ref e, .ref tn, .int (Int32.ofNat n)] _ hH (by show 34 ≤ _; omega) rfl (ht_ac (.inr ⟨by decide, _, rfl, k_th⟩) (ht_ac (.inr ⟨by decide, _, rfl, k_e⟩) (ht_ac (.inr ⟨by decide, _, rfl, k_tn⟩) (ht_ac (hi_nv (by omega) (by omega)) ht_an))))).and (ft_169Z (w := (K73, [], G73)) (v := v) (ls := ls) hH k_th ((hf.2 th 12 k_th0 8 (by decide +kernel)).trans h80) z3.1.1 z3.1.2.1 z3.1.2.2.1 z3.1.2.2.2 hse hp hq z2 z4 b1 b2 b3 z5 hcl hc (by omega))).mono (fun u hu => hs_cbnP (P := fun g => hol K73 sp pa pi pn G73 g) hu (fun K85 G85 c85 s85 x85 f85 hH cl85 sl85 hh85 => ?_))
        have hZ := hZ.ho hx0 x85 hHo hh85 f85 (by decide +kernel) hse hq
        have k_th := x85 _ _ k_th
        have k_sp := x85 _ _ k_sp
        have k_e := x85 _ _ k_e
        have k_tn := x85 _ _ k_tn
        have hf := hf.tr hx0 (f85.wk (by decide +kernel))
        have hx0 := hx0.tr x85
        obtain rfl : c85 = 0 := Nat.le_zero.mp cl85
        obtain rfl : s85 = 0 := Nat.le_zero.mp sl85
        show et_go none _ 167 88 _ [] _ _ _ _
        refine hs_iinc1 (i := 7) (p := 91) (by decide +kernel) rfl (Nat.le_of_ble_eq_true rfl) ?_
        refine hs_goto (p := 61) (by decide +kernel) ?_
        show et_go none _ 167 61 [some (.ref th), some (.int x), some (.int y), some (.ref e), some (.ref tn), some (.int (Int32.ofNat n)), some (.int rows), some (.int (Int32.ofNat (row + 1)))] [] _ _ _ _
        exact ih (2147483648 - (row + 1)) (by omega) hH hx0 hf hZ k_th k_sp k_e k_tn (by omega) rfl
theorem ft_167Q {K : et_K} {G : eg_G} (hH : et_H et_TT K G) (hx0 : et_ex w.1 K) (hf : et_fr ey_M w.1 w.2.2 G) (hZ : soJ w.1 w.2.2 sp pa pi pn e ca ki kn v tn ls K G) (hse : ¬ sp = e) (hp : ¬ pa = pi ∧ ¬ pa = pn ∧ ¬ pi = pn) (hq : ∀ p c, p ∈ [pa, pi, pn] → c ∈ [ca, ki, kn] → ¬ p = c) (k_th0 : w.1 th = some 12) (h80 : et_pl (eg_at w.2.2 th) 8 = some (.ref sp)) (k_th : K th = some 12) (k_sp : K sp = some 3) (k_e : K e = some 3) (k_tn : K tn = some 11) (hcl : ∀ l ∈ ls, lcl1 l) (hc : n ≤ 5) (hr : row ≤ 5) : et_go none (d + 35) 167 38 [some (.ref th), some (.int x), some (.int y), some (.ref e), some (.ref tn), some (.int (Int32.ofNat n)), some (.int rows), some (.int (Int32.ofNat row))] [] G 0 0 (fun u => hol w.1 sp pa pi pn w.2.2 u.2.1) := by
  induction hm : 5 - row using Nat.strongRecOn generalizing row rows with
  | _ z9 ih =>
    refine hs_iload (i := 7) (p := 40) (by decide +kernel) rfl ?_
    refine hs_iload (i := 5) (p := 42) (by decide +kernel) rfl ?_
    refine hs_br2n (c := .ge) (t := 58) (f := 45) (by decide +kernel) (by omega) (by omega) (fun (c42 : n ≤ row) => ?_) (fun (c42 : ¬ (n ≤ row)) => ?_)
    · refine hs_k (x := Int32.ofNat 0) (p := 59) (by decide +kernel) ?_
      refine hs_istore (i := 7) (p := 61) (by decide +kernel) (Nat.le_of_ble_eq_true rfl) ?_
      show et_go none _ 167 61 [some (.ref th), some (.int x), some (.int y), some (.ref e), some (.ref tn), some (.int (Int32.ofNat n)), some (.int rows), some (.int (Int32.ofNat 0))] [] _ _ _ _
      exact ft_167M hH hx0 hf hZ hse hp hq k_th0 h80 k_th k_sp k_e k_tn hcl hc (by decide)
    · refine hs_iload (i := 6) (p := 47) (by decide +kernel) rfl ?_
      refine hs_iload (i := 5) (p := 49) (by decide +kernel) rfl ?_
      refine hs_imul (p := 50) (by decide +kernel) ?_
      refine hs_istore (i := 6) (p := 52) (by decide +kernel) (Nat.le_of_ble_eq_true rfl) ?_
      refine hs_iinc1 (i := 7) (p := 55) (by decide +kernel) rfl (Nat.le_of_ble_eq_true rfl) ?_
      refine hs_goto (p := 38) (by decide +kernel) ?_
      show et_go none _ 167 38 [some (.ref th), some (.int x), some (.int y), some (.ref e), some (.ref tn), some (.int (Int32.ofNat n)), some (.int (rows * Int32.ofNat n)), some (.int (Int32.ofNat (row + 1)))] [] _ _ _ _
      exact ih (5 - (row + 1)) (by omega) (by omega) rfl
theorem ft_167a (hH : et_H et_TT w.1 w.2.2) (k_th0 : w.1 th = some 12) (h80 : et_pl (eg_at w.2.2 th) 8 = some (.ref sp)) (h0 : et_pl (eg_at w.2.2 th) 0 = some (.ref s0)) (k_s0 : w.1 s0 = some 10) (h5 : et_pl (eg_at w.2.2 s0) 5 = some (.int (Int32.ofNat ec))) (hec : ec ≤ 3) (h6 : et_pl (eg_at w.2.2 s0) 6 = some (.ref ya)) (k_ya : w.1 ya = some 40) (hn : m < ec) (hE : et_pl (eg_at w.2.2 ya) m = some (.ref e)) (g7 : et_pl (eg_at w.2.2 s0) 7 = some (.int (Int32.ofNat tc))) (htc : tc ≤ 4) (g8 : et_pl (eg_at w.2.2 s0) 8 = some (.ref ta)) (k_ta : w.1 ta = some 38) (hk : k < tc) (hT : et_pl (eg_at w.2.2 ta) k = some (.ref tn)) (k_sp0 : w.1 sp = some 3) (k_pa0 : w.1 pa = some 15) (k_pi0 : w.1 pi = some 15) (k_pn0 : w.1 pn = some 15) (hse : ¬ sp = e) (hp : ¬ pa = pi ∧ ¬ pa = pn ∧ ¬ pi = pn) (hq : ∀ p c, p ∈ [pa, pi, pn] → c ∈ [ca, ki, kn] → ¬ p = c) (t9 : evK w.1 e ca ki kn v.1 v.2.2.1) (hv : evc w.2.2 e ca ki kn v) (a1 : et_pl (eg_at w.2.2 sp) 1 = some (.ref pa)) (a2 : et_pl (eg_at w.2.2 sp) 2 = some (.ref pi)) (a3 : et_pl (eg_at w.2.2 sp) 3 = some (.ref pn)) (ht : tuC w.1 w.2.2 tn ls) (hcl : ∀ l ∈ ls, lcl1 l) (hd : 35 ≤ d2) : et_go none d2 167 0 (eg_en (eg_mL 167) [.ref th, .int (Int32.ofNat m), .int (Int32.ofNat k)]) [] w.2.2 0 0 (fun u => hol w.1 sp pa pi pn w.2.2 u.2.1) := by
  obtain ⟨d, rfl⟩ : ∃ d, d2 = d + 35 := ⟨d2 - 35, by omega⟩
  have hx0 : et_ex w.1 w.1 := et_ex.rf
  have hf : et_fr ey_M w.1 w.2.2 w.2.2 := et_fr.rf
  have k_th := k_th0
  have k_sp := k_sp0
  have k_pa := k_pa0
  have k_pi := k_pi0
  have k_pn := k_pn0
  rw [show eg_mL 167 = 8 from by decide +kernel]
  show et_go none (d + 35) 167 0 [some (.ref th), some (.int (Int32.ofNat m)), some (.int (Int32.ofNat k)), none, none, none, none, none] [] w.2.2 0 0 _
  have k_e := t9.1.1
  have k_tn := ht.kt
  have hZ : soJ w.1 w.2.2 sp pa pi pn e ca ki kn v tn ls w.1 w.2.2 := ⟨hol.rf, ⟨t9, ⟨⟨k_sp, k_pa, k_pi, k_pn⟩, t9.2⟩⟩, hv, ⟨a1, a2, a3⟩, ht⟩
  refine hs_aload (i := 0) (p := 1) (by decide +kernel) rfl ?_
  refine hs_iload (i := 1) (p := 2) (by decide +kernel) rfl ?_
  have hHo := hH
  refine ht_callv (T := et_TT) (t := 12) (mi := 128) (na := 1) (ci := 10) (lk := 8) (lm := 2) (L0 := eg_en (eg_mL 128) [.ref th, .int (Int32.ofNat m)]) (by decide +kernel) rfl hH k_th rfl rfl rfl rfl rfl (by rw [show eg_mL 128 = 2 from by decide +kernel]; first | done | rfl) ?_
  refine (fd_needE hH k_th h0 k_s0 h5 hec h6 k_ya hn hE).mono (fun u hu => xp_cb hu ?_)
  show et_go none _ 167 5 _ [.ref e] _ _ _ _
  refine hs_astore (i := 3) (p := 6) (by decide +kernel) (Nat.le_of_ble_eq_true rfl) ?_
  refine hs_aload (i := 0) (p := 7) (by decide +kernel) rfl ?_
  refine hs_iload (i := 2) (p := 8) (by decide +kernel) rfl ?_
  have hHo := hH
  refine ht_callv (T := et_TT) (t := 12) (mi := 147) (na := 1) (ci := 10) (lk := 8) (lm := 2) (L0 := eg_en (eg_mL 147) [.ref th, .int (Int32.ofNat k)]) (by decide +kernel) rfl hH k_th rfl rfl rfl rfl rfl (by rw [show eg_mL 147 = 2 from by decide +kernel]; first | done | rfl) ?_
  refine (fd_needT hH k_th h0 k_s0 g7 htc g8 k_ta hk hT).mono (fun u hu => xp_cb hu ?_)
  show et_go none _ 167 11 _ [.ref tn] _ _ _ _
  refine hs_astore (i := 4) (p := 13) (by decide +kernel) (Nat.le_of_ble_eq_true rfl) ?_
  refine hs_aload (i := 0) (p := 14) (by decide +kernel) rfl ?_
  refine hs_k (x := Int32.ofNat 51) (p := 16) (by decide +kernel) ?_
  have hHo := hH
  refine ht_put (M := [(12, 10, 10)]) (T := et_TT) (t := 12) (ci := 10) (f := 10) (p := 19) (ty := .int) (by decide +kernel) rfl rfl rfl rfl rfl (by decide +kernel) hH k_th hi_any (fun G16 hH f16 e16 => ?_)
  have hZ := hZ.fr hx0 et_ex.rf hHo f16 (by decide +kernel)
  have hf := hf.tr hx0 (f16.wk (by decide +kernel))
  refine hs_aload (i := 0) (p := 20) (by decide +kernel) rfl ?_
  refine ht_getr (T := et_TT) (t := 12) (ci := 10) (f := 0) (p := 23) (by decide +kernel) rfl rfl hH k_th (fun a20 k_a20 e20 => ?_)
  refine ht_getn (T := et_TT) (t := 10) (ci := 8) (f := 2) (p := 26) (by decide +kernel) rfl rfl hH k_a20 (fun c23 h23 e23 => ?_)
  refine hs_k (x := Int32.ofNat 5) (p := 27) (by decide +kernel) ?_
  refine hs_math (mi := 311) (lk := 8) (p := 30) (by decide +kernel) rfl rfl rfl rfl ?_
  obtain ⟨n, hn9, en⟩ : ∃ n : Nat, n ≤ 5 ∧ (if Int32.ofNat 5 < Int32.ofNat c23 then Int32.ofNat 5 else Int32.ofNat c23) = Int32.ofNat n := by
    by_cases h : 5 < c23
    · exact ⟨5, Nat.le_refl _, if_pos ((hs_nlt (by decide) (by omega)).mpr h)⟩
    · exact ⟨c23, by omega, if_neg (fun h9 => h ((hs_nlt (by decide) (by omega)).mp h9))⟩
  rw [en]
  refine hs_istore (i := 5) (p := 32) (by decide +kernel) (Nat.le_of_ble_eq_true rfl) ?_
  refine hs_k (x := Int32.ofNat 1) (p := 33) (by decide +kernel) ?_
  refine hs_istore (i := 6) (p := 35) (by decide +kernel) (Nat.le_of_ble_eq_true rfl) ?_
  refine hs_k (x := Int32.ofNat 0) (p := 36) (by decide +kernel) ?_
  refine hs_istore (i := 7) (p := 38) (by decide +kernel) (Nat.le_of_ble_eq_true rfl) ?_
  show et_go none _ 167 38 [some (.ref th), some (.int (Int32.ofNat m)), some (.int (Int32.ofNat k)), some (.ref e), some (.ref tn), some (.int (Int32.ofNat n)), some (.int (Int32.ofNat 1)), some (.int (Int32.ofNat 0))] [] _ _ _ _
  exact ft_167Q hH hx0 hf hZ hse hp hq k_th0 h80 k_th k_sp k_e k_tn hcl hn9 (by decide)
theorem ft_167b (hH : et_H et_TT w.1 w.2.2) (k_th0 : w.1 th = some 12) (h80 : et_pl (eg_at w.2.2 th) 8 = some (.ref sp)) (h0 : et_pl (eg_at w.2.2 th) 0 = some (.ref s0)) (k_s0 : w.1 s0 = some 10) (h5 : et_pl (eg_at w.2.2 s0) 5 = some (.int (Int32.ofNat ec))) (hec : ec ≤ 3) (h6 : et_pl (eg_at w.2.2 s0) 6 = some (.ref ya)) (k_ya : w.1 ya = some 40) (hn : m < ec) (hE : et_pl (eg_at w.2.2 ya) m = some (.ref e)) (g7 : et_pl (eg_at w.2.2 s0) 7 = some (.int (Int32.ofNat tc))) (htc : tc ≤ 4) (g8 : et_pl (eg_at w.2.2 s0) 8 = some (.ref ta)) (k_ta : w.1 ta = some 38) (hy : ¬ xr y tc) (hd : 35 ≤ d2) : et_go none d2 167 0 (eg_en (eg_mL 167) [.ref th, .int (Int32.ofNat m), .int y]) [] w.2.2 0 0 (fun u => hol w.1 sp pa pi pn w.2.2 u.2.1) := by
  obtain ⟨d, rfl⟩ : ∃ d, d2 = d + 35 := ⟨d2 - 35, by omega⟩
  have hx0 : et_ex w.1 w.1 := et_ex.rf
  have hf : et_fr ey_M w.1 w.2.2 w.2.2 := et_fr.rf
  have k_th := k_th0
  rw [show eg_mL 167 = 8 from by decide +kernel]
  show et_go none (d + 35) 167 0 [some (.ref th), some (.int (Int32.ofNat m)), some (.int y), none, none, none, none, none] [] w.2.2 0 0 _
  refine hs_aload (i := 0) (p := 1) (by decide +kernel) rfl ?_
  refine hs_iload (i := 1) (p := 2) (by decide +kernel) rfl ?_
  have hHo := hH
  refine ht_callv (T := et_TT) (t := 12) (mi := 128) (na := 1) (ci := 10) (lk := 8) (lm := 2) (L0 := eg_en (eg_mL 128) [.ref th, .int (Int32.ofNat m)]) (by decide +kernel) rfl hH k_th rfl rfl rfl rfl rfl (by rw [show eg_mL 128 = 2 from by decide +kernel]; first | done | rfl) ?_
  refine (fd_needE hH k_th h0 k_s0 h5 hec h6 k_ya hn hE).mono (fun u hu => xp_cb hu ?_)
  show et_go none _ 167 5 _ [.ref e] _ _ _ _
  refine hs_astore (i := 3) (p := 6) (by decide +kernel) (Nat.le_of_ble_eq_true rfl) ?_
  refine hs_aload (i := 0) (p := 7) (by decide +kernel) rfl ?_
  refine hs_iload (i := 2) (p := 8) (by decide +kernel) rfl ?_
  have hHo := hH
  refine ht_callv (T := et_TT) (t := 12) (mi := 147) (na := 1) (ci := 10) (lk := 8) (lm := 2) (L0 := eg_en (eg_mL 147) [.ref th, .int y]) (by decide +kernel) rfl hH k_th rfl rfl rfl rfl rfl (by rw [show eg_mL 147 = 2 from by decide +kernel]; first | done | rfl) ?_
  refine (fd_needTn hH k_th h0 k_s0 g7 htc g8 k_ta hy).mono (fun u hu => ?_)
  obtain ⟨c8, s8, rfl⟩ := hu
  refine hf_cx (by decide +kernel) ?_
  exact hol.rf
theorem ft_167c (hH : et_H et_TT w.1 w.2.2) (k_th0 : w.1 th = some 12) (h80 : et_pl (eg_at w.2.2 th) 8 = some (.ref sp)) (h0 : et_pl (eg_at w.2.2 th) 0 = some (.ref s0)) (k_s0 : w.1 s0 = some 10) (h5 : et_pl (eg_at w.2.2 s0) 5 = some (.int (Int32.ofNat ec))) (hec : ec ≤ 3) (h6 : et_pl (eg_at w.2.2 s0) 6 = some (.ref ya)) (k_ya : w.1 ya = some 40)  (hx : ¬ xr x ec) (hd : 35 ≤ d2) : et_go none d2 167 0 (eg_en (eg_mL 167) [.ref th, .int x, .int y]) [] w.2.2 0 0 (fun u => hol w.1 sp pa pi pn w.2.2 u.2.1) := by
  obtain ⟨d, rfl⟩ : ∃ d, d2 = d + 35 := ⟨d2 - 35, by omega⟩
  have hx0 : et_ex w.1 w.1 := et_ex.rf
  have hf : et_fr ey_M w.1 w.2.2 w.2.2 := et_fr.rf
  have k_th := k_th0
  rw [show eg_mL 167 = 8 from by decide +kernel]
  show et_go none (d + 35) 167 0 [some (.ref th), some (.int x), some (.int y), none, none, none, none, none] [] w.2.2 0 0 _
  refine hs_aload (i := 0) (p := 1) (by decide +kernel) rfl ?_
  refine hs_iload (i := 1) (p := 2) (by decide +kernel) rfl ?_
  have hHo := hH
  refine ht_callv (T := et_TT) (t := 12) (mi := 128) (na := 1) (ci := 10) (lk := 8) (lm := 2) (L0 := eg_en (eg_mL 128) [.ref th, .int x]) (by decide +kernel) rfl hH k_th rfl rfl rfl rfl rfl (by rw [show eg_mL 128 = 2 from by decide +kernel]; first | done | rfl) ?_
  refine (fd_needEn hH k_th h0 k_s0 h5 hec h6 k_ya hx).mono (fun u hu => ?_)
  obtain ⟨c2, s2, rfl⟩ := hu
  refine hf_cx (by decide +kernel) ?_
  exact hol.rf
end VTC
