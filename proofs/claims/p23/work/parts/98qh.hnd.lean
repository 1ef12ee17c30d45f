section
/-! COUNTS ON BOTH SIDES: pairs of a field of the class's state and a place of the reference's world; now, and kept -/
def rc (ks : List (Nat × Nat)) (K : et_K) (G : eg_G) (th s0 s1 : Nat) (c i : Nat → Nat) : Prop := (K s0 = some 10 ∧ K s1 = some 10 ∧ ¬ s0 = s1) ∧ (et_pl (eg_at G th) 0 = some (.ref s0) ∧ et_pl (eg_at G th) 1 = some (.ref s1)) ∧ ∀ q ∈ ks, et_pl (eg_at G s0) q.1 = some (.int (Int32.ofNat (c q.2))) ∧ et_pl (eg_at G s1) q.1 = some (.int (Int32.ofNat (i q.2)))
def rm (ks : List (Nat × Nat)) (K : et_K) (G : eg_G) (am aw ai : Nat) (c i : Nat → Nat) : Prop := (K aw = some 46 ∧ K ai = some 47) ∧ (et_pl (eg_at G am) 1 = some (.ref aw) ∧ et_pl (eg_at G am) 2 = some (.ref ai)) ∧ ∀ q ∈ ks, et_pl (eg_at G aw) q.2 = some (.int (Int32.ofNat (c q.2))) ∧ et_pl (eg_at G ai) q.2 = some (.int (Int32.ofNat (i q.2)))
def rc_k (ks : List (Nat × Nat)) (M : et_M) : Bool := !et_mm M 12 0 && (!et_mm M 12 1 && ks.all (fun q => !et_mm M 10 q.1))
def rm_k (ks : List (Nat × Nat)) (M : et_M) : Bool := !et_mm M 13 1 && (!et_mm M 13 2 && ks.all (fun q => !et_mm M 46 q.2 && !et_mm M 47 q.2))
theorem rc.fr {ks : List (Nat × Nat)} {K K' : et_K} {G G' : eg_G} {M : et_M} {th s0 s1 : Nat} {c i : Nat → Nat} (h : rc ks K G th s0 s1 c i) (ht : K th = some 12) (hx : et_ex K K') (hf : et_fr M K G G') (hk : rc_k ks M = true) : rc ks K' G' th s0 s1 c i := by
  unfold rc_k at hk
  rw [Bool.and_eq_true, Bool.and_eq_true] at hk
  obtain ⟨k1, k2, k3⟩ := hk
  obtain ⟨⟨h1, h2, h3⟩, ⟨h4, h5⟩, h6⟩ := h
  refine ⟨⟨hx _ _ h1, hx _ _ h2, h3⟩, ⟨(hf.2 th 12 ht 0 (by simpa using k1)).trans h4, (hf.2 th 12 ht 1 (by simpa using k2)).trans h5⟩, fun q hq => ?_⟩
  have k4 := List.all_eq_true.mp k3 q hq
  exact ⟨(hf.2 s0 10 h1 q.1 (by simpa using k4)).trans (h6 q hq).1, (hf.2 s1 10 h2 q.1 (by simpa using k4)).trans (h6 q hq).2⟩
theorem rm.fr {ks : List (Nat × Nat)} {K K' : et_K} {G G' : eg_G} {M : et_M} {am aw ai : Nat} {c i : Nat → Nat} (h : rm ks K G am aw ai c i) (ht : K am = some 13) (hx : et_ex K K') (hf : et_fr M K G G') (hk : rm_k ks M = true) : rm ks K' G' am aw ai c i := by
  unfold rm_k at hk
  rw [Bool.and_eq_true, Bool.and_eq_true] at hk
  obtain ⟨k1, k2, k3⟩ := hk
  obtain ⟨⟨h1, h2⟩, ⟨h4, h5⟩, h6⟩ := h
  refine ⟨⟨hx _ _ h1, hx _ _ h2⟩, ⟨(hf.2 am 13 ht 1 (by simpa using k1)).trans h4, (hf.2 am 13 ht 2 (by simpa using k2)).trans h5⟩, fun q hq => ?_⟩
  have k4 := List.all_eq_true.mp k3 q hq
  rw [Bool.and_eq_true] at k4
  exact ⟨(hf.2 aw 46 h1 q.2 (by simpa using k4.1)).trans (h6 q hq).1, (hf.2 ai 47 h2 q.2 (by simpa using k4.2)).trans (h6 q hq).2⟩
def rc_up (f : Nat → Nat) (k v : Nat) : Nat → Nat := fun j => if j = k then v else f j
theorem rc_upb {f : Nat → Nat} {k v : Nat} (h : ∀ k, f k ≤ 400) (hv : v ≤ 400) : ∀ j, rc_up f k v j ≤ 400 := fun j => by
  unfold rc_up
  split
  · exact hv
  · exact h j
/-- one count of the present state becomes another -/
theorem rc.up {S : Nat → Nat → Prop} {ks : List (Nat × Nat)} {K K' : et_K} {G G' : eg_G} {th s0 s1 k0 f v : Nat} {c i : Nat → Nat} (h : rc ks K G th s0 s1 c i) (hH : et_H et_TT K G) (ht : K th = some 12) (hx : et_ex K K') (hf : xf S G G') (hS : ∀ a j t, K a = some t → S a j → (t = 12 → 2 ≤ j) ∧ (t = 10 → a = s0 ∧ j = f)) (hv : et_pl (eg_at G' s0) f = some (.int (Int32.ofNat v))) (hk : ks.all (fun q => (q.1 == f) == (q.2 == k0)) = true) : rc ks K' G' th s0 s1 (rc_up c k0 v) i := by
  obtain ⟨⟨h1, h2, h3⟩, ⟨h4, h5⟩, h6⟩ := h
  refine ⟨⟨hx _ _ h1, hx _ _ h2, h3⟩, ⟨(hf.2 th 0 (hH.2.2 _ _ ht).1 (fun hs => ?_)).trans h4, (hf.2 th 1 (hH.2.2 _ _ ht).1 (fun hs => ?_)).trans h5⟩, fun q hq => ⟨?_, ?_⟩⟩
  · have := (hS th 0 12 ht hs).1 rfl
    omega
  · have := (hS th 1 12 ht hs).1 rfl
    omega
  · have k4 := beq_iff_eq.mp (List.all_eq_true.mp hk q hq)
    by_cases e : q.1 = f
    · rw [e, beq_self_eq_true] at k4
      rw [e, show rc_up c k0 v q.2 = v from if_pos (beq_iff_eq.mp k4.symm)]
      exact hv
    · have e2 : ¬ q.2 = k0 := fun e2 => by
        rw [e2, beq_self_eq_true, beq_iff_eq] at k4
        exact e k4
      rw [show rc_up c k0 v q.2 = c q.2 from if_neg e2]
      exact (hf.2 s0 q.1 (hH.2.2 _ _ h1).1 (fun hs => e ((hS s0 q.1 10 h1 hs).2 rfl).2)).trans (h6 q hq).1
  · exact (hf.2 s1 q.1 (hH.2.2 _ _ h2).1 (fun hs => h3 ((hS s1 q.1 10 h2 hs).2 rfl).1.symm)).trans (h6 q hq).2
theorem rm.up {S : Nat → Nat → Prop} {ks : List (Nat × Nat)} {K K' : et_K} {G G' : eg_G} {am aw ai k0 v : Nat} {c i : Nat → Nat} (h : rm ks K G am aw ai c i) (hH : et_H et_TT K G) (ht : K am = some 13) (hx : et_ex K K') (hf : xf S G G') (hS : ∀ a j t, K a = some t → S a j → (t = 13 → j = 0 ∨ 3 ≤ j) ∧ ((t = 46 → j = k0 ∨ 5 ≤ j) ∧ ¬ t = 47)) (hv : et_pl (eg_at G' aw) k0 = some (.int (Int32.ofNat v))) (hk : ks.all (fun q => Nat.blt q.2 5) = true) : rm ks K' G' am aw ai (rc_up c k0 v) i := by
  obtain ⟨⟨h1, h2⟩, ⟨h4, h5⟩, h6⟩ := h
  refine ⟨⟨hx _ _ h1, hx _ _ h2⟩, ⟨(hf.2 am 1 (hH.2.2 _ _ ht).1 (fun hs => ?_)).trans h4, (hf.2 am 2 (hH.2.2 _ _ ht).1 (fun hs => ?_)).trans h5⟩, fun q hq => ⟨?_, ?_⟩⟩
  · have := (hS am 1 13 ht hs).1 rfl
    omega
  · have := (hS am 2 13 ht hs).1 rfl
    omega
  · have k4 : q.2 < 5 := Nat.le_of_ble_eq_true (List.all_eq_true.mp hk q hq)
    by_cases e : q.2 = k0
    · rw [show rc_up c k0 v q.2 = v from if_pos e, e]
      exact hv
    · rw [show rc_up c k0 v q.2 = c q.2 from if_neg e]
      refine (hf.2 aw q.2 (hH.2.2 _ _ h1).1 (fun hs => ?_)).trans (h6 q hq).1
      have := (hS aw q.2 46 h1 hs).2.1 rfl
      omega
  · exact (hf.2 ai q.2 (hH.2.2 _ _ h2).1 (fun hs => (hS ai q.2 47 h2 hs).2.2 rfl)).trans (h6 q hq).2
theorem hf_bd {T : List et_D} {K : et_K} {G : eg_G} {a t ci f e : Nat} {hi : Int} {ps : List et_P} (hH : et_H T K G) (ha : K a = some t) (hT : T[t]? = some (.inl (ci, ps))) (hp : ps[f]? = some (.inl (0, hi))) (hv : et_pl (eg_at G a) f = some (.int (Int32.ofNat e))) (he : e ≤ 400) : (e : Int) ≤ hi := by
  obtain ⟨-, -, -, dd, hd, hcc, -⟩ := hH.2.2 a t ha
  rw [hT] at hd
  cases hd
  obtain ⟨fs, e1, el, ef⟩ := hcc
  obtain ⟨v, h1, h2⟩ := ef f _ hp
  rw [e1] at hv
  have hv : fs[f]? = some (.int (Int32.ofNat e)) := hv
  rw [h1] at hv
  cases hv
  obtain ⟨x, hx, h3, h4⟩ := h2.resolve_left (fun h => nomatch (show false = true from h))
  cases hx
  rw [hs_nint (by omega)] at h4
  exact h4
theorem hm_oo {G : eg_G} {am aw b : Nat} {F : Nat → Value} {W : Nat → Int32} (h1 : ¬ b = am) (h2 : ¬ b = aw) : eg_at (hm_H G am aw F W) b = eg_at G b := by
  unfold hm_H
  rw [et_at_u h2, et_at_u h1]
section LFA
variable {K : et_K} {G : eg_G} {d2 am aw ai h : Nat}
/-- the reference's image: the world as far as it is kept -/
theorem fm_image (hH : et_H et_TT K G) (k_am : K am = some 13) (h1 : et_pl (eg_at G am) 1 = some (.ref aw)) (h2 : et_pl (eg_at G am) 2 = some (.ref ai)) : et_go none d2 175 0 (eg_en (eg_mL 175) [.ref am]) [] G 0 0 (fun u => ∀ k, k < 11900 → et_pl (eg_at u.2.1 aw) k = et_pl (eg_at G aw) k ∧ et_pl (eg_at u.2.1 ai) k = et_pl (eg_at G aw) k) := by
  obtain ⟨F, W, aw', hA, eF, eW, hw, hKw, hF, hX, hW, hG, e⟩ := hi_mod hH k_am
  obtain rfl : aw' = aw := by
    rw [eF, hi_pF (by decide), hw] at h1
    exact Value.ref.inj (Option.some.inj h1)
  obtain ⟨ia, hi, hKi⟩ := hi_ref (hF 2 _ rfl)
  obtain rfl : ia = ai := by
    rw [eF, hi_pF (by decide), hi] at h2
    exact Value.ref.inj (Option.some.inj h2)
  obtain ⟨I, eI, -, -⟩ := hi_arr hH hKi et_t47 (by decide) (.inl rfl)
  have n1 := hi_ne hKi k_am (by decide)
  have n2 := hi_ne hKi hKw (by decide)
  have g3 := hi_at hH hKi (by decide)
  rw [hi_mL175]
  have h0 := rp_image (d := d2) (Z := fun u => ∀ k, k < 11900 → et_pl (eg_at u.2.1 aw') k = et_pl (eg_at G aw') k ∧ et_pl (eg_at u.2.1 ia) k = et_pl (eg_at G aw') k) hA hw hi n1 n2 g3 eI (fun I' h1 k hk => by
    have hA2 : hm_ok (eg_u G ia (.inl (0, (11900, .inl I')))) am aw' := hA
    dsimp only
    rw [hm_w hA2, hm_oo n1 n2, et_at_us g3.1, eW, hi_pW (by omega), hf_pl (.inl rfl), if_pos hk, h1 k hk]
    exact ⟨rfl, rfl⟩)
  rw [← e] at h0
  exact h0
theorem fm_back (hH : et_H et_TT K G) (k_am : K am = some 13) (h1 : et_pl (eg_at G am) 1 = some (.ref aw)) (h2 : et_pl (eg_at G am) 2 = some (.ref ai)) (hg : pg_at G am h) (hh1 : h ≤ 1) : et_go none d2 176 0 (eg_en (eg_mL 176) [.ref am]) [] G 0 0 (fun u => ∀ k, k < 11900 → et_pl (eg_at u.2.1 aw) k = (if h = 0 then et_pl (eg_at G aw) k else et_pl (eg_at G ai) k) ∧ et_pl (eg_at u.2.1 ai) k = et_pl (eg_at G ai) k) := by
  obtain ⟨F, W, aw', hA, eF, eW, hw, hKw, hF, hX, hW, hG, e⟩ := hi_mod hH k_am
  obtain rfl : aw' = aw := by
    rw [eF, hi_pF (by decide), hw] at h1
    exact Value.ref.inj (Option.some.inj h1)
  obtain ⟨ia, hi, hKi⟩ := hi_ref (hF 2 _ rfl)
  obtain rfl : ia = ai := by
    rw [eF, hi_pF (by decide), hi] at h2
    exact Value.ref.inj (Option.some.inj h2)
  obtain ⟨I, eI, -, -⟩ := hi_arr hH hKi et_t47 (by decide) (.inl rfl)
  obtain ⟨ak, hai, hKa⟩ := hi_ref (hF 18 _ rfl)
  obtain ⟨IK, eA, -, -⟩ := hi_arr (kd := 3) (n := 4) hH hKa rfl (by decide) (.inr (.inr (.inl rfl)))
  have hh := hi_h3 eF hg
  have n1 := hi_ne hKi k_am (by decide)
  have n2 := hi_ne hKi hKw (by decide)
  have g3 := hi_at hH hKi (by decide)
  have n4 : am ≠ ak := hi_ne k_am hKa (by decide)
  have n5 : aw' ≠ ak := hi_ne hKw hKa (by decide)
  have n6 : ia ≠ ak := hi_ne hKi hKa (by decide)
  rw [hi_mL176]
  have h0 := rp_back (d := d2) (Z := fun u => ∀ k, k < 11900 → et_pl (eg_at u.2.1 aw') k = (if h = 0 then et_pl (eg_at G aw') k else et_pl (eg_at G ia) k) ∧ et_pl (eg_at u.2.1 ia) k = et_pl (eg_at G ia) k) hA hw hi hh n1 n2 g3 eI hai (fun h => n4 h.symm) (fun h => n5 h.symm) (hi_at hH hKa (by decide)) eA
    (fun z k hk => by
      dsimp only
      rw [if_pos (hi_b0 hh1 (fun hz => hz z)), hm_w hA, hm_oo n1 n2, eW]
      exact ⟨rfl, rfl⟩)
    (fun z V K' v1 v2 v3 k hk => by
      have hA2 : hm_ok (eg_u G ak (.inl (3, (4, .inl K')))) am aw' := hA
      have e1 : ¬ h = 0 := by
        have := hi_b1 hh1 z
        omega
      dsimp only
      rw [if_neg e1, hm_w hA2, hm_oo n1 n2, et_at_u n6, eI, hi_pW (by omega), hf_pl (.inl rfl), if_pos hk, v1 k hk]
      exact ⟨rfl, rfl⟩)
  rw [← e] at h0
  exact h0
end LFA
section LFB
variable {T : List et_D} {M : et_M} {sc : eg_Sc} {d k pc ck sk : Nat} {L : eg_Ls} {st r : List Value} {G : eg_G} {Z : eg_O → Prop} {w : et_Wd} {u : eg_O} {c s : Nat} {P : eg_G → Prop} {K : et_K} {th : Nat} {v : Value} {Q : eg_O → Prop}
theorem ls_cbvQ {q : et_P} (hu : hi_Z T w M [(.inl (some q), c, s)] u ∧ Q u) (h : ∀ (v : Value) (K' : et_K) (G' : eg_G) (c' s' : Nat), et_ex w.1 K' → et_fr M w.1 w.2.2 G' → et_H T K' G' → et_v K' q v → c' ≤ c → s' ≤ s → Q (.inl (some v), G', c', s') → et_go sc d k (pc + 3) L (v :: r) G' (ck + c') (sk + s') Z) : ls_cont sc d k pc L r ck sk Z u := by
  obtain ⟨⟨e, he, K', h1, h2, h3, h4, h5, h6⟩, hQ⟩ := hu
  obtain rfl := List.mem_singleton.mp he
  obtain ⟨v, hv1, hv2⟩ := h4
  obtain ⟨u1, u2, u3, u4⟩ := u
  have hv1 : u1 = .inl (some v) := hv1
  subst hv1
  exact ls_cb (h v K' u2 u3 u4 h1 h2 h3 hv2 h5 h6 hQ)
theorem ls_cbnQ (hu : hi_Z T w M [(.inl none, c, s)] u ∧ Q u) (h : ∀ (K' : et_K) (G' : eg_G) (c' s' : Nat), et_ex w.1 K' → et_fr M w.1 w.2.2 G' → et_H T K' G' → c' ≤ c → s' ≤ s → Q (.inl none, G', c', s') → et_go sc d k (pc + 3) L r G' (ck + c') (sk + s') Z) : ls_cont sc d k pc L r ck sk Z u := by
  obtain ⟨⟨e, he, K', h1, h2, h3, h4, h5, h6⟩, hQ⟩ := hu
  obtain rfl := List.mem_singleton.mp he
  obtain ⟨u1, u2, u3, u4⟩ := u
  have h4 : u1 = .inl none := h4
  subst h4
  exact ls_cb (h K' u2 u3 u4 h1 h2 h3 h5 h6 hQ)
theorem ls_cbrQ (hu : pr_Z M K G th [] c s P u ∧ Q u) (h : ∀ (n : Int32) (K' : et_K) (G' : eg_G) (c' s' : Nat), et_ex K K' → et_fr M K G G' → et_H et_TT K' G' → ci K' G' th → P G' → c' ≤ c → s' ≤ s → Q (.inl (some (.int n)), G', c', s') → et_go sc d k (pc + 3) L (.int n :: r) G' (ck + c') (sk + s') Z) : ls_cont sc d k pc L r ck sk Z u := by
  obtain ⟨⟨K', h1, h2, h3, h4, h5, h6, h7, h8⟩, hQ⟩ := hu
  obtain ⟨u1, u2, u3, u4⟩ := u
  rcases h6 with ⟨n, e⟩ | ⟨x, hx, -⟩
  · have e : u1 = .inl (some (.int n)) := e
    subst e
    exact ls_cb (h n K' u2 u3 u4 h1 h2 h3 h4 h5 h7 h8 hQ)
  · exact absurd hx List.not_mem_nil
theorem ls_cbwQ (hu : pv_Z M K G th u ∧ Q u) (h : ∀ (K' : et_K) (G' : eg_G), et_ex K K' → et_fr M K G G' → et_H et_TT K' G' → ci K' G' th → Q (.inl none, G', 0, 0) → et_go sc d k (pc + 3) L r G' ck sk Z) : ls_cont sc d k pc L r ck sk Z u := by
  obtain ⟨⟨K', h1, h2, h3, h4, e, h7, h8⟩, hQ⟩ := hu
  obtain ⟨u1, u2, u3, u4⟩ := u
  have e : u1 = .inl none := e
  have h7 : u3 = 0 := h7
  have h8 : u4 = 0 := h8
  subst e h7 h8
  exact ls_cb (h K' u2 h1 h2 h3 h4 hQ)
theorem ls_lald {N p n a t : Nat} {x : Int64} (hc : hs_o k pc = some (.laload, p)) (hn : hs_np .laload = true) (hT : T[t]? = some (.inr (2, N, []))) (hH : et_H T K G) (ha : K a = some t) (hN : N < 2147483648) (hv : et_pl (eg_at G a) n = some (.long x)) (h : et_go sc d k p L (.long x :: r) G ck sk Z) : et_go sc d k pc L (.int (Int32.ofNat n) :: .ref a :: r) G ck sk Z := by
  obtain ⟨e, rfl⟩ := hs_oc hc
  obtain ⟨y, ec, el, -⟩ := hf_cell hT hH ha
  rw [ec] at hv
  have hv : (if n < y.1 then eg_rd 2 y n else none) = some (.long x) := hv
  have hn2 : n < y.1 := by
    by_cases hn : n < y.1
    · exact hn
    · rw [if_neg hn] at hv
      cases hv
  rw [if_pos hn2] at hv
  refine ls_st e hn rfl ?_ h
  show eg_ar .laload pc L (.int (Int32.ofNat n) :: .ref a :: r) G ck sk = _
  unfold eg_ar
  dsimp only
  rw [ec]
  dsimp only
  rw [if_pos ⟨(hH.2.2 a t ha).1, rfl, by rw [hs_nint (by omega)]; omega, by rw [hs_nint (by omega)]; omega⟩, hs_nnat (by omega), hv]
theorem lg_cmp0 (x : Int64) : lg_cmp x x = 0 := by
  unfold lg_cmp
  simp
end LFB

section FHA
variable {w : et_Wd} {K : et_K} {G : eg_G} {d2 d th am aw ai out s0 s1 e i h ra0 ca0 rc0 ec0 cc0 ra1 ca1 rc1 ec1 cc1 : Nat} {x c : Int32}
theorem fc_forget (hH : et_H et_TT K G) (k_th : K th = some 12) : et_go none d2 120 0 (eg_en (eg_mL 120) [.ref th]) [] G 0 0 (xw_Z (fun b j => (b = th ∧ (6 ≤ j ∧ j ≤ 7))) K G (fun _ v => v = none)) := by
  rw [show eg_mL 120 = 1 from by decide +kernel]
  show et_go none d2 120 0 [some (.ref th)] [] G 0 0 _
  have lt_th := (hH.2.2 _ _ k_th).1
  have hX : xf (fun b j => (b = th ∧ (6 ≤ j ∧ j ≤ 7))) G G := xf.rf
  refine hs_aload (i := 0) (p := 1) (by decide +kernel) rfl ?_
  refine hs_k (x := (-1)) (p := 2) (by decide +kernel) ?_
  refine hf_put (T := et_TT) (t := 12) (ci := 10) (f := 6) (p := 5) (ty := .int) (by decide +kernel) rfl rfl rfl rfl rfl hH k_th (hi_iv (by decide) (by decide)) (fun G2 hH x2 e2 => ?_)
  have lt_th := Nat.lt_of_lt_of_le lt_th x2.1
  have hX := hX.tr x2 (fun b j hb h => by first | omega | (dsimp only at h ⊢; omega) | (dsimp only at h; omega) | (dsimp only; omega))
  refine hs_aload (i := 0) (p := 6) (by decide +kernel) rfl ?_
  refine hs_k (x := (-1)) (p := 7) (by decide +kernel) ?_
  refine hf_put (T := et_TT) (t := 12) (ci := 10) (f := 7) (p := 10) (ty := .int) (by decide +kernel) rfl rfl rfl rfl rfl hH k_th (hi_iv (by decide) (by decide)) (fun G7 hH x7 e7 => ?_)
  have e2 := (x7.2 th 6 lt_th (fun h => absurd h.2 (by decide))).trans e2
  have lt_th := Nat.lt_of_lt_of_le lt_th x7.1
  have hX := hX.tr x7 (fun b j hb h => by first | omega | (dsimp only at h ⊢; omega) | (dsimp only at h; omega) | (dsimp only; omega))
  refine hs_vret (by decide +kernel) ?_
  exact ⟨_, _, rfl, hH, hX, rfl⟩
theorem fc_image (hH : et_H et_TT K G) (hC : ci_O K G th s0 s1 ra0 ca0 rc0 ec0 cc0 ra1 ca1 rc1 ec1 cc1) (hd : 3 ≤ d2) : et_go none d2 124 0 (eg_en (eg_mL 124) [.ref th]) [] G 0 0 (fun u => et_pl (eg_at u.2.1 s0) 5 = some (.int (Int32.ofNat ec0)) ∧ et_pl (eg_at u.2.1 s1) 5 = some (.int (Int32.ofNat ec0))) := by
  obtain ⟨d, rfl⟩ : ∃ d, d2 = d + 3 := ⟨d2 - 3, by omega⟩
  have k_th := hC.1
  have k_s0 := hC.2.2.2.1.1.1
  have k_s1 := hC.2.2.2.2.1.1
  have h0 := hC.2.1.1
  have h1 := hC.2.1.2
  have hne := hC.2.2.1.1
  rw [show eg_mL 124 = 1 from by decide +kernel]
  show et_go none (d + 3) 124 0 [some (.ref th)] [] G 0 0 _
  have lt_th := (hH.2.2 _ _ k_th).1
  have lt_s0 := (hH.2.2 _ _ k_s0).1
  have lt_s1 := (hH.2.2 _ _ k_s1).1
  refine hs_aload (i := 0) (p := 1) (by decide +kernel) rfl ?_
  refine hf_get (T := et_TT) (t := 12) (ci := 10) (f := 1) (p := 4) (by decide +kernel) rfl hH k_th h1 ?_
  refine hs_aload (i := 0) (p := 5) (by decide +kernel) rfl ?_
  refine hf_get (T := et_TT) (t := 12) (ci := 10) (f := 0) (p := 8) (by decide +kernel) rfl hH k_th h0 ?_
  refine ht_callv (T := et_TT) (t := 10) (mi := 104) (na := 1) (ci := 8) (lk := 1) (lm := 3) (L0 := eg_en (eg_mL 104) [.ref s1, .ref s0]) (by decide +kernel) rfl hH k_s1 rfl rfl rfl rfl rfl (by rw [show eg_mL 104 = 3 from by decide +kernel]; first | done | rfl) ?_
  refine (hc_takeI (a := s1) (s := s0) hH hC.2.2.2.1 hC.2.2.2.2 hC.2.2.1 (by omega)).mono (fun u hu => tf_cb hu (fun K8 G8 x8 f8 hH hS1 hS0 => ?_))
  have p5a : et_pl (eg_at G8 s1) 5 = some (.int (Int32.ofNat ec0)) := hS0.2.2.1.2.1
  have p5b : et_pl (eg_at G8 s0) 5 = some (.int (Int32.ofNat ec0)) := hS1.2.2.1.2.1
  have k_th := x8 _ _ k_th
  have lt_th := (hH.2.2 _ _ k_th).1
  have k_s0 := x8 _ _ k_s0
  have lt_s0 := (hH.2.2 _ _ k_s0).1
  have k_s1 := x8 _ _ k_s1
  have lt_s1 := (hH.2.2 _ _ k_s1).1
  show et_go none _ 124 11 _ [] _ _ _ _
  refine hs_aload (i := 0) (p := 12) (by decide +kernel) rfl ?_
  refine hs_k (x := Int32.ofNat 1) (p := 13) (by decide +kernel) ?_
  refine hf_put (T := et_TT) (t := 12) (ci := 10) (f := 2) (p := 16) (ty := .boolean) (by decide +kernel) rfl rfl rfl (by decide +kernel) rfl hH k_th (hi_nv (by omega) (by omega)) (fun G13 hH x13 e13 => ?_)
  have p5a := (x13.2 s1 5 lt_s1 (fun h => (hi_ne k_s1 k_th (by decide)) h.1)).trans p5a
  have p5b := (x13.2 s0 5 lt_s0 (fun h => (hi_ne k_s0 k_th (by decide)) h.1)).trans p5b
  have lt_th := Nat.lt_of_lt_of_le lt_th x13.1
  have lt_s0 := Nat.lt_of_lt_of_le lt_s0 x13.1
  have lt_s1 := Nat.lt_of_lt_of_le lt_s1 x13.1
  refine hs_vret (by decide +kernel) ?_
  exact ⟨p5b, p5a⟩
theorem fc_back (hH : et_H et_TT K G) (hC : ci_O K G th s0 s1 ra0 ca0 rc0 ec0 cc0 ra1 ca1 rc1 ec1 cc1) (hp : ph_at G th h) (hh1 : h ≤ 1) (hd : 3 ≤ d2) : et_go none d2 125 0 (eg_en (eg_mL 125) [.ref th]) [] G 0 0 (fun u => et_pl (eg_at u.2.1 s0) 5 = some (.int (Int32.ofNat (if h = 0 then ec0 else ec1))) ∧ et_pl (eg_at u.2.1 s1) 5 = some (.int (Int32.ofNat ec1))) := by
  obtain ⟨d, rfl⟩ : ∃ d, d2 = d + 3 := ⟨d2 - 3, by omega⟩
  have k_th := hC.1
  have k_s0 := hC.2.2.2.1.1.1
  have k_s1 := hC.2.2.2.2.1.1
  have h0 := hC.2.1.1
  have h1 := hC.2.1.2
  have hne := hC.2.2.1.1
  have i0 := hC.2.2.2.1.2.2.1.2.1
  have i1 := hC.2.2.2.2.2.2.1.2.1
  have hp : et_pl (eg_at G th) 2 = some (.int (Int32.ofNat h)) := hp
  have hH0 := hH
  rw [show eg_mL 125 = 1 from by decide +kernel]
  show et_go none (d + 3) 125 0 [some (.ref th)] [] G 0 0 _
  have lt_th := (hH.2.2 _ _ k_th).1
  have lt_s0 := (hH.2.2 _ _ k_s0).1
  have lt_s1 := (hH.2.2 _ _ k_s1).1
  refine hs_aload (i := 0) (p := 1) (by decide +kernel) rfl ?_
  refine hf_get (T := et_TT) (t := 12) (ci := 10) (f := 2) (p := 4) (by decide +kernel) rfl hH k_th hp ?_
  refine hs_br1 (c := .ne) (t := 9) (f := 7) (by decide +kernel) (fun (c4 : ¬ Int32.ofNat h = 0) => ?_) (fun (c4 : ¬ (¬ Int32.ofNat h = 0)) => ?_)
  · refine hs_aload (i := 0) (p := 10) (by decide +kernel) rfl ?_
    refine ht_callv (T := et_TT) (t := 12) (mi := 120) (na := 0) (ci := 10) (lk := 1) (lm := 1) (L0 := eg_en (eg_mL 120) [.ref th]) (by decide +kernel) rfl hH k_th rfl rfl rfl rfl rfl (by rw [show eg_mL 120 = 1 from by decide +kernel]; first | done | rfl) ?_
    refine (fc_forget hH k_th).mono (fun u hu => xw_cb hu (fun G10 v10 hH x10 hP10 => ?_))
    obtain rfl := hP10
    have h0 := (x10.2 th 0 lt_th (fun h => absurd h.2 (by decide))).trans h0
    have h1 := (x10.2 th 1 lt_th (fun h => absurd h.2 (by decide))).trans h1
    have hp := (x10.2 th 2 lt_th (fun h => absurd h.2 (by decide))).trans hp
    have i0 := (x10.2 s0 5 lt_s0 (fun h => (hi_ne k_s0 k_th (by decide)) h.1)).trans i0
    have i1 := (x10.2 s1 5 lt_s1 (fun h => (hi_ne k_s1 k_th (by decide)) h.1)).trans i1
    have lt_th := Nat.lt_of_lt_of_le lt_th x10.1
    have lt_s0 := Nat.lt_of_lt_of_le lt_s0 x10.1
    have lt_s1 := Nat.lt_of_lt_of_le lt_s1 x10.1
    have hC := ci_O.fr hC et_ex.rf (x10.tfr hH0 (M := [(12, 6, 7)]) (fun a t i ha h => by obtain ⟨ea, h⟩ := h; rw [ea, k_th] at ha; cases ha; simp [et_mm]; omega)) (by decide +kernel)
    show et_go none _ 125 13 _ [] _ _ _ _
    refine hs_aload (i := 0) (p := 14) (by decide +kernel) rfl ?_
    refine hf_get (T := et_TT) (t := 12) (ci := 10) (f := 0) (p := 17) (by decide +kernel) rfl hH k_th h0 ?_
    refine hs_aload (i := 0) (p := 18) (by decide +kernel) rfl ?_
    refine hf_get (T := et_TT) (t := 12) (ci := 10) (f := 1) (p := 21) (by decide +kernel) rfl hH k_th h1 ?_
    refine ht_callv (T := et_TT) (t := 10) (mi := 104) (na := 1) (ci := 8) (lk := 1) (lm := 3) (L0 := eg_en (eg_mL 104) [.ref s0, .ref s1]) (by decide +kernel) rfl hH k_s0 rfl rfl rfl rfl rfl (by rw [show eg_mL 104 = 3 from by decide +kernel]; first | done | rfl) ?_
    refine (hc_takeI (a := s0) (s := s1) hH hC.2.2.2.2 hC.2.2.2.1 ⟨fun e => hC.2.2.1.1 e.symm, fun e => hC.2.2.1.2.1 e.symm, fun e => hC.2.2.1.2.2 e.symm⟩ (by omega)).mono (fun u hu => tf_cb hu (fun K21 G21 x21 f21 hH hS1 hS0 => ?_))
    have p5a : et_pl (eg_at G21 s0) 5 = some (.int (Int32.ofNat ec1)) := hS0.2.2.1.2.1
    have p5b : et_pl (eg_at G21 s1) 5 = some (.int (Int32.ofNat ec1)) := hS1.2.2.1.2.1
    have k_th := x21 _ _ k_th
    have lt_th := (hH.2.2 _ _ k_th).1
    have k_s0 := x21 _ _ k_s0
    have lt_s0 := (hH.2.2 _ _ k_s0).1
    have k_s1 := x21 _ _ k_s1
    have lt_s1 := (hH.2.2 _ _ k_s1).1
    show et_go none _ 125 24 _ [] _ _ _ _
    refine hs_k (x := Int32.ofNat 1) (p := 25) (by decide +kernel) ?_
    refine hs_zret (by decide +kernel) (.inr rfl) ?_
    rw [if_neg (by have := hi_b1 hh1 c4; omega)]
    exact ⟨p5a, p5b⟩
  · refine hs_k (x := Int32.ofNat 0) (p := 8) (by decide +kernel) ?_
    refine hs_zret (by decide +kernel) (.inl rfl) ?_
    rw [if_pos (hi_b0 hh1 c4)]
    exact ⟨i0, i1⟩
theorem fh_eye (hH : et_H et_TT K G) (k_th : K th = some 12) (k_out : K out = some 31) (h0 : et_pl (eg_at G th) 0 = some (.ref s0)) (k_s0 : K s0 = some 10) (h5 : et_pl (eg_at G s0) 5 = some (.int (Int32.ofNat e))) (he : e ≤ 3) (hd : 1 ≤ d2) : et_go none d2 6 0 (eg_en (eg_mL 6) [.ref th, .ref out]) [] G 0 0 (xe_Z (fun b j => (b = s0 ∧ j = 5) ∨ (b = out ∧ j = 0)) K G (fun G' r => (e < 3 ∧ r = .inl (some (.int (Int32.ofNat 0))) ∧ et_pl (eg_at G' out) 0 = some (.long (Int32.ofNat e).toInt64) ∧ et_pl (eg_at G' s0) 5 = some (.int (Int32.ofNat (e + 1)))) ∨ (¬ e < 3 ∧ r = .inl (some (.int (Int32.ofNat 1))) ∧ et_pl (eg_at G' s0) 5 = some (.int (Int32.ofNat e))))) := by
  obtain ⟨d, rfl⟩ : ∃ d, d2 = d + 1 := ⟨d2 - 1, by omega⟩
  rw [show eg_mL 6 = 3 from by decide +kernel]
  show et_go none (d + 1) 6 0 [some (.ref th), some (.ref out), none] [] G 0 0 _
  have lt_th := (hH.2.2 _ _ k_th).1
  have lt_s0 := (hH.2.2 _ _ k_s0).1
  have lt_out := (hH.2.2 _ _ k_out).1
  have hX : xf (fun b j => (b = s0 ∧ j = 5) ∨ (b = out ∧ j = 0)) G G := xf.rf
  refine hs_aload (i := 1) (p := 1) (by decide +kernel) rfl ?_
  refine hs_k (x := Int32.ofNat 0) (p := 2) (by decide +kernel) ?_
  refine hs_aload (i := 0) (p := 3) (by decide +kernel) rfl ?_
  refine ht_callv (T := et_TT) (t := 12) (mi := 139) (na := 0) (ci := 10) (lk := 3) (lm := 1) (L0 := eg_en (eg_mL 139) [.ref th]) (by decide +kernel) rfl hH k_th rfl rfl rfl rfl rfl (by rw [show eg_mL 139 = 1 from by decide +kernel]; first | done | rfl) ?_
  refine (fc_eye hH k_th h0 k_s0 h5 he).mono (fun u hu => ?_)
  obtain ⟨G3, v3, c3, s3, rfl, hH, x3, hP3⟩ := hu
  have h0 := (x3.2 th 0 lt_th (fun h => (hi_ne k_th k_s0 (by decide)) h.1)).trans h0
  have lt_th := Nat.lt_of_lt_of_le lt_th x3.1
  have lt_s0 := Nat.lt_of_lt_of_le lt_s0 x3.1
  have lt_out := Nat.lt_of_lt_of_le lt_out x3.1
  have hX := hX.tr x3 (fun b j hb h => by first | omega | (dsimp only at h ⊢; omega) | (dsimp only at h; omega) | (dsimp only; omega))
  rcases hP3 with ⟨he3, rfl, h5⟩ | ⟨he3, rfl, h5⟩
  · refine hs_cb ?_
    show et_go none _ 6 6 _ [.int (Int32.ofNat e), .int (Int32.ofNat 0), .ref out] _ _ _ _
    refine hs_i2l (p := 7) (by decide +kernel) ?_
    refine hf_lst (T := et_TT) (t := 31) (N := 1) (p := 8) (by decide +kernel) rfl rfl hH k_out (by omega) (by decide) (fun G7 hH x7 e7 => ?_)
    have h0 := (x7.2 th 0 lt_th (fun h => (hi_ne k_th k_out (by decide)) h.1)).trans h0
    have h5 := (x7.2 s0 5 lt_s0 (fun h => (hi_ne k_s0 k_out (by decide)) h.1)).trans h5
    have lt_th := Nat.lt_of_lt_of_le lt_th x7.1
    have lt_s0 := Nat.lt_of_lt_of_le lt_s0 x7.1
    have lt_out := Nat.lt_of_lt_of_le lt_out x7.1
    have hX := hX.tr x7 (fun b j hb h => by first | omega | (dsimp only at h ⊢; omega) | (dsimp only at h; omega) | (dsimp only; omega))
    refine hs_goto (p := 14) (by decide +kernel) ?_
    refine hs_k (x := Int32.ofNat 0) (p := 15) (by decide +kernel) ?_
    refine hs_iret (by decide +kernel) ?_
    exact ⟨_, _, _, _, rfl, hH, hX, .inl ⟨he3, rfl, e7, h5⟩⟩
  · refine hs_ch (h := 11) (i := 2) (n := 1) (hh := (eg_mh 6).getD []) (by decide +kernel) ⟨by decide +kernel, by decide +kernel⟩ (Nat.le_of_ble_eq_true rfl) ?_
    show et_go none _ 6 12 [some (.ref th), some (.ref out), none] [] _ _ _ _
    refine hs_k (x := Int32.ofNat 1) (p := 13) (by decide +kernel) ?_
    refine hs_iret (by decide +kernel) ?_
    exact ⟨_, _, _, _, rfl, hH, hX, .inr ⟨he3, rfl, h5⟩⟩
end FHA
end
section
/-! FUNCTIONAL: needEye, stuck; in, noEye, stuck -/
theorem xi_lt0 {x : Int32} : x < 0 ↔ x.toInt < 0 := by
  rw [Int32.lt_iff_toInt_lt]
  exact Iff.rfl
theorem xi_ge0 {x : Int32} : 0 ≤ x ↔ 0 ≤ x.toInt := by
  rw [Int32.le_iff_toInt_le]
  exact Iff.rfl
theorem xi_gt0 {x : Int32} : 0 < x ↔ 0 < x.toInt := by
  rw [Int32.lt_iff_toInt_lt]
  exact Iff.rfl
theorem xi_le0 {x : Int32} : x ≤ 0 ↔ x.toInt ≤ 0 := by
  rw [Int32.le_iff_toInt_le]
  exact Iff.rfl
theorem xi_ltn {x : Int32} {k : Nat} (hk : k < 2147483648) : x < Int32.ofNat k ↔ x.toInt < k := by
  rw [Int32.lt_iff_toInt_lt, hs_nint hk]
theorem xi_len {x : Int32} {k : Nat} (hk : k < 2147483648) : x ≤ Int32.ofNat k ↔ x.toInt ≤ k := by
  rw [Int32.le_iff_toInt_le, hs_nint hk]
theorem xi_nle {x : Int32} {k : Nat} (hk : k < 2147483648) : Int32.ofNat k ≤ x ↔ (k : Int) ≤ x.toInt := by
  rw [Int32.le_iff_toInt_le, hs_nint hk]
theorem xi_nlt {x : Int32} {k : Nat} (hk : k < 2147483648) : Int32.ofNat k < x ↔ (k : Int) < x.toInt := by
  rw [Int32.lt_iff_toInt_lt, hs_nint hk]
theorem xi_nn {x : Int32} (h : ¬ x < 0) : ∃ n : Nat, x = Int32.ofNat n ∧ n < 2147483648 := by
  rw [xi_lt0] at h
  obtain ⟨c, hc, e⟩ := hi_natW (K := fun _ => none) (hi := 2147483647) (hi_iv (x := x) (by omega) (by have := Int32.toInt_lt x; omega))
  exact ⟨c, e, by omega⟩
/-- a number of one of n things -/
def xr (x : Int32) (n : Nat) : Prop := 0 ≤ x.toInt ∧ x.toInt < n
theorem xr_n {n e : Nat} (hn : n < 2147483648) (h : n < e) : xr (Int32.ofNat n) e := by
  unfold xr
  rw [hs_nint hn]
  omega
theorem hf_ref {T : List et_D} {K : et_K} {G : eg_G} {a t ci f u : Nat} {ps : List et_P} (hH : et_H T K G) (ha : K a = some t) (hT : T[t]? = some (.inl (ci, ps))) (hp : ps[f]? = some (.inr (.inr (0, u)))) (hu : ¬ u = 9 ∨ True) : ∃ b, et_pl (eg_at G a) f = some (.ref b) ∧ K b = some u := by
  obtain ⟨-, -, -, dd, hd, hcc, -⟩ := hH.2.2 a t ha
  rw [hT] at hd
  cases hd
  obtain ⟨fs, e1, el, ef⟩ := hcc
  obtain ⟨v, h1, h2⟩ := ef f _ hp
  obtain ⟨b, rfl, hb⟩ := hi_ref (h2.resolve_left (fun h => nomatch (show false = true from h)))
  exact ⟨b, by rw [e1]; exact h1, hb⟩
section FJA
variable {K : et_K} {G : eg_G} {d2 d th am aw out s0 ea e : Nat} {x y z c : Int32}
theorem fc_needEye (hH : et_H et_TT K G) (k_th : K th = some 12) (h0 : et_pl (eg_at G th) 0 = some (.ref s0)) (k_s0 : K s0 = some 10) (h5 : et_pl (eg_at G s0) 5 = some (.int (Int32.ofNat e))) (he : e ≤ 3) (h6 : et_pl (eg_at G s0) 6 = some (.ref ea)) (k_ea : K ea = some 40) : et_go none d2 128 0 (eg_en (eg_mL 128) [.ref th, .int x]) [] G 0 0 (xe_Z (fun _ _ => False) K G (fun G' r => G' = G ∧ ((¬ xr x e ∧ r = .inr 1) ∨ ∃ n b : Nat, x = Int32.ofNat n ∧ n < e ∧ r = .inl (some (.ref b)) ∧ K b = some 3 ∧ et_pl (eg_at G ea) n = some (.ref b)))) := by
  rw [show eg_mL 128 = 2 from by decide +kernel]
  show et_go none d2 128 0 [some (.ref th), some (.int x)] [] G 0 0 _
  have lt_th := (hH.2.2 _ _ k_th).1
  have lt_s0 := (hH.2.2 _ _ k_s0).1
  have lt_ea := (hH.2.2 _ _ k_ea).1
  have hX : xf (fun _ _ => False) G G := xf.rf
  refine hs_iload (i := 1) (p := 1) (by decide +kernel) rfl ?_
  refine hs_br1 (c := .lt) (t := 15) (f := 4) (by decide +kernel) (fun (c1 : x < 0) => ?_) (fun (c1 : ¬ (x < 0)) => ?_)
  · refine hs_thr (x := 1) (lk := 2) (by decide +kernel) rfl rfl ?_
    try simp only [xi_ltn (k := e) (by omega), xi_lt0, xi_ge0, xi_gt0, xi_le0, xi_ltn (k := 1) (by decide), xi_len (k := 1) (by decide), xi_nle (k := 1) (by decide), xi_nlt (k := 1) (by decide), xi_ltn (k := 2) (by decide), xi_len (k := 2) (by decide), xi_nle (k := 2) (by decide), xi_nlt (k := 2) (by decide), xi_ltn (k := 3) (by decide), xi_len (k := 3) (by decide), xi_nle (k := 3) (by decide), xi_nlt (k := 3) (by decide), xi_ltn (k := 6) (by decide), xi_len (k := 6) (by decide), xi_nle (k := 6) (by decide), xi_nlt (k := 6) (by decide), xi_ltn (k := 7) (by decide), xi_len (k := 7) (by decide), xi_nle (k := 7) (by decide), xi_nlt (k := 7) (by decide), xi_ltn (k := 15) (by decide), xi_len (k := 15) (by decide), xi_nle (k := 15) (by decide), xi_nlt (k := 15) (by decide), xi_ltn (k := 16) (by decide), xi_len (k := 16) (by decide), xi_nle (k := 16) (by decide), xi_nlt (k := 16) (by decide), xi_ltn (k := 20) (by decide), xi_len (k := 20) (by decide), xi_nle (k := 20) (by decide), xi_nlt (k := 20) (by decide), xi_ltn (k := 50) (by decide), xi_len (k := 50) (by decide), xi_nle (k := 50) (by decide), xi_nlt (k := 50) (by decide), xi_ltn (k := 60) (by decide), xi_len (k := 60) (by decide), xi_nle (k := 60) (by decide), xi_nlt (k := 60) (by decide), xi_ltn (k := 127) (by decide), xi_len (k := 127) (by decide), xi_nle (k := 127) (by decide), xi_nlt (k := 127) (by decide), xi_ltn (k := 128) (by decide), xi_len (k := 128) (by decide), xi_nle (k := 128) (by decide), xi_nlt (k := 128) (by decide), xi_ltn (k := 200) (by decide), xi_len (k := 200) (by decide), xi_nle (k := 200) (by decide), xi_nlt (k := 200) (by decide), xi_ltn (k := 2000) (by decide), xi_len (k := 2000) (by decide), xi_nle (k := 2000) (by decide), xi_nlt (k := 2000) (by decide), xi_ltn (k := 65535) (by decide), xi_len (k := 65535) (by decide), xi_nle (k := 65535) (by decide), xi_nlt (k := 65535) (by decide), xi_ltn (k := 65536) (by decide), xi_len (k := 65536) (by decide), xi_nle (k := 65536) (by decide), xi_nlt (k := 65536) (by decide)] at c1
    exact ⟨_, _, _, _, rfl, hH, hX, rfl, .inl ⟨(by unfold xr; omega), rfl⟩⟩
  · refine hs_iload (i := 1) (p := 5) (by decide +kernel) rfl ?_
    refine hs_aload (i := 0) (p := 6) (by decide +kernel) rfl ?_
    refine hf_get (T := et_TT) (t := 12) (ci := 10) (f := 0) (p := 9) (by decide +kernel) rfl hH k_th h0 ?_
    refine hf_get (T := et_TT) (t := 10) (ci := 8) (f := 5) (p := 12) (by decide +kernel) rfl hH k_s0 h5 ?_
    refine hs_br2 (c := .lt) (t := 23) (f := 15) (by decide +kernel) (fun (c12 : x < Int32.ofNat e) => ?_) (fun (c12 : ¬ (x < Int32.ofNat e)) => ?_)
    · obtain ⟨n, rfl, hn⟩ := xi_nn c1
      have hne := (hs_nlt (by omega) (by omega)).mp c12
      refine hs_aload (i := 0) (p := 24) (by decide +kernel) rfl ?_
      refine hf_get (T := et_TT) (t := 12) (ci := 10) (f := 0) (p := 27) (by decide +kernel) rfl hH k_th h0 ?_
      refine hf_get (T := et_TT) (t := 10) (ci := 8) (f := 6) (p := 30) (by decide +kernel) rfl hH k_s0 h6 ?_
      refine hs_iload (i := 1) (p := 31) (by decide +kernel) rfl ?_
      refine ht_aald (T := et_TT) (t := 40) (N := 3) (kd := 6) (m := 2) (p := 32) (by decide +kernel) rfl rfl hH k_ea (by omega) (by omega) (by decide) (fun v31 h31 e31 => ?_)
      obtain ⟨b31, rfl, k_b31⟩ := hi_ref h31
      have lt_b31 := (hH.2.2 _ _ k_b31).1
      refine hs_aret (cn := "KnobEye$Eye") (by decide +kernel) ?_
      exact ⟨_, _, _, _, rfl, hH, hX, rfl, .inr ⟨n, _, rfl, hne, rfl, k_b31, e31⟩⟩
    · refine hs_thr (x := 1) (lk := 2) (by decide +kernel) rfl rfl ?_
      try simp only [xi_ltn (k := e) (by omega), xi_lt0, xi_ge0, xi_gt0, xi_le0, xi_ltn (k := 1) (by decide), xi_len (k := 1) (by decide), xi_nle (k := 1) (by decide), xi_nlt (k := 1) (by decide), xi_ltn (k := 2) (by decide), xi_len (k := 2) (by decide), xi_nle (k := 2) (by decide), xi_nlt (k := 2) (by decide), xi_ltn (k := 3) (by decide), xi_len (k := 3) (by decide), xi_nle (k := 3) (by decide), xi_nlt (k := 3) (by decide), xi_ltn (k := 6) (by decide), xi_len (k := 6) (by decide), xi_nle (k := 6) (by decide), xi_nlt (k := 6) (by decide), xi_ltn (k := 7) (by decide), xi_len (k := 7) (by decide), xi_nle (k := 7) (by decide), xi_nlt (k := 7) (by decide), xi_ltn (k := 15) (by decide), xi_len (k := 15) (by decide), xi_nle (k := 15) (by decide), xi_nlt (k := 15) (by decide), xi_ltn (k := 16) (by decide), xi_len (k := 16) (by decide), xi_nle (k := 16) (by decide), xi_nlt (k := 16) (by decide), xi_ltn (k := 20) (by decide), xi_len (k := 20) (by decide), xi_nle (k := 20) (by decide), xi_nlt (k := 20) (by decide), xi_ltn (k := 50) (by decide), xi_len (k := 50) (by decide), xi_nle (k := 50) (by decide), xi_nlt (k := 50) (by decide), xi_ltn (k := 60) (by decide), xi_len (k := 60) (by decide), xi_nle (k := 60) (by decide), xi_nlt (k := 60) (by decide), xi_ltn (k := 127) (by decide), xi_len (k := 127) (by decide), xi_nle (k := 127) (by decide), xi_nlt (k := 127) (by decide), xi_ltn (k := 128) (by decide), xi_len (k := 128) (by decide), xi_nle (k := 128) (by decide), xi_nlt (k := 128) (by decide), xi_ltn (k := 200) (by decide), xi_len (k := 200) (by decide), xi_nle (k := 200) (by decide), xi_nlt (k := 200) (by decide), xi_ltn (k := 2000) (by decide), xi_len (k := 2000) (by decide), xi_nle (k := 2000) (by decide), xi_nlt (k := 2000) (by decide), xi_ltn (k := 65535) (by decide), xi_len (k := 65535) (by decide), xi_nle (k := 65535) (by decide), xi_nlt (k := 65535) (by decide), xi_ltn (k := 65536) (by decide), xi_len (k := 65536) (by decide), xi_nle (k := 65536) (by decide), xi_nlt (k := 65536) (by decide)] at c1 c12
      exact ⟨_, _, _, _, rfl, hH, hX, rfl, .inl ⟨(by unfold xr; omega), rfl⟩⟩
theorem fc_stuck (hH : et_H et_TT K G) (k_th : K th = some 12) (h0 : et_pl (eg_at G th) 0 = some (.ref s0)) (k_s0 : K s0 = some 10) (h5 : et_pl (eg_at G s0) 5 = some (.int (Int32.ofNat e))) (he : e ≤ 3) (h6 : et_pl (eg_at G s0) 6 = some (.ref ea)) (k_ea : K ea = some 40) (hd : 1 ≤ d2) : et_go none d2 143 0 (eg_en (eg_mL 143) [.ref th, .int x, .int y, .int z]) [] G 0 0 (xe_Z (fun b j => K b = some 3 ∧ 6 ≤ j) K G (fun G' r => (¬ xr x e ∧ r = .inr 1) ∨ (xr x e ∧ ¬ (0 ≤ y.toInt ∧ y.toInt ≤ 127 ∧ 0 ≤ z.toInt ∧ z.toInt ≤ 50) ∧ r = .inr 0) ∨ (xr x e ∧ ¬ ¬ (0 ≤ y.toInt ∧ y.toInt ≤ 127 ∧ 0 ≤ z.toInt ∧ z.toInt ≤ 50) ∧ r = .inl none))) := by
  obtain ⟨d, rfl⟩ : ∃ d, d2 = d + 1 := ⟨d2 - 1, by omega⟩
  rw [show eg_mL 143 = 5 from by decide +kernel]
  show et_go none (d + 1) 143 0 [some (.ref th), some (.int x), some (.int y), some (.int z), none] [] G 0 0 _
  have lt_th := (hH.2.2 _ _ k_th).1
  have lt_s0 := (hH.2.2 _ _ k_s0).1
  have lt_ea := (hH.2.2 _ _ k_ea).1
  have hX : xf (fun b j => K b = some 3 ∧ 6 ≤ j) G G := xf.rf
  refine hs_aload (i := 0) (p := 1) (by decide +kernel) rfl ?_
  refine hs_iload (i := 1) (p := 2) (by decide +kernel) rfl ?_
  refine ht_callv (T := et_TT) (t := 12) (mi := 128) (na := 1) (ci := 10) (lk := 5) (lm := 2) (L0 := eg_en (eg_mL 128) [.ref th, .int x]) (by decide +kernel) rfl hH k_th rfl rfl rfl rfl rfl (by rw [show eg_mL 128 = 2 from by decide +kernel]; first | done | rfl) ?_
  refine (fc_needEye hH k_th h0 k_s0 h5 he h6 k_ea).mono (fun u hu => ?_)
  obtain ⟨G2, v2, c2, s2, rfl, -, -, rfl, ⟨hr, rfl⟩ | ⟨n, b, rfl, hn, rfl, k_b, e6⟩⟩ := hu
  · exact hf_cx (by decide +kernel) ⟨_, _, _, _, rfl, hH, hX, .inl ⟨hr, rfl⟩⟩
  · have lt_b := (hH.2.2 _ _ k_b).1
    have hxr : xr (Int32.ofNat n) e := xr_n (by omega) hn
    refine hs_cb ?_
    show et_go none _ 143 5 _ [.ref b] _ _ _ _
    refine hs_astore (i := 4) (p := 7) (by decide +kernel) (Nat.le_of_ble_eq_true rfl) ?_
    refine hs_iload (i := 2) (p := 8) (by decide +kernel) rfl ?_
    refine hs_br1 (c := .lt) (t := 28) (f := 11) (by decide +kernel) (fun (c8 : y < 0) => ?_) (fun (c8 : ¬ (y < 0)) => ?_)
    · refine hs_thr (x := 0) (lk := 5) (by decide +kernel) rfl rfl ?_
      try simp only [xi_lt0, xi_ge0, xi_gt0, xi_le0, xi_ltn (k := 1) (by decide), xi_len (k := 1) (by decide), xi_nle (k := 1) (by decide), xi_nlt (k := 1) (by decide), xi_ltn (k := 2) (by decide), xi_len (k := 2) (by decide), xi_nle (k := 2) (by decide), xi_nlt (k := 2) (by decide), xi_ltn (k := 3) (by decide), xi_len (k := 3) (by decide), xi_nle (k := 3) (by decide), xi_nlt (k := 3) (by decide), xi_ltn (k := 6) (by decide), xi_len (k := 6) (by decide), xi_nle (k := 6) (by decide), xi_nlt (k := 6) (by decide), xi_ltn (k := 7) (by decide), xi_len (k := 7) (by decide), xi_nle (k := 7) (by decide), xi_nlt (k := 7) (by decide), xi_ltn (k := 15) (by decide), xi_len (k := 15) (by decide), xi_nle (k := 15) (by decide), xi_nlt (k := 15) (by decide), xi_ltn (k := 16) (by decide), xi_len (k := 16) (by decide), xi_nle (k := 16) (by decide), xi_nlt (k := 16) (by decide), xi_ltn (k := 20) (by decide), xi_len (k := 20) (by decide), xi_nle (k := 20) (by decide), xi_nlt (k := 20) (by decide), xi_ltn (k := 50) (by decide), xi_len (k := 50) (by decide), xi_nle (k := 50) (by decide), xi_nlt (k := 50) (by decide), xi_ltn (k := 60) (by decide), xi_len (k := 60) (by decide), xi_nle (k := 60) (by decide), xi_nlt (k := 60) (by decide), xi_ltn (k := 127) (by decide), xi_len (k := 127) (by decide), xi_nle (k := 127) (by decide), xi_nlt (k := 127) (by decide), xi_ltn (k := 128) (by decide), xi_len (k := 128) (by decide), xi_nle (k := 128) (by decide), xi_nlt (k := 128) (by decide), xi_ltn (k := 200) (by decide), xi_len (k := 200) (by decide), xi_nle (k := 200) (by decide), xi_nlt (k := 200) (by decide), xi_ltn (k := 2000) (by decide), xi_len (k := 2000) (by decide), xi_nle (k := 2000) (by decide), xi_nlt (k := 2000) (by decide), xi_ltn (k := 65535) (by decide), xi_len (k := 65535) (by decide), xi_nle (k := 65535) (by decide), xi_nlt (k := 65535) (by decide), xi_ltn (k := 65536) (by decide), xi_len (k := 65536) (by decide), xi_nle (k := 65536) (by decide), xi_nlt (k := 65536) (by decide)] at c8
      exact ⟨_, _, _, _, rfl, hH, hX, .inr (.inl ⟨hxr, by omega, rfl⟩)⟩
    · refine hs_iload (i := 2) (p := 12) (by decide +kernel) rfl ?_
      refine hs_k (x := Int32.ofNat 128) (p := 15) (by decide +kernel) ?_
      refine hs_br2 (c := .ge) (t := 28) (f := 18) (by decide +kernel) (fun (c15 : Int32.ofNat 128 ≤ y) => ?_) (fun (c15 : ¬ (Int32.ofNat 128 ≤ y)) => ?_)
      · refine hs_thr (x := 0) (lk := 5) (by decide +kernel) rfl rfl ?_
        try simp only [xi_lt0, xi_ge0, xi_gt0, xi_le0, xi_ltn (k := 1) (by decide), xi_len (k := 1) (by decide), xi_nle (k := 1) (by decide), xi_nlt (k := 1) (by decide), xi_ltn (k := 2) (by decide), xi_len (k := 2) (by decide), xi_nle (k := 2) (by decide), xi_nlt (k := 2) (by decide), xi_ltn (k := 3) (by decide), xi_len (k := 3) (by decide), xi_nle (k := 3) (by decide), xi_nlt (k := 3) (by decide), xi_ltn (k := 6) (by decide), xi_len (k := 6) (by decide), xi_nle (k := 6) (by decide), xi_nlt (k := 6) (by decide), xi_ltn (k := 7) (by decide), xi_len (k := 7) (by decide), xi_nle (k := 7) (by decide), xi_nlt (k := 7) (by decide), xi_ltn (k := 15) (by decide), xi_len (k := 15) (by decide), xi_nle (k := 15) (by decide), xi_nlt (k := 15) (by decide), xi_ltn (k := 16) (by decide), xi_len (k := 16) (by decide), xi_nle (k := 16) (by decide), xi_nlt (k := 16) (by decide), xi_ltn (k := 20) (by decide), xi_len (k := 20) (by decide), xi_nle (k := 20) (by decide), xi_nlt (k := 20) (by decide), xi_ltn (k := 50) (by decide), xi_len (k := 50) (by decide), xi_nle (k := 50) (by decide), xi_nlt (k := 50) (by decide), xi_ltn (k := 60) (by decide), xi_len (k := 60) (by decide), xi_nle (k := 60) (by decide), xi_nlt (k := 60) (by decide), xi_ltn (k := 127) (by decide), xi_len (k := 127) (by decide), xi_nle (k := 127) (by decide), xi_nlt (k := 127) (by decide), xi_ltn (k := 128) (by decide), xi_len (k := 128) (by decide), xi_nle (k := 128) (by decide), xi_nlt (k := 128) (by decide), xi_ltn (k := 200) (by decide), xi_len (k := 200) (by decide), xi_nle (k := 200) (by decide), xi_nlt (k := 200) (by decide), xi_ltn (k := 2000) (by decide), xi_len (k := 2000) (by decide), xi_nle (k := 2000) (by decide), xi_nlt (k := 2000) (by decide), xi_ltn (k := 65535) (by decide), xi_len (k := 65535) (by decide), xi_nle (k := 65535) (by decide), xi_nlt (k := 65535) (by decide), xi_ltn (k := 65536) (by decide), xi_len (k := 65536) (by decide), xi_nle (k := 65536) (by decide), xi_nlt (k := 65536) (by decide)] at c8 c15
        exact ⟨_, _, _, _, rfl, hH, hX, .inr (.inl ⟨hxr, by omega, rfl⟩)⟩
      · refine hs_iload (i := 3) (p := 19) (by decide +kernel) rfl ?_
        refine hs_br1 (c := .lt) (t := 28) (f := 22) (by decide +kernel) (fun (c19 : z < 0) => ?_) (fun (c19 : ¬ (z < 0)) => ?_)
        · refine hs_thr (x := 0) (lk := 5) (by decide +kernel) rfl rfl ?_
          try simp only [xi_lt0, xi_ge0, xi_gt0, xi_le0, xi_ltn (k := 1) (by decide), xi_len (k := 1) (by decide), xi_nle (k := 1) (by decide), xi_nlt (k := 1) (by decide), xi_ltn (k := 2) (by decide), xi_len (k := 2) (by decide), xi_nle (k := 2) (by decide), xi_nlt (k := 2) (by decide), xi_ltn (k := 3) (by decide), xi_len (k := 3) (by decide), xi_nle (k := 3) (by decide), xi_nlt (k := 3) (by decide), xi_ltn (k := 6) (by decide), xi_len (k := 6) (by decide), xi_nle (k := 6) (by decide), xi_nlt (k := 6) (by decide), xi_ltn (k := 7) (by decide), xi_len (k := 7) (by decide), xi_nle (k := 7) (by decide), xi_nlt (k := 7) (by decide), xi_ltn (k := 15) (by decide), xi_len (k := 15) (by decide), xi_nle (k := 15) (by decide), xi_nlt (k := 15) (by decide), xi_ltn (k := 16) (by decide), xi_len (k := 16) (by decide), xi_nle (k := 16) (by decide), xi_nlt (k := 16) (by decide), xi_ltn (k := 20) (by decide), xi_len (k := 20) (by decide), xi_nle (k := 20) (by decide), xi_nlt (k := 20) (by decide), xi_ltn (k := 50) (by decide), xi_len (k := 50) (by decide), xi_nle (k := 50) (by decide), xi_nlt (k := 50) (by decide), xi_ltn (k := 60) (by decide), xi_len (k := 60) (by decide), xi_nle (k := 60) (by decide), xi_nlt (k := 60) (by decide), xi_ltn (k := 127) (by decide), xi_len (k := 127) (by decide), xi_nle (k := 127) (by decide), xi_nlt (k := 127) (by decide), xi_ltn (k := 128) (by decide), xi_len (k := 128) (by decide), xi_nle (k := 128) (by decide), xi_nlt (k := 128) (by decide), xi_ltn (k := 200) (by decide), xi_len (k := 200) (by decide), xi_nle (k := 200) (by decide), xi_nlt (k := 200) (by decide), xi_ltn (k := 2000) (by decide), xi_len (k := 2000) (by decide), xi_nle (k := 2000) (by decide), xi_nlt (k := 2000) (by decide), xi_ltn (k := 65535) (by decide), xi_len (k := 65535) (by decide), xi_nle (k := 65535) (by decide), xi_nlt (k := 65535) (by decide), xi_ltn (k := 65536) (by decide), xi_len (k := 65536) (by decide), xi_nle (k := 65536) (by decide), xi_nlt (k := 65536) (by decide)] at c8 c15 c19
          exact ⟨_, _, _, _, rfl, hH, hX, .inr (.inl ⟨hxr, by omega, rfl⟩)⟩
        · refine hs_iload (i := 3) (p := 23) (by decide +kernel) rfl ?_
          refine hs_k (x := Int32.ofNat 50) (p := 25) (by decide +kernel) ?_
          refine hs_br2 (c := .le) (t := 36) (f := 28) (by decide +kernel) (fun (c25 : z ≤ Int32.ofNat 50) => ?_) (fun (c25 : ¬ (z ≤ Int32.ofNat 50)) => ?_)
          · refine hs_aload (i := 4) (p := 38) (by decide +kernel) rfl ?_
            refine hs_iload (i := 2) (p := 39) (by decide +kernel) rfl ?_
            refine hf_put (T := et_TT) (t := 3) (ci := 1) (f := 6) (p := 42) (ty := .int) (by decide +kernel) rfl rfl rfl rfl rfl hH k_b hi_any (fun G39 hH x39 e39 => ?_)
            have h0 := (x39.2 th 0 lt_th (fun h => (hi_ne k_th k_b (by decide)) h.1)).trans h0
            have h5 := (x39.2 s0 5 lt_s0 (fun h => (hi_ne k_s0 k_b (by decide)) h.1)).trans h5
            have h6 := (x39.2 s0 6 lt_s0 (fun h => (hi_ne k_s0 k_b (by decide)) h.1)).trans h6
            have lt_th := Nat.lt_of_lt_of_le lt_th x39.1
            have lt_s0 := Nat.lt_of_lt_of_le lt_s0 x39.1
            have lt_ea := Nat.lt_of_lt_of_le lt_ea x39.1
            have lt_b := Nat.lt_of_lt_of_le lt_b x39.1
            have hX := hX.tr x39 (fun b j hb h => by obtain ⟨ea, ej⟩ := h; rw [ea]; exact ⟨k_b, by omega⟩)
            refine hs_aload (i := 4) (p := 44) (by decide +kernel) rfl ?_
            refine hs_iload (i := 3) (p := 45) (by decide +kernel) rfl ?_
            refine hf_put (T := et_TT) (t := 3) (ci := 1) (f := 7) (p := 48) (ty := .int) (by decide +kernel) rfl rfl rfl rfl rfl hH k_b hi_any (fun G45 hH x45 e45 => ?_)
            have h0 := (x45.2 th 0 lt_th (fun h => (hi_ne k_th k_b (by decide)) h.1)).trans h0
            have h5 := (x45.2 s0 5 lt_s0 (fun h => (hi_ne k_s0 k_b (by decide)) h.1)).trans h5
            have h6 := (x45.2 s0 6 lt_s0 (fun h => (hi_ne k_s0 k_b (by decide)) h.1)).trans h6
            have e39 := (x45.2 b 6 lt_b (fun h => absurd h.2 (by decide))).trans e39
            have lt_th := Nat.lt_of_lt_of_le lt_th x45.1
            have lt_s0 := Nat.lt_of_lt_of_le lt_s0 x45.1
            have lt_ea := Nat.lt_of_lt_of_le lt_ea x45.1
            have lt_b := Nat.lt_of_lt_of_le lt_b x45.1
            have hX := hX.tr x45 (fun b j hb h => by obtain ⟨ea, ej⟩ := h; rw [ea]; exact ⟨k_b, by omega⟩)
            refine hs_vret (by decide +kernel) ?_
            try simp only [xi_lt0, xi_ge0, xi_gt0, xi_le0, xi_ltn (k := 1) (by decide), xi_len (k := 1) (by decide), xi_nle (k := 1) (by decide), xi_nlt (k := 1) (by decide), xi_ltn (k := 2) (by decide), xi_len (k := 2) (by decide), xi_nle (k := 2) (by decide), xi_nlt (k := 2) (by decide), xi_ltn (k := 3) (by decide), xi_len (k := 3) (by decide), xi_nle (k := 3) (by decide), xi_nlt (k := 3) (by decide), xi_ltn (k := 6) (by decide), xi_len (k := 6) (by decide), xi_nle (k := 6) (by decide), xi_nlt (k := 6) (by decide), xi_ltn (k := 7) (by decide), xi_len (k := 7) (by decide), xi_nle (k := 7) (by decide), xi_nlt (k := 7) (by decide), xi_ltn (k := 15) (by decide), xi_len (k := 15) (by decide), xi_nle (k := 15) (by decide), xi_nlt (k := 15) (by decide), xi_ltn (k := 16) (by decide), xi_len (k := 16) (by decide), xi_nle (k := 16) (by decide), xi_nlt (k := 16) (by decide), xi_ltn (k := 20) (by decide), xi_len (k := 20) (by decide), xi_nle (k := 20) (by decide), xi_nlt (k := 20) (by decide), xi_ltn (k := 50) (by decide), xi_len (k := 50) (by decide), xi_nle (k := 50) (by decide), xi_nlt (k := 50) (by decide), xi_ltn (k := 60) (by decide), xi_len (k := 60) (by decide), xi_nle (k := 60) (by decide), xi_nlt (k := 60) (by decide), xi_ltn (k := 127) (by decide), xi_len (k := 127) (by decide), xi_nle (k := 127) (by decide), xi_nlt (k := 127) (by decide), xi_ltn (k := 128) (by decide), xi_len (k := 128) (by decide), xi_nle (k := 128) (by decide), xi_nlt (k := 128) (by decide), xi_ltn (k := 200) (by decide), xi_len (k := 200) (by decide), xi_nle (k := 200) (by decide), xi_nlt (k := 200) (by decide), xi_ltn (k := 2000) (by decide), xi_len (k := 2000) (by decide), xi_nle (k := 2000) (by decide), xi_nlt (k := 2000) (by decide), xi_ltn (k := 65535) (by decide), xi_len (k := 65535) (by decide), xi_nle (k := 65535) (by decide), xi_nlt (k := 65535) (by decide), xi_ltn (k := 65536) (by decide), xi_len (k := 65536) (by decide), xi_nle (k := 65536) (by decide), xi_nlt (k := 65536) (by decide)] at c8 c15 c19 c25
            exact ⟨_, _, _, _, rfl, hH, hX, .inr (.inr ⟨hxr, by omega, rfl⟩)⟩
          · refine hs_thr (x := 0) (lk := 5) (by decide +kernel) rfl rfl ?_
            try simp only [xi_lt0, xi_ge0, xi_gt0, xi_le0, xi_ltn (k := 1) (by decide), xi_len (k := 1) (by decide), xi_nle (k := 1) (by decide), xi_nlt (k := 1) (by decide), xi_ltn (k := 2) (by decide), xi_len (k := 2) (by decide), xi_nle (k := 2) (by decide), xi_nlt (k := 2) (by decide), xi_ltn (k := 3) (by decide), xi_len (k := 3) (by decide), xi_nle (k := 3) (by decide), xi_nlt (k := 3) (by decide), xi_ltn (k := 6) (by decide), xi_len (k := 6) (by decide), xi_nle (k := 6) (by decide), xi_nlt (k := 6) (by decide), xi_ltn (k := 7) (by decide), xi_len (k := 7) (by decide), xi_nle (k := 7) (by decide), xi_nlt (k := 7) (by decide), xi_ltn (k := 15) (by decide), xi_len (k := 15) (by decide), xi_nle (k := 15) (by decide), xi_nlt (k := 15) (by decide), xi_ltn (k := 16) (by decide), xi_len (k := 16) (by decide), xi_nle (k := 16) (by decide), xi_nlt (k := 16) (by decide), xi_ltn (k := 20) (by decide), xi_len (k := 20) (by decide), xi_nle (k := 20) (by decide), xi_nlt (k := 20) (by decide), xi_ltn (k := 50) (by decide), xi_len (k := 50) (by decide), xi_nle (k := 50) (by decide), xi_nlt (k := 50) (by decide), xi_ltn (k := 60) (by decide), xi_len (k := 60) (by decide), xi_nle (k := 60) (by decide), xi_nlt (k := 60) (by decide), xi_ltn (k := 127) (by decide), xi_len (k := 127) (by decide), xi_nle (k := 127) (by decide), xi_nlt (k := 127) (by decide), xi_ltn (k := 128) (by decide), xi_len (k := 128) (by decide), xi_nle (k := 128) (by decide), xi_nlt (k := 128) (by decide), xi_ltn (k := 200) (by decide), xi_len (k := 200) (by decide), xi_nle (k := 200) (by decide), xi_nlt (k := 200) (by decide), xi_ltn (k := 2000) (by decide), xi_len (k := 2000) (by decide), xi_nle (k := 2000) (by decide), xi_nlt (k := 2000) (by decide), xi_ltn (k := 65535) (by decide), xi_len (k := 65535) (by decide), xi_nle (k := 65535) (by decide), xi_nlt (k := 65535) (by decide), xi_ltn (k := 65536) (by decide), xi_len (k := 65536) (by decide), xi_nle (k := 65536) (by decide), xi_nlt (k := 65536) (by decide)] at c8 c15 c19 c25
            exact ⟨_, _, _, _, rfl, hH, hX, .inr (.inl ⟨hxr, by omega, rfl⟩)⟩
theorem fh_stuck (hH : et_H et_TT K G) (k_th : K th = some 12) (h0 : et_pl (eg_at G th) 0 = some (.ref s0)) (k_s0 : K s0 = some 10) (h5 : et_pl (eg_at G s0) 5 = some (.int (Int32.ofNat e))) (he : e ≤ 3) (h6 : et_pl (eg_at G s0) 6 = some (.ref ea)) (k_ea : K ea = some 40) (hd : 2 ≤ d2) : et_go none d2 9 0 (eg_en (eg_mL 9) [.ref th, .int x, .int y, .int z]) [] G 0 0 (xe_Z (fun b j => K b = some 3 ∧ 6 ≤ j) K G (fun _ r => (¬ xr x e ∧ r = .inl (some (.int (Int32.ofNat 1)))) ∨ (xr x e ∧ ¬ (0 ≤ y.toInt ∧ y.toInt ≤ 127 ∧ 0 ≤ z.toInt ∧ z.toInt ≤ 50) ∧ r = .inl (some (.int (Int32.ofNat 2)))) ∨ (xr x e ∧ ¬ ¬ (0 ≤ y.toInt ∧ y.toInt ≤ 127 ∧ 0 ≤ z.toInt ∧ z.toInt ≤ 50) ∧ r = .inl (some (.int (Int32.ofNat 0)))))) := by
  obtain ⟨d, rfl⟩ : ∃ d, d2 = d + 1 := ⟨d2 - 1, by omega⟩
  rw [show eg_mL 9 = 5 from by decide +kernel]
  show et_go none (d + 1) 9 0 [some (.ref th), some (.int x), some (.int y), some (.int z), none] [] G 0 0 _
  have lt_th := (hH.2.2 _ _ k_th).1
  refine hs_aload (i := 0) (p := 1) (by decide +kernel) rfl ?_
  refine hs_iload (i := 1) (p := 2) (by decide +kernel) rfl ?_
  refine hs_iload (i := 2) (p := 3) (by decide +kernel) rfl ?_
  refine hs_iload (i := 3) (p := 4) (by decide +kernel) rfl ?_
  refine ht_callv (T := et_TT) (t := 12) (mi := 143) (na := 3) (ci := 10) (lk := 5) (lm := 5) (L0 := eg_en (eg_mL 143) [.ref th, .int x, .int y, .int z]) (by decide +kernel) rfl hH k_th rfl rfl rfl rfl rfl (by rw [show eg_mL 143 = 5 from by decide +kernel]; first | done | rfl) ?_
  refine (fc_stuck hH k_th h0 k_s0 h5 he h6 k_ea (by omega)).mono (fun u hu => ?_)
  obtain ⟨G4, v4, c4, s4, rfl, hH, x4, hP4⟩ := hu
  rcases hP4 with ⟨hr, rfl⟩ | ⟨hr, hb, rfl⟩ | ⟨hr, hb, rfl⟩
  · refine hs_ch (h := 10) (i := 4) (n := 2) (hh := (eg_mh 9).getD []) (by decide +kernel) ⟨by decide +kernel, by decide +kernel⟩ (Nat.le_of_ble_eq_true rfl) ?_
    show et_go none _ 9 12 [some (.ref th), some (.int x), some (.int y), some (.int z), none] [] _ _ _ _
    refine hs_k (x := Int32.ofNat 1) (p := 13) (by decide +kernel) ?_
    refine hs_iret (by decide +kernel) ?_
    exact ⟨_, _, _, _, rfl, hH, x4, .inl ⟨hr, rfl⟩⟩
  · refine hs_ch (h := 14) (i := 4) (n := 2) (hh := (eg_mh 9).getD []) (by decide +kernel) ⟨by decide +kernel, by decide +kernel⟩ (Nat.le_of_ble_eq_true rfl) ?_
    show et_go none _ 9 16 [some (.ref th), some (.int x), some (.int y), some (.int z), none] [] _ _ _ _
    refine hs_k (x := Int32.ofNat 2) (p := 17) (by decide +kernel) ?_
    refine hs_iret (by decide +kernel) ?_
    exact ⟨_, _, _, _, rfl, hH, x4, .inr (.inl ⟨hr, hb, rfl⟩)⟩
  · refine hs_cb ?_
    show et_go none _ 9 7 _ [] _ _ _ _
    refine hs_goto (p := 18) (by decide +kernel) ?_
    refine hs_k (x := Int32.ofNat 0) (p := 19) (by decide +kernel) ?_
    refine hs_iret (by decide +kernel) ?_
    exact ⟨_, _, _, _, rfl, hH, x4, .inr (.inr ⟨hr, hb, rfl⟩)⟩
theorem fm_in : et_go none d2 209 0 (eg_en (eg_mL 209) [.int x, .int y, .int z]) [] G 0 0 (xp_Z G (some (.int (Int32.ofNat (if y.toInt ≤ x.toInt ∧ x.toInt ≤ z.toInt then 1 else 0))))) := by
  rw [show eg_mL 209 = 3 from by decide +kernel]
  show et_go none d2 209 0 [some (.int x), some (.int y), some (.int z)] [] G 0 0 _
  refine hs_iload (i := 0) (p := 1) (by decide +kernel) rfl ?_
  refine hs_iload (i := 1) (p := 2) (by decide +kernel) rfl ?_
  refine hs_br2 (c := .lt) (t := 14) (f := 5) (by decide +kernel) (fun (c2 : x < y) => ?_) (fun (c2 : ¬ (x < y)) => ?_)
  · refine hs_k (x := Int32.ofNat 0) (p := 15) (by decide +kernel) ?_
    refine hs_zret (by decide +kernel) (.inl rfl) ?_
    simp only [Int32.lt_iff_toInt_lt] at c2
    rw [if_neg (by omega)]
    rfl
  · refine hs_iload (i := 0) (p := 6) (by decide +kernel) rfl ?_
    refine hs_iload (i := 2) (p := 7) (by decide +kernel) rfl ?_
    refine hs_br2 (c := .gt) (t := 14) (f := 10) (by decide +kernel) (fun (c7 : z < x) => ?_) (fun (c7 : ¬ (z < x)) => ?_)
    · refine hs_k (x := Int32.ofNat 0) (p := 15) (by decide +kernel) ?_
      refine hs_zret (by decide +kernel) (.inl rfl) ?_
      simp only [Int32.lt_iff_toInt_lt] at c2 c7
      rw [if_neg (by omega)]
      rfl
    · refine hs_k (x := Int32.ofNat 1) (p := 11) (by decide +kernel) ?_
      refine hs_goto (p := 15) (by decide +kernel) ?_
      refine hs_zret (by decide +kernel) (.inr rfl) ?_
      simp only [Int32.lt_iff_toInt_lt] at c2 c7
      rw [if_pos (by omega)]
      rfl
theorem fm_noEye (hH : et_H et_TT K G) (k_am : K am = some 13) (k_aw : K aw = some 46) (h1 : et_pl (eg_at G am) 1 = some (.ref aw)) (h4 : et_pl (eg_at G aw) 4 = some (.int (Int32.ofNat e))) (he : e ≤ 3) (hd : 1 ≤ d2) : et_go none d2 208 0 (eg_en (eg_mL 208) [.ref am, .int x]) [] G 0 0 (fun u => (xr x e ∧ u = (.inl (some (.int (Int32.ofNat 0))), G, 0, 0)) ∨ (¬ xr x e ∧ u = (.inl (some (.int (Int32.ofNat 1))), G, 0, 0))) := by
  obtain ⟨d, rfl⟩ : ∃ d, d2 = d + 1 := ⟨d2 - 1, by omega⟩
  have hq : (Int32.ofNat e - Int32.ofNat 1).toInt = (e : Int) - 1 := by
    have h : ∀ k ∈ List.range 4, (Int32.ofNat k - Int32.ofNat 1).toInt = (k : Int) - 1 := by decide +kernel
    exact h e (List.mem_range.mpr (by omega))
  rw [show eg_mL 208 = 2 from by decide +kernel]
  show et_go none (d + 1) 208 0 [some (.ref am), some (.int x)] [] G 0 0 _
  have lt_am := (hH.2.2 _ _ k_am).1
  have lt_aw := (hH.2.2 _ _ k_aw).1
  refine hs_iload (i := 1) (p := 1) (by decide +kernel) rfl ?_
  refine hs_k (x := Int32.ofNat 0) (p := 2) (by decide +kernel) ?_
  refine hs_aload (i := 0) (p := 3) (by decide +kernel) rfl ?_
  refine hf_get (T := et_TT) (t := 13) (ci := 11) (f := 1) (p := 6) (by decide +kernel) rfl hH k_am h1 ?_
  refine hs_k (x := Int32.ofNat 4) (p := 7) (by decide +kernel) ?_
  refine hf_ald (ins := .iaload) (T := et_TT) (t := 46) (kd := 0) (N := 12741) (p := 8) (by decide +kernel) (fun _ _ _ _ _ _ _ _ _ _ => rfl) rfl rfl rfl hH k_aw (by decide) h4 ?_
  refine hs_k (x := Int32.ofNat 1) (p := 9) (by decide +kernel) ?_
  refine hs_isub (p := 10) (by decide +kernel) ?_
  refine hs_calls (mi := 209) (na := 3) (lk := 2) (lm := 3) (L0 := eg_en (eg_mL 209) [.int x, .int (Int32.ofNat 0), .int (Int32.ofNat e - Int32.ofNat 1)]) (by decide +kernel) rfl rfl rfl rfl rfl rfl (by rw [show eg_mL 209 = 3 from by decide +kernel]; first | done | rfl) ?_
  refine fm_in.mono (fun u hu => xp_cb hu ?_)
  rw [hq]
  by_cases hxr : xr x e
  · rw [if_pos (show (Int32.ofNat 0).toInt ≤ x.toInt ∧ x.toInt ≤ (e : Int) - 1 from by rw [hs_nint (by decide)]; unfold xr at hxr; omega)]
    show et_go none _ 208 13 _ [.int (Int32.ofNat 1)] _ _ _ _
    refine hs_if1 (c := .ne) (t := 20) (f := 16) (by decide +kernel) (show ¬ Int32.ofNat 1 = 0 by decide) ?_
    refine hs_k (x := Int32.ofNat 0) (p := 21) (by decide +kernel) ?_
    refine hs_zret (by decide +kernel) (.inl rfl) ?_
    exact .inl ⟨hxr, rfl⟩
  · rw [if_neg (show ¬ ((Int32.ofNat 0).toInt ≤ x.toInt ∧ x.toInt ≤ (e : Int) - 1) from by rw [hs_nint (by decide)]; unfold xr at hxr; omega)]
    show et_go none _ 208 13 _ [.int (Int32.ofNat 0)] _ _ _ _
    refine hs_if0 (c := .ne) (t := 20) (f := 16) (by decide +kernel) (show ¬ (¬ Int32.ofNat 0 = 0) by decide) ?_
    refine hs_k (x := Int32.ofNat 1) (p := 17) (by decide +kernel) ?_
    refine hs_goto (p := 21) (by decide +kernel) ?_
    refine hs_zret (by decide +kernel) (.inr rfl) ?_
    exact .inr ⟨hxr, rfl⟩
theorem xi_ix {n e k : Nat} (hn : n < e) (he : e ≤ 3) (hk : k < 23) : 45 ≤ 45 + 23 * n + k ∧ 45 + 23 * n + k ≤ 113 := by omega
theorem hf_any {K : et_K} {n k : Nat} {x : Int32} (hn : n < 3) (hk : 20 ≤ k) (hk2 : k < 23) : ∀ s ∈ et_w46, s.1 ≤ 45 + 23 * n + k → 45 + 23 * n + k ≤ s.2.1 → et_v K s.2.2 (.int x) := by
  intro s hs h1 h2
  have h : et_w46.all (fun s => decide (s.2.1 < 65) || (decide (67 < s.1) && decide (s.2.1 < 88)) || (decide (90 < s.1) && decide (s.2.1 < 111)) || decide (113 < s.1)) = true := by decide +kernel
  have h3 := List.all_eq_true.mp h s hs
  simp only [Bool.or_eq_true, Bool.and_eq_true, decide_eq_true_eq] at h3
  omega
theorem fm_stuck (hH : et_H et_TT K G) (k_am : K am = some 13) (k_aw : K aw = some 46) (h1 : et_pl (eg_at G am) 1 = some (.ref aw)) (h4 : et_pl (eg_at G aw) 4 = some (.int (Int32.ofNat e))) (he : e ≤ 3) (hd : 2 ≤ d2) : et_go none d2 229 0 (eg_en (eg_mL 229) [.ref am, .int x, .int y, .int z]) [] G 0 0 (xw_Z (fun b j => (b = am ∧ j = 0) ∨ (b = aw ∧ 45 ≤ j ∧ j ≤ 113)) K G (fun G' _ => (¬ xr x e ∧ et_pl (eg_at G' am) 0 = some (.int (Int32.ofNat 1))) ∨ (xr x e ∧ ¬ (0 ≤ y.toInt ∧ y.toInt ≤ 127 ∧ 0 ≤ z.toInt ∧ z.toInt ≤ 50) ∧ et_pl (eg_at G' am) 0 = some (.int (Int32.ofNat 2))) ∨ (xr x e ∧ ¬ ¬ (0 ≤ y.toInt ∧ y.toInt ≤ 127 ∧ 0 ≤ z.toInt ∧ z.toInt ≤ 50) ∧ et_pl (eg_at G' am) 0 = some (.int (Int32.ofNat 0))))) := by
  obtain ⟨d, rfl⟩ : ∃ d, d2 = d + 2 := ⟨d2 - 2, by omega⟩
  rw [show eg_mL 229 = 4 from by decide +kernel]
  show et_go none (d + 2) 229 0 [some (.ref am), some (.int x), some (.int y), some (.int z)] [] G 0 0 _
  have lt_am := (hH.2.2 _ _ k_am).1
  have lt_aw := (hH.2.2 _ _ k_aw).1
  have hX : xf (fun b j => (b = am ∧ j = 0) ∨ (b = aw ∧ 45 ≤ j ∧ j ≤ 113)) G G := xf.rf
  refine hs_aload (i := 0) (p := 1) (by decide +kernel) rfl ?_
  refine hs_k (x := Int32.ofNat 0) (p := 2) (by decide +kernel) ?_
  refine hf_put (T := et_TT) (t := 13) (ci := 11) (f := 0) (p := 5) (ty := .int) (by decide +kernel) rfl rfl rfl rfl rfl hH k_am hi_any (fun G2 hH x2 e2 => ?_)
  have h1 := (x2.2 am 1 lt_am (fun h => absurd h.2 (by decide))).trans h1
  have h4 := (x2.2 aw 4 lt_aw (fun h => (hi_ne k_aw k_am (by decide)) h.1)).trans h4
  have lt_am := Nat.lt_of_lt_of_le lt_am x2.1
  have lt_aw := Nat.lt_of_lt_of_le lt_aw x2.1
  have hX := hX.tr x2 (fun b j hb h => by first | omega | (dsimp only at h ⊢; omega) | (dsimp only at h; omega) | (dsimp only; omega))
  refine hs_aload (i := 0) (p := 6) (by decide +kernel) rfl ?_
  refine hs_aload (i := 0) (p := 7) (by decide +kernel) rfl ?_
  refine hs_iload (i := 1) (p := 8) (by decide +kernel) rfl ?_
  refine ht_callv (T := et_TT) (t := 13) (mi := 208) (na := 1) (ci := 11) (lk := 4) (lm := 2) (L0 := eg_en (eg_mL 208) [.ref am, .int x]) (by decide +kernel) rfl hH k_am rfl rfl rfl rfl rfl (by rw [show eg_mL 208 = 2 from by decide +kernel]; first | done | rfl) ?_
  refine (fm_noEye hH k_am k_aw h1 h4 he (by omega)).mono (fun u hu => ?_)
  rcases hu with ⟨hxr, rfl⟩ | ⟨hxr, rfl⟩
  · obtain ⟨n, rfl, hn⟩ := xi_nn (x := x) (by rw [xi_lt0]; unfold xr at hxr; omega)
    have hne : n < e := by unfold xr at hxr; rw [hs_nint hn] at hxr; omega
    refine hs_cb ?_
    show et_go none _ 229 11 _ [.int (Int32.ofNat 0), .ref am] _ _ _ _
    refine hs_k (x := Int32.ofNat 1) (p := 12) (by decide +kernel) ?_
    refine ht_callv (T := et_TT) (t := 13) (mi := 204) (na := 2) (ci := 11) (lk := 4) (lm := 3) (L0 := eg_en (eg_mL 204) [.ref am, .int (Int32.ofNat 0), .int (Int32.ofNat 1)]) (by decide +kernel) rfl hH k_am rfl rfl rfl rfl rfl (by rw [show eg_mL 204 = 3 from by decide +kernel]; first | done | rfl) ?_
    refine (fm_thr (x := Int32.ofNat 0) hH k_am (.inl rfl)).mono (fun u hu => xw_cb hu (fun G12 v12 hH x12 hP12 => ?_))
    obtain ⟨rfl, ⟨-, rfl⟩ | ⟨hz, -⟩⟩ := hP12
    rotate_left
    · exact absurd rfl hz
    show et_go none _ 229 15 _ [.int (Int32.ofNat 0)] _ _ _ _
    refine hs_if0 (c := .ne) (t := 51) (f := 18) (by decide +kernel) (show ¬ (¬ Int32.ofNat 0 = 0) by decide) ?_
    refine hs_aload (i := 0) (p := 19) (by decide +kernel) rfl ?_
    refine hs_iload (i := 2) (p := 20) (by decide +kernel) rfl ?_
    refine hs_k (x := Int32.ofNat 0) (p := 21) (by decide +kernel) ?_
    refine hs_k (x := Int32.ofNat 127) (p := 23) (by decide +kernel) ?_
    refine hs_calls (mi := 209) (na := 3) (lk := 4) (lm := 3) (L0 := eg_en (eg_mL 209) [.int y, .int (Int32.ofNat 0), .int (Int32.ofNat 127)]) (by decide +kernel) rfl rfl rfl rfl rfl rfl (by rw [show eg_mL 209 = 3 from by decide +kernel]; first | done | rfl) ?_
    refine fm_in.mono (fun u hu => xp_cb hu ?_)
    by_cases hr23 : (Int32.ofNat 0).toInt ≤ y.toInt ∧ y.toInt ≤ (Int32.ofNat 127).toInt
    · rw [if_pos hr23]
      rw [hs_nint (show 0 < 2147483648 by decide), hs_nint (show 127 < 2147483648 by decide)] at hr23
      show et_go none _ 229 26 _ [.int (Int32.ofNat 1), .ref am] _ _ _ _
      refine hs_if0 (c := .eq) (t := 39) (f := 29) (by decide +kernel) (show ¬ (Int32.ofNat 1 = 0) by decide) ?_
      refine hs_iload (i := 3) (p := 30) (by decide +kernel) rfl ?_
      refine hs_k (x := Int32.ofNat 0) (p := 31) (by decide +kernel) ?_
      refine hs_k (x := Int32.ofNat 50) (p := 33) (by decide +kernel) ?_
      refine hs_calls (mi := 209) (na := 3) (lk := 4) (lm := 3) (L0 := eg_en (eg_mL 209) [.int z, .int (Int32.ofNat 0), .int (Int32.ofNat 50)]) (by decide +kernel) rfl rfl rfl rfl rfl rfl (by rw [show eg_mL 209 = 3 from by decide +kernel]; first | done | rfl) ?_
      refine fm_in.mono (fun u hu => xp_cb hu ?_)
      by_cases hr33 : (Int32.ofNat 0).toInt ≤ z.toInt ∧ z.toInt ≤ (Int32.ofNat 50).toInt
      · rw [if_pos hr33]
        rw [hs_nint (show 0 < 2147483648 by decide), hs_nint (show 50 < 2147483648 by decide)] at hr33
        show et_go none _ 229 36 _ [.int (Int32.ofNat 1), .ref am] _ _ _ _
        refine hs_if1 (c := .ne) (t := 43) (f := 39) (by decide +kernel) (show ¬ Int32.ofNat 1 = 0 by decide) ?_
        refine hs_k (x := Int32.ofNat 0) (p := 44) (by decide +kernel) ?_
        refine hs_k (x := Int32.ofNat 2) (p := 45) (by decide +kernel) ?_
        refine ht_callv (T := et_TT) (t := 13) (mi := 204) (na := 2) (ci := 11) (lk := 4) (lm := 3) (L0 := eg_en (eg_mL 204) [.ref am, .int (Int32.ofNat 0), .int (Int32.ofNat 2)]) (by decide +kernel) rfl hH k_am rfl rfl rfl rfl rfl (by rw [show eg_mL 204 = 3 from by decide +kernel]; first | done | rfl) ?_
        refine (fm_thr (x := Int32.ofNat 0) hH k_am (.inl rfl)).mono (fun u hu => xw_cb hu (fun G45 v45 hH x45 hP45 => ?_))
        obtain ⟨rfl, ⟨-, rfl⟩ | ⟨hz, -⟩⟩ := hP45
        rotate_left
        · exact absurd rfl hz
        show et_go none _ 229 48 _ [.int (Int32.ofNat 0)] _ _ _ _
        refine hs_if1 (c := .eq) (t := 52) (f := 51) (by decide +kernel) (show Int32.ofNat 0 = 0 by decide) ?_
        refine hs_aload (i := 0) (p := 53) (by decide +kernel) rfl ?_
        refine hf_get (T := et_TT) (t := 13) (ci := 11) (f := 1) (p := 56) (by decide +kernel) rfl hH k_am h1 ?_
        refine hs_k (x := Int32.ofNat 45) (p := 58) (by decide +kernel) ?_
        refine hs_k (x := Int32.ofNat 23) (p := 60) (by decide +kernel) ?_
        refine hs_iload (i := 1) (p := 61) (by decide +kernel) rfl ?_
        refine hs_imuln (p := 62) (by decide +kernel) ?_
        refine hs_iaddn (p := 63) (by decide +kernel) ?_
        refine hs_k (x := Int32.ofNat 20) (p := 65) (by decide +kernel) ?_
        refine hs_iaddn (p := 66) (by decide +kernel) ?_
        refine hs_iload (i := 2) (p := 67) (by decide +kernel) rfl ?_
        refine hf_wst (p := 68) (by decide +kernel) hH k_aw (by omega) (hf_any (by omega) (by omega) (by omega)) (fun G67 hH x67 e67 => ?_)
        have h1 := (x67.2 am 1 lt_am (fun h => (hi_ne k_am k_aw (by decide)) h.1)).trans h1
        have h4 := (x67.2 aw 4 lt_aw (fun h => by have h := h.2; omega)).trans h4
        have e2 := (x67.2 am 0 lt_am (fun h => (hi_ne k_am k_aw (by decide)) h.1)).trans e2
        have lt_am := Nat.lt_of_lt_of_le lt_am x67.1
        have lt_aw := Nat.lt_of_lt_of_le lt_aw x67.1
        have hX := hX.tr x67 (fun b j hb h => by first | omega | (dsimp only at h ⊢; omega) | (dsimp only at h; omega) | (dsimp only; omega))
        refine hs_aload (i := 0) (p := 69) (by decide +kernel) rfl ?_
        refine hf_get (T := et_TT) (t := 13) (ci := 11) (f := 1) (p := 72) (by decide +kernel) rfl hH k_am h1 ?_
        refine hs_k (x := Int32.ofNat 45) (p := 74) (by decide +kernel) ?_
        refine hs_k (x := Int32.ofNat 23) (p := 76) (by decide +kernel) ?_
        refine hs_iload (i := 1) (p := 77) (by decide +kernel) rfl ?_
        refine hs_imuln (p := 78) (by decide +kernel) ?_
        refine hs_iaddn (p := 79) (by decide +kernel) ?_
        refine hs_k (x := Int32.ofNat 21) (p := 81) (by decide +kernel) ?_
        refine hs_iaddn (p := 82) (by decide +kernel) ?_
        refine hs_iload (i := 3) (p := 83) (by decide +kernel) rfl ?_
        refine hf_wst (p := 84) (by decide +kernel) hH k_aw (by omega) (hf_any (by omega) (by omega) (by omega)) (fun G83 hH x83 e83 => ?_)
        have h1 := (x83.2 am 1 lt_am (fun h => (hi_ne k_am k_aw (by decide)) h.1)).trans h1
        have h4 := (x83.2 aw 4 lt_aw (fun h => by have h := h.2; omega)).trans h4
        have e2 := (x83.2 am 0 lt_am (fun h => (hi_ne k_am k_aw (by decide)) h.1)).trans e2
        have lt_am := Nat.lt_of_lt_of_le lt_am x83.1
        have lt_aw := Nat.lt_of_lt_of_le lt_aw x83.1
        have hX := hX.tr x83 (fun b j hb h => by first | omega | (dsimp only at h ⊢; omega) | (dsimp only at h; omega) | (dsimp only; omega))
        refine hs_vret (by decide +kernel) ?_
        exact ⟨_, _, rfl, hH, hX, .inr (.inr ⟨hxr, by omega, e2⟩)⟩
      · rw [if_neg hr33]
        rw [hs_nint (show 0 < 2147483648 by decide), hs_nint (show 50 < 2147483648 by decide)] at hr33
        show et_go none _ 229 36 _ [.int (Int32.ofNat 0), .ref am] _ _ _ _
        refine hs_if0 (c := .ne) (t := 43) (f := 39) (by decide +kernel) (show ¬ (¬ Int32.ofNat 0 = 0) by decide) ?_
        refine hs_k (x := Int32.ofNat 1) (p := 40) (by decide +kernel) ?_
        refine hs_goto (p := 44) (by decide +kernel) ?_
        refine hs_k (x := Int32.ofNat 2) (p := 45) (by decide +kernel) ?_
        refine ht_callv (T := et_TT) (t := 13) (mi := 204) (na := 2) (ci := 11) (lk := 4) (lm := 3) (L0 := eg_en (eg_mL 204) [.ref am, .int (Int32.ofNat 1), .int (Int32.ofNat 2)]) (by decide +kernel) rfl hH k_am rfl rfl rfl rfl rfl (by rw [show eg_mL 204 = 3 from by decide +kernel]; first | done | rfl) ?_
        refine (fm_thr (x := Int32.ofNat 1) hH k_am (.inr rfl)).mono (fun u hu => xw_cb hu (fun G45 v45 hH x45 hP45 => ?_))
        have h1 := (x45.2 am 1 lt_am (fun h => absurd h.2 (by decide))).trans h1
        have h4 := (x45.2 aw 4 lt_aw (fun h => (hi_ne k_aw k_am (by decide)) h.1)).trans h4
        have lt_am := Nat.lt_of_lt_of_le lt_am x45.1
        have lt_aw := Nat.lt_of_lt_of_le lt_aw x45.1
        have hX := hX.tr x45 (fun b j hb h => by first | omega | (dsimp only at h ⊢; omega) | (dsimp only at h; omega) | (dsimp only; omega))
        obtain ⟨rfl, ⟨hz, -⟩ | ⟨-, e45⟩⟩ := hP45
        · exact absurd hz (by decide)
        show et_go none _ 229 48 _ [.int (Int32.ofNat 1)] _ _ _ _
        refine hs_if0 (c := .eq) (t := 52) (f := 51) (by decide +kernel) (show ¬ (Int32.ofNat 1 = 0) by decide) ?_
        refine hs_vret (by decide +kernel) ?_
        exact ⟨_, _, rfl, hH, hX, .inr (.inl ⟨hxr, by omega, e45⟩)⟩
    · rw [if_neg hr23]
      rw [hs_nint (show 0 < 2147483648 by decide), hs_nint (show 127 < 2147483648 by decide)] at hr23
      show et_go none _ 229 26 _ [.int (Int32.ofNat 0), .ref am] _ _ _ _
      refine hs_if1 (c := .eq) (t := 39) (f := 29) (by decide +kernel) (show Int32.ofNat 0 = 0 by decide) ?_
      refine hs_k (x := Int32.ofNat 1) (p := 40) (by decide +kernel) ?_
      refine hs_goto (p := 44) (by decide +kernel) ?_
      refine hs_k (x := Int32.ofNat 2) (p := 45) (by decide +kernel) ?_
      refine ht_callv (T := et_TT) (t := 13) (mi := 204) (na := 2) (ci := 11) (lk := 4) (lm := 3) (L0 := eg_en (eg_mL 204) [.ref am, .int (Int32.ofNat 1), .int (Int32.ofNat 2)]) (by decide +kernel) rfl hH k_am rfl rfl rfl rfl rfl (by rw [show eg_mL 204 = 3 from by decide +kernel]; first | done | rfl) ?_
      refine (fm_thr (x := Int32.ofNat 1) hH k_am (.inr rfl)).mono (fun u hu => xw_cb hu (fun G45 v45 hH x45 hP45 => ?_))
      have h1 := (x45.2 am 1 lt_am (fun h => absurd h.2 (by decide))).trans h1
      have h4 := (x45.2 aw 4 lt_aw (fun h => (hi_ne k_aw k_am (by decide)) h.1)).trans h4
      have lt_am := Nat.lt_of_lt_of_le lt_am x45.1
      have lt_aw := Nat.lt_of_lt_of_le lt_aw x45.1
      have hX := hX.tr x45 (fun b j hb h => by first | omega | (dsimp only at h ⊢; omega) | (dsimp only at h; omega) | (dsimp only; omega))
      obtain ⟨rfl, ⟨hz, -⟩ | ⟨-, e45⟩⟩ := hP45
      · exact absurd hz (by decide)
      show et_go none _ 229 48 _ [.int (Int32.ofNat 1)] _ _ _ _
      refine hs_if0 (c := .eq) (t := 52) (f := 51) (by decide +kernel) (show ¬ (Int32.ofNat 1 = 0) by decide) ?_
      refine hs_vret (by decide +kernel) ?_
      exact ⟨_, _, rfl, hH, hX, .inr (.inl ⟨hxr, by omega, e45⟩)⟩
  · refine hs_cb ?_
    show et_go none _ 229 11 _ [.int (Int32.ofNat 1), .ref am] _ _ _ _
    refine hs_k (x := Int32.ofNat 1) (p := 12) (by decide +kernel) ?_
    refine ht_callv (T := et_TT) (t := 13) (mi := 204) (na := 2) (ci := 11) (lk := 4) (lm := 3) (L0 := eg_en (eg_mL 204) [.ref am, .int (Int32.ofNat 1), .int (Int32.ofNat 1)]) (by decide +kernel) rfl hH k_am rfl rfl rfl rfl rfl (by rw [show eg_mL 204 = 3 from by decide +kernel]; first | done | rfl) ?_
    refine (fm_thr (x := Int32.ofNat 1) hH k_am (.inr rfl)).mono (fun u hu => xw_cb hu (fun G12 v12 hH x12 hP12 => ?_))
    have h1 := (x12.2 am 1 lt_am (fun h => absurd h.2 (by decide))).trans h1
    have h4 := (x12.2 aw 4 lt_aw (fun h => (hi_ne k_aw k_am (by decide)) h.1)).trans h4
    have lt_am := Nat.lt_of_lt_of_le lt_am x12.1
    have lt_aw := Nat.lt_of_lt_of_le lt_aw x12.1
    have hX := hX.tr x12 (fun b j hb h => by first | omega | (dsimp only at h ⊢; omega) | (dsimp only at h; omega) | (dsimp only; omega))
    obtain ⟨rfl, ⟨hz, -⟩ | ⟨-, e12⟩⟩ := hP12
    · exact absurd hz (by decide)
    show et_go none _ 229 15 _ [.int (Int32.ofNat 1)] _ _ _ _
    refine hs_if1 (c := .ne) (t := 51) (f := 18) (by decide +kernel) (show ¬ Int32.ofNat 1 = 0 by decide) ?_
    refine hs_vret (by decide +kernel) ?_
    exact ⟨_, _, rfl, hH, hX, .inl ⟨hxr, e12⟩⟩
end FJA
end
section
/-! THE TEXTS: tokens (word's number, NUMBER), what they say -/
abbrev sp_T : Type := Nat × Option Nat
/-- facts by the word's number, tags by the word's number, cells -/
abbrev sp_E : Type := (Nat → Int64) × ((Nat → Bool) × (Nat → Bool))
abbrev sp_P (α : Type) : Type := List sp_T → Option (α × List sp_T)
def sp_fw (w : Nat) : Bool := (Nat.ble 3 w && Nat.ble w 7) || ((Nat.ble 10 w && Nat.ble w 13) || (Nat.ble 15 w && Nat.ble w 19))
def sp_tw (w : Nat) : Bool := Nat.ble w 2 || (w == 8 || (w == 9 || w == 14))
def sp_fact : sp_P (sp_E → Int64) := fun ts => match ts with
  | (w, _) :: r => if sp_fw w = true then some (fun e => e.1 w, r) else none
  | [] => none
/-- behind a NUMBER -/
def sp_times (v : Nat) : sp_P (sp_E → Int64) := fun r => match r with
  | (w, _) :: r2 => if w = 28 then (match sp_fact r2 with
    | some (f, r3) => some (fun e => Int64.ofNat v * f e, r3)
    | none => none) else some (fun _ => Int64.ofNat v, r)
  | [] => some (fun _ => Int64.ofNat v, r)
def sp_part : sp_P (sp_E → Int64) := fun ts => match ts with
  | (w, n) :: r => if w = 33 then (match n with
    | none => none
    | some v => sp_times v r) else sp_fact ts
  | [] => none
def sp_loop {α : Type} (sub : sp_P α) (sep : Nat) (op : α → α → α) : Nat → α → sp_P α
  | 0, a, ts => some (a, ts)
  | n + 1, a, ts => match ts with
    | (w, _) :: r => if w = sep then (match sub r with
      | some (b, r2) => sp_loop sub sep op n (op a b) r2
      | none => none) else some (a, ts)
    | [] => some (a, ts)
def sp_many {α : Type} (sub : sp_P α) (sep : Nat) (op : α → α → α) : sp_P α := fun ts => match sub ts with
  | some (a, r) => sp_loop sub sep op 500 a r
  | none => none
def sp_sum : sp_P (sp_E → Int64) := sp_many sp_part 27 (fun f g e => f e + g e)
def sp_cmp : sp_P (sp_E → Bool) := fun ts => match sp_sum ts with
  | some (a, (w, _) :: r2) => if w = 25 ∨ w = 26 then (match sp_sum r2 with
    | some (b, r3) => some (fun e => if w = 25 then decide (a e < b e) else decide (b e < a e), r3)
    | none => none) else none
  | _ => none
def sp_tag (w : Nat) : sp_P (sp_E → Bool) := fun r => if w = 2 then (match r with
    | (w2, some v) :: r2 => if w2 = 33 ∧ v ≤ 15 then some (fun e => e.2.2 v, r2) else none
    | _ => none) else some (fun e => e.2.1 w, r)
/-- an atom, where so many ( and not may still come; A, C: what stands behind not, inside ( -/
def sp_at (m : Nat) (A C : sp_P (sp_E → Bool)) : sp_P (sp_E → Bool) := fun ts => match ts with
  | (w, _) :: r => if w = 22 then (if m = 0 then none else (match A r with
      | some (f, r2) => some (fun e => !f e, r2)
      | none => none))
    else if w = 23 then (if m = 0 then none else (match C r with
      | some (f, (w2, _) :: r2) => if w2 = 24 then some (f, r2) else none
      | _ => none))
    else if sp_tw w = true then sp_tag w r else sp_cmp ts
  | [] => none
def spx_all (A : sp_P (sp_E → Bool)) : sp_P (sp_E → Bool) := sp_many A 20 (fun f g e => f e && g e)
def spx_any (A : sp_P (sp_E → Bool)) : sp_P (sp_E → Bool) := sp_many (spx_all A) 21 (fun f g e => f e || g e)
def sp_A : Nat → sp_P (sp_E → Bool)
  | 0 => sp_at 0 (fun _ => none) (fun _ => none)
  | m + 1 => sp_at (m + 1) (sp_A m) (spx_any (sp_A m))
def sp_C (m : Nat) : sp_P (sp_E → Bool) := spx_any (sp_A m)
/-- a text of a RULE or a CLAIM -/
def sp_one (ts : List sp_T) : Option (sp_E → Bool) := match sp_C 6 ts with
  | some (f, []) => some f
  | _ => none
abbrev sp_L : Type := Bool × (Nat × Option (sp_E → Bool))
def sp_line : sp_P sp_L := fun ts => match ts with
  | (w, _) :: (w2, some v) :: r => if (w = 29 ∨ w = 30) ∧ (w2 = 33 ∧ v ≤ 50) then (match r with
    | (w3, _) :: r3 => if w3 = 31 then (match sp_C 6 r3 with
      | some (f, r4) => some ((w == 29, v, some f), r4)
      | none => none) else some ((w == 29, v, none), r)
    | [] => some ((w == 29, v, none), r)) else none
  | _ => none
def sp_lines : Nat → List sp_L → List sp_T → Option (List sp_L)
  | 0, _, _ => none
  | n + 1, ls, ts => match sp_line ts with
    | some (l, []) => some (ls ++ [l])
    | some (l, (w, _) :: r) => if w = 32 then sp_lines n (ls ++ [l]) r else none
    | none => none
def sp_turner (ts : List sp_T) : Option (List sp_L) := match ts with
  | [] => some []
  | _ => sp_lines 10 [] ts
/-! bytes: b what stands there, n how many -/
def tz_l (x : Nat) : Bool := Nat.ble 97 x && Nat.ble x 122
def tz_d (x : Nat) : Bool := Nat.ble 48 x && Nat.ble x 57
def tz_go (b : Nat → Nat) (n i : Nat) : Bool := (Nat.blt 0 i && Nat.blt i n) && ((tz_l (b (i - 1)) && tz_l (b i)) || (tz_d (b (i - 1)) && tz_d (b i)))
def tz_en (b : Nat → Nat) (n : Nat) : Nat → Nat → Nat
  | 0, e => e
  | k + 1, e => if tz_go b n e = true then tz_en b n k (e + 1) else e
def tz_end (b : Nat → Nat) (n i : Nat) : Nat := tz_en b n (n - (i + 1)) (i + 1)
def tz_tx (w : Nat) : List Nat := (eg_by.getD (eg_wf.getD w (0, 0, 0)).1 []).map (fun x => x.toNatClampNeg)
def tz_pl (w : Nat) : Nat := (eg_wf.getD w (0, 0, 0)).2.1.toNatClampNeg
/-- does this text stand there, from the k-th byte on -/
def tz_eq (b : Nat → Nat) (i : Nat) : List Nat → Bool
  | [] => true
  | x :: s => b i == x && tz_eq b (i + 1) s
def tz_is (b : Nat → Nat) (s : List Nat) (i e : Nat) : Bool := s.length == e - i && tz_eq b i s
def tz_ok (pl w : Nat) : Bool := tz_pl w == pl || tz_pl w == 3
def tz_fd (pl : Nat) (b : Nat → Nat) (i e : Nat) : Nat → Nat → Nat
  | 0, _ => 35
  | k + 1, w => if (tz_ok pl w && tz_is b (tz_tx w) i e) = true then w else tz_fd pl b i e k (w + 1)
def tz_wd (pl : Nat) (b : Nat → Nat) (n i : Nat) : Nat := if tz_d (b i) = true then 33 else tz_fd pl b i (tz_end b n i) 36 0
def tz_nu (b : Nat → Nat) : Nat → Nat → Nat → Nat
  | 0, _, v => v
  | k + 1, i, v => tz_nu b k (i + 1) (10 * v + b i - 48)
def tz_nm (b : Nat → Nat) (n i : Nat) : Option Nat := if 4 < tz_end b n i - i ∨ tz_d (b i) = false then none else some (tz_nu b (tz_end b n i - i) i 0)
def tz_st (b : Nat → Nat) (n i : Nat) : Bool := !(b i == 32) && !tz_go b n i
/-- where tokens begin, among k places from p on -/
def tz_bg (b : Nat → Nat) (n : Nat) : Nat → Nat → List Nat
  | 0, _ => []
  | k + 1, p => if tz_st b n p = true then p :: tz_bg b n k (p + 1) else tz_bg b n k (p + 1)
def tz_tk (pl : Nat) (b : Nat → Nat) (n i : Nat) : sp_T := (tz_wd pl b n i, tz_nm b n i)
def tz_ts (pl : Nat) (b : Nat → Nat) (n p : Nat) : List sp_T := (tz_bg b n (n - p) p).map (tz_tk pl b n)
theorem tz_en_le {b : Nat → Nat} {n : Nat} : ∀ (k e : Nat), e ≤ tz_en b n k e ∧ tz_en b n k e ≤ e + k
  | 0, e => ⟨Nat.le_refl _, Nat.le_refl _⟩
  | k + 1, e => by
    unfold tz_en
    split
    · have := tz_en_le (b := b) (n := n) k (e + 1)
      omega
    · omega
theorem tz_end_le {b : Nat → Nat} {n i : Nat} (hi : i < n) : i < tz_end b n i ∧ tz_end b n i ≤ n := by
  have := tz_en_le (b := b) (n := n) (n - (i + 1)) (i + 1)
  unfold tz_end
  omega
theorem tz_bg_snoc {b : Nat → Nat} {n : Nat} : ∀ (k p : Nat), tz_bg b n (k + 1) p = tz_bg b n k p ++ (if tz_st b n (p + k) = true then [p + k] else [])
  | 0, p => by
    unfold tz_bg tz_bg
    rfl
  | k + 1, p => by
    have h := tz_bg_snoc (b := b) (n := n) k (p + 1)
    rw [show p + 1 + k = p + (k + 1) by omega] at h
    rw [tz_bg]
    rw [h]
    conv => rhs; rw [tz_bg]
    split <;> rfl
theorem tz_bg_len {b : Nat → Nat} {n : Nat} : ∀ (k p : Nat), (tz_bg b n k p).length ≤ k
  | 0, _ => Nat.le_refl _
  | k + 1, p => by
    have := tz_bg_len (b := b) (n := n) k (p + 1)
    unfold tz_bg
    split
    · rw [List.length_cons]
      omega
    · omega
/-- loops' fuel -/
theorem sp_loop_fu {α : Type} {sub : sp_P α} {sep : Nat} {op : α → α → α} (hs : ∀ ts a r, sub ts = some (a, r) → r.length ≤ ts.length) : ∀ (n m : Nat) (a : α) (ts : List sp_T), ts.length < n → ts.length < m → sp_loop sub sep op n a ts = sp_loop sub sep op m a ts
  | 0, _, _, _, h, _ => absurd h (Nat.not_lt_zero _)
  | _ + 1, 0, _, _, _, h => absurd h (Nat.not_lt_zero _)
  | n + 1, m + 1, a, [], _, _ => rfl
  | n + 1, m + 1, a, (w, x) :: r, h1, h2 => by
    rw [List.length_cons] at h1 h2
    unfold sp_loop
    dsimp only
    split
    · split
      · rename_i b r2 e
        have := hs _ _ _ e
        exact sp_loop_fu hs n m _ r2 (by omega) (by omega)
      · rfl
    · rfl
theorem sp_loop_le {α : Type} {sub : sp_P α} {sep : Nat} {op : α → α → α} (hs : ∀ ts a r, sub ts = some (a, r) → r.length ≤ ts.length) : ∀ (n : Nat) (a : α) (ts : List sp_T) (b : α) (r : List sp_T), sp_loop sub sep op n a ts = some (b, r) → r.length ≤ ts.length
  | 0, a, ts, b, r, h => by
    cases h
    exact Nat.le_refl _
  | n + 1, a, [], b, r, h => by
    cases h
    exact Nat.le_refl _
  | n + 1, a, (w, x) :: q, b, r, h => by
    unfold sp_loop at h
    dsimp only at h
    split at h
    · split at h
      · rename_i c r2 e
        have h1 := hs _ _ _ e
        have h2 := sp_loop_le hs n _ r2 b r h
        rw [List.length_cons]
        omega
      · cases h
    · cases h
      exact Nat.le_refl _
theorem sp_many_le {α : Type} {sub : sp_P α} {sep : Nat} {op : α → α → α} (hs : ∀ ts a r, sub ts = some (a, r) → r.length ≤ ts.length) : ∀ (ts : List sp_T) (b : α) (r : List sp_T), sp_many sub sep op ts = some (b, r) → r.length ≤ ts.length := by
  intro ts b r h
  unfold sp_many at h
  split at h
  · rename_i a q e
    have h1 := hs _ _ _ e
    have h2 := sp_loop_le hs _ _ _ _ _ h
    omega
  · cases h
theorem sp_fact_le : ∀ (ts : List sp_T) (a : sp_E → Int64) (r : List sp_T), sp_fact ts = some (a, r) → r.length ≤ ts.length := by
  intro ts a r h
  unfold sp_fact at h
  split at h
  · split at h
    · cases h
      exact Nat.le_succ _
    · cases h
  · cases h
theorem sp_part_le : ∀ (ts : List sp_T) (a : sp_E → Int64) (r : List sp_T), sp_part ts = some (a, r) → r.length ≤ ts.length := by
  intro ts a r h
  unfold sp_part at h
  split at h
  · rename_i w n q
    split at h
    · split at h
      · cases h
      · unfold sp_times at h
        split at h
        · rename_i w2 x2 r2
          split at h
          · split at h
            · rename_i f r3 e
              cases h
              have := sp_fact_le _ _ _ e
              simp only [List.length_cons]
              omega
            · cases h
          · cases h
            simp only [List.length_cons]
            omega
        · cases h
          simp only [List.length_cons, List.length_nil]
          omega
    · exact sp_fact_le _ _ _ h
  · cases h
theorem sp_sum_le : ∀ (ts : List sp_T) (a : sp_E → Int64) (r : List sp_T), sp_sum ts = some (a, r) → r.length ≤ ts.length := sp_many_le sp_part_le
theorem sp_cmp_le : ∀ (ts : List sp_T) (a : sp_E → Bool) (r : List sp_T), sp_cmp ts = some (a, r) → r.length ≤ ts.length := by
  intro ts a r h
  unfold sp_cmp at h
  split at h
  · rename_i f w x r2 e
    have h1 := sp_sum_le _ _ _ e
    rw [List.length_cons] at h1
    split at h
    · split at h
      · rename_i g r3 e3
        cases h
        have h2 := sp_sum_le _ _ _ e3
        omega
      · cases h
    · cases h
  · cases h
theorem sp_tag_le {w : Nat} : ∀ (ts : List sp_T) (a : sp_E → Bool) (r : List sp_T), sp_tag w ts = some (a, r) → r.length ≤ ts.length := by
  intro ts a r h
  unfold sp_tag at h
  split at h
  · split at h
    · split at h
      · cases h
        exact Nat.le_succ _
      · cases h
    · cases h
  · cases h
    exact Nat.le_refl _
theorem sp_at_le {m : Nat} {A C : sp_P (sp_E → Bool)} (hA : ∀ ts a r, A ts = some (a, r) → r.length ≤ ts.length) (hC : ∀ ts a r, C ts = some (a, r) → r.length ≤ ts.length) : ∀ (ts : List sp_T) (a : sp_E → Bool) (r : List sp_T), sp_at m A C ts = some (a, r) → r.length ≤ ts.length := by
  intro ts a r h
  unfold sp_at at h
  split at h
  · rename_i w x q
    split at h
    · split at h
      · cases h
      · split at h
        · rename_i f r2 e
          cases h
          have := hA _ _ _ e
          rw [List.length_cons]
          omega
        · cases h
    · split at h
      · split at h
        · cases h
        · split at h
          · rename_i f w2 x2 r2 e
            have := hC _ _ _ e
            rw [List.length_cons] at this
            split at h
            · cases h
              rw [List.length_cons]
              omega
            · cases h
          · cases h
      · split at h
        · have := sp_tag_le _ _ _ h
          rw [List.length_cons]
          omega
        · exact sp_cmp_le _ _ _ h
  · cases h
theorem sp_A_le : ∀ (m : Nat) (ts : List sp_T) (a : sp_E → Bool) (r : List sp_T), sp_A m ts = some (a, r) → r.length ≤ ts.length
  | 0 => sp_at_le (fun _ _ _ h => by cases h) (fun _ _ _ h => by cases h)
  | m + 1 => sp_at_le (sp_A_le m) (sp_many_le (sp_many_le (sp_A_le m)))
theorem spx_all_le (m : Nat) : ∀ (ts : List sp_T) (a : sp_E → Bool) (r : List sp_T), spx_all (sp_A m) ts = some (a, r) → r.length ≤ ts.length := sp_many_le (sp_A_le m)
theorem sp_C_le (m : Nat) : ∀ (ts : List sp_T) (a : sp_E → Bool) (r : List sp_T), sp_C m ts = some (a, r) → r.length ≤ ts.length := sp_many_le (spx_all_le m)
end
