/-! COUNTS ON BOTH SIDES: pairs of a field of the class's state and a place of the reference's world; now, and kept -/
def rc (ks : List (Nat × Nat)) (K : et_K) (G : eg_G) (th s0 s1 : Nat) (c i : Nat → Nat) : Prop := (K s0 = some 10 ∧ K s1 = some 10 ∧ ¬ s0 = s1) ∧ (et_pl (eg_at G th) 0 = some (.ref s0) ∧ et_pl (eg_at G th) 1 = some (.ref s1)) ∧ ∀ q ∈ ks, et_pl (eg_at G s0) q.1 = some (.int (Int32.ofNat (c q.2))) ∧ et_pl (eg_at G s1) q.1 = some (.int (Int32.ofNat (i q.2)))
def rm (ks : List (Nat × Nat)) (K : et_K) (G : eg_G) (am aw ai : Nat) (c i : Nat → Nat) : Prop := (K aw = some 46 ∧ K ai = some 47) ∧ (et_pl (eg_at G am) 1 = some (.ref aw) ∧ et_pl (eg_at G am) 2 = some (.ref ai)) ∧ ∀ q ∈ ks, et_pl (eg_at G aw) q.2 = some (.int (Int32.ofNat (c q.2))) ∧ et_pl (eg_at G ai) q.2 = some (.int (Int32.ofNat (i q.2)))
def rc_k (ks : List (Nat × Nat)) (M : et_M) : Bool := !et_mm M 12 0 && (!et_mm M 12 1 && ks.all (fun q => !et_mm M 10 q.1))
def rm_k (ks : List (Nat × Nat)) (M : et_M) : Bool := !et_mm M 13 1 && (!et_mm M 13 2 && ks.all (fun q => !et_mm M 46 q.2 && !et_mm M 47 q.2))
theorem rc.fr {ks : List (Nat × Nat)} {K K' : et_K} {G G' : eg_G} {M : et_M} {th s0 s1 : Nat} {c i : Nat → Nat} (h : rc ks K G th s0 s1 c i) (ht : K th = some 12) (hx : et_ex K K') (hf : et_fr M K G G') (hk : rc_k ks M = true) : rc ks K' G' th s0 s1 c i := by
  unfold rc_k at hk
  rw [Bool.and_eq_true, Bool.and_eq_true] at hk
  obtain ⟨k1, k2, k3⟩ := hk
  obtain ⟨⟨h1, h2, h3⟩, ⟨h4, h5⟩, h6⟩ := h
  refine ⟨⟨hx _ _ h1, hx _ _ h2, h3⟩, ⟨(hf.2 th 12 ht 0 (by simpa using k1)).trans h4, (hf.2 th 12 ht 1 (by simpa using k2)).trans h5⟩, fun q hq => ?_⟩
  have k4 := List.all_eq_true.mp k3 q hq
  exact ⟨(hf.2 s0 10 h1 q.1 (by simpa using k4)).trans (h6 q hq).1, (hf.2 s1 10 h2 q.1 (by simpa using k4)).trans (h6 q hq).2⟩
theorem rm.fr {ks : List (Nat × Nat)} {K K' : et_K} {G G' : eg_G} {M : et_M} {am aw ai : Nat} {c i : Nat → Nat} (h : rm ks K G am aw ai c i) (ht : K am = some 13) (hx : et_ex K K') (hf : et_fr M K G G') (hk : rm_k ks M = true) : rm ks K' G' am aw ai c i := by
  unfold rm_k at hk
  rw [Bool.and_eq_true, Bool.and_eq_true] at hk
  obtain ⟨k1, k2, k3⟩ := hk
  obtain ⟨⟨h1, h2⟩, ⟨h4, h5⟩, h6⟩ := h
  refine ⟨⟨hx _ _ h1, hx _ _ h2⟩, ⟨(hf.2 am 13 ht 1 (by simpa using k1)).trans h4, (hf.2 am 13 ht 2 (by simpa using k2)).trans h5⟩, fun q hq => ?_⟩
  have k4 := List.all_eq_true.mp k3 q hq
  rw [Bool.and_eq_true] at k4
  exact ⟨(hf.2 aw 46 h1 q.2 (by simpa using k4.1)).trans (h6 q hq).1, (hf.2 ai 47 h2 q.2 (by simpa using k4.2)).trans (h6 q hq).2⟩
def rc_up (f : Nat → Nat) (k v : Nat) : Nat → Nat := fun j => if j = k then v else f j
theorem rc_upb {f : Nat → Nat} {k v : Nat} (h : ∀ k, f k ≤ 400) (hv : v ≤ 400) : ∀ j, rc_up f k v j ≤ 400 := fun j => by
  unfold rc_up
  split
  · exact hv
  · exact h j
/-- one count of the present state becomes another -/
theorem rc.up {S : Nat → Nat → Prop} {ks : List (Nat × Nat)} {K K' : et_K} {G G' : eg_G} {th s0 s1 k0 f v : Nat} {c i : Nat → Nat} (h : rc ks K G th s0 s1 c i) (hH : et_H et_TT K G) (ht : K th = some 12) (hx : et_ex K K') (hf : xf S G G') (hS : ∀ a j t, K a = some t → S a j → (t = 12 → 2 ≤ j) ∧ (t = 10 → a = s0 ∧ j = f)) (hv : et_pl (eg_at G' s0) f = some (.int (Int32.ofNat v))) (hk : ks.all (fun q => (q.1 == f) == (q.2 == k0)) = true) : rc ks K' G' th s0 s1 (rc_up c k0 v) i := by
  obtain ⟨⟨h1, h2, h3⟩, ⟨h4, h5⟩, h6⟩ := h
  refine ⟨⟨hx _ _ h1, hx _ _ h2, h3⟩, ⟨(hf.2 th 0 (hH.2.2 _ _ ht).1 (fun hs => ?_)).trans h4, (hf.2 th 1 (hH.2.2 _ _ ht).1 (fun hs => ?_)).trans h5⟩, fun q hq => ⟨?_, ?_⟩⟩
  · have := (hS th 0 12 ht hs).1 rfl
    omega
  · have := (hS th 1 12 ht hs).1 rfl
    omega
  · have k4 := beq_iff_eq.mp (List.all_eq_true.mp hk q hq)
    by_cases e : q.1 = f
    · rw [e, beq_self_eq_true] at k4
      rw [e, show rc_up c k0 v q.2 = v from if_pos (beq_iff_eq.mp k4.symm)]
      exact hv
    · have e2 : ¬ q.2 = k0 := fun e2 => by
        rw [e2, beq_self_eq_true, beq_iff_eq] at k4
        exact e k4
      rw [show rc_up c k0 v q.2 = c q.2 from if_neg e2]
      exact (hf.2 s0 q.1 (hH.2.2 _ _ h1).1 (fun hs => e ((hS s0 q.1 10 h1 hs).2 rfl).2)).trans (h6 q hq).1
  · exact (hf.2 s1 q.1 (hH.2.2 _ _ h2).1 (fun hs => h3 ((hS s1 q.1 10 h2 hs).2 rfl).1.symm)).trans (h6 q hq).2
theorem rm.up {S : Nat → Nat → Prop} {ks : List (Nat × Nat)} {K K' : et_K} {G G' : eg_G} {am aw ai k0 v : Nat} {c i : Nat → Nat} (h : rm ks K G am aw ai c i) (hH : et_H et_TT K G) (ht : K am = some 13) (hx : et_ex K K') (hf : xf S G G') (hS : ∀ a j t, K a = some t → S a j → (t = 13 → j = 0 ∨ 3 ≤ j) ∧ ((t = 46 → j = k0 ∨ 5 ≤ j) ∧ ¬ t = 47)) (hv : et_pl (eg_at G' aw) k0 = some (.int (Int32.ofNat v))) (hk : ks.all (fun q => Nat.blt q.2 5) = true) : rm ks K' G' am aw ai (rc_up c k0 v) i := by
  obtain ⟨⟨h1, h2⟩, ⟨h4, h5⟩, h6⟩ := h
  refine ⟨⟨hx _ _ h1, hx _ _ h2⟩, ⟨(hf.2 am 1 (hH.2.2 _ _ ht).1 (fun hs => ?_)).trans h4, (hf.2 am 2 (hH.2.2 _ _ ht).1 (fun hs => ?_)).trans h5⟩, fun q hq => ⟨?_, ?_⟩⟩
  · have := (hS am 1 13 ht hs).1 rfl
    omega
  · have := (hS am 2 13 ht hs).1 rfl
    omega
  · have k4 : q.2 < 5 := Nat.le_of_ble_eq_true (List.all_eq_true.mp hk q hq)
    by_cases e : q.2 = k0
    · rw [show rc_up c k0 v q.2 = v from if_pos e, e]
      exact hv
    · rw [show rc_up c k0 v q.2 = c q.2 from if_neg e]
      refine (hf.2 aw q.2 (hH.2.2 _ _ h1).1 (fun hs => ?_)).trans (h6 q hq).1
      have := (hS aw q.2 46 h1 hs).2.1 rfl
      omega
  · exact (hf.2 ai q.2 (hH.2.2 _ _ h2).1 (fun hs => (hS ai q.2 47 h2 hs).2.2 rfl)).trans (h6 q hq).2
theorem hf_bd {T : List et_D} {K : et_K} {G : eg_G} {a t ci f e : Nat} {hi : Int} {ps : List et_P} (hH : et_H T K G) (ha : K a = some t) (hT : T[t]? = some (.inl (ci, ps))) (hp : ps[f]? = some (.inl (0, hi))) (hv : et_pl (eg_at G a) f = some (.int (Int32.ofNat e))) (he : e ≤ 400) : (e : Int) ≤ hi := by
  obtain ⟨-, -, -, dd, hd, hcc, -⟩ := hH.2.2 a t ha
  rw [hT] at hd
  cases hd
  obtain ⟨fs, e1, el, ef⟩ := hcc
  obtain ⟨v, h1, h2⟩ := ef f _ hp
  rw [e1] at hv
  have hv : fs[f]? = some (.int (Int32.ofNat e)) := hv
  rw [h1] at hv
  cases hv
  obtain ⟨x, hx, h3, h4⟩ := h2.resolve_left (fun h => nomatch (show false = true from h))
  cases hx
  rw [hs_nint (by omega)] at h4
  exact h4
theorem hm_oo {G : eg_G} {am aw b : Nat} {F : Nat → Value} {W : Nat → Int32} (h1 : ¬ b = am) (h2 : ¬ b = aw) : eg_at (hm_H G am aw F W) b = eg_at G b := by
  unfold hm_H
  rw [et_at_u h2, et_at_u h1]
section LFA
variable {K : et_K} {G : eg_G} {d2 am aw ai h : Nat}
/-- the reference's image: the world as far as it is kept -/
theorem fm_image (hH : et_H et_TT K G) (k_am : K am = some 13) (h1 : et_pl (eg_at G am) 1 = some (.ref aw)) (h2 : et_pl (eg_at G am) 2 = some (.ref ai)) : et_go none d2 175 0 (eg_en (eg_mL 175) [.ref am]) [] G 0 0 (fun u => ∀ k, k < 11900 → et_pl (eg_at u.2.1 aw) k = et_pl (eg_at G aw) k ∧ et_pl (eg_at u.2.1 ai) k = et_pl (eg_at G aw) k) := by
  obtain ⟨F, W, aw', hA, eF, eW, hw, hKw, hF, hX, hW, hG, e⟩ := hi_mod hH k_am
  obtain rfl : aw' = aw := by
    rw [eF, hi_pF (by decide), hw] at h1
    exact Value.ref.inj (Option.some.inj h1)
  obtain ⟨ia, hi, hKi⟩ := hi_ref (hF 2 _ rfl)
  obtain rfl : ia = ai := by
    rw [eF, hi_pF (by decide), hi] at h2
    exact Value.ref.inj (Option.some.inj h2)
  obtain ⟨I, eI, -, -⟩ := hi_arr hH hKi et_t47 (by decide) (.inl rfl)
  have n1 := hi_ne hKi k_am (by decide)
  have n2 := hi_ne hKi hKw (by decide)
  have g3 := hi_at hH hKi (by decide)
  rw [hi_mL175]
  have h0 := rp_image (d := d2) (Z := fun u => ∀ k, k < 11900 → et_pl (eg_at u.2.1 aw') k = et_pl (eg_at G aw') k ∧ et_pl (eg_at u.2.1 ia) k = et_pl (eg_at G aw') k) hA hw hi n1 n2 g3 eI (fun I' h1 k hk => by
    have hA2 : hm_ok (eg_u G ia (.inl (0, (11900, .inl I')))) am aw' := hA
    dsimp only
    rw [hm_w hA2, hm_oo n1 n2, et_at_us g3.1, eW, hi_pW (by omega), hf_pl (.inl rfl), if_pos hk, h1 k hk]
    exact ⟨rfl, rfl⟩)
  rw [← e] at h0
  exact h0
theorem fm_back (hH : et_H et_TT K G) (k_am : K am = some 13) (h1 : et_pl (eg_at G am) 1 = some (.ref aw)) (h2 : et_pl (eg_at G am) 2 = some (.ref ai)) (hg : pg_at G am h) (hh1 : h ≤ 1) : et_go none d2 176 0 (eg_en (eg_mL 176) [.ref am]) [] G 0 0 (fun u => ∀ k, k < 11900 → et_pl (eg_at u.2.1 aw) k = (if h = 0 then et_pl (eg_at G aw) k else et_pl (eg_at G ai) k) ∧ et_pl (eg_at u.2.1 ai) k = et_pl (eg_at G ai) k) := by
  obtain ⟨F, W, aw', hA, eF, eW, hw, hKw, hF, hX, hW, hG, e⟩ := hi_mod hH k_am
  obtain rfl : aw' = aw := by
    rw [eF, hi_pF (by decide), hw] at h1
    exact Value.ref.inj (Option.some.inj h1)
  obtain ⟨ia, hi, hKi⟩ := hi_ref (hF 2 _ rfl)
  obtain rfl : ia = ai := by
    rw [eF, hi_pF (by decide), hi] at h2
    exact Value.ref.inj (Option.some.inj h2)
  obtain ⟨I, eI, -, -⟩ := hi_arr hH hKi et_t47 (by decide) (.inl rfl)
  obtain ⟨ak, hai, hKa⟩ := hi_ref (hF 18 _ rfl)
  obtain ⟨IK, eA, -, -⟩ := hi_arr (kd := 3) (n := 4) hH hKa rfl (by decide) (.inr (.inr (.inl rfl)))
  have hh := hi_h3 eF hg
  have n1 := hi_ne hKi k_am (by decide)
  have n2 := hi_ne hKi hKw (by decide)
  have g3 := hi_at hH hKi (by decide)
  have n4 : am ≠ ak := hi_ne k_am hKa (by decide)
  have n5 : aw' ≠ ak := hi_ne hKw hKa (by decide)
  have n6 : ia ≠ ak := hi_ne hKi hKa (by decide)
  rw [hi_mL176]
  have h0 := rp_back (d := d2) (Z := fun u => ∀ k, k < 11900 → et_pl (eg_at u.2.1 aw') k = (if h = 0 then et_pl (eg_at G aw') k else et_pl (eg_at G ia) k) ∧ et_pl (eg_at u.2.1 ia) k = et_pl (eg_at G ia) k) hA hw hi hh n1 n2 g3 eI hai (fun h => n4 h.symm) (fun h => n5 h.symm) (hi_at hH hKa (by decide)) eA
    (fun z k hk => by
      dsimp only
      rw [if_pos (hi_b0 hh1 (fun hz => hz z)), hm_w hA, hm_oo n1 n2, eW]
      exact ⟨rfl, rfl⟩)
    (fun z V K' v1 v2 v3 k hk => by
      have hA2 : hm_ok (eg_u G ak (.inl (3, (4, .inl K')))) am aw' := hA
      have e1 : ¬ h = 0 := by
        have := hi_b1 hh1 z
        omega
      dsimp only
      rw [if_neg e1, hm_w hA2, hm_oo n1 n2, et_at_u n6, eI, hi_pW (by omega), hf_pl (.inl rfl), if_pos hk, v1 k hk]
      exact ⟨rfl, rfl⟩)
  rw [← e] at h0
  exact h0
end LFA
section LFB
variable {T : List et_D} {M : et_M} {sc : eg_Sc} {d k pc ck sk : Nat} {L : eg_Ls} {st r : List Value} {G : eg_G} {Z : eg_O → Prop} {w : et_Wd} {u : eg_O} {c s : Nat} {P : eg_G → Prop} {K : et_K} {th : Nat} {v : Value} {Q : eg_O → Prop}
theorem ls_cbvQ {q : et_P} (hu : hi_Z T w M [(.inl (some q), c, s)] u ∧ Q u) (h : ∀ (v : Value) (K' : et_K) (G' : eg_G) (c' s' : Nat), et_ex w.1 K' → et_fr M w.1 w.2.2 G' → et_H T K' G' → et_v K' q v → c' ≤ c → s' ≤ s → Q (.inl (some v), G', c', s') → et_go sc d k (pc + 3) L (v :: r) G' (ck + c') (sk + s') Z) : ls_cont sc d k pc L r ck sk Z u := by
  obtain ⟨⟨e, he, K', h1, h2, h3, h4, h5, h6⟩, hQ⟩ := hu
  obtain rfl := List.mem_singleton.mp he
  obtain ⟨v, hv1, hv2⟩ := h4
  obtain ⟨u1, u2, u3, u4⟩ := u
  have hv1 : u1 = .inl (some v) := hv1
  subst hv1
  exact ls_cb (h v K' u2 u3 u4 h1 h2 h3 hv2 h5 h6 hQ)
theorem ls_cbnQ (hu : hi_Z T w M [(.inl none, c, s)] u ∧ Q u) (h : ∀ (K' : et_K) (G' : eg_G) (c' s' : Nat), et_ex w.1 K' → et_fr M w.1 w.2.2 G' → et_H T K' G' → c' ≤ c → s' ≤ s → Q (.inl none, G', c', s') → et_go sc d k (pc + 3) L r G' (ck + c') (sk + s') Z) : ls_cont sc d k pc L r ck sk Z u := by
  obtain ⟨⟨e, he, K', h1, h2, h3, h4, h5, h6⟩, hQ⟩ := hu
  obtain rfl := List.mem_singleton.mp he
  obtain ⟨u1, u2, u3, u4⟩ := u
  have h4 : u1 = .inl none := h4
  subst h4
  exact ls_cb (h K' u2 u3 u4 h1 h2 h3 h5 h6 hQ)
theorem ls_cbrQ (hu : pr_Z M K G th [] c s P u ∧ Q u) (h : ∀ (n : Int32) (K' : et_K) (G' : eg_G) (c' s' : Nat), et_ex K K' → et_fr M K G G' → et_H et_TT K' G' → ci K' G' th → P G' → c' ≤ c → s' ≤ s → Q (.inl (some (.int n)), G', c', s') → et_go sc d k (pc + 3) L (.int n :: r) G' (ck + c') (sk + s') Z) : ls_cont sc d k pc L r ck sk Z u := by
  obtain ⟨⟨K', h1, h2, h3, h4, h5, h6, h7, h8⟩, hQ⟩ := hu
  obtain ⟨u1, u2, u3, u4⟩ := u
  rcases h6 with ⟨n, e⟩ | ⟨x, hx, -⟩
  · have e : u1 = .inl (some (.int n)) := e
    subst e
    exact ls_cb (h n K' u2 u3 u4 h1 h2 h3 h4 h5 h7 h8 hQ)
  · exact absurd hx List.not_mem_nil
theorem ls_cbwQ (hu : pv_Z M K G th u ∧ Q u) (h : ∀ (K' : et_K) (G' : eg_G), et_ex K K' → et_fr M K G G' → et_H et_TT K' G' → ci K' G' th → Q (.inl none, G', 0, 0) → et_go sc d k (pc + 3) L r G' ck sk Z) : ls_cont sc d k pc L r ck sk Z u := by
  obtain ⟨⟨K', h1, h2, h3, h4, e, h7, h8⟩, hQ⟩ := hu
  obtain ⟨u1, u2, u3, u4⟩ := u
  have e : u1 = .inl none := e
  have h7 : u3 = 0 := h7
  have h8 : u4 = 0 := h8
  subst e h7 h8
  exact ls_cb (h K' u2 h1 h2 h3 h4 hQ)
theorem ls_lald {N p n a t : Nat} {x : Int64} (hc : hs_o k pc = some (.laload, p)) (hn : hs_np .laload = true) (hT : T[t]? = some (.inr (2, N, []))) (hH : et_H T K G) (ha : K a = some t) (hN : N < 2147483648) (hv : et_pl (eg_at G a) n = some (.long x)) (h : et_go sc d k p L (.long x :: r) G ck sk Z) : et_go sc d k pc L (.int (Int32.ofNat n) :: .ref a :: r) G ck sk Z := by
  obtain ⟨e, rfl⟩ := hs_oc hc
  obtain ⟨y, ec, el, -⟩ := hf_cell hT hH ha
  rw [ec] at hv
  have hv : (if n < y.1 then eg_rd 2 y n else none) = some (.long x) := hv
  have hn2 : n < y.1 := by
    by_cases hn : n < y.1
    · exact hn
    · rw [if_neg hn] at hv
      cases hv
  rw [if_pos hn2] at hv
  refine ls_st e hn rfl ?_ h
  show eg_ar .laload pc L (.int (Int32.ofNat n) :: .ref a :: r) G ck sk = _
  unfold eg_ar
  dsimp only
  rw [ec]
  dsimp only
  rw [if_pos ⟨(hH.2.2 a t ha).1, rfl, by rw [hs_nint (by omega)]; omega, by rw [hs_nint (by omega)]; omega⟩, hs_nnat (by omega), hv]
theorem lg_cmp0 (x : Int64) : lg_cmp x x = 0 := by
  unfold lg_cmp
  simp
end LFB

section FHA
variable {w : et_Wd} {K : et_K} {G : eg_G} {d2 d th am aw ai out s0 s1 e i h ra0 ca0 rc0 ec0 cc0 ra1 ca1 rc1 ec1 cc1 : Nat} {x c : Int32}
theorem fc_forget (hH : et_H et_TT K G) (k_th : K th = some 12) : et_go none d2 120 0 (eg_en (eg_mL 120) [.ref th]) [] G 0 0 (xw_Z (fun b j => (b = th ∧ (6 ≤ j ∧ j ≤ 7))) K G (fun _ v => v = none)) := by
  rw [show eg_mL 120 = 1 from by decide +kernel]
  show et_go none d2 120 0 [some (.ref th)] [] G 0 0 _
  have lt_th := (hH.2.2 _ _ k_th).1
  have hX : xf (fun b j => (b = th ∧ (6 ≤ j ∧ j ≤ 7))) G G := xf.rf
  refine hs_aload (i := 0) (p := 1) (by decide +kernel) rfl ?_
  refine hs_k (x := (-1)) (p := 2) (by decide +kernel) ?_
  refine hf_put (T := et_TT) (t := 12) (ci := 10) (f := 6) (p := 5) (ty := .int) (by decide +kernel) rfl rfl rfl rfl rfl hH k_th (hi_iv (by decide) (by decide)) (fun G2 hH x2 e2 => ?_)
  have lt_th := Nat.lt_of_lt_of_le lt_th x2.1
  have hX := hX.tr x2 (fun b j hb h => by first | omega | (dsimp only at h ⊢; omega) | (dsimp only at h; omega) | (dsimp only; omega))
  refine hs_aload (i := 0) (p := 6) (by decide +kernel) rfl ?_
  refine hs_k (x := (-1)) (p := 7) (by decide +kernel) ?_
  refine hf_put (T := et_TT) (t := 12) (ci := 10) (f := 7) (p := 10) (ty := .int) (by decide +kernel) rfl rfl rfl rfl rfl hH k_th (hi_iv (by decide) (by decide)) (fun G7 hH x7 e7 => ?_)
  have e2 := (x7.2 th 6 lt_th (fun h => absurd h.2 (by decide))).trans e2
  have lt_th := Nat.lt_of_lt_of_le lt_th x7.1
  have hX := hX.tr x7 (fun b j hb h => by first | omega | (dsimp only at h ⊢; omega) | (dsimp only at h; omega) | (dsimp only; omega))
  refine hs_vret (by decide +kernel) ?_
  exact ⟨_, _, rfl, hH, hX, rfl⟩
theorem fc_image (hH : et_H et_TT K G) (hC : ci_O K G th s0 s1 ra0 ca0 rc0 ec0 cc0 ra1 ca1 rc1 ec1 cc1) (hd : 3 ≤ d2) : et_go none d2 124 0 (eg_en (eg_mL 124) [.ref th]) [] G 0 0 (fun u => et_pl (eg_at u.2.1 s0) 5 = some (.int (Int32.ofNat ec0)) ∧ et_pl (eg_at u.2.1 s1) 5 = some (.int (Int32.ofNat ec0))) := by
  obtain ⟨d, rfl⟩ : ∃ d, d2 = d + 3 := ⟨d2 - 3, by omega⟩
  have k_th := hC.1
  have k_s0 := hC.2.2.2.1.1.1
  have k_s1 := hC.2.2.2.2.1.1
  have h0 := hC.2.1.1
  have h1 := hC.2.1.2
  have hne := hC.2.2.1.1
  rw [show eg_mL 124 = 1 from by decide +kernel]
  show et_go none (d + 3) 124 0 [some (.ref th)] [] G 0 0 _
  have lt_th := (hH.2.2 _ _ k_th).1
  have lt_s0 := (hH.2.2 _ _ k_s0).1
  have lt_s1 := (hH.2.2 _ _ k_s1).1
  refine hs_aload (i := 0) (p := 1) (by decide +kernel) rfl ?_
  refine hf_get (T := et_TT) (t := 12) (ci := 10) (f := 1) (p := 4) (by decide +kernel) rfl hH k_th h1 ?_
  refine hs_aload (i := 0) (p := 5) (by decide +kernel) rfl ?_
  refine hf_get (T := et_TT) (t := 12) (ci := 10) (f := 0) (p := 8) (by decide +kernel) rfl hH k_th h0 ?_
  refine ht_callv (T := et_TT) (t := 10) (mi := 104) (na := 1) (ci := 8) (lk := 1) (lm := 3) (L0 := eg_en (eg_mL 104) [.ref s1, .ref s0]) (by decide +kernel) rfl hH k_s1 rfl rfl rfl rfl rfl (by rw [show eg_mL 104 = 3 from by decide +kernel]; first | done | rfl) ?_
  refine (hc_takeI (a := s1) (s := s0) hH hC.2.2.2.1 hC.2.2.2.2 hC.2.2.1 (by omega)).mono (fun u hu => tf_cb hu (fun K8 G8 x8 f8 hH hS1 hS0 => ?_))
  have p5a : et_pl (eg_at G8 s1) 5 = some (.int (Int32.ofNat ec0)) := hS0.2.2.1.2.1
  have p5b : et_pl (eg_at G8 s0) 5 = some (.int (Int32.ofNat ec0)) := hS1.2.2.1.2.1
  have k_th := x8 _ _ k_th
  have lt_th := (hH.2.2 _ _ k_th).1
  have k_s0 := x8 _ _ k_s0
  have lt_s0 := (hH.2.2 _ _ k_s0).1
  have k_s1 := x8 _ _ k_s1
  have lt_s1 := (hH.2.2 _ _ k_s1).1
  show et_go none _ 124 11 _ [] _ _ _ _
  refine hs_aload (i := 0) (p := 12) (by decide +kernel) rfl ?_
  refine hs_k (x := Int32.ofNat 1) (p := 13) (by decide +kernel) ?_
  refine hf_put (T := et_TT) (t := 12) (ci := 10) (f := 2) (p := 16) (ty := .boolean) (by decide +kernel) rfl rfl rfl (by decide +kernel) rfl hH k_th (hi_nv (by omega) (by omega)) (fun G13 hH x13 e13 => ?_)
  have p5a := (x13.2 s1 5 lt_s1 (fun h => (hi_ne k_s1 k_th (by decide)) h.1)).trans p5a
  have p5b := (x13.2 s0 5 lt_s0 (fun h => (hi_ne k_s0 k_th (by decide)) h.1)).trans p5b
  have lt_th := Nat.lt_of_lt_of_le lt_th x13.1
  have lt_s0 := Nat.lt_of_lt_of_le lt_s0 x13.1
  have lt_s1 := Nat.lt_of_lt_of_le lt_s1 x13.1
  refine hs_vret (by decide +kernel) ?_
  exact ⟨p5b, p5a⟩
theorem fc_back (hH : et_H et_TT K G) (hC : ci_O K G th s0 s1 ra0 ca0 rc0 ec0 cc0 ra1 ca1 rc1 ec1 cc1) (hp : ph_at G th h) (hh1 : h ≤ 1) (hd : 3 ≤ d2) : et_go none d2 125 0 (eg_en (eg_mL 125) [.ref th]) [] G 0 0 (fun u => et_pl (eg_at u.2.1 s0) 5 = some (.int (Int32.ofNat (if h = 0 then ec0 else ec1))) ∧ et_pl (eg_at u.2.1 s1) 5 = some (.int (Int32.ofNat ec1))) := by
  obtain ⟨d, rfl⟩ : ∃ d, d2 = d + 3 := ⟨d2 - 3, by omega⟩
  have k_th := hC.1
  have k_s0 := hC.2.2.2.1.1.1
  have k_s1 := hC.2.2.2.2.1.1
  have h0 := hC.2.1.1
  have h1 := hC.2.1.2
  have hne := hC.2.2.1.1
  have i0 := hC.2.2.2.1.2.2.1.2.1
  have i1 := hC.2.2.2.2.2.2.1.2.1
  have hp : et_pl (eg_at G th) 2 = some (.int (Int32.ofNat h)) := hp
  have hH0 := hH
  rw [show eg_mL 125 = 1 from by decide +kernel]
  show et_go none (d + 3) 125 0 [some (.ref th)] [] G 0 0 _
  have lt_th := (hH.2.2 _ _ k_th).1
  have lt_s0 := (hH.2.2 _ _ k_s0).1
  have lt_s1 := (hH.2.2 _ _ k_s1).1
  refine hs_aload (i := 0) (p := 1) (by decide +kernel) rfl ?_
  refine hf_get (T := et_TT) (t := 12) (ci := 10) (f := 2) (p := 4) (by decide +kernel) rfl hH k_th hp ?_
  refine hs_br1 (c := .ne) (t := 9) (f := 7) (by decide +kernel) (fun (c4 : ¬ Int32.ofNat h = 0) => ?_) (fun (c4 : ¬ (¬ Int32.ofNat h = 0)) => ?_)
  · refine hs_aload (i := 0) (p := 10) (by decide +kernel) rfl ?_
    refine ht_callv (T := et_TT) (t := 12) (mi := 120) (na := 0) (ci := 10) (lk := 1) (lm := 1) (L0 := eg_en (eg_mL 120) [.ref th]) (by decide +kernel) rfl hH k_th rfl rfl rfl rfl rfl (by rw [show eg_mL 120 = 1 from by decide +kernel]; first | done | rfl) ?_
    refine (fc_forget hH k_th).mono (fun u hu => xw_cb hu (fun G10 v10 hH x10 hP10 => ?_))
    obtain rfl := hP10
    have h0 := (x10.2 th 0 lt_th (fun h => absurd h.2 (by decide))).trans h0
    have h1 := (x10.2 th 1 lt_th (fun h => absurd h.2 (by decide))).trans h1
    have hp := (x10.2 th 2 lt_th (fun h => absurd h.2 (by decide))).trans hp
    have i0 := (x10.2 s0 5 lt_s0 (fun h => (hi_ne k_s0 k_th (by decide)) h.1)).trans i0
    have i1 := (x10.2 s1 5 lt_s1 (fun h => (hi_ne k_s1 k_th (by decide)) h.1)).trans i1
    have lt_th := Nat.lt_of_lt_of_le lt_th x10.1
    have lt_s0 := Nat.lt_of_lt_of_le lt_s0 x10.1
    have lt_s1 := Nat.lt_of_lt_of_le lt_s1 x10.1
    have hC := ci_O.fr hC et_ex.rf (x10.tfr hH0 (M := [(12, 6, 7)]) (fun a t i ha h => by obtain ⟨ea, h⟩ := h; rw [ea, k_th] at ha; cases ha; simp [et_mm]; omega)) (by decide +kernel)
    show et_go none _ 125 13 _ [] _ _ _ _
    refine hs_aload (i := 0) (p := 14) (by decide +kernel) rfl ?_
    refine hf_get (T := et_TT) (t := 12) (ci := 10) (f := 0) (p := 17) (by decide +kernel) rfl hH k_th h0 ?_
    refine hs_aload (i := 0) (p := 18) (by decide +kernel) rfl ?_
    refine hf_get (T := et_TT) (t := 12) (ci := 10) (f := 1) (p := 21) (by decide +kernel) rfl hH k_th h1 ?_
    refine ht_callv (T := et_TT) (t := 10) (mi := 104) (na := 1) (ci := 8) (lk := 1) (lm := 3) (L0 := eg_en (eg_mL 104) [.ref s0, .ref s1]) (by decide +kernel) rfl hH k_s0 rfl rfl rfl rfl rfl (by rw [show eg_mL 104 = 3 from by decide +kernel]; first | done | rfl) ?_
    refine (hc_takeI (a := s0) (s := s1) hH hC.2.2.2.2 hC.2.2.2.1 ⟨fun e => hC.2.2.1.1 e.symm, fun e => hC.2.2.1.2.1 e.symm, fun e => hC.2.2.1.2.2 e.symm⟩ (by omega)).mono (fun u hu => tf_cb hu (fun K21 G21 x21 f21 hH hS1 hS0 => ?_))
    have p5a : et_pl (eg_at G21 s0) 5 = some (.int (Int32.ofNat ec1)) := hS0.2.2.1.2.1
    have p5b : et_pl (eg_at G21 s1) 5 = some (.int (Int32.ofNat ec1)) := hS1.2.2.1.2.1
    have k_th := x21 _ _ k_th
    have lt_th := (hH.2.2 _ _ k_th).1
    have k_s0 := x21 _ _ k_s0
    have lt_s0 := (hH.2.2 _ _ k_s0).1
    have k_s1 := x21 _ _ k_s1
    have lt_s1 := (hH.2.2 _ _ k_s1).1
    show et_go none _ 125 24 _ [] _ _ _ _
    refine hs_k (x := Int32.ofNat 1) (p := 25) (by decide +kernel) ?_
    refine hs_zret (by decide +kernel) (.inr rfl) ?_
    rw [if_neg (by have := hi_b1 hh1 c4; omega)]
    exact ⟨p5a, p5b⟩
  · refine hs_k (x := Int32.ofNat 0) (p := 8) (by decide +kernel) ?_
    refine hs_zret (by decide +kernel) (.inl rfl) ?_
    rw [if_pos (hi_b0 hh1 c4)]
    exact ⟨i0, i1⟩
theorem fh_eye (hH : et_H et_TT K G) (k_th : K th = some 12) (k_out : K out = some 31) (h0 : et_pl (eg_at G th) 0 = some (.ref s0)) (k_s0 : K s0 = some 10) (h5 : et_pl (eg_at G s0) 5 = some (.int (Int32.ofNat e))) (he : e ≤ 3) (hd : 1 ≤ d2) : et_go none d2 6 0 (eg_en (eg_mL 6) [.ref th, .ref out]) [] G 0 0 (xe_Z (fun b j => (b = s0 ∧ j = 5) ∨ (b = out ∧ j = 0)) K G (fun G' r => (e < 3 ∧ r = .inl (some (.int (Int32.ofNat 0))) ∧ et_pl (eg_at G' out) 0 = some (.long (Int32.ofNat e).toInt64) ∧ et_pl (eg_at G' s0) 5 = some (.int (Int32.ofNat (e + 1)))) ∨ (¬ e < 3 ∧ r = .inl (some (.int (Int32.ofNat 1))) ∧ et_pl (eg_at G' s0) 5 = some (.int (Int32.ofNat e))))) := by
  obtain ⟨d, rfl⟩ : ∃ d, d2 = d + 1 := ⟨d2 - 1, by omega⟩
  rw [show eg_mL 6 = 3 from by decide +kernel]
  show et_go none (d + 1) 6 0 [some (.ref th), some (.ref out), none] [] G 0 0 _
  have lt_th := (hH.2.2 _ _ k_th).1
  have lt_s0 := (hH.2.2 _ _ k_s0).1
  have lt_out := (hH.2.2 _ _ k_out).1
  have hX : xf (fun b j => (b = s0 ∧ j = 5) ∨ (b = out ∧ j = 0)) G G := xf.rf
  refine hs_aload (i := 1) (p := 1) (by decide +kernel) rfl ?_
  refine hs_k (x := Int32.ofNat 0) (p := 2) (by decide +kernel) ?_
  refine hs_aload (i := 0) (p := 3) (by decide +kernel) rfl ?_
  refine ht_callv (T := et_TT) (t := 12) (mi := 139) (na := 0) (ci := 10) (lk := 3) (lm := 1) (L0 := eg_en (eg_mL 139) [.ref th]) (by decide +kernel) rfl hH k_th rfl rfl rfl rfl rfl (by rw [show eg_mL 139 = 1 from by decide +kernel]; first | done | rfl) ?_
  refine (fc_eye hH k_th h0 k_s0 h5 he).mono (fun u hu => ?_)
  obtain ⟨G3, v3, c3, s3, rfl, hH, x3, hP3⟩ := hu
  have h0 := (x3.2 th 0 lt_th (fun h => (hi_ne k_th k_s0 (by decide)) h.1)).trans h0
  have lt_th := Nat.lt_of_lt_of_le lt_th x3.1
  have lt_s0 := Nat.lt_of_lt_of_le lt_s0 x3.1
  have lt_out := Nat.lt_of_lt_of_le lt_out x3.1
  have hX := hX.tr x3 (fun b j hb h => by first | omega | (dsimp only at h ⊢; omega) | (dsimp only at h; omega) | (dsimp only; omega))
  rcases hP3 with ⟨he3, rfl, h5⟩ | ⟨he3, rfl, h5⟩
  · refine hs_cb ?_
    show et_go none _ 6 6 _ [.int (Int32.ofNat e), .int (Int32.ofNat 0), .ref out] _ _ _ _
    refine hs_i2l (p := 7) (by decide +kernel) ?_
    refine hf_lst (T := et_TT) (t := 31) (N := 1) (p := 8) (by decide +kernel) rfl rfl hH k_out (by omega) (by decide) (fun G7 hH x7 e7 => ?_)
    have h0 := (x7.2 th 0 lt_th (fun h => (hi_ne k_th k_out (by decide)) h.1)).trans h0
    have h5 := (x7.2 s0 5 lt_s0 (fun h => (hi_ne k_s0 k_out (by decide)) h.1)).trans h5
    have lt_th := Nat.lt_of_lt_of_le lt_th x7.1
    have lt_s0 := Nat.lt_of_lt_of_le lt_s0 x7.1
    have lt_out := Nat.lt_of_lt_of_le lt_out x7.1
    have hX := hX.tr x7 (fun b j hb h => by first | omega | (dsimp only at h ⊢; omega) | (dsimp only at h; omega) | (dsimp only; omega))
    refine hs_goto (p := 14) (by decide +kernel) ?_
    refine hs_k (x := Int32.ofNat 0) (p := 15) (by decide +kernel) ?_
    refine hs_iret (by decide +kernel) ?_
    exact ⟨_, _, _, _, rfl, hH, hX, .inl ⟨he3, rfl, e7, h5⟩⟩
  · refine hs_ch (h := 11) (i := 2) (n := 1) (hh := (eg_mh 6).getD []) (by decide +kernel) ⟨by decide +kernel, by decide +kernel⟩ (Nat.le_of_ble_eq_true rfl) ?_
    show et_go none _ 6 12 [some (.ref th), some (.ref out), none] [] _ _ _ _
    refine hs_k (x := Int32.ofNat 1) (p := 13) (by decide +kernel) ?_
    refine hs_iret (by decide +kernel) ?_
    exact ⟨_, _, _, _, rfl, hH, hX, .inr ⟨he3, rfl, h5⟩⟩
end FHA
