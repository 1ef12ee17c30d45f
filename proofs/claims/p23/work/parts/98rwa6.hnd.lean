section
/-! PHASE D: what an EYE SEES, both sides -/
/-- a WIRE's VALUE -/
def vaI (c : Int32) (kd : Nat) (x : Int32) : Int32 := if kd = 0 then rp_bc (x &&& c) else if kd = 1 then (if x &&& c = c then Int32.ofNat 1 else Int32.ofNat 0) else (rp_bc (x &&& c) &&& Int32.ofNat 1)
def suN (C : Nat → Int32) (Kd : Nat → Nat) (N : Nat → Int32) (x : Int32) : Nat → Int32
  | 0 => Int32.ofNat 0
  | m + 1 => suN C Kd N x m + N m * vaI (C m) (Kd m) x
theorem va_all {c x : Int32} : (c &&& (x ^^^ (-1)) = 0) ↔ x &&& c = c := by
  have e : ∀ i, (c &&& (x ^^^ (-1))).toBitVec.getLsbD i = (c.toBitVec.getLsbD i && !x.toBitVec.getLsbD i) := fun i => by
    show (c.toBitVec &&& (x.toBitVec ^^^ (-1 : Int32).toBitVec)).getLsbD i = _
    rw [BitVec.getLsbD_and, BitVec.getLsbD_xor]
    by_cases h : i < 32
    · have h1 : ((-1 : Int32).toBitVec).getLsbD i = true := by
        have h2 : ∀ j ∈ List.range 32, ((-1 : Int32).toBitVec).getLsbD j = true := by decide +kernel
        exact h2 i (List.mem_range.mpr h)
      rw [h1, Bool.xor_true]
    · rw [BitVec.getLsbD_of_ge c.toBitVec i (by omega), Bool.false_and, Bool.false_and]
  constructor
  · intro h
    apply Int32.toBitVec_inj.mp
    apply BitVec.eq_of_getLsbD_eq
    intro i hi
    show (x.toBitVec &&& c.toBitVec).getLsbD i = c.toBitVec.getLsbD i
    have h1 := e i
    rw [h] at h1
    have h0 : (0 : Int32).toBitVec.getLsbD i = false := BitVec.getLsbD_zero
    rw [h0] at h1
    rw [BitVec.getLsbD_and]
    cases hc : c.toBitVec.getLsbD i with
    | false => rw [Bool.and_false]
    | true =>
      rw [hc] at h1
      cases hx : x.toBitVec.getLsbD i with
      | false =>
        rw [hx] at h1
        cases h1
      | true => rfl
  · intro h
    apply Int32.toBitVec_inj.mp
    apply BitVec.eq_of_getLsbD_eq
    intro i hi
    rw [e i]
    have h0 : (0 : Int32).toBitVec.getLsbD i = false := BitVec.getLsbD_zero
    rw [h0]
    have h1 : (x &&& c).toBitVec.getLsbD i = c.toBitVec.getLsbD i := by rw [h]
    have h2 : (x.toBitVec &&& c.toBitVec).getLsbD i = c.toBitVec.getLsbD i := h1
    rw [BitVec.getLsbD_and] at h2
    cases hc : c.toBitVec.getLsbD i with
    | false => rfl
    | true =>
      rw [hc, Bool.and_true] at h2
      rw [h2]
      rfl
theorem va_odd : ∀ k ∈ List.range 64, (Int32.ofNat k - Int32.ofNat k / Int32.ofNat 2 * Int32.ofNat 2) = (Int32.ofNat k &&& Int32.ofNat 1) := by decide +kernel
theorem va_cm {c x : Int32} : c &&& x = x &&& c := Int32.and_comm c x
/-- the class's EYE -/
def evC (G : eg_G) (e ca ki kn w : Nat) (C : Nat → Int32) (Kd : Nat → Nat) (N : Nat → Int32) (l s t f : Int32) : Prop := (et_pl (eg_at G e) 0 = some (.int (Int32.ofNat w)) ∧ et_pl (eg_at G e) 1 = some (.ref ca) ∧ et_pl (eg_at G e) 2 = some (.ref ki) ∧ et_pl (eg_at G e) 3 = some (.ref kn)) ∧ (∀ m, m < 6 → et_pl (eg_at G kn) m = some (.int (N m))) ∧ (∀ m, m < w → et_pl (eg_at G ca) m = some (.int (C m)) ∧ et_pl (eg_at G ki) m = some (.int (Int32.ofNat (Kd m)))) ∧ (et_pl (eg_at G e) 4 = some (.int l) ∧ et_pl (eg_at G e) 5 = some (.int s) ∧ et_pl (eg_at G e) 6 = some (.int t) ∧ et_pl (eg_at G e) 7 = some (.int f))
def evK (K : et_K) (e ca ki kn w : Nat) (Kd : Nat → Nat) : Prop := (K e = some 3 ∧ K ca = some 15 ∧ K ki = some 15 ∧ K kn = some 15) ∧ (w ≤ 6 ∧ ∀ m, m < w → Kd m ≤ 2)
/-- the reference's -/
def evM (G : eg_G) (aw n w : Nat) (C : Nat → Int32) (Kd : Nat → Nat) (N : Nat → Int32) (l s t f : Int32) : Prop := et_pl (eg_at G aw) (45 + 23 * n) = some (.int (Int32.ofNat w)) ∧ (∀ m, m < w → et_pl (eg_at G aw) (45 + 23 * n + (1 + 3 * m + 0)) = some (.int (C m)) ∧ et_pl (eg_at G aw) (45 + 23 * n + (1 + 3 * m + 1)) = some (.int (Int32.ofNat (Kd m))) ∧ et_pl (eg_at G aw) (45 + 23 * n + (1 + 3 * m + 2)) = some (.int (N m))) ∧ (et_pl (eg_at G aw) (45 + 23 * n + 19) = some (.int l) ∧ et_pl (eg_at G aw) (45 + 23 * n + 22) = some (.int s) ∧ et_pl (eg_at G aw) (45 + 23 * n + 20) = some (.int t) ∧ et_pl (eg_at G aw) (45 + 23 * n + 21) = some (.int f))
section VAA
variable {K : et_K} {G : eg_G} {d d2 e ca ki kn w m kd am aw n : Nat} {c x l s t f : Int32} {C N : Nat → Int32} {Kd : Nat → Nat}
theorem fd_val (hH : et_H et_TT K G) (k_e : K e = some 3) (k_ca : K ca = some 15) (k_ki : K ki = some 15) (h0 : et_pl (eg_at G e) 0 = some (.int (Int32.ofNat w))) (h1 : et_pl (eg_at G e) 1 = some (.ref ca)) (h2 : et_pl (eg_at G e) 2 = some (.ref ki)) (hw : w ≤ 6) (hm : m < w) (hc : et_pl (eg_at G ca) m = some (.int c)) (hk : et_pl (eg_at G ki) m = some (.int (Int32.ofNat kd))) (hkd : kd ≤ 2) (hd : 1 ≤ d2) : et_go none d2 34 0 (eg_en (eg_mL 34) [.ref e, .int (Int32.ofNat m), .int x]) [] G 0 0 (xp_Z G (some (.int (vaI c kd x)))) := by
  obtain ⟨d, rfl⟩ : ∃ d, d2 = d + 1 := ⟨d2 - 1, by omega⟩
  rw [show eg_mL 34 = 4 from by decide +kernel]
  show et_go none (d + 1) 34 0 [some (.ref e), some (.int (Int32.ofNat m)), some (.int x), none] [] G 0 0 _
  rcases (show kd = 0 ∨ kd = 1 ∨ kd = 2 by omega) with rfl | rfl | rfl
  · have lt_e := (hH.2.2 _ _ k_e).1
    have lt_ca := (hH.2.2 _ _ k_ca).1
    have lt_ki := (hH.2.2 _ _ k_ki).1
    refine hs_iload (i := 1) (p := 1) (by decide +kernel) rfl ?_
    refine hs_if0 (c := .lt) (t := 12) (f := 4) (by decide +kernel) (rs_nn (by omega)) ?_
    refine hs_iload (i := 1) (p := 5) (by decide +kernel) rfl ?_
    refine hs_aload (i := 0) (p := 6) (by decide +kernel) rfl ?_
    refine hf_get (T := et_TT) (t := 3) (ci := 1) (f := 0) (p := 9) (by decide +kernel) rfl hH k_e h0 ?_
    refine hs_br2n (c := .lt) (t := 14) (f := 12) (by decide +kernel) (by omega) (by omega) (fun (c9 : m < w) => ?_) (fun (c9 : ¬ (m < w)) => ?_)
    · refine hs_iload (i := 2) (p := 15) (by decide +kernel) rfl ?_
      refine hs_aload (i := 0) (p := 16) (by decide +kernel) rfl ?_
      refine hf_get (T := et_TT) (t := 3) (ci := 1) (f := 1) (p := 19) (by decide +kernel) rfl hH k_e h1 ?_
      refine hs_iload (i := 1) (p := 20) (by decide +kernel) rfl ?_
      refine hf_ald (ins := .iaload) (T := et_TT) (t := 15) (kd := 0) (N := 6) (p := 21) (by decide +kernel) (fun _ _ _ _ _ _ _ _ _ _ => rfl) rfl rfl rfl hH k_ca (by decide) hc ?_
      refine hs_st (ins := .iand) (len := 1) (p := 22) (by decide +kernel) rfl rfl ?_
      refine hs_istore (i := 3) (p := 23) (by decide +kernel) (Nat.le_of_ble_eq_true rfl) ?_
      refine hs_aload (i := 0) (p := 24) (by decide +kernel) rfl ?_
      refine hf_get (T := et_TT) (t := 3) (ci := 1) (f := 2) (p := 27) (by decide +kernel) rfl hH k_e h2 ?_
      refine hs_iload (i := 1) (p := 28) (by decide +kernel) rfl ?_
      refine hf_ald (ins := .iaload) (T := et_TT) (t := 15) (kd := 0) (N := 6) (p := 29) (by decide +kernel) (fun _ _ _ _ _ _ _ _ _ _ => rfl) rfl rfl rfl hH k_ki (by decide) hk ?_
      refine hs_st (ins := .lookupswitch 48 #[(0, 27), (1, 32)]) (len := 27) (by decide +kernel) rfl (by rfl) (?_ : et_go none _ 34 56 _ _ _ _ _ _)
      refine hs_iload (i := 3) (p := 57) (by decide +kernel) rfl ?_
      refine hs_calls (mi := 305) (na := 1) (lk := 4) (lm := 1) (L0 := eg_en (eg_mL 305) [.int (x &&& c)]) (by decide +kernel) rfl rfl rfl rfl rfl rfl (by rw [show eg_mL 305 = 1 from by decide +kernel]; first | done | rfl) ?_
      refine (fx_bc (x := (x &&& c))).mono (fun u hu => xp_cb hu ?_)
      show et_go none _ 34 60 _ [.int (rp_bc (x &&& c))] _ _ _ _
      refine hs_iret (by decide +kernel) ?_
      rfl
    · exact absurd hm c9
  · have lt_e := (hH.2.2 _ _ k_e).1
    have lt_ca := (hH.2.2 _ _ k_ca).1
    have lt_ki := (hH.2.2 _ _ k_ki).1
    refine hs_iload (i := 1) (p := 1) (by decide +kernel) rfl ?_
    refine hs_if0 (c := .lt) (t := 12) (f := 4) (by decide +kernel) (rs_nn (by omega)) ?_
    refine hs_iload (i := 1) (p := 5) (by decide +kernel) rfl ?_
    refine hs_aload (i := 0) (p := 6) (by decide +kernel) rfl ?_
    refine hf_get (T := et_TT) (t := 3) (ci := 1) (f := 0) (p := 9) (by decide +kernel) rfl hH k_e h0 ?_
    refine hs_br2n (c := .lt) (t := 14) (f := 12) (by decide +kernel) (by omega) (by omega) (fun (c9 : m < w) => ?_) (fun (c9 : ¬ (m < w)) => ?_)
    · refine hs_iload (i := 2) (p := 15) (by decide +kernel) rfl ?_
      refine hs_aload (i := 0) (p := 16) (by decide +kernel) rfl ?_
      refine hf_get (T := et_TT) (t := 3) (ci := 1) (f := 1) (p := 19) (by decide +kernel) rfl hH k_e h1 ?_
      refine hs_iload (i := 1) (p := 20) (by decide +kernel) rfl ?_
      refine hf_ald (ins := .iaload) (T := et_TT) (t := 15) (kd := 0) (N := 6) (p := 21) (by decide +kernel) (fun _ _ _ _ _ _ _ _ _ _ => rfl) rfl rfl rfl hH k_ca (by decide) hc ?_
      refine hs_st (ins := .iand) (len := 1) (p := 22) (by decide +kernel) rfl rfl ?_
      refine hs_istore (i := 3) (p := 23) (by decide +kernel) (Nat.le_of_ble_eq_true rfl) ?_
      refine hs_aload (i := 0) (p := 24) (by decide +kernel) rfl ?_
      refine hf_get (T := et_TT) (t := 3) (ci := 1) (f := 2) (p := 27) (by decide +kernel) rfl hH k_e h2 ?_
      refine hs_iload (i := 1) (p := 28) (by decide +kernel) rfl ?_
      refine hf_ald (ins := .iaload) (T := et_TT) (t := 15) (kd := 0) (N := 6) (p := 29) (by decide +kernel) (fun _ _ _ _ _ _ _ _ _ _ => rfl) rfl rfl rfl hH k_ki (by decide) hk ?_
      refine hs_st (ins := .lookupswitch 48 #[(0, 27), (1, 32)]) (len := 27) (by decide +kernel) rfl (by rfl) (?_ : et_go none _ 34 61 _ _ _ _ _ _)
      refine hs_iload (i := 3) (p := 62) (by decide +kernel) rfl ?_
      refine hs_aload (i := 0) (p := 63) (by decide +kernel) rfl ?_
      refine hf_get (T := et_TT) (t := 3) (ci := 1) (f := 1) (p := 66) (by decide +kernel) rfl hH k_e h1 ?_
      refine hs_iload (i := 1) (p := 67) (by decide +kernel) rfl ?_
      refine hf_ald (ins := .iaload) (T := et_TT) (t := 15) (kd := 0) (N := 6) (p := 68) (by decide +kernel) (fun _ _ _ _ _ _ _ _ _ _ => rfl) rfl rfl rfl hH k_ca (by decide) hc ?_
      refine hs_br2 (c := .ne) (t := 75) (f := 71) (by decide +kernel) (fun (c68 : ¬ (x &&& c) = c) => ?_) (fun (c68 : ¬ (¬ (x &&& c) = c)) => ?_)
      · refine hs_k (x := Int32.ofNat 0) (p := 76) (by decide +kernel) ?_
        refine hs_iret (by decide +kernel) ?_
        show xp_Z G (some (.int (if x &&& c = c then Int32.ofNat 1 else Int32.ofNat 0))) _
        rw [if_neg c68]
        rfl
      · refine hs_k (x := Int32.ofNat 1) (p := 72) (by decide +kernel) ?_
        refine hs_goto (p := 76) (by decide +kernel) ?_
        refine hs_iret (by decide +kernel) ?_
        show xp_Z G (some (.int (if x &&& c = c then Int32.ofNat 1 else Int32.ofNat 0))) _
        rw [if_pos (Decidable.of_not_not c68)]
        rfl
    · exact absurd hm c9
  · have lt_e := (hH.2.2 _ _ k_e).1
    have lt_ca := (hH.2.2 _ _ k_ca).1
    have lt_ki := (hH.2.2 _ _ k_ki).1
    refine hs_iload (i := 1) (p := 1) (by decide +kernel) rfl ?_
    refine hs_if0 (c := .lt) (t := 12) (f := 4) (by decide +kernel) (rs_nn (by omega)) ?_
    refine hs_iload (i := 1) (p := 5) (by decide +kernel) rfl ?_
    refine hs_aload (i := 0) (p := 6) (by decide +kernel) rfl ?_
    refine hf_get (T := et_TT) (t := 3) (ci := 1) (f := 0) (p := 9) (by decide +kernel) rfl hH k_e h0 ?_
    refine hs_br2n (c := .lt) (t := 14) (f := 12) (by decide +kernel) (by omega) (by omega) (fun (c9 : m < w) => ?_) (fun (c9 : ¬ (m < w)) => ?_)
    · refine hs_iload (i := 2) (p := 15) (by decide +kernel) rfl ?_
      refine hs_aload (i := 0) (p := 16) (by decide +kernel) rfl ?_
      refine hf_get (T := et_TT) (t := 3) (ci := 1) (f := 1) (p := 19) (by decide +kernel) rfl hH k_e h1 ?_
      refine hs_iload (i := 1) (p := 20) (by decide +kernel) rfl ?_
      refine hf_ald (ins := .iaload) (T := et_TT) (t := 15) (kd := 0) (N := 6) (p := 21) (by decide +kernel) (fun _ _ _ _ _ _ _ _ _ _ => rfl) rfl rfl rfl hH k_ca (by decide) hc ?_
      refine hs_st (ins := .iand) (len := 1) (p := 22) (by decide +kernel) rfl rfl ?_
      refine hs_istore (i := 3) (p := 23) (by decide +kernel) (Nat.le_of_ble_eq_true rfl) ?_
      refine hs_aload (i := 0) (p := 24) (by decide +kernel) rfl ?_
      refine hf_get (T := et_TT) (t := 3) (ci := 1) (f := 2) (p := 27) (by decide +kernel) rfl hH k_e h2 ?_
      refine hs_iload (i := 1) (p := 28) (by decide +kernel) rfl ?_
      refine hf_ald (ins := .iaload) (T := et_TT) (t := 15) (kd := 0) (N := 6) (p := 29) (by decide +kernel) (fun _ _ _ _ _ _ _ _ _ _ => rfl) rfl rfl rfl hH k_ki (by decide) hk ?_
      refine hs_st (ins := .lookupswitch 48 #[(0, 27), (1, 32)]) (len := 27) (by decide +kernel) rfl (by rfl) (?_ : et_go none _ 34 77 _ _ _ _ _ _)
      refine hs_iload (i := 3) (p := 78) (by decide +kernel) rfl ?_
      refine hs_calls (mi := 305) (na := 1) (lk := 4) (lm := 1) (L0 := eg_en (eg_mL 305) [.int (x &&& c)]) (by decide +kernel) rfl rfl rfl rfl rfl rfl (by rw [show eg_mL 305 = 1 from by decide +kernel]; first | done | rfl) ?_
      refine (fx_bc (x := (x &&& c))).mono (fun u hu => xp_cb hu ?_)
      show et_go none _ 34 81 _ [.int (rp_bc (x &&& c))] _ _ _ _
      refine hs_k (x := Int32.ofNat 1) (p := 82) (by decide +kernel) ?_
      refine hs_st (ins := .iand) (len := 1) (p := 83) (by decide +kernel) rfl rfl ?_
      refine hs_iret (by decide +kernel) ?_
      rfl
    · exact absurd hm c9
theorem fd_sumL (hH : et_H et_TT K G) (t9 : evK K e ca ki kn w Kd) (hv : evC G e ca ki kn w C Kd N l s t f) (hm : m ≤ w) : et_go none (d + 2) 33 5 [some (.ref e), some (.ref kn), some (.int x), some (.int (suN C Kd N x m)), some (.int (Int32.ofNat m))] [] G 0 0 (xp_Z G (some (.int (suN C Kd N x w)))) := by
  obtain ⟨⟨k_e, k_ca, k_ki, k_kn⟩, hw, hkd⟩ := t9
  obtain ⟨⟨h0, h1, h2, h3⟩, hN, hC, -⟩ := hv
  obtain ⟨xa_, ea_, el_, -⟩ := hf_cell (T := et_TT) (t := 15) rfl hH k_kn
  induction hz : w - m using Nat.strongRecOn generalizing m with
  | _ z ih =>
    have lt_e := (hH.2.2 _ _ k_e).1
    have lt_ca := (hH.2.2 _ _ k_ca).1
    have lt_ki := (hH.2.2 _ _ k_ki).1
    have lt_kn := (hH.2.2 _ _ k_kn).1
    refine hs_iload (i := 4) (p := 7) (by decide +kernel) rfl ?_
    refine hs_aload (i := 0) (p := 8) (by decide +kernel) rfl ?_
    refine hf_get (T := et_TT) (t := 3) (ci := 1) (f := 0) (p := 11) (by decide +kernel) rfl hH k_e h0 ?_
    refine hs_br2n (c := .ge) (t := 42) (f := 14) (by decide +kernel) (by omega) (by omega) (fun (c11 : w ≤ m) => ?_) (fun (c11 : ¬ (w ≤ m)) => ?_)
    · refine hs_iload (i := 3) (p := 43) (by decide +kernel) rfl ?_
      refine hs_iret (by decide +kernel) ?_
      obtain rfl : m = w := by omega
      rfl
    · refine hs_iload (i := 4) (p := 16) (by decide +kernel) rfl ?_
      refine hs_aload (i := 1) (p := 17) (by decide +kernel) rfl ?_
      refine hs_alen (x := xa_) (t := 0) (p := 18) (by decide +kernel) ea_ lt_kn rfl ?_
      rw [el_]
      refine hs_br2n (c := .ge) (t := 42) (f := 21) (by decide +kernel) (by omega) (by omega) (fun (c18 : 6 ≤ m) => ?_) (fun (c18 : ¬ (6 ≤ m)) => ?_)
      · exact absurd c18 (by omega)
      · refine hs_iload (i := 3) (p := 22) (by decide +kernel) rfl ?_
        refine hs_aload (i := 1) (p := 23) (by decide +kernel) rfl ?_
        refine hs_iload (i := 4) (p := 25) (by decide +kernel) rfl ?_
        refine hf_ald (ins := .iaload) (T := et_TT) (t := 15) (kd := 0) (N := 6) (p := 26) (by decide +kernel) (fun _ _ _ _ _ _ _ _ _ _ => rfl) rfl rfl rfl hH k_kn (by decide) (hN m (by omega)) ?_
        refine hs_aload (i := 0) (p := 27) (by decide +kernel) rfl ?_
        refine hs_iload (i := 4) (p := 29) (by decide +kernel) rfl ?_
        refine hs_iload (i := 2) (p := 30) (by decide +kernel) rfl ?_
        refine ht_callv (T := et_TT) (t := 3) (mi := 34) (na := 2) (ci := 1) (lk := 5) (lm := 4) (L0 := eg_en (eg_mL 34) [.ref e, .int (Int32.ofNat m), .int x]) (by decide +kernel) rfl hH k_e rfl rfl rfl rfl rfl (by rw [show eg_mL 34 = 4 from by decide +kernel]; first | done | rfl) ?_
        refine (fd_val hH k_e k_ca k_ki h0 h1 h2 hw (by omega) (hC m (by omega)).1 (hC m (by omega)).2 (hkd m (by omega)) (by omega)).mono (fun u hu => xp_cb hu ?_)
        show et_go none _ 33 33 _ [.int (vaI (C m) (Kd m) x), .int (N m), .int (suN C Kd N x m)] _ _ _ _
        refine hs_imul (p := 34) (by decide +kernel) ?_
        refine hs_iadd (p := 35) (by decide +kernel) ?_
        refine hs_istore (i := 3) (p := 36) (by decide +kernel) (Nat.le_of_ble_eq_true rfl) ?_
        refine hs_iinc1 (i := 4) (p := 39) (by decide +kernel) rfl (Nat.le_of_ble_eq_true rfl) ?_
        refine hs_goto (p := 5) (by decide +kernel) ?_
        show et_go none (d + 2) 33 5 [some (.ref e), some (.ref kn), some (.int x), some (.int (suN C Kd N x (m + 1))), some (.int (Int32.ofNat (m + 1)))] [] _ _ _ _
        exact ih (w - (m + 1)) (by omega) (by omega) rfl
theorem fd_sum (hH : et_H et_TT K G) (t9 : evK K e ca ki kn w Kd) (hv : evC G e ca ki kn w C Kd N l s t f) (hd : 2 ≤ d2) : et_go none d2 33 0 (eg_en (eg_mL 33) [.ref e, .ref kn, .int x]) [] G 0 0 (xp_Z G (some (.int (suN C Kd N x w)))) := by
  obtain ⟨d, rfl⟩ : ∃ d, d2 = d + 2 := ⟨d2 - 2, by omega⟩
  rw [show eg_mL 33 = 5 from by decide +kernel]
  show et_go none (d + 2) 33 0 [some (.ref e), some (.ref kn), some (.int x), none, none] [] G 0 0 _
  refine hs_k (x := Int32.ofNat 0) (p := 1) (by decide +kernel) ?_
  refine hs_istore (i := 3) (p := 2) (by decide +kernel) (Nat.le_of_ble_eq_true rfl) ?_
  refine hs_k (x := Int32.ofNat 0) (p := 3) (by decide +kernel) ?_
  refine hs_istore (i := 4) (p := 5) (by decide +kernel) (Nat.le_of_ble_eq_true rfl) ?_
  exact fd_sumL (m := 0) hH t9 hv (Nat.zero_le _)
theorem fd_says (hH : et_H et_TT K G) (t9 : evK K e ca ki kn w Kd) (hv : evC G e ca ki kn w C Kd N l s t f) (hd : 3 ≤ d2) : et_go none d2 32 0 (eg_en (eg_mL 32) [.ref e, .int x]) [] G 0 0 (xp_Z G (some (.int (Int32.ofNat (if l < suN C Kd N x w then 1 else 0))))) := by
  obtain ⟨d, rfl⟩ : ∃ d, d2 = d + 3 := ⟨d2 - 3, by omega⟩
  have t0 := t9
  have hv0 := hv
  obtain ⟨⟨k_e, k_ca, k_ki, k_kn⟩, hw, hkd⟩ := t9
  obtain ⟨⟨h0, h1, h2, h3⟩, hN, hC, h4, -⟩ := hv
  rw [show eg_mL 32 = 2 from by decide +kernel]
  show et_go none (d + 3) 32 0 [some (.ref e), some (.int x)] [] G 0 0 _
  have lt_e := (hH.2.2 _ _ k_e).1
  have lt_kn := (hH.2.2 _ _ k_kn).1
  refine hs_aload (i := 0) (p := 1) (by decide +kernel) rfl ?_
  refine hs_aload (i := 0) (p := 2) (by decide +kernel) rfl ?_
  refine hf_get (T := et_TT) (t := 3) (ci := 1) (f := 3) (p := 5) (by decide +kernel) rfl hH k_e h3 ?_
  refine hs_iload (i := 1) (p := 6) (by decide +kernel) rfl ?_
  refine ht_callv (T := et_TT) (t := 3) (mi := 33) (na := 2) (ci := 1) (lk := 2) (lm := 5) (L0 := eg_en (eg_mL 33) [.ref e, .ref kn, .int x]) (by decide +kernel) rfl hH k_e rfl rfl rfl rfl rfl (by rw [show eg_mL 33 = 5 from by decide +kernel]; first | done | rfl) ?_
  refine (fd_sum (x := x) hH t0 hv0 (by omega)).mono (fun u hu => xp_cb hu ?_)
  show et_go none _ 32 9 _ [.int (suN C Kd N x w)] _ _ _ _
  refine hs_aload (i := 0) (p := 10) (by decide +kernel) rfl ?_
  refine hf_get (T := et_TT) (t := 3) (ci := 1) (f := 4) (p := 13) (by decide +kernel) rfl hH k_e h4 ?_
  refine hs_br2 (c := .le) (t := 20) (f := 16) (by decide +kernel) (fun (c13 : (suN C Kd N x w) ≤ l) => ?_) (fun (c13 : ¬ ((suN C Kd N x w) ≤ l)) => ?_)
  · refine hs_k (x := Int32.ofNat 0) (p := 21) (by decide +kernel) ?_
    refine hs_zret (by decide +kernel) (.inl rfl) ?_
    rw [if_neg (by first | exact Int32.not_lt.mpr c13 | exact c13)]
    rfl
  · refine hs_k (x := Int32.ofNat 1) (p := 17) (by decide +kernel) ?_
    refine hs_goto (p := 21) (by decide +kernel) ?_
    refine hs_zret (by decide +kernel) (.inr rfl) ?_
    rw [if_pos (by first | exact c13 | exact Int32.not_le.mp c13)]
    rfl
theorem fn_of {q : Nat} {z : Int32} (hH : et_H et_TT K G) (k_am : K am = some 13) (k_aw : K aw = some 46) (m1 : et_pl (eg_at G am) 1 = some (.ref aw)) (hq : 45 + 23 * n + q < 12741) (hz : et_pl (eg_at G aw) (45 + 23 * n + q) = some (.int z)) : et_go none d2 225 0 (eg_en (eg_mL 225) [.ref am, .int (Int32.ofNat n), .int (Int32.ofNat q)]) [] G 0 0 (xp_Z G (some (.int z))) := by
  rw [show eg_mL 225 = 3 from by decide +kernel]
  show et_go none d2 225 0 [some (.ref am), some (.int (Int32.ofNat n)), some (.int (Int32.ofNat q))] [] G 0 0 _
  have lt_am := (hH.2.2 _ _ k_am).1
  have lt_aw := (hH.2.2 _ _ k_aw).1
  refine hs_aload (i := 0) (p := 1) (by decide +kernel) rfl ?_
  refine hf_get (T := et_TT) (t := 13) (ci := 11) (f := 1) (p := 4) (by decide +kernel) rfl hH k_am m1 ?_
  refine hs_k (x := Int32.ofNat 45) (p := 6) (by decide +kernel) ?_
  refine hs_k (x := Int32.ofNat 23) (p := 8) (by decide +kernel) ?_
  refine hs_iload (i := 1) (p := 9) (by decide +kernel) rfl ?_
  refine hs_imuln (p := 10) (by decide +kernel) ?_
  refine hs_iaddn (p := 11) (by decide +kernel) ?_
  refine hs_iload (i := 2) (p := 12) (by decide +kernel) rfl ?_
  refine hs_iaddn (p := 13) (by decide +kernel) ?_
  refine hf_ald (ins := .iaload) (T := et_TT) (t := 46) (kd := 0) (N := 12741) (p := 14) (by decide +kernel) (fun _ _ _ _ _ _ _ _ _ _ => rfl) rfl rfl rfl hH k_aw (by decide) (pl_eq hz (by omega)) ?_
  refine hs_iret (by decide +kernel) ?_
  rfl
theorem fn_wires (hH : et_H et_TT K G) (k_am : K am = some 13) (k_aw : K aw = some 46) (m1 : et_pl (eg_at G am) 1 = some (.ref aw)) (hn : n < 3) (hz : et_pl (eg_at G aw) (45 + 23 * n) = some (.int (Int32.ofNat w))) (hd : 1 ≤ d2) : et_go none d2 224 0 (eg_en (eg_mL 224) [.ref am, .int (Int32.ofNat n)]) [] G 0 0 (xp_Z G (some (.int (Int32.ofNat w)))) := by
  obtain ⟨d, rfl⟩ : ∃ d, d2 = d + 1 := ⟨d2 - 1, by omega⟩
  rw [show eg_mL 224 = 2 from by decide +kernel]
  show et_go none (d + 1) 224 0 [some (.ref am), some (.int (Int32.ofNat n))] [] G 0 0 _
  have lt_am := (hH.2.2 _ _ k_am).1
  have lt_aw := (hH.2.2 _ _ k_aw).1
  refine hs_aload (i := 0) (p := 1) (by decide +kernel) rfl ?_
  refine hs_iload (i := 1) (p := 2) (by decide +kernel) rfl ?_
  refine hs_k (x := Int32.ofNat 0) (p := 3) (by decide +kernel) ?_
  refine ht_callv (T := et_TT) (t := 13) (mi := 225) (na := 2) (ci := 11) (lk := 2) (lm := 3) (L0 := eg_en (eg_mL 225) [.ref am, .int (Int32.ofNat n), .int (Int32.ofNat 0)]) (by decide +kernel) rfl hH k_am rfl rfl rfl rfl rfl (by rw [show eg_mL 225 = 3 from by decide +kernel]; first | done | rfl) ?_
  refine (fn_of (q := 0) hH k_am k_aw m1 (by omega) (pl_eq hz (by omega))).mono (fun u hu => xp_cb hu ?_)
  show et_go none _ 224 6 _ [.int (Int32.ofNat w)] _ _ _ _
  refine hs_iret (by decide +kernel) ?_
  rfl
theorem fn_wireAt {q : Nat} : et_go none d2 226 0 (eg_en (eg_mL 226) [.int (Int32.ofNat n), .int (Int32.ofNat m), .int (Int32.ofNat q)]) [] G 0 0 (xp_Z G (some (.int (Int32.ofNat (45 + 23 * n + (1 + 3 * m + q)))))) := by
  rw [show eg_mL 226 = 3 from by decide +kernel]
  show et_go none d2 226 0 [some (.int (Int32.ofNat n)), some (.int (Int32.ofNat m)), some (.int (Int32.ofNat q))] [] G 0 0 _
  refine hs_k (x := Int32.ofNat 45) (p := 2) (by decide +kernel) ?_
  refine hs_k (x := Int32.ofNat 23) (p := 4) (by decide +kernel) ?_
  refine hs_iload (i := 0) (p := 5) (by decide +kernel) rfl ?_
  refine hs_imuln (p := 6) (by decide +kernel) ?_
  refine hs_iaddn (p := 7) (by decide +kernel) ?_
  refine hs_k (x := Int32.ofNat 1) (p := 8) (by decide +kernel) ?_
  refine hs_iaddn (p := 9) (by decide +kernel) ?_
  refine hs_k (x := Int32.ofNat 3) (p := 10) (by decide +kernel) ?_
  refine hs_iload (i := 1) (p := 11) (by decide +kernel) rfl ?_
  refine hs_imuln (p := 12) (by decide +kernel) ?_
  refine hs_iaddn (p := 13) (by decide +kernel) ?_
  refine hs_iload (i := 2) (p := 14) (by decide +kernel) rfl ?_
  refine hs_iaddn (p := 15) (by decide +kernel) ?_
  refine hs_iret (by decide +kernel) ?_
  rw [show ((((45 + (23 * n)) + 1) + (3 * m)) + q) = 45 + 23 * n + (1 + 3 * m + q) from by omega]
  rfl
theorem fn_valBy (hkd : kd ≤ 2) : et_go none (d + 2) 239 0 (eg_en (eg_mL 239) [.int c, .int (Int32.ofNat kd), .int x]) [] G 0 0 (xp_Z G (some (.int (vaI c kd x)))) := by
  obtain ⟨k9, hk9, hbk⟩ := bc_nat (x := x &&& c)
  rw [show eg_mL 239 = 4 from by decide +kernel]
  show et_go none (d + 2) 239 0 [some (.int c), some (.int (Int32.ofNat kd)), some (.int x), none] [] G 0 0 _
  rcases (show kd = 0 ∨ kd = 1 ∨ kd = 2 by omega) with rfl | rfl | rfl
  · refine hs_iload (i := 0) (p := 1) (by decide +kernel) rfl ?_
    refine hs_iload (i := 2) (p := 2) (by decide +kernel) rfl ?_
    refine hs_st (ins := .iand) (len := 1) (p := 3) (by decide +kernel) rfl rfl ?_
    refine hs_calls (mi := 214) (na := 1) (lk := 4) (lm := 1) (L0 := eg_en (eg_mL 214) [.int (c &&& x)]) (by decide +kernel) rfl rfl rfl rfl rfl rfl (by rw [show eg_mL 214 = 1 from by decide +kernel]; first | done | rfl) ?_
    refine (fm_bits (x := c &&& x) (by omega)).mono (fun u hu => xp_cb hu ?_)
    show et_go none _ 239 6 _ [.int (rp_bc (c &&& x))] _ _ _ _
    refine hs_istore (i := 3) (p := 7) (by decide +kernel) (Nat.le_of_ble_eq_true rfl) ?_
    refine hs_iload (i := 1) (p := 8) (by decide +kernel) rfl ?_
    refine hs_if0 (c := .ne) (t := 15) (f := 11) (by decide +kernel) (show ¬ (¬ Int32.ofNat 0 = 0) by decide) ?_
    refine hs_iload (i := 3) (p := 12) (by decide +kernel) rfl ?_
    refine hs_goto (p := 39) (by decide +kernel) ?_
    refine hs_iret (by decide +kernel) ?_
    show xp_Z G (some (.int (rp_bc (x &&& c)))) _
    rw [va_cm]
    rfl
  · refine hs_iload (i := 0) (p := 1) (by decide +kernel) rfl ?_
    refine hs_iload (i := 2) (p := 2) (by decide +kernel) rfl ?_
    refine hs_st (ins := .iand) (len := 1) (p := 3) (by decide +kernel) rfl rfl ?_
    refine hs_calls (mi := 214) (na := 1) (lk := 4) (lm := 1) (L0 := eg_en (eg_mL 214) [.int (c &&& x)]) (by decide +kernel) rfl rfl rfl rfl rfl rfl (by rw [show eg_mL 214 = 1 from by decide +kernel]; first | done | rfl) ?_
    refine (fm_bits (x := c &&& x) (by omega)).mono (fun u hu => xp_cb hu ?_)
    show et_go none _ 239 6 _ [.int (rp_bc (c &&& x))] _ _ _ _
    refine hs_istore (i := 3) (p := 7) (by decide +kernel) (Nat.le_of_ble_eq_true rfl) ?_
    refine hs_iload (i := 1) (p := 8) (by decide +kernel) rfl ?_
    refine hs_if1 (c := .ne) (t := 15) (f := 11) (by decide +kernel) (show ¬ Int32.ofNat 1 = 0 by decide) ?_
    refine hs_iload (i := 1) (p := 16) (by decide +kernel) rfl ?_
    refine hs_k (x := Int32.ofNat 1) (p := 17) (by decide +kernel) ?_
    refine hs_br2n (c := .ne) (t := 36) (f := 20) (by decide +kernel) (by omega) (by omega) (fun h => absurd h (show ¬ (¬ 1 = 1) by decide)) (fun _ => ?_)
    refine hs_iload (i := 0) (p := 21) (by decide +kernel) rfl ?_
    refine hs_iload (i := 2) (p := 22) (by decide +kernel) rfl ?_
    refine hs_k (x := (-1)) (p := 23) (by decide +kernel) ?_
    refine hs_st (ins := .ixor) (len := 1) (p := 24) (by decide +kernel) rfl rfl ?_
    refine hs_st (ins := .iand) (len := 1) (p := 25) (by decide +kernel) rfl rfl ?_
    refine hs_br1 (c := .ne) (t := 32) (f := 28) (by decide +kernel) (fun (c25 : ¬ (c &&& (x ^^^ (-1))) = 0) => ?_) (fun (c25 : ¬ (¬ (c &&& (x ^^^ (-1))) = 0)) => ?_)
    · refine hs_k (x := Int32.ofNat 0) (p := 33) (by decide +kernel) ?_
      refine hs_goto (p := 39) (by decide +kernel) ?_
      refine hs_iret (by decide +kernel) ?_
      show xp_Z G (some (.int (if x &&& c = c then Int32.ofNat 1 else Int32.ofNat 0))) _
      rw [if_neg (fun h => c25 (va_all.mpr h))]
      rfl
    · refine hs_k (x := Int32.ofNat 1) (p := 29) (by decide +kernel) ?_
      refine hs_goto (p := 39) (by decide +kernel) ?_
      refine hs_iret (by decide +kernel) ?_
      show xp_Z G (some (.int (if x &&& c = c then Int32.ofNat 1 else Int32.ofNat 0))) _
      rw [if_pos (va_all.mp (Decidable.of_not_not c25))]
      rfl
  · refine hs_iload (i := 0) (p := 1) (by decide +kernel) rfl ?_
    refine hs_iload (i := 2) (p := 2) (by decide +kernel) rfl ?_
    refine hs_st (ins := .iand) (len := 1) (p := 3) (by decide +kernel) rfl rfl ?_
    refine hs_calls (mi := 214) (na := 1) (lk := 4) (lm := 1) (L0 := eg_en (eg_mL 214) [.int (c &&& x)]) (by decide +kernel) rfl rfl rfl rfl rfl rfl (by rw [show eg_mL 214 = 1 from by decide +kernel]; first | done | rfl) ?_
    refine (fm_bits (x := c &&& x) (by omega)).mono (fun u hu => xp_cb hu ?_)
    show et_go none _ 239 6 _ [.int (rp_bc (c &&& x))] _ _ _ _
    refine hs_istore (i := 3) (p := 7) (by decide +kernel) (Nat.le_of_ble_eq_true rfl) ?_
    refine hs_iload (i := 1) (p := 8) (by decide +kernel) rfl ?_
    refine hs_if1 (c := .ne) (t := 15) (f := 11) (by decide +kernel) (show ¬ Int32.ofNat 2 = 0 by decide) ?_
    refine hs_iload (i := 1) (p := 16) (by decide +kernel) rfl ?_
    refine hs_k (x := Int32.ofNat 1) (p := 17) (by decide +kernel) ?_
    refine hs_br2n (c := .ne) (t := 36) (f := 20) (by decide +kernel) (by omega) (by omega) (fun _ => ?_) (fun h => absurd (show ¬ 2 = 1 by decide) h)
    refine hs_iload (i := 3) (p := 37) (by decide +kernel) rfl ?_
    refine hs_k (x := Int32.ofNat 2) (p := 38) (by decide +kernel) ?_
    refine hs_irem (p := 39) (by decide +kernel) (by decide) ?_
    refine hs_iret (by decide +kernel) ?_
    show xp_Z G (some (.int (rp_bc (x &&& c) &&& Int32.ofNat 1))) _
    rw [va_cm (c := c) (x := x), hbk, va_odd _ (List.mem_range.mpr hk9)]
    rfl
theorem fn_val (hH : et_H et_TT K G) (k_am : K am = some 13) (k_aw : K aw = some 46) (m1 : et_pl (eg_at G am) 1 = some (.ref aw)) (hn : n < 3) (hw : w ≤ 6) (hkd : ∀ m, m < w → Kd m ≤ 2) (hv : evM G aw n w C Kd N l s t f) (hm : m < w) (hd : 3 ≤ d2) : et_go none d2 238 0 (eg_en (eg_mL 238) [.ref am, .int (Int32.ofNat n), .int (Int32.ofNat m), .int x]) [] G 0 0 (xp_Z G (some (.int (vaI (C m) (Kd m) x)))) := by
  obtain ⟨d, rfl⟩ : ∃ d, d2 = d + 3 := ⟨d2 - 3, by omega⟩
  rw [show eg_mL 238 = 4 from by decide +kernel]
  show et_go none (d + 3) 238 0 [some (.ref am), some (.int (Int32.ofNat n)), some (.int (Int32.ofNat m)), some (.int x)] [] G 0 0 _
  have lt_am := (hH.2.2 _ _ k_am).1
  have lt_aw := (hH.2.2 _ _ k_aw).1
  refine hs_aload (i := 0) (p := 1) (by decide +kernel) rfl ?_
  refine hf_get (T := et_TT) (t := 13) (ci := 11) (f := 1) (p := 4) (by decide +kernel) rfl hH k_am m1 ?_
  refine hs_iload (i := 1) (p := 5) (by decide +kernel) rfl ?_
  refine hs_iload (i := 2) (p := 6) (by decide +kernel) rfl ?_
  refine hs_k (x := Int32.ofNat 0) (p := 7) (by decide +kernel) ?_
  refine hs_calls (mi := 226) (na := 3) (lk := 4) (lm := 3) (L0 := eg_en (eg_mL 226) [.int (Int32.ofNat n), .int (Int32.ofNat m), .int (Int32.ofNat 0)]) (by decide +kernel) rfl rfl rfl rfl rfl rfl (by rw [show eg_mL 226 = 3 from by decide +kernel]; first | done | rfl) ?_
  refine (fn_wireAt).mono (fun u hu => xp_cb hu ?_)
  show et_go none _ 238 10 _ [.int (Int32.ofNat (45 + 23 * n + (1 + 3 * m + 0))), .ref aw] _ _ _ _
  refine hf_ald (ins := .iaload) (T := et_TT) (t := 46) (kd := 0) (N := 12741) (p := 11) (by decide +kernel) (fun _ _ _ _ _ _ _ _ _ _ => rfl) rfl rfl rfl hH k_aw (by decide) (hv.2.1 m hm).1 ?_
  refine hs_aload (i := 0) (p := 12) (by decide +kernel) rfl ?_
  refine hf_get (T := et_TT) (t := 13) (ci := 11) (f := 1) (p := 15) (by decide +kernel) rfl hH k_am m1 ?_
  refine hs_iload (i := 1) (p := 16) (by decide +kernel) rfl ?_
  refine hs_iload (i := 2) (p := 17) (by decide +kernel) rfl ?_
  refine hs_k (x := Int32.ofNat 1) (p := 18) (by decide +kernel) ?_
  refine hs_calls (mi := 226) (na := 3) (lk := 4) (lm := 3) (L0 := eg_en (eg_mL 226) [.int (Int32.ofNat n), .int (Int32.ofNat m), .int (Int32.ofNat 1)]) (by decide +kernel) rfl rfl rfl rfl rfl rfl (by rw [show eg_mL 226 = 3 from by decide +kernel]; first | done | rfl) ?_
  refine (fn_wireAt).mono (fun u hu => xp_cb hu ?_)
  show et_go none _ 238 21 _ [.int (Int32.ofNat (45 + 23 * n + (1 + 3 * m + 1))), .ref aw, .int (C m)] _ _ _ _
  refine hf_ald (ins := .iaload) (T := et_TT) (t := 46) (kd := 0) (N := 12741) (p := 22) (by decide +kernel) (fun _ _ _ _ _ _ _ _ _ _ => rfl) rfl rfl rfl hH k_aw (by decide) (hv.2.1 m hm).2.1 ?_
  refine hs_iload (i := 3) (p := 23) (by decide +kernel) rfl ?_
  refine hs_calls (mi := 239) (na := 3) (lk := 4) (lm := 4) (L0 := eg_en (eg_mL 239) [.int (C m), .int (Int32.ofNat (Kd m)), .int x]) (by decide +kernel) rfl rfl rfl rfl rfl rfl (by rw [show eg_mL 239 = 4 from by decide +kernel]; first | done | rfl) ?_
  refine (fn_valBy (hkd m hm)).mono (fun u hu => xp_cb hu ?_)
  show et_go none _ 238 26 _ [.int (vaI (C m) (Kd m) x)] _ _ _ _
  refine hs_iret (by decide +kernel) ?_
  rfl
theorem fn_knob (hH : et_H et_TT K G) (k_am : K am = some 13) (k_aw : K aw = some 46) (m1 : et_pl (eg_at G am) 1 = some (.ref aw)) (hn : n < 3) (hw : w ≤ 6) (hkd : ∀ m, m < w → Kd m ≤ 2) (hv : evM G aw n w C Kd N l s t f) (hm : m < w) (hd : 1 ≤ d2) : et_go none d2 231 0 (eg_en (eg_mL 231) [.ref am, .int (Int32.ofNat n), .int (Int32.ofNat m)]) [] G 0 0 (xp_Z G (some (.int (N m)))) := by
  obtain ⟨d, rfl⟩ : ∃ d, d2 = d + 1 := ⟨d2 - 1, by omega⟩
  rw [show eg_mL 231 = 3 from by decide +kernel]
  show et_go none (d + 1) 231 0 [some (.ref am), some (.int (Int32.ofNat n)), some (.int (Int32.ofNat m))] [] G 0 0 _
  have lt_am := (hH.2.2 _ _ k_am).1
  have lt_aw := (hH.2.2 _ _ k_aw).1
  refine hs_aload (i := 0) (p := 1) (by decide +kernel) rfl ?_
  refine hf_get (T := et_TT) (t := 13) (ci := 11) (f := 1) (p := 4) (by decide +kernel) rfl hH k_am m1 ?_
  refine hs_iload (i := 1) (p := 5) (by decide +kernel) rfl ?_
  refine hs_iload (i := 2) (p := 6) (by decide +kernel) rfl ?_
  refine hs_k (x := Int32.ofNat 2) (p := 7) (by decide +kernel) ?_
  refine hs_calls (mi := 226) (na := 3) (lk := 3) (lm := 3) (L0 := eg_en (eg_mL 226) [.int (Int32.ofNat n), .int (Int32.ofNat m), .int (Int32.ofNat 2)]) (by decide +kernel) rfl rfl rfl rfl rfl rfl (by rw [show eg_mL 226 = 3 from by decide +kernel]; first | done | rfl) ?_
  refine (fn_wireAt).mono (fun u hu => xp_cb hu ?_)
  show et_go none _ 231 10 _ [.int (Int32.ofNat (45 + 23 * n + (1 + 3 * m + 2))), .ref aw] _ _ _ _
  refine hf_ald (ins := .iaload) (T := et_TT) (t := 46) (kd := 0) (N := 12741) (p := 11) (by decide +kernel) (fun _ _ _ _ _ _ _ _ _ _ => rfl) rfl rfl rfl hH k_aw (by decide) (hv.2.1 m hm).2.2 ?_
  refine hs_iret (by decide +kernel) ?_
  rfl
theorem va_0 : ∀ i ∈ List.range 6, ¬ ((Int32.ofNat 0 >>> (Int32.ofNat i &&& 31)) &&& Int32.ofNat 1 = Int32.ofNat 1) := by decide +kernel
theorem fw_sumL (hH : et_H et_TT K G) (k_am : K am = some 13) (k_aw : K aw = some 46) (m1 : et_pl (eg_at G am) 1 = some (.ref aw)) (hn : n < 3) (hw : w ≤ 6) (hkd : ∀ m, m < w → Kd m ≤ 2) (hv : evM G aw n w C Kd N l s t f) (hm : m ≤ w) : et_go none (d + 4) 237 6 [some (.ref am), some (.int (Int32.ofNat n)), some (.int x), some (.int (Int32.ofNat 0)), some (.int (suN C Kd N x m)), some (.int (Int32.ofNat m))] [] G 0 0 (xp_Z G (some (.int (suN C Kd N x w)))) := by
  induction hz : w - m using Nat.strongRecOn generalizing m with
  | _ z ih =>
    have lt_am := (hH.2.2 _ _ k_am).1
    have lt_aw := (hH.2.2 _ _ k_aw).1
    refine hs_iload (i := 5) (p := 8) (by decide +kernel) rfl ?_
    refine hs_aload (i := 0) (p := 9) (by decide +kernel) rfl ?_
    refine hs_iload (i := 1) (p := 10) (by decide +kernel) rfl ?_
    refine ht_callv (T := et_TT) (t := 13) (mi := 224) (na := 1) (ci := 11) (lk := 6) (lm := 2) (L0 := eg_en (eg_mL 224) [.ref am, .int (Int32.ofNat n)]) (by decide +kernel) rfl hH k_am rfl rfl rfl rfl rfl (by rw [show eg_mL 224 = 2 from by decide +kernel]; first | done | rfl) ?_
    refine (fn_wires hH k_am k_aw m1 hn hv.1 (by omega)).mono (fun u hu => xp_cb hu ?_)
    show et_go none _ 237 13 _ [.int (Int32.ofNat w), .int (Int32.ofNat m)] _ _ _ _
    refine hs_br2n (c := .ge) (t := 57) (f := 16) (by decide +kernel) (by omega) (by omega) (fun (c13 : w ≤ m) => ?_) (fun (c13 : ¬ (w ≤ m)) => ?_)
    · refine hs_iload (i := 4) (p := 59) (by decide +kernel) rfl ?_
      refine hs_iret (by decide +kernel) ?_
      obtain rfl : m = w := by omega
      rfl
    · refine hs_iload (i := 4) (p := 18) (by decide +kernel) rfl ?_
      refine hs_iload (i := 3) (p := 19) (by decide +kernel) rfl ?_
      refine hs_iload (i := 5) (p := 21) (by decide +kernel) rfl ?_
      refine hs_st (ins := .ishr) (len := 1) (p := 22) (by decide +kernel) rfl rfl ?_
      refine hs_k (x := Int32.ofNat 1) (p := 23) (by decide +kernel) ?_
      refine hs_st (ins := .iand) (len := 1) (p := 24) (by decide +kernel) rfl rfl ?_
      refine hs_k (x := Int32.ofNat 1) (p := 25) (by decide +kernel) ?_
      refine hs_br2 (c := .ne) (t := 32) (f := 28) (by decide +kernel) (fun (c25 : ¬ (((Int32.ofNat 0) >>> ((Int32.ofNat m) &&& 31)) &&& (Int32.ofNat 1)) = Int32.ofNat 1) => ?_) (fun (c25 : ¬ (¬ (((Int32.ofNat 0) >>> ((Int32.ofNat m) &&& 31)) &&& (Int32.ofNat 1)) = Int32.ofNat 1)) => ?_)
      · refine hs_aload (i := 0) (p := 33) (by decide +kernel) rfl ?_
        refine hs_iload (i := 1) (p := 34) (by decide +kernel) rfl ?_
        refine hs_iload (i := 5) (p := 36) (by decide +kernel) rfl ?_
        refine ht_callv (T := et_TT) (t := 13) (mi := 231) (na := 2) (ci := 11) (lk := 6) (lm := 3) (L0 := eg_en (eg_mL 231) [.ref am, .int (Int32.ofNat n), .int (Int32.ofNat m)]) (by decide +kernel) rfl hH k_am rfl rfl rfl rfl rfl (by rw [show eg_mL 231 = 3 from by decide +kernel]; first | done | rfl) ?_
        refine (fn_knob hH k_am k_aw m1 hn hw hkd hv (by omega) (by omega)).mono (fun u hu => xp_cb hu ?_)
        show et_go none _ 237 39 _ [.int (N m), .int (suN C Kd N x m)] _ _ _ _
        refine hs_aload (i := 0) (p := 40) (by decide +kernel) rfl ?_
        refine hs_iload (i := 1) (p := 41) (by decide +kernel) rfl ?_
        refine hs_iload (i := 5) (p := 43) (by decide +kernel) rfl ?_
        refine hs_iload (i := 2) (p := 44) (by decide +kernel) rfl ?_
        refine ht_callv (T := et_TT) (t := 13) (mi := 238) (na := 3) (ci := 11) (lk := 6) (lm := 4) (L0 := eg_en (eg_mL 238) [.ref am, .int (Int32.ofNat n), .int (Int32.ofNat m), .int x]) (by decide +kernel) rfl hH k_am rfl rfl rfl rfl rfl (by rw [show eg_mL 238 = 4 from by decide +kernel]; first | done | rfl) ?_
        refine (fn_val (x := x) hH k_am k_aw m1 hn hw hkd hv (by omega) (by omega)).mono (fun u hu => xp_cb hu ?_)
        show et_go none _ 237 47 _ [.int (vaI (C m) (Kd m) x), .int (N m), .int (suN C Kd N x m)] _ _ _ _
        refine hs_imul (p := 48) (by decide +kernel) ?_
        refine hs_iadd (p := 49) (by decide +kernel) ?_
        refine hs_istore (i := 4) (p := 51) (by decide +kernel) (Nat.le_of_ble_eq_true rfl) ?_
        refine hs_iinc1 (i := 5) (p := 54) (by decide +kernel) rfl (Nat.le_of_ble_eq_true rfl) ?_
        refine hs_goto (p := 6) (by decide +kernel) ?_
        show et_go none (d + 4) 237 6 [some (.ref am), some (.int (Int32.ofNat n)), some (.int x), some (.int (Int32.ofNat 0)), some (.int (suN C Kd N x (m + 1))), some (.int (Int32.ofNat (m + 1)))] [] _ _ _ _
        exact ih (w - (m + 1)) (by omega) (by omega) rfl
      · exact absurd (Decidable.of_not_not c25) (va_0 m (List.mem_range.mpr (by omega)))
theorem fw_sum (hH : et_H et_TT K G) (k_am : K am = some 13) (k_aw : K aw = some 46) (m1 : et_pl (eg_at G am) 1 = some (.ref aw)) (hn : n < 3) (hw : w ≤ 6) (hkd : ∀ m, m < w → Kd m ≤ 2) (hv : evM G aw n w C Kd N l s t f) (hd : 4 ≤ d2) : et_go none d2 237 0 (eg_en (eg_mL 237) [.ref am, .int (Int32.ofNat n), .int x, .int (Int32.ofNat 0)]) [] G 0 0 (xp_Z G (some (.int (suN C Kd N x w)))) := by
  obtain ⟨d, rfl⟩ : ∃ d, d2 = d + 4 := ⟨d2 - 4, by omega⟩
  rw [show eg_mL 237 = 6 from by decide +kernel]
  show et_go none (d + 4) 237 0 [some (.ref am), some (.int (Int32.ofNat n)), some (.int x), some (.int (Int32.ofNat 0)), none, none] [] G 0 0 _
  refine hs_k (x := Int32.ofNat 0) (p := 1) (by decide +kernel) ?_
  refine hs_istore (i := 4) (p := 3) (by decide +kernel) (Nat.le_of_ble_eq_true rfl) ?_
  refine hs_k (x := Int32.ofNat 0) (p := 4) (by decide +kernel) ?_
  refine hs_istore (i := 5) (p := 6) (by decide +kernel) (Nat.le_of_ble_eq_true rfl) ?_
  exact fw_sumL (m := 0) hH k_am k_aw m1 hn hw hkd hv (Nat.zero_le _)
theorem fn_seen (hH : et_H et_TT K G) (k_am : K am = some 13) (k_aw : K aw = some 46) (m1 : et_pl (eg_at G am) 1 = some (.ref aw)) (hn : n < 3) (hw : w ≤ 6) (hkd : ∀ m, m < w → Kd m ≤ 2) (hv : evM G aw n w C Kd N l s t f) (hd : 5 ≤ d2) : et_go none d2 236 0 (eg_en (eg_mL 236) [.ref am, .int (Int32.ofNat n), .int x]) [] G 0 0 (xp_Z G (some (.int (suN C Kd N x w)))) := by
  obtain ⟨d, rfl⟩ : ∃ d, d2 = d + 5 := ⟨d2 - 5, by omega⟩
  rw [show eg_mL 236 = 3 from by decide +kernel]
  show et_go none (d + 5) 236 0 [some (.ref am), some (.int (Int32.ofNat n)), some (.int x)] [] G 0 0 _
  have lt_am := (hH.2.2 _ _ k_am).1
  have lt_aw := (hH.2.2 _ _ k_aw).1
  refine hs_aload (i := 0) (p := 1) (by decide +kernel) rfl ?_
  refine hs_iload (i := 1) (p := 2) (by decide +kernel) rfl ?_
  refine hs_iload (i := 2) (p := 3) (by decide +kernel) rfl ?_
  refine hs_k (x := Int32.ofNat 0) (p := 4) (by decide +kernel) ?_
  refine ht_callv (T := et_TT) (t := 13) (mi := 237) (na := 3) (ci := 11) (lk := 3) (lm := 6) (L0 := eg_en (eg_mL 237) [.ref am, .int (Int32.ofNat n), .int x, .int (Int32.ofNat 0)]) (by decide +kernel) rfl hH k_am rfl rfl rfl rfl rfl (by rw [show eg_mL 237 = 6 from by decide +kernel]; first | done | rfl) ?_
  refine (fw_sum (x := x) hH k_am k_aw m1 hn hw hkd hv (by omega)).mono (fun u hu => xp_cb hu ?_)
  show et_go none _ 236 7 _ [.int (suN C Kd N x w)] _ _ _ _
  refine hs_iret (by decide +kernel) ?_
  rfl
theorem fn_says (hH : et_H et_TT K G) (k_am : K am = some 13) (k_aw : K aw = some 46) (m1 : et_pl (eg_at G am) 1 = some (.ref aw)) (hn : n < 3) (hw : w ≤ 6) (hkd : ∀ m, m < w → Kd m ≤ 2) (hv : evM G aw n w C Kd N l s t f) (hd : 6 ≤ d2) : et_go none d2 235 0 (eg_en (eg_mL 235) [.ref am, .int (Int32.ofNat n), .int x]) [] G 0 0 (xp_Z G (some (.int (Int32.ofNat (if l < suN C Kd N x w then 1 else 0))))) := by
  obtain ⟨d, rfl⟩ : ∃ d, d2 = d + 6 := ⟨d2 - 6, by omega⟩
  rw [show eg_mL 235 = 3 from by decide +kernel]
  show et_go none (d + 6) 235 0 [some (.ref am), some (.int (Int32.ofNat n)), some (.int x)] [] G 0 0 _
  have lt_am := (hH.2.2 _ _ k_am).1
  have lt_aw := (hH.2.2 _ _ k_aw).1
  refine hs_aload (i := 0) (p := 1) (by decide +kernel) rfl ?_
  refine hs_iload (i := 1) (p := 2) (by decide +kernel) rfl ?_
  refine hs_iload (i := 2) (p := 3) (by decide +kernel) rfl ?_
  refine ht_callv (T := et_TT) (t := 13) (mi := 236) (na := 2) (ci := 11) (lk := 3) (lm := 3) (L0 := eg_en (eg_mL 236) [.ref am, .int (Int32.ofNat n), .int x]) (by decide +kernel) rfl hH k_am rfl rfl rfl rfl rfl (by rw [show eg_mL 236 = 3 from by decide +kernel]; first | done | rfl) ?_
  refine (fn_seen (x := x) hH k_am k_aw m1 hn hw hkd hv (by omega)).mono (fun u hu => xp_cb hu ?_)
  show et_go none _ 235 6 _ [.int (suN C Kd N x w)] _ _ _ _
  refine hs_aload (i := 0) (p := 7) (by decide +kernel) rfl ?_
  refine hs_iload (i := 1) (p := 8) (by decide +kernel) rfl ?_
  refine hs_k (x := Int32.ofNat 19) (p := 10) (by decide +kernel) ?_
  refine ht_callv (T := et_TT) (t := 13) (mi := 225) (na := 2) (ci := 11) (lk := 3) (lm := 3) (L0 := eg_en (eg_mL 225) [.ref am, .int (Int32.ofNat n), .int (Int32.ofNat 19)]) (by decide +kernel) rfl hH k_am rfl rfl rfl rfl rfl (by rw [show eg_mL 225 = 3 from by decide +kernel]; first | done | rfl) ?_
  refine (fn_of hH k_am k_aw m1 (by omega) hv.2.2.1).mono (fun u hu => xp_cb hu ?_)
  show et_go none _ 235 13 _ [.int l, .int (suN C Kd N x w)] _ _ _ _
  refine hs_br2 (c := .le) (t := 20) (f := 16) (by decide +kernel) (fun (c13 : (suN C Kd N x w) ≤ l) => ?_) (fun (c13 : ¬ ((suN C Kd N x w) ≤ l)) => ?_)
  · refine hs_k (x := Int32.ofNat 0) (p := 21) (by decide +kernel) ?_
    refine hs_zret (by decide +kernel) (.inl rfl) ?_
    rw [if_neg (by first | exact Int32.not_lt.mpr c13 | exact c13)]
    rfl
  · refine hs_k (x := Int32.ofNat 1) (p := 17) (by decide +kernel) ?_
    refine hs_goto (p := 21) (by decide +kernel) ?_
    refine hs_zret (by decide +kernel) (.inr rfl) ?_
    rw [if_pos (by first | exact c13 | exact Int32.not_le.mp c13)]
    rfl
end VAA
end
section
/-! PHASE D: a TURNER's LINES, the class's side -/
def hoL (l : sp_L) (E : sp_E) : Bool := match l.2.2 with
  | none => true
  | some f => f E
/-- the NUMBER of the first LINE of this kind that holds -/
def nuL (t : Bool) (E : sp_E) : List sp_L → Nat
  | [] => 0
  | l :: r => if (l.1 == t && hoL l E) = true then l.2.1 else nuL t E r
theorem b01_inj {a b : Bool} (h : (if a = true then 1 else 0) = (if b = true then 1 else 0)) : (a == b) = true := by
  cases a <;> cases b <;> first | rfl | exact absurd h (by decide)
theorem b01_ne {a b : Bool} (h : ¬ (if a = true then 1 else 0) = (if b = true then 1 else 0)) : (a == b) = false := by
  cases a <;> cases b <;> first | rfl | exact absurd rfl h
theorem nuL_y {t : Bool} {E : sp_E} {l : sp_L} {r : List sp_L} (h1 : (l.1 == t) = true) (h2 : hoL l E = true) : nuL t E (l :: r) = l.2.1 := by
  show (if (l.1 == t && hoL l E) = true then l.2.1 else nuL t E r) = _
  rw [h1, h2]
  rfl
theorem nuL_n1 {t : Bool} {E : sp_E} {l : sp_L} {r : List sp_L} (h1 : (l.1 == t) = false) : nuL t E (l :: r) = nuL t E r := by
  show (if (l.1 == t && hoL l E) = true then l.2.1 else nuL t E r) = _
  rw [h1]
  rfl
theorem nuL_n2 {t : Bool} {E : sp_E} {l : sp_L} {r : List sp_L} (h2 : hoL l E = false) : nuL t E (l :: r) = nuL t E r := by
  show (if (l.1 == t && hoL l E) = true then l.2.1 else nuL t E r) = _
  rw [h2, Bool.and_false]
  rfl
theorem hoL_0 {l : sp_L} {E : sp_E} (h : l.2.2 = none) : hoL l E = true := by
  unfold hoL
  rw [h]
theorem hoL_1 {l : sp_L} {E : sp_E} {f : sp_E → Bool} {b : Bool} (h : l.2.2 = some f) (hb : f E = b) : hoL l E = b := by
  unfold hoL
  rw [h]
  exact hb
section VBA
variable {K : et_K} {G : eg_G} {d d2 tn A B C fo lo hi b n : Nat} {F : Nat → Int32} {t : Bool} {ls : List sp_L}
theorem fd_numL (hH : et_H et_TT K G) (hF : foR K G fo F) (k_tn : K tn = some 11) (k_A : K A = some 26) (k_B : K B = some 16) (k_C : K C = some 42) (h1 : et_pl (eg_at G tn) 1 = some (.ref A)) (h2 : et_pl (eg_at G tn) 2 = some (.ref B)) (h3 : et_pl (eg_at G tn) 3 = some (.ref C)) (hT : tlR K G tn A B C lo hi ls) (hl : ls.length ≤ 10) (hb : b = if t = true then 1 else 0) {x4 : Option Value} (hn : n ≤ ls.length) : et_go none (d + 19) 114 2 [some (.ref tn), some (.int (Int32.ofNat b)), some (.ref fo), some (.int (Int32.ofNat n)), x4] [] G 0 0 (xp_Z G (some (.int (Int32.ofNat (nuL t (feE F) (ls.drop n)))))) := by
  have k_fo := hF.1
  have hb1 : b ≤ 1 := by
    rw [hb]
    split <;> decide
  induction hz : ls.length - n using Nat.strongRecOn generalizing n x4 with
  | _ z ih =>
    have lt_tn := (hH.2.2 _ _ k_tn).1
    have lt_A := (hH.2.2 _ _ k_A).1
    have lt_B := (hH.2.2 _ _ k_B).1
    have lt_C := (hH.2.2 _ _ k_C).1
    have lt_fo := (hH.2.2 _ _ k_fo).1
    refine hs_iload (i := 3) (p := 3) (by decide +kernel) rfl ?_
    refine hs_aload (i := 0) (p := 4) (by decide +kernel) rfl ?_
    refine hf_get (T := et_TT) (t := 11) (ci := 9) (f := 0) (p := 7) (by decide +kernel) rfl hH k_tn hT.1 ?_
    refine hs_br2n (c := .ge) (t := 56) (f := 10) (by decide +kernel) (by omega) (by omega) (fun (c7 : ls.length ≤ n) => ?_) (fun (c7 : ¬ (ls.length ≤ n)) => ?_)
    · refine hs_k (x := Int32.ofNat 0) (p := 57) (by decide +kernel) ?_
      refine hs_iret (by decide +kernel) ?_
      rw [List.drop_eq_nil_of_le c7]
      rfl
    · have hn7 : n < ls.length := by omega
      obtain ⟨l, hl9⟩ : ∃ l, ls[n]? = some l := ⟨_, List.getElem?_eq_getElem hn7⟩
      have hdr : ls.drop n = l :: ls.drop (n + 1) := by
        rw [List.drop_eq_getElem_cons hn7]
        congr 1
        exact Option.some.inj ((List.getElem?_eq_getElem hn7).symm.trans hl9)
      obtain ⟨t1, t2, t3, t4⟩ := hT.2 n l hl9
      have tv1 : (if l.1 = true then 1 else 0) ≤ 1 := by split <;> decide
      rw [hdr]
      rcases hc9 : l.2.2 with _ | f
      · rw [hc9] at t4
        have t4 : et_pl (eg_at G C) n = some .null := t4
        refine hs_aload (i := 0) (p := 11) (by decide +kernel) rfl ?_
        refine hf_get (T := et_TT) (t := 11) (ci := 9) (f := 3) (p := 14) (by decide +kernel) rfl hH k_tn h3 ?_
        refine hs_iload (i := 3) (p := 15) (by decide +kernel) rfl ?_
        refine hf_ald (ins := .aaload) (T := et_TT) (t := 42) (kd := 10) (N := 10) (p := 16) (by decide +kernel) (fun _ _ _ _ _ _ _ _ _ _ => rfl) rfl rfl rfl hH k_C (by decide) t4 ?_
        refine hs_astore0 (i := 4) (p := 18) (by decide +kernel) (Nat.le_of_ble_eq_true rfl) ?_
        refine hs_aload (i := 0) (p := 19) (by decide +kernel) rfl ?_
        refine hf_get (T := et_TT) (t := 11) (ci := 9) (f := 1) (p := 22) (by decide +kernel) rfl hH k_tn h1 ?_
        refine hs_iload (i := 3) (p := 23) (by decide +kernel) rfl ?_
        refine hf_ald (ins := .baload) (T := et_TT) (t := 26) (kd := 3) (N := 10) (p := 24) (by decide +kernel) (fun _ _ _ _ _ _ _ _ _ _ => rfl) rfl rfl rfl hH k_A (by decide) t1 ?_
        refine hs_iload (i := 1) (p := 25) (by decide +kernel) rfl ?_
        refine hs_br2n (c := .ne) (t := 50) (f := 28) (by decide +kernel) (by omega) (by omega) (fun (c25 : ¬ (if l.1 = true then 1 else 0) = b) => ?_) (fun (c25 : ¬ (¬ (if l.1 = true then 1 else 0) = b)) => ?_)
        · refine hs_iinc1 (i := 3) (p := 53) (by decide +kernel) rfl (Nat.le_of_ble_eq_true rfl) ?_
          refine hs_goto (p := 2) (by decide +kernel) ?_
          show et_go none (d + 19) 114 2 [some (.ref tn), some (.int (Int32.ofNat b)), some (.ref fo), some (.int (Int32.ofNat (n + 1))), some (.null)] [] _ _ _ _
          rw [nuL_n1 (b01_ne (by rw [← hb]; exact c25))]
          exact ih (ls.length - (n + 1)) (by omega) (by omega) rfl
        · refine hs_aload0 (i := 4) (p := 30) (by decide +kernel) rfl ?_
          refine hs_ifnull0 (p := 43) (by decide +kernel) ?_
          refine hs_aload (i := 0) (p := 44) (by decide +kernel) rfl ?_
          refine hf_get (T := et_TT) (t := 11) (ci := 9) (f := 2) (p := 47) (by decide +kernel) rfl hH k_tn h2 ?_
          refine hs_iload (i := 3) (p := 48) (by decide +kernel) rfl ?_
          refine hf_ald (ins := .iaload) (T := et_TT) (t := 16) (kd := 0) (N := 10) (p := 49) (by decide +kernel) (fun _ _ _ _ _ _ _ _ _ _ => rfl) rfl rfl rfl hH k_B (by decide) t2 ?_
          refine hs_iret (by decide +kernel) ?_
          rw [nuL_y (b01_inj (by rw [← hb]; exact Decidable.of_not_not c25)) (hoL_0 hc9)]
          rfl
      · rw [hc9] at t4
        obtain ⟨c, t4, k_c, hdn9⟩ := t4
        have lt_c := (hH.2.2 _ _ k_c).1
        refine hs_aload (i := 0) (p := 11) (by decide +kernel) rfl ?_
        refine hf_get (T := et_TT) (t := 11) (ci := 9) (f := 3) (p := 14) (by decide +kernel) rfl hH k_tn h3 ?_
        refine hs_iload (i := 3) (p := 15) (by decide +kernel) rfl ?_
        refine hf_ald (ins := .aaload) (T := et_TT) (t := 42) (kd := 10) (N := 10) (p := 16) (by decide +kernel) (fun _ _ _ _ _ _ _ _ _ _ => rfl) rfl rfl rfl hH k_C (by decide) t4 ?_
        refine hs_astore (i := 4) (p := 18) (by decide +kernel) (Nat.le_of_ble_eq_true rfl) ?_
        refine hs_aload (i := 0) (p := 19) (by decide +kernel) rfl ?_
        refine hf_get (T := et_TT) (t := 11) (ci := 9) (f := 1) (p := 22) (by decide +kernel) rfl hH k_tn h1 ?_
        refine hs_iload (i := 3) (p := 23) (by decide +kernel) rfl ?_
        refine hf_ald (ins := .baload) (T := et_TT) (t := 26) (kd := 3) (N := 10) (p := 24) (by decide +kernel) (fun _ _ _ _ _ _ _ _ _ _ => rfl) rfl rfl rfl hH k_A (by decide) t1 ?_
        refine hs_iload (i := 1) (p := 25) (by decide +kernel) rfl ?_
        refine hs_br2n (c := .ne) (t := 50) (f := 28) (by decide +kernel) (by omega) (by omega) (fun (c25 : ¬ (if l.1 = true then 1 else 0) = b) => ?_) (fun (c25 : ¬ (¬ (if l.1 = true then 1 else 0) = b)) => ?_)
        · refine hs_iinc1 (i := 3) (p := 53) (by decide +kernel) rfl (Nat.le_of_ble_eq_true rfl) ?_
          refine hs_goto (p := 2) (by decide +kernel) ?_
          show et_go none (d + 19) 114 2 [some (.ref tn), some (.int (Int32.ofNat b)), some (.ref fo), some (.int (Int32.ofNat (n + 1))), some (.ref c)] [] _ _ _ _
          rw [nuL_n1 (b01_ne (by rw [← hb]; exact c25))]
          exact ih (ls.length - (n + 1)) (by omega) (by omega) rfl
        · refine hs_aload (i := 4) (p := 30) (by decide +kernel) rfl ?_
          refine hs_ifnull1 (p := 33) (by decide +kernel) ?_
          refine hs_aload (i := 4) (p := 35) (by decide +kernel) rfl ?_
          refine hs_aload (i := 2) (p := 36) (by decide +kernel) rfl ?_
          refine hs_k (x := Int32.ofNat 0) (p := 37) (by decide +kernel) ?_
          refine ht_callv (T := et_TT) (t := 6) (mi := 60) (na := 2) (ci := 4) (lk := 5) (lm := 4) (L0 := eg_en (eg_mL 60) [.ref c, .ref fo, .int (Int32.ofNat 0)]) (by decide +kernel) rfl hH k_c rfl rfl rfl rfl rfl (by rw [show eg_mL 60 = 4 from by decide +kernel]; first | done | rfl) ?_
          refine (fx_true hH hF 15 hdn9 k_c (by omega) (by omega)).mono (fun u hu => xp_cb hu ?_)
          by_cases qf : f (feE F) = true
          · rw [if_pos qf]
            show et_go none _ 114 40 _ [.int (Int32.ofNat 1)] _ _ _ _
            refine hs_if0 (c := .eq) (t := 50) (f := 43) (by decide +kernel) (show ¬ (Int32.ofNat 1 = 0) by decide) ?_
            refine hs_aload (i := 0) (p := 44) (by decide +kernel) rfl ?_
            refine hf_get (T := et_TT) (t := 11) (ci := 9) (f := 2) (p := 47) (by decide +kernel) rfl hH k_tn h2 ?_
            refine hs_iload (i := 3) (p := 48) (by decide +kernel) rfl ?_
            refine hf_ald (ins := .iaload) (T := et_TT) (t := 16) (kd := 0) (N := 10) (p := 49) (by decide +kernel) (fun _ _ _ _ _ _ _ _ _ _ => rfl) rfl rfl rfl hH k_B (by decide) t2 ?_
            refine hs_iret (by decide +kernel) ?_
            rw [nuL_y (b01_inj (by rw [← hb]; exact Decidable.of_not_not c25)) (hoL_1 hc9 qf)]
            rfl
          · rw [if_neg qf]
            show et_go none _ 114 40 _ [.int (Int32.ofNat 0)] _ _ _ _
            refine hs_if1 (c := .eq) (t := 50) (f := 43) (by decide +kernel) (show Int32.ofNat 0 = 0 by decide) ?_
            refine hs_iinc1 (i := 3) (p := 53) (by decide +kernel) rfl (Nat.le_of_ble_eq_true rfl) ?_
            refine hs_goto (p := 2) (by decide +kernel) ?_
            show et_go none (d + 19) 114 2 [some (.ref tn), some (.int (Int32.ofNat b)), some (.ref fo), some (.int (Int32.ofNat (n + 1))), some (.ref c)] [] _ _ _ _
            rw [nuL_n2 (hoL_1 hc9 (Bool.eq_false_iff.mpr qf))]
            exact ih (ls.length - (n + 1)) (by omega) (by omega) rfl
theorem fd_num (hH : et_H et_TT K G) (hF : foR K G fo F) (k_tn : K tn = some 11) (k_A : K A = some 26) (k_B : K B = some 16) (k_C : K C = some 42) (h1 : et_pl (eg_at G tn) 1 = some (.ref A)) (h2 : et_pl (eg_at G tn) 2 = some (.ref B)) (h3 : et_pl (eg_at G tn) 3 = some (.ref C)) (hT : tlR K G tn A B C lo hi ls) (hl : ls.length ≤ 10) (hb : b = if t = true then 1 else 0) (hd : 19 ≤ d2) : et_go none d2 114 0 (eg_en (eg_mL 114) [.ref tn, .int (Int32.ofNat b), .ref fo]) [] G 0 0 (xp_Z G (some (.int (Int32.ofNat (nuL t (feE F) ls))))) := by
  obtain ⟨d, rfl⟩ : ∃ d, d2 = d + 19 := ⟨d2 - 19, by omega⟩
  rw [show eg_mL 114 = 5 from by decide +kernel]
  show et_go none (d + 19) 114 0 [some (.ref tn), some (.int (Int32.ofNat b)), some (.ref fo), none, none] [] G 0 0 _
  refine hs_k (x := Int32.ofNat 0) (p := 1) (by decide +kernel) ?_
  refine hs_istore (i := 3) (p := 2) (by decide +kernel) (Nat.le_of_ble_eq_true rfl) ?_
  exact fd_numL (n := 0) hH hF k_tn k_A k_B k_C h1 h2 h3 hT hl hb (Nat.zero_le _)
end VBA
end
section
/-! PHASE D: a TURNER's LINES, the reference's side -/
section VCA
variable {d am aw va fa tg : Nat} {G : eg_G} {F : Nat → Value} {W FA TG : Nat → Int32} {V : Nat → Int64} {Z : eg_O → Prop}
/-- a LINE without if holds -/
theorem rf_holds0 (hV : rp_V G am aw va fa tg F FA TG) {t n s : Nat} (ht : t < 14) (hn : n < 10) (haW : W (126 + 841 * t + 1 + 4 * n + 2) = Int32.ofNat s) (hbW : W (126 + 841 * t + 1 + 4 * n + 3) = Int32.ofNat s) (hs : s ≤ 400) (h : Z (.inl (some (.int (Int32.ofNat 1))), (hm_H (eg_u G va (hv_c V)) am aw F W), 0, 0)) : et_go none (d + 2) 216 0 [some (.ref am), some (.int (Int32.ofNat t)), some (.int (Int32.ofNat n)), none, none, none, none, none, none, none, none, none, none] [] (hm_H (eg_u G va (hv_c V)) am aw F W) 0 0 Z := by
  refine hs_k (x := Int32.ofNat 0) (p := 1) (by decide +kernel) ?_
  refine hs_istore (i := 3) (p := 2) (by decide +kernel) (Nat.le_of_ble_eq_true rfl) ?_
  refine hs_iload (i := 1) (p := 3) (by decide +kernel) rfl ?_
  refine hs_iload (i := 2) (p := 4) (by decide +kernel) rfl ?_
  refine hs_calls (mi := 189) (na := 2) (lk := 13) (lm := 2) (by decide +kernel) rfl rfl rfl rfl rfl rfl rfl (rp_lineAt (hs_cb ?_))
  show et_go none _ 216 7 _ [.int (Int32.ofNat (126 + 841 * t + 1 + 4 * n))] _ _ _ _
  refine hs_istore (i := 4) (p := 9) (by decide +kernel) (Nat.le_of_ble_eq_true rfl) ?_
  refine hs_aload (i := 0) (p := 10) (by decide +kernel) rfl ?_
  refine hm_get (hm_okv hV) (f := 1) (p := 13) (by decide +kernel) rfl hV.2.1 ?_
  refine hs_iload (i := 4) (p := 15) (by decide +kernel) rfl ?_
  refine hs_k (x := Int32.ofNat 2) (p := 16) (by decide +kernel) ?_
  refine hs_iaddn (p := 17) (by decide +kernel) ?_
  refine hv_w hV (p := 18) (x := Int32.ofNat s) (by decide +kernel) (by omega) haW ?_
  refine hs_istore (i := 5) (p := 20) (by decide +kernel) (Nat.le_of_ble_eq_true rfl) ?_
  refine hs_iload (i := 5) (p := 22) (by decide +kernel) rfl ?_
  refine hs_aload (i := 0) (p := 23) (by decide +kernel) rfl ?_
  refine hm_get (hm_okv hV) (f := 1) (p := 26) (by decide +kernel) rfl hV.2.1 ?_
  refine hs_iload (i := 4) (p := 28) (by decide +kernel) rfl ?_
  refine hs_k (x := Int32.ofNat 3) (p := 29) (by decide +kernel) ?_
  refine hs_iaddn (p := 30) (by decide +kernel) ?_
  refine hv_w hV (p := 31) (x := Int32.ofNat s) (by decide +kernel) (by omega) hbW ?_
  refine hs_br2n (c := .ge) (t := 384) (f := 34) (by decide +kernel) (by omega) (by omega) (fun (c31 : s ≤ s) => ?_) (fun (c31 : ¬ (s ≤ s)) => absurd (Nat.le_refl _) c31)
  exact rf_end0 (d := d + 1) hV (t := t) (n := n) (ky := 126 + 841 * t + 1 + 4 * n) (i := s) h
end VCA
section VCB
variable {K : et_K} {G : eg_G} {d d2 am aw fa tg t : Nat} {x li : Int32}
theorem fm_holdsT {i : Nat} {ls : List sp_L} {l : sp_L} {E : sp_E} {FA TG : Nat → Int32} (hH : et_H et_TT K G) (k_am : K am = some 13) (m1 : et_pl (eg_at G am) 1 = some (.ref aw)) (m14 : et_pl (eg_at G am) 14 = some (.ref fa)) (m15 : et_pl (eg_at G am) 15 = some (.ref tg)) (m16 : et_pl (eg_at G am) 16 = some (.int li)) (hfa : ∀ o, o ≤ 4 → et_pl (eg_at G fa) o = some (.int (FA o))) (htg : ∀ o, o < 2 → et_pl (eg_at G tg) o = some (.int (TG o))) (hE : erR FA TG li 1 E) (ht4 : 4 ≤ t ∧ t < 8) (hT : tuT G aw (126 + 841 * t) 1 ls) (hl : ls[i]? = some l) (hd : 3 ≤ d2) : et_go none d2 216 0 (eg_en (eg_mL 216) [.ref am, .int (Int32.ofNat t), .int (Int32.ofNat i)]) [] G 0 0 (fun u => u.1 = .inl (some (.int (Int32.ofNat (if hoL l E = true then 1 else 0))))) := by
  have ht : t < 14 := by omega
  obtain ⟨F, W, aw', hA, eF, eW, hw, hKw, hF, hX, hW, hG, e⟩ := hi_mod hH k_am
  obtain rfl : aw' = aw := by
    rw [eF, hi_pF (by decide), hw] at m1
    exact Value.ref.inj (Option.some.inj m1)
  obtain ⟨va, fa', tg', V, FA', TG', hV, eV, k1, k2, k3⟩ := hi_V hH k_am hA hw hKw hF
  have hV0 := hV
  obtain ⟨-, -, -, ⟨f14, -, -, -, -, eFA⟩, ⟨f15, -, -, -, -, eTG⟩, li', f16⟩ := hV0
  obtain rfl : fa' = fa := by
    rw [eF, hi_pF (by decide), f14] at m14
    exact Value.ref.inj (Option.some.inj m14)
  obtain rfl : tg' = tg := by
    rw [eF, hi_pF (by decide), f15] at m15
    exact Value.ref.inj (Option.some.inj m15)
  obtain rfl : li' = li := by
    rw [eF, hi_pF (by decide), f16] at m16
    exact Value.int.inj (Option.some.inj m16)
  have e1 : ∀ o, o ≤ 4 → FA' o = FA o := fun o ho => by
    have h := hfa o ho
    rw [eFA, hf_pl (.inl rfl), if_pos (by omega)] at h
    exact Value.int.inj (Option.some.inj h)
  have e2 : ∀ o, o < 2 → TG' o = TG o := fun o ho => by
    have h := htg o ho
    rw [eTG, hf_pl (.inr (.inr (.inl rfl))), if_pos (by omega)] at h
    exact Value.int.inj (Option.some.inj h)
  have hE2 : erR FA' TG' li' 1 E := ⟨fun o ho => by rw [e1 o ho]; exact hE.1 o ho, fun o ho => by rw [e2 o ho]; exact hE.2.1 o ho, hE.2.2⟩
  obtain ⟨d, rfl⟩ : ∃ d, d2 = d + 2 := ⟨d2 - 2, by omega⟩
  have pw : ∀ k n, k < 12741 → et_pl (eg_at G aw') k = some (.int (Int32.ofNat n)) → W k = Int32.ofNat n := fun k n hk h => by
    rw [eW, hi_pW hk] at h
    exact Value.int.inj (Option.some.inj h)
  obtain ⟨hT0, hTl, hT2⟩ := hT
  obtain ⟨s, b, e0, e3, e4, e5, hb4, hsb, hm⟩ := hT2 i l hl
  have hi := (List.getElem?_eq_some_iff.mp hl).1
  have haW : W (126 + 841 * t + 1 + 4 * i + 2) = Int32.ofNat s := pw _ _ (by omega) e4
  have hbW : W (126 + 841 * t + 1 + 4 * i + 3) = Int32.ofNat b := pw _ _ (by omega) e5
  rw [hi_mL216]
  cases hl2 : l.2.2 with
  | none =>
    rw [hl2] at hm
    have hm : b = s := hm
    subst hm
    have h0 := rf_holds0 (V := V) (d := d) (Z := fun u => u.1 = .inl (some (.int (Int32.ofNat (if hoL l E = true then 1 else 0))))) hV ht (n := i) (by omega) haW hbW (by omega) (by rw [hoL_0 hl2]; rfl)
    rw [show eg_u G va (hv_c V) = G from hm_same eV hV.2.2.1.2.2.2.1, ← e] at h0
    exact h0
  | some f =>
    rw [hl2] at hm
    obtain ⟨C, hbC, hC, hdn⟩ := hm
    obtain ⟨n9, hn1, hn2, hn3⟩ := hG t ht
    have hn0 : n9 = ls.length := (hs_neq (by omega) (by omega)).mp (hn1.symm.trans (pw _ _ (by omega) hT0))
    obtain ⟨a9, b9, ha, hb, hb9, hab⟩ := hn3 i (.inl (by omega))
    obtain rfl : a9 = s := by
      rcases hab with h | h
      · exact (hs_neq (by omega) (by omega)).mp (ha.symm.trans haW)
      · exact (hs_neq (by omega) (by omega)).mp (ha.symm.trans haW)
    obtain rfl : b9 = b := (hs_neq (by omega) (by omega)).mp (hb.symm.trans hbW)
    have hq : C = [] ∨ (gq (126 + 841 * t + 41) W a9 (b9 - a9) 0).isSome = true := by
      rcases hab with h | ⟨hle, hg⟩
      · exact .inl (List.eq_nil_of_length_eq_zero (by omega))
      · exact .inr (by rw [hg 0]; rfl)
    have h0 := rf_holds (V := V) (d := d) (Z := fun u => u.1 = .inl (some (.int (Int32.ofNat (if hoL l E = true then 1 else 0))))) hV f16 hE2 ht (n := i) (by omega) haW hbW hbC hb4 (fun j x hj => ⟨pw _ _ (by have := (List.getElem?_eq_some_iff.mp hj).1; omega) (hC j x hj).1, pw _ _ (by have := (List.getElem?_eq_some_iff.mp hj).1; omega) (hC j x hj).2.1, (hC j x hj).2.2⟩) hq hdn (fun V2 => by rw [hoL_1 hl2 (b := f E) rfl])
    rw [show eg_u G va (hv_c V) = G from hm_same eV hV.2.2.1.2.2.2.1, ← e] at h0
    exact h0
end VCB
end
section
/-! PHASE D: a TURNER's text speaks of far, value, knob, shown, wrong, yes alone -/
def cl01 {α : Type} (f : sp_E → α) : Prop := ∀ E E' : sp_E, (∀ w, 10 ≤ w → w ≤ 13 → E.1 w = E'.1 w) → (∀ w, 8 ≤ w → w ≤ 9 → E.2.1 w = E'.2.1 w) → True → f E = f E'
def okT1 (ts : List sp_T) : Prop := ∀ t ∈ ts, (8 ≤ t.1 ∧ t.1 ≤ 13) ∨ 20 ≤ t.1
def pcl1 {α : Type} (P : sp_P (sp_E → α)) : Prop := ∀ ts f r, okT1 ts → P ts = some (f, r) → cl01 f ∧ okT1 r
theorem okT1.tl {t : sp_T} {r : List sp_T} (h : okT1 (t :: r)) : okT1 r := fun x hx => h x (List.mem_cons_of_mem _ hx)
theorem okT1.hd {w : Nat} {n : Option Nat} {r : List sp_T} (h : okT1 ((w, n) :: r)) : (8 ≤ w ∧ w ≤ 13) ∨ 20 ≤ w := h (w, n) List.mem_cons_self
theorem fact_cl1 : pcl1 sp_fact := fun ts f r h e => by
  cases ts with
  | nil => cases e
  | cons t ts =>
    obtain ⟨w, n⟩ := t
    unfold sp_fact at e
    dsimp only at e
    by_cases hw : sp_fw w = true
    · rw [if_pos hw] at e
      cases e
      have h1 := h.hd
      unfold sp_fw at hw
      simp only [Bool.or_eq_true, Bool.and_eq_true, Nat.ble_eq] at hw
      exact ⟨fun E E' a _ _ => a w (by omega) (by omega), h.tl⟩
    · rw [if_neg hw] at e
      cases e
theorem times_cl1 {v : Nat} : pcl1 (sp_times v) := fun ts f r h e => by
  cases ts with
  | nil =>
    cases e
    exact ⟨fun _ _ _ _ _ => rfl, h⟩
  | cons t ts =>
    obtain ⟨w, n⟩ := t
    unfold sp_times at e
    dsimp only at e
    by_cases hw : w = 28
    · rw [if_pos hw] at e
      cases hs : sp_fact ts with
      | none =>
        rw [hs] at e
        cases e
      | some p =>
        obtain ⟨g, r3⟩ := p
        rw [hs] at e
        cases e
        obtain ⟨h1, h2⟩ := fact_cl1 _ _ _ h.tl hs
        exact ⟨fun E E' a b c => congrArg (fun z => Int64.ofNat v * z) (h1 E E' a b c), h2⟩
    · rw [if_neg hw] at e
      cases e
      exact ⟨fun _ _ _ _ _ => rfl, h⟩
theorem part_cl1 : pcl1 sp_part := fun ts f r h e => by
  cases ts with
  | nil => cases e
  | cons t ts =>
    obtain ⟨w, n⟩ := t
    unfold sp_part at e
    dsimp only at e
    by_cases hw : w = 33
    · rw [if_pos hw] at e
      cases n with
      | none => cases e
      | some v => exact times_cl1 _ _ _ h.tl e
    · rw [if_neg hw] at e
      exact fact_cl1 _ _ _ h e
theorem loop_cl1 {α : Type} {sub : sp_P (sp_E → α)} {sep : Nat} {op : (sp_E → α) → (sp_E → α) → (sp_E → α)} (hs : pcl1 sub) (hop : ∀ a b, cl01 a → cl01 b → cl01 (op a b)) : ∀ (n : Nat) (a : sp_E → α) (ts : List sp_T) (f : sp_E → α) (r : List sp_T), cl01 a → okT1 ts → sp_loop sub sep op n a ts = some (f, r) → cl01 f ∧ okT1 r
  | 0, a, ts, f, r, ha, h, e => by
    unfold sp_loop at e
    cases e
    exact ⟨ha, h⟩
  | n + 1, a, ts, f, r, ha, h, e => by
    cases ts with
    | nil =>
      unfold sp_loop at e
      cases e
      exact ⟨ha, h⟩
    | cons t ts =>
      obtain ⟨w, o⟩ := t
      unfold sp_loop at e
      dsimp only at e
      by_cases hw : w = sep
      · rw [if_pos hw] at e
        cases hq : sub ts with
        | none =>
          rw [hq] at e
          cases e
        | some p =>
          obtain ⟨g, r3⟩ := p
          rw [hq] at e
          obtain ⟨h1, h2⟩ := hs _ _ _ h.tl hq
          exact loop_cl1 hs hop n _ _ _ _ (hop _ _ ha h1) h2 e
      · rw [if_neg hw] at e
        cases e
        exact ⟨ha, h⟩
theorem many_cl1 {α : Type} {sub : sp_P (sp_E → α)} {sep : Nat} {op : (sp_E → α) → (sp_E → α) → (sp_E → α)} (hs : pcl1 sub) (hop : ∀ a b, cl01 a → cl01 b → cl01 (op a b)) : pcl1 (sp_many sub sep op) := fun ts f r h e => by
  unfold sp_many at e
  cases hq : sub ts with
  | none =>
    rw [hq] at e
    cases e
  | some p =>
    obtain ⟨g, r3⟩ := p
    rw [hq] at e
    obtain ⟨h1, h2⟩ := hs _ _ _ h hq
    exact loop_cl1 hs hop 500 _ _ _ _ h1 h2 e
theorem sum_cl1 : pcl1 sp_sum := many_cl1 part_cl1 (fun a b ha hb E E' x y z => by
  show a E + b E = a E' + b E'
  rw [ha E E' x y z, hb E E' x y z])
theorem cmp_cl1 : pcl1 sp_cmp := fun ts f r h e => by
  unfold sp_cmp at e
  cases hq : sp_sum ts with
  | none =>
    rw [hq] at e
    cases e
  | some p =>
    obtain ⟨a, l⟩ := p
    rw [hq] at e
    obtain ⟨h1, h2⟩ := sum_cl1 _ _ _ h hq
    cases l with
    | nil => cases e
    | cons t r2 =>
      obtain ⟨w, o⟩ := t
      dsimp only at e
      by_cases hw : w = 25 ∨ w = 26
      · rw [if_pos hw] at e
        cases hq2 : sp_sum r2 with
        | none =>
          rw [hq2] at e
          cases e
        | some p2 =>
          obtain ⟨b, r3⟩ := p2
          rw [hq2] at e
          cases e
          obtain ⟨h3, h4⟩ := sum_cl1 _ _ _ h2.tl hq2
          refine ⟨fun E E' x y z => ?_, h4⟩
          show (if w = 25 then decide (a E < b E) else decide (b E < a E)) = (if w = 25 then decide (a E' < b E') else decide (b E' < a E'))
          rw [h1 E E' x y z, h3 E E' x y z]
      · rw [if_neg hw] at e
        cases e
theorem tag_cl1 {w : Nat} (hw : 8 ≤ w ∧ w ≤ 9) : pcl1 (sp_tag w) := fun ts f r h e => by
  unfold sp_tag at e
  have h2 : ¬ w = 2 := by omega
  rw [if_neg h2] at e
  cases e
  exact ⟨fun E E' _ y _ => y w hw.1 hw.2, h⟩
theorem at_cl1 {m : Nat} {A C : sp_P (sp_E → Bool)} (hA : pcl1 A) (hC : pcl1 C) : pcl1 (sp_at m A C) := fun ts f r h e => by
  cases ts with
  | nil => cases e
  | cons t ts =>
    obtain ⟨w, o⟩ := t
    unfold sp_at at e
    dsimp only at e
    by_cases w22 : w = 22
    · rw [if_pos w22] at e
      by_cases hm : m = 0
      · rw [if_pos hm] at e
        cases e
      · rw [if_neg hm] at e
        cases hq : A ts with
        | none =>
          rw [hq] at e
          cases e
        | some p =>
          obtain ⟨g, r2⟩ := p
          rw [hq] at e
          cases e
          obtain ⟨h1, h2⟩ := hA _ _ _ h.tl hq
          exact ⟨fun E E' x y z => congrArg (fun q => !q) (h1 E E' x y z), h2⟩
    · rw [if_neg w22] at e
      by_cases w23 : w = 23
      · rw [if_pos w23] at e
        by_cases hm : m = 0
        · rw [if_pos hm] at e
          cases e
        · rw [if_neg hm] at e
          cases hq : C ts with
          | none =>
            rw [hq] at e
            cases e
          | some p =>
            obtain ⟨g, l⟩ := p
            rw [hq] at e
            obtain ⟨h1, h2⟩ := hC _ _ _ h.tl hq
            cases l with
            | nil => cases e
            | cons t2 r2 =>
              obtain ⟨w2, o2⟩ := t2
              dsimp only at e
              by_cases w24 : w2 = 24
              · rw [if_pos w24] at e
                cases e
                exact ⟨h1, h2.tl⟩
              · rw [if_neg w24] at e
                cases e
      · rw [if_neg w23] at e
        by_cases hw : sp_tw w = true
        · rw [if_pos hw] at e
          have h1 := h.hd
          have hw2 : 8 ≤ w ∧ w ≤ 9 := by
            unfold sp_tw at hw
            simp only [Bool.or_eq_true, Nat.ble_eq, beq_iff_eq] at hw
            omega
          exact tag_cl1 hw2 _ _ _ h.tl e
        · rw [if_neg hw] at e
          exact cmp_cl1 _ _ _ h e
theorem and_cl1 (a b : sp_E → Bool) (ha : cl01 a) (hb : cl01 b) : cl01 (fun e => a e && b e) := fun E E' x y z => by
  show (a E && b E) = (a E' && b E')
  rw [ha E E' x y z, hb E E' x y z]
theorem or_cl1 (a b : sp_E → Bool) (ha : cl01 a) (hb : cl01 b) : cl01 (fun e => a e || b e) := fun E E' x y z => by
  show (a E || b E) = (a E' || b E')
  rw [ha E E' x y z, hb E E' x y z]
theorem any_cl1 {A : sp_P (sp_E → Bool)} (hA : pcl1 A) : pcl1 (spx_any A) := many_cl1 (many_cl1 hA and_cl1) or_cl1
theorem none_cl1 : pcl1 (fun _ => none : sp_P (sp_E → Bool)) := fun _ _ _ _ e => by cases e
theorem A_cl1 : ∀ m, pcl1 (sp_A m)
  | 0 => at_cl1 none_cl1 none_cl1
  | m + 1 => at_cl1 (A_cl1 m) (any_cl1 (A_cl1 m))
theorem one_cl1 {ts : List sp_T} {f : sp_E → Bool} (h : okT1 ts) (e : sp_one ts = some f) : cl01 f := by
  unfold sp_one at e
  cases hq : sp_C 6 ts with
  | none =>
    rw [hq] at e
    cases e
  | some p =>
    obtain ⟨g, l⟩ := p
    rw [hq] at e
    cases l with
    | nil =>
      cases e
      exact (any_cl1 (A_cl1 6) _ _ _ h hq).1
    | cons _ _ => cases e
theorem ok01 : ∀ w ∈ List.range 36, tz_ok 1 w = true → (8 ≤ w ∧ w ≤ 13) ∨ 20 ≤ w := by decide +kernel
theorem ts_ok1 {b : Nat → Nat} {n p : Nat} : okT1 (tz_ts 1 b n p) := fun t ht => by
  unfold tz_ts at ht
  obtain ⟨i, -, rfl⟩ := List.mem_map.mp ht
  show (8 ≤ tz_wd 1 b n i ∧ tz_wd 1 b n i ≤ 13) ∨ 20 ≤ tz_wd 1 b n i
  unfold tz_wd
  by_cases h : tz_d (b i) = true
  · rw [if_pos h]
    exact .inr (by decide)
  · rw [if_neg h]
    rcases fd_ok (pl := 1) (b := b) (i := i) (e := tz_end b n i) 36 0 with h1 | ⟨h1, h2⟩
    · rw [h1]
      exact .inr (by decide)
    · exact ok01 _ (List.mem_range.mpr (by omega)) h1
theorem C6_cl1 : pcl1 (sp_C 6) := any_cl1 (A_cl1 6)
def lcl1 (l : sp_L) : Prop := ∀ f, l.2.2 = some f → cl01 f
theorem line_cl1 {ts r : List sp_T} {l : sp_L} (h : okT1 ts) (e : sp_line ts = some (l, r)) : lcl1 l ∧ okT1 r := by
  cases ts with
  | nil => cases e
  | cons t ts =>
    obtain ⟨w, o⟩ := t
    cases ts with
    | nil => cases e
    | cons t2 ts =>
      obtain ⟨w2, o2⟩ := t2
      cases o2 with
      | none => cases e
      | some v =>
        unfold sp_line at e
        dsimp only at e
        by_cases h1 : (w = 29 ∨ w = 30) ∧ (w2 = 33 ∧ v ≤ 50)
        · rw [if_pos h1] at e
          cases ts with
          | nil =>
            cases e
            exact ⟨fun f hf => (by cases hf), h.tl.tl⟩
          | cons t3 r3 =>
            obtain ⟨w3, o3⟩ := t3
            dsimp only at e
            by_cases h3 : w3 = 31
            · rw [if_pos h3] at e
              cases hq : sp_C 6 r3 with
              | none =>
                rw [hq] at e
                cases e
              | some p =>
                obtain ⟨f, r4⟩ := p
                rw [hq] at e
                cases e
                obtain ⟨h4, h5⟩ := C6_cl1 _ _ _ h.tl.tl.tl hq
                exact ⟨fun g hg => by cases hg; exact h4, h5⟩
            · rw [if_neg h3] at e
              cases e
              exact ⟨fun f hf => (by cases hf), h.tl.tl⟩
        · rw [if_neg h1] at e
          cases e
theorem lines_cl1 : ∀ (n : Nat) (ls : List sp_L) (ts : List sp_T) (r : List sp_L), (∀ l ∈ ls, lcl1 l) → okT1 ts → sp_lines n ls ts = some r → ∀ l ∈ r, lcl1 l
  | 0, _, _, _, _, _, e => by cases e
  | n + 1, ls, ts, r, hl, h, e => by
    unfold sp_lines at e
    cases hq : sp_line ts with
    | none =>
      rw [hq] at e
      cases e
    | some p =>
      obtain ⟨l, q⟩ := p
      rw [hq] at e
      obtain ⟨h1, h2⟩ := line_cl1 h hq
      have hl2 : ∀ x ∈ ls ++ [l], lcl1 x := fun x hx => by
        rcases List.mem_append.mp hx with hx | hx
        · exact hl x hx
        · obtain rfl := List.mem_singleton.mp hx
          exact h1
      cases q with
      | nil =>
        cases e
        exact hl2
      | cons t q =>
        obtain ⟨w, o⟩ := t
        dsimp only at e
        by_cases hw : w = 32
        · rw [if_pos hw] at e
          exact lines_cl1 n _ _ _ hl2 h2.tl e
        · rw [if_neg hw] at e
          cases e
theorem turner_cl1 {b : Nat → Nat} {n p : Nat} {ls : List sp_L} (e : sp_turner (tz_ts 1 b n p) = some ls) : ∀ l ∈ ls, lcl1 l := by
  have h := ts_ok1 (b := b) (n := n) (p := p)
  unfold sp_turner at e
  split at e
  · cases e
    exact fun l hl => absurd hl List.not_mem_nil
  · exact lines_cl1 10 [] _ _ (fun l hl => absurd hl List.not_mem_nil) h e
end
