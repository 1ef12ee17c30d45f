/-! blind by a RULE: the reference sorts by counting -/
section ASA
variable {κ : Nat → Nat} {N h m : Nat}
theorem ctK_y (hk : κ m = h) : ctK κ h (m + 1) = ctK κ h m + 1 := by
  show ctK κ h m + (if κ m = h then 1 else 0) = _
  rw [if_pos hk]
theorem ctK_z (hk : ¬ κ m = h) : ctK κ h (m + 1) = ctK κ h m := by
  show ctK κ h m + (if κ m = h then 1 else 0) = _
  rw [if_neg hk]
  rfl
theorem ps_s : ctB κ N (κ m) + ctK κ (κ m) (m + 1) = psN κ N m + 1 := by
  have e : ctK κ (κ m) (m + 1) = ctK κ (κ m) m + 1 := ctK_y rfl
  unfold psN
  omega
theorem ctB_1 : ctB κ N (m + 1) = ctK κ m N + ctB κ N m := Nat.add_comm _ _
end ASA
/-- the key of the card that stands k-th -/
def kyN (v : evT) (s : Nat) (R : Nat → Nat) (k : Nat) : Nat := hfN s (cdV v (R k))
theorem kyN_lt {v : evT} {s k : Nat} {R : Nat → Nat} : kyN v s R k < 32768 := hfN_lt
theorem a65_ex {K : et_K} {G : eg_G} {a t p : Nat} (hH : et_H et_TT K G) (k : K a = some t) (ht : t = 35 ∨ t = 48) (hp : p < 65536) : ∃ y : Nat, y < 65536 ∧ et_pl (eg_at G a) p = some (.int (Int32.ofNat y)) := by
  rcases ht with rfl | rfl
  · obtain ⟨f, e, hs, -⟩ := hi_arr (kd := 0) (n := 65536) hH k rfl (by decide) (.inl rfl)
    obtain ⟨q, hq, e2⟩ := hi_natW (hs (0, 65535, .inl (0, 65535)) List.mem_cons_self p (Nat.zero_le _) (show p ≤ 65535 by omega) hp)
    exact ⟨q, by omega, by rw [e, hf_pl (.inl rfl), if_pos hp, e2]⟩
  · obtain ⟨f, e, hs, -⟩ := hi_arr (kd := 0) (n := 65536) hH k rfl (by decide) (.inl rfl)
    obtain ⟨q, hq, e2⟩ := hi_natW (hs (0, 65535, .inl (0, 65535)) List.mem_cons_self p (Nat.zero_le _) (show p ≤ 65535 by omega) hp)
    exact ⟨q, by omega, by rw [e, hf_pl (.inl rfl), if_pos hp, e2]⟩
/-- what stands in a sorted array -/
theorem so_ar {K : et_K} {G : eg_G} {a t s : Nat} {v : evT} {R : Nat → Nat} {Q : Nat → Nat → Prop} (hH : et_H et_TT K G) (k : K a = some t) (ht : t = 35 ∨ t = 48) (hR : ∀ k, k < 65536 → R k < 65536) (hto : ∀ k, k < 65536 → et_pl (eg_at G a) (psN (kyN v s R) 65536 k) = some (.int (Int32.ofNat (R k)))) (hF : soP Q R) : ∃ T : Nat → Nat, (∀ p, p < 65536 → et_pl (eg_at G a) p = some (.int (Int32.ofNat (T p)))) ∧ soP (lxR (fun x => hfN s (cdV v x)) Q) T := by
  have hx : ∀ p, p < 65536 → ∃ y : Nat, y < 65536 ∧ et_pl (eg_at G a) p = some (.int (Int32.ofNat y)) := fun p hp => a65_ex hH k ht hp
  have hc : ∃ T : Nat → Nat, ∀ p, p < 65536 → T p < 65536 ∧ et_pl (eg_at G a) p = some (.int (Int32.ofNat (T p))) := by
    refine ⟨fun p => if h9 : p < 65536 then (hx p h9).choose else 0, fun p hp => ?_⟩
    dsimp only
    rw [dif_pos hp]
    exact (hx p hp).choose_spec
  obtain ⟨T, hT⟩ := hc
  refine ⟨T, fun p hp => (hT p hp).2, so_st (ky := fun x => hfN s (cdV v x)) (fun x => hfN_lt) hF (fun k hk => ?_)⟩
  have hps : psN (kyN v s R) 65536 k < 65536 := ps_lt hk (h := 32768) (fun k _ => kyN_lt)
  have h1 := hT _ hps
  have h2 := hto k hk
  have h3 := Value.int.inj (Option.some.inj (h1.2.symm.trans h2))
  have e9 := (hs_neq (by omega) (by have := hR k hk; omega)).mp h3
  exact e9
/-! the scan over the sorted cards -/
def srP (v : evT) : Nat → Nat → Prop := lxR (fun x => hfN 15 (cdV v x)) (lxR (fun x => hfN 0 (cdV v x)) (fun x y => x < y))
section ASB
variable {v : evT} {T : Nat → Nat} {f k p q x y L : Nat} {ru : Nat → Bool}
theorem srP.le (h : srP v x y) (hw : v.1 ≤ 6) (hx : x < 65536) (hy : y < 65536) : cdV v x ≤ cdV v y := by
  refine hf_le (cdV_30 hw hx) (cdV_30 hw hy) ?_
  rcases h with h | ⟨h1, h2⟩
  · exact .inl h
  · rcases h2 with h2 | ⟨h2, -⟩
    · exact .inr ⟨h1, Nat.le_of_lt h2⟩
    · exact .inr ⟨h1, Nat.le_of_eq h2⟩
theorem srP.lt (h : srP v x y) (e : cdV v x = cdV v y) : x < y := by
  rcases h with h | ⟨-, h2⟩
  · have h : hfN 15 (cdV v x) < hfN 15 (cdV v y) := h
    rw [e] at h
    exact absurd h (Nat.lt_irrefl _)
  · rcases h2 with h2 | ⟨-, h3⟩
    · have h2 : hfN 0 (cdV v x) < hfN 0 (cdV v y) := h2
      rw [e] at h2
      exact absurd h2 (Nat.lt_irrefl _)
    · exact h3
/-- a group's first is at f, all from f to k are of the group -/
def grP (v : evT) (T : Nat → Nat) (f k : Nat) : Prop := f < k ∧ (∀ p, f ≤ p → p < k → cdV v (T p) = cdV v (T f)) ∧ ∀ p, p < f → ¬ cdV v (T p) = cdV v (T f)
theorem grP.is (h : grP v T f k) (hs : soP (srP v) T) (hk : k ≤ 65536) (h1 : f ≤ p) (h2 : p < k) : isF (cdV v) (T f) (T p) := by
  have e := h.2.1 p h1 h2
  have hl := h.1
  have hle : ∀ q, f ≤ q → q < 65536 → cdV v (T q) = cdV v (T f) → T f ≤ T q := fun q hq hq2 e => by
    by_cases eqf : q = f
    · rw [eqf]
      exact Nat.le_refl _
    · exact Nat.le_of_lt (srP.lt (hs.2.2 f q (by omega) hq2) e.symm)
  refine ⟨e.symm, hle p h1 (by omega) e, fun y hy => ?_⟩
  by_cases hy2 : y < 65536
  · obtain ⟨q, hq, rfl⟩ := hs.2.1 y hy2
    by_cases hqf : q < f
    · exact absurd (hy.trans e) (h.2.2 q hqf)
    · exact hle q (by omega) hq (hy.trans e)
  · have := hs.1 f (by omega)
    omega
theorem grP.sm (h : grP v T f k) (e : cdV v (T k) = cdV v (T f)) : grP v T f (k + 1) := ⟨Nat.lt_succ_of_lt h.1, fun p h1 h2 => by
  by_cases ep : p = k
  · rw [ep]
    exact e
  · exact h.2.1 p h1 (by omega), h.2.2⟩
theorem grP.nw (h : grP v T f k) (hs : soP (srP v) T) (hw : v.1 ≤ 6) (hk : k < 65536) (e : ¬ cdV v (T k) = cdV v (T f)) : grP v T k (k + 1) := ⟨Nat.lt_succ_self k, fun p h1 h2 => by
  have ep : p = k := by omega
  rw [ep], fun p hp => by
  have hl := h.1
  by_cases hpf : f ≤ p
  · rw [h.2.1 p hpf hp]
    exact fun q => e q.symm
  · have h1 := srP.le (hs.2.2 p f (by omega) (by omega)) hw (hs.1 p (by omega)) (hs.1 f (by omega))
    have h2 := srP.le (hs.2.2 f k hl hk) hw (hs.1 f (by omega)) (hs.1 k hk)
    have h3 := h.2.2 p (by omega)
    omega⟩
theorem grP_0 : grP v T 0 1 := ⟨Nat.zero_lt_one, fun p _ h2 => by
  have ep : p = 0 := by omega
  rw [ep], fun p hp => absurd hp (Nat.not_lt_zero p)⟩
def blJ (L : Nat) : Int32 := if L = 65536 then (-1) else Int32.ofNat L
/-- what is seen so far -/
def scP (v : evT) (ru : Nat → Bool) (T : Nat → Nat) (k L : Nat) : Prop := blP (cdV v) ru (fun j => ∃ p, p < k ∧ T p = j) L
theorem blP.le {cd : Nat → Nat} {P : Nat → Prop} (h : blP cd ru P L) : L ≤ 65536 := by
  rcases h with h | h
  · exact Nat.le_of_eq h.1
  · exact Nat.le_of_lt h.1
theorem scP.st (h : scP v ru T k L) (hf : isF (cdV v) x (T k)) (hx : x < 65536) : scP v ru T (k + 1) (if x < L ∧ ¬ ru x = ru (T k) then x else L) := (blP.s h hf hx).co (fun j => ⟨fun hj => by
  rcases hj with ⟨p, h1, h2⟩ | hj
  · exact ⟨p, by omega, h2⟩
  · exact ⟨k, Nat.lt_succ_self k, hj.symm⟩, fun hj => by
  obtain ⟨p, h1, h2⟩ := hj
  by_cases ep : p = k
  · rw [ep] at h2
    exact .inr h2.symm
  · exact .inl ⟨p, by omega, h2⟩⟩)
theorem scP.yes (h : scP v ru T k L) (hf : isF (cdV v) x (T k)) (hx : x < 65536) (h1 : x < L) (h2 : ¬ ru x = ru (T k)) : scP v ru T (k + 1) x := by
  have h9 := h.st hf hx
  rw [if_pos ⟨h1, h2⟩] at h9
  exact h9
theorem scP.not (h : scP v ru T k L) (hf : isF (cdV v) x (T k)) (hx : x < 65536) (h1 : ¬ (x < L ∧ ¬ ru x = ru (T k))) : scP v ru T (k + 1) L := by
  have h9 := h.st hf hx
  rw [if_neg h1] at h9
  exact h9
theorem scP_0 (hs : soP (srP v) T) : scP v ru T 1 65536 := by
  have h : scP v ru T 0 65536 := blP_0 (fun j hj => by
    obtain ⟨p, h1, -⟩ := hj
    omega)
  exact h.not (x := T 0) (grP_0.is hs (by decide) (Nat.le_refl 0) (by decide)) (hs.1 0 (by decide)) (fun q => q.2 rfl)
theorem scP.en (h : scP v ru T 65536 L) (hs : soP (srP v) T) : blI (cdV v) ru = blJ L := by
  have h1 : blP (cdV v) ru (fun j => j < 65536) L := blP.co h (fun j => ⟨fun hj => by
    obtain ⟨p, h1, h2⟩ := hj
    rw [← h2]
    exact hs.1 p h1, fun hj => hs.2.1 j hj⟩)
  have e := (blF_p (cd := cdV v) (ru := ru) 65536 (Nat.le_refl _)).u h1
  unfold blI blJ
  rw [e]
theorem bj_v (h : L < 65536) : blJ L = Int32.ofNat L := if_neg (by omega)
theorem bj_m : blJ 65536 = (-1) := if_pos rfl
theorem bj_lt (hL : L ≤ 65536) : blJ L < 0 ↔ L = 65536 := by
  by_cases h : L = 65536
  · rw [h, bj_m]
    exact ⟨fun _ => rfl, fun _ => by decide⟩
  · rw [bj_v (by omega)]
    refine ⟨fun h2 => ?_, fun h2 => absurd h2 h⟩
    have h2 := Int32.lt_iff_toInt_lt.mp h2
    rw [hs_nint (by omega)] at h2
    have h3 : (0 : Int32).toInt = 0 := rfl
    omega
theorem bj_le (hL : L < 65536) (hx : x < 65536) : blJ L ≤ Int32.ofNat x ↔ L ≤ x := by
  rw [bj_v hL]
  refine ⟨fun h => ?_, fun h => ?_⟩
  · have h := Int32.le_iff_toInt_le.mp h
    rw [hs_nint (by omega), hs_nint (by omega)] at h
    omega
  · refine Int32.le_iff_toInt_le.mpr ?_
    rw [hs_nint (by omega), hs_nint (by omega)]
    omega
end ASB
section ASC
variable {K : et_K} {G G0 : eg_G} {d d2 am aw fr tt mn n s m k p f L r rc ec ik kw ot oo : Nat} {v : evT} {R T : Nat → Nat} {x5 x6 : Option Value} {V : Nat → evT} {g : Nat → sp_E → Bool} {ru : Nat → Bool} {fu : sp_E → Bool} {b9 : Nat → Int64}
theorem fn_s435 (hH : et_H et_TT K G) (k_am : K am = some 13) (k_aw : K aw = some 46) (k_fr : K fr = some 35) (k_tt : K tt = some 48) (k_mn : K mn = some 22) (hn : n < 3) (ho : evo v) (hs : s = 0 ∨ s = 15) (hR : ∀ k, k < 65536 → R k < 65536) (m1 : et_pl (eg_at G am) 1 = some (.ref aw)) (m32 : et_pl (eg_at G am) 32 = some (.ref mn)) (hv : evm G aw n v) (hfr : ∀ k, k < 65536 → et_pl (eg_at G fr) k = some (.int (Int32.ofNat (R k)))) (hX : xf (fun b j => (b = mn ∧ j ≤ 32768) ∨ (b = tt ∧ j < 65536)) G0 G) (hmn : ∀ h, h < 32768 → et_pl (eg_at G mn) h = some (.int (Int32.ofNat (ctB (kyN v s R) 65536 h + ctK (kyN v s R) h m)))) (hto : ∀ k, k < m → et_pl (eg_at G tt) (psN (kyN v s R) 65536 k) = some (.int (Int32.ofNat (R k)))) (hm : m ≤ 65536) : et_go none (d + 6) 267 102 [some (.ref am), some (.int (Int32.ofNat n)), some (.ref fr), some (.ref tt), some (.int (Int32.ofNat s)), some (.int (Int32.ofNat m)), x6] [] G 0 0 (xw_Z (fun b j => (b = mn ∧ j ≤ 32768) ∨ (b = tt ∧ j < 65536)) K G0 (fun g9 r9 => r9 = none ∧ ∀ k, k < 65536 → et_pl (eg_at g9 tt) (psN (kyN v s R) 65536 k) = some (.int (Int32.ofNat (R k))))) := by
  induction hq9 : 65536 - m using Nat.strongRecOn generalizing m G x6 with
  | _ q9 ih =>
    have lt_am := (hH.2.2 _ _ k_am).1
    have lt_aw := (hH.2.2 _ _ k_aw).1
    have lt_fr := (hH.2.2 _ _ k_fr).1
    have lt_tt := (hH.2.2 _ _ k_tt).1
    have lt_mn := (hH.2.2 _ _ k_mn).1
    refine hs_iload (i := 5) (p := 104) (by decide +kernel) rfl ?_
    refine hs_kld (v := Value.int (Int32.ofNat 65536)) (p := 106) (by decide +kernel) ?_
    refine hs_br2n (c := .ge) (t := 152) (f := 109) (by decide +kernel) (by omega) (by omega) (fun (c106 : 65536 ≤ m) => ?_) (fun (c106 : ¬ (65536 ≤ m)) => ?_)
    · refine hs_vret (by decide +kernel) ?_
      exact ⟨_, _, rfl, hH, hX, rfl, fun k hk => hto k (by omega)⟩
    · have hRm := hR m (by omega)
      have hκm : kyN v s R m < 32768 := kyN_lt
      have hps : (psN (kyN v s R) 65536 m) < 65536 := ps_lt (h := 32768) (by omega) (fun k _ => kyN_lt)
      refine hs_aload (i := 0) (p := 110) (by decide +kernel) rfl ?_
      refine hs_iload (i := 1) (p := 111) (by decide +kernel) rfl ?_
      refine hs_aload (i := 2) (p := 112) (by decide +kernel) rfl ?_
      refine hs_iload (i := 5) (p := 114) (by decide +kernel) rfl ?_
      refine hf_ald (ins := .iaload) (T := et_TT) (t := 35) (kd := 0) (N := 65536) (p := 115) (by decide +kernel) (fun _ _ _ _ _ _ _ _ _ _ => rfl) rfl rfl rfl hH k_fr (by decide) (hfr m (by omega)) ?_
      refine hs_iload (i := 4) (p := 117) (by decide +kernel) rfl ?_
      refine ht_callv (T := et_TT) (t := 13) (mi := 268) (na := 3) (ci := 11) (lk := 7) (lm := 4) (L0 := eg_en (eg_mL 268) [.ref am, .int (Int32.ofNat n), .int (Int32.ofNat (R m)), .int (Int32.ofNat s)]) (by decide +kernel) rfl hH k_am rfl rfl rfl rfl rfl (by rw [show eg_mL 268 = 4 from by decide +kernel]; first | done | rfl) ?_
      refine (fn_half (x9 := R m) hH k_am k_aw m1 hn ho hv hRm hs (by omega)).mono (fun u hu => xp_cb hu ?_)
      show et_go none _ 267 120 _ [.int (Int32.ofNat (kyN v s R m))] _ _ _ _
      refine hs_istore (i := 6) (p := 122) (by decide +kernel) (Nat.le_of_ble_eq_true rfl) ?_
      refine hs_aload (i := 3) (p := 123) (by decide +kernel) rfl ?_
      refine hs_aload (i := 0) (p := 124) (by decide +kernel) rfl ?_
      refine hf_get (T := et_TT) (t := 13) (ci := 11) (f := 32) (p := 127) (by decide +kernel) rfl hH k_am m32 ?_
      refine hs_iload (i := 6) (p := 129) (by decide +kernel) rfl ?_
      refine hf_ald (ins := .iaload) (T := et_TT) (t := 22) (kd := 0) (N := 32769) (p := 130) (by decide +kernel) (fun _ _ _ _ _ _ _ _ _ _ => rfl) rfl rfl rfl hH k_mn (by decide) (show et_pl (eg_at G mn) (kyN v s R m) = some (.int (Int32.ofNat (psN (kyN v s R) 65536 m))) from hmn _ hκm) ?_
      refine hs_aload (i := 2) (p := 131) (by decide +kernel) rfl ?_
      refine hs_iload (i := 5) (p := 133) (by decide +kernel) rfl ?_
      refine hf_ald (ins := .iaload) (T := et_TT) (t := 35) (kd := 0) (N := 65536) (p := 134) (by decide +kernel) (fun _ _ _ _ _ _ _ _ _ _ => rfl) rfl rfl rfl hH k_fr (by decide) (hfr m (by omega)) ?_
      refine hf_ist (T := et_TT) (t := 48) (N := 65536) (p := 135) (by decide +kernel) rfl rfl (by decide) hH k_tt (by omega) (by decide) (fun q9 hs9 _ _ => by rw [List.mem_singleton] at hs9; subst hs9; exact hi_nv (by omega) (by omega)) (fun G134 hH x134 e134 => ?_)
      have hv : evm G134 aw n v := hv.mv ho (fun j _ => x134.2 aw _ lt_aw (fun h => hi_ne k_aw k_tt (by decide) h.1))
      have hX := hX.tr x134 (fun b j _ h => .inr ⟨h.1, by have h := h.2; omega⟩)
      have hfr : ∀ k, k < 65536 → et_pl (eg_at G134 fr) k = some (.int (Int32.ofNat (R k))) := fun k hk => (x134.2 fr k lt_fr (fun h => hi_ne k_fr k_tt (by decide) h.1)).trans (hfr k hk)
      have hmn : ∀ h, h < 32768 → et_pl (eg_at G134 mn) h = some (.int (Int32.ofNat (ctB (kyN v s R) 65536 h + ctK (kyN v s R) h m))) := fun h hh => (x134.2 mn h lt_mn (fun q => hi_ne k_mn k_tt (by decide) q.1)).trans (hmn h hh)
      have hto2 : ∀ k, k < m + 1 → et_pl (eg_at G134 tt) (psN (kyN v s R) 65536 k) = some (.int (Int32.ofNat (R k))) := fun k hk => by
        by_cases ek : k = m
        · rw [ek]; exact e134
        · exact (x134.2 tt _ lt_tt (fun h => ek (ps_in (by omega) (by omega) h.2))).trans (hto k (by omega))
      have m1 := (x134.2 am 1 lt_am (fun h => (hi_ne k_am k_tt (by decide)) h.1)).trans m1
      have m32 := (x134.2 am 32 lt_am (fun h => (hi_ne k_am k_tt (by decide)) h.1)).trans m32
      have lt_am := Nat.lt_of_lt_of_le lt_am x134.1
      have lt_aw := Nat.lt_of_lt_of_le lt_aw x134.1
      have lt_fr := Nat.lt_of_lt_of_le lt_fr x134.1
      have lt_tt := Nat.lt_of_lt_of_le lt_tt x134.1
      have lt_mn := Nat.lt_of_lt_of_le lt_mn x134.1
      refine hs_aload (i := 0) (p := 136) (by decide +kernel) rfl ?_
      refine hf_get (T := et_TT) (t := 13) (ci := 11) (f := 32) (p := 139) (by decide +kernel) rfl hH k_am m32 ?_
      refine hs_iload (i := 6) (p := 141) (by decide +kernel) rfl ?_
      refine hs_dup2 (p := 142) (by decide +kernel) ?_
      refine hf_ald (ins := .iaload) (T := et_TT) (t := 22) (kd := 0) (N := 32769) (p := 143) (by decide +kernel) (fun _ _ _ _ _ _ _ _ _ _ => rfl) rfl rfl rfl hH k_mn (by decide) (show et_pl (eg_at G134 mn) (kyN v s R m) = some (.int (Int32.ofNat (psN (kyN v s R) 65536 m))) from hmn _ hκm) ?_
      refine hs_k (x := Int32.ofNat 1) (p := 144) (by decide +kernel) ?_
      refine hs_iaddn (p := 145) (by decide +kernel) ?_
      refine hf_ist (T := et_TT) (t := 22) (N := 32769) (p := 146) (by decide +kernel) rfl rfl (by decide) hH k_mn (by omega) (by decide) (fun s hs => absurd hs List.not_mem_nil) (fun G145 hH x145 e145 => ?_)
      have hv : evm G145 aw n v := hv.mv ho (fun j _ => x145.2 aw _ lt_aw (fun h => hi_ne k_aw k_mn (by decide) h.1))
      have hX := hX.tr x145 (fun b j _ h => .inl ⟨h.1, by have h := h.2; omega⟩)
      have hfr : ∀ k, k < 65536 → et_pl (eg_at G145 fr) k = some (.int (Int32.ofNat (R k))) := fun k hk => (x145.2 fr k lt_fr (fun h => hi_ne k_fr k_mn (by decide) h.1)).trans (hfr k hk)
      have hto2 : ∀ k, k < m + 1 → et_pl (eg_at G145 tt) (psN (kyN v s R) 65536 k) = some (.int (Int32.ofNat (R k))) := fun k hk => (x145.2 tt _ lt_tt (fun h => hi_ne k_tt k_mn (by decide) h.1)).trans (hto2 k hk)
      have hmn2 : ∀ h, h < 32768 → et_pl (eg_at G145 mn) h = some (.int (Int32.ofNat (ctB (kyN v s R) 65536 h + ctK (kyN v s R) h (m + 1)))) := fun h hh => by
        by_cases eh : h = kyN v s R m
        · rw [eh, ps_s]; exact e145
        · rw [ctK_z (fun q => eh q.symm)]; exact (x145.2 mn h lt_mn (fun q => eh q.2)).trans (hmn h hh)
      have m1 := (x145.2 am 1 lt_am (fun h => (hi_ne k_am k_mn (by decide)) h.1)).trans m1
      have m32 := (x145.2 am 32 lt_am (fun h => (hi_ne k_am k_mn (by decide)) h.1)).trans m32
      have e134 := (x145.2 tt (psN (kyN v s R) 65536 m) lt_tt (fun h => (hi_ne k_tt k_mn (by decide)) h.1)).trans e134
      have lt_am := Nat.lt_of_lt_of_le lt_am x145.1
      have lt_aw := Nat.lt_of_lt_of_le lt_aw x145.1
      have lt_fr := Nat.lt_of_lt_of_le lt_fr x145.1
      have lt_tt := Nat.lt_of_lt_of_le lt_tt x145.1
      have lt_mn := Nat.lt_of_lt_of_le lt_mn x145.1
      refine hs_iinc1 (i := 5) (p := 149) (by decide +kernel) rfl (Nat.le_of_ble_eq_true rfl) ?_
      refine hs_goto (p := 102) (by decide +kernel) ?_
      exact ih (65536 - (m + 1)) (by omega) hH m1 m32 hv hfr hX hmn2 hto2 (by omega) rfl
theorem fn_s335 (hH : et_H et_TT K G) (k_am : K am = some 13) (k_aw : K aw = some 46) (k_fr : K fr = some 35) (k_tt : K tt = some 48) (k_mn : K mn = some 22) (hn : n < 3) (ho : evo v) (hs : s = 0 ∨ s = 15) (hR : ∀ k, k < 65536 → R k < 65536) (m1 : et_pl (eg_at G am) 1 = some (.ref aw)) (m32 : et_pl (eg_at G am) 32 = some (.ref mn)) (hv : evm G aw n v) (hfr : ∀ k, k < 65536 → et_pl (eg_at G fr) k = some (.int (Int32.ofNat (R k)))) (hX : xf (fun b j => (b = mn ∧ j ≤ 32768) ∨ (b = tt ∧ j < 65536)) G0 G) (hA : ∀ h, h ≤ m → et_pl (eg_at G mn) h = some (.int (Int32.ofNat (ctB (kyN v s R) 65536 h)))) (hB : ∀ h, m ≤ h → h < 32768 → et_pl (eg_at G mn) (h + 1) = some (.int (Int32.ofNat (ctK (kyN v s R) h 65536)))) (hm : m ≤ 32768) : et_go none (d + 6) 267 66 [some (.ref am), some (.int (Int32.ofNat n)), some (.ref fr), some (.ref tt), some (.int (Int32.ofNat s)), some (.int (Int32.ofNat m)), x6] [] G 0 0 (xw_Z (fun b j => (b = mn ∧ j ≤ 32768) ∨ (b = tt ∧ j < 65536)) K G0 (fun g9 r9 => r9 = none ∧ ∀ k, k < 65536 → et_pl (eg_at g9 tt) (psN (kyN v s R) 65536 k) = some (.int (Int32.ofNat (R k))))) := by
  induction hq9 : 32768 - m using Nat.strongRecOn generalizing m G x6 with
  | _ q9 ih =>
    have lt_am := (hH.2.2 _ _ k_am).1
    have lt_aw := (hH.2.2 _ _ k_aw).1
    have lt_fr := (hH.2.2 _ _ k_fr).1
    have lt_tt := (hH.2.2 _ _ k_tt).1
    have lt_mn := (hH.2.2 _ _ k_mn).1
    refine hs_iload (i := 5) (p := 68) (by decide +kernel) rfl ?_
    refine hs_kld (v := Value.int (Int32.ofNat 32768)) (p := 71) (by decide +kernel) ?_
    refine hs_br2n (c := .ge) (t := 99) (f := 74) (by decide +kernel) (by omega) (by omega) (fun (c71 : 32768 ≤ m) => ?_) (fun (c71 : ¬ (32768 ≤ m)) => ?_)
    · refine hs_k (x := Int32.ofNat 0) (p := 100) (by decide +kernel) ?_
      refine hs_istore (i := 5) (p := 102) (by decide +kernel) (Nat.le_of_ble_eq_true rfl) ?_
      have hA9 : ∀ h, h < 32768 → et_pl (eg_at G mn) h = some (.int (Int32.ofNat (ctB (kyN v s R) 65536 h + ctK (kyN v s R) h 0))) := fun h hh => hA h (by omega)
      exact fn_s435 (m := 0) hH k_am k_aw k_fr k_tt k_mn hn ho hs hR m1 m32 hv hfr hX hA9 (fun k hk => absurd hk (Nat.not_lt_zero k)) (Nat.zero_le _)
    · refine hs_aload (i := 0) (p := 75) (by decide +kernel) rfl ?_
      refine hf_get (T := et_TT) (t := 13) (ci := 11) (f := 32) (p := 78) (by decide +kernel) rfl hH k_am m32 ?_
      refine hs_iload (i := 5) (p := 80) (by decide +kernel) rfl ?_
      refine hs_k (x := Int32.ofNat 1) (p := 81) (by decide +kernel) ?_
      refine hs_iaddn (p := 82) (by decide +kernel) ?_
      refine hs_dup2 (p := 83) (by decide +kernel) ?_
      refine hf_ald (ins := .iaload) (T := et_TT) (t := 22) (kd := 0) (N := 32769) (p := 84) (by decide +kernel) (fun _ _ _ _ _ _ _ _ _ _ => rfl) rfl rfl rfl hH k_mn (by decide) (hB m (Nat.le_refl m) (by omega)) ?_
      refine hs_aload (i := 0) (p := 85) (by decide +kernel) rfl ?_
      refine hf_get (T := et_TT) (t := 13) (ci := 11) (f := 32) (p := 88) (by decide +kernel) rfl hH k_am m32 ?_
      refine hs_iload (i := 5) (p := 90) (by decide +kernel) rfl ?_
      refine hf_ald (ins := .iaload) (T := et_TT) (t := 22) (kd := 0) (N := 32769) (p := 91) (by decide +kernel) (fun _ _ _ _ _ _ _ _ _ _ => rfl) rfl rfl rfl hH k_mn (by decide) (hA m (Nat.le_refl m)) ?_
      refine hs_iaddn (p := 92) (by decide +kernel) ?_
      refine hf_ist (T := et_TT) (t := 22) (N := 32769) (p := 93) (by decide +kernel) rfl rfl (by decide) hH k_mn (by omega) (by decide) (fun s hs => absurd hs List.not_mem_nil) (fun G92 hH x92 e92 => ?_)
      have hv : evm G92 aw n v := hv.mv ho (fun j _ => x92.2 aw _ lt_aw (fun h => hi_ne k_aw k_mn (by decide) h.1))
      have hX := hX.tr x92 (fun b j _ h => .inl ⟨h.1, by have h := h.2; omega⟩)
      have hfr : ∀ k, k < 65536 → et_pl (eg_at G92 fr) k = some (.int (Int32.ofNat (R k))) := fun k hk => (x92.2 fr k lt_fr (fun h => hi_ne k_fr k_mn (by decide) h.1)).trans (hfr k hk)
      have hA2 : ∀ h, h ≤ m + 1 → et_pl (eg_at G92 mn) h = some (.int (Int32.ofNat (ctB (kyN v s R) 65536 h))) := fun h hh => by
        by_cases eh : h = m + 1
        · rw [eh, ctB_1]; exact e92
        · exact (x92.2 mn h lt_mn (fun q => eh q.2)).trans (hA h (by omega))
      have hB2 : ∀ h, m + 1 ≤ h → h < 32768 → et_pl (eg_at G92 mn) (h + 1) = some (.int (Int32.ofNat (ctK (kyN v s R) h 65536))) := fun h h1 hh => (x92.2 mn _ lt_mn (fun q => by have q := q.2; omega)).trans (hB h (by omega) hh)
      have m1 := (x92.2 am 1 lt_am (fun h => (hi_ne k_am k_mn (by decide)) h.1)).trans m1
      have m32 := (x92.2 am 32 lt_am (fun h => (hi_ne k_am k_mn (by decide)) h.1)).trans m32
      have lt_am := Nat.lt_of_lt_of_le lt_am x92.1
      have lt_aw := Nat.lt_of_lt_of_le lt_aw x92.1
      have lt_fr := Nat.lt_of_lt_of_le lt_fr x92.1
      have lt_tt := Nat.lt_of_lt_of_le lt_tt x92.1
      have lt_mn := Nat.lt_of_lt_of_le lt_mn x92.1
      refine hs_iinc1 (i := 5) (p := 96) (by decide +kernel) rfl (Nat.le_of_ble_eq_true rfl) ?_
      refine hs_goto (p := 66) (by decide +kernel) ?_
      exact ih (32768 - (m + 1)) (by omega) hH m1 m32 hv hfr hX hA2 hB2 (by omega) rfl
theorem fn_s235 (hH : et_H et_TT K G) (k_am : K am = some 13) (k_aw : K aw = some 46) (k_fr : K fr = some 35) (k_tt : K tt = some 48) (k_mn : K mn = some 22) (hn : n < 3) (ho : evo v) (hs : s = 0 ∨ s = 15) (hR : ∀ k, k < 65536 → R k < 65536) (m1 : et_pl (eg_at G am) 1 = some (.ref aw)) (m32 : et_pl (eg_at G am) 32 = some (.ref mn)) (hv : evm G aw n v) (hfr : ∀ k, k < 65536 → et_pl (eg_at G fr) k = some (.int (Int32.ofNat (R k)))) (hX : xf (fun b j => (b = mn ∧ j ≤ 32768) ∨ (b = tt ∧ j < 65536)) G0 G) (hz : et_pl (eg_at G mn) 0 = some (.int (Int32.ofNat 0))) (hB : ∀ h, h < 32768 → et_pl (eg_at G mn) (h + 1) = some (.int (Int32.ofNat (ctK (kyN v s R) h m)))) (hm : m ≤ 65536) : et_go none (d + 6) 267 28 [some (.ref am), some (.int (Int32.ofNat n)), some (.ref fr), some (.ref tt), some (.int (Int32.ofNat s)), some (.int (Int32.ofNat m)), x6] [] G 0 0 (xw_Z (fun b j => (b = mn ∧ j ≤ 32768) ∨ (b = tt ∧ j < 65536)) K G0 (fun g9 r9 => r9 = none ∧ ∀ k, k < 65536 → et_pl (eg_at g9 tt) (psN (kyN v s R) 65536 k) = some (.int (Int32.ofNat (R k))))) := by
  induction hq9 : 65536 - m using Nat.strongRecOn generalizing m G x6 with
  | _ q9 ih =>
    have lt_am := (hH.2.2 _ _ k_am).1
    have lt_aw := (hH.2.2 _ _ k_aw).1
    have lt_fr := (hH.2.2 _ _ k_fr).1
    have lt_tt := (hH.2.2 _ _ k_tt).1
    have lt_mn := (hH.2.2 _ _ k_mn).1
    refine hs_iload (i := 5) (p := 30) (by decide +kernel) rfl ?_
    refine hs_kld (v := Value.int (Int32.ofNat 65536)) (p := 32) (by decide +kernel) ?_
    refine hs_br2n (c := .ge) (t := 63) (f := 35) (by decide +kernel) (by omega) (by omega) (fun (c32 : 65536 ≤ m) => ?_) (fun (c32 : ¬ (65536 ≤ m)) => ?_)
    · refine hs_k (x := Int32.ofNat 0) (p := 64) (by decide +kernel) ?_
      refine hs_istore (i := 5) (p := 66) (by decide +kernel) (Nat.le_of_ble_eq_true rfl) ?_
      obtain rfl : m = 65536 := by omega
      exact fn_s335 (m := 0) hH k_am k_aw k_fr k_tt k_mn hn ho hs hR m1 m32 hv hfr hX (fun h hh => by rw [show h = 0 by omega]; exact hz) (fun h _ hh => hB h hh) (Nat.zero_le _)
    · have hRm := hR m (by omega)
      have hκm : kyN v s R m < 32768 := kyN_lt
      have hps : (psN (kyN v s R) 65536 m) < 65536 := ps_lt (h := 32768) (by omega) (fun k _ => kyN_lt)
      refine hs_aload (i := 0) (p := 36) (by decide +kernel) rfl ?_
      refine hf_get (T := et_TT) (t := 13) (ci := 11) (f := 32) (p := 39) (by decide +kernel) rfl hH k_am m32 ?_
      refine hs_aload (i := 0) (p := 40) (by decide +kernel) rfl ?_
      refine hs_iload (i := 1) (p := 41) (by decide +kernel) rfl ?_
      refine hs_aload (i := 2) (p := 42) (by decide +kernel) rfl ?_
      refine hs_iload (i := 5) (p := 44) (by decide +kernel) rfl ?_
      refine hf_ald (ins := .iaload) (T := et_TT) (t := 35) (kd := 0) (N := 65536) (p := 45) (by decide +kernel) (fun _ _ _ _ _ _ _ _ _ _ => rfl) rfl rfl rfl hH k_fr (by decide) (hfr m (by omega)) ?_
      refine hs_iload (i := 4) (p := 47) (by decide +kernel) rfl ?_
      refine ht_callv (T := et_TT) (t := 13) (mi := 268) (na := 3) (ci := 11) (lk := 7) (lm := 4) (L0 := eg_en (eg_mL 268) [.ref am, .int (Int32.ofNat n), .int (Int32.ofNat (R m)), .int (Int32.ofNat s)]) (by decide +kernel) rfl hH k_am rfl rfl rfl rfl rfl (by rw [show eg_mL 268 = 4 from by decide +kernel]; first | done | rfl) ?_
      refine (fn_half (x9 := R m) hH k_am k_aw m1 hn ho hv hRm hs (by omega)).mono (fun u hu => xp_cb hu ?_)
      show et_go none _ 267 50 _ [.int (Int32.ofNat (kyN v s R m)), .ref mn] _ _ _ _
      refine hs_k (x := Int32.ofNat 1) (p := 51) (by decide +kernel) ?_
      refine hs_iaddn (p := 52) (by decide +kernel) ?_
      refine hs_dup2 (p := 53) (by decide +kernel) ?_
      refine hf_ald (ins := .iaload) (T := et_TT) (t := 22) (kd := 0) (N := 32769) (p := 54) (by decide +kernel) (fun _ _ _ _ _ _ _ _ _ _ => rfl) rfl rfl rfl hH k_mn (by decide) (hB _ hκm) ?_
      refine hs_k (x := Int32.ofNat 1) (p := 55) (by decide +kernel) ?_
      refine hs_iaddn (p := 56) (by decide +kernel) ?_
      refine hf_ist (T := et_TT) (t := 22) (N := 32769) (p := 57) (by decide +kernel) rfl rfl (by decide) hH k_mn (by omega) (by decide) (fun s hs => absurd hs List.not_mem_nil) (fun G56 hH x56 e56 => ?_)
      have hv : evm G56 aw n v := hv.mv ho (fun j _ => x56.2 aw _ lt_aw (fun h => hi_ne k_aw k_mn (by decide) h.1))
      have hX := hX.tr x56 (fun b j _ h => .inl ⟨h.1, by have h := h.2; omega⟩)
      have hfr : ∀ k, k < 65536 → et_pl (eg_at G56 fr) k = some (.int (Int32.ofNat (R k))) := fun k hk => (x56.2 fr k lt_fr (fun h => hi_ne k_fr k_mn (by decide) h.1)).trans (hfr k hk)
      have hz2 : et_pl (eg_at G56 mn) 0 = some (.int (Int32.ofNat 0)) := (x56.2 mn 0 lt_mn (fun q => by have q := q.2; omega)).trans hz
      have hB2 : ∀ h, h < 32768 → et_pl (eg_at G56 mn) (h + 1) = some (.int (Int32.ofNat (ctK (kyN v s R) h (m + 1)))) := fun h hh => by
        by_cases eh : h = kyN v s R m
        · rw [eh, ctK_y rfl]; exact e56
        · rw [ctK_z (fun q => eh q.symm)]; exact (x56.2 mn _ lt_mn (fun q => eh (by have q := q.2; omega))).trans (hB h hh)
      have m1 := (x56.2 am 1 lt_am (fun h => (hi_ne k_am k_mn (by decide)) h.1)).trans m1
      have m32 := (x56.2 am 32 lt_am (fun h => (hi_ne k_am k_mn (by decide)) h.1)).trans m32
      have lt_am := Nat.lt_of_lt_of_le lt_am x56.1
      have lt_aw := Nat.lt_of_lt_of_le lt_aw x56.1
      have lt_fr := Nat.lt_of_lt_of_le lt_fr x56.1
      have lt_tt := Nat.lt_of_lt_of_le lt_tt x56.1
      have lt_mn := Nat.lt_of_lt_of_le lt_mn x56.1
      refine hs_iinc1 (i := 5) (p := 60) (by decide +kernel) rfl (Nat.le_of_ble_eq_true rfl) ?_
      refine hs_goto (p := 28) (by decide +kernel) ?_
      exact ih (65536 - (m + 1)) (by omega) hH m1 m32 hv hfr hX hz2 hB2 (by omega) rfl
theorem fn_s135 (hH : et_H et_TT K G) (k_am : K am = some 13) (k_aw : K aw = some 46) (k_fr : K fr = some 35) (k_tt : K tt = some 48) (k_mn : K mn = some 22) (hn : n < 3) (ho : evo v) (hs : s = 0 ∨ s = 15) (hR : ∀ k, k < 65536 → R k < 65536) (m1 : et_pl (eg_at G am) 1 = some (.ref aw)) (m32 : et_pl (eg_at G am) 32 = some (.ref mn)) (hv : evm G aw n v) (hfr : ∀ k, k < 65536 → et_pl (eg_at G fr) k = some (.int (Int32.ofNat (R k)))) (hX : xf (fun b j => (b = mn ∧ j ≤ 32768) ∨ (b = tt ∧ j < 65536)) G0 G) (hz : ∀ h, h < m → et_pl (eg_at G mn) h = some (.int (Int32.ofNat 0))) (hm : m ≤ 32769) : et_go none (d + 6) 267 3 [some (.ref am), some (.int (Int32.ofNat n)), some (.ref fr), some (.ref tt), some (.int (Int32.ofNat s)), some (.int (Int32.ofNat m)), x6] [] G 0 0 (xw_Z (fun b j => (b = mn ∧ j ≤ 32768) ∨ (b = tt ∧ j < 65536)) K G0 (fun g9 r9 => r9 = none ∧ ∀ k, k < 65536 → et_pl (eg_at g9 tt) (psN (kyN v s R) 65536 k) = some (.int (Int32.ofNat (R k))))) := by
  induction hq9 : 32769 - m using Nat.strongRecOn generalizing m G x6 with
  | _ q9 ih =>
    have lt_am := (hH.2.2 _ _ k_am).1
    have lt_aw := (hH.2.2 _ _ k_aw).1
    have lt_fr := (hH.2.2 _ _ k_fr).1
    have lt_tt := (hH.2.2 _ _ k_tt).1
    have lt_mn := (hH.2.2 _ _ k_mn).1
    refine hs_iload (i := 5) (p := 5) (by decide +kernel) rfl ?_
    refine hs_kld (v := Value.int (Int32.ofNat 32768)) (p := 8) (by decide +kernel) ?_
    refine hs_br2n (c := .gt) (t := 25) (f := 11) (by decide +kernel) (by omega) (by omega) (fun (c8 : 32768 < m) => ?_) (fun (c8 : ¬ (32768 < m)) => ?_)
    · refine hs_k (x := Int32.ofNat 0) (p := 26) (by decide +kernel) ?_
      refine hs_istore (i := 5) (p := 28) (by decide +kernel) (Nat.le_of_ble_eq_true rfl) ?_
      exact fn_s235 (m := 0) hH k_am k_aw k_fr k_tt k_mn hn ho hs hR m1 m32 hv hfr hX (hz 0 (by omega)) (fun h hh => hz _ (by omega)) (Nat.zero_le _)
    · refine hs_aload (i := 0) (p := 12) (by decide +kernel) rfl ?_
      refine hf_get (T := et_TT) (t := 13) (ci := 11) (f := 32) (p := 15) (by decide +kernel) rfl hH k_am m32 ?_
      refine hs_iload (i := 5) (p := 17) (by decide +kernel) rfl ?_
      refine hs_k (x := Int32.ofNat 0) (p := 18) (by decide +kernel) ?_
      refine hf_ist (T := et_TT) (t := 22) (N := 32769) (p := 19) (by decide +kernel) rfl rfl (by decide) hH k_mn (by omega) (by decide) (fun s hs => absurd hs List.not_mem_nil) (fun G18 hH x18 e18 => ?_)
      have hv : evm G18 aw n v := hv.mv ho (fun j _ => x18.2 aw _ lt_aw (fun h => hi_ne k_aw k_mn (by decide) h.1))
      have hX := hX.tr x18 (fun b j _ h => .inl ⟨h.1, by have h := h.2; omega⟩)
      have hfr : ∀ k, k < 65536 → et_pl (eg_at G18 fr) k = some (.int (Int32.ofNat (R k))) := fun k hk => (x18.2 fr k lt_fr (fun h => hi_ne k_fr k_mn (by decide) h.1)).trans (hfr k hk)
      have hz2 : ∀ h, h < m + 1 → et_pl (eg_at G18 mn) h = some (.int (Int32.ofNat 0)) := fun h hh => by
        by_cases eh : h = m
        · rw [eh]; exact e18
        · exact (x18.2 mn _ lt_mn (fun q => eh q.2)).trans (hz h (by omega))
      have m1 := (x18.2 am 1 lt_am (fun h => (hi_ne k_am k_mn (by decide)) h.1)).trans m1
      have m32 := (x18.2 am 32 lt_am (fun h => (hi_ne k_am k_mn (by decide)) h.1)).trans m32
      have lt_am := Nat.lt_of_lt_of_le lt_am x18.1
      have lt_aw := Nat.lt_of_lt_of_le lt_aw x18.1
      have lt_fr := Nat.lt_of_lt_of_le lt_fr x18.1
      have lt_tt := Nat.lt_of_lt_of_le lt_tt x18.1
      have lt_mn := Nat.lt_of_lt_of_le lt_mn x18.1
      refine hs_iinc1 (i := 5) (p := 22) (by decide +kernel) rfl (Nat.le_of_ble_eq_true rfl) ?_
      refine hs_goto (p := 3) (by decide +kernel) ?_
      exact ih (32769 - (m + 1)) (by omega) hH m1 m32 hv hfr hX hz2 (by omega) rfl
theorem fn_so35 (hH : et_H et_TT K G) (k_am : K am = some 13) (k_aw : K aw = some 46) (k_fr : K fr = some 35) (k_tt : K tt = some 48) (k_mn : K mn = some 22) (hn : n < 3) (ho : evo v) (hs : s = 0 ∨ s = 15) (hR : ∀ k, k < 65536 → R k < 65536) (m1 : et_pl (eg_at G am) 1 = some (.ref aw)) (m32 : et_pl (eg_at G am) 32 = some (.ref mn)) (hv : evm G aw n v) (hfr : ∀ k, k < 65536 → et_pl (eg_at G fr) k = some (.int (Int32.ofNat (R k)))) (hd : 6 ≤ d2) : et_go none d2 267 0 (eg_en (eg_mL 267) [.ref am, .int (Int32.ofNat n), .ref fr, .ref tt, .int (Int32.ofNat s)]) [] G 0 0 (xw_Z (fun b j => (b = mn ∧ j ≤ 32768) ∨ (b = tt ∧ j < 65536)) K G (fun g9 r9 => r9 = none ∧ ∀ k, k < 65536 → et_pl (eg_at g9 tt) (psN (kyN v s R) 65536 k) = some (.int (Int32.ofNat (R k))))) := by
  obtain ⟨d, rfl⟩ : ∃ d, d2 = d + 6 := ⟨d2 - 6, by omega⟩
  rw [show eg_mL 267 = 7 from by decide +kernel]
  show et_go none (d + 6) 267 0 [some (.ref am), some (.int (Int32.ofNat n)), some (.ref fr), some (.ref tt), some (.int (Int32.ofNat s)), none, none] [] G 0 0 _
  have lt_am := (hH.2.2 _ _ k_am).1
  have lt_aw := (hH.2.2 _ _ k_aw).1
  have lt_fr := (hH.2.2 _ _ k_fr).1
  have lt_tt := (hH.2.2 _ _ k_tt).1
  have lt_mn := (hH.2.2 _ _ k_mn).1
  refine hs_k (x := Int32.ofNat 0) (p := 1) (by decide +kernel) ?_
  refine hs_istore (i := 5) (p := 3) (by decide +kernel) (Nat.le_of_ble_eq_true rfl) ?_
  exact fn_s135 (G0 := G) (m := 0) hH k_am k_aw k_fr k_tt k_mn hn ho hs hR m1 m32 hv hfr xf.rf (fun h hh => absurd hh (Nat.not_lt_zero h)) (Nat.zero_le _)
theorem fn_s448 (hH : et_H et_TT K G) (k_am : K am = some 13) (k_aw : K aw = some 46) (k_fr : K fr = some 48) (k_tt : K tt = some 35) (k_mn : K mn = some 22) (hn : n < 3) (ho : evo v) (hs : s = 0 ∨ s = 15) (hR : ∀ k, k < 65536 → R k < 65536) (m1 : et_pl (eg_at G am) 1 = some (.ref aw)) (m32 : et_pl (eg_at G am) 32 = some (.ref mn)) (hv : evm G aw n v) (hfr : ∀ k, k < 65536 → et_pl (eg_at G fr) k = some (.int (Int32.ofNat (R k)))) (hX : xf (fun b j => (b = mn ∧ j ≤ 32768) ∨ (b = tt ∧ j < 65536)) G0 G) (hmn : ∀ h, h < 32768 → et_pl (eg_at G mn) h = some (.int (Int32.ofNat (ctB (kyN v s R) 65536 h + ctK (kyN v s R) h m)))) (hto : ∀ k, k < m → et_pl (eg_at G tt) (psN (kyN v s R) 65536 k) = some (.int (Int32.ofNat (R k)))) (hm : m ≤ 65536) : et_go none (d + 6) 267 102 [some (.ref am), some (.int (Int32.ofNat n)), some (.ref fr), some (.ref tt), some (.int (Int32.ofNat s)), some (.int (Int32.ofNat m)), x6] [] G 0 0 (xw_Z (fun b j => (b = mn ∧ j ≤ 32768) ∨ (b = tt ∧ j < 65536)) K G0 (fun g9 r9 => r9 = none ∧ ∀ k, k < 65536 → et_pl (eg_at g9 tt) (psN (kyN v s R) 65536 k) = some (.int (Int32.ofNat (R k))))) := by
  induction hq9 : 65536 - m using Nat.strongRecOn generalizing m G x6 with
  | _ q9 ih =>
    have lt_am := (hH.2.2 _ _ k_am).1
    have lt_aw := (hH.2.2 _ _ k_aw).1
    have lt_fr := (hH.2.2 _ _ k_fr).1
    have lt_tt := (hH.2.2 _ _ k_tt).1
    have lt_mn := (hH.2.2 _ _ k_mn).1
    refine hs_iload (i := 5) (p := 104) (by decide +kernel) rfl ?_
    refine hs_kld (v := Value.int (Int32.ofNat 65536)) (p := 106) (by decide +kernel) ?_
    refine hs_br2n (c := .ge) (t := 152) (f := 109) (by decide +kernel) (by omega) (by omega) (fun (c106 : 65536 ≤ m) => ?_) (fun (c106 : ¬ (65536 ≤ m)) => ?_)
    · refine hs_vret (by decide +kernel) ?_
      exact ⟨_, _, rfl, hH, hX, rfl, fun k hk => hto k (by omega)⟩
    · have hRm := hR m (by omega)
      have hκm : kyN v s R m < 32768 := kyN_lt
      have hps : (psN (kyN v s R) 65536 m) < 65536 := ps_lt (h := 32768) (by omega) (fun k _ => kyN_lt)
      refine hs_aload (i := 0) (p := 110) (by decide +kernel) rfl ?_
      refine hs_iload (i := 1) (p := 111) (by decide +kernel) rfl ?_
      refine hs_aload (i := 2) (p := 112) (by decide +kernel) rfl ?_
      refine hs_iload (i := 5) (p := 114) (by decide +kernel) rfl ?_
      refine hf_ald (ins := .iaload) (T := et_TT) (t := 48) (kd := 0) (N := 65536) (p := 115) (by decide +kernel) (fun _ _ _ _ _ _ _ _ _ _ => rfl) rfl rfl rfl hH k_fr (by decide) (hfr m (by omega)) ?_
      refine hs_iload (i := 4) (p := 117) (by decide +kernel) rfl ?_
      refine ht_callv (T := et_TT) (t := 13) (mi := 268) (na := 3) (ci := 11) (lk := 7) (lm := 4) (L0 := eg_en (eg_mL 268) [.ref am, .int (Int32.ofNat n), .int (Int32.ofNat (R m)), .int (Int32.ofNat s)]) (by decide +kernel) rfl hH k_am rfl rfl rfl rfl rfl (by rw [show eg_mL 268 = 4 from by decide +kernel]; first | done | rfl) ?_
      refine (fn_half (x9 := R m) hH k_am k_aw m1 hn ho hv hRm hs (by omega)).mono (fun u hu => xp_cb hu ?_)
      show et_go none _ 267 120 _ [.int (Int32.ofNat (kyN v s R m))] _ _ _ _
      refine hs_istore (i := 6) (p := 122) (by decide +kernel) (Nat.le_of_ble_eq_true rfl) ?_
      refine hs_aload (i := 3) (p := 123) (by decide +kernel) rfl ?_
      refine hs_aload (i := 0) (p := 124) (by decide +kernel) rfl ?_
      refine hf_get (T := et_TT) (t := 13) (ci := 11) (f := 32) (p := 127) (by decide +kernel) rfl hH k_am m32 ?_
      refine hs_iload (i := 6) (p := 129) (by decide +kernel) rfl ?_
      refine hf_ald (ins := .iaload) (T := et_TT) (t := 22) (kd := 0) (N := 32769) (p := 130) (by decide +kernel) (fun _ _ _ _ _ _ _ _ _ _ => rfl) rfl rfl rfl hH k_mn (by decide) (show et_pl (eg_at G mn) (kyN v s R m) = some (.int (Int32.ofNat (psN (kyN v s R) 65536 m))) from hmn _ hκm) ?_
      refine hs_aload (i := 2) (p := 131) (by decide +kernel) rfl ?_
      refine hs_iload (i := 5) (p := 133) (by decide +kernel) rfl ?_
      refine hf_ald (ins := .iaload) (T := et_TT) (t := 48) (kd := 0) (N := 65536) (p := 134) (by decide +kernel) (fun _ _ _ _ _ _ _ _ _ _ => rfl) rfl rfl rfl hH k_fr (by decide) (hfr m (by omega)) ?_
      refine hf_ist (T := et_TT) (t := 35) (N := 65536) (p := 135) (by decide +kernel) rfl rfl (by decide) hH k_tt (by omega) (by decide) (fun q9 hs9 _ _ => by rw [List.mem_singleton] at hs9; subst hs9; exact hi_nv (by omega) (by omega)) (fun G134 hH x134 e134 => ?_)
      have hv : evm G134 aw n v := hv.mv ho (fun j _ => x134.2 aw _ lt_aw (fun h => hi_ne k_aw k_tt (by decide) h.1))
      have hX := hX.tr x134 (fun b j _ h => .inr ⟨h.1, by have h := h.2; omega⟩)
      have hfr : ∀ k, k < 65536 → et_pl (eg_at G134 fr) k = some (.int (Int32.ofNat (R k))) := fun k hk => (x134.2 fr k lt_fr (fun h => hi_ne k_fr k_tt (by decide) h.1)).trans (hfr k hk)
      have hmn : ∀ h, h < 32768 → et_pl (eg_at G134 mn) h = some (.int (Int32.ofNat (ctB (kyN v s R) 65536 h + ctK (kyN v s R) h m))) := fun h hh => (x134.2 mn h lt_mn (fun q => hi_ne k_mn k_tt (by decide) q.1)).trans (hmn h hh)
      have hto2 : ∀ k, k < m + 1 → et_pl (eg_at G134 tt) (psN (kyN v s R) 65536 k) = some (.int (Int32.ofNat (R k))) := fun k hk => by
        by_cases ek : k = m
        · rw [ek]; exact e134
        · exact (x134.2 tt _ lt_tt (fun h => ek (ps_in (by omega) (by omega) h.2))).trans (hto k (by omega))
      have m1 := (x134.2 am 1 lt_am (fun h => (hi_ne k_am k_tt (by decide)) h.1)).trans m1
      have m32 := (x134.2 am 32 lt_am (fun h => (hi_ne k_am k_tt (by decide)) h.1)).trans m32
      have lt_am := Nat.lt_of_lt_of_le lt_am x134.1
      have lt_aw := Nat.lt_of_lt_of_le lt_aw x134.1
      have lt_fr := Nat.lt_of_lt_of_le lt_fr x134.1
      have lt_tt := Nat.lt_of_lt_of_le lt_tt x134.1
      have lt_mn := Nat.lt_of_lt_of_le lt_mn x134.1
      refine hs_aload (i := 0) (p := 136) (by decide +kernel) rfl ?_
      refine hf_get (T := et_TT) (t := 13) (ci := 11) (f := 32) (p := 139) (by decide +kernel) rfl hH k_am m32 ?_
      refine hs_iload (i := 6) (p := 141) (by decide +kernel) rfl ?_
      refine hs_dup2 (p := 142) (by decide +kernel) ?_
      refine hf_ald (ins := .iaload) (T := et_TT) (t := 22) (kd := 0) (N := 32769) (p := 143) (by decide +kernel) (fun _ _ _ _ _ _ _ _ _ _ => rfl) rfl rfl rfl hH k_mn (by decide) (show et_pl (eg_at G134 mn) (kyN v s R m) = some (.int (Int32.ofNat (psN (kyN v s R) 65536 m))) from hmn _ hκm) ?_
      refine hs_k (x := Int32.ofNat 1) (p := 144) (by decide +kernel) ?_
      refine hs_iaddn (p := 145) (by decide +kernel) ?_
      refine hf_ist (T := et_TT) (t := 22) (N := 32769) (p := 146) (by decide +kernel) rfl rfl (by decide) hH k_mn (by omega) (by decide) (fun s hs => absurd hs List.not_mem_nil) (fun G145 hH x145 e145 => ?_)
      have hv : evm G145 aw n v := hv.mv ho (fun j _ => x145.2 aw _ lt_aw (fun h => hi_ne k_aw k_mn (by decide) h.1))
      have hX := hX.tr x145 (fun b j _ h => .inl ⟨h.1, by have h := h.2; omega⟩)
      have hfr : ∀ k, k < 65536 → et_pl (eg_at G145 fr) k = some (.int (Int32.ofNat (R k))) := fun k hk => (x145.2 fr k lt_fr (fun h => hi_ne k_fr k_mn (by decide) h.1)).trans (hfr k hk)
      have hto2 : ∀ k, k < m + 1 → et_pl (eg_at G145 tt) (psN (kyN v s R) 65536 k) = some (.int (Int32.ofNat (R k))) := fun k hk => (x145.2 tt _ lt_tt (fun h => hi_ne k_tt k_mn (by decide) h.1)).trans (hto2 k hk)
      have hmn2 : ∀ h, h < 32768 → et_pl (eg_at G145 mn) h = some (.int (Int32.ofNat (ctB (kyN v s R) 65536 h + ctK (kyN v s R) h (m + 1)))) := fun h hh => by
        by_cases eh : h = kyN v s R m
        · rw [eh, ps_s]; exact e145
        · rw [ctK_z (fun q => eh q.symm)]; exact (x145.2 mn h lt_mn (fun q => eh q.2)).trans (hmn h hh)
      have m1 := (x145.2 am 1 lt_am (fun h => (hi_ne k_am k_mn (by decide)) h.1)).trans m1
      have m32 := (x145.2 am 32 lt_am (fun h => (hi_ne k_am k_mn (by decide)) h.1)).trans m32
      have e134 := (x145.2 tt (psN (kyN v s R) 65536 m) lt_tt (fun h => (hi_ne k_tt k_mn (by decide)) h.1)).trans e134
      have lt_am := Nat.lt_of_lt_of_le lt_am x145.1
      have lt_aw := Nat.lt_of_lt_of_le lt_aw x145.1
      have lt_fr := Nat.lt_of_lt_of_le lt_fr x145.1
      have lt_tt := Nat.lt_of_lt_of_le lt_tt x145.1
      have lt_mn := Nat.lt_of_lt_of_le lt_mn x145.1
      refine hs_iinc1 (i := 5) (p := 149) (by decide +kernel) rfl (Nat.le_of_ble_eq_true rfl) ?_
      refine hs_goto (p := 102) (by decide +kernel) ?_
      exact ih (65536 - (m + 1)) (by omega) hH m1 m32 hv hfr hX hmn2 hto2 (by omega) rfl
theorem fn_s348 (hH : et_H et_TT K G) (k_am : K am = some 13) (k_aw : K aw = some 46) (k_fr : K fr = some 48) (k_tt : K tt = some 35) (k_mn : K mn = some 22) (hn : n < 3) (ho : evo v) (hs : s = 0 ∨ s = 15) (hR : ∀ k, k < 65536 → R k < 65536) (m1 : et_pl (eg_at G am) 1 = some (.ref aw)) (m32 : et_pl (eg_at G am) 32 = some (.ref mn)) (hv : evm G aw n v) (hfr : ∀ k, k < 65536 → et_pl (eg_at G fr) k = some (.int (Int32.ofNat (R k)))) (hX : xf (fun b j => (b = mn ∧ j ≤ 32768) ∨ (b = tt ∧ j < 65536)) G0 G) (hA : ∀ h, h ≤ m → et_pl (eg_at G mn) h = some (.int (Int32.ofNat (ctB (kyN v s R) 65536 h)))) (hB : ∀ h, m ≤ h → h < 32768 → et_pl (eg_at G mn) (h + 1) = some (.int (Int32.ofNat (ctK (kyN v s R) h 65536)))) (hm : m ≤ 32768) : et_go none (d + 6) 267 66 [some (.ref am), some (.int (Int32.ofNat n)), some (.ref fr), some (.ref tt), some (.int (Int32.ofNat s)), some (.int (Int32.ofNat m)), x6] [] G 0 0 (xw_Z (fun b j => (b = mn ∧ j ≤ 32768) ∨ (b = tt ∧ j < 65536)) K G0 (fun g9 r9 => r9 = none ∧ ∀ k, k < 65536 → et_pl (eg_at g9 tt) (psN (kyN v s R) 65536 k) = some (.int (Int32.ofNat (R k))))) := by
  induction hq9 : 32768 - m using Nat.strongRecOn generalizing m G x6 with
  | _ q9 ih =>
    have lt_am := (hH.2.2 _ _ k_am).1
    have lt_aw := (hH.2.2 _ _ k_aw).1
    have lt_fr := (hH.2.2 _ _ k_fr).1
    have lt_tt := (hH.2.2 _ _ k_tt).1
    have lt_mn := (hH.2.2 _ _ k_mn).1
    refine hs_iload (i := 5) (p := 68) (by decide +kernel) rfl ?_
    refine hs_kld (v := Value.int (Int32.ofNat 32768)) (p := 71) (by decide +kernel) ?_
    refine hs_br2n (c := .ge) (t := 99) (f := 74) (by decide +kernel) (by omega) (by omega) (fun (c71 : 32768 ≤ m) => ?_) (fun (c71 : ¬ (32768 ≤ m)) => ?_)
    · refine hs_k (x := Int32.ofNat 0) (p := 100) (by decide +kernel) ?_
      refine hs_istore (i := 5) (p := 102) (by decide +kernel) (Nat.le_of_ble_eq_true rfl) ?_
      have hA9 : ∀ h, h < 32768 → et_pl (eg_at G mn) h = some (.int (Int32.ofNat (ctB (kyN v s R) 65536 h + ctK (kyN v s R) h 0))) := fun h hh => hA h (by omega)
      exact fn_s448 (m := 0) hH k_am k_aw k_fr k_tt k_mn hn ho hs hR m1 m32 hv hfr hX hA9 (fun k hk => absurd hk (Nat.not_lt_zero k)) (Nat.zero_le _)
    · refine hs_aload (i := 0) (p := 75) (by decide +kernel) rfl ?_
      refine hf_get (T := et_TT) (t := 13) (ci := 11) (f := 32) (p := 78) (by decide +kernel) rfl hH k_am m32 ?_
      refine hs_iload (i := 5) (p := 80) (by decide +kernel) rfl ?_
      refine hs_k (x := Int32.ofNat 1) (p := 81) (by decide +kernel) ?_
      refine hs_iaddn (p := 82) (by decide +kernel) ?_
      refine hs_dup2 (p := 83) (by decide +kernel) ?_
      refine hf_ald (ins := .iaload) (T := et_TT) (t := 22) (kd := 0) (N := 32769) (p := 84) (by decide +kernel) (fun _ _ _ _ _ _ _ _ _ _ => rfl) rfl rfl rfl hH k_mn (by decide) (hB m (Nat.le_refl m) (by omega)) ?_
      refine hs_aload (i := 0) (p := 85) (by decide +kernel) rfl ?_
      refine hf_get (T := et_TT) (t := 13) (ci := 11) (f := 32) (p := 88) (by decide +kernel) rfl hH k_am m32 ?_
      refine hs_iload (i := 5) (p := 90) (by decide +kernel) rfl ?_
      refine hf_ald (ins := .iaload) (T := et_TT) (t := 22) (kd := 0) (N := 32769) (p := 91) (by decide +kernel) (fun _ _ _ _ _ _ _ _ _ _ => rfl) rfl rfl rfl hH k_mn (by decide) (hA m (Nat.le_refl m)) ?_
      refine hs_iaddn (p := 92) (by decide +kernel) ?_
      refine hf_ist (T := et_TT) (t := 22) (N := 32769) (p := 93) (by decide +kernel) rfl rfl (by decide) hH k_mn (by omega) (by decide) (fun s hs => absurd hs List.not_mem_nil) (fun G92 hH x92 e92 => ?_)
      have hv : evm G92 aw n v := hv.mv ho (fun j _ => x92.2 aw _ lt_aw (fun h => hi_ne k_aw k_mn (by decide) h.1))
      have hX := hX.tr x92 (fun b j _ h => .inl ⟨h.1, by have h := h.2; omega⟩)
      have hfr : ∀ k, k < 65536 → et_pl (eg_at G92 fr) k = some (.int (Int32.ofNat (R k))) := fun k hk => (x92.2 fr k lt_fr (fun h => hi_ne k_fr k_mn (by decide) h.1)).trans (hfr k hk)
      have hA2 : ∀ h, h ≤ m + 1 → et_pl (eg_at G92 mn) h = some (.int (Int32.ofNat (ctB (kyN v s R) 65536 h))) := fun h hh => by
        by_cases eh : h = m + 1
        · rw [eh, ctB_1]; exact e92
        · exact (x92.2 mn h lt_mn (fun q => eh q.2)).trans (hA h (by omega))
      have hB2 : ∀ h, m + 1 ≤ h → h < 32768 → et_pl (eg_at G92 mn) (h + 1) = some (.int (Int32.ofNat (ctK (kyN v s R) h 65536))) := fun h h1 hh => (x92.2 mn _ lt_mn (fun q => by have q := q.2; omega)).trans (hB h (by omega) hh)
      have m1 := (x92.2 am 1 lt_am (fun h => (hi_ne k_am k_mn (by decide)) h.1)).trans m1
      have m32 := (x92.2 am 32 lt_am (fun h => (hi_ne k_am k_mn (by decide)) h.1)).trans m32
      have lt_am := Nat.lt_of_lt_of_le lt_am x92.1
      have lt_aw := Nat.lt_of_lt_of_le lt_aw x92.1
      have lt_fr := Nat.lt_of_lt_of_le lt_fr x92.1
      have lt_tt := Nat.lt_of_lt_of_le lt_tt x92.1
      have lt_mn := Nat.lt_of_lt_of_le lt_mn x92.1
      refine hs_iinc1 (i := 5) (p := 96) (by decide +kernel) rfl (Nat.le_of_ble_eq_true rfl) ?_
      refine hs_goto (p := 66) (by decide +kernel) ?_
      exact ih (32768 - (m + 1)) (by omega) hH m1 m32 hv hfr hX hA2 hB2 (by omega) rfl
theorem fn_s248 (hH : et_H et_TT K G) (k_am : K am = some 13) (k_aw : K aw = some 46) (k_fr : K fr = some 48) (k_tt : K tt = some 35) (k_mn : K mn = some 22) (hn : n < 3) (ho : evo v) (hs : s = 0 ∨ s = 15) (hR : ∀ k, k < 65536 → R k < 65536) (m1 : et_pl (eg_at G am) 1 = some (.ref aw)) (m32 : et_pl (eg_at G am) 32 = some (.ref mn)) (hv : evm G aw n v) (hfr : ∀ k, k < 65536 → et_pl (eg_at G fr) k = some (.int (Int32.ofNat (R k)))) (hX : xf (fun b j => (b = mn ∧ j ≤ 32768) ∨ (b = tt ∧ j < 65536)) G0 G) (hz : et_pl (eg_at G mn) 0 = some (.int (Int32.ofNat 0))) (hB : ∀ h, h < 32768 → et_pl (eg_at G mn) (h + 1) = some (.int (Int32.ofNat (ctK (kyN v s R) h m)))) (hm : m ≤ 65536) : et_go none (d + 6) 267 28 [some (.ref am), some (.int (Int32.ofNat n)), some (.ref fr), some (.ref tt), some (.int (Int32.ofNat s)), some (.int (Int32.ofNat m)), x6] [] G 0 0 (xw_Z (fun b j => (b = mn ∧ j ≤ 32768) ∨ (b = tt ∧ j < 65536)) K G0 (fun g9 r9 => r9 = none ∧ ∀ k, k < 65536 → et_pl (eg_at g9 tt) (psN (kyN v s R) 65536 k) = some (.int (Int32.ofNat (R k))))) := by
  induction hq9 : 65536 - m using Nat.strongRecOn generalizing m G x6 with
  | _ q9 ih =>
    have lt_am := (hH.2.2 _ _ k_am).1
    have lt_aw := (hH.2.2 _ _ k_aw).1
    have lt_fr := (hH.2.2 _ _ k_fr).1
    have lt_tt := (hH.2.2 _ _ k_tt).1
    have lt_mn := (hH.2.2 _ _ k_mn).1
    refine hs_iload (i := 5) (p := 30) (by decide +kernel) rfl ?_
    refine hs_kld (v := Value.int (Int32.ofNat 65536)) (p := 32) (by decide +kernel) ?_
    refine hs_br2n (c := .ge) (t := 63) (f := 35) (by decide +kernel) (by omega) (by omega) (fun (c32 : 65536 ≤ m) => ?_) (fun (c32 : ¬ (65536 ≤ m)) => ?_)
    · refine hs_k (x := Int32.ofNat 0) (p := 64) (by decide +kernel) ?_
      refine hs_istore (i := 5) (p := 66) (by decide +kernel) (Nat.le_of_ble_eq_true rfl) ?_
      obtain rfl : m = 65536 := by omega
      exact fn_s348 (m := 0) hH k_am k_aw k_fr k_tt k_mn hn ho hs hR m1 m32 hv hfr hX (fun h hh => by rw [show h = 0 by omega]; exact hz) (fun h _ hh => hB h hh) (Nat.zero_le _)
    · have hRm := hR m (by omega)
      have hκm : kyN v s R m < 32768 := kyN_lt
      have hps : (psN (kyN v s R) 65536 m) < 65536 := ps_lt (h := 32768) (by omega) (fun k _ => kyN_lt)
      refine hs_aload (i := 0) (p := 36) (by decide +kernel) rfl ?_
      refine hf_get (T := et_TT) (t := 13) (ci := 11) (f := 32) (p := 39) (by decide +kernel) rfl hH k_am m32 ?_
      refine hs_aload (i := 0) (p := 40) (by decide +kernel) rfl ?_
      refine hs_iload (i := 1) (p := 41) (by decide +kernel) rfl ?_
      refine hs_aload (i := 2) (p := 42) (by decide +kernel) rfl ?_
      refine hs_iload (i := 5) (p := 44) (by decide +kernel) rfl ?_
      refine hf_ald (ins := .iaload) (T := et_TT) (t := 48) (kd := 0) (N := 65536) (p := 45) (by decide +kernel) (fun _ _ _ _ _ _ _ _ _ _ => rfl) rfl rfl rfl hH k_fr (by decide) (hfr m (by omega)) ?_
      refine hs_iload (i := 4) (p := 47) (by decide +kernel) rfl ?_
      refine ht_callv (T := et_TT) (t := 13) (mi := 268) (na := 3) (ci := 11) (lk := 7) (lm := 4) (L0 := eg_en (eg_mL 268) [.ref am, .int (Int32.ofNat n), .int (Int32.ofNat (R m)), .int (Int32.ofNat s)]) (by decide +kernel) rfl hH k_am rfl rfl rfl rfl rfl (by rw [show eg_mL 268 = 4 from by decide +kernel]; first | done | rfl) ?_
      refine (fn_half (x9 := R m) hH k_am k_aw m1 hn ho hv hRm hs (by omega)).mono (fun u hu => xp_cb hu ?_)
      show et_go none _ 267 50 _ [.int (Int32.ofNat (kyN v s R m)), .ref mn] _ _ _ _
      refine hs_k (x := Int32.ofNat 1) (p := 51) (by decide +kernel) ?_
      refine hs_iaddn (p := 52) (by decide +kernel) ?_
      refine hs_dup2 (p := 53) (by decide +kernel) ?_
      refine hf_ald (ins := .iaload) (T := et_TT) (t := 22) (kd := 0) (N := 32769) (p := 54) (by decide +kernel) (fun _ _ _ _ _ _ _ _ _ _ => rfl) rfl rfl rfl hH k_mn (by decide) (hB _ hκm) ?_
      refine hs_k (x := Int32.ofNat 1) (p := 55) (by decide +kernel) ?_
      refine hs_iaddn (p := 56) (by decide +kernel) ?_
      refine hf_ist (T := et_TT) (t := 22) (N := 32769) (p := 57) (by decide +kernel) rfl rfl (by decide) hH k_mn (by omega) (by decide) (fun s hs => absurd hs List.not_mem_nil) (fun G56 hH x56 e56 => ?_)
      have hv : evm G56 aw n v := hv.mv ho (fun j _ => x56.2 aw _ lt_aw (fun h => hi_ne k_aw k_mn (by decide) h.1))
      have hX := hX.tr x56 (fun b j _ h => .inl ⟨h.1, by have h := h.2; omega⟩)
      have hfr : ∀ k, k < 65536 → et_pl (eg_at G56 fr) k = some (.int (Int32.ofNat (R k))) := fun k hk => (x56.2 fr k lt_fr (fun h => hi_ne k_fr k_mn (by decide) h.1)).trans (hfr k hk)
      have hz2 : et_pl (eg_at G56 mn) 0 = some (.int (Int32.ofNat 0)) := (x56.2 mn 0 lt_mn (fun q => by have q := q.2; omega)).trans hz
      have hB2 : ∀ h, h < 32768 → et_pl (eg_at G56 mn) (h + 1) = some (.int (Int32.ofNat (ctK (kyN v s R) h (m + 1)))) := fun h hh => by
        by_cases eh : h = kyN v s R m
        · rw [eh, ctK_y rfl]; exact e56
        · rw [ctK_z (fun q => eh q.symm)]; exact (x56.2 mn _ lt_mn (fun q => eh (by have q := q.2; omega))).trans (hB h hh)
      have m1 := (x56.2 am 1 lt_am (fun h => (hi_ne k_am k_mn (by decide)) h.1)).trans m1
      have m32 := (x56.2 am 32 lt_am (fun h => (hi_ne k_am k_mn (by decide)) h.1)).trans m32
      have lt_am := Nat.lt_of_lt_of_le lt_am x56.1
      have lt_aw := Nat.lt_of_lt_of_le lt_aw x56.1
      have lt_fr := Nat.lt_of_lt_of_le lt_fr x56.1
      have lt_tt := Nat.lt_of_lt_of_le lt_tt x56.1
      have lt_mn := Nat.lt_of_lt_of_le lt_mn x56.1
      refine hs_iinc1 (i := 5) (p := 60) (by decide +kernel) rfl (Nat.le_of_ble_eq_true rfl) ?_
      refine hs_goto (p := 28) (by decide +kernel) ?_
      exact ih (65536 - (m + 1)) (by omega) hH m1 m32 hv hfr hX hz2 hB2 (by omega) rfl
theorem fn_s148 (hH : et_H et_TT K G) (k_am : K am = some 13) (k_aw : K aw = some 46) (k_fr : K fr = some 48) (k_tt : K tt = some 35) (k_mn : K mn = some 22) (hn : n < 3) (ho : evo v) (hs : s = 0 ∨ s = 15) (hR : ∀ k, k < 65536 → R k < 65536) (m1 : et_pl (eg_at G am) 1 = some (.ref aw)) (m32 : et_pl (eg_at G am) 32 = some (.ref mn)) (hv : evm G aw n v) (hfr : ∀ k, k < 65536 → et_pl (eg_at G fr) k = some (.int (Int32.ofNat (R k)))) (hX : xf (fun b j => (b = mn ∧ j ≤ 32768) ∨ (b = tt ∧ j < 65536)) G0 G) (hz : ∀ h, h < m → et_pl (eg_at G mn) h = some (.int (Int32.ofNat 0))) (hm : m ≤ 32769) : et_go none (d + 6) 267 3 [some (.ref am), some (.int (Int32.ofNat n)), some (.ref fr), some (.ref tt), some (.int (Int32.ofNat s)), some (.int (Int32.ofNat m)), x6] [] G 0 0 (xw_Z (fun b j => (b = mn ∧ j ≤ 32768) ∨ (b = tt ∧ j < 65536)) K G0 (fun g9 r9 => r9 = none ∧ ∀ k, k < 65536 → et_pl (eg_at g9 tt) (psN (kyN v s R) 65536 k) = some (.int (Int32.ofNat (R k))))) := by
  induction hq9 : 32769 - m using Nat.strongRecOn generalizing m G x6 with
  | _ q9 ih =>
    have lt_am := (hH.2.2 _ _ k_am).1
    have lt_aw := (hH.2.2 _ _ k_aw).1
    have lt_fr := (hH.2.2 _ _ k_fr).1
    have lt_tt := (hH.2.2 _ _ k_tt).1
    have lt_mn := (hH.2.2 _ _ k_mn).1
    refine hs_iload (i := 5) (p := 5) (by decide +kernel) rfl ?_
    refine hs_kld (v := Value.int (Int32.ofNat 32768)) (p := 8) (by decide +kernel) ?_
    refine hs_br2n (c := .gt) (t := 25) (f := 11) (by decide +kernel) (by omega) (by omega) (fun (c8 : 32768 < m) => ?_) (fun (c8 : ¬ (32768 < m)) => ?_)
    · refine hs_k (x := Int32.ofNat 0) (p := 26) (by decide +kernel) ?_
      refine hs_istore (i := 5) (p := 28) (by decide +kernel) (Nat.le_of_ble_eq_true rfl) ?_
      exact fn_s248 (m := 0) hH k_am k_aw k_fr k_tt k_mn hn ho hs hR m1 m32 hv hfr hX (hz 0 (by omega)) (fun h hh => hz _ (by omega)) (Nat.zero_le _)
    · refine hs_aload (i := 0) (p := 12) (by decide +kernel) rfl ?_
      refine hf_get (T := et_TT) (t := 13) (ci := 11) (f := 32) (p := 15) (by decide +kernel) rfl hH k_am m32 ?_
      refine hs_iload (i := 5) (p := 17) (by decide +kernel) rfl ?_
      refine hs_k (x := Int32.ofNat 0) (p := 18) (by decide +kernel) ?_
      refine hf_ist (T := et_TT) (t := 22) (N := 32769) (p := 19) (by decide +kernel) rfl rfl (by decide) hH k_mn (by omega) (by decide) (fun s hs => absurd hs List.not_mem_nil) (fun G18 hH x18 e18 => ?_)
      have hv : evm G18 aw n v := hv.mv ho (fun j _ => x18.2 aw _ lt_aw (fun h => hi_ne k_aw k_mn (by decide) h.1))
      have hX := hX.tr x18 (fun b j _ h => .inl ⟨h.1, by have h := h.2; omega⟩)
      have hfr : ∀ k, k < 65536 → et_pl (eg_at G18 fr) k = some (.int (Int32.ofNat (R k))) := fun k hk => (x18.2 fr k lt_fr (fun h => hi_ne k_fr k_mn (by decide) h.1)).trans (hfr k hk)
      have hz2 : ∀ h, h < m + 1 → et_pl (eg_at G18 mn) h = some (.int (Int32.ofNat 0)) := fun h hh => by
        by_cases eh : h = m
        · rw [eh]; exact e18
        · exact (x18.2 mn _ lt_mn (fun q => eh q.2)).trans (hz h (by omega))
      have m1 := (x18.2 am 1 lt_am (fun h => (hi_ne k_am k_mn (by decide)) h.1)).trans m1
      have m32 := (x18.2 am 32 lt_am (fun h => (hi_ne k_am k_mn (by decide)) h.1)).trans m32
      have lt_am := Nat.lt_of_lt_of_le lt_am x18.1
      have lt_aw := Nat.lt_of_lt_of_le lt_aw x18.1
      have lt_fr := Nat.lt_of_lt_of_le lt_fr x18.1
      have lt_tt := Nat.lt_of_lt_of_le lt_tt x18.1
      have lt_mn := Nat.lt_of_lt_of_le lt_mn x18.1
      refine hs_iinc1 (i := 5) (p := 22) (by decide +kernel) rfl (Nat.le_of_ble_eq_true rfl) ?_
      refine hs_goto (p := 3) (by decide +kernel) ?_
      exact ih (32769 - (m + 1)) (by omega) hH m1 m32 hv hfr hX hz2 (by omega) rfl
theorem fn_so48 (hH : et_H et_TT K G) (k_am : K am = some 13) (k_aw : K aw = some 46) (k_fr : K fr = some 48) (k_tt : K tt = some 35) (k_mn : K mn = some 22) (hn : n < 3) (ho : evo v) (hs : s = 0 ∨ s = 15) (hR : ∀ k, k < 65536 → R k < 65536) (m1 : et_pl (eg_at G am) 1 = some (.ref aw)) (m32 : et_pl (eg_at G am) 32 = some (.ref mn)) (hv : evm G aw n v) (hfr : ∀ k, k < 65536 → et_pl (eg_at G fr) k = some (.int (Int32.ofNat (R k)))) (hd : 6 ≤ d2) : et_go none d2 267 0 (eg_en (eg_mL 267) [.ref am, .int (Int32.ofNat n), .ref fr, .ref tt, .int (Int32.ofNat s)]) [] G 0 0 (xw_Z (fun b j => (b = mn ∧ j ≤ 32768) ∨ (b = tt ∧ j < 65536)) K G (fun g9 r9 => r9 = none ∧ ∀ k, k < 65536 → et_pl (eg_at g9 tt) (psN (kyN v s R) 65536 k) = some (.int (Int32.ofNat (R k))))) := by
  obtain ⟨d, rfl⟩ : ∃ d, d2 = d + 6 := ⟨d2 - 6, by omega⟩
  rw [show eg_mL 267 = 7 from by decide +kernel]
  show et_go none (d + 6) 267 0 [some (.ref am), some (.int (Int32.ofNat n)), some (.ref fr), some (.ref tt), some (.int (Int32.ofNat s)), none, none] [] G 0 0 _
  have lt_am := (hH.2.2 _ _ k_am).1
  have lt_aw := (hH.2.2 _ _ k_aw).1
  have lt_fr := (hH.2.2 _ _ k_fr).1
  have lt_tt := (hH.2.2 _ _ k_tt).1
  have lt_mn := (hH.2.2 _ _ k_mn).1
  refine hs_k (x := Int32.ofNat 0) (p := 1) (by decide +kernel) ?_
  refine hs_istore (i := 5) (p := 3) (by decide +kernel) (Nat.le_of_ble_eq_true rfl) ?_
  exact fn_s148 (G0 := G) (m := 0) hH k_am k_aw k_fr k_tt k_mn hn ho hs hR m1 m32 hv hfr xf.rf (fun h hh => absurd hh (Nat.not_lt_zero h)) (Nat.zero_le _)
theorem fn_cdN (hH : et_H et_TT K G) (k_am : K am = some 13) (k_aw : K aw = some 46) (m1 : et_pl (eg_at G am) 1 = some (.ref aw)) (hn : n < 3) (ho : evo v) (hv : evm G aw n v) (hp : p < 65536) (hd : 4 ≤ d2) : et_go none d2 264 0 (eg_en (eg_mL 264) [.ref am, .int (Int32.ofNat n), .int (Int32.ofNat p)]) [] G 0 0 (xp_Z G (some (.int (Int32.ofNat (cdV v p))))) := by
  have h := fn_cd (x := Int32.ofNat p) hH k_am k_aw m1 hn ho hv hd
  rw [(cd_n hp v.1 ho.1.1).1] at h
  exact h
theorem fn_isR9 (hH : et_H et_TT K G) (k_am : K am = some 13) (k_kw : K kw = some 30) (m19 : et_pl (eg_at G am) 19 = some (.ref kw)) (hr : r < 4) (hp : p < 65536) (hb : ∀ i, i < 1024 → et_pl (eg_at G kw) (1024 * r + i) = some (.long (b9 i))) (hbi : ∀ x, x < 65536 → btL (b9 (x / 64)) x = ru x) : et_go none d2 269 0 (eg_en (eg_mL 269) [.ref am, .int (Int32.ofNat r), .int (Int32.ofNat p)]) [] G 0 0 (xp_Z G (some (.int (Int32.ofNat (if ru p = true then 1 else 0))))) := by
  have h := fm_isR (d2 := d2) hH k_am k_kw m19 hr hp hb
  rw [hbi p hp] at h
  exact h
theorem fn_sc (hH : et_H et_TT K G) (k_am : K am = some 13) (k_aw : K aw = some 46) (k_ot : K ot = some 48) (k_kw : K kw = some 30) (m1 : et_pl (eg_at G am) 1 = some (.ref aw)) (m31 : et_pl (eg_at G am) 31 = some (.ref ot)) (m19 : et_pl (eg_at G am) 19 = some (.ref kw)) (hn : n < 3) (ho : evo v) (hv : evm G aw n v) (hr : r < 4) (hb : ∀ i, i < 1024 → et_pl (eg_at G kw) (1024 * r + i) = some (.long (b9 i))) (hbi : ∀ x, x < 65536 → btL (b9 (x / 64)) x = ru x) (hT : ∀ p, p < 65536 → et_pl (eg_at G ot) p = some (.int (Int32.ofNat (T p)))) (hs : soP (srP v) T) (hg : grP v T f m) (hc : scP v ru T m L) (hm : m ≤ 65536) : et_go none (d + 6) 265 63 [some (.ref am), some (.int (Int32.ofNat n)), some (.int (Int32.ofNat r)), some (.int (blJ L)), some (.int (Int32.ofNat f)), some (.int (Int32.ofNat m))] [] G 0 0 (fun u => u.1 = .inl (some (.int (blI (cdV v) ru))) ∧ u.2.1 = G) := by
  induction hq9 : 65536 - m using Nat.strongRecOn generalizing m f L with
  | _ q9 ih =>
    have hL := hc.le
    have hfm := hg.1
    have hTf := hs.1 f (by omega)
    have hTm : m < 65536 → T m < 65536 := hs.1 m
    have lt_am := (hH.2.2 _ _ k_am).1
    have lt_aw := (hH.2.2 _ _ k_aw).1
    have lt_ot := (hH.2.2 _ _ k_ot).1
    have lt_kw := (hH.2.2 _ _ k_kw).1
    refine hs_iload (i := 5) (p := 65) (by decide +kernel) rfl ?_
    refine hs_kld (v := Value.int (Int32.ofNat 65536)) (p := 67) (by decide +kernel) ?_
    refine hs_br2n (c := .ge) (t := 160) (f := 70) (by decide +kernel) (by omega) (by omega) (fun (c67 : 65536 ≤ m) => ?_) (fun (c67 : ¬ (65536 ≤ m)) => ?_)
    · refine hs_iload (i := 3) (p := 161) (by decide +kernel) rfl ?_
      refine hs_iret (by decide +kernel) ?_
      obtain rfl : m = 65536 := by omega
      exact ⟨by rw [hc.en hs], rfl⟩
    · have hcm := cdV_30 (v := v) ho.1.1 (hTm (by omega))
      have hcf := cdV_30 (v := v) ho.1.1 hTf
      have hTm := hTm (by omega)
      refine hs_aload (i := 0) (p := 71) (by decide +kernel) rfl ?_
      refine hs_iload (i := 1) (p := 72) (by decide +kernel) rfl ?_
      refine hs_aload (i := 0) (p := 73) (by decide +kernel) rfl ?_
      refine hf_get (T := et_TT) (t := 13) (ci := 11) (f := 31) (p := 76) (by decide +kernel) rfl hH k_am m31 ?_
      refine hs_iload (i := 5) (p := 78) (by decide +kernel) rfl ?_
      refine hf_ald (ins := .iaload) (T := et_TT) (t := 48) (kd := 0) (N := 65536) (p := 79) (by decide +kernel) (fun _ _ _ _ _ _ _ _ _ _ => rfl) rfl rfl rfl hH k_ot (by decide) (hT m (by omega)) ?_
      refine ht_callv (T := et_TT) (t := 13) (mi := 264) (na := 2) (ci := 11) (lk := 6) (lm := 5) (L0 := eg_en (eg_mL 264) [.ref am, .int (Int32.ofNat n), .int (Int32.ofNat (T m))]) (by decide +kernel) rfl hH k_am rfl rfl rfl rfl rfl (by rw [show eg_mL 264 = 5 from by decide +kernel]; first | done | rfl) ?_
      refine (fn_cdN hH k_am k_aw m1 hn ho hv (p := (T m)) (by omega) (by omega)).mono (fun u hu => xp_cb hu ?_)
      show et_go none _ 265 82 _ [.int (Int32.ofNat (cdV v (T m)))] _ _ _ _
      refine hs_aload (i := 0) (p := 83) (by decide +kernel) rfl ?_
      refine hs_iload (i := 1) (p := 84) (by decide +kernel) rfl ?_
      refine hs_aload (i := 0) (p := 85) (by decide +kernel) rfl ?_
      refine hf_get (T := et_TT) (t := 13) (ci := 11) (f := 31) (p := 88) (by decide +kernel) rfl hH k_am m31 ?_
      refine hs_iload (i := 4) (p := 90) (by decide +kernel) rfl ?_
      refine hf_ald (ins := .iaload) (T := et_TT) (t := 48) (kd := 0) (N := 65536) (p := 91) (by decide +kernel) (fun _ _ _ _ _ _ _ _ _ _ => rfl) rfl rfl rfl hH k_ot (by decide) (hT f (by omega)) ?_
      refine ht_callv (T := et_TT) (t := 13) (mi := 264) (na := 2) (ci := 11) (lk := 6) (lm := 5) (L0 := eg_en (eg_mL 264) [.ref am, .int (Int32.ofNat n), .int (Int32.ofNat (T f))]) (by decide +kernel) rfl hH k_am rfl rfl rfl rfl rfl (by rw [show eg_mL 264 = 5 from by decide +kernel]; first | done | rfl) ?_
      refine (fn_cdN hH k_am k_aw m1 hn ho hv (p := (T f)) (by omega) (by omega)).mono (fun u hu => xp_cb hu ?_)
      show et_go none _ 265 94 _ [.int (Int32.ofNat (cdV v (T f))), .int (Int32.ofNat (cdV v (T m)))] _ _ _ _
      refine hs_br2n (c := .eq) (t := 104) (f := 97) (by decide +kernel) (by omega) (by omega) (fun (c94 : (cdV v (T m)) = (cdV v (T f))) => ?_) (fun (c94 : ¬ ((cdV v (T m)) = (cdV v (T f)))) => ?_)
      · refine hs_aload (i := 0) (p := 105) (by decide +kernel) rfl ?_
        refine hs_iload (i := 2) (p := 106) (by decide +kernel) rfl ?_
        refine hs_aload (i := 0) (p := 107) (by decide +kernel) rfl ?_
        refine hf_get (T := et_TT) (t := 13) (ci := 11) (f := 31) (p := 110) (by decide +kernel) rfl hH k_am m31 ?_
        refine hs_iload (i := 5) (p := 112) (by decide +kernel) rfl ?_
        refine hf_ald (ins := .iaload) (T := et_TT) (t := 48) (kd := 0) (N := 65536) (p := 113) (by decide +kernel) (fun _ _ _ _ _ _ _ _ _ _ => rfl) rfl rfl rfl hH k_ot (by decide) (hT m (by omega)) ?_
        refine ht_callv (T := et_TT) (t := 13) (mi := 269) (na := 2) (ci := 11) (lk := 6) (lm := 3) (L0 := eg_en (eg_mL 269) [.ref am, .int (Int32.ofNat r), .int (Int32.ofNat (T m))]) (by decide +kernel) rfl hH k_am rfl rfl rfl rfl rfl (by rw [show eg_mL 269 = 3 from by decide +kernel]; first | done | rfl) ?_
        refine (fn_isR9 (p := (T m)) hH k_am k_kw m19 hr (by omega) hb hbi).mono (fun u hu => xp_cb hu ?_)
        by_cases qa : ru (T m) = true
        · rw [if_pos qa]
          show et_go none _ 265 116 _ [.int (Int32.ofNat 1)] _ _ _ _
          refine hs_aload (i := 0) (p := 117) (by decide +kernel) rfl ?_
          refine hs_iload (i := 2) (p := 118) (by decide +kernel) rfl ?_
          refine hs_aload (i := 0) (p := 119) (by decide +kernel) rfl ?_
          refine hf_get (T := et_TT) (t := 13) (ci := 11) (f := 31) (p := 122) (by decide +kernel) rfl hH k_am m31 ?_
          refine hs_iload (i := 4) (p := 124) (by decide +kernel) rfl ?_
          refine hf_ald (ins := .iaload) (T := et_TT) (t := 48) (kd := 0) (N := 65536) (p := 125) (by decide +kernel) (fun _ _ _ _ _ _ _ _ _ _ => rfl) rfl rfl rfl hH k_ot (by decide) (hT f (by omega)) ?_
          refine ht_callv (T := et_TT) (t := 13) (mi := 269) (na := 2) (ci := 11) (lk := 6) (lm := 3) (L0 := eg_en (eg_mL 269) [.ref am, .int (Int32.ofNat r), .int (Int32.ofNat (T f))]) (by decide +kernel) rfl hH k_am rfl rfl rfl rfl rfl (by rw [show eg_mL 269 = 3 from by decide +kernel]; first | done | rfl) ?_
          refine (fn_isR9 (p := (T f)) hH k_am k_kw m19 hr (by omega) hb hbi).mono (fun u hu => xp_cb hu ?_)
          by_cases qb : ru (T f) = true
          · rw [if_pos qb]
            show et_go none _ 265 128 _ [.int (Int32.ofNat 1), .int (Int32.ofNat 1)] _ _ _ _
            refine hs_br2n (c := .eq) (t := 154) (f := 131) (by decide +kernel) (by omega) (by omega) (fun _ => ?_) (fun h => absurd (show 1 = 1 by decide) h)
            refine hs_iinc1 (i := 5) (p := 157) (by decide +kernel) rfl (Nat.le_of_ble_eq_true rfl) ?_
            refine hs_goto (p := 63) (by decide +kernel) ?_
            have hg2 := hg.sm c94
            have hi2 := hg2.is hs (by omega) (Nat.le_of_lt hfm) (Nat.lt_succ_self m)
            exact ih (65536 - (m + 1)) (by omega) hg2 (hc.not hi2 hTf (fun q => q.2 (qb.trans qa.symm))) (by omega) rfl
          · rw [if_neg qb]
            show et_go none _ 265 128 _ [.int (Int32.ofNat 0), .int (Int32.ofNat 1)] _ _ _ _
            refine hs_br2n (c := .eq) (t := 154) (f := 131) (by decide +kernel) (by omega) (by omega) (fun h => absurd h (show ¬ (1 = 0) by decide)) (fun _ => ?_)
            refine hs_iload (i := 3) (p := 132) (by decide +kernel) rfl ?_
            refine hs_br1 (c := .lt) (t := 146) (f := 135) (by decide +kernel) (fun (c132 : (blJ L) < 0) => ?_) (fun (c132 : ¬ ((blJ L) < 0)) => ?_)
            · have c132 := (bj_lt hL).mp c132
              refine hs_aload (i := 0) (p := 147) (by decide +kernel) rfl ?_
              refine hf_get (T := et_TT) (t := 13) (ci := 11) (f := 31) (p := 150) (by decide +kernel) rfl hH k_am m31 ?_
              refine hs_iload (i := 4) (p := 152) (by decide +kernel) rfl ?_
              refine hf_ald (ins := .iaload) (T := et_TT) (t := 48) (kd := 0) (N := 65536) (p := 153) (by decide +kernel) (fun _ _ _ _ _ _ _ _ _ _ => rfl) rfl rfl rfl hH k_ot (by decide) (hT f (by omega)) ?_
              refine hs_istore (i := 3) (p := 154) (by decide +kernel) (Nat.le_of_ble_eq_true rfl) ?_
              refine hs_iinc1 (i := 5) (p := 157) (by decide +kernel) rfl (Nat.le_of_ble_eq_true rfl) ?_
              refine hs_goto (p := 63) (by decide +kernel) ?_
              have hg2 := hg.sm c94
              have hi2 := hg2.is hs (by omega) (Nat.le_of_lt hfm) (Nat.lt_succ_self m)
              have hc2 := hc.yes hi2 hTf (by omega) (fun q => by rw [q] at qb; exact qb qa)
              rw [show Int32.ofNat (T f) = blJ (T f) from (bj_v hTf).symm]
              exact ih (65536 - (m + 1)) (by omega) hg2 hc2 (by omega) rfl
            · have c132 : ¬ L = 65536 := fun h => c132 ((bj_lt hL).mpr h)
              refine hs_aload (i := 0) (p := 136) (by decide +kernel) rfl ?_
              refine hf_get (T := et_TT) (t := 13) (ci := 11) (f := 31) (p := 139) (by decide +kernel) rfl hH k_am m31 ?_
              refine hs_iload (i := 4) (p := 141) (by decide +kernel) rfl ?_
              refine hf_ald (ins := .iaload) (T := et_TT) (t := 48) (kd := 0) (N := 65536) (p := 142) (by decide +kernel) (fun _ _ _ _ _ _ _ _ _ _ => rfl) rfl rfl rfl hH k_ot (by decide) (hT f (by omega)) ?_
              refine hs_iload (i := 3) (p := 143) (by decide +kernel) rfl ?_
              refine hs_br2 (c := .ge) (t := 154) (f := 146) (by decide +kernel) (fun (c143 : (blJ L) ≤ Int32.ofNat (T f)) => ?_) (fun (c143 : ¬ ((blJ L) ≤ Int32.ofNat (T f))) => ?_)
              · have c143 := (bj_le (by omega) hTf).mp c143
                refine hs_iinc1 (i := 5) (p := 157) (by decide +kernel) rfl (Nat.le_of_ble_eq_true rfl) ?_
                refine hs_goto (p := 63) (by decide +kernel) ?_
                have hg2 := hg.sm c94
                have hi2 := hg2.is hs (by omega) (Nat.le_of_lt hfm) (Nat.lt_succ_self m)
                exact ih (65536 - (m + 1)) (by omega) hg2 (hc.not hi2 hTf (fun q => by have q := q.1; omega)) (by omega) rfl
              · have c143 : ¬ L ≤ T f := fun h => c143 ((bj_le (by omega) hTf).mpr h)
                refine hs_aload (i := 0) (p := 147) (by decide +kernel) rfl ?_
                refine hf_get (T := et_TT) (t := 13) (ci := 11) (f := 31) (p := 150) (by decide +kernel) rfl hH k_am m31 ?_
                refine hs_iload (i := 4) (p := 152) (by decide +kernel) rfl ?_
                refine hf_ald (ins := .iaload) (T := et_TT) (t := 48) (kd := 0) (N := 65536) (p := 153) (by decide +kernel) (fun _ _ _ _ _ _ _ _ _ _ => rfl) rfl rfl rfl hH k_ot (by decide) (hT f (by omega)) ?_
                refine hs_istore (i := 3) (p := 154) (by decide +kernel) (Nat.le_of_ble_eq_true rfl) ?_
                refine hs_iinc1 (i := 5) (p := 157) (by decide +kernel) rfl (Nat.le_of_ble_eq_true rfl) ?_
                refine hs_goto (p := 63) (by decide +kernel) ?_
                have hg2 := hg.sm c94
                have hi2 := hg2.is hs (by omega) (Nat.le_of_lt hfm) (Nat.lt_succ_self m)
                have hc2 := hc.yes hi2 hTf (by omega) (fun q => by rw [q] at qb; exact qb qa)
                rw [show Int32.ofNat (T f) = blJ (T f) from (bj_v hTf).symm]
                exact ih (65536 - (m + 1)) (by omega) hg2 hc2 (by omega) rfl
        · rw [if_neg qa]
          show et_go none _ 265 116 _ [.int (Int32.ofNat 0)] _ _ _ _
          refine hs_aload (i := 0) (p := 117) (by decide +kernel) rfl ?_
          refine hs_iload (i := 2) (p := 118) (by decide +kernel) rfl ?_
          refine hs_aload (i := 0) (p := 119) (by decide +kernel) rfl ?_
          refine hf_get (T := et_TT) (t := 13) (ci := 11) (f := 31) (p := 122) (by decide +kernel) rfl hH k_am m31 ?_
          refine hs_iload (i := 4) (p := 124) (by decide +kernel) rfl ?_
          refine hf_ald (ins := .iaload) (T := et_TT) (t := 48) (kd := 0) (N := 65536) (p := 125) (by decide +kernel) (fun _ _ _ _ _ _ _ _ _ _ => rfl) rfl rfl rfl hH k_ot (by decide) (hT f (by omega)) ?_
          refine ht_callv (T := et_TT) (t := 13) (mi := 269) (na := 2) (ci := 11) (lk := 6) (lm := 3) (L0 := eg_en (eg_mL 269) [.ref am, .int (Int32.ofNat r), .int (Int32.ofNat (T f))]) (by decide +kernel) rfl hH k_am rfl rfl rfl rfl rfl (by rw [show eg_mL 269 = 3 from by decide +kernel]; first | done | rfl) ?_
          refine (fn_isR9 (p := (T f)) hH k_am k_kw m19 hr (by omega) hb hbi).mono (fun u hu => xp_cb hu ?_)
          by_cases qb : ru (T f) = true
          · rw [if_pos qb]
            show et_go none _ 265 128 _ [.int (Int32.ofNat 1), .int (Int32.ofNat 0)] _ _ _ _
            refine hs_br2n (c := .eq) (t := 154) (f := 131) (by decide +kernel) (by omega) (by omega) (fun h => absurd h (show ¬ (0 = 1) by decide)) (fun _ => ?_)
            refine hs_iload (i := 3) (p := 132) (by decide +kernel) rfl ?_
            refine hs_br1 (c := .lt) (t := 146) (f := 135) (by decide +kernel) (fun (c132 : (blJ L) < 0) => ?_) (fun (c132 : ¬ ((blJ L) < 0)) => ?_)
            · have c132 := (bj_lt hL).mp c132
              refine hs_aload (i := 0) (p := 147) (by decide +kernel) rfl ?_
              refine hf_get (T := et_TT) (t := 13) (ci := 11) (f := 31) (p := 150) (by decide +kernel) rfl hH k_am m31 ?_
              refine hs_iload (i := 4) (p := 152) (by decide +kernel) rfl ?_
              refine hf_ald (ins := .iaload) (T := et_TT) (t := 48) (kd := 0) (N := 65536) (p := 153) (by decide +kernel) (fun _ _ _ _ _ _ _ _ _ _ => rfl) rfl rfl rfl hH k_ot (by decide) (hT f (by omega)) ?_
              refine hs_istore (i := 3) (p := 154) (by decide +kernel) (Nat.le_of_ble_eq_true rfl) ?_
              refine hs_iinc1 (i := 5) (p := 157) (by decide +kernel) rfl (Nat.le_of_ble_eq_true rfl) ?_
              refine hs_goto (p := 63) (by decide +kernel) ?_
              have hg2 := hg.sm c94
              have hi2 := hg2.is hs (by omega) (Nat.le_of_lt hfm) (Nat.lt_succ_self m)
              have hc2 := hc.yes hi2 hTf (by omega) (fun q => by rw [q] at qb; exact qa qb)
              rw [show Int32.ofNat (T f) = blJ (T f) from (bj_v hTf).symm]
              exact ih (65536 - (m + 1)) (by omega) hg2 hc2 (by omega) rfl
            · have c132 : ¬ L = 65536 := fun h => c132 ((bj_lt hL).mpr h)
              refine hs_aload (i := 0) (p := 136) (by decide +kernel) rfl ?_
              refine hf_get (T := et_TT) (t := 13) (ci := 11) (f := 31) (p := 139) (by decide +kernel) rfl hH k_am m31 ?_
              refine hs_iload (i := 4) (p := 141) (by decide +kernel) rfl ?_
              refine hf_ald (ins := .iaload) (T := et_TT) (t := 48) (kd := 0) (N := 65536) (p := 142) (by decide +kernel) (fun _ _ _ _ _ _ _ _ _ _ => rfl) rfl rfl rfl hH k_ot (by decide) (hT f (by omega)) ?_
              refine hs_iload (i := 3) (p := 143) (by decide +kernel) rfl ?_
              refine hs_br2 (c := .ge) (t := 154) (f := 146) (by decide +kernel) (fun (c143 : (blJ L) ≤ Int32.ofNat (T f)) => ?_) (fun (c143 : ¬ ((blJ L) ≤ Int32.ofNat (T f))) => ?_)
              · have c143 := (bj_le (by omega) hTf).mp c143
                refine hs_iinc1 (i := 5) (p := 157) (by decide +kernel) rfl (Nat.le_of_ble_eq_true rfl) ?_
                refine hs_goto (p := 63) (by decide +kernel) ?_
                have hg2 := hg.sm c94
                have hi2 := hg2.is hs (by omega) (Nat.le_of_lt hfm) (Nat.lt_succ_self m)
                exact ih (65536 - (m + 1)) (by omega) hg2 (hc.not hi2 hTf (fun q => by have q := q.1; omega)) (by omega) rfl
              · have c143 : ¬ L ≤ T f := fun h => c143 ((bj_le (by omega) hTf).mpr h)
                refine hs_aload (i := 0) (p := 147) (by decide +kernel) rfl ?_
                refine hf_get (T := et_TT) (t := 13) (ci := 11) (f := 31) (p := 150) (by decide +kernel) rfl hH k_am m31 ?_
                refine hs_iload (i := 4) (p := 152) (by decide +kernel) rfl ?_
                refine hf_ald (ins := .iaload) (T := et_TT) (t := 48) (kd := 0) (N := 65536) (p := 153) (by decide +kernel) (fun _ _ _ _ _ _ _ _ _ _ => rfl) rfl rfl rfl hH k_ot (by decide) (hT f (by omega)) ?_
                refine hs_istore (i := 3) (p := 154) (by decide +kernel) (Nat.le_of_ble_eq_true rfl) ?_
                refine hs_iinc1 (i := 5) (p := 157) (by decide +kernel) rfl (Nat.le_of_ble_eq_true rfl) ?_
                refine hs_goto (p := 63) (by decide +kernel) ?_
                have hg2 := hg.sm c94
                have hi2 := hg2.is hs (by omega) (Nat.le_of_lt hfm) (Nat.lt_succ_self m)
                have hc2 := hc.yes hi2 hTf (by omega) (fun q => by rw [q] at qb; exact qa qb)
                rw [show Int32.ofNat (T f) = blJ (T f) from (bj_v hTf).symm]
                exact ih (65536 - (m + 1)) (by omega) hg2 hc2 (by omega) rfl
          · rw [if_neg qb]
            show et_go none _ 265 128 _ [.int (Int32.ofNat 0), .int (Int32.ofNat 0)] _ _ _ _
            refine hs_br2n (c := .eq) (t := 154) (f := 131) (by decide +kernel) (by omega) (by omega) (fun _ => ?_) (fun h => absurd (show 0 = 0 by decide) h)
            refine hs_iinc1 (i := 5) (p := 157) (by decide +kernel) rfl (Nat.le_of_ble_eq_true rfl) ?_
            refine hs_goto (p := 63) (by decide +kernel) ?_
            have hg2 := hg.sm c94
            have hi2 := hg2.is hs (by omega) (Nat.le_of_lt hfm) (Nat.lt_succ_self m)
            exact ih (65536 - (m + 1)) (by omega) hg2 (hc.not hi2 hTf (fun q => q.2 ((Bool.eq_false_iff.mpr qb).trans (Bool.eq_false_iff.mpr qa).symm))) (by omega) rfl
      · refine hs_iload (i := 5) (p := 99) (by decide +kernel) rfl ?_
        refine hs_istore (i := 4) (p := 101) (by decide +kernel) (Nat.le_of_ble_eq_true rfl) ?_
        refine hs_goto (p := 154) (by decide +kernel) ?_
        refine hs_iinc1 (i := 5) (p := 157) (by decide +kernel) rfl (Nat.le_of_ble_eq_true rfl) ?_
        refine hs_goto (p := 63) (by decide +kernel) ?_
        have hg2 := hg.nw hs ho.1.1 (by omega) c94
        exact ih (65536 - (m + 1)) (by omega) hg2 (hc.not (hg2.is hs (by omega) (Nat.le_refl m) (Nat.lt_succ_self m)) hTm (fun q => q.2 rfl)) (by omega) rfl
theorem fn_idL (hH : et_H et_TT K G) (k_am : K am = some 13) (k_aw : K aw = some 46) (k_ot : K ot = some 48) (k_oo : K oo = some 35) (k_mn : K mn = some 22) (k_kw : K kw = some 30) (m0 : et_pl (eg_at G am) 0 = some (.int (Int32.ofNat 0))) (m1 : et_pl (eg_at G am) 1 = some (.ref aw)) (m19 : et_pl (eg_at G am) 19 = some (.ref kw)) (m30 : et_pl (eg_at G am) 30 = some (.ref oo)) (m31 : et_pl (eg_at G am) 31 = some (.ref ot)) (m32 : et_pl (eg_at G am) 32 = some (.ref mn)) (hn : n < 3) (ho : evo v) (hv : evm G aw n v) (hr : r < 4) (hb : ∀ i, i < 1024 → et_pl (eg_at G kw) (1024 * r + i) = some (.long (b9 i))) (hbi : ∀ x, x < 65536 → btL (b9 (x / 64)) x = ru x) (hid : ∀ k, k < m → et_pl (eg_at G ot) k = some (.int (Int32.ofNat k))) (hm : m ≤ 65536) : et_go none (d + 7) 265 7 [some (.ref am), some (.int (Int32.ofNat n)), some (.int (Int32.ofNat r)), some (.int (Int32.ofNat m)), none, none] [] G 0 0 (fun u => u.1 = .inl (some (.int (blI (cdV v) ru))) ∧ et_pl (eg_at u.2.1 am) 0 = some (.int (Int32.ofNat 0))) := by
  induction hq9 : 65536 - m using Nat.strongRecOn generalizing m G with
  | _ q9 ih =>
    have lt_am := (hH.2.2 _ _ k_am).1
    have lt_aw := (hH.2.2 _ _ k_aw).1
    have lt_ot := (hH.2.2 _ _ k_ot).1
    have lt_oo := (hH.2.2 _ _ k_oo).1
    have lt_mn := (hH.2.2 _ _ k_mn).1
    have lt_kw := (hH.2.2 _ _ k_kw).1
    refine hs_iload (i := 3) (p := 8) (by decide +kernel) rfl ?_
    refine hs_kld (v := Value.int (Int32.ofNat 65536)) (p := 10) (by decide +kernel) ?_
    refine hs_br2n (c := .ge) (t := 26) (f := 13) (by decide +kernel) (by omega) (by omega) (fun (c10 : 65536 ≤ m) => ?_) (fun (c10 : ¬ (65536 ≤ m)) => ?_)
    · refine hs_aload (i := 0) (p := 27) (by decide +kernel) rfl ?_
      refine hs_iload (i := 1) (p := 28) (by decide +kernel) rfl ?_
      refine hs_aload (i := 0) (p := 29) (by decide +kernel) rfl ?_
      refine hf_get (T := et_TT) (t := 13) (ci := 11) (f := 31) (p := 32) (by decide +kernel) rfl hH k_am m31 ?_
      refine hs_aload (i := 0) (p := 33) (by decide +kernel) rfl ?_
      refine hf_get (T := et_TT) (t := 13) (ci := 11) (f := 30) (p := 36) (by decide +kernel) rfl hH k_am m30 ?_
      refine hs_k (x := Int32.ofNat 0) (p := 37) (by decide +kernel) ?_
      refine ht_callv (T := et_TT) (t := 13) (mi := 267) (na := 4) (ci := 11) (lk := 6) (lm := 7) (L0 := eg_en (eg_mL 267) [.ref am, .int (Int32.ofNat n), .ref ot, .ref oo, .int (Int32.ofNat 0)]) (by decide +kernel) rfl hH k_am rfl rfl rfl rfl rfl (by rw [show eg_mL 267 = 7 from by decide +kernel]; first | done | rfl) ?_
      refine (fn_so48 (s := 0) (R := fun k => k) hH k_am k_aw k_ot k_oo k_mn hn ho (.inl rfl) (fun k hk => hk) m1 m32 hv (fun k hk => hid k (by omega)) (by omega)).mono (fun u hu => xw_cb hu (fun G37 v37 hH x37 hP37 => ?_))
      have hv : evm G37 aw n v := hv.mv ho (fun j _ => x37.2 aw _ lt_aw (fun h => h.elim (fun h => hi_ne k_aw k_mn (by decide) h.1) (fun h => hi_ne k_aw k_oo (by decide) h.1)))
      have hb : ∀ i, i < 1024 → et_pl (eg_at G37 kw) (1024 * r + i) = some (.long (b9 i)) := fun i hi => (x37.2 kw _ lt_kw (fun h => h.elim (fun h => hi_ne k_kw k_mn (by decide) h.1) (fun h => hi_ne k_kw k_oo (by decide) h.1))).trans (hb i hi)
      have m0 := (x37.2 am 0 lt_am (fun h => h.elim (fun h => hi_ne k_am k_mn (by decide) h.1) (fun h => hi_ne k_am k_oo (by decide) h.1))).trans m0
      have m1 := (x37.2 am 1 lt_am (fun h => h.elim (fun h => hi_ne k_am k_mn (by decide) h.1) (fun h => hi_ne k_am k_oo (by decide) h.1))).trans m1
      have m19 := (x37.2 am 19 lt_am (fun h => h.elim (fun h => hi_ne k_am k_mn (by decide) h.1) (fun h => hi_ne k_am k_oo (by decide) h.1))).trans m19
      have m30 := (x37.2 am 30 lt_am (fun h => h.elim (fun h => hi_ne k_am k_mn (by decide) h.1) (fun h => hi_ne k_am k_oo (by decide) h.1))).trans m30
      have m31 := (x37.2 am 31 lt_am (fun h => h.elim (fun h => hi_ne k_am k_mn (by decide) h.1) (fun h => hi_ne k_am k_oo (by decide) h.1))).trans m31
      have m32 := (x37.2 am 32 lt_am (fun h => h.elim (fun h => hi_ne k_am k_mn (by decide) h.1) (fun h => hi_ne k_am k_oo (by decide) h.1))).trans m32
      have lt_am := Nat.lt_of_lt_of_le lt_am x37.1
      have lt_aw := Nat.lt_of_lt_of_le lt_aw x37.1
      have lt_ot := Nat.lt_of_lt_of_le lt_ot x37.1
      have lt_oo := Nat.lt_of_lt_of_le lt_oo x37.1
      have lt_mn := Nat.lt_of_lt_of_le lt_mn x37.1
      have lt_kw := Nat.lt_of_lt_of_le lt_kw x37.1
      obtain ⟨rfl, hto⟩ := hP37
      obtain ⟨T1, hT1, hs1⟩ := so_ar hH k_oo (.inl rfl) (fun k hk => hk) hto so_id
      show et_go none _ 265 40 _ [] _ _ _ _
      refine hs_aload (i := 0) (p := 41) (by decide +kernel) rfl ?_
      refine hs_iload (i := 1) (p := 42) (by decide +kernel) rfl ?_
      refine hs_aload (i := 0) (p := 43) (by decide +kernel) rfl ?_
      refine hf_get (T := et_TT) (t := 13) (ci := 11) (f := 30) (p := 46) (by decide +kernel) rfl hH k_am m30 ?_
      refine hs_aload (i := 0) (p := 47) (by decide +kernel) rfl ?_
      refine hf_get (T := et_TT) (t := 13) (ci := 11) (f := 31) (p := 50) (by decide +kernel) rfl hH k_am m31 ?_
      refine hs_k (x := Int32.ofNat 15) (p := 52) (by decide +kernel) ?_
      refine ht_callv (T := et_TT) (t := 13) (mi := 267) (na := 4) (ci := 11) (lk := 6) (lm := 7) (L0 := eg_en (eg_mL 267) [.ref am, .int (Int32.ofNat n), .ref oo, .ref ot, .int (Int32.ofNat 15)]) (by decide +kernel) rfl hH k_am rfl rfl rfl rfl rfl (by rw [show eg_mL 267 = 7 from by decide +kernel]; first | done | rfl) ?_
      refine (fn_so35 (s := 15) (R := T1) hH k_am k_aw k_oo k_ot k_mn hn ho (.inr rfl) hs1.1 m1 m32 hv hT1 (by omega)).mono (fun u hu => xw_cb hu (fun G52 v52 hH x52 hP52 => ?_))
      have hv : evm G52 aw n v := hv.mv ho (fun j _ => x52.2 aw _ lt_aw (fun h => h.elim (fun h => hi_ne k_aw k_mn (by decide) h.1) (fun h => hi_ne k_aw k_ot (by decide) h.1)))
      have hb : ∀ i, i < 1024 → et_pl (eg_at G52 kw) (1024 * r + i) = some (.long (b9 i)) := fun i hi => (x52.2 kw _ lt_kw (fun h => h.elim (fun h => hi_ne k_kw k_mn (by decide) h.1) (fun h => hi_ne k_kw k_ot (by decide) h.1))).trans (hb i hi)
      have m0 := (x52.2 am 0 lt_am (fun h => h.elim (fun h => hi_ne k_am k_mn (by decide) h.1) (fun h => hi_ne k_am k_ot (by decide) h.1))).trans m0
      have m1 := (x52.2 am 1 lt_am (fun h => h.elim (fun h => hi_ne k_am k_mn (by decide) h.1) (fun h => hi_ne k_am k_ot (by decide) h.1))).trans m1
      have m19 := (x52.2 am 19 lt_am (fun h => h.elim (fun h => hi_ne k_am k_mn (by decide) h.1) (fun h => hi_ne k_am k_ot (by decide) h.1))).trans m19
      have m30 := (x52.2 am 30 lt_am (fun h => h.elim (fun h => hi_ne k_am k_mn (by decide) h.1) (fun h => hi_ne k_am k_ot (by decide) h.1))).trans m30
      have m31 := (x52.2 am 31 lt_am (fun h => h.elim (fun h => hi_ne k_am k_mn (by decide) h.1) (fun h => hi_ne k_am k_ot (by decide) h.1))).trans m31
      have m32 := (x52.2 am 32 lt_am (fun h => h.elim (fun h => hi_ne k_am k_mn (by decide) h.1) (fun h => hi_ne k_am k_ot (by decide) h.1))).trans m32
      have lt_am := Nat.lt_of_lt_of_le lt_am x52.1
      have lt_aw := Nat.lt_of_lt_of_le lt_aw x52.1
      have lt_ot := Nat.lt_of_lt_of_le lt_ot x52.1
      have lt_oo := Nat.lt_of_lt_of_le lt_oo x52.1
      have lt_mn := Nat.lt_of_lt_of_le lt_mn x52.1
      have lt_kw := Nat.lt_of_lt_of_le lt_kw x52.1
      obtain ⟨rfl, hto⟩ := hP52
      obtain ⟨T2, hT2, hs2⟩ := so_ar hH k_ot (.inr rfl) hs1.1 hto hs1
      show et_go none _ 265 55 _ [] _ _ _ _
      refine hs_k (x := (-1)) (p := 56) (by decide +kernel) ?_
      refine hs_istore (i := 3) (p := 57) (by decide +kernel) (Nat.le_of_ble_eq_true rfl) ?_
      refine hs_k (x := Int32.ofNat 0) (p := 58) (by decide +kernel) ?_
      refine hs_istore (i := 4) (p := 60) (by decide +kernel) (Nat.le_of_ble_eq_true rfl) ?_
      refine hs_k (x := Int32.ofNat 1) (p := 61) (by decide +kernel) ?_
      refine hs_istore (i := 5) (p := 63) (by decide +kernel) (Nat.le_of_ble_eq_true rfl) ?_
      rw [show (-1 : Int32) = blJ 65536 from bj_m.symm]
      refine (fn_sc (f := 0) (m := 1) (L := 65536) hH k_am k_aw k_ot k_kw m1 m31 m19 hn ho hv hr hb hbi hT2 hs2 grP_0 (scP_0 hs2) (by decide)).mono (fun u hu => ⟨hu.1, by rw [hu.2]; exact m0⟩)
    · refine hs_aload (i := 0) (p := 14) (by decide +kernel) rfl ?_
      refine hf_get (T := et_TT) (t := 13) (ci := 11) (f := 31) (p := 17) (by decide +kernel) rfl hH k_am m31 ?_
      refine hs_iload (i := 3) (p := 18) (by decide +kernel) rfl ?_
      refine hs_iload (i := 3) (p := 19) (by decide +kernel) rfl ?_
      refine hf_ist (T := et_TT) (t := 48) (N := 65536) (p := 20) (by decide +kernel) rfl rfl (by decide) hH k_ot (by omega) (by decide) (fun q9 hs9 _ _ => by rw [List.mem_singleton] at hs9; subst hs9; exact hi_nv (by omega) (by omega)) (fun G19 hH x19 e19 => ?_)
      have hv : evm G19 aw n v := hv.mv ho (fun j _ => x19.2 aw _ lt_aw (fun h => hi_ne k_aw k_ot (by decide) h.1))
      have hb : ∀ i, i < 1024 → et_pl (eg_at G19 kw) (1024 * r + i) = some (.long (b9 i)) := fun i hi => (x19.2 kw _ lt_kw (fun h => hi_ne k_kw k_ot (by decide) h.1)).trans (hb i hi)
      have m0 := (x19.2 am 0 lt_am (fun h => hi_ne k_am k_ot (by decide) h.1)).trans m0
      have m1 := (x19.2 am 1 lt_am (fun h => hi_ne k_am k_ot (by decide) h.1)).trans m1
      have m19 := (x19.2 am 19 lt_am (fun h => hi_ne k_am k_ot (by decide) h.1)).trans m19
      have m30 := (x19.2 am 30 lt_am (fun h => hi_ne k_am k_ot (by decide) h.1)).trans m30
      have m31 := (x19.2 am 31 lt_am (fun h => hi_ne k_am k_ot (by decide) h.1)).trans m31
      have m32 := (x19.2 am 32 lt_am (fun h => hi_ne k_am k_ot (by decide) h.1)).trans m32
      have hid : ∀ k, k < m + 1 → et_pl (eg_at G19 ot) k = some (.int (Int32.ofNat k)) := fun k hk => by
        by_cases ek : k = m
        · rw [ek]; exact e19
        · exact (x19.2 ot _ lt_ot (fun h => ek h.2)).trans (hid k (by omega))
      have lt_am := Nat.lt_of_lt_of_le lt_am x19.1
      have lt_aw := Nat.lt_of_lt_of_le lt_aw x19.1
      have lt_ot := Nat.lt_of_lt_of_le lt_ot x19.1
      have lt_oo := Nat.lt_of_lt_of_le lt_oo x19.1
      have lt_mn := Nat.lt_of_lt_of_le lt_mn x19.1
      have lt_kw := Nat.lt_of_lt_of_le lt_kw x19.1
      refine hs_iinc1 (i := 3) (p := 23) (by decide +kernel) rfl (Nat.le_of_ble_eq_true rfl) ?_
      refine hs_goto (p := 7) (by decide +kernel) ?_
      exact ih (65536 - (m + 1)) (by omega) hH m0 m1 m19 m30 m31 m32 hv hb hid (by omega) rfl
end ASC
section ASD
variable {K : et_K} {G : eg_G} {d d2 am aw n r rc ec nc : Nat} {V : Nat → evT} {X : Nat → Int32} {Y : Nat → Nat} {x y : Int32} {g : Nat → sp_E → Bool}
theorem fn_blB (hH : et_H et_TT K G) (k_am : K am = some 13) (k_aw : K aw = some 46) (m1 : et_pl (eg_at G am) 1 = some (.ref aw)) (w0 : et_pl (eg_at G aw) 0 = some (.int (Int32.ofNat rc))) (hrc : rc ≤ 4) (w4 : et_pl (eg_at G aw) 4 = some (.int (Int32.ofNat ec))) (hec : ec ≤ 3) (hm : zyM G aw ec V) (ho : ∀ n, n < 3 → evo (V n)) (hT : ∀ r, r < rc → txP G aw (126 + 841 * r) 0 (g r) ∧ fcl (g r)) (hky : kyA G am aw rc) (m0 : et_pl (eg_at G am) 0 = some (.int (Int32.ofNat 0))) (hn : n < ec) (hr : r < rc) (hd : 7 ≤ d2) : et_go none d2 265 0 (eg_en (eg_mL 265) [.ref am, .int (Int32.ofNat n), .int (Int32.ofNat r)]) [] G 0 0 (fun u => u.1 = .inl (some (.int (blI (cdV (V n)) (ruN (g r))))) ∧ et_pl (eg_at u.2.1 am) 0 = some (.int (Int32.ofNat 0))) := by
  obtain ⟨d, rfl⟩ : ∃ d, d2 = d + 7 := ⟨d2 - 7, by omega⟩
  rw [show eg_mL 265 = 6 from by decide +kernel]
  show et_go none (d + 7) 265 0 [some (.ref am), some (.int (Int32.ofNat n)), some (.int (Int32.ofNat r)), none, none, none] [] G 0 0 _
  have lt_am := (hH.2.2 _ _ k_am).1
  have lt_aw := (hH.2.2 _ _ k_aw).1
  refine hs_aload (i := 0) (p := 1) (by decide +kernel) rfl ?_
  refine hs_iload (i := 2) (p := 2) (by decide +kernel) rfl ?_
  obtain ⟨ik, m18, k_ik⟩ := hf_ref (t := 13) (f := 18) (u := 25) hH k_am rfl rfl (.inr trivial)
  obtain ⟨kw, m19, k_kw⟩ := hf_ref (t := 13) (f := 19) (u := 30) hH k_am rfl rfl (.inr trivial)
  obtain ⟨oo, m30, k_oo⟩ := hf_ref (t := 13) (f := 30) (u := 35) hH k_am rfl rfl (.inr trivial)
  obtain ⟨ot, m31, k_ot⟩ := hf_ref (t := 13) (f := 31) (u := 48) hH k_am rfl rfl (.inr trivial)
  obtain ⟨mn, m32, k_mn⟩ := hf_ref (t := 13) (f := 32) (u := 22) hH k_am rfl rfl (.inr trivial)
  have hkn : et_pl (eg_at G ik) r = some (.int (Int32.ofNat 0)) ∨ knP G aw kw r := by
    obtain ⟨ik9, kw9, ⟨q1, q2⟩, q3⟩ := hky
    obtain rfl : ik9 = ik := Value.ref.inj (Option.some.inj (q1.symm.trans m18))
    obtain rfl : kw9 = kw := Value.ref.inj (Option.some.inj (q2.symm.trans m19))
    exact q3 r hr (by omega)
  refine ht_callv (T := et_TT) (t := 13) (mi := 266) (na := 1) (ci := 11) (lk := 6) (lm := 4) (L0 := eg_en (eg_mL 266) [.ref am, .int (Int32.ofNat r)]) (by decide +kernel) rfl hH k_am rfl rfl rfl rfl rfl (by rw [show eg_mL 266 = 4 from by decide +kernel]; first | done | rfl) ?_
  refine ((er_c38 (K, [], G) [.ref am, .int (Int32.ofNat r)] _ hH (by show 5 ≤ _; omega) rfl (ht_ac (.inr ⟨by decide, _, rfl, k_am⟩) (ht_ac (hi_nv (by omega) (by omega)) ht_an))).and ((fm_knows hH k_am k_aw k_ik k_kw m1 m18 m19 (by omega) (hT r hr).1 (hT r hr).2 hkn (by omega)).mono (fun u (hu : u.1 = _ ∧ knR G u.2.1 am aw ik kw r (g r)) => hu.2))).mono (fun u hu => hs_cbnP (P := fun g9 => knR G g9 am aw ik kw r (g r)) hu (fun K9 G9 c9 s9 x9 f9 hH cl9 sl9 hkr => ?_))
  obtain rfl : c9 = 0 := Nat.le_zero.mp cl9
  obtain rfl : s9 = 0 := Nat.le_zero.mp sl9
  have hm9 := hm.mv ho (fun j _ _ => hkr.2.2.2.2.2 j)
  have m0_9 := (f9.2 am 13 k_am 0 (by decide +kernel)).trans m0
  have m1_9 := (f9.2 am 13 k_am 1 (by decide +kernel)).trans m1
  have m30_9 := (f9.2 am 13 k_am 30 (by decide +kernel)).trans m30
  have m31_9 := (f9.2 am 13 k_am 31 (by decide +kernel)).trans m31
  have m32_9 := (f9.2 am 13 k_am 32 (by decide +kernel)).trans m32
  obtain ⟨⟨b9, hb9, hbi9⟩, -, ⟨-, m199⟩, -⟩ := hkr
  have k_am := x9 _ _ k_am
  have k_aw := x9 _ _ k_aw
  have k_kw := x9 _ _ k_kw
  have k_oo := x9 _ _ k_oo
  have k_ot := x9 _ _ k_ot
  have k_mn := x9 _ _ k_mn
  show et_go none _ 265 5 _ [] _ _ _ _
  refine hs_k (x := Int32.ofNat 0) (p := 6) (by decide +kernel) ?_
  refine hs_istore (i := 3) (p := 7) (by decide +kernel) (Nat.le_of_ble_eq_true rfl) ?_
  exact fn_idL (m := 0) hH k_am k_aw k_ot k_oo k_mn k_kw m0_9 m1_9 m199 m30_9 m31_9 m32_9 (by omega) (ho n (by omega)) ((hm9 n (by omega)).1 hn) (by omega) hb9 (fun x hx => hbi9 x (fun _ => Int32.ofNat x) hx rfl) (fun k hk => absurd hk (Nat.not_lt_zero k)) (Nat.zero_le _)
theorem fn_bl (hH : et_H et_TT K G) (k_am : K am = some 13) (k_aw : K aw = some 46) (m1 : et_pl (eg_at G am) 1 = some (.ref aw)) (w0 : et_pl (eg_at G aw) 0 = some (.int (Int32.ofNat rc))) (hrc : rc ≤ 4) (w4 : et_pl (eg_at G aw) 4 = some (.int (Int32.ofNat ec))) (hec : ec ≤ 3) (hm : zyM G aw ec V) (ho : ∀ n, n < 3 → evo (V n)) (hT : ∀ r, r < rc → txP G aw (126 + 841 * r) 0 (g r) ∧ fcl (g r)) (hky : kyA G am aw rc)  (w3 : et_pl (eg_at G aw) 3 = some (.int (Int32.ofNat nc))) (hnc : nc ≤ 20) (hcr : crP G aw nc X Y) (hn : n < ec) (hr : r < rc) (hd : 8 ≤ d2) : et_go none d2 262 0 (eg_en (eg_mL 262) [.ref am, .int (Int32.ofNat n), .int (Int32.ofNat r)]) [] G 0 0 (fun u => u.1 = .inl (some (.int (blI (cdV (V n)) (ruN (g r))))) ∧ et_pl (eg_at u.2.1 am) 0 = some (.int (Int32.ofNat 0))) := by
  obtain ⟨d, rfl⟩ : ∃ d, d2 = d + 8 := ⟨d2 - 8, by omega⟩
  have or_ : (Int32.ofNat r).toInt = r := hs_nint (by omega)
  rw [show eg_mL 262 = 3 from by decide +kernel]
  show et_go none (d + 8) 262 0 [some (.ref am), some (.int (Int32.ofNat n)), some (.int (Int32.ofNat r))] [] G 0 0 _
  have lt_am := (hH.2.2 _ _ k_am).1
  have lt_aw := (hH.2.2 _ _ k_aw).1
  refine hs_aload (i := 0) (p := 1) (by decide +kernel) rfl ?_
  refine hs_k (x := Int32.ofNat 0) (p := 2) (by decide +kernel) ?_
  have hHo := hH
  refine hf_put (T := et_TT) (t := 13) (ci := 11) (f := 0) (p := 5) (ty := .int) (by decide +kernel) rfl rfl rfl rfl rfl hH k_am hi_any (fun G2 hH x2 e2 => ?_)
  have hT : ∀ r, r < rc → txP G2 aw (126 + 841 * r) 0 (g r) ∧ fcl (g r) := fun r hr => ⟨(hT r hr).1.xs lt_aw x2 (fun j h => hi_ne k_aw k_am (by decide) h.1), (hT r hr).2⟩
  have hky := hky.xs hHo k_am k_aw x2 (fun b j t kb hs => by rw [hs.1, k_am] at kb; cases kb; rw [hs.2]; exact ⟨by decide, by decide, fun _ => ⟨by decide, by decide⟩, fun h => absurd h (by decide)⟩)
  have hm := hm.mv ho (fun j _ _ => x2.2 aw j lt_aw (fun h => hi_ne k_aw k_am (by decide) h.1))
  have hcr : crP G2 aw nc X Y := fun k hk => ⟨(x2.2 aw _ lt_aw (fun h => hi_ne k_aw k_am (by decide) h.1)).trans (hcr k hk).1, (x2.2 aw _ lt_aw (fun h => hi_ne k_aw k_am (by decide) h.1)).trans (hcr k hk).2.1, (hcr k hk).2.2⟩
  have w3 := (x2.2 aw 3 lt_aw (fun h => hi_ne k_aw k_am (by decide) h.1)).trans w3
  have m1 := (x2.2 am 1 lt_am (fun h => absurd h.2 (by decide))).trans m1
  have w0 := (x2.2 aw 0 lt_aw (fun h => (hi_ne k_aw k_am (by decide)) h.1)).trans w0
  have w4 := (x2.2 aw 4 lt_aw (fun h => (hi_ne k_aw k_am (by decide)) h.1)).trans w4
  have lt_am := Nat.lt_of_lt_of_le lt_am x2.1
  have lt_aw := Nat.lt_of_lt_of_le lt_aw x2.1
  refine hs_aload (i := 0) (p := 6) (by decide +kernel) rfl ?_
  refine hs_aload (i := 0) (p := 7) (by decide +kernel) rfl ?_
  refine hs_iload (i := 1) (p := 8) (by decide +kernel) rfl ?_
  refine ht_callv (T := et_TT) (t := 13) (mi := 208) (na := 1) (ci := 11) (lk := 3) (lm := 2) (L0 := eg_en (eg_mL 208) [.ref am, .int (Int32.ofNat n)]) (by decide +kernel) rfl hH k_am rfl rfl rfl rfl rfl (by rw [show eg_mL 208 = 2 from by decide +kernel]; first | done | rfl) ?_
  refine (fm_nEy hH k_am k_aw m1 w4 hec hn (by omega)).mono (fun u hu => xp_cb hu ?_)
  show et_go none _ 262 11 _ [.int (Int32.ofNat 0), .ref am] _ _ _ _
  refine hs_if0 (c := .ne) (t := 27) (f := 14) (by decide +kernel) (show ¬ (¬ Int32.ofNat 0 = 0) by decide) ?_
  refine hs_iload (i := 2) (p := 15) (by decide +kernel) rfl ?_
  refine hs_k (x := (-1)) (p := 16) (by decide +kernel) ?_
  refine hs_br2 (c := .eq) (t := 31) (f := 19) (by decide +kernel) (fun hz => absurd hz (xi_nm1 (by omega))) (fun _ => ?_)
  refine hs_aload (i := 0) (p := 20) (by decide +kernel) rfl ?_
  refine hs_iload (i := 2) (p := 21) (by decide +kernel) rfl ?_
  refine ht_callv (T := et_TT) (t := 13) (mi := 210) (na := 1) (ci := 11) (lk := 3) (lm := 2) (L0 := eg_en (eg_mL 210) [.ref am, .int (Int32.ofNat r)]) (by decide +kernel) rfl hH k_am rfl rfl rfl rfl rfl (by rw [show eg_mL 210 = 2 from by decide +kernel]; first | done | rfl) ?_
  refine (fm_nR (x := Int32.ofNat r) hH k_am k_aw m1 w0 hrc (by omega)).mono (fun u hu => xp_cb hu ?_)
  by_cases xu : 0 ≤ (Int32.ofNat r).toInt ∧ (Int32.ofNat r).toInt < (rc : Int)
  · rw [if_pos xu]
    show et_go none _ 262 24 _ [.int (Int32.ofNat 0), .ref am] _ _ _ _
    refine hs_if1 (c := .eq) (t := 31) (f := 27) (by decide +kernel) (show Int32.ofNat 0 = 0 by decide) ?_
    refine hs_k (x := Int32.ofNat 0) (p := 32) (by decide +kernel) ?_
    refine hs_k (x := Int32.ofNat 1) (p := 33) (by decide +kernel) ?_
    refine ht_callv (T := et_TT) (t := 13) (mi := 204) (na := 2) (ci := 11) (lk := 3) (lm := 3) (L0 := eg_en (eg_mL 204) [.ref am, .int (Int32.ofNat 0), .int (Int32.ofNat 1)]) (by decide +kernel) rfl hH k_am rfl rfl rfl rfl rfl (by rw [show eg_mL 204 = 3 from by decide +kernel]; first | done | rfl) ?_
    refine (fm_t0 hH k_am).mono (fun u hu => xp_cb hu ?_)
    show et_go none _ 262 36 _ [.int (Int32.ofNat 0)] _ _ _ _
    refine hs_if1 (c := .eq) (t := 41) (f := 39) (by decide +kernel) (show Int32.ofNat 0 = 0 by decide) ?_
    refine hs_iload (i := 2) (p := 42) (by decide +kernel) rfl ?_
    refine hs_k (x := (-1)) (p := 43) (by decide +kernel) ?_
    refine hs_br2 (c := .ne) (t := 54) (f := 46) (by decide +kernel) (fun _ => ?_) (fun hz => absurd (show ¬ ((Int32.ofNat r : Int32) = (-1)) from xi_nm1 (by omega)) hz)
    refine hs_aload (i := 0) (p := 55) (by decide +kernel) rfl ?_
    refine hs_iload (i := 1) (p := 56) (by decide +kernel) rfl ?_
    refine hs_iload (i := 2) (p := 57) (by decide +kernel) rfl ?_
    refine ht_callv (T := et_TT) (t := 13) (mi := 265) (na := 2) (ci := 11) (lk := 3) (lm := 6) (L0 := eg_en (eg_mL 265) [.ref am, .int (Int32.ofNat n), .int (Int32.ofNat r)]) (by decide +kernel) rfl hH k_am rfl rfl rfl rfl rfl (by rw [show eg_mL 265 = 6 from by decide +kernel]; first | done | rfl) ?_
    refine (fn_blB hH k_am k_aw m1 w0 hrc w4 hec hm ho hT hky e2 hn hr (by omega)).mono (fun u hu => ?_)
    obtain ⟨u1, u2, u3, u4⟩ := u
    obtain ⟨hu1, hu2⟩ := hu
    have hu1 : u1 = .inl (some (.int (blI (cdV (V n)) (ruN (g r))))) := hu1
    subst hu1
    refine hs_cb ?_
    show et_go none _ 262 60 _ [.int (blI (cdV (V n)) (ruN (g r)))] _ _ _ _
    refine hs_iret (by decide +kernel) ?_
    exact ⟨rfl, hu2⟩
  · exact absurd ⟨by omega, by omega⟩ xu
theorem fn_blP (hH : et_H et_TT K G) (k_am : K am = some 13) (k_aw : K aw = some 46) (m1 : et_pl (eg_at G am) 1 = some (.ref aw)) (w0 : et_pl (eg_at G aw) 0 = some (.int (Int32.ofNat rc))) (hrc : rc ≤ 4) (w4 : et_pl (eg_at G aw) 4 = some (.int (Int32.ofNat ec))) (hec : ec ≤ 3) (hm : zyM G aw ec V) (ho : ∀ n, n < 3 → evo (V n)) (hT : ∀ r, r < rc → txP G aw (126 + 841 * r) 0 (g r) ∧ fcl (g r)) (hky : kyA G am aw rc)  (w3 : et_pl (eg_at G aw) 3 = some (.int (Int32.ofNat nc))) (hnc : nc ≤ 20) (hcr : crP G aw nc X Y) (hn : n < ec) (hd : 8 ≤ d2) : et_go none d2 262 0 (eg_en (eg_mL 262) [.ref am, .int (Int32.ofNat n), .int (-1)]) [] G 0 0 (fun u => u.1 = .inl (some (.int (bpV (V n) X Y nc))) ∧ et_pl (eg_at u.2.1 am) 0 = some (.int (Int32.ofNat 0))) := by
  obtain ⟨d, rfl⟩ : ∃ d, d2 = d + 8 := ⟨d2 - 8, by omega⟩
  rw [show eg_mL 262 = 3 from by decide +kernel]
  show et_go none (d + 8) 262 0 [some (.ref am), some (.int (Int32.ofNat n)), some (.int (-1))] [] G 0 0 _
  have lt_am := (hH.2.2 _ _ k_am).1
  have lt_aw := (hH.2.2 _ _ k_aw).1
  refine hs_aload (i := 0) (p := 1) (by decide +kernel) rfl ?_
  refine hs_k (x := Int32.ofNat 0) (p := 2) (by decide +kernel) ?_
  have hHo := hH
  refine hf_put (T := et_TT) (t := 13) (ci := 11) (f := 0) (p := 5) (ty := .int) (by decide +kernel) rfl rfl rfl rfl rfl hH k_am hi_any (fun G2 hH x2 e2 => ?_)
  have hT : ∀ r, r < rc → txP G2 aw (126 + 841 * r) 0 (g r) ∧ fcl (g r) := fun r hr => ⟨(hT r hr).1.xs lt_aw x2 (fun j h => hi_ne k_aw k_am (by decide) h.1), (hT r hr).2⟩
  have hky := hky.xs hHo k_am k_aw x2 (fun b j t kb hs => by rw [hs.1, k_am] at kb; cases kb; rw [hs.2]; exact ⟨by decide, by decide, fun _ => ⟨by decide, by decide⟩, fun h => absurd h (by decide)⟩)
  have hm := hm.mv ho (fun j _ _ => x2.2 aw j lt_aw (fun h => hi_ne k_aw k_am (by decide) h.1))
  have hcr : crP G2 aw nc X Y := fun k hk => ⟨(x2.2 aw _ lt_aw (fun h => hi_ne k_aw k_am (by decide) h.1)).trans (hcr k hk).1, (x2.2 aw _ lt_aw (fun h => hi_ne k_aw k_am (by decide) h.1)).trans (hcr k hk).2.1, (hcr k hk).2.2⟩
  have w3 := (x2.2 aw 3 lt_aw (fun h => hi_ne k_aw k_am (by decide) h.1)).trans w3
  have m1 := (x2.2 am 1 lt_am (fun h => absurd h.2 (by decide))).trans m1
  have w0 := (x2.2 aw 0 lt_aw (fun h => (hi_ne k_aw k_am (by decide)) h.1)).trans w0
  have w4 := (x2.2 aw 4 lt_aw (fun h => (hi_ne k_aw k_am (by decide)) h.1)).trans w4
  have lt_am := Nat.lt_of_lt_of_le lt_am x2.1
  have lt_aw := Nat.lt_of_lt_of_le lt_aw x2.1
  refine hs_aload (i := 0) (p := 6) (by decide +kernel) rfl ?_
  refine hs_aload (i := 0) (p := 7) (by decide +kernel) rfl ?_
  refine hs_iload (i := 1) (p := 8) (by decide +kernel) rfl ?_
  refine ht_callv (T := et_TT) (t := 13) (mi := 208) (na := 1) (ci := 11) (lk := 3) (lm := 2) (L0 := eg_en (eg_mL 208) [.ref am, .int (Int32.ofNat n)]) (by decide +kernel) rfl hH k_am rfl rfl rfl rfl rfl (by rw [show eg_mL 208 = 2 from by decide +kernel]; first | done | rfl) ?_
  refine (fm_nEy hH k_am k_aw m1 w4 hec hn (by omega)).mono (fun u hu => xp_cb hu ?_)
  show et_go none _ 262 11 _ [.int (Int32.ofNat 0), .ref am] _ _ _ _
  refine hs_if0 (c := .ne) (t := 27) (f := 14) (by decide +kernel) (show ¬ (¬ Int32.ofNat 0 = 0) by decide) ?_
  refine hs_iload (i := 2) (p := 15) (by decide +kernel) rfl ?_
  refine hs_k (x := (-1)) (p := 16) (by decide +kernel) ?_
  refine hs_br2 (c := .eq) (t := 31) (f := 19) (by decide +kernel) (fun _ => ?_) (fun hz => absurd rfl hz)
  refine hs_k (x := Int32.ofNat 0) (p := 32) (by decide +kernel) ?_
  refine hs_k (x := Int32.ofNat 1) (p := 33) (by decide +kernel) ?_
  refine ht_callv (T := et_TT) (t := 13) (mi := 204) (na := 2) (ci := 11) (lk := 3) (lm := 3) (L0 := eg_en (eg_mL 204) [.ref am, .int (Int32.ofNat 0), .int (Int32.ofNat 1)]) (by decide +kernel) rfl hH k_am rfl rfl rfl rfl rfl (by rw [show eg_mL 204 = 3 from by decide +kernel]; first | done | rfl) ?_
  refine (fm_t0 hH k_am).mono (fun u hu => xp_cb hu ?_)
  show et_go none _ 262 36 _ [.int (Int32.ofNat 0)] _ _ _ _
  refine hs_if1 (c := .eq) (t := 41) (f := 39) (by decide +kernel) (show Int32.ofNat 0 = 0 by decide) ?_
  refine hs_iload (i := 2) (p := 42) (by decide +kernel) rfl ?_
  refine hs_k (x := (-1)) (p := 43) (by decide +kernel) ?_
  refine hs_br2 (c := .ne) (t := 54) (f := 46) (by decide +kernel) (fun hz => absurd rfl hz) (fun _ => ?_)
  refine hs_aload (i := 0) (p := 47) (by decide +kernel) rfl ?_
  refine hs_iload (i := 1) (p := 48) (by decide +kernel) rfl ?_
  refine ht_callv (T := et_TT) (t := 13) (mi := 263) (na := 1) (ci := 11) (lk := 3) (lm := 4) (L0 := eg_en (eg_mL 263) [.ref am, .int (Int32.ofNat n)]) (by decide +kernel) rfl hH k_am rfl rfl rfl rfl rfl (by rw [show eg_mL 263 = 4 from by decide +kernel]; first | done | rfl) ?_
  refine (fn_bp (X := X) (Y := Y) hH k_am k_aw m1 (by omega) (ho n (by omega)) ((hm n (by omega)).1 hn) w3 hnc hcr (by omega)).mono (fun u hu => xp_cb hu ?_)
  show et_go none _ 262 51 _ [.int (bpV (V n) X Y nc)] _ _ _ _
  refine hs_goto (p := 60) (by decide +kernel) ?_
  refine hs_iret (by decide +kernel) ?_
  exact ⟨rfl, e2⟩
theorem fn_blR (hH : et_H et_TT K G) (k_am : K am = some 13) (k_aw : K aw = some 46) (m1 : et_pl (eg_at G am) 1 = some (.ref aw)) (w0 : et_pl (eg_at G aw) 0 = some (.int (Int32.ofNat rc))) (hrc : rc ≤ 4) (w4 : et_pl (eg_at G aw) 4 = some (.int (Int32.ofNat ec))) (hec : ec ≤ 3) (hm : zyM G aw ec V) (ho : ∀ n, n < 3 → evo (V n)) (hT : ∀ r, r < rc → txP G aw (126 + 841 * r) 0 (g r) ∧ fcl (g r)) (hky : kyA G am aw rc)  (w3 : et_pl (eg_at G aw) 3 = some (.int (Int32.ofNat nc))) (hnc : nc ≤ 20) (hcr : crP G aw nc X Y) (hn : n < ec) (hy : ¬ xr y rc) (hy1 : ¬ y = (-1)) (hd : 3 ≤ d2) : et_go none d2 262 0 (eg_en (eg_mL 262) [.ref am, .int (Int32.ofNat n), .int y]) [] G 0 0 (fun u => u.1 = .inl (some (.int (Int32.ofNat 0))) ∧ et_pl (eg_at u.2.1 am) 0 = some (.int (Int32.ofNat 1))) := by
  obtain ⟨d, rfl⟩ : ∃ d, d2 = d + 3 := ⟨d2 - 3, by omega⟩
  rw [show eg_mL 262 = 3 from by decide +kernel]
  show et_go none (d + 3) 262 0 [some (.ref am), some (.int (Int32.ofNat n)), some (.int y)] [] G 0 0 _
  have lt_am := (hH.2.2 _ _ k_am).1
  have lt_aw := (hH.2.2 _ _ k_aw).1
  refine hs_aload (i := 0) (p := 1) (by decide +kernel) rfl ?_
  refine hs_k (x := Int32.ofNat 0) (p := 2) (by decide +kernel) ?_
  have hHo := hH
  refine hf_put (T := et_TT) (t := 13) (ci := 11) (f := 0) (p := 5) (ty := .int) (by decide +kernel) rfl rfl rfl rfl rfl hH k_am hi_any (fun G2 hH x2 e2 => ?_)
  have hT : ∀ r, r < rc → txP G2 aw (126 + 841 * r) 0 (g r) ∧ fcl (g r) := fun r hr => ⟨(hT r hr).1.xs lt_aw x2 (fun j h => hi_ne k_aw k_am (by decide) h.1), (hT r hr).2⟩
  have hky := hky.xs hHo k_am k_aw x2 (fun b j t kb hs => by rw [hs.1, k_am] at kb; cases kb; rw [hs.2]; exact ⟨by decide, by decide, fun _ => ⟨by decide, by decide⟩, fun h => absurd h (by decide)⟩)
  have hm := hm.mv ho (fun j _ _ => x2.2 aw j lt_aw (fun h => hi_ne k_aw k_am (by decide) h.1))
  have hcr : crP G2 aw nc X Y := fun k hk => ⟨(x2.2 aw _ lt_aw (fun h => hi_ne k_aw k_am (by decide) h.1)).trans (hcr k hk).1, (x2.2 aw _ lt_aw (fun h => hi_ne k_aw k_am (by decide) h.1)).trans (hcr k hk).2.1, (hcr k hk).2.2⟩
  have w3 := (x2.2 aw 3 lt_aw (fun h => hi_ne k_aw k_am (by decide) h.1)).trans w3
  have m1 := (x2.2 am 1 lt_am (fun h => absurd h.2 (by decide))).trans m1
  have w0 := (x2.2 aw 0 lt_aw (fun h => (hi_ne k_aw k_am (by decide)) h.1)).trans w0
  have w4 := (x2.2 aw 4 lt_aw (fun h => (hi_ne k_aw k_am (by decide)) h.1)).trans w4
  have lt_am := Nat.lt_of_lt_of_le lt_am x2.1
  have lt_aw := Nat.lt_of_lt_of_le lt_aw x2.1
  refine hs_aload (i := 0) (p := 6) (by decide +kernel) rfl ?_
  refine hs_aload (i := 0) (p := 7) (by decide +kernel) rfl ?_
  refine hs_iload (i := 1) (p := 8) (by decide +kernel) rfl ?_
  refine ht_callv (T := et_TT) (t := 13) (mi := 208) (na := 1) (ci := 11) (lk := 3) (lm := 2) (L0 := eg_en (eg_mL 208) [.ref am, .int (Int32.ofNat n)]) (by decide +kernel) rfl hH k_am rfl rfl rfl rfl rfl (by rw [show eg_mL 208 = 2 from by decide +kernel]; first | done | rfl) ?_
  refine (fm_nEy hH k_am k_aw m1 w4 hec hn (by omega)).mono (fun u hu => xp_cb hu ?_)
  show et_go none _ 262 11 _ [.int (Int32.ofNat 0), .ref am] _ _ _ _
  refine hs_if0 (c := .ne) (t := 27) (f := 14) (by decide +kernel) (show ¬ (¬ Int32.ofNat 0 = 0) by decide) ?_
  refine hs_iload (i := 2) (p := 15) (by decide +kernel) rfl ?_
  refine hs_k (x := (-1)) (p := 16) (by decide +kernel) ?_
  refine hs_br2 (c := .eq) (t := 31) (f := 19) (by decide +kernel) (fun (c16 : y = (-1)) => ?_) (fun (c16 : ¬ (y = (-1))) => ?_)
  · exact absurd c16 hy1
  · refine hs_aload (i := 0) (p := 20) (by decide +kernel) rfl ?_
    refine hs_iload (i := 2) (p := 21) (by decide +kernel) rfl ?_
    refine ht_callv (T := et_TT) (t := 13) (mi := 210) (na := 1) (ci := 11) (lk := 3) (lm := 2) (L0 := eg_en (eg_mL 210) [.ref am, .int y]) (by decide +kernel) rfl hH k_am rfl rfl rfl rfl rfl (by rw [show eg_mL 210 = 2 from by decide +kernel]; first | done | rfl) ?_
    refine (fm_nR (x := y) hH k_am k_aw m1 w0 hrc (by omega)).mono (fun u hu => xp_cb hu ?_)
    by_cases xu : 0 ≤ (y).toInt ∧ (y).toInt < (rc : Int)
    · exact absurd xu hy
    · rw [if_neg xu]
      show et_go none _ 262 24 _ [.int (Int32.ofNat 1), .ref am] _ _ _ _
      refine hs_if0 (c := .eq) (t := 31) (f := 27) (by decide +kernel) (show ¬ (Int32.ofNat 1 = 0) by decide) ?_
      refine hs_k (x := Int32.ofNat 1) (p := 28) (by decide +kernel) ?_
      refine hs_goto (p := 32) (by decide +kernel) ?_
      refine hs_k (x := Int32.ofNat 1) (p := 33) (by decide +kernel) ?_
      have hHo := hH
      refine ht_callv (T := et_TT) (t := 13) (mi := 204) (na := 2) (ci := 11) (lk := 3) (lm := 3) (L0 := eg_en (eg_mL 204) [.ref am, .int (Int32.ofNat 1), .int (Int32.ofNat 1)]) (by decide +kernel) rfl hH k_am rfl rfl rfl rfl rfl (by rw [show eg_mL 204 = 3 from by decide +kernel]; first | done | rfl) ?_
      refine (fm_t1 hH k_am).mono (fun u hu => xw_cb hu (fun G33 v33 hH x33 hP33 => ?_))
      have hT : ∀ r, r < rc → txP G33 aw (126 + 841 * r) 0 (g r) ∧ fcl (g r) := fun r hr => ⟨(hT r hr).1.xs lt_aw x33 (fun j h => hi_ne k_aw k_am (by decide) h.1), (hT r hr).2⟩
      have hky := hky.xs hHo k_am k_aw x33 (fun b j t kb hs => by rw [hs.1, k_am] at kb; cases kb; rw [hs.2]; exact ⟨by decide, by decide, fun _ => ⟨by decide, by decide⟩, fun h => absurd h (by decide)⟩)
      have hm := hm.mv ho (fun j _ _ => x33.2 aw j lt_aw (fun h => hi_ne k_aw k_am (by decide) h.1))
      have hcr : crP G33 aw nc X Y := fun k hk => ⟨(x33.2 aw _ lt_aw (fun h => hi_ne k_aw k_am (by decide) h.1)).trans (hcr k hk).1, (x33.2 aw _ lt_aw (fun h => hi_ne k_aw k_am (by decide) h.1)).trans (hcr k hk).2.1, (hcr k hk).2.2⟩
      have w3 := (x33.2 aw 3 lt_aw (fun h => hi_ne k_aw k_am (by decide) h.1)).trans w3
      have m1 := (x33.2 am 1 lt_am (fun h => absurd h.2 (by decide))).trans m1
      have w0 := (x33.2 aw 0 lt_aw (fun h => (hi_ne k_aw k_am (by decide)) h.1)).trans w0
      have w4 := (x33.2 aw 4 lt_aw (fun h => (hi_ne k_aw k_am (by decide)) h.1)).trans w4
      have lt_am := Nat.lt_of_lt_of_le lt_am x33.1
      have lt_aw := Nat.lt_of_lt_of_le lt_aw x33.1
      obtain ⟨rfl, th33⟩ := hP33
      show et_go none _ 262 36 _ [.int (Int32.ofNat 1)] _ _ _ _
      refine hs_if0 (c := .eq) (t := 41) (f := 39) (by decide +kernel) (show ¬ (Int32.ofNat 1 = 0) by decide) ?_
      refine hs_k (x := Int32.ofNat 0) (p := 40) (by decide +kernel) ?_
      refine hs_iret (by decide +kernel) ?_
      exact ⟨rfl, th33⟩
theorem fn_blE (hH : et_H et_TT K G) (k_am : K am = some 13) (k_aw : K aw = some 46) (m1 : et_pl (eg_at G am) 1 = some (.ref aw)) (w0 : et_pl (eg_at G aw) 0 = some (.int (Int32.ofNat rc))) (hrc : rc ≤ 4) (w4 : et_pl (eg_at G aw) 4 = some (.int (Int32.ofNat ec))) (hec : ec ≤ 3) (hm : zyM G aw ec V) (ho : ∀ n, n < 3 → evo (V n)) (hT : ∀ r, r < rc → txP G aw (126 + 841 * r) 0 (g r) ∧ fcl (g r)) (hky : kyA G am aw rc)  (w3 : et_pl (eg_at G aw) 3 = some (.int (Int32.ofNat nc))) (hnc : nc ≤ 20) (hcr : crP G aw nc X Y) (hx : ¬ xr x ec) (hd : 3 ≤ d2) : et_go none d2 262 0 (eg_en (eg_mL 262) [.ref am, .int x, .int y]) [] G 0 0 (fun u => u.1 = .inl (some (.int (Int32.ofNat 0))) ∧ et_pl (eg_at u.2.1 am) 0 = some (.int (Int32.ofNat 1))) := by
  obtain ⟨d, rfl⟩ : ∃ d, d2 = d + 3 := ⟨d2 - 3, by omega⟩
  rw [show eg_mL 262 = 3 from by decide +kernel]
  show et_go none (d + 3) 262 0 [some (.ref am), some (.int x), some (.int y)] [] G 0 0 _
  have lt_am := (hH.2.2 _ _ k_am).1
  have lt_aw := (hH.2.2 _ _ k_aw).1
  refine hs_aload (i := 0) (p := 1) (by decide +kernel) rfl ?_
  refine hs_k (x := Int32.ofNat 0) (p := 2) (by decide +kernel) ?_
  have hHo := hH
  refine hf_put (T := et_TT) (t := 13) (ci := 11) (f := 0) (p := 5) (ty := .int) (by decide +kernel) rfl rfl rfl rfl rfl hH k_am hi_any (fun G2 hH x2 e2 => ?_)
  have hT : ∀ r, r < rc → txP G2 aw (126 + 841 * r) 0 (g r) ∧ fcl (g r) := fun r hr => ⟨(hT r hr).1.xs lt_aw x2 (fun j h => hi_ne k_aw k_am (by decide) h.1), (hT r hr).2⟩
  have hky := hky.xs hHo k_am k_aw x2 (fun b j t kb hs => by rw [hs.1, k_am] at kb; cases kb; rw [hs.2]; exact ⟨by decide, by decide, fun _ => ⟨by decide, by decide⟩, fun h => absurd h (by decide)⟩)
  have hm := hm.mv ho (fun j _ _ => x2.2 aw j lt_aw (fun h => hi_ne k_aw k_am (by decide) h.1))
  have hcr : crP G2 aw nc X Y := fun k hk => ⟨(x2.2 aw _ lt_aw (fun h => hi_ne k_aw k_am (by decide) h.1)).trans (hcr k hk).1, (x2.2 aw _ lt_aw (fun h => hi_ne k_aw k_am (by decide) h.1)).trans (hcr k hk).2.1, (hcr k hk).2.2⟩
  have w3 := (x2.2 aw 3 lt_aw (fun h => hi_ne k_aw k_am (by decide) h.1)).trans w3
  have m1 := (x2.2 am 1 lt_am (fun h => absurd h.2 (by decide))).trans m1
  have w0 := (x2.2 aw 0 lt_aw (fun h => (hi_ne k_aw k_am (by decide)) h.1)).trans w0
  have w4 := (x2.2 aw 4 lt_aw (fun h => (hi_ne k_aw k_am (by decide)) h.1)).trans w4
  have lt_am := Nat.lt_of_lt_of_le lt_am x2.1
  have lt_aw := Nat.lt_of_lt_of_le lt_aw x2.1
  refine hs_aload (i := 0) (p := 6) (by decide +kernel) rfl ?_
  refine hs_aload (i := 0) (p := 7) (by decide +kernel) rfl ?_
  refine hs_iload (i := 1) (p := 8) (by decide +kernel) rfl ?_
  refine ht_callv (T := et_TT) (t := 13) (mi := 208) (na := 1) (ci := 11) (lk := 3) (lm := 2) (L0 := eg_en (eg_mL 208) [.ref am, .int x]) (by decide +kernel) rfl hH k_am rfl rfl rfl rfl rfl (by rw [show eg_mL 208 = 2 from by decide +kernel]; first | done | rfl) ?_
  refine (fm_nEn hH k_am k_aw m1 w4 hec hx (by omega)).mono (fun u hu => xp_cb hu ?_)
  show et_go none _ 262 11 _ [.int (Int32.ofNat 1), .ref am] _ _ _ _
  refine hs_if1 (c := .ne) (t := 27) (f := 14) (by decide +kernel) (show ¬ Int32.ofNat 1 = 0 by decide) ?_
  refine hs_k (x := Int32.ofNat 1) (p := 28) (by decide +kernel) ?_
  refine hs_goto (p := 32) (by decide +kernel) ?_
  refine hs_k (x := Int32.ofNat 1) (p := 33) (by decide +kernel) ?_
  have hHo := hH
  refine ht_callv (T := et_TT) (t := 13) (mi := 204) (na := 2) (ci := 11) (lk := 3) (lm := 3) (L0 := eg_en (eg_mL 204) [.ref am, .int (Int32.ofNat 1), .int (Int32.ofNat 1)]) (by decide +kernel) rfl hH k_am rfl rfl rfl rfl rfl (by rw [show eg_mL 204 = 3 from by decide +kernel]; first | done | rfl) ?_
  refine (fm_t1 hH k_am).mono (fun u hu => xw_cb hu (fun G33 v33 hH x33 hP33 => ?_))
  have hT : ∀ r, r < rc → txP G33 aw (126 + 841 * r) 0 (g r) ∧ fcl (g r) := fun r hr => ⟨(hT r hr).1.xs lt_aw x33 (fun j h => hi_ne k_aw k_am (by decide) h.1), (hT r hr).2⟩
  have hky := hky.xs hHo k_am k_aw x33 (fun b j t kb hs => by rw [hs.1, k_am] at kb; cases kb; rw [hs.2]; exact ⟨by decide, by decide, fun _ => ⟨by decide, by decide⟩, fun h => absurd h (by decide)⟩)
  have hm := hm.mv ho (fun j _ _ => x33.2 aw j lt_aw (fun h => hi_ne k_aw k_am (by decide) h.1))
  have hcr : crP G33 aw nc X Y := fun k hk => ⟨(x33.2 aw _ lt_aw (fun h => hi_ne k_aw k_am (by decide) h.1)).trans (hcr k hk).1, (x33.2 aw _ lt_aw (fun h => hi_ne k_aw k_am (by decide) h.1)).trans (hcr k hk).2.1, (hcr k hk).2.2⟩
  have w3 := (x33.2 aw 3 lt_aw (fun h => hi_ne k_aw k_am (by decide) h.1)).trans w3
  have m1 := (x33.2 am 1 lt_am (fun h => absurd h.2 (by decide))).trans m1
  have w0 := (x33.2 aw 0 lt_aw (fun h => (hi_ne k_aw k_am (by decide)) h.1)).trans w0
  have w4 := (x33.2 aw 4 lt_aw (fun h => (hi_ne k_aw k_am (by decide)) h.1)).trans w4
  have lt_am := Nat.lt_of_lt_of_le lt_am x33.1
  have lt_aw := Nat.lt_of_lt_of_le lt_aw x33.1
  obtain ⟨rfl, th33⟩ := hP33
  show et_go none _ 262 36 _ [.int (Int32.ofNat 1)] _ _ _ _
  refine hs_if0 (c := .eq) (t := 41) (f := 39) (by decide +kernel) (show ¬ (Int32.ofNat 1 = 0) by decide) ?_
  refine hs_k (x := Int32.ofNat 0) (p := 40) (by decide +kernel) ?_
  refine hs_iret (by decide +kernel) ?_
  exact ⟨rfl, th33⟩
end ASD
