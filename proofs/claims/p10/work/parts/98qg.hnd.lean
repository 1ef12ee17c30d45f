/-! FUNCTIONAL: eye -/
theorem hf_wst {K : et_K} {d k pc ck sk a n p : Nat} {x : Int32} {L : eg_Ls} {r : List Value} {G : eg_G} {Z : eg_O → Prop} (hc : hs_o k pc = some (.iastore, p)) (hH : et_H et_TT K G) (ha : K a = some 46) (hn : n < 126) (hs : ∀ s ∈ et_w46, s.1 ≤ n → n ≤ s.2.1 → et_v K s.2.2 (.int x)) (h : ∀ G', et_H et_TT K G' → xf (fun b j => b = a ∧ j = n) G G' → et_pl (eg_at G' a) n = some (.int x) → et_go none d k p L r G' ck sk Z) : et_go none d k pc L (.int x :: .int (Int32.ofNat n) :: .ref a :: r) G ck sk Z := by
  obtain ⟨f, e, h1, hx⟩ := hi_arr hH ha et_t46 (by decide) (.inl rfl)
  have g := hi_at hH ha (by decide)
  refine hs_iast hc e g (by decide) (by omega) (h _ (hi_uarr hH ha (by decide) et_t46 (.inl rfl) (fun s hs' i i1 i2 i3 => ?_) (fun _ _ => (hx rfl (.inl rfl) _ _ e).lo (fun i i1 i2 => hs_un (by omega)))) ⟨Nat.le_refl _, fun b i hb hi => ?_⟩ ?_)
  · by_cases ei : i = n
    · subst ei
      rw [hs_us]
      exact hs s hs' i1 i2
    · rw [hs_un ei]
      exact h1 s hs' i i1 i2 i3
  · by_cases e3 : b = a
    · subst e3
      rw [et_at_us g.1, e]
      exact hf_plu (.inl rfl) (fun h => hi ⟨rfl, h⟩)
    · rw [et_at_u e3]
  · rw [et_at_us g.1, hf_pl (.inl rfl), if_pos (by omega), hs_us]
theorem hf_w0 {K : et_K} {n : Nat} : ∀ s ∈ et_w46, s.1 ≤ n → n ≤ s.2.1 → et_v K s.2.2 (.int (Int32.ofNat 0)) := by
  intro s hs _ _
  have h : et_w46.all (fun s => match s.2.2 with
    | .inl (lo, hi) => decide (lo = 0) && decide (0 ≤ hi)
    | _ => false) = true := by decide +kernel
  have h1 := List.all_eq_true.mp h s hs
  split at h1
  · rename_i lo hi e
    rw [Bool.and_eq_true] at h1
    rw [e, of_decide_eq_true h1.1]
    exact hi_nv (of_decide_eq_true h1.2) (by decide)
  · cases h1
theorem hf_wk {K : et_K} {n : Nat} {p : et_P} {x : Int32} (hc : et_w46.all (fun s => !(Nat.ble s.1 n && Nat.ble n s.2.1) || decide (s.2.2 = p)) = true) (h : et_v K p (.int x)) : ∀ s ∈ et_w46, s.1 ≤ n → n ≤ s.2.1 → et_v K s.2.2 (.int x) := by
  intro s hs h1 h2
  have h3 := List.all_eq_true.mp hc s hs
  rw [Nat.ble_eq_true_of_le h1, Nat.ble_eq_true_of_le h2] at h3
  have h4 : s.2.2 = p := by simpa using h3
  rw [h4]
  exact h
section FGA
variable {K : et_K} {G : eg_G} {d2 d th am aw out s0 e : Nat} {x c : Int32}
theorem xi_s1 {e : Nat} : Int32.ofNat (e + 1) - Int32.ofNat 1 = Int32.ofNat e := by
  rw [Int32.ofNat_add]
  exact Int32.add_sub_cancel _ _
theorem fc_eye (hH : et_H et_TT K G) (k_th : K th = some 12) (h0 : et_pl (eg_at G th) 0 = some (.ref s0)) (k_s0 : K s0 = some 10) (h5 : et_pl (eg_at G s0) 5 = some (.int (Int32.ofNat e))) (he : e ≤ 3) : et_go none d2 139 0 (eg_en (eg_mL 139) [.ref th]) [] G 0 0 (xe_Z (fun b j => (b = s0 ∧ j = 5)) K G (fun G' r => (e < 3 ∧ r = .inl (some (.int (Int32.ofNat e))) ∧ et_pl (eg_at G' s0) 5 = some (.int (Int32.ofNat (e + 1)))) ∨ (¬ e < 3 ∧ r = .inr 2 ∧ et_pl (eg_at G' s0) 5 = some (.int (Int32.ofNat e))))) := by
  rw [show eg_mL 139 = 1 from by decide +kernel]
  show et_go none d2 139 0 [some (.ref th)] [] G 0 0 _
  have lt_th := (hH.2.2 _ _ k_th).1
  have lt_s0 := (hH.2.2 _ _ k_s0).1
  have hX : xf (fun b j => (b = s0 ∧ j = 5)) G G := xf.rf
  refine hs_aload (i := 0) (p := 1) (by decide +kernel) rfl ?_
  refine hf_get (T := et_TT) (t := 12) (ci := 10) (f := 0) (p := 4) (by decide +kernel) rfl hH k_th h0 ?_
  refine hf_get (T := et_TT) (t := 10) (ci := 8) (f := 5) (p := 7) (by decide +kernel) rfl hH k_s0 h5 ?_
  refine hs_k (x := Int32.ofNat 3) (p := 8) (by decide +kernel) ?_
  refine hs_br2n (c := .lt) (t := 19) (f := 11) (by decide +kernel) (by omega) (by omega) (fun (c8 : e < 3) => ?_) (fun (c8 : ¬ (e < 3)) => ?_)
  · refine hs_aload (i := 0) (p := 20) (by decide +kernel) rfl ?_
    refine hf_get (T := et_TT) (t := 12) (ci := 10) (f := 0) (p := 23) (by decide +kernel) rfl hH k_th h0 ?_
    refine hs_dup1 (p := 24) (by decide +kernel) ?_
    refine hf_get (T := et_TT) (t := 10) (ci := 8) (f := 5) (p := 27) (by decide +kernel) rfl hH k_s0 h5 ?_
    refine hs_k (x := Int32.ofNat 1) (p := 28) (by decide +kernel) ?_
    refine hs_iaddn (p := 29) (by decide +kernel) ?_
    refine hf_put (T := et_TT) (t := 10) (ci := 8) (f := 5) (p := 32) (ty := .int) (by decide +kernel) rfl rfl rfl rfl rfl hH k_s0 (hi_nv (by omega) (by omega)) (fun G29 hH x29 e29 => ?_)
    have h0 := (x29.2 th 0 lt_th (fun h => (hi_ne k_th k_s0 (by decide)) h.1)).trans h0
    have lt_th := Nat.lt_of_lt_of_le lt_th x29.1
    have lt_s0 := Nat.lt_of_lt_of_le lt_s0 x29.1
    have hX := hX.tr x29 (fun b j hb h => by first | omega | (dsimp only at h ⊢; omega) | (dsimp only at h; omega) | (dsimp only; omega))
    refine hs_aload (i := 0) (p := 33) (by decide +kernel) rfl ?_
    refine hf_get (T := et_TT) (t := 12) (ci := 10) (f := 0) (p := 36) (by decide +kernel) rfl hH k_th h0 ?_
    refine hf_get (T := et_TT) (t := 10) (ci := 8) (f := 5) (p := 39) (by decide +kernel) rfl hH k_s0 e29 ?_
    refine hs_k (x := Int32.ofNat 1) (p := 40) (by decide +kernel) ?_
    refine hs_isub (p := 41) (by decide +kernel) ?_
    refine hs_iret (by decide +kernel) ?_
    exact ⟨_, _, _, _, rfl, hH, hX, .inl ⟨by omega, by rw [xi_s1], e29⟩⟩
  · refine hs_thr (x := 2) (lk := 1) (by decide +kernel) rfl rfl ?_
    exact ⟨_, _, _, _, rfl, hH, hX, .inr ⟨by omega, rfl, h5⟩⟩
theorem fm_thr (hH : et_H et_TT K G) (k_am : K am = some 13) (hx : x = 0 ∨ x = 1) : et_go none d2 204 0 (eg_en (eg_mL 204) [.ref am, .int x, .int c]) [] G 0 0 (xw_Z (fun b j => (b = am ∧ j = 0)) K G (fun G' v => v = some (.int x) ∧ ((x = 0 ∧ G' = G) ∨ (¬ x = 0 ∧ et_pl (eg_at G' am) 0 = some (.int c))))) := by
  rw [show eg_mL 204 = 3 from by decide +kernel]
  show et_go none d2 204 0 [some (.ref am), some (.int x), some (.int c)] [] G 0 0 _
  have lt_am := (hH.2.2 _ _ k_am).1
  have hX : xf (fun b j => (b = am ∧ j = 0)) G G := xf.rf
  refine hs_iload (i := 1) (p := 1) (by decide +kernel) rfl ?_
  refine hs_br1 (c := .eq) (t := 9) (f := 4) (by decide +kernel) (fun (c1 : x = 0) => ?_) (fun (c1 : ¬ (x = 0)) => ?_)
  · refine hs_iload (i := 1) (p := 10) (by decide +kernel) rfl ?_
    refine hs_zret (by decide +kernel) hx ?_
    exact ⟨_, _, rfl, hH, hX, rfl, .inl ⟨c1, rfl⟩⟩
  · refine hs_aload (i := 0) (p := 5) (by decide +kernel) rfl ?_
    refine hs_iload (i := 2) (p := 6) (by decide +kernel) rfl ?_
    refine hf_put (T := et_TT) (t := 13) (ci := 11) (f := 0) (p := 9) (ty := .int) (by decide +kernel) rfl rfl rfl rfl rfl hH k_am hi_any (fun G6 hH x6 e6 => ?_)
    have lt_am := Nat.lt_of_lt_of_le lt_am x6.1
    have hX := hX.tr x6 (fun b j hb h => by first | omega | (dsimp only at h ⊢; omega) | (dsimp only at h; omega) | (dsimp only; omega))
    refine hs_iload (i := 1) (p := 10) (by decide +kernel) rfl ?_
    refine hs_zret (by decide +kernel) hx ?_
    exact ⟨_, _, rfl, hH, hX, rfl, .inr ⟨c1, e6⟩⟩
theorem fm_eyeL {i : Nat} {G0 : eg_G} (hH : et_H et_TT K G) (hX : xf (fun b j => (b = am ∧ j = 0) ∨ (b = aw ∧ j = 4) ∨ (b = aw ∧ 45 ≤ j ∧ j ≤ 113)) G0 G) (k_am : K am = some 13) (k_aw : K aw = some 46) (h1 : et_pl (eg_at G am) 1 = some (.ref aw)) (ht : et_pl (eg_at G am) 0 = some (.int (Int32.ofNat 0))) (h4 : et_pl (eg_at G aw) 4 = some (.int (Int32.ofNat (e + 1)))) (he : e < 3) (hi : i ≤ 23) : et_go none d 222 49 [some (.ref am), some (.int (Int32.ofNat e)), some (.int (Int32.ofNat i))] [] G 0 0 (xw_Z (fun b j => (b = am ∧ j = 0) ∨ (b = aw ∧ j = 4) ∨ (b = aw ∧ 45 ≤ j ∧ j ≤ 113)) K G0 (fun G' v => (e < 3 ∧ v = some (.int (Int32.ofNat e)) ∧ et_pl (eg_at G' am) 0 = some (.int (Int32.ofNat 0)) ∧ et_pl (eg_at G' aw) 4 = some (.int (Int32.ofNat (e + 1)))) ∨ (¬ e < 3 ∧ et_pl (eg_at G' am) 0 = some (.int (Int32.ofNat 1)) ∧ et_pl (eg_at G' aw) 4 = some (.int (Int32.ofNat e))))) := by
  induction hm : 23 - i using Nat.strongRecOn generalizing i G with
  | _ z ih =>
    have lt_am := (hH.2.2 _ _ k_am).1
    have lt_aw := (hH.2.2 _ _ k_aw).1
    refine hs_iload (i := 2) (p := 50) (by decide +kernel) rfl ?_
    refine hs_k (x := Int32.ofNat 23) (p := 52) (by decide +kernel) ?_
    refine hs_br2n (c := .ge) (t := 76) (f := 55) (by decide +kernel) (by omega) (by omega) (fun (c52 : 23 ≤ i) => ?_) (fun (c52 : ¬ (23 ≤ i)) => ?_)
    · refine hs_iload (i := 1) (p := 77) (by decide +kernel) rfl ?_
      refine hs_iret (by decide +kernel) ?_
      exact ⟨_, _, rfl, hH, hX, .inl ⟨by omega, rfl, ht, h4⟩⟩
    · refine hs_aload (i := 0) (p := 56) (by decide +kernel) rfl ?_
      refine hf_get (T := et_TT) (t := 13) (ci := 11) (f := 1) (p := 59) (by decide +kernel) rfl hH k_am h1 ?_
      refine hs_k (x := Int32.ofNat 45) (p := 61) (by decide +kernel) ?_
      refine hs_k (x := Int32.ofNat 23) (p := 63) (by decide +kernel) ?_
      refine hs_iload (i := 1) (p := 64) (by decide +kernel) rfl ?_
      refine hs_imuln (p := 65) (by decide +kernel) ?_
      refine hs_iaddn (p := 66) (by decide +kernel) ?_
      refine hs_iload (i := 2) (p := 67) (by decide +kernel) rfl ?_
      refine hs_iaddn (p := 68) (by decide +kernel) ?_
      refine hs_k (x := Int32.ofNat 0) (p := 69) (by decide +kernel) ?_
      refine hf_wst (p := 70) (by decide +kernel) hH k_aw (by omega) hf_w0 (fun G69 hH x69 e69 => ?_)
      have h1 := (x69.2 am 1 lt_am (fun h => (hi_ne k_am k_aw (by decide)) h.1)).trans h1
      have ht := (x69.2 am 0 lt_am (fun h => (hi_ne k_am k_aw (by decide)) h.1)).trans ht
      have h4 := (x69.2 aw 4 lt_aw (fun h => by have h := h.2; omega)).trans h4
      have lt_am := Nat.lt_of_lt_of_le lt_am x69.1
      have lt_aw := Nat.lt_of_lt_of_le lt_aw x69.1
      have hX := hX.tr x69 (fun b j hb h => by first | omega | (dsimp only at h ⊢; omega) | (dsimp only at h; omega) | (dsimp only; omega))
      refine hs_iinc1 (i := 2) (p := 73) (by decide +kernel) rfl (Nat.le_of_ble_eq_true rfl) ?_
      refine hs_goto (p := 49) (by decide +kernel) ?_
      show et_go none d 222 49 [some (.ref am), some (.int (Int32.ofNat e)), some (.int (Int32.ofNat (i + 1)))] [] _ _ _ _
      exact ih (23 - (i + 1)) (by omega) hH hX h1 ht h4 (by omega) rfl
theorem fm_eye (hH : et_H et_TT K G) (k_am : K am = some 13) (k_aw : K aw = some 46) (h1 : et_pl (eg_at G am) 1 = some (.ref aw)) (h4 : et_pl (eg_at G aw) 4 = some (.int (Int32.ofNat e))) (he : e ≤ 3) (hd : 1 ≤ d2) : et_go none d2 222 0 (eg_en (eg_mL 222) [.ref am]) [] G 0 0 (xw_Z (fun b j => (b = am ∧ j = 0) ∨ (b = aw ∧ j = 4) ∨ (b = aw ∧ 45 ≤ j ∧ j ≤ 113)) K G (fun G' v => (e < 3 ∧ v = some (.int (Int32.ofNat e)) ∧ et_pl (eg_at G' am) 0 = some (.int (Int32.ofNat 0)) ∧ et_pl (eg_at G' aw) 4 = some (.int (Int32.ofNat (e + 1)))) ∨ (¬ e < 3 ∧ et_pl (eg_at G' am) 0 = some (.int (Int32.ofNat 1)) ∧ et_pl (eg_at G' aw) 4 = some (.int (Int32.ofNat e))))) := by
  obtain ⟨d, rfl⟩ : ∃ d, d2 = d + 1 := ⟨d2 - 1, by omega⟩
  rw [show eg_mL 222 = 3 from by decide +kernel]
  show et_go none (d + 1) 222 0 [some (.ref am), none, none] [] G 0 0 _
  have lt_am := (hH.2.2 _ _ k_am).1
  have lt_aw := (hH.2.2 _ _ k_aw).1
  have hX : xf (fun b j => (b = am ∧ j = 0) ∨ (b = aw ∧ j = 4) ∨ (b = aw ∧ (45 ≤ j ∧ j ≤ 113))) G G := xf.rf
  refine hs_aload (i := 0) (p := 1) (by decide +kernel) rfl ?_
  refine hs_k (x := Int32.ofNat 0) (p := 2) (by decide +kernel) ?_
  refine hf_put (T := et_TT) (t := 13) (ci := 11) (f := 0) (p := 5) (ty := .int) (by decide +kernel) rfl rfl rfl rfl rfl hH k_am hi_any (fun G2 hH x2 e2 => ?_)
  have h1 := (x2.2 am 1 lt_am (fun h => absurd h.2 (by decide))).trans h1
  have h4 := (x2.2 aw 4 lt_aw (fun h => (hi_ne k_aw k_am (by decide)) h.1)).trans h4
  have lt_am := Nat.lt_of_lt_of_le lt_am x2.1
  have lt_aw := Nat.lt_of_lt_of_le lt_aw x2.1
  have hX := hX.tr x2 (fun b j hb h => by first | omega | (dsimp only at h ⊢; omega) | (dsimp only at h; omega) | (dsimp only; omega))
  refine hs_aload (i := 0) (p := 6) (by decide +kernel) rfl ?_
  refine hs_aload (i := 0) (p := 7) (by decide +kernel) rfl ?_
  refine hf_get (T := et_TT) (t := 13) (ci := 11) (f := 1) (p := 10) (by decide +kernel) rfl hH k_am h1 ?_
  refine hs_k (x := Int32.ofNat 4) (p := 11) (by decide +kernel) ?_
  refine hf_ald (ins := .iaload) (T := et_TT) (t := 46) (kd := 0) (N := 12741) (p := 12) (by decide +kernel) (fun _ _ _ _ _ _ _ _ _ _ => rfl) rfl rfl rfl hH k_aw (by decide) h4 ?_
  refine hs_k (x := Int32.ofNat 3) (p := 13) (by decide +kernel) ?_
  refine hs_br2n (c := .ne) (t := 20) (f := 16) (by decide +kernel) (by omega) (by omega) (fun (c13 : ¬ e = 3) => ?_) (fun (c13 : ¬ (¬ e = 3)) => ?_)
  · refine hs_k (x := Int32.ofNat 0) (p := 21) (by decide +kernel) ?_
    refine hs_k (x := Int32.ofNat 1) (p := 22) (by decide +kernel) ?_
    refine ht_callv (T := et_TT) (t := 13) (mi := 204) (na := 2) (ci := 11) (lk := 3) (lm := 3) (L0 := eg_en (eg_mL 204) [.ref am, .int (Int32.ofNat 0), .int (Int32.ofNat 1)]) (by decide +kernel) rfl hH k_am rfl rfl rfl rfl rfl (by rw [show eg_mL 204 = 3 from by decide +kernel]; first | done | rfl) ?_
    refine (fm_thr (x := Int32.ofNat 0) hH k_am (.inl rfl)).mono (fun u hu => xw_cb hu (fun G22 v22 hH x22 hP22 => ?_))
    obtain ⟨rfl, ⟨-, rfl⟩ | ⟨hz, -⟩⟩ := hP22
    rotate_left
    · exact absurd rfl hz
    show et_go none _ 222 25 _ [.int (Int32.ofNat 0)] _ _ _ _
    refine hs_if1 (c := .eq) (t := 30) (f := 28) (by decide +kernel) (show Int32.ofNat 0 = 0 by decide) ?_
    refine hs_aload (i := 0) (p := 31) (by decide +kernel) rfl ?_
    refine hf_get (T := et_TT) (t := 13) (ci := 11) (f := 1) (p := 34) (by decide +kernel) rfl hH k_am h1 ?_
    refine hs_k (x := Int32.ofNat 4) (p := 35) (by decide +kernel) ?_
    refine hf_ald (ins := .iaload) (T := et_TT) (t := 46) (kd := 0) (N := 12741) (p := 36) (by decide +kernel) (fun _ _ _ _ _ _ _ _ _ _ => rfl) rfl rfl rfl hH k_aw (by decide) h4 ?_
    refine hs_istore (i := 1) (p := 37) (by decide +kernel) (Nat.le_of_ble_eq_true rfl) ?_
    refine hs_aload (i := 0) (p := 38) (by decide +kernel) rfl ?_
    refine hf_get (T := et_TT) (t := 13) (ci := 11) (f := 1) (p := 41) (by decide +kernel) rfl hH k_am h1 ?_
    refine hs_k (x := Int32.ofNat 4) (p := 42) (by decide +kernel) ?_
    refine hs_dup2 (p := 43) (by decide +kernel) ?_
    refine hf_ald (ins := .iaload) (T := et_TT) (t := 46) (kd := 0) (N := 12741) (p := 44) (by decide +kernel) (fun _ _ _ _ _ _ _ _ _ _ => rfl) rfl rfl rfl hH k_aw (by decide) h4 ?_
    refine hs_k (x := Int32.ofNat 1) (p := 45) (by decide +kernel) ?_
    refine hs_iaddn (p := 46) (by decide +kernel) ?_
    refine hf_wst (p := 47) (by decide +kernel) hH k_aw (by omega) (hf_wk (p := .inl (0, 3)) (by decide +kernel) (hi_nv (by omega) (by omega))) (fun G46 hH x46 e46 => ?_)
    have h1 := (x46.2 am 1 lt_am (fun h => (hi_ne k_am k_aw (by decide)) h.1)).trans h1
    have e2 := (x46.2 am 0 lt_am (fun h => (hi_ne k_am k_aw (by decide)) h.1)).trans e2
    have lt_am := Nat.lt_of_lt_of_le lt_am x46.1
    have lt_aw := Nat.lt_of_lt_of_le lt_aw x46.1
    have hX := hX.tr x46 (fun b j hb h => by first | omega | (dsimp only at h ⊢; omega) | (dsimp only at h; omega) | (dsimp only; omega))
    refine hs_k (x := Int32.ofNat 0) (p := 48) (by decide +kernel) ?_
    refine hs_istore (i := 2) (p := 49) (by decide +kernel) (Nat.le_of_ble_eq_true rfl) ?_
    show et_go none _ 222 49 [some (.ref am), some (.int (Int32.ofNat e)), some (.int (Int32.ofNat 0))] [] _ _ _ _
    exact fm_eyeL hH hX k_am k_aw h1 e2 e46 (by omega) (by omega)
  · refine hs_k (x := Int32.ofNat 1) (p := 17) (by decide +kernel) ?_
    refine hs_goto (p := 21) (by decide +kernel) ?_
    refine hs_k (x := Int32.ofNat 1) (p := 22) (by decide +kernel) ?_
    refine ht_callv (T := et_TT) (t := 13) (mi := 204) (na := 2) (ci := 11) (lk := 3) (lm := 3) (L0 := eg_en (eg_mL 204) [.ref am, .int (Int32.ofNat 1), .int (Int32.ofNat 1)]) (by decide +kernel) rfl hH k_am rfl rfl rfl rfl rfl (by rw [show eg_mL 204 = 3 from by decide +kernel]; first | done | rfl) ?_
    refine (fm_thr (x := Int32.ofNat 1) hH k_am (.inr rfl)).mono (fun u hu => xw_cb hu (fun G22 v22 hH x22 hP22 => ?_))
    have h1 := (x22.2 am 1 lt_am (fun h => absurd h.2 (by decide))).trans h1
    have h4 := (x22.2 aw 4 lt_aw (fun h => (hi_ne k_aw k_am (by decide)) h.1)).trans h4
    have lt_am := Nat.lt_of_lt_of_le lt_am x22.1
    have lt_aw := Nat.lt_of_lt_of_le lt_aw x22.1
    have hX := hX.tr x22 (fun b j hb h => by first | omega | (dsimp only at h ⊢; omega) | (dsimp only at h; omega) | (dsimp only; omega))
    obtain ⟨rfl, ⟨hz, -⟩ | ⟨-, e22⟩⟩ := hP22
    · exact absurd hz (by decide)
    show et_go none _ 222 25 _ [.int (Int32.ofNat 1)] _ _ _ _
    refine hs_if0 (c := .eq) (t := 30) (f := 28) (by decide +kernel) (show ¬ (Int32.ofNat 1 = 0) by decide) ?_
    refine hs_k (x := Int32.ofNat 0) (p := 29) (by decide +kernel) ?_
    refine hs_iret (by decide +kernel) ?_
    exact ⟨_, _, rfl, hH, hX, .inr ⟨by omega, e22, h4⟩⟩
end FGA
