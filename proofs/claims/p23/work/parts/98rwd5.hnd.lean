section
/-! PHASE D: together -/
/-- how many of the first EYES say YES -/
def nyE (V : Nat → evT) (x : Int32) : Nat → Nat
  | 0 => 0
  | m + 1 => nyE V x m + (if (V m).2.2.2.2.1 < suN (V m).2.1 (V m).2.2.1 (V m).2.2.2.1 x (V m).1 then 1 else 0)
theorem nyE_le (V : Nat → evT) (x : Int32) : ∀ m, nyE V x m ≤ m
  | 0 => Nat.le_refl 0
  | m + 1 => by
    have h := nyE_le V x m
    show nyE V x m + (if _ then 1 else 0) ≤ m + 1
    split <;> omega
theorem nyE_y {V : Nat → evT} {x : Int32} {m : Nat} (h : (V m).2.2.2.2.1 < suN (V m).2.1 (V m).2.2.1 (V m).2.2.2.1 x (V m).1) : nyE V x (m + 1) = nyE V x m + 1 := by
  show nyE V x m + (if _ then 1 else 0) = _
  rw [if_pos h]
theorem nyE_n {V : Nat → evT} {x : Int32} {m : Nat} (h : ¬ ((V m).2.2.2.2.1 < suN (V m).2.1 (V m).2.2.1 (V m).2.2.2.1 x (V m).1)) : nyE V x (m + 1) = nyE V x m := by
  show nyE V x m + (if _ then 1 else 0) = _
  rw [if_neg h]
  rfl
section YAA
variable {K : et_K} {G : eg_G} {d d2 th s0 s1 ya yb ec am aw m k out : Nat} {O : Nat → Nat} {A : Nat → Nat → Nat} {V : Nat → evT} {x y : Int32}
theorem fc_nyL (hH : et_H et_TT K G) (k_s0 : K s0 = some 10) (h5 : et_pl (eg_at G s0) 5 = some (.int (Int32.ofNat ec))) (hec : ec ≤ 3) (t : ezK K ya yb O A) (hz : ez G th s0 s1 ya yb O A V) (ho : ∀ n, n < 6 → evo (V n)) (hm : m ≤ ec) : et_go none (d + 4) 103 4 [some (.ref s0), some (.int x), some (.int (Int32.ofNat (nyE V x m))), some (.int (Int32.ofNat m))] [] G 0 0 (xp_Z G (some (.int (Int32.ofNat (nyE V x ec))))) := by
  have k_ya := t.1.1
  have h6 := hz.1.1
  induction hq9 : ec - m using Nat.strongRecOn generalizing m with
  | _ q9 ih =>
    have lt_s0 := (hH.2.2 _ _ k_s0).1
    have lt_ya := (hH.2.2 _ _ k_ya).1
    refine hs_iload (i := 3) (p := 5) (by decide +kernel) rfl ?_
    refine hs_aload (i := 0) (p := 6) (by decide +kernel) rfl ?_
    refine hf_get (T := et_TT) (t := 10) (ci := 8) (f := 5) (p := 9) (by decide +kernel) rfl hH k_s0 h5 ?_
    refine hs_br2n (c := .ge) (t := 34) (f := 12) (by decide +kernel) (by omega) (by omega) (fun (c9 : ec ≤ m) => ?_) (fun (c9 : ¬ (ec ≤ m)) => ?_)
    · refine hs_iload (i := 2) (p := 35) (by decide +kernel) rfl ?_
      refine hs_iret (by decide +kernel) ?_
      obtain rfl : m = ec := by omega
      rfl
    · refine hs_aload (i := 0) (p := 13) (by decide +kernel) rfl ?_
      refine hf_get (T := et_TT) (t := 10) (ci := 8) (f := 6) (p := 16) (by decide +kernel) rfl hH k_s0 h6 ?_
      refine hs_iload (i := 3) (p := 17) (by decide +kernel) rfl ?_
      refine hf_ald (ins := .aaload) (T := et_TT) (t := 40) (kd := 6) (N := 3) (p := 18) (by decide +kernel) (fun _ _ _ _ _ _ _ _ _ _ => rfl) rfl rfl rfl hH k_ya (by decide) (hz.2.1 m (by omega)).1 ?_
      have k__O_m_ := (t.2.1 m (by omega)).1
      have lt__O_m_ := (hH.2.2 _ _ k__O_m_).1
      refine hs_iload (i := 1) (p := 19) (by decide +kernel) rfl ?_
      refine ht_callv (T := et_TT) (t := 3) (mi := 32) (na := 1) (ci := 1) (lk := 4) (lm := 2) (L0 := eg_en (eg_mL 32) [.ref (O m), .int x]) (by decide +kernel) rfl hH k__O_m_ rfl rfl rfl rfl rfl (by rw [show eg_mL 32 = 2 from by decide +kernel]; first | done | rfl) ?_
      refine (fd_says hH (t.ev (ho m (by omega)) (by omega)) (hz.2.2.1 m (by omega)) (by omega)).mono (fun u hu => xp_cb hu ?_)
      by_cases qs : (V m).2.2.2.2.1 < suN (V m).2.1 (V m).2.2.1 (V m).2.2.2.1 x (V m).1
      · rw [if_pos qs]
        show et_go none _ 103 22 _ [.int (Int32.ofNat 1)] _ _ _ _
        refine hs_if0 (c := .eq) (t := 28) (f := 25) (by decide +kernel) (show ¬ (Int32.ofNat 1 = 0) by decide) ?_
        refine hs_iinc1 (i := 2) (p := 28) (by decide +kernel) rfl (Nat.le_of_ble_eq_true rfl) ?_
        refine hs_iinc1 (i := 3) (p := 31) (by decide +kernel) rfl (Nat.le_of_ble_eq_true rfl) ?_
        refine hs_goto (p := 4) (by decide +kernel) ?_
        have h9 := @ih (ec - (m + 1)) (by omega) (m + 1) (by omega) rfl
        rw [nyE_y qs] at h9
        exact h9
      · rw [if_neg qs]
        show et_go none _ 103 22 _ [.int (Int32.ofNat 0)] _ _ _ _
        refine hs_if1 (c := .eq) (t := 28) (f := 25) (by decide +kernel) (show Int32.ofNat 0 = 0 by decide) ?_
        refine hs_iinc1 (i := 3) (p := 31) (by decide +kernel) rfl (Nat.le_of_ble_eq_true rfl) ?_
        refine hs_goto (p := 4) (by decide +kernel) ?_
        have h9 := @ih (ec - (m + 1)) (by omega) (m + 1) (by omega) rfl
        rw [nyE_n qs] at h9
        exact h9
theorem fc_ny (hH : et_H et_TT K G) (k_s0 : K s0 = some 10) (h5 : et_pl (eg_at G s0) 5 = some (.int (Int32.ofNat ec))) (hec : ec ≤ 3) (t : ezK K ya yb O A) (hz : ez G th s0 s1 ya yb O A V) (ho : ∀ n, n < 6 → evo (V n)) (hd : 4 ≤ d2) : et_go none d2 103 0 (eg_en (eg_mL 103) [.ref s0, .int x]) [] G 0 0 (xp_Z G (some (.int (Int32.ofNat (nyE V x ec))))) := by
  obtain ⟨d, rfl⟩ : ∃ d, d2 = d + 4 := ⟨d2 - 4, by omega⟩
  rw [show eg_mL 103 = 4 from by decide +kernel]
  show et_go none (d + 4) 103 0 [some (.ref s0), some (.int x), none, none] [] G 0 0 _
  have lt_s0 := (hH.2.2 _ _ k_s0).1
  refine hs_k (x := Int32.ofNat 0) (p := 1) (by decide +kernel) ?_
  refine hs_istore (i := 2) (p := 2) (by decide +kernel) (Nat.le_of_ble_eq_true rfl) ?_
  refine hs_k (x := Int32.ofNat 0) (p := 3) (by decide +kernel) ?_
  refine hs_istore (i := 3) (p := 4) (by decide +kernel) (Nat.le_of_ble_eq_true rfl) ?_
  exact fc_nyL (m := 0) hH k_s0 h5 hec t hz ho (Nat.zero_le _)
theorem fn_nyL (hH : et_H et_TT K G) (k_am : K am = some 13) (k_aw : K aw = some 46) (m1 : et_pl (eg_at G am) 1 = some (.ref aw)) (w4 : et_pl (eg_at G aw) 4 = some (.int (Int32.ofNat ec))) (hec : ec ≤ 3) (hm : zyM G aw ec V) (ho : ∀ n, n < 3 → evo (V n)) (hq : m ≤ ec) (hk : k ≤ 3) : et_go none (d + 7) 286 5 [some (.ref am), some (.int (Int32.ofNat k)), some (.int x), some (.int (Int32.ofNat (nyE V x m))), some (.int (Int32.ofNat m))] [] G 0 0 (xp_Z G (some (.int (Int32.ofNat (if k ≤ nyE V x ec then 1 else 0))))) := by
  induction hq9 : ec - m using Nat.strongRecOn generalizing m with
  | _ q9 ih =>
    have hny := nyE_le V x m
    have lt_am := (hH.2.2 _ _ k_am).1
    have lt_aw := (hH.2.2 _ _ k_aw).1
    refine hs_iload (i := 4) (p := 7) (by decide +kernel) rfl ?_
    refine hs_aload (i := 0) (p := 8) (by decide +kernel) rfl ?_
    refine hf_get (T := et_TT) (t := 13) (ci := 11) (f := 1) (p := 11) (by decide +kernel) rfl hH k_am m1 ?_
    refine hs_k (x := Int32.ofNat 4) (p := 12) (by decide +kernel) ?_
    refine hf_ald (ins := .iaload) (T := et_TT) (t := 46) (kd := 0) (N := 12741) (p := 13) (by decide +kernel) (fun _ _ _ _ _ _ _ _ _ _ => rfl) rfl rfl rfl hH k_aw (by decide) w4 ?_
    refine hs_br2n (c := .ge) (t := 40) (f := 16) (by decide +kernel) (by omega) (by omega) (fun (c13 : ec ≤ m) => ?_) (fun (c13 : ¬ (ec ≤ m)) => ?_)
    · refine hs_iload (i := 3) (p := 41) (by decide +kernel) rfl ?_
      refine hs_iload (i := 1) (p := 42) (by decide +kernel) rfl ?_
      refine hs_br2n (c := .lt) (t := 49) (f := 45) (by decide +kernel) (by omega) (by omega) (fun (c42 : (nyE V x m) < k) => ?_) (fun (c42 : ¬ ((nyE V x m) < k)) => ?_)
      · refine hs_k (x := Int32.ofNat 0) (p := 50) (by decide +kernel) ?_
        refine hs_zret (by decide +kernel) (.inl rfl) ?_
        obtain rfl : m = ec := by omega
        rw [if_neg (by omega)]
        rfl
      · refine hs_k (x := Int32.ofNat 1) (p := 46) (by decide +kernel) ?_
        refine hs_goto (p := 50) (by decide +kernel) ?_
        refine hs_zret (by decide +kernel) (.inr rfl) ?_
        obtain rfl : m = ec := by omega
        rw [if_pos (by omega)]
        rfl
    · refine hs_iload (i := 3) (p := 17) (by decide +kernel) rfl ?_
      refine hs_aload (i := 0) (p := 18) (by decide +kernel) rfl ?_
      refine hs_iload (i := 4) (p := 20) (by decide +kernel) rfl ?_
      refine hs_iload (i := 2) (p := 21) (by decide +kernel) rfl ?_
      refine ht_callv (T := et_TT) (t := 13) (mi := 235) (na := 2) (ci := 11) (lk := 5) (lm := 3) (L0 := eg_en (eg_mL 235) [.ref am, .int (Int32.ofNat m), .int x]) (by decide +kernel) rfl hH k_am rfl rfl rfl rfl rfl (by rw [show eg_mL 235 = 3 from by decide +kernel]; first | done | rfl) ?_
      refine (fn_says hH k_am k_aw m1 (by omega) (ho m (by omega)).1.1 (ho m (by omega)).1.2 ((hm m (by omega)).1 (by omega)) (by omega)).mono (fun u hu => xp_cb hu ?_)
      by_cases qs : (V m).2.2.2.2.1 < suN (V m).2.1 (V m).2.2.1 (V m).2.2.2.1 x (V m).1
      · rw [if_pos qs]
        show et_go none _ 286 24 _ [.int (Int32.ofNat 1), .int (Int32.ofNat (nyE V x m))] _ _ _ _
        refine hs_if0 (c := .eq) (t := 31) (f := 27) (by decide +kernel) (show ¬ (Int32.ofNat 1 = 0) by decide) ?_
        refine hs_k (x := Int32.ofNat 1) (p := 28) (by decide +kernel) ?_
        refine hs_goto (p := 32) (by decide +kernel) ?_
        refine hs_iaddn (p := 33) (by decide +kernel) ?_
        refine hs_istore (i := 3) (p := 34) (by decide +kernel) (Nat.le_of_ble_eq_true rfl) ?_
        refine hs_iinc1 (i := 4) (p := 37) (by decide +kernel) rfl (Nat.le_of_ble_eq_true rfl) ?_
        refine hs_goto (p := 5) (by decide +kernel) ?_
        have h9 := @ih (ec - (m + 1)) (by omega) (m + 1) (by omega) rfl
        rw [nyE_y qs] at h9
        exact h9
      · rw [if_neg qs]
        show et_go none _ 286 24 _ [.int (Int32.ofNat 0), .int (Int32.ofNat (nyE V x m))] _ _ _ _
        refine hs_if1 (c := .eq) (t := 31) (f := 27) (by decide +kernel) (show Int32.ofNat 0 = 0 by decide) ?_
        refine hs_k (x := Int32.ofNat 0) (p := 32) (by decide +kernel) ?_
        refine hs_iaddn (p := 33) (by decide +kernel) ?_
        refine hs_istore (i := 3) (p := 34) (by decide +kernel) (Nat.le_of_ble_eq_true rfl) ?_
        refine hs_iinc1 (i := 4) (p := 37) (by decide +kernel) rfl (Nat.le_of_ble_eq_true rfl) ?_
        refine hs_goto (p := 5) (by decide +kernel) ?_
        have h9 := @ih (ec - (m + 1)) (by omega) (m + 1) (by omega) rfl
        rw [nyE_n qs] at h9
        exact h9
theorem fn_ny (hH : et_H et_TT K G) (k_am : K am = some 13) (k_aw : K aw = some 46) (m1 : et_pl (eg_at G am) 1 = some (.ref aw)) (w4 : et_pl (eg_at G aw) 4 = some (.int (Int32.ofNat ec))) (hec : ec ≤ 3) (hm : zyM G aw ec V) (ho : ∀ n, n < 3 → evo (V n)) (hk : k ≤ 3) (hd : 7 ≤ d2) : et_go none d2 286 0 (eg_en (eg_mL 286) [.ref am, .int (Int32.ofNat k), .int x]) [] G 0 0 (xp_Z G (some (.int (Int32.ofNat (if k ≤ nyE V x ec then 1 else 0))))) := by
  obtain ⟨d, rfl⟩ : ∃ d, d2 = d + 7 := ⟨d2 - 7, by omega⟩
  rw [show eg_mL 286 = 5 from by decide +kernel]
  show et_go none (d + 7) 286 0 [some (.ref am), some (.int (Int32.ofNat k)), some (.int x), none, none] [] G 0 0 _
  have lt_am := (hH.2.2 _ _ k_am).1
  have lt_aw := (hH.2.2 _ _ k_aw).1
  refine hs_k (x := Int32.ofNat 0) (p := 1) (by decide +kernel) ?_
  refine hs_istore (i := 3) (p := 2) (by decide +kernel) (Nat.le_of_ble_eq_true rfl) ?_
  refine hs_k (x := Int32.ofNat 0) (p := 3) (by decide +kernel) ?_
  refine hs_istore (i := 4) (p := 5) (by decide +kernel) (Nat.le_of_ble_eq_true rfl) ?_
  exact fn_nyL (m := 0) hH k_am k_aw m1 w4 hec hm ho (Nat.zero_le _) hk
theorem fd_needL (hl : (0 ≤ x.toInt ∧ x.toInt < 65536)) : et_go none d2 135 0 (eg_en (eg_mL 135) [.int x]) [] G 0 0 (xp_Z G none) := by
  rw [show eg_mL 135 = 1 from by decide +kernel]
  show et_go none d2 135 0 [some (.int x)] [] G 0 0 _
  refine hs_iload (i := 0) (p := 1) (by decide +kernel) rfl ?_
  refine hs_br1 (c := .lt) (t := 11) (f := 4) (by decide +kernel) (fun (c1 : x < 0) => ?_) (fun (c1 : ¬ (x < 0)) => ?_)
  · exact absurd hl.1 (by rw [xi_lt0] at c1; omega)
  · refine hs_iload (i := 0) (p := 5) (by decide +kernel) rfl ?_
    refine hs_kld (v := .int 65536) (p := 8) (by decide +kernel) ?_
    refine hs_br2 (c := .lt) (t := 19) (f := 11) (by decide +kernel) (fun (c8 : x < 65536) => ?_) (fun (c8 : ¬ (x < 65536)) => ?_)
    · refine hs_vret (by decide +kernel) ?_
      rfl
    · exact absurd hl.2 (by rw [Int32.lt_iff_toInt_lt] at c8; have h65 : (65536 : Int32).toInt = 65536 := rfl; omega)
theorem fd_needLn (hl : ¬ (0 ≤ x.toInt ∧ x.toInt < 65536)) : et_go none d2 135 0 (eg_en (eg_mL 135) [.int x]) [] G 0 0 (ix_Z 0 G) := by
  rw [show eg_mL 135 = 1 from by decide +kernel]
  show et_go none d2 135 0 [some (.int x)] [] G 0 0 _
  refine hs_iload (i := 0) (p := 1) (by decide +kernel) rfl ?_
  refine hs_br1 (c := .lt) (t := 11) (f := 4) (by decide +kernel) (fun (c1 : x < 0) => ?_) (fun (c1 : ¬ (x < 0)) => ?_)
  · refine hs_thr (x := 0) (lk := 1) (by decide +kernel) rfl rfl ?_
    exact ⟨_, _, rfl⟩
  · refine hs_iload (i := 0) (p := 5) (by decide +kernel) rfl ?_
    refine hs_kld (v := .int 65536) (p := 8) (by decide +kernel) ?_
    refine hs_br2 (c := .lt) (t := 19) (f := 11) (by decide +kernel) (fun (c8 : x < 65536) => ?_) (fun (c8 : ¬ (x < 65536)) => ?_)
    · exact absurd (show _ ∧ _ from ⟨by rw [xi_lt0] at c1; omega, by rw [Int32.lt_iff_toInt_lt] at c8; have h65 : (65536 : Int32).toInt = 65536 := rfl; omega⟩) hl
    · refine hs_thr (x := 0) (lk := 1) (by decide +kernel) rfl rfl ?_
      exact ⟨_, _, rfl⟩
theorem fc_tog (hH : et_H et_TT K G) (k_th : K th = some 12) (h0 : et_pl (eg_at G th) 0 = some (.ref s0)) (k_s0 : K s0 = some 10) (h5 : et_pl (eg_at G s0) 5 = some (.int (Int32.ofNat ec))) (hec : ec ≤ 3) (t : ezK K ya yb O A) (hz : ez G th s0 s1 ya yb O A V) (ho : ∀ n, n < 6 → evo (V n)) (hk : 1 ≤ k ∧ k ≤ 3) (hl : (0 ≤ x.toInt ∧ x.toInt < 65536)) (hd : 5 ≤ d2) : et_go none d2 170 0 (eg_en (eg_mL 170) [.ref th, .int (Int32.ofNat k), .int x]) [] G 0 0 (xp_Z G (some (.int (Int32.ofNat (if k ≤ nyE V x ec then 1 else 0))))) := by
  obtain ⟨d, rfl⟩ : ∃ d, d2 = d + 5 := ⟨d2 - 5, by omega⟩
  have hny := nyE_le V x ec
  rw [show eg_mL 170 = 3 from by decide +kernel]
  show et_go none (d + 5) 170 0 [some (.ref th), some (.int (Int32.ofNat k)), some (.int x)] [] G 0 0 _
  have lt_th := (hH.2.2 _ _ k_th).1
  have lt_s0 := (hH.2.2 _ _ k_s0).1
  refine hs_iload (i := 1) (p := 1) (by decide +kernel) rfl ?_
  refine hs_k (x := Int32.ofNat 1) (p := 2) (by decide +kernel) ?_
  refine hs_br2n (c := .lt) (t := 10) (f := 5) (by decide +kernel) (by omega) (by omega) (fun (c2 : k < 1) => ?_) (fun (c2 : ¬ (k < 1)) => ?_)
  · exact absurd hk.1 (by omega)
  · refine hs_iload (i := 1) (p := 6) (by decide +kernel) rfl ?_
    refine hs_k (x := Int32.ofNat 3) (p := 7) (by decide +kernel) ?_
    refine hs_br2n (c := .le) (t := 18) (f := 10) (by decide +kernel) (by omega) (by omega) (fun (c7 : k ≤ 3) => ?_) (fun (c7 : ¬ (k ≤ 3)) => ?_)
    · refine hs_iload (i := 2) (p := 19) (by decide +kernel) rfl ?_
      refine hs_calls (mi := 135) (na := 1) (lk := 3) (lm := 1) (L0 := eg_en (eg_mL 135) [.int x]) (by decide +kernel) rfl rfl rfl rfl rfl rfl (by rw [show eg_mL 135 = 1 from by decide +kernel]; first | done | rfl) ?_
      refine (fd_needL hl).mono (fun u hu => xp_cb hu ?_)
      show et_go none _ 170 22 _ [] _ _ _ _
      refine hs_aload (i := 0) (p := 23) (by decide +kernel) rfl ?_
      refine hf_get (T := et_TT) (t := 12) (ci := 10) (f := 0) (p := 26) (by decide +kernel) rfl hH k_th h0 ?_
      refine hs_iload (i := 2) (p := 27) (by decide +kernel) rfl ?_
      refine ht_callv (T := et_TT) (t := 10) (mi := 103) (na := 1) (ci := 8) (lk := 3) (lm := 4) (L0 := eg_en (eg_mL 103) [.ref s0, .int x]) (by decide +kernel) rfl hH k_s0 rfl rfl rfl rfl rfl (by rw [show eg_mL 103 = 4 from by decide +kernel]; first | done | rfl) ?_
      refine (fc_ny hH k_s0 h5 hec t hz ho (by omega)).mono (fun u hu => xp_cb hu ?_)
      show et_go none _ 170 30 _ [.int (Int32.ofNat (nyE V x ec))] _ _ _ _
      refine hs_iload (i := 1) (p := 31) (by decide +kernel) rfl ?_
      refine hs_br2n (c := .lt) (t := 38) (f := 34) (by decide +kernel) (by omega) (by omega) (fun (c31 : (nyE V x ec) < k) => ?_) (fun (c31 : ¬ ((nyE V x ec) < k)) => ?_)
      · refine hs_k (x := Int32.ofNat 0) (p := 39) (by decide +kernel) ?_
        refine hs_zret (by decide +kernel) (.inl rfl) ?_
        rw [if_neg (by omega)]
        rfl
      · refine hs_k (x := Int32.ofNat 1) (p := 35) (by decide +kernel) ?_
        refine hs_goto (p := 39) (by decide +kernel) ?_
        refine hs_zret (by decide +kernel) (.inr rfl) ?_
        rw [if_pos (by omega)]
        rfl
    · exact absurd hk.2 (by omega)
theorem fc_togN (hH : et_H et_TT K G) (k_th : K th = some 12) (h0 : et_pl (eg_at G th) 0 = some (.ref s0)) (k_s0 : K s0 = some 10) (h5 : et_pl (eg_at G s0) 5 = some (.int (Int32.ofNat ec))) (hec : ec ≤ 3) (t : ezK K ya yb O A) (hz : ez G th s0 s1 ya yb O A V) (ho : ∀ n, n < 6 → evo (V n)) (hne : ¬ (1 ≤ y.toInt ∧ y.toInt ≤ 3 ∧ (0 ≤ x.toInt ∧ x.toInt < 65536))) (hd : 5 ≤ d2) : et_go none d2 170 0 (eg_en (eg_mL 170) [.ref th, .int y, .int x]) [] G 0 0 (ix_Z 0 G) := by
  obtain ⟨d, rfl⟩ : ∃ d, d2 = d + 5 := ⟨d2 - 5, by omega⟩
  rw [show eg_mL 170 = 3 from by decide +kernel]
  show et_go none (d + 5) 170 0 [some (.ref th), some (.int y), some (.int x)] [] G 0 0 _
  have lt_th := (hH.2.2 _ _ k_th).1
  have lt_s0 := (hH.2.2 _ _ k_s0).1
  refine hs_iload (i := 1) (p := 1) (by decide +kernel) rfl ?_
  refine hs_k (x := Int32.ofNat 1) (p := 2) (by decide +kernel) ?_
  refine hs_br2 (c := .lt) (t := 10) (f := 5) (by decide +kernel) (fun (c2 : y < Int32.ofNat 1) => ?_) (fun (c2 : ¬ (y < Int32.ofNat 1)) => ?_)
  · refine hs_thr (x := 0) (lk := 3) (by decide +kernel) rfl rfl ?_
    exact ⟨_, _, rfl⟩
  · refine hs_iload (i := 1) (p := 6) (by decide +kernel) rfl ?_
    refine hs_k (x := Int32.ofNat 3) (p := 7) (by decide +kernel) ?_
    refine hs_br2 (c := .le) (t := 18) (f := 10) (by decide +kernel) (fun (c7 : y ≤ Int32.ofNat 3) => ?_) (fun (c7 : ¬ (y ≤ Int32.ofNat 3)) => ?_)
    · have hl : ¬ (0 ≤ x.toInt ∧ x.toInt < 65536) := fun hl => hne ⟨by rw [xi_ltn (k := 1) (by decide)] at c2; omega, by rw [xi_len (k := 3) (by decide)] at c7; omega, hl⟩
      refine hs_iload (i := 2) (p := 19) (by decide +kernel) rfl ?_
      refine hs_calls (mi := 135) (na := 1) (lk := 3) (lm := 1) (L0 := eg_en (eg_mL 135) [.int x]) (by decide +kernel) rfl rfl rfl rfl rfl rfl (by rw [show eg_mL 135 = 1 from by decide +kernel]; first | done | rfl) ?_
      refine (fd_needLn hl).mono (fun u hu => ?_)
      obtain ⟨c19, s19, rfl⟩ := hu
      refine hf_cx (by decide +kernel) ?_
      exact ⟨_, _, rfl⟩
    · refine hs_thr (x := 0) (lk := 3) (by decide +kernel) rfl rfl ?_
      exact ⟨_, _, rfl⟩
theorem fh_tog (hH : et_H et_TT K G) (k_th : K th = some 12) (h0 : et_pl (eg_at G th) 0 = some (.ref s0)) (k_s0 : K s0 = some 10) (h5 : et_pl (eg_at G s0) 5 = some (.int (Int32.ofNat ec))) (hec : ec ≤ 3) (t : ezK K ya yb O A) (hz : ez G th s0 s1 ya yb O A V) (ho : ∀ n, n < 6 → evo (V n)) (k_out : K out = some 31) (hk : 1 ≤ k ∧ k ≤ 3) (hl : (0 ≤ x.toInt ∧ x.toInt < 65536)) (hd : 6 ≤ d2) : et_go none d2 27 0 (eg_en (eg_mL 27) [.ref th, .int (Int32.ofNat k), .int x, .ref out]) [] G 0 0 (fun u => u.1 = .inl (some (.int (Int32.ofNat 0))) ∧ et_pl (eg_at u.2.1 out) 0 = some (.long (Int64.ofNat (if k ≤ nyE V x ec then 1 else 0)))) := by
  obtain ⟨d, rfl⟩ : ∃ d, d2 = d + 6 := ⟨d2 - 6, by omega⟩
  rw [show eg_mL 27 = 5 from by decide +kernel]
  show et_go none (d + 6) 27 0 [some (.ref th), some (.int (Int32.ofNat k)), some (.int x), some (.ref out), none] [] G 0 0 _
  have lt_th := (hH.2.2 _ _ k_th).1
  have lt_s0 := (hH.2.2 _ _ k_s0).1
  have lt_out := (hH.2.2 _ _ k_out).1
  refine hs_aload (i := 3) (p := 1) (by decide +kernel) rfl ?_
  refine hs_k (x := Int32.ofNat 0) (p := 2) (by decide +kernel) ?_
  refine hs_aload (i := 0) (p := 3) (by decide +kernel) rfl ?_
  refine hs_iload (i := 1) (p := 4) (by decide +kernel) rfl ?_
  refine hs_iload (i := 2) (p := 5) (by decide +kernel) rfl ?_
  refine ht_callv (T := et_TT) (t := 12) (mi := 170) (na := 2) (ci := 10) (lk := 5) (lm := 3) (L0 := eg_en (eg_mL 170) [.ref th, .int (Int32.ofNat k), .int x]) (by decide +kernel) rfl hH k_th rfl rfl rfl rfl rfl (by rw [show eg_mL 170 = 3 from by decide +kernel]; first | done | rfl) ?_
  refine (fc_tog hH k_th h0 k_s0 h5 hec t hz ho hk hl (by omega)).mono (fun u hu => xp_cb hu ?_)
  by_cases hs9 : k ≤ nyE V x ec
  · rw [if_pos hs9]
    show et_go none _ 27 8 _ [.int (Int32.ofNat 1), .int (Int32.ofNat 0), .ref out] _ _ _ _
    refine hs_if0 (c := .eq) (t := 15) (f := 11) (by decide +kernel) (show ¬ (Int32.ofNat 1 = 0) by decide) ?_
    refine hs_st (ins := .lconst 1) (len := 1) (p := 12) (by decide +kernel) rfl rfl ?_
    refine hs_goto (p := 16) (by decide +kernel) ?_
    have hHo := hH
    refine hf_lst (T := et_TT) (t := 31) (N := 1) (p := 17) (by decide +kernel) rfl rfl hH k_out (by omega) (by decide) (fun G16 hH x16 e16 => ?_)
    have lt_th := Nat.lt_of_lt_of_le lt_th x16.1
    have lt_s0 := Nat.lt_of_lt_of_le lt_s0 x16.1
    have lt_out := Nat.lt_of_lt_of_le lt_out x16.1
    refine hs_goto (p := 24) (by decide +kernel) ?_
    refine hs_k (x := Int32.ofNat 0) (p := 25) (by decide +kernel) ?_
    refine hs_iret (by decide +kernel) ?_
    exact ⟨rfl, by first | exact e16 | (rw [if_pos hs9]; exact e16)⟩
  · rw [if_neg hs9]
    show et_go none _ 27 8 _ [.int (Int32.ofNat 0), .int (Int32.ofNat 0), .ref out] _ _ _ _
    refine hs_if1 (c := .eq) (t := 15) (f := 11) (by decide +kernel) (show Int32.ofNat 0 = 0 by decide) ?_
    refine hs_st (ins := .lconst 0) (len := 1) (p := 16) (by decide +kernel) rfl rfl ?_
    have hHo := hH
    refine hf_lst (T := et_TT) (t := 31) (N := 1) (p := 17) (by decide +kernel) rfl rfl hH k_out (by omega) (by decide) (fun G16 hH x16 e16 => ?_)
    have lt_th := Nat.lt_of_lt_of_le lt_th x16.1
    have lt_s0 := Nat.lt_of_lt_of_le lt_s0 x16.1
    have lt_out := Nat.lt_of_lt_of_le lt_out x16.1
    refine hs_goto (p := 24) (by decide +kernel) ?_
    refine hs_k (x := Int32.ofNat 0) (p := 25) (by decide +kernel) ?_
    refine hs_iret (by decide +kernel) ?_
    exact ⟨rfl, by first | exact e16 | (rw [if_neg hs9]; exact e16)⟩
theorem fh_togN (hH : et_H et_TT K G) (k_th : K th = some 12) (h0 : et_pl (eg_at G th) 0 = some (.ref s0)) (k_s0 : K s0 = some 10) (h5 : et_pl (eg_at G s0) 5 = some (.int (Int32.ofNat ec))) (hec : ec ≤ 3) (t : ezK K ya yb O A) (hz : ez G th s0 s1 ya yb O A V) (ho : ∀ n, n < 6 → evo (V n)) (hne : ¬ (1 ≤ y.toInt ∧ y.toInt ≤ 3 ∧ (0 ≤ x.toInt ∧ x.toInt < 65536))) (hd : 6 ≤ d2) : et_go none d2 27 0 (eg_en (eg_mL 27) [.ref th, .int y, .int x, .ref out]) [] G 0 0 (fun u => u.1 = .inl (some (.int (Int32.ofNat 1)))) := by
  obtain ⟨d, rfl⟩ : ∃ d, d2 = d + 6 := ⟨d2 - 6, by omega⟩
  rw [show eg_mL 27 = 5 from by decide +kernel]
  show et_go none (d + 6) 27 0 [some (.ref th), some (.int y), some (.int x), some (.ref out), none] [] G 0 0 _
  have lt_th := (hH.2.2 _ _ k_th).1
  refine hs_aload (i := 3) (p := 1) (by decide +kernel) rfl ?_
  refine hs_k (x := Int32.ofNat 0) (p := 2) (by decide +kernel) ?_
  refine hs_aload (i := 0) (p := 3) (by decide +kernel) rfl ?_
  refine hs_iload (i := 1) (p := 4) (by decide +kernel) rfl ?_
  refine hs_iload (i := 2) (p := 5) (by decide +kernel) rfl ?_
  refine ht_callv (T := et_TT) (t := 12) (mi := 170) (na := 2) (ci := 10) (lk := 5) (lm := 3) (L0 := eg_en (eg_mL 170) [.ref th, .int y, .int x]) (by decide +kernel) rfl hH k_th rfl rfl rfl rfl rfl (by rw [show eg_mL 170 = 3 from by decide +kernel]; first | done | rfl) ?_
  refine (fc_togN hH k_th h0 k_s0 h5 hec t hz ho hne (by omega)).mono (fun u hu => ?_)
  obtain ⟨c5, s5, rfl⟩ := hu
  refine hs_ch (h := 20) (i := 4) (n := 2) (hh := (eg_mh 27).getD []) (by decide +kernel) ⟨by decide +kernel, by decide +kernel⟩ (Nat.le_of_ble_eq_true rfl) ?_
  show et_go none _ 27 22 [some (.ref th), some (.int y), some (.int x), some (.ref out), none] [] _ _ _ _
  refine hs_k (x := Int32.ofNat 1) (p := 23) (by decide +kernel) ?_
  refine hs_iret (by decide +kernel) ?_
  rfl
theorem fz_tog (hH : et_H et_TT K G) (k_th : K th = some 12) (h0 : et_pl (eg_at G th) 0 = some (.ref s0)) (k_s0 : K s0 = some 10) (h5 : et_pl (eg_at G s0) 5 = some (.int (Int32.ofNat ec))) (hec : ec ≤ 3) (t : ezK K ya yb O A) (hz : ez G th s0 s1 ya yb O A V) (ho : ∀ n, n < 6 → evo (V n)) (k_out : K out = some 31) (hd : 6 ≤ d2) : et_go none d2 27 0 (eg_en (eg_mL 27) [.ref th, .int y, .int x, .ref out]) [] G 0 0 (fun u => (¬ (1 ≤ y.toInt ∧ y.toInt ≤ 3 ∧ (0 ≤ x.toInt ∧ x.toInt < 65536)) ∧ u.1 = .inl (some (.int (Int32.ofNat 1)))) ∨ ∃ k, ((y = Int32.ofNat k ∧ 1 ≤ k ∧ k ≤ 3) ∧ (0 ≤ x.toInt ∧ x.toInt < 65536)) ∧ u.1 = .inl (some (.int (Int32.ofNat 0))) ∧ et_pl (eg_at u.2.1 out) 0 = some (.long (Int64.ofNat (if k ≤ nyE V x ec then 1 else 0)))) := by
  by_cases hv : (1 ≤ y.toInt ∧ y.toInt ≤ 3 ∧ (0 ≤ x.toInt ∧ x.toInt < 65536))
  · obtain ⟨k, rfl, e2, e3⟩ := hs_toN (x := y) (by omega)
    exact (fh_tog hH k_th h0 k_s0 h5 hec t hz ho k_out ⟨by omega, by omega⟩ hv.2.2 hd).mono (fun u hu => .inr ⟨k, ⟨⟨rfl, by omega, by omega⟩, hv.2.2⟩, hu.1, hu.2⟩)
  · exact (fh_togN hH k_th h0 k_s0 h5 hec t hz ho hv hd).mono (fun u hu => .inl ⟨hv, hu⟩)
theorem gz_tog (hH : et_H et_TT K G) (k_am : K am = some 13) (k_aw : K aw = some 46) (m1 : et_pl (eg_at G am) 1 = some (.ref aw)) (w4 : et_pl (eg_at G aw) 4 = some (.int (Int32.ofNat ec))) (hec : ec ≤ 3) (hm : zyM G aw ec V) (ho : ∀ n, n < 3 → evo (V n)) (hd : 8 ≤ d2) : et_go none d2 285 0 (eg_en (eg_mL 285) [.ref am, .int y, .int x]) [] G 0 0 (fun u => (¬ (1 ≤ y.toInt ∧ y.toInt ≤ 3 ∧ (0 ≤ x.toInt ∧ x.toInt < 65536)) ∧ u.1 = .inl (some (.int (Int32.ofNat 0))) ∧ et_pl (eg_at u.2.1 am) 0 = some (.int (Int32.ofNat 1))) ∨ ∃ k, ((y = Int32.ofNat k ∧ 1 ≤ k ∧ k ≤ 3) ∧ (0 ≤ x.toInt ∧ x.toInt < 65536)) ∧ u.1 = .inl (some (.int (Int32.ofNat (if k ≤ nyE V x ec then 1 else 0)))) ∧ et_pl (eg_at u.2.1 am) 0 = some (.int (Int32.ofNat 0))) := by
  obtain ⟨d, rfl⟩ : ∃ d, d2 = d + 8 := ⟨d2 - 8, by omega⟩
  have o1 : (Int32.ofNat 1).toInt = 1 := rfl
  have o3 : (Int32.ofNat 3).toInt = 3 := rfl
  have hkk : ∃ kk : Nat, ((Int32.ofNat 1).toInt ≤ y.toInt ∧ y.toInt ≤ (Int32.ofNat 3).toInt → y = Int32.ofNat kk ∧ 1 ≤ kk ∧ kk ≤ 3) ∧ kk ≤ 3 := by
    by_cases h9 : (Int32.ofNat 1).toInt ≤ y.toInt ∧ y.toInt ≤ (Int32.ofNat 3).toInt
    · obtain ⟨k9, e1, e2, e3⟩ := hs_toN (x := y) (by omega)
      exact ⟨k9, fun _ => ⟨e1, by omega, by omega⟩, by omega⟩
    · exact ⟨0, fun h => absurd h h9, by decide⟩
  obtain ⟨kk, hk1, hk3⟩ := hkk
  rw [show eg_mL 285 = 3 from by decide +kernel]
  show et_go none (d + 8) 285 0 [some (.ref am), some (.int y), some (.int x)] [] G 0 0 _
  have lt_am := (hH.2.2 _ _ k_am).1
  have lt_aw := (hH.2.2 _ _ k_aw).1
  refine hs_aload (i := 0) (p := 1) (by decide +kernel) rfl ?_
  refine hs_k (x := Int32.ofNat 0) (p := 2) (by decide +kernel) ?_
  refine hf_put (T := et_TT) (t := 13) (ci := 11) (f := 0) (p := 5) (ty := .int) (by decide +kernel) rfl rfl rfl rfl rfl hH k_am hi_any (fun G2 hH x2 e2 => ?_)
  have hm := hm.mv ho (fun j _ _ => x2.2 aw j lt_aw (fun h => hi_ne k_aw k_am (by decide) h.1))
  have m1 := (x2.2 am 1 lt_am (fun h => absurd h.2 (by decide))).trans m1
  have w4 := (x2.2 aw 4 lt_aw (fun h => (hi_ne k_aw k_am (by decide)) h.1)).trans w4
  have lt_am := Nat.lt_of_lt_of_le lt_am x2.1
  have lt_aw := Nat.lt_of_lt_of_le lt_aw x2.1
  refine hs_aload (i := 0) (p := 6) (by decide +kernel) rfl ?_
  refine hs_iload (i := 1) (p := 7) (by decide +kernel) rfl ?_
  refine hs_k (x := Int32.ofNat 1) (p := 8) (by decide +kernel) ?_
  refine hs_k (x := Int32.ofNat 3) (p := 9) (by decide +kernel) ?_
  refine hs_calls (mi := 209) (na := 3) (lk := 3) (lm := 3) (L0 := eg_en (eg_mL 209) [.int y, .int (Int32.ofNat 1), .int (Int32.ofNat 3)]) (by decide +kernel) rfl rfl rfl rfl rfl rfl (by rw [show eg_mL 209 = 3 from by decide +kernel]; first | done | rfl) ?_
  refine (fm_in (x := y) (y := Int32.ofNat 1) (z := Int32.ofNat 3)).mono (fun u hu => xp_cb hu ?_)
  by_cases xy : (Int32.ofNat 1).toInt ≤ y.toInt ∧ y.toInt ≤ (Int32.ofNat 3).toInt
  · rw [if_pos xy]
    show et_go none _ 285 12 _ [.int (Int32.ofNat 1), .ref am] _ _ _ _
    refine hs_if0 (c := .eq) (t := 22) (f := 15) (by decide +kernel) (show ¬ (Int32.ofNat 1 = 0) by decide) ?_
    refine hs_iload (i := 2) (p := 16) (by decide +kernel) rfl ?_
    refine hs_calls (mi := 212) (na := 1) (lk := 3) (lm := 1) (L0 := eg_en (eg_mL 212) [.int x]) (by decide +kernel) rfl rfl rfl rfl rfl rfl (by rw [show eg_mL 212 = 1 from by decide +kernel]; first | done | rfl) ?_
    refine (fm_noLit (x := x)).mono (fun u hu => xp_cb hu ?_)
    by_cases xl : 0 ≤ x.toInt ∧ x.toInt < 65536
    · rw [if_pos xl]
      show et_go none _ 285 19 _ [.int (Int32.ofNat 0), .ref am] _ _ _ _
      refine hs_if1 (c := .eq) (t := 26) (f := 22) (by decide +kernel) (show Int32.ofNat 0 = 0 by decide) ?_
      refine hs_k (x := Int32.ofNat 0) (p := 27) (by decide +kernel) ?_
      refine hs_k (x := Int32.ofNat 1) (p := 28) (by decide +kernel) ?_
      refine ht_callv (T := et_TT) (t := 13) (mi := 204) (na := 2) (ci := 11) (lk := 3) (lm := 3) (L0 := eg_en (eg_mL 204) [.ref am, .int (Int32.ofNat 0), .int (Int32.ofNat 1)]) (by decide +kernel) rfl hH k_am rfl rfl rfl rfl rfl (by rw [show eg_mL 204 = 3 from by decide +kernel]; first | done | rfl) ?_
      refine (fm_t0 hH k_am).mono (fun u hu => xp_cb hu ?_)
      show et_go none _ 285 31 _ [.int (Int32.ofNat 0)] _ _ _ _
      refine hs_if0 (c := .ne) (t := 47) (f := 34) (by decide +kernel) (show ¬ (¬ Int32.ofNat 0 = 0) by decide) ?_
      refine hs_aload (i := 0) (p := 35) (by decide +kernel) rfl ?_
      refine hs_iload (i := 1) (p := 36) (by decide +kernel) rfl ?_
      refine hs_iload (i := 2) (p := 37) (by decide +kernel) rfl ?_
      obtain ⟨ek, hkA, hkB⟩ := hk1 xy
      rw [ek]
      refine ht_callv (T := et_TT) (t := 13) (mi := 286) (na := 2) (ci := 11) (lk := 3) (lm := 5) (L0 := eg_en (eg_mL 286) [.ref am, .int (Int32.ofNat kk), .int x]) (by decide +kernel) rfl hH k_am rfl rfl rfl rfl rfl (by rw [show eg_mL 286 = 5 from by decide +kernel]; first | done | rfl) ?_
      refine (fn_ny hH k_am k_aw m1 w4 hec hm ho hk3 (by omega)).mono (fun u hu => xp_cb hu ?_)
      by_cases hs9 : kk ≤ nyE V x ec
      · rw [if_pos hs9]
        show et_go none _ 285 40 _ [.int (Int32.ofNat 1)] _ _ _ _
        refine hs_if0 (c := .eq) (t := 47) (f := 43) (by decide +kernel) (show ¬ (Int32.ofNat 1 = 0) by decide) ?_
        refine hs_k (x := Int32.ofNat 1) (p := 44) (by decide +kernel) ?_
        refine hs_goto (p := 48) (by decide +kernel) ?_
        refine hs_zret (by decide +kernel) (.inr rfl) ?_
        exact .inr ⟨kk, ⟨⟨rfl, hkA, hkB⟩, xl⟩, by first | rfl | rw [if_pos hs9], e2⟩
      · rw [if_neg hs9]
        show et_go none _ 285 40 _ [.int (Int32.ofNat 0)] _ _ _ _
        refine hs_if1 (c := .eq) (t := 47) (f := 43) (by decide +kernel) (show Int32.ofNat 0 = 0 by decide) ?_
        refine hs_k (x := Int32.ofNat 0) (p := 48) (by decide +kernel) ?_
        refine hs_zret (by decide +kernel) (.inl rfl) ?_
        exact .inr ⟨kk, ⟨⟨rfl, hkA, hkB⟩, xl⟩, by first | rfl | rw [if_neg hs9], e2⟩
    · rw [if_neg xl]
      show et_go none _ 285 19 _ [.int (Int32.ofNat 1), .ref am] _ _ _ _
      refine hs_if0 (c := .eq) (t := 26) (f := 22) (by decide +kernel) (show ¬ (Int32.ofNat 1 = 0) by decide) ?_
      refine hs_k (x := Int32.ofNat 1) (p := 23) (by decide +kernel) ?_
      refine hs_goto (p := 27) (by decide +kernel) ?_
      refine hs_k (x := Int32.ofNat 1) (p := 28) (by decide +kernel) ?_
      refine ht_callv (T := et_TT) (t := 13) (mi := 204) (na := 2) (ci := 11) (lk := 3) (lm := 3) (L0 := eg_en (eg_mL 204) [.ref am, .int (Int32.ofNat 1), .int (Int32.ofNat 1)]) (by decide +kernel) rfl hH k_am rfl rfl rfl rfl rfl (by rw [show eg_mL 204 = 3 from by decide +kernel]; first | done | rfl) ?_
      refine (fm_t1 hH k_am).mono (fun u hu => xw_cb hu (fun G28 v28 hH x28 hP28 => ?_))
      have hm := hm.mv ho (fun j _ _ => x28.2 aw j lt_aw (fun h => hi_ne k_aw k_am (by decide) h.1))
      have m1 := (x28.2 am 1 lt_am (fun h => absurd h.2 (by decide))).trans m1
      have w4 := (x28.2 aw 4 lt_aw (fun h => (hi_ne k_aw k_am (by decide)) h.1)).trans w4
      have lt_am := Nat.lt_of_lt_of_le lt_am x28.1
      have lt_aw := Nat.lt_of_lt_of_le lt_aw x28.1
      obtain ⟨rfl, th28⟩ := hP28
      show et_go none _ 285 31 _ [.int (Int32.ofNat 1)] _ _ _ _
      refine hs_if1 (c := .ne) (t := 47) (f := 34) (by decide +kernel) (show ¬ Int32.ofNat 1 = 0 by decide) ?_
      refine hs_k (x := Int32.ofNat 0) (p := 48) (by decide +kernel) ?_
      refine hs_zret (by decide +kernel) (.inl rfl) ?_
      exact .inl ⟨fun h => xl h.2.2, rfl, th28⟩
  · rw [if_neg xy]
    show et_go none _ 285 12 _ [.int (Int32.ofNat 0), .ref am] _ _ _ _
    refine hs_if1 (c := .eq) (t := 22) (f := 15) (by decide +kernel) (show Int32.ofNat 0 = 0 by decide) ?_
    refine hs_k (x := Int32.ofNat 1) (p := 23) (by decide +kernel) ?_
    refine hs_goto (p := 27) (by decide +kernel) ?_
    refine hs_k (x := Int32.ofNat 1) (p := 28) (by decide +kernel) ?_
    refine ht_callv (T := et_TT) (t := 13) (mi := 204) (na := 2) (ci := 11) (lk := 3) (lm := 3) (L0 := eg_en (eg_mL 204) [.ref am, .int (Int32.ofNat 1), .int (Int32.ofNat 1)]) (by decide +kernel) rfl hH k_am rfl rfl rfl rfl rfl (by rw [show eg_mL 204 = 3 from by decide +kernel]; first | done | rfl) ?_
    refine (fm_t1 hH k_am).mono (fun u hu => xw_cb hu (fun G28 v28 hH x28 hP28 => ?_))
    have hm := hm.mv ho (fun j _ _ => x28.2 aw j lt_aw (fun h => hi_ne k_aw k_am (by decide) h.1))
    have m1 := (x28.2 am 1 lt_am (fun h => absurd h.2 (by decide))).trans m1
    have w4 := (x28.2 aw 4 lt_aw (fun h => (hi_ne k_aw k_am (by decide)) h.1)).trans w4
    have lt_am := Nat.lt_of_lt_of_le lt_am x28.1
    have lt_aw := Nat.lt_of_lt_of_le lt_aw x28.1
    obtain ⟨rfl, th28⟩ := hP28
    show et_go none _ 285 31 _ [.int (Int32.ofNat 1)] _ _ _ _
    refine hs_if1 (c := .ne) (t := 47) (f := 34) (by decide +kernel) (show ¬ Int32.ofNat 1 = 0 by decide) ?_
    refine hs_k (x := Int32.ofNat 0) (p := 48) (by decide +kernel) ?_
    refine hs_zret (by decide +kernel) (.inl rfl) ?_
    exact .inl ⟨fun h => xy ⟨by omega, by omega⟩, rfl, th28⟩
end YAA
end
section
/-! PHASE D: layer -/
def lyA (V : Nat → evT) (X : Nat → Int32) (Y : Nat → Nat) (e m : Nat) : Nat → Bool
  | 0 => true
  | c + 1 => lyA V X Y e m c && decide ((if m ≤ nyE V (X c) e then 1 else 0) = Y c)
theorem lyA_f {V : Nat → evT} {X : Nat → Int32} {Y : Nat → Nat} {e m c : Nat} (h : lyA V X Y e m c = false) : ∀ d, lyA V X Y e m (c + d) = false
  | 0 => h
  | d + 1 => by
    show (lyA V X Y e m (c + d) && _) = false
    rw [lyA_f h d]
    rfl
theorem lyA_s {V : Nat → evT} {X : Nat → Int32} {Y : Nat → Nat} {e m c b : Nat} (hA : lyA V X Y e m c = true) (hb : b = if m ≤ nyE V (X c) e then 1 else 0) : (b = Y c → lyA V X Y e m (c + 1) = true) ∧ (¬ b = Y c → ¬ lyA V X Y e m (c + 1) = true) := by
  subst hb
  constructor
  · intro h
    show (lyA V X Y e m c && decide _) = true
    rw [hA, decide_eq_true h]
    rfl
  · intro h h2
    have h2 : (lyA V X Y e m c && decide _) = true := h2
    rw [hA, decide_eq_false h] at h2
    cases h2
/-- the answer -/
def lyV (V : Nat → evT) (X : Nat → Int32) (Y : Nat → Nat) (e nc : Nat) : Int32 := if e = 0 then -1 else if lyA V X Y e 1 nc = true then Int32.ofNat 1 else if lyA V X Y e 2 nc = true then Int32.ofNat 2 else if lyA V X Y e 3 nc = true then Int32.ofNat 3 else -1
theorem lyV_y {V : Nat → evT} {X : Nat → Int32} {Y : Nat → Nat} {e nc m : Nat} (h0 : ¬ e = 0) (h1 : 1 ≤ m) (h3 : m ≤ 3) (hf : ∀ j, 1 ≤ j → j < m → ¬ lyA V X Y e j nc = true) (hA : lyA V X Y e m nc = true) : lyV V X Y e nc = Int32.ofNat m := by
  unfold lyV
  rw [if_neg h0]
  rcases (show m = 1 ∨ m = 2 ∨ m = 3 by omega) with rfl | rfl | rfl
  · rw [if_pos hA]
  · rw [if_neg (hf 1 (by decide) (by decide)), if_pos hA]
  · rw [if_neg (hf 1 (by decide) (by decide)), if_neg (hf 2 (by decide) (by decide)), if_pos hA]
theorem lyV_n {V : Nat → evT} {X : Nat → Int32} {Y : Nat → Nat} {e nc : Nat} (hf : ∀ j, 1 ≤ j → j < 4 → ¬ lyA V X Y e j nc = true) : lyV V X Y e nc = -1 := by
  unfold lyV
  split
  · rfl
  · rw [if_neg (hf 1 (by decide) (by decide)), if_neg (hf 2 (by decide) (by decide)), if_neg (hf 3 (by decide) (by decide))]
section YBA
variable {K : et_K} {G : eg_G} {d d2 th s0 s1 ya yb ec nc la ly am aw m c : Nat} {O : Nat → Nat} {A : Nat → Nat → Nat} {V : Nat → evT} {X : Nat → Int32} {Y : Nat → Nat} {Z : eg_O → Prop}
theorem fc_lyI0 (k_th : K th = some 12) (h0 : et_pl (eg_at G th) 0 = some (.ref s0)) (hH : et_H et_TT K G) (k_s0 : K s0 = some 10) (h5 : et_pl (eg_at G s0) 5 = some (.int (Int32.ofNat ec))) (hec : ec ≤ 3) (t : ezK K ya yb O A) (hz : ez G th s0 s1 ya yb O A V) (ho : ∀ n, n < 6 → evo (V n)) (g2 : et_pl (eg_at G s0) 2 = some (.int (Int32.ofNat nc))) (hnc : nc ≤ 20) (hcc : ccP G s0 la ly nc X Y) (k_la : K la = some 17) (k_ly : K ly = some 27) (hm3 : m ≤ 3) (hA : ¬ lyA V X Y ec m c = true) (hc : c ≤ nc) (h : ∀ x3 : Option Value, et_go none (d + 5) 123 87 [some (.ref th), some (.int (Int32.ofNat m)), some (.int (Int32.ofNat (if lyA V X Y ec m nc = true then 1 else 0))), x3] [] G 0 0 Z) : et_go none (d + 5) 123 23 [some (.ref th), some (.int (Int32.ofNat m)), some (.int (Int32.ofNat 0)), some (.int (Int32.ofNat c))] [] G 0 0 Z := by
  have hN : ¬ lyA V X Y ec m nc = true := fun h9 => by
    have h8 := lyA_f (Bool.eq_false_iff.mpr hA) (nc - c)
    rw [show c + (nc - c) = nc by omega, h9] at h8
    cases h8
  rw [if_neg hN] at h
  have lt_th := (hH.2.2 _ _ k_th).1
  have lt_s0 := (hH.2.2 _ _ k_s0).1
  have lt_la := (hH.2.2 _ _ k_la).1
  have lt_ly := (hH.2.2 _ _ k_ly).1
  refine hs_iload (i := 3) (p := 24) (by decide +kernel) rfl ?_
  refine hs_aload (i := 0) (p := 25) (by decide +kernel) rfl ?_
  refine hf_get (T := et_TT) (t := 12) (ci := 10) (f := 0) (p := 28) (by decide +kernel) rfl hH k_th h0 ?_
  refine hf_get (T := et_TT) (t := 10) (ci := 8) (f := 2) (p := 31) (by decide +kernel) rfl hH k_s0 g2 ?_
  refine hs_br2n (c := .ge) (t := 87) (f := 34) (by decide +kernel) (by omega) (by omega) (fun (c31 : nc ≤ c) => ?_) (fun (c31 : ¬ (nc ≤ c)) => ?_)
  · exact h _
  · refine hs_iload (i := 2) (p := 35) (by decide +kernel) rfl ?_
    refine hs_if1 (c := .eq) (t := 87) (f := 38) (by decide +kernel) (show Int32.ofNat 0 = 0 by decide) ?_
    exact h _
theorem fc_lyI1 (k_th : K th = some 12) (h0 : et_pl (eg_at G th) 0 = some (.ref s0)) (hH : et_H et_TT K G) (k_s0 : K s0 = some 10) (h5 : et_pl (eg_at G s0) 5 = some (.int (Int32.ofNat ec))) (hec : ec ≤ 3) (t : ezK K ya yb O A) (hz : ez G th s0 s1 ya yb O A V) (ho : ∀ n, n < 6 → evo (V n)) (g2 : et_pl (eg_at G s0) 2 = some (.int (Int32.ofNat nc))) (hnc : nc ≤ 20) (hcc : ccP G s0 la ly nc X Y) (k_la : K la = some 17) (k_ly : K ly = some 27) (hm1 : 1 ≤ m) (hm3 : m ≤ 3) (hA : lyA V X Y ec m c = true) (hc : c ≤ nc) (h : ∀ x3 : Option Value, et_go none (d + 5) 123 87 [some (.ref th), some (.int (Int32.ofNat m)), some (.int (Int32.ofNat (if lyA V X Y ec m nc = true then 1 else 0))), x3] [] G 0 0 Z) : et_go none (d + 5) 123 23 [some (.ref th), some (.int (Int32.ofNat m)), some (.int (Int32.ofNat 1)), some (.int (Int32.ofNat c))] [] G 0 0 Z := by
  induction hq9 : nc - c using Nat.strongRecOn generalizing c with
  | _ q9 ih =>
    have hny := nyE_le V (X c) ec
    have hY1 : c < nc → Y c ≤ 1 := fun h9 => (hcc.2 c h9).2.2
    have lt_th := (hH.2.2 _ _ k_th).1
    have lt_s0 := (hH.2.2 _ _ k_s0).1
    have lt_la := (hH.2.2 _ _ k_la).1
    have lt_ly := (hH.2.2 _ _ k_ly).1
    refine hs_iload (i := 3) (p := 24) (by decide +kernel) rfl ?_
    refine hs_aload (i := 0) (p := 25) (by decide +kernel) rfl ?_
    refine hf_get (T := et_TT) (t := 12) (ci := 10) (f := 0) (p := 28) (by decide +kernel) rfl hH k_th h0 ?_
    refine hf_get (T := et_TT) (t := 10) (ci := 8) (f := 2) (p := 31) (by decide +kernel) rfl hH k_s0 g2 ?_
    refine hs_br2n (c := .ge) (t := 87) (f := 34) (by decide +kernel) (by omega) (by omega) (fun (c31 : nc ≤ c) => ?_) (fun (c31 : ¬ (nc ≤ c)) => ?_)
    · obtain rfl : c = nc := by omega
      rw [if_pos hA] at h
      exact h _
    · refine hs_iload (i := 2) (p := 35) (by decide +kernel) rfl ?_
      refine hs_if0 (c := .eq) (t := 87) (f := 38) (by decide +kernel) (show ¬ (Int32.ofNat 1 = 0) by decide) ?_
      refine hs_aload (i := 0) (p := 39) (by decide +kernel) rfl ?_
      refine hf_get (T := et_TT) (t := 12) (ci := 10) (f := 0) (p := 42) (by decide +kernel) rfl hH k_th h0 ?_
      refine hs_aload (i := 0) (p := 43) (by decide +kernel) rfl ?_
      refine hf_get (T := et_TT) (t := 12) (ci := 10) (f := 0) (p := 46) (by decide +kernel) rfl hH k_th h0 ?_
      refine hf_get (T := et_TT) (t := 10) (ci := 8) (f := 3) (p := 49) (by decide +kernel) rfl hH k_s0 hcc.1.1 ?_
      refine hs_iload (i := 3) (p := 50) (by decide +kernel) rfl ?_
      refine hf_ald (ins := .iaload) (T := et_TT) (t := 17) (kd := 0) (N := 20) (p := 51) (by decide +kernel) (fun _ _ _ _ _ _ _ _ _ _ => rfl) rfl rfl rfl hH k_la (by decide) (hcc.2 c (by omega)).1 ?_
      refine ht_callv (T := et_TT) (t := 10) (mi := 103) (na := 1) (ci := 8) (lk := 4) (lm := 4) (L0 := eg_en (eg_mL 103) [.ref s0, .int (X c)]) (by decide +kernel) rfl hH k_s0 rfl rfl rfl rfl rfl (by rw [show eg_mL 103 = 4 from by decide +kernel]; first | done | rfl) ?_
      refine (fc_ny hH k_s0 h5 hec t hz ho (by omega)).mono (fun u hu => xp_cb hu ?_)
      show et_go none _ 123 54 _ [.int (Int32.ofNat (nyE V (X c) ec))] _ _ _ _
      refine hs_iload (i := 1) (p := 55) (by decide +kernel) rfl ?_
      refine hs_br2n (c := .lt) (t := 62) (f := 58) (by decide +kernel) (by omega) (by omega) (fun (c55 : (nyE V (X c) ec) < m) => ?_) (fun (c55 : ¬ ((nyE V (X c) ec) < m)) => ?_)
      · refine hs_k (x := Int32.ofNat 0) (p := 63) (by decide +kernel) ?_
        refine hs_aload (i := 0) (p := 64) (by decide +kernel) rfl ?_
        refine hf_get (T := et_TT) (t := 12) (ci := 10) (f := 0) (p := 67) (by decide +kernel) rfl hH k_th h0 ?_
        refine hf_get (T := et_TT) (t := 10) (ci := 8) (f := 4) (p := 70) (by decide +kernel) rfl hH k_s0 hcc.1.2 ?_
        refine hs_iload (i := 3) (p := 71) (by decide +kernel) rfl ?_
        refine hf_ald (ins := .baload) (T := et_TT) (t := 27) (kd := 3) (N := 20) (p := 72) (by decide +kernel) (fun _ _ _ _ _ _ _ _ _ _ => rfl) rfl rfl rfl hH k_ly (by decide) (hcc.2 c (by omega)).2.1 ?_
        refine hs_br2n (c := .ne) (t := 79) (f := 75) (by decide +kernel) (by omega) (by omega) (fun (c72 : ¬ 0 = (Y c)) => ?_) (fun (c72 : ¬ (¬ 0 = (Y c))) => ?_)
        · refine hs_k (x := Int32.ofNat 0) (p := 80) (by decide +kernel) ?_
          refine hs_istore (i := 2) (p := 81) (by decide +kernel) (Nat.le_of_ble_eq_true rfl) ?_
          refine hs_iinc1 (i := 3) (p := 84) (by decide +kernel) rfl (Nat.le_of_ble_eq_true rfl) ?_
          refine hs_goto (p := 23) (by decide +kernel) ?_
          have e9 := (lyA_s (b := 0) hA (by rw [if_neg (by omega)])).2 (by first | exact c72 | exact Decidable.of_not_not c72 | omega)
          exact fc_lyI0 k_th h0 hH k_s0 h5 hec t hz ho g2 hnc hcc k_la k_ly hm3 e9 (by omega) h
        · refine hs_k (x := Int32.ofNat 1) (p := 76) (by decide +kernel) ?_
          refine hs_goto (p := 80) (by decide +kernel) ?_
          refine hs_istore (i := 2) (p := 81) (by decide +kernel) (Nat.le_of_ble_eq_true rfl) ?_
          refine hs_iinc1 (i := 3) (p := 84) (by decide +kernel) rfl (Nat.le_of_ble_eq_true rfl) ?_
          refine hs_goto (p := 23) (by decide +kernel) ?_
          have e9 := (lyA_s (b := 0) hA (by rw [if_neg (by omega)])).1 (by first | exact c72 | exact Decidable.of_not_not c72 | omega)
          exact @ih (nc - (c + 1)) (by omega) (c + 1) e9 (by omega) rfl
      · refine hs_k (x := Int32.ofNat 1) (p := 59) (by decide +kernel) ?_
        refine hs_goto (p := 63) (by decide +kernel) ?_
        refine hs_aload (i := 0) (p := 64) (by decide +kernel) rfl ?_
        refine hf_get (T := et_TT) (t := 12) (ci := 10) (f := 0) (p := 67) (by decide +kernel) rfl hH k_th h0 ?_
        refine hf_get (T := et_TT) (t := 10) (ci := 8) (f := 4) (p := 70) (by decide +kernel) rfl hH k_s0 hcc.1.2 ?_
        refine hs_iload (i := 3) (p := 71) (by decide +kernel) rfl ?_
        refine hf_ald (ins := .baload) (T := et_TT) (t := 27) (kd := 3) (N := 20) (p := 72) (by decide +kernel) (fun _ _ _ _ _ _ _ _ _ _ => rfl) rfl rfl rfl hH k_ly (by decide) (hcc.2 c (by omega)).2.1 ?_
        refine hs_br2n (c := .ne) (t := 79) (f := 75) (by decide +kernel) (by omega) (by omega) (fun (c72 : ¬ 1 = (Y c)) => ?_) (fun (c72 : ¬ (¬ 1 = (Y c))) => ?_)
        · refine hs_k (x := Int32.ofNat 0) (p := 80) (by decide +kernel) ?_
          refine hs_istore (i := 2) (p := 81) (by decide +kernel) (Nat.le_of_ble_eq_true rfl) ?_
          refine hs_iinc1 (i := 3) (p := 84) (by decide +kernel) rfl (Nat.le_of_ble_eq_true rfl) ?_
          refine hs_goto (p := 23) (by decide +kernel) ?_
          have e9 := (lyA_s (b := 1) hA (by rw [if_pos (by omega)])).2 (by first | exact c72 | exact Decidable.of_not_not c72 | omega)
          exact fc_lyI0 k_th h0 hH k_s0 h5 hec t hz ho g2 hnc hcc k_la k_ly hm3 e9 (by omega) h
        · refine hs_k (x := Int32.ofNat 1) (p := 76) (by decide +kernel) ?_
          refine hs_goto (p := 80) (by decide +kernel) ?_
          refine hs_istore (i := 2) (p := 81) (by decide +kernel) (Nat.le_of_ble_eq_true rfl) ?_
          refine hs_iinc1 (i := 3) (p := 84) (by decide +kernel) rfl (Nat.le_of_ble_eq_true rfl) ?_
          refine hs_goto (p := 23) (by decide +kernel) ?_
          have e9 := (lyA_s (b := 1) hA (by rw [if_pos (by omega)])).1 (by first | exact c72 | exact Decidable.of_not_not c72 | omega)
          exact @ih (nc - (c + 1)) (by omega) (c + 1) e9 (by omega) rfl
theorem fn_lyI0 (hH : et_H et_TT K G) (k_am : K am = some 13) (k_aw : K aw = some 46) (m1 : et_pl (eg_at G am) 1 = some (.ref aw)) (w4 : et_pl (eg_at G aw) 4 = some (.int (Int32.ofNat ec))) (hec : ec ≤ 3) (hm : zyM G aw ec V) (ho : ∀ n, n < 3 → evo (V n)) (w3 : et_pl (eg_at G aw) 3 = some (.int (Int32.ofNat nc))) (hnc : nc ≤ 20) (hcr : crP G aw nc X Y) (hm3 : m ≤ 3) (hA : ¬ lyA V X Y ec m c = true) (hc : c ≤ nc) (h : ∀ x3 : Option Value, et_go none (d + 8) 287 69 [some (.ref am), some (.int (Int32.ofNat m)), some (.int (Int32.ofNat (if lyA V X Y ec m nc = true then 1 else 0))), x3] [] G 0 0 Z) : et_go none (d + 8) 287 27 [some (.ref am), some (.int (Int32.ofNat m)), some (.int (Int32.ofNat 0)), some (.int (Int32.ofNat c))] [] G 0 0 Z := by
  have hN : ¬ lyA V X Y ec m nc = true := fun h9 => by
    have h8 := lyA_f (Bool.eq_false_iff.mpr hA) (nc - c)
    rw [show c + (nc - c) = nc by omega, h9] at h8
    cases h8
  rw [if_neg hN] at h
  induction hq9 : nc - c using Nat.strongRecOn generalizing c with
  | _ q9 ih =>
    have lt_am := (hH.2.2 _ _ k_am).1
    have lt_aw := (hH.2.2 _ _ k_aw).1
    refine hs_iload (i := 3) (p := 28) (by decide +kernel) rfl ?_
    refine hs_aload (i := 0) (p := 29) (by decide +kernel) rfl ?_
    refine ht_callv (T := et_TT) (t := 13) (mi := 218) (na := 0) (ci := 11) (lk := 4) (lm := 1) (L0 := eg_en (eg_mL 218) [.ref am]) (by decide +kernel) rfl hH k_am rfl rfl rfl rfl rfl (by rw [show eg_mL 218 = 1 from by decide +kernel]; first | done | rfl) ?_
    refine (fm_cards hH k_am k_aw m1 w3).mono (fun u hu => xp_cb hu ?_)
    show et_go none _ 287 32 _ [.int (Int32.ofNat nc), .int (Int32.ofNat c)] _ _ _ _
    refine hs_br2n (c := .ge) (t := 69) (f := 35) (by decide +kernel) (by omega) (by omega) (fun (c32 : nc ≤ c) => ?_) (fun (c32 : ¬ (nc ≤ c)) => ?_)
    · exact h _
    · refine hs_iload (i := 2) (p := 36) (by decide +kernel) rfl ?_
      refine hs_if1 (c := .eq) (t := 61) (f := 39) (by decide +kernel) (show Int32.ofNat 0 = 0 by decide) ?_
      refine hs_k (x := Int32.ofNat 0) (p := 62) (by decide +kernel) ?_
      refine hs_istore (i := 2) (p := 63) (by decide +kernel) (Nat.le_of_ble_eq_true rfl) ?_
      refine hs_iinc1 (i := 3) (p := 66) (by decide +kernel) rfl (Nat.le_of_ble_eq_true rfl) ?_
      refine hs_goto (p := 27) (by decide +kernel) ?_
      have hA9 : ¬ lyA V X Y ec m (c + 1) = true := fun h9 => by
        have h8 := lyA_f (Bool.eq_false_iff.mpr hA) 1
        rw [h9] at h8
        cases h8
      exact @ih (nc - (c + 1)) (by omega) (c + 1) hA9 (by omega) rfl
theorem fn_lyI1 (hH : et_H et_TT K G) (k_am : K am = some 13) (k_aw : K aw = some 46) (m1 : et_pl (eg_at G am) 1 = some (.ref aw)) (w4 : et_pl (eg_at G aw) 4 = some (.int (Int32.ofNat ec))) (hec : ec ≤ 3) (hm : zyM G aw ec V) (ho : ∀ n, n < 3 → evo (V n)) (w3 : et_pl (eg_at G aw) 3 = some (.int (Int32.ofNat nc))) (hnc : nc ≤ 20) (hcr : crP G aw nc X Y) (hm1 : 1 ≤ m) (hm3 : m ≤ 3) (hA : lyA V X Y ec m c = true) (hc : c ≤ nc) (h : ∀ x3 : Option Value, et_go none (d + 8) 287 69 [some (.ref am), some (.int (Int32.ofNat m)), some (.int (Int32.ofNat (if lyA V X Y ec m nc = true then 1 else 0))), x3] [] G 0 0 Z) : et_go none (d + 8) 287 27 [some (.ref am), some (.int (Int32.ofNat m)), some (.int (Int32.ofNat 1)), some (.int (Int32.ofNat c))] [] G 0 0 Z := by
  induction hq9 : nc - c using Nat.strongRecOn generalizing c with
  | _ q9 ih =>
    have hny := nyE_le V (X c) ec
    have hY1 : c < nc → Y c ≤ 1 := fun h9 => (hcr c h9).2.2
    have lt_am := (hH.2.2 _ _ k_am).1
    have lt_aw := (hH.2.2 _ _ k_aw).1
    refine hs_iload (i := 3) (p := 28) (by decide +kernel) rfl ?_
    refine hs_aload (i := 0) (p := 29) (by decide +kernel) rfl ?_
    refine ht_callv (T := et_TT) (t := 13) (mi := 218) (na := 0) (ci := 11) (lk := 4) (lm := 1) (L0 := eg_en (eg_mL 218) [.ref am]) (by decide +kernel) rfl hH k_am rfl rfl rfl rfl rfl (by rw [show eg_mL 218 = 1 from by decide +kernel]; first | done | rfl) ?_
    refine (fm_cards hH k_am k_aw m1 w3).mono (fun u hu => xp_cb hu ?_)
    show et_go none _ 287 32 _ [.int (Int32.ofNat nc), .int (Int32.ofNat c)] _ _ _ _
    refine hs_br2n (c := .ge) (t := 69) (f := 35) (by decide +kernel) (by omega) (by omega) (fun (c32 : nc ≤ c) => ?_) (fun (c32 : ¬ (nc ≤ c)) => ?_)
    · obtain rfl : c = nc := by omega
      rw [if_pos hA] at h
      exact h _
    · refine hs_iload (i := 2) (p := 36) (by decide +kernel) rfl ?_
      refine hs_if0 (c := .eq) (t := 61) (f := 39) (by decide +kernel) (show ¬ (Int32.ofNat 1 = 0) by decide) ?_
      refine hs_aload (i := 0) (p := 40) (by decide +kernel) rfl ?_
      refine hs_iload (i := 1) (p := 41) (by decide +kernel) rfl ?_
      refine hs_aload (i := 0) (p := 42) (by decide +kernel) rfl ?_
      refine hs_iload (i := 3) (p := 43) (by decide +kernel) rfl ?_
      refine ht_callv (T := et_TT) (t := 13) (mi := 234) (na := 1) (ci := 11) (lk := 4) (lm := 2) (L0 := eg_en (eg_mL 234) [.ref am, .int (Int32.ofNat c)]) (by decide +kernel) rfl hH k_am rfl rfl rfl rfl rfl (by rw [show eg_mL 234 = 2 from by decide +kernel]; first | done | rfl) ?_
      refine (fm_litOf hH k_am k_aw m1 (by omega) (hcr c (by omega)).1).mono (fun u hu => xp_cb hu ?_)
      show et_go none _ 287 46 _ [.int (X c), .int (Int32.ofNat m), .ref am] _ _ _ _
      refine ht_callv (T := et_TT) (t := 13) (mi := 286) (na := 2) (ci := 11) (lk := 4) (lm := 5) (L0 := eg_en (eg_mL 286) [.ref am, .int (Int32.ofNat m), .int (X c)]) (by decide +kernel) rfl hH k_am rfl rfl rfl rfl rfl (by rw [show eg_mL 286 = 5 from by decide +kernel]; first | done | rfl) ?_
      refine (fn_ny hH k_am k_aw m1 w4 hec hm ho hm3 (by omega)).mono (fun u hu => xp_cb hu ?_)
      by_cases qs : m ≤ (nyE V (X c) ec)
      · rw [if_pos qs]
        show et_go none _ 287 49 _ [.int (Int32.ofNat 1)] _ _ _ _
        refine hs_aload (i := 0) (p := 50) (by decide +kernel) rfl ?_
        refine hs_iload (i := 3) (p := 51) (by decide +kernel) rfl ?_
        refine ht_callv (T := et_TT) (t := 13) (mi := 240) (na := 1) (ci := 11) (lk := 4) (lm := 2) (L0 := eg_en (eg_mL 240) [.ref am, .int (Int32.ofNat c)]) (by decide +kernel) rfl hH k_am rfl rfl rfl rfl rfl (by rw [show eg_mL 240 = 2 from by decide +kernel]; first | done | rfl) ?_
        refine (fm_isYes hH k_am k_aw m1 (by omega) (hcr c (by omega)).2.2 (hcr c (by omega)).2.1).mono (fun u hu => xp_cb hu ?_)
        show et_go none _ 287 54 _ [.int (Int32.ofNat (Y c)), .int (Int32.ofNat 1)] _ _ _ _
        refine hs_br2n (c := .ne) (t := 61) (f := 57) (by decide +kernel) (by omega) (by omega) (fun (c54 : ¬ 1 = (Y c)) => ?_) (fun (c54 : ¬ (¬ 1 = (Y c))) => ?_)
        · refine hs_k (x := Int32.ofNat 0) (p := 62) (by decide +kernel) ?_
          refine hs_istore (i := 2) (p := 63) (by decide +kernel) (Nat.le_of_ble_eq_true rfl) ?_
          refine hs_iinc1 (i := 3) (p := 66) (by decide +kernel) rfl (Nat.le_of_ble_eq_true rfl) ?_
          refine hs_goto (p := 27) (by decide +kernel) ?_
          have e9 := (lyA_s (b := 1) hA (by rw [if_pos (by omega)])).2 (by first | exact c54 | exact Decidable.of_not_not c54 | omega)
          exact fn_lyI0 hH k_am k_aw m1 w4 hec hm ho w3 hnc hcr hm3 e9 (by omega) h
        · refine hs_k (x := Int32.ofNat 1) (p := 58) (by decide +kernel) ?_
          refine hs_goto (p := 62) (by decide +kernel) ?_
          refine hs_istore (i := 2) (p := 63) (by decide +kernel) (Nat.le_of_ble_eq_true rfl) ?_
          refine hs_iinc1 (i := 3) (p := 66) (by decide +kernel) rfl (Nat.le_of_ble_eq_true rfl) ?_
          refine hs_goto (p := 27) (by decide +kernel) ?_
          have e9 := (lyA_s (b := 1) hA (by rw [if_pos (by omega)])).1 (by first | exact c54 | exact Decidable.of_not_not c54 | omega)
          exact @ih (nc - (c + 1)) (by omega) (c + 1) e9 (by omega) rfl
      · rw [if_neg qs]
        show et_go none _ 287 49 _ [.int (Int32.ofNat 0)] _ _ _ _
        refine hs_aload (i := 0) (p := 50) (by decide +kernel) rfl ?_
        refine hs_iload (i := 3) (p := 51) (by decide +kernel) rfl ?_
        refine ht_callv (T := et_TT) (t := 13) (mi := 240) (na := 1) (ci := 11) (lk := 4) (lm := 2) (L0 := eg_en (eg_mL 240) [.ref am, .int (Int32.ofNat c)]) (by decide +kernel) rfl hH k_am rfl rfl rfl rfl rfl (by rw [show eg_mL 240 = 2 from by decide +kernel]; first | done | rfl) ?_
        refine (fm_isYes hH k_am k_aw m1 (by omega) (hcr c (by omega)).2.2 (hcr c (by omega)).2.1).mono (fun u hu => xp_cb hu ?_)
        show et_go none _ 287 54 _ [.int (Int32.ofNat (Y c)), .int (Int32.ofNat 0)] _ _ _ _
        refine hs_br2n (c := .ne) (t := 61) (f := 57) (by decide +kernel) (by omega) (by omega) (fun (c54 : ¬ 0 = (Y c)) => ?_) (fun (c54 : ¬ (¬ 0 = (Y c))) => ?_)
        · refine hs_k (x := Int32.ofNat 0) (p := 62) (by decide +kernel) ?_
          refine hs_istore (i := 2) (p := 63) (by decide +kernel) (Nat.le_of_ble_eq_true rfl) ?_
          refine hs_iinc1 (i := 3) (p := 66) (by decide +kernel) rfl (Nat.le_of_ble_eq_true rfl) ?_
          refine hs_goto (p := 27) (by decide +kernel) ?_
          have e9 := (lyA_s (b := 0) hA (by rw [if_neg (by omega)])).2 (by first | exact c54 | exact Decidable.of_not_not c54 | omega)
          exact fn_lyI0 hH k_am k_aw m1 w4 hec hm ho w3 hnc hcr hm3 e9 (by omega) h
        · refine hs_k (x := Int32.ofNat 1) (p := 58) (by decide +kernel) ?_
          refine hs_goto (p := 62) (by decide +kernel) ?_
          refine hs_istore (i := 2) (p := 63) (by decide +kernel) (Nat.le_of_ble_eq_true rfl) ?_
          refine hs_iinc1 (i := 3) (p := 66) (by decide +kernel) rfl (Nat.le_of_ble_eq_true rfl) ?_
          refine hs_goto (p := 27) (by decide +kernel) ?_
          have e9 := (lyA_s (b := 0) hA (by rw [if_neg (by omega)])).1 (by first | exact c54 | exact Decidable.of_not_not c54 | omega)
          exact @ih (nc - (c + 1)) (by omega) (c + 1) e9 (by omega) rfl
theorem fc_lyT {x3 : Option Value} (k_th : K th = some 12) (h0 : et_pl (eg_at G th) 0 = some (.ref s0)) (hH : et_H et_TT K G) (k_s0 : K s0 = some 10) (h5 : et_pl (eg_at G s0) 5 = some (.int (Int32.ofNat ec))) (hec : ec ≤ 3) (t : ezK K ya yb O A) (hz : ez G th s0 s1 ya yb O A V) (ho : ∀ n, n < 6 → evo (V n)) (g2 : et_pl (eg_at G s0) 2 = some (.int (Int32.ofNat nc))) (hnc : nc ≤ 20) (hcc : ccP G s0 la ly nc X Y) (k_la : K la = some 17) (k_ly : K ly = some 27) (h00 : ¬ ec = 0) (hm1 : 1 ≤ m) (hm3 : m ≤ 3) (hf : ∀ j, 1 ≤ j → j < m → ¬ lyA V X Y ec j nc = true) (hno : ¬ lyA V X Y ec m nc = true → ∀ x2 x3 : Option Value, et_go none (d + 5) 123 14 [some (.ref th), some (.int (Int32.ofNat (m + 1))), x2, x3] [] G 0 0 (xp_Z G (some (.int (lyV V X Y ec nc))))) : et_go none (d + 5) 123 87 [some (.ref th), some (.int (Int32.ofNat m)), some (.int (Int32.ofNat (if lyA V X Y ec m nc = true then 1 else 0))), x3] [] G 0 0 (xp_Z G (some (.int (lyV V X Y ec nc)))) := by
  by_cases hA : lyA V X Y ec m nc = true
  · rw [if_pos hA]
    have lt_th := (hH.2.2 _ _ k_th).1
    have lt_s0 := (hH.2.2 _ _ k_s0).1
    have lt_la := (hH.2.2 _ _ k_la).1
    have lt_ly := (hH.2.2 _ _ k_ly).1
    refine hs_iload (i := 2) (p := 88) (by decide +kernel) rfl ?_
    refine hs_if0 (c := .eq) (t := 93) (f := 91) (by decide +kernel) (show ¬ (Int32.ofNat 1 = 0) by decide) ?_
    refine hs_iload (i := 1) (p := 92) (by decide +kernel) rfl ?_
    refine hs_iret (by decide +kernel) ?_
    rw [lyV_y h00 hm1 hm3 hf hA]
    rfl
  · rw [if_neg hA]
    have lt_th := (hH.2.2 _ _ k_th).1
    have lt_s0 := (hH.2.2 _ _ k_s0).1
    have lt_la := (hH.2.2 _ _ k_la).1
    have lt_ly := (hH.2.2 _ _ k_ly).1
    refine hs_iload (i := 2) (p := 88) (by decide +kernel) rfl ?_
    refine hs_if1 (c := .eq) (t := 93) (f := 91) (by decide +kernel) (show Int32.ofNat 0 = 0 by decide) ?_
    refine hs_iinc1 (i := 1) (p := 96) (by decide +kernel) rfl (Nat.le_of_ble_eq_true rfl) ?_
    refine hs_goto (p := 14) (by decide +kernel) ?_
    exact hno hA _ _
theorem fc_lyO {x2 x3 : Option Value} (k_th : K th = some 12) (h0 : et_pl (eg_at G th) 0 = some (.ref s0)) (hH : et_H et_TT K G) (k_s0 : K s0 = some 10) (h5 : et_pl (eg_at G s0) 5 = some (.int (Int32.ofNat ec))) (hec : ec ≤ 3) (t : ezK K ya yb O A) (hz : ez G th s0 s1 ya yb O A V) (ho : ∀ n, n < 6 → evo (V n)) (g2 : et_pl (eg_at G s0) 2 = some (.int (Int32.ofNat nc))) (hnc : nc ≤ 20) (hcc : ccP G s0 la ly nc X Y) (k_la : K la = some 17) (k_ly : K ly = some 27) (h00 : ¬ ec = 0) (hm1 : 1 ≤ m) (hm4 : m ≤ 4) (hf : ∀ j, 1 ≤ j → j < m → ¬ lyA V X Y ec j nc = true) : et_go none (d + 5) 123 14 [some (.ref th), some (.int (Int32.ofNat m)), x2, x3] [] G 0 0 (xp_Z G (some (.int (lyV V X Y ec nc)))) := by
  induction hq9 : 4 - m using Nat.strongRecOn generalizing m x2 x3 with
  | _ q9 ih =>
    have lt_th := (hH.2.2 _ _ k_th).1
    have lt_s0 := (hH.2.2 _ _ k_s0).1
    have lt_la := (hH.2.2 _ _ k_la).1
    have lt_ly := (hH.2.2 _ _ k_ly).1
    refine hs_iload (i := 1) (p := 15) (by decide +kernel) rfl ?_
    refine hs_k (x := Int32.ofNat 3) (p := 16) (by decide +kernel) ?_
    refine hs_br2n (c := .gt) (t := 99) (f := 19) (by decide +kernel) (by omega) (by omega) (fun (c16 : 3 < m) => ?_) (fun (c16 : ¬ (3 < m)) => ?_)
    · refine hs_k (x := (-1)) (p := 100) (by decide +kernel) ?_
      refine hs_iret (by decide +kernel) ?_
      obtain rfl : m = 4 := by omega
      rw [lyV_n hf]
      rfl
    · refine hs_k (x := Int32.ofNat 1) (p := 20) (by decide +kernel) ?_
      refine hs_istore (i := 2) (p := 21) (by decide +kernel) (Nat.le_of_ble_eq_true rfl) ?_
      refine hs_k (x := Int32.ofNat 0) (p := 22) (by decide +kernel) ?_
      refine hs_istore (i := 3) (p := 23) (by decide +kernel) (Nat.le_of_ble_eq_true rfl) ?_
      exact fc_lyI1 (c := 0) k_th h0 hH k_s0 h5 hec t hz ho g2 hnc hcc k_la k_ly hm1 (by omega) rfl (Nat.zero_le _) (fun x3 => fc_lyT k_th h0 hH k_s0 h5 hec t hz ho g2 hnc hcc k_la k_ly h00 hm1 (by omega) hf (fun hA x2 x3 => @ih (4 - (m + 1)) (by omega) (m + 1) x2 x3 (by omega) (by omega) (fun j h1 h2 => by by_cases e : j = m; rw [e]; exact hA; exact hf j h1 (by omega)) rfl))
theorem fn_lyT {x3 : Option Value} (hH : et_H et_TT K G) (k_am : K am = some 13) (k_aw : K aw = some 46) (m1 : et_pl (eg_at G am) 1 = some (.ref aw)) (w4 : et_pl (eg_at G aw) 4 = some (.int (Int32.ofNat ec))) (hec : ec ≤ 3) (hm : zyM G aw ec V) (ho : ∀ n, n < 3 → evo (V n)) (w3 : et_pl (eg_at G aw) 3 = some (.int (Int32.ofNat nc))) (hnc : nc ≤ 20) (hcr : crP G aw nc X Y) (h00 : ¬ ec = 0) (hm1 : 1 ≤ m) (hm3 : m ≤ 3) (hf : ∀ j, 1 ≤ j → j < m → ¬ lyA V X Y ec j nc = true) (hno : ¬ lyA V X Y ec m nc = true → ∀ x2 x3 : Option Value, et_go none (d + 8) 287 18 [some (.ref am), some (.int (Int32.ofNat (m + 1))), x2, x3] [] G 0 0 (xp_Z G (some (.int (lyV V X Y ec nc))))) : et_go none (d + 8) 287 69 [some (.ref am), some (.int (Int32.ofNat m)), some (.int (Int32.ofNat (if lyA V X Y ec m nc = true then 1 else 0))), x3] [] G 0 0 (xp_Z G (some (.int (lyV V X Y ec nc)))) := by
  by_cases hA : lyA V X Y ec m nc = true
  · rw [if_pos hA]
    have lt_am := (hH.2.2 _ _ k_am).1
    have lt_aw := (hH.2.2 _ _ k_aw).1
    refine hs_iload (i := 2) (p := 70) (by decide +kernel) rfl ?_
    refine hs_if0 (c := .eq) (t := 75) (f := 73) (by decide +kernel) (show ¬ (Int32.ofNat 1 = 0) by decide) ?_
    refine hs_iload (i := 1) (p := 74) (by decide +kernel) rfl ?_
    refine hs_iret (by decide +kernel) ?_
    rw [lyV_y h00 hm1 hm3 hf hA]
    rfl
  · rw [if_neg hA]
    have lt_am := (hH.2.2 _ _ k_am).1
    have lt_aw := (hH.2.2 _ _ k_aw).1
    refine hs_iload (i := 2) (p := 70) (by decide +kernel) rfl ?_
    refine hs_if1 (c := .eq) (t := 75) (f := 73) (by decide +kernel) (show Int32.ofNat 0 = 0 by decide) ?_
    refine hs_iinc1 (i := 1) (p := 78) (by decide +kernel) rfl (Nat.le_of_ble_eq_true rfl) ?_
    refine hs_goto (p := 18) (by decide +kernel) ?_
    exact hno hA _ _
theorem fn_lyO {x2 x3 : Option Value} (hH : et_H et_TT K G) (k_am : K am = some 13) (k_aw : K aw = some 46) (m1 : et_pl (eg_at G am) 1 = some (.ref aw)) (w4 : et_pl (eg_at G aw) 4 = some (.int (Int32.ofNat ec))) (hec : ec ≤ 3) (hm : zyM G aw ec V) (ho : ∀ n, n < 3 → evo (V n)) (w3 : et_pl (eg_at G aw) 3 = some (.int (Int32.ofNat nc))) (hnc : nc ≤ 20) (hcr : crP G aw nc X Y) (h00 : ¬ ec = 0) (hm1 : 1 ≤ m) (hm4 : m ≤ 4) (hf : ∀ j, 1 ≤ j → j < m → ¬ lyA V X Y ec j nc = true) : et_go none (d + 8) 287 18 [some (.ref am), some (.int (Int32.ofNat m)), x2, x3] [] G 0 0 (xp_Z G (some (.int (lyV V X Y ec nc)))) := by
  induction hq9 : 4 - m using Nat.strongRecOn generalizing m x2 x3 with
  | _ q9 ih =>
    have lt_am := (hH.2.2 _ _ k_am).1
    have lt_aw := (hH.2.2 _ _ k_aw).1
    refine hs_iload (i := 1) (p := 19) (by decide +kernel) rfl ?_
    refine hs_k (x := Int32.ofNat 3) (p := 20) (by decide +kernel) ?_
    refine hs_br2n (c := .gt) (t := 81) (f := 23) (by decide +kernel) (by omega) (by omega) (fun (c20 : 3 < m) => ?_) (fun (c20 : ¬ (3 < m)) => ?_)
    · refine hs_k (x := (-1)) (p := 82) (by decide +kernel) ?_
      refine hs_iret (by decide +kernel) ?_
      obtain rfl : m = 4 := by omega
      rw [lyV_n hf]
      rfl
    · refine hs_k (x := Int32.ofNat 1) (p := 24) (by decide +kernel) ?_
      refine hs_istore (i := 2) (p := 25) (by decide +kernel) (Nat.le_of_ble_eq_true rfl) ?_
      refine hs_k (x := Int32.ofNat 0) (p := 26) (by decide +kernel) ?_
      refine hs_istore (i := 3) (p := 27) (by decide +kernel) (Nat.le_of_ble_eq_true rfl) ?_
      exact fn_lyI1 (c := 0) hH k_am k_aw m1 w4 hec hm ho w3 hnc hcr hm1 (by omega) rfl (Nat.zero_le _) (fun x3 => fn_lyT hH k_am k_aw m1 w4 hec hm ho w3 hnc hcr h00 hm1 (by omega) hf (fun hA x2 x3 => @ih (4 - (m + 1)) (by omega) (m + 1) x2 x3 (by omega) (by omega) (fun j h1 h2 => by by_cases e : j = m; rw [e]; exact hA; exact hf j h1 (by omega)) rfl))
theorem fc_layer (k_th : K th = some 12) (h0 : et_pl (eg_at G th) 0 = some (.ref s0)) (hH : et_H et_TT K G) (k_s0 : K s0 = some 10) (h5 : et_pl (eg_at G s0) 5 = some (.int (Int32.ofNat ec))) (hec : ec ≤ 3) (t : ezK K ya yb O A) (hz : ez G th s0 s1 ya yb O A V) (ho : ∀ n, n < 6 → evo (V n)) (g2 : et_pl (eg_at G s0) 2 = some (.int (Int32.ofNat nc))) (hnc : nc ≤ 20) (hcc : ccP G s0 la ly nc X Y) (k_la : K la = some 17) (k_ly : K ly = some 27) (hd : 5 ≤ d2) : et_go none d2 123 0 (eg_en (eg_mL 123) [.ref th]) [] G 0 0 (xp_Z G (some (.int (lyV V X Y ec nc)))) := by
  obtain ⟨d, rfl⟩ : ∃ d, d2 = d + 5 := ⟨d2 - 5, by omega⟩
  rw [show eg_mL 123 = 4 from by decide +kernel]
  show et_go none (d + 5) 123 0 [some (.ref th), none, none, none] [] G 0 0 _
  have lt_th := (hH.2.2 _ _ k_th).1
  have lt_s0 := (hH.2.2 _ _ k_s0).1
  have lt_la := (hH.2.2 _ _ k_la).1
  have lt_ly := (hH.2.2 _ _ k_ly).1
  refine hs_aload (i := 0) (p := 1) (by decide +kernel) rfl ?_
  refine hf_get (T := et_TT) (t := 12) (ci := 10) (f := 0) (p := 4) (by decide +kernel) rfl hH k_th h0 ?_
  refine hf_get (T := et_TT) (t := 10) (ci := 8) (f := 5) (p := 7) (by decide +kernel) rfl hH k_s0 h5 ?_
  refine hs_br1 (c := .ne) (t := 12) (f := 10) (by decide +kernel) (fun (c7 : ¬ Int32.ofNat ec = 0) => ?_) (fun (c7 : ¬ (¬ Int32.ofNat ec = 0)) => ?_)
  · refine hs_k (x := Int32.ofNat 1) (p := 13) (by decide +kernel) ?_
    refine hs_istore (i := 1) (p := 14) (by decide +kernel) (Nat.le_of_ble_eq_true rfl) ?_
    exact fc_lyO (m := 1) k_th h0 hH k_s0 h5 hec t hz ho g2 hnc hcc k_la k_ly (fun h => c7 (by rw [h]; rfl)) (by decide) (by decide) (fun j h1 h2 => by omega)
  · refine hs_k (x := (-1)) (p := 11) (by decide +kernel) ?_
    refine hs_iret (by decide +kernel) ?_
    have e0 : ec = 0 := (hs_neq (by omega) (by decide)).mp (show Int32.ofNat ec = Int32.ofNat 0 from Decidable.of_not_not c7)
    rw [show lyV V X Y ec nc = -1 from by unfold lyV; rw [if_pos e0]]
    rfl
theorem fn_layer (hH : et_H et_TT K G) (k_am : K am = some 13) (k_aw : K aw = some 46) (m1 : et_pl (eg_at G am) 1 = some (.ref aw)) (w4 : et_pl (eg_at G aw) 4 = some (.int (Int32.ofNat ec))) (hec : ec ≤ 3) (hm : zyM G aw ec V) (ho : ∀ n, n < 3 → evo (V n)) (w3 : et_pl (eg_at G aw) 3 = some (.int (Int32.ofNat nc))) (hnc : nc ≤ 20) (hcr : crP G aw nc X Y) (hd : 8 ≤ d2) : et_go none d2 287 0 (eg_en (eg_mL 287) [.ref am]) [] G 0 0 (fun u => u.1 = .inl (some (.int (lyV V X Y ec nc))) ∧ et_pl (eg_at u.2.1 am) 0 = some (.int (Int32.ofNat 0))) := by
  obtain ⟨d, rfl⟩ : ∃ d, d2 = d + 8 := ⟨d2 - 8, by omega⟩
  rw [show eg_mL 287 = 4 from by decide +kernel]
  show et_go none (d + 8) 287 0 [some (.ref am), none, none, none] [] G 0 0 _
  have lt_am := (hH.2.2 _ _ k_am).1
  have lt_aw := (hH.2.2 _ _ k_aw).1
  refine hs_aload (i := 0) (p := 1) (by decide +kernel) rfl ?_
  refine hs_k (x := Int32.ofNat 0) (p := 2) (by decide +kernel) ?_
  refine hf_put (T := et_TT) (t := 13) (ci := 11) (f := 0) (p := 5) (ty := .int) (by decide +kernel) rfl rfl rfl rfl rfl hH k_am hi_any (fun G2 hH x2 e2 => ?_)
  have hm := hm.mv ho (fun j _ _ => x2.2 aw j lt_aw (fun h => hi_ne k_aw k_am (by decide) h.1))
  have hcr : crP G2 aw nc X Y := fun k hk => ⟨(x2.2 aw _ lt_aw (fun h => hi_ne k_aw k_am (by decide) h.1)).trans (hcr k hk).1, (x2.2 aw _ lt_aw (fun h => hi_ne k_aw k_am (by decide) h.1)).trans (hcr k hk).2.1, (hcr k hk).2.2⟩
  have w3 := (x2.2 aw 3 lt_aw (fun h => hi_ne k_aw k_am (by decide) h.1)).trans w3
  have m1 := (x2.2 am 1 lt_am (fun h => absurd h.2 (by decide))).trans m1
  have w4 := (x2.2 aw 4 lt_aw (fun h => (hi_ne k_aw k_am (by decide)) h.1)).trans w4
  have lt_am := Nat.lt_of_lt_of_le lt_am x2.1
  have lt_aw := Nat.lt_of_lt_of_le lt_aw x2.1
  refine hs_aload (i := 0) (p := 6) (by decide +kernel) rfl ?_
  refine hf_get (T := et_TT) (t := 13) (ci := 11) (f := 1) (p := 9) (by decide +kernel) rfl hH k_am m1 ?_
  refine hs_k (x := Int32.ofNat 4) (p := 10) (by decide +kernel) ?_
  refine hf_ald (ins := .iaload) (T := et_TT) (t := 46) (kd := 0) (N := 12741) (p := 11) (by decide +kernel) (fun _ _ _ _ _ _ _ _ _ _ => rfl) rfl rfl rfl hH k_aw (by decide) w4 ?_
  refine hs_br1 (c := .ne) (t := 16) (f := 14) (by decide +kernel) (fun (c11 : ¬ Int32.ofNat ec = 0) => ?_) (fun (c11 : ¬ (¬ Int32.ofNat ec = 0)) => ?_)
  · refine hs_k (x := Int32.ofNat 1) (p := 17) (by decide +kernel) ?_
    refine hs_istore (i := 1) (p := 18) (by decide +kernel) (Nat.le_of_ble_eq_true rfl) ?_
    refine (fn_lyO (m := 1) hH k_am k_aw m1 w4 hec hm ho w3 hnc hcr (fun h => c11 (by rw [h]; rfl)) (by decide) (by decide) (fun j h1 h2 => by omega)).mono (fun u hu => ?_)
    obtain rfl := hu
    exact ⟨rfl, e2⟩
  · refine hs_k (x := (-1)) (p := 15) (by decide +kernel) ?_
    refine hs_iret (by decide +kernel) ?_
    have e0 : ec = 0 := (hs_neq (by omega) (by decide)).mp (show Int32.ofNat ec = Int32.ofNat 0 from Decidable.of_not_not c11)
    exact ⟨by rw [show lyV V X Y ec nc = -1 from by unfold lyV; rw [if_pos e0]], e2⟩
end YBA
end
section
/-! PHASE D: right cards -/
/-- how many of the first CARDS an EYE is right on -/
def rtE (v : evT) (X : Nat → Int32) (Y : Nat → Nat) : Nat → Nat
  | 0 => 0
  | c + 1 => rtE v X Y c + (if (if v.2.2.2.2.1 < suN v.2.1 v.2.2.1 v.2.2.2.1 (X c) v.1 then 1 else 0) = Y c then 1 else 0)
theorem rtE_le (v : evT) (X : Nat → Int32) (Y : Nat → Nat) : ∀ m, rtE v X Y m ≤ m
  | 0 => Nat.le_refl 0
  | m + 1 => by
    have h := rtE_le v X Y m
    show rtE v X Y m + (if _ then 1 else 0) ≤ m + 1
    have h2 : ∀ (p : Prop) [Decidable p], (if p then 1 else 0 : Nat) ≤ 1 := fun p _ => by split <;> omega
    have h3 := h2 ((if v.2.2.2.2.1 < suN v.2.1 v.2.2.1 v.2.2.2.1 (X m) v.1 then 1 else 0) = Y m)
    omega
theorem rtE_y {v : evT} {X : Nat → Int32} {Y : Nat → Nat} {m : Nat} (h : (if v.2.2.2.2.1 < suN v.2.1 v.2.2.1 v.2.2.2.1 (X m) v.1 then 1 else 0) = Y m) : rtE v X Y (m + 1) = rtE v X Y m + 1 := by
  show rtE v X Y m + (if _ then 1 else 0) = _
  rw [if_pos h]
theorem rtE_n {v : evT} {X : Nat → Int32} {Y : Nat → Nat} {m : Nat} (h : ¬ ((if v.2.2.2.2.1 < suN v.2.1 v.2.2.1 v.2.2.2.1 (X m) v.1 then 1 else 0) = Y m)) : rtE v X Y (m + 1) = rtE v X Y m := by
  show rtE v X Y m + (if _ then 1 else 0) = _
  rw [if_neg h]
  rfl
section YCA
variable {K : et_K} {G : eg_G} {d d2 s0 e ca ki kn nc la ly am aw n c : Nat} {v : evT} {X : Nat → Int32} {Y : Nat → Nat}
theorem fc_rtL (hH : et_H et_TT K G) (k_s0 : K s0 = some 10) (k_e : K e = some 3) (t9 : evK K e ca ki kn v.1 v.2.2.1) (hv : evc G e ca ki kn v) (g2 : et_pl (eg_at G s0) 2 = some (.int (Int32.ofNat nc))) (hnc : nc ≤ 20) (hcc : ccP G s0 la ly nc X Y) (k_la : K la = some 17) (k_ly : K ly = some 27) (hc : c ≤ nc) : et_go none (d + 4) 106 4 [some (.ref s0), some (.ref e), some (.int (Int32.ofNat (rtE v X Y c))), some (.int (Int32.ofNat c))] [] G 0 0 (xp_Z G (some (.int (Int32.ofNat (rtE v X Y nc))))) := by
  induction hq9 : nc - c using Nat.strongRecOn generalizing c with
  | _ q9 ih =>
    have hY1 : c < nc → Y c ≤ 1 := fun h9 => (hcc.2 c h9).2.2
    have lt_s0 := (hH.2.2 _ _ k_s0).1
    have lt_e := (hH.2.2 _ _ k_e).1
    have lt_la := (hH.2.2 _ _ k_la).1
    have lt_ly := (hH.2.2 _ _ k_ly).1
    refine hs_iload (i := 3) (p := 5) (by decide +kernel) rfl ?_
    refine hs_aload (i := 0) (p := 6) (by decide +kernel) rfl ?_
    refine hf_get (T := et_TT) (t := 10) (ci := 8) (f := 2) (p := 9) (by decide +kernel) rfl hH k_s0 g2 ?_
    refine hs_br2n (c := .ge) (t := 40) (f := 12) (by decide +kernel) (by omega) (by omega) (fun (c9 : nc ≤ c) => ?_) (fun (c9 : ¬ (nc ≤ c)) => ?_)
    · refine hs_iload (i := 2) (p := 41) (by decide +kernel) rfl ?_
      refine hs_iret (by decide +kernel) ?_
      obtain rfl : c = nc := by omega
      rfl
    · refine hs_aload (i := 1) (p := 13) (by decide +kernel) rfl ?_
      refine hs_aload (i := 0) (p := 14) (by decide +kernel) rfl ?_
      refine hf_get (T := et_TT) (t := 10) (ci := 8) (f := 3) (p := 17) (by decide +kernel) rfl hH k_s0 hcc.1.1 ?_
      refine hs_iload (i := 3) (p := 18) (by decide +kernel) rfl ?_
      refine hf_ald (ins := .iaload) (T := et_TT) (t := 17) (kd := 0) (N := 20) (p := 19) (by decide +kernel) (fun _ _ _ _ _ _ _ _ _ _ => rfl) rfl rfl rfl hH k_la (by decide) (hcc.2 c (by omega)).1 ?_
      refine ht_callv (T := et_TT) (t := 3) (mi := 32) (na := 1) (ci := 1) (lk := 4) (lm := 2) (L0 := eg_en (eg_mL 32) [.ref e, .int (X c)]) (by decide +kernel) rfl hH k_e rfl rfl rfl rfl rfl (by rw [show eg_mL 32 = 2 from by decide +kernel]; first | done | rfl) ?_
      refine (fd_says hH t9 hv (by omega)).mono (fun u hu => xp_cb hu ?_)
      by_cases qs : v.2.2.2.2.1 < suN v.2.1 v.2.2.1 v.2.2.2.1 (X c) v.1
      · rw [if_pos qs]
        show et_go none _ 106 22 _ [.int (Int32.ofNat 1)] _ _ _ _
        refine hs_aload (i := 0) (p := 23) (by decide +kernel) rfl ?_
        refine hf_get (T := et_TT) (t := 10) (ci := 8) (f := 4) (p := 26) (by decide +kernel) rfl hH k_s0 hcc.1.2 ?_
        refine hs_iload (i := 3) (p := 27) (by decide +kernel) rfl ?_
        refine hf_ald (ins := .baload) (T := et_TT) (t := 27) (kd := 3) (N := 20) (p := 28) (by decide +kernel) (fun _ _ _ _ _ _ _ _ _ _ => rfl) rfl rfl rfl hH k_ly (by decide) (hcc.2 c (by omega)).2.1 ?_
        refine hs_br2n (c := .ne) (t := 34) (f := 31) (by decide +kernel) (by omega) (by omega) (fun (c28 : ¬ 1 = (Y c)) => ?_) (fun (c28 : ¬ (¬ 1 = (Y c))) => ?_)
        · refine hs_iinc1 (i := 3) (p := 37) (by decide +kernel) rfl (Nat.le_of_ble_eq_true rfl) ?_
          refine hs_goto (p := 4) (by decide +kernel) ?_
          have h9 := @ih (nc - (c + 1)) (by omega) (c + 1) (by omega) rfl
          have e9 : ¬ ((if v.2.2.2.2.1 < suN v.2.1 v.2.2.1 v.2.2.2.1 (X c) v.1 then 1 else 0) = Y c) := by rw [if_pos qs]; first | exact c28 | omega
          rw [rtE_n e9] at h9
          exact h9
        · refine hs_iinc1 (i := 2) (p := 34) (by decide +kernel) rfl (Nat.le_of_ble_eq_true rfl) ?_
          refine hs_iinc1 (i := 3) (p := 37) (by decide +kernel) rfl (Nat.le_of_ble_eq_true rfl) ?_
          refine hs_goto (p := 4) (by decide +kernel) ?_
          have h9 := @ih (nc - (c + 1)) (by omega) (c + 1) (by omega) rfl
          have e9 : (if v.2.2.2.2.1 < suN v.2.1 v.2.2.1 v.2.2.2.1 (X c) v.1 then 1 else 0) = Y c := by rw [if_pos qs]; first | exact c28 | exact Decidable.of_not_not c28 | omega
          rw [rtE_y e9] at h9
          exact h9
      · rw [if_neg qs]
        show et_go none _ 106 22 _ [.int (Int32.ofNat 0)] _ _ _ _
        refine hs_aload (i := 0) (p := 23) (by decide +kernel) rfl ?_
        refine hf_get (T := et_TT) (t := 10) (ci := 8) (f := 4) (p := 26) (by decide +kernel) rfl hH k_s0 hcc.1.2 ?_
        refine hs_iload (i := 3) (p := 27) (by decide +kernel) rfl ?_
        refine hf_ald (ins := .baload) (T := et_TT) (t := 27) (kd := 3) (N := 20) (p := 28) (by decide +kernel) (fun _ _ _ _ _ _ _ _ _ _ => rfl) rfl rfl rfl hH k_ly (by decide) (hcc.2 c (by omega)).2.1 ?_
        refine hs_br2n (c := .ne) (t := 34) (f := 31) (by decide +kernel) (by omega) (by omega) (fun (c28 : ¬ 0 = (Y c)) => ?_) (fun (c28 : ¬ (¬ 0 = (Y c))) => ?_)
        · refine hs_iinc1 (i := 3) (p := 37) (by decide +kernel) rfl (Nat.le_of_ble_eq_true rfl) ?_
          refine hs_goto (p := 4) (by decide +kernel) ?_
          have h9 := @ih (nc - (c + 1)) (by omega) (c + 1) (by omega) rfl
          have e9 : ¬ ((if v.2.2.2.2.1 < suN v.2.1 v.2.2.1 v.2.2.2.1 (X c) v.1 then 1 else 0) = Y c) := by rw [if_neg qs]; first | exact c28 | omega
          rw [rtE_n e9] at h9
          exact h9
        · refine hs_iinc1 (i := 2) (p := 34) (by decide +kernel) rfl (Nat.le_of_ble_eq_true rfl) ?_
          refine hs_iinc1 (i := 3) (p := 37) (by decide +kernel) rfl (Nat.le_of_ble_eq_true rfl) ?_
          refine hs_goto (p := 4) (by decide +kernel) ?_
          have h9 := @ih (nc - (c + 1)) (by omega) (c + 1) (by omega) rfl
          have e9 : (if v.2.2.2.2.1 < suN v.2.1 v.2.2.1 v.2.2.2.1 (X c) v.1 then 1 else 0) = Y c := by rw [if_neg qs]; first | exact c28 | exact Decidable.of_not_not c28 | omega
          rw [rtE_y e9] at h9
          exact h9
theorem fc_rt (hH : et_H et_TT K G) (k_s0 : K s0 = some 10) (k_e : K e = some 3) (t9 : evK K e ca ki kn v.1 v.2.2.1) (hv : evc G e ca ki kn v) (g2 : et_pl (eg_at G s0) 2 = some (.int (Int32.ofNat nc))) (hnc : nc ≤ 20) (hcc : ccP G s0 la ly nc X Y) (k_la : K la = some 17) (k_ly : K ly = some 27) (hd : 4 ≤ d2) : et_go none d2 106 0 (eg_en (eg_mL 106) [.ref s0, .ref e]) [] G 0 0 (xp_Z G (some (.int (Int32.ofNat (rtE v X Y nc))))) := by
  obtain ⟨d, rfl⟩ : ∃ d, d2 = d + 4 := ⟨d2 - 4, by omega⟩
  rw [show eg_mL 106 = 4 from by decide +kernel]
  show et_go none (d + 4) 106 0 [some (.ref s0), some (.ref e), none, none] [] G 0 0 _
  have lt_s0 := (hH.2.2 _ _ k_s0).1
  have lt_e := (hH.2.2 _ _ k_e).1
  have lt_la := (hH.2.2 _ _ k_la).1
  have lt_ly := (hH.2.2 _ _ k_ly).1
  refine hs_k (x := Int32.ofNat 0) (p := 1) (by decide +kernel) ?_
  refine hs_istore (i := 2) (p := 2) (by decide +kernel) (Nat.le_of_ble_eq_true rfl) ?_
  refine hs_k (x := Int32.ofNat 0) (p := 3) (by decide +kernel) ?_
  refine hs_istore (i := 3) (p := 4) (by decide +kernel) (Nat.le_of_ble_eq_true rfl) ?_
  exact fc_rtL (c := 0) hH k_s0 k_e t9 hv g2 hnc hcc k_la k_ly (Nat.zero_le _)
theorem fn_is (hH : et_H et_TT K G) (k_am : K am = some 13) (k_aw : K aw = some 46) (m1 : et_pl (eg_at G am) 1 = some (.ref aw)) (hn : n < 3) (ho : evo v) (hv : evm G aw n v) (w3 : et_pl (eg_at G aw) 3 = some (.int (Int32.ofNat nc))) (hnc : nc ≤ 20) (hcr : crP G aw nc X Y) (hc : c < nc) (hd : 7 ≤ d2) : et_go none d2 233 0 (eg_en (eg_mL 233) [.ref am, .int (Int32.ofNat n), .int (Int32.ofNat c)]) [] G 0 0 (xp_Z G (some (.int (Int32.ofNat (if (if v.2.2.2.2.1 < suN v.2.1 v.2.2.1 v.2.2.2.1 (X c) v.1 then 1 else 0) = Y c then 1 else 0))))) := by
  obtain ⟨d, rfl⟩ : ∃ d, d2 = d + 7 := ⟨d2 - 7, by omega⟩
  have hY1 := (hcr c hc).2.2
  rw [show eg_mL 233 = 3 from by decide +kernel]
  show et_go none (d + 7) 233 0 [some (.ref am), some (.int (Int32.ofNat n)), some (.int (Int32.ofNat c))] [] G 0 0 _
  have lt_am := (hH.2.2 _ _ k_am).1
  have lt_aw := (hH.2.2 _ _ k_aw).1
  refine hs_aload (i := 0) (p := 1) (by decide +kernel) rfl ?_
  refine hs_iload (i := 1) (p := 2) (by decide +kernel) rfl ?_
  refine hs_aload (i := 0) (p := 3) (by decide +kernel) rfl ?_
  refine hs_iload (i := 2) (p := 4) (by decide +kernel) rfl ?_
  refine ht_callv (T := et_TT) (t := 13) (mi := 234) (na := 1) (ci := 11) (lk := 3) (lm := 2) (L0 := eg_en (eg_mL 234) [.ref am, .int (Int32.ofNat c)]) (by decide +kernel) rfl hH k_am rfl rfl rfl rfl rfl (by rw [show eg_mL 234 = 2 from by decide +kernel]; first | done | rfl) ?_
  refine (fm_litOf hH k_am k_aw m1 (by omega) (hcr c hc).1).mono (fun u hu => xp_cb hu ?_)
  show et_go none _ 233 7 _ [.int (X c), .int (Int32.ofNat n), .ref am] _ _ _ _
  refine ht_callv (T := et_TT) (t := 13) (mi := 235) (na := 2) (ci := 11) (lk := 3) (lm := 3) (L0 := eg_en (eg_mL 235) [.ref am, .int (Int32.ofNat n), .int (X c)]) (by decide +kernel) rfl hH k_am rfl rfl rfl rfl rfl (by rw [show eg_mL 235 = 3 from by decide +kernel]; first | done | rfl) ?_
  refine (fn_says hH k_am k_aw m1 hn ho.1.1 ho.1.2 hv (by omega)).mono (fun u hu => xp_cb hu ?_)
  by_cases qs : v.2.2.2.2.1 < suN v.2.1 v.2.2.1 v.2.2.2.1 (X c) v.1
  · rw [if_pos qs]
    show et_go none _ 233 10 _ [.int (Int32.ofNat 1)] _ _ _ _
    refine hs_aload (i := 0) (p := 11) (by decide +kernel) rfl ?_
    refine hs_iload (i := 2) (p := 12) (by decide +kernel) rfl ?_
    refine ht_callv (T := et_TT) (t := 13) (mi := 240) (na := 1) (ci := 11) (lk := 3) (lm := 2) (L0 := eg_en (eg_mL 240) [.ref am, .int (Int32.ofNat c)]) (by decide +kernel) rfl hH k_am rfl rfl rfl rfl rfl (by rw [show eg_mL 240 = 2 from by decide +kernel]; first | done | rfl) ?_
    refine (fm_isYes hH k_am k_aw m1 (by omega) (hcr c hc).2.2 (hcr c hc).2.1).mono (fun u hu => xp_cb hu ?_)
    show et_go none _ 233 15 _ [.int (Int32.ofNat (Y c)), .int (Int32.ofNat 1)] _ _ _ _
    refine hs_br2n (c := .ne) (t := 22) (f := 18) (by decide +kernel) (by omega) (by omega) (fun (c15 : ¬ 1 = (Y c)) => ?_) (fun (c15 : ¬ (¬ 1 = (Y c))) => ?_)
    · refine hs_k (x := Int32.ofNat 0) (p := 23) (by decide +kernel) ?_
      refine hs_zret (by decide +kernel) (.inl rfl) ?_
      have e9 : ¬ (1 = Y c) := by first | exact c15 | exact Decidable.of_not_not c15 | omega
      rw [if_neg e9]
      rfl
    · refine hs_k (x := Int32.ofNat 1) (p := 19) (by decide +kernel) ?_
      refine hs_goto (p := 23) (by decide +kernel) ?_
      refine hs_zret (by decide +kernel) (.inr rfl) ?_
      have e9 : (1 = Y c) := by first | exact c15 | exact Decidable.of_not_not c15 | omega
      rw [if_pos e9]
      rfl
  · rw [if_neg qs]
    show et_go none _ 233 10 _ [.int (Int32.ofNat 0)] _ _ _ _
    refine hs_aload (i := 0) (p := 11) (by decide +kernel) rfl ?_
    refine hs_iload (i := 2) (p := 12) (by decide +kernel) rfl ?_
    refine ht_callv (T := et_TT) (t := 13) (mi := 240) (na := 1) (ci := 11) (lk := 3) (lm := 2) (L0 := eg_en (eg_mL 240) [.ref am, .int (Int32.ofNat c)]) (by decide +kernel) rfl hH k_am rfl rfl rfl rfl rfl (by rw [show eg_mL 240 = 2 from by decide +kernel]; first | done | rfl) ?_
    refine (fm_isYes hH k_am k_aw m1 (by omega) (hcr c hc).2.2 (hcr c hc).2.1).mono (fun u hu => xp_cb hu ?_)
    show et_go none _ 233 15 _ [.int (Int32.ofNat (Y c)), .int (Int32.ofNat 0)] _ _ _ _
    refine hs_br2n (c := .ne) (t := 22) (f := 18) (by decide +kernel) (by omega) (by omega) (fun (c15 : ¬ 0 = (Y c)) => ?_) (fun (c15 : ¬ (¬ 0 = (Y c))) => ?_)
    · refine hs_k (x := Int32.ofNat 0) (p := 23) (by decide +kernel) ?_
      refine hs_zret (by decide +kernel) (.inl rfl) ?_
      have e9 : ¬ (0 = Y c) := by first | exact c15 | exact Decidable.of_not_not c15 | omega
      rw [if_neg e9]
      rfl
    · refine hs_k (x := Int32.ofNat 1) (p := 19) (by decide +kernel) ?_
      refine hs_goto (p := 23) (by decide +kernel) ?_
      refine hs_zret (by decide +kernel) (.inr rfl) ?_
      have e9 : (0 = Y c) := by first | exact c15 | exact Decidable.of_not_not c15 | omega
      rw [if_pos e9]
      rfl
theorem fn_rtL (hH : et_H et_TT K G) (k_am : K am = some 13) (k_aw : K aw = some 46) (m1 : et_pl (eg_at G am) 1 = some (.ref aw)) (hn : n < 3) (ho : evo v) (hv : evm G aw n v) (w3 : et_pl (eg_at G aw) 3 = some (.int (Int32.ofNat nc))) (hnc : nc ≤ 20) (hcr : crP G aw nc X Y) (hc : c ≤ nc) : et_go none (d + 8) 232 4 [some (.ref am), some (.int (Int32.ofNat n)), some (.int (Int32.ofNat (rtE v X Y c))), some (.int (Int32.ofNat c))] [] G 0 0 (xp_Z G (some (.int (Int32.ofNat (rtE v X Y nc))))) := by
  induction hq9 : nc - c using Nat.strongRecOn generalizing c with
  | _ q9 ih =>
    have lt_am := (hH.2.2 _ _ k_am).1
    have lt_aw := (hH.2.2 _ _ k_aw).1
    refine hs_iload (i := 3) (p := 5) (by decide +kernel) rfl ?_
    refine hs_aload (i := 0) (p := 6) (by decide +kernel) rfl ?_
    refine ht_callv (T := et_TT) (t := 13) (mi := 218) (na := 0) (ci := 11) (lk := 4) (lm := 1) (L0 := eg_en (eg_mL 218) [.ref am]) (by decide +kernel) rfl hH k_am rfl rfl rfl rfl rfl (by rw [show eg_mL 218 = 1 from by decide +kernel]; first | done | rfl) ?_
    refine (fm_cards hH k_am k_aw m1 w3).mono (fun u hu => xp_cb hu ?_)
    show et_go none _ 232 9 _ [.int (Int32.ofNat nc), .int (Int32.ofNat c)] _ _ _ _
    refine hs_br2n (c := .ge) (t := 35) (f := 12) (by decide +kernel) (by omega) (by omega) (fun (c9 : nc ≤ c) => ?_) (fun (c9 : ¬ (nc ≤ c)) => ?_)
    · refine hs_iload (i := 2) (p := 36) (by decide +kernel) rfl ?_
      refine hs_iret (by decide +kernel) ?_
      obtain rfl : c = nc := by omega
      rfl
    · refine hs_iload (i := 2) (p := 13) (by decide +kernel) rfl ?_
      refine hs_aload (i := 0) (p := 14) (by decide +kernel) rfl ?_
      refine hs_iload (i := 1) (p := 15) (by decide +kernel) rfl ?_
      refine hs_iload (i := 3) (p := 16) (by decide +kernel) rfl ?_
      refine ht_callv (T := et_TT) (t := 13) (mi := 233) (na := 2) (ci := 11) (lk := 4) (lm := 3) (L0 := eg_en (eg_mL 233) [.ref am, .int (Int32.ofNat n), .int (Int32.ofNat c)]) (by decide +kernel) rfl hH k_am rfl rfl rfl rfl rfl (by rw [show eg_mL 233 = 3 from by decide +kernel]; first | done | rfl) ?_
      refine (fn_is hH k_am k_aw m1 hn ho hv w3 hnc hcr (by omega) (by omega)).mono (fun u hu => xp_cb hu ?_)
      by_cases qi : (if v.2.2.2.2.1 < suN v.2.1 v.2.2.1 v.2.2.2.1 (X c) v.1 then 1 else 0) = Y c
      · rw [if_pos qi]
        show et_go none _ 232 19 _ [.int (Int32.ofNat 1), .int (Int32.ofNat (rtE v X Y c))] _ _ _ _
        refine hs_if0 (c := .eq) (t := 26) (f := 22) (by decide +kernel) (show ¬ (Int32.ofNat 1 = 0) by decide) ?_
        refine hs_k (x := Int32.ofNat 1) (p := 23) (by decide +kernel) ?_
        refine hs_goto (p := 27) (by decide +kernel) ?_
        refine hs_iaddn (p := 28) (by decide +kernel) ?_
        refine hs_istore (i := 2) (p := 29) (by decide +kernel) (Nat.le_of_ble_eq_true rfl) ?_
        refine hs_iinc1 (i := 3) (p := 32) (by decide +kernel) rfl (Nat.le_of_ble_eq_true rfl) ?_
        refine hs_goto (p := 4) (by decide +kernel) ?_
        have h9 := @ih (nc - (c + 1)) (by omega) (c + 1) (by omega) rfl
        rw [rtE_y qi] at h9
        exact h9
      · rw [if_neg qi]
        show et_go none _ 232 19 _ [.int (Int32.ofNat 0), .int (Int32.ofNat (rtE v X Y c))] _ _ _ _
        refine hs_if1 (c := .eq) (t := 26) (f := 22) (by decide +kernel) (show Int32.ofNat 0 = 0 by decide) ?_
        refine hs_k (x := Int32.ofNat 0) (p := 27) (by decide +kernel) ?_
        refine hs_iaddn (p := 28) (by decide +kernel) ?_
        refine hs_istore (i := 2) (p := 29) (by decide +kernel) (Nat.le_of_ble_eq_true rfl) ?_
        refine hs_iinc1 (i := 3) (p := 32) (by decide +kernel) rfl (Nat.le_of_ble_eq_true rfl) ?_
        refine hs_goto (p := 4) (by decide +kernel) ?_
        have h9 := @ih (nc - (c + 1)) (by omega) (c + 1) (by omega) rfl
        rw [rtE_n qi] at h9
        exact h9
theorem fn_rt (hH : et_H et_TT K G) (k_am : K am = some 13) (k_aw : K aw = some 46) (m1 : et_pl (eg_at G am) 1 = some (.ref aw)) (hn : n < 3) (ho : evo v) (hv : evm G aw n v) (w3 : et_pl (eg_at G aw) 3 = some (.int (Int32.ofNat nc))) (hnc : nc ≤ 20) (hcr : crP G aw nc X Y) (hd : 8 ≤ d2) : et_go none d2 232 0 (eg_en (eg_mL 232) [.ref am, .int (Int32.ofNat n)]) [] G 0 0 (xp_Z G (some (.int (Int32.ofNat (rtE v X Y nc))))) := by
  obtain ⟨d, rfl⟩ : ∃ d, d2 = d + 8 := ⟨d2 - 8, by omega⟩
  rw [show eg_mL 232 = 4 from by decide +kernel]
  show et_go none (d + 8) 232 0 [some (.ref am), some (.int (Int32.ofNat n)), none, none] [] G 0 0 _
  have lt_am := (hH.2.2 _ _ k_am).1
  have lt_aw := (hH.2.2 _ _ k_aw).1
  refine hs_k (x := Int32.ofNat 0) (p := 1) (by decide +kernel) ?_
  refine hs_istore (i := 2) (p := 2) (by decide +kernel) (Nat.le_of_ble_eq_true rfl) ?_
  refine hs_k (x := Int32.ofNat 0) (p := 3) (by decide +kernel) ?_
  refine hs_istore (i := 3) (p := 4) (by decide +kernel) (Nat.le_of_ble_eq_true rfl) ?_
  exact fn_rtL (c := 0) hH k_am k_aw m1 hn ho hv w3 hnc hcr (Nat.zero_le _)
end YCA
end
