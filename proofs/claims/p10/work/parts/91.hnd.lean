/-! BY HAND: Search.addCards, each -/
def wc (Y : Nat → Bool) (b n : Nat) : Nat := if b = 1 then cn Y n else n - cn Y n
theorem wc_s (Y : Nat → Bool) (b n : Nat) : wc Y b n ≤ wc Y b (n + 1) := by
  unfold wc
  have := cn_le Y n
  rw [cn_s]
  split <;> split <;> omega
theorem wc_m {Y : Nat → Bool} {b n m : Nat} (h : n ≤ m) : wc Y b n ≤ wc Y b m := by
  unfold wc
  have a := cn_m Y h
  have := cn_le Y n
  split <;> omega
theorem wc_a {G : eg_G} {ya b n : Nat} {x : Int32} (hb : b = 0 ∨ b = 1) (e : et_pl (eg_at G ya) n = some (.int x)) (h : ¬ ¬ x = Int32.ofNat b) : wc (hb_Y G ya) b (n + 1) = wc (hb_Y G ya) b n + 1 := by
  have hx : x = Int32.ofNat b := Decidable.not_not.mp h
  have := cn_le (hb_Y G ya) n
  unfold wc
  rw [cn_s]
  rcases hb with rfl | rfl
  · have := hb_f e (fun h => h hx)
    rw [if_neg this, if_neg (by decide), if_neg (by decide)]
    omega
  · have := hb_t e (by rw [hx]; decide)
    rw [if_pos this, if_pos rfl, if_pos rfl]
theorem wc_t (Y : Nat → Bool) (m : Nat) : wc Y 1 m + wc Y 0 m = m := by
  have := cn_le Y m
  unfold wc
  rw [if_pos rfl, if_neg (by decide)]
  omega
def hb_W (w : et_Wd) (se ya m0 b cc : Nat) (u : eg_O) : Prop := hi_Z et_TT w ha_M [(.inl none, 0, 0)] u ∧ ∃ c2, et_pl (eg_at u.2.1 se) 5 = some (.int (Int32.ofNat c2)) ∧ c2 ≤ cc + wc (hb_Y w.2.2 ya) b m0
section RAC
variable {w : et_Wd} {K : et_K} {G : eg_G} {d se ey st ya m0 b c0 : Nat}
theorem hn_ac {cc : Nat} (hH : et_H et_TT K G) (hx0 : et_ex w.1 K) (hf : et_fr ha_M w.1 w.2.2 G) (k_se : K se = some 9) (k_ey : K ey = some 3) (k_st : K st = some 10) (hc5 : et_pl (eg_at G se) 5 = some (.int (Int32.ofNat cc))) (z_st : w.1 st = some 10) (hm0 : et_pl (eg_at w.2.2 st) 2 = some (.int (Int32.ofNat m0))) (hm : m0 ≤ 20) (hya0 : et_pl (eg_at w.2.2 st) 4 = some (.ref ya)) (z_ya : w.1 ya = some 27) {h : Nat} (hh : h ≤ m0) (hb : b = 0 ∨ b = 1) (h0 : c0 ≤ 120) (hi : cc ≤ c0 + wc (hb_Y w.2.2 ya) b h) : et_go none (d + 4) 100 3 [some (.ref se), some (.ref ey), some (.ref st), some (.int (Int32.ofNat b)), some (.int (Int32.ofNat h))] [] G 0 0 (hb_W w se ya m0 b c0) := by
  induction hmz : m0 - h using Nat.strongRecOn generalizing h cc K G with
  | _ z ih =>
    have hcl : cc ≤ c0 + wc (hb_Y w.2.2 ya) b m0 := Nat.le_trans hi (Nat.add_le_add_left (wc_m hh) _)
    have hcb : wc (hb_Y w.2.2 ya) b m0 ≤ 20 := by
      have q := cn_le (hb_Y w.2.2 ya) m0
      unfold wc
      split <;> omega
    refine hs_iload (i := 4) (p := 5) (by decide +kernel) rfl ?_
    refine hs_aload (i := 2) (p := 6) (by decide +kernel) rfl ?_
    refine ht_getn (T := et_TT) (t := 10) (ci := 8) (f := 2) (p := 9) (by decide +kernel) rfl rfl hH k_st (fun c6 h6 e6 => ?_)
    have q6 : c6 = m0 := hb_cc ((hf.2 st 10 z_st 2 rfl).symm.trans e6) hm0 (by omega) (by omega)
    refine hs_br2n (c := .ge) (t := 42) (f := 12) (by decide +kernel) (by omega) (by omega) (fun (c9 : c6 ≤ h) => ?_) (fun (c9 : ¬ (c6 ≤ h)) => ?_)
    · refine hs_vret (by decide +kernel) ?_
      exact ⟨⟨_, List.mem_cons_self, _, hx0, hf, hH, rfl, Nat.le_refl _, Nat.le_refl _⟩, _, hc5, hcl⟩
    · refine hs_aload (i := 2) (p := 13) (by decide +kernel) rfl ?_
      refine ht_getr (T := et_TT) (t := 10) (ci := 8) (f := 4) (p := 16) (by decide +kernel) rfl rfl hH k_st (fun a13 k_a13 e13 => ?_)
      refine hs_iload (i := 4) (p := 18) (by decide +kernel) rfl ?_
      refine ht_zld (T := et_TT) (t := 27) (N := 20) (p := 19) (by decide +kernel) rfl hH k_a13 (by omega) (by decide) (fun x18 s18 => ?_)
      have y18 := hb_y (hf.wk (N := hb_M) (by decide +kernel)) z_st hya0 z_ya e13 s18
      refine hs_iload (i := 3) (p := 20) (by decide +kernel) rfl ?_
      refine hs_br2 (c := .ne) (t := 36) (f := 23) (by decide +kernel) (fun (c20 : ¬ x18 = Int32.ofNat b) => ?_) (fun (c20 : ¬ (¬ x18 = Int32.ofNat b)) => ?_)
      · refine hs_iinc1 (i := 4) (p := 39) (by decide +kernel) rfl (Nat.le_of_ble_eq_true rfl) ?_
        refine hs_goto (p := 3) (by decide +kernel) ?_
        show et_go none (d + 4) 100 3 [some (.ref se), some (.ref ey), some (.ref st), some (.int (Int32.ofNat b)), some (.int (Int32.ofNat (h + 1)))] [] _ 0 0 _
        exact ih (m0 - (h + 1)) (by omega) hH hx0 hf k_se k_ey k_st hc5 (by omega) (Nat.le_trans hi (Nat.add_le_add_left (wc_s _ _ _) _)) rfl
      · refine hs_aload (i := 0) (p := 24) (by decide +kernel) rfl ?_
        refine hs_aload (i := 1) (p := 25) (by decide +kernel) rfl ?_
        refine hs_aload (i := 2) (p := 26) (by decide +kernel) rfl ?_
        refine ht_getr (T := et_TT) (t := 10) (ci := 8) (f := 3) (p := 29) (by decide +kernel) rfl rfl hH k_st (fun a26 k_a26 e26 => ?_)
        refine hs_iload (i := 4) (p := 31) (by decide +kernel) rfl ?_
        refine ht_ild (T := et_TT) (t := 17) (N := 20) (p := 32) (by decide +kernel) rfl hH k_a26 (by omega) (by decide) (fun x31 s31 e31 => ?_)
        refine hs_k (x := Int32.ofNat 0) (p := 33) (by decide +kernel) ?_
        refine ht_callv (T := et_TT) (t := 9) (mi := 92) (na := 3) (ci := 7) (lk := 5) (lm := 5) (L0 := eg_en (eg_mL 92) [.ref se, .ref ey, .int x31, .int (Int32.ofNat 0)]) (by decide +kernel) rfl hH k_se rfl rfl rfl rfl rfl (by rw [show eg_mL 92 = 5 from by decide +kernel]; first | done | rfl) ?_
        refine (hc_addc hH (by omega) k_se k_ey hc5 (by omega)).mono (fun u hu => hs_cbc (P := fun G => ∃ c2, et_pl (eg_at G se) 5 = some (.int (Int32.ofNat c2)) ∧ c2 ≤ cc + 1) hu (fun K33 G33 x33 f33 hH hc2 => ?_))
        have k_se := x33 _ _ k_se
        have k_ey := x33 _ _ k_ey
        have k_st := x33 _ _ k_st
        have k_a13 := x33 _ _ k_a13
        have k_a26 := x33 _ _ k_a26
        have hf := hf.tr hx0 (f33.wk (by decide +kernel))
        have hx0 := hx0.tr x33
        obtain ⟨c2, hc5, hc2⟩ := hc2
        show et_go none _ 100 36 _ [] _ 0 0 _
        refine hs_iinc1 (i := 4) (p := 39) (by decide +kernel) rfl (Nat.le_of_ble_eq_true rfl) ?_
        refine hs_goto (p := 3) (by decide +kernel) ?_
        show et_go none (d + 4) 100 3 [some (.ref se), some (.ref ey), some (.ref st), some (.int (Int32.ofNat b)), some (.int (Int32.ofNat (h + 1)))] [] _ 0 0 _
        exact ih (m0 - (h + 1)) (by omega) hH hx0 hf k_se k_ey k_st hc5 (by omega) (by rw [wc_a hb y18 c20]; omega) rfl
theorem hc_ac {d2 : Nat} (hH : et_H et_TT w.1 w.2.2) (hd : 4 ≤ d2) (k_se : w.1 se = some 9) (k_ey : w.1 ey = some 3) (k_st : w.1 st = some 10) (hc5 : et_pl (eg_at w.2.2 se) 5 = some (.int (Int32.ofNat c0))) (hm0 : et_pl (eg_at w.2.2 st) 2 = some (.int (Int32.ofNat m0))) (hm : m0 ≤ 20) (hya0 : et_pl (eg_at w.2.2 st) 4 = some (.ref ya)) (z_ya : w.1 ya = some 27) (hb : b = 0 ∨ b = 1) (h0 : c0 ≤ 120) : et_go none d2 100 0 (eg_en (eg_mL 100) [.ref se, .ref ey, .ref st, .int (Int32.ofNat b)]) [] w.2.2 0 0 (hb_W w se ya m0 b c0) := by
  obtain ⟨d, rfl⟩ : ∃ d, d2 = d + 4 := ⟨d2 - 4, by omega⟩
  rw [show eg_mL 100 = 5 from by decide +kernel]
  show et_go none (d + 4) 100 0 [some (.ref se), some (.ref ey), some (.ref st), some (.int (Int32.ofNat b)), none] [] w.2.2 0 0 (hb_W w se ya m0 b c0)
  refine hs_k (x := Int32.ofNat 0) (p := 1) (by decide +kernel) ?_
  refine hs_istore (i := 4) (p := 3) (by decide +kernel) (Nat.le_of_ble_eq_true rfl) ?_
  exact hn_ac hH et_ex.rf et_fr.rf k_se k_ey k_st hc5 k_st hm0 hm hya0 z_ya (Nat.zero_le _) hb h0 (Nat.le_add_right _ _)
end RAC
