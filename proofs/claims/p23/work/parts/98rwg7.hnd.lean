section
/-! searches: found: what the class answers -/
def lowC (S : Nat → Int32) : Nat → Int32
  | 0 => Int32.ofNat 1073741824
  | n + 1 => mnI (lowC S n) (S n)
def gnC (S : Nat → Int32) (Y : Nat → Nat) : Nat → Int32
  | 0 => (-1073741824)
  | n + 1 => if Y n = 1 then gnC S Y n else mxI (gnC S Y n) (S n)
def liC (nc : Nat) (g o : Int32) : Int32 := if nc = 0 then Int32.ofNat 0 else if g = (-1073741824) then o - Int32.ofNat 1 else g
/-- what KNOBS say on the CARDS -/
def seS (v : evT) (T : Nat → Int32) (X : Nat → Int32) : Nat → Int32 := fun c => suN v.2.1 v.2.2.1 T (X c) v.1
def foW (v : evT) (X : Nat → Int32) (Y : Nat → Nat) (nc k m : Nat) : Option (Nat × Nat) → Int32
  | none => Int32.ofNat 9999
  | some q => if m < 6 then (if m < v.1 then kvT k v.1 q.2 m else Int32.ofNat 0) else if m = 6 then liC nc (gnC (seS v (kvT k v.1 q.2) X) Y nc) (lowC (seS v (kvT k v.1 q.2) X) nc) else Int32.ofNat q.1
section ZXA
variable {v : evT} {X : Nat → Int32} {Y : Nat → Nat} {nc k m : Nat} {q : Nat × Nat}
theorem foW_1 (h : m < 6) (h2 : m < v.1) : foW v X Y nc k m (some q) = kvT k v.1 q.2 m := (if_pos h).trans (if_pos h2)
theorem foW_2 (h : m < 6) (h2 : ¬ m < v.1) : foW v X Y nc k m (some q) = Int32.ofNat 0 := (if_pos h).trans (if_neg h2)
theorem foW_6 (h : m = 6) : foW v X Y nc k m (some q) = liC nc (gnC (seS v (kvT k v.1 q.2) X) Y nc) (lowC (seS v (kvT k v.1 q.2) X) nc) := (if_neg (by omega)).trans (if_pos h)
theorem foW_7 (h : ¬ m < 6) (h2 : ¬ m = 6) : foW v X Y nc k m (some q) = Int32.ofNat q.1 := (if_neg h).trans (if_neg h2)
end ZXA
section ZXB
variable {K : et_K} {G : eg_G} {d d2 th s0 ya ec se tA tR tS td be sy e ca ki kn la ly nc n k out m c b : Nat} {v : evT} {X : Nat → Int32} {Y : Nat → Nat} {x y z x6 x7 : Int32} {V : Nat → evT} {s1 yb : Nat} {O : Nat → Nat} {A : Nat → Nat → Nat} {x3 : Option Value} {T : Nat → Int32} {x5 : Option Value}
theorem fd_sumBL (hH : et_H et_TT K G) (t9 : evK K e ca ki kn v.1 v.2.2.1) (hv : evc G e ca ki kn v) (k_b : K b = some 51) (hB : ∀ u, u < v.1 → et_pl (eg_at G b) u = some (.int (T u))) (hm : m ≤ v.1) : et_go none (d + 2) 33 5 [some (.ref e), some (.ref b), some (.int x), some (.int (suN v.2.1 v.2.2.1 T x m)), some (.int (Int32.ofNat m))] [] G 0 0 (xp_Z G (some (.int (suN v.2.1 v.2.2.1 T x v.1)))) := by
  obtain ⟨⟨k_e, k_ca, k_ki, k_kn⟩, hw, hkd⟩ := t9
  obtain ⟨⟨h0, h1, h2, h3⟩, hN, hC, -⟩ := hv
  obtain ⟨xa_, ea_, el_, -⟩ := hf_cell (T := et_TT) (t := 51) rfl hH k_b
  induction hz : v.1 - m using Nat.strongRecOn generalizing m with
  | _ z ih =>
    have lt_e := (hH.2.2 _ _ k_e).1
    have lt_ca := (hH.2.2 _ _ k_ca).1
    have lt_ki := (hH.2.2 _ _ k_ki).1
    have lt_b := (hH.2.2 _ _ k_b).1
    refine hs_iload (i := 4) (p := 7) (by decide +kernel) rfl ?_
    refine hs_aload (i := 0) (p := 8) (by decide +kernel) rfl ?_
    refine hf_get (T := et_TT) (t := 3) (ci := 1) (f := 0) (p := 11) (by decide +kernel) rfl hH k_e h0 ?_
    refine hs_br2n (c := .ge) (t := 42) (f := 14) (by decide +kernel) (by omega) (by omega) (fun (c11 : v.1 ≤ m) => ?_) (fun (c11 : ¬ (v.1 ≤ m)) => ?_)
    · refine hs_iload (i := 3) (p := 43) (by decide +kernel) rfl ?_
      refine hs_iret (by decide +kernel) ?_
      obtain rfl : m = v.1 := by omega
      rfl
    · refine hs_iload (i := 4) (p := 16) (by decide +kernel) rfl ?_
      refine hs_aload (i := 1) (p := 17) (by decide +kernel) rfl ?_
      refine hs_alen (x := xa_) (t := 0) (p := 18) (by decide +kernel) ea_ lt_b rfl ?_
      rw [el_]
      refine hs_br2n (c := .ge) (t := 42) (f := 21) (by decide +kernel) (by omega) (by omega) (fun (c18 : 6 ≤ m) => ?_) (fun (c18 : ¬ (6 ≤ m)) => ?_)
      · exact absurd c18 (by omega)
      · refine hs_iload (i := 3) (p := 22) (by decide +kernel) rfl ?_
        refine hs_aload (i := 1) (p := 23) (by decide +kernel) rfl ?_
        refine hs_iload (i := 4) (p := 25) (by decide +kernel) rfl ?_
        refine hf_ald (ins := .iaload) (T := et_TT) (t := 51) (kd := 0) (N := 6) (p := 26) (by decide +kernel) (fun _ _ _ _ _ _ _ _ _ _ => rfl) rfl rfl rfl hH k_b (by decide) (hB m (by omega)) ?_
        refine hs_aload (i := 0) (p := 27) (by decide +kernel) rfl ?_
        refine hs_iload (i := 4) (p := 29) (by decide +kernel) rfl ?_
        refine hs_iload (i := 2) (p := 30) (by decide +kernel) rfl ?_
        refine ht_callv (T := et_TT) (t := 3) (mi := 34) (na := 2) (ci := 1) (lk := 5) (lm := 4) (L0 := eg_en (eg_mL 34) [.ref e, .int (Int32.ofNat m), .int x]) (by decide +kernel) rfl hH k_e rfl rfl rfl rfl rfl (by rw [show eg_mL 34 = 4 from by decide +kernel]; first | done | rfl) ?_
        refine (fd_val hH k_e k_ca k_ki h0 h1 h2 hw (by omega) (hC m (by omega)).1 (hC m (by omega)).2 (hkd m (by omega)) (by omega)).mono (fun u hu => xp_cb hu ?_)
        show et_go none _ 33 33 _ [.int (vaI (v.2.1 m) (v.2.2.1 m) x), .int (T m), .int (suN v.2.1 v.2.2.1 T x m)] _ _ _ _
        refine hs_imul (p := 34) (by decide +kernel) ?_
        refine hs_iadd (p := 35) (by decide +kernel) ?_
        refine hs_istore (i := 3) (p := 36) (by decide +kernel) (Nat.le_of_ble_eq_true rfl) ?_
        refine hs_iinc1 (i := 4) (p := 39) (by decide +kernel) rfl (Nat.le_of_ble_eq_true rfl) ?_
        refine hs_goto (p := 5) (by decide +kernel) ?_
        show et_go none (d + 2) 33 5 [some (.ref e), some (.ref b), some (.int x), some (.int (suN v.2.1 v.2.2.1 T x (m + 1))), some (.int (Int32.ofNat (m + 1)))] [] _ _ _ _
        exact ih (v.1 - (m + 1)) (by omega) (by omega) rfl
theorem fd_sumB (hH : et_H et_TT K G) (t9 : evK K e ca ki kn v.1 v.2.2.1) (hv : evc G e ca ki kn v) (k_b : K b = some 51) (hB : ∀ u, u < v.1 → et_pl (eg_at G b) u = some (.int (T u))) (hd : 2 ≤ d2) : et_go none d2 33 0 (eg_en (eg_mL 33) [.ref e, .ref b, .int x]) [] G 0 0 (xp_Z G (some (.int (suN v.2.1 v.2.2.1 T x v.1)))) := by
  obtain ⟨d, rfl⟩ : ∃ d, d2 = d + 2 := ⟨d2 - 2, by omega⟩
  rw [show eg_mL 33 = 5 from by decide +kernel]
  show et_go none (d + 2) 33 0 [some (.ref e), some (.ref b), some (.int x), none, none] [] G 0 0 _
  refine hs_k (x := Int32.ofNat 0) (p := 1) (by decide +kernel) ?_
  refine hs_istore (i := 3) (p := 2) (by decide +kernel) (Nat.le_of_ble_eq_true rfl) ?_
  refine hs_k (x := Int32.ofNat 0) (p := 3) (by decide +kernel) ?_
  refine hs_istore (i := 4) (p := 5) (by decide +kernel) (Nat.le_of_ble_eq_true rfl) ?_
  exact fd_sumBL (m := 0) hH t9 hv k_b hB (Nat.zero_le _)
theorem fd_lfL (hH : et_H et_TT K G) (t9 : evK K e ca ki kn v.1 v.2.2.1) (kb : baK K th s0 la ly) (t : seT K se tA tR tS td be sy) (hba : baI G th se tA tR tS td be sy e ca ki kn s0 la ly nc v X Y) (hnc : nc ≤ 20) (rB : ∀ u, u < v.1 → et_pl (eg_at G be) u = some (.int (T u))) (hc : c ≤ nc) : et_go none (d + 3) 153 11 [some (.ref th), some (.ref e), some (.int (gnC (seS v T X) Y c)), some (.int (lowC (seS v T X) c)), some (.int (Int32.ofNat c)), x5] [] G 0 0 (xp_Z G (some (.int (liC nc (gnC (seS v T X) Y nc) (lowC (seS v T X) nc))))) := by
  induction hq9 : nc - c using Nat.strongRecOn generalizing c x5 with
  | _ q9 ih =>
    have k_se := t.1.1
    have k_tA := t.1.2.1
    have k_tR := t.1.2.2.1
    have k_tS := t.1.2.2.2.1
    have k_td := t.1.2.2.2.2.1
    have k_be := t.1.2.2.2.2.2.1
    have k_sy := t.1.2.2.2.2.2.2
    have k_th := kb.1
    have k_s0 := kb.2.1
    have k_la := kb.2.2.1
    have k_ly := kb.2.2.2
    have h0 := hba.1.1
    have q5e := hba.1.2
    have hsR := hba.2.1
    have hv := hba.2.2.1
    have g2 := hba.2.2.2.1
    have hcc := hba.2.2.2.2
    have k_e := t9.1.1
    have hy1 : c < nc → Y c ≤ 1 := fun h9 => (hcc.2 c h9).2.2
    refine hs_iload (i := 4) (p := 13) (by decide +kernel) rfl ?_
    refine hs_aload (i := 0) (p := 14) (by decide +kernel) rfl ?_
    refine hf_get (T := et_TT) (t := 12) (ci := 10) (f := 0) (p := 17) (by decide +kernel) rfl hH k_th h0 ?_
    refine hf_get (T := et_TT) (t := 10) (ci := 8) (f := 2) (p := 20) (by decide +kernel) rfl hH k_s0 g2 ?_
    refine hs_br2n (c := .ge) (t := 79) (f := 23) (by decide +kernel) (by omega) (by omega) (fun (c20 : nc ≤ c) => ?_) (fun (c20 : ¬ (nc ≤ c)) => ?_)
    · refine hs_aload (i := 0) (p := 80) (by decide +kernel) rfl ?_
      refine hf_get (T := et_TT) (t := 12) (ci := 10) (f := 0) (p := 83) (by decide +kernel) rfl hH k_th h0 ?_
      refine hf_get (T := et_TT) (t := 10) (ci := 8) (f := 2) (p := 86) (by decide +kernel) rfl hH k_s0 g2 ?_
      refine hs_br1 (c := .ne) (t := 91) (f := 89) (by decide +kernel) (fun (c86 : ¬ Int32.ofNat nc = 0) => ?_) (fun (c86 : ¬ (¬ Int32.ofNat nc = 0)) => ?_)
      · refine hs_iload (i := 2) (p := 92) (by decide +kernel) rfl ?_
        refine hs_kld (v := Value.int (-1073741824)) (p := 95) (by decide +kernel) ?_
        refine hs_br2 (c := .ne) (t := 104) (f := 98) (by decide +kernel) (fun (c95 : ¬ (gnC (seS v T X) Y c) = (-1073741824)) => ?_) (fun (c95 : ¬ (¬ (gnC (seS v T X) Y c) = (-1073741824))) => ?_)
        · refine hs_iload (i := 2) (p := 105) (by decide +kernel) rfl ?_
          refine hs_iret (by decide +kernel) ?_
          obtain rfl : c = nc := by omega
          have e0 : ¬ c = 0 := fun h => c86 (by rw [h]; rfl)
          show xp_Z G (some (.int (liC c (gnC (seS v T X) Y c) (lowC (seS v T X) c)))) _
          rw [show liC c (gnC (seS v T X) Y c) (lowC (seS v T X) c) = gnC (seS v T X) Y c from (if_neg e0).trans (if_neg c95)]
          rfl
        · refine hs_iload (i := 3) (p := 99) (by decide +kernel) rfl ?_
          refine hs_k (x := Int32.ofNat 1) (p := 100) (by decide +kernel) ?_
          refine hs_isub (p := 101) (by decide +kernel) ?_
          refine hs_goto (p := 105) (by decide +kernel) ?_
          refine hs_iret (by decide +kernel) ?_
          obtain rfl : c = nc := by omega
          have e0 : ¬ c = 0 := fun h => c86 (by rw [h]; rfl)
          show xp_Z G (some (.int (liC c (gnC (seS v T X) Y c) (lowC (seS v T X) c)))) _
          rw [show liC c (gnC (seS v T X) Y c) (lowC (seS v T X) c) = lowC (seS v T X) c - Int32.ofNat 1 from (if_neg e0).trans (if_pos (Decidable.of_not_not c95))]
          rfl
      · refine hs_k (x := Int32.ofNat 0) (p := 90) (by decide +kernel) ?_
        refine hs_iret (by decide +kernel) ?_
        obtain rfl : c = nc := by omega
        have e0 : c = 0 := by
          have h9 := congrArg Int32.toInt (Decidable.of_not_not c86)
          rw [hs_nint (by omega)] at h9
          have h8 : (0 : Int32).toInt = 0 := rfl
          omega
        show xp_Z G (some (.int (liC c (gnC (seS v T X) Y c) (lowC (seS v T X) c)))) _
        rw [show liC c (gnC (seS v T X) Y c) (lowC (seS v T X) c) = Int32.ofNat 0 from if_pos e0]
        rfl
    · refine hs_aload (i := 1) (p := 24) (by decide +kernel) rfl ?_
      refine hs_aload (i := 0) (p := 25) (by decide +kernel) rfl ?_
      refine hf_get (T := et_TT) (t := 12) (ci := 10) (f := 5) (p := 28) (by decide +kernel) rfl hH k_th q5e ?_
      refine hf_get (T := et_TT) (t := 9) (ci := 7) (f := 14) (p := 31) (by decide +kernel) rfl hH k_se hsR.1.2.2.2.2.1 ?_
      refine hs_aload (i := 0) (p := 32) (by decide +kernel) rfl ?_
      refine hf_get (T := et_TT) (t := 12) (ci := 10) (f := 0) (p := 35) (by decide +kernel) rfl hH k_th h0 ?_
      refine hf_get (T := et_TT) (t := 10) (ci := 8) (f := 3) (p := 38) (by decide +kernel) rfl hH k_s0 hcc.1.1 ?_
      refine hs_iload (i := 4) (p := 40) (by decide +kernel) rfl ?_
      refine hf_ald (ins := .iaload) (T := et_TT) (t := 17) (kd := 0) (N := 20) (p := 41) (by decide +kernel) (fun _ _ _ _ _ _ _ _ _ _ => rfl) rfl rfl rfl hH k_la (by decide) (hcc.2 c (by omega)).1 ?_
      refine ht_callv (T := et_TT) (t := 3) (mi := 33) (na := 2) (ci := 1) (lk := 6) (lm := 5) (L0 := eg_en (eg_mL 33) [.ref e, .ref be, .int (X c)]) (by decide +kernel) rfl hH k_e rfl rfl rfl rfl rfl (by rw [show eg_mL 33 = 5 from by decide +kernel]; first | done | rfl) ?_
      refine (fd_sumB (T := T) (x := X c) hH t9 hv k_be rB (by omega)).mono (fun u hu => xp_cb hu ?_)
      show et_go none _ 153 44 _ [.int (seS v T X c)] _ _ _ _
      refine hs_istore (i := 5) (p := 46) (by decide +kernel) (Nat.le_of_ble_eq_true rfl) ?_
      refine hs_iload (i := 3) (p := 47) (by decide +kernel) rfl ?_
      refine hs_iload (i := 5) (p := 49) (by decide +kernel) rfl ?_
      refine hs_math (mi := 311) (lk := 6) (p := 52) (by decide +kernel) rfl rfl rfl rfl ?_
      rw [show (if (seS v T X c) < (lowC (seS v T X) c) then (seS v T X c) else (lowC (seS v T X) c)) = (mnI (lowC (seS v T X) c) (seS v T X c)) from rfl]
      refine hs_istore (i := 3) (p := 53) (by decide +kernel) (Nat.le_of_ble_eq_true rfl) ?_
      refine hs_aload (i := 0) (p := 54) (by decide +kernel) rfl ?_
      refine hf_get (T := et_TT) (t := 12) (ci := 10) (f := 0) (p := 57) (by decide +kernel) rfl hH k_th h0 ?_
      refine hf_get (T := et_TT) (t := 10) (ci := 8) (f := 4) (p := 60) (by decide +kernel) rfl hH k_s0 hcc.1.2 ?_
      refine hs_iload (i := 4) (p := 62) (by decide +kernel) rfl ?_
      refine hf_ald (ins := .baload) (T := et_TT) (t := 27) (kd := 3) (N := 20) (p := 63) (by decide +kernel) (fun _ _ _ _ _ _ _ _ _ _ => rfl) rfl rfl rfl hH k_ly (by decide) (hcc.2 c (by omega)).2.1 ?_
      refine hs_br1 (c := .ne) (t := 73) (f := 66) (by decide +kernel) (fun (c63 : ¬ Int32.ofNat (Y c) = 0) => ?_) (fun (c63 : ¬ (¬ Int32.ofNat (Y c) = 0)) => ?_)
      · refine hs_iinc1 (i := 4) (p := 76) (by decide +kernel) rfl (Nat.le_of_ble_eq_true rfl) ?_
        refine hs_goto (p := 11) (by decide +kernel) ?_
        have hy9 : Y c = 1 := by
          have h9 := hy1 (by omega)
          by_cases e9 : Y c = 0
          · rw [e9] at c63; exact absurd rfl c63
          · omega
        have e9 : (gnC (seS v T X) Y (c + 1)) = (gnC (seS v T X) Y c) := if_pos hy9
        have hr := ih (nc - (c + 1)) (by omega) (c := c + 1) (x5 := some (.int (seS v T X c))) (by omega) rfl
        rw [e9] at hr
        exact hr
      · refine hs_iload (i := 2) (p := 67) (by decide +kernel) rfl ?_
        refine hs_iload (i := 5) (p := 69) (by decide +kernel) rfl ?_
        refine hs_math (mi := 310) (lk := 6) (p := 72) (by decide +kernel) rfl rfl rfl rfl ?_
        rw [show (if (gnC (seS v T X) Y c) < (seS v T X c) then (seS v T X c) else (gnC (seS v T X) Y c)) = (mxI (gnC (seS v T X) Y c) (seS v T X c)) from rfl]
        refine hs_istore (i := 2) (p := 73) (by decide +kernel) (Nat.le_of_ble_eq_true rfl) ?_
        refine hs_iinc1 (i := 4) (p := 76) (by decide +kernel) rfl (Nat.le_of_ble_eq_true rfl) ?_
        refine hs_goto (p := 11) (by decide +kernel) ?_
        have hy9 : ¬ Y c = 1 := fun h9 => by rw [h9] at c63; exact c63 (by decide)
        have e9 : (gnC (seS v T X) Y (c + 1)) = mxI (gnC (seS v T X) Y c) (seS v T X c) := if_neg hy9
        have hr := ih (nc - (c + 1)) (by omega) (c := c + 1) (x5 := some (.int (seS v T X c))) (by omega) rfl
        rw [e9] at hr
        exact hr
theorem fd_lf (hH : et_H et_TT K G) (t9 : evK K e ca ki kn v.1 v.2.2.1) (kb : baK K th s0 la ly) (t : seT K se tA tR tS td be sy) (hba : baI G th se tA tR tS td be sy e ca ki kn s0 la ly nc v X Y) (hnc : nc ≤ 20) (rB : ∀ u, u < v.1 → et_pl (eg_at G be) u = some (.int (T u))) (hd : 3 ≤ d2) : et_go none d2 153 0 (eg_en (eg_mL 153) [.ref th, .ref e]) [] G 0 0 (xp_Z G (some (.int (liC nc (gnC (seS v T X) Y nc) (lowC (seS v T X) nc))))) := by
  obtain ⟨d, rfl⟩ : ∃ d, d2 = d + 3 := ⟨d2 - 3, by omega⟩
  rw [show eg_mL 153 = 6 from by decide +kernel]
  show et_go none (d + 3) 153 0 [some (.ref th), some (.ref e), none, none, none, none] [] G 0 0 _
  refine hs_kld (v := Value.int (-1073741824)) (p := 3) (by decide +kernel) ?_
  refine hs_istore (i := 2) (p := 4) (by decide +kernel) (Nat.le_of_ble_eq_true rfl) ?_
  refine hs_kld (v := Value.int (Int32.ofNat 1073741824)) (p := 7) (by decide +kernel) ?_
  refine hs_istore (i := 3) (p := 8) (by decide +kernel) (Nat.le_of_ble_eq_true rfl) ?_
  refine hs_k (x := Int32.ofNat 0) (p := 9) (by decide +kernel) ?_
  refine hs_istore (i := 4) (p := 11) (by decide +kernel) (Nat.le_of_ble_eq_true rfl) ?_
  exact fd_lfL (c := 0) hH t9 kb t hba hnc rB (Nat.zero_le _)
theorem fd_found (hH : et_H et_TT K G) (k_th : K th = some 12) (h0 : et_pl (eg_at G th) 0 = some (.ref s0)) (k_s0 : K s0 = some 10) (h5 : et_pl (eg_at G s0) 5 = some (.int (Int32.ofNat ec))) (hec : ec ≤ 3) (h6 : et_pl (eg_at G s0) 6 = some (.ref ya)) (k_ya : K ya = some 40) (hn : n < ec) (hE : et_pl (eg_at G ya) n = some (.ref e)) (t9 : evK K e ca ki kn v.1 v.2.2.1) (hv : evc G e ca ki kn v) (g2 : et_pl (eg_at G s0) 2 = some (.int (Int32.ofNat nc))) (hnc : nc ≤ 20) (hcc : ccP G s0 la ly nc X Y) (k_la : K la = some 17) (k_ly : K ly = some 27) (t : seT K se tA tR tS td be sy) (hsR : seR G se tA tR tS td be sy) (q5e : et_pl (eg_at G th) 5 = some (.ref se)) (q6 : et_pl (eg_at G th) 6 = some (.int x6)) (q7 : et_pl (eg_at G th) 7 = some (.int x7)) (hhit : x6 = Int32.ofNat n → x7 = Int32.ofNat k → lsQ G se be v.1 k (foA v.1 v.2.1 v.2.2.1 X Y nc k)) (hk1 : 1 ≤ k) (hk : k ≤ 3) (hm : m ≤ 7) (hd : 15 ≤ d2) : et_go none d2 152 0 (eg_en (eg_mL 152) [.ref th, .int (Int32.ofNat n), .int (Int32.ofNat k), .int (Int32.ofNat m)]) [] G 0 0 (xw_Z (fun b j => ((b = se ∧ ((4 ≤ j ∧ j ≤ 9) ∨ (13 ≤ j ∧ j ≤ 16 ∧ ¬ j = 14))) ∨ K b = some 45 ∨ b = td ∨ b = be ∨ b = sy) ∨ (b = th ∧ 6 ≤ j ∧ j ≤ 7)) K G (fun g v9 => v9 = some (.int (foW v X Y nc k m (foA v.1 v.2.1 v.2.2.1 X Y nc k))) ∧ fyQ K g th n v.1 k (foA v.1 v.2.1 v.2.2.1 X Y nc k))) := by
  obtain ⟨d, rfl⟩ : ∃ d, d2 = d + 15 := ⟨d2 - 15, by omega⟩
  rw [show eg_mL 152 = 5 from by decide +kernel]
  show et_go none (d + 15) 152 0 [some (.ref th), some (.int (Int32.ofNat n)), some (.int (Int32.ofNat k)), some (.int (Int32.ofNat m)), none] [] G 0 0 _
  have k_se := t.1.1
  have k_tA := t.1.2.1
  have k_tR := t.1.2.2.1
  have k_tS := t.1.2.2.2.1
  have k_td := t.1.2.2.2.2.1
  have k_be := t.1.2.2.2.2.2.1
  have k_sy := t.1.2.2.2.2.2.2
  have k_e := t9.1.1
  have hw6 := t9.2.1
  have kb : baK K th s0 la ly := ⟨k_th, k_s0, k_la, k_ly⟩
  have lt_th := (hH.2.2 _ _ k_th).1
  have lt_s0 := (hH.2.2 _ _ k_s0).1
  have lt_ya := (hH.2.2 _ _ k_ya).1
  refine hs_aload (i := 0) (p := 1) (by decide +kernel) rfl ?_
  refine hs_iload (i := 1) (p := 2) (by decide +kernel) rfl ?_
  refine ht_callv (T := et_TT) (t := 12) (mi := 128) (na := 1) (ci := 10) (lk := 5) (lm := 2) (L0 := eg_en (eg_mL 128) [.ref th, .int (Int32.ofNat n)]) (by decide +kernel) rfl hH k_th rfl rfl rfl rfl rfl (by rw [show eg_mL 128 = 2 from by decide +kernel]; first | done | rfl) ?_
  refine (fd_needE hH k_th h0 k_s0 h5 hec h6 k_ya hn hE).mono (fun u hu => xp_cb hu ?_)
  show et_go none _ 152 5 _ [.ref e] _ _ _ _
  refine hs_astore (i := 4) (p := 7) (by decide +kernel) (Nat.le_of_ble_eq_true rfl) ?_
  refine hs_iload (i := 2) (p := 8) (by decide +kernel) rfl ?_
  refine hs_k (x := Int32.ofNat 3) (p := 9) (by decide +kernel) ?_
  refine hs_calls (mi := 150) (na := 2) (lk := 5) (lm := 2) (L0 := eg_en (eg_mL 150) [.int (Int32.ofNat k), .int (Int32.ofNat 3)]) (by decide +kernel) rfl rfl rfl rfl rfl rfl (by rw [show eg_mL 150 = 2 from by decide +kernel]; first | done | rfl) ?_
  refine (fd_nk hk1 hk (by decide)).mono (fun u hu => xp_cb hu ?_)
  show et_go none _ 152 12 _ [] _ _ _ _
  refine hs_iload (i := 3) (p := 13) (by decide +kernel) rfl ?_
  refine hs_if0 (c := .lt) (t := 22) (f := 16) (by decide +kernel) (rs_nn (by omega)) ?_
  refine hs_iload (i := 3) (p := 17) (by decide +kernel) rfl ?_
  refine hs_k (x := Int32.ofNat 7) (p := 19) (by decide +kernel) ?_
  refine hs_br2n (c := .le) (t := 30) (f := 22) (by decide +kernel) (by omega) (by omega) (fun (c19 : m ≤ 7) => ?_) (fun (c19 : ¬ (m ≤ 7)) => ?_)
  · refine hs_aload (i := 0) (p := 31) (by decide +kernel) rfl ?_
    refine hs_iload (i := 1) (p := 32) (by decide +kernel) rfl ?_
    refine hs_iload (i := 2) (p := 33) (by decide +kernel) rfl ?_
    refine ht_callv (T := et_TT) (t := 12) (mi := 151) (na := 2) (ci := 10) (lk := 5) (lm := 3) (L0 := eg_en (eg_mL 151) [.ref th, .int (Int32.ofNat n), .int (Int32.ofNat k)]) (by decide +kernel) rfl hH k_th rfl rfl rfl rfl rfl (by rw [show eg_mL 151 = 3 from by decide +kernel]; first | done | rfl) ?_
    have hHo := hH
    refine (fd_fdL hH k_th h0 k_s0 h5 hec h6 k_ya hn hE t9 hv g2 hnc hcc k_la k_ly t hsR q5e q6 q7 hhit hk (by omega)).mono (fun u9 hu9 => xw_cb hu9 (fun G2 v2 hH2 x2 hP2 => ?_))
    obtain ⟨rfl, hN⟩ := hP2
    have hP9 := hN.1
    have hba : baI G th se tA tR tS td be sy e ca ki kn s0 la ly nc v X Y := ⟨⟨h0, q5e⟩, hsR, hv, g2, hcc⟩
    have hba := hba.xs t t9 ⟨k_th, k_s0, k_la, k_ly⟩ hHo x2 (fun b j u kb q => by
      rcases q with q | ⟨q1, q2⟩
      · exact sl_t t b j u kb q
      · rw [q1, k_th] at kb; cases kb; exact .inr (.inr (.inr (.inr ⟨rfl, by omega⟩))))
    have hH := hH2
    have hsn := hN.1.s13
    have h0 := hba.1.1
    have q5e := hba.1.2
    have hsR := hba.2.1
    have hv := hba.2.2.1
    have g2 := hba.2.2.2.1
    have hcc := hba.2.2.2.2
    have hN : fyQ K G2 th n v.1 k (foA v.1 v.2.1 v.2.2.1 X Y nc k) := ⟨se, be, ⟨k_se, k_be⟩, ⟨q5e, hsR.1.2.2.2.2.1⟩, hN⟩
    show et_go none _ 152 36 _ [] _ _ _ _
    have hq : lsQ G2 se be v.1 k (foA v.1 v.2.1 v.2.2.1 X Y nc k) := hP9
    rcases hoq : (foA v.1 v.2.1 v.2.2.1 X Y nc k) with _ | q
    · rw [hoq] at hq
      obtain ⟨r13, r15⟩ := hq
      show et_go none _ 152 36 _ [] _ _ _ _
      refine hs_aload (i := 0) (p := 37) (by decide +kernel) rfl ?_
      refine hf_get (T := et_TT) (t := 12) (ci := 10) (f := 5) (p := 40) (by decide +kernel) rfl hH k_th q5e ?_
      refine hf_get (T := et_TT) (t := 9) (ci := 7) (f := 13) (p := 43) (by decide +kernel) rfl hH k_se r13 ?_
      refine hs_if0 (c := .ne) (t := 50) (f := 46) (by decide +kernel) (show ¬ (¬ Int32.ofNat 0 = 0) by decide) ?_
      refine hs_k (x := Int32.ofNat 9999) (p := 49) (by decide +kernel) ?_
      refine hs_iret (by decide +kernel) ?_
      refine ⟨_, _, rfl, hH, x2, ?_, by rw [← hoq]; exact hN⟩
      rfl
    · rw [hoq] at hq
      obtain ⟨r13, r15, rB⟩ := hq
      show et_go none _ 152 36 _ [] _ _ _ _
      refine hs_aload (i := 0) (p := 37) (by decide +kernel) rfl ?_
      refine hf_get (T := et_TT) (t := 12) (ci := 10) (f := 5) (p := 40) (by decide +kernel) rfl hH k_th q5e ?_
      refine hf_get (T := et_TT) (t := 9) (ci := 7) (f := 13) (p := 43) (by decide +kernel) rfl hH k_se r13 ?_
      refine hs_if1 (c := .ne) (t := 50) (f := 46) (by decide +kernel) (show ¬ Int32.ofNat 1 = 0 by decide) ?_
      refine hs_iload (i := 3) (p := 51) (by decide +kernel) rfl ?_
      refine hs_k (x := Int32.ofNat 6) (p := 53) (by decide +kernel) ?_
      refine hs_br2n (c := .ge) (t := 79) (f := 56) (by decide +kernel) (by omega) (by omega) (fun (c53 : 6 ≤ m) => ?_) (fun (c53 : ¬ (6 ≤ m)) => ?_)
      · refine hs_iload (i := 3) (p := 80) (by decide +kernel) rfl ?_
        refine hs_k (x := Int32.ofNat 6) (p := 82) (by decide +kernel) ?_
        refine hs_br2n (c := .ne) (t := 94) (f := 85) (by decide +kernel) (by omega) (by omega) (fun (c82 : ¬ m = 6) => ?_) (fun (c82 : ¬ (¬ m = 6)) => ?_)
        · refine hs_aload (i := 0) (p := 95) (by decide +kernel) rfl ?_
          refine hf_get (T := et_TT) (t := 12) (ci := 10) (f := 5) (p := 98) (by decide +kernel) rfl hH k_th q5e ?_
          refine hf_get (T := et_TT) (t := 9) (ci := 7) (f := 15) (p := 101) (by decide +kernel) rfl hH k_se r15 ?_
          refine hs_iret (by decide +kernel) ?_
          refine ⟨_, _, rfl, hH, x2, ?_, by rw [← hoq]; exact hN⟩
          rw [foW_7 (by omega) c82]
        · refine hs_aload (i := 0) (p := 86) (by decide +kernel) rfl ?_
          refine hs_aload (i := 4) (p := 88) (by decide +kernel) rfl ?_
          refine ht_callv (T := et_TT) (t := 12) (mi := 153) (na := 1) (ci := 10) (lk := 5) (lm := 6) (L0 := eg_en (eg_mL 153) [.ref th, .ref e]) (by decide +kernel) rfl hH k_th rfl rfl rfl rfl rfl (by rw [show eg_mL 153 = 6 from by decide +kernel]; first | done | rfl) ?_
          refine (fd_lf (T := kvT k v.1 q.2) hH t9 kb t hba hnc rB (by omega)).mono (fun u hu => xp_cb hu ?_)
          show et_go none _ 152 91 _ [.int (liC nc (gnC (seS v (kvT k v.1 q.2) X) Y nc) (lowC (seS v (kvT k v.1 q.2) X) nc))] _ _ _ _
          refine hs_goto (p := 101) (by decide +kernel) ?_
          refine hs_iret (by decide +kernel) ?_
          refine ⟨_, _, rfl, hH, x2, ?_, by rw [← hoq]; exact hN⟩
          rw [foW_6 (Decidable.of_not_not c82)]
      · refine hs_iload (i := 3) (p := 57) (by decide +kernel) rfl ?_
        refine hs_aload (i := 4) (p := 59) (by decide +kernel) rfl ?_
        refine hf_get (T := et_TT) (t := 3) (ci := 1) (f := 0) (p := 62) (by decide +kernel) rfl hH k_e hv.1.1 ?_
        refine hs_br2n (c := .ge) (t := 77) (f := 65) (by decide +kernel) (by omega) (by omega) (fun (c62 : v.1 ≤ m) => ?_) (fun (c62 : ¬ (v.1 ≤ m)) => ?_)
        · refine hs_k (x := Int32.ofNat 0) (p := 78) (by decide +kernel) ?_
          refine hs_iret (by decide +kernel) ?_
          refine ⟨_, _, rfl, hH, x2, ?_, by rw [← hoq]; exact hN⟩
          rw [foW_2 (by omega) (by omega)]
        · refine hs_aload (i := 0) (p := 66) (by decide +kernel) rfl ?_
          refine hf_get (T := et_TT) (t := 12) (ci := 10) (f := 5) (p := 69) (by decide +kernel) rfl hH k_th q5e ?_
          refine hf_get (T := et_TT) (t := 9) (ci := 7) (f := 14) (p := 72) (by decide +kernel) rfl hH k_se hsR.1.2.2.2.2.1 ?_
          refine hs_iload (i := 3) (p := 73) (by decide +kernel) rfl ?_
          refine hf_ald (ins := .iaload) (T := et_TT) (t := 51) (kd := 0) (N := 6) (p := 74) (by decide +kernel) (fun _ _ _ _ _ _ _ _ _ _ => rfl) rfl rfl rfl hH k_be (by decide) (rB m (by omega)) ?_
          refine hs_goto (p := 78) (by decide +kernel) ?_
          refine hs_iret (by decide +kernel) ?_
          refine ⟨_, _, rfl, hH, x2, ?_, by rw [← hoq]; exact hN⟩
          rw [foW_1 (by omega) (by omega)]
  · exact absurd hm c19
theorem fd_foundN (hH : et_H et_TT K G) (k_th : K th = some 12) (h0 : et_pl (eg_at G th) 0 = some (.ref s0)) (k_s0 : K s0 = some 10) (h5 : et_pl (eg_at G s0) 5 = some (.int (Int32.ofNat ec))) (hec : ec ≤ 3) (h6 : et_pl (eg_at G s0) 6 = some (.ref ya)) (k_ya : K ya = some 40) (hn : n < ec) (hE : et_pl (eg_at G ya) n = some (.ref e)) (hk1 : 1 ≤ k) (hk : k ≤ 3) (hz : ¬ (0 ≤ z.toInt ∧ z.toInt ≤ 7)) (hd : 5 ≤ d2) : et_go none d2 152 0 (eg_en (eg_mL 152) [.ref th, .int (Int32.ofNat n), .int (Int32.ofNat k), .int z]) [] G 0 0 (ix_Z 3 G) := by
  obtain ⟨d, rfl⟩ : ∃ d, d2 = d + 5 := ⟨d2 - 5, by omega⟩
  rw [show eg_mL 152 = 5 from by decide +kernel]
  show et_go none (d + 5) 152 0 [some (.ref th), some (.int (Int32.ofNat n)), some (.int (Int32.ofNat k)), some (.int z), none] [] G 0 0 _
  have lt_th := (hH.2.2 _ _ k_th).1
  have lt_s0 := (hH.2.2 _ _ k_s0).1
  have lt_ya := (hH.2.2 _ _ k_ya).1
  refine hs_aload (i := 0) (p := 1) (by decide +kernel) rfl ?_
  refine hs_iload (i := 1) (p := 2) (by decide +kernel) rfl ?_
  refine ht_callv (T := et_TT) (t := 12) (mi := 128) (na := 1) (ci := 10) (lk := 5) (lm := 2) (L0 := eg_en (eg_mL 128) [.ref th, .int (Int32.ofNat n)]) (by decide +kernel) rfl hH k_th rfl rfl rfl rfl rfl (by rw [show eg_mL 128 = 2 from by decide +kernel]; first | done | rfl) ?_
  refine (fd_needE hH k_th h0 k_s0 h5 hec h6 k_ya hn hE).mono (fun u hu => xp_cb hu ?_)
  show et_go none _ 152 5 _ [.ref e] _ _ _ _
  refine hs_astore (i := 4) (p := 7) (by decide +kernel) (Nat.le_of_ble_eq_true rfl) ?_
  refine hs_iload (i := 2) (p := 8) (by decide +kernel) rfl ?_
  refine hs_k (x := Int32.ofNat 3) (p := 9) (by decide +kernel) ?_
  refine hs_calls (mi := 150) (na := 2) (lk := 5) (lm := 2) (L0 := eg_en (eg_mL 150) [.int (Int32.ofNat k), .int (Int32.ofNat 3)]) (by decide +kernel) rfl rfl rfl rfl rfl rfl (by rw [show eg_mL 150 = 2 from by decide +kernel]; first | done | rfl) ?_
  refine (fd_nk hk1 hk (by decide)).mono (fun u hu => xp_cb hu ?_)
  show et_go none _ 152 12 _ [] _ _ _ _
  refine hs_iload (i := 3) (p := 13) (by decide +kernel) rfl ?_
  refine hs_br1 (c := .lt) (t := 22) (f := 16) (by decide +kernel) (fun (c13 : z < 0) => ?_) (fun (c13 : ¬ (z < 0)) => ?_)
  · refine hs_thr (x := 3) (lk := 5) (by decide +kernel) rfl rfl ?_
    exact ⟨_, _, rfl⟩
  · refine hs_iload (i := 3) (p := 17) (by decide +kernel) rfl ?_
    refine hs_k (x := Int32.ofNat 7) (p := 19) (by decide +kernel) ?_
    refine hs_br2 (c := .le) (t := 30) (f := 22) (by decide +kernel) (fun (c19 : z ≤ Int32.ofNat 7) => ?_) (fun (c19 : ¬ (z ≤ Int32.ofNat 7)) => ?_)
    · exact absurd ⟨by rw [xi_lt0] at c13; omega, by rw [xi_len (k := 7) (by decide)] at c19; omega⟩ hz
    · refine hs_thr (x := 3) (lk := 5) (by decide +kernel) rfl rfl ?_
      exact ⟨_, _, rfl⟩
theorem fd_foundR (hH : et_H et_TT K G) (k_th : K th = some 12) (h0 : et_pl (eg_at G th) 0 = some (.ref s0)) (k_s0 : K s0 = some 10) (h5 : et_pl (eg_at G s0) 5 = some (.int (Int32.ofNat ec))) (hec : ec ≤ 3) (h6 : et_pl (eg_at G s0) 6 = some (.ref ya)) (k_ya : K ya = some 40) (hn : n < ec) (hE : et_pl (eg_at G ya) n = some (.ref e)) (hy : ¬ (1 ≤ y.toInt ∧ y.toInt ≤ 3)) (hd : 5 ≤ d2) : et_go none d2 152 0 (eg_en (eg_mL 152) [.ref th, .int (Int32.ofNat n), .int y, .int z]) [] G 0 0 (ix_Z 0 G) := by
  obtain ⟨d, rfl⟩ : ∃ d, d2 = d + 5 := ⟨d2 - 5, by omega⟩
  rw [show eg_mL 152 = 5 from by decide +kernel]
  show et_go none (d + 5) 152 0 [some (.ref th), some (.int (Int32.ofNat n)), some (.int y), some (.int z), none] [] G 0 0 _
  have lt_th := (hH.2.2 _ _ k_th).1
  have lt_s0 := (hH.2.2 _ _ k_s0).1
  have lt_ya := (hH.2.2 _ _ k_ya).1
  refine hs_aload (i := 0) (p := 1) (by decide +kernel) rfl ?_
  refine hs_iload (i := 1) (p := 2) (by decide +kernel) rfl ?_
  refine ht_callv (T := et_TT) (t := 12) (mi := 128) (na := 1) (ci := 10) (lk := 5) (lm := 2) (L0 := eg_en (eg_mL 128) [.ref th, .int (Int32.ofNat n)]) (by decide +kernel) rfl hH k_th rfl rfl rfl rfl rfl (by rw [show eg_mL 128 = 2 from by decide +kernel]; first | done | rfl) ?_
  refine (fd_needE hH k_th h0 k_s0 h5 hec h6 k_ya hn hE).mono (fun u hu => xp_cb hu ?_)
  show et_go none _ 152 5 _ [.ref e] _ _ _ _
  refine hs_astore (i := 4) (p := 7) (by decide +kernel) (Nat.le_of_ble_eq_true rfl) ?_
  refine hs_iload (i := 2) (p := 8) (by decide +kernel) rfl ?_
  refine hs_k (x := Int32.ofNat 3) (p := 9) (by decide +kernel) ?_
  refine hs_calls (mi := 150) (na := 2) (lk := 5) (lm := 2) (L0 := eg_en (eg_mL 150) [.int y, .int (Int32.ofNat 3)]) (by decide +kernel) rfl rfl rfl rfl rfl rfl (by rw [show eg_mL 150 = 2 from by decide +kernel]; first | done | rfl) ?_
  refine (fd_nkn (q := 3) (by decide) hy).mono (fun u hu => ?_)
  obtain ⟨c9, s9, rfl⟩ := hu
  refine hf_cx (by decide +kernel) ?_
  exact ⟨_, _, rfl⟩
theorem fd_foundE (hH : et_H et_TT K G) (k_th : K th = some 12) (h0 : et_pl (eg_at G th) 0 = some (.ref s0)) (k_s0 : K s0 = some 10) (h5 : et_pl (eg_at G s0) 5 = some (.int (Int32.ofNat ec))) (hec : ec ≤ 3) (h6 : et_pl (eg_at G s0) 6 = some (.ref ya)) (k_ya : K ya = some 40) (hx : ¬ xr x ec) (hd : 5 ≤ d2) : et_go none d2 152 0 (eg_en (eg_mL 152) [.ref th, .int x, .int y, .int z]) [] G 0 0 (ix_Z 1 G) := by
  obtain ⟨d, rfl⟩ : ∃ d, d2 = d + 5 := ⟨d2 - 5, by omega⟩
  rw [show eg_mL 152 = 5 from by decide +kernel]
  show et_go none (d + 5) 152 0 [some (.ref th), some (.int x), some (.int y), some (.int z), none] [] G 0 0 _
  have lt_th := (hH.2.2 _ _ k_th).1
  have lt_s0 := (hH.2.2 _ _ k_s0).1
  have lt_ya := (hH.2.2 _ _ k_ya).1
  refine hs_aload (i := 0) (p := 1) (by decide +kernel) rfl ?_
  refine hs_iload (i := 1) (p := 2) (by decide +kernel) rfl ?_
  refine ht_callv (T := et_TT) (t := 12) (mi := 128) (na := 1) (ci := 10) (lk := 5) (lm := 2) (L0 := eg_en (eg_mL 128) [.ref th, .int x]) (by decide +kernel) rfl hH k_th rfl rfl rfl rfl rfl (by rw [show eg_mL 128 = 2 from by decide +kernel]; first | done | rfl) ?_
  refine (fd_needEn hH k_th h0 k_s0 h5 hec h6 k_ya hx).mono (fun u hu => ?_)
  obtain ⟨c2, s2, rfl⟩ := hu
  refine hf_cx (by decide +kernel) ?_
  exact ⟨_, _, rfl⟩
theorem fh_found (hH : et_H et_TT K G) (k_th : K th = some 12) (h0 : et_pl (eg_at G th) 0 = some (.ref s0)) (k_s0 : K s0 = some 10) (h5 : et_pl (eg_at G s0) 5 = some (.int (Int32.ofNat ec))) (hec : ec ≤ 3) (h6 : et_pl (eg_at G s0) 6 = some (.ref ya)) (k_ya : K ya = some 40) (hn : n < ec) (hE : et_pl (eg_at G ya) n = some (.ref e)) (t9 : evK K e ca ki kn v.1 v.2.2.1) (hv : evc G e ca ki kn v) (g2 : et_pl (eg_at G s0) 2 = some (.int (Int32.ofNat nc))) (hnc : nc ≤ 20) (hcc : ccP G s0 la ly nc X Y) (k_la : K la = some 17) (k_ly : K ly = some 27) (t : seT K se tA tR tS td be sy) (hsR : seR G se tA tR tS td be sy) (q5e : et_pl (eg_at G th) 5 = some (.ref se)) (q6 : et_pl (eg_at G th) 6 = some (.int x6)) (q7 : et_pl (eg_at G th) 7 = some (.int x7)) (hhit : x6 = Int32.ofNat n → x7 = Int32.ofNat k → lsQ G se be v.1 k (foA v.1 v.2.1 v.2.2.1 X Y nc k)) (hk1 : 1 ≤ k) (hk : k ≤ 3) (hm : m ≤ 7) (k_out : K out = some 31) (hd : 16 ≤ d2) : et_go none d2 15 0 (eg_en (eg_mL 15) [.ref th, .int (Int32.ofNat n), .int (Int32.ofNat k), .int (Int32.ofNat m), .ref out]) [] G 0 0 (fun u => u.1 = .inl (some (.int (Int32.ofNat 0))) ∧ et_pl (eg_at u.2.1 out) 0 = some (.long ((foW v X Y nc k m (foA v.1 v.2.1 v.2.2.1 X Y nc k))).toInt64) ∧ fyQ K u.2.1 th n v.1 k (foA v.1 v.2.1 v.2.2.1 X Y nc k)) := by
  obtain ⟨d, rfl⟩ : ∃ d, d2 = d + 16 := ⟨d2 - 16, by omega⟩
  rw [show eg_mL 15 = 6 from by decide +kernel]
  show et_go none (d + 16) 15 0 [some (.ref th), some (.int (Int32.ofNat n)), some (.int (Int32.ofNat k)), some (.int (Int32.ofNat m)), some (.ref out), none] [] G 0 0 _
  have lt_th := (hH.2.2 _ _ k_th).1
  have lt_out := (hH.2.2 _ _ k_out).1
  refine hs_aload (i := 4) (p := 2) (by decide +kernel) rfl ?_
  refine hs_k (x := Int32.ofNat 0) (p := 3) (by decide +kernel) ?_
  refine hs_aload (i := 0) (p := 4) (by decide +kernel) rfl ?_
  refine hs_iload (i := 1) (p := 5) (by decide +kernel) rfl ?_
  refine hs_iload (i := 2) (p := 6) (by decide +kernel) rfl ?_
  refine hs_iload (i := 3) (p := 7) (by decide +kernel) rfl ?_
  refine ht_callv (T := et_TT) (t := 12) (mi := 152) (na := 3) (ci := 10) (lk := 6) (lm := 5) (L0 := eg_en (eg_mL 152) [.ref th, .int (Int32.ofNat n), .int (Int32.ofNat k), .int (Int32.ofNat m)]) (by decide +kernel) rfl hH k_th rfl rfl rfl rfl rfl (by rw [show eg_mL 152 = 5 from by decide +kernel]; first | done | rfl) ?_
  refine (fd_found hH k_th h0 k_s0 h5 hec h6 k_ya hn hE t9 hv g2 hnc hcc k_la k_ly t hsR q5e q6 q7 hhit hk1 hk hm (by omega)).mono (fun u hu => xw_cb hu (fun G7 v7 hH x7 hP7 => ?_))
  obtain ⟨rfl, hN⟩ := hP7
  have lt_out := Nat.lt_of_lt_of_le lt_out x7.1
  show et_go none _ 15 10 _ [.int (foW v X Y nc k m (foA v.1 v.2.1 v.2.2.1 X Y nc k)), .int (Int32.ofNat 0), .ref out] _ _ _ _
  refine hs_i2l (p := 11) (by decide +kernel) ?_
  have hHo := hH
  have hHo := hH
  refine hf_lst (T := et_TT) (t := 31) (N := 1) (p := 12) (by decide +kernel) rfl rfl hH k_out (by omega) (by decide) (fun G11 hH x11 e11 => ?_)
  have hN := hN.xs k_th hHo x11 (fun b j h => by rw [h.1, k_out]; exact ⟨by decide, by decide, by decide⟩)
  refine hs_goto (p := 27) (by decide +kernel) ?_
  refine hs_k (x := Int32.ofNat 0) (p := 28) (by decide +kernel) ?_
  refine hs_iret (by decide +kernel) ?_
  exact ⟨rfl, e11, hN⟩
theorem fh_foundN (hH : et_H et_TT K G) (k_th : K th = some 12) (h0 : et_pl (eg_at G th) 0 = some (.ref s0)) (k_s0 : K s0 = some 10) (h5 : et_pl (eg_at G s0) 5 = some (.int (Int32.ofNat ec))) (hec : ec ≤ 3) (h6 : et_pl (eg_at G s0) 6 = some (.ref ya)) (k_ya : K ya = some 40) (hn : n < ec) (hE : et_pl (eg_at G ya) n = some (.ref e)) (hk1 : 1 ≤ k) (hk : k ≤ 3) (hz : ¬ (0 ≤ z.toInt ∧ z.toInt ≤ 7)) (hd : 6 ≤ d2) : et_go none d2 15 0 (eg_en (eg_mL 15) [.ref th, .int (Int32.ofNat n), .int (Int32.ofNat k), .int z, .ref out]) [] G 0 0 (fun u => u.1 = .inl (some (.int (Int32.ofNat 3))) ∧ u.2.1 = G) := by
  obtain ⟨d, rfl⟩ : ∃ d, d2 = d + 6 := ⟨d2 - 6, by omega⟩
  rw [show eg_mL 15 = 6 from by decide +kernel]
  show et_go none (d + 6) 15 0 [some (.ref th), some (.int (Int32.ofNat n)), some (.int (Int32.ofNat k)), some (.int z), some (.ref out), none] [] G 0 0 _
  have lt_th := (hH.2.2 _ _ k_th).1
  refine hs_aload (i := 4) (p := 2) (by decide +kernel) rfl ?_
  refine hs_k (x := Int32.ofNat 0) (p := 3) (by decide +kernel) ?_
  refine hs_aload (i := 0) (p := 4) (by decide +kernel) rfl ?_
  refine hs_iload (i := 1) (p := 5) (by decide +kernel) rfl ?_
  refine hs_iload (i := 2) (p := 6) (by decide +kernel) rfl ?_
  refine hs_iload (i := 3) (p := 7) (by decide +kernel) rfl ?_
  refine ht_callv (T := et_TT) (t := 12) (mi := 152) (na := 3) (ci := 10) (lk := 6) (lm := 5) (L0 := eg_en (eg_mL 152) [.ref th, .int (Int32.ofNat n), .int (Int32.ofNat k), .int z]) (by decide +kernel) rfl hH k_th rfl rfl rfl rfl rfl (by rw [show eg_mL 152 = 5 from by decide +kernel]; first | done | rfl) ?_
  refine (fd_foundN hH k_th h0 k_s0 h5 hec h6 k_ya hn hE hk1 hk hz (by omega)).mono (fun u hu => ?_)
  obtain ⟨c7, s7, rfl⟩ := hu
  refine hs_ch (h := 23) (i := 5) (n := 2) (hh := (eg_mh 15).getD []) (by decide +kernel) ⟨by decide +kernel, by decide +kernel⟩ (Nat.le_of_ble_eq_true rfl) ?_
  show et_go none _ 15 25 [some (.ref th), some (.int (Int32.ofNat n)), some (.int (Int32.ofNat k)), some (.int z), some (.ref out), none] [] _ _ _ _
  refine hs_k (x := Int32.ofNat 3) (p := 26) (by decide +kernel) ?_
  refine hs_iret (by decide +kernel) ?_
  exact ⟨rfl, rfl⟩
theorem fh_foundR (hH : et_H et_TT K G) (k_th : K th = some 12) (h0 : et_pl (eg_at G th) 0 = some (.ref s0)) (k_s0 : K s0 = some 10) (h5 : et_pl (eg_at G s0) 5 = some (.int (Int32.ofNat ec))) (hec : ec ≤ 3) (h6 : et_pl (eg_at G s0) 6 = some (.ref ya)) (k_ya : K ya = some 40) (hn : n < ec) (hE : et_pl (eg_at G ya) n = some (.ref e)) (hy : ¬ (1 ≤ y.toInt ∧ y.toInt ≤ 3)) (hd : 6 ≤ d2) : et_go none d2 15 0 (eg_en (eg_mL 15) [.ref th, .int (Int32.ofNat n), .int y, .int z, .ref out]) [] G 0 0 (fun u => u.1 = .inl (some (.int (Int32.ofNat 2))) ∧ u.2.1 = G) := by
  obtain ⟨d, rfl⟩ : ∃ d, d2 = d + 6 := ⟨d2 - 6, by omega⟩
  rw [show eg_mL 15 = 6 from by decide +kernel]
  show et_go none (d + 6) 15 0 [some (.ref th), some (.int (Int32.ofNat n)), some (.int y), some (.int z), some (.ref out), none] [] G 0 0 _
  have lt_th := (hH.2.2 _ _ k_th).1
  refine hs_aload (i := 4) (p := 2) (by decide +kernel) rfl ?_
  refine hs_k (x := Int32.ofNat 0) (p := 3) (by decide +kernel) ?_
  refine hs_aload (i := 0) (p := 4) (by decide +kernel) rfl ?_
  refine hs_iload (i := 1) (p := 5) (by decide +kernel) rfl ?_
  refine hs_iload (i := 2) (p := 6) (by decide +kernel) rfl ?_
  refine hs_iload (i := 3) (p := 7) (by decide +kernel) rfl ?_
  refine ht_callv (T := et_TT) (t := 12) (mi := 152) (na := 3) (ci := 10) (lk := 6) (lm := 5) (L0 := eg_en (eg_mL 152) [.ref th, .int (Int32.ofNat n), .int y, .int z]) (by decide +kernel) rfl hH k_th rfl rfl rfl rfl rfl (by rw [show eg_mL 152 = 5 from by decide +kernel]; first | done | rfl) ?_
  refine (fd_foundR hH k_th h0 k_s0 h5 hec h6 k_ya hn hE hy (by omega)).mono (fun u hu => ?_)
  obtain ⟨c7, s7, rfl⟩ := hu
  refine hs_ch (h := 19) (i := 5) (n := 2) (hh := (eg_mh 15).getD []) (by decide +kernel) ⟨by decide +kernel, by decide +kernel⟩ (Nat.le_of_ble_eq_true rfl) ?_
  show et_go none _ 15 21 [some (.ref th), some (.int (Int32.ofNat n)), some (.int y), some (.int z), some (.ref out), none] [] _ _ _ _
  refine hs_k (x := Int32.ofNat 2) (p := 22) (by decide +kernel) ?_
  refine hs_iret (by decide +kernel) ?_
  exact ⟨rfl, rfl⟩
theorem fh_foundE (hH : et_H et_TT K G) (k_th : K th = some 12) (h0 : et_pl (eg_at G th) 0 = some (.ref s0)) (k_s0 : K s0 = some 10) (h5 : et_pl (eg_at G s0) 5 = some (.int (Int32.ofNat ec))) (hec : ec ≤ 3) (h6 : et_pl (eg_at G s0) 6 = some (.ref ya)) (k_ya : K ya = some 40) (hx : ¬ xr x ec) (hd : 6 ≤ d2) : et_go none d2 15 0 (eg_en (eg_mL 15) [.ref th, .int x, .int y, .int z, .ref out]) [] G 0 0 (fun u => u.1 = .inl (some (.int (Int32.ofNat 1))) ∧ u.2.1 = G) := by
  obtain ⟨d, rfl⟩ : ∃ d, d2 = d + 6 := ⟨d2 - 6, by omega⟩
  rw [show eg_mL 15 = 6 from by decide +kernel]
  show et_go none (d + 6) 15 0 [some (.ref th), some (.int x), some (.int y), some (.int z), some (.ref out), none] [] G 0 0 _
  have lt_th := (hH.2.2 _ _ k_th).1
  refine hs_aload (i := 4) (p := 2) (by decide +kernel) rfl ?_
  refine hs_k (x := Int32.ofNat 0) (p := 3) (by decide +kernel) ?_
  refine hs_aload (i := 0) (p := 4) (by decide +kernel) rfl ?_
  refine hs_iload (i := 1) (p := 5) (by decide +kernel) rfl ?_
  refine hs_iload (i := 2) (p := 6) (by decide +kernel) rfl ?_
  refine hs_iload (i := 3) (p := 7) (by decide +kernel) rfl ?_
  refine ht_callv (T := et_TT) (t := 12) (mi := 152) (na := 3) (ci := 10) (lk := 6) (lm := 5) (L0 := eg_en (eg_mL 152) [.ref th, .int x, .int y, .int z]) (by decide +kernel) rfl hH k_th rfl rfl rfl rfl rfl (by rw [show eg_mL 152 = 5 from by decide +kernel]; first | done | rfl) ?_
  refine (fd_foundE hH k_th h0 k_s0 h5 hec h6 k_ya hx (by omega)).mono (fun u hu => ?_)
  obtain ⟨c7, s7, rfl⟩ := hu
  refine hs_ch (h := 15) (i := 5) (n := 2) (hh := (eg_mh 15).getD []) (by decide +kernel) ⟨by decide +kernel, by decide +kernel⟩ (Nat.le_of_ble_eq_true rfl) ?_
  show et_go none _ 15 17 [some (.ref th), some (.int x), some (.int y), some (.int z), some (.ref out), none] [] _ _ _ _
  refine hs_k (x := Int32.ofNat 1) (p := 18) (by decide +kernel) ?_
  refine hs_iret (by decide +kernel) ?_
  exact ⟨rfl, rfl⟩
theorem fz_found (hH : et_H et_TT K G) (k_th : K th = some 12) (h0 : et_pl (eg_at G th) 0 = some (.ref s0)) (k_s0 : K s0 = some 10) (k_s1 : K s1 = some 10) (h5 : et_pl (eg_at G s0) 5 = some (.int (Int32.ofNat ec))) (hec : ec ≤ 3) (t : ezK K ya yb O A) (hz : ez G th s0 s1 ya yb O A V) (ho : ∀ n, n < 6 → evo (V n)) (g2 : et_pl (eg_at G s0) 2 = some (.int (Int32.ofNat nc))) (hnc : nc ≤ 20) (hcc : ccP G s0 la ly nc X Y) (k_la : K la = some 17) (k_ly : K ly = some 27) (k_out : K out = some 31) (hsy : syB K G th) (hfy : fyR K G th s0 nc) (hd : 34 ≤ d2) : et_go none d2 15 0 (eg_en (eg_mL 15) [.ref th, .int x, .int y, .int z, .ref out]) [] G 0 0 (fun u => (¬ xr x ec ∧ u.1 = .inl (some (.int (Int32.ofNat 1))) ∧ u.2.1 = G) ∨ ∃ n, (x = Int32.ofNat n ∧ n < ec) ∧ ((¬ (1 ≤ y.toInt ∧ y.toInt ≤ 3) ∧ u.1 = .inl (some (.int (Int32.ofNat 2))) ∧ u.2.1 = G) ∨ ∃ k, (y = Int32.ofNat k ∧ 1 ≤ k ∧ k ≤ 3) ∧ ((¬ (0 ≤ z.toInt ∧ z.toInt ≤ 7) ∧ u.1 = .inl (some (.int (Int32.ofNat 3))) ∧ u.2.1 = G) ∨ ∃ m, (z = Int32.ofNat m ∧ m ≤ 7) ∧ u.1 = .inl (some (.int (Int32.ofNat 0))) ∧ et_pl (eg_at u.2.1 out) 0 = some (.long (foW (V n) X Y nc k m (foA (V n).1 (V n).2.1 (V n).2.2.1 X Y nc k)).toInt64) ∧ fyQ K u.2.1 th n (V n).1 k (foA (V n).1 (V n).2.1 (V n).2.2.1 X Y nc k)))) := by
  obtain ⟨se, q5e, tA, tR, tS, td, be, sy, t8, hsR⟩ := hsy
  obtain ⟨x6, q6, l6, m6⟩ := hf_iv (t := 12) (f := 6) hH k_th rfl rfl
  obtain ⟨x7, q7, l7, m7⟩ := hf_iv (t := 12) (f := 7) hH k_th rfl rfl
  by_cases hx : xr x ec
  · obtain ⟨n, rfl, hn⟩ := xr_nat hx (by omega)
    by_cases hs3 : (1 ≤ y.toInt ∧ y.toInt ≤ 3)
    · obtain ⟨k, rfl, q2, q3⟩ := hs_toN (x := y) (by omega)
      by_cases hs4 : (0 ≤ z.toInt ∧ z.toInt ≤ 7)
      · obtain ⟨m, rfl, p2, p3⟩ := hs_toN (x := z) (by omega)
        exact (fh_found hH k_th h0 k_s0 h5 hec hz.1.1 t.1.1 hn (hz.2.1 n (by omega)).1 (t.ev (ho n (by omega)) (by omega)) (hz.2.2.1 n (by omega)) g2 hnc hcc k_la k_ly t8 hsR q5e q6 q7 (hfy.hitx (by omega) (by omega) q6 q7 q5e hsR.1.2.2.2.2.1 hz ho hcc) (by omega) (by omega) (by omega) k_out (by omega)).mono (fun u hu => .inr ⟨n, ⟨rfl, hn⟩, .inr ⟨k, ⟨rfl, by omega, by omega⟩, .inr ⟨m, ⟨rfl, by omega⟩, hu.1, hu.2.1, hu.2.2⟩⟩⟩)
      · exact (fh_foundN hH k_th h0 k_s0 h5 hec hz.1.1 t.1.1 hn (hz.2.1 n (by omega)).1 (by omega) (by omega) hs4 (by omega)).mono (fun u hu => .inr ⟨n, ⟨rfl, hn⟩, .inr ⟨k, ⟨rfl, by omega, by omega⟩, .inl ⟨hs4, hu.1, hu.2⟩⟩⟩)
    · exact (fh_foundR hH k_th h0 k_s0 h5 hec hz.1.1 t.1.1 hn (hz.2.1 n (by omega)).1 hs3 (by omega)).mono (fun u hu => .inr ⟨n, ⟨rfl, hn⟩, .inl ⟨hs3, hu.1, hu.2⟩⟩)
  · exact (fh_foundE hH k_th h0 k_s0 h5 hec hz.1.1 t.1.1 hx (by omega)).mono (fun u hu => .inl ⟨hx, hu.1, hu.2⟩)
end ZXB
end
section
/-! searches: both sides say the same of what is found -/
theorem trN_su {C : Nat → Int32} {Kd : Nat → Nat} {T : Nat → Int32} {x : Int32} : ∀ u, trN T (fun m => vaI (C m) (Kd m) x) u = suN C Kd T x u
  | 0 => rfl
  | u + 1 => by
    show trN T (fun m => vaI (C m) (Kd m) x) u + T u * vaI (C u) (Kd u) x = suN C Kd T x u + T u * vaI (C u) (Kd u) x
    rw [trN_su u]
theorem i32_t {a b : Int32} (h : a.toInt = b.toInt) : a = b := Int32.toInt_inj.mp h
section ZYA
variable {v : evT} {X S : Nat → Int32} {Y : Nat → Nat} {nc k n : Nat}
theorem gc_s (hS : ∀ c, c < n → -1134 ≤ (S c).toInt ∧ (S c).toInt ≤ 1134) : ∀ m, m ≤ n → (gnC S Y m = (-1073741824) ∧ gnI S Y m = (-1000000)) ∨ (gnC S Y m = gnI S Y m ∧ -1134 ≤ (gnI S Y m).toInt ∧ (gnI S Y m).toInt ≤ 1134)
  | 0, _ => .inl ⟨rfl, rfl⟩
  | m + 1, h => by
    have ih := gc_s hS m (by omega)
    have hs := hS m (by omega)
    have e1 : gnC S Y (m + 1) = if Y m = 1 then gnC S Y m else mxI (gnC S Y m) (S m) := rfl
    have e2 : gnI S Y (m + 1) = if Y m = 1 then gnI S Y m else mxI (gnI S Y m) (S m) := rfl
    rw [e1, e2]
    by_cases hy : Y m = 1
    · rw [if_pos hy, if_pos hy]
      exact ih
    · rw [if_neg hy, if_neg hy]
      have n1 : (-1073741824 : Int32).toInt = -1073741824 := rfl
      have n2 : (-1000000 : Int32).toInt = -1000000 := rfl
      rcases ih with ⟨h1, h2⟩ | ⟨h1, h2, h3⟩
      · have e3 : mxI (gnC S Y m) (S m) = S m := i32_t (by rw [mxI_t, h1, n1]; omega)
        have e4 : mxI (gnI S Y m) (S m) = S m := i32_t (by rw [mxI_t, h2, n2]; omega)
        rw [e3, e4]
        exact .inr ⟨rfl, hs⟩
      · rw [h1]
        refine .inr ⟨rfl, ?_⟩
        rw [mxI_t]
        omega
theorem lo_s (hS : ∀ c, c < n → -1134 ≤ (S c).toInt ∧ (S c).toInt ≤ 1134) : ∀ m, m < n → lowC S (m + 1) = loI S (m + 1)
  | 0, h => by
    have hs := hS 0 (by omega)
    have n1 : (Int32.ofNat 1073741824).toInt = 1073741824 := rfl
    have n2 : (Int32.ofNat 1000000).toInt = 1000000 := rfl
    show mnI (Int32.ofNat 1073741824) (S 0) = mnI (Int32.ofNat 1000000) (S 0)
    refine i32_t ?_
    rw [mnI_t, mnI_t, n1, n2]
    omega
  | m + 1, h => by
    show mnI (lowC S (m + 1)) (S (m + 1)) = mnI (loI S (m + 1)) (S (m + 1))
    rw [lo_s hS m (by omega)]
theorem li_same (hnc : nc ≤ 20) (hS : ∀ c, c < nc → -1134 ≤ (S c).toInt ∧ (S c).toInt ≤ 1134) : liC nc (gnC S Y nc) (lowC S nc) = liR nc (gnI S Y nc) (loI S nc) := by
  unfold liC liR
  by_cases h0 : nc = 0
  · rw [if_pos h0, if_pos (by rw [h0]; rfl)]
  · have h1 : ¬ Int32.ofNat nc = 0 := fun h => h0 ((hs_neq (by omega) (by decide)).mp (show Int32.ofNat nc = Int32.ofNat 0 from h))
    rw [if_neg h0, if_neg h1]
    have e2 : lowC S nc = loI S nc := by
      have h2 := lo_s hS (nc - 1) (by omega)
      rw [show nc - 1 + 1 = nc by omega] at h2
      exact h2
    have n2 : (-1000000 : Int32).toInt = -1000000 := rfl
    rcases gc_s (Y := Y) hS nc (Nat.le_refl nc) with ⟨h3, h4⟩ | ⟨h3, h4, h5⟩
    · rw [if_pos h3, if_pos (by rw [Int32.le_iff_toInt_le, h4]; exact Int.le_refl _), e2]
    · rw [if_neg (fun h => by
        have h6 := congrArg Int32.toInt (h3.symm.trans h)
        have n1 : (-1073741824 : Int32).toInt = -1073741824 := rfl
        omega), if_neg (fun h => by
        have h6 := Int32.le_iff_toInt_le.mp h
        omega), h3]
theorem ss_e {i : Nat} : snS k v.1 (fun c u => vaI (v.2.1 u) (v.2.2.1 u) (X c)) i = seS v (kvT k v.1 i) X := by
  funext c
  exact trN_su v.1
theorem ss_b {i c : Nat} (hk : k ≤ 3) (hW : v.1 ≤ 6) : -1134 ≤ (seS v (kvT k v.1 i) X c).toInt ∧ (seS v (kvT k v.1 i) X c).toInt ≤ 1134 := by
  have h := siI_b (k := k) (W := v.1) (C := v.2.1) (Kd := v.2.2.1) (X := X) (i := i) (c := c) hk hW
  have e := snS_i (k := k) (W := v.1) (C := v.2.1) (Kd := v.2.2.1) (X := X) (i := i) (c := c) hk hW
  rw [ss_e] at e
  rw [e]
  exact h
theorem foR2 (hk : k ≤ 3) (hW : v.1 ≤ 6) : rsF k v.1 nc (fun c u => vaI (v.2.1 u) (v.2.2.1 u) (X c)) Y ((2 * k + 1) ^ v.1) = foA v.1 v.2.1 v.2.2.1 X Y nc k := (fo_same (n := (2 * k + 1) ^ v.1) hk hW).symm
theorem fl_same {i : Nat} (hk : k ≤ 3) (hW : v.1 ≤ 6) (hnc : nc ≤ 20) : liR nc (gnI (snS k v.1 (fun c u => vaI (v.2.1 u) (v.2.2.1 u) (X c)) i) Y nc) (loI (snS k v.1 (fun c u => vaI (v.2.1 u) (v.2.2.1 u) (X c)) i) nc) = liC nc (gnC (seS v (kvT k v.1 i) X) Y nc) (lowC (seS v (kvT k v.1 i) X) nc) := by
  rw [ss_e]
  exact (li_same hnc (fun c _ => ss_b hk hW)).symm
end ZYA
section ZYB
variable {K : et_K} {G : eg_G} {d d2 am aw ec n k m nc : Nat} {x y z : Int32} {V : Nat → evT} {X : Nat → Int32} {Y : Nat → Nat}
theorem fn_can (hH : et_H et_TT K G) (k_am : K am = some 13) (k_aw : K aw = some 46) (m1 : et_pl (eg_at G am) 1 = some (.ref aw)) (w4 : et_pl (eg_at G aw) 4 = some (.int (Int32.ofNat ec))) (hec : ec ≤ 3) (hm : zyM G aw ec V) (ho : ∀ n, n < 3 → evo (V n)) (w3 : et_pl (eg_at G aw) 3 = some (.int (Int32.ofNat nc))) (hnc : nc ≤ 20) (hcr : crP G aw nc X Y) (hn : n < ec) (hk1 : 1 ≤ k) (hk : k ≤ 3) (hd : 8 ≤ d2) : et_go none d2 253 0 (eg_en (eg_mL 253) [.ref am, .int (Int32.ofNat n), .int (Int32.ofNat k)]) [] G 0 0 (fun u => u.1 = .inl (some (.int (Int32.ofNat (if (foA (V n).1 (V n).2.1 (V n).2.2.1 X Y nc k).isSome = true then 1 else 0)))) ∧ et_pl (eg_at u.2.1 am) 0 = some (.int (Int32.ofNat 0))) := by
  obtain ⟨d, rfl⟩ : ∃ d, d2 = d + 8 := ⟨d2 - 8, by omega⟩
  rw [show eg_mL 253 = 3 from by decide +kernel]
  show et_go none (d + 8) 253 0 [some (.ref am), some (.int (Int32.ofNat n)), some (.int (Int32.ofNat k))] [] G 0 0 _
  have lt_am := (hH.2.2 _ _ k_am).1
  have lt_aw := (hH.2.2 _ _ k_aw).1
  refine hs_aload (i := 0) (p := 1) (by decide +kernel) rfl ?_
  refine hs_k (x := Int32.ofNat 0) (p := 2) (by decide +kernel) ?_
  refine hf_put (T := et_TT) (t := 13) (ci := 11) (f := 0) (p := 5) (ty := .int) (by decide +kernel) rfl rfl rfl rfl rfl hH k_am hi_any (fun G2 hH x2 e2 => ?_)
  have hm := hm.mv ho (fun j _ _ => x2.2 aw j lt_aw (fun h => hi_ne k_aw k_am (by decide) h.1))
  have hcr : crP G2 aw nc X Y := fun k hk => ⟨(x2.2 aw _ lt_aw (fun h => hi_ne k_aw k_am (by decide) h.1)).trans (hcr k hk).1, (x2.2 aw _ lt_aw (fun h => hi_ne k_aw k_am (by decide) h.1)).trans (hcr k hk).2.1, (hcr k hk).2.2⟩
  have w3 := (x2.2 aw 3 lt_aw (fun h => hi_ne k_aw k_am (by decide) h.1)).trans w3
  have m1 := (x2.2 am 1 lt_am (fun h => absurd h.2 (by decide))).trans m1
  have w4 := (x2.2 aw 4 lt_aw (fun h => (hi_ne k_aw k_am (by decide)) h.1)).trans w4
  have lt_am := Nat.lt_of_lt_of_le lt_am x2.1
  have lt_aw := Nat.lt_of_lt_of_le lt_aw x2.1
  refine hs_aload (i := 0) (p := 6) (by decide +kernel) rfl ?_
  refine hs_iload (i := 1) (p := 7) (by decide +kernel) rfl ?_
  refine hs_iload (i := 2) (p := 8) (by decide +kernel) rfl ?_
  refine hs_k (x := Int32.ofNat 3) (p := 9) (by decide +kernel) ?_
  refine ht_callv (T := et_TT) (t := 13) (mi := 254) (na := 3) (ci := 11) (lk := 3) (lm := 4) (L0 := eg_en (eg_mL 254) [.ref am, .int (Int32.ofNat n), .int (Int32.ofNat k), .int (Int32.ofNat 3)]) (by decide +kernel) rfl hH k_am rfl rfl rfl rfl rfl (by rw [show eg_mL 254 = 4 from by decide +kernel]; first | done | rfl) ?_
  refine (fn_nsY (q := 3) hH k_am k_aw m1 w4 hec hm ho (by decide) hn hk1 hk (by omega)).mono (fun u hu => xp_cb hu ?_)
  show et_go none _ 253 12 _ [.int (Int32.ofNat 0)] _ _ _ _
  refine hs_if1 (c := .eq) (t := 17) (f := 15) (by decide +kernel) (show Int32.ofNat 0 = 0 by decide) ?_
  refine hs_aload (i := 0) (p := 18) (by decide +kernel) rfl ?_
  refine hs_iload (i := 1) (p := 19) (by decide +kernel) rfl ?_
  refine hs_iload (i := 2) (p := 20) (by decide +kernel) rfl ?_
  obtain ⟨va, m20, k_va⟩ := hf_ref (t := 13) (f := 20) (u := 20) hH k_am rfl rfl (.inr trivial)
  obtain ⟨tr, m21, k_tr⟩ := hf_ref (t := 13) (f := 21) (u := 49) hH k_am rfl rfl (.inr trivial)
  obtain ⟨be, m22, k_be⟩ := hf_ref (t := 13) (f := 22) (u := 50) hH k_am rfl rfl (.inr trivial)
  refine ht_callv (T := et_TT) (t := 13) (mi := 255) (na := 2) (ci := 11) (lk := 3) (lm := 6) (L0 := eg_en (eg_mL 255) [.ref am, .int (Int32.ofNat n), .int (Int32.ofNat k)]) (by decide +kernel) rfl hH k_am rfl rfl rfl rfl rfl (by rw [show eg_mL 255 = 6 from by decide +kernel]; first | done | rfl) ?_
  refine (fn_tries (v := V n) hH k_am k_aw k_va k_tr k_be m1 m20 m21 m22 (by omega) (ho n (by omega)) ((hm n (by omega)).1 hn) hk hnc w3 hcr (by omega)).mono (fun u9 hu9 => xw_cb hu9 (fun G9 v9 hH9 x9 hP9 => ?_))
  obtain ⟨rfl, hts, hrs⟩ := hP9
  have th0 := (x9.2 am 0 (hH.2.2 _ _ k_am).1 (fun h => by have n1 : ¬ am = be := hi_ne k_am k_be (by decide); have n2 : ¬ am = tr := hi_ne k_am k_tr (by decide); have n3 : ¬ am = va := hi_ne k_am k_va (by decide); rcases h with h | h | h | h; omega; exact n1 h; exact n2 h; exact n3 h)).trans e2
  have hH := hH9
  have m1t := hts.1.1
  have w3t := hts.2.2.1
  have m22 := hts.1.2.2.2
  have hW := (ho n (by omega)).1.1
  have hq := hrs.2
  rw [foR2 (v := V n) hk hW] at hq
  rcases hoq : (foA (V n).1 (V n).2.1 (V n).2.2.1 X Y nc k) with _ | q
  · rw [hoq] at hq
    have r29 : et_pl (eg_at G9 am) 29 = some (.int (Int32.ofNat 0)) := hq
    show et_go none _ 253 23 _ [] _ _ _ _
    refine hs_aload (i := 0) (p := 24) (by decide +kernel) rfl ?_
    refine hf_get (T := et_TT) (t := 13) (ci := 11) (f := 29) (p := 27) (by decide +kernel) rfl hH k_am r29 ?_
    refine hs_zret (by decide +kernel) (.inl rfl) ?_
    refine ⟨?_, th0⟩
    rfl
  · rw [hoq] at hq
    obtain ⟨r29, r23, r25, r26, r24, rB⟩ := hq
    show et_go none _ 253 23 _ [] _ _ _ _
    refine hs_aload (i := 0) (p := 24) (by decide +kernel) rfl ?_
    refine hf_get (T := et_TT) (t := 13) (ci := 11) (f := 29) (p := 27) (by decide +kernel) rfl hH k_am r29 ?_
    refine hs_zret (by decide +kernel) (.inr rfl) ?_
    refine ⟨?_, th0⟩
    rfl
theorem fn_canK (hH : et_H et_TT K G) (k_am : K am = some 13) (k_aw : K aw = some 46) (m1 : et_pl (eg_at G am) 1 = some (.ref aw)) (w4 : et_pl (eg_at G aw) 4 = some (.int (Int32.ofNat ec))) (hec : ec ≤ 3) (hm : zyM G aw ec V) (ho : ∀ n, n < 3 → evo (V n)) (hn : n < ec) (hy : ¬ (1 ≤ y.toInt ∧ y.toInt ≤ 3)) (hd : 3 ≤ d2) : et_go none d2 253 0 (eg_en (eg_mL 253) [.ref am, .int (Int32.ofNat n), .int y]) [] G 0 0 (fun u => u.1 = .inl (some (.int (Int32.ofNat 0))) ∧ et_pl (eg_at u.2.1 am) 0 = some (.int (Int32.ofNat 2))) := by
  obtain ⟨d, rfl⟩ : ∃ d, d2 = d + 3 := ⟨d2 - 3, by omega⟩
  rw [show eg_mL 253 = 3 from by decide +kernel]
  show et_go none (d + 3) 253 0 [some (.ref am), some (.int (Int32.ofNat n)), some (.int y)] [] G 0 0 _
  have lt_am := (hH.2.2 _ _ k_am).1
  have lt_aw := (hH.2.2 _ _ k_aw).1
  refine hs_aload (i := 0) (p := 1) (by decide +kernel) rfl ?_
  refine hs_k (x := Int32.ofNat 0) (p := 2) (by decide +kernel) ?_
  refine hf_put (T := et_TT) (t := 13) (ci := 11) (f := 0) (p := 5) (ty := .int) (by decide +kernel) rfl rfl rfl rfl rfl hH k_am hi_any (fun G2 hH x2 e2 => ?_)
  have hm := hm.mv ho (fun j _ _ => x2.2 aw j lt_aw (fun h => hi_ne k_aw k_am (by decide) h.1))
  have m1 := (x2.2 am 1 lt_am (fun h => absurd h.2 (by decide))).trans m1
  have w4 := (x2.2 aw 4 lt_aw (fun h => (hi_ne k_aw k_am (by decide)) h.1)).trans w4
  have lt_am := Nat.lt_of_lt_of_le lt_am x2.1
  have lt_aw := Nat.lt_of_lt_of_le lt_aw x2.1
  refine hs_aload (i := 0) (p := 6) (by decide +kernel) rfl ?_
  refine hs_iload (i := 1) (p := 7) (by decide +kernel) rfl ?_
  refine hs_iload (i := 2) (p := 8) (by decide +kernel) rfl ?_
  refine hs_k (x := Int32.ofNat 3) (p := 9) (by decide +kernel) ?_
  refine ht_callv (T := et_TT) (t := 13) (mi := 254) (na := 3) (ci := 11) (lk := 3) (lm := 4) (L0 := eg_en (eg_mL 254) [.ref am, .int (Int32.ofNat n), .int y, .int (Int32.ofNat 3)]) (by decide +kernel) rfl hH k_am rfl rfl rfl rfl rfl (by rw [show eg_mL 254 = 4 from by decide +kernel]; first | done | rfl) ?_
  refine (fn_nsK (q := 3) hH k_am k_aw m1 w4 hec hm ho (by decide) hn hy (by omega)).mono (fun u hu => xw_cb hu (fun G9 v9 hH x9 hP9 => ?_))
  have hm := hm.mv ho (fun j _ _ => x9.2 aw j lt_aw (fun h => hi_ne k_aw k_am (by decide) h.1))
  have m1 := (x9.2 am 1 lt_am (fun h => absurd h.2 (by decide))).trans m1
  have w4 := (x9.2 aw 4 lt_aw (fun h => (hi_ne k_aw k_am (by decide)) h.1)).trans w4
  have lt_am := Nat.lt_of_lt_of_le lt_am x9.1
  have lt_aw := Nat.lt_of_lt_of_le lt_aw x9.1
  obtain ⟨rfl, th9⟩ := hP9
  show et_go none _ 253 12 _ [.int (Int32.ofNat 1)] _ _ _ _
  refine hs_if0 (c := .eq) (t := 17) (f := 15) (by decide +kernel) (show ¬ (Int32.ofNat 1 = 0) by decide) ?_
  refine hs_k (x := Int32.ofNat 0) (p := 16) (by decide +kernel) ?_
  refine hs_zret (by decide +kernel) (.inl rfl) ?_
  exact ⟨rfl, th9⟩
theorem fn_canE (hH : et_H et_TT K G) (k_am : K am = some 13) (k_aw : K aw = some 46) (m1 : et_pl (eg_at G am) 1 = some (.ref aw)) (w4 : et_pl (eg_at G aw) 4 = some (.int (Int32.ofNat ec))) (hec : ec ≤ 3) (hm : zyM G aw ec V) (ho : ∀ n, n < 3 → evo (V n)) (hx : ¬ xr x ec) (hd : 3 ≤ d2) : et_go none d2 253 0 (eg_en (eg_mL 253) [.ref am, .int x, .int y]) [] G 0 0 (fun u => u.1 = .inl (some (.int (Int32.ofNat 0))) ∧ et_pl (eg_at u.2.1 am) 0 = some (.int (Int32.ofNat 1))) := by
  obtain ⟨d, rfl⟩ : ∃ d, d2 = d + 3 := ⟨d2 - 3, by omega⟩
  rw [show eg_mL 253 = 3 from by decide +kernel]
  show et_go none (d + 3) 253 0 [some (.ref am), some (.int x), some (.int y)] [] G 0 0 _
  have lt_am := (hH.2.2 _ _ k_am).1
  have lt_aw := (hH.2.2 _ _ k_aw).1
  refine hs_aload (i := 0) (p := 1) (by decide +kernel) rfl ?_
  refine hs_k (x := Int32.ofNat 0) (p := 2) (by decide +kernel) ?_
  refine hf_put (T := et_TT) (t := 13) (ci := 11) (f := 0) (p := 5) (ty := .int) (by decide +kernel) rfl rfl rfl rfl rfl hH k_am hi_any (fun G2 hH x2 e2 => ?_)
  have hm := hm.mv ho (fun j _ _ => x2.2 aw j lt_aw (fun h => hi_ne k_aw k_am (by decide) h.1))
  have m1 := (x2.2 am 1 lt_am (fun h => absurd h.2 (by decide))).trans m1
  have w4 := (x2.2 aw 4 lt_aw (fun h => (hi_ne k_aw k_am (by decide)) h.1)).trans w4
  have lt_am := Nat.lt_of_lt_of_le lt_am x2.1
  have lt_aw := Nat.lt_of_lt_of_le lt_aw x2.1
  refine hs_aload (i := 0) (p := 6) (by decide +kernel) rfl ?_
  refine hs_iload (i := 1) (p := 7) (by decide +kernel) rfl ?_
  refine hs_iload (i := 2) (p := 8) (by decide +kernel) rfl ?_
  refine hs_k (x := Int32.ofNat 3) (p := 9) (by decide +kernel) ?_
  refine ht_callv (T := et_TT) (t := 13) (mi := 254) (na := 3) (ci := 11) (lk := 3) (lm := 4) (L0 := eg_en (eg_mL 254) [.ref am, .int x, .int y, .int (Int32.ofNat 3)]) (by decide +kernel) rfl hH k_am rfl rfl rfl rfl rfl (by rw [show eg_mL 254 = 4 from by decide +kernel]; first | done | rfl) ?_
  refine (fn_nsE (q := 3) (y := y) hH k_am k_aw m1 w4 hec hm ho (by decide) hx (by omega)).mono (fun u hu => xw_cb hu (fun G9 v9 hH x9 hP9 => ?_))
  have hm := hm.mv ho (fun j _ _ => x9.2 aw j lt_aw (fun h => hi_ne k_aw k_am (by decide) h.1))
  have m1 := (x9.2 am 1 lt_am (fun h => absurd h.2 (by decide))).trans m1
  have w4 := (x9.2 aw 4 lt_aw (fun h => (hi_ne k_aw k_am (by decide)) h.1)).trans w4
  have lt_am := Nat.lt_of_lt_of_le lt_am x9.1
  have lt_aw := Nat.lt_of_lt_of_le lt_aw x9.1
  obtain ⟨rfl, th9⟩ := hP9
  show et_go none _ 253 12 _ [.int (Int32.ofNat 1)] _ _ _ _
  refine hs_if0 (c := .eq) (t := 17) (f := 15) (by decide +kernel) (show ¬ (Int32.ofNat 1 = 0) by decide) ?_
  refine hs_k (x := Int32.ofNat 0) (p := 16) (by decide +kernel) ?_
  refine hs_zret (by decide +kernel) (.inl rfl) ?_
  exact ⟨rfl, th9⟩
theorem gz_can (hH : et_H et_TT K G) (k_am : K am = some 13) (k_aw : K aw = some 46) (m1 : et_pl (eg_at G am) 1 = some (.ref aw)) (w4 : et_pl (eg_at G aw) 4 = some (.int (Int32.ofNat ec))) (hec : ec ≤ 3) (hm : zyM G aw ec V) (ho : ∀ n, n < 3 → evo (V n)) (w3 : et_pl (eg_at G aw) 3 = some (.int (Int32.ofNat nc))) (hnc : nc ≤ 20) (hcr : crP G aw nc X Y) (hd : 8 ≤ d2) : et_go none d2 253 0 (eg_en (eg_mL 253) [.ref am, .int x, .int y]) [] G 0 0 (fun u => (¬ xr x ec ∧ u.1 = .inl (some (.int (Int32.ofNat 0))) ∧ et_pl (eg_at u.2.1 am) 0 = some (.int (Int32.ofNat 1))) ∨ ∃ n, (x = Int32.ofNat n ∧ n < ec) ∧ ((¬ (1 ≤ y.toInt ∧ y.toInt ≤ 3) ∧ u.1 = .inl (some (.int (Int32.ofNat 0))) ∧ et_pl (eg_at u.2.1 am) 0 = some (.int (Int32.ofNat 2))) ∨ ∃ k, (y = Int32.ofNat k ∧ 1 ≤ k ∧ k ≤ 3) ∧ u.1 = .inl (some (.int (Int32.ofNat (if (foA (V n).1 (V n).2.1 (V n).2.2.1 X Y nc k).isSome = true then 1 else 0)))) ∧ et_pl (eg_at u.2.1 am) 0 = some (.int (Int32.ofNat 0)))) := by
  by_cases hx : xr x ec
  · obtain ⟨n, rfl, hn⟩ := xr_nat hx (by omega)
    by_cases hs3 : (1 ≤ y.toInt ∧ y.toInt ≤ 3)
    · obtain ⟨k, rfl, q2, q3⟩ := hs_toN (x := y) (by omega)
      exact (fn_can hH k_am k_aw m1 w4 hec hm ho w3 hnc hcr hn (by omega) (by omega) hd).mono (fun u hu => .inr ⟨n, ⟨rfl, hn⟩, .inr ⟨k, ⟨rfl, by omega, by omega⟩, hu.1, hu.2⟩⟩)
    · exact (fn_canK hH k_am k_aw m1 w4 hec hm ho hn hs3 (by omega)).mono (fun u hu => .inr ⟨n, ⟨rfl, hn⟩, .inl ⟨hs3, hu.1, hu.2⟩⟩)
  · exact (fn_canE hH k_am k_aw m1 w4 hec hm ho hx (by omega)).mono (fun u hu => .inl ⟨hx, hu.1, hu.2⟩)
theorem fn_found (hH : et_H et_TT K G) (k_am : K am = some 13) (k_aw : K aw = some 46) (m1 : et_pl (eg_at G am) 1 = some (.ref aw)) (w4 : et_pl (eg_at G aw) 4 = some (.int (Int32.ofNat ec))) (hec : ec ≤ 3) (hm : zyM G aw ec V) (ho : ∀ n, n < 3 → evo (V n)) (w3 : et_pl (eg_at G aw) 3 = some (.int (Int32.ofNat nc))) (hnc : nc ≤ 20) (hcr : crP G aw nc X Y) (hn : n < ec) (hk1 : 1 ≤ k) (hk : k ≤ 3) (hm7 : m ≤ 7) (hd : 8 ≤ d2) : et_go none d2 259 0 (eg_en (eg_mL 259) [.ref am, .int (Int32.ofNat n), .int (Int32.ofNat k), .int (Int32.ofNat m)]) [] G 0 0 (fun u => u.1 = .inl (some (.int (foW (V n) X Y nc k m (foA (V n).1 (V n).2.1 (V n).2.2.1 X Y nc k)))) ∧ et_pl (eg_at u.2.1 am) 0 = some (.int (Int32.ofNat 0))) := by
  obtain ⟨d, rfl⟩ : ∃ d, d2 = d + 8 := ⟨d2 - 8, by omega⟩
  have o0 : (Int32.ofNat 0).toInt = 0 := rfl
  have o7 : (Int32.ofNat 7).toInt = 7 := rfl
  have om : (Int32.ofNat m).toInt = m := hs_nint (by omega)
  rw [show eg_mL 259 = 4 from by decide +kernel]
  show et_go none (d + 8) 259 0 [some (.ref am), some (.int (Int32.ofNat n)), some (.int (Int32.ofNat k)), some (.int (Int32.ofNat m))] [] G 0 0 _
  have lt_am := (hH.2.2 _ _ k_am).1
  have lt_aw := (hH.2.2 _ _ k_aw).1
  refine hs_aload (i := 0) (p := 1) (by decide +kernel) rfl ?_
  refine hs_k (x := Int32.ofNat 0) (p := 2) (by decide +kernel) ?_
  refine hf_put (T := et_TT) (t := 13) (ci := 11) (f := 0) (p := 5) (ty := .int) (by decide +kernel) rfl rfl rfl rfl rfl hH k_am hi_any (fun G2 hH x2 e2 => ?_)
  have hm := hm.mv ho (fun j _ _ => x2.2 aw j lt_aw (fun h => hi_ne k_aw k_am (by decide) h.1))
  have hcr : crP G2 aw nc X Y := fun k hk => ⟨(x2.2 aw _ lt_aw (fun h => hi_ne k_aw k_am (by decide) h.1)).trans (hcr k hk).1, (x2.2 aw _ lt_aw (fun h => hi_ne k_aw k_am (by decide) h.1)).trans (hcr k hk).2.1, (hcr k hk).2.2⟩
  have w3 := (x2.2 aw 3 lt_aw (fun h => hi_ne k_aw k_am (by decide) h.1)).trans w3
  have m1 := (x2.2 am 1 lt_am (fun h => absurd h.2 (by decide))).trans m1
  have w4 := (x2.2 aw 4 lt_aw (fun h => (hi_ne k_aw k_am (by decide)) h.1)).trans w4
  have lt_am := Nat.lt_of_lt_of_le lt_am x2.1
  have lt_aw := Nat.lt_of_lt_of_le lt_aw x2.1
  refine hs_aload (i := 0) (p := 6) (by decide +kernel) rfl ?_
  refine hs_iload (i := 1) (p := 7) (by decide +kernel) rfl ?_
  refine hs_iload (i := 2) (p := 8) (by decide +kernel) rfl ?_
  refine hs_k (x := Int32.ofNat 3) (p := 9) (by decide +kernel) ?_
  refine ht_callv (T := et_TT) (t := 13) (mi := 254) (na := 3) (ci := 11) (lk := 4) (lm := 4) (L0 := eg_en (eg_mL 254) [.ref am, .int (Int32.ofNat n), .int (Int32.ofNat k), .int (Int32.ofNat 3)]) (by decide +kernel) rfl hH k_am rfl rfl rfl rfl rfl (by rw [show eg_mL 254 = 4 from by decide +kernel]; first | done | rfl) ?_
  refine (fn_nsY (q := 3) hH k_am k_aw m1 w4 hec hm ho (by decide) hn hk1 hk (by omega)).mono (fun u hu => xp_cb hu ?_)
  show et_go none _ 259 12 _ [.int (Int32.ofNat 0)] _ _ _ _
  refine hs_if0 (c := .ne) (t := 38) (f := 15) (by decide +kernel) (show ¬ (¬ Int32.ofNat 0 = 0) by decide) ?_
  refine hs_aload (i := 0) (p := 16) (by decide +kernel) rfl ?_
  refine hs_iload (i := 3) (p := 17) (by decide +kernel) rfl ?_
  refine hs_k (x := Int32.ofNat 0) (p := 18) (by decide +kernel) ?_
  refine hs_k (x := Int32.ofNat 7) (p := 20) (by decide +kernel) ?_
  refine hs_calls (mi := 209) (na := 3) (lk := 4) (lm := 3) (L0 := eg_en (eg_mL 209) [.int (Int32.ofNat m), .int (Int32.ofNat 0), .int (Int32.ofNat 7)]) (by decide +kernel) rfl rfl rfl rfl rfl rfl (by rw [show eg_mL 209 = 3 from by decide +kernel]; first | done | rfl) ?_
  refine (fm_in (x := Int32.ofNat m) (y := Int32.ofNat 0) (z := Int32.ofNat 7)).mono (fun u hu => xp_cb hu ?_)
  by_cases xz : (Int32.ofNat 0).toInt ≤ (Int32.ofNat m).toInt ∧ (Int32.ofNat m).toInt ≤ (Int32.ofNat 7).toInt
  · rw [if_pos xz]
    show et_go none _ 259 23 _ [.int (Int32.ofNat 1), .ref am] _ _ _ _
    refine hs_if1 (c := .ne) (t := 30) (f := 26) (by decide +kernel) (show ¬ Int32.ofNat 1 = 0 by decide) ?_
    refine hs_k (x := Int32.ofNat 0) (p := 31) (by decide +kernel) ?_
    refine hs_k (x := Int32.ofNat 3) (p := 32) (by decide +kernel) ?_
    refine ht_callv (T := et_TT) (t := 13) (mi := 204) (na := 2) (ci := 11) (lk := 4) (lm := 3) (L0 := eg_en (eg_mL 204) [.ref am, .int (Int32.ofNat 0), .int (Int32.ofNat 3)]) (by decide +kernel) rfl hH k_am rfl rfl rfl rfl rfl (by rw [show eg_mL 204 = 3 from by decide +kernel]; first | done | rfl) ?_
    refine (fm_t0 hH k_am).mono (fun u hu => xp_cb hu ?_)
    show et_go none _ 259 35 _ [.int (Int32.ofNat 0)] _ _ _ _
    refine hs_if1 (c := .eq) (t := 40) (f := 38) (by decide +kernel) (show Int32.ofNat 0 = 0 by decide) ?_
    refine hs_aload (i := 0) (p := 41) (by decide +kernel) rfl ?_
    refine hs_iload (i := 1) (p := 42) (by decide +kernel) rfl ?_
    refine hs_iload (i := 2) (p := 43) (by decide +kernel) rfl ?_
    obtain ⟨va, m20, k_va⟩ := hf_ref (t := 13) (f := 20) (u := 20) hH k_am rfl rfl (.inr trivial)
    obtain ⟨tr, m21, k_tr⟩ := hf_ref (t := 13) (f := 21) (u := 49) hH k_am rfl rfl (.inr trivial)
    obtain ⟨be, m22, k_be⟩ := hf_ref (t := 13) (f := 22) (u := 50) hH k_am rfl rfl (.inr trivial)
    refine ht_callv (T := et_TT) (t := 13) (mi := 255) (na := 2) (ci := 11) (lk := 4) (lm := 6) (L0 := eg_en (eg_mL 255) [.ref am, .int (Int32.ofNat n), .int (Int32.ofNat k)]) (by decide +kernel) rfl hH k_am rfl rfl rfl rfl rfl (by rw [show eg_mL 255 = 6 from by decide +kernel]; first | done | rfl) ?_
    refine (fn_tries (v := V n) hH k_am k_aw k_va k_tr k_be m1 m20 m21 m22 (by omega) (ho n (by omega)) ((hm n (by omega)).1 hn) hk hnc w3 hcr (by omega)).mono (fun u9 hu9 => xw_cb hu9 (fun G9 v9 hH9 x9 hP9 => ?_))
    obtain ⟨rfl, hts, hrs⟩ := hP9
    have th0 := (x9.2 am 0 (hH.2.2 _ _ k_am).1 (fun h => by have n1 : ¬ am = be := hi_ne k_am k_be (by decide); have n2 : ¬ am = tr := hi_ne k_am k_tr (by decide); have n3 : ¬ am = va := hi_ne k_am k_va (by decide); rcases h with h | h | h | h; omega; exact n1 h; exact n2 h; exact n3 h)).trans e2
    have hH := hH9
    have m1t := hts.1.1
    have w3t := hts.2.2.1
    have m22 := hts.1.2.2.2
    have hW := (ho n (by omega)).1.1
    have hq := hrs.2
    rw [foR2 (v := V n) hk hW] at hq
    rcases hoq : (foA (V n).1 (V n).2.1 (V n).2.2.1 X Y nc k) with _ | q
    · rw [hoq] at hq
      have r29 : et_pl (eg_at G9 am) 29 = some (.int (Int32.ofNat 0)) := hq
      show et_go none _ 259 46 _ [] _ _ _ _
      refine hs_aload (i := 0) (p := 47) (by decide +kernel) rfl ?_
      refine hf_get (T := et_TT) (t := 13) (ci := 11) (f := 29) (p := 50) (by decide +kernel) rfl hH k_am r29 ?_
      refine hs_if0 (c := .ne) (t := 57) (f := 53) (by decide +kernel) (show ¬ (¬ Int32.ofNat 0 = 0) by decide) ?_
      refine hs_k (x := Int32.ofNat 9999) (p := 56) (by decide +kernel) ?_
      refine hs_iret (by decide +kernel) ?_
      refine ⟨?_, th0⟩
      rfl
    · rw [hoq] at hq
      obtain ⟨r29, r23, r25, r26, r24, rB⟩ := hq
      show et_go none _ 259 46 _ [] _ _ _ _
      refine hs_aload (i := 0) (p := 47) (by decide +kernel) rfl ?_
      refine hf_get (T := et_TT) (t := 13) (ci := 11) (f := 29) (p := 50) (by decide +kernel) rfl hH k_am r29 ?_
      refine hs_if1 (c := .ne) (t := 57) (f := 53) (by decide +kernel) (show ¬ Int32.ofNat 1 = 0 by decide) ?_
      refine hs_iload (i := 3) (p := 58) (by decide +kernel) rfl ?_
      refine hs_k (x := Int32.ofNat 7) (p := 60) (by decide +kernel) ?_
      refine hs_br2n (c := .ne) (t := 70) (f := 63) (by decide +kernel) (by omega) (by omega) (fun (c60 : ¬ m = 7) => ?_) (fun (c60 : ¬ (¬ m = 7)) => ?_)
      · refine hs_iload (i := 3) (p := 71) (by decide +kernel) rfl ?_
        refine hs_k (x := Int32.ofNat 6) (p := 73) (by decide +kernel) ?_
        refine hs_br2n (c := .ne) (t := 83) (f := 76) (by decide +kernel) (by omega) (by omega) (fun (c73 : ¬ m = 6) => ?_) (fun (c73 : ¬ (¬ m = 6)) => ?_)
        · refine hs_iload (i := 3) (p := 84) (by decide +kernel) rfl ?_
          refine hs_aload (i := 0) (p := 85) (by decide +kernel) rfl ?_
          refine hs_iload (i := 1) (p := 86) (by decide +kernel) rfl ?_
          refine ht_callv (T := et_TT) (t := 13) (mi := 224) (na := 1) (ci := 11) (lk := 4) (lm := 2) (L0 := eg_en (eg_mL 224) [.ref am, .int (Int32.ofNat n)]) (by decide +kernel) rfl hH k_am rfl rfl rfl rfl rfl (by rw [show eg_mL 224 = 2 from by decide +kernel]; first | done | rfl) ?_
          refine (fn_wires hH k_am k_aw m1t (by omega) hts.2.1 (by omega)).mono (fun u hu => xp_cb hu ?_)
          show et_go none _ 259 89 _ [.int (Int32.ofNat ((V n).1)), .int (Int32.ofNat m)] _ _ _ _
          refine hs_br2n (c := .ge) (t := 101) (f := 92) (by decide +kernel) (by omega) (by omega) (fun (c89 : (V n).1 ≤ m) => ?_) (fun (c89 : ¬ ((V n).1 ≤ m)) => ?_)
          · refine hs_k (x := Int32.ofNat 0) (p := 102) (by decide +kernel) ?_
            refine hs_iret (by decide +kernel) ?_
            refine ⟨?_, th0⟩
            show (Sum.inl (some (Value.int (Int32.ofNat 0))) : eg_R) = .inl (some (.int (foW (V n) X Y nc k m (some q))))
            rw [foW_2 (by omega) (by omega)]
          · refine hs_aload (i := 0) (p := 93) (by decide +kernel) rfl ?_
            refine hf_get (T := et_TT) (t := 13) (ci := 11) (f := 22) (p := 96) (by decide +kernel) rfl hH k_am m22 ?_
            refine hs_iload (i := 3) (p := 97) (by decide +kernel) rfl ?_
            refine hf_ald (ins := .iaload) (T := et_TT) (t := 50) (kd := 0) (N := 6) (p := 98) (by decide +kernel) (fun _ _ _ _ _ _ _ _ _ _ => rfl) rfl rfl rfl hH k_be (by decide) (rB m (by omega)) ?_
            refine hs_goto (p := 102) (by decide +kernel) ?_
            refine hs_iret (by decide +kernel) ?_
            refine ⟨?_, th0⟩
            show (Sum.inl (some (Value.int (kvT k (V n).1 q.2 m))) : eg_R) = .inl (some (.int (foW (V n) X Y nc k m (some q))))
            rw [foW_1 (by omega) (by omega)]
        · refine hs_aload (i := 0) (p := 77) (by decide +kernel) rfl ?_
          refine hf_get (T := et_TT) (t := 13) (ci := 11) (f := 24) (p := 80) (by decide +kernel) rfl hH k_am r24 ?_
          refine hs_goto (p := 102) (by decide +kernel) ?_
          refine hs_iret (by decide +kernel) ?_
          refine ⟨?_, th0⟩
          show (Sum.inl (some (Value.int (liR nc (gnI (snS k (V n).1 (fun c u => vaI ((V n).2.1 u) ((V n).2.2.1 u) (X c)) q.2) Y nc) (loI (snS k (V n).1 (fun c u => vaI ((V n).2.1 u) ((V n).2.2.1 u) (X c)) q.2) nc)))) : eg_R) = .inl (some (.int (foW (V n) X Y nc k m (some q))))
          rw [foW_6 (Decidable.of_not_not c73), fl_same hk hW hnc]
      · refine hs_aload (i := 0) (p := 64) (by decide +kernel) rfl ?_
        refine hf_get (T := et_TT) (t := 13) (ci := 11) (f := 23) (p := 67) (by decide +kernel) rfl hH k_am r23 ?_
        refine hs_goto (p := 102) (by decide +kernel) ?_
        refine hs_iret (by decide +kernel) ?_
        refine ⟨?_, th0⟩
        show (Sum.inl (some (Value.int (Int32.ofNat q.1))) : eg_R) = .inl (some (.int (foW (V n) X Y nc k m (some q))))
        rw [foW_7 (by omega) (by omega)]
  · exact absurd ⟨by omega, by omega⟩ xz
theorem fn_foundN (hH : et_H et_TT K G) (k_am : K am = some 13) (k_aw : K aw = some 46) (m1 : et_pl (eg_at G am) 1 = some (.ref aw)) (w4 : et_pl (eg_at G aw) 4 = some (.int (Int32.ofNat ec))) (hec : ec ≤ 3) (hm : zyM G aw ec V) (ho : ∀ n, n < 3 → evo (V n)) (hn : n < ec) (hk1 : 1 ≤ k) (hk : k ≤ 3) (hz : ¬ (0 ≤ z.toInt ∧ z.toInt ≤ 7)) (hd : 3 ≤ d2) : et_go none d2 259 0 (eg_en (eg_mL 259) [.ref am, .int (Int32.ofNat n), .int (Int32.ofNat k), .int z]) [] G 0 0 (fun u => u.1 = .inl (some (.int (Int32.ofNat 0))) ∧ et_pl (eg_at u.2.1 am) 0 = some (.int (Int32.ofNat 3))) := by
  obtain ⟨d, rfl⟩ : ∃ d, d2 = d + 3 := ⟨d2 - 3, by omega⟩
  have o0 : (Int32.ofNat 0).toInt = 0 := rfl
  have o7 : (Int32.ofNat 7).toInt = 7 := rfl
  rw [show eg_mL 259 = 4 from by decide +kernel]
  show et_go none (d + 3) 259 0 [some (.ref am), some (.int (Int32.ofNat n)), some (.int (Int32.ofNat k)), some (.int z)] [] G 0 0 _
  have lt_am := (hH.2.2 _ _ k_am).1
  have lt_aw := (hH.2.2 _ _ k_aw).1
  refine hs_aload (i := 0) (p := 1) (by decide +kernel) rfl ?_
  refine hs_k (x := Int32.ofNat 0) (p := 2) (by decide +kernel) ?_
  refine hf_put (T := et_TT) (t := 13) (ci := 11) (f := 0) (p := 5) (ty := .int) (by decide +kernel) rfl rfl rfl rfl rfl hH k_am hi_any (fun G2 hH x2 e2 => ?_)
  have hm := hm.mv ho (fun j _ _ => x2.2 aw j lt_aw (fun h => hi_ne k_aw k_am (by decide) h.1))
  have m1 := (x2.2 am 1 lt_am (fun h => absurd h.2 (by decide))).trans m1
  have w4 := (x2.2 aw 4 lt_aw (fun h => (hi_ne k_aw k_am (by decide)) h.1)).trans w4
  have lt_am := Nat.lt_of_lt_of_le lt_am x2.1
  have lt_aw := Nat.lt_of_lt_of_le lt_aw x2.1
  refine hs_aload (i := 0) (p := 6) (by decide +kernel) rfl ?_
  refine hs_iload (i := 1) (p := 7) (by decide +kernel) rfl ?_
  refine hs_iload (i := 2) (p := 8) (by decide +kernel) rfl ?_
  refine hs_k (x := Int32.ofNat 3) (p := 9) (by decide +kernel) ?_
  refine ht_callv (T := et_TT) (t := 13) (mi := 254) (na := 3) (ci := 11) (lk := 4) (lm := 4) (L0 := eg_en (eg_mL 254) [.ref am, .int (Int32.ofNat n), .int (Int32.ofNat k), .int (Int32.ofNat 3)]) (by decide +kernel) rfl hH k_am rfl rfl rfl rfl rfl (by rw [show eg_mL 254 = 4 from by decide +kernel]; first | done | rfl) ?_
  refine (fn_nsY (q := 3) hH k_am k_aw m1 w4 hec hm ho (by decide) hn hk1 hk (by omega)).mono (fun u hu => xp_cb hu ?_)
  show et_go none _ 259 12 _ [.int (Int32.ofNat 0)] _ _ _ _
  refine hs_if0 (c := .ne) (t := 38) (f := 15) (by decide +kernel) (show ¬ (¬ Int32.ofNat 0 = 0) by decide) ?_
  refine hs_aload (i := 0) (p := 16) (by decide +kernel) rfl ?_
  refine hs_iload (i := 3) (p := 17) (by decide +kernel) rfl ?_
  refine hs_k (x := Int32.ofNat 0) (p := 18) (by decide +kernel) ?_
  refine hs_k (x := Int32.ofNat 7) (p := 20) (by decide +kernel) ?_
  refine hs_calls (mi := 209) (na := 3) (lk := 4) (lm := 3) (L0 := eg_en (eg_mL 209) [.int z, .int (Int32.ofNat 0), .int (Int32.ofNat 7)]) (by decide +kernel) rfl rfl rfl rfl rfl rfl (by rw [show eg_mL 209 = 3 from by decide +kernel]; first | done | rfl) ?_
  refine (fm_in (x := z) (y := Int32.ofNat 0) (z := Int32.ofNat 7)).mono (fun u hu => xp_cb hu ?_)
  by_cases xz : (Int32.ofNat 0).toInt ≤ (z).toInt ∧ (z).toInt ≤ (Int32.ofNat 7).toInt
  · exact absurd ⟨by omega, by omega⟩ hz
  · rw [if_neg xz]
    show et_go none _ 259 23 _ [.int (Int32.ofNat 0), .ref am] _ _ _ _
    refine hs_if0 (c := .ne) (t := 30) (f := 26) (by decide +kernel) (show ¬ (¬ Int32.ofNat 0 = 0) by decide) ?_
    refine hs_k (x := Int32.ofNat 1) (p := 27) (by decide +kernel) ?_
    refine hs_goto (p := 31) (by decide +kernel) ?_
    refine hs_k (x := Int32.ofNat 3) (p := 32) (by decide +kernel) ?_
    refine ht_callv (T := et_TT) (t := 13) (mi := 204) (na := 2) (ci := 11) (lk := 4) (lm := 3) (L0 := eg_en (eg_mL 204) [.ref am, .int (Int32.ofNat 1), .int (Int32.ofNat 3)]) (by decide +kernel) rfl hH k_am rfl rfl rfl rfl rfl (by rw [show eg_mL 204 = 3 from by decide +kernel]; first | done | rfl) ?_
    refine (fm_t1 hH k_am).mono (fun u hu => xw_cb hu (fun G32 v32 hH x32 hP32 => ?_))
    have hm := hm.mv ho (fun j _ _ => x32.2 aw j lt_aw (fun h => hi_ne k_aw k_am (by decide) h.1))
    have m1 := (x32.2 am 1 lt_am (fun h => absurd h.2 (by decide))).trans m1
    have w4 := (x32.2 aw 4 lt_aw (fun h => (hi_ne k_aw k_am (by decide)) h.1)).trans w4
    have lt_am := Nat.lt_of_lt_of_le lt_am x32.1
    have lt_aw := Nat.lt_of_lt_of_le lt_aw x32.1
    obtain ⟨rfl, th32⟩ := hP32
    show et_go none _ 259 35 _ [.int (Int32.ofNat 1)] _ _ _ _
    refine hs_if0 (c := .eq) (t := 40) (f := 38) (by decide +kernel) (show ¬ (Int32.ofNat 1 = 0) by decide) ?_
    refine hs_k (x := Int32.ofNat 0) (p := 39) (by decide +kernel) ?_
    refine hs_iret (by decide +kernel) ?_
    exact ⟨rfl, th32⟩
theorem fn_foundK (hH : et_H et_TT K G) (k_am : K am = some 13) (k_aw : K aw = some 46) (m1 : et_pl (eg_at G am) 1 = some (.ref aw)) (w4 : et_pl (eg_at G aw) 4 = some (.int (Int32.ofNat ec))) (hec : ec ≤ 3) (hm : zyM G aw ec V) (ho : ∀ n, n < 3 → evo (V n)) (hn : n < ec) (hy : ¬ (1 ≤ y.toInt ∧ y.toInt ≤ 3)) (hd : 3 ≤ d2) : et_go none d2 259 0 (eg_en (eg_mL 259) [.ref am, .int (Int32.ofNat n), .int y, .int z]) [] G 0 0 (fun u => u.1 = .inl (some (.int (Int32.ofNat 0))) ∧ et_pl (eg_at u.2.1 am) 0 = some (.int (Int32.ofNat 2))) := by
  obtain ⟨d, rfl⟩ : ∃ d, d2 = d + 3 := ⟨d2 - 3, by omega⟩
  have o0 : (Int32.ofNat 0).toInt = 0 := rfl
  have o7 : (Int32.ofNat 7).toInt = 7 := rfl
  rw [show eg_mL 259 = 4 from by decide +kernel]
  show et_go none (d + 3) 259 0 [some (.ref am), some (.int (Int32.ofNat n)), some (.int y), some (.int z)] [] G 0 0 _
  have lt_am := (hH.2.2 _ _ k_am).1
  have lt_aw := (hH.2.2 _ _ k_aw).1
  refine hs_aload (i := 0) (p := 1) (by decide +kernel) rfl ?_
  refine hs_k (x := Int32.ofNat 0) (p := 2) (by decide +kernel) ?_
  refine hf_put (T := et_TT) (t := 13) (ci := 11) (f := 0) (p := 5) (ty := .int) (by decide +kernel) rfl rfl rfl rfl rfl hH k_am hi_any (fun G2 hH x2 e2 => ?_)
  have hm := hm.mv ho (fun j _ _ => x2.2 aw j lt_aw (fun h => hi_ne k_aw k_am (by decide) h.1))
  have m1 := (x2.2 am 1 lt_am (fun h => absurd h.2 (by decide))).trans m1
  have w4 := (x2.2 aw 4 lt_aw (fun h => (hi_ne k_aw k_am (by decide)) h.1)).trans w4
  have lt_am := Nat.lt_of_lt_of_le lt_am x2.1
  have lt_aw := Nat.lt_of_lt_of_le lt_aw x2.1
  refine hs_aload (i := 0) (p := 6) (by decide +kernel) rfl ?_
  refine hs_iload (i := 1) (p := 7) (by decide +kernel) rfl ?_
  refine hs_iload (i := 2) (p := 8) (by decide +kernel) rfl ?_
  refine hs_k (x := Int32.ofNat 3) (p := 9) (by decide +kernel) ?_
  refine ht_callv (T := et_TT) (t := 13) (mi := 254) (na := 3) (ci := 11) (lk := 4) (lm := 4) (L0 := eg_en (eg_mL 254) [.ref am, .int (Int32.ofNat n), .int y, .int (Int32.ofNat 3)]) (by decide +kernel) rfl hH k_am rfl rfl rfl rfl rfl (by rw [show eg_mL 254 = 4 from by decide +kernel]; first | done | rfl) ?_
  refine (fn_nsK (q := 3) hH k_am k_aw m1 w4 hec hm ho (by decide) hn hy (by omega)).mono (fun u hu => xw_cb hu (fun G9 v9 hH x9 hP9 => ?_))
  have hm := hm.mv ho (fun j _ _ => x9.2 aw j lt_aw (fun h => hi_ne k_aw k_am (by decide) h.1))
  have m1 := (x9.2 am 1 lt_am (fun h => absurd h.2 (by decide))).trans m1
  have w4 := (x9.2 aw 4 lt_aw (fun h => (hi_ne k_aw k_am (by decide)) h.1)).trans w4
  have lt_am := Nat.lt_of_lt_of_le lt_am x9.1
  have lt_aw := Nat.lt_of_lt_of_le lt_aw x9.1
  obtain ⟨rfl, th9⟩ := hP9
  show et_go none _ 259 12 _ [.int (Int32.ofNat 1)] _ _ _ _
  refine hs_if1 (c := .ne) (t := 38) (f := 15) (by decide +kernel) (show ¬ Int32.ofNat 1 = 0 by decide) ?_
  refine hs_k (x := Int32.ofNat 0) (p := 39) (by decide +kernel) ?_
  refine hs_iret (by decide +kernel) ?_
  exact ⟨rfl, th9⟩
theorem fn_foundE (hH : et_H et_TT K G) (k_am : K am = some 13) (k_aw : K aw = some 46) (m1 : et_pl (eg_at G am) 1 = some (.ref aw)) (w4 : et_pl (eg_at G aw) 4 = some (.int (Int32.ofNat ec))) (hec : ec ≤ 3) (hm : zyM G aw ec V) (ho : ∀ n, n < 3 → evo (V n)) (hx : ¬ xr x ec) (hd : 3 ≤ d2) : et_go none d2 259 0 (eg_en (eg_mL 259) [.ref am, .int x, .int y, .int z]) [] G 0 0 (fun u => u.1 = .inl (some (.int (Int32.ofNat 0))) ∧ et_pl (eg_at u.2.1 am) 0 = some (.int (Int32.ofNat 1))) := by
  obtain ⟨d, rfl⟩ : ∃ d, d2 = d + 3 := ⟨d2 - 3, by omega⟩
  have o0 : (Int32.ofNat 0).toInt = 0 := rfl
  have o7 : (Int32.ofNat 7).toInt = 7 := rfl
  rw [show eg_mL 259 = 4 from by decide +kernel]
  show et_go none (d + 3) 259 0 [some (.ref am), some (.int x), some (.int y), some (.int z)] [] G 0 0 _
  have lt_am := (hH.2.2 _ _ k_am).1
  have lt_aw := (hH.2.2 _ _ k_aw).1
  refine hs_aload (i := 0) (p := 1) (by decide +kernel) rfl ?_
  refine hs_k (x := Int32.ofNat 0) (p := 2) (by decide +kernel) ?_
  refine hf_put (T := et_TT) (t := 13) (ci := 11) (f := 0) (p := 5) (ty := .int) (by decide +kernel) rfl rfl rfl rfl rfl hH k_am hi_any (fun G2 hH x2 e2 => ?_)
  have hm := hm.mv ho (fun j _ _ => x2.2 aw j lt_aw (fun h => hi_ne k_aw k_am (by decide) h.1))
  have m1 := (x2.2 am 1 lt_am (fun h => absurd h.2 (by decide))).trans m1
  have w4 := (x2.2 aw 4 lt_aw (fun h => (hi_ne k_aw k_am (by decide)) h.1)).trans w4
  have lt_am := Nat.lt_of_lt_of_le lt_am x2.1
  have lt_aw := Nat.lt_of_lt_of_le lt_aw x2.1
  refine hs_aload (i := 0) (p := 6) (by decide +kernel) rfl ?_
  refine hs_iload (i := 1) (p := 7) (by decide +kernel) rfl ?_
  refine hs_iload (i := 2) (p := 8) (by decide +kernel) rfl ?_
  refine hs_k (x := Int32.ofNat 3) (p := 9) (by decide +kernel) ?_
  refine ht_callv (T := et_TT) (t := 13) (mi := 254) (na := 3) (ci := 11) (lk := 4) (lm := 4) (L0 := eg_en (eg_mL 254) [.ref am, .int x, .int y, .int (Int32.ofNat 3)]) (by decide +kernel) rfl hH k_am rfl rfl rfl rfl rfl (by rw [show eg_mL 254 = 4 from by decide +kernel]; first | done | rfl) ?_
  refine (fn_nsE (q := 3) (y := y) hH k_am k_aw m1 w4 hec hm ho (by decide) hx (by omega)).mono (fun u hu => xw_cb hu (fun G9 v9 hH x9 hP9 => ?_))
  have hm := hm.mv ho (fun j _ _ => x9.2 aw j lt_aw (fun h => hi_ne k_aw k_am (by decide) h.1))
  have m1 := (x9.2 am 1 lt_am (fun h => absurd h.2 (by decide))).trans m1
  have w4 := (x9.2 aw 4 lt_aw (fun h => (hi_ne k_aw k_am (by decide)) h.1)).trans w4
  have lt_am := Nat.lt_of_lt_of_le lt_am x9.1
  have lt_aw := Nat.lt_of_lt_of_le lt_aw x9.1
  obtain ⟨rfl, th9⟩ := hP9
  show et_go none _ 259 12 _ [.int (Int32.ofNat 1)] _ _ _ _
  refine hs_if1 (c := .ne) (t := 38) (f := 15) (by decide +kernel) (show ¬ Int32.ofNat 1 = 0 by decide) ?_
  refine hs_k (x := Int32.ofNat 0) (p := 39) (by decide +kernel) ?_
  refine hs_iret (by decide +kernel) ?_
  exact ⟨rfl, th9⟩
theorem gz_found (hH : et_H et_TT K G) (k_am : K am = some 13) (k_aw : K aw = some 46) (m1 : et_pl (eg_at G am) 1 = some (.ref aw)) (w4 : et_pl (eg_at G aw) 4 = some (.int (Int32.ofNat ec))) (hec : ec ≤ 3) (hm : zyM G aw ec V) (ho : ∀ n, n < 3 → evo (V n)) (w3 : et_pl (eg_at G aw) 3 = some (.int (Int32.ofNat nc))) (hnc : nc ≤ 20) (hcr : crP G aw nc X Y) (hd : 8 ≤ d2) : et_go none d2 259 0 (eg_en (eg_mL 259) [.ref am, .int x, .int y, .int z]) [] G 0 0 (fun u => (¬ xr x ec ∧ u.1 = .inl (some (.int (Int32.ofNat 0))) ∧ et_pl (eg_at u.2.1 am) 0 = some (.int (Int32.ofNat 1))) ∨ ∃ n, (x = Int32.ofNat n ∧ n < ec) ∧ ((¬ (1 ≤ y.toInt ∧ y.toInt ≤ 3) ∧ u.1 = .inl (some (.int (Int32.ofNat 0))) ∧ et_pl (eg_at u.2.1 am) 0 = some (.int (Int32.ofNat 2))) ∨ ∃ k, (y = Int32.ofNat k ∧ 1 ≤ k ∧ k ≤ 3) ∧ ((¬ (0 ≤ z.toInt ∧ z.toInt ≤ 7) ∧ u.1 = .inl (some (.int (Int32.ofNat 0))) ∧ et_pl (eg_at u.2.1 am) 0 = some (.int (Int32.ofNat 3))) ∨ ∃ m, (z = Int32.ofNat m ∧ m ≤ 7) ∧ u.1 = .inl (some (.int (foW (V n) X Y nc k m (foA (V n).1 (V n).2.1 (V n).2.2.1 X Y nc k)))) ∧ et_pl (eg_at u.2.1 am) 0 = some (.int (Int32.ofNat 0))))) := by
  by_cases hx : xr x ec
  · obtain ⟨n, rfl, hn⟩ := xr_nat hx (by omega)
    by_cases hs3 : (1 ≤ y.toInt ∧ y.toInt ≤ 3)
    · obtain ⟨k, rfl, q2, q3⟩ := hs_toN (x := y) (by omega)
      by_cases hs4 : (0 ≤ z.toInt ∧ z.toInt ≤ 7)
      · obtain ⟨m, rfl, p2, p3⟩ := hs_toN (x := z) (by omega)
        exact (fn_found hH k_am k_aw m1 w4 hec hm ho w3 hnc hcr hn (by omega) (by omega) (by omega) hd).mono (fun u hu => .inr ⟨n, ⟨rfl, hn⟩, .inr ⟨k, ⟨rfl, by omega, by omega⟩, .inr ⟨m, ⟨rfl, by omega⟩, hu.1, hu.2⟩⟩⟩)
      · exact (fn_foundN hH k_am k_aw m1 w4 hec hm ho hn (by omega) (by omega) hs4 (by omega)).mono (fun u hu => .inr ⟨n, ⟨rfl, hn⟩, .inr ⟨k, ⟨rfl, by omega, by omega⟩, .inl ⟨hs4, hu.1, hu.2⟩⟩⟩)
    · exact (fn_foundK hH k_am k_aw m1 w4 hec hm ho hn hs3 (by omega)).mono (fun u hu => .inr ⟨n, ⟨rfl, hn⟩, .inl ⟨hs3, hu.1, hu.2⟩⟩)
  · exact (fn_foundE hH k_am k_aw m1 w4 hec hm ho hx (by omega)).mono (fun u hu => .inl ⟨hx, hu.1, hu.2⟩)
end ZYB
end
