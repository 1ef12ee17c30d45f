/-! PHASE D: soonest, the class -/
section YSA
variable {K : et_K} {G : eg_G} {d d2 th s0 s1 ya yb ec nc la ly out e ca ki kn am aw n m k c q a b : Nat} {O : Nat → Nat} {A : Nat → Nat → Nat} {v : evT} {V : Nat → evT} {X : Nat → Int32} {Y : Nat → Nat} {x y z : Int32} {sp pa pi pn fo tn od row p tm F ta tc : Nat} {ls : List sp_L} {σ : Nat → Nat} {N : Nat → Int32} {l s : Int32} {G0 : eg_G}
theorem fd_tJ {x7 : Option Value} (k_th : K th = some 12) (k_s0 : K s0 = some 10) (k_sp : K sp = some 3) (k_pa : K pa = some 15) (k_pi : K pi = some 15) (k_pn : K pn = some 15) (k_la : K la = some 17) (k_ly : K ly = some 27) (k_od : K od = some 32) (k_fo : K fo = some 4) (hY1 : ∀ c, c < nc → Y c ≤ 1) (hnc : nc ≤ 20) (hn5 : n ≤ 5) (hnn : n ≤ nc) (hF : F ≤ 51) (hcl : ∀ l ∈ ls, lcl1 l) (t2 : evK K sp pa pi pn v.1 v.2.2.1) (hd9 : ¬ pn = pa ∧ ¬ pn = pi) (hσ : ∀ q, q < n → σ q < nc) (hH : et_H et_TT K G) (h0 : et_pl (eg_at G th) 0 = some (.ref s0)) (h4 : et_pl (eg_at G th) 4 = some (.ref fo)) (h8 : et_pl (eg_at G th) 8 = some (.ref sp)) (h9 : et_pl (eg_at G th) 9 = some (.ref od)) (h10 : et_pl (eg_at G th) 10 = some (.int (Int32.ofNat F))) (g2 : et_pl (eg_at G s0) 2 = some (.int (Int32.ofNat nc))) (g3 : et_pl (eg_at G s0) 3 = some (.ref la)) (g4 : et_pl (eg_at G s0) 4 = some (.ref ly)) (hXc : ∀ c, c < nc → et_pl (eg_at G la) c = some (.int (X c))) (hYc : ∀ c, c < nc → et_pl (eg_at G ly) c = some (.int (Int32.ofNat (Y c)))) (hod : ∀ q, q < n → et_pl (eg_at G od) q = some (.int (Int32.ofNat (σ q)))) (zv : evC G sp pa pi pn v.1 v.2.1 v.2.2.1 N l s v.2.2.2.2.2.2.1 v.2.2.2.2.2.2.2) (ht : tuC K G tn ls) (hS : soS v X Y ls σ n k = (N, l, s)) (hkp : k = tm * n + p) (htm : tm < 10) (hp : p ≤ n) (hX : xf (fun b j => (b = sp ∧ j = 0) ∨ (b = sp ∧ (4 ≤ j ∧ j ≤ 7)) ∨ (b = pa ∧ (0 ≤ j ∧ j ≤ 5)) ∨ (b = pi ∧ (0 ≤ j ∧ j ≤ 5)) ∨ (b = pn ∧ (0 ≤ j ∧ j ≤ 5)) ∨ (b = fo ∧ (1 ≤ j ∧ j ≤ 6)) ∨ (b = th ∧ j = 10)) G0 G) : et_go none (d + 21) 169 24 [some (.ref th), some (.ref e), some (.ref tn), some (.int (Int32.ofNat n)), some (.int (Int32.ofNat k)), some (.int (Int32.ofNat tm)), some (.int (Int32.ofNat p)), x7] [] G 0 0 (xw_Z (fun b j => (b = sp ∧ j = 0) ∨ (b = sp ∧ (4 ≤ j ∧ j ≤ 7)) ∨ (b = pa ∧ (0 ≤ j ∧ j ≤ 5)) ∨ (b = pi ∧ (0 ≤ j ∧ j ≤ 5)) ∨ (b = pn ∧ (0 ≤ j ∧ j ≤ 5)) ∨ (b = fo ∧ (1 ≤ j ∧ j ≤ 6)) ∨ (b = th ∧ j = 10)) K G0 (fun g r => r = none ∧ et_pl (eg_at g th) 10 = some (.int (Int32.ofNat (min F (soL (soR v X Y ls n σ) (10 * n - k) k)))))) := by
  have k_tn := ht.kt
  induction hq9 : (10 - tm) * 6 + (5 - p) using Nat.strongRecOn generalizing k tm p x7 G N l s with
  | _ q9 ih =>
    have hT9 : tm * n ≤ 9 * n := Nat.mul_le_mul_right n (by omega)
    have hk50 : k ≤ 10 * n := by omega
    have lt_th := (hH.2.2 _ _ k_th).1
    have lt_s0 := (hH.2.2 _ _ k_s0).1
    have lt_sp := (hH.2.2 _ _ k_sp).1
    have lt_pa := (hH.2.2 _ _ k_pa).1
    have lt_pi := (hH.2.2 _ _ k_pi).1
    have lt_pn := (hH.2.2 _ _ k_pn).1
    have lt_la := (hH.2.2 _ _ k_la).1
    have lt_ly := (hH.2.2 _ _ k_ly).1
    have lt_od := (hH.2.2 _ _ k_od).1
    have lt_fo := (hH.2.2 _ _ k_fo).1
    have lt_tn := (hH.2.2 _ _ k_tn).1
    refine hs_iload (i := 6) (p := 26) (by decide +kernel) rfl ?_
    refine hs_iload (i := 3) (p := 27) (by decide +kernel) rfl ?_
    refine hs_br2n (c := .ge) (t := 136) (f := 30) (by decide +kernel) (by omega) (by omega) (fun (c27 : n ≤ p) => ?_) (fun (c27 : ¬ (n ≤ p)) => ?_)
    · refine hs_iinc1 (i := 5) (p := 139) (by decide +kernel) rfl (Nat.le_of_ble_eq_true rfl) ?_
      refine hs_goto (p := 14) (by decide +kernel) ?_
      refine hs_iload (i := 5) (p := 16) (by decide +kernel) rfl ?_
      refine hs_k (x := Int32.ofNat 10) (p := 18) (by decide +kernel) ?_
      refine hs_br2n (c := .ge) (t := 142) (f := 21) (by decide +kernel) (by omega) (by omega) (fun (c18 : 10 ≤ (tm + 1)) => ?_) (fun (c18 : ¬ (10 ≤ (tm + 1))) => ?_)
      · refine hs_aload (i := 0) (p := 143) (by decide +kernel) rfl ?_
        refine hf_get (T := et_TT) (t := 12) (ci := 10) (f := 0) (p := 146) (by decide +kernel) rfl hH k_th h0 ?_
        refine hs_aload (i := 0) (p := 147) (by decide +kernel) rfl ?_
        refine hf_get (T := et_TT) (t := 12) (ci := 10) (f := 8) (p := 150) (by decide +kernel) rfl hH k_th h8 ?_
        refine hs_iload (i := 3) (p := 151) (by decide +kernel) rfl ?_
        refine ht_callv (T := et_TT) (t := 10) (mi := 111) (na := 2) (ci := 8) (lk := 8) (lm := 4) (L0 := eg_en (eg_mL 111) [.ref s0, .ref sp, .int (Int32.ofNat n)]) (by decide +kernel) rfl hH k_s0 rfl rfl rfl rfl rfl (by rw [show eg_mL 111 = 4 from by decide +kernel]; first | done | rfl) ?_
        refine (fd_rof (v := vNs v (N, l, s)) hH k_s0 k_sp t2 zv g2 hnc g3 g4 k_la k_ly hXc hYc hY1 hnn (by omega)).mono (fun u hu => xp_cb hu ?_)
        by_cases qr : roB (vNs v (N, l, s)) X Y n = true
        · rw [if_pos qr]
          show et_go none _ 169 154 _ [.int (Int32.ofNat 1)] _ _ _ _
          refine hs_if0 (c := .eq) (t := 170) (f := 157) (by decide +kernel) (show ¬ (Int32.ofNat 1 = 0) by decide) ?_
          refine hs_aload (i := 0) (p := 158) (by decide +kernel) rfl ?_
          refine hs_aload (i := 0) (p := 159) (by decide +kernel) rfl ?_
          refine hf_get (T := et_TT) (t := 12) (ci := 10) (f := 10) (p := 162) (by decide +kernel) rfl hH k_th h10 ?_
          refine hs_iload (i := 4) (p := 164) (by decide +kernel) rfl ?_
          refine hs_math (mi := 311) (lk := 8) (p := 167) (by decide +kernel) rfl rfl rfl rfl ?_
          rw [mn_I (by omega) (by omega)]
          have hHo := hH
          refine hf_put (T := et_TT) (t := 12) (ci := 10) (f := 10) (p := 170) (ty := .int) (by decide +kernel) rfl rfl rfl rfl rfl hH k_th hi_any (fun G167 hH x167 e167 => ?_)
          have hXc : ∀ c, c < nc → et_pl (eg_at G167 la) c = some (.int (X c)) := fun c hc => (x167.2 la c lt_la (fun h => (hi_ne k_la k_th (by decide)) h.1)).trans (hXc c hc)
          have hYc : ∀ c, c < nc → et_pl (eg_at G167 ly) c = some (.int (Int32.ofNat (Y c))) := fun c hc => (x167.2 ly c lt_ly (fun h => (hi_ne k_ly k_th (by decide)) h.1)).trans (hYc c hc)
          have hod : ∀ q, q < n → et_pl (eg_at G167 od) q = some (.int (Int32.ofNat (σ q))) := fun q hq => (x167.2 od q lt_od (fun h => (hi_ne k_od k_th (by decide)) h.1)).trans (hod q hq)
          have h0 := (x167.2 th 0 lt_th (fun h => absurd h.2 (by decide))).trans h0
          have h4 := (x167.2 th 4 lt_th (fun h => absurd h.2 (by decide))).trans h4
          have h8 := (x167.2 th 8 lt_th (fun h => absurd h.2 (by decide))).trans h8
          have h9 := (x167.2 th 9 lt_th (fun h => absurd h.2 (by decide))).trans h9
          have g2 := (x167.2 s0 2 lt_s0 (fun h => (hi_ne k_s0 k_th (by decide)) h.1)).trans g2
          have g3 := (x167.2 s0 3 lt_s0 (fun h => (hi_ne k_s0 k_th (by decide)) h.1)).trans g3
          have g4 := (x167.2 s0 4 lt_s0 (fun h => (hi_ne k_s0 k_th (by decide)) h.1)).trans g4
          have lt_th := Nat.lt_of_lt_of_le lt_th x167.1
          have lt_s0 := Nat.lt_of_lt_of_le lt_s0 x167.1
          have lt_sp := Nat.lt_of_lt_of_le lt_sp x167.1
          have lt_pa := Nat.lt_of_lt_of_le lt_pa x167.1
          have lt_pi := Nat.lt_of_lt_of_le lt_pi x167.1
          have lt_pn := Nat.lt_of_lt_of_le lt_pn x167.1
          have lt_la := Nat.lt_of_lt_of_le lt_la x167.1
          have lt_ly := Nat.lt_of_lt_of_le lt_ly x167.1
          have lt_od := Nat.lt_of_lt_of_le lt_od x167.1
          have lt_fo := Nat.lt_of_lt_of_le lt_fo x167.1
          have lt_tn := Nat.lt_of_lt_of_le lt_tn x167.1
          have hX := hX.tr x167 (fun b j hb h => by first | omega | (dsimp only at h ⊢; omega) | (dsimp only at h; omega) | (dsimp only; omega))
          refine hs_vret (by decide +kernel) ?_
          have qr2 : soR v X Y ls n σ k = true := by unfold soR; rw [hS]; exact qr
          have e9 : min F k = (min F (soL (soR v X Y ls n σ) (10 * n - k) k)) := by rw [soL_y qr2]
          exact ⟨_, _, rfl, hH, hX, rfl, by rw [← e9]; exact e167⟩
        · rw [if_neg qr]
          show et_go none _ 169 154 _ [.int (Int32.ofNat 0)] _ _ _ _
          refine hs_if1 (c := .eq) (t := 170) (f := 157) (by decide +kernel) (show Int32.ofNat 0 = 0 by decide) ?_
          refine hs_vret (by decide +kernel) ?_
          have qr2 : ¬ soR v X Y ls n σ k = true := by unfold soR; rw [hS]; exact qr
          obtain rfl : tm = 9 := by omega
          have e9 : (min F (soL (soR v X Y ls n σ) (10 * n - k) k)) = F := by rw [show 10 * n - k = 0 by omega, soL_0 qr2]; omega
          exact ⟨_, _, rfl, hH, hX, rfl, by rw [e9]; exact h10⟩
      · refine hs_k (x := Int32.ofNat 0) (p := 22) (by decide +kernel) ?_
        refine hs_istore (i := 6) (p := 24) (by decide +kernel) (Nat.le_of_ble_eq_true rfl) ?_
        have hT : tm * n + n = (tm + 1) * n := (Nat.succ_mul tm n).symm
        exact ih ((10 - (tm + 1)) * 6 + (5 - 0)) (by omega) hH h0 h4 h8 h9 h10 g2 g3 g4 hXc hYc hod zv ht hS (by omega) (by omega) (Nat.zero_le _) hX rfl
    · have hσp := hσ p (by omega)
      refine hs_iload (i := 4) (p := 32) (by decide +kernel) rfl ?_
      refine hs_aload (i := 0) (p := 33) (by decide +kernel) rfl ?_
      refine hf_get (T := et_TT) (t := 12) (ci := 10) (f := 10) (p := 36) (by decide +kernel) rfl hH k_th h10 ?_
      refine hs_br2n (c := .ge) (t := 54) (f := 39) (by decide +kernel) (by omega) (by omega) (fun (c36 : F ≤ k) => ?_) (fun (c36 : ¬ (F ≤ k)) => ?_)
      · refine hs_aload (i := 0) (p := 55) (by decide +kernel) rfl ?_
        refine hs_aload (i := 0) (p := 56) (by decide +kernel) rfl ?_
        refine hf_get (T := et_TT) (t := 12) (ci := 10) (f := 10) (p := 59) (by decide +kernel) rfl hH k_th h10 ?_
        refine hs_iload (i := 4) (p := 61) (by decide +kernel) rfl ?_
        refine hs_math (mi := 311) (lk := 8) (p := 64) (by decide +kernel) rfl rfl rfl rfl ?_
        rw [mn_I (by omega) (by omega)]
        have hHo := hH
        refine hf_put (T := et_TT) (t := 12) (ci := 10) (f := 10) (p := 67) (ty := .int) (by decide +kernel) rfl rfl rfl rfl rfl hH k_th hi_any (fun G64 hH x64 e64 => ?_)
        have hXc : ∀ c, c < nc → et_pl (eg_at G64 la) c = some (.int (X c)) := fun c hc => (x64.2 la c lt_la (fun h => (hi_ne k_la k_th (by decide)) h.1)).trans (hXc c hc)
        have hYc : ∀ c, c < nc → et_pl (eg_at G64 ly) c = some (.int (Int32.ofNat (Y c))) := fun c hc => (x64.2 ly c lt_ly (fun h => (hi_ne k_ly k_th (by decide)) h.1)).trans (hYc c hc)
        have hod : ∀ q, q < n → et_pl (eg_at G64 od) q = some (.int (Int32.ofNat (σ q))) := fun q hq => (x64.2 od q lt_od (fun h => (hi_ne k_od k_th (by decide)) h.1)).trans (hod q hq)
        have h0 := (x64.2 th 0 lt_th (fun h => absurd h.2 (by decide))).trans h0
        have h4 := (x64.2 th 4 lt_th (fun h => absurd h.2 (by decide))).trans h4
        have h8 := (x64.2 th 8 lt_th (fun h => absurd h.2 (by decide))).trans h8
        have h9 := (x64.2 th 9 lt_th (fun h => absurd h.2 (by decide))).trans h9
        have g2 := (x64.2 s0 2 lt_s0 (fun h => (hi_ne k_s0 k_th (by decide)) h.1)).trans g2
        have g3 := (x64.2 s0 3 lt_s0 (fun h => (hi_ne k_s0 k_th (by decide)) h.1)).trans g3
        have g4 := (x64.2 s0 4 lt_s0 (fun h => (hi_ne k_s0 k_th (by decide)) h.1)).trans g4
        have lt_th := Nat.lt_of_lt_of_le lt_th x64.1
        have lt_s0 := Nat.lt_of_lt_of_le lt_s0 x64.1
        have lt_sp := Nat.lt_of_lt_of_le lt_sp x64.1
        have lt_pa := Nat.lt_of_lt_of_le lt_pa x64.1
        have lt_pi := Nat.lt_of_lt_of_le lt_pi x64.1
        have lt_pn := Nat.lt_of_lt_of_le lt_pn x64.1
        have lt_la := Nat.lt_of_lt_of_le lt_la x64.1
        have lt_ly := Nat.lt_of_lt_of_le lt_ly x64.1
        have lt_od := Nat.lt_of_lt_of_le lt_od x64.1
        have lt_fo := Nat.lt_of_lt_of_le lt_fo x64.1
        have lt_tn := Nat.lt_of_lt_of_le lt_tn x64.1
        have hX := hX.tr x64 (fun b j hb h => by first | omega | (dsimp only at h ⊢; omega) | (dsimp only at h; omega) | (dsimp only; omega))
        refine hs_vret (by decide +kernel) ?_
        have hge := soL_ge (r := (soR v X Y ls n σ)) (10 * n - k) k (by omega)
        have e9 : min F k = (min F (soL (soR v X Y ls n σ) (10 * n - k) k)) := by omega
        exact ⟨_, _, rfl, hH, hX, rfl, by rw [← e9]; exact e64⟩
      · refine hs_aload (i := 0) (p := 40) (by decide +kernel) rfl ?_
        refine hf_get (T := et_TT) (t := 12) (ci := 10) (f := 0) (p := 43) (by decide +kernel) rfl hH k_th h0 ?_
        refine hs_aload (i := 0) (p := 44) (by decide +kernel) rfl ?_
        refine hf_get (T := et_TT) (t := 12) (ci := 10) (f := 8) (p := 47) (by decide +kernel) rfl hH k_th h8 ?_
        refine hs_iload (i := 3) (p := 48) (by decide +kernel) rfl ?_
        refine ht_callv (T := et_TT) (t := 10) (mi := 111) (na := 2) (ci := 8) (lk := 8) (lm := 4) (L0 := eg_en (eg_mL 111) [.ref s0, .ref sp, .int (Int32.ofNat n)]) (by decide +kernel) rfl hH k_s0 rfl rfl rfl rfl rfl (by rw [show eg_mL 111 = 4 from by decide +kernel]; first | done | rfl) ?_
        refine (fd_rof (v := vNs v (N, l, s)) hH k_s0 k_sp t2 zv g2 hnc g3 g4 k_la k_ly hXc hYc hY1 hnn (by omega)).mono (fun u hu => xp_cb hu ?_)
        by_cases qr : roB (vNs v (N, l, s)) X Y n = true
        · rw [if_pos qr]
          show et_go none _ 169 51 _ [.int (Int32.ofNat 1)] _ _ _ _
          refine hs_if0 (c := .eq) (t := 68) (f := 54) (by decide +kernel) (show ¬ (Int32.ofNat 1 = 0) by decide) ?_
          refine hs_aload (i := 0) (p := 55) (by decide +kernel) rfl ?_
          refine hs_aload (i := 0) (p := 56) (by decide +kernel) rfl ?_
          refine hf_get (T := et_TT) (t := 12) (ci := 10) (f := 10) (p := 59) (by decide +kernel) rfl hH k_th h10 ?_
          refine hs_iload (i := 4) (p := 61) (by decide +kernel) rfl ?_
          refine hs_math (mi := 311) (lk := 8) (p := 64) (by decide +kernel) rfl rfl rfl rfl ?_
          rw [mn_I (by omega) (by omega)]
          have hHo := hH
          refine hf_put (T := et_TT) (t := 12) (ci := 10) (f := 10) (p := 67) (ty := .int) (by decide +kernel) rfl rfl rfl rfl rfl hH k_th hi_any (fun G64 hH x64 e64 => ?_)
          have hXc : ∀ c, c < nc → et_pl (eg_at G64 la) c = some (.int (X c)) := fun c hc => (x64.2 la c lt_la (fun h => (hi_ne k_la k_th (by decide)) h.1)).trans (hXc c hc)
          have hYc : ∀ c, c < nc → et_pl (eg_at G64 ly) c = some (.int (Int32.ofNat (Y c))) := fun c hc => (x64.2 ly c lt_ly (fun h => (hi_ne k_ly k_th (by decide)) h.1)).trans (hYc c hc)
          have hod : ∀ q, q < n → et_pl (eg_at G64 od) q = some (.int (Int32.ofNat (σ q))) := fun q hq => (x64.2 od q lt_od (fun h => (hi_ne k_od k_th (by decide)) h.1)).trans (hod q hq)
          have h0 := (x64.2 th 0 lt_th (fun h => absurd h.2 (by decide))).trans h0
          have h4 := (x64.2 th 4 lt_th (fun h => absurd h.2 (by decide))).trans h4
          have h8 := (x64.2 th 8 lt_th (fun h => absurd h.2 (by decide))).trans h8
          have h9 := (x64.2 th 9 lt_th (fun h => absurd h.2 (by decide))).trans h9
          have g2 := (x64.2 s0 2 lt_s0 (fun h => (hi_ne k_s0 k_th (by decide)) h.1)).trans g2
          have g3 := (x64.2 s0 3 lt_s0 (fun h => (hi_ne k_s0 k_th (by decide)) h.1)).trans g3
          have g4 := (x64.2 s0 4 lt_s0 (fun h => (hi_ne k_s0 k_th (by decide)) h.1)).trans g4
          have lt_th := Nat.lt_of_lt_of_le lt_th x64.1
          have lt_s0 := Nat.lt_of_lt_of_le lt_s0 x64.1
          have lt_sp := Nat.lt_of_lt_of_le lt_sp x64.1
          have lt_pa := Nat.lt_of_lt_of_le lt_pa x64.1
          have lt_pi := Nat.lt_of_lt_of_le lt_pi x64.1
          have lt_pn := Nat.lt_of_lt_of_le lt_pn x64.1
          have lt_la := Nat.lt_of_lt_of_le lt_la x64.1
          have lt_ly := Nat.lt_of_lt_of_le lt_ly x64.1
          have lt_od := Nat.lt_of_lt_of_le lt_od x64.1
          have lt_fo := Nat.lt_of_lt_of_le lt_fo x64.1
          have lt_tn := Nat.lt_of_lt_of_le lt_tn x64.1
          have hX := hX.tr x64 (fun b j hb h => by first | omega | (dsimp only at h ⊢; omega) | (dsimp only at h; omega) | (dsimp only; omega))
          refine hs_vret (by decide +kernel) ?_
          have qr2 : soR v X Y ls n σ k = true := by unfold soR; rw [hS]; exact qr
          have e9 : min F k = (min F (soL (soR v X Y ls n σ) (10 * n - k) k)) := by rw [soL_y qr2]
          exact ⟨_, _, rfl, hH, hX, rfl, by rw [← e9]; exact e64⟩
        · rw [if_neg qr]
          show et_go none _ 169 51 _ [.int (Int32.ofNat 0)] _ _ _ _
          refine hs_if1 (c := .eq) (t := 68) (f := 54) (by decide +kernel) (show Int32.ofNat 0 = 0 by decide) ?_
          refine hs_aload (i := 0) (p := 69) (by decide +kernel) rfl ?_
          refine hf_get (T := et_TT) (t := 12) (ci := 10) (f := 9) (p := 72) (by decide +kernel) rfl hH k_th h9 ?_
          refine hs_iload (i := 6) (p := 74) (by decide +kernel) rfl ?_
          refine hf_ald (ins := .iaload) (T := et_TT) (t := 32) (kd := 0) (N := 5) (p := 75) (by decide +kernel) (fun _ _ _ _ _ _ _ _ _ _ => rfl) rfl rfl rfl hH k_od (by decide) (hod p (by omega)) ?_
          refine hs_istore (i := 7) (p := 77) (by decide +kernel) (Nat.le_of_ble_eq_true rfl) ?_
          refine hs_iload (i := 7) (p := 79) (by decide +kernel) rfl ?_
          refine hs_if0 (c := .lt) (t := 127) (f := 82) (by decide +kernel) (rs_nn (by omega)) ?_
          refine hs_iload (i := 7) (p := 84) (by decide +kernel) rfl ?_
          refine hs_aload (i := 0) (p := 85) (by decide +kernel) rfl ?_
          refine hf_get (T := et_TT) (t := 12) (ci := 10) (f := 0) (p := 88) (by decide +kernel) rfl hH k_th h0 ?_
          refine hf_get (T := et_TT) (t := 10) (ci := 8) (f := 2) (p := 91) (by decide +kernel) rfl hH k_s0 g2 ?_
          refine hs_br2n (c := .ge) (t := 127) (f := 94) (by decide +kernel) (by omega) (by omega) (fun (c91 : nc ≤ (σ p)) => ?_) (fun (c91 : ¬ (nc ≤ (σ p))) => ?_)
          · exact absurd hσp (Nat.not_lt.mpr c91)
          · refine hs_aload (i := 0) (p := 95) (by decide +kernel) rfl ?_
            refine hf_get (T := et_TT) (t := 12) (ci := 10) (f := 8) (p := 98) (by decide +kernel) rfl hH k_th h8 ?_
            refine hs_aload (i := 0) (p := 99) (by decide +kernel) rfl ?_
            refine hf_get (T := et_TT) (t := 12) (ci := 10) (f := 0) (p := 102) (by decide +kernel) rfl hH k_th h0 ?_
            refine hf_get (T := et_TT) (t := 10) (ci := 8) (f := 3) (p := 105) (by decide +kernel) rfl hH k_s0 g3 ?_
            refine hs_iload (i := 7) (p := 107) (by decide +kernel) rfl ?_
            refine hf_ald (ins := .iaload) (T := et_TT) (t := 17) (kd := 0) (N := 20) (p := 108) (by decide +kernel) (fun _ _ _ _ _ _ _ _ _ _ => rfl) rfl rfl rfl hH k_la (by decide) (hXc (σ p) hσp) ?_
            refine hs_aload (i := 0) (p := 109) (by decide +kernel) rfl ?_
            refine hf_get (T := et_TT) (t := 12) (ci := 10) (f := 0) (p := 112) (by decide +kernel) rfl hH k_th h0 ?_
            refine hf_get (T := et_TT) (t := 10) (ci := 8) (f := 4) (p := 115) (by decide +kernel) rfl hH k_s0 g4 ?_
            refine hs_iload (i := 7) (p := 117) (by decide +kernel) rfl ?_
            refine hf_ald (ins := .baload) (T := et_TT) (t := 27) (kd := 3) (N := 20) (p := 118) (by decide +kernel) (fun _ _ _ _ _ _ _ _ _ _ => rfl) rfl rfl rfl hH k_ly (by decide) (show et_pl _ _ = some (.int (Int32.ofNat (if yB (Y (σ p)) = true then 1 else 0))) from by rw [yB_e (hY1 _ hσp)]; exact hYc _ hσp) ?_
            refine hs_aload (i := 2) (p := 119) (by decide +kernel) rfl ?_
            refine hs_aload (i := 0) (p := 120) (by decide +kernel) rfl ?_
            refine hf_get (T := et_TT) (t := 12) (ci := 10) (f := 4) (p := 123) (by decide +kernel) rfl hH k_th h4 ?_
            have hHo := hH
            refine ht_callv (T := et_TT) (t := 3) (mi := 44) (na := 4) (ci := 1) (lk := 8) (lm := 10) (L0 := eg_en (eg_mL 44) [.ref sp, .int (X (σ p)), .int (Int32.ofNat (if yB (Y (σ p)) = true then 1 else 0)), .ref tn, .ref fo]) (by decide +kernel) rfl hH k_sp rfl rfl rfl rfl rfl (by rw [show eg_mL 44 = 10 from by decide +kernel]; first | done | rfl) ?_
            refine fd_turn (ye := yB (Y (σ p))) hH t2 hd9 zv ht hcl k_fo (by omega) (fun G123 hH x123 zv => ?_)
            have hXc : ∀ c, c < nc → et_pl (eg_at G123 la) c = some (.int (X c)) := fun c hc => (x123.2 la c lt_la (fun h => Or.elim h (fun h => (hi_ne k_la k_sp (by decide)) h.1) (fun h => Or.elim h (fun h => (hi_ne k_la k_pn (by decide)) h.1) (fun h => (hi_ne k_la k_fo (by decide)) h.1)))).trans (hXc c hc)
            have hYc : ∀ c, c < nc → et_pl (eg_at G123 ly) c = some (.int (Int32.ofNat (Y c))) := fun c hc => (x123.2 ly c lt_ly (fun h => Or.elim h (fun h => (hi_ne k_ly k_sp (by decide)) h.1) (fun h => Or.elim h (fun h => (hi_ne k_ly k_pn (by decide)) h.1) (fun h => (hi_ne k_ly k_fo (by decide)) h.1)))).trans (hYc c hc)
            have hod : ∀ q, q < n → et_pl (eg_at G123 od) q = some (.int (Int32.ofNat (σ q))) := fun q hq => (x123.2 od q lt_od (fun h => Or.elim h (fun h => (hi_ne k_od k_sp (by decide)) h.1) (fun h => Or.elim h (fun h => (hi_ne k_od k_pn (by decide)) h.1) (fun h => (hi_ne k_od k_fo (by decide)) h.1)))).trans (hod q hq)
            have ht := ht.xs et_ex.rf hHo x123 (fun b j t h h2 => by rcases h2 with h2 | h2 | h2 <;> (rw [h2.1] at h; first | (rw [k_sp] at h; cases h) | (rw [k_pn] at h; cases h) | (rw [k_fo] at h; cases h)) <;> exact ⟨by decide, by decide, by decide, by decide, by decide⟩)
            have h0 := (x123.2 th 0 lt_th (fun h => Or.elim h (fun h => (hi_ne k_th k_sp (by decide)) h.1) (fun h => Or.elim h (fun h => (hi_ne k_th k_pn (by decide)) h.1) (fun h => (hi_ne k_th k_fo (by decide)) h.1)))).trans h0
            have h4 := (x123.2 th 4 lt_th (fun h => Or.elim h (fun h => (hi_ne k_th k_sp (by decide)) h.1) (fun h => Or.elim h (fun h => (hi_ne k_th k_pn (by decide)) h.1) (fun h => (hi_ne k_th k_fo (by decide)) h.1)))).trans h4
            have h8 := (x123.2 th 8 lt_th (fun h => Or.elim h (fun h => (hi_ne k_th k_sp (by decide)) h.1) (fun h => Or.elim h (fun h => (hi_ne k_th k_pn (by decide)) h.1) (fun h => (hi_ne k_th k_fo (by decide)) h.1)))).trans h8
            have h9 := (x123.2 th 9 lt_th (fun h => Or.elim h (fun h => (hi_ne k_th k_sp (by decide)) h.1) (fun h => Or.elim h (fun h => (hi_ne k_th k_pn (by decide)) h.1) (fun h => (hi_ne k_th k_fo (by decide)) h.1)))).trans h9
            have h10 := (x123.2 th 10 lt_th (fun h => Or.elim h (fun h => (hi_ne k_th k_sp (by decide)) h.1) (fun h => Or.elim h (fun h => (hi_ne k_th k_pn (by decide)) h.1) (fun h => (hi_ne k_th k_fo (by decide)) h.1)))).trans h10
            have g2 := (x123.2 s0 2 lt_s0 (fun h => Or.elim h (fun h => (hi_ne k_s0 k_sp (by decide)) h.1) (fun h => Or.elim h (fun h => (hi_ne k_s0 k_pn (by decide)) h.1) (fun h => (hi_ne k_s0 k_fo (by decide)) h.1)))).trans g2
            have g3 := (x123.2 s0 3 lt_s0 (fun h => Or.elim h (fun h => (hi_ne k_s0 k_sp (by decide)) h.1) (fun h => Or.elim h (fun h => (hi_ne k_s0 k_pn (by decide)) h.1) (fun h => (hi_ne k_s0 k_fo (by decide)) h.1)))).trans g3
            have g4 := (x123.2 s0 4 lt_s0 (fun h => Or.elim h (fun h => (hi_ne k_s0 k_sp (by decide)) h.1) (fun h => Or.elim h (fun h => (hi_ne k_s0 k_pn (by decide)) h.1) (fun h => (hi_ne k_s0 k_fo (by decide)) h.1)))).trans g4
            have lt_th := Nat.lt_of_lt_of_le lt_th x123.1
            have lt_s0 := Nat.lt_of_lt_of_le lt_s0 x123.1
            have lt_sp := Nat.lt_of_lt_of_le lt_sp x123.1
            have lt_pa := Nat.lt_of_lt_of_le lt_pa x123.1
            have lt_pi := Nat.lt_of_lt_of_le lt_pi x123.1
            have lt_pn := Nat.lt_of_lt_of_le lt_pn x123.1
            have lt_la := Nat.lt_of_lt_of_le lt_la x123.1
            have lt_ly := Nat.lt_of_lt_of_le lt_ly x123.1
            have lt_od := Nat.lt_of_lt_of_le lt_od x123.1
            have lt_fo := Nat.lt_of_lt_of_le lt_fo x123.1
            have lt_tn := Nat.lt_of_lt_of_le lt_tn x123.1
            have hX := hX.tr x123 (fun b j hb h => by first | omega | (dsimp only at h ⊢; omega) | (dsimp only at h; omega))
            refine hs_cb ?_
            show et_go none _ 169 126 _ [.int (Int32.ofNat (if shW v.2.1 v.2.2.1 (X (σ p)) v.1 (yB (Y (σ p))) (N, l, s) = true then 1 else 0))] _ _ _ _
            refine hs_pop (p := 127) (by decide +kernel) ?_
            refine hs_iinc1 (i := 4) (p := 130) (by decide +kernel) rfl (Nat.le_of_ble_eq_true rfl) ?_
            refine hs_iinc1 (i := 6) (p := 133) (by decide +kernel) rfl (Nat.le_of_ble_eq_true rfl) ?_
            refine hs_goto (p := 24) (by decide +kernel) ?_
            have qr2 : ¬ soR v X Y ls n σ k = true := by unfold soR; rw [hS]; exact qr
            have hkm : k % n = p := by rw [hkp, Nat.add_comm, Nat.add_mul_mod_self_right, Nat.mod_eq_of_lt (by omega)]
            have hS2 : soS v X Y ls σ n (k + 1) = (nxN v.2.1 v.2.2.1 (X (σ p)) v.1 v.2.2.2.2.2.2.1 v.2.2.2.2.2.2.2 ls (yB (Y (σ p))) (N, l, s)) := by
              show nxN v.2.1 v.2.2.1 (X (σ (k % n))) v.1 v.2.2.2.2.2.2.1 v.2.2.2.2.2.2.2 ls (yB (Y (σ (k % n)))) (soS v X Y ls σ n k) = _
              rw [hS, hkm]
            have e9 : soL (soR v X Y ls n σ) (10 * n - k) k = soL (soR v X Y ls n σ) (10 * n - (k + 1)) (k + 1) := by rw [show 10 * n - k = (10 * n - (k + 1)) + 1 by omega]; exact soL_s qr2
            rw [e9]
            exact ih ((10 - tm) * 6 + (5 - (p + 1))) (by omega) hH h0 h4 h8 h9 h10 g2 g3 g4 hXc hYc hod zv ht hS2 (by omega) htm (by omega) hX rfl
theorem fd_try (k_th : K th = some 12) (k_s0 : K s0 = some 10) (k_sp : K sp = some 3) (k_pa : K pa = some 15) (k_pi : K pi = some 15) (k_pn : K pn = some 15) (k_la : K la = some 17) (k_ly : K ly = some 27) (k_od : K od = some 32) (k_fo : K fo = some 4) (hY1 : ∀ c, c < nc → Y c ≤ 1) (hnc : nc ≤ 20) (hn5 : n ≤ 5) (hnn : n ≤ nc) (hF : F ≤ 51) (hcl : ∀ l ∈ ls, lcl1 l) (hse : ¬ sp = e) (hp3 : ¬ pa = pi ∧ ¬ pa = pn ∧ ¬ pi = pn) (hq3 : ∀ p c, p ∈ [pa, pi, pn] → c ∈ [ca, ki, kn] → ¬ p = c) (t9 : evK K e ca ki kn v.1 v.2.2.1)  (hσ : ∀ q, q < n → σ q < nc) (hH : et_H et_TT K G) (h0 : et_pl (eg_at G th) 0 = some (.ref s0)) (h4 : et_pl (eg_at G th) 4 = some (.ref fo)) (h8 : et_pl (eg_at G th) 8 = some (.ref sp)) (h9 : et_pl (eg_at G th) 9 = some (.ref od)) (h10 : et_pl (eg_at G th) 10 = some (.int (Int32.ofNat F))) (g2 : et_pl (eg_at G s0) 2 = some (.int (Int32.ofNat nc))) (g3 : et_pl (eg_at G s0) 3 = some (.ref la)) (g4 : et_pl (eg_at G s0) 4 = some (.ref ly)) (hXc : ∀ c, c < nc → et_pl (eg_at G la) c = some (.int (X c))) (hYc : ∀ c, c < nc → et_pl (eg_at G ly) c = some (.int (Int32.ofNat (Y c)))) (hod : ∀ q, q < n → et_pl (eg_at G od) q = some (.int (Int32.ofNat (σ q)))) (a1 : et_pl (eg_at G sp) 1 = some (.ref pa)) (a2 : et_pl (eg_at G sp) 2 = some (.ref pi)) (a3 : et_pl (eg_at G sp) 3 = some (.ref pn)) (hv : evc G e ca ki kn v) (ht : tuC K G tn ls) (hd : 21 ≤ d2) : et_go none d2 169 0 (eg_en (eg_mL 169) [.ref th, .ref e, .ref tn, .int (Int32.ofNat n)]) [] G 0 0 (xw_Z (fun b j => (b = sp ∧ j = 0) ∨ (b = sp ∧ (4 ≤ j ∧ j ≤ 7)) ∨ (b = pa ∧ (0 ≤ j ∧ j ≤ 5)) ∨ (b = pi ∧ (0 ≤ j ∧ j ≤ 5)) ∨ (b = pn ∧ (0 ≤ j ∧ j ≤ 5)) ∨ (b = fo ∧ (1 ≤ j ∧ j ≤ 6)) ∨ (b = th ∧ j = 10)) K G (fun g r => r = none ∧ et_pl (eg_at g th) 10 = some (.int (Int32.ofNat (min F ((soG v X Y ls n) σ)))))) := by
  obtain ⟨d, rfl⟩ : ∃ d, d2 = d + 21 := ⟨d2 - 21, by omega⟩
  have k_tn := ht.kt
  have k_e := t9.1.1
  have z2 : evK K sp pa pi pn v.1 v.2.2.1 := ⟨⟨k_sp, k_pa, k_pi, k_pn⟩, t9.2⟩
  rw [show eg_mL 169 = 8 from by decide +kernel]
  show et_go none (d + 21) 169 0 [some (.ref th), some (.ref e), some (.ref tn), some (.int (Int32.ofNat n)), none, none, none, none] [] G 0 0 _
  have lt_th := (hH.2.2 _ _ k_th).1
  have lt_s0 := (hH.2.2 _ _ k_s0).1
  have lt_sp := (hH.2.2 _ _ k_sp).1
  have lt_pa := (hH.2.2 _ _ k_pa).1
  have lt_pi := (hH.2.2 _ _ k_pi).1
  have lt_pn := (hH.2.2 _ _ k_pn).1
  have lt_la := (hH.2.2 _ _ k_la).1
  have lt_ly := (hH.2.2 _ _ k_ly).1
  have lt_od := (hH.2.2 _ _ k_od).1
  have lt_fo := (hH.2.2 _ _ k_fo).1
  have lt_tn := (hH.2.2 _ _ k_tn).1
  have lt_e := (hH.2.2 _ _ k_e).1
  have hX : xf (fun b j => (b = sp ∧ j = 0) ∨ (b = sp ∧ (4 ≤ j ∧ j ≤ 7)) ∨ (b = pa ∧ (0 ≤ j ∧ j ≤ 5)) ∨ (b = pi ∧ (0 ≤ j ∧ j ≤ 5)) ∨ (b = pn ∧ (0 ≤ j ∧ j ≤ 5)) ∨ (b = fo ∧ (1 ≤ j ∧ j ≤ 6)) ∨ (b = th ∧ j = 10)) G G := xf.rf
  refine hs_aload (i := 0) (p := 1) (by decide +kernel) rfl ?_
  refine hf_get (T := et_TT) (t := 12) (ci := 10) (f := 8) (p := 4) (by decide +kernel) rfl hH k_th h8 ?_
  refine hs_aload (i := 1) (p := 5) (by decide +kernel) rfl ?_
  have hHo := hH
  refine ht_callv (T := et_TT) (t := 3) (mi := 35) (na := 1) (ci := 1) (lk := 8) (lm := 3) (L0 := eg_en (eg_mL 35) [.ref sp, .ref e]) (by decide +kernel) rfl hH k_sp rfl rfl rfl rfl rfl (by rw [show eg_mL 35 = 3 from by decide +kernel]; first | done | rfl) ?_
  refine fd_takeV (v := v) hH t9 hv k_sp k_pa k_pi k_pn hse hp3 hq3 a1 a2 a3 (fun G5 hH x5 z5 => ?_)
  have hXc : ∀ c, c < nc → et_pl (eg_at G5 la) c = some (.int (X c)) := fun c hc => (x5.2 la c lt_la (fun h => Or.elim h (fun h => (hi_ne k_la k_sp (by decide)) h.1) (fun h => Or.elim h (fun h => (hi_ne k_la k_pa (by decide)) h.1) (fun h => Or.elim h (fun h => (hi_ne k_la k_pi (by decide)) h.1) (fun h => (hi_ne k_la k_pn (by decide)) h.1))))).trans (hXc c hc)
  have hYc : ∀ c, c < nc → et_pl (eg_at G5 ly) c = some (.int (Int32.ofNat (Y c))) := fun c hc => (x5.2 ly c lt_ly (fun h => Or.elim h (fun h => (hi_ne k_ly k_sp (by decide)) h.1) (fun h => Or.elim h (fun h => (hi_ne k_ly k_pa (by decide)) h.1) (fun h => Or.elim h (fun h => (hi_ne k_ly k_pi (by decide)) h.1) (fun h => (hi_ne k_ly k_pn (by decide)) h.1))))).trans (hYc c hc)
  have hod : ∀ q, q < n → et_pl (eg_at G5 od) q = some (.int (Int32.ofNat (σ q))) := fun q hq => (x5.2 od q lt_od (fun h => Or.elim h (fun h => (hi_ne k_od k_sp (by decide)) h.1) (fun h => Or.elim h (fun h => (hi_ne k_od k_pa (by decide)) h.1) (fun h => Or.elim h (fun h => (hi_ne k_od k_pi (by decide)) h.1) (fun h => (hi_ne k_od k_pn (by decide)) h.1))))).trans (hod q hq)
  have ht := ht.xs et_ex.rf hHo x5 (fun b j t h h2 => by rcases h2 with h2 | h2 | h2 | h2 <;> (rw [h2.1] at h; first | (rw [k_sp] at h; cases h) | (rw [k_pa] at h; cases h) | (rw [k_pi] at h; cases h) | (rw [k_pn] at h; cases h)) <;> exact ⟨by decide, by decide, by decide, by decide, by decide⟩)
  have h0 := (x5.2 th 0 lt_th (fun h => Or.elim h (fun h => (hi_ne k_th k_sp (by decide)) h.1) (fun h => Or.elim h (fun h => (hi_ne k_th k_pa (by decide)) h.1) (fun h => Or.elim h (fun h => (hi_ne k_th k_pi (by decide)) h.1) (fun h => (hi_ne k_th k_pn (by decide)) h.1))))).trans h0
  have h4 := (x5.2 th 4 lt_th (fun h => Or.elim h (fun h => (hi_ne k_th k_sp (by decide)) h.1) (fun h => Or.elim h (fun h => (hi_ne k_th k_pa (by decide)) h.1) (fun h => Or.elim h (fun h => (hi_ne k_th k_pi (by decide)) h.1) (fun h => (hi_ne k_th k_pn (by decide)) h.1))))).trans h4
  have h8 := (x5.2 th 8 lt_th (fun h => Or.elim h (fun h => (hi_ne k_th k_sp (by decide)) h.1) (fun h => Or.elim h (fun h => (hi_ne k_th k_pa (by decide)) h.1) (fun h => Or.elim h (fun h => (hi_ne k_th k_pi (by decide)) h.1) (fun h => (hi_ne k_th k_pn (by decide)) h.1))))).trans h8
  have h9 := (x5.2 th 9 lt_th (fun h => Or.elim h (fun h => (hi_ne k_th k_sp (by decide)) h.1) (fun h => Or.elim h (fun h => (hi_ne k_th k_pa (by decide)) h.1) (fun h => Or.elim h (fun h => (hi_ne k_th k_pi (by decide)) h.1) (fun h => (hi_ne k_th k_pn (by decide)) h.1))))).trans h9
  have h10 := (x5.2 th 10 lt_th (fun h => Or.elim h (fun h => (hi_ne k_th k_sp (by decide)) h.1) (fun h => Or.elim h (fun h => (hi_ne k_th k_pa (by decide)) h.1) (fun h => Or.elim h (fun h => (hi_ne k_th k_pi (by decide)) h.1) (fun h => (hi_ne k_th k_pn (by decide)) h.1))))).trans h10
  have g2 := (x5.2 s0 2 lt_s0 (fun h => Or.elim h (fun h => (hi_ne k_s0 k_sp (by decide)) h.1) (fun h => Or.elim h (fun h => (hi_ne k_s0 k_pa (by decide)) h.1) (fun h => Or.elim h (fun h => (hi_ne k_s0 k_pi (by decide)) h.1) (fun h => (hi_ne k_s0 k_pn (by decide)) h.1))))).trans g2
  have g3 := (x5.2 s0 3 lt_s0 (fun h => Or.elim h (fun h => (hi_ne k_s0 k_sp (by decide)) h.1) (fun h => Or.elim h (fun h => (hi_ne k_s0 k_pa (by decide)) h.1) (fun h => Or.elim h (fun h => (hi_ne k_s0 k_pi (by decide)) h.1) (fun h => (hi_ne k_s0 k_pn (by decide)) h.1))))).trans g3
  have g4 := (x5.2 s0 4 lt_s0 (fun h => Or.elim h (fun h => (hi_ne k_s0 k_sp (by decide)) h.1) (fun h => Or.elim h (fun h => (hi_ne k_s0 k_pa (by decide)) h.1) (fun h => Or.elim h (fun h => (hi_ne k_s0 k_pi (by decide)) h.1) (fun h => (hi_ne k_s0 k_pn (by decide)) h.1))))).trans g4
  have lt_th := Nat.lt_of_lt_of_le lt_th x5.1
  have lt_s0 := Nat.lt_of_lt_of_le lt_s0 x5.1
  have lt_sp := Nat.lt_of_lt_of_le lt_sp x5.1
  have lt_pa := Nat.lt_of_lt_of_le lt_pa x5.1
  have lt_pi := Nat.lt_of_lt_of_le lt_pi x5.1
  have lt_pn := Nat.lt_of_lt_of_le lt_pn x5.1
  have lt_la := Nat.lt_of_lt_of_le lt_la x5.1
  have lt_ly := Nat.lt_of_lt_of_le lt_ly x5.1
  have lt_od := Nat.lt_of_lt_of_le lt_od x5.1
  have lt_fo := Nat.lt_of_lt_of_le lt_fo x5.1
  have lt_tn := Nat.lt_of_lt_of_le lt_tn x5.1
  have lt_e := Nat.lt_of_lt_of_le lt_e x5.1
  have hX := hX.tr x5 (fun b j hb h => by first | omega | (dsimp only at h ⊢; omega) | (dsimp only at h; omega))
  refine hs_cb ?_
  show et_go none _ 169 8 _ [] _ _ _ _
  refine hs_k (x := Int32.ofNat 0) (p := 9) (by decide +kernel) ?_
  refine hs_istore (i := 4) (p := 11) (by decide +kernel) (Nat.le_of_ble_eq_true rfl) ?_
  refine hs_k (x := Int32.ofNat 0) (p := 12) (by decide +kernel) ?_
  refine hs_istore (i := 5) (p := 14) (by decide +kernel) (Nat.le_of_ble_eq_true rfl) ?_
  refine hs_iload (i := 5) (p := 16) (by decide +kernel) rfl ?_
  refine hs_k (x := Int32.ofNat 10) (p := 18) (by decide +kernel) ?_
  refine hs_br2n (c := .ge) (t := 142) (f := 21) (by decide +kernel) (by omega) (by omega) (fun h => absurd h (show ¬ (10 ≤ 0) by decide)) (fun _ => ?_)
  refine hs_k (x := Int32.ofNat 0) (p := 22) (by decide +kernel) ?_
  refine hs_istore (i := 6) (p := 24) (by decide +kernel) (Nat.le_of_ble_eq_true rfl) ?_
  exact fd_tJ (k := 0) (tm := 0) (p := 0) k_th k_s0 k_sp k_pa k_pi k_pn k_la k_ly k_od k_fo hY1 hnc hn5 hnn hF hcl z2 ⟨fun q => hp3.2.1 q.symm, fun q => hp3.2.2 q.symm⟩ hσ hH h0 h4 h8 h9 h10 g2 g3 g4 hXc hYc hod z5 ht rfl (by omega) (by decide) (Nat.zero_le _) hX
theorem fd_soR (k_th : K th = some 12) (k_s0 : K s0 = some 10) (k_sp : K sp = some 3) (k_pa : K pa = some 15) (k_pi : K pi = some 15) (k_pn : K pn = some 15) (k_la : K la = some 17) (k_ly : K ly = some 27) (k_od : K od = some 32) (k_fo : K fo = some 4) (hY1 : ∀ c, c < nc → Y c ≤ 1) (hnc : nc ≤ 20) (hn5 : n ≤ 5) (hnn : n ≤ nc) (hcl : ∀ l ∈ ls, lcl1 l) (hse : ¬ sp = e) (hp3 : ¬ pa = pi ∧ ¬ pa = pn ∧ ¬ pi = pn) (hq3 : ∀ p c, p ∈ [pa, pi, pn] → c ∈ [ca, ki, kn] → ¬ p = c) (t9 : evK K e ca ki kn v.1 v.2.2.1) (hH : et_H et_TT K G) (h0 : et_pl (eg_at G th) 0 = some (.ref s0)) (h4 : et_pl (eg_at G th) 4 = some (.ref fo)) (h8 : et_pl (eg_at G th) 8 = some (.ref sp)) (h9 : et_pl (eg_at G th) 9 = some (.ref od)) (h10 : et_pl (eg_at G th) 10 = some (.int (Int32.ofNat F))) (g2 : et_pl (eg_at G s0) 2 = some (.int (Int32.ofNat nc))) (g3 : et_pl (eg_at G s0) 3 = some (.ref la)) (g4 : et_pl (eg_at G s0) 4 = some (.ref ly)) (hXc : ∀ c, c < nc → et_pl (eg_at G la) c = some (.int (X c))) (hYc : ∀ c, c < nc → et_pl (eg_at G ly) c = some (.int (Int32.ofNat (Y c)))) (a1 : et_pl (eg_at G sp) 1 = some (.ref pa)) (a2 : et_pl (eg_at G sp) 2 = some (.ref pi)) (a3 : et_pl (eg_at G sp) 3 = some (.ref pn)) (hv : evc G e ca ki kn v) (ht : tuC K G tn ls) (hFq : clF (soG v X Y ls n) n row = F) (hr : row ≤ n ^ n) : et_go none (d + 22) 167 61 [some (.ref th), some (.int x), some (.int y), some (.ref e), some (.ref tn), some (.int (Int32.ofNat n)), some (.int (Int32.ofNat (n ^ n))), some (.int (Int32.ofNat row))] [] G 0 0 (fun u => u.1 = .inl (some (.int (snI (clF (soG v X Y ls n) n (n ^ n)))))) := by
  have k_e := t9.1.1
  have k_ca := t9.1.2.1
  have k_ki := t9.1.2.2.1
  have k_kn := t9.1.2.2.2
  have k_tn := ht.kt
  have hnn2 := (so_nn n (List.mem_range.mpr (by omega))).1
  induction hq9 : n ^ n - row using Nat.strongRecOn generalizing row G F with
  | _ q9 ih =>
    have hF : F ≤ 51 := by rw [← hFq]; exact clF_le _
    have lt_th := (hH.2.2 _ _ k_th).1
    have lt_s0 := (hH.2.2 _ _ k_s0).1
    have lt_sp := (hH.2.2 _ _ k_sp).1
    have lt_pa := (hH.2.2 _ _ k_pa).1
    have lt_pi := (hH.2.2 _ _ k_pi).1
    have lt_pn := (hH.2.2 _ _ k_pn).1
    have lt_la := (hH.2.2 _ _ k_la).1
    have lt_ly := (hH.2.2 _ _ k_ly).1
    have lt_od := (hH.2.2 _ _ k_od).1
    have lt_fo := (hH.2.2 _ _ k_fo).1
    have lt_tn := (hH.2.2 _ _ k_tn).1
    have lt_e := (hH.2.2 _ _ k_e).1
    have lt_ca := (hH.2.2 _ _ k_ca).1
    have lt_ki := (hH.2.2 _ _ k_ki).1
    have lt_kn := (hH.2.2 _ _ k_kn).1
    refine hs_iload (i := 7) (p := 63) (by decide +kernel) rfl ?_
    refine hs_iload (i := 6) (p := 65) (by decide +kernel) rfl ?_
    refine hs_br2n (c := .ge) (t := 94) (f := 68) (by decide +kernel) (by omega) (by omega) (fun (c65 : (n ^ n) ≤ row) => ?_) (fun (c65 : ¬ ((n ^ n) ≤ row)) => ?_)
    · refine hs_aload (i := 0) (p := 95) (by decide +kernel) rfl ?_
      refine hf_get (T := et_TT) (t := 12) (ci := 10) (f := 10) (p := 98) (by decide +kernel) rfl hH k_th h10 ?_
      refine hs_k (x := Int32.ofNat 50) (p := 100) (by decide +kernel) ?_
      refine hs_br2n (c := .le) (t := 107) (f := 103) (by decide +kernel) (by omega) (by omega) (fun (c100 : F ≤ 50) => ?_) (fun (c100 : ¬ (F ≤ 50)) => ?_)
      · refine hs_aload (i := 0) (p := 108) (by decide +kernel) rfl ?_
        refine hf_get (T := et_TT) (t := 12) (ci := 10) (f := 10) (p := 111) (by decide +kernel) rfl hH k_th h10 ?_
        refine hs_iret (by decide +kernel) ?_
        obtain rfl : row = n ^ n := by omega
        show (Sum.inl (some (Value.int (Int32.ofNat F))) : eg_R) = _
        rw [hFq]
        rw [show snI F = Int32.ofNat F from if_neg (by omega)]
      · refine hs_k (x := (-1)) (p := 104) (by decide +kernel) ?_
        refine hs_goto (p := 111) (by decide +kernel) ?_
        refine hs_iret (by decide +kernel) ?_
        obtain rfl : row = n ^ n := by omega
        show (Sum.inl (some (Value.int (-1))) : eg_R) = _
        rw [hFq]
        rw [show snI F = (-1) from if_pos (by omega)]
    · refine hs_aload (i := 0) (p := 69) (by decide +kernel) rfl ?_
      refine hs_iload (i := 7) (p := 71) (by decide +kernel) rfl ?_
      refine hs_iload (i := 5) (p := 73) (by decide +kernel) rfl ?_
      have hHo := hH
      refine ht_callv (T := et_TT) (t := 12) (mi := 168) (na := 2) (ci := 10) (lk := 8) (lm := 6) (L0 := eg_en (eg_mL 168) [.ref th, .int (Int32.ofNat row), .int (Int32.ofNat n)]) (by decide +kernel) rfl hH k_th rfl rfl rfl rfl rfl (by rw [show eg_mL 168 = 6 from by decide +kernel]; first | done | rfl) ?_
      refine (fd_soO hH k_th h9 k_od hn5 (by omega) (by omega)).mono (fun u hu => xw_cb hu (fun G73 v73 hH x73 hP73 => ?_))
      have hXc : ∀ c, c < nc → et_pl (eg_at G73 la) c = some (.int (X c)) := fun c hc => (x73.2 la c lt_la (fun h => (hi_ne k_la k_od (by decide)) h.1)).trans (hXc c hc)
      have hYc : ∀ c, c < nc → et_pl (eg_at G73 ly) c = some (.int (Int32.ofNat (Y c))) := fun c hc => (x73.2 ly c lt_ly (fun h => (hi_ne k_ly k_od (by decide)) h.1)).trans (hYc c hc)
      have ht := ht.xs et_ex.rf hHo x73 (fun b j t h h2 => by rw [h2.1, k_od] at h; cases h; exact ⟨by decide, by decide, by decide, by decide, by decide⟩)
      have hv : evc G73 e ca ki kn v := evC.xs hv t9 hHo x73 (fun b j h => by rw [h.1, k_od]; exact ⟨by decide, by decide⟩)
      have a1 := (x73.2 sp 1 lt_sp (fun h => hi_ne k_sp k_od (by decide) h.1)).trans a1
      have a2 := (x73.2 sp 2 lt_sp (fun h => hi_ne k_sp k_od (by decide) h.1)).trans a2
      have a3 := (x73.2 sp 3 lt_sp (fun h => hi_ne k_sp k_od (by decide) h.1)).trans a3
      have h0 := (x73.2 th 0 lt_th (fun h => (hi_ne k_th k_od (by decide)) h.1)).trans h0
      have h4 := (x73.2 th 4 lt_th (fun h => (hi_ne k_th k_od (by decide)) h.1)).trans h4
      have h8 := (x73.2 th 8 lt_th (fun h => (hi_ne k_th k_od (by decide)) h.1)).trans h8
      have h9 := (x73.2 th 9 lt_th (fun h => (hi_ne k_th k_od (by decide)) h.1)).trans h9
      have h10 := (x73.2 th 10 lt_th (fun h => (hi_ne k_th k_od (by decide)) h.1)).trans h10
      have g2 := (x73.2 s0 2 lt_s0 (fun h => (hi_ne k_s0 k_od (by decide)) h.1)).trans g2
      have g3 := (x73.2 s0 3 lt_s0 (fun h => (hi_ne k_s0 k_od (by decide)) h.1)).trans g3
      have g4 := (x73.2 s0 4 lt_s0 (fun h => (hi_ne k_s0 k_od (by decide)) h.1)).trans g4
      have lt_th := Nat.lt_of_lt_of_le lt_th x73.1
      have lt_s0 := Nat.lt_of_lt_of_le lt_s0 x73.1
      have lt_sp := Nat.lt_of_lt_of_le lt_sp x73.1
      have lt_pa := Nat.lt_of_lt_of_le lt_pa x73.1
      have lt_pi := Nat.lt_of_lt_of_le lt_pi x73.1
      have lt_pn := Nat.lt_of_lt_of_le lt_pn x73.1
      have lt_la := Nat.lt_of_lt_of_le lt_la x73.1
      have lt_ly := Nat.lt_of_lt_of_le lt_ly x73.1
      have lt_od := Nat.lt_of_lt_of_le lt_od x73.1
      have lt_fo := Nat.lt_of_lt_of_le lt_fo x73.1
      have lt_tn := Nat.lt_of_lt_of_le lt_tn x73.1
      have lt_e := Nat.lt_of_lt_of_le lt_e x73.1
      have lt_ca := Nat.lt_of_lt_of_le lt_ca x73.1
      have lt_ki := Nat.lt_of_lt_of_le lt_ki x73.1
      have lt_kn := Nat.lt_of_lt_of_le lt_kn x73.1
      obtain ⟨rfl, hod⟩ := hP73
      show et_go none _ 167 76 _ [.int (Int32.ofNat (if usN n row n = 2 ^ n - 1 then 1 else 0))] _ _ _ _
      by_cases qv : usN n row n = 2 ^ n - 1
      · rw [if_pos qv]
        show et_go none _ 167 76 _ [.int (Int32.ofNat 1)] _ _ _ _
        refine hs_if0 (c := .eq) (t := 88) (f := 79) (by decide +kernel) (show ¬ (Int32.ofNat 1 = 0) by decide) ?_
        refine hs_aload (i := 0) (p := 80) (by decide +kernel) rfl ?_
        refine hs_aload (i := 3) (p := 81) (by decide +kernel) rfl ?_
        refine hs_aload (i := 4) (p := 83) (by decide +kernel) rfl ?_
        refine hs_iload (i := 5) (p := 85) (by decide +kernel) rfl ?_
        have hHo := hH
        refine ht_callv (T := et_TT) (t := 12) (mi := 169) (na := 3) (ci := 10) (lk := 8) (lm := 8) (L0 := eg_en (eg_mL 169) [.ref th, .ref e, .ref tn, .int (Int32.ofNat n)]) (by decide +kernel) rfl hH k_th rfl rfl rfl rfl rfl (by rw [show eg_mL 169 = 8 from by decide +kernel]; first | done | rfl) ?_
        refine (fd_try (σ := ocN n row) k_th k_s0 k_sp k_pa k_pi k_pn k_la k_ly k_od k_fo hY1 hnc hn5 hnn hF hcl hse hp3 hq3 t9 (fun q hq => Nat.lt_of_lt_of_le (Nat.mod_lt _ (by omega)) hnn) hH h0 h4 h8 h9 h10 g2 g3 g4 hXc hYc hod a1 a2 a3 hv ht (by omega)).mono (fun u hu => xw_cb hu (fun G85 v85 hH x85 hP85 => ?_))
        have hXc : ∀ c, c < nc → et_pl (eg_at G85 la) c = some (.int (X c)) := fun c hc => (x85.2 la c lt_la (fun h => Or.elim h (fun h => (hi_ne k_la k_sp (by decide)) h.1) (fun h => Or.elim h (fun h => (hi_ne k_la k_sp (by decide)) h.1) (fun h => Or.elim h (fun h => (hi_ne k_la k_pa (by decide)) h.1) (fun h => Or.elim h (fun h => (hi_ne k_la k_pi (by decide)) h.1) (fun h => Or.elim h (fun h => (hi_ne k_la k_pn (by decide)) h.1) (fun h => Or.elim h (fun h => (hi_ne k_la k_fo (by decide)) h.1) (fun h => (hi_ne k_la k_th (by decide)) h.1)))))))).trans (hXc c hc)
        have hYc : ∀ c, c < nc → et_pl (eg_at G85 ly) c = some (.int (Int32.ofNat (Y c))) := fun c hc => (x85.2 ly c lt_ly (fun h => Or.elim h (fun h => (hi_ne k_ly k_sp (by decide)) h.1) (fun h => Or.elim h (fun h => (hi_ne k_ly k_sp (by decide)) h.1) (fun h => Or.elim h (fun h => (hi_ne k_ly k_pa (by decide)) h.1) (fun h => Or.elim h (fun h => (hi_ne k_ly k_pi (by decide)) h.1) (fun h => Or.elim h (fun h => (hi_ne k_ly k_pn (by decide)) h.1) (fun h => Or.elim h (fun h => (hi_ne k_ly k_fo (by decide)) h.1) (fun h => (hi_ne k_ly k_th (by decide)) h.1)))))))).trans (hYc c hc)
        have ht := ht.xs et_ex.rf hHo x85 (fun b j t h h2 => by rcases h2 with h2 | h2 | h2 | h2 | h2 | h2 | h2 <;> (rw [h2.1] at h; first | (rw [k_sp] at h; cases h) | (rw [k_pa] at h; cases h) | (rw [k_pi] at h; cases h) | (rw [k_pn] at h; cases h) | (rw [k_fo] at h; cases h) | (rw [k_th] at h; cases h)) <;> exact ⟨by decide, by decide, by decide, by decide, by decide⟩)
        have hv : evc G85 e ca ki kn v := evc.mv hv (fun j => x85.2 e j lt_e (fun h => by rcases h with ⟨h, -⟩ | ⟨h, -⟩ | ⟨h, -⟩ | ⟨h, -⟩ | ⟨h, -⟩ | ⟨h, -⟩ | ⟨h, -⟩; exact hse h.symm; exact hse h.symm; exact hi_ne k_e k_pa (by decide) h; exact hi_ne k_e k_pi (by decide) h; exact hi_ne k_e k_pn (by decide) h; exact hi_ne k_e k_fo (by decide) h; exact hi_ne k_e k_th (by decide) h)) (fun j => x85.2 ca j lt_ca (fun h => by rcases h with ⟨h, -⟩ | ⟨h, -⟩ | ⟨h, -⟩ | ⟨h, -⟩ | ⟨h, -⟩ | ⟨h, -⟩ | ⟨h, -⟩; exact hi_ne k_ca k_sp (by decide) h; exact hi_ne k_ca k_sp (by decide) h; exact hq3 pa ca (by simp) (by simp) h.symm; exact hq3 pi ca (by simp) (by simp) h.symm; exact hq3 pn ca (by simp) (by simp) h.symm; exact hi_ne k_ca k_fo (by decide) h; exact hi_ne k_ca k_th (by decide) h)) (fun j => x85.2 ki j lt_ki (fun h => by rcases h with ⟨h, -⟩ | ⟨h, -⟩ | ⟨h, -⟩ | ⟨h, -⟩ | ⟨h, -⟩ | ⟨h, -⟩ | ⟨h, -⟩; exact hi_ne k_ki k_sp (by decide) h; exact hi_ne k_ki k_sp (by decide) h; exact hq3 pa ki (by simp) (by simp) h.symm; exact hq3 pi ki (by simp) (by simp) h.symm; exact hq3 pn ki (by simp) (by simp) h.symm; exact hi_ne k_ki k_fo (by decide) h; exact hi_ne k_ki k_th (by decide) h)) (fun j => x85.2 kn j lt_kn (fun h => by rcases h with ⟨h, -⟩ | ⟨h, -⟩ | ⟨h, -⟩ | ⟨h, -⟩ | ⟨h, -⟩ | ⟨h, -⟩ | ⟨h, -⟩; exact hi_ne k_kn k_sp (by decide) h; exact hi_ne k_kn k_sp (by decide) h; exact hq3 pa kn (by simp) (by simp) h.symm; exact hq3 pi kn (by simp) (by simp) h.symm; exact hq3 pn kn (by simp) (by simp) h.symm; exact hi_ne k_kn k_fo (by decide) h; exact hi_ne k_kn k_th (by decide) h))
        have a1 := (x85.2 sp 1 lt_sp (fun h => Or.elim h (fun h => absurd h.2 (by decide)) (fun h => Or.elim h (fun h => absurd h.2 (by decide)) (fun h => Or.elim h (fun h => (hi_ne k_sp k_pa (by decide)) h.1) (fun h => Or.elim h (fun h => (hi_ne k_sp k_pi (by decide)) h.1) (fun h => Or.elim h (fun h => (hi_ne k_sp k_pn (by decide)) h.1) (fun h => Or.elim h (fun h => (hi_ne k_sp k_fo (by decide)) h.1) (fun h => (hi_ne k_sp k_th (by decide)) h.1)))))))).trans a1
        have a2 := (x85.2 sp 2 lt_sp (fun h => Or.elim h (fun h => absurd h.2 (by decide)) (fun h => Or.elim h (fun h => absurd h.2 (by decide)) (fun h => Or.elim h (fun h => (hi_ne k_sp k_pa (by decide)) h.1) (fun h => Or.elim h (fun h => (hi_ne k_sp k_pi (by decide)) h.1) (fun h => Or.elim h (fun h => (hi_ne k_sp k_pn (by decide)) h.1) (fun h => Or.elim h (fun h => (hi_ne k_sp k_fo (by decide)) h.1) (fun h => (hi_ne k_sp k_th (by decide)) h.1)))))))).trans a2
        have a3 := (x85.2 sp 3 lt_sp (fun h => Or.elim h (fun h => absurd h.2 (by decide)) (fun h => Or.elim h (fun h => absurd h.2 (by decide)) (fun h => Or.elim h (fun h => (hi_ne k_sp k_pa (by decide)) h.1) (fun h => Or.elim h (fun h => (hi_ne k_sp k_pi (by decide)) h.1) (fun h => Or.elim h (fun h => (hi_ne k_sp k_pn (by decide)) h.1) (fun h => Or.elim h (fun h => (hi_ne k_sp k_fo (by decide)) h.1) (fun h => (hi_ne k_sp k_th (by decide)) h.1)))))))).trans a3
        have h0 := (x85.2 th 0 lt_th (fun h => Or.elim h (fun h => (hi_ne k_th k_sp (by decide)) h.1) (fun h => Or.elim h (fun h => (hi_ne k_th k_sp (by decide)) h.1) (fun h => Or.elim h (fun h => (hi_ne k_th k_pa (by decide)) h.1) (fun h => Or.elim h (fun h => (hi_ne k_th k_pi (by decide)) h.1) (fun h => Or.elim h (fun h => (hi_ne k_th k_pn (by decide)) h.1) (fun h => Or.elim h (fun h => (hi_ne k_th k_fo (by decide)) h.1) (fun h => absurd h.2 (by decide))))))))).trans h0
        have h4 := (x85.2 th 4 lt_th (fun h => Or.elim h (fun h => (hi_ne k_th k_sp (by decide)) h.1) (fun h => Or.elim h (fun h => (hi_ne k_th k_sp (by decide)) h.1) (fun h => Or.elim h (fun h => (hi_ne k_th k_pa (by decide)) h.1) (fun h => Or.elim h (fun h => (hi_ne k_th k_pi (by decide)) h.1) (fun h => Or.elim h (fun h => (hi_ne k_th k_pn (by decide)) h.1) (fun h => Or.elim h (fun h => (hi_ne k_th k_fo (by decide)) h.1) (fun h => absurd h.2 (by decide))))))))).trans h4
        have h8 := (x85.2 th 8 lt_th (fun h => Or.elim h (fun h => (hi_ne k_th k_sp (by decide)) h.1) (fun h => Or.elim h (fun h => (hi_ne k_th k_sp (by decide)) h.1) (fun h => Or.elim h (fun h => (hi_ne k_th k_pa (by decide)) h.1) (fun h => Or.elim h (fun h => (hi_ne k_th k_pi (by decide)) h.1) (fun h => Or.elim h (fun h => (hi_ne k_th k_pn (by decide)) h.1) (fun h => Or.elim h (fun h => (hi_ne k_th k_fo (by decide)) h.1) (fun h => absurd h.2 (by decide))))))))).trans h8
        have h9 := (x85.2 th 9 lt_th (fun h => Or.elim h (fun h => (hi_ne k_th k_sp (by decide)) h.1) (fun h => Or.elim h (fun h => (hi_ne k_th k_sp (by decide)) h.1) (fun h => Or.elim h (fun h => (hi_ne k_th k_pa (by decide)) h.1) (fun h => Or.elim h (fun h => (hi_ne k_th k_pi (by decide)) h.1) (fun h => Or.elim h (fun h => (hi_ne k_th k_pn (by decide)) h.1) (fun h => Or.elim h (fun h => (hi_ne k_th k_fo (by decide)) h.1) (fun h => absurd h.2 (by decide))))))))).trans h9
        have g2 := (x85.2 s0 2 lt_s0 (fun h => Or.elim h (fun h => (hi_ne k_s0 k_sp (by decide)) h.1) (fun h => Or.elim h (fun h => (hi_ne k_s0 k_sp (by decide)) h.1) (fun h => Or.elim h (fun h => (hi_ne k_s0 k_pa (by decide)) h.1) (fun h => Or.elim h (fun h => (hi_ne k_s0 k_pi (by decide)) h.1) (fun h => Or.elim h (fun h => (hi_ne k_s0 k_pn (by decide)) h.1) (fun h => Or.elim h (fun h => (hi_ne k_s0 k_fo (by decide)) h.1) (fun h => (hi_ne k_s0 k_th (by decide)) h.1)))))))).trans g2
        have g3 := (x85.2 s0 3 lt_s0 (fun h => Or.elim h (fun h => (hi_ne k_s0 k_sp (by decide)) h.1) (fun h => Or.elim h (fun h => (hi_ne k_s0 k_sp (by decide)) h.1) (fun h => Or.elim h (fun h => (hi_ne k_s0 k_pa (by decide)) h.1) (fun h => Or.elim h (fun h => (hi_ne k_s0 k_pi (by decide)) h.1) (fun h => Or.elim h (fun h => (hi_ne k_s0 k_pn (by decide)) h.1) (fun h => Or.elim h (fun h => (hi_ne k_s0 k_fo (by decide)) h.1) (fun h => (hi_ne k_s0 k_th (by decide)) h.1)))))))).trans g3
        have g4 := (x85.2 s0 4 lt_s0 (fun h => Or.elim h (fun h => (hi_ne k_s0 k_sp (by decide)) h.1) (fun h => Or.elim h (fun h => (hi_ne k_s0 k_sp (by decide)) h.1) (fun h => Or.elim h (fun h => (hi_ne k_s0 k_pa (by decide)) h.1) (fun h => Or.elim h (fun h => (hi_ne k_s0 k_pi (by decide)) h.1) (fun h => Or.elim h (fun h => (hi_ne k_s0 k_pn (by decide)) h.1) (fun h => Or.elim h (fun h => (hi_ne k_s0 k_fo (by decide)) h.1) (fun h => (hi_ne k_s0 k_th (by decide)) h.1)))))))).trans g4
        have lt_th := Nat.lt_of_lt_of_le lt_th x85.1
        have lt_s0 := Nat.lt_of_lt_of_le lt_s0 x85.1
        have lt_sp := Nat.lt_of_lt_of_le lt_sp x85.1
        have lt_pa := Nat.lt_of_lt_of_le lt_pa x85.1
        have lt_pi := Nat.lt_of_lt_of_le lt_pi x85.1
        have lt_pn := Nat.lt_of_lt_of_le lt_pn x85.1
        have lt_la := Nat.lt_of_lt_of_le lt_la x85.1
        have lt_ly := Nat.lt_of_lt_of_le lt_ly x85.1
        have lt_od := Nat.lt_of_lt_of_le lt_od x85.1
        have lt_fo := Nat.lt_of_lt_of_le lt_fo x85.1
        have lt_tn := Nat.lt_of_lt_of_le lt_tn x85.1
        have lt_e := Nat.lt_of_lt_of_le lt_e x85.1
        have lt_ca := Nat.lt_of_lt_of_le lt_ca x85.1
        have lt_ki := Nat.lt_of_lt_of_le lt_ki x85.1
        have lt_kn := Nat.lt_of_lt_of_le lt_kn x85.1
        obtain ⟨rfl, h10b⟩ := hP85
        show et_go none _ 167 88 _ [] _ _ _ _
        refine hs_iinc1 (i := 7) (p := 91) (by decide +kernel) rfl (Nat.le_of_ble_eq_true rfl) ?_
        refine hs_goto (p := 61) (by decide +kernel) ?_
        have e9 : clF (soG v X Y ls n) n (row + 1) = min F ((soG v X Y ls n) (ocN n row)) := by rw [← hFq]; exact if_pos qv
        exact ih (n ^ n - (row + 1)) (by omega) hH h0 h4 h8 h9 h10b g2 g3 g4 hXc hYc a1 a2 a3 hv ht e9 (by omega) rfl
      · rw [if_neg qv]
        show et_go none _ 167 76 _ [.int (Int32.ofNat 0)] _ _ _ _
        refine hs_if1 (c := .eq) (t := 88) (f := 79) (by decide +kernel) (show Int32.ofNat 0 = 0 by decide) ?_
        refine hs_iinc1 (i := 7) (p := 91) (by decide +kernel) rfl (Nat.le_of_ble_eq_true rfl) ?_
        refine hs_goto (p := 61) (by decide +kernel) ?_
        have e9 : clF (soG v X Y ls n) n (row + 1) = F := by rw [← hFq]; exact if_neg qv
        exact ih (n ^ n - (row + 1)) (by omega) hH h0 h4 h8 h9 h10 g2 g3 g4 hXc hYc a1 a2 a3 hv ht e9 (by omega) rfl
theorem fd_soP {Z : eg_O → Prop} (hn5 : n ≤ 5) (h : et_go none d2 167 58 [some (.ref th), some (.int x), some (.int y), some (.ref e), some (.ref tn), some (.int (Int32.ofNat n)), some (.int (Int32.ofNat (n ^ n))), some (.int (Int32.ofNat n))] [] G 0 0 Z) (hk : k ≤ n) : et_go none d2 167 38 [some (.ref th), some (.int x), some (.int y), some (.ref e), some (.ref tn), some (.int (Int32.ofNat n)), some (.int (Int32.ofNat (n ^ k))), some (.int (Int32.ofNat k))] [] G 0 0 Z := by
  induction hq9 : n - k using Nat.strongRecOn generalizing k with
  | _ q9 ih =>
    refine hs_iload (i := 7) (p := 40) (by decide +kernel) rfl ?_
    refine hs_iload (i := 5) (p := 42) (by decide +kernel) rfl ?_
    refine hs_br2n (c := .ge) (t := 58) (f := 45) (by decide +kernel) (by omega) (by omega) (fun (c42 : n ≤ k) => ?_) (fun (c42 : ¬ (n ≤ k)) => ?_)
    · obtain rfl : k = n := by omega
      exact h
    · refine hs_iload (i := 6) (p := 47) (by decide +kernel) rfl ?_
      refine hs_iload (i := 5) (p := 49) (by decide +kernel) rfl ?_
      refine hs_imuln (p := 50) (by decide +kernel) ?_
      refine hs_istore (i := 6) (p := 52) (by decide +kernel) (Nat.le_of_ble_eq_true rfl) ?_
      refine hs_iinc1 (i := 7) (p := 55) (by decide +kernel) rfl (Nat.le_of_ble_eq_true rfl) ?_
      refine hs_goto (p := 38) (by decide +kernel) ?_
      have h9 := ih (n - (k + 1)) (by omega) (k := k + 1) (by omega) rfl
      rw [Nat.pow_succ] at h9
      exact h9
theorem fd_soon (hH : et_H et_TT K G) (k_th : K th = some 12) (h0 : et_pl (eg_at G th) 0 = some (.ref s0)) (k_s0 : K s0 = some 10) (h5 : et_pl (eg_at G s0) 5 = some (.int (Int32.ofNat ec))) (hec : ec ≤ 3) (h6 : et_pl (eg_at G s0) 6 = some (.ref ya)) (k_ya : K ya = some 40) (hm : m < ec) (hE : et_pl (eg_at G ya) m = some (.ref e)) (g7 : et_pl (eg_at G s0) 7 = some (.int (Int32.ofNat tc))) (htc : tc ≤ 4) (g8 : et_pl (eg_at G s0) 8 = some (.ref ta)) (k_ta : K ta = some 38) (hk : k < tc) (hT : et_pl (eg_at G ta) k = some (.ref tn)) (h4 : et_pl (eg_at G th) 4 = some (.ref fo)) (k_fo : K fo = some 4) (h8 : et_pl (eg_at G th) 8 = some (.ref sp)) (h9 : et_pl (eg_at G th) 9 = some (.ref od)) (k_od : K od = some 32) (k_sp : K sp = some 3) (k_pa : K pa = some 15) (k_pi : K pi = some 15) (k_pn : K pn = some 15) (hse : ¬ sp = e) (hp3 : ¬ pa = pi ∧ ¬ pa = pn ∧ ¬ pi = pn) (hq3 : ∀ p c, p ∈ [pa, pi, pn] → c ∈ [ca, ki, kn] → ¬ p = c) (t9 : evK K e ca ki kn v.1 v.2.2.1) (hv : evc G e ca ki kn v) (a1 : et_pl (eg_at G sp) 1 = some (.ref pa)) (a2 : et_pl (eg_at G sp) 2 = some (.ref pi)) (a3 : et_pl (eg_at G sp) 3 = some (.ref pn)) (g2 : et_pl (eg_at G s0) 2 = some (.int (Int32.ofNat nc))) (hnc : nc ≤ 20) (hcc : ccP G s0 la ly nc X Y) (k_la : K la = some 17) (k_ly : K ly = some 27) (ht : tuC K G tn ls) (hcl : ∀ l ∈ ls, lcl1 l) (hd : 22 ≤ d2) : et_go none d2 167 0 (eg_en (eg_mL 167) [.ref th, .int (Int32.ofNat m), .int (Int32.ofNat k)]) [] G 0 0 (fun u => u.1 = .inl (some (.int (snI (clF (soG v X Y ls (min nc 5)) (min nc 5) (min nc 5 ^ min nc 5)))))) := by
  obtain ⟨d, rfl⟩ : ∃ d, d2 = d + 22 := ⟨d2 - 22, by omega⟩
  have k_e := t9.1.1
  have k_ca := t9.1.2.1
  have k_ki := t9.1.2.2.1
  have k_kn := t9.1.2.2.2
  have k_tn := ht.kt
  have g3 := hcc.1.1
  have g4 := hcc.1.2
  have hXc : ∀ c, c < nc → et_pl (eg_at G la) c = some (.int (X c)) := fun c hc => (hcc.2 c hc).1
  have hYc : ∀ c, c < nc → et_pl (eg_at G ly) c = some (.int (Int32.ofNat (Y c))) := fun c hc => (hcc.2 c hc).2.1
  have hY1 : ∀ c, c < nc → Y c ≤ 1 := fun c hc => (hcc.2 c hc).2.2
  rw [show eg_mL 167 = 8 from by decide +kernel]
  show et_go none (d + 22) 167 0 [some (.ref th), some (.int (Int32.ofNat m)), some (.int (Int32.ofNat k)), none, none, none, none, none] [] G 0 0 _
  have lt_th := (hH.2.2 _ _ k_th).1
  have lt_s0 := (hH.2.2 _ _ k_s0).1
  have lt_sp := (hH.2.2 _ _ k_sp).1
  have lt_pa := (hH.2.2 _ _ k_pa).1
  have lt_pi := (hH.2.2 _ _ k_pi).1
  have lt_pn := (hH.2.2 _ _ k_pn).1
  have lt_la := (hH.2.2 _ _ k_la).1
  have lt_ly := (hH.2.2 _ _ k_ly).1
  have lt_od := (hH.2.2 _ _ k_od).1
  have lt_fo := (hH.2.2 _ _ k_fo).1
  have lt_ya := (hH.2.2 _ _ k_ya).1
  have lt_ta := (hH.2.2 _ _ k_ta).1
  have lt_tn := (hH.2.2 _ _ k_tn).1
  have lt_e := (hH.2.2 _ _ k_e).1
  refine hs_aload (i := 0) (p := 1) (by decide +kernel) rfl ?_
  refine hs_iload (i := 1) (p := 2) (by decide +kernel) rfl ?_
  refine ht_callv (T := et_TT) (t := 12) (mi := 128) (na := 1) (ci := 10) (lk := 8) (lm := 2) (L0 := eg_en (eg_mL 128) [.ref th, .int (Int32.ofNat m)]) (by decide +kernel) rfl hH k_th rfl rfl rfl rfl rfl (by rw [show eg_mL 128 = 2 from by decide +kernel]; first | done | rfl) ?_
  refine (fd_needE hH k_th h0 k_s0 h5 hec h6 k_ya hm hE).mono (fun u hu => xp_cb hu ?_)
  show et_go none _ 167 5 _ [.ref e] _ _ _ _
  refine hs_astore (i := 3) (p := 6) (by decide +kernel) (Nat.le_of_ble_eq_true rfl) ?_
  refine hs_aload (i := 0) (p := 7) (by decide +kernel) rfl ?_
  refine hs_iload (i := 2) (p := 8) (by decide +kernel) rfl ?_
  refine ht_callv (T := et_TT) (t := 12) (mi := 147) (na := 1) (ci := 10) (lk := 8) (lm := 2) (L0 := eg_en (eg_mL 147) [.ref th, .int (Int32.ofNat k)]) (by decide +kernel) rfl hH k_th rfl rfl rfl rfl rfl (by rw [show eg_mL 147 = 2 from by decide +kernel]; first | done | rfl) ?_
  refine (fd_needT hH k_th h0 k_s0 g7 htc g8 k_ta hk hT).mono (fun u hu => xp_cb hu ?_)
  show et_go none _ 167 11 _ [.ref tn] _ _ _ _
  refine hs_astore (i := 4) (p := 13) (by decide +kernel) (Nat.le_of_ble_eq_true rfl) ?_
  refine hs_aload (i := 0) (p := 14) (by decide +kernel) rfl ?_
  refine hs_k (x := Int32.ofNat 51) (p := 16) (by decide +kernel) ?_
  have hHo := hH
  refine hf_put (T := et_TT) (t := 12) (ci := 10) (f := 10) (p := 19) (ty := .int) (by decide +kernel) rfl rfl rfl rfl rfl hH k_th hi_any (fun G16 hH x16 e16 => ?_)
  have hXc : ∀ c, c < nc → et_pl (eg_at G16 la) c = some (.int (X c)) := fun c hc => (x16.2 la c lt_la (fun h => (hi_ne k_la k_th (by decide)) h.1)).trans (hXc c hc)
  have hYc : ∀ c, c < nc → et_pl (eg_at G16 ly) c = some (.int (Int32.ofNat (Y c))) := fun c hc => (x16.2 ly c lt_ly (fun h => (hi_ne k_ly k_th (by decide)) h.1)).trans (hYc c hc)
  have ht := ht.xs et_ex.rf hHo x16 (fun b j t h h2 => by rw [h2.1, k_th] at h; cases h; exact ⟨by decide, by decide, by decide, by decide, by decide⟩)
  have hv : evc G16 e ca ki kn v := evC.xs hv t9 hHo x16 (fun b j h => by rw [h.1, k_th]; exact ⟨by decide, by decide⟩)
  have a1 := (x16.2 sp 1 lt_sp (fun h => hi_ne k_sp k_th (by decide) h.1)).trans a1
  have a2 := (x16.2 sp 2 lt_sp (fun h => hi_ne k_sp k_th (by decide) h.1)).trans a2
  have a3 := (x16.2 sp 3 lt_sp (fun h => hi_ne k_sp k_th (by decide) h.1)).trans a3
  have h0 := (x16.2 th 0 lt_th (fun h => absurd h.2 (by decide))).trans h0
  have h4 := (x16.2 th 4 lt_th (fun h => absurd h.2 (by decide))).trans h4
  have h8 := (x16.2 th 8 lt_th (fun h => absurd h.2 (by decide))).trans h8
  have h9 := (x16.2 th 9 lt_th (fun h => absurd h.2 (by decide))).trans h9
  have g2 := (x16.2 s0 2 lt_s0 (fun h => (hi_ne k_s0 k_th (by decide)) h.1)).trans g2
  have g3 := (x16.2 s0 3 lt_s0 (fun h => (hi_ne k_s0 k_th (by decide)) h.1)).trans g3
  have g4 := (x16.2 s0 4 lt_s0 (fun h => (hi_ne k_s0 k_th (by decide)) h.1)).trans g4
  have h5 := (x16.2 s0 5 lt_s0 (fun h => (hi_ne k_s0 k_th (by decide)) h.1)).trans h5
  have h6 := (x16.2 s0 6 lt_s0 (fun h => (hi_ne k_s0 k_th (by decide)) h.1)).trans h6
  have hE := (x16.2 ya m lt_ya (fun h => (hi_ne k_ya k_th (by decide)) h.1)).trans hE
  have g7 := (x16.2 s0 7 lt_s0 (fun h => (hi_ne k_s0 k_th (by decide)) h.1)).trans g7
  have g8 := (x16.2 s0 8 lt_s0 (fun h => (hi_ne k_s0 k_th (by decide)) h.1)).trans g8
  have hT := (x16.2 ta k lt_ta (fun h => (hi_ne k_ta k_th (by decide)) h.1)).trans hT
  have lt_th := Nat.lt_of_lt_of_le lt_th x16.1
  have lt_s0 := Nat.lt_of_lt_of_le lt_s0 x16.1
  have lt_sp := Nat.lt_of_lt_of_le lt_sp x16.1
  have lt_pa := Nat.lt_of_lt_of_le lt_pa x16.1
  have lt_pi := Nat.lt_of_lt_of_le lt_pi x16.1
  have lt_pn := Nat.lt_of_lt_of_le lt_pn x16.1
  have lt_la := Nat.lt_of_lt_of_le lt_la x16.1
  have lt_ly := Nat.lt_of_lt_of_le lt_ly x16.1
  have lt_od := Nat.lt_of_lt_of_le lt_od x16.1
  have lt_fo := Nat.lt_of_lt_of_le lt_fo x16.1
  have lt_ya := Nat.lt_of_lt_of_le lt_ya x16.1
  have lt_ta := Nat.lt_of_lt_of_le lt_ta x16.1
  have lt_tn := Nat.lt_of_lt_of_le lt_tn x16.1
  have lt_e := Nat.lt_of_lt_of_le lt_e x16.1
  refine hs_aload (i := 0) (p := 20) (by decide +kernel) rfl ?_
  refine hf_get (T := et_TT) (t := 12) (ci := 10) (f := 0) (p := 23) (by decide +kernel) rfl hH k_th h0 ?_
  refine hf_get (T := et_TT) (t := 10) (ci := 8) (f := 2) (p := 26) (by decide +kernel) rfl hH k_s0 g2 ?_
  refine hs_k (x := Int32.ofNat 5) (p := 27) (by decide +kernel) ?_
  refine hs_math (mi := 311) (lk := 8) (p := 30) (by decide +kernel) rfl rfl rfl rfl ?_
  rw [mn_I (by omega) (by omega)]
  refine hs_istore (i := 5) (p := 32) (by decide +kernel) (Nat.le_of_ble_eq_true rfl) ?_
  refine hs_k (x := Int32.ofNat 1) (p := 33) (by decide +kernel) ?_
  refine hs_istore (i := 6) (p := 35) (by decide +kernel) (Nat.le_of_ble_eq_true rfl) ?_
  refine hs_k (x := Int32.ofNat 0) (p := 36) (by decide +kernel) ?_
  refine hs_istore (i := 7) (p := 38) (by decide +kernel) (Nat.le_of_ble_eq_true rfl) ?_
  generalize hnq : min nc 5 = n
  refine fd_soP (k := 0) (by omega) ?_ (Nat.zero_le _)
  show et_go none _ 167 58 [some (.ref th), some (.int (Int32.ofNat m)), some (.int (Int32.ofNat k)), some (.ref e), some (.ref tn), some (.int (Int32.ofNat n)), some (.int (Int32.ofNat (n ^ n))), some (.int (Int32.ofNat n))] [] _ _ _ _
  refine hs_k (x := Int32.ofNat 0) (p := 59) (by decide +kernel) ?_
  refine hs_istore (i := 7) (p := 61) (by decide +kernel) (Nat.le_of_ble_eq_true rfl) ?_
  exact fd_soR (row := 0) k_th k_s0 k_sp k_pa k_pi k_pn k_la k_ly k_od k_fo hY1 hnc (by omega) (by omega) hcl hse hp3 hq3 t9 hH h0 h4 h8 h9 e16 g2 g3 g4 hXc hYc a1 a2 a3 hv ht rfl (Nat.zero_le _)
theorem fd_soonT (hH : et_H et_TT K G) (k_th : K th = some 12) (h0 : et_pl (eg_at G th) 0 = some (.ref s0)) (k_s0 : K s0 = some 10) (h5 : et_pl (eg_at G s0) 5 = some (.int (Int32.ofNat ec))) (hec : ec ≤ 3) (h6 : et_pl (eg_at G s0) 6 = some (.ref ya)) (k_ya : K ya = some 40) (hm : m < ec) (hE : et_pl (eg_at G ya) m = some (.ref e)) (g7 : et_pl (eg_at G s0) 7 = some (.int (Int32.ofNat tc))) (htc : tc ≤ 4) (g8 : et_pl (eg_at G s0) 8 = some (.ref ta)) (k_ta : K ta = some 38) (hy : ¬ xr y tc) (hd : 2 ≤ d2) : et_go none d2 167 0 (eg_en (eg_mL 167) [.ref th, .int (Int32.ofNat m), .int y]) [] G 0 0 (ix_Z 1 G) := by
  obtain ⟨d, rfl⟩ : ∃ d, d2 = d + 2 := ⟨d2 - 2, by omega⟩
  rw [show eg_mL 167 = 8 from by decide +kernel]
  show et_go none (d + 2) 167 0 [some (.ref th), some (.int (Int32.ofNat m)), some (.int y), none, none, none, none, none] [] G 0 0 _
  have lt_th := (hH.2.2 _ _ k_th).1
  have lt_s0 := (hH.2.2 _ _ k_s0).1
  have lt_ya := (hH.2.2 _ _ k_ya).1
  have lt_ta := (hH.2.2 _ _ k_ta).1
  refine hs_aload (i := 0) (p := 1) (by decide +kernel) rfl ?_
  refine hs_iload (i := 1) (p := 2) (by decide +kernel) rfl ?_
  refine ht_callv (T := et_TT) (t := 12) (mi := 128) (na := 1) (ci := 10) (lk := 8) (lm := 2) (L0 := eg_en (eg_mL 128) [.ref th, .int (Int32.ofNat m)]) (by decide +kernel) rfl hH k_th rfl rfl rfl rfl rfl (by rw [show eg_mL 128 = 2 from by decide +kernel]; first | done | rfl) ?_
  refine (fd_needE hH k_th h0 k_s0 h5 hec h6 k_ya hm hE).mono (fun u hu => xp_cb hu ?_)
  show et_go none _ 167 5 _ [.ref e] _ _ _ _
  refine hs_astore (i := 3) (p := 6) (by decide +kernel) (Nat.le_of_ble_eq_true rfl) ?_
  refine hs_aload (i := 0) (p := 7) (by decide +kernel) rfl ?_
  refine hs_iload (i := 2) (p := 8) (by decide +kernel) rfl ?_
  refine ht_callv (T := et_TT) (t := 12) (mi := 147) (na := 1) (ci := 10) (lk := 8) (lm := 2) (L0 := eg_en (eg_mL 147) [.ref th, .int y]) (by decide +kernel) rfl hH k_th rfl rfl rfl rfl rfl (by rw [show eg_mL 147 = 2 from by decide +kernel]; first | done | rfl) ?_
  refine (fd_needTn hH k_th h0 k_s0 g7 htc g8 k_ta hy).mono (fun u hu => ?_)
  obtain ⟨c8, s8, rfl⟩ := hu
  refine hf_cx (by decide +kernel) ?_
  exact ⟨_, _, rfl⟩
theorem fd_soonE (hH : et_H et_TT K G) (k_th : K th = some 12) (h0 : et_pl (eg_at G th) 0 = some (.ref s0)) (k_s0 : K s0 = some 10) (h5 : et_pl (eg_at G s0) 5 = some (.int (Int32.ofNat ec))) (hec : ec ≤ 3) (h6 : et_pl (eg_at G s0) 6 = some (.ref ya)) (k_ya : K ya = some 40) (hx : ¬ xr x ec) (hd : 2 ≤ d2) : et_go none d2 167 0 (eg_en (eg_mL 167) [.ref th, .int x, .int y]) [] G 0 0 (ix_Z 1 G) := by
  obtain ⟨d, rfl⟩ : ∃ d, d2 = d + 2 := ⟨d2 - 2, by omega⟩
  rw [show eg_mL 167 = 8 from by decide +kernel]
  show et_go none (d + 2) 167 0 [some (.ref th), some (.int x), some (.int y), none, none, none, none, none] [] G 0 0 _
  have lt_th := (hH.2.2 _ _ k_th).1
  have lt_s0 := (hH.2.2 _ _ k_s0).1
  have lt_ya := (hH.2.2 _ _ k_ya).1
  refine hs_aload (i := 0) (p := 1) (by decide +kernel) rfl ?_
  refine hs_iload (i := 1) (p := 2) (by decide +kernel) rfl ?_
  refine ht_callv (T := et_TT) (t := 12) (mi := 128) (na := 1) (ci := 10) (lk := 8) (lm := 2) (L0 := eg_en (eg_mL 128) [.ref th, .int x]) (by decide +kernel) rfl hH k_th rfl rfl rfl rfl rfl (by rw [show eg_mL 128 = 2 from by decide +kernel]; first | done | rfl) ?_
  refine (fd_needEn hH k_th h0 k_s0 h5 hec h6 k_ya hx).mono (fun u hu => ?_)
  obtain ⟨c2, s2, rfl⟩ := hu
  refine hf_cx (by decide +kernel) ?_
  exact ⟨_, _, rfl⟩
theorem fh_soonT (hH : et_H et_TT K G) (k_th : K th = some 12) (h0 : et_pl (eg_at G th) 0 = some (.ref s0)) (k_s0 : K s0 = some 10) (h5 : et_pl (eg_at G s0) 5 = some (.int (Int32.ofNat ec))) (hec : ec ≤ 3) (h6 : et_pl (eg_at G s0) 6 = some (.ref ya)) (k_ya : K ya = some 40) (hm : m < ec) (hE : et_pl (eg_at G ya) m = some (.ref e)) (g7 : et_pl (eg_at G s0) 7 = some (.int (Int32.ofNat tc))) (htc : tc ≤ 4) (g8 : et_pl (eg_at G s0) 8 = some (.ref ta)) (k_ta : K ta = some 38) (hy : ¬ xr y tc) (hd : 3 ≤ d2) : et_go none d2 26 0 (eg_en (eg_mL 26) [.ref th, .int (Int32.ofNat m), .int y, .ref out]) [] G 0 0 (fun u => u.1 = .inl (some (.int (Int32.ofNat 1))) ∧ u.2.1 = G) := by
  obtain ⟨d, rfl⟩ : ∃ d, d2 = d + 3 := ⟨d2 - 3, by omega⟩
  rw [show eg_mL 26 = 5 from by decide +kernel]
  show et_go none (d + 3) 26 0 [some (.ref th), some (.int (Int32.ofNat m)), some (.int y), some (.ref out), none] [] G 0 0 _
  have lt_th := (hH.2.2 _ _ k_th).1
  refine hs_aload (i := 3) (p := 1) (by decide +kernel) rfl ?_
  refine hs_k (x := Int32.ofNat 0) (p := 2) (by decide +kernel) ?_
  refine hs_aload (i := 0) (p := 3) (by decide +kernel) rfl ?_
  refine hs_iload (i := 1) (p := 4) (by decide +kernel) rfl ?_
  refine hs_iload (i := 2) (p := 5) (by decide +kernel) rfl ?_
  refine ht_callv (T := et_TT) (t := 12) (mi := 167) (na := 2) (ci := 10) (lk := 5) (lm := 8) (L0 := eg_en (eg_mL 167) [.ref th, .int (Int32.ofNat m), .int y]) (by decide +kernel) rfl hH k_th rfl rfl rfl rfl rfl (by rw [show eg_mL 167 = 8 from by decide +kernel]; first | done | rfl) ?_
  refine (fd_soonT hH k_th h0 k_s0 h5 hec h6 k_ya hm hE g7 htc g8 k_ta hy (by omega)).mono (fun u hu => ?_)
  obtain ⟨c5, s5, rfl⟩ := hu
  refine hs_ch (h := 13) (i := 4) (n := 2) (hh := (eg_mh 26).getD []) (by decide +kernel) ⟨by decide +kernel, by decide +kernel⟩ (Nat.le_of_ble_eq_true rfl) ?_
  show et_go none _ 26 15 [some (.ref th), some (.int (Int32.ofNat m)), some (.int y), some (.ref out), none] [] _ _ _ _
  refine hs_k (x := Int32.ofNat 1) (p := 16) (by decide +kernel) ?_
  refine hs_iret (by decide +kernel) ?_
  exact ⟨rfl, rfl⟩
theorem fh_soonE (hH : et_H et_TT K G) (k_th : K th = some 12) (h0 : et_pl (eg_at G th) 0 = some (.ref s0)) (k_s0 : K s0 = some 10) (h5 : et_pl (eg_at G s0) 5 = some (.int (Int32.ofNat ec))) (hec : ec ≤ 3) (h6 : et_pl (eg_at G s0) 6 = some (.ref ya)) (k_ya : K ya = some 40) (hx : ¬ xr x ec) (hd : 3 ≤ d2) : et_go none d2 26 0 (eg_en (eg_mL 26) [.ref th, .int x, .int y, .ref out]) [] G 0 0 (fun u => u.1 = .inl (some (.int (Int32.ofNat 1))) ∧ u.2.1 = G) := by
  obtain ⟨d, rfl⟩ : ∃ d, d2 = d + 3 := ⟨d2 - 3, by omega⟩
  rw [show eg_mL 26 = 5 from by decide +kernel]
  show et_go none (d + 3) 26 0 [some (.ref th), some (.int x), some (.int y), some (.ref out), none] [] G 0 0 _
  have lt_th := (hH.2.2 _ _ k_th).1
  refine hs_aload (i := 3) (p := 1) (by decide +kernel) rfl ?_
  refine hs_k (x := Int32.ofNat 0) (p := 2) (by decide +kernel) ?_
  refine hs_aload (i := 0) (p := 3) (by decide +kernel) rfl ?_
  refine hs_iload (i := 1) (p := 4) (by decide +kernel) rfl ?_
  refine hs_iload (i := 2) (p := 5) (by decide +kernel) rfl ?_
  refine ht_callv (T := et_TT) (t := 12) (mi := 167) (na := 2) (ci := 10) (lk := 5) (lm := 8) (L0 := eg_en (eg_mL 167) [.ref th, .int x, .int y]) (by decide +kernel) rfl hH k_th rfl rfl rfl rfl rfl (by rw [show eg_mL 167 = 8 from by decide +kernel]; first | done | rfl) ?_
  refine (fd_soonE hH k_th h0 k_s0 h5 hec h6 k_ya hx (by omega)).mono (fun u hu => ?_)
  obtain ⟨c5, s5, rfl⟩ := hu
  refine hs_ch (h := 13) (i := 4) (n := 2) (hh := (eg_mh 26).getD []) (by decide +kernel) ⟨by decide +kernel, by decide +kernel⟩ (Nat.le_of_ble_eq_true rfl) ?_
  show et_go none _ 26 15 [some (.ref th), some (.int x), some (.int y), some (.ref out), none] [] _ _ _ _
  refine hs_k (x := Int32.ofNat 1) (p := 16) (by decide +kernel) ?_
  refine hs_iret (by decide +kernel) ?_
  exact ⟨rfl, rfl⟩
theorem fh_soon (hH : et_H et_TT K G) (k_th : K th = some 12) (h0 : et_pl (eg_at G th) 0 = some (.ref s0)) (k_s0 : K s0 = some 10) (h5 : et_pl (eg_at G s0) 5 = some (.int (Int32.ofNat ec))) (hec : ec ≤ 3) (h6 : et_pl (eg_at G s0) 6 = some (.ref ya)) (k_ya : K ya = some 40) (hm : m < ec) (hE : et_pl (eg_at G ya) m = some (.ref e)) (g7 : et_pl (eg_at G s0) 7 = some (.int (Int32.ofNat tc))) (htc : tc ≤ 4) (g8 : et_pl (eg_at G s0) 8 = some (.ref ta)) (k_ta : K ta = some 38) (hk : k < tc) (hT : et_pl (eg_at G ta) k = some (.ref tn)) (h4 : et_pl (eg_at G th) 4 = some (.ref fo)) (k_fo : K fo = some 4) (h8 : et_pl (eg_at G th) 8 = some (.ref sp)) (h9 : et_pl (eg_at G th) 9 = some (.ref od)) (k_od : K od = some 32) (k_sp : K sp = some 3) (k_pa : K pa = some 15) (k_pi : K pi = some 15) (k_pn : K pn = some 15) (hse : ¬ sp = e) (hp3 : ¬ pa = pi ∧ ¬ pa = pn ∧ ¬ pi = pn) (hq3 : ∀ p c, p ∈ [pa, pi, pn] → c ∈ [ca, ki, kn] → ¬ p = c) (t9 : evK K e ca ki kn v.1 v.2.2.1) (hv : evc G e ca ki kn v) (a1 : et_pl (eg_at G sp) 1 = some (.ref pa)) (a2 : et_pl (eg_at G sp) 2 = some (.ref pi)) (a3 : et_pl (eg_at G sp) 3 = some (.ref pn)) (g2 : et_pl (eg_at G s0) 2 = some (.int (Int32.ofNat nc))) (hnc : nc ≤ 20) (hcc : ccP G s0 la ly nc X Y) (k_la : K la = some 17) (k_ly : K ly = some 27) (ht : tuC K G tn ls) (hcl : ∀ l ∈ ls, lcl1 l) (k_out : K out = some 31) (hd : 36 ≤ d2) : et_go none d2 26 0 (eg_en (eg_mL 26) [.ref th, .int (Int32.ofNat m), .int (Int32.ofNat k), .ref out]) [] G 0 0 (fun u => u.1 = .inl (some (.int (Int32.ofNat 0))) ∧ et_pl (eg_at u.2.1 out) 0 = some (.long (snI (clF (soG v X Y ls (min nc 5)) (min nc 5) (min nc 5 ^ min nc 5))).toInt64)) := by
  obtain ⟨d, rfl⟩ : ∃ d, d2 = d + 36 := ⟨d2 - 36, by omega⟩
  rw [show eg_mL 26 = 5 from by decide +kernel]
  show et_go none (d + 36) 26 0 [some (.ref th), some (.int (Int32.ofNat m)), some (.int (Int32.ofNat k)), some (.ref out), none] [] G 0 0 _
  refine hs_aload (i := 3) (p := 1) (by decide +kernel) rfl ?_
  refine hs_k (x := Int32.ofNat 0) (p := 2) (by decide +kernel) ?_
  refine hs_aload (i := 0) (p := 3) (by decide +kernel) rfl ?_
  refine hs_iload (i := 1) (p := 4) (by decide +kernel) rfl ?_
  refine hs_iload (i := 2) (p := 5) (by decide +kernel) rfl ?_
  refine ht_callv (T := et_TT) (t := 12) (mi := 167) (na := 2) (ci := 10) (lk := 5) (lm := 8) (L0 := eg_en (eg_mL 167) [.ref th, .int (Int32.ofNat m), .int (Int32.ofNat k)]) (by decide +kernel) rfl hH k_th rfl rfl rfl rfl rfl (by rw [show eg_mL 167 = 8 from by decide +kernel]; first | done | rfl) ?_
  refine ((ek_p167_ok (K, [], G) [.ref th, .int (Int32.ofNat m), .int (Int32.ofNat k)] _ hH (by show 35 ≤ _; omega) rfl (ht_ac (.inr ⟨by decide, _, rfl, k_th⟩) (ht_ac hi_any (ht_ac hi_any ht_an)))).and (fd_soon hH k_th h0 k_s0 h5 hec h6 k_ya hm hE g7 htc g8 k_ta hk hT h4 k_fo h8 h9 k_od k_sp k_pa k_pi k_pn hse hp3 hq3 t9 hv a1 a2 a3 g2 hnc hcc k_la k_ly ht hcl (by omega))).mono (fun u hu => ?_)
  obtain ⟨⟨es, hes, K1, hx1, hf1, hH1, hv1, -, -⟩, hz⟩ := hu
  obtain ⟨u1, u2, u3, u4⟩ := u
  have hz : u1 = .inl (some (.int (snI (clF (soG v X Y ls (min nc 5)) (min nc 5) (min nc 5 ^ min nc 5))))) := hz
  subst hz
  rcases List.mem_cons.mp hes with rfl | hes
  · have hH := hH1
    have k_out := hx1 _ _ k_out
    refine hs_cb ?_
    show et_go none _ 26 8 _ [.int (snI (clF (soG v X Y ls (min nc 5)) (min nc 5) (min nc 5 ^ min nc 5))), .int (Int32.ofNat 0), .ref out] _ _ _ _
    refine hs_i2l (p := 9) (by decide +kernel) ?_
    refine hf_lst (T := et_TT) (t := 31) (N := 1) (p := 10) (by decide +kernel) rfl rfl hH k_out (by omega) (by decide) (fun G9 hH x9 e9 => ?_)
    refine hs_goto (p := 17) (by decide +kernel) ?_
    refine hs_k (x := Int32.ofNat 0) (p := 18) (by decide +kernel) ?_
    refine hs_iret (by decide +kernel) ?_
    exact ⟨rfl, e9⟩
  · obtain rfl := List.mem_singleton.mp hes
    have hv1 : (Sum.inl (some (Value.int (snI (clF (soG v X Y ls (min nc 5)) (min nc 5) (min nc 5 ^ min nc 5))))) : eg_R) = .inr 1 := hv1
    cases hv1
theorem fz_soon {T9 : Nat → Nat} {LL : Nat → List sp_L} (hH : et_H et_TT K G) (k_th : K th = some 12) (h0 : et_pl (eg_at G th) 0 = some (.ref s0)) (k_s0 : K s0 = some 10) (k_s1 : K s1 = some 10) (h5 : et_pl (eg_at G s0) 5 = some (.int (Int32.ofNat ec))) (hec : ec ≤ 3) (t : ezK K ya yb O A) (hz : ez G th s0 s1 ya yb O A V) (ho : ∀ n, n < 6 → evo (V n)) (g2 : et_pl (eg_at G s0) 2 = some (.int (Int32.ofNat nc))) (hnc : nc ≤ 20) (hcc : ccP G s0 la ly nc X Y) (k_la : K la = some 17) (k_ly : K ly = some 27) (k_out : K out = some 31) (g7 : et_pl (eg_at G s0) 7 = some (.int (Int32.ofNat tc))) (htc : tc ≤ 4) (g8 : et_pl (eg_at G s0) 8 = some (.ref ta)) (k_ta : K ta = some 38) (hTy : tyE K G ta tc T9 LL) (hd : 36 ≤ d2) : et_go none d2 26 0 (eg_en (eg_mL 26) [.ref th, .int x, .int y, .ref out]) [] G 0 0 (fun u => (¬ (xr x ec ∧ xr y tc) ∧ u.1 = .inl (some (.int (Int32.ofNat 1)))) ∨ ∃ n k, (x = Int32.ofNat n ∧ y = Int32.ofNat k) ∧ (n < ec ∧ k < tc) ∧ u.1 = .inl (some (.int (Int32.ofNat 0))) ∧ et_pl (eg_at u.2.1 out) 0 = some (.long (snI (clF (soG (V n) X Y (LL k) (min nc 5)) (min nc 5) (min nc 5 ^ min nc 5))).toInt64)) := by
  by_cases hx : xr x ec
  · obtain ⟨n, rfl, hn⟩ := xr_nat hx (by omega)
    by_cases hy : xr y tc
    · obtain ⟨k, rfl, hk⟩ := xr_nat hy (by omega)
      obtain ⟨⟨hTk, htk⟩, hclk⟩ := hTy k hk
      obtain ⟨fo, h4, k_fo⟩ := hf_ref (t := 12) (f := 4) (u := 4) hH k_th rfl rfl (.inr trivial)
      obtain ⟨od, h9, k_od⟩ := hf_ref (t := 12) (f := 9) (u := 32) hH k_th rfl rfl (.inr trivial)
      have h6t := t.2.1 6 (by decide)
      exact (fh_soon hH k_th h0 k_s0 h5 hec hz.1.1 t.1.1 hn (hz.2.1 n (by omega)).1 g7 htc g8 k_ta hk hTk h4 k_fo hz.1.2.2 h9 k_od h6t.1 (h6t.2 0 (by decide)) (h6t.2 1 (by decide)) (h6t.2 2 (by decide)) (t.on (n := n) (by omega)) t.p6 (t.pq (n := n) (by omega)) (t.ev (ho n (by omega)) (by omega)) (hz.2.2.1 n (by omega)) hz.2.2.2.1 hz.2.2.2.2.1 hz.2.2.2.2.2 g2 hnc hcc k_la k_ly htk hclk k_out hd).mono (fun u hu => .inr ⟨n, k, ⟨rfl, rfl⟩, ⟨hn, hk⟩, hu.1, hu.2⟩)
    · exact (fh_soonT hH k_th h0 k_s0 h5 hec hz.1.1 t.1.1 hn (hz.2.1 n (by omega)).1 g7 htc g8 k_ta hy (by omega)).mono (fun u hu => .inl ⟨fun h => hy h.2, hu.1⟩)
  · exact (fh_soonE hH k_th h0 k_s0 h5 hec hz.1.1 t.1.1 hx (by omega)).mono (fun u hu => .inl ⟨fun h => hx h.1, hu.1⟩)
end YSA
