/-! searches: where the Search object stands, through all calls -/
def syB (K : et_K) (G : eg_G) (th : Nat) : Prop := ∃ se, et_pl (eg_at G th) 5 = some (.ref se) ∧ sePP K G se
def sB_k (M : et_M) : Bool := (!et_mm M 12 5 && (no_t M 43 && no_t M 44)) && ([0, 1, 2, 3, 14, 17].all (fun j => !et_mm M 9 j))
theorem syB.fr {K K' : et_K} {G G' : eg_G} {M : et_M} {th : Nat} (h : syB K G th) (k_th : K th = some 12) (hx : et_ex K K') (hf : et_fr M K G G') (hk : sB_k M = true) : syB K' G' th := by
  unfold sB_k at hk
  rw [Bool.and_eq_true, Bool.and_eq_true, Bool.and_eq_true] at hk
  obtain ⟨⟨q1, q2, q3⟩, q4⟩ := hk
  have q5 := fun j hj => List.all_eq_true.mp q4 j hj
  obtain ⟨se, h1, tA, tR, tS, td, be, sy, h2, ⟨a1, a2, a3, a4, a5, a6⟩, r1, r2, r3⟩ := h
  have fs : ∀ j, j ∈ [0, 1, 2, 3, 14, 17] → et_pl (eg_at G' se) j = et_pl (eg_at G se) j := fun j hj => hf.2 se 9 h2.1.1 j (by simpa using q5 j hj)
  refine ⟨se, (hf.2 th 12 k_th 5 (by simpa using q1)).trans h1, tA, tR, tS, td, be, sy, h2.k (fun b t hb => hx _ _ hb), ⟨(fs 0 (by decide)).trans a1, (fs 1 (by decide)).trans a2, (fs 2 (by decide)).trans a3, (fs 3 (by decide)).trans a4, (fs 14 (by decide)).trans a5, (fs 17 (by decide)).trans a6⟩, fun i hi => (hf.2 tA 43 h2.1.2.1 i (no_mm q2)).trans (r1 i hi), fun i hi => (hf.2 tR 44 h2.1.2.2.1 i (no_mm q3)).trans (r2 i hi), fun i hi => (hf.2 tS 44 h2.1.2.2.2.1 i (no_mm q3)).trans (r3 i hi)⟩
/-- what a search leaves alone: the EYE, the CARDS, where it stands -/
def baI (G : eg_G) (th se tA tR tS td be sy e ca ki kn s0 la ly nc : Nat) (v : evT) (X : Nat → Int32) (Y : Nat → Nat) : Prop := (et_pl (eg_at G th) 0 = some (.ref s0) ∧ et_pl (eg_at G th) 5 = some (.ref se)) ∧ seR G se tA tR tS td be sy ∧ evc G e ca ki kn v ∧ et_pl (eg_at G s0) 2 = some (.int (Int32.ofNat nc)) ∧ ccP G s0 la ly nc X Y
def baK (K : et_K) (th s0 la ly : Nat) : Prop := K th = some 12 ∧ K s0 = some 10 ∧ K la = some 17 ∧ K ly = some 27
section ZUA
variable {K : et_K} {G G' : eg_G} {S : Nat → Nat → Prop} {th se tA tR tS td be sy e ca ki kn s0 la ly nc k b n : Nat} {v : evT} {X : Nat → Int32} {Y : Nat → Nat} {A : Nat → Nat → Int} {P W N : Nat} {st : Bool}
theorem baI.xs (h : baI G th se tA tR tS td be sy e ca ki kn s0 la ly nc v X Y) (t : seT K se tA tR tS td be sy) (t9 : evK K e ca ki kn v.1 v.2.2.1) (kb : baK K th s0 la ly) (hH : et_H et_TT K G) (x : xf S G G') (hs : ∀ b j t, K b = some t → S b j → t = 45 ∨ t = 51 ∨ t = 19 ∨ (t = 9 ∧ ¬ (j ≤ 3 ∨ j = 14 ∨ j = 17)) ∨ (t = 12 ∧ ¬ (j = 0 ∨ j = 5))) : baI G' th se tA tR tS td be sy e ca ki kn s0 la ly nc v X Y := by
  obtain ⟨⟨h1, h2⟩, h3, h4, h5, h6⟩ := h
  obtain ⟨k_th, k_s0, k_la, k_ly⟩ := kb
  have lt : ∀ a t, K a = some t → a < G.2 := fun a t ha => (hH.2.2 a t ha).1
  have f : ∀ a t, K a = some t → ¬ (t = 45 ∨ t = 51 ∨ t = 19 ∨ t = 9 ∨ t = 12) → ∀ j, et_pl (eg_at G' a) j = et_pl (eg_at G a) j := fun a t ha n1 j => x.2 a j (lt _ _ ha) (fun q => n1 (by
    rcases hs _ _ _ ha q with h | h | h | ⟨h, -⟩ | ⟨h, -⟩
    · exact .inl h
    · exact .inr (.inl h)
    · exact .inr (.inr (.inl h))
    · exact .inr (.inr (.inr (.inl h)))
    · exact .inr (.inr (.inr (.inr h)))))
  have fth : ∀ j, j = 0 ∨ j = 5 → et_pl (eg_at G' th) j = et_pl (eg_at G th) j := fun j hj => x.2 th j (lt _ _ k_th) (fun q => by
    rcases hs _ _ _ k_th q with h | h | h | ⟨h, -⟩ | ⟨-, h⟩
    · cases h
    · cases h
    · cases h
    · cases h
    · exact h hj)
  refine ⟨⟨(fth 0 (.inl rfl)).trans h1, (fth 5 (.inr rfl)).trans h2⟩, h3.xs t hH x (fun b j t kb q => ?_), h4.xs t9 hH x (fun b j q => ⟨fun kb => ?_, fun kb => ?_⟩), (f _ _ k_s0 (by decide) 2).trans h5, ⟨⟨(f _ _ k_s0 (by decide) 3).trans h6.1.1, (f _ _ k_s0 (by decide) 4).trans h6.1.2⟩, fun c hc => ⟨(f _ _ k_la (by decide) c).trans (h6.2 c hc).1, (f _ _ k_ly (by decide) c).trans (h6.2 c hc).2.1, (h6.2 c hc).2.2⟩⟩⟩
  · rcases hs _ _ _ kb q with rfl | rfl | rfl | ⟨rfl, h⟩ | ⟨rfl, h⟩
    · exact ⟨by decide, by decide, fun h => absurd h (by decide)⟩
    · exact ⟨by decide, by decide, fun h => absurd h (by decide)⟩
    · exact ⟨by decide, by decide, fun h => absurd h (by decide)⟩
    · exact ⟨by decide, by decide, fun _ => h⟩
    · exact ⟨by decide, by decide, fun h => absurd h (by decide)⟩
  · rcases hs _ _ _ kb q with h | h | h | ⟨h, -⟩ | ⟨h, -⟩ <;> cases h
  · rcases hs _ _ _ kb q with h | h | h | ⟨h, -⟩ | ⟨h, -⟩ <;> cases h
/-- the places of a search, by their types -/
theorem sl_t (t : seT K se tA tR tS td be sy) : ∀ b j u, K b = some u → ((b = se ∧ ((4 ≤ j ∧ j ≤ 9) ∨ (13 ≤ j ∧ j ≤ 16 ∧ ¬ j = 14))) ∨ K b = some 45 ∨ b = td ∨ b = be ∨ b = sy) → u = 45 ∨ u = 51 ∨ u = 19 ∨ (u = 9 ∧ ¬ (j ≤ 3 ∨ j = 14 ∨ j = 17)) ∨ (u = 12 ∧ ¬ (j = 0 ∨ j = 5)) := fun b j u kb q => by
  obtain ⟨⟨k1, k2, k3, k4, k5, k6, k7⟩, -⟩ := t
  rcases q with ⟨q1, q2⟩ | q1 | q1 | q1 | q1
  · rw [q1, k1] at kb
    cases kb
    exact .inr (.inr (.inr (.inl ⟨rfl, by omega⟩)))
  · rw [q1] at kb
    cases kb
    exact .inl rfl
  · rw [q1, k5] at kb
    cases kb
    exact .inr (.inl rfl)
  · rw [q1, k6] at kb
    cases kb
    exact .inr (.inl rfl)
  · rw [q1, k7] at kb
    cases kb
    exact .inr (.inr (.inl rfl))
theorem lsJ.any (h : lsJ st se be W k A P N G) : (foT st k W A P N = none ∧ et_pl (eg_at G se) 13 = some (.int (Int32.ofNat 0))) ∨ (¬ foT st k W A P N = none ∧ et_pl (eg_at G se) 13 = some (.int (Int32.ofNat 1))) := by
  have h9 := h.2
  cases e : foT st k W A P N with
  | none =>
    rw [e] at h9
    exact .inl ⟨rfl, h9.1⟩
  | some q =>
    rw [e] at h9
    exact .inr ⟨(fun h => by cases h), h9.1⟩
end ZUA
/-- BARS -/
def brM (v : evT) (X : Nat → Int32) (Y : Nat → Nat) (nc k : Nat) : Nat := lgF (rsG k v.1 nc (fun c u => vaI (v.2.1 u) (v.2.2.1 u) (X c)) Y) ((2 * k + 1) ^ v.1)
theorem brM_le {v : evT} {X : Nat → Int32} {Y : Nat → Nat} {nc k : Nat} : brM v X Y nc k ≤ nc := lgF_le (fun _ => gdF_le nc) _
def brV (v : evT) (X : Nat → Int32) (Y : Nat → Nat) (nc k : Nat) : Int32 := if nc ≤ brM v X Y nc k then -1 else Int32.ofNat (brM v X Y nc k)
section ZUB
variable {K : et_K} {G G0 : eg_G} {d d2 th s0 ya ec se tA tR tS td be sy e ca ki kn la ly nc n k m q can cno hv9 out am aw va tr be9 : Nat} {v : evT} {X : Nat → Int32} {Y : Nat → Nat} {x y : Int32} {x7 : Option Value} {V : Nat → evT} {s1 yb : Nat} {O : Nat → Nat} {A : Nat → Nat → Nat}
theorem fd_nk (h1 : 1 ≤ k) (h2 : k ≤ q) (hq : q ≤ 3) : et_go none d2 150 0 (eg_en (eg_mL 150) [.int (Int32.ofNat k), .int (Int32.ofNat q)]) [] G 0 0 (xp_Z G none) := by
  rw [show eg_mL 150 = 2 from by decide +kernel]
  show et_go none d2 150 0 [some (.int (Int32.ofNat k)), some (.int (Int32.ofNat q))] [] G 0 0 _
  refine hs_iload (i := 0) (p := 1) (by decide +kernel) rfl ?_
  refine hs_k (x := Int32.ofNat 1) (p := 2) (by decide +kernel) ?_
  refine hs_br2n (c := .lt) (t := 10) (f := 5) (by decide +kernel) (by omega) (by omega) (fun (c2 : k < 1) => ?_) (fun (c2 : ¬ (k < 1)) => ?_)
  · exact absurd c2 (by omega)
  · refine hs_iload (i := 0) (p := 6) (by decide +kernel) rfl ?_
    refine hs_iload (i := 1) (p := 7) (by decide +kernel) rfl ?_
    refine hs_br2n (c := .le) (t := 18) (f := 10) (by decide +kernel) (by omega) (by omega) (fun (c7 : k ≤ q) => ?_) (fun (c7 : ¬ (k ≤ q)) => ?_)
    · refine hs_vret (by decide +kernel) ?_
      rfl
    · exact absurd h2 c7
theorem fd_nkn (hq : q ≤ 3) (hy : ¬ (1 ≤ y.toInt ∧ y.toInt ≤ q)) : et_go none d2 150 0 (eg_en (eg_mL 150) [.int y, .int (Int32.ofNat q)]) [] G 0 0 (ix_Z 0 G) := by
  rw [show eg_mL 150 = 2 from by decide +kernel]
  show et_go none d2 150 0 [some (.int y), some (.int (Int32.ofNat q))] [] G 0 0 _
  refine hs_iload (i := 0) (p := 1) (by decide +kernel) rfl ?_
  refine hs_k (x := Int32.ofNat 1) (p := 2) (by decide +kernel) ?_
  refine hs_br2 (c := .lt) (t := 10) (f := 5) (by decide +kernel) (fun (c2 : y < Int32.ofNat 1) => ?_) (fun (c2 : ¬ (y < Int32.ofNat 1)) => ?_)
  · refine hs_thr (x := 0) (lk := 2) (by decide +kernel) rfl rfl ?_
    exact ⟨_, _, rfl⟩
  · refine hs_iload (i := 0) (p := 6) (by decide +kernel) rfl ?_
    refine hs_iload (i := 1) (p := 7) (by decide +kernel) rfl ?_
    refine hs_br2 (c := .le) (t := 18) (f := 10) (by decide +kernel) (fun (c7 : y ≤ Int32.ofNat q) => ?_) (fun (c7 : ¬ (y ≤ Int32.ofNat q)) => ?_)
    · exact absurd ⟨by rw [xi_ltn (k := 1) (by decide)] at c2; omega, by rw [xi_len (k := q) (by omega)] at c7; omega⟩ hy
    · refine hs_thr (x := 0) (lk := 2) (by decide +kernel) rfl rfl ?_
      exact ⟨_, _, rfl⟩
theorem fd_fgt (hH : et_H et_TT K G) (k_th : K th = some 12) : et_go none d2 120 0 (eg_en (eg_mL 120) [.ref th]) [] G 0 0 (xw_Z (fun b j => (b = th ∧ (6 ≤ j ∧ j ≤ 7))) K G (fun g v9 => v9 = none ∧ et_pl (eg_at g th) 6 = some (.int (-1)) ∧ et_pl (eg_at g th) 7 = some (.int (-1)))) := by
  rw [show eg_mL 120 = 1 from by decide +kernel]
  show et_go none d2 120 0 [some (.ref th)] [] G 0 0 _
  have lt_th := (hH.2.2 _ _ k_th).1
  have hX : xf (fun b j => (b = th ∧ (6 ≤ j ∧ j ≤ 7))) G G := xf.rf
  refine hs_aload (i := 0) (p := 1) (by decide +kernel) rfl ?_
  refine hs_k (x := (-1)) (p := 2) (by decide +kernel) ?_
  refine hf_put (T := et_TT) (t := 12) (ci := 10) (f := 6) (p := 5) (ty := .int) (by decide +kernel) rfl rfl rfl rfl rfl hH k_th (hi_iv (by decide) (by decide)) (fun G2 hH x2 e2 => ?_)
  have lt_th := Nat.lt_of_lt_of_le lt_th x2.1
  have hX := hX.tr x2 (fun b j hb h => by first | omega | (dsimp only at h ⊢; omega) | (dsimp only at h; omega) | (dsimp only; omega))
  refine hs_aload (i := 0) (p := 6) (by decide +kernel) rfl ?_
  refine hs_k (x := (-1)) (p := 7) (by decide +kernel) ?_
  refine hf_put (T := et_TT) (t := 12) (ci := 10) (f := 7) (p := 10) (ty := .int) (by decide +kernel) rfl rfl rfl rfl rfl hH k_th (hi_iv (by decide) (by decide)) (fun G7 hH x7 e7 => ?_)
  have e2 := (x7.2 th 6 lt_th (fun h => absurd h.2 (by decide))).trans e2
  have lt_th := Nat.lt_of_lt_of_le lt_th x7.1
  have hX := hX.tr x7 (fun b j hb h => by first | omega | (dsimp only at h ⊢; omega) | (dsimp only at h; omega) | (dsimp only; omega))
  refine hs_vret (by decide +kernel) ?_
  exact ⟨_, _, rfl, hH, hX, rfl, e2, e7⟩
theorem fd_baL (hH : et_H et_TT K G) (t : seT K se tA tR tS td be sy) (t9 : evK K e ca ki kn v.1 v.2.2.1) (kb : baK K th s0 la ly) (hba : baI G th se tA tR tS td be sy e ca ki kn s0 la ly nc v X Y) (hnc : nc ≤ 20) (hk : k ≤ 3) (i1 : can ≤ (brM v X Y nc k)) (i2 : (brM v X Y nc k) < cno) (i3 : cno ≤ nc + 1) (i4 : cno - can + hv9 ≤ 21) : et_go none (d + 14) 154 32 [some (.ref th), some (.int (Int32.ofNat n)), some (.int (Int32.ofNat k)), some (.ref e), some (.int (Int32.ofNat can)), some (.int (Int32.ofNat cno)), some (.int (Int32.ofNat hv9)), x7] [] G 0 0 (fun u => u.1 = .inl (some (.int (brV v X Y nc k)))) := by
  induction hq9 : 21 - hv9 using Nat.strongRecOn generalizing can cno hv9 G x7 with
  | _ q9 ih =>
    have k_th := kb.1
    have k_s0 := kb.2.1
    have k_la := kb.2.2.1
    have k_ly := kb.2.2.2
    have k_se := t.1.1
    have k_tA := t.1.2.1
    have k_tR := t.1.2.2.1
    have k_tS := t.1.2.2.2.1
    have k_td := t.1.2.2.2.2.1
    have k_be := t.1.2.2.2.2.2.1
    have k_sy := t.1.2.2.2.2.2.2
    have h0 := hba.1.1
    have q5e := hba.1.2
    have hsR := hba.2.1
    have hv := hba.2.2.1
    have g2 := hba.2.2.2.1
    have hcc := hba.2.2.2.2
    refine hs_iload (i := 6) (p := 34) (by decide +kernel) rfl ?_
    refine hs_k (x := Int32.ofNat 20) (p := 36) (by decide +kernel) ?_
    refine hs_br2n (c := .ge) (t := 99) (f := 39) (by decide +kernel) (by omega) (by omega) (fun (c36 : 20 ≤ hv9) => ?_) (fun (c36 : ¬ (20 ≤ hv9)) => ?_)
    · refine hs_iload (i := 4) (p := 101) (by decide +kernel) rfl ?_
      refine hs_aload (i := 0) (p := 102) (by decide +kernel) rfl ?_
      refine hf_get (T := et_TT) (t := 12) (ci := 10) (f := 0) (p := 105) (by decide +kernel) rfl hH k_th h0 ?_
      refine hf_get (T := et_TT) (t := 10) (ci := 8) (f := 2) (p := 108) (by decide +kernel) rfl hH k_s0 g2 ?_
      refine hs_br2n (c := .lt) (t := 115) (f := 111) (by decide +kernel) (by omega) (by omega) (fun (c108 : can < nc) => ?_) (fun (c108 : ¬ (can < nc)) => ?_)
      · refine hs_iload (i := 4) (p := 117) (by decide +kernel) rfl ?_
        refine hs_iret (by decide +kernel) ?_
        have e9 : can = (brM v X Y nc k) := by omega
        show _ = _
        rw [show brV v X Y nc k = Int32.ofNat (brM v X Y nc k) from if_neg (by omega), ← e9]
      · refine hs_k (x := (-1)) (p := 112) (by decide +kernel) ?_
        refine hs_goto (p := 117) (by decide +kernel) ?_
        refine hs_iret (by decide +kernel) ?_
        have e9 : can = (brM v X Y nc k) := by omega
        show _ = _
        rw [show brV v X Y nc k = -1 from if_pos (by omega)]
    · refine hs_iload (i := 5) (p := 41) (by decide +kernel) rfl ?_
      refine hs_iload (i := 4) (p := 43) (by decide +kernel) rfl ?_
      refine hs_isubn (p := 44) (by decide +kernel) (by omega) ?_
      refine hs_k (x := Int32.ofNat 1) (p := 45) (by decide +kernel) ?_
      refine hs_br2n (c := .le) (t := 99) (f := 48) (by decide +kernel) (by omega) (by omega) (fun (c45 : (cno - can) ≤ 1) => ?_) (fun (c45 : ¬ ((cno - can) ≤ 1)) => ?_)
      · refine hs_iload (i := 4) (p := 101) (by decide +kernel) rfl ?_
        refine hs_aload (i := 0) (p := 102) (by decide +kernel) rfl ?_
        refine hf_get (T := et_TT) (t := 12) (ci := 10) (f := 0) (p := 105) (by decide +kernel) rfl hH k_th h0 ?_
        refine hf_get (T := et_TT) (t := 10) (ci := 8) (f := 2) (p := 108) (by decide +kernel) rfl hH k_s0 g2 ?_
        refine hs_br2n (c := .lt) (t := 115) (f := 111) (by decide +kernel) (by omega) (by omega) (fun (c108 : can < nc) => ?_) (fun (c108 : ¬ (can < nc)) => ?_)
        · refine hs_iload (i := 4) (p := 117) (by decide +kernel) rfl ?_
          refine hs_iret (by decide +kernel) ?_
          have e9 : can = (brM v X Y nc k) := by omega
          show _ = _
          rw [show brV v X Y nc k = Int32.ofNat (brM v X Y nc k) from if_neg (by omega), ← e9]
        · refine hs_k (x := (-1)) (p := 112) (by decide +kernel) ?_
          refine hs_goto (p := 117) (by decide +kernel) ?_
          refine hs_iret (by decide +kernel) ?_
          have e9 : can = (brM v X Y nc k) := by omega
          show _ = _
          rw [show brV v X Y nc k = -1 from if_pos (by omega)]
      · refine hs_iload (i := 4) (p := 50) (by decide +kernel) rfl ?_
        refine hs_iload (i := 5) (p := 52) (by decide +kernel) rfl ?_
        refine hs_iaddn (p := 53) (by decide +kernel) ?_
        refine hs_k (x := Int32.ofNat 2) (p := 54) (by decide +kernel) ?_
        refine hs_idiv (p := 55) (by decide +kernel) (hs_nz (by omega) (by omega)) ?_
        rw [so_d (by omega) (by omega) (by omega)]
        refine hs_istore (i := 7) (p := 57) (by decide +kernel) (Nat.le_of_ble_eq_true rfl) ?_
        refine hs_aload (i := 0) (p := 58) (by decide +kernel) rfl ?_
        refine hf_get (T := et_TT) (t := 12) (ci := 10) (f := 5) (p := 61) (by decide +kernel) rfl hH k_th q5e ?_
        refine hs_aload (i := 3) (p := 62) (by decide +kernel) rfl ?_
        refine hs_aload (i := 0) (p := 63) (by decide +kernel) rfl ?_
        refine hf_get (T := et_TT) (t := 12) (ci := 10) (f := 0) (p := 66) (by decide +kernel) rfl hH k_th h0 ?_
        refine hs_iload (i := 7) (p := 68) (by decide +kernel) rfl ?_
        refine hs_iload (i := 2) (p := 69) (by decide +kernel) rfl ?_
        have hm9 : ((can + cno) / 2) ≤ nc := by omega
        refine ht_callv (T := et_TT) (t := 9) (mi := 98) (na := 4) (ci := 7) (lk := 8) (lm := 5) (L0 := eg_en (eg_mL 98) [.ref se, .ref e, .ref s0, .int (Int32.ofNat ((can + cno) / 2)), .int (Int32.ofNat k)]) (by decide +kernel) rfl hH k_se rfl rfl rfl rfl rfl (by rw [show eg_mL 98 = 5 from by decide +kernel]; first | done | rfl) ?_
        refine (fd_first (m := ((can + cno) / 2)) hH t t9 k_s0 k_la k_ly hsR hv g2 hcc hnc hk hm9 (by omega)).mono (fun u9 hu9 => xw_cb hu9 (fun G2 v2 hH2 x2 hP2 => ?_))
        obtain ⟨rfl, hJ⟩ := hP2
        have hba := hba.xs t t9 kb hH x2 (fun b j u kb q => sl_t t b j u kb q)
        have hH := hH2
        have h0 := hba.1.1
        have q5e := hba.1.2
        have hsR := hba.2.1
        have hv := hba.2.2.1
        have g2 := hba.2.2.2.1
        have hcc := hba.2.2.2.2
        have hbs := br_same (k := k) (W := v.1) (nc := nc) (m := ((can + cno) / 2)) (n := (2 * k + 1) ^ v.1) (X := X) (Y := Y) (C := v.2.1) (Kd := v.2.2.1) hk t9.2.1 hm9 (Nat.pow_pos (by omega))
        rcases hJ.any with ⟨hz, q13⟩ | ⟨hz, q13⟩
        · have hlt : ¬ ((can + cno) / 2) ≤ (brM v X Y nc k) := fun h9 => hbs.mpr h9 hz
          show et_go none _ 154 72 _ [] _ _ _ _
          refine hs_aload (i := 0) (p := 73) (by decide +kernel) rfl ?_
          refine hf_get (T := et_TT) (t := 12) (ci := 10) (f := 5) (p := 76) (by decide +kernel) rfl hH k_th q5e ?_
          refine hf_get (T := et_TT) (t := 9) (ci := 7) (f := 13) (p := 79) (by decide +kernel) rfl hH k_se q13 ?_
          refine hs_if1 (c := .eq) (t := 89) (f := 82) (by decide +kernel) (show Int32.ofNat 0 = 0 by decide) ?_
          refine hs_iload (i := 7) (p := 91) (by decide +kernel) rfl ?_
          refine hs_istore (i := 5) (p := 93) (by decide +kernel) (Nat.le_of_ble_eq_true rfl) ?_
          refine hs_iinc1 (i := 6) (p := 96) (by decide +kernel) rfl (Nat.le_of_ble_eq_true rfl) ?_
          refine hs_goto (p := 32) (by decide +kernel) ?_
          exact ih (21 - (hv9 + 1)) (by omega) hH hba (by omega) (by omega) (by omega) (by omega) rfl
        · have hlt : ((can + cno) / 2) ≤ (brM v X Y nc k) := hbs.mp hz
          show et_go none _ 154 72 _ [] _ _ _ _
          refine hs_aload (i := 0) (p := 73) (by decide +kernel) rfl ?_
          refine hf_get (T := et_TT) (t := 12) (ci := 10) (f := 5) (p := 76) (by decide +kernel) rfl hH k_th q5e ?_
          refine hf_get (T := et_TT) (t := 9) (ci := 7) (f := 13) (p := 79) (by decide +kernel) rfl hH k_se q13 ?_
          refine hs_if0 (c := .eq) (t := 89) (f := 82) (by decide +kernel) (show ¬ (Int32.ofNat 1 = 0) by decide) ?_
          refine hs_iload (i := 7) (p := 84) (by decide +kernel) rfl ?_
          refine hs_istore (i := 4) (p := 86) (by decide +kernel) (Nat.le_of_ble_eq_true rfl) ?_
          refine hs_goto (p := 93) (by decide +kernel) ?_
          refine hs_iinc1 (i := 6) (p := 96) (by decide +kernel) rfl (Nat.le_of_ble_eq_true rfl) ?_
          refine hs_goto (p := 32) (by decide +kernel) ?_
          exact ih (21 - (hv9 + 1)) (by omega) hH hba (by omega) (by omega) (by omega) (by omega) rfl
theorem fd_bars (hH : et_H et_TT K G) (k_th : K th = some 12) (h0 : et_pl (eg_at G th) 0 = some (.ref s0)) (k_s0 : K s0 = some 10) (h5 : et_pl (eg_at G s0) 5 = some (.int (Int32.ofNat ec))) (hec : ec ≤ 3) (h6 : et_pl (eg_at G s0) 6 = some (.ref ya)) (k_ya : K ya = some 40) (hn : n < ec) (hE : et_pl (eg_at G ya) n = some (.ref e)) (t9 : evK K e ca ki kn v.1 v.2.2.1) (hv : evc G e ca ki kn v) (g2 : et_pl (eg_at G s0) 2 = some (.int (Int32.ofNat nc))) (hnc : nc ≤ 20) (hcc : ccP G s0 la ly nc X Y) (k_la : K la = some 17) (k_ly : K ly = some 27) (t : seT K se tA tR tS td be sy) (hsR : seR G se tA tR tS td be sy) (q5e : et_pl (eg_at G th) 5 = some (.ref se)) (hk1 : 1 ≤ k) (hk : k ≤ 3) (hd : 14 ≤ d2) : et_go none d2 154 0 (eg_en (eg_mL 154) [.ref th, .int (Int32.ofNat n), .int (Int32.ofNat k)]) [] G 0 0 (fun u => u.1 = .inl (some (.int (brV v X Y nc k)))) := by
  obtain ⟨d, rfl⟩ : ∃ d, d2 = d + 14 := ⟨d2 - 14, by omega⟩
  rw [show eg_mL 154 = 8 from by decide +kernel]
  show et_go none (d + 14) 154 0 [some (.ref th), some (.int (Int32.ofNat n)), some (.int (Int32.ofNat k)), none, none, none, none, none] [] G 0 0 _
  have k_se := t.1.1
  have k_tA := t.1.2.1
  have k_tR := t.1.2.2.1
  have k_tS := t.1.2.2.2.1
  have k_td := t.1.2.2.2.2.1
  have k_be := t.1.2.2.2.2.2.1
  have k_sy := t.1.2.2.2.2.2.2
  have k_e := t9.1.1
  have hle := brM_le (v := v) (X := X) (Y := Y) (nc := nc) (k := k)
  have lt_th := (hH.2.2 _ _ k_th).1
  have lt_s0 := (hH.2.2 _ _ k_s0).1
  have lt_ya := (hH.2.2 _ _ k_ya).1
  refine hs_aload (i := 0) (p := 1) (by decide +kernel) rfl ?_
  refine hs_iload (i := 1) (p := 2) (by decide +kernel) rfl ?_
  refine ht_callv (T := et_TT) (t := 12) (mi := 128) (na := 1) (ci := 10) (lk := 8) (lm := 2) (L0 := eg_en (eg_mL 128) [.ref th, .int (Int32.ofNat n)]) (by decide +kernel) rfl hH k_th rfl rfl rfl rfl rfl (by rw [show eg_mL 128 = 2 from by decide +kernel]; first | done | rfl) ?_
  refine (fd_needE hH k_th h0 k_s0 h5 hec h6 k_ya hn hE).mono (fun u hu => xp_cb hu ?_)
  show et_go none _ 154 5 _ [.ref e] _ _ _ _
  refine hs_astore (i := 3) (p := 6) (by decide +kernel) (Nat.le_of_ble_eq_true rfl) ?_
  refine hs_iload (i := 2) (p := 7) (by decide +kernel) rfl ?_
  refine hs_k (x := Int32.ofNat 3) (p := 8) (by decide +kernel) ?_
  refine hs_calls (mi := 150) (na := 2) (lk := 8) (lm := 2) (L0 := eg_en (eg_mL 150) [.int (Int32.ofNat k), .int (Int32.ofNat 3)]) (by decide +kernel) rfl rfl rfl rfl rfl rfl (by rw [show eg_mL 150 = 2 from by decide +kernel]; first | done | rfl) ?_
  refine (fd_nk hk1 hk (by decide)).mono (fun u hu => xp_cb hu ?_)
  show et_go none _ 154 11 _ [] _ _ _ _
  refine hs_aload (i := 0) (p := 12) (by decide +kernel) rfl ?_
  have kb : baK K th s0 la ly := ⟨k_th, k_s0, k_la, k_ly⟩
  have hba : baI G th se tA tR tS td be sy e ca ki kn s0 la ly nc v X Y := ⟨⟨h0, q5e⟩, hsR, hv, g2, hcc⟩
  refine ht_callv (T := et_TT) (t := 12) (mi := 120) (na := 0) (ci := 10) (lk := 8) (lm := 1) (L0 := eg_en (eg_mL 120) [.ref th]) (by decide +kernel) rfl hH k_th rfl rfl rfl rfl rfl (by rw [show eg_mL 120 = 1 from by decide +kernel]; first | done | rfl) ?_
  refine (fd_fgt hH k_th).mono (fun u9 hu9 => xw_cb hu9 (fun G2 v2 hH2 x2 hP2 => ?_))
  obtain ⟨rfl, -, -⟩ := hP2
  have hba := hba.xs t t9 kb hH x2 (fun b j u kb q => by rw [q.1, k_th] at kb; cases kb; exact .inr (.inr (.inr (.inr ⟨rfl, by have h := q.2; omega⟩))))
  have hH := hH2
  have h0 := hba.1.1
  have q5e := hba.1.2
  have hsR := hba.2.1
  have hv := hba.2.2.1
  have g2 := hba.2.2.2.1
  have hcc := hba.2.2.2.2
  show et_go none _ 154 15 _ [] _ _ _ _
  refine hs_k (x := Int32.ofNat 0) (p := 16) (by decide +kernel) ?_
  refine hs_istore (i := 4) (p := 18) (by decide +kernel) (Nat.le_of_ble_eq_true rfl) ?_
  refine hs_aload (i := 0) (p := 19) (by decide +kernel) rfl ?_
  refine hf_get (T := et_TT) (t := 12) (ci := 10) (f := 0) (p := 22) (by decide +kernel) rfl hH k_th h0 ?_
  refine hf_get (T := et_TT) (t := 10) (ci := 8) (f := 2) (p := 25) (by decide +kernel) rfl hH k_s0 g2 ?_
  refine hs_k (x := Int32.ofNat 1) (p := 26) (by decide +kernel) ?_
  refine hs_iaddn (p := 27) (by decide +kernel) ?_
  refine hs_istore (i := 5) (p := 29) (by decide +kernel) (Nat.le_of_ble_eq_true rfl) ?_
  refine hs_k (x := Int32.ofNat 0) (p := 30) (by decide +kernel) ?_
  refine hs_istore (i := 6) (p := 32) (by decide +kernel) (Nat.le_of_ble_eq_true rfl) ?_
  exact fd_baL hH t t9 kb hba hnc hk (Nat.zero_le _) (by omega) (Nat.le_refl _) (by omega)
theorem fd_barsR (hH : et_H et_TT K G) (k_th : K th = some 12) (h0 : et_pl (eg_at G th) 0 = some (.ref s0)) (k_s0 : K s0 = some 10) (h5 : et_pl (eg_at G s0) 5 = some (.int (Int32.ofNat ec))) (hec : ec ≤ 3) (h6 : et_pl (eg_at G s0) 6 = some (.ref ya)) (k_ya : K ya = some 40) (hn : n < ec) (hE : et_pl (eg_at G ya) n = some (.ref e)) (hy : ¬ (1 ≤ y.toInt ∧ y.toInt ≤ 3)) (hd : 5 ≤ d2) : et_go none d2 154 0 (eg_en (eg_mL 154) [.ref th, .int (Int32.ofNat n), .int y]) [] G 0 0 (ix_Z 0 G) := by
  obtain ⟨d, rfl⟩ : ∃ d, d2 = d + 5 := ⟨d2 - 5, by omega⟩
  rw [show eg_mL 154 = 8 from by decide +kernel]
  show et_go none (d + 5) 154 0 [some (.ref th), some (.int (Int32.ofNat n)), some (.int y), none, none, none, none, none] [] G 0 0 _
  have lt_th := (hH.2.2 _ _ k_th).1
  have lt_s0 := (hH.2.2 _ _ k_s0).1
  have lt_ya := (hH.2.2 _ _ k_ya).1
  refine hs_aload (i := 0) (p := 1) (by decide +kernel) rfl ?_
  refine hs_iload (i := 1) (p := 2) (by decide +kernel) rfl ?_
  refine ht_callv (T := et_TT) (t := 12) (mi := 128) (na := 1) (ci := 10) (lk := 8) (lm := 2) (L0 := eg_en (eg_mL 128) [.ref th, .int (Int32.ofNat n)]) (by decide +kernel) rfl hH k_th rfl rfl rfl rfl rfl (by rw [show eg_mL 128 = 2 from by decide +kernel]; first | done | rfl) ?_
  refine (fd_needE hH k_th h0 k_s0 h5 hec h6 k_ya hn hE).mono (fun u hu => xp_cb hu ?_)
  show et_go none _ 154 5 _ [.ref e] _ _ _ _
  refine hs_astore (i := 3) (p := 6) (by decide +kernel) (Nat.le_of_ble_eq_true rfl) ?_
  refine hs_iload (i := 2) (p := 7) (by decide +kernel) rfl ?_
  refine hs_k (x := Int32.ofNat 3) (p := 8) (by decide +kernel) ?_
  refine hs_calls (mi := 150) (na := 2) (lk := 8) (lm := 2) (L0 := eg_en (eg_mL 150) [.int y, .int (Int32.ofNat 3)]) (by decide +kernel) rfl rfl rfl rfl rfl rfl (by rw [show eg_mL 150 = 2 from by decide +kernel]; first | done | rfl) ?_
  refine (fd_nkn (q := 3) (by decide) hy).mono (fun u hu => ?_)
  obtain ⟨c8, s8, rfl⟩ := hu
  refine hf_cx (by decide +kernel) ?_
  exact ⟨_, _, rfl⟩
theorem fd_barsE (hH : et_H et_TT K G) (k_th : K th = some 12) (h0 : et_pl (eg_at G th) 0 = some (.ref s0)) (k_s0 : K s0 = some 10) (h5 : et_pl (eg_at G s0) 5 = some (.int (Int32.ofNat ec))) (hec : ec ≤ 3) (h6 : et_pl (eg_at G s0) 6 = some (.ref ya)) (k_ya : K ya = some 40) (hx : ¬ xr x ec) (hd : 5 ≤ d2) : et_go none d2 154 0 (eg_en (eg_mL 154) [.ref th, .int x, .int y]) [] G 0 0 (ix_Z 1 G) := by
  obtain ⟨d, rfl⟩ : ∃ d, d2 = d + 5 := ⟨d2 - 5, by omega⟩
  rw [show eg_mL 154 = 8 from by decide +kernel]
  show et_go none (d + 5) 154 0 [some (.ref th), some (.int x), some (.int y), none, none, none, none, none] [] G 0 0 _
  have lt_th := (hH.2.2 _ _ k_th).1
  have lt_s0 := (hH.2.2 _ _ k_s0).1
  have lt_ya := (hH.2.2 _ _ k_ya).1
  refine hs_aload (i := 0) (p := 1) (by decide +kernel) rfl ?_
  refine hs_iload (i := 1) (p := 2) (by decide +kernel) rfl ?_
  refine ht_callv (T := et_TT) (t := 12) (mi := 128) (na := 1) (ci := 10) (lk := 8) (lm := 2) (L0 := eg_en (eg_mL 128) [.ref th, .int x]) (by decide +kernel) rfl hH k_th rfl rfl rfl rfl rfl (by rw [show eg_mL 128 = 2 from by decide +kernel]; first | done | rfl) ?_
  refine (fd_needEn hH k_th h0 k_s0 h5 hec h6 k_ya hx).mono (fun u hu => ?_)
  obtain ⟨c2, s2, rfl⟩ := hu
  refine hf_cx (by decide +kernel) ?_
  exact ⟨_, _, rfl⟩
theorem fh_bars (hH : et_H et_TT K G) (k_th : K th = some 12) (h0 : et_pl (eg_at G th) 0 = some (.ref s0)) (k_s0 : K s0 = some 10) (h5 : et_pl (eg_at G s0) 5 = some (.int (Int32.ofNat ec))) (hec : ec ≤ 3) (h6 : et_pl (eg_at G s0) 6 = some (.ref ya)) (k_ya : K ya = some 40) (hn : n < ec) (hE : et_pl (eg_at G ya) n = some (.ref e)) (t9 : evK K e ca ki kn v.1 v.2.2.1) (hv : evc G e ca ki kn v) (g2 : et_pl (eg_at G s0) 2 = some (.int (Int32.ofNat nc))) (hnc : nc ≤ 20) (hcc : ccP G s0 la ly nc X Y) (k_la : K la = some 17) (k_ly : K ly = some 27) (t : seT K se tA tR tS td be sy) (hsR : seR G se tA tR tS td be sy) (q5e : et_pl (eg_at G th) 5 = some (.ref se)) (k_out : K out = some 31) (hk1 : 1 ≤ k) (hk : k ≤ 3) (hd : 34 ≤ d2) : et_go none d2 16 0 (eg_en (eg_mL 16) [.ref th, .int (Int32.ofNat n), .int (Int32.ofNat k), .ref out]) [] G 0 0 (fun u => u.1 = .inl (some (.int (Int32.ofNat 0))) ∧ et_pl (eg_at u.2.1 out) 0 = some (.long (brV v X Y nc k).toInt64)) := by
  obtain ⟨d, rfl⟩ : ∃ d, d2 = d + 34 := ⟨d2 - 34, by omega⟩
  rw [show eg_mL 16 = 5 from by decide +kernel]
  show et_go none (d + 34) 16 0 [some (.ref th), some (.int (Int32.ofNat n)), some (.int (Int32.ofNat k)), some (.ref out), none] [] G 0 0 _
  refine hs_aload (i := 3) (p := 1) (by decide +kernel) rfl ?_
  refine hs_k (x := Int32.ofNat 0) (p := 2) (by decide +kernel) ?_
  refine hs_aload (i := 0) (p := 3) (by decide +kernel) rfl ?_
  refine hs_iload (i := 1) (p := 4) (by decide +kernel) rfl ?_
  refine hs_iload (i := 2) (p := 5) (by decide +kernel) rfl ?_
  refine ht_callv (T := et_TT) (t := 12) (mi := 154) (na := 2) (ci := 10) (lk := 5) (lm := 8) (L0 := eg_en (eg_mL 154) [.ref th, .int (Int32.ofNat n), .int (Int32.ofNat k)]) (by decide +kernel) rfl hH k_th rfl rfl rfl rfl rfl (by rw [show eg_mL 154 = 8 from by decide +kernel]; first | done | rfl) ?_
  refine ((es_s154 (K, [], G) [.ref th, .int (Int32.ofNat n), .int (Int32.ofNat k)] _ hH (by show 14 ≤ _; omega) rfl (ht_ac (.inr ⟨by decide, _, rfl, k_th⟩) (ht_ac hi_any (ht_ac hi_any ht_an)))).and (fd_bars hH k_th h0 k_s0 h5 hec h6 k_ya hn hE t9 hv g2 hnc hcc k_la k_ly t hsR q5e hk1 hk (by omega))).mono (fun u hu => ?_)
  obtain ⟨⟨es, hes, K1, hx1, hf1, hH1, hv1, -, -⟩, hz⟩ := hu
  obtain ⟨u1, u2, u3, u4⟩ := u
  have hz : u1 = .inl (some (.int (brV v X Y nc k))) := hz
  subst hz
  rcases List.mem_cons.mp hes with rfl | hes
  · have hH := hH1
    have k_out := hx1 _ _ k_out
    refine hs_cb ?_
    show et_go none _ 16 8 _ [.int (brV v X Y nc k), .int (Int32.ofNat 0), .ref out] _ _ _ _
    refine hs_i2l (p := 9) (by decide +kernel) ?_
    refine hf_lst (T := et_TT) (t := 31) (N := 1) (p := 10) (by decide +kernel) rfl rfl hH k_out (by omega) (by decide) (fun G9 hH x9 e9 => ?_)
    refine hs_goto (p := 21) (by decide +kernel) ?_
    refine hs_k (x := Int32.ofNat 0) (p := 22) (by decide +kernel) ?_
    refine hs_iret (by decide +kernel) ?_
    exact ⟨rfl, e9⟩
  · rcases List.mem_cons.mp hes with rfl | hes
    · have hv1 : (Sum.inl (some (Value.int (brV v X Y nc k))) : eg_R) = .inr 0 := hv1
      cases hv1
    obtain rfl := List.mem_singleton.mp hes
    have hv1 : (Sum.inl (some (Value.int (brV v X Y nc k))) : eg_R) = .inr 1 := hv1
    cases hv1
theorem fh_barsR (hH : et_H et_TT K G) (k_th : K th = some 12) (h0 : et_pl (eg_at G th) 0 = some (.ref s0)) (k_s0 : K s0 = some 10) (h5 : et_pl (eg_at G s0) 5 = some (.int (Int32.ofNat ec))) (hec : ec ≤ 3) (h6 : et_pl (eg_at G s0) 6 = some (.ref ya)) (k_ya : K ya = some 40) (hn : n < ec) (hE : et_pl (eg_at G ya) n = some (.ref e)) (hy : ¬ (1 ≤ y.toInt ∧ y.toInt ≤ 3)) (hd : 6 ≤ d2) : et_go none d2 16 0 (eg_en (eg_mL 16) [.ref th, .int (Int32.ofNat n), .int y, .ref out]) [] G 0 0 (fun u => u.1 = .inl (some (.int (Int32.ofNat 2))) ∧ u.2.1 = G) := by
  obtain ⟨d, rfl⟩ : ∃ d, d2 = d + 6 := ⟨d2 - 6, by omega⟩
  rw [show eg_mL 16 = 5 from by decide +kernel]
  show et_go none (d + 6) 16 0 [some (.ref th), some (.int (Int32.ofNat n)), some (.int y), some (.ref out), none] [] G 0 0 _
  have lt_th := (hH.2.2 _ _ k_th).1
  refine hs_aload (i := 3) (p := 1) (by decide +kernel) rfl ?_
  refine hs_k (x := Int32.ofNat 0) (p := 2) (by decide +kernel) ?_
  refine hs_aload (i := 0) (p := 3) (by decide +kernel) rfl ?_
  refine hs_iload (i := 1) (p := 4) (by decide +kernel) rfl ?_
  refine hs_iload (i := 2) (p := 5) (by decide +kernel) rfl ?_
  refine ht_callv (T := et_TT) (t := 12) (mi := 154) (na := 2) (ci := 10) (lk := 5) (lm := 8) (L0 := eg_en (eg_mL 154) [.ref th, .int (Int32.ofNat n), .int y]) (by decide +kernel) rfl hH k_th rfl rfl rfl rfl rfl (by rw [show eg_mL 154 = 8 from by decide +kernel]; first | done | rfl) ?_
  refine (fd_barsR hH k_th h0 k_s0 h5 hec h6 k_ya hn hE hy (by omega)).mono (fun u hu => ?_)
  obtain ⟨c5, s5, rfl⟩ := hu
  refine hs_ch (h := 17) (i := 4) (n := 2) (hh := (eg_mh 16).getD []) (by decide +kernel) ⟨by decide +kernel, by decide +kernel⟩ (Nat.le_of_ble_eq_true rfl) ?_
  show et_go none _ 16 19 [some (.ref th), some (.int (Int32.ofNat n)), some (.int y), some (.ref out), none] [] _ _ _ _
  refine hs_k (x := Int32.ofNat 2) (p := 20) (by decide +kernel) ?_
  refine hs_iret (by decide +kernel) ?_
  exact ⟨rfl, rfl⟩
theorem fh_barsE (hH : et_H et_TT K G) (k_th : K th = some 12) (h0 : et_pl (eg_at G th) 0 = some (.ref s0)) (k_s0 : K s0 = some 10) (h5 : et_pl (eg_at G s0) 5 = some (.int (Int32.ofNat ec))) (hec : ec ≤ 3) (h6 : et_pl (eg_at G s0) 6 = some (.ref ya)) (k_ya : K ya = some 40) (hx : ¬ xr x ec) (hd : 6 ≤ d2) : et_go none d2 16 0 (eg_en (eg_mL 16) [.ref th, .int x, .int y, .ref out]) [] G 0 0 (fun u => u.1 = .inl (some (.int (Int32.ofNat 1))) ∧ u.2.1 = G) := by
  obtain ⟨d, rfl⟩ : ∃ d, d2 = d + 6 := ⟨d2 - 6, by omega⟩
  rw [show eg_mL 16 = 5 from by decide +kernel]
  show et_go none (d + 6) 16 0 [some (.ref th), some (.int x), some (.int y), some (.ref out), none] [] G 0 0 _
  have lt_th := (hH.2.2 _ _ k_th).1
  refine hs_aload (i := 3) (p := 1) (by decide +kernel) rfl ?_
  refine hs_k (x := Int32.ofNat 0) (p := 2) (by decide +kernel) ?_
  refine hs_aload (i := 0) (p := 3) (by decide +kernel) rfl ?_
  refine hs_iload (i := 1) (p := 4) (by decide +kernel) rfl ?_
  refine hs_iload (i := 2) (p := 5) (by decide +kernel) rfl ?_
  refine ht_callv (T := et_TT) (t := 12) (mi := 154) (na := 2) (ci := 10) (lk := 5) (lm := 8) (L0 := eg_en (eg_mL 154) [.ref th, .int x, .int y]) (by decide +kernel) rfl hH k_th rfl rfl rfl rfl rfl (by rw [show eg_mL 154 = 8 from by decide +kernel]; first | done | rfl) ?_
  refine (fd_barsE hH k_th h0 k_s0 h5 hec h6 k_ya hx (by omega)).mono (fun u hu => ?_)
  obtain ⟨c5, s5, rfl⟩ := hu
  refine hs_ch (h := 13) (i := 4) (n := 2) (hh := (eg_mh 16).getD []) (by decide +kernel) ⟨by decide +kernel, by decide +kernel⟩ (Nat.le_of_ble_eq_true rfl) ?_
  show et_go none _ 16 15 [some (.ref th), some (.int x), some (.int y), some (.ref out), none] [] _ _ _ _
  refine hs_k (x := Int32.ofNat 1) (p := 16) (by decide +kernel) ?_
  refine hs_iret (by decide +kernel) ?_
  exact ⟨rfl, rfl⟩
theorem fz_bars (hH : et_H et_TT K G) (k_th : K th = some 12) (h0 : et_pl (eg_at G th) 0 = some (.ref s0)) (k_s0 : K s0 = some 10) (k_s1 : K s1 = some 10) (h5 : et_pl (eg_at G s0) 5 = some (.int (Int32.ofNat ec))) (hec : ec ≤ 3) (t : ezK K ya yb O A) (hz : ez G th s0 s1 ya yb O A V) (ho : ∀ n, n < 6 → evo (V n)) (g2 : et_pl (eg_at G s0) 2 = some (.int (Int32.ofNat nc))) (hnc : nc ≤ 20) (hcc : ccP G s0 la ly nc X Y) (k_la : K la = some 17) (k_ly : K ly = some 27) (k_out : K out = some 31) (hsy : syB K G th) (hd : 34 ≤ d2) : et_go none d2 16 0 (eg_en (eg_mL 16) [.ref th, .int x, .int y, .ref out]) [] G 0 0 (fun u => (¬ xr x ec ∧ u.1 = .inl (some (.int (Int32.ofNat 1))) ∧ u.2.1 = G) ∨ ∃ n, (x = Int32.ofNat n ∧ n < ec) ∧ ((¬ (1 ≤ y.toInt ∧ y.toInt ≤ 3) ∧ u.1 = .inl (some (.int (Int32.ofNat 2))) ∧ u.2.1 = G) ∨ ∃ k, (y = Int32.ofNat k ∧ 1 ≤ k ∧ k ≤ 3) ∧ u.1 = .inl (some (.int (Int32.ofNat 0))) ∧ et_pl (eg_at u.2.1 out) 0 = some (.long (brV (V n) X Y nc k).toInt64))) := by
  obtain ⟨se, q5e, tA, tR, tS, td, be, sy, t8, hsR⟩ := hsy
  by_cases hx : xr x ec
  · obtain ⟨n, rfl, hn⟩ := xr_nat hx (by omega)
    by_cases hs3 : (1 ≤ y.toInt ∧ y.toInt ≤ 3)
    · obtain ⟨k, rfl, q2, q3⟩ := hs_toN (x := y) (by omega)
      exact (fh_bars hH k_th h0 k_s0 h5 hec hz.1.1 t.1.1 hn (hz.2.1 n (by omega)).1 (t.ev (ho n (by omega)) (by omega)) (hz.2.2.1 n (by omega)) g2 hnc hcc k_la k_ly t8 hsR q5e k_out (by omega) (by omega) hd).mono (fun u hu => .inr ⟨n, ⟨rfl, hn⟩, .inr ⟨k, ⟨rfl, by omega, by omega⟩, hu.1, hu.2⟩⟩)
    · exact (fh_barsR hH k_th h0 k_s0 h5 hec hz.1.1 t.1.1 hn (hz.2.1 n (by omega)).1 hs3 (by omega)).mono (fun u hu => .inr ⟨n, ⟨rfl, hn⟩, .inl ⟨hs3, hu.1, hu.2⟩⟩)
  · exact (fh_barsE hH k_th h0 k_s0 h5 hec hz.1.1 t.1.1 hx (by omega)).mono (fun u hu => .inl ⟨hx, hu.1, hu.2⟩)
end ZUB
section ZUC
variable {K : et_K} {G : eg_G} {d d2 am aw ec n k q nc va tr be : Nat} {x y : Int32} {V : Nat → evT} {X : Nat → Int32} {Y : Nat → Nat}
theorem fn_nsY (hH : et_H et_TT K G) (k_am : K am = some 13) (k_aw : K aw = some 46) (m1 : et_pl (eg_at G am) 1 = some (.ref aw)) (w4 : et_pl (eg_at G aw) 4 = some (.int (Int32.ofNat ec))) (hec : ec ≤ 3) (hm : zyM G aw ec V) (ho : ∀ n, n < 3 → evo (V n)) (hq : q ≤ 3) (hn : n < ec) (h1 : 1 ≤ k) (h2 : k ≤ q) (hd : 2 ≤ d2) : et_go none d2 254 0 (eg_en (eg_mL 254) [.ref am, .int (Int32.ofNat n), .int (Int32.ofNat k), .int (Int32.ofNat q)]) [] G 0 0 (xp_Z G (some (.int (Int32.ofNat 0)))) := by
  obtain ⟨d, rfl⟩ : ∃ d, d2 = d + 2 := ⟨d2 - 2, by omega⟩
  have ok1 : (Int32.ofNat 1).toInt = 1 := rfl
  have okk : (Int32.ofNat k).toInt = k := hs_nint (by omega)
  have okq : (Int32.ofNat q).toInt = q := hs_nint (by omega)
  rw [show eg_mL 254 = 4 from by decide +kernel]
  show et_go none (d + 2) 254 0 [some (.ref am), some (.int (Int32.ofNat n)), some (.int (Int32.ofNat k)), some (.int (Int32.ofNat q))] [] G 0 0 _
  have lt_am := (hH.2.2 _ _ k_am).1
  have lt_aw := (hH.2.2 _ _ k_aw).1
  refine hs_aload (i := 0) (p := 1) (by decide +kernel) rfl ?_
  refine hs_aload (i := 0) (p := 2) (by decide +kernel) rfl ?_
  refine hs_iload (i := 1) (p := 3) (by decide +kernel) rfl ?_
  refine ht_callv (T := et_TT) (t := 13) (mi := 208) (na := 1) (ci := 11) (lk := 4) (lm := 2) (L0 := eg_en (eg_mL 208) [.ref am, .int (Int32.ofNat n)]) (by decide +kernel) rfl hH k_am rfl rfl rfl rfl rfl (by rw [show eg_mL 208 = 2 from by decide +kernel]; first | done | rfl) ?_
  refine (fm_nEy hH k_am k_aw m1 w4 hec hn (by omega)).mono (fun u hu => xp_cb hu ?_)
  show et_go none _ 254 6 _ [.int (Int32.ofNat 0), .ref am] _ _ _ _
  refine hs_k (x := Int32.ofNat 1) (p := 7) (by decide +kernel) ?_
  refine ht_callv (T := et_TT) (t := 13) (mi := 204) (na := 2) (ci := 11) (lk := 4) (lm := 3) (L0 := eg_en (eg_mL 204) [.ref am, .int (Int32.ofNat 0), .int (Int32.ofNat 1)]) (by decide +kernel) rfl hH k_am rfl rfl rfl rfl rfl (by rw [show eg_mL 204 = 3 from by decide +kernel]; first | done | rfl) ?_
  refine (fm_t0 hH k_am).mono (fun u hu => xp_cb hu ?_)
  show et_go none _ 254 10 _ [.int (Int32.ofNat 0)] _ _ _ _
  refine hs_if0 (c := .ne) (t := 35) (f := 13) (by decide +kernel) (show ¬ (¬ Int32.ofNat 0 = 0) by decide) ?_
  refine hs_aload (i := 0) (p := 14) (by decide +kernel) rfl ?_
  refine hs_iload (i := 2) (p := 15) (by decide +kernel) rfl ?_
  refine hs_k (x := Int32.ofNat 1) (p := 16) (by decide +kernel) ?_
  refine hs_iload (i := 3) (p := 17) (by decide +kernel) rfl ?_
  refine hs_calls (mi := 209) (na := 3) (lk := 4) (lm := 3) (L0 := eg_en (eg_mL 209) [.int (Int32.ofNat k), .int (Int32.ofNat 1), .int (Int32.ofNat q)]) (by decide +kernel) rfl rfl rfl rfl rfl rfl (by rw [show eg_mL 209 = 3 from by decide +kernel]; first | done | rfl) ?_
  refine (fm_in (x := Int32.ofNat k) (y := Int32.ofNat 1) (z := Int32.ofNat q)).mono (fun u hu => xp_cb hu ?_)
  by_cases xw : (Int32.ofNat 1).toInt ≤ (Int32.ofNat k).toInt ∧ (Int32.ofNat k).toInt ≤ (Int32.ofNat q).toInt
  · rw [if_pos xw]
    show et_go none _ 254 20 _ [.int (Int32.ofNat 1), .ref am] _ _ _ _
    refine hs_if1 (c := .ne) (t := 27) (f := 23) (by decide +kernel) (show ¬ Int32.ofNat 1 = 0 by decide) ?_
    refine hs_k (x := Int32.ofNat 0) (p := 28) (by decide +kernel) ?_
    refine hs_k (x := Int32.ofNat 2) (p := 29) (by decide +kernel) ?_
    refine ht_callv (T := et_TT) (t := 13) (mi := 204) (na := 2) (ci := 11) (lk := 4) (lm := 3) (L0 := eg_en (eg_mL 204) [.ref am, .int (Int32.ofNat 0), .int (Int32.ofNat 2)]) (by decide +kernel) rfl hH k_am rfl rfl rfl rfl rfl (by rw [show eg_mL 204 = 3 from by decide +kernel]; first | done | rfl) ?_
    refine (fm_t0 hH k_am).mono (fun u hu => xp_cb hu ?_)
    show et_go none _ 254 32 _ [.int (Int32.ofNat 0)] _ _ _ _
    refine hs_if1 (c := .eq) (t := 39) (f := 35) (by decide +kernel) (show Int32.ofNat 0 = 0 by decide) ?_
    refine hs_k (x := Int32.ofNat 0) (p := 40) (by decide +kernel) ?_
    refine hs_zret (by decide +kernel) (.inl rfl) ?_
    rfl
  · exact absurd ⟨by omega, by omega⟩ xw
theorem fn_nsK (hH : et_H et_TT K G) (k_am : K am = some 13) (k_aw : K aw = some 46) (m1 : et_pl (eg_at G am) 1 = some (.ref aw)) (w4 : et_pl (eg_at G aw) 4 = some (.int (Int32.ofNat ec))) (hec : ec ≤ 3) (hm : zyM G aw ec V) (ho : ∀ n, n < 3 → evo (V n)) (hq : q ≤ 3) (hn : n < ec) (hy : ¬ (1 ≤ y.toInt ∧ y.toInt ≤ q)) (hd : 2 ≤ d2) : et_go none d2 254 0 (eg_en (eg_mL 254) [.ref am, .int (Int32.ofNat n), .int y, .int (Int32.ofNat q)]) [] G 0 0 (xw_Z (fun b j => b = am ∧ j = 0) K G (fun g v9 => v9 = some (.int (Int32.ofNat 1)) ∧ et_pl (eg_at g am) 0 = some (.int (Int32.ofNat 2)))) := by
  obtain ⟨d, rfl⟩ : ∃ d, d2 = d + 2 := ⟨d2 - 2, by omega⟩
  have ok1 : (Int32.ofNat 1).toInt = 1 := rfl
  have okq : (Int32.ofNat q).toInt = q := hs_nint (by omega)
  rw [show eg_mL 254 = 4 from by decide +kernel]
  show et_go none (d + 2) 254 0 [some (.ref am), some (.int (Int32.ofNat n)), some (.int y), some (.int (Int32.ofNat q))] [] G 0 0 _
  have lt_am := (hH.2.2 _ _ k_am).1
  have lt_aw := (hH.2.2 _ _ k_aw).1
  refine hs_aload (i := 0) (p := 1) (by decide +kernel) rfl ?_
  refine hs_aload (i := 0) (p := 2) (by decide +kernel) rfl ?_
  refine hs_iload (i := 1) (p := 3) (by decide +kernel) rfl ?_
  refine ht_callv (T := et_TT) (t := 13) (mi := 208) (na := 1) (ci := 11) (lk := 4) (lm := 2) (L0 := eg_en (eg_mL 208) [.ref am, .int (Int32.ofNat n)]) (by decide +kernel) rfl hH k_am rfl rfl rfl rfl rfl (by rw [show eg_mL 208 = 2 from by decide +kernel]; first | done | rfl) ?_
  refine (fm_nEy hH k_am k_aw m1 w4 hec hn (by omega)).mono (fun u hu => xp_cb hu ?_)
  show et_go none _ 254 6 _ [.int (Int32.ofNat 0), .ref am] _ _ _ _
  refine hs_k (x := Int32.ofNat 1) (p := 7) (by decide +kernel) ?_
  refine ht_callv (T := et_TT) (t := 13) (mi := 204) (na := 2) (ci := 11) (lk := 4) (lm := 3) (L0 := eg_en (eg_mL 204) [.ref am, .int (Int32.ofNat 0), .int (Int32.ofNat 1)]) (by decide +kernel) rfl hH k_am rfl rfl rfl rfl rfl (by rw [show eg_mL 204 = 3 from by decide +kernel]; first | done | rfl) ?_
  refine (fm_t0 hH k_am).mono (fun u hu => xp_cb hu ?_)
  show et_go none _ 254 10 _ [.int (Int32.ofNat 0)] _ _ _ _
  refine hs_if0 (c := .ne) (t := 35) (f := 13) (by decide +kernel) (show ¬ (¬ Int32.ofNat 0 = 0) by decide) ?_
  refine hs_aload (i := 0) (p := 14) (by decide +kernel) rfl ?_
  refine hs_iload (i := 2) (p := 15) (by decide +kernel) rfl ?_
  refine hs_k (x := Int32.ofNat 1) (p := 16) (by decide +kernel) ?_
  refine hs_iload (i := 3) (p := 17) (by decide +kernel) rfl ?_
  refine hs_calls (mi := 209) (na := 3) (lk := 4) (lm := 3) (L0 := eg_en (eg_mL 209) [.int y, .int (Int32.ofNat 1), .int (Int32.ofNat q)]) (by decide +kernel) rfl rfl rfl rfl rfl rfl (by rw [show eg_mL 209 = 3 from by decide +kernel]; first | done | rfl) ?_
  refine (fm_in (x := y) (y := Int32.ofNat 1) (z := Int32.ofNat q)).mono (fun u hu => xp_cb hu ?_)
  by_cases xw : (Int32.ofNat 1).toInt ≤ (y).toInt ∧ (y).toInt ≤ (Int32.ofNat q).toInt
  · exact absurd ⟨by omega, by omega⟩ hy
  · rw [if_neg xw]
    show et_go none _ 254 20 _ [.int (Int32.ofNat 0), .ref am] _ _ _ _
    refine hs_if0 (c := .ne) (t := 27) (f := 23) (by decide +kernel) (show ¬ (¬ Int32.ofNat 0 = 0) by decide) ?_
    refine hs_k (x := Int32.ofNat 1) (p := 24) (by decide +kernel) ?_
    refine hs_goto (p := 28) (by decide +kernel) ?_
    refine hs_k (x := Int32.ofNat 2) (p := 29) (by decide +kernel) ?_
    refine ht_callv (T := et_TT) (t := 13) (mi := 204) (na := 2) (ci := 11) (lk := 4) (lm := 3) (L0 := eg_en (eg_mL 204) [.ref am, .int (Int32.ofNat 1), .int (Int32.ofNat 2)]) (by decide +kernel) rfl hH k_am rfl rfl rfl rfl rfl (by rw [show eg_mL 204 = 3 from by decide +kernel]; first | done | rfl) ?_
    refine (fm_t1 hH k_am).mono (fun u hu => xw_cb hu (fun G29 v29 hH x29 hP29 => ?_))
    have hX9 := x29
    have hm := hm.mv ho (fun j _ _ => x29.2 aw j lt_aw (fun h => hi_ne k_aw k_am (by decide) h.1))
    have m1 := (x29.2 am 1 lt_am (fun h => absurd h.2 (by decide))).trans m1
    have w4 := (x29.2 aw 4 lt_aw (fun h => (hi_ne k_aw k_am (by decide)) h.1)).trans w4
    have lt_am := Nat.lt_of_lt_of_le lt_am x29.1
    have lt_aw := Nat.lt_of_lt_of_le lt_aw x29.1
    obtain ⟨rfl, th29⟩ := hP29
    show et_go none _ 254 32 _ [.int (Int32.ofNat 1)] _ _ _ _
    refine hs_if0 (c := .eq) (t := 39) (f := 35) (by decide +kernel) (show ¬ (Int32.ofNat 1 = 0) by decide) ?_
    refine hs_k (x := Int32.ofNat 1) (p := 36) (by decide +kernel) ?_
    refine hs_goto (p := 40) (by decide +kernel) ?_
    refine hs_zret (by decide +kernel) (.inr rfl) ?_
    exact ⟨_, _, rfl, hH, hX9.wk (fun b j _ h => ⟨h.1, by have h2 := h.2; omega⟩), rfl, th29⟩
theorem fn_nsE (hH : et_H et_TT K G) (k_am : K am = some 13) (k_aw : K aw = some 46) (m1 : et_pl (eg_at G am) 1 = some (.ref aw)) (w4 : et_pl (eg_at G aw) 4 = some (.int (Int32.ofNat ec))) (hec : ec ≤ 3) (hm : zyM G aw ec V) (ho : ∀ n, n < 3 → evo (V n)) (hq : q ≤ 3) (hx : ¬ xr x ec) (hd : 2 ≤ d2) : et_go none d2 254 0 (eg_en (eg_mL 254) [.ref am, .int x, .int y, .int (Int32.ofNat q)]) [] G 0 0 (xw_Z (fun b j => b = am ∧ j = 0) K G (fun g v9 => v9 = some (.int (Int32.ofNat 1)) ∧ et_pl (eg_at g am) 0 = some (.int (Int32.ofNat 1)))) := by
  obtain ⟨d, rfl⟩ : ∃ d, d2 = d + 2 := ⟨d2 - 2, by omega⟩
  rw [show eg_mL 254 = 4 from by decide +kernel]
  show et_go none (d + 2) 254 0 [some (.ref am), some (.int x), some (.int y), some (.int (Int32.ofNat q))] [] G 0 0 _
  have lt_am := (hH.2.2 _ _ k_am).1
  have lt_aw := (hH.2.2 _ _ k_aw).1
  refine hs_aload (i := 0) (p := 1) (by decide +kernel) rfl ?_
  refine hs_aload (i := 0) (p := 2) (by decide +kernel) rfl ?_
  refine hs_iload (i := 1) (p := 3) (by decide +kernel) rfl ?_
  refine ht_callv (T := et_TT) (t := 13) (mi := 208) (na := 1) (ci := 11) (lk := 4) (lm := 2) (L0 := eg_en (eg_mL 208) [.ref am, .int x]) (by decide +kernel) rfl hH k_am rfl rfl rfl rfl rfl (by rw [show eg_mL 208 = 2 from by decide +kernel]; first | done | rfl) ?_
  refine (fm_nEn hH k_am k_aw m1 w4 hec hx (by omega)).mono (fun u hu => xp_cb hu ?_)
  show et_go none _ 254 6 _ [.int (Int32.ofNat 1), .ref am] _ _ _ _
  refine hs_k (x := Int32.ofNat 1) (p := 7) (by decide +kernel) ?_
  refine ht_callv (T := et_TT) (t := 13) (mi := 204) (na := 2) (ci := 11) (lk := 4) (lm := 3) (L0 := eg_en (eg_mL 204) [.ref am, .int (Int32.ofNat 1), .int (Int32.ofNat 1)]) (by decide +kernel) rfl hH k_am rfl rfl rfl rfl rfl (by rw [show eg_mL 204 = 3 from by decide +kernel]; first | done | rfl) ?_
  refine (fm_t1 hH k_am).mono (fun u hu => xw_cb hu (fun G7 v7 hH x7 hP7 => ?_))
  have hX9 := x7
  have hm := hm.mv ho (fun j _ _ => x7.2 aw j lt_aw (fun h => hi_ne k_aw k_am (by decide) h.1))
  have m1 := (x7.2 am 1 lt_am (fun h => absurd h.2 (by decide))).trans m1
  have w4 := (x7.2 aw 4 lt_aw (fun h => (hi_ne k_aw k_am (by decide)) h.1)).trans w4
  have lt_am := Nat.lt_of_lt_of_le lt_am x7.1
  have lt_aw := Nat.lt_of_lt_of_le lt_aw x7.1
  obtain ⟨rfl, th7⟩ := hP7
  show et_go none _ 254 10 _ [.int (Int32.ofNat 1)] _ _ _ _
  refine hs_if1 (c := .ne) (t := 35) (f := 13) (by decide +kernel) (show ¬ Int32.ofNat 1 = 0 by decide) ?_
  refine hs_k (x := Int32.ofNat 1) (p := 36) (by decide +kernel) ?_
  refine hs_goto (p := 40) (by decide +kernel) ?_
  refine hs_zret (by decide +kernel) (.inr rfl) ?_
  exact ⟨_, _, rfl, hH, hX9.wk (fun b j _ h => ⟨h.1, by have h2 := h.2; omega⟩), rfl, th7⟩
theorem fn_bars (hH : et_H et_TT K G) (k_am : K am = some 13) (k_aw : K aw = some 46) (m1 : et_pl (eg_at G am) 1 = some (.ref aw)) (w4 : et_pl (eg_at G aw) 4 = some (.int (Int32.ofNat ec))) (hec : ec ≤ 3) (hm : zyM G aw ec V) (ho : ∀ n, n < 3 → evo (V n)) (w3 : et_pl (eg_at G aw) 3 = some (.int (Int32.ofNat nc))) (hnc : nc ≤ 20) (hcr : crP G aw nc X Y) (hn : n < ec) (hk1 : 1 ≤ k) (hk : k ≤ 3) (hd : 8 ≤ d2) : et_go none d2 260 0 (eg_en (eg_mL 260) [.ref am, .int (Int32.ofNat n), .int (Int32.ofNat k)]) [] G 0 0 (fun u => u.1 = .inl (some (.int (brV (V n) X Y nc k))) ∧ et_pl (eg_at u.2.1 am) 0 = some (.int (Int32.ofNat 0))) := by
  obtain ⟨d, rfl⟩ : ∃ d, d2 = d + 8 := ⟨d2 - 8, by omega⟩
  have hle := brM_le (v := V n) (X := X) (Y := Y) (nc := nc) (k := k)
  rw [show eg_mL 260 = 3 from by decide +kernel]
  show et_go none (d + 8) 260 0 [some (.ref am), some (.int (Int32.ofNat n)), some (.int (Int32.ofNat k))] [] G 0 0 _
  have lt_am := (hH.2.2 _ _ k_am).1
  have lt_aw := (hH.2.2 _ _ k_aw).1
  refine hs_aload (i := 0) (p := 1) (by decide +kernel) rfl ?_
  refine hs_k (x := Int32.ofNat 0) (p := 2) (by decide +kernel) ?_
  refine hf_put (T := et_TT) (t := 13) (ci := 11) (f := 0) (p := 5) (ty := .int) (by decide +kernel) rfl rfl rfl rfl rfl hH k_am hi_any (fun G2 hH x2 e2 => ?_)
  have hm := hm.mv ho (fun j _ _ => x2.2 aw j lt_aw (fun h => hi_ne k_aw k_am (by decide) h.1))
  have hcr : crP G2 aw nc X Y := fun k hk => ⟨(x2.2 aw _ lt_aw (fun h => hi_ne k_aw k_am (by decide) h.1)).trans (hcr k hk).1, (x2.2 aw _ lt_aw (fun h => hi_ne k_aw k_am (by decide) h.1)).trans (hcr k hk).2.1, (hcr k hk).2.2⟩
  have w3 := (x2.2 aw 3 lt_aw (fun h => hi_ne k_aw k_am (by decide) h.1)).trans w3
  have m1 := (x2.2 am 1 lt_am (fun h => absurd h.2 (by decide))).trans m1
  have w4 := (x2.2 aw 4 lt_aw (fun h => (hi_ne k_aw k_am (by decide)) h.1)).trans w4
  have lt_am := Nat.lt_of_lt_of_le lt_am x2.1
  have lt_aw := Nat.lt_of_lt_of_le lt_aw x2.1
  refine hs_aload (i := 0) (p := 6) (by decide +kernel) rfl ?_
  refine hs_iload (i := 1) (p := 7) (by decide +kernel) rfl ?_
  refine hs_iload (i := 2) (p := 8) (by decide +kernel) rfl ?_
  refine hs_k (x := Int32.ofNat 3) (p := 9) (by decide +kernel) ?_
  refine ht_callv (T := et_TT) (t := 13) (mi := 254) (na := 3) (ci := 11) (lk := 3) (lm := 4) (L0 := eg_en (eg_mL 254) [.ref am, .int (Int32.ofNat n), .int (Int32.ofNat k), .int (Int32.ofNat 3)]) (by decide +kernel) rfl hH k_am rfl rfl rfl rfl rfl (by rw [show eg_mL 254 = 4 from by decide +kernel]; first | done | rfl) ?_
  refine (fn_nsY (q := 3) hH k_am k_aw m1 w4 hec hm ho (by decide) hn hk1 hk (by omega)).mono (fun u hu => xp_cb hu ?_)
  show et_go none _ 260 12 _ [.int (Int32.ofNat 0)] _ _ _ _
  refine hs_if1 (c := .eq) (t := 17) (f := 15) (by decide +kernel) (show Int32.ofNat 0 = 0 by decide) ?_
  refine hs_aload (i := 0) (p := 18) (by decide +kernel) rfl ?_
  refine hs_iload (i := 1) (p := 19) (by decide +kernel) rfl ?_
  refine hs_iload (i := 2) (p := 20) (by decide +kernel) rfl ?_
  obtain ⟨va, m20, k_va⟩ := hf_ref (t := 13) (f := 20) (u := 20) hH k_am rfl rfl (.inr trivial)
  obtain ⟨tr, m21, k_tr⟩ := hf_ref (t := 13) (f := 21) (u := 49) hH k_am rfl rfl (.inr trivial)
  obtain ⟨be, m22, k_be⟩ := hf_ref (t := 13) (f := 22) (u := 50) hH k_am rfl rfl (.inr trivial)
  refine ht_callv (T := et_TT) (t := 13) (mi := 255) (na := 2) (ci := 11) (lk := 3) (lm := 6) (L0 := eg_en (eg_mL 255) [.ref am, .int (Int32.ofNat n), .int (Int32.ofNat k)]) (by decide +kernel) rfl hH k_am rfl rfl rfl rfl rfl (by rw [show eg_mL 255 = 6 from by decide +kernel]; first | done | rfl) ?_
  refine (fn_tries (v := V n) hH k_am k_aw k_va k_tr k_be m1 m20 m21 m22 (by omega) (ho n (by omega)) ((hm n (by omega)).1 hn) hk hnc w3 hcr (by omega)).mono (fun u9 hu9 => xw_cb hu9 (fun G9 v9 hH9 x9 hP9 => ?_))
  obtain ⟨rfl, hts, hrs⟩ := hP9
  have th0 := (x9.2 am 0 (hH.2.2 _ _ k_am).1 (fun h => by have n1 : ¬ am = be := hi_ne k_am k_be (by decide); have n2 : ¬ am = tr := hi_ne k_am k_tr (by decide); have n3 : ¬ am = va := hi_ne k_am k_va (by decide); rcases h with h | h | h | h; omega; exact n1 h; exact n2 h; exact n3 h)).trans e2
  have hH := hH9
  have m1t := hts.1.1
  have w3t := hts.2.2.1
  have q27 : et_pl (eg_at G9 am) 27 = some (.int (Int32.ofNat (brM (V n) X Y nc k))) := hrs.1
  show et_go none _ 260 23 _ [] _ _ _ _
  refine hs_aload (i := 0) (p := 24) (by decide +kernel) rfl ?_
  refine hf_get (T := et_TT) (t := 13) (ci := 11) (f := 27) (p := 27) (by decide +kernel) rfl hH k_am q27 ?_
  refine hs_aload (i := 0) (p := 28) (by decide +kernel) rfl ?_
  refine ht_callv (T := et_TT) (t := 13) (mi := 218) (na := 0) (ci := 11) (lk := 3) (lm := 1) (L0 := eg_en (eg_mL 218) [.ref am]) (by decide +kernel) rfl hH k_am rfl rfl rfl rfl rfl (by rw [show eg_mL 218 = 1 from by decide +kernel]; first | done | rfl) ?_
  refine (fm_cards hH k_am k_aw m1t w3t).mono (fun u hu => xp_cb hu ?_)
  show et_go none _ 260 31 _ [.int (Int32.ofNat nc), .int (Int32.ofNat (brM (V n) X Y nc k))] _ _ _ _
  refine hs_br2n (c := .ne) (t := 38) (f := 34) (by decide +kernel) (by omega) (by omega) (fun (c31 : ¬ (brM (V n) X Y nc k) = nc) => ?_) (fun (c31 : ¬ (¬ (brM (V n) X Y nc k) = nc)) => ?_)
  · refine hs_aload (i := 0) (p := 39) (by decide +kernel) rfl ?_
    refine hf_get (T := et_TT) (t := 13) (ci := 11) (f := 27) (p := 42) (by decide +kernel) rfl hH k_am q27 ?_
    refine hs_iret (by decide +kernel) ?_
    refine ⟨?_, th0⟩
    rw [show (brV (V n) X Y nc k) = Int32.ofNat (brM (V n) X Y nc k) from if_neg (by omega)]
  · refine hs_k (x := (-1)) (p := 35) (by decide +kernel) ?_
    refine hs_goto (p := 42) (by decide +kernel) ?_
    refine hs_iret (by decide +kernel) ?_
    refine ⟨?_, th0⟩
    rw [show (brV (V n) X Y nc k) = -1 from if_pos (by omega)]
theorem fn_barsK (hH : et_H et_TT K G) (k_am : K am = some 13) (k_aw : K aw = some 46) (m1 : et_pl (eg_at G am) 1 = some (.ref aw)) (w4 : et_pl (eg_at G aw) 4 = some (.int (Int32.ofNat ec))) (hec : ec ≤ 3) (hm : zyM G aw ec V) (ho : ∀ n, n < 3 → evo (V n)) (hn : n < ec) (hy : ¬ (1 ≤ y.toInt ∧ y.toInt ≤ 3)) (hd : 3 ≤ d2) : et_go none d2 260 0 (eg_en (eg_mL 260) [.ref am, .int (Int32.ofNat n), .int y]) [] G 0 0 (fun u => u.1 = .inl (some (.int (Int32.ofNat 0))) ∧ et_pl (eg_at u.2.1 am) 0 = some (.int (Int32.ofNat 2))) := by
  obtain ⟨d, rfl⟩ : ∃ d, d2 = d + 3 := ⟨d2 - 3, by omega⟩
  rw [show eg_mL 260 = 3 from by decide +kernel]
  show et_go none (d + 3) 260 0 [some (.ref am), some (.int (Int32.ofNat n)), some (.int y)] [] G 0 0 _
  have lt_am := (hH.2.2 _ _ k_am).1
  have lt_aw := (hH.2.2 _ _ k_aw).1
  refine hs_aload (i := 0) (p := 1) (by decide +kernel) rfl ?_
  refine hs_k (x := Int32.ofNat 0) (p := 2) (by decide +kernel) ?_
  refine hf_put (T := et_TT) (t := 13) (ci := 11) (f := 0) (p := 5) (ty := .int) (by decide +kernel) rfl rfl rfl rfl rfl hH k_am hi_any (fun G2 hH x2 e2 => ?_)
  have hm := hm.mv ho (fun j _ _ => x2.2 aw j lt_aw (fun h => hi_ne k_aw k_am (by decide) h.1))
  have m1 := (x2.2 am 1 lt_am (fun h => absurd h.2 (by decide))).trans m1
  have w4 := (x2.2 aw 4 lt_aw (fun h => (hi_ne k_aw k_am (by decide)) h.1)).trans w4
  have lt_am := Nat.lt_of_lt_of_le lt_am x2.1
  have lt_aw := Nat.lt_of_lt_of_le lt_aw x2.1
  refine hs_aload (i := 0) (p := 6) (by decide +kernel) rfl ?_
  refine hs_iload (i := 1) (p := 7) (by decide +kernel) rfl ?_
  refine hs_iload (i := 2) (p := 8) (by decide +kernel) rfl ?_
  refine hs_k (x := Int32.ofNat 3) (p := 9) (by decide +kernel) ?_
  refine ht_callv (T := et_TT) (t := 13) (mi := 254) (na := 3) (ci := 11) (lk := 3) (lm := 4) (L0 := eg_en (eg_mL 254) [.ref am, .int (Int32.ofNat n), .int y, .int (Int32.ofNat 3)]) (by decide +kernel) rfl hH k_am rfl rfl rfl rfl rfl (by rw [show eg_mL 254 = 4 from by decide +kernel]; first | done | rfl) ?_
  refine (fn_nsK (q := 3) hH k_am k_aw m1 w4 hec hm ho (by decide) hn hy (by omega)).mono (fun u hu => xw_cb hu (fun G9 v9 hH x9 hP9 => ?_))
  have hm := hm.mv ho (fun j _ _ => x9.2 aw j lt_aw (fun h => hi_ne k_aw k_am (by decide) h.1))
  have m1 := (x9.2 am 1 lt_am (fun h => absurd h.2 (by decide))).trans m1
  have w4 := (x9.2 aw 4 lt_aw (fun h => (hi_ne k_aw k_am (by decide)) h.1)).trans w4
  have lt_am := Nat.lt_of_lt_of_le lt_am x9.1
  have lt_aw := Nat.lt_of_lt_of_le lt_aw x9.1
  obtain ⟨rfl, th9⟩ := hP9
  show et_go none _ 260 12 _ [.int (Int32.ofNat 1)] _ _ _ _
  refine hs_if0 (c := .eq) (t := 17) (f := 15) (by decide +kernel) (show ¬ (Int32.ofNat 1 = 0) by decide) ?_
  refine hs_k (x := Int32.ofNat 0) (p := 16) (by decide +kernel) ?_
  refine hs_iret (by decide +kernel) ?_
  exact ⟨rfl, th9⟩
theorem fn_barsE (hH : et_H et_TT K G) (k_am : K am = some 13) (k_aw : K aw = some 46) (m1 : et_pl (eg_at G am) 1 = some (.ref aw)) (w4 : et_pl (eg_at G aw) 4 = some (.int (Int32.ofNat ec))) (hec : ec ≤ 3) (hm : zyM G aw ec V) (ho : ∀ n, n < 3 → evo (V n)) (hx : ¬ xr x ec) (hd : 3 ≤ d2) : et_go none d2 260 0 (eg_en (eg_mL 260) [.ref am, .int x, .int y]) [] G 0 0 (fun u => u.1 = .inl (some (.int (Int32.ofNat 0))) ∧ et_pl (eg_at u.2.1 am) 0 = some (.int (Int32.ofNat 1))) := by
  obtain ⟨d, rfl⟩ : ∃ d, d2 = d + 3 := ⟨d2 - 3, by omega⟩
  rw [show eg_mL 260 = 3 from by decide +kernel]
  show et_go none (d + 3) 260 0 [some (.ref am), some (.int x), some (.int y)] [] G 0 0 _
  have lt_am := (hH.2.2 _ _ k_am).1
  have lt_aw := (hH.2.2 _ _ k_aw).1
  refine hs_aload (i := 0) (p := 1) (by decide +kernel) rfl ?_
  refine hs_k (x := Int32.ofNat 0) (p := 2) (by decide +kernel) ?_
  refine hf_put (T := et_TT) (t := 13) (ci := 11) (f := 0) (p := 5) (ty := .int) (by decide +kernel) rfl rfl rfl rfl rfl hH k_am hi_any (fun G2 hH x2 e2 => ?_)
  have hm := hm.mv ho (fun j _ _ => x2.2 aw j lt_aw (fun h => hi_ne k_aw k_am (by decide) h.1))
  have m1 := (x2.2 am 1 lt_am (fun h => absurd h.2 (by decide))).trans m1
  have w4 := (x2.2 aw 4 lt_aw (fun h => (hi_ne k_aw k_am (by decide)) h.1)).trans w4
  have lt_am := Nat.lt_of_lt_of_le lt_am x2.1
  have lt_aw := Nat.lt_of_lt_of_le lt_aw x2.1
  refine hs_aload (i := 0) (p := 6) (by decide +kernel) rfl ?_
  refine hs_iload (i := 1) (p := 7) (by decide +kernel) rfl ?_
  refine hs_iload (i := 2) (p := 8) (by decide +kernel) rfl ?_
  refine hs_k (x := Int32.ofNat 3) (p := 9) (by decide +kernel) ?_
  refine ht_callv (T := et_TT) (t := 13) (mi := 254) (na := 3) (ci := 11) (lk := 3) (lm := 4) (L0 := eg_en (eg_mL 254) [.ref am, .int x, .int y, .int (Int32.ofNat 3)]) (by decide +kernel) rfl hH k_am rfl rfl rfl rfl rfl (by rw [show eg_mL 254 = 4 from by decide +kernel]; first | done | rfl) ?_
  refine (fn_nsE (q := 3) (y := y) hH k_am k_aw m1 w4 hec hm ho (by decide) hx (by omega)).mono (fun u hu => xw_cb hu (fun G9 v9 hH x9 hP9 => ?_))
  have hm := hm.mv ho (fun j _ _ => x9.2 aw j lt_aw (fun h => hi_ne k_aw k_am (by decide) h.1))
  have m1 := (x9.2 am 1 lt_am (fun h => absurd h.2 (by decide))).trans m1
  have w4 := (x9.2 aw 4 lt_aw (fun h => (hi_ne k_aw k_am (by decide)) h.1)).trans w4
  have lt_am := Nat.lt_of_lt_of_le lt_am x9.1
  have lt_aw := Nat.lt_of_lt_of_le lt_aw x9.1
  obtain ⟨rfl, th9⟩ := hP9
  show et_go none _ 260 12 _ [.int (Int32.ofNat 1)] _ _ _ _
  refine hs_if0 (c := .eq) (t := 17) (f := 15) (by decide +kernel) (show ¬ (Int32.ofNat 1 = 0) by decide) ?_
  refine hs_k (x := Int32.ofNat 0) (p := 16) (by decide +kernel) ?_
  refine hs_iret (by decide +kernel) ?_
  exact ⟨rfl, th9⟩
theorem gz_bars (hH : et_H et_TT K G) (k_am : K am = some 13) (k_aw : K aw = some 46) (m1 : et_pl (eg_at G am) 1 = some (.ref aw)) (w4 : et_pl (eg_at G aw) 4 = some (.int (Int32.ofNat ec))) (hec : ec ≤ 3) (hm : zyM G aw ec V) (ho : ∀ n, n < 3 → evo (V n)) (w3 : et_pl (eg_at G aw) 3 = some (.int (Int32.ofNat nc))) (hnc : nc ≤ 20) (hcr : crP G aw nc X Y) (hd : 8 ≤ d2) : et_go none d2 260 0 (eg_en (eg_mL 260) [.ref am, .int x, .int y]) [] G 0 0 (fun u => (¬ xr x ec ∧ u.1 = .inl (some (.int (Int32.ofNat 0))) ∧ et_pl (eg_at u.2.1 am) 0 = some (.int (Int32.ofNat 1))) ∨ ∃ n, (x = Int32.ofNat n ∧ n < ec) ∧ ((¬ (1 ≤ y.toInt ∧ y.toInt ≤ 3) ∧ u.1 = .inl (some (.int (Int32.ofNat 0))) ∧ et_pl (eg_at u.2.1 am) 0 = some (.int (Int32.ofNat 2))) ∨ ∃ k, (y = Int32.ofNat k ∧ 1 ≤ k ∧ k ≤ 3) ∧ u.1 = .inl (some (.int (brV (V n) X Y nc k))) ∧ et_pl (eg_at u.2.1 am) 0 = some (.int (Int32.ofNat 0)))) := by
  by_cases hx : xr x ec
  · obtain ⟨n, rfl, hn⟩ := xr_nat hx (by omega)
    by_cases hs3 : (1 ≤ y.toInt ∧ y.toInt ≤ 3)
    · obtain ⟨k, rfl, q2, q3⟩ := hs_toN (x := y) (by omega)
      exact (fn_bars hH k_am k_aw m1 w4 hec hm ho w3 hnc hcr hn (by omega) (by omega) hd).mono (fun u hu => .inr ⟨n, ⟨rfl, hn⟩, .inr ⟨k, ⟨rfl, by omega, by omega⟩, hu.1, hu.2⟩⟩)
    · exact (fn_barsK hH k_am k_aw m1 w4 hec hm ho hn hs3 (by omega)).mono (fun u hu => .inr ⟨n, ⟨rfl, hn⟩, .inl ⟨hs3, hu.1, hu.2⟩⟩)
  · exact (fn_barsE hH k_am k_aw m1 w4 hec hm ho hx (by omega)).mono (fun u hu => .inl ⟨hx, hu.1, hu.2⟩)
end ZUC
