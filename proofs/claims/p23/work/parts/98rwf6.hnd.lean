section
/-! searches: the class begins one: its columns are the pairs -/
def pxL (X : Nat → Int32) (L : List (Nat × Nat)) : List (Int32 × Int32) := L.map (fun q => (X q.1, X q.2))
section ZMA
variable {X : Nat → Int32} {Y : Nat → Nat} {m hi lo : Nat}
theorem ls_n (h : ¬ (Y hi = 1 ∧ ¬ Y lo = 1)) : pxL X (prL Y m hi ++ plL Y hi (lo + 1)) = pxL X (prL Y m hi ++ plL Y hi lo) := by
  show pxL X (prL Y m hi ++ (plL Y hi lo ++ (if Y hi = 1 ∧ ¬ Y lo = 1 then [(hi, lo)] else []))) = _
  rw [if_neg h, List.append_nil]
theorem ls_y (h : Y hi = 1 ∧ ¬ Y lo = 1) : pxL X (prL Y m hi ++ plL Y hi (lo + 1)) = pxL X (prL Y m hi ++ plL Y hi lo) ++ [(X hi, X lo)] := by
  show pxL X (prL Y m hi ++ (plL Y hi lo ++ (if Y hi = 1 ∧ ¬ Y lo = 1 then [(hi, lo)] else []))) = _
  rw [if_pos h, ← List.append_assoc]
  exact List.map_append
theorem ls_e : pxL X (prL Y m hi ++ plL Y hi m) = pxL X (prL Y m (hi + 1) ++ plL Y (hi + 1) 0) := by
  show _ = pxL X ((prL Y m hi ++ plL Y hi m) ++ [])
  rw [List.append_nil]
theorem ls_z : pxL X (prL Y m 0 ++ plL Y 0 0) = [] := rfl
theorem ls_m : pxL X (prL Y m hi ++ plL Y hi 0) = pxL X (prL Y m hi) := by
  show pxL X (prL Y m hi ++ []) = _
  rw [List.append_nil]
theorem plL_mo {h : Nat} : ∀ d l, (plL Y h l).length ≤ (plL Y h (l + d)).length
  | 0, _ => Nat.le_refl _
  | d + 1, l => by
    have e := plL_mo (h := h) d l
    show _ ≤ (plL Y h (l + d) ++ _).length
    rw [List.length_append]
    omega
theorem prL_mo : ∀ d l, (prL Y m l).length ≤ (prL Y m (l + d)).length
  | 0, _ => Nat.le_refl _
  | d + 1, l => by
    have e := prL_mo d l
    show _ ≤ (prL Y m (l + d) ++ _).length
    rw [List.length_append]
    omega
theorem pxL_n {L : List (Nat × Nat)} : (pxL X L).length = L.length := List.length_map _
theorem lsx_len (h1 : hi < m) (h2 : lo ≤ m) (hm : m ≤ 20) : (pxL X (prL Y m hi ++ plL Y hi lo)).length ≤ 100 := by
  have e1 := plL_mo (Y := Y) (h := hi) (m - lo) lo
  have e2 := prL_mo (Y := Y) (m := m) (m - (hi + 1)) (hi + 1)
  have e3 := prL_le (Y := Y) hm
  rw [show lo + (m - lo) = m by omega] at e1
  rw [show hi + 1 + (m - (hi + 1)) = m by omega] at e2
  have e4 : (prL Y m (hi + 1)).length = (prL Y m hi).length + (plL Y hi m).length := List.length_append
  rw [pxL_n, List.length_append]
  omega
theorem ls_ln (h1 : hi ≤ m) (hm : m ≤ 20) : (pxL X (prL Y m hi ++ plL Y hi 0)).length ≤ 100 := by
  have e2 := prL_mo (Y := Y) (m := m) (m - hi) hi
  have e3 := prL_le (Y := Y) hm
  rw [show hi + (m - hi) = m by omega] at e2
  rw [ls_m, pxL_n]
  omega
end ZMA
/-- what stays as columns are laid -/
def bgI (G : eg_G) (se tA tR tS td be sy e ca ki kn s0 la ly nc k : Nat) (v : evT) (X : Nat → Int32) (Y : Nat → Nat) : Prop := seR G se tA tR tS td be sy ∧ evc G e ca ki kn v ∧ et_pl (eg_at G s0) 2 = some (.int (Int32.ofNat nc)) ∧ ccP G s0 la ly nc X Y ∧ et_pl (eg_at G se) 6 = some (.int (Int32.ofNat v.1)) ∧ et_pl (eg_at G se) 7 = some (.int (Int32.ofNat k))
section ZMB
variable {K : et_K} {G G' : eg_G} {S : Nat → Nat → Prop} {se tA tR tS td be sy e ca ki kn s0 la ly nc k b : Nat} {v : evT} {X : Nat → Int32} {Y : Nat → Nat}
theorem seT.a45 (t : seT K se tA tR tS td be sy) (h1 : tA + 1 ≤ b) (h2 : b ≤ tA + 6) : K b = some 45 := by
  have h3 := t.2.2.1 (b - (tA + 1)) (by omega)
  rw [show tA + 1 + (b - (tA + 1)) = b by omega] at h3
  exact h3
theorem seT.n9 (t : seT K se tA tR tS td be sy) : ¬ (tA + 1 ≤ se ∧ se ≤ tA + 6) := fun h => by
  have h3 := t.a45 h.1 h.2
  rw [t.1.1] at h3
  cases h3
theorem bgI.xs (h : bgI G se tA tR tS td be sy e ca ki kn s0 la ly nc k v X Y) (t : seT K se tA tR tS td be sy) (t9 : evK K e ca ki kn v.1 v.2.2.1) (k_s0 : K s0 = some 10) (k_la : K la = some 17) (k_ly : K ly = some 27) (hH : et_H et_TT K G) (x : xf S G G') (hs : ∀ b j t, K b = some t → S b j → t = 45 ∨ (t = 9 ∧ ¬ (j ≤ 3 ∨ j = 6 ∨ j = 7 ∨ j = 14 ∨ j = 17))) : bgI G' se tA tR tS td be sy e ca ki kn s0 la ly nc k v X Y := by
  obtain ⟨h1, h2, h3, h4, h5, h6⟩ := h
  have lt : ∀ a t, K a = some t → a < G.2 := fun a t ha => (hH.2.2 a t ha).1
  have f : ∀ a t, K a = some t → ¬ t = 45 → ¬ t = 9 → ∀ j, et_pl (eg_at G' a) j = et_pl (eg_at G a) j := fun a t ha n1 n2 j => x.2 a j (lt _ _ ha) (fun q => (hs _ _ _ ha q).elim n1 (fun q => n2 q.1))
  refine ⟨h1.xs t hH x (fun b j t kb q => ?_), h2.xs t9 hH x (fun b j q => ⟨fun kb => ?_, fun kb => ?_⟩), (f _ _ k_s0 (by decide) (by decide) 2).trans h3, ⟨⟨(f _ _ k_s0 (by decide) (by decide) 3).trans h4.1.1, (f _ _ k_s0 (by decide) (by decide) 4).trans h4.1.2⟩, fun c hc => ⟨(f _ _ k_la (by decide) (by decide) c).trans (h4.2 c hc).1, (f _ _ k_ly (by decide) (by decide) c).trans (h4.2 c hc).2.1, (h4.2 c hc).2.2⟩⟩, ?_, ?_⟩
  · rcases hs _ _ _ kb q with rfl | ⟨rfl, q2⟩
    · exact ⟨by decide, by decide, fun h => absurd h (by decide)⟩
    · exact ⟨by decide, by decide, fun _ => by omega⟩
  · rcases hs _ _ _ kb q with h | ⟨h, -⟩ <;> cases h
  · rcases hs _ _ _ kb q with h | ⟨h, -⟩ <;> cases h
  · exact (x.2 se 6 (lt _ _ t.1.1) (fun q => (hs _ _ _ t.1.1 q).elim (fun h => absurd h (by decide)) (fun h => h.2 (by omega)))).trans h5
  · exact (x.2 se 7 (lt _ _ t.1.1) (fun q => (hs _ _ _ t.1.1 q).elim (fun h => absurd h (by decide)) (fun h => h.2 (by omega)))).trans h6
end ZMB
section ZMC
variable {K : et_K} {G G0 : eg_G} {Z : eg_O → Prop} {se tA tR tS td be sy e ca ki kn s0 la ly nc k m hi lo d d2 : Nat} {v : evT} {X : Nat → Int32} {Y : Nat → Nat} {x6 : Option Value}
theorem fd_bgI (hH0 : et_H et_TT K G0) (hH : et_H et_TT K G) (t : seT K se tA tR tS td be sy) (t9 : evK K e ca ki kn v.1 v.2.2.1) (k_s0 : K s0 = some 10) (k_la : K la = some 17) (k_ly : K ly = some 27) (hbg : bgI G se tA tR tS td be sy e ca ki kn s0 la ly nc k v X Y) (hnc : nc ≤ 20) (hmn : m ≤ nc) (hX : xf (fun b j => (b = se ∧ j = 5) ∨ (tA + 1 ≤ b ∧ b ≤ tA + 6)) G0 G) (hc : et_pl (eg_at G se) 5 = some (.int (Int32.ofNat (pxL X (prL Y m hi ++ plL Y hi lo)).length)) ∧ coR G tA v.1 v.2.1 v.2.2.1 (pxL X (prL Y m hi ++ plL Y hi lo))) (hhi : hi < m) (hlo : lo ≤ m) (h : ∀ (G' : eg_G) (x6 : Option Value), et_H et_TT K G' → xf (fun b j => (b = se ∧ j = 5) ∨ (tA + 1 ≤ b ∧ b ≤ tA + 6)) G0 G' → bgI G' se tA tR tS td be sy e ca ki kn s0 la ly nc k v X Y → et_pl (eg_at G' se) 5 = some (.int (Int32.ofNat (pxL X (prL Y m hi ++ plL Y hi m)).length)) ∧ coR G' tA v.1 v.2.1 v.2.2.1 (pxL X (prL Y m hi ++ plL Y hi m)) → et_go none (d + 3) 91 100 [some (.ref se), some (.ref e), some (.ref s0), some (.int (Int32.ofNat m)), some (.int (Int32.ofNat k)), some (.int (Int32.ofNat hi)), some (.int (Int32.ofNat m))] [] G' 0 0 Z) : et_go none (d + 3) 91 40 [some (.ref se), some (.ref e), some (.ref s0), some (.int (Int32.ofNat m)), some (.int (Int32.ofNat k)), some (.int (Int32.ofNat hi)), some (.int (Int32.ofNat lo))] [] G 0 0 Z := by
  induction hq9 : m - lo using Nat.strongRecOn generalizing lo G with
  | _ q9 ih =>
    have k_se := t.1.1
    have k_tA := t.1.2.1
    have k_tR := t.1.2.2.1
    have k_tS := t.1.2.2.2.1
    have k_td := t.1.2.2.2.2.1
    have k_be := t.1.2.2.2.2.2.1
    have k_sy := t.1.2.2.2.2.2.2
    have hsR := hbg.1
    have hv := hbg.2.1
    have g2 := hbg.2.2.1
    have hcc := hbg.2.2.2.1
    have q6 := hbg.2.2.2.2.1
    have q7 := hbg.2.2.2.2.2
    have hlen := lsx_len (X := X) (Y := Y) hhi hlo (by omega)
    have y1 := (hcc.2 hi (by omega)).2.2
    have y2 : lo < m → Y lo ≤ 1 := fun h9 => (hcc.2 lo (by omega)).2.2
    refine hs_iload (i := 6) (p := 42) (by decide +kernel) rfl ?_
    refine hs_iload (i := 3) (p := 43) (by decide +kernel) rfl ?_
    refine hs_br2n (c := .ge) (t := 100) (f := 46) (by decide +kernel) (by omega) (by omega) (fun (c43 : m ≤ lo) => ?_) (fun (c43 : ¬ (m ≤ lo)) => ?_)
    · obtain rfl : lo = m := by omega
      exact h _ none hH hX hbg hc
    · refine hs_iload (i := 6) (p := 48) (by decide +kernel) rfl ?_
      refine hs_aload (i := 2) (p := 49) (by decide +kernel) rfl ?_
      refine hf_get (T := et_TT) (t := 10) (ci := 8) (f := 2) (p := 52) (by decide +kernel) rfl hH k_s0 g2 ?_
      refine hs_br2n (c := .ge) (t := 100) (f := 55) (by decide +kernel) (by omega) (by omega) (fun (c52 : nc ≤ lo) => ?_) (fun (c52 : ¬ (nc ≤ lo)) => ?_)
      · exact absurd c52 (by omega)
      · refine hs_aload (i := 2) (p := 56) (by decide +kernel) rfl ?_
        refine hf_get (T := et_TT) (t := 10) (ci := 8) (f := 4) (p := 59) (by decide +kernel) rfl hH k_s0 hcc.1.2 ?_
        refine hs_iload (i := 5) (p := 61) (by decide +kernel) rfl ?_
        refine hf_ald (ins := .baload) (T := et_TT) (t := 27) (kd := 3) (N := 20) (p := 62) (by decide +kernel) (fun _ _ _ _ _ _ _ _ _ _ => rfl) rfl rfl rfl hH k_ly (by decide) (hcc.2 hi (by omega)).2.1 ?_
        refine hs_br1 (c := .eq) (t := 94) (f := 65) (by decide +kernel) (fun (c62 : Int32.ofNat (Y hi) = 0) => ?_) (fun (c62 : ¬ (Int32.ofNat (Y hi) = 0)) => ?_)
        · refine hs_iinc1 (i := 6) (p := 97) (by decide +kernel) rfl (Nat.le_of_ble_eq_true rfl) ?_
          refine hs_goto (p := 40) (by decide +kernel) ?_
          have hn9 : ¬ (Y hi = 1 ∧ ¬ Y lo = 1) := fun h9 => by rw [h9.1] at c62; exact absurd c62 (by decide)
          exact ih (m - (lo + 1)) (by omega) hH hbg hX (by rw [ls_n hn9]; exact hc) (by omega) rfl
        · refine hs_aload (i := 2) (p := 66) (by decide +kernel) rfl ?_
          refine hf_get (T := et_TT) (t := 10) (ci := 8) (f := 4) (p := 69) (by decide +kernel) rfl hH k_s0 hcc.1.2 ?_
          refine hs_iload (i := 6) (p := 71) (by decide +kernel) rfl ?_
          refine hf_ald (ins := .baload) (T := et_TT) (t := 27) (kd := 3) (N := 20) (p := 72) (by decide +kernel) (fun _ _ _ _ _ _ _ _ _ _ => rfl) rfl rfl rfl hH k_ly (by decide) (hcc.2 lo (by omega)).2.1 ?_
          refine hs_br1 (c := .ne) (t := 94) (f := 75) (by decide +kernel) (fun (c72 : ¬ Int32.ofNat (Y lo) = 0) => ?_) (fun (c72 : ¬ (¬ Int32.ofNat (Y lo) = 0)) => ?_)
          · refine hs_iinc1 (i := 6) (p := 97) (by decide +kernel) rfl (Nat.le_of_ble_eq_true rfl) ?_
            refine hs_goto (p := 40) (by decide +kernel) ?_
            have y29 := y2 (by omega)
            have hn9 : ¬ (Y hi = 1 ∧ ¬ Y lo = 1) := fun h9 => by
              have e9 : Y lo = 0 := by omega
              rw [e9] at c72
              exact c72 rfl
            exact ih (m - (lo + 1)) (by omega) hH hbg hX (by rw [ls_n hn9]; exact hc) (by omega) rfl
          · refine hs_aload (i := 0) (p := 76) (by decide +kernel) rfl ?_
            refine hs_aload (i := 1) (p := 77) (by decide +kernel) rfl ?_
            refine hs_aload (i := 2) (p := 78) (by decide +kernel) rfl ?_
            refine hf_get (T := et_TT) (t := 10) (ci := 8) (f := 3) (p := 81) (by decide +kernel) rfl hH k_s0 hcc.1.1 ?_
            refine hs_iload (i := 5) (p := 83) (by decide +kernel) rfl ?_
            refine hf_ald (ins := .iaload) (T := et_TT) (t := 17) (kd := 0) (N := 20) (p := 84) (by decide +kernel) (fun _ _ _ _ _ _ _ _ _ _ => rfl) rfl rfl rfl hH k_la (by decide) (hcc.2 hi (by omega)).1 ?_
            refine hs_aload (i := 2) (p := 85) (by decide +kernel) rfl ?_
            refine hf_get (T := et_TT) (t := 10) (ci := 8) (f := 3) (p := 88) (by decide +kernel) rfl hH k_s0 hcc.1.1 ?_
            refine hs_iload (i := 6) (p := 90) (by decide +kernel) rfl ?_
            refine hf_ald (ins := .iaload) (T := et_TT) (t := 17) (kd := 0) (N := 20) (p := 91) (by decide +kernel) (fun _ _ _ _ _ _ _ _ _ _ => rfl) rfl rfl rfl hH k_la (by decide) (hcc.2 lo (by omega)).1 ?_
            have e91 : Y hi = 1 := by
              by_cases e9 : Y hi = 0
              · rw [e9] at c62; exact absurd (show Int32.ofNat 0 = 0 from rfl) c62
              · omega
            have e92 : ¬ Y lo = 1 := fun e9 => by
              rw [e9] at c72
              exact c72 (by decide)
            have hHo := hH
            refine ht_callv (T := et_TT) (t := 9) (mi := 92) (na := 3) (ci := 7) (lk := 7) (lm := 5) (L0 := eg_en (eg_mL 92) [.ref se, .ref e, .int (X hi), .int (X lo)]) (by decide +kernel) rfl hH k_se rfl rfl rfl rfl rfl (by rw [show eg_mL 92 = 5 from by decide +kernel]; first | done | rfl) ?_
            refine (fd_add (L := (pxL X (prL Y m hi ++ plL Y hi lo))) hH t hsR t9 hv hc.1 q6 (by omega) hc.2 (by omega)).mono (fun u9 hu9 => xw_cb hu9 (fun G2 v2 hH x2 hc2 => ?_))
            obtain ⟨rfl, hc2⟩ := hc2
            have hbg := hbg.xs t t9 k_s0 k_la k_ly hHo x2 (fun b j t9 kb h => by rcases h with h | h; rw [h.1, t.1.1] at kb; cases kb; exact .inr ⟨rfl, by have h := h.2; omega⟩; rw [t.a45 h.1 h.2] at kb; cases kb; exact .inl rfl)
            have hX := hX.tr x2 (fun b j _ h => h)
            show et_go none _ 91 94 _ [] _ _ _ _
            refine hs_iinc1 (i := 6) (p := 97) (by decide +kernel) rfl (Nat.le_of_ble_eq_true rfl) ?_
            refine hs_goto (p := 40) (by decide +kernel) ?_
            exact ih (m - (lo + 1)) (by omega) hH hbg hX (by rw [ls_y ⟨e91, e92⟩, List.length_append]; exact hc2) (by omega) rfl
theorem fd_bgO (hH0 : et_H et_TT K G0) (hH : et_H et_TT K G) (t : seT K se tA tR tS td be sy) (t9 : evK K e ca ki kn v.1 v.2.2.1) (k_s0 : K s0 = some 10) (k_la : K la = some 17) (k_ly : K ly = some 27) (hbg : bgI G se tA tR tS td be sy e ca ki kn s0 la ly nc k v X Y) (hnc : nc ≤ 20) (hmn : m ≤ nc) (hX : xf (fun b j => (b = se ∧ j = 5) ∨ (tA + 1 ≤ b ∧ b ≤ tA + 6)) G0 G) (hc : et_pl (eg_at G se) 5 = some (.int (Int32.ofNat (pxL X (prL Y m hi ++ plL Y hi 0)).length)) ∧ coR G tA v.1 v.2.1 v.2.2.1 (pxL X (prL Y m hi ++ plL Y hi 0))) (hhi : hi ≤ m) (h : ∀ (G' : eg_G) (x6 : Option Value), et_H et_TT K G' → xf (fun b j => (b = se ∧ j = 5) ∨ (tA + 1 ≤ b ∧ b ≤ tA + 6)) G0 G' → bgI G' se tA tR tS td be sy e ca ki kn s0 la ly nc k v X Y → et_pl (eg_at G' se) 5 = some (.int (Int32.ofNat (pxL X (prL Y m m ++ plL Y m 0)).length)) ∧ coR G' tA v.1 v.2.1 v.2.2.1 (pxL X (prL Y m m ++ plL Y m 0)) → et_go none (d + 3) 91 106 [some (.ref se), some (.ref e), some (.ref s0), some (.int (Int32.ofNat m)), some (.int (Int32.ofNat k)), some (.int (Int32.ofNat m)), x6] [] G' 0 0 Z) : et_go none (d + 3) 91 22 [some (.ref se), some (.ref e), some (.ref s0), some (.int (Int32.ofNat m)), some (.int (Int32.ofNat k)), some (.int (Int32.ofNat hi)), x6] [] G 0 0 Z := by
  induction hq9 : m - hi using Nat.strongRecOn generalizing hi G x6 with
  | _ q9 ih =>
    have k_se := t.1.1
    have k_tA := t.1.2.1
    have k_tR := t.1.2.2.1
    have k_tS := t.1.2.2.2.1
    have k_td := t.1.2.2.2.2.1
    have k_be := t.1.2.2.2.2.2.1
    have k_sy := t.1.2.2.2.2.2.2
    have hsR := hbg.1
    have hv := hbg.2.1
    have g2 := hbg.2.2.1
    have hcc := hbg.2.2.2.1
    have q6 := hbg.2.2.2.2.1
    have q7 := hbg.2.2.2.2.2
    refine hs_iload (i := 5) (p := 24) (by decide +kernel) rfl ?_
    refine hs_iload (i := 3) (p := 25) (by decide +kernel) rfl ?_
    refine hs_br2n (c := .ge) (t := 106) (f := 28) (by decide +kernel) (by omega) (by omega) (fun (c25 : m ≤ hi) => ?_) (fun (c25 : ¬ (m ≤ hi)) => ?_)
    · obtain rfl : hi = m := by omega
      exact h _ _ hH hX hbg hc
    · refine hs_iload (i := 5) (p := 30) (by decide +kernel) rfl ?_
      refine hs_aload (i := 2) (p := 31) (by decide +kernel) rfl ?_
      refine hf_get (T := et_TT) (t := 10) (ci := 8) (f := 2) (p := 34) (by decide +kernel) rfl hH k_s0 g2 ?_
      refine hs_br2n (c := .ge) (t := 106) (f := 37) (by decide +kernel) (by omega) (by omega) (fun (c34 : nc ≤ hi) => ?_) (fun (c34 : ¬ (nc ≤ hi)) => ?_)
      · exact absurd c34 (by omega)
      · refine hs_k (x := Int32.ofNat 0) (p := 38) (by decide +kernel) ?_
        refine hs_istore (i := 6) (p := 40) (by decide +kernel) (Nat.le_of_ble_eq_true rfl) ?_
        refine fd_bgI (lo := 0) hH0 hH t t9 k_s0 k_la k_ly hbg hnc hmn hX hc (by omega) (Nat.zero_le m) (fun G9 x69 hH9 x9 hbg9 hc9 => ?_)
        refine hs_iinc1 (i := 5) (p := 103) (by decide +kernel) rfl (Nat.le_of_ble_eq_true rfl) ?_
        refine hs_goto (p := 22) (by decide +kernel) ?_
        exact ih (m - (hi + 1)) (by omega) hH9 hbg9 x9 (by rw [← ls_e]; exact hc9) (by omega) rfl
theorem fd_begin (hH : et_H et_TT K G) (t : seT K se tA tR tS td be sy) (t9 : evK K e ca ki kn v.1 v.2.2.1) (k_s0 : K s0 = some 10) (k_la : K la = some 17) (k_ly : K ly = some 27) (hsR : seR G se tA tR tS td be sy) (hv : evc G e ca ki kn v) (g2 : et_pl (eg_at G s0) 2 = some (.int (Int32.ofNat nc))) (hcc : ccP G s0 la ly nc X Y) (hnc : nc ≤ 20) (hmn : m ≤ nc) (hk : k ≤ 3) (hd : 3 ≤ d2) : et_go none d2 91 0 (eg_en (eg_mL 91) [.ref se, .ref e, .ref s0, .int (Int32.ofNat m), .int (Int32.ofNat k)]) [] G 0 0 (xw_Z (fun b j => (b = se ∧ (4 ≤ j ∧ j ≤ 9)) ∨ (b = se ∧ (13 ≤ j ∧ j ≤ 16 ∧ ¬ j = 14)) ∨ (tA + 1 ≤ b ∧ b ≤ tA + 6)) K G (fun g v9 => v9 = none ∧ bgI g se tA tR tS td be sy e ca ki kn s0 la ly nc k v X Y ∧ (et_pl (eg_at g se) 4 = some (.int (Int32.ofNat (pxL X (prL Y m m)).length)) ∧ et_pl (eg_at g se) 5 = some (.int (Int32.ofNat (pxL X (prL Y m m)).length)) ∧ et_pl (eg_at g se) 8 = some (.int (Int32.ofNat 0)) ∧ et_pl (eg_at g se) 9 = some (.int (Int32.ofNat 0)) ∧ et_pl (eg_at g se) 13 = some (.int (Int32.ofNat 0)) ∧ et_pl (eg_at g se) 15 = some (.int (Int32.ofNat 1073741824)) ∧ et_pl (eg_at g se) 16 = some (.int (Int32.ofNat 0))) ∧ coR g tA v.1 v.2.1 v.2.2.1 (pxL X (prL Y m m)))) := by
  obtain ⟨d, rfl⟩ : ∃ d, d2 = d + 3 := ⟨d2 - 3, by omega⟩
  rw [show eg_mL 91 = 7 from by decide +kernel]
  show et_go none (d + 3) 91 0 [some (.ref se), some (.ref e), some (.ref s0), some (.int (Int32.ofNat m)), some (.int (Int32.ofNat k)), none, none] [] G 0 0 _
  have k_se := t.1.1
  have k_tA := t.1.2.1
  have k_tR := t.1.2.2.1
  have k_tS := t.1.2.2.2.1
  have k_td := t.1.2.2.2.2.1
  have k_be := t.1.2.2.2.2.2.1
  have k_sy := t.1.2.2.2.2.2.2
  have lt_se := (hH.2.2 _ _ k_se).1
  have hw6 := t9.2.1
  have k_e := t9.1.1
  have hX : xf (fun b j => (b = se ∧ (4 ≤ j ∧ j ≤ 9)) ∨ (b = se ∧ (13 ≤ j ∧ j ≤ 16 ∧ ¬ j = 14)) ∨ (tA + 1 ≤ b ∧ b ≤ tA + 6)) G G := xf.rf
  refine hs_aload (i := 0) (p := 1) (by decide +kernel) rfl ?_
  refine hs_aload (i := 1) (p := 2) (by decide +kernel) rfl ?_
  refine hf_get (T := et_TT) (t := 3) (ci := 1) (f := 0) (p := 5) (by decide +kernel) rfl hH k_e hv.1.1 ?_
  have hHo := hH
  refine hf_put (T := et_TT) (t := 9) (ci := 7) (f := 6) (p := 8) (ty := .int) (by decide +kernel) rfl rfl rfl rfl rfl hH k_se (hi_nv (by omega) (by omega)) (fun G5 hH x5 e5 => ?_)
  have hsR := hsR.xs t hHo x5 (fun b j t kb h => by rw [h.1, k_se] at kb; cases kb; exact ⟨by decide, by decide, fun _ => by have h := h.2; omega⟩)
  have hv := hv.xs t9 hHo x5 (fun b j h => by rw [h.1, k_se]; exact ⟨by decide, by decide⟩)
  have g2 := (x5.2 s0 2 (hHo.2.2 _ _ k_s0).1 (fun h => hi_ne k_s0 k_se (by decide) h.1)).trans g2
  have hcc : ccP G5 s0 la ly nc X Y := ⟨⟨(x5.2 s0 3 (hHo.2.2 _ _ k_s0).1 (fun h => hi_ne k_s0 k_se (by decide) h.1)).trans hcc.1.1, (x5.2 s0 4 (hHo.2.2 _ _ k_s0).1 (fun h => hi_ne k_s0 k_se (by decide) h.1)).trans hcc.1.2⟩, fun c hc => ⟨(x5.2 la c (hHo.2.2 _ _ k_la).1 (fun h => hi_ne k_la k_se (by decide) h.1)).trans (hcc.2 c hc).1, (x5.2 ly c (hHo.2.2 _ _ k_ly).1 (fun h => hi_ne k_ly k_se (by decide) h.1)).trans (hcc.2 c hc).2.1, (hcc.2 c hc).2.2⟩⟩
  have hX := hX.tr x5 (fun b j _ h => by have h1 := h.1; have h2 := h.2; omega)
  have lt_se := Nat.lt_of_lt_of_le lt_se x5.1
  refine hs_aload (i := 0) (p := 9) (by decide +kernel) rfl ?_
  refine hs_iload (i := 4) (p := 11) (by decide +kernel) rfl ?_
  have hHo := hH
  refine hf_put (T := et_TT) (t := 9) (ci := 7) (f := 7) (p := 14) (ty := .int) (by decide +kernel) rfl rfl rfl rfl rfl hH k_se (hi_nv (by omega) (by omega)) (fun G11 hH x11 e11 => ?_)
  have hsR := hsR.xs t hHo x11 (fun b j t kb h => by rw [h.1, k_se] at kb; cases kb; exact ⟨by decide, by decide, fun _ => by have h := h.2; omega⟩)
  have hv := hv.xs t9 hHo x11 (fun b j h => by rw [h.1, k_se]; exact ⟨by decide, by decide⟩)
  have g2 := (x11.2 s0 2 (hHo.2.2 _ _ k_s0).1 (fun h => hi_ne k_s0 k_se (by decide) h.1)).trans g2
  have hcc : ccP G11 s0 la ly nc X Y := ⟨⟨(x11.2 s0 3 (hHo.2.2 _ _ k_s0).1 (fun h => hi_ne k_s0 k_se (by decide) h.1)).trans hcc.1.1, (x11.2 s0 4 (hHo.2.2 _ _ k_s0).1 (fun h => hi_ne k_s0 k_se (by decide) h.1)).trans hcc.1.2⟩, fun c hc => ⟨(x11.2 la c (hHo.2.2 _ _ k_la).1 (fun h => hi_ne k_la k_se (by decide) h.1)).trans (hcc.2 c hc).1, (x11.2 ly c (hHo.2.2 _ _ k_ly).1 (fun h => hi_ne k_ly k_se (by decide) h.1)).trans (hcc.2 c hc).2.1, (hcc.2 c hc).2.2⟩⟩
  have hX := hX.tr x11 (fun b j _ h => by have h1 := h.1; have h2 := h.2; omega)
  have e5 := (x11.2 se 6 lt_se (fun h => absurd h.2 (by decide))).trans e5
  have lt_se := Nat.lt_of_lt_of_le lt_se x11.1
  refine hs_aload (i := 0) (p := 15) (by decide +kernel) rfl ?_
  refine hs_k (x := Int32.ofNat 0) (p := 16) (by decide +kernel) ?_
  have hHo := hH
  refine hf_put (T := et_TT) (t := 9) (ci := 7) (f := 5) (p := 19) (ty := .int) (by decide +kernel) rfl rfl rfl rfl rfl hH k_se (hi_nv (by omega) (by omega)) (fun G16 hH x16 e16 => ?_)
  have hsR := hsR.xs t hHo x16 (fun b j t kb h => by rw [h.1, k_se] at kb; cases kb; exact ⟨by decide, by decide, fun _ => by have h := h.2; omega⟩)
  have hv := hv.xs t9 hHo x16 (fun b j h => by rw [h.1, k_se]; exact ⟨by decide, by decide⟩)
  have g2 := (x16.2 s0 2 (hHo.2.2 _ _ k_s0).1 (fun h => hi_ne k_s0 k_se (by decide) h.1)).trans g2
  have hcc : ccP G16 s0 la ly nc X Y := ⟨⟨(x16.2 s0 3 (hHo.2.2 _ _ k_s0).1 (fun h => hi_ne k_s0 k_se (by decide) h.1)).trans hcc.1.1, (x16.2 s0 4 (hHo.2.2 _ _ k_s0).1 (fun h => hi_ne k_s0 k_se (by decide) h.1)).trans hcc.1.2⟩, fun c hc => ⟨(x16.2 la c (hHo.2.2 _ _ k_la).1 (fun h => hi_ne k_la k_se (by decide) h.1)).trans (hcc.2 c hc).1, (x16.2 ly c (hHo.2.2 _ _ k_ly).1 (fun h => hi_ne k_ly k_se (by decide) h.1)).trans (hcc.2 c hc).2.1, (hcc.2 c hc).2.2⟩⟩
  have hX := hX.tr x16 (fun b j _ h => by have h1 := h.1; have h2 := h.2; omega)
  have e5 := (x16.2 se 6 lt_se (fun h => absurd h.2 (by decide))).trans e5
  have e11 := (x16.2 se 7 lt_se (fun h => absurd h.2 (by decide))).trans e11
  have lt_se := Nat.lt_of_lt_of_le lt_se x16.1
  refine hs_k (x := Int32.ofNat 0) (p := 20) (by decide +kernel) ?_
  refine hs_istore (i := 5) (p := 22) (by decide +kernel) (Nat.le_of_ble_eq_true rfl) ?_
  have hbg : bgI G16 se tA tR tS td be sy e ca ki kn s0 la ly nc k v X Y := ⟨hsR, hv, g2, hcc, e5, e11⟩
  refine fd_bgO (m := m) (hi := 0) hH hH t t9 k_s0 k_la k_ly hbg hnc hmn xf.rf ⟨e16, fun c w hc => absurd hc (Nat.not_lt_zero c)⟩ (Nat.zero_le m) (fun G9 x69 hH x9 hbg hc => ?_)
  rw [ls_m] at hc
  obtain ⟨q5, hco⟩ := hc
  have hsR := hbg.1
  have hv := hbg.2.1
  have g2 := hbg.2.2.1
  have hcc := hbg.2.2.2.1
  have q6 := hbg.2.2.2.2.1
  have q7 := hbg.2.2.2.2.2
  have hlen : (pxL X (prL Y m m)).length ≤ 100 := by rw [pxL_n]; exact prL_le (by omega)
  have hX := hX.tr x9 (fun b j _ h => by rcases h with h | h; exact .inl ⟨h.1, by have h := h.2; omega⟩; exact .inr (.inr h))
  have lt_se := Nat.lt_of_lt_of_le lt_se x9.1
  refine hs_aload (i := 0) (p := 107) (by decide +kernel) rfl ?_
  refine hs_aload (i := 0) (p := 108) (by decide +kernel) rfl ?_
  refine hf_get (T := et_TT) (t := 9) (ci := 7) (f := 5) (p := 111) (by decide +kernel) rfl hH k_se q5 ?_
  have hHo := hH
  refine hf_put (T := et_TT) (t := 9) (ci := 7) (f := 4) (p := 114) (ty := .int) (by decide +kernel) rfl rfl rfl rfl rfl hH k_se (hi_nv (by omega) (by omega)) (fun G111 hH x111 e111 => ?_)
  have hbg := hbg.xs t t9 k_s0 k_la k_ly hHo x111 (fun b j t9 kb h => by rw [h.1, k_se] at kb; cases kb; exact .inr ⟨rfl, by have h := h.2; omega⟩)
  have hsR := hbg.1
  have hv := hbg.2.1
  have g2 := hbg.2.2.1
  have hcc := hbg.2.2.2.1
  have q6 := hbg.2.2.2.2.1
  have q7 := hbg.2.2.2.2.2
  have hco := hco.xs hw6 t hHo x111 (fun b j h h1 h2 => absurd (And.intro h1 h2) (by rw [h.1]; exact t.n9))
  have hX := hX.tr x111 (fun b j _ h => by have h1 := h.1; have h2 := h.2; omega)
  have q5 := (x111.2 se 5 lt_se (fun h => absurd h.2 (by decide))).trans q5
  have lt_se := Nat.lt_of_lt_of_le lt_se x111.1
  refine hs_aload (i := 0) (p := 115) (by decide +kernel) rfl ?_
  refine hs_k (x := Int32.ofNat 0) (p := 116) (by decide +kernel) ?_
  have hHo := hH
  refine hf_put (T := et_TT) (t := 9) (ci := 7) (f := 8) (p := 119) (ty := .boolean) (by decide +kernel) rfl rfl rfl (by decide +kernel) rfl hH k_se (hi_nv (by omega) (by omega)) (fun G116 hH x116 e116 => ?_)
  have hbg := hbg.xs t t9 k_s0 k_la k_ly hHo x116 (fun b j t9 kb h => by rw [h.1, k_se] at kb; cases kb; exact .inr ⟨rfl, by have h := h.2; omega⟩)
  have hsR := hbg.1
  have hv := hbg.2.1
  have g2 := hbg.2.2.1
  have hcc := hbg.2.2.2.1
  have q6 := hbg.2.2.2.2.1
  have q7 := hbg.2.2.2.2.2
  have hco := hco.xs hw6 t hHo x116 (fun b j h h1 h2 => absurd (And.intro h1 h2) (by rw [h.1]; exact t.n9))
  have hX := hX.tr x116 (fun b j _ h => by have h1 := h.1; have h2 := h.2; omega)
  have q5 := (x116.2 se 5 lt_se (fun h => absurd h.2 (by decide))).trans q5
  have e111 := (x116.2 se 4 lt_se (fun h => absurd h.2 (by decide))).trans e111
  have lt_se := Nat.lt_of_lt_of_le lt_se x116.1
  refine hs_aload (i := 0) (p := 120) (by decide +kernel) rfl ?_
  refine hs_k (x := Int32.ofNat 0) (p := 121) (by decide +kernel) ?_
  have hHo := hH
  refine hf_put (T := et_TT) (t := 9) (ci := 7) (f := 9) (p := 124) (ty := .boolean) (by decide +kernel) rfl rfl rfl (by decide +kernel) rfl hH k_se (hi_nv (by omega) (by omega)) (fun G121 hH x121 e121 => ?_)
  have hbg := hbg.xs t t9 k_s0 k_la k_ly hHo x121 (fun b j t9 kb h => by rw [h.1, k_se] at kb; cases kb; exact .inr ⟨rfl, by have h := h.2; omega⟩)
  have hsR := hbg.1
  have hv := hbg.2.1
  have g2 := hbg.2.2.1
  have hcc := hbg.2.2.2.1
  have q6 := hbg.2.2.2.2.1
  have q7 := hbg.2.2.2.2.2
  have hco := hco.xs hw6 t hHo x121 (fun b j h h1 h2 => absurd (And.intro h1 h2) (by rw [h.1]; exact t.n9))
  have hX := hX.tr x121 (fun b j _ h => by have h1 := h.1; have h2 := h.2; omega)
  have q5 := (x121.2 se 5 lt_se (fun h => absurd h.2 (by decide))).trans q5
  have e111 := (x121.2 se 4 lt_se (fun h => absurd h.2 (by decide))).trans e111
  have e116 := (x121.2 se 8 lt_se (fun h => absurd h.2 (by decide))).trans e116
  have lt_se := Nat.lt_of_lt_of_le lt_se x121.1
  refine hs_aload (i := 0) (p := 125) (by decide +kernel) rfl ?_
  refine hs_k (x := Int32.ofNat 0) (p := 126) (by decide +kernel) ?_
  have hHo := hH
  refine hf_put (T := et_TT) (t := 9) (ci := 7) (f := 13) (p := 129) (ty := .boolean) (by decide +kernel) rfl rfl rfl (by decide +kernel) rfl hH k_se (hi_nv (by omega) (by omega)) (fun G126 hH x126 e126 => ?_)
  have hbg := hbg.xs t t9 k_s0 k_la k_ly hHo x126 (fun b j t9 kb h => by rw [h.1, k_se] at kb; cases kb; exact .inr ⟨rfl, by have h := h.2; omega⟩)
  have hsR := hbg.1
  have hv := hbg.2.1
  have g2 := hbg.2.2.1
  have hcc := hbg.2.2.2.1
  have q6 := hbg.2.2.2.2.1
  have q7 := hbg.2.2.2.2.2
  have hco := hco.xs hw6 t hHo x126 (fun b j h h1 h2 => absurd (And.intro h1 h2) (by rw [h.1]; exact t.n9))
  have hX := hX.tr x126 (fun b j _ h => by have h1 := h.1; have h2 := h.2; omega)
  have q5 := (x126.2 se 5 lt_se (fun h => absurd h.2 (by decide))).trans q5
  have e111 := (x126.2 se 4 lt_se (fun h => absurd h.2 (by decide))).trans e111
  have e116 := (x126.2 se 8 lt_se (fun h => absurd h.2 (by decide))).trans e116
  have e121 := (x126.2 se 9 lt_se (fun h => absurd h.2 (by decide))).trans e121
  have lt_se := Nat.lt_of_lt_of_le lt_se x126.1
  refine hs_aload (i := 0) (p := 130) (by decide +kernel) rfl ?_
  refine hs_kld (v := Value.int (Int32.ofNat 1073741824)) (p := 132) (by decide +kernel) ?_
  have hHo := hH
  refine hf_put (T := et_TT) (t := 9) (ci := 7) (f := 15) (p := 135) (ty := .int) (by decide +kernel) rfl rfl rfl rfl rfl hH k_se hi_any (fun G132 hH x132 e132 => ?_)
  have hbg := hbg.xs t t9 k_s0 k_la k_ly hHo x132 (fun b j t9 kb h => by rw [h.1, k_se] at kb; cases kb; exact .inr ⟨rfl, by have h := h.2; omega⟩)
  have hsR := hbg.1
  have hv := hbg.2.1
  have g2 := hbg.2.2.1
  have hcc := hbg.2.2.2.1
  have q6 := hbg.2.2.2.2.1
  have q7 := hbg.2.2.2.2.2
  have hco := hco.xs hw6 t hHo x132 (fun b j h h1 h2 => absurd (And.intro h1 h2) (by rw [h.1]; exact t.n9))
  have hX := hX.tr x132 (fun b j _ h => by have h1 := h.1; have h2 := h.2; omega)
  have q5 := (x132.2 se 5 lt_se (fun h => absurd h.2 (by decide))).trans q5
  have e111 := (x132.2 se 4 lt_se (fun h => absurd h.2 (by decide))).trans e111
  have e116 := (x132.2 se 8 lt_se (fun h => absurd h.2 (by decide))).trans e116
  have e121 := (x132.2 se 9 lt_se (fun h => absurd h.2 (by decide))).trans e121
  have e126 := (x132.2 se 13 lt_se (fun h => absurd h.2 (by decide))).trans e126
  have lt_se := Nat.lt_of_lt_of_le lt_se x132.1
  refine hs_aload (i := 0) (p := 136) (by decide +kernel) rfl ?_
  refine hs_k (x := Int32.ofNat 0) (p := 137) (by decide +kernel) ?_
  have hHo := hH
  refine hf_put (T := et_TT) (t := 9) (ci := 7) (f := 16) (p := 140) (ty := .int) (by decide +kernel) rfl rfl rfl rfl rfl hH k_se hi_any (fun G137 hH x137 e137 => ?_)
  have hbg := hbg.xs t t9 k_s0 k_la k_ly hHo x137 (fun b j t9 kb h => by rw [h.1, k_se] at kb; cases kb; exact .inr ⟨rfl, by have h := h.2; omega⟩)
  have hsR := hbg.1
  have hv := hbg.2.1
  have g2 := hbg.2.2.1
  have hcc := hbg.2.2.2.1
  have q6 := hbg.2.2.2.2.1
  have q7 := hbg.2.2.2.2.2
  have hco := hco.xs hw6 t hHo x137 (fun b j h h1 h2 => absurd (And.intro h1 h2) (by rw [h.1]; exact t.n9))
  have hX := hX.tr x137 (fun b j _ h => by have h1 := h.1; have h2 := h.2; omega)
  have q5 := (x137.2 se 5 lt_se (fun h => absurd h.2 (by decide))).trans q5
  have e111 := (x137.2 se 4 lt_se (fun h => absurd h.2 (by decide))).trans e111
  have e116 := (x137.2 se 8 lt_se (fun h => absurd h.2 (by decide))).trans e116
  have e121 := (x137.2 se 9 lt_se (fun h => absurd h.2 (by decide))).trans e121
  have e126 := (x137.2 se 13 lt_se (fun h => absurd h.2 (by decide))).trans e126
  have e132 := (x137.2 se 15 lt_se (fun h => absurd h.2 (by decide))).trans e132
  have lt_se := Nat.lt_of_lt_of_le lt_se x137.1
  refine hs_vret (by decide +kernel) ?_
  exact ⟨_, _, rfl, hH, hX, rfl, hbg, ⟨e111, q5, e116, e121, e126, e132, e137⟩, hco⟩
end ZMC
end
section
/-! searches: sums of columns as numbers -/
section ZNA
variable {k W w p d r : Nat} {a : Nat → Int}
/-- no column is far from 0 -/
theorem zb_mul {x y : Int} {k : Nat} (hk : k ≤ 3) (h1 : -(k : Int) ≤ x) (h2 : x ≤ k) (h3 : -63 ≤ y) (h4 : y ≤ 63) : -(63 * (k : Int)) ≤ x * y ∧ x * y ≤ 63 * (k : Int) := by
  have a1 := mu_le (x := x) (a := y) h1 h2
  have a2 := mu_le (x := -x) (a := y) (k := k) (by omega) (by omega)
  rw [Int.neg_mul] at a2
  have a3 : (k : Int) * (y.natAbs : Int) ≤ (k : Int) * 63 := Int.mul_le_mul_of_nonneg_left (by omega) (by omega)
  omega
theorem paS_b {n : Nat} (hk : k ≤ 3) (ha : ∀ u, u < W → -63 ≤ a u ∧ a u ≤ 63) : ∀ u, u ≤ W → -(189 * (u : Int)) ≤ paS k W n a u ∧ paS k W n a u ≤ 189 * (u : Int)
  | 0, _ => by
    show -(189 * (0 : Int)) ≤ 0 ∧ (0 : Int) ≤ 189 * 0
    omega
  | u + 1, h => by
    have ih := paS_b (n := n) hk ha u (by omega)
    have hd := kvD_lt (B := 2 * k + 1) (W := W) (n := n) (w := u) (by omega)
    have h9 := ha u (by omega)
    have m := zb_mul (x := ((kvD (2 * k + 1) W n u : Nat) : Int) - (k : Int)) (y := a u) hk (by omega) (by omega) h9.1 h9.2
    show -(189 * ((u + 1 : Nat) : Int)) ≤ paS k W n a u + ((kvD (2 * k + 1) W n u : Nat) - (k : Int)) * a u ∧ paS k W n a u + ((kvD (2 * k + 1) W n u : Nat) - (k : Int)) * a u ≤ 189 * ((u + 1 : Nat) : Int)
    omega
theorem reS_b (hk : k ≤ 3) (ha : ∀ u, u < W → -63 ≤ a u ∧ a u ≤ 63) : ∀ d u, u + d ≤ W → 0 ≤ reS k a d u ∧ reS k a d u ≤ 189 * (d : Int)
  | 0, u, _ => by
    show (0 : Int) ≤ 0 ∧ (0 : Int) ≤ 189 * 0
    omega
  | d + 1, u, h => by
    have ih := reS_b hk ha d (u + 1) (by omega)
    have h9 := ha u (by omega)
    have a3 : (k : Int) * ((a u).natAbs : Int) ≤ (k : Int) * 63 := Int.mul_le_mul_of_nonneg_left (by omega) (by omega)
    have a4 : 0 ≤ (k : Int) * ((a u).natAbs : Int) := Int.mul_nonneg (by omega) (by omega)
    show 0 ≤ reS k a d (u + 1) + (k : Int) * ((a u).natAbs : Int) ∧ reS k a d (u + 1) + (k : Int) * ((a u).natAbs : Int) ≤ 189 * ((d + 1 : Nat) : Int)
    omega
theorem kd_i {k d : Nat} (hk : k ≤ 3) (hd : d < 2 * k + 1) : (Int32.ofNat d - Int32.ofNat k).toInt = (d : Int) - (k : Int) := by
  have h1 := hs_nint (a := d) (by omega)
  have h2 := hs_nint (a := k) (by omega)
  rw [et_sub _ _ (by unfold et_mn; omega) (by unfold et_mx; omega), h1, h2]
/-- one KNOB more, as the class adds it -/
theorem au_i {x y z : Int32} (hk : k ≤ 3) (hd : d < 2 * k + 1) (hW : W ≤ 6) (hw : W = w + 1 + r) (ha : ∀ u, u < W → -63 ≤ a u ∧ a u ≤ 63) (hx : x.toInt = paS k w p a w) (hy : y.toInt = a w) (hz : z.toInt = reS k a r (w + 1)) : (x + (Int32.ofNat d - Int32.ofNat k) * y).toInt = paS k (w + 1) (p * (2 * k + 1) + d) a (w + 1) ∧ (0 < x + (Int32.ofNat d - Int32.ofNat k) * y + z ↔ 0 < paS k (w + 1) (p * (2 * k + 1) + d) a (w + 1) + reS k a r (w + 1)) := by
  have b1 := paS_b (W := w) (n := p) (a := a) hk (fun u hu => ha u (by omega)) w (Nat.le_refl w)
  have b2 := ha w (by omega)
  have b3 := zb_mul (x := (d : Int) - (k : Int)) (y := a w) hk (by omega) (by omega) b2.1 b2.2
  have b4 := reS_b (W := W) hk ha r (w + 1) (by omega)
  have e1 : ((Int32.ofNat d - Int32.ofNat k) * y).toInt = ((d : Int) - (k : Int)) * a w := by
    rw [et_mul _ _ (by rw [kd_i hk hd, hy]; unfold et_mn; omega) (by rw [kd_i hk hd, hy]; unfold et_mx; omega), kd_i hk hd, hy]
  have e2 : (x + (Int32.ofNat d - Int32.ofNat k) * y).toInt = paS k (w + 1) (p * (2 * k + 1) + d) a (w + 1) := by
    rw [et_add _ _ (by rw [hx, e1]; unfold et_mn; omega) (by rw [hx, e1]; unfold et_mx; omega), hx, e1, paS_d hd]
  refine ⟨e2, ?_⟩
  rw [paS_d hd] at e2 ⊢
  rw [xi_gt0, et_add _ _ (by rw [e2, hz]; unfold et_mn; omega) (by rw [e2, hz]; unfold et_mx; omega), e2, hz]
end ZNA
theorem vaI_nat {c x : Int32} {kd : Nat} : ∃ n : Nat, n < 64 ∧ vaI c kd x = Int32.ofNat n := by
  unfold vaI
  obtain ⟨m, hm, e⟩ := bc_nat (x := x &&& c)
  split
  · exact ⟨m, hm, e⟩
  · split
    · split
      · exact ⟨1, by decide, rfl⟩
      · exact ⟨0, by decide, rfl⟩
    · rw [e, ← va_odd m (List.mem_range.mpr hm)]
      have h : ∀ k ∈ List.range 64, Int32.ofNat k - Int32.ofNat k / Int32.ofNat 2 * Int32.ofNat 2 = Int32.ofNat (k % 2) := by decide +kernel
      exact ⟨m % 2, by omega, h m (List.mem_range.mpr hm)⟩
theorem vaI_i {c x : Int32} {kd : Nat} : 0 ≤ (vaI c kd x).toInt ∧ (vaI c kd x).toInt ≤ 63 := by
  obtain ⟨n, hn, e⟩ := vaI_nat (c := c) (x := x) (kd := kd)
  rw [e, hs_nint (by omega)]
  omega
theorem coV_i {C : Nat → Int32} {Kd : Nat → Nat} {L : List (Int32 × Int32)} {c w : Nat} : (coV C Kd L c w).toInt = (vaI (C w) (Kd w) (L.getD c (0, 0)).1).toInt - (vaI (C w) (Kd w) (L.getD c (0, 0)).2).toInt ∧ -63 ≤ (coV C Kd L c w).toInt ∧ (coV C Kd L c w).toInt ≤ 63 := by
  have h1 := vaI_i (c := C w) (kd := Kd w) (x := (L.getD c (0, 0)).1)
  have h2 := vaI_i (c := C w) (kd := Kd w) (x := (L.getD c (0, 0)).2)
  have e : (coV C Kd L c w).toInt = _ := et_sub _ _ (by unfold et_mn; omega) (by unfold et_mx; omega)
  exact ⟨e, by omega, by omega⟩
section ZNB
variable {K : et_K} {G G0 : eg_G} {se r0 r1 r2 r3 cols P c m W d d2 tA tR tS td be sy : Nat} {kb : Int32} {F0 F2 F3 : Nat → Int32} {x8 : Option Value}
theorem fd_auL (hH0 : et_H et_TT K G0) (hH : et_H et_TT K G) (k_se : K se = some 9) (k_r0 : K r0 = some 45) (k_r1 : K r1 = some 45) (k_r2 : K r2 = some 45) (k_r3 : K r3 = some 45) (n0 : ¬ r1 = r0) (n2 : ¬ r1 = r2) (n3 : ¬ r1 = r3) (q4 : et_pl (eg_at G se) 4 = some (.int (Int32.ofNat P))) (q5 : et_pl (eg_at G se) 5 = some (.int (Int32.ofNat cols))) (hcols : cols ≤ 151) (hP : P ≤ cols) (h0 : ∀ c, c < cols → et_pl (eg_at G r0) c = some (.int (F0 c))) (h2 : ∀ c, c < cols → et_pl (eg_at G r2) c = some (.int (F2 c))) (h3 : ∀ c, c < cols → et_pl (eg_at G r3) c = some (.int (F3 c))) (hX : xf (fun b _ => b = r1) G0 G) (g1 : (∀ q, q < c → et_pl (eg_at G r1) q = some (.int (F0 q + kb * F2 q)))) (l1 : (∀ q, q < c → q < P → 0 < (F0 q + kb * F2 q) + F3 q)) (hc : c ≤ cols) : et_go none d2 97 38 [some (.ref se), some (.int (Int32.ofNat m)), some (.int kb), some (.ref r0), some (.ref r1), some (.ref r2), some (.ref r3), some (.int (Int32.ofNat c)), x8] [] G 0 0 (xw_Z (fun b _ => b = r1) K G0 (fun g v => (v = some (.int (Int32.ofNat 1)) ∧ (∀ q, q < cols → et_pl (eg_at g r1) q = some (.int (F0 q + kb * F2 q))) ∧ ∀ c, c < P → 0 < (F0 c + kb * F2 c) + F3 c) ∨ (v = some (.int (Int32.ofNat 0)) ∧ ∃ c, c < P ∧ ¬ 0 < (F0 c + kb * F2 c) + F3 c))) := by
  induction hq9 : cols - c using Nat.strongRecOn generalizing c G x8 with
  | _ q9 ih =>
    have lt_se := (hH.2.2 _ _ k_se).1
    have lt_r0 := (hH.2.2 _ _ k_r0).1
    have lt_r1 := (hH.2.2 _ _ k_r1).1
    have lt_r2 := (hH.2.2 _ _ k_r2).1
    have lt_r3 := (hH.2.2 _ _ k_r3).1
    refine hs_iload (i := 7) (p := 40) (by decide +kernel) rfl ?_
    refine hs_aload (i := 0) (p := 41) (by decide +kernel) rfl ?_
    refine hf_get (T := et_TT) (t := 9) (ci := 7) (f := 5) (p := 44) (by decide +kernel) rfl hH k_se q5 ?_
    refine hs_br2n (c := .ge) (t := 96) (f := 47) (by decide +kernel) (by omega) (by omega) (fun (c44 : cols ≤ c) => ?_) (fun (c44 : ¬ (cols ≤ c)) => ?_)
    · refine hs_k (x := Int32.ofNat 1) (p := 97) (by decide +kernel) ?_
      refine hs_zret (by decide +kernel) (.inr rfl) ?_
      obtain rfl : c = cols := by omega
      exact ⟨_, _, rfl, hH, hX, .inl ⟨rfl, g1, fun q hq => l1 q (by omega) hq⟩⟩
    · refine hs_aload (i := 3) (p := 48) (by decide +kernel) rfl ?_
      refine hs_iload (i := 7) (p := 50) (by decide +kernel) rfl ?_
      refine hf_ald (ins := .iaload) (T := et_TT) (t := 45) (kd := 0) (N := 151) (p := 51) (by decide +kernel) (fun _ _ _ _ _ _ _ _ _ _ => rfl) rfl rfl rfl hH k_r0 (by decide) (h0 c (by omega)) ?_
      refine hs_iload (i := 2) (p := 52) (by decide +kernel) rfl ?_
      refine hs_aload (i := 5) (p := 54) (by decide +kernel) rfl ?_
      refine hs_iload (i := 7) (p := 56) (by decide +kernel) rfl ?_
      refine hf_ald (ins := .iaload) (T := et_TT) (t := 45) (kd := 0) (N := 151) (p := 57) (by decide +kernel) (fun _ _ _ _ _ _ _ _ _ _ => rfl) rfl rfl rfl hH k_r2 (by decide) (h2 c (by omega)) ?_
      refine hs_imul (p := 58) (by decide +kernel) ?_
      refine hs_iadd (p := 59) (by decide +kernel) ?_
      refine hs_istore (i := 8) (p := 61) (by decide +kernel) (Nat.le_of_ble_eq_true rfl) ?_
      refine hs_iload (i := 7) (p := 63) (by decide +kernel) rfl ?_
      refine hs_aload (i := 0) (p := 64) (by decide +kernel) rfl ?_
      refine hf_get (T := et_TT) (t := 9) (ci := 7) (f := 4) (p := 67) (by decide +kernel) rfl hH k_se q4 ?_
      refine hs_br2n (c := .ge) (t := 83) (f := 70) (by decide +kernel) (by omega) (by omega) (fun (c67 : P ≤ c) => ?_) (fun (c67 : ¬ (P ≤ c)) => ?_)
      · refine hs_aload (i := 4) (p := 85) (by decide +kernel) rfl ?_
        refine hs_iload (i := 7) (p := 87) (by decide +kernel) rfl ?_
        refine hs_iload (i := 8) (p := 89) (by decide +kernel) rfl ?_
        refine hf_ist (T := et_TT) (t := 45) (N := 151) (p := 90) (by decide +kernel) rfl rfl (by decide) hH k_r1 (by omega) (by decide) (fun s hs => absurd hs List.not_mem_nil) (fun G89 hH x89 e89 => ?_)
        have h0 : ∀ c, c < cols → et_pl (eg_at G89 r0) c = some (.int (F0 c)) := fun c hc => (x89.2 r0 c lt_r0 (fun h => n0 h.1.symm)).trans (h0 c hc)
        have h2 : ∀ c, c < cols → et_pl (eg_at G89 r2) c = some (.int (F2 c)) := fun c hc => (x89.2 r2 c lt_r2 (fun h => n2 h.1.symm)).trans (h2 c hc)
        have h3 : ∀ c, c < cols → et_pl (eg_at G89 r3) c = some (.int (F3 c)) := fun c hc => (x89.2 r3 c lt_r3 (fun h => n3 h.1.symm)).trans (h3 c hc)
        have q4 := (x89.2 se 4 lt_se (fun h => hi_ne k_se k_r1 (by decide) h.1)).trans q4
        have q5 := (x89.2 se 5 lt_se (fun h => hi_ne k_se k_r1 (by decide) h.1)).trans q5
        have g1b : ∀ q, q < c + 1 → et_pl (eg_at G89 r1) q = some (.int (F0 q + kb * F2 q)) := fun q hq => by
          by_cases eq : q = c
          · rw [eq]; exact e89
          · exact (x89.2 r1 q lt_r1 (fun h => eq h.2)).trans (g1 q (by omega))
        have hX := hX.tr x89 (fun b j _ h => h.1)
        refine hs_iinc1 (i := 7) (p := 93) (by decide +kernel) rfl (Nat.le_of_ble_eq_true rfl) ?_
        refine hs_goto (p := 38) (by decide +kernel) ?_
        have l1b : (∀ q, q < (c + 1) → q < P → 0 < (F0 q + kb * F2 q) + F3 q) := fun q hq hq2 => by
          by_cases eq : q = c
          · omega
          · exact l1 q (by omega) hq2
        exact ih (cols - (c + 1)) (by omega) hH q4 q5 h0 h2 h3 hX g1b l1b (by omega) rfl
      · refine hs_iload (i := 8) (p := 72) (by decide +kernel) rfl ?_
        refine hs_aload (i := 6) (p := 74) (by decide +kernel) rfl ?_
        refine hs_iload (i := 7) (p := 76) (by decide +kernel) rfl ?_
        refine hf_ald (ins := .iaload) (T := et_TT) (t := 45) (kd := 0) (N := 151) (p := 77) (by decide +kernel) (fun _ _ _ _ _ _ _ _ _ _ => rfl) rfl rfl rfl hH k_r3 (by decide) (h3 c (by omega)) ?_
        refine hs_iadd (p := 78) (by decide +kernel) ?_
        refine hs_br1 (c := .gt) (t := 83) (f := 81) (by decide +kernel) (fun (c78 : 0 < (((F0 c) + (kb * (F2 c))) + (F3 c))) => ?_) (fun (c78 : ¬ (0 < (((F0 c) + (kb * (F2 c))) + (F3 c)))) => ?_)
        · refine hs_aload (i := 4) (p := 85) (by decide +kernel) rfl ?_
          refine hs_iload (i := 7) (p := 87) (by decide +kernel) rfl ?_
          refine hs_iload (i := 8) (p := 89) (by decide +kernel) rfl ?_
          refine hf_ist (T := et_TT) (t := 45) (N := 151) (p := 90) (by decide +kernel) rfl rfl (by decide) hH k_r1 (by omega) (by decide) (fun s hs => absurd hs List.not_mem_nil) (fun G89 hH x89 e89 => ?_)
          have h0 : ∀ c, c < cols → et_pl (eg_at G89 r0) c = some (.int (F0 c)) := fun c hc => (x89.2 r0 c lt_r0 (fun h => n0 h.1.symm)).trans (h0 c hc)
          have h2 : ∀ c, c < cols → et_pl (eg_at G89 r2) c = some (.int (F2 c)) := fun c hc => (x89.2 r2 c lt_r2 (fun h => n2 h.1.symm)).trans (h2 c hc)
          have h3 : ∀ c, c < cols → et_pl (eg_at G89 r3) c = some (.int (F3 c)) := fun c hc => (x89.2 r3 c lt_r3 (fun h => n3 h.1.symm)).trans (h3 c hc)
          have q4 := (x89.2 se 4 lt_se (fun h => hi_ne k_se k_r1 (by decide) h.1)).trans q4
          have q5 := (x89.2 se 5 lt_se (fun h => hi_ne k_se k_r1 (by decide) h.1)).trans q5
          have g1b : ∀ q, q < c + 1 → et_pl (eg_at G89 r1) q = some (.int (F0 q + kb * F2 q)) := fun q hq => by
            by_cases eq : q = c
            · rw [eq]; exact e89
            · exact (x89.2 r1 q lt_r1 (fun h => eq h.2)).trans (g1 q (by omega))
          have hX := hX.tr x89 (fun b j _ h => h.1)
          refine hs_iinc1 (i := 7) (p := 93) (by decide +kernel) rfl (Nat.le_of_ble_eq_true rfl) ?_
          refine hs_goto (p := 38) (by decide +kernel) ?_
          have l1b : (∀ q, q < (c + 1) → q < P → 0 < (F0 q + kb * F2 q) + F3 q) := fun q hq hq2 => by
            by_cases eq : q = c
            · rw [eq]; exact c78
            · exact l1 q (by omega) hq2
          exact ih (cols - (c + 1)) (by omega) hH q4 q5 h0 h2 h3 hX g1b l1b (by omega) rfl
        · refine hs_k (x := Int32.ofNat 0) (p := 82) (by decide +kernel) ?_
          refine hs_zret (by decide +kernel) (.inl rfl) ?_
          exact ⟨_, _, rfl, hH, hX, .inr ⟨rfl, c, by omega, c78⟩⟩
theorem fd_au {w : Nat} (hH : et_H et_TT K G) (t : seT K se tA tR tS td be sy) (hsR : seR G se tA tR tS td be sy) (hw : w < 6) (q4 : et_pl (eg_at G se) 4 = some (.int (Int32.ofNat P))) (q5 : et_pl (eg_at G se) 5 = some (.int (Int32.ofNat cols))) (hcols : cols ≤ 151) (hP : P ≤ cols) (h0 : ∀ c, c < cols → et_pl (eg_at G (tS + 1 + w)) c = some (.int (F0 c))) (h2 : ∀ c, c < cols → et_pl (eg_at G (tA + 1 + w)) c = some (.int (F2 c))) (h3 : ∀ c, c < cols → et_pl (eg_at G (tR + 1 + (w + 1))) c = some (.int (F3 c))) : et_go none d2 97 0 (eg_en (eg_mL 97) [.ref se, .int (Int32.ofNat w), .int kb]) [] G 0 0 (xw_Z (fun b _ => b = (tS + 1 + (w + 1))) K G (fun g v => (v = some (.int (Int32.ofNat 1)) ∧ (∀ q, q < cols → et_pl (eg_at g (tS + 1 + (w + 1))) q = some (.int (F0 q + kb * F2 q))) ∧ ∀ c, c < P → 0 < (F0 c + kb * F2 c) + F3 c) ∨ (v = some (.int (Int32.ofNat 0)) ∧ ∃ c, c < P ∧ ¬ 0 < (F0 c + kb * F2 c) + F3 c))) := by
  rw [show eg_mL 97 = 9 from by decide +kernel]
  show et_go none d2 97 0 [some (.ref se), some (.int (Int32.ofNat w)), some (.int kb), none, none, none, none, none, none] [] G 0 0 _
  have k_se := t.1.1
  have k_tA := t.1.2.1
  have k_tR := t.1.2.2.1
  have k_tS := t.1.2.2.2.1
  have k_td := t.1.2.2.2.2.1
  have k_be := t.1.2.2.2.2.2.1
  have k_sy := t.1.2.2.2.2.2.2
  refine hs_aload (i := 0) (p := 1) (by decide +kernel) rfl ?_
  refine hf_get (T := et_TT) (t := 9) (ci := 7) (f := 2) (p := 4) (by decide +kernel) rfl hH k_se hsR.1.2.2.1 ?_
  refine hs_iload (i := 1) (p := 5) (by decide +kernel) rfl ?_
  refine hf_ald (ins := .aaload) (T := et_TT) (t := 44) (kd := 11) (N := 7) (p := 6) (by decide +kernel) (fun _ _ _ _ _ _ _ _ _ _ => rfl) rfl rfl rfl hH k_tS (by decide) (hsR.2.2.2 w (by omega)) ?_
  refine hs_astore (i := 3) (p := 7) (by decide +kernel) (Nat.le_of_ble_eq_true rfl) ?_
  refine hs_aload (i := 0) (p := 8) (by decide +kernel) rfl ?_
  refine hf_get (T := et_TT) (t := 9) (ci := 7) (f := 2) (p := 11) (by decide +kernel) rfl hH k_se hsR.1.2.2.1 ?_
  refine hs_iload (i := 1) (p := 12) (by decide +kernel) rfl ?_
  refine hs_k (x := Int32.ofNat 1) (p := 13) (by decide +kernel) ?_
  refine hs_iaddn (p := 14) (by decide +kernel) ?_
  refine hf_ald (ins := .aaload) (T := et_TT) (t := 44) (kd := 11) (N := 7) (p := 15) (by decide +kernel) (fun _ _ _ _ _ _ _ _ _ _ => rfl) rfl rfl rfl hH k_tS (by decide) (hsR.2.2.2 (w + 1) (by omega)) ?_
  refine hs_astore (i := 4) (p := 17) (by decide +kernel) (Nat.le_of_ble_eq_true rfl) ?_
  refine hs_aload (i := 0) (p := 18) (by decide +kernel) rfl ?_
  refine hf_get (T := et_TT) (t := 9) (ci := 7) (f := 0) (p := 21) (by decide +kernel) rfl hH k_se hsR.1.1 ?_
  refine hs_iload (i := 1) (p := 22) (by decide +kernel) rfl ?_
  refine hf_ald (ins := .aaload) (T := et_TT) (t := 43) (kd := 11) (N := 6) (p := 23) (by decide +kernel) (fun _ _ _ _ _ _ _ _ _ _ => rfl) rfl rfl rfl hH k_tA (by decide) (hsR.2.1 w hw) ?_
  refine hs_astore (i := 5) (p := 25) (by decide +kernel) (Nat.le_of_ble_eq_true rfl) ?_
  refine hs_aload (i := 0) (p := 26) (by decide +kernel) rfl ?_
  refine hf_get (T := et_TT) (t := 9) (ci := 7) (f := 1) (p := 29) (by decide +kernel) rfl hH k_se hsR.1.2.1 ?_
  refine hs_iload (i := 1) (p := 30) (by decide +kernel) rfl ?_
  refine hs_k (x := Int32.ofNat 1) (p := 31) (by decide +kernel) ?_
  refine hs_iaddn (p := 32) (by decide +kernel) ?_
  refine hf_ald (ins := .aaload) (T := et_TT) (t := 44) (kd := 11) (N := 7) (p := 33) (by decide +kernel) (fun _ _ _ _ _ _ _ _ _ _ => rfl) rfl rfl rfl hH k_tR (by decide) (hsR.2.2.1 (w + 1) (by omega)) ?_
  refine hs_astore (i := 6) (p := 35) (by decide +kernel) (Nat.le_of_ble_eq_true rfl) ?_
  refine hs_k (x := Int32.ofNat 0) (p := 36) (by decide +kernel) ?_
  refine hs_istore (i := 7) (p := 38) (by decide +kernel) (Nat.le_of_ble_eq_true rfl) ?_
  exact fd_auL (c := 0) hH hH k_se (t.2.2.2.2 w (by omega)) (t.2.2.2.2 (w + 1) (by omega)) (t.2.2.1 w hw) (t.2.2.2.1 (w + 1) (by omega)) (by omega) (fun e => by have h := t.2.1; omega) (fun e => by have h := t.2.1; omega) q4 q5 hcols hP h0 h2 h3 xf.rf (fun q hq => absurd hq (Nat.not_lt_zero q)) (fun q hq => absurd hq (Nat.not_lt_zero q)) (Nat.zero_le cols)
end ZNB
end
section
/-! searches: the class chooses one KNOB after another -/
/-- what a choice from WIRE w on may change -/
def chS (tS td se be sy w b j : Nat) : Prop := (tS + 1 + w < b ∧ b ≤ tS + 7) ∨ (b = td ∧ w ≤ j) ∨ (b = se ∧ (j = 13 ∨ j = 15 ∨ j = 16)) ∨ b = be ∨ b = sy
def chI (G : eg_G) (se tA tR tS td be sy P cols W k : Nat) (C : Nat → Int32) (Kd : Nat → Nat) (L : List (Int32 × Int32)) (RE : Nat → Nat → Int32) : Prop := seR G se tA tR tS td be sy ∧ (et_pl (eg_at G se) 4 = some (.int (Int32.ofNat P)) ∧ et_pl (eg_at G se) 5 = some (.int (Int32.ofNat cols)) ∧ et_pl (eg_at G se) 6 = some (.int (Int32.ofNat W)) ∧ et_pl (eg_at G se) 7 = some (.int (Int32.ofNat k))) ∧ coR G tA W C Kd L ∧ ∀ c w, c < cols → w ≤ W → et_pl (eg_at G (tR + 1 + w)) c = some (.int (RE w c))
def smR (G : eg_G) (tS w cols : Nat) (f : Nat → Int) : Prop := ∃ F : Nat → Int32, (∀ c, c < cols → et_pl (eg_at G (tS + 1 + w)) c = some (.int (F c))) ∧ ∀ c, c < cols → (F c).toInt = f c
def tdQ (G : eg_G) (td w : Nat) (T : Nat → Int32) : Prop := ∀ u, u < w → et_pl (eg_at G td) u = some (.int (T u))
section ZOA
variable {K : et_K} {G G' : eg_G} {S : Nat → Nat → Prop} {se tA tR tS td be sy P cols W k w : Nat} {C : Nat → Int32} {Kd : Nat → Nat} {L : List (Int32 × Int32)} {RE : Nat → Nat → Int32} {f : Nat → Int} {T : Nat → Int32}
theorem chI.xs (h : chI G se tA tR tS td be sy P cols W k C Kd L RE) (hW : W ≤ 6) (t : seT K se tA tR tS td be sy) (hH : et_H et_TT K G) (x : xf S G G') (hs : ∀ b j, S b j → chS tS td se be sy w b j) : chI G' se tA tR tS td be sy P cols W k C Kd L RE := by
  obtain ⟨h1, ⟨a1, a2, a3, a4⟩, h3, h4⟩ := h
  obtain ⟨⟨k1, k2, k3, k4, k5, k6, k7⟩, ⟨l1, l2, l3⟩, r1, r2, r3⟩ := t
  have t : seT K se tA tR tS td be sy := ⟨⟨k1, k2, k3, k4, k5, k6, k7⟩, ⟨l1, l2, l3⟩, r1, r2, r3⟩
  have lt : ∀ a t, K a = some t → a < G.2 := fun a t ha => (hH.2.2 a t ha).1
  have r4 : ∀ b, tS + 1 + w < b → b ≤ tS + 7 → K b = some 45 := fun b h1 h2 => by
    have h3 := r3 (b - (tS + 1)) (by omega)
    rw [show tS + 1 + (b - (tS + 1)) = b by omega] at h3
    exact h3
  have hs2 : ∀ b j u, K b = some u → S b j → u = 45 ∨ u = 51 ∨ u = 19 ∨ (u = 9 ∧ (j = 13 ∨ j = 15 ∨ j = 16)) := fun b j u kb q => by
    rcases hs b j q with ⟨q1, q2⟩ | ⟨q1, -⟩ | ⟨q1, q2⟩ | q1 | q1
    · rw [r4 b q1 q2] at kb
      cases kb
      exact .inl rfl
    · rw [q1, k5] at kb
      cases kb
      exact .inr (.inl rfl)
    · rw [q1, k1] at kb
      cases kb
      exact .inr (.inr (.inr ⟨rfl, q2⟩))
    · rw [q1, k6] at kb
      cases kb
      exact .inr (.inl rfl)
    · rw [q1, k7] at kb
      cases kb
      exact .inr (.inr (.inl rfl))
  have fse : ∀ j, ¬ (j = 13 ∨ j = 15 ∨ j = 16) → et_pl (eg_at G' se) j = et_pl (eg_at G se) j := fun j hj => x.2 se j (lt _ _ k1) (fun q => by
    rcases hs2 _ _ _ k1 q with h | h | h | ⟨-, h⟩
    · cases h
    · cases h
    · cases h
    · exact hj h)
  have frow : ∀ b, b ≤ tS → K b = some 45 → ∀ j, et_pl (eg_at G' b) j = et_pl (eg_at G b) j := fun b hb kb j => x.2 b j (lt _ _ kb) (fun q => by
    rcases hs b j q with ⟨q1, -⟩ | ⟨q1, -⟩ | ⟨q1, -⟩ | q1 | q1
    · omega
    · rw [q1, k5] at kb
      cases kb
    · rw [q1, k1] at kb
      cases kb
    · rw [q1, k6] at kb
      cases kb
    · rw [q1, k7] at kb
      cases kb)
  refine ⟨h1.xs t hH x (fun b j u kb q => ?_), ⟨(fse 4 (by decide)).trans a1, (fse 5 (by decide)).trans a2, (fse 6 (by decide)).trans a3, (fse 7 (by decide)).trans a4⟩, fun c w hc hw => (frow _ (by omega) (r1 w (by omega)) c).trans (h3 c w hc hw), fun c w hc hw => (frow _ (by omega) (r2 w (by omega)) c).trans (h4 c w hc hw)⟩
  rcases hs2 _ _ _ kb q with rfl | rfl | rfl | ⟨rfl, h⟩
  · exact ⟨by decide, by decide, fun h => absurd h (by decide)⟩
  · exact ⟨by decide, by decide, fun h => absurd h (by decide)⟩
  · exact ⟨by decide, by decide, fun h => absurd h (by decide)⟩
  · exact ⟨by decide, by decide, fun _ => by omega⟩
theorem smR.xs (h : smR G tS w cols f) (hw : w ≤ 6) (t : seT K se tA tR tS td be sy) (hH : et_H et_TT K G) (x : xf S G G') (hs : ∀ b j, S b j → chS tS td se be sy w b j) : smR G' tS w cols f := by
  obtain ⟨F, h1, h2⟩ := h
  obtain ⟨⟨k1, k2, k3, k4, k5, k6, k7⟩, ⟨l1, l2, l3⟩, r1, r2, r3⟩ := t
  refine ⟨F, fun c hc => (x.2 _ c (hH.2.2 _ _ (r3 w (by omega))).1 (fun q => ?_)).trans (h1 c hc), h2⟩
  rcases hs _ _ q with ⟨q1, -⟩ | ⟨q1, -⟩ | ⟨q1, -⟩ | q1 | q1
  · omega
  · exact hi_ne (r3 w (by omega)) k5 (by decide) q1
  · exact hi_ne (r3 w (by omega)) k1 (by decide) q1
  · exact hi_ne (r3 w (by omega)) k6 (by decide) q1
  · exact hi_ne (r3 w (by omega)) k7 (by decide) q1
theorem tdQ.xs (h : tdQ G td w T) (hw : w ≤ 6) (t : seT K se tA tR tS td be sy) (hH : et_H et_TT K G) (x : xf S G G') (hs : ∀ b j, S b j → chS tS td se be sy w b j) : tdQ G' td w T := fun u hu => by
  obtain ⟨⟨k1, k2, k3, k4, k5, k6, k7⟩, ⟨l1, l2, l3⟩, r1, r2, r3⟩ := t
  refine (x.2 _ u (hH.2.2 _ _ k5).1 (fun q => ?_)).trans (h u hu)
  rcases hs _ _ q with ⟨q1, q2⟩ | ⟨-, q1⟩ | ⟨q1, -⟩ | q1 | q1
  · have h3 := r3 (td - (tS + 1)) (by omega)
    rw [show tS + 1 + (td - (tS + 1)) = td by omega, k5] at h3
    cases h3
  · omega
  · exact hi_ne k5 k1 (by decide) q1
  · exact l1 q1
  · exact hi_ne k5 k7 (by decide) q1
theorem chS.up {b j : Nat} (h : chS tS td se be sy (w + 1) b j) : chS tS td se be sy w b j := by
  rcases h with ⟨q1, q2⟩ | ⟨q1, q2⟩ | q | q | q
  · exact .inl ⟨by omega, q2⟩
  · exact .inr (.inl ⟨q1, by omega⟩)
  · exact .inr (.inr (.inl q))
  · exact .inr (.inr (.inr (.inl q)))
  · exact .inr (.inr (.inr (.inr q)))
end ZOA
section ZOB
variable {k w p d : Nat}
theorem kvT_d (hd : d < 2 * k + 1) : ∀ u, u < w + 1 → kvT k (w + 1) (p * (2 * k + 1) + d) u = if u = w then Int32.ofNat d - Int32.ofNat k else kvT k w p u := fun u hu => by
  by_cases e : u = w
  · rw [if_pos e, e]
    show Int32.ofNat (kvD (2 * k + 1) (w + 1) (p * (2 * k + 1) + d) w) - Int32.ofNat k = _
    rw [kvD_at (B := 2 * k + 1) (W := w + 1) (w := w) (r := 0) (p := p) (d := d) rfl hd (by rw [Nat.pow_zero]; omega) (by rw [Nat.pow_zero]; omega)]
  · rw [if_neg e]
    show Int32.ofNat (kvD (2 * k + 1) (w + 1) (p * (2 * k + 1) + d) u) - Int32.ofNat k = Int32.ofNat (kvD (2 * k + 1) w p u) - Int32.ofNat k
    rw [kvD_up (B := 2 * k + 1) (W := w + 1) (w := w) (r := 1) (p := p) rfl (by omega) (by rw [Nat.pow_one]; omega) (by rw [Nat.pow_one, Nat.add_mul]; omega)]
    rfl
theorem kd_gt : ∀ k ∈ List.range 4, ∀ d ∈ List.range 8, (Int32.ofNat k < Int32.ofNat d - Int32.ofNat k ↔ 2 * k < d) := by decide +kernel
theorem kd_s {x : Int32} : x + Int32.ofInt (1) = x + Int32.ofNat 1 := rfl
end ZOB
section ZOC
variable {K : et_K} {G G0 : eg_G} {J : Nat → eg_G → Prop} {se tA tR tS td be sy P cols W k r d d2 m p q : Nat} {C : Nat → Int32} {Kd : Nat → Nat} {L : List (Int32 × Int32)} {RE : Nat → Nat → Int32} {x4 : Option Value}
theorem fd_chL (hH0 : et_H et_TT K G0) (hH : et_H et_TT K G) (t : seT K se tA tR tS td be sy) (hW : W ≤ 6) (hk : k ≤ 3) (hcols : cols ≤ 151) (hP : P ≤ cols) (hLc : L.length = cols) (hRE : ∀ c w, c < cols → w ≤ W → (RE w c).toInt = reS k (fun w => (coV C Kd L c w).toInt) (W - w) w) (hJf : ∀ n G G', J n G → et_H et_TT K G → xf (fun b _ => (tR + 1 ≤ b ∧ b ≤ tR + 7) ∨ (tS + 1 ≤ b ∧ b ≤ tS + 7) ∨ b = td) G G' → J n G') (hJl : ∀ n G, J n G → ∃ l : Nat, l ≤ 1073741824 ∧ et_pl (eg_at G se) 15 = some (.int (Int32.ofNat l)) ∧ ∀ w p r, W = w + r → n = (p * (2 * k + 1) ^ r) → l ≤ kvS k w p w → J ((p + 1) * (2 * k + 1) ^ r) G) (hJc : ∀ w p r c G, W = w + r → c < P → paS k w p (fun w => (coV C Kd L c w).toInt) w + reS k (fun w => (coV C Kd L c w).toInt) r w ≤ 0 → J (p * (2 * k + 1) ^ r) G → J ((p + 1) * (2 * k + 1) ^ r) G) (hJt : ∀ p l G d2, 2 ≤ d2 → et_H et_TT K G → chI G se tA tR tS td be sy P cols W k C Kd L RE → J p G → l ≤ 1073741824 → et_pl (eg_at G se) 15 = some (.int (Int32.ofNat l)) → kvS k W p W < l → (∀ c, c < P → 0 < paS k W p (fun w => (coV C Kd L c w).toInt) W) → tdQ G td W (kvT k W p) → smR G tS W cols (fun c => paS k W p (fun w => (coV C Kd L c w).toInt) W) → et_go none d2 95 0 (eg_en (eg_mL 95) [.ref se, .int (Int32.ofNat (kvS k W p W))]) [] G 0 0 (xw_Z (fun b j => (b = se ∧ (j = 13 ∨ j = 15 ∨ j = 16)) ∨ b = be ∨ b = sy) K G (fun g v9 => v9 = none ∧ J (p + 1) g))) (hWm : W = m + (r + 1)) (hrec : ∀ (p l d2 : Nat) (G : eg_G), r + 4 ≤ d2 → et_H et_TT K G → chI G se tA tR tS td be sy P cols W k C Kd L RE → J (p * (2 * k + 1) ^ r) G → smR G tS (m + 1) cols (fun c => paS k (m + 1) p (fun w => (coV C Kd L c w).toInt) (m + 1)) → tdQ G td (m + 1) (kvT k (m + 1) p) → (∀ c, c < P → 0 < paS k (m + 1) p (fun w => (coV C Kd L c w).toInt) (m + 1) + reS k (fun w => (coV C Kd L c w).toInt) r (m + 1)) → l ≤ 1073741824 → et_pl (eg_at G se) 15 = some (.int (Int32.ofNat l)) → kvS k (m + 1) p (m + 1) < l → et_go none d2 94 0 (eg_en (eg_mL 94) [.ref se, .int (Int32.ofNat (m + 1)), .int (Int32.ofNat (kvS k (m + 1) p (m + 1)))]) [] G 0 0 (xw_Z (chS tS td se be sy (m + 1)) K G (fun g v9 => v9 = none ∧ J ((p + 1) * (2 * k + 1) ^ r) g))) (hq : q ≤ 2 * k + 1) (hX : xf (chS tS td se be sy m) G0 G) (hci : chI G se tA tR tS td be sy P cols W k C Kd L RE) (hJ : J ((p * (2 * k + 1) + q) * (2 * k + 1) ^ r) G) (hsm : smR G tS m cols (fun c => paS k m p (fun w => (coV C Kd L c w).toInt) m)) (htd : tdQ G td m (kvT k m p)) : et_go none (d + r + 5) 94 26 [some (.ref se), some (.int (Int32.ofNat m)), some (.int (Int32.ofNat (kvS k m p m))), some (.int (Int32.ofNat q - Int32.ofNat k)), x4] [] G 0 0 (xw_Z (chS tS td se be sy m) K G0 (fun g v9 => v9 = none ∧ J ((p + 1) * (2 * k + 1) ^ (r + 1)) g)) := by
  induction hq9 : 2 * k + 1 - q using Nat.strongRecOn generalizing q G x4 with
  | _ q9 ih =>
    have k_se := t.1.1
    have k_tA := t.1.2.1
    have k_tR := t.1.2.2.1
    have k_tS := t.1.2.2.2.1
    have k_td := t.1.2.2.2.2.1
    have k_be := t.1.2.2.2.2.2.1
    have k_sy := t.1.2.2.2.2.2.2
    have hsR := hci.1
    have q4 := hci.2.1.1
    have q5 := hci.2.1.2.1
    have q6 := hci.2.1.2.2.1
    have q7 := hci.2.1.2.2.2
    have lt_se := (hH.2.2 _ _ k_se).1
    obtain ⟨l, hl, q15, hdear⟩ := hJl _ _ hJ
    have hkg := kd_gt k (List.mem_range.mpr (by omega)) q (List.mem_range.mpr (by omega))
    have hkm : kvS k m p m ≤ 18 := by
      have h1 := kvS_le (k := k) (W := m) (n := p) m
      have h2 : k * m ≤ 3 * 6 := Nat.mul_le_mul hk (by omega)
      omega
    have hka : kvA k q ≤ 7 := by unfold kvA; split <;> omega
    have hx : ((p * (2 * k + 1) + q + 1) * (2 * k + 1) ^ r) = ((p * (2 * k + 1) + (q + 1)) * (2 * k + 1) ^ r) := by rw [Nat.add_assoc]
    refine hs_iload (i := 3) (p := 27) (by decide +kernel) rfl ?_
    refine hs_aload (i := 0) (p := 28) (by decide +kernel) rfl ?_
    refine hf_get (T := et_TT) (t := 9) (ci := 7) (f := 7) (p := 31) (by decide +kernel) rfl hH k_se q7 ?_
    refine hs_br2 (c := .gt) (t := 82) (f := 34) (by decide +kernel) (fun (c31 : Int32.ofNat k < (Int32.ofNat q - Int32.ofNat k)) => ?_) (fun (c31 : ¬ (Int32.ofNat k < (Int32.ofNat q - Int32.ofNat k))) => ?_)
    · refine hs_vret (by decide +kernel) ?_
      have eq : q = 2 * k + 1 := by have h9 := hkg.mp c31; omega
      rw [eq] at hJ
      have e9 : ((p * (2 * k + 1) + (2 * k + 1)) * (2 * k + 1) ^ r) = ((p + 1) * (2 * k + 1) ^ (r + 1)) := by
        rw [Nat.pow_succ, show p * (2 * k + 1) + (2 * k + 1) = (p + 1) * (2 * k + 1) by rw [Nat.add_mul, Nat.one_mul], Nat.mul_assoc, Nat.mul_comm (2 * k + 1)]
      rw [e9] at hJ
      exact ⟨_, _, rfl, hH, hX, rfl, hJ⟩
    · have hq2 : q < 2 * k + 1 := by
        rcases Nat.lt_or_ge (2 * k) q with h9 | h9
        · exact absurd (hkg.mpr h9) c31
        · omega
      refine hs_iload (i := 2) (p := 35) (by decide +kernel) rfl ?_
      refine hs_iload (i := 3) (p := 36) (by decide +kernel) rfl ?_
      refine hs_math (mi := 309) (lk := 5) (p := 39) (by decide +kernel) rfl rfl rfl rfl ?_
      rw [show (if 0 ≤ (Int32.ofNat q - Int32.ofNat k) then (Int32.ofNat q - Int32.ofNat k) else 0 - (Int32.ofNat q - Int32.ofNat k)) = Int32.ofNat (kvA k q) from abI_kv k (List.mem_range.mpr (by omega)) q (List.mem_range.mpr (by omega))]
      refine hs_iaddn (p := 40) (by decide +kernel) ?_
      refine hs_istore (i := 4) (p := 42) (by decide +kernel) (Nat.le_of_ble_eq_true rfl) ?_
      refine hs_iload (i := 4) (p := 44) (by decide +kernel) rfl ?_
      refine hs_aload (i := 0) (p := 45) (by decide +kernel) rfl ?_
      refine hf_get (T := et_TT) (t := 9) (ci := 7) (f := 15) (p := 48) (by decide +kernel) rfl hH k_se q15 ?_
      refine hs_br2n (c := .ge) (t := 76) (f := 51) (by decide +kernel) (by omega) (by omega) (fun (c48 : l ≤ ((kvS k m p m) + (kvA k q))) => ?_) (fun (c48 : ¬ (l ≤ ((kvS k m p m) + (kvA k q)))) => ?_)
      · have hJ2 := hdear (m + 1) (p * (2 * k + 1) + q) r (by omega) rfl (by rw [kvS_d (by omega)]; exact c48)
        rw [hx] at hJ2
        refine hs_iinc (i := 3) (n := 1) (p := 79) (by decide +kernel) rfl (Nat.le_of_ble_eq_true rfl) ?_
        rw [kd_s, ← kvT_1 k (List.mem_range.mpr (by omega)) q (List.mem_range.mpr (by omega))]
        refine hs_goto (p := 26) (by decide +kernel) ?_
        exact ih (2 * k + 1 - (q + 1)) (by omega) hH (by omega) hX hci hJ2 hsm htd rfl
      · refine hs_aload (i := 0) (p := 52) (by decide +kernel) rfl ?_
        refine hs_iload (i := 1) (p := 53) (by decide +kernel) rfl ?_
        refine hs_iload (i := 3) (p := 54) (by decide +kernel) rfl ?_
        obtain ⟨F0, hF0, hF0i⟩ := hsm
        have hHo := hH
        refine ht_callv (T := et_TT) (t := 9) (mi := 97) (na := 2) (ci := 7) (lk := 5) (lm := 9) (L0 := eg_en (eg_mL 97) [.ref se, .int (Int32.ofNat m), .int (Int32.ofNat q - Int32.ofNat k)]) (by decide +kernel) rfl hH k_se rfl rfl rfl rfl rfl (by rw [show eg_mL 97 = 9 from by decide +kernel]; first | done | rfl) ?_
        refine (fd_au (F0 := F0) (F2 := fun c => coV C Kd L c m) (F3 := RE (m + 1)) hH t hsR (by omega) q4 q5 hcols hP hF0 (fun c hc => hci.2.2.1 c m (by omega) (by omega)) (fun c hc => hci.2.2.2 c (m + 1) hc (by omega))).mono (fun u9 hu9 => xw_cb hu9 (fun G2 v2 hH x2 hP2 => ?_))
        have hnum := fun c (hc : c < cols) => au_i (k := k) (W := W) (w := m) (p := p) (d := q) (r := r) (a := (fun w => (coV C Kd L c w).toInt)) (x := F0 c) (y := coV C Kd L c m) (z := RE (m + 1) c) hk (by omega) hW (by omega) (fun u _ => coV_i.2) (hF0i c hc) rfl (by rw [hRE c (m + 1) hc (by omega), show W - (m + 1) = r by omega])
        have hs2 : ∀ b j, b = tS + 1 + (m + 1) → chS tS td se be sy m b j := fun b j h => .inl ⟨by omega, by omega⟩
        have hci := hci.xs (w := m) hW t hHo x2 (fun b j h => hs2 b j h)
        have hsm : smR G2 tS m cols (fun c => paS k m p (fun w => (coV C Kd L c w).toInt) m) := smR.xs ⟨F0, hF0, hF0i⟩ (by omega) t hHo x2 (fun b j h => hs2 b j h)
        have htd := htd.xs (w := m) (by omega) t hHo x2 (fun b j h => hs2 b j h)
        have hJ := hJf _ _ _ hJ hHo (x2.wk (fun b j _ h => .inr (.inl ⟨by have h : b = _ := h; omega, by have h : b = _ := h; omega⟩)))
        have hX := hX.tr x2 (fun b j _ h => hs2 b j h)
        have q15 := (x2.2 se 15 lt_se (fun h => hi_ne k_se (t.2.2.2.2 (m + 1) (by omega)) (by decide) h)).trans q15
        have lt_se := Nat.lt_of_lt_of_le lt_se x2.1
        rcases hP2 with ⟨rfl, hg1, hl1⟩ | ⟨rfl, c9, hc9, hl9⟩
        · show et_go none _ 94 57 _ [.int (Int32.ofNat 1)] _ _ _ _
          refine hs_if0 (c := .eq) (t := 76) (f := 60) (by decide +kernel) (show ¬ (Int32.ofNat 1 = 0) by decide) ?_
          refine hs_aload (i := 0) (p := 61) (by decide +kernel) rfl ?_
          refine hf_get (T := et_TT) (t := 9) (ci := 7) (f := 3) (p := 64) (by decide +kernel) rfl hH k_se hci.1.1.2.2.2.1 ?_
          refine hs_iload (i := 1) (p := 65) (by decide +kernel) rfl ?_
          refine hs_iload (i := 3) (p := 66) (by decide +kernel) rfl ?_
          have hHo := hH
          refine hf_ist (T := et_TT) (t := 51) (N := 6) (p := 67) (by decide +kernel) rfl rfl (by decide) hH k_td (by omega) (by decide) (fun s hs => absurd hs List.not_mem_nil) (fun G66 hH x66 e66 => ?_)
          have hs2 : ∀ b j, b = td ∧ j = m → chS tS td se be sy m b j := fun b j h => .inr (.inl ⟨h.1, by have h := h.2; omega⟩)
          have hci := hci.xs (w := m) hW t hHo x66 (fun b j h => hs2 b j h)
          have hsm2 : smR G66 tS (m + 1) cols (fun c => paS k (m + 1) (p * (2 * k + 1) + q) (fun w => (coV C Kd L c w).toInt) (m + 1)) := by
            refine ⟨_, fun c hc => (x66.2 _ c (hHo.2.2 _ _ (t.2.2.2.2 (m + 1) (by omega))).1 (fun h => hi_ne (t.2.2.2.2 (m + 1) (by omega)) k_td (by decide) h.1)).trans (hg1 c hc), fun c hc => (hnum c hc).1⟩
          have hsm := hsm.xs (w := m) (by omega) t hHo x66 (fun b j h => hs2 b j h)
          have htd2 : tdQ G66 td (m + 1) (kvT k (m + 1) (p * (2 * k + 1) + q)) := fun u hu => by
            rw [kvT_d (by omega) u hu]
            by_cases e : u = m
            · rw [if_pos e, e]; exact e66
            · rw [if_neg e]; exact (x66.2 td u (hHo.2.2 _ _ k_td).1 (fun h => e h.2)).trans (htd u (by omega))
          have htd := htd.xs (w := m) (by omega) t hHo x66 (fun b j h => hs2 b j h)
          have hJ := hJf _ _ _ hJ hHo (x66.wk (fun b j _ h => .inr (.inr h.1)))
          have hX := hX.tr x66 (fun b j _ h => hs2 b j h)
          have q15 := (x66.2 se 15 lt_se (fun h => hi_ne k_se k_td (by decide) h.1)).trans q15
          refine hs_aload (i := 0) (p := 68) (by decide +kernel) rfl ?_
          refine hs_iload (i := 1) (p := 69) (by decide +kernel) rfl ?_
          refine hs_k (x := Int32.ofNat 1) (p := 70) (by decide +kernel) ?_
          refine hs_iaddn (p := 71) (by decide +kernel) ?_
          refine hs_iload (i := 4) (p := 73) (by decide +kernel) rfl ?_
          have hHo := hH
          refine ht_callv (T := et_TT) (t := 9) (mi := 94) (na := 2) (ci := 7) (lk := 5) (lm := 5) (L0 := eg_en (eg_mL 94) [.ref se, .int (Int32.ofNat (m + 1)), .int (Int32.ofNat (kvS k m p m + kvA k q))]) (by decide +kernel) rfl hH k_se rfl rfl rfl rfl rfl (by rw [show eg_mL 94 = 5 from by decide +kernel]; first | done | rfl) ?_
          have hsum := kvS_d (k := k) (w := m) (p := p) (d := q) (by omega)
          have hr := hrec (p * (2 * k + 1) + q) l (d + r + 4) G66 (by omega) hH hci hJ hsm2 htd2 (fun c hc => (hnum c (by omega)).2.mp (hl1 c hc)) hl q15 (by rw [hsum]; omega)
          rw [hsum] at hr
          refine hr.mono (fun u9 hu9 => xw_cb hu9 (fun G3 v3 hH x3 hJ0 => ?_))
          have hci := hci.xs (w := m) hW t hHo x3 (fun b j h => chS.up h)
          have hsm := hsm.xs (w := m) (by omega) t hHo x3 (fun b j h => chS.up h)
          have htd := htd.xs (w := m) (by omega) t hHo x3 (fun b j h => chS.up h)
          have hX := hX.tr x3 (fun b j _ h => chS.up h)
          obtain ⟨rfl, hJ⟩ := hJ0
          show et_go none _ 94 76 _ [] _ _ _ _
          have hJ2 := hJ
          rw [hx] at hJ2
          refine hs_iinc (i := 3) (n := 1) (p := 79) (by decide +kernel) rfl (Nat.le_of_ble_eq_true rfl) ?_
          rw [kd_s, ← kvT_1 k (List.mem_range.mpr (by omega)) q (List.mem_range.mpr (by omega))]
          refine hs_goto (p := 26) (by decide +kernel) ?_
          exact ih (2 * k + 1 - (q + 1)) (by omega) hH (by omega) hX hci hJ2 hsm htd rfl
        · show et_go none _ 94 57 _ [.int (Int32.ofNat 0)] _ _ _ _
          refine hs_if1 (c := .eq) (t := 76) (f := 60) (by decide +kernel) (show Int32.ofNat 0 = 0 by decide) ?_
          have hJ2 := hJc (m + 1) (p * (2 * k + 1) + q) r c9 G2 (by omega) hc9 (Int.not_lt.mp (fun h9 => hl9 ((hnum c9 (by omega)).2.mpr h9))) hJ
          rw [hx] at hJ2
          refine hs_iinc (i := 3) (n := 1) (p := 79) (by decide +kernel) rfl (Nat.le_of_ble_eq_true rfl) ?_
          rw [kd_s, ← kvT_1 k (List.mem_range.mpr (by omega)) q (List.mem_range.mpr (by omega))]
          refine hs_goto (p := 26) (by decide +kernel) ?_
          exact ih (2 * k + 1 - (q + 1)) (by omega) hH (by omega) hX hci hJ2 hsm htd rfl
theorem fd_choose (t : seT K se tA tR tS td be sy) (hW : W ≤ 6) (hk : k ≤ 3) (hcols : cols ≤ 151) (hP : P ≤ cols) (hLc : L.length = cols) (hRE : ∀ c w, c < cols → w ≤ W → (RE w c).toInt = reS k (fun w => (coV C Kd L c w).toInt) (W - w) w) (hJf : ∀ n G G', J n G → et_H et_TT K G → xf (fun b _ => (tR + 1 ≤ b ∧ b ≤ tR + 7) ∨ (tS + 1 ≤ b ∧ b ≤ tS + 7) ∨ b = td) G G' → J n G') (hJl : ∀ n G, J n G → ∃ l : Nat, l ≤ 1073741824 ∧ et_pl (eg_at G se) 15 = some (.int (Int32.ofNat l)) ∧ ∀ w p r, W = w + r → n = (p * (2 * k + 1) ^ r) → l ≤ kvS k w p w → J ((p + 1) * (2 * k + 1) ^ r) G) (hJc : ∀ w p r c G, W = w + r → c < P → paS k w p (fun w => (coV C Kd L c w).toInt) w + reS k (fun w => (coV C Kd L c w).toInt) r w ≤ 0 → J (p * (2 * k + 1) ^ r) G → J ((p + 1) * (2 * k + 1) ^ r) G) (hJt : ∀ p l G d2, 2 ≤ d2 → et_H et_TT K G → chI G se tA tR tS td be sy P cols W k C Kd L RE → J p G → l ≤ 1073741824 → et_pl (eg_at G se) 15 = some (.int (Int32.ofNat l)) → kvS k W p W < l → (∀ c, c < P → 0 < paS k W p (fun w => (coV C Kd L c w).toInt) W) → tdQ G td W (kvT k W p) → smR G tS W cols (fun c => paS k W p (fun w => (coV C Kd L c w).toInt) W) → et_go none d2 95 0 (eg_en (eg_mL 95) [.ref se, .int (Int32.ofNat (kvS k W p W))]) [] G 0 0 (xw_Z (fun b j => (b = se ∧ (j = 13 ∨ j = 15 ∨ j = 16)) ∨ b = be ∨ b = sy) K G (fun g v9 => v9 = none ∧ J (p + 1) g))) : ∀ (r m p l d2 : Nat) (G : eg_G), W = m + r → r + 4 ≤ d2 → et_H et_TT K G → chI G se tA tR tS td be sy P cols W k C Kd L RE → J (p * (2 * k + 1) ^ r) G → smR G tS m cols (fun c => paS k m p (fun w => (coV C Kd L c w).toInt) m) → tdQ G td m (kvT k m p) → (∀ c, c < P → 0 < paS k m p (fun w => (coV C Kd L c w).toInt) m + reS k (fun w => (coV C Kd L c w).toInt) r m) → l ≤ 1073741824 → et_pl (eg_at G se) 15 = some (.int (Int32.ofNat l)) → kvS k m p m < l → et_go none d2 94 0 (eg_en (eg_mL 94) [.ref se, .int (Int32.ofNat m), .int (Int32.ofNat (kvS k m p m))]) [] G 0 0 (xw_Z (chS tS td se be sy m) K G (fun g v9 => v9 = none ∧ J ((p + 1) * (2 * k + 1) ^ r) g))
  | 0, m, p, l, d2, G, hWm, hd, hH, hci, hJ, hsm, htd, hlow, hl, q15, hkl => by
    obtain ⟨d, rfl⟩ : ∃ d, d2 = d + 4 := ⟨d2 - 4, by omega⟩
    have hWm : m = W := by omega
    subst hWm
    have k_se := t.1.1
    have k_tA := t.1.2.1
    have k_tR := t.1.2.2.1
    have k_tS := t.1.2.2.2.1
    have k_td := t.1.2.2.2.2.1
    have k_be := t.1.2.2.2.2.2.1
    have k_sy := t.1.2.2.2.2.2.2
    have q6 := hci.2.1.2.2.1
    have q7 := hci.2.1.2.2.2
    rw [show eg_mL 94 = 5 from by decide +kernel]
    show et_go none (d + 4) 94 0 [some (.ref se), some (.int (Int32.ofNat m)), some (.int (Int32.ofNat (kvS k m p m))), none, none] [] G 0 0 _
    refine hs_iload (i := 1) (p := 1) (by decide +kernel) rfl ?_
    refine hs_aload (i := 0) (p := 2) (by decide +kernel) rfl ?_
    refine hf_get (T := et_TT) (t := 9) (ci := 7) (f := 6) (p := 5) (by decide +kernel) rfl hH k_se q6 ?_
    refine hs_br2n (c := .ge) (t := 14) (f := 8) (by decide +kernel) (by omega) (by omega) (fun (c5 : m ≤ m) => ?_) (fun (c5 : ¬ (m ≤ m)) => ?_)
    · refine hs_aload (i := 0) (p := 15) (by decide +kernel) rfl ?_
      refine hs_iload (i := 2) (p := 16) (by decide +kernel) rfl ?_
      refine ht_callv (T := et_TT) (t := 9) (mi := 95) (na := 1) (ci := 7) (lk := 5) (lm := 3) (L0 := eg_en (eg_mL 95) [.ref se, .int (Int32.ofNat (kvS k m p m))]) (by decide +kernel) rfl hH k_se rfl rfl rfl rfl rfl (by rw [show eg_mL 95 = 3 from by decide +kernel]; first | done | rfl) ?_
      rw [Nat.pow_zero, Nat.mul_one] at hJ
      rw [Nat.pow_zero, Nat.mul_one]
      have hlow2 : ∀ c, c < P → 0 < paS k m p (fun w => (coV C Kd L c w).toInt) m := fun c hc => by
        have h9 := hlow c hc
        rw [show reS k (fun w => (coV C Kd L c w).toInt) 0 m = 0 from rfl, Int.add_zero] at h9
        exact h9
      refine (hJt p l G _ (by omega) hH hci hJ hl q15 hkl hlow2 htd hsm).mono (fun u9 hu9 => xw_cb hu9 (fun G2 v2 hH x2 hJ0 => ?_))
      have hX : xf (chS tS td se be sy m) G G2 := x2.wk (fun b j _ h => .inr (.inr h))
      obtain ⟨rfl, hJ2⟩ := hJ0
      show et_go none _ 94 19 _ [] _ _ _ _
      refine hs_vret (by decide +kernel) ?_
      exact ⟨_, _, rfl, hH, hX, rfl, hJ2⟩
    · exact absurd (Nat.le_refl m) c5
  | r + 1, m, p, l, d2, G, hWm, hd, hH, hci, hJ, hsm, htd, hlow, hl, q15, hkl => by
    obtain ⟨d, rfl⟩ : ∃ d, d2 = d + r + 5 := ⟨d2 - r - 5, by omega⟩
    have k_se := t.1.1
    have k_tA := t.1.2.1
    have k_tR := t.1.2.2.1
    have k_tS := t.1.2.2.2.1
    have k_td := t.1.2.2.2.2.1
    have k_be := t.1.2.2.2.2.2.1
    have k_sy := t.1.2.2.2.2.2.2
    have q6 := hci.2.1.2.2.1
    have q7 := hci.2.1.2.2.2
    rw [show eg_mL 94 = 5 from by decide +kernel]
    show et_go none (d + r + 5) 94 0 [some (.ref se), some (.int (Int32.ofNat m)), some (.int (Int32.ofNat (kvS k m p m))), none, none] [] G 0 0 _
    refine hs_iload (i := 1) (p := 1) (by decide +kernel) rfl ?_
    refine hs_aload (i := 0) (p := 2) (by decide +kernel) rfl ?_
    refine hf_get (T := et_TT) (t := 9) (ci := 7) (f := 6) (p := 5) (by decide +kernel) rfl hH k_se q6 ?_
    refine hs_br2n (c := .ge) (t := 14) (f := 8) (by decide +kernel) (by omega) (by omega) (fun (c5 : W ≤ m) => ?_) (fun (c5 : ¬ (W ≤ m)) => ?_)
    · exact absurd c5 (by omega)
    · refine hs_iload (i := 1) (p := 9) (by decide +kernel) rfl ?_
      refine hs_k (x := Int32.ofNat 6) (p := 11) (by decide +kernel) ?_
      refine hs_br2n (c := .lt) (t := 20) (f := 14) (by decide +kernel) (by omega) (by omega) (fun (c11 : m < 6) => ?_) (fun (c11 : ¬ (m < 6)) => ?_)
      · refine hs_aload (i := 0) (p := 21) (by decide +kernel) rfl ?_
        refine hf_get (T := et_TT) (t := 9) (ci := 7) (f := 7) (p := 24) (by decide +kernel) rfl hH k_se q7 ?_
        refine hs_st (ins := .ineg) (len := 1) (p := 25) (by decide +kernel) rfl rfl ?_
        refine hs_istore (i := 3) (p := 26) (by decide +kernel) (Nat.le_of_ble_eq_true rfl) ?_
        rw [← kvT_3 k (List.mem_range.mpr (by omega))]
        refine (fd_chL (q := 0) hH hH t hW hk hcols hP hLc hRE hJf hJl hJc hJt hWm (fun p l d2 G h1 h2 h3 h4 h5 h6 h7 h8 h9 h10 => fd_choose t hW hk hcols hP hLc hRE hJf hJl hJc hJt r (m + 1) p l d2 G (by omega) h1 h2 h3 h4 h5 h6 h7 h8 h9 h10) (Nat.zero_le _) xf.rf hci ?_ hsm htd)
        rw [Nat.add_zero, Nat.mul_assoc, Nat.mul_comm (2 * k + 1), ← Nat.pow_succ]
        exact hJ
      · exact absurd (by omega) c11
end ZOC
end
