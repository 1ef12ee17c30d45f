/-! searches: the constructors: the columns' rows are all different -/
/-- rows behind their table -/
def mnR (K : et_K) (G : eg_G) (b n : Nat) : Prop := (∀ i, i < n → et_pl (eg_at G b) i = some (.ref (b + 1 + i)) ∧ K (b + 1 + i) = some 45) ∧ b + n < G.2
def sePP (K : et_K) (G : eg_G) (se : Nat) : Prop := ∃ tA tR tS td be sy, seT K se tA tR tS td be sy ∧ seR G se tA tR tS td be sy
section ZTA
variable {K K' : et_K} {G G' : eg_G} {a b n p t se : Nat} {c9 : eg_C}
theorem mnR.pk (h : mnR K G b n) (hk : pk K G K' G') : mnR K' G' b n := ⟨fun i hi => ⟨by
    have h2 := h.2
    rw [(hk.2 b (by omega)).2]
    exact (h.1 i hi).1, by
    have h2 := h.2
    rw [(hk.2 (b + 1 + i) (by omega)).1]
    exact (h.1 i hi).2⟩, Nat.lt_trans h.2 hk.1⟩
theorem mnR.he {u : Nat} (h : mnR K G b n) (k_b : K b = some u) (hu : puc K G p c9) (he : ∀ b, ¬ b = p → eg_at G' b = eg_at G b) (e2 : G'.2 = G.2) : mnR K G' b n := ⟨fun i hi => ⟨by
    rw [he b (puc_ne hu k_b)]
    exact (h.1 i hi).1, (h.1 i hi).2⟩, by
    rw [e2]
    exact h.2⟩
theorem mnR.kn (h : mnR K G b n) (hu : puc K G p c9) : mnR (et_kn K p t) G b n := ⟨fun i hi => ⟨(h.1 i hi).1, et_kn_k hu (h.1 i hi).2⟩, h.2⟩
theorem seT.k {tA tR tS td be sy : Nat} (h : seT K se tA tR tS td be sy) (g : ∀ b t, K b = some t → K' b = some t) : seT K' se tA tR tS td be sy := by
  obtain ⟨⟨k1, k2, k3, k4, k5, k6, k7⟩, l, r1, r2, r3⟩ := h
  exact ⟨⟨g _ _ k1, g _ _ k2, g _ _ k3, g _ _ k4, g _ _ k5, g _ _ k6, g _ _ k7⟩, l, fun i hi => g _ _ (r1 i hi), fun i hi => g _ _ (r2 i hi), fun i hi => g _ _ (r3 i hi)⟩
theorem seR.at {tA tR tS td be sy : Nat} (h : seR G se tA tR tS td be sy) (g : ∀ b, b = se ∨ b = tA ∨ b = tR ∨ b = tS → eg_at G' b = eg_at G b) : seR G' se tA tR tS td be sy := by
  obtain ⟨⟨a1, a2, a3, a4, a5, a6⟩, r1, r2, r3⟩ := h
  have g1 := g se (.inl rfl)
  have g2 := g tA (.inr (.inl rfl))
  have g3 := g tR (.inr (.inr (.inl rfl)))
  have g4 := g tS (.inr (.inr (.inr rfl)))
  unfold seR
  rw [g1, g2, g3, g4]
  exact ⟨⟨a1, a2, a3, a4, a5, a6⟩, r1, r2, r3⟩
theorem sePP.pk (h : sePP K G se) (hH : et_H et_TT K G) (hk : pk K G K' G') : sePP K' G' se := by
  obtain ⟨tA, tR, tS, td, be, sy, h1, h2⟩ := h
  have g : ∀ b t, K b = some t → K' b = some t ∧ eg_at G' b = eg_at G b := fun b t hb => ⟨((hk.2 b (hH.2.2 _ _ hb).1).1).trans hb, (hk.2 b (hH.2.2 _ _ hb).1).2⟩
  refine ⟨tA, tR, tS, td, be, sy, h1.k (fun b t hb => (g b t hb).1), h2.at (fun b hb => ?_)⟩
  rcases hb with rfl | rfl | rfl | rfl
  · exact (g _ _ h1.1.1).2
  · exact (g _ _ h1.1.2.1).2
  · exact (g _ _ h1.1.2.2.1).2
  · exact (g _ _ h1.1.2.2.2.1).2
theorem sePP.he (h : sePP K G se) (hu : puc K G p c9) (he : ∀ b, ¬ b = p → eg_at G' b = eg_at G b) : sePP K G' se := by
  obtain ⟨tA, tR, tS, td, be, sy, h1, h2⟩ := h
  refine ⟨tA, tR, tS, td, be, sy, h1, h2.at (fun b hb => he b ?_)⟩
  rcases hb with rfl | rfl | rfl | rfl
  · exact puc_ne hu h1.1.1
  · exact puc_ne hu h1.1.2.1
  · exact puc_ne hu h1.1.2.2.1
  · exact puc_ne hu h1.1.2.2.2.1
theorem sePP.kn (h : sePP K G se) (hu : puc K G p c9) : sePP (et_kn K p t) G se := by
  obtain ⟨tA, tR, tS, td, be, sy, h1, h2⟩ := h
  exact ⟨tA, tR, tS, td, be, sy, h1.k (fun b t hb => et_kn_k hu hb), h2⟩
end ZTA
theorem ht_maA {K : et_K} {G : eg_G} {d k pc ck sk p t n hi : Nat} {L : eg_Ls} {r : List Value} {Z : eg_O → Prop} (hc : hs_ma k pc = some p) (hT : et_TT[t]? = some (.inr (11, n, [(0, hi, .inr (.inr (0, 45)))]))) (ht : 2 ≤ t ∧ n ≤ 100) (h1 : ck + 1 + n ≤ 600002) (h2 : sk + n + n * 151 ≤ 7302232) (hH : et_H et_TT K G) (h : ∀ (K' : et_K) (G' : eg_G) (b : Nat), pk K G K' G' → et_H et_TT K' G' → K' b = some t → mnR K' G' b n → G.2 ≤ b → et_go none d k p L (.ref b :: r) G' (ck + 1 + n) (sk + n + n * 151) Z) : et_go none d k pc L (.int (Int32.ofNat 151) :: .int (Int32.ofNat n) :: r) G ck sk Z := by
  have hNC := hH.1
  have a0 : ∀ b, b < G.2 → eg_at (eg_mg G n 151) b = eg_at G b := fun b hb => by
    unfold eg_at
    split
    · rfl
    · show (if b < G.2 then G.1 b else _) = G.1 b
      rw [if_pos hb]
  have a1 : eg_at (eg_mg G n 151) G.2 = .inl (11, (n, .inr (.inr (.inr (.inr (fun i => if i < n then some (G.2 + 1 + i) else none)))))) := by
    unfold eg_at
    rw [if_neg (Nat.not_lt.mpr hNC)]
    show (if G.2 < G.2 then _ else if G.2 = G.2 then _ else _) = _
    rw [if_neg (Nat.lt_irrefl _), if_pos rfl]
  have a2 : ∀ b, G.2 < b → b < G.2 + 1 + n → eg_at (eg_mg G n 151) b = .inl (0, (151, .inl (fun _ => 0))) := fun b hb hb2 => by
    unfold eg_at
    rw [if_neg (by omega)]
    show (if b < G.2 then _ else if b = G.2 then _ else if b < G.2 + 1 + n then _ else _) = _
    rw [if_neg (by omega), if_neg (by omega), if_pos hb2]
  have hx : ∀ b u, K b = some u → (fun b => if b = G.2 then some t else if G.2 < b ∧ b < G.2 + 1 + n then some 45 else K b : et_K) b = some u := fun b u hb => by
    have := (hH.2.2 b u hb).1
    dsimp only
    rw [if_neg (by omega), if_neg (by omega)]
    exact hb
  have hH2 : et_H et_TT (fun b => if b = G.2 then some t else if G.2 < b ∧ b < G.2 + 1 + n then some 45 else K b) (eg_mg G n 151) := by
    have e2 : (eg_mg G n 151).2 = G.2 + 1 + n := rfl
    refine ⟨by rw [e2]; omega, fun a ha => hx _ _ (hH.2.1 a ha), fun a u h => ?_⟩
    dsimp only at h
    rw [e2]
    by_cases e : a = G.2
    · rw [if_pos e] at h
      cases h
      subst e
      refine ⟨by omega, fun h => by omega, fun _ => hNC, _, hT, ?_, ?_⟩
      · rw [a1]
        refine ⟨_, rfl, rfl, fun i hi => ⟨_, rfl⟩, fun s hs i i1 i2 i3 => ?_⟩
        obtain rfl := List.mem_singleton.mp hs
        refine ⟨.ref (G.2 + 1 + i), ?_, .inr ⟨by decide, _, rfl, ?_⟩⟩
        · show some (va_rf (if i < n then some (G.2 + 1 + i) else none)) = _
          rw [if_pos i3]
          rfl
        · show (if G.2 + 1 + i = G.2 then some t else if G.2 < G.2 + 1 + i ∧ G.2 + 1 + i < G.2 + 1 + n then some 45 else K _) = _
          rw [if_neg (by omega), if_pos (by omega)]
      · rw [a1]
        exact fun h => absurd h (by decide)
    · rw [if_neg e] at h
      by_cases e3 : G.2 < a ∧ a < G.2 + 1 + n
      · rw [if_pos e3] at h
        cases h
        refine ⟨by omega, fun h => by omega, fun _ => by omega, _, rfl, ?_, ?_⟩
        · rw [a2 a e3.1 e3.2]
          exact ⟨_, rfl, rfl, fun i hi => ⟨_, rfl⟩, fun s hs => absurd hs List.not_mem_nil⟩
        · rw [a2 a e3.1 e3.2]
          exact fun _ h => absurd h (by decide)
      · rw [if_neg e3] at h
        obtain ⟨g1, g2, g3, d', hd', hc', hx'⟩ := hH.2.2 a u h
        exact ⟨by omega, g2, g3, d', hd', by rw [a0 a g1]; exact et_c_ex hx hc', by rw [a0 a g1]; exact hx'⟩
  have hM : mnR (fun b => if b = G.2 then some t else if G.2 < b ∧ b < G.2 + 1 + n then some 45 else K b : et_K) (eg_mg G n 151) G.2 n := by
    refine ⟨fun i hi => ⟨?_, ?_⟩, ?_⟩
    · rw [a1]
      show (if i < n then some (va_rf (if i < n then some (G.2 + 1 + i) else none)) else none) = _
      rw [if_pos hi, if_pos hi]
      rfl
    · show (if G.2 + 1 + i = G.2 then some t else if G.2 < G.2 + 1 + i ∧ G.2 + 1 + i < G.2 + 1 + n then some 45 else K _) = _
      rw [if_neg (by omega), if_pos (by omega)]
    · show G.2 + n < G.2 + 1 + n
      omega
  unfold hs_ma at hc
  split at hc
  · rename_i i e
    split at hc
    · rename_i hci
      cases hc
      refine hs_st e rfl ?_ (h _ _ G.2 ⟨by show G.2 < G.2 + 1 + n; omega, fun b hb => ⟨?_, a0 b hb⟩⟩ hH2 (if_pos rfl) hM (Nat.le_refl _))
      · dsimp only [eg_st]
        rw [hci]
        have g1 := hs_nint (a := n) (by omega)
        have g2 := hs_nint (a := 151) (by omega)
        have g3 : (Int32.ofNat n).toNatClampNeg = n := hs_nnat (by omega)
        have g4 : (Int32.ofNat 151).toNatClampNeg = 151 := hs_nnat (by omega)
        show (if 2 = 2 ∧ 0 ≤ (Int32.ofNat n).toInt ∧ (Int32.ofNat n).toInt ≤ 65536 ∧ 0 ≤ (Int32.ofNat 151).toInt ∧ (Int32.ofNat 151).toInt ≤ 65536 ∧ ck + (1 + (Int32.ofNat n).toNatClampNeg) ≤ eg_MC ∧ sk + ((Int32.ofNat n).toNatClampNeg + (Int32.ofNat n).toNatClampNeg * (Int32.ofNat 151).toNatClampNeg) ≤ eg_MS then some (pc + 4, L, Value.ref G.2 :: r, eg_mg G (Int32.ofNat n).toNatClampNeg (Int32.ofNat 151).toNatClampNeg, ck + 1 + (Int32.ofNat n).toNatClampNeg, sk + (Int32.ofNat n).toNatClampNeg + (Int32.ofNat n).toNatClampNeg * (Int32.ofNat 151).toNatClampNeg) else none) = _
        rw [g3, g4, if_pos ⟨rfl, by omega, by omega, by omega, by omega, by show _ ≤ 600002; omega, by show _ ≤ 7302232; omega⟩]
      · show (if b = G.2 then some t else if G.2 < b ∧ b < G.2 + 1 + n then some 45 else K b) = _
        rw [if_neg (by omega), if_neg (by omega)]
    · cases hc
  · cases hc
section ZTB
variable {K : et_K} {G : eg_G} {a : Nat}
theorem pi_search6 {d2 : Nat} (hu : puc K G a (.inr (7, [.null, .null, .null, .null, .int 0, .int 0, .int 0, .int 0, .int 0, .int 0, .int 0, .int 0, .int 0, .int 0, .null, .int 0, .int 0, .null]))) (hd : 0 ≤ d2) : et_go none d2 89 0 (eg_en (eg_mL 89) [.ref a]) [] G 0 0 (pi_Z K G a 9 26 3083 (fun K' G' => sePP K' G' a)) := by
  have hq : pq a K G K G := pq.rf
  have hua := hu.2.2.2.1
  have hq0 : G.2 ≤ G.2 := Nat.le_refl _
  rw [show eg_mL 89 = 1 from by decide +kernel]
  show et_go none d2 89 0 [some (.ref a)] [] G 0 0 _
  refine hs_aload (i := 0) (p := 1) (by decide +kernel) rfl ?_
  refine hs_skip (lk := 1) (p := 4) (by decide +kernel) rfl rfl ?_
  refine hs_aload (i := 0) (p := 5) (by decide +kernel) rfl ?_
  refine hs_k (x := Int32.ofNat 6) (p := 7) (by decide +kernel) ?_
  refine hs_k (x := Int32.ofNat 151) (p := 10) (by decide +kernel) ?_
  have hHo := hu.1
  refine ht_maA (t := 43) (n := 6) (p := 14) (by decide +kernel) rfl (by decide) (by omega) (by omega) hu.1 (fun K10 G10 b10 hk hH k_b10 M_b10 hge => ?_)
  have hu := hk.un hH hu
  have hq := hq.mo hk
  have hu0 := hu
  refine hs_puti (ci := 7) (f := 0) (ty := .array (.array .int)) (v := .ref b10) (p := 17) (by decide +kernel) hu (Nat.le_of_ble_eq_true rfl) rfl (fun G14 hu he e2 => ?_)
  have hu : puc _ _ a (.inr (7, [.ref b10, .null, .null, .null, .int 0, .int 0, .int 0, .int 0, .int 0, .int 0, .int 0, .int 0, .int 0, .int 0, .null, .int 0, .int 0, .null])) := hu
  have hq := hq.pt he e2
  have M_b10 := M_b10.he k_b10 hu0 he e2
  refine hs_aload (i := 0) (p := 18) (by decide +kernel) rfl ?_
  refine hs_k (x := Int32.ofNat 7) (p := 20) (by decide +kernel) ?_
  refine hs_k (x := Int32.ofNat 151) (p := 23) (by decide +kernel) ?_
  have hHo := hu.1
  refine ht_maA (t := 44) (n := 7) (p := 27) (by decide +kernel) rfl (by decide) (by omega) (by omega) hu.1 (fun K23 G23 b23 hk hH k_b23 M_b23 hge => ?_)
  have ml_b10_b23 := Nat.lt_of_lt_of_le M_b10.2 hge
  have hu := hk.un hH hu
  have hq := hq.mo hk
  have M_b10 := M_b10.pk hk
  have k_b10 := hk.ty hHo k_b10
  have hu0 := hu
  refine hs_puti (ci := 7) (f := 1) (ty := .array (.array .int)) (v := .ref b23) (p := 30) (by decide +kernel) hu (Nat.le_of_ble_eq_true rfl) rfl (fun G27 hu he e2 => ?_)
  have hu : puc _ _ a (.inr (7, [.ref b10, .ref b23, .null, .null, .int 0, .int 0, .int 0, .int 0, .int 0, .int 0, .int 0, .int 0, .int 0, .int 0, .null, .int 0, .int 0, .null])) := hu
  have hq := hq.pt he e2
  have M_b10 := M_b10.he k_b10 hu0 he e2
  have M_b23 := M_b23.he k_b23 hu0 he e2
  refine hs_aload (i := 0) (p := 31) (by decide +kernel) rfl ?_
  refine hs_k (x := Int32.ofNat 7) (p := 33) (by decide +kernel) ?_
  refine hs_k (x := Int32.ofNat 151) (p := 36) (by decide +kernel) ?_
  have hHo := hu.1
  refine ht_maA (t := 44) (n := 7) (p := 40) (by decide +kernel) rfl (by decide) (by omega) (by omega) hu.1 (fun K36 G36 b36 hk hH k_b36 M_b36 hge => ?_)
  have ml_b10_b36 := Nat.lt_of_lt_of_le M_b10.2 hge
  have ml_b23_b36 := Nat.lt_of_lt_of_le M_b23.2 hge
  have hu := hk.un hH hu
  have hq := hq.mo hk
  have M_b10 := M_b10.pk hk
  have M_b23 := M_b23.pk hk
  have k_b10 := hk.ty hHo k_b10
  have k_b23 := hk.ty hHo k_b23
  have hu0 := hu
  refine hs_puti (ci := 7) (f := 2) (ty := .array (.array .int)) (v := .ref b36) (p := 43) (by decide +kernel) hu (Nat.le_of_ble_eq_true rfl) rfl (fun G40 hu he e2 => ?_)
  have hu : puc _ _ a (.inr (7, [.ref b10, .ref b23, .ref b36, .null, .int 0, .int 0, .int 0, .int 0, .int 0, .int 0, .int 0, .int 0, .int 0, .int 0, .null, .int 0, .int 0, .null])) := hu
  have hq := hq.pt he e2
  have M_b10 := M_b10.he k_b10 hu0 he e2
  have M_b23 := M_b23.he k_b23 hu0 he e2
  have M_b36 := M_b36.he k_b36 hu0 he e2
  refine hs_aload (i := 0) (p := 44) (by decide +kernel) rfl ?_
  refine hs_k (x := Int32.ofNat 6) (p := 46) (by decide +kernel) ?_
  have hHo := hu.1
  refine ht_nb (t := 51) (n := 6) (kd := 0) (p := 48) (by decide +kernel) rfl (by decide +kernel) ⟨by decide +kernel, by decide +kernel, by decide +kernel⟩ (by omega) (by omega) hu.1 (fun K46 G46 b46 hk hH k_b46 hg_b46 hz_b46 => ?_)
  have hl_b10_b46 : b10 < b46 := Nat.lt_of_lt_of_le (hHo.2.2 _ _ k_b10).1 hg_b46
  have hl_b23_b46 : b23 < b46 := Nat.lt_of_lt_of_le (hHo.2.2 _ _ k_b23).1 hg_b46
  have hl_b36_b46 : b36 < b46 := Nat.lt_of_lt_of_le (hHo.2.2 _ _ k_b36).1 hg_b46
  have hg_b46 := Nat.le_trans hq.1 hg_b46
  have hu := hk.un hH hu
  have hq := hq.mo hk
  have M_b10 := M_b10.pk hk
  have M_b23 := M_b23.pk hk
  have M_b36 := M_b36.pk hk
  have k_b10 := hk.ty hHo k_b10
  have k_b23 := hk.ty hHo k_b23
  have k_b36 := hk.ty hHo k_b36
  have hu0 := hu
  refine hs_puti (ci := 7) (f := 3) (ty := .array .int) (v := .ref b46) (p := 51) (by decide +kernel) hu (Nat.le_of_ble_eq_true rfl) rfl (fun G48 hu he e2 => ?_)
  have hu : puc _ _ a (.inr (7, [.ref b10, .ref b23, .ref b36, .ref b46, .int 0, .int 0, .int 0, .int 0, .int 0, .int 0, .int 0, .int 0, .int 0, .int 0, .null, .int 0, .int 0, .null])) := hu
  have hq := hq.pt he e2
  have M_b10 := M_b10.he k_b10 hu0 he e2
  have M_b23 := M_b23.he k_b23 hu0 he e2
  have M_b36 := M_b36.he k_b36 hu0 he e2
  refine hs_aload (i := 0) (p := 52) (by decide +kernel) rfl ?_
  refine hs_k (x := Int32.ofNat 6) (p := 54) (by decide +kernel) ?_
  have hHo := hu.1
  refine ht_nb (t := 51) (n := 6) (kd := 0) (p := 56) (by decide +kernel) rfl (by decide +kernel) ⟨by decide +kernel, by decide +kernel, by decide +kernel⟩ (by omega) (by omega) hu.1 (fun K54 G54 b54 hk hH k_b54 hg_b54 hz_b54 => ?_)
  have hl_b10_b54 : b10 < b54 := Nat.lt_of_lt_of_le (hHo.2.2 _ _ k_b10).1 hg_b54
  have hl_b23_b54 : b23 < b54 := Nat.lt_of_lt_of_le (hHo.2.2 _ _ k_b23).1 hg_b54
  have hl_b36_b54 : b36 < b54 := Nat.lt_of_lt_of_le (hHo.2.2 _ _ k_b36).1 hg_b54
  have hl_b46_b54 : b46 < b54 := Nat.lt_of_lt_of_le (hHo.2.2 _ _ k_b46).1 hg_b54
  have hg_b54 := Nat.le_trans hq.1 hg_b54
  have hu := hk.un hH hu
  have hq := hq.mo hk
  have M_b10 := M_b10.pk hk
  have M_b23 := M_b23.pk hk
  have M_b36 := M_b36.pk hk
  have k_b10 := hk.ty hHo k_b10
  have k_b23 := hk.ty hHo k_b23
  have k_b36 := hk.ty hHo k_b36
  have k_b46 := hk.ty hHo k_b46
  have hu0 := hu
  refine hs_puti (ci := 7) (f := 14) (ty := .array .int) (v := .ref b54) (p := 59) (by decide +kernel) hu (Nat.le_of_ble_eq_true rfl) rfl (fun G56 hu he e2 => ?_)
  have hu : puc _ _ a (.inr (7, [.ref b10, .ref b23, .ref b36, .ref b46, .int 0, .int 0, .int 0, .int 0, .int 0, .int 0, .int 0, .int 0, .int 0, .int 0, .ref b54, .int 0, .int 0, .null])) := hu
  have hq := hq.pt he e2
  have M_b10 := M_b10.he k_b10 hu0 he e2
  have M_b23 := M_b23.he k_b23 hu0 he e2
  have M_b36 := M_b36.he k_b36 hu0 he e2
  refine hs_aload (i := 0) (p := 60) (by decide +kernel) rfl ?_
  refine hs_k (x := Int32.ofNat 31) (p := 62) (by decide +kernel) ?_
  have hHo := hu.1
  refine ht_nb (t := 19) (n := 31) (kd := 0) (p := 64) (by decide +kernel) rfl (by decide +kernel) ⟨by decide +kernel, by decide +kernel, by decide +kernel⟩ (by omega) (by omega) hu.1 (fun K62 G62 b62 hk hH k_b62 hg_b62 hz_b62 => ?_)
  have hl_b10_b62 : b10 < b62 := Nat.lt_of_lt_of_le (hHo.2.2 _ _ k_b10).1 hg_b62
  have hl_b23_b62 : b23 < b62 := Nat.lt_of_lt_of_le (hHo.2.2 _ _ k_b23).1 hg_b62
  have hl_b36_b62 : b36 < b62 := Nat.lt_of_lt_of_le (hHo.2.2 _ _ k_b36).1 hg_b62
  have hl_b46_b62 : b46 < b62 := Nat.lt_of_lt_of_le (hHo.2.2 _ _ k_b46).1 hg_b62
  have hl_b54_b62 : b54 < b62 := Nat.lt_of_lt_of_le (hHo.2.2 _ _ k_b54).1 hg_b62
  have hg_b62 := Nat.le_trans hq.1 hg_b62
  have hu := hk.un hH hu
  have hq := hq.mo hk
  have M_b10 := M_b10.pk hk
  have M_b23 := M_b23.pk hk
  have M_b36 := M_b36.pk hk
  have k_b10 := hk.ty hHo k_b10
  have k_b23 := hk.ty hHo k_b23
  have k_b36 := hk.ty hHo k_b36
  have k_b46 := hk.ty hHo k_b46
  have k_b54 := hk.ty hHo k_b54
  have hu0 := hu
  refine hs_puti (ci := 7) (f := 17) (ty := .array .int) (v := .ref b62) (p := 67) (by decide +kernel) hu (Nat.le_of_ble_eq_true rfl) rfl (fun G64 hu he e2 => ?_)
  have hu : puc _ _ a (.inr (7, [.ref b10, .ref b23, .ref b36, .ref b46, .int 0, .int 0, .int 0, .int 0, .int 0, .int 0, .int 0, .int 0, .int 0, .int 0, .ref b54, .int 0, .int 0, .ref b62])) := hu
  have hq := hq.pt he e2
  have M_b10 := M_b10.he k_b10 hu0 he e2
  have M_b23 := M_b23.he k_b23 hu0 he e2
  have M_b36 := M_b36.he k_b36 hu0 he e2
  obtain ⟨hHt, kt⟩ := puc_typ (t := 9) hu (by decide) rfl ⟨_, rfl, rfl, fun k p hk => by
      match k, hk with
      | 0, hk => cases hk; exact ⟨_, rfl, .inr (.inr ⟨by decide, _, rfl, k_b10⟩)⟩
      | 1, hk => cases hk; exact ⟨_, rfl, .inr (.inr ⟨by decide, _, rfl, k_b23⟩)⟩
      | 2, hk => cases hk; exact ⟨_, rfl, .inr (.inr ⟨by decide, _, rfl, k_b36⟩)⟩
      | 3, hk => cases hk; exact ⟨_, rfl, .inr (.inr ⟨by decide, _, rfl, k_b46⟩)⟩
      | 4, hk => cases hk; exact ⟨_, rfl, .inr ⟨_, rfl, by decide, by decide⟩⟩
      | 5, hk => cases hk; exact ⟨_, rfl, .inr ⟨_, rfl, by decide, by decide⟩⟩
      | 6, hk => cases hk; exact ⟨_, rfl, .inr ⟨_, rfl, by decide, by decide⟩⟩
      | 7, hk => cases hk; exact ⟨_, rfl, .inr ⟨_, rfl, by decide, by decide⟩⟩
      | 8, hk => cases hk; exact ⟨_, rfl, .inr ⟨_, rfl, by decide, by decide⟩⟩
      | 9, hk => cases hk; exact ⟨_, rfl, .inr ⟨_, rfl, by decide, by decide⟩⟩
      | 10, hk => cases hk; exact ⟨_, rfl, .inr ⟨_, rfl, by decide, by decide⟩⟩
      | 11, hk => cases hk; exact ⟨_, rfl, .inr ⟨_, rfl, by decide, by decide⟩⟩
      | 12, hk => cases hk; exact ⟨_, rfl, .inr ⟨_, rfl, by decide, by decide⟩⟩
      | 13, hk => cases hk; exact ⟨_, rfl, .inr ⟨_, rfl, by decide, by decide⟩⟩
      | 14, hk => cases hk; exact ⟨_, rfl, .inr (.inr ⟨by decide, _, rfl, k_b54⟩)⟩
      | 15, hk => cases hk; exact ⟨_, rfl, .inr ⟨_, rfl, by decide, by decide⟩⟩
      | 16, hk => cases hk; exact ⟨_, rfl, .inr ⟨_, rfl, by decide, by decide⟩⟩
      | 17, hk => cases hk; exact ⟨_, rfl, .inr (.inr ⟨by decide, _, rfl, k_b62⟩)⟩
      | n + 18, hk => cases hk⟩ ⟨fun h => absurd h (by decide), fun h => absurd h (by decide)⟩
  refine hs_vret (by decide +kernel) ?_
  exact ⟨_, hq.ty (.inl rfl), hHt, kt, rfl, rfl, rfl, ⟨b10, b23, b36, b46, b54, b62, ⟨⟨kt, et_kn_k hu k_b10, et_kn_k hu k_b23, et_kn_k hu k_b36, et_kn_k hu k_b46, et_kn_k hu k_b54, et_kn_k hu k_b62⟩, ⟨Nat.ne_of_lt hl_b46_b54, by omega, by omega⟩, fun i hi => (M_b10.kn (t := 9) hu).1 i hi |>.2, fun i hi => (M_b23.kn (t := 9) hu).1 i hi |>.2, fun i hi => (M_b36.kn (t := 9) hu).1 i hi |>.2⟩, ⟨by rw [hu.2.2.2.2]; rfl, by rw [hu.2.2.2.2]; rfl, by rw [hu.2.2.2.2]; rfl, by rw [hu.2.2.2.2]; rfl, by rw [hu.2.2.2.2]; rfl, by rw [hu.2.2.2.2]; rfl⟩, fun i hi => (M_b10.1 i hi).1, fun i hi => (M_b23.1 i hi).1, fun i hi => (M_b36.1 i hi).1⟩⟩
theorem pi_knob6 {d2 : Nat} (hu : puc K G a (.inr (10, [.null, .null, .int 0, .null, .null, .null, .int 0, .int 0, .null, .null, .int 0, .null]))) (hd : 2 ≤ d2) : et_go none d2 115 0 (eg_en (eg_mL 115) [.ref a]) [] G 0 0 (pi_Z K G a 12 79 136123 (fun K' G' => (((∃ rd, et_pl (eg_at G' a) 3 = some (.ref rd) ∧ K' rd = some 7 ∧ et_pl (eg_at G' rd) 1 = some (.int (Int32.ofNat 0)) ∧ ∃ ba na, et_pl (eg_at G' rd) 5 = some (.ref ba) ∧ et_pl (eg_at G' rd) 6 = some (.ref na) ∧ ¬ ba = na) ∧ ∃ s0 s1 ra0 ca0 ra1 ca1, K' a = some 12 ∧ (et_pl (eg_at G' a) 0 = some (.ref s0) ∧ et_pl (eg_at G' a) 1 = some (.ref s1)) ∧ (¬ s0 = s1 ∧ ¬ ra0 = ra1 ∧ ¬ ca0 = ca1) ∧ pi_T K' G' s0 ra0 ca0 ∧ pi_T K' G' s1 ra1 ca1 ∧ ∃ la0 ya0 la1 ya1 ta0 ta1, (et_pl (eg_at G' s0) 3 = some (.ref la0) ∧ et_pl (eg_at G' s0) 4 = some (.ref ya0) ∧ et_pl (eg_at G' s1) 3 = some (.ref la1) ∧ et_pl (eg_at G' s1) 4 = some (.ref ya1)) ∧ (K' la0 = some 17 ∧ K' ya0 = some 27 ∧ K' la1 = some 17 ∧ K' ya1 = some 27) ∧ (¬ la0 = la1 ∧ ¬ ya0 = ya1) ∧ (et_pl (eg_at G' s0) 8 = some (.ref ta0) ∧ et_pl (eg_at G' s1) 8 = some (.ref ta1) ∧ K' ta0 = some 38 ∧ K' ta1 = some 38 ∧ ¬ ta0 = ta1) ∧ ez0 K' G' a s0 s1) ∧ et_pl (eg_at G' a) 2 = some (.int (Int32.ofNat 0))) ∧ ∃ se, et_pl (eg_at G' a) 5 = some (.ref se) ∧ sePP K' G' se ∧ et_pl (eg_at G' a) 6 = some (.int (-1)) ∧ et_pl (eg_at G' a) 7 = some (.int (-1)))) := by
  obtain ⟨d, rfl⟩ : ∃ d, d2 = d + 2 := ⟨d2 - 2, by omega⟩
  have hq : pq a K G K G := pq.rf
  have hua := hu.2.2.2.1
  have hq0 : G.2 ≤ G.2 := Nat.le_refl _
  rw [show eg_mL 115 = 1 from by decide +kernel]
  show et_go none (d + 2) 115 0 [some (.ref a)] [] G 0 0 _
  refine hs_aload (i := 0) (p := 1) (by decide +kernel) rfl ?_
  refine hs_skip (lk := 1) (p := 4) (by decide +kernel) rfl rfl ?_
  refine hs_aload (i := 0) (p := 5) (by decide +kernel) rfl ?_
  have hHo := hu.1
  refine ht_newV (ci := 8) (n := 11) (fs := [.int 0, .null, .int 0, .null, .null, .int 0, .null, .int 0, .null, .int 0, .null]) (p := 8) (by decide +kernel) (by omega) (by omega) (by decide +kernel) (by decide +kernel) hu.1 (fun G5 o0 ho hge hlt he => ?_)
  have hgo_o0 := Nat.le_trans hq.1 hge
  refine hs_dup1 (p := 9) (by decide +kernel) ?_
  refine hs_callp (mi := 101) (na := 0) (lk := 1) (lm := 2) (L0 := eg_en (eg_mL 101) [.ref o0]) (by decide +kernel) rfl rfl rfl rfl rfl (by rw [show eg_mL 101 = 2 from by decide +kernel]; first | done | rfl) ?_
  refine (pi_state5 ho (by omega)).mono (fun u hZ => pi_cb hZ (fun K9 G9 hq2 hH k_o0 hP => ?_))
  have hk := pk_of hq2 hge hlt he
  have hu := hk.un hH hu
  have hq := hq.mo hk
  obtain ⟨ra_o0, ca_o0, f1_o0, f10_o0, gr_o0, gc_o0, k_ra_o0, k_ca_o0, f0_o0, f5_o0, f9_o0, f2_o0, f7_o0, la_o0, ya_o0, ta_o0, ⟨f3_o0, f4_o0, f8_o0⟩, ⟨k_la_o0, k_ya_o0, k_ta_o0⟩, ⟨gl_o0, gy_o0, gt_o0⟩, ea_o0, ⟨f6_o0, k_ea_o0⟩, oa_o0, Aa_o0, Ba_o0, Ca_o0, ob_o0, Ab_o0, Bb_o0, Cb_o0, oc_o0, Ac_o0, Bc_o0, Cc_o0, ⟨e0_o0, e1_o0, e2_o0⟩, ⟨ho0_o0, ho1_o0, ho2_o0⟩, Qa_o0, Qb_o0, Qc_o0⟩ := hP
  show et_go none _ 115 12 _ [.ref o0, .ref a] _ 19 146 _
  have hu0 := hu
  refine hs_puti (ci := 10) (f := 0) (ty := .object "KnobEye$State") (v := .ref o0) (p := 15) (by decide +kernel) hu (Nat.le_of_ble_eq_true rfl) rfl (fun G12 hu he e2 => ?_)
  have hu : puc _ _ a (.inr (10, [.ref o0, .null, .int 0, .null, .null, .null, .int 0, .int 0, .null, .null, .int 0, .null])) := hu
  have hq := hq.pt he e2
  have e0_o0 := (congrArg (et_pl · 0) (he ea_o0 (puc_ne hu0 k_ea_o0))).trans e0_o0
  have e1_o0 := (congrArg (et_pl · 1) (he ea_o0 (puc_ne hu0 k_ea_o0))).trans e1_o0
  have e2_o0 := (congrArg (et_pl · 2) (he ea_o0 (puc_ne hu0 k_ea_o0))).trans e2_o0
  have f0_o0 := (congrArg (et_pl · 0) (he o0 (puc_ne hu0 k_o0))).trans f0_o0
  have f1_o0 := (congrArg (et_pl · 1) (he o0 (puc_ne hu0 k_o0))).trans f1_o0
  have f2_o0 := (congrArg (et_pl · 2) (he o0 (puc_ne hu0 k_o0))).trans f2_o0
  have f3_o0 := (congrArg (et_pl · 3) (he o0 (puc_ne hu0 k_o0))).trans f3_o0
  have f4_o0 := (congrArg (et_pl · 4) (he o0 (puc_ne hu0 k_o0))).trans f4_o0
  have f5_o0 := (congrArg (et_pl · 5) (he o0 (puc_ne hu0 k_o0))).trans f5_o0
  have f6_o0 := (congrArg (et_pl · 6) (he o0 (puc_ne hu0 k_o0))).trans f6_o0
  have f7_o0 := (congrArg (et_pl · 7) (he o0 (puc_ne hu0 k_o0))).trans f7_o0
  have f8_o0 := (congrArg (et_pl · 8) (he o0 (puc_ne hu0 k_o0))).trans f8_o0
  have f9_o0 := (congrArg (et_pl · 9) (he o0 (puc_ne hu0 k_o0))).trans f9_o0
  have f10_o0 := (congrArg (et_pl · 10) (he o0 (puc_ne hu0 k_o0))).trans f10_o0
  have Qa_o0 := Qa_o0.he hu0 he e2
  have Qb_o0 := Qb_o0.he hu0 he e2
  have Qc_o0 := Qc_o0.he hu0 he e2
  refine hs_aload (i := 0) (p := 16) (by decide +kernel) rfl ?_
  have hHo := hu.1
  refine ht_newV (ci := 8) (n := 11) (fs := [.int 0, .null, .int 0, .null, .null, .int 0, .null, .int 0, .null, .int 0, .null]) (p := 19) (by decide +kernel) (by omega) (by omega) (by decide +kernel) (by decide +kernel) hu.1 (fun G16 o1 ho hge hlt he => ?_)
  have hgo_o1 := Nat.le_trans hq.1 hge
  have hlo_Qa_o0_o1 : Ca_o0 < o1 := Nat.lt_of_lt_of_le Qa_o0.2.1.2.2.2 hge
  have hlo_Qb_o0_o1 : Cb_o0 < o1 := Nat.lt_of_lt_of_le Qb_o0.2.1.2.2.2 hge
  have hlo_Qc_o0_o1 : Cc_o0 < o1 := Nat.lt_of_lt_of_le Qc_o0.2.1.2.2.2 hge
  refine hs_dup1 (p := 20) (by decide +kernel) ?_
  refine hs_callp (mi := 101) (na := 0) (lk := 1) (lm := 2) (L0 := eg_en (eg_mL 101) [.ref o1]) (by decide +kernel) rfl rfl rfl rfl rfl (by rw [show eg_mL 101 = 2 from by decide +kernel]; first | done | rfl) ?_
  refine (pi_state5 ho (by omega)).mono (fun u hZ => pi_cb hZ (fun K20 G20 hq2 hH k_o1 hP => ?_))
  have hk := pk_of hq2 hge hlt he
  have hne0 : ¬ o0 = o1 := by have := (hHo.2.2 _ _ k_o0).1; omega
  have hlr := (hHo.2.2 _ _ k_ra_o0).1
  have hll := (hHo.2.2 _ _ k_la_o0).1
  have hly := (hHo.2.2 _ _ k_ya_o0).1
  have hlta := (hHo.2.2 _ _ k_ta_o0).1
  have hlc := (hHo.2.2 _ _ k_ca_o0).1
  have hu := hk.un hH hu
  have hq := hq.mo hk
  have e0_o0 := hk.fl hHo k_ea_o0 e0_o0
  have e1_o0 := hk.fl hHo k_ea_o0 e1_o0
  have e2_o0 := hk.fl hHo k_ea_o0 e2_o0
  have f0_o0 := hk.fl hHo k_o0 f0_o0
  have f1_o0 := hk.fl hHo k_o0 f1_o0
  have f2_o0 := hk.fl hHo k_o0 f2_o0
  have f3_o0 := hk.fl hHo k_o0 f3_o0
  have f4_o0 := hk.fl hHo k_o0 f4_o0
  have f5_o0 := hk.fl hHo k_o0 f5_o0
  have f6_o0 := hk.fl hHo k_o0 f6_o0
  have f7_o0 := hk.fl hHo k_o0 f7_o0
  have f8_o0 := hk.fl hHo k_o0 f8_o0
  have f9_o0 := hk.fl hHo k_o0 f9_o0
  have f10_o0 := hk.fl hHo k_o0 f10_o0
  have Qa_o0 := Qa_o0.pk hHo hk
  have Qb_o0 := Qb_o0.pk hHo hk
  have Qc_o0 := Qc_o0.pk hHo hk
  have k_o0 := hk.ty hHo k_o0
  have k_ra_o0 := hk.ty hHo k_ra_o0
  have k_ca_o0 := hk.ty hHo k_ca_o0
  have k_la_o0 := hk.ty hHo k_la_o0
  have k_ya_o0 := hk.ty hHo k_ya_o0
  have k_ta_o0 := hk.ty hHo k_ta_o0
  have k_ea_o0 := hk.ty hHo k_ea_o0
  obtain ⟨ra_o1, ca_o1, f1_o1, f10_o1, gr_o1, gc_o1, k_ra_o1, k_ca_o1, f0_o1, f5_o1, f9_o1, f2_o1, f7_o1, la_o1, ya_o1, ta_o1, ⟨f3_o1, f4_o1, f8_o1⟩, ⟨k_la_o1, k_ya_o1, k_ta_o1⟩, ⟨gl_o1, gy_o1, gt_o1⟩, ea_o1, ⟨f6_o1, k_ea_o1⟩, oa_o1, Aa_o1, Ba_o1, Ca_o1, ob_o1, Ab_o1, Bb_o1, Cb_o1, oc_o1, Ac_o1, Bc_o1, Cc_o1, ⟨e0_o1, e1_o1, e2_o1⟩, ⟨ho0_o1, ho1_o1, ho2_o1⟩, Qa_o1, Qb_o1, Qc_o1⟩ := hP
  have hnr : ¬ ra_o0 = ra_o1 := Nat.ne_of_lt (Nat.lt_of_lt_of_le (Nat.lt_trans hlr hlt) gr_o1)
  have hnc : ¬ ca_o0 = ca_o1 := Nat.ne_of_lt (Nat.lt_of_lt_of_le (Nat.lt_trans hlc hlt) gc_o1)
  have hnl : ¬ la_o0 = la_o1 := Nat.ne_of_lt (Nat.lt_of_lt_of_le (Nat.lt_trans hll hlt) gl_o1)
  have hny : ¬ ya_o0 = ya_o1 := Nat.ne_of_lt (Nat.lt_of_lt_of_le (Nat.lt_trans hly hlt) gy_o1)
  have hnt : ¬ ta_o0 = ta_o1 := Nat.ne_of_lt (Nat.lt_of_lt_of_le (Nat.lt_trans hlta hlt) gt_o1)
  have hla : o1 ≤ oa_o1 := Nat.le_of_lt (Nat.lt_of_lt_of_le ho.2.2.2.1 ho0_o1)
  show et_go none _ 115 23 _ [.ref o1, .ref a] _ 38 292 _
  have hu0 := hu
  refine hs_puti (ci := 10) (f := 1) (ty := .object "KnobEye$State") (v := .ref o1) (p := 26) (by decide +kernel) hu (Nat.le_of_ble_eq_true rfl) rfl (fun G23 hu he e2 => ?_)
  have hu : puc _ _ a (.inr (10, [.ref o0, .ref o1, .int 0, .null, .null, .null, .int 0, .int 0, .null, .null, .int 0, .null])) := hu
  have hq := hq.pt he e2
  have e0_o0 := (congrArg (et_pl · 0) (he ea_o0 (puc_ne hu0 k_ea_o0))).trans e0_o0
  have e1_o0 := (congrArg (et_pl · 1) (he ea_o0 (puc_ne hu0 k_ea_o0))).trans e1_o0
  have e2_o0 := (congrArg (et_pl · 2) (he ea_o0 (puc_ne hu0 k_ea_o0))).trans e2_o0
  have f0_o0 := (congrArg (et_pl · 0) (he o0 (puc_ne hu0 k_o0))).trans f0_o0
  have f1_o0 := (congrArg (et_pl · 1) (he o0 (puc_ne hu0 k_o0))).trans f1_o0
  have f2_o0 := (congrArg (et_pl · 2) (he o0 (puc_ne hu0 k_o0))).trans f2_o0
  have f3_o0 := (congrArg (et_pl · 3) (he o0 (puc_ne hu0 k_o0))).trans f3_o0
  have f4_o0 := (congrArg (et_pl · 4) (he o0 (puc_ne hu0 k_o0))).trans f4_o0
  have f5_o0 := (congrArg (et_pl · 5) (he o0 (puc_ne hu0 k_o0))).trans f5_o0
  have f6_o0 := (congrArg (et_pl · 6) (he o0 (puc_ne hu0 k_o0))).trans f6_o0
  have f7_o0 := (congrArg (et_pl · 7) (he o0 (puc_ne hu0 k_o0))).trans f7_o0
  have f8_o0 := (congrArg (et_pl · 8) (he o0 (puc_ne hu0 k_o0))).trans f8_o0
  have f9_o0 := (congrArg (et_pl · 9) (he o0 (puc_ne hu0 k_o0))).trans f9_o0
  have f10_o0 := (congrArg (et_pl · 10) (he o0 (puc_ne hu0 k_o0))).trans f10_o0
  have e0_o1 := (congrArg (et_pl · 0) (he ea_o1 (puc_ne hu0 k_ea_o1))).trans e0_o1
  have e1_o1 := (congrArg (et_pl · 1) (he ea_o1 (puc_ne hu0 k_ea_o1))).trans e1_o1
  have e2_o1 := (congrArg (et_pl · 2) (he ea_o1 (puc_ne hu0 k_ea_o1))).trans e2_o1
  have f0_o1 := (congrArg (et_pl · 0) (he o1 (puc_ne hu0 k_o1))).trans f0_o1
  have f1_o1 := (congrArg (et_pl · 1) (he o1 (puc_ne hu0 k_o1))).trans f1_o1
  have f2_o1 := (congrArg (et_pl · 2) (he o1 (puc_ne hu0 k_o1))).trans f2_o1
  have f3_o1 := (congrArg (et_pl · 3) (he o1 (puc_ne hu0 k_o1))).trans f3_o1
  have f4_o1 := (congrArg (et_pl · 4) (he o1 (puc_ne hu0 k_o1))).trans f4_o1
  have f5_o1 := (congrArg (et_pl · 5) (he o1 (puc_ne hu0 k_o1))).trans f5_o1
  have f6_o1 := (congrArg (et_pl · 6) (he o1 (puc_ne hu0 k_o1))).trans f6_o1
  have f7_o1 := (congrArg (et_pl · 7) (he o1 (puc_ne hu0 k_o1))).trans f7_o1
  have f8_o1 := (congrArg (et_pl · 8) (he o1 (puc_ne hu0 k_o1))).trans f8_o1
  have f9_o1 := (congrArg (et_pl · 9) (he o1 (puc_ne hu0 k_o1))).trans f9_o1
  have f10_o1 := (congrArg (et_pl · 10) (he o1 (puc_ne hu0 k_o1))).trans f10_o1
  have Qa_o0 := Qa_o0.he hu0 he e2
  have Qb_o0 := Qb_o0.he hu0 he e2
  have Qc_o0 := Qc_o0.he hu0 he e2
  have Qa_o1 := Qa_o1.he hu0 he e2
  have Qb_o1 := Qb_o1.he hu0 he e2
  have Qc_o1 := Qc_o1.he hu0 he e2
  refine hs_aload (i := 0) (p := 27) (by decide +kernel) rfl ?_
  have hHo := hu.1
  refine ht_newV (ci := 5) (n := 9) (fs := [.null, .int 0, .int 0, .int 0, .null, .null, .null, .int 0, .int 0]) (p := 30) (by decide +kernel) (by omega) (by omega) (by decide +kernel) (by decide +kernel) hu.1 (fun G27 o2 ho hge hlt he => ?_)
  refine hs_dup1 (p := 31) (by decide +kernel) ?_
  refine hs_callp (mi := 62) (na := 0) (lk := 1) (lm := 1) (L0 := eg_en (eg_mL 62) [.ref o2]) (by decide +kernel) rfl rfl rfl rfl rfl (by rw [show eg_mL 62 = 1 from by decide +kernel]; first | done | rfl) ?_
  refine (pi_reader2 ho (by omega)).mono (fun u hZ => pi_cb hZ (fun K31 G31 hq2 hH k_o2 hP => ?_))
  have hk := pk_of hq2 hge hlt he
  have hu := hk.un hH hu
  have hq := hq.mo hk
  have e0_o0 := hk.fl hHo k_ea_o0 e0_o0
  have e1_o0 := hk.fl hHo k_ea_o0 e1_o0
  have e2_o0 := hk.fl hHo k_ea_o0 e2_o0
  have f0_o0 := hk.fl hHo k_o0 f0_o0
  have f1_o0 := hk.fl hHo k_o0 f1_o0
  have f2_o0 := hk.fl hHo k_o0 f2_o0
  have f3_o0 := hk.fl hHo k_o0 f3_o0
  have f4_o0 := hk.fl hHo k_o0 f4_o0
  have f5_o0 := hk.fl hHo k_o0 f5_o0
  have f6_o0 := hk.fl hHo k_o0 f6_o0
  have f7_o0 := hk.fl hHo k_o0 f7_o0
  have f8_o0 := hk.fl hHo k_o0 f8_o0
  have f9_o0 := hk.fl hHo k_o0 f9_o0
  have f10_o0 := hk.fl hHo k_o0 f10_o0
  have e0_o1 := hk.fl hHo k_ea_o1 e0_o1
  have e1_o1 := hk.fl hHo k_ea_o1 e1_o1
  have e2_o1 := hk.fl hHo k_ea_o1 e2_o1
  have f0_o1 := hk.fl hHo k_o1 f0_o1
  have f1_o1 := hk.fl hHo k_o1 f1_o1
  have f2_o1 := hk.fl hHo k_o1 f2_o1
  have f3_o1 := hk.fl hHo k_o1 f3_o1
  have f4_o1 := hk.fl hHo k_o1 f4_o1
  have f5_o1 := hk.fl hHo k_o1 f5_o1
  have f6_o1 := hk.fl hHo k_o1 f6_o1
  have f7_o1 := hk.fl hHo k_o1 f7_o1
  have f8_o1 := hk.fl hHo k_o1 f8_o1
  have f9_o1 := hk.fl hHo k_o1 f9_o1
  have f10_o1 := hk.fl hHo k_o1 f10_o1
  have Qa_o0 := Qa_o0.pk hHo hk
  have Qb_o0 := Qb_o0.pk hHo hk
  have Qc_o0 := Qc_o0.pk hHo hk
  have Qa_o1 := Qa_o1.pk hHo hk
  have Qb_o1 := Qb_o1.pk hHo hk
  have Qc_o1 := Qc_o1.pk hHo hk
  have k_o0 := hk.ty hHo k_o0
  have k_ra_o0 := hk.ty hHo k_ra_o0
  have k_ca_o0 := hk.ty hHo k_ca_o0
  have k_la_o0 := hk.ty hHo k_la_o0
  have k_ya_o0 := hk.ty hHo k_ya_o0
  have k_ta_o0 := hk.ty hHo k_ta_o0
  have k_ea_o0 := hk.ty hHo k_ea_o0
  have k_o1 := hk.ty hHo k_o1
  have k_ra_o1 := hk.ty hHo k_ra_o1
  have k_ca_o1 := hk.ty hHo k_ca_o1
  have k_la_o1 := hk.ty hHo k_la_o1
  have k_ya_o1 := hk.ty hHo k_ya_o1
  have k_ta_o1 := hk.ty hHo k_ta_o1
  have k_ea_o1 := hk.ty hHo k_ea_o1
  obtain ⟨fl, ba, na, fba, fna, hbn⟩ := hP
  show et_go none _ 115 34 _ [.ref o2, .ref a] _ 43 1904 _
  have hu0 := hu
  refine hs_puti (ci := 10) (f := 3) (ty := .object "KnobEye$Reader") (v := .ref o2) (p := 37) (by decide +kernel) hu (Nat.le_of_ble_eq_true rfl) rfl (fun G34 hu he e2 => ?_)
  have hu : puc _ _ a (.inr (10, [.ref o0, .ref o1, .int 0, .ref o2, .null, .null, .int 0, .int 0, .null, .null, .int 0, .null])) := hu
  have hq := hq.pt he e2
  have e0_o0 := (congrArg (et_pl · 0) (he ea_o0 (puc_ne hu0 k_ea_o0))).trans e0_o0
  have e1_o0 := (congrArg (et_pl · 1) (he ea_o0 (puc_ne hu0 k_ea_o0))).trans e1_o0
  have e2_o0 := (congrArg (et_pl · 2) (he ea_o0 (puc_ne hu0 k_ea_o0))).trans e2_o0
  have f0_o0 := (congrArg (et_pl · 0) (he o0 (puc_ne hu0 k_o0))).trans f0_o0
  have f1_o0 := (congrArg (et_pl · 1) (he o0 (puc_ne hu0 k_o0))).trans f1_o0
  have f2_o0 := (congrArg (et_pl · 2) (he o0 (puc_ne hu0 k_o0))).trans f2_o0
  have f3_o0 := (congrArg (et_pl · 3) (he o0 (puc_ne hu0 k_o0))).trans f3_o0
  have f4_o0 := (congrArg (et_pl · 4) (he o0 (puc_ne hu0 k_o0))).trans f4_o0
  have f5_o0 := (congrArg (et_pl · 5) (he o0 (puc_ne hu0 k_o0))).trans f5_o0
  have f6_o0 := (congrArg (et_pl · 6) (he o0 (puc_ne hu0 k_o0))).trans f6_o0
  have f7_o0 := (congrArg (et_pl · 7) (he o0 (puc_ne hu0 k_o0))).trans f7_o0
  have f8_o0 := (congrArg (et_pl · 8) (he o0 (puc_ne hu0 k_o0))).trans f8_o0
  have f9_o0 := (congrArg (et_pl · 9) (he o0 (puc_ne hu0 k_o0))).trans f9_o0
  have f10_o0 := (congrArg (et_pl · 10) (he o0 (puc_ne hu0 k_o0))).trans f10_o0
  have e0_o1 := (congrArg (et_pl · 0) (he ea_o1 (puc_ne hu0 k_ea_o1))).trans e0_o1
  have e1_o1 := (congrArg (et_pl · 1) (he ea_o1 (puc_ne hu0 k_ea_o1))).trans e1_o1
  have e2_o1 := (congrArg (et_pl · 2) (he ea_o1 (puc_ne hu0 k_ea_o1))).trans e2_o1
  have f0_o1 := (congrArg (et_pl · 0) (he o1 (puc_ne hu0 k_o1))).trans f0_o1
  have f1_o1 := (congrArg (et_pl · 1) (he o1 (puc_ne hu0 k_o1))).trans f1_o1
  have f2_o1 := (congrArg (et_pl · 2) (he o1 (puc_ne hu0 k_o1))).trans f2_o1
  have f3_o1 := (congrArg (et_pl · 3) (he o1 (puc_ne hu0 k_o1))).trans f3_o1
  have f4_o1 := (congrArg (et_pl · 4) (he o1 (puc_ne hu0 k_o1))).trans f4_o1
  have f5_o1 := (congrArg (et_pl · 5) (he o1 (puc_ne hu0 k_o1))).trans f5_o1
  have f6_o1 := (congrArg (et_pl · 6) (he o1 (puc_ne hu0 k_o1))).trans f6_o1
  have f7_o1 := (congrArg (et_pl · 7) (he o1 (puc_ne hu0 k_o1))).trans f7_o1
  have f8_o1 := (congrArg (et_pl · 8) (he o1 (puc_ne hu0 k_o1))).trans f8_o1
  have f9_o1 := (congrArg (et_pl · 9) (he o1 (puc_ne hu0 k_o1))).trans f9_o1
  have f10_o1 := (congrArg (et_pl · 10) (he o1 (puc_ne hu0 k_o1))).trans f10_o1
  have fl := (congrArg (et_pl · 1) (he o2 (puc_ne hu0 k_o2))).trans fl
  have fba := (congrArg (et_pl · 5) (he o2 (puc_ne hu0 k_o2))).trans fba
  have fna := (congrArg (et_pl · 6) (he o2 (puc_ne hu0 k_o2))).trans fna
  have Qa_o0 := Qa_o0.he hu0 he e2
  have Qb_o0 := Qb_o0.he hu0 he e2
  have Qc_o0 := Qc_o0.he hu0 he e2
  have Qa_o1 := Qa_o1.he hu0 he e2
  have Qb_o1 := Qb_o1.he hu0 he e2
  have Qc_o1 := Qc_o1.he hu0 he e2
  refine hs_aload (i := 0) (p := 38) (by decide +kernel) rfl ?_
  have hHo := hu.1
  refine ht_newV (ci := 2) (n := 12) (fs := [.int 0, .int 0, .int 0, .int 0, .int 0, .int 0, .int 0, .int 0, .int 0, .int 0, .int 0, .int 0]) (p := 41) (by decide +kernel) (by omega) (by omega) (by decide +kernel) (by decide +kernel) hu.1 (fun G38 o3 ho hge hlt he => ?_)
  refine hs_dup1 (p := 42) (by decide +kernel) ?_
  refine hs_callp (mi := 51) (na := 0) (lk := 1) (lm := 1) (L0 := eg_en (eg_mL 51) [.ref o3]) (by decide +kernel) rfl rfl rfl rfl rfl (by rw [show eg_mL 51 = 1 from by decide +kernel]; first | done | rfl) ?_
  refine (pi_facts ho (by omega)).mono (fun u hZ => pi_cb hZ (fun K42 G42 hq2 hH k_o3 hP => ?_))
  have hk := pk_of hq2 hge hlt he
  have hu := hk.un hH hu
  have hq := hq.mo hk
  have e0_o0 := hk.fl hHo k_ea_o0 e0_o0
  have e1_o0 := hk.fl hHo k_ea_o0 e1_o0
  have e2_o0 := hk.fl hHo k_ea_o0 e2_o0
  have f0_o0 := hk.fl hHo k_o0 f0_o0
  have f1_o0 := hk.fl hHo k_o0 f1_o0
  have f2_o0 := hk.fl hHo k_o0 f2_o0
  have f3_o0 := hk.fl hHo k_o0 f3_o0
  have f4_o0 := hk.fl hHo k_o0 f4_o0
  have f5_o0 := hk.fl hHo k_o0 f5_o0
  have f6_o0 := hk.fl hHo k_o0 f6_o0
  have f7_o0 := hk.fl hHo k_o0 f7_o0
  have f8_o0 := hk.fl hHo k_o0 f8_o0
  have f9_o0 := hk.fl hHo k_o0 f9_o0
  have f10_o0 := hk.fl hHo k_o0 f10_o0
  have e0_o1 := hk.fl hHo k_ea_o1 e0_o1
  have e1_o1 := hk.fl hHo k_ea_o1 e1_o1
  have e2_o1 := hk.fl hHo k_ea_o1 e2_o1
  have f0_o1 := hk.fl hHo k_o1 f0_o1
  have f1_o1 := hk.fl hHo k_o1 f1_o1
  have f2_o1 := hk.fl hHo k_o1 f2_o1
  have f3_o1 := hk.fl hHo k_o1 f3_o1
  have f4_o1 := hk.fl hHo k_o1 f4_o1
  have f5_o1 := hk.fl hHo k_o1 f5_o1
  have f6_o1 := hk.fl hHo k_o1 f6_o1
  have f7_o1 := hk.fl hHo k_o1 f7_o1
  have f8_o1 := hk.fl hHo k_o1 f8_o1
  have f9_o1 := hk.fl hHo k_o1 f9_o1
  have f10_o1 := hk.fl hHo k_o1 f10_o1
  have fl := hk.fl hHo k_o2 fl
  have fba := hk.fl hHo k_o2 fba
  have fna := hk.fl hHo k_o2 fna
  have Qa_o0 := Qa_o0.pk hHo hk
  have Qb_o0 := Qb_o0.pk hHo hk
  have Qc_o0 := Qc_o0.pk hHo hk
  have Qa_o1 := Qa_o1.pk hHo hk
  have Qb_o1 := Qb_o1.pk hHo hk
  have Qc_o1 := Qc_o1.pk hHo hk
  have k_o0 := hk.ty hHo k_o0
  have k_ra_o0 := hk.ty hHo k_ra_o0
  have k_ca_o0 := hk.ty hHo k_ca_o0
  have k_la_o0 := hk.ty hHo k_la_o0
  have k_ya_o0 := hk.ty hHo k_ya_o0
  have k_ta_o0 := hk.ty hHo k_ta_o0
  have k_ea_o0 := hk.ty hHo k_ea_o0
  have k_o1 := hk.ty hHo k_o1
  have k_ra_o1 := hk.ty hHo k_ra_o1
  have k_ca_o1 := hk.ty hHo k_ca_o1
  have k_la_o1 := hk.ty hHo k_la_o1
  have k_ya_o1 := hk.ty hHo k_ya_o1
  have k_ta_o1 := hk.ty hHo k_ta_o1
  have k_ea_o1 := hk.ty hHo k_ea_o1
  have k_o2 := hk.ty hHo k_o2
  show et_go none _ 115 45 _ [.ref o3, .ref a] _ 44 1916 _
  have hu0 := hu
  refine hs_puti (ci := 10) (f := 4) (ty := .object "KnobEye$Facts") (v := .ref o3) (p := 48) (by decide +kernel) hu (Nat.le_of_ble_eq_true rfl) rfl (fun G45 hu he e2 => ?_)
  have hu : puc _ _ a (.inr (10, [.ref o0, .ref o1, .int 0, .ref o2, .ref o3, .null, .int 0, .int 0, .null, .null, .int 0, .null])) := hu
  have hq := hq.pt he e2
  have e0_o0 := (congrArg (et_pl · 0) (he ea_o0 (puc_ne hu0 k_ea_o0))).trans e0_o0
  have e1_o0 := (congrArg (et_pl · 1) (he ea_o0 (puc_ne hu0 k_ea_o0))).trans e1_o0
  have e2_o0 := (congrArg (et_pl · 2) (he ea_o0 (puc_ne hu0 k_ea_o0))).trans e2_o0
  have f0_o0 := (congrArg (et_pl · 0) (he o0 (puc_ne hu0 k_o0))).trans f0_o0
  have f1_o0 := (congrArg (et_pl · 1) (he o0 (puc_ne hu0 k_o0))).trans f1_o0
  have f2_o0 := (congrArg (et_pl · 2) (he o0 (puc_ne hu0 k_o0))).trans f2_o0
  have f3_o0 := (congrArg (et_pl · 3) (he o0 (puc_ne hu0 k_o0))).trans f3_o0
  have f4_o0 := (congrArg (et_pl · 4) (he o0 (puc_ne hu0 k_o0))).trans f4_o0
  have f5_o0 := (congrArg (et_pl · 5) (he o0 (puc_ne hu0 k_o0))).trans f5_o0
  have f6_o0 := (congrArg (et_pl · 6) (he o0 (puc_ne hu0 k_o0))).trans f6_o0
  have f7_o0 := (congrArg (et_pl · 7) (he o0 (puc_ne hu0 k_o0))).trans f7_o0
  have f8_o0 := (congrArg (et_pl · 8) (he o0 (puc_ne hu0 k_o0))).trans f8_o0
  have f9_o0 := (congrArg (et_pl · 9) (he o0 (puc_ne hu0 k_o0))).trans f9_o0
  have f10_o0 := (congrArg (et_pl · 10) (he o0 (puc_ne hu0 k_o0))).trans f10_o0
  have e0_o1 := (congrArg (et_pl · 0) (he ea_o1 (puc_ne hu0 k_ea_o1))).trans e0_o1
  have e1_o1 := (congrArg (et_pl · 1) (he ea_o1 (puc_ne hu0 k_ea_o1))).trans e1_o1
  have e2_o1 := (congrArg (et_pl · 2) (he ea_o1 (puc_ne hu0 k_ea_o1))).trans e2_o1
  have f0_o1 := (congrArg (et_pl · 0) (he o1 (puc_ne hu0 k_o1))).trans f0_o1
  have f1_o1 := (congrArg (et_pl · 1) (he o1 (puc_ne hu0 k_o1))).trans f1_o1
  have f2_o1 := (congrArg (et_pl · 2) (he o1 (puc_ne hu0 k_o1))).trans f2_o1
  have f3_o1 := (congrArg (et_pl · 3) (he o1 (puc_ne hu0 k_o1))).trans f3_o1
  have f4_o1 := (congrArg (et_pl · 4) (he o1 (puc_ne hu0 k_o1))).trans f4_o1
  have f5_o1 := (congrArg (et_pl · 5) (he o1 (puc_ne hu0 k_o1))).trans f5_o1
  have f6_o1 := (congrArg (et_pl · 6) (he o1 (puc_ne hu0 k_o1))).trans f6_o1
  have f7_o1 := (congrArg (et_pl · 7) (he o1 (puc_ne hu0 k_o1))).trans f7_o1
  have f8_o1 := (congrArg (et_pl · 8) (he o1 (puc_ne hu0 k_o1))).trans f8_o1
  have f9_o1 := (congrArg (et_pl · 9) (he o1 (puc_ne hu0 k_o1))).trans f9_o1
  have f10_o1 := (congrArg (et_pl · 10) (he o1 (puc_ne hu0 k_o1))).trans f10_o1
  have fl := (congrArg (et_pl · 1) (he o2 (puc_ne hu0 k_o2))).trans fl
  have fba := (congrArg (et_pl · 5) (he o2 (puc_ne hu0 k_o2))).trans fba
  have fna := (congrArg (et_pl · 6) (he o2 (puc_ne hu0 k_o2))).trans fna
  have Qa_o0 := Qa_o0.he hu0 he e2
  have Qb_o0 := Qb_o0.he hu0 he e2
  have Qc_o0 := Qc_o0.he hu0 he e2
  have Qa_o1 := Qa_o1.he hu0 he e2
  have Qb_o1 := Qb_o1.he hu0 he e2
  have Qc_o1 := Qc_o1.he hu0 he e2
  refine hs_aload (i := 0) (p := 49) (by decide +kernel) rfl ?_
  have hHo := hu.1
  refine ht_newV (ci := 7) (n := 18) (fs := [.null, .null, .null, .null, .int 0, .int 0, .int 0, .int 0, .int 0, .int 0, .int 0, .int 0, .int 0, .int 0, .null, .int 0, .int 0, .null]) (p := 52) (by decide +kernel) (by omega) (by omega) (by decide +kernel) (by decide +kernel) hu.1 (fun G49 o4 ho hge hlt he => ?_)
  refine hs_dup1 (p := 53) (by decide +kernel) ?_
  refine hs_callp (mi := 89) (na := 0) (lk := 1) (lm := 1) (L0 := eg_en (eg_mL 89) [.ref o4]) (by decide +kernel) rfl rfl rfl rfl rfl (by rw [show eg_mL 89 = 1 from by decide +kernel]; first | done | rfl) ?_
  refine (pi_search6 ho (by omega)).mono (fun u hZ => pi_cb hZ (fun K53 G53 hq2 hH k_o4 hP => ?_))
  have hk := pk_of hq2 hge hlt he
  have hu := hk.un hH hu
  have hq := hq.mo hk
  have e0_o0 := hk.fl hHo k_ea_o0 e0_o0
  have e1_o0 := hk.fl hHo k_ea_o0 e1_o0
  have e2_o0 := hk.fl hHo k_ea_o0 e2_o0
  have f0_o0 := hk.fl hHo k_o0 f0_o0
  have f1_o0 := hk.fl hHo k_o0 f1_o0
  have f2_o0 := hk.fl hHo k_o0 f2_o0
  have f3_o0 := hk.fl hHo k_o0 f3_o0
  have f4_o0 := hk.fl hHo k_o0 f4_o0
  have f5_o0 := hk.fl hHo k_o0 f5_o0
  have f6_o0 := hk.fl hHo k_o0 f6_o0
  have f7_o0 := hk.fl hHo k_o0 f7_o0
  have f8_o0 := hk.fl hHo k_o0 f8_o0
  have f9_o0 := hk.fl hHo k_o0 f9_o0
  have f10_o0 := hk.fl hHo k_o0 f10_o0
  have e0_o1 := hk.fl hHo k_ea_o1 e0_o1
  have e1_o1 := hk.fl hHo k_ea_o1 e1_o1
  have e2_o1 := hk.fl hHo k_ea_o1 e2_o1
  have f0_o1 := hk.fl hHo k_o1 f0_o1
  have f1_o1 := hk.fl hHo k_o1 f1_o1
  have f2_o1 := hk.fl hHo k_o1 f2_o1
  have f3_o1 := hk.fl hHo k_o1 f3_o1
  have f4_o1 := hk.fl hHo k_o1 f4_o1
  have f5_o1 := hk.fl hHo k_o1 f5_o1
  have f6_o1 := hk.fl hHo k_o1 f6_o1
  have f7_o1 := hk.fl hHo k_o1 f7_o1
  have f8_o1 := hk.fl hHo k_o1 f8_o1
  have f9_o1 := hk.fl hHo k_o1 f9_o1
  have f10_o1 := hk.fl hHo k_o1 f10_o1
  have fl := hk.fl hHo k_o2 fl
  have fba := hk.fl hHo k_o2 fba
  have fna := hk.fl hHo k_o2 fna
  have Qa_o0 := Qa_o0.pk hHo hk
  have Qb_o0 := Qb_o0.pk hHo hk
  have Qc_o0 := Qc_o0.pk hHo hk
  have Qa_o1 := Qa_o1.pk hHo hk
  have Qb_o1 := Qb_o1.pk hHo hk
  have Qc_o1 := Qc_o1.pk hHo hk
  have k_o0 := hk.ty hHo k_o0
  have k_ra_o0 := hk.ty hHo k_ra_o0
  have k_ca_o0 := hk.ty hHo k_ca_o0
  have k_la_o0 := hk.ty hHo k_la_o0
  have k_ya_o0 := hk.ty hHo k_ya_o0
  have k_ta_o0 := hk.ty hHo k_ta_o0
  have k_ea_o0 := hk.ty hHo k_ea_o0
  have k_o1 := hk.ty hHo k_o1
  have k_ra_o1 := hk.ty hHo k_ra_o1
  have k_ca_o1 := hk.ty hHo k_ca_o1
  have k_la_o1 := hk.ty hHo k_la_o1
  have k_ya_o1 := hk.ty hHo k_ya_o1
  have k_ta_o1 := hk.ty hHo k_ta_o1
  have k_ea_o1 := hk.ty hHo k_ea_o1
  have k_o2 := hk.ty hHo k_o2
  have k_o3 := hk.ty hHo k_o3
  have S_o4 := hP
  show et_go none _ 115 56 _ [.ref o4, .ref a] _ 71 5017 _
  have hu0 := hu
  refine hs_puti (ci := 10) (f := 5) (ty := .object "KnobEye$Search") (v := .ref o4) (p := 59) (by decide +kernel) hu (Nat.le_of_ble_eq_true rfl) rfl (fun G56 hu he e2 => ?_)
  have hu : puc _ _ a (.inr (10, [.ref o0, .ref o1, .int 0, .ref o2, .ref o3, .ref o4, .int 0, .int 0, .null, .null, .int 0, .null])) := hu
  have hq := hq.pt he e2
  have e0_o0 := (congrArg (et_pl · 0) (he ea_o0 (puc_ne hu0 k_ea_o0))).trans e0_o0
  have e1_o0 := (congrArg (et_pl · 1) (he ea_o0 (puc_ne hu0 k_ea_o0))).trans e1_o0
  have e2_o0 := (congrArg (et_pl · 2) (he ea_o0 (puc_ne hu0 k_ea_o0))).trans e2_o0
  have f0_o0 := (congrArg (et_pl · 0) (he o0 (puc_ne hu0 k_o0))).trans f0_o0
  have f1_o0 := (congrArg (et_pl · 1) (he o0 (puc_ne hu0 k_o0))).trans f1_o0
  have f2_o0 := (congrArg (et_pl · 2) (he o0 (puc_ne hu0 k_o0))).trans f2_o0
  have f3_o0 := (congrArg (et_pl · 3) (he o0 (puc_ne hu0 k_o0))).trans f3_o0
  have f4_o0 := (congrArg (et_pl · 4) (he o0 (puc_ne hu0 k_o0))).trans f4_o0
  have f5_o0 := (congrArg (et_pl · 5) (he o0 (puc_ne hu0 k_o0))).trans f5_o0
  have f6_o0 := (congrArg (et_pl · 6) (he o0 (puc_ne hu0 k_o0))).trans f6_o0
  have f7_o0 := (congrArg (et_pl · 7) (he o0 (puc_ne hu0 k_o0))).trans f7_o0
  have f8_o0 := (congrArg (et_pl · 8) (he o0 (puc_ne hu0 k_o0))).trans f8_o0
  have f9_o0 := (congrArg (et_pl · 9) (he o0 (puc_ne hu0 k_o0))).trans f9_o0
  have f10_o0 := (congrArg (et_pl · 10) (he o0 (puc_ne hu0 k_o0))).trans f10_o0
  have e0_o1 := (congrArg (et_pl · 0) (he ea_o1 (puc_ne hu0 k_ea_o1))).trans e0_o1
  have e1_o1 := (congrArg (et_pl · 1) (he ea_o1 (puc_ne hu0 k_ea_o1))).trans e1_o1
  have e2_o1 := (congrArg (et_pl · 2) (he ea_o1 (puc_ne hu0 k_ea_o1))).trans e2_o1
  have f0_o1 := (congrArg (et_pl · 0) (he o1 (puc_ne hu0 k_o1))).trans f0_o1
  have f1_o1 := (congrArg (et_pl · 1) (he o1 (puc_ne hu0 k_o1))).trans f1_o1
  have f2_o1 := (congrArg (et_pl · 2) (he o1 (puc_ne hu0 k_o1))).trans f2_o1
  have f3_o1 := (congrArg (et_pl · 3) (he o1 (puc_ne hu0 k_o1))).trans f3_o1
  have f4_o1 := (congrArg (et_pl · 4) (he o1 (puc_ne hu0 k_o1))).trans f4_o1
  have f5_o1 := (congrArg (et_pl · 5) (he o1 (puc_ne hu0 k_o1))).trans f5_o1
  have f6_o1 := (congrArg (et_pl · 6) (he o1 (puc_ne hu0 k_o1))).trans f6_o1
  have f7_o1 := (congrArg (et_pl · 7) (he o1 (puc_ne hu0 k_o1))).trans f7_o1
  have f8_o1 := (congrArg (et_pl · 8) (he o1 (puc_ne hu0 k_o1))).trans f8_o1
  have f9_o1 := (congrArg (et_pl · 9) (he o1 (puc_ne hu0 k_o1))).trans f9_o1
  have f10_o1 := (congrArg (et_pl · 10) (he o1 (puc_ne hu0 k_o1))).trans f10_o1
  have fl := (congrArg (et_pl · 1) (he o2 (puc_ne hu0 k_o2))).trans fl
  have fba := (congrArg (et_pl · 5) (he o2 (puc_ne hu0 k_o2))).trans fba
  have fna := (congrArg (et_pl · 6) (he o2 (puc_ne hu0 k_o2))).trans fna
  have Qa_o0 := Qa_o0.he hu0 he e2
  have Qb_o0 := Qb_o0.he hu0 he e2
  have Qc_o0 := Qc_o0.he hu0 he e2
  have Qa_o1 := Qa_o1.he hu0 he e2
  have Qb_o1 := Qb_o1.he hu0 he e2
  have Qc_o1 := Qc_o1.he hu0 he e2
  have S_o4 := S_o4.he hu0 he
  refine hs_aload (i := 0) (p := 60) (by decide +kernel) rfl ?_
  refine hs_k (x := (-1)) (p := 61) (by decide +kernel) ?_
  have hu0 := hu
  refine hs_puti (ci := 10) (f := 6) (ty := .int) (v := .int (-1)) (p := 64) (by decide +kernel) hu (Nat.le_of_ble_eq_true rfl) rfl (fun G61 hu he e2 => ?_)
  have hu : puc _ _ a (.inr (10, [.ref o0, .ref o1, .int 0, .ref o2, .ref o3, .ref o4, .int (-1), .int 0, .null, .null, .int 0, .null])) := hu
  have hq := hq.pt he e2
  have e0_o0 := (congrArg (et_pl · 0) (he ea_o0 (puc_ne hu0 k_ea_o0))).trans e0_o0
  have e1_o0 := (congrArg (et_pl · 1) (he ea_o0 (puc_ne hu0 k_ea_o0))).trans e1_o0
  have e2_o0 := (congrArg (et_pl · 2) (he ea_o0 (puc_ne hu0 k_ea_o0))).trans e2_o0
  have f0_o0 := (congrArg (et_pl · 0) (he o0 (puc_ne hu0 k_o0))).trans f0_o0
  have f1_o0 := (congrArg (et_pl · 1) (he o0 (puc_ne hu0 k_o0))).trans f1_o0
  have f2_o0 := (congrArg (et_pl · 2) (he o0 (puc_ne hu0 k_o0))).trans f2_o0
  have f3_o0 := (congrArg (et_pl · 3) (he o0 (puc_ne hu0 k_o0))).trans f3_o0
  have f4_o0 := (congrArg (et_pl · 4) (he o0 (puc_ne hu0 k_o0))).trans f4_o0
  have f5_o0 := (congrArg (et_pl · 5) (he o0 (puc_ne hu0 k_o0))).trans f5_o0
  have f6_o0 := (congrArg (et_pl · 6) (he o0 (puc_ne hu0 k_o0))).trans f6_o0
  have f7_o0 := (congrArg (et_pl · 7) (he o0 (puc_ne hu0 k_o0))).trans f7_o0
  have f8_o0 := (congrArg (et_pl · 8) (he o0 (puc_ne hu0 k_o0))).trans f8_o0
  have f9_o0 := (congrArg (et_pl · 9) (he o0 (puc_ne hu0 k_o0))).trans f9_o0
  have f10_o0 := (congrArg (et_pl · 10) (he o0 (puc_ne hu0 k_o0))).trans f10_o0
  have e0_o1 := (congrArg (et_pl · 0) (he ea_o1 (puc_ne hu0 k_ea_o1))).trans e0_o1
  have e1_o1 := (congrArg (et_pl · 1) (he ea_o1 (puc_ne hu0 k_ea_o1))).trans e1_o1
  have e2_o1 := (congrArg (et_pl · 2) (he ea_o1 (puc_ne hu0 k_ea_o1))).trans e2_o1
  have f0_o1 := (congrArg (et_pl · 0) (he o1 (puc_ne hu0 k_o1))).trans f0_o1
  have f1_o1 := (congrArg (et_pl · 1) (he o1 (puc_ne hu0 k_o1))).trans f1_o1
  have f2_o1 := (congrArg (et_pl · 2) (he o1 (puc_ne hu0 k_o1))).trans f2_o1
  have f3_o1 := (congrArg (et_pl · 3) (he o1 (puc_ne hu0 k_o1))).trans f3_o1
  have f4_o1 := (congrArg (et_pl · 4) (he o1 (puc_ne hu0 k_o1))).trans f4_o1
  have f5_o1 := (congrArg (et_pl · 5) (he o1 (puc_ne hu0 k_o1))).trans f5_o1
  have f6_o1 := (congrArg (et_pl · 6) (he o1 (puc_ne hu0 k_o1))).trans f6_o1
  have f7_o1 := (congrArg (et_pl · 7) (he o1 (puc_ne hu0 k_o1))).trans f7_o1
  have f8_o1 := (congrArg (et_pl · 8) (he o1 (puc_ne hu0 k_o1))).trans f8_o1
  have f9_o1 := (congrArg (et_pl · 9) (he o1 (puc_ne hu0 k_o1))).trans f9_o1
  have f10_o1 := (congrArg (et_pl · 10) (he o1 (puc_ne hu0 k_o1))).trans f10_o1
  have fl := (congrArg (et_pl · 1) (he o2 (puc_ne hu0 k_o2))).trans fl
  have fba := (congrArg (et_pl · 5) (he o2 (puc_ne hu0 k_o2))).trans fba
  have fna := (congrArg (et_pl · 6) (he o2 (puc_ne hu0 k_o2))).trans fna
  have Qa_o0 := Qa_o0.he hu0 he e2
  have Qb_o0 := Qb_o0.he hu0 he e2
  have Qc_o0 := Qc_o0.he hu0 he e2
  have Qa_o1 := Qa_o1.he hu0 he e2
  have Qb_o1 := Qb_o1.he hu0 he e2
  have Qc_o1 := Qc_o1.he hu0 he e2
  have S_o4 := S_o4.he hu0 he
  refine hs_aload (i := 0) (p := 65) (by decide +kernel) rfl ?_
  refine hs_k (x := (-1)) (p := 66) (by decide +kernel) ?_
  have hu0 := hu
  refine hs_puti (ci := 10) (f := 7) (ty := .int) (v := .int (-1)) (p := 69) (by decide +kernel) hu (Nat.le_of_ble_eq_true rfl) rfl (fun G66 hu he e2 => ?_)
  have hu : puc _ _ a (.inr (10, [.ref o0, .ref o1, .int 0, .ref o2, .ref o3, .ref o4, .int (-1), .int (-1), .null, .null, .int 0, .null])) := hu
  have hq := hq.pt he e2
  have e0_o0 := (congrArg (et_pl · 0) (he ea_o0 (puc_ne hu0 k_ea_o0))).trans e0_o0
  have e1_o0 := (congrArg (et_pl · 1) (he ea_o0 (puc_ne hu0 k_ea_o0))).trans e1_o0
  have e2_o0 := (congrArg (et_pl · 2) (he ea_o0 (puc_ne hu0 k_ea_o0))).trans e2_o0
  have f0_o0 := (congrArg (et_pl · 0) (he o0 (puc_ne hu0 k_o0))).trans f0_o0
  have f1_o0 := (congrArg (et_pl · 1) (he o0 (puc_ne hu0 k_o0))).trans f1_o0
  have f2_o0 := (congrArg (et_pl · 2) (he o0 (puc_ne hu0 k_o0))).trans f2_o0
  have f3_o0 := (congrArg (et_pl · 3) (he o0 (puc_ne hu0 k_o0))).trans f3_o0
  have f4_o0 := (congrArg (et_pl · 4) (he o0 (puc_ne hu0 k_o0))).trans f4_o0
  have f5_o0 := (congrArg (et_pl · 5) (he o0 (puc_ne hu0 k_o0))).trans f5_o0
  have f6_o0 := (congrArg (et_pl · 6) (he o0 (puc_ne hu0 k_o0))).trans f6_o0
  have f7_o0 := (congrArg (et_pl · 7) (he o0 (puc_ne hu0 k_o0))).trans f7_o0
  have f8_o0 := (congrArg (et_pl · 8) (he o0 (puc_ne hu0 k_o0))).trans f8_o0
  have f9_o0 := (congrArg (et_pl · 9) (he o0 (puc_ne hu0 k_o0))).trans f9_o0
  have f10_o0 := (congrArg (et_pl · 10) (he o0 (puc_ne hu0 k_o0))).trans f10_o0
  have e0_o1 := (congrArg (et_pl · 0) (he ea_o1 (puc_ne hu0 k_ea_o1))).trans e0_o1
  have e1_o1 := (congrArg (et_pl · 1) (he ea_o1 (puc_ne hu0 k_ea_o1))).trans e1_o1
  have e2_o1 := (congrArg (et_pl · 2) (he ea_o1 (puc_ne hu0 k_ea_o1))).trans e2_o1
  have f0_o1 := (congrArg (et_pl · 0) (he o1 (puc_ne hu0 k_o1))).trans f0_o1
  have f1_o1 := (congrArg (et_pl · 1) (he o1 (puc_ne hu0 k_o1))).trans f1_o1
  have f2_o1 := (congrArg (et_pl · 2) (he o1 (puc_ne hu0 k_o1))).trans f2_o1
  have f3_o1 := (congrArg (et_pl · 3) (he o1 (puc_ne hu0 k_o1))).trans f3_o1
  have f4_o1 := (congrArg (et_pl · 4) (he o1 (puc_ne hu0 k_o1))).trans f4_o1
  have f5_o1 := (congrArg (et_pl · 5) (he o1 (puc_ne hu0 k_o1))).trans f5_o1
  have f6_o1 := (congrArg (et_pl · 6) (he o1 (puc_ne hu0 k_o1))).trans f6_o1
  have f7_o1 := (congrArg (et_pl · 7) (he o1 (puc_ne hu0 k_o1))).trans f7_o1
  have f8_o1 := (congrArg (et_pl · 8) (he o1 (puc_ne hu0 k_o1))).trans f8_o1
  have f9_o1 := (congrArg (et_pl · 9) (he o1 (puc_ne hu0 k_o1))).trans f9_o1
  have f10_o1 := (congrArg (et_pl · 10) (he o1 (puc_ne hu0 k_o1))).trans f10_o1
  have fl := (congrArg (et_pl · 1) (he o2 (puc_ne hu0 k_o2))).trans fl
  have fba := (congrArg (et_pl · 5) (he o2 (puc_ne hu0 k_o2))).trans fba
  have fna := (congrArg (et_pl · 6) (he o2 (puc_ne hu0 k_o2))).trans fna
  have Qa_o0 := Qa_o0.he hu0 he e2
  have Qb_o0 := Qb_o0.he hu0 he e2
  have Qc_o0 := Qc_o0.he hu0 he e2
  have Qa_o1 := Qa_o1.he hu0 he e2
  have Qb_o1 := Qb_o1.he hu0 he e2
  have Qc_o1 := Qc_o1.he hu0 he e2
  have S_o4 := S_o4.he hu0 he
  refine hs_aload (i := 0) (p := 70) (by decide +kernel) rfl ?_
  have hHo := hu.1
  refine ht_newV (ci := 1) (n := 8) (fs := [.int 0, .null, .null, .null, .int 0, .int 0, .int 0, .int 0]) (p := 73) (by decide +kernel) (by omega) (by omega) (by decide +kernel) (by decide +kernel) hu.1 (fun G70 o5 ho hge hlt he => ?_)
  have hgo_o5 := Nat.le_trans hq.1 hge
  have hlo_Qa_o0_o5 : Ca_o0 < o5 := Nat.lt_of_lt_of_le Qa_o0.2.1.2.2.2 hge
  have hlo_Qb_o0_o5 : Cb_o0 < o5 := Nat.lt_of_lt_of_le Qb_o0.2.1.2.2.2 hge
  have hlo_Qc_o0_o5 : Cc_o0 < o5 := Nat.lt_of_lt_of_le Qc_o0.2.1.2.2.2 hge
  have hlo_Qa_o1_o5 : Ca_o1 < o5 := Nat.lt_of_lt_of_le Qa_o1.2.1.2.2.2 hge
  have hlo_Qb_o1_o5 : Cb_o1 < o5 := Nat.lt_of_lt_of_le Qb_o1.2.1.2.2.2 hge
  have hlo_Qc_o1_o5 : Cc_o1 < o5 := Nat.lt_of_lt_of_le Qc_o1.2.1.2.2.2 hge
  refine hs_dup1 (p := 74) (by decide +kernel) ?_
  refine hs_callp (mi := 31) (na := 0) (lk := 1) (lm := 1) (L0 := eg_en (eg_mL 31) [.ref o5]) (by decide +kernel) rfl rfl rfl rfl rfl (by rw [show eg_mL 31 = 1 from by decide +kernel]; first | done | rfl) ?_
  refine (pi_eye5 ho (by omega)).mono (fun u hZ => pi_cb hZ (fun K74 G74 hq2 hH k_o5 hP => ?_))
  have hk := pk_of hq2 hge hlt he
  have hu := hk.un hH hu
  have hq := hq.mo hk
  have e0_o0 := hk.fl hHo k_ea_o0 e0_o0
  have e1_o0 := hk.fl hHo k_ea_o0 e1_o0
  have e2_o0 := hk.fl hHo k_ea_o0 e2_o0
  have f0_o0 := hk.fl hHo k_o0 f0_o0
  have f1_o0 := hk.fl hHo k_o0 f1_o0
  have f2_o0 := hk.fl hHo k_o0 f2_o0
  have f3_o0 := hk.fl hHo k_o0 f3_o0
  have f4_o0 := hk.fl hHo k_o0 f4_o0
  have f5_o0 := hk.fl hHo k_o0 f5_o0
  have f6_o0 := hk.fl hHo k_o0 f6_o0
  have f7_o0 := hk.fl hHo k_o0 f7_o0
  have f8_o0 := hk.fl hHo k_o0 f8_o0
  have f9_o0 := hk.fl hHo k_o0 f9_o0
  have f10_o0 := hk.fl hHo k_o0 f10_o0
  have e0_o1 := hk.fl hHo k_ea_o1 e0_o1
  have e1_o1 := hk.fl hHo k_ea_o1 e1_o1
  have e2_o1 := hk.fl hHo k_ea_o1 e2_o1
  have f0_o1 := hk.fl hHo k_o1 f0_o1
  have f1_o1 := hk.fl hHo k_o1 f1_o1
  have f2_o1 := hk.fl hHo k_o1 f2_o1
  have f3_o1 := hk.fl hHo k_o1 f3_o1
  have f4_o1 := hk.fl hHo k_o1 f4_o1
  have f5_o1 := hk.fl hHo k_o1 f5_o1
  have f6_o1 := hk.fl hHo k_o1 f6_o1
  have f7_o1 := hk.fl hHo k_o1 f7_o1
  have f8_o1 := hk.fl hHo k_o1 f8_o1
  have f9_o1 := hk.fl hHo k_o1 f9_o1
  have f10_o1 := hk.fl hHo k_o1 f10_o1
  have fl := hk.fl hHo k_o2 fl
  have fba := hk.fl hHo k_o2 fba
  have fna := hk.fl hHo k_o2 fna
  have Qa_o0 := Qa_o0.pk hHo hk
  have Qb_o0 := Qb_o0.pk hHo hk
  have Qc_o0 := Qc_o0.pk hHo hk
  have Qa_o1 := Qa_o1.pk hHo hk
  have Qb_o1 := Qb_o1.pk hHo hk
  have Qc_o1 := Qc_o1.pk hHo hk
  have S_o4 := S_o4.pk hHo hk
  have k_o0 := hk.ty hHo k_o0
  have k_ra_o0 := hk.ty hHo k_ra_o0
  have k_ca_o0 := hk.ty hHo k_ca_o0
  have k_la_o0 := hk.ty hHo k_la_o0
  have k_ya_o0 := hk.ty hHo k_ya_o0
  have k_ta_o0 := hk.ty hHo k_ta_o0
  have k_ea_o0 := hk.ty hHo k_ea_o0
  have k_o1 := hk.ty hHo k_o1
  have k_ra_o1 := hk.ty hHo k_ra_o1
  have k_ca_o1 := hk.ty hHo k_ca_o1
  have k_la_o1 := hk.ty hHo k_la_o1
  have k_ya_o1 := hk.ty hHo k_ya_o1
  have k_ta_o1 := hk.ty hHo k_ta_o1
  have k_ea_o1 := hk.ty hHo k_ea_o1
  have k_o2 := hk.ty hHo k_o2
  have k_o3 := hk.ty hHo k_o3
  have k_o4 := hk.ty hHo k_o4
  obtain ⟨A_o5, B_o5, C_o5, Q_o5, hlA_o5⟩ := hP
  show et_go none _ 115 77 _ [.ref o5, .ref a] _ 75 5043 _
  have hu0 := hu
  refine hs_puti (ci := 10) (f := 8) (ty := .object "KnobEye$Eye") (v := .ref o5) (p := 80) (by decide +kernel) hu (Nat.le_of_ble_eq_true rfl) rfl (fun G77 hu he e2 => ?_)
  have hu : puc _ _ a (.inr (10, [.ref o0, .ref o1, .int 0, .ref o2, .ref o3, .ref o4, .int (-1), .int (-1), .ref o5, .null, .int 0, .null])) := hu
  have hq := hq.pt he e2
  have e0_o0 := (congrArg (et_pl · 0) (he ea_o0 (puc_ne hu0 k_ea_o0))).trans e0_o0
  have e1_o0 := (congrArg (et_pl · 1) (he ea_o0 (puc_ne hu0 k_ea_o0))).trans e1_o0
  have e2_o0 := (congrArg (et_pl · 2) (he ea_o0 (puc_ne hu0 k_ea_o0))).trans e2_o0
  have f0_o0 := (congrArg (et_pl · 0) (he o0 (puc_ne hu0 k_o0))).trans f0_o0
  have f1_o0 := (congrArg (et_pl · 1) (he o0 (puc_ne hu0 k_o0))).trans f1_o0
  have f2_o0 := (congrArg (et_pl · 2) (he o0 (puc_ne hu0 k_o0))).trans f2_o0
  have f3_o0 := (congrArg (et_pl · 3) (he o0 (puc_ne hu0 k_o0))).trans f3_o0
  have f4_o0 := (congrArg (et_pl · 4) (he o0 (puc_ne hu0 k_o0))).trans f4_o0
  have f5_o0 := (congrArg (et_pl · 5) (he o0 (puc_ne hu0 k_o0))).trans f5_o0
  have f6_o0 := (congrArg (et_pl · 6) (he o0 (puc_ne hu0 k_o0))).trans f6_o0
  have f7_o0 := (congrArg (et_pl · 7) (he o0 (puc_ne hu0 k_o0))).trans f7_o0
  have f8_o0 := (congrArg (et_pl · 8) (he o0 (puc_ne hu0 k_o0))).trans f8_o0
  have f9_o0 := (congrArg (et_pl · 9) (he o0 (puc_ne hu0 k_o0))).trans f9_o0
  have f10_o0 := (congrArg (et_pl · 10) (he o0 (puc_ne hu0 k_o0))).trans f10_o0
  have e0_o1 := (congrArg (et_pl · 0) (he ea_o1 (puc_ne hu0 k_ea_o1))).trans e0_o1
  have e1_o1 := (congrArg (et_pl · 1) (he ea_o1 (puc_ne hu0 k_ea_o1))).trans e1_o1
  have e2_o1 := (congrArg (et_pl · 2) (he ea_o1 (puc_ne hu0 k_ea_o1))).trans e2_o1
  have f0_o1 := (congrArg (et_pl · 0) (he o1 (puc_ne hu0 k_o1))).trans f0_o1
  have f1_o1 := (congrArg (et_pl · 1) (he o1 (puc_ne hu0 k_o1))).trans f1_o1
  have f2_o1 := (congrArg (et_pl · 2) (he o1 (puc_ne hu0 k_o1))).trans f2_o1
  have f3_o1 := (congrArg (et_pl · 3) (he o1 (puc_ne hu0 k_o1))).trans f3_o1
  have f4_o1 := (congrArg (et_pl · 4) (he o1 (puc_ne hu0 k_o1))).trans f4_o1
  have f5_o1 := (congrArg (et_pl · 5) (he o1 (puc_ne hu0 k_o1))).trans f5_o1
  have f6_o1 := (congrArg (et_pl · 6) (he o1 (puc_ne hu0 k_o1))).trans f6_o1
  have f7_o1 := (congrArg (et_pl · 7) (he o1 (puc_ne hu0 k_o1))).trans f7_o1
  have f8_o1 := (congrArg (et_pl · 8) (he o1 (puc_ne hu0 k_o1))).trans f8_o1
  have f9_o1 := (congrArg (et_pl · 9) (he o1 (puc_ne hu0 k_o1))).trans f9_o1
  have f10_o1 := (congrArg (et_pl · 10) (he o1 (puc_ne hu0 k_o1))).trans f10_o1
  have fl := (congrArg (et_pl · 1) (he o2 (puc_ne hu0 k_o2))).trans fl
  have fba := (congrArg (et_pl · 5) (he o2 (puc_ne hu0 k_o2))).trans fba
  have fna := (congrArg (et_pl · 6) (he o2 (puc_ne hu0 k_o2))).trans fna
  have Qa_o0 := Qa_o0.he hu0 he e2
  have Qb_o0 := Qb_o0.he hu0 he e2
  have Qc_o0 := Qc_o0.he hu0 he e2
  have Qa_o1 := Qa_o1.he hu0 he e2
  have Qb_o1 := Qb_o1.he hu0 he e2
  have Qc_o1 := Qc_o1.he hu0 he e2
  have Q_o5 := Q_o5.he hu0 he e2
  have S_o4 := S_o4.he hu0 he
  refine hs_aload (i := 0) (p := 81) (by decide +kernel) rfl ?_
  refine hs_k (x := Int32.ofNat 5) (p := 82) (by decide +kernel) ?_
  have hHo := hu.1
  refine ht_nb (t := 32) (n := 5) (kd := 0) (p := 84) (by decide +kernel) rfl (by decide +kernel) ⟨by decide +kernel, by decide +kernel, by decide +kernel⟩ (by omega) (by omega) hu.1 (fun K82 G82 b82 hk hH k_b82 hg_b82 hz_b82 => ?_)
  have hg_b82 := Nat.le_trans hq.1 hg_b82
  have hu := hk.un hH hu
  have hq := hq.mo hk
  have e0_o0 := hk.fl hHo k_ea_o0 e0_o0
  have e1_o0 := hk.fl hHo k_ea_o0 e1_o0
  have e2_o0 := hk.fl hHo k_ea_o0 e2_o0
  have f0_o0 := hk.fl hHo k_o0 f0_o0
  have f1_o0 := hk.fl hHo k_o0 f1_o0
  have f2_o0 := hk.fl hHo k_o0 f2_o0
  have f3_o0 := hk.fl hHo k_o0 f3_o0
  have f4_o0 := hk.fl hHo k_o0 f4_o0
  have f5_o0 := hk.fl hHo k_o0 f5_o0
  have f6_o0 := hk.fl hHo k_o0 f6_o0
  have f7_o0 := hk.fl hHo k_o0 f7_o0
  have f8_o0 := hk.fl hHo k_o0 f8_o0
  have f9_o0 := hk.fl hHo k_o0 f9_o0
  have f10_o0 := hk.fl hHo k_o0 f10_o0
  have e0_o1 := hk.fl hHo k_ea_o1 e0_o1
  have e1_o1 := hk.fl hHo k_ea_o1 e1_o1
  have e2_o1 := hk.fl hHo k_ea_o1 e2_o1
  have f0_o1 := hk.fl hHo k_o1 f0_o1
  have f1_o1 := hk.fl hHo k_o1 f1_o1
  have f2_o1 := hk.fl hHo k_o1 f2_o1
  have f3_o1 := hk.fl hHo k_o1 f3_o1
  have f4_o1 := hk.fl hHo k_o1 f4_o1
  have f5_o1 := hk.fl hHo k_o1 f5_o1
  have f6_o1 := hk.fl hHo k_o1 f6_o1
  have f7_o1 := hk.fl hHo k_o1 f7_o1
  have f8_o1 := hk.fl hHo k_o1 f8_o1
  have f9_o1 := hk.fl hHo k_o1 f9_o1
  have f10_o1 := hk.fl hHo k_o1 f10_o1
  have fl := hk.fl hHo k_o2 fl
  have fba := hk.fl hHo k_o2 fba
  have fna := hk.fl hHo k_o2 fna
  have Qa_o0 := Qa_o0.pk hHo hk
  have Qb_o0 := Qb_o0.pk hHo hk
  have Qc_o0 := Qc_o0.pk hHo hk
  have Qa_o1 := Qa_o1.pk hHo hk
  have Qb_o1 := Qb_o1.pk hHo hk
  have Qc_o1 := Qc_o1.pk hHo hk
  have Q_o5 := Q_o5.pk hHo hk
  have S_o4 := S_o4.pk hHo hk
  have k_o0 := hk.ty hHo k_o0
  have k_ra_o0 := hk.ty hHo k_ra_o0
  have k_ca_o0 := hk.ty hHo k_ca_o0
  have k_la_o0 := hk.ty hHo k_la_o0
  have k_ya_o0 := hk.ty hHo k_ya_o0
  have k_ta_o0 := hk.ty hHo k_ta_o0
  have k_ea_o0 := hk.ty hHo k_ea_o0
  have k_o1 := hk.ty hHo k_o1
  have k_ra_o1 := hk.ty hHo k_ra_o1
  have k_ca_o1 := hk.ty hHo k_ca_o1
  have k_la_o1 := hk.ty hHo k_la_o1
  have k_ya_o1 := hk.ty hHo k_ya_o1
  have k_ta_o1 := hk.ty hHo k_ta_o1
  have k_ea_o1 := hk.ty hHo k_ea_o1
  have k_o2 := hk.ty hHo k_o2
  have k_o3 := hk.ty hHo k_o3
  have k_o4 := hk.ty hHo k_o4
  have k_o5 := hk.ty hHo k_o5
  have hu0 := hu
  refine hs_puti (ci := 10) (f := 9) (ty := .array .int) (v := .ref b82) (p := 87) (by decide +kernel) hu (Nat.le_of_ble_eq_true rfl) rfl (fun G84 hu he e2 => ?_)
  have hu : puc _ _ a (.inr (10, [.ref o0, .ref o1, .int 0, .ref o2, .ref o3, .ref o4, .int (-1), .int (-1), .ref o5, .ref b82, .int 0, .null])) := hu
  have hq := hq.pt he e2
  have e0_o0 := (congrArg (et_pl · 0) (he ea_o0 (puc_ne hu0 k_ea_o0))).trans e0_o0
  have e1_o0 := (congrArg (et_pl · 1) (he ea_o0 (puc_ne hu0 k_ea_o0))).trans e1_o0
  have e2_o0 := (congrArg (et_pl · 2) (he ea_o0 (puc_ne hu0 k_ea_o0))).trans e2_o0
  have f0_o0 := (congrArg (et_pl · 0) (he o0 (puc_ne hu0 k_o0))).trans f0_o0
  have f1_o0 := (congrArg (et_pl · 1) (he o0 (puc_ne hu0 k_o0))).trans f1_o0
  have f2_o0 := (congrArg (et_pl · 2) (he o0 (puc_ne hu0 k_o0))).trans f2_o0
  have f3_o0 := (congrArg (et_pl · 3) (he o0 (puc_ne hu0 k_o0))).trans f3_o0
  have f4_o0 := (congrArg (et_pl · 4) (he o0 (puc_ne hu0 k_o0))).trans f4_o0
  have f5_o0 := (congrArg (et_pl · 5) (he o0 (puc_ne hu0 k_o0))).trans f5_o0
  have f6_o0 := (congrArg (et_pl · 6) (he o0 (puc_ne hu0 k_o0))).trans f6_o0
  have f7_o0 := (congrArg (et_pl · 7) (he o0 (puc_ne hu0 k_o0))).trans f7_o0
  have f8_o0 := (congrArg (et_pl · 8) (he o0 (puc_ne hu0 k_o0))).trans f8_o0
  have f9_o0 := (congrArg (et_pl · 9) (he o0 (puc_ne hu0 k_o0))).trans f9_o0
  have f10_o0 := (congrArg (et_pl · 10) (he o0 (puc_ne hu0 k_o0))).trans f10_o0
  have e0_o1 := (congrArg (et_pl · 0) (he ea_o1 (puc_ne hu0 k_ea_o1))).trans e0_o1
  have e1_o1 := (congrArg (et_pl · 1) (he ea_o1 (puc_ne hu0 k_ea_o1))).trans e1_o1
  have e2_o1 := (congrArg (et_pl · 2) (he ea_o1 (puc_ne hu0 k_ea_o1))).trans e2_o1
  have f0_o1 := (congrArg (et_pl · 0) (he o1 (puc_ne hu0 k_o1))).trans f0_o1
  have f1_o1 := (congrArg (et_pl · 1) (he o1 (puc_ne hu0 k_o1))).trans f1_o1
  have f2_o1 := (congrArg (et_pl · 2) (he o1 (puc_ne hu0 k_o1))).trans f2_o1
  have f3_o1 := (congrArg (et_pl · 3) (he o1 (puc_ne hu0 k_o1))).trans f3_o1
  have f4_o1 := (congrArg (et_pl · 4) (he o1 (puc_ne hu0 k_o1))).trans f4_o1
  have f5_o1 := (congrArg (et_pl · 5) (he o1 (puc_ne hu0 k_o1))).trans f5_o1
  have f6_o1 := (congrArg (et_pl · 6) (he o1 (puc_ne hu0 k_o1))).trans f6_o1
  have f7_o1 := (congrArg (et_pl · 7) (he o1 (puc_ne hu0 k_o1))).trans f7_o1
  have f8_o1 := (congrArg (et_pl · 8) (he o1 (puc_ne hu0 k_o1))).trans f8_o1
  have f9_o1 := (congrArg (et_pl · 9) (he o1 (puc_ne hu0 k_o1))).trans f9_o1
  have f10_o1 := (congrArg (et_pl · 10) (he o1 (puc_ne hu0 k_o1))).trans f10_o1
  have fl := (congrArg (et_pl · 1) (he o2 (puc_ne hu0 k_o2))).trans fl
  have fba := (congrArg (et_pl · 5) (he o2 (puc_ne hu0 k_o2))).trans fba
  have fna := (congrArg (et_pl · 6) (he o2 (puc_ne hu0 k_o2))).trans fna
  have Qa_o0 := Qa_o0.he hu0 he e2
  have Qb_o0 := Qb_o0.he hu0 he e2
  have Qc_o0 := Qc_o0.he hu0 he e2
  have Qa_o1 := Qa_o1.he hu0 he e2
  have Qb_o1 := Qb_o1.he hu0 he e2
  have Qc_o1 := Qc_o1.he hu0 he e2
  have Q_o5 := Q_o5.he hu0 he e2
  have S_o4 := S_o4.he hu0 he
  refine hs_aload (i := 0) (p := 88) (by decide +kernel) rfl ?_
  have hHo := hu.1
  refine ht_newV (ci := 3) (n := 3) (fs := [.null, .null, .int 0]) (p := 91) (by decide +kernel) (by omega) (by omega) (by decide +kernel) (by decide +kernel) hu.1 (fun G88 o6 ho hge hlt he => ?_)
  refine hs_dup1 (p := 92) (by decide +kernel) ?_
  refine hs_callp (mi := 57) (na := 0) (lk := 1) (lm := 1) (L0 := eg_en (eg_mL 57) [.ref o6]) (by decide +kernel) rfl rfl rfl rfl rfl (by rw [show eg_mL 57 = 1 from by decide +kernel]; first | done | rfl) ?_
  refine (pi_likes ho (by omega)).mono (fun u hZ => pi_cb hZ (fun K92 G92 hq2 hH k_o6 hP => ?_))
  have hk := pk_of hq2 hge hlt he
  have hu := hk.un hH hu
  have hq := hq.mo hk
  have e0_o0 := hk.fl hHo k_ea_o0 e0_o0
  have e1_o0 := hk.fl hHo k_ea_o0 e1_o0
  have e2_o0 := hk.fl hHo k_ea_o0 e2_o0
  have f0_o0 := hk.fl hHo k_o0 f0_o0
  have f1_o0 := hk.fl hHo k_o0 f1_o0
  have f2_o0 := hk.fl hHo k_o0 f2_o0
  have f3_o0 := hk.fl hHo k_o0 f3_o0
  have f4_o0 := hk.fl hHo k_o0 f4_o0
  have f5_o0 := hk.fl hHo k_o0 f5_o0
  have f6_o0 := hk.fl hHo k_o0 f6_o0
  have f7_o0 := hk.fl hHo k_o0 f7_o0
  have f8_o0 := hk.fl hHo k_o0 f8_o0
  have f9_o0 := hk.fl hHo k_o0 f9_o0
  have f10_o0 := hk.fl hHo k_o0 f10_o0
  have e0_o1 := hk.fl hHo k_ea_o1 e0_o1
  have e1_o1 := hk.fl hHo k_ea_o1 e1_o1
  have e2_o1 := hk.fl hHo k_ea_o1 e2_o1
  have f0_o1 := hk.fl hHo k_o1 f0_o1
  have f1_o1 := hk.fl hHo k_o1 f1_o1
  have f2_o1 := hk.fl hHo k_o1 f2_o1
  have f3_o1 := hk.fl hHo k_o1 f3_o1
  have f4_o1 := hk.fl hHo k_o1 f4_o1
  have f5_o1 := hk.fl hHo k_o1 f5_o1
  have f6_o1 := hk.fl hHo k_o1 f6_o1
  have f7_o1 := hk.fl hHo k_o1 f7_o1
  have f8_o1 := hk.fl hHo k_o1 f8_o1
  have f9_o1 := hk.fl hHo k_o1 f9_o1
  have f10_o1 := hk.fl hHo k_o1 f10_o1
  have fl := hk.fl hHo k_o2 fl
  have fba := hk.fl hHo k_o2 fba
  have fna := hk.fl hHo k_o2 fna
  have Qa_o0 := Qa_o0.pk hHo hk
  have Qb_o0 := Qb_o0.pk hHo hk
  have Qc_o0 := Qc_o0.pk hHo hk
  have Qa_o1 := Qa_o1.pk hHo hk
  have Qb_o1 := Qb_o1.pk hHo hk
  have Qc_o1 := Qc_o1.pk hHo hk
  have Q_o5 := Q_o5.pk hHo hk
  have S_o4 := S_o4.pk hHo hk
  have k_o0 := hk.ty hHo k_o0
  have k_ra_o0 := hk.ty hHo k_ra_o0
  have k_ca_o0 := hk.ty hHo k_ca_o0
  have k_la_o0 := hk.ty hHo k_la_o0
  have k_ya_o0 := hk.ty hHo k_ya_o0
  have k_ta_o0 := hk.ty hHo k_ta_o0
  have k_ea_o0 := hk.ty hHo k_ea_o0
  have k_o1 := hk.ty hHo k_o1
  have k_ra_o1 := hk.ty hHo k_ra_o1
  have k_ca_o1 := hk.ty hHo k_ca_o1
  have k_la_o1 := hk.ty hHo k_la_o1
  have k_ya_o1 := hk.ty hHo k_ya_o1
  have k_ta_o1 := hk.ty hHo k_ta_o1
  have k_ea_o1 := hk.ty hHo k_ea_o1
  have k_o2 := hk.ty hHo k_o2
  have k_o3 := hk.ty hHo k_o3
  have k_o4 := hk.ty hHo k_o4
  have k_o5 := hk.ty hHo k_o5
  have k_b82 := hk.ty hHo k_b82
  show et_go none _ 115 95 _ [.ref o6, .ref a] _ 79 136123 _
  have hu0 := hu
  refine hs_puti (ci := 10) (f := 11) (ty := .object "KnobEye$Likes") (v := .ref o6) (p := 98) (by decide +kernel) hu (Nat.le_of_ble_eq_true rfl) rfl (fun G95 hu he e2 => ?_)
  have hu : puc _ _ a (.inr (10, [.ref o0, .ref o1, .int 0, .ref o2, .ref o3, .ref o4, .int (-1), .int (-1), .ref o5, .ref b82, .int 0, .ref o6])) := hu
  have hq := hq.pt he e2
  have e0_o0 := (congrArg (et_pl · 0) (he ea_o0 (puc_ne hu0 k_ea_o0))).trans e0_o0
  have e1_o0 := (congrArg (et_pl · 1) (he ea_o0 (puc_ne hu0 k_ea_o0))).trans e1_o0
  have e2_o0 := (congrArg (et_pl · 2) (he ea_o0 (puc_ne hu0 k_ea_o0))).trans e2_o0
  have f0_o0 := (congrArg (et_pl · 0) (he o0 (puc_ne hu0 k_o0))).trans f0_o0
  have f1_o0 := (congrArg (et_pl · 1) (he o0 (puc_ne hu0 k_o0))).trans f1_o0
  have f2_o0 := (congrArg (et_pl · 2) (he o0 (puc_ne hu0 k_o0))).trans f2_o0
  have f3_o0 := (congrArg (et_pl · 3) (he o0 (puc_ne hu0 k_o0))).trans f3_o0
  have f4_o0 := (congrArg (et_pl · 4) (he o0 (puc_ne hu0 k_o0))).trans f4_o0
  have f5_o0 := (congrArg (et_pl · 5) (he o0 (puc_ne hu0 k_o0))).trans f5_o0
  have f6_o0 := (congrArg (et_pl · 6) (he o0 (puc_ne hu0 k_o0))).trans f6_o0
  have f7_o0 := (congrArg (et_pl · 7) (he o0 (puc_ne hu0 k_o0))).trans f7_o0
  have f8_o0 := (congrArg (et_pl · 8) (he o0 (puc_ne hu0 k_o0))).trans f8_o0
  have f9_o0 := (congrArg (et_pl · 9) (he o0 (puc_ne hu0 k_o0))).trans f9_o0
  have f10_o0 := (congrArg (et_pl · 10) (he o0 (puc_ne hu0 k_o0))).trans f10_o0
  have e0_o1 := (congrArg (et_pl · 0) (he ea_o1 (puc_ne hu0 k_ea_o1))).trans e0_o1
  have e1_o1 := (congrArg (et_pl · 1) (he ea_o1 (puc_ne hu0 k_ea_o1))).trans e1_o1
  have e2_o1 := (congrArg (et_pl · 2) (he ea_o1 (puc_ne hu0 k_ea_o1))).trans e2_o1
  have f0_o1 := (congrArg (et_pl · 0) (he o1 (puc_ne hu0 k_o1))).trans f0_o1
  have f1_o1 := (congrArg (et_pl · 1) (he o1 (puc_ne hu0 k_o1))).trans f1_o1
  have f2_o1 := (congrArg (et_pl · 2) (he o1 (puc_ne hu0 k_o1))).trans f2_o1
  have f3_o1 := (congrArg (et_pl · 3) (he o1 (puc_ne hu0 k_o1))).trans f3_o1
  have f4_o1 := (congrArg (et_pl · 4) (he o1 (puc_ne hu0 k_o1))).trans f4_o1
  have f5_o1 := (congrArg (et_pl · 5) (he o1 (puc_ne hu0 k_o1))).trans f5_o1
  have f6_o1 := (congrArg (et_pl · 6) (he o1 (puc_ne hu0 k_o1))).trans f6_o1
  have f7_o1 := (congrArg (et_pl · 7) (he o1 (puc_ne hu0 k_o1))).trans f7_o1
  have f8_o1 := (congrArg (et_pl · 8) (he o1 (puc_ne hu0 k_o1))).trans f8_o1
  have f9_o1 := (congrArg (et_pl · 9) (he o1 (puc_ne hu0 k_o1))).trans f9_o1
  have f10_o1 := (congrArg (et_pl · 10) (he o1 (puc_ne hu0 k_o1))).trans f10_o1
  have fl := (congrArg (et_pl · 1) (he o2 (puc_ne hu0 k_o2))).trans fl
  have fba := (congrArg (et_pl · 5) (he o2 (puc_ne hu0 k_o2))).trans fba
  have fna := (congrArg (et_pl · 6) (he o2 (puc_ne hu0 k_o2))).trans fna
  have Qa_o0 := Qa_o0.he hu0 he e2
  have Qb_o0 := Qb_o0.he hu0 he e2
  have Qc_o0 := Qc_o0.he hu0 he e2
  have Qa_o1 := Qa_o1.he hu0 he e2
  have Qb_o1 := Qb_o1.he hu0 he e2
  have Qc_o1 := Qc_o1.he hu0 he e2
  have Q_o5 := Q_o5.he hu0 he e2
  have S_o4 := S_o4.he hu0 he
  obtain ⟨hHt, kt⟩ := puc_typ (t := 12) hu (by decide) rfl ⟨_, rfl, rfl, fun k p hk => by
      match k, hk with
      | 0, hk => cases hk; exact ⟨_, rfl, .inr (.inr ⟨by decide, _, rfl, k_o0⟩)⟩
      | 1, hk => cases hk; exact ⟨_, rfl, .inr (.inr ⟨by decide, _, rfl, k_o1⟩)⟩
      | 2, hk => cases hk; exact ⟨_, rfl, .inr ⟨_, rfl, by decide, by decide⟩⟩
      | 3, hk => cases hk; exact ⟨_, rfl, .inr (.inr ⟨by decide, _, rfl, k_o2⟩)⟩
      | 4, hk => cases hk; exact ⟨_, rfl, .inr (.inr ⟨by decide, _, rfl, k_o3⟩)⟩
      | 5, hk => cases hk; exact ⟨_, rfl, .inr (.inr ⟨by decide, _, rfl, k_o4⟩)⟩
      | 6, hk => cases hk; exact ⟨_, rfl, .inr ⟨_, rfl, by decide, by decide⟩⟩
      | 7, hk => cases hk; exact ⟨_, rfl, .inr ⟨_, rfl, by decide, by decide⟩⟩
      | 8, hk => cases hk; exact ⟨_, rfl, .inr (.inr ⟨by decide, _, rfl, k_o5⟩)⟩
      | 9, hk => cases hk; exact ⟨_, rfl, .inr (.inr ⟨by decide, _, rfl, k_b82⟩)⟩
      | 10, hk => cases hk; exact ⟨_, rfl, .inr ⟨_, rfl, by decide, by decide⟩⟩
      | 11, hk => cases hk; exact ⟨_, rfl, .inr (.inr ⟨by decide, _, rfl, k_o6⟩)⟩
      | n + 12, hk => cases hk⟩ ⟨fun h => absurd h (by decide), fun h => absurd h (by decide)⟩
  refine hs_vret (by decide +kernel) ?_
  exact ⟨_, hq.ty (.inl rfl), hHt, kt, rfl, rfl, rfl, ⟨⟨⟨⟨o2, by rw [hu.2.2.2.2]; rfl, et_kn_k hu k_o2, fl, ba, na, fba, fna, hbn⟩, o0, o1, ra_o0, ca_o0, ra_o1, ca_o1, kt, ⟨by rw [hu.2.2.2.2]; rfl, by rw [hu.2.2.2.2]; rfl⟩, ⟨hne0, hnr, hnc⟩, ⟨⟨⟨et_kn_k hu k_o0, et_kn_k hu k_ra_o0, et_kn_k hu k_ca_o0⟩, ⟨f1_o0, f10_o0⟩, ⟨f0_o0, f5_o0, f9_o0⟩⟩, f2_o0, f7_o0⟩, ⟨⟨⟨et_kn_k hu k_o1, et_kn_k hu k_ra_o1, et_kn_k hu k_ca_o1⟩, ⟨f1_o1, f10_o1⟩, ⟨f0_o1, f5_o1, f9_o1⟩⟩, f2_o1, f7_o1⟩, la_o0, ya_o0, la_o1, ya_o1, ta_o0, ta_o1, ⟨f3_o0, f4_o0, f3_o1, f4_o1⟩, ⟨et_kn_k hu k_la_o0, et_kn_k hu k_ya_o0, et_kn_k hu k_la_o1, et_kn_k hu k_ya_o1⟩, ⟨hnl, hny⟩, ⟨f8_o0, f8_o1, et_kn_k hu k_ta_o0, et_kn_k hu k_ta_o1, hnt⟩, ez_mk ⟨et_kn_k hu k_ea_o0, et_kn_k hu k_ea_o1⟩ ⟨f6_o0, f6_o1, by rw [hu.2.2.2.2]; rfl⟩ ⟨e0_o0, e1_o0, e2_o0⟩ ⟨e0_o1, e1_o1, e2_o1⟩ ⟨Qa_o0.kn hu, Qb_o0.kn hu, Qc_o0.kn hu⟩ ⟨Qa_o1.kn hu, Qb_o1.kn hu, Qc_o1.kn hu⟩ (Q_o5.kn hu) ⟨ho1_o0, ho2_o0, Nat.lt_of_lt_of_le hlo_Qc_o0_o1 hla, ho1_o1, ho2_o1, hlo_Qc_o1_o5⟩⟩, by rw [hu.2.2.2.2]; rfl⟩, o4, by rw [hu.2.2.2.2]; rfl, S_o4.kn hu, by rw [hu.2.2.2.2]; rfl, by rw [hu.2.2.2.2]; rfl⟩⟩
end ZTB
