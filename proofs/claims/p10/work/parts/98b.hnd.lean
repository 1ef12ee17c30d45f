/-! BY HAND: Reader.wordHere -/
theorem hs_aretN {d k pc ck sk : Nat} {L : eg_Ls} {G : eg_G} {Z : eg_O → Prop} {cn : String} (hc : eg_cd k pc = some (.areturn, 1) ∧ eg_mr k = some (.object cn)) (h : Z (.inl (some .null), G, ck, sk)) : et_go none d k pc L [.null] G ck sk Z := by
  refine et_goR (u := (.inl (some .null), G, ck, sk)) (fun q => ?_) h
  unfold eg_one
  rw [hc.1]
  dsimp only
  rw [hc.2]
  rfl
theorem hs_nul {d k pc ck sk p : Nat} {L : eg_Ls} {st : List Value} {G : eg_G} {Z : eg_O → Prop} (hc : hs_o k pc = some (.aconst_null, p)) (h : et_go none d k p L (.null :: st) G ck sk Z) : et_go none d k pc L st G ck sk Z := by
  obtain ⟨e, rfl⟩ := hs_oc hc
  exact hs_st e rfl rfl h
def hq_here : et_Co := (79, [.inr (.inr (0, 7)), .inl (et_mn, et_mx)], [], [(.inl (some (.inr (.inr (1, 0)))), 0, 0)], 1)
section RWH
variable {w : et_Wd} {d rd : Nat} {kd : Int32}
theorem hc_here : et_cv et_TT hq_here := by
  intro w as d2 hH hd hl hv
  obtain ⟨v, v1, rfl⟩ := hi_len2 (show as.length = 2 from hl)
  obtain ⟨rd, rfl, k_rd⟩ := hi_ref (hv 0 _ _ rfl rfl)
  obtain ⟨kd, rfl, -, -⟩ := hi_int (hv 1 _ _ rfl rfl)
  rw [show eg_mL 79 = 2 from by decide +kernel]
  show et_go none d2 79 0 [some (.ref rd), some (.int kd)] [] w.2.2 0 0 (hi_Z et_TT w [] [(.inl (some (.inr (.inr (1, 0)))), 0, 0)])
  refine hs_aload (i := 0) (p := 1) (by decide +kernel) rfl ?_
  refine ht_getn (T := et_TT) (t := 7) (ci := 5) (f := 8) (p := 4) (by decide +kernel) rfl rfl hH k_rd (fun c1 h1 e1 => ?_)
  refine hs_aload (i := 0) (p := 5) (by decide +kernel) rfl ?_
  refine ht_getn (T := et_TT) (t := 7) (ci := 5) (f := 7) (p := 8) (by decide +kernel) rfl rfl hH k_rd (fun c5 h5 e5 => ?_)
  refine hs_br2n (c := .ge) (t := 51) (f := 11) (by decide +kernel) (by omega) (by omega) (fun (c8 : c5 ≤ c1) => ?_) (fun (c8 : ¬ (c5 ≤ c1)) => ?_)
  · refine hs_nul (p := 52) (by decide +kernel) ?_
    refine hs_aretN (cn := "KnobEye$Word") (by decide +kernel) ?_
    exact ⟨_, List.mem_cons_self, _, et_ex.rf, et_fr.rf, hH, ⟨_, rfl, .inl ⟨by decide, rfl⟩⟩, Nat.le_refl _, Nat.le_refl _⟩
  · refine hs_aload (i := 0) (p := 12) (by decide +kernel) rfl ?_
    refine ht_getr (T := et_TT) (t := 7) (ci := 5) (f := 4) (p := 15) (by decide +kernel) rfl rfl hH k_rd (fun a12 k_a12 e12 => ?_)
    refine hs_aload (i := 0) (p := 16) (by decide +kernel) rfl ?_
    refine ht_getn (T := et_TT) (t := 7) (ci := 5) (f := 8) (p := 19) (by decide +kernel) rfl rfl hH k_rd (fun c16 h16 e16 => ?_)
    have q16 : c16 = c1 := hb_cc e16 e1 (by omega) (by omega)
    refine ht_aald (T := et_TT) (t := 41) (N := 401) (kd := 9) (m := 400) (p := 20) (by decide +kernel) rfl rfl hH k_a12 (by omega) (by omega) (by decide) (fun v19 h19 e19 => ?_)
    rcases hi_q h19 with rfl | ⟨a19, rfl, k_a19⟩
    · refine hs_ifnull0 (p := 51) (by decide +kernel) ?_
      refine hs_nul (p := 52) (by decide +kernel) ?_
      refine hs_aretN (cn := "KnobEye$Word") (by decide +kernel) ?_
      exact ⟨_, List.mem_cons_self, _, et_ex.rf, et_fr.rf, hH, ⟨_, rfl, .inl ⟨by decide, rfl⟩⟩, Nat.le_refl _, Nat.le_refl _⟩
    · refine hs_ifnull1 (p := 23) (by decide +kernel) ?_
      refine hs_aload (i := 0) (p := 24) (by decide +kernel) rfl ?_
      refine ht_getr (T := et_TT) (t := 7) (ci := 5) (f := 4) (p := 27) (by decide +kernel) rfl rfl hH k_rd (fun a24 k_a24 e24 => ?_)
      refine hs_aload (i := 0) (p := 28) (by decide +kernel) rfl ?_
      refine ht_getn (T := et_TT) (t := 7) (ci := 5) (f := 8) (p := 31) (by decide +kernel) rfl rfl hH k_rd (fun c28 h28 e28 => ?_)
      have q28 : c28 = c1 := hb_cc e28 e1 (by omega) (by omega)
      refine ht_aald (T := et_TT) (t := 41) (N := 401) (kd := 9) (m := 400) (p := 32) (by decide +kernel) rfl rfl hH k_a24 (by omega) (by omega) (by decide) (fun v31 h31 e31 => ?_)
      have q24 : a24 = a12 := Value.ref.inj (Option.some.inj (e24.symm.trans e12))
      have q28 : c28 = c16 := hb_cc e28 e16 (by omega) (by omega)
      rw [q24, q28] at e31
      obtain rfl : v31 = .ref a19 := Option.some.inj (e31.symm.trans e19)
      refine ht_getn (T := et_TT) (t := 0) (ci := 12) (f := 3) (p := 35) (by decide +kernel) rfl rfl hH k_a19 (fun c32 h32 e32 => ?_)
      refine hs_iload (i := 1) (p := 36) (by decide +kernel) rfl ?_
      refine hs_br2 (c := .ne) (t := 51) (f := 39) (by decide +kernel) (fun (c36 : ¬ Int32.ofNat c32 = kd) => ?_) (fun (c36 : ¬ (¬ Int32.ofNat c32 = kd)) => ?_)
      · refine hs_nul (p := 52) (by decide +kernel) ?_
        refine hs_aretN (cn := "KnobEye$Word") (by decide +kernel) ?_
        exact ⟨_, List.mem_cons_self, _, et_ex.rf, et_fr.rf, hH, ⟨_, rfl, .inl ⟨by decide, rfl⟩⟩, Nat.le_refl _, Nat.le_refl _⟩
      · refine hs_aload (i := 0) (p := 40) (by decide +kernel) rfl ?_
        refine ht_getr (T := et_TT) (t := 7) (ci := 5) (f := 4) (p := 43) (by decide +kernel) rfl rfl hH k_rd (fun a40 k_a40 e40 => ?_)
        refine hs_aload (i := 0) (p := 44) (by decide +kernel) rfl ?_
        refine ht_getn (T := et_TT) (t := 7) (ci := 5) (f := 8) (p := 47) (by decide +kernel) rfl rfl hH k_rd (fun c44 h44 e44 => ?_)
        have q44 : c44 = c1 := hb_cc e44 e1 (by omega) (by omega)
        refine ht_aald (T := et_TT) (t := 41) (N := 401) (kd := 9) (m := 400) (p := 48) (by decide +kernel) rfl rfl hH k_a40 (by omega) (by omega) (by decide) (fun v47 h47 e47 => ?_)
        rcases hi_q h47 with rfl | ⟨a47, rfl, k_a47⟩
        · refine hs_goto (p := 52) (by decide +kernel) ?_
          refine hs_aretN (cn := "KnobEye$Word") (by decide +kernel) ?_
          exact ⟨_, List.mem_cons_self, _, et_ex.rf, et_fr.rf, hH, ⟨_, rfl, .inl ⟨by decide, rfl⟩⟩, Nat.le_refl _, Nat.le_refl _⟩
        · refine hs_goto (p := 52) (by decide +kernel) ?_
          refine hs_aret (cn := "KnobEye$Word") (by decide +kernel) ?_
          exact ⟨_, List.mem_cons_self, _, et_ex.rf, et_fr.rf, hH, ⟨_, rfl, .inr ⟨by decide, _, rfl, k_a47⟩⟩, Nat.le_refl _, Nat.le_refl _⟩
end RWH
