section
/-! CLAIMS: what they say now, the reference -/
theorem tg_ex9 {K : et_K} {G : eg_G} {a i : Nat} (hH : et_H et_TT K G) (k : K a = some 24) (hi : i < 2) : ∃ y : Int32, et_pl (eg_at G a) i = some (.int y) := by
  obtain ⟨f, e, -, -⟩ := hi_arr hH k rfl (by decide) (.inr (.inr (.inl rfl)))
  exact ⟨f i, by rw [e, hf_pl (.inr (.inr (.inl rfl))), if_pos hi]⟩
theorem bpJ_b {nc l q : Nat} {P : Nat → Nat → Bool} : ∀ d, d ≤ nc → bpJ nc P l d = some q → q < 20 * l + nc
  | 0, _, h => by cases h
  | d + 1, hd, h => by
    have h : (if P l (nc - (d + 1)) = true then some (20 * l + (nc - (d + 1))) else bpJ nc P l d) = some q := h
    by_cases hp : P l (nc - (d + 1)) = true
    · rw [if_pos hp] at h
      have e := Option.some.inj h
      omega
    · rw [if_neg hp] at h
      exact bpJ_b d (by omega) h
theorem bpO_b {nc q : Nat} {P : Nat → Nat → Bool} (hn : nc ≤ 20) : ∀ d, d ≤ nc → bpO nc P d = some q → q < 400
  | 0, _, h => by cases h
  | d + 1, hd, h => by
    have h : (match bpJ nc P (nc - (d + 1)) d with
      | none => bpO nc P d
      | some q => some q) = some q := h
    cases hj : bpJ nc P (nc - (d + 1)) d with
    | none =>
      rw [hj] at h
      exact bpO_b hn d (by omega) h
    | some q9 =>
      rw [hj] at h
      have e := Option.some.inj h
      have h9 := bpJ_b d (by omega) hj
      omega
theorem bp_01 {v : evT} {X : Nat → Int32} {Y : Nat → Nat} {nc : Nat} (hn : nc ≤ 20) : bpV v X Y nc < 0 ↔ bpV v X Y nc = (-1) := by
  unfold bpV
  cases h : bpO nc (bpP v X Y) nc with
  | none => exact ⟨fun _ => rfl, fun _ => by show (-1 : Int32) < 0; decide⟩
  | some q =>
    have hq := bpO_b hn nc (Nat.le_refl nc) h
    show Int32.ofNat q < 0 ↔ Int32.ofNat q = (-1)
    refine ⟨fun h2 => ?_, fun h2 => ?_⟩
    · have h2 := Int32.lt_iff_toInt_lt.mp h2
      rw [hs_nint (by omega)] at h2
      have h3 : (0 : Int32).toInt = 0 := rfl
      omega
    · exact absurd h2 (xi_nm1 (by omega))
theorem ce_er {f : sp_E → Bool} {FA TG : Nat → Int32} {li : Int32} (h : cl02 f) : ∃ E : sp_E, erR FA TG li 2 E ∧ f E = f (cE (FA 0) (FA 1) (FA 2) (FA 3) (FA 4) (decide (¬ TG 0 = 0))) := by
  refine ⟨(fun w => if w = 15 then (FA 0).toInt64 else if w = 16 then (FA 1).toInt64 else if w = 17 then (FA 2).toInt64 else if w = 18 then (FA 3).toInt64 else (FA 4).toInt64, (fun w => if w = 14 then decide (¬ TG 0 = 0) else decide (¬ TG 1 = 0), fun v => decide ((li >>> (Int32.ofNat v &&& 31)) &&& Int32.ofNat 1 = Int32.ofNat 1))), ⟨fun o ho => ?_, fun o ho => ?_, fun v => rfl⟩, ?_⟩
  · rcases (show o = 0 ∨ o = 1 ∨ o = 2 ∨ o = 3 ∨ o = 4 by omega) with rfl | rfl | rfl | rfl | rfl <;> rfl
  · rcases (show o = 0 ∨ o = 1 by omega) with rfl | rfl <;> rfl
  · refine h _ _ (fun w w1 w2 => ?_) (fun w w1 w2 => ?_) trivial
    · rfl
    · obtain rfl : w = 14 := by omega
      rfl
section BAA
variable {K : et_K} {G : eg_G} {d d2 am aw fa tg n r rc ec nc c k m cc ck sk : Nat} {v : evT} {V : Nat → evT} {X : Nat → Int32} {Y : Nat → Nat} {g : Nat → sp_E → Bool} {f : sp_E → Bool} {x z9 : Int32} {x5 : Option Value}
theorem fn_ihL (hH : et_H et_TT K G) (k_am : K am = some 13) (k_aw : K aw = some 46) (k_fa : K fa = some 14) (k_tg : K tg = some 24) (m1 : et_pl (eg_at G am) 1 = some (.ref aw)) (m14 : et_pl (eg_at G am) 14 = some (.ref fa)) (m15 : et_pl (eg_at G am) 15 = some (.ref tg)) (hn : n < 3) (ho : evo v) (hv : evm G aw n v) (w3 : et_pl (eg_at G aw) 3 = some (.int (Int32.ofNat nc))) (hnc : nc ≤ 20) (hcr : crP G aw nc X Y) (hc6 : c < 6) (hT : txP G aw (126 + 841 * (8 + c)) 2 f) (hcl2 : cl02 f) (g0 : et_pl (eg_at G fa) 0 = some (.int (Int32.ofNat (rtE v X Y nc)))) (g1 : et_pl (eg_at G fa) 1 = some (.int (Int32.ofNat nc))) (g2 : et_pl (eg_at G fa) 2 = some (.int z9)) (g3 : et_pl (eg_at G fa) 3 = some (.int v.2.2.2.2.2.1)) (g4 : et_pl (eg_at G fa) 4 = some (.int (knI v.2.2.2.1 m))) (hm : m ≤ v.1) : et_go none (d + 9) 292 91 [some (.ref am), some (.int (Int32.ofNat c)), some (.int (Int32.ofNat n)), some (.int (Int32.ofNat r)), some (.int z9), some (.int (Int32.ofNat m))] [] G ck sk (fun u => u.1 = .inl (some (.int (Int32.ofNat (if (f (cE (Int32.ofNat (rtE v X Y nc)) (Int32.ofNat nc) z9 v.2.2.2.2.2.1 (knI v.2.2.2.1 v.1) (decide (¬ bpV v X Y nc = (-1))))) = true then 1 else 0))))) := by
  have hw6 := ho.1.1
  induction hq9 : v.1 - m using Nat.strongRecOn generalizing m G with
  | _ q9 ih =>
    have lt_am := (hH.2.2 _ _ k_am).1
    have lt_aw := (hH.2.2 _ _ k_aw).1
    have lt_fa := (hH.2.2 _ _ k_fa).1
    have lt_tg := (hH.2.2 _ _ k_tg).1
    refine hs_iload (i := 5) (p := 93) (by decide +kernel) rfl ?_
    refine hs_aload (i := 0) (p := 94) (by decide +kernel) rfl ?_
    refine hs_iload (i := 2) (p := 95) (by decide +kernel) rfl ?_
    refine ht_callv (T := et_TT) (t := 13) (mi := 224) (na := 1) (ci := 11) (lk := 6) (lm := 2) (L0 := eg_en (eg_mL 224) [.ref am, .int (Int32.ofNat n)]) (by decide +kernel) rfl hH k_am rfl rfl rfl rfl rfl (by rw [show eg_mL 224 = 2 from by decide +kernel]; first | done | rfl) ?_
    refine (fn_wires hH k_am k_aw m1 hn hv.1 (by omega)).mono (fun u hu => xp_cb hu ?_)
    show et_go none _ 292 98 _ [.int (Int32.ofNat v.1), .int (Int32.ofNat m)] _ _ _ _
    refine hs_br2n (c := .ge) (t := 126) (f := 101) (by decide +kernel) (by omega) (by omega) (fun (c98 : v.1 ≤ m) => ?_) (fun (c98 : ¬ (v.1 ≤ m)) => ?_)
    · refine hs_aload (i := 0) (p := 127) (by decide +kernel) rfl ?_
      refine hf_get (T := et_TT) (t := 13) (ci := 11) (f := 15) (p := 130) (by decide +kernel) rfl hH k_am m15 ?_
      refine hs_k (x := Int32.ofNat 0) (p := 131) (by decide +kernel) ?_
      refine hs_aload (i := 0) (p := 132) (by decide +kernel) rfl ?_
      refine hs_iload (i := 2) (p := 133) (by decide +kernel) rfl ?_
      refine ht_callv (T := et_TT) (t := 13) (mi := 263) (na := 1) (ci := 11) (lk := 6) (lm := 4) (L0 := eg_en (eg_mL 263) [.ref am, .int (Int32.ofNat n)]) (by decide +kernel) rfl hH k_am rfl rfl rfl rfl rfl (by rw [show eg_mL 263 = 4 from by decide +kernel]; first | done | rfl) ?_
      refine (fn_bp hH k_am k_aw m1 hn ho hv w3 hnc hcr (by omega)).mono (fun u hu => xp_cb hu ?_)
      show et_go none _ 292 136 _ [.int (bpV v X Y nc), .int (Int32.ofNat 0), .ref tg] _ _ _ _
      refine hs_br1 (c := .lt) (t := 143) (f := 139) (by decide +kernel) (fun (c136 : (bpV v X Y nc) < 0) => ?_) (fun (c136 : ¬ ((bpV v X Y nc) < 0)) => ?_)
      · refine hs_k (x := Int32.ofNat 0) (p := 144) (by decide +kernel) ?_
        refine hf_zst (T := et_TT) (t := 24) (N := 2) (p := 145) (by decide +kernel) rfl rfl (show vp_nar .boolean (Int32.ofNat 0) = Int32.ofNat 0 from by decide +kernel) hH k_tg (by omega) (by decide) (fun q9 hs9 _ _ => by rw [List.mem_singleton] at hs9; subst hs9; exact hi_nv (by decide) (by decide)) (fun G144 hH x144 e144 => ?_)
        have hv : evm G144 aw n v := hv.mv ho (fun j _ => x144.2 aw _ lt_aw (fun h => hi_ne k_aw k_tg (by decide) h.1))
        have hcr : crP G144 aw nc X Y := fun k hk => ⟨(x144.2 aw _ lt_aw (fun h => hi_ne k_aw k_tg (by decide) h.1)).trans (hcr k hk).1, (x144.2 aw _ lt_aw (fun h => hi_ne k_aw k_tg (by decide) h.1)).trans (hcr k hk).2.1, (hcr k hk).2.2⟩
        have w3 := (x144.2 aw 3 lt_aw (fun h => hi_ne k_aw k_tg (by decide) h.1)).trans w3
        have hT := hT.xs lt_aw x144 (fun j h => hi_ne k_aw k_tg (by decide) h.1)
        have m1 := (x144.2 am 1 lt_am (fun h => (hi_ne k_am k_tg (by decide)) h.1)).trans m1
        have m14 := (x144.2 am 14 lt_am (fun h => (hi_ne k_am k_tg (by decide)) h.1)).trans m14
        have m15 := (x144.2 am 15 lt_am (fun h => (hi_ne k_am k_tg (by decide)) h.1)).trans m15
        have g0 := (x144.2 fa 0 lt_fa (fun h => (hi_ne k_fa k_tg (by decide)) h.1)).trans g0
        have g1 := (x144.2 fa 1 lt_fa (fun h => (hi_ne k_fa k_tg (by decide)) h.1)).trans g1
        have g2 := (x144.2 fa 2 lt_fa (fun h => (hi_ne k_fa k_tg (by decide)) h.1)).trans g2
        have g3 := (x144.2 fa 3 lt_fa (fun h => (hi_ne k_fa k_tg (by decide)) h.1)).trans g3
        have g4 := (x144.2 fa 4 lt_fa (fun h => (hi_ne k_fa k_tg (by decide)) h.1)).trans g4
        have lt_am := Nat.lt_of_lt_of_le lt_am x144.1
        have lt_aw := Nat.lt_of_lt_of_le lt_aw x144.1
        have lt_fa := Nat.lt_of_lt_of_le lt_fa x144.1
        have lt_tg := Nat.lt_of_lt_of_le lt_tg x144.1
        refine hs_aload (i := 0) (p := 146) (by decide +kernel) rfl ?_
        refine hs_k (x := Int32.ofNat 8) (p := 148) (by decide +kernel) ?_
        refine hs_iload (i := 1) (p := 149) (by decide +kernel) rfl ?_
        refine hs_iaddn (p := 150) (by decide +kernel) ?_
        refine hs_k (x := Int32.ofNat 0) (p := 151) (by decide +kernel) ?_
        obtain rfl : m = v.1 := by omega
        obtain ⟨y1, ht1⟩ := tg_ex9 (i := 1) hH k_tg (by decide)
        obtain ⟨li, h16, -⟩ := hf_iv (f := 16) hH k_am rfl rfl
        have hfa : ∀ o, o ≤ 4 → et_pl (eg_at G144 fa) o = some (.int ((fun o => if o = 0 then Int32.ofNat (rtE v X Y nc) else if o = 1 then Int32.ofNat nc else if o = 2 then z9 else if o = 3 then v.2.2.2.2.2.1 else knI v.2.2.2.1 v.1) o)) := fun o ho9 => by
          rcases (show o = 0 ∨ o = 1 ∨ o = 2 ∨ o = 3 ∨ o = 4 by omega) with rfl | rfl | rfl | rfl | rfl
          · exact g0
          · exact g1
          · exact g2
          · exact g3
          · exact g4
        have htg : ∀ o, o < 2 → et_pl (eg_at G144 tg) o = some (.int ((fun o => if o = 0 then Int32.ofNat 0 else y1) o)) := fun o ho9 => by
          rcases (show o = 0 ∨ o = 1 by omega) with rfl | rfl
          · exact e144
          · exact ht1
        obtain ⟨E9, hE9, e9⟩ := ce_er (FA := (fun o => if o = 0 then Int32.ofNat (rtE v X Y nc) else if o = 1 then Int32.ofNat nc else if o = 2 then z9 else if o = 3 then v.2.2.2.2.2.1 else knI v.2.2.2.1 v.1)) (TG := (fun o => if o = 0 then Int32.ofNat 0 else y1)) (li := li) hcl2
        have eb : decide (¬ (Int32.ofNat 0 : Int32) = 0) = decide (¬ bpV v X Y nc = (-1)) := decide_eq_decide.mpr ⟨fun h => absurd rfl h, fun h => absurd ((bp_01 hnc).mp c136) h⟩
        have e8 : f E9 = (f (cE (Int32.ofNat (rtE v X Y nc)) (Int32.ofNat nc) z9 v.2.2.2.2.2.1 (knI v.2.2.2.1 v.1) (decide (¬ bpV v X Y nc = (-1))))) := e9.trans (by rw [← eb]; rfl)
        refine ht_callv (T := et_TT) (t := 13) (mi := 216) (na := 2) (ci := 11) (lk := 6) (lm := 13) (L0 := eg_en (eg_mL 216) [.ref am, .int (Int32.ofNat (8 + c)), .int (Int32.ofNat 0)]) (by decide +kernel) rfl hH k_am rfl rfl rfl rfl rfl (by rw [show eg_mL 216 = 13 from by decide +kernel]; first | done | rfl) ?_
        refine (fm_holds hH k_am m1 m14 m15 h16 hfa htg hE9 (by omega) (by omega) hT (by omega)).mono (fun u hu => ?_)
        obtain ⟨u1, u2, u3, u4⟩ := u
        have hu : u1 = .inl (some (.int (Int32.ofNat (if f E9 = true then 1 else 0)))) := hu
        subst hu
        refine hs_cb ?_
        show et_go none _ 292 154 _ [.int (Int32.ofNat (if f E9 = true then 1 else 0))] _ _ _ _
        refine hs_zret (by decide +kernel) (by first | (split; exact .inr rfl; exact .inl rfl) | (split; exact .inl rfl; exact .inr rfl)) ?_
        rw [e8]
      · refine hs_k (x := Int32.ofNat 1) (p := 140) (by decide +kernel) ?_
        refine hs_goto (p := 144) (by decide +kernel) ?_
        refine hf_zst (T := et_TT) (t := 24) (N := 2) (p := 145) (by decide +kernel) rfl rfl (show vp_nar .boolean (Int32.ofNat 1) = Int32.ofNat 1 from by decide +kernel) hH k_tg (by omega) (by decide) (fun q9 hs9 _ _ => by rw [List.mem_singleton] at hs9; subst hs9; exact hi_nv (by decide) (by decide)) (fun G144 hH x144 e144 => ?_)
        have hv : evm G144 aw n v := hv.mv ho (fun j _ => x144.2 aw _ lt_aw (fun h => hi_ne k_aw k_tg (by decide) h.1))
        have hcr : crP G144 aw nc X Y := fun k hk => ⟨(x144.2 aw _ lt_aw (fun h => hi_ne k_aw k_tg (by decide) h.1)).trans (hcr k hk).1, (x144.2 aw _ lt_aw (fun h => hi_ne k_aw k_tg (by decide) h.1)).trans (hcr k hk).2.1, (hcr k hk).2.2⟩
        have w3 := (x144.2 aw 3 lt_aw (fun h => hi_ne k_aw k_tg (by decide) h.1)).trans w3
        have hT := hT.xs lt_aw x144 (fun j h => hi_ne k_aw k_tg (by decide) h.1)
        have m1 := (x144.2 am 1 lt_am (fun h => (hi_ne k_am k_tg (by decide)) h.1)).trans m1
        have m14 := (x144.2 am 14 lt_am (fun h => (hi_ne k_am k_tg (by decide)) h.1)).trans m14
        have m15 := (x144.2 am 15 lt_am (fun h => (hi_ne k_am k_tg (by decide)) h.1)).trans m15
        have g0 := (x144.2 fa 0 lt_fa (fun h => (hi_ne k_fa k_tg (by decide)) h.1)).trans g0
        have g1 := (x144.2 fa 1 lt_fa (fun h => (hi_ne k_fa k_tg (by decide)) h.1)).trans g1
        have g2 := (x144.2 fa 2 lt_fa (fun h => (hi_ne k_fa k_tg (by decide)) h.1)).trans g2
        have g3 := (x144.2 fa 3 lt_fa (fun h => (hi_ne k_fa k_tg (by decide)) h.1)).trans g3
        have g4 := (x144.2 fa 4 lt_fa (fun h => (hi_ne k_fa k_tg (by decide)) h.1)).trans g4
        have lt_am := Nat.lt_of_lt_of_le lt_am x144.1
        have lt_aw := Nat.lt_of_lt_of_le lt_aw x144.1
        have lt_fa := Nat.lt_of_lt_of_le lt_fa x144.1
        have lt_tg := Nat.lt_of_lt_of_le lt_tg x144.1
        refine hs_aload (i := 0) (p := 146) (by decide +kernel) rfl ?_
        refine hs_k (x := Int32.ofNat 8) (p := 148) (by decide +kernel) ?_
        refine hs_iload (i := 1) (p := 149) (by decide +kernel) rfl ?_
        refine hs_iaddn (p := 150) (by decide +kernel) ?_
        refine hs_k (x := Int32.ofNat 0) (p := 151) (by decide +kernel) ?_
        obtain rfl : m = v.1 := by omega
        obtain ⟨y1, ht1⟩ := tg_ex9 (i := 1) hH k_tg (by decide)
        obtain ⟨li, h16, -⟩ := hf_iv (f := 16) hH k_am rfl rfl
        have hfa : ∀ o, o ≤ 4 → et_pl (eg_at G144 fa) o = some (.int ((fun o => if o = 0 then Int32.ofNat (rtE v X Y nc) else if o = 1 then Int32.ofNat nc else if o = 2 then z9 else if o = 3 then v.2.2.2.2.2.1 else knI v.2.2.2.1 v.1) o)) := fun o ho9 => by
          rcases (show o = 0 ∨ o = 1 ∨ o = 2 ∨ o = 3 ∨ o = 4 by omega) with rfl | rfl | rfl | rfl | rfl
          · exact g0
          · exact g1
          · exact g2
          · exact g3
          · exact g4
        have htg : ∀ o, o < 2 → et_pl (eg_at G144 tg) o = some (.int ((fun o => if o = 0 then Int32.ofNat 1 else y1) o)) := fun o ho9 => by
          rcases (show o = 0 ∨ o = 1 by omega) with rfl | rfl
          · exact e144
          · exact ht1
        obtain ⟨E9, hE9, e9⟩ := ce_er (FA := (fun o => if o = 0 then Int32.ofNat (rtE v X Y nc) else if o = 1 then Int32.ofNat nc else if o = 2 then z9 else if o = 3 then v.2.2.2.2.2.1 else knI v.2.2.2.1 v.1)) (TG := (fun o => if o = 0 then Int32.ofNat 1 else y1)) (li := li) hcl2
        have eb : decide (¬ (Int32.ofNat 1 : Int32) = 0) = decide (¬ bpV v X Y nc = (-1)) := decide_eq_decide.mpr ⟨fun h => fun h2 => c136 ((bp_01 hnc).mpr h2), fun h => (by decide)⟩
        have e8 : f E9 = (f (cE (Int32.ofNat (rtE v X Y nc)) (Int32.ofNat nc) z9 v.2.2.2.2.2.1 (knI v.2.2.2.1 v.1) (decide (¬ bpV v X Y nc = (-1))))) := e9.trans (by rw [← eb]; rfl)
        refine ht_callv (T := et_TT) (t := 13) (mi := 216) (na := 2) (ci := 11) (lk := 6) (lm := 13) (L0 := eg_en (eg_mL 216) [.ref am, .int (Int32.ofNat (8 + c)), .int (Int32.ofNat 0)]) (by decide +kernel) rfl hH k_am rfl rfl rfl rfl rfl (by rw [show eg_mL 216 = 13 from by decide +kernel]; first | done | rfl) ?_
        refine (fm_holds hH k_am m1 m14 m15 h16 hfa htg hE9 (by omega) (by omega) hT (by omega)).mono (fun u hu => ?_)
        obtain ⟨u1, u2, u3, u4⟩ := u
        have hu : u1 = .inl (some (.int (Int32.ofNat (if f E9 = true then 1 else 0)))) := hu
        subst hu
        refine hs_cb ?_
        show et_go none _ 292 154 _ [.int (Int32.ofNat (if f E9 = true then 1 else 0))] _ _ _ _
        refine hs_zret (by decide +kernel) (by first | (split; exact .inr rfl; exact .inl rfl) | (split; exact .inl rfl; exact .inr rfl)) ?_
        rw [e8]
    · refine hs_aload (i := 0) (p := 102) (by decide +kernel) rfl ?_
      refine hf_get (T := et_TT) (t := 13) (ci := 11) (f := 14) (p := 105) (by decide +kernel) rfl hH k_am m14 ?_
      refine hs_k (x := Int32.ofNat 4) (p := 106) (by decide +kernel) ?_
      refine hs_dup2 (p := 107) (by decide +kernel) ?_
      refine hf_ald (ins := .iaload) (T := et_TT) (t := 14) (kd := 0) (N := 5) (p := 108) (by decide +kernel) (fun _ _ _ _ _ _ _ _ _ _ => rfl) rfl rfl rfl hH k_fa (by decide) g4 ?_
      refine hs_aload (i := 0) (p := 109) (by decide +kernel) rfl ?_
      refine hs_iload (i := 2) (p := 110) (by decide +kernel) rfl ?_
      refine hs_iload (i := 5) (p := 112) (by decide +kernel) rfl ?_
      refine ht_callv (T := et_TT) (t := 13) (mi := 231) (na := 2) (ci := 11) (lk := 6) (lm := 3) (L0 := eg_en (eg_mL 231) [.ref am, .int (Int32.ofNat n), .int (Int32.ofNat m)]) (by decide +kernel) rfl hH k_am rfl rfl rfl rfl rfl (by rw [show eg_mL 231 = 3 from by decide +kernel]; first | done | rfl) ?_
      refine (fn_knob hH k_am k_aw m1 hn ho.1.1 ho.1.2 hv (by omega) (by omega)).mono (fun u hu => xp_cb hu ?_)
      show et_go none _ 292 115 _ [.int (v.2.2.2.1 m), .int (knI v.2.2.2.1 m), .int (Int32.ofNat 4), .ref fa] _ _ _ _
      refine hs_math (mi := 309) (lk := 6) (p := 118) (by decide +kernel) rfl rfl rfl rfl ?_
      refine hs_iadd (p := 119) (by decide +kernel) ?_
      refine hf_ist (T := et_TT) (t := 14) (N := 5) (p := 120) (by decide +kernel) rfl rfl (by decide) hH k_fa (by omega) (by decide) (fun s hs => absurd hs List.not_mem_nil) (fun G119 hH x119 e119 => ?_)
      have hv : evm G119 aw n v := hv.mv ho (fun j _ => x119.2 aw _ lt_aw (fun h => hi_ne k_aw k_fa (by decide) h.1))
      have hcr : crP G119 aw nc X Y := fun k hk => ⟨(x119.2 aw _ lt_aw (fun h => hi_ne k_aw k_fa (by decide) h.1)).trans (hcr k hk).1, (x119.2 aw _ lt_aw (fun h => hi_ne k_aw k_fa (by decide) h.1)).trans (hcr k hk).2.1, (hcr k hk).2.2⟩
      have w3 := (x119.2 aw 3 lt_aw (fun h => hi_ne k_aw k_fa (by decide) h.1)).trans w3
      have hT := hT.xs lt_aw x119 (fun j h => hi_ne k_aw k_fa (by decide) h.1)
      have m1 := (x119.2 am 1 lt_am (fun h => (hi_ne k_am k_fa (by decide)) h.1)).trans m1
      have m14 := (x119.2 am 14 lt_am (fun h => (hi_ne k_am k_fa (by decide)) h.1)).trans m14
      have m15 := (x119.2 am 15 lt_am (fun h => (hi_ne k_am k_fa (by decide)) h.1)).trans m15
      have g0 := (x119.2 fa 0 lt_fa (fun h => absurd h.2 (by decide))).trans g0
      have g1 := (x119.2 fa 1 lt_fa (fun h => absurd h.2 (by decide))).trans g1
      have g2 := (x119.2 fa 2 lt_fa (fun h => absurd h.2 (by decide))).trans g2
      have g3 := (x119.2 fa 3 lt_fa (fun h => absurd h.2 (by decide))).trans g3
      have lt_am := Nat.lt_of_lt_of_le lt_am x119.1
      have lt_aw := Nat.lt_of_lt_of_le lt_aw x119.1
      have lt_fa := Nat.lt_of_lt_of_le lt_fa x119.1
      have lt_tg := Nat.lt_of_lt_of_le lt_tg x119.1
      refine hs_iinc1 (i := 5) (p := 123) (by decide +kernel) rfl (Nat.le_of_ble_eq_true rfl) ?_
      refine hs_goto (p := 91) (by decide +kernel) ?_
      show et_go none _ 292 91 [some (.ref am), some (.int (Int32.ofNat c)), some (.int (Int32.ofNat n)), some (.int (Int32.ofNat r)), some (.int z9), some (.int (Int32.ofNat (m + 1)))] [] _ _ _ _
      exact ih (v.1 - (m + 1)) (by omega) hH m1 m14 m15 hv w3 hcr hT g0 g1 g2 g3 (show et_pl (eg_at G119 fa) 4 = some (.int (knI v.2.2.2.1 (m + 1))) from e119) (by omega) rfl
theorem fn_ihT (hH : et_H et_TT K G) (k_am : K am = some 13) (k_aw : K aw = some 46) (k_fa : K fa = some 14) (k_tg : K tg = some 24) (m1 : et_pl (eg_at G am) 1 = some (.ref aw)) (m14 : et_pl (eg_at G am) 14 = some (.ref fa)) (m15 : et_pl (eg_at G am) 15 = some (.ref tg)) (hn : n < 3) (ho : evo v) (hv : evm G aw n v) (w3 : et_pl (eg_at G aw) 3 = some (.int (Int32.ofNat nc))) (hnc : nc ≤ 20) (hcr : crP G aw nc X Y) (hc6 : c < 6) (hT : txP G aw (126 + 841 * (8 + c)) 2 f) (hcl2 : cl02 f) : et_go none (d + 9) 292 39 [some (.ref am), some (.int (Int32.ofNat c)), some (.int (Int32.ofNat n)), some (.int (Int32.ofNat r)), some (.int z9), x5] [] G ck sk (fun u => u.1 = .inl (some (.int (Int32.ofNat (if (f (cE (Int32.ofNat (rtE v X Y nc)) (Int32.ofNat nc) z9 v.2.2.2.2.2.1 (knI v.2.2.2.1 v.1) (decide (¬ bpV v X Y nc = (-1))))) = true then 1 else 0))))) := by
  have hw6 := ho.1.1
  have lt_am := (hH.2.2 _ _ k_am).1
  have lt_aw := (hH.2.2 _ _ k_aw).1
  have lt_fa := (hH.2.2 _ _ k_fa).1
  have lt_tg := (hH.2.2 _ _ k_tg).1
  refine hs_aload (i := 0) (p := 40) (by decide +kernel) rfl ?_
  refine hf_get (T := et_TT) (t := 13) (ci := 11) (f := 14) (p := 43) (by decide +kernel) rfl hH k_am m14 ?_
  refine hs_k (x := Int32.ofNat 0) (p := 44) (by decide +kernel) ?_
  refine hs_aload (i := 0) (p := 45) (by decide +kernel) rfl ?_
  refine hs_iload (i := 2) (p := 46) (by decide +kernel) rfl ?_
  refine ht_callv (T := et_TT) (t := 13) (mi := 232) (na := 1) (ci := 11) (lk := 6) (lm := 4) (L0 := eg_en (eg_mL 232) [.ref am, .int (Int32.ofNat n)]) (by decide +kernel) rfl hH k_am rfl rfl rfl rfl rfl (by rw [show eg_mL 232 = 4 from by decide +kernel]; first | done | rfl) ?_
  refine (fn_rt hH k_am k_aw m1 hn ho hv w3 hnc hcr (by omega)).mono (fun u hu => xp_cb hu ?_)
  show et_go none _ 292 49 _ [.int (Int32.ofNat (rtE v X Y nc)), .int (Int32.ofNat 0), .ref fa] _ _ _ _
  refine hf_ist (T := et_TT) (t := 14) (N := 5) (p := 50) (by decide +kernel) rfl rfl (by decide) hH k_fa (by omega) (by decide) (fun s hs => absurd hs List.not_mem_nil) (fun G49 hH x49 e49 => ?_)
  have hv : evm G49 aw n v := hv.mv ho (fun j _ => x49.2 aw _ lt_aw (fun h => hi_ne k_aw k_fa (by decide) h.1))
  have hcr : crP G49 aw nc X Y := fun k hk => ⟨(x49.2 aw _ lt_aw (fun h => hi_ne k_aw k_fa (by decide) h.1)).trans (hcr k hk).1, (x49.2 aw _ lt_aw (fun h => hi_ne k_aw k_fa (by decide) h.1)).trans (hcr k hk).2.1, (hcr k hk).2.2⟩
  have w3 := (x49.2 aw 3 lt_aw (fun h => hi_ne k_aw k_fa (by decide) h.1)).trans w3
  have hT := hT.xs lt_aw x49 (fun j h => hi_ne k_aw k_fa (by decide) h.1)
  have m1 := (x49.2 am 1 lt_am (fun h => (hi_ne k_am k_fa (by decide)) h.1)).trans m1
  have m14 := (x49.2 am 14 lt_am (fun h => (hi_ne k_am k_fa (by decide)) h.1)).trans m14
  have m15 := (x49.2 am 15 lt_am (fun h => (hi_ne k_am k_fa (by decide)) h.1)).trans m15
  have lt_am := Nat.lt_of_lt_of_le lt_am x49.1
  have lt_aw := Nat.lt_of_lt_of_le lt_aw x49.1
  have lt_fa := Nat.lt_of_lt_of_le lt_fa x49.1
  have lt_tg := Nat.lt_of_lt_of_le lt_tg x49.1
  refine hs_aload (i := 0) (p := 51) (by decide +kernel) rfl ?_
  refine hf_get (T := et_TT) (t := 13) (ci := 11) (f := 14) (p := 54) (by decide +kernel) rfl hH k_am m14 ?_
  refine hs_k (x := Int32.ofNat 1) (p := 55) (by decide +kernel) ?_
  refine hs_aload (i := 0) (p := 56) (by decide +kernel) rfl ?_
  refine ht_callv (T := et_TT) (t := 13) (mi := 218) (na := 0) (ci := 11) (lk := 6) (lm := 1) (L0 := eg_en (eg_mL 218) [.ref am]) (by decide +kernel) rfl hH k_am rfl rfl rfl rfl rfl (by rw [show eg_mL 218 = 1 from by decide +kernel]; first | done | rfl) ?_
  refine (fm_cards hH k_am k_aw m1 w3).mono (fun u hu => xp_cb hu ?_)
  show et_go none _ 292 59 _ [.int (Int32.ofNat nc), .int (Int32.ofNat 1), .ref fa] _ _ _ _
  refine hf_ist (T := et_TT) (t := 14) (N := 5) (p := 60) (by decide +kernel) rfl rfl (by decide) hH k_fa (by omega) (by decide) (fun s hs => absurd hs List.not_mem_nil) (fun G59 hH x59 e59 => ?_)
  have hv : evm G59 aw n v := hv.mv ho (fun j _ => x59.2 aw _ lt_aw (fun h => hi_ne k_aw k_fa (by decide) h.1))
  have hcr : crP G59 aw nc X Y := fun k hk => ⟨(x59.2 aw _ lt_aw (fun h => hi_ne k_aw k_fa (by decide) h.1)).trans (hcr k hk).1, (x59.2 aw _ lt_aw (fun h => hi_ne k_aw k_fa (by decide) h.1)).trans (hcr k hk).2.1, (hcr k hk).2.2⟩
  have w3 := (x59.2 aw 3 lt_aw (fun h => hi_ne k_aw k_fa (by decide) h.1)).trans w3
  have hT := hT.xs lt_aw x59 (fun j h => hi_ne k_aw k_fa (by decide) h.1)
  have m1 := (x59.2 am 1 lt_am (fun h => (hi_ne k_am k_fa (by decide)) h.1)).trans m1
  have m14 := (x59.2 am 14 lt_am (fun h => (hi_ne k_am k_fa (by decide)) h.1)).trans m14
  have m15 := (x59.2 am 15 lt_am (fun h => (hi_ne k_am k_fa (by decide)) h.1)).trans m15
  have e49 := (x59.2 fa 0 lt_fa (fun h => absurd h.2 (by decide))).trans e49
  have lt_am := Nat.lt_of_lt_of_le lt_am x59.1
  have lt_aw := Nat.lt_of_lt_of_le lt_aw x59.1
  have lt_fa := Nat.lt_of_lt_of_le lt_fa x59.1
  have lt_tg := Nat.lt_of_lt_of_le lt_tg x59.1
  refine hs_aload (i := 0) (p := 61) (by decide +kernel) rfl ?_
  refine hf_get (T := et_TT) (t := 13) (ci := 11) (f := 14) (p := 64) (by decide +kernel) rfl hH k_am m14 ?_
  refine hs_k (x := Int32.ofNat 2) (p := 65) (by decide +kernel) ?_
  refine hs_iload (i := 4) (p := 67) (by decide +kernel) rfl ?_
  refine hf_ist (T := et_TT) (t := 14) (N := 5) (p := 68) (by decide +kernel) rfl rfl (by decide) hH k_fa (by omega) (by decide) (fun s hs => absurd hs List.not_mem_nil) (fun G67 hH x67 e67 => ?_)
  have hv : evm G67 aw n v := hv.mv ho (fun j _ => x67.2 aw _ lt_aw (fun h => hi_ne k_aw k_fa (by decide) h.1))
  have hcr : crP G67 aw nc X Y := fun k hk => ⟨(x67.2 aw _ lt_aw (fun h => hi_ne k_aw k_fa (by decide) h.1)).trans (hcr k hk).1, (x67.2 aw _ lt_aw (fun h => hi_ne k_aw k_fa (by decide) h.1)).trans (hcr k hk).2.1, (hcr k hk).2.2⟩
  have w3 := (x67.2 aw 3 lt_aw (fun h => hi_ne k_aw k_fa (by decide) h.1)).trans w3
  have hT := hT.xs lt_aw x67 (fun j h => hi_ne k_aw k_fa (by decide) h.1)
  have m1 := (x67.2 am 1 lt_am (fun h => (hi_ne k_am k_fa (by decide)) h.1)).trans m1
  have m14 := (x67.2 am 14 lt_am (fun h => (hi_ne k_am k_fa (by decide)) h.1)).trans m14
  have m15 := (x67.2 am 15 lt_am (fun h => (hi_ne k_am k_fa (by decide)) h.1)).trans m15
  have e49 := (x67.2 fa 0 lt_fa (fun h => absurd h.2 (by decide))).trans e49
  have e59 := (x67.2 fa 1 lt_fa (fun h => absurd h.2 (by decide))).trans e59
  have lt_am := Nat.lt_of_lt_of_le lt_am x67.1
  have lt_aw := Nat.lt_of_lt_of_le lt_aw x67.1
  have lt_fa := Nat.lt_of_lt_of_le lt_fa x67.1
  have lt_tg := Nat.lt_of_lt_of_le lt_tg x67.1
  refine hs_aload (i := 0) (p := 69) (by decide +kernel) rfl ?_
  refine hf_get (T := et_TT) (t := 13) (ci := 11) (f := 14) (p := 72) (by decide +kernel) rfl hH k_am m14 ?_
  refine hs_k (x := Int32.ofNat 3) (p := 73) (by decide +kernel) ?_
  refine hs_aload (i := 0) (p := 74) (by decide +kernel) rfl ?_
  refine hs_iload (i := 2) (p := 75) (by decide +kernel) rfl ?_
  refine hs_k (x := Int32.ofNat 22) (p := 77) (by decide +kernel) ?_
  refine ht_callv (T := et_TT) (t := 13) (mi := 225) (na := 2) (ci := 11) (lk := 6) (lm := 3) (L0 := eg_en (eg_mL 225) [.ref am, .int (Int32.ofNat n), .int (Int32.ofNat 22)]) (by decide +kernel) rfl hH k_am rfl rfl rfl rfl rfl (by rw [show eg_mL 225 = 3 from by decide +kernel]; first | done | rfl) ?_
  refine (fn_of hH k_am k_aw m1 (by omega) hv.2.2.2.1).mono (fun u hu => xp_cb hu ?_)
  show et_go none _ 292 80 _ [.int v.2.2.2.2.2.1, .int (Int32.ofNat 3), .ref fa] _ _ _ _
  refine hf_ist (T := et_TT) (t := 14) (N := 5) (p := 81) (by decide +kernel) rfl rfl (by decide) hH k_fa (by omega) (by decide) (fun s hs => absurd hs List.not_mem_nil) (fun G80 hH x80 e80 => ?_)
  have hv : evm G80 aw n v := hv.mv ho (fun j _ => x80.2 aw _ lt_aw (fun h => hi_ne k_aw k_fa (by decide) h.1))
  have hcr : crP G80 aw nc X Y := fun k hk => ⟨(x80.2 aw _ lt_aw (fun h => hi_ne k_aw k_fa (by decide) h.1)).trans (hcr k hk).1, (x80.2 aw _ lt_aw (fun h => hi_ne k_aw k_fa (by decide) h.1)).trans (hcr k hk).2.1, (hcr k hk).2.2⟩
  have w3 := (x80.2 aw 3 lt_aw (fun h => hi_ne k_aw k_fa (by decide) h.1)).trans w3
  have hT := hT.xs lt_aw x80 (fun j h => hi_ne k_aw k_fa (by decide) h.1)
  have m1 := (x80.2 am 1 lt_am (fun h => (hi_ne k_am k_fa (by decide)) h.1)).trans m1
  have m14 := (x80.2 am 14 lt_am (fun h => (hi_ne k_am k_fa (by decide)) h.1)).trans m14
  have m15 := (x80.2 am 15 lt_am (fun h => (hi_ne k_am k_fa (by decide)) h.1)).trans m15
  have e49 := (x80.2 fa 0 lt_fa (fun h => absurd h.2 (by decide))).trans e49
  have e59 := (x80.2 fa 1 lt_fa (fun h => absurd h.2 (by decide))).trans e59
  have e67 := (x80.2 fa 2 lt_fa (fun h => absurd h.2 (by decide))).trans e67
  have lt_am := Nat.lt_of_lt_of_le lt_am x80.1
  have lt_aw := Nat.lt_of_lt_of_le lt_aw x80.1
  have lt_fa := Nat.lt_of_lt_of_le lt_fa x80.1
  have lt_tg := Nat.lt_of_lt_of_le lt_tg x80.1
  refine hs_aload (i := 0) (p := 82) (by decide +kernel) rfl ?_
  refine hf_get (T := et_TT) (t := 13) (ci := 11) (f := 14) (p := 85) (by decide +kernel) rfl hH k_am m14 ?_
  refine hs_k (x := Int32.ofNat 4) (p := 86) (by decide +kernel) ?_
  refine hs_k (x := Int32.ofNat 0) (p := 87) (by decide +kernel) ?_
  refine hf_ist (T := et_TT) (t := 14) (N := 5) (p := 88) (by decide +kernel) rfl rfl (by decide) hH k_fa (by omega) (by decide) (fun s hs => absurd hs List.not_mem_nil) (fun G87 hH x87 e87 => ?_)
  have hv : evm G87 aw n v := hv.mv ho (fun j _ => x87.2 aw _ lt_aw (fun h => hi_ne k_aw k_fa (by decide) h.1))
  have hcr : crP G87 aw nc X Y := fun k hk => ⟨(x87.2 aw _ lt_aw (fun h => hi_ne k_aw k_fa (by decide) h.1)).trans (hcr k hk).1, (x87.2 aw _ lt_aw (fun h => hi_ne k_aw k_fa (by decide) h.1)).trans (hcr k hk).2.1, (hcr k hk).2.2⟩
  have w3 := (x87.2 aw 3 lt_aw (fun h => hi_ne k_aw k_fa (by decide) h.1)).trans w3
  have hT := hT.xs lt_aw x87 (fun j h => hi_ne k_aw k_fa (by decide) h.1)
  have m1 := (x87.2 am 1 lt_am (fun h => (hi_ne k_am k_fa (by decide)) h.1)).trans m1
  have m14 := (x87.2 am 14 lt_am (fun h => (hi_ne k_am k_fa (by decide)) h.1)).trans m14
  have m15 := (x87.2 am 15 lt_am (fun h => (hi_ne k_am k_fa (by decide)) h.1)).trans m15
  have e49 := (x87.2 fa 0 lt_fa (fun h => absurd h.2 (by decide))).trans e49
  have e59 := (x87.2 fa 1 lt_fa (fun h => absurd h.2 (by decide))).trans e59
  have e67 := (x87.2 fa 2 lt_fa (fun h => absurd h.2 (by decide))).trans e67
  have e80 := (x87.2 fa 3 lt_fa (fun h => absurd h.2 (by decide))).trans e80
  have lt_am := Nat.lt_of_lt_of_le lt_am x87.1
  have lt_aw := Nat.lt_of_lt_of_le lt_aw x87.1
  have lt_fa := Nat.lt_of_lt_of_le lt_fa x87.1
  have lt_tg := Nat.lt_of_lt_of_le lt_tg x87.1
  refine hs_k (x := Int32.ofNat 0) (p := 89) (by decide +kernel) ?_
  refine hs_istore (i := 5) (p := 91) (by decide +kernel) (Nat.le_of_ble_eq_true rfl) ?_
  exact fn_ihL (m := 0) hH k_am k_aw k_fa k_tg m1 m14 m15 hn ho hv w3 hnc hcr hc6 hT hcl2 e49 e59 e67 e80 e87 (Nat.zero_le _)
end BAA
theorem cc_m1 : ∀ c ∈ List.range 7, (Int32.ofNat c - Int32.ofNat 1).toInt = (c : Int) - 1 := by decide +kernel
section BAB
variable {K : et_K} {G : eg_G} {d d2 am aw fa tg n r rc ec nc c k m cc ck sk : Nat} {v : evT} {V : Nat → evT} {X : Nat → Int32} {Y : Nat → Nat} {g : Nat → sp_E → Bool} {f : sp_E → Bool} {x z9 : Int32} {x5 : Option Value}
theorem fn_ih0 (hH : et_H et_TT K G) (k_am : K am = some 13) (k_aw : K aw = some 46) (m1 : et_pl (eg_at G am) 1 = some (.ref aw)) (w0 : et_pl (eg_at G aw) 0 = some (.int (Int32.ofNat rc))) (hrc : rc ≤ 4) (w4 : et_pl (eg_at G aw) 4 = some (.int (Int32.ofNat ec))) (hec : ec ≤ 3) (hm : zyM G aw ec V) (ho : ∀ n, n < 3 → evo (V n)) (hT : ∀ r, r < rc → txP G aw (126 + 841 * r) 0 (g r) ∧ fcl (g r)) (hky : kyA G am aw rc) (w3 : et_pl (eg_at G aw) 3 = some (.int (Int32.ofNat nc))) (hnc : nc ≤ 20) (hcr : crP G aw nc X Y) (hc6 : c < 6) (hT2 : txP G aw (126 + 841 * (8 + c)) 2 f) (hcl2 : cl02 f) (m0 : et_pl (eg_at G am) 0 = some (.int (Int32.ofNat 0))) (hn : 0 < ec) (hr : r < rc) : et_go none (d + 10) 292 26 [some (.ref am), some (.int (Int32.ofNat c)), some (.int (Int32.ofNat 0)), some (.int (Int32.ofNat r)), none, none] [] G 0 0 (fun u => u.1 = .inl (some (.int (Int32.ofNat (if (clV f (g r) (V 0) X Y nc) = true then 1 else 0))))) := by
  obtain ⟨fa, m14, k_fa⟩ := hf_ref (t := 13) (f := 14) (u := 14) hH k_am rfl rfl (.inr trivial)
  obtain ⟨tg, m15, k_tg⟩ := hf_ref (t := 13) (f := 15) (u := 24) hH k_am rfl rfl (.inr trivial)
  have lt_am := (hH.2.2 _ _ k_am).1
  have lt_aw := (hH.2.2 _ _ k_aw).1
  refine hs_aload (i := 0) (p := 27) (by decide +kernel) rfl ?_
  refine hs_iload (i := 2) (p := 28) (by decide +kernel) rfl ?_
  refine hs_iload (i := 3) (p := 29) (by decide +kernel) rfl ?_
  refine hs_k (x := (-1)) (p := 30) (by decide +kernel) ?_
  refine ht_callv (T := et_TT) (t := 13) (mi := 271) (na := 3) (ci := 11) (lk := 6) (lm := 6) (L0 := eg_en (eg_mL 271) [.ref am, .int (Int32.ofNat 0), .int (Int32.ofNat r), .int (-1)]) (by decide +kernel) rfl hH k_am rfl rfl rfl rfl rfl (by rw [show eg_mL 271 = 6 from by decide +kernel]; first | done | rfl) ?_
  refine ((er_c75 (K, [], G) [.ref am, .int (Int32.ofNat 0), .int (Int32.ofNat r), .int (-1)] _ hH (by show 8 ≤ _; omega) rfl (ht_ac (.inr ⟨by decide, _, rfl, k_am⟩) (ht_ac (hi_iv (by decide) (by decide)) (ht_ac (hi_nv (by omega) (by omega)) (ht_ac (hi_iv (by decide) (by decide)) ht_an))))).and (fn_odO hH k_am k_aw m1 w0 hrc w4 hec hm ho hT hky m0 hn hr (by decide) (by omega))).mono (fun u hu => ?_)
  obtain ⟨⟨es, hes, K9, x9, f9, hH, -, -, -⟩, hz, -, -, hm9⟩ := hu
  obtain ⟨u1, u2, u3, u4⟩ := u
  have hz : u1 = .inl (some (.int (Int32.ofNat (odN (g r) (V 0) (-1) 65536)))) := hz
  subst hz
  have m1 := (f9.2 am 13 k_am 1 (by decide +kernel)).trans m1
  have m14 := (f9.2 am 13 k_am 14 (by decide +kernel)).trans m14
  have m15 := (f9.2 am 13 k_am 15 (by decide +kernel)).trans m15
  have w3 := (f9.2 aw 46 k_aw 3 (by decide +kernel)).trans w3
  have hcr := hcr.fr hnc k_aw f9 (by decide +kernel)
  have hT2 := hT2.mp (fun i hi => f9.2 aw 46 k_aw _ (no_mm (by decide +kernel)))
  have k_am := x9 _ _ k_am
  have k_aw := x9 _ _ k_aw
  have k_fa := x9 _ _ k_fa
  have k_tg := x9 _ _ k_tg
  refine hs_cb ?_
  show et_go none _ 292 33 _ [.int (Int32.ofNat (odN (g r) (V 0) (-1) 65536))] _ _ _ _
  refine hs_k (x := Int32.ofNat 656) (p := 36) (by decide +kernel) ?_
  refine hs_idiv (p := 37) (by decide +kernel) (by decide) ?_
  refine hs_istore (i := 4) (p := 39) (by decide +kernel) (Nat.le_of_ble_eq_true rfl) ?_
  exact fn_ihT (n := 0) (v := V 0) (z9 := unI (g r) (V 0)) hH k_am k_aw k_fa k_tg m1 m14 m15 (by omega) (ho 0 (by omega)) ((hm9 0 (by omega)).1 hn) w3 hnc hcr hc6 hT2 hcl2
theorem fn_ih1 (hH : et_H et_TT K G) (k_am : K am = some 13) (k_aw : K aw = some 46) (m1 : et_pl (eg_at G am) 1 = some (.ref aw)) (w0 : et_pl (eg_at G aw) 0 = some (.int (Int32.ofNat rc))) (hrc : rc ≤ 4) (w4 : et_pl (eg_at G aw) 4 = some (.int (Int32.ofNat ec))) (hec : ec ≤ 3) (hm : zyM G aw ec V) (ho : ∀ n, n < 3 → evo (V n)) (hT : ∀ r, r < rc → txP G aw (126 + 841 * r) 0 (g r) ∧ fcl (g r)) (hky : kyA G am aw rc) (w3 : et_pl (eg_at G aw) 3 = some (.int (Int32.ofNat nc))) (hnc : nc ≤ 20) (hcr : crP G aw nc X Y) (hc6 : c < 6) (hT2 : txP G aw (126 + 841 * (8 + c)) 2 f) (hcl2 : cl02 f) (m0 : et_pl (eg_at G am) 0 = some (.int (Int32.ofNat 0))) (hn : 1 < ec) (hr : r < rc) : et_go none (d + 10) 292 26 [some (.ref am), some (.int (Int32.ofNat c)), some (.int (Int32.ofNat 1)), some (.int (Int32.ofNat r)), none, none] [] G 0 0 (fun u => u.1 = .inl (some (.int (Int32.ofNat (if (clV f (g r) (V 1) X Y nc) = true then 1 else 0))))) := by
  obtain ⟨fa, m14, k_fa⟩ := hf_ref (t := 13) (f := 14) (u := 14) hH k_am rfl rfl (.inr trivial)
  obtain ⟨tg, m15, k_tg⟩ := hf_ref (t := 13) (f := 15) (u := 24) hH k_am rfl rfl (.inr trivial)
  have lt_am := (hH.2.2 _ _ k_am).1
  have lt_aw := (hH.2.2 _ _ k_aw).1
  refine hs_aload (i := 0) (p := 27) (by decide +kernel) rfl ?_
  refine hs_iload (i := 2) (p := 28) (by decide +kernel) rfl ?_
  refine hs_iload (i := 3) (p := 29) (by decide +kernel) rfl ?_
  refine hs_k (x := (-1)) (p := 30) (by decide +kernel) ?_
  refine ht_callv (T := et_TT) (t := 13) (mi := 271) (na := 3) (ci := 11) (lk := 6) (lm := 6) (L0 := eg_en (eg_mL 271) [.ref am, .int (Int32.ofNat 1), .int (Int32.ofNat r), .int (-1)]) (by decide +kernel) rfl hH k_am rfl rfl rfl rfl rfl (by rw [show eg_mL 271 = 6 from by decide +kernel]; first | done | rfl) ?_
  refine ((er_c74 (K, [], G) [.ref am, .int (Int32.ofNat 1), .int (Int32.ofNat r), .int (-1)] _ hH (by show 8 ≤ _; omega) rfl (ht_ac (.inr ⟨by decide, _, rfl, k_am⟩) (ht_ac (hi_iv (by decide) (by decide)) (ht_ac (hi_nv (by omega) (by omega)) (ht_ac (hi_iv (by decide) (by decide)) ht_an))))).and (fn_odO hH k_am k_aw m1 w0 hrc w4 hec hm ho hT hky m0 hn hr (by decide) (by omega))).mono (fun u hu => ?_)
  obtain ⟨⟨es, hes, K9, x9, f9, hH, -, -, -⟩, hz, -, -, hm9⟩ := hu
  obtain ⟨u1, u2, u3, u4⟩ := u
  have hz : u1 = .inl (some (.int (Int32.ofNat (odN (g r) (V 1) (-1) 65536)))) := hz
  subst hz
  have m1 := (f9.2 am 13 k_am 1 (by decide +kernel)).trans m1
  have m14 := (f9.2 am 13 k_am 14 (by decide +kernel)).trans m14
  have m15 := (f9.2 am 13 k_am 15 (by decide +kernel)).trans m15
  have w3 := (f9.2 aw 46 k_aw 3 (by decide +kernel)).trans w3
  have hcr := hcr.fr hnc k_aw f9 (by decide +kernel)
  have hT2 := hT2.mp (fun i hi => f9.2 aw 46 k_aw _ (no_mm (by decide +kernel)))
  have k_am := x9 _ _ k_am
  have k_aw := x9 _ _ k_aw
  have k_fa := x9 _ _ k_fa
  have k_tg := x9 _ _ k_tg
  refine hs_cb ?_
  show et_go none _ 292 33 _ [.int (Int32.ofNat (odN (g r) (V 1) (-1) 65536))] _ _ _ _
  refine hs_k (x := Int32.ofNat 656) (p := 36) (by decide +kernel) ?_
  refine hs_idiv (p := 37) (by decide +kernel) (by decide) ?_
  refine hs_istore (i := 4) (p := 39) (by decide +kernel) (Nat.le_of_ble_eq_true rfl) ?_
  exact fn_ihT (n := 1) (v := V 1) (z9 := unI (g r) (V 1)) hH k_am k_aw k_fa k_tg m1 m14 m15 (by omega) (ho 1 (by omega)) ((hm9 1 (by omega)).1 hn) w3 hnc hcr hc6 hT2 hcl2
theorem fn_ih2 (hH : et_H et_TT K G) (k_am : K am = some 13) (k_aw : K aw = some 46) (m1 : et_pl (eg_at G am) 1 = some (.ref aw)) (w0 : et_pl (eg_at G aw) 0 = some (.int (Int32.ofNat rc))) (hrc : rc ≤ 4) (w4 : et_pl (eg_at G aw) 4 = some (.int (Int32.ofNat ec))) (hec : ec ≤ 3) (hm : zyM G aw ec V) (ho : ∀ n, n < 3 → evo (V n)) (hT : ∀ r, r < rc → txP G aw (126 + 841 * r) 0 (g r) ∧ fcl (g r)) (hky : kyA G am aw rc) (w3 : et_pl (eg_at G aw) 3 = some (.int (Int32.ofNat nc))) (hnc : nc ≤ 20) (hcr : crP G aw nc X Y) (hc6 : c < 6) (hT2 : txP G aw (126 + 841 * (8 + c)) 2 f) (hcl2 : cl02 f) (m0 : et_pl (eg_at G am) 0 = some (.int (Int32.ofNat 0))) (hn : 2 < ec) (hr : r < rc) : et_go none (d + 10) 292 26 [some (.ref am), some (.int (Int32.ofNat c)), some (.int (Int32.ofNat 2)), some (.int (Int32.ofNat r)), none, none] [] G 0 0 (fun u => u.1 = .inl (some (.int (Int32.ofNat (if (clV f (g r) (V 2) X Y nc) = true then 1 else 0))))) := by
  obtain ⟨fa, m14, k_fa⟩ := hf_ref (t := 13) (f := 14) (u := 14) hH k_am rfl rfl (.inr trivial)
  obtain ⟨tg, m15, k_tg⟩ := hf_ref (t := 13) (f := 15) (u := 24) hH k_am rfl rfl (.inr trivial)
  have lt_am := (hH.2.2 _ _ k_am).1
  have lt_aw := (hH.2.2 _ _ k_aw).1
  refine hs_aload (i := 0) (p := 27) (by decide +kernel) rfl ?_
  refine hs_iload (i := 2) (p := 28) (by decide +kernel) rfl ?_
  refine hs_iload (i := 3) (p := 29) (by decide +kernel) rfl ?_
  refine hs_k (x := (-1)) (p := 30) (by decide +kernel) ?_
  refine ht_callv (T := et_TT) (t := 13) (mi := 271) (na := 3) (ci := 11) (lk := 6) (lm := 6) (L0 := eg_en (eg_mL 271) [.ref am, .int (Int32.ofNat 2), .int (Int32.ofNat r), .int (-1)]) (by decide +kernel) rfl hH k_am rfl rfl rfl rfl rfl (by rw [show eg_mL 271 = 6 from by decide +kernel]; first | done | rfl) ?_
  refine ((er_c73 (K, [], G) [.ref am, .int (Int32.ofNat 2), .int (Int32.ofNat r), .int (-1)] _ hH (by show 8 ≤ _; omega) rfl (ht_ac (.inr ⟨by decide, _, rfl, k_am⟩) (ht_ac (hi_iv (by decide) (by decide)) (ht_ac (hi_nv (by omega) (by omega)) (ht_ac (hi_iv (by decide) (by decide)) ht_an))))).and (fn_odO hH k_am k_aw m1 w0 hrc w4 hec hm ho hT hky m0 hn hr (by decide) (by omega))).mono (fun u hu => ?_)
  obtain ⟨⟨es, hes, K9, x9, f9, hH, -, -, -⟩, hz, -, -, hm9⟩ := hu
  obtain ⟨u1, u2, u3, u4⟩ := u
  have hz : u1 = .inl (some (.int (Int32.ofNat (odN (g r) (V 2) (-1) 65536)))) := hz
  subst hz
  have m1 := (f9.2 am 13 k_am 1 (by decide +kernel)).trans m1
  have m14 := (f9.2 am 13 k_am 14 (by decide +kernel)).trans m14
  have m15 := (f9.2 am 13 k_am 15 (by decide +kernel)).trans m15
  have w3 := (f9.2 aw 46 k_aw 3 (by decide +kernel)).trans w3
  have hcr := hcr.fr hnc k_aw f9 (by decide +kernel)
  have hT2 := hT2.mp (fun i hi => f9.2 aw 46 k_aw _ (no_mm (by decide +kernel)))
  have k_am := x9 _ _ k_am
  have k_aw := x9 _ _ k_aw
  have k_fa := x9 _ _ k_fa
  have k_tg := x9 _ _ k_tg
  refine hs_cb ?_
  show et_go none _ 292 33 _ [.int (Int32.ofNat (odN (g r) (V 2) (-1) 65536))] _ _ _ _
  refine hs_k (x := Int32.ofNat 656) (p := 36) (by decide +kernel) ?_
  refine hs_idiv (p := 37) (by decide +kernel) (by decide) ?_
  refine hs_istore (i := 4) (p := 39) (by decide +kernel) (Nat.le_of_ble_eq_true rfl) ?_
  exact fn_ihT (n := 2) (v := V 2) (z9 := unI (g r) (V 2)) hH k_am k_aw k_fa k_tg m1 m14 m15 (by omega) (ho 2 (by omega)) ((hm9 2 (by omega)).1 hn) w3 hnc hcr hc6 hT2 hcl2
theorem fn_ih (hH : et_H et_TT K G) (k_am : K am = some 13) (k_aw : K aw = some 46) (m1 : et_pl (eg_at G am) 1 = some (.ref aw)) (w0 : et_pl (eg_at G aw) 0 = some (.int (Int32.ofNat rc))) (hrc : rc ≤ 4) (w4 : et_pl (eg_at G aw) 4 = some (.int (Int32.ofNat ec))) (hec : ec ≤ 3) (hm : zyM G aw ec V) (ho : ∀ n, n < 3 → evo (V n)) (hT : ∀ r, r < rc → txP G aw (126 + 841 * r) 0 (g r) ∧ fcl (g r)) (hky : kyA G am aw rc) (w3 : et_pl (eg_at G aw) 3 = some (.int (Int32.ofNat nc))) (hnc : nc ≤ 20) (hcr : crP G aw nc X Y) (p1 : et_pl (eg_at G aw) (114 + 2 * c) = some (.int (Int32.ofNat n))) (p2 : et_pl (eg_at G aw) (115 + 2 * c) = some (.int (Int32.ofNat r))) (hc6 : c < 6) (hT2 : txP G aw (126 + 841 * (8 + c)) 2 f) (hcl2 : cl02 f) (m0 : et_pl (eg_at G am) 0 = some (.int (Int32.ofNat 0))) (hn : n < ec) (hr : r < rc) (hd : 10 ≤ d2) : et_go none d2 292 0 (eg_en (eg_mL 292) [.ref am, .int (Int32.ofNat c)]) [] G 0 0 (fun u => u.1 = .inl (some (.int (Int32.ofNat (if (clV f (g r) (V n) X Y nc) = true then 1 else 0))))) := by
  obtain ⟨d, rfl⟩ : ∃ d, d2 = d + 10 := ⟨d2 - 10, by omega⟩
  rw [show eg_mL 292 = 6 from by decide +kernel]
  show et_go none (d + 10) 292 0 [some (.ref am), some (.int (Int32.ofNat c)), none, none, none, none] [] G 0 0 _
  have lt_am := (hH.2.2 _ _ k_am).1
  have lt_aw := (hH.2.2 _ _ k_aw).1
  refine hs_aload (i := 0) (p := 1) (by decide +kernel) rfl ?_
  refine hf_get (T := et_TT) (t := 13) (ci := 11) (f := 1) (p := 4) (by decide +kernel) rfl hH k_am m1 ?_
  refine hs_k (x := Int32.ofNat 114) (p := 6) (by decide +kernel) ?_
  refine hs_k (x := Int32.ofNat 2) (p := 7) (by decide +kernel) ?_
  refine hs_iload (i := 1) (p := 8) (by decide +kernel) rfl ?_
  refine hs_imuln (p := 9) (by decide +kernel) ?_
  refine hs_iaddn (p := 10) (by decide +kernel) ?_
  refine hf_ald (ins := .iaload) (T := et_TT) (t := 46) (kd := 0) (N := 12741) (p := 11) (by decide +kernel) (fun _ _ _ _ _ _ _ _ _ _ => rfl) rfl rfl rfl hH k_aw (by decide) (pl_eq p1 (by omega)) ?_
  refine hs_istore (i := 2) (p := 12) (by decide +kernel) (Nat.le_of_ble_eq_true rfl) ?_
  refine hs_aload (i := 0) (p := 13) (by decide +kernel) rfl ?_
  refine hf_get (T := et_TT) (t := 13) (ci := 11) (f := 1) (p := 16) (by decide +kernel) rfl hH k_am m1 ?_
  refine hs_k (x := Int32.ofNat 114) (p := 18) (by decide +kernel) ?_
  refine hs_k (x := Int32.ofNat 2) (p := 19) (by decide +kernel) ?_
  refine hs_iload (i := 1) (p := 20) (by decide +kernel) rfl ?_
  refine hs_imuln (p := 21) (by decide +kernel) ?_
  refine hs_iaddn (p := 22) (by decide +kernel) ?_
  refine hs_k (x := Int32.ofNat 1) (p := 23) (by decide +kernel) ?_
  refine hs_iaddn (p := 24) (by decide +kernel) ?_
  refine hf_ald (ins := .iaload) (T := et_TT) (t := 46) (kd := 0) (N := 12741) (p := 25) (by decide +kernel) (fun _ _ _ _ _ _ _ _ _ _ => rfl) rfl rfl rfl hH k_aw (by decide) (pl_eq p2 (by omega)) ?_
  refine hs_istore (i := 3) (p := 26) (by decide +kernel) (Nat.le_of_ble_eq_true rfl) ?_
  rcases (show n = 0 ∨ n = 1 ∨ n = 2 by omega) with rfl | rfl | rfl
  · exact fn_ih0 hH k_am k_aw m1 w0 hrc w4 hec hm ho hT hky w3 hnc hcr hc6 hT2 hcl2 m0 hn hr
  · exact fn_ih1 hH k_am k_aw m1 w0 hrc w4 hec hm ho hT hky w3 hnc hcr hc6 hT2 hcl2 m0 hn hr
  · exact fn_ih2 hH k_am k_aw m1 w0 hrc w4 hec hm ho hT hky w3 hnc hcr hc6 hT2 hcl2 m0 hn hr
theorem fn_ho (hH : et_H et_TT K G) (k_am : K am = some 13) (k_aw : K aw = some 46) (m1 : et_pl (eg_at G am) 1 = some (.ref aw)) (w0 : et_pl (eg_at G aw) 0 = some (.int (Int32.ofNat rc))) (hrc : rc ≤ 4) (w4 : et_pl (eg_at G aw) 4 = some (.int (Int32.ofNat ec))) (hec : ec ≤ 3) (hm : zyM G aw ec V) (ho : ∀ n, n < 3 → evo (V n)) (hT : ∀ r, r < rc → txP G aw (126 + 841 * r) 0 (g r) ∧ fcl (g r)) (hky : kyA G am aw rc) (w3 : et_pl (eg_at G aw) 3 = some (.int (Int32.ofNat nc))) (hnc : nc ≤ 20) (hcr : crP G aw nc X Y) (p1 : et_pl (eg_at G aw) (114 + 2 * c) = some (.int (Int32.ofNat n))) (p2 : et_pl (eg_at G aw) (115 + 2 * c) = some (.int (Int32.ofNat r))) (hc6 : c < 6) (hT2 : txP G aw (126 + 841 * (8 + c)) 2 f) (hcl2 : cl02 f) (w2 : et_pl (eg_at G aw) 2 = some (.int (Int32.ofNat cc))) (hcc6 : cc ≤ 6) (hcc : c < cc) (hn : n < ec) (hr : r < rc) (hd : 11 ≤ d2) : et_go none d2 291 0 (eg_en (eg_mL 291) [.ref am, .int (Int32.ofNat c)]) [] G 0 0 (fun u => u.1 = .inl (some (.int (Int32.ofNat (if (clV f (g r) (V n) X Y nc) = true then 1 else 0)))) ∧ et_pl (eg_at u.2.1 am) 0 = some (.int (Int32.ofNat 0))) := by
  obtain ⟨d, rfl⟩ : ∃ d, d2 = d + 11 := ⟨d2 - 11, by omega⟩
  have e1 := cc_m1 cc (List.mem_range.mpr (by omega))
  have e0 : (Int32.ofNat 0).toInt = 0 := rfl
  have ec_ : (Int32.ofNat c).toInt = c := hs_nint (by omega)
  rw [show eg_mL 291 = 2 from by decide +kernel]
  show et_go none (d + 11) 291 0 [some (.ref am), some (.int (Int32.ofNat c))] [] G 0 0 _
  have lt_am := (hH.2.2 _ _ k_am).1
  have lt_aw := (hH.2.2 _ _ k_aw).1
  refine hs_aload (i := 0) (p := 1) (by decide +kernel) rfl ?_
  refine hs_k (x := Int32.ofNat 0) (p := 2) (by decide +kernel) ?_
  have hHo := hH
  refine hf_put (T := et_TT) (t := 13) (ci := 11) (f := 0) (p := 5) (ty := .int) (by decide +kernel) rfl rfl rfl rfl rfl hH k_am hi_any (fun G2 hH x2 e2 => ?_)
  have hT : ∀ r, r < rc → txP G2 aw (126 + 841 * r) 0 (g r) ∧ fcl (g r) := fun r hr => ⟨(hT r hr).1.xs lt_aw x2 (fun j h => hi_ne k_aw k_am (by decide) h.1), (hT r hr).2⟩
  have hky := hky.xs hHo k_am k_aw x2 (fun b j t kb hs => by rw [hs.1, k_am] at kb; cases kb; rw [hs.2]; exact ⟨by decide, by decide, fun _ => ⟨by decide, by decide⟩, fun h => absurd h (by decide)⟩)
  have hT2 := hT2.xs lt_aw x2 (fun j h => hi_ne k_aw k_am (by decide) h.1)
  have p1 := (x2.2 aw _ lt_aw (fun h => hi_ne k_aw k_am (by decide) h.1)).trans p1
  have p2 := (x2.2 aw _ lt_aw (fun h => hi_ne k_aw k_am (by decide) h.1)).trans p2
  have hm := hm.mv ho (fun j _ _ => x2.2 aw j lt_aw (fun h => hi_ne k_aw k_am (by decide) h.1))
  have hcr : crP G2 aw nc X Y := fun k hk => ⟨(x2.2 aw _ lt_aw (fun h => hi_ne k_aw k_am (by decide) h.1)).trans (hcr k hk).1, (x2.2 aw _ lt_aw (fun h => hi_ne k_aw k_am (by decide) h.1)).trans (hcr k hk).2.1, (hcr k hk).2.2⟩
  have w3 := (x2.2 aw 3 lt_aw (fun h => hi_ne k_aw k_am (by decide) h.1)).trans w3
  have m1 := (x2.2 am 1 lt_am (fun h => absurd h.2 (by decide))).trans m1
  have w0 := (x2.2 aw 0 lt_aw (fun h => (hi_ne k_aw k_am (by decide)) h.1)).trans w0
  have w4 := (x2.2 aw 4 lt_aw (fun h => (hi_ne k_aw k_am (by decide)) h.1)).trans w4
  have w2 := (x2.2 aw 2 lt_aw (fun h => (hi_ne k_aw k_am (by decide)) h.1)).trans w2
  have lt_am := Nat.lt_of_lt_of_le lt_am x2.1
  have lt_aw := Nat.lt_of_lt_of_le lt_aw x2.1
  refine hs_aload (i := 0) (p := 6) (by decide +kernel) rfl ?_
  refine hs_iload (i := 1) (p := 7) (by decide +kernel) rfl ?_
  refine hs_k (x := Int32.ofNat 0) (p := 8) (by decide +kernel) ?_
  refine hs_aload (i := 0) (p := 9) (by decide +kernel) rfl ?_
  refine hf_get (T := et_TT) (t := 13) (ci := 11) (f := 1) (p := 12) (by decide +kernel) rfl hH k_am m1 ?_
  refine hs_k (x := Int32.ofNat 2) (p := 13) (by decide +kernel) ?_
  refine hf_ald (ins := .iaload) (T := et_TT) (t := 46) (kd := 0) (N := 12741) (p := 14) (by decide +kernel) (fun _ _ _ _ _ _ _ _ _ _ => rfl) rfl rfl rfl hH k_aw (by decide) w2 ?_
  refine hs_k (x := Int32.ofNat 1) (p := 15) (by decide +kernel) ?_
  refine hs_isub (p := 16) (by decide +kernel) ?_
  refine hs_calls (mi := 209) (na := 3) (lk := 2) (lm := 3) (L0 := eg_en (eg_mL 209) [.int (Int32.ofNat c), .int (Int32.ofNat 0), .int (Int32.ofNat cc - Int32.ofNat 1)]) (by decide +kernel) rfl rfl rfl rfl rfl rfl (by rw [show eg_mL 209 = 3 from by decide +kernel]; first | done | rfl) ?_
  refine (fm_in (x := Int32.ofNat c) (y := Int32.ofNat 0) (z := (Int32.ofNat cc - Int32.ofNat 1))).mono (fun u hu => xp_cb hu ?_)
  by_cases xc : (Int32.ofNat 0).toInt ≤ (Int32.ofNat c).toInt ∧ (Int32.ofNat c).toInt ≤ ((Int32.ofNat cc - Int32.ofNat 1)).toInt
  · rw [if_pos xc]
    show et_go none _ 291 19 _ [.int (Int32.ofNat 1), .ref am] _ _ _ _
    refine hs_if1 (c := .ne) (t := 26) (f := 22) (by decide +kernel) (show ¬ Int32.ofNat 1 = 0 by decide) ?_
    refine hs_k (x := Int32.ofNat 0) (p := 27) (by decide +kernel) ?_
    refine hs_k (x := Int32.ofNat 1) (p := 28) (by decide +kernel) ?_
    refine ht_callv (T := et_TT) (t := 13) (mi := 204) (na := 2) (ci := 11) (lk := 2) (lm := 3) (L0 := eg_en (eg_mL 204) [.ref am, .int (Int32.ofNat 0), .int (Int32.ofNat 1)]) (by decide +kernel) rfl hH k_am rfl rfl rfl rfl rfl (by rw [show eg_mL 204 = 3 from by decide +kernel]; first | done | rfl) ?_
    refine (fm_t0 hH k_am).mono (fun u hu => xp_cb hu ?_)
    show et_go none _ 291 31 _ [.int (Int32.ofNat 0)] _ _ _ _
    refine hs_if0 (c := .ne) (t := 46) (f := 34) (by decide +kernel) (show ¬ (¬ Int32.ofNat 0 = 0) by decide) ?_
    refine hs_aload (i := 0) (p := 35) (by decide +kernel) rfl ?_
    refine hs_iload (i := 1) (p := 36) (by decide +kernel) rfl ?_
    refine ht_callv (T := et_TT) (t := 13) (mi := 292) (na := 1) (ci := 11) (lk := 2) (lm := 6) (L0 := eg_en (eg_mL 292) [.ref am, .int (Int32.ofNat c)]) (by decide +kernel) rfl hH k_am rfl rfl rfl rfl rfl (by rw [show eg_mL 292 = 6 from by decide +kernel]; first | done | rfl) ?_
    refine ((er_c76 (K, [], G2) [.ref am, .int (Int32.ofNat c)] _ hH (by show 10 ≤ _; omega) rfl (ht_ac (.inr ⟨by decide, _, rfl, k_am⟩) (ht_ac (hi_nv (by omega) (by omega)) ht_an))).and (fn_ih hH k_am k_aw m1 w0 hrc w4 hec hm ho hT hky w3 hnc hcr p1 p2 hc6 hT2 hcl2 e2 hn hr (by omega))).mono (fun u hu => ?_)
    obtain ⟨⟨es, hes, K9, x9, f9, hH9, -, -, -⟩, hz⟩ := hu
    obtain ⟨u1, u2, u3, u4⟩ := u
    have hz : u1 = .inl (some (.int (Int32.ofNat (if (clV f (g r) (V n) X Y nc) = true then 1 else 0)))) := hz
    subst hz
    have h00 := (f9.2 am 13 k_am 0 (by decide +kernel)).trans e2
    by_cases hb : (clV f (g r) (V n) X Y nc) = true
    · rw [if_pos hb]
      refine hs_cb ?_
      show et_go none _ 291 39 _ [.int (Int32.ofNat 1)] _ _ _ _
      refine hs_if0 (c := .eq) (t := 46) (f := 42) (by decide +kernel) (show ¬ (Int32.ofNat 1 = 0) by decide) ?_
      refine hs_k (x := Int32.ofNat 1) (p := 43) (by decide +kernel) ?_
      refine hs_goto (p := 47) (by decide +kernel) ?_
      refine hs_zret (by decide +kernel) (.inr rfl) ?_
      exact ⟨rfl, h00⟩
    · rw [if_neg hb]
      refine hs_cb ?_
      show et_go none _ 291 39 _ [.int (Int32.ofNat 0)] _ _ _ _
      refine hs_if1 (c := .eq) (t := 46) (f := 42) (by decide +kernel) (show Int32.ofNat 0 = 0 by decide) ?_
      refine hs_k (x := Int32.ofNat 0) (p := 47) (by decide +kernel) ?_
      refine hs_zret (by decide +kernel) (.inl rfl) ?_
      exact ⟨rfl, h00⟩
  · exact absurd ⟨by rw [e0, ec_]; omega, by rw [ec_, e1]; omega⟩ xc
theorem fn_hoN (hH : et_H et_TT K G) (k_am : K am = some 13) (k_aw : K aw = some 46) (m1 : et_pl (eg_at G am) 1 = some (.ref aw)) (w0 : et_pl (eg_at G aw) 0 = some (.int (Int32.ofNat rc))) (hrc : rc ≤ 4) (w4 : et_pl (eg_at G aw) 4 = some (.int (Int32.ofNat ec))) (hec : ec ≤ 3) (hm : zyM G aw ec V) (ho : ∀ n, n < 3 → evo (V n)) (hT : ∀ r, r < rc → txP G aw (126 + 841 * r) 0 (g r) ∧ fcl (g r)) (hky : kyA G am aw rc) (w3 : et_pl (eg_at G aw) 3 = some (.int (Int32.ofNat nc))) (hnc : nc ≤ 20) (hcr : crP G aw nc X Y) (w2 : et_pl (eg_at G aw) 2 = some (.int (Int32.ofNat cc))) (hcc6 : cc ≤ 6) (hx : ¬ xr x cc) (hd : 3 ≤ d2) : et_go none d2 291 0 (eg_en (eg_mL 291) [.ref am, .int x]) [] G 0 0 (fun u => u.1 = .inl (some (.int (Int32.ofNat 0))) ∧ et_pl (eg_at u.2.1 am) 0 = some (.int (Int32.ofNat 1))) := by
  obtain ⟨d, rfl⟩ : ∃ d, d2 = d + 3 := ⟨d2 - 3, by omega⟩
  have e1 := cc_m1 cc (List.mem_range.mpr (by omega))
  have e0 : (Int32.ofNat 0).toInt = 0 := rfl
  rw [show eg_mL 291 = 2 from by decide +kernel]
  show et_go none (d + 3) 291 0 [some (.ref am), some (.int x)] [] G 0 0 _
  have lt_am := (hH.2.2 _ _ k_am).1
  have lt_aw := (hH.2.2 _ _ k_aw).1
  refine hs_aload (i := 0) (p := 1) (by decide +kernel) rfl ?_
  refine hs_k (x := Int32.ofNat 0) (p := 2) (by decide +kernel) ?_
  have hHo := hH
  refine hf_put (T := et_TT) (t := 13) (ci := 11) (f := 0) (p := 5) (ty := .int) (by decide +kernel) rfl rfl rfl rfl rfl hH k_am hi_any (fun G2 hH x2 e2 => ?_)
  have hT : ∀ r, r < rc → txP G2 aw (126 + 841 * r) 0 (g r) ∧ fcl (g r) := fun r hr => ⟨(hT r hr).1.xs lt_aw x2 (fun j h => hi_ne k_aw k_am (by decide) h.1), (hT r hr).2⟩
  have hky := hky.xs hHo k_am k_aw x2 (fun b j t kb hs => by rw [hs.1, k_am] at kb; cases kb; rw [hs.2]; exact ⟨by decide, by decide, fun _ => ⟨by decide, by decide⟩, fun h => absurd h (by decide)⟩)
  have hm := hm.mv ho (fun j _ _ => x2.2 aw j lt_aw (fun h => hi_ne k_aw k_am (by decide) h.1))
  have hcr : crP G2 aw nc X Y := fun k hk => ⟨(x2.2 aw _ lt_aw (fun h => hi_ne k_aw k_am (by decide) h.1)).trans (hcr k hk).1, (x2.2 aw _ lt_aw (fun h => hi_ne k_aw k_am (by decide) h.1)).trans (hcr k hk).2.1, (hcr k hk).2.2⟩
  have w3 := (x2.2 aw 3 lt_aw (fun h => hi_ne k_aw k_am (by decide) h.1)).trans w3
  have m1 := (x2.2 am 1 lt_am (fun h => absurd h.2 (by decide))).trans m1
  have w0 := (x2.2 aw 0 lt_aw (fun h => (hi_ne k_aw k_am (by decide)) h.1)).trans w0
  have w4 := (x2.2 aw 4 lt_aw (fun h => (hi_ne k_aw k_am (by decide)) h.1)).trans w4
  have w2 := (x2.2 aw 2 lt_aw (fun h => (hi_ne k_aw k_am (by decide)) h.1)).trans w2
  have lt_am := Nat.lt_of_lt_of_le lt_am x2.1
  have lt_aw := Nat.lt_of_lt_of_le lt_aw x2.1
  refine hs_aload (i := 0) (p := 6) (by decide +kernel) rfl ?_
  refine hs_iload (i := 1) (p := 7) (by decide +kernel) rfl ?_
  refine hs_k (x := Int32.ofNat 0) (p := 8) (by decide +kernel) ?_
  refine hs_aload (i := 0) (p := 9) (by decide +kernel) rfl ?_
  refine hf_get (T := et_TT) (t := 13) (ci := 11) (f := 1) (p := 12) (by decide +kernel) rfl hH k_am m1 ?_
  refine hs_k (x := Int32.ofNat 2) (p := 13) (by decide +kernel) ?_
  refine hf_ald (ins := .iaload) (T := et_TT) (t := 46) (kd := 0) (N := 12741) (p := 14) (by decide +kernel) (fun _ _ _ _ _ _ _ _ _ _ => rfl) rfl rfl rfl hH k_aw (by decide) w2 ?_
  refine hs_k (x := Int32.ofNat 1) (p := 15) (by decide +kernel) ?_
  refine hs_isub (p := 16) (by decide +kernel) ?_
  refine hs_calls (mi := 209) (na := 3) (lk := 2) (lm := 3) (L0 := eg_en (eg_mL 209) [.int x, .int (Int32.ofNat 0), .int (Int32.ofNat cc - Int32.ofNat 1)]) (by decide +kernel) rfl rfl rfl rfl rfl rfl (by rw [show eg_mL 209 = 3 from by decide +kernel]; first | done | rfl) ?_
  refine (fm_in (x := x) (y := Int32.ofNat 0) (z := (Int32.ofNat cc - Int32.ofNat 1))).mono (fun u hu => xp_cb hu ?_)
  by_cases xc : (Int32.ofNat 0).toInt ≤ (x).toInt ∧ (x).toInt ≤ ((Int32.ofNat cc - Int32.ofNat 1)).toInt
  · exact absurd ⟨by omega, by omega⟩ hx
  · rw [if_neg xc]
    show et_go none _ 291 19 _ [.int (Int32.ofNat 0), .ref am] _ _ _ _
    refine hs_if0 (c := .ne) (t := 26) (f := 22) (by decide +kernel) (show ¬ (¬ Int32.ofNat 0 = 0) by decide) ?_
    refine hs_k (x := Int32.ofNat 1) (p := 23) (by decide +kernel) ?_
    refine hs_goto (p := 27) (by decide +kernel) ?_
    refine hs_k (x := Int32.ofNat 1) (p := 28) (by decide +kernel) ?_
    have hHo := hH
    refine ht_callv (T := et_TT) (t := 13) (mi := 204) (na := 2) (ci := 11) (lk := 2) (lm := 3) (L0 := eg_en (eg_mL 204) [.ref am, .int (Int32.ofNat 1), .int (Int32.ofNat 1)]) (by decide +kernel) rfl hH k_am rfl rfl rfl rfl rfl (by rw [show eg_mL 204 = 3 from by decide +kernel]; first | done | rfl) ?_
    refine (fm_t1 hH k_am).mono (fun u hu => xw_cb hu (fun G28 v28 hH x28 hP28 => ?_))
    have hT : ∀ r, r < rc → txP G28 aw (126 + 841 * r) 0 (g r) ∧ fcl (g r) := fun r hr => ⟨(hT r hr).1.xs lt_aw x28 (fun j h => hi_ne k_aw k_am (by decide) h.1), (hT r hr).2⟩
    have hky := hky.xs hHo k_am k_aw x28 (fun b j t kb hs => by rw [hs.1, k_am] at kb; cases kb; rw [hs.2]; exact ⟨by decide, by decide, fun _ => ⟨by decide, by decide⟩, fun h => absurd h (by decide)⟩)
    have hm := hm.mv ho (fun j _ _ => x28.2 aw j lt_aw (fun h => hi_ne k_aw k_am (by decide) h.1))
    have hcr : crP G28 aw nc X Y := fun k hk => ⟨(x28.2 aw _ lt_aw (fun h => hi_ne k_aw k_am (by decide) h.1)).trans (hcr k hk).1, (x28.2 aw _ lt_aw (fun h => hi_ne k_aw k_am (by decide) h.1)).trans (hcr k hk).2.1, (hcr k hk).2.2⟩
    have w3 := (x28.2 aw 3 lt_aw (fun h => hi_ne k_aw k_am (by decide) h.1)).trans w3
    have m1 := (x28.2 am 1 lt_am (fun h => absurd h.2 (by decide))).trans m1
    have w0 := (x28.2 aw 0 lt_aw (fun h => (hi_ne k_aw k_am (by decide)) h.1)).trans w0
    have w4 := (x28.2 aw 4 lt_aw (fun h => (hi_ne k_aw k_am (by decide)) h.1)).trans w4
    have w2 := (x28.2 aw 2 lt_aw (fun h => (hi_ne k_aw k_am (by decide)) h.1)).trans w2
    have lt_am := Nat.lt_of_lt_of_le lt_am x28.1
    have lt_aw := Nat.lt_of_lt_of_le lt_aw x28.1
    obtain ⟨rfl, th28⟩ := hP28
    show et_go none _ 291 31 _ [.int (Int32.ofNat 1)] _ _ _ _
    refine hs_if1 (c := .ne) (t := 46) (f := 34) (by decide +kernel) (show ¬ Int32.ofNat 1 = 0 by decide) ?_
    refine hs_k (x := Int32.ofNat 0) (p := 47) (by decide +kernel) ?_
    refine hs_zret (by decide +kernel) (.inl rfl) ?_
    exact ⟨rfl, th28⟩
end BAB
end
section
/-! CLAIMS: takeFrom, image, back -/
section BBA
variable {d2 d a s da sa th s0 s1 h : Nat} {g : Nat → Option Value}
theorem pmq_c5 {i : Nat} {K : et_K} {G : eg_G} (hH : et_H et_TT K G) (k_a : K a = some 10) (k_s : K s = some 10) (k_da : K da = some 39) (k_sa : K sa = some 39) (hda : et_pl (eg_at G a) 10 = some (.ref da)) (hsa : et_pl (eg_at G s) 10 = some (.ref sa)) (hne : ¬ sa = da) (hq : cpk da sa i 6 g G) (hi : i ≤ 6) : et_go none (d + 2) 104 158 [some (.ref a), some (.ref s), some (.int (Int32.ofNat i))] [] G 0 0 (fun u => cpk da sa 6 6 g u.2.1) := by
  induction hm : 6 - i using Nat.strongRecOn generalizing i K G with
  | _ z ih =>
    refine hs_iload (i := 2) (p := 159) (by decide +kernel) rfl ?_
    refine hs_k (x := Int32.ofNat 6) (p := 161) (by decide +kernel) ?_
    refine hs_br2n (c := .ge) (t := 182) (f := 164) (by decide +kernel) (by omega) (by omega) (fun (c161 : 6 ≤ i) => ?_) (fun (c161 : ¬ (6 ≤ i)) => ?_)
    · refine hs_vret (by decide +kernel) ?_
      obtain rfl : i = 6 := by omega
      exact hq
    · refine hs_aload (i := 0) (p := 165) (by decide +kernel) rfl ?_
      refine ht_getr (T := et_TT) (t := 10) (ci := 8) (f := 10) (p := 168) (by decide +kernel) rfl rfl hH k_a (fun a165 k_a165 e165 => ?_)
      obtain rfl : da = a165 := Value.ref.inj (Option.some.inj (hda.symm.trans e165))
      refine hs_iload (i := 2) (p := 169) (by decide +kernel) rfl ?_
      refine hs_aload (i := 1) (p := 170) (by decide +kernel) rfl ?_
      refine ht_getr (T := et_TT) (t := 10) (ci := 8) (f := 10) (p := 173) (by decide +kernel) rfl rfl hH k_s (fun a170 k_a170 e170 => ?_)
      obtain rfl : sa = a170 := Value.ref.inj (Option.some.inj (hsa.symm.trans e170))
      refine hs_iload (i := 2) (p := 174) (by decide +kernel) rfl ?_
      refine ht_aald (T := et_TT) (t := 39) (N := 6) (kd := 8) (m := 5) (p := 175) (by decide +kernel) rfl rfl hH k_sa (by omega) (by omega) (by decide) (fun v174 h174 e174 => ?_)
      refine ht_aasa (t := 39) (u := 2) (N := 6) (kd := 8) (cj := 0) (p := 176) (by decide +kernel) ⟨rfl, rfl⟩ (by decide +kernel) hH k_da (by omega) h174 (fun G175 hH f175 e175 he => ?_)
      have hq := hq.st (fun j => by rw [he sa hne]) (fun j hj => f175.2 da 39 k_da j (hb_n1 (fun h => hj h.2))) (by omega) (e175.trans e174.symm)
      have hda := ((hb_wk f175 (by omega)).2 a 10 k_a 10 rfl).trans hda
      have hsa := ((hb_wk f175 (by omega)).2 s 10 k_s 10 rfl).trans hsa
      refine hs_iinc1 (i := 2) (p := 179) (by decide +kernel) rfl (Nat.le_of_ble_eq_true rfl) ?_
      refine hs_goto (p := 158) (by decide +kernel) ?_
      show et_go none (d + 2) 104 158 [some (.ref a), some (.ref s), some (.int (Int32.ofNat (i + 1)))] [] _ 0 0 _
      exact ih (6 - (i + 1)) (by omega) (i := (i + 1)) hH k_a k_s k_da k_sa hda hsa hq (by omega) rfl
theorem pmq_c4 {i : Nat} {K : et_K} {G : eg_G} (hH : et_H et_TT K G) (k_a : K a = some 10) (k_s : K s = some 10) (k_da : K da = some 39) (k_sa : K sa = some 39) (hda : et_pl (eg_at G a) 10 = some (.ref da)) (hsa : et_pl (eg_at G s) 10 = some (.ref sa)) (hne : ¬ sa = da) (hq : cpk da sa 0 6 g G) (hi : i ≤ 4) : et_go none (d + 2) 104 125 [some (.ref a), some (.ref s), some (.int (Int32.ofNat i))] [] G 0 0 (fun u => cpk da sa 6 6 g u.2.1) := by
  induction hm : 4 - i using Nat.strongRecOn generalizing i K G with
  | _ z ih =>
    refine hs_iload (i := 2) (p := 126) (by decide +kernel) rfl ?_
    refine hs_k (x := Int32.ofNat 4) (p := 127) (by decide +kernel) ?_
    refine hs_br2n (c := .ge) (t := 148) (f := 130) (by decide +kernel) (by omega) (by omega) (fun (c127 : 4 ≤ i) => ?_) (fun (c127 : ¬ (4 ≤ i)) => ?_)
    · refine hs_aload (i := 0) (p := 149) (by decide +kernel) rfl ?_
      refine hs_aload (i := 1) (p := 150) (by decide +kernel) rfl ?_
      refine ht_getn (T := et_TT) (t := 10) (ci := 8) (f := 9) (p := 153) (by decide +kernel) rfl rfl hH k_s (fun c150 h150 e150 => ?_)
      refine ht_puta (T := et_TT) (t := 10) (ci := 8) (f := 9) (p := 156) (ty := .int) (by decide +kernel) rfl rfl rfl rfl (by decide +kernel) hH k_a (hi_nv (by omega) (by omega)) (fun G153 hH f153 e153 he => ?_)
      have hda := (f153.2 a 10 k_a 10 rfl).trans hda
      have hsa := (f153.2 s 10 k_s 10 rfl).trans hsa
      have hq := hq.fr k_da k_sa f153 rfl
      refine hs_k (x := Int32.ofNat 0) (p := 157) (by decide +kernel) ?_
      refine hs_istore (i := 2) (p := 158) (by decide +kernel) (Nat.le_of_ble_eq_true rfl) ?_
      show et_go none (d + 2) 104 158 [some (.ref a), some (.ref s), some (.int (Int32.ofNat 0))] [] _ 0 0 _
      exact pmq_c5 (i := 0) hH k_a k_s k_da k_sa hda hsa hne hq (by omega)
    · refine hs_aload (i := 0) (p := 131) (by decide +kernel) rfl ?_
      refine ht_getr (T := et_TT) (t := 10) (ci := 8) (f := 8) (p := 134) (by decide +kernel) rfl rfl hH k_a (fun a131 k_a131 e131 => ?_)
      refine hs_iload (i := 2) (p := 135) (by decide +kernel) rfl ?_
      refine hs_aload (i := 1) (p := 136) (by decide +kernel) rfl ?_
      refine ht_getr (T := et_TT) (t := 10) (ci := 8) (f := 8) (p := 139) (by decide +kernel) rfl rfl hH k_s (fun a136 k_a136 e136 => ?_)
      refine hs_iload (i := 2) (p := 140) (by decide +kernel) rfl ?_
      refine ht_aald (T := et_TT) (t := 38) (N := 4) (kd := 7) (m := 3) (p := 141) (by decide +kernel) rfl rfl hH k_a136 (by omega) (by omega) (by decide) (fun v140 h140 e140 => ?_)
      refine ht_aasa (t := 38) (u := 11) (N := 4) (kd := 7) (cj := 9) (p := 142) (by decide +kernel) ⟨rfl, rfl⟩ (by decide +kernel) hH k_a131 (by omega) h140 (fun G141 hH f141 e141 he => ?_)
      have hda := ((hb_wk f141 (by omega)).2 a 10 k_a 10 rfl).trans hda
      have hsa := ((hb_wk f141 (by omega)).2 s 10 k_s 10 rfl).trans hsa
      have hq := hq.fr k_da k_sa (hb_wk f141 (by omega)) rfl
      refine hs_iinc1 (i := 2) (p := 145) (by decide +kernel) rfl (Nat.le_of_ble_eq_true rfl) ?_
      refine hs_goto (p := 125) (by decide +kernel) ?_
      show et_go none (d + 2) 104 125 [some (.ref a), some (.ref s), some (.int (Int32.ofNat (i + 1)))] [] _ 0 0 _
      exact ih (4 - (i + 1)) (by omega) (i := (i + 1)) hH k_a k_s k_da k_sa hda hsa hq (by omega) rfl
theorem pmq_c3 {i : Nat} {K : et_K} {G : eg_G} (hH : et_H et_TT K G) (k_a : K a = some 10) (k_s : K s = some 10) (k_da : K da = some 39) (k_sa : K sa = some 39) (hda : et_pl (eg_at G a) 10 = some (.ref da)) (hsa : et_pl (eg_at G s) 10 = some (.ref sa)) (hne : ¬ sa = da) (hq : cpk da sa 0 6 g G) (hi : i ≤ 3) : et_go none (d + 2) 104 89 [some (.ref a), some (.ref s), some (.int (Int32.ofNat i))] [] G 0 0 (fun u => cpk da sa 6 6 g u.2.1) := by
  induction hm : 3 - i using Nat.strongRecOn generalizing i K G with
  | _ z ih =>
    refine hs_iload (i := 2) (p := 90) (by decide +kernel) rfl ?_
    refine hs_k (x := Int32.ofNat 3) (p := 91) (by decide +kernel) ?_
    refine hs_br2n (c := .ge) (t := 115) (f := 94) (by decide +kernel) (by omega) (by omega) (fun (c91 : 3 ≤ i) => ?_) (fun (c91 : ¬ (3 ≤ i)) => ?_)
    · refine hs_aload (i := 0) (p := 116) (by decide +kernel) rfl ?_
      refine hs_aload (i := 1) (p := 117) (by decide +kernel) rfl ?_
      refine ht_getn (T := et_TT) (t := 10) (ci := 8) (f := 7) (p := 120) (by decide +kernel) rfl rfl hH k_s (fun c117 h117 e117 => ?_)
      refine ht_puta (T := et_TT) (t := 10) (ci := 8) (f := 7) (p := 123) (ty := .int) (by decide +kernel) rfl rfl rfl rfl (by decide +kernel) hH k_a (hi_nv (by omega) (by omega)) (fun G120 hH f120 e120 he => ?_)
      have hda := (f120.2 a 10 k_a 10 rfl).trans hda
      have hsa := (f120.2 s 10 k_s 10 rfl).trans hsa
      have hq := hq.fr k_da k_sa f120 rfl
      refine hs_k (x := Int32.ofNat 0) (p := 124) (by decide +kernel) ?_
      refine hs_istore (i := 2) (p := 125) (by decide +kernel) (Nat.le_of_ble_eq_true rfl) ?_
      show et_go none (d + 2) 104 125 [some (.ref a), some (.ref s), some (.int (Int32.ofNat 0))] [] _ 0 0 _
      exact pmq_c4 (i := 0) hH k_a k_s k_da k_sa hda hsa hne hq (by omega)
    · refine hs_aload (i := 0) (p := 95) (by decide +kernel) rfl ?_
      refine ht_getr (T := et_TT) (t := 10) (ci := 8) (f := 6) (p := 98) (by decide +kernel) rfl rfl hH k_a (fun a95 k_a95 e95 => ?_)
      refine hs_iload (i := 2) (p := 99) (by decide +kernel) rfl ?_
      refine ht_aald (T := et_TT) (t := 40) (N := 3) (kd := 6) (m := 2) (p := 100) (by decide +kernel) rfl rfl hH k_a95 (by omega) (by omega) (by decide) (fun v99 h99 e99 => ?_)
      obtain ⟨b99, rfl, k_b99⟩ := hi_ref h99
      refine hs_aload (i := 1) (p := 101) (by decide +kernel) rfl ?_
      refine ht_getr (T := et_TT) (t := 10) (ci := 8) (f := 6) (p := 104) (by decide +kernel) rfl rfl hH k_s (fun a101 k_a101 e101 => ?_)
      refine hs_iload (i := 2) (p := 105) (by decide +kernel) rfl ?_
      refine ht_aald (T := et_TT) (t := 40) (N := 3) (kd := 6) (m := 2) (p := 106) (by decide +kernel) rfl rfl hH k_a101 (by omega) (by omega) (by decide) (fun v105 h105 e105 => ?_)
      obtain ⟨b105, rfl, k_b105⟩ := hi_ref h105
      refine ht_callv (T := et_TT) (t := 3) (mi := 35) (na := 1) (ci := 1) (lk := 3) (lm := 3) (L0 := eg_en (eg_mL 35) [.ref b99, .ref b105]) (by decide +kernel) rfl hH k_b99 rfl rfl rfl rfl rfl (by rw [show eg_mL 35 = 3 from by decide +kernel]; first | done | rfl) ?_
      refine (ek_c5 (K, [], G) [.ref b99, .ref b105] _ hH (by show 1 ≤ _; omega) rfl (ht_ac (.inr ⟨by decide, _, rfl, k_b99⟩) (ht_ac (.inr ⟨by decide, _, rfl, k_b105⟩) ht_an))).mono (fun u hu => hs_cbn hu (fun K106 G106 c106 s106 x106 f106 hH cl106 sl106 => ?_))
      obtain rfl : c106 = 0 := Nat.le_zero.mp cl106
      obtain rfl : s106 = 0 := Nat.le_zero.mp sl106
      have hda := (f106.2 a 10 k_a 10 rfl).trans hda
      have hsa := (f106.2 s 10 k_s 10 rfl).trans hsa
      have hq := hq.fr k_da k_sa f106 rfl
      have k_a := x106 _ _ k_a
      have k_s := x106 _ _ k_s
      have k_da := x106 _ _ k_da
      have k_sa := x106 _ _ k_sa
      have k_a95 := x106 _ _ k_a95
      have k_b99 := x106 _ _ k_b99
      have k_a101 := x106 _ _ k_a101
      have k_b105 := x106 _ _ k_b105
      show et_go none _ 104 109 _ [] _ 0 0 _
      refine hs_iinc1 (i := 2) (p := 112) (by decide +kernel) rfl (Nat.le_of_ble_eq_true rfl) ?_
      refine hs_goto (p := 89) (by decide +kernel) ?_
      show et_go none (d + 2) 104 89 [some (.ref a), some (.ref s), some (.int (Int32.ofNat (i + 1)))] [] _ 0 0 _
      exact ih (3 - (i + 1)) (by omega) (i := (i + 1)) hH k_a k_s k_da k_sa hda hsa hq (by omega) rfl
theorem pmq_c2 {i : Nat} {K : et_K} {G : eg_G} (hH : et_H et_TT K G) (k_a : K a = some 10) (k_s : K s = some 10) (k_da : K da = some 39) (k_sa : K sa = some 39) (hda : et_pl (eg_at G a) 10 = some (.ref da)) (hsa : et_pl (eg_at G s) 10 = some (.ref sa)) (hne : ¬ sa = da) (hq : cpk da sa 0 6 g G) (hi : i ≤ 20) : et_go none (d + 2) 104 43 [some (.ref a), some (.ref s), some (.int (Int32.ofNat i))] [] G 0 0 (fun u => cpk da sa 6 6 g u.2.1) := by
  induction hm : 20 - i using Nat.strongRecOn generalizing i K G with
  | _ z ih =>
    refine hs_iload (i := 2) (p := 44) (by decide +kernel) rfl ?_
    refine hs_k (x := Int32.ofNat 20) (p := 46) (by decide +kernel) ?_
    refine hs_br2n (c := .ge) (t := 79) (f := 49) (by decide +kernel) (by omega) (by omega) (fun (c46 : 20 ≤ i) => ?_) (fun (c46 : ¬ (20 ≤ i)) => ?_)
    · refine hs_aload (i := 0) (p := 80) (by decide +kernel) rfl ?_
      refine hs_aload (i := 1) (p := 81) (by decide +kernel) rfl ?_
      refine ht_getn (T := et_TT) (t := 10) (ci := 8) (f := 5) (p := 84) (by decide +kernel) rfl rfl hH k_s (fun c81 h81 e81 => ?_)
      refine ht_puta (T := et_TT) (t := 10) (ci := 8) (f := 5) (p := 87) (ty := .int) (by decide +kernel) rfl rfl rfl rfl (by decide +kernel) hH k_a (hi_nv (by omega) (by omega)) (fun G84 hH f84 e84 he => ?_)
      have hda := (f84.2 a 10 k_a 10 rfl).trans hda
      have hsa := (f84.2 s 10 k_s 10 rfl).trans hsa
      have hq := hq.fr k_da k_sa f84 rfl
      refine hs_k (x := Int32.ofNat 0) (p := 88) (by decide +kernel) ?_
      refine hs_istore (i := 2) (p := 89) (by decide +kernel) (Nat.le_of_ble_eq_true rfl) ?_
      show et_go none (d + 2) 104 89 [some (.ref a), some (.ref s), some (.int (Int32.ofNat 0))] [] _ 0 0 _
      exact pmq_c3 (i := 0) hH k_a k_s k_da k_sa hda hsa hne hq (by omega)
    · refine hs_aload (i := 0) (p := 50) (by decide +kernel) rfl ?_
      refine ht_getr (T := et_TT) (t := 10) (ci := 8) (f := 3) (p := 53) (by decide +kernel) rfl rfl hH k_a (fun a50 k_a50 e50 => ?_)
      refine hs_iload (i := 2) (p := 54) (by decide +kernel) rfl ?_
      refine hs_aload (i := 1) (p := 55) (by decide +kernel) rfl ?_
      refine ht_getr (T := et_TT) (t := 10) (ci := 8) (f := 3) (p := 58) (by decide +kernel) rfl rfl hH k_s (fun a55 k_a55 e55 => ?_)
      refine hs_iload (i := 2) (p := 59) (by decide +kernel) rfl ?_
      refine ht_ild (T := et_TT) (t := 17) (N := 20) (p := 60) (by decide +kernel) rfl hH k_a55 (by omega) (by decide) (fun x59 s59 e59 => ?_)
      refine ht_ist (M := [(17, 0, 100000)]) (T := et_TT) (t := 17) (N := 20) (p := 61) (by decide +kernel) rfl rfl (by decide) hH k_a50 (by omega) (by decide) (fun s hs => absurd hs List.not_mem_nil) (hb_mm (by omega)) (fun G60 hH f60 => ?_)
      have hda := (f60.2 a 10 k_a 10 rfl).trans hda
      have hsa := (f60.2 s 10 k_s 10 rfl).trans hsa
      have hq := hq.fr k_da k_sa f60 rfl
      refine hs_aload (i := 0) (p := 62) (by decide +kernel) rfl ?_
      refine ht_getr (T := et_TT) (t := 10) (ci := 8) (f := 4) (p := 65) (by decide +kernel) rfl rfl hH k_a (fun a62 k_a62 e62 => ?_)
      refine hs_iload (i := 2) (p := 66) (by decide +kernel) rfl ?_
      refine hs_aload (i := 1) (p := 67) (by decide +kernel) rfl ?_
      refine ht_getr (T := et_TT) (t := 10) (ci := 8) (f := 4) (p := 70) (by decide +kernel) rfl rfl hH k_s (fun a67 k_a67 e67 => ?_)
      refine hs_iload (i := 2) (p := 71) (by decide +kernel) rfl ?_
      refine ht_zln (t := 27) (N := 20) (m := 19) (p := 72) (by decide +kernel) rfl hH k_a67 (by omega) (by omega) (by decide) (fun c71 h71 => ?_)
      refine ht_zst (M := [(27, 0, 100000)]) (t := 27) (N := 20) (p := 73) (by decide +kernel) rfl rfl hH k_a62 (by omega) (by decide) (by omega) (hb_mm (by omega)) (fun G72 hH f72 => ?_)
      have hda := (f72.2 a 10 k_a 10 rfl).trans hda
      have hsa := (f72.2 s 10 k_s 10 rfl).trans hsa
      have hq := hq.fr k_da k_sa f72 rfl
      refine hs_iinc1 (i := 2) (p := 76) (by decide +kernel) rfl (Nat.le_of_ble_eq_true rfl) ?_
      refine hs_goto (p := 43) (by decide +kernel) ?_
      show et_go none (d + 2) 104 43 [some (.ref a), some (.ref s), some (.int (Int32.ofNat (i + 1)))] [] _ 0 0 _
      exact ih (20 - (i + 1)) (by omega) (i := (i + 1)) hH k_a k_s k_da k_sa hda hsa hq (by omega) rfl
theorem pmq_c1 {i : Nat} {K : et_K} {G : eg_G} (hH : et_H et_TT K G) (k_a : K a = some 10) (k_s : K s = some 10) (k_da : K da = some 39) (k_sa : K sa = some 39) (hda : et_pl (eg_at G a) 10 = some (.ref da)) (hsa : et_pl (eg_at G s) 10 = some (.ref sa)) (hne : ¬ sa = da) (hq : cpk da sa 0 6 g G) (hi : i ≤ 4) : et_go none (d + 2) 104 10 [some (.ref a), some (.ref s), some (.int (Int32.ofNat i))] [] G 0 0 (fun u => cpk da sa 6 6 g u.2.1) := by
  induction hm : 4 - i using Nat.strongRecOn generalizing i K G with
  | _ z ih =>
    refine hs_iload (i := 2) (p := 11) (by decide +kernel) rfl ?_
    refine hs_k (x := Int32.ofNat 4) (p := 12) (by decide +kernel) ?_
    refine hs_br2n (c := .ge) (t := 33) (f := 15) (by decide +kernel) (by omega) (by omega) (fun (c12 : 4 ≤ i) => ?_) (fun (c12 : ¬ (4 ≤ i)) => ?_)
    · refine hs_aload (i := 0) (p := 34) (by decide +kernel) rfl ?_
      refine hs_aload (i := 1) (p := 35) (by decide +kernel) rfl ?_
      refine ht_getn (T := et_TT) (t := 10) (ci := 8) (f := 2) (p := 38) (by decide +kernel) rfl rfl hH k_s (fun c35 h35 e35 => ?_)
      refine ht_puta (T := et_TT) (t := 10) (ci := 8) (f := 2) (p := 41) (ty := .int) (by decide +kernel) rfl rfl rfl rfl (by decide +kernel) hH k_a (hi_nv (by omega) (by omega)) (fun G38 hH f38 e38 he => ?_)
      have hda := (f38.2 a 10 k_a 10 rfl).trans hda
      have hsa := (f38.2 s 10 k_s 10 rfl).trans hsa
      have hq := hq.fr k_da k_sa f38 rfl
      refine hs_k (x := Int32.ofNat 0) (p := 42) (by decide +kernel) ?_
      refine hs_istore (i := 2) (p := 43) (by decide +kernel) (Nat.le_of_ble_eq_true rfl) ?_
      show et_go none (d + 2) 104 43 [some (.ref a), some (.ref s), some (.int (Int32.ofNat 0))] [] _ 0 0 _
      exact pmq_c2 (i := 0) hH k_a k_s k_da k_sa hda hsa hne hq (by omega)
    · refine hs_aload (i := 0) (p := 16) (by decide +kernel) rfl ?_
      refine ht_getr (T := et_TT) (t := 10) (ci := 8) (f := 1) (p := 19) (by decide +kernel) rfl rfl hH k_a (fun a16 k_a16 e16 => ?_)
      refine hs_iload (i := 2) (p := 20) (by decide +kernel) rfl ?_
      refine hs_aload (i := 1) (p := 21) (by decide +kernel) rfl ?_
      refine ht_getr (T := et_TT) (t := 10) (ci := 8) (f := 1) (p := 24) (by decide +kernel) rfl rfl hH k_s (fun a21 k_a21 e21 => ?_)
      refine hs_iload (i := 2) (p := 25) (by decide +kernel) rfl ?_
      refine ht_aald (T := et_TT) (t := 37) (N := 4) (kd := 5) (m := 3) (p := 26) (by decide +kernel) rfl rfl hH k_a21 (by omega) (by omega) (by decide) (fun v25 h25 e25 => ?_)
      refine ht_aasa (t := 37) (u := 8) (N := 4) (kd := 5) (cj := 6) (p := 27) (by decide +kernel) ⟨rfl, rfl⟩ (by decide +kernel) hH k_a16 (by omega) h25 (fun G26 hH f26 e26 he => ?_)
      have hda := ((hb_wk f26 (by omega)).2 a 10 k_a 10 rfl).trans hda
      have hsa := ((hb_wk f26 (by omega)).2 s 10 k_s 10 rfl).trans hsa
      have hq := hq.fr k_da k_sa (hb_wk f26 (by omega)) rfl
      refine hs_iinc1 (i := 2) (p := 30) (by decide +kernel) rfl (Nat.le_of_ble_eq_true rfl) ?_
      refine hs_goto (p := 10) (by decide +kernel) ?_
      show et_go none (d + 2) 104 10 [some (.ref a), some (.ref s), some (.int (Int32.ofNat (i + 1)))] [] _ 0 0 _
      exact ih (4 - (i + 1)) (by omega) (i := (i + 1)) hH k_a k_s k_da k_sa hda hsa hq (by omega) rfl
theorem ft_takeQ {K : et_K} {G : eg_G} (hH : et_H et_TT K G) (k_a : K a = some 10) (k_s : K s = some 10) (k_da : K da = some 39) (k_sa : K sa = some 39) (hda : et_pl (eg_at G a) 10 = some (.ref da)) (hsa : et_pl (eg_at G s) 10 = some (.ref sa)) (hne : ¬ sa = da) (hq : cpk da sa 0 6 g G) (hd : 2 ≤ d2) : et_go none d2 104 0 (eg_en (eg_mL 104) [.ref a, .ref s]) [] G 0 0 (fun u => cpk da sa 6 6 g u.2.1) := by
  obtain ⟨d, rfl⟩ : ∃ d, d2 = d + 2 := ⟨d2 - 2, by omega⟩
  rw [show eg_mL 104 = 3 from by decide +kernel]
  show et_go none (d + 2) 104 0 [some (.ref a), some (.ref s), none] [] G 0 0 _
  refine hs_aload (i := 0) (p := 1) (by decide +kernel) rfl ?_
  refine hs_aload (i := 1) (p := 2) (by decide +kernel) rfl ?_
  refine ht_getn (T := et_TT) (t := 10) (ci := 8) (f := 0) (p := 5) (by decide +kernel) rfl rfl hH k_s (fun c2 h2 e2 => ?_)
  refine ht_puta (T := et_TT) (t := 10) (ci := 8) (f := 0) (p := 8) (ty := .int) (by decide +kernel) rfl rfl rfl rfl (by decide +kernel) hH k_a (hi_nv (by omega) (by omega)) (fun G5 hH f5 e5 he => ?_)
  have hda := (f5.2 a 10 k_a 10 rfl).trans hda
  have hsa := (f5.2 s 10 k_s 10 rfl).trans hsa
  have hq := hq.fr k_da k_sa f5 rfl
  refine hs_k (x := Int32.ofNat 0) (p := 9) (by decide +kernel) ?_
  refine hs_istore (i := 2) (p := 10) (by decide +kernel) (Nat.le_of_ble_eq_true rfl) ?_
  show et_go none (d + 2) 104 10 [some (.ref a), some (.ref s), some (.int (Int32.ofNat 0))] [] _ 0 0 _
  exact pmq_c1 (i := 0) hH k_a k_s k_da k_sa hda hsa hne hq (by omega)
variable {t0 t1 ra0 ca0 rc0 ec0 cc0 ra1 ca1 rc1 ec1 cc1 : Nat}
theorem fc_imageQ {K : et_K} {G : eg_G} (hH : et_H et_TT K G) (hC : ci_O K G th s0 s1 ra0 ca0 rc0 ec0 cc0 ra1 ca1 rc1 ec1 cc1) (m08 : et_pl (eg_at G s0) 10 = some (.ref t0)) (m18 : et_pl (eg_at G s1) 10 = some (.ref t1)) (k_t0 : K t0 = some 39) (k_t1 : K t1 = some 39) (hl : ¬ t0 = t1) (hd : 3 ≤ d2) : et_go none d2 124 0 (eg_en (eg_mL 124) [.ref th]) [] G 0 0 (fun u => ∀ j, j < 6 → et_pl (eg_at u.2.1 t0) j = et_pl (eg_at G t0) j ∧ et_pl (eg_at u.2.1 t1) j = et_pl (eg_at G t0) j) := by
  obtain ⟨d, rfl⟩ : ∃ d, d2 = d + 3 := ⟨d2 - 3, by omega⟩
  have k_th := hC.1
  have k_s0 := hC.2.2.2.1.1.1
  have k_s1 := hC.2.2.2.2.1.1
  have h0 := hC.2.1.1
  have h1 := hC.2.1.2
  have hv : ∀ j, j < 6 → et_pl (eg_at G t0) j = et_pl (eg_at G t0) j ∧ et_pl (eg_at G t1) j = et_pl (eg_at G t1) j := fun _ _ => ⟨rfl, rfl⟩
  rw [show eg_mL 124 = 1 from by decide +kernel]
  show et_go none (d + 3) 124 0 [some (.ref th)] [] G 0 0 _
  have lt_th := (hH.2.2 _ _ k_th).1
  have lt_s0 := (hH.2.2 _ _ k_s0).1
  have lt_s1 := (hH.2.2 _ _ k_s1).1
  have lt_t0 := (hH.2.2 _ _ k_t0).1
  have lt_t1 := (hH.2.2 _ _ k_t1).1
  refine hs_aload (i := 0) (p := 1) (by decide +kernel) rfl ?_
  refine hf_get (T := et_TT) (t := 12) (ci := 10) (f := 1) (p := 4) (by decide +kernel) rfl hH k_th h1 ?_
  refine hs_aload (i := 0) (p := 5) (by decide +kernel) rfl ?_
  refine hf_get (T := et_TT) (t := 12) (ci := 10) (f := 0) (p := 8) (by decide +kernel) rfl hH k_th h0 ?_
  have hH1 := hH
  refine ht_callv (T := et_TT) (t := 10) (mi := 104) (na := 1) (ci := 8) (lk := 1) (lm := 3) (L0 := eg_en (eg_mL 104) [.ref s1, .ref s0]) (by decide +kernel) rfl hH k_s1 rfl rfl rfl rfl rfl (by rw [show eg_mL 104 = 3 from by decide +kernel]; first | done | rfl) ?_
  refine ((hc_takeI (a := s1) (s := s0) hH hC.2.2.2.1 hC.2.2.2.2 hC.2.2.1 (by omega)).and (ft_takeQ (a := s1) (s := s0) (da := t1) (sa := t0) (g := (fun j => et_pl (eg_at G t0) j)) hH k_s1 k_s0 k_t1 k_t0 m18 m08 hl (fun n hn => ⟨fun h => absurd h (Nat.not_lt_zero n), (hv n hn).1⟩) (by omega))).mono (fun u hu => tn_cb (P := fun g9 => cpk t1 t0 6 6 (fun j => et_pl (eg_at G t0) j) g9) hu (fun K8 G8 x8 f8 hH hP => ?_))
  have hv : ∀ j, j < 6 → et_pl (eg_at G8 t0) j = et_pl (eg_at G t0) j ∧ et_pl (eg_at G8 t1) j = et_pl (eg_at G t0) j := fun j hj => ⟨(hP j hj).2, (hP j hj).1 hj⟩
  have k_th := x8 _ _ k_th
  have lt_th := (hH.2.2 _ _ k_th).1
  have k_s0 := x8 _ _ k_s0
  have lt_s0 := (hH.2.2 _ _ k_s0).1
  have k_s1 := x8 _ _ k_s1
  have lt_s1 := (hH.2.2 _ _ k_s1).1
  have k_t0 := x8 _ _ k_t0
  have lt_t0 := (hH.2.2 _ _ k_t0).1
  have k_t1 := x8 _ _ k_t1
  have lt_t1 := (hH.2.2 _ _ k_t1).1
  show et_go none _ 124 11 _ [] _ _ _ _
  refine hs_aload (i := 0) (p := 12) (by decide +kernel) rfl ?_
  refine hs_k (x := Int32.ofNat 1) (p := 13) (by decide +kernel) ?_
  have hHo := hH
  refine hf_put (T := et_TT) (t := 12) (ci := 10) (f := 2) (p := 16) (ty := .boolean) (by decide +kernel) rfl rfl rfl (by decide +kernel) rfl hH k_th (hi_nv (by omega) (by omega)) (fun G13 hH x13 e13 => ?_)
  have lt_th := Nat.lt_of_lt_of_le lt_th x13.1
  have lt_s0 := Nat.lt_of_lt_of_le lt_s0 x13.1
  have lt_s1 := Nat.lt_of_lt_of_le lt_s1 x13.1
  have lt_t0 := Nat.lt_of_lt_of_le lt_t0 x13.1
  have lt_t1 := Nat.lt_of_lt_of_le lt_t1 x13.1
  have hv := fun (j : Nat) (hj : j < 6) => And.intro ((x13.2 t0 j (hHo.2.2 _ _ k_t0).1 (fun h => hi_ne k_t0 k_th (by decide) h.1)).trans (hv j hj).1) ((x13.2 t1 j (hHo.2.2 _ _ k_t1).1 (fun h => hi_ne k_t1 k_th (by decide) h.1)).trans (hv j hj).2)
  refine hs_vret (by decide +kernel) ?_
  exact hv
theorem fc_backQ {K : et_K} {G : eg_G} (hH : et_H et_TT K G) (hC : ci_O K G th s0 s1 ra0 ca0 rc0 ec0 cc0 ra1 ca1 rc1 ec1 cc1) (m08 : et_pl (eg_at G s0) 10 = some (.ref t0)) (m18 : et_pl (eg_at G s1) 10 = some (.ref t1)) (k_t0 : K t0 = some 39) (k_t1 : K t1 = some 39) (hl : ¬ t0 = t1) (hh : ph_at G th h) (hh1 : h ≤ 1) (hd : 3 ≤ d2) : et_go none d2 125 0 (eg_en (eg_mL 125) [.ref th]) [] G 0 0 (fun u => ∀ j, j < 6 → et_pl (eg_at u.2.1 t0) j = (if h = 0 then et_pl (eg_at G t0) j else et_pl (eg_at G t1) j) ∧ et_pl (eg_at u.2.1 t1) j = et_pl (eg_at G t1) j) := by
  obtain ⟨d, rfl⟩ : ∃ d, d2 = d + 3 := ⟨d2 - 3, by omega⟩
  have k_th := hC.1
  have k_s0 := hC.2.2.2.1.1.1
  have k_s1 := hC.2.2.2.2.1.1
  have h0 := hC.2.1.1
  have h1 := hC.2.1.2
  have hh : et_pl (eg_at G th) 2 = some (.int (Int32.ofNat h)) := hh
  have hv : ∀ j, j < 6 → et_pl (eg_at G t0) j = et_pl (eg_at G t0) j ∧ et_pl (eg_at G t1) j = et_pl (eg_at G t1) j := fun _ _ => ⟨rfl, rfl⟩
  rw [show eg_mL 125 = 1 from by decide +kernel]
  show et_go none (d + 3) 125 0 [some (.ref th)] [] G 0 0 _
  have lt_th := (hH.2.2 _ _ k_th).1
  have lt_s0 := (hH.2.2 _ _ k_s0).1
  have lt_s1 := (hH.2.2 _ _ k_s1).1
  have lt_t0 := (hH.2.2 _ _ k_t0).1
  have lt_t1 := (hH.2.2 _ _ k_t1).1
  refine hs_aload (i := 0) (p := 1) (by decide +kernel) rfl ?_
  refine hf_get (T := et_TT) (t := 12) (ci := 10) (f := 2) (p := 4) (by decide +kernel) rfl hH k_th hh ?_
  refine hs_br1 (c := .ne) (t := 9) (f := 7) (by decide +kernel) (fun (c4 : ¬ Int32.ofNat h = 0) => ?_) (fun (c4 : ¬ (¬ Int32.ofNat h = 0)) => ?_)
  · refine hs_aload (i := 0) (p := 10) (by decide +kernel) rfl ?_
    have hHo := hH
    refine ht_callv (T := et_TT) (t := 12) (mi := 120) (na := 0) (ci := 10) (lk := 1) (lm := 1) (L0 := eg_en (eg_mL 120) [.ref th]) (by decide +kernel) rfl hH k_th rfl rfl rfl rfl rfl (by rw [show eg_mL 120 = 1 from by decide +kernel]; first | done | rfl) ?_
    refine (fc_forget hH k_th).mono (fun u hu => xw_cb hu (fun G10 v10 hH x10 hP10 => ?_))
    obtain rfl := hP10
    have hC := ci_O.fr hC et_ex.rf (x10.tfr hHo (M := [(12, 6, 7)]) (fun a t i ha h => by obtain ⟨ea, h⟩ := h; rw [ea, k_th] at ha; cases ha; simp [et_mm]; omega)) (by decide +kernel)
    have h0 := (x10.2 th 0 lt_th (fun h => absurd h.2 (by decide))).trans h0
    have h1 := (x10.2 th 1 lt_th (fun h => absurd h.2 (by decide))).trans h1
    have m08 := (x10.2 s0 10 lt_s0 (fun h => (hi_ne k_s0 k_th (by decide)) h.1)).trans m08
    have m18 := (x10.2 s1 10 lt_s1 (fun h => (hi_ne k_s1 k_th (by decide)) h.1)).trans m18
    have hh := (x10.2 th 2 lt_th (fun h => absurd h.2 (by decide))).trans hh
    have lt_th := Nat.lt_of_lt_of_le lt_th x10.1
    have lt_s0 := Nat.lt_of_lt_of_le lt_s0 x10.1
    have lt_s1 := Nat.lt_of_lt_of_le lt_s1 x10.1
    have lt_t0 := Nat.lt_of_lt_of_le lt_t0 x10.1
    have lt_t1 := Nat.lt_of_lt_of_le lt_t1 x10.1
    have hv := fun (j : Nat) (hj : j < 6) => And.intro ((x10.2 t0 j (hHo.2.2 _ _ k_t0).1 (fun h => hi_ne k_t0 k_th (by decide) h.1)).trans (hv j hj).1) ((x10.2 t1 j (hHo.2.2 _ _ k_t1).1 (fun h => hi_ne k_t1 k_th (by decide) h.1)).trans (hv j hj).2)
    show et_go none _ 125 13 _ [] _ _ _ _
    refine hs_aload (i := 0) (p := 14) (by decide +kernel) rfl ?_
    refine hf_get (T := et_TT) (t := 12) (ci := 10) (f := 0) (p := 17) (by decide +kernel) rfl hH k_th h0 ?_
    refine hs_aload (i := 0) (p := 18) (by decide +kernel) rfl ?_
    refine hf_get (T := et_TT) (t := 12) (ci := 10) (f := 1) (p := 21) (by decide +kernel) rfl hH k_th h1 ?_
    have hH1 := hH
    refine ht_callv (T := et_TT) (t := 10) (mi := 104) (na := 1) (ci := 8) (lk := 1) (lm := 3) (L0 := eg_en (eg_mL 104) [.ref s0, .ref s1]) (by decide +kernel) rfl hH k_s0 rfl rfl rfl rfl rfl (by rw [show eg_mL 104 = 3 from by decide +kernel]; first | done | rfl) ?_
    refine ((hc_takeI (a := s0) (s := s1) hH hC.2.2.2.2 hC.2.2.2.1 ⟨fun e => hC.2.2.1.1 e.symm, fun e => hC.2.2.1.2.1 e.symm, fun e => hC.2.2.1.2.2 e.symm⟩ (by omega)).and (ft_takeQ (a := s0) (s := s1) (da := t0) (sa := t1) (g := (fun j => et_pl (eg_at G t1) j)) hH k_s0 k_s1 k_t0 k_t1 m08 m18 (fun e => hl e.symm) (fun n hn => ⟨fun h => absurd h (Nat.not_lt_zero n), (hv n hn).2⟩) (by omega))).mono (fun u hu => tn_cb (P := fun g9 => cpk t0 t1 6 6 (fun j => et_pl (eg_at G t1) j) g9) hu (fun K21 G21 x21 f21 hH hP => ?_))
    have hv : ∀ j, j < 6 → et_pl (eg_at G21 t0) j = et_pl (eg_at G t1) j ∧ et_pl (eg_at G21 t1) j = et_pl (eg_at G t1) j := fun j hj => ⟨(hP j hj).1 hj, (hP j hj).2⟩
    have k_th := x21 _ _ k_th
    have lt_th := (hH.2.2 _ _ k_th).1
    have k_s0 := x21 _ _ k_s0
    have lt_s0 := (hH.2.2 _ _ k_s0).1
    have k_s1 := x21 _ _ k_s1
    have lt_s1 := (hH.2.2 _ _ k_s1).1
    have k_t0 := x21 _ _ k_t0
    have lt_t0 := (hH.2.2 _ _ k_t0).1
    have k_t1 := x21 _ _ k_t1
    have lt_t1 := (hH.2.2 _ _ k_t1).1
    show et_go none _ 125 24 _ [] _ _ _ _
    refine hs_k (x := Int32.ofNat 1) (p := 25) (by decide +kernel) ?_
    refine hs_zret (by decide +kernel) (.inr rfl) ?_
    exact fun j hj => ⟨(hv j hj).1.trans (if_neg (by have := hi_b1 hh1 c4; omega)).symm, (hv j hj).2⟩
  · refine hs_k (x := Int32.ofNat 0) (p := 8) (by decide +kernel) ?_
    refine hs_zret (by decide +kernel) (.inl rfl) ?_
    exact fun j hj => ⟨(hv j hj).1.trans (if_pos (hi_b0 hh1 c4)).symm, (hv j hj).2⟩
end BBA
end
