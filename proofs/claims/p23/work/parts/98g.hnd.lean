/-! BY HAND: objects whose fields are never null, while they are made -/
section HPU
variable {K K' : et_K} {d k pc ck sk : Nat} {L : eg_Ls} {st r : List Value} {G G' : eg_G} {Z : eg_O → Prop} {a b t p ci : Nat} {fs : List Value}
def hs_sk (k pc : Nat) : Option (Nat × Nat) := match eg_cd k pc with
  | some (.invokespecial i, _) => (match (eg_mT.getD (eg_mo k) []).lookup i with
    | some (_, kd, _) => if kd = 6 then some (eg_mL k, pc + 3) else none
    | none => none)
  | _ => none
theorem hs_skip {lk : Nat} (hc : hs_sk k pc = some (lk, p)) (hL : L.length = lk) (hr : Nat.ble (eg_cat r) 8 = true) (h : et_go none d k p L r G ck sk Z) : et_go none d k pc L (.ref a :: r) G ck sk Z := by
  unfold hs_sk at hc
  split at hc
  · rename_i i _ e
    split at hc
    · rename_i mi kd x hm
      split at hc
      · rename_i h0
        cases hc
        refine et_goS (fun q => ?_) h
        unfold eg_one
        rw [e]
        dsimp only
        rw [et_rr_no (ins := .invokespecial i) (fun h => nomatch (show false = true from h))]
        dsimp only
        rw [hs_sc]
        dsimp only
        show eg_iv (eg_rn q) none d k pc (0 + 2) i L (.ref a :: r) G ck sk = _
        rw [et_v2 hm, if_pos h0]
        dsimp only
        rw [if_pos ⟨Nat.le_of_ble_eq_true hr, hL⟩]
      · cases hc
    · cases hc
  · cases hc
def hs_pj (k pc : Nat) : Option (Nat × Nat × FieldType × Nat) := match eg_cd k pc with
  | some (.putfield i, _) => (match (eg_fT.getD (eg_mo k) []).lookup i with
    | some (ci, f, hh) => if (eg_fd ci f).2.2.2 = false ∨ (eg_in k = true ∧ hh = none ∧ (eg_fd ci f).1 = eg_on (eg_mo k)) then some (ci, f, (eg_yl.getD ci (fun _ => .int)) f, pc + 3) else none
    | none => none)
  | _ => none
theorem hs_putj {f : Nat} {ty : FieldType} {v : Value} (hc : hs_pj k pc = some (ci, f, ty, p)) (hg : eg_at G a = .inr (ci, fs)) (ha : eg_NC ≤ a ∧ a < G.2) (hl : f < fs.length) (ht : eg_fit ty v = true) (h : et_go none d k p L r (eg_u G a (.inr (ci, fs.set f v))) ck sk Z) : et_go none d k pc L (v :: .ref a :: r) G ck sk Z := by
  unfold hs_pj at hc
  split at hc
  · rename_i i _ e
    split at hc
    · rename_i ci' f' x hf
      split at hc
      · rename_i h0
        cases hc
        exact hs_st e rfl (by
          show eg_pf (eg_mo k) (eg_in k) i pc L (v :: .ref a :: r) G ck sk = _
          unfold eg_pf
          rw [hf]
          dsimp only
          rw [hg]
          dsimp only
          rw [if_pos ⟨ha.1, ha.2, rfl, hl, ht, h0⟩]) h
      · cases hc
    · cases hc
  · cases hc
def hs_na (k pc : Nat) : Option (Nat × Nat) := match eg_cd k pc with
  | some (.newarray t, 2) => (match eg_na t with
    | some (kd, _) => some (kd, pc + 2)
    | none => none)
  | some (.anewarray i, 3) => (match (eg_cT.getD (eg_mo k) []).lookup i with
    | some ci => if 5 ≤ eg_ek ci ∧ eg_ek ci < 11 then some (eg_ek ci, pc + 3) else none
    | none => none)
  | _ => none
theorem ht_na {n kd : Nat} (hc : hs_na k pc = some (kd, p)) (ht : et_ta et_TT kd n = some t) (hn : (Int32.ofNat n).toNatClampNeg = n ∧ 0 ≤ (Int32.ofNat n).toInt ∧ (Int32.ofNat n).toInt ≤ 65536) (h1 : ck + 1 ≤ 600002) (h2 : sk + n ≤ 7302232) (hH : et_H et_TT K G) (h : ∀ (K' : et_K) (G' : eg_G) (b : Nat), et_ex K K' → et_fr [] K G G' → et_H et_TT K' G' → K' b = some t → (∀ a, a < G.2 → K' a = K a ∧ eg_at G' a = eg_at G a) → G.2 < G'.2 → et_go none d k p L (.ref b :: r) G' (ck + 1) (sk + n) Z) : et_go none d k pc L (.int (Int32.ofNat n) :: r) G ck sk Z := by
  have key : ∀ (x : vp_A), x.1 = n → (∀ i, eg_rd kd x i = some (et_dv0 kd)) → et_go none d k p L (.ref G.2 :: r) (eg_p G (.inl (kd, x))) (ck + 1) (sk + n) Z := fun x e1 e2 => by
    obtain ⟨a1, dd, a2, a3, a4⟩ := et_ta_ok (K := K) ht hH.2.1 e1 e2
    have h3 := et_H1 (M := []) hH a1 a2 a3 (a4 _)
    exact h _ _ G.2 h3.1 h3.2.1 h3.2.2 (if_pos rfl) (fun a ha => ⟨if_neg (Nat.ne_of_lt ha), et_at_p ha⟩) (Nat.lt_succ_self _)
  have h12 : ck + 1 ≤ eg_MC ∧ sk + n ≤ eg_MS := ⟨h1, h2⟩
  unfold hs_na at hc
  split at hc
  · rename_i t e
    split at hc
    · rename_i kd' f hna
      cases hc
      refine hs_st e rfl ?_ (key (f n) ?_ ?_)
      · dsimp only [eg_st]
        rw [hna]
        dsimp only
        rw [if_pos hn.2, hn.1]
        unfold eg_al
        rw [if_pos h12]
      · unfold eg_na at hna
        split at hna <;> cases hna <;> rfl
      · intro i
        unfold eg_na at hna
        split at hna <;> cases hna <;> rfl
    · cases hc
  · rename_i i e
    split at hc
    · rename_i cj hcj
      split at hc
      · rename_i h0
        cases hc
        refine hs_st e rfl ?_ (key (n, .inr (.inr (.inr (.inr (fun _ => none))))) rfl (fun i => ?_))
        · dsimp only [eg_st]
          rw [hcj]
          dsimp only
          rw [if_pos ⟨hn.2.1, hn.2.2, h0⟩, hn.1]
          unfold eg_al
          rw [if_pos h12]
        · unfold eg_rd et_dv0
          dsimp only
          rw [if_pos h0.1, if_neg (by omega), if_pos h0.1]
          rfl
      · cases hc
    · cases hc
  · cases hc
/-- an object at a that has no type yet -/
def pu (K : et_K) (G : eg_G) (a ci : Nat) (fs : List Value) : Prop := et_H et_TT K G ∧ (∀ t, ¬ K a = some t) ∧ eg_NC ≤ a ∧ a < G.2 ∧ eg_at G a = .inr (ci, fs)
theorem pu_new {c : eg_C} (hH : et_H et_TT K G) (hc : c = .inr (ci, fs)) : pu K (eg_p G c) G.2 ci fs ∧ et_fr [] K G (eg_p G c) := by
  refine ⟨⟨⟨Nat.le_succ_of_le hH.1, hH.2.1, fun a u h => ?_⟩, fun t h => absurd (hH.2.2 _ t h).1 (Nat.lt_irrefl _), hH.1, Nat.lt_succ_self _, by rw [et_at_ps hH.1]; exact hc⟩, ⟨Nat.le_succ _, fun a u h i _ => by rw [et_at_p (hH.2.2 a u h).1]⟩⟩
  obtain ⟨g1, g2, g3, d', hd', hc', hx'⟩ := hH.2.2 a u h
  exact ⟨Nat.lt_succ_of_lt g1, g2, g3, d', hd', by rw [et_at_p g1]; exact hc', by rw [et_at_p g1]; exact hx'⟩
theorem pu_put {f : Nat} {v : Value} (h : pu K G a ci fs) : pu K (eg_u G a (.inr (ci, fs.set f v))) a ci (fs.set f v) ∧ et_fr [] K G (eg_u G a (.inr (ci, fs.set f v))) := by
  obtain ⟨hH, hn, h1, h2, h3⟩ := h
  have hne : ∀ {a' u : Nat}, K a' = some u → ¬ a' = a := fun h e => hn _ (e ▸ h)
  refine ⟨⟨⟨hH.1, hH.2.1, fun a' u h => ?_⟩, hn, h1, h2, et_at_us h1⟩, Nat.le_refl _, fun a' u h i _ => by rw [et_at_u (hne h)]⟩
  obtain ⟨g1, g2, g3, d', hd', hc', hx'⟩ := hH.2.2 a' u h
  exact ⟨g1, g2, g3, d', hd', by rw [et_at_u (hne h)]; exact hc', by rw [et_at_u (hne h)]; exact hx'⟩
theorem pu_ex (h : pu K G a ci fs) (hk : ∀ a, a < G.2 → K' a = K a ∧ eg_at G' a = eg_at G a) (hl : G.2 < G'.2) (hH : et_H et_TT K' G') : pu K' G' a ci fs := by
  obtain ⟨-, hn, h1, h2, h3⟩ := h
  exact ⟨hH, fun t e => hn t ((hk a h2).1 ▸ e), h1, Nat.lt_trans h2 hl, (hk a h2).2.trans h3⟩
theorem pu_typ {ps : List et_P} (h : pu K G a ci fs) (ht : 2 ≤ t) (hd : et_TT[t]? = some (.inl (ci, ps))) (hc : et_c K (.inl (ci, ps)) (.inr (ci, fs))) (hci : ¬ ci = 4 ∧ ¬ ci = 11) : et_ex K (et_kn K a t) ∧ et_H et_TT (et_kn K a t) G ∧ et_kn K a t a = some t := by
  obtain ⟨hH, hn, h1, h2, h3⟩ := h
  have hx : et_ex K (et_kn K a t) := fun a' u h => by
    show (if a' = a then some t else K a') = some u
    rw [if_neg (fun e => hn _ (e ▸ h))]
    exact h
  refine ⟨hx, ⟨hH.1, fun a ha => hx _ _ (hH.2.1 a ha), fun a' u h => ?_⟩, if_pos rfl⟩
  have h : (if a' = a then some t else K a') = some u := h
  by_cases e : a' = a
  · subst e
    rw [if_pos rfl] at h
    cases h
    refine ⟨h2, fun e => absurd e (by omega), fun _ => h1, _, hd, ?_, ?_⟩
    · rw [h3]
      exact et_c_ex hx hc
    · rw [h3]
      exact ⟨fun h => absurd h hci.1, fun h => absurd h hci.2⟩
  · rw [if_neg e] at h
    obtain ⟨g1, g2, g3, d', hd', hc', hx'⟩ := hH.2.2 a' u h
    exact ⟨g1, g2, g3, d', hd', et_c_ex hx hc', hx'⟩
/-- how a constructor ends -/
def pu_Z (K : et_K) (G : eg_G) (a t c s : Nat) (u : eg_O) : Prop := ∃ K' : et_K, et_ex K K' ∧ et_fr [] K G u.2.1 ∧ et_H et_TT K' u.2.1 ∧ K' a = some t ∧ u.1 = .inl none ∧ u.2.2.1 = c ∧ u.2.2.2 = s
theorem pu_cb {c s : Nat} {u : eg_O} (hu : pu_Z K G a t c s u) (h : ∀ (K' : et_K) (G' : eg_G), et_ex K K' → et_fr [] K G G' → et_H et_TT K' G' → K' a = some t → et_go none d k (pc + 3) L r G' (ck + c) (sk + s) Z) : hs_cont d k pc L r ck sk Z u := by
  obtain ⟨K', h1, h2, h3, h4, e, h5, h6⟩ := hu
  obtain ⟨u1, u2, u3, u4⟩ := u
  have e : u1 = .inl none := e
  have h5 : u3 = c := h5
  have h6 : u4 = s := h6
  subst e h5 h6
  exact hs_cb (h K' u2 h1 h2 h3 h4)
theorem pu_rule {co d2 : Nat} (h : pu K G a 6 [.null, .null]) (hc : K co = some 6) : et_go none d2 88 0 (eg_en (eg_mL 88) [.ref a, .ref co]) [] G 0 0 (pu_Z K G a 8 0 0) := by
  rw [show eg_mL 88 = 2 from by decide +kernel]
  show et_go none d2 88 0 [some (.ref a), some (.ref co)] [] G 0 0 _
  refine hs_aload (i := 0) (p := 1) (by decide +kernel) rfl ?_
  refine hs_skip (lk := 2) (p := 4) (by decide +kernel) rfl rfl ?_
  refine hs_aload (i := 0) (p := 5) (by decide +kernel) rfl ?_
  refine hs_aload (i := 1) (p := 6) (by decide +kernel) rfl ?_
  refine hs_putj (ci := 6) (f := 0) (ty := .object "KnobEye$Node") (p := 9) (by decide +kernel) h.2.2.2.2 ⟨h.2.2.1, h.2.2.2.1⟩ (Nat.le_of_ble_eq_true rfl) rfl ?_
  obtain ⟨h1, f1⟩ := pu_put (f := 0) (v := .ref co) h
  obtain ⟨x2, hH2, k2⟩ := pu_typ (t := 8) h1 (by decide) rfl ⟨_, rfl, rfl, fun k p hk => by
    match k, hk with
    | 0, hk => cases hk; exact ⟨_, rfl, .inr (.inr ⟨by decide, _, rfl, hc⟩)⟩
    | 1, hk => cases hk; exact ⟨_, rfl, .inr (.inl ⟨by decide, rfl⟩)⟩
    | n + 2, hk => cases hk⟩ ⟨by decide, by decide⟩
  refine hs_vret (by decide +kernel) ?_
  exact ⟨_, x2, f1, hH2, k2, rfl, rfl, rfl⟩
theorem pu_claim {co d2 n : Nat} {x y : Int32} (h : pu K G a 0 [.null, .int 0, .int 0, .int 0]) (hc : K co = some 6) (hn : n ≤ 1) : et_go none d2 30 0 (eg_en (eg_mL 30) [.ref a, .ref co, .int x, .int y, .int (Int32.ofNat n)]) [] G 0 0 (pu_Z K G a 2 0 0) := by
  rw [show eg_mL 30 = 5 from by decide +kernel]
  show et_go none d2 30 0 [some (.ref a), some (.ref co), some (.int x), some (.int y), some (.int (Int32.ofNat n))] [] G 0 0 _
  refine hs_aload (i := 0) (p := 1) (by decide +kernel) rfl ?_
  refine hs_skip (lk := 5) (p := 4) (by decide +kernel) rfl rfl ?_
  refine hs_aload (i := 0) (p := 5) (by decide +kernel) rfl ?_
  refine hs_aload (i := 1) (p := 6) (by decide +kernel) rfl ?_
  refine hs_putj (ci := 0) (f := 0) (ty := .object "KnobEye$Node") (p := 9) (by decide +kernel) h.2.2.2.2 ⟨h.2.2.1, h.2.2.2.1⟩ (Nat.le_of_ble_eq_true rfl) rfl ?_
  obtain ⟨h1, f1⟩ := pu_put (f := 0) (v := .ref co) h
  refine hs_aload (i := 0) (p := 10) (by decide +kernel) rfl ?_
  refine hs_iload (i := 2) (p := 11) (by decide +kernel) rfl ?_
  refine hs_putj (ci := 0) (f := 1) (ty := .int) (p := 14) (by decide +kernel) h1.2.2.2.2 ⟨h1.2.2.1, h1.2.2.2.1⟩ (Nat.le_of_ble_eq_true rfl) rfl ?_
  obtain ⟨h2, f2⟩ := pu_put (f := 1) (v := .int x) h1
  refine hs_aload (i := 0) (p := 15) (by decide +kernel) rfl ?_
  refine hs_iload (i := 3) (p := 16) (by decide +kernel) rfl ?_
  refine hs_putj (ci := 0) (f := 2) (ty := .int) (p := 19) (by decide +kernel) h2.2.2.2.2 ⟨h2.2.2.1, h2.2.2.2.1⟩ (Nat.le_of_ble_eq_true rfl) rfl ?_
  obtain ⟨h3, f3⟩ := pu_put (f := 2) (v := .int y) h2
  refine hs_aload (i := 0) (p := 20) (by decide +kernel) rfl ?_
  refine hs_iload (i := 4) (p := 22) (by decide +kernel) rfl ?_
  refine hs_putj (ci := 0) (f := 3) (ty := .boolean) (p := 25) (by decide +kernel) h3.2.2.2.2 ⟨h3.2.2.1, h3.2.2.2.1⟩ (Nat.le_of_ble_eq_true rfl) (hi_fz hn) ?_
  obtain ⟨h4, f4⟩ := pu_put (f := 3) (v := .int (Int32.ofNat n)) h3
  obtain ⟨x5, hH5, k5⟩ := pu_typ (t := 2) h4 (by decide) rfl ⟨_, rfl, rfl, fun k p hk => by
    match k, hk with
    | 0, hk => cases hk; exact ⟨_, rfl, .inr (.inr ⟨by decide, _, rfl, hc⟩)⟩
    | 1, hk => cases hk; exact ⟨_, rfl, .inr hi_any⟩
    | 2, hk => cases hk; exact ⟨_, rfl, .inr hi_any⟩
    | 3, hk => cases hk; exact ⟨_, rfl, .inr (hi_nv (by omega) (by omega))⟩
    | n + 4, hk => cases hk⟩ ⟨by decide, by decide⟩
  refine hs_vret (by decide +kernel) ?_
  exact ⟨_, x5, ((f1.tr et_ex.rf f2).tr et_ex.rf f3).tr et_ex.rf f4, hH5, k5, rfl, rfl, rfl⟩
theorem pu_turner {d2 : Nat} (h : pu K G a 9 [.int 0, .null, .null, .null]) : et_go none d2 112 0 (eg_en (eg_mL 112) [.ref a]) [] G 0 0 (pu_Z K G a 11 3 30) := by
  rw [show eg_mL 112 = 1 from by decide +kernel]
  show et_go none d2 112 0 [some (.ref a)] [] G 0 0 _
  refine hs_aload (i := 0) (p := 1) (by decide +kernel) rfl ?_
  refine hs_skip (lk := 1) (p := 4) (by decide +kernel) rfl rfl ?_
  refine hs_aload (i := 0) (p := 5) (by decide +kernel) rfl ?_
  refine hs_k (x := Int32.ofNat 10) (p := 7) (by decide +kernel) ?_
  refine ht_na (kd := 3) (t := 26) (p := 9) (by decide +kernel) (by decide +kernel) (by decide) (by omega) (by omega) h.1 (fun K1 G1 b1 x1 f1 hH1 k1 e1 l1 => ?_)
  have h1 := pu_ex h e1 l1 hH1
  refine hs_putj (ci := 9) (f := 1) (ty := .array .boolean) (p := 12) (by decide +kernel) h1.2.2.2.2 ⟨h1.2.2.1, h1.2.2.2.1⟩ (Nat.le_of_ble_eq_true rfl) rfl ?_
  obtain ⟨h2, f2⟩ := pu_put (f := 1) (v := .ref b1) h1
  refine hs_aload (i := 0) (p := 13) (by decide +kernel) rfl ?_
  refine hs_k (x := Int32.ofNat 10) (p := 15) (by decide +kernel) ?_
  refine ht_na (kd := 0) (t := 16) (p := 17) (by decide +kernel) (by decide +kernel) (by decide) (by omega) (by omega) h2.1 (fun K3 G3 b3 x3 f3 hH3 k3 e3 l3 => ?_)
  have h3 := pu_ex h2 e3 l3 hH3
  refine hs_putj (ci := 9) (f := 2) (ty := .array .int) (p := 20) (by decide +kernel) h3.2.2.2.2 ⟨h3.2.2.1, h3.2.2.2.1⟩ (Nat.le_of_ble_eq_true rfl) rfl ?_
  obtain ⟨h4, f4⟩ := pu_put (f := 2) (v := .ref b3) h3
  refine hs_aload (i := 0) (p := 21) (by decide +kernel) rfl ?_
  refine hs_k (x := Int32.ofNat 10) (p := 23) (by decide +kernel) ?_
  refine ht_na (kd := 10) (t := 42) (p := 26) (by decide +kernel) (by decide +kernel) (by decide) (by omega) (by omega) h4.1 (fun K5 G5 b5 x5 f5 hH5 k5 e5 l5 => ?_)
  have h5 := pu_ex h4 e5 l5 hH5
  refine hs_putj (ci := 9) (f := 3) (ty := .array (.object "KnobEye$Node")) (p := 29) (by decide +kernel) h5.2.2.2.2 ⟨h5.2.2.1, h5.2.2.2.1⟩ (Nat.le_of_ble_eq_true rfl) rfl ?_
  obtain ⟨h6, f6⟩ := pu_put (f := 3) (v := .ref b5) h5
  obtain ⟨x7, hH7, k7⟩ := pu_typ (t := 11) h6 (by decide) rfl ⟨_, rfl, rfl, fun k p hk => by
    match k, hk with
    | 0, hk => cases hk; exact ⟨_, rfl, .inr ⟨0, rfl, by decide, by decide⟩⟩
    | 1, hk => cases hk; exact ⟨_, rfl, .inr (.inr ⟨by decide, _, rfl, x5 _ _ (x3 _ _ k1)⟩)⟩
    | 2, hk => cases hk; exact ⟨_, rfl, .inr (.inr ⟨by decide, _, rfl, x5 _ _ k3⟩)⟩
    | 3, hk => cases hk; exact ⟨_, rfl, .inr (.inr ⟨by decide, _, rfl, k5⟩)⟩
    | n + 4, hk => cases hk⟩ ⟨by decide, by decide⟩
  refine hs_vret (by decide +kernel) ?_
  have xx := x1.tr x3
  exact ⟨_, (xx.tr x5).tr x7, ((((f1.tr x1 f2).tr x1 f3).tr xx f4).tr xx f5).tr (xx.tr x5) f6, hH7, k7, rfl, rfl, rfl⟩
end HPU
