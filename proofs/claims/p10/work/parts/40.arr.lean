/-! THE HEAP: arrays -/
def et_sg : List (Nat × Nat × et_P) → Nat → Nat → Option et_P
  | [], _, _ => none
  | s :: t, lo, hi => if s.1 ≤ lo ∧ hi ≤ s.2.1 then some s.2.2 else et_sg t lo hi
def et_sp (kd : Nat) (ss : List (Nat × Nat × et_P)) (lo hi : Nat) : Option et_P := match et_sg ss lo hi with
  | some p => some p
  | none => if kd = 0 ∨ kd = 1 ∨ kd = 3 ∨ kd = 4 then some (.inl (et_mn, et_mx)) else if kd = 2 then some (.inr (.inl (et_lmn, et_lmx))) else none
def et_al (T : List et_D) (ins : Instr) (E : List et_N) (C : et_C) (pc : Nat) (L : eg_Ls) (st : List Value) (ck sk : Nat) : Option (List et_Y) := match st with
  | i :: .retAddr k :: r => (match et_ib E i, et_rb E (.retAddr k) with
    | some (lo, hi), some (nl, t) => if nl = 0 then (match T[t]? with
      | some (.inr (kd, n, ss)) => if 0 ≤ lo ∧ hi < n ∧ eg_ak ins kd = true then (match (if lo = hi then et_cl C k lo.toNat else none) with
        | some v => some [(E, C, pc + 1, L, et_cn E v :: r, ck, sk)]
        | none => (match et_sp kd ss lo.toNat hi.toNat with
          | some p => if E.length < 4294967296 then some [(E ++ [(p, none)], (if lo = hi then (k, lo.toNat, et_tk p E.length) :: C else C), pc + 1, L, et_tk p E.length :: r, ck, sk)] else none
          | none => none)) else none
      | _ => none) else none
    | _, _ => none)
  | _ => none
/-- may a value stand in an array of this kind -/
def et_vk (T : List et_D) (E : List et_N) (kd : Nat) (v : Value) : Bool := if kd = 0 ∨ kd = 1 ∨ kd = 3 ∨ kd = 4 then (et_ib E v).isSome else if kd = 2 then (et_lb E v).isSome else if 5 ≤ kd ∧ kd < 11 then (match v with
    | .null => true
    | .ref a => decide (a < 36) && decide (eg_el kd = 12)
    | _ => (match et_rb E v with
      | some (_, u) => (match T[u]? with
        | some (.inl (ci, _)) => decide (ci = eg_el kd)
        | _ => false)
      | none => false)) else false
def et_as1 (T : List et_D) (M : et_M) (ins : Instr) (E : List et_N) (C : et_C) (pc : Nat) (L : eg_Ls) (st : List Value) (ck sk : Nat) : Option (List et_Y) := match st with
  | v :: i :: .retAddr k :: r => (match et_ib E i, et_rb E (.retAddr k) with
    | some (lo, hi), some (nl, t) => if nl = 0 ∧ 2 ≤ t then (match T[t]? with
      | some (.inr (kd, n, ss)) => if 0 ≤ lo ∧ hi < n ∧ eg_ak ins kd = true ∧ et_vk T E kd v = true ∧ (ss.all (fun s => decide (s.2.1 < lo.toNat) || (decide (hi.toNat < s.1) || (((!decide (kd = 1 ∨ kd = 3 ∨ kd = 4)) && et_ft E s.2.2 v) || (decide (kd = 3) && decide (s.2.2 = .inl (0, 1))))))) = true ∧ (M.any (fun q => (q.1 == t) && (decide (q.2.1 ≤ lo.toNat) && decide (hi.toNat ≤ q.2.2)))) = true ∧ (¬ (kd = 0 ∧ (n = 12741 ∨ n = 11900)) ∨ hi < 126 ∨ 11900 ≤ lo) then
          some [(E, (if lo = hi ∧ ¬ (kd = 1 ∨ kd = 3 ∨ kd = 4) then (k, lo.toNat, v) :: C.filter (et_kp E t lo.toNat hi.toNat) else C.filter (et_kp E t lo.toNat hi.toNat)), pc + 1, L, r, ck, sk)] else none
      | _ => none) else none
    | _, _ => none)
  | _ => none
section ETI
variable {T : List et_D} {M : et_M} {K : et_K} {R : List Value} {E : List et_N} {C : et_C} {o idx pc len ck sk i c0 s0 mc ms : Nat} {ini : Bool} {L L2 : eg_Ls} {st st2 : List Value} {G : eg_G} {l : List et_Y}
theorem et_sg_in {p : et_P} {lo hi : Nat} : ∀ {ss : List (Nat × Nat × et_P)}, et_sg ss lo hi = some p → ∃ s ∈ ss, s.1 ≤ lo ∧ hi ≤ s.2.1 ∧ s.2.2 = p
  | [], h => by cases h
  | s :: t, h => by
    unfold et_sg at h
    split at h
    · rename_i hc
      cases h
      exact ⟨s, List.mem_cons_self, hc.1, hc.2, rfl⟩
    · obtain ⟨s', h1, h2⟩ := et_sg_in h
      exact ⟨s', List.mem_cons_of_mem _ h1, h2⟩
theorem et_rd_i {kd : Nat} {x : vp_A} {i : Nat} {v : Value} (h : eg_rd kd x i = some v) (hk : kd = 0 ∨ kd = 1 ∨ kd = 3 ∨ kd = 4) : ∃ f : Nat → Int32, x.2 = .inl f ∧ v = .int (f i) := by
  obtain ⟨n, f | fl | fa | fb | fo⟩ := x
  · unfold eg_rd at h
    dsimp only at h
    rw [if_pos hk] at h
    cases h
    exact ⟨f, rfl, rfl⟩
  · unfold eg_rd at h
    dsimp only at h
    split at h
    · omega
    · cases h
  · cases h
  · cases h
  · unfold eg_rd at h
    dsimp only at h
    split at h
    · omega
    · cases h
theorem et_rd_l {x : vp_A} {i : Nat} {v : Value} (h : eg_rd 2 x i = some v) : ∃ f : Nat → Int64, x.2 = .inr (.inl f) ∧ v = .long (f i) := by
  obtain ⟨n, f | fl | fa | fb | fo⟩ := x
  · cases h
  · cases h
    exact ⟨fl, rfl, rfl⟩
  · cases h
  · cases h
  · cases h
theorem et_rd_r {kd : Nat} {x : vp_A} {i : Nat} {v : Value} (h : eg_rd kd x i = some v) (hk : 5 ≤ kd) : ∃ f : Nat → Option Nat, x.2 = .inr (.inr (.inr (.inr f))) ∧ v = va_rf (f i) := by
  obtain ⟨n, f | fl | fa | fb | fo⟩ := x
  · unfold eg_rd at h
    dsimp only at h
    split at h
    · omega
    · cases h
  · unfold eg_rd at h
    dsimp only at h
    split at h
    · omega
    · cases h
  · cases h
  · cases h
  · unfold eg_rd at h
    dsimp only at h
    rw [if_pos hk] at h
    cases h
    exact ⟨fo, rfl, rfl⟩
theorem et_sp_ok {kd lo hi j n : Nat} {ss : List (Nat × Nat × et_P)} {p : et_P} {x : vp_A} (h : et_sp kd ss lo hi = some p) (hj1 : lo ≤ j) (hj2 : j ≤ hi) (hjn : j < n) (hr : ∀ i, i < n → ∃ v, eg_rd kd x i = some v) (hs : ∀ s ∈ ss, ∀ i, s.1 ≤ i → i ≤ s.2.1 → i < n → ∃ v, eg_rd kd x i = some v ∧ et_v K s.2.2 v) : ∃ v, eg_rd kd x j = some v ∧ et_v K p v := by
  unfold et_sp at h
  split at h
  · rename_i q hq
    cases h
    obtain ⟨s, h1, h2, h3, h4⟩ := et_sg_in hq
    obtain ⟨v, g1, g2⟩ := hs s h1 j (by omega) (by omega) hjn
    rw [h4] at g2
    exact ⟨v, g1, g2⟩
  · obtain ⟨v, hv⟩ := hr j hjn
    split at h
    · rename_i hk
      cases h
      obtain ⟨f, -, rfl⟩ := et_rd_i hv hk
      exact ⟨_, hv, _, rfl, et_any _⟩
    · split at h
      · rename_i hk
        subst hk
        cases h
        obtain ⟨f, -, rfl⟩ := et_rd_l hv
        exact ⟨_, hv, _, rfl, et_anyL _⟩
      · cases h
theorem et_nc {x : Int32} {lo hi : Int} (h0 : 0 ≤ lo) (h1 : lo ≤ x.toInt) (h2 : x.toInt ≤ hi) : lo.toNat ≤ x.toNatClampNeg ∧ x.toNatClampNeg ≤ hi.toNat := by
  show lo.toNat ≤ x.toInt.toNat ∧ x.toInt.toNat ≤ hi.toNat
  omega
theorem et_al_ok {ins : Instr} (h : et_al T ins E C pc L st ck sk = some l) (hI : et_I T K R E C L st G L2 st2) (h1 : c0 ≤ ck) (h2 : s0 ≤ sk) : ∃ Y ∈ l, et_J T M K R G (eg_ar ins pc L2 st2 G c0 s0) Y := by
  obtain ⟨hH, hE, hC, hL, hs⟩ := hI
  unfold et_al at h
  split at h
  · rename_i vi k r
    split at h
    · rename_i lo hi nl t hbi hb
      split at h
      · rename_i hn
        subst hn
        split at h
        · rename_i kd n ss hT
          split at h
          · rename_i hc
            obtain ⟨hc0, hc1, hak⟩ := hc
            obtain ⟨w, _, rfl, hw, _, r2, rfl, hv, hr⟩ := hs
            obtain ⟨x, rfl, x1, x2⟩ := et_ib_ok hbi hE hw
            obtain ⟨a, rfl, ha, hRa⟩ := et_obj hb hE hv
            obtain ⟨g1, g2, g3, d, hd, hcell, hcx⟩ := hH.2.2 a t ha
            rw [hT] at hd
            cases hd
            obtain ⟨y, e, ey, er, es⟩ := hcell
            obtain ⟨n1, n2⟩ := et_nc hc0 x1 x2
            have hxn : x.toNatClampNeg < n := by
              show x.toInt.toNat < n
              omega
            have har : ∀ v, eg_rd kd y x.toNatClampNeg = some v → eg_ar ins pc L2 (.int x :: .ref a :: r2) G c0 s0 = some (pc + 1, L2, v :: r2, G, c0, s0) := fun v hv => by
              unfold eg_ar
              dsimp only
              rw [e]
              dsimp only
              rw [if_pos ⟨g1, hak, by omega, by rw [ey]; omega⟩, hv]
            split at h
            · rename_i v hcl
              cases h
              split at hcl
              · rename_i elo
                obtain ⟨a2, w2, q1, -, q2, q3⟩ := hC _ (et_cl_in hcl)
                dsimp only at q1 q2 q3
                rw [hRa] at q1
                cases q1
                rw [e] at q2
                have q4 : (if lo.toNat < y.1 then eg_rd kd y lo.toNat else none) = some w2 := q2
                have elx : lo.toNat = x.toNatClampNeg := by omega
                split at q4
                · rw [elx] at q4
                  rw [har w2 q4]
                  exact ⟨_, List.mem_cons_self, et_j0 ⟨hH, hE, hC, hL, _, _, rfl, et_cn_ok hE q3, hr⟩ h1 h2⟩
                · cases q4
              · cases hcl
            · split at h
              · rename_i p hp
                split at h
                · rename_i hlen
                  cases h
                  obtain ⟨v, hv1, hv2⟩ := et_sp_ok hp n1 n2 hxn er es
                  rw [har v hv1]
                  refine ⟨_, List.mem_cons_self, et_jp ⟨hH, hE, hC, hL, hr⟩ hlen hv2 ?_ h1 h2⟩
                  split
                  · rename_i elo
                    have elx : lo.toNat = x.toNatClampNeg := by omega
                    intro q hq
                    rcases List.mem_cons.mp hq with rfl | hq
                    · refine ⟨a, v, et_get_mono hRa, g1, ?_, et_tk_ok hv2 hE.1 hlen⟩
                      rw [e]
                      show (if lo.toNat < y.1 then eg_rd kd y lo.toNat else none) = some v
                      rw [elx, if_pos (by rw [ey]; exact hxn), hv1]
                    · exact et_co_mono hC q hq
                  · exact et_co_mono hC
                · cases h
              · cases h
          · cases h
        · cases h
      · cases h
    · cases h
  · cases h
theorem et_nb (z : Int32) : 0 ≤ (vp_nar .boolean z).toInt ∧ (vp_nar .boolean z).toInt ≤ 1 := by
  have h : vp_nar .boolean z = z &&& 1 := rfl
  rw [h]
  exact et_and1 z 1 (by decide)
theorem et_vk_wr {kd : Nat} {v w : Value} {x : vp_A} {i : Nat} {v0 : Value} (h : et_vk T E kd v = true) (hH : et_H T K G) (hE : et_eo K R E) (hv : et_vr R v w) (h0 : eg_rd kd x i = some v0) : ∃ y w', eg_wr G kd x i w = some y ∧ y.1 = x.1 ∧ (∀ j, ¬ j = i → eg_rd kd y j = eg_rd kd x j) ∧ eg_rd kd y i = some w' ∧ (¬ (kd = 1 ∨ kd = 3 ∨ kd = 4) → w' = w) ∧ (kd = 3 → ∃ x, w' = .int x ∧ 0 ≤ x.toInt ∧ x.toInt ≤ 1) := by
  unfold et_vk at h
  split at h
  · rename_i hk
    cases hb : et_ib E v with
    | none => rw [hb] at h; cases h
    | some p =>
      obtain ⟨z, rfl, -⟩ := et_ib_ok (a := p.1) (b := p.2) hb hE hv
      obtain ⟨f, ex, -⟩ := et_rd_i h0 hk
      obtain ⟨n, x2⟩ := x
      have ex : x2 = .inl f := ex
      subst ex
      have hup : ∀ z' : Int32, (∀ j, ¬ j = i → eg_rd kd (n, .inl (upd f i z')) j = eg_rd kd (n, .inl f) j) ∧ eg_rd kd (n, .inl (upd f i z')) i = some (.int z') := fun z' => by
        refine ⟨fun j hj => ?_, ?_⟩
        · unfold eg_rd
          dsimp only
          rw [if_pos hk, if_pos hk]
          unfold upd
          rw [if_neg hj]
        · unfold eg_rd
          dsimp only
          rw [if_pos hk]
          unfold upd
          rw [if_pos rfl]
      rcases hk with rfl | rfl | rfl | rfl
      · exact ⟨_, _, rfl, rfl, (hup z).1, (hup z).2, fun _ => rfl, fun e => absurd e (by decide)⟩
      · exact ⟨_, _, rfl, rfl, (hup _).1, (hup _).2, fun h => absurd (.inl rfl) h, fun e => absurd e (by decide)⟩
      · exact ⟨_, _, rfl, rfl, (hup _).1, (hup _).2, fun h => absurd (.inr (.inl rfl)) h, fun _ => ⟨_, rfl, et_nb z⟩⟩
      · exact ⟨_, _, rfl, rfl, (hup _).1, (hup _).2, fun h => absurd (.inr (.inr rfl)) h, fun e => absurd e (by decide)⟩
  · split at h
    · rename_i hk
      subst hk
      cases hb : et_lb E v with
      | none => rw [hb] at h; cases h
      | some p =>
        obtain ⟨z, rfl, -⟩ := et_lb_ok (a := p.1) (b := p.2) hb hE hv
        obtain ⟨f, ex, -⟩ := et_rd_l h0
        obtain ⟨n, x2⟩ := x
        have ex : x2 = .inr (.inl f) := ex
        subst ex
        refine ⟨_, .long z, rfl, rfl, fun j hj => ?_, ?_, fun _ => rfl, fun e => absurd e (by decide)⟩
        · show some (Value.long (vp_updL f i z j)) = some (.long (f j))
          unfold vp_updL
          rw [if_neg hj]
        · show some (Value.long (vp_updL f i z i)) = some (.long z)
          unfold vp_updL
          rw [if_pos rfl]
    · split at h
      · rename_i hk
        obtain ⟨f, ex, -⟩ := et_rd_r h0 hk.1
        obtain ⟨n, x2⟩ := x
        have ex : x2 = .inr (.inr (.inr (.inr f))) := ex
        subst ex
        have hrd : ∀ (g : Nat → Option Nat) (j : Nat), eg_rd kd (n, .inr (.inr (.inr (.inr g)))) j = some (va_rf (g j)) := fun g j => by
          unfold eg_rd
          dsimp only
          rw [if_pos hk.1]
        have hnull : w = .null → ∃ y w', eg_wr G kd (n, .inr (.inr (.inr (.inr f)))) i w = some y ∧ y.1 = n ∧ (∀ j, ¬ j = i → eg_rd kd y j = eg_rd kd (n, .inr (.inr (.inr (.inr f)))) j) ∧ eg_rd kd y i = some w' ∧ (¬ (kd = 1 ∨ kd = 3 ∨ kd = 4) → w' = w) ∧ (kd = 3 → ∃ x, w' = .int x ∧ 0 ≤ x.toInt ∧ x.toInt ≤ 1) := fun e => by
          subst e
          refine ⟨(n, .inr (.inr (.inr (.inr (va_up f i none))))), .null, ?_, rfl, fun j hj => ?_, ?_, fun _ => rfl, fun e => absurd e (by omega)⟩
          · unfold eg_wr
            dsimp only
            rw [if_pos hk]
          · rw [hrd, hrd]
            unfold va_up
            rw [if_neg hj]
          · rw [hrd]
            unfold va_up
            rw [if_pos rfl]
            rfl
        have href : ∀ a, w = .ref a → a < G.2 → eg_is (eg_at G a) (eg_el kd) = true → ∃ y w', eg_wr G kd (n, .inr (.inr (.inr (.inr f)))) i w = some y ∧ y.1 = n ∧ (∀ j, ¬ j = i → eg_rd kd y j = eg_rd kd (n, .inr (.inr (.inr (.inr f)))) j) ∧ eg_rd kd y i = some w' ∧ (¬ (kd = 1 ∨ kd = 3 ∨ kd = 4) → w' = w) ∧ (kd = 3 → ∃ x, w' = .int x ∧ 0 ≤ x.toInt ∧ x.toInt ≤ 1) := fun a e ha hs => by
          subst e
          refine ⟨(n, .inr (.inr (.inr (.inr (va_up f i (some a)))))), .ref a, ?_, rfl, fun j hj => ?_, ?_, fun _ => rfl, fun e => absurd e (by omega)⟩
          · unfold eg_wr
            dsimp only
            rw [if_pos ⟨ha, hk.1, hk.2, hs⟩]
          · rw [hrd, hrd]
            unfold va_up
            rw [if_neg hj]
          · rw [hrd]
            unfold va_up
            rw [if_pos rfl]
            rfl
        split at h
        · exact hnull hv
        · rename_i a
          rw [Bool.and_eq_true] at h
          have h3 := of_decide_eq_true h.1
          have h4 := of_decide_eq_true h.2
          refine href a hv (hH.2.2 a 0 (hH.2.1 a h3)).1 ?_
          have h5 : eg_at G a = eg_con a := if_pos (Nat.lt_of_lt_of_le h3 (by decide))
          rw [h5, h4]
          unfold eg_con
          rw [if_pos h3]
          rfl
        · split at h
          · rename_i nl u hb
            split at h
            · rename_i ci ps hT
              have h3 := of_decide_eq_true h
              rcases et_rb_ok hb hE hv with ⟨-, e⟩ | ⟨-, a, e, ha⟩
              · exact hnull e
              · obtain ⟨g1, -, -, d, hd, hcell, hcx⟩ := hH.2.2 a u ha
                rw [hT] at hd
                cases hd
                obtain ⟨fs, e2, -⟩ := hcell
                refine href a e g1 ?_
                rw [e2, h3]
                show (eg_el kd == eg_el kd) = true
                exact beq_self_eq_true _
            · cases h
          · cases h
      · cases h
theorem et_as1_ok {ins : Instr} (h : et_as1 T M ins E C pc L st ck sk = some l) (hI : et_I T K R E C L st G L2 st2) (h1 : c0 ≤ ck) (h2 : s0 ≤ sk) : ∃ Y ∈ l, et_J T M K R G (eg_aw ins pc L2 st2 G c0 s0) Y := by
  obtain ⟨hH, hE, hC, hL, hs⟩ := hI
  unfold et_as1 at h
  split at h
  · rename_i v vi k r
    split at h
    · rename_i lo hi nl t hbi hb
      split at h
      · rename_i hn
        obtain ⟨rfl, ht⟩ := hn
        split at h
        · rename_i kd n ss hT
          split at h
          · rename_i hc
            obtain ⟨hc0, hc1, hak, hvk, hss, hM, hpx⟩ := hc
            cases h
            obtain ⟨w, _, rfl, hw, wi, _, rfl, hwi, _, r2, rfl, hv, hr⟩ := hs
            obtain ⟨x, rfl, x1, x2⟩ := et_ib_ok hbi hE hwi
            obtain ⟨a, rfl, ha, hRa⟩ := et_obj hb hE hv
            obtain ⟨g1, g2, g3, d, hd, hcell, hcx⟩ := hH.2.2 a t ha
            rw [hT] at hd
            cases hd
            obtain ⟨y, e, ey, er, es⟩ := hcell
            obtain ⟨n1, n2⟩ := et_nc hc0 x1 x2
            have hxn : x.toNatClampNeg < n := by
              show x.toInt.toNat < n
              omega
            obtain ⟨v0, hv0⟩ := er x.toNatClampNeg hxn
            obtain ⟨z, w', hz, hz1, hz2, hz3, hz4, hz5⟩ := et_vk_wr hvk hH hE hw hv0
            have haw : eg_aw ins pc L2 (w :: .int x :: .ref a :: r2) G c0 s0 = some (pc + 1, L2, r2, eg_u G a (.inl (kd, z)), c0, s0) := by
              unfold eg_aw
              dsimp only
              rw [e]
              dsimp only
              rw [if_pos ⟨g3 ht, g1, hak, by omega, by rw [ey]; omega⟩, hz]
            rw [haw]
            have hpl : ∀ i, ¬ (lo.toNat ≤ i ∧ i ≤ hi.toNat) → et_pl (.inl (kd, z)) i = et_pl (eg_at G a) i := fun i hi' => by
              rw [e]
              show (if i < z.1 then eg_rd kd z i else none) = (if i < y.1 then eg_rd kd y i else none)
              rw [hz1, hz2 i (fun e => hi' (by omega))]
            have hcell2 : et_c K (.inr (kd, n, ss)) (.inl (kd, z)) := by
              refine ⟨z, rfl, by rw [hz1]; exact ey, fun i hi' => ?_, fun s hs i i1 i2 i3 => ?_⟩
              · by_cases ei : i = x.toNatClampNeg
                · rw [ei]
                  exact ⟨w', hz3⟩
                · rw [hz2 i ei]
                  exact er i hi'
              · by_cases ei : i = x.toNatClampNeg
                · rw [ei]
                  refine ⟨w', hz3, ?_⟩
                  have h9 := List.all_eq_true.mp hss s hs
                  rw [Bool.or_eq_true, Bool.or_eq_true, Bool.or_eq_true, Bool.and_eq_true, Bool.and_eq_true] at h9
                  rcases h9 with h9 | h9 | h9 | h9
                  · have := of_decide_eq_true h9
                    omega
                  · have := of_decide_eq_true h9
                    omega
                  · have h8 : ¬ (kd = 1 ∨ kd = 3 ∨ kd = 4) := by
                      have := h9.1
                      simpa using this
                    rw [hz4 h8]
                    exact et_ft_ok h9.2 hE hH.2.1 hw
                  · rw [of_decide_eq_true h9.2]
                    exact hz5 (of_decide_eq_true h9.1)
                · rw [hz2 i ei]
                  exact es s hs i i1 i2 i3
            have hM2 : ∀ i, lo.toNat ≤ i → i ≤ hi.toNat → et_mm M t i = true := fun i i1 i2 => by
              obtain ⟨q, hq, hq2⟩ := List.any_eq_true.mp hM
              rw [Bool.and_eq_true, Bool.and_eq_true] at hq2
              have q1 := of_decide_eq_true hq2.2.1
              have q2 := of_decide_eq_true hq2.2.2
              unfold et_mm
              refine List.any_eq_true.mpr ⟨q, hq, ?_⟩
              rw [Bool.and_eq_true, Bool.and_eq_true]
              exact ⟨hq2.1, decide_eq_true (by omega), decide_eq_true (by omega)⟩
            have hco := et_co_u hH hE hC ha ht hpl
            refine ⟨_, List.mem_cons_self, K, [], L2, r2, _, c0, s0, rfl, et_ex.rf, et_fr_u hH ha ht hM2 hpl, ?_, h1, h2⟩
            rw [List.append_nil]
            refine ⟨et_H_u hH ha ht hT hcell2 (et_cx_u (K := K) hcx ⟨y, e, ey, er, es⟩ (fun i hi' => hpl i (fun h => ?_))), hE, ?_, hL, hr⟩
            · unfold et_px at hi'
              simp only [Bool.and_eq_true, decide_eq_true_eq] at hi'
              rcases hpx with hpx | hpx | hpx
              · exact hpx hi'.1
              · clear hz5
                omega
              · clear hz5
                omega
            dsimp only
            split
            · rename_i hlo
              intro q hq
              rcases List.mem_cons.mp hq with rfl | hq
              · refine ⟨a, w, hRa, g1, ?_, hw⟩
                rw [et_at_us (g3 ht)]
                show (if lo.toNat < z.1 then eg_rd kd z lo.toNat else none) = some w
                have elx : lo.toNat = x.toNatClampNeg := by
                  clear hz5
                  omega
                rw [elx, if_pos (by rw [hz1, ey]; exact hxn), hz3, hz4 hlo.2]
              · exact hco q hq
            · exact hco
          · cases h
        · cases h
      · cases h
    · cases h
  · cases h
end ETI
