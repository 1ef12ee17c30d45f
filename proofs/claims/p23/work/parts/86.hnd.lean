/-! BY HAND: conditions -/
section HNA
variable {d k pc ck sk : Nat} {L : eg_Ls} {st r : List Value} {G : eg_G} {Z : eg_O → Prop}
theorem hs_aload0 {i p : Nat} (hc : hs_al k pc = some (i, p)) (hv : eg_ld L i = some .null) (h : et_go none d k p L (.null :: st) G ck sk Z) : et_go none d k pc L st G ck sk Z := by
  unfold hs_al at hc
  split at hc
  · rename_i e
    cases hc
    exact hs_st e rfl (by show eg_la pc L st G ck sk _ 2 = _; unfold eg_la; rw [hv]) h
  · rename_i e
    cases hc
    exact hs_st e rfl (by show eg_la pc L st G ck sk _ 1 = _; unfold eg_la; rw [hv]) h
  · cases hc
theorem hs_astore0 {i p : Nat} (hc : hs_as k pc = some (i, p)) (hl : i < L.length) (h : et_go none d k p (eg_s1 L i .null) st G ck sk Z) : et_go none d k pc L (.null :: st) G ck sk Z := by
  unfold hs_as at hc
  split at hc
  · rename_i e
    cases hc
    exact hs_st e rfl (by show eg_sa pc L (.null :: st) G ck sk _ 2 = _; unfold eg_sa; dsimp only; rw [if_pos hl]) h
  · rename_i e
    cases hc
    exact hs_st e rfl (by show eg_sa pc L (.null :: st) G ck sk _ 1 = _; unfold eg_sa; dsimp only; rw [if_pos hl]) h
  · cases hc
def hs_nu (k pc : Nat) : Option (Bool × Nat × Nat) := match eg_cd k pc with
  | some (.ifnull off, _) => if 0 ≤ (pc : Int) + off then some (true, eg_tg pc off, pc + 3) else none
  | some (.ifnonnull off, _) => if 0 ≤ (pc : Int) + off then some (false, eg_tg pc off, pc + 3) else none
  | _ => none
theorem hs_ifnull0 {p : Nat} (hc : (hs_nu k pc).map (fun q => (q.1, q.2.1)) = some (true, p)) (h : et_go none d k p L r G ck sk Z) : et_go none d k pc L (.null :: r) G ck sk Z := by
  unfold hs_nu at hc
  split at hc
  · rename_i off _ e
    split at hc
    · rename_i h0
      cases hc
      exact hs_st e rfl (by show (if 0 ≤ (pc : Int) + off then _ else _) = _; rw [if_pos h0]) h
    · cases hc
  · split at hc <;> cases hc
  · cases hc
theorem hs_ifnull1 {p a : Nat} (hc : (hs_nu k pc).map (fun q => (q.1, q.2.2)) = some (true, p)) (h : et_go none d k p L r G ck sk Z) : et_go none d k pc L (.ref a :: r) G ck sk Z := by
  unfold hs_nu at hc
  split at hc
  · rename_i off _ e
    split at hc
    · cases hc
      exact hs_st e rfl rfl h
    · cases hc
  · split at hc <;> cases hc
  · cases hc
theorem hs_ifnonnull0 {p : Nat} (hc : (hs_nu k pc).map (fun q => (q.1, q.2.2)) = some (false, p)) (h : et_go none d k p L r G ck sk Z) : et_go none d k pc L (.null :: r) G ck sk Z := by
  unfold hs_nu at hc
  split at hc
  · split at hc <;> cases hc
  · rename_i off _ e
    split at hc
    · cases hc
      exact hs_st e rfl rfl h
    · cases hc
  · cases hc
theorem hs_ifnonnull1 {p a : Nat} (hc : (hs_nu k pc).map (fun q => (q.1, q.2.1)) = some (false, p)) (h : et_go none d k p L r G ck sk Z) : et_go none d k pc L (.ref a :: r) G ck sk Z := by
  unfold hs_nu at hc
  split at hc
  · split at hc <;> cases hc
  · rename_i off _ e
    split at hc
    · rename_i h0
      cases hc
      exact hs_st e rfl (by show (if 0 ≤ (pc : Int) + off then _ else _) = _; rw [if_pos h0]) h
    · cases hc
  · cases hc
theorem hs_lret {x : Int64} (hc : eg_cd k pc = some (.lreturn, 1) ∧ eg_mr k = some .long) (h : Z (.inl (some (.long x)), G, ck, sk)) : et_go none d k pc L [.long x] G ck sk Z := by
  refine et_goR (u := (.inl (some (.long x)), G, ck, sk)) (fun q => ?_) h
  unfold eg_one
  rw [hc.1]
  dsimp only
  rw [hc.2]
  rfl
theorem hs_tsw {dd lo hi : Int} {offs : Array Int} {len : Nat} {x : Int32} (hc : eg_cd k pc = some (.tableswitch dd lo hi offs, len)) (h0 : (decide (0 ≤ (pc : Int) + dd) && (offs.toList.all (fun off => decide (0 ≤ (pc : Int) + off)) && decide (hi - lo < offs.size))) = true) (h1 : et_go none d k (eg_tg pc dd) L r G ck sk Z) (h2 : ∀ off ∈ offs.toList, et_go none d k (eg_tg pc off) L r G ck sk Z) : et_go none d k pc L (.int x :: r) G ck sk Z := by
  rw [Bool.and_eq_true, Bool.and_eq_true] at h0
  have a1 := of_decide_eq_true h0.1
  have a2 := of_decide_eq_true h0.2.2
  by_cases hx : x.toInt < lo ∨ hi < x.toInt
  · exact hs_st hc rfl (by
      show (if x.toInt < lo ∨ hi < x.toInt then _ else _) = _
      rw [if_pos hx, if_pos a1]) h1
  · have hlt : (x.toInt - lo).toNat < offs.size := by omega
    have hm : offs[(x.toInt - lo).toNat]? = some offs[(x.toInt - lo).toNat] := Array.getElem?_eq_getElem hlt
    have hin : offs[(x.toInt - lo).toNat] ∈ offs.toList := Array.getElem_mem_toList hlt
    exact hs_st hc rfl (by
      show (if x.toInt < lo ∨ hi < x.toInt then _ else (match offs[(x.toInt - lo).toNat]? with
        | some off => if 0 ≤ (pc : Int) + off then some (eg_tg pc off, L, r, G, ck, sk) else none
        | none => none)) = _
      rw [if_neg hx, hm]
      dsimp only
      rw [if_pos (of_decide_eq_true (List.all_eq_true.mp h0.2.1 _ hin))]) (h2 _ hin)
end HNA
/-- a field that may be null -/
theorem hi_q {K : et_K} {t : Nat} {v : Value} (h : et_v K (.inr (.inr (1, t))) v) : v = .null ∨ ∃ a, v = .ref a ∧ K a = some t := by
  rcases h with ⟨-, h⟩ | ⟨-, a, h, h2⟩
  · exact .inl h
  · exact .inr ⟨a, h, h2⟩
theorem hn_next {K : et_K} {G : eg_G} {b : Nat} {v : Value} (hH : et_H et_TT K G) (hb : K b = some 6) (e : et_pl (eg_at G b) 1 = some v) : v = .null ∨ ∃ a, v = .ref a ∧ K a = some 6 ∧ b < a ∧ a < G.2 := by
  obtain ⟨-, -, -, dd, hd, hc, hx⟩ := hH.2.2 b 6 hb
  cases hd
  obtain ⟨fs, ef, el, hf⟩ := hc
  obtain ⟨u, hu1, hu2⟩ := hf 1 (.inr (.inr (1, 6))) rfl
  rw [ef] at e hx
  have e : fs[1]? = some v := e
  rw [hu1] at e
  cases e
  rcases hi_q (hu2.resolve_left (by decide)) with rfl | ⟨a, rfl, ha⟩
  · exact .inl rfl
  · exact .inr ⟨a, rfl, ha, hx.1 rfl a hu1, (hH.2.2 a 6 ha).1⟩
theorem hn_fld {K : et_K} {G : eg_G} {b f : Nat} {v : Value} (hf : f = 2 ∨ f = 3) (hH : et_H et_TT K G) (hb : K b = some 6) (e : et_pl (eg_at G b) f = some v) : v = .null ∨ ∃ a, v = .ref a ∧ K a = some 6 := by
  obtain ⟨-, -, -, dd, hd, hc, hx⟩ := hH.2.2 b 6 hb
  cases hd
  obtain ⟨fs, ef, el, hff⟩ := hc
  obtain ⟨u, hu1, hu2⟩ := hff f (.inr (.inr (1, 6))) (by rcases hf with rfl | rfl <;> rfl)
  rw [ef] at e
  have e : fs[f]? = some v := e
  rw [hu1] at e
  cases e
  exact hi_q (hu2.resolve_left (by decide))
def an_no (k pc : Nat) : Option et_A := none
def hq_num : et_Co := (55, [.inr (.inr (0, 4)), .inr (.inr (0, 0))], [], [(.inl (some (.inr (.inl (et_lmn, et_lmx)))), 0, 0)], 5)
def hq_isSo : et_Co := (52, [.inr (.inr (0, 4)), .inr (.inr (0, 0)), .inl (et_mn, et_mx)], [], [(.inl (some (.inl (0, 1))), 0, 0)], 5)
theorem hc_num : et_cv et_TT hq_num := et_cok_ok (Ks := []) (an := an_no) (fun _ h => absurd h List.not_mem_nil) (by decide +kernel)
theorem hc_isSo : et_cv et_TT hq_isSo := et_cok_ok (Ks := []) (an := an_no) (fun _ h => absurd h List.not_mem_nil) (by decide +kernel)
def hq_sumOf : et_Co := (54, [.inr (.inr (0, 4)), .inr (.inr (1, 6))], [], [(.inl (some (.inr (.inl (et_lmn, et_lmx)))), 0, 0)], 8)
section RNA
variable {w : et_Wd} {K : et_K} {G : eg_G} {d th fa b0 : Nat}
theorem hn_sL (hH0 : et_H et_TT w.1 w.2.2) (hH : et_H et_TT K G) (hx0 : et_ex w.1 K) (hf : et_fr [] w.1 w.2.2 G) (k_fa : K fa = some 4) (z_b0 : w.1 b0 = some 6) {c1 : Nat} {sm : Int64} : et_go none (d + 6) 54 5 [some (.ref fa), some (.ref c1), some (.long sm), none, some (.ref b0)] [] G 0 0 (hi_Z et_TT w [] [(.inl (some (.inr (.inl (et_lmn, et_lmx)))), 0, 0)]) := by
  induction hm : w.2.2.2 - b0 using Nat.strongRecOn generalizing b0 sm K G with
  | _ z ih =>
    have k_b0 := hx0 _ _ z_b0
    have lb0 : b0 < w.2.2.2 := (hH0.2.2 _ 6 z_b0).1
    refine hs_aload (i := 4) (p := 7) (by decide +kernel) rfl ?_
    refine hs_ifnull1 (p := 10) (by decide +kernel) ?_
    refine hs_lload (i := 2) (p := 11) (by decide +kernel) rfl ?_
    refine hs_aload (i := 4) (p := 13) (by decide +kernel) rfl ?_
    refine ht_get (T := et_TT) (t := 6) (ci := 4) (f := 4) (p := 16) (by decide +kernel) rfl rfl rfl hH k_b0 (fun v13 h13 e13 => ?_)
    rcases hi_q h13 with rfl | ⟨b13, rfl, k_b13⟩
    · refine hs_ifnonnull0 (p := 19) (by decide +kernel) ?_
      refine hs_aload (i := 4) (p := 21) (by decide +kernel) rfl ?_
      refine ht_geti (T := et_TT) (t := 6) (ci := 4) (f := 5) (p := 24) (by decide +kernel) rfl rfl hH k_b0 (fun c21 h21 g21 e21 => ?_)
      refine hs_i2l (p := 25) (by decide +kernel) ?_
      refine hs_goto (p := 44) (by decide +kernel) ?_
      refine hs_ladd (p := 45) (by decide +kernel) ?_
      refine hs_lstore (i := 2) (p := 46) (by decide +kernel) (Nat.le_of_ble_eq_true rfl) ?_
      refine hs_aload (i := 4) (p := 48) (by decide +kernel) rfl ?_
      refine ht_get (T := et_TT) (t := 6) (ci := 4) (f := 1) (p := 51) (by decide +kernel) rfl rfl rfl hH k_b0 (fun v48 h48 e48 => ?_)
      rcases hn_next hH0 z_b0 ((hf.2 _ 6 z_b0 1 rfl).symm.trans e48) with rfl | ⟨b48, rfl, z_b48, lt48, lg48⟩
      · refine hs_astore0 (i := 4) (p := 53) (by decide +kernel) (Nat.le_of_ble_eq_true rfl) ?_
        refine hs_goto (p := 5) (by decide +kernel) ?_
        refine hs_aload0 (i := 4) (p := 7) (by decide +kernel) rfl ?_
        refine hs_ifnull0 (p := 56) (by decide +kernel) ?_
        refine hs_lload (i := 2) (p := 57) (by decide +kernel) rfl ?_
        refine hs_lret (by decide +kernel) ?_
        exact ⟨_, List.mem_cons_self, _, hx0, hf, hH, ⟨_, rfl, ⟨_, rfl, (et_anyL _).1, (et_anyL _).2⟩⟩, Nat.le_refl _, Nat.le_refl _⟩
      · refine hs_astore (i := 4) (p := 53) (by decide +kernel) (Nat.le_of_ble_eq_true rfl) ?_
        refine hs_goto (p := 5) (by decide +kernel) ?_
        show et_go none (d + 6) 54 5 [some (.ref fa), some (.ref c1), some (.long (sm + (c21).toInt64)), none, some (.ref b48)] [] _ 0 0 _
        exact ih (w.2.2.2 - b48) (by omega) hH hx0 hf k_fa z_b48 rfl
    · refine hs_ifnonnull1 (p := 28) (by decide +kernel) ?_
      refine hs_aload (i := 4) (p := 30) (by decide +kernel) rfl ?_
      refine ht_geti (T := et_TT) (t := 6) (ci := 4) (f := 5) (p := 33) (by decide +kernel) rfl rfl hH k_b0 (fun c30 h30 g30 e30 => ?_)
      refine hs_i2l (p := 34) (by decide +kernel) ?_
      refine hs_aload (i := 0) (p := 35) (by decide +kernel) rfl ?_
      refine hs_aload (i := 4) (p := 37) (by decide +kernel) rfl ?_
      refine ht_get (T := et_TT) (t := 6) (ci := 4) (f := 4) (p := 40) (by decide +kernel) rfl rfl rfl hH k_b0 (fun v37 h37 e37 => ?_)
      obtain rfl : v37 = .ref b13 := Option.some.inj (e37.symm.trans e13)
      refine ht_callv (T := et_TT) (t := 4) (mi := 55) (na := 1) (ci := 2) (lk := 5) (lm := 2) (L0 := eg_en (eg_mL 55) [.ref fa, .ref b13]) (by decide +kernel) rfl hH k_fa rfl rfl rfl rfl rfl (by rw [show eg_mL 55 = 2 from by decide +kernel]; first | done | rfl) ?_
      refine (hc_num (K, [], G) [.ref fa, .ref b13] _ hH (by omega) rfl (ht_ac (.inr ⟨by decide, _, rfl, k_fa⟩) (ht_ac (.inr ⟨by decide, _, rfl, k_b13⟩) ht_an))).mono (fun u hu => hs_cbv hu (fun v40 K40 G40 c40 s40 x40 f40 hH hv40 cl40 sl40 => ?_))
      have k_fa := x40 _ _ k_fa
      skip
      have k_b13 := x40 _ _ k_b13
      have hf := hf.tr hx0 (f40.wk (by decide +kernel))
      have hx0 := hx0.tr x40
      obtain rfl : c40 = 0 := Nat.le_zero.mp cl40
      obtain rfl : s40 = 0 := Nat.le_zero.mp sl40
      obtain ⟨y40, rfl, -⟩ := hv40
      show et_go none _ 54 43 _ [.long y40, .long ((c30).toInt64), .long sm] _ 0 _ _
      have k_b0 := hx0 _ _ z_b0
      refine hs_lmul (p := 44) (by decide +kernel) ?_
      refine hs_ladd (p := 45) (by decide +kernel) ?_
      refine hs_lstore (i := 2) (p := 46) (by decide +kernel) (Nat.le_of_ble_eq_true rfl) ?_
      refine hs_aload (i := 4) (p := 48) (by decide +kernel) rfl ?_
      refine ht_get (T := et_TT) (t := 6) (ci := 4) (f := 1) (p := 51) (by decide +kernel) rfl rfl rfl hH k_b0 (fun v48 h48 e48 => ?_)
      rcases hn_next hH0 z_b0 ((hf.2 _ 6 z_b0 1 rfl).symm.trans e48) with rfl | ⟨b48, rfl, z_b48, lt48, lg48⟩
      · refine hs_astore0 (i := 4) (p := 53) (by decide +kernel) (Nat.le_of_ble_eq_true rfl) ?_
        refine hs_goto (p := 5) (by decide +kernel) ?_
        refine hs_aload0 (i := 4) (p := 7) (by decide +kernel) rfl ?_
        refine hs_ifnull0 (p := 56) (by decide +kernel) ?_
        refine hs_lload (i := 2) (p := 57) (by decide +kernel) rfl ?_
        refine hs_lret (by decide +kernel) ?_
        exact ⟨_, List.mem_cons_self, _, hx0, hf, hH, ⟨_, rfl, ⟨_, rfl, (et_anyL _).1, (et_anyL _).2⟩⟩, Nat.le_refl _, Nat.le_refl _⟩
      · refine hs_astore (i := 4) (p := 53) (by decide +kernel) (Nat.le_of_ble_eq_true rfl) ?_
        refine hs_goto (p := 5) (by decide +kernel) ?_
        show et_go none (d + 6) 54 5 [some (.ref fa), some (.ref c1), some (.long (sm + ((c30).toInt64 * y40))), none, some (.ref b48)] [] _ 0 0 _
        exact ih (w.2.2.2 - b48) (by omega) hH hx0 hf k_fa z_b48 rfl
theorem hc_sumOf : et_cv et_TT hq_sumOf := by
  intro w as d2 hH hd hl hv
  obtain ⟨v, v1, rfl⟩ := hi_len2 (show as.length = 2 from hl)
  obtain ⟨fa, rfl, k_fa⟩ := hi_ref (hv 0 _ _ rfl rfl)
  obtain ⟨d, rfl⟩ : ∃ d, d2 = d + 6 := ⟨d2 - 6, by have : 8 ≤ d2 := hd; omega⟩
  have hx0 : et_ex w.1 w.1 := et_ex.rf
  have hf : et_fr [] w.1 w.2.2 w.2.2 := et_fr.rf
  have hH0 := hH
  rw [show eg_mL 54 = 5 from by decide +kernel]
  rcases hi_q (hv 1 _ _ rfl rfl) with rfl | ⟨b0, rfl, z_b0⟩
  · show et_go none (d + 6) 54 0 [some (.ref fa), some (.null), none, none, none] [] w.2.2 0 0 (hi_Z et_TT w [] [(.inl (some (.inr (.inl (et_lmn, et_lmx)))), 0, 0)])
    refine hs_lcon (x := (Int64.ofNat 0)) (p := 1) (by decide +kernel) ?_
    refine hs_lstore (i := 2) (p := 2) (by decide +kernel) (Nat.le_of_ble_eq_true rfl) ?_
    refine hs_aload0 (i := 1) (p := 3) (by decide +kernel) rfl ?_
    refine hs_astore0 (i := 4) (p := 5) (by decide +kernel) (Nat.le_of_ble_eq_true rfl) ?_
    refine hs_aload0 (i := 4) (p := 7) (by decide +kernel) rfl ?_
    refine hs_ifnull0 (p := 56) (by decide +kernel) ?_
    refine hs_lload (i := 2) (p := 57) (by decide +kernel) rfl ?_
    refine hs_lret (by decide +kernel) ?_
    exact ⟨_, List.mem_cons_self, _, hx0, hf, hH, ⟨_, rfl, ⟨_, rfl, (et_anyL _).1, (et_anyL _).2⟩⟩, Nat.le_refl _, Nat.le_refl _⟩
  · show et_go none (d + 6) 54 0 [some (.ref fa), some (.ref b0), none, none, none] [] w.2.2 0 0 (hi_Z et_TT w [] [(.inl (some (.inr (.inl (et_lmn, et_lmx)))), 0, 0)])
    refine hs_lcon (x := (Int64.ofNat 0)) (p := 1) (by decide +kernel) ?_
    refine hs_lstore (i := 2) (p := 2) (by decide +kernel) (Nat.le_of_ble_eq_true rfl) ?_
    refine hs_aload (i := 1) (p := 3) (by decide +kernel) rfl ?_
    refine hs_astore (i := 4) (p := 5) (by decide +kernel) (Nat.le_of_ble_eq_true rfl) ?_
    exact hn_sL hH0 hH hx0 hf k_fa z_b0
def hq_isT (j n : Nat) : et_Co := (60, [.inr (.inr (0, 6)), .inr (.inr (0, 4)), .inl ((j : Int), (j : Int))], [], [(.inl (some (.inl (0, 1))), 0, 0)], n + 9)
theorem hn_iL (hH0 : et_H et_TT w.1 w.2.2) (hH : et_H et_TT K G) (hx0 : et_ex w.1 K) (hf : et_fr [] w.1 w.2.2 G) (k_fa : K fa = some 4) (z_th : w.1 th = some 6) (z_b0 : w.1 b0 = some 6) {j n : Nat} (hj : j ≤ 21) (hrec : et_cv et_TT (hq_isT (j + 1) n)) : et_go none (d + n + 10) 60 125 [some (.ref th), some (.ref fa), some (.int (Int32.ofNat j)), some (.ref b0)] [] G 0 0 (hi_Z et_TT w [] [(.inl (some (.inl (0, 1))), 0, 0)]) := by
  induction hm : w.2.2.2 - b0 using Nat.strongRecOn generalizing b0 K G with
  | _ z ih =>
    have k_b0 := hx0 _ _ z_b0
    have k_th := hx0 _ _ z_th
    have lb0 : b0 < w.2.2.2 := (hH0.2.2 _ 6 z_b0).1
    refine hs_aload (i := 3) (p := 126) (by decide +kernel) rfl ?_
    refine hs_ifnull1 (p := 129) (by decide +kernel) ?_
    refine hs_aload (i := 3) (p := 130) (by decide +kernel) rfl ?_
    refine hs_aload (i := 1) (p := 131) (by decide +kernel) rfl ?_
    refine hs_iload (i := 2) (p := 132) (by decide +kernel) rfl ?_
    refine hs_k (x := Int32.ofNat 1) (p := 133) (by decide +kernel) ?_
    refine hs_iaddn (p := 134) (by decide +kernel) ?_
    have k_b0 := hx0 _ _ z_b0
    refine ht_callv (T := et_TT) (t := 6) (mi := 60) (na := 2) (ci := 4) (lk := 4) (lm := 4) (L0 := eg_en (eg_mL 60) [.ref b0, .ref fa, .int (Int32.ofNat (j + 1))]) (by decide +kernel) rfl hH k_b0 rfl rfl rfl rfl rfl (by rw [show eg_mL 60 = 4 from by decide +kernel]; first | done | rfl) ?_
    refine (hrec (K, [], G) [.ref b0, .ref fa, .int (Int32.ofNat (j + 1))] _ hH (by omega) rfl (ht_ac (.inr ⟨by decide, _, rfl, k_b0⟩) (ht_ac (.inr ⟨by decide, _, rfl, k_fa⟩) (ht_ac (hi_iv (by rw [hs_nint (by omega)]; omega) (by rw [hs_nint (by omega)]; omega)) ht_an)))).mono (fun u hu => hs_cbv hu (fun v134 K134 G134 c134 s134 x134 f134 hH hv134 cl134 sl134 => ?_))
    skip
    have k_fa := x134 _ _ k_fa
    skip
    have hf := hf.tr hx0 (f134.wk (by decide +kernel))
    have hx0 := hx0.tr x134
    obtain rfl : c134 = 0 := Nat.le_zero.mp cl134
    obtain rfl : s134 = 0 := Nat.le_zero.mp sl134
    obtain ⟨n134, hn134, rfl⟩ := hi_nat hv134
    show et_go none _ 60 137 _ [.int (Int32.ofNat n134)] _ 0 _ _
    have k_th := hx0 _ _ z_th
    have k_b0 := hx0 _ _ z_b0
    refine hs_aload (i := 0) (p := 138) (by decide +kernel) rfl ?_
    refine ht_geti (T := et_TT) (t := 6) (ci := 4) (f := 0) (p := 141) (by decide +kernel) rfl rfl hH k_th (fun c138 h138 g138 e138 => ?_)
    refine hs_br1 (c := .ne) (t := 148) (f := 144) (by decide +kernel) (fun (c141 : ¬ c138 = 0) => ?_) (fun (c141 : ¬ (¬ c138 = 0)) => ?_)
    · refine hs_k (x := Int32.ofNat 0) (p := 149) (by decide +kernel) ?_
      refine hs_br2n (c := .ne) (t := 166) (f := 152) (by decide +kernel) (by omega) (by omega) (fun (c149 : ¬ n134 = 0) => ?_) (fun (c149 : ¬ (¬ n134 = 0)) => ?_)
      · refine hs_aload (i := 3) (p := 167) (by decide +kernel) rfl ?_
        refine ht_get (T := et_TT) (t := 6) (ci := 4) (f := 1) (p := 170) (by decide +kernel) rfl rfl rfl hH k_b0 (fun v167 h167 e167 => ?_)
        rcases hn_next hH0 z_b0 ((hf.2 _ 6 z_b0 1 rfl).symm.trans e167) with rfl | ⟨b167, rfl, z_b167, lt167, lg167⟩
        · refine hs_astore0 (i := 3) (p := 171) (by decide +kernel) (Nat.le_of_ble_eq_true rfl) ?_
          refine hs_goto (p := 125) (by decide +kernel) ?_
          refine hs_aload0 (i := 3) (p := 126) (by decide +kernel) rfl ?_
          refine hs_ifnull0 (p := 174) (by decide +kernel) ?_
          refine hs_aload (i := 0) (p := 175) (by decide +kernel) rfl ?_
          refine ht_geti (T := et_TT) (t := 6) (ci := 4) (f := 0) (p := 178) (by decide +kernel) rfl rfl hH k_th (fun c175 h175 g175 e175 => ?_)
          refine hs_k (x := Int32.ofNat 1) (p := 179) (by decide +kernel) ?_
          refine hs_br2 (c := .ne) (t := 186) (f := 182) (by decide +kernel) (fun (c179 : ¬ c175 = Int32.ofNat 1) => ?_) (fun (c179 : ¬ (¬ c175 = Int32.ofNat 1)) => ?_)
          · refine hs_k (x := Int32.ofNat 0) (p := 187) (by decide +kernel) ?_
            refine hs_zret (by decide +kernel) (.inl rfl) ?_
            exact ⟨_, List.mem_cons_self, _, hx0, hf, hH, ⟨_, rfl, (hi_iv (by decide) (by decide))⟩, Nat.le_refl _, Nat.le_refl _⟩
          · refine hs_k (x := Int32.ofNat 1) (p := 183) (by decide +kernel) ?_
            refine hs_goto (p := 187) (by decide +kernel) ?_
            refine hs_zret (by decide +kernel) (.inr rfl) ?_
            exact ⟨_, List.mem_cons_self, _, hx0, hf, hH, ⟨_, rfl, (hi_iv (by decide) (by decide))⟩, Nat.le_refl _, Nat.le_refl _⟩
        · refine hs_astore (i := 3) (p := 171) (by decide +kernel) (Nat.le_of_ble_eq_true rfl) ?_
          refine hs_goto (p := 125) (by decide +kernel) ?_
          show et_go none (d + n + 10) 60 125 [some (.ref th), some (.ref fa), some (.int (Int32.ofNat j)), some (.ref b167)] [] _ 0 0 _
          exact ih (w.2.2.2 - b167) (by omega) hH hx0 hf k_fa z_b167 rfl
      · refine hs_aload (i := 0) (p := 153) (by decide +kernel) rfl ?_
        refine ht_geti (T := et_TT) (t := 6) (ci := 4) (f := 0) (p := 156) (by decide +kernel) rfl rfl hH k_th (fun c153 h153 g153 e153 => ?_)
        refine hs_k (x := Int32.ofNat 1) (p := 157) (by decide +kernel) ?_
        refine hs_br2 (c := .eq) (t := 164) (f := 160) (by decide +kernel) (fun (c157 : c153 = Int32.ofNat 1) => ?_) (fun (c157 : ¬ (c153 = Int32.ofNat 1)) => ?_)
        · refine hs_k (x := Int32.ofNat 0) (p := 165) (by decide +kernel) ?_
          refine hs_zret (by decide +kernel) (.inl rfl) ?_
          exact ⟨_, List.mem_cons_self, _, hx0, hf, hH, ⟨_, rfl, (hi_iv (by decide) (by decide))⟩, Nat.le_refl _, Nat.le_refl _⟩
        · refine hs_k (x := Int32.ofNat 1) (p := 161) (by decide +kernel) ?_
          refine hs_goto (p := 165) (by decide +kernel) ?_
          refine hs_zret (by decide +kernel) (.inr rfl) ?_
          exact ⟨_, List.mem_cons_self, _, hx0, hf, hH, ⟨_, rfl, (hi_iv (by decide) (by decide))⟩, Nat.le_refl _, Nat.le_refl _⟩
    · refine hs_k (x := Int32.ofNat 1) (p := 145) (by decide +kernel) ?_
      refine hs_goto (p := 149) (by decide +kernel) ?_
      refine hs_br2n (c := .ne) (t := 166) (f := 152) (by decide +kernel) (by omega) (by omega) (fun (c149 : ¬ n134 = 1) => ?_) (fun (c149 : ¬ (¬ n134 = 1)) => ?_)
      · refine hs_aload (i := 3) (p := 167) (by decide +kernel) rfl ?_
        refine ht_get (T := et_TT) (t := 6) (ci := 4) (f := 1) (p := 170) (by decide +kernel) rfl rfl rfl hH k_b0 (fun v167 h167 e167 => ?_)
        rcases hn_next hH0 z_b0 ((hf.2 _ 6 z_b0 1 rfl).symm.trans e167) with rfl | ⟨b167, rfl, z_b167, lt167, lg167⟩
        · refine hs_astore0 (i := 3) (p := 171) (by decide +kernel) (Nat.le_of_ble_eq_true rfl) ?_
          refine hs_goto (p := 125) (by decide +kernel) ?_
          refine hs_aload0 (i := 3) (p := 126) (by decide +kernel) rfl ?_
          refine hs_ifnull0 (p := 174) (by decide +kernel) ?_
          refine hs_aload (i := 0) (p := 175) (by decide +kernel) rfl ?_
          refine ht_geti (T := et_TT) (t := 6) (ci := 4) (f := 0) (p := 178) (by decide +kernel) rfl rfl hH k_th (fun c175 h175 g175 e175 => ?_)
          refine hs_k (x := Int32.ofNat 1) (p := 179) (by decide +kernel) ?_
          refine hs_br2 (c := .ne) (t := 186) (f := 182) (by decide +kernel) (fun (c179 : ¬ c175 = Int32.ofNat 1) => ?_) (fun (c179 : ¬ (¬ c175 = Int32.ofNat 1)) => ?_)
          · refine hs_k (x := Int32.ofNat 0) (p := 187) (by decide +kernel) ?_
            refine hs_zret (by decide +kernel) (.inl rfl) ?_
            exact ⟨_, List.mem_cons_self, _, hx0, hf, hH, ⟨_, rfl, (hi_iv (by decide) (by decide))⟩, Nat.le_refl _, Nat.le_refl _⟩
          · refine hs_k (x := Int32.ofNat 1) (p := 183) (by decide +kernel) ?_
            refine hs_goto (p := 187) (by decide +kernel) ?_
            refine hs_zret (by decide +kernel) (.inr rfl) ?_
            exact ⟨_, List.mem_cons_self, _, hx0, hf, hH, ⟨_, rfl, (hi_iv (by decide) (by decide))⟩, Nat.le_refl _, Nat.le_refl _⟩
        · refine hs_astore (i := 3) (p := 171) (by decide +kernel) (Nat.le_of_ble_eq_true rfl) ?_
          refine hs_goto (p := 125) (by decide +kernel) ?_
          show et_go none (d + n + 10) 60 125 [some (.ref th), some (.ref fa), some (.int (Int32.ofNat j)), some (.ref b167)] [] _ 0 0 _
          exact ih (w.2.2.2 - b167) (by omega) hH hx0 hf k_fa z_b167 rfl
      · refine hs_aload (i := 0) (p := 153) (by decide +kernel) rfl ?_
        refine ht_geti (T := et_TT) (t := 6) (ci := 4) (f := 0) (p := 156) (by decide +kernel) rfl rfl hH k_th (fun c153 h153 g153 e153 => ?_)
        refine hs_k (x := Int32.ofNat 1) (p := 157) (by decide +kernel) ?_
        refine hs_br2 (c := .eq) (t := 164) (f := 160) (by decide +kernel) (fun (c157 : c153 = Int32.ofNat 1) => ?_) (fun (c157 : ¬ (c153 = Int32.ofNat 1)) => ?_)
        · refine hs_k (x := Int32.ofNat 0) (p := 165) (by decide +kernel) ?_
          refine hs_zret (by decide +kernel) (.inl rfl) ?_
          exact ⟨_, List.mem_cons_self, _, hx0, hf, hH, ⟨_, rfl, (hi_iv (by decide) (by decide))⟩, Nat.le_refl _, Nat.le_refl _⟩
        · refine hs_k (x := Int32.ofNat 1) (p := 161) (by decide +kernel) ?_
          refine hs_goto (p := 165) (by decide +kernel) ?_
          refine hs_zret (by decide +kernel) (.inr rfl) ?_
          exact ⟨_, List.mem_cons_self, _, hx0, hf, hH, ⟨_, rfl, (hi_iv (by decide) (by decide))⟩, Nat.le_refl _, Nat.le_refl _⟩
theorem hn_isT {j n : Nat} (hj : j ≤ 21) (hrec : et_cv et_TT (hq_isT (j + 1) n)) : et_cv et_TT (hq_isT j (n + 1)) := by
  intro w as d2 hH hd hl hv
  obtain ⟨v, v1, v2, rfl⟩ := hi_len3 (show as.length = 3 from hl)
  obtain ⟨th, rfl, z_th⟩ := hi_ref (hv 0 _ _ rfl rfl)
  obtain ⟨fa, rfl, k_fa⟩ := hi_ref (hv 1 _ _ rfl rfl)
  obtain ⟨x, rfl, x1, x2⟩ := hi_int (hv 2 _ _ rfl rfl)
  obtain rfl : x = Int32.ofNat j := Int32.toInt_inj.mp (by rw [hs_nint (by omega)]; omega)
  obtain ⟨d, rfl⟩ : ∃ d, d2 = d + n + 10 := ⟨d2 - n - 10, by have : n + 1 + 9 ≤ d2 := hd; omega⟩
  have hx0 : et_ex w.1 w.1 := et_ex.rf
  have hf : et_fr [] w.1 w.2.2 w.2.2 := et_fr.rf
  have hH0 := hH
  have k_th := z_th
  rw [show eg_mL 60 = 4 from by decide +kernel]
  show et_go none (d + n + 10) 60 0 [some (.ref th), some (.ref fa), some (.int (Int32.ofNat j)), none] [] w.2.2 0 0 (hi_Z et_TT w [] [(.inl (some (.inl (0, 1))), 0, 0)])
  refine hs_iload (i := 2) (p := 1) (by decide +kernel) rfl ?_
  refine hs_k (x := Int32.ofNat 21) (p := 3) (by decide +kernel) ?_
  refine hs_br2n (c := .le) (t := 8) (f := 6) (by decide +kernel) (by omega) (by omega) (fun (c3 : j ≤ 21) => ?_) (fun (c3 : ¬ (j ≤ 21)) => ?_)
  · refine hs_aload (i := 0) (p := 9) (by decide +kernel) rfl ?_
    refine ht_geti (T := et_TT) (t := 6) (ci := 4) (f := 0) (p := 12) (by decide +kernel) rfl rfl hH k_th (fun c9 h9 g9 e9 => ?_)
    refine hs_tsw (dd := 108) (lo := 3) (hi := 5) (offs := #[28, 56, 82]) (len := 28) (by decide +kernel) (by decide) ?_ (List.forall_mem_cons.mpr ⟨?_, List.forall_mem_cons.mpr ⟨?_, List.forall_mem_cons.mpr ⟨?_, fun _ h => absurd h List.not_mem_nil⟩⟩⟩)
    · show et_go none _ 60 120 _ [] _ 0 0 _
      refine hs_aload (i := 0) (p := 121) (by decide +kernel) rfl ?_
      refine ht_get (T := et_TT) (t := 6) (ci := 4) (f := 2) (p := 124) (by decide +kernel) rfl rfl rfl hH k_th (fun v121 h121 e121 => ?_)
      rcases hn_fld (.inl rfl) hH0 z_th ((hf.2 _ 6 z_th 2 rfl).symm.trans e121) with rfl | ⟨b121, rfl, z_b121⟩
      · refine hs_astore0 (i := 3) (p := 125) (by decide +kernel) (Nat.le_of_ble_eq_true rfl) ?_
        refine hs_aload0 (i := 3) (p := 126) (by decide +kernel) rfl ?_
        refine hs_ifnull0 (p := 174) (by decide +kernel) ?_
        refine hs_aload (i := 0) (p := 175) (by decide +kernel) rfl ?_
        refine ht_geti (T := et_TT) (t := 6) (ci := 4) (f := 0) (p := 178) (by decide +kernel) rfl rfl hH k_th (fun c175 h175 g175 e175 => ?_)
        refine hs_k (x := Int32.ofNat 1) (p := 179) (by decide +kernel) ?_
        refine hs_br2 (c := .ne) (t := 186) (f := 182) (by decide +kernel) (fun (c179 : ¬ c175 = Int32.ofNat 1) => ?_) (fun (c179 : ¬ (¬ c175 = Int32.ofNat 1)) => ?_)
        · refine hs_k (x := Int32.ofNat 0) (p := 187) (by decide +kernel) ?_
          refine hs_zret (by decide +kernel) (.inl rfl) ?_
          exact ⟨_, List.mem_cons_self, _, hx0, hf, hH, ⟨_, rfl, (hi_iv (by decide) (by decide))⟩, Nat.le_refl _, Nat.le_refl _⟩
        · refine hs_k (x := Int32.ofNat 1) (p := 183) (by decide +kernel) ?_
          refine hs_goto (p := 187) (by decide +kernel) ?_
          refine hs_zret (by decide +kernel) (.inr rfl) ?_
          exact ⟨_, List.mem_cons_self, _, hx0, hf, hH, ⟨_, rfl, (hi_iv (by decide) (by decide))⟩, Nat.le_refl _, Nat.le_refl _⟩
      · refine hs_astore (i := 3) (p := 125) (by decide +kernel) (Nat.le_of_ble_eq_true rfl) ?_
        exact hn_iL hH0 hH hx0 hf k_fa z_th z_b121 hj hrec
    · show et_go none _ 60 40 _ [] _ 0 0 _
      refine hs_aload (i := 0) (p := 41) (by decide +kernel) rfl ?_
      refine ht_get (T := et_TT) (t := 6) (ci := 4) (f := 4) (p := 44) (by decide +kernel) rfl rfl rfl hH k_th (fun v41 h41 e41 => ?_)
      rcases hi_q h41 with rfl | ⟨b41, rfl, k_b41⟩
      · refine hs_ifnull0 (p := 66) (by decide +kernel) ?_
        refine hs_k (x := Int32.ofNat 0) (p := 67) (by decide +kernel) ?_
        refine hs_zret (by decide +kernel) (.inl rfl) ?_
        exact ⟨_, List.mem_cons_self, _, hx0, hf, hH, ⟨_, rfl, (hi_iv (by decide) (by decide))⟩, Nat.le_refl _, Nat.le_refl _⟩
      · refine hs_ifnull1 (p := 47) (by decide +kernel) ?_
        refine hs_aload (i := 1) (p := 48) (by decide +kernel) rfl ?_
        refine hs_aload (i := 0) (p := 49) (by decide +kernel) rfl ?_
        refine ht_get (T := et_TT) (t := 6) (ci := 4) (f := 4) (p := 52) (by decide +kernel) rfl rfl rfl hH k_th (fun v49 h49 e49 => ?_)
        obtain rfl : v49 = .ref b41 := Option.some.inj (e49.symm.trans e41)
        refine hs_aload (i := 0) (p := 53) (by decide +kernel) rfl ?_
        refine ht_geti (T := et_TT) (t := 6) (ci := 4) (f := 5) (p := 56) (by decide +kernel) rfl rfl hH k_th (fun c53 h53 g53 e53 => ?_)
        refine ht_callv (T := et_TT) (t := 4) (mi := 52) (na := 2) (ci := 2) (lk := 4) (lm := 3) (L0 := eg_en (eg_mL 52) [.ref fa, .ref b41, .int c53]) (by decide +kernel) rfl hH k_fa rfl rfl rfl rfl rfl (by rw [show eg_mL 52 = 3 from by decide +kernel]; first | done | rfl) ?_
        refine (hc_isSo (w.1, [], w.2.2) [.ref fa, .ref b41, .int c53] _ hH (by omega) rfl (ht_ac (.inr ⟨by decide, _, rfl, k_fa⟩) (ht_ac (.inr ⟨by decide, _, rfl, k_b41⟩) (ht_ac hi_any ht_an)))).mono (fun u hu => hs_cbv hu (fun v56 K56 G56 c56 s56 x56 f56 hH hv56 cl56 sl56 => ?_))
        skip
        have k_fa := x56 _ _ k_fa
        have k_b41 := x56 _ _ k_b41
        have hf := hf.tr hx0 (f56.wk (by decide +kernel))
        have hx0 := hx0.tr x56
        obtain rfl : c56 = 0 := Nat.le_zero.mp cl56
        obtain rfl : s56 = 0 := Nat.le_zero.mp sl56
        obtain ⟨n56, hn56, rfl⟩ := hi_nat hv56
        show et_go none _ 60 59 _ [.int (Int32.ofNat n56)] _ 0 _ _
        have k_th := hx0 _ _ z_th
        refine hs_br1 (c := .eq) (t := 66) (f := 62) (by decide +kernel) (fun (c59 : Int32.ofNat n56 = 0) => ?_) (fun (c59 : ¬ (Int32.ofNat n56 = 0)) => ?_)
        · refine hs_k (x := Int32.ofNat 0) (p := 67) (by decide +kernel) ?_
          refine hs_zret (by decide +kernel) (.inl rfl) ?_
          exact ⟨_, List.mem_cons_self, _, hx0, hf, hH, ⟨_, rfl, (hi_iv (by decide) (by decide))⟩, Nat.le_refl _, Nat.le_refl _⟩
        · refine hs_k (x := Int32.ofNat 1) (p := 63) (by decide +kernel) ?_
          refine hs_goto (p := 67) (by decide +kernel) ?_
          refine hs_zret (by decide +kernel) (.inr rfl) ?_
          exact ⟨_, List.mem_cons_self, _, hx0, hf, hH, ⟨_, rfl, (hi_iv (by decide) (by decide))⟩, Nat.le_refl _, Nat.le_refl _⟩
    · show et_go none _ 60 68 _ [] _ 0 0 _
      refine hs_aload (i := 1) (p := 69) (by decide +kernel) rfl ?_
      refine hs_aload (i := 0) (p := 70) (by decide +kernel) rfl ?_
      refine ht_get (T := et_TT) (t := 6) (ci := 4) (f := 2) (p := 73) (by decide +kernel) rfl rfl rfl hH k_th (fun v70 h70 e70 => ?_)
      rcases hn_fld (.inl rfl) hH0 z_th ((hf.2 _ 6 z_th 2 rfl).symm.trans e70) with rfl | ⟨b70, rfl, z_b70⟩
      · refine ht_callv (T := et_TT) (t := 4) (mi := 54) (na := 1) (ci := 2) (lk := 4) (lm := 5) (L0 := eg_en (eg_mL 54) [.ref fa, .null]) (by decide +kernel) rfl hH k_fa rfl rfl rfl rfl rfl (by rw [show eg_mL 54 = 5 from by decide +kernel]; first | done | rfl) ?_
        refine (hc_sumOf (w.1, [], w.2.2) [.ref fa, .null] _ hH (by omega) rfl (ht_ac (.inr ⟨by decide, _, rfl, k_fa⟩) (ht_ac (.inl ⟨by decide, rfl⟩) ht_an))).mono (fun u hu => hs_cbv hu (fun v73 K73 G73 c73 s73 x73 f73 hH hv73 cl73 sl73 => ?_))
        skip
        have k_fa := x73 _ _ k_fa
        have hf := hf.tr hx0 (f73.wk (by decide +kernel))
        have hx0 := hx0.tr x73
        obtain rfl : c73 = 0 := Nat.le_zero.mp cl73
        obtain rfl : s73 = 0 := Nat.le_zero.mp sl73
        obtain ⟨y73, rfl, -⟩ := hv73
        show et_go none _ 60 76 _ [.long y73] _ 0 _ _
        have k_th := hx0 _ _ z_th
        refine hs_aload (i := 1) (p := 77) (by decide +kernel) rfl ?_
        refine hs_aload (i := 0) (p := 78) (by decide +kernel) rfl ?_
        refine ht_get (T := et_TT) (t := 6) (ci := 4) (f := 3) (p := 81) (by decide +kernel) rfl rfl rfl hH k_th (fun v78 h78 e78 => ?_)
        rcases hn_fld (.inr rfl) hH0 z_th ((hf.2 _ 6 z_th 3 rfl).symm.trans e78) with rfl | ⟨b78, rfl, z_b78⟩
        · refine ht_callv (T := et_TT) (t := 4) (mi := 54) (na := 1) (ci := 2) (lk := 4) (lm := 5) (L0 := eg_en (eg_mL 54) [.ref fa, .null]) (by decide +kernel) rfl hH k_fa rfl rfl rfl rfl rfl (by rw [show eg_mL 54 = 5 from by decide +kernel]; first | done | rfl) ?_
          refine (hc_sumOf (K73, [], G73) [.ref fa, .null] _ hH (by omega) rfl (ht_ac (.inr ⟨by decide, _, rfl, k_fa⟩) (ht_ac (.inl ⟨by decide, rfl⟩) ht_an))).mono (fun u hu => hs_cbv hu (fun v81 K81 G81 c81 s81 x81 f81 hH hv81 cl81 sl81 => ?_))
          skip
          have k_fa := x81 _ _ k_fa
          have hf := hf.tr hx0 (f81.wk (by decide +kernel))
          have hx0 := hx0.tr x81
          obtain rfl : c81 = 0 := Nat.le_zero.mp cl81
          obtain rfl : s81 = 0 := Nat.le_zero.mp sl81
          obtain ⟨y81, rfl, -⟩ := hv81
          show et_go none _ 60 84 _ [.long y81, .long y73] _ 0 _ _
          have k_th := hx0 _ _ z_th
          refine hs_lcmp (p := 85) (by decide +kernel) ?_
          refine hs_br1 (c := .ge) (t := 92) (f := 88) (by decide +kernel) (fun (c85 : 0 ≤ (lg_cmp y73 y81)) => ?_) (fun (c85 : ¬ (0 ≤ (lg_cmp y73 y81))) => ?_)
          · refine hs_k (x := Int32.ofNat 0) (p := 93) (by decide +kernel) ?_
            refine hs_zret (by decide +kernel) (.inl rfl) ?_
            exact ⟨_, List.mem_cons_self, _, hx0, hf, hH, ⟨_, rfl, (hi_iv (by decide) (by decide))⟩, Nat.le_refl _, Nat.le_refl _⟩
          · refine hs_k (x := Int32.ofNat 1) (p := 89) (by decide +kernel) ?_
            refine hs_goto (p := 93) (by decide +kernel) ?_
            refine hs_zret (by decide +kernel) (.inr rfl) ?_
            exact ⟨_, List.mem_cons_self, _, hx0, hf, hH, ⟨_, rfl, (hi_iv (by decide) (by decide))⟩, Nat.le_refl _, Nat.le_refl _⟩
        · have k_b78 := hx0 _ _ z_b78
          refine ht_callv (T := et_TT) (t := 4) (mi := 54) (na := 1) (ci := 2) (lk := 4) (lm := 5) (L0 := eg_en (eg_mL 54) [.ref fa, .ref b78]) (by decide +kernel) rfl hH k_fa rfl rfl rfl rfl rfl (by rw [show eg_mL 54 = 5 from by decide +kernel]; first | done | rfl) ?_
          refine (hc_sumOf (K73, [], G73) [.ref fa, .ref b78] _ hH (by omega) rfl (ht_ac (.inr ⟨by decide, _, rfl, k_fa⟩) (ht_ac (.inr ⟨by decide, _, rfl, k_b78⟩) ht_an))).mono (fun u hu => hs_cbv hu (fun v81 K81 G81 c81 s81 x81 f81 hH hv81 cl81 sl81 => ?_))
          skip
          have k_fa := x81 _ _ k_fa
          skip
          have hf := hf.tr hx0 (f81.wk (by decide +kernel))
          have hx0 := hx0.tr x81
          obtain rfl : c81 = 0 := Nat.le_zero.mp cl81
          obtain rfl : s81 = 0 := Nat.le_zero.mp sl81
          obtain ⟨y81, rfl, -⟩ := hv81
          show et_go none _ 60 84 _ [.long y81, .long y73] _ 0 _ _
          have k_th := hx0 _ _ z_th
          have k_b78 := hx0 _ _ z_b78
          refine hs_lcmp (p := 85) (by decide +kernel) ?_
          refine hs_br1 (c := .ge) (t := 92) (f := 88) (by decide +kernel) (fun (c85 : 0 ≤ (lg_cmp y73 y81)) => ?_) (fun (c85 : ¬ (0 ≤ (lg_cmp y73 y81))) => ?_)
          · refine hs_k (x := Int32.ofNat 0) (p := 93) (by decide +kernel) ?_
            refine hs_zret (by decide +kernel) (.inl rfl) ?_
            exact ⟨_, List.mem_cons_self, _, hx0, hf, hH, ⟨_, rfl, (hi_iv (by decide) (by decide))⟩, Nat.le_refl _, Nat.le_refl _⟩
          · refine hs_k (x := Int32.ofNat 1) (p := 89) (by decide +kernel) ?_
            refine hs_goto (p := 93) (by decide +kernel) ?_
            refine hs_zret (by decide +kernel) (.inr rfl) ?_
            exact ⟨_, List.mem_cons_self, _, hx0, hf, hH, ⟨_, rfl, (hi_iv (by decide) (by decide))⟩, Nat.le_refl _, Nat.le_refl _⟩
      · have k_b70 := hx0 _ _ z_b70
        refine ht_callv (T := et_TT) (t := 4) (mi := 54) (na := 1) (ci := 2) (lk := 4) (lm := 5) (L0 := eg_en (eg_mL 54) [.ref fa, .ref b70]) (by decide +kernel) rfl hH k_fa rfl rfl rfl rfl rfl (by rw [show eg_mL 54 = 5 from by decide +kernel]; first | done | rfl) ?_
        refine (hc_sumOf (w.1, [], w.2.2) [.ref fa, .ref b70] _ hH (by omega) rfl (ht_ac (.inr ⟨by decide, _, rfl, k_fa⟩) (ht_ac (.inr ⟨by decide, _, rfl, k_b70⟩) ht_an))).mono (fun u hu => hs_cbv hu (fun v73 K73 G73 c73 s73 x73 f73 hH hv73 cl73 sl73 => ?_))
        skip
        have k_fa := x73 _ _ k_fa
        skip
        have hf := hf.tr hx0 (f73.wk (by decide +kernel))
        have hx0 := hx0.tr x73
        obtain rfl : c73 = 0 := Nat.le_zero.mp cl73
        obtain rfl : s73 = 0 := Nat.le_zero.mp sl73
        obtain ⟨y73, rfl, -⟩ := hv73
        show et_go none _ 60 76 _ [.long y73] _ 0 _ _
        have k_th := hx0 _ _ z_th
        have k_b70 := hx0 _ _ z_b70
        refine hs_aload (i := 1) (p := 77) (by decide +kernel) rfl ?_
        refine hs_aload (i := 0) (p := 78) (by decide +kernel) rfl ?_
        refine ht_get (T := et_TT) (t := 6) (ci := 4) (f := 3) (p := 81) (by decide +kernel) rfl rfl rfl hH k_th (fun v78 h78 e78 => ?_)
        rcases hn_fld (.inr rfl) hH0 z_th ((hf.2 _ 6 z_th 3 rfl).symm.trans e78) with rfl | ⟨b78, rfl, z_b78⟩
        · refine ht_callv (T := et_TT) (t := 4) (mi := 54) (na := 1) (ci := 2) (lk := 4) (lm := 5) (L0 := eg_en (eg_mL 54) [.ref fa, .null]) (by decide +kernel) rfl hH k_fa rfl rfl rfl rfl rfl (by rw [show eg_mL 54 = 5 from by decide +kernel]; first | done | rfl) ?_
          refine (hc_sumOf (K73, [], G73) [.ref fa, .null] _ hH (by omega) rfl (ht_ac (.inr ⟨by decide, _, rfl, k_fa⟩) (ht_ac (.inl ⟨by decide, rfl⟩) ht_an))).mono (fun u hu => hs_cbv hu (fun v81 K81 G81 c81 s81 x81 f81 hH hv81 cl81 sl81 => ?_))
          skip
          have k_fa := x81 _ _ k_fa
          skip
          have hf := hf.tr hx0 (f81.wk (by decide +kernel))
          have hx0 := hx0.tr x81
          obtain rfl : c81 = 0 := Nat.le_zero.mp cl81
          obtain rfl : s81 = 0 := Nat.le_zero.mp sl81
          obtain ⟨y81, rfl, -⟩ := hv81
          show et_go none _ 60 84 _ [.long y81, .long y73] _ 0 _ _
          have k_th := hx0 _ _ z_th
          have k_b70 := hx0 _ _ z_b70
          refine hs_lcmp (p := 85) (by decide +kernel) ?_
          refine hs_br1 (c := .ge) (t := 92) (f := 88) (by decide +kernel) (fun (c85 : 0 ≤ (lg_cmp y73 y81)) => ?_) (fun (c85 : ¬ (0 ≤ (lg_cmp y73 y81))) => ?_)
          · refine hs_k (x := Int32.ofNat 0) (p := 93) (by decide +kernel) ?_
            refine hs_zret (by decide +kernel) (.inl rfl) ?_
            exact ⟨_, List.mem_cons_self, _, hx0, hf, hH, ⟨_, rfl, (hi_iv (by decide) (by decide))⟩, Nat.le_refl _, Nat.le_refl _⟩
          · refine hs_k (x := Int32.ofNat 1) (p := 89) (by decide +kernel) ?_
            refine hs_goto (p := 93) (by decide +kernel) ?_
            refine hs_zret (by decide +kernel) (.inr rfl) ?_
            exact ⟨_, List.mem_cons_self, _, hx0, hf, hH, ⟨_, rfl, (hi_iv (by decide) (by decide))⟩, Nat.le_refl _, Nat.le_refl _⟩
        · have k_b78 := hx0 _ _ z_b78
          refine ht_callv (T := et_TT) (t := 4) (mi := 54) (na := 1) (ci := 2) (lk := 4) (lm := 5) (L0 := eg_en (eg_mL 54) [.ref fa, .ref b78]) (by decide +kernel) rfl hH k_fa rfl rfl rfl rfl rfl (by rw [show eg_mL 54 = 5 from by decide +kernel]; first | done | rfl) ?_
          refine (hc_sumOf (K73, [], G73) [.ref fa, .ref b78] _ hH (by omega) rfl (ht_ac (.inr ⟨by decide, _, rfl, k_fa⟩) (ht_ac (.inr ⟨by decide, _, rfl, k_b78⟩) ht_an))).mono (fun u hu => hs_cbv hu (fun v81 K81 G81 c81 s81 x81 f81 hH hv81 cl81 sl81 => ?_))
          skip
          have k_fa := x81 _ _ k_fa
          skip
          skip
          have hf := hf.tr hx0 (f81.wk (by decide +kernel))
          have hx0 := hx0.tr x81
          obtain rfl : c81 = 0 := Nat.le_zero.mp cl81
          obtain rfl : s81 = 0 := Nat.le_zero.mp sl81
          obtain ⟨y81, rfl, -⟩ := hv81
          show et_go none _ 60 84 _ [.long y81, .long y73] _ 0 _ _
          have k_th := hx0 _ _ z_th
          have k_b70 := hx0 _ _ z_b70
          have k_b78 := hx0 _ _ z_b78
          refine hs_lcmp (p := 85) (by decide +kernel) ?_
          refine hs_br1 (c := .ge) (t := 92) (f := 88) (by decide +kernel) (fun (c85 : 0 ≤ (lg_cmp y73 y81)) => ?_) (fun (c85 : ¬ (0 ≤ (lg_cmp y73 y81))) => ?_)
          · refine hs_k (x := Int32.ofNat 0) (p := 93) (by decide +kernel) ?_
            refine hs_zret (by decide +kernel) (.inl rfl) ?_
            exact ⟨_, List.mem_cons_self, _, hx0, hf, hH, ⟨_, rfl, (hi_iv (by decide) (by decide))⟩, Nat.le_refl _, Nat.le_refl _⟩
          · refine hs_k (x := Int32.ofNat 1) (p := 89) (by decide +kernel) ?_
            refine hs_goto (p := 93) (by decide +kernel) ?_
            refine hs_zret (by decide +kernel) (.inr rfl) ?_
            exact ⟨_, List.mem_cons_self, _, hx0, hf, hH, ⟨_, rfl, (hi_iv (by decide) (by decide))⟩, Nat.le_refl _, Nat.le_refl _⟩
    · show et_go none _ 60 94 _ [] _ 0 0 _
      refine hs_aload (i := 1) (p := 95) (by decide +kernel) rfl ?_
      refine hs_aload (i := 0) (p := 96) (by decide +kernel) rfl ?_
      refine ht_get (T := et_TT) (t := 6) (ci := 4) (f := 2) (p := 99) (by decide +kernel) rfl rfl rfl hH k_th (fun v96 h96 e96 => ?_)
      rcases hn_fld (.inl rfl) hH0 z_th ((hf.2 _ 6 z_th 2 rfl).symm.trans e96) with rfl | ⟨b96, rfl, z_b96⟩
      · refine ht_callv (T := et_TT) (t := 4) (mi := 54) (na := 1) (ci := 2) (lk := 4) (lm := 5) (L0 := eg_en (eg_mL 54) [.ref fa, .null]) (by decide +kernel) rfl hH k_fa rfl rfl rfl rfl rfl (by rw [show eg_mL 54 = 5 from by decide +kernel]; first | done | rfl) ?_
        refine (hc_sumOf (w.1, [], w.2.2) [.ref fa, .null] _ hH (by omega) rfl (ht_ac (.inr ⟨by decide, _, rfl, k_fa⟩) (ht_ac (.inl ⟨by decide, rfl⟩) ht_an))).mono (fun u hu => hs_cbv hu (fun v99 K99 G99 c99 s99 x99 f99 hH hv99 cl99 sl99 => ?_))
        skip
        have k_fa := x99 _ _ k_fa
        have hf := hf.tr hx0 (f99.wk (by decide +kernel))
        have hx0 := hx0.tr x99
        obtain rfl : c99 = 0 := Nat.le_zero.mp cl99
        obtain rfl : s99 = 0 := Nat.le_zero.mp sl99
        obtain ⟨y99, rfl, -⟩ := hv99
        show et_go none _ 60 102 _ [.long y99] _ 0 _ _
        have k_th := hx0 _ _ z_th
        refine hs_aload (i := 1) (p := 103) (by decide +kernel) rfl ?_
        refine hs_aload (i := 0) (p := 104) (by decide +kernel) rfl ?_
        refine ht_get (T := et_TT) (t := 6) (ci := 4) (f := 3) (p := 107) (by decide +kernel) rfl rfl rfl hH k_th (fun v104 h104 e104 => ?_)
        rcases hn_fld (.inr rfl) hH0 z_th ((hf.2 _ 6 z_th 3 rfl).symm.trans e104) with rfl | ⟨b104, rfl, z_b104⟩
        · refine ht_callv (T := et_TT) (t := 4) (mi := 54) (na := 1) (ci := 2) (lk := 4) (lm := 5) (L0 := eg_en (eg_mL 54) [.ref fa, .null]) (by decide +kernel) rfl hH k_fa rfl rfl rfl rfl rfl (by rw [show eg_mL 54 = 5 from by decide +kernel]; first | done | rfl) ?_
          refine (hc_sumOf (K99, [], G99) [.ref fa, .null] _ hH (by omega) rfl (ht_ac (.inr ⟨by decide, _, rfl, k_fa⟩) (ht_ac (.inl ⟨by decide, rfl⟩) ht_an))).mono (fun u hu => hs_cbv hu (fun v107 K107 G107 c107 s107 x107 f107 hH hv107 cl107 sl107 => ?_))
          skip
          have k_fa := x107 _ _ k_fa
          have hf := hf.tr hx0 (f107.wk (by decide +kernel))
          have hx0 := hx0.tr x107
          obtain rfl : c107 = 0 := Nat.le_zero.mp cl107
          obtain rfl : s107 = 0 := Nat.le_zero.mp sl107
          obtain ⟨y107, rfl, -⟩ := hv107
          show et_go none _ 60 110 _ [.long y107, .long y99] _ 0 _ _
          have k_th := hx0 _ _ z_th
          refine hs_lcmp (p := 111) (by decide +kernel) ?_
          refine hs_br1 (c := .le) (t := 118) (f := 114) (by decide +kernel) (fun (c111 : (lg_cmp y99 y107) ≤ 0) => ?_) (fun (c111 : ¬ ((lg_cmp y99 y107) ≤ 0)) => ?_)
          · refine hs_k (x := Int32.ofNat 0) (p := 119) (by decide +kernel) ?_
            refine hs_zret (by decide +kernel) (.inl rfl) ?_
            exact ⟨_, List.mem_cons_self, _, hx0, hf, hH, ⟨_, rfl, (hi_iv (by decide) (by decide))⟩, Nat.le_refl _, Nat.le_refl _⟩
          · refine hs_k (x := Int32.ofNat 1) (p := 115) (by decide +kernel) ?_
            refine hs_goto (p := 119) (by decide +kernel) ?_
            refine hs_zret (by decide +kernel) (.inr rfl) ?_
            exact ⟨_, List.mem_cons_self, _, hx0, hf, hH, ⟨_, rfl, (hi_iv (by decide) (by decide))⟩, Nat.le_refl _, Nat.le_refl _⟩
        · have k_b104 := hx0 _ _ z_b104
          refine ht_callv (T := et_TT) (t := 4) (mi := 54) (na := 1) (ci := 2) (lk := 4) (lm := 5) (L0 := eg_en (eg_mL 54) [.ref fa, .ref b104]) (by decide +kernel) rfl hH k_fa rfl rfl rfl rfl rfl (by rw [show eg_mL 54 = 5 from by decide +kernel]; first | done | rfl) ?_
          refine (hc_sumOf (K99, [], G99) [.ref fa, .ref b104] _ hH (by omega) rfl (ht_ac (.inr ⟨by decide, _, rfl, k_fa⟩) (ht_ac (.inr ⟨by decide, _, rfl, k_b104⟩) ht_an))).mono (fun u hu => hs_cbv hu (fun v107 K107 G107 c107 s107 x107 f107 hH hv107 cl107 sl107 => ?_))
          skip
          have k_fa := x107 _ _ k_fa
          skip
          have hf := hf.tr hx0 (f107.wk (by decide +kernel))
          have hx0 := hx0.tr x107
          obtain rfl : c107 = 0 := Nat.le_zero.mp cl107
          obtain rfl : s107 = 0 := Nat.le_zero.mp sl107
          obtain ⟨y107, rfl, -⟩ := hv107
          show et_go none _ 60 110 _ [.long y107, .long y99] _ 0 _ _
          have k_th := hx0 _ _ z_th
          have k_b104 := hx0 _ _ z_b104
          refine hs_lcmp (p := 111) (by decide +kernel) ?_
          refine hs_br1 (c := .le) (t := 118) (f := 114) (by decide +kernel) (fun (c111 : (lg_cmp y99 y107) ≤ 0) => ?_) (fun (c111 : ¬ ((lg_cmp y99 y107) ≤ 0)) => ?_)
          · refine hs_k (x := Int32.ofNat 0) (p := 119) (by decide +kernel) ?_
            refine hs_zret (by decide +kernel) (.inl rfl) ?_
            exact ⟨_, List.mem_cons_self, _, hx0, hf, hH, ⟨_, rfl, (hi_iv (by decide) (by decide))⟩, Nat.le_refl _, Nat.le_refl _⟩
          · refine hs_k (x := Int32.ofNat 1) (p := 115) (by decide +kernel) ?_
            refine hs_goto (p := 119) (by decide +kernel) ?_
            refine hs_zret (by decide +kernel) (.inr rfl) ?_
            exact ⟨_, List.mem_cons_self, _, hx0, hf, hH, ⟨_, rfl, (hi_iv (by decide) (by decide))⟩, Nat.le_refl _, Nat.le_refl _⟩
      · have k_b96 := hx0 _ _ z_b96
        refine ht_callv (T := et_TT) (t := 4) (mi := 54) (na := 1) (ci := 2) (lk := 4) (lm := 5) (L0 := eg_en (eg_mL 54) [.ref fa, .ref b96]) (by decide +kernel) rfl hH k_fa rfl rfl rfl rfl rfl (by rw [show eg_mL 54 = 5 from by decide +kernel]; first | done | rfl) ?_
        refine (hc_sumOf (w.1, [], w.2.2) [.ref fa, .ref b96] _ hH (by omega) rfl (ht_ac (.inr ⟨by decide, _, rfl, k_fa⟩) (ht_ac (.inr ⟨by decide, _, rfl, k_b96⟩) ht_an))).mono (fun u hu => hs_cbv hu (fun v99 K99 G99 c99 s99 x99 f99 hH hv99 cl99 sl99 => ?_))
        skip
        have k_fa := x99 _ _ k_fa
        skip
        have hf := hf.tr hx0 (f99.wk (by decide +kernel))
        have hx0 := hx0.tr x99
        obtain rfl : c99 = 0 := Nat.le_zero.mp cl99
        obtain rfl : s99 = 0 := Nat.le_zero.mp sl99
        obtain ⟨y99, rfl, -⟩ := hv99
        show et_go none _ 60 102 _ [.long y99] _ 0 _ _
        have k_th := hx0 _ _ z_th
        have k_b96 := hx0 _ _ z_b96
        refine hs_aload (i := 1) (p := 103) (by decide +kernel) rfl ?_
        refine hs_aload (i := 0) (p := 104) (by decide +kernel) rfl ?_
        refine ht_get (T := et_TT) (t := 6) (ci := 4) (f := 3) (p := 107) (by decide +kernel) rfl rfl rfl hH k_th (fun v104 h104 e104 => ?_)
        rcases hn_fld (.inr rfl) hH0 z_th ((hf.2 _ 6 z_th 3 rfl).symm.trans e104) with rfl | ⟨b104, rfl, z_b104⟩
        · refine ht_callv (T := et_TT) (t := 4) (mi := 54) (na := 1) (ci := 2) (lk := 4) (lm := 5) (L0 := eg_en (eg_mL 54) [.ref fa, .null]) (by decide +kernel) rfl hH k_fa rfl rfl rfl rfl rfl (by rw [show eg_mL 54 = 5 from by decide +kernel]; first | done | rfl) ?_
          refine (hc_sumOf (K99, [], G99) [.ref fa, .null] _ hH (by omega) rfl (ht_ac (.inr ⟨by decide, _, rfl, k_fa⟩) (ht_ac (.inl ⟨by decide, rfl⟩) ht_an))).mono (fun u hu => hs_cbv hu (fun v107 K107 G107 c107 s107 x107 f107 hH hv107 cl107 sl107 => ?_))
          skip
          have k_fa := x107 _ _ k_fa
          skip
          have hf := hf.tr hx0 (f107.wk (by decide +kernel))
          have hx0 := hx0.tr x107
          obtain rfl : c107 = 0 := Nat.le_zero.mp cl107
          obtain rfl : s107 = 0 := Nat.le_zero.mp sl107
          obtain ⟨y107, rfl, -⟩ := hv107
          show et_go none _ 60 110 _ [.long y107, .long y99] _ 0 _ _
          have k_th := hx0 _ _ z_th
          have k_b96 := hx0 _ _ z_b96
          refine hs_lcmp (p := 111) (by decide +kernel) ?_
          refine hs_br1 (c := .le) (t := 118) (f := 114) (by decide +kernel) (fun (c111 : (lg_cmp y99 y107) ≤ 0) => ?_) (fun (c111 : ¬ ((lg_cmp y99 y107) ≤ 0)) => ?_)
          · refine hs_k (x := Int32.ofNat 0) (p := 119) (by decide +kernel) ?_
            refine hs_zret (by decide +kernel) (.inl rfl) ?_
            exact ⟨_, List.mem_cons_self, _, hx0, hf, hH, ⟨_, rfl, (hi_iv (by decide) (by decide))⟩, Nat.le_refl _, Nat.le_refl _⟩
          · refine hs_k (x := Int32.ofNat 1) (p := 115) (by decide +kernel) ?_
            refine hs_goto (p := 119) (by decide +kernel) ?_
            refine hs_zret (by decide +kernel) (.inr rfl) ?_
            exact ⟨_, List.mem_cons_self, _, hx0, hf, hH, ⟨_, rfl, (hi_iv (by decide) (by decide))⟩, Nat.le_refl _, Nat.le_refl _⟩
        · have k_b104 := hx0 _ _ z_b104
          refine ht_callv (T := et_TT) (t := 4) (mi := 54) (na := 1) (ci := 2) (lk := 4) (lm := 5) (L0 := eg_en (eg_mL 54) [.ref fa, .ref b104]) (by decide +kernel) rfl hH k_fa rfl rfl rfl rfl rfl (by rw [show eg_mL 54 = 5 from by decide +kernel]; first | done | rfl) ?_
          refine (hc_sumOf (K99, [], G99) [.ref fa, .ref b104] _ hH (by omega) rfl (ht_ac (.inr ⟨by decide, _, rfl, k_fa⟩) (ht_ac (.inr ⟨by decide, _, rfl, k_b104⟩) ht_an))).mono (fun u hu => hs_cbv hu (fun v107 K107 G107 c107 s107 x107 f107 hH hv107 cl107 sl107 => ?_))
          skip
          have k_fa := x107 _ _ k_fa
          skip
          skip
          have hf := hf.tr hx0 (f107.wk (by decide +kernel))
          have hx0 := hx0.tr x107
          obtain rfl : c107 = 0 := Nat.le_zero.mp cl107
          obtain rfl : s107 = 0 := Nat.le_zero.mp sl107
          obtain ⟨y107, rfl, -⟩ := hv107
          show et_go none _ 60 110 _ [.long y107, .long y99] _ 0 _ _
          have k_th := hx0 _ _ z_th
          have k_b96 := hx0 _ _ z_b96
          have k_b104 := hx0 _ _ z_b104
          refine hs_lcmp (p := 111) (by decide +kernel) ?_
          refine hs_br1 (c := .le) (t := 118) (f := 114) (by decide +kernel) (fun (c111 : (lg_cmp y99 y107) ≤ 0) => ?_) (fun (c111 : ¬ ((lg_cmp y99 y107) ≤ 0)) => ?_)
          · refine hs_k (x := Int32.ofNat 0) (p := 119) (by decide +kernel) ?_
            refine hs_zret (by decide +kernel) (.inl rfl) ?_
            exact ⟨_, List.mem_cons_self, _, hx0, hf, hH, ⟨_, rfl, (hi_iv (by decide) (by decide))⟩, Nat.le_refl _, Nat.le_refl _⟩
          · refine hs_k (x := Int32.ofNat 1) (p := 115) (by decide +kernel) ?_
            refine hs_goto (p := 119) (by decide +kernel) ?_
            refine hs_zret (by decide +kernel) (.inr rfl) ?_
            exact ⟨_, List.mem_cons_self, _, hx0, hf, hH, ⟨_, rfl, (hi_iv (by decide) (by decide))⟩, Nat.le_refl _, Nat.le_refl _⟩
  · exact absurd hj c3
theorem hn_isT0 : et_cv et_TT (hq_isT 22 0) := et_cok_ok (Ks := []) (an := an_no) (fun _ h => absurd h List.not_mem_nil) (by decide +kernel)
theorem hn_all : ∀ m, m ≤ 22 → et_cv et_TT (hq_isT (22 - m) m)
  | 0, _ => hn_isT0
  | m + 1, h => hn_isT (by omega) (by
    rw [show 22 - (m + 1) + 1 = 22 - m by omega]
    exact hn_all m (by omega))
theorem hc_isT : et_cv et_TT (hq_isT 0 22) := hn_all 22 (Nat.le_refl _)
end RNA
