/-! BY HAND: Reader.takeCondition, readLine, takeTurner -/
section HPV
variable {K : et_K} {M : et_M} {d k pc ck sk : Nat} {L : eg_Ls} {st r : List Value} {G : eg_G} {Z : eg_O → Prop} {a p ci n : Nat} {fs : List Value}
theorem ht_newU (hc : hs_nw k pc = some (ci, p)) (h1 : ck + 1 ≤ 600002) (h2 : sk + n ≤ 7302232) (hn : hs_cl ci = n) (hfs : eg_nc n ci = fs) (hH : et_H et_TT K G) (h : ∀ (G' : eg_G) (a : Nat), pu K G' a ci fs → et_fr [] K G G' → et_go none d k p L (.ref a :: st) G' (ck + 1) (sk + n) Z) : et_go none d k pc L st G ck sk Z := by
  subst hn
  refine hs_new hc h1 h2 ?_
  obtain ⟨h3, h4⟩ := pu_new (fs := fs) (c := .inr (ci, eg_nc (hs_cl ci) ci)) hH (by rw [hfs])
  exact h _ _ h3 h4
def hs_tx (k pc : Nat) : Option (Nat × Nat) := match eg_cd k pc with
  | some (.new i, 3) => (match eg_th k pc (.new i) with
    | some q => some (q.2.2, eg_mL k)
    | none => none)
  | _ => none
theorem hs_thr {x lk : Nat} (hc : hs_tx k pc = some (x, lk)) (hL : L.length = lk) (hr : Nat.ble (eg_cat st) 8 = true) (h : Z (.inr x, G, ck + 1, sk + 6)) : et_go none d k pc L st G ck sk Z := by
  unfold hs_tx at hc
  split at hc
  · rename_i i e
    split at hc
    · rename_i q hq
      cases hc
      refine et_goR (u := (.inr q.2.2, G, ck + 1, sk + 6)) (fun rr => ?_) h
      unfold eg_one
      rw [e]
      dsimp only
      rw [et_rr_no (ins := .new i) (fun h => nomatch (show false = true from h))]
      dsimp only
      rw [hs_sc]
      dsimp only
      rw [hq]
      dsimp only
      rw [if_pos ⟨Nat.le_of_ble_eq_true hr, hL⟩]
    · cases hc
  · cases hc
theorem hs_popr (hc : hs_o k pc = some (.pop, p)) (h : et_go none d k p L r G ck sk Z) : et_go none d k pc L (.ref a :: r) G ck sk Z := by
  obtain ⟨e, rfl⟩ := hs_oc hc
  exact hs_st e rfl rfl h
end HPV
def hq_add : et_Co := (113, [.inr (.inr (0, 11)), .inl (0, 1), .inl (et_mn, et_mx), .inr (.inr (1, 6))], [(11, 0, 0), (16, 0, 100000), (26, 0, 100000), (42, 0, 100000)], [(.inl none, 0, 0)], 1)
theorem hc_add : et_cv et_TT hq_add := et_cok_ok (Ks := []) (an := an_no) (fun _ h => absurd h List.not_mem_nil) (by decide +kernel)
def tc_M : et_M := [(6, 0, 5), (7, 1, 1), (7, 2, 2), (7, 3, 3), (7, 7, 7), (7, 8, 8), (21, 0, 100000), (41, 0, 100000)]
def pl_M : et_M := [(6, 0, 5), (7, 2, 2), (7, 3, 3), (7, 8, 8), (11, 0, 0), (16, 0, 100000), (26, 0, 100000), (42, 0, 100000)]
def tt_M : et_M := [(6, 0, 5), (7, 1, 1), (7, 2, 2), (7, 3, 3), (7, 7, 7), (7, 8, 8), (21, 0, 100000), (41, 0, 100000), (11, 0, 0), (16, 0, 100000), (26, 0, 100000), (42, 0, 100000)]
def hq_tc : et_Co := (66, [.inr (.inr (0, 7)), .inl (et_mn, et_mx)], tc_M, [(.inl (some (.inr (.inr (1, 6)))), 805, 4830)], 25)
def hq_tt : et_Co := (84, [.inr (.inr (0, 7))], tt_M, [(.inl (some (.inr (.inr (1, 11)))), 840, 5100)], 27)
/-- how a LINE ends -/
def pl_Z (K : et_K) (G : eg_G) (rd x : Nat) (u : eg_O) : Prop := ∃ (K' : et_K) (y : Nat), u.1 = .inl none ∧ et_ex K K' ∧ et_fr pl_M K G u.2.1 ∧ et_H et_TT K' u.2.1 ∧ pp_at u.2.1 rd y ∧ x ≤ y ∧ y ≤ 401 ∧ u.2.2.2 ≤ 6 * u.2.2.1 ∧ u.2.2.1 + 2 * x ≤ 2 * y + 3
theorem pl_cb {K : et_K} {d k pc ck sk rd x : Nat} {L : eg_Ls} {r : List Value} {G : eg_G} {Z : eg_O → Prop} {u : eg_O} (hu : pl_Z K G rd x u) (h : ∀ (K' : et_K) (G' : eg_G) (y c s : Nat), et_ex K K' → et_fr pl_M K G G' → et_H et_TT K' G' → pp_at G' rd y → x ≤ y → y ≤ 401 → s ≤ 6 * c → c + 2 * x ≤ 2 * y + 3 → et_go none d k (pc + 3) L r G' (ck + c) (sk + s) Z) : hs_cont d k pc L r ck sk Z u := by
  obtain ⟨K', y, e, h1, h2, h3, h4, h5, h6, h7, h8⟩ := hu
  obtain ⟨u1, u2, u3, u4⟩ := u
  have e : u1 = .inl none := e
  subst e
  exact hs_cb (h K' u2 y u3 u4 h1 h2 h3 h4 h5 h6 h7 h8)
theorem hi_len1 {as : List Value} (h : as.length = 1) : ∃ a, as = [a] := by
  match as, h with
  | [a], _ => exact ⟨a, rfl⟩

section PPD
variable {w : et_Wd} {K K0 : et_K} {G G0 : eg_G} {d2 d rd tn x : Nat}
theorem hc_tc : et_cv et_TT hq_tc := by
  intro w as d2 hH hd hl hv
  obtain ⟨v, v1, rfl⟩ := hi_len2 (show as.length = 2 from hl)
  obtain ⟨rd, rfl, k_rd⟩ := hi_ref (hv 0 _ _ rfl rfl)
  obtain ⟨pl, rfl, -, -⟩ := hi_int (hv 1 _ _ rfl rfl)
  obtain ⟨d, rfl⟩ : ∃ d, d2 = d + 25 := ⟨d2 - 25, by have : 25 ≤ d2 := hd; omega⟩
  have hx0 : et_ex w.1 w.1 := et_ex.rf
  have hf : et_fr tc_M w.1 w.2.2 w.2.2 := et_fr.rf
  rw [show eg_mL 66 = 3 from by decide +kernel]
  show et_go none (d + 25) 66 0 [some (.ref rd), some (.int pl), none] [] w.2.2 0 0 _
  refine hs_aload (i := 0) (p := 1) (by decide +kernel) rfl ?_
  refine hs_iload (i := 1) (p := 2) (by decide +kernel) rfl ?_
  have hfo := hf
  refine ht_callv (T := et_TT) (t := 7) (mi := 67) (na := 1) (ci := 5) (lk := 3) (lm := 4) (L0 := eg_en (eg_mL 67) [.ref rd, .int pl]) (by decide +kernel) rfl hH k_rd rfl rfl rfl rfl rfl (by rw [show eg_mL 67 = 4 from by decide +kernel]; first | done | rfl) ?_
  refine (hc_split (w.1, [], w.2.2) [.ref rd, .int pl] _ hH (by omega) rfl (ht_ac (.inr ⟨by decide, _, rfl, k_rd⟩) (ht_ac hi_any ht_an))).mono (fun u hu => hs_cbn hu (fun K2 G2 c2 s2 x2 f2 hH cl2 sl2 => ?_))
  have k_rd := x2 _ _ k_rd
  have hf := hf.tr hx0 (f2.wk (by decide +kernel))
  have hx0 := hx0.tr x2
  obtain ⟨x, hxl, hx⟩ := pp_at0 hH k_rd
  obtain rfl : c2 = 0 := Nat.le_zero.mp cl2
  obtain rfl : s2 = 0 := Nat.le_zero.mp sl2
  show et_go none _ 66 5 _ [] _ 0 0 _
  refine hs_aload (i := 0) (p := 6) (by decide +kernel) rfl ?_
  refine hs_k (x := Int32.ofNat 0) (p := 7) (by decide +kernel) ?_
  refine hs_k (x := Int32.ofNat 0) (p := 8) (by decide +kernel) ?_
  have hfo := hf
  refine ht_callv (T := et_TT) (t := 7) (mi := 75) (na := 2) (ci := 5) (lk := 3) (lm := 8) (L0 := eg_en (eg_mL 75) [.ref rd, .int (Int32.ofNat 0), .int (Int32.ofNat 0)]) (by decide +kernel) rfl hH k_rd rfl rfl rfl rfl rfl (by rw [show eg_mL 75 = 8 from by decide +kernel]; first | done | rfl) ?_
  refine (pp_cond hH k_rd hx (by omega) (by omega)).mono (fun u hu => pp_cb hu (fun K8 G8 v8 y8 c8 s8 x8 f8 hH hx hy8 hz8 hs8 hA => ?_))
  have k_rd := x8 _ _ k_rd
  have hf := hf.tr hx0 (f8.wk (by decide +kernel))
  have hx0 := hx0.tr x8
  rcases hA with ⟨rfl, hA8⟩ | ⟨b8, rfl, k_b8, ge_b8, hA8⟩
  · show et_go none _ 66 11 _ [.null] _ (0 + c8) (0 + s8) _
    refine hs_astore0 (i := 2) (p := 12) (by decide +kernel) (Nat.le_of_ble_eq_true rfl) ?_
    refine hs_aload0 (i := 2) (p := 13) (by decide +kernel) rfl ?_
    refine hs_ifnull0 (p := 26) (by decide +kernel) ?_
    refine hs_aload0 (i := 2) (p := 27) (by decide +kernel) rfl ?_
    refine hs_goto (p := 34) (by decide +kernel) ?_
    refine hs_aretN (cn := "KnobEye$Node") (by decide +kernel) ?_
    exact ⟨_, List.mem_cons_self, _, hx0, hf, hH, ⟨_, rfl, .inl ⟨by decide, rfl⟩⟩, (by dsimp only; omega), (by dsimp only; omega)⟩
  · have ge_b8 := Nat.le_trans hfo.1 ge_b8
    show et_go none _ 66 11 _ [.ref b8] _ (0 + c8) (0 + s8) _
    refine hs_astore (i := 2) (p := 12) (by decide +kernel) (Nat.le_of_ble_eq_true rfl) ?_
    refine hs_aload (i := 2) (p := 13) (by decide +kernel) rfl ?_
    refine hs_ifnull1 (p := 16) (by decide +kernel) ?_
    refine hs_aload (i := 0) (p := 17) (by decide +kernel) rfl ?_
    refine hs_gst (v := Value.ref 34) (p := 20) (by decide +kernel) ?_
    have lto_b8 := (hH.2.2 _ _ k_b8).1
    have hfo := hf
    refine ht_callv (T := et_TT) (t := 7) (mi := 78) (na := 1) (ci := 5) (lk := 3) (lm := 2) (L0 := eg_en (eg_mL 78) [.ref rd, .ref 34]) (by decide +kernel) rfl hH k_rd rfl rfl rfl rfl rfl (by rw [show eg_mL 78 = 2 from by decide +kernel]; first | done | rfl) ?_
    refine (pp_is hH k_rd hx (by omega) (hH.2.1 _ (by decide)) (by omega)).mono (fun u hu => pz_cb hu (fun K20 G20 v20 x20 f20 hH hA => ?_))
    have hx := (f20.2 rd 7 k_rd 8 rfl).trans hx
    have k_rd := x20 _ _ k_rd
    have k_b8 := x20 _ _ k_b8
    have hf := hf.tr hx0 (f20.wk (by decide +kernel))
    have hx0 := hx0.tr x20
    rcases hA with rfl | ⟨rfl, hi20⟩
    · show et_go none _ 66 23 _ [.int (Int32.ofNat 0)] _ (0 + c8) (0 + s8) _
      refine hs_if1 (c := .eq) (t := 30) (f := 26) (by decide +kernel) (show Int32.ofNat 0 = 0 by decide) ?_
      refine hs_aload (i := 0) (p := 31) (by decide +kernel) rfl ?_
      have lto_b8 := (hH.2.2 _ _ k_b8).1
      have hfo := hf
      refine ht_callv (T := et_TT) (t := 7) (mi := 76) (na := 0) (ci := 5) (lk := 3) (lm := 1) (L0 := eg_en (eg_mL 76) [.ref rd]) (by decide +kernel) rfl hH k_rd rfl rfl rfl rfl rfl (by rw [show eg_mL 76 = 1 from by decide +kernel]; first | done | rfl) ?_
      refine (ep_c4 (K20, [], G20) [.ref rd] _ hH (by omega) rfl (ht_ac (.inr ⟨by decide, _, rfl, k_rd⟩) ht_an)).mono (fun u hu => hs_cbv hu (fun v31 K31 G31 c31 s31 x31 f31 hH hv31 cl31 sl31 => ?_))
      have hx := (f31.2 rd 7 k_rd 8 rfl).trans hx
      have k_rd := x31 _ _ k_rd
      have k_b8 := x31 _ _ k_b8
      have hf := hf.tr hx0 (f31.wk (by decide +kernel))
      have hx0 := hx0.tr x31
      obtain rfl : c31 = 0 := Nat.le_zero.mp cl31
      obtain rfl : s31 = 0 := Nat.le_zero.mp sl31
      obtain rfl : v31 = .null := hv31.elim (fun h => h.2) (fun h => absurd h.1 (by decide))
      show et_go none _ 66 34 _ [.null] _ (0 + c8) (0 + s8) _
      refine hs_aretN (cn := "KnobEye$Node") (by decide +kernel) ?_
      exact ⟨_, List.mem_cons_self, _, hx0, hf, hH, ⟨_, rfl, .inl ⟨by decide, rfl⟩⟩, (by dsimp only; omega), (by dsimp only; omega)⟩
    · show et_go none _ 66 23 _ [.int (Int32.ofNat 1)] _ (0 + c8) (0 + s8) _
      refine hs_if0 (c := .eq) (t := 30) (f := 26) (by decide +kernel) (show ¬ (Int32.ofNat 1 = 0) by decide) ?_
      refine hs_aload (i := 2) (p := 27) (by decide +kernel) rfl ?_
      refine hs_goto (p := 34) (by decide +kernel) ?_
      refine hs_aret (cn := "KnobEye$Node") (by decide +kernel) ?_
      exact ⟨_, List.mem_cons_self, _, hx0, hf, hH, ⟨_, rfl, .inr ⟨by decide, _, rfl, k_b8⟩⟩, (by dsimp only; omega), (by dsimp only; omega)⟩
theorem pp_line (hH : et_H et_TT K G) (k_rd : K rd = some 7) (hx : pp_at G rd x) (k_tn : K tn = some 11) (hxl : x ≤ 401) (hd : 25 ≤ d2) : et_go none d2 85 0 (eg_en (eg_mL 85) [.ref rd, .ref tn]) [] G 0 0 (pl_Z K G rd x) := by
  obtain ⟨d, rfl⟩ : ∃ d, d2 = d + 25 := ⟨d2 - 25, by omega⟩
  have hx0 : et_ex K K := et_ex.rf
  have hf : et_fr pl_M K G G := et_fr.rf
  rw [show eg_mL 85 = 5 from by decide +kernel]
  show et_go none (d + 25) 85 0 [some (.ref rd), some (.ref tn), none, none, none] [] G 0 0 _
  refine hs_aload (i := 0) (p := 1) (by decide +kernel) rfl ?_
  refine hs_gst (v := Value.ref 29) (p := 4) (by decide +kernel) ?_
  have hfo := hf
  refine ht_callv (T := et_TT) (t := 7) (mi := 78) (na := 1) (ci := 5) (lk := 5) (lm := 2) (L0 := eg_en (eg_mL 78) [.ref rd, .ref 29]) (by decide +kernel) rfl hH k_rd rfl rfl rfl rfl rfl (by rw [show eg_mL 78 = 2 from by decide +kernel]; first | done | rfl) ?_
  refine (pp_is hH k_rd hx (by omega) (hH.2.1 _ (by decide)) (by omega)).mono (fun u hu => pz_cb hu (fun K4 G4 v4 x4 f4 hH hA => ?_))
  have hx := (f4.2 rd 7 k_rd 8 rfl).trans hx
  have k_rd := x4 _ _ k_rd
  have k_tn := x4 _ _ k_tn
  have hf := hf.tr hx0 (f4.wk (by decide +kernel))
  have hx0 := hx0.tr x4
  rcases hA with rfl | ⟨rfl, hi4⟩
  · show et_go none _ 85 7 _ [.int (Int32.ofNat 0)] _ 0 0 _
    refine hs_istore (i := 2) (p := 8) (by decide +kernel) (Nat.le_of_ble_eq_true rfl) ?_
    refine hs_aload (i := 1) (p := 9) (by decide +kernel) rfl ?_
    refine ht_getn (T := et_TT) (t := 11) (ci := 9) (f := 0) (p := 12) (by decide +kernel) rfl rfl hH k_tn (fun c9 h9 e9 => ?_)
    refine hs_k (x := Int32.ofNat 10) (p := 14) (by decide +kernel) ?_
    refine hs_br2n (c := .ge) (t := 31) (f := 17) (by decide +kernel) (by omega) (by omega) (fun (c14 : 10 ≤ c9) => ?_) (fun (c14 : ¬ (10 ≤ c9)) => ?_)
    · refine hs_aload (i := 0) (p := 32) (by decide +kernel) rfl ?_
      have hfo := hf
      refine ht_callv (T := et_TT) (t := 7) (mi := 76) (na := 0) (ci := 5) (lk := 5) (lm := 1) (L0 := eg_en (eg_mL 76) [.ref rd]) (by decide +kernel) rfl hH k_rd rfl rfl rfl rfl rfl (by rw [show eg_mL 76 = 1 from by decide +kernel]; first | done | rfl) ?_
      refine (ep_c4 (K4, [], G4) [.ref rd] _ hH (by omega) rfl (ht_ac (.inr ⟨by decide, _, rfl, k_rd⟩) ht_an)).mono (fun u hu => hs_cbv hu (fun v32 K32 G32 c32 s32 x32 f32 hH hv32 cl32 sl32 => ?_))
      have hx := (f32.2 rd 7 k_rd 8 rfl).trans hx
      have k_rd := x32 _ _ k_rd
      have k_tn := x32 _ _ k_tn
      have hf := hf.tr hx0 (f32.wk (by decide +kernel))
      have hx0 := hx0.tr x32
      obtain rfl : c32 = 0 := Nat.le_zero.mp cl32
      obtain rfl : s32 = 0 := Nat.le_zero.mp sl32
      obtain rfl : v32 = .null := hv32.elim (fun h => h.2) (fun h => absurd h.1 (by decide))
      show et_go none _ 85 35 _ [.null] _ 0 0 _
      refine hs_popn (p := 36) (by decide +kernel) ?_
      refine hs_vret (by decide +kernel) ?_
      exact ⟨_, _, rfl, hx0, hf, hH, hx, by omega, by omega, (by dsimp only; omega), (by dsimp only; omega)⟩
    · refine hs_iload (i := 2) (p := 18) (by decide +kernel) rfl ?_
      refine hs_if0 (c := .ne) (t := 37) (f := 21) (by decide +kernel) (show ¬ (¬ Int32.ofNat 0 = 0) by decide) ?_
      refine hs_aload (i := 0) (p := 22) (by decide +kernel) rfl ?_
      refine hs_gst (v := Value.ref 30) (p := 25) (by decide +kernel) ?_
      have hfo := hf
      refine ht_callv (T := et_TT) (t := 7) (mi := 78) (na := 1) (ci := 5) (lk := 5) (lm := 2) (L0 := eg_en (eg_mL 78) [.ref rd, .ref 30]) (by decide +kernel) rfl hH k_rd rfl rfl rfl rfl rfl (by rw [show eg_mL 78 = 2 from by decide +kernel]; first | done | rfl) ?_
      refine (pp_is hH k_rd hx (by omega) (hH.2.1 _ (by decide)) (by omega)).mono (fun u hu => pz_cb hu (fun K25 G25 v25 x25 f25 hH hA => ?_))
      have hx := (f25.2 rd 7 k_rd 8 rfl).trans hx
      have k_rd := x25 _ _ k_rd
      have k_tn := x25 _ _ k_tn
      have hf := hf.tr hx0 (f25.wk (by decide +kernel))
      have hx0 := hx0.tr x25
      rcases hA with rfl | ⟨rfl, hi25⟩
      · show et_go none _ 85 28 _ [.int (Int32.ofNat 0)] _ 0 0 _
        refine hs_if0 (c := .ne) (t := 37) (f := 31) (by decide +kernel) (show ¬ (¬ Int32.ofNat 0 = 0) by decide) ?_
        refine hs_aload (i := 0) (p := 32) (by decide +kernel) rfl ?_
        have hfo := hf
        refine ht_callv (T := et_TT) (t := 7) (mi := 76) (na := 0) (ci := 5) (lk := 5) (lm := 1) (L0 := eg_en (eg_mL 76) [.ref rd]) (by decide +kernel) rfl hH k_rd rfl rfl rfl rfl rfl (by rw [show eg_mL 76 = 1 from by decide +kernel]; first | done | rfl) ?_
        refine (ep_c4 (K25, [], G25) [.ref rd] _ hH (by omega) rfl (ht_ac (.inr ⟨by decide, _, rfl, k_rd⟩) ht_an)).mono (fun u hu => hs_cbv hu (fun v32 K32 G32 c32 s32 x32 f32 hH hv32 cl32 sl32 => ?_))
        have hx := (f32.2 rd 7 k_rd 8 rfl).trans hx
        have k_rd := x32 _ _ k_rd
        have k_tn := x32 _ _ k_tn
        have hf := hf.tr hx0 (f32.wk (by decide +kernel))
        have hx0 := hx0.tr x32
        obtain rfl : c32 = 0 := Nat.le_zero.mp cl32
        obtain rfl : s32 = 0 := Nat.le_zero.mp sl32
        obtain rfl : v32 = .null := hv32.elim (fun h => h.2) (fun h => absurd h.1 (by decide))
        show et_go none _ 85 35 _ [.null] _ 0 0 _
        refine hs_popn (p := 36) (by decide +kernel) ?_
        refine hs_vret (by decide +kernel) ?_
        exact ⟨_, _, rfl, hx0, hf, hH, hx, by omega, by omega, (by dsimp only; omega), (by dsimp only; omega)⟩
      · show et_go none _ 85 28 _ [.int (Int32.ofNat 1)] _ 0 0 _
        refine hs_if1 (c := .ne) (t := 37) (f := 31) (by decide +kernel) (show ¬ Int32.ofNat 1 = 0 by decide) ?_
        refine hs_aload (i := 0) (p := 38) (by decide +kernel) rfl ?_
        refine hs_dup1 (p := 39) (by decide +kernel) ?_
        refine ht_getn (T := et_TT) (t := 7) (ci := 5) (f := 8) (p := 42) (by decide +kernel) rfl rfl hH k_rd (fun c39 h39 e39 => ?_)
        have q39 : c39 = x := hb_cc e39 hx (by omega) (by omega)
        refine hs_k (x := Int32.ofNat 1) (p := 43) (by decide +kernel) ?_
        refine hs_iaddn (p := 44) (by decide +kernel) ?_
        refine ht_put (M := [(7, 8, 8)]) (T := et_TT) (t := 7) (ci := 5) (f := 8) (p := 47) (ty := .int) (by decide +kernel) rfl rfl rfl rfl rfl (by decide +kernel) hH k_rd (hi_nv (by omega) (by omega)) (fun G44 hH f44 e44 => ?_)
        have hf := hf.tr hx0 (f44.wk (by decide +kernel))
        have hx := e44
        refine hs_aload (i := 0) (p := 48) (by decide +kernel) rfl ?_
        refine hs_k (x := Int32.ofNat 50) (p := 50) (by decide +kernel) ?_
        have hfo := hf
        refine ht_callv (T := et_TT) (t := 7) (mi := 83) (na := 1) (ci := 5) (lk := 5) (lm := 3) (L0 := eg_en (eg_mL 83) [.ref rd, .int (Int32.ofNat 50)]) (by decide +kernel) rfl hH k_rd rfl rfl rfl rfl rfl (by rw [show eg_mL 83 = 3 from by decide +kernel]; first | done | rfl) ?_
        refine (pp_tn hH k_rd hx (by omega) (by omega)).mono (fun u hu => pz_cb hu (fun K50 G50 v50 x50 f50 hH hA => ?_))
        have k_rd := x50 _ _ k_rd
        have k_tn := x50 _ _ k_tn
        have hf := hf.tr hx0 (f50.wk (by decide +kernel))
        have hx0 := hx0.tr x50
        obtain ⟨y50, n50, rfl, hx, hy50, hz50, hw50⟩ := hA
        show et_go none _ 85 53 _ [.int n50] _ 0 0 _
        refine hs_istore (i := 3) (p := 54) (by decide +kernel) (Nat.le_of_ble_eq_true rfl) ?_
        refine hs_nul (p := 55) (by decide +kernel) ?_
        refine hs_astore0 (i := 4) (p := 57) (by decide +kernel) (Nat.le_of_ble_eq_true rfl) ?_
        refine hs_aload (i := 0) (p := 58) (by decide +kernel) rfl ?_
        refine ht_geti (T := et_TT) (t := 7) (ci := 5) (f := 2) (p := 61) (by decide +kernel) rfl rfl hH k_rd (fun c58 h58 g58 e58 => ?_)
        refine hs_k (x := (-1)) (p := 62) (by decide +kernel) ?_
        refine hs_br2 (c := .ne) (t := 93) (f := 65) (by decide +kernel) (fun (c62 : ¬ c58 = (-1)) => ?_) (fun (c62 : ¬ (¬ c58 = (-1))) => ?_)
        · refine hs_aload (i := 0) (p := 94) (by decide +kernel) rfl ?_
          refine ht_geti (T := et_TT) (t := 7) (ci := 5) (f := 2) (p := 97) (by decide +kernel) rfl rfl hH k_rd (fun c94 h94 g94 e94 => ?_)
          refine hs_k (x := (-1)) (p := 98) (by decide +kernel) ?_
          refine hs_br2 (c := .ne) (t := 109) (f := 101) (by decide +kernel) (fun (c98 : ¬ c94 = (-1)) => ?_) (fun (c98 : ¬ (¬ c94 = (-1))) => ?_)
          · refine hs_vret (by decide +kernel) ?_
            exact ⟨_, _, rfl, hx0, hf, hH, hx, by omega, by omega, (by dsimp only; omega), (by dsimp only; omega)⟩
          · refine hs_aload (i := 1) (p := 102) (by decide +kernel) rfl ?_
            refine hs_iload (i := 2) (p := 103) (by decide +kernel) rfl ?_
            refine hs_iload (i := 3) (p := 104) (by decide +kernel) rfl ?_
            refine hs_aload0 (i := 4) (p := 106) (by decide +kernel) rfl ?_
            have hfo := hf
            refine ht_callv (T := et_TT) (t := 11) (mi := 113) (na := 3) (ci := 9) (lk := 5) (lm := 4) (L0 := eg_en (eg_mL 113) [.ref tn, .int (Int32.ofNat 0), .int n50, .null]) (by decide +kernel) rfl hH k_tn rfl rfl rfl rfl rfl (by rw [show eg_mL 113 = 4 from by decide +kernel]; first | done | rfl) ?_
            refine (hc_add (K50, [], G50) [.ref tn, .int (Int32.ofNat 0), .int n50, .null] _ hH (by omega) rfl (ht_ac (.inr ⟨by decide, _, rfl, k_tn⟩) (ht_ac (hi_nv (by omega) (by omega)) (ht_ac hi_any (ht_ac (.inl ⟨by decide, rfl⟩) ht_an))))).mono (fun u hu => hs_cbn hu (fun K106 G106 c106 s106 x106 f106 hH cl106 sl106 => ?_))
            have hx := (f106.2 rd 7 k_rd 8 rfl).trans hx
            have k_rd := x106 _ _ k_rd
            have k_tn := x106 _ _ k_tn
            have hf := hf.tr hx0 (f106.wk (by decide +kernel))
            have hx0 := hx0.tr x106
            obtain rfl : c106 = 0 := Nat.le_zero.mp cl106
            obtain rfl : s106 = 0 := Nat.le_zero.mp sl106
            show et_go none _ 85 109 _ [] _ 0 0 _
            refine hs_vret (by decide +kernel) ?_
            exact ⟨_, _, rfl, hx0, hf, hH, hx, by omega, by omega, (by dsimp only; omega), (by dsimp only; omega)⟩
        · refine hs_aload (i := 0) (p := 66) (by decide +kernel) rfl ?_
          refine hs_gst (v := Value.ref 31) (p := 69) (by decide +kernel) ?_
          have hfo := hf
          refine ht_callv (T := et_TT) (t := 7) (mi := 78) (na := 1) (ci := 5) (lk := 5) (lm := 2) (L0 := eg_en (eg_mL 78) [.ref rd, .ref 31]) (by decide +kernel) rfl hH k_rd rfl rfl rfl rfl rfl (by rw [show eg_mL 78 = 2 from by decide +kernel]; first | done | rfl) ?_
          refine (pp_is hH k_rd hx (by omega) (hH.2.1 _ (by decide)) (by omega)).mono (fun u hu => pz_cb hu (fun K69 G69 v69 x69 f69 hH hA => ?_))
          have hx := (f69.2 rd 7 k_rd 8 rfl).trans hx
          have k_rd := x69 _ _ k_rd
          have k_tn := x69 _ _ k_tn
          have hf := hf.tr hx0 (f69.wk (by decide +kernel))
          have hx0 := hx0.tr x69
          rcases hA with rfl | ⟨rfl, hi69⟩
          · show et_go none _ 85 72 _ [.int (Int32.ofNat 0)] _ 0 0 _
            refine hs_if1 (c := .eq) (t := 93) (f := 75) (by decide +kernel) (show Int32.ofNat 0 = 0 by decide) ?_
            refine hs_aload (i := 0) (p := 94) (by decide +kernel) rfl ?_
            refine ht_geti (T := et_TT) (t := 7) (ci := 5) (f := 2) (p := 97) (by decide +kernel) rfl rfl hH k_rd (fun c94 h94 g94 e94 => ?_)
            refine hs_k (x := (-1)) (p := 98) (by decide +kernel) ?_
            refine hs_br2 (c := .ne) (t := 109) (f := 101) (by decide +kernel) (fun (c98 : ¬ c94 = (-1)) => ?_) (fun (c98 : ¬ (¬ c94 = (-1))) => ?_)
            · refine hs_vret (by decide +kernel) ?_
              exact ⟨_, _, rfl, hx0, hf, hH, hx, by omega, by omega, (by dsimp only; omega), (by dsimp only; omega)⟩
            · refine hs_aload (i := 1) (p := 102) (by decide +kernel) rfl ?_
              refine hs_iload (i := 2) (p := 103) (by decide +kernel) rfl ?_
              refine hs_iload (i := 3) (p := 104) (by decide +kernel) rfl ?_
              refine hs_aload0 (i := 4) (p := 106) (by decide +kernel) rfl ?_
              have hfo := hf
              refine ht_callv (T := et_TT) (t := 11) (mi := 113) (na := 3) (ci := 9) (lk := 5) (lm := 4) (L0 := eg_en (eg_mL 113) [.ref tn, .int (Int32.ofNat 0), .int n50, .null]) (by decide +kernel) rfl hH k_tn rfl rfl rfl rfl rfl (by rw [show eg_mL 113 = 4 from by decide +kernel]; first | done | rfl) ?_
              refine (hc_add (K69, [], G69) [.ref tn, .int (Int32.ofNat 0), .int n50, .null] _ hH (by omega) rfl (ht_ac (.inr ⟨by decide, _, rfl, k_tn⟩) (ht_ac (hi_nv (by omega) (by omega)) (ht_ac hi_any (ht_ac (.inl ⟨by decide, rfl⟩) ht_an))))).mono (fun u hu => hs_cbn hu (fun K106 G106 c106 s106 x106 f106 hH cl106 sl106 => ?_))
              have hx := (f106.2 rd 7 k_rd 8 rfl).trans hx
              have k_rd := x106 _ _ k_rd
              have k_tn := x106 _ _ k_tn
              have hf := hf.tr hx0 (f106.wk (by decide +kernel))
              have hx0 := hx0.tr x106
              obtain rfl : c106 = 0 := Nat.le_zero.mp cl106
              obtain rfl : s106 = 0 := Nat.le_zero.mp sl106
              show et_go none _ 85 109 _ [] _ 0 0 _
              refine hs_vret (by decide +kernel) ?_
              exact ⟨_, _, rfl, hx0, hf, hH, hx, by omega, by omega, (by dsimp only; omega), (by dsimp only; omega)⟩
          · show et_go none _ 85 72 _ [.int (Int32.ofNat 1)] _ 0 0 _
            refine hs_if0 (c := .eq) (t := 93) (f := 75) (by decide +kernel) (show ¬ (Int32.ofNat 1 = 0) by decide) ?_
            refine hs_aload (i := 0) (p := 76) (by decide +kernel) rfl ?_
            refine hs_dup1 (p := 77) (by decide +kernel) ?_
            refine ht_getn (T := et_TT) (t := 7) (ci := 5) (f := 8) (p := 80) (by decide +kernel) rfl rfl hH k_rd (fun c77 h77 e77 => ?_)
            have q77 : c77 = y50 := hb_cc e77 hx (by omega) (by omega)
            refine hs_k (x := Int32.ofNat 1) (p := 81) (by decide +kernel) ?_
            refine hs_iaddn (p := 82) (by decide +kernel) ?_
            refine ht_put (M := [(7, 8, 8)]) (T := et_TT) (t := 7) (ci := 5) (f := 8) (p := 85) (ty := .int) (by decide +kernel) rfl rfl rfl rfl rfl (by decide +kernel) hH k_rd (hi_nv (by omega) (by omega)) (fun G82 hH f82 e82 => ?_)
            have hf := hf.tr hx0 (f82.wk (by decide +kernel))
            have hx := e82
            refine hs_aload (i := 0) (p := 86) (by decide +kernel) rfl ?_
            refine hs_k (x := Int32.ofNat 0) (p := 87) (by decide +kernel) ?_
            refine hs_k (x := Int32.ofNat 0) (p := 88) (by decide +kernel) ?_
            have hfo := hf
            refine ht_callv (T := et_TT) (t := 7) (mi := 75) (na := 2) (ci := 5) (lk := 5) (lm := 8) (L0 := eg_en (eg_mL 75) [.ref rd, .int (Int32.ofNat 0), .int (Int32.ofNat 0)]) (by decide +kernel) rfl hH k_rd rfl rfl rfl rfl rfl (by rw [show eg_mL 75 = 8 from by decide +kernel]; first | done | rfl) ?_
            refine (pp_cond hH k_rd hx (by omega) (by omega)).mono (fun u hu => pp_cb hu (fun K88 G88 v88 y88 c88 s88 x88 f88 hH hx hy88 hz88 hs88 hA => ?_))
            have k_rd := x88 _ _ k_rd
            have k_tn := x88 _ _ k_tn
            have hf := hf.tr hx0 (f88.wk (by decide +kernel))
            have hx0 := hx0.tr x88
            rcases hA with ⟨rfl, hA88⟩ | ⟨b88, rfl, k_b88, ge_b88, hA88⟩
            · show et_go none _ 85 91 _ [.null] _ (0 + c88) (0 + s88) _
              refine hs_astore0 (i := 4) (p := 93) (by decide +kernel) (Nat.le_of_ble_eq_true rfl) ?_
              refine hs_aload (i := 0) (p := 94) (by decide +kernel) rfl ?_
              refine ht_geti (T := et_TT) (t := 7) (ci := 5) (f := 2) (p := 97) (by decide +kernel) rfl rfl hH k_rd (fun c94 h94 g94 e94 => ?_)
              refine hs_k (x := (-1)) (p := 98) (by decide +kernel) ?_
              refine hs_br2 (c := .ne) (t := 109) (f := 101) (by decide +kernel) (fun (c98 : ¬ c94 = (-1)) => ?_) (fun (c98 : ¬ (¬ c94 = (-1))) => ?_)
              · refine hs_vret (by decide +kernel) ?_
                exact ⟨_, _, rfl, hx0, hf, hH, hx, by omega, by omega, (by dsimp only; omega), (by dsimp only; omega)⟩
              · refine hs_aload (i := 1) (p := 102) (by decide +kernel) rfl ?_
                refine hs_iload (i := 2) (p := 103) (by decide +kernel) rfl ?_
                refine hs_iload (i := 3) (p := 104) (by decide +kernel) rfl ?_
                refine hs_aload0 (i := 4) (p := 106) (by decide +kernel) rfl ?_
                have hfo := hf
                refine ht_callv (T := et_TT) (t := 11) (mi := 113) (na := 3) (ci := 9) (lk := 5) (lm := 4) (L0 := eg_en (eg_mL 113) [.ref tn, .int (Int32.ofNat 0), .int n50, .null]) (by decide +kernel) rfl hH k_tn rfl rfl rfl rfl rfl (by rw [show eg_mL 113 = 4 from by decide +kernel]; first | done | rfl) ?_
                refine (hc_add (K88, [], G88) [.ref tn, .int (Int32.ofNat 0), .int n50, .null] _ hH (by omega) rfl (ht_ac (.inr ⟨by decide, _, rfl, k_tn⟩) (ht_ac (hi_nv (by omega) (by omega)) (ht_ac hi_any (ht_ac (.inl ⟨by decide, rfl⟩) ht_an))))).mono (fun u hu => hs_cbn hu (fun K106 G106 c106 s106 x106 f106 hH cl106 sl106 => ?_))
                have hx := (f106.2 rd 7 k_rd 8 rfl).trans hx
                have k_rd := x106 _ _ k_rd
                have k_tn := x106 _ _ k_tn
                have hf := hf.tr hx0 (f106.wk (by decide +kernel))
                have hx0 := hx0.tr x106
                obtain rfl : c106 = 0 := Nat.le_zero.mp cl106
                obtain rfl : s106 = 0 := Nat.le_zero.mp sl106
                show et_go none _ 85 109 _ [] _ (0 + c88) (0 + s88) _
                refine hs_vret (by decide +kernel) ?_
                exact ⟨_, _, rfl, hx0, hf, hH, hx, by omega, by omega, (by dsimp only; omega), (by dsimp only; omega)⟩
            · have ge_b88 := Nat.le_trans hfo.1 ge_b88
              show et_go none _ 85 91 _ [.ref b88] _ (0 + c88) (0 + s88) _
              refine hs_astore (i := 4) (p := 93) (by decide +kernel) (Nat.le_of_ble_eq_true rfl) ?_
              refine hs_aload (i := 0) (p := 94) (by decide +kernel) rfl ?_
              refine ht_geti (T := et_TT) (t := 7) (ci := 5) (f := 2) (p := 97) (by decide +kernel) rfl rfl hH k_rd (fun c94 h94 g94 e94 => ?_)
              refine hs_k (x := (-1)) (p := 98) (by decide +kernel) ?_
              refine hs_br2 (c := .ne) (t := 109) (f := 101) (by decide +kernel) (fun (c98 : ¬ c94 = (-1)) => ?_) (fun (c98 : ¬ (¬ c94 = (-1))) => ?_)
              · refine hs_vret (by decide +kernel) ?_
                exact ⟨_, _, rfl, hx0, hf, hH, hx, by omega, by omega, (by dsimp only; omega), (by dsimp only; omega)⟩
              · refine hs_aload (i := 1) (p := 102) (by decide +kernel) rfl ?_
                refine hs_iload (i := 2) (p := 103) (by decide +kernel) rfl ?_
                refine hs_iload (i := 3) (p := 104) (by decide +kernel) rfl ?_
                refine hs_aload (i := 4) (p := 106) (by decide +kernel) rfl ?_
                have lto_b88 := (hH.2.2 _ _ k_b88).1
                have hfo := hf
                refine ht_callv (T := et_TT) (t := 11) (mi := 113) (na := 3) (ci := 9) (lk := 5) (lm := 4) (L0 := eg_en (eg_mL 113) [.ref tn, .int (Int32.ofNat 0), .int n50, .ref b88]) (by decide +kernel) rfl hH k_tn rfl rfl rfl rfl rfl (by rw [show eg_mL 113 = 4 from by decide +kernel]; first | done | rfl) ?_
                refine (hc_add (K88, [], G88) [.ref tn, .int (Int32.ofNat 0), .int n50, .ref b88] _ hH (by omega) rfl (ht_ac (.inr ⟨by decide, _, rfl, k_tn⟩) (ht_ac (hi_nv (by omega) (by omega)) (ht_ac hi_any (ht_ac (.inr ⟨by decide, _, rfl, k_b88⟩) ht_an))))).mono (fun u hu => hs_cbn hu (fun K106 G106 c106 s106 x106 f106 hH cl106 sl106 => ?_))
                have hx := (f106.2 rd 7 k_rd 8 rfl).trans hx
                have k_rd := x106 _ _ k_rd
                have k_tn := x106 _ _ k_tn
                have k_b88 := x106 _ _ k_b88
                have hf := hf.tr hx0 (f106.wk (by decide +kernel))
                have hx0 := hx0.tr x106
                obtain rfl : c106 = 0 := Nat.le_zero.mp cl106
                obtain rfl : s106 = 0 := Nat.le_zero.mp sl106
                show et_go none _ 85 109 _ [] _ (0 + c88) (0 + s88) _
                refine hs_vret (by decide +kernel) ?_
                exact ⟨_, _, rfl, hx0, hf, hH, hx, by omega, by omega, (by dsimp only; omega), (by dsimp only; omega)⟩
  · show et_go none _ 85 7 _ [.int (Int32.ofNat 1)] _ 0 0 _
    refine hs_istore (i := 2) (p := 8) (by decide +kernel) (Nat.le_of_ble_eq_true rfl) ?_
    refine hs_aload (i := 1) (p := 9) (by decide +kernel) rfl ?_
    refine ht_getn (T := et_TT) (t := 11) (ci := 9) (f := 0) (p := 12) (by decide +kernel) rfl rfl hH k_tn (fun c9 h9 e9 => ?_)
    refine hs_k (x := Int32.ofNat 10) (p := 14) (by decide +kernel) ?_
    refine hs_br2n (c := .ge) (t := 31) (f := 17) (by decide +kernel) (by omega) (by omega) (fun (c14 : 10 ≤ c9) => ?_) (fun (c14 : ¬ (10 ≤ c9)) => ?_)
    · refine hs_aload (i := 0) (p := 32) (by decide +kernel) rfl ?_
      have hfo := hf
      refine ht_callv (T := et_TT) (t := 7) (mi := 76) (na := 0) (ci := 5) (lk := 5) (lm := 1) (L0 := eg_en (eg_mL 76) [.ref rd]) (by decide +kernel) rfl hH k_rd rfl rfl rfl rfl rfl (by rw [show eg_mL 76 = 1 from by decide +kernel]; first | done | rfl) ?_
      refine (ep_c4 (K4, [], G4) [.ref rd] _ hH (by omega) rfl (ht_ac (.inr ⟨by decide, _, rfl, k_rd⟩) ht_an)).mono (fun u hu => hs_cbv hu (fun v32 K32 G32 c32 s32 x32 f32 hH hv32 cl32 sl32 => ?_))
      have hx := (f32.2 rd 7 k_rd 8 rfl).trans hx
      have k_rd := x32 _ _ k_rd
      have k_tn := x32 _ _ k_tn
      have hf := hf.tr hx0 (f32.wk (by decide +kernel))
      have hx0 := hx0.tr x32
      obtain rfl : c32 = 0 := Nat.le_zero.mp cl32
      obtain rfl : s32 = 0 := Nat.le_zero.mp sl32
      obtain rfl : v32 = .null := hv32.elim (fun h => h.2) (fun h => absurd h.1 (by decide))
      show et_go none _ 85 35 _ [.null] _ 0 0 _
      refine hs_popn (p := 36) (by decide +kernel) ?_
      refine hs_vret (by decide +kernel) ?_
      exact ⟨_, _, rfl, hx0, hf, hH, hx, by omega, by omega, (by dsimp only; omega), (by dsimp only; omega)⟩
    · refine hs_iload (i := 2) (p := 18) (by decide +kernel) rfl ?_
      refine hs_if1 (c := .ne) (t := 37) (f := 21) (by decide +kernel) (show ¬ Int32.ofNat 1 = 0 by decide) ?_
      refine hs_aload (i := 0) (p := 38) (by decide +kernel) rfl ?_
      refine hs_dup1 (p := 39) (by decide +kernel) ?_
      refine ht_getn (T := et_TT) (t := 7) (ci := 5) (f := 8) (p := 42) (by decide +kernel) rfl rfl hH k_rd (fun c39 h39 e39 => ?_)
      have q39 : c39 = x := hb_cc e39 hx (by omega) (by omega)
      refine hs_k (x := Int32.ofNat 1) (p := 43) (by decide +kernel) ?_
      refine hs_iaddn (p := 44) (by decide +kernel) ?_
      refine ht_put (M := [(7, 8, 8)]) (T := et_TT) (t := 7) (ci := 5) (f := 8) (p := 47) (ty := .int) (by decide +kernel) rfl rfl rfl rfl rfl (by decide +kernel) hH k_rd (hi_nv (by omega) (by omega)) (fun G44 hH f44 e44 => ?_)
      have hf := hf.tr hx0 (f44.wk (by decide +kernel))
      have hx := e44
      refine hs_aload (i := 0) (p := 48) (by decide +kernel) rfl ?_
      refine hs_k (x := Int32.ofNat 50) (p := 50) (by decide +kernel) ?_
      have hfo := hf
      refine ht_callv (T := et_TT) (t := 7) (mi := 83) (na := 1) (ci := 5) (lk := 5) (lm := 3) (L0 := eg_en (eg_mL 83) [.ref rd, .int (Int32.ofNat 50)]) (by decide +kernel) rfl hH k_rd rfl rfl rfl rfl rfl (by rw [show eg_mL 83 = 3 from by decide +kernel]; first | done | rfl) ?_
      refine (pp_tn hH k_rd hx (by omega) (by omega)).mono (fun u hu => pz_cb hu (fun K50 G50 v50 x50 f50 hH hA => ?_))
      have k_rd := x50 _ _ k_rd
      have k_tn := x50 _ _ k_tn
      have hf := hf.tr hx0 (f50.wk (by decide +kernel))
      have hx0 := hx0.tr x50
      obtain ⟨y50, n50, rfl, hx, hy50, hz50, hw50⟩ := hA
      show et_go none _ 85 53 _ [.int n50] _ 0 0 _
      refine hs_istore (i := 3) (p := 54) (by decide +kernel) (Nat.le_of_ble_eq_true rfl) ?_
      refine hs_nul (p := 55) (by decide +kernel) ?_
      refine hs_astore0 (i := 4) (p := 57) (by decide +kernel) (Nat.le_of_ble_eq_true rfl) ?_
      refine hs_aload (i := 0) (p := 58) (by decide +kernel) rfl ?_
      refine ht_geti (T := et_TT) (t := 7) (ci := 5) (f := 2) (p := 61) (by decide +kernel) rfl rfl hH k_rd (fun c58 h58 g58 e58 => ?_)
      refine hs_k (x := (-1)) (p := 62) (by decide +kernel) ?_
      refine hs_br2 (c := .ne) (t := 93) (f := 65) (by decide +kernel) (fun (c62 : ¬ c58 = (-1)) => ?_) (fun (c62 : ¬ (¬ c58 = (-1))) => ?_)
      · refine hs_aload (i := 0) (p := 94) (by decide +kernel) rfl ?_
        refine ht_geti (T := et_TT) (t := 7) (ci := 5) (f := 2) (p := 97) (by decide +kernel) rfl rfl hH k_rd (fun c94 h94 g94 e94 => ?_)
        refine hs_k (x := (-1)) (p := 98) (by decide +kernel) ?_
        refine hs_br2 (c := .ne) (t := 109) (f := 101) (by decide +kernel) (fun (c98 : ¬ c94 = (-1)) => ?_) (fun (c98 : ¬ (¬ c94 = (-1))) => ?_)
        · refine hs_vret (by decide +kernel) ?_
          exact ⟨_, _, rfl, hx0, hf, hH, hx, by omega, by omega, (by dsimp only; omega), (by dsimp only; omega)⟩
        · refine hs_aload (i := 1) (p := 102) (by decide +kernel) rfl ?_
          refine hs_iload (i := 2) (p := 103) (by decide +kernel) rfl ?_
          refine hs_iload (i := 3) (p := 104) (by decide +kernel) rfl ?_
          refine hs_aload0 (i := 4) (p := 106) (by decide +kernel) rfl ?_
          have hfo := hf
          refine ht_callv (T := et_TT) (t := 11) (mi := 113) (na := 3) (ci := 9) (lk := 5) (lm := 4) (L0 := eg_en (eg_mL 113) [.ref tn, .int (Int32.ofNat 1), .int n50, .null]) (by decide +kernel) rfl hH k_tn rfl rfl rfl rfl rfl (by rw [show eg_mL 113 = 4 from by decide +kernel]; first | done | rfl) ?_
          refine (hc_add (K50, [], G50) [.ref tn, .int (Int32.ofNat 1), .int n50, .null] _ hH (by omega) rfl (ht_ac (.inr ⟨by decide, _, rfl, k_tn⟩) (ht_ac (hi_nv (by omega) (by omega)) (ht_ac hi_any (ht_ac (.inl ⟨by decide, rfl⟩) ht_an))))).mono (fun u hu => hs_cbn hu (fun K106 G106 c106 s106 x106 f106 hH cl106 sl106 => ?_))
          have hx := (f106.2 rd 7 k_rd 8 rfl).trans hx
          have k_rd := x106 _ _ k_rd
          have k_tn := x106 _ _ k_tn
          have hf := hf.tr hx0 (f106.wk (by decide +kernel))
          have hx0 := hx0.tr x106
          obtain rfl : c106 = 0 := Nat.le_zero.mp cl106
          obtain rfl : s106 = 0 := Nat.le_zero.mp sl106
          show et_go none _ 85 109 _ [] _ 0 0 _
          refine hs_vret (by decide +kernel) ?_
          exact ⟨_, _, rfl, hx0, hf, hH, hx, by omega, by omega, (by dsimp only; omega), (by dsimp only; omega)⟩
      · refine hs_aload (i := 0) (p := 66) (by decide +kernel) rfl ?_
        refine hs_gst (v := Value.ref 31) (p := 69) (by decide +kernel) ?_
        have hfo := hf
        refine ht_callv (T := et_TT) (t := 7) (mi := 78) (na := 1) (ci := 5) (lk := 5) (lm := 2) (L0 := eg_en (eg_mL 78) [.ref rd, .ref 31]) (by decide +kernel) rfl hH k_rd rfl rfl rfl rfl rfl (by rw [show eg_mL 78 = 2 from by decide +kernel]; first | done | rfl) ?_
        refine (pp_is hH k_rd hx (by omega) (hH.2.1 _ (by decide)) (by omega)).mono (fun u hu => pz_cb hu (fun K69 G69 v69 x69 f69 hH hA => ?_))
        have hx := (f69.2 rd 7 k_rd 8 rfl).trans hx
        have k_rd := x69 _ _ k_rd
        have k_tn := x69 _ _ k_tn
        have hf := hf.tr hx0 (f69.wk (by decide +kernel))
        have hx0 := hx0.tr x69
        rcases hA with rfl | ⟨rfl, hi69⟩
        · show et_go none _ 85 72 _ [.int (Int32.ofNat 0)] _ 0 0 _
          refine hs_if1 (c := .eq) (t := 93) (f := 75) (by decide +kernel) (show Int32.ofNat 0 = 0 by decide) ?_
          refine hs_aload (i := 0) (p := 94) (by decide +kernel) rfl ?_
          refine ht_geti (T := et_TT) (t := 7) (ci := 5) (f := 2) (p := 97) (by decide +kernel) rfl rfl hH k_rd (fun c94 h94 g94 e94 => ?_)
          refine hs_k (x := (-1)) (p := 98) (by decide +kernel) ?_
          refine hs_br2 (c := .ne) (t := 109) (f := 101) (by decide +kernel) (fun (c98 : ¬ c94 = (-1)) => ?_) (fun (c98 : ¬ (¬ c94 = (-1))) => ?_)
          · refine hs_vret (by decide +kernel) ?_
            exact ⟨_, _, rfl, hx0, hf, hH, hx, by omega, by omega, (by dsimp only; omega), (by dsimp only; omega)⟩
          · refine hs_aload (i := 1) (p := 102) (by decide +kernel) rfl ?_
            refine hs_iload (i := 2) (p := 103) (by decide +kernel) rfl ?_
            refine hs_iload (i := 3) (p := 104) (by decide +kernel) rfl ?_
            refine hs_aload0 (i := 4) (p := 106) (by decide +kernel) rfl ?_
            have hfo := hf
            refine ht_callv (T := et_TT) (t := 11) (mi := 113) (na := 3) (ci := 9) (lk := 5) (lm := 4) (L0 := eg_en (eg_mL 113) [.ref tn, .int (Int32.ofNat 1), .int n50, .null]) (by decide +kernel) rfl hH k_tn rfl rfl rfl rfl rfl (by rw [show eg_mL 113 = 4 from by decide +kernel]; first | done | rfl) ?_
            refine (hc_add (K69, [], G69) [.ref tn, .int (Int32.ofNat 1), .int n50, .null] _ hH (by omega) rfl (ht_ac (.inr ⟨by decide, _, rfl, k_tn⟩) (ht_ac (hi_nv (by omega) (by omega)) (ht_ac hi_any (ht_ac (.inl ⟨by decide, rfl⟩) ht_an))))).mono (fun u hu => hs_cbn hu (fun K106 G106 c106 s106 x106 f106 hH cl106 sl106 => ?_))
            have hx := (f106.2 rd 7 k_rd 8 rfl).trans hx
            have k_rd := x106 _ _ k_rd
            have k_tn := x106 _ _ k_tn
            have hf := hf.tr hx0 (f106.wk (by decide +kernel))
            have hx0 := hx0.tr x106
            obtain rfl : c106 = 0 := Nat.le_zero.mp cl106
            obtain rfl : s106 = 0 := Nat.le_zero.mp sl106
            show et_go none _ 85 109 _ [] _ 0 0 _
            refine hs_vret (by decide +kernel) ?_
            exact ⟨_, _, rfl, hx0, hf, hH, hx, by omega, by omega, (by dsimp only; omega), (by dsimp only; omega)⟩
        · show et_go none _ 85 72 _ [.int (Int32.ofNat 1)] _ 0 0 _
          refine hs_if0 (c := .eq) (t := 93) (f := 75) (by decide +kernel) (show ¬ (Int32.ofNat 1 = 0) by decide) ?_
          refine hs_aload (i := 0) (p := 76) (by decide +kernel) rfl ?_
          refine hs_dup1 (p := 77) (by decide +kernel) ?_
          refine ht_getn (T := et_TT) (t := 7) (ci := 5) (f := 8) (p := 80) (by decide +kernel) rfl rfl hH k_rd (fun c77 h77 e77 => ?_)
          have q77 : c77 = y50 := hb_cc e77 hx (by omega) (by omega)
          refine hs_k (x := Int32.ofNat 1) (p := 81) (by decide +kernel) ?_
          refine hs_iaddn (p := 82) (by decide +kernel) ?_
          refine ht_put (M := [(7, 8, 8)]) (T := et_TT) (t := 7) (ci := 5) (f := 8) (p := 85) (ty := .int) (by decide +kernel) rfl rfl rfl rfl rfl (by decide +kernel) hH k_rd (hi_nv (by omega) (by omega)) (fun G82 hH f82 e82 => ?_)
          have hf := hf.tr hx0 (f82.wk (by decide +kernel))
          have hx := e82
          refine hs_aload (i := 0) (p := 86) (by decide +kernel) rfl ?_
          refine hs_k (x := Int32.ofNat 0) (p := 87) (by decide +kernel) ?_
          refine hs_k (x := Int32.ofNat 0) (p := 88) (by decide +kernel) ?_
          have hfo := hf
          refine ht_callv (T := et_TT) (t := 7) (mi := 75) (na := 2) (ci := 5) (lk := 5) (lm := 8) (L0 := eg_en (eg_mL 75) [.ref rd, .int (Int32.ofNat 0), .int (Int32.ofNat 0)]) (by decide +kernel) rfl hH k_rd rfl rfl rfl rfl rfl (by rw [show eg_mL 75 = 8 from by decide +kernel]; first | done | rfl) ?_
          refine (pp_cond hH k_rd hx (by omega) (by omega)).mono (fun u hu => pp_cb hu (fun K88 G88 v88 y88 c88 s88 x88 f88 hH hx hy88 hz88 hs88 hA => ?_))
          have k_rd := x88 _ _ k_rd
          have k_tn := x88 _ _ k_tn
          have hf := hf.tr hx0 (f88.wk (by decide +kernel))
          have hx0 := hx0.tr x88
          rcases hA with ⟨rfl, hA88⟩ | ⟨b88, rfl, k_b88, ge_b88, hA88⟩
          · show et_go none _ 85 91 _ [.null] _ (0 + c88) (0 + s88) _
            refine hs_astore0 (i := 4) (p := 93) (by decide +kernel) (Nat.le_of_ble_eq_true rfl) ?_
            refine hs_aload (i := 0) (p := 94) (by decide +kernel) rfl ?_
            refine ht_geti (T := et_TT) (t := 7) (ci := 5) (f := 2) (p := 97) (by decide +kernel) rfl rfl hH k_rd (fun c94 h94 g94 e94 => ?_)
            refine hs_k (x := (-1)) (p := 98) (by decide +kernel) ?_
            refine hs_br2 (c := .ne) (t := 109) (f := 101) (by decide +kernel) (fun (c98 : ¬ c94 = (-1)) => ?_) (fun (c98 : ¬ (¬ c94 = (-1))) => ?_)
            · refine hs_vret (by decide +kernel) ?_
              exact ⟨_, _, rfl, hx0, hf, hH, hx, by omega, by omega, (by dsimp only; omega), (by dsimp only; omega)⟩
            · refine hs_aload (i := 1) (p := 102) (by decide +kernel) rfl ?_
              refine hs_iload (i := 2) (p := 103) (by decide +kernel) rfl ?_
              refine hs_iload (i := 3) (p := 104) (by decide +kernel) rfl ?_
              refine hs_aload0 (i := 4) (p := 106) (by decide +kernel) rfl ?_
              have hfo := hf
              refine ht_callv (T := et_TT) (t := 11) (mi := 113) (na := 3) (ci := 9) (lk := 5) (lm := 4) (L0 := eg_en (eg_mL 113) [.ref tn, .int (Int32.ofNat 1), .int n50, .null]) (by decide +kernel) rfl hH k_tn rfl rfl rfl rfl rfl (by rw [show eg_mL 113 = 4 from by decide +kernel]; first | done | rfl) ?_
              refine (hc_add (K88, [], G88) [.ref tn, .int (Int32.ofNat 1), .int n50, .null] _ hH (by omega) rfl (ht_ac (.inr ⟨by decide, _, rfl, k_tn⟩) (ht_ac (hi_nv (by omega) (by omega)) (ht_ac hi_any (ht_ac (.inl ⟨by decide, rfl⟩) ht_an))))).mono (fun u hu => hs_cbn hu (fun K106 G106 c106 s106 x106 f106 hH cl106 sl106 => ?_))
              have hx := (f106.2 rd 7 k_rd 8 rfl).trans hx
              have k_rd := x106 _ _ k_rd
              have k_tn := x106 _ _ k_tn
              have hf := hf.tr hx0 (f106.wk (by decide +kernel))
              have hx0 := hx0.tr x106
              obtain rfl : c106 = 0 := Nat.le_zero.mp cl106
              obtain rfl : s106 = 0 := Nat.le_zero.mp sl106
              show et_go none _ 85 109 _ [] _ (0 + c88) (0 + s88) _
              refine hs_vret (by decide +kernel) ?_
              exact ⟨_, _, rfl, hx0, hf, hH, hx, by omega, by omega, (by dsimp only; omega), (by dsimp only; omega)⟩
          · have ge_b88 := Nat.le_trans hfo.1 ge_b88
            show et_go none _ 85 91 _ [.ref b88] _ (0 + c88) (0 + s88) _
            refine hs_astore (i := 4) (p := 93) (by decide +kernel) (Nat.le_of_ble_eq_true rfl) ?_
            refine hs_aload (i := 0) (p := 94) (by decide +kernel) rfl ?_
            refine ht_geti (T := et_TT) (t := 7) (ci := 5) (f := 2) (p := 97) (by decide +kernel) rfl rfl hH k_rd (fun c94 h94 g94 e94 => ?_)
            refine hs_k (x := (-1)) (p := 98) (by decide +kernel) ?_
            refine hs_br2 (c := .ne) (t := 109) (f := 101) (by decide +kernel) (fun (c98 : ¬ c94 = (-1)) => ?_) (fun (c98 : ¬ (¬ c94 = (-1))) => ?_)
            · refine hs_vret (by decide +kernel) ?_
              exact ⟨_, _, rfl, hx0, hf, hH, hx, by omega, by omega, (by dsimp only; omega), (by dsimp only; omega)⟩
            · refine hs_aload (i := 1) (p := 102) (by decide +kernel) rfl ?_
              refine hs_iload (i := 2) (p := 103) (by decide +kernel) rfl ?_
              refine hs_iload (i := 3) (p := 104) (by decide +kernel) rfl ?_
              refine hs_aload (i := 4) (p := 106) (by decide +kernel) rfl ?_
              have lto_b88 := (hH.2.2 _ _ k_b88).1
              have hfo := hf
              refine ht_callv (T := et_TT) (t := 11) (mi := 113) (na := 3) (ci := 9) (lk := 5) (lm := 4) (L0 := eg_en (eg_mL 113) [.ref tn, .int (Int32.ofNat 1), .int n50, .ref b88]) (by decide +kernel) rfl hH k_tn rfl rfl rfl rfl rfl (by rw [show eg_mL 113 = 4 from by decide +kernel]; first | done | rfl) ?_
              refine (hc_add (K88, [], G88) [.ref tn, .int (Int32.ofNat 1), .int n50, .ref b88] _ hH (by omega) rfl (ht_ac (.inr ⟨by decide, _, rfl, k_tn⟩) (ht_ac (hi_nv (by omega) (by omega)) (ht_ac hi_any (ht_ac (.inr ⟨by decide, _, rfl, k_b88⟩) ht_an))))).mono (fun u hu => hs_cbn hu (fun K106 G106 c106 s106 x106 f106 hH cl106 sl106 => ?_))
              have hx := (f106.2 rd 7 k_rd 8 rfl).trans hx
              have k_rd := x106 _ _ k_rd
              have k_tn := x106 _ _ k_tn
              have k_b88 := x106 _ _ k_b88
              have hf := hf.tr hx0 (f106.wk (by decide +kernel))
              have hx0 := hx0.tr x106
              obtain rfl : c106 = 0 := Nat.le_zero.mp cl106
              obtain rfl : s106 = 0 := Nat.le_zero.mp sl106
              show et_go none _ 85 109 _ [] _ (0 + c88) (0 + s88) _
              refine hs_vret (by decide +kernel) ?_
              exact ⟨_, _, rfl, hx0, hf, hH, hx, by omega, by omega, (by dsimp only; omega), (by dsimp only; omega)⟩
theorem pn_tt {i mo ck sk y : Nat} (hH : et_H et_TT K G) (hx0 : et_ex w.1 K) (hf : et_fr tt_M w.1 w.2.2 G) (k_rd : K rd = some 7) (hx : pp_at G rd y) (k_tn : K tn = some 11) (hmo : mo ≤ 1) (hyl : y ≤ 401) (h3 : ck ≤ 4 + 2 * y + 3 * i) (hs : sk ≤ 34 + 6 * ck) (hi : i ≤ 11) : et_go none (d + 27) 84 31 [some (.ref rd), some (.ref tn), some (.int (Int32.ofNat mo)), some (.int (Int32.ofNat i))] [] G ck sk (hi_Z et_TT w tt_M [(.inl (some (.inr (.inr (1, 11)))), 840, 5100)]) := by
  induction hm : 11 - i using Nat.strongRecOn generalizing i mo ck sk y K G with
  | _ z ih =>
    refine hs_iload (i := 3) (p := 32) (by decide +kernel) rfl ?_
    refine hs_k (x := Int32.ofNat 10) (p := 34) (by decide +kernel) ?_
    refine hs_br2n (c := .gt) (t := 90) (f := 37) (by decide +kernel) (by omega) (by omega) (fun (c34 : 10 < i) => ?_) (fun (c34 : ¬ (10 < i)) => ?_)
    · refine hs_aload (i := 0) (p := 91) (by decide +kernel) rfl ?_
      refine ht_geti (T := et_TT) (t := 7) (ci := 5) (f := 2) (p := 94) (by decide +kernel) rfl rfl hH k_rd (fun c91 h91 g91 e91 => ?_)
      refine hs_k (x := (-1)) (p := 95) (by decide +kernel) ?_
      refine hs_br2 (c := .ne) (t := 113) (f := 98) (by decide +kernel) (fun (c95 : ¬ c91 = (-1)) => ?_) (fun (c95 : ¬ (¬ c91 = (-1))) => ?_)
      · refine hs_aload (i := 0) (p := 114) (by decide +kernel) rfl ?_
        refine ht_geti (T := et_TT) (t := 7) (ci := 5) (f := 2) (p := 117) (by decide +kernel) rfl rfl hH k_rd (fun c114 h114 g114 e114 => ?_)
        refine hs_k (x := (-1)) (p := 118) (by decide +kernel) ?_
        refine hs_br2 (c := .ne) (t := 125) (f := 121) (by decide +kernel) (fun (c118 : ¬ c114 = (-1)) => ?_) (fun (c118 : ¬ (¬ c114 = (-1))) => ?_)
        · refine hs_nul (p := 126) (by decide +kernel) ?_
          refine hs_aretN (cn := "KnobEye$Turner") (by decide +kernel) ?_
          exact ⟨_, List.mem_cons_self, _, hx0, hf, hH, ⟨_, rfl, .inl ⟨by decide, rfl⟩⟩, (by dsimp only; omega), (by dsimp only; omega)⟩
        · refine hs_aload (i := 1) (p := 122) (by decide +kernel) rfl ?_
          refine hs_goto (p := 126) (by decide +kernel) ?_
          refine hs_aret (cn := "KnobEye$Turner") (by decide +kernel) ?_
          exact ⟨_, List.mem_cons_self, _, hx0, hf, hH, ⟨_, rfl, .inr ⟨by decide, _, rfl, k_tn⟩⟩, (by dsimp only; omega), (by dsimp only; omega)⟩
      · refine hs_aload (i := 0) (p := 99) (by decide +kernel) rfl ?_
        refine hs_gst (v := Value.ref 34) (p := 102) (by decide +kernel) ?_
        have hfo := hf
        refine ht_callv (T := et_TT) (t := 7) (mi := 78) (na := 1) (ci := 5) (lk := 4) (lm := 2) (L0 := eg_en (eg_mL 78) [.ref rd, .ref 34]) (by decide +kernel) rfl hH k_rd rfl rfl rfl rfl rfl (by rw [show eg_mL 78 = 2 from by decide +kernel]; first | done | rfl) ?_
        refine (pp_is hH k_rd hx (by omega) (hH.2.1 _ (by decide)) (by omega)).mono (fun u hu => pz_cb hu (fun K102 G102 v102 x102 f102 hH hA => ?_))
        have hx := (f102.2 rd 7 k_rd 8 rfl).trans hx
        have k_rd := x102 _ _ k_rd
        have k_tn := x102 _ _ k_tn
        have hf := hf.tr hx0 (f102.wk (by decide +kernel))
        have hx0 := hx0.tr x102
        rcases hA with rfl | ⟨rfl, hi102⟩
        · show et_go none _ 84 105 _ [.int (Int32.ofNat 0)] _ ck sk _
          refine hs_if0 (c := .ne) (t := 113) (f := 108) (by decide +kernel) (show ¬ (¬ Int32.ofNat 0 = 0) by decide) ?_
          refine hs_aload (i := 0) (p := 109) (by decide +kernel) rfl ?_
          have hfo := hf
          refine ht_callv (T := et_TT) (t := 7) (mi := 76) (na := 0) (ci := 5) (lk := 4) (lm := 1) (L0 := eg_en (eg_mL 76) [.ref rd]) (by decide +kernel) rfl hH k_rd rfl rfl rfl rfl rfl (by rw [show eg_mL 76 = 1 from by decide +kernel]; first | done | rfl) ?_
          refine (ep_c4 (K102, [], G102) [.ref rd] _ hH (by omega) rfl (ht_ac (.inr ⟨by decide, _, rfl, k_rd⟩) ht_an)).mono (fun u hu => hs_cbv hu (fun v109 K109 G109 c109 s109 x109 f109 hH hv109 cl109 sl109 => ?_))
          have hx := (f109.2 rd 7 k_rd 8 rfl).trans hx
          have k_rd := x109 _ _ k_rd
          have k_tn := x109 _ _ k_tn
          have hf := hf.tr hx0 (f109.wk (by decide +kernel))
          have hx0 := hx0.tr x109
          obtain rfl : c109 = 0 := Nat.le_zero.mp cl109
          obtain rfl : s109 = 0 := Nat.le_zero.mp sl109
          obtain rfl : v109 = .null := hv109.elim (fun h => h.2) (fun h => absurd h.1 (by decide))
          show et_go none _ 84 112 _ [.null] _ ck sk _
          refine hs_popn (p := 113) (by decide +kernel) ?_
          refine hs_aload (i := 0) (p := 114) (by decide +kernel) rfl ?_
          refine ht_geti (T := et_TT) (t := 7) (ci := 5) (f := 2) (p := 117) (by decide +kernel) rfl rfl hH k_rd (fun c114 h114 g114 e114 => ?_)
          refine hs_k (x := (-1)) (p := 118) (by decide +kernel) ?_
          refine hs_br2 (c := .ne) (t := 125) (f := 121) (by decide +kernel) (fun (c118 : ¬ c114 = (-1)) => ?_) (fun (c118 : ¬ (¬ c114 = (-1))) => ?_)
          · refine hs_nul (p := 126) (by decide +kernel) ?_
            refine hs_aretN (cn := "KnobEye$Turner") (by decide +kernel) ?_
            exact ⟨_, List.mem_cons_self, _, hx0, hf, hH, ⟨_, rfl, .inl ⟨by decide, rfl⟩⟩, (by dsimp only; omega), (by dsimp only; omega)⟩
          · refine hs_aload (i := 1) (p := 122) (by decide +kernel) rfl ?_
            refine hs_goto (p := 126) (by decide +kernel) ?_
            refine hs_aret (cn := "KnobEye$Turner") (by decide +kernel) ?_
            exact ⟨_, List.mem_cons_self, _, hx0, hf, hH, ⟨_, rfl, .inr ⟨by decide, _, rfl, k_tn⟩⟩, (by dsimp only; omega), (by dsimp only; omega)⟩
        · show et_go none _ 84 105 _ [.int (Int32.ofNat 1)] _ ck sk _
          refine hs_if1 (c := .ne) (t := 113) (f := 108) (by decide +kernel) (show ¬ Int32.ofNat 1 = 0 by decide) ?_
          refine hs_aload (i := 0) (p := 114) (by decide +kernel) rfl ?_
          refine ht_geti (T := et_TT) (t := 7) (ci := 5) (f := 2) (p := 117) (by decide +kernel) rfl rfl hH k_rd (fun c114 h114 g114 e114 => ?_)
          refine hs_k (x := (-1)) (p := 118) (by decide +kernel) ?_
          refine hs_br2 (c := .ne) (t := 125) (f := 121) (by decide +kernel) (fun (c118 : ¬ c114 = (-1)) => ?_) (fun (c118 : ¬ (¬ c114 = (-1))) => ?_)
          · refine hs_nul (p := 126) (by decide +kernel) ?_
            refine hs_aretN (cn := "KnobEye$Turner") (by decide +kernel) ?_
            exact ⟨_, List.mem_cons_self, _, hx0, hf, hH, ⟨_, rfl, .inl ⟨by decide, rfl⟩⟩, (by dsimp only; omega), (by dsimp only; omega)⟩
          · refine hs_aload (i := 1) (p := 122) (by decide +kernel) rfl ?_
            refine hs_goto (p := 126) (by decide +kernel) ?_
            refine hs_aret (cn := "KnobEye$Turner") (by decide +kernel) ?_
            exact ⟨_, List.mem_cons_self, _, hx0, hf, hH, ⟨_, rfl, .inr ⟨by decide, _, rfl, k_tn⟩⟩, (by dsimp only; omega), (by dsimp only; omega)⟩
    · refine hs_iload (i := 2) (p := 38) (by decide +kernel) rfl ?_
      refine hs_br1 (c := .eq) (t := 90) (f := 41) (by decide +kernel) (fun (c38 : Int32.ofNat mo = 0) => ?_) (fun (c38 : ¬ (Int32.ofNat mo = 0)) => ?_)
      · refine hs_aload (i := 0) (p := 91) (by decide +kernel) rfl ?_
        refine ht_geti (T := et_TT) (t := 7) (ci := 5) (f := 2) (p := 94) (by decide +kernel) rfl rfl hH k_rd (fun c91 h91 g91 e91 => ?_)
        refine hs_k (x := (-1)) (p := 95) (by decide +kernel) ?_
        refine hs_br2 (c := .ne) (t := 113) (f := 98) (by decide +kernel) (fun (c95 : ¬ c91 = (-1)) => ?_) (fun (c95 : ¬ (¬ c91 = (-1))) => ?_)
        · refine hs_aload (i := 0) (p := 114) (by decide +kernel) rfl ?_
          refine ht_geti (T := et_TT) (t := 7) (ci := 5) (f := 2) (p := 117) (by decide +kernel) rfl rfl hH k_rd (fun c114 h114 g114 e114 => ?_)
          refine hs_k (x := (-1)) (p := 118) (by decide +kernel) ?_
          refine hs_br2 (c := .ne) (t := 125) (f := 121) (by decide +kernel) (fun (c118 : ¬ c114 = (-1)) => ?_) (fun (c118 : ¬ (¬ c114 = (-1))) => ?_)
          · refine hs_nul (p := 126) (by decide +kernel) ?_
            refine hs_aretN (cn := "KnobEye$Turner") (by decide +kernel) ?_
            exact ⟨_, List.mem_cons_self, _, hx0, hf, hH, ⟨_, rfl, .inl ⟨by decide, rfl⟩⟩, (by dsimp only; omega), (by dsimp only; omega)⟩
          · refine hs_aload (i := 1) (p := 122) (by decide +kernel) rfl ?_
            refine hs_goto (p := 126) (by decide +kernel) ?_
            refine hs_aret (cn := "KnobEye$Turner") (by decide +kernel) ?_
            exact ⟨_, List.mem_cons_self, _, hx0, hf, hH, ⟨_, rfl, .inr ⟨by decide, _, rfl, k_tn⟩⟩, (by dsimp only; omega), (by dsimp only; omega)⟩
        · refine hs_aload (i := 0) (p := 99) (by decide +kernel) rfl ?_
          refine hs_gst (v := Value.ref 34) (p := 102) (by decide +kernel) ?_
          have hfo := hf
          refine ht_callv (T := et_TT) (t := 7) (mi := 78) (na := 1) (ci := 5) (lk := 4) (lm := 2) (L0 := eg_en (eg_mL 78) [.ref rd, .ref 34]) (by decide +kernel) rfl hH k_rd rfl rfl rfl rfl rfl (by rw [show eg_mL 78 = 2 from by decide +kernel]; first | done | rfl) ?_
          refine (pp_is hH k_rd hx (by omega) (hH.2.1 _ (by decide)) (by omega)).mono (fun u hu => pz_cb hu (fun K102 G102 v102 x102 f102 hH hA => ?_))
          have hx := (f102.2 rd 7 k_rd 8 rfl).trans hx
          have k_rd := x102 _ _ k_rd
          have k_tn := x102 _ _ k_tn
          have hf := hf.tr hx0 (f102.wk (by decide +kernel))
          have hx0 := hx0.tr x102
          rcases hA with rfl | ⟨rfl, hi102⟩
          · show et_go none _ 84 105 _ [.int (Int32.ofNat 0)] _ ck sk _
            refine hs_if0 (c := .ne) (t := 113) (f := 108) (by decide +kernel) (show ¬ (¬ Int32.ofNat 0 = 0) by decide) ?_
            refine hs_aload (i := 0) (p := 109) (by decide +kernel) rfl ?_
            have hfo := hf
            refine ht_callv (T := et_TT) (t := 7) (mi := 76) (na := 0) (ci := 5) (lk := 4) (lm := 1) (L0 := eg_en (eg_mL 76) [.ref rd]) (by decide +kernel) rfl hH k_rd rfl rfl rfl rfl rfl (by rw [show eg_mL 76 = 1 from by decide +kernel]; first | done | rfl) ?_
            refine (ep_c4 (K102, [], G102) [.ref rd] _ hH (by omega) rfl (ht_ac (.inr ⟨by decide, _, rfl, k_rd⟩) ht_an)).mono (fun u hu => hs_cbv hu (fun v109 K109 G109 c109 s109 x109 f109 hH hv109 cl109 sl109 => ?_))
            have hx := (f109.2 rd 7 k_rd 8 rfl).trans hx
            have k_rd := x109 _ _ k_rd
            have k_tn := x109 _ _ k_tn
            have hf := hf.tr hx0 (f109.wk (by decide +kernel))
            have hx0 := hx0.tr x109
            obtain rfl : c109 = 0 := Nat.le_zero.mp cl109
            obtain rfl : s109 = 0 := Nat.le_zero.mp sl109
            obtain rfl : v109 = .null := hv109.elim (fun h => h.2) (fun h => absurd h.1 (by decide))
            show et_go none _ 84 112 _ [.null] _ ck sk _
            refine hs_popn (p := 113) (by decide +kernel) ?_
            refine hs_aload (i := 0) (p := 114) (by decide +kernel) rfl ?_
            refine ht_geti (T := et_TT) (t := 7) (ci := 5) (f := 2) (p := 117) (by decide +kernel) rfl rfl hH k_rd (fun c114 h114 g114 e114 => ?_)
            refine hs_k (x := (-1)) (p := 118) (by decide +kernel) ?_
            refine hs_br2 (c := .ne) (t := 125) (f := 121) (by decide +kernel) (fun (c118 : ¬ c114 = (-1)) => ?_) (fun (c118 : ¬ (¬ c114 = (-1))) => ?_)
            · refine hs_nul (p := 126) (by decide +kernel) ?_
              refine hs_aretN (cn := "KnobEye$Turner") (by decide +kernel) ?_
              exact ⟨_, List.mem_cons_self, _, hx0, hf, hH, ⟨_, rfl, .inl ⟨by decide, rfl⟩⟩, (by dsimp only; omega), (by dsimp only; omega)⟩
            · refine hs_aload (i := 1) (p := 122) (by decide +kernel) rfl ?_
              refine hs_goto (p := 126) (by decide +kernel) ?_
              refine hs_aret (cn := "KnobEye$Turner") (by decide +kernel) ?_
              exact ⟨_, List.mem_cons_self, _, hx0, hf, hH, ⟨_, rfl, .inr ⟨by decide, _, rfl, k_tn⟩⟩, (by dsimp only; omega), (by dsimp only; omega)⟩
          · show et_go none _ 84 105 _ [.int (Int32.ofNat 1)] _ ck sk _
            refine hs_if1 (c := .ne) (t := 113) (f := 108) (by decide +kernel) (show ¬ Int32.ofNat 1 = 0 by decide) ?_
            refine hs_aload (i := 0) (p := 114) (by decide +kernel) rfl ?_
            refine ht_geti (T := et_TT) (t := 7) (ci := 5) (f := 2) (p := 117) (by decide +kernel) rfl rfl hH k_rd (fun c114 h114 g114 e114 => ?_)
            refine hs_k (x := (-1)) (p := 118) (by decide +kernel) ?_
            refine hs_br2 (c := .ne) (t := 125) (f := 121) (by decide +kernel) (fun (c118 : ¬ c114 = (-1)) => ?_) (fun (c118 : ¬ (¬ c114 = (-1))) => ?_)
            · refine hs_nul (p := 126) (by decide +kernel) ?_
              refine hs_aretN (cn := "KnobEye$Turner") (by decide +kernel) ?_
              exact ⟨_, List.mem_cons_self, _, hx0, hf, hH, ⟨_, rfl, .inl ⟨by decide, rfl⟩⟩, (by dsimp only; omega), (by dsimp only; omega)⟩
            · refine hs_aload (i := 1) (p := 122) (by decide +kernel) rfl ?_
              refine hs_goto (p := 126) (by decide +kernel) ?_
              refine hs_aret (cn := "KnobEye$Turner") (by decide +kernel) ?_
              exact ⟨_, List.mem_cons_self, _, hx0, hf, hH, ⟨_, rfl, .inr ⟨by decide, _, rfl, k_tn⟩⟩, (by dsimp only; omega), (by dsimp only; omega)⟩
      · refine hs_aload (i := 0) (p := 42) (by decide +kernel) rfl ?_
        refine hs_aload (i := 1) (p := 43) (by decide +kernel) rfl ?_
        have hfo := hf
        refine ht_callv (T := et_TT) (t := 7) (mi := 85) (na := 1) (ci := 5) (lk := 4) (lm := 5) (L0 := eg_en (eg_mL 85) [.ref rd, .ref tn]) (by decide +kernel) rfl hH k_rd rfl rfl rfl rfl rfl (by rw [show eg_mL 85 = 5 from by decide +kernel]; first | done | rfl) ?_
        refine (pp_line hH k_rd hx k_tn (by omega) (by omega)).mono (fun u hu => pl_cb hu (fun K43 G43 y43 c43 s43 x43 f43 hH hx hy43 hz43 hs43 hA43 => ?_))
        have k_rd := x43 _ _ k_rd
        have k_tn := x43 _ _ k_tn
        have hf := hf.tr hx0 (f43.wk (by decide +kernel))
        have hx0 := hx0.tr x43
        show et_go none _ 84 46 _ [] _ (ck + c43) (sk + s43) _
        refine hs_aload (i := 0) (p := 47) (by decide +kernel) rfl ?_
        refine ht_geti (T := et_TT) (t := 7) (ci := 5) (f := 2) (p := 50) (by decide +kernel) rfl rfl hH k_rd (fun c47 h47 g47 e47 => ?_)
        refine hs_k (x := (-1)) (p := 51) (by decide +kernel) ?_
        refine hs_br2 (c := .ne) (t := 68) (f := 54) (by decide +kernel) (fun (c51 : ¬ c47 = (-1)) => ?_) (fun (c51 : ¬ (¬ c47 = (-1))) => ?_)
        · refine hs_k (x := Int32.ofNat 0) (p := 69) (by decide +kernel) ?_
          refine hs_istore (i := 2) (p := 70) (by decide +kernel) (Nat.le_of_ble_eq_true rfl) ?_
          refine hs_iload (i := 2) (p := 71) (by decide +kernel) rfl ?_
          refine hs_if1 (c := .eq) (t := 84) (f := 74) (by decide +kernel) (show Int32.ofNat 0 = 0 by decide) ?_
          refine hs_iinc1 (i := 3) (p := 87) (by decide +kernel) rfl (Nat.le_of_ble_eq_true rfl) ?_
          refine hs_goto (p := 31) (by decide +kernel) ?_
          show et_go none (d + 27) 84 31 [some (.ref rd), some (.ref tn), some (.int (Int32.ofNat 0)), some (.int (Int32.ofNat (i + 1)))] [] _ _ _ _
          exact ih (11 - (i + 1)) (by omega) (i := (i + 1)) hH hx0 hf k_rd hx k_tn (by omega) (by omega) (by omega) (by omega) (by omega) rfl
        · refine hs_aload (i := 0) (p := 55) (by decide +kernel) rfl ?_
          refine hs_gst (v := Value.ref 32) (p := 58) (by decide +kernel) ?_
          have hfo := hf
          refine ht_callv (T := et_TT) (t := 7) (mi := 78) (na := 1) (ci := 5) (lk := 4) (lm := 2) (L0 := eg_en (eg_mL 78) [.ref rd, .ref 32]) (by decide +kernel) rfl hH k_rd rfl rfl rfl rfl rfl (by rw [show eg_mL 78 = 2 from by decide +kernel]; first | done | rfl) ?_
          refine (pp_is hH k_rd hx (by omega) (hH.2.1 _ (by decide)) (by omega)).mono (fun u hu => pz_cb hu (fun K58 G58 v58 x58 f58 hH hA => ?_))
          have hx := (f58.2 rd 7 k_rd 8 rfl).trans hx
          have k_rd := x58 _ _ k_rd
          have k_tn := x58 _ _ k_tn
          have hf := hf.tr hx0 (f58.wk (by decide +kernel))
          have hx0 := hx0.tr x58
          rcases hA with rfl | ⟨rfl, hi58⟩
          · show et_go none _ 84 61 _ [.int (Int32.ofNat 0)] _ (ck + c43) (sk + s43) _
            refine hs_if1 (c := .eq) (t := 68) (f := 64) (by decide +kernel) (show Int32.ofNat 0 = 0 by decide) ?_
            refine hs_k (x := Int32.ofNat 0) (p := 69) (by decide +kernel) ?_
            refine hs_istore (i := 2) (p := 70) (by decide +kernel) (Nat.le_of_ble_eq_true rfl) ?_
            refine hs_iload (i := 2) (p := 71) (by decide +kernel) rfl ?_
            refine hs_if1 (c := .eq) (t := 84) (f := 74) (by decide +kernel) (show Int32.ofNat 0 = 0 by decide) ?_
            refine hs_iinc1 (i := 3) (p := 87) (by decide +kernel) rfl (Nat.le_of_ble_eq_true rfl) ?_
            refine hs_goto (p := 31) (by decide +kernel) ?_
            show et_go none (d + 27) 84 31 [some (.ref rd), some (.ref tn), some (.int (Int32.ofNat 0)), some (.int (Int32.ofNat (i + 1)))] [] _ _ _ _
            exact ih (11 - (i + 1)) (by omega) (i := (i + 1)) hH hx0 hf k_rd hx k_tn (by omega) (by omega) (by omega) (by omega) (by omega) rfl
          · show et_go none _ 84 61 _ [.int (Int32.ofNat 1)] _ (ck + c43) (sk + s43) _
            refine hs_if0 (c := .eq) (t := 68) (f := 64) (by decide +kernel) (show ¬ (Int32.ofNat 1 = 0) by decide) ?_
            refine hs_k (x := Int32.ofNat 1) (p := 65) (by decide +kernel) ?_
            refine hs_goto (p := 69) (by decide +kernel) ?_
            refine hs_istore (i := 2) (p := 70) (by decide +kernel) (Nat.le_of_ble_eq_true rfl) ?_
            refine hs_iload (i := 2) (p := 71) (by decide +kernel) rfl ?_
            refine hs_if0 (c := .eq) (t := 84) (f := 74) (by decide +kernel) (show ¬ (Int32.ofNat 1 = 0) by decide) ?_
            refine hs_aload (i := 0) (p := 75) (by decide +kernel) rfl ?_
            refine hs_dup1 (p := 76) (by decide +kernel) ?_
            refine ht_getn (T := et_TT) (t := 7) (ci := 5) (f := 8) (p := 79) (by decide +kernel) rfl rfl hH k_rd (fun c76 h76 e76 => ?_)
            have q76 : c76 = y43 := hb_cc e76 hx (by omega) (by omega)
            refine hs_k (x := Int32.ofNat 1) (p := 80) (by decide +kernel) ?_
            refine hs_iaddn (p := 81) (by decide +kernel) ?_
            refine ht_put (M := [(7, 8, 8)]) (T := et_TT) (t := 7) (ci := 5) (f := 8) (p := 84) (ty := .int) (by decide +kernel) rfl rfl rfl rfl rfl (by decide +kernel) hH k_rd (hi_nv (by omega) (by omega)) (fun G81 hH f81 e81 => ?_)
            have hf := hf.tr hx0 (f81.wk (by decide +kernel))
            have hx := e81
            refine hs_iinc1 (i := 3) (p := 87) (by decide +kernel) rfl (Nat.le_of_ble_eq_true rfl) ?_
            refine hs_goto (p := 31) (by decide +kernel) ?_
            show et_go none (d + 27) 84 31 [some (.ref rd), some (.ref tn), some (.int (Int32.ofNat 1)), some (.int (Int32.ofNat (i + 1)))] [] _ _ _ _
            exact ih (11 - (i + 1)) (by omega) (i := (i + 1)) hH hx0 hf k_rd hx k_tn (by omega) (by omega) (by omega) (by omega) (by omega) rfl
theorem hc_tt : et_cv et_TT hq_tt := by
  intro w as d2 hH hd hl hv
  obtain ⟨v, rfl⟩ := hi_len1 (show as.length = 1 from hl)
  obtain ⟨rd, rfl, k_rd⟩ := hi_ref (hv 0 _ _ rfl rfl)
  obtain ⟨d, rfl⟩ : ∃ d, d2 = d + 27 := ⟨d2 - 27, by have : 27 ≤ d2 := hd; omega⟩
  have hx0 : et_ex w.1 w.1 := et_ex.rf
  have hf : et_fr tt_M w.1 w.2.2 w.2.2 := et_fr.rf
  rw [show eg_mL 84 = 4 from by decide +kernel]
  show et_go none (d + 27) 84 0 [some (.ref rd), none, none, none] [] w.2.2 0 0 _
  refine hs_aload (i := 0) (p := 1) (by decide +kernel) rfl ?_
  refine hs_k (x := Int32.ofNat 1) (p := 2) (by decide +kernel) ?_
  have hfo := hf
  refine ht_callv (T := et_TT) (t := 7) (mi := 67) (na := 1) (ci := 5) (lk := 4) (lm := 4) (L0 := eg_en (eg_mL 67) [.ref rd, .int (Int32.ofNat 1)]) (by decide +kernel) rfl hH k_rd rfl rfl rfl rfl rfl (by rw [show eg_mL 67 = 4 from by decide +kernel]; first | done | rfl) ?_
  refine (hc_split (w.1, [], w.2.2) [.ref rd, .int (Int32.ofNat 1)] _ hH (by omega) rfl (ht_ac (.inr ⟨by decide, _, rfl, k_rd⟩) (ht_ac hi_any ht_an))).mono (fun u hu => hs_cbn hu (fun K2 G2 c2 s2 x2 f2 hH cl2 sl2 => ?_))
  have k_rd := x2 _ _ k_rd
  have hf := hf.tr hx0 (f2.wk (by decide +kernel))
  have hx0 := hx0.tr x2
  obtain ⟨x, hxl, hx⟩ := pp_at0 hH k_rd
  obtain rfl : c2 = 0 := Nat.le_zero.mp cl2
  obtain rfl : s2 = 0 := Nat.le_zero.mp sl2
  show et_go none _ 84 5 _ [] _ 0 0 _
  refine ht_newU (ci := 9) (n := 4) (fs := [.int 0, .null, .null, .null]) (p := 8) (by decide +kernel) (by omega) (by omega) (by decide +kernel) (by decide +kernel) hH (fun G5 o5 hu f5 => ?_)
  have hx := (f5.2 rd 7 k_rd 8 rfl).trans hx
  have hH := hu.1
  have hf := hf.tr hx0 (f5.wk (by decide +kernel))
  refine hs_dup1 (p := 9) (by decide +kernel) ?_
  have hfo := hf
  refine hs_callp (mi := 112) (na := 0) (lk := 4) (lm := 1) (L0 := eg_en (eg_mL 112) [.ref o5]) (by decide +kernel) rfl rfl rfl rfl rfl (by rw [show eg_mL 112 = 1 from by decide +kernel]; first | done | rfl) ?_
  refine (pu_turner hu).mono (fun u hu => pu_cb hu (fun K9 G9 x9 f9 hH k_o5 => ?_))
  have hx := (f9.2 rd 7 k_rd 8 rfl).trans hx
  have k_rd := x9 _ _ k_rd
  have hf := hf.tr hx0 (f9.wk (by decide +kernel))
  have hx0 := hx0.tr x9
  show et_go none _ 84 12 _ [.ref o5] _ ((0 + 1) + 3) ((0 + 4) + 30) _
  refine hs_astore (i := 1) (p := 13) (by decide +kernel) (Nat.le_of_ble_eq_true rfl) ?_
  refine hs_aload (i := 0) (p := 14) (by decide +kernel) rfl ?_
  refine hs_gst (v := Value.ref 34) (p := 17) (by decide +kernel) ?_
  have hfo := hf
  refine ht_callv (T := et_TT) (t := 7) (mi := 78) (na := 1) (ci := 5) (lk := 4) (lm := 2) (L0 := eg_en (eg_mL 78) [.ref rd, .ref 34]) (by decide +kernel) rfl hH k_rd rfl rfl rfl rfl rfl (by rw [show eg_mL 78 = 2 from by decide +kernel]; first | done | rfl) ?_
  refine (pp_is hH k_rd hx (by omega) (hH.2.1 _ (by decide)) (by omega)).mono (fun u hu => pz_cb hu (fun K17 G17 v17 x17 f17 hH hA => ?_))
  have hx := (f17.2 rd 7 k_rd 8 rfl).trans hx
  have k_rd := x17 _ _ k_rd
  have k_o5 := x17 _ _ k_o5
  have hf := hf.tr hx0 (f17.wk (by decide +kernel))
  have hx0 := hx0.tr x17
  rcases hA with rfl | ⟨rfl, hi17⟩
  · show et_go none _ 84 20 _ [.int (Int32.ofNat 0)] _ ((0 + 1) + 3) ((0 + 4) + 30) _
    refine hs_if0 (c := .ne) (t := 27) (f := 23) (by decide +kernel) (show ¬ (¬ Int32.ofNat 0 = 0) by decide) ?_
    refine hs_k (x := Int32.ofNat 1) (p := 24) (by decide +kernel) ?_
    refine hs_goto (p := 28) (by decide +kernel) ?_
    refine hs_istore (i := 2) (p := 29) (by decide +kernel) (Nat.le_of_ble_eq_true rfl) ?_
    refine hs_k (x := Int32.ofNat 0) (p := 30) (by decide +kernel) ?_
    refine hs_istore (i := 3) (p := 31) (by decide +kernel) (Nat.le_of_ble_eq_true rfl) ?_
    show et_go none (d + 27) 84 31 [some (.ref rd), some (.ref o5), some (.int (Int32.ofNat 1)), some (.int (Int32.ofNat 0))] [] _ _ _ _
    exact pn_tt (i := 0) hH hx0 hf k_rd hx k_o5 (by omega) (by omega) (by omega) (by omega) (by omega)
  · show et_go none _ 84 20 _ [.int (Int32.ofNat 1)] _ ((0 + 1) + 3) ((0 + 4) + 30) _
    refine hs_if1 (c := .ne) (t := 27) (f := 23) (by decide +kernel) (show ¬ Int32.ofNat 1 = 0 by decide) ?_
    refine hs_k (x := Int32.ofNat 0) (p := 28) (by decide +kernel) ?_
    refine hs_istore (i := 2) (p := 29) (by decide +kernel) (Nat.le_of_ble_eq_true rfl) ?_
    refine hs_k (x := Int32.ofNat 0) (p := 30) (by decide +kernel) ?_
    refine hs_istore (i := 3) (p := 31) (by decide +kernel) (Nat.le_of_ble_eq_true rfl) ?_
    show et_go none (d + 27) 84 31 [some (.ref rd), some (.ref o5), some (.int (Int32.ofNat 0)), some (.int (Int32.ofNat 0))] [] _ _ _ _
    exact pn_tt (i := 0) hH hx0 hf k_rd hx k_o5 (by omega) (by omega) (by omega) (by omega) (by omega)
end PPD
