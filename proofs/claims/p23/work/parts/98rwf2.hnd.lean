section
/-- LINE as the reference tells it -/
def liR (nc : Nat) (g9 o9 : Int32) : Int32 := if Int32.ofNat nc = 0 then Int32.ofNat 0 else if g9 ≤ -1000000 then o9 - Int32.ofNat 1 else g9
/-- what it keeps of a number that is the best so far -/
def lkU (G : eg_G) (am be W nc : Nat) (T : Nat → Int32) (s9 l9 g9 o9 : Int32) : Prop := et_pl (eg_at G am) 29 = some (.int (Int32.ofNat 1)) ∧ et_pl (eg_at G am) 23 = some (.int s9) ∧ et_pl (eg_at G am) 25 = some (.int l9) ∧ et_pl (eg_at G am) 26 = some (.int g9) ∧ et_pl (eg_at G am) 24 = some (.int (liR nc g9 o9)) ∧ ∀ u, u < W → et_pl (eg_at G be) u = some (.int (T u))
/-- nothing of it has changed -/
def lkN (G g : eg_G) (am be : Nat) : Prop := (∀ j, j = 29 ∨ (23 ≤ j ∧ j ≤ 26) → et_pl (eg_at g am) j = et_pl (eg_at G am) j) ∧ ∀ u, et_pl (eg_at g be) u = et_pl (eg_at G be) u
theorem rk_up {B TD : Nat → Int32} {i : Nat} (hB : ∀ u, u < i → B u = TD u) : ∀ u, u < i + 1 → upd B i (TD i) u = TD u := fun u hu => by
  by_cases e : u = i
  · rw [e]; exact hs_us
  · rw [hs_un e]; exact hB u (by omega)
section RKL
variable {d am aw td vs bs : Nat} {G : eg_G} {F : Nat → Value} {W B TD VS : Nat → Int32} {Z : eg_O → Prop}
theorem rk_at {k : Nat} (hV : rl_V G am aw td vs bs F TD VS) (hk : k < 36) : et_pl (eg_at (rl_H G am aw bs F W B) am) k = some (F k) := by
  unfold rl_H
  rw [hm_m (rl_ok hV)]
  exact hi_pF hk
theorem rk_be {u : Nat} (hV : rl_V G am aw td vs bs F TD VS) (hu : u < 6) : et_pl (eg_at (rl_H G am aw bs F W B) bs) u = some (.int (B u)) := by
  obtain ⟨-, -, -, -, -, h1, h2, h3, h4⟩ := hV
  unfold rl_H
  rw [hm_o h1 h2, et_at_us h3]
  unfold rl_b
  rw [hf_pl (.inl rfl), if_pos hu]
theorem rk_C (hV : rl_V G am aw td vs bs F TD VS) {e wn : Nat} (he : e ≤ 2) (hw : W (45 + 23 * e + 0) = Int32.ofNat wn) (hwn : wn ≤ 6) {i n : Nat} {le gr lo sm : Int32} (hi : i ≤ wn) (hB : ∀ u, u < i → B u = TD u) (h : ∀ (B : Nat → Int32), (∀ u, u < wn → B u = TD u) → et_go none (d + 4) 257 204 [some (.ref am), some (.int (Int32.ofNat e)), some (.int le), some (.int gr), some (.int (Int32.ofNat n)), some (.int lo), some (.int sm), some (.int (Int32.ofNat wn))] [] (rl_H G am aw bs F W B) 0 0 Z) : et_go none (d + 4) 257 174 [some (.ref am), some (.int (Int32.ofNat e)), some (.int le), some (.int gr), some (.int (Int32.ofNat n)), some (.int lo), some (.int sm), some (.int (Int32.ofNat i))] [] (rl_H G am aw bs F W B) 0 0 Z := by
  induction hm : wn - i using Nat.strongRecOn generalizing i B with
  | _ z ih =>
    refine hs_iload (i := 7) (p := 176) (by decide +kernel) rfl ?_
    refine hs_aload (i := 0) (p := 177) (by decide +kernel) rfl ?_
    refine hs_iload (i := 1) (p := 178) (by decide +kernel) rfl ?_
    refine hm_call (rl_ok hV) (mi := 224) (na := 1) (lk := 8) (lm := 2) (by decide +kernel) rfl rfl rfl rfl rfl rfl (rp_wires (rl_ok hV) hV.2.1 (by omega) (hs_cb ?_))
    rw [hw]
    show et_go none _ 257 181 _ [.int (Int32.ofNat wn), .int (Int32.ofNat i)] _ 0 0 _
    refine hs_br2n (c := .ge) (t := 204) (f := 184) (by decide +kernel) (by omega) (by omega) (fun (c181 : wn ≤ i) => ?_) (fun (c181 : ¬ (wn ≤ i)) => ?_)
    · obtain rfl : i = wn := by omega
      exact h _ hB
    · refine hs_aload (i := 0) (p := 185) (by decide +kernel) rfl ?_
      refine hm_get (rl_ok hV) (f := 22) (p := 188) (by decide +kernel) rfl hV.2.2.2.2.1 ?_
      refine hs_iload (i := 7) (p := 190) (by decide +kernel) rfl ?_
      refine hs_aload (i := 0) (p := 191) (by decide +kernel) rfl ?_
      refine hm_get (rl_ok hV) (f := 21) (p := 194) (by decide +kernel) rfl hV.2.2.1.1 ?_
      refine hs_iload (i := 7) (p := 196) (by decide +kernel) rfl ?_
      refine rl_td hV (p := 197) (by decide +kernel) (by omega) ?_
      refine rl_bs hV (p := 198) (by decide +kernel) (by omega) ?_
      refine hs_iinc1 (i := 7) (p := 201) (by decide +kernel) rfl (Nat.le_of_ble_eq_true rfl) ?_
      refine hs_goto (p := 174) (by decide +kernel) ?_
      exact ih (wn - (i + 1)) (by omega) (by omega) (rk_up hB) rfl
theorem rk_U (hV : rl_V G am aw td vs bs F TD VS) {e wn : Nat} (he : e ≤ 2) (hw : W (45 + 23 * e + 0) = Int32.ofNat wn) (hwn : wn ≤ 6) {c : Nat} (hc : W 3 = Int32.ofNat c) (hc20 : c ≤ 20) {n : Nat} {le gr lo sm : Int32} {x7 : Option Value} (h : ∀ B, (∀ u, u < wn → B u = TD u) → Z (.inl none, (rl_H G am aw bs (updV (updV (updV (updV (updV F 29 (.int (Int32.ofNat 1))) 23 (.int sm)) 25 (.int le)) 26 (.int gr)) 24 (.int (liR c gr lo))) W B), 0, 0)) : et_go none (d + 4) 257 160 [some (.ref am), some (.int (Int32.ofNat e)), some (.int le), some (.int gr), some (.int (Int32.ofNat n)), some (.int lo), some (.int sm), x7] [] (rl_H G am aw bs F W B) 0 0 Z := by
  refine hs_aload (i := 0) (p := 161) (by decide +kernel) rfl ?_
  refine hs_k (x := Int32.ofNat 1) (p := 162) (by decide +kernel) ?_
  refine hm_put (rl_ok hV) (f := 29) (ty := .boolean) (p := 165) (by decide +kernel) rfl (by decide +kernel) rfl ?_
  have hV := rl_set (f := 29) (v := .int (Int32.ofNat 1)) hV (by decide) (by decide) (by decide) (by decide)
  refine hs_aload (i := 0) (p := 166) (by decide +kernel) rfl ?_
  refine hs_iload (i := 6) (p := 168) (by decide +kernel) rfl ?_
  refine hm_put (rl_ok hV) (f := 23) (ty := .int) (p := 171) (by decide +kernel) rfl rfl rfl ?_
  have hV := rl_set (f := 23) (v := .int sm) hV (by decide) (by decide) (by decide) (by decide)
  refine hs_k (x := Int32.ofNat 0) (p := 172) (by decide +kernel) ?_
  refine hs_istore (i := 7) (p := 174) (by decide +kernel) (Nat.le_of_ble_eq_true rfl) ?_
  refine rk_C hV he hw hwn (Nat.zero_le _) (fun u hu => absurd hu (Nat.not_lt_zero u)) (fun B2 hB2 => ?_)
  refine hs_aload (i := 0) (p := 205) (by decide +kernel) rfl ?_
  refine hs_iload (i := 2) (p := 206) (by decide +kernel) rfl ?_
  refine hm_put (rl_ok hV) (f := 25) (ty := .int) (p := 209) (by decide +kernel) rfl rfl rfl ?_
  have hV := rl_set (f := 25) (v := .int le) hV (by decide) (by decide) (by decide) (by decide)
  refine hs_aload (i := 0) (p := 210) (by decide +kernel) rfl ?_
  refine hs_iload (i := 3) (p := 211) (by decide +kernel) rfl ?_
  refine hm_put (rl_ok hV) (f := 26) (ty := .int) (p := 214) (by decide +kernel) rfl rfl rfl ?_
  have hV := rl_set (f := 26) (v := .int gr) hV (by decide) (by decide) (by decide) (by decide)
  refine hs_aload (i := 0) (p := 215) (by decide +kernel) rfl ?_
  refine hs_aload (i := 0) (p := 216) (by decide +kernel) rfl ?_
  refine hm_call (rl_ok hV) (mi := 218) (na := 0) (lk := 8) (lm := 1) (by decide +kernel) rfl rfl rfl rfl rfl rfl (rl_cards (rl_ok hV) hV.2.1 hc (hs_cb ?_))
  show et_go none _ 257 219 _ [.int (Int32.ofNat c), .ref am] _ 0 0 _
  refine hs_br1 (c := .ne) (t := 226) (f := 222) (by decide +kernel) (fun (c219 : ¬ Int32.ofNat c = 0) => ?_) (fun (c219 : ¬ (¬ Int32.ofNat c = 0)) => ?_)
  · refine hs_iload (i := 3) (p := 227) (by decide +kernel) rfl ?_
    refine hs_kld (v := Value.int (-1000000)) (p := 230) (by decide +kernel) ?_
    refine hs_br2 (c := .le) (t := 237) (f := 233) (by decide +kernel) (fun (c230 : gr ≤ (-1000000)) => ?_) (fun (c230 : ¬ (gr ≤ (-1000000))) => ?_)
    · refine hs_iload (i := 5) (p := 239) (by decide +kernel) rfl ?_
      refine hs_k (x := Int32.ofNat 1) (p := 240) (by decide +kernel) ?_
      refine hs_isub (p := 241) (by decide +kernel) ?_
      refine hm_put (rl_ok hV) (f := 24) (ty := .int) (p := 244) (by decide +kernel) rfl rfl rfl ?_
      have hV := rl_set (f := 24) (v := .int (lo - Int32.ofNat 1)) hV (by decide) (by decide) (by decide) (by decide)
      refine hs_vret (by decide +kernel) ?_
      have h9 := h _ hB2
      rw [show liR c gr lo = (lo - Int32.ofNat 1) from (if_neg c219).trans (if_pos c230)] at h9
      exact h9
    · refine hs_iload (i := 3) (p := 234) (by decide +kernel) rfl ?_
      refine hs_goto (p := 241) (by decide +kernel) ?_
      refine hm_put (rl_ok hV) (f := 24) (ty := .int) (p := 244) (by decide +kernel) rfl rfl rfl ?_
      have hV := rl_set (f := 24) (v := .int gr) hV (by decide) (by decide) (by decide) (by decide)
      refine hs_vret (by decide +kernel) ?_
      have h9 := h _ hB2
      rw [show liR c gr lo = gr from (if_neg c219).trans (if_neg c230)] at h9
      exact h9
  · refine hs_k (x := Int32.ofNat 0) (p := 223) (by decide +kernel) ?_
    refine hs_goto (p := 241) (by decide +kernel) ?_
    refine hm_put (rl_ok hV) (f := 24) (ty := .int) (p := 244) (by decide +kernel) rfl rfl rfl ?_
    have hV := rl_set (f := 24) (v := .int (Int32.ofNat 0)) hV (by decide) (by decide) (by decide) (by decide)
    refine hs_vret (by decide +kernel) ?_
    have h9 := h _ hB2
    rw [show liR c gr lo = Int32.ofNat 0 from if_pos (Decidable.of_not_not c219)] at h9
    exact h9
end RKL
section ZIA
variable {K : et_K} {G : eg_G} {Z : eg_O → Prop} {am aw va tr be d d2 n nc c W w so : Nat} {T : Nat → Int32} {VV : Nat → Nat → Int32} {X S : Nat → Int32} {Y : Nat → Nat} {l9 g9 o9 s9 lg bs : Int32}
theorem fn_lkU {x7 : Option Value} (hH : et_H et_TT K G) (k_am : K am = some 13) (k_aw : K aw = some 46) (k_be : K be = some 50) (k_tr : K tr = some 49) (m1 : et_pl (eg_at G am) 1 = some (.ref aw)) (m21 : et_pl (eg_at G am) 21 = some (.ref tr)) (m22 : et_pl (eg_at G am) 22 = some (.ref be)) (hn : n < 3) (hz : et_pl (eg_at G aw) (45 + 23 * n) = some (.int (Int32.ofNat W))) (hW : W ≤ 6) (hT : ∀ u, u < W → et_pl (eg_at G tr) u = some (.int (T u))) (hnc : nc ≤ 20) (w3 : et_pl (eg_at G aw) 3 = some (.int (Int32.ofNat nc))) (hlt : g9 < l9) : et_go none (d + 4) 257 160 [some (.ref am), some (.int (Int32.ofNat n)), some (.int l9), some (.int g9), some (.int (Int32.ofNat c)), some (.int o9), some (.int s9), x7] [] G 0 0 (xw_Z (fun b j => (b = am ∧ (23 ≤ j ∧ j ≤ 26)) ∨ (b = am ∧ j = 29) ∨ (b = be ∧ (0 ≤ j ∧ j ≤ 5))) K G (fun g v9 => v9 = none ∧ lkU g am be W nc T s9 l9 g9 o9)) := by
  obtain ⟨F, W9, aw9, hA, eF, eW, hw1, hKw, hF, hX, hW9, hG, e0⟩ := hi_mod hH k_am
  obtain rfl : aw9 = aw := by
    rw [eF, hi_pF (by decide), hw1] at m1
    exact Value.ref.inj (Option.some.inj m1)
  obtain ⟨vs, hvs, kv⟩ := hi_ref (hF 20 _ rfl)
  have htd : F 21 = .ref tr := by
    rw [eF, hi_pF (by decide)] at m21
    exact Option.some.inj m21
  have hbs : F 22 = .ref be := by
    rw [eF, hi_pF (by decide)] at m22
    exact Option.some.inj m22
  obtain ⟨TD, eT, -⟩ := hi_arr (t := 49) (kd := 0) (n := 6) (ss := []) hH k_tr rfl (by decide) (.inl rfl)
  obtain ⟨VS, eV, -⟩ := hi_arr (t := 20) (kd := 0) (n := 120) (ss := []) hH kv rfl (by decide) (.inl rfl)
  obtain ⟨B, eB, -⟩ := hi_arr (t := 50) (kd := 0) (n := 6) (ss := []) hH k_be rfl (by decide) (.inl rfl)
  have hTD : ∀ u, u < W → TD u = T u := fun u hu => by
    have h9 := hT u hu
    rw [eT, hf_pl (.inl rfl), if_pos (by omega)] at h9
    exact Value.int.inj (Option.some.inj h9)
  have hww : W9 (45 + 23 * n + 0) = Int32.ofNat W := by
    rw [eW, hi_pW (by omega)] at hz
    exact Value.int.inj (Option.some.inj hz)
  have hwc : W9 3 = Int32.ofNat nc := by
    rw [eW, hi_pW (by decide)] at w3
    exact Value.int.inj (Option.some.inj w3)
  obtain ⟨z27, hz27, -⟩ := hi_int (hF 27 _ rfl)
  have gb := hi_at hH k_be (by decide)
  have hV : rl_V G am aw9 tr vs be F TD VS := ⟨hA, hw1, ⟨htd, hi_ne k_tr k_am (by decide), hi_ne k_tr hKw (by decide), hi_ne k_tr k_be (by decide), (hi_at hH k_tr (by decide)).2, eT⟩, ⟨hvs, hi_ne kv k_am (by decide), hi_ne kv hKw (by decide), hi_ne kv k_be (by decide), (hi_at hH kv (by decide)).2, eV⟩, hbs, hi_ne k_be k_am (by decide), hi_ne k_be hKw (by decide), gb⟩
  have h0 := rk_U (d := d) (n := c) (le := l9) (gr := g9) (lo := o9) (sm := s9) (x7 := x7) (B := B) (Z := xw_Z (fun b j => (b = am ∧ (23 ≤ j ∧ j ≤ 26)) ∨ (b = am ∧ j = 29) ∨ (b = be ∧ (0 ≤ j ∧ j ≤ 5))) K G (fun g v9 => v9 = none ∧ lkU g am be W nc T s9 l9 g9 o9)) hV (e := n) (by omega) hww hW hwc hnc (fun B' hB' => by
    have hQ : rl_Q F (updV (updV (updV (updV (updV F 29 (.int (Int32.ofNat 1))) 23 (.int s9)) 25 (.int l9)) 26 (.int g9)) 24 (.int (liR nc g9 o9))) := by
      refine ⟨fun j h1 h2 => ?_, ⟨_, rfl⟩, ⟨_, rfl⟩, ⟨z27, hz27⟩, .inr ⟨_, _, rfl, rfl, rfl, fun e => ?_⟩⟩
      · unfold updV
        simp only [if_neg (show ¬ j = 24 by omega), if_neg (show ¬ j = 26 by omega), if_neg (show ¬ j = 25 by omega), if_neg (show ¬ j = 23 by omega), if_neg h2]
      · rw [e] at hlt
        exact Int32.lt_irrefl hlt
    have g1 : et_H et_TT K (eg_u G be (rl_b B')) := hi_uarr (t := 50) (kd := 0) (n := 6) (ss := []) hH k_be (by decide) rfl (.inl rfl) (fun s hs => absurd hs List.not_mem_nil) (fun _ h => by omega)
    have hV' : rl_V G am aw9 tr vs be (updV (updV (updV (updV (updV F 29 (.int (Int32.ofNat 1))) 23 (.int s9)) 25 (.int l9)) 26 (.int g9)) 24 (.int (liR nc g9 o9))) TD VS := rl_set (rl_set (rl_set (rl_set (rl_set hV (by decide) (by decide) (by decide) (by decide)) (by decide) (by decide) (by decide) (by decide)) (by decide) (by decide) (by decide) (by decide)) (by decide) (by decide) (by decide) (by decide)) (by decide) (by decide) (by decide) (by decide)
    refine ⟨_, _, rfl, hi_fin g1 k_am hKw (hi_QlF hF hQ) (hi_QlX hX hQ) hW9 hG, ⟨Nat.le_refl _, fun a i ha hs => ?_⟩, rfl, (rk_at hV' (by decide)).trans rfl, (rk_at hV' (by decide)).trans rfl, (rk_at hV' (by decide)).trans rfl, (rk_at hV' (by decide)).trans rfl, (rk_at hV' (by decide)).trans rfl, fun u hu => ?_⟩
    · have hs : ¬ ((a = am ∧ (23 ≤ i ∧ i ≤ 26)) ∨ (a = am ∧ i = 29) ∨ (a = be ∧ (0 ≤ i ∧ i ≤ 5))) := hs
      unfold rl_H
      by_cases ea : a = am
      · subst ea
        rw [hm_m (show hm_ok (eg_u G be (rl_b B')) a aw9 from hA), eF]
        by_cases hi : i < 36
        · rw [hi_pF hi, hi_pF hi]
          unfold updV
          simp only [if_neg (show ¬ i = 24 by omega), if_neg (show ¬ i = 26 by omega), if_neg (show ¬ i = 25 by omega), if_neg (show ¬ i = 23 by omega), if_neg (show ¬ i = 29 by omega)]
        · rw [hi_pF0 hi, hi_pF0 hi]
      · by_cases ew : a = aw9
        · subst ew
          rw [hm_w (show hm_ok (eg_u G be (rl_b B')) am a from hA), eW]
        · rw [hm_o ea ew]
          by_cases eb : a = be
          · subst eb
            rw [et_at_us gb.1, eB]
            unfold rl_b
            rw [hf_pl (.inl rfl), hf_pl (.inl rfl), if_neg (by omega), if_neg (by omega)]
          · rw [et_at_u eb]
    · have h8 := rk_be (F := (updV (updV (updV (updV (updV F 29 (.int (Int32.ofNat 1))) 23 (.int s9)) 25 (.int l9)) 26 (.int g9)) 24 (.int (liR nc g9 o9)))) (W := W9) (B := B') hV' (show u < 6 by omega)
      rw [hB' u hu, hTD u hu] at h8
      exact h8)
  unfold rl_H at h0
  rw [show eg_u G be (rl_b B) = G from hm_same eB gb.1, ← e0] at h0
  exact h0
theorem fn_lkB {x6 x7 : Option Value} (hH : et_H et_TT K G) (k_am : K am = some 13) (k_aw : K aw = some 46) (k_be : K be = some 50) (k_tr : K tr = some 49) (m1 : et_pl (eg_at G am) 1 = some (.ref aw)) (m21 : et_pl (eg_at G am) 21 = some (.ref tr)) (m22 : et_pl (eg_at G am) 22 = some (.ref be)) (hn : n < 3) (hz : et_pl (eg_at G aw) (45 + 23 * n) = some (.int (Int32.ofNat W))) (hW : W ≤ 6) (hT : ∀ u, u < W → et_pl (eg_at G tr) u = some (.int (T u))) (hnc : nc ≤ 20) (w3 : et_pl (eg_at G aw) 3 = some (.int (Int32.ofNat nc))) (q27 : et_pl (eg_at G am) 27 = some (.int lg)) (q29 : et_pl (eg_at G am) 29 = some (.int (Int32.ofNat so))) (q23 : et_pl (eg_at G am) 23 = some (.int bs)) (hso : so ≤ 1) (hc : c ≤ nc) (hlt : nc ≤ c → g9 < l9) : et_go none (d + 4) 257 83 [some (.ref am), some (.int (Int32.ofNat n)), some (.int l9), some (.int g9), some (.int (Int32.ofNat c)), some (.int o9), x6, x7] [] G 0 0 (xw_Z (fun b j => (b = am ∧ (23 ≤ j ∧ j ≤ 27)) ∨ (b = am ∧ j = 29) ∨ (b = be ∧ (0 ≤ j ∧ j ≤ 5))) K G (fun g v9 => v9 = none ∧ (et_pl (eg_at g am) 27 = some (.int (mxI lg (Int32.ofNat c))) ∧ ((nc ≤ c ∧ (Int32.ofNat so = 0 ∨ (abN T W) < bs)) → lkU g am be W nc T (abN T W) l9 g9 o9) ∧ (¬ (nc ≤ c ∧ (Int32.ofNat so = 0 ∨ (abN T W) < bs)) → lkN G g am be)))) := by
  have lt_am := (hH.2.2 _ _ k_am).1
  have lt_aw := (hH.2.2 _ _ k_aw).1
  have lt_be := (hH.2.2 _ _ k_be).1
  have lt_tr := (hH.2.2 _ _ k_tr).1
  have hX : xf (fun b j => (b = am ∧ (23 ≤ j ∧ j ≤ 27)) ∨ (b = am ∧ j = 29) ∨ (b = be ∧ (0 ≤ j ∧ j ≤ 5))) G G := xf.rf
  have lt_amG := lt_am
  have lt_beG := lt_be
  refine hs_aload (i := 0) (p := 84) (by decide +kernel) rfl ?_
  refine hs_aload (i := 0) (p := 85) (by decide +kernel) rfl ?_
  refine hf_get (T := et_TT) (t := 13) (ci := 11) (f := 27) (p := 88) (by decide +kernel) rfl hH k_am q27 ?_
  refine hs_iload (i := 4) (p := 90) (by decide +kernel) rfl ?_
  refine hs_math (mi := 310) (lk := 8) (p := 93) (by decide +kernel) rfl rfl rfl rfl ?_
  refine hf_put (T := et_TT) (t := 13) (ci := 11) (f := 27) (p := 96) (ty := .int) (by decide +kernel) rfl rfl rfl rfl rfl hH k_am hi_any (fun G93 hH x93 e93 => ?_)
  have m1 := (x93.2 am 1 lt_am (fun h => absurd h.2 (by decide))).trans m1
  have m21 := (x93.2 am 21 lt_am (fun h => absurd h.2 (by decide))).trans m21
  have m22 := (x93.2 am 22 lt_am (fun h => absurd h.2 (by decide))).trans m22
  have w3 := (x93.2 aw 3 lt_aw (fun h => (hi_ne k_aw k_am (by decide)) h.1)).trans w3
  have hz := (x93.2 aw (45 + 23 * n) lt_aw (fun h => (hi_ne k_aw k_am (by decide)) h.1)).trans hz
  have q29 := (x93.2 am 29 lt_am (fun h => absurd h.2 (by decide))).trans q29
  have q23 := (x93.2 am 23 lt_am (fun h => absurd h.2 (by decide))).trans q23
  have hT : ∀ u, u < W → et_pl (eg_at G93 tr) u = some (.int (T u)) := fun u hu => (x93.2 tr u lt_tr (fun h => (hi_ne k_tr k_am (by decide)) h.1)).trans (hT u hu)
  have lt_am := Nat.lt_of_lt_of_le lt_am x93.1
  have lt_aw := Nat.lt_of_lt_of_le lt_aw x93.1
  have lt_be := Nat.lt_of_lt_of_le lt_be x93.1
  have lt_tr := Nat.lt_of_lt_of_le lt_tr x93.1
  have hX := hX.tr x93 (fun b j hb h => by first | omega | (dsimp only at h ⊢; omega) | (dsimp only at h; omega) | (dsimp only; omega))
  refine hs_iload (i := 4) (p := 98) (by decide +kernel) rfl ?_
  refine hs_aload (i := 0) (p := 99) (by decide +kernel) rfl ?_
  refine ht_callv (T := et_TT) (t := 13) (mi := 218) (na := 0) (ci := 11) (lk := 8) (lm := 1) (L0 := eg_en (eg_mL 218) [.ref am]) (by decide +kernel) rfl hH k_am rfl rfl rfl rfl rfl (by rw [show eg_mL 218 = 1 from by decide +kernel]; first | done | rfl) ?_
  refine (fm_cards hH k_am k_aw m1 w3).mono (fun u hu => xp_cb hu ?_)
  show et_go none _ 257 102 _ [.int (Int32.ofNat nc), .int (Int32.ofNat c)] _ _ _ _
  refine hs_br2n (c := .ge) (t := 106) (f := 105) (by decide +kernel) (by omega) (by omega) (fun (c102 : nc ≤ c) => ?_) (fun (c102 : ¬ (nc ≤ c)) => ?_)
  · refine hs_k (x := Int32.ofNat 0) (p := 107) (by decide +kernel) ?_
    refine hs_istore (i := 6) (p := 109) (by decide +kernel) (Nat.le_of_ble_eq_true rfl) ?_
    refine hs_k (x := Int32.ofNat 0) (p := 110) (by decide +kernel) ?_
    refine hs_istore (i := 7) (p := 112) (by decide +kernel) (Nat.le_of_ble_eq_true rfl) ?_
    refine fn_abL (T := T) (w := 0) hH k_am k_aw m1 hn hz hW m21 k_tr hT (Nat.zero_le _) ?_
    refine hs_aload (i := 0) (p := 144) (by decide +kernel) rfl ?_
    refine hf_get (T := et_TT) (t := 13) (ci := 11) (f := 29) (p := 147) (by decide +kernel) rfl hH k_am q29 ?_
    refine hs_br1 (c := .eq) (t := 160) (f := 150) (by decide +kernel) (fun (c147 : Int32.ofNat so = 0) => ?_) (fun (c147 : ¬ (Int32.ofNat so = 0)) => ?_)
    · have hyes : (nc ≤ c ∧ (Int32.ofNat so = 0 ∨ (abN T W) < bs)) := ⟨c102, .inl c147⟩
      refine (fn_lkU (l9 := l9) (g9 := g9) (o9 := o9) (s9 := (abN T W)) hH k_am k_aw k_be k_tr m1 m21 m22 hn hz hW hT hnc w3 (hlt c102)).mono (fun u hu => ?_)
      obtain ⟨G8, v8, rfl, hH8, x8, h80, h8⟩ := hu
      exact ⟨_, _, rfl, hH8, hX.tr x8 (fun b j _ h => by first | omega | (dsimp only at h ⊢; omega)), h80, (x8.2 am 27 lt_am (fun h => by have h2 : ¬ am = be := hi_ne k_am k_be (by decide); first | omega | (dsimp only at h; omega))).trans e93, fun _ => h8, fun h => absurd hyes h⟩
    · refine hs_iload (i := 6) (p := 152) (by decide +kernel) rfl ?_
      refine hs_aload (i := 0) (p := 153) (by decide +kernel) rfl ?_
      refine hf_get (T := et_TT) (t := 13) (ci := 11) (f := 23) (p := 156) (by decide +kernel) rfl hH k_am q23 ?_
      refine hs_br2 (c := .lt) (t := 160) (f := 159) (by decide +kernel) (fun (c156 : (abN T W) < bs) => ?_) (fun (c156 : ¬ ((abN T W) < bs)) => ?_)
      · have hyes : (nc ≤ c ∧ (Int32.ofNat so = 0 ∨ (abN T W) < bs)) := ⟨c102, .inr c156⟩
        refine (fn_lkU (l9 := l9) (g9 := g9) (o9 := o9) (s9 := (abN T W)) hH k_am k_aw k_be k_tr m1 m21 m22 hn hz hW hT hnc w3 (hlt c102)).mono (fun u hu => ?_)
        obtain ⟨G8, v8, rfl, hH8, x8, h80, h8⟩ := hu
        exact ⟨_, _, rfl, hH8, hX.tr x8 (fun b j _ h => by first | omega | (dsimp only at h ⊢; omega)), h80, (x8.2 am 27 lt_am (fun h => by have h2 : ¬ am = be := hi_ne k_am k_be (by decide); first | omega | (dsimp only at h; omega))).trans e93, fun _ => h8, fun h => absurd hyes h⟩
      · refine hs_vret (by decide +kernel) ?_
        have hno : ¬ (nc ≤ c ∧ (Int32.ofNat so = 0 ∨ (abN T W) < bs)) := fun h => h.2.elim (fun h => absurd h c147) (fun h => absurd h c156)
        exact ⟨_, _, rfl, hH, hX, rfl, e93, fun h => absurd h hno, fun _ => ⟨fun j hj => x93.2 am j lt_amG (fun h => by have h := h.2; omega), fun u => x93.2 be u lt_beG (fun h => hi_ne k_be k_am (by decide) h.1)⟩⟩
  · refine hs_vret (by decide +kernel) ?_
    have hno : ¬ (nc ≤ c ∧ (Int32.ofNat so = 0 ∨ (abN T W) < bs)) := fun h => absurd h.1 c102
    exact ⟨_, _, rfl, hH, hX, rfl, e93, fun h => absurd h hno, fun _ => ⟨fun j hj => x93.2 am j lt_amG (fun h => by have h := h.2; omega), fun u => x93.2 be u lt_beG (fun h => hi_ne k_be k_am (by decide) h.1)⟩⟩
theorem fn_lk (hH : et_H et_TT K G) (k_am : K am = some 13) (k_aw : K aw = some 46) (k_be : K be = some 50) (k_tr : K tr = some 49) (m1 : et_pl (eg_at G am) 1 = some (.ref aw)) (m21 : et_pl (eg_at G am) 21 = some (.ref tr)) (m22 : et_pl (eg_at G am) 22 = some (.ref be)) (hn : n < 3) (hz : et_pl (eg_at G aw) (45 + 23 * n) = some (.int (Int32.ofNat W))) (hW : W ≤ 6) (hT : ∀ u, u < W → et_pl (eg_at G tr) u = some (.int (T u))) (hnc : nc ≤ 20) (w3 : et_pl (eg_at G aw) 3 = some (.int (Int32.ofNat nc))) (q27 : et_pl (eg_at G am) 27 = some (.int lg)) (q29 : et_pl (eg_at G am) 29 = some (.int (Int32.ofNat so))) (q23 : et_pl (eg_at G am) 23 = some (.int bs)) (m20 : et_pl (eg_at G am) 20 = some (.ref va)) (k_va : K va = some 20) (hcr : crP G aw nc X Y) (hV : ∀ p u, p < nc → u < W → et_pl (eg_at G va) (6 * p + u) = some (.int (VV p u))) (hS : S = (fun c => trN T (VV c) W)) (hso : so ≤ 1) (hd : 5 ≤ d2) : et_go none d2 257 0 (eg_en (eg_mL 257) [.ref am, .int (Int32.ofNat n)]) [] G 0 0 (xw_Z (fun b j => (b = am ∧ (23 ≤ j ∧ j ≤ 27)) ∨ (b = am ∧ j = 29) ∨ (b = be ∧ (0 ≤ j ∧ j ≤ 5))) K G (fun g v9 => v9 = none ∧ (∃ n9, n9 ≤ nc ∧ (∀ m, m ≤ n9 → gnI S Y m < lyI S Y m) ∧ (n9 < nc → ¬ gnI S Y (n9 + 1) < lyI S Y (n9 + 1)) ∧ et_pl (eg_at g am) 27 = some (.int (mxI lg (Int32.ofNat n9))) ∧ ((n9 = nc ∧ (Int32.ofNat so = 0 ∨ (abN T W) < bs)) → lkU g am be W nc T (abN T W) (lyI S Y nc) (gnI S Y nc) (loI S nc)) ∧ (¬ (n9 = nc ∧ (Int32.ofNat so = 0 ∨ (abN T W) < bs)) → lkN G g am be)))) := by
  obtain ⟨d, rfl⟩ : ∃ d, d2 = d + 5 := ⟨d2 - 5, by omega⟩
  rw [show eg_mL 257 = 8 from by decide +kernel]
  show et_go none (d + 5) 257 0 [some (.ref am), some (.int (Int32.ofNat n)), none, none, none, none, none, none] [] G 0 0 _
  have lt_am := (hH.2.2 _ _ k_am).1
  have lt_aw := (hH.2.2 _ _ k_aw).1
  have lt_be := (hH.2.2 _ _ k_be).1
  have lt_tr := (hH.2.2 _ _ k_tr).1
  refine hs_kld (v := Value.int (Int32.ofNat 1000000)) (p := 3) (by decide +kernel) ?_
  refine hs_istore (i := 2) (p := 4) (by decide +kernel) (Nat.le_of_ble_eq_true rfl) ?_
  refine hs_kld (v := Value.int (-1000000)) (p := 7) (by decide +kernel) ?_
  refine hs_istore (i := 3) (p := 8) (by decide +kernel) (Nat.le_of_ble_eq_true rfl) ?_
  refine hs_k (x := Int32.ofNat 0) (p := 9) (by decide +kernel) ?_
  refine hs_istore (i := 4) (p := 11) (by decide +kernel) (Nat.le_of_ble_eq_true rfl) ?_
  refine hs_kld (v := Value.int (Int32.ofNat 1000000)) (p := 14) (by decide +kernel) ?_
  refine hs_istore (i := 5) (p := 16) (by decide +kernel) (Nat.le_of_ble_eq_true rfl) ?_
  refine fn_laL (d := d + 2) (T := T) (VV := VV) (c := 0) hH k_am k_aw m1 hn hz hW m20 k_va m21 k_tr hT hnc w3 hcr hV hS (Nat.zero_le _) (fun m hm => ?_) (fun n9 q9 x6 h1 h2 h3 h4 h5 => ?_)
  · obtain rfl : m = 0 := by omega
    show ((-1000000 : Int32) < Int32.ofNat 1000000)
    decide
  · refine (fn_lkB (d := d + 1) (c := n9) hH k_am k_aw k_be k_tr m1 m21 m22 hn hz hW hT hnc w3 q27 q29 q23 hso h1 (fun h9 => ?_)).mono (fun u hu => ?_)
    · have e9 : n9 = nc := by omega
      rw [h3 e9]
      exact e9 ▸ h4 n9 (Nat.le_refl _)
    · obtain ⟨G8, v8, rfl, hH8, x8, h80, a1, a2, a3⟩ := hu
      refine ⟨_, _, rfl, hH8, x8, h80, n9, h1, h4, h5, a1, fun q => ?_, fun q => a3 (fun q2 => q ⟨by omega, q2.2⟩)⟩
      have a4 := a2 ⟨by omega, q.2⟩
      rw [h3 q.1] at a4
      exact a4
end ZIA
end
section
/-! searches: what the reference keeps as it tries one number after another -/
/-- the greatest of 0 .. m up to which all are good -/
def gdF (g : Nat → Bool) : Nat → Nat
  | 0 => 0
  | m + 1 => if gdF g m = m ∧ g (m + 1) = true then m + 1 else gdF g m
theorem gdF_le {g : Nat → Bool} : ∀ m, gdF g m ≤ m
  | 0 => Nat.le_refl 0
  | m + 1 => by
    have h := gdF_le (g := g) m
    show (if gdF g m = m ∧ g (m + 1) = true then m + 1 else gdF g m) ≤ m + 1
    split <;> omega
theorem gdF_u {g : Nat → Bool} {n : Nat} : ∀ m, n ≤ m → (∀ j, j ≤ n → g j = true) → (n < m → ¬ g (n + 1) = true) → gdF g m = n
  | 0, h, _, _ => by
    show 0 = n
    omega
  | m + 1, h, h1, h2 => by
    show (if gdF g m = m ∧ g (m + 1) = true then m + 1 else gdF g m) = n
    by_cases e : n = m + 1
    · have e1 := gdF_u (n := m) m (Nat.le_refl m) (fun j hj => h1 j (by omega)) (fun h => absurd h (Nat.lt_irrefl m))
      rw [if_pos ⟨e1, h1 (m + 1) (by omega)⟩, e]
    · have e1 := gdF_u (n := n) m (by omega) h1 (fun h3 => h2 (by omega))
      have hn : ¬ (gdF g m = m ∧ g (m + 1) = true) := fun h3 => by
        have h4 : n = m := e1.symm.trans h3.1
        exact h2 (by omega) (by rw [h4]; exact h3.2)
      rw [if_neg hn, e1]
/-- the most of all before n -/
def lgF (gd : Nat → Nat) : Nat → Nat
  | 0 => 0
  | n + 1 => max (lgF gd n) (gd n)
theorem lgF_le {gd : Nat → Nat} {m : Nat} (h : ∀ i, gd i ≤ m) : ∀ n, lgF gd n ≤ m
  | 0 => Nat.zero_le m
  | n + 1 => by
    have h1 := lgF_le h n
    have h2 := h n
    show max (lgF gd n) (gd n) ≤ m
    omega
theorem lgF_i {gd : Nat → Nat} {m : Nat} : ∀ n, m ≤ lgF gd n ↔ (m = 0 ∨ ∃ i, i < n ∧ m ≤ gd i)
  | 0 => ⟨fun h => .inl (Nat.le_zero.mp h), fun h => h.elim (fun h => by rw [h]; exact Nat.zero_le _) (fun ⟨i, h, _⟩ => absurd h (Nat.not_lt_zero i))⟩
  | n + 1 => by
    have ih := lgF_i (gd := gd) (m := m) n
    show m ≤ max (lgF gd n) (gd n) ↔ _
    constructor
    · intro h
      by_cases h1 : m ≤ lgF gd n
      · rcases ih.mp h1 with h2 | ⟨i, h2, h3⟩
        · exact .inl h2
        · exact .inr ⟨i, by omega, h3⟩
      · exact .inr ⟨n, Nat.lt_succ_self n, by omega⟩
    · rintro (h | ⟨i, h2, h3⟩)
      · omega
      · by_cases e : i = n
        · rw [e] at h3
          omega
        · have h4 := ih.mpr (.inr ⟨i, by omega, h3⟩)
          omega
theorem mxI_n {a b : Nat} (ha : a < 2147483648) (hb : b < 2147483648) : mxI (Int32.ofNat a) (Int32.ofNat b) = Int32.ofNat (max a b) := by
  unfold mxI
  by_cases h : a < b
  · rw [if_pos ((hs_nlt ha hb).mpr h), Nat.max_eq_right (Nat.le_of_lt h)]
  · rw [if_neg (fun h2 => h ((hs_nlt ha hb).mp h2)), Nat.max_eq_left (Nat.not_lt.mp h)]
theorem abI_kv : ∀ k ∈ List.range 4, ∀ d ∈ List.range 7, abI (Int32.ofNat d - Int32.ofNat k) = Int32.ofNat (kvA k d) := by decide +kernel
/-- the KNOBS of a number without signs, summed -/
theorem abN_kv {k W n : Nat} (hk : k ≤ 3) : ∀ u, abN (kvT k W n) u = Int32.ofNat (kvS k W n u)
  | 0 => rfl
  | u + 1 => by
    have ih := abN_kv (W := W) (n := n) hk u
    have hd := kvD_lt (B := 2 * k + 1) (W := W) (n := n) (w := u) (by omega)
    show abN (kvT k W n) u + abI (Int32.ofNat (kvD (2 * k + 1) W n u) - Int32.ofNat k) = Int32.ofNat (kvS k W n u + kvA k (kvD (2 * k + 1) W n u))
    rw [ih, abI_kv k (List.mem_range.mpr (by omega)) _ (List.mem_range.mpr (by omega))]
    exact (Int32.ofNat_add _ _).symm
/-- the sums of the CARDS under a number -/
def snS (k W : Nat) (VV : Nat → Nat → Int32) (i : Nat) : Nat → Int32 := fun c => trN (kvT k W i) (VV c) W
def rsG (k W nc : Nat) (VV : Nat → Nat → Int32) (Y : Nat → Nat) (i : Nat) : Nat := gdF (fun m => decide (gnI (snS k W VV i) Y m < lyI (snS k W VV i) Y m)) nc
def rsF (k W nc : Nat) (VV : Nat → Nat → Int32) (Y : Nat → Nat) (n : Nat) : Option (Nat × Nat) := foF (fun i => decide (rsG k W nc VV Y i = nc)) (fun i => kvS k W i W) n
def rsQ (G : eg_G) (am be k W nc : Nat) (VV : Nat → Nat → Int32) (Y : Nat → Nat) : Option (Nat × Nat) → Prop
  | none => et_pl (eg_at G am) 29 = some (.int (Int32.ofNat 0))
  | some q => lkU G am be W nc (kvT k W q.2) (Int32.ofNat q.1) (lyI (snS k W VV q.2) Y nc) (gnI (snS k W VV q.2) Y nc) (loI (snS k W VV q.2) nc)
def rsP (G : eg_G) (am be k W nc : Nat) (VV : Nat → Nat → Int32) (Y : Nat → Nat) (n : Nat) : Prop := et_pl (eg_at G am) 27 = some (.int (Int32.ofNat (lgF (rsG k W nc VV Y) n))) ∧ rsQ G am be k W nc VV Y (rsF k W nc VV Y n)
theorem rsQ.fr {G G' : eg_G} {am be k W nc : Nat} {VV : Nat → Nat → Int32} {Y : Nat → Nat} (h1 : ∀ j, j = 29 ∨ (23 ≤ j ∧ j ≤ 26) → et_pl (eg_at G' am) j = et_pl (eg_at G am) j) (h2 : ∀ u, u < W → et_pl (eg_at G' be) u = et_pl (eg_at G be) u) : ∀ {o : Option (Nat × Nat)}, rsQ G am be k W nc VV Y o → rsQ G' am be k W nc VV Y o
  | none, h => (h1 29 (by omega)).trans h
  | some q, h => ⟨(h1 29 (by omega)).trans h.1, (h1 23 (by omega)).trans h.2.1, (h1 25 (by omega)).trans h.2.2.1, (h1 26 (by omega)).trans h.2.2.2.1, (h1 24 (by omega)).trans h.2.2.2.2.1, fun u hu => (h2 u hu).trans (h.2.2.2.2.2 u hu)⟩
section ZJA
variable {K : et_K} {G g : eg_G} {am aw va tr be d2 n nc W k i n9 so : Nat} {VV : Nat → Nat → Int32} {X : Nat → Int32} {Y : Nat → Nat} {bs : Int32}
theorem rs_sm (hk : k ≤ 3) (hW : W ≤ 6) : kvS k W i W < 100 := by
  have h := kvS_le (k := k) (W := W) (n := i) W
  have h2 : k * W ≤ 3 * 6 := Nat.mul_le_mul hk hW
  omega
theorem rs_dec {S : Nat → Int32} : decide (gnI S Y n < lyI S Y n) = true ↔ gnI S Y n < lyI S Y n := decide_eq_true_iff
/-- one number more -/
theorem rs_step (hk : k ≤ 3) (hW : W ≤ 6) (hnc : nc ≤ 20) (h1 : n9 ≤ nc) (h4 : ∀ m, m ≤ n9 → gnI (snS k W VV i) Y m < lyI (snS k W VV i) Y m) (h5 : n9 < nc → ¬ gnI (snS k W VV i) Y (n9 + 1) < lyI (snS k W VV i) Y (n9 + 1)) (hP : rsP G am be k W nc VV Y i)
    (hso : (rsF k W nc VV Y i = none ∧ so = 0) ∨ ∃ q, rsF k W nc VV Y i = some q ∧ so = 1 ∧ bs = Int32.ofNat q.1 ∧ q.1 < 100)
    (a1 : et_pl (eg_at g am) 27 = some (.int (mxI (Int32.ofNat (lgF (rsG k W nc VV Y) i)) (Int32.ofNat n9))))
    (a2 : n9 = nc ∧ (Int32.ofNat so = 0 ∨ abN (kvT k W i) W < bs) → lkU g am be W nc (kvT k W i) (abN (kvT k W i) W) (lyI (snS k W VV i) Y nc) (gnI (snS k W VV i) Y nc) (loI (snS k W VV i) nc))
    (a3 : ¬ (n9 = nc ∧ (Int32.ofNat so = 0 ∨ abN (kvT k W i) W < bs)) → lkN G g am be) : rsP g am be k W nc VV Y (i + 1) := by
  have eg : rsG k W nc VV Y i = n9 := gdF_u nc h1 (fun j hj => decide_eq_true (h4 j hj)) (fun h => fun h2 => h5 h (of_decide_eq_true h2))
  have hl : lgF (rsG k W nc VV Y) i ≤ nc := lgF_le (fun j => gdF_le nc) i
  refine ⟨?_, ?_⟩
  · rw [a1, mxI_n (by omega) (by omega), ← eg]
    rfl
  · rw [abN_kv hk] at a2 a3
    have hb := fun i => rs_sm (k := k) (W := W) (i := i) hk hW
    rcases hso with ⟨e, rfl⟩ | ⟨q, e, rfl, rfl, hq⟩
    · by_cases h : n9 = nc
      · have e2 : rsF k W nc VV Y (i + 1) = some (kvS k W i W, i) := foF_y (b := 100) (decide_eq_true (eg.trans h)) (by
          show kvS k W i W < foL 100 (rsF k W nc VV Y i)
          rw [e]
          exact hb i)
        rw [e2]
        exact a2 ⟨h, .inl rfl⟩
      · have e2 : rsF k W nc VV Y (i + 1) = rsF k W nc VV Y i := foF_n (b := 100) (fun h2 => absurd (eg.symm.trans (of_decide_eq_true h2)) h) (hb i)
        rw [e2]
        have h3 := a3 (fun h2 => h h2.1)
        exact rsQ.fr h3.1 (fun u _ => h3.2 u) hP.2
    · have e0 : ¬ Int32.ofNat 1 = 0 := by decide
      by_cases h : n9 = nc ∧ kvS k W i W < q.1
      · have e2 : rsF k W nc VV Y (i + 1) = some (kvS k W i W, i) := foF_y (b := 100) (decide_eq_true (eg.trans h.1)) (by
          show kvS k W i W < foL 100 (rsF k W nc VV Y i)
          rw [e]
          exact h.2)
        rw [e2]
        have h9 := hb i
        exact a2 ⟨h.1, .inr ((hs_nlt (by omega) (by omega)).mpr h.2)⟩
      · have e2 : rsF k W nc VV Y (i + 1) = rsF k W nc VV Y i := foF_n (b := 100) (fun h2 => by
          show foL 100 (rsF k W nc VV Y i) ≤ kvS k W i W
          rw [e]
          have h3 : n9 = nc := eg.symm.trans (of_decide_eq_true h2)
          exact Nat.not_lt.mp (fun h4 => h ⟨h3, h4⟩)) (hb i)
        rw [e2]
        have h9 := hb i
        have h3 := a3 (fun h2 => h ⟨h2.1, (hs_nlt (by omega) (by omega)).mp (h2.2.resolve_left e0)⟩)
        exact rsQ.fr h3.1 (fun u _ => h3.2 u) hP.2
theorem foF_lt {ok : Nat → Bool} {sm : Nat → Nat} {b : Nat} (hb : ∀ n, sm n < b) : ∀ n q, foF ok sm n = some q → q.1 < b ∧ q.2 < n ∧ ok q.2 = true ∧ q.1 = sm q.2
  | 0, q, h => by cases h
  | n + 1, q, h => by
    have ih := foF_lt (ok := ok) hb n
    have h : (match foF ok sm n with
      | none => if ok n = true then some (sm n, n) else none
      | some q => if ok n = true ∧ sm n < q.1 then some (sm n, n) else some q) = some q := h
    cases e : foF ok sm n with
    | none =>
      rw [e] at h
      have h : (if ok n = true then some (sm n, n) else none) = some q := h
      by_cases ho : ok n = true
      · rw [if_pos ho] at h
        cases h
        exact ⟨hb n, Nat.lt_succ_self n, ho, rfl⟩
      · rw [if_neg ho] at h
        cases h
    | some p =>
      rw [e] at h ih
      have h : (if ok n = true ∧ sm n < p.1 then some (sm n, n) else some p) = some q := h
      by_cases ho : ok n = true ∧ sm n < p.1
      · rw [if_pos ho] at h
        cases h
        exact ⟨hb n, Nat.lt_succ_self n, ho.1, rfl⟩
      · rw [if_neg ho] at h
        cases h
        obtain ⟨h1, h2, h3⟩ := ih _ rfl
        exact ⟨h1, by omega, h3⟩
end ZJA
section ZJB
variable {K : et_K} {G : eg_G} {am aw va tr be d2 n nc W k i : Nat} {VV : Nat → Nat → Int32} {X : Nat → Int32} {Y : Nat → Nat}
theorem fn_lkS (hH : et_H et_TT K G) (k_am : K am = some 13) (k_aw : K aw = some 46) (k_be : K be = some 50) (k_tr : K tr = some 49) (m1 : et_pl (eg_at G am) 1 = some (.ref aw)) (m21 : et_pl (eg_at G am) 21 = some (.ref tr)) (m22 : et_pl (eg_at G am) 22 = some (.ref be)) (hn : n < 3) (hz : et_pl (eg_at G aw) (45 + 23 * n) = some (.int (Int32.ofNat W))) (hW : W ≤ 6) (hk : k ≤ 3) (hT : ∀ u, u < W → et_pl (eg_at G tr) u = some (.int (kvT k W i u))) (hnc : nc ≤ 20) (w3 : et_pl (eg_at G aw) 3 = some (.int (Int32.ofNat nc))) (m20 : et_pl (eg_at G am) 20 = some (.ref va)) (k_va : K va = some 20) (hcr : crP G aw nc X Y) (hV : ∀ p u, p < nc → u < W → et_pl (eg_at G va) (6 * p + u) = some (.int (VV p u))) (hP : rsP G am be k W nc VV Y i) (hd : 5 ≤ d2) : et_go none d2 257 0 (eg_en (eg_mL 257) [.ref am, .int (Int32.ofNat n)]) [] G 0 0 (xw_Z (fun b j => (b = am ∧ (23 ≤ j ∧ j ≤ 27)) ∨ (b = am ∧ j = 29) ∨ (b = be ∧ (0 ≤ j ∧ j ≤ 5))) K G (fun g v9 => v9 = none ∧ rsP g am be k W nc VV Y (i + 1))) := by
  obtain ⟨bs, so, q23, q29, hso1, hso⟩ : ∃ (bs : Int32) (so : Nat), et_pl (eg_at G am) 23 = some (.int bs) ∧ et_pl (eg_at G am) 29 = some (.int (Int32.ofNat so)) ∧ so ≤ 1 ∧ ((rsF k W nc VV Y i = none ∧ so = 0) ∨ ∃ q, rsF k W nc VV Y i = some q ∧ so = 1 ∧ bs = Int32.ofNat q.1 ∧ q.1 < 100) := by
    have h9 := hP.2
    cases e : rsF k W nc VV Y i with
    | none =>
      rw [e] at h9
      obtain ⟨x, e2, -⟩ := hf_iv (f := 23) hH k_am rfl rfl
      exact ⟨x, 0, e2, h9, by decide, .inl ⟨rfl, rfl⟩⟩
    | some q =>
      rw [e] at h9
      exact ⟨_, 1, h9.2.1, h9.1, Nat.le_refl 1, .inr ⟨q, rfl, rfl, rfl, (foF_lt (fun j => rs_sm (k := k) (W := W) (i := j) hk hW) _ _ e).1⟩⟩
  refine (fn_lk (S := snS k W VV i) hH k_am k_aw k_be k_tr m1 m21 m22 hn hz hW hT hnc w3 hP.1 q29 q23 m20 k_va hcr hV rfl hso1 hd).mono (fun u hu => ?_)
  obtain ⟨G8, v8, rfl, hH8, x8, h80, n9, h1, h4, h5, a1, a2, a3⟩ := hu
  exact ⟨_, _, rfl, hH8, x8, h80, rs_step hk hW hnc h1 h4 h5 hP hso a1 a2 a3⟩
end ZJB
end
section
/-! searches: the reference tries all numbers -/
theorem kvT_1 : ∀ k ∈ List.range 4, ∀ d ∈ List.range 7, Int32.ofNat (d + 1) - Int32.ofNat k = Int32.ofNat d - Int32.ofNat k + Int32.ofNat 1 := by decide +kernel
theorem kvT_2 : ∀ k ∈ List.range 4, ∀ d ∈ List.range 7, Int32.ofNat d - Int32.ofNat k = Int32.ofNat k ↔ d = 2 * k := by decide +kernel
theorem kvT_3 : ∀ k ∈ List.range 4, Int32.ofNat 0 - Int32.ofNat k = -Int32.ofNat k := by decide +kernel
theorem xi_d1 {x : Int32} : x + Int32.ofInt (-1) = x - Int32.ofNat 1 := by rw [Int32.sub_eq_add_neg, show -(Int32.ofNat 1) = Int32.ofInt (-1) by decide]
section ZKA
variable {k W i w u : Nat}
theorem kvT_0 (hk : k ≤ 3) (h : kvD (2 * k + 1) W i u = 0) : kvT k W i u = -Int32.ofNat k := by
  show Int32.ofNat (kvD (2 * k + 1) W i u) - Int32.ofNat k = _
  rw [h]
  exact kvT_3 k (List.mem_range.mpr (by omega))
theorem kvT_c (hk : k ≤ 3) (h : kvT k W i w = Int32.ofNat k) : kvD (2 * k + 1) W i w = 2 * k + 1 - 1 := by
  have hd := kvD_lt (B := 2 * k + 1) (W := W) (n := i) (w := w) (by omega)
  exact (kvT_2 k (List.mem_range.mpr (by omega)) _ (List.mem_range.mpr (by omega))).mp h
theorem kvT_s (hk : k ≤ 3) (hw : w < W) (hm : (i + 1) % (2 * k + 1) ^ (W - (w + 1)) = 0) (hne : ¬ kvT k W i w = Int32.ofNat k) : kvT k W (i + 1) w = kvT k W i w + Int32.ofNat 1 ∧ ∀ u, u < w → kvT k W (i + 1) u = kvT k W i u := by
  have hd := kvD_lt (B := 2 * k + 1) (W := W) (n := i) (w := w) (by omega)
  have h9 : kvD (2 * k + 1) W i w < 2 * k + 1 - 1 := by
    have h8 : ¬ kvD (2 * k + 1) W i w = 2 * k := fun e => hne ((kvT_2 k (List.mem_range.mpr (by omega)) _ (List.mem_range.mpr (by omega))).mpr e)
    omega
  refine ⟨?_, fun u hu => ?_⟩
  · show Int32.ofNat (kvD (2 * k + 1) W (i + 1) w) - Int32.ofNat k = Int32.ofNat (kvD (2 * k + 1) W i w) - Int32.ofNat k + Int32.ofNat 1
    rw [kv_s1 (by omega) hm h9]
    exact kvT_1 k (List.mem_range.mpr (by omega)) _ (List.mem_range.mpr (by omega))
  · show Int32.ofNat (kvD (2 * k + 1) W (i + 1) u) - Int32.ofNat k = Int32.ofNat (kvD (2 * k + 1) W i u) - Int32.ofNat k
    rw [kv_s2 (by omega) hm h9 hu hw]
theorem kv_all (hk : k ≤ 3) (hW : W ≤ 6) : (2 * k + 1) ^ W ≤ 117649 := Nat.le_trans (Nat.pow_le_pow_left (show 2 * k + 1 ≤ 7 by omega) W) (Nat.le_trans (Nat.pow_le_pow_right (by decide) hW) (by decide))
end ZKA
/-- what stays as it tries -/
def tsI (G : eg_G) (am aw va tr be n nc W : Nat) (VV : Nat → Nat → Int32) (X : Nat → Int32) (Y : Nat → Nat) : Prop := (et_pl (eg_at G am) 1 = some (.ref aw) ∧ et_pl (eg_at G am) 20 = some (.ref va) ∧ et_pl (eg_at G am) 21 = some (.ref tr) ∧ et_pl (eg_at G am) 22 = some (.ref be)) ∧ et_pl (eg_at G aw) (45 + 23 * n) = some (.int (Int32.ofNat W)) ∧ et_pl (eg_at G aw) 3 = some (.int (Int32.ofNat nc)) ∧ crP G aw nc X Y ∧ (∀ p u, p < nc → u < W → et_pl (eg_at G va) (6 * p + u) = some (.int (VV p u)))
def tsK (K : et_K) (am aw va tr be : Nat) : Prop := K am = some 13 ∧ K aw = some 46 ∧ K va = some 20 ∧ K tr = some 49 ∧ K be = some 50
section ZKB
variable {K : et_K} {G G' : eg_G} {am aw va tr be n nc W k i : Nat} {VV : Nat → Nat → Int32} {X : Nat → Int32} {Y : Nat → Nat} {S : Nat → Nat → Prop}
theorem tsI.mv (h : tsI G am aw va tr be n nc W VV X Y) (hH : et_H et_TT K G) (hK : tsK K am aw va tr be) (x : xf S G G') (hs : ∀ b j, S b j → (b = am ∧ 23 ≤ j ∧ j ≤ 29) ∨ b = be ∨ b = tr) : tsI G' am aw va tr be n nc W VV X Y := by
  obtain ⟨k_am, k_aw, k_va, k_tr, k_be⟩ := hK
  have lt_am := (hH.2.2 _ _ k_am).1
  have lt_aw := (hH.2.2 _ _ k_aw).1
  have lt_va := (hH.2.2 _ _ k_va).1
  have n1 : ¬ am = be := hi_ne k_am k_be (by decide)
  have n2 : ¬ am = tr := hi_ne k_am k_tr (by decide)
  have n3 : ¬ aw = am := hi_ne k_aw k_am (by decide)
  have n4 : ¬ aw = be := hi_ne k_aw k_be (by decide)
  have n5 : ¬ aw = tr := hi_ne k_aw k_tr (by decide)
  have n6 : ¬ va = am := hi_ne k_va k_am (by decide)
  have n7 : ¬ va = be := hi_ne k_va k_be (by decide)
  have n8 : ¬ va = tr := hi_ne k_va k_tr (by decide)
  have f1 : ∀ j, j < 23 → et_pl (eg_at G' am) j = et_pl (eg_at G am) j := fun j hj => x.2 am j lt_am (fun q => by have q := hs _ _ q; omega)
  have f2 : ∀ j, et_pl (eg_at G' aw) j = et_pl (eg_at G aw) j := fun j => x.2 aw j lt_aw (fun q => by have q := hs _ _ q; omega)
  have f3 : ∀ j, et_pl (eg_at G' va) j = et_pl (eg_at G va) j := fun j => x.2 va j lt_va (fun q => by have q := hs _ _ q; omega)
  obtain ⟨⟨a1, a2, a3, a4⟩, b, c, e, f⟩ := h
  exact ⟨⟨(f1 1 (by decide)).trans a1, (f1 20 (by decide)).trans a2, (f1 21 (by decide)).trans a3, (f1 22 (by decide)).trans a4⟩, (f2 _).trans b, (f2 _).trans c, fun k hk => ⟨(f2 _).trans (e k hk).1, (f2 _).trans (e k hk).2.1, (e k hk).2.2⟩, fun p u hp hu => (f3 _).trans (f p u hp hu)⟩
theorem rsP.mv (h : rsP G am be k W nc VV Y i) (h1 : ∀ j, 23 ≤ j → j ≤ 29 → et_pl (eg_at G' am) j = et_pl (eg_at G am) j) (h2 : ∀ u, et_pl (eg_at G' be) u = et_pl (eg_at G be) u) : rsP G' am be k W nc VV Y i := ⟨(h1 27 (by decide) (by decide)).trans h.1, rsQ.fr (fun j hj => h1 j (by omega) (by omega)) (fun u _ => h2 u) h.2⟩
theorem hf_so0 {d k pc p ck sk : Nat} {L : eg_Ls} {r : List Value} {Z : eg_O → Prop} (hc : hs_pi k pc = some (11, 29, .boolean, p)) (hH : et_H et_TT K G) (k_am : K am = some 13) (h : ∀ G', et_H et_TT K G' → xf (fun b j => b = am ∧ j = 29) G G' → et_pl (eg_at G' am) 29 = some (.int (Int32.ofNat 0)) → et_go none d k p L r G' ck sk Z) : et_go none d k pc L (.int (Int32.ofNat 0) :: .ref am :: r) G ck sk Z := by
  obtain ⟨F, W9, aw9, hA, eF, eW, hw1, hKw, hF, hX, hW9, hG, e0⟩ := hi_mod hH k_am
  have hF' : hi_F K (updV F 29 (.int (Int32.ofNat 0))) := hi_Fi (fun j hj => by
    by_cases e : j = 29
    · rw [e]
      exact hi_iv (by decide) (by decide)
    · rw [show updV F 29 (.int (Int32.ofNat 0)) j = F j from if_neg e]
      exact hi_Fe hF j hj)
  have hX' : hi_X (updV F 29 (.int (Int32.ofNat 0))) := fun s x y e1 e2 e3 hs => by
    have e1 : Value.int (Int32.ofNat 0) = .int s := e1
    cases e1
    exact absurd rfl hs
  have h0 := hm_put (d := d) (k := k) (pc := pc) (L := L) (r := r) (ck := ck) (sk := sk) (Z := Z) (W := W9) (f := 29) (ty := .boolean) (p := p) (v := .int (Int32.ofNat 0)) hA hc rfl (by decide +kernel) rfl (h _ (hi_fin hH k_am hKw hF' hX' hW9 hG) ⟨Nat.le_refl _, fun a i ha hs => ?_⟩ ?_)
  · rw [← e0] at h0
    exact h0
  · by_cases ea : a = am
    · subst ea
      rw [hm_m hA, eF]
      by_cases hi : i < 36
      · rw [hi_pF hi, hi_pF hi]
        exact congrArg some (if_neg (fun e => hs ⟨rfl, e⟩))
      · rw [hi_pF0 hi, hi_pF0 hi]
    · by_cases ew : a = aw9
      · subst ew
        rw [hm_w hA, eW]
      · rw [hm_o ea ew]
  · rw [hm_m hA, hi_pF (by decide)]
    rfl
end ZKB
section ZKC
variable {K : et_K} {G G0 : eg_G} {Z : eg_O → Prop} {am aw va tr be d d2 n nc W k i w A9 : Nat} {VV : Nat → Nat → Int32} {X : Nat → Int32} {Y : Nat → Nat} {x5 : Option Value} {v : evT}
theorem fn_alL (hH : et_H et_TT K G) (k_am : K am = some 13) (k_aw : K aw = some 46) (k_va : K va = some 20) (k_tr : K tr = some 49) (k_be : K be = some 50) (hn : n < 3) (hW : W ≤ 6) (hk : k ≤ 3) (hts : tsI G am aw va tr be n nc W VV X Y) (hw : w ≤ W) (h : et_go none (d + 2) 255 44 [some (.ref am), some (.int (Int32.ofNat n)), some (.int (Int32.ofNat k)), some (.int (Int32.ofNat ((2 * k + 1) ^ W))), some (.int (Int32.ofNat W)), x5] [] G 0 0 Z) : et_go none (d + 2) 255 20 [some (.ref am), some (.int (Int32.ofNat n)), some (.int (Int32.ofNat k)), some (.int (Int32.ofNat ((2 * k + 1) ^ w))), some (.int (Int32.ofNat w)), x5] [] G 0 0 Z := by
  induction hq9 : W - w using Nat.strongRecOn generalizing w with
  | _ q9 ih =>
    have m1 := hts.1.1
    have m20 := hts.1.2.1
    have m21 := hts.1.2.2.1
    have m22 := hts.1.2.2.2
    have hz := hts.2.1
    have w3 := hts.2.2.1
    have hcr := hts.2.2.2.1
    have hV := hts.2.2.2.2
    have lt_am := (hH.2.2 _ _ k_am).1
    have lt_aw := (hH.2.2 _ _ k_aw).1
    have lt_va := (hH.2.2 _ _ k_va).1
    have lt_tr := (hH.2.2 _ _ k_tr).1
    have lt_be := (hH.2.2 _ _ k_be).1
    refine hs_iload (i := 4) (p := 22) (by decide +kernel) rfl ?_
    refine hs_aload (i := 0) (p := 23) (by decide +kernel) rfl ?_
    refine hs_iload (i := 1) (p := 24) (by decide +kernel) rfl ?_
    refine ht_callv (T := et_TT) (t := 13) (mi := 224) (na := 1) (ci := 11) (lk := 6) (lm := 2) (L0 := eg_en (eg_mL 224) [.ref am, .int (Int32.ofNat n)]) (by decide +kernel) rfl hH k_am rfl rfl rfl rfl rfl (by rw [show eg_mL 224 = 2 from by decide +kernel]; first | done | rfl) ?_
    refine (fn_wires hH k_am k_aw m1 hn hz (by omega)).mono (fun u hu => xp_cb hu ?_)
    show et_go none _ 255 27 _ [.int (Int32.ofNat W), .int (Int32.ofNat w)] _ _ _ _
    refine hs_br2n (c := .ge) (t := 44) (f := 30) (by decide +kernel) (by omega) (by omega) (fun (c27 : W ≤ w) => ?_) (fun (c27 : ¬ (W ≤ w)) => ?_)
    · obtain rfl : w = W := by omega
      exact h
    · refine hs_iload (i := 3) (p := 31) (by decide +kernel) rfl ?_
      refine hs_k (x := Int32.ofNat 2) (p := 32) (by decide +kernel) ?_
      refine hs_iload (i := 2) (p := 33) (by decide +kernel) rfl ?_
      refine hs_imuln (p := 34) (by decide +kernel) ?_
      refine hs_k (x := Int32.ofNat 1) (p := 35) (by decide +kernel) ?_
      refine hs_iaddn (p := 36) (by decide +kernel) ?_
      refine hs_imuln (p := 37) (by decide +kernel) ?_
      refine hs_istore (i := 3) (p := 38) (by decide +kernel) (Nat.le_of_ble_eq_true rfl) ?_
      refine hs_iinc1 (i := 4) (p := 41) (by decide +kernel) rfl (Nat.le_of_ble_eq_true rfl) ?_
      refine hs_goto (p := 20) (by decide +kernel) ?_
      have h9 := ih (W - (w + 1)) (by omega) (w := w + 1) (by omega) rfl
      rw [Nat.pow_succ] at h9
      exact h9
theorem fn_inL (hH0 : et_H et_TT K G0) (hH : et_H et_TT K G) (k_am : K am = some 13) (k_aw : K aw = some 46) (k_va : K va = some 20) (k_tr : K tr = some 49) (k_be : K be = some 50) (hn : n < 3) (hW : W ≤ 6) (hk : k ≤ 3) (hts : tsI G am aw va tr be n nc W VV X Y) (hX : xf (fun b _ => b = tr) G0 G) (hF : ∀ u, u < w → et_pl (eg_at G tr) u = some (.int (-Int32.ofNat k))) (hw : w ≤ W) (h : ∀ G', et_H et_TT K G' → xf (fun b _ => b = tr) G0 G' → tsI G' am aw va tr be n nc W VV X Y → (∀ u, u < W → et_pl (eg_at G' tr) u = some (.int (-Int32.ofNat k))) → et_go none (d + 2) 255 72 [some (.ref am), some (.int (Int32.ofNat n)), some (.int (Int32.ofNat k)), some (.int (Int32.ofNat A9)), some (.int (Int32.ofNat W)), x5] [] G' 0 0 Z) : et_go none (d + 2) 255 47 [some (.ref am), some (.int (Int32.ofNat n)), some (.int (Int32.ofNat k)), some (.int (Int32.ofNat A9)), some (.int (Int32.ofNat w)), x5] [] G 0 0 Z := by
  induction hq9 : W - w using Nat.strongRecOn generalizing w G with
  | _ q9 ih =>
    have m1 := hts.1.1
    have m20 := hts.1.2.1
    have m21 := hts.1.2.2.1
    have m22 := hts.1.2.2.2
    have hz := hts.2.1
    have w3 := hts.2.2.1
    have hcr := hts.2.2.2.1
    have hV := hts.2.2.2.2
    have lt_am := (hH.2.2 _ _ k_am).1
    have lt_aw := (hH.2.2 _ _ k_aw).1
    have lt_va := (hH.2.2 _ _ k_va).1
    have lt_tr := (hH.2.2 _ _ k_tr).1
    have lt_be := (hH.2.2 _ _ k_be).1
    refine hs_iload (i := 4) (p := 49) (by decide +kernel) rfl ?_
    refine hs_aload (i := 0) (p := 50) (by decide +kernel) rfl ?_
    refine hs_iload (i := 1) (p := 51) (by decide +kernel) rfl ?_
    refine ht_callv (T := et_TT) (t := 13) (mi := 224) (na := 1) (ci := 11) (lk := 6) (lm := 2) (L0 := eg_en (eg_mL 224) [.ref am, .int (Int32.ofNat n)]) (by decide +kernel) rfl hH k_am rfl rfl rfl rfl rfl (by rw [show eg_mL 224 = 2 from by decide +kernel]; first | done | rfl) ?_
    refine (fn_wires hH k_am k_aw m1 hn hz (by omega)).mono (fun u hu => xp_cb hu ?_)
    show et_go none _ 255 54 _ [.int (Int32.ofNat W), .int (Int32.ofNat w)] _ _ _ _
    refine hs_br2n (c := .ge) (t := 72) (f := 57) (by decide +kernel) (by omega) (by omega) (fun (c54 : W ≤ w) => ?_) (fun (c54 : ¬ (W ≤ w)) => ?_)
    · obtain rfl : w = W := by omega
      exact h _ hH hX hts hF
    · refine hs_aload (i := 0) (p := 58) (by decide +kernel) rfl ?_
      refine hf_get (T := et_TT) (t := 13) (ci := 11) (f := 21) (p := 61) (by decide +kernel) rfl hH k_am m21 ?_
      refine hs_iload (i := 4) (p := 63) (by decide +kernel) rfl ?_
      refine hs_iload (i := 2) (p := 64) (by decide +kernel) rfl ?_
      refine hs_st (ins := .ineg) (len := 1) (p := 65) (by decide +kernel) rfl rfl ?_
      have hHo := hH
      refine hf_ist (T := et_TT) (t := 49) (N := 6) (p := 66) (by decide +kernel) rfl rfl (by decide) hH k_tr (by omega) (by decide) (fun s hs => absurd hs List.not_mem_nil) (fun G65 hH x65 e65 => ?_)
      have hts := hts.mv hHo ⟨k_am, k_aw, k_va, k_tr, k_be⟩ x65 (fun b j h => by first | omega | (dsimp only at h ⊢; omega))
      have m1 := hts.1.1
      have m20 := hts.1.2.1
      have m21 := hts.1.2.2.1
      have m22 := hts.1.2.2.2
      have hz := hts.2.1
      have w3 := hts.2.2.1
      have hcr := hts.2.2.2.1
      have hV := hts.2.2.2.2
      have hX := hX.tr x65 (fun b j _ h => h.1)
      have hF2 : ∀ u, u < w → et_pl (eg_at G65 tr) u = some (.int (-Int32.ofNat k)) := fun u hu => (x65.2 tr _ lt_tr (fun h => by have h := h.2; omega)).trans (hF u hu)
      have lt_am := Nat.lt_of_lt_of_le lt_am x65.1
      have lt_aw := Nat.lt_of_lt_of_le lt_aw x65.1
      have lt_va := Nat.lt_of_lt_of_le lt_va x65.1
      have lt_tr := Nat.lt_of_lt_of_le lt_tr x65.1
      have lt_be := Nat.lt_of_lt_of_le lt_be x65.1
      refine hs_iinc1 (i := 4) (p := 69) (by decide +kernel) rfl (Nat.le_of_ble_eq_true rfl) ?_
      refine hs_goto (p := 47) (by decide +kernel) ?_
      have hF3 : ∀ u, u < w + 1 → et_pl (eg_at G65 tr) u = some (.int (-Int32.ofNat k)) := fun u hu => by
        by_cases eu : u = w
        · rw [eu]; exact e65
        · exact hF2 u (by omega)
      exact ih (W - (w + 1)) (by omega) hH hts hX hF3 (by omega) rfl
theorem fn_odrL (hH0 : et_H et_TT K G0) (hH : et_H et_TT K G) (k_am : K am = some 13) (k_aw : K aw = some 46) (k_va : K va = some 20) (k_tr : K tr = some 49) (k_be : K be = some 50) (hn : n < 3) (hW : W ≤ 6) (hk : k ≤ 3) (hts : tsI G am aw va tr be n nc W VV X Y) (hX : xf (fun b _ => b = tr) G0 G) (hlo : (∀ u, u < w → et_pl (eg_at G tr) u = some (.int (kvT k W i u)))) (hhi : (∀ u, w ≤ u → u < W → et_pl (eg_at G tr) u = some (.int (kvT k W (i + 1) u)))) (hm : (i + 1) % (2 * k + 1) ^ (W - w) = 0) (hw : w ≤ W) (h : ∀ (G' : eg_G) (x5 : Option Value), et_H et_TT K G' → xf (fun b _ => b = tr) G0 G' → tsI G' am aw va tr be n nc W VV X Y → (∀ u, u < W → et_pl (eg_at G' tr) u = some (.int (kvT k W (i + 1) u))) → et_go none (d + 1) 255 142 [some (.ref am), some (.int (Int32.ofNat n)), some (.int (Int32.ofNat k)), some (.int (Int32.ofNat A9)), some (.int (Int32.ofNat i)), x5] [] G' 0 0 Z) : et_go none (d + 1) 255 95 [some (.ref am), some (.int (Int32.ofNat n)), some (.int (Int32.ofNat k)), some (.int (Int32.ofNat A9)), some (.int (Int32.ofNat i)), some (.int (Int32.ofNat w - Int32.ofNat 1))] [] G 0 0 Z := by
  induction w generalizing G with
  | zero =>
    have m1 := hts.1.1
    have m20 := hts.1.2.1
    have m21 := hts.1.2.2.1
    have m22 := hts.1.2.2.2
    have hz := hts.2.1
    have w3 := hts.2.2.1
    have hcr := hts.2.2.2.1
    have hV := hts.2.2.2.2
    have lt_am := (hH.2.2 _ _ k_am).1
    have lt_aw := (hH.2.2 _ _ k_aw).1
    have lt_va := (hH.2.2 _ _ k_va).1
    have lt_tr := (hH.2.2 _ _ k_tr).1
    have lt_be := (hH.2.2 _ _ k_be).1
    refine hs_iload (i := 5) (p := 97) (by decide +kernel) rfl ?_
    refine hs_br1 (c := .lt) (t := 126) (f := 100) (by decide +kernel) (fun (c97 : (Int32.ofNat 0 - Int32.ofNat 1) < 0) => ?_) (fun (c97 : ¬ ((Int32.ofNat 0 - Int32.ofNat 1) < 0)) => ?_)
    · refine hs_iload (i := 5) (p := 128) (by decide +kernel) rfl ?_
      refine hs_br1 (c := .lt) (t := 142) (f := 131) (by decide +kernel) (fun (c128 : (Int32.ofNat 0 - Int32.ofNat 1) < 0) => ?_) (fun (c128 : ¬ ((Int32.ofNat 0 - Int32.ofNat 1) < 0)) => ?_)
      · exact h _ _ hH hX hts (fun u hu => hhi u (Nat.zero_le u) hu)
      · exact absurd (by decide) c128
    · exact absurd (by decide) c97
  | succ w ih =>
    have m1 := hts.1.1
    have m20 := hts.1.2.1
    have m21 := hts.1.2.2.1
    have m22 := hts.1.2.2.2
    have hz := hts.2.1
    have w3 := hts.2.2.1
    have hcr := hts.2.2.2.1
    have hV := hts.2.2.2.2
    rw [xi_s1]
    have lt_am := (hH.2.2 _ _ k_am).1
    have lt_aw := (hH.2.2 _ _ k_aw).1
    have lt_va := (hH.2.2 _ _ k_va).1
    have lt_tr := (hH.2.2 _ _ k_tr).1
    have lt_be := (hH.2.2 _ _ k_be).1
    refine hs_iload (i := 5) (p := 97) (by decide +kernel) rfl ?_
    refine hs_if0 (c := .lt) (t := 126) (f := 100) (by decide +kernel) (rs_nn (by omega)) ?_
    refine hs_aload (i := 0) (p := 101) (by decide +kernel) rfl ?_
    refine hf_get (T := et_TT) (t := 13) (ci := 11) (f := 21) (p := 104) (by decide +kernel) rfl hH k_am m21 ?_
    refine hs_iload (i := 5) (p := 106) (by decide +kernel) rfl ?_
    refine hf_ald (ins := .iaload) (T := et_TT) (t := 49) (kd := 0) (N := 6) (p := 107) (by decide +kernel) (fun _ _ _ _ _ _ _ _ _ _ => rfl) rfl rfl rfl hH k_tr (by decide) (hlo w (by omega)) ?_
    refine hs_iload (i := 2) (p := 108) (by decide +kernel) rfl ?_
    refine hs_br2 (c := .ne) (t := 126) (f := 111) (by decide +kernel) (fun (c108 : ¬ (kvT k W i w) = Int32.ofNat k) => ?_) (fun (c108 : ¬ (¬ (kvT k W i w) = Int32.ofNat k)) => ?_)
    · refine hs_iload (i := 5) (p := 128) (by decide +kernel) rfl ?_
      refine hs_if0 (c := .lt) (t := 142) (f := 131) (by decide +kernel) (rs_nn (by omega)) ?_
      refine hs_aload (i := 0) (p := 132) (by decide +kernel) rfl ?_
      refine hf_get (T := et_TT) (t := 13) (ci := 11) (f := 21) (p := 135) (by decide +kernel) rfl hH k_am m21 ?_
      refine hs_iload (i := 5) (p := 137) (by decide +kernel) rfl ?_
      refine hs_dup2 (p := 138) (by decide +kernel) ?_
      refine hf_ald (ins := .iaload) (T := et_TT) (t := 49) (kd := 0) (N := 6) (p := 139) (by decide +kernel) (fun _ _ _ _ _ _ _ _ _ _ => rfl) rfl rfl rfl hH k_tr (by decide) (hlo w (by omega)) ?_
      refine hs_k (x := Int32.ofNat 1) (p := 140) (by decide +kernel) ?_
      refine hs_iadd (p := 141) (by decide +kernel) ?_
      have hHo := hH
      refine hf_ist (T := et_TT) (t := 49) (N := 6) (p := 142) (by decide +kernel) rfl rfl (by decide) hH k_tr (by omega) (by decide) (fun s hs => absurd hs List.not_mem_nil) (fun G141 hH x141 e141 => ?_)
      have hts := hts.mv hHo ⟨k_am, k_aw, k_va, k_tr, k_be⟩ x141 (fun b j h => by first | omega | (dsimp only at h ⊢; omega))
      have m1 := hts.1.1
      have m20 := hts.1.2.1
      have m21 := hts.1.2.2.1
      have m22 := hts.1.2.2.2
      have hz := hts.2.1
      have w3 := hts.2.2.1
      have hcr := hts.2.2.2.1
      have hV := hts.2.2.2.2
      have hX := hX.tr x141 (fun b j _ h => h.1)
      have hlo2 : ∀ u, u < w → et_pl (eg_at G141 tr) u = some (.int (kvT k W i u)) := fun u hu => (x141.2 tr _ lt_tr (fun h => by have h := h.2; omega)).trans (hlo u (by omega))
      have hhi2 : ∀ u, w + 1 ≤ u → u < W → et_pl (eg_at G141 tr) u = some (.int (kvT k W (i + 1) u)) := fun u h1 hu => (x141.2 tr _ lt_tr (fun h => by have h := h.2; omega)).trans (hhi u h1 hu)
      have lt_am := Nat.lt_of_lt_of_le lt_am x141.1
      have lt_aw := Nat.lt_of_lt_of_le lt_aw x141.1
      have lt_va := Nat.lt_of_lt_of_le lt_va x141.1
      have lt_tr := Nat.lt_of_lt_of_le lt_tr x141.1
      have lt_be := Nat.lt_of_lt_of_le lt_be x141.1
      have hs9 := kvT_s hk (show w < W by omega) hm c108
      refine h _ _ hH hX hts (fun u hu => ?_)
      by_cases e1 : u = w
      · rw [e1, hs9.1]; exact e141
      · by_cases e2 : u < w
        · rw [hs9.2 u e2]; exact hlo2 u e2
        · exact hhi2 u (by omega) hu
    · refine hs_aload (i := 0) (p := 112) (by decide +kernel) rfl ?_
      refine hf_get (T := et_TT) (t := 13) (ci := 11) (f := 21) (p := 115) (by decide +kernel) rfl hH k_am m21 ?_
      refine hs_iload (i := 5) (p := 117) (by decide +kernel) rfl ?_
      refine hs_iload (i := 2) (p := 118) (by decide +kernel) rfl ?_
      refine hs_st (ins := .ineg) (len := 1) (p := 119) (by decide +kernel) rfl rfl ?_
      have hHo := hH
      refine hf_ist (T := et_TT) (t := 49) (N := 6) (p := 120) (by decide +kernel) rfl rfl (by decide) hH k_tr (by omega) (by decide) (fun s hs => absurd hs List.not_mem_nil) (fun G119 hH x119 e119 => ?_)
      have hts := hts.mv hHo ⟨k_am, k_aw, k_va, k_tr, k_be⟩ x119 (fun b j h => by first | omega | (dsimp only at h ⊢; omega))
      have m1 := hts.1.1
      have m20 := hts.1.2.1
      have m21 := hts.1.2.2.1
      have m22 := hts.1.2.2.2
      have hz := hts.2.1
      have w3 := hts.2.2.1
      have hcr := hts.2.2.2.1
      have hV := hts.2.2.2.2
      have hX := hX.tr x119 (fun b j _ h => h.1)
      have hlo2 : ∀ u, u < w → et_pl (eg_at G119 tr) u = some (.int (kvT k W i u)) := fun u hu => (x119.2 tr _ lt_tr (fun h => by have h := h.2; omega)).trans (hlo u (by omega))
      have hhi2 : ∀ u, w + 1 ≤ u → u < W → et_pl (eg_at G119 tr) u = some (.int (kvT k W (i + 1) u)) := fun u h1 hu => (x119.2 tr _ lt_tr (fun h => by have h := h.2; omega)).trans (hhi u h1 hu)
      have lt_am := Nat.lt_of_lt_of_le lt_am x119.1
      have lt_aw := Nat.lt_of_lt_of_le lt_aw x119.1
      have lt_va := Nat.lt_of_lt_of_le lt_va x119.1
      have lt_tr := Nat.lt_of_lt_of_le lt_tr x119.1
      have lt_be := Nat.lt_of_lt_of_le lt_be x119.1
      have ec := kvT_c hk (Decidable.of_not_not c108)
      have hm2 := kv_c (by omega) (show w < W by omega) hm ec
      refine hs_iinc (i := 5) (n := (-1)) (p := 123) (by decide +kernel) rfl (Nat.le_of_ble_eq_true rfl) ?_
      rw [xi_d1]
      refine hs_goto (p := 95) (by decide +kernel) ?_
      refine ih hH hts hX hlo2 (fun u h1 hu => ?_) hm2 (by omega)
      by_cases e1 : u = w
      · rw [e1, kvT_0 hk (kv_s0 (by omega) hm2 (Nat.le_refl w) (by omega))]; exact e119
      · exact hhi2 u (by omega) hu
theorem fn_trM (hH0 : et_H et_TT K G0) (hH : et_H et_TT K G) (k_am : K am = some 13) (k_aw : K aw = some 46) (k_va : K va = some 20) (k_tr : K tr = some 49) (k_be : K be = some 50) (hn : n < 3) (hW : W ≤ 6) (hk : k ≤ 3) (hts : tsI G am aw va tr be n nc W VV X Y) (hnc : nc ≤ 20) (hX : xf (fun b j => (b = am ∧ (23 ≤ j ∧ j ≤ 29)) ∨ b = be ∨ b = tr) G0 G) (hT : ∀ u, u < W → et_pl (eg_at G tr) u = some (.int (kvT k W i u))) (hP : rsP G am be k W nc VV Y i) (hA : A9 = (2 * k + 1) ^ W) (hA9 : A9 ≤ 117649) (hi : i ≤ A9) : et_go none (d + 6) 255 75 [some (.ref am), some (.int (Int32.ofNat n)), some (.int (Int32.ofNat k)), some (.int (Int32.ofNat A9)), some (.int (Int32.ofNat i)), x5] [] G 0 0 (xw_Z (fun b j => (b = am ∧ (23 ≤ j ∧ j ≤ 29)) ∨ b = be ∨ b = tr) K G0 (fun g v9 => v9 = none ∧ tsI g am aw va tr be n nc W VV X Y ∧ rsP g am be k W nc VV Y ((2 * k + 1) ^ W))) := by
  induction hq9 : A9 - i using Nat.strongRecOn generalizing i G x5 with
  | _ q9 ih =>
    have m1 := hts.1.1
    have m20 := hts.1.2.1
    have m21 := hts.1.2.2.1
    have m22 := hts.1.2.2.2
    have hz := hts.2.1
    have w3 := hts.2.2.1
    have hcr := hts.2.2.2.1
    have hV := hts.2.2.2.2
    have lt_am := (hH.2.2 _ _ k_am).1
    have lt_aw := (hH.2.2 _ _ k_aw).1
    have lt_va := (hH.2.2 _ _ k_va).1
    have lt_tr := (hH.2.2 _ _ k_tr).1
    have lt_be := (hH.2.2 _ _ k_be).1
    refine hs_iload (i := 4) (p := 77) (by decide +kernel) rfl ?_
    refine hs_iload (i := 3) (p := 78) (by decide +kernel) rfl ?_
    refine hs_br2n (c := .ge) (t := 148) (f := 81) (by decide +kernel) (by omega) (by omega) (fun (c78 : A9 ≤ i) => ?_) (fun (c78 : ¬ (A9 ≤ i)) => ?_)
    · refine hs_vret (by decide +kernel) ?_
      obtain rfl : i = A9 := by omega
      rw [hA] at hP
      exact ⟨_, _, rfl, hH, hX, rfl, hts, hP⟩
    · refine hs_aload (i := 0) (p := 82) (by decide +kernel) rfl ?_
      refine hs_iload (i := 1) (p := 83) (by decide +kernel) rfl ?_
      have hHo := hH
      refine ht_callv (T := et_TT) (t := 13) (mi := 257) (na := 1) (ci := 11) (lk := 6) (lm := 8) (L0 := eg_en (eg_mL 257) [.ref am, .int (Int32.ofNat n)]) (by decide +kernel) rfl hH k_am rfl rfl rfl rfl rfl (by rw [show eg_mL 257 = 8 from by decide +kernel]; first | done | rfl) ?_
      refine (fn_lkS hH k_am k_aw k_be k_tr m1 m21 m22 hn hz hW hk hT hnc w3 m20 k_va hcr hV hP (by omega)).mono (fun u hu => xw_cb hu (fun G83 v83 hH x83 hP83 => ?_))
      have hts := hts.mv hHo ⟨k_am, k_aw, k_va, k_tr, k_be⟩ x83 (fun b j h => by first | omega | (dsimp only at h ⊢; omega))
      have m1 := hts.1.1
      have m20 := hts.1.2.1
      have m21 := hts.1.2.2.1
      have m22 := hts.1.2.2.2
      have hz := hts.2.1
      have w3 := hts.2.2.1
      have hcr := hts.2.2.2.1
      have hV := hts.2.2.2.2
      have hT : ∀ u, u < W → et_pl (eg_at G83 tr) u = some (.int (kvT k W i u)) := fun u hu => (x83.2 tr u lt_tr (fun h => Or.elim h (fun h => (hi_ne k_tr k_am (by decide)) h.1) (fun h => Or.elim h (fun h => (hi_ne k_tr k_am (by decide)) h.1) (fun h => (hi_ne k_tr k_be (by decide)) h.1)))).trans (hT u hu)
      have hX := hX.tr x83 (fun b j _ h => by first | omega | (dsimp only at h ⊢; omega))
      have lt_am := Nat.lt_of_lt_of_le lt_am x83.1
      have lt_aw := Nat.lt_of_lt_of_le lt_aw x83.1
      have lt_va := Nat.lt_of_lt_of_le lt_va x83.1
      have lt_tr := Nat.lt_of_lt_of_le lt_tr x83.1
      have lt_be := Nat.lt_of_lt_of_le lt_be x83.1
      obtain ⟨rfl, hP⟩ := hP83
      show et_go none _ 255 86 _ [] _ _ _ _
      refine hs_aload (i := 0) (p := 87) (by decide +kernel) rfl ?_
      refine hs_iload (i := 1) (p := 88) (by decide +kernel) rfl ?_
      refine ht_callv (T := et_TT) (t := 13) (mi := 224) (na := 1) (ci := 11) (lk := 6) (lm := 2) (L0 := eg_en (eg_mL 224) [.ref am, .int (Int32.ofNat n)]) (by decide +kernel) rfl hH k_am rfl rfl rfl rfl rfl (by rw [show eg_mL 224 = 2 from by decide +kernel]; first | done | rfl) ?_
      refine (fn_wires hH k_am k_aw m1 hn hz (by omega)).mono (fun u hu => xp_cb hu ?_)
      show et_go none _ 255 91 _ [.int (Int32.ofNat W)] _ _ _ _
      refine hs_k (x := Int32.ofNat 1) (p := 92) (by decide +kernel) ?_
      refine hs_isub (p := 93) (by decide +kernel) ?_
      refine hs_istore (i := 5) (p := 95) (by decide +kernel) (Nat.le_of_ble_eq_true rfl) ?_
      refine fn_odrL (d := d + 5) (w := W) (i := i) hH hH k_am k_aw k_va k_tr k_be hn hW hk hts xf.rf hT (fun u h1 hu => absurd hu (Nat.not_lt.mpr h1)) (by rw [Nat.sub_self, Nat.pow_zero, Nat.mod_one]) (Nat.le_refl W) (fun G9 x59 hH9 x9 hts9 hT9 => ?_)
      refine hs_iinc1 (i := 4) (p := 145) (by decide +kernel) rfl (Nat.le_of_ble_eq_true rfl) ?_
      refine hs_goto (p := 75) (by decide +kernel) ?_
      exact ih (A9 - (i + 1)) (by omega) hH9 hts9 (hX.tr x9 (fun b j _ h => .inr (.inr h))) hT9 (hP.mv (fun j _ _ => x9.2 am j lt_am (fun h => hi_ne k_am k_tr (by decide) h)) (fun u => x9.2 be u lt_be (fun h => hi_ne k_be k_tr (by decide) h))) (by omega) rfl
theorem fn_tries (hH : et_H et_TT K G) (k_am : K am = some 13) (k_aw : K aw = some 46) (k_va : K va = some 20) (k_tr : K tr = some 49) (k_be : K be = some 50) (m1 : et_pl (eg_at G am) 1 = some (.ref aw)) (m20 : et_pl (eg_at G am) 20 = some (.ref va)) (m21 : et_pl (eg_at G am) 21 = some (.ref tr)) (m22 : et_pl (eg_at G am) 22 = some (.ref be)) (hn : n < 3) (ho : evo v) (hv : evm G aw n v) (hk : k ≤ 3) (hnc : nc ≤ 20) (w3 : et_pl (eg_at G aw) 3 = some (.int (Int32.ofNat nc))) (hcr : crP G aw nc X Y) (hd : 6 ≤ d2) : et_go none d2 255 0 (eg_en (eg_mL 255) [.ref am, .int (Int32.ofNat n), .int (Int32.ofNat k)]) [] G 0 0 (xw_Z (fun b j => (b = am ∧ (23 ≤ j ∧ j ≤ 29)) ∨ b = be ∨ b = tr ∨ b = va) K G (fun g v9 => v9 = none ∧ tsI g am aw va tr be n nc v.1 (fun c u => vaI (v.2.1 u) (v.2.2.1 u) (X c)) X Y ∧ rsP g am be k v.1 nc (fun c u => vaI (v.2.1 u) (v.2.2.1 u) (X c)) Y ((2 * k + 1) ^ v.1))) := by
  obtain ⟨d, rfl⟩ : ∃ d, d2 = d + 6 := ⟨d2 - 6, by omega⟩
  have hW := ho.1.1
  rw [show eg_mL 255 = 6 from by decide +kernel]
  show et_go none (d + 6) 255 0 [some (.ref am), some (.int (Int32.ofNat n)), some (.int (Int32.ofNat k)), none, none, none] [] G 0 0 _
  have lt_am := (hH.2.2 _ _ k_am).1
  have lt_aw := (hH.2.2 _ _ k_aw).1
  have lt_be := (hH.2.2 _ _ k_be).1
  have lt_tr := (hH.2.2 _ _ k_tr).1
  have lt_va := (hH.2.2 _ _ k_va).1
  refine hs_aload (i := 0) (p := 1) (by decide +kernel) rfl ?_
  refine hs_iload (i := 1) (p := 2) (by decide +kernel) rfl ?_
  refine ht_callv (T := et_TT) (t := 13) (mi := 256) (na := 1) (ci := 11) (lk := 6) (lm := 4) (L0 := eg_en (eg_mL 256) [.ref am, .int (Int32.ofNat n)]) (by decide +kernel) rfl hH k_am rfl rfl rfl rfl rfl (by rw [show eg_mL 256 = 4 from by decide +kernel]; first | done | rfl) ?_
  refine (fn_lay hH k_am k_aw k_va m1 m20 hn ho hv hnc w3 hcr (by omega)).mono (fun u hu => xw_cb hu (fun G2 v2 hH2 x2 hP2 => ?_))
  obtain ⟨rfl, hP2⟩ := hP2
  have hV : ∀ p u, p < nc → u < v.1 → et_pl (eg_at G2 va) (6 * p + u) = some (.int (vaI (v.2.1 u) (v.2.2.1 u) (X p))) := hP2
  have fa : ∀ j, et_pl (eg_at G2 am) j = et_pl (eg_at G am) j := fun j => x2.2 am j lt_am (fun h => hi_ne k_am k_va (by decide) h)
  have fw : ∀ j, et_pl (eg_at G2 aw) j = et_pl (eg_at G aw) j := fun j => x2.2 aw j lt_aw (fun h => hi_ne k_aw k_va (by decide) h)
  have hts : tsI G2 am aw va tr be n nc v.1 (fun c u => vaI (v.2.1 u) (v.2.2.1 u) (X c)) X Y := ⟨⟨(fa 1).trans m1, (fa 20).trans m20, (fa 21).trans m21, (fa 22).trans m22⟩, (fw _).trans hv.1, (fw _).trans w3, fun c hc => ⟨(fw _).trans (hcr c hc).1, (fw _).trans (hcr c hc).2.1, (hcr c hc).2.2⟩, hV⟩
  have hX : xf (fun b j => (b = am ∧ (23 ≤ j ∧ j ≤ 29)) ∨ b = be ∨ b = tr ∨ b = va) G G2 := x2.wk (fun b j _ h => .inr (.inr (.inr h)))
  have hH := hH2
  have m1 := hts.1.1
  have m20 := hts.1.2.1
  have m21 := hts.1.2.2.1
  have m22 := hts.1.2.2.2
  have hz := hts.2.1
  have w3 := hts.2.2.1
  have hcr := hts.2.2.2.1
  have hV := hts.2.2.2.2
  have lt_am := Nat.lt_of_lt_of_le lt_am x2.1
  have lt_aw := Nat.lt_of_lt_of_le lt_aw x2.1
  have lt_be := Nat.lt_of_lt_of_le lt_be x2.1
  have lt_tr := Nat.lt_of_lt_of_le lt_tr x2.1
  have lt_va := Nat.lt_of_lt_of_le lt_va x2.1
  show et_go none _ 255 5 _ [] _ _ _ _
  refine hs_aload (i := 0) (p := 6) (by decide +kernel) rfl ?_
  refine hs_k (x := Int32.ofNat 0) (p := 7) (by decide +kernel) ?_
  have hHo := hH
  refine hf_so0 (p := 10) (by decide +kernel) hH k_am (fun G7 hH x7 e7 => ?_)
  have hts := hts.mv hHo ⟨k_am, k_aw, k_va, k_tr, k_be⟩ x7 (fun b j h => by first | omega | (dsimp only at h ⊢; omega))
  have m1 := hts.1.1
  have m20 := hts.1.2.1
  have m21 := hts.1.2.2.1
  have m22 := hts.1.2.2.2
  have hz := hts.2.1
  have w3 := hts.2.2.1
  have hcr := hts.2.2.2.1
  have hV := hts.2.2.2.2
  have hX := hX.tr x7 (fun b j _ h => by first | omega | (dsimp only at h ⊢; omega))
  have lt_am := Nat.lt_of_lt_of_le lt_am x7.1
  have lt_aw := Nat.lt_of_lt_of_le lt_aw x7.1
  have lt_va := Nat.lt_of_lt_of_le lt_va x7.1
  have lt_tr := Nat.lt_of_lt_of_le lt_tr x7.1
  have lt_be := Nat.lt_of_lt_of_le lt_be x7.1
  refine hs_aload (i := 0) (p := 11) (by decide +kernel) rfl ?_
  refine hs_k (x := Int32.ofNat 0) (p := 12) (by decide +kernel) ?_
  have hHo := hH
  refine hf_put (T := et_TT) (t := 13) (ci := 11) (f := 27) (p := 15) (ty := .int) (by decide +kernel) rfl rfl rfl rfl rfl hH k_am hi_any (fun G12 hH x12 e12 => ?_)
  have e29 := (x12.2 am 29 lt_am (fun h => absurd h.2 (by decide))).trans e7
  have hts := hts.mv hHo ⟨k_am, k_aw, k_va, k_tr, k_be⟩ x12 (fun b j h => by first | omega | (dsimp only at h ⊢; omega))
  have m1 := hts.1.1
  have m20 := hts.1.2.1
  have m21 := hts.1.2.2.1
  have m22 := hts.1.2.2.2
  have hz := hts.2.1
  have w3 := hts.2.2.1
  have hcr := hts.2.2.2.1
  have hV := hts.2.2.2.2
  have hX := hX.tr x12 (fun b j _ h => by first | omega | (dsimp only at h ⊢; omega))
  have lt_am := Nat.lt_of_lt_of_le lt_am x12.1
  have lt_aw := Nat.lt_of_lt_of_le lt_aw x12.1
  have lt_va := Nat.lt_of_lt_of_le lt_va x12.1
  have lt_tr := Nat.lt_of_lt_of_le lt_tr x12.1
  have lt_be := Nat.lt_of_lt_of_le lt_be x12.1
  refine hs_k (x := Int32.ofNat 1) (p := 16) (by decide +kernel) ?_
  refine hs_istore (i := 3) (p := 17) (by decide +kernel) (Nat.le_of_ble_eq_true rfl) ?_
  refine hs_k (x := Int32.ofNat 0) (p := 18) (by decide +kernel) ?_
  refine hs_istore (i := 4) (p := 20) (by decide +kernel) (Nat.le_of_ble_eq_true rfl) ?_
  refine fn_alL (d := d + 4) (w := 0) hH k_am k_aw k_va k_tr k_be hn hW hk hts (Nat.zero_le _) ?_
  refine hs_k (x := Int32.ofNat 0) (p := 45) (by decide +kernel) ?_
  refine hs_istore (i := 4) (p := 47) (by decide +kernel) (Nat.le_of_ble_eq_true rfl) ?_
  refine fn_inL (d := d + 4) (w := 0) hH hH k_am k_aw k_va k_tr k_be hn hW hk hts xf.rf (fun u hu => absurd hu (Nat.not_lt_zero u)) (Nat.zero_le _) (fun G9 hH9 x9 hts9 hF9 => ?_)
  refine hs_k (x := Int32.ofNat 0) (p := 73) (by decide +kernel) ?_
  refine hs_istore (i := 4) (p := 75) (by decide +kernel) (Nat.le_of_ble_eq_true rfl) ?_
  have hP0 : rsP G9 am be k v.1 nc (fun c u => vaI (v.2.1 u) (v.2.2.1 u) (X c)) Y 0 := ⟨(x9.2 am 27 lt_am (fun h => hi_ne k_am k_tr (by decide) h)).trans e12, (x9.2 am 29 lt_am (fun h => hi_ne k_am k_tr (by decide) h)).trans e29⟩
  refine (fn_trM (d := d) (i := 0) (G0 := G9) hH9 hH9 k_am k_aw k_va k_tr k_be hn hW hk hts9 hnc xf.rf (fun u hu => by rw [kvT_0 hk kv_z]; exact hF9 u hu) hP0 rfl (kv_all hk hW) (Nat.zero_le _)).mono (fun u hu => ?_)
  obtain ⟨G8, v8, rfl, hH8, x8, h8⟩ := hu
  exact ⟨_, _, rfl, hH8, (hX.tr x9 (fun b j _ h => .inr (.inr (.inl h)))).tr x8 (fun b j _ h => by first | omega | (dsimp only at h ⊢; omega)), h8⟩
end ZKC
end
section
/-! searches: the class's Search object -/
def seT (K : et_K) (se tA tR tS td be sy : Nat) : Prop := (K se = some 9 ∧ K tA = some 43 ∧ K tR = some 44 ∧ K tS = some 44 ∧ K td = some 51 ∧ K be = some 51 ∧ K sy = some 19) ∧ (¬ td = be ∧ tA + 7 ≤ tR ∧ tR + 8 ≤ tS) ∧ (∀ i, i < 6 → K (tA + 1 + i) = some 45) ∧ (∀ i, i < 7 → K (tR + 1 + i) = some 45) ∧ ∀ i, i < 7 → K (tS + 1 + i) = some 45
def seR (G : eg_G) (se tA tR tS td be sy : Nat) : Prop := (et_pl (eg_at G se) 0 = some (.ref tA) ∧ et_pl (eg_at G se) 1 = some (.ref tR) ∧ et_pl (eg_at G se) 2 = some (.ref tS) ∧ et_pl (eg_at G se) 3 = some (.ref td) ∧ et_pl (eg_at G se) 14 = some (.ref be) ∧ et_pl (eg_at G se) 17 = some (.ref sy)) ∧ (∀ i, i < 6 → et_pl (eg_at G tA) i = some (.ref (tA + 1 + i))) ∧ (∀ i, i < 7 → et_pl (eg_at G tR) i = some (.ref (tR + 1 + i))) ∧ ∀ i, i < 7 → et_pl (eg_at G tS) i = some (.ref (tS + 1 + i))
/-- the columns: two CARDS each, of the WIRES what the one has more -/
def coV (C : Nat → Int32) (Kd : Nat → Nat) (L : List (Int32 × Int32)) (c w : Nat) : Int32 := vaI (C w) (Kd w) (L.getD c (0, 0)).1 - vaI (C w) (Kd w) (L.getD c (0, 0)).2
def coR (G : eg_G) (tA W : Nat) (C : Nat → Int32) (Kd : Nat → Nat) (L : List (Int32 × Int32)) : Prop := ∀ c w, c < L.length → w < W → et_pl (eg_at G (tA + 1 + w)) c = some (.int (coV C Kd L c w))
section ZLA
variable {K : et_K} {G G' : eg_G} {S : Nat → Nat → Prop} {se tA tR tS td be sy W : Nat} {C : Nat → Int32} {Kd : Nat → Nat} {L : List (Int32 × Int32)} {x y : Int32}
theorem seR.xs (h : seR G se tA tR tS td be sy) (t9 : seT K se tA tR tS td be sy) (hH : et_H et_TT K G) (x : xf S G G') (hs : ∀ b j t, K b = some t → S b j → ¬ t = 43 ∧ ¬ t = 44 ∧ (t = 9 → ¬ (j ≤ 3 ∨ j = 14 ∨ j = 17))) : seR G' se tA tR tS td be sy := by
  obtain ⟨⟨k1, k2, k3, k4, -⟩, -⟩ := t9
  obtain ⟨⟨a1, a2, a3, a4, a5, a6⟩, b1, b2, b3⟩ := h
  have lt : ∀ a t, K a = some t → a < G.2 := fun a t ha => (hH.2.2 a t ha).1
  have f1 : ∀ j, (j ≤ 3 ∨ j = 14 ∨ j = 17) → et_pl (eg_at G' se) j = et_pl (eg_at G se) j := fun j hj => x.2 se j (lt _ _ k1) (fun q => (hs _ _ _ k1 q).2.2 rfl hj)
  have f2 : ∀ j, et_pl (eg_at G' tA) j = et_pl (eg_at G tA) j := fun j => x.2 tA j (lt _ _ k2) (fun q => (hs _ _ _ k2 q).1 rfl)
  have f3 : ∀ j, et_pl (eg_at G' tR) j = et_pl (eg_at G tR) j := fun j => x.2 tR j (lt _ _ k3) (fun q => (hs _ _ _ k3 q).2.1 rfl)
  have f4 : ∀ j, et_pl (eg_at G' tS) j = et_pl (eg_at G tS) j := fun j => x.2 tS j (lt _ _ k4) (fun q => (hs _ _ _ k4 q).2.1 rfl)
  exact ⟨⟨(f1 0 (by decide)).trans a1, (f1 1 (by decide)).trans a2, (f1 2 (by decide)).trans a3, (f1 3 (by decide)).trans a4, (f1 14 (by decide)).trans a5, (f1 17 (by decide)).trans a6⟩, fun i hi => (f2 i).trans (b1 i hi), fun i hi => (f3 i).trans (b2 i hi), fun i hi => (f4 i).trans (b3 i hi)⟩
theorem coV_l {c w : Nat} (hc : c < L.length) : coV C Kd (L ++ [(x, y)]) c w = coV C Kd L c w := by
  unfold coV
  rw [List.getD_eq_getElem?_getD, List.getD_eq_getElem?_getD, List.getElem?_append_left hc]
theorem coV_n {w : Nat} : coV C Kd (L ++ [(x, y)]) L.length w = vaI (C w) (Kd w) x - vaI (C w) (Kd w) y := by
  unfold coV
  rw [List.getD_eq_getElem?_getD, List.getElem?_append_right (Nat.le_refl _), Nat.sub_self]
  rfl
theorem coR.ap (h : coR G tA W C Kd L) (h1 : ∀ w, w < W → et_pl (eg_at G (tA + 1 + w)) L.length = some (.int (vaI (C w) (Kd w) x - vaI (C w) (Kd w) y))) : coR G tA W C Kd (L ++ [(x, y)]) := fun c w hc hw => by
  rw [List.length_append] at hc
  have hc : c < L.length + 1 := hc
  by_cases e : c = L.length
  · rw [e, coV_n]
    exact h1 w hw
  · rw [coV_l (by omega)]
    exact h c w (by omega) hw
theorem coR.xs (h : coR G tA W C Kd L) (hW : W ≤ 6) (t9 : seT K se tA tR tS td be sy) (hH : et_H et_TT K G) (x : xf S G G') (hs : ∀ b j, S b j → tA + 1 ≤ b → b ≤ tA + 6 → ¬ j < L.length) : coR G' tA W C Kd L := fun c w hc hw => (x.2 _ c (hH.2.2 _ _ (t9.2.2.1 w (by omega))).1 (fun q => hs _ _ q (by omega) (by omega) hc)).trans (h c w hc hw)
end ZLA
section ZLB
variable {K : et_K} {G G0 : eg_G} {Z : eg_O → Prop} {se tA tR tS td be sy e ca ki kn d d2 m : Nat} {v : evT} {L : List (Int32 × Int32)} {x y : Int32}
theorem fd_adL (hH : et_H et_TT K G) (t : seT K se tA tR tS td be sy) (hsR : seR G se tA tR tS td be sy) (t9 : evK K e ca ki kn v.1 v.2.2.1) (hv : evc G e ca ki kn v) (q5 : et_pl (eg_at G se) 5 = some (.int (Int32.ofNat L.length))) (q6 : et_pl (eg_at G se) 6 = some (.int (Int32.ofNat v.1))) (hL : L.length < 151) (hco : coR G tA v.1 v.2.1 v.2.2.1 L) (hX : xf (fun b j => (b = se ∧ j = 5) ∨ (tA + 1 ≤ b ∧ b ≤ tA + 6)) G0 G) (hnew : (∀ w, w < m → et_pl (eg_at G (tA + 1 + w)) L.length = some (.int (vaI (v.2.1 w) (v.2.2.1 w) x - vaI (v.2.1 w) (v.2.2.1 w) y)))) (hm : m ≤ v.1) (hH0 : et_H et_TT K G0) : et_go none (d + 2) 92 14 [some (.ref se), some (.ref e), some (.int x), some (.int y), some (.int (Int32.ofNat m))] [] G 0 0 (xw_Z (fun b j => (b = se ∧ j = 5) ∨ (tA + 1 ≤ b ∧ b ≤ tA + 6)) K G0 (fun g v9 => v9 = none ∧ et_pl (eg_at g se) 5 = some (.int (Int32.ofNat (L.length + 1))) ∧ coR g tA v.1 v.2.1 v.2.2.1 (L ++ [(x, y)]))) := by
  induction hq9 : v.1 - m using Nat.strongRecOn generalizing m G with
  | _ q9 ih =>
    have k_se := t.1.1
    have k_tA := t.1.2.1
    have k_tR := t.1.2.2.1
    have k_tS := t.1.2.2.2.1
    have k_td := t.1.2.2.2.2.1
    have k_be := t.1.2.2.2.2.2.1
    have k_sy := t.1.2.2.2.2.2.2
    have hv0 := hv
    have t90 := t9
    obtain ⟨⟨k_e, k_ca, k_ki, k_kn⟩, hw6, hkd⟩ := t9
    obtain ⟨⟨p0, p1, p2, p3⟩, hN, hCK, p4, p5, p6, p7⟩ := hv
    have lt_se := (hH.2.2 _ _ k_se).1
    refine hs_iload (i := 4) (p := 16) (by decide +kernel) rfl ?_
    refine hs_aload (i := 0) (p := 17) (by decide +kernel) rfl ?_
    refine hf_get (T := et_TT) (t := 9) (ci := 7) (f := 6) (p := 20) (by decide +kernel) rfl hH k_se q6 ?_
    refine hs_br2n (c := .ge) (t := 63) (f := 23) (by decide +kernel) (by omega) (by omega) (fun (c20 : v.1 ≤ m) => ?_) (fun (c20 : ¬ (v.1 ≤ m)) => ?_)
    · refine hs_aload (i := 0) (p := 64) (by decide +kernel) rfl ?_
      refine hs_dup1 (p := 65) (by decide +kernel) ?_
      refine hf_get (T := et_TT) (t := 9) (ci := 7) (f := 5) (p := 68) (by decide +kernel) rfl hH k_se q5 ?_
      refine hs_k (x := Int32.ofNat 1) (p := 69) (by decide +kernel) ?_
      refine hs_iaddn (p := 70) (by decide +kernel) ?_
      have hHo := hH
      refine hf_put (T := et_TT) (t := 9) (ci := 7) (f := 5) (p := 73) (ty := .int) (by decide +kernel) rfl rfl rfl rfl rfl hH k_se (hi_nv (by omega) (by omega)) (fun G70 hH x70 e70 => ?_)
      have hv0 := hv0.xs t90 hHo x70 (fun b j h => by rw [h.1, k_se]; exact ⟨by decide, by decide⟩)
      have hco : coR G70 tA v.1 v.2.1 v.2.2.1 L := hco.xs hw6 t hHo x70 (fun b j h h1 h2 => by have h3 : K (tA + 1 + (b - (tA + 1))) = some 45 := t.2.2.1 (b - (tA + 1)) (by omega); rw [show tA + 1 + (b - (tA + 1)) = se by have := h.1; omega, k_se] at h3; cases h3)
      have hnew : (∀ w, w < m → et_pl (eg_at G70 (tA + 1 + w)) L.length = some (.int (vaI (v.2.1 w) (v.2.2.1 w) x - vaI (v.2.1 w) (v.2.2.1 w) y))) := fun w hw => (x70.2 _ _ (hHo.2.2 _ _ (t.2.2.1 w (by omega))).1 (fun h => hi_ne (t.2.2.1 w (by omega)) k_se (by decide) h.1)).trans (hnew w hw)
      have hX := hX.tr x70 (fun b j _ h => .inl h)
      refine hs_vret (by decide +kernel) ?_
      obtain rfl : m = v.1 := by omega
      exact ⟨_, _, rfl, hH, hX, rfl, e70, hco.ap hnew⟩
    · refine hs_iload (i := 4) (p := 25) (by decide +kernel) rfl ?_
      refine hs_k (x := Int32.ofNat 6) (p := 27) (by decide +kernel) ?_
      refine hs_br2n (c := .ge) (t := 63) (f := 30) (by decide +kernel) (by omega) (by omega) (fun (c27 : 6 ≤ m) => ?_) (fun (c27 : ¬ (6 ≤ m)) => ?_)
      · refine hs_aload (i := 0) (p := 64) (by decide +kernel) rfl ?_
        refine hs_dup1 (p := 65) (by decide +kernel) ?_
        refine hf_get (T := et_TT) (t := 9) (ci := 7) (f := 5) (p := 68) (by decide +kernel) rfl hH k_se q5 ?_
        refine hs_k (x := Int32.ofNat 1) (p := 69) (by decide +kernel) ?_
        refine hs_iaddn (p := 70) (by decide +kernel) ?_
        have hHo := hH
        refine hf_put (T := et_TT) (t := 9) (ci := 7) (f := 5) (p := 73) (ty := .int) (by decide +kernel) rfl rfl rfl rfl rfl hH k_se (hi_nv (by omega) (by omega)) (fun G70 hH x70 e70 => ?_)
        have hv0 := hv0.xs t90 hHo x70 (fun b j h => by rw [h.1, k_se]; exact ⟨by decide, by decide⟩)
        have hco : coR G70 tA v.1 v.2.1 v.2.2.1 L := hco.xs hw6 t hHo x70 (fun b j h h1 h2 => by have h3 : K (tA + 1 + (b - (tA + 1))) = some 45 := t.2.2.1 (b - (tA + 1)) (by omega); rw [show tA + 1 + (b - (tA + 1)) = se by have := h.1; omega, k_se] at h3; cases h3)
        have hnew : (∀ w, w < m → et_pl (eg_at G70 (tA + 1 + w)) L.length = some (.int (vaI (v.2.1 w) (v.2.2.1 w) x - vaI (v.2.1 w) (v.2.2.1 w) y))) := fun w hw => (x70.2 _ _ (hHo.2.2 _ _ (t.2.2.1 w (by omega))).1 (fun h => hi_ne (t.2.2.1 w (by omega)) k_se (by decide) h.1)).trans (hnew w hw)
        have hX := hX.tr x70 (fun b j _ h => .inl h)
        refine hs_vret (by decide +kernel) ?_
        obtain rfl : m = v.1 := by omega
        exact ⟨_, _, rfl, hH, hX, rfl, e70, hco.ap hnew⟩
      · refine hs_aload (i := 0) (p := 31) (by decide +kernel) rfl ?_
        refine hf_get (T := et_TT) (t := 9) (ci := 7) (f := 0) (p := 34) (by decide +kernel) rfl hH k_se hsR.1.1 ?_
        refine hs_iload (i := 4) (p := 36) (by decide +kernel) rfl ?_
        refine hf_ald (ins := .aaload) (T := et_TT) (t := 43) (kd := 11) (N := 6) (p := 37) (by decide +kernel) (fun _ _ _ _ _ _ _ _ _ _ => rfl) rfl rfl rfl hH k_tA (by decide) (hsR.2.1 m (by omega)) ?_
        have k__tA___1___m_ : K (tA + 1 + m) = some 45 := t.2.2.1 m (by omega)
        refine hs_aload (i := 0) (p := 38) (by decide +kernel) rfl ?_
        refine hf_get (T := et_TT) (t := 9) (ci := 7) (f := 5) (p := 41) (by decide +kernel) rfl hH k_se q5 ?_
        refine hs_aload (i := 1) (p := 42) (by decide +kernel) rfl ?_
        refine hs_iload (i := 4) (p := 44) (by decide +kernel) rfl ?_
        refine hs_iload (i := 2) (p := 45) (by decide +kernel) rfl ?_
        refine ht_callv (T := et_TT) (t := 3) (mi := 34) (na := 2) (ci := 1) (lk := 5) (lm := 4) (L0 := eg_en (eg_mL 34) [.ref e, .int (Int32.ofNat m), .int x]) (by decide +kernel) rfl hH k_e rfl rfl rfl rfl rfl (by rw [show eg_mL 34 = 4 from by decide +kernel]; first | done | rfl) ?_
        refine (fd_val hH k_e k_ca k_ki p0 p1 p2 hw6 (by omega) (hCK m (by omega)).1 (hCK m (by omega)).2 (hkd m (by omega)) (by omega)).mono (fun u hu => xp_cb hu ?_)
        show et_go none _ 92 48 _ [.int (vaI (v.2.1 m) (v.2.2.1 m) x), .int (Int32.ofNat L.length), .ref (tA + 1 + m)] _ _ _ _
        refine hs_aload (i := 1) (p := 49) (by decide +kernel) rfl ?_
        refine hs_iload (i := 4) (p := 51) (by decide +kernel) rfl ?_
        refine hs_iload (i := 3) (p := 52) (by decide +kernel) rfl ?_
        refine ht_callv (T := et_TT) (t := 3) (mi := 34) (na := 2) (ci := 1) (lk := 5) (lm := 4) (L0 := eg_en (eg_mL 34) [.ref e, .int (Int32.ofNat m), .int y]) (by decide +kernel) rfl hH k_e rfl rfl rfl rfl rfl (by rw [show eg_mL 34 = 4 from by decide +kernel]; first | done | rfl) ?_
        refine (fd_val hH k_e k_ca k_ki p0 p1 p2 hw6 (by omega) (hCK m (by omega)).1 (hCK m (by omega)).2 (hkd m (by omega)) (by omega)).mono (fun u hu => xp_cb hu ?_)
        show et_go none _ 92 55 _ [.int (vaI (v.2.1 m) (v.2.2.1 m) y), .int (vaI (v.2.1 m) (v.2.2.1 m) x), .int (Int32.ofNat L.length), .ref (tA + 1 + m)] _ _ _ _
        refine hs_isub (p := 56) (by decide +kernel) ?_
        have hHo := hH
        refine hf_ist (T := et_TT) (t := 45) (N := 151) (p := 57) (by decide +kernel) rfl rfl (by decide) hH k__tA___1___m_ (by omega) (by decide) (fun s hs => absurd hs List.not_mem_nil) (fun G56 hH x56 e56 => ?_)
        have hv0 := hv0.xs t90 hHo x56 (fun b j h => by rw [h.1, k__tA___1___m_]; exact ⟨by decide, by decide⟩)
        have hsR := hsR.xs t hHo x56 (fun b j t kb h => by rw [h.1, k__tA___1___m_] at kb; cases kb; exact ⟨by decide, by decide, fun h => absurd h (by decide)⟩)
        have q5 := (x56.2 se 5 lt_se (fun h => hi_ne k_se k__tA___1___m_ (by decide) h.1)).trans q5
        have q6 := (x56.2 se 6 lt_se (fun h => hi_ne k_se k__tA___1___m_ (by decide) h.1)).trans q6
        have hnew2 : (∀ w, w < (m + 1) → et_pl (eg_at G56 (tA + 1 + w)) L.length = some (.int (vaI (v.2.1 w) (v.2.2.1 w) x - vaI (v.2.1 w) (v.2.2.1 w) y))) := fun w hw => by
          by_cases ew : w = m
          · rw [ew]; exact e56
          · exact (x56.2 _ _ (hHo.2.2 _ _ (t.2.2.1 w (by omega))).1 (fun h => by have h := h.1; omega)).trans (hnew w (by omega))
        have hco : coR G56 tA v.1 v.2.1 v.2.2.1 L := hco.xs hw6 t hHo x56 (fun b j h _ _ => by have h := h.2; omega)
        have hX := hX.tr x56 (fun b j _ h => .inr (by have h := h.1; omega))
        have lt_se := Nat.lt_of_lt_of_le lt_se x56.1
        refine hs_iinc1 (i := 4) (p := 60) (by decide +kernel) rfl (Nat.le_of_ble_eq_true rfl) ?_
        refine hs_goto (p := 14) (by decide +kernel) ?_
        exact ih (v.1 - (m + 1)) (by omega) hH hsR hv0 q5 q6 hco hX hnew2 (by omega) rfl
theorem fd_add (hH : et_H et_TT K G) (t : seT K se tA tR tS td be sy) (hsR : seR G se tA tR tS td be sy) (t9 : evK K e ca ki kn v.1 v.2.2.1) (hv : evc G e ca ki kn v) (q5 : et_pl (eg_at G se) 5 = some (.int (Int32.ofNat L.length))) (q6 : et_pl (eg_at G se) 6 = some (.int (Int32.ofNat v.1))) (hL : L.length < 151) (hco : coR G tA v.1 v.2.1 v.2.2.1 L) (hd : 2 ≤ d2) : et_go none d2 92 0 (eg_en (eg_mL 92) [.ref se, .ref e, .int x, .int y]) [] G 0 0 (xw_Z (fun b j => (b = se ∧ j = 5) ∨ (tA + 1 ≤ b ∧ b ≤ tA + 6)) K G (fun g v9 => v9 = none ∧ et_pl (eg_at g se) 5 = some (.int (Int32.ofNat (L.length + 1))) ∧ coR g tA v.1 v.2.1 v.2.2.1 (L ++ [(x, y)]))) := by
  obtain ⟨d, rfl⟩ : ∃ d, d2 = d + 2 := ⟨d2 - 2, by omega⟩
  rw [show eg_mL 92 = 5 from by decide +kernel]
  show et_go none (d + 2) 92 0 [some (.ref se), some (.ref e), some (.int x), some (.int y), none] [] G 0 0 _
  have k_se := t.1.1
  have k_tA := t.1.2.1
  have k_tR := t.1.2.2.1
  have k_tS := t.1.2.2.2.1
  have k_td := t.1.2.2.2.2.1
  have k_be := t.1.2.2.2.2.2.1
  have k_sy := t.1.2.2.2.2.2.2
  refine hs_aload (i := 0) (p := 1) (by decide +kernel) rfl ?_
  refine hf_get (T := et_TT) (t := 9) (ci := 7) (f := 5) (p := 4) (by decide +kernel) rfl hH k_se q5 ?_
  refine hs_k (x := Int32.ofNat 151) (p := 7) (by decide +kernel) ?_
  refine hs_br2n (c := .lt) (t := 11) (f := 10) (by decide +kernel) (by omega) (by omega) (fun (c7 : L.length < 151) => ?_) (fun (c7 : ¬ (L.length < 151)) => ?_)
  · refine hs_k (x := Int32.ofNat 0) (p := 12) (by decide +kernel) ?_
    refine hs_istore (i := 4) (p := 14) (by decide +kernel) (Nat.le_of_ble_eq_true rfl) ?_
    exact fd_adL (m := 0) hH t hsR t9 hv q5 q6 hL hco xf.rf (fun w hw => absurd hw (Nat.not_lt_zero w)) (Nat.zero_le _) hH
  · exact absurd hL c7
end ZLB
end
