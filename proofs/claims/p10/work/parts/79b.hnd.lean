/-! BY HAND: looksAt -/
def rl_b (B : Nat → Int32) : eg_C := .inl (0, (6, .inl B))
section RPL
variable {d am aw td vs bs : Nat} {G : eg_G} {F : Nat → Value} {W B TD VS : Nat → Int32} {Z : eg_O → Prop}
def rl_V (G : eg_G) (am aw td vs bs : Nat) (F : Nat → Value) (TD VS : Nat → Int32) : Prop := hm_ok G am aw ∧ F 1 = .ref aw ∧ (F 21 = .ref td ∧ td ≠ am ∧ td ≠ aw ∧ td ≠ bs ∧ td < G.2 ∧ eg_at G td = .inl (0, (6, .inl TD))) ∧ (F 20 = .ref vs ∧ vs ≠ am ∧ vs ≠ aw ∧ vs ≠ bs ∧ vs < G.2 ∧ eg_at G vs = .inl (0, (120, .inl VS))) ∧ (F 22 = .ref bs ∧ bs ≠ am ∧ bs ≠ aw ∧ eg_NC ≤ bs ∧ bs < G.2)
def rl_H (G : eg_G) (am aw bs : Nat) (F : Nat → Value) (W B : Nat → Int32) : eg_G := hm_H (eg_u G bs (rl_b B)) am aw F W
theorem rl_ok (hV : rl_V G am aw td vs bs F TD VS) : hm_ok (eg_u G bs (rl_b B)) am aw := hV.1
theorem rl_td {F' : Nat → Value} {k pc ck sk p n : Nat} {L : eg_Ls} {r : List Value} (hV : rl_V G am aw td vs bs F TD VS) (hc : hs_o k pc = some (.iaload, p)) (hn : n < 6) (h : et_go none d k p L (.int (TD n) :: r) (rl_H G am aw bs F' W B) ck sk Z) : et_go none d k pc L (.int (Int32.ofNat n) :: .ref td :: r) (rl_H G am aw bs F' W B) ck sk Z := by
  obtain ⟨-, -, ⟨-, h1, h2, h3, h4, h5⟩, -⟩ := hV
  exact hs_iald hc ((hm_o h1 h2).trans ((et_at_u h3).trans h5)) h4 (by decide) hn h
theorem rl_vs {F' : Nat → Value} {k pc ck sk p n : Nat} {L : eg_Ls} {r : List Value} (hV : rl_V G am aw td vs bs F TD VS) (hc : hs_o k pc = some (.iaload, p)) (hn : n < 120) (h : et_go none d k p L (.int (VS n) :: r) (rl_H G am aw bs F' W B) ck sk Z) : et_go none d k pc L (.int (Int32.ofNat n) :: .ref vs :: r) (rl_H G am aw bs F' W B) ck sk Z := by
  obtain ⟨-, -, -, ⟨-, h1, h2, h3, h4, h5⟩, -⟩ := hV
  exact hs_iald hc ((hm_o h1 h2).trans ((et_at_u h3).trans h5)) h4 (by decide) hn h
theorem rl_bs {F' : Nat → Value} {k pc ck sk p n : Nat} {x : Int32} {L : eg_Ls} {r : List Value} (hV : rl_V G am aw td vs bs F TD VS) (hc : hs_o k pc = some (.iastore, p)) (hn : n < 6) (h : et_go none d k p L r (rl_H G am aw bs F' W (upd B n x)) ck sk Z) : et_go none d k pc L (.int x :: .int (Int32.ofNat n) :: .ref bs :: r) (rl_H G am aw bs F' W B) ck sk Z := by
  obtain ⟨-, -, -, -, -, h1, h2, h3, h4⟩ := hV
  refine hs_iast hc ((hm_o h1 h2).trans (et_at_us h3)) ⟨h3, h4⟩ (by decide) hn ?_
  unfold rl_H
  rw [hm_ex h1 h2, hm_uu]
  exact h
theorem rl_cards {c : Nat} {F W} (hA : hm_ok G am aw) (hw : F 1 = .ref aw) (hc : W 3 = Int32.ofNat c) (h : Z (.inl (some (.int (Int32.ofNat c))), hm_H G am aw F W, 0, 0)) : et_go none d 218 0 [some (.ref am)] [] (hm_H G am aw F W) 0 0 Z := by
  refine hs_aload (i := 0) (p := 1) (by decide +kernel) rfl ?_
  refine hm_get hA (f := 1) (p := 4) (by decide +kernel) rfl hw ?_
  refine hs_k (x := Int32.ofNat 3) (p := 5) (by decide +kernel) ?_
  refine hm_rwv hA (p := 6) (x := Int32.ofNat c) (by decide +kernel) (by decide) hc ?_
  refine hs_iret (by decide +kernel) ?_
  exact h
theorem rl_yes {c : Nat} {F W} (hA : hm_ok G am aw) (hw : F 1 = .ref aw) (hc : c < 20) (h : ∀ y, y ≤ 1 → Z (.inl (some (.int (Int32.ofNat y))), hm_H G am aw F W, 0, 0)) : et_go none d 240 0 [some (.ref am), some (.int (Int32.ofNat c))] [] (hm_H G am aw F W) 0 0 Z := by
  refine hs_aload (i := 0) (p := 1) (by decide +kernel) rfl ?_
  refine hm_get hA (f := 1) (p := 4) (by decide +kernel) rfl hw ?_
  refine hs_k (x := Int32.ofNat 5) (p := 5) (by decide +kernel) ?_
  refine hs_k (x := Int32.ofNat 2) (p := 6) (by decide +kernel) ?_
  refine hs_iload (i := 1) (p := 7) (by decide +kernel) rfl ?_
  refine hs_imuln (p := 8) (by decide +kernel) ?_
  refine hs_iaddn (p := 9) (by decide +kernel) ?_
  refine hs_k (x := Int32.ofNat 1) (p := 10) (by decide +kernel) ?_
  refine hs_iaddn (p := 11) (by decide +kernel) ?_
  refine hm_rw hA (p := 12) (by decide +kernel) (by omega) ?_
  refine hs_k (x := Int32.ofNat 1) (p := 13) (by decide +kernel) ?_
  refine hs_br2 (c := .ne) (t := 20) (f := 16) (by decide +kernel) (fun (c13 : ¬ (W ((5 + (2 * c)) + 1)) = Int32.ofNat 1) => ?_) (fun (c13 : ¬ (¬ (W ((5 + (2 * c)) + 1)) = Int32.ofNat 1)) => ?_)
  · refine hs_k (x := Int32.ofNat 0) (p := 21) (by decide +kernel) ?_
    refine hs_zret (by decide +kernel) (.inl rfl) ?_
    exact h _ (by decide)
  · refine hs_k (x := Int32.ofNat 1) (p := 17) (by decide +kernel) ?_
    refine hs_goto (p := 21) (by decide +kernel) ?_
    refine hs_zret (by decide +kernel) (.inr rfl) ?_
    exact h _ (by decide)
theorem rl_trL (hV : rl_V G am aw td vs bs F TD VS) {e wn : Nat} (he : e ≤ 2) (hw : W (45 + 23 * e + 0) = Int32.ofNat wn) (hwn : wn ≤ 6) {c i : Nat} {su : Int32} (hc : c < 20) (hi : i ≤ 6) (h : ∀ x, Z (.inl (some (.int x)), (rl_H G am aw bs F W B), 0, 0)) : et_go none (d + 2) 258 5 [some (.ref am), some (.int (Int32.ofNat e)), some (.int (Int32.ofNat c)), some (.int su), some (.int (Int32.ofNat i))] [] (rl_H G am aw bs F W B) 0 0 Z := by
  induction hm : wn - i using Nat.strongRecOn generalizing i su with
  | _ z ih =>
    refine hs_iload (i := 4) (p := 7) (by decide +kernel) rfl ?_
    refine hs_aload (i := 0) (p := 8) (by decide +kernel) rfl ?_
    refine hs_iload (i := 1) (p := 9) (by decide +kernel) rfl ?_
    refine hm_call (rl_ok hV) (mi := 224) (na := 1) (lk := 5) (lm := 2) (by decide +kernel) rfl rfl rfl rfl rfl rfl (rp_wires (rl_ok hV) hV.2.1 (by omega) (hs_cb ?_))
    rw [hw]
    show et_go none _ 258 12 _ [.int (Int32.ofNat wn), .int (Int32.ofNat i)] _ 0 0 _
    refine hs_br2n (c := .ge) (t := 44) (f := 15) (by decide +kernel) (by omega) (by omega) (fun (c12 : wn ≤ i) => ?_) (fun (c12 : ¬ (wn ≤ i)) => ?_)
    · refine hs_iload (i := 3) (p := 45) (by decide +kernel) rfl ?_
      refine hs_iret (by decide +kernel) ?_
      exact h _
    · refine hs_iload (i := 3) (p := 16) (by decide +kernel) rfl ?_
      refine hs_aload (i := 0) (p := 17) (by decide +kernel) rfl ?_
      refine hm_get (rl_ok hV) (f := 21) (p := 20) (by decide +kernel) rfl hV.2.2.1.1 ?_
      refine hs_iload (i := 4) (p := 22) (by decide +kernel) rfl ?_
      refine rl_td hV (p := 23) (by decide +kernel) (by omega) ?_
      refine hs_aload (i := 0) (p := 24) (by decide +kernel) rfl ?_
      refine hm_get (rl_ok hV) (f := 20) (p := 27) (by decide +kernel) rfl hV.2.2.2.1.1 ?_
      refine hs_k (x := Int32.ofNat 6) (p := 29) (by decide +kernel) ?_
      refine hs_iload (i := 2) (p := 30) (by decide +kernel) rfl ?_
      refine hs_imuln (p := 31) (by decide +kernel) ?_
      refine hs_iload (i := 4) (p := 33) (by decide +kernel) rfl ?_
      refine hs_iaddn (p := 34) (by decide +kernel) ?_
      refine rl_vs hV (p := 35) (by decide +kernel) (by omega) ?_
      refine hs_imul (p := 36) (by decide +kernel) ?_
      refine hs_iadd (p := 37) (by decide +kernel) ?_
      refine hs_istore (i := 3) (p := 38) (by decide +kernel) (Nat.le_of_ble_eq_true rfl) ?_
      refine hs_iinc1 (i := 4) (p := 41) (by decide +kernel) rfl (Nat.le_of_ble_eq_true rfl) ?_
      refine hs_goto (p := 5) (by decide +kernel) ?_
      exact ih (wn - (i + 1)) (by omega) (by omega) rfl
theorem rl_tried (hV : rl_V G am aw td vs bs F TD VS) {e wn : Nat} (he : e ≤ 2) (hw : W (45 + 23 * e + 0) = Int32.ofNat wn) (hwn : wn ≤ 6) {c : Nat} (hc : c < 20) (h : ∀ x, Z (.inl (some (.int x)), (rl_H G am aw bs F W B), 0, 0)) : et_go none (d + 2) 258 0 [some (.ref am), some (.int (Int32.ofNat e)), some (.int (Int32.ofNat c)), none, none] [] (rl_H G am aw bs F W B) 0 0 Z := by
  refine hs_k (x := Int32.ofNat 0) (p := 1) (by decide +kernel) ?_
  refine hs_istore (i := 3) (p := 2) (by decide +kernel) (Nat.le_of_ble_eq_true rfl) ?_
  refine hs_k (x := Int32.ofNat 0) (p := 3) (by decide +kernel) ?_
  refine hs_istore (i := 4) (p := 5) (by decide +kernel) (Nat.le_of_ble_eq_true rfl) ?_
  exact rl_trL hV he hw hwn hc (by omega) h
theorem rl_A (hV : rl_V G am aw td vs bs F TD VS) {e wn : Nat} (he : e ≤ 2) (hw : W (45 + 23 * e + 0) = Int32.ofNat wn) (hwn : wn ≤ 6) {c : Nat} (hc : W 3 = Int32.ofNat c) (hc20 : c ≤ 20) {n : Nat} {le gr lo : Int32} {x6 x7 : Option Value} (hn : n ≤ c) (hlt : gr < le) (h : ∀ (n : Nat) (le gr lo : Int32) (x6 x7 : Option Value), n ≤ c → (n < c ∨ gr < le) → et_go none (d + 4) 257 83 [some (.ref am), some (.int (Int32.ofNat e)), some (.int le), some (.int gr), some (.int (Int32.ofNat n)), some (.int lo), x6, x7] [] (rl_H G am aw bs F W B) 0 0 Z) : et_go none (d + 4) 257 16 [some (.ref am), some (.int (Int32.ofNat e)), some (.int le), some (.int gr), some (.int (Int32.ofNat n)), some (.int lo), x6, x7] [] (rl_H G am aw bs F W B) 0 0 Z := by
  induction hm : c - n using Nat.strongRecOn generalizing n le gr lo x6 x7 with
  | _ z ih =>
    refine hs_iload (i := 4) (p := 18) (by decide +kernel) rfl ?_
    refine hs_aload (i := 0) (p := 19) (by decide +kernel) rfl ?_
    refine hm_call (rl_ok hV) (mi := 218) (na := 0) (lk := 8) (lm := 1) (by decide +kernel) rfl rfl rfl rfl rfl rfl (rl_cards (rl_ok hV) hV.2.1 hc (hs_cb ?_))
    show et_go none _ 257 22 _ [.int (Int32.ofNat c), .int (Int32.ofNat n)] _ 0 0 _
    refine hs_br2n (c := .ge) (t := 83) (f := 25) (by decide +kernel) (by omega) (by omega) (fun (c22 : c ≤ n) => ?_) (fun (c22 : ¬ (c ≤ n)) => ?_)
    · exact h n _ _ _ _ _ hn (.inr hlt)
    · refine hs_aload (i := 0) (p := 26) (by decide +kernel) rfl ?_
      refine hs_iload (i := 1) (p := 27) (by decide +kernel) rfl ?_
      refine hs_iload (i := 4) (p := 29) (by decide +kernel) rfl ?_
      refine hm_call (rl_ok hV) (mi := 258) (na := 2) (lk := 8) (lm := 5) (by decide +kernel) rfl rfl rfl rfl rfl rfl (rl_tried hV he hw hwn (by omega) (fun x258 => hs_cb ?_))
      show et_go none _ 257 32 _ [.int x258] _ 0 0 _
      refine hs_istore (i := 6) (p := 34) (by decide +kernel) (Nat.le_of_ble_eq_true rfl) ?_
      refine hs_iload (i := 5) (p := 36) (by decide +kernel) rfl ?_
      refine hs_iload (i := 6) (p := 38) (by decide +kernel) rfl ?_
      refine hs_math (mi := 311) (lk := 8) (p := 41) (by decide +kernel) rfl rfl rfl rfl ?_
      refine hs_istore (i := 5) (p := 43) (by decide +kernel) (Nat.le_of_ble_eq_true rfl) ?_
      refine hs_aload (i := 0) (p := 44) (by decide +kernel) rfl ?_
      refine hs_iload (i := 4) (p := 46) (by decide +kernel) rfl ?_
      refine hm_call (rl_ok hV) (mi := 240) (na := 1) (lk := 8) (lm := 2) (by decide +kernel) rfl rfl rfl rfl rfl rfl (rl_yes (rl_ok hV) hV.2.1 (by omega) (fun y hy => hs_cb ?_))
      show et_go none _ 257 49 _ [.int (Int32.ofNat y)] _ 0 0 _
      refine hs_br1 (c := .eq) (t := 62) (f := 52) (by decide +kernel) (fun (c49 : Int32.ofNat y = 0) => ?_) (fun (c49 : ¬ (Int32.ofNat y = 0)) => ?_)
      · refine hs_iload (i := 3) (p := 63) (by decide +kernel) rfl ?_
        refine hs_iload (i := 6) (p := 65) (by decide +kernel) rfl ?_
        refine hs_math (mi := 310) (lk := 8) (p := 68) (by decide +kernel) rfl rfl rfl rfl ?_
        refine hs_istore (i := 3) (p := 69) (by decide +kernel) (Nat.le_of_ble_eq_true rfl) ?_
        refine hs_iload (i := 2) (p := 70) (by decide +kernel) rfl ?_
        refine hs_iload (i := 3) (p := 71) (by decide +kernel) rfl ?_
        refine hs_br2 (c := .gt) (t := 77) (f := 74) (by decide +kernel) (fun (c71 : (if gr < x258 then x258 else gr) < le) => ?_) (fun (c71 : ¬ ((if gr < x258 then x258 else gr) < le)) => ?_)
        · refine hs_iinc1 (i := 4) (p := 80) (by decide +kernel) rfl (Nat.le_of_ble_eq_true rfl) ?_
          refine hs_goto (p := 16) (by decide +kernel) ?_
          exact ih (c - (n + 1)) (by omega) (by omega) c71 rfl
        · refine hs_goto (p := 83) (by decide +kernel) ?_
          exact h n _ _ _ _ _ hn (.inl (by omega))
      · refine hs_iload (i := 2) (p := 53) (by decide +kernel) rfl ?_
        refine hs_iload (i := 6) (p := 55) (by decide +kernel) rfl ?_
        refine hs_math (mi := 311) (lk := 8) (p := 58) (by decide +kernel) rfl rfl rfl rfl ?_
        refine hs_istore (i := 2) (p := 59) (by decide +kernel) (Nat.le_of_ble_eq_true rfl) ?_
        refine hs_goto (p := 69) (by decide +kernel) ?_
        refine hs_iload (i := 2) (p := 70) (by decide +kernel) rfl ?_
        refine hs_iload (i := 3) (p := 71) (by decide +kernel) rfl ?_
        refine hs_br2 (c := .gt) (t := 77) (f := 74) (by decide +kernel) (fun (c71 : gr < (if x258 < le then x258 else le)) => ?_) (fun (c71 : ¬ (gr < (if x258 < le then x258 else le))) => ?_)
        · refine hs_iinc1 (i := 4) (p := 80) (by decide +kernel) rfl (Nat.le_of_ble_eq_true rfl) ?_
          refine hs_goto (p := 16) (by decide +kernel) ?_
          exact ih (c - (n + 1)) (by omega) (by omega) c71 rfl
        · refine hs_goto (p := 83) (by decide +kernel) ?_
          exact h n _ _ _ _ _ hn (.inl (by omega))
def rl_Q (F F' : Nat → Value) : Prop := (∀ j, (j < 23 ∨ 27 < j) → j ≠ 29 → F' j = F j) ∧ (∃ x, F' 23 = .int x) ∧ (∃ x, F' 24 = .int x) ∧ (∃ x, F' 27 = .int x) ∧ ((F' 29 = F 29 ∧ F' 25 = F 25 ∧ F' 26 = F 26) ∨ ∃ x y, F' 29 = .int (Int32.ofNat 1) ∧ F' 25 = .int x ∧ F' 26 = .int y ∧ ¬ x = y)
theorem rl_set {F : Nat → Value} {f : Nat} {v : Value} (hV : rl_V G am aw td vs bs F TD VS) (h1 : f ≠ 1) (h2 : f ≠ 21) (h3 : f ≠ 20) (h4 : f ≠ 22) : rl_V G am aw td vs bs (updV F f v) TD VS := by
  obtain ⟨a, b, ⟨c1, c2⟩, ⟨e1, e2⟩, g1, g2⟩ := hV
  exact ⟨a, (if_neg h1.symm).trans b, ⟨(if_neg h2.symm).trans c1, c2⟩, ⟨(if_neg h3.symm).trans e1, e2⟩, (if_neg h4.symm).trans g1, g2⟩
theorem rl_C (hV : rl_V G am aw td vs bs F TD VS) {e wn : Nat} (he : e ≤ 2) (hw : W (45 + 23 * e + 0) = Int32.ofNat wn) (hwn : wn ≤ 6) {i n : Nat} {le gr lo sm : Int32} (hi : i ≤ 6) (h : ∀ (B : Nat → Int32) (i : Nat), et_go none (d + 4) 257 204 [some (.ref am), some (.int (Int32.ofNat e)), some (.int le), some (.int gr), some (.int (Int32.ofNat n)), some (.int lo), some (.int sm), some (.int (Int32.ofNat i))] [] (rl_H G am aw bs F W B) 0 0 Z) : et_go none (d + 4) 257 174 [some (.ref am), some (.int (Int32.ofNat e)), some (.int le), some (.int gr), some (.int (Int32.ofNat n)), some (.int lo), some (.int sm), some (.int (Int32.ofNat i))] [] (rl_H G am aw bs F W B) 0 0 Z := by
  induction hm : wn - i using Nat.strongRecOn generalizing i B with
  | _ z ih =>
    refine hs_iload (i := 7) (p := 176) (by decide +kernel) rfl ?_
    refine hs_aload (i := 0) (p := 177) (by decide +kernel) rfl ?_
    refine hs_iload (i := 1) (p := 178) (by decide +kernel) rfl ?_
    refine hm_call (rl_ok hV) (mi := 224) (na := 1) (lk := 8) (lm := 2) (by decide +kernel) rfl rfl rfl rfl rfl rfl (rp_wires (rl_ok hV) hV.2.1 (by omega) (hs_cb ?_))
    rw [hw]
    show et_go none _ 257 181 _ [.int (Int32.ofNat wn), .int (Int32.ofNat i)] _ 0 0 _
    refine hs_br2n (c := .ge) (t := 204) (f := 184) (by decide +kernel) (by omega) (by omega) (fun (c181 : wn ≤ i) => ?_) (fun (c181 : ¬ (wn ≤ i)) => ?_)
    · exact h _ _
    · refine hs_aload (i := 0) (p := 185) (by decide +kernel) rfl ?_
      refine hm_get (rl_ok hV) (f := 22) (p := 188) (by decide +kernel) rfl hV.2.2.2.2.1 ?_
      refine hs_iload (i := 7) (p := 190) (by decide +kernel) rfl ?_
      refine hs_aload (i := 0) (p := 191) (by decide +kernel) rfl ?_
      refine hm_get (rl_ok hV) (f := 21) (p := 194) (by decide +kernel) rfl hV.2.2.1.1 ?_
      refine hs_iload (i := 7) (p := 196) (by decide +kernel) rfl ?_
      refine rl_td hV (p := 197) (by decide +kernel) (by omega) ?_
      refine rl_bs hV (p := 198) (by decide +kernel) (by omega) ?_
      refine hs_iinc1 (i := 7) (p := 201) (by decide +kernel) rfl (Nat.le_of_ble_eq_true rfl) ?_
      refine hs_goto (p := 174) (by decide +kernel) ?_
      exact ih (wn - (i + 1)) (by omega) (by omega) rfl
theorem rl_B (hV : rl_V G am aw td vs bs F TD VS) {e wn : Nat} (he : e ≤ 2) (hw : W (45 + 23 * e + 0) = Int32.ofNat wn) (hwn : wn ≤ 6) {i n : Nat} {le gr lo sm : Int32} (hi : i ≤ 6) (h : ∀ (sm : Int32) (i : Nat), et_go none (d + 4) 257 143 [some (.ref am), some (.int (Int32.ofNat e)), some (.int le), some (.int gr), some (.int (Int32.ofNat n)), some (.int lo), some (.int sm), some (.int (Int32.ofNat i))] [] (rl_H G am aw bs F W B) 0 0 Z) : et_go none (d + 4) 257 112 [some (.ref am), some (.int (Int32.ofNat e)), some (.int le), some (.int gr), some (.int (Int32.ofNat n)), some (.int lo), some (.int sm), some (.int (Int32.ofNat i))] [] (rl_H G am aw bs F W B) 0 0 Z := by
  induction hm : wn - i using Nat.strongRecOn generalizing i sm with
  | _ z ih =>
    refine hs_iload (i := 7) (p := 114) (by decide +kernel) rfl ?_
    refine hs_aload (i := 0) (p := 115) (by decide +kernel) rfl ?_
    refine hs_iload (i := 1) (p := 116) (by decide +kernel) rfl ?_
    refine hm_call (rl_ok hV) (mi := 224) (na := 1) (lk := 8) (lm := 2) (by decide +kernel) rfl rfl rfl rfl rfl rfl (rp_wires (rl_ok hV) hV.2.1 (by omega) (hs_cb ?_))
    rw [hw]
    show et_go none _ 257 119 _ [.int (Int32.ofNat wn), .int (Int32.ofNat i)] _ 0 0 _
    refine hs_br2n (c := .ge) (t := 143) (f := 122) (by decide +kernel) (by omega) (by omega) (fun (c119 : wn ≤ i) => ?_) (fun (c119 : ¬ (wn ≤ i)) => ?_)
    · exact h _ _
    · refine hs_iload (i := 6) (p := 124) (by decide +kernel) rfl ?_
      refine hs_aload (i := 0) (p := 125) (by decide +kernel) rfl ?_
      refine hm_get (rl_ok hV) (f := 21) (p := 128) (by decide +kernel) rfl hV.2.2.1.1 ?_
      refine hs_iload (i := 7) (p := 130) (by decide +kernel) rfl ?_
      refine rl_td hV (p := 131) (by decide +kernel) (by omega) ?_
      refine hs_math (mi := 309) (lk := 8) (p := 134) (by decide +kernel) rfl rfl rfl rfl ?_
      refine hs_iadd (p := 135) (by decide +kernel) ?_
      refine hs_istore (i := 6) (p := 137) (by decide +kernel) (Nat.le_of_ble_eq_true rfl) ?_
      refine hs_iinc1 (i := 7) (p := 140) (by decide +kernel) rfl (Nat.le_of_ble_eq_true rfl) ?_
      refine hs_goto (p := 112) (by decide +kernel) ?_
      exact ih (wn - (i + 1)) (by omega) (by omega) rfl
theorem rl_D (hV : rl_V G am aw td vs bs F TD VS) {e wn : Nat} (he : e ≤ 2) (hw : W (45 + 23 * e + 0) = Int32.ofNat wn) (hwn : wn ≤ 6) {c : Nat} (hc : W 3 = Int32.ofNat c) (hc20 : c ≤ 20) {lg so bsm : Int32} (hlg : F 27 = .int lg) (hso : F 29 = .int so) (hbm : F 23 = .int bsm) (h24 : ∃ x, F 24 = .int x) {n : Nat} {le gr lo : Int32} {x6 x7 : Option Value} (hn : n ≤ c) (hlt : n < c ∨ gr < le) (h : ∀ F' B', rl_Q F F' → Z (.inl none, (rl_H G am aw bs F' W B'), 0, 0)) : et_go none (d + 4) 257 83 [some (.ref am), some (.int (Int32.ofNat e)), some (.int le), some (.int gr), some (.int (Int32.ofNat n)), some (.int lo), x6, x7] [] (rl_H G am aw bs F W B) 0 0 Z := by
  obtain ⟨z24, hz24⟩ := h24
  refine hs_aload (i := 0) (p := 84) (by decide +kernel) rfl ?_
  refine hs_aload (i := 0) (p := 85) (by decide +kernel) rfl ?_
  refine hm_get (rl_ok hV) (f := 27) (p := 88) (by decide +kernel) rfl hlg ?_
  refine hs_iload (i := 4) (p := 90) (by decide +kernel) rfl ?_
  refine hs_math (mi := 310) (lk := 8) (p := 93) (by decide +kernel) rfl rfl rfl rfl ?_
  refine hm_put (rl_ok hV) (f := 27) (ty := .int) (p := 96) (by decide +kernel) rfl rfl rfl ?_
  have hV := rl_set (f := 27) (v := .int (if lg < Int32.ofNat n then Int32.ofNat n else lg)) hV (by decide) (by decide) (by decide) (by decide)
  refine hs_iload (i := 4) (p := 98) (by decide +kernel) rfl ?_
  refine hs_aload (i := 0) (p := 99) (by decide +kernel) rfl ?_
  refine hm_call (rl_ok hV) (mi := 218) (na := 0) (lk := 8) (lm := 1) (by decide +kernel) rfl rfl rfl rfl rfl rfl (rl_cards (rl_ok hV) hV.2.1 hc (hs_cb ?_))
  show et_go none _ 257 102 _ [.int (Int32.ofNat c), .int (Int32.ofNat n)] _ 0 0 _
  refine hs_br2n (c := .ge) (t := 106) (f := 105) (by decide +kernel) (by omega) (by omega) (fun (c102 : c ≤ n) => ?_) (fun (c102 : ¬ (c ≤ n)) => ?_)
  · refine hs_k (x := Int32.ofNat 0) (p := 107) (by decide +kernel) ?_
    refine hs_istore (i := 6) (p := 109) (by decide +kernel) (Nat.le_of_ble_eq_true rfl) ?_
    refine hs_k (x := Int32.ofNat 0) (p := 110) (by decide +kernel) ?_
    refine hs_istore (i := 7) (p := 112) (by decide +kernel) (Nat.le_of_ble_eq_true rfl) ?_
    refine rl_B hV he hw hwn (by omega) (fun sm i => ?_)
    refine hs_aload (i := 0) (p := 144) (by decide +kernel) rfl ?_
    refine hm_get (rl_ok hV) (f := 29) (p := 147) (by decide +kernel) rfl hso ?_
    refine hs_br1 (c := .eq) (t := 160) (f := 150) (by decide +kernel) (fun (c147 : so = 0) => ?_) (fun (c147 : ¬ (so = 0)) => ?_)
    · refine hs_aload (i := 0) (p := 161) (by decide +kernel) rfl ?_
      refine hs_k (x := Int32.ofNat 1) (p := 162) (by decide +kernel) ?_
      refine hm_put (rl_ok hV) (f := 29) (ty := .boolean) (p := 165) (by decide +kernel) rfl (by decide +kernel) rfl ?_
      have hV := rl_set (f := 29) (v := .int (Int32.ofNat 1)) hV (by decide) (by decide) (by decide) (by decide)
      refine hs_aload (i := 0) (p := 166) (by decide +kernel) rfl ?_
      refine hs_iload (i := 6) (p := 168) (by decide +kernel) rfl ?_
      refine hm_put (rl_ok hV) (f := 23) (ty := .int) (p := 171) (by decide +kernel) rfl rfl rfl ?_
      have hV := rl_set (f := 23) (v := .int sm) hV (by decide) (by decide) (by decide) (by decide)
      refine hs_k (x := Int32.ofNat 0) (p := 172) (by decide +kernel) ?_
      refine hs_istore (i := 7) (p := 174) (by decide +kernel) (Nat.le_of_ble_eq_true rfl) ?_
      refine rl_C hV he hw hwn (by omega) (fun B2 i2 => ?_)
      refine hs_aload (i := 0) (p := 205) (by decide +kernel) rfl ?_
      refine hs_iload (i := 2) (p := 206) (by decide +kernel) rfl ?_
      refine hm_put (rl_ok hV) (f := 25) (ty := .int) (p := 209) (by decide +kernel) rfl rfl rfl ?_
      have hV := rl_set (f := 25) (v := .int le) hV (by decide) (by decide) (by decide) (by decide)
      refine hs_aload (i := 0) (p := 210) (by decide +kernel) rfl ?_
      refine hs_iload (i := 3) (p := 211) (by decide +kernel) rfl ?_
      refine hm_put (rl_ok hV) (f := 26) (ty := .int) (p := 214) (by decide +kernel) rfl rfl rfl ?_
      have hV := rl_set (f := 26) (v := .int gr) hV (by decide) (by decide) (by decide) (by decide)
      refine hs_aload (i := 0) (p := 215) (by decide +kernel) rfl ?_
      refine hs_aload (i := 0) (p := 216) (by decide +kernel) rfl ?_
      refine hm_call (rl_ok hV) (mi := 218) (na := 0) (lk := 8) (lm := 1) (by decide +kernel) rfl rfl rfl rfl rfl rfl (rl_cards (rl_ok hV) hV.2.1 hc (hs_cb ?_))
      show et_go none _ 257 219 _ [.int (Int32.ofNat c), .ref am] _ 0 0 _
      refine hs_br1 (c := .ne) (t := 226) (f := 222) (by decide +kernel) (fun (c219 : ¬ Int32.ofNat c = 0) => ?_) (fun (c219 : ¬ (¬ Int32.ofNat c = 0)) => ?_)
      · refine hs_iload (i := 3) (p := 227) (by decide +kernel) rfl ?_
        refine hs_kld (v := Value.int (-1000000)) (p := 230) (by decide +kernel) ?_
        refine hs_br2 (c := .le) (t := 237) (f := 233) (by decide +kernel) (fun (c230 : gr ≤ (-1000000)) => ?_) (fun (c230 : ¬ (gr ≤ (-1000000))) => ?_)
        · refine hs_iload (i := 5) (p := 239) (by decide +kernel) rfl ?_
          refine hs_k (x := Int32.ofNat 1) (p := 240) (by decide +kernel) ?_
          refine hs_isub (p := 241) (by decide +kernel) ?_
          refine hm_put (rl_ok hV) (f := 24) (ty := .int) (p := 244) (by decide +kernel) rfl rfl rfl ?_
          have hV := rl_set (f := 24) (v := .int (lo - Int32.ofNat 1)) hV (by decide) (by decide) (by decide) (by decide)
          refine hs_vret (by decide +kernel) ?_
          refine h _ _ ⟨fun j h1 h2 => ?_, ⟨_, rfl⟩, ⟨_, rfl⟩, ⟨_, rfl⟩, .inr ⟨_, _, rfl, rfl, rfl, fun e => ?_⟩⟩
          · unfold updV
            simp only [if_neg (show ¬ j = 24 by omega), if_neg (show ¬ j = 26 by omega), if_neg (show ¬ j = 25 by omega), if_neg (show ¬ j = 23 by omega), if_neg h2, if_neg (show ¬ j = 27 by omega)]
          · rcases hlt with hlt | hlt
            · omega
            · rw [e] at hlt
              exact Int32.lt_irrefl hlt
        · refine hs_iload (i := 3) (p := 234) (by decide +kernel) rfl ?_
          refine hs_goto (p := 241) (by decide +kernel) ?_
          refine hm_put (rl_ok hV) (f := 24) (ty := .int) (p := 244) (by decide +kernel) rfl rfl rfl ?_
          have hV := rl_set (f := 24) (v := .int gr) hV (by decide) (by decide) (by decide) (by decide)
          refine hs_vret (by decide +kernel) ?_
          refine h _ _ ⟨fun j h1 h2 => ?_, ⟨_, rfl⟩, ⟨_, rfl⟩, ⟨_, rfl⟩, .inr ⟨_, _, rfl, rfl, rfl, fun e => ?_⟩⟩
          · unfold updV
            simp only [if_neg (show ¬ j = 24 by omega), if_neg (show ¬ j = 26 by omega), if_neg (show ¬ j = 25 by omega), if_neg (show ¬ j = 23 by omega), if_neg h2, if_neg (show ¬ j = 27 by omega)]
          · rcases hlt with hlt | hlt
            · omega
            · rw [e] at hlt
              exact Int32.lt_irrefl hlt
      · refine hs_k (x := Int32.ofNat 0) (p := 223) (by decide +kernel) ?_
        refine hs_goto (p := 241) (by decide +kernel) ?_
        refine hm_put (rl_ok hV) (f := 24) (ty := .int) (p := 244) (by decide +kernel) rfl rfl rfl ?_
        have hV := rl_set (f := 24) (v := .int (Int32.ofNat 0)) hV (by decide) (by decide) (by decide) (by decide)
        refine hs_vret (by decide +kernel) ?_
        refine h _ _ ⟨fun j h1 h2 => ?_, ⟨_, rfl⟩, ⟨_, rfl⟩, ⟨_, rfl⟩, .inr ⟨_, _, rfl, rfl, rfl, fun e => ?_⟩⟩
        · unfold updV
          simp only [if_neg (show ¬ j = 24 by omega), if_neg (show ¬ j = 26 by omega), if_neg (show ¬ j = 25 by omega), if_neg (show ¬ j = 23 by omega), if_neg h2, if_neg (show ¬ j = 27 by omega)]
        · rcases hlt with hlt | hlt
          · omega
          · rw [e] at hlt
            exact Int32.lt_irrefl hlt
    · refine hs_iload (i := 6) (p := 152) (by decide +kernel) rfl ?_
      refine hs_aload (i := 0) (p := 153) (by decide +kernel) rfl ?_
      refine hm_get (rl_ok hV) (f := 23) (p := 156) (by decide +kernel) rfl hbm ?_
      refine hs_br2 (c := .lt) (t := 160) (f := 159) (by decide +kernel) (fun (c156 : sm < bsm) => ?_) (fun (c156 : ¬ (sm < bsm)) => ?_)
      · refine hs_aload (i := 0) (p := 161) (by decide +kernel) rfl ?_
        refine hs_k (x := Int32.ofNat 1) (p := 162) (by decide +kernel) ?_
        refine hm_put (rl_ok hV) (f := 29) (ty := .boolean) (p := 165) (by decide +kernel) rfl (by decide +kernel) rfl ?_
        have hV := rl_set (f := 29) (v := .int (Int32.ofNat 1)) hV (by decide) (by decide) (by decide) (by decide)
        refine hs_aload (i := 0) (p := 166) (by decide +kernel) rfl ?_
        refine hs_iload (i := 6) (p := 168) (by decide +kernel) rfl ?_
        refine hm_put (rl_ok hV) (f := 23) (ty := .int) (p := 171) (by decide +kernel) rfl rfl rfl ?_
        have hV := rl_set (f := 23) (v := .int sm) hV (by decide) (by decide) (by decide) (by decide)
        refine hs_k (x := Int32.ofNat 0) (p := 172) (by decide +kernel) ?_
        refine hs_istore (i := 7) (p := 174) (by decide +kernel) (Nat.le_of_ble_eq_true rfl) ?_
        refine rl_C hV he hw hwn (by omega) (fun B2 i2 => ?_)
        refine hs_aload (i := 0) (p := 205) (by decide +kernel) rfl ?_
        refine hs_iload (i := 2) (p := 206) (by decide +kernel) rfl ?_
        refine hm_put (rl_ok hV) (f := 25) (ty := .int) (p := 209) (by decide +kernel) rfl rfl rfl ?_
        have hV := rl_set (f := 25) (v := .int le) hV (by decide) (by decide) (by decide) (by decide)
        refine hs_aload (i := 0) (p := 210) (by decide +kernel) rfl ?_
        refine hs_iload (i := 3) (p := 211) (by decide +kernel) rfl ?_
        refine hm_put (rl_ok hV) (f := 26) (ty := .int) (p := 214) (by decide +kernel) rfl rfl rfl ?_
        have hV := rl_set (f := 26) (v := .int gr) hV (by decide) (by decide) (by decide) (by decide)
        refine hs_aload (i := 0) (p := 215) (by decide +kernel) rfl ?_
        refine hs_aload (i := 0) (p := 216) (by decide +kernel) rfl ?_
        refine hm_call (rl_ok hV) (mi := 218) (na := 0) (lk := 8) (lm := 1) (by decide +kernel) rfl rfl rfl rfl rfl rfl (rl_cards (rl_ok hV) hV.2.1 hc (hs_cb ?_))
        show et_go none _ 257 219 _ [.int (Int32.ofNat c), .ref am] _ 0 0 _
        refine hs_br1 (c := .ne) (t := 226) (f := 222) (by decide +kernel) (fun (c219 : ¬ Int32.ofNat c = 0) => ?_) (fun (c219 : ¬ (¬ Int32.ofNat c = 0)) => ?_)
        · refine hs_iload (i := 3) (p := 227) (by decide +kernel) rfl ?_
          refine hs_kld (v := Value.int (-1000000)) (p := 230) (by decide +kernel) ?_
          refine hs_br2 (c := .le) (t := 237) (f := 233) (by decide +kernel) (fun (c230 : gr ≤ (-1000000)) => ?_) (fun (c230 : ¬ (gr ≤ (-1000000))) => ?_)
          · refine hs_iload (i := 5) (p := 239) (by decide +kernel) rfl ?_
            refine hs_k (x := Int32.ofNat 1) (p := 240) (by decide +kernel) ?_
            refine hs_isub (p := 241) (by decide +kernel) ?_
            refine hm_put (rl_ok hV) (f := 24) (ty := .int) (p := 244) (by decide +kernel) rfl rfl rfl ?_
            have hV := rl_set (f := 24) (v := .int (lo - Int32.ofNat 1)) hV (by decide) (by decide) (by decide) (by decide)
            refine hs_vret (by decide +kernel) ?_
            refine h _ _ ⟨fun j h1 h2 => ?_, ⟨_, rfl⟩, ⟨_, rfl⟩, ⟨_, rfl⟩, .inr ⟨_, _, rfl, rfl, rfl, fun e => ?_⟩⟩
            · unfold updV
              simp only [if_neg (show ¬ j = 24 by omega), if_neg (show ¬ j = 26 by omega), if_neg (show ¬ j = 25 by omega), if_neg (show ¬ j = 23 by omega), if_neg h2, if_neg (show ¬ j = 27 by omega)]
            · rcases hlt with hlt | hlt
              · omega
              · rw [e] at hlt
                exact Int32.lt_irrefl hlt
          · refine hs_iload (i := 3) (p := 234) (by decide +kernel) rfl ?_
            refine hs_goto (p := 241) (by decide +kernel) ?_
            refine hm_put (rl_ok hV) (f := 24) (ty := .int) (p := 244) (by decide +kernel) rfl rfl rfl ?_
            have hV := rl_set (f := 24) (v := .int gr) hV (by decide) (by decide) (by decide) (by decide)
            refine hs_vret (by decide +kernel) ?_
            refine h _ _ ⟨fun j h1 h2 => ?_, ⟨_, rfl⟩, ⟨_, rfl⟩, ⟨_, rfl⟩, .inr ⟨_, _, rfl, rfl, rfl, fun e => ?_⟩⟩
            · unfold updV
              simp only [if_neg (show ¬ j = 24 by omega), if_neg (show ¬ j = 26 by omega), if_neg (show ¬ j = 25 by omega), if_neg (show ¬ j = 23 by omega), if_neg h2, if_neg (show ¬ j = 27 by omega)]
            · rcases hlt with hlt | hlt
              · omega
              · rw [e] at hlt
                exact Int32.lt_irrefl hlt
        · refine hs_k (x := Int32.ofNat 0) (p := 223) (by decide +kernel) ?_
          refine hs_goto (p := 241) (by decide +kernel) ?_
          refine hm_put (rl_ok hV) (f := 24) (ty := .int) (p := 244) (by decide +kernel) rfl rfl rfl ?_
          have hV := rl_set (f := 24) (v := .int (Int32.ofNat 0)) hV (by decide) (by decide) (by decide) (by decide)
          refine hs_vret (by decide +kernel) ?_
          refine h _ _ ⟨fun j h1 h2 => ?_, ⟨_, rfl⟩, ⟨_, rfl⟩, ⟨_, rfl⟩, .inr ⟨_, _, rfl, rfl, rfl, fun e => ?_⟩⟩
          · unfold updV
            simp only [if_neg (show ¬ j = 24 by omega), if_neg (show ¬ j = 26 by omega), if_neg (show ¬ j = 25 by omega), if_neg (show ¬ j = 23 by omega), if_neg h2, if_neg (show ¬ j = 27 by omega)]
          · rcases hlt with hlt | hlt
            · omega
            · rw [e] at hlt
              exact Int32.lt_irrefl hlt
      · refine hs_vret (by decide +kernel) ?_
        exact h _ _ ⟨fun j h1 h2 => if_neg (by omega), ⟨_, hbm⟩, ⟨_, hz24⟩, ⟨_, rfl⟩, .inl ⟨rfl, rfl, rfl⟩⟩
  · refine hs_vret (by decide +kernel) ?_
    exact h _ _ ⟨fun j h1 h2 => if_neg (by omega), ⟨_, hbm⟩, ⟨_, hz24⟩, ⟨_, rfl⟩, .inl ⟨rfl, rfl, rfl⟩⟩
theorem rl_looks (hV : rl_V G am aw td vs bs F TD VS) {e wn : Nat} (he : e ≤ 2) (hw : W (45 + 23 * e + 0) = Int32.ofNat wn) (hwn : wn ≤ 6) {c : Nat} (hc : W 3 = Int32.ofNat c) (hc20 : c ≤ 20) {lg so bsm : Int32} (hlg : F 27 = .int lg) (hso : F 29 = .int so) (hbm : F 23 = .int bsm) (h24 : ∃ x, F 24 = .int x) (h : ∀ F' B', rl_Q F F' → Z (.inl none, (rl_H G am aw bs F' W B'), 0, 0)) : et_go none (d + 4) 257 0 [some (.ref am), some (.int (Int32.ofNat e)), none, none, none, none, none, none] [] (rl_H G am aw bs F W B) 0 0 Z := by
  refine hs_kld (v := Value.int (Int32.ofNat 1000000)) (p := 3) (by decide +kernel) ?_
  refine hs_istore (i := 2) (p := 4) (by decide +kernel) (Nat.le_of_ble_eq_true rfl) ?_
  refine hs_kld (v := Value.int (-1000000)) (p := 7) (by decide +kernel) ?_
  refine hs_istore (i := 3) (p := 8) (by decide +kernel) (Nat.le_of_ble_eq_true rfl) ?_
  refine hs_k (x := Int32.ofNat 0) (p := 9) (by decide +kernel) ?_
  refine hs_istore (i := 4) (p := 11) (by decide +kernel) (Nat.le_of_ble_eq_true rfl) ?_
  refine hs_kld (v := Value.int (Int32.ofNat 1000000)) (p := 14) (by decide +kernel) ?_
  refine hs_istore (i := 5) (p := 16) (by decide +kernel) (Nat.le_of_ble_eq_true rfl) ?_
  exact rl_A hV he hw hwn hc hc20 (Nat.zero_le _) (by decide) (fun n le gr lo x6 x7 h1 h2 => rl_D hV he hw hwn hc hc20 hlg hso hbm h24 h1 h2 h)
end RPL
