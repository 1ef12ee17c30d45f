section
/-! BY HAND: the reference's RULES, TURNERS, CLAIMS -/
theorem gq_keep {W V : Nat → Int32} {t s : Nat} {k : Prop} (ht : t < 14) (hd : gq_D W s k) (hs : s ≤ 400) (hk : k → 4 ≤ t ∧ t < 8) (h1 : ∀ i, i < 841 → V (126 + 841 * t + i) = W (11900 + i)) (h2 : ∀ i, (i < 126 + 841 * t ∨ 126 + 841 * t + 841 ≤ i) → V i = W i) (hG : gq_G W) : gq_G V := by
  intro u hu
  by_cases e : u = t
  · subst e
    obtain ⟨l, a1, a2, a3, a4⟩ := hd
    refine ⟨l, (h1 0 (by omega)).trans a1, a2, fun n hn => ?_⟩
    have hnl : n < l := by
      rcases hn with hn | ⟨hn, hn2⟩
      · exact hn
      · rcases a3 with a3 | a3
        · exact absurd (hk a3) hn2
        · omega
    exact ((a4 n hnl).mv (by omega) hs h1).mono hs
  · exact (hG u hu).same (fun i hi1 hi2 => h2 i (by omega))
theorem gq_G.X {W V : Nat → Int32} (h : gq_G W) (hX : gq_X W V) : gq_G V := fun t ht => (h t ht).same (fun i _ h2 => hX i (by omega))
theorem hs_bast {d k pc ck sk : Nat} {L : eg_Ls} {r : List Value} {G : eg_G} {Z : eg_O → Prop} {a N p n : Nat} {f : Nat → Int32} (hc : hs_o k pc = some (.bastore, p)) (hg : eg_at G a = .inl (3, (N, .inl f))) (ha : eg_NC ≤ a ∧ a < G.2) (hN : N < 2147483648) (hn : n < N) (h : et_go none d k p L r (eg_u G a (.inl (3, (N, .inl (upd f n 0))))) ck sk Z) : et_go none d k pc L (.int (Int32.ofNat 0) :: .int (Int32.ofNat n) :: .ref a :: r) G ck sk Z := by
  obtain ⟨e, rfl⟩ := hs_oc hc
  refine hs_st e rfl ?_ h
  show eg_aw .bastore pc L (.int (Int32.ofNat 0) :: .int (Int32.ofNat n) :: .ref a :: r) G ck sk = _
  unfold eg_aw
  dsimp only
  rw [hg]
  dsimp only
  have h1 := hs_nint (a := n) (by omega)
  rw [if_pos ⟨ha.1, ha.2, rfl, by omega, by omega⟩, hs_nnat (by omega)]
  unfold eg_wr
  dsimp only
  rw [show vp_nar .boolean (Int32.ofNat 0) = 0 from by decide +kernel]
  rfl
/-- what the texts' calls leave of the object -/
def rp_Q (F0 F' : Nat → Value) : Prop := (∀ j, (13 < j ∨ j = 1 ∨ j = 2 ∨ j = 3 ∨ j = 4 ∨ j = 11) → F' j = F0 j) ∧ F' 5 = .int (Int32.ofNat 0) ∧ (∃ a b c e q : Nat, (a ≤ 400 ∧ b ≤ 400 ∧ c ≤ 400 ∧ e ≤ 400 ∧ q ≤ 6) ∧ F' 6 = .int (Int32.ofNat a) ∧ F' 8 = .int (Int32.ofNat b) ∧ F' 12 = .int (Int32.ofNat c) ∧ F' 7 = .int (Int32.ofNat e) ∧ F' 9 = .int (Int32.ofNat q)) ∧ ∃ x y z, F' 0 = .int x ∧ F' 10 = .int y ∧ F' 13 = .int z
def rp_1 (F0 : Nat → Value) (tp : Nat) : Nat → Value := updV (updV (updV F0 0 (.int (Int32.ofNat 0))) 7 (.int (Int32.ofNat tp))) 5 (.int (Int32.ofNat 0))
def rp_K (G : eg_G) (ai : Nat) (G' : eg_G) : Prop := G' = G ∨ ∃ n, n < 4 ∧ ∃ K, eg_at G ai = .inl (3, (4, .inl K)) ∧ G' = eg_u G ai (.inl (3, (4, .inl (upd K n 0))))
section RPH
variable {d am aw ta en tp pt bg st dp : Nat} {G : eg_G} {F0 F : Nat → Value} {TP W : Nat → Int32} {Z : eg_O → Prop}
def rp_B (G : eg_G) (am aw ta : Nat) (F0 : Nat → Value) (tp : Nat) (TP : Nat → Int32) : Prop := hm_ok G am aw ∧ (ta < G.2 ∧ ta ≠ am ∧ ta ≠ aw ∧ eg_at G ta = .inl (1, (400, .inl TP))) ∧ F0 1 = .ref aw ∧ F0 4 = .ref ta ∧ F0 5 = .int (Int32.ofNat tp) ∧ tp ≤ 400
theorem rp_B1 (h : rp_B G am aw ta F0 tp TP) : rp_E G am aw ta (rp_1 F0 tp) tp TP := ⟨h.1, h.2.1, h.2.2.1, h.2.2.2.1, rfl, h.2.2.2.2.2⟩
theorem rp_Qi {F' : Nat → Value} {x b s q : Nat} (htp : tp ≤ 400) (hO : rp_O (rp_1 F0 tp) F') (hb : b ≤ 400) (hx : x ≤ 400) (hs : s ≤ 400) (hq : q ≤ 6) : rp_Q F0 (rp_F F' x b s q) := by
  obtain ⟨h1, ⟨z, hz⟩, y, hy⟩ := hO
  refine ⟨fun j hj => ?_, ?_, ⟨x, b, s, tp, q, ⟨by omega, by omega, by omega, by omega, hq⟩, rfl, rfl, rfl, ?_, rfl⟩, ⟨Int32.ofNat 0, y, z, ?_, ?_, ?_⟩⟩
  · show (if j = 6 then _ else if j = 8 then _ else if j = 12 then _ else if j = 9 then _ else F' j) = _
    rw [if_neg (by omega), if_neg (by omega), if_neg (by omega), if_neg (by omega), h1 j (by omega) (by omega)]
    unfold rp_1 updV
    rw [if_neg (by omega), if_neg (by omega), if_neg (by omega)]
  · exact h1 5 (by decide) (by decide)
  · exact h1 7 (by decide) (by decide)
  · exact h1 0 (by decide) (by decide)
  · exact hy
  · exact hz
theorem rp_Q0 {F1 : Nat → Value} {x : Int32} (h : rp_Q F0 F1) : rp_Q F0 (updV F1 0 (.int x)) := by
  obtain ⟨h1, h2, ⟨a, b, c, e, q, h3, h4, h5, h6, h7, h8⟩, x0, y, z, h9, h10, h11⟩ := h
  exact ⟨fun j hj => (if_neg (by omega)).trans (h1 j hj), h2, ⟨a, b, c, e, q, h3, h4, h5, h6, h7, h8⟩, x, y, z, rfl, h10, h11⟩
theorem rp_uses (hB : rp_B G am aw ta F0 tp TP) (h : Z (.inl none, (hm_H G am aw (rp_F (rp_1 F0 tp) 0 bg 0 dp) W), 0, 0)) : et_go none d 181 0 [some (.ref am)] [] (hm_H G am aw (rp_F F0 pt bg st dp) W) 0 0 Z := by
  refine hs_aload (i := 0) (p := 1) (by decide +kernel) rfl ?_
  refine hs_k (x := Int32.ofNat 0) (p := 2) (by decide +kernel) ?_
  refine hm_put hB.1 (f := 0) (ty := .int) (p := 5) (by decide +kernel) rfl rfl (rp_pO (by decide) (by decide) (by decide) (by decide)) ?_
  refine hs_aload (i := 0) (p := 6) (by decide +kernel) rfl ?_
  refine hs_aload (i := 0) (p := 7) (by decide +kernel) rfl ?_
  refine hm_get hB.1 (f := 5) (p := 10) (by decide +kernel) rfl hB.2.2.2.2.1 ?_
  refine hm_put hB.1 (f := 7) (ty := .int) (p := 13) (by decide +kernel) rfl rfl (rp_pO (by decide) (by decide) (by decide) (by decide)) ?_
  refine hs_aload (i := 0) (p := 14) (by decide +kernel) rfl ?_
  refine hs_k (x := Int32.ofNat 0) (p := 15) (by decide +kernel) ?_
  refine hm_put hB.1 (f := 5) (ty := .int) (p := 18) (by decide +kernel) rfl rfl (rp_pO (by decide) (by decide) (by decide) (by decide)) ?_
  refine hs_aload (i := 0) (p := 19) (by decide +kernel) rfl ?_
  refine hs_k (x := Int32.ofNat 0) (p := 20) (by decide +kernel) ?_
  refine hm_put hB.1 (f := 6) (ty := .int) (p := 23) (by decide +kernel) rfl rfl rp_p6 ?_
  refine hs_aload (i := 0) (p := 24) (by decide +kernel) rfl ?_
  refine hs_k (x := Int32.ofNat 0) (p := 25) (by decide +kernel) ?_
  refine hm_put hB.1 (f := 12) (ty := .int) (p := 28) (by decide +kernel) rfl rfl rp_p12 ?_
  refine hs_vret (by decide +kernel) ?_
  exact h
theorem rp_thr0 (hA : hm_ok G am aw) {x : Int32} (h : Z (.inl (some (.int (Int32.ofNat 0))), hm_H G am aw F W, 0, 0)) : et_go none d 204 0 [some (.ref am), some (.int (Int32.ofNat 0)), some (.int x)] [] (hm_H G am aw F W) 0 0 Z := by
  refine hs_iload (i := 1) (p := 1) (by decide +kernel) rfl ?_
  refine hs_if1 (c := .eq) (t := 9) (f := 4) (by decide +kernel) (show Int32.ofNat 0 = 0 by decide) ?_
  refine hs_iload (i := 1) (p := 10) (by decide +kernel) rfl ?_
  refine hs_zret (by decide +kernel) (.inl rfl) ?_
  exact h
theorem rp_thr1 (hA : hm_ok G am aw) {x : Int32} (h : Z (.inl (some (.int (Int32.ofNat 1))), hm_H G am aw (updV F 0 (.int x)) W, 0, 0)) : et_go none d 204 0 [some (.ref am), some (.int (Int32.ofNat 1)), some (.int x)] [] (hm_H G am aw F W) 0 0 Z := by
  refine hs_iload (i := 1) (p := 1) (by decide +kernel) rfl ?_
  refine hs_if0 (c := .eq) (t := 9) (f := 4) (by decide +kernel) (show ¬ (Int32.ofNat 1 = 0) by decide) ?_
  refine hs_aload (i := 0) (p := 5) (by decide +kernel) rfl ?_
  refine hs_iload (i := 2) (p := 6) (by decide +kernel) rfl ?_
  refine hm_put hA (f := 0) (ty := .int) (p := 9) (by decide +kernel) rfl rfl rfl ?_
  refine hs_iload (i := 1) (p := 10) (by decide +kernel) rfl ?_
  refine hs_zret (by decide +kernel) (.inr rfl) ?_
  exact h
theorem rp_keepsL (hA : hm_ok G am aw) (hw : F 1 = .ref aw) {t k : Nat} (ht : t < 14) (hk : k ≤ 841) (h : ∀ V : Nat → Int32, (∀ i, k ≤ i → i < 841 → V (126 + 841 * t + i) = W (11900 + i)) → (∀ i, (i < 126 + 841 * t + k ∨ 126 + 841 * t + 841 ≤ i) → V i = W i) → Z (.inl none, hm_H G am aw F V, 0, 0)) : et_go none (d + 1) 205 2 [some (.ref am), some (.int (Int32.ofNat t)), some (.int (Int32.ofNat k))] [] (hm_H G am aw F W) 0 0 Z := by
  induction hm : 841 - k using Nat.strongRecOn generalizing k W with
  | _ n ih =>
    refine hs_iload (i := 2) (p := 3) (by decide +kernel) rfl ?_
    refine hs_k (x := Int32.ofNat 841) (p := 6) (by decide +kernel) ?_
    refine hs_br2n (c := .ge) (t := 38) (f := 9) (by decide +kernel) (by omega) (by omega) (fun (c6 : 841 ≤ k) => ?_) (fun (c6 : ¬ (841 ≤ k)) => ?_)
    · refine hs_vret (by decide +kernel) ?_
      exact h W (fun i h1 h2 => by omega) (fun _ _ => rfl)
    · refine hs_aload (i := 0) (p := 10) (by decide +kernel) rfl ?_
      refine hm_get hA (f := 1) (p := 13) (by decide +kernel) rfl hw ?_
      refine hs_iload (i := 1) (p := 14) (by decide +kernel) rfl ?_
      refine hs_calls (mi := 186) (na := 1) (lk := 3) (lm := 1) (by decide +kernel) rfl rfl rfl rfl rfl rfl rfl (rp_textAt (hs_cb ?_))
      show et_go none _ 205 17 _ [.int (Int32.ofNat (126 + 841 * t)), .ref aw] _ _ _ _
      refine hs_iload (i := 2) (p := 18) (by decide +kernel) rfl ?_
      refine hs_iaddn (p := 19) (by decide +kernel) ?_
      refine hs_aload (i := 0) (p := 20) (by decide +kernel) rfl ?_
      refine hm_get hA (f := 1) (p := 23) (by decide +kernel) rfl hw ?_
      refine hs_k (x := Int32.ofNat 14) (p := 25) (by decide +kernel) ?_
      refine hs_calls (mi := 186) (na := 1) (lk := 3) (lm := 1) (by decide +kernel) rfl rfl rfl rfl rfl rfl rfl (rp_textAt (hs_cb ?_))
      show et_go none _ 205 28 _ [.int (Int32.ofNat (126 + 841 * 14)), .ref aw, .int (Int32.ofNat ((126 + 841 * t) + k)), .ref aw] _ _ _ _
      refine hs_iload (i := 2) (p := 29) (by decide +kernel) rfl ?_
      refine hs_iaddn (p := 30) (by decide +kernel) ?_
      refine hm_rw hA (p := 31) (by decide +kernel) (by omega) ?_
      refine hm_ww hA (p := 32) (by decide +kernel) (by omega) ?_
      refine hs_iinc1 (i := 2) (p := 35) (by decide +kernel) rfl (Nat.le_of_ble_eq_true rfl) ?_
      refine hs_goto (p := 2) (by decide +kernel) ?_
      refine ih (841 - (k + 1)) (by omega) (by omega) (fun V h1 h2 => h V (fun i h3 h4 => ?_) (fun i h3 => ?_)) rfl
      · by_cases e : i = k
        · subst e
          exact (h2 _ (.inl (by omega))).trans (hs_us.trans rfl)
        · exact (h1 i (by omega) h4).trans (hs_un (by omega))
      · exact (h2 i (by omega)).trans (hs_un (by omega))
theorem rp_keeps (hA : hm_ok G am aw) (hw : F 1 = .ref aw) {t : Nat} (ht : t < 14) (h : ∀ V : Nat → Int32, (∀ i, i < 841 → V (126 + 841 * t + i) = W (11900 + i)) → (∀ i, (i < 126 + 841 * t ∨ 126 + 841 * t + 841 ≤ i) → V i = W i) → Z (.inl none, hm_H G am aw F V, 0, 0)) : et_go none (d + 1) 205 0 [some (.ref am), some (.int (Int32.ofNat t)), none] [] (hm_H G am aw F W) 0 0 Z := by
  refine hs_k (x := Int32.ofNat 0) (p := 1) (by decide +kernel) ?_
  refine hs_istore (i := 2) (p := 2) (by decide +kernel) (Nat.le_of_ble_eq_true rfl) ?_
  exact rp_keepsL hA hw ht (Nat.zero_le _) (fun V h1 h2 => h V (fun i hi => h1 i (Nat.zero_le _) hi) (fun i hi => h2 i hi))
theorem rp_in {v lo hi : Int32} (h1 : lo ≤ v → v ≤ hi → Z (.inl (some (.int (Int32.ofNat 1))), G, 0, 0)) (h0 : Z (.inl (some (.int (Int32.ofNat 0))), G, 0, 0)) : et_go none d 209 0 [some (.int v), some (.int lo), some (.int hi)] [] G 0 0 Z := by
  refine hs_iload (i := 0) (p := 1) (by decide +kernel) rfl ?_
  refine hs_iload (i := 1) (p := 2) (by decide +kernel) rfl ?_
  refine hs_br2 (c := .lt) (t := 14) (f := 5) (by decide +kernel) (fun (c2 : v < lo) => ?_) (fun (c2 : ¬ (v < lo)) => ?_)
  · refine hs_k (x := Int32.ofNat 0) (p := 15) (by decide +kernel) ?_
    refine hs_zret (by decide +kernel) (.inl rfl) ?_
    exact h0
  · refine hs_iload (i := 0) (p := 6) (by decide +kernel) rfl ?_
    refine hs_iload (i := 2) (p := 7) (by decide +kernel) rfl ?_
    refine hs_br2 (c := .gt) (t := 14) (f := 10) (by decide +kernel) (fun (c7 : hi < v) => ?_) (fun (c7 : ¬ (hi < v)) => ?_)
    · refine hs_k (x := Int32.ofNat 0) (p := 15) (by decide +kernel) ?_
      refine hs_zret (by decide +kernel) (.inl rfl) ?_
      exact h0
    · refine hs_k (x := Int32.ofNat 1) (p := 11) (by decide +kernel) ?_
      refine hs_goto (p := 15) (by decide +kernel) ?_
      refine hs_zret (by decide +kernel) (.inr rfl) ?_
      exact h1 (Int32.not_lt.mp c2) (Int32.not_lt.mp c7)
theorem rp_lt {v : Int32} {e : Nat} (he : e < 1000) (h1 : Int32.ofNat 0 ≤ v) (h2 : v ≤ Int32.ofNat e - Int32.ofNat 1) : ∃ n, n < e ∧ v = Int32.ofNat n := by
  have h3 : (Int32.ofNat e - Int32.ofNat 1).toInt = (e : Int) - 1 := by
    have : e = 0 ∨ ∃ k, e = k + 1 := by
      rcases e with _ | k
      · exact .inl rfl
      · exact .inr ⟨k, rfl⟩
    rcases this with rfl | ⟨k, rfl⟩
    · decide +kernel
    · rw [hs_nsub (by omega), hs_nint (by omega)]
      omega
  rw [Int32.le_iff_toInt_le] at h1 h2
  rw [hs_nint (by decide)] at h1
  rw [h3] at h2
  refine ⟨v.toInt.toNat, by omega, ?_⟩
  apply Int32.toInt_inj.mp
  rw [hs_nint (by omega)]
  omega
theorem rp_noEye (hA : hm_ok G am aw) (hw : F 1 = .ref aw) {e : Nat} (he : e < 1000) (hW : W 4 = Int32.ofNat e) {v : Int32} (h0 : ∀ n, n < e → v = Int32.ofNat n → Z (.inl (some (.int (Int32.ofNat 0))), hm_H G am aw F W, 0, 0)) (h1 : Z (.inl (some (.int (Int32.ofNat 1))), hm_H G am aw F W, 0, 0)) : et_go none (d + 1) 208 0 [some (.ref am), some (.int v)] [] (hm_H G am aw F W) 0 0 Z := by
  refine hs_iload (i := 1) (p := 1) (by decide +kernel) rfl ?_
  refine hs_k (x := Int32.ofNat 0) (p := 2) (by decide +kernel) ?_
  refine hs_aload (i := 0) (p := 3) (by decide +kernel) rfl ?_
  refine hm_get hA (f := 1) (p := 6) (by decide +kernel) rfl hw ?_
  refine hs_k (x := Int32.ofNat 4) (p := 7) (by decide +kernel) ?_
  refine hm_rwv hA (p := 8) (x := Int32.ofNat e) (by decide +kernel) (by omega) hW ?_
  refine hs_k (x := Int32.ofNat 1) (p := 9) (by decide +kernel) ?_
  refine hs_isub (p := 10) (by decide +kernel) ?_
  refine hs_calls (mi := 209) (na := 3) (lk := 2) (lm := 3) (by decide +kernel) rfl rfl rfl rfl rfl rfl rfl (rp_in (fun a10 b10 => hs_cb ?_) (hs_cb ?_))
  · show et_go none _ 208 13 _ [.int (Int32.ofNat 1)] _ _ _ _
    refine hs_if1 (c := .ne) (t := 20) (f := 16) (by decide +kernel) (show ¬ Int32.ofNat 1 = 0 by decide) ?_
    refine hs_k (x := Int32.ofNat 0) (p := 21) (by decide +kernel) ?_
    refine hs_zret (by decide +kernel) (.inl rfl) ?_
    obtain ⟨n, g1, g2⟩ := rp_lt he a10 b10
    exact h0 n g1 g2
  · show et_go none _ 208 13 _ [.int (Int32.ofNat 0)] _ _ _ _
    refine hs_if0 (c := .ne) (t := 20) (f := 16) (by decide +kernel) (show ¬ (¬ Int32.ofNat 0 = 0) by decide) ?_
    refine hs_k (x := Int32.ofNat 1) (p := 17) (by decide +kernel) ?_
    refine hs_goto (p := 21) (by decide +kernel) ?_
    refine hs_zret (by decide +kernel) (.inr rfl) ?_
    exact h1
theorem rp_noRule (hA : hm_ok G am aw) (hw : F 1 = .ref aw) {e : Nat} (he : e < 1000) (hW : W 0 = Int32.ofNat e) {v : Int32} (h0 : ∀ n, n < e → v = Int32.ofNat n → Z (.inl (some (.int (Int32.ofNat 0))), hm_H G am aw F W, 0, 0)) (h1 : Z (.inl (some (.int (Int32.ofNat 1))), hm_H G am aw F W, 0, 0)) : et_go none (d + 1) 210 0 [some (.ref am), some (.int v)] [] (hm_H G am aw F W) 0 0 Z := by
  refine hs_iload (i := 1) (p := 1) (by decide +kernel) rfl ?_
  refine hs_k (x := Int32.ofNat 0) (p := 2) (by decide +kernel) ?_
  refine hs_aload (i := 0) (p := 3) (by decide +kernel) rfl ?_
  refine hm_get hA (f := 1) (p := 6) (by decide +kernel) rfl hw ?_
  refine hs_k (x := Int32.ofNat 0) (p := 7) (by decide +kernel) ?_
  refine hm_rwv hA (p := 8) (x := Int32.ofNat e) (by decide +kernel) (by omega) hW ?_
  refine hs_k (x := Int32.ofNat 1) (p := 9) (by decide +kernel) ?_
  refine hs_isub (p := 10) (by decide +kernel) ?_
  refine hs_calls (mi := 209) (na := 3) (lk := 2) (lm := 3) (by decide +kernel) rfl rfl rfl rfl rfl rfl rfl (rp_in (fun a10 b10 => hs_cb ?_) (hs_cb ?_))
  · show et_go none _ 210 13 _ [.int (Int32.ofNat 1)] _ _ _ _
    refine hs_if1 (c := .ne) (t := 20) (f := 16) (by decide +kernel) (show ¬ Int32.ofNat 1 = 0 by decide) ?_
    refine hs_k (x := Int32.ofNat 0) (p := 21) (by decide +kernel) ?_
    refine hs_zret (by decide +kernel) (.inl rfl) ?_
    obtain ⟨n, g1, g2⟩ := rp_lt he a10 b10
    exact h0 n g1 g2
  · show et_go none _ 210 13 _ [.int (Int32.ofNat 0)] _ _ _ _
    refine hs_if0 (c := .ne) (t := 20) (f := 16) (by decide +kernel) (show ¬ (¬ Int32.ofNat 0 = 0) by decide) ?_
    refine hs_k (x := Int32.ofNat 1) (p := 17) (by decide +kernel) ?_
    refine hs_goto (p := 21) (by decide +kernel) ?_
    refine hs_zret (by decide +kernel) (.inr rfl) ?_
    exact h1
end RPH
end
section
/-! BY HAND: rule, turner, claim; image, back -/
section RPI
variable {d am aw ta en tp pt bg st dp ai ia : Nat} {G : eg_G} {F0 F : Nat → Value} {TP W : Nat → Int32} {Z : eg_O → Prop}
theorem hm_ex {a : Nat} {c : eg_C} (h1 : a ≠ am) (h2 : a ≠ aw) : eg_u (hm_H G am aw F W) a c = hm_H (eg_u G a c) am aw F W := by
  unfold hm_H
  rw [hm_uc h2.symm, hm_uc h1.symm]
theorem hm_bast {k pc ck sk p n : Nat} {L : eg_Ls} {r : List Value} {K : Nat → Int32} (hc : hs_o k pc = some (.bastore, p)) (h1 : ai ≠ am) (h2 : ai ≠ aw) (hg : eg_at G ai = .inl (3, (4, .inl K))) (ha : eg_NC ≤ ai ∧ ai < G.2) (hn : n < 4) (h : et_go none d k p L r (hm_H (eg_u G ai (.inl (3, (4, .inl (upd K n 0))))) am aw F W) ck sk Z) : et_go none d k pc L (.int (Int32.ofNat 0) :: .int (Int32.ofNat n) :: .ref ai :: r) (hm_H G am aw F W) ck sk Z := by
  refine hs_bast hc ((hm_o h1 h2).trans hg) ha (by decide) hn ?_
  rw [hm_ex h1 h2]
  exact h
theorem hm_iast {k pc ck sk p n N : Nat} {L : eg_Ls} {r : List Value} {K : Nat → Int32} {x : Int32} (hc : hs_o k pc = some (.iastore, p)) (h1 : ai ≠ am) (h2 : ai ≠ aw) (hg : eg_at G ai = .inl (0, (N, .inl K))) (ha : eg_NC ≤ ai ∧ ai < G.2) (hN : N < 2147483648) (hn : n < N) (h : et_go none d k p L r (hm_H (eg_u G ai (.inl (0, (N, .inl (upd K n x))))) am aw F W) ck sk Z) : et_go none d k pc L (.int x :: .int (Int32.ofNat n) :: .ref ai :: r) (hm_H G am aw F W) ck sk Z := by
  refine hs_iast hc ((hm_o h1 h2).trans hg) ha hN hn ?_
  rw [hm_ex h1 h2]
  exact h
theorem rp_rule (hB : rp_B G am aw ta F0 tp TP) (hdp : dp ≤ 6) {r : Nat} (hr : r ≤ 4) (hW : W 0 = Int32.ofNat r) {K : Nat → Int32} (hi : F0 18 = .ref ai) (i1 : ai ≠ am) (i2 : ai ≠ aw) (i3 : eg_NC ≤ ai ∧ ai < G.2) (i4 : eg_at G ai = .inl (3, (4, .inl K))) (h : ∀ (v : Int32) F1 W1 G1, rp_Q F0 F1 → rp_K G ai G1 → (∀ i, i < 126 → i ≠ 0 → W1 i = W i) → (∃ c, c ≤ 4 ∧ W1 0 = Int32.ofNat c) → (gq_G W → gq_G W1) → Z (.inl (some (.int v)), hm_H G1 am aw F1 W1, 0, 0)) : et_go none (d + 33) 180 0 [some (.ref am), none] [] (hm_H G am aw (rp_F F0 pt bg st dp) W) 0 0 Z := by
  have he := hB.2.2.2.2.2
  refine hs_aload (i := 0) (p := 1) (by decide +kernel) rfl ?_
  refine hm_call hB.1 (mi := 181) (na := 0) (lk := 2) (lm := 1) (by decide +kernel) rfl rfl rfl rfl rfl rfl (rp_uses hB (hs_cb ?_))
  show et_go none _ 180 4 _ [] _ _ _ _
  refine hs_aload (i := 0) (p := 5) (by decide +kernel) rfl ?_
  refine hs_aload (i := 0) (p := 6) (by decide +kernel) rfl ?_
  refine hs_k (x := Int32.ofNat 0) (p := 7) (by decide +kernel) ?_
  refine hm_call hB.1 (mi := 182) (na := 1) (lk := 2) (lm := 3) (by decide +kernel) rfl rfl rfl rfl rfl rfl (rp_reads (rp_B1 hB) (kd := Int32.ofNat 0) hdp (fun F1 b x s q W1 hO k l m n f g => hs_cb ?_) (fun F1 b x s q W1 hO k l m n f => hs_cb ?_))
  · have hw : (rp_F F1 x b s q) 1 = .ref aw := (hO.1 1 (by decide) (by decide)).trans hB.2.2.1
    have hai : (rp_F F1 x b s q) 18 = .ref ai := (hO.1 18 (by decide) (by decide)).trans hi
    show et_go none _ 180 10 _ [.int (Int32.ofNat 1), .ref am] _ _ _ _
    refine hs_if1 (c := .ne) (t := 17) (f := 13) (by decide +kernel) (show ¬ Int32.ofNat 1 = 0 by decide) ?_
    refine hs_k (x := Int32.ofNat 0) (p := 18) (by decide +kernel) ?_
    refine hs_k (x := Int32.ofNat 1) (p := 19) (by decide +kernel) ?_
    refine hm_call hB.1 (mi := 204) (na := 2) (lk := 2) (lm := 3) (by decide +kernel) rfl rfl rfl rfl rfl rfl (rp_thr0 hB.1 (hs_cb ?_))
    show et_go none _ 180 22 _ [.int (Int32.ofNat 0)] _ _ _ _
    refine hs_if0 (c := .ne) (t := 48) (f := 25) (by decide +kernel) (show ¬ (¬ Int32.ofNat 0 = 0) by decide) ?_
    refine hs_aload (i := 0) (p := 26) (by decide +kernel) rfl ?_
    refine hs_aload (i := 0) (p := 27) (by decide +kernel) rfl ?_
    refine hm_get hB.1 (f := 1) (p := 30) (by decide +kernel) rfl hw ?_
    refine hs_k (x := Int32.ofNat 0) (p := 31) (by decide +kernel) ?_
    refine hm_rwv hB.1 (p := 32) (x := Int32.ofNat r) (by decide +kernel) (by omega) ((f 0 (by omega)).trans hW) ?_
    refine hs_k (x := Int32.ofNat 4) (p := 33) (by decide +kernel) ?_
    refine hs_br2n (c := .ne) (t := 40) (f := 36) (by decide +kernel) (by omega) (by omega) (fun (c33 : ¬ r = 4) => ?_) (fun (c33 : ¬ (¬ r = 4)) => ?_)
    · refine hs_k (x := Int32.ofNat 0) (p := 41) (by decide +kernel) ?_
      refine hs_k (x := Int32.ofNat 2) (p := 42) (by decide +kernel) ?_
      refine hm_call hB.1 (mi := 204) (na := 2) (lk := 2) (lm := 3) (by decide +kernel) rfl rfl rfl rfl rfl rfl (rp_thr0 hB.1 (hs_cb ?_))
      show et_go none _ 180 45 _ [.int (Int32.ofNat 0)] _ _ _ _
      refine hs_if1 (c := .eq) (t := 50) (f := 48) (by decide +kernel) (show Int32.ofNat 0 = 0 by decide) ?_
      refine hs_aload (i := 0) (p := 51) (by decide +kernel) rfl ?_
      refine hm_get hB.1 (f := 1) (p := 54) (by decide +kernel) rfl hw ?_
      refine hs_k (x := Int32.ofNat 0) (p := 55) (by decide +kernel) ?_
      refine hm_rwv hB.1 (p := 56) (x := Int32.ofNat r) (by decide +kernel) (by omega) ((f 0 (by omega)).trans hW) ?_
      refine hs_istore (i := 1) (p := 57) (by decide +kernel) (Nat.le_of_ble_eq_true rfl) ?_
      refine hs_aload (i := 0) (p := 58) (by decide +kernel) rfl ?_
      refine hs_iload (i := 1) (p := 59) (by decide +kernel) rfl ?_
      refine hm_call hB.1 (mi := 205) (na := 1) (lk := 2) (lm := 3) (by decide +kernel) rfl rfl rfl rfl rfl rfl (rp_keeps hB.1 hw (t := r) (by omega) (fun V g1 g2 => hs_cb ?_))
      show et_go none _ 180 62 _ [] _ _ _ _
      refine hs_aload (i := 0) (p := 63) (by decide +kernel) rfl ?_
      refine hm_get hB.1 (f := 18) (p := 66) (by decide +kernel) rfl hai ?_
      refine hs_iload (i := 1) (p := 67) (by decide +kernel) rfl ?_
      refine hs_k (x := Int32.ofNat 0) (p := 68) (by decide +kernel) ?_
      refine hm_bast (p := 69) (by decide +kernel) i1 i2 i4 i3 (by omega) ?_
      refine hs_aload (i := 0) (p := 70) (by decide +kernel) rfl ?_
      refine hm_get hB.1 (f := 1) (p := 73) (by decide +kernel) rfl hw ?_
      refine hs_k (x := Int32.ofNat 0) (p := 74) (by decide +kernel) ?_
      refine hs_dup2 (p := 75) (by decide +kernel) ?_
      refine hm_rwv hB.1 (p := 76) (x := Int32.ofNat r) (by decide +kernel) (by omega) ((g2 0 (.inl (by omega))).trans ((f 0 (by omega)).trans hW)) ?_
      refine hs_k (x := Int32.ofNat 1) (p := 77) (by decide +kernel) ?_
      refine hs_iaddn (p := 78) (by decide +kernel) ?_
      refine hm_ww hB.1 (p := 79) (by decide +kernel) (by omega) ?_
      refine hs_iload (i := 1) (p := 80) (by decide +kernel) rfl ?_
      refine hs_iret (by decide +kernel) ?_
      refine h _ _ _ _ (rp_Qi hB.2.2.2.2.2 hO (by omega) (by omega) (by omega) n) (.inr ⟨r, by omega, K, i4, rfl⟩) (fun i h1 h2 => (hs_un h2).trans ((g2 i (.inl (by omega))).trans (f i (by omega)))) ⟨r + 1, by omega, hs_us⟩ (fun hG => ?_)
      have h9 := gq_keep (t := r) (by omega) g (by omega) (fun e => by first | exact absurd e (by decide) | omega) g1 g2 (hG.X f)
      exact h9.lo (fun i h1 h2 => hs_un (by omega))
    · refine hs_k (x := Int32.ofNat 1) (p := 37) (by decide +kernel) ?_
      refine hs_goto (p := 41) (by decide +kernel) ?_
      refine hs_k (x := Int32.ofNat 2) (p := 42) (by decide +kernel) ?_
      refine hm_call hB.1 (mi := 204) (na := 2) (lk := 2) (lm := 3) (by decide +kernel) rfl rfl rfl rfl rfl rfl (rp_thr1 hB.1 (hs_cb ?_))
      show et_go none _ 180 45 _ [.int (Int32.ofNat 1)] _ _ _ _
      refine hs_if0 (c := .eq) (t := 50) (f := 48) (by decide +kernel) (show ¬ (Int32.ofNat 1 = 0) by decide) ?_
      refine hs_k (x := Int32.ofNat 0) (p := 49) (by decide +kernel) ?_
      refine hs_iret (by decide +kernel) ?_
      exact h _ _ _ _ (rp_Q0 (rp_Qi hB.2.2.2.2.2 hO (by omega) (by omega) (by omega) n)) (.inl rfl) (fun i h1 h2 => f i (by omega)) ⟨r, hr, (f 0 (by omega)).trans hW⟩ (fun hG => hG.X f)
  · have hw : (rp_F F1 x b s q) 1 = .ref aw := (hO.1 1 (by decide) (by decide)).trans hB.2.2.1
    have hai : (rp_F F1 x b s q) 18 = .ref ai := (hO.1 18 (by decide) (by decide)).trans hi
    show et_go none _ 180 10 _ [.int (Int32.ofNat 0), .ref am] _ _ _ _
    refine hs_if0 (c := .ne) (t := 17) (f := 13) (by decide +kernel) (show ¬ (¬ Int32.ofNat 0 = 0) by decide) ?_
    refine hs_k (x := Int32.ofNat 1) (p := 14) (by decide +kernel) ?_
    refine hs_goto (p := 18) (by decide +kernel) ?_
    refine hs_k (x := Int32.ofNat 1) (p := 19) (by decide +kernel) ?_
    refine hm_call hB.1 (mi := 204) (na := 2) (lk := 2) (lm := 3) (by decide +kernel) rfl rfl rfl rfl rfl rfl (rp_thr1 hB.1 (hs_cb ?_))
    show et_go none _ 180 22 _ [.int (Int32.ofNat 1)] _ _ _ _
    refine hs_if1 (c := .ne) (t := 48) (f := 25) (by decide +kernel) (show ¬ Int32.ofNat 1 = 0 by decide) ?_
    refine hs_k (x := Int32.ofNat 0) (p := 49) (by decide +kernel) ?_
    refine hs_iret (by decide +kernel) ?_
    exact h _ _ _ _ (rp_Q0 (rp_Qi hB.2.2.2.2.2 hO (by omega) (by omega) (by omega) n)) (.inl rfl) (fun i h1 h2 => f i (by omega)) ⟨r, hr, (f 0 (by omega)).trans hW⟩ (fun hG => hG.X f)
theorem rp_turner (hB : rp_B G am aw ta F0 tp TP) (hdp : dp ≤ 6) {r : Nat} (hr : r ≤ 4) (hW : W 1 = Int32.ofNat r) {K : Nat → Int32} (hi : F0 18 = .ref ai) (i1 : ai ≠ am) (i2 : ai ≠ aw) (i3 : eg_NC ≤ ai ∧ ai < G.2) (i4 : eg_at G ai = .inl (3, (4, .inl K))) (h : ∀ (v : Int32) F1 W1 G1, rp_Q F0 F1 → rp_K G ai G1 → (∀ i, i < 126 → i ≠ 1 → W1 i = W i) → (∃ c, c ≤ 4 ∧ W1 1 = Int32.ofNat c) → (gq_G W → gq_G W1) → Z (.inl (some (.int v)), hm_H G1 am aw F1 W1, 0, 0)) : et_go none (d + 33) 206 0 [some (.ref am)] [] (hm_H G am aw (rp_F F0 pt bg st dp) W) 0 0 Z := by
  have he := hB.2.2.2.2.2
  refine hs_aload (i := 0) (p := 1) (by decide +kernel) rfl ?_
  refine hm_call hB.1 (mi := 181) (na := 0) (lk := 1) (lm := 1) (by decide +kernel) rfl rfl rfl rfl rfl rfl (rp_uses hB (hs_cb ?_))
  show et_go none _ 206 4 _ [] _ _ _ _
  refine hs_aload (i := 0) (p := 5) (by decide +kernel) rfl ?_
  refine hs_aload (i := 0) (p := 6) (by decide +kernel) rfl ?_
  refine hs_k (x := Int32.ofNat 1) (p := 7) (by decide +kernel) ?_
  refine hm_call hB.1 (mi := 182) (na := 1) (lk := 1) (lm := 3) (by decide +kernel) rfl rfl rfl rfl rfl rfl (rp_reads (rp_B1 hB) (kd := Int32.ofNat 1) hdp (fun F1 b x s q W1 hO k l m n f g => hs_cb ?_) (fun F1 b x s q W1 hO k l m n f => hs_cb ?_))
  · have hw : (rp_F F1 x b s q) 1 = .ref aw := (hO.1 1 (by decide) (by decide)).trans hB.2.2.1
    have hai : (rp_F F1 x b s q) 18 = .ref ai := (hO.1 18 (by decide) (by decide)).trans hi
    show et_go none _ 206 10 _ [.int (Int32.ofNat 1), .ref am] _ _ _ _
    refine hs_if1 (c := .ne) (t := 17) (f := 13) (by decide +kernel) (show ¬ Int32.ofNat 1 = 0 by decide) ?_
    refine hs_k (x := Int32.ofNat 0) (p := 18) (by decide +kernel) ?_
    refine hs_k (x := Int32.ofNat 1) (p := 19) (by decide +kernel) ?_
    refine hm_call hB.1 (mi := 204) (na := 2) (lk := 1) (lm := 3) (by decide +kernel) rfl rfl rfl rfl rfl rfl (rp_thr0 hB.1 (hs_cb ?_))
    show et_go none _ 206 22 _ [.int (Int32.ofNat 0)] _ _ _ _
    refine hs_if0 (c := .ne) (t := 48) (f := 25) (by decide +kernel) (show ¬ (¬ Int32.ofNat 0 = 0) by decide) ?_
    refine hs_aload (i := 0) (p := 26) (by decide +kernel) rfl ?_
    refine hs_aload (i := 0) (p := 27) (by decide +kernel) rfl ?_
    refine hm_get hB.1 (f := 1) (p := 30) (by decide +kernel) rfl hw ?_
    refine hs_k (x := Int32.ofNat 1) (p := 31) (by decide +kernel) ?_
    refine hm_rwv hB.1 (p := 32) (x := Int32.ofNat r) (by decide +kernel) (by omega) ((f 1 (by omega)).trans hW) ?_
    refine hs_k (x := Int32.ofNat 4) (p := 33) (by decide +kernel) ?_
    refine hs_br2n (c := .ne) (t := 40) (f := 36) (by decide +kernel) (by omega) (by omega) (fun (c33 : ¬ r = 4) => ?_) (fun (c33 : ¬ (¬ r = 4)) => ?_)
    · refine hs_k (x := Int32.ofNat 0) (p := 41) (by decide +kernel) ?_
      refine hs_k (x := Int32.ofNat 2) (p := 42) (by decide +kernel) ?_
      refine hm_call hB.1 (mi := 204) (na := 2) (lk := 1) (lm := 3) (by decide +kernel) rfl rfl rfl rfl rfl rfl (rp_thr0 hB.1 (hs_cb ?_))
      show et_go none _ 206 45 _ [.int (Int32.ofNat 0)] _ _ _ _
      refine hs_if1 (c := .eq) (t := 50) (f := 48) (by decide +kernel) (show Int32.ofNat 0 = 0 by decide) ?_
      refine hs_aload (i := 0) (p := 51) (by decide +kernel) rfl ?_
      refine hs_k (x := Int32.ofNat 4) (p := 52) (by decide +kernel) ?_
      refine hs_aload (i := 0) (p := 53) (by decide +kernel) rfl ?_
      refine hm_get hB.1 (f := 1) (p := 56) (by decide +kernel) rfl hw ?_
      refine hs_k (x := Int32.ofNat 1) (p := 57) (by decide +kernel) ?_
      refine hm_rwv hB.1 (p := 58) (x := Int32.ofNat r) (by decide +kernel) (by omega) ((f 1 (by omega)).trans hW) ?_
      refine hs_iaddn (p := 59) (by decide +kernel) ?_
      refine hm_call hB.1 (mi := 205) (na := 1) (lk := 1) (lm := 3) (by decide +kernel) rfl rfl rfl rfl rfl rfl (rp_keeps hB.1 hw (t := (4 + r)) (by omega) (fun V g1 g2 => hs_cb ?_))
      show et_go none _ 206 62 _ [] _ _ _ _
      refine hs_aload (i := 0) (p := 63) (by decide +kernel) rfl ?_
      refine hm_get hB.1 (f := 1) (p := 66) (by decide +kernel) rfl hw ?_
      refine hs_k (x := Int32.ofNat 1) (p := 67) (by decide +kernel) ?_
      refine hs_dup2 (p := 68) (by decide +kernel) ?_
      refine hm_rwv hB.1 (p := 69) (x := Int32.ofNat r) (by decide +kernel) (by omega) ((g2 1 (.inl (by omega))).trans ((f 1 (by omega)).trans hW)) ?_
      refine hs_k (x := Int32.ofNat 1) (p := 70) (by decide +kernel) ?_
      refine hs_iaddn (p := 71) (by decide +kernel) ?_
      refine hm_ww hB.1 (p := 72) (by decide +kernel) (by omega) ?_
      refine hs_aload (i := 0) (p := 73) (by decide +kernel) rfl ?_
      refine hm_get hB.1 (f := 1) (p := 76) (by decide +kernel) rfl hw ?_
      refine hs_k (x := Int32.ofNat 1) (p := 77) (by decide +kernel) ?_
      refine hm_rwv hB.1 (p := 78) (x := Int32.ofNat (r + 1)) (by decide +kernel) (by omega) hs_us ?_
      refine hs_k (x := Int32.ofNat 1) (p := 79) (by decide +kernel) ?_
      refine hs_isubn (p := 80) (by decide +kernel) (by omega) ?_
      refine hs_iret (by decide +kernel) ?_
      refine h _ _ _ _ (rp_Qi hB.2.2.2.2.2 hO (by omega) (by omega) (by omega) n) (.inl rfl) (fun i h1 h2 => (hs_un h2).trans ((g2 i (.inl (by omega))).trans (f i (by omega)))) ⟨r + 1, by omega, hs_us⟩ (fun hG => ?_)
      have h9 := gq_keep (t := (4 + r)) (by omega) g (by omega) (fun e => by first | exact absurd e (by decide) | omega) g1 g2 (hG.X f)
      exact h9.lo (fun i h1 h2 => hs_un (by omega))
    · refine hs_k (x := Int32.ofNat 1) (p := 37) (by decide +kernel) ?_
      refine hs_goto (p := 41) (by decide +kernel) ?_
      refine hs_k (x := Int32.ofNat 2) (p := 42) (by decide +kernel) ?_
      refine hm_call hB.1 (mi := 204) (na := 2) (lk := 1) (lm := 3) (by decide +kernel) rfl rfl rfl rfl rfl rfl (rp_thr1 hB.1 (hs_cb ?_))
      show et_go none _ 206 45 _ [.int (Int32.ofNat 1)] _ _ _ _
      refine hs_if0 (c := .eq) (t := 50) (f := 48) (by decide +kernel) (show ¬ (Int32.ofNat 1 = 0) by decide) ?_
      refine hs_k (x := Int32.ofNat 0) (p := 49) (by decide +kernel) ?_
      refine hs_iret (by decide +kernel) ?_
      exact h _ _ _ _ (rp_Q0 (rp_Qi hB.2.2.2.2.2 hO (by omega) (by omega) (by omega) n)) (.inl rfl) (fun i h1 h2 => f i (by omega)) ⟨r, hr, (f 1 (by omega)).trans hW⟩ (fun hG => hG.X f)
  · have hw : (rp_F F1 x b s q) 1 = .ref aw := (hO.1 1 (by decide) (by decide)).trans hB.2.2.1
    have hai : (rp_F F1 x b s q) 18 = .ref ai := (hO.1 18 (by decide) (by decide)).trans hi
    show et_go none _ 206 10 _ [.int (Int32.ofNat 0), .ref am] _ _ _ _
    refine hs_if0 (c := .ne) (t := 17) (f := 13) (by decide +kernel) (show ¬ (¬ Int32.ofNat 0 = 0) by decide) ?_
    refine hs_k (x := Int32.ofNat 1) (p := 14) (by decide +kernel) ?_
    refine hs_goto (p := 18) (by decide +kernel) ?_
    refine hs_k (x := Int32.ofNat 1) (p := 19) (by decide +kernel) ?_
    refine hm_call hB.1 (mi := 204) (na := 2) (lk := 1) (lm := 3) (by decide +kernel) rfl rfl rfl rfl rfl rfl (rp_thr1 hB.1 (hs_cb ?_))
    show et_go none _ 206 22 _ [.int (Int32.ofNat 1)] _ _ _ _
    refine hs_if1 (c := .ne) (t := 48) (f := 25) (by decide +kernel) (show ¬ Int32.ofNat 1 = 0 by decide) ?_
    refine hs_k (x := Int32.ofNat 0) (p := 49) (by decide +kernel) ?_
    refine hs_iret (by decide +kernel) ?_
    exact h _ _ _ _ (rp_Q0 (rp_Qi hB.2.2.2.2.2 hO (by omega) (by omega) (by omega) n)) (.inl rfl) (fun i h1 h2 => f i (by omega)) ⟨r, hr, (f 1 (by omega)).trans hW⟩ (fun hG => hG.X f)
theorem rp_claim (hB : rp_B G am aw ta F0 tp TP) (hdp : dp ≤ 6) {r ec rc : Nat} {ey ru : Int32} (hr : r ≤ 6) (hW : W 2 = Int32.ofNat r) (hec : ec ≤ 3) (hE4 : W 4 = Int32.ofNat ec) (hrc : rc ≤ 4) (hE0 : W 0 = Int32.ofNat rc) (hZ : (∃ v, F0 13 = .int v) ∧ ∃ v, F0 10 = .int v) {K : Nat → Int32} (hi : F0 18 = .ref ai) (i1 : ai ≠ am) (i2 : ai ≠ aw) (i3 : eg_NC ≤ ai ∧ ai < G.2) (i4 : eg_at G ai = .inl (3, (4, .inl K))) (h : ∀ (v : Int32) F1 W1 G1, rp_Q F0 F1 → rp_K G ai G1 → (∀ i, i < 114 → i ≠ 2 → W1 i = W i) → (∃ c, c ≤ 6 ∧ W1 2 = Int32.ofNat c) → (∀ c, c < 6 → (W1 (114 + 2 * c) = W (114 + 2 * c) ∨ ∃ n, n ≤ 2 ∧ W1 (114 + 2 * c) = Int32.ofNat n) ∧ (W1 (114 + 2 * c + 1) = W (114 + 2 * c + 1) ∨ ∃ n, n ≤ 3 ∧ W1 (114 + 2 * c + 1) = Int32.ofNat n)) → (gq_G W → gq_G W1) → Z (.inl (some (.int v)), hm_H G1 am aw F1 W1, 0, 0)) (hbg : bg ≤ 400) : et_go none (d + 33) 207 0 [some (.ref am), some (.int ey), some (.int ru), none] [] (hm_H G am aw (rp_F F0 pt bg st dp) W) 0 0 Z := by
  have he := hB.2.2.2.2.2
  have hw0 : (rp_F (rp_1 F0 tp) 0 bg 0 dp) 1 = .ref aw := hB.2.2.1
  have rp_Or : rp_O (rp_1 F0 tp) (rp_1 F0 tp) := ⟨fun _ _ _ => rfl, hZ.1, hZ.2⟩
  refine hs_aload (i := 0) (p := 1) (by decide +kernel) rfl ?_
  refine hm_call hB.1 (mi := 181) (na := 0) (lk := 4) (lm := 1) (by decide +kernel) rfl rfl rfl rfl rfl rfl (rp_uses hB (hs_cb ?_))
  show et_go none _ 207 4 _ [] _ _ _ _
  refine hs_aload (i := 0) (p := 5) (by decide +kernel) rfl ?_
  refine hs_aload (i := 0) (p := 6) (by decide +kernel) rfl ?_
  refine hs_iload (i := 1) (p := 7) (by decide +kernel) rfl ?_
  refine hm_call hB.1 (mi := 208) (na := 1) (lk := 4) (lm := 2) (by decide +kernel) rfl rfl rfl rfl rfl rfl (rp_noEye hB.1 hw0 (e := ec) (by omega) hE4 (fun n7 a7 e7 => hs_cb ?_) (hs_cb ?_))
  · show et_go none _ 207 10 _ [.int (Int32.ofNat 0), .ref am] _ _ _ _
    refine hs_if0 (c := .ne) (t := 21) (f := 13) (by decide +kernel) (show ¬ (¬ Int32.ofNat 0 = 0) by decide) ?_
    refine hs_aload (i := 0) (p := 14) (by decide +kernel) rfl ?_
    refine hs_iload (i := 2) (p := 15) (by decide +kernel) rfl ?_
    refine hm_call hB.1 (mi := 210) (na := 1) (lk := 4) (lm := 2) (by decide +kernel) rfl rfl rfl rfl rfl rfl (rp_noRule hB.1 hw0 (e := rc) (by omega) hE0 (fun n15 a15 e15 => hs_cb ?_) (hs_cb ?_))
    · show et_go none _ 207 18 _ [.int (Int32.ofNat 0), .ref am] _ _ _ _
      refine hs_if1 (c := .eq) (t := 25) (f := 21) (by decide +kernel) (show Int32.ofNat 0 = 0 by decide) ?_
      refine hs_k (x := Int32.ofNat 0) (p := 26) (by decide +kernel) ?_
      refine hs_k (x := Int32.ofNat 1) (p := 27) (by decide +kernel) ?_
      refine hm_call hB.1 (mi := 204) (na := 2) (lk := 4) (lm := 3) (by decide +kernel) rfl rfl rfl rfl rfl rfl (rp_thr0 hB.1 (hs_cb ?_))
      show et_go none _ 207 30 _ [.int (Int32.ofNat 0)] _ _ _ _
      refine hs_if1 (c := .eq) (t := 35) (f := 33) (by decide +kernel) (show Int32.ofNat 0 = 0 by decide) ?_
      refine hs_aload (i := 0) (p := 36) (by decide +kernel) rfl ?_
      refine hs_aload (i := 0) (p := 37) (by decide +kernel) rfl ?_
      refine hs_k (x := Int32.ofNat 2) (p := 38) (by decide +kernel) ?_
      refine hm_call hB.1 (mi := 182) (na := 1) (lk := 4) (lm := 3) (by decide +kernel) rfl rfl rfl rfl rfl rfl (rp_reads (rp_B1 hB) (kd := Int32.ofNat 2) hdp (fun F1 b x s q W1 hO k l m n f g => hs_cb ?_) (fun F1 b x s q W1 hO k l m n f => hs_cb ?_))
      · have hw : (rp_F F1 x b s q) 1 = .ref aw := (hO.1 1 (by decide) (by decide)).trans hB.2.2.1
        have hai : (rp_F F1 x b s q) 18 = .ref ai := (hO.1 18 (by decide) (by decide)).trans hi
        show et_go none _ 207 41 _ [.int (Int32.ofNat 1), .ref am] _ _ _ _
        refine hs_if1 (c := .ne) (t := 48) (f := 44) (by decide +kernel) (show ¬ Int32.ofNat 1 = 0 by decide) ?_
        refine hs_k (x := Int32.ofNat 0) (p := 49) (by decide +kernel) ?_
        refine hs_k (x := Int32.ofNat 2) (p := 50) (by decide +kernel) ?_
        refine hm_call hB.1 (mi := 204) (na := 2) (lk := 4) (lm := 3) (by decide +kernel) rfl rfl rfl rfl rfl rfl (rp_thr0 hB.1 (hs_cb ?_))
        show et_go none _ 207 53 _ [.int (Int32.ofNat 0)] _ _ _ _
        refine hs_if0 (c := .ne) (t := 80) (f := 56) (by decide +kernel) (show ¬ (¬ Int32.ofNat 0 = 0) by decide) ?_
        refine hs_aload (i := 0) (p := 57) (by decide +kernel) rfl ?_
        refine hs_aload (i := 0) (p := 58) (by decide +kernel) rfl ?_
        refine hm_get hB.1 (f := 1) (p := 61) (by decide +kernel) rfl hw ?_
        refine hs_k (x := Int32.ofNat 2) (p := 62) (by decide +kernel) ?_
        refine hm_rwv hB.1 (p := 63) (x := Int32.ofNat r) (by decide +kernel) (by omega) ((f 2 (by omega)).trans hW) ?_
        refine hs_k (x := Int32.ofNat 6) (p := 65) (by decide +kernel) ?_
        refine hs_br2n (c := .ne) (t := 72) (f := 68) (by decide +kernel) (by omega) (by omega) (fun (c65 : ¬ r = 6) => ?_) (fun (c65 : ¬ (¬ r = 6)) => ?_)
        · refine hs_k (x := Int32.ofNat 0) (p := 73) (by decide +kernel) ?_
          refine hs_k (x := Int32.ofNat 3) (p := 74) (by decide +kernel) ?_
          refine hm_call hB.1 (mi := 204) (na := 2) (lk := 4) (lm := 3) (by decide +kernel) rfl rfl rfl rfl rfl rfl (rp_thr0 hB.1 (hs_cb ?_))
          show et_go none _ 207 77 _ [.int (Int32.ofNat 0)] _ _ _ _
          refine hs_if1 (c := .eq) (t := 82) (f := 80) (by decide +kernel) (show Int32.ofNat 0 = 0 by decide) ?_
          refine hs_aload (i := 0) (p := 83) (by decide +kernel) rfl ?_
          refine hm_get hB.1 (f := 1) (p := 86) (by decide +kernel) rfl hw ?_
          refine hs_k (x := Int32.ofNat 2) (p := 87) (by decide +kernel) ?_
          refine hm_rwv hB.1 (p := 88) (x := Int32.ofNat r) (by decide +kernel) (by omega) ((f 2 (by omega)).trans hW) ?_
          refine hs_istore (i := 3) (p := 89) (by decide +kernel) (Nat.le_of_ble_eq_true rfl) ?_
          refine hs_aload (i := 0) (p := 90) (by decide +kernel) rfl ?_
          refine hs_k (x := Int32.ofNat 8) (p := 92) (by decide +kernel) ?_
          refine hs_iload (i := 3) (p := 93) (by decide +kernel) rfl ?_
          refine hs_iaddn (p := 94) (by decide +kernel) ?_
          refine hm_call hB.1 (mi := 205) (na := 1) (lk := 4) (lm := 3) (by decide +kernel) rfl rfl rfl rfl rfl rfl (rp_keeps hB.1 hw (t := (8 + r)) (by omega) (fun V g1 g2 => hs_cb ?_))
          show et_go none _ 207 97 _ [] _ _ _ _
          refine hs_aload (i := 0) (p := 98) (by decide +kernel) rfl ?_
          refine hm_get hB.1 (f := 1) (p := 101) (by decide +kernel) rfl hw ?_
          refine hs_k (x := Int32.ofNat 114) (p := 103) (by decide +kernel) ?_
          refine hs_k (x := Int32.ofNat 2) (p := 104) (by decide +kernel) ?_
          refine hs_iload (i := 3) (p := 105) (by decide +kernel) rfl ?_
          refine hs_imuln (p := 106) (by decide +kernel) ?_
          refine hs_iaddn (p := 107) (by decide +kernel) ?_
          refine hs_iload (i := 1) (p := 108) (by decide +kernel) rfl ?_
          refine hm_ww hB.1 (p := 109) (by decide +kernel) (by omega) ?_
          refine hs_aload (i := 0) (p := 110) (by decide +kernel) rfl ?_
          refine hm_get hB.1 (f := 1) (p := 113) (by decide +kernel) rfl hw ?_
          refine hs_k (x := Int32.ofNat 114) (p := 115) (by decide +kernel) ?_
          refine hs_k (x := Int32.ofNat 2) (p := 116) (by decide +kernel) ?_
          refine hs_iload (i := 3) (p := 117) (by decide +kernel) rfl ?_
          refine hs_imuln (p := 118) (by decide +kernel) ?_
          refine hs_iaddn (p := 119) (by decide +kernel) ?_
          refine hs_k (x := Int32.ofNat 1) (p := 120) (by decide +kernel) ?_
          refine hs_iaddn (p := 121) (by decide +kernel) ?_
          refine hs_iload (i := 2) (p := 122) (by decide +kernel) rfl ?_
          refine hm_ww hB.1 (p := 123) (by decide +kernel) (by omega) ?_
          refine hs_aload (i := 0) (p := 124) (by decide +kernel) rfl ?_
          refine hm_get hB.1 (f := 1) (p := 127) (by decide +kernel) rfl hw ?_
          refine hs_k (x := Int32.ofNat 2) (p := 128) (by decide +kernel) ?_
          refine hs_dup2 (p := 129) (by decide +kernel) ?_
          refine hm_rwv hB.1 (p := 130) (x := Int32.ofNat r) (by decide +kernel) (by omega) ((hs_un (by omega)).trans ((hs_un (by omega)).trans ((g2 2 (.inl (by omega))).trans ((f 2 (by omega)).trans hW)))) ?_
          refine hs_k (x := Int32.ofNat 1) (p := 131) (by decide +kernel) ?_
          refine hs_iaddn (p := 132) (by decide +kernel) ?_
          refine hm_ww hB.1 (p := 133) (by decide +kernel) (by omega) ?_
          refine hs_iload (i := 3) (p := 134) (by decide +kernel) rfl ?_
          refine hs_iret (by decide +kernel) ?_
          refine h _ _ _ _ (rp_Qi hB.2.2.2.2.2 hO (by omega) (by omega) (by omega) n) (.inl rfl) (fun i h1 h2 => (hs_un h2).trans ((hs_un (by omega)).trans ((hs_un (by omega)).trans ((g2 i (.inl (by omega))).trans (f i (by omega)))))) ⟨r + 1, by omega, hs_us⟩ (fun c h1 => ?_) (fun hG => ?_)
          · by_cases e : c = r
            · subst e
              exact ⟨.inr ⟨n7, by omega, (hs_un (by omega)).trans ((hs_un (by omega)).trans (hs_us.trans e7))⟩, .inr ⟨n15, by omega, (hs_un (by omega)).trans (hs_us.trans e15)⟩⟩
            · exact ⟨.inl ((hs_un (by omega)).trans ((hs_un (by omega)).trans ((hs_un (by omega)).trans ((g2 _ (.inl (by omega))).trans (f _ (by omega)))))), .inl ((hs_un (by omega)).trans ((hs_un (by omega)).trans ((hs_un (by omega)).trans ((g2 _ (.inl (by omega))).trans (f _ (by omega))))))⟩
          · have h9 := gq_keep (t := 8 + r) (by omega) g (by omega) (fun e => absurd e (by decide)) g1 g2 (hG.X f)
            exact h9.lo (fun i h1 h2 => (hs_un (by omega)).trans ((hs_un (by omega)).trans (hs_un (by omega))))
        · refine hs_k (x := Int32.ofNat 1) (p := 69) (by decide +kernel) ?_
          refine hs_goto (p := 73) (by decide +kernel) ?_
          refine hs_k (x := Int32.ofNat 3) (p := 74) (by decide +kernel) ?_
          refine hm_call hB.1 (mi := 204) (na := 2) (lk := 4) (lm := 3) (by decide +kernel) rfl rfl rfl rfl rfl rfl (rp_thr1 hB.1 (hs_cb ?_))
          show et_go none _ 207 77 _ [.int (Int32.ofNat 1)] _ _ _ _
          refine hs_if0 (c := .eq) (t := 82) (f := 80) (by decide +kernel) (show ¬ (Int32.ofNat 1 = 0) by decide) ?_
          refine hs_k (x := Int32.ofNat 0) (p := 81) (by decide +kernel) ?_
          refine hs_iret (by decide +kernel) ?_
          exact h _ _ _ _ (rp_Q0 (rp_Qi hB.2.2.2.2.2 hO (by omega) (by omega) (by omega) n)) (.inl rfl) (fun i h1 h2 => f i (by omega)) ⟨r, hr, (f 2 (by omega)).trans hW⟩ (fun c h1 => ⟨.inl (f _ (by omega)), .inl (f _ (by omega))⟩) (fun hG => hG.X f)
      · have hw : (rp_F F1 x b s q) 1 = .ref aw := (hO.1 1 (by decide) (by decide)).trans hB.2.2.1
        have hai : (rp_F F1 x b s q) 18 = .ref ai := (hO.1 18 (by decide) (by decide)).trans hi
        show et_go none _ 207 41 _ [.int (Int32.ofNat 0), .ref am] _ _ _ _
        refine hs_if0 (c := .ne) (t := 48) (f := 44) (by decide +kernel) (show ¬ (¬ Int32.ofNat 0 = 0) by decide) ?_
        refine hs_k (x := Int32.ofNat 1) (p := 45) (by decide +kernel) ?_
        refine hs_goto (p := 49) (by decide +kernel) ?_
        refine hs_k (x := Int32.ofNat 2) (p := 50) (by decide +kernel) ?_
        refine hm_call hB.1 (mi := 204) (na := 2) (lk := 4) (lm := 3) (by decide +kernel) rfl rfl rfl rfl rfl rfl (rp_thr1 hB.1 (hs_cb ?_))
        show et_go none _ 207 53 _ [.int (Int32.ofNat 1)] _ _ _ _
        refine hs_if1 (c := .ne) (t := 80) (f := 56) (by decide +kernel) (show ¬ Int32.ofNat 1 = 0 by decide) ?_
        refine hs_k (x := Int32.ofNat 0) (p := 81) (by decide +kernel) ?_
        refine hs_iret (by decide +kernel) ?_
        exact h _ _ _ _ (rp_Q0 (rp_Qi hB.2.2.2.2.2 hO (by omega) (by omega) (by omega) n)) (.inl rfl) (fun i h1 h2 => f i (by omega)) ⟨r, hr, (f 2 (by omega)).trans hW⟩ (fun c h1 => ⟨.inl (f _ (by omega)), .inl (f _ (by omega))⟩) (fun hG => hG.X f)
    · show et_go none _ 207 18 _ [.int (Int32.ofNat 1), .ref am] _ _ _ _
      refine hs_if0 (c := .eq) (t := 25) (f := 21) (by decide +kernel) (show ¬ (Int32.ofNat 1 = 0) by decide) ?_
      refine hs_k (x := Int32.ofNat 1) (p := 22) (by decide +kernel) ?_
      refine hs_goto (p := 26) (by decide +kernel) ?_
      refine hs_k (x := Int32.ofNat 1) (p := 27) (by decide +kernel) ?_
      refine hm_call hB.1 (mi := 204) (na := 2) (lk := 4) (lm := 3) (by decide +kernel) rfl rfl rfl rfl rfl rfl (rp_thr1 hB.1 (hs_cb ?_))
      show et_go none _ 207 30 _ [.int (Int32.ofNat 1)] _ _ _ _
      refine hs_if0 (c := .eq) (t := 35) (f := 33) (by decide +kernel) (show ¬ (Int32.ofNat 1 = 0) by decide) ?_
      refine hs_k (x := Int32.ofNat 0) (p := 34) (by decide +kernel) ?_
      refine hs_iret (by decide +kernel) ?_
      exact h _ _ _ _ (rp_Q0 (rp_Qi hB.2.2.2.2.2 rp_Or hbg (by omega) (by omega) hdp)) (.inl rfl) (fun i h1 h2 => rfl) ⟨r, hr, hW⟩ (fun c h1 => ⟨.inl rfl, .inl rfl⟩) (fun hG => hG)
  · show et_go none _ 207 10 _ [.int (Int32.ofNat 1), .ref am] _ _ _ _
    refine hs_if1 (c := .ne) (t := 21) (f := 13) (by decide +kernel) (show ¬ Int32.ofNat 1 = 0 by decide) ?_
    refine hs_k (x := Int32.ofNat 1) (p := 22) (by decide +kernel) ?_
    refine hs_goto (p := 26) (by decide +kernel) ?_
    refine hs_k (x := Int32.ofNat 1) (p := 27) (by decide +kernel) ?_
    refine hm_call hB.1 (mi := 204) (na := 2) (lk := 4) (lm := 3) (by decide +kernel) rfl rfl rfl rfl rfl rfl (rp_thr1 hB.1 (hs_cb ?_))
    show et_go none _ 207 30 _ [.int (Int32.ofNat 1)] _ _ _ _
    refine hs_if0 (c := .eq) (t := 35) (f := 33) (by decide +kernel) (show ¬ (Int32.ofNat 1 = 0) by decide) ?_
    refine hs_k (x := Int32.ofNat 0) (p := 34) (by decide +kernel) ?_
    refine hs_iret (by decide +kernel) ?_
    exact h _ _ _ _ (rp_Q0 (rp_Qi hB.2.2.2.2.2 rp_Or hbg (by omega) (by omega) hdp)) (.inl rfl) (fun i h1 h2 => rfl) ⟨r, hr, hW⟩ (fun c h1 => ⟨.inl rfl, .inl rfl⟩) (fun hG => hG)
theorem hm_same {G : eg_G} {a : Nat} {c : eg_C} (h : eg_at G a = c) (ha : eg_NC ≤ a) : eg_u G a c = G := by
  unfold eg_u
  refine Prod.ext ?_ rfl
  funext j
  by_cases e : j = a
  · subst e
    show (if j = j then c else G.1 j) = G.1 j
    rw [if_pos rfl, ← h]
    exact if_neg (by omega)
  · show (if j = a then c else G.1 j) = G.1 j
    rw [if_neg e]
theorem rp_imageL (hA : hm_ok G am aw) (hw : F 1 = .ref aw) (hi : F 2 = .ref ia) {I : Nat → Int32} (i1 : ia ≠ am) (i2 : ia ≠ aw) (i3 : eg_NC ≤ ia ∧ ia < G.2) (i4 : eg_at G ia = .inl (0, (11900, .inl I))) {k : Nat} (hk : k ≤ 11900) (h : ∀ I' : Nat → Int32, (∀ i, k ≤ i → i < 11900 → I' i = W i) → (∀ i, i < k → I' i = I i) → Z (.inl none, hm_H (eg_u G ia (.inl (0, (11900, .inl I')))) am aw (updV F 3 (.int (Int32.ofNat 1))) W, 0, 0)) (hu : eg_u G ia (.inl (0, (11900, .inl I))) = G) : et_go none d 175 7 [some (.ref am), some (.int (Int32.ofNat k))] [] (hm_H G am aw F W) 0 0 Z := by
  induction hm : 11900 - k using Nat.strongRecOn generalizing k G I with
  | _ n ih =>
    refine hs_iload (i := 1) (p := 8) (by decide +kernel) rfl ?_
    refine hs_k (x := Int32.ofNat 11900) (p := 11) (by decide +kernel) ?_
    refine hs_br2n (c := .ge) (t := 32) (f := 14) (by decide +kernel) (by omega) (by omega) (fun (c11 : 11900 ≤ k) => ?_) (fun (c11 : ¬ (11900 ≤ k)) => ?_)
    · refine hs_aload (i := 0) (p := 33) (by decide +kernel) rfl ?_
      refine hs_k (x := Int32.ofNat 1) (p := 34) (by decide +kernel) ?_
      refine hm_put hA (f := 3) (ty := .boolean) (p := 37) (by decide +kernel) rfl (by decide +kernel) rfl ?_
      refine hs_vret (by decide +kernel) ?_
      have h9 := h I (fun i h1 h2 => by omega) (fun _ _ => rfl)
      rw [hu] at h9
      exact h9
    · refine hs_aload (i := 0) (p := 15) (by decide +kernel) rfl ?_
      refine hm_get hA (f := 2) (p := 18) (by decide +kernel) rfl hi ?_
      refine hs_iload (i := 1) (p := 19) (by decide +kernel) rfl ?_
      refine hs_aload (i := 0) (p := 20) (by decide +kernel) rfl ?_
      refine hm_get hA (f := 1) (p := 23) (by decide +kernel) rfl hw ?_
      refine hs_iload (i := 1) (p := 24) (by decide +kernel) rfl ?_
      refine hm_rw hA (p := 25) (by decide +kernel) (by omega) ?_
      refine hm_iast (p := 26) (by decide +kernel) i1 i2 i4 i3 (by decide) (by omega) ?_
      refine hs_iinc1 (i := 1) (p := 29) (by decide +kernel) rfl (Nat.le_of_ble_eq_true rfl) ?_
      refine hs_goto (p := 7) (by decide +kernel) ?_
      refine ih (11900 - (k + 1)) (by omega) (G := eg_u G ia (.inl (0, (11900, .inl (upd I k (W k)))))) (I := upd I k (W k)) hA i3 (et_at_us i3.1) (by omega) (fun I' h1 h2 => ?_) hm_uu rfl
      rw [hm_uu]
      refine h I' (fun i h3 h4 => ?_) (fun i h3 => (h2 i (by omega)).trans (hs_un (by omega)))
      by_cases e : i = k
      · subst e
        exact (h2 i (by omega)).trans hs_us
      · exact h1 i (by omega) h4
theorem rp_image (hA : hm_ok G am aw) (hw : F 1 = .ref aw) (hi : F 2 = .ref ia) {I : Nat → Int32} (i1 : ia ≠ am) (i2 : ia ≠ aw) (i3 : eg_NC ≤ ia ∧ ia < G.2) (i4 : eg_at G ia = .inl (0, (11900, .inl I))) (h : ∀ I' : Nat → Int32, (∀ i, i < 11900 → I' i = W i) → Z (.inl none, hm_H (eg_u G ia (.inl (0, (11900, .inl I')))) am aw (updV (updV F 0 (.int (Int32.ofNat 0))) 3 (.int (Int32.ofNat 1))) W, 0, 0)) : et_go none d 175 0 [some (.ref am), none] [] (hm_H G am aw F W) 0 0 Z := by
  refine hs_aload (i := 0) (p := 1) (by decide +kernel) rfl ?_
  refine hs_k (x := Int32.ofNat 0) (p := 2) (by decide +kernel) ?_
  refine hm_put hA (f := 0) (ty := .int) (p := 5) (by decide +kernel) rfl rfl rfl ?_
  refine hs_k (x := Int32.ofNat 0) (p := 6) (by decide +kernel) ?_
  refine hs_istore (i := 1) (p := 7) (by decide +kernel) (Nat.le_of_ble_eq_true rfl) ?_
  exact rp_imageL (F := updV F 0 (.int (Int32.ofNat 0))) (Z := Z) hA hw hi i1 i2 i3 i4 (k := 0) (by omega) (fun I' h1 h2 => h I' (fun i hi => h1 i (Nat.zero_le _) hi)) (hm_same i4 i3.1)
theorem rp_backK (hA : hm_ok G am aw) (hai : F 18 = .ref ai) {K : Nat → Int32} (j1 : ai ≠ am) (j2 : ai ≠ aw) (j3 : eg_NC ≤ ai ∧ ai < G.2) (j4 : eg_at G ai = .inl (3, (4, .inl K))) {k : Nat} (hk : k ≤ 4) (h : ∀ K' : Nat → Int32, (∀ i, K' i = K i ∨ K' i = 0) → Z (.inl (some (.int (Int32.ofNat 1))), hm_H (eg_u G ai (.inl (3, (4, .inl K')))) am aw F W, 0, 0)) (hu : eg_u G ai (.inl (3, (4, .inl K))) = G) : et_go none d 176 43 [some (.ref am), some (.int (Int32.ofNat k))] [] (hm_H G am aw F W) 0 0 Z := by
  induction hm : 4 - k using Nat.strongRecOn generalizing k G K with
  | _ n ih =>
    refine hs_iload (i := 1) (p := 44) (by decide +kernel) rfl ?_
    refine hs_k (x := Int32.ofNat 4) (p := 45) (by decide +kernel) ?_
    refine hs_br2n (c := .ge) (t := 61) (f := 48) (by decide +kernel) (by omega) (by omega) (fun (c45 : 4 ≤ k) => ?_) (fun (c45 : ¬ (4 ≤ k)) => ?_)
    · refine hs_k (x := Int32.ofNat 1) (p := 62) (by decide +kernel) ?_
      refine hs_zret (by decide +kernel) (.inr rfl) ?_
      have h9 := h K (fun _ => .inl rfl)
      rw [hu] at h9
      exact h9
    · refine hs_aload (i := 0) (p := 49) (by decide +kernel) rfl ?_
      refine hm_get hA (f := 18) (p := 52) (by decide +kernel) rfl hai ?_
      refine hs_iload (i := 1) (p := 53) (by decide +kernel) rfl ?_
      refine hs_k (x := Int32.ofNat 0) (p := 54) (by decide +kernel) ?_
      refine hm_bast (p := 55) (by decide +kernel) j1 j2 j4 j3 (by omega) ?_
      refine hs_iinc1 (i := 1) (p := 58) (by decide +kernel) rfl (Nat.le_of_ble_eq_true rfl) ?_
      refine hs_goto (p := 43) (by decide +kernel) ?_
      refine ih (4 - (k + 1)) (by omega) (G := eg_u G ai (.inl (3, (4, .inl (upd K k 0))))) (K := upd K k 0) hA j3 (et_at_us j3.1) (by omega) (fun K' h1 => ?_) hm_uu rfl
      rw [hm_uu]
      refine h K' (fun i => ?_)
      rcases h1 i with h1 | h1
      · by_cases e : i = k
        · subst e
          exact .inr (h1.trans hs_us)
        · exact .inl (h1.trans (hs_un e))
      · exact .inr h1
theorem rp_backL (hA : hm_ok G am aw) (hw : F 1 = .ref aw) (hi : F 2 = .ref ia) {I : Nat → Int32} (i1 : ia ≠ am) (i2 : ia ≠ aw) (i3 : eg_NC ≤ ia ∧ ia < G.2) (i4 : eg_at G ia = .inl (0, (11900, .inl I))) (hai : F 18 = .ref ai) {K : Nat → Int32} (j1 : ai ≠ am) (j2 : ai ≠ aw) (j3 : eg_NC ≤ ai ∧ ai < G.2) (j4 : eg_at G ai = .inl (3, (4, .inl K))) {k : Nat} (hk : k ≤ 11900) (h : ∀ (V K' : Nat → Int32), (∀ i, k ≤ i → i < 11900 → V i = I i) → (∀ i, (i < k ∨ 11900 ≤ i) → V i = W i) → (∀ i, K' i = K i ∨ K' i = 0) → Z (.inl (some (.int (Int32.ofNat 1))), hm_H (eg_u G ai (.inl (3, (4, .inl K')))) am aw F V, 0, 0)) : et_go none d 176 16 [some (.ref am), some (.int (Int32.ofNat k))] [] (hm_H G am aw F W) 0 0 Z := by
  induction hm : 11900 - k using Nat.strongRecOn generalizing k W with
  | _ n ih =>
    refine hs_iload (i := 1) (p := 17) (by decide +kernel) rfl ?_
    refine hs_k (x := Int32.ofNat 11900) (p := 20) (by decide +kernel) ?_
    refine hs_br2n (c := .ge) (t := 41) (f := 23) (by decide +kernel) (by omega) (by omega) (fun (c20 : 11900 ≤ k) => ?_) (fun (c20 : ¬ (11900 ≤ k)) => ?_)
    · refine hs_k (x := Int32.ofNat 0) (p := 42) (by decide +kernel) ?_
      refine hs_istore (i := 1) (p := 43) (by decide +kernel) (Nat.le_of_ble_eq_true rfl) ?_
      exact rp_backK hA hai j1 j2 j3 j4 (k := 0) (by omega) (fun K' h1 => h W K' (fun i h1 h2 => by omega) (fun _ _ => rfl) h1) (hm_same j4 j3.1)
    · refine hs_aload (i := 0) (p := 24) (by decide +kernel) rfl ?_
      refine hm_get hA (f := 1) (p := 27) (by decide +kernel) rfl hw ?_
      refine hs_iload (i := 1) (p := 28) (by decide +kernel) rfl ?_
      refine hs_aload (i := 0) (p := 29) (by decide +kernel) rfl ?_
      refine hm_get hA (f := 2) (p := 32) (by decide +kernel) rfl hi ?_
      refine hs_iload (i := 1) (p := 33) (by decide +kernel) rfl ?_
      refine hs_iald (p := 34) (by decide +kernel) ((hm_o i1 i2).trans i4) i3.2 (by decide) (by omega) ?_
      refine hm_ww hA (p := 35) (by decide +kernel) (by omega) ?_
      refine hs_iinc1 (i := 1) (p := 38) (by decide +kernel) rfl (Nat.le_of_ble_eq_true rfl) ?_
      refine hs_goto (p := 16) (by decide +kernel) ?_
      refine ih (11900 - (k + 1)) (by omega) (by omega) (fun V K' h1 h2 h3 => h V K' (fun i h4 h5 => ?_) (fun i h4 => (h2 i (by omega)).trans (hs_un (by omega))) h3) rfl
      by_cases e : i = k
      · subst e
        exact (h2 i (by omega)).trans hs_us
      · exact h1 i (by omega) h5
theorem rp_back (hA : hm_ok G am aw) (hw : F 1 = .ref aw) (hi : F 2 = .ref ia) {hm : Int32} (hh : F 3 = .int hm) {I : Nat → Int32} (i1 : ia ≠ am) (i2 : ia ≠ aw) (i3 : eg_NC ≤ ia ∧ ia < G.2) (i4 : eg_at G ia = .inl (0, (11900, .inl I))) (hai : F 18 = .ref ai) {K : Nat → Int32} (j1 : ai ≠ am) (j2 : ai ≠ aw) (j3 : eg_NC ≤ ai ∧ ai < G.2) (j4 : eg_at G ai = .inl (3, (4, .inl K))) (h0 : hm = 0 → Z (.inl (some (.int (Int32.ofNat 0))), hm_H G am aw (updV F 0 (.int (Int32.ofNat 0))) W, 0, 0)) (h : hm ≠ 0 → ∀ (V K' : Nat → Int32), (∀ i, i < 11900 → V i = I i) → (∀ i, 11900 ≤ i → V i = W i) → (∀ i, K' i = K i ∨ K' i = 0) → Z (.inl (some (.int (Int32.ofNat 1))), hm_H (eg_u G ai (.inl (3, (4, .inl K')))) am aw (updV F 0 (.int (Int32.ofNat 0))) V, 0, 0)) : et_go none d 176 0 [some (.ref am), none] [] (hm_H G am aw F W) 0 0 Z := by
  refine hs_aload (i := 0) (p := 1) (by decide +kernel) rfl ?_
  refine hs_k (x := Int32.ofNat 0) (p := 2) (by decide +kernel) ?_
  refine hm_put hA (f := 0) (ty := .int) (p := 5) (by decide +kernel) rfl rfl rfl ?_
  refine hs_aload (i := 0) (p := 6) (by decide +kernel) rfl ?_
  refine hm_get hA (f := 3) (p := 9) (by decide +kernel) rfl hh ?_
  refine hs_br1 (c := .ne) (t := 14) (f := 12) (by decide +kernel) (fun (c9 : ¬ hm = 0) => ?_) (fun (c9 : ¬ (¬ hm = 0)) => ?_)
  · refine hs_k (x := Int32.ofNat 0) (p := 15) (by decide +kernel) ?_
    refine hs_istore (i := 1) (p := 16) (by decide +kernel) (Nat.le_of_ble_eq_true rfl) ?_
    exact rp_backL (F := updV F 0 (.int (Int32.ofNat 0))) (Z := Z) hA hw hi i1 i2 i3 i4 hai j1 j2 j3 j4 (k := 0) (by omega) (fun V K' h1 h2 h3 => h c9 V K' (fun i hi => h1 i (Nat.zero_le _) hi) (fun i hi => h2 i (.inr hi)) h3)
  · refine hs_k (x := Int32.ofNat 0) (p := 13) (by decide +kernel) ?_
    refine hs_zret (by decide +kernel) (.inl rfl) ?_
    exact h0 (Classical.not_not.mp c9)
end RPI
end
