/-! BY HAND: the reference's RULES, TURNERS, CLAIMS -/
theorem gq_keep {W V : Nat → Int32} {t s : Nat} {k : Prop} (ht : t < 14) (hd : gq_D W s k) (hs : s ≤ 400) (hk : k → 4 ≤ t ∧ t < 8) (h1 : ∀ i, i < 841 → V (126 + 841 * t + i) = W (11900 + i)) (h2 : ∀ i, (i < 126 + 841 * t ∨ 126 + 841 * t + 841 ≤ i) → V i = W i) (hG : gq_G W) : gq_G V := by
  intro u hu
  by_cases e : u = t
  · subst e
    obtain ⟨l, a1, a2, a3, a4⟩ := hd
    refine ⟨l, (h1 0 (by omega)).trans a1, a2, fun n hn => ?_⟩
    have hnl : n < l := by
      rcases hn with hn | ⟨hn, hn2⟩
      · exact hn
      · rcases a3 with a3 | a3
        · exact absurd (hk a3) hn2
        · omega
    exact ((a4 n hnl).mv (by omega) hs h1).mono hs
  · exact (hG u hu).same (fun i hi1 hi2 => h2 i (by omega))
theorem gq_G.X {W V : Nat → Int32} (h : gq_G W) (hX : gq_X W V) : gq_G V := fun t ht => (h t ht).same (fun i _ h2 => hX i (by omega))
theorem hs_bast {d k pc ck sk : Nat} {L : eg_Ls} {r : List Value} {G : eg_G} {Z : eg_O → Prop} {a N p n : Nat} {f : Nat → Int32} (hc : hs_o k pc = some (.bastore, p)) (hg : eg_at G a = .inl (3, (N, .inl f))) (ha : eg_NC ≤ a ∧ a < G.2) (hN : N < 2147483648) (hn : n < N) (h : et_go none d k p L r (eg_u G a (.inl (3, (N, .inl (upd f n 0))))) ck sk Z) : et_go none d k pc L (.int (Int32.ofNat 0) :: .int (Int32.ofNat n) :: .ref a :: r) G ck sk Z := by
  obtain ⟨e, rfl⟩ := hs_oc hc
  refine hs_st e rfl ?_ h
  show eg_aw .bastore pc L (.int (Int32.ofNat 0) :: .int (Int32.ofNat n) :: .ref a :: r) G ck sk = _
  unfold eg_aw
  dsimp only
  rw [hg]
  dsimp only
  have h1 := hs_nint (a := n) (by omega)
  rw [if_pos ⟨ha.1, ha.2, rfl, by omega, by omega⟩, hs_nnat (by omega)]
  unfold eg_wr
  dsimp only
  rw [show vp_nar .boolean (Int32.ofNat 0) = 0 from by decide +kernel]
  rfl
/-- what the texts' calls leave of the object -/
def rp_Q (F0 F' : Nat → Value) : Prop := (∀ j, (13 < j ∨ j = 1 ∨ j = 2 ∨ j = 3 ∨ j = 4 ∨ j = 11) → F' j = F0 j) ∧ F' 5 = .int (Int32.ofNat 0) ∧ (∃ a b c e q : Nat, (a ≤ 400 ∧ b ≤ 400 ∧ c ≤ 400 ∧ e ≤ 400 ∧ q ≤ 6) ∧ F' 6 = .int (Int32.ofNat a) ∧ F' 8 = .int (Int32.ofNat b) ∧ F' 12 = .int (Int32.ofNat c) ∧ F' 7 = .int (Int32.ofNat e) ∧ F' 9 = .int (Int32.ofNat q)) ∧ ∃ x y z, F' 0 = .int x ∧ F' 10 = .int y ∧ F' 13 = .int z
def rp_1 (F0 : Nat → Value) (tp : Nat) : Nat → Value := updV (updV (updV F0 0 (.int (Int32.ofNat 0))) 7 (.int (Int32.ofNat tp))) 5 (.int (Int32.ofNat 0))
def rp_K (G : eg_G) (ai : Nat) (G' : eg_G) : Prop := G' = G ∨ ∃ n, n < 4 ∧ ∃ K, eg_at G ai = .inl (3, (4, .inl K)) ∧ G' = eg_u G ai (.inl (3, (4, .inl (upd K n 0))))
section RPH
variable {d am aw ta en tp pt bg st dp : Nat} {G : eg_G} {F0 F : Nat → Value} {TP W : Nat → Int32} {Z : eg_O → Prop}
def rp_B (G : eg_G) (am aw ta : Nat) (F0 : Nat → Value) (tp : Nat) (TP : Nat → Int32) : Prop := hm_ok G am aw ∧ (ta < G.2 ∧ ta ≠ am ∧ ta ≠ aw ∧ eg_at G ta = .inl (1, (400, .inl TP))) ∧ F0 1 = .ref aw ∧ F0 4 = .ref ta ∧ F0 5 = .int (Int32.ofNat tp) ∧ tp ≤ 400
theorem rp_B1 (h : rp_B G am aw ta F0 tp TP) : rp_E G am aw ta (rp_1 F0 tp) tp TP := ⟨h.1, h.2.1, h.2.2.1, h.2.2.2.1, rfl, h.2.2.2.2.2⟩
theorem rp_Qi {F' : Nat → Value} {x b s q : Nat} (htp : tp ≤ 400) (hO : rp_O (rp_1 F0 tp) F') (hb : b ≤ 400) (hx : x ≤ 400) (hs : s ≤ 400) (hq : q ≤ 6) : rp_Q F0 (rp_F F' x b s q) := by
  obtain ⟨h1, ⟨z, hz⟩, y, hy⟩ := hO
  refine ⟨fun j hj => ?_, ?_, ⟨x, b, s, tp, q, ⟨by omega, by omega, by omega, by omega, hq⟩, rfl, rfl, rfl, ?_, rfl⟩, ⟨Int32.ofNat 0, y, z, ?_, ?_, ?_⟩⟩
  · show (if j = 6 then _ else if j = 8 then _ else if j = 12 then _ else if j = 9 then _ else F' j) = _
    rw [if_neg (by omega), if_neg (by omega), if_neg (by omega), if_neg (by omega), h1 j (by omega) (by omega)]
    unfold rp_1 updV
    rw [if_neg (by omega), if_neg (by omega), if_neg (by omega)]
  · exact h1 5 (by decide) (by decide)
  · exact h1 7 (by decide) (by decide)
  · exact h1 0 (by decide) (by decide)
  · exact hy
  · exact hz
theorem rp_Q0 {F1 : Nat → Value} {x : Int32} (h : rp_Q F0 F1) : rp_Q F0 (updV F1 0 (.int x)) := by
  obtain ⟨h1, h2, ⟨a, b, c, e, q, h3, h4, h5, h6, h7, h8⟩, x0, y, z, h9, h10, h11⟩ := h
  exact ⟨fun j hj => (if_neg (by omega)).trans (h1 j hj), h2, ⟨a, b, c, e, q, h3, h4, h5, h6, h7, h8⟩, x, y, z, rfl, h10, h11⟩
theorem rp_uses (hB : rp_B G am aw ta F0 tp TP) (h : Z (.inl none, (hm_H G am aw (rp_F (rp_1 F0 tp) 0 bg 0 dp) W), 0, 0)) : et_go none d 181 0 [some (.ref am)] [] (hm_H G am aw (rp_F F0 pt bg st dp) W) 0 0 Z := by
  refine hs_aload (i := 0) (p := 1) (by decide +kernel) rfl ?_
  refine hs_k (x := Int32.ofNat 0) (p := 2) (by decide +kernel) ?_
  refine hm_put hB.1 (f := 0) (ty := .int) (p := 5) (by decide +kernel) rfl rfl (rp_pO (by decide) (by decide) (by decide) (by decide)) ?_
  refine hs_aload (i := 0) (p := 6) (by decide +kernel) rfl ?_
  refine hs_aload (i := 0) (p := 7) (by decide +kernel) rfl ?_
  refine hm_get hB.1 (f := 5) (p := 10) (by decide +kernel) rfl hB.2.2.2.2.1 ?_
  refine hm_put hB.1 (f := 7) (ty := .int) (p := 13) (by decide +kernel) rfl rfl (rp_pO (by decide) (by decide) (by decide) (by decide)) ?_
  refine hs_aload (i := 0) (p := 14) (by decide +kernel) rfl ?_
  refine hs_k (x := Int32.ofNat 0) (p := 15) (by decide +kernel) ?_
  refine hm_put hB.1 (f := 5) (ty := .int) (p := 18) (by decide +kernel) rfl rfl (rp_pO (by decide) (by decide) (by decide) (by decide)) ?_
  refine hs_aload (i := 0) (p := 19) (by decide +kernel) rfl ?_
  refine hs_k (x := Int32.ofNat 0) (p := 20) (by decide +kernel) ?_
  refine hm_put hB.1 (f := 6) (ty := .int) (p := 23) (by decide +kernel) rfl rfl rp_p6 ?_
  refine hs_aload (i := 0) (p := 24) (by decide +kernel) rfl ?_
  refine hs_k (x := Int32.ofNat 0) (p := 25) (by decide +kernel) ?_
  refine hm_put hB.1 (f := 12) (ty := .int) (p := 28) (by decide +kernel) rfl rfl rp_p12 ?_
  refine hs_vret (by decide +kernel) ?_
  exact h
theorem rp_thr0 (hA : hm_ok G am aw) {x : Int32} (h : Z (.inl (some (.int (Int32.ofNat 0))), hm_H G am aw F W, 0, 0)) : et_go none d 204 0 [some (.ref am), some (.int (Int32.ofNat 0)), some (.int x)] [] (hm_H G am aw F W) 0 0 Z := by
  refine hs_iload (i := 1) (p := 1) (by decide +kernel) rfl ?_
  refine hs_if1 (c := .eq) (t := 9) (f := 4) (by decide +kernel) (show Int32.ofNat 0 = 0 by decide) ?_
  refine hs_iload (i := 1) (p := 10) (by decide +kernel) rfl ?_
  refine hs_zret (by decide +kernel) (.inl rfl) ?_
  exact h
theorem rp_thr1 (hA : hm_ok G am aw) {x : Int32} (h : Z (.inl (some (.int (Int32.ofNat 1))), hm_H G am aw (updV F 0 (.int x)) W, 0, 0)) : et_go none d 204 0 [some (.ref am), some (.int (Int32.ofNat 1)), some (.int x)] [] (hm_H G am aw F W) 0 0 Z := by
  refine hs_iload (i := 1) (p := 1) (by decide +kernel) rfl ?_
  refine hs_if0 (c := .eq) (t := 9) (f := 4) (by decide +kernel) (show ¬ (Int32.ofNat 1 = 0) by decide) ?_
  refine hs_aload (i := 0) (p := 5) (by decide +kernel) rfl ?_
  refine hs_iload (i := 2) (p := 6) (by decide +kernel) rfl ?_
  refine hm_put hA (f := 0) (ty := .int) (p := 9) (by decide +kernel) rfl rfl rfl ?_
  refine hs_iload (i := 1) (p := 10) (by decide +kernel) rfl ?_
  refine hs_zret (by decide +kernel) (.inr rfl) ?_
  exact h
theorem rp_keepsL (hA : hm_ok G am aw) (hw : F 1 = .ref aw) {t k : Nat} (ht : t < 14) (hk : k ≤ 841) (h : ∀ V : Nat → Int32, (∀ i, k ≤ i → i < 841 → V (126 + 841 * t + i) = W (11900 + i)) → (∀ i, (i < 126 + 841 * t + k ∨ 126 + 841 * t + 841 ≤ i) → V i = W i) → Z (.inl none, hm_H G am aw F V, 0, 0)) : et_go none (d + 1) 205 2 [some (.ref am), some (.int (Int32.ofNat t)), some (.int (Int32.ofNat k))] [] (hm_H G am aw F W) 0 0 Z := by
  induction hm : 841 - k using Nat.strongRecOn generalizing k W with
  | _ n ih =>
    refine hs_iload (i := 2) (p := 3) (by decide +kernel) rfl ?_
    refine hs_k (x := Int32.ofNat 841) (p := 6) (by decide +kernel) ?_
    refine hs_br2n (c := .ge) (t := 38) (f := 9) (by decide +kernel) (by omega) (by omega) (fun (c6 : 841 ≤ k) => ?_) (fun (c6 : ¬ (841 ≤ k)) => ?_)
    · refine hs_vret (by decide +kernel) ?_
      exact h W (fun i h1 h2 => by omega) (fun _ _ => rfl)
    · refine hs_aload (i := 0) (p := 10) (by decide +kernel) rfl ?_
      refine hm_get hA (f := 1) (p := 13) (by decide +kernel) rfl hw ?_
      refine hs_iload (i := 1) (p := 14) (by decide +kernel) rfl ?_
      refine hs_calls (mi := 186) (na := 1) (lk := 3) (lm := 1) (by decide +kernel) rfl rfl rfl rfl rfl rfl rfl (rp_textAt (hs_cb ?_))
      show et_go none _ 205 17 _ [.int (Int32.ofNat (126 + 841 * t)), .ref aw] _ _ _ _
      refine hs_iload (i := 2) (p := 18) (by decide +kernel) rfl ?_
      refine hs_iaddn (p := 19) (by decide +kernel) ?_
      refine hs_aload (i := 0) (p := 20) (by decide +kernel) rfl ?_
      refine hm_get hA (f := 1) (p := 23) (by decide +kernel) rfl hw ?_
      refine hs_k (x := Int32.ofNat 14) (p := 25) (by decide +kernel) ?_
      refine hs_calls (mi := 186) (na := 1) (lk := 3) (lm := 1) (by decide +kernel) rfl rfl rfl rfl rfl rfl rfl (rp_textAt (hs_cb ?_))
      show et_go none _ 205 28 _ [.int (Int32.ofNat (126 + 841 * 14)), .ref aw, .int (Int32.ofNat ((126 + 841 * t) + k)), .ref aw] _ _ _ _
      refine hs_iload (i := 2) (p := 29) (by decide +kernel) rfl ?_
      refine hs_iaddn (p := 30) (by decide +kernel) ?_
      refine hm_rw hA (p := 31) (by decide +kernel) (by omega) ?_
      refine hm_ww hA (p := 32) (by decide +kernel) (by omega) ?_
      refine hs_iinc1 (i := 2) (p := 35) (by decide +kernel) rfl (Nat.le_of_ble_eq_true rfl) ?_
      refine hs_goto (p := 2) (by decide +kernel) ?_
      refine ih (841 - (k + 1)) (by omega) (by omega) (fun V h1 h2 => h V (fun i h3 h4 => ?_) (fun i h3 => ?_)) rfl
      · by_cases e : i = k
        · subst e
          exact (h2 _ (.inl (by omega))).trans (hs_us.trans rfl)
        · exact (h1 i (by omega) h4).trans (hs_un (by omega))
      · exact (h2 i (by omega)).trans (hs_un (by omega))
theorem rp_keeps (hA : hm_ok G am aw) (hw : F 1 = .ref aw) {t : Nat} (ht : t < 14) (h : ∀ V : Nat → Int32, (∀ i, i < 841 → V (126 + 841 * t + i) = W (11900 + i)) → (∀ i, (i < 126 + 841 * t ∨ 126 + 841 * t + 841 ≤ i) → V i = W i) → Z (.inl none, hm_H G am aw F V, 0, 0)) : et_go none (d + 1) 205 0 [some (.ref am), some (.int (Int32.ofNat t)), none] [] (hm_H G am aw F W) 0 0 Z := by
  refine hs_k (x := Int32.ofNat 0) (p := 1) (by decide +kernel) ?_
  refine hs_istore (i := 2) (p := 2) (by decide +kernel) (Nat.le_of_ble_eq_true rfl) ?_
  exact rp_keepsL hA hw ht (Nat.zero_le _) (fun V h1 h2 => h V (fun i hi => h1 i (Nat.zero_le _) hi) (fun i hi => h2 i hi))
theorem rp_in {v lo hi : Int32} (h1 : lo ≤ v → v ≤ hi → Z (.inl (some (.int (Int32.ofNat 1))), G, 0, 0)) (h0 : Z (.inl (some (.int (Int32.ofNat 0))), G, 0, 0)) : et_go none d 209 0 [some (.int v), some (.int lo), some (.int hi)] [] G 0 0 Z := by
  refine hs_iload (i := 0) (p := 1) (by decide +kernel) rfl ?_
  refine hs_iload (i := 1) (p := 2) (by decide +kernel) rfl ?_
  refine hs_br2 (c := .lt) (t := 14) (f := 5) (by decide +kernel) (fun (c2 : v < lo) => ?_) (fun (c2 : ¬ (v < lo)) => ?_)
  · refine hs_k (x := Int32.ofNat 0) (p := 15) (by decide +kernel) ?_
    refine hs_zret (by decide +kernel) (.inl rfl) ?_
    exact h0
  · refine hs_iload (i := 0) (p := 6) (by decide +kernel) rfl ?_
    refine hs_iload (i := 2) (p := 7) (by decide +kernel) rfl ?_
    refine hs_br2 (c := .gt) (t := 14) (f := 10) (by decide +kernel) (fun (c7 : hi < v) => ?_) (fun (c7 : ¬ (hi < v)) => ?_)
    · refine hs_k (x := Int32.ofNat 0) (p := 15) (by decide +kernel) ?_
      refine hs_zret (by decide +kernel) (.inl rfl) ?_
      exact h0
    · refine hs_k (x := Int32.ofNat 1) (p := 11) (by decide +kernel) ?_
      refine hs_goto (p := 15) (by decide +kernel) ?_
      refine hs_zret (by decide +kernel) (.inr rfl) ?_
      exact h1 (Int32.not_lt.mp c2) (Int32.not_lt.mp c7)
theorem rp_lt {v : Int32} {e : Nat} (he : e < 1000) (h1 : Int32.ofNat 0 ≤ v) (h2 : v ≤ Int32.ofNat e - Int32.ofNat 1) : ∃ n, n < e ∧ v = Int32.ofNat n := by
  have h3 : (Int32.ofNat e - Int32.ofNat 1).toInt = (e : Int) - 1 := by
    have : e = 0 ∨ ∃ k, e = k + 1 := by
      rcases e with _ | k
      · exact .inl rfl
      · exact .inr ⟨k, rfl⟩
    rcases this with rfl | ⟨k, rfl⟩
    · decide +kernel
    · rw [hs_nsub (by omega), hs_nint (by omega)]
      omega
  rw [Int32.le_iff_toInt_le] at h1 h2
  rw [hs_nint (by decide)] at h1
  rw [h3] at h2
  refine ⟨v.toInt.toNat, by omega, ?_⟩
  apply Int32.toInt_inj.mp
  rw [hs_nint (by omega)]
  omega
theorem rp_noEye (hA : hm_ok G am aw) (hw : F 1 = .ref aw) {e : Nat} (he : e < 1000) (hW : W 4 = Int32.ofNat e) {v : Int32} (h0 : ∀ n, n < e → v = Int32.ofNat n → Z (.inl (some (.int (Int32.ofNat 0))), hm_H G am aw F W, 0, 0)) (h1 : Z (.inl (some (.int (Int32.ofNat 1))), hm_H G am aw F W, 0, 0)) : et_go none (d + 1) 208 0 [some (.ref am), some (.int v)] [] (hm_H G am aw F W) 0 0 Z := by
  refine hs_iload (i := 1) (p := 1) (by decide +kernel) rfl ?_
  refine hs_k (x := Int32.ofNat 0) (p := 2) (by decide +kernel) ?_
  refine hs_aload (i := 0) (p := 3) (by decide +kernel) rfl ?_
  refine hm_get hA (f := 1) (p := 6) (by decide +kernel) rfl hw ?_
  refine hs_k (x := Int32.ofNat 4) (p := 7) (by decide +kernel) ?_
  refine hm_rwv hA (p := 8) (x := Int32.ofNat e) (by decide +kernel) (by omega) hW ?_
  refine hs_k (x := Int32.ofNat 1) (p := 9) (by decide +kernel) ?_
  refine hs_isub (p := 10) (by decide +kernel) ?_
  refine hs_calls (mi := 209) (na := 3) (lk := 2) (lm := 3) (by decide +kernel) rfl rfl rfl rfl rfl rfl rfl (rp_in (fun a10 b10 => hs_cb ?_) (hs_cb ?_))
  · show et_go none _ 208 13 _ [.int (Int32.ofNat 1)] _ _ _ _
    refine hs_if1 (c := .ne) (t := 20) (f := 16) (by decide +kernel) (show ¬ Int32.ofNat 1 = 0 by decide) ?_
    refine hs_k (x := Int32.ofNat 0) (p := 21) (by decide +kernel) ?_
    refine hs_zret (by decide +kernel) (.inl rfl) ?_
    obtain ⟨n, g1, g2⟩ := rp_lt he a10 b10
    exact h0 n g1 g2
  · show et_go none _ 208 13 _ [.int (Int32.ofNat 0)] _ _ _ _
    refine hs_if0 (c := .ne) (t := 20) (f := 16) (by decide +kernel) (show ¬ (¬ Int32.ofNat 0 = 0) by decide) ?_
    refine hs_k (x := Int32.ofNat 1) (p := 17) (by decide +kernel) ?_
    refine hs_goto (p := 21) (by decide +kernel) ?_
    refine hs_zret (by decide +kernel) (.inr rfl) ?_
    exact h1
theorem rp_noRule (hA : hm_ok G am aw) (hw : F 1 = .ref aw) {e : Nat} (he : e < 1000) (hW : W 0 = Int32.ofNat e) {v : Int32} (h0 : ∀ n, n < e → v = Int32.ofNat n → Z (.inl (some (.int (Int32.ofNat 0))), hm_H G am aw F W, 0, 0)) (h1 : Z (.inl (some (.int (Int32.ofNat 1))), hm_H G am aw F W, 0, 0)) : et_go none (d + 1) 210 0 [some (.ref am), some (.int v)] [] (hm_H G am aw F W) 0 0 Z := by
  refine hs_iload (i := 1) (p := 1) (by decide +kernel) rfl ?_
  refine hs_k (x := Int32.ofNat 0) (p := 2) (by decide +kernel) ?_
  refine hs_aload (i := 0) (p := 3) (by decide +kernel) rfl ?_
  refine hm_get hA (f := 1) (p := 6) (by decide +kernel) rfl hw ?_
  refine hs_k (x := Int32.ofNat 0) (p := 7) (by decide +kernel) ?_
  refine hm_rwv hA (p := 8) (x := Int32.ofNat e) (by decide +kernel) (by omega) hW ?_
  refine hs_k (x := Int32.ofNat 1) (p := 9) (by decide +kernel) ?_
  refine hs_isub (p := 10) (by decide +kernel) ?_
  refine hs_calls (mi := 209) (na := 3) (lk := 2) (lm := 3) (by decide +kernel) rfl rfl rfl rfl rfl rfl rfl (rp_in (fun a10 b10 => hs_cb ?_) (hs_cb ?_))
  · show et_go none _ 210 13 _ [.int (Int32.ofNat 1)] _ _ _ _
    refine hs_if1 (c := .ne) (t := 20) (f := 16) (by decide +kernel) (show ¬ Int32.ofNat 1 = 0 by decide) ?_
    refine hs_k (x := Int32.ofNat 0) (p := 21) (by decide +kernel) ?_
    refine hs_zret (by decide +kernel) (.inl rfl) ?_
    obtain ⟨n, g1, g2⟩ := rp_lt he a10 b10
    exact h0 n g1 g2
  · show et_go none _ 210 13 _ [.int (Int32.ofNat 0)] _ _ _ _
    refine hs_if0 (c := .ne) (t := 20) (f := 16) (by decide +kernel) (show ¬ (¬ Int32.ofNat 0 = 0) by decide) ?_
    refine hs_k (x := Int32.ofNat 1) (p := 17) (by decide +kernel) ?_
    refine hs_goto (p := 21) (by decide +kernel) ?_
    refine hs_zret (by decide +kernel) (.inr rfl) ?_
    exact h1
end RPH
