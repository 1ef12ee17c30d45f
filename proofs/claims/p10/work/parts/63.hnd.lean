/-! BY HAND: texts -/
def hs_gs (k pc : Nat) : Option (Value × Nat) := match eg_cd k pc with
  | some (.getstatic i, _) => (match (eg_sT.getD (eg_mo k) []).lookup i with
    | some (n, _) => (match eg_sv[n]? with
      | some (_, _, _, v) => some (v, pc + 3)
      | none => none)
    | none => none)
  | _ => none
def rs_n (j : Nat) : Nat := (eg_by.getD j []).length
section RSA
variable {d k pc ck sk : Nat} {L : eg_Ls} {st r : List Value} {G : eg_G} {Z : eg_O → Prop}
theorem hs_gst {v : Value} {p : Nat} (hc : hs_gs k pc = some (v, p)) (h : et_go none d k p L (v :: st) G ck sk Z) : et_go none d k pc L st G ck sk Z := by
  unfold hs_gs at hc
  split at hc
  · rename_i i _ e
    split at hc
    · rename_i n x hn
      split at hc
      · rename_i y hv
        cases hc
        exact hs_st e rfl (by
          show (match (eg_sT.getD (eg_mo k) []).lookup i with
            | some (k, _) => (match eg_sv[k]? with
              | some (_, _, _, v) => some (pc + 3, L, v :: st, G, ck, sk)
              | none => none)
            | none => none) = _
          rw [hn]
          dsimp only
          rw [hv]) h
      · cases hc
    · cases hc
  · cases hc
theorem hs_kld {v : Value} {p : Nat} (hc : hs_kl k pc = some (v, p)) (h : et_go none d k p L (v :: st) G ck sk Z) : et_go none d k pc L st G ck sk Z := by
  unfold hs_kl at hc
  split at hc
  · rename_i i _ e
    split at hc
    · rename_i v' hn
      split at hc
      · rename_i h0
        cases hc
        exact hs_st e rfl (by
          show eg_kst (eg_mo k) i 2 0 pc L st G ck sk = _
          unfold eg_kst
          rw [hn]
          dsimp only
          rw [if_pos h0]) h
      · cases hc
    · cases hc
  · rename_i i _ e
    split at hc
    · rename_i v' hn
      split at hc
      · rename_i h0
        cases hc
        exact hs_st e rfl (by
          show eg_kst (eg_mo k) i 3 1 pc L st G ck sk = _
          unfold eg_kst
          rw [hn]
          dsimp only
          rw [if_pos h0]) h
      · cases hc
    · cases hc
  · cases hc
theorem hs_alen {a p t : Nat} {x : vp_A} (hc : hs_o k pc = some (.arraylength, p)) (hg : eg_at G a = .inl (t, x)) (ha : a < G.2) (ht : Nat.ble t 11 = true) (h : et_go none d k p L (.int (Int32.ofNat x.1) :: r) G ck sk Z) : et_go none d k pc L (.ref a :: r) G ck sk Z := by
  obtain ⟨e, rfl⟩ := hs_oc hc
  have ht := Nat.le_of_ble_eq_true ht
  refine hs_st e rfl ?_ h
  show (match eg_at G a with
      | .inl (t, x) => if a < G.2 ∧ t < 12 then some (pc + 1, L, Value.int (Int32.ofNat x.1) :: r, G, ck, sk) else none
      | _ => none) = _
  rw [hg]
  dsimp only
  rw [if_pos ⟨ha, by omega⟩]
theorem hs_pop {p : Nat} {x : Int32} (hc : hs_o k pc = some (.pop, p)) (h : et_go none d k p L r G ck sk Z) : et_go none d k pc L (.int x :: r) G ck sk Z := by
  obtain ⟨e, rfl⟩ := hs_oc hc
  exact hs_st e rfl rfl h
theorem hs_iand {p : Nat} {x y : Int32} (hc : hs_o k pc = some (.iand, p)) (h : et_go none d k p L (.int (x &&& y) :: r) G ck sk Z) : et_go none d k pc L (.int y :: .int x :: r) G ck sk Z := by
  obtain ⟨e, rfl⟩ := hs_oc hc
  exact hs_st e rfl rfl h
theorem hs_ishr {p : Nat} {x y : Int32} (hc : hs_o k pc = some (.ishr, p)) (h : et_go none d k p L (.int (x >>> (y &&& 31)) :: r) G ck sk Z) : et_go none d k pc L (.int y :: .int x :: r) G ck sk Z := by
  obtain ⟨e, rfl⟩ := hs_oc hc
  exact hs_st e rfl rfl h
theorem hs_ishl {p : Nat} {x y : Int32} (hc : hs_o k pc = some (.ishl, p)) (h : et_go none d k p L (.int (x <<< (y &&& 31)) :: r) G ck sk Z) : et_go none d k pc L (.int y :: .int x :: r) G ck sk Z := by
  obtain ⟨e, rfl⟩ := hs_oc hc
  exact hs_st e rfl rfl h
theorem hs_i2c {p : Nat} {x : Int32} (hc : hs_o k pc = some (.i2c, p)) (h : et_go none d k p L (.int (x.toUInt32 % 65536).toInt32 :: r) G ck sk Z) : et_go none d k pc L (.int x :: r) G ck sk Z := by
  obtain ⟨e, rfl⟩ := hs_oc hc
  exact hs_st e rfl rfl h
theorem hs_bcret {x : Int32} {ty : FieldType} (hc : hs_re k pc = some (some ty)) (hx : eg_nr ty x = true) (h : Z (.inl (some (.int x)), G, ck, sk)) : et_go none d k pc L [.int x] G ck sk Z := by
  unfold hs_re at hc
  split at hc
  · rename_i e
    refine et_goR (u := (.inl (some (.int x)), G, ck, sk)) (fun q => ?_) h
    unfold eg_one
    rw [e]
    dsimp only
    rw [show eg_mr k = some ty from Option.some.inj hc]
    have e2 : eg_rr .ireturn (some ty) [.int x] = some (some (.int x)) := by
      cases ty <;> (unfold eg_rr; dsimp only; rw [if_pos hx])
    rw [e2]
  · cases hc
theorem rs_nr0 : eg_nr .byte (Int32.ofNat 0) = true := by decide +kernel
theorem rs_i2c (x : Int32) : eg_nr .char (x.toUInt32 % 65536).toInt32 = true := by
  unfold eg_nr
  refine decide_eq_true ?_
  show Value.int ((x.toUInt32 % 65536).toInt32.toUInt32 % 65536).toInt32 = _
  rw [UInt32.toUInt32_toInt32]
  congr 2
  apply UInt32.toNat_inj.mp
  simp
theorem rs_con {j : Nat} (hj : j < 56) : eg_at G (36 + j) = .inr (13, [.ref (92 + j), .int 0]) := by
  unfold eg_at
  rw [if_pos (show 36 + j < eg_NC from Nat.lt_of_lt_of_le (by omega : 36 + j < 92) (by decide))]
  unfold eg_con
  rw [if_neg (by omega), if_pos (show 36 + j < 36 + eg_NS from by show 36 + j < 36 + 56; omega)]
  show Sum.inr (13, [Value.ref (36 + j + 56), Value.int 0]) = _
  rw [show 36 + j + 56 = 92 + j by omega]
theorem rs_con2 {j : Nat} (hj : j < 56) : ∃ f, eg_at G (92 + j) = .inl (1, (rs_n j, .inl f)) := by
  unfold eg_at
  rw [if_pos (show 92 + j < eg_NC from Nat.lt_of_lt_of_le (by omega : 92 + j < 148) (by decide))]
  unfold eg_con
  rw [if_neg (by omega), if_neg (show ¬ 92 + j < 36 + eg_NS from by show ¬ 92 + j < 36 + 56; omega), if_pos (show 92 + j < 36 + 2 * eg_NS from by show 92 + j < 36 + 2 * 56; omega)]
  rw [show 92 + j - 36 - eg_NS = j from by show 92 + j - 36 - 56 = j; omega]
  exact ⟨_, rfl⟩
theorem rs_nlt {j : Nat} : rs_n j < 100 := by
  unfold rs_n
  rw [List.getD_eq_getElem?_getD]
  cases h : eg_by[j]? with
  | none => decide
  | some l =>
    have h9 : eg_by.all (fun l => decide (l.length < 100)) = true := by decide +kernel
    exact of_decide_eq_true (List.all_eq_true.mp h9 l (List.mem_of_getElem? h))
theorem rs_shr0 {x : Int32} : x >>> (Int32.ofNat 0 &&& 31) = x := by
  rw [show Int32.ofNat 0 &&& 31 = 0 from by decide +kernel]
  exact Int32.shiftRight_zero
theorem rs_coder (hG : 152 ≤ G.2) {j : Nat} (hj : j < 56) (h : Z (.inl (some (.int (Int32.ofNat 0))), G, 0, 0)) : et_go none d 295 0 [some (.ref (36 + j))] [] G 0 0 Z := by
  refine hs_gst (v := Value.int (Int32.ofNat 1)) (p := 3) (by decide +kernel) ?_
  refine hs_if0 (c := .eq) (t := 13) (f := 6) (by decide +kernel) (show ¬ (Int32.ofNat 1 = 0) by decide) ?_
  refine hs_aload (i := 0) (p := 7) (by decide +kernel) rfl ?_
  refine hs_get (ci := 13) (f := 1) (p := 10) (v := .int (Int32.ofNat 0)) (by decide +kernel) (rs_con hj) (by omega) rfl ?_
  refine hs_goto (p := 14) (by decide +kernel) ?_
  refine hs_bcret (ty := .byte) (by decide +kernel) rs_nr0 ?_
  exact h
theorem rs_isL (hG : 152 ≤ G.2) {j : Nat} (hj : j < 56) (h : Z (.inl (some (.int (Int32.ofNat 1))), G, 0, 0)) : et_go none d 297 0 [some (.ref (36 + j))] [] G 0 0 Z := by
  refine hs_gst (v := Value.int (Int32.ofNat 1)) (p := 3) (by decide +kernel) ?_
  refine hs_if0 (c := .eq) (t := 17) (f := 6) (by decide +kernel) (show ¬ (Int32.ofNat 1 = 0) by decide) ?_
  refine hs_aload (i := 0) (p := 7) (by decide +kernel) rfl ?_
  refine hs_get (ci := 13) (f := 1) (p := 10) (v := .int (Int32.ofNat 0)) (by decide +kernel) (rs_con hj) (by omega) rfl ?_
  refine hs_if0 (c := .ne) (t := 17) (f := 13) (by decide +kernel) (show ¬ (¬ Int32.ofNat 0 = 0) by decide) ?_
  refine hs_k (x := Int32.ofNat 1) (p := 14) (by decide +kernel) ?_
  refine hs_goto (p := 18) (by decide +kernel) ?_
  refine hs_zret (by decide +kernel) (.inr rfl) ?_
  exact h
theorem rs_len (hG : 152 ≤ G.2) {j : Nat} (hj : j < 56) (h : Z (.inl (some (.int (Int32.ofNat (rs_n j)))), G, 0, 0)) : et_go none (d + 1) 294 0 [some (.ref (36 + j))] [] G 0 0 Z := by
  obtain ⟨f, hf⟩ := rs_con2 (G := G) hj
  refine hs_aload (i := 0) (p := 1) (by decide +kernel) rfl ?_
  refine hs_get (ci := 13) (f := 0) (p := 4) (by decide +kernel) (rs_con hj) (by omega) rfl ?_
  refine hs_alen (p := 5) (by decide +kernel) hf (by omega) rfl ?_
  refine hs_aload (i := 0) (p := 6) (by decide +kernel) rfl ?_
  refine hs_callv (mi := 295) (na := 0) (ci := 13) (lk := 1) (lm := 1) (by decide +kernel) rfl rfl rfl rfl rfl rfl (by omega) (by rw [rs_con hj]; rfl) (rs_coder hG hj (hs_cb ?_))
  show et_go none _ 294 9 _ [.int (Int32.ofNat 0), .int (Int32.ofNat (rs_n j))] _ _ _ _
  refine hs_ishr (p := 10) (by decide +kernel) ?_
  rw [rs_shr0]
  refine hs_iret (by decide +kernel) ?_
  exact h
theorem rs_nn {a : Nat} (h : a < 2147483648) : ¬ Int32.ofNat a < 0 := by
  rw [show (0 : Int32) = Int32.ofNat 0 from rfl, hs_nlt h (by decide)]
  omega
theorem rs_chk0 {i n b : Nat} (hi : i < n) (hn : n < 1000) (h : Z (.inl (some (.int (Int32.ofNat i))), G, 0, 0)) : et_go none d 314 0 [some (.int (Int32.ofNat i)), some (.int (Int32.ofNat n)), some (.ref b)] [] G 0 0 Z := by
  refine hs_iload (i := 0) (p := 1) (by decide +kernel) rfl ?_
  refine hs_if0 (c := .lt) (t := 9) (f := 4) (by decide +kernel) (rs_nn (by omega)) ?_
  refine hs_iload (i := 0) (p := 5) (by decide +kernel) rfl ?_
  refine hs_iload (i := 1) (p := 6) (by decide +kernel) rfl ?_
  refine hs_br2n (c := .lt) (t := 16) (f := 9) (by decide +kernel) (by omega) (by omega) (fun (c6 : i < n) => ?_) (fun (c6 : ¬ (i < n)) => ?_)
  · refine hs_iload (i := 0) (p := 17) (by decide +kernel) rfl ?_
    refine hs_iret (by decide +kernel) ?_
    exact h
  · exact absurd hi c6
theorem rs_chk {i n : Nat} (hi : i < n) (hn : n < 1000) (h : Z (.inl none, G, 0, 0)) : et_go none (d + 1) 298 0 [some (.int (Int32.ofNat i)), some (.int (Int32.ofNat n))] [] G 0 0 Z := by
  refine hs_iload (i := 0) (p := 1) (by decide +kernel) rfl ?_
  refine hs_iload (i := 1) (p := 2) (by decide +kernel) rfl ?_
  refine hs_gst (v := Value.ref 151) (p := 5) (by decide +kernel) ?_
  refine hs_calls (mi := 314) (na := 3) (lk := 2) (lm := 3) (by decide +kernel) rfl rfl rfl rfl rfl rfl rfl (rs_chk0 hi hn (hs_cb ?_))
  show et_go none _ 298 8 _ [.int (Int32.ofNat i)] _ _ _ _
  refine hs_pop (p := 9) (by decide +kernel) ?_
  refine hs_vret (by decide +kernel) ?_
  exact h
theorem rs_lat (hG : 152 ≤ G.2) {j : Nat} (hj : j < 56) {i : Nat} (hi : i < rs_n j) (h : ∀ x, eg_nr .char x = true → Z (.inl (some (.int x)), G, 0, 0)) : et_go none (d + 2) 299 0 [some (.ref (92 + j)), some (.int (Int32.ofNat i))] [] G 0 0 Z := by
  obtain ⟨f, hf⟩ := rs_con2 (G := G) hj
  have hn : rs_n j < 100 := rs_nlt
  refine hs_iload (i := 1) (p := 1) (by decide +kernel) rfl ?_
  refine hs_aload (i := 0) (p := 2) (by decide +kernel) rfl ?_
  refine hs_alen (p := 3) (by decide +kernel) hf (by omega) rfl ?_
  refine hs_calls (mi := 298) (na := 2) (lk := 2) (lm := 2) (by decide +kernel) rfl rfl rfl rfl rfl rfl rfl (rs_chk hi (by omega) (hs_cb ?_))
  show et_go none _ 299 6 _ [] _ _ _ _
  refine hs_aload (i := 0) (p := 7) (by decide +kernel) rfl ?_
  refine hs_iload (i := 1) (p := 8) (by decide +kernel) rfl ?_
  refine hs_bald (p := 9) (by decide +kernel) hf (by omega) (by omega) hi ?_
  refine hs_k (x := Int32.ofNat 255) (p := 12) (by decide +kernel) ?_
  refine hs_iand (p := 13) (by decide +kernel) ?_
  refine hs_i2c (p := 14) (by decide +kernel) ?_
  refine hs_bcret (ty := .char) (by decide +kernel) (rs_i2c _) ?_
  exact h _ (rs_i2c _)
theorem rs_chr (hG : 152 ≤ G.2) {j : Nat} (hj : j < 56) {i : Nat} (hi : i < rs_n j) (h : ∀ x, Z (.inl (some (.int x)), G, 0, 0)) : et_go none (d + 3) 296 0 [some (.ref (36 + j)), some (.int (Int32.ofNat i))] [] G 0 0 Z := by
  refine hs_aload (i := 0) (p := 1) (by decide +kernel) rfl ?_
  refine hs_callv (mi := 297) (na := 0) (ci := 13) (lk := 2) (lm := 1) (by decide +kernel) rfl rfl rfl rfl rfl rfl (by omega) (by rw [rs_con hj]; rfl) (rs_isL hG hj (hs_cb ?_))
  show et_go none _ 296 4 _ [.int (Int32.ofNat 1)] _ _ _ _
  refine hs_if0 (c := .eq) (t := 16) (f := 7) (by decide +kernel) (show ¬ (Int32.ofNat 1 = 0) by decide) ?_
  refine hs_aload (i := 0) (p := 8) (by decide +kernel) rfl ?_
  refine hs_get (ci := 13) (f := 0) (p := 11) (by decide +kernel) (rs_con hj) (by omega) rfl ?_
  refine hs_iload (i := 1) (p := 12) (by decide +kernel) rfl ?_
  refine hs_calls (mi := 299) (na := 2) (lk := 2) (lm := 2) (by decide +kernel) rfl rfl rfl rfl rfl rfl rfl (rs_lat hG hj hi (fun x hx => hs_cb ?_))
  show et_go none _ 296 15 _ [.int x] _ _ _ _
  refine hs_bcret (ty := .char) (by decide +kernel) hx ?_
  exact h _
end RSA
