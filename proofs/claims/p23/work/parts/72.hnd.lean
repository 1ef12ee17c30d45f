section
/-! BY HAND: what a WIRE sees, as a function; the counting sort -/
section HSO
variable {d k pc ck sk : Nat} {L : eg_Ls} {st r : List Value} {G : eg_G} {Z : eg_O → Prop}
theorem hs_iushr {p : Nat} {x y : Int32} (hc : hs_o k pc = some (.iushr, p)) (h : et_go none d k p L (.int (x.toUInt32 >>> (y.toUInt32 &&& Int32.toUInt32 31)).toInt32 :: r) G ck sk Z) : et_go none d k pc L (.int y :: .int x :: r) G ck sk Z := by
  obtain ⟨e, rfl⟩ := hs_oc hc
  exact hs_st e rfl rfl h
theorem hs_ixor {p : Nat} {x y : Int32} (hc : hs_o k pc = some (.ixor, p)) (h : et_go none d k p L (.int (x ^^^ y) :: r) G ck sk Z) : et_go none d k pc L (.int y :: .int x :: r) G ck sk Z := by
  obtain ⟨e, rfl⟩ := hs_oc hc
  exact hs_st e rfl rfl h
theorem hs_ior {p : Nat} {x y : Int32} (hc : hs_o k pc = some (.ior, p)) (h : et_go none d k p L (.int (x ||| y) :: r) G ck sk Z) : et_go none d k pc L (.int y :: .int x :: r) G ck sk Z := by
  obtain ⟨e, rfl⟩ := hs_oc hc
  exact hs_st e rfl rfl h
theorem hs_irem {p : Nat} {x y : Int32} (hc : hs_o k pc = some (.irem, p)) (hy : ¬ y = 0) (h : et_go none d k p L (.int (x - x / y * y) :: r) G ck sk Z) : et_go none d k pc L (.int y :: .int x :: r) G ck sk Z := by
  obtain ⟨e, rfl⟩ := hs_oc hc
  exact hs_st e rfl (by
    show (if y = 0 then none else _) = _
    rw [if_neg hy]) h
theorem hs_ineg {p : Nat} {x : Int32} (hc : hs_o k pc = some (.ineg, p)) (h : et_go none d k p L (.int (-x) :: r) G ck sk Z) : et_go none d k pc L (.int x :: r) G ck sk Z := by
  obtain ⟨e, rfl⟩ := hs_oc hc
  exact hs_st e rfl rfl h
end HSO
section RPK
variable {d am aw : Nat} {G : eg_G} {F : Nat → Value} {W : Nat → Int32} {Z : eg_O → Prop}
def rp_bc (x : Int32) : Int32 := ((((((((x - ((x.toUInt32 >>> ((Int32.ofNat 1).toUInt32 &&& Int32.toUInt32 31)).toInt32 &&& Int32.ofNat 1431655765)) &&& Int32.ofNat 858993459) + (((x - ((x.toUInt32 >>> ((Int32.ofNat 1).toUInt32 &&& Int32.toUInt32 31)).toInt32 &&& Int32.ofNat 1431655765)).toUInt32 >>> ((Int32.ofNat 2).toUInt32 &&& Int32.toUInt32 31)).toInt32 &&& Int32.ofNat 858993459)) + ((((x - ((x.toUInt32 >>> ((Int32.ofNat 1).toUInt32 &&& Int32.toUInt32 31)).toInt32 &&& Int32.ofNat 1431655765)) &&& Int32.ofNat 858993459) + (((x - ((x.toUInt32 >>> ((Int32.ofNat 1).toUInt32 &&& Int32.toUInt32 31)).toInt32 &&& Int32.ofNat 1431655765)).toUInt32 >>> ((Int32.ofNat 2).toUInt32 &&& Int32.toUInt32 31)).toInt32 &&& Int32.ofNat 858993459)).toUInt32 >>> ((Int32.ofNat 4).toUInt32 &&& Int32.toUInt32 31)).toInt32) &&& Int32.ofNat 252645135) + ((((((x - ((x.toUInt32 >>> ((Int32.ofNat 1).toUInt32 &&& Int32.toUInt32 31)).toInt32 &&& Int32.ofNat 1431655765)) &&& Int32.ofNat 858993459) + (((x - ((x.toUInt32 >>> ((Int32.ofNat 1).toUInt32 &&& Int32.toUInt32 31)).toInt32 &&& Int32.ofNat 1431655765)).toUInt32 >>> ((Int32.ofNat 2).toUInt32 &&& Int32.toUInt32 31)).toInt32 &&& Int32.ofNat 858993459)) + ((((x - ((x.toUInt32 >>> ((Int32.ofNat 1).toUInt32 &&& Int32.toUInt32 31)).toInt32 &&& Int32.ofNat 1431655765)) &&& Int32.ofNat 858993459) + (((x - ((x.toUInt32 >>> ((Int32.ofNat 1).toUInt32 &&& Int32.toUInt32 31)).toInt32 &&& Int32.ofNat 1431655765)).toUInt32 >>> ((Int32.ofNat 2).toUInt32 &&& Int32.toUInt32 31)).toInt32 &&& Int32.ofNat 858993459)).toUInt32 >>> ((Int32.ofNat 4).toUInt32 &&& Int32.toUInt32 31)).toInt32) &&& Int32.ofNat 252645135).toUInt32 >>> ((Int32.ofNat 8).toUInt32 &&& Int32.toUInt32 31)).toInt32) + (((((((x - ((x.toUInt32 >>> ((Int32.ofNat 1).toUInt32 &&& Int32.toUInt32 31)).toInt32 &&& Int32.ofNat 1431655765)) &&& Int32.ofNat 858993459) + (((x - ((x.toUInt32 >>> ((Int32.ofNat 1).toUInt32 &&& Int32.toUInt32 31)).toInt32 &&& Int32.ofNat 1431655765)).toUInt32 >>> ((Int32.ofNat 2).toUInt32 &&& Int32.toUInt32 31)).toInt32 &&& Int32.ofNat 858993459)) + ((((x - ((x.toUInt32 >>> ((Int32.ofNat 1).toUInt32 &&& Int32.toUInt32 31)).toInt32 &&& Int32.ofNat 1431655765)) &&& Int32.ofNat 858993459) + (((x - ((x.toUInt32 >>> ((Int32.ofNat 1).toUInt32 &&& Int32.toUInt32 31)).toInt32 &&& Int32.ofNat 1431655765)).toUInt32 >>> ((Int32.ofNat 2).toUInt32 &&& Int32.toUInt32 31)).toInt32 &&& Int32.ofNat 858993459)).toUInt32 >>> ((Int32.ofNat 4).toUInt32 &&& Int32.toUInt32 31)).toInt32) &&& Int32.ofNat 252645135) + ((((((x - ((x.toUInt32 >>> ((Int32.ofNat 1).toUInt32 &&& Int32.toUInt32 31)).toInt32 &&& Int32.ofNat 1431655765)) &&& Int32.ofNat 858993459) + (((x - ((x.toUInt32 >>> ((Int32.ofNat 1).toUInt32 &&& Int32.toUInt32 31)).toInt32 &&& Int32.ofNat 1431655765)).toUInt32 >>> ((Int32.ofNat 2).toUInt32 &&& Int32.toUInt32 31)).toInt32 &&& Int32.ofNat 858993459)) + ((((x - ((x.toUInt32 >>> ((Int32.ofNat 1).toUInt32 &&& Int32.toUInt32 31)).toInt32 &&& Int32.ofNat 1431655765)) &&& Int32.ofNat 858993459) + (((x - ((x.toUInt32 >>> ((Int32.ofNat 1).toUInt32 &&& Int32.toUInt32 31)).toInt32 &&& Int32.ofNat 1431655765)).toUInt32 >>> ((Int32.ofNat 2).toUInt32 &&& Int32.toUInt32 31)).toInt32 &&& Int32.ofNat 858993459)).toUInt32 >>> ((Int32.ofNat 4).toUInt32 &&& Int32.toUInt32 31)).toInt32) &&& Int32.ofNat 252645135).toUInt32 >>> ((Int32.ofNat 8).toUInt32 &&& Int32.toUInt32 31)).toInt32).toUInt32 >>> ((Int32.ofNat 16).toUInt32 &&& Int32.toUInt32 31)).toInt32) &&& Int32.ofNat 63)
theorem rp_bitCount {x : Int32} (h : Z (.inl (some (.int (rp_bc x))), G, 0, 0)) : et_go none d 305 0 [some (.int x)] [] G 0 0 Z := by
  refine hs_iload (i := 0) (p := 1) (by decide +kernel) rfl ?_
  refine hs_iload (i := 0) (p := 2) (by decide +kernel) rfl ?_
  refine hs_k (x := Int32.ofNat 1) (p := 3) (by decide +kernel) ?_
  refine hs_iushr (p := 4) (by decide +kernel) ?_
  refine hs_kld (v := Value.int (Int32.ofNat 1431655765)) (p := 7) (by decide +kernel) ?_
  refine hs_iand (p := 8) (by decide +kernel) ?_
  refine hs_isub (p := 9) (by decide +kernel) ?_
  refine hs_istore (i := 0) (p := 10) (by decide +kernel) (Nat.le_of_ble_eq_true rfl) ?_
  refine hs_iload (i := 0) (p := 11) (by decide +kernel) rfl ?_
  refine hs_kld (v := Value.int (Int32.ofNat 858993459)) (p := 14) (by decide +kernel) ?_
  refine hs_iand (p := 15) (by decide +kernel) ?_
  refine hs_iload (i := 0) (p := 16) (by decide +kernel) rfl ?_
  refine hs_k (x := Int32.ofNat 2) (p := 17) (by decide +kernel) ?_
  refine hs_iushr (p := 18) (by decide +kernel) ?_
  refine hs_kld (v := Value.int (Int32.ofNat 858993459)) (p := 21) (by decide +kernel) ?_
  refine hs_iand (p := 22) (by decide +kernel) ?_
  refine hs_iadd (p := 23) (by decide +kernel) ?_
  refine hs_istore (i := 0) (p := 24) (by decide +kernel) (Nat.le_of_ble_eq_true rfl) ?_
  refine hs_iload (i := 0) (p := 25) (by decide +kernel) rfl ?_
  refine hs_iload (i := 0) (p := 26) (by decide +kernel) rfl ?_
  refine hs_k (x := Int32.ofNat 4) (p := 27) (by decide +kernel) ?_
  refine hs_iushr (p := 28) (by decide +kernel) ?_
  refine hs_iadd (p := 29) (by decide +kernel) ?_
  refine hs_kld (v := Value.int (Int32.ofNat 252645135)) (p := 32) (by decide +kernel) ?_
  refine hs_iand (p := 33) (by decide +kernel) ?_
  refine hs_istore (i := 0) (p := 34) (by decide +kernel) (Nat.le_of_ble_eq_true rfl) ?_
  refine hs_iload (i := 0) (p := 35) (by decide +kernel) rfl ?_
  refine hs_iload (i := 0) (p := 36) (by decide +kernel) rfl ?_
  refine hs_k (x := Int32.ofNat 8) (p := 38) (by decide +kernel) ?_
  refine hs_iushr (p := 39) (by decide +kernel) ?_
  refine hs_iadd (p := 40) (by decide +kernel) ?_
  refine hs_istore (i := 0) (p := 41) (by decide +kernel) (Nat.le_of_ble_eq_true rfl) ?_
  refine hs_iload (i := 0) (p := 42) (by decide +kernel) rfl ?_
  refine hs_iload (i := 0) (p := 43) (by decide +kernel) rfl ?_
  refine hs_k (x := Int32.ofNat 16) (p := 45) (by decide +kernel) ?_
  refine hs_iushr (p := 46) (by decide +kernel) ?_
  refine hs_iadd (p := 47) (by decide +kernel) ?_
  refine hs_istore (i := 0) (p := 48) (by decide +kernel) (Nat.le_of_ble_eq_true rfl) ?_
  refine hs_iload (i := 0) (p := 49) (by decide +kernel) rfl ?_
  refine hs_k (x := Int32.ofNat 63) (p := 51) (by decide +kernel) ?_
  refine hs_iand (p := 52) (by decide +kernel) ?_
  refine hs_iret (by decide +kernel) ?_
  exact h
theorem rp_bits {x : Int32} (h : Z (.inl (some (.int (rp_bc x))), G, 0, 0)) : et_go none (d + 1) 214 0 [some (.int x)] [] G 0 0 Z := by
  refine hs_iload (i := 0) (p := 1) (by decide +kernel) rfl ?_
  refine hs_calls (mi := 305) (na := 1) (lk := 1) (lm := 1) (by decide +kernel) rfl rfl rfl rfl rfl rfl rfl (rp_bitCount (hs_cb ?_))
  show et_go none _ 214 4 _ [.int (rp_bc x)] _ _ _ _
  refine hs_iret (by decide +kernel) ?_
  exact h
def rp_vb (ce ki li : Int32) : Int32 := if ki = 0 then rp_bc (ce &&& li) else if ki = Int32.ofNat 1 then (if (ce &&& (li ^^^ (-1))) = 0 then Int32.ofNat 1 else Int32.ofNat 0) else rp_bc (ce &&& li) - rp_bc (ce &&& li) / Int32.ofNat 2 * Int32.ofNat 2
theorem rp_valueBy {ce ki li : Int32} (h : Z (.inl (some (.int (rp_vb ce ki li))), G, 0, 0)) : et_go none (d + 2) 239 0 [some (.int ce), some (.int ki), some (.int li), none] [] G 0 0 Z := by
  unfold rp_vb at h
  refine hs_iload (i := 0) (p := 1) (by decide +kernel) rfl ?_
  refine hs_iload (i := 2) (p := 2) (by decide +kernel) rfl ?_
  refine hs_iand (p := 3) (by decide +kernel) ?_
  refine hs_calls (mi := 214) (na := 1) (lk := 4) (lm := 1) (by decide +kernel) rfl rfl rfl rfl rfl rfl rfl (rp_bits (hs_cb ?_))
  show et_go none _ 239 6 _ [.int (rp_bc (ce &&& li))] _ _ _ _
  refine hs_istore (i := 3) (p := 7) (by decide +kernel) (Nat.le_of_ble_eq_true rfl) ?_
  refine hs_iload (i := 1) (p := 8) (by decide +kernel) rfl ?_
  refine hs_br1 (c := .ne) (t := 15) (f := 11) (by decide +kernel) (fun (c8 : ¬ ki = 0) => ?_) (fun (c8 : ¬ (¬ ki = 0)) => ?_)
  · refine hs_iload (i := 1) (p := 16) (by decide +kernel) rfl ?_
    refine hs_k (x := Int32.ofNat 1) (p := 17) (by decide +kernel) ?_
    refine hs_br2 (c := .ne) (t := 36) (f := 20) (by decide +kernel) (fun (c17 : ¬ ki = Int32.ofNat 1) => ?_) (fun (c17 : ¬ (¬ ki = Int32.ofNat 1)) => ?_)
    · refine hs_iload (i := 3) (p := 37) (by decide +kernel) rfl ?_
      refine hs_k (x := Int32.ofNat 2) (p := 38) (by decide +kernel) ?_
      refine hs_irem (p := 39) (by decide +kernel) (by decide) ?_
      refine hs_iret (by decide +kernel) ?_
      rw [if_neg c8] at h
      rw [if_neg c17] at h
      exact h
    · refine hs_iload (i := 0) (p := 21) (by decide +kernel) rfl ?_
      refine hs_iload (i := 2) (p := 22) (by decide +kernel) rfl ?_
      refine hs_k (x := (-1)) (p := 23) (by decide +kernel) ?_
      refine hs_ixor (p := 24) (by decide +kernel) ?_
      refine hs_iand (p := 25) (by decide +kernel) ?_
      refine hs_br1 (c := .ne) (t := 32) (f := 28) (by decide +kernel) (fun (c25 : ¬ (ce &&& (li ^^^ (-1))) = 0) => ?_) (fun (c25 : ¬ (¬ (ce &&& (li ^^^ (-1))) = 0)) => ?_)
      · refine hs_k (x := Int32.ofNat 0) (p := 33) (by decide +kernel) ?_
        refine hs_goto (p := 39) (by decide +kernel) ?_
        refine hs_iret (by decide +kernel) ?_
        rw [if_neg c8] at h
        rw [if_pos (Classical.not_not.mp c17)] at h
        rw [if_neg c25] at h
        exact h
      · refine hs_k (x := Int32.ofNat 1) (p := 29) (by decide +kernel) ?_
        refine hs_goto (p := 39) (by decide +kernel) ?_
        refine hs_iret (by decide +kernel) ?_
        rw [if_neg c8] at h
        rw [if_pos (Classical.not_not.mp c17)] at h
        rw [if_pos (Classical.not_not.mp c25)] at h
        exact h
  · refine hs_iload (i := 3) (p := 12) (by decide +kernel) rfl ?_
    refine hs_goto (p := 39) (by decide +kernel) ?_
    refine hs_iret (by decide +kernel) ?_
    rw [if_pos (Classical.not_not.mp c8)] at h
    exact h
theorem rp_wireAt {e n o : Nat} (h : Z (.inl (some (.int (Int32.ofNat (45 + 23 * e + 1 + 3 * n + o)))), G, 0, 0)) : et_go none d 226 0 [some (.int (Int32.ofNat e)), some (.int (Int32.ofNat n)), some (.int (Int32.ofNat o))] [] G 0 0 Z := by
  refine hs_k (x := Int32.ofNat 45) (p := 2) (by decide +kernel) ?_
  refine hs_k (x := Int32.ofNat 23) (p := 4) (by decide +kernel) ?_
  refine hs_iload (i := 0) (p := 5) (by decide +kernel) rfl ?_
  refine hs_imuln (p := 6) (by decide +kernel) ?_
  refine hs_iaddn (p := 7) (by decide +kernel) ?_
  refine hs_k (x := Int32.ofNat 1) (p := 8) (by decide +kernel) ?_
  refine hs_iaddn (p := 9) (by decide +kernel) ?_
  refine hs_k (x := Int32.ofNat 3) (p := 10) (by decide +kernel) ?_
  refine hs_iload (i := 1) (p := 11) (by decide +kernel) rfl ?_
  refine hs_imuln (p := 12) (by decide +kernel) ?_
  refine hs_iaddn (p := 13) (by decide +kernel) ?_
  refine hs_iload (i := 2) (p := 14) (by decide +kernel) rfl ?_
  refine hs_iaddn (p := 15) (by decide +kernel) ?_
  refine hs_iret (by decide +kernel) ?_
  exact h
theorem rp_of (hA : hm_ok G am aw) (hw : F 1 = .ref aw) {e o : Nat} (he : e ≤ 2) (ho : o ≤ 22) (h : Z (.inl (some (.int (W (45 + 23 * e + o)))), hm_H G am aw F W, 0, 0)) : et_go none d 225 0 [some (.ref am), some (.int (Int32.ofNat e)), some (.int (Int32.ofNat o))] [] (hm_H G am aw F W) 0 0 Z := by
  refine hs_aload (i := 0) (p := 1) (by decide +kernel) rfl ?_
  refine hm_get hA (f := 1) (p := 4) (by decide +kernel) rfl hw ?_
  refine hs_k (x := Int32.ofNat 45) (p := 6) (by decide +kernel) ?_
  refine hs_k (x := Int32.ofNat 23) (p := 8) (by decide +kernel) ?_
  refine hs_iload (i := 1) (p := 9) (by decide +kernel) rfl ?_
  refine hs_imuln (p := 10) (by decide +kernel) ?_
  refine hs_iaddn (p := 11) (by decide +kernel) ?_
  refine hs_iload (i := 2) (p := 12) (by decide +kernel) rfl ?_
  refine hs_iaddn (p := 13) (by decide +kernel) ?_
  refine hm_rw hA (p := 14) (by decide +kernel) (by omega) ?_
  refine hs_iret (by decide +kernel) ?_
  exact h
theorem rp_wires (hA : hm_ok G am aw) (hw : F 1 = .ref aw) {e : Nat} (he : e ≤ 2) (h : Z (.inl (some (.int (W (45 + 23 * e + 0)))), hm_H G am aw F W, 0, 0)) : et_go none (d + 1) 224 0 [some (.ref am), some (.int (Int32.ofNat e))] [] (hm_H G am aw F W) 0 0 Z := by
  refine hs_aload (i := 0) (p := 1) (by decide +kernel) rfl ?_
  refine hs_iload (i := 1) (p := 2) (by decide +kernel) rfl ?_
  refine hs_k (x := Int32.ofNat 0) (p := 3) (by decide +kernel) ?_
  refine hm_call hA (mi := 225) (na := 2) (lk := 2) (lm := 3) (by decide +kernel) rfl rfl rfl rfl rfl rfl (rp_of hA hw (by omega) (by omega) (hs_cb ?_))
  show et_go none _ 224 6 _ [.int (W (45 + 23 * e + 0))] _ _ _ _
  refine hs_iret (by decide +kernel) ?_
  exact h
def rp_v (W : Nat → Int32) (e n : Nat) (li : Int32) : Int32 := rp_vb (W (45 + 23 * e + 1 + 3 * n + 0)) (W (45 + 23 * e + 1 + 3 * n + 1)) li
theorem rp_valueOf (hA : hm_ok G am aw) (hw : F 1 = .ref aw) {e n : Nat} (he : e ≤ 2) (hn : n ≤ 5) {li : Int32} (h : Z (.inl (some (.int (rp_v W e n li))), hm_H G am aw F W, 0, 0)) : et_go none (d + 3) 238 0 [some (.ref am), some (.int (Int32.ofNat e)), some (.int (Int32.ofNat n)), some (.int li)] [] (hm_H G am aw F W) 0 0 Z := by
  refine hs_aload (i := 0) (p := 1) (by decide +kernel) rfl ?_
  refine hm_get hA (f := 1) (p := 4) (by decide +kernel) rfl hw ?_
  refine hs_iload (i := 1) (p := 5) (by decide +kernel) rfl ?_
  refine hs_iload (i := 2) (p := 6) (by decide +kernel) rfl ?_
  refine hs_k (x := Int32.ofNat 0) (p := 7) (by decide +kernel) ?_
  refine hs_calls (mi := 226) (na := 3) (lk := 4) (lm := 3) (by decide +kernel) rfl rfl rfl rfl rfl rfl rfl (rp_wireAt (hs_cb ?_))
  show et_go none _ 238 10 _ [.int (Int32.ofNat (45 + 23 * e + 1 + 3 * n + 0)), .ref aw] _ _ _ _
  refine hm_rw hA (p := 11) (by decide +kernel) (by omega) ?_
  refine hs_aload (i := 0) (p := 12) (by decide +kernel) rfl ?_
  refine hm_get hA (f := 1) (p := 15) (by decide +kernel) rfl hw ?_
  refine hs_iload (i := 1) (p := 16) (by decide +kernel) rfl ?_
  refine hs_iload (i := 2) (p := 17) (by decide +kernel) rfl ?_
  refine hs_k (x := Int32.ofNat 1) (p := 18) (by decide +kernel) ?_
  refine hs_calls (mi := 226) (na := 3) (lk := 4) (lm := 3) (by decide +kernel) rfl rfl rfl rfl rfl rfl rfl (rp_wireAt (hs_cb ?_))
  show et_go none _ 238 21 _ [.int (Int32.ofNat (45 + 23 * e + 1 + 3 * n + 1)), .ref aw, .int (W (45 + 23 * e + 1 + 3 * n + 0))] _ _ _ _
  refine hm_rw hA (p := 22) (by decide +kernel) (by omega) ?_
  refine hs_iload (i := 3) (p := 23) (by decide +kernel) rfl ?_
  refine hs_calls (mi := 239) (na := 3) (lk := 4) (lm := 4) (by decide +kernel) rfl rfl rfl rfl rfl rfl rfl (rp_valueBy (hs_cb ?_))
  show et_go none _ 238 26 _ [.int (rp_vb (W (45 + 23 * e + 1 + 3 * n + 0)) (W (45 + 23 * e + 1 + 3 * n + 1)) li)] _ _ _ _
  refine hs_iret (by decide +kernel) ?_
  exact h
def rp_cf (W : Nat → Int32) (e : Nat) (li : Int32) : Nat → Nat → Int32 → Int32
  | 0, _, c => c
  | m + 1, i, c => rp_cf W e li m (i + 1) ((c <<< (Int32.ofNat 5 &&& 31)) ||| rp_v W e i li)
theorem rp_codeL (hA : hm_ok G am aw) (hw : F 1 = .ref aw) {e wn m i : Nat} (he : e ≤ 2) (hn : W (45 + 23 * e + 0) = Int32.ofNat wn) (hs : wn ≤ 6) {li c : Int32} (hm : i + m = wn) (h : Z (.inl (some (.int (rp_cf W e li m i c))), hm_H G am aw F W, 0, 0)) : et_go none (d + 4) 264 5 [some (.ref am), some (.int (Int32.ofNat e)), some (.int li), some (.int c), some (.int (Int32.ofNat i))] [] (hm_H G am aw F W) 0 0 Z := by
  induction m generalizing i c with
  | zero =>
    refine hs_iload (i := 4) (p := 7) (by decide +kernel) rfl ?_
    refine hs_aload (i := 0) (p := 8) (by decide +kernel) rfl ?_
    refine hs_iload (i := 1) (p := 9) (by decide +kernel) rfl ?_
    refine hm_call hA (mi := 224) (na := 1) (lk := 5) (lm := 2) (by decide +kernel) rfl rfl rfl rfl rfl rfl (rp_wires hA hw (by omega) (hs_cb ?_))
    rw [hn]
    show et_go none _ 264 12 _ [.int (Int32.ofNat wn), .int (Int32.ofNat i)] _ _ _ _
    refine hs_br2n (c := .ge) (t := 34) (f := 15) (by decide +kernel) (by omega) (by omega) (fun (c12 : wn ≤ i) => ?_) (fun (c12 : ¬ (wn ≤ i)) => ?_)
    · refine hs_iload (i := 3) (p := 35) (by decide +kernel) rfl ?_
      refine hs_iret (by decide +kernel) ?_
      exact h
    · refine hs_iload (i := 3) (p := 16) (by decide +kernel) rfl ?_
      refine hs_k (x := Int32.ofNat 5) (p := 17) (by decide +kernel) ?_
      refine hs_ishl (p := 18) (by decide +kernel) ?_
      refine hs_aload (i := 0) (p := 19) (by decide +kernel) rfl ?_
      refine hs_iload (i := 1) (p := 20) (by decide +kernel) rfl ?_
      refine hs_iload (i := 4) (p := 22) (by decide +kernel) rfl ?_
      refine hs_iload (i := 2) (p := 23) (by decide +kernel) rfl ?_
      refine hm_call hA (mi := 238) (na := 3) (lk := 5) (lm := 4) (by decide +kernel) rfl rfl rfl rfl rfl rfl (rp_valueOf hA hw (by omega) (by omega) (hs_cb ?_))
      show et_go none _ 264 26 _ [.int (rp_v W e i li), .int (c <<< (Int32.ofNat 5 &&& 31))] _ _ _ _
      refine hs_ior (p := 27) (by decide +kernel) ?_
      refine hs_istore (i := 3) (p := 28) (by decide +kernel) (Nat.le_of_ble_eq_true rfl) ?_
      refine hs_iinc1 (i := 4) (p := 31) (by decide +kernel) rfl (Nat.le_of_ble_eq_true rfl) ?_
      refine hs_goto (p := 5) (by decide +kernel) ?_
      exact absurd hm (by omega)
  | succ m ih =>
    refine hs_iload (i := 4) (p := 7) (by decide +kernel) rfl ?_
    refine hs_aload (i := 0) (p := 8) (by decide +kernel) rfl ?_
    refine hs_iload (i := 1) (p := 9) (by decide +kernel) rfl ?_
    refine hm_call hA (mi := 224) (na := 1) (lk := 5) (lm := 2) (by decide +kernel) rfl rfl rfl rfl rfl rfl (rp_wires hA hw (by omega) (hs_cb ?_))
    rw [hn]
    show et_go none _ 264 12 _ [.int (Int32.ofNat wn), .int (Int32.ofNat i)] _ _ _ _
    refine hs_br2n (c := .ge) (t := 34) (f := 15) (by decide +kernel) (by omega) (by omega) (fun (c12 : wn ≤ i) => ?_) (fun (c12 : ¬ (wn ≤ i)) => ?_)
    · refine hs_iload (i := 3) (p := 35) (by decide +kernel) rfl ?_
      refine hs_iret (by decide +kernel) ?_
      exact absurd c12 (by omega)
    · refine hs_iload (i := 3) (p := 16) (by decide +kernel) rfl ?_
      refine hs_k (x := Int32.ofNat 5) (p := 17) (by decide +kernel) ?_
      refine hs_ishl (p := 18) (by decide +kernel) ?_
      refine hs_aload (i := 0) (p := 19) (by decide +kernel) rfl ?_
      refine hs_iload (i := 1) (p := 20) (by decide +kernel) rfl ?_
      refine hs_iload (i := 4) (p := 22) (by decide +kernel) rfl ?_
      refine hs_iload (i := 2) (p := 23) (by decide +kernel) rfl ?_
      refine hm_call hA (mi := 238) (na := 3) (lk := 5) (lm := 4) (by decide +kernel) rfl rfl rfl rfl rfl rfl (rp_valueOf hA hw (by omega) (by omega) (hs_cb ?_))
      show et_go none _ 264 26 _ [.int (rp_v W e i li), .int (c <<< (Int32.ofNat 5 &&& 31))] _ _ _ _
      refine hs_ior (p := 27) (by decide +kernel) ?_
      refine hs_istore (i := 3) (p := 28) (by decide +kernel) (Nat.le_of_ble_eq_true rfl) ?_
      refine hs_iinc1 (i := 4) (p := 31) (by decide +kernel) rfl (Nat.le_of_ble_eq_true rfl) ?_
      refine hs_goto (p := 5) (by decide +kernel) ?_
      exact ih (by omega) h
def rp_co (W : Nat → Int32) (e wn : Nat) (li : Int32) : Int32 := rp_cf W e li wn 0 (Int32.ofNat 0)
theorem rp_codeOf (hA : hm_ok G am aw) (hw : F 1 = .ref aw) {e wn : Nat} (he : e ≤ 2) (hn : W (45 + 23 * e + 0) = Int32.ofNat wn) (hs : wn ≤ 6) {li : Int32} (h : Z (.inl (some (.int (rp_co W e wn li))), hm_H G am aw F W, 0, 0)) : et_go none (d + 4) 264 0 [some (.ref am), some (.int (Int32.ofNat e)), some (.int li), none, none] [] (hm_H G am aw F W) 0 0 Z := by
  refine hs_k (x := Int32.ofNat 0) (p := 1) (by decide +kernel) ?_
  refine hs_istore (i := 3) (p := 2) (by decide +kernel) (Nat.le_of_ble_eq_true rfl) ?_
  refine hs_k (x := Int32.ofNat 0) (p := 3) (by decide +kernel) ?_
  refine hs_istore (i := 4) (p := 5) (by decide +kernel) (Nat.le_of_ble_eq_true rfl) ?_
  exact rp_codeL hA hw he hn hs (by omega) h
def rp_hf (W : Nat → Int32) (e wn : Nat) (sh li : Int32) : Int32 := (rp_co W e wn li >>> (sh &&& 31)) &&& Int32.ofNat 32767
theorem rp_half (hA : hm_ok G am aw) (hw : F 1 = .ref aw) {e wn : Nat} (he : e ≤ 2) (hn : W (45 + 23 * e + 0) = Int32.ofNat wn) (hs : wn ≤ 6) {li sh : Int32} (h : Z (.inl (some (.int (rp_hf W e wn sh li))), hm_H G am aw F W, 0, 0)) : et_go none (d + 5) 268 0 [some (.ref am), some (.int (Int32.ofNat e)), some (.int li), some (.int sh)] [] (hm_H G am aw F W) 0 0 Z := by
  refine hs_aload (i := 0) (p := 1) (by decide +kernel) rfl ?_
  refine hs_iload (i := 1) (p := 2) (by decide +kernel) rfl ?_
  refine hs_iload (i := 2) (p := 3) (by decide +kernel) rfl ?_
  refine hm_call hA (mi := 264) (na := 2) (lk := 4) (lm := 5) (by decide +kernel) rfl rfl rfl rfl rfl rfl (rp_codeOf hA hw (by omega) hn hs (hs_cb ?_))
  show et_go none _ 268 6 _ [.int (rp_co W e wn li)] _ _ _ _
  refine hs_iload (i := 3) (p := 7) (by decide +kernel) rfl ?_
  refine hs_ishr (p := 8) (by decide +kernel) ?_
  refine hs_k (x := Int32.ofNat 32767) (p := 11) (by decide +kernel) ?_
  refine hs_iand (p := 12) (by decide +kernel) ?_
  refine hs_iret (by decide +kernel) ?_
  exact h
end RPK
end
section
/-! BY HAND: the counting sort stays within its rows -/
def rs_q (key : Nat → Nat) (h : Nat) : Nat → Nat
  | 0 => 0
  | n + 1 => rs_q key h n + (if key n = h then 1 else 0)
def rs_l (key : Nat → Nat) (h : Nat) : Nat → Nat
  | 0 => 0
  | n + 1 => rs_l key h n + (if key n < h then 1 else 0)
theorem rs_qs {key : Nat → Nat} {h n : Nat} : rs_q key h (n + 1) = rs_q key h n + (if key n = h then 1 else 0) := rfl
theorem rs_lq {key : Nat → Nat} {h : Nat} : ∀ n, rs_l key (h + 1) n = rs_q key h n + rs_l key h n
  | 0 => rfl
  | n + 1 => by
    have := rs_lq (key := key) (h := h) n
    unfold rs_l rs_q
    rw [this]
    split <;> split <;> split <;> omega
theorem rs_l0 {key : Nat → Nat} : ∀ n, rs_l key 0 n = 0
  | 0 => rfl
  | n + 1 => by
    unfold rs_l
    rw [rs_l0 n, if_neg (by omega)]
theorem rs_le {key : Nat → Nat} {h : Nat} : ∀ n, rs_l key h n + rs_q key h n ≤ n
  | 0 => Nat.le_refl _
  | n + 1 => by
    have := rs_le (key := key) (h := h) n
    unfold rs_l rs_q
    split <;> split <;> omega
theorem rs_lt {key : Nat → Nat} {h k : Nat} (hk : key k = h) : ∀ n, k < n → rs_l key h n + rs_q key h k < n
  | 0, h => absurd h (Nat.not_lt_zero _)
  | n + 1, hkn => by
    unfold rs_l
    by_cases e : k = n
    · subst e
      have := rs_le (key := key) (h := h) k
      rw [if_neg (by omega)]
      omega
    · have := rs_lt hk n (by omega)
      split <;> omega
theorem rs_qle {key : Nat → Nat} {h : Nat} (n : Nat) : rs_q key h n ≤ n := Nat.le_trans (Nat.le_add_left _ _) (rs_le n)
def ss_m (M : Nat → Int32) : eg_C := .inl (0, (32769, .inl M))
def ss_t (T : Nat → Int32) : eg_C := .inl (0, (65536, .inl T))
section RPS
variable {d am aw mn tt fr : Nat} {G : eg_G} {F : Nat → Value} {W M T AA : Nat → Int32} {Z : eg_O → Prop}
def ss_V (G : eg_G) (am aw mn tt fr : Nat) (F : Nat → Value) (AA : Nat → Int32) : Prop := hm_ok G am aw ∧ F 1 = .ref aw ∧ (F 32 = .ref mn ∧ mn ≠ am ∧ mn ≠ aw ∧ eg_NC ≤ mn ∧ mn < G.2) ∧ (tt ≠ am ∧ tt ≠ aw ∧ eg_NC ≤ tt ∧ tt < G.2 ∧ mn ≠ tt) ∧ (fr ≠ am ∧ fr ≠ aw ∧ fr ≠ mn ∧ fr ≠ tt ∧ fr < G.2 ∧ eg_at G fr = .inl (0, (65536, .inl AA)))
def ss_H (G : eg_G) (am aw mn tt : Nat) (F : Nat → Value) (W M T : Nat → Int32) : eg_G := hm_H (eg_u (eg_u G mn (ss_m M)) tt (ss_t T)) am aw F W
theorem ss_ok (hV : ss_V G am aw mn tt fr F AA) : hm_ok (eg_u (eg_u G mn (ss_m M)) tt (ss_t T)) am aw := hV.1
theorem ss_rm {k pc ck sk p n : Nat} {x : Int32} {L : eg_Ls} {r : List Value} (hV : ss_V G am aw mn tt fr F AA) (hc : hs_o k pc = some (.iaload, p)) (hn : n < 32769) (hx : M n = x) (h : et_go none d k p L (.int x :: r) (ss_H G am aw mn tt F W M T) ck sk Z) : et_go none d k pc L (.int (Int32.ofNat n) :: .ref mn :: r) (ss_H G am aw mn tt F W M T) ck sk Z := by
  obtain ⟨-, -, ⟨-, a1, a2, a3, a4⟩, ⟨b1, b2, b3, b4, b5⟩, -⟩ := hV
  refine hs_iald hc ((hm_o a1 a2).trans ((et_at_u b5).trans (et_at_us a3))) a4 (by decide) hn ?_
  rw [hx]
  exact h
theorem ss_wm {k pc ck sk p n : Nat} {x : Int32} {L : eg_Ls} {r : List Value} (hV : ss_V G am aw mn tt fr F AA) (hc : hs_o k pc = some (.iastore, p)) (hn : n < 32769) (h : et_go none d k p L r (ss_H G am aw mn tt F W (upd M n x) T) ck sk Z) : et_go none d k pc L (.int x :: .int (Int32.ofNat n) :: .ref mn :: r) (ss_H G am aw mn tt F W M T) ck sk Z := by
  obtain ⟨-, -, ⟨-, a1, a2, a3, a4⟩, ⟨b1, b2, b3, b4, b5⟩, -⟩ := hV
  refine hs_iast hc ((hm_o a1 a2).trans ((et_at_u b5).trans (et_at_us a3))) ⟨a3, a4⟩ (by decide) hn ?_
  unfold ss_H
  rw [hm_ex a1 a2, hm_uc b5.symm, hm_uu]
  exact h
theorem ss_wt {k pc ck sk p n : Nat} {x : Int32} {L : eg_Ls} {r : List Value} (hV : ss_V G am aw mn tt fr F AA) (hc : hs_o k pc = some (.iastore, p)) (hn : n < 65536) (h : et_go none d k p L r (ss_H G am aw mn tt F W M (upd T n x)) ck sk Z) : et_go none d k pc L (.int x :: .int (Int32.ofNat n) :: .ref tt :: r) (ss_H G am aw mn tt F W M T) ck sk Z := by
  obtain ⟨-, -, ⟨-, a1, a2, a3, a4⟩, ⟨b1, b2, b3, b4, b5⟩, -⟩ := hV
  refine hs_iast hc ((hm_o b1 b2).trans (et_at_us b3)) ⟨b3, b4⟩ (by decide) hn ?_
  unfold ss_H
  rw [hm_ex b1 b2, hm_uu]
  exact h
theorem ss_rf {k pc ck sk p n : Nat} {L : eg_Ls} {r : List Value} (hV : ss_V G am aw mn tt fr F AA) (hc : hs_o k pc = some (.iaload, p)) (hn : n < 65536) (h : et_go none d k p L (.int (AA n) :: r) (ss_H G am aw mn tt F W M T) ck sk Z) : et_go none d k pc L (.int (Int32.ofNat n) :: .ref fr :: r) (ss_H G am aw mn tt F W M T) ck sk Z := by
  obtain ⟨-, -, ⟨-, a1, a2, a3, a4⟩, ⟨b1, b2, b3, b4, b5⟩, c1, c2, c3, c4, c5, c6⟩ := hV
  exact hs_iald hc ((hm_o c1 c2).trans ((et_at_u c4).trans ((et_at_u c3).trans c6))) c5 (by decide) hn h
theorem rp_hfr {W : Nat → Int32} {e wn : Nat} {sh li : Int32} : ∃ n, n ≤ 32767 ∧ rp_hf W e wn sh li = Int32.ofNat n := by
  unfold rp_hf
  generalize rp_co W e wn li >>> (sh &&& 31) = x
  have h1 : 0 ≤ (x &&& Int32.ofNat 32767).toInt ∧ (x &&& Int32.ofNat 32767).toInt ≤ 32767 := by
    have h2 : (x &&& Int32.ofNat 32767).toInt = ((x &&& Int32.ofNat 32767).toBitVec).toInt := rfl
    have h3 : (x &&& Int32.ofNat 32767).toBitVec.toNat ≤ 32767 := by
      show (x.toBitVec &&& (Int32.ofNat 32767).toBitVec).toNat ≤ 32767
      rw [BitVec.toNat_and]
      exact Nat.and_le_right
    rw [h2, BitVec.toInt_eq_toNat_of_lt (by omega)]
    omega
  refine ⟨(x &&& Int32.ofNat 32767).toInt.toNat, by omega, ?_⟩
  apply Int32.toInt_inj.mp
  rw [hs_nint (by omega)]
  omega
theorem ss_4 (hV : ss_V G am aw mn tt fr F AA) {e wn : Nat} (he : e ≤ 2) (hwn : W (45 + 23 * e + 0) = Int32.ofNat wn) (hs : wn ≤ 6) {sh : Int32} {x6 : Option Value} {key : Nat → Nat} (hk : ∀ i, key i ≤ 32767 ∧ rp_hf W e wn sh (AA i) = Int32.ofNat (key i)) {k : Nat} (hk4 : k ≤ 65536) (hM : ∀ j, j ≤ 32767 → M j = Int32.ofNat (rs_l key j 65536 + rs_q key j k)) (h : ∀ M T', (∀ i, T' i = T i ∨ ∃ j, j < 65536 ∧ T' i = AA j) → Z (.inl none, (ss_H G am aw mn tt F W M T'), 0, 0)) : et_go none (d + 6) 267 102 [some (.ref am), some (.int (Int32.ofNat e)), some (.ref fr), some (.ref tt), some (.int sh), some (.int (Int32.ofNat k)), x6] [] (ss_H G am aw mn tt F W M T) 0 0 Z := by
  induction hm : 65536 - k using Nat.strongRecOn generalizing k M T x6 with
  | _ z ih =>
    have hk1 := (hk k).1
    have hlt : k < 65536 → rs_l key (key k) 65536 + rs_q key (key k) k < 65536 := rs_lt rfl 65536
    refine hs_iload (i := 5) (p := 104) (by decide +kernel) rfl ?_
    refine hs_kld (v := Value.int (Int32.ofNat 65536)) (p := 106) (by decide +kernel) ?_
    refine hs_br2n (c := .ge) (t := 152) (f := 109) (by decide +kernel) (by omega) (by omega) (fun (c106 : 65536 ≤ k) => ?_) (fun (c106 : ¬ (65536 ≤ k)) => ?_)
    · refine hs_vret (by decide +kernel) ?_
      exact h M T (fun _ => .inl rfl)
    · refine hs_aload (i := 0) (p := 110) (by decide +kernel) rfl ?_
      refine hs_iload (i := 1) (p := 111) (by decide +kernel) rfl ?_
      refine hs_aload (i := 2) (p := 112) (by decide +kernel) rfl ?_
      refine hs_iload (i := 5) (p := 114) (by decide +kernel) rfl ?_
      refine ss_rf hV (p := 115) (by decide +kernel) (by omega) ?_
      refine hs_iload (i := 4) (p := 117) (by decide +kernel) rfl ?_
      refine hm_call (ss_ok hV) (mi := 268) (na := 3) (lk := 7) (lm := 4) (by decide +kernel) rfl rfl rfl rfl rfl rfl (rp_half (ss_ok hV) hV.2.1 (by omega) hwn hs (hs_cb ?_))
      rw [(hk k).2]
      show et_go none _ 267 120 _ [.int (Int32.ofNat (key k))] (ss_H G am aw mn tt F W _ _) _ _ _
      refine hs_istore (i := 6) (p := 122) (by decide +kernel) (Nat.le_of_ble_eq_true rfl) ?_
      refine hs_aload (i := 3) (p := 123) (by decide +kernel) rfl ?_
      refine hs_aload (i := 0) (p := 124) (by decide +kernel) rfl ?_
      refine hm_get (ss_ok hV) (f := 32) (p := 127) (by decide +kernel) rfl hV.2.2.1.1 ?_
      refine hs_iload (i := 6) (p := 129) (by decide +kernel) rfl ?_
      refine ss_rm hV (p := 130) (x := Int32.ofNat (rs_l key (key k) 65536 + rs_q key (key k) k)) (by decide +kernel) (by omega) (hM _ (hk k).1) ?_
      refine hs_aload (i := 2) (p := 131) (by decide +kernel) rfl ?_
      refine hs_iload (i := 5) (p := 133) (by decide +kernel) rfl ?_
      refine ss_rf hV (p := 134) (by decide +kernel) (by omega) ?_
      refine ss_wt hV (p := 135) (by decide +kernel) (by omega) ?_
      refine hs_aload (i := 0) (p := 136) (by decide +kernel) rfl ?_
      refine hm_get (ss_ok hV) (f := 32) (p := 139) (by decide +kernel) rfl hV.2.2.1.1 ?_
      refine hs_iload (i := 6) (p := 141) (by decide +kernel) rfl ?_
      refine hs_dup2 (p := 142) (by decide +kernel) ?_
      refine ss_rm hV (p := 143) (x := Int32.ofNat (rs_l key (key k) 65536 + rs_q key (key k) k)) (by decide +kernel) (by omega) (hM _ (hk k).1) ?_
      refine hs_k (x := Int32.ofNat 1) (p := 144) (by decide +kernel) ?_
      refine hs_iaddn (p := 145) (by decide +kernel) ?_
      refine ss_wm hV (p := 146) (by decide +kernel) (by omega) ?_
      refine hs_iinc1 (i := 5) (p := 149) (by decide +kernel) rfl (Nat.le_of_ble_eq_true rfl) ?_
      refine hs_goto (p := 102) (by decide +kernel) ?_
      refine ih (65536 - (k + 1)) (by omega) (by omega) (fun j hj => ?_) (fun M T' h1 => h M T' (fun i => ?_)) rfl
      · by_cases e : j = key k
        · subst e
          rw [hs_us, rs_qs, if_pos rfl, Nat.add_assoc]
        · rw [hs_un e, hM j hj, rs_qs, if_neg (fun h => e h.symm), Nat.add_zero]
      · rcases h1 i with h1 | h1
        · rw [h1]
          by_cases e : i = rs_l key (key k) 65536 + rs_q key (key k) k
          · subst e
            exact .inr ⟨k, by omega, hs_us⟩
          · exact .inl (hs_un e)
        · exact .inr h1
theorem ss_3 (hV : ss_V G am aw mn tt fr F AA) {e wn : Nat} (he : e ≤ 2) (hwn : W (45 + 23 * e + 0) = Int32.ofNat wn) (hs : wn ≤ 6) {sh : Int32} {x6 : Option Value} {key : Nat → Nat} (hk : ∀ i, key i ≤ 32767 ∧ rp_hf W e wn sh (AA i) = Int32.ofNat (key i)) {k : Nat} (hk4 : k ≤ 32768) (hM : ∀ j, j ≤ 32768 → M j = Int32.ofNat (if j ≤ k then rs_l key j 65536 else rs_q key (j - 1) 65536)) (h : ∀ M T', (∀ i, T' i = T i ∨ ∃ j, j < 65536 ∧ T' i = AA j) → Z (.inl none, (ss_H G am aw mn tt F W M T'), 0, 0)) : et_go none (d + 6) 267 66 [some (.ref am), some (.int (Int32.ofNat e)), some (.ref fr), some (.ref tt), some (.int sh), some (.int (Int32.ofNat k)), x6] [] (ss_H G am aw mn tt F W M T) 0 0 Z := by
  induction hm : 32768 - k using Nat.strongRecOn generalizing k M x6 with
  | _ z ih =>
    refine hs_iload (i := 5) (p := 68) (by decide +kernel) rfl ?_
    refine hs_kld (v := Value.int (Int32.ofNat 32768)) (p := 71) (by decide +kernel) ?_
    refine hs_br2n (c := .ge) (t := 99) (f := 74) (by decide +kernel) (by omega) (by omega) (fun (c71 : 32768 ≤ k) => ?_) (fun (c71 : ¬ (32768 ≤ k)) => ?_)
    · refine hs_k (x := Int32.ofNat 0) (p := 100) (by decide +kernel) ?_
      refine hs_istore (i := 5) (p := 102) (by decide +kernel) (Nat.le_of_ble_eq_true rfl) ?_
      refine ss_4 hV he hwn hs hk (k := 0) (by omega) (fun j hj => ?_) h
      rw [hM j (by omega), if_pos (by omega), show rs_q key j 0 = 0 from rfl, Nat.add_zero]
    · refine hs_aload (i := 0) (p := 75) (by decide +kernel) rfl ?_
      refine hm_get (ss_ok hV) (f := 32) (p := 78) (by decide +kernel) rfl hV.2.2.1.1 ?_
      refine hs_iload (i := 5) (p := 80) (by decide +kernel) rfl ?_
      refine hs_k (x := Int32.ofNat 1) (p := 81) (by decide +kernel) ?_
      refine hs_iaddn (p := 82) (by decide +kernel) ?_
      refine hs_dup2 (p := 83) (by decide +kernel) ?_
      refine ss_rm hV (p := 84) (x := Int32.ofNat (rs_q key k 65536)) (by decide +kernel) (by omega) ((hM (k + 1) (by omega)).trans (by rw [if_neg (by omega)]; rfl)) ?_
      refine hs_aload (i := 0) (p := 85) (by decide +kernel) rfl ?_
      refine hm_get (ss_ok hV) (f := 32) (p := 88) (by decide +kernel) rfl hV.2.2.1.1 ?_
      refine hs_iload (i := 5) (p := 90) (by decide +kernel) rfl ?_
      refine ss_rm hV (p := 91) (x := Int32.ofNat (rs_l key k 65536)) (by decide +kernel) (by omega) ((hM k (by omega)).trans (by rw [if_pos (by omega)])) ?_
      refine hs_iaddn (p := 92) (by decide +kernel) ?_
      refine ss_wm hV (p := 93) (by decide +kernel) (by omega) ?_
      refine hs_iinc1 (i := 5) (p := 96) (by decide +kernel) rfl (Nat.le_of_ble_eq_true rfl) ?_
      refine hs_goto (p := 66) (by decide +kernel) ?_
      refine ih (32768 - (k + 1)) (by omega) (by omega) (fun j hj => ?_) rfl
      by_cases e : j = k + 1
      · subst e
        rw [hs_us, if_pos (Nat.le_refl _), rs_lq]
      · rw [hs_un e, hM j hj]
        by_cases e2 : j ≤ k
        · rw [if_pos e2, if_pos (by omega)]
        · rw [if_neg e2, if_neg (by omega)]
theorem ss_2 (hV : ss_V G am aw mn tt fr F AA) {e wn : Nat} (he : e ≤ 2) (hwn : W (45 + 23 * e + 0) = Int32.ofNat wn) (hs : wn ≤ 6) {sh : Int32} {x6 : Option Value} {key : Nat → Nat} (hk : ∀ i, key i ≤ 32767 ∧ rp_hf W e wn sh (AA i) = Int32.ofNat (key i)) {k : Nat} (hk4 : k ≤ 65536) (hM0 : M 0 = Int32.ofNat 0) (hM : ∀ j, j ≤ 32767 → M (j + 1) = Int32.ofNat (rs_q key j k)) (h : ∀ M T', (∀ i, T' i = T i ∨ ∃ j, j < 65536 ∧ T' i = AA j) → Z (.inl none, (ss_H G am aw mn tt F W M T'), 0, 0)) : et_go none (d + 6) 267 28 [some (.ref am), some (.int (Int32.ofNat e)), some (.ref fr), some (.ref tt), some (.int sh), some (.int (Int32.ofNat k)), x6] [] (ss_H G am aw mn tt F W M T) 0 0 Z := by
  induction hm : 65536 - k using Nat.strongRecOn generalizing k M x6 with
  | _ z ih =>
    have hk1 := (hk k).1
    refine hs_iload (i := 5) (p := 30) (by decide +kernel) rfl ?_
    refine hs_kld (v := Value.int (Int32.ofNat 65536)) (p := 32) (by decide +kernel) ?_
    refine hs_br2n (c := .ge) (t := 63) (f := 35) (by decide +kernel) (by omega) (by omega) (fun (c32 : 65536 ≤ k) => ?_) (fun (c32 : ¬ (65536 ≤ k)) => ?_)
    · refine hs_k (x := Int32.ofNat 0) (p := 64) (by decide +kernel) ?_
      refine hs_istore (i := 5) (p := 66) (by decide +kernel) (Nat.le_of_ble_eq_true rfl) ?_
      refine ss_3 hV he hwn hs hk (k := 0) (by omega) (fun j hj => ?_) h
      by_cases e : j = 0
      · subst e
        rw [hM0, if_pos (Nat.le_refl _), rs_l0]
      · obtain ⟨q, rfl⟩ : ∃ q, j = q + 1 := ⟨j - 1, by omega⟩
        rw [hM q (by omega), if_neg (by omega), Nat.add_sub_cancel]
        rw [show k = 65536 by omega]
    · refine hs_aload (i := 0) (p := 36) (by decide +kernel) rfl ?_
      refine hm_get (ss_ok hV) (f := 32) (p := 39) (by decide +kernel) rfl hV.2.2.1.1 ?_
      refine hs_aload (i := 0) (p := 40) (by decide +kernel) rfl ?_
      refine hs_iload (i := 1) (p := 41) (by decide +kernel) rfl ?_
      refine hs_aload (i := 2) (p := 42) (by decide +kernel) rfl ?_
      refine hs_iload (i := 5) (p := 44) (by decide +kernel) rfl ?_
      refine ss_rf hV (p := 45) (by decide +kernel) (by omega) ?_
      refine hs_iload (i := 4) (p := 47) (by decide +kernel) rfl ?_
      refine hm_call (ss_ok hV) (mi := 268) (na := 3) (lk := 7) (lm := 4) (by decide +kernel) rfl rfl rfl rfl rfl rfl (rp_half (ss_ok hV) hV.2.1 (by omega) hwn hs (hs_cb ?_))
      rw [(hk k).2]
      show et_go none _ 267 50 _ [.int (Int32.ofNat (key k)), .ref mn] (ss_H G am aw mn tt F W _ _) _ _ _
      refine hs_k (x := Int32.ofNat 1) (p := 51) (by decide +kernel) ?_
      refine hs_iaddn (p := 52) (by decide +kernel) ?_
      refine hs_dup2 (p := 53) (by decide +kernel) ?_
      refine ss_rm hV (p := 54) (x := Int32.ofNat (rs_q key (key k) k)) (by decide +kernel) (by omega) (hM _ (hk k).1) ?_
      refine hs_k (x := Int32.ofNat 1) (p := 55) (by decide +kernel) ?_
      refine hs_iaddn (p := 56) (by decide +kernel) ?_
      refine ss_wm hV (p := 57) (by decide +kernel) (by omega) ?_
      refine hs_iinc1 (i := 5) (p := 60) (by decide +kernel) rfl (Nat.le_of_ble_eq_true rfl) ?_
      refine hs_goto (p := 28) (by decide +kernel) ?_
      refine ih (65536 - (k + 1)) (by omega) (by omega) ((hs_un (by omega)).trans hM0) (fun j hj => ?_) rfl
      by_cases e : j = key k
      · subst e
        rw [hs_us, rs_qs, if_pos rfl]
      · rw [hs_un (by omega), hM j hj, rs_qs, if_neg (fun h => e h.symm), Nat.add_zero]
theorem ss_1 (hV : ss_V G am aw mn tt fr F AA) {e wn : Nat} (he : e ≤ 2) (hwn : W (45 + 23 * e + 0) = Int32.ofNat wn) (hs : wn ≤ 6) {sh : Int32} {x6 : Option Value} {key : Nat → Nat} (hk : ∀ i, key i ≤ 32767 ∧ rp_hf W e wn sh (AA i) = Int32.ofNat (key i)) {k : Nat} (hk4 : k ≤ 32769) (hM : ∀ j, j < k → M j = Int32.ofNat 0) (h : ∀ M T', (∀ i, T' i = T i ∨ ∃ j, j < 65536 ∧ T' i = AA j) → Z (.inl none, (ss_H G am aw mn tt F W M T'), 0, 0)) : et_go none (d + 6) 267 3 [some (.ref am), some (.int (Int32.ofNat e)), some (.ref fr), some (.ref tt), some (.int sh), some (.int (Int32.ofNat k)), x6] [] (ss_H G am aw mn tt F W M T) 0 0 Z := by
  induction hm : 32769 - k using Nat.strongRecOn generalizing k M x6 with
  | _ z ih =>
    refine hs_iload (i := 5) (p := 5) (by decide +kernel) rfl ?_
    refine hs_kld (v := Value.int (Int32.ofNat 32768)) (p := 8) (by decide +kernel) ?_
    refine hs_br2n (c := .gt) (t := 25) (f := 11) (by decide +kernel) (by omega) (by omega) (fun (c8 : 32768 < k) => ?_) (fun (c8 : ¬ (32768 < k)) => ?_)
    · refine hs_k (x := Int32.ofNat 0) (p := 26) (by decide +kernel) ?_
      refine hs_istore (i := 5) (p := 28) (by decide +kernel) (Nat.le_of_ble_eq_true rfl) ?_
      refine ss_2 hV he hwn hs hk (k := 0) (by omega) (hM 0 (by omega)) (fun j hj => ?_) h
      rw [hM (j + 1) (by omega)]
      rfl
    · refine hs_aload (i := 0) (p := 12) (by decide +kernel) rfl ?_
      refine hm_get (ss_ok hV) (f := 32) (p := 15) (by decide +kernel) rfl hV.2.2.1.1 ?_
      refine hs_iload (i := 5) (p := 17) (by decide +kernel) rfl ?_
      refine hs_k (x := Int32.ofNat 0) (p := 18) (by decide +kernel) ?_
      refine ss_wm hV (p := 19) (by decide +kernel) (by omega) ?_
      refine hs_iinc1 (i := 5) (p := 22) (by decide +kernel) rfl (Nat.le_of_ble_eq_true rfl) ?_
      refine hs_goto (p := 3) (by decide +kernel) ?_
      refine ih (32769 - (k + 1)) (by omega) (by omega) (fun j hj => ?_) rfl
      by_cases e : j = k
      · subst e
        exact hs_us
      · exact (hs_un e).trans (hM j (by omega))
theorem rp_sorts (hV : ss_V G am aw mn tt fr F AA) {e wn : Nat} (he : e ≤ 2) (hwn : W (45 + 23 * e + 0) = Int32.ofNat wn) (hs : wn ≤ 6) {sh : Int32} (h : ∀ M T', (∀ i, T' i = T i ∨ ∃ j, j < 65536 ∧ T' i = AA j) → Z (.inl none, (ss_H G am aw mn tt F W M T'), 0, 0)) : et_go none (d + 6) 267 0 [some (.ref am), some (.int (Int32.ofNat e)), some (.ref fr), some (.ref tt), some (.int sh), none, none] [] (ss_H G am aw mn tt F W M T) 0 0 Z := by
  have hc : ∀ i, ∃ n, n ≤ 32767 ∧ rp_hf W e wn sh (AA i) = Int32.ofNat n := fun i => rp_hfr
  obtain ⟨key, hk⟩ := Classical.axiomOfChoice hc
  refine hs_k (x := Int32.ofNat 0) (p := 1) (by decide +kernel) ?_
  refine hs_istore (i := 5) (p := 3) (by decide +kernel) (Nat.le_of_ble_eq_true rfl) ?_
  exact ss_1 hV he hwn hs hk (k := 0) (by omega) (fun j hj => absurd hj (Nat.not_lt_zero _)) h
end RPS
end
section
/-! BY HAND, AND THE TYPES: what a typed heap holds -/
section HIA
variable {T : List et_D} {K : et_K} {G : eg_G} {a t : Nat}
theorem hi_int {lo hi : Int} {v : Value} (h : et_v K (.inl (lo, hi)) v) : ∃ x : Int32, v = .int x ∧ lo ≤ x.toInt ∧ x.toInt ≤ hi := h
theorem hi_nat {hi : Int} {v : Value} (h : et_v K (.inl (0, hi)) v) : ∃ c : Nat, (c : Int) ≤ hi ∧ v = .int (Int32.ofNat c) := by
  obtain ⟨x, rfl, h1, h2⟩ := h
  have h3 := x.toInt_lt
  refine ⟨x.toInt.toNat, by omega, ?_⟩
  congr 1
  apply Int32.toInt_inj.mp
  rw [hs_nint (by omega)]
  omega
theorem hi_natW {hi : Int} {x : Int32} (h : et_v K (.inl (0, hi)) (.int x)) : ∃ c : Nat, (c : Int) ≤ hi ∧ x = Int32.ofNat c := by
  obtain ⟨c, h1, h2⟩ := hi_nat h
  exact ⟨c, h1, Value.int.inj h2⟩
theorem hi_iv {lo hi : Int} {x : Int32} (h1 : lo ≤ x.toInt) (h2 : x.toInt ≤ hi) : et_v K (.inl (lo, hi)) (.int x) := ⟨x, rfl, h1, h2⟩
theorem hi_nv {hi : Int} {c : Nat} (h : (c : Int) ≤ hi) (hc : c < 2147483648) : et_v K (.inl (0, hi)) (.int (Int32.ofNat c)) := ⟨_, rfl, by rw [hs_nint hc]; omega, by rw [hs_nint hc]; exact h⟩
theorem hi_any {x : Int32} : et_v K (.inl (-2147483648, 2147483647)) (.int x) := ⟨x, rfl, x.le_toInt, by have := x.toInt_lt; omega⟩
theorem hi_ref {t : Nat} {v : Value} (h : et_v K (.inr (.inr (0, t))) v) : ∃ a, v = .ref a ∧ K a = some t := by
  rcases h with ⟨h, -⟩ | ⟨-, a, e, h⟩
  · exact absurd h (by decide)
  · exact ⟨a, e, h⟩
theorem hi_at (hH : et_H T K G) (ha : K a = some t) (ht : 2 ≤ t) : eg_NC ≤ a ∧ a < G.2 := ⟨(hH.2.2 a t ha).2.2.1 ht, (hH.2.2 a t ha).1⟩
theorem hi_ne {b u : Nat} (ha : K a = some t) (hb : K b = some u) (h : t ≠ u) : a ≠ b := fun e => by
  subst e
  rw [ha] at hb
  exact h (Option.some.inj hb)
theorem hi_obj {ci n : Nat} {ps : List et_P} (hH : et_H T K G) (ha : K a = some t) (hT : T[t]? = some (.inl (ci, ps))) (hn : ps.length = n) : (∃ F : Nat → Value, eg_at G a = .inr (ci, (List.range n).map F) ∧ ∀ k p, ps[k]? = some p → et_sk p = true ∨ et_v K p (F k)) ∧ et_cx (.inl (ci, ps)) a (eg_at G a) := by
  obtain ⟨-, -, -, d, hd, hc, hx⟩ := hH.2.2 a t ha
  rw [hT] at hd
  cases hd
  refine ⟨?_, hx⟩
  obtain ⟨fs, e, el, ef⟩ := hc
  refine ⟨fun k => fs.getD k .null, ?_, fun k p hk => ?_⟩
  · rw [e]
    congr 2
    apply List.ext_getElem?
    intro j
    rw [List.getElem?_map]
    by_cases hj : j < n
    · rw [List.getElem?_range hj]
      show fs[j]? = some (fs.getD j .null)
      rw [List.getD_eq_getElem?_getD, List.getElem?_eq_getElem (by omega)]
      rfl
    · rw [List.getElem?_eq_none (by omega), List.getElem?_eq_none (by rw [List.length_range]; omega)]
      rfl
  · obtain ⟨v, h1, h2⟩ := ef k p hk
    show et_sk p = true ∨ et_v K p (fs.getD k .null)
    rw [List.getD_eq_getElem?_getD, h1]
    exact h2
theorem hi_arr {kd n : Nat} {ss : List (Nat × Nat × et_P)} (hH : et_H T K G) (ha : K a = some t) (hT : T[t]? = some (.inr (kd, n, ss))) (hn : 0 < n) (hk : kd = 0 ∨ kd = 1 ∨ kd = 3 ∨ kd = 4) : ∃ f : Nat → Int32, eg_at G a = .inl (kd, (n, .inl f)) ∧ (∀ s ∈ ss, ∀ i, s.1 ≤ i → i ≤ s.2.1 → i < n → et_v K s.2.2 (.int (f i))) ∧ et_cx (.inr (kd, n, ss)) a (eg_at G a) := by
  obtain ⟨-, -, -, d, hd, hc, hx⟩ := hH.2.2 a t ha
  rw [hT] at hd
  cases hd
  obtain ⟨y, e, ey, er, es⟩ := hc
  obtain ⟨v, hv⟩ := er 0 hn
  obtain ⟨f, h1, -⟩ := et_rd_i hv hk
  obtain ⟨y1, y2⟩ := y
  have h1 : y2 = .inl f := h1
  have ey : y1 = n := ey
  subst h1 ey
  refine ⟨f, e, fun s hs i i1 i2 i3 => ?_, hx⟩
  obtain ⟨u, u1, u2⟩ := es s hs i i1 i2 i3
  obtain ⟨f', h2, h3⟩ := et_rd_i u1 hk
  cases h2
  rw [← h3]
  exact u2
theorem hi_arrL {n : Nat} {ss : List (Nat × Nat × et_P)} (hH : et_H T K G) (ha : K a = some t) (hT : T[t]? = some (.inr (2, n, ss))) (hn : 0 < n) : ∃ f : Nat → Int64, eg_at G a = .inl (2, (n, .inr (.inl f))) := by
  obtain ⟨-, -, -, d, hd, hc, hx⟩ := hH.2.2 a t ha
  rw [hT] at hd
  cases hd
  obtain ⟨y, e, ey, er, es⟩ := hc
  obtain ⟨v, hv⟩ := er 0 hn
  obtain ⟨f, h1, -⟩ := et_rd_l hv
  obtain ⟨y1, y2⟩ := y
  have h1 : y2 = .inr (.inl f) := h1
  have ey : y1 = n := ey
  subst h1 ey
  exact ⟨f, e⟩
/-- an int array goes on being typed -/
theorem hi_uarr {kd n : Nat} {ss : List (Nat × Nat × et_P)} {f : Nat → Int32} (hH : et_H T K G) (ha : K a = some t) (ht : 2 ≤ t) (hT : T[t]? = some (.inr (kd, n, ss))) (hk : kd = 0 ∨ kd = 1 ∨ kd = 3 ∨ kd = 4) (hs : ∀ s ∈ ss, ∀ i, s.1 ≤ i → i ≤ s.2.1 → i < n → et_v K s.2.2 (.int (f i))) (hx : kd = 0 → (n = 12741 ∨ n = 11900) → gq_G f) : et_H T K (eg_u G a (.inl (kd, (n, .inl f)))) := by
  have hrd : ∀ i, eg_rd kd (n, .inl f) i = some (.int (f i)) := fun i => by
    unfold eg_rd
    dsimp only
    rw [if_pos hk]
  refine et_H_u hH ha ht hT ⟨_, rfl, rfl, fun i _ => ⟨_, hrd i⟩, fun s h i i1 i2 i3 => ⟨_, hrd i, hs s h i i1 i2 i3⟩⟩ (fun e hn m W e2 => ?_)
  subst e
  cases e2
  exact hx rfl hn
theorem hi_uarrL {n : Nat} {f : Nat → Int64} (hH : et_H T K G) (ha : K a = some t) (ht : 2 ≤ t) (hT : T[t]? = some (.inr (2, n, []))) : et_H T K (eg_u G a (.inl (2, (n, .inr (.inl f))))) :=
  et_H_u hH ha ht hT ⟨_, rfl, rfl, fun i _ => ⟨.long (f i), rfl⟩, fun s h => absurd h List.not_mem_nil⟩ (fun e => absurd e (by decide))
theorem hi_frM {M : et_M} {c : eg_C} (hH : et_H T K G) (ha : K a = some t) (ht : 2 ≤ t) (hc : ∀ i, et_mm M t i = false → et_pl c i = et_pl (eg_at G a) i) : et_fr M K G (eg_u G a c) := by
  refine ⟨Nat.le_refl _, fun a' t' ha' i hi' => ?_⟩
  by_cases e : a' = a
  · subst e
    rw [ha] at ha'
    cases ha'
    rw [et_at_us ((hH.2.2 a' t ha).2.2.1 ht)]
    exact hc i hi'
  · rw [et_at_u e]
end HIA
/-! the reference's object -/
def et_tps (d : Option et_D) : List et_P := match d with
  | some (.inl (_, ps)) => ps
  | _ => []
def et_tss (d : Option et_D) : List (Nat × Nat × et_P) := match d with
  | some (.inr (_, _, ss)) => ss
  | _ => []
def et_m13 : List et_P := et_tps et_TT[13]?
def et_w46 : List (Nat × Nat × et_P) := et_tss et_TT[46]?
theorem et_t13 : et_TT[13]? = some (.inl (11, et_m13)) := rfl
theorem et_t46 : et_TT[46]? = some (.inr (0, 12741, et_w46)) := rfl
theorem et_t47 : et_TT[47]? = some (.inr (0, 11900, et_w46)) := rfl
def hi_F (K : et_K) (F : Nat → Value) : Prop := ∀ k p, et_m13[k]? = some p → et_v K p (F k)
def hi_X (F : Nat → Value) : Prop := ∀ s x y : Int32, F 29 = .int s → F 25 = .int x → F 26 = .int y → ¬ s = 0 → ¬ x = y
def hi_W (K : et_K) (W : Nat → Int32) : Prop := ∀ s ∈ et_w46, ∀ i, s.1 ≤ i → i ≤ s.2.1 → et_v K s.2.2 (.int (W i))
section HIB
variable {K : et_K} {G : eg_G} {am aw : Nat} {F : Nat → Value} {W : Nat → Int32}
theorem hi_pF {F : Nat → Value} {k : Nat} (hk : k < 36) : et_pl (hm_F F) k = some (F k) := by
  show ((List.range 36).map F)[k]? = _
  rw [List.getElem?_map, List.getElem?_range hk]
  rfl
theorem hi_pF0 {F : Nat → Value} {k : Nat} (hk : ¬ k < 36) : et_pl (hm_F F) k = none := by
  show ((List.range 36).map F)[k]? = _
  exact List.getElem?_eq_none (by rw [List.length_map, List.length_range]; omega)
theorem hi_pW {W : Nat → Int32} {k : Nat} (hk : k < 12741) : et_pl (hm_W W) k = some (.int (W k)) := by
  show (if k < 12741 then some (Value.int (W k)) else none) = _
  rw [if_pos hk]
theorem hi_w46 : ∀ s ∈ et_w46, s.2.1 < 126 := by decide +kernel
theorem hi_m13 : et_m13.all (fun p => !et_sk p) = true := by decide +kernel
theorem hi_mod (hH : et_H et_TT K G) (ha : K am = some 13) : ∃ (F : Nat → Value) (W : Nat → Int32) (aw : Nat), hm_ok G am aw ∧ eg_at G am = hm_F F ∧ eg_at G aw = hm_W W ∧ F 1 = .ref aw ∧ K aw = some 46 ∧ hi_F K F ∧ hi_X F ∧ hi_W K W ∧ gq_G W ∧ G = hm_H G am aw F W := by
  obtain ⟨⟨F, hF, hFt⟩, hFx⟩ := hi_obj (n := 36) hH ha et_t13 rfl
  have hFt : hi_F K F := fun k p hk => (hFt k p hk).resolve_left (fun h => by
    have := List.all_eq_true.mp hi_m13 p (List.mem_of_getElem? hk)
    rw [h] at this
    cases this)
  obtain ⟨aw, hw, hKw⟩ := hi_ref (hFt 1 _ rfl)
  obtain ⟨W, hW, hWt, hWx⟩ := hi_arr hH hKw et_t46 (by decide) (.inl rfl)
  have h1 := hi_at hH ha (by decide)
  have h2 := hi_at hH hKw (by decide)
  have hne : am ≠ aw := hi_ne ha hKw (by decide)
  refine ⟨F, W, aw, ⟨h1, h2, hne⟩, hF, hW, hw, hKw, hFt, ?_, fun s hs i i1 i2 => hWt s hs i i1 i2 (Nat.lt_of_le_of_lt i2 (Nat.lt_of_lt_of_le (hi_w46 s hs) (by decide))), hWx rfl (.inl rfl) _ _ hW, ?_⟩
  · intro s x y e1 e2 e3
    rw [hF] at hFx
    exact hFx.2 rfl s x y ((hi_pF (by decide)).trans (congrArg some e1)) ((hi_pF (by decide)).trans (congrArg some e2)) ((hi_pF (by decide)).trans (congrArg some e3))
  · unfold hm_H
    rw [hm_same (show eg_at G am = hm_F F from hF) h1.1, hm_same (show eg_at G aw = hm_W W from hW) h2.1]
theorem hi_fin {F' : Nat → Value} {W' : Nat → Int32} (hH : et_H et_TT K G) (ha : K am = some 13) (hw : K aw = some 46) (hF : hi_F K F') (hX : hi_X F') (hW : hi_W K W') (hG : gq_G W') : et_H et_TT K (hm_H G am aw F' W') := by
  unfold hm_H
  refine hi_uarr (t := 46) ?_ hw (by decide) et_t46 (.inl rfl) (fun s hs i i1 i2 _ => hW s hs i i1 i2) (fun _ _ => hG)
  refine et_H_u hH ha (by decide) et_t13 ⟨_, rfl, ?_, fun k p hk => ?_⟩ ⟨fun h => absurd h (by decide), fun _ s x y e1 e2 e3 => ?_⟩
  · rw [List.length_map, List.length_range]
    rfl
  · have hk36 : k < 36 := (List.getElem?_eq_some_iff.mp hk).1
    exact ⟨F' k, hi_pF hk36, .inr (hF k p hk)⟩
  · rw [hi_pF (by decide)] at e1 e2 e3
    exact hX s x y (Option.some.inj e1) (Option.some.inj e2) (Option.some.inj e3)
theorem hi_fr {M : et_M} {F' : Nat → Value} {W' : Nat → Int32} (hH : et_H et_TT K G) (ha : K am = some 13) (hw : K aw = some 46) (eF : eg_at G am = hm_F F) (eW : eg_at G aw = hm_W W) (hF : ∀ i, et_mm M 13 i = false → F' i = F i) (hW : ∀ i, i < 12741 → et_mm M 46 i = false → W' i = W i) : et_fr M K G (hm_H G am aw F' W') := by
  have hne : aw ≠ am := hi_ne hw ha (by decide)
  have f1 : et_fr M K G (eg_u G am (hm_F F')) := hi_frM hH ha (by decide) (fun i hi => by
    rw [eF]
    by_cases h : i < 36
    · rw [hi_pF h, hi_pF h, hF i hi]
    · rw [hi_pF0 h, hi_pF0 h])
  refine ⟨Nat.le_refl _, fun a t ht i hi => ?_⟩
  unfold hm_H
  by_cases e : a = aw
  · subst e
    rw [hw] at ht
    cases ht
    rw [et_at_us (hi_at hH hw (by decide)).1, eW]
    by_cases h : i < 12741
    · rw [hi_pW h, hi_pW h, hW i h hi]
    · show (if i < 12741 then some (Value.int (W' i)) else none) = (if i < 12741 then some (Value.int (W i)) else none)
      rw [if_neg h, if_neg h]
  · rw [et_at_u e]
    exact f1.2 a t ht i hi
end HIB
theorem et_go.mono {sc : eg_Sc} {d k pc ck sk : Nat} {L : eg_Ls} {st : List Value} {G : eg_G} {Z Z' : eg_O → Prop} (h : et_go sc d k pc L st G ck sk Z) (hz : ∀ u, Z u → Z' u) : et_go sc d k pc L st G ck sk Z' := by
  obtain ⟨o, h1, h2⟩ := h
  exact ⟨o, h1, hz o h2⟩
end
section
/-! CONTRACTS BY HAND: the reference's texts -/
section HJA
variable {K : et_K} {G : eg_G} {am aw : Nat} {F F1 : Nat → Value} {W W1 : Nat → Int32}
theorem hi_Fi (h : ∀ k, k < 36 → et_v K (et_m13.getD k (.inl (0, 0))) (F k)) : hi_F K F := fun k p hk => by
  have hk36 : k < 36 := (List.getElem?_eq_some_iff.mp hk).1
  have h1 := h k hk36
  rw [List.getD_eq_getElem?_getD, hk] at h1
  exact h1
theorem hi_Fe (h : hi_F K F) (k : Nat) (hk : k < 36) : et_v K (et_m13.getD k (.inl (0, 0))) (F k) := by
  have h1 : et_m13[k]? = some (et_m13[k]'(show k < et_m13.length from hk)) := List.getElem?_eq_getElem _
  have h2 := h k _ h1
  rw [List.getD_eq_getElem?_getD, h1]
  exact h2
theorem hi_QF (h : hi_F K F) (hQ : rp_Q F F1) : hi_F K F1 := by
  obtain ⟨h1, h2, ⟨a, b, c, e, q, ⟨a1, b1, c1, e1, q1⟩, h3, h4, h5, h6, h7⟩, x, y, z, h8, h9, h10⟩ := hQ
  refine hi_Fi (fun k hk => ?_)
  have hc : (13 < k ∨ k = 1 ∨ k = 2 ∨ k = 3 ∨ k = 4 ∨ k = 11) ∨ k = 0 ∨ k = 5 ∨ k = 6 ∨ k = 7 ∨ k = 8 ∨ k = 9 ∨ k = 10 ∨ k = 12 ∨ k = 13 := by omega
  rcases hc with hc | rfl | rfl | rfl | rfl | rfl | rfl | rfl | rfl | rfl
  · rw [h1 k hc]
    exact hi_Fe h k hk
  · rw [h8]; exact hi_any
  · rw [h2]; exact hi_nv (hi := 400) (by omega) (by omega)
  · rw [h3]; exact hi_nv (hi := 400) (by omega) (by omega)
  · rw [h6]; exact hi_nv (hi := 400) (by omega) (by omega)
  · rw [h4]; exact hi_nv (hi := 400) (by omega) (by omega)
  · rw [h7]; exact hi_nv (hi := 6) (by omega) (by omega)
  · rw [h9]; exact hi_any
  · rw [h5]; exact hi_nv (hi := 400) (by omega) (by omega)
  · rw [h10]; exact hi_any
theorem hi_QX (h : hi_X F) (hQ : rp_Q F F1) : hi_X F1 := fun s x y e1 e2 e3 => h s x y ((hQ.1 29 (by decide)).symm.trans e1) ((hQ.1 25 (by decide)).symm.trans e2) ((hQ.1 26 (by decide)).symm.trans e3)
def hi_MP : et_M := [(13, 0, 0), (13, 5, 10), (13, 12, 13), (46, 0, 2), (46, 114, 12740), (25, 0, 3)]
theorem hi_MPF {i : Nat} (h : et_mm hi_MP 13 i = false) : i ≠ 0 ∧ ¬ (5 ≤ i ∧ i ≤ 10) ∧ ¬ (12 ≤ i ∧ i ≤ 13) := by
  unfold et_mm hi_MP at h
  simp only [List.any_cons, List.any_nil, Bool.or_eq_false_iff, Bool.and_eq_false_iff, decide_eq_false_iff_not] at h
  simp at h
  omega
theorem hi_MPW {i : Nat} (h : et_mm hi_MP 46 i = false) : ¬ i ≤ 2 ∧ ¬ (114 ≤ i ∧ i ≤ 12740) := by
  unfold et_mm hi_MP at h
  simp at h
  omega
theorem hi_QfF (hQ : rp_Q F F1) (i : Nat) (h : et_mm hi_MP 13 i = false) : F1 i = F i := by
  have := hi_MPF h
  exact hQ.1 i (by omega)
/-- what the texts' calls start from -/
theorem hi_txt (hH : et_H et_TT K G) (ha : K am = some 13) : ∃ (F : Nat → Value) (W : Nat → Int32) (aw ta tp pt bg st dp ai : Nat) (TP IK : Nat → Int32), rp_B G am aw ta F tp TP ∧ (pt ≤ 400 ∧ bg ≤ 400 ∧ st ≤ 400 ∧ dp ≤ 6) ∧ F = rp_F F pt bg st dp ∧ (F 18 = .ref ai ∧ ai ≠ am ∧ ai ≠ aw ∧ (eg_NC ≤ ai ∧ ai < G.2) ∧ eg_at G ai = .inl (3, (4, .inl IK)) ∧ K ai = some 25 ∧ (∀ i, i < 4 → et_v K (.inl (0, 1)) (.int (IK i)))) ∧ (eg_at G am = hm_F F ∧ eg_at G aw = hm_W W ∧ K aw = some 46 ∧ hi_F K F ∧ hi_X F ∧ hi_W K W ∧ gq_G W) ∧ G = hm_H G am aw F W := by
  obtain ⟨F, W, aw, hA, eF, eW, hw, hKw, hF, hX, hW, hG, e⟩ := hi_mod hH ha
  obtain ⟨ta, ht, hKt⟩ := hi_ref (hF 4 _ rfl)
  obtain ⟨TP, eT, -⟩ := hi_arr (kd := 1) (n := 400) hH hKt rfl (by decide) (.inr (.inl rfl))
  obtain ⟨ai, hi, hKi⟩ := hi_ref (hF 18 _ rfl)
  obtain ⟨IK, eI, hI, -⟩ := hi_arr (kd := 3) (n := 4) hH hKi rfl (by decide) (.inr (.inr (.inl rfl)))
  obtain ⟨tp, t1, t2⟩ := hi_nat (hF 5 _ rfl)
  obtain ⟨pt, p1, p2⟩ := hi_nat (hF 6 _ rfl)
  obtain ⟨bg, b1, b2⟩ := hi_nat (hF 8 _ rfl)
  obtain ⟨st, s1, s2⟩ := hi_nat (hF 12 _ rfl)
  obtain ⟨dp, d1, d2⟩ := hi_nat (hF 9 _ rfl)
  refine ⟨F, W, aw, ta, tp, pt, bg, st, dp, ai, TP, IK, ⟨hA, ⟨(hi_at hH hKt (by decide)).2, hi_ne hKt ha (by decide), hi_ne hKt hKw (by decide), eT⟩, hw, ht, t2, by omega⟩, ⟨by omega, by omega, by omega, by omega⟩, ?_, ⟨hi, hi_ne hKi ha (by decide), hi_ne hKi hKw (by decide), hi_at hH hKi (by decide), eI, hKi, fun i h => hI _ List.mem_cons_self i (Nat.zero_le _) (by show i ≤ 3; omega) h⟩, ⟨eF, eW, hKw, hF, hX, hW, hG⟩, e⟩
  funext j
  unfold rp_F
  by_cases h6 : j = 6
  · rw [if_pos h6, h6]; exact p2
  · by_cases h8 : j = 8
    · rw [if_neg h6, if_pos h8, h8]; exact b2
    · by_cases h12 : j = 12
      · rw [if_neg h6, if_neg h8, if_pos h12, h12]; exact s2
      · by_cases h9 : j = 9
        · rw [if_neg h6, if_neg h8, if_neg h12, if_pos h9, h9]; exact d2
        · rw [if_neg h6, if_neg h8, if_neg h12, if_neg h9]
theorem hi_KH {ai : Nat} {IK : Nat → Int32} {G1 : eg_G} (hH : et_H et_TT K G) (hKi : K ai = some 25) (hI : ∀ i, i < 4 → et_v K (.inl (0, 1)) (.int (IK i))) (eI : eg_at G ai = .inl (3, (4, .inl IK))) (hK : rp_K G ai G1) : et_H et_TT K G1 ∧ et_fr hi_MP K G G1 ∧ ∀ b, b ≠ ai → eg_at G1 b = eg_at G b := by
  rcases hK with rfl | ⟨n, hn, K', e1, rfl⟩
  · exact ⟨hH, et_fr.rf, fun _ _ => rfl⟩
  · rw [eI] at e1
    cases e1
    refine ⟨hi_uarr (t := 25) (kd := 3) (n := 4) hH hKi (by decide) rfl (.inr (.inr (.inl rfl))) (fun s hs i i1 i2 i3 => ?_) (fun h => absurd h (by decide)), hi_frM hH hKi (by decide) (fun i hi => ?_), fun b hb => et_at_u hb⟩
    · obtain rfl : s = (0, 3, .inl (0, 1)) := by simpa using hs
      show et_v K (.inl (0, 1)) (.int (upd IK n 0 i))
      by_cases e : i = n
      · rw [e, hs_us]; exact hi_iv (by decide) (by decide)
      · rw [hs_un e]; exact hI i i3
    · rw [eI]
      show (if i < 4 then eg_rd 3 (4, .inl (upd IK n 0)) i else none) = (if i < 4 then eg_rd 3 (4, .inl IK) i else none)
      by_cases h4 : i < 4
      · exfalso
        unfold et_mm hi_MP at hi
        simp at hi
        omega
      · rw [if_neg h4, if_neg h4]
/-- the end of a text's call -/
theorem hi_end {ai : Nat} {IK : Nat → Int32} {G1 : eg_G} {v : Int32} (hH : et_H et_TT K G) (ha : K am = some 13) (hKw : K aw = some 46) (eF : eg_at G am = hm_F F) (eW : eg_at G aw = hm_W W) (hF : hi_F K F) (hX : hi_X F) (hKi : K ai = some 25) (hI : ∀ i, i < 4 → et_v K (.inl (0, 1)) (.int (IK i))) (eI : eg_at G ai = .inl (3, (4, .inl IK))) (hK : rp_K G ai G1) (hQ : rp_Q F F1) (hW1 : hi_W K W1) (hG1 : gq_G W1) (hfr : ∀ i, 2 < i → i < 114 → W1 i = W i) : ∃ e ∈ [((.inl (some (.inl (et_mn, et_mx))) : Option et_P ⊕ Nat), 0, 0)], ∃ K' : et_K, et_ex K K' ∧ et_fr hi_MP K G (hm_H G1 am aw F1 W1) ∧ et_H et_TT K' (hm_H G1 am aw F1 W1) ∧ (match e.1 with
    | .inl (some p) => ∃ u, (.inl (some (.int v)) : eg_R) = .inl (some u) ∧ et_v K' p u
    | .inl none => (.inl (some (.int v)) : eg_R) = .inl none
    | .inr x => (.inl (some (.int v)) : eg_R) = .inr x) ∧ 0 ≤ e.2.1 ∧ 0 ≤ e.2.2 := by
  obtain ⟨g1, g2, g3⟩ := hi_KH hH hKi hI eI hK
  have n1 : am ≠ ai := hi_ne ha hKi (by decide)
  have n2 : aw ≠ ai := hi_ne hKw hKi (by decide)
  refine ⟨_, List.mem_cons_self, K, et_ex.rf, g2.tr et_ex.rf (hi_fr g1 ha hKw ((g3 am n1).trans eF) ((g3 aw n2).trans eW) (hi_QfF hQ) (fun i h h' => ?_)), hi_fin g1 ha hKw (hi_QF hF hQ) (hi_QX hX hQ) hW1 hG1, ⟨_, rfl, hi_any⟩, Nat.le_refl _, Nat.le_refl _⟩
  have := hi_MPW h'
  exact hfr i (by omega) (by omega)
theorem hi_W1 {p m : Nat} (hm : m < 1000) (hp : ∀ s ∈ et_w46, s.1 ≤ p → p ≤ s.2.1 → s.2.2 = .inl (0, (m : Int))) (hW : hi_W K W) (h1 : ∀ i, i < 126 → i ≠ p → W1 i = W i) (h2 : ∃ c, c ≤ m ∧ W1 p = Int32.ofNat c) : hi_W K W1 := fun s hs i i1 i2 => by
  by_cases e : i = p
  · subst e
    obtain ⟨c, c1, c2⟩ := h2
    rw [hp s hs i1 i2, c2]
    exact hi_nv (by omega) (by omega)
  · rw [h1 i (Nat.lt_of_le_of_lt i2 (hi_w46 s hs)) e]
    exact hW s hs i i1 i2
end HJA
theorem hi_len2 {as : List Value} (h : as.length = 2) : ∃ a b, as = [a, b] := by
  match as, h with
  | [a, b], _ => exact ⟨a, b, rfl⟩
theorem hi_len3 {as : List Value} (h : as.length = 3) : ∃ a b c, as = [a, b, c] := by
  match as, h with
  | [a, b, c], _ => exact ⟨a, b, c, rfl⟩
theorem hi_len5 {as : List Value} (h : as.length = 5) : ∃ a b c d e, as = [a, b, c, d, e] := by
  match as, h with
  | [a, b, c, d, e], _ => exact ⟨a, b, c, d, e, rfl⟩
def hq_rule : et_Co := (180, [.inr (.inr (0, 13))], hi_MP, [(.inl (some (.inl (et_mn, et_mx))), 0, 0)], 40)
def hq_turner : et_Co := (206, [.inr (.inr (0, 13))], hi_MP, [(.inl (some (.inl (et_mn, et_mx))), 0, 0)], 40)
def hq_claim : et_Co := (207, [.inr (.inr (0, 13)), .inl (et_mn, et_mx), .inl (et_mn, et_mx)], hi_MP, [(.inl (some (.inl (et_mn, et_mx))), 0, 0)], 40)
theorem hi_mL180 : eg_mL 180 = 2 := by decide +kernel
theorem hi_mL206 : eg_mL 206 = 1 := by decide +kernel
theorem hi_mL207 : eg_mL 207 = 4 := by decide +kernel
theorem hc_rule : et_cv et_TT hq_rule := by
  intro w as d2 hH hd hl hv
  obtain ⟨v, rfl⟩ := List.length_eq_one_iff.mp (show as.length = 1 from hl)
  obtain ⟨am, rfl, ha⟩ := hi_ref (hv 0 _ _ rfl rfl)
  obtain ⟨F, W, aw, ta, tp, pt, bg, st, dp, ai, TP, IK, hB, ⟨b1, b2, b3, b4⟩, eFF, ⟨hi, i1, i2, i3, i4, hKi, hI⟩, ⟨eF, eW, hKw, hF, hX, hW, hG⟩, e⟩ := hi_txt hH ha
  obtain ⟨r, r1, r2⟩ := hi_natW (hW (0, 1, .inl (0, 4)) (List.mem_of_getElem? (i := 0) rfl) 0 (by decide) (by decide))
  obtain ⟨d, rfl⟩ : ∃ d, d2 = d + 33 := ⟨d2 - 33, by have : 40 ≤ d2 := hd; omega⟩
  rw [hi_mL180]
  have h0 := rp_rule (d := d) (Z := fun u => ∃ e ∈ hq_rule.2.2.2.1, ∃ K' : et_K, et_ex w.1 K' ∧ et_fr hi_MP w.1 w.2.2 u.2.1 ∧ et_H et_TT K' u.2.1 ∧ (match e.1 with
    | .inl (some p) => ∃ v, u.1 = .inl (some v) ∧ et_v K' p v
    | .inl none => u.1 = .inl none
    | .inr x => u.1 = .inr x) ∧ u.2.2.1 ≤ e.2.1 ∧ u.2.2.2 ≤ e.2.2) hB (pt := pt) (bg := bg) (st := st) b4 (r := r) (by omega) r2 hi i1 i2 i3 i4 (fun v F1 W1 G1 hQ hK h1 h2 h3 => hi_end hH ha hKw eF eW hF hX hKi hI i4 hK hQ (hi_W1 (p := 0) (m := 4) (by decide) (by decide +kernel) hW h1 h2) (h3 hG) (fun i j1 j2 => h1 i (by omega) (by omega)))
  rw [← eFF, ← e] at h0
  exact h0
theorem hc_turner : et_cv et_TT hq_turner := by
  intro w as d2 hH hd hl hv
  obtain ⟨v, rfl⟩ := List.length_eq_one_iff.mp (show as.length = 1 from hl)
  obtain ⟨am, rfl, ha⟩ := hi_ref (hv 0 _ _ rfl rfl)
  obtain ⟨F, W, aw, ta, tp, pt, bg, st, dp, ai, TP, IK, hB, ⟨b1, b2, b3, b4⟩, eFF, ⟨hi, i1, i2, i3, i4, hKi, hI⟩, ⟨eF, eW, hKw, hF, hX, hW, hG⟩, e⟩ := hi_txt hH ha
  obtain ⟨r, r1, r2⟩ := hi_natW (hW (0, 1, .inl (0, 4)) (List.mem_of_getElem? (i := 0) rfl) 1 (by decide) (by decide))
  obtain ⟨d, rfl⟩ : ∃ d, d2 = d + 33 := ⟨d2 - 33, by have : 40 ≤ d2 := hd; omega⟩
  rw [hi_mL206]
  have h0 := rp_turner (d := d) (Z := fun u => ∃ e ∈ hq_turner.2.2.2.1, ∃ K' : et_K, et_ex w.1 K' ∧ et_fr hi_MP w.1 w.2.2 u.2.1 ∧ et_H et_TT K' u.2.1 ∧ (match e.1 with
    | .inl (some p) => ∃ v, u.1 = .inl (some v) ∧ et_v K' p v
    | .inl none => u.1 = .inl none
    | .inr x => u.1 = .inr x) ∧ u.2.2.1 ≤ e.2.1 ∧ u.2.2.2 ≤ e.2.2) hB (pt := pt) (bg := bg) (st := st) b4 (r := r) (by omega) r2 hi i1 i2 i3 i4 (fun v F1 W1 G1 hQ hK h1 h2 h3 => hi_end hH ha hKw eF eW hF hX hKi hI i4 hK hQ (hi_W1 (p := 1) (m := 4) (by decide) (by decide +kernel) hW h1 h2) (h3 hG) (fun i j1 j2 => h1 i (by omega) (by omega)))
  rw [← eFF, ← e] at h0
  exact h0
theorem hc_claim : et_cv et_TT hq_claim := by
  intro w as d2 hH hd hl hv
  obtain ⟨v, v1, v2, rfl⟩ := hi_len3 (show as.length = 3 from hl)
  obtain ⟨am, rfl, ha⟩ := hi_ref (hv 0 _ _ rfl rfl)
  obtain ⟨ey, rfl, -⟩ := hi_int (hv 1 _ _ rfl rfl)
  obtain ⟨ru, rfl, -⟩ := hi_int (hv 2 _ _ rfl rfl)
  obtain ⟨F, W, aw, ta, tp, pt, bg, st, dp, ai, TP, IK, hB, ⟨b1, b2, b3, b4⟩, eFF, ⟨hi, i1, i2, i3, i4, hKi, hI⟩, ⟨eF, eW, hKw, hF, hX, hW, hG⟩, e⟩ := hi_txt hH ha
  obtain ⟨r, r1, r2⟩ := hi_natW (hW (2, 2, .inl (0, 6)) (List.mem_of_getElem? (i := 1) rfl) 2 (by decide) (by decide))
  obtain ⟨ec, e1, e2⟩ := hi_natW (hW (4, 4, .inl (0, 3)) (List.mem_of_getElem? (i := 3) rfl) 4 (by decide) (by decide))
  obtain ⟨rc, c1, c2⟩ := hi_natW (hW (0, 1, .inl (0, 4)) (List.mem_of_getElem? (i := 0) rfl) 0 (by decide) (by decide))
  obtain ⟨d, rfl⟩ : ∃ d, d2 = d + 33 := ⟨d2 - 33, by have : 40 ≤ d2 := hd; omega⟩
  obtain ⟨z1, hz1, -⟩ := hi_int (hF 13 _ rfl)
  obtain ⟨z2, hz2, -⟩ := hi_int (hF 10 _ rfl)
  rw [hi_mL207]
  have h0 := rp_claim (d := d) (Z := fun u => ∃ e ∈ hq_claim.2.2.2.1, ∃ K' : et_K, et_ex w.1 K' ∧ et_fr hi_MP w.1 w.2.2 u.2.1 ∧ et_H et_TT K' u.2.1 ∧ (match e.1 with
    | .inl (some p) => ∃ v, u.1 = .inl (some v) ∧ et_v K' p v
    | .inl none => u.1 = .inl none
    | .inr x => u.1 = .inr x) ∧ u.2.2.1 ≤ e.2.1 ∧ u.2.2.2 ≤ e.2.2) hB (pt := pt) (bg := bg) (st := st) b4 (r := r) (ey := ey) (ru := ru) (by omega) r2 (by omega) e2 (by omega) c2 ⟨⟨z1, hz1⟩, z2, hz2⟩ hi i1 i2 i3 i4 (fun v F1 W1 G1 hQ hK h1 h2 h3 h4 => hi_end hH ha hKw eF eW hF hX hKi hI i4 hK hQ (fun s hs i j1 j2 => ?_) (h4 hG) (fun i j1 j2 => h1 i (by omega) (by omega))) b2
  · rw [← eFF, ← e] at h0
    exact h0
  · have hlt := hi_w46 s hs
    by_cases h5 : i < 114
    · by_cases h6 : i = 2
      · subst h6
        obtain ⟨c, g1, g2⟩ := h2
        rw [(by decide +kernel : ∀ s ∈ et_w46, s.1 ≤ 2 → 2 ≤ s.2.1 → s.2.2 = .inl (0, 6)) s hs j1 j2, g2]
        exact hi_nv (by omega) (by omega)
      · rw [h1 i h5 h6]
        exact hW s hs i j1 j2
    · obtain ⟨c, hc⟩ : ∃ c, i = 114 + 2 * c ∨ i = 114 + 2 * c + 1 := ⟨(i - 114) / 2, by omega⟩
      have hc6 : c < 6 := by omega
      rcases hc with rfl | rfl
      · rcases (h3 c hc6).1 with h7 | ⟨n, n1, n2⟩
        · rw [h7]
          exact hW s hs _ j1 j2
        · rw [(by decide +kernel : ∀ c ∈ List.range 6, ∀ s ∈ et_w46, s.1 ≤ 114 + 2 * c → 114 + 2 * c ≤ s.2.1 → s.2.2 = .inl (0, 2)) c (List.mem_range.mpr hc6) s hs j1 j2, n2]
          exact hi_nv (by omega) (by omega)
      · rcases (h3 c hc6).2 with h7 | ⟨n, n1, n2⟩
        · rw [h7]
          exact hW s hs _ j1 j2
        · rw [(by decide +kernel : ∀ c ∈ List.range 6, ∀ s ∈ et_w46, s.1 ≤ 114 + 2 * c + 1 → 114 + 2 * c + 1 ≤ s.2.1 → s.2.2 = .inl (0, 3)) c (List.mem_range.mpr hc6) s hs j1 j2, n2]
          exact hi_nv (by omega) (by omega)
end
section
/-! CONTRACTS BY HAND: image, back, holdsLine -/
section HKA
variable {K : et_K} {G : eg_G} {am aw : Nat} {F F1 : Nat → Value} {W W1 : Nat → Int32}
abbrev hi_Z (T : List et_D) (w : et_Wd) (M : et_M) (es : List ((Option et_P ⊕ Nat) × Nat × Nat)) : eg_O → Prop := fun u => ∃ e ∈ es, ∃ K' : et_K, et_ex w.1 K' ∧ et_fr M w.1 w.2.2 u.2.1 ∧ et_H T K' u.2.1 ∧ (match e.1 with
    | .inl (some p) => ∃ v, u.1 = .inl (some v) ∧ et_v K' p v
    | .inl none => u.1 = .inl none
    | .inr x => u.1 = .inr x) ∧ u.2.2.1 ≤ e.2.1 ∧ u.2.2.2 ≤ e.2.2
theorem hi_set {k : Nat} {v : Value} (h : hi_F K F) (hv : et_v K (et_m13.getD k (.inl (0, 0))) v) : hi_F K (updV F k v) := hi_Fi (fun j hj => by
  unfold updV
  by_cases e : j = k
  · rw [if_pos e, e]; exact hv
  · rw [if_neg e]; exact hi_Fe h j hj)
theorem hi_setX {k : Nat} {v : Value} (h : hi_X F) (h1 : k ≠ 29) (h2 : k ≠ 25) (h3 : k ≠ 26) : hi_X (updV F k v) := fun s x y e1 e2 e3 => h s x y ((if_neg h1.symm).symm.trans e1) ((if_neg h2.symm).symm.trans e2) ((if_neg h3.symm).symm.trans e3)
theorem hi_uc {a b : Nat} {c : eg_C} (h : b ≠ a) : eg_at (eg_u G a c) b = eg_at G b := et_at_u h
end HKA
def hi_MI : et_M := [(13, 0, 0), (13, 3, 3), (47, 0, 11899)]
def hq_image : et_Co := (175, [.inr (.inr (0, 13))], hi_MI, [(.inl none, 0, 0)], 1)
theorem hi_mL175 : eg_mL 175 = 2 := by decide +kernel
theorem hi_mL176 : eg_mL 176 = 2 := by decide +kernel
theorem hc_image : et_cv et_TT hq_image := by
  intro w as d2 hH hd hl hv
  obtain ⟨v, rfl⟩ := List.length_eq_one_iff.mp (show as.length = 1 from hl)
  obtain ⟨am, rfl, ha⟩ := hi_ref (hv 0 _ _ rfl rfl)
  obtain ⟨F, W, aw, hA, eF, eW, hw, hKw, hF, hX, hW, hG, e⟩ := hi_mod hH ha
  obtain ⟨ia, hi, hKi⟩ := hi_ref (hF 2 _ rfl)
  obtain ⟨I, eI, hI, -⟩ := hi_arr hH hKi et_t47 (by decide) (.inl rfl)
  rw [hi_mL175]
  have h0 := rp_image (d := d2) (Z := hi_Z et_TT w hi_MI [(.inl none, 0, 0)]) hA hw hi (hi_ne hKi ha (by decide)) (hi_ne hKi hKw (by decide)) (hi_at hH hKi (by decide)) eI (fun I' h1 => by
    have g1 : et_H et_TT w.1 (eg_u w.2.2 ia (.inl (0, (11900, .inl I')))) := hi_uarr hH hKi (by decide) et_t47 (.inl rfl) (fun s hs i i1 i2 i3 => by
      rw [h1 i i3]
      exact hW s hs i i1 i2) (fun _ _ => hG.lo (fun i _ h => h1 i h))
    have g2 : et_fr hi_MI w.1 w.2.2 (eg_u w.2.2 ia (.inl (0, (11900, .inl I')))) := hi_frM hH hKi (by decide) (fun i hi => by
      rw [eI]
      show (if i < 11900 then some (Value.int (I' i)) else none) = (if i < 11900 then some (Value.int (I i)) else none)
      by_cases h : i < 11900
      · exfalso
        unfold et_mm hi_MI at hi
        simp at hi
        omega
      · rw [if_neg h, if_neg h])
    refine ⟨_, List.mem_cons_self, w.1, et_ex.rf, g2.tr et_ex.rf (hi_fr g1 ha hKw ((hi_uc (hi_ne ha hKi (by decide))).trans eF) ((hi_uc (hi_ne hKw hKi (by decide))).trans eW) (fun i hi => ?_) (fun _ _ _ => rfl)), hi_fin g1 ha hKw (hi_set (hi_set hF hi_any) (hi_iv (by decide) (by decide))) (hi_setX (hi_setX hX (by decide) (by decide) (by decide)) (by decide) (by decide) (by decide)) hW hG, rfl, Nat.le_refl _, Nat.le_refl _⟩
    unfold et_mm hi_MI at hi
    simp at hi
    exact (if_neg (by omega)).trans (if_neg (by omega)))
  rw [← e] at h0
  exact h0
def hi_MB : et_M := [(13, 0, 0), (46, 0, 12740), (25, 0, 3)]
def hq_back : et_Co := (176, [.inr (.inr (0, 13))], hi_MB, [(.inl (some (.inl (0, 1))), 0, 0)], 1)
theorem hc_back : et_cv et_TT hq_back := by
  intro w as d2 hH hd hl hv
  obtain ⟨v, rfl⟩ := List.length_eq_one_iff.mp (show as.length = 1 from hl)
  obtain ⟨am, rfl, ha⟩ := hi_ref (hv 0 _ _ rfl rfl)
  obtain ⟨F, W, aw, hA, eF, eW, hw, hKw, hF, hX, hW, hG, e⟩ := hi_mod hH ha
  obtain ⟨ia, hi, hKi⟩ := hi_ref (hF 2 _ rfl)
  obtain ⟨I, eI, hI, hIx⟩ := hi_arr hH hKi et_t47 (by decide) (.inl rfl)
  obtain ⟨ai, hai, hKa⟩ := hi_ref (hF 18 _ rfl)
  obtain ⟨IK, eA, hIK, -⟩ := hi_arr (kd := 3) (n := 4) hH hKa rfl (by decide) (.inr (.inr (.inl rfl)))
  obtain ⟨hm, hh, -⟩ := hi_int (hF 3 _ rfl)
  have n1 : am ≠ ai := hi_ne ha hKa (by decide)
  have n2 : aw ≠ ai := hi_ne hKw hKa (by decide)
  have hF2 : hi_F w.1 (updV F 0 (.int (Int32.ofNat 0))) := hi_set hF hi_any
  have hX2 : hi_X (updV F 0 (.int (Int32.ofNat 0))) := hi_setX hX (by decide) (by decide) (by decide)
  have hM0 : ∀ i, et_mm hi_MB 13 i = false → updV F 0 (.int (Int32.ofNat 0)) i = F i := fun i hi => by
    unfold et_mm hi_MB at hi
    simp at hi
    exact if_neg (by omega)
  rw [hi_mL176]
  have h0 := rp_back (d := d2) (Z := hi_Z et_TT w hi_MB [(.inl (some (.inl (0, 1))), 0, 0)]) hA hw hi hh (hi_ne hKi ha (by decide)) (hi_ne hKi hKw (by decide)) (hi_at hH hKi (by decide)) eI hai (hi_ne hKa ha (by decide)) (hi_ne hKa hKw (by decide)) (hi_at hH hKa (by decide)) eA
    (fun _ => ⟨_, List.mem_cons_self, w.1, et_ex.rf, hi_fr hH ha hKw eF eW hM0 (fun _ _ _ => rfl), hi_fin hH ha hKw hF2 hX2 hW hG, ⟨_, rfl, hi_iv (by decide) (by decide)⟩, Nat.le_refl _, Nat.le_refl _⟩)
    (fun _ V K' h1 h2 h3 => by
    have g1 : et_H et_TT w.1 (eg_u w.2.2 ai (.inl (3, (4, .inl K')))) := hi_uarr (t := 25) (kd := 3) (n := 4) hH hKa (by decide) rfl (.inr (.inr (.inl rfl))) (fun s hs i i1 i2 i3 => by
      obtain rfl : s = (0, 3, .inl (0, 1)) := by simpa using hs
      show et_v w.1 (.inl (0, 1)) (.int (K' i))
      rcases h3 i with h3 | h3
      · rw [h3]; exact hIK _ List.mem_cons_self i (Nat.zero_le _) (by show i ≤ 3; omega) i3
      · rw [h3]; exact hi_iv (by decide) (by decide)) (fun h => absurd h (by decide))
    have g2 : et_fr hi_MB w.1 w.2.2 (eg_u w.2.2 ai (.inl (3, (4, .inl K')))) := hi_frM hH hKa (by decide) (fun i hi => by
      rw [eA]
      show (if i < 4 then eg_rd 3 (4, .inl K') i else none) = (if i < 4 then eg_rd 3 (4, .inl IK) i else none)
      by_cases h : i < 4
      · exfalso
        unfold et_mm hi_MB at hi
        simp at hi
        omega
      · rw [if_neg h, if_neg h])
    refine ⟨_, List.mem_cons_self, w.1, et_ex.rf, g2.tr et_ex.rf (hi_fr g1 ha hKw ((hi_uc n1).trans eF) ((hi_uc n2).trans eW) hM0 (fun i i1 i2 => ?_)), hi_fin g1 ha hKw hF2 hX2 (fun s hs i i1 i2 => ?_) ((hIx rfl (.inr rfl) _ _ eI).lo (fun i _ h => h1 i h)), ⟨_, rfl, hi_iv (by decide) (by decide)⟩, Nat.le_refl _, Nat.le_refl _⟩
    · unfold et_mm hi_MB at i2
      simp at i2
      omega
    · have := hi_w46 s hs
      rw [h1 i (by omega)]
      exact hI s hs i i1 i2 (by omega))
  rw [← e] at h0
  exact h0
/-! holdsLine -/
def hi_MV : et_M := [(29, 0, 399)]
theorem hi_mL216 : eg_mL 216 = 13 := by decide +kernel
theorem hi_V {K : et_K} {G : eg_G} {am aw : Nat} {F : Nat → Value} (hH : et_H et_TT K G) (ha : K am = some 13) (hA : hm_ok G am aw) (hw : F 1 = .ref aw) (hKw : K aw = some 46) (hF : hi_F K F) : ∃ va fa tg V FA TG, rp_V G am aw va fa tg F FA TG ∧ eg_at G va = hv_c V ∧ K va = some 29 ∧ K fa = some 14 ∧ K tg = some 24 := by
  obtain ⟨va, h1, k1⟩ := hi_ref (hF 17 _ rfl)
  obtain ⟨fa, h2, k2⟩ := hi_ref (hF 14 _ rfl)
  obtain ⟨tg, h3, k3⟩ := hi_ref (hF 15 _ rfl)
  obtain ⟨li, h4, -⟩ := hi_int (hF 16 _ rfl)
  obtain ⟨V, eV⟩ := hi_arrL (t := 29) (n := 400) (ss := []) hH k1 rfl (by decide)
  obtain ⟨FA, eFA, -⟩ := hi_arr (t := 14) (kd := 0) (n := 5) (ss := []) hH k2 rfl (by decide) (.inl rfl)
  obtain ⟨TG, eTG, -⟩ := hi_arr (t := 24) (kd := 3) (n := 2) hH k3 rfl (by decide) (.inr (.inr (.inl rfl)))
  exact ⟨va, fa, tg, V, FA, TG, ⟨hA, hw, ⟨h1, hi_ne k1 ha (by decide), hi_ne k1 hKw (by decide), hi_at hH k1 (by decide)⟩, ⟨h2, hi_ne k2 ha (by decide), hi_ne k2 hKw (by decide), hi_ne k2 k1 (by decide), (hi_at hH k2 (by decide)).2, eFA⟩, ⟨h3, hi_ne k3 ha (by decide), hi_ne k3 hKw (by decide), hi_ne k3 k1 (by decide), (hi_at hH k3 (by decide)).2, eTG⟩, li, h4⟩, eV, k1, k2, k3⟩
theorem hi_uV {K : et_K} {G : eg_G} {va : Nat} {V V' : Nat → Int64} {M : et_M} (hM : ∀ i, i < 400 → et_mm M 29 i = true) (hH : et_H et_TT K G) (k1 : K va = some 29) (eV : eg_at G va = hv_c V) : et_H et_TT K (eg_u G va (hv_c V')) ∧ et_fr M K G (eg_u G va (hv_c V')) := ⟨hi_uarrL hH k1 (by decide) rfl, hi_frM hH k1 (by decide) (fun i hi => by
    rw [eV]
    show (if i < 400 then eg_rd 2 (400, .inr (.inl V')) i else none) = (if i < 400 then eg_rd 2 (400, .inr (.inl V)) i else none)
    by_cases h : i < 400
    · rw [hM i h] at hi
      cases hi
    · rw [if_neg h, if_neg h])⟩
/-- a line of a text, by its place -/
theorem hi_holds {t n d2 : Nat} {w : et_Wd} {am : Nat} (hH : et_H et_TT w.1 w.2.2) (ha : w.1 am = some 13) (hd : 3 ≤ d2) (ht : t < 14) (hn : n < 10) (hL : ∀ F W aw, eg_at w.2.2 am = hm_F F → F 1 = .ref aw → eg_at w.2.2 aw = hm_W W → gq_G W → gq_L W (126 + 841 * t) n 400) : et_go none d2 216 0 (eg_en (eg_mL 216) [.ref am, .int (Int32.ofNat t), .int (Int32.ofNat n)]) [] w.2.2 0 0 (hi_Z et_TT w hi_MV [(.inl (some (.inl (0, 1))), 0, 0)]) := by
  obtain ⟨F, W, aw, hA, eF, eW, hw, hKw, hF, hX, hW, hG, e⟩ := hi_mod hH ha
  obtain ⟨va, fa, tg, V, FA, TG, hV, eV, k1, k2, k3⟩ := hi_V hH ha hA hw hKw hF
  obtain ⟨d, rfl⟩ : ∃ d, d2 = d + 2 := ⟨d2 - 2, by omega⟩
  rw [hi_mL216]
  have h0 := rp_holds (d := d) (Z := hi_Z et_TT w hi_MV [(.inl (some (.inl (0, 1))), 0, 0)]) hV ht hn (hL F W aw eF hw eW hG) (V := V) (fun x V' hx => by
    obtain ⟨g1, g2⟩ := hi_uV (V' := V') (M := hi_MV) (fun i h => by unfold et_mm hi_MV; simp; omega) hH k1 eV
    have n1 : am ≠ va := hi_ne ha k1 (by decide)
    have n2 : aw ≠ va := hi_ne hKw k1 (by decide)
    exact ⟨_, List.mem_cons_self, w.1, et_ex.rf, g2.tr et_ex.rf (hi_fr g1 ha hKw ((hi_uc n1).trans eF) ((hi_uc n2).trans eW) (fun _ _ => rfl) (fun _ _ _ => rfl)), hi_fin g1 ha hKw hF hX hW hG, ⟨_, rfl, hi_nv (by omega) (by omega)⟩, Nat.le_refl _, Nat.le_refl _⟩)
  rw [show eg_u w.2.2 va (hv_c V) = w.2.2 from hm_same eV hV.2.2.1.2.2.2.1, ← e] at h0
  exact h0
def hq_holdsA : et_Co := (216, [.inr (.inr (0, 13)), .inl (0, 3), .inl (0, 0)], hi_MV, [(.inl (some (.inl (0, 1))), 0, 0)], 3)
def hq_holdsB : et_Co := (216, [.inr (.inr (0, 13)), .inl (8, 13), .inl (0, 0)], hi_MV, [(.inl (some (.inl (0, 1))), 0, 0)], 3)
theorem hc_holdsA : et_cv et_TT hq_holdsA := by
  intro w as d2 hH hd hl hv
  obtain ⟨v, v1, v2, rfl⟩ := hi_len3 (show as.length = 3 from hl)
  obtain ⟨am, rfl, ha⟩ := hi_ref (hv 0 _ _ rfl rfl)
  obtain ⟨t, ht, rfl⟩ := hi_nat (hv 1 _ _ rfl rfl)
  obtain ⟨n, hn, rfl⟩ := hi_nat (hv 2 _ _ rfl rfl)
  obtain rfl : n = 0 := by omega
  refine hi_holds hH ha hd (by omega) (by omega) (fun F W aw _ _ _ hG => ?_)
  obtain ⟨l, -, -, h⟩ := hG t (by omega)
  exact h 0 (.inr ⟨rfl, by omega⟩)
theorem hc_holdsB : et_cv et_TT hq_holdsB := by
  intro w as d2 hH hd hl hv
  obtain ⟨v, v1, v2, rfl⟩ := hi_len3 (show as.length = 3 from hl)
  obtain ⟨am, rfl, ha⟩ := hi_ref (hv 0 _ _ rfl rfl)
  obtain ⟨x, rfl, x1, x2⟩ := hi_int (hv 1 _ _ rfl rfl)
  obtain ⟨n, hn, rfl⟩ := hi_nat (hv 2 _ _ rfl rfl)
  obtain rfl : n = 0 := by omega
  obtain ⟨t, rfl, t1, t2⟩ : ∃ t : Nat, x = Int32.ofNat t ∧ 8 ≤ t ∧ t ≤ 13 := ⟨x.toInt.toNat, by
    apply Int32.toInt_inj.mp
    rw [hs_nint (by omega)]
    omega, by omega, by omega⟩
  refine hi_holds hH ha hd (by omega) (by omega) (fun F W aw _ _ _ hG => ?_)
  obtain ⟨l, -, -, h⟩ := hG t (by omega)
  exact h 0 (.inr ⟨rfl, by omega⟩)
end
section
/-! BY HAND, OVER A TYPED HEAP: steps that keep the types -/
section HTA
variable {d k pc ck sk : Nat} {L : eg_Ls} {st r : List Value} {G : eg_G} {Z : eg_O → Prop}
def hs_cm (k pc : Nat) : Option (Nat × Nat) := match eg_cd k pc with
  | some (.invokestatic i, _) => (match (eg_mT.getD (eg_mo k) []).lookup i with
    | some (mi, kd, _) => if kd = 0 ∧ 309 ≤ mi ∧ mi ≤ 313 then some (mi, eg_mL k) else none
    | none => none)
  | _ => none
theorem hs_math {mi lk p : Nat} {v : Value} (hc : hs_cm k pc = some (mi, lk)) (hm : eg_mt mi st = some (v, r)) (hL : L.length = lk) (hr : Nat.ble (eg_cat r) 8 = true) (hp : p = pc + 3) (h : et_go none d k p L (v :: r) G ck sk Z) : et_go none d k pc L st G ck sk Z := by
  subst hp
  unfold hs_cm at hc
  split at hc
  · rename_i i _ e
    split at hc
    · rename_i mi' kd x hmt
      split at hc
      · rename_i h0
        cases hc
        refine et_goS (fun q => ?_) h
        unfold eg_one
        rw [e]
        dsimp only
        rw [et_rr_no (ins := .invokestatic i) (fun h => nomatch (show false = true from h))]
        dsimp only
        rw [hs_sc]
        dsimp only
        show eg_iv (eg_rn q) none d k pc 0 i L st G ck sk = _
        rw [et_v0 hmt, if_pos h0, hm]
        dsimp only
        rw [if_pos ⟨Nat.le_of_ble_eq_true hr, hL⟩]
      · cases hc
    · cases hc
  · cases hc
end HTA
section HTB
variable {T : List et_D} {M : et_M} {K : et_K} {d k pc ck sk : Nat} {L : eg_Ls} {st r : List Value} {G : eg_G} {Z : eg_O → Prop} {a t ci f p : Nat} {ps : List et_P}
theorem ht_get {q : et_P} (hc : hs_fi k pc = some (ci, f, p)) (hT : T[t]? = some (.inl (ci, ps))) (hp : ps[f]? = some q) (hs : et_sk q = false) (hH : et_H T K G) (ha : K a = some t) (h : ∀ v, et_v K q v → et_pl (eg_at G a) f = some v → et_go none d k p L (v :: r) G ck sk Z) : et_go none d k pc L (.ref a :: r) G ck sk Z := by
  obtain ⟨g1, -, -, dd, hd, hcc, -⟩ := hH.2.2 a t ha
  rw [hT] at hd
  cases hd
  obtain ⟨fs, e, el, ef⟩ := hcc
  obtain ⟨v, h1, h2⟩ := ef f q hp
  have h2 : et_v K q v := h2.resolve_left (fun h => by rw [hs] at h; cases h)
  exact hs_get hc e g1 h1 (h v h2 (by rw [e]; exact h1))
theorem ht_geti {lo hi : Int} (hc : hs_fi k pc = some (ci, f, p)) (hT : T[t]? = some (.inl (ci, ps))) (hp : ps[f]? = some (.inl (lo, hi))) (hH : et_H T K G) (ha : K a = some t) (h : ∀ x : Int32, lo ≤ x.toInt → x.toInt ≤ hi → et_pl (eg_at G a) f = some (.int x) → et_go none d k p L (.int x :: r) G ck sk Z) : et_go none d k pc L (.ref a :: r) G ck sk Z :=
  ht_get hc hT hp rfl hH ha (fun v hv e => by
    obtain ⟨x, rfl, h1, h2⟩ := hv
    exact h x h1 h2 e)
theorem ht_getn {hi : Int} (hc : hs_fi k pc = some (ci, f, p)) (hT : T[t]? = some (.inl (ci, ps))) (hp : ps[f]? = some (.inl (0, hi))) (hH : et_H T K G) (ha : K a = some t) (h : ∀ c : Nat, (c : Int) ≤ hi → et_pl (eg_at G a) f = some (.int (Int32.ofNat c)) → et_go none d k p L (.int (Int32.ofNat c) :: r) G ck sk Z) : et_go none d k pc L (.ref a :: r) G ck sk Z :=
  ht_get hc hT hp rfl hH ha (fun v hv e => by
    obtain ⟨c, h1, rfl⟩ := hi_nat hv
    exact h c h1 e)
theorem ht_getr {u : Nat} (hc : hs_fi k pc = some (ci, f, p)) (hT : T[t]? = some (.inl (ci, ps))) (hp : ps[f]? = some (.inr (.inr (0, u)))) (hH : et_H T K G) (ha : K a = some t) (h : ∀ b, K b = some u → et_pl (eg_at G a) f = some (.ref b) → et_go none d k p L (.ref b :: r) G ck sk Z) : et_go none d k pc L (.ref a :: r) G ck sk Z :=
  ht_get hc hT hp rfl hH ha (fun v hv e => by
    obtain ⟨b, rfl, h1⟩ := hi_ref hv
    exact h b h1 e)
theorem ht_put {q : et_P} {ty : FieldType} {v : Value} (hc : hs_pi k pc = some (ci, f, ty, p)) (hT : T[t]? = some (.inl (ci, ps))) (hp : ps[f]? = some q) (ht : Nat.ble 2 t = true) (hf : eg_fit ty v = true) (hx : et_px (.inl (ci, ps)) f = false) (hM : et_mm M t f = true) (hH : et_H T K G) (ha : K a = some t) (hv : et_v K q v) (h : ∀ G', et_H T K G' → et_fr M K G G' → et_pl (eg_at G' a) f = some v → et_go none d k p L r G' ck sk Z) : et_go none d k pc L (v :: .ref a :: r) G ck sk Z := by
  have ht := Nat.le_of_ble_eq_true ht
  obtain ⟨g1, -, g3, dd, hd, hcc, hcx⟩ := hH.2.2 a t ha
  rw [hT] at hd
  cases hd
  obtain ⟨fs, e, el, ef⟩ := hcc
  have hlt : f < fs.length := by rw [el]; exact (List.getElem?_eq_some_iff.mp hp).1
  have hpl : ∀ i, ¬ i = f → et_pl (.inr (ci, fs.set f v)) i = et_pl (eg_at G a) i := fun i hi => by
    rw [e]
    show (fs.set f v)[i]? = fs[i]?
    rw [List.getElem?_set_ne (fun h => hi h.symm)]
  refine hs_put hc e ⟨g3 ht, g1⟩ hlt hf (h _ (et_H_u hH ha ht hT ⟨_, rfl, by rw [List.length_set]; exact el, fun j p2 hj => ?_⟩ (et_cx_u (K := K) hcx ⟨fs, e, el, ef⟩ (fun i hi => hpl i (fun h => by
    rw [h, hx] at hi
    cases hi)))) (hi_frM hH ha ht (fun i hi => hpl i (fun h => by
    rw [h, hM] at hi
    cases hi))) ?_)
  · by_cases e2 : f = j
    · subst e2
      rw [hp] at hj
      cases hj
      exact ⟨v, List.getElem?_set_self hlt, .inr hv⟩
    · rw [List.getElem?_set_ne e2]
      exact ef j p2 hj
  · rw [et_at_us (g3 ht)]
    exact List.getElem?_set_self hlt
/-- int arrays -/
theorem ht_ild {n N : Nat} {ss : List (Nat × Nat × et_P)} (hc : hs_o k pc = some (.iaload, p)) (hT : T[t]? = some (.inr (0, N, ss))) (hH : et_H T K G) (ha : K a = some t) (hn : n < N) (hN : N < 2147483648) (h : ∀ x : Int32, (∀ s ∈ ss, s.1 ≤ n → n ≤ s.2.1 → et_v K s.2.2 (.int x)) → et_pl (eg_at G a) n = some (.int x) → et_go none d k p L (.int x :: r) G ck sk Z) : et_go none d k pc L (.int (Int32.ofNat n) :: .ref a :: r) G ck sk Z := by
  obtain ⟨f, e, h1, -⟩ := hi_arr hH ha hT (by omega) (.inl rfl)
  refine hs_iald hc e (hH.2.2 a t ha).1 hN hn (h _ (fun s hs i1 i2 => h1 s hs n i1 i2 hn) ?_)
  rw [e]
  show (if n < N then some (Value.int (f n)) else none) = _
  rw [if_pos hn]
theorem ht_ist {n N : Nat} {x : Int32} {ss : List (Nat × Nat × et_P)} (hc : hs_o k pc = some (.iastore, p)) (hT : T[t]? = some (.inr (0, N, ss))) (ht : Nat.ble 2 t = true) (hpx : N ≠ 12741 ∧ N ≠ 11900) (hH : et_H T K G) (ha : K a = some t) (hn : n < N) (hN : N < 2147483648) (hs : ∀ s ∈ ss, s.1 ≤ n → n ≤ s.2.1 → et_v K s.2.2 (.int x)) (hM : et_mm M t n = true) (h : ∀ G', et_H T K G' → et_fr M K G G' → et_go none d k p L r G' ck sk Z) : et_go none d k pc L (.int x :: .int (Int32.ofNat n) :: .ref a :: r) G ck sk Z := by
  have ht := Nat.le_of_ble_eq_true ht
  obtain ⟨f, e, h1, -⟩ := hi_arr hH ha hT (by omega) (.inl rfl)
  have g := hi_at hH ha ht
  refine hs_iast hc e g hN hn (h _ (hi_uarr hH ha ht hT (.inl rfl) (fun s hs' i i1 i2 i3 => ?_) (fun _ h => by omega)) (hi_frM hH ha ht (fun i hi => ?_)))
  · by_cases ei : i = n
    · subst ei
      rw [hs_us]
      exact hs s hs' i1 i2
    · rw [hs_un ei]
      exact h1 s hs' i i1 i2 i3
  · rw [e]
    have ei : i ≠ n := fun h => by
      rw [h, hM] at hi
      cases hi
    show (if i < N then some (Value.int (upd f n x i)) else none) = (if i < N then some (Value.int (f i)) else none)
    rw [hs_un ei]
/-- a call by its contract, that answers a value -/
theorem hs_cbv {w : et_Wd} {q : et_P} {u : eg_O} {c s : Nat} (hu : hi_Z T w M [(.inl (some q), c, s)] u) (h : ∀ (v : Value) (K' : et_K) (G' : eg_G) (c' s' : Nat), et_ex w.1 K' → et_fr M w.1 w.2.2 G' → et_H T K' G' → et_v K' q v → c' ≤ c → s' ≤ s → et_go none d k (pc + 3) L (v :: r) G' (ck + c') (sk + s') Z) : hs_cont d k pc L r ck sk Z u := by
  obtain ⟨e, he, K', h1, h2, h3, h4, h5, h6⟩ := hu
  obtain rfl := List.mem_singleton.mp he
  obtain ⟨v, hv1, hv2⟩ := h4
  obtain ⟨u1, u2, u3, u4⟩ := u
  have hv1 : u1 = .inl (some v) := hv1
  subst hv1
  exact hs_cb (h v K' u2 u3 u4 h1 h2 h3 hv2 h5 h6)
theorem hs_cbn {w : et_Wd} {u : eg_O} {c s : Nat} (hu : hi_Z T w M [(.inl none, c, s)] u) (h : ∀ (K' : et_K) (G' : eg_G) (c' s' : Nat), et_ex w.1 K' → et_fr M w.1 w.2.2 G' → et_H T K' G' → c' ≤ c → s' ≤ s → et_go none d k (pc + 3) L r G' (ck + c') (sk + s') Z) : hs_cont d k pc L r ck sk Z u := by
  obtain ⟨e, he, K', h1, h2, h3, h4, h5, h6⟩ := hu
  obtain rfl := List.mem_singleton.mp he
  obtain ⟨u1, u2, u3, u4⟩ := u
  have h4 : u1 = .inl none := h4
  subst h4
  exact hs_cb (h K' u2 u3 u4 h1 h2 h3 h5 h6)
theorem et_fr.wk {N : et_M} {G' : eg_G} (h : et_fr M K G G') (hs : et_ss M N = true) : et_fr N K G G' := ⟨h.1, fun a t ha i hi => h.2 a t ha i (by
  cases e : et_mm M t i with
  | false => rfl
  | true =>
    exfalso
    obtain ⟨q, hq, hq2⟩ := List.any_eq_true.mp e
    obtain ⟨q', hq', h3⟩ := List.any_eq_true.mp (List.all_eq_true.mp hs q hq)
    rw [Bool.and_eq_true, Bool.and_eq_true] at hq2 h3
    have e1 : et_mm N t i = true := by
      refine List.any_eq_true.mpr ⟨q', hq', ?_⟩
      rw [Bool.and_eq_true, Bool.and_eq_true]
      have a1 := of_decide_eq_true hq2.2.1
      have a2 := of_decide_eq_true hq2.2.2
      have a3 := of_decide_eq_true h3.2.1
      have a4 := of_decide_eq_true h3.2.2
      have a5 := beq_iff_eq.mp hq2.1
      have a6 := beq_iff_eq.mp h3.1
      exact ⟨beq_iff_eq.mpr (a6.trans a5), decide_eq_true (by omega), decide_eq_true (by omega)⟩
    rw [e1] at hi
    cases hi)⟩
end HTB
theorem ht_callv {T : List et_D} {K : et_K} {d k pc ck sk mi na ci lk lm a t : Nat} {L L0 : eg_Ls} {st r as : List Value} {G : eg_G} {Z : eg_O → Prop} {ps : List et_P} (hc : hs_cv k pc = some (mi, na, ci, lk, lm)) (hT : T[t]? = some (.inl (ci, ps))) (hH : et_H T K G) (ha : K a = some t) (hdr : st.drop na = .ref a :: r) (has : (st.take na).reverse = as) (hL : L.length = lk) (hr : Nat.ble (eg_cat r) 8 = true) (hn : Nat.ble (eg_en0 (.ref a :: as)).length lm = true) (hL0 : eg_en lm (.ref a :: as) = L0) (h : et_go none d mi 0 L0 [] G 0 0 (hs_cont (d + 1) k pc L r ck sk Z)) : et_go none (d + 1) k pc L st G ck sk Z := by
  obtain ⟨g1, -, -, dd, hd, hcc, -⟩ := hH.2.2 a t ha
  rw [hT] at hd
  cases hd
  obtain ⟨fs, e, -⟩ := hcc
  exact hs_callv hc hdr has hL hr hn hL0 g1 (by rw [e]; exact beq_self_eq_true ci) h
theorem ht_an {K : et_K} : ∀ (i : Nat) (p : et_P) (v : Value), ([] : List et_P)[i]? = some p → ([] : List Value)[i]? = some v → et_v K p v := fun _ _ _ h => by cases h
theorem ht_ac {K : et_K} {p : et_P} {v : Value} {ps : List et_P} {vs : List Value} (h : et_v K p v) (ht : ∀ (i : Nat) (p : et_P) (v : Value), ps[i]? = some p → vs[i]? = some v → et_v K p v) : ∀ (i : Nat) (q : et_P) (u : Value), (p :: ps)[i]? = some q → (v :: vs)[i]? = some u → et_v K q u := fun i q u h1 h2 => by
  cases i with
  | zero =>
    cases h1
    cases h2
    exact h
  | succ i => exact ht i q u h1 h2
end
