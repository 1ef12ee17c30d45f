/-! BY HAND: what a WIRE sees, as a function; the counting sort -/
section HSO
variable {d k pc ck sk : Nat} {L : eg_Ls} {st r : List Value} {G : eg_G} {Z : eg_O → Prop}
theorem hs_iushr {p : Nat} {x y : Int32} (hc : hs_o k pc = some (.iushr, p)) (h : et_go none d k p L (.int (x.toUInt32 >>> (y.toUInt32 &&& Int32.toUInt32 31)).toInt32 :: r) G ck sk Z) : et_go none d k pc L (.int y :: .int x :: r) G ck sk Z := by
  obtain ⟨e, rfl⟩ := hs_oc hc
  exact hs_st e rfl rfl h
theorem hs_ixor {p : Nat} {x y : Int32} (hc : hs_o k pc = some (.ixor, p)) (h : et_go none d k p L (.int (x ^^^ y) :: r) G ck sk Z) : et_go none d k pc L (.int y :: .int x :: r) G ck sk Z := by
  obtain ⟨e, rfl⟩ := hs_oc hc
  exact hs_st e rfl rfl h
theorem hs_ior {p : Nat} {x y : Int32} (hc : hs_o k pc = some (.ior, p)) (h : et_go none d k p L (.int (x ||| y) :: r) G ck sk Z) : et_go none d k pc L (.int y :: .int x :: r) G ck sk Z := by
  obtain ⟨e, rfl⟩ := hs_oc hc
  exact hs_st e rfl rfl h
theorem hs_irem {p : Nat} {x y : Int32} (hc : hs_o k pc = some (.irem, p)) (hy : ¬ y = 0) (h : et_go none d k p L (.int (x - x / y * y) :: r) G ck sk Z) : et_go none d k pc L (.int y :: .int x :: r) G ck sk Z := by
  obtain ⟨e, rfl⟩ := hs_oc hc
  exact hs_st e rfl (by
    show (if y = 0 then none else _) = _
    rw [if_neg hy]) h
theorem hs_ineg {p : Nat} {x : Int32} (hc : hs_o k pc = some (.ineg, p)) (h : et_go none d k p L (.int (-x) :: r) G ck sk Z) : et_go none d k pc L (.int x :: r) G ck sk Z := by
  obtain ⟨e, rfl⟩ := hs_oc hc
  exact hs_st e rfl rfl h
end HSO
section RPK
variable {d am aw : Nat} {G : eg_G} {F : Nat → Value} {W : Nat → Int32} {Z : eg_O → Prop}
def rp_bc (x : Int32) : Int32 := ((((((((x - ((x.toUInt32 >>> ((Int32.ofNat 1).toUInt32 &&& Int32.toUInt32 31)).toInt32 &&& Int32.ofNat 1431655765)) &&& Int32.ofNat 858993459) + (((x - ((x.toUInt32 >>> ((Int32.ofNat 1).toUInt32 &&& Int32.toUInt32 31)).toInt32 &&& Int32.ofNat 1431655765)).toUInt32 >>> ((Int32.ofNat 2).toUInt32 &&& Int32.toUInt32 31)).toInt32 &&& Int32.ofNat 858993459)) + ((((x - ((x.toUInt32 >>> ((Int32.ofNat 1).toUInt32 &&& Int32.toUInt32 31)).toInt32 &&& Int32.ofNat 1431655765)) &&& Int32.ofNat 858993459) + (((x - ((x.toUInt32 >>> ((Int32.ofNat 1).toUInt32 &&& Int32.toUInt32 31)).toInt32 &&& Int32.ofNat 1431655765)).toUInt32 >>> ((Int32.ofNat 2).toUInt32 &&& Int32.toUInt32 31)).toInt32 &&& Int32.ofNat 858993459)).toUInt32 >>> ((Int32.ofNat 4).toUInt32 &&& Int32.toUInt32 31)).toInt32) &&& Int32.ofNat 252645135) + ((((((x - ((x.toUInt32 >>> ((Int32.ofNat 1).toUInt32 &&& Int32.toUInt32 31)).toInt32 &&& Int32.ofNat 1431655765)) &&& Int32.ofNat 858993459) + (((x - ((x.toUInt32 >>> ((Int32.ofNat 1).toUInt32 &&& Int32.toUInt32 31)).toInt32 &&& Int32.ofNat 1431655765)).toUInt32 >>> ((Int32.ofNat 2).toUInt32 &&& Int32.toUInt32 31)).toInt32 &&& Int32.ofNat 858993459)) + ((((x - ((x.toUInt32 >>> ((Int32.ofNat 1).toUInt32 &&& Int32.toUInt32 31)).toInt32 &&& Int32.ofNat 1431655765)) &&& Int32.ofNat 858993459) + (((x - ((x.toUInt32 >>> ((Int32.ofNat 1).toUInt32 &&& Int32.toUInt32 31)).toInt32 &&& Int32.ofNat 1431655765)).toUInt32 >>> ((Int32.ofNat 2).toUInt32 &&& Int32.toUInt32 31)).toInt32 &&& Int32.ofNat 858993459)).toUInt32 >>> ((Int32.ofNat 4).toUInt32 &&& Int32.toUInt32 31)).toInt32) &&& Int32.ofNat 252645135).toUInt32 >>> ((Int32.ofNat 8).toUInt32 &&& Int32.toUInt32 31)).toInt32) + (((((((x - ((x.toUInt32 >>> ((Int32.ofNat 1).toUInt32 &&& Int32.toUInt32 31)).toInt32 &&& Int32.ofNat 1431655765)) &&& Int32.ofNat 858993459) + (((x - ((x.toUInt32 >>> ((Int32.ofNat 1).toUInt32 &&& Int32.toUInt32 31)).toInt32 &&& Int32.ofNat 1431655765)).toUInt32 >>> ((Int32.ofNat 2).toUInt32 &&& Int32.toUInt32 31)).toInt32 &&& Int32.ofNat 858993459)) + ((((x - ((x.toUInt32 >>> ((Int32.ofNat 1).toUInt32 &&& Int32.toUInt32 31)).toInt32 &&& Int32.ofNat 1431655765)) &&& Int32.ofNat 858993459) + (((x - ((x.toUInt32 >>> ((Int32.ofNat 1).toUInt32 &&& Int32.toUInt32 31)).toInt32 &&& Int32.ofNat 1431655765)).toUInt32 >>> ((Int32.ofNat 2).toUInt32 &&& Int32.toUInt32 31)).toInt32 &&& Int32.ofNat 858993459)).toUInt32 >>> ((Int32.ofNat 4).toUInt32 &&& Int32.toUInt32 31)).toInt32) &&& Int32.ofNat 252645135) + ((((((x - ((x.toUInt32 >>> ((Int32.ofNat 1).toUInt32 &&& Int32.toUInt32 31)).toInt32 &&& Int32.ofNat 1431655765)) &&& Int32.ofNat 858993459) + (((x - ((x.toUInt32 >>> ((Int32.ofNat 1).toUInt32 &&& Int32.toUInt32 31)).toInt32 &&& Int32.ofNat 1431655765)).toUInt32 >>> ((Int32.ofNat 2).toUInt32 &&& Int32.toUInt32 31)).toInt32 &&& Int32.ofNat 858993459)) + ((((x - ((x.toUInt32 >>> ((Int32.ofNat 1).toUInt32 &&& Int32.toUInt32 31)).toInt32 &&& Int32.ofNat 1431655765)) &&& Int32.ofNat 858993459) + (((x - ((x.toUInt32 >>> ((Int32.ofNat 1).toUInt32 &&& Int32.toUInt32 31)).toInt32 &&& Int32.ofNat 1431655765)).toUInt32 >>> ((Int32.ofNat 2).toUInt32 &&& Int32.toUInt32 31)).toInt32 &&& Int32.ofNat 858993459)).toUInt32 >>> ((Int32.ofNat 4).toUInt32 &&& Int32.toUInt32 31)).toInt32) &&& Int32.ofNat 252645135).toUInt32 >>> ((Int32.ofNat 8).toUInt32 &&& Int32.toUInt32 31)).toInt32).toUInt32 >>> ((Int32.ofNat 16).toUInt32 &&& Int32.toUInt32 31)).toInt32) &&& Int32.ofNat 63)
theorem rp_bitCount {x : Int32} (h : Z (.inl (some (.int (rp_bc x))), G, 0, 0)) : et_go none d 305 0 [some (.int x)] [] G 0 0 Z := by
  refine hs_iload (i := 0) (p := 1) (by decide +kernel) rfl ?_
  refine hs_iload (i := 0) (p := 2) (by decide +kernel) rfl ?_
  refine hs_k (x := Int32.ofNat 1) (p := 3) (by decide +kernel) ?_
  refine hs_iushr (p := 4) (by decide +kernel) ?_
  refine hs_kld (v := Value.int (Int32.ofNat 1431655765)) (p := 7) (by decide +kernel) ?_
  refine hs_iand (p := 8) (by decide +kernel) ?_
  refine hs_isub (p := 9) (by decide +kernel) ?_
  refine hs_istore (i := 0) (p := 10) (by decide +kernel) (Nat.le_of_ble_eq_true rfl) ?_
  refine hs_iload (i := 0) (p := 11) (by decide +kernel) rfl ?_
  refine hs_kld (v := Value.int (Int32.ofNat 858993459)) (p := 14) (by decide +kernel) ?_
  refine hs_iand (p := 15) (by decide +kernel) ?_
  refine hs_iload (i := 0) (p := 16) (by decide +kernel) rfl ?_
  refine hs_k (x := Int32.ofNat 2) (p := 17) (by decide +kernel) ?_
  refine hs_iushr (p := 18) (by decide +kernel) ?_
  refine hs_kld (v := Value.int (Int32.ofNat 858993459)) (p := 21) (by decide +kernel) ?_
  refine hs_iand (p := 22) (by decide +kernel) ?_
  refine hs_iadd (p := 23) (by decide +kernel) ?_
  refine hs_istore (i := 0) (p := 24) (by decide +kernel) (Nat.le_of_ble_eq_true rfl) ?_
  refine hs_iload (i := 0) (p := 25) (by decide +kernel) rfl ?_
  refine hs_iload (i := 0) (p := 26) (by decide +kernel) rfl ?_
  refine hs_k (x := Int32.ofNat 4) (p := 27) (by decide +kernel) ?_
  refine hs_iushr (p := 28) (by decide +kernel) ?_
  refine hs_iadd (p := 29) (by decide +kernel) ?_
  refine hs_kld (v := Value.int (Int32.ofNat 252645135)) (p := 32) (by decide +kernel) ?_
  refine hs_iand (p := 33) (by decide +kernel) ?_
  refine hs_istore (i := 0) (p := 34) (by decide +kernel) (Nat.le_of_ble_eq_true rfl) ?_
  refine hs_iload (i := 0) (p := 35) (by decide +kernel) rfl ?_
  refine hs_iload (i := 0) (p := 36) (by decide +kernel) rfl ?_
  refine hs_k (x := Int32.ofNat 8) (p := 38) (by decide +kernel) ?_
  refine hs_iushr (p := 39) (by decide +kernel) ?_
  refine hs_iadd (p := 40) (by decide +kernel) ?_
  refine hs_istore (i := 0) (p := 41) (by decide +kernel) (Nat.le_of_ble_eq_true rfl) ?_
  refine hs_iload (i := 0) (p := 42) (by decide +kernel) rfl ?_
  refine hs_iload (i := 0) (p := 43) (by decide +kernel) rfl ?_
  refine hs_k (x := Int32.ofNat 16) (p := 45) (by decide +kernel) ?_
  refine hs_iushr (p := 46) (by decide +kernel) ?_
  refine hs_iadd (p := 47) (by decide +kernel) ?_
  refine hs_istore (i := 0) (p := 48) (by decide +kernel) (Nat.le_of_ble_eq_true rfl) ?_
  refine hs_iload (i := 0) (p := 49) (by decide +kernel) rfl ?_
  refine hs_k (x := Int32.ofNat 63) (p := 51) (by decide +kernel) ?_
  refine hs_iand (p := 52) (by decide +kernel) ?_
  refine hs_iret (by decide +kernel) ?_
  exact h
theorem rp_bits {x : Int32} (h : Z (.inl (some (.int (rp_bc x))), G, 0, 0)) : et_go none (d + 1) 214 0 [some (.int x)] [] G 0 0 Z := by
  refine hs_iload (i := 0) (p := 1) (by decide +kernel) rfl ?_
  refine hs_calls (mi := 305) (na := 1) (lk := 1) (lm := 1) (by decide +kernel) rfl rfl rfl rfl rfl rfl rfl (rp_bitCount (hs_cb ?_))
  show et_go none _ 214 4 _ [.int (rp_bc x)] _ _ _ _
  refine hs_iret (by decide +kernel) ?_
  exact h
def rp_vb (ce ki li : Int32) : Int32 := if ki = 0 then rp_bc (ce &&& li) else if ki = Int32.ofNat 1 then (if (ce &&& (li ^^^ (-1))) = 0 then Int32.ofNat 1 else Int32.ofNat 0) else rp_bc (ce &&& li) - rp_bc (ce &&& li) / Int32.ofNat 2 * Int32.ofNat 2
theorem rp_valueBy {ce ki li : Int32} (h : Z (.inl (some (.int (rp_vb ce ki li))), G, 0, 0)) : et_go none (d + 2) 239 0 [some (.int ce), some (.int ki), some (.int li), none] [] G 0 0 Z := by
  unfold rp_vb at h
  refine hs_iload (i := 0) (p := 1) (by decide +kernel) rfl ?_
  refine hs_iload (i := 2) (p := 2) (by decide +kernel) rfl ?_
  refine hs_iand (p := 3) (by decide +kernel) ?_
  refine hs_calls (mi := 214) (na := 1) (lk := 4) (lm := 1) (by decide +kernel) rfl rfl rfl rfl rfl rfl rfl (rp_bits (hs_cb ?_))
  show et_go none _ 239 6 _ [.int (rp_bc (ce &&& li))] _ _ _ _
  refine hs_istore (i := 3) (p := 7) (by decide +kernel) (Nat.le_of_ble_eq_true rfl) ?_
  refine hs_iload (i := 1) (p := 8) (by decide +kernel) rfl ?_
  refine hs_br1 (c := .ne) (t := 15) (f := 11) (by decide +kernel) (fun (c8 : ¬ ki = 0) => ?_) (fun (c8 : ¬ (¬ ki = 0)) => ?_)
  · refine hs_iload (i := 1) (p := 16) (by decide +kernel) rfl ?_
    refine hs_k (x := Int32.ofNat 1) (p := 17) (by decide +kernel) ?_
    refine hs_br2 (c := .ne) (t := 36) (f := 20) (by decide +kernel) (fun (c17 : ¬ ki = Int32.ofNat 1) => ?_) (fun (c17 : ¬ (¬ ki = Int32.ofNat 1)) => ?_)
    · refine hs_iload (i := 3) (p := 37) (by decide +kernel) rfl ?_
      refine hs_k (x := Int32.ofNat 2) (p := 38) (by decide +kernel) ?_
      refine hs_irem (p := 39) (by decide +kernel) (by decide) ?_
      refine hs_iret (by decide +kernel) ?_
      rw [if_neg c8] at h
      rw [if_neg c17] at h
      exact h
    · refine hs_iload (i := 0) (p := 21) (by decide +kernel) rfl ?_
      refine hs_iload (i := 2) (p := 22) (by decide +kernel) rfl ?_
      refine hs_k (x := (-1)) (p := 23) (by decide +kernel) ?_
      refine hs_ixor (p := 24) (by decide +kernel) ?_
      refine hs_iand (p := 25) (by decide +kernel) ?_
      refine hs_br1 (c := .ne) (t := 32) (f := 28) (by decide +kernel) (fun (c25 : ¬ (ce &&& (li ^^^ (-1))) = 0) => ?_) (fun (c25 : ¬ (¬ (ce &&& (li ^^^ (-1))) = 0)) => ?_)
      · refine hs_k (x := Int32.ofNat 0) (p := 33) (by decide +kernel) ?_
        refine hs_goto (p := 39) (by decide +kernel) ?_
        refine hs_iret (by decide +kernel) ?_
        rw [if_neg c8] at h
        rw [if_pos (Classical.not_not.mp c17)] at h
        rw [if_neg c25] at h
        exact h
      · refine hs_k (x := Int32.ofNat 1) (p := 29) (by decide +kernel) ?_
        refine hs_goto (p := 39) (by decide +kernel) ?_
        refine hs_iret (by decide +kernel) ?_
        rw [if_neg c8] at h
        rw [if_pos (Classical.not_not.mp c17)] at h
        rw [if_pos (Classical.not_not.mp c25)] at h
        exact h
  · refine hs_iload (i := 3) (p := 12) (by decide +kernel) rfl ?_
    refine hs_goto (p := 39) (by decide +kernel) ?_
    refine hs_iret (by decide +kernel) ?_
    rw [if_pos (Classical.not_not.mp c8)] at h
    exact h
theorem rp_wireAt {e n o : Nat} (h : Z (.inl (some (.int (Int32.ofNat (45 + 23 * e + 1 + 3 * n + o)))), G, 0, 0)) : et_go none d 226 0 [some (.int (Int32.ofNat e)), some (.int (Int32.ofNat n)), some (.int (Int32.ofNat o))] [] G 0 0 Z := by
  refine hs_k (x := Int32.ofNat 45) (p := 2) (by decide +kernel) ?_
  refine hs_k (x := Int32.ofNat 23) (p := 4) (by decide +kernel) ?_
  refine hs_iload (i := 0) (p := 5) (by decide +kernel) rfl ?_
  refine hs_imuln (p := 6) (by decide +kernel) ?_
  refine hs_iaddn (p := 7) (by decide +kernel) ?_
  refine hs_k (x := Int32.ofNat 1) (p := 8) (by decide +kernel) ?_
  refine hs_iaddn (p := 9) (by decide +kernel) ?_
  refine hs_k (x := Int32.ofNat 3) (p := 10) (by decide +kernel) ?_
  refine hs_iload (i := 1) (p := 11) (by decide +kernel) rfl ?_
  refine hs_imuln (p := 12) (by decide +kernel) ?_
  refine hs_iaddn (p := 13) (by decide +kernel) ?_
  refine hs_iload (i := 2) (p := 14) (by decide +kernel) rfl ?_
  refine hs_iaddn (p := 15) (by decide +kernel) ?_
  refine hs_iret (by decide +kernel) ?_
  exact h
theorem rp_of (hA : hm_ok G am aw) (hw : F 1 = .ref aw) {e o : Nat} (he : e ≤ 2) (ho : o ≤ 22) (h : Z (.inl (some (.int (W (45 + 23 * e + o)))), hm_H G am aw F W, 0, 0)) : et_go none d 225 0 [some (.ref am), some (.int (Int32.ofNat e)), some (.int (Int32.ofNat o))] [] (hm_H G am aw F W) 0 0 Z := by
  refine hs_aload (i := 0) (p := 1) (by decide +kernel) rfl ?_
  refine hm_get hA (f := 1) (p := 4) (by decide +kernel) rfl hw ?_
  refine hs_k (x := Int32.ofNat 45) (p := 6) (by decide +kernel) ?_
  refine hs_k (x := Int32.ofNat 23) (p := 8) (by decide +kernel) ?_
  refine hs_iload (i := 1) (p := 9) (by decide +kernel) rfl ?_
  refine hs_imuln (p := 10) (by decide +kernel) ?_
  refine hs_iaddn (p := 11) (by decide +kernel) ?_
  refine hs_iload (i := 2) (p := 12) (by decide +kernel) rfl ?_
  refine hs_iaddn (p := 13) (by decide +kernel) ?_
  refine hm_rw hA (p := 14) (by decide +kernel) (by omega) ?_
  refine hs_iret (by decide +kernel) ?_
  exact h
theorem rp_wires (hA : hm_ok G am aw) (hw : F 1 = .ref aw) {e : Nat} (he : e ≤ 2) (h : Z (.inl (some (.int (W (45 + 23 * e + 0)))), hm_H G am aw F W, 0, 0)) : et_go none (d + 1) 224 0 [some (.ref am), some (.int (Int32.ofNat e))] [] (hm_H G am aw F W) 0 0 Z := by
  refine hs_aload (i := 0) (p := 1) (by decide +kernel) rfl ?_
  refine hs_iload (i := 1) (p := 2) (by decide +kernel) rfl ?_
  refine hs_k (x := Int32.ofNat 0) (p := 3) (by decide +kernel) ?_
  refine hm_call hA (mi := 225) (na := 2) (lk := 2) (lm := 3) (by decide +kernel) rfl rfl rfl rfl rfl rfl (rp_of hA hw (by omega) (by omega) (hs_cb ?_))
  show et_go none _ 224 6 _ [.int (W (45 + 23 * e + 0))] _ _ _ _
  refine hs_iret (by decide +kernel) ?_
  exact h
def rp_v (W : Nat → Int32) (e n : Nat) (li : Int32) : Int32 := rp_vb (W (45 + 23 * e + 1 + 3 * n + 0)) (W (45 + 23 * e + 1 + 3 * n + 1)) li
theorem rp_valueOf (hA : hm_ok G am aw) (hw : F 1 = .ref aw) {e n : Nat} (he : e ≤ 2) (hn : n ≤ 5) {li : Int32} (h : Z (.inl (some (.int (rp_v W e n li))), hm_H G am aw F W, 0, 0)) : et_go none (d + 3) 238 0 [some (.ref am), some (.int (Int32.ofNat e)), some (.int (Int32.ofNat n)), some (.int li)] [] (hm_H G am aw F W) 0 0 Z := by
  refine hs_aload (i := 0) (p := 1) (by decide +kernel) rfl ?_
  refine hm_get hA (f := 1) (p := 4) (by decide +kernel) rfl hw ?_
  refine hs_iload (i := 1) (p := 5) (by decide +kernel) rfl ?_
  refine hs_iload (i := 2) (p := 6) (by decide +kernel) rfl ?_
  refine hs_k (x := Int32.ofNat 0) (p := 7) (by decide +kernel) ?_
  refine hs_calls (mi := 226) (na := 3) (lk := 4) (lm := 3) (by decide +kernel) rfl rfl rfl rfl rfl rfl rfl (rp_wireAt (hs_cb ?_))
  show et_go none _ 238 10 _ [.int (Int32.ofNat (45 + 23 * e + 1 + 3 * n + 0)), .ref aw] _ _ _ _
  refine hm_rw hA (p := 11) (by decide +kernel) (by omega) ?_
  refine hs_aload (i := 0) (p := 12) (by decide +kernel) rfl ?_
  refine hm_get hA (f := 1) (p := 15) (by decide +kernel) rfl hw ?_
  refine hs_iload (i := 1) (p := 16) (by decide +kernel) rfl ?_
  refine hs_iload (i := 2) (p := 17) (by decide +kernel) rfl ?_
  refine hs_k (x := Int32.ofNat 1) (p := 18) (by decide +kernel) ?_
  refine hs_calls (mi := 226) (na := 3) (lk := 4) (lm := 3) (by decide +kernel) rfl rfl rfl rfl rfl rfl rfl (rp_wireAt (hs_cb ?_))
  show et_go none _ 238 21 _ [.int (Int32.ofNat (45 + 23 * e + 1 + 3 * n + 1)), .ref aw, .int (W (45 + 23 * e + 1 + 3 * n + 0))] _ _ _ _
  refine hm_rw hA (p := 22) (by decide +kernel) (by omega) ?_
  refine hs_iload (i := 3) (p := 23) (by decide +kernel) rfl ?_
  refine hs_calls (mi := 239) (na := 3) (lk := 4) (lm := 4) (by decide +kernel) rfl rfl rfl rfl rfl rfl rfl (rp_valueBy (hs_cb ?_))
  show et_go none _ 238 26 _ [.int (rp_vb (W (45 + 23 * e + 1 + 3 * n + 0)) (W (45 + 23 * e + 1 + 3 * n + 1)) li)] _ _ _ _
  refine hs_iret (by decide +kernel) ?_
  exact h
def rp_cf (W : Nat → Int32) (e : Nat) (li : Int32) : Nat → Nat → Int32 → Int32
  | 0, _, c => c
  | m + 1, i, c => rp_cf W e li m (i + 1) ((c <<< (Int32.ofNat 5 &&& 31)) ||| rp_v W e i li)
theorem rp_codeL (hA : hm_ok G am aw) (hw : F 1 = .ref aw) {e wn m i : Nat} (he : e ≤ 2) (hn : W (45 + 23 * e + 0) = Int32.ofNat wn) (hs : wn ≤ 6) {li c : Int32} (hm : i + m = wn) (h : Z (.inl (some (.int (rp_cf W e li m i c))), hm_H G am aw F W, 0, 0)) : et_go none (d + 4) 264 5 [some (.ref am), some (.int (Int32.ofNat e)), some (.int li), some (.int c), some (.int (Int32.ofNat i))] [] (hm_H G am aw F W) 0 0 Z := by
  induction m generalizing i c with
  | zero =>
    refine hs_iload (i := 4) (p := 7) (by decide +kernel) rfl ?_
    refine hs_aload (i := 0) (p := 8) (by decide +kernel) rfl ?_
    refine hs_iload (i := 1) (p := 9) (by decide +kernel) rfl ?_
    refine hm_call hA (mi := 224) (na := 1) (lk := 5) (lm := 2) (by decide +kernel) rfl rfl rfl rfl rfl rfl (rp_wires hA hw (by omega) (hs_cb ?_))
    rw [hn]
    show et_go none _ 264 12 _ [.int (Int32.ofNat wn), .int (Int32.ofNat i)] _ _ _ _
    refine hs_br2n (c := .ge) (t := 34) (f := 15) (by decide +kernel) (by omega) (by omega) (fun (c12 : wn ≤ i) => ?_) (fun (c12 : ¬ (wn ≤ i)) => ?_)
    · refine hs_iload (i := 3) (p := 35) (by decide +kernel) rfl ?_
      refine hs_iret (by decide +kernel) ?_
      exact h
    · refine hs_iload (i := 3) (p := 16) (by decide +kernel) rfl ?_
      refine hs_k (x := Int32.ofNat 5) (p := 17) (by decide +kernel) ?_
      refine hs_ishl (p := 18) (by decide +kernel) ?_
      refine hs_aload (i := 0) (p := 19) (by decide +kernel) rfl ?_
      refine hs_iload (i := 1) (p := 20) (by decide +kernel) rfl ?_
      refine hs_iload (i := 4) (p := 22) (by decide +kernel) rfl ?_
      refine hs_iload (i := 2) (p := 23) (by decide +kernel) rfl ?_
      refine hm_call hA (mi := 238) (na := 3) (lk := 5) (lm := 4) (by decide +kernel) rfl rfl rfl rfl rfl rfl (rp_valueOf hA hw (by omega) (by omega) (hs_cb ?_))
      show et_go none _ 264 26 _ [.int (rp_v W e i li), .int (c <<< (Int32.ofNat 5 &&& 31))] _ _ _ _
      refine hs_ior (p := 27) (by decide +kernel) ?_
      refine hs_istore (i := 3) (p := 28) (by decide +kernel) (Nat.le_of_ble_eq_true rfl) ?_
      refine hs_iinc1 (i := 4) (p := 31) (by decide +kernel) rfl (Nat.le_of_ble_eq_true rfl) ?_
      refine hs_goto (p := 5) (by decide +kernel) ?_
      exact absurd hm (by omega)
  | succ m ih =>
    refine hs_iload (i := 4) (p := 7) (by decide +kernel) rfl ?_
    refine hs_aload (i := 0) (p := 8) (by decide +kernel) rfl ?_
    refine hs_iload (i := 1) (p := 9) (by decide +kernel) rfl ?_
    refine hm_call hA (mi := 224) (na := 1) (lk := 5) (lm := 2) (by decide +kernel) rfl rfl rfl rfl rfl rfl (rp_wires hA hw (by omega) (hs_cb ?_))
    rw [hn]
    show et_go none _ 264 12 _ [.int (Int32.ofNat wn), .int (Int32.ofNat i)] _ _ _ _
    refine hs_br2n (c := .ge) (t := 34) (f := 15) (by decide +kernel) (by omega) (by omega) (fun (c12 : wn ≤ i) => ?_) (fun (c12 : ¬ (wn ≤ i)) => ?_)
    · refine hs_iload (i := 3) (p := 35) (by decide +kernel) rfl ?_
      refine hs_iret (by decide +kernel) ?_
      exact absurd c12 (by omega)
    · refine hs_iload (i := 3) (p := 16) (by decide +kernel) rfl ?_
      refine hs_k (x := Int32.ofNat 5) (p := 17) (by decide +kernel) ?_
      refine hs_ishl (p := 18) (by decide +kernel) ?_
      refine hs_aload (i := 0) (p := 19) (by decide +kernel) rfl ?_
      refine hs_iload (i := 1) (p := 20) (by decide +kernel) rfl ?_
      refine hs_iload (i := 4) (p := 22) (by decide +kernel) rfl ?_
      refine hs_iload (i := 2) (p := 23) (by decide +kernel) rfl ?_
      refine hm_call hA (mi := 238) (na := 3) (lk := 5) (lm := 4) (by decide +kernel) rfl rfl rfl rfl rfl rfl (rp_valueOf hA hw (by omega) (by omega) (hs_cb ?_))
      show et_go none _ 264 26 _ [.int (rp_v W e i li), .int (c <<< (Int32.ofNat 5 &&& 31))] _ _ _ _
      refine hs_ior (p := 27) (by decide +kernel) ?_
      refine hs_istore (i := 3) (p := 28) (by decide +kernel) (Nat.le_of_ble_eq_true rfl) ?_
      refine hs_iinc1 (i := 4) (p := 31) (by decide +kernel) rfl (Nat.le_of_ble_eq_true rfl) ?_
      refine hs_goto (p := 5) (by decide +kernel) ?_
      exact ih (by omega) h
def rp_co (W : Nat → Int32) (e wn : Nat) (li : Int32) : Int32 := rp_cf W e li wn 0 (Int32.ofNat 0)
theorem rp_codeOf (hA : hm_ok G am aw) (hw : F 1 = .ref aw) {e wn : Nat} (he : e ≤ 2) (hn : W (45 + 23 * e + 0) = Int32.ofNat wn) (hs : wn ≤ 6) {li : Int32} (h : Z (.inl (some (.int (rp_co W e wn li))), hm_H G am aw F W, 0, 0)) : et_go none (d + 4) 264 0 [some (.ref am), some (.int (Int32.ofNat e)), some (.int li), none, none] [] (hm_H G am aw F W) 0 0 Z := by
  refine hs_k (x := Int32.ofNat 0) (p := 1) (by decide +kernel) ?_
  refine hs_istore (i := 3) (p := 2) (by decide +kernel) (Nat.le_of_ble_eq_true rfl) ?_
  refine hs_k (x := Int32.ofNat 0) (p := 3) (by decide +kernel) ?_
  refine hs_istore (i := 4) (p := 5) (by decide +kernel) (Nat.le_of_ble_eq_true rfl) ?_
  exact rp_codeL hA hw he hn hs (by omega) h
def rp_hf (W : Nat → Int32) (e wn : Nat) (sh li : Int32) : Int32 := (rp_co W e wn li >>> (sh &&& 31)) &&& Int32.ofNat 32767
theorem rp_half (hA : hm_ok G am aw) (hw : F 1 = .ref aw) {e wn : Nat} (he : e ≤ 2) (hn : W (45 + 23 * e + 0) = Int32.ofNat wn) (hs : wn ≤ 6) {li sh : Int32} (h : Z (.inl (some (.int (rp_hf W e wn sh li))), hm_H G am aw F W, 0, 0)) : et_go none (d + 5) 268 0 [some (.ref am), some (.int (Int32.ofNat e)), some (.int li), some (.int sh)] [] (hm_H G am aw F W) 0 0 Z := by
  refine hs_aload (i := 0) (p := 1) (by decide +kernel) rfl ?_
  refine hs_iload (i := 1) (p := 2) (by decide +kernel) rfl ?_
  refine hs_iload (i := 2) (p := 3) (by decide +kernel) rfl ?_
  refine hm_call hA (mi := 264) (na := 2) (lk := 4) (lm := 5) (by decide +kernel) rfl rfl rfl rfl rfl rfl (rp_codeOf hA hw (by omega) hn hs (hs_cb ?_))
  show et_go none _ 268 6 _ [.int (rp_co W e wn li)] _ _ _ _
  refine hs_iload (i := 3) (p := 7) (by decide +kernel) rfl ?_
  refine hs_ishr (p := 8) (by decide +kernel) ?_
  refine hs_k (x := Int32.ofNat 32767) (p := 11) (by decide +kernel) ?_
  refine hs_iand (p := 12) (by decide +kernel) ?_
  refine hs_iret (by decide +kernel) ?_
  exact h
end RPK
