/-! PHASE D: the reference's wire, eye, sees -/
def owr (aw a b c : Nat) (G0 G : eg_G) : Prop := ∀ j, ¬ j = c → (j < a ∨ b < j) → et_pl (eg_at G aw) j = et_pl (eg_at G0 aw) j
theorem owr.rf {aw a b c : Nat} {G : eg_G} : owr aw a b c G G := fun _ _ _ => rfl
theorem owr.w {aw a b c p : Nat} {G0 G G' : eg_G} (h : owr aw a b c G0 G) (lt : aw < G.2) (x : xf (fun q j => q = aw ∧ j = p) G G') (hp : p = c ∨ (a ≤ p ∧ p ≤ b)) : owr aw a b c G0 G' := fun j h1 h2 => (x.2 aw j lt (fun hs => by have h9 := hs.2; omega)).trans (h j h1 h2)
theorem owr.xs {S : Nat → Nat → Prop} {aw a b c : Nat} {G0 G G' : eg_G} (h : owr aw a b c G0 G) (lt : aw < G.2) (x : xf S G G') (hS : ∀ j, ¬ S aw j) : owr aw a b c G0 G' := fun j h1 h2 => (x.2 aw j lt (hS j)).trans (h j h1 h2)
section VOA
variable {K : et_K} {G : eg_G} {d d2 am aw e n w m q i kz : Nat} {C N : Nat → Int32} {Kd : Nat → Nat} {l s t f x y z zz : Int32}
theorem fn_wire (hH : et_H et_TT K G) (k_am : K am = some 13) (k_aw : K aw = some 46) (m1 : et_pl (eg_at G am) 1 = some (.ref aw)) (w4 : et_pl (eg_at G aw) 4 = some (.int (Int32.ofNat e))) (he : e ≤ 3) (hn : n < e) (hw : w ≤ 6) (hkd : ∀ m, m < w → Kd m ≤ 2) (hv : evM G aw n w C Kd N l s t f) (hw5 : w < 6) (hkz : kz ≤ 2) (hy : 0 < y.toInt ∧ y.toInt < 65536) (hN0 : N w = Int32.ofNat 0) (hd : 3 ≤ d2) : et_go none d2 223 0 (eg_en (eg_mL 223) [.ref am, .int (Int32.ofNat n), .int y, .int (Int32.ofNat kz)]) [] G 0 0 (fun u => u.1 = .inl (some (.int (Int32.ofNat w))) ∧ et_pl (eg_at u.2.1 am) 0 = some (.int (Int32.ofNat 0)) ∧ owt aw n G u.2.1 ∧ evM u.2.1 aw n (w + 1) (kup C w y) (kdp Kd w kz) N l s t f) := by
  obtain ⟨d, rfl⟩ : ∃ d, d2 = d + 3 := ⟨d2 - 3, by omega⟩
  have wv := hv.1
  have o65 : (65535 : Int32).toInt = 65535 := rfl
  have hq9 : owr aw (45 + 23 * n + (1 + 3 * w)) (45 + 23 * n + (1 + 3 * w + 2)) (45 + 23 * n) G G := owr.rf
  rw [show eg_mL 223 = 5 from by decide +kernel]
  show et_go none (d + 3) 223 0 [some (.ref am), some (.int (Int32.ofNat n)), some (.int y), some (.int (Int32.ofNat kz)), none] [] G 0 0 _
  have lt_am := (hH.2.2 _ _ k_am).1
  have lt_aw := (hH.2.2 _ _ k_aw).1
  refine hs_aload (i := 0) (p := 1) (by decide +kernel) rfl ?_
  refine hs_k (x := Int32.ofNat 0) (p := 2) (by decide +kernel) ?_
  have hHo := hH
  refine hf_put (T := et_TT) (t := 13) (ci := 11) (f := 0) (p := 5) (ty := .int) (by decide +kernel) rfl rfl rfl rfl rfl hH k_am hi_any (fun G2 hH x2 e2 => ?_)
  have hq9 := hq9.xs lt_aw x2 (fun j h => hi_ne k_aw k_am (by decide) h.1)
  have m1 := (x2.2 am 1 lt_am (fun h => absurd h.2 (by decide))).trans m1
  have w4 := (x2.2 aw 4 lt_aw (fun h => (hi_ne k_aw k_am (by decide)) h.1)).trans w4
  have wv := (x2.2 aw (45 + 23 * n) lt_aw (fun h => (hi_ne k_aw k_am (by decide)) h.1)).trans wv
  have lt_am := Nat.lt_of_lt_of_le lt_am x2.1
  have lt_aw := Nat.lt_of_lt_of_le lt_aw x2.1
  refine hs_aload (i := 0) (p := 6) (by decide +kernel) rfl ?_
  refine hs_aload (i := 0) (p := 7) (by decide +kernel) rfl ?_
  refine hs_iload (i := 1) (p := 8) (by decide +kernel) rfl ?_
  refine ht_callv (T := et_TT) (t := 13) (mi := 208) (na := 1) (ci := 11) (lk := 5) (lm := 2) (L0 := eg_en (eg_mL 208) [.ref am, .int (Int32.ofNat n)]) (by decide +kernel) rfl hH k_am rfl rfl rfl rfl rfl (by rw [show eg_mL 208 = 2 from by decide +kernel]; first | done | rfl) ?_
  refine (fm_nEy hH k_am k_aw m1 w4 he hn (by omega)).mono (fun u hu => xp_cb hu ?_)
  show et_go none _ 223 11 _ [.int (Int32.ofNat 0), .ref am] _ _ _ _
  refine hs_k (x := Int32.ofNat 1) (p := 12) (by decide +kernel) ?_
  refine ht_callv (T := et_TT) (t := 13) (mi := 204) (na := 2) (ci := 11) (lk := 5) (lm := 3) (L0 := eg_en (eg_mL 204) [.ref am, .int (Int32.ofNat 0), .int (Int32.ofNat 1)]) (by decide +kernel) rfl hH k_am rfl rfl rfl rfl rfl (by rw [show eg_mL 204 = 3 from by decide +kernel]; first | done | rfl) ?_
  refine (fm_t0 hH k_am).mono (fun u hu => xp_cb hu ?_)
  show et_go none _ 223 15 _ [.int (Int32.ofNat 0)] _ _ _ _
  refine hs_if0 (c := .ne) (t := 73) (f := 18) (by decide +kernel) (show ¬ (¬ Int32.ofNat 0 = 0) by decide) ?_
  refine hs_aload (i := 0) (p := 19) (by decide +kernel) rfl ?_
  refine hs_iload (i := 2) (p := 20) (by decide +kernel) rfl ?_
  refine hs_k (x := Int32.ofNat 1) (p := 21) (by decide +kernel) ?_
  refine hs_kld (v := .int 65535) (p := 23) (by decide +kernel) ?_
  refine hs_calls (mi := 209) (na := 3) (lk := 5) (lm := 3) (L0 := eg_en (eg_mL 209) [.int y, .int (Int32.ofNat 1), .int 65535]) (by decide +kernel) rfl rfl rfl rfl rfl rfl (by rw [show eg_mL 209 = 3 from by decide +kernel]; first | done | rfl) ?_
  refine (fm_in (x := y) (y := (Int32.ofNat 1)) (z := 65535)).mono (fun u hu => xp_cb hu ?_)
  by_cases xy : (Int32.ofNat 1).toInt ≤ y.toInt ∧ y.toInt ≤ (65535 : Int32).toInt
  · rw [if_pos xy]
    show et_go none _ 223 26 _ [.int (Int32.ofNat 1), .ref am] _ _ _ _
    refine hs_if0 (c := .eq) (t := 38) (f := 29) (by decide +kernel) (show ¬ (Int32.ofNat 1 = 0) by decide) ?_
    refine hs_iload (i := 3) (p := 30) (by decide +kernel) rfl ?_
    refine hs_k (x := Int32.ofNat 0) (p := 31) (by decide +kernel) ?_
    refine hs_k (x := Int32.ofNat 2) (p := 32) (by decide +kernel) ?_
    refine hs_calls (mi := 209) (na := 3) (lk := 5) (lm := 3) (L0 := eg_en (eg_mL 209) [.int (Int32.ofNat kz), .int (Int32.ofNat 0), .int (Int32.ofNat 2)]) (by decide +kernel) rfl rfl rfl rfl rfl rfl (by rw [show eg_mL 209 = 3 from by decide +kernel]; first | done | rfl) ?_
    refine (fm_in (x := (Int32.ofNat kz)) (y := (Int32.ofNat 0)) (z := (Int32.ofNat 2))).mono (fun u hu => xp_cb hu ?_)
    by_cases xz : (Int32.ofNat 0).toInt ≤ (Int32.ofNat kz).toInt ∧ (Int32.ofNat kz).toInt ≤ (Int32.ofNat 2).toInt
    · rw [if_pos xz]
      show et_go none _ 223 35 _ [.int (Int32.ofNat 1), .ref am] _ _ _ _
      refine hs_if1 (c := .ne) (t := 42) (f := 38) (by decide +kernel) (show ¬ Int32.ofNat 1 = 0 by decide) ?_
      refine hs_k (x := Int32.ofNat 0) (p := 43) (by decide +kernel) ?_
      refine hs_k (x := Int32.ofNat 2) (p := 44) (by decide +kernel) ?_
      refine ht_callv (T := et_TT) (t := 13) (mi := 204) (na := 2) (ci := 11) (lk := 5) (lm := 3) (L0 := eg_en (eg_mL 204) [.ref am, .int (Int32.ofNat 0), .int (Int32.ofNat 2)]) (by decide +kernel) rfl hH k_am rfl rfl rfl rfl rfl (by rw [show eg_mL 204 = 3 from by decide +kernel]; first | done | rfl) ?_
      refine (fm_t0 hH k_am).mono (fun u hu => xp_cb hu ?_)
      show et_go none _ 223 47 _ [.int (Int32.ofNat 0)] _ _ _ _
      refine hs_if0 (c := .ne) (t := 73) (f := 50) (by decide +kernel) (show ¬ (¬ Int32.ofNat 0 = 0) by decide) ?_
      refine hs_aload (i := 0) (p := 51) (by decide +kernel) rfl ?_
      refine hs_aload (i := 0) (p := 52) (by decide +kernel) rfl ?_
      refine hs_iload (i := 1) (p := 53) (by decide +kernel) rfl ?_
      refine ht_callv (T := et_TT) (t := 13) (mi := 224) (na := 1) (ci := 11) (lk := 5) (lm := 2) (L0 := eg_en (eg_mL 224) [.ref am, .int (Int32.ofNat n)]) (by decide +kernel) rfl hH k_am rfl rfl rfl rfl rfl (by rw [show eg_mL 224 = 2 from by decide +kernel]; first | done | rfl) ?_
      refine (fn_wires hH k_am k_aw m1 (by omega) wv (by omega)).mono (fun u hu => xp_cb hu ?_)
      show et_go none _ 223 56 _ [.int (Int32.ofNat w), .ref am] _ _ _ _
      refine hs_k (x := Int32.ofNat 6) (p := 58) (by decide +kernel) ?_
      refine hs_br2n (c := .ne) (t := 65) (f := 61) (by decide +kernel) (by omega) (by omega) (fun (c58 : ¬ w = 6) => ?_) (fun (c58 : ¬ (¬ w = 6)) => ?_)
      · refine hs_k (x := Int32.ofNat 0) (p := 66) (by decide +kernel) ?_
        refine hs_k (x := Int32.ofNat 3) (p := 67) (by decide +kernel) ?_
        refine ht_callv (T := et_TT) (t := 13) (mi := 204) (na := 2) (ci := 11) (lk := 5) (lm := 3) (L0 := eg_en (eg_mL 204) [.ref am, .int (Int32.ofNat 0), .int (Int32.ofNat 3)]) (by decide +kernel) rfl hH k_am rfl rfl rfl rfl rfl (by rw [show eg_mL 204 = 3 from by decide +kernel]; first | done | rfl) ?_
        refine (fm_t0 hH k_am).mono (fun u hu => xp_cb hu ?_)
        show et_go none _ 223 70 _ [.int (Int32.ofNat 0)] _ _ _ _
        refine hs_if1 (c := .eq) (t := 75) (f := 73) (by decide +kernel) (show Int32.ofNat 0 = 0 by decide) ?_
        refine hs_aload (i := 0) (p := 76) (by decide +kernel) rfl ?_
        refine hs_iload (i := 1) (p := 77) (by decide +kernel) rfl ?_
        refine ht_callv (T := et_TT) (t := 13) (mi := 224) (na := 1) (ci := 11) (lk := 5) (lm := 2) (L0 := eg_en (eg_mL 224) [.ref am, .int (Int32.ofNat n)]) (by decide +kernel) rfl hH k_am rfl rfl rfl rfl rfl (by rw [show eg_mL 224 = 2 from by decide +kernel]; first | done | rfl) ?_
        refine (fn_wires hH k_am k_aw m1 (by omega) wv (by omega)).mono (fun u hu => xp_cb hu ?_)
        show et_go none _ 223 80 _ [.int (Int32.ofNat w)] _ _ _ _
        refine hs_istore (i := 4) (p := 82) (by decide +kernel) (Nat.le_of_ble_eq_true rfl) ?_
        refine hs_aload (i := 0) (p := 83) (by decide +kernel) rfl ?_
        refine hf_get (T := et_TT) (t := 13) (ci := 11) (f := 1) (p := 86) (by decide +kernel) rfl hH k_am m1 ?_
        refine hs_iload (i := 1) (p := 87) (by decide +kernel) rfl ?_
        refine hs_iload (i := 4) (p := 89) (by decide +kernel) rfl ?_
        refine hs_k (x := Int32.ofNat 0) (p := 90) (by decide +kernel) ?_
        refine hs_calls (mi := 226) (na := 3) (lk := 5) (lm := 3) (L0 := eg_en (eg_mL 226) [.int (Int32.ofNat n), .int (Int32.ofNat w), .int (Int32.ofNat 0)]) (by decide +kernel) rfl rfl rfl rfl rfl rfl (by rw [show eg_mL 226 = 3 from by decide +kernel]; first | done | rfl) ?_
        refine (fn_wireAt).mono (fun u hu => xp_cb hu ?_)
        show et_go none _ 223 93 _ [.int (Int32.ofNat (45 + 23 * n + (1 + 3 * w + 0))), .ref aw] _ _ _ _
        refine hs_iload (i := 2) (p := 94) (by decide +kernel) rfl ?_
        have hHo := hH
        refine hf_wst (p := 95) (by decide +kernel) hH k_aw (by omega) (wx_ok (e := n) (k := 1 + 3 * w + 0) (by omega) (by omega) (fun h => absurd h (by omega))) (fun G94 hH x94 e94 => ?_)
        have hq9 := hq9.w lt_aw x94 (by omega)
        have m1 := (x94.2 am 1 lt_am (fun h => (hi_ne k_am k_aw (by decide)) h.1)).trans m1
        have w4 := (x94.2 aw 4 lt_aw (fun h => by have h := h.2; omega)).trans w4
        have wv := (x94.2 aw (45 + 23 * n) lt_aw (fun h => by have h := h.2; omega)).trans wv
        have e2 := (x94.2 am 0 lt_am (fun h => (hi_ne k_am k_aw (by decide)) h.1)).trans e2
        have lt_am := Nat.lt_of_lt_of_le lt_am x94.1
        have lt_aw := Nat.lt_of_lt_of_le lt_aw x94.1
        refine hs_aload (i := 0) (p := 96) (by decide +kernel) rfl ?_
        refine hf_get (T := et_TT) (t := 13) (ci := 11) (f := 1) (p := 99) (by decide +kernel) rfl hH k_am m1 ?_
        refine hs_iload (i := 1) (p := 100) (by decide +kernel) rfl ?_
        refine hs_iload (i := 4) (p := 102) (by decide +kernel) rfl ?_
        refine hs_k (x := Int32.ofNat 1) (p := 103) (by decide +kernel) ?_
        refine hs_calls (mi := 226) (na := 3) (lk := 5) (lm := 3) (L0 := eg_en (eg_mL 226) [.int (Int32.ofNat n), .int (Int32.ofNat w), .int (Int32.ofNat 1)]) (by decide +kernel) rfl rfl rfl rfl rfl rfl (by rw [show eg_mL 226 = 3 from by decide +kernel]; first | done | rfl) ?_
        refine (fn_wireAt).mono (fun u hu => xp_cb hu ?_)
        show et_go none _ 223 106 _ [.int (Int32.ofNat (45 + 23 * n + (1 + 3 * w + 1))), .ref aw] _ _ _ _
        refine hs_iload (i := 3) (p := 107) (by decide +kernel) rfl ?_
        have hHo := hH
        refine hf_wst (p := 108) (by decide +kernel) hH k_aw (by omega) (wx_ok (e := n) (k := 1 + 3 * w + 1) (by omega) (by omega) (fun h => absurd h (by omega))) (fun G107 hH x107 e107 => ?_)
        have hq9 := hq9.w lt_aw x107 (by omega)
        have m1 := (x107.2 am 1 lt_am (fun h => (hi_ne k_am k_aw (by decide)) h.1)).trans m1
        have w4 := (x107.2 aw 4 lt_aw (fun h => by have h := h.2; omega)).trans w4
        have wv := (x107.2 aw (45 + 23 * n) lt_aw (fun h => by have h := h.2; omega)).trans wv
        have e2 := (x107.2 am 0 lt_am (fun h => (hi_ne k_am k_aw (by decide)) h.1)).trans e2
        have e94 := (x107.2 aw (45 + 23 * n + (1 + 3 * w + 0)) lt_aw (fun h => by have h := h.2; omega)).trans e94
        have lt_am := Nat.lt_of_lt_of_le lt_am x107.1
        have lt_aw := Nat.lt_of_lt_of_le lt_aw x107.1
        refine hs_aload (i := 0) (p := 109) (by decide +kernel) rfl ?_
        refine hf_get (T := et_TT) (t := 13) (ci := 11) (f := 1) (p := 112) (by decide +kernel) rfl hH k_am m1 ?_
        refine hs_iload (i := 1) (p := 113) (by decide +kernel) rfl ?_
        refine hs_iload (i := 4) (p := 115) (by decide +kernel) rfl ?_
        refine hs_k (x := Int32.ofNat 2) (p := 116) (by decide +kernel) ?_
        refine hs_calls (mi := 226) (na := 3) (lk := 5) (lm := 3) (L0 := eg_en (eg_mL 226) [.int (Int32.ofNat n), .int (Int32.ofNat w), .int (Int32.ofNat 2)]) (by decide +kernel) rfl rfl rfl rfl rfl rfl (by rw [show eg_mL 226 = 3 from by decide +kernel]; first | done | rfl) ?_
        refine (fn_wireAt).mono (fun u hu => xp_cb hu ?_)
        show et_go none _ 223 119 _ [.int (Int32.ofNat (45 + 23 * n + (1 + 3 * w + 2))), .ref aw] _ _ _ _
        refine hs_k (x := Int32.ofNat 0) (p := 120) (by decide +kernel) ?_
        have hHo := hH
        refine hf_wst (p := 121) (by decide +kernel) hH k_aw (by omega) (wx_ok (e := n) (k := 1 + 3 * w + 2) (by omega) (by omega) (fun h => absurd h (by omega))) (fun G120 hH x120 e120 => ?_)
        have hq9 := hq9.w lt_aw x120 (by omega)
        have m1 := (x120.2 am 1 lt_am (fun h => (hi_ne k_am k_aw (by decide)) h.1)).trans m1
        have w4 := (x120.2 aw 4 lt_aw (fun h => by have h := h.2; omega)).trans w4
        have wv := (x120.2 aw (45 + 23 * n) lt_aw (fun h => by have h := h.2; omega)).trans wv
        have e2 := (x120.2 am 0 lt_am (fun h => (hi_ne k_am k_aw (by decide)) h.1)).trans e2
        have e94 := (x120.2 aw (45 + 23 * n + (1 + 3 * w + 0)) lt_aw (fun h => by have h := h.2; omega)).trans e94
        have e107 := (x120.2 aw (45 + 23 * n + (1 + 3 * w + 1)) lt_aw (fun h => by have h := h.2; omega)).trans e107
        have lt_am := Nat.lt_of_lt_of_le lt_am x120.1
        have lt_aw := Nat.lt_of_lt_of_le lt_aw x120.1
        refine hs_aload (i := 0) (p := 122) (by decide +kernel) rfl ?_
        refine hf_get (T := et_TT) (t := 13) (ci := 11) (f := 1) (p := 125) (by decide +kernel) rfl hH k_am m1 ?_
        refine hs_k (x := Int32.ofNat 45) (p := 127) (by decide +kernel) ?_
        refine hs_k (x := Int32.ofNat 23) (p := 129) (by decide +kernel) ?_
        refine hs_iload (i := 1) (p := 130) (by decide +kernel) rfl ?_
        refine hs_imuln (p := 131) (by decide +kernel) ?_
        refine hs_iaddn (p := 132) (by decide +kernel) ?_
        refine hs_k (x := Int32.ofNat 0) (p := 133) (by decide +kernel) ?_
        refine hs_iaddn (p := 134) (by decide +kernel) ?_
        refine hs_dup2 (p := 135) (by decide +kernel) ?_
        refine hf_ald (ins := .iaload) (T := et_TT) (t := 46) (kd := 0) (N := 12741) (p := 136) (by decide +kernel) (fun _ _ _ _ _ _ _ _ _ _ => rfl) rfl rfl rfl hH k_aw (by decide) (pl_eq wv (by omega)) ?_
        refine hs_k (x := Int32.ofNat 1) (p := 137) (by decide +kernel) ?_
        refine hs_iaddn (p := 138) (by decide +kernel) ?_
        have hHo := hH
        refine hf_wst (p := 139) (by decide +kernel) hH k_aw (by omega) (wx_ok (e := n) (k := 0) (by omega) (by decide) (fun _ => ⟨w + 1, by omega, rfl⟩)) (fun G138 hH x138 e138 => ?_)
        have hq9 := hq9.w lt_aw x138 (by omega)
        have m1 := (x138.2 am 1 lt_am (fun h => (hi_ne k_am k_aw (by decide)) h.1)).trans m1
        have w4 := (x138.2 aw 4 lt_aw (fun h => by have h := h.2; omega)).trans w4
        have e2 := (x138.2 am 0 lt_am (fun h => (hi_ne k_am k_aw (by decide)) h.1)).trans e2
        have e94 := (x138.2 aw (45 + 23 * n + (1 + 3 * w + 0)) lt_aw (fun h => by have h := h.2; omega)).trans e94
        have e107 := (x138.2 aw (45 + 23 * n + (1 + 3 * w + 1)) lt_aw (fun h => by have h := h.2; omega)).trans e107
        have e120 := (x138.2 aw (45 + 23 * n + (1 + 3 * w + 2)) lt_aw (fun h => by have h := h.2; omega)).trans e120
        have lt_am := Nat.lt_of_lt_of_le lt_am x138.1
        have lt_aw := Nat.lt_of_lt_of_le lt_aw x138.1
        refine hs_iload (i := 4) (p := 141) (by decide +kernel) rfl ?_
        refine hs_iret (by decide +kernel) ?_
        refine ⟨rfl, e2, fun j hj => hq9 j (by omega) (by omega), (pl_eq e138 (by omega)), fun k hk => ?_, (hq9 _ (by omega) (by omega)).trans hv.2.2.1, (hq9 _ (by omega) (by omega)).trans hv.2.2.2.1, (hq9 _ (by omega) (by omega)).trans hv.2.2.2.2.1, (hq9 _ (by omega) (by omega)).trans hv.2.2.2.2.2⟩
        unfold kup kdp
        by_cases ek : k = w
        · rw [if_pos ek, if_pos ek, ek, hN0]
          exact ⟨e94, e107, e120⟩
        · rw [if_neg ek, if_neg ek]
          exact ⟨(hq9 _ (by omega) (by omega)).trans (hv.2.1 k (by omega)).1, (hq9 _ (by omega) (by omega)).trans (hv.2.1 k (by omega)).2.1, (hq9 _ (by omega) (by omega)).trans (hv.2.1 k (by omega)).2.2⟩
      · exact absurd (show ¬ w = 6 by omega) c58
    · exact absurd ⟨by rw [hs_nint (by decide), hs_nint (by omega)]; omega, by rw [hs_nint (by omega), hs_nint (by decide)]; omega⟩ xz
  · exact absurd ⟨by rw [hs_nint (by decide)]; omega, by rw [o65]; omega⟩ xy
theorem fn_wireR (hH : et_H et_TT K G) (k_am : K am = some 13) (k_aw : K aw = some 46) (m1 : et_pl (eg_at G am) 1 = some (.ref aw)) (w4 : et_pl (eg_at G aw) 4 = some (.int (Int32.ofNat e))) (he : e ≤ 3) (hn : n < e) (hw : w ≤ 6) (hkd : ∀ m, m < w → Kd m ≤ 2) (hv : evM G aw n w C Kd N l s t f) (hz : ¬ (0 < y.toInt ∧ y.toInt < 65536 ∧ 0 ≤ z.toInt ∧ z.toInt ≤ 2)) (hd : 3 ≤ d2) : et_go none d2 223 0 (eg_en (eg_mL 223) [.ref am, .int (Int32.ofNat n), .int y, .int z]) [] G 0 0 (fun u => u.1 = .inl (some (.int (Int32.ofNat 0))) ∧ et_pl (eg_at u.2.1 am) 0 = some (.int (Int32.ofNat 2)) ∧ ∀ j, et_pl (eg_at u.2.1 aw) j = et_pl (eg_at G aw) j) := by
  obtain ⟨d, rfl⟩ : ∃ d, d2 = d + 3 := ⟨d2 - 3, by omega⟩
  have wv := hv.1
  have o65 : (65535 : Int32).toInt = 65535 := rfl
  have hw9 : ∀ j, et_pl (eg_at G aw) j = et_pl (eg_at G aw) j := fun _ => rfl
  rw [show eg_mL 223 = 5 from by decide +kernel]
  show et_go none (d + 3) 223 0 [some (.ref am), some (.int (Int32.ofNat n)), some (.int y), some (.int z), none] [] G 0 0 _
  have lt_am := (hH.2.2 _ _ k_am).1
  have lt_aw := (hH.2.2 _ _ k_aw).1
  refine hs_aload (i := 0) (p := 1) (by decide +kernel) rfl ?_
  refine hs_k (x := Int32.ofNat 0) (p := 2) (by decide +kernel) ?_
  have hHo := hH
  refine hf_put (T := et_TT) (t := 13) (ci := 11) (f := 0) (p := 5) (ty := .int) (by decide +kernel) rfl rfl rfl rfl rfl hH k_am hi_any (fun G2 hH x2 e2 => ?_)
  have hw9 : ∀ j, et_pl (eg_at G2 aw) j = et_pl (eg_at G aw) j := fun j => (x2.2 aw j lt_aw (fun h => hi_ne k_aw k_am (by decide) h.1)).trans (hw9 j)
  have m1 := (x2.2 am 1 lt_am (fun h => absurd h.2 (by decide))).trans m1
  have w4 := (x2.2 aw 4 lt_aw (fun h => (hi_ne k_aw k_am (by decide)) h.1)).trans w4
  have wv := (x2.2 aw (45 + 23 * n) lt_aw (fun h => (hi_ne k_aw k_am (by decide)) h.1)).trans wv
  have lt_am := Nat.lt_of_lt_of_le lt_am x2.1
  have lt_aw := Nat.lt_of_lt_of_le lt_aw x2.1
  refine hs_aload (i := 0) (p := 6) (by decide +kernel) rfl ?_
  refine hs_aload (i := 0) (p := 7) (by decide +kernel) rfl ?_
  refine hs_iload (i := 1) (p := 8) (by decide +kernel) rfl ?_
  refine ht_callv (T := et_TT) (t := 13) (mi := 208) (na := 1) (ci := 11) (lk := 5) (lm := 2) (L0 := eg_en (eg_mL 208) [.ref am, .int (Int32.ofNat n)]) (by decide +kernel) rfl hH k_am rfl rfl rfl rfl rfl (by rw [show eg_mL 208 = 2 from by decide +kernel]; first | done | rfl) ?_
  refine (fm_nEy hH k_am k_aw m1 w4 he hn (by omega)).mono (fun u hu => xp_cb hu ?_)
  show et_go none _ 223 11 _ [.int (Int32.ofNat 0), .ref am] _ _ _ _
  refine hs_k (x := Int32.ofNat 1) (p := 12) (by decide +kernel) ?_
  refine ht_callv (T := et_TT) (t := 13) (mi := 204) (na := 2) (ci := 11) (lk := 5) (lm := 3) (L0 := eg_en (eg_mL 204) [.ref am, .int (Int32.ofNat 0), .int (Int32.ofNat 1)]) (by decide +kernel) rfl hH k_am rfl rfl rfl rfl rfl (by rw [show eg_mL 204 = 3 from by decide +kernel]; first | done | rfl) ?_
  refine (fm_t0 hH k_am).mono (fun u hu => xp_cb hu ?_)
  show et_go none _ 223 15 _ [.int (Int32.ofNat 0)] _ _ _ _
  refine hs_if0 (c := .ne) (t := 73) (f := 18) (by decide +kernel) (show ¬ (¬ Int32.ofNat 0 = 0) by decide) ?_
  refine hs_aload (i := 0) (p := 19) (by decide +kernel) rfl ?_
  refine hs_iload (i := 2) (p := 20) (by decide +kernel) rfl ?_
  refine hs_k (x := Int32.ofNat 1) (p := 21) (by decide +kernel) ?_
  refine hs_kld (v := .int 65535) (p := 23) (by decide +kernel) ?_
  refine hs_calls (mi := 209) (na := 3) (lk := 5) (lm := 3) (L0 := eg_en (eg_mL 209) [.int y, .int (Int32.ofNat 1), .int 65535]) (by decide +kernel) rfl rfl rfl rfl rfl rfl (by rw [show eg_mL 209 = 3 from by decide +kernel]; first | done | rfl) ?_
  refine (fm_in (x := y) (y := (Int32.ofNat 1)) (z := 65535)).mono (fun u hu => xp_cb hu ?_)
  by_cases xy : (Int32.ofNat 1).toInt ≤ y.toInt ∧ y.toInt ≤ (65535 : Int32).toInt
  · rw [if_pos xy]
    show et_go none _ 223 26 _ [.int (Int32.ofNat 1), .ref am] _ _ _ _
    refine hs_if0 (c := .eq) (t := 38) (f := 29) (by decide +kernel) (show ¬ (Int32.ofNat 1 = 0) by decide) ?_
    refine hs_iload (i := 3) (p := 30) (by decide +kernel) rfl ?_
    refine hs_k (x := Int32.ofNat 0) (p := 31) (by decide +kernel) ?_
    refine hs_k (x := Int32.ofNat 2) (p := 32) (by decide +kernel) ?_
    refine hs_calls (mi := 209) (na := 3) (lk := 5) (lm := 3) (L0 := eg_en (eg_mL 209) [.int z, .int (Int32.ofNat 0), .int (Int32.ofNat 2)]) (by decide +kernel) rfl rfl rfl rfl rfl rfl (by rw [show eg_mL 209 = 3 from by decide +kernel]; first | done | rfl) ?_
    refine (fm_in (x := z) (y := (Int32.ofNat 0)) (z := (Int32.ofNat 2))).mono (fun u hu => xp_cb hu ?_)
    by_cases xz : (Int32.ofNat 0).toInt ≤ z.toInt ∧ z.toInt ≤ (Int32.ofNat 2).toInt
    · exact absurd ⟨by have h := xy.1; rw [hs_nint (by decide)] at h; omega, by have h := xy.2; rw [o65] at h; omega, by have h := xz.1; rw [hs_nint (by decide)] at h; omega, by have h := xz.2; rw [hs_nint (by decide)] at h; omega⟩ hz
    · rw [if_neg xz]
      show et_go none _ 223 35 _ [.int (Int32.ofNat 0), .ref am] _ _ _ _
      refine hs_if0 (c := .ne) (t := 42) (f := 38) (by decide +kernel) (show ¬ (¬ Int32.ofNat 0 = 0) by decide) ?_
      refine hs_k (x := Int32.ofNat 1) (p := 39) (by decide +kernel) ?_
      refine hs_goto (p := 43) (by decide +kernel) ?_
      refine hs_k (x := Int32.ofNat 2) (p := 44) (by decide +kernel) ?_
      have hHo := hH
      refine ht_callv (T := et_TT) (t := 13) (mi := 204) (na := 2) (ci := 11) (lk := 5) (lm := 3) (L0 := eg_en (eg_mL 204) [.ref am, .int (Int32.ofNat 1), .int (Int32.ofNat 2)]) (by decide +kernel) rfl hH k_am rfl rfl rfl rfl rfl (by rw [show eg_mL 204 = 3 from by decide +kernel]; first | done | rfl) ?_
      refine (fm_t1 hH k_am).mono (fun u hu => xw_cb hu (fun G44 v44 hH x44 hP44 => ?_))
      have hw9 : ∀ j, et_pl (eg_at G44 aw) j = et_pl (eg_at G aw) j := fun j => (x44.2 aw j lt_aw (fun h => hi_ne k_aw k_am (by decide) h.1)).trans (hw9 j)
      have m1 := (x44.2 am 1 lt_am (fun h => absurd h.2 (by decide))).trans m1
      have w4 := (x44.2 aw 4 lt_aw (fun h => (hi_ne k_aw k_am (by decide)) h.1)).trans w4
      have wv := (x44.2 aw (45 + 23 * n) lt_aw (fun h => (hi_ne k_aw k_am (by decide)) h.1)).trans wv
      have lt_am := Nat.lt_of_lt_of_le lt_am x44.1
      have lt_aw := Nat.lt_of_lt_of_le lt_aw x44.1
      obtain ⟨rfl, th44⟩ := hP44
      show et_go none _ 223 47 _ [.int (Int32.ofNat 1)] _ _ _ _
      refine hs_if1 (c := .ne) (t := 73) (f := 50) (by decide +kernel) (show ¬ Int32.ofNat 1 = 0 by decide) ?_
      refine hs_k (x := Int32.ofNat 0) (p := 74) (by decide +kernel) ?_
      refine hs_iret (by decide +kernel) ?_
      exact ⟨rfl, th44, hw9⟩
  · rw [if_neg xy]
    show et_go none _ 223 26 _ [.int (Int32.ofNat 0), .ref am] _ _ _ _
    refine hs_if1 (c := .eq) (t := 38) (f := 29) (by decide +kernel) (show Int32.ofNat 0 = 0 by decide) ?_
    refine hs_k (x := Int32.ofNat 1) (p := 39) (by decide +kernel) ?_
    refine hs_goto (p := 43) (by decide +kernel) ?_
    refine hs_k (x := Int32.ofNat 2) (p := 44) (by decide +kernel) ?_
    have hHo := hH
    refine ht_callv (T := et_TT) (t := 13) (mi := 204) (na := 2) (ci := 11) (lk := 5) (lm := 3) (L0 := eg_en (eg_mL 204) [.ref am, .int (Int32.ofNat 1), .int (Int32.ofNat 2)]) (by decide +kernel) rfl hH k_am rfl rfl rfl rfl rfl (by rw [show eg_mL 204 = 3 from by decide +kernel]; first | done | rfl) ?_
    refine (fm_t1 hH k_am).mono (fun u hu => xw_cb hu (fun G44 v44 hH x44 hP44 => ?_))
    have hw9 : ∀ j, et_pl (eg_at G44 aw) j = et_pl (eg_at G aw) j := fun j => (x44.2 aw j lt_aw (fun h => hi_ne k_aw k_am (by decide) h.1)).trans (hw9 j)
    have m1 := (x44.2 am 1 lt_am (fun h => absurd h.2 (by decide))).trans m1
    have w4 := (x44.2 aw 4 lt_aw (fun h => (hi_ne k_aw k_am (by decide)) h.1)).trans w4
    have wv := (x44.2 aw (45 + 23 * n) lt_aw (fun h => (hi_ne k_aw k_am (by decide)) h.1)).trans wv
    have lt_am := Nat.lt_of_lt_of_le lt_am x44.1
    have lt_aw := Nat.lt_of_lt_of_le lt_aw x44.1
    obtain ⟨rfl, th44⟩ := hP44
    show et_go none _ 223 47 _ [.int (Int32.ofNat 1)] _ _ _ _
    refine hs_if1 (c := .ne) (t := 73) (f := 50) (by decide +kernel) (show ¬ Int32.ofNat 1 = 0 by decide) ?_
    refine hs_k (x := Int32.ofNat 0) (p := 74) (by decide +kernel) ?_
    refine hs_iret (by decide +kernel) ?_
    exact ⟨rfl, th44, hw9⟩
theorem fn_wireF (hH : et_H et_TT K G) (k_am : K am = some 13) (k_aw : K aw = some 46) (m1 : et_pl (eg_at G am) 1 = some (.ref aw)) (w4 : et_pl (eg_at G aw) 4 = some (.int (Int32.ofNat e))) (he : e ≤ 3) (hn : n < e) (hw : w ≤ 6) (hkd : ∀ m, m < w → Kd m ≤ 2) (hv : evM G aw n w C Kd N l s t f) (hw5 : w = 6) (hkz : kz ≤ 2) (hy : 0 < y.toInt ∧ y.toInt < 65536) (hd : 3 ≤ d2) : et_go none d2 223 0 (eg_en (eg_mL 223) [.ref am, .int (Int32.ofNat n), .int y, .int (Int32.ofNat kz)]) [] G 0 0 (fun u => u.1 = .inl (some (.int (Int32.ofNat 0))) ∧ et_pl (eg_at u.2.1 am) 0 = some (.int (Int32.ofNat 3)) ∧ ∀ j, et_pl (eg_at u.2.1 aw) j = et_pl (eg_at G aw) j) := by
  obtain ⟨d, rfl⟩ : ∃ d, d2 = d + 3 := ⟨d2 - 3, by omega⟩
  have wv := hv.1
  have o65 : (65535 : Int32).toInt = 65535 := rfl
  have hw9 : ∀ j, et_pl (eg_at G aw) j = et_pl (eg_at G aw) j := fun _ => rfl
  rw [show eg_mL 223 = 5 from by decide +kernel]
  show et_go none (d + 3) 223 0 [some (.ref am), some (.int (Int32.ofNat n)), some (.int y), some (.int (Int32.ofNat kz)), none] [] G 0 0 _
  have lt_am := (hH.2.2 _ _ k_am).1
  have lt_aw := (hH.2.2 _ _ k_aw).1
  refine hs_aload (i := 0) (p := 1) (by decide +kernel) rfl ?_
  refine hs_k (x := Int32.ofNat 0) (p := 2) (by decide +kernel) ?_
  have hHo := hH
  refine hf_put (T := et_TT) (t := 13) (ci := 11) (f := 0) (p := 5) (ty := .int) (by decide +kernel) rfl rfl rfl rfl rfl hH k_am hi_any (fun G2 hH x2 e2 => ?_)
  have hw9 : ∀ j, et_pl (eg_at G2 aw) j = et_pl (eg_at G aw) j := fun j => (x2.2 aw j lt_aw (fun h => hi_ne k_aw k_am (by decide) h.1)).trans (hw9 j)
  have m1 := (x2.2 am 1 lt_am (fun h => absurd h.2 (by decide))).trans m1
  have w4 := (x2.2 aw 4 lt_aw (fun h => (hi_ne k_aw k_am (by decide)) h.1)).trans w4
  have wv := (x2.2 aw (45 + 23 * n) lt_aw (fun h => (hi_ne k_aw k_am (by decide)) h.1)).trans wv
  have lt_am := Nat.lt_of_lt_of_le lt_am x2.1
  have lt_aw := Nat.lt_of_lt_of_le lt_aw x2.1
  refine hs_aload (i := 0) (p := 6) (by decide +kernel) rfl ?_
  refine hs_aload (i := 0) (p := 7) (by decide +kernel) rfl ?_
  refine hs_iload (i := 1) (p := 8) (by decide +kernel) rfl ?_
  refine ht_callv (T := et_TT) (t := 13) (mi := 208) (na := 1) (ci := 11) (lk := 5) (lm := 2) (L0 := eg_en (eg_mL 208) [.ref am, .int (Int32.ofNat n)]) (by decide +kernel) rfl hH k_am rfl rfl rfl rfl rfl (by rw [show eg_mL 208 = 2 from by decide +kernel]; first | done | rfl) ?_
  refine (fm_nEy hH k_am k_aw m1 w4 he hn (by omega)).mono (fun u hu => xp_cb hu ?_)
  show et_go none _ 223 11 _ [.int (Int32.ofNat 0), .ref am] _ _ _ _
  refine hs_k (x := Int32.ofNat 1) (p := 12) (by decide +kernel) ?_
  refine ht_callv (T := et_TT) (t := 13) (mi := 204) (na := 2) (ci := 11) (lk := 5) (lm := 3) (L0 := eg_en (eg_mL 204) [.ref am, .int (Int32.ofNat 0), .int (Int32.ofNat 1)]) (by decide +kernel) rfl hH k_am rfl rfl rfl rfl rfl (by rw [show eg_mL 204 = 3 from by decide +kernel]; first | done | rfl) ?_
  refine (fm_t0 hH k_am).mono (fun u hu => xp_cb hu ?_)
  show et_go none _ 223 15 _ [.int (Int32.ofNat 0)] _ _ _ _
  refine hs_if0 (c := .ne) (t := 73) (f := 18) (by decide +kernel) (show ¬ (¬ Int32.ofNat 0 = 0) by decide) ?_
  refine hs_aload (i := 0) (p := 19) (by decide +kernel) rfl ?_
  refine hs_iload (i := 2) (p := 20) (by decide +kernel) rfl ?_
  refine hs_k (x := Int32.ofNat 1) (p := 21) (by decide +kernel) ?_
  refine hs_kld (v := .int 65535) (p := 23) (by decide +kernel) ?_
  refine hs_calls (mi := 209) (na := 3) (lk := 5) (lm := 3) (L0 := eg_en (eg_mL 209) [.int y, .int (Int32.ofNat 1), .int 65535]) (by decide +kernel) rfl rfl rfl rfl rfl rfl (by rw [show eg_mL 209 = 3 from by decide +kernel]; first | done | rfl) ?_
  refine (fm_in (x := y) (y := (Int32.ofNat 1)) (z := 65535)).mono (fun u hu => xp_cb hu ?_)
  by_cases xy : (Int32.ofNat 1).toInt ≤ y.toInt ∧ y.toInt ≤ (65535 : Int32).toInt
  · rw [if_pos xy]
    show et_go none _ 223 26 _ [.int (Int32.ofNat 1), .ref am] _ _ _ _
    refine hs_if0 (c := .eq) (t := 38) (f := 29) (by decide +kernel) (show ¬ (Int32.ofNat 1 = 0) by decide) ?_
    refine hs_iload (i := 3) (p := 30) (by decide +kernel) rfl ?_
    refine hs_k (x := Int32.ofNat 0) (p := 31) (by decide +kernel) ?_
    refine hs_k (x := Int32.ofNat 2) (p := 32) (by decide +kernel) ?_
    refine hs_calls (mi := 209) (na := 3) (lk := 5) (lm := 3) (L0 := eg_en (eg_mL 209) [.int (Int32.ofNat kz), .int (Int32.ofNat 0), .int (Int32.ofNat 2)]) (by decide +kernel) rfl rfl rfl rfl rfl rfl (by rw [show eg_mL 209 = 3 from by decide +kernel]; first | done | rfl) ?_
    refine (fm_in (x := (Int32.ofNat kz)) (y := (Int32.ofNat 0)) (z := (Int32.ofNat 2))).mono (fun u hu => xp_cb hu ?_)
    by_cases xz : (Int32.ofNat 0).toInt ≤ (Int32.ofNat kz).toInt ∧ (Int32.ofNat kz).toInt ≤ (Int32.ofNat 2).toInt
    · rw [if_pos xz]
      show et_go none _ 223 35 _ [.int (Int32.ofNat 1), .ref am] _ _ _ _
      refine hs_if1 (c := .ne) (t := 42) (f := 38) (by decide +kernel) (show ¬ Int32.ofNat 1 = 0 by decide) ?_
      refine hs_k (x := Int32.ofNat 0) (p := 43) (by decide +kernel) ?_
      refine hs_k (x := Int32.ofNat 2) (p := 44) (by decide +kernel) ?_
      refine ht_callv (T := et_TT) (t := 13) (mi := 204) (na := 2) (ci := 11) (lk := 5) (lm := 3) (L0 := eg_en (eg_mL 204) [.ref am, .int (Int32.ofNat 0), .int (Int32.ofNat 2)]) (by decide +kernel) rfl hH k_am rfl rfl rfl rfl rfl (by rw [show eg_mL 204 = 3 from by decide +kernel]; first | done | rfl) ?_
      refine (fm_t0 hH k_am).mono (fun u hu => xp_cb hu ?_)
      show et_go none _ 223 47 _ [.int (Int32.ofNat 0)] _ _ _ _
      refine hs_if0 (c := .ne) (t := 73) (f := 50) (by decide +kernel) (show ¬ (¬ Int32.ofNat 0 = 0) by decide) ?_
      refine hs_aload (i := 0) (p := 51) (by decide +kernel) rfl ?_
      refine hs_aload (i := 0) (p := 52) (by decide +kernel) rfl ?_
      refine hs_iload (i := 1) (p := 53) (by decide +kernel) rfl ?_
      refine ht_callv (T := et_TT) (t := 13) (mi := 224) (na := 1) (ci := 11) (lk := 5) (lm := 2) (L0 := eg_en (eg_mL 224) [.ref am, .int (Int32.ofNat n)]) (by decide +kernel) rfl hH k_am rfl rfl rfl rfl rfl (by rw [show eg_mL 224 = 2 from by decide +kernel]; first | done | rfl) ?_
      refine (fn_wires hH k_am k_aw m1 (by omega) wv (by omega)).mono (fun u hu => xp_cb hu ?_)
      show et_go none _ 223 56 _ [.int (Int32.ofNat w), .ref am] _ _ _ _
      refine hs_k (x := Int32.ofNat 6) (p := 58) (by decide +kernel) ?_
      refine hs_br2n (c := .ne) (t := 65) (f := 61) (by decide +kernel) (by omega) (by omega) (fun (c58 : ¬ w = 6) => ?_) (fun (c58 : ¬ (¬ w = 6)) => ?_)
      · exact absurd hw5 c58
      · refine hs_k (x := Int32.ofNat 1) (p := 62) (by decide +kernel) ?_
        refine hs_goto (p := 66) (by decide +kernel) ?_
        refine hs_k (x := Int32.ofNat 3) (p := 67) (by decide +kernel) ?_
        have hHo := hH
        refine ht_callv (T := et_TT) (t := 13) (mi := 204) (na := 2) (ci := 11) (lk := 5) (lm := 3) (L0 := eg_en (eg_mL 204) [.ref am, .int (Int32.ofNat 1), .int (Int32.ofNat 3)]) (by decide +kernel) rfl hH k_am rfl rfl rfl rfl rfl (by rw [show eg_mL 204 = 3 from by decide +kernel]; first | done | rfl) ?_
        refine (fm_t1 hH k_am).mono (fun u hu => xw_cb hu (fun G67 v67 hH x67 hP67 => ?_))
        have hw9 : ∀ j, et_pl (eg_at G67 aw) j = et_pl (eg_at G aw) j := fun j => (x67.2 aw j lt_aw (fun h => hi_ne k_aw k_am (by decide) h.1)).trans (hw9 j)
        have m1 := (x67.2 am 1 lt_am (fun h => absurd h.2 (by decide))).trans m1
        have w4 := (x67.2 aw 4 lt_aw (fun h => (hi_ne k_aw k_am (by decide)) h.1)).trans w4
        have wv := (x67.2 aw (45 + 23 * n) lt_aw (fun h => (hi_ne k_aw k_am (by decide)) h.1)).trans wv
        have lt_am := Nat.lt_of_lt_of_le lt_am x67.1
        have lt_aw := Nat.lt_of_lt_of_le lt_aw x67.1
        obtain ⟨rfl, th67⟩ := hP67
        show et_go none _ 223 70 _ [.int (Int32.ofNat 1)] _ _ _ _
        refine hs_if0 (c := .eq) (t := 75) (f := 73) (by decide +kernel) (show ¬ (Int32.ofNat 1 = 0) by decide) ?_
        refine hs_k (x := Int32.ofNat 0) (p := 74) (by decide +kernel) ?_
        refine hs_iret (by decide +kernel) ?_
        exact ⟨rfl, th67, hw9⟩
    · exact absurd ⟨by rw [hs_nint (by decide), hs_nint (by omega)]; omega, by rw [hs_nint (by omega), hs_nint (by decide)]; omega⟩ xz
  · exact absurd ⟨by rw [hs_nint (by decide)]; omega, by rw [o65]; omega⟩ xy
theorem fn_wireE (hH : et_H et_TT K G) (k_am : K am = some 13) (k_aw : K aw = some 46) (m1 : et_pl (eg_at G am) 1 = some (.ref aw)) (w4 : et_pl (eg_at G aw) 4 = some (.int (Int32.ofNat e))) (he : e ≤ 3) (hx : ¬ xr x e) (hd : 3 ≤ d2) : et_go none d2 223 0 (eg_en (eg_mL 223) [.ref am, .int x, .int y, .int z]) [] G 0 0 (fun u => u.1 = .inl (some (.int (Int32.ofNat 0))) ∧ et_pl (eg_at u.2.1 am) 0 = some (.int (Int32.ofNat 1)) ∧ ∀ j, et_pl (eg_at u.2.1 aw) j = et_pl (eg_at G aw) j) := by
  obtain ⟨d, rfl⟩ : ∃ d, d2 = d + 3 := ⟨d2 - 3, by omega⟩
  have hw9 : ∀ j, et_pl (eg_at G aw) j = et_pl (eg_at G aw) j := fun _ => rfl
  rw [show eg_mL 223 = 5 from by decide +kernel]
  show et_go none (d + 3) 223 0 [some (.ref am), some (.int x), some (.int y), some (.int z), none] [] G 0 0 _
  have lt_am := (hH.2.2 _ _ k_am).1
  have lt_aw := (hH.2.2 _ _ k_aw).1
  refine hs_aload (i := 0) (p := 1) (by decide +kernel) rfl ?_
  refine hs_k (x := Int32.ofNat 0) (p := 2) (by decide +kernel) ?_
  have hHo := hH
  refine hf_put (T := et_TT) (t := 13) (ci := 11) (f := 0) (p := 5) (ty := .int) (by decide +kernel) rfl rfl rfl rfl rfl hH k_am hi_any (fun G2 hH x2 e2 => ?_)
  have hw9 : ∀ j, et_pl (eg_at G2 aw) j = et_pl (eg_at G aw) j := fun j => (x2.2 aw j lt_aw (fun h => hi_ne k_aw k_am (by decide) h.1)).trans (hw9 j)
  have m1 := (x2.2 am 1 lt_am (fun h => absurd h.2 (by decide))).trans m1
  have w4 := (x2.2 aw 4 lt_aw (fun h => (hi_ne k_aw k_am (by decide)) h.1)).trans w4
  have lt_am := Nat.lt_of_lt_of_le lt_am x2.1
  have lt_aw := Nat.lt_of_lt_of_le lt_aw x2.1
  refine hs_aload (i := 0) (p := 6) (by decide +kernel) rfl ?_
  refine hs_aload (i := 0) (p := 7) (by decide +kernel) rfl ?_
  refine hs_iload (i := 1) (p := 8) (by decide +kernel) rfl ?_
  refine ht_callv (T := et_TT) (t := 13) (mi := 208) (na := 1) (ci := 11) (lk := 5) (lm := 2) (L0 := eg_en (eg_mL 208) [.ref am, .int x]) (by decide +kernel) rfl hH k_am rfl rfl rfl rfl rfl (by rw [show eg_mL 208 = 2 from by decide +kernel]; first | done | rfl) ?_
  refine (fm_nEn hH k_am k_aw m1 w4 he hx (by omega)).mono (fun u hu => xp_cb hu ?_)
  show et_go none _ 223 11 _ [.int (Int32.ofNat 1), .ref am] _ _ _ _
  refine hs_k (x := Int32.ofNat 1) (p := 12) (by decide +kernel) ?_
  have hHo := hH
  refine ht_callv (T := et_TT) (t := 13) (mi := 204) (na := 2) (ci := 11) (lk := 5) (lm := 3) (L0 := eg_en (eg_mL 204) [.ref am, .int (Int32.ofNat 1), .int (Int32.ofNat 1)]) (by decide +kernel) rfl hH k_am rfl rfl rfl rfl rfl (by rw [show eg_mL 204 = 3 from by decide +kernel]; first | done | rfl) ?_
  refine (fm_t1 hH k_am).mono (fun u hu => xw_cb hu (fun G12 v12 hH x12 hP12 => ?_))
  have hw9 : ∀ j, et_pl (eg_at G12 aw) j = et_pl (eg_at G aw) j := fun j => (x12.2 aw j lt_aw (fun h => hi_ne k_aw k_am (by decide) h.1)).trans (hw9 j)
  have m1 := (x12.2 am 1 lt_am (fun h => absurd h.2 (by decide))).trans m1
  have w4 := (x12.2 aw 4 lt_aw (fun h => (hi_ne k_aw k_am (by decide)) h.1)).trans w4
  have lt_am := Nat.lt_of_lt_of_le lt_am x12.1
  have lt_aw := Nat.lt_of_lt_of_le lt_aw x12.1
  obtain ⟨rfl, th12⟩ := hP12
  show et_go none _ 223 15 _ [.int (Int32.ofNat 1)] _ _ _ _
  refine hs_if1 (c := .ne) (t := 73) (f := 18) (by decide +kernel) (show ¬ Int32.ofNat 1 = 0 by decide) ?_
  refine hs_k (x := Int32.ofNat 0) (p := 74) (by decide +kernel) ?_
  refine hs_iret (by decide +kernel) ?_
  exact ⟨rfl, th12, hw9⟩
theorem fn_eyeL {G0 : eg_G} {Z : eg_O → Prop} (hH : et_H et_TT K G) (k_am : K am = some 13) (k_aw : K aw = some 46) (m1 : et_pl (eg_at G am) 1 = some (.ref aw)) (he : e < 3) (hq9 : owr aw (45 + 23 * e) (45 + 23 * e + 22) 4 G0 G) (hz9 : ∀ j, j < i → et_pl (eg_at G aw) (45 + 23 * e + j) = some (.int (Int32.ofNat 0))) (hi : i ≤ 23) (h : ∀ G', et_H et_TT K G' → xf (fun b j => b = aw ∧ (45 + 23 * e ≤ j ∧ j ≤ 45 + 23 * e + 22)) G G' → owr aw (45 + 23 * e) (45 + 23 * e + 22) 4 G0 G' → (∀ j, j < 23 → et_pl (eg_at G' aw) (45 + 23 * e + j) = some (.int (Int32.ofNat 0))) → Z (.inl (some (.int (Int32.ofNat e))), G', 0, 0)) : et_go none d 222 49 [some (.ref am), some (.int (Int32.ofNat e)), some (.int (Int32.ofNat i))] [] G 0 0 Z := by
  induction hm : 23 - i using Nat.strongRecOn generalizing i G with
  | _ z9 ih =>
    have lt_am := (hH.2.2 _ _ k_am).1
    have lt_aw := (hH.2.2 _ _ k_aw).1
    refine hs_iload (i := 2) (p := 50) (by decide +kernel) rfl ?_
    refine hs_k (x := Int32.ofNat 23) (p := 52) (by decide +kernel) ?_
    refine hs_br2n (c := .ge) (t := 76) (f := 55) (by decide +kernel) (by omega) (by omega) (fun (c52 : 23 ≤ i) => ?_) (fun (c52 : ¬ (23 ≤ i)) => ?_)
    · refine hs_iload (i := 1) (p := 77) (by decide +kernel) rfl ?_
      refine hs_iret (by decide +kernel) ?_
      exact h _ hH xf.rf hq9 (fun j hj => hz9 j (by omega))
    · refine hs_aload (i := 0) (p := 56) (by decide +kernel) rfl ?_
      refine hf_get (T := et_TT) (t := 13) (ci := 11) (f := 1) (p := 59) (by decide +kernel) rfl hH k_am m1 ?_
      refine hs_k (x := Int32.ofNat 45) (p := 61) (by decide +kernel) ?_
      refine hs_k (x := Int32.ofNat 23) (p := 63) (by decide +kernel) ?_
      refine hs_iload (i := 1) (p := 64) (by decide +kernel) rfl ?_
      refine hs_imuln (p := 65) (by decide +kernel) ?_
      refine hs_iaddn (p := 66) (by decide +kernel) ?_
      refine hs_iload (i := 2) (p := 67) (by decide +kernel) rfl ?_
      refine hs_iaddn (p := 68) (by decide +kernel) ?_
      refine hs_k (x := Int32.ofNat 0) (p := 69) (by decide +kernel) ?_
      have hHo := hH
      refine hf_wst (p := 70) (by decide +kernel) hH k_aw (by omega) hf_w0 (fun G69 hH x69 e69 => ?_)
      have hq9 := hq9.w lt_aw x69 (.inr (by omega))
      have hz9 : ∀ j, j < i + 1 → et_pl (eg_at G69 aw) (45 + 23 * e + j) = some (.int (Int32.ofNat 0)) := fun j hj => by
        by_cases ej : j = i
        · rw [ej]; exact pl_eq e69 (by omega)
        · exact (x69.2 aw _ lt_aw (fun h => by have h := h.2; omega)).trans (hz9 j (by omega))
      have m1 := (x69.2 am 1 lt_am (fun h => (hi_ne k_am k_aw (by decide)) h.1)).trans m1
      have lt_am := Nat.lt_of_lt_of_le lt_am x69.1
      have lt_aw := Nat.lt_of_lt_of_le lt_aw x69.1
      refine hs_iinc1 (i := 2) (p := 73) (by decide +kernel) rfl (Nat.le_of_ble_eq_true rfl) ?_
      refine hs_goto (p := 49) (by decide +kernel) ?_
      show et_go none d 222 49 [some (.ref am), some (.int (Int32.ofNat e)), some (.int (Int32.ofNat (i + 1)))] [] _ _ _ _
      exact ih (23 - (i + 1)) (by omega) hH m1 hq9 hz9 (by omega) (fun G9 h1 h2 h3 h4 => h G9 h1 ((x69.wk (fun b j _ hb => ⟨hb.1, by have h := hb.2; omega⟩)).tr h2 (fun _ _ _ hs => hs)) h3 h4) rfl
theorem fn_eye (hH : et_H et_TT K G) (k_am : K am = some 13) (k_aw : K aw = some 46) (m1 : et_pl (eg_at G am) 1 = some (.ref aw)) (w4 : et_pl (eg_at G aw) 4 = some (.int (Int32.ofNat e))) (he : e < 3) (hd : 1 ≤ d2) : et_go none d2 222 0 (eg_en (eg_mL 222) [.ref am]) [] G 0 0 (fun u => owr aw (45 + 23 * e) (45 + 23 * e + 22) 4 G u.2.1 ∧ ∀ j, j < 23 → et_pl (eg_at u.2.1 aw) (45 + 23 * e + j) = some (.int (Int32.ofNat 0))) := by
  obtain ⟨d, rfl⟩ : ∃ d, d2 = d + 1 := ⟨d2 - 1, by omega⟩
  have hq9 : owr aw (45 + 23 * e) (45 + 23 * e + 22) 4 G G := owr.rf
  rw [show eg_mL 222 = 3 from by decide +kernel]
  show et_go none (d + 1) 222 0 [some (.ref am), none, none] [] G 0 0 _
  have lt_am := (hH.2.2 _ _ k_am).1
  have lt_aw := (hH.2.2 _ _ k_aw).1
  refine hs_aload (i := 0) (p := 1) (by decide +kernel) rfl ?_
  refine hs_k (x := Int32.ofNat 0) (p := 2) (by decide +kernel) ?_
  have hHo := hH
  refine hf_put (T := et_TT) (t := 13) (ci := 11) (f := 0) (p := 5) (ty := .int) (by decide +kernel) rfl rfl rfl rfl rfl hH k_am hi_any (fun G2 hH x2 e2 => ?_)
  have hq9 := hq9.xs lt_aw x2 (fun j h => hi_ne k_aw k_am (by decide) h.1)
  have m1 := (x2.2 am 1 lt_am (fun h => absurd h.2 (by decide))).trans m1
  have w4 := (x2.2 aw 4 lt_aw (fun h => (hi_ne k_aw k_am (by decide)) h.1)).trans w4
  have lt_am := Nat.lt_of_lt_of_le lt_am x2.1
  have lt_aw := Nat.lt_of_lt_of_le lt_aw x2.1
  refine hs_aload (i := 0) (p := 6) (by decide +kernel) rfl ?_
  refine hs_aload (i := 0) (p := 7) (by decide +kernel) rfl ?_
  refine hf_get (T := et_TT) (t := 13) (ci := 11) (f := 1) (p := 10) (by decide +kernel) rfl hH k_am m1 ?_
  refine hs_k (x := Int32.ofNat 4) (p := 11) (by decide +kernel) ?_
  refine hf_ald (ins := .iaload) (T := et_TT) (t := 46) (kd := 0) (N := 12741) (p := 12) (by decide +kernel) (fun _ _ _ _ _ _ _ _ _ _ => rfl) rfl rfl rfl hH k_aw (by decide) w4 ?_
  refine hs_k (x := Int32.ofNat 3) (p := 13) (by decide +kernel) ?_
  refine hs_br2n (c := .ne) (t := 20) (f := 16) (by decide +kernel) (by omega) (by omega) (fun (c13 : ¬ e = 3) => ?_) (fun (c13 : ¬ (¬ e = 3)) => ?_)
  · refine hs_k (x := Int32.ofNat 0) (p := 21) (by decide +kernel) ?_
    refine hs_k (x := Int32.ofNat 1) (p := 22) (by decide +kernel) ?_
    refine ht_callv (T := et_TT) (t := 13) (mi := 204) (na := 2) (ci := 11) (lk := 3) (lm := 3) (L0 := eg_en (eg_mL 204) [.ref am, .int (Int32.ofNat 0), .int (Int32.ofNat 1)]) (by decide +kernel) rfl hH k_am rfl rfl rfl rfl rfl (by rw [show eg_mL 204 = 3 from by decide +kernel]; first | done | rfl) ?_
    refine (fm_t0 hH k_am).mono (fun u hu => xp_cb hu ?_)
    show et_go none _ 222 25 _ [.int (Int32.ofNat 0)] _ _ _ _
    refine hs_if1 (c := .eq) (t := 30) (f := 28) (by decide +kernel) (show Int32.ofNat 0 = 0 by decide) ?_
    refine hs_aload (i := 0) (p := 31) (by decide +kernel) rfl ?_
    refine hf_get (T := et_TT) (t := 13) (ci := 11) (f := 1) (p := 34) (by decide +kernel) rfl hH k_am m1 ?_
    refine hs_k (x := Int32.ofNat 4) (p := 35) (by decide +kernel) ?_
    refine hf_ald (ins := .iaload) (T := et_TT) (t := 46) (kd := 0) (N := 12741) (p := 36) (by decide +kernel) (fun _ _ _ _ _ _ _ _ _ _ => rfl) rfl rfl rfl hH k_aw (by decide) w4 ?_
    refine hs_istore (i := 1) (p := 37) (by decide +kernel) (Nat.le_of_ble_eq_true rfl) ?_
    refine hs_aload (i := 0) (p := 38) (by decide +kernel) rfl ?_
    refine hf_get (T := et_TT) (t := 13) (ci := 11) (f := 1) (p := 41) (by decide +kernel) rfl hH k_am m1 ?_
    refine hs_k (x := Int32.ofNat 4) (p := 42) (by decide +kernel) ?_
    refine hs_dup2 (p := 43) (by decide +kernel) ?_
    refine hf_ald (ins := .iaload) (T := et_TT) (t := 46) (kd := 0) (N := 12741) (p := 44) (by decide +kernel) (fun _ _ _ _ _ _ _ _ _ _ => rfl) rfl rfl rfl hH k_aw (by decide) w4 ?_
    refine hs_k (x := Int32.ofNat 1) (p := 45) (by decide +kernel) ?_
    refine hs_iaddn (p := 46) (by decide +kernel) ?_
    have hHo := hH
    refine hf_wst (p := 47) (by decide +kernel) hH k_aw (by omega) (hf_wk (p := .inl (0, 3)) (by decide +kernel) (hi_nv (by omega) (by omega))) (fun G46 hH x46 e46 => ?_)
    have hq9 := hq9.w lt_aw x46 (.inl rfl)
    have m1 := (x46.2 am 1 lt_am (fun h => (hi_ne k_am k_aw (by decide)) h.1)).trans m1
    have e2 := (x46.2 am 0 lt_am (fun h => (hi_ne k_am k_aw (by decide)) h.1)).trans e2
    have lt_am := Nat.lt_of_lt_of_le lt_am x46.1
    have lt_aw := Nat.lt_of_lt_of_le lt_aw x46.1
    refine hs_k (x := Int32.ofNat 0) (p := 48) (by decide +kernel) ?_
    refine hs_istore (i := 2) (p := 49) (by decide +kernel) (Nat.le_of_ble_eq_true rfl) ?_
    show et_go none _ 222 49 [some (.ref am), some (.int (Int32.ofNat e)), some (.int (Int32.ofNat 0))] [] _ _ _ _
    exact fn_eyeL hH k_am k_aw m1 he hq9 (fun j hj => absurd hj (Nat.not_lt_zero j)) (by decide) (fun G9 h1 h2 h3 h4 => ⟨h3, h4⟩)
  · exact absurd he (by omega)
theorem fn_eyeF (hH : et_H et_TT K G) (k_am : K am = some 13) (k_aw : K aw = some 46) (m1 : et_pl (eg_at G am) 1 = some (.ref aw)) (w4 : et_pl (eg_at G aw) 4 = some (.int (Int32.ofNat e))) (he : e = 3) (hd : 1 ≤ d2) : et_go none d2 222 0 (eg_en (eg_mL 222) [.ref am]) [] G 0 0 (fun u => ∀ j, j < 20000 → et_pl (eg_at u.2.1 aw) j = et_pl (eg_at G aw) j) := by
  obtain ⟨d, rfl⟩ : ∃ d, d2 = d + 1 := ⟨d2 - 1, by omega⟩
  have hq9 : owr aw 20000 20000 20000 G G := owr.rf
  rw [show eg_mL 222 = 3 from by decide +kernel]
  show et_go none (d + 1) 222 0 [some (.ref am), none, none] [] G 0 0 _
  have lt_am := (hH.2.2 _ _ k_am).1
  have lt_aw := (hH.2.2 _ _ k_aw).1
  refine hs_aload (i := 0) (p := 1) (by decide +kernel) rfl ?_
  refine hs_k (x := Int32.ofNat 0) (p := 2) (by decide +kernel) ?_
  have hHo := hH
  refine hf_put (T := et_TT) (t := 13) (ci := 11) (f := 0) (p := 5) (ty := .int) (by decide +kernel) rfl rfl rfl rfl rfl hH k_am hi_any (fun G2 hH x2 e2 => ?_)
  have hq9 := hq9.xs lt_aw x2 (fun j h => hi_ne k_aw k_am (by decide) h.1)
  have m1 := (x2.2 am 1 lt_am (fun h => absurd h.2 (by decide))).trans m1
  have w4 := (x2.2 aw 4 lt_aw (fun h => (hi_ne k_aw k_am (by decide)) h.1)).trans w4
  have lt_am := Nat.lt_of_lt_of_le lt_am x2.1
  have lt_aw := Nat.lt_of_lt_of_le lt_aw x2.1
  refine hs_aload (i := 0) (p := 6) (by decide +kernel) rfl ?_
  refine hs_aload (i := 0) (p := 7) (by decide +kernel) rfl ?_
  refine hf_get (T := et_TT) (t := 13) (ci := 11) (f := 1) (p := 10) (by decide +kernel) rfl hH k_am m1 ?_
  refine hs_k (x := Int32.ofNat 4) (p := 11) (by decide +kernel) ?_
  refine hf_ald (ins := .iaload) (T := et_TT) (t := 46) (kd := 0) (N := 12741) (p := 12) (by decide +kernel) (fun _ _ _ _ _ _ _ _ _ _ => rfl) rfl rfl rfl hH k_aw (by decide) w4 ?_
  refine hs_k (x := Int32.ofNat 3) (p := 13) (by decide +kernel) ?_
  refine hs_br2n (c := .ne) (t := 20) (f := 16) (by decide +kernel) (by omega) (by omega) (fun (c13 : ¬ e = 3) => ?_) (fun (c13 : ¬ (¬ e = 3)) => ?_)
  · exact absurd he c13
  · refine hs_k (x := Int32.ofNat 1) (p := 17) (by decide +kernel) ?_
    refine hs_goto (p := 21) (by decide +kernel) ?_
    refine hs_k (x := Int32.ofNat 1) (p := 22) (by decide +kernel) ?_
    have hHo := hH
    refine ht_callv (T := et_TT) (t := 13) (mi := 204) (na := 2) (ci := 11) (lk := 3) (lm := 3) (L0 := eg_en (eg_mL 204) [.ref am, .int (Int32.ofNat 1), .int (Int32.ofNat 1)]) (by decide +kernel) rfl hH k_am rfl rfl rfl rfl rfl (by rw [show eg_mL 204 = 3 from by decide +kernel]; first | done | rfl) ?_
    refine (fm_t1 hH k_am).mono (fun u hu => xw_cb hu (fun G22 v22 hH x22 hP22 => ?_))
    have hq9 := hq9.xs lt_aw x22 (fun j h => hi_ne k_aw k_am (by decide) h.1)
    have m1 := (x22.2 am 1 lt_am (fun h => absurd h.2 (by decide))).trans m1
    have w4 := (x22.2 aw 4 lt_aw (fun h => (hi_ne k_aw k_am (by decide)) h.1)).trans w4
    have lt_am := Nat.lt_of_lt_of_le lt_am x22.1
    have lt_aw := Nat.lt_of_lt_of_le lt_aw x22.1
    obtain ⟨rfl, th22⟩ := hP22
    show et_go none _ 222 25 _ [.int (Int32.ofNat 1)] _ _ _ _
    refine hs_if0 (c := .eq) (t := 30) (f := 28) (by decide +kernel) (show ¬ (Int32.ofNat 1 = 0) by decide) ?_
    refine hs_k (x := Int32.ofNat 0) (p := 29) (by decide +kernel) ?_
    refine hs_iret (by decide +kernel) ?_
    exact fun j hj => hq9 j (by omega) (.inl hj)
theorem fn_sees (hH : et_H et_TT K G) (k_am : K am = some 13) (k_aw : K aw = some 46) (m1 : et_pl (eg_at G am) 1 = some (.ref aw)) (w4 : et_pl (eg_at G aw) 4 = some (.int (Int32.ofNat e))) (he : e ≤ 3) (hn : n < e) (hw : w ≤ 6) (hkd : ∀ m, m < w → Kd m ≤ 2) (hv : evM G aw n w C Kd N l s t f) (hy : 0 ≤ x.toInt ∧ x.toInt < 65536) (hd : 6 ≤ d2) : et_go none d2 243 0 (eg_en (eg_mL 243) [.ref am, .int (Int32.ofNat n), .int x]) [] G 0 0 (fun u => u.1 = .inl (some (.int (suN C Kd N x w))) ∧ et_pl (eg_at u.2.1 am) 0 = some (.int (Int32.ofNat 0))) := by
  obtain ⟨d, rfl⟩ : ∃ d, d2 = d + 6 := ⟨d2 - 6, by omega⟩
  have ho : owt aw n G G := owt.rf
  rw [show eg_mL 243 = 3 from by decide +kernel]
  show et_go none (d + 6) 243 0 [some (.ref am), some (.int (Int32.ofNat n)), some (.int x)] [] G 0 0 _
  have lt_am := (hH.2.2 _ _ k_am).1
  have lt_aw := (hH.2.2 _ _ k_aw).1
  refine hs_aload (i := 0) (p := 1) (by decide +kernel) rfl ?_
  refine hs_k (x := Int32.ofNat 0) (p := 2) (by decide +kernel) ?_
  have hHo := hH
  refine hf_put (T := et_TT) (t := 13) (ci := 11) (f := 0) (p := 5) (ty := .int) (by decide +kernel) rfl rfl rfl rfl rfl hH k_am hi_any (fun G2 hH x2 e2 => ?_)
  have hv := hv.xs hHo k_aw x2 (fun j h => hi_ne k_aw k_am (by decide) h.1) hw
  have ho := ho.xs hHo k_aw x2 (fun j h => hi_ne k_aw k_am (by decide) h.1)
  have m1 := (x2.2 am 1 lt_am (fun h => absurd h.2 (by decide))).trans m1
  have w4 := (x2.2 aw 4 lt_aw (fun h => (hi_ne k_aw k_am (by decide)) h.1)).trans w4
  have lt_am := Nat.lt_of_lt_of_le lt_am x2.1
  have lt_aw := Nat.lt_of_lt_of_le lt_aw x2.1
  refine hs_aload (i := 0) (p := 6) (by decide +kernel) rfl ?_
  refine hs_aload (i := 0) (p := 7) (by decide +kernel) rfl ?_
  refine hs_iload (i := 1) (p := 8) (by decide +kernel) rfl ?_
  refine ht_callv (T := et_TT) (t := 13) (mi := 208) (na := 1) (ci := 11) (lk := 3) (lm := 2) (L0 := eg_en (eg_mL 208) [.ref am, .int (Int32.ofNat n)]) (by decide +kernel) rfl hH k_am rfl rfl rfl rfl rfl (by rw [show eg_mL 208 = 2 from by decide +kernel]; first | done | rfl) ?_
  refine (fm_nEy hH k_am k_aw m1 w4 he hn (by omega)).mono (fun u hu => xp_cb hu ?_)
  show et_go none _ 243 11 _ [.int (Int32.ofNat 0), .ref am] _ _ _ _
  refine hs_k (x := Int32.ofNat 1) (p := 12) (by decide +kernel) ?_
  refine ht_callv (T := et_TT) (t := 13) (mi := 204) (na := 2) (ci := 11) (lk := 3) (lm := 3) (L0 := eg_en (eg_mL 204) [.ref am, .int (Int32.ofNat 0), .int (Int32.ofNat 1)]) (by decide +kernel) rfl hH k_am rfl rfl rfl rfl rfl (by rw [show eg_mL 204 = 3 from by decide +kernel]; first | done | rfl) ?_
  refine (fm_t0 hH k_am).mono (fun u hu => xp_cb hu ?_)
  show et_go none _ 243 15 _ [.int (Int32.ofNat 0)] _ _ _ _
  refine hs_if0 (c := .ne) (t := 30) (f := 18) (by decide +kernel) (show ¬ (¬ Int32.ofNat 0 = 0) by decide) ?_
  refine hs_aload (i := 0) (p := 19) (by decide +kernel) rfl ?_
  refine hs_iload (i := 2) (p := 20) (by decide +kernel) rfl ?_
  refine hs_calls (mi := 212) (na := 1) (lk := 3) (lm := 1) (L0 := eg_en (eg_mL 212) [.int x]) (by decide +kernel) rfl rfl rfl rfl rfl rfl (by rw [show eg_mL 212 = 1 from by decide +kernel]; first | done | rfl) ?_
  refine (fm_noLit (x := x)).mono (fun u hu => xp_cb hu ?_)
  by_cases xl : 0 ≤ x.toInt ∧ x.toInt < 65536
  · rw [if_pos xl]
    show et_go none _ 243 23 _ [.int (Int32.ofNat 0), .ref am] _ _ _ _
    refine hs_k (x := Int32.ofNat 2) (p := 24) (by decide +kernel) ?_
    refine ht_callv (T := et_TT) (t := 13) (mi := 204) (na := 2) (ci := 11) (lk := 3) (lm := 3) (L0 := eg_en (eg_mL 204) [.ref am, .int (Int32.ofNat 0), .int (Int32.ofNat 2)]) (by decide +kernel) rfl hH k_am rfl rfl rfl rfl rfl (by rw [show eg_mL 204 = 3 from by decide +kernel]; first | done | rfl) ?_
    refine (fm_t0 hH k_am).mono (fun u hu => xp_cb hu ?_)
    show et_go none _ 243 27 _ [.int (Int32.ofNat 0)] _ _ _ _
    refine hs_if1 (c := .eq) (t := 34) (f := 30) (by decide +kernel) (show Int32.ofNat 0 = 0 by decide) ?_
    refine hs_aload (i := 0) (p := 35) (by decide +kernel) rfl ?_
    refine hs_iload (i := 1) (p := 36) (by decide +kernel) rfl ?_
    refine hs_iload (i := 2) (p := 37) (by decide +kernel) rfl ?_
    refine ht_callv (T := et_TT) (t := 13) (mi := 236) (na := 2) (ci := 11) (lk := 3) (lm := 3) (L0 := eg_en (eg_mL 236) [.ref am, .int (Int32.ofNat n), .int x]) (by decide +kernel) rfl hH k_am rfl rfl rfl rfl rfl (by rw [show eg_mL 236 = 3 from by decide +kernel]; first | done | rfl) ?_
    refine (fn_seen hH k_am k_aw m1 (by omega) hw hkd hv (by omega)).mono (fun u hu => xp_cb hu ?_)
    show et_go none _ 243 40 _ [.int (suN C Kd N x w)] _ _ _ _
    refine hs_iret (by decide +kernel) ?_
    exact ⟨rfl, e2⟩
  · exact absurd hy xl
theorem fn_seesR (hH : et_H et_TT K G) (k_am : K am = some 13) (k_aw : K aw = some 46) (m1 : et_pl (eg_at G am) 1 = some (.ref aw)) (w4 : et_pl (eg_at G aw) 4 = some (.int (Int32.ofNat e))) (he : e ≤ 3) (hn : n < e) (hw : w ≤ 6) (hkd : ∀ m, m < w → Kd m ≤ 2) (hv : evM G aw n w C Kd N l s t f) (hy : ¬ (0 ≤ x.toInt ∧ x.toInt < 65536)) (hd : 6 ≤ d2) : et_go none d2 243 0 (eg_en (eg_mL 243) [.ref am, .int (Int32.ofNat n), .int x]) [] G 0 0 (fun u => u.1 = .inl (some (.int (Int32.ofNat 0))) ∧ et_pl (eg_at u.2.1 am) 0 = some (.int (Int32.ofNat 2))) := by
  obtain ⟨d, rfl⟩ : ∃ d, d2 = d + 6 := ⟨d2 - 6, by omega⟩
  have ho : owt aw n G G := owt.rf
  rw [show eg_mL 243 = 3 from by decide +kernel]
  show et_go none (d + 6) 243 0 [some (.ref am), some (.int (Int32.ofNat n)), some (.int x)] [] G 0 0 _
  have lt_am := (hH.2.2 _ _ k_am).1
  have lt_aw := (hH.2.2 _ _ k_aw).1
  refine hs_aload (i := 0) (p := 1) (by decide +kernel) rfl ?_
  refine hs_k (x := Int32.ofNat 0) (p := 2) (by decide +kernel) ?_
  have hHo := hH
  refine hf_put (T := et_TT) (t := 13) (ci := 11) (f := 0) (p := 5) (ty := .int) (by decide +kernel) rfl rfl rfl rfl rfl hH k_am hi_any (fun G2 hH x2 e2 => ?_)
  have hv := hv.xs hHo k_aw x2 (fun j h => hi_ne k_aw k_am (by decide) h.1) hw
  have ho := ho.xs hHo k_aw x2 (fun j h => hi_ne k_aw k_am (by decide) h.1)
  have m1 := (x2.2 am 1 lt_am (fun h => absurd h.2 (by decide))).trans m1
  have w4 := (x2.2 aw 4 lt_aw (fun h => (hi_ne k_aw k_am (by decide)) h.1)).trans w4
  have lt_am := Nat.lt_of_lt_of_le lt_am x2.1
  have lt_aw := Nat.lt_of_lt_of_le lt_aw x2.1
  refine hs_aload (i := 0) (p := 6) (by decide +kernel) rfl ?_
  refine hs_aload (i := 0) (p := 7) (by decide +kernel) rfl ?_
  refine hs_iload (i := 1) (p := 8) (by decide +kernel) rfl ?_
  refine ht_callv (T := et_TT) (t := 13) (mi := 208) (na := 1) (ci := 11) (lk := 3) (lm := 2) (L0 := eg_en (eg_mL 208) [.ref am, .int (Int32.ofNat n)]) (by decide +kernel) rfl hH k_am rfl rfl rfl rfl rfl (by rw [show eg_mL 208 = 2 from by decide +kernel]; first | done | rfl) ?_
  refine (fm_nEy hH k_am k_aw m1 w4 he hn (by omega)).mono (fun u hu => xp_cb hu ?_)
  show et_go none _ 243 11 _ [.int (Int32.ofNat 0), .ref am] _ _ _ _
  refine hs_k (x := Int32.ofNat 1) (p := 12) (by decide +kernel) ?_
  refine ht_callv (T := et_TT) (t := 13) (mi := 204) (na := 2) (ci := 11) (lk := 3) (lm := 3) (L0 := eg_en (eg_mL 204) [.ref am, .int (Int32.ofNat 0), .int (Int32.ofNat 1)]) (by decide +kernel) rfl hH k_am rfl rfl rfl rfl rfl (by rw [show eg_mL 204 = 3 from by decide +kernel]; first | done | rfl) ?_
  refine (fm_t0 hH k_am).mono (fun u hu => xp_cb hu ?_)
  show et_go none _ 243 15 _ [.int (Int32.ofNat 0)] _ _ _ _
  refine hs_if0 (c := .ne) (t := 30) (f := 18) (by decide +kernel) (show ¬ (¬ Int32.ofNat 0 = 0) by decide) ?_
  refine hs_aload (i := 0) (p := 19) (by decide +kernel) rfl ?_
  refine hs_iload (i := 2) (p := 20) (by decide +kernel) rfl ?_
  refine hs_calls (mi := 212) (na := 1) (lk := 3) (lm := 1) (L0 := eg_en (eg_mL 212) [.int x]) (by decide +kernel) rfl rfl rfl rfl rfl rfl (by rw [show eg_mL 212 = 1 from by decide +kernel]; first | done | rfl) ?_
  refine (fm_noLit (x := x)).mono (fun u hu => xp_cb hu ?_)
  by_cases xl : 0 ≤ x.toInt ∧ x.toInt < 65536
  · exact absurd xl hy
  · rw [if_neg xl]
    show et_go none _ 243 23 _ [.int (Int32.ofNat 1), .ref am] _ _ _ _
    refine hs_k (x := Int32.ofNat 2) (p := 24) (by decide +kernel) ?_
    have hHo := hH
    refine ht_callv (T := et_TT) (t := 13) (mi := 204) (na := 2) (ci := 11) (lk := 3) (lm := 3) (L0 := eg_en (eg_mL 204) [.ref am, .int (Int32.ofNat 1), .int (Int32.ofNat 2)]) (by decide +kernel) rfl hH k_am rfl rfl rfl rfl rfl (by rw [show eg_mL 204 = 3 from by decide +kernel]; first | done | rfl) ?_
    refine (fm_t1 hH k_am).mono (fun u hu => xw_cb hu (fun G24 v24 hH x24 hP24 => ?_))
    have hv := hv.xs hHo k_aw x24 (fun j h => hi_ne k_aw k_am (by decide) h.1) hw
    have ho := ho.xs hHo k_aw x24 (fun j h => hi_ne k_aw k_am (by decide) h.1)
    have m1 := (x24.2 am 1 lt_am (fun h => absurd h.2 (by decide))).trans m1
    have w4 := (x24.2 aw 4 lt_aw (fun h => (hi_ne k_aw k_am (by decide)) h.1)).trans w4
    have lt_am := Nat.lt_of_lt_of_le lt_am x24.1
    have lt_aw := Nat.lt_of_lt_of_le lt_aw x24.1
    obtain ⟨rfl, th24⟩ := hP24
    show et_go none _ 243 27 _ [.int (Int32.ofNat 1)] _ _ _ _
    refine hs_if0 (c := .eq) (t := 34) (f := 30) (by decide +kernel) (show ¬ (Int32.ofNat 1 = 0) by decide) ?_
    refine hs_k (x := Int32.ofNat 0) (p := 31) (by decide +kernel) ?_
    refine hs_goto (p := 40) (by decide +kernel) ?_
    refine hs_iret (by decide +kernel) ?_
    exact ⟨rfl, th24⟩
theorem fn_seesE (hH : et_H et_TT K G) (k_am : K am = some 13) (k_aw : K aw = some 46) (m1 : et_pl (eg_at G am) 1 = some (.ref aw)) (w4 : et_pl (eg_at G aw) 4 = some (.int (Int32.ofNat e))) (he : e ≤ 3) (hx : ¬ xr y e) (hd : 6 ≤ d2) : et_go none d2 243 0 (eg_en (eg_mL 243) [.ref am, .int y, .int x]) [] G 0 0 (fun u => u.1 = .inl (some (.int (Int32.ofNat 0))) ∧ et_pl (eg_at u.2.1 am) 0 = some (.int (Int32.ofNat 1))) := by
  obtain ⟨d, rfl⟩ : ∃ d, d2 = d + 6 := ⟨d2 - 6, by omega⟩
  have hw9 : ∀ j, et_pl (eg_at G aw) j = et_pl (eg_at G aw) j := fun _ => rfl
  rw [show eg_mL 243 = 3 from by decide +kernel]
  show et_go none (d + 6) 243 0 [some (.ref am), some (.int y), some (.int x)] [] G 0 0 _
  have lt_am := (hH.2.2 _ _ k_am).1
  have lt_aw := (hH.2.2 _ _ k_aw).1
  refine hs_aload (i := 0) (p := 1) (by decide +kernel) rfl ?_
  refine hs_k (x := Int32.ofNat 0) (p := 2) (by decide +kernel) ?_
  have hHo := hH
  refine hf_put (T := et_TT) (t := 13) (ci := 11) (f := 0) (p := 5) (ty := .int) (by decide +kernel) rfl rfl rfl rfl rfl hH k_am hi_any (fun G2 hH x2 e2 => ?_)
  have hw9 : ∀ j, et_pl (eg_at G2 aw) j = et_pl (eg_at G aw) j := fun j => (x2.2 aw j lt_aw (fun h => hi_ne k_aw k_am (by decide) h.1)).trans (hw9 j)
  have m1 := (x2.2 am 1 lt_am (fun h => absurd h.2 (by decide))).trans m1
  have w4 := (x2.2 aw 4 lt_aw (fun h => (hi_ne k_aw k_am (by decide)) h.1)).trans w4
  have lt_am := Nat.lt_of_lt_of_le lt_am x2.1
  have lt_aw := Nat.lt_of_lt_of_le lt_aw x2.1
  refine hs_aload (i := 0) (p := 6) (by decide +kernel) rfl ?_
  refine hs_aload (i := 0) (p := 7) (by decide +kernel) rfl ?_
  refine hs_iload (i := 1) (p := 8) (by decide +kernel) rfl ?_
  refine ht_callv (T := et_TT) (t := 13) (mi := 208) (na := 1) (ci := 11) (lk := 3) (lm := 2) (L0 := eg_en (eg_mL 208) [.ref am, .int y]) (by decide +kernel) rfl hH k_am rfl rfl rfl rfl rfl (by rw [show eg_mL 208 = 2 from by decide +kernel]; first | done | rfl) ?_
  refine (fm_nEn hH k_am k_aw m1 w4 he hx (by omega)).mono (fun u hu => xp_cb hu ?_)
  show et_go none _ 243 11 _ [.int (Int32.ofNat 1), .ref am] _ _ _ _
  refine hs_k (x := Int32.ofNat 1) (p := 12) (by decide +kernel) ?_
  have hHo := hH
  refine ht_callv (T := et_TT) (t := 13) (mi := 204) (na := 2) (ci := 11) (lk := 3) (lm := 3) (L0 := eg_en (eg_mL 204) [.ref am, .int (Int32.ofNat 1), .int (Int32.ofNat 1)]) (by decide +kernel) rfl hH k_am rfl rfl rfl rfl rfl (by rw [show eg_mL 204 = 3 from by decide +kernel]; first | done | rfl) ?_
  refine (fm_t1 hH k_am).mono (fun u hu => xw_cb hu (fun G12 v12 hH x12 hP12 => ?_))
  have hw9 : ∀ j, et_pl (eg_at G12 aw) j = et_pl (eg_at G aw) j := fun j => (x12.2 aw j lt_aw (fun h => hi_ne k_aw k_am (by decide) h.1)).trans (hw9 j)
  have m1 := (x12.2 am 1 lt_am (fun h => absurd h.2 (by decide))).trans m1
  have w4 := (x12.2 aw 4 lt_aw (fun h => (hi_ne k_aw k_am (by decide)) h.1)).trans w4
  have lt_am := Nat.lt_of_lt_of_le lt_am x12.1
  have lt_aw := Nat.lt_of_lt_of_le lt_aw x12.1
  obtain ⟨rfl, th12⟩ := hP12
  show et_go none _ 243 15 _ [.int (Int32.ofNat 1)] _ _ _ _
  refine hs_if1 (c := .ne) (t := 30) (f := 18) (by decide +kernel) (show ¬ Int32.ofNat 1 = 0 by decide) ?_
  refine hs_k (x := Int32.ofNat 0) (p := 31) (by decide +kernel) ?_
  refine hs_goto (p := 40) (by decide +kernel) ?_
  refine hs_iret (by decide +kernel) ?_
  exact ⟨rfl, th12⟩
end VOA
