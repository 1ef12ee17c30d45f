/-! BY HAND: Reader.readTag, readSum, readComparison -/
section PPB
variable {K K0 : et_K} {G G0 : eg_G} {d2 d rd x : Nat}
theorem pp_tag (hH : et_H et_TT K G) (k_rd : K rd = some 7) (hx : pp_at G rd x) (hxl : x ≤ 401) (hx4 : x ≤ 400) (hd : 3 ≤ d2) : et_go none d2 82 0 (eg_en (eg_mL 82) [.ref rd]) [] G 0 0 (pp_Z 0 K G rd x) := by
  obtain ⟨d, rfl⟩ : ∃ d, d2 = d + 3 := ⟨d2 - 3, by omega⟩
  have hx0 : et_ex K K := et_ex.rf
  have hf : et_fr pp_M K G G := et_fr.rf
  rw [show eg_mL 82 = 2 from by decide +kernel]
  show et_go none (d + 3) 82 0 [some (.ref rd), none] [] G 0 0 _
  refine ht_newN (p := 3) (by decide +kernel) (by omega) (by omega) hH (fun K0 G0 o0 x0 f0 hH k_o0 ge_o0 lt0 => ?_)
  have hx := (f0.2 rd 7 k_rd 8 rfl).trans hx
  have k_rd := x0 _ _ k_rd
  have ge_o0 := Nat.le_trans hf.1 ge_o0
  have hf := hf.tr hx0 (f0.wk (by decide +kernel))
  have hx0 := hx0.tr x0
  refine hs_dup1 (p := 4) (by decide +kernel) ?_
  refine hs_k (x := Int32.ofNat 3) (p := 5) (by decide +kernel) ?_
  have lto_o0 := (hH.2.2 _ _ k_o0).1
  have hfo := hf
  refine hs_callp (mi := 61) (na := 1) (lk := 2) (lm := 2) (L0 := eg_en (eg_mL 61) [.ref o0, .int (Int32.ofNat 3)]) (by decide +kernel) rfl rfl rfl rfl rfl (by rw [show eg_mL 61 = 2 from by decide +kernel]; first | done | rfl) ?_
  refine (hc_nod (K0, [], G0) [.ref o0, .int (Int32.ofNat 3)] _ hH (by omega) rfl (ht_ac (.inr ⟨by decide, _, rfl, k_o0⟩) (ht_ac hi_any ht_an))).mono (fun u hu => hs_cbn hu (fun K5 G5 c5 s5 x5 f5 hH cl5 sl5 => ?_))
  have hx := (f5.2 rd 7 k_rd 8 rfl).trans hx
  have k_rd := x5 _ _ k_rd
  have k_o0 := x5 _ _ k_o0
  have hf := hf.tr hx0 (f5.wk (by decide +kernel))
  have hx0 := hx0.tr x5
  obtain rfl : c5 = 0 := Nat.le_zero.mp cl5
  obtain rfl : s5 = 0 := Nat.le_zero.mp sl5
  show et_go none _ 82 8 _ [.ref o0] _ (0 + 1) (0 + 6) _
  refine hs_astore (i := 1) (p := 9) (by decide +kernel) (Nat.le_of_ble_eq_true rfl) ?_
  refine hs_aload (i := 1) (p := 10) (by decide +kernel) rfl ?_
  refine hs_aload (i := 0) (p := 11) (by decide +kernel) rfl ?_
  refine hs_k (x := Int32.ofNat 1) (p := 12) (by decide +kernel) ?_
  have lto_o0 := (hH.2.2 _ _ k_o0).1
  have hfo := hf
  refine ht_callv (T := et_TT) (t := 7) (mi := 79) (na := 1) (ci := 5) (lk := 2) (lm := 2) (L0 := eg_en (eg_mL 79) [.ref rd, .int (Int32.ofNat 1)]) (by decide +kernel) rfl hH k_rd rfl rfl rfl rfl rfl (by rw [show eg_mL 79 = 2 from by decide +kernel]; first | done | rfl) ?_
  refine (pp_wh hH k_rd hx (by omega) (by omega)).mono (fun u hu => pz_cb hu (fun K12 G12 v12 x12 f12 hH hA => ?_))
  have hx := (f12.2 rd 7 k_rd 8 rfl).trans hx
  have k_rd := x12 _ _ k_rd
  have k_o0 := x12 _ _ k_o0
  have hf := hf.tr hx0 (f12.wk (by decide +kernel))
  have hx0 := hx0.tr x12
  rcases hA with rfl | ⟨w12, rfl, k_w12, hi12⟩
  · show et_go none _ 82 15 _ [.null, .ref o0] _ (0 + 1) (0 + 6) _
    refine ht_put (M := [(6, 4, 4)]) (T := et_TT) (t := 6) (ci := 4) (f := 4) (p := 18) (ty := (.object "KnobEye$Word")) (by decide +kernel) rfl rfl rfl rfl rfl (by decide +kernel) hH k_o0 (.inl ⟨by decide, rfl⟩) (fun G15 hH f15 e15 => ?_)
    have hf := hf.tr hx0 (f15.wk (by decide +kernel))
    have hx := (f15.2 rd 7 k_rd 8 rfl).trans hx
    refine hs_aload (i := 0) (p := 19) (by decide +kernel) rfl ?_
    refine hs_dup1 (p := 20) (by decide +kernel) ?_
    refine ht_getn (T := et_TT) (t := 7) (ci := 5) (f := 8) (p := 23) (by decide +kernel) rfl rfl hH k_rd (fun c20 h20 e20 => ?_)
    have q20 : c20 = x := hb_cc e20 hx (by omega) (by omega)
    refine hs_k (x := Int32.ofNat 1) (p := 24) (by decide +kernel) ?_
    refine hs_iaddn (p := 25) (by decide +kernel) ?_
    refine ht_put (M := [(7, 8, 8)]) (T := et_TT) (t := 7) (ci := 5) (f := 8) (p := 28) (ty := .int) (by decide +kernel) rfl rfl rfl rfl rfl (by decide +kernel) hH k_rd (hi_nv (by omega) (by omega)) (fun G25 hH f25 e25 => ?_)
    have hf := hf.tr hx0 (f25.wk (by decide +kernel))
    have hx := e25
    refine hs_aload (i := 1) (p := 29) (by decide +kernel) rfl ?_
    refine ht_get (T := et_TT) (t := 6) (ci := 4) (f := 4) (p := 32) (by decide +kernel) rfl rfl rfl hH k_o0 (fun v29 h29 e29 => ?_)
    rcases hi_q h29 with rfl | ⟨b29, rfl, k_b29⟩
    · refine hs_gst (v := Value.ref 2) (p := 35) (by decide +kernel) ?_
      refine hs_acm (c := .ne) (t := 48) (f := 38) (by decide +kernel) rfl (by decide +kernel) ?_ ?_
      · refine hs_aload (i := 0) (p := 49) (by decide +kernel) rfl ?_
        refine ht_geti (T := et_TT) (t := 7) (ci := 5) (f := 2) (p := 52) (by decide +kernel) rfl rfl hH k_rd (fun c49 h49 g49 e49 => ?_)
        refine hs_k (x := (-1)) (p := 53) (by decide +kernel) ?_
        refine hs_br2 (c := .ne) (t := 60) (f := 56) (by decide +kernel) (fun (c53 : ¬ c49 = (-1)) => ?_) (fun (c53 : ¬ (¬ c49 = (-1))) => ?_)
        · refine hs_nul (p := 61) (by decide +kernel) ?_
          refine hs_aretN (cn := "KnobEye$Node") (by decide +kernel) ?_
          exact ⟨_, _, _, rfl, hx0, hf, hH, hx, by omega, by omega, (by dsimp only; omega), .inl ⟨rfl, (by dsimp only; omega)⟩⟩
        · refine hs_aload (i := 1) (p := 57) (by decide +kernel) rfl ?_
          refine hs_goto (p := 61) (by decide +kernel) ?_
          refine hs_aret (cn := "KnobEye$Node") (by decide +kernel) ?_
          exact ⟨_, _, _, rfl, hx0, hf, hH, hx, by omega, by omega, (by dsimp only; omega), .inr ⟨_, rfl, k_o0, by omega, (by dsimp only; omega)⟩⟩
      · refine hs_aload (i := 1) (p := 39) (by decide +kernel) rfl ?_
        refine hs_aload (i := 0) (p := 40) (by decide +kernel) rfl ?_
        refine hs_k (x := Int32.ofNat 15) (p := 42) (by decide +kernel) ?_
        have lto_o0 := (hH.2.2 _ _ k_o0).1
        have hfo := hf
        refine ht_callv (T := et_TT) (t := 7) (mi := 83) (na := 1) (ci := 5) (lk := 2) (lm := 3) (L0 := eg_en (eg_mL 83) [.ref rd, .int (Int32.ofNat 15)]) (by decide +kernel) rfl hH k_rd rfl rfl rfl rfl rfl (by rw [show eg_mL 83 = 3 from by decide +kernel]; first | done | rfl) ?_
        refine (pp_tn hH k_rd hx (by omega) (by omega)).mono (fun u hu => pz_cb hu (fun K42 G42 v42 x42 f42 hH hA => ?_))
        have k_rd := x42 _ _ k_rd
        have k_o0 := x42 _ _ k_o0
        have hf := hf.tr hx0 (f42.wk (by decide +kernel))
        have hx0 := hx0.tr x42
        obtain ⟨y42, n42, rfl, hx, hy42, hz42, hw42⟩ := hA
        show et_go none _ 82 45 _ [.int n42, .ref o0] _ (0 + 1) (0 + 6) _
        refine ht_put (M := [(6, 5, 5)]) (T := et_TT) (t := 6) (ci := 4) (f := 5) (p := 48) (ty := .int) (by decide +kernel) rfl rfl rfl rfl rfl (by decide +kernel) hH k_o0 hi_any (fun G45 hH f45 e45 => ?_)
        have hf := hf.tr hx0 (f45.wk (by decide +kernel))
        have hx := (f45.2 rd 7 k_rd 8 rfl).trans hx
        refine hs_aload (i := 0) (p := 49) (by decide +kernel) rfl ?_
        refine ht_geti (T := et_TT) (t := 7) (ci := 5) (f := 2) (p := 52) (by decide +kernel) rfl rfl hH k_rd (fun c49 h49 g49 e49 => ?_)
        refine hs_k (x := (-1)) (p := 53) (by decide +kernel) ?_
        refine hs_br2 (c := .ne) (t := 60) (f := 56) (by decide +kernel) (fun (c53 : ¬ c49 = (-1)) => ?_) (fun (c53 : ¬ (¬ c49 = (-1))) => ?_)
        · refine hs_nul (p := 61) (by decide +kernel) ?_
          refine hs_aretN (cn := "KnobEye$Node") (by decide +kernel) ?_
          exact ⟨_, _, _, rfl, hx0, hf, hH, hx, by omega, by omega, (by dsimp only; omega), .inl ⟨rfl, (by dsimp only; omega)⟩⟩
        · refine hs_aload (i := 1) (p := 57) (by decide +kernel) rfl ?_
          refine hs_goto (p := 61) (by decide +kernel) ?_
          refine hs_aret (cn := "KnobEye$Node") (by decide +kernel) ?_
          exact ⟨_, _, _, rfl, hx0, hf, hH, hx, by omega, by omega, (by dsimp only; omega), .inr ⟨_, rfl, k_o0, by omega, (by dsimp only; omega)⟩⟩
    · refine hs_gst (v := Value.ref 2) (p := 35) (by decide +kernel) ?_
      refine hs_acm (c := .ne) (t := 48) (f := 38) (by decide +kernel) (hi_ca hH k_b29 (by decide)) (by decide +kernel) ?_ ?_
      · refine hs_aload (i := 0) (p := 49) (by decide +kernel) rfl ?_
        refine ht_geti (T := et_TT) (t := 7) (ci := 5) (f := 2) (p := 52) (by decide +kernel) rfl rfl hH k_rd (fun c49 h49 g49 e49 => ?_)
        refine hs_k (x := (-1)) (p := 53) (by decide +kernel) ?_
        refine hs_br2 (c := .ne) (t := 60) (f := 56) (by decide +kernel) (fun (c53 : ¬ c49 = (-1)) => ?_) (fun (c53 : ¬ (¬ c49 = (-1))) => ?_)
        · refine hs_nul (p := 61) (by decide +kernel) ?_
          refine hs_aretN (cn := "KnobEye$Node") (by decide +kernel) ?_
          exact ⟨_, _, _, rfl, hx0, hf, hH, hx, by omega, by omega, (by dsimp only; omega), .inl ⟨rfl, (by dsimp only; omega)⟩⟩
        · refine hs_aload (i := 1) (p := 57) (by decide +kernel) rfl ?_
          refine hs_goto (p := 61) (by decide +kernel) ?_
          refine hs_aret (cn := "KnobEye$Node") (by decide +kernel) ?_
          exact ⟨_, _, _, rfl, hx0, hf, hH, hx, by omega, by omega, (by dsimp only; omega), .inr ⟨_, rfl, k_o0, by omega, (by dsimp only; omega)⟩⟩
      · refine hs_aload (i := 1) (p := 39) (by decide +kernel) rfl ?_
        refine hs_aload (i := 0) (p := 40) (by decide +kernel) rfl ?_
        refine hs_k (x := Int32.ofNat 15) (p := 42) (by decide +kernel) ?_
        have lto_o0 := (hH.2.2 _ _ k_o0).1
        have hfo := hf
        refine ht_callv (T := et_TT) (t := 7) (mi := 83) (na := 1) (ci := 5) (lk := 2) (lm := 3) (L0 := eg_en (eg_mL 83) [.ref rd, .int (Int32.ofNat 15)]) (by decide +kernel) rfl hH k_rd rfl rfl rfl rfl rfl (by rw [show eg_mL 83 = 3 from by decide +kernel]; first | done | rfl) ?_
        refine (pp_tn hH k_rd hx (by omega) (by omega)).mono (fun u hu => pz_cb hu (fun K42 G42 v42 x42 f42 hH hA => ?_))
        have k_rd := x42 _ _ k_rd
        have k_o0 := x42 _ _ k_o0
        have k_b29 := x42 _ _ k_b29
        have hf := hf.tr hx0 (f42.wk (by decide +kernel))
        have hx0 := hx0.tr x42
        obtain ⟨y42, n42, rfl, hx, hy42, hz42, hw42⟩ := hA
        show et_go none _ 82 45 _ [.int n42, .ref o0] _ (0 + 1) (0 + 6) _
        refine ht_put (M := [(6, 5, 5)]) (T := et_TT) (t := 6) (ci := 4) (f := 5) (p := 48) (ty := .int) (by decide +kernel) rfl rfl rfl rfl rfl (by decide +kernel) hH k_o0 hi_any (fun G45 hH f45 e45 => ?_)
        have hf := hf.tr hx0 (f45.wk (by decide +kernel))
        have hx := (f45.2 rd 7 k_rd 8 rfl).trans hx
        refine hs_aload (i := 0) (p := 49) (by decide +kernel) rfl ?_
        refine ht_geti (T := et_TT) (t := 7) (ci := 5) (f := 2) (p := 52) (by decide +kernel) rfl rfl hH k_rd (fun c49 h49 g49 e49 => ?_)
        refine hs_k (x := (-1)) (p := 53) (by decide +kernel) ?_
        refine hs_br2 (c := .ne) (t := 60) (f := 56) (by decide +kernel) (fun (c53 : ¬ c49 = (-1)) => ?_) (fun (c53 : ¬ (¬ c49 = (-1))) => ?_)
        · refine hs_nul (p := 61) (by decide +kernel) ?_
          refine hs_aretN (cn := "KnobEye$Node") (by decide +kernel) ?_
          exact ⟨_, _, _, rfl, hx0, hf, hH, hx, by omega, by omega, (by dsimp only; omega), .inl ⟨rfl, (by dsimp only; omega)⟩⟩
        · refine hs_aload (i := 1) (p := 57) (by decide +kernel) rfl ?_
          refine hs_goto (p := 61) (by decide +kernel) ?_
          refine hs_aret (cn := "KnobEye$Node") (by decide +kernel) ?_
          exact ⟨_, _, _, rfl, hx0, hf, hH, hx, by omega, by omega, (by dsimp only; omega), .inr ⟨_, rfl, k_o0, by omega, (by dsimp only; omega)⟩⟩
  · show et_go none _ 82 15 _ [.ref w12, .ref o0] _ (0 + 1) (0 + 6) _
    refine ht_put (M := [(6, 4, 4)]) (T := et_TT) (t := 6) (ci := 4) (f := 4) (p := 18) (ty := (.object "KnobEye$Word")) (by decide +kernel) rfl rfl rfl rfl rfl (by decide +kernel) hH k_o0 (.inr ⟨by decide, _, rfl, k_w12⟩) (fun G15 hH f15 e15 => ?_)
    have hf := hf.tr hx0 (f15.wk (by decide +kernel))
    have hx := (f15.2 rd 7 k_rd 8 rfl).trans hx
    refine hs_aload (i := 0) (p := 19) (by decide +kernel) rfl ?_
    refine hs_dup1 (p := 20) (by decide +kernel) ?_
    refine ht_getn (T := et_TT) (t := 7) (ci := 5) (f := 8) (p := 23) (by decide +kernel) rfl rfl hH k_rd (fun c20 h20 e20 => ?_)
    have q20 : c20 = x := hb_cc e20 hx (by omega) (by omega)
    refine hs_k (x := Int32.ofNat 1) (p := 24) (by decide +kernel) ?_
    refine hs_iaddn (p := 25) (by decide +kernel) ?_
    refine ht_put (M := [(7, 8, 8)]) (T := et_TT) (t := 7) (ci := 5) (f := 8) (p := 28) (ty := .int) (by decide +kernel) rfl rfl rfl rfl rfl (by decide +kernel) hH k_rd (hi_nv (by omega) (by omega)) (fun G25 hH f25 e25 => ?_)
    have hf := hf.tr hx0 (f25.wk (by decide +kernel))
    have hx := e25
    refine hs_aload (i := 1) (p := 29) (by decide +kernel) rfl ?_
    refine ht_get (T := et_TT) (t := 6) (ci := 4) (f := 4) (p := 32) (by decide +kernel) rfl rfl rfl hH k_o0 (fun v29 h29 e29 => ?_)
    rcases hi_q h29 with rfl | ⟨b29, rfl, k_b29⟩
    · refine hs_gst (v := Value.ref 2) (p := 35) (by decide +kernel) ?_
      refine hs_acm (c := .ne) (t := 48) (f := 38) (by decide +kernel) rfl (by decide +kernel) ?_ ?_
      · refine hs_aload (i := 0) (p := 49) (by decide +kernel) rfl ?_
        refine ht_geti (T := et_TT) (t := 7) (ci := 5) (f := 2) (p := 52) (by decide +kernel) rfl rfl hH k_rd (fun c49 h49 g49 e49 => ?_)
        refine hs_k (x := (-1)) (p := 53) (by decide +kernel) ?_
        refine hs_br2 (c := .ne) (t := 60) (f := 56) (by decide +kernel) (fun (c53 : ¬ c49 = (-1)) => ?_) (fun (c53 : ¬ (¬ c49 = (-1))) => ?_)
        · refine hs_nul (p := 61) (by decide +kernel) ?_
          refine hs_aretN (cn := "KnobEye$Node") (by decide +kernel) ?_
          exact ⟨_, _, _, rfl, hx0, hf, hH, hx, by omega, by omega, (by dsimp only; omega), .inl ⟨rfl, (by dsimp only; omega)⟩⟩
        · refine hs_aload (i := 1) (p := 57) (by decide +kernel) rfl ?_
          refine hs_goto (p := 61) (by decide +kernel) ?_
          refine hs_aret (cn := "KnobEye$Node") (by decide +kernel) ?_
          exact ⟨_, _, _, rfl, hx0, hf, hH, hx, by omega, by omega, (by dsimp only; omega), .inr ⟨_, rfl, k_o0, by omega, (by dsimp only; omega)⟩⟩
      · refine hs_aload (i := 1) (p := 39) (by decide +kernel) rfl ?_
        refine hs_aload (i := 0) (p := 40) (by decide +kernel) rfl ?_
        refine hs_k (x := Int32.ofNat 15) (p := 42) (by decide +kernel) ?_
        have lto_o0 := (hH.2.2 _ _ k_o0).1
        have hfo := hf
        refine ht_callv (T := et_TT) (t := 7) (mi := 83) (na := 1) (ci := 5) (lk := 2) (lm := 3) (L0 := eg_en (eg_mL 83) [.ref rd, .int (Int32.ofNat 15)]) (by decide +kernel) rfl hH k_rd rfl rfl rfl rfl rfl (by rw [show eg_mL 83 = 3 from by decide +kernel]; first | done | rfl) ?_
        refine (pp_tn hH k_rd hx (by omega) (by omega)).mono (fun u hu => pz_cb hu (fun K42 G42 v42 x42 f42 hH hA => ?_))
        have k_rd := x42 _ _ k_rd
        have k_o0 := x42 _ _ k_o0
        have k_w12 := x42 _ _ k_w12
        have hf := hf.tr hx0 (f42.wk (by decide +kernel))
        have hx0 := hx0.tr x42
        obtain ⟨y42, n42, rfl, hx, hy42, hz42, hw42⟩ := hA
        show et_go none _ 82 45 _ [.int n42, .ref o0] _ (0 + 1) (0 + 6) _
        refine ht_put (M := [(6, 5, 5)]) (T := et_TT) (t := 6) (ci := 4) (f := 5) (p := 48) (ty := .int) (by decide +kernel) rfl rfl rfl rfl rfl (by decide +kernel) hH k_o0 hi_any (fun G45 hH f45 e45 => ?_)
        have hf := hf.tr hx0 (f45.wk (by decide +kernel))
        have hx := (f45.2 rd 7 k_rd 8 rfl).trans hx
        refine hs_aload (i := 0) (p := 49) (by decide +kernel) rfl ?_
        refine ht_geti (T := et_TT) (t := 7) (ci := 5) (f := 2) (p := 52) (by decide +kernel) rfl rfl hH k_rd (fun c49 h49 g49 e49 => ?_)
        refine hs_k (x := (-1)) (p := 53) (by decide +kernel) ?_
        refine hs_br2 (c := .ne) (t := 60) (f := 56) (by decide +kernel) (fun (c53 : ¬ c49 = (-1)) => ?_) (fun (c53 : ¬ (¬ c49 = (-1))) => ?_)
        · refine hs_nul (p := 61) (by decide +kernel) ?_
          refine hs_aretN (cn := "KnobEye$Node") (by decide +kernel) ?_
          exact ⟨_, _, _, rfl, hx0, hf, hH, hx, by omega, by omega, (by dsimp only; omega), .inl ⟨rfl, (by dsimp only; omega)⟩⟩
        · refine hs_aload (i := 1) (p := 57) (by decide +kernel) rfl ?_
          refine hs_goto (p := 61) (by decide +kernel) ?_
          refine hs_aret (cn := "KnobEye$Node") (by decide +kernel) ?_
          exact ⟨_, _, _, rfl, hx0, hf, hH, hx, by omega, by omega, (by dsimp only; omega), .inr ⟨_, rfl, k_o0, by omega, (by dsimp only; omega)⟩⟩
    · refine hs_gst (v := Value.ref 2) (p := 35) (by decide +kernel) ?_
      refine hs_acm (c := .ne) (t := 48) (f := 38) (by decide +kernel) (hi_ca hH k_b29 (by decide)) (by decide +kernel) ?_ ?_
      · refine hs_aload (i := 0) (p := 49) (by decide +kernel) rfl ?_
        refine ht_geti (T := et_TT) (t := 7) (ci := 5) (f := 2) (p := 52) (by decide +kernel) rfl rfl hH k_rd (fun c49 h49 g49 e49 => ?_)
        refine hs_k (x := (-1)) (p := 53) (by decide +kernel) ?_
        refine hs_br2 (c := .ne) (t := 60) (f := 56) (by decide +kernel) (fun (c53 : ¬ c49 = (-1)) => ?_) (fun (c53 : ¬ (¬ c49 = (-1))) => ?_)
        · refine hs_nul (p := 61) (by decide +kernel) ?_
          refine hs_aretN (cn := "KnobEye$Node") (by decide +kernel) ?_
          exact ⟨_, _, _, rfl, hx0, hf, hH, hx, by omega, by omega, (by dsimp only; omega), .inl ⟨rfl, (by dsimp only; omega)⟩⟩
        · refine hs_aload (i := 1) (p := 57) (by decide +kernel) rfl ?_
          refine hs_goto (p := 61) (by decide +kernel) ?_
          refine hs_aret (cn := "KnobEye$Node") (by decide +kernel) ?_
          exact ⟨_, _, _, rfl, hx0, hf, hH, hx, by omega, by omega, (by dsimp only; omega), .inr ⟨_, rfl, k_o0, by omega, (by dsimp only; omega)⟩⟩
      · refine hs_aload (i := 1) (p := 39) (by decide +kernel) rfl ?_
        refine hs_aload (i := 0) (p := 40) (by decide +kernel) rfl ?_
        refine hs_k (x := Int32.ofNat 15) (p := 42) (by decide +kernel) ?_
        have lto_o0 := (hH.2.2 _ _ k_o0).1
        have hfo := hf
        refine ht_callv (T := et_TT) (t := 7) (mi := 83) (na := 1) (ci := 5) (lk := 2) (lm := 3) (L0 := eg_en (eg_mL 83) [.ref rd, .int (Int32.ofNat 15)]) (by decide +kernel) rfl hH k_rd rfl rfl rfl rfl rfl (by rw [show eg_mL 83 = 3 from by decide +kernel]; first | done | rfl) ?_
        refine (pp_tn hH k_rd hx (by omega) (by omega)).mono (fun u hu => pz_cb hu (fun K42 G42 v42 x42 f42 hH hA => ?_))
        have k_rd := x42 _ _ k_rd
        have k_o0 := x42 _ _ k_o0
        have k_w12 := x42 _ _ k_w12
        have k_b29 := x42 _ _ k_b29
        have hf := hf.tr hx0 (f42.wk (by decide +kernel))
        have hx0 := hx0.tr x42
        obtain ⟨y42, n42, rfl, hx, hy42, hz42, hw42⟩ := hA
        show et_go none _ 82 45 _ [.int n42, .ref o0] _ (0 + 1) (0 + 6) _
        refine ht_put (M := [(6, 5, 5)]) (T := et_TT) (t := 6) (ci := 4) (f := 5) (p := 48) (ty := .int) (by decide +kernel) rfl rfl rfl rfl rfl (by decide +kernel) hH k_o0 hi_any (fun G45 hH f45 e45 => ?_)
        have hf := hf.tr hx0 (f45.wk (by decide +kernel))
        have hx := (f45.2 rd 7 k_rd 8 rfl).trans hx
        refine hs_aload (i := 0) (p := 49) (by decide +kernel) rfl ?_
        refine ht_geti (T := et_TT) (t := 7) (ci := 5) (f := 2) (p := 52) (by decide +kernel) rfl rfl hH k_rd (fun c49 h49 g49 e49 => ?_)
        refine hs_k (x := (-1)) (p := 53) (by decide +kernel) ?_
        refine hs_br2 (c := .ne) (t := 60) (f := 56) (by decide +kernel) (fun (c53 : ¬ c49 = (-1)) => ?_) (fun (c53 : ¬ (¬ c49 = (-1))) => ?_)
        · refine hs_nul (p := 61) (by decide +kernel) ?_
          refine hs_aretN (cn := "KnobEye$Node") (by decide +kernel) ?_
          exact ⟨_, _, _, rfl, hx0, hf, hH, hx, by omega, by omega, (by dsimp only; omega), .inl ⟨rfl, (by dsimp only; omega)⟩⟩
        · refine hs_aload (i := 1) (p := 57) (by decide +kernel) rfl ?_
          refine hs_goto (p := 61) (by decide +kernel) ?_
          refine hs_aret (cn := "KnobEye$Node") (by decide +kernel) ?_
          exact ⟨_, _, _, rfl, hx0, hf, hH, hx, by omega, by omega, (by dsimp only; omega), .inr ⟨_, rfl, k_o0, by omega, (by dsimp only; omega)⟩⟩
theorem pn_sum {i a b ck sk y : Nat} {x4 x5 : Option Value} (hH : et_H et_TT K G) (hx0 : et_ex K0 K) (hf : et_fr pp_M K0 G0 G) (k_rd : K rd = some 7) (hx : pp_at G rd y) (k_a : K a = some 6) (ge_a : G0.2 ≤ a) (k_b : K b = some 6) (hyl : y ≤ 401) (h2 : 2 * ck + x ≤ y) (h1 : 1 ≤ ck) (hs : sk ≤ 6 * ck) (hi : i ≤ 400) : et_go none (d + 2) 81 6 [some (.ref rd), some (.ref a), some (.ref b), some (.int (Int32.ofNat i)), x4, x5] [] G ck sk (pp_Z 0 K0 G0 rd x) := by
  induction hm : 400 - i using Nat.strongRecOn generalizing i b ck sk y x4 x5 K G with
  | _ z ih =>
    refine hs_iload (i := 3) (p := 7) (by decide +kernel) rfl ?_
    refine hs_k (x := Int32.ofNat 400) (p := 10) (by decide +kernel) ?_
    refine hs_br2n (c := .ge) (t := 243) (f := 13) (by decide +kernel) (by omega) (by omega) (fun (c10 : 400 ≤ i) => ?_) (fun (c10 : ¬ (400 ≤ i)) => ?_)
    · refine hs_aload (i := 1) (p := 244) (by decide +kernel) rfl ?_
      refine hs_aret (cn := "KnobEye$Node") (by decide +kernel) ?_
      exact ⟨_, _, _, rfl, hx0, hf, hH, hx, by omega, by omega, (by dsimp only; omega), .inr ⟨_, rfl, k_a, by omega, (by dsimp only; omega)⟩⟩
    · refine ht_newN (p := 16) (by decide +kernel) (by omega) (by omega) hH (fun K13 G13 o13 x13 f13 hH k_o13 ge_o13 lt13 => ?_)
      have hx := (f13.2 rd 7 k_rd 8 rfl).trans hx
      have kq_a := k_a
      have kq_b := k_b
      have k_rd := x13 _ _ k_rd
      have k_a := x13 _ _ k_a
      have k_b := x13 _ _ k_b
      have lt_a_o13 := lt13 _ _ kq_a
      have lt_b_o13 := lt13 _ _ kq_b
      have ge_o13 := Nat.le_trans hf.1 ge_o13
      have hf := hf.tr hx0 (f13.wk (by decide +kernel))
      have hx0 := hx0.tr x13
      refine hs_dup1 (p := 17) (by decide +kernel) ?_
      refine hs_k (x := Int32.ofNat 6) (p := 19) (by decide +kernel) ?_
      have lto_a := (hH.2.2 _ _ k_a).1
      have lto_b := (hH.2.2 _ _ k_b).1
      have lto_o13 := (hH.2.2 _ _ k_o13).1
      have hfo := hf
      refine hs_callp (mi := 61) (na := 1) (lk := 6) (lm := 2) (L0 := eg_en (eg_mL 61) [.ref o13, .int (Int32.ofNat 6)]) (by decide +kernel) rfl rfl rfl rfl rfl (by rw [show eg_mL 61 = 2 from by decide +kernel]; first | done | rfl) ?_
      refine (hc_nod (K13, [], G13) [.ref o13, .int (Int32.ofNat 6)] _ hH (by omega) rfl (ht_ac (.inr ⟨by decide, _, rfl, k_o13⟩) (ht_ac hi_any ht_an))).mono (fun u hu => hs_cbn hu (fun K19 G19 c19 s19 x19 f19 hH cl19 sl19 => ?_))
      have hx := (f19.2 rd 7 k_rd 8 rfl).trans hx
      have k_rd := x19 _ _ k_rd
      have k_a := x19 _ _ k_a
      have k_b := x19 _ _ k_b
      have k_o13 := x19 _ _ k_o13
      have hf := hf.tr hx0 (f19.wk (by decide +kernel))
      have hx0 := hx0.tr x19
      obtain rfl : c19 = 0 := Nat.le_zero.mp cl19
      obtain rfl : s19 = 0 := Nat.le_zero.mp sl19
      show et_go none _ 81 22 _ [.ref o13] _ (ck + 1) (sk + 6) _
      refine hs_astore (i := 4) (p := 24) (by decide +kernel) (Nat.le_of_ble_eq_true rfl) ?_
      refine hs_aload (i := 4) (p := 26) (by decide +kernel) rfl ?_
      refine hs_k (x := Int32.ofNat 1) (p := 27) (by decide +kernel) ?_
      refine ht_put (M := [(6, 5, 5)]) (T := et_TT) (t := 6) (ci := 4) (f := 5) (p := 30) (ty := .int) (by decide +kernel) rfl rfl rfl rfl rfl (by decide +kernel) hH k_o13 hi_any (fun G27 hH f27 e27 => ?_)
      have hf := hf.tr hx0 (f27.wk (by decide +kernel))
      have hx := (f27.2 rd 7 k_rd 8 rfl).trans hx
      refine hs_aload (i := 0) (p := 31) (by decide +kernel) rfl ?_
      refine hs_gst (v := Value.ref 33) (p := 34) (by decide +kernel) ?_
      have lto_a := (hH.2.2 _ _ k_a).1
      have lto_b := (hH.2.2 _ _ k_b).1
      have lto_o13 := (hH.2.2 _ _ k_o13).1
      have hfo := hf
      refine ht_callv (T := et_TT) (t := 7) (mi := 78) (na := 1) (ci := 5) (lk := 6) (lm := 2) (L0 := eg_en (eg_mL 78) [.ref rd, .ref 33]) (by decide +kernel) rfl hH k_rd rfl rfl rfl rfl rfl (by rw [show eg_mL 78 = 2 from by decide +kernel]; first | done | rfl) ?_
      refine (pp_is hH k_rd hx (by omega) (hH.2.1 _ (by decide)) (by omega)).mono (fun u hu => pz_cb hu (fun K34 G34 v34 x34 f34 hH hA => ?_))
      have hx := (f34.2 rd 7 k_rd 8 rfl).trans hx
      have k_rd := x34 _ _ k_rd
      have k_a := x34 _ _ k_a
      have k_b := x34 _ _ k_b
      have k_o13 := x34 _ _ k_o13
      have hf := hf.tr hx0 (f34.wk (by decide +kernel))
      have hx0 := hx0.tr x34
      rcases hA with rfl | ⟨rfl, hi34⟩
      · show et_go none _ 81 37 _ [.int (Int32.ofNat 0)] _ (ck + 1) (sk + 6) _
        refine hs_if0 (c := .ne) (t := 44) (f := 40) (by decide +kernel) (show ¬ (¬ Int32.ofNat 0 = 0) by decide) ?_
        refine hs_k (x := Int32.ofNat 1) (p := 41) (by decide +kernel) ?_
        refine hs_goto (p := 45) (by decide +kernel) ?_
        refine hs_istore (i := 5) (p := 47) (by decide +kernel) (Nat.le_of_ble_eq_true rfl) ?_
        refine hs_iload (i := 5) (p := 49) (by decide +kernel) rfl ?_
        refine hs_if1 (c := .ne) (t := 132) (f := 52) (by decide +kernel) (show ¬ Int32.ofNat 1 = 0 by decide) ?_
        refine hs_iload (i := 5) (p := 134) (by decide +kernel) rfl ?_
        refine hs_if0 (c := .eq) (t := 195) (f := 137) (by decide +kernel) (show ¬ (Int32.ofNat 1 = 0) by decide) ?_
        refine hs_aload (i := 4) (p := 139) (by decide +kernel) rfl ?_
        refine hs_aload (i := 0) (p := 140) (by decide +kernel) rfl ?_
        refine hs_k (x := Int32.ofNat 2) (p := 141) (by decide +kernel) ?_
        have lto_a := (hH.2.2 _ _ k_a).1
        have lto_b := (hH.2.2 _ _ k_b).1
        have lto_o13 := (hH.2.2 _ _ k_o13).1
        have hfo := hf
        refine ht_callv (T := et_TT) (t := 7) (mi := 79) (na := 1) (ci := 5) (lk := 6) (lm := 2) (L0 := eg_en (eg_mL 79) [.ref rd, .int (Int32.ofNat 2)]) (by decide +kernel) rfl hH k_rd rfl rfl rfl rfl rfl (by rw [show eg_mL 79 = 2 from by decide +kernel]; first | done | rfl) ?_
        refine (pp_wh hH k_rd hx (by omega) (by omega)).mono (fun u hu => pz_cb hu (fun K141 G141 v141 x141 f141 hH hA => ?_))
        have hx := (f141.2 rd 7 k_rd 8 rfl).trans hx
        have k_rd := x141 _ _ k_rd
        have k_a := x141 _ _ k_a
        have k_b := x141 _ _ k_b
        have k_o13 := x141 _ _ k_o13
        have hf := hf.tr hx0 (f141.wk (by decide +kernel))
        have hx0 := hx0.tr x141
        rcases hA with rfl | ⟨w141, rfl, k_w141, hi141⟩
        · show et_go none _ 81 144 _ [.null, .ref o13] _ (ck + 1) (sk + 6) _
          refine ht_put (M := [(6, 4, 4)]) (T := et_TT) (t := 6) (ci := 4) (f := 4) (p := 147) (ty := (.object "KnobEye$Word")) (by decide +kernel) rfl rfl rfl rfl rfl (by decide +kernel) hH k_o13 (.inl ⟨by decide, rfl⟩) (fun G144 hH f144 e144 => ?_)
          have hf := hf.tr hx0 (f144.wk (by decide +kernel))
          have hx := (f144.2 rd 7 k_rd 8 rfl).trans hx
          refine hs_aload (i := 4) (p := 149) (by decide +kernel) rfl ?_
          refine ht_get (T := et_TT) (t := 6) (ci := 4) (f := 4) (p := 152) (by decide +kernel) rfl rfl rfl hH k_o13 (fun v149 h149 e149 => ?_)
          obtain rfl : v149 = .null := Option.some.inj (e149.symm.trans e144)
          refine hs_ifnonnull0 (p := 155) (by decide +kernel) ?_
          refine hs_aload (i := 0) (p := 156) (by decide +kernel) rfl ?_
          have lto_a := (hH.2.2 _ _ k_a).1
          have lto_b := (hH.2.2 _ _ k_b).1
          have lto_o13 := (hH.2.2 _ _ k_o13).1
          have hfo := hf
          refine ht_callv (T := et_TT) (t := 7) (mi := 76) (na := 0) (ci := 5) (lk := 6) (lm := 1) (L0 := eg_en (eg_mL 76) [.ref rd]) (by decide +kernel) rfl hH k_rd rfl rfl rfl rfl rfl (by rw [show eg_mL 76 = 1 from by decide +kernel]; first | done | rfl) ?_
          refine (ep_c4 (K141, [], G144) [.ref rd] _ hH (by omega) rfl (ht_ac (.inr ⟨by decide, _, rfl, k_rd⟩) ht_an)).mono (fun u hu => hs_cbv hu (fun v156 K156 G156 c156 s156 x156 f156 hH hv156 cl156 sl156 => ?_))
          have hx := (f156.2 rd 7 k_rd 8 rfl).trans hx
          have k_rd := x156 _ _ k_rd
          have k_a := x156 _ _ k_a
          have k_b := x156 _ _ k_b
          have k_o13 := x156 _ _ k_o13
          have hf := hf.tr hx0 (f156.wk (by decide +kernel))
          have hx0 := hx0.tr x156
          obtain rfl : c156 = 0 := Nat.le_zero.mp cl156
          obtain rfl : s156 = 0 := Nat.le_zero.mp sl156
          obtain rfl : v156 = .null := hv156.elim (fun h => h.2) (fun h => absurd h.1 (by decide))
          show et_go none _ 81 159 _ [.null] _ (ck + 1) (sk + 6) _
          refine hs_aretN (cn := "KnobEye$Node") (by decide +kernel) ?_
          exact ⟨_, _, _, rfl, hx0, hf, hH, hx, by omega, by omega, (by dsimp only; omega), .inl ⟨rfl, (by dsimp only; omega)⟩⟩
        · show et_go none _ 81 144 _ [.ref w141, .ref o13] _ (ck + 1) (sk + 6) _
          refine ht_put (M := [(6, 4, 4)]) (T := et_TT) (t := 6) (ci := 4) (f := 4) (p := 147) (ty := (.object "KnobEye$Word")) (by decide +kernel) rfl rfl rfl rfl rfl (by decide +kernel) hH k_o13 (.inr ⟨by decide, _, rfl, k_w141⟩) (fun G144 hH f144 e144 => ?_)
          have hf := hf.tr hx0 (f144.wk (by decide +kernel))
          have hx := (f144.2 rd 7 k_rd 8 rfl).trans hx
          refine hs_aload (i := 4) (p := 149) (by decide +kernel) rfl ?_
          refine ht_get (T := et_TT) (t := 6) (ci := 4) (f := 4) (p := 152) (by decide +kernel) rfl rfl rfl hH k_o13 (fun v149 h149 e149 => ?_)
          obtain rfl : v149 = .ref w141 := Option.some.inj (e149.symm.trans e144)
          refine hs_ifnonnull1 (p := 160) (by decide +kernel) ?_
          refine hs_aload (i := 0) (p := 161) (by decide +kernel) rfl ?_
          refine hs_dup1 (p := 162) (by decide +kernel) ?_
          refine ht_getn (T := et_TT) (t := 7) (ci := 5) (f := 3) (p := 165) (by decide +kernel) rfl rfl hH k_rd (fun c162 h162 e162 => ?_)
          refine hs_aload (i := 4) (p := 167) (by decide +kernel) rfl ?_
          refine ht_get (T := et_TT) (t := 6) (ci := 4) (f := 4) (p := 170) (by decide +kernel) rfl rfl rfl hH k_o13 (fun v167 h167 e167 => ?_)
          obtain rfl : v167 = .ref w141 := Option.some.inj (e167.symm.trans e144)
          refine hs_gst (v := Value.ref 17) (p := 173) (by decide +kernel) ?_
          refine hs_acm (c := .ne) (t := 180) (f := 176) (by decide +kernel) (hi_ca hH k_w141 (by decide)) (by decide +kernel) ?_ ?_
          · refine hs_k (x := Int32.ofNat 0) (p := 181) (by decide +kernel) ?_
            refine hs_ior (p := 182) (by decide +kernel) ?_
            obtain ⟨m181, hm181, hq181⟩ := hi_or (a := c162) (b := 0) (by omega) (by omega)
            rw [hq181]
            refine ht_put (M := [(7, 3, 3)]) (T := et_TT) (t := 7) (ci := 5) (f := 3) (p := 185) (ty := .boolean) (by decide +kernel) rfl rfl rfl (hi_fz (by omega)) rfl (by decide +kernel) hH k_rd (hi_nv (by omega) (by omega)) (fun G182 hH f182 e182 => ?_)
            have hf := hf.tr hx0 (f182.wk (by decide +kernel))
            have hx := (f182.2 rd 7 k_rd 8 rfl).trans hx
            refine hs_aload (i := 0) (p := 186) (by decide +kernel) rfl ?_
            refine hs_dup1 (p := 187) (by decide +kernel) ?_
            refine ht_getn (T := et_TT) (t := 7) (ci := 5) (f := 8) (p := 190) (by decide +kernel) rfl rfl hH k_rd (fun c187 h187 e187 => ?_)
            have q187 : c187 = y := hb_cc e187 hx (by omega) (by omega)
            refine hs_k (x := Int32.ofNat 1) (p := 191) (by decide +kernel) ?_
            refine hs_iaddn (p := 192) (by decide +kernel) ?_
            refine ht_put (M := [(7, 8, 8)]) (T := et_TT) (t := 7) (ci := 5) (f := 8) (p := 195) (ty := .int) (by decide +kernel) rfl rfl rfl rfl rfl (by decide +kernel) hH k_rd (hi_nv (by omega) (by omega)) (fun G192 hH f192 e192 => ?_)
            have hf := hf.tr hx0 (f192.wk (by decide +kernel))
            have hx := e192
            refine hs_aload (i := 2) (p := 196) (by decide +kernel) rfl ?_
            refine hs_ifnonnull1 (p := 205) (by decide +kernel) ?_
            refine hs_aload (i := 2) (p := 206) (by decide +kernel) rfl ?_
            refine hs_aload (i := 4) (p := 208) (by decide +kernel) rfl ?_
            refine ht_next (ty := .object "KnobEye$Node") (M := [(6, 1, 1)]) (p := 211) (by decide +kernel) rfl rfl hH k_b k_o13 lt_b_o13 (fun G208 hH f208 => ?_)
            have hf := hf.tr hx0 (f208.wk (by decide +kernel))
            have hx := (f208.2 rd 7 k_rd 8 rfl).trans hx
            refine hs_aload (i := 4) (p := 213) (by decide +kernel) rfl ?_
            refine hs_astore (i := 2) (p := 214) (by decide +kernel) (Nat.le_of_ble_eq_true rfl) ?_
            refine hs_aload (i := 0) (p := 215) (by decide +kernel) rfl ?_
            refine hs_gst (v := Value.ref 27) (p := 218) (by decide +kernel) ?_
            have lto_a := (hH.2.2 _ _ k_a).1
            have lto_b := (hH.2.2 _ _ k_b).1
            have lto_o13 := (hH.2.2 _ _ k_o13).1
            have hfo := hf
            refine ht_callv (T := et_TT) (t := 7) (mi := 78) (na := 1) (ci := 5) (lk := 6) (lm := 2) (L0 := eg_en (eg_mL 78) [.ref rd, .ref 27]) (by decide +kernel) rfl hH k_rd rfl rfl rfl rfl rfl (by rw [show eg_mL 78 = 2 from by decide +kernel]; first | done | rfl) ?_
            refine (pp_is hH k_rd hx (by omega) (hH.2.1 _ (by decide)) (by omega)).mono (fun u hu => pz_cb hu (fun K218 G218 v218 x218 f218 hH hA => ?_))
            have hx := (f218.2 rd 7 k_rd 8 rfl).trans hx
            have k_rd := x218 _ _ k_rd
            have k_a := x218 _ _ k_a
            have k_b := x218 _ _ k_b
            have k_o13 := x218 _ _ k_o13
            have k_w141 := x218 _ _ k_w141
            have hf := hf.tr hx0 (f218.wk (by decide +kernel))
            have hx0 := hx0.tr x218
            rcases hA with rfl | ⟨rfl, hi218⟩
            · show et_go none _ 81 221 _ [.int (Int32.ofNat 0)] _ (ck + 1) (sk + 6) _
              refine hs_if0 (c := .ne) (t := 227) (f := 224) (by decide +kernel) (show ¬ (¬ Int32.ofNat 0 = 0) by decide) ?_
              refine hs_goto (p := 243) (by decide +kernel) ?_
              refine hs_aload (i := 1) (p := 244) (by decide +kernel) rfl ?_
              refine hs_aret (cn := "KnobEye$Node") (by decide +kernel) ?_
              exact ⟨_, _, _, rfl, hx0, hf, hH, hx, by omega, by omega, (by dsimp only; omega), .inr ⟨_, rfl, k_a, by omega, (by dsimp only; omega)⟩⟩
            · show et_go none _ 81 221 _ [.int (Int32.ofNat 1)] _ (ck + 1) (sk + 6) _
              refine hs_if1 (c := .ne) (t := 227) (f := 224) (by decide +kernel) (show ¬ Int32.ofNat 1 = 0 by decide) ?_
              refine hs_aload (i := 0) (p := 228) (by decide +kernel) rfl ?_
              refine hs_dup1 (p := 229) (by decide +kernel) ?_
              refine ht_getn (T := et_TT) (t := 7) (ci := 5) (f := 8) (p := 232) (by decide +kernel) rfl rfl hH k_rd (fun c229 h229 e229 => ?_)
              have q229 : c229 = (c187 + 1) := hb_cc e229 hx (by omega) (by omega)
              refine hs_k (x := Int32.ofNat 1) (p := 233) (by decide +kernel) ?_
              refine hs_iaddn (p := 234) (by decide +kernel) ?_
              refine ht_put (M := [(7, 8, 8)]) (T := et_TT) (t := 7) (ci := 5) (f := 8) (p := 237) (ty := .int) (by decide +kernel) rfl rfl rfl rfl rfl (by decide +kernel) hH k_rd (hi_nv (by omega) (by omega)) (fun G234 hH f234 e234 => ?_)
              have hf := hf.tr hx0 (f234.wk (by decide +kernel))
              have hx := e234
              refine hs_iinc1 (i := 3) (p := 240) (by decide +kernel) rfl (Nat.le_of_ble_eq_true rfl) ?_
              refine hs_goto (p := 6) (by decide +kernel) ?_
              show et_go none (d + 2) 81 6 [some (.ref rd), some (.ref a), some (.ref o13), some (.int (Int32.ofNat (i + 1))), some (.ref o13), some (.int (Int32.ofNat 1))] [] _ _ _ _
              exact ih (400 - (i + 1)) (by omega) (i := (i + 1)) hH hx0 hf k_rd hx k_a k_o13 (by omega) (by omega) (by omega) (by omega) (by omega) rfl
          · refine hs_k (x := Int32.ofNat 1) (p := 177) (by decide +kernel) ?_
            refine hs_goto (p := 181) (by decide +kernel) ?_
            refine hs_ior (p := 182) (by decide +kernel) ?_
            obtain ⟨m181, hm181, hq181⟩ := hi_or (a := c162) (b := 1) (by omega) (by omega)
            rw [hq181]
            refine ht_put (M := [(7, 3, 3)]) (T := et_TT) (t := 7) (ci := 5) (f := 3) (p := 185) (ty := .boolean) (by decide +kernel) rfl rfl rfl (hi_fz (by omega)) rfl (by decide +kernel) hH k_rd (hi_nv (by omega) (by omega)) (fun G182 hH f182 e182 => ?_)
            have hf := hf.tr hx0 (f182.wk (by decide +kernel))
            have hx := (f182.2 rd 7 k_rd 8 rfl).trans hx
            refine hs_aload (i := 0) (p := 186) (by decide +kernel) rfl ?_
            refine hs_dup1 (p := 187) (by decide +kernel) ?_
            refine ht_getn (T := et_TT) (t := 7) (ci := 5) (f := 8) (p := 190) (by decide +kernel) rfl rfl hH k_rd (fun c187 h187 e187 => ?_)
            have q187 : c187 = y := hb_cc e187 hx (by omega) (by omega)
            refine hs_k (x := Int32.ofNat 1) (p := 191) (by decide +kernel) ?_
            refine hs_iaddn (p := 192) (by decide +kernel) ?_
            refine ht_put (M := [(7, 8, 8)]) (T := et_TT) (t := 7) (ci := 5) (f := 8) (p := 195) (ty := .int) (by decide +kernel) rfl rfl rfl rfl rfl (by decide +kernel) hH k_rd (hi_nv (by omega) (by omega)) (fun G192 hH f192 e192 => ?_)
            have hf := hf.tr hx0 (f192.wk (by decide +kernel))
            have hx := e192
            refine hs_aload (i := 2) (p := 196) (by decide +kernel) rfl ?_
            refine hs_ifnonnull1 (p := 205) (by decide +kernel) ?_
            refine hs_aload (i := 2) (p := 206) (by decide +kernel) rfl ?_
            refine hs_aload (i := 4) (p := 208) (by decide +kernel) rfl ?_
            refine ht_next (ty := .object "KnobEye$Node") (M := [(6, 1, 1)]) (p := 211) (by decide +kernel) rfl rfl hH k_b k_o13 lt_b_o13 (fun G208 hH f208 => ?_)
            have hf := hf.tr hx0 (f208.wk (by decide +kernel))
            have hx := (f208.2 rd 7 k_rd 8 rfl).trans hx
            refine hs_aload (i := 4) (p := 213) (by decide +kernel) rfl ?_
            refine hs_astore (i := 2) (p := 214) (by decide +kernel) (Nat.le_of_ble_eq_true rfl) ?_
            refine hs_aload (i := 0) (p := 215) (by decide +kernel) rfl ?_
            refine hs_gst (v := Value.ref 27) (p := 218) (by decide +kernel) ?_
            have lto_a := (hH.2.2 _ _ k_a).1
            have lto_b := (hH.2.2 _ _ k_b).1
            have lto_o13 := (hH.2.2 _ _ k_o13).1
            have hfo := hf
            refine ht_callv (T := et_TT) (t := 7) (mi := 78) (na := 1) (ci := 5) (lk := 6) (lm := 2) (L0 := eg_en (eg_mL 78) [.ref rd, .ref 27]) (by decide +kernel) rfl hH k_rd rfl rfl rfl rfl rfl (by rw [show eg_mL 78 = 2 from by decide +kernel]; first | done | rfl) ?_
            refine (pp_is hH k_rd hx (by omega) (hH.2.1 _ (by decide)) (by omega)).mono (fun u hu => pz_cb hu (fun K218 G218 v218 x218 f218 hH hA => ?_))
            have hx := (f218.2 rd 7 k_rd 8 rfl).trans hx
            have k_rd := x218 _ _ k_rd
            have k_a := x218 _ _ k_a
            have k_b := x218 _ _ k_b
            have k_o13 := x218 _ _ k_o13
            have k_w141 := x218 _ _ k_w141
            have hf := hf.tr hx0 (f218.wk (by decide +kernel))
            have hx0 := hx0.tr x218
            rcases hA with rfl | ⟨rfl, hi218⟩
            · show et_go none _ 81 221 _ [.int (Int32.ofNat 0)] _ (ck + 1) (sk + 6) _
              refine hs_if0 (c := .ne) (t := 227) (f := 224) (by decide +kernel) (show ¬ (¬ Int32.ofNat 0 = 0) by decide) ?_
              refine hs_goto (p := 243) (by decide +kernel) ?_
              refine hs_aload (i := 1) (p := 244) (by decide +kernel) rfl ?_
              refine hs_aret (cn := "KnobEye$Node") (by decide +kernel) ?_
              exact ⟨_, _, _, rfl, hx0, hf, hH, hx, by omega, by omega, (by dsimp only; omega), .inr ⟨_, rfl, k_a, by omega, (by dsimp only; omega)⟩⟩
            · show et_go none _ 81 221 _ [.int (Int32.ofNat 1)] _ (ck + 1) (sk + 6) _
              refine hs_if1 (c := .ne) (t := 227) (f := 224) (by decide +kernel) (show ¬ Int32.ofNat 1 = 0 by decide) ?_
              refine hs_aload (i := 0) (p := 228) (by decide +kernel) rfl ?_
              refine hs_dup1 (p := 229) (by decide +kernel) ?_
              refine ht_getn (T := et_TT) (t := 7) (ci := 5) (f := 8) (p := 232) (by decide +kernel) rfl rfl hH k_rd (fun c229 h229 e229 => ?_)
              have q229 : c229 = (c187 + 1) := hb_cc e229 hx (by omega) (by omega)
              refine hs_k (x := Int32.ofNat 1) (p := 233) (by decide +kernel) ?_
              refine hs_iaddn (p := 234) (by decide +kernel) ?_
              refine ht_put (M := [(7, 8, 8)]) (T := et_TT) (t := 7) (ci := 5) (f := 8) (p := 237) (ty := .int) (by decide +kernel) rfl rfl rfl rfl rfl (by decide +kernel) hH k_rd (hi_nv (by omega) (by omega)) (fun G234 hH f234 e234 => ?_)
              have hf := hf.tr hx0 (f234.wk (by decide +kernel))
              have hx := e234
              refine hs_iinc1 (i := 3) (p := 240) (by decide +kernel) rfl (Nat.le_of_ble_eq_true rfl) ?_
              refine hs_goto (p := 6) (by decide +kernel) ?_
              show et_go none (d + 2) 81 6 [some (.ref rd), some (.ref a), some (.ref o13), some (.int (Int32.ofNat (i + 1))), some (.ref o13), some (.int (Int32.ofNat 1))] [] _ _ _ _
              exact ih (400 - (i + 1)) (by omega) (i := (i + 1)) hH hx0 hf k_rd hx k_a k_o13 (by omega) (by omega) (by omega) (by omega) (by omega) rfl
      · show et_go none _ 81 37 _ [.int (Int32.ofNat 1)] _ (ck + 1) (sk + 6) _
        refine hs_if1 (c := .ne) (t := 44) (f := 40) (by decide +kernel) (show ¬ Int32.ofNat 1 = 0 by decide) ?_
        refine hs_k (x := Int32.ofNat 0) (p := 45) (by decide +kernel) ?_
        refine hs_istore (i := 5) (p := 47) (by decide +kernel) (Nat.le_of_ble_eq_true rfl) ?_
        refine hs_iload (i := 5) (p := 49) (by decide +kernel) rfl ?_
        refine hs_if0 (c := .ne) (t := 132) (f := 52) (by decide +kernel) (show ¬ (¬ Int32.ofNat 0 = 0) by decide) ?_
        refine hs_aload (i := 4) (p := 54) (by decide +kernel) rfl ?_
        refine hs_aload (i := 0) (p := 55) (by decide +kernel) rfl ?_
        refine ht_getn (T := et_TT) (t := 7) (ci := 5) (f := 8) (p := 58) (by decide +kernel) rfl rfl hH k_rd (fun c55 h55 e55 => ?_)
        have q55 : c55 = y := hb_cc e55 hx (by omega) (by omega)
        refine hs_aload (i := 0) (p := 59) (by decide +kernel) rfl ?_
        refine ht_getn (T := et_TT) (t := 7) (ci := 5) (f := 7) (p := 62) (by decide +kernel) rfl rfl hH k_rd (fun c59 h59 e59 => ?_)
        refine hs_br2n (c := .ge) (t := 77) (f := 65) (by decide +kernel) (by omega) (by omega) (fun (c62 : c59 ≤ c55) => ?_) (fun (c62 : ¬ (c59 ≤ c55)) => ?_)
        · refine hs_k (x := (-1)) (p := 78) (by decide +kernel) ?_
          refine ht_put (M := [(6, 5, 5)]) (T := et_TT) (t := 6) (ci := 4) (f := 5) (p := 81) (ty := .int) (by decide +kernel) rfl rfl rfl rfl rfl (by decide +kernel) hH k_o13 hi_any (fun G78 hH f78 e78 => ?_)
          have hf := hf.tr hx0 (f78.wk (by decide +kernel))
          have hx := (f78.2 rd 7 k_rd 8 rfl).trans hx
          refine hs_aload (i := 4) (p := 83) (by decide +kernel) rfl ?_
          refine ht_geti (T := et_TT) (t := 6) (ci := 4) (f := 5) (p := 86) (by decide +kernel) rfl rfl hH k_o13 (fun c83 h83 g83 e83 => ?_)
          refine hs_br1 (c := .ge) (t := 94) (f := 89) (by decide +kernel) (fun (c86 : 0 ≤ c83) => ?_) (fun (c86 : ¬ (0 ≤ c83)) => ?_)
          · refine hs_aload (i := 0) (p := 95) (by decide +kernel) rfl ?_
            refine hs_dup1 (p := 96) (by decide +kernel) ?_
            refine ht_getn (T := et_TT) (t := 7) (ci := 5) (f := 8) (p := 99) (by decide +kernel) rfl rfl hH k_rd (fun c96 h96 e96 => ?_)
            have q96 : c96 = y := hb_cc e96 hx (by omega) (by omega)
            refine hs_k (x := Int32.ofNat 1) (p := 100) (by decide +kernel) ?_
            refine hs_iaddn (p := 101) (by decide +kernel) ?_
            refine ht_put (M := [(7, 8, 8)]) (T := et_TT) (t := 7) (ci := 5) (f := 8) (p := 104) (ty := .int) (by decide +kernel) rfl rfl rfl rfl rfl (by decide +kernel) hH k_rd (hi_nv (by omega) (by omega)) (fun G101 hH f101 e101 => ?_)
            have hf := hf.tr hx0 (f101.wk (by decide +kernel))
            have hx := e101
            refine hs_aload (i := 0) (p := 105) (by decide +kernel) rfl ?_
            refine hs_gst (v := Value.ref 28) (p := 108) (by decide +kernel) ?_
            have lto_a := (hH.2.2 _ _ k_a).1
            have lto_b := (hH.2.2 _ _ k_b).1
            have lto_o13 := (hH.2.2 _ _ k_o13).1
            have hfo := hf
            refine ht_callv (T := et_TT) (t := 7) (mi := 78) (na := 1) (ci := 5) (lk := 6) (lm := 2) (L0 := eg_en (eg_mL 78) [.ref rd, .ref 28]) (by decide +kernel) rfl hH k_rd rfl rfl rfl rfl rfl (by rw [show eg_mL 78 = 2 from by decide +kernel]; first | done | rfl) ?_
            refine (pp_is hH k_rd hx (by omega) (hH.2.1 _ (by decide)) (by omega)).mono (fun u hu => pz_cb hu (fun K108 G108 v108 x108 f108 hH hA => ?_))
            have hx := (f108.2 rd 7 k_rd 8 rfl).trans hx
            have k_rd := x108 _ _ k_rd
            have k_a := x108 _ _ k_a
            have k_b := x108 _ _ k_b
            have k_o13 := x108 _ _ k_o13
            have hf := hf.tr hx0 (f108.wk (by decide +kernel))
            have hx0 := hx0.tr x108
            rcases hA with rfl | ⟨rfl, hi108⟩
            · show et_go none _ 81 111 _ [.int (Int32.ofNat 0)] _ (ck + 1) (sk + 6) _
              refine hs_istore (i := 5) (p := 113) (by decide +kernel) (Nat.le_of_ble_eq_true rfl) ?_
              refine hs_aload (i := 0) (p := 114) (by decide +kernel) rfl ?_
              refine hs_dup1 (p := 115) (by decide +kernel) ?_
              refine ht_getn (T := et_TT) (t := 7) (ci := 5) (f := 8) (p := 118) (by decide +kernel) rfl rfl hH k_rd (fun c115 h115 e115 => ?_)
              have q115 : c115 = (c96 + 1) := hb_cc e115 hx (by omega) (by omega)
              refine hs_iload (i := 5) (p := 120) (by decide +kernel) rfl ?_
              refine hs_if1 (c := .eq) (t := 127) (f := 123) (by decide +kernel) (show Int32.ofNat 0 = 0 by decide) ?_
              refine hs_k (x := Int32.ofNat 0) (p := 128) (by decide +kernel) ?_
              refine hs_iaddn (p := 129) (by decide +kernel) ?_
              refine ht_put (M := [(7, 8, 8)]) (T := et_TT) (t := 7) (ci := 5) (f := 8) (p := 132) (ty := .int) (by decide +kernel) rfl rfl rfl rfl rfl (by decide +kernel) hH k_rd (hi_nv (by omega) (by omega)) (fun G129 hH f129 e129 => ?_)
              have hf := hf.tr hx0 (f129.wk (by decide +kernel))
              have hx := e129
              refine hs_iload (i := 5) (p := 134) (by decide +kernel) rfl ?_
              refine hs_if1 (c := .eq) (t := 195) (f := 137) (by decide +kernel) (show Int32.ofNat 0 = 0 by decide) ?_
              refine hs_aload (i := 2) (p := 196) (by decide +kernel) rfl ?_
              refine hs_ifnonnull1 (p := 205) (by decide +kernel) ?_
              refine hs_aload (i := 2) (p := 206) (by decide +kernel) rfl ?_
              refine hs_aload (i := 4) (p := 208) (by decide +kernel) rfl ?_
              refine ht_next (ty := .object "KnobEye$Node") (M := [(6, 1, 1)]) (p := 211) (by decide +kernel) rfl rfl hH k_b k_o13 lt_b_o13 (fun G208 hH f208 => ?_)
              have hf := hf.tr hx0 (f208.wk (by decide +kernel))
              have hx := (f208.2 rd 7 k_rd 8 rfl).trans hx
              refine hs_aload (i := 4) (p := 213) (by decide +kernel) rfl ?_
              refine hs_astore (i := 2) (p := 214) (by decide +kernel) (Nat.le_of_ble_eq_true rfl) ?_
              refine hs_aload (i := 0) (p := 215) (by decide +kernel) rfl ?_
              refine hs_gst (v := Value.ref 27) (p := 218) (by decide +kernel) ?_
              have lto_a := (hH.2.2 _ _ k_a).1
              have lto_b := (hH.2.2 _ _ k_b).1
              have lto_o13 := (hH.2.2 _ _ k_o13).1
              have hfo := hf
              refine ht_callv (T := et_TT) (t := 7) (mi := 78) (na := 1) (ci := 5) (lk := 6) (lm := 2) (L0 := eg_en (eg_mL 78) [.ref rd, .ref 27]) (by decide +kernel) rfl hH k_rd rfl rfl rfl rfl rfl (by rw [show eg_mL 78 = 2 from by decide +kernel]; first | done | rfl) ?_
              refine (pp_is hH k_rd hx (by omega) (hH.2.1 _ (by decide)) (by omega)).mono (fun u hu => pz_cb hu (fun K218 G218 v218 x218 f218 hH hA => ?_))
              have hx := (f218.2 rd 7 k_rd 8 rfl).trans hx
              have k_rd := x218 _ _ k_rd
              have k_a := x218 _ _ k_a
              have k_b := x218 _ _ k_b
              have k_o13 := x218 _ _ k_o13
              have hf := hf.tr hx0 (f218.wk (by decide +kernel))
              have hx0 := hx0.tr x218
              rcases hA with rfl | ⟨rfl, hi218⟩
              · show et_go none _ 81 221 _ [.int (Int32.ofNat 0)] _ (ck + 1) (sk + 6) _
                refine hs_if0 (c := .ne) (t := 227) (f := 224) (by decide +kernel) (show ¬ (¬ Int32.ofNat 0 = 0) by decide) ?_
                refine hs_goto (p := 243) (by decide +kernel) ?_
                refine hs_aload (i := 1) (p := 244) (by decide +kernel) rfl ?_
                refine hs_aret (cn := "KnobEye$Node") (by decide +kernel) ?_
                exact ⟨_, _, _, rfl, hx0, hf, hH, hx, by omega, by omega, (by dsimp only; omega), .inr ⟨_, rfl, k_a, by omega, (by dsimp only; omega)⟩⟩
              · show et_go none _ 81 221 _ [.int (Int32.ofNat 1)] _ (ck + 1) (sk + 6) _
                refine hs_if1 (c := .ne) (t := 227) (f := 224) (by decide +kernel) (show ¬ Int32.ofNat 1 = 0 by decide) ?_
                refine hs_aload (i := 0) (p := 228) (by decide +kernel) rfl ?_
                refine hs_dup1 (p := 229) (by decide +kernel) ?_
                refine ht_getn (T := et_TT) (t := 7) (ci := 5) (f := 8) (p := 232) (by decide +kernel) rfl rfl hH k_rd (fun c229 h229 e229 => ?_)
                have q229 : c229 = (c115 + 0) := hb_cc e229 hx (by omega) (by omega)
                refine hs_k (x := Int32.ofNat 1) (p := 233) (by decide +kernel) ?_
                refine hs_iaddn (p := 234) (by decide +kernel) ?_
                refine ht_put (M := [(7, 8, 8)]) (T := et_TT) (t := 7) (ci := 5) (f := 8) (p := 237) (ty := .int) (by decide +kernel) rfl rfl rfl rfl rfl (by decide +kernel) hH k_rd (hi_nv (by omega) (by omega)) (fun G234 hH f234 e234 => ?_)
                have hf := hf.tr hx0 (f234.wk (by decide +kernel))
                have hx := e234
                refine hs_iinc1 (i := 3) (p := 240) (by decide +kernel) rfl (Nat.le_of_ble_eq_true rfl) ?_
                refine hs_goto (p := 6) (by decide +kernel) ?_
                show et_go none (d + 2) 81 6 [some (.ref rd), some (.ref a), some (.ref o13), some (.int (Int32.ofNat (i + 1))), some (.ref o13), some (.int (Int32.ofNat 0))] [] _ _ _ _
                exact ih (400 - (i + 1)) (by omega) (i := (i + 1)) hH hx0 hf k_rd hx k_a k_o13 (by omega) (by omega) (by omega) (by omega) (by omega) rfl
            · show et_go none _ 81 111 _ [.int (Int32.ofNat 1)] _ (ck + 1) (sk + 6) _
              refine hs_istore (i := 5) (p := 113) (by decide +kernel) (Nat.le_of_ble_eq_true rfl) ?_
              refine hs_aload (i := 0) (p := 114) (by decide +kernel) rfl ?_
              refine hs_dup1 (p := 115) (by decide +kernel) ?_
              refine ht_getn (T := et_TT) (t := 7) (ci := 5) (f := 8) (p := 118) (by decide +kernel) rfl rfl hH k_rd (fun c115 h115 e115 => ?_)
              have q115 : c115 = (c96 + 1) := hb_cc e115 hx (by omega) (by omega)
              refine hs_iload (i := 5) (p := 120) (by decide +kernel) rfl ?_
              refine hs_if0 (c := .eq) (t := 127) (f := 123) (by decide +kernel) (show ¬ (Int32.ofNat 1 = 0) by decide) ?_
              refine hs_k (x := Int32.ofNat 1) (p := 124) (by decide +kernel) ?_
              refine hs_goto (p := 128) (by decide +kernel) ?_
              refine hs_iaddn (p := 129) (by decide +kernel) ?_
              refine ht_put (M := [(7, 8, 8)]) (T := et_TT) (t := 7) (ci := 5) (f := 8) (p := 132) (ty := .int) (by decide +kernel) rfl rfl rfl rfl rfl (by decide +kernel) hH k_rd (hi_nv (by omega) (by omega)) (fun G129 hH f129 e129 => ?_)
              have hf := hf.tr hx0 (f129.wk (by decide +kernel))
              have hx := e129
              refine hs_iload (i := 5) (p := 134) (by decide +kernel) rfl ?_
              refine hs_if0 (c := .eq) (t := 195) (f := 137) (by decide +kernel) (show ¬ (Int32.ofNat 1 = 0) by decide) ?_
              refine hs_aload (i := 4) (p := 139) (by decide +kernel) rfl ?_
              refine hs_aload (i := 0) (p := 140) (by decide +kernel) rfl ?_
              refine hs_k (x := Int32.ofNat 2) (p := 141) (by decide +kernel) ?_
              have lto_a := (hH.2.2 _ _ k_a).1
              have lto_b := (hH.2.2 _ _ k_b).1
              have lto_o13 := (hH.2.2 _ _ k_o13).1
              have hfo := hf
              refine ht_callv (T := et_TT) (t := 7) (mi := 79) (na := 1) (ci := 5) (lk := 6) (lm := 2) (L0 := eg_en (eg_mL 79) [.ref rd, .int (Int32.ofNat 2)]) (by decide +kernel) rfl hH k_rd rfl rfl rfl rfl rfl (by rw [show eg_mL 79 = 2 from by decide +kernel]; first | done | rfl) ?_
              refine (pp_wh hH k_rd hx (by omega) (by omega)).mono (fun u hu => pz_cb hu (fun K141 G141 v141 x141 f141 hH hA => ?_))
              have hx := (f141.2 rd 7 k_rd 8 rfl).trans hx
              have k_rd := x141 _ _ k_rd
              have k_a := x141 _ _ k_a
              have k_b := x141 _ _ k_b
              have k_o13 := x141 _ _ k_o13
              have hf := hf.tr hx0 (f141.wk (by decide +kernel))
              have hx0 := hx0.tr x141
              rcases hA with rfl | ⟨w141, rfl, k_w141, hi141⟩
              · show et_go none _ 81 144 _ [.null, .ref o13] _ (ck + 1) (sk + 6) _
                refine ht_put (M := [(6, 4, 4)]) (T := et_TT) (t := 6) (ci := 4) (f := 4) (p := 147) (ty := (.object "KnobEye$Word")) (by decide +kernel) rfl rfl rfl rfl rfl (by decide +kernel) hH k_o13 (.inl ⟨by decide, rfl⟩) (fun G144 hH f144 e144 => ?_)
                have hf := hf.tr hx0 (f144.wk (by decide +kernel))
                have hx := (f144.2 rd 7 k_rd 8 rfl).trans hx
                refine hs_aload (i := 4) (p := 149) (by decide +kernel) rfl ?_
                refine ht_get (T := et_TT) (t := 6) (ci := 4) (f := 4) (p := 152) (by decide +kernel) rfl rfl rfl hH k_o13 (fun v149 h149 e149 => ?_)
                obtain rfl : v149 = .null := Option.some.inj (e149.symm.trans e144)
                refine hs_ifnonnull0 (p := 155) (by decide +kernel) ?_
                refine hs_aload (i := 0) (p := 156) (by decide +kernel) rfl ?_
                have lto_a := (hH.2.2 _ _ k_a).1
                have lto_b := (hH.2.2 _ _ k_b).1
                have lto_o13 := (hH.2.2 _ _ k_o13).1
                have hfo := hf
                refine ht_callv (T := et_TT) (t := 7) (mi := 76) (na := 0) (ci := 5) (lk := 6) (lm := 1) (L0 := eg_en (eg_mL 76) [.ref rd]) (by decide +kernel) rfl hH k_rd rfl rfl rfl rfl rfl (by rw [show eg_mL 76 = 1 from by decide +kernel]; first | done | rfl) ?_
                refine (ep_c4 (K141, [], G144) [.ref rd] _ hH (by omega) rfl (ht_ac (.inr ⟨by decide, _, rfl, k_rd⟩) ht_an)).mono (fun u hu => hs_cbv hu (fun v156 K156 G156 c156 s156 x156 f156 hH hv156 cl156 sl156 => ?_))
                have hx := (f156.2 rd 7 k_rd 8 rfl).trans hx
                have k_rd := x156 _ _ k_rd
                have k_a := x156 _ _ k_a
                have k_b := x156 _ _ k_b
                have k_o13 := x156 _ _ k_o13
                have hf := hf.tr hx0 (f156.wk (by decide +kernel))
                have hx0 := hx0.tr x156
                obtain rfl : c156 = 0 := Nat.le_zero.mp cl156
                obtain rfl : s156 = 0 := Nat.le_zero.mp sl156
                obtain rfl : v156 = .null := hv156.elim (fun h => h.2) (fun h => absurd h.1 (by decide))
                show et_go none _ 81 159 _ [.null] _ (ck + 1) (sk + 6) _
                refine hs_aretN (cn := "KnobEye$Node") (by decide +kernel) ?_
                exact ⟨_, _, _, rfl, hx0, hf, hH, hx, by omega, by omega, (by dsimp only; omega), .inl ⟨rfl, (by dsimp only; omega)⟩⟩
              · show et_go none _ 81 144 _ [.ref w141, .ref o13] _ (ck + 1) (sk + 6) _
                refine ht_put (M := [(6, 4, 4)]) (T := et_TT) (t := 6) (ci := 4) (f := 4) (p := 147) (ty := (.object "KnobEye$Word")) (by decide +kernel) rfl rfl rfl rfl rfl (by decide +kernel) hH k_o13 (.inr ⟨by decide, _, rfl, k_w141⟩) (fun G144 hH f144 e144 => ?_)
                have hf := hf.tr hx0 (f144.wk (by decide +kernel))
                have hx := (f144.2 rd 7 k_rd 8 rfl).trans hx
                refine hs_aload (i := 4) (p := 149) (by decide +kernel) rfl ?_
                refine ht_get (T := et_TT) (t := 6) (ci := 4) (f := 4) (p := 152) (by decide +kernel) rfl rfl rfl hH k_o13 (fun v149 h149 e149 => ?_)
                obtain rfl : v149 = .ref w141 := Option.some.inj (e149.symm.trans e144)
                refine hs_ifnonnull1 (p := 160) (by decide +kernel) ?_
                refine hs_aload (i := 0) (p := 161) (by decide +kernel) rfl ?_
                refine hs_dup1 (p := 162) (by decide +kernel) ?_
                refine ht_getn (T := et_TT) (t := 7) (ci := 5) (f := 3) (p := 165) (by decide +kernel) rfl rfl hH k_rd (fun c162 h162 e162 => ?_)
                refine hs_aload (i := 4) (p := 167) (by decide +kernel) rfl ?_
                refine ht_get (T := et_TT) (t := 6) (ci := 4) (f := 4) (p := 170) (by decide +kernel) rfl rfl rfl hH k_o13 (fun v167 h167 e167 => ?_)
                obtain rfl : v167 = .ref w141 := Option.some.inj (e167.symm.trans e144)
                refine hs_gst (v := Value.ref 17) (p := 173) (by decide +kernel) ?_
                refine hs_acm (c := .ne) (t := 180) (f := 176) (by decide +kernel) (hi_ca hH k_w141 (by decide)) (by decide +kernel) ?_ ?_
                · refine hs_k (x := Int32.ofNat 0) (p := 181) (by decide +kernel) ?_
                  refine hs_ior (p := 182) (by decide +kernel) ?_
                  obtain ⟨m181, hm181, hq181⟩ := hi_or (a := c162) (b := 0) (by omega) (by omega)
                  rw [hq181]
                  refine ht_put (M := [(7, 3, 3)]) (T := et_TT) (t := 7) (ci := 5) (f := 3) (p := 185) (ty := .boolean) (by decide +kernel) rfl rfl rfl (hi_fz (by omega)) rfl (by decide +kernel) hH k_rd (hi_nv (by omega) (by omega)) (fun G182 hH f182 e182 => ?_)
                  have hf := hf.tr hx0 (f182.wk (by decide +kernel))
                  have hx := (f182.2 rd 7 k_rd 8 rfl).trans hx
                  refine hs_aload (i := 0) (p := 186) (by decide +kernel) rfl ?_
                  refine hs_dup1 (p := 187) (by decide +kernel) ?_
                  refine ht_getn (T := et_TT) (t := 7) (ci := 5) (f := 8) (p := 190) (by decide +kernel) rfl rfl hH k_rd (fun c187 h187 e187 => ?_)
                  have q187 : c187 = (c115 + 1) := hb_cc e187 hx (by omega) (by omega)
                  refine hs_k (x := Int32.ofNat 1) (p := 191) (by decide +kernel) ?_
                  refine hs_iaddn (p := 192) (by decide +kernel) ?_
                  refine ht_put (M := [(7, 8, 8)]) (T := et_TT) (t := 7) (ci := 5) (f := 8) (p := 195) (ty := .int) (by decide +kernel) rfl rfl rfl rfl rfl (by decide +kernel) hH k_rd (hi_nv (by omega) (by omega)) (fun G192 hH f192 e192 => ?_)
                  have hf := hf.tr hx0 (f192.wk (by decide +kernel))
                  have hx := e192
                  refine hs_aload (i := 2) (p := 196) (by decide +kernel) rfl ?_
                  refine hs_ifnonnull1 (p := 205) (by decide +kernel) ?_
                  refine hs_aload (i := 2) (p := 206) (by decide +kernel) rfl ?_
                  refine hs_aload (i := 4) (p := 208) (by decide +kernel) rfl ?_
                  refine ht_next (ty := .object "KnobEye$Node") (M := [(6, 1, 1)]) (p := 211) (by decide +kernel) rfl rfl hH k_b k_o13 lt_b_o13 (fun G208 hH f208 => ?_)
                  have hf := hf.tr hx0 (f208.wk (by decide +kernel))
                  have hx := (f208.2 rd 7 k_rd 8 rfl).trans hx
                  refine hs_aload (i := 4) (p := 213) (by decide +kernel) rfl ?_
                  refine hs_astore (i := 2) (p := 214) (by decide +kernel) (Nat.le_of_ble_eq_true rfl) ?_
                  refine hs_aload (i := 0) (p := 215) (by decide +kernel) rfl ?_
                  refine hs_gst (v := Value.ref 27) (p := 218) (by decide +kernel) ?_
                  have lto_a := (hH.2.2 _ _ k_a).1
                  have lto_b := (hH.2.2 _ _ k_b).1
                  have lto_o13 := (hH.2.2 _ _ k_o13).1
                  have hfo := hf
                  refine ht_callv (T := et_TT) (t := 7) (mi := 78) (na := 1) (ci := 5) (lk := 6) (lm := 2) (L0 := eg_en (eg_mL 78) [.ref rd, .ref 27]) (by decide +kernel) rfl hH k_rd rfl rfl rfl rfl rfl (by rw [show eg_mL 78 = 2 from by decide +kernel]; first | done | rfl) ?_
                  refine (pp_is hH k_rd hx (by omega) (hH.2.1 _ (by decide)) (by omega)).mono (fun u hu => pz_cb hu (fun K218 G218 v218 x218 f218 hH hA => ?_))
                  have hx := (f218.2 rd 7 k_rd 8 rfl).trans hx
                  have k_rd := x218 _ _ k_rd
                  have k_a := x218 _ _ k_a
                  have k_b := x218 _ _ k_b
                  have k_o13 := x218 _ _ k_o13
                  have k_w141 := x218 _ _ k_w141
                  have hf := hf.tr hx0 (f218.wk (by decide +kernel))
                  have hx0 := hx0.tr x218
                  rcases hA with rfl | ⟨rfl, hi218⟩
                  · show et_go none _ 81 221 _ [.int (Int32.ofNat 0)] _ (ck + 1) (sk + 6) _
                    refine hs_if0 (c := .ne) (t := 227) (f := 224) (by decide +kernel) (show ¬ (¬ Int32.ofNat 0 = 0) by decide) ?_
                    refine hs_goto (p := 243) (by decide +kernel) ?_
                    refine hs_aload (i := 1) (p := 244) (by decide +kernel) rfl ?_
                    refine hs_aret (cn := "KnobEye$Node") (by decide +kernel) ?_
                    exact ⟨_, _, _, rfl, hx0, hf, hH, hx, by omega, by omega, (by dsimp only; omega), .inr ⟨_, rfl, k_a, by omega, (by dsimp only; omega)⟩⟩
                  · show et_go none _ 81 221 _ [.int (Int32.ofNat 1)] _ (ck + 1) (sk + 6) _
                    refine hs_if1 (c := .ne) (t := 227) (f := 224) (by decide +kernel) (show ¬ Int32.ofNat 1 = 0 by decide) ?_
                    refine hs_aload (i := 0) (p := 228) (by decide +kernel) rfl ?_
                    refine hs_dup1 (p := 229) (by decide +kernel) ?_
                    refine ht_getn (T := et_TT) (t := 7) (ci := 5) (f := 8) (p := 232) (by decide +kernel) rfl rfl hH k_rd (fun c229 h229 e229 => ?_)
                    have q229 : c229 = (c187 + 1) := hb_cc e229 hx (by omega) (by omega)
                    refine hs_k (x := Int32.ofNat 1) (p := 233) (by decide +kernel) ?_
                    refine hs_iaddn (p := 234) (by decide +kernel) ?_
                    refine ht_put (M := [(7, 8, 8)]) (T := et_TT) (t := 7) (ci := 5) (f := 8) (p := 237) (ty := .int) (by decide +kernel) rfl rfl rfl rfl rfl (by decide +kernel) hH k_rd (hi_nv (by omega) (by omega)) (fun G234 hH f234 e234 => ?_)
                    have hf := hf.tr hx0 (f234.wk (by decide +kernel))
                    have hx := e234
                    refine hs_iinc1 (i := 3) (p := 240) (by decide +kernel) rfl (Nat.le_of_ble_eq_true rfl) ?_
                    refine hs_goto (p := 6) (by decide +kernel) ?_
                    show et_go none (d + 2) 81 6 [some (.ref rd), some (.ref a), some (.ref o13), some (.int (Int32.ofNat (i + 1))), some (.ref o13), some (.int (Int32.ofNat 1))] [] _ _ _ _
                    exact ih (400 - (i + 1)) (by omega) (i := (i + 1)) hH hx0 hf k_rd hx k_a k_o13 (by omega) (by omega) (by omega) (by omega) (by omega) rfl
                · refine hs_k (x := Int32.ofNat 1) (p := 177) (by decide +kernel) ?_
                  refine hs_goto (p := 181) (by decide +kernel) ?_
                  refine hs_ior (p := 182) (by decide +kernel) ?_
                  obtain ⟨m181, hm181, hq181⟩ := hi_or (a := c162) (b := 1) (by omega) (by omega)
                  rw [hq181]
                  refine ht_put (M := [(7, 3, 3)]) (T := et_TT) (t := 7) (ci := 5) (f := 3) (p := 185) (ty := .boolean) (by decide +kernel) rfl rfl rfl (hi_fz (by omega)) rfl (by decide +kernel) hH k_rd (hi_nv (by omega) (by omega)) (fun G182 hH f182 e182 => ?_)
                  have hf := hf.tr hx0 (f182.wk (by decide +kernel))
                  have hx := (f182.2 rd 7 k_rd 8 rfl).trans hx
                  refine hs_aload (i := 0) (p := 186) (by decide +kernel) rfl ?_
                  refine hs_dup1 (p := 187) (by decide +kernel) ?_
                  refine ht_getn (T := et_TT) (t := 7) (ci := 5) (f := 8) (p := 190) (by decide +kernel) rfl rfl hH k_rd (fun c187 h187 e187 => ?_)
                  have q187 : c187 = (c115 + 1) := hb_cc e187 hx (by omega) (by omega)
                  refine hs_k (x := Int32.ofNat 1) (p := 191) (by decide +kernel) ?_
                  refine hs_iaddn (p := 192) (by decide +kernel) ?_
                  refine ht_put (M := [(7, 8, 8)]) (T := et_TT) (t := 7) (ci := 5) (f := 8) (p := 195) (ty := .int) (by decide +kernel) rfl rfl rfl rfl rfl (by decide +kernel) hH k_rd (hi_nv (by omega) (by omega)) (fun G192 hH f192 e192 => ?_)
                  have hf := hf.tr hx0 (f192.wk (by decide +kernel))
                  have hx := e192
                  refine hs_aload (i := 2) (p := 196) (by decide +kernel) rfl ?_
                  refine hs_ifnonnull1 (p := 205) (by decide +kernel) ?_
                  refine hs_aload (i := 2) (p := 206) (by decide +kernel) rfl ?_
                  refine hs_aload (i := 4) (p := 208) (by decide +kernel) rfl ?_
                  refine ht_next (ty := .object "KnobEye$Node") (M := [(6, 1, 1)]) (p := 211) (by decide +kernel) rfl rfl hH k_b k_o13 lt_b_o13 (fun G208 hH f208 => ?_)
                  have hf := hf.tr hx0 (f208.wk (by decide +kernel))
                  have hx := (f208.2 rd 7 k_rd 8 rfl).trans hx
                  refine hs_aload (i := 4) (p := 213) (by decide +kernel) rfl ?_
                  refine hs_astore (i := 2) (p := 214) (by decide +kernel) (Nat.le_of_ble_eq_true rfl) ?_
                  refine hs_aload (i := 0) (p := 215) (by decide +kernel) rfl ?_
                  refine hs_gst (v := Value.ref 27) (p := 218) (by decide +kernel) ?_
                  have lto_a := (hH.2.2 _ _ k_a).1
                  have lto_b := (hH.2.2 _ _ k_b).1
                  have lto_o13 := (hH.2.2 _ _ k_o13).1
                  have hfo := hf
                  refine ht_callv (T := et_TT) (t := 7) (mi := 78) (na := 1) (ci := 5) (lk := 6) (lm := 2) (L0 := eg_en (eg_mL 78) [.ref rd, .ref 27]) (by decide +kernel) rfl hH k_rd rfl rfl rfl rfl rfl (by rw [show eg_mL 78 = 2 from by decide +kernel]; first | done | rfl) ?_
                  refine (pp_is hH k_rd hx (by omega) (hH.2.1 _ (by decide)) (by omega)).mono (fun u hu => pz_cb hu (fun K218 G218 v218 x218 f218 hH hA => ?_))
                  have hx := (f218.2 rd 7 k_rd 8 rfl).trans hx
                  have k_rd := x218 _ _ k_rd
                  have k_a := x218 _ _ k_a
                  have k_b := x218 _ _ k_b
                  have k_o13 := x218 _ _ k_o13
                  have k_w141 := x218 _ _ k_w141
                  have hf := hf.tr hx0 (f218.wk (by decide +kernel))
                  have hx0 := hx0.tr x218
                  rcases hA with rfl | ⟨rfl, hi218⟩
                  · show et_go none _ 81 221 _ [.int (Int32.ofNat 0)] _ (ck + 1) (sk + 6) _
                    refine hs_if0 (c := .ne) (t := 227) (f := 224) (by decide +kernel) (show ¬ (¬ Int32.ofNat 0 = 0) by decide) ?_
                    refine hs_goto (p := 243) (by decide +kernel) ?_
                    refine hs_aload (i := 1) (p := 244) (by decide +kernel) rfl ?_
                    refine hs_aret (cn := "KnobEye$Node") (by decide +kernel) ?_
                    exact ⟨_, _, _, rfl, hx0, hf, hH, hx, by omega, by omega, (by dsimp only; omega), .inr ⟨_, rfl, k_a, by omega, (by dsimp only; omega)⟩⟩
                  · show et_go none _ 81 221 _ [.int (Int32.ofNat 1)] _ (ck + 1) (sk + 6) _
                    refine hs_if1 (c := .ne) (t := 227) (f := 224) (by decide +kernel) (show ¬ Int32.ofNat 1 = 0 by decide) ?_
                    refine hs_aload (i := 0) (p := 228) (by decide +kernel) rfl ?_
                    refine hs_dup1 (p := 229) (by decide +kernel) ?_
                    refine ht_getn (T := et_TT) (t := 7) (ci := 5) (f := 8) (p := 232) (by decide +kernel) rfl rfl hH k_rd (fun c229 h229 e229 => ?_)
                    have q229 : c229 = (c187 + 1) := hb_cc e229 hx (by omega) (by omega)
                    refine hs_k (x := Int32.ofNat 1) (p := 233) (by decide +kernel) ?_
                    refine hs_iaddn (p := 234) (by decide +kernel) ?_
                    refine ht_put (M := [(7, 8, 8)]) (T := et_TT) (t := 7) (ci := 5) (f := 8) (p := 237) (ty := .int) (by decide +kernel) rfl rfl rfl rfl rfl (by decide +kernel) hH k_rd (hi_nv (by omega) (by omega)) (fun G234 hH f234 e234 => ?_)
                    have hf := hf.tr hx0 (f234.wk (by decide +kernel))
                    have hx := e234
                    refine hs_iinc1 (i := 3) (p := 240) (by decide +kernel) rfl (Nat.le_of_ble_eq_true rfl) ?_
                    refine hs_goto (p := 6) (by decide +kernel) ?_
                    show et_go none (d + 2) 81 6 [some (.ref rd), some (.ref a), some (.ref o13), some (.int (Int32.ofNat (i + 1))), some (.ref o13), some (.int (Int32.ofNat 1))] [] _ _ _ _
                    exact ih (400 - (i + 1)) (by omega) (i := (i + 1)) hH hx0 hf k_rd hx k_a k_o13 (by omega) (by omega) (by omega) (by omega) (by omega) rfl
          · refine hs_aload (i := 0) (p := 90) (by decide +kernel) rfl ?_
            have lto_a := (hH.2.2 _ _ k_a).1
            have lto_b := (hH.2.2 _ _ k_b).1
            have lto_o13 := (hH.2.2 _ _ k_o13).1
            have hfo := hf
            refine ht_callv (T := et_TT) (t := 7) (mi := 76) (na := 0) (ci := 5) (lk := 6) (lm := 1) (L0 := eg_en (eg_mL 76) [.ref rd]) (by decide +kernel) rfl hH k_rd rfl rfl rfl rfl rfl (by rw [show eg_mL 76 = 1 from by decide +kernel]; first | done | rfl) ?_
            refine (ep_c4 (K34, [], G78) [.ref rd] _ hH (by omega) rfl (ht_ac (.inr ⟨by decide, _, rfl, k_rd⟩) ht_an)).mono (fun u hu => hs_cbv hu (fun v90 K90 G90 c90 s90 x90 f90 hH hv90 cl90 sl90 => ?_))
            have hx := (f90.2 rd 7 k_rd 8 rfl).trans hx
            have k_rd := x90 _ _ k_rd
            have k_a := x90 _ _ k_a
            have k_b := x90 _ _ k_b
            have k_o13 := x90 _ _ k_o13
            have hf := hf.tr hx0 (f90.wk (by decide +kernel))
            have hx0 := hx0.tr x90
            obtain rfl : c90 = 0 := Nat.le_zero.mp cl90
            obtain rfl : s90 = 0 := Nat.le_zero.mp sl90
            obtain rfl : v90 = .null := hv90.elim (fun h => h.2) (fun h => absurd h.1 (by decide))
            show et_go none _ 81 93 _ [.null] _ (ck + 1) (sk + 6) _
            refine hs_aretN (cn := "KnobEye$Node") (by decide +kernel) ?_
            exact ⟨_, _, _, rfl, hx0, hf, hH, hx, by omega, by omega, (by dsimp only; omega), .inl ⟨rfl, (by dsimp only; omega)⟩⟩
        · refine hs_aload (i := 0) (p := 66) (by decide +kernel) rfl ?_
          refine ht_getr (T := et_TT) (t := 7) (ci := 5) (f := 6) (p := 69) (by decide +kernel) rfl rfl hH k_rd (fun a66 k_a66 e66 => ?_)
          refine hs_aload (i := 0) (p := 70) (by decide +kernel) rfl ?_
          refine ht_getn (T := et_TT) (t := 7) (ci := 5) (f := 8) (p := 73) (by decide +kernel) rfl rfl hH k_rd (fun c70 h70 e70 => ?_)
          have q70 : c70 = y := hb_cc e70 hx (by omega) (by omega)
          refine ht_ild (T := et_TT) (t := 21) (N := 401) (p := 74) (by decide +kernel) rfl hH k_a66 (by omega) (by decide) (fun x73 s73 e73 => ?_)
          refine hs_goto (p := 78) (by decide +kernel) ?_
          refine ht_put (M := [(6, 5, 5)]) (T := et_TT) (t := 6) (ci := 4) (f := 5) (p := 81) (ty := .int) (by decide +kernel) rfl rfl rfl rfl rfl (by decide +kernel) hH k_o13 hi_any (fun G78 hH f78 e78 => ?_)
          have hf := hf.tr hx0 (f78.wk (by decide +kernel))
          have hx := (f78.2 rd 7 k_rd 8 rfl).trans hx
          refine hs_aload (i := 4) (p := 83) (by decide +kernel) rfl ?_
          refine ht_geti (T := et_TT) (t := 6) (ci := 4) (f := 5) (p := 86) (by decide +kernel) rfl rfl hH k_o13 (fun c83 h83 g83 e83 => ?_)
          refine hs_br1 (c := .ge) (t := 94) (f := 89) (by decide +kernel) (fun (c86 : 0 ≤ c83) => ?_) (fun (c86 : ¬ (0 ≤ c83)) => ?_)
          · refine hs_aload (i := 0) (p := 95) (by decide +kernel) rfl ?_
            refine hs_dup1 (p := 96) (by decide +kernel) ?_
            refine ht_getn (T := et_TT) (t := 7) (ci := 5) (f := 8) (p := 99) (by decide +kernel) rfl rfl hH k_rd (fun c96 h96 e96 => ?_)
            have q96 : c96 = y := hb_cc e96 hx (by omega) (by omega)
            refine hs_k (x := Int32.ofNat 1) (p := 100) (by decide +kernel) ?_
            refine hs_iaddn (p := 101) (by decide +kernel) ?_
            refine ht_put (M := [(7, 8, 8)]) (T := et_TT) (t := 7) (ci := 5) (f := 8) (p := 104) (ty := .int) (by decide +kernel) rfl rfl rfl rfl rfl (by decide +kernel) hH k_rd (hi_nv (by omega) (by omega)) (fun G101 hH f101 e101 => ?_)
            have hf := hf.tr hx0 (f101.wk (by decide +kernel))
            have hx := e101
            refine hs_aload (i := 0) (p := 105) (by decide +kernel) rfl ?_
            refine hs_gst (v := Value.ref 28) (p := 108) (by decide +kernel) ?_
            have lto_a := (hH.2.2 _ _ k_a).1
            have lto_b := (hH.2.2 _ _ k_b).1
            have lto_o13 := (hH.2.2 _ _ k_o13).1
            have hfo := hf
            refine ht_callv (T := et_TT) (t := 7) (mi := 78) (na := 1) (ci := 5) (lk := 6) (lm := 2) (L0 := eg_en (eg_mL 78) [.ref rd, .ref 28]) (by decide +kernel) rfl hH k_rd rfl rfl rfl rfl rfl (by rw [show eg_mL 78 = 2 from by decide +kernel]; first | done | rfl) ?_
            refine (pp_is hH k_rd hx (by omega) (hH.2.1 _ (by decide)) (by omega)).mono (fun u hu => pz_cb hu (fun K108 G108 v108 x108 f108 hH hA => ?_))
            have hx := (f108.2 rd 7 k_rd 8 rfl).trans hx
            have k_rd := x108 _ _ k_rd
            have k_a := x108 _ _ k_a
            have k_b := x108 _ _ k_b
            have k_o13 := x108 _ _ k_o13
            have k_a66 := x108 _ _ k_a66
            have hf := hf.tr hx0 (f108.wk (by decide +kernel))
            have hx0 := hx0.tr x108
            rcases hA with rfl | ⟨rfl, hi108⟩
            · show et_go none _ 81 111 _ [.int (Int32.ofNat 0)] _ (ck + 1) (sk + 6) _
              refine hs_istore (i := 5) (p := 113) (by decide +kernel) (Nat.le_of_ble_eq_true rfl) ?_
              refine hs_aload (i := 0) (p := 114) (by decide +kernel) rfl ?_
              refine hs_dup1 (p := 115) (by decide +kernel) ?_
              refine ht_getn (T := et_TT) (t := 7) (ci := 5) (f := 8) (p := 118) (by decide +kernel) rfl rfl hH k_rd (fun c115 h115 e115 => ?_)
              have q115 : c115 = (c96 + 1) := hb_cc e115 hx (by omega) (by omega)
              refine hs_iload (i := 5) (p := 120) (by decide +kernel) rfl ?_
              refine hs_if1 (c := .eq) (t := 127) (f := 123) (by decide +kernel) (show Int32.ofNat 0 = 0 by decide) ?_
              refine hs_k (x := Int32.ofNat 0) (p := 128) (by decide +kernel) ?_
              refine hs_iaddn (p := 129) (by decide +kernel) ?_
              refine ht_put (M := [(7, 8, 8)]) (T := et_TT) (t := 7) (ci := 5) (f := 8) (p := 132) (ty := .int) (by decide +kernel) rfl rfl rfl rfl rfl (by decide +kernel) hH k_rd (hi_nv (by omega) (by omega)) (fun G129 hH f129 e129 => ?_)
              have hf := hf.tr hx0 (f129.wk (by decide +kernel))
              have hx := e129
              refine hs_iload (i := 5) (p := 134) (by decide +kernel) rfl ?_
              refine hs_if1 (c := .eq) (t := 195) (f := 137) (by decide +kernel) (show Int32.ofNat 0 = 0 by decide) ?_
              refine hs_aload (i := 2) (p := 196) (by decide +kernel) rfl ?_
              refine hs_ifnonnull1 (p := 205) (by decide +kernel) ?_
              refine hs_aload (i := 2) (p := 206) (by decide +kernel) rfl ?_
              refine hs_aload (i := 4) (p := 208) (by decide +kernel) rfl ?_
              refine ht_next (ty := .object "KnobEye$Node") (M := [(6, 1, 1)]) (p := 211) (by decide +kernel) rfl rfl hH k_b k_o13 lt_b_o13 (fun G208 hH f208 => ?_)
              have hf := hf.tr hx0 (f208.wk (by decide +kernel))
              have hx := (f208.2 rd 7 k_rd 8 rfl).trans hx
              refine hs_aload (i := 4) (p := 213) (by decide +kernel) rfl ?_
              refine hs_astore (i := 2) (p := 214) (by decide +kernel) (Nat.le_of_ble_eq_true rfl) ?_
              refine hs_aload (i := 0) (p := 215) (by decide +kernel) rfl ?_
              refine hs_gst (v := Value.ref 27) (p := 218) (by decide +kernel) ?_
              have lto_a := (hH.2.2 _ _ k_a).1
              have lto_b := (hH.2.2 _ _ k_b).1
              have lto_o13 := (hH.2.2 _ _ k_o13).1
              have hfo := hf
              refine ht_callv (T := et_TT) (t := 7) (mi := 78) (na := 1) (ci := 5) (lk := 6) (lm := 2) (L0 := eg_en (eg_mL 78) [.ref rd, .ref 27]) (by decide +kernel) rfl hH k_rd rfl rfl rfl rfl rfl (by rw [show eg_mL 78 = 2 from by decide +kernel]; first | done | rfl) ?_
              refine (pp_is hH k_rd hx (by omega) (hH.2.1 _ (by decide)) (by omega)).mono (fun u hu => pz_cb hu (fun K218 G218 v218 x218 f218 hH hA => ?_))
              have hx := (f218.2 rd 7 k_rd 8 rfl).trans hx
              have k_rd := x218 _ _ k_rd
              have k_a := x218 _ _ k_a
              have k_b := x218 _ _ k_b
              have k_o13 := x218 _ _ k_o13
              have k_a66 := x218 _ _ k_a66
              have hf := hf.tr hx0 (f218.wk (by decide +kernel))
              have hx0 := hx0.tr x218
              rcases hA with rfl | ⟨rfl, hi218⟩
              · show et_go none _ 81 221 _ [.int (Int32.ofNat 0)] _ (ck + 1) (sk + 6) _
                refine hs_if0 (c := .ne) (t := 227) (f := 224) (by decide +kernel) (show ¬ (¬ Int32.ofNat 0 = 0) by decide) ?_
                refine hs_goto (p := 243) (by decide +kernel) ?_
                refine hs_aload (i := 1) (p := 244) (by decide +kernel) rfl ?_
                refine hs_aret (cn := "KnobEye$Node") (by decide +kernel) ?_
                exact ⟨_, _, _, rfl, hx0, hf, hH, hx, by omega, by omega, (by dsimp only; omega), .inr ⟨_, rfl, k_a, by omega, (by dsimp only; omega)⟩⟩
              · show et_go none _ 81 221 _ [.int (Int32.ofNat 1)] _ (ck + 1) (sk + 6) _
                refine hs_if1 (c := .ne) (t := 227) (f := 224) (by decide +kernel) (show ¬ Int32.ofNat 1 = 0 by decide) ?_
                refine hs_aload (i := 0) (p := 228) (by decide +kernel) rfl ?_
                refine hs_dup1 (p := 229) (by decide +kernel) ?_
                refine ht_getn (T := et_TT) (t := 7) (ci := 5) (f := 8) (p := 232) (by decide +kernel) rfl rfl hH k_rd (fun c229 h229 e229 => ?_)
                have q229 : c229 = (c115 + 0) := hb_cc e229 hx (by omega) (by omega)
                refine hs_k (x := Int32.ofNat 1) (p := 233) (by decide +kernel) ?_
                refine hs_iaddn (p := 234) (by decide +kernel) ?_
                refine ht_put (M := [(7, 8, 8)]) (T := et_TT) (t := 7) (ci := 5) (f := 8) (p := 237) (ty := .int) (by decide +kernel) rfl rfl rfl rfl rfl (by decide +kernel) hH k_rd (hi_nv (by omega) (by omega)) (fun G234 hH f234 e234 => ?_)
                have hf := hf.tr hx0 (f234.wk (by decide +kernel))
                have hx := e234
                refine hs_iinc1 (i := 3) (p := 240) (by decide +kernel) rfl (Nat.le_of_ble_eq_true rfl) ?_
                refine hs_goto (p := 6) (by decide +kernel) ?_
                show et_go none (d + 2) 81 6 [some (.ref rd), some (.ref a), some (.ref o13), some (.int (Int32.ofNat (i + 1))), some (.ref o13), some (.int (Int32.ofNat 0))] [] _ _ _ _
                exact ih (400 - (i + 1)) (by omega) (i := (i + 1)) hH hx0 hf k_rd hx k_a k_o13 (by omega) (by omega) (by omega) (by omega) (by omega) rfl
            · show et_go none _ 81 111 _ [.int (Int32.ofNat 1)] _ (ck + 1) (sk + 6) _
              refine hs_istore (i := 5) (p := 113) (by decide +kernel) (Nat.le_of_ble_eq_true rfl) ?_
              refine hs_aload (i := 0) (p := 114) (by decide +kernel) rfl ?_
              refine hs_dup1 (p := 115) (by decide +kernel) ?_
              refine ht_getn (T := et_TT) (t := 7) (ci := 5) (f := 8) (p := 118) (by decide +kernel) rfl rfl hH k_rd (fun c115 h115 e115 => ?_)
              have q115 : c115 = (c96 + 1) := hb_cc e115 hx (by omega) (by omega)
              refine hs_iload (i := 5) (p := 120) (by decide +kernel) rfl ?_
              refine hs_if0 (c := .eq) (t := 127) (f := 123) (by decide +kernel) (show ¬ (Int32.ofNat 1 = 0) by decide) ?_
              refine hs_k (x := Int32.ofNat 1) (p := 124) (by decide +kernel) ?_
              refine hs_goto (p := 128) (by decide +kernel) ?_
              refine hs_iaddn (p := 129) (by decide +kernel) ?_
              refine ht_put (M := [(7, 8, 8)]) (T := et_TT) (t := 7) (ci := 5) (f := 8) (p := 132) (ty := .int) (by decide +kernel) rfl rfl rfl rfl rfl (by decide +kernel) hH k_rd (hi_nv (by omega) (by omega)) (fun G129 hH f129 e129 => ?_)
              have hf := hf.tr hx0 (f129.wk (by decide +kernel))
              have hx := e129
              refine hs_iload (i := 5) (p := 134) (by decide +kernel) rfl ?_
              refine hs_if0 (c := .eq) (t := 195) (f := 137) (by decide +kernel) (show ¬ (Int32.ofNat 1 = 0) by decide) ?_
              refine hs_aload (i := 4) (p := 139) (by decide +kernel) rfl ?_
              refine hs_aload (i := 0) (p := 140) (by decide +kernel) rfl ?_
              refine hs_k (x := Int32.ofNat 2) (p := 141) (by decide +kernel) ?_
              have lto_a := (hH.2.2 _ _ k_a).1
              have lto_b := (hH.2.2 _ _ k_b).1
              have lto_o13 := (hH.2.2 _ _ k_o13).1
              have hfo := hf
              refine ht_callv (T := et_TT) (t := 7) (mi := 79) (na := 1) (ci := 5) (lk := 6) (lm := 2) (L0 := eg_en (eg_mL 79) [.ref rd, .int (Int32.ofNat 2)]) (by decide +kernel) rfl hH k_rd rfl rfl rfl rfl rfl (by rw [show eg_mL 79 = 2 from by decide +kernel]; first | done | rfl) ?_
              refine (pp_wh hH k_rd hx (by omega) (by omega)).mono (fun u hu => pz_cb hu (fun K141 G141 v141 x141 f141 hH hA => ?_))
              have hx := (f141.2 rd 7 k_rd 8 rfl).trans hx
              have k_rd := x141 _ _ k_rd
              have k_a := x141 _ _ k_a
              have k_b := x141 _ _ k_b
              have k_o13 := x141 _ _ k_o13
              have k_a66 := x141 _ _ k_a66
              have hf := hf.tr hx0 (f141.wk (by decide +kernel))
              have hx0 := hx0.tr x141
              rcases hA with rfl | ⟨w141, rfl, k_w141, hi141⟩
              · show et_go none _ 81 144 _ [.null, .ref o13] _ (ck + 1) (sk + 6) _
                refine ht_put (M := [(6, 4, 4)]) (T := et_TT) (t := 6) (ci := 4) (f := 4) (p := 147) (ty := (.object "KnobEye$Word")) (by decide +kernel) rfl rfl rfl rfl rfl (by decide +kernel) hH k_o13 (.inl ⟨by decide, rfl⟩) (fun G144 hH f144 e144 => ?_)
                have hf := hf.tr hx0 (f144.wk (by decide +kernel))
                have hx := (f144.2 rd 7 k_rd 8 rfl).trans hx
                refine hs_aload (i := 4) (p := 149) (by decide +kernel) rfl ?_
                refine ht_get (T := et_TT) (t := 6) (ci := 4) (f := 4) (p := 152) (by decide +kernel) rfl rfl rfl hH k_o13 (fun v149 h149 e149 => ?_)
                obtain rfl : v149 = .null := Option.some.inj (e149.symm.trans e144)
                refine hs_ifnonnull0 (p := 155) (by decide +kernel) ?_
                refine hs_aload (i := 0) (p := 156) (by decide +kernel) rfl ?_
                have lto_a := (hH.2.2 _ _ k_a).1
                have lto_b := (hH.2.2 _ _ k_b).1
                have lto_o13 := (hH.2.2 _ _ k_o13).1
                have hfo := hf
                refine ht_callv (T := et_TT) (t := 7) (mi := 76) (na := 0) (ci := 5) (lk := 6) (lm := 1) (L0 := eg_en (eg_mL 76) [.ref rd]) (by decide +kernel) rfl hH k_rd rfl rfl rfl rfl rfl (by rw [show eg_mL 76 = 1 from by decide +kernel]; first | done | rfl) ?_
                refine (ep_c4 (K141, [], G144) [.ref rd] _ hH (by omega) rfl (ht_ac (.inr ⟨by decide, _, rfl, k_rd⟩) ht_an)).mono (fun u hu => hs_cbv hu (fun v156 K156 G156 c156 s156 x156 f156 hH hv156 cl156 sl156 => ?_))
                have hx := (f156.2 rd 7 k_rd 8 rfl).trans hx
                have k_rd := x156 _ _ k_rd
                have k_a := x156 _ _ k_a
                have k_b := x156 _ _ k_b
                have k_o13 := x156 _ _ k_o13
                have k_a66 := x156 _ _ k_a66
                have hf := hf.tr hx0 (f156.wk (by decide +kernel))
                have hx0 := hx0.tr x156
                obtain rfl : c156 = 0 := Nat.le_zero.mp cl156
                obtain rfl : s156 = 0 := Nat.le_zero.mp sl156
                obtain rfl : v156 = .null := hv156.elim (fun h => h.2) (fun h => absurd h.1 (by decide))
                show et_go none _ 81 159 _ [.null] _ (ck + 1) (sk + 6) _
                refine hs_aretN (cn := "KnobEye$Node") (by decide +kernel) ?_
                exact ⟨_, _, _, rfl, hx0, hf, hH, hx, by omega, by omega, (by dsimp only; omega), .inl ⟨rfl, (by dsimp only; omega)⟩⟩
              · show et_go none _ 81 144 _ [.ref w141, .ref o13] _ (ck + 1) (sk + 6) _
                refine ht_put (M := [(6, 4, 4)]) (T := et_TT) (t := 6) (ci := 4) (f := 4) (p := 147) (ty := (.object "KnobEye$Word")) (by decide +kernel) rfl rfl rfl rfl rfl (by decide +kernel) hH k_o13 (.inr ⟨by decide, _, rfl, k_w141⟩) (fun G144 hH f144 e144 => ?_)
                have hf := hf.tr hx0 (f144.wk (by decide +kernel))
                have hx := (f144.2 rd 7 k_rd 8 rfl).trans hx
                refine hs_aload (i := 4) (p := 149) (by decide +kernel) rfl ?_
                refine ht_get (T := et_TT) (t := 6) (ci := 4) (f := 4) (p := 152) (by decide +kernel) rfl rfl rfl hH k_o13 (fun v149 h149 e149 => ?_)
                obtain rfl : v149 = .ref w141 := Option.some.inj (e149.symm.trans e144)
                refine hs_ifnonnull1 (p := 160) (by decide +kernel) ?_
                refine hs_aload (i := 0) (p := 161) (by decide +kernel) rfl ?_
                refine hs_dup1 (p := 162) (by decide +kernel) ?_
                refine ht_getn (T := et_TT) (t := 7) (ci := 5) (f := 3) (p := 165) (by decide +kernel) rfl rfl hH k_rd (fun c162 h162 e162 => ?_)
                refine hs_aload (i := 4) (p := 167) (by decide +kernel) rfl ?_
                refine ht_get (T := et_TT) (t := 6) (ci := 4) (f := 4) (p := 170) (by decide +kernel) rfl rfl rfl hH k_o13 (fun v167 h167 e167 => ?_)
                obtain rfl : v167 = .ref w141 := Option.some.inj (e167.symm.trans e144)
                refine hs_gst (v := Value.ref 17) (p := 173) (by decide +kernel) ?_
                refine hs_acm (c := .ne) (t := 180) (f := 176) (by decide +kernel) (hi_ca hH k_w141 (by decide)) (by decide +kernel) ?_ ?_
                · refine hs_k (x := Int32.ofNat 0) (p := 181) (by decide +kernel) ?_
                  refine hs_ior (p := 182) (by decide +kernel) ?_
                  obtain ⟨m181, hm181, hq181⟩ := hi_or (a := c162) (b := 0) (by omega) (by omega)
                  rw [hq181]
                  refine ht_put (M := [(7, 3, 3)]) (T := et_TT) (t := 7) (ci := 5) (f := 3) (p := 185) (ty := .boolean) (by decide +kernel) rfl rfl rfl (hi_fz (by omega)) rfl (by decide +kernel) hH k_rd (hi_nv (by omega) (by omega)) (fun G182 hH f182 e182 => ?_)
                  have hf := hf.tr hx0 (f182.wk (by decide +kernel))
                  have hx := (f182.2 rd 7 k_rd 8 rfl).trans hx
                  refine hs_aload (i := 0) (p := 186) (by decide +kernel) rfl ?_
                  refine hs_dup1 (p := 187) (by decide +kernel) ?_
                  refine ht_getn (T := et_TT) (t := 7) (ci := 5) (f := 8) (p := 190) (by decide +kernel) rfl rfl hH k_rd (fun c187 h187 e187 => ?_)
                  have q187 : c187 = (c115 + 1) := hb_cc e187 hx (by omega) (by omega)
                  refine hs_k (x := Int32.ofNat 1) (p := 191) (by decide +kernel) ?_
                  refine hs_iaddn (p := 192) (by decide +kernel) ?_
                  refine ht_put (M := [(7, 8, 8)]) (T := et_TT) (t := 7) (ci := 5) (f := 8) (p := 195) (ty := .int) (by decide +kernel) rfl rfl rfl rfl rfl (by decide +kernel) hH k_rd (hi_nv (by omega) (by omega)) (fun G192 hH f192 e192 => ?_)
                  have hf := hf.tr hx0 (f192.wk (by decide +kernel))
                  have hx := e192
                  refine hs_aload (i := 2) (p := 196) (by decide +kernel) rfl ?_
                  refine hs_ifnonnull1 (p := 205) (by decide +kernel) ?_
                  refine hs_aload (i := 2) (p := 206) (by decide +kernel) rfl ?_
                  refine hs_aload (i := 4) (p := 208) (by decide +kernel) rfl ?_
                  refine ht_next (ty := .object "KnobEye$Node") (M := [(6, 1, 1)]) (p := 211) (by decide +kernel) rfl rfl hH k_b k_o13 lt_b_o13 (fun G208 hH f208 => ?_)
                  have hf := hf.tr hx0 (f208.wk (by decide +kernel))
                  have hx := (f208.2 rd 7 k_rd 8 rfl).trans hx
                  refine hs_aload (i := 4) (p := 213) (by decide +kernel) rfl ?_
                  refine hs_astore (i := 2) (p := 214) (by decide +kernel) (Nat.le_of_ble_eq_true rfl) ?_
                  refine hs_aload (i := 0) (p := 215) (by decide +kernel) rfl ?_
                  refine hs_gst (v := Value.ref 27) (p := 218) (by decide +kernel) ?_
                  have lto_a := (hH.2.2 _ _ k_a).1
                  have lto_b := (hH.2.2 _ _ k_b).1
                  have lto_o13 := (hH.2.2 _ _ k_o13).1
                  have hfo := hf
                  refine ht_callv (T := et_TT) (t := 7) (mi := 78) (na := 1) (ci := 5) (lk := 6) (lm := 2) (L0 := eg_en (eg_mL 78) [.ref rd, .ref 27]) (by decide +kernel) rfl hH k_rd rfl rfl rfl rfl rfl (by rw [show eg_mL 78 = 2 from by decide +kernel]; first | done | rfl) ?_
                  refine (pp_is hH k_rd hx (by omega) (hH.2.1 _ (by decide)) (by omega)).mono (fun u hu => pz_cb hu (fun K218 G218 v218 x218 f218 hH hA => ?_))
                  have hx := (f218.2 rd 7 k_rd 8 rfl).trans hx
                  have k_rd := x218 _ _ k_rd
                  have k_a := x218 _ _ k_a
                  have k_b := x218 _ _ k_b
                  have k_o13 := x218 _ _ k_o13
                  have k_a66 := x218 _ _ k_a66
                  have k_w141 := x218 _ _ k_w141
                  have hf := hf.tr hx0 (f218.wk (by decide +kernel))
                  have hx0 := hx0.tr x218
                  rcases hA with rfl | ⟨rfl, hi218⟩
                  · show et_go none _ 81 221 _ [.int (Int32.ofNat 0)] _ (ck + 1) (sk + 6) _
                    refine hs_if0 (c := .ne) (t := 227) (f := 224) (by decide +kernel) (show ¬ (¬ Int32.ofNat 0 = 0) by decide) ?_
                    refine hs_goto (p := 243) (by decide +kernel) ?_
                    refine hs_aload (i := 1) (p := 244) (by decide +kernel) rfl ?_
                    refine hs_aret (cn := "KnobEye$Node") (by decide +kernel) ?_
                    exact ⟨_, _, _, rfl, hx0, hf, hH, hx, by omega, by omega, (by dsimp only; omega), .inr ⟨_, rfl, k_a, by omega, (by dsimp only; omega)⟩⟩
                  · show et_go none _ 81 221 _ [.int (Int32.ofNat 1)] _ (ck + 1) (sk + 6) _
                    refine hs_if1 (c := .ne) (t := 227) (f := 224) (by decide +kernel) (show ¬ Int32.ofNat 1 = 0 by decide) ?_
                    refine hs_aload (i := 0) (p := 228) (by decide +kernel) rfl ?_
                    refine hs_dup1 (p := 229) (by decide +kernel) ?_
                    refine ht_getn (T := et_TT) (t := 7) (ci := 5) (f := 8) (p := 232) (by decide +kernel) rfl rfl hH k_rd (fun c229 h229 e229 => ?_)
                    have q229 : c229 = (c187 + 1) := hb_cc e229 hx (by omega) (by omega)
                    refine hs_k (x := Int32.ofNat 1) (p := 233) (by decide +kernel) ?_
                    refine hs_iaddn (p := 234) (by decide +kernel) ?_
                    refine ht_put (M := [(7, 8, 8)]) (T := et_TT) (t := 7) (ci := 5) (f := 8) (p := 237) (ty := .int) (by decide +kernel) rfl rfl rfl rfl rfl (by decide +kernel) hH k_rd (hi_nv (by omega) (by omega)) (fun G234 hH f234 e234 => ?_)
                    have hf := hf.tr hx0 (f234.wk (by decide +kernel))
                    have hx := e234
                    refine hs_iinc1 (i := 3) (p := 240) (by decide +kernel) rfl (Nat.le_of_ble_eq_true rfl) ?_
                    refine hs_goto (p := 6) (by decide +kernel) ?_
                    show et_go none (d + 2) 81 6 [some (.ref rd), some (.ref a), some (.ref o13), some (.int (Int32.ofNat (i + 1))), some (.ref o13), some (.int (Int32.ofNat 1))] [] _ _ _ _
                    exact ih (400 - (i + 1)) (by omega) (i := (i + 1)) hH hx0 hf k_rd hx k_a k_o13 (by omega) (by omega) (by omega) (by omega) (by omega) rfl
                · refine hs_k (x := Int32.ofNat 1) (p := 177) (by decide +kernel) ?_
                  refine hs_goto (p := 181) (by decide +kernel) ?_
                  refine hs_ior (p := 182) (by decide +kernel) ?_
                  obtain ⟨m181, hm181, hq181⟩ := hi_or (a := c162) (b := 1) (by omega) (by omega)
                  rw [hq181]
                  refine ht_put (M := [(7, 3, 3)]) (T := et_TT) (t := 7) (ci := 5) (f := 3) (p := 185) (ty := .boolean) (by decide +kernel) rfl rfl rfl (hi_fz (by omega)) rfl (by decide +kernel) hH k_rd (hi_nv (by omega) (by omega)) (fun G182 hH f182 e182 => ?_)
                  have hf := hf.tr hx0 (f182.wk (by decide +kernel))
                  have hx := (f182.2 rd 7 k_rd 8 rfl).trans hx
                  refine hs_aload (i := 0) (p := 186) (by decide +kernel) rfl ?_
                  refine hs_dup1 (p := 187) (by decide +kernel) ?_
                  refine ht_getn (T := et_TT) (t := 7) (ci := 5) (f := 8) (p := 190) (by decide +kernel) rfl rfl hH k_rd (fun c187 h187 e187 => ?_)
                  have q187 : c187 = (c115 + 1) := hb_cc e187 hx (by omega) (by omega)
                  refine hs_k (x := Int32.ofNat 1) (p := 191) (by decide +kernel) ?_
                  refine hs_iaddn (p := 192) (by decide +kernel) ?_
                  refine ht_put (M := [(7, 8, 8)]) (T := et_TT) (t := 7) (ci := 5) (f := 8) (p := 195) (ty := .int) (by decide +kernel) rfl rfl rfl rfl rfl (by decide +kernel) hH k_rd (hi_nv (by omega) (by omega)) (fun G192 hH f192 e192 => ?_)
                  have hf := hf.tr hx0 (f192.wk (by decide +kernel))
                  have hx := e192
                  refine hs_aload (i := 2) (p := 196) (by decide +kernel) rfl ?_
                  refine hs_ifnonnull1 (p := 205) (by decide +kernel) ?_
                  refine hs_aload (i := 2) (p := 206) (by decide +kernel) rfl ?_
                  refine hs_aload (i := 4) (p := 208) (by decide +kernel) rfl ?_
                  refine ht_next (ty := .object "KnobEye$Node") (M := [(6, 1, 1)]) (p := 211) (by decide +kernel) rfl rfl hH k_b k_o13 lt_b_o13 (fun G208 hH f208 => ?_)
                  have hf := hf.tr hx0 (f208.wk (by decide +kernel))
                  have hx := (f208.2 rd 7 k_rd 8 rfl).trans hx
                  refine hs_aload (i := 4) (p := 213) (by decide +kernel) rfl ?_
                  refine hs_astore (i := 2) (p := 214) (by decide +kernel) (Nat.le_of_ble_eq_true rfl) ?_
                  refine hs_aload (i := 0) (p := 215) (by decide +kernel) rfl ?_
                  refine hs_gst (v := Value.ref 27) (p := 218) (by decide +kernel) ?_
                  have lto_a := (hH.2.2 _ _ k_a).1
                  have lto_b := (hH.2.2 _ _ k_b).1
                  have lto_o13 := (hH.2.2 _ _ k_o13).1
                  have hfo := hf
                  refine ht_callv (T := et_TT) (t := 7) (mi := 78) (na := 1) (ci := 5) (lk := 6) (lm := 2) (L0 := eg_en (eg_mL 78) [.ref rd, .ref 27]) (by decide +kernel) rfl hH k_rd rfl rfl rfl rfl rfl (by rw [show eg_mL 78 = 2 from by decide +kernel]; first | done | rfl) ?_
                  refine (pp_is hH k_rd hx (by omega) (hH.2.1 _ (by decide)) (by omega)).mono (fun u hu => pz_cb hu (fun K218 G218 v218 x218 f218 hH hA => ?_))
                  have hx := (f218.2 rd 7 k_rd 8 rfl).trans hx
                  have k_rd := x218 _ _ k_rd
                  have k_a := x218 _ _ k_a
                  have k_b := x218 _ _ k_b
                  have k_o13 := x218 _ _ k_o13
                  have k_a66 := x218 _ _ k_a66
                  have k_w141 := x218 _ _ k_w141
                  have hf := hf.tr hx0 (f218.wk (by decide +kernel))
                  have hx0 := hx0.tr x218
                  rcases hA with rfl | ⟨rfl, hi218⟩
                  · show et_go none _ 81 221 _ [.int (Int32.ofNat 0)] _ (ck + 1) (sk + 6) _
                    refine hs_if0 (c := .ne) (t := 227) (f := 224) (by decide +kernel) (show ¬ (¬ Int32.ofNat 0 = 0) by decide) ?_
                    refine hs_goto (p := 243) (by decide +kernel) ?_
                    refine hs_aload (i := 1) (p := 244) (by decide +kernel) rfl ?_
                    refine hs_aret (cn := "KnobEye$Node") (by decide +kernel) ?_
                    exact ⟨_, _, _, rfl, hx0, hf, hH, hx, by omega, by omega, (by dsimp only; omega), .inr ⟨_, rfl, k_a, by omega, (by dsimp only; omega)⟩⟩
                  · show et_go none _ 81 221 _ [.int (Int32.ofNat 1)] _ (ck + 1) (sk + 6) _
                    refine hs_if1 (c := .ne) (t := 227) (f := 224) (by decide +kernel) (show ¬ Int32.ofNat 1 = 0 by decide) ?_
                    refine hs_aload (i := 0) (p := 228) (by decide +kernel) rfl ?_
                    refine hs_dup1 (p := 229) (by decide +kernel) ?_
                    refine ht_getn (T := et_TT) (t := 7) (ci := 5) (f := 8) (p := 232) (by decide +kernel) rfl rfl hH k_rd (fun c229 h229 e229 => ?_)
                    have q229 : c229 = (c187 + 1) := hb_cc e229 hx (by omega) (by omega)
                    refine hs_k (x := Int32.ofNat 1) (p := 233) (by decide +kernel) ?_
                    refine hs_iaddn (p := 234) (by decide +kernel) ?_
                    refine ht_put (M := [(7, 8, 8)]) (T := et_TT) (t := 7) (ci := 5) (f := 8) (p := 237) (ty := .int) (by decide +kernel) rfl rfl rfl rfl rfl (by decide +kernel) hH k_rd (hi_nv (by omega) (by omega)) (fun G234 hH f234 e234 => ?_)
                    have hf := hf.tr hx0 (f234.wk (by decide +kernel))
                    have hx := e234
                    refine hs_iinc1 (i := 3) (p := 240) (by decide +kernel) rfl (Nat.le_of_ble_eq_true rfl) ?_
                    refine hs_goto (p := 6) (by decide +kernel) ?_
                    show et_go none (d + 2) 81 6 [some (.ref rd), some (.ref a), some (.ref o13), some (.int (Int32.ofNat (i + 1))), some (.ref o13), some (.int (Int32.ofNat 1))] [] _ _ _ _
                    exact ih (400 - (i + 1)) (by omega) (i := (i + 1)) hH hx0 hf k_rd hx k_a k_o13 (by omega) (by omega) (by omega) (by omega) (by omega) rfl
          · refine hs_aload (i := 0) (p := 90) (by decide +kernel) rfl ?_
            have lto_a := (hH.2.2 _ _ k_a).1
            have lto_b := (hH.2.2 _ _ k_b).1
            have lto_o13 := (hH.2.2 _ _ k_o13).1
            have hfo := hf
            refine ht_callv (T := et_TT) (t := 7) (mi := 76) (na := 0) (ci := 5) (lk := 6) (lm := 1) (L0 := eg_en (eg_mL 76) [.ref rd]) (by decide +kernel) rfl hH k_rd rfl rfl rfl rfl rfl (by rw [show eg_mL 76 = 1 from by decide +kernel]; first | done | rfl) ?_
            refine (ep_c4 (K34, [], G78) [.ref rd] _ hH (by omega) rfl (ht_ac (.inr ⟨by decide, _, rfl, k_rd⟩) ht_an)).mono (fun u hu => hs_cbv hu (fun v90 K90 G90 c90 s90 x90 f90 hH hv90 cl90 sl90 => ?_))
            have hx := (f90.2 rd 7 k_rd 8 rfl).trans hx
            have k_rd := x90 _ _ k_rd
            have k_a := x90 _ _ k_a
            have k_b := x90 _ _ k_b
            have k_o13 := x90 _ _ k_o13
            have k_a66 := x90 _ _ k_a66
            have hf := hf.tr hx0 (f90.wk (by decide +kernel))
            have hx0 := hx0.tr x90
            obtain rfl : c90 = 0 := Nat.le_zero.mp cl90
            obtain rfl : s90 = 0 := Nat.le_zero.mp sl90
            obtain rfl : v90 = .null := hv90.elim (fun h => h.2) (fun h => absurd h.1 (by decide))
            show et_go none _ 81 93 _ [.null] _ (ck + 1) (sk + 6) _
            refine hs_aretN (cn := "KnobEye$Node") (by decide +kernel) ?_
            exact ⟨_, _, _, rfl, hx0, hf, hH, hx, by omega, by omega, (by dsimp only; omega), .inl ⟨rfl, (by dsimp only; omega)⟩⟩
theorem pp_sum (hH : et_H et_TT K G) (k_rd : K rd = some 7) (hx : pp_at G rd x) (hxl : x ≤ 401) (hd : 2 ≤ d2) : et_go none d2 81 0 (eg_en (eg_mL 81) [.ref rd]) [] G 0 0 (pp_Z 0 K G rd x) := by
  obtain ⟨d, rfl⟩ : ∃ d, d2 = d + 2 := ⟨d2 - 2, by omega⟩
  have hx0 : et_ex K K := et_ex.rf
  have hf : et_fr pp_M K G G := et_fr.rf
  rw [show eg_mL 81 = 6 from by decide +kernel]
  show et_go none (d + 2) 81 0 [some (.ref rd), none, none, none, none, none] [] G 0 0 _
  refine hs_nul (p := 1) (by decide +kernel) ?_
  refine hs_astore0 (i := 1) (p := 2) (by decide +kernel) (Nat.le_of_ble_eq_true rfl) ?_
  refine hs_nul (p := 3) (by decide +kernel) ?_
  refine hs_astore0 (i := 2) (p := 4) (by decide +kernel) (Nat.le_of_ble_eq_true rfl) ?_
  refine hs_k (x := Int32.ofNat 0) (p := 5) (by decide +kernel) ?_
  refine hs_istore (i := 3) (p := 6) (by decide +kernel) (Nat.le_of_ble_eq_true rfl) ?_
  refine hs_iload (i := 3) (p := 7) (by decide +kernel) rfl ?_
  refine hs_k (x := Int32.ofNat 400) (p := 10) (by decide +kernel) ?_
  refine hs_br2n (c := .ge) (t := 243) (f := 13) (by decide +kernel) (by omega) (by omega) (fun h => absurd h (show ¬ (400 ≤ 0) by decide)) (fun _ => ?_)
  refine ht_newN (p := 16) (by decide +kernel) (by omega) (by omega) hH (fun K13 G13 o13 x13 f13 hH k_o13 ge_o13 lt13 => ?_)
  have hx := (f13.2 rd 7 k_rd 8 rfl).trans hx
  have k_rd := x13 _ _ k_rd
  have ge_o13 := Nat.le_trans hf.1 ge_o13
  have hf := hf.tr hx0 (f13.wk (by decide +kernel))
  have hx0 := hx0.tr x13
  refine hs_dup1 (p := 17) (by decide +kernel) ?_
  refine hs_k (x := Int32.ofNat 6) (p := 19) (by decide +kernel) ?_
  have lto_o13 := (hH.2.2 _ _ k_o13).1
  have hfo := hf
  refine hs_callp (mi := 61) (na := 1) (lk := 6) (lm := 2) (L0 := eg_en (eg_mL 61) [.ref o13, .int (Int32.ofNat 6)]) (by decide +kernel) rfl rfl rfl rfl rfl (by rw [show eg_mL 61 = 2 from by decide +kernel]; first | done | rfl) ?_
  refine (hc_nod (K13, [], G13) [.ref o13, .int (Int32.ofNat 6)] _ hH (by omega) rfl (ht_ac (.inr ⟨by decide, _, rfl, k_o13⟩) (ht_ac hi_any ht_an))).mono (fun u hu => hs_cbn hu (fun K19 G19 c19 s19 x19 f19 hH cl19 sl19 => ?_))
  have hx := (f19.2 rd 7 k_rd 8 rfl).trans hx
  have k_rd := x19 _ _ k_rd
  have k_o13 := x19 _ _ k_o13
  have hf := hf.tr hx0 (f19.wk (by decide +kernel))
  have hx0 := hx0.tr x19
  obtain rfl : c19 = 0 := Nat.le_zero.mp cl19
  obtain rfl : s19 = 0 := Nat.le_zero.mp sl19
  show et_go none _ 81 22 _ [.ref o13] _ (0 + 1) (0 + 6) _
  refine hs_astore (i := 4) (p := 24) (by decide +kernel) (Nat.le_of_ble_eq_true rfl) ?_
  refine hs_aload (i := 4) (p := 26) (by decide +kernel) rfl ?_
  refine hs_k (x := Int32.ofNat 1) (p := 27) (by decide +kernel) ?_
  refine ht_put (M := [(6, 5, 5)]) (T := et_TT) (t := 6) (ci := 4) (f := 5) (p := 30) (ty := .int) (by decide +kernel) rfl rfl rfl rfl rfl (by decide +kernel) hH k_o13 hi_any (fun G27 hH f27 e27 => ?_)
  have hf := hf.tr hx0 (f27.wk (by decide +kernel))
  have hx := (f27.2 rd 7 k_rd 8 rfl).trans hx
  refine hs_aload (i := 0) (p := 31) (by decide +kernel) rfl ?_
  refine hs_gst (v := Value.ref 33) (p := 34) (by decide +kernel) ?_
  have lto_o13 := (hH.2.2 _ _ k_o13).1
  have hfo := hf
  refine ht_callv (T := et_TT) (t := 7) (mi := 78) (na := 1) (ci := 5) (lk := 6) (lm := 2) (L0 := eg_en (eg_mL 78) [.ref rd, .ref 33]) (by decide +kernel) rfl hH k_rd rfl rfl rfl rfl rfl (by rw [show eg_mL 78 = 2 from by decide +kernel]; first | done | rfl) ?_
  refine (pp_is hH k_rd hx (by omega) (hH.2.1 _ (by decide)) (by omega)).mono (fun u hu => pz_cb hu (fun K34 G34 v34 x34 f34 hH hA => ?_))
  have hx := (f34.2 rd 7 k_rd 8 rfl).trans hx
  have k_rd := x34 _ _ k_rd
  have k_o13 := x34 _ _ k_o13
  have hf := hf.tr hx0 (f34.wk (by decide +kernel))
  have hx0 := hx0.tr x34
  rcases hA with rfl | ⟨rfl, hi34⟩
  · show et_go none _ 81 37 _ [.int (Int32.ofNat 0)] _ (0 + 1) (0 + 6) _
    refine hs_if0 (c := .ne) (t := 44) (f := 40) (by decide +kernel) (show ¬ (¬ Int32.ofNat 0 = 0) by decide) ?_
    refine hs_k (x := Int32.ofNat 1) (p := 41) (by decide +kernel) ?_
    refine hs_goto (p := 45) (by decide +kernel) ?_
    refine hs_istore (i := 5) (p := 47) (by decide +kernel) (Nat.le_of_ble_eq_true rfl) ?_
    refine hs_iload (i := 5) (p := 49) (by decide +kernel) rfl ?_
    refine hs_if1 (c := .ne) (t := 132) (f := 52) (by decide +kernel) (show ¬ Int32.ofNat 1 = 0 by decide) ?_
    refine hs_iload (i := 5) (p := 134) (by decide +kernel) rfl ?_
    refine hs_if0 (c := .eq) (t := 195) (f := 137) (by decide +kernel) (show ¬ (Int32.ofNat 1 = 0) by decide) ?_
    refine hs_aload (i := 4) (p := 139) (by decide +kernel) rfl ?_
    refine hs_aload (i := 0) (p := 140) (by decide +kernel) rfl ?_
    refine hs_k (x := Int32.ofNat 2) (p := 141) (by decide +kernel) ?_
    have lto_o13 := (hH.2.2 _ _ k_o13).1
    have hfo := hf
    refine ht_callv (T := et_TT) (t := 7) (mi := 79) (na := 1) (ci := 5) (lk := 6) (lm := 2) (L0 := eg_en (eg_mL 79) [.ref rd, .int (Int32.ofNat 2)]) (by decide +kernel) rfl hH k_rd rfl rfl rfl rfl rfl (by rw [show eg_mL 79 = 2 from by decide +kernel]; first | done | rfl) ?_
    refine (pp_wh hH k_rd hx (by omega) (by omega)).mono (fun u hu => pz_cb hu (fun K141 G141 v141 x141 f141 hH hA => ?_))
    have hx := (f141.2 rd 7 k_rd 8 rfl).trans hx
    have k_rd := x141 _ _ k_rd
    have k_o13 := x141 _ _ k_o13
    have hf := hf.tr hx0 (f141.wk (by decide +kernel))
    have hx0 := hx0.tr x141
    rcases hA with rfl | ⟨w141, rfl, k_w141, hi141⟩
    · show et_go none _ 81 144 _ [.null, .ref o13] _ (0 + 1) (0 + 6) _
      refine ht_put (M := [(6, 4, 4)]) (T := et_TT) (t := 6) (ci := 4) (f := 4) (p := 147) (ty := (.object "KnobEye$Word")) (by decide +kernel) rfl rfl rfl rfl rfl (by decide +kernel) hH k_o13 (.inl ⟨by decide, rfl⟩) (fun G144 hH f144 e144 => ?_)
      have hf := hf.tr hx0 (f144.wk (by decide +kernel))
      have hx := (f144.2 rd 7 k_rd 8 rfl).trans hx
      refine hs_aload (i := 4) (p := 149) (by decide +kernel) rfl ?_
      refine ht_get (T := et_TT) (t := 6) (ci := 4) (f := 4) (p := 152) (by decide +kernel) rfl rfl rfl hH k_o13 (fun v149 h149 e149 => ?_)
      obtain rfl : v149 = .null := Option.some.inj (e149.symm.trans e144)
      refine hs_ifnonnull0 (p := 155) (by decide +kernel) ?_
      refine hs_aload (i := 0) (p := 156) (by decide +kernel) rfl ?_
      have lto_o13 := (hH.2.2 _ _ k_o13).1
      have hfo := hf
      refine ht_callv (T := et_TT) (t := 7) (mi := 76) (na := 0) (ci := 5) (lk := 6) (lm := 1) (L0 := eg_en (eg_mL 76) [.ref rd]) (by decide +kernel) rfl hH k_rd rfl rfl rfl rfl rfl (by rw [show eg_mL 76 = 1 from by decide +kernel]; first | done | rfl) ?_
      refine (ep_c4 (K141, [], G144) [.ref rd] _ hH (by omega) rfl (ht_ac (.inr ⟨by decide, _, rfl, k_rd⟩) ht_an)).mono (fun u hu => hs_cbv hu (fun v156 K156 G156 c156 s156 x156 f156 hH hv156 cl156 sl156 => ?_))
      have hx := (f156.2 rd 7 k_rd 8 rfl).trans hx
      have k_rd := x156 _ _ k_rd
      have k_o13 := x156 _ _ k_o13
      have hf := hf.tr hx0 (f156.wk (by decide +kernel))
      have hx0 := hx0.tr x156
      obtain rfl : c156 = 0 := Nat.le_zero.mp cl156
      obtain rfl : s156 = 0 := Nat.le_zero.mp sl156
      obtain rfl : v156 = .null := hv156.elim (fun h => h.2) (fun h => absurd h.1 (by decide))
      show et_go none _ 81 159 _ [.null] _ (0 + 1) (0 + 6) _
      refine hs_aretN (cn := "KnobEye$Node") (by decide +kernel) ?_
      exact ⟨_, _, _, rfl, hx0, hf, hH, hx, by omega, by omega, (by dsimp only; omega), .inl ⟨rfl, (by dsimp only; omega)⟩⟩
    · show et_go none _ 81 144 _ [.ref w141, .ref o13] _ (0 + 1) (0 + 6) _
      refine ht_put (M := [(6, 4, 4)]) (T := et_TT) (t := 6) (ci := 4) (f := 4) (p := 147) (ty := (.object "KnobEye$Word")) (by decide +kernel) rfl rfl rfl rfl rfl (by decide +kernel) hH k_o13 (.inr ⟨by decide, _, rfl, k_w141⟩) (fun G144 hH f144 e144 => ?_)
      have hf := hf.tr hx0 (f144.wk (by decide +kernel))
      have hx := (f144.2 rd 7 k_rd 8 rfl).trans hx
      refine hs_aload (i := 4) (p := 149) (by decide +kernel) rfl ?_
      refine ht_get (T := et_TT) (t := 6) (ci := 4) (f := 4) (p := 152) (by decide +kernel) rfl rfl rfl hH k_o13 (fun v149 h149 e149 => ?_)
      obtain rfl : v149 = .ref w141 := Option.some.inj (e149.symm.trans e144)
      refine hs_ifnonnull1 (p := 160) (by decide +kernel) ?_
      refine hs_aload (i := 0) (p := 161) (by decide +kernel) rfl ?_
      refine hs_dup1 (p := 162) (by decide +kernel) ?_
      refine ht_getn (T := et_TT) (t := 7) (ci := 5) (f := 3) (p := 165) (by decide +kernel) rfl rfl hH k_rd (fun c162 h162 e162 => ?_)
      refine hs_aload (i := 4) (p := 167) (by decide +kernel) rfl ?_
      refine ht_get (T := et_TT) (t := 6) (ci := 4) (f := 4) (p := 170) (by decide +kernel) rfl rfl rfl hH k_o13 (fun v167 h167 e167 => ?_)
      obtain rfl : v167 = .ref w141 := Option.some.inj (e167.symm.trans e144)
      refine hs_gst (v := Value.ref 17) (p := 173) (by decide +kernel) ?_
      refine hs_acm (c := .ne) (t := 180) (f := 176) (by decide +kernel) (hi_ca hH k_w141 (by decide)) (by decide +kernel) ?_ ?_
      · refine hs_k (x := Int32.ofNat 0) (p := 181) (by decide +kernel) ?_
        refine hs_ior (p := 182) (by decide +kernel) ?_
        obtain ⟨m181, hm181, hq181⟩ := hi_or (a := c162) (b := 0) (by omega) (by omega)
        rw [hq181]
        refine ht_put (M := [(7, 3, 3)]) (T := et_TT) (t := 7) (ci := 5) (f := 3) (p := 185) (ty := .boolean) (by decide +kernel) rfl rfl rfl (hi_fz (by omega)) rfl (by decide +kernel) hH k_rd (hi_nv (by omega) (by omega)) (fun G182 hH f182 e182 => ?_)
        have hf := hf.tr hx0 (f182.wk (by decide +kernel))
        have hx := (f182.2 rd 7 k_rd 8 rfl).trans hx
        refine hs_aload (i := 0) (p := 186) (by decide +kernel) rfl ?_
        refine hs_dup1 (p := 187) (by decide +kernel) ?_
        refine ht_getn (T := et_TT) (t := 7) (ci := 5) (f := 8) (p := 190) (by decide +kernel) rfl rfl hH k_rd (fun c187 h187 e187 => ?_)
        have q187 : c187 = x := hb_cc e187 hx (by omega) (by omega)
        refine hs_k (x := Int32.ofNat 1) (p := 191) (by decide +kernel) ?_
        refine hs_iaddn (p := 192) (by decide +kernel) ?_
        refine ht_put (M := [(7, 8, 8)]) (T := et_TT) (t := 7) (ci := 5) (f := 8) (p := 195) (ty := .int) (by decide +kernel) rfl rfl rfl rfl rfl (by decide +kernel) hH k_rd (hi_nv (by omega) (by omega)) (fun G192 hH f192 e192 => ?_)
        have hf := hf.tr hx0 (f192.wk (by decide +kernel))
        have hx := e192
        refine hs_aload0 (i := 2) (p := 196) (by decide +kernel) rfl ?_
        refine hs_ifnonnull0 (p := 199) (by decide +kernel) ?_
        refine hs_aload (i := 4) (p := 201) (by decide +kernel) rfl ?_
        refine hs_astore (i := 1) (p := 202) (by decide +kernel) (Nat.le_of_ble_eq_true rfl) ?_
        refine hs_goto (p := 211) (by decide +kernel) ?_
        refine hs_aload (i := 4) (p := 213) (by decide +kernel) rfl ?_
        refine hs_astore (i := 2) (p := 214) (by decide +kernel) (Nat.le_of_ble_eq_true rfl) ?_
        refine hs_aload (i := 0) (p := 215) (by decide +kernel) rfl ?_
        refine hs_gst (v := Value.ref 27) (p := 218) (by decide +kernel) ?_
        have lto_o13 := (hH.2.2 _ _ k_o13).1
        have hfo := hf
        refine ht_callv (T := et_TT) (t := 7) (mi := 78) (na := 1) (ci := 5) (lk := 6) (lm := 2) (L0 := eg_en (eg_mL 78) [.ref rd, .ref 27]) (by decide +kernel) rfl hH k_rd rfl rfl rfl rfl rfl (by rw [show eg_mL 78 = 2 from by decide +kernel]; first | done | rfl) ?_
        refine (pp_is hH k_rd hx (by omega) (hH.2.1 _ (by decide)) (by omega)).mono (fun u hu => pz_cb hu (fun K218 G218 v218 x218 f218 hH hA => ?_))
        have hx := (f218.2 rd 7 k_rd 8 rfl).trans hx
        have k_rd := x218 _ _ k_rd
        have k_o13 := x218 _ _ k_o13
        have k_w141 := x218 _ _ k_w141
        have hf := hf.tr hx0 (f218.wk (by decide +kernel))
        have hx0 := hx0.tr x218
        rcases hA with rfl | ⟨rfl, hi218⟩
        · show et_go none _ 81 221 _ [.int (Int32.ofNat 0)] _ (0 + 1) (0 + 6) _
          refine hs_if0 (c := .ne) (t := 227) (f := 224) (by decide +kernel) (show ¬ (¬ Int32.ofNat 0 = 0) by decide) ?_
          refine hs_goto (p := 243) (by decide +kernel) ?_
          refine hs_aload (i := 1) (p := 244) (by decide +kernel) rfl ?_
          refine hs_aret (cn := "KnobEye$Node") (by decide +kernel) ?_
          exact ⟨_, _, _, rfl, hx0, hf, hH, hx, by omega, by omega, (by dsimp only; omega), .inr ⟨_, rfl, k_o13, by omega, (by dsimp only; omega)⟩⟩
        · show et_go none _ 81 221 _ [.int (Int32.ofNat 1)] _ (0 + 1) (0 + 6) _
          refine hs_if1 (c := .ne) (t := 227) (f := 224) (by decide +kernel) (show ¬ Int32.ofNat 1 = 0 by decide) ?_
          refine hs_aload (i := 0) (p := 228) (by decide +kernel) rfl ?_
          refine hs_dup1 (p := 229) (by decide +kernel) ?_
          refine ht_getn (T := et_TT) (t := 7) (ci := 5) (f := 8) (p := 232) (by decide +kernel) rfl rfl hH k_rd (fun c229 h229 e229 => ?_)
          have q229 : c229 = (c187 + 1) := hb_cc e229 hx (by omega) (by omega)
          refine hs_k (x := Int32.ofNat 1) (p := 233) (by decide +kernel) ?_
          refine hs_iaddn (p := 234) (by decide +kernel) ?_
          refine ht_put (M := [(7, 8, 8)]) (T := et_TT) (t := 7) (ci := 5) (f := 8) (p := 237) (ty := .int) (by decide +kernel) rfl rfl rfl rfl rfl (by decide +kernel) hH k_rd (hi_nv (by omega) (by omega)) (fun G234 hH f234 e234 => ?_)
          have hf := hf.tr hx0 (f234.wk (by decide +kernel))
          have hx := e234
          refine hs_iinc1 (i := 3) (p := 240) (by decide +kernel) rfl (Nat.le_of_ble_eq_true rfl) ?_
          refine hs_goto (p := 6) (by decide +kernel) ?_
          show et_go none (d + 2) 81 6 [some (.ref rd), some (.ref o13), some (.ref o13), some (.int (Int32.ofNat (0 + 1))), some (.ref o13), some (.int (Int32.ofNat 1))] [] _ _ _ _
          exact pn_sum (i := (0 + 1)) hH hx0 hf k_rd hx k_o13 ge_o13 k_o13 (by omega) (by omega) (by omega) (by omega) (by omega)
      · refine hs_k (x := Int32.ofNat 1) (p := 177) (by decide +kernel) ?_
        refine hs_goto (p := 181) (by decide +kernel) ?_
        refine hs_ior (p := 182) (by decide +kernel) ?_
        obtain ⟨m181, hm181, hq181⟩ := hi_or (a := c162) (b := 1) (by omega) (by omega)
        rw [hq181]
        refine ht_put (M := [(7, 3, 3)]) (T := et_TT) (t := 7) (ci := 5) (f := 3) (p := 185) (ty := .boolean) (by decide +kernel) rfl rfl rfl (hi_fz (by omega)) rfl (by decide +kernel) hH k_rd (hi_nv (by omega) (by omega)) (fun G182 hH f182 e182 => ?_)
        have hf := hf.tr hx0 (f182.wk (by decide +kernel))
        have hx := (f182.2 rd 7 k_rd 8 rfl).trans hx
        refine hs_aload (i := 0) (p := 186) (by decide +kernel) rfl ?_
        refine hs_dup1 (p := 187) (by decide +kernel) ?_
        refine ht_getn (T := et_TT) (t := 7) (ci := 5) (f := 8) (p := 190) (by decide +kernel) rfl rfl hH k_rd (fun c187 h187 e187 => ?_)
        have q187 : c187 = x := hb_cc e187 hx (by omega) (by omega)
        refine hs_k (x := Int32.ofNat 1) (p := 191) (by decide +kernel) ?_
        refine hs_iaddn (p := 192) (by decide +kernel) ?_
        refine ht_put (M := [(7, 8, 8)]) (T := et_TT) (t := 7) (ci := 5) (f := 8) (p := 195) (ty := .int) (by decide +kernel) rfl rfl rfl rfl rfl (by decide +kernel) hH k_rd (hi_nv (by omega) (by omega)) (fun G192 hH f192 e192 => ?_)
        have hf := hf.tr hx0 (f192.wk (by decide +kernel))
        have hx := e192
        refine hs_aload0 (i := 2) (p := 196) (by decide +kernel) rfl ?_
        refine hs_ifnonnull0 (p := 199) (by decide +kernel) ?_
        refine hs_aload (i := 4) (p := 201) (by decide +kernel) rfl ?_
        refine hs_astore (i := 1) (p := 202) (by decide +kernel) (Nat.le_of_ble_eq_true rfl) ?_
        refine hs_goto (p := 211) (by decide +kernel) ?_
        refine hs_aload (i := 4) (p := 213) (by decide +kernel) rfl ?_
        refine hs_astore (i := 2) (p := 214) (by decide +kernel) (Nat.le_of_ble_eq_true rfl) ?_
        refine hs_aload (i := 0) (p := 215) (by decide +kernel) rfl ?_
        refine hs_gst (v := Value.ref 27) (p := 218) (by decide +kernel) ?_
        have lto_o13 := (hH.2.2 _ _ k_o13).1
        have hfo := hf
        refine ht_callv (T := et_TT) (t := 7) (mi := 78) (na := 1) (ci := 5) (lk := 6) (lm := 2) (L0 := eg_en (eg_mL 78) [.ref rd, .ref 27]) (by decide +kernel) rfl hH k_rd rfl rfl rfl rfl rfl (by rw [show eg_mL 78 = 2 from by decide +kernel]; first | done | rfl) ?_
        refine (pp_is hH k_rd hx (by omega) (hH.2.1 _ (by decide)) (by omega)).mono (fun u hu => pz_cb hu (fun K218 G218 v218 x218 f218 hH hA => ?_))
        have hx := (f218.2 rd 7 k_rd 8 rfl).trans hx
        have k_rd := x218 _ _ k_rd
        have k_o13 := x218 _ _ k_o13
        have k_w141 := x218 _ _ k_w141
        have hf := hf.tr hx0 (f218.wk (by decide +kernel))
        have hx0 := hx0.tr x218
        rcases hA with rfl | ⟨rfl, hi218⟩
        · show et_go none _ 81 221 _ [.int (Int32.ofNat 0)] _ (0 + 1) (0 + 6) _
          refine hs_if0 (c := .ne) (t := 227) (f := 224) (by decide +kernel) (show ¬ (¬ Int32.ofNat 0 = 0) by decide) ?_
          refine hs_goto (p := 243) (by decide +kernel) ?_
          refine hs_aload (i := 1) (p := 244) (by decide +kernel) rfl ?_
          refine hs_aret (cn := "KnobEye$Node") (by decide +kernel) ?_
          exact ⟨_, _, _, rfl, hx0, hf, hH, hx, by omega, by omega, (by dsimp only; omega), .inr ⟨_, rfl, k_o13, by omega, (by dsimp only; omega)⟩⟩
        · show et_go none _ 81 221 _ [.int (Int32.ofNat 1)] _ (0 + 1) (0 + 6) _
          refine hs_if1 (c := .ne) (t := 227) (f := 224) (by decide +kernel) (show ¬ Int32.ofNat 1 = 0 by decide) ?_
          refine hs_aload (i := 0) (p := 228) (by decide +kernel) rfl ?_
          refine hs_dup1 (p := 229) (by decide +kernel) ?_
          refine ht_getn (T := et_TT) (t := 7) (ci := 5) (f := 8) (p := 232) (by decide +kernel) rfl rfl hH k_rd (fun c229 h229 e229 => ?_)
          have q229 : c229 = (c187 + 1) := hb_cc e229 hx (by omega) (by omega)
          refine hs_k (x := Int32.ofNat 1) (p := 233) (by decide +kernel) ?_
          refine hs_iaddn (p := 234) (by decide +kernel) ?_
          refine ht_put (M := [(7, 8, 8)]) (T := et_TT) (t := 7) (ci := 5) (f := 8) (p := 237) (ty := .int) (by decide +kernel) rfl rfl rfl rfl rfl (by decide +kernel) hH k_rd (hi_nv (by omega) (by omega)) (fun G234 hH f234 e234 => ?_)
          have hf := hf.tr hx0 (f234.wk (by decide +kernel))
          have hx := e234
          refine hs_iinc1 (i := 3) (p := 240) (by decide +kernel) rfl (Nat.le_of_ble_eq_true rfl) ?_
          refine hs_goto (p := 6) (by decide +kernel) ?_
          show et_go none (d + 2) 81 6 [some (.ref rd), some (.ref o13), some (.ref o13), some (.int (Int32.ofNat (0 + 1))), some (.ref o13), some (.int (Int32.ofNat 1))] [] _ _ _ _
          exact pn_sum (i := (0 + 1)) hH hx0 hf k_rd hx k_o13 ge_o13 k_o13 (by omega) (by omega) (by omega) (by omega) (by omega)
  · show et_go none _ 81 37 _ [.int (Int32.ofNat 1)] _ (0 + 1) (0 + 6) _
    refine hs_if1 (c := .ne) (t := 44) (f := 40) (by decide +kernel) (show ¬ Int32.ofNat 1 = 0 by decide) ?_
    refine hs_k (x := Int32.ofNat 0) (p := 45) (by decide +kernel) ?_
    refine hs_istore (i := 5) (p := 47) (by decide +kernel) (Nat.le_of_ble_eq_true rfl) ?_
    refine hs_iload (i := 5) (p := 49) (by decide +kernel) rfl ?_
    refine hs_if0 (c := .ne) (t := 132) (f := 52) (by decide +kernel) (show ¬ (¬ Int32.ofNat 0 = 0) by decide) ?_
    refine hs_aload (i := 4) (p := 54) (by decide +kernel) rfl ?_
    refine hs_aload (i := 0) (p := 55) (by decide +kernel) rfl ?_
    refine ht_getn (T := et_TT) (t := 7) (ci := 5) (f := 8) (p := 58) (by decide +kernel) rfl rfl hH k_rd (fun c55 h55 e55 => ?_)
    have q55 : c55 = x := hb_cc e55 hx (by omega) (by omega)
    refine hs_aload (i := 0) (p := 59) (by decide +kernel) rfl ?_
    refine ht_getn (T := et_TT) (t := 7) (ci := 5) (f := 7) (p := 62) (by decide +kernel) rfl rfl hH k_rd (fun c59 h59 e59 => ?_)
    refine hs_br2n (c := .ge) (t := 77) (f := 65) (by decide +kernel) (by omega) (by omega) (fun (c62 : c59 ≤ c55) => ?_) (fun (c62 : ¬ (c59 ≤ c55)) => ?_)
    · refine hs_k (x := (-1)) (p := 78) (by decide +kernel) ?_
      refine ht_put (M := [(6, 5, 5)]) (T := et_TT) (t := 6) (ci := 4) (f := 5) (p := 81) (ty := .int) (by decide +kernel) rfl rfl rfl rfl rfl (by decide +kernel) hH k_o13 hi_any (fun G78 hH f78 e78 => ?_)
      have hf := hf.tr hx0 (f78.wk (by decide +kernel))
      have hx := (f78.2 rd 7 k_rd 8 rfl).trans hx
      refine hs_aload (i := 4) (p := 83) (by decide +kernel) rfl ?_
      refine ht_geti (T := et_TT) (t := 6) (ci := 4) (f := 5) (p := 86) (by decide +kernel) rfl rfl hH k_o13 (fun c83 h83 g83 e83 => ?_)
      refine hs_br1 (c := .ge) (t := 94) (f := 89) (by decide +kernel) (fun (c86 : 0 ≤ c83) => ?_) (fun (c86 : ¬ (0 ≤ c83)) => ?_)
      · refine hs_aload (i := 0) (p := 95) (by decide +kernel) rfl ?_
        refine hs_dup1 (p := 96) (by decide +kernel) ?_
        refine ht_getn (T := et_TT) (t := 7) (ci := 5) (f := 8) (p := 99) (by decide +kernel) rfl rfl hH k_rd (fun c96 h96 e96 => ?_)
        have q96 : c96 = x := hb_cc e96 hx (by omega) (by omega)
        refine hs_k (x := Int32.ofNat 1) (p := 100) (by decide +kernel) ?_
        refine hs_iaddn (p := 101) (by decide +kernel) ?_
        refine ht_put (M := [(7, 8, 8)]) (T := et_TT) (t := 7) (ci := 5) (f := 8) (p := 104) (ty := .int) (by decide +kernel) rfl rfl rfl rfl rfl (by decide +kernel) hH k_rd (hi_nv (by omega) (by omega)) (fun G101 hH f101 e101 => ?_)
        have hf := hf.tr hx0 (f101.wk (by decide +kernel))
        have hx := e101
        refine hs_aload (i := 0) (p := 105) (by decide +kernel) rfl ?_
        refine hs_gst (v := Value.ref 28) (p := 108) (by decide +kernel) ?_
        have lto_o13 := (hH.2.2 _ _ k_o13).1
        have hfo := hf
        refine ht_callv (T := et_TT) (t := 7) (mi := 78) (na := 1) (ci := 5) (lk := 6) (lm := 2) (L0 := eg_en (eg_mL 78) [.ref rd, .ref 28]) (by decide +kernel) rfl hH k_rd rfl rfl rfl rfl rfl (by rw [show eg_mL 78 = 2 from by decide +kernel]; first | done | rfl) ?_
        refine (pp_is hH k_rd hx (by omega) (hH.2.1 _ (by decide)) (by omega)).mono (fun u hu => pz_cb hu (fun K108 G108 v108 x108 f108 hH hA => ?_))
        have hx := (f108.2 rd 7 k_rd 8 rfl).trans hx
        have k_rd := x108 _ _ k_rd
        have k_o13 := x108 _ _ k_o13
        have hf := hf.tr hx0 (f108.wk (by decide +kernel))
        have hx0 := hx0.tr x108
        rcases hA with rfl | ⟨rfl, hi108⟩
        · show et_go none _ 81 111 _ [.int (Int32.ofNat 0)] _ (0 + 1) (0 + 6) _
          refine hs_istore (i := 5) (p := 113) (by decide +kernel) (Nat.le_of_ble_eq_true rfl) ?_
          refine hs_aload (i := 0) (p := 114) (by decide +kernel) rfl ?_
          refine hs_dup1 (p := 115) (by decide +kernel) ?_
          refine ht_getn (T := et_TT) (t := 7) (ci := 5) (f := 8) (p := 118) (by decide +kernel) rfl rfl hH k_rd (fun c115 h115 e115 => ?_)
          have q115 : c115 = (c96 + 1) := hb_cc e115 hx (by omega) (by omega)
          refine hs_iload (i := 5) (p := 120) (by decide +kernel) rfl ?_
          refine hs_if1 (c := .eq) (t := 127) (f := 123) (by decide +kernel) (show Int32.ofNat 0 = 0 by decide) ?_
          refine hs_k (x := Int32.ofNat 0) (p := 128) (by decide +kernel) ?_
          refine hs_iaddn (p := 129) (by decide +kernel) ?_
          refine ht_put (M := [(7, 8, 8)]) (T := et_TT) (t := 7) (ci := 5) (f := 8) (p := 132) (ty := .int) (by decide +kernel) rfl rfl rfl rfl rfl (by decide +kernel) hH k_rd (hi_nv (by omega) (by omega)) (fun G129 hH f129 e129 => ?_)
          have hf := hf.tr hx0 (f129.wk (by decide +kernel))
          have hx := e129
          refine hs_iload (i := 5) (p := 134) (by decide +kernel) rfl ?_
          refine hs_if1 (c := .eq) (t := 195) (f := 137) (by decide +kernel) (show Int32.ofNat 0 = 0 by decide) ?_
          refine hs_aload0 (i := 2) (p := 196) (by decide +kernel) rfl ?_
          refine hs_ifnonnull0 (p := 199) (by decide +kernel) ?_
          refine hs_aload (i := 4) (p := 201) (by decide +kernel) rfl ?_
          refine hs_astore (i := 1) (p := 202) (by decide +kernel) (Nat.le_of_ble_eq_true rfl) ?_
          refine hs_goto (p := 211) (by decide +kernel) ?_
          refine hs_aload (i := 4) (p := 213) (by decide +kernel) rfl ?_
          refine hs_astore (i := 2) (p := 214) (by decide +kernel) (Nat.le_of_ble_eq_true rfl) ?_
          refine hs_aload (i := 0) (p := 215) (by decide +kernel) rfl ?_
          refine hs_gst (v := Value.ref 27) (p := 218) (by decide +kernel) ?_
          have lto_o13 := (hH.2.2 _ _ k_o13).1
          have hfo := hf
          refine ht_callv (T := et_TT) (t := 7) (mi := 78) (na := 1) (ci := 5) (lk := 6) (lm := 2) (L0 := eg_en (eg_mL 78) [.ref rd, .ref 27]) (by decide +kernel) rfl hH k_rd rfl rfl rfl rfl rfl (by rw [show eg_mL 78 = 2 from by decide +kernel]; first | done | rfl) ?_
          refine (pp_is hH k_rd hx (by omega) (hH.2.1 _ (by decide)) (by omega)).mono (fun u hu => pz_cb hu (fun K218 G218 v218 x218 f218 hH hA => ?_))
          have hx := (f218.2 rd 7 k_rd 8 rfl).trans hx
          have k_rd := x218 _ _ k_rd
          have k_o13 := x218 _ _ k_o13
          have hf := hf.tr hx0 (f218.wk (by decide +kernel))
          have hx0 := hx0.tr x218
          rcases hA with rfl | ⟨rfl, hi218⟩
          · show et_go none _ 81 221 _ [.int (Int32.ofNat 0)] _ (0 + 1) (0 + 6) _
            refine hs_if0 (c := .ne) (t := 227) (f := 224) (by decide +kernel) (show ¬ (¬ Int32.ofNat 0 = 0) by decide) ?_
            refine hs_goto (p := 243) (by decide +kernel) ?_
            refine hs_aload (i := 1) (p := 244) (by decide +kernel) rfl ?_
            refine hs_aret (cn := "KnobEye$Node") (by decide +kernel) ?_
            exact ⟨_, _, _, rfl, hx0, hf, hH, hx, by omega, by omega, (by dsimp only; omega), .inr ⟨_, rfl, k_o13, by omega, (by dsimp only; omega)⟩⟩
          · show et_go none _ 81 221 _ [.int (Int32.ofNat 1)] _ (0 + 1) (0 + 6) _
            refine hs_if1 (c := .ne) (t := 227) (f := 224) (by decide +kernel) (show ¬ Int32.ofNat 1 = 0 by decide) ?_
            refine hs_aload (i := 0) (p := 228) (by decide +kernel) rfl ?_
            refine hs_dup1 (p := 229) (by decide +kernel) ?_
            refine ht_getn (T := et_TT) (t := 7) (ci := 5) (f := 8) (p := 232) (by decide +kernel) rfl rfl hH k_rd (fun c229 h229 e229 => ?_)
            have q229 : c229 = (c115 + 0) := hb_cc e229 hx (by omega) (by omega)
            refine hs_k (x := Int32.ofNat 1) (p := 233) (by decide +kernel) ?_
            refine hs_iaddn (p := 234) (by decide +kernel) ?_
            refine ht_put (M := [(7, 8, 8)]) (T := et_TT) (t := 7) (ci := 5) (f := 8) (p := 237) (ty := .int) (by decide +kernel) rfl rfl rfl rfl rfl (by decide +kernel) hH k_rd (hi_nv (by omega) (by omega)) (fun G234 hH f234 e234 => ?_)
            have hf := hf.tr hx0 (f234.wk (by decide +kernel))
            have hx := e234
            refine hs_iinc1 (i := 3) (p := 240) (by decide +kernel) rfl (Nat.le_of_ble_eq_true rfl) ?_
            refine hs_goto (p := 6) (by decide +kernel) ?_
            show et_go none (d + 2) 81 6 [some (.ref rd), some (.ref o13), some (.ref o13), some (.int (Int32.ofNat (0 + 1))), some (.ref o13), some (.int (Int32.ofNat 0))] [] _ _ _ _
            exact pn_sum (i := (0 + 1)) hH hx0 hf k_rd hx k_o13 ge_o13 k_o13 (by omega) (by omega) (by omega) (by omega) (by omega)
        · show et_go none _ 81 111 _ [.int (Int32.ofNat 1)] _ (0 + 1) (0 + 6) _
          refine hs_istore (i := 5) (p := 113) (by decide +kernel) (Nat.le_of_ble_eq_true rfl) ?_
          refine hs_aload (i := 0) (p := 114) (by decide +kernel) rfl ?_
          refine hs_dup1 (p := 115) (by decide +kernel) ?_
          refine ht_getn (T := et_TT) (t := 7) (ci := 5) (f := 8) (p := 118) (by decide +kernel) rfl rfl hH k_rd (fun c115 h115 e115 => ?_)
          have q115 : c115 = (c96 + 1) := hb_cc e115 hx (by omega) (by omega)
          refine hs_iload (i := 5) (p := 120) (by decide +kernel) rfl ?_
          refine hs_if0 (c := .eq) (t := 127) (f := 123) (by decide +kernel) (show ¬ (Int32.ofNat 1 = 0) by decide) ?_
          refine hs_k (x := Int32.ofNat 1) (p := 124) (by decide +kernel) ?_
          refine hs_goto (p := 128) (by decide +kernel) ?_
          refine hs_iaddn (p := 129) (by decide +kernel) ?_
          refine ht_put (M := [(7, 8, 8)]) (T := et_TT) (t := 7) (ci := 5) (f := 8) (p := 132) (ty := .int) (by decide +kernel) rfl rfl rfl rfl rfl (by decide +kernel) hH k_rd (hi_nv (by omega) (by omega)) (fun G129 hH f129 e129 => ?_)
          have hf := hf.tr hx0 (f129.wk (by decide +kernel))
          have hx := e129
          refine hs_iload (i := 5) (p := 134) (by decide +kernel) rfl ?_
          refine hs_if0 (c := .eq) (t := 195) (f := 137) (by decide +kernel) (show ¬ (Int32.ofNat 1 = 0) by decide) ?_
          refine hs_aload (i := 4) (p := 139) (by decide +kernel) rfl ?_
          refine hs_aload (i := 0) (p := 140) (by decide +kernel) rfl ?_
          refine hs_k (x := Int32.ofNat 2) (p := 141) (by decide +kernel) ?_
          have lto_o13 := (hH.2.2 _ _ k_o13).1
          have hfo := hf
          refine ht_callv (T := et_TT) (t := 7) (mi := 79) (na := 1) (ci := 5) (lk := 6) (lm := 2) (L0 := eg_en (eg_mL 79) [.ref rd, .int (Int32.ofNat 2)]) (by decide +kernel) rfl hH k_rd rfl rfl rfl rfl rfl (by rw [show eg_mL 79 = 2 from by decide +kernel]; first | done | rfl) ?_
          refine (pp_wh hH k_rd hx (by omega) (by omega)).mono (fun u hu => pz_cb hu (fun K141 G141 v141 x141 f141 hH hA => ?_))
          have hx := (f141.2 rd 7 k_rd 8 rfl).trans hx
          have k_rd := x141 _ _ k_rd
          have k_o13 := x141 _ _ k_o13
          have hf := hf.tr hx0 (f141.wk (by decide +kernel))
          have hx0 := hx0.tr x141
          rcases hA with rfl | ⟨w141, rfl, k_w141, hi141⟩
          · show et_go none _ 81 144 _ [.null, .ref o13] _ (0 + 1) (0 + 6) _
            refine ht_put (M := [(6, 4, 4)]) (T := et_TT) (t := 6) (ci := 4) (f := 4) (p := 147) (ty := (.object "KnobEye$Word")) (by decide +kernel) rfl rfl rfl rfl rfl (by decide +kernel) hH k_o13 (.inl ⟨by decide, rfl⟩) (fun G144 hH f144 e144 => ?_)
            have hf := hf.tr hx0 (f144.wk (by decide +kernel))
            have hx := (f144.2 rd 7 k_rd 8 rfl).trans hx
            refine hs_aload (i := 4) (p := 149) (by decide +kernel) rfl ?_
            refine ht_get (T := et_TT) (t := 6) (ci := 4) (f := 4) (p := 152) (by decide +kernel) rfl rfl rfl hH k_o13 (fun v149 h149 e149 => ?_)
            obtain rfl : v149 = .null := Option.some.inj (e149.symm.trans e144)
            refine hs_ifnonnull0 (p := 155) (by decide +kernel) ?_
            refine hs_aload (i := 0) (p := 156) (by decide +kernel) rfl ?_
            have lto_o13 := (hH.2.2 _ _ k_o13).1
            have hfo := hf
            refine ht_callv (T := et_TT) (t := 7) (mi := 76) (na := 0) (ci := 5) (lk := 6) (lm := 1) (L0 := eg_en (eg_mL 76) [.ref rd]) (by decide +kernel) rfl hH k_rd rfl rfl rfl rfl rfl (by rw [show eg_mL 76 = 1 from by decide +kernel]; first | done | rfl) ?_
            refine (ep_c4 (K141, [], G144) [.ref rd] _ hH (by omega) rfl (ht_ac (.inr ⟨by decide, _, rfl, k_rd⟩) ht_an)).mono (fun u hu => hs_cbv hu (fun v156 K156 G156 c156 s156 x156 f156 hH hv156 cl156 sl156 => ?_))
            have hx := (f156.2 rd 7 k_rd 8 rfl).trans hx
            have k_rd := x156 _ _ k_rd
            have k_o13 := x156 _ _ k_o13
            have hf := hf.tr hx0 (f156.wk (by decide +kernel))
            have hx0 := hx0.tr x156
            obtain rfl : c156 = 0 := Nat.le_zero.mp cl156
            obtain rfl : s156 = 0 := Nat.le_zero.mp sl156
            obtain rfl : v156 = .null := hv156.elim (fun h => h.2) (fun h => absurd h.1 (by decide))
            show et_go none _ 81 159 _ [.null] _ (0 + 1) (0 + 6) _
            refine hs_aretN (cn := "KnobEye$Node") (by decide +kernel) ?_
            exact ⟨_, _, _, rfl, hx0, hf, hH, hx, by omega, by omega, (by dsimp only; omega), .inl ⟨rfl, (by dsimp only; omega)⟩⟩
          · show et_go none _ 81 144 _ [.ref w141, .ref o13] _ (0 + 1) (0 + 6) _
            refine ht_put (M := [(6, 4, 4)]) (T := et_TT) (t := 6) (ci := 4) (f := 4) (p := 147) (ty := (.object "KnobEye$Word")) (by decide +kernel) rfl rfl rfl rfl rfl (by decide +kernel) hH k_o13 (.inr ⟨by decide, _, rfl, k_w141⟩) (fun G144 hH f144 e144 => ?_)
            have hf := hf.tr hx0 (f144.wk (by decide +kernel))
            have hx := (f144.2 rd 7 k_rd 8 rfl).trans hx
            refine hs_aload (i := 4) (p := 149) (by decide +kernel) rfl ?_
            refine ht_get (T := et_TT) (t := 6) (ci := 4) (f := 4) (p := 152) (by decide +kernel) rfl rfl rfl hH k_o13 (fun v149 h149 e149 => ?_)
            obtain rfl : v149 = .ref w141 := Option.some.inj (e149.symm.trans e144)
            refine hs_ifnonnull1 (p := 160) (by decide +kernel) ?_
            refine hs_aload (i := 0) (p := 161) (by decide +kernel) rfl ?_
            refine hs_dup1 (p := 162) (by decide +kernel) ?_
            refine ht_getn (T := et_TT) (t := 7) (ci := 5) (f := 3) (p := 165) (by decide +kernel) rfl rfl hH k_rd (fun c162 h162 e162 => ?_)
            refine hs_aload (i := 4) (p := 167) (by decide +kernel) rfl ?_
            refine ht_get (T := et_TT) (t := 6) (ci := 4) (f := 4) (p := 170) (by decide +kernel) rfl rfl rfl hH k_o13 (fun v167 h167 e167 => ?_)
            obtain rfl : v167 = .ref w141 := Option.some.inj (e167.symm.trans e144)
            refine hs_gst (v := Value.ref 17) (p := 173) (by decide +kernel) ?_
            refine hs_acm (c := .ne) (t := 180) (f := 176) (by decide +kernel) (hi_ca hH k_w141 (by decide)) (by decide +kernel) ?_ ?_
            · refine hs_k (x := Int32.ofNat 0) (p := 181) (by decide +kernel) ?_
              refine hs_ior (p := 182) (by decide +kernel) ?_
              obtain ⟨m181, hm181, hq181⟩ := hi_or (a := c162) (b := 0) (by omega) (by omega)
              rw [hq181]
              refine ht_put (M := [(7, 3, 3)]) (T := et_TT) (t := 7) (ci := 5) (f := 3) (p := 185) (ty := .boolean) (by decide +kernel) rfl rfl rfl (hi_fz (by omega)) rfl (by decide +kernel) hH k_rd (hi_nv (by omega) (by omega)) (fun G182 hH f182 e182 => ?_)
              have hf := hf.tr hx0 (f182.wk (by decide +kernel))
              have hx := (f182.2 rd 7 k_rd 8 rfl).trans hx
              refine hs_aload (i := 0) (p := 186) (by decide +kernel) rfl ?_
              refine hs_dup1 (p := 187) (by decide +kernel) ?_
              refine ht_getn (T := et_TT) (t := 7) (ci := 5) (f := 8) (p := 190) (by decide +kernel) rfl rfl hH k_rd (fun c187 h187 e187 => ?_)
              have q187 : c187 = (c115 + 1) := hb_cc e187 hx (by omega) (by omega)
              refine hs_k (x := Int32.ofNat 1) (p := 191) (by decide +kernel) ?_
              refine hs_iaddn (p := 192) (by decide +kernel) ?_
              refine ht_put (M := [(7, 8, 8)]) (T := et_TT) (t := 7) (ci := 5) (f := 8) (p := 195) (ty := .int) (by decide +kernel) rfl rfl rfl rfl rfl (by decide +kernel) hH k_rd (hi_nv (by omega) (by omega)) (fun G192 hH f192 e192 => ?_)
              have hf := hf.tr hx0 (f192.wk (by decide +kernel))
              have hx := e192
              refine hs_aload0 (i := 2) (p := 196) (by decide +kernel) rfl ?_
              refine hs_ifnonnull0 (p := 199) (by decide +kernel) ?_
              refine hs_aload (i := 4) (p := 201) (by decide +kernel) rfl ?_
              refine hs_astore (i := 1) (p := 202) (by decide +kernel) (Nat.le_of_ble_eq_true rfl) ?_
              refine hs_goto (p := 211) (by decide +kernel) ?_
              refine hs_aload (i := 4) (p := 213) (by decide +kernel) rfl ?_
              refine hs_astore (i := 2) (p := 214) (by decide +kernel) (Nat.le_of_ble_eq_true rfl) ?_
              refine hs_aload (i := 0) (p := 215) (by decide +kernel) rfl ?_
              refine hs_gst (v := Value.ref 27) (p := 218) (by decide +kernel) ?_
              have lto_o13 := (hH.2.2 _ _ k_o13).1
              have hfo := hf
              refine ht_callv (T := et_TT) (t := 7) (mi := 78) (na := 1) (ci := 5) (lk := 6) (lm := 2) (L0 := eg_en (eg_mL 78) [.ref rd, .ref 27]) (by decide +kernel) rfl hH k_rd rfl rfl rfl rfl rfl (by rw [show eg_mL 78 = 2 from by decide +kernel]; first | done | rfl) ?_
              refine (pp_is hH k_rd hx (by omega) (hH.2.1 _ (by decide)) (by omega)).mono (fun u hu => pz_cb hu (fun K218 G218 v218 x218 f218 hH hA => ?_))
              have hx := (f218.2 rd 7 k_rd 8 rfl).trans hx
              have k_rd := x218 _ _ k_rd
              have k_o13 := x218 _ _ k_o13
              have k_w141 := x218 _ _ k_w141
              have hf := hf.tr hx0 (f218.wk (by decide +kernel))
              have hx0 := hx0.tr x218
              rcases hA with rfl | ⟨rfl, hi218⟩
              · show et_go none _ 81 221 _ [.int (Int32.ofNat 0)] _ (0 + 1) (0 + 6) _
                refine hs_if0 (c := .ne) (t := 227) (f := 224) (by decide +kernel) (show ¬ (¬ Int32.ofNat 0 = 0) by decide) ?_
                refine hs_goto (p := 243) (by decide +kernel) ?_
                refine hs_aload (i := 1) (p := 244) (by decide +kernel) rfl ?_
                refine hs_aret (cn := "KnobEye$Node") (by decide +kernel) ?_
                exact ⟨_, _, _, rfl, hx0, hf, hH, hx, by omega, by omega, (by dsimp only; omega), .inr ⟨_, rfl, k_o13, by omega, (by dsimp only; omega)⟩⟩
              · show et_go none _ 81 221 _ [.int (Int32.ofNat 1)] _ (0 + 1) (0 + 6) _
                refine hs_if1 (c := .ne) (t := 227) (f := 224) (by decide +kernel) (show ¬ Int32.ofNat 1 = 0 by decide) ?_
                refine hs_aload (i := 0) (p := 228) (by decide +kernel) rfl ?_
                refine hs_dup1 (p := 229) (by decide +kernel) ?_
                refine ht_getn (T := et_TT) (t := 7) (ci := 5) (f := 8) (p := 232) (by decide +kernel) rfl rfl hH k_rd (fun c229 h229 e229 => ?_)
                have q229 : c229 = (c187 + 1) := hb_cc e229 hx (by omega) (by omega)
                refine hs_k (x := Int32.ofNat 1) (p := 233) (by decide +kernel) ?_
                refine hs_iaddn (p := 234) (by decide +kernel) ?_
                refine ht_put (M := [(7, 8, 8)]) (T := et_TT) (t := 7) (ci := 5) (f := 8) (p := 237) (ty := .int) (by decide +kernel) rfl rfl rfl rfl rfl (by decide +kernel) hH k_rd (hi_nv (by omega) (by omega)) (fun G234 hH f234 e234 => ?_)
                have hf := hf.tr hx0 (f234.wk (by decide +kernel))
                have hx := e234
                refine hs_iinc1 (i := 3) (p := 240) (by decide +kernel) rfl (Nat.le_of_ble_eq_true rfl) ?_
                refine hs_goto (p := 6) (by decide +kernel) ?_
                show et_go none (d + 2) 81 6 [some (.ref rd), some (.ref o13), some (.ref o13), some (.int (Int32.ofNat (0 + 1))), some (.ref o13), some (.int (Int32.ofNat 1))] [] _ _ _ _
                exact pn_sum (i := (0 + 1)) hH hx0 hf k_rd hx k_o13 ge_o13 k_o13 (by omega) (by omega) (by omega) (by omega) (by omega)
            · refine hs_k (x := Int32.ofNat 1) (p := 177) (by decide +kernel) ?_
              refine hs_goto (p := 181) (by decide +kernel) ?_
              refine hs_ior (p := 182) (by decide +kernel) ?_
              obtain ⟨m181, hm181, hq181⟩ := hi_or (a := c162) (b := 1) (by omega) (by omega)
              rw [hq181]
              refine ht_put (M := [(7, 3, 3)]) (T := et_TT) (t := 7) (ci := 5) (f := 3) (p := 185) (ty := .boolean) (by decide +kernel) rfl rfl rfl (hi_fz (by omega)) rfl (by decide +kernel) hH k_rd (hi_nv (by omega) (by omega)) (fun G182 hH f182 e182 => ?_)
              have hf := hf.tr hx0 (f182.wk (by decide +kernel))
              have hx := (f182.2 rd 7 k_rd 8 rfl).trans hx
              refine hs_aload (i := 0) (p := 186) (by decide +kernel) rfl ?_
              refine hs_dup1 (p := 187) (by decide +kernel) ?_
              refine ht_getn (T := et_TT) (t := 7) (ci := 5) (f := 8) (p := 190) (by decide +kernel) rfl rfl hH k_rd (fun c187 h187 e187 => ?_)
              have q187 : c187 = (c115 + 1) := hb_cc e187 hx (by omega) (by omega)
              refine hs_k (x := Int32.ofNat 1) (p := 191) (by decide +kernel) ?_
              refine hs_iaddn (p := 192) (by decide +kernel) ?_
              refine ht_put (M := [(7, 8, 8)]) (T := et_TT) (t := 7) (ci := 5) (f := 8) (p := 195) (ty := .int) (by decide +kernel) rfl rfl rfl rfl rfl (by decide +kernel) hH k_rd (hi_nv (by omega) (by omega)) (fun G192 hH f192 e192 => ?_)
              have hf := hf.tr hx0 (f192.wk (by decide +kernel))
              have hx := e192
              refine hs_aload0 (i := 2) (p := 196) (by decide +kernel) rfl ?_
              refine hs_ifnonnull0 (p := 199) (by decide +kernel) ?_
              refine hs_aload (i := 4) (p := 201) (by decide +kernel) rfl ?_
              refine hs_astore (i := 1) (p := 202) (by decide +kernel) (Nat.le_of_ble_eq_true rfl) ?_
              refine hs_goto (p := 211) (by decide +kernel) ?_
              refine hs_aload (i := 4) (p := 213) (by decide +kernel) rfl ?_
              refine hs_astore (i := 2) (p := 214) (by decide +kernel) (Nat.le_of_ble_eq_true rfl) ?_
              refine hs_aload (i := 0) (p := 215) (by decide +kernel) rfl ?_
              refine hs_gst (v := Value.ref 27) (p := 218) (by decide +kernel) ?_
              have lto_o13 := (hH.2.2 _ _ k_o13).1
              have hfo := hf
              refine ht_callv (T := et_TT) (t := 7) (mi := 78) (na := 1) (ci := 5) (lk := 6) (lm := 2) (L0 := eg_en (eg_mL 78) [.ref rd, .ref 27]) (by decide +kernel) rfl hH k_rd rfl rfl rfl rfl rfl (by rw [show eg_mL 78 = 2 from by decide +kernel]; first | done | rfl) ?_
              refine (pp_is hH k_rd hx (by omega) (hH.2.1 _ (by decide)) (by omega)).mono (fun u hu => pz_cb hu (fun K218 G218 v218 x218 f218 hH hA => ?_))
              have hx := (f218.2 rd 7 k_rd 8 rfl).trans hx
              have k_rd := x218 _ _ k_rd
              have k_o13 := x218 _ _ k_o13
              have k_w141 := x218 _ _ k_w141
              have hf := hf.tr hx0 (f218.wk (by decide +kernel))
              have hx0 := hx0.tr x218
              rcases hA with rfl | ⟨rfl, hi218⟩
              · show et_go none _ 81 221 _ [.int (Int32.ofNat 0)] _ (0 + 1) (0 + 6) _
                refine hs_if0 (c := .ne) (t := 227) (f := 224) (by decide +kernel) (show ¬ (¬ Int32.ofNat 0 = 0) by decide) ?_
                refine hs_goto (p := 243) (by decide +kernel) ?_
                refine hs_aload (i := 1) (p := 244) (by decide +kernel) rfl ?_
                refine hs_aret (cn := "KnobEye$Node") (by decide +kernel) ?_
                exact ⟨_, _, _, rfl, hx0, hf, hH, hx, by omega, by omega, (by dsimp only; omega), .inr ⟨_, rfl, k_o13, by omega, (by dsimp only; omega)⟩⟩
              · show et_go none _ 81 221 _ [.int (Int32.ofNat 1)] _ (0 + 1) (0 + 6) _
                refine hs_if1 (c := .ne) (t := 227) (f := 224) (by decide +kernel) (show ¬ Int32.ofNat 1 = 0 by decide) ?_
                refine hs_aload (i := 0) (p := 228) (by decide +kernel) rfl ?_
                refine hs_dup1 (p := 229) (by decide +kernel) ?_
                refine ht_getn (T := et_TT) (t := 7) (ci := 5) (f := 8) (p := 232) (by decide +kernel) rfl rfl hH k_rd (fun c229 h229 e229 => ?_)
                have q229 : c229 = (c187 + 1) := hb_cc e229 hx (by omega) (by omega)
                refine hs_k (x := Int32.ofNat 1) (p := 233) (by decide +kernel) ?_
                refine hs_iaddn (p := 234) (by decide +kernel) ?_
                refine ht_put (M := [(7, 8, 8)]) (T := et_TT) (t := 7) (ci := 5) (f := 8) (p := 237) (ty := .int) (by decide +kernel) rfl rfl rfl rfl rfl (by decide +kernel) hH k_rd (hi_nv (by omega) (by omega)) (fun G234 hH f234 e234 => ?_)
                have hf := hf.tr hx0 (f234.wk (by decide +kernel))
                have hx := e234
                refine hs_iinc1 (i := 3) (p := 240) (by decide +kernel) rfl (Nat.le_of_ble_eq_true rfl) ?_
                refine hs_goto (p := 6) (by decide +kernel) ?_
                show et_go none (d + 2) 81 6 [some (.ref rd), some (.ref o13), some (.ref o13), some (.int (Int32.ofNat (0 + 1))), some (.ref o13), some (.int (Int32.ofNat 1))] [] _ _ _ _
                exact pn_sum (i := (0 + 1)) hH hx0 hf k_rd hx k_o13 ge_o13 k_o13 (by omega) (by omega) (by omega) (by omega) (by omega)
      · refine hs_aload (i := 0) (p := 90) (by decide +kernel) rfl ?_
        have lto_o13 := (hH.2.2 _ _ k_o13).1
        have hfo := hf
        refine ht_callv (T := et_TT) (t := 7) (mi := 76) (na := 0) (ci := 5) (lk := 6) (lm := 1) (L0 := eg_en (eg_mL 76) [.ref rd]) (by decide +kernel) rfl hH k_rd rfl rfl rfl rfl rfl (by rw [show eg_mL 76 = 1 from by decide +kernel]; first | done | rfl) ?_
        refine (ep_c4 (K34, [], G78) [.ref rd] _ hH (by omega) rfl (ht_ac (.inr ⟨by decide, _, rfl, k_rd⟩) ht_an)).mono (fun u hu => hs_cbv hu (fun v90 K90 G90 c90 s90 x90 f90 hH hv90 cl90 sl90 => ?_))
        have hx := (f90.2 rd 7 k_rd 8 rfl).trans hx
        have k_rd := x90 _ _ k_rd
        have k_o13 := x90 _ _ k_o13
        have hf := hf.tr hx0 (f90.wk (by decide +kernel))
        have hx0 := hx0.tr x90
        obtain rfl : c90 = 0 := Nat.le_zero.mp cl90
        obtain rfl : s90 = 0 := Nat.le_zero.mp sl90
        obtain rfl : v90 = .null := hv90.elim (fun h => h.2) (fun h => absurd h.1 (by decide))
        show et_go none _ 81 93 _ [.null] _ (0 + 1) (0 + 6) _
        refine hs_aretN (cn := "KnobEye$Node") (by decide +kernel) ?_
        exact ⟨_, _, _, rfl, hx0, hf, hH, hx, by omega, by omega, (by dsimp only; omega), .inl ⟨rfl, (by dsimp only; omega)⟩⟩
    · refine hs_aload (i := 0) (p := 66) (by decide +kernel) rfl ?_
      refine ht_getr (T := et_TT) (t := 7) (ci := 5) (f := 6) (p := 69) (by decide +kernel) rfl rfl hH k_rd (fun a66 k_a66 e66 => ?_)
      refine hs_aload (i := 0) (p := 70) (by decide +kernel) rfl ?_
      refine ht_getn (T := et_TT) (t := 7) (ci := 5) (f := 8) (p := 73) (by decide +kernel) rfl rfl hH k_rd (fun c70 h70 e70 => ?_)
      have q70 : c70 = x := hb_cc e70 hx (by omega) (by omega)
      refine ht_ild (T := et_TT) (t := 21) (N := 401) (p := 74) (by decide +kernel) rfl hH k_a66 (by omega) (by decide) (fun x73 s73 e73 => ?_)
      refine hs_goto (p := 78) (by decide +kernel) ?_
      refine ht_put (M := [(6, 5, 5)]) (T := et_TT) (t := 6) (ci := 4) (f := 5) (p := 81) (ty := .int) (by decide +kernel) rfl rfl rfl rfl rfl (by decide +kernel) hH k_o13 hi_any (fun G78 hH f78 e78 => ?_)
      have hf := hf.tr hx0 (f78.wk (by decide +kernel))
      have hx := (f78.2 rd 7 k_rd 8 rfl).trans hx
      refine hs_aload (i := 4) (p := 83) (by decide +kernel) rfl ?_
      refine ht_geti (T := et_TT) (t := 6) (ci := 4) (f := 5) (p := 86) (by decide +kernel) rfl rfl hH k_o13 (fun c83 h83 g83 e83 => ?_)
      refine hs_br1 (c := .ge) (t := 94) (f := 89) (by decide +kernel) (fun (c86 : 0 ≤ c83) => ?_) (fun (c86 : ¬ (0 ≤ c83)) => ?_)
      · refine hs_aload (i := 0) (p := 95) (by decide +kernel) rfl ?_
        refine hs_dup1 (p := 96) (by decide +kernel) ?_
        refine ht_getn (T := et_TT) (t := 7) (ci := 5) (f := 8) (p := 99) (by decide +kernel) rfl rfl hH k_rd (fun c96 h96 e96 => ?_)
        have q96 : c96 = x := hb_cc e96 hx (by omega) (by omega)
        refine hs_k (x := Int32.ofNat 1) (p := 100) (by decide +kernel) ?_
        refine hs_iaddn (p := 101) (by decide +kernel) ?_
        refine ht_put (M := [(7, 8, 8)]) (T := et_TT) (t := 7) (ci := 5) (f := 8) (p := 104) (ty := .int) (by decide +kernel) rfl rfl rfl rfl rfl (by decide +kernel) hH k_rd (hi_nv (by omega) (by omega)) (fun G101 hH f101 e101 => ?_)
        have hf := hf.tr hx0 (f101.wk (by decide +kernel))
        have hx := e101
        refine hs_aload (i := 0) (p := 105) (by decide +kernel) rfl ?_
        refine hs_gst (v := Value.ref 28) (p := 108) (by decide +kernel) ?_
        have lto_o13 := (hH.2.2 _ _ k_o13).1
        have hfo := hf
        refine ht_callv (T := et_TT) (t := 7) (mi := 78) (na := 1) (ci := 5) (lk := 6) (lm := 2) (L0 := eg_en (eg_mL 78) [.ref rd, .ref 28]) (by decide +kernel) rfl hH k_rd rfl rfl rfl rfl rfl (by rw [show eg_mL 78 = 2 from by decide +kernel]; first | done | rfl) ?_
        refine (pp_is hH k_rd hx (by omega) (hH.2.1 _ (by decide)) (by omega)).mono (fun u hu => pz_cb hu (fun K108 G108 v108 x108 f108 hH hA => ?_))
        have hx := (f108.2 rd 7 k_rd 8 rfl).trans hx
        have k_rd := x108 _ _ k_rd
        have k_o13 := x108 _ _ k_o13
        have k_a66 := x108 _ _ k_a66
        have hf := hf.tr hx0 (f108.wk (by decide +kernel))
        have hx0 := hx0.tr x108
        rcases hA with rfl | ⟨rfl, hi108⟩
        · show et_go none _ 81 111 _ [.int (Int32.ofNat 0)] _ (0 + 1) (0 + 6) _
          refine hs_istore (i := 5) (p := 113) (by decide +kernel) (Nat.le_of_ble_eq_true rfl) ?_
          refine hs_aload (i := 0) (p := 114) (by decide +kernel) rfl ?_
          refine hs_dup1 (p := 115) (by decide +kernel) ?_
          refine ht_getn (T := et_TT) (t := 7) (ci := 5) (f := 8) (p := 118) (by decide +kernel) rfl rfl hH k_rd (fun c115 h115 e115 => ?_)
          have q115 : c115 = (c96 + 1) := hb_cc e115 hx (by omega) (by omega)
          refine hs_iload (i := 5) (p := 120) (by decide +kernel) rfl ?_
          refine hs_if1 (c := .eq) (t := 127) (f := 123) (by decide +kernel) (show Int32.ofNat 0 = 0 by decide) ?_
          refine hs_k (x := Int32.ofNat 0) (p := 128) (by decide +kernel) ?_
          refine hs_iaddn (p := 129) (by decide +kernel) ?_
          refine ht_put (M := [(7, 8, 8)]) (T := et_TT) (t := 7) (ci := 5) (f := 8) (p := 132) (ty := .int) (by decide +kernel) rfl rfl rfl rfl rfl (by decide +kernel) hH k_rd (hi_nv (by omega) (by omega)) (fun G129 hH f129 e129 => ?_)
          have hf := hf.tr hx0 (f129.wk (by decide +kernel))
          have hx := e129
          refine hs_iload (i := 5) (p := 134) (by decide +kernel) rfl ?_
          refine hs_if1 (c := .eq) (t := 195) (f := 137) (by decide +kernel) (show Int32.ofNat 0 = 0 by decide) ?_
          refine hs_aload0 (i := 2) (p := 196) (by decide +kernel) rfl ?_
          refine hs_ifnonnull0 (p := 199) (by decide +kernel) ?_
          refine hs_aload (i := 4) (p := 201) (by decide +kernel) rfl ?_
          refine hs_astore (i := 1) (p := 202) (by decide +kernel) (Nat.le_of_ble_eq_true rfl) ?_
          refine hs_goto (p := 211) (by decide +kernel) ?_
          refine hs_aload (i := 4) (p := 213) (by decide +kernel) rfl ?_
          refine hs_astore (i := 2) (p := 214) (by decide +kernel) (Nat.le_of_ble_eq_true rfl) ?_
          refine hs_aload (i := 0) (p := 215) (by decide +kernel) rfl ?_
          refine hs_gst (v := Value.ref 27) (p := 218) (by decide +kernel) ?_
          have lto_o13 := (hH.2.2 _ _ k_o13).1
          have hfo := hf
          refine ht_callv (T := et_TT) (t := 7) (mi := 78) (na := 1) (ci := 5) (lk := 6) (lm := 2) (L0 := eg_en (eg_mL 78) [.ref rd, .ref 27]) (by decide +kernel) rfl hH k_rd rfl rfl rfl rfl rfl (by rw [show eg_mL 78 = 2 from by decide +kernel]; first | done | rfl) ?_
          refine (pp_is hH k_rd hx (by omega) (hH.2.1 _ (by decide)) (by omega)).mono (fun u hu => pz_cb hu (fun K218 G218 v218 x218 f218 hH hA => ?_))
          have hx := (f218.2 rd 7 k_rd 8 rfl).trans hx
          have k_rd := x218 _ _ k_rd
          have k_o13 := x218 _ _ k_o13
          have k_a66 := x218 _ _ k_a66
          have hf := hf.tr hx0 (f218.wk (by decide +kernel))
          have hx0 := hx0.tr x218
          rcases hA with rfl | ⟨rfl, hi218⟩
          · show et_go none _ 81 221 _ [.int (Int32.ofNat 0)] _ (0 + 1) (0 + 6) _
            refine hs_if0 (c := .ne) (t := 227) (f := 224) (by decide +kernel) (show ¬ (¬ Int32.ofNat 0 = 0) by decide) ?_
            refine hs_goto (p := 243) (by decide +kernel) ?_
            refine hs_aload (i := 1) (p := 244) (by decide +kernel) rfl ?_
            refine hs_aret (cn := "KnobEye$Node") (by decide +kernel) ?_
            exact ⟨_, _, _, rfl, hx0, hf, hH, hx, by omega, by omega, (by dsimp only; omega), .inr ⟨_, rfl, k_o13, by omega, (by dsimp only; omega)⟩⟩
          · show et_go none _ 81 221 _ [.int (Int32.ofNat 1)] _ (0 + 1) (0 + 6) _
            refine hs_if1 (c := .ne) (t := 227) (f := 224) (by decide +kernel) (show ¬ Int32.ofNat 1 = 0 by decide) ?_
            refine hs_aload (i := 0) (p := 228) (by decide +kernel) rfl ?_
            refine hs_dup1 (p := 229) (by decide +kernel) ?_
            refine ht_getn (T := et_TT) (t := 7) (ci := 5) (f := 8) (p := 232) (by decide +kernel) rfl rfl hH k_rd (fun c229 h229 e229 => ?_)
            have q229 : c229 = (c115 + 0) := hb_cc e229 hx (by omega) (by omega)
            refine hs_k (x := Int32.ofNat 1) (p := 233) (by decide +kernel) ?_
            refine hs_iaddn (p := 234) (by decide +kernel) ?_
            refine ht_put (M := [(7, 8, 8)]) (T := et_TT) (t := 7) (ci := 5) (f := 8) (p := 237) (ty := .int) (by decide +kernel) rfl rfl rfl rfl rfl (by decide +kernel) hH k_rd (hi_nv (by omega) (by omega)) (fun G234 hH f234 e234 => ?_)
            have hf := hf.tr hx0 (f234.wk (by decide +kernel))
            have hx := e234
            refine hs_iinc1 (i := 3) (p := 240) (by decide +kernel) rfl (Nat.le_of_ble_eq_true rfl) ?_
            refine hs_goto (p := 6) (by decide +kernel) ?_
            show et_go none (d + 2) 81 6 [some (.ref rd), some (.ref o13), some (.ref o13), some (.int (Int32.ofNat (0 + 1))), some (.ref o13), some (.int (Int32.ofNat 0))] [] _ _ _ _
            exact pn_sum (i := (0 + 1)) hH hx0 hf k_rd hx k_o13 ge_o13 k_o13 (by omega) (by omega) (by omega) (by omega) (by omega)
        · show et_go none _ 81 111 _ [.int (Int32.ofNat 1)] _ (0 + 1) (0 + 6) _
          refine hs_istore (i := 5) (p := 113) (by decide +kernel) (Nat.le_of_ble_eq_true rfl) ?_
          refine hs_aload (i := 0) (p := 114) (by decide +kernel) rfl ?_
          refine hs_dup1 (p := 115) (by decide +kernel) ?_
          refine ht_getn (T := et_TT) (t := 7) (ci := 5) (f := 8) (p := 118) (by decide +kernel) rfl rfl hH k_rd (fun c115 h115 e115 => ?_)
          have q115 : c115 = (c96 + 1) := hb_cc e115 hx (by omega) (by omega)
          refine hs_iload (i := 5) (p := 120) (by decide +kernel) rfl ?_
          refine hs_if0 (c := .eq) (t := 127) (f := 123) (by decide +kernel) (show ¬ (Int32.ofNat 1 = 0) by decide) ?_
          refine hs_k (x := Int32.ofNat 1) (p := 124) (by decide +kernel) ?_
          refine hs_goto (p := 128) (by decide +kernel) ?_
          refine hs_iaddn (p := 129) (by decide +kernel) ?_
          refine ht_put (M := [(7, 8, 8)]) (T := et_TT) (t := 7) (ci := 5) (f := 8) (p := 132) (ty := .int) (by decide +kernel) rfl rfl rfl rfl rfl (by decide +kernel) hH k_rd (hi_nv (by omega) (by omega)) (fun G129 hH f129 e129 => ?_)
          have hf := hf.tr hx0 (f129.wk (by decide +kernel))
          have hx := e129
          refine hs_iload (i := 5) (p := 134) (by decide +kernel) rfl ?_
          refine hs_if0 (c := .eq) (t := 195) (f := 137) (by decide +kernel) (show ¬ (Int32.ofNat 1 = 0) by decide) ?_
          refine hs_aload (i := 4) (p := 139) (by decide +kernel) rfl ?_
          refine hs_aload (i := 0) (p := 140) (by decide +kernel) rfl ?_
          refine hs_k (x := Int32.ofNat 2) (p := 141) (by decide +kernel) ?_
          have lto_o13 := (hH.2.2 _ _ k_o13).1
          have hfo := hf
          refine ht_callv (T := et_TT) (t := 7) (mi := 79) (na := 1) (ci := 5) (lk := 6) (lm := 2) (L0 := eg_en (eg_mL 79) [.ref rd, .int (Int32.ofNat 2)]) (by decide +kernel) rfl hH k_rd rfl rfl rfl rfl rfl (by rw [show eg_mL 79 = 2 from by decide +kernel]; first | done | rfl) ?_
          refine (pp_wh hH k_rd hx (by omega) (by omega)).mono (fun u hu => pz_cb hu (fun K141 G141 v141 x141 f141 hH hA => ?_))
          have hx := (f141.2 rd 7 k_rd 8 rfl).trans hx
          have k_rd := x141 _ _ k_rd
          have k_o13 := x141 _ _ k_o13
          have k_a66 := x141 _ _ k_a66
          have hf := hf.tr hx0 (f141.wk (by decide +kernel))
          have hx0 := hx0.tr x141
          rcases hA with rfl | ⟨w141, rfl, k_w141, hi141⟩
          · show et_go none _ 81 144 _ [.null, .ref o13] _ (0 + 1) (0 + 6) _
            refine ht_put (M := [(6, 4, 4)]) (T := et_TT) (t := 6) (ci := 4) (f := 4) (p := 147) (ty := (.object "KnobEye$Word")) (by decide +kernel) rfl rfl rfl rfl rfl (by decide +kernel) hH k_o13 (.inl ⟨by decide, rfl⟩) (fun G144 hH f144 e144 => ?_)
            have hf := hf.tr hx0 (f144.wk (by decide +kernel))
            have hx := (f144.2 rd 7 k_rd 8 rfl).trans hx
            refine hs_aload (i := 4) (p := 149) (by decide +kernel) rfl ?_
            refine ht_get (T := et_TT) (t := 6) (ci := 4) (f := 4) (p := 152) (by decide +kernel) rfl rfl rfl hH k_o13 (fun v149 h149 e149 => ?_)
            obtain rfl : v149 = .null := Option.some.inj (e149.symm.trans e144)
            refine hs_ifnonnull0 (p := 155) (by decide +kernel) ?_
            refine hs_aload (i := 0) (p := 156) (by decide +kernel) rfl ?_
            have lto_o13 := (hH.2.2 _ _ k_o13).1
            have hfo := hf
            refine ht_callv (T := et_TT) (t := 7) (mi := 76) (na := 0) (ci := 5) (lk := 6) (lm := 1) (L0 := eg_en (eg_mL 76) [.ref rd]) (by decide +kernel) rfl hH k_rd rfl rfl rfl rfl rfl (by rw [show eg_mL 76 = 1 from by decide +kernel]; first | done | rfl) ?_
            refine (ep_c4 (K141, [], G144) [.ref rd] _ hH (by omega) rfl (ht_ac (.inr ⟨by decide, _, rfl, k_rd⟩) ht_an)).mono (fun u hu => hs_cbv hu (fun v156 K156 G156 c156 s156 x156 f156 hH hv156 cl156 sl156 => ?_))
            have hx := (f156.2 rd 7 k_rd 8 rfl).trans hx
            have k_rd := x156 _ _ k_rd
            have k_o13 := x156 _ _ k_o13
            have k_a66 := x156 _ _ k_a66
            have hf := hf.tr hx0 (f156.wk (by decide +kernel))
            have hx0 := hx0.tr x156
            obtain rfl : c156 = 0 := Nat.le_zero.mp cl156
            obtain rfl : s156 = 0 := Nat.le_zero.mp sl156
            obtain rfl : v156 = .null := hv156.elim (fun h => h.2) (fun h => absurd h.1 (by decide))
            show et_go none _ 81 159 _ [.null] _ (0 + 1) (0 + 6) _
            refine hs_aretN (cn := "KnobEye$Node") (by decide +kernel) ?_
            exact ⟨_, _, _, rfl, hx0, hf, hH, hx, by omega, by omega, (by dsimp only; omega), .inl ⟨rfl, (by dsimp only; omega)⟩⟩
          · show et_go none _ 81 144 _ [.ref w141, .ref o13] _ (0 + 1) (0 + 6) _
            refine ht_put (M := [(6, 4, 4)]) (T := et_TT) (t := 6) (ci := 4) (f := 4) (p := 147) (ty := (.object "KnobEye$Word")) (by decide +kernel) rfl rfl rfl rfl rfl (by decide +kernel) hH k_o13 (.inr ⟨by decide, _, rfl, k_w141⟩) (fun G144 hH f144 e144 => ?_)
            have hf := hf.tr hx0 (f144.wk (by decide +kernel))
            have hx := (f144.2 rd 7 k_rd 8 rfl).trans hx
            refine hs_aload (i := 4) (p := 149) (by decide +kernel) rfl ?_
            refine ht_get (T := et_TT) (t := 6) (ci := 4) (f := 4) (p := 152) (by decide +kernel) rfl rfl rfl hH k_o13 (fun v149 h149 e149 => ?_)
            obtain rfl : v149 = .ref w141 := Option.some.inj (e149.symm.trans e144)
            refine hs_ifnonnull1 (p := 160) (by decide +kernel) ?_
            refine hs_aload (i := 0) (p := 161) (by decide +kernel) rfl ?_
            refine hs_dup1 (p := 162) (by decide +kernel) ?_
            refine ht_getn (T := et_TT) (t := 7) (ci := 5) (f := 3) (p := 165) (by decide +kernel) rfl rfl hH k_rd (fun c162 h162 e162 => ?_)
            refine hs_aload (i := 4) (p := 167) (by decide +kernel) rfl ?_
            refine ht_get (T := et_TT) (t := 6) (ci := 4) (f := 4) (p := 170) (by decide +kernel) rfl rfl rfl hH k_o13 (fun v167 h167 e167 => ?_)
            obtain rfl : v167 = .ref w141 := Option.some.inj (e167.symm.trans e144)
            refine hs_gst (v := Value.ref 17) (p := 173) (by decide +kernel) ?_
            refine hs_acm (c := .ne) (t := 180) (f := 176) (by decide +kernel) (hi_ca hH k_w141 (by decide)) (by decide +kernel) ?_ ?_
            · refine hs_k (x := Int32.ofNat 0) (p := 181) (by decide +kernel) ?_
              refine hs_ior (p := 182) (by decide +kernel) ?_
              obtain ⟨m181, hm181, hq181⟩ := hi_or (a := c162) (b := 0) (by omega) (by omega)
              rw [hq181]
              refine ht_put (M := [(7, 3, 3)]) (T := et_TT) (t := 7) (ci := 5) (f := 3) (p := 185) (ty := .boolean) (by decide +kernel) rfl rfl rfl (hi_fz (by omega)) rfl (by decide +kernel) hH k_rd (hi_nv (by omega) (by omega)) (fun G182 hH f182 e182 => ?_)
              have hf := hf.tr hx0 (f182.wk (by decide +kernel))
              have hx := (f182.2 rd 7 k_rd 8 rfl).trans hx
              refine hs_aload (i := 0) (p := 186) (by decide +kernel) rfl ?_
              refine hs_dup1 (p := 187) (by decide +kernel) ?_
              refine ht_getn (T := et_TT) (t := 7) (ci := 5) (f := 8) (p := 190) (by decide +kernel) rfl rfl hH k_rd (fun c187 h187 e187 => ?_)
              have q187 : c187 = (c115 + 1) := hb_cc e187 hx (by omega) (by omega)
              refine hs_k (x := Int32.ofNat 1) (p := 191) (by decide +kernel) ?_
              refine hs_iaddn (p := 192) (by decide +kernel) ?_
              refine ht_put (M := [(7, 8, 8)]) (T := et_TT) (t := 7) (ci := 5) (f := 8) (p := 195) (ty := .int) (by decide +kernel) rfl rfl rfl rfl rfl (by decide +kernel) hH k_rd (hi_nv (by omega) (by omega)) (fun G192 hH f192 e192 => ?_)
              have hf := hf.tr hx0 (f192.wk (by decide +kernel))
              have hx := e192
              refine hs_aload0 (i := 2) (p := 196) (by decide +kernel) rfl ?_
              refine hs_ifnonnull0 (p := 199) (by decide +kernel) ?_
              refine hs_aload (i := 4) (p := 201) (by decide +kernel) rfl ?_
              refine hs_astore (i := 1) (p := 202) (by decide +kernel) (Nat.le_of_ble_eq_true rfl) ?_
              refine hs_goto (p := 211) (by decide +kernel) ?_
              refine hs_aload (i := 4) (p := 213) (by decide +kernel) rfl ?_
              refine hs_astore (i := 2) (p := 214) (by decide +kernel) (Nat.le_of_ble_eq_true rfl) ?_
              refine hs_aload (i := 0) (p := 215) (by decide +kernel) rfl ?_
              refine hs_gst (v := Value.ref 27) (p := 218) (by decide +kernel) ?_
              have lto_o13 := (hH.2.2 _ _ k_o13).1
              have hfo := hf
              refine ht_callv (T := et_TT) (t := 7) (mi := 78) (na := 1) (ci := 5) (lk := 6) (lm := 2) (L0 := eg_en (eg_mL 78) [.ref rd, .ref 27]) (by decide +kernel) rfl hH k_rd rfl rfl rfl rfl rfl (by rw [show eg_mL 78 = 2 from by decide +kernel]; first | done | rfl) ?_
              refine (pp_is hH k_rd hx (by omega) (hH.2.1 _ (by decide)) (by omega)).mono (fun u hu => pz_cb hu (fun K218 G218 v218 x218 f218 hH hA => ?_))
              have hx := (f218.2 rd 7 k_rd 8 rfl).trans hx
              have k_rd := x218 _ _ k_rd
              have k_o13 := x218 _ _ k_o13
              have k_a66 := x218 _ _ k_a66
              have k_w141 := x218 _ _ k_w141
              have hf := hf.tr hx0 (f218.wk (by decide +kernel))
              have hx0 := hx0.tr x218
              rcases hA with rfl | ⟨rfl, hi218⟩
              · show et_go none _ 81 221 _ [.int (Int32.ofNat 0)] _ (0 + 1) (0 + 6) _
                refine hs_if0 (c := .ne) (t := 227) (f := 224) (by decide +kernel) (show ¬ (¬ Int32.ofNat 0 = 0) by decide) ?_
                refine hs_goto (p := 243) (by decide +kernel) ?_
                refine hs_aload (i := 1) (p := 244) (by decide +kernel) rfl ?_
                refine hs_aret (cn := "KnobEye$Node") (by decide +kernel) ?_
                exact ⟨_, _, _, rfl, hx0, hf, hH, hx, by omega, by omega, (by dsimp only; omega), .inr ⟨_, rfl, k_o13, by omega, (by dsimp only; omega)⟩⟩
              · show et_go none _ 81 221 _ [.int (Int32.ofNat 1)] _ (0 + 1) (0 + 6) _
                refine hs_if1 (c := .ne) (t := 227) (f := 224) (by decide +kernel) (show ¬ Int32.ofNat 1 = 0 by decide) ?_
                refine hs_aload (i := 0) (p := 228) (by decide +kernel) rfl ?_
                refine hs_dup1 (p := 229) (by decide +kernel) ?_
                refine ht_getn (T := et_TT) (t := 7) (ci := 5) (f := 8) (p := 232) (by decide +kernel) rfl rfl hH k_rd (fun c229 h229 e229 => ?_)
                have q229 : c229 = (c187 + 1) := hb_cc e229 hx (by omega) (by omega)
                refine hs_k (x := Int32.ofNat 1) (p := 233) (by decide +kernel) ?_
                refine hs_iaddn (p := 234) (by decide +kernel) ?_
                refine ht_put (M := [(7, 8, 8)]) (T := et_TT) (t := 7) (ci := 5) (f := 8) (p := 237) (ty := .int) (by decide +kernel) rfl rfl rfl rfl rfl (by decide +kernel) hH k_rd (hi_nv (by omega) (by omega)) (fun G234 hH f234 e234 => ?_)
                have hf := hf.tr hx0 (f234.wk (by decide +kernel))
                have hx := e234
                refine hs_iinc1 (i := 3) (p := 240) (by decide +kernel) rfl (Nat.le_of_ble_eq_true rfl) ?_
                refine hs_goto (p := 6) (by decide +kernel) ?_
                show et_go none (d + 2) 81 6 [some (.ref rd), some (.ref o13), some (.ref o13), some (.int (Int32.ofNat (0 + 1))), some (.ref o13), some (.int (Int32.ofNat 1))] [] _ _ _ _
                exact pn_sum (i := (0 + 1)) hH hx0 hf k_rd hx k_o13 ge_o13 k_o13 (by omega) (by omega) (by omega) (by omega) (by omega)
            · refine hs_k (x := Int32.ofNat 1) (p := 177) (by decide +kernel) ?_
              refine hs_goto (p := 181) (by decide +kernel) ?_
              refine hs_ior (p := 182) (by decide +kernel) ?_
              obtain ⟨m181, hm181, hq181⟩ := hi_or (a := c162) (b := 1) (by omega) (by omega)
              rw [hq181]
              refine ht_put (M := [(7, 3, 3)]) (T := et_TT) (t := 7) (ci := 5) (f := 3) (p := 185) (ty := .boolean) (by decide +kernel) rfl rfl rfl (hi_fz (by omega)) rfl (by decide +kernel) hH k_rd (hi_nv (by omega) (by omega)) (fun G182 hH f182 e182 => ?_)
              have hf := hf.tr hx0 (f182.wk (by decide +kernel))
              have hx := (f182.2 rd 7 k_rd 8 rfl).trans hx
              refine hs_aload (i := 0) (p := 186) (by decide +kernel) rfl ?_
              refine hs_dup1 (p := 187) (by decide +kernel) ?_
              refine ht_getn (T := et_TT) (t := 7) (ci := 5) (f := 8) (p := 190) (by decide +kernel) rfl rfl hH k_rd (fun c187 h187 e187 => ?_)
              have q187 : c187 = (c115 + 1) := hb_cc e187 hx (by omega) (by omega)
              refine hs_k (x := Int32.ofNat 1) (p := 191) (by decide +kernel) ?_
              refine hs_iaddn (p := 192) (by decide +kernel) ?_
              refine ht_put (M := [(7, 8, 8)]) (T := et_TT) (t := 7) (ci := 5) (f := 8) (p := 195) (ty := .int) (by decide +kernel) rfl rfl rfl rfl rfl (by decide +kernel) hH k_rd (hi_nv (by omega) (by omega)) (fun G192 hH f192 e192 => ?_)
              have hf := hf.tr hx0 (f192.wk (by decide +kernel))
              have hx := e192
              refine hs_aload0 (i := 2) (p := 196) (by decide +kernel) rfl ?_
              refine hs_ifnonnull0 (p := 199) (by decide +kernel) ?_
              refine hs_aload (i := 4) (p := 201) (by decide +kernel) rfl ?_
              refine hs_astore (i := 1) (p := 202) (by decide +kernel) (Nat.le_of_ble_eq_true rfl) ?_
              refine hs_goto (p := 211) (by decide +kernel) ?_
              refine hs_aload (i := 4) (p := 213) (by decide +kernel) rfl ?_
              refine hs_astore (i := 2) (p := 214) (by decide +kernel) (Nat.le_of_ble_eq_true rfl) ?_
              refine hs_aload (i := 0) (p := 215) (by decide +kernel) rfl ?_
              refine hs_gst (v := Value.ref 27) (p := 218) (by decide +kernel) ?_
              have lto_o13 := (hH.2.2 _ _ k_o13).1
              have hfo := hf
              refine ht_callv (T := et_TT) (t := 7) (mi := 78) (na := 1) (ci := 5) (lk := 6) (lm := 2) (L0 := eg_en (eg_mL 78) [.ref rd, .ref 27]) (by decide +kernel) rfl hH k_rd rfl rfl rfl rfl rfl (by rw [show eg_mL 78 = 2 from by decide +kernel]; first | done | rfl) ?_
              refine (pp_is hH k_rd hx (by omega) (hH.2.1 _ (by decide)) (by omega)).mono (fun u hu => pz_cb hu (fun K218 G218 v218 x218 f218 hH hA => ?_))
              have hx := (f218.2 rd 7 k_rd 8 rfl).trans hx
              have k_rd := x218 _ _ k_rd
              have k_o13 := x218 _ _ k_o13
              have k_a66 := x218 _ _ k_a66
              have k_w141 := x218 _ _ k_w141
              have hf := hf.tr hx0 (f218.wk (by decide +kernel))
              have hx0 := hx0.tr x218
              rcases hA with rfl | ⟨rfl, hi218⟩
              · show et_go none _ 81 221 _ [.int (Int32.ofNat 0)] _ (0 + 1) (0 + 6) _
                refine hs_if0 (c := .ne) (t := 227) (f := 224) (by decide +kernel) (show ¬ (¬ Int32.ofNat 0 = 0) by decide) ?_
                refine hs_goto (p := 243) (by decide +kernel) ?_
                refine hs_aload (i := 1) (p := 244) (by decide +kernel) rfl ?_
                refine hs_aret (cn := "KnobEye$Node") (by decide +kernel) ?_
                exact ⟨_, _, _, rfl, hx0, hf, hH, hx, by omega, by omega, (by dsimp only; omega), .inr ⟨_, rfl, k_o13, by omega, (by dsimp only; omega)⟩⟩
              · show et_go none _ 81 221 _ [.int (Int32.ofNat 1)] _ (0 + 1) (0 + 6) _
                refine hs_if1 (c := .ne) (t := 227) (f := 224) (by decide +kernel) (show ¬ Int32.ofNat 1 = 0 by decide) ?_
                refine hs_aload (i := 0) (p := 228) (by decide +kernel) rfl ?_
                refine hs_dup1 (p := 229) (by decide +kernel) ?_
                refine ht_getn (T := et_TT) (t := 7) (ci := 5) (f := 8) (p := 232) (by decide +kernel) rfl rfl hH k_rd (fun c229 h229 e229 => ?_)
                have q229 : c229 = (c187 + 1) := hb_cc e229 hx (by omega) (by omega)
                refine hs_k (x := Int32.ofNat 1) (p := 233) (by decide +kernel) ?_
                refine hs_iaddn (p := 234) (by decide +kernel) ?_
                refine ht_put (M := [(7, 8, 8)]) (T := et_TT) (t := 7) (ci := 5) (f := 8) (p := 237) (ty := .int) (by decide +kernel) rfl rfl rfl rfl rfl (by decide +kernel) hH k_rd (hi_nv (by omega) (by omega)) (fun G234 hH f234 e234 => ?_)
                have hf := hf.tr hx0 (f234.wk (by decide +kernel))
                have hx := e234
                refine hs_iinc1 (i := 3) (p := 240) (by decide +kernel) rfl (Nat.le_of_ble_eq_true rfl) ?_
                refine hs_goto (p := 6) (by decide +kernel) ?_
                show et_go none (d + 2) 81 6 [some (.ref rd), some (.ref o13), some (.ref o13), some (.int (Int32.ofNat (0 + 1))), some (.ref o13), some (.int (Int32.ofNat 1))] [] _ _ _ _
                exact pn_sum (i := (0 + 1)) hH hx0 hf k_rd hx k_o13 ge_o13 k_o13 (by omega) (by omega) (by omega) (by omega) (by omega)
      · refine hs_aload (i := 0) (p := 90) (by decide +kernel) rfl ?_
        have lto_o13 := (hH.2.2 _ _ k_o13).1
        have hfo := hf
        refine ht_callv (T := et_TT) (t := 7) (mi := 76) (na := 0) (ci := 5) (lk := 6) (lm := 1) (L0 := eg_en (eg_mL 76) [.ref rd]) (by decide +kernel) rfl hH k_rd rfl rfl rfl rfl rfl (by rw [show eg_mL 76 = 1 from by decide +kernel]; first | done | rfl) ?_
        refine (ep_c4 (K34, [], G78) [.ref rd] _ hH (by omega) rfl (ht_ac (.inr ⟨by decide, _, rfl, k_rd⟩) ht_an)).mono (fun u hu => hs_cbv hu (fun v90 K90 G90 c90 s90 x90 f90 hH hv90 cl90 sl90 => ?_))
        have hx := (f90.2 rd 7 k_rd 8 rfl).trans hx
        have k_rd := x90 _ _ k_rd
        have k_o13 := x90 _ _ k_o13
        have k_a66 := x90 _ _ k_a66
        have hf := hf.tr hx0 (f90.wk (by decide +kernel))
        have hx0 := hx0.tr x90
        obtain rfl : c90 = 0 := Nat.le_zero.mp cl90
        obtain rfl : s90 = 0 := Nat.le_zero.mp sl90
        obtain rfl : v90 = .null := hv90.elim (fun h => h.2) (fun h => absurd h.1 (by decide))
        show et_go none _ 81 93 _ [.null] _ (0 + 1) (0 + 6) _
        refine hs_aretN (cn := "KnobEye$Node") (by decide +kernel) ?_
        exact ⟨_, _, _, rfl, hx0, hf, hH, hx, by omega, by omega, (by dsimp only; omega), .inl ⟨rfl, (by dsimp only; omega)⟩⟩
theorem pp_cmp (hH : et_H et_TT K G) (k_rd : K rd = some 7) (hx : pp_at G rd x) (hxl : x ≤ 401) (hd : 3 ≤ d2) : et_go none d2 80 0 (eg_en (eg_mL 80) [.ref rd]) [] G 0 0 (pp_Z 0 K G rd x) := by
  obtain ⟨d, rfl⟩ : ∃ d, d2 = d + 3 := ⟨d2 - 3, by omega⟩
  have hx0 : et_ex K K := et_ex.rf
  have hf : et_fr pp_M K G G := et_fr.rf
  rw [show eg_mL 80 = 4 from by decide +kernel]
  show et_go none (d + 3) 80 0 [some (.ref rd), none, none, none] [] G 0 0 _
  refine hs_aload (i := 0) (p := 1) (by decide +kernel) rfl ?_
  have hfo := hf
  refine ht_callv (T := et_TT) (t := 7) (mi := 81) (na := 0) (ci := 5) (lk := 4) (lm := 6) (L0 := eg_en (eg_mL 81) [.ref rd]) (by decide +kernel) rfl hH k_rd rfl rfl rfl rfl rfl (by rw [show eg_mL 81 = 6 from by decide +kernel]; first | done | rfl) ?_
  refine (pp_sum hH k_rd hx (by omega) (by omega)).mono (fun u hu => pp_cb hu (fun K1 G1 v1 y1 c1 s1 x1 f1 hH hx hy1 hz1 hs1 hA => ?_))
  have k_rd := x1 _ _ k_rd
  have hf := hf.tr hx0 (f1.wk (by decide +kernel))
  have hx0 := hx0.tr x1
  rcases hA with ⟨rfl, hA1⟩ | ⟨b1, rfl, k_b1, ge_b1, hA1⟩
  · show et_go none _ 80 4 _ [.null] _ (0 + c1) (0 + s1) _
    refine hs_astore0 (i := 1) (p := 5) (by decide +kernel) (Nat.le_of_ble_eq_true rfl) ?_
    refine hs_aload0 (i := 1) (p := 6) (by decide +kernel) rfl ?_
    refine hs_ifnonnull0 (p := 9) (by decide +kernel) ?_
    refine hs_nul (p := 10) (by decide +kernel) ?_
    refine hs_aretN (cn := "KnobEye$Node") (by decide +kernel) ?_
    exact ⟨_, _, _, rfl, hx0, hf, hH, hx, by omega, by omega, (by dsimp only; omega), .inl ⟨rfl, (by dsimp only; omega)⟩⟩
  · have ge_b1 := Nat.le_trans hfo.1 ge_b1
    show et_go none _ 80 4 _ [.ref b1] _ (0 + c1) (0 + s1) _
    refine hs_astore (i := 1) (p := 5) (by decide +kernel) (Nat.le_of_ble_eq_true rfl) ?_
    refine hs_aload (i := 1) (p := 6) (by decide +kernel) rfl ?_
    refine hs_ifnonnull1 (p := 11) (by decide +kernel) ?_
    refine hs_aload (i := 0) (p := 12) (by decide +kernel) rfl ?_
    refine hs_gst (v := Value.ref 25) (p := 15) (by decide +kernel) ?_
    have lto_b1 := (hH.2.2 _ _ k_b1).1
    have hfo := hf
    refine ht_callv (T := et_TT) (t := 7) (mi := 78) (na := 1) (ci := 5) (lk := 4) (lm := 2) (L0 := eg_en (eg_mL 78) [.ref rd, .ref 25]) (by decide +kernel) rfl hH k_rd rfl rfl rfl rfl rfl (by rw [show eg_mL 78 = 2 from by decide +kernel]; first | done | rfl) ?_
    refine (pp_is hH k_rd hx (by omega) (hH.2.1 _ (by decide)) (by omega)).mono (fun u hu => pz_cb hu (fun K15 G15 v15 x15 f15 hH hA => ?_))
    have hx := (f15.2 rd 7 k_rd 8 rfl).trans hx
    have k_rd := x15 _ _ k_rd
    have k_b1 := x15 _ _ k_b1
    have hf := hf.tr hx0 (f15.wk (by decide +kernel))
    have hx0 := hx0.tr x15
    rcases hA with rfl | ⟨rfl, hi15⟩
    · show et_go none _ 80 18 _ [.int (Int32.ofNat 0)] _ (0 + c1) (0 + s1) _
      refine hs_istore (i := 2) (p := 19) (by decide +kernel) (Nat.le_of_ble_eq_true rfl) ?_
      refine hs_iload (i := 2) (p := 20) (by decide +kernel) rfl ?_
      refine hs_if0 (c := .ne) (t := 38) (f := 23) (by decide +kernel) (show ¬ (¬ Int32.ofNat 0 = 0) by decide) ?_
      refine hs_aload (i := 0) (p := 24) (by decide +kernel) rfl ?_
      refine hs_gst (v := Value.ref 26) (p := 27) (by decide +kernel) ?_
      have lto_b1 := (hH.2.2 _ _ k_b1).1
      have hfo := hf
      refine ht_callv (T := et_TT) (t := 7) (mi := 78) (na := 1) (ci := 5) (lk := 4) (lm := 2) (L0 := eg_en (eg_mL 78) [.ref rd, .ref 26]) (by decide +kernel) rfl hH k_rd rfl rfl rfl rfl rfl (by rw [show eg_mL 78 = 2 from by decide +kernel]; first | done | rfl) ?_
      refine (pp_is hH k_rd hx (by omega) (hH.2.1 _ (by decide)) (by omega)).mono (fun u hu => pz_cb hu (fun K27 G27 v27 x27 f27 hH hA => ?_))
      have hx := (f27.2 rd 7 k_rd 8 rfl).trans hx
      have k_rd := x27 _ _ k_rd
      have k_b1 := x27 _ _ k_b1
      have hf := hf.tr hx0 (f27.wk (by decide +kernel))
      have hx0 := hx0.tr x27
      rcases hA with rfl | ⟨rfl, hi27⟩
      · show et_go none _ 80 30 _ [.int (Int32.ofNat 0)] _ (0 + c1) (0 + s1) _
        refine hs_if0 (c := .ne) (t := 38) (f := 33) (by decide +kernel) (show ¬ (¬ Int32.ofNat 0 = 0) by decide) ?_
        refine hs_aload (i := 0) (p := 34) (by decide +kernel) rfl ?_
        have lto_b1 := (hH.2.2 _ _ k_b1).1
        have hfo := hf
        refine ht_callv (T := et_TT) (t := 7) (mi := 76) (na := 0) (ci := 5) (lk := 4) (lm := 1) (L0 := eg_en (eg_mL 76) [.ref rd]) (by decide +kernel) rfl hH k_rd rfl rfl rfl rfl rfl (by rw [show eg_mL 76 = 1 from by decide +kernel]; first | done | rfl) ?_
        refine (ep_c4 (K27, [], G27) [.ref rd] _ hH (by omega) rfl (ht_ac (.inr ⟨by decide, _, rfl, k_rd⟩) ht_an)).mono (fun u hu => hs_cbv hu (fun v34 K34 G34 c34 s34 x34 f34 hH hv34 cl34 sl34 => ?_))
        have hx := (f34.2 rd 7 k_rd 8 rfl).trans hx
        have k_rd := x34 _ _ k_rd
        have k_b1 := x34 _ _ k_b1
        have hf := hf.tr hx0 (f34.wk (by decide +kernel))
        have hx0 := hx0.tr x34
        obtain rfl : c34 = 0 := Nat.le_zero.mp cl34
        obtain rfl : s34 = 0 := Nat.le_zero.mp sl34
        obtain rfl : v34 = .null := hv34.elim (fun h => h.2) (fun h => absurd h.1 (by decide))
        show et_go none _ 80 37 _ [.null] _ (0 + c1) (0 + s1) _
        refine hs_aretN (cn := "KnobEye$Node") (by decide +kernel) ?_
        exact ⟨_, _, _, rfl, hx0, hf, hH, hx, by omega, by omega, (by dsimp only; omega), .inl ⟨rfl, (by dsimp only; omega)⟩⟩
      · show et_go none _ 80 30 _ [.int (Int32.ofNat 1)] _ (0 + c1) (0 + s1) _
        refine hs_if1 (c := .ne) (t := 38) (f := 33) (by decide +kernel) (show ¬ Int32.ofNat 1 = 0 by decide) ?_
        refine hs_aload (i := 0) (p := 39) (by decide +kernel) rfl ?_
        refine hs_dup1 (p := 40) (by decide +kernel) ?_
        refine ht_getn (T := et_TT) (t := 7) (ci := 5) (f := 8) (p := 43) (by decide +kernel) rfl rfl hH k_rd (fun c40 h40 e40 => ?_)
        have q40 : c40 = y1 := hb_cc e40 hx (by omega) (by omega)
        refine hs_k (x := Int32.ofNat 1) (p := 44) (by decide +kernel) ?_
        refine hs_iaddn (p := 45) (by decide +kernel) ?_
        refine ht_put (M := [(7, 8, 8)]) (T := et_TT) (t := 7) (ci := 5) (f := 8) (p := 48) (ty := .int) (by decide +kernel) rfl rfl rfl rfl rfl (by decide +kernel) hH k_rd (hi_nv (by omega) (by omega)) (fun G45 hH f45 e45 => ?_)
        have hf := hf.tr hx0 (f45.wk (by decide +kernel))
        have hx := e45
        refine ht_newN (p := 51) (by decide +kernel) (by omega) (by omega) hH (fun K48 G48 o48 x48 f48 hH k_o48 ge_o48 lt48 => ?_)
        have hx := (f48.2 rd 7 k_rd 8 rfl).trans hx
        have kq_b1 := k_b1
        have k_rd := x48 _ _ k_rd
        have k_b1 := x48 _ _ k_b1
        have lt_b1_o48 := lt48 _ _ kq_b1
        have ge_o48 := Nat.le_trans hf.1 ge_o48
        have hf := hf.tr hx0 (f48.wk (by decide +kernel))
        have hx0 := hx0.tr x48
        refine hs_dup1 (p := 52) (by decide +kernel) ?_
        refine hs_iload (i := 2) (p := 53) (by decide +kernel) rfl ?_
        refine hs_if1 (c := .eq) (t := 60) (f := 56) (by decide +kernel) (show Int32.ofNat 0 = 0 by decide) ?_
        refine hs_k (x := Int32.ofNat 5) (p := 61) (by decide +kernel) ?_
        have lto_b1 := (hH.2.2 _ _ k_b1).1
        have lto_o48 := (hH.2.2 _ _ k_o48).1
        have hfo := hf
        refine hs_callp (mi := 61) (na := 1) (lk := 4) (lm := 2) (L0 := eg_en (eg_mL 61) [.ref o48, .int (Int32.ofNat 5)]) (by decide +kernel) rfl rfl rfl rfl rfl (by rw [show eg_mL 61 = 2 from by decide +kernel]; first | done | rfl) ?_
        refine (hc_nod (K48, [], G48) [.ref o48, .int (Int32.ofNat 5)] _ hH (by omega) rfl (ht_ac (.inr ⟨by decide, _, rfl, k_o48⟩) (ht_ac hi_any ht_an))).mono (fun u hu => hs_cbn hu (fun K61 G61 c61 s61 x61 f61 hH cl61 sl61 => ?_))
        have hx := (f61.2 rd 7 k_rd 8 rfl).trans hx
        have k_rd := x61 _ _ k_rd
        have k_b1 := x61 _ _ k_b1
        have k_o48 := x61 _ _ k_o48
        have hf := hf.tr hx0 (f61.wk (by decide +kernel))
        have hx0 := hx0.tr x61
        obtain rfl : c61 = 0 := Nat.le_zero.mp cl61
        obtain rfl : s61 = 0 := Nat.le_zero.mp sl61
        show et_go none _ 80 64 _ [.ref o48] _ ((0 + c1) + 1) ((0 + s1) + 6) _
        refine hs_astore (i := 3) (p := 65) (by decide +kernel) (Nat.le_of_ble_eq_true rfl) ?_
        refine hs_aload (i := 3) (p := 66) (by decide +kernel) rfl ?_
        refine hs_aload (i := 1) (p := 67) (by decide +kernel) rfl ?_
        refine ht_put (M := [(6, 2, 2)]) (T := et_TT) (t := 6) (ci := 4) (f := 2) (p := 70) (ty := (.object "KnobEye$Node")) (by decide +kernel) rfl rfl rfl rfl rfl (by decide +kernel) hH k_o48 (.inr ⟨by decide, _, rfl, k_b1⟩) (fun G67 hH f67 e67 => ?_)
        have hf := hf.tr hx0 (f67.wk (by decide +kernel))
        have hx := (f67.2 rd 7 k_rd 8 rfl).trans hx
        refine hs_aload (i := 3) (p := 71) (by decide +kernel) rfl ?_
        refine hs_aload (i := 0) (p := 72) (by decide +kernel) rfl ?_
        have lto_b1 := (hH.2.2 _ _ k_b1).1
        have lto_o48 := (hH.2.2 _ _ k_o48).1
        have hfo := hf
        refine ht_callv (T := et_TT) (t := 7) (mi := 81) (na := 0) (ci := 5) (lk := 4) (lm := 6) (L0 := eg_en (eg_mL 81) [.ref rd]) (by decide +kernel) rfl hH k_rd rfl rfl rfl rfl rfl (by rw [show eg_mL 81 = 6 from by decide +kernel]; first | done | rfl) ?_
        refine (pp_sum hH k_rd hx (by omega) (by omega)).mono (fun u hu => pp_cb hu (fun K72 G72 v72 y72 c72 s72 x72 f72 hH hx hy72 hz72 hs72 hA => ?_))
        have k_rd := x72 _ _ k_rd
        have k_b1 := x72 _ _ k_b1
        have k_o48 := x72 _ _ k_o48
        have hf := hf.tr hx0 (f72.wk (by decide +kernel))
        have hx0 := hx0.tr x72
        rcases hA with ⟨rfl, hA72⟩ | ⟨b72, rfl, k_b72, ge_b72, hA72⟩
        · show et_go none _ 80 75 _ [.null, .ref o48] _ (((0 + c1) + 1) + c72) (((0 + s1) + 6) + s72) _
          refine ht_put (M := [(6, 3, 3)]) (T := et_TT) (t := 6) (ci := 4) (f := 3) (p := 78) (ty := (.object "KnobEye$Node")) (by decide +kernel) rfl rfl rfl rfl rfl (by decide +kernel) hH k_o48 (.inl ⟨by decide, rfl⟩) (fun G75 hH f75 e75 => ?_)
          have hf := hf.tr hx0 (f75.wk (by decide +kernel))
          have hx := (f75.2 rd 7 k_rd 8 rfl).trans hx
          refine hs_aload (i := 3) (p := 79) (by decide +kernel) rfl ?_
          refine ht_get (T := et_TT) (t := 6) (ci := 4) (f := 3) (p := 82) (by decide +kernel) rfl rfl rfl hH k_o48 (fun v79 h79 e79 => ?_)
          obtain rfl : v79 = .null := Option.some.inj (e79.symm.trans e75)
          refine hs_ifnonnull0 (p := 85) (by decide +kernel) ?_
          refine hs_nul (p := 86) (by decide +kernel) ?_
          refine hs_goto (p := 90) (by decide +kernel) ?_
          refine hs_aretN (cn := "KnobEye$Node") (by decide +kernel) ?_
          exact ⟨_, _, _, rfl, hx0, hf, hH, hx, by omega, by omega, (by dsimp only; omega), .inl ⟨rfl, (by dsimp only; omega)⟩⟩
        · have lt_b1_b72 : b1 < b72 := Nat.lt_of_lt_of_le lto_b1 ge_b72
          have lt_o48_b72 : o48 < b72 := Nat.lt_of_lt_of_le lto_o48 ge_b72
          have ge_b72 := Nat.le_trans hfo.1 ge_b72
          show et_go none _ 80 75 _ [.ref b72, .ref o48] _ (((0 + c1) + 1) + c72) (((0 + s1) + 6) + s72) _
          refine ht_put (M := [(6, 3, 3)]) (T := et_TT) (t := 6) (ci := 4) (f := 3) (p := 78) (ty := (.object "KnobEye$Node")) (by decide +kernel) rfl rfl rfl rfl rfl (by decide +kernel) hH k_o48 (.inr ⟨by decide, _, rfl, k_b72⟩) (fun G75 hH f75 e75 => ?_)
          have hf := hf.tr hx0 (f75.wk (by decide +kernel))
          have hx := (f75.2 rd 7 k_rd 8 rfl).trans hx
          refine hs_aload (i := 3) (p := 79) (by decide +kernel) rfl ?_
          refine ht_get (T := et_TT) (t := 6) (ci := 4) (f := 3) (p := 82) (by decide +kernel) rfl rfl rfl hH k_o48 (fun v79 h79 e79 => ?_)
          obtain rfl : v79 = .ref b72 := Option.some.inj (e79.symm.trans e75)
          refine hs_ifnonnull1 (p := 89) (by decide +kernel) ?_
          refine hs_aload (i := 3) (p := 90) (by decide +kernel) rfl ?_
          refine hs_aret (cn := "KnobEye$Node") (by decide +kernel) ?_
          exact ⟨_, _, _, rfl, hx0, hf, hH, hx, by omega, by omega, (by dsimp only; omega), .inr ⟨_, rfl, k_o48, by omega, (by dsimp only; omega)⟩⟩
    · show et_go none _ 80 18 _ [.int (Int32.ofNat 1)] _ (0 + c1) (0 + s1) _
      refine hs_istore (i := 2) (p := 19) (by decide +kernel) (Nat.le_of_ble_eq_true rfl) ?_
      refine hs_iload (i := 2) (p := 20) (by decide +kernel) rfl ?_
      refine hs_if1 (c := .ne) (t := 38) (f := 23) (by decide +kernel) (show ¬ Int32.ofNat 1 = 0 by decide) ?_
      refine hs_aload (i := 0) (p := 39) (by decide +kernel) rfl ?_
      refine hs_dup1 (p := 40) (by decide +kernel) ?_
      refine ht_getn (T := et_TT) (t := 7) (ci := 5) (f := 8) (p := 43) (by decide +kernel) rfl rfl hH k_rd (fun c40 h40 e40 => ?_)
      have q40 : c40 = y1 := hb_cc e40 hx (by omega) (by omega)
      refine hs_k (x := Int32.ofNat 1) (p := 44) (by decide +kernel) ?_
      refine hs_iaddn (p := 45) (by decide +kernel) ?_
      refine ht_put (M := [(7, 8, 8)]) (T := et_TT) (t := 7) (ci := 5) (f := 8) (p := 48) (ty := .int) (by decide +kernel) rfl rfl rfl rfl rfl (by decide +kernel) hH k_rd (hi_nv (by omega) (by omega)) (fun G45 hH f45 e45 => ?_)
      have hf := hf.tr hx0 (f45.wk (by decide +kernel))
      have hx := e45
      refine ht_newN (p := 51) (by decide +kernel) (by omega) (by omega) hH (fun K48 G48 o48 x48 f48 hH k_o48 ge_o48 lt48 => ?_)
      have hx := (f48.2 rd 7 k_rd 8 rfl).trans hx
      have kq_b1 := k_b1
      have k_rd := x48 _ _ k_rd
      have k_b1 := x48 _ _ k_b1
      have lt_b1_o48 := lt48 _ _ kq_b1
      have ge_o48 := Nat.le_trans hf.1 ge_o48
      have hf := hf.tr hx0 (f48.wk (by decide +kernel))
      have hx0 := hx0.tr x48
      refine hs_dup1 (p := 52) (by decide +kernel) ?_
      refine hs_iload (i := 2) (p := 53) (by decide +kernel) rfl ?_
      refine hs_if0 (c := .eq) (t := 60) (f := 56) (by decide +kernel) (show ¬ (Int32.ofNat 1 = 0) by decide) ?_
      refine hs_k (x := Int32.ofNat 4) (p := 57) (by decide +kernel) ?_
      refine hs_goto (p := 61) (by decide +kernel) ?_
      have lto_b1 := (hH.2.2 _ _ k_b1).1
      have lto_o48 := (hH.2.2 _ _ k_o48).1
      have hfo := hf
      refine hs_callp (mi := 61) (na := 1) (lk := 4) (lm := 2) (L0 := eg_en (eg_mL 61) [.ref o48, .int (Int32.ofNat 4)]) (by decide +kernel) rfl rfl rfl rfl rfl (by rw [show eg_mL 61 = 2 from by decide +kernel]; first | done | rfl) ?_
      refine (hc_nod (K48, [], G48) [.ref o48, .int (Int32.ofNat 4)] _ hH (by omega) rfl (ht_ac (.inr ⟨by decide, _, rfl, k_o48⟩) (ht_ac hi_any ht_an))).mono (fun u hu => hs_cbn hu (fun K61 G61 c61 s61 x61 f61 hH cl61 sl61 => ?_))
      have hx := (f61.2 rd 7 k_rd 8 rfl).trans hx
      have k_rd := x61 _ _ k_rd
      have k_b1 := x61 _ _ k_b1
      have k_o48 := x61 _ _ k_o48
      have hf := hf.tr hx0 (f61.wk (by decide +kernel))
      have hx0 := hx0.tr x61
      obtain rfl : c61 = 0 := Nat.le_zero.mp cl61
      obtain rfl : s61 = 0 := Nat.le_zero.mp sl61
      show et_go none _ 80 64 _ [.ref o48] _ ((0 + c1) + 1) ((0 + s1) + 6) _
      refine hs_astore (i := 3) (p := 65) (by decide +kernel) (Nat.le_of_ble_eq_true rfl) ?_
      refine hs_aload (i := 3) (p := 66) (by decide +kernel) rfl ?_
      refine hs_aload (i := 1) (p := 67) (by decide +kernel) rfl ?_
      refine ht_put (M := [(6, 2, 2)]) (T := et_TT) (t := 6) (ci := 4) (f := 2) (p := 70) (ty := (.object "KnobEye$Node")) (by decide +kernel) rfl rfl rfl rfl rfl (by decide +kernel) hH k_o48 (.inr ⟨by decide, _, rfl, k_b1⟩) (fun G67 hH f67 e67 => ?_)
      have hf := hf.tr hx0 (f67.wk (by decide +kernel))
      have hx := (f67.2 rd 7 k_rd 8 rfl).trans hx
      refine hs_aload (i := 3) (p := 71) (by decide +kernel) rfl ?_
      refine hs_aload (i := 0) (p := 72) (by decide +kernel) rfl ?_
      have lto_b1 := (hH.2.2 _ _ k_b1).1
      have lto_o48 := (hH.2.2 _ _ k_o48).1
      have hfo := hf
      refine ht_callv (T := et_TT) (t := 7) (mi := 81) (na := 0) (ci := 5) (lk := 4) (lm := 6) (L0 := eg_en (eg_mL 81) [.ref rd]) (by decide +kernel) rfl hH k_rd rfl rfl rfl rfl rfl (by rw [show eg_mL 81 = 6 from by decide +kernel]; first | done | rfl) ?_
      refine (pp_sum hH k_rd hx (by omega) (by omega)).mono (fun u hu => pp_cb hu (fun K72 G72 v72 y72 c72 s72 x72 f72 hH hx hy72 hz72 hs72 hA => ?_))
      have k_rd := x72 _ _ k_rd
      have k_b1 := x72 _ _ k_b1
      have k_o48 := x72 _ _ k_o48
      have hf := hf.tr hx0 (f72.wk (by decide +kernel))
      have hx0 := hx0.tr x72
      rcases hA with ⟨rfl, hA72⟩ | ⟨b72, rfl, k_b72, ge_b72, hA72⟩
      · show et_go none _ 80 75 _ [.null, .ref o48] _ (((0 + c1) + 1) + c72) (((0 + s1) + 6) + s72) _
        refine ht_put (M := [(6, 3, 3)]) (T := et_TT) (t := 6) (ci := 4) (f := 3) (p := 78) (ty := (.object "KnobEye$Node")) (by decide +kernel) rfl rfl rfl rfl rfl (by decide +kernel) hH k_o48 (.inl ⟨by decide, rfl⟩) (fun G75 hH f75 e75 => ?_)
        have hf := hf.tr hx0 (f75.wk (by decide +kernel))
        have hx := (f75.2 rd 7 k_rd 8 rfl).trans hx
        refine hs_aload (i := 3) (p := 79) (by decide +kernel) rfl ?_
        refine ht_get (T := et_TT) (t := 6) (ci := 4) (f := 3) (p := 82) (by decide +kernel) rfl rfl rfl hH k_o48 (fun v79 h79 e79 => ?_)
        obtain rfl : v79 = .null := Option.some.inj (e79.symm.trans e75)
        refine hs_ifnonnull0 (p := 85) (by decide +kernel) ?_
        refine hs_nul (p := 86) (by decide +kernel) ?_
        refine hs_goto (p := 90) (by decide +kernel) ?_
        refine hs_aretN (cn := "KnobEye$Node") (by decide +kernel) ?_
        exact ⟨_, _, _, rfl, hx0, hf, hH, hx, by omega, by omega, (by dsimp only; omega), .inl ⟨rfl, (by dsimp only; omega)⟩⟩
      · have lt_b1_b72 : b1 < b72 := Nat.lt_of_lt_of_le lto_b1 ge_b72
        have lt_o48_b72 : o48 < b72 := Nat.lt_of_lt_of_le lto_o48 ge_b72
        have ge_b72 := Nat.le_trans hfo.1 ge_b72
        show et_go none _ 80 75 _ [.ref b72, .ref o48] _ (((0 + c1) + 1) + c72) (((0 + s1) + 6) + s72) _
        refine ht_put (M := [(6, 3, 3)]) (T := et_TT) (t := 6) (ci := 4) (f := 3) (p := 78) (ty := (.object "KnobEye$Node")) (by decide +kernel) rfl rfl rfl rfl rfl (by decide +kernel) hH k_o48 (.inr ⟨by decide, _, rfl, k_b72⟩) (fun G75 hH f75 e75 => ?_)
        have hf := hf.tr hx0 (f75.wk (by decide +kernel))
        have hx := (f75.2 rd 7 k_rd 8 rfl).trans hx
        refine hs_aload (i := 3) (p := 79) (by decide +kernel) rfl ?_
        refine ht_get (T := et_TT) (t := 6) (ci := 4) (f := 3) (p := 82) (by decide +kernel) rfl rfl rfl hH k_o48 (fun v79 h79 e79 => ?_)
        obtain rfl : v79 = .ref b72 := Option.some.inj (e79.symm.trans e75)
        refine hs_ifnonnull1 (p := 89) (by decide +kernel) ?_
        refine hs_aload (i := 3) (p := 90) (by decide +kernel) rfl ?_
        refine hs_aret (cn := "KnobEye$Node") (by decide +kernel) ?_
        exact ⟨_, _, _, rfl, hx0, hf, hH, hx, by omega, by omega, (by dsimp only; omega), .inr ⟨_, rfl, k_o48, by omega, (by dsimp only; omega)⟩⟩
end PPB
